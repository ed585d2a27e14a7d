/-! the law's two arrays: a long, a double -/
section ZOu
variable {g : zG} {l : Launch} {mn : MethodName} {cc : ByteArray} {nL : Nat} {rt : Option FieldType} {dp : Nat} {hh : List (Nat × Nat × Nat × Nat)} {kb : Nat} {Q : zR → zS → Prop} {pc : Nat} {ls : List (Nat × Value)} {rest : List Value} {σ : zS}
def zJ0 (x : zK) : Bool := match x with
  | some (.inr j) => j == 0
  | _ => true
theorem zfs_J1 {o : Nat} {v : Int64} : ∀ (l : List zK) (b : Nat), l.all zJ0 = true → zfs g (zupJ σ 1 v) o b l = zfs g σ o b l
  | [], _, _ => rfl
  | x :: r, b, h => by
    simp only [List.all_cons, Bool.and_eq_true] at h
    simp only [zfs]
    rw [zfs_J1 r (b + 1) h.2]
    congr 1
    match x, h.1 with
    | none, _ => rfl
    | some (.inl _), _ => rfl
    | some (.inr 0), _ => rfl
theorem zsh_J0 {j : Nat} {q : Nat × List zK} (h : zsh j = .inl q) : q.2.all zJ0 = true := by
  by_cases h1 : j < 43
  · have hd : ∀ j, j < 43 → (match zsh j with | .inl q => q.2.all zJ0 | .inr _ => true) = true := by decide +kernel
    have := hd j h1
    rw [h] at this
    exact this
  · unfold zsh at h
    rw [if_neg h1] at h
    by_cases h2 : j < 73
    · rw [if_pos h2] at h; cases h
    · rw [if_neg h2] at h
      by_cases h3 : (j - 73) % 10 = 0
      · rw [if_pos h3] at h; cases h; rfl
      · rw [if_neg h3] at h
        by_cases h4 : (j - 73) % 10 ≤ 5
        · rw [if_pos h4] at h; cases h
        · rw [if_neg h4] at h; cases h
theorem zsh_t {j : Nat} {q : Nat × Nat} (h : zsh j = .inr q) : (q.1 = 5 → j = 41) ∧ (q.1 = 6 → j = 42) := by
  by_cases h1 : j < 43
  · have hd : ∀ j, j < 43 → (match zsh j with | .inl _ => true | .inr q => (q.1 != 5 || j == 41) && (q.1 != 6 || j == 42)) = true := by decide +kernel
    have := hd j h1
    rw [h] at this
    simp at this
    omega
  · unfold zsh at h
    rw [if_neg h1] at h
    by_cases h2 : j < 73
    · rw [if_pos h2] at h; cases h; exact ⟨fun k => absurd k (by decide), fun k => absurd k (by decide)⟩
    · rw [if_neg h2] at h
      by_cases h3 : (j - 73) % 10 = 0
      · rw [if_pos h3] at h; cases h
      · rw [if_neg h3] at h
        by_cases h4 : (j - 73) % 10 ≤ 5
        · rw [if_pos h4] at h; cases h; exact ⟨fun k => absurd k (by decide), fun k => absurd k (by decide)⟩
        · rw [if_neg h4] at h; cases h; exact ⟨fun k => absurd k (by decide), fun k => absurd k (by decide)⟩
theorem zarr_ne {o t n : Nat} {v : Int64} (ht : t ≠ 5) : zarr g (zupJ σ 1 v) o t n = zarr g σ o t n := by
  unfold zarr
  by_cases h3 : t = 3
  · rw [if_pos h3, if_pos h3]
  · rw [if_neg h3, if_neg h3]
    by_cases h4 : t = 4
    · rw [if_pos h4, if_pos h4]
    · rw [if_neg h4, if_neg h4, if_neg ht, if_neg ht]
theorem zcell_J1 {v : Int64} {j : Nat} (hj : j ≠ 41) : zcell g (zupJ σ 1 v) j = zcell g σ j := by
  unfold zcell
  cases h : zsh j with
  | inl q => simp only; rw [zfs_J1 q.2 0 (zsh_J0 h)]
  | inr q =>
    simp only
    rw [zarr_ne (fun e => hj ((zsh_t h).1 e))]
theorem zws_41 : (zws g σ)[41]? = some (zad g 41, .inl (g.2.1 5, 1, .inr (.inl (fun k => σ.2.1 (k + 1))))) := by
  rw [zws_at (Nat.le_of_ble_eq_true rfl), zcell_a (t := 5) (n := 1) rfl, zarr, if_neg (by decide), if_neg (by decide), if_pos rfl]
theorem updL_1 {x : Int64} : vp_updL (fun k => σ.2.1 (k + 1)) 0 x = fun k => vp_updL σ.2.1 1 x (k + 1) := by
  funext k
  unfold vp_updL
  by_cases h : k = 0
  · rw [if_pos h, if_pos (by omega)]
  · rw [if_neg h, if_neg (by omega)]
/-- out[0] = x -/
theorem e_last {x : Int64} (hdg : decode cc pc = .ok (.lastore, 1)) (z : EV g l (mn, cc, nL, rt, dp, hh) kb Q (pc + 1) ls rest (zupJ σ 1 x)) :
    EV g l (mn, cc, nL, rt, dp, hh) kb Q pc ls (.long x :: .int 0 :: .ref (zad g 41) :: rest) σ := fun z1 z2 p e s m args below meth c R H locs cells slots la C0 hP hS hc0 hs hl =>
  va_last C0.1 C0.2.1 C0.2.2.2.2.2.2.2.2.2.2.2.1 hP (zD_va z2 σ) hS 41 5 zws_41 rfl (by exact iI_in (z := 0) (by omega) (by omega) (by omega)) hdg (fun H1 locs1 hP1 _ hS1 => by
    rw [show Int32.toNatClampNeg 0 = 0 from rfl, zws_put (τ := zupJ σ 1 x) (by omega) (by rw [zcell_a (t := 5) (n := 1) rfl, zarr, if_neg (by decide), if_neg (by decide), if_pos rfl, updL_1]) (fun j hj => zcell_J1 hj)] at hP1
    exact z z1 z2 p e s m args below meth c R H1 locs1 cells slots la C0 hP1 hS1 hc0 hs hl)
theorem e_lald (hdg : decode cc pc = .ok (.laload, 1)) (z : EV g l (mn, cc, nL, rt, dp, hh) kb Q (pc + 1) ls (.long (σ.2.1 1) :: rest) σ) :
    EV g l (mn, cc, nL, rt, dp, hh) kb Q pc ls (.int 0 :: .ref (zad g 41) :: rest) σ := fun z1 z2 p e s m args below meth c R H locs cells slots la C0 hP hS hc0 hs hl =>
  va_lald C0.1 C0.2.1 C0.2.2.2.2.2.2.2.2.2.2.2.1 hP 41 5 zws_41 rfl (by exact iI_in (z := 0) (by omega) (by omega) (by omega)) hdg (z z1 z2 p e s m args below meth c R H locs cells slots la C0 hP hS hc0 hs hl)
/-- the double anew -/
abbrev zupD (σ : zS) (v : UInt64) : zS := (σ.1, σ.2.1, vf_upd σ.2.2 0 v)
theorem zfs_D {o : Nat} {v : UInt64} : ∀ (l : List zK) (b : Nat), zfs g (zupD σ v) o b l = zfs g σ o b l
  | [], _ => rfl
  | x :: r, b => by
    simp only [zfs]
    rw [zfs_D r (b + 1)]
    congr 1
theorem zarr_D {o t n : Nat} {v : UInt64} (ht : t ≠ 6) : zarr g (zupD σ v) o t n = zarr g σ o t n := by
  unfold zarr
  by_cases h3 : t = 3
  · rw [if_pos h3, if_pos h3]
  · rw [if_neg h3, if_neg h3]
    by_cases h4 : t = 4
    · rw [if_pos h4, if_pos h4]
    · rw [if_neg h4, if_neg h4]
      by_cases h5 : t = 5
      · rw [if_pos h5, if_pos h5]
      · rw [if_neg h5, if_neg h5, if_neg ht, if_neg ht]
theorem zcell_D {v : UInt64} {j : Nat} (hj : j ≠ 42) : zcell g (zupD σ v) j = zcell g σ j := by
  unfold zcell
  cases h : zsh j with
  | inl q => simp only; rw [zfs_D]
  | inr q =>
    simp only
    rw [zarr_D (fun e => hj ((zsh_t h).2 e))]
theorem zws_42 : (zws g σ)[42]? = some (zad g 42, .inl (g.2.1 6, 1, .inr (.inr (.inr (.inl σ.2.2))))) := by
  rw [zws_at (Nat.le_of_ble_eq_true rfl), zcell_a (t := 6) (n := 1) rfl, zarr, if_neg (by decide), if_neg (by decide), if_neg (by decide), if_pos rfl]
theorem e_dald (hdg : decode cc pc = .ok (.daload, 1)) (z : EV g l (mn, cc, nL, rt, dp, hh) kb Q (pc + 1) ls (.double (σ.2.2 0) :: rest) σ) :
    EV g l (mn, cc, nL, rt, dp, hh) kb Q pc ls (.int 0 :: .ref (zad g 42) :: rest) σ := fun z1 z2 p e s m args below meth c R H locs cells slots la C0 hP hS hc0 hs hl =>
  va_dald C0.1 C0.2.1 C0.2.2.2.2.2.2.2.2.2.2.2.1 hP 42 6 zws_42 rfl (by exact iI_in (z := 0) (by omega) (by omega) (by omega)) hdg (z z1 z2 p e s m args below meth c R H locs cells slots la C0 hP hS hc0 hs hl)
theorem e_dast {x : UInt64} (hdg : decode cc pc = .ok (.dastore, 1)) (z : EV g l (mn, cc, nL, rt, dp, hh) kb Q (pc + 1) ls rest (zupD σ x)) :
    EV g l (mn, cc, nL, rt, dp, hh) kb Q pc ls (.double x :: .int 0 :: .ref (zad g 42) :: rest) σ := fun z1 z2 p e s m args below meth c R H locs cells slots la C0 hP hS hc0 hs hl =>
  va_dast C0.1 C0.2.1 C0.2.2.2.2.2.2.2.2.2.2.2.1 hP (zD_va z2 σ) hS 42 6 zws_42 rfl (by exact iI_in (z := 0) (by omega) (by omega) (by omega)) hdg (fun H1 locs1 hP1 _ hS1 => by
    rw [show Int32.toNatClampNeg 0 = 0 from rfl, zws_put (τ := zupD σ x) (by omega) (by rw [zcell_a (t := 6) (n := 1) rfl, zarr, if_neg (by decide), if_neg (by decide), if_neg (by decide), if_pos rfl]) (fun j hj => zcell_D hj)] at hP1
    exact z z1 z2 p e s m args below meth c R H1 locs1 cells slots la C0 hP1 hS1 hc0 hs hl)
end ZOu
