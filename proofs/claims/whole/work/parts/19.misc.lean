theorem vil {x : Int32} {n : Nat} (h : 0 ≤ x.toInt ∧ x.toInt < n) : vp_in x n := vp_in_iff.mpr h
def znoJ (x : zK) : Bool := match x with
  | some (.inr _) => false
  | _ => true
theorem zfs_noJ {g : zG} {σ : zS} {o : Nat} {v : Int64} : ∀ (l : List zK) (b : Nat), l.all znoJ = true → zfs g (zupJ σ 0 v) o b l = zfs g σ o b l
  | [], _, _ => rfl
  | x :: r, b, h => by
    simp only [List.all_cons, Bool.and_eq_true] at h
    simp only [zfs]
    rw [zfs_noJ r (b + 1) h.2]
    congr 1
    match x, h.1 with
    | none, _ => rfl
    | some (.inl _), _ => rfl
theorem zsh_noJ {j : Nat} (hj : j ≠ 24) {q : Nat × List zK} (h : zsh j = .inl q) : q.2.all znoJ = true := by
  by_cases h1 : j < 43
  · have hd : ∀ j, j < 43 → j ≠ 24 → (match zsh j with | .inl q => q.2.all znoJ | .inr _ => true) = true := by decide +kernel
    have := hd j h1 hj
    rw [h] at this
    exact this
  · unfold zsh at h
    rw [if_neg h1] at h
    by_cases h2 : j < 73
    · rw [if_pos h2] at h; cases h
    · rw [if_neg h2] at h
      by_cases h3 : (j - 73) % 10 = 0
      · rw [if_pos h3] at h; cases h; rfl
      · rw [if_neg h3] at h
        by_cases h4 : (j - 73) % 10 ≤ 5
        · rw [if_pos h4] at h; cases h
        · rw [if_neg h4] at h; cases h
theorem zcell_J {g : zG} {σ : zS} {v : Int64} {j : Nat} (hj : j ≠ 24) : zcell g (zupJ σ 0 v) j = zcell g σ j := by
  unfold zcell
  cases h : zsh j with
  | inl q => simp only; rw [zfs_noJ q.2 0 (zsh_noJ hj h)]
  | inr q => rfl
theorem fpJ_X7_102 {g : zG} {l : Launch} {mn : MethodName} {cc : ByteArray} {nL : Nat} {rt : Option FieldType} {dp : Nat} {hh : List (Nat × Nat × Nat × Nat)} {kb : Nat} {Q : zR → zS → Prop} {pc : Nat} {ls : List (Nat × Value)} {rest : List Value} {σ : zS} {v : Int64} (hm : mn.cls = RX7) (hdg : decode cc pc = .ok (.putfield 102, 3)) (z : EV g l (mn, cc, nL, rt, dp, hh) kb Q (pc + 3) ls rest (zupJ σ 0 v)) :
    EV g l (mn, cc, nL, rt, dp, hh) kb Q pc ls (.long v :: .ref (zad g 24) :: rest) σ := fun z1 z2 p e s m args below meth c R H locs cells slots la C0 hP hS hc0 hs hl => by
  refine va_put (ty := .long) C0.1 C0.2.1 C0.2.2.2.2.2.1 zin_7 tyX7 tyX7_ok nmX7 C0.2.2.2.2.1 C0.2.2.2.2.2.2.2.2.2.2.2.1 hP (zD_va z2 σ) hS 24 (zws_o (sl := zk_M) (by omega) rfl) (ci := 7) (C := RX7) (T := TX7) (N := 36) rfl 12 (by decide) (C0.2.2.2.2.2.1 _ (show Cond.fieldLink (mn, cc, nL, rt, dp, hh).1.cls 102 RX7 (TX7 12).2.1 (TX7 12).2.2.1 ∈ zT by rw [show (mn, cc, nL, rt, dp, hh).1.cls = RX7 from hm]; exact ql_X7_102)) (fun q h => h) rfl (by decide +kernel) rfl rfl (by rw [zfs_len]; decide) hdg (fun H1 locs1 hP1 _ hS1 => ?_)
  rw [zws_put (τ := zupJ σ 0 v) (by omega) (by rw [zcell_o (ci := 7) (l := zk_M) rfl]; rfl) (fun j hj => zcell_J hj)] at hP1
  exact z z1 z2 p e s m args below meth c R H1 locs1 cells slots la C0 hP1 hS1 hc0 hs hl
