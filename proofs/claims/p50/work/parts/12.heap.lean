/-! fields, arrays, calls, ends, throws in the judgement EV -/
section ZH
variable {g : zG} {l : Launch} {mn : MethodName} {cc : ByteArray} {nL : Nat} {rt : Option FieldType} {dp : Nat} {hh : List (Nat × Nat × Nat × Nat)} {kb : Nat} {Q : zR → zS → Prop} {pc : Nat} {ls : List (Nat × Value)} {rest : List Value} {σ : zS}
theorem zws_o {o ci : Nat} {sl : List zK} (ho : o < 163) (hsh : zsh o = .inl (ci, sl)) : (zws g σ)[zpo o]? = some (zad g o, .inr (ci, zfs g σ o 0 sl)) := by rw [zws_at (zV_o ho hsh), zcell_o hsh]
theorem zws_a {o t n : Nat} (ho : o < 163) (hsh : zsh o = .inr (t, n)) (ht : t < 3) : (zws g σ)[zpo o]? = some (zad g o, .inl (g.2.1 t, n, .inl (σ.1 o))) := by rw [zws_at (zV_a ho hsh (by omega)), zcell_a hsh, zarr_i ht]
theorem zws_puti {o kx ci : Nat} {sl : List zK} {v : Int32} (ho : o < 163) (hsh : zsh o = .inl (ci, sl)) (hx : sl[kx]? = some none) : (zws g σ).set (zpo o) (zad g o, .inr (ci, (zfs g σ o 0 sl).set kx (.int v))) = zws g (zup σ o kx v) := by
  refine zws_put (zV_o ho hsh) ?_ (fun j hj => zcell_ne hj)
  rw [zcell_o hsh, zfs_set sl 0 kx hx, Nat.zero_add]
theorem zws_puta {o t n : Nat} {f : Nat → Int32} (ho : o < 163) (hsh : zsh o = .inr (t, n)) (ht : t < 3) : (zws g σ).set (zpo o) (zad g o, .inl (g.2.1 t, n, .inl f)) = zws g (zpt σ o f) := by
  refine zws_put (zV_a ho hsh (by omega)) ?_ (fun j hj => zcell_ne hj)
  rw [zcell_a hsh, zarr_i ht, zpt_at]
theorem e_get {o ci kx N idx : Nat} {sl : List zK} {C ref : String} {T : u_T} {x : zK} (hsh : zsh o = .inl (ci, sl)) (ho : o < 163) (hc : vwCl[ci]? = some (C, T, N)) (hk : kx < N) (hx : sl[kx]? = some x) (hin : ∀ w ∈ u_ws C T N, w ∈ zT)
    (hlink : Cond.fieldLink mn.cls idx ref (T kx).2.1 (T kx).2.2.1 ∈ zT) (hr : (T kx).1 = ref) (hdg : decode cc pc = .ok (.getfield idx, 3)) (z : EV g l (mn, cc, nL, rt, dp, hh) kb Q (pc + 3) ls (zkv g σ o kx x :: rest) σ) :
    EV g l (mn, cc, nL, rt, dp, hh) kb Q pc ls (.ref (zad g o) :: rest) σ := fun z1 z2 p e s m args below meth c R H locs cells slots la C0 hP hS hc0 hs hl => by
  have hv : (zfs g σ o 0 sl)[kx]? = some (zkv g σ o kx x) := by
    have h := zfs_get (g := g) (σ := σ) (o := o) sl 0 kx x hx
    rw [Nat.zero_add] at h; exact h
  exact va_get C0.1 C0.2.1 C0.2.2.2.2.2.1 hin C0.2.2.2.2.1 C0.2.2.2.2.2.2.2.2.2.2.2.1 hP (zpo o) (zws_o ho hsh) hc kx hk (C0.2.2.2.2.2.1 _ hlink) (fun q h => by rw [hr] at h; exact h) hv hdg (z z1 z2 p e s m args below meth c R H locs cells slots la C0 hP hS hc0 hs hl)
theorem e_put {o ci kx N idx : Nat} {sl : List zK} {C ref : String} {T : u_T} {ty0 : Nat → FieldType} {v : Int32} (hsh : zsh o = .inl (ci, sl)) (ho : o < 163) (hc : vwCl[ci]? = some (C, T, N)) (hk : kx < N) (hx : sl[kx]? = some none) (hin : ∀ w ∈ u_ws C T N, w ∈ zT)
    (hty : ∀ k, k < N → parseFieldDescriptor (T k).2.2.1 = some (ty0 k)) (hnm : ∀ a, a < N → ∀ b, b < N → a ≠ b → (T a).2.1 ≠ (T b).2.1) (hfin : (T kx).2.2.2 = false) (hn : narrow (ty0 kx) (.int v) = .int v) (hfit : fits (ty0 kx) (.int v) = true)
    (hlink : Cond.fieldLink mn.cls idx ref (T kx).2.1 (T kx).2.2.1 ∈ zT) (hr : (T kx).1 = ref) (hdg : decode cc pc = .ok (.putfield idx, 3)) (z : EV g l (mn, cc, nL, rt, dp, hh) kb Q (pc + 3) ls rest (zup σ o kx v)) :
    EV g l (mn, cc, nL, rt, dp, hh) kb Q pc ls (.int v :: .ref (zad g o) :: rest) σ := fun z1 z2 p e s m args below meth c R H locs cells slots la C0 hP hS hc0 hs hl => by
  have hlen : kx < (zfs g σ o 0 sl).length := by rw [zfs_len]; exact (List.getElem?_eq_some_iff.mp hx).1
  refine va_put C0.1 C0.2.1 C0.2.2.2.2.2.1 hin ty0 hty hnm C0.2.2.2.2.1 C0.2.2.2.2.2.2.2.2.2.2.2.1 hP (zD_va z2 σ) hS (zpo o) (zws_o ho hsh) hc kx hk (C0.2.2.2.2.2.1 _ hlink) (fun q h => by rw [hr] at h; exact h) hfin (hty kx hk) hn hfit hlen hdg (fun H1 locs1 hP1 _ hS1 => ?_)
  rw [zws_puti ho hsh hx] at hP1
  exact z z1 z2 p e s m args below meth c R H1 locs1 cells slots la C0 hP1 hS1 hc0 hs hl
theorem e_iald {o n : Nat} {i : Int32} (hsh : zsh o = .inr (0, n)) (ho : o < 163) (hin : vp_in i n) (hdg : decode cc pc = .ok (.iaload, 1)) (z : EV g l (mn, cc, nL, rt, dp, hh) kb Q (pc + 1) ls (.int (σ.1 o i.toNatClampNeg) :: rest) σ) :
    EV g l (mn, cc, nL, rt, dp, hh) kb Q pc ls (.int i :: .ref (zad g o) :: rest) σ := fun z1 z2 p e s m args below meth c R H locs cells slots la C0 hP hS hc0 hs hl =>
  va_iald C0.1 C0.2.1 C0.2.2.2.2.2.2.2.2.2.2.2.1 hP (zpo o) 0 (zws_a ho hsh (by omega)) rfl hin hdg (z z1 z2 p e s m args below meth c R H locs cells slots la C0 hP hS hc0 hs hl)
theorem e_bald {o n : Nat} {i : Int32} (hsh : zsh o = .inr (1, n)) (ho : o < 163) (hin : vp_in i n) (hdg : decode cc pc = .ok (.baload, 1)) (z : EV g l (mn, cc, nL, rt, dp, hh) kb Q (pc + 1) ls (.int (σ.1 o i.toNatClampNeg) :: rest) σ) :
    EV g l (mn, cc, nL, rt, dp, hh) kb Q pc ls (.int i :: .ref (zad g o) :: rest) σ := fun z1 z2 p e s m args below meth c R H locs cells slots la C0 hP hS hc0 hs hl =>
  va_bald C0.1 C0.2.1 C0.2.2.2.2.2.2.2.2.2.2.2.1 hP (zpo o) 1 (zws_a ho hsh (by omega)) rfl hin hdg (z z1 z2 p e s m args below meth c R H locs cells slots la C0 hP hS hc0 hs hl)
theorem e_zald {o n : Nat} {i : Int32} (hsh : zsh o = .inr (2, n)) (ho : o < 163) (hin : vp_in i n) (hdg : decode cc pc = .ok (.baload, 1)) (z : EV g l (mn, cc, nL, rt, dp, hh) kb Q (pc + 1) ls (.int (σ.1 o i.toNatClampNeg) :: rest) σ) :
    EV g l (mn, cc, nL, rt, dp, hh) kb Q pc ls (.int i :: .ref (zad g o) :: rest) σ := fun z1 z2 p e s m args below meth c R H locs cells slots la C0 hP hS hc0 hs hl =>
  va_zald C0.1 C0.2.1 C0.2.2.2.2.2.2.2.2.2.2.2.1 hP (zpo o) 2 (zws_a ho hsh (by omega)) rfl hin hdg (z z1 z2 p e s m args below meth c R H locs cells slots la C0 hP hS hc0 hs hl)
theorem e_iast {o n : Nat} {i v : Int32} (hsh : zsh o = .inr (0, n)) (ho : o < 163) (hin : vp_in i n) (hdg : decode cc pc = .ok (.iastore, 1)) (z : EV g l (mn, cc, nL, rt, dp, hh) kb Q (pc + 1) ls rest (zup σ o i.toNatClampNeg v)) :
    EV g l (mn, cc, nL, rt, dp, hh) kb Q pc ls (.int v :: .int i :: .ref (zad g o) :: rest) σ := fun z1 z2 p e s m args below meth c R H locs cells slots la C0 hP hS hc0 hs hl =>
  va_iast C0.1 C0.2.1 C0.2.2.2.2.2.2.2.2.2.2.2.1 hP (zD_va z2 σ) hS (zpo o) 0 (zws_a ho hsh (by omega)) rfl hin hdg (fun H1 locs1 hP1 _ hS1 => by
    rw [zws_puta ho hsh (by omega)] at hP1
    exact z z1 z2 p e s m args below meth c R H1 locs1 cells slots la C0 hP1 hS1 hc0 hs hl)
theorem e_bast {o n : Nat} {i v : Int32} (hsh : zsh o = .inr (1, n)) (ho : o < 163) (hin : vp_in i n) (hdg : decode cc pc = .ok (.bastore, 1)) (z : EV g l (mn, cc, nL, rt, dp, hh) kb Q (pc + 1) ls rest (zup σ o i.toNatClampNeg (vp_nar .byte v))) :
    EV g l (mn, cc, nL, rt, dp, hh) kb Q pc ls (.int v :: .int i :: .ref (zad g o) :: rest) σ := fun z1 z2 p e s m args below meth c R H locs cells slots la C0 hP hS hc0 hs hl =>
  va_bast C0.1 C0.2.1 C0.2.2.2.2.2.2.2.2.2.2.2.1 hP (zD_va z2 σ) hS (zpo o) 1 (zws_a ho hsh (by omega)) rfl hin hdg (fun H1 locs1 hP1 _ hS1 => by
    rw [zws_puta ho hsh (by omega)] at hP1
    exact z z1 z2 p e s m args below meth c R H1 locs1 cells slots la C0 hP1 hS1 hc0 hs hl)
theorem e_zast {o n : Nat} {i v : Int32} (hsh : zsh o = .inr (2, n)) (ho : o < 163) (hin : vp_in i n) (hdg : decode cc pc = .ok (.bastore, 1)) (z : EV g l (mn, cc, nL, rt, dp, hh) kb Q (pc + 1) ls rest (zup σ o i.toNatClampNeg (vp_nar .boolean v))) :
    EV g l (mn, cc, nL, rt, dp, hh) kb Q pc ls (.int v :: .int i :: .ref (zad g o) :: rest) σ := fun z1 z2 p e s m args below meth c R H locs cells slots la C0 hP hS hc0 hs hl =>
  va_zast C0.1 C0.2.1 C0.2.2.2.2.2.2.2.2.2.2.2.1 hP (zD_va z2 σ) hS (zpo o) 2 (zws_a ho hsh (by omega)) rfl hin hdg (fun H1 locs1 hP1 _ hS1 => by
    rw [zws_puta ho hsh (by omega)] at hP1
    exact z z1 z2 p e s m args below meth c R H1 locs1 cells slots la C0 hP1 hS1 hc0 hs hl)
theorem e_alen {o n : Nat} {v : Int32} (hsh : zsh o = .inr (0, n)) (ho : o < 163) (hv : Int32.ofNat n = v) (hdg : decode cc pc = .ok (.arraylength, 1)) (z : EV g l (mn, cc, nL, rt, dp, hh) kb Q (pc + 1) ls (.int v :: rest) σ) :
    EV g l (mn, cc, nL, rt, dp, hh) kb Q pc ls (.ref (zad g o) :: rest) σ := fun z1 z2 p e s m args below meth c R H locs cells slots la C0 hP hS hc0 hs hl =>
  va_alen C0.1 C0.2.1 C0.2.2.2.2.2.2.2.2.2.2.2.1 hP (zpo o) 0 (zws_a ho hsh (by omega)) rfl hv hdg (z z1 z2 p e s m args below meth c R H locs cells slots la C0 hP hS hc0 hs hl)
/-- kept[i], number[i] -/
theorem zws_17 : (zws g σ)[17]? = some (zad g 17, .inl (g.2.1 3, 6, .inr (.inr (.inr (.inr (fun k => some (zad g (103 + 10 * k)))))))) := by
  exact (zws_at (g := g) (σ := σ) (i := 17) (Or.inl (by decide))).trans (by rw [zcell_a (t := 3) (n := 6) rfl, zarr, if_pos rfl])
theorem zws_13 : (zws g σ)[13]? = some (zad g 13, .inl (g.2.1 4, 30, .inr (.inr (.inr (.inr (fun k => some (zad g (43 + k)))))))) := by
  exact (zws_at (g := g) (σ := σ) (i := 13) (Or.inl (by decide))).trans (by rw [zcell_a (t := 4) (n := 30) rfl, zarr, if_neg (by decide), if_pos rfl])
theorem e_aaldK {i : Int32} (hin : vp_in i 6) (hdg : decode cc pc = .ok (.aaload, 1)) (z : EV g l (mn, cc, nL, rt, dp, hh) kb Q (pc + 1) ls (.ref (zad g (103 + 10 * i.toNatClampNeg)) :: rest) σ) :
    EV g l (mn, cc, nL, rt, dp, hh) kb Q pc ls (.int i :: .ref (zad g 17) :: rest) σ := fun z1 z2 p e s m args below meth c R H locs cells slots la C0 hP hS hc0 hs hl =>
  va_aldq C0.1 C0.2.1 C0.2.2.2.2.2.2.2.2.2.2.2.1 hP 17 3 zws_17 rfl hin hdg (z z1 z2 p e s m args below meth c R H locs cells slots la C0 hP hS hc0 hs hl)
theorem e_aaldN {i : Int32} (hin : vp_in i 30) (hdg : decode cc pc = .ok (.aaload, 1)) (z : EV g l (mn, cc, nL, rt, dp, hh) kb Q (pc + 1) ls (.ref (zad g (43 + i.toNatClampNeg)) :: rest) σ) :
    EV g l (mn, cc, nL, rt, dp, hh) kb Q pc ls (.int i :: .ref (zad g 13) :: rest) σ := fun z1 z2 p e s m args below meth c R H locs cells slots la C0 hP hS hc0 hs hl => by
  have hlt : i.toNatClampNeg < 30 := Nat.not_le.mp fun q => hin (Or.inr q)
  have hcell : H[zad g 13]? = some (arrV (g.2.1 4) 30 (fun j => va_rf (some (zad g (43 + j))))) := hP 13 _ zws_13
  have hof : s.isArrayOf (arrV (g.2.1 4) 30 (fun j => va_rf (some (zad g (43 + j))))) (.array .int) := (C0.2.2.2.2.2.2.2.2.2.2.2.1.2 4 (g.2.1 4, .array .int) rfl).1 30 _
  refine W.aald (v := .ref (zad g (43 + i.toNatClampNeg))) (ty := .array .int) C0.1 C0.2.1 hcell hof rfl (fun q => by cases q) ?_ ?_ rfl rfl hdg (z z1 z2 p e s m args below meth c R H locs cells slots la C0 hP hS hc0 hs hl)
  · rw [arrV_size]; exact hin
  · rw [arrV_read _ _ hlt]; rfl
/-! ends -/
theorem e_iret {v : Int32} (hrt : rt = some .int) (hdg : decode cc pc = .ok (.ireturn, 1)) (z : Q (.inl (some (.int v))) σ) : EV g l (mn, cc, nL, rt, dp, hh) kb Q pc ls [.int v] σ := fun z1 z2 p e s m args below meth c R H locs cells slots la C0 hP hS hc0 hs hl =>
  vx_ret (W.widen (by omega) (by omega) (W.iret C0.1 C0.2.1 (C0.2.2.1.trans hrt) (fun t ht hw => ⟨⟨some (.int v), σ, rfl, z, by rw [ht]; exact hP⟩, hS.F ht⟩) hS.2.2 hdg C0.2.2.2.2.2.2.1))
theorem e_zret {v : Int32} {ty : FieldType} (hrt : rt = some ty) (hn : narrow ty (.int v) = .int v) (hdg : decode cc pc = .ok (.ireturn, 1)) (z : Q (.inl (some (.int v))) σ) : EV g l (mn, cc, nL, rt, dp, hh) kb Q pc ls [.int v] σ := fun z1 z2 p e s m args below meth c R H locs cells slots la C0 hP hS hc0 hs hl =>
  vx_ret (W.widen (by omega) (by omega) (W.zret C0.1 C0.2.1 (C0.2.2.1.trans hrt) hn (fun t ht hw => ⟨⟨some (.int v), σ, rfl, z, by rw [ht]; exact hP⟩, hS.F ht⟩) hS.2.2 hdg C0.2.2.2.2.2.2.1))
theorem e_vret (hrt : rt = none) (hdg : decode cc pc = .ok (.return_, 1)) (z : Q (.inl none) σ) : EV g l (mn, cc, nL, rt, dp, hh) kb Q pc ls [] σ := fun z1 z2 p e s m args below meth c R H locs cells slots la C0 hP hS hc0 hs hl =>
  vx_ret (W.widen (by omega) (by omega) (W.vret C0.1 C0.2.1 (C0.2.2.1.trans hrt) (fun t ht hw => ⟨⟨none, σ, rfl, z, by rw [ht]; exact hP⟩, hS.F ht⟩) hS.2.2 hdg C0.2.2.2.2.2.2.1))
theorem e_aret {a : Nat} {ty : FieldType} (hrt : rt = some ty) (hty : (∃ n, ty = .object n) ∨ ∃ t, ty = .array t) (hdg : decode cc pc = .ok (.areturn, 1)) (z : Q (.inl (some (.ref a))) σ) : EV g l (mn, cc, nL, rt, dp, hh) kb Q pc ls [.ref a] σ := fun z1 z2 p e s m args below meth c R H locs cells slots la C0 hP hS hc0 hs hl =>
  vx_ret (W.widen (by omega) (by omega) (W.aret C0.1 C0.2.1 (C0.2.2.1.trans hrt) hty (Or.inr ⟨a, rfl⟩) (fun t ht hw => ⟨⟨some (.ref a), σ, rfl, z, by rw [ht]; exact hP⟩, hS.F ht⟩) hS.2.2 hdg C0.2.2.2.2.2.2.1))
theorem e_fret {v : UInt32} (hrt : rt = some .float) (hdg : decode cc pc = .ok (.freturn, 1)) (z : Q (.inl (some (.float v))) σ) : EV g l (mn, cc, nL, rt, dp, hh) kb Q pc ls [.float v] σ := fun z1 z2 p e s m args below meth c R H locs cells slots la C0 hP hS hc0 hs hl =>
  vx_ret (W.widen (by omega) (by omega) (W.fret C0.1 C0.2.1 (C0.2.2.1.trans hrt) (fun t ht hw => ⟨⟨some (.float v), σ, rfl, z, by rw [ht]; exact hP⟩, hS.F ht⟩) hS.2.2 hdg C0.2.2.2.2.2.2.1))
theorem e_dret {v : UInt64} (hrt : rt = some .double) (hdg : decode cc pc = .ok (.dreturn, 1)) (z : Q (.inl (some (.double v))) σ) : EV g l (mn, cc, nL, rt, dp, hh) kb Q pc ls [.double v] σ := fun z1 z2 p e s m args below meth c R H locs cells slots la C0 hP hS hc0 hs hl =>
  vx_ret (W.widen (by omega) (by omega) (W.dret C0.1 C0.2.1 (C0.2.2.1.trans hrt) (fun t ht hw => ⟨⟨some (.double v), σ, rfl, z, by rw [ht]; exact hP⟩, hS.F ht⟩) hS.2.2 hdg C0.2.2.2.2.2.2.1))
end ZH
