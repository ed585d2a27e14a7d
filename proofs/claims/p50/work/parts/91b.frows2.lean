/-! texts: constants or made; copies; arrays in arrays -/
def tA (G : fG) (ω : fW) (a va n : Nat) (f : Nat → Int32) : Prop :=
  (∃ h z : Int32, ω a = some (.inr (0, [.ref va, .int 0, .int h, .int z])) ∧ ω va = some (.inl (G.1.2.1 1, n, .inl f))) ∨ (∃ i : Nat, i < 15 ∧ a = G.1.2.2.2.2.1 i ∧ va = G.1.2.2.2.2.2 i ∧ n = zLen.getD i 0 ∧ f = fun j => (zByt.getD i []).getD j 0)
theorem tA.le {G : fG} {ω ω' : fW} {a va n : Nat} {f : Nat → Int32} (hl : fle ω ω') (h : tA G ω a va n f) : tA G ω' a va n f := by
  rcases h with ⟨x, z, h1, h2⟩ | h
  · exact Or.inl ⟨x, z, hl _ _ h1, hl _ _ h2⟩
  · exact Or.inr h
section FT
variable {G : fG} {l : Launch} {mn : MethodName} {cc : ByteArray} {nL : Nat} {rt : Option FieldType} {dp : Nat} {hh : List (Nat × Nat × Nat × Nat)} {kb : Nat} {Q : Option Value → fS → Prop} {pc : Nat} {ls : List (Nat × Value)} {rest : List Value} {o : Option zS} {ω : fW}
theorem f_tval {a va n : Nat} {f : Nat → Int32} (h : tA G ω a va n f) (hm : mn.cls = RJ0) (hdg : decode cc pc = .ok (.getfield 9, 3)) (z : FV G l (mn, cc, nL, rt, dp, hh) kb Q (pc + 3) ls (.ref va :: rest) (o, ω)) : FV G l (mn, cc, nL, rt, dp, hh) kb Q pc ls (.ref a :: rest) (o, ω) := by
  rcases h with ⟨x, y, h1, h2⟩ | ⟨i, hi, rfl, rfl, rfl, rfl⟩
  · exact f_get (ci := 0) (kx := 0) (N := 4) (C := RJ0) (ref := RJ0) (T := TJ0) rfl (by decide) zinf_0 (by rw [hm]; exact (show Cond.fieldLink RJ0 9 RJ0 (TJ0 0).2.1 (TJ0 0).2.2.1 ∈ zT from ql_J0_9)) (fun _ _ _ _ h => h) h1 rfl hdg z
  · exact fun z1 p e s m args below meth c R H locs cells slots la C0 hP hS hc0 hs hl =>
      vk_getf C0.1 C0.2.1 (((fXs C0).1.2.2.2.2.2.2.1.1 i hi).2.2.1) hS C0.2.2.2.2.1 (C0.2.2.2.2.2.1 _ (by rw [show (mn, cc, nL, rt, dp, hh).1.cls = RJ0 from hm]; exact ql_J0_9)) (fun _ h => h) hdg (z z1 p e s m args below meth c R H locs cells slots la C0 hP hS hc0 hs hl)
theorem f_tcod {a va n : Nat} {f : Nat → Int32} (h : tA G ω a va n f) (hm : mn.cls = RJ0) (hdg : decode cc pc = .ok (.getfield 15, 3)) (z : FV G l (mn, cc, nL, rt, dp, hh) kb Q (pc + 3) ls (.int 0 :: rest) (o, ω)) : FV G l (mn, cc, nL, rt, dp, hh) kb Q pc ls (.ref a :: rest) (o, ω) := by
  rcases h with ⟨x, y, h1, h2⟩ | ⟨i, hi, rfl, rfl, rfl, rfl⟩
  · exact f_get (ci := 0) (kx := 1) (N := 4) (C := RJ0) (ref := RJ0) (T := TJ0) rfl (by decide) zinf_0 (by rw [hm]; exact (show Cond.fieldLink RJ0 15 RJ0 (TJ0 1).2.1 (TJ0 1).2.2.1 ∈ zT from ql_J0_15)) (fun _ _ _ _ h => h) h1 rfl hdg z
  · exact fun z1 p e s m args below meth c R H locs cells slots la C0 hP hS hc0 hs hl =>
      vk_getf C0.1 C0.2.1 (((fXs C0).1.2.2.2.2.2.2.1.1 i hi).2.1) hS C0.2.2.2.2.1 (C0.2.2.2.2.2.1 _ (by rw [show (mn, cc, nL, rt, dp, hh).1.cls = RJ0 from hm]; exact ql_J0_15)) (fun _ h => h) hdg (z z1 p e s m args below meth c R H locs cells slots la C0 hP hS hc0 hs hl)
theorem f_tlen {a va n : Nat} {f : Nat → Int32} (h : tA G ω a va n f) (hdg : decode cc pc = .ok (.arraylength, 1)) (z : FV G l (mn, cc, nL, rt, dp, hh) kb Q (pc + 1) ls (.int (nI n) :: rest) (o, ω)) : FV G l (mn, cc, nL, rt, dp, hh) kb Q pc ls (.ref va :: rest) (o, ω) := by
  rcases h with ⟨x, y, h1, h2⟩ | ⟨i, hi, rfl, rfl, rfl, rfl⟩
  · exact f_alen (t := 1) (ty := .byte) rfl h2 rfl hdg z
  · exact fun z1 p e s m args below meth c R H locs cells slots la C0 hP hS hc0 hs hl =>
      va_tlen C0.1 C0.2.1 (((fXs C0).1.2.2.2.2.2.2.1.1 i hi).2.2.2) hS rfl hdg (z z1 p e s m args below meth c R H locs cells slots la C0 hP hS hc0 hs hl)
theorem f_tbald {a va n : Nat} {f : Nat → Int32} {i : Int32} (h : tA G ω a va n f) (hin : vp_in i n) (hdg : decode cc pc = .ok (.baload, 1)) (z : FV G l (mn, cc, nL, rt, dp, hh) kb Q (pc + 1) ls (.int (f i.toNatClampNeg) :: rest) (o, ω)) : FV G l (mn, cc, nL, rt, dp, hh) kb Q pc ls (.int i :: .ref va :: rest) (o, ω) := by
  rcases h with ⟨x, y, h1, h2⟩ | ⟨j, hj, rfl, rfl, rfl, rfl⟩
  · exact f_bald h2 hin hdg z
  · exact fun z1 p e s m args below meth c R H locs cells slots la C0 hP hS hc0 hs hl =>
      va_tb C0.1 C0.2.1 (((fXs C0).1.2.2.2.2.2.2.1.1 j hj).2.2.2) hS hin rfl hdg (z z1 p e s m args below meth c R H locs cells slots la C0 hP hS hc0 hs hl)
/-- System.arraycopy among bytes -/
theorem f_copyB {a0 a n0 n1 idx : Nat} {f g : Nat → Int32} {sp dq n : Int32} (ha0 : ω a0 = some (.inl (G.1.2.1 1, n0, .inl f))) (ha : ω a = some (.inl (G.1.2.1 1, n1, .inl g))) (hlink : Cond.methodLink mn.cls idx arraycopyName ∈ zT)
    (hsp : ¬ sp < 0) (hdq : ¬ dq < 0) (hn : ¬ n < 0) (h4 : sp.toNatClampNeg + n.toNatClampNeg ≤ n0) (h5 : dq.toNatClampNeg + n.toNatClampNeg ≤ n1) (hfit : ∀ i, i < n.toNatClampNeg → fits .byte (.int (f (sp.toNatClampNeg + i))) = true) (hd : 2 ≤ dp) (hW : (rest.map fun v => v.category).sum ≤ 8)
    (hdg : decode cc pc = .ok (.invokestatic idx, 3)) (z : FV G l (mn, cc, nL, rt, dp, hh) kb Q (pc + 3) ls rest (o, fup ω a (.inl (G.1.2.1 1, n1, .inl (va_cpy f g sp.toNatClampNeg dq.toNatClampNeg n.toNatClampNeg))))) :
    FV G l (mn, cc, nL, rt, dp, hh) kb Q pc ls (.int n :: .int dq :: .ref a :: .int sp :: .ref a0 :: rest) (o, ω) := fun z1 p e s m args below meth c R H locs cells slots la C0 hP hS hc0 hs hl => by
  have h2 := fRo C0
  have hw : nativeFrameWords "java/lang/System" "arraycopy" 5 ≤ 60 := by decide +kernel
  obtain ⟨ws, h1, h2', h3⟩ := hP
  obtain ⟨k, hk1, hk2⟩ := fP.get (S := (o, ω)) h3 ha
  obtain ⟨k0, hk3, -⟩ := fP.get (S := (o, ω)) h3 ha0
  exact va_copyi C0.1 C0.2.1 (C0.2.2.2.1.trans hl.1.symm) C0.2.2.2.2.1 (C0.2.2.2.2.2.1 _ hlink) (C0.2.2.2.2.2.1 _ mn_copy) (C0.2.2.2.2.2.1 _ ms_copy) (C0.2.2.2.2.2.1 _ mi_system) (fK C0) h1 h2' hS _ _ 1 1 hk3 hk1 rfl rfl rfl hsp hdq hn h4 h5 hfit (by omega) (by omega) hdg (fun H1 locs1 hP1 hD1 hS1 => z z1 p e s m args below meth c R H1 locs1 cells slots la C0 (fP.set h2' h3 hk2 hP1 hD1) hS1 hc0 hs hl)
theorem f_tcopy {b a0 a n0 n1 idx : Nat} {f g : Nat → Int32} {sp dq n : Int32} (ht : tA G ω b a0 n0 f) (ha : ω a = some (.inl (G.1.2.1 1, n1, .inl g))) (hlink : Cond.methodLink mn.cls idx arraycopyName ∈ zT)
    (hsp : ¬ sp < 0) (hdq : ¬ dq < 0) (hn : ¬ n < 0) (h4 : sp.toNatClampNeg + n.toNatClampNeg ≤ n0) (h5 : dq.toNatClampNeg + n.toNatClampNeg ≤ n1) (hfit : ∀ i, i < n.toNatClampNeg → fits .byte (.int (f (sp.toNatClampNeg + i))) = true) (hd : 2 ≤ dp) (hW : (rest.map fun v => v.category).sum ≤ 8)
    (hdg : decode cc pc = .ok (.invokestatic idx, 3)) (z : FV G l (mn, cc, nL, rt, dp, hh) kb Q (pc + 3) ls rest (o, fup ω a (.inl (G.1.2.1 1, n1, .inl (va_cpy f g sp.toNatClampNeg dq.toNatClampNeg n.toNatClampNeg))))) :
    FV G l (mn, cc, nL, rt, dp, hh) kb Q pc ls (.int n :: .int dq :: .ref a :: .int sp :: .ref a0 :: rest) (o, ω) := by
  rcases ht with ⟨x, y, h1, h2⟩ | ⟨i, hi, rfl, rfl, rfl, rfl⟩
  · exact f_copyB h2 ha hlink hsp hdq hn h4 h5 hfit hd hW hdg z
  · exact fun z1 p e s m args below meth c R H locs cells slots la C0 hP hS hc0 hs hl => by
      have h2 := fRo C0
      have hw : nativeFrameWords "java/lang/System" "arraycopy" 5 ≤ 60 := by decide +kernel
      obtain ⟨ws, h1, h2', h3⟩ := hP
      obtain ⟨k, hk1, hk2⟩ := fP.get (S := (o, ω)) h3 ha
      exact vk_copyt C0.1 C0.2.1 (C0.2.2.2.1.trans hl.1.symm) C0.2.2.2.2.1 (C0.2.2.2.2.2.1 _ hlink) (C0.2.2.2.2.2.1 _ mn_copy) (C0.2.2.2.2.2.1 _ ms_copy) (C0.2.2.2.2.2.1 _ mi_system) (fK C0) h1 h2' hS (((fXs C0).1.2.2.2.2.2.2.1.1 i hi).2.2.2) _ 1 hk1 rfl hsp hdq hn h4 h5 hfit (by omega) (by omega) hdg (fun H1 locs1 hP1 hD1 hS1 => z z1 p e s m args below meth c R H1 locs1 cells slots la C0 (fP.set h2' h3 hk2 hP1 hD1) hS1 hc0 hs hl)
theorem f_any0 {p : Program} {s : State} {m : MethodId} {args : Array Value} {meth : Method} {c : Code} {R : Room} {M : zM} {H : Heap} {v : Nat} {x : vp_A} (C0 : FCx G M p s m args meth c R) (hP : fP G (o, ω) H) (ha : ω v = some (.inl (G.1.2.1 0, x))) : va_Any fOE s H v := by
  obtain ⟨ws, h1, h2', h3⟩ := hP
  obtain ⟨k, hk1, -⟩ := fP.get (S := (o, ω)) h3 ha
  have hcell : H[v]? = some (vp_cell (G.1.2.1 0) x) := h1 _ _ hk1
  have hnm : s.vm.findClass "[I" = some (G.1.2.1 0) := by
    have := ((fK C0).2 0 (G.1.2.1 0, .int) rfl).2
    rw [← fnm_I]; exact this
  obtain ⟨c0, t1, f1, f2, f3⟩ := Cond.castable_spec (va_Nw.use (A := args) rfl (fXs C0).2.2.2.2.2.2.2.1.1)
  have e0 : c0 = G.1.2.1 0 := Option.some.inj (f1.symm.trans hnm)
  subst e0
  obtain ⟨kC, hkC, -⟩ := Vm.findClass_spec hnm
  refine ⟨_, hcell, ?_, ⟨kC, ?_⟩, fun comp hc => ?_⟩
  · obtain ⟨n, y⟩ := x
    rcases y with y | y | y | y | y <;> rfl
  · obtain ⟨n, y⟩ := x
    rcases y with y | y | y | y | y <;> exact hkC
  · have e1 : t1 = comp := Option.some.inj (f2.symm.trans hc)
    subst e1
    obtain ⟨n, y⟩ := x
    rcases y with y | y | y | y | y <;> exact f3
/-- an int row into a row of objects -/
theorem f_aast5 {a v n : Nat} {f : Nat → Option Nat} {i : Int32} {y : vp_A} (ha : ω a = some (.inl (G.1.2.1 5, n, .inr (.inr (.inr (.inr f)))))) (hin : vp_in i n) (hv : ω v = some (.inl (G.1.2.1 0, y))) (hdg : decode cc pc = .ok (.aastore, 1))
    (z : FV G l (mn, cc, nL, rt, dp, hh) kb Q (pc + 1) ls rest (o, fup ω a (.inl (G.1.2.1 5, n, .inr (.inr (.inr (.inr (va_up f i.toNatClampNeg (some v))))))))) : FV G l (mn, cc, nL, rt, dp, hh) kb Q pc ls (.ref v :: .int i :: .ref a :: rest) (o, ω) := fun z1 p e s m args below meth c R H locs cells slots la C0 hP hS hc0 hs hl => by
  have hany := f_any0 C0 hP hv
  obtain ⟨ws, h1, h2, h3⟩ := hP
  obtain ⟨k, hk1, hk2⟩ := fP.get (S := (o, ω)) h3 ha
  exact va_astqM C0.1 C0.2.1 (fK C0) h1 h2 hS _ 5 hk1 rfl hany hin hdg (fun H1 locs1 hP1 hD1 hS1 => z z1 p e s m args below meth c R H1 locs1 cells slots la C0 (fP.set h2 h3 hk2 hP1 hD1) hS1 hc0 hs hl)
/-- an int row into a row of int rows -/
theorem f_aast4 {a v n : Nat} {f : Nat → Option Nat} {i : Int32} {y : vp_A} (ha : ω a = some (.inl (G.1.2.1 4, n, .inr (.inr (.inr (.inr f)))))) (hin : vp_in i n) (hv : ω v = some (.inl (G.1.2.1 0, y))) (hdg : decode cc pc = .ok (.aastore, 1))
    (z : FV G l (mn, cc, nL, rt, dp, hh) kb Q (pc + 1) ls rest (o, fup ω a (.inl (G.1.2.1 4, n, .inr (.inr (.inr (.inr (va_up f i.toNatClampNeg (some v))))))))) : FV G l (mn, cc, nL, rt, dp, hh) kb Q pc ls (.ref v :: .int i :: .ref a :: rest) (o, ω) := fun z1 p e s m args below meth c R H locs cells slots la C0 hP hS hc0 hs hl => by
  have hlt : i.toNatClampNeg < n := Nat.not_le.mp fun q => hin (Or.inr q)
  have h0 : ¬ i < 0 := fun q => hin (Or.inl q)
  obtain ⟨cellV, g1, g3, ⟨kV, hkV⟩, -⟩ := f_any0 C0 hP hv
  obtain ⟨ws, h1, h2, h3⟩ := hP
  obtain ⟨k, hk1, hk2⟩ := fP.get (S := (o, ω)) h3 ha
  obtain ⟨kv, hkv1, -⟩ := fP.get (S := (o, ω)) h3 hv
  have hcv : cellV.cls = G.1.2.1 0 := by
    have : H[v]? = some (vp_cell (G.1.2.1 0) y) := h1 _ _ hkv1
    rw [this] at g1
    cases g1
    obtain ⟨n, y⟩ := y
    rcases y with y | y | y | y | y <;> rfl
  obtain ⟨comp, c0, kA, e1, -, e3, e4, e5⟩ := ao_spec (args := args) (first := s) (o := none) (idx := []) (va_AOA.use (fXs C0).2.1.2.1)
  have ec : s.vm.findClass ("[" ++ (FieldType.array .int).toString) = some (G.1.2.1 4) := ((fK C0).2 4 (G.1.2.1 4, .array .int) rfl).2
  have ec0 : c0 = G.1.2.1 4 := Option.some.inj (e5.symm.trans ec)
  subst ec0
  have ecomp : comp = G.1.2.1 0 := Option.some.inj (e1.symm.trans ((fK C0).2 0 (G.1.2.1 0, .int) rfl).2)
  subst ecomp
  refine W.aast C0.1 C0.2.1 (h1 _ _ hk1) (fun q h => by cases h) (fun h => by cases h) e3 e4 rfl (by rw [hcv] at hkV; exact hkV) ⟨h0, by show _ < (arrV _ _ _).slots.size; rw [arrV_size]; exact hlt⟩ g1 (fun q h => by rw [h] at g3; cases g3) hkV (by rw [hcv]; exact va_asg _ _) rfl rfl hdg fun H1 e1 ez oq => ?_
  have hP1 : va_P G.1.1 vwCl ((fbs G o ++ ws).set ((fbs G o).length + k) (a, .inl (G.1.2.1 4, n, .inr (.inr (.inr (.inr (va_up f i.toNatClampNeg (some v)))))))) H1 := h1.set h2 hk1 (by
    show H1[a]? = some (vp_cell _ _)
    rw [e1]
    show some ((vp_cell (G.1.2.1 4) (n, .inr (.inr (.inr (.inr f))))).setSlot _ _) = _
    rw [vp_cell_q, vp_cell_q, arrV_store]
    congr 2
    funext q
    by_cases hq : q = i.toNatClampNeg
    · subst hq
      simp [updV, va_up, va_rf]
    · simp [updV, va_up, hq]) oq
  exact z z1 p e s m args below meth c R H1 _ cells slots la C0 (fP.set h2 h3 hk2 hP1 (h2.set hk1)) (hS.put ez oq (h2.2 _ _ hk1)) hc0 hs hl
/-- System.arraycopy among rows of objects that are int rows -/
theorem f_copyQ {a0 a n0 n1 idx : Nat} {f g : Nat → Option Nat} {sp dq n : Int32} (ha0 : ω a0 = some (.inl (G.1.2.1 5, n0, .inr (.inr (.inr (.inr f)))))) (ha : ω a = some (.inl (G.1.2.1 5, n1, .inr (.inr (.inr (.inr g)))))) (hlink : Cond.methodLink mn.cls idx arraycopyName ∈ zT)
    (hsp : ¬ sp < 0) (hdq : ¬ dq < 0) (hn : ¬ n < 0) (h4 : sp.toNatClampNeg + n.toNatClampNeg ≤ n0) (h5 : dq.toNatClampNeg + n.toNatClampNeg ≤ n1) (hel : ∀ i : Nat, i < n.toNatClampNeg → ∀ y : Nat, f (sp.toNatClampNeg + i) = some y → ∃ x, ω y = some (.inl (G.1.2.1 0, x))) (hd : 2 ≤ dp) (hW : (rest.map fun v => v.category).sum ≤ 8)
    (hdg : decode cc pc = .ok (.invokestatic idx, 3)) (z : FV G l (mn, cc, nL, rt, dp, hh) kb Q (pc + 3) ls rest (o, fup ω a (.inl (G.1.2.1 5, n1, .inr (.inr (.inr (.inr (va_cpy f g sp.toNatClampNeg dq.toNatClampNeg n.toNatClampNeg)))))))) :
    FV G l (mn, cc, nL, rt, dp, hh) kb Q pc ls (.int n :: .int dq :: .ref a :: .int sp :: .ref a0 :: rest) (o, ω) := fun z1 p e s m args below meth c R H locs cells slots la C0 hP hS hc0 hs hl => by
  have h2 := fRo C0
  have hw : nativeFrameWords "java/lang/System" "arraycopy" 5 ≤ 60 := by decide +kernel
  have hany : ∀ i : Nat, i < n.toNatClampNeg → ∀ y : Nat, f (sp.toNatClampNeg + i) = some y → va_Any fOE s H y := fun i hi y hy => by
    obtain ⟨x, hx⟩ := hel i hi y hy
    exact f_any0 C0 hP hx
  obtain ⟨ws, h1, h2', h3⟩ := hP
  obtain ⟨k, hk1, hk2⟩ := fP.get (S := (o, ω)) h3 ha
  obtain ⟨k0, hk3, -⟩ := fP.get (S := (o, ω)) h3 ha0
  exact va_copyM C0.1 C0.2.1 (C0.2.2.2.1.trans hl.1.symm) C0.2.2.2.2.1 (C0.2.2.2.2.2.1 _ hlink) (C0.2.2.2.2.2.1 _ mn_copy) (C0.2.2.2.2.2.1 _ ms_copy) (C0.2.2.2.2.2.1 _ mi_system) (fK C0) h1 h2' hS _ _ 5 5 hk3 hk1 rfl rfl hsp hdq hn h4 h5 hany (by omega) (by omega) hdg (fun H1 locs1 hP1 hD1 hS1 => z z1 p e s m args below meth c R H1 locs1 cells slots la C0 (fP.set h2' h3 hk2 hP1 hD1) hS1 hc0 hs hl)
/-- the class object of a row of objects -/
theorem fnm_Q : "[" ++ (FieldType.object fOE).toString = "[Ljava/lang/Object;" := by decide +kernel
theorem f_getC {a n idx : Nat} {f : Nat → Option Nat} (ha : ω a = some (.inl (G.1.2.1 5, n, .inr (.inr (.inr (.inr f)))))) (hlink : Cond.methodLink mn.cls idx ⟨"java/lang/Object", "getClass", "()Ljava/lang/Class;"⟩ ∈ zT) (hsel : Cond.selects "[Ljava/lang/Object;" ⟨"java/lang/Object", "getClass", "()Ljava/lang/Class;"⟩ ⟨"java/lang/Object", "getClass", "()Ljava/lang/Class;"⟩ ∈ zT) (hinst : Cond.instanceMethod ⟨"java/lang/Object", "getClass", "()Ljava/lang/Class;"⟩ ∈ zT) (hnat : Cond.native ⟨"java/lang/Object", "getClass", "()Ljava/lang/Class;"⟩ ∈ zT) (hd : 1 ≤ dp) (hW : (rest.map fun v => v.category).sum ≤ 8)
    (hdg : decode cc pc = .ok (.invokevirtual idx, 3)) (z : FV G l (mn, cc, nL, rt, dp, hh) kb Q (pc + 3) ls (.ref (G.1.2.2.2.2.2 103) :: rest) (o, ω)) : FV G l (mn, cc, nL, rt, dp, hh) kb Q pc ls (.ref a :: rest) (o, ω) := fun z1 p e s m args below meth c R H locs cells slots la C0 hP hS hc0 hs hl => by
  have h2 := fRo C0
  obtain ⟨ws, h1, h2', h3⟩ := id hP
  obtain ⟨k, hk1, -⟩ := fP.get (S := (o, ω)) h3 ha
  have hcell : H[a]? = some (vp_cell (G.1.2.1 5) (n, .inr (.inr (.inr (.inr f))))) := h1 _ _ hk1
  exact va_getC C0.1 C0.2.1 (C0.2.2.2.1.trans hl.1.symm) C0.2.2.2.2.1 (C0.2.2.2.2.2.1 _ hlink) (va_Nw.use rfl (fXs C0).2.2.2.2.2.2.2.1.2.2.2) (C0.2.2.2.2.2.1 _ hsel) (C0.2.2.2.2.2.1 _ hinst) (C0.2.2.2.2.2.1 _ hnat) (fXs C0).2.2.2.2.2.1 ⟨_, hcell, rfl, va_nmO ((fK C0).2 5 (G.1.2.1 5, .object fOE) rfl).2 fnm_Q⟩ (by omega) (by omega) hdg (z z1 p e s m args below meth c R H locs cells slots la C0 hP hS hc0 hs hl)
/-- the copy of a row of bytes, and the cast behind it -/
theorem fnm_B : "[" ++ (FieldType.byte).toString = "[B" := by decide +kernel
theorem f_cloneB {a n idx u kb' : Nat} {f : Nat → Int32} (ha : ω a = some (.inl (G.1.2.1 1, n, .inl f))) (hfit : ∀ i, i < n → fits .byte (.int (f i)) = true) (hlink : Cond.methodLink mn.cls idx ⟨"[B", "clone", "()Ljava/lang/Object;"⟩ ∈ zT) (hsame : Cond.sameMethod "[B" "java/lang/Object" "clone" "()Ljava/lang/Object;" ∈ zT) (hnat : Cond.native ⟨"java/lang/Object", "clone", "()Ljava/lang/Object;"⟩ ∈ zT) (hinst : Cond.instanceMethod ⟨"java/lang/Object", "clone", "()Ljava/lang/Object;"⟩ ∈ zT) (hsel : Cond.selects "[B" ⟨"[B", "clone", "()Ljava/lang/Object;"⟩ ⟨"java/lang/Object", "clone", "()Ljava/lang/Object;"⟩ ∈ zT)
    (hd : 1 ≤ dp) (hW : (rest.map fun v => v.category).sum ≤ 8) (hk : kb' + u ≤ kb) (hu : 1 ≤ u ∧ n ≤ 12 * u) (hdg : decode cc pc = .ok (.invokevirtual idx, 3))
    (z : ∀ q : Nat, ω q = none → FV G l (mn, cc, nL, rt, dp, hh) kb' Q (pc + 3) ls (.ref q :: rest) (o, fup ω q (.inl (G.1.2.1 1, n, .inl f)))) : FV G l (mn, cc, nL, rt, dp, hh) kb Q pc ls (.ref a :: rest) (o, ω) := fun z1 p e s m args below meth c R H locs cells slots la C0 hP hS hc0 hs hl => by
  have h2 := fRo C0
  obtain ⟨ws, h1, h2', h3⟩ := hP
  obtain ⟨k, hk1, -⟩ := fP.get (S := (o, ω)) h3 ha
  have hnm : s.vm.findClass "[B" = some (G.1.2.1 1) := by
    have := ((fK C0).2 1 (G.1.2.1 1, .byte) rfl).2
    rw [← fnm_B]; exact this
  refine va_clone C0.1 C0.2.1 (C0.2.2.2.1.trans hl.1.symm) C0.2.2.2.2.1 (C0.2.2.2.2.2.1 _ hlink) (C0.2.2.2.2.2.1 _ hsame) (C0.2.2.2.2.2.1 _ hnat) (C0.2.2.2.2.2.1 _ hinst) (C0.2.2.2.2.2.1 _ hsel) (fXs C0).2.2.2.2.2.2.2.1.2.2.1 (fK C0) h1 h2' hS (fAn C0) _ 1 hk1 rfl hnm (fun i v hv => ?_) (by omega) (by omega) (by omega) (by show slots + n ≤ _; omega) hdg (fun q H1 hK1 hP1 hD1 hS1 => ?_)
  · have hv : (arrV (G.1.2.1 1) n (fun j => .int (f j))).slots[i]? = some v := hv
    by_cases hi : i < n
    · have hr := arrV_read (G.1.2.1 1) (fun j => Value.int (f j)) hi
      rw [hr] at hv
      cases hv
      exact hfit i hi
    · have : (arrV (G.1.2.1 1) n (fun j => Value.int (f j))).slots.size ≤ i := by rw [arrV_size]; omega
      rw [Array.getElem?_eq_none this] at hv
      cases hv
  · obtain ⟨hn', hP2⟩ := fP.new h3 hP1 hD1
    exact z q hn' z1 p e s m args below meth c R H1 locs (cells + 1) (slots + n) la C0 hP2 hS1 (by omega) (by omega) hl
theorem f_cast1 {a index : Nat} {x : vp_A} (hlink : Cond.classLink mn.cls index "[B" ∈ zT) (ha : ω a = some (.inl (G.1.2.1 1, x))) (hdg : decode cc pc = .ok (.checkcast index, 3))
    (z : FV G l (mn, cc, nL, rt, dp, hh) kb Q (pc + 3) ls (.ref a :: rest) (o, ω)) : FV G l (mn, cc, nL, rt, dp, hh) kb Q pc ls (.ref a :: rest) (o, ω) :=
  f_castA (t := 1) (ty := .byte) hlink rfl (fun U cA h => by rw [← fnm_B]; exact h) ha hdg z
/-- a call on a text -/
theorem f_callT {N : zM} {j1 j2 n idx b va tn : Nat} {f : Nat → Int32} {av st : List Value} {Qc : Option Value → fS → Prop} (hst : st = av.reverse ++ .ref b :: rest) (ht : tA G ω b va tn f) (hq : N.1.cls = RJ0) (hct : FC G l N j1 (.ref b :: av) (o, ω) Qc) (hi : zIn N n) (hn : av.length = n)
    (hinst : Cond.instanceMethod N.1 ∈ zT) (hsel : Cond.selects RJ0 N.1 N.1 ∈ zT) (hlink : Cond.methodLink mn.cls idx N.1 ∈ zT)
    (hd : N.2.2.2.2.1 + 1 ≤ dp) (hj : j1 + j2 ≤ kb) (hW : (rest.map fun v => v.category).sum ≤ 8) (hdg : decode cc pc = .ok (.invokevirtual idx, 3))
    (kk : ∀ (v : Option Value) (S' : fS), Qc v S' → FV G l (mn, cc, nL, rt, dp, hh) j2 Q (pc + 3) ls (v.toList ++ rest) S') :
    FV G l (mn, cc, nL, rt, dp, hh) kb Q pc ls st (o, ω) := by
  rcases ht with ⟨x, y, h1, h2⟩ | ⟨i, hi15, rfl, rfl, rfl, rfl⟩
  · exact f_callV (C := RJ0) (j1 := j1) (j2 := j2) hst h1 rfl rfl hct hi hn hinst hsel hlink hd hj hW hdg kk
  · exact fun z1 p e s m args below meth c R H locs cells slots la C0 hP hS hc0 hs hl => by
      subst hst
      have cb := callB_of (R := R) (own := mn.cls) (index := idx) (mc := j1) (ms := 12 * j1) (rm := fRm N j1) n C0.2.2.2.2.2.1 (zT_goodIn hi.1) rfl rfl rfl (C0.2.2.2.2.2.1 _ hi.2.1) (C0.2.2.2.2.2.1 _ hlink) ⟨hi.2.2.1.1, hi.2.2.1.2, hi.2.2.2.1⟩ (f_room C0 hi hd)
      exact f_run z1 C0 hS hj hc0 hs hl (va_runV (g := F0 m pc la (av.reverse ++ .ref (G.1.2.2.2.2.1 i) :: rest)) (rest := rest) (As := av) (b := G.1.2.2.2.2.1 i) (C := RJ0) (f_fix C0) (hct z1) ⟨cb, C0.2.2.2.2.2.1 _ hinst, C0.2.2.2.2.2.1 _ hsel⟩ ⟨fPc_blind, vk_recv (fXs C0).1.2.2.2.2.2.2.1 hi15 hS, f_pre C0 hP hS⟩ rfl hn hl.1 rfl (lv_room hW) hdg ⟨by omega, by omega⟩) kk
theorem f_callTi {N : zM} {j1 j2 n idx b va tn : Nat} {f : Nat → Int32} {av st : List Value} {K : Int32 → Option zS → fW → Prop} (hst : st = av.reverse ++ .ref b :: rest) (ht : tA G ω b va tn f) (hq : N.1.cls = RJ0) (hct : FC G l N j1 (.ref b :: av) (o, ω) (fQi K)) (hi : zIn N n) (hn : av.length = n)
    (hinst : Cond.instanceMethod N.1 ∈ zT) (hsel : Cond.selects RJ0 N.1 N.1 ∈ zT) (hlink : Cond.methodLink mn.cls idx N.1 ∈ zT)
    (hd : N.2.2.2.2.1 + 1 ≤ dp) (hj : j1 + j2 ≤ kb) (hW : (rest.map fun v => v.category).sum ≤ 8) (hdg : decode cc pc = .ok (.invokevirtual idx, 3))
    (kk : ∀ (x : Int32) (o1 : Option zS) (ω1 : fW), K x o1 ω1 → FV G l (mn, cc, nL, rt, dp, hh) j2 Q (pc + 3) ls (.int x :: rest) (o1, ω1)) :
    FV G l (mn, cc, nL, rt, dp, hh) kb Q pc ls st (o, ω) := f_callT (j1 := j1) (j2 := j2) hst ht hq hct hi hn hinst hsel hlink hd hj hW hdg (fun v S' h => by obtain ⟨x, rfl, h⟩ := h; exact kk x _ _ h)
theorem f_callTv {N : zM} {j1 j2 n idx b va tn : Nat} {f : Nat → Int32} {av st : List Value} {K : Option zS → fW → Prop} (hst : st = av.reverse ++ .ref b :: rest) (ht : tA G ω b va tn f) (hq : N.1.cls = RJ0) (hct : FC G l N j1 (.ref b :: av) (o, ω) (fQv K)) (hi : zIn N n) (hn : av.length = n)
    (hinst : Cond.instanceMethod N.1 ∈ zT) (hsel : Cond.selects RJ0 N.1 N.1 ∈ zT) (hlink : Cond.methodLink mn.cls idx N.1 ∈ zT)
    (hd : N.2.2.2.2.1 + 1 ≤ dp) (hj : j1 + j2 ≤ kb) (hW : (rest.map fun v => v.category).sum ≤ 8) (hdg : decode cc pc = .ok (.invokevirtual idx, 3))
    (kk : ∀ (o1 : Option zS) (ω1 : fW), K o1 ω1 → FV G l (mn, cc, nL, rt, dp, hh) j2 Q (pc + 3) ls rest (o1, ω1)) :
    FV G l (mn, cc, nL, rt, dp, hh) kb Q pc ls st (o, ω) := f_callT (j1 := j1) (j2 := j2) hst ht hq hct hi hn hinst hsel hlink hd hj hW hdg (fun v S' h => by obtain ⟨rfl, h⟩ := h; exact kk _ _ h)
end FT
