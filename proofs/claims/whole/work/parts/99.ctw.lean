/-! a contract of a method that catches, out of its body -/
section ZCw
variable {g : zG} {l : Launch} {Q : zR → zS → Prop} {σ : zS}
def CTW (g : zG) (l : Launch) (M : zM) (k : Nat) (av : List Value) (σ : zS) (Q : zR → zS → Prop) : Prop :=
  l.stackTraces = false → zD g → vx_Met l M.1 (Cond.codeWith M.1 M.2.1 M.2.2.1 M.2.2.2.1 M.2.2.2.2.2 :: zT) (zRm M k) (zPc g av σ) (zQc g Q) (zXc g Q) k (6 * k) (zA g)
theorem CTW_of {M : zM} {k : Nat} {av : List Value} (hy : plainName M.1.cls = true) (hlen : (lg_sl av).length ≤ M.2.2.1) (h : EV g l M k Q 0 (lv_args 0 av) [] σ) : CTW g l M k av σ Q := fun z1 z2 => by
  refine vx_ofWH (cc := M.2.1) (maxL := M.2.2.1) (ret := M.2.2.2.1) (hh := M.2.2.2.2.2) hy rfl ?_
  intro p e s m args below meth c s₁ B hml hv
  obtain ⟨rfl, hB, hP, hK, hX⟩ := hv
  have hts := atoms_spec (ws := Cond.codeWith M.1 M.2.1 M.2.2.1 M.2.2.2.1 M.2.2.2.2.2 :: zT) B.pre
  have C0 : zCx g M p s m av.toArray meth c (headSpec (Cond.codeWith M.1 M.2.1 M.2.2.1 M.2.2.2.1 M.2.2.2.2.2 :: zT) (zRm M k)).room :=
    ⟨B.exec, B.bytes, B.returns, hml, findClass_of_methodNamed B.named, fun w hw => hts w (List.mem_cons_of_mem _ hw), B.notSynchronized, vx_table (x := M.1) B (hts _ List.mem_cons_self), Nat.le_refl _, Nat.le_refl _, hB, hK, hX⟩
  have hl := lv_entry av (n := M.2.2.1) hlen
  rw [lg_entry_eq]
  exact h z1 z2 p e s m av.toArray below meth c _ s.heap [] 0 0 _ C0 hP va_S.rf (by simp [headSpec, zRm]) (by simp [headSpec, zRm]) hl
def zInW (N : zM) (n : Nat) : Prop := Cond.codeWith N.1 N.2.1 N.2.2.1 N.2.2.2.1 N.2.2.2.2.2 ∈ zT ∧ Cond.initialized N.1.cls ∈ zT ∧ (N.1.cls ≠ "java/lang/invoke/MethodHandle" ∧ N.1.cls ≠ "java/lang/invoke/VarHandle") ∧ (parseMethodDescriptor N.1.desc).map (fun d => d.parameters.length) = some n ∧ N.2.2.1 ≤ 21
theorem e_callSW {kb : Nat} {pc : Nat} {ls : List (Nat × Value)} {rest : List Value} {mn : MethodName} {cc : ByteArray} {nL : Nat} {rt : Option FieldType} {dp : Nat} {N : zM} {j1 j2 n idx : Nat} {av : List Value} {Qc : zR → zS → Prop} {st : List Value} (hst : st = av.reverse ++ rest) (hct : CTW g l N j1 av σ Qc) (hi : zInW N n) (hn : av.length = n) (hstat : Cond.static N.1 ∈ zT) (hlink : Cond.methodLink mn.cls idx N.1 ∈ zT)
    (hd : N.2.2.2.2.1 + 1 ≤ dp) (hj : j1 + j2 ≤ kb) (hW : (rest.map fun v => v.category).sum ≤ 8) (hdg : decode cc pc = .ok (.invokestatic idx, 3))
    (kk : ∀ (v : Option Value) (σ' : zS), Qc (.inl v) σ' → EV g l (mn, cc, nL, rt, dp, []) j2 Q (pc + 3) ls (v.toList ++ rest) σ') (kx : ∀ (E : String) (σ' : zS), Qc (.inr E) σ' → Q (.inr E) σ') :
    EV g l (mn, cc, nL, rt, dp, []) kb Q pc ls st σ := fun z1 z2 p e s m args below meth c R H locs cells slots la C0 hP hS hc0 hs hl => by
  subst hst
  have h1 := hi.2.2.2.2
  have f1 : dp ≤ R.frames := C0.2.2.2.2.2.2.2.2.1
  have f2 : 40 * dp ≤ R.locals := C0.2.2.2.2.2.2.2.2.2.1
  have hr : (zRm N j1).frames + 1 ≤ R.frames ∧ 8 + (N.2.2.1 + 11) + (zRm N j1).locals ≤ R.locals := by
    simp only [zRm]
    omega
  have hg : GoodIn zT (va_wsS mn.cls idx N.1 (Cond.codeWith N.1 N.2.1 N.2.2.1 N.2.2.2.1 N.2.2.2.2.2 :: zT)) := fun w hw => by
    have hm : w ∈ zT := by
      simp only [va_wsS, List.mem_append, List.mem_cons, List.not_mem_nil, or_false] at hw
      rcases hw with hw | hw
      · rcases hw with rfl | rfl | rfl
        all_goals first | exact hi.2.1 | exact hlink | exact hstat
      · rcases hw with rfl | hw
        · exact hi.1
        · exact hw
    exact ⟨hm, zT_good hm⟩
  have cb := vx_cwSW (R := R) (own := mn.cls) (index := idx) (mc := j1) (ms := 6 * j1) (rm := zRm N j1) n C0.2.2.2.2.2.1 hg rfl rfl rfl ⟨hi.2.2.1.1, hi.2.2.1.2, hi.2.2.2.1⟩ hr
  exact zc_run z1 z2 C0 rfl hS hj hc0 hs hl (vx_runSX (g := F0 m pc la (av.reverse ++ rest)) (rest := rest) (As := av) ⟨C0.1, C0.2.1, C0.2.2.2.1, C0.2.2.2.2.1, C0.2.2.2.2.2.1⟩ (hct z1 z2) cb ⟨zPc_blind, zc_pre C0 hP hS⟩ rfl hn hl.1 rfl (lv_room hW) hdg ⟨by omega, by omega⟩) kx kk
end ZCw
