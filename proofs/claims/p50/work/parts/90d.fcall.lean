/-! the law's side: calls -/
theorem zT_gi {L : List Cond} (h : ∀ w ∈ L, w ∈ zT) : GoodIn zT L := fun w hw => ⟨h w hw, zT_good (h w hw)⟩
theorem zT_c4 {a b c d : Cond} {L : List Cond} (ha : a ∈ zT) (hb : b ∈ zT) (hc : c ∈ zT) (hd : d ∈ zT) (hL : ∀ w ∈ L, w ∈ zT) : ∀ w ∈ ([a, b, c, d] : List Cond) ++ L, w ∈ zT := fun w hw => by
  rcases List.mem_append.mp hw with h | h
  · simp only [List.mem_cons, List.not_mem_nil, or_false] at h
    rcases h with rfl | rfl | rfl | rfl <;> assumption
  · exact hL w h
theorem zT_c5 {a b c d e : Cond} {L : List Cond} (ha : a ∈ zT) (hb : b ∈ zT) (hc : c ∈ zT) (hd : d ∈ zT) (he : e ∈ zT) (hL : ∀ w ∈ L, w ∈ zT) : ∀ w ∈ ([a, b, c, d, e] : List Cond) ++ L, w ∈ zT := fun w hw => by
  rcases List.mem_append.mp hw with h | h
  · simp only [List.mem_cons, List.not_mem_nil, or_false] at h
    rcases h with rfl | rfl | rfl | rfl | rfl <;> assumption
  · exact hL w h
theorem zT_c6 {a b c d e f : Cond} {L : List Cond} (ha : a ∈ zT) (hb : b ∈ zT) (hc : c ∈ zT) (hd : d ∈ zT) (he : e ∈ zT) (hf : f ∈ zT) (hL : ∀ w ∈ L, w ∈ zT) : ∀ w ∈ ([a, b, c, d, e, f] : List Cond) ++ L, w ∈ zT := fun w hw => by
  rcases List.mem_append.mp hw with h | h
  · simp only [List.mem_cons, List.not_mem_nil, or_false] at h
    rcases h with rfl | rfl | rfl | rfl | rfl | rfl <;> assumption
  · exact hL w h
theorem zT_cc {N : zM} (h : Cond.code N.1 N.2.1 N.2.2.1 N.2.2.2.1 ∈ zT) : ∀ w ∈ Cond.code N.1 N.2.1 N.2.2.1 N.2.2.2.1 :: zT, w ∈ zT := fun w hw => (List.mem_cons.mp hw).elim (fun e => e ▸ h) id
section FCa
variable {G : fG} {l : Launch} {mn : MethodName} {cc : ByteArray} {nL : Nat} {rt : Option FieldType} {dp : Nat} {hh : List (Nat × Nat × Nat × Nat)} {kb : Nat} {Q : Option Value → fS → Prop} {pc : Nat} {ls : List (Nat × Value)} {rest : List Value} {o : Option zS} {ω : fW} {S : fS}
theorem fPc_blind {av : List Value} : FrameBlind (fPc G av S) := fun a U g' mk ⟨h1, h2, h3, h4, h5⟩ => ⟨h1, h2, h3, va_K.moved (u := U) (U := U.calling g' mk a) (Vm.Alike.refl U.vm) h4, fX_move (s := U) (U := U.calling g' mk a) (State.WarmedH.refl U) (Nat.le_refl _) (fun _ _ _ => rfl) h5⟩
theorem f_pre {M : zM} {p : Program} {s : State} {m : MethodId} {args : Array Value} {meth : Method} {c : Code} {R : Room} {H : Heap} {locs : List Loc} {av : List Value} (C0 : FCx G M p s m args meth c R) (hP : fP G S H) (hS : va_S (fA G) s.heap H locs) :
    ∀ U : State, U.heap = H → s.WarmedH U.vm → fPc G av S av.toArray U := fun U hU hW =>
  ⟨rfl, by rw [hU]; exact Nat.le_trans C0.2.2.2.2.2.2.2.2.2.2.1 hS.1, by rw [hU]; exact hP, va_K.moved hW.alike (fK C0), by rw [hU]; exact fX_move hW hS.1 hS.2.1 (fXs C0)⟩
theorem f_room {N : zM} {p : Program} {s : State} {m : MethodId} {args : Array Value} {meth : Method} {c : Code} {R : Room} {n j : Nat} (C0 : FCx G (mn, cc, nL, rt, dp, hh) p s m args meth c R) (hi : zIn N n) (hd : N.2.2.2.2.1 + 1 ≤ dp) : (fRm N j).frames + 1 ≤ R.frames ∧ 8 + (N.2.2.1 + 11) + (fRm N j).locals ≤ R.locals := by
  have h1 := hi.2.2.2.2
  have h2 := fRo C0
  simp only [fRm]
  omega
theorem f_fix {p : Program} {s : State} {m : MethodId} {args : Array Value} {meth : Method} {c : Code} {R : Room} (C0 : FCx G (mn, cc, nL, rt, dp, hh) p s m args meth c R) : CallFix p m c cc nL s args zT mn.cls := ⟨C0.1, C0.2.1, C0.2.2.2.1, C0.2.2.2.2.1, C0.2.2.2.2.2.1⟩
/-- what follows behind a call -/
theorem f_run {M : zM} {j1 j2 : Nat} {st0 : List Value} {Qc : Option Value → fS → Prop} {p : Program} {e : Env} {s : State} {m : MethodId} {args : Array Value} {below : List Frame} {meth : Method} {c : Code} {R : Room} {H : Heap} {locs : List Loc} {cells slots : Nat} {la : Array Slot} {a : Array Value}
    (z1 : l.stackTraces = false) (C0 : FCx G M p s m args meth c R) (hS : va_S (fA G) s.heap H locs) (hj : j1 + j2 ≤ kb) (hc : cells + kb ≤ R.cells) (hs : slots + 12 * kb ≤ R.slots) (hl : lv_has la M.2.2.1 ls)
    (hrun : va_Run p l e R s m args below meth c H locs cells slots j1 (12 * j1) (F0 m pc la st0) rest (fQc G Qc a) (fA G))
    (kk : ∀ (v : Option Value) (S' : fS), Qc v S' → FV G l M j2 Q (pc + 3) ls (v.toList ++ rest) S') :
    W p l e R s m args below meth c H locs cells slots (MQ below (fQc G Q) args s R.cells R.slots (fA G)) (F0 m pc la st0) := by
  intro T hT X
  obtain ⟨v, st₀, t, T', L, h0, X', hL, e1, e2, ⟨⟨v', S', hv, hq, hP'⟩, hz, hk⟩, st⟩ := hrun T hT X
  cases hv
  rw [h0] at hz hk
  obtain ⟨t2, a1, b1⟩ := kk v S' hq z1 p e s m args below meth c R T'.heap (locs ++ L) (cells + j1) (slots + 12 * j1) la C0 (by rw [e1]; exact hP')
    ⟨Nat.le_trans hS.1 (by rw [e1]; exact hz), fun q h1 h2 => by rw [e1, hk q (Nat.lt_of_lt_of_le h1 hS.1) h2]; exact hS.2.1 q h1 h2, fun q hq => by
      rcases List.mem_append.mp hq with h | h
      · exact hS.2.2 q h
      · exact hL q h⟩ (by omega) (by omega) hl T' rfl X'
  exact ⟨t2, st t2 a1, b1⟩
theorem f_run5 {M : zM} {j1 j2 : Nat} {st0 : List Value} {Qc : Option Value → fS → Prop} {p : Program} {e : Env} {s : State} {m : MethodId} {args : Array Value} {below : List Frame} {meth : Method} {c : Code} {R : Room} {H : Heap} {locs : List Loc} {cells slots : Nat} {la : Array Slot} {a : Array Value}
    (z1 : l.stackTraces = false) (C0 : FCx G M p s m args meth c R) (hS : va_S (fA G) s.heap H locs) (hj : j1 + j2 ≤ kb) (hc : cells + kb ≤ R.cells) (hs : slots + 12 * kb ≤ R.slots) (hl : lv_has la M.2.2.1 ls)
    (hrun : va_Run5 p l e R s m args below meth c H locs cells slots j1 (12 * j1) (F0 m pc la st0) rest (fQc G Qc a) (fA G))
    (kk : ∀ (v : Option Value) (S' : fS), Qc v S' → FV G l M j2 Q (pc + 5) ls (v.toList ++ rest) S') :
    W p l e R s m args below meth c H locs cells slots (MQ below (fQc G Q) args s R.cells R.slots (fA G)) (F0 m pc la st0) := by
  intro T hT X
  obtain ⟨v, st₀, t, T', L, h0, X', hL, e1, e2, ⟨⟨v', S', hv, hq, hP'⟩, hz, hk⟩, st⟩ := hrun T hT X
  cases hv
  rw [h0] at hz hk
  obtain ⟨t2, a1, b1⟩ := kk v S' hq z1 p e s m args below meth c R T'.heap (locs ++ L) (cells + j1) (slots + 12 * j1) la C0 (by rw [e1]; exact hP')
    ⟨Nat.le_trans hS.1 (by rw [e1]; exact hz), fun q h1 h2 => by rw [e1, hk q (Nat.lt_of_lt_of_le h1 hS.1) h2]; exact hS.2.1 q h1 h2, fun q hq => by
      rcases List.mem_append.mp hq with h | h
      · exact hS.2.2 q h
      · exact hL q h⟩ (by omega) (by omega) hl T' rfl X'
  exact ⟨t2, st t2 a1, b1⟩
theorem f_callS {N : zM} {j1 j2 n idx : Nat} {av st : List Value} {Qc : Option Value → fS → Prop} (hst : st = av.reverse ++ rest) (hct : FC G l N j1 av S Qc) (hi : zIn N n) (hn : av.length = n) (hstat : Cond.static N.1 ∈ zT) (hlink : Cond.methodLink mn.cls idx N.1 ∈ zT)
    (hd : N.2.2.2.2.1 + 1 ≤ dp) (hj : j1 + j2 ≤ kb) (hW : (rest.map fun v => v.category).sum ≤ 8) (hdg : decode cc pc = .ok (.invokestatic idx, 3))
    (kk : ∀ (v : Option Value) (S' : fS), Qc v S' → FV G l (mn, cc, nL, rt, dp, hh) j2 Q (pc + 3) ls (v.toList ++ rest) S') :
    FV G l (mn, cc, nL, rt, dp, hh) kb Q pc ls st S := fun z1 p e s m args below meth c R H locs cells slots la C0 hP hS hc0 hs hl => by
  subst hst
  have cb := callB_of (R := R) (own := mn.cls) (index := idx) (mc := j1) (ms := 12 * j1) (rm := fRm N j1) n C0.2.2.2.2.2.1 (zT_goodIn hi.1) rfl rfl rfl (C0.2.2.2.2.2.1 _ hi.2.1) (C0.2.2.2.2.2.1 _ hlink) ⟨hi.2.2.1.1, hi.2.2.1.2, hi.2.2.2.1⟩ (f_room C0 hi hd)
  exact f_run z1 C0 hS hj hc0 hs hl (va_runS (g := F0 m pc la (av.reverse ++ rest)) (rest := rest) (As := av) (f_fix C0) (hct z1) ⟨cb, C0.2.2.2.2.2.1 _ hstat⟩ ⟨fPc_blind, f_pre C0 hP hS⟩ rfl hn hl.1 rfl (lv_room hW) hdg ⟨by omega, by omega⟩) kk
theorem f_callSN {N : zM} {j1 j2 n idx : Nat} {host : String} {av st : List Value} {Qc : Option Value → fS → Prop} (hst : st = av.reverse ++ rest) (hct : FC G l N j1 av S Qc) (hi : zIn N n) (hn : av.length = n) (hstat : Cond.static N.1 ∈ zT) (hlink : (mn.cls, idx, N.1, host) ∈ zNestL)
    (hd : N.2.2.2.2.1 + 1 ≤ dp) (hj : j1 + j2 ≤ kb) (hW : (rest.map fun v => v.category).sum ≤ 8) (hdg : decode cc pc = .ok (.invokestatic idx, 3))
    (kk : ∀ (v : Option Value) (S' : fS), Qc v S' → FV G l (mn, cc, nL, rt, dp, hh) j2 Q (pc + 3) ls (v.toList ++ rest) S') :
    FV G l (mn, cc, nL, rt, dp, hh) kb Q pc ls st S := fun z1 p e s m args below meth c R H locs cells slots la C0 hP hS hc0 hs hl => by
  subst hst
  have cb := va_cnB (R := R) (own := mn.cls) (index := idx) (mc := j1) (ms := 12 * j1) (rm := fRm N j1) (host := host) n C0.2.2.2.2.2.1 (zT_goodIn hi.1) rfl rfl rfl ((fXs C0).1.1 _ hlink) (C0.2.2.2.2.2.1 _ hi.2.1) ⟨hi.2.2.1.1, hi.2.2.1.2, hi.2.2.2.1⟩ (f_room C0 hi hd)
  exact f_run z1 C0 hS hj hc0 hs hl (va_runSN (g := F0 m pc la (av.reverse ++ rest)) (rest := rest) (As := av) (f_fix C0) (hct z1) ⟨cb, C0.2.2.2.2.2.1 _ hstat, trivial⟩ ⟨fPc_blind, f_pre C0 hP hS⟩ rfl hn hl.1 rfl (lv_room hW) hdg ⟨by omega, by omega⟩) kk
/-- the receiver: an object of the law's world -/
theorem f_recv {p : Program} {s : State} {m : MethodId} {args : Array Value} {meth : Method} {c : Code} {R : Room} {M : zM} {H : Heap} {b ci : Nat} {fs : List Value} {q : vw_C} (C0 : FCx G M p s m args meth c R) (hP : fP G (o, ω) H) (ha : ω b = some (.inr (ci, fs))) (hcl : vwCl[ci]? = some q) : ∃ cell : Cell, H[b]? = some cell ∧ cell.vm.isStatics = false ∧ s.vm.findClass q.1 = some cell.cls := by
  obtain ⟨ws, h1, h2, h3⟩ := hP
  obtain ⟨k, hk1, -⟩ := fP.get (S := (o, ω)) h3 ha
  exact va_recv (fK C0) h1 hcl hk1
theorem f_callV {N : zM} {j1 j2 n idx b ci : Nat} {C : String} {q : vw_C} {fs : List Value} {av st : List Value} {Qc : Option Value → fS → Prop} (hst : st = av.reverse ++ .ref b :: rest) (ha : ω b = some (.inr (ci, fs))) (hcl : vwCl[ci]? = some q) (hq : q.1 = C) (hct : FC G l N j1 (.ref b :: av) (o, ω) Qc) (hi : zIn N n) (hn : av.length = n)
    (hinst : Cond.instanceMethod N.1 ∈ zT) (hsel : Cond.selects C N.1 N.1 ∈ zT) (hlink : Cond.methodLink mn.cls idx N.1 ∈ zT)
    (hd : N.2.2.2.2.1 + 1 ≤ dp) (hj : j1 + j2 ≤ kb) (hW : (rest.map fun v => v.category).sum ≤ 8) (hdg : decode cc pc = .ok (.invokevirtual idx, 3))
    (kk : ∀ (v : Option Value) (S' : fS), Qc v S' → FV G l (mn, cc, nL, rt, dp, hh) j2 Q (pc + 3) ls (v.toList ++ rest) S') :
    FV G l (mn, cc, nL, rt, dp, hh) kb Q pc ls st (o, ω) := fun z1 p e s m args below meth c R H locs cells slots la C0 hP hS hc0 hs hl => by
  subst hst
  subst hq
  have cb := callB_of (R := R) (own := mn.cls) (index := idx) (mc := j1) (ms := 12 * j1) (rm := fRm N j1) n C0.2.2.2.2.2.1 (zT_goodIn hi.1) rfl rfl rfl (C0.2.2.2.2.2.1 _ hi.2.1) (C0.2.2.2.2.2.1 _ hlink) ⟨hi.2.2.1.1, hi.2.2.1.2, hi.2.2.2.1⟩ (f_room C0 hi hd)
  exact f_run z1 C0 hS hj hc0 hs hl (va_runV (g := F0 m pc la (av.reverse ++ .ref b :: rest)) (rest := rest) (As := av) (b := b) (C := q.1) (f_fix C0) (hct z1) ⟨cb, C0.2.2.2.2.2.1 _ hinst, C0.2.2.2.2.2.1 _ hsel⟩ ⟨fPc_blind, f_recv C0 hP ha hcl, f_pre C0 hP hS⟩ rfl hn hl.1 rfl (lv_room hW) hdg ⟨by omega, by omega⟩) kk
/-- an interface's call -/
theorem f_callF {N : zM} {x : MethodName} {j1 j2 n idx count b ci : Nat} {C : String} {q : vw_C} {fs : List Value} {av st : List Value} {Qc : Option Value → fS → Prop} (hst : st = av.reverse ++ .ref b :: rest) (ha : ω b = some (.inr (ci, fs))) (hcl : vwCl[ci]? = some q) (hq : q.1 = C) (hct : FC G l N j1 (.ref b :: av) (o, ω) Qc) (hi : zIn N n) (hn : av.length = n)
    (hF : (C, x, N.1) ∈ fFwL) (hx : (parseMethodDescriptor x.desc).map (fun d => d.parameters.length) = some n) (hinst : Cond.instanceMethod N.1 ∈ zT) (hsel : Cond.selects C x N.1 ∈ zT) (hlink : Cond.methodLink mn.cls idx x ∈ zT)
    (hd : N.2.2.2.2.1 + 1 ≤ dp) (hj : j1 + j2 ≤ kb) (hW : (rest.map fun v => v.category).sum ≤ 8) (hdg : decode cc pc = .ok (.invokeinterface idx count, 5))
    (kk : ∀ (v : Option Value) (S' : fS), Qc v S' → FV G l (mn, cc, nL, rt, dp, hh) j2 Q (pc + 5) ls (v.toList ++ rest) S') :
    FV G l (mn, cc, nL, rt, dp, hh) kb Q pc ls st (o, ω) := fun z1 p e s m args below meth c R H locs cells slots la C0 hP hS hc0 hs hl => by
  subst hst
  subst hq
  have cb := va_cwF (R := R) (own := mn.cls) (C := q.1) (index := idx) (x := x) (y := N.1) (bytes := N.2.1) (maxL := N.2.2.1) (ret := N.2.2.2.1) (ws := Cond.code N.1 N.2.1 N.2.2.1 N.2.2.2.1 :: zT) (mc := j1) (ms := 12 * j1) (rm := fRm N j1) n C0.2.2.2.2.2.1 (zT_gi (zT_c4 hlink hsel hinst hi.2.1 (zT_cc hi.1))) rfl rfl rfl ((fXs C0).2.2.2.2.2.2.1 _ hF) ⟨(fFw_mh _ hF).1, (fFw_mh _ hF).2, hx⟩ (f_room C0 hi hd)
  exact f_run5 z1 C0 hS hj hc0 hs hl (va_runF (g := F0 m pc la (av.reverse ++ .ref b :: rest)) (rest := rest) (As := av) (b := b) (C := q.1) ((fK C0).1 ci q hcl).2 (f_fix C0) (hct z1) cb ⟨fPc_blind, f_recv C0 hP ha hcl, f_pre C0 hP hS⟩ rfl hn hl.1 rfl (lv_room hW) hdg ⟨by omega, by omega⟩) kk
/-- a call by 'super' -/
theorem f_callP {N : zM} {j1 j2 n idx b ci : Nat} {q : vw_C} {fs : List Value} {av st : List Value} {Qc : Option Value → fS → Prop} (hst : st = av.reverse ++ .ref b :: rest) (ha : ω b = some (.inr (ci, fs))) (hcl : vwCl[ci]? = some q) (hct : FC G l N j1 (.ref b :: av) (o, ω) Qc) (hi : zIn N n) (hn : av.length = n)
    (hnm : N.1.name ≠ "<init>") (hinst : Cond.instanceMethod N.1 ∈ zT) (hsame : Cond.sameMethod N.1.cls N.1.cls N.1.name N.1.desc ∈ zT) (hsup : Cond.superclass mn.cls N.1.cls ∈ zT) (hlink : Cond.methodLink mn.cls idx N.1 ∈ zT)
    (hd : N.2.2.2.2.1 + 1 ≤ dp) (hj : j1 + j2 ≤ kb) (hW : (rest.map fun v => v.category).sum ≤ 8) (hdg : decode cc pc = .ok (.invokespecial idx, 3))
    (kk : ∀ (v : Option Value) (S' : fS), Qc v S' → FV G l (mn, cc, nL, rt, dp, hh) j2 Q (pc + 3) ls (v.toList ++ rest) S') :
    FV G l (mn, cc, nL, rt, dp, hh) kb Q pc ls st (o, ω) := fun z1 p e s m args below meth c R H locs cells slots la C0 hP hS hc0 hs hl => by
  subst hst
  have cb := va_cwSU (R := R) (own := mn.cls) (index := idx) (y := N.1) (bytes := N.2.1) (maxL := N.2.2.1) (ret := N.2.2.2.1) (ws := Cond.code N.1 N.2.1 N.2.2.1 N.2.2.2.1 :: zT) (mc := j1) (ms := 12 * j1) (rm := fRm N j1) n C0.2.2.2.2.2.1 (zT_gi (zT_c5 hlink hsame hsup hinst hi.2.1 (zT_cc hi.1))) rfl rfl rfl ⟨hnm, hi.2.2.2.1⟩ (f_room C0 hi hd)
  exact f_run z1 C0 hS hj hc0 hs hl (va_runSU (g := F0 m pc la (av.reverse ++ .ref b :: rest)) (rest := rest) (As := av) (b := b) (C := q.1) ((fK C0).1 ci q hcl).2 (f_fix C0) (hct z1) cb ⟨fPc_blind, f_recv C0 hP ha hcl, f_pre C0 hP hS⟩ rfl hn hl.1 rfl (lv_room hW) hdg ⟨by omega, by omega⟩) kk
/-- a call that names a method of the superclass and lands in the class's own -/
theorem f_callO {N : zM} {x : MethodName} {b0 : ByteArray} {m0 : Nat} {r0 : Option FieldType} {owner : String} {j1 j2 n idx b ci : Nat} {C : String} {q : vw_C} {fs : List Value} {av st : List Value} {Qc : Option Value → fS → Prop} (hst : st = av.reverse ++ .ref b :: rest) (ha : ω b = some (.inr (ci, fs))) (hcl : vwCl[ci]? = some q) (hq : q.1 = C) (hct : FC G l N j1 (.ref b :: av) (o, ω) Qc) (hi : zIn N n) (hn : av.length = n)
    (h0 : Cond.code ⟨owner, x.name, x.desc⟩ b0 m0 r0 ∈ zT) (hx : owner ≠ "java/lang/invoke/MethodHandle" ∧ owner ≠ "java/lang/invoke/VarHandle" ∧ (parseMethodDescriptor x.desc).map (fun d => d.parameters.length) = some n) (hsame : Cond.sameMethod x.cls owner x.name x.desc ∈ zT) (hi0 : Cond.instanceMethod ⟨owner, x.name, x.desc⟩ ∈ zT) (hinst : Cond.instanceMethod N.1 ∈ zT) (hsel : Cond.selects C x N.1 ∈ zT) (hlink : Cond.methodLink mn.cls idx x ∈ zT)
    (hd : N.2.2.2.2.1 + 1 ≤ dp) (hj : j1 + j2 ≤ kb) (hW : (rest.map fun v => v.category).sum ≤ 8) (hdg : decode cc pc = .ok (.invokevirtual idx, 3))
    (kk : ∀ (v : Option Value) (S' : fS), Qc v S' → FV G l (mn, cc, nL, rt, dp, hh) j2 Q (pc + 3) ls (v.toList ++ rest) S') :
    FV G l (mn, cc, nL, rt, dp, hh) kb Q pc ls st (o, ω) := fun z1 p e s m args below meth c R H locs cells slots la C0 hP hS hc0 hs hl => by
  subst hst
  subst hq
  have cb := va_cwO (R := R) (own := mn.cls) (C := q.1) (owner := owner) (index := idx) (x := x) (y := N.1) (bytes := N.2.1) (maxL := N.2.2.1) (ret := N.2.2.2.1) (ws := Cond.code N.1 N.2.1 N.2.2.1 N.2.2.2.1 :: zT) (mc := j1) (ms := 12 * j1) (rm := fRm N j1) n C0.2.2.2.2.2.1 (zT_gi (zT_c6 hlink hsame hi0 hsel hinst hi.2.1 (zT_cc hi.1))) rfl rfl rfl h0 hx (f_room C0 hi hd)
  exact f_run z1 C0 hS hj hc0 hs hl (va_runU (g := F0 m pc la (av.reverse ++ .ref b :: rest)) (rest := rest) (As := av) (b := b) (C := q.1) (f_fix C0) (hct z1) cb ⟨fPc_blind, f_recv C0 hP ha hcl, f_pre C0 hP hS⟩ rfl hn hl.1 rfl (lv_room hW) hdg ⟨by omega, by omega⟩) kk
/-- a constructor -/
theorem f_callI {N : zM} {j1 j2 n idx b : Nat} {av st : List Value} {Qc : Option Value → fS → Prop} (hst : st = av.reverse ++ .ref b :: rest) (hct : FC G l N j1 (.ref b :: av) S Qc) (hi : zIn N n) (hn : av.length = n) (hret : N.2.2.2.1 = none) (hnm : N.1.name = "<init>") (hinst : Cond.instanceMethod N.1 ∈ zT) (hlink : Cond.methodLink mn.cls idx N.1 ∈ zT)
    (hd : N.2.2.2.2.1 + 1 ≤ dp) (hj : j1 + j2 ≤ kb) (hW : (rest.map fun v => v.category).sum ≤ 8) (hdg : decode cc pc = .ok (.invokespecial idx, 3))
    (kk : ∀ (v : Option Value) (S' : fS), Qc v S' → FV G l (mn, cc, nL, rt, dp, hh) j2 Q (pc + 3) ls (v.toList ++ rest) S') :
    FV G l (mn, cc, nL, rt, dp, hh) kb Q pc ls st S := fun z1 p e s m args below meth c R H locs cells slots la C0 hP hS hc0 hs hl => by
  subst hst
  obtain ⟨y, ycc, yn, yr, yd, yh⟩ := N
  simp only at hret hnm
  subst hret
  have cb := cwI (R := R) (own := mn.cls) (index := idx) (mc := j1) (ms := 12 * j1) (rm := fRm (y, ycc, yn, none, yd, yh) j1) n C0.2.2.2.2.2.1 (zT_goodIn (N := (y, ycc, yn, none, yd, yh)) hi.1) rfl rfl rfl (C0.2.2.2.2.2.1 _ hi.2.1) (C0.2.2.2.2.2.1 _ hlink) (C0.2.2.2.2.2.1 _ hinst) hnm ⟨hi.2.2.1.1, hi.2.2.1.2, hi.2.2.2.1⟩ (f_room C0 hi hd)
  exact f_run z1 C0 hS hj hc0 hs hl (va_runI (g := F0 m pc la (av.reverse ++ .ref b :: rest)) (rest := rest) (As := av) (f_fix C0) (hct z1) cb ⟨fPc_blind, f_pre C0 hP hS⟩ rfl hn hl.1 rfl (lv_room hW) hdg ⟨by omega, by omega⟩) kk
theorem f_obj {idx a : Nat} (hlink : Cond.methodLink mn.cls idx Lib.objectInit ∈ zT) (hinst : Cond.instanceMethod Lib.objectInit ∈ zT) (hcode : Cond.code Lib.objectInit ⟨#[0xb1]⟩ 1 none ∈ zT) (hd1 : 1 ≤ dp) (hW : (rest.map fun v => v.category).sum ≤ 8) (hdg : decode cc pc = .ok (.invokespecial idx, 3))
    (z : FV G l (mn, cc, nL, rt, dp, hh) kb Q (pc + 3) ls rest S) : FV G l (mn, cc, nL, rt, dp, hh) kb Q pc ls (.ref a :: rest) S := fun z1 p e s m args below meth c R H locs cells slots la C0 hP hS hc0 hs hl => by
  have h2 := fRo C0
  have hml : c.maxLocals = nL := C0.2.2.2.1
  have h8 : 2 * (F0 m pc la (.ref a :: rest)).monitorRoom + (rest.map fun v => v.category).sum ≤ 8 := lv_room hW
  refine W.objInit C0.1 C0.2.1 C0.2.2.2.2.1 (C0.2.2.2.2.2.1 _ hlink) (C0.2.2.2.2.2.1 _ hinst) (C0.2.2.2.2.2.1 _ hcode) rfl (by rw [hml]; exact hl.1) rfl hdg (by omega) (by omega) ?_
  exact W.eq (g2 := F0 m (pc + 3) la rest) rfl (z z1 p e s m args below meth c R H locs cells slots la C0 hP hS hc0 hs hl)
theorem f_mmax {x y : Int32} {idx : Nat} (hlink : Cond.methodLink mn.cls idx Lib.Math.max.name ∈ zT) (hstat : Cond.static Lib.Math.max.name ∈ zT) (hini : Cond.initialized "java/lang/Math" ∈ zT) (hcode : Cond.code Lib.Math.max.name Lib.Math.max.code 2 (some .int) ∈ zT) (hd : 1 ≤ dp) (hW : (rest.map fun v => v.category).sum ≤ 8)
    (hdg : decode cc pc = .ok (.invokestatic idx, 3)) (z : FV G l (mn, cc, nL, rt, dp, hh) kb Q (pc + 3) ls (.int (if x < y then y else x) :: rest) S) : FV G l (mn, cc, nL, rt, dp, hh) kb Q pc ls (.int y :: .int x :: rest) S := fun z1 p e s m args below meth c R H locs cells slots la C0 hP hS hc0 hs hl => by
  have h2 := fRo C0
  exact va_mmax C0.1 C0.2.1 (C0.2.2.2.1.trans hl.1.symm) C0.2.2.2.2.1 (C0.2.2.2.2.2.1 _ hlink) (C0.2.2.2.2.2.1 _ hstat) (C0.2.2.2.2.2.1 _ hini) (C0.2.2.2.2.2.1 _ hcode) (by omega) (by omega) (by omega) (by omega) hdg (z z1 p e s m args below meth c R H locs cells slots la C0 hP hS hc0 hs hl)
theorem f_mmin {x y : Int32} {idx : Nat} (hlink : Cond.methodLink mn.cls idx Lib.Math.min.name ∈ zT) (hstat : Cond.static Lib.Math.min.name ∈ zT) (hini : Cond.initialized "java/lang/Math" ∈ zT) (hcode : Cond.code Lib.Math.min.name Lib.Math.min.code 2 (some .int) ∈ zT) (hd : 1 ≤ dp) (hW : (rest.map fun v => v.category).sum ≤ 8)
    (hdg : decode cc pc = .ok (.invokestatic idx, 3)) (z : FV G l (mn, cc, nL, rt, dp, hh) kb Q (pc + 3) ls (.int (if y < x then y else x) :: rest) S) : FV G l (mn, cc, nL, rt, dp, hh) kb Q pc ls (.int y :: .int x :: rest) S := fun z1 p e s m args below meth c R H locs cells slots la C0 hP hS hc0 hs hl => by
  have h2 := fRo C0
  exact va_mmin C0.1 C0.2.1 (C0.2.2.2.1.trans hl.1.symm) C0.2.2.2.2.1 (C0.2.2.2.2.2.1 _ hlink) (C0.2.2.2.2.2.1 _ hstat) (C0.2.2.2.2.2.1 _ hini) (C0.2.2.2.2.2.1 _ hcode) (by omega) (by omega) (by omega) (by omega) hdg (z z1 p e s m args below meth c R H locs cells slots la C0 hP hS hc0 hs hl)
theorem f_mabs {x : Int32} {idx : Nat} (hlink : Cond.methodLink mn.cls idx Lib.Math.abs.name ∈ zT) (hstat : Cond.static Lib.Math.abs.name ∈ zT) (hini : Cond.initialized "java/lang/Math" ∈ zT) (hcode : Cond.code Lib.Math.abs.name Lib.Math.abs.code 1 (some .int) ∈ zT) (hd : 1 ≤ dp) (hW : (rest.map fun v => v.category).sum ≤ 8)
    (hdg : decode cc pc = .ok (.invokestatic idx, 3)) (z : FV G l (mn, cc, nL, rt, dp, hh) kb Q (pc + 3) ls (.int (if 0 ≤ x then x else 0 - x) :: rest) S) : FV G l (mn, cc, nL, rt, dp, hh) kb Q pc ls (.int x :: rest) S := fun z1 p e s m args below meth c R H locs cells slots la C0 hP hS hc0 hs hl => by
  have h2 := fRo C0
  exact va_mabs C0.1 C0.2.1 (C0.2.2.2.1.trans hl.1.symm) C0.2.2.2.2.1 (C0.2.2.2.2.2.1 _ hlink) (C0.2.2.2.2.2.1 _ hstat) (C0.2.2.2.2.2.1 _ hini) (C0.2.2.2.2.2.1 _ hcode) (by omega) (by omega) (by omega) (by omega) hdg (z z1 p e s m args below meth c R H locs cells slots la C0 hP hS hc0 hs hl)
end FCa
/-! a call of the class -/
abbrev gB (g : zG) (n : Nat) : zG := (g.1, g.2.1, g.2.2.1, n, g.2.2.2.2.1, g.2.2.2.2.2)
section FCc
variable {G : fG} {l : Launch} {mn : MethodName} {cc : ByteArray} {nL : Nat} {rt : Option FieldType} {dp : Nat} {hh : List (Nat × Nat × Nat × Nat)} {kb : Nat} {Q : Option Value → fS → Prop} {pc : Nat} {ls : List (Nat × Value)} {rest : List Value} {σ : zS} {ω : fW}
theorem zws_gB (g : zG) (n : Nat) (σ : zS) : zws (gB g n) σ = zws g σ := rfl
/-- the class's cells are apart, and lie in A -/
theorem fP_zD {H : Heap} (hP : fP G (some σ, ω) H) (n : Nat) : zD (gB G.1 n) ∧ ∀ i, zV i → fA G (zad G.1 i) := by
  obtain ⟨ws, h1, h2, h3⟩ := hP
  have hat : ∀ i, zV i → (zws G.1 σ ++ ws)[zpo i]? = some (zad G.1 i, zcell G.1 σ i) := fun i hi => by
    rw [List.getElem?_append_left (by rw [zws_len]; exact zpo_lt hi)]
    exact zws_at hi
  refine ⟨fun i j hi hj e => ?_, fun i hi => h2.2 _ _ (hat i hi)⟩
  have := h2.1 _ _ _ _ (hat i hi) (hat j hj) e
  rw [← zid_po hi, ← zid_po hj, this]
/-- behind a call of the class: its cells as told, the others as they were -/
theorem fP_back {H H1 : Heap} {σ' : zS} (hP : fP G (some σ, ω) H) (hz : H.size ≤ H1.size) (hq : ∀ q : Nat, q < H.size → ¬ zA (gB G.1 H.size) q → H1[q]? = H[q]?) (hP1 : va_P G.1.1 vwCl (zws G.1 σ') H1) : fP G (some σ', ω) H1 := by
  obtain ⟨ws, h1, h2, h3⟩ := hP
  have hl : ∀ σ : zS, (fbs G (some σ)).length = 144 := fun σ => zws_len G.1 σ
  have hw : ∀ (k : Nat) (q : Nat × va_E), ws[k]? = some q → (fbs G (some σ) ++ ws)[144 + k]? = some q := fun k q hk => by
    have := (wl_get (fbs G (some σ)) ws k).trans hk
    rw [hl] at this; exact this
  have hx : ∀ (i : Nat), i < 144 → (fbs G (some σ) ++ ws)[i]? = some (zad G.1 (zid i), zcell G.1 σ (zid i)) := fun i hi => by
    rw [List.getElem?_append_left (by rw [hl]; exact hi)]
    exact zws_ix hi
  have hnot : ∀ (k : Nat) (q : Nat × va_E), ws[k]? = some q → ¬ zA (gB G.1 H.size) q.1 := fun k q hk h => by
    rcases h with ⟨i, hi, e⟩ | h
    · have := h2.1 _ _ _ _ (hw k q hk) (hx (zpo i) (zpo_lt hi)) (by rw [zid_po hi]; exact e.symm)
      have := zpo_lt hi
      omega
    · have h : H.size ≤ q.1 := h
      have := (h1 _ _ (hw k q hk)).lt
      omega
  refine ⟨ws, hP1.app (fun k q hk => (h1 _ _ (hw k q hk)).kept (hq q.1 (h1 _ _ (hw k q hk)).lt (hnot k q hk))), ?_, h3⟩
  have key : ∀ (i : Nat) (q : Nat × va_E), (fbs G (some σ') ++ ws)[i]? = some q → ∃ q', (fbs G (some σ) ++ ws)[i]? = some q' ∧ q'.1 = q.1 := fun i q hi => by
    by_cases h : i < 144
    · rw [List.getElem?_append_left (by rw [hl]; exact h)] at hi
      have hi' : (zws G.1 σ')[i]? = some q := hi
      rw [zws_ix h] at hi'
      cases hi'
      exact ⟨_, hx i h, rfl⟩
    · rw [List.getElem?_append_right (by rw [hl]; omega), hl] at hi
      exact ⟨q, by have := hw _ q hi; rw [show 144 + (i - 144) = i by omega] at this; exact this, rfl⟩
  refine ⟨fun i j p q hp hq' e => ?_, fun k q hk => ?_⟩
  · obtain ⟨p', a1, a2⟩ := key i p hp
    obtain ⟨q', b1, b2⟩ := key j q hq'
    exact h2.1 i j p' q' a1 b1 (by rw [a2, b2, e])
  · obtain ⟨q', b1, b2⟩ := key k q hk
    rw [← b2]
    exact h2.2 k q' b1
theorem fX_z {U : State} {H : Heap} (hX : fX G U H) (hA : ∀ i, zV i → fA G (zad G.1 i)) (hB : G.1.2.2.2.1 ≤ H.size) : zX (gB G.1 H.size) U H :=
  zXA_z hX.1 rfl rfl (fun q h => by
    rcases h with ⟨i, hi, e⟩ | h
    · rw [← e]; exact hA i hi
    · exact Nat.le_trans hB h)
theorem f_callC {N : zM} {j1 j2 n idx oo ci : Nat} {sl : List zK} {q : vw_C} {av st : List Value} {Qz : zR → zS → Prop} (hst : st = av.reverse ++ .ref (zad G.1 oo) :: rest) (hsh : zsh oo = .inl (ci, sl)) (ho : oo < 163) (hcl : vwCl[ci]? = some q) (hq : q.1 = N.1.cls)
    (hct : ∀ n, CT (gB G.1 n) l N j1 (.ref (zad G.1 oo) :: av) σ Qz) (hi : zIn N n) (hn : av.length = n)
    (hinst : Cond.instanceMethod N.1 ∈ zT) (hsel : Cond.selects N.1.cls N.1 N.1 ∈ zT) (hlink : Cond.methodLink mn.cls idx N.1 ∈ zT)
    (hd : N.2.2.2.2.1 + 1 ≤ dp) (hj : j1 + j2 ≤ kb) (hW : (rest.map fun v => v.category).sum ≤ 8) (hdg : decode cc pc = .ok (.invokevirtual idx, 3))
    (kx : ∀ (E : String) (σ' : zS), ¬ Qz (.inr E) σ') (kk : ∀ (v : Option Value) (σ' : zS), Qz (.inl v) σ' → FV G l (mn, cc, nL, rt, dp, hh) j2 Q (pc + 3) ls (v.toList ++ rest) (some σ', ω)) :
    FV G l (mn, cc, nL, rt, dp, hh) kb Q pc ls st (some σ, ω) := fun z1 p e s m args below meth c R H locs cells slots la C0 hP hS hc0 hs hl => by
  subst hst
  obtain ⟨hD, hA⟩ := fP_zD hP H.size
  have h2 := fRo C0
  have hi5 := hi.2.2.2.2
  have hr : (zRm N j1).frames + 1 ≤ R.frames ∧ 8 + (N.2.2.1 + 11) + (zRm N j1).locals ≤ R.locals := by
    simp only [zRm]
    omega
  have hB : G.1.2.2.2.1 ≤ H.size := Nat.le_trans C0.2.2.2.2.2.2.2.2.2.2.1 hS.1
  have hPz : va_P G.1.1 vwCl (zws G.1 σ) H := by
    obtain ⟨ws, h1, -, -⟩ := hP
    exact fun k x hk => h1 k x (by show (zws G.1 σ ++ ws)[k]? = some x; rw [List.getElem?_append_left (List.getElem?_eq_some_iff.mp hk).1]; exact hk)
  have cb := callB_of (R := R) (own := mn.cls) (index := idx) (mc := j1) (ms := 6 * j1) (rm := zRm N j1) n C0.2.2.2.2.2.1 (zT_goodIn hi.1) rfl rfl rfl (C0.2.2.2.2.2.1 _ hi.2.1) (C0.2.2.2.2.2.1 _ hlink) ⟨hi.2.2.1.1, hi.2.2.1.2, hi.2.2.2.1⟩ hr
  have hrecv := va_recv (fK C0) hPz hcl (zws_o ho hsh)
  rw [hq] at hrecv
  have hrun := vx_runV (p := p) (l := l) (e := e) (R := R) (s := s) (m := m) (args := args) (below := below) (meth := meth) (c := c) (H := H) (locs := locs) (cells := cells) (slots := slots) (g := F0 m pc la (av.reverse ++ .ref (zad G.1 oo) :: rest)) (rest := rest) (As := av) (b := zad G.1 oo) (C := N.1.cls) ⟨C0.1, C0.2.1, C0.2.2.2.1, C0.2.2.2.2.1, C0.2.2.2.2.2.1⟩ (hct H.size z1 hD) ⟨cb, C0.2.2.2.2.2.1 _ hinst, C0.2.2.2.2.2.1 _ hsel⟩
    ⟨zPc_blind, hrecv, fun U hU hW => ⟨rfl, by rw [hU]; exact Nat.le_refl _, by rw [hU]; exact hPz, va_K.moved hW.alike (fK C0), by
      rw [hU]; exact fX_z (fX_move hW hS.1 hS.2.1 (fXs C0)) hA hB⟩⟩ rfl hn hl.1 rfl (lv_room hW) hdg ⟨by omega, by omega⟩
  intro T hT X
  rcases hrun T hT X with ⟨v, st₀, t, T', L, h0, X', hL, e1, e2, ⟨⟨v', σ', hv, hq', hP'⟩, hF⟩, st⟩ | ⟨q, st₀, t, T', L, E, ce, h0, X', hL, e1, e2, ⟨⟨σ', hq', hP'⟩, hF⟩, hce, hcv, hcl', st⟩
  · cases hv
    obtain ⟨hz, hk⟩ := hF
    rw [h0] at hz hk
    have hAA : ∀ q, zA (gB G.1 H.size) q → fA G q := fun q h => by
      rcases h with ⟨i, hi, e⟩ | h
      · rw [← e]; exact hA i hi
      · exact Nat.le_trans hB h
    obtain ⟨t2, a1, b1⟩ := kk v σ' hq' z1 p e s m args below meth c R T'.heap (locs ++ L) (cells + j1) (slots + 6 * j1) la C0 (by rw [e1]; exact fP_back hP hz hk hP')
      ⟨Nat.le_trans hS.1 (by rw [e1]; exact hz), fun q h1 h2 => by rw [e1, hk q (Nat.lt_of_lt_of_le h1 hS.1) (fun h => h2 (hAA q h))]; exact hS.2.1 q h1 h2, fun q hq => by
        rcases List.mem_append.mp hq with h | h
        · exact hS.2.2 q h
        · exact hAA _ (hL q h)⟩ (by omega) (by omega) hl T' rfl X'
    exact ⟨t2, st t2 a1, b1⟩
  · exact absurd hq' (kx E σ')
end FCc
/-! posts -/
def fQi (K : Int32 → Option zS → fW → Prop) : Option Value → fS → Prop := fun v S => ∃ x : Int32, v = some (.int x) ∧ K x S.1 S.2
def fQv (K : Option zS → fW → Prop) : Option Value → fS → Prop := fun v S => v = none ∧ K S.1 S.2
def fQr (K : Nat → Option zS → fW → Prop) : Option Value → fS → Prop := fun v S => ∃ x : Nat, v = some (.ref x) ∧ K x S.1 S.2
section FCt
variable {G : fG} {l : Launch} {mn : MethodName} {cc : ByteArray} {nL : Nat} {rt : Option FieldType} {dp : Nat} {hh : List (Nat × Nat × Nat × Nat)} {kb : Nat} {Q : Option Value → fS → Prop} {pc : Nat} {ls : List (Nat × Value)} {rest : List Value} {o : Option zS} {σ : zS} {ω : fW} {S : fS}
theorem f_callSi {N : zM} {j1 j2 n idx : Nat} {av st : List Value} {K : Int32 → Option zS → fW → Prop} (hst : st = av.reverse ++ rest) (hct : FC G l N j1 av S (fQi K)) (hi : zIn N n) (hn : av.length = n) (hstat : Cond.static N.1 ∈ zT) (hlink : Cond.methodLink mn.cls idx N.1 ∈ zT)
    (hd : N.2.2.2.2.1 + 1 ≤ dp) (hj : j1 + j2 ≤ kb) (hW : (rest.map fun v => v.category).sum ≤ 8) (hdg : decode cc pc = .ok (.invokestatic idx, 3))
    (kk : ∀ (x : Int32) (o1 : Option zS) (ω1 : fW), K x o1 ω1 → FV G l (mn, cc, nL, rt, dp, hh) j2 Q (pc + 3) ls (.int x :: rest) (o1, ω1)) :
    FV G l (mn, cc, nL, rt, dp, hh) kb Q pc ls st S :=
  f_callS (j1 := j1) (j2 := j2) hst hct hi hn hstat hlink hd hj hW hdg (fun v S' h => by obtain ⟨x, rfl, h⟩ := h; exact kk x _ _ h)
theorem f_callSv {N : zM} {j1 j2 n idx : Nat} {av st : List Value} {K : Option zS → fW → Prop} (hst : st = av.reverse ++ rest) (hct : FC G l N j1 av S (fQv K)) (hi : zIn N n) (hn : av.length = n) (hstat : Cond.static N.1 ∈ zT) (hlink : Cond.methodLink mn.cls idx N.1 ∈ zT)
    (hd : N.2.2.2.2.1 + 1 ≤ dp) (hj : j1 + j2 ≤ kb) (hW : (rest.map fun v => v.category).sum ≤ 8) (hdg : decode cc pc = .ok (.invokestatic idx, 3))
    (kk : ∀ (o1 : Option zS) (ω1 : fW), K o1 ω1 → FV G l (mn, cc, nL, rt, dp, hh) j2 Q (pc + 3) ls rest (o1, ω1)) :
    FV G l (mn, cc, nL, rt, dp, hh) kb Q pc ls st S :=
  f_callS (j1 := j1) (j2 := j2) hst hct hi hn hstat hlink hd hj hW hdg (fun v S' h => by obtain ⟨rfl, h⟩ := h; exact kk _ _ h)
theorem f_callSr {N : zM} {j1 j2 n idx : Nat} {av st : List Value} {K : Nat → Option zS → fW → Prop} (hst : st = av.reverse ++ rest) (hct : FC G l N j1 av S (fQr K)) (hi : zIn N n) (hn : av.length = n) (hstat : Cond.static N.1 ∈ zT) (hlink : Cond.methodLink mn.cls idx N.1 ∈ zT)
    (hd : N.2.2.2.2.1 + 1 ≤ dp) (hj : j1 + j2 ≤ kb) (hW : (rest.map fun v => v.category).sum ≤ 8) (hdg : decode cc pc = .ok (.invokestatic idx, 3))
    (kk : ∀ (x : Nat) (o1 : Option zS) (ω1 : fW), K x o1 ω1 → FV G l (mn, cc, nL, rt, dp, hh) j2 Q (pc + 3) ls (.ref x :: rest) (o1, ω1)) :
    FV G l (mn, cc, nL, rt, dp, hh) kb Q pc ls st S :=
  f_callS (j1 := j1) (j2 := j2) hst hct hi hn hstat hlink hd hj hW hdg (fun v S' h => by obtain ⟨x, rfl, h⟩ := h; exact kk x _ _ h)
theorem f_callSNi {N : zM} {j1 j2 n idx : Nat} {host : String} {av st : List Value} {K : Int32 → Option zS → fW → Prop} (hst : st = av.reverse ++ rest) (hct : FC G l N j1 av S (fQi K)) (hi : zIn N n) (hn : av.length = n) (hstat : Cond.static N.1 ∈ zT) (hlink : (mn.cls, idx, N.1, host) ∈ zNestL)
    (hd : N.2.2.2.2.1 + 1 ≤ dp) (hj : j1 + j2 ≤ kb) (hW : (rest.map fun v => v.category).sum ≤ 8) (hdg : decode cc pc = .ok (.invokestatic idx, 3))
    (kk : ∀ (x : Int32) (o1 : Option zS) (ω1 : fW), K x o1 ω1 → FV G l (mn, cc, nL, rt, dp, hh) j2 Q (pc + 3) ls (.int x :: rest) (o1, ω1)) :
    FV G l (mn, cc, nL, rt, dp, hh) kb Q pc ls st S :=
  f_callSN (j1 := j1) (j2 := j2) hst hct hi hn hstat hlink hd hj hW hdg (fun v S' h => by obtain ⟨x, rfl, h⟩ := h; exact kk x _ _ h)
theorem f_callSNr {N : zM} {j1 j2 n idx : Nat} {host : String} {av st : List Value} {K : Nat → Option zS → fW → Prop} (hst : st = av.reverse ++ rest) (hct : FC G l N j1 av S (fQr K)) (hi : zIn N n) (hn : av.length = n) (hstat : Cond.static N.1 ∈ zT) (hlink : (mn.cls, idx, N.1, host) ∈ zNestL)
    (hd : N.2.2.2.2.1 + 1 ≤ dp) (hj : j1 + j2 ≤ kb) (hW : (rest.map fun v => v.category).sum ≤ 8) (hdg : decode cc pc = .ok (.invokestatic idx, 3))
    (kk : ∀ (x : Nat) (o1 : Option zS) (ω1 : fW), K x o1 ω1 → FV G l (mn, cc, nL, rt, dp, hh) j2 Q (pc + 3) ls (.ref x :: rest) (o1, ω1)) :
    FV G l (mn, cc, nL, rt, dp, hh) kb Q pc ls st S :=
  f_callSN (j1 := j1) (j2 := j2) hst hct hi hn hstat hlink hd hj hW hdg (fun v S' h => by obtain ⟨x, rfl, h⟩ := h; exact kk x _ _ h)
theorem f_callVi {N : zM} {j1 j2 n idx b ci : Nat} {C : String} {q : vw_C} {fs : List Value} {av st : List Value} {K : Int32 → Option zS → fW → Prop} (hst : st = av.reverse ++ .ref b :: rest) (ha : ω b = some (.inr (ci, fs))) (hcl : vwCl[ci]? = some q) (hq : q.1 = C) (hct : FC G l N j1 (.ref b :: av) (o, ω) (fQi K)) (hi : zIn N n) (hn : av.length = n)
    (hinst : Cond.instanceMethod N.1 ∈ zT) (hsel : Cond.selects C N.1 N.1 ∈ zT) (hlink : Cond.methodLink mn.cls idx N.1 ∈ zT)
    (hd : N.2.2.2.2.1 + 1 ≤ dp) (hj : j1 + j2 ≤ kb) (hW : (rest.map fun v => v.category).sum ≤ 8) (hdg : decode cc pc = .ok (.invokevirtual idx, 3))
    (kk : ∀ (x : Int32) (o1 : Option zS) (ω1 : fW), K x o1 ω1 → FV G l (mn, cc, nL, rt, dp, hh) j2 Q (pc + 3) ls (.int x :: rest) (o1, ω1)) :
    FV G l (mn, cc, nL, rt, dp, hh) kb Q pc ls st (o, ω) :=
  f_callV (j1 := j1) (j2 := j2) hst ha hcl hq hct hi hn hinst hsel hlink hd hj hW hdg (fun v S' h => by obtain ⟨x, rfl, h⟩ := h; exact kk x _ _ h)
theorem f_callVv {N : zM} {j1 j2 n idx b ci : Nat} {C : String} {q : vw_C} {fs : List Value} {av st : List Value} {K : Option zS → fW → Prop} (hst : st = av.reverse ++ .ref b :: rest) (ha : ω b = some (.inr (ci, fs))) (hcl : vwCl[ci]? = some q) (hq : q.1 = C) (hct : FC G l N j1 (.ref b :: av) (o, ω) (fQv K)) (hi : zIn N n) (hn : av.length = n)
    (hinst : Cond.instanceMethod N.1 ∈ zT) (hsel : Cond.selects C N.1 N.1 ∈ zT) (hlink : Cond.methodLink mn.cls idx N.1 ∈ zT)
    (hd : N.2.2.2.2.1 + 1 ≤ dp) (hj : j1 + j2 ≤ kb) (hW : (rest.map fun v => v.category).sum ≤ 8) (hdg : decode cc pc = .ok (.invokevirtual idx, 3))
    (kk : ∀ (o1 : Option zS) (ω1 : fW), K o1 ω1 → FV G l (mn, cc, nL, rt, dp, hh) j2 Q (pc + 3) ls rest (o1, ω1)) :
    FV G l (mn, cc, nL, rt, dp, hh) kb Q pc ls st (o, ω) :=
  f_callV (j1 := j1) (j2 := j2) hst ha hcl hq hct hi hn hinst hsel hlink hd hj hW hdg (fun v S' h => by obtain ⟨rfl, h⟩ := h; exact kk _ _ h)
theorem f_callVr {N : zM} {j1 j2 n idx b ci : Nat} {C : String} {q : vw_C} {fs : List Value} {av st : List Value} {K : Nat → Option zS → fW → Prop} (hst : st = av.reverse ++ .ref b :: rest) (ha : ω b = some (.inr (ci, fs))) (hcl : vwCl[ci]? = some q) (hq : q.1 = C) (hct : FC G l N j1 (.ref b :: av) (o, ω) (fQr K)) (hi : zIn N n) (hn : av.length = n)
    (hinst : Cond.instanceMethod N.1 ∈ zT) (hsel : Cond.selects C N.1 N.1 ∈ zT) (hlink : Cond.methodLink mn.cls idx N.1 ∈ zT)
    (hd : N.2.2.2.2.1 + 1 ≤ dp) (hj : j1 + j2 ≤ kb) (hW : (rest.map fun v => v.category).sum ≤ 8) (hdg : decode cc pc = .ok (.invokevirtual idx, 3))
    (kk : ∀ (x : Nat) (o1 : Option zS) (ω1 : fW), K x o1 ω1 → FV G l (mn, cc, nL, rt, dp, hh) j2 Q (pc + 3) ls (.ref x :: rest) (o1, ω1)) :
    FV G l (mn, cc, nL, rt, dp, hh) kb Q pc ls st (o, ω) :=
  f_callV (j1 := j1) (j2 := j2) hst ha hcl hq hct hi hn hinst hsel hlink hd hj hW hdg (fun v S' h => by obtain ⟨x, rfl, h⟩ := h; exact kk x _ _ h)
theorem f_callFi {N : zM} {x : MethodName} {j1 j2 n idx count b ci : Nat} {C : String} {q : vw_C} {fs : List Value} {av st : List Value} {K : Int32 → Option zS → fW → Prop} (hst : st = av.reverse ++ .ref b :: rest) (ha : ω b = some (.inr (ci, fs))) (hcl : vwCl[ci]? = some q) (hq : q.1 = C) (hct : FC G l N j1 (.ref b :: av) (o, ω) (fQi K)) (hi : zIn N n) (hn : av.length = n)
    (hF : (C, x, N.1) ∈ fFwL) (hx : (parseMethodDescriptor x.desc).map (fun d => d.parameters.length) = some n) (hinst : Cond.instanceMethod N.1 ∈ zT) (hsel : Cond.selects C x N.1 ∈ zT) (hlink : Cond.methodLink mn.cls idx x ∈ zT)
    (hd : N.2.2.2.2.1 + 1 ≤ dp) (hj : j1 + j2 ≤ kb) (hW : (rest.map fun v => v.category).sum ≤ 8) (hdg : decode cc pc = .ok (.invokeinterface idx count, 5))
    (kk : ∀ (x : Int32) (o1 : Option zS) (ω1 : fW), K x o1 ω1 → FV G l (mn, cc, nL, rt, dp, hh) j2 Q (pc + 5) ls (.int x :: rest) (o1, ω1)) :
    FV G l (mn, cc, nL, rt, dp, hh) kb Q pc ls st (o, ω) :=
  f_callF (j1 := j1) (j2 := j2) hst ha hcl hq hct hi hn hF hx hinst hsel hlink hd hj hW hdg (fun v S' h => by obtain ⟨x, rfl, h⟩ := h; exact kk x _ _ h)
theorem f_callFr {N : zM} {x : MethodName} {j1 j2 n idx count b ci : Nat} {C : String} {q : vw_C} {fs : List Value} {av st : List Value} {K : Nat → Option zS → fW → Prop} (hst : st = av.reverse ++ .ref b :: rest) (ha : ω b = some (.inr (ci, fs))) (hcl : vwCl[ci]? = some q) (hq : q.1 = C) (hct : FC G l N j1 (.ref b :: av) (o, ω) (fQr K)) (hi : zIn N n) (hn : av.length = n)
    (hF : (C, x, N.1) ∈ fFwL) (hx : (parseMethodDescriptor x.desc).map (fun d => d.parameters.length) = some n) (hinst : Cond.instanceMethod N.1 ∈ zT) (hsel : Cond.selects C x N.1 ∈ zT) (hlink : Cond.methodLink mn.cls idx x ∈ zT)
    (hd : N.2.2.2.2.1 + 1 ≤ dp) (hj : j1 + j2 ≤ kb) (hW : (rest.map fun v => v.category).sum ≤ 8) (hdg : decode cc pc = .ok (.invokeinterface idx count, 5))
    (kk : ∀ (x : Nat) (o1 : Option zS) (ω1 : fW), K x o1 ω1 → FV G l (mn, cc, nL, rt, dp, hh) j2 Q (pc + 5) ls (.ref x :: rest) (o1, ω1)) :
    FV G l (mn, cc, nL, rt, dp, hh) kb Q pc ls st (o, ω) :=
  f_callF (j1 := j1) (j2 := j2) hst ha hcl hq hct hi hn hF hx hinst hsel hlink hd hj hW hdg (fun v S' h => by obtain ⟨x, rfl, h⟩ := h; exact kk x _ _ h)
theorem f_callPi {N : zM} {j1 j2 n idx b ci : Nat} {q : vw_C} {fs : List Value} {av st : List Value} {K : Int32 → Option zS → fW → Prop} (hst : st = av.reverse ++ .ref b :: rest) (ha : ω b = some (.inr (ci, fs))) (hcl : vwCl[ci]? = some q) (hct : FC G l N j1 (.ref b :: av) (o, ω) (fQi K)) (hi : zIn N n) (hn : av.length = n)
    (hnm : N.1.name ≠ "<init>") (hinst : Cond.instanceMethod N.1 ∈ zT) (hsame : Cond.sameMethod N.1.cls N.1.cls N.1.name N.1.desc ∈ zT) (hsup : Cond.superclass mn.cls N.1.cls ∈ zT) (hlink : Cond.methodLink mn.cls idx N.1 ∈ zT)
    (hd : N.2.2.2.2.1 + 1 ≤ dp) (hj : j1 + j2 ≤ kb) (hW : (rest.map fun v => v.category).sum ≤ 8) (hdg : decode cc pc = .ok (.invokespecial idx, 3))
    (kk : ∀ (x : Int32) (o1 : Option zS) (ω1 : fW), K x o1 ω1 → FV G l (mn, cc, nL, rt, dp, hh) j2 Q (pc + 3) ls (.int x :: rest) (o1, ω1)) :
    FV G l (mn, cc, nL, rt, dp, hh) kb Q pc ls st (o, ω) :=
  f_callP (j1 := j1) (j2 := j2) hst ha hcl hct hi hn hnm hinst hsame hsup hlink hd hj hW hdg (fun v S' h => by obtain ⟨x, rfl, h⟩ := h; exact kk x _ _ h)
theorem f_callPv {N : zM} {j1 j2 n idx b ci : Nat} {q : vw_C} {fs : List Value} {av st : List Value} {K : Option zS → fW → Prop} (hst : st = av.reverse ++ .ref b :: rest) (ha : ω b = some (.inr (ci, fs))) (hcl : vwCl[ci]? = some q) (hct : FC G l N j1 (.ref b :: av) (o, ω) (fQv K)) (hi : zIn N n) (hn : av.length = n)
    (hnm : N.1.name ≠ "<init>") (hinst : Cond.instanceMethod N.1 ∈ zT) (hsame : Cond.sameMethod N.1.cls N.1.cls N.1.name N.1.desc ∈ zT) (hsup : Cond.superclass mn.cls N.1.cls ∈ zT) (hlink : Cond.methodLink mn.cls idx N.1 ∈ zT)
    (hd : N.2.2.2.2.1 + 1 ≤ dp) (hj : j1 + j2 ≤ kb) (hW : (rest.map fun v => v.category).sum ≤ 8) (hdg : decode cc pc = .ok (.invokespecial idx, 3))
    (kk : ∀ (o1 : Option zS) (ω1 : fW), K o1 ω1 → FV G l (mn, cc, nL, rt, dp, hh) j2 Q (pc + 3) ls rest (o1, ω1)) :
    FV G l (mn, cc, nL, rt, dp, hh) kb Q pc ls st (o, ω) :=
  f_callP (j1 := j1) (j2 := j2) hst ha hcl hct hi hn hnm hinst hsame hsup hlink hd hj hW hdg (fun v S' h => by obtain ⟨rfl, h⟩ := h; exact kk _ _ h)
theorem f_callPr {N : zM} {j1 j2 n idx b ci : Nat} {q : vw_C} {fs : List Value} {av st : List Value} {K : Nat → Option zS → fW → Prop} (hst : st = av.reverse ++ .ref b :: rest) (ha : ω b = some (.inr (ci, fs))) (hcl : vwCl[ci]? = some q) (hct : FC G l N j1 (.ref b :: av) (o, ω) (fQr K)) (hi : zIn N n) (hn : av.length = n)
    (hnm : N.1.name ≠ "<init>") (hinst : Cond.instanceMethod N.1 ∈ zT) (hsame : Cond.sameMethod N.1.cls N.1.cls N.1.name N.1.desc ∈ zT) (hsup : Cond.superclass mn.cls N.1.cls ∈ zT) (hlink : Cond.methodLink mn.cls idx N.1 ∈ zT)
    (hd : N.2.2.2.2.1 + 1 ≤ dp) (hj : j1 + j2 ≤ kb) (hW : (rest.map fun v => v.category).sum ≤ 8) (hdg : decode cc pc = .ok (.invokespecial idx, 3))
    (kk : ∀ (x : Nat) (o1 : Option zS) (ω1 : fW), K x o1 ω1 → FV G l (mn, cc, nL, rt, dp, hh) j2 Q (pc + 3) ls (.ref x :: rest) (o1, ω1)) :
    FV G l (mn, cc, nL, rt, dp, hh) kb Q pc ls st (o, ω) :=
  f_callP (j1 := j1) (j2 := j2) hst ha hcl hct hi hn hnm hinst hsame hsup hlink hd hj hW hdg (fun v S' h => by obtain ⟨x, rfl, h⟩ := h; exact kk x _ _ h)
theorem f_callOi {N : zM} {x : MethodName} {b0 : ByteArray} {m0 : Nat} {r0 : Option FieldType} {owner : String} {j1 j2 n idx b ci : Nat} {C : String} {q : vw_C} {fs : List Value} {av st : List Value} {K : Int32 → Option zS → fW → Prop} (hst : st = av.reverse ++ .ref b :: rest) (ha : ω b = some (.inr (ci, fs))) (hcl : vwCl[ci]? = some q) (hq : q.1 = C) (hct : FC G l N j1 (.ref b :: av) (o, ω) (fQi K)) (hi : zIn N n) (hn : av.length = n)
    (h0 : Cond.code ⟨owner, x.name, x.desc⟩ b0 m0 r0 ∈ zT) (hx : owner ≠ "java/lang/invoke/MethodHandle" ∧ owner ≠ "java/lang/invoke/VarHandle" ∧ (parseMethodDescriptor x.desc).map (fun d => d.parameters.length) = some n) (hsame : Cond.sameMethod x.cls owner x.name x.desc ∈ zT) (hi0 : Cond.instanceMethod ⟨owner, x.name, x.desc⟩ ∈ zT) (hinst : Cond.instanceMethod N.1 ∈ zT) (hsel : Cond.selects C x N.1 ∈ zT) (hlink : Cond.methodLink mn.cls idx x ∈ zT)
    (hd : N.2.2.2.2.1 + 1 ≤ dp) (hj : j1 + j2 ≤ kb) (hW : (rest.map fun v => v.category).sum ≤ 8) (hdg : decode cc pc = .ok (.invokevirtual idx, 3))
    (kk : ∀ (x : Int32) (o1 : Option zS) (ω1 : fW), K x o1 ω1 → FV G l (mn, cc, nL, rt, dp, hh) j2 Q (pc + 3) ls (.int x :: rest) (o1, ω1)) :
    FV G l (mn, cc, nL, rt, dp, hh) kb Q pc ls st (o, ω) :=
  f_callO (j1 := j1) (j2 := j2) hst ha hcl hq hct hi hn h0 hx hsame hi0 hinst hsel hlink hd hj hW hdg (fun v S' h => by obtain ⟨x, rfl, h⟩ := h; exact kk x _ _ h)
theorem f_callIv {N : zM} {j1 j2 n idx b : Nat} {av st : List Value} {K : Option zS → fW → Prop} (hst : st = av.reverse ++ .ref b :: rest) (hct : FC G l N j1 (.ref b :: av) S (fQv K)) (hi : zIn N n) (hn : av.length = n) (hret : N.2.2.2.1 = none) (hnm : N.1.name = "<init>") (hinst : Cond.instanceMethod N.1 ∈ zT) (hlink : Cond.methodLink mn.cls idx N.1 ∈ zT)
    (hd : N.2.2.2.2.1 + 1 ≤ dp) (hj : j1 + j2 ≤ kb) (hW : (rest.map fun v => v.category).sum ≤ 8) (hdg : decode cc pc = .ok (.invokespecial idx, 3))
    (kk : ∀ (o1 : Option zS) (ω1 : fW), K o1 ω1 → FV G l (mn, cc, nL, rt, dp, hh) j2 Q (pc + 3) ls rest (o1, ω1)) :
    FV G l (mn, cc, nL, rt, dp, hh) kb Q pc ls st S :=
  f_callI (j1 := j1) (j2 := j2) hst hct hi hn hret hnm hinst hlink hd hj hW hdg (fun v S' h => by obtain ⟨rfl, h⟩ := h; exact kk _ _ h)
theorem f_callCi {N : zM} {j1 j2 n idx oo ci : Nat} {sl : List zK} {q : vw_C} {av st : List Value} {K : Int32 → zS → Prop} (hst : st = av.reverse ++ .ref (zad G.1 oo) :: rest) (hsh : zsh oo = .inl (ci, sl)) (ho : oo < 163) (hcl : vwCl[ci]? = some q) (hq : q.1 = N.1.cls)
    (hct : ∀ n, CT (gB G.1 n) l N j1 (.ref (zad G.1 oo) :: av) σ (zQi K (fun _ _ => False))) (hi : zIn N n) (hn : av.length = n)
    (hinst : Cond.instanceMethod N.1 ∈ zT) (hsel : Cond.selects N.1.cls N.1 N.1 ∈ zT) (hlink : Cond.methodLink mn.cls idx N.1 ∈ zT)
    (hd : N.2.2.2.2.1 + 1 ≤ dp) (hj : j1 + j2 ≤ kb) (hW : (rest.map fun v => v.category).sum ≤ 8) (hdg : decode cc pc = .ok (.invokevirtual idx, 3))
    (kk : ∀ (x : Int32) (σ1 : zS), K x σ1 → FV G l (mn, cc, nL, rt, dp, hh) j2 Q (pc + 3) ls (.int x :: rest) (some σ1, ω)) :
    FV G l (mn, cc, nL, rt, dp, hh) kb Q pc ls st (some σ, ω) :=
  f_callC (j1 := j1) (j2 := j2) hst hsh ho hcl hq hct hi hn hinst hsel hlink hd hj hW hdg (fun E σ' h => by first | exact zQi_inr h | exact h) (fun v σ' h => by
    obtain ⟨x, rfl, h⟩ := zQi_inl h
    exact kk x σ' h)
theorem f_callCf {N : zM} {j1 j2 n idx oo ci : Nat} {sl : List zK} {q : vw_C} {av st : List Value} {K : UInt32 → zS → Prop} (hst : st = av.reverse ++ .ref (zad G.1 oo) :: rest) (hsh : zsh oo = .inl (ci, sl)) (ho : oo < 163) (hcl : vwCl[ci]? = some q) (hq : q.1 = N.1.cls)
    (hct : ∀ n, CT (gB G.1 n) l N j1 (.ref (zad G.1 oo) :: av) σ (zQf K (fun _ _ => False))) (hi : zIn N n) (hn : av.length = n)
    (hinst : Cond.instanceMethod N.1 ∈ zT) (hsel : Cond.selects N.1.cls N.1 N.1 ∈ zT) (hlink : Cond.methodLink mn.cls idx N.1 ∈ zT)
    (hd : N.2.2.2.2.1 + 1 ≤ dp) (hj : j1 + j2 ≤ kb) (hW : (rest.map fun v => v.category).sum ≤ 8) (hdg : decode cc pc = .ok (.invokevirtual idx, 3))
    (kk : ∀ (x : UInt32) (σ1 : zS), K x σ1 → FV G l (mn, cc, nL, rt, dp, hh) j2 Q (pc + 3) ls (.float x :: rest) (some σ1, ω)) :
    FV G l (mn, cc, nL, rt, dp, hh) kb Q pc ls st (some σ, ω) :=
  f_callC (j1 := j1) (j2 := j2) hst hsh ho hcl hq hct hi hn hinst hsel hlink hd hj hW hdg (fun E σ' h => by first | exact zQf_inr h | exact h) (fun v σ' h => by
    obtain ⟨x, rfl, h⟩ := zQf_inl h
    exact kk x σ' h)
end FCt
