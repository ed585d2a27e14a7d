/-! calls, throws, a contract out of its body -/
section ZC
variable {g : zG} {l : Launch} {mn : MethodName} {cc : ByteArray} {nL : Nat} {rt : Option FieldType} {dp : Nat} {kb : Nat} {Q : zR → zS → Prop} {pc : Nat} {ls : List (Nat × Value)} {rest : List Value} {σ : zS}
theorem zPc_blind {av : List Value} {σ : zS} : FrameBlind (zPc g av σ) := fun a U g' mk ⟨h1, h2, h3, h4, h5⟩ => ⟨h1, h2, h3, va_K.moved (u := U) (U := U.calling g' mk a) (Vm.Alike.refl U.vm) h4, zX_move (s := U) (U := U.calling g' mk a) (State.WarmedH.refl U) (fun _ _ _ => rfl) h5⟩
theorem zT_goodIn {N : zM} (h : Cond.code N.1 N.2.1 N.2.2.1 N.2.2.2.1 ∈ zT) : GoodIn zT (Cond.code N.1 N.2.1 N.2.2.1 N.2.2.2.1 :: zT) := fun w hw => by
  rcases List.mem_cons.mp hw with rfl | hw
  · exact ⟨h, zT_good h⟩
  · exact ⟨hw, zT_good hw⟩
/-- what follows behind a call, whichever kind it is -/
theorem zc_run {M : zM} {j1 j2 : Nat} {st0 : List Value} {Qc : zR → zS → Prop} {p : Program} {e : Env} {s : State} {m : MethodId} {args : Array Value} {below : List Frame} {meth : Method} {c : Code} {R : Room} {H : Heap} {locs : List Loc} {cells slots : Nat} {la : Array Slot} {a : Array Value}
    (z1 : l.stackTraces = false) (z2 : zD g) (C0 : zCx g M p s m args meth c R) (hM : M.2.2.2.2.2 = []) (hS : va_S (zA g) s.heap H locs) (hj : j1 + j2 ≤ kb) (hc : cells + kb ≤ R.cells) (hs : slots + 6 * kb ≤ R.slots) (hl : lv_has la M.2.2.1 ls)
    (hrun : vx_Run p l e R s m args below meth c H locs cells slots j1 (6 * j1) (F0 m pc la st0) rest (zQc g Qc a) (zXc g Qc) (zA g))
    (kx : ∀ (E : String) (σ' : zS), Qc (.inr E) σ' → Q (.inr E) σ')
    (kk : ∀ (v : Option Value) (σ' : zS), Qc (.inl v) σ' → EV g l M j2 Q (pc + 3) ls (v.toList ++ rest) σ') :
    W p l e R s m args below meth c H locs cells slots (vx_MQ below (zQc g Q) (zXc g Q) args s R.cells R.slots (zA g)) (F0 m pc la st0) := by
  intro T hT X
  rcases hrun T hT X with ⟨v, st₀, t, T', L, h0, X', hL, e1, e2, ⟨⟨v', σ', hv, hq, hP'⟩, hF⟩, st⟩ | ⟨q, st₀, t, T', L, E, ce, h0, X', hL, e1, e2, ⟨⟨σ', hq, hP'⟩, hF⟩, hce, hcv, hcl, st⟩
  · obtain ⟨k1, k2, k3⟩ := vx_keep h0 e1 hS (fun _ _ h => h) (fun _ h => h) hL hF
    cases hv
    obtain ⟨t2, a1, b1⟩ := kk v σ' hq z1 z2 p e s m args below meth c R T'.heap (locs ++ L) (cells + j1) (slots + 6 * j1) la C0 (by rw [e1]; exact hP') k3 (by omega) (by omega) hl T' rfl X'
    exact ⟨t2, st t2 a1, b1⟩
  · obtain ⟨k1, k2, k3⟩ := vx_keep h0 e1 hS (fun _ _ h => h) (fun _ h => h) hL hF
    have hout : ∀ x ∈ c.exceptionTable.toList, covers x pc = false := fun x hx => by
      rw [C0.2.2.2.2.2.2.2.1, hM] at hx
      cases hx
    obtain ⟨t2, a1, b1⟩ := vx_out (p := p) (l := l) (e := e) (R := R) (s := s) (m := m) (args := args) (below := below) (meth := meth) (c := c) (H := T'.heap) (locs := locs ++ L) (cells := cells + j1) (slots := slots + 6 * j1) (Qc := zQc g Q) (XC := zXc g Q) (mc := R.cells) (ms := R.slots) (free := zA g) (pc := pc) (ls := la) (rest := rest)
      hout C0.2.2.2.2.2.2.1 (by rw [e1]; exact hce) hcv hcl (fun t' ht' hA' => ⟨⟨σ', kx E σ' hq, by rw [ht', e1]; exact hP'⟩, k3.F ht'⟩) k3.2.2 (by omega) (by omega) T' rfl X'
    exact ⟨t2, st.trans a1, b1⟩
theorem zc_pre {M : zM} {p : Program} {s : State} {m : MethodId} {args : Array Value} {meth : Method} {c : Code} {R : Room} {H : Heap} {locs : List Loc} {av : List Value} (C0 : zCx g M p s m args meth c R) (hP : va_P g.1 vwCl (zws g σ) H) (hS : va_S (zA g) s.heap H locs) :
    ∀ U : State, U.heap = H → s.WarmedH U.vm → zPc g av σ av.toArray U := fun U hU hW =>
  ⟨rfl, by rw [hU]; exact Nat.le_trans C0.2.2.2.2.2.2.2.2.2.2.1 hS.1, by rw [hU]; exact hP, va_K.moved hW.alike C0.2.2.2.2.2.2.2.2.2.2.2.1, by rw [hU]; exact zX_move hW hS.2.1 C0.2.2.2.2.2.2.2.2.2.2.2.2⟩
theorem zc_room {M N : zM} {R : Room} {n j : Nat} (hf : M.2.2.2.2.1 ≤ R.frames) (hlo : 40 * M.2.2.2.2.1 ≤ R.locals) (hi : zIn N n) (hd : N.2.2.2.2.1 + 1 ≤ M.2.2.2.2.1) : (zRm N j).frames + 1 ≤ R.frames ∧ 8 + (N.2.2.1 + 11) + (zRm N j).locals ≤ R.locals := by
  have h1 := hi.2.2.2.2
  simp only [zRm]
  omega
/-- a static call -/
theorem e_callS {N : zM} {j1 j2 n idx : Nat} {av : List Value} {Qc : zR → zS → Prop} {st : List Value} (hst : st = av.reverse ++ rest) (hct : CT g l N j1 av σ Qc) (hi : zIn N n) (hn : av.length = n) (hstat : Cond.static N.1 ∈ zT) (hlink : Cond.methodLink mn.cls idx N.1 ∈ zT)
    (hd : N.2.2.2.2.1 + 1 ≤ dp) (hj : j1 + j2 ≤ kb) (hW : (rest.map fun v => v.category).sum ≤ 8) (hdg : decode cc pc = .ok (.invokestatic idx, 3))
    (kk : ∀ (v : Option Value) (σ' : zS), Qc (.inl v) σ' → EV g l (mn, cc, nL, rt, dp, []) j2 Q (pc + 3) ls (v.toList ++ rest) σ') (kx : ∀ (E : String) (σ' : zS), Qc (.inr E) σ' → Q (.inr E) σ') :
    EV g l (mn, cc, nL, rt, dp, []) kb Q pc ls st σ := fun z1 z2 p e s m args below meth c R H locs cells slots la C0 hP hS hc0 hs hl => by
  subst hst
  have hr := zc_room (M := (mn, cc, nL, rt, dp, [])) (j := j1) C0.2.2.2.2.2.2.2.2.1 C0.2.2.2.2.2.2.2.2.2.1 hi hd
  have cb := callB_of (R := R) (own := mn.cls) (index := idx) (mc := j1) (ms := 6 * j1) (rm := zRm N j1) n C0.2.2.2.2.2.1 (zT_goodIn hi.1) rfl rfl rfl (C0.2.2.2.2.2.1 _ hi.2.1) (C0.2.2.2.2.2.1 _ hlink) ⟨hi.2.2.1.1, hi.2.2.1.2, hi.2.2.2.1⟩ hr
  exact zc_run z1 z2 C0 rfl hS hj hc0 hs hl (vx_runS (g := F0 m pc la (av.reverse ++ rest)) (rest := rest) (As := av) ⟨C0.1, C0.2.1, C0.2.2.2.1, C0.2.2.2.2.1, C0.2.2.2.2.2.1⟩ (hct z1 z2) ⟨cb, C0.2.2.2.2.2.1 _ hstat⟩ ⟨zPc_blind, zc_pre C0 hP hS⟩ rfl hn hl.1 rfl (lv_room hW) hdg ⟨by omega, by omega⟩) kx kk
/-- a static call of the nest host's private method -/
theorem e_callSN {N : zM} {j1 j2 n idx : Nat} {host : String} {av : List Value} {Qc : zR → zS → Prop} {st : List Value} (hst : st = av.reverse ++ rest) (hct : CT g l N j1 av σ Qc) (hi : zIn N n) (hn : av.length = n) (hstat : Cond.static N.1 ∈ zT) (hlink : (mn.cls, idx, N.1, host) ∈ zNestL)
    (hd : N.2.2.2.2.1 + 1 ≤ dp) (hj : j1 + j2 ≤ kb) (hW : (rest.map fun v => v.category).sum ≤ 8) (hdg : decode cc pc = .ok (.invokestatic idx, 3))
    (kk : ∀ (v : Option Value) (σ' : zS), Qc (.inl v) σ' → EV g l (mn, cc, nL, rt, dp, []) j2 Q (pc + 3) ls (v.toList ++ rest) σ') (kx : ∀ (E : String) (σ' : zS), Qc (.inr E) σ' → Q (.inr E) σ') :
    EV g l (mn, cc, nL, rt, dp, []) kb Q pc ls st σ := fun z1 z2 p e s m args below meth c R H locs cells slots la C0 hP hS hc0 hs hl => by
  subst hst
  have hr := zc_room (M := (mn, cc, nL, rt, dp, [])) (j := j1) C0.2.2.2.2.2.2.2.2.1 C0.2.2.2.2.2.2.2.2.2.1 hi hd
  have cb := va_cnB (R := R) (own := mn.cls) (index := idx) (mc := j1) (ms := 6 * j1) (rm := zRm N j1) (host := host) n C0.2.2.2.2.2.1 (zT_goodIn hi.1) rfl rfl rfl (C0.2.2.2.2.2.2.2.2.2.2.2.2.1 _ hlink) (C0.2.2.2.2.2.1 _ hi.2.1) ⟨hi.2.2.1.1, hi.2.2.1.2, hi.2.2.2.1⟩ hr
  exact zc_run z1 z2 C0 rfl hS hj hc0 hs hl (vx_runSN (g := F0 m pc la (av.reverse ++ rest)) (rest := rest) (As := av) ⟨C0.1, C0.2.1, C0.2.2.2.1, C0.2.2.2.2.1, C0.2.2.2.2.2.1⟩ (hct z1 z2) ⟨cb, C0.2.2.2.2.2.1 _ hstat, trivial⟩ ⟨zPc_blind, zc_pre C0 hP hS⟩ rfl hn hl.1 rfl (lv_room hW) hdg ⟨by omega, by omega⟩) kx kk
/-- a call on an object of the world -/
theorem e_callV {N : zM} {j1 j2 n idx o ci : Nat} {sl : List zK} {q : vw_C} {av : List Value} {Qc : zR → zS → Prop} {st : List Value} (hst : st = av.reverse ++ .ref (zad g o) :: rest) (hsh : zsh o = .inl (ci, sl)) (ho : o < 163) (hcl : vwCl[ci]? = some q) (hq : q.1 = N.1.cls) (hct : CT g l N j1 (.ref (zad g o) :: av) σ Qc) (hi : zIn N n) (hn : av.length = n)
    (hinst : Cond.instanceMethod N.1 ∈ zT) (hsel : Cond.selects N.1.cls N.1 N.1 ∈ zT) (hlink : Cond.methodLink mn.cls idx N.1 ∈ zT)
    (hd : N.2.2.2.2.1 + 1 ≤ dp) (hj : j1 + j2 ≤ kb) (hW : (rest.map fun v => v.category).sum ≤ 8) (hdg : decode cc pc = .ok (.invokevirtual idx, 3))
    (kk : ∀ (v : Option Value) (σ' : zS), Qc (.inl v) σ' → EV g l (mn, cc, nL, rt, dp, []) j2 Q (pc + 3) ls (v.toList ++ rest) σ') (kx : ∀ (E : String) (σ' : zS), Qc (.inr E) σ' → Q (.inr E) σ') :
    EV g l (mn, cc, nL, rt, dp, []) kb Q pc ls st σ := fun z1 z2 p e s m args below meth c R H locs cells slots la C0 hP hS hc0 hs hl => by
  subst hst
  have hr := zc_room (M := (mn, cc, nL, rt, dp, [])) (j := j1) C0.2.2.2.2.2.2.2.2.1 C0.2.2.2.2.2.2.2.2.2.1 hi hd
  have cb := callB_of (R := R) (own := mn.cls) (index := idx) (mc := j1) (ms := 6 * j1) (rm := zRm N j1) n C0.2.2.2.2.2.1 (zT_goodIn hi.1) rfl rfl rfl (C0.2.2.2.2.2.1 _ hi.2.1) (C0.2.2.2.2.2.1 _ hlink) ⟨hi.2.2.1.1, hi.2.2.1.2, hi.2.2.2.1⟩ hr
  have hrecv := va_recv C0.2.2.2.2.2.2.2.2.2.2.2.1 hP hcl (zws_o ho hsh)
  rw [hq] at hrecv
  exact zc_run z1 z2 C0 rfl hS hj hc0 hs hl (vx_runV (g := F0 m pc la (av.reverse ++ .ref (zad g o) :: rest)) (rest := rest) (As := av) (b := zad g o) (C := N.1.cls) ⟨C0.1, C0.2.1, C0.2.2.2.1, C0.2.2.2.2.1, C0.2.2.2.2.2.1⟩ (hct z1 z2) ⟨cb, C0.2.2.2.2.2.1 _ hinst, C0.2.2.2.2.2.1 _ hsel⟩ ⟨zPc_blind, hrecv, zc_pre C0 hP hS⟩ rfl hn hl.1 rfl (lv_room hW) hdg ⟨by omega, by omega⟩) kx kk
/-- Math.max, min, abs -/
theorem e_mmax {x y : Int32} {idx : Nat} (hlink : Cond.methodLink mn.cls idx Lib.Math.max.name ∈ zT) (hstat : Cond.static Lib.Math.max.name ∈ zT) (hini : Cond.initialized "java/lang/Math" ∈ zT) (hcode : Cond.code Lib.Math.max.name Lib.Math.max.code 2 (some .int) ∈ zT) (hd : 1 ≤ dp) (hW : (rest.map fun v => v.category).sum ≤ 8)
    (hdg : decode cc pc = .ok (.invokestatic idx, 3)) (z : EV g l (mn, cc, nL, rt, dp, []) kb Q (pc + 3) ls (.int (if x < y then y else x) :: rest) σ) : EV g l (mn, cc, nL, rt, dp, []) kb Q pc ls (.int y :: .int x :: rest) σ := fun z1 z2 p e s m args below meth c R H locs cells slots la C0 hP hS hc0 hs hl => by
  have hf : dp ≤ R.frames := C0.2.2.2.2.2.2.2.2.1
  have hlo : 40 * dp ≤ R.locals := C0.2.2.2.2.2.2.2.2.2.1
  exact va_mmax C0.1 C0.2.1 (C0.2.2.2.1.trans hl.1.symm) C0.2.2.2.2.1 (C0.2.2.2.2.2.1 _ hlink) (C0.2.2.2.2.2.1 _ hstat) (C0.2.2.2.2.2.1 _ hini) (C0.2.2.2.2.2.1 _ hcode) (by omega) (by omega) (by omega) (by omega) hdg (z z1 z2 p e s m args below meth c R H locs cells slots la C0 hP hS hc0 hs hl)
theorem e_mmin {x y : Int32} {idx : Nat} (hlink : Cond.methodLink mn.cls idx Lib.Math.min.name ∈ zT) (hstat : Cond.static Lib.Math.min.name ∈ zT) (hini : Cond.initialized "java/lang/Math" ∈ zT) (hcode : Cond.code Lib.Math.min.name Lib.Math.min.code 2 (some .int) ∈ zT) (hd : 1 ≤ dp) (hW : (rest.map fun v => v.category).sum ≤ 8)
    (hdg : decode cc pc = .ok (.invokestatic idx, 3)) (z : EV g l (mn, cc, nL, rt, dp, []) kb Q (pc + 3) ls (.int (if y < x then y else x) :: rest) σ) : EV g l (mn, cc, nL, rt, dp, []) kb Q pc ls (.int y :: .int x :: rest) σ := fun z1 z2 p e s m args below meth c R H locs cells slots la C0 hP hS hc0 hs hl => by
  have hf : dp ≤ R.frames := C0.2.2.2.2.2.2.2.2.1
  have hlo : 40 * dp ≤ R.locals := C0.2.2.2.2.2.2.2.2.2.1
  exact va_mmin C0.1 C0.2.1 (C0.2.2.2.1.trans hl.1.symm) C0.2.2.2.2.1 (C0.2.2.2.2.2.1 _ hlink) (C0.2.2.2.2.2.1 _ hstat) (C0.2.2.2.2.2.1 _ hini) (C0.2.2.2.2.2.1 _ hcode) (by omega) (by omega) (by omega) (by omega) hdg (z z1 z2 p e s m args below meth c R H locs cells slots la C0 hP hS hc0 hs hl)
theorem e_mabs {x : Int32} {idx : Nat} (hlink : Cond.methodLink mn.cls idx Lib.Math.abs.name ∈ zT) (hstat : Cond.static Lib.Math.abs.name ∈ zT) (hini : Cond.initialized "java/lang/Math" ∈ zT) (hcode : Cond.code Lib.Math.abs.name Lib.Math.abs.code 1 (some .int) ∈ zT) (hd : 1 ≤ dp) (hW : (rest.map fun v => v.category).sum ≤ 8)
    (hdg : decode cc pc = .ok (.invokestatic idx, 3)) (z : EV g l (mn, cc, nL, rt, dp, []) kb Q (pc + 3) ls (.int (if 0 ≤ x then x else 0 - x) :: rest) σ) : EV g l (mn, cc, nL, rt, dp, []) kb Q pc ls (.int x :: rest) σ := fun z1 z2 p e s m args below meth c R H locs cells slots la C0 hP hS hc0 hs hl => by
  have hf : dp ≤ R.frames := C0.2.2.2.2.2.2.2.2.1
  have hlo : 40 * dp ≤ R.locals := C0.2.2.2.2.2.2.2.2.2.1
  exact va_mabs C0.1 C0.2.1 (C0.2.2.2.1.trans hl.1.symm) C0.2.2.2.2.1 (C0.2.2.2.2.2.1 _ hlink) (C0.2.2.2.2.2.1 _ hstat) (C0.2.2.2.2.2.1 _ hini) (C0.2.2.2.2.2.1 _ hcode) (by omega) (by omega) (by omega) (by omega) hdg (z z1 z2 p e s m args below meth c R H locs cells slots la C0 hP hS hc0 hs hl)
/-- System.arraycopy among int arrays -/
theorem e_copy {o1 o2 n1 n2 idx : Nat} {sp dq n : Int32} (h1 : zsh o1 = .inr (0, n1)) (h2 : zsh o2 = .inr (0, n2)) (ho1 : o1 < 163) (ho2 : o2 < 163) (hlink : Cond.methodLink mn.cls idx arraycopyName ∈ zT) (hnat : Cond.native arraycopyName ∈ zT) (hstat : Cond.static arraycopyName ∈ zT) (hini : Cond.initialized "java/lang/System" ∈ zT)
    (hsp : ¬ sp < 0) (hdq : ¬ dq < 0) (hn : ¬ n < 0) (h4 : sp.toNatClampNeg + n.toNatClampNeg ≤ n1) (h5 : dq.toNatClampNeg + n.toNatClampNeg ≤ n2) (hd : 2 ≤ dp) (hW : (rest.map fun v => v.category).sum ≤ 8)
    (hdg : decode cc pc = .ok (.invokestatic idx, 3)) (z : EV g l (mn, cc, nL, rt, dp, []) kb Q (pc + 3) ls rest (zpt σ o2 (va_cpy (σ.1 o1) (σ.1 o2) sp.toNatClampNeg dq.toNatClampNeg n.toNatClampNeg))) :
    EV g l (mn, cc, nL, rt, dp, []) kb Q pc ls (.int n :: .int dq :: .ref (zad g o2) :: .int sp :: .ref (zad g o1) :: rest) σ := fun z1 z2 p e s m args below meth c R H locs cells slots la C0 hP hS hc0 hs hl => by
  have hf : dp ≤ R.frames := C0.2.2.2.2.2.2.2.2.1
  have hlo : 40 * dp ≤ R.locals := C0.2.2.2.2.2.2.2.2.2.1
  have hw : nativeFrameWords "java/lang/System" "arraycopy" 5 ≤ 60 := by decide +kernel
  refine va_copyi C0.1 C0.2.1 (C0.2.2.2.1.trans hl.1.symm) C0.2.2.2.2.1 (C0.2.2.2.2.2.1 _ hlink) (C0.2.2.2.2.2.1 _ hnat) (C0.2.2.2.2.2.1 _ hstat) (C0.2.2.2.2.2.1 _ hini) C0.2.2.2.2.2.2.2.2.2.2.2.1 hP (zD_va z2 σ) hS (zpo o1) (zpo o2) 0 0 (zws_a ho1 h1 (by omega)) (zws_a ho2 h2 (by omega)) rfl rfl rfl hsp hdq hn h4 h5 (fun _ _ => rfl) (by omega) (by omega) hdg (fun H1 locs1 hP1 _ hS1 => ?_)
  rw [zws_puta ho2 h2 (by omega)] at hP1
  exact z z1 z2 p e s m args below meth c R H1 locs1 cells slots la C0 hP1 hS1 hc0 hs hl
/-- a text constant -/
theorem e_ldcS {idx i : Nat} {tx : String} (hi : zStrL[i]? = some (mn.cls, idx, tx)) (hdg : decode cc pc = .ok (.ldc idx, 2)) (z : EV g l (mn, cc, nL, rt, dp, []) kb Q (pc + 2) ls (.ref (g.2.2.2.2.1 i) :: rest) σ) : EV g l (mn, cc, nL, rt, dp, []) kb Q pc ls rest σ := fun z1 z2 p e s m args below meth c R H locs cells slots la C0 hP hS hc0 hs hl =>
  va_ldcS C0.1 C0.2.1 C0.2.2.2.2.1 (C0.2.2.2.2.2.2.2.2.2.2.2.2.2.2.2.1 i _ hi) hdg (z z1 z2 p e s m args below meth c R H locs cells slots la C0 hP hS hc0 hs hl)
/-- a contract out of its body -/
theorem CT_of {M : zM} {k : Nat} {av : List Value} (hM : M.2.2.2.2.2 = []) (hy : plainName M.1.cls = true) (hlen : (lg_sl av).length ≤ M.2.2.1) (h : EV g l M k Q 0 (lv_args 0 av) [] σ) : CT g l M k av σ Q := fun z1 z2 => by
  refine vx_ofW (cc := M.2.1) (maxL := M.2.2.1) (ret := M.2.2.2.1) hy rfl ?_
  intro p e s m args below meth c s₁ B hml htab hv
  obtain ⟨rfl, hB, hP, hK, hX⟩ := hv
  have hts := atoms_spec (ws := Cond.code M.1 M.2.1 M.2.2.1 M.2.2.2.1 :: zT) B.pre
  have C0 : zCx g M p s m av.toArray meth c (headSpec (Cond.code M.1 M.2.1 M.2.2.1 M.2.2.2.1 :: zT) (zRm M k)).room :=
    ⟨B.exec, B.bytes, B.returns, hml, findClass_of_methodNamed B.named, fun w hw => hts w (List.mem_cons_of_mem _ hw), B.notSynchronized, by
      rw [hM]
      cases hq : c.exceptionTable.toList with
      | nil => rfl
      | cons x r => exact absurd (by rw [hq]; exact List.mem_cons_self) (htab x), Nat.le_refl _, Nat.le_refl _, hB, hK, hX⟩
  have hl := lv_entry av (n := M.2.2.1) hlen
  rw [lg_entry_eq]
  exact h z1 z2 p e s m av.toArray below meth c _ s.heap [] 0 0 _ C0 hP va_S.rf (by simp [headSpec, zRm]) (by simp [headSpec, zRm]) hl
end ZC
