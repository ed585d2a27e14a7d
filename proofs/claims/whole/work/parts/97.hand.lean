/-! calls in a method that catches -/
section ZHd
variable {g : zG} {l : Launch} {kb : Nat} {Q : zR → zS → Prop} {pc : Nat} {ls : List (Nat × Value)} {rest : List Value} {σ : zS}
/-- a throw of E at pc lands at hp -/
def hLand (M : zM) (pc : Nat) (E : String) (hp : Nat) : Prop := ∃ pre x suf, tableOf M.2.2.2.2.2 = pre ++ x :: suf ∧ (∀ z ∈ pre, covers z pc = false ∨ (z.catchType ≠ 0 ∧ ∃ nm, Cond.classLink M.1.cls z.catchType nm ∈ zT ∧ (E, nm) ∈ zNcL)) ∧ covers x pc = true ∧ x.catchType ≠ 0 ∧ Cond.classLink M.1.cls x.catchType E ∈ zT ∧ E ∈ zCastL ∧ x.handlerPc = hp
theorem zc_runH {M : zM} {j1 j2 : Nat} {st0 : List Value} {Qc : zR → zS → Prop} {p : Program} {e : Env} {s : State} {m : MethodId} {args : Array Value} {below : List Frame} {meth : Method} {c : Code} {R : Room} {H : Heap} {locs : List Loc} {cells slots : Nat} {la : Array Slot} {a : Array Value}
    (z1 : l.stackTraces = false) (z2 : zD g) (C0 : zCx g M p s m args meth c R) (hS : va_S (zA g) s.heap H locs) (hj : j1 + j2 ≤ kb) (hc : cells + kb ≤ R.cells) (hs : slots + 6 * kb ≤ R.slots) (hl : lv_has la M.2.2.1 ls)
    (hrun : vx_Run p l e R s m args below meth c H locs cells slots j1 (6 * j1) (F0 m pc la st0) rest (zQc g Qc a) (zXc g Qc) (zA g))
    (kx : ∀ (E : String) (σ' : zS), Qc (.inr E) σ' → ∃ hp, hLand M pc E hp ∧ ∀ q : Addr, EV g l M j2 Q hp ls [.ref q] σ')
    (kk : ∀ (v : Option Value) (σ' : zS), Qc (.inl v) σ' → EV g l M j2 Q (pc + 3) ls (v.toList ++ rest) σ') :
    W p l e R s m args below meth c H locs cells slots (vx_MQ below (zQc g Q) (zXc g Q) args s R.cells R.slots (zA g)) (F0 m pc la st0) := by
  intro T hT X
  rcases hrun T hT X with ⟨v, st₀, t, T', L, h0, X', hL, e1, e2, ⟨⟨v', σ', hv, hq, hP'⟩, hF⟩, st⟩ | ⟨q, st₀, t, T', L, E, ce, h0, X', hL, e1, e2, ⟨⟨σ', hq, hP'⟩, hF⟩, hce, hcv, hcl, st⟩
  · obtain ⟨k1, k2, k3⟩ := vx_keep h0 e1 hS (fun _ _ h => h) (fun _ h => h) hL hF
    cases hv
    obtain ⟨t2, a1, b1⟩ := kk v σ' hq z1 z2 p e s m args below meth c R T'.heap (locs ++ L) (cells + j1) (slots + 6 * j1) la C0 (by rw [e1]; exact hP') k3 (by omega) (by omega) hl T' rfl X'
    exact ⟨t2, st t2 a1, b1⟩
  · obtain ⟨k1, k2, k3⟩ := vx_keep h0 e1 hS (fun _ _ h => h) (fun _ h => h) hL hF
    obtain ⟨hp, ⟨pre, x, suf, y1, y2, y3, y4, y5, y6, y7⟩, kh⟩ := kx E σ' hq
    have hX := C0.2.2.2.2.2.2.2.2.2.2.2.2
    have kW := kh q z1 z2 p e s m args below meth c R T'.heap (locs ++ L) (cells + j1) (slots + 6 * j1) la C0 (by rw [e1]; exact hP') k3 (by omega) (by omega) hl
    obtain ⟨t2, a1, b1⟩ := vx_catch (p := p) (l := l) (e := e) (R := R) (s := s) (m := m) (args := args) (below := below) (meth := meth) (c := c) (H := T'.heap) (locs := locs ++ L) (cells := cells + j1) (slots := slots + 6 * j1) (pc := pc) (ls := la) (rest := rest) (name := E) (ce := ce) (q := q) (own := M.1.cls) (E := E)
      C0.2.2.2.2.1 pre x suf (C0.2.2.2.2.2.2.2.1.trans y1) (fun z hz => (y2 z hz).imp id (fun h => ⟨h.1, h.2.elim (fun nm k => ⟨nm, C0.2.2.2.2.2.1 _ k.1, hX.2.2.1 _ k.2⟩)⟩)) y3 y4 (C0.2.2.2.2.2.1 _ y5) (va_Nw.use rfl (hX.2.1 _ y6)) (by rw [e1]; exact hce) hcv hcl (by rw [y7]; exact kW) T' rfl X'
    exact ⟨t2, st.trans a1, b1⟩
/-- a call on an object of the world, in a method that catches -/
theorem e_callVH {mn : MethodName} {cc : ByteArray} {nL : Nat} {rt : Option FieldType} {dp : Nat} {hh : List (Nat × Nat × Nat × Nat)} {N : zM} {j1 j2 n idx o ci : Nat} {sl : List zK} {q : vw_C} {av : List Value} {Qc : zR → zS → Prop} {st : List Value} (hst : st = av.reverse ++ .ref (zad g o) :: rest) (hsh : zsh o = .inl (ci, sl)) (ho : o < 163) (hcl : vwCl[ci]? = some q) (hq : q.1 = N.1.cls) (hct : CT g l N j1 (.ref (zad g o) :: av) σ Qc) (hi : zIn N n) (hn : av.length = n)
    (hinst : Cond.instanceMethod N.1 ∈ zT) (hsel : Cond.selects N.1.cls N.1 N.1 ∈ zT) (hlink : Cond.methodLink mn.cls idx N.1 ∈ zT)
    (hd : N.2.2.2.2.1 + 1 ≤ dp) (hj : j1 + j2 ≤ kb) (hW : (rest.map fun v => v.category).sum ≤ 8) (hdg : decode cc pc = .ok (.invokevirtual idx, 3))
    (kk : ∀ (v : Option Value) (σ' : zS), Qc (.inl v) σ' → EV g l (mn, cc, nL, rt, dp, hh) j2 Q (pc + 3) ls (v.toList ++ rest) σ') (kx : ∀ (E : String) (σ' : zS), Qc (.inr E) σ' → ∃ hp, hLand (mn, cc, nL, rt, dp, hh) pc E hp ∧ ∀ q : Addr, EV g l (mn, cc, nL, rt, dp, hh) j2 Q hp ls [.ref q] σ') :
    EV g l (mn, cc, nL, rt, dp, hh) kb Q pc ls st σ := fun z1 z2 p e s m args below meth c R H locs cells slots la C0 hP hS hc0 hs hl => by
  subst hst
  have hr := zc_room (M := (mn, cc, nL, rt, dp, hh)) (j := j1) C0.2.2.2.2.2.2.2.2.1 C0.2.2.2.2.2.2.2.2.2.1 hi hd
  have cb := callB_of (R := R) (own := mn.cls) (index := idx) (mc := j1) (ms := 6 * j1) (rm := zRm N j1) n C0.2.2.2.2.2.1 (zT_goodIn hi.1) rfl rfl rfl (C0.2.2.2.2.2.1 _ hi.2.1) (C0.2.2.2.2.2.1 _ hlink) ⟨hi.2.2.1.1, hi.2.2.1.2, hi.2.2.2.1⟩ hr
  have hrecv := va_recv C0.2.2.2.2.2.2.2.2.2.2.2.1 hP hcl (zws_o ho hsh)
  rw [hq] at hrecv
  exact zc_runH z1 z2 C0 hS hj hc0 hs hl (vx_runV (g := F0 m pc la (av.reverse ++ .ref (zad g o) :: rest)) (rest := rest) (As := av) (b := zad g o) (C := N.1.cls) ⟨C0.1, C0.2.1, C0.2.2.2.1, C0.2.2.2.2.1, C0.2.2.2.2.2.1⟩ (hct z1 z2) ⟨cb, C0.2.2.2.2.2.1 _ hinst, C0.2.2.2.2.2.1 _ hsel⟩ ⟨zPc_blind, hrecv, zc_pre C0 hP hS⟩ rfl hn hl.1 rfl (lv_room hW) hdg ⟨by omega, by omega⟩) kx kk
end ZHd
