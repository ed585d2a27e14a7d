/-! calls in a method that catches -/
section ZHd
variable {g : zG} {l : Launch} {kb : Nat} {Q : zR → zS → Prop} {pc : Nat} {ls : List (Nat × Value)} {rest : List Value} {σ : zS}
/-- a throw of E at pc lands at hp -/
def hLand (M : zM) (pc : Nat) (E : String) (hp : Nat) : Prop := ∃ pre x suf, tableOf M.2.2.2.2.2 = pre ++ x :: suf ∧ (∀ z ∈ pre, covers z pc = false ∨ (z.catchType ≠ 0 ∧ ∃ nm, Cond.classLink M.1.cls z.catchType nm ∈ zT ∧ (E, nm) ∈ zNcL)) ∧ covers x pc = true ∧ x.catchType ≠ 0 ∧ Cond.classLink M.1.cls x.catchType E ∈ zT ∧ E ∈ zCastL ∧ x.handlerPc = hp
theorem zc_runH {M : zM} {j1 j2 : Nat} {st0 : List Value} {Qc : zR → zS → Prop} {p : Program} {e : Env} {s : State} {m : MethodId} {args : Array Value} {below : List Frame} {meth : Method} {c : Code} {R : Room} {H : Heap} {locs : List Loc} {cells slots : Nat} {la : Array Slot} {a : Array Value}
    (z1 : l.stackTraces = false) (z2 : zD g) (C0 : zCx g M p s m args meth c R) (hS : va_S (zA g) s.heap H locs) (hj : j1 + j2 ≤ kb) (hc : cells + kb ≤ R.cells) (hs : slots + 6 * kb ≤ R.slots) (hl : lv_has la M.2.2.1 ls)
    (hrun : vx_Run p l e R s m args below meth c H locs cells slots j1 (6 * j1) (F0 m pc la st0) rest (zQc g Qc a) (zXc g Qc) (zA g))
    (kx : ∀ (E : String) (σ' : zS), Qc (.inr E) σ' → ∃ hp, hLand M pc E hp ∧ ∀ q : Addr, EV g l M j2 Q hp ls [.ref q] σ')
    (kk : ∀ (v : Option Value) (σ' : zS), Qc (.inl v) σ' → EV g l M j2 Q (pc + 3) ls (v.toList ++ rest) σ') :
    W p l e R s m args below meth c H locs cells slots (vx_MQ below (zQc g Q) (zXc g Q) args s R.cells R.slots (zA g)) (F0 m pc la st0) := by
  intro T hT X
  rcases hrun T hT X with ⟨v, st₀, t, T', L, h0, X', hL, e1, e2, ⟨⟨v', σ', hv, hq, hP'⟩, hF⟩, st⟩ | ⟨q, st₀, t, T', L, E, ce, h0, X', hL, e1, e2, ⟨⟨σ', hq, hP'⟩, hF⟩, hce, hcv, hcl, st⟩
  · obtain ⟨k1, k2, k3⟩ := vx_keep h0 e1 hS (fun _ _ h => h) (fun _ h => h) hL hF
    cases hv
    obtain ⟨t2, a1, b1⟩ := kk v σ' hq z1 z2 p e s m args below meth c R T'.heap (locs ++ L) (cells + j1) (slots + 6 * j1) la C0 (by rw [e1]; exact hP') k3 (by omega) (by omega) hl T' rfl X'
    exact ⟨t2, st t2 a1, b1⟩
  · obtain ⟨k1, k2, k3⟩ := vx_keep h0 e1 hS (fun _ _ h => h) (fun _ h => h) hL hF
    obtain ⟨hp, ⟨pre, x, suf, y1, y2, y3, y4, y5, y6, y7⟩, kh⟩ := kx E σ' hq
    have hX := C0.2.2.2.2.2.2.2.2.2.2.2.2
    have kW := kh q z1 z2 p e s m args below meth c R T'.heap (locs ++ L) (cells + j1) (slots + 6 * j1) la C0 (by rw [e1]; exact hP') k3 (by omega) (by omega) hl
    obtain ⟨t2, a1, b1⟩ := vx_catch (p := p) (l := l) (e := e) (R := R) (s := s) (m := m) (args := args) (below := below) (meth := meth) (c := c) (H := T'.heap) (locs := locs ++ L) (cells := cells + j1) (slots := slots + 6 * j1) (pc := pc) (ls := la) (rest := rest) (name := E) (ce := ce) (q := q) (own := M.1.cls) (E := E)
      C0.2.2.2.2.1 pre x suf (C0.2.2.2.2.2.2.2.1.trans y1) (fun z hz => (y2 z hz).imp id (fun h => ⟨h.1, h.2.elim (fun nm k => ⟨nm, C0.2.2.2.2.2.1 _ k.1, hX.2.2.1 _ k.2⟩)⟩)) y3 y4 (C0.2.2.2.2.2.1 _ y5) (va_Nw.use rfl (hX.2.1 _ y6)) (by rw [e1]; exact hce) hcv hcl (by rw [y7]; exact kW) T' rfl X'
    exact ⟨t2, st.trans a1, b1⟩
end ZHd
