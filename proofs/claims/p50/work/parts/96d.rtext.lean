/-! what is read of the grown text is the row -/
section RTg
variable {f : Nat → Nat} {n : Nat} {P : Nat → Nat → Nat}
theorem Ag.h {m : Nat → Int32} {H C S B : Nat} (h : Ag P m H C S B) (v : Nat) : Ag P (upd m 0 (iI v)) v C S B := by
  obtain ⟨h1, h2, h3, h4, h5, h6, h7⟩ := h
  refine ⟨pk_us, by rw [pk_un (by omega)]; exact h2, ?_, ?_, fun k hk => by rw [pk_un (by omega)]; exact h5 k hk, fun k hk j hj => by rw [pk_un (by omega)]; exact h6 k hk j hj, fun b hb j hj => by rw [pk_un (by omega)]; exact h7 b hb j hj⟩
  · rw [nS_up (by omega)]; exact h3
  · rw [nB_up (by omega)]; exact h4
theorem Ag.c {m : Nat → Int32} {H C S B : Nat} (h : Ag P m H C S B) (v : Nat) : Ag P (upd m 2 (iI v)) H v S B := by
  obtain ⟨h1, h2, h3, h4, h5, h6, h7⟩ := h
  refine ⟨by rw [pk_un (by omega)]; exact h1, pk_us, ?_, ?_, fun k hk => by rw [pk_un (by omega)]; exact h5 k hk, fun k hk j hj => by rw [pk_un (by omega)]; exact h6 k hk j hj, fun b hb j hj => by rw [pk_un (by omega)]; exact h7 b hb j hj⟩
  · rw [nS_up (by omega)]; exact h3
  · rw [nB_up (by omega)]; exact h4
theorem Ag.new : Ag P mNew 4 9 0 0 := by
  have e : ∀ q, q ≠ 0 → q ≠ 2 → mNew q = 0 := fun q a b => by unfold mNew; rw [pk_un b, pk_un a]
  exact ⟨rfl, rfl, rfl, rfl, fun k hk => e _ (by omega) (by omega), fun k hk => absurd hk (Nat.not_lt_zero k), fun k hk => absurd hk (Nat.not_lt_zero k)⟩
theorem tk_end {q : Nat} {bl : List Nat} (hb : ∀ c ∈ bl, isB c) (h : Tl f n q (bl ++ [])) : ztK f n q = 0 := by
  obtain ⟨z1, z2⟩ := zs_bl h hb (fun c hc => by cases hc)
  refine ztK_0.mpr ?_
  have := z2.1
  rw [List.length_nil] at this
  omega
theorem rText_g (hP : pOk P) (h : Tl f n 0 (gText P)) : ∃ m', rText f n = .inr m' ∧ Ag P m' (gNH P) (gNC P) (gNS P) (gNB P) := by
  have hS : gNS P < 5 := hP 3 5 (by omega)
  have hB : gNB P < 8 := hP 4 8 (by omega)
  have hH := gH_b hP
  have hC := gC_b hP
  have fin : ∀ (fu q hi : Nat) (bl : List Nat) (m : Nat → Int32), (∀ c ∈ bl, isB c) → Tl f n q (bl ++ coT P) → Ag P m (gNH P) 9 (gNS P) (gNB P) → (∃ m', pAll f n (fun c q => (.inl (c, q) : (Nat × Nat) ⊕ (Nat → Int32))) (fun m => .inr m) (fu + 2) q m hi 0 = .inr m' ∧ Ag P m' (gNH P) (gNC P) (gNS P) (gNB P)) := by
    intro fu q hi bl m hb ht ha
    have e2 : ∀ (k q co : Nat) (m : Nat → Int32), pAll f n (fun c q => (.inl (c, q) : (Nat × Nat) ⊕ (Nat → Int32))) (fun m => .inr m) (k + 1) q m hi co = if ztK f n q = 0 then .inr m else pStat f n q m hi co (fun c q => .inl (c, q)) (fun p' m' hi' co' => pAll f n (fun c q => (.inl (c, q) : (Nat × Nat) ⊕ (Nat → Int32))) (fun m => .inr m) k p' m' hi' co') := fun _ _ _ _ => rfl
    by_cases q0 : P 5 2 = 0
    · have eT : coT P = zC 3 ++ digs (gNC P) ++ zC 8 ++ [] := (if_pos q0).trans (List.append_nil _).symm
      rw [eT] at ht
      obtain ⟨q2, z0, z1, z2⟩ := st_coat (m := m) (hi := hi) (co := 0) (kE := fun c q => (.inl (c, q) : (Nat × Nat) ⊕ (Nat → Int32))) (kO := fun p' m' hi' co' => pAll f n (fun c q => (.inl (c, q) : (Nat × Nat) ⊕ (Nat → Int32))) (fun m => .inr m) (fu + 1) p' m' hi' co') hC.1 hC.2 ht hb (by omega)
      refine ⟨_, ?_, ha.c (gNC P)⟩
      rw [e2 (fu + 1), if_neg z0, z2, e2 fu, if_pos (tk_end bl_0 z1)]
    · have eT : coT P = [] := if_neg q0
      have eC : gNC P = 9 := if_neg q0
      rw [eT] at ht
      refine ⟨m, ?_, by rw [eC]; exact ha⟩
      rw [e2 (fu + 1), if_pos (tk_end hb ht)]
  have main : ∀ (fu q hi : Nat) (m : Nat → Int32), Tl f n q (slsF P 0 (gNS P) ++ (bxsF P 0 (gNB P) ++ coT P)) → Ag P m (gNH P) 9 0 0 → (∃ m', pAll f n (fun c q => (.inl (c, q) : (Nat × Nat) ⊕ (Nat → Int32))) (fun m => .inr m) (fu + 2 + gNB P + gNS P) q m hi 0 = .inr m' ∧ Ag P m' (gNH P) (gNC P) (gNS P) (gNB P)) := by
    intro fu q hi m ht ha
    refine all_sl' (S := gNS P) (R := fun x : (Nat × Nat) ⊕ (Nat → Int32) => ∃ m', x = .inr m' ∧ Ag P m' (gNH P) (gNC P) (gNS P) (gNB P)) hP (by omega) (fun q1 bl1 m1 b1 t1 a1 => ?_) (gNS P) 0 q [] m (by omega) bl_0 ht ha
    exact all_bx (S := gNS P) (B := gNB P) (R := fun x : (Nat × Nat) ⊕ (Nat → Int32) => ∃ m', x = .inr m' ∧ Ag P m' (gNH P) (gNC P) (gNS P) (gNB P)) hP (by omega) (by omega) (fun q2 bl2 m2 b2 t2 a2 => fin fu q2 hi bl2 m2 b2 t2 a2) (gNB P) 0 q1 bl1 m1 (by omega) b1 t1 a1
  have e1 : slsT P (gNS P) = slsF P 0 (gNS P) := by have := slsF_T P (gNS P) 0; rw [Nat.zero_add] at this; exact this.symm
  have e2 : bxsT P (gNB P) = bxsF P 0 (gNB P) := by have := bxsF_T P (gNB P) 0; rw [Nat.zero_add] at this; exact this.symm
  unfold gText at h
  rw [e1, e2] at h
  unfold rText
  by_cases q0 : P 1 2 = 0
  · have eT : hiT P = zC 7 ++ digs (gNH P) ++ zC 8 := if_pos q0
    rw [eT] at h
    have h' : Tl f n 0 ([] ++ (zC 7 ++ digs (gNH P) ++ zC 8 ++ (slsF P 0 (gNS P) ++ (bxsF P 0 (gNB P) ++ coT P)))) := by
      simpa only [List.append_assoc, List.nil_append] using h
    obtain ⟨q2, z0, z1, z2⟩ := st_high (m := mNew) (hi := 0) (co := 0) (kE := fun c q => (.inl (c, q) : (Nat × Nat) ⊕ (Nat → Int32))) (kO := fun p' m' hi' co' => pAll f n (fun c q => (.inl (c, q) : (Nat × Nat) ⊕ (Nat → Int32))) (fun m => .inr m) 599 p' m' hi' co') hH.1 (by omega) h' bl_0 (by omega)
    have e3 : pAll f n (fun c q => (.inl (c, q) : (Nat × Nat) ⊕ (Nat → Int32))) (fun m => .inr m) 600 0 mNew 0 0 = if ztK f n 0 = 0 then .inr mNew else pStat f n 0 mNew 0 0 (fun c q => .inl (c, q)) (fun p' m' hi' co' => pAll f n (fun c q => (.inl (c, q) : (Nat × Nat) ⊕ (Nat → Int32))) (fun m => .inr m) 599 p' m' hi' co') := rfl
    rw [e3, if_neg z0, z2]
    have := main (597 - gNB P - gNS P) q2 1 (upd mNew 0 (iI (gNH P))) z1 (Ag.new.h (gNH P))
    rw [show 597 - gNB P - gNS P + 2 + gNB P + gNS P = 599 by omega] at this
    exact this
  · have eT : hiT P = [] := if_neg q0
    have eH : gNH P = 4 := if_neg q0
    rw [eT] at h
    have h' : Tl f n 0 (slsF P 0 (gNS P) ++ (bxsF P 0 (gNB P) ++ coT P)) := by
      simpa only [List.append_assoc, List.nil_append] using h
    have := main (598 - gNB P - gNS P) 0 0 mNew h' (by rw [eH]; exact Ag.new)
    rw [show 598 - gNB P - gNS P + 2 + gNB P + gNS P = 600 by omega] at this
    exact this
/-! rows alike -/
theorem Ag.nH {m : Nat → Int32} {H C S B : Nat} (h : Ag P m H C S B) (hb : H < 1000) : nH m = H := by
  show (qv m 0).toNat = H
  unfold qv
  rw [h.1, iI_ti (by omega) (by omega)]
  rfl
theorem Ag.nC {m : Nat → Int32} {H C S B : Nat} (h : Ag P m H C S B) (hb : C < 1000) : nC m = C := by
  show (qv m 2).toNat = C
  unfold qv
  rw [h.2.1, iI_ti (by omega) (by omega)]
  rfl
end RTg
theorem WQ.cong {G : fG} {ω : fW} {ax : Nat} {p : Nat → Nat} {H C S B : Nat} {m m' : Nat → Int32} {fa : Nat → Nat → Nat → Int32} (h : WQ G ω ax p H C S B m fa) (hS : ∀ k, k < S → ∀ j, j < 5 → m' (4 + 5 * k + j) = m (4 + 5 * k + j)) (hB : ∀ b, b < B → ∀ j, j < 6 → m' (54 + 6 * b + j) = m (54 + 6 * b + j)) : WQ G ω ax p H C S B m' fa := by
  obtain ⟨a1, a2, a3, a4, a5, a6, a7, a8⟩ := h
  refine ⟨a1, a2, a3, a4, a5, fun k hk => ?_, fun b hb => ?_, a8⟩
  · obtain ⟨f, z1, z2⟩ := a6 k hk
    exact ⟨f, z1, fun j hj => (z2 j hj).trans (hS k hk j hj).symm⟩
  · obtain ⟨f, z1, z2⟩ := a7 b hb
    exact ⟨f, z1, fun j hj => (z2 j hj).trans (hB b hb j hj).symm⟩
