/-! the joint invariant at the start -/
section ZSt
theorem clF_v : ∀ k, clF k = if k = 2 then 9 else if k = 0 then 4 else 0 := fun k => rfl
theorem clF_0 {k : Nat} (h : k ≠ 0) (h2 : k ≠ 2) : clF k = 0 := by rw [clF_v, if_neg h2, if_neg h]
theorem clF_n : nH clF = 4 ∧ nS clF = 0 ∧ nC clF = 9 ∧ nB clF = 0 := by decide
theorem clF_wf : WF clF := by
  obtain ⟨h1, h2, h3, h4⟩ := clF_n
  refine ⟨by decide, by decide, by decide, by decide, fun k hk => absurd hk (by omega), fun k hk => absurd hk (by omega), fun q hq _ => ?_⟩
  have e : qv clF q = 0 := by unfold qv; rw [clF_0 (by omega) (by omega)]; rfl
  omega
theorem clF_ct : Ct clF := fun k hk => clF_0 (by omega) (by omega)
theorem st_bt : ∀ k, k < 32 → bt 0 k = false := by decide
theorem st_Nw : Nw s0 clF := by
  obtain ⟨h1, h2, h3, h4⟩ := clF_n
  have hc : cols clF = 0 := by unfold cols; rw [h2]; rfl
  have hb : ∀ s, boxesOf clF s = 0 := fun s => by unfold boxesOf; rw [h4]; rfl
  refine ⟨⟨by rw [h1]; rfl, by rw [h3]; rfl, by rw [h2]; rfl, by rw [hc]; rfl, by rw [hb]; rfl, by rw [hb]; rfl, fun k hk => ?_, fun k hk => absurd hk (by omega), fun c hk => absurd hk (by omega)⟩, fun k hk => absurd hk (by omega)⟩
  rw [h2, show s0.1 73 6 = 0 from rfl, st_bt k hk]
  simp
theorem st_JI : JI s0 := by
  have f0 : ∀ {p : Nat → Prop} (i : Nat), i < 0 → p i := fun i h => absurd h (Nat.not_lt_zero i)
  refine ⟨clF, 0, fun _ => clF, 0, clF, 0, fun _ => 0, 0, fun _ => 0, 0, -1, ⟨st_Nw, ⟨0, by decide, by decide, rfl, rfl, f0⟩, ⟨by decide, rfl, fun h => absurd h (by decide)⟩, ⟨by decide, rfl, f0⟩, ⟨by decide, rfl, f0⟩, ⟨rfl, rfl⟩⟩, ⟨rfl, ⟨rfl, by decide, f0⟩, ⟨by decide, rfl, fun h => absurd h (by decide)⟩, ⟨by decide, rfl, Or.inr ⟨rfl, rfl⟩, f0⟩, ⟨by decide, rfl, f0⟩, ⟨rfl, rfl⟩⟩, ⟨clF_wf, clF_ct, f0, fun h => absurd h (by decide)⟩, f0⟩
end ZSt
