/-! what the reference's reading methods answer -/
section ZMR
variable {g : zG} {l : Launch} {K : Int32 → zS → Prop} {X : String → zS → Prop} {σ : zS} {m : Nat → Int32}
theorem bI_bl {p : Prop} [Decidable p] : zbl (bI p) := by
  unfold bI; split
  · exact zbl_1
  · exact zbl_0
theorem lg_ti (x y : Int64) : (lg_cmp x y < iI 0 ↔ x.toInt < y.toInt) ∧ (iI 0 < lg_cmp x y ↔ y.toInt < x.toInt) := by
  unfold lg_cmp
  simp only [fa_lt64, fa_eq64]
  by_cases h1 : y.toInt < x.toInt
  · rw [if_pos h1]
    exact ⟨⟨fun h => absurd h (by decide), fun h => by omega⟩, ⟨fun _ => h1, fun _ => by decide⟩⟩
  · rw [if_neg h1]
    by_cases h2 : x.toInt = y.toInt
    · rw [if_pos h2]
      exact ⟨⟨fun h => absurd h (by decide), fun h => by omega⟩, ⟨fun h => absurd h (by decide), fun h => by omega⟩⟩
    · rw [if_neg h2]
      exact ⟨⟨fun _ => by omega, fun _ => by decide⟩, ⟨fun h => absurd h (by decide), fun h => by omega⟩⟩
theorem fst_succ (m : Nat → Int32) (k : Nat) : fst m (k + 1) = fst m k + wd m k := rfl
theorem fst_0 (m : Nat → Int32) : fst m 0 = 0 := rfl
theorem fst_le (hw : WF m) : ∀ {k : Nat}, k ≤ nS m → fst m k ≤ 6 * k ∧ k ≤ fst m k
  | 0, _ => by rw [fst_0]; omega
  | k + 1, h => by
    have := fst_le hw (k := k) (by omega)
    have := wf_s hw (k := k) (by omega)
    rw [fst_succ]; omega
theorem fst_mono (m : Nat → Int32) {j k : Nat} (h : j ≤ k) : fst m j ≤ fst m k := by
  obtain ⟨d, rfl⟩ := Nat.exists_eq_add_of_le h
  exact fb_sm_mono (wd m) j d
theorem cols_le (hw : WF m) : cols m ≤ 60 ∧ nS m ≤ cols m := by
  have h1 := fst_le hw (k := nS m) (Nat.le_refl _)
  have := wf_b hw
  unfold cols; omega
theorem slat_no {c k : Nat} (h : k < slatOf m c) : fst m (k + 1) ≤ c := by
  have := fa_first_no _ _ _ h
  simp only [decide_eq_false_iff_not] at this
  omega
theorem slat_yes {c : Nat} (hc : c < cols m) : slatOf m c < nS m ∧ fst m (slatOf m c) ≤ c ∧ c < fst m (slatOf m c) + wd m (slatOf m c) := by
  have h0 : slatOf m c < nS m := by
    rcases Nat.lt_or_ge (slatOf m c) (nS m) with h | h
    · exact h
    · exfalso
      have h1 := fa_first_le (fun k => decide (c < fst m (k + 1))) (nS m)
      unfold cols at hc
      cases hn : nS m with
      | zero => rw [hn, fst_0] at hc; omega
      | succ n =>
        have := slat_no (m := m) (c := c) (k := n) (by unfold slatOf at h ⊢; omega)
        rw [hn] at hc; omega
  have h1 := fa_first_yes (fun k => decide (c < fst m (k + 1))) (nS m) h0
  simp only [decide_eq_true_eq] at h1
  refine ⟨h0, ?_, h1⟩
  cases hq : slatOf m c with
  | zero => rw [fst_0]; omega
  | succ n => exact slat_no (by omega)
theorem slat_eq {c k : Nat} (h1 : k < nS m) (h2 : fst m k ≤ c) (h3 : c < fst m (k + 1)) : slatOf m c = k := by
  have hc : c < cols m := Nat.lt_of_lt_of_le h3 (fst_mono m h1)
  obtain ⟨a1, a2, a3⟩ := slat_yes hc
  rcases Nat.lt_trichotomy (slatOf m c) k with h | h | h
  · have := fst_mono m (show slatOf m c + 1 ≤ k from h)
    rw [fst_succ] at this; omega
  · exact h
  · have := slat_no h
    omega
end ZMR

