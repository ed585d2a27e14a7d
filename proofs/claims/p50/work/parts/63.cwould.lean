/-! the class: what would be -/
section ZCW
variable {g : zG} {l : Launch} {K : Int32 → zS → Prop} {X : String → zS → Prop} {m : Nat → Int32} {σ : zS}
abbrev LW : List Nat := [19, 20, 21, 22]
theorem LV_LW : ∀ b, b ∈ LV → b ∈ LW := by decide
theorem c_rightOfTrial {t : Nat → Int} (hN : Nw σ m) (hw : WF m) (ht : ∀ k, k < nS m → -4 ≤ t k ∧ t k ≤ 4) (hT : ∀ k, k < nS m → σ.1 22 k = iI (t k)) {a : Int} (ha : -6 ≤ a ∧ a ≤ 6) {s : Nat} (hs : s < 2) (H : ∀ τ, FrL LV σ τ → K (iI (rgt (wT m t) a s)) τ) : CT g l M_X6_rightOfTrial 0 [.ref (zad g 0), .int (iI a), .int (iI s)] σ (zQi K X) := by
  have hw' := wT_wf hw ht
  refine b_X6_rightOfTrial (c_look (t := 22) rfl (by decide) (by decide) (hN.1.wT (t := t) hw) (RT.wT ht hT) hw' ha (fun τ hF hV => ?_))
  have hR' := hF.R0 (o := 73) (by decide) (hN.1.wT (t := t) hw)
  rw [hR'.2.2.2.1]
  exact c_rightAll hw' hR' hV hs (H τ hF)
theorem c_turnAfterPull (hN : Nw σ m) (hw : WF m) {k : Nat} (hk : k < nS m) {b : Int} (hb : -1000000 ≤ b ∧ b ≤ 1000000) (H : K (iI (plT m b k)) σ) : CT g l M_X0_turnAfterPull 0 [.ref (zad g 73), .int (iI k), .int (iI b)] σ (zQi K X) := by
  have hwb := wf_b hw
  have hs := wf_s hw hk
  unfold plT at H
  refine b_X0_turnAfterPull zB_73 (c_isTied zB_73 hN.1 hw hk ?_)
  rw [tnk hk (by omega), hN.2 k hk, iI_add, show (-4 : Int32) = iI (-4) from rfl, show (4 : Int32) = iI 4 from rfl, iI_min (by omega) (by omega) (by omega) (by omega), iI_max (by omega) (by omega) (by omega) (by omega)]
  try simp (disch := omega) only [iI_add, iI_sub, iI_mul, iI_neg, iI_n, iI_lt, iI_le, iI_eq, iI_tn, iI_ti, bI_0, bI_1, iI_L, iL_0, Decidable.not_not, Int.toNat_natCast, zpt_at, zpt_ne, pk_us, pk_un, forall_eq, tn_0, tn_1, tn_2, tn_3, tn_4, tn_5, ni_1, ni_2, ni_3, ni_4, ni_5, not_false_eq_true, not_true_eq_false, true_implies, false_implies, and_true, true_and, iL_6, iL_m6, iL_7, iL_8, iL_9, iL_4, iL_m4, iL_m8, li_0, li_1, li_2, li_3, li_4, li_5, li_6, li_7, li_8, li_9, li_10, li_11, li_12, li_13, li_15, li_16, li_18, li_20, li_24, li_31, li_32, li_40, li_46, li_48, li_57, li_59, li_60, li_61, li_63, li_64, li_97, li_99, li_122, li_124, li_150, li_255, li_480, li_488, li_600, li_999, li_1110, li_54]
  refine ⟨fun h => ⟨in10 hk hwb.2.2.1, ?_⟩, fun h => ⟨in10 hk hwb.2.2.1, ?_⟩⟩
  · rw [if_pos (by omega)] at H; exact H
  · rw [if_neg (by omega)] at H; exact H
theorem c_rap_3 {σ0 : zS} (hN : Nw σ0 m) (hw : WF m) {b a : Int} (hb : -1000000 ≤ b ∧ b ≤ 1000000) (ha : -6 ≤ a ∧ a ≤ 6) {s : Nat} (hs : s < 2) (H : ∀ τ, FrL LW σ0 τ → K (iI (rgt (wT m (plT m b)) a s)) τ) (k : Nat) (hk : k ≤ nS m) (σ : zS) (hF : FrL LW σ0 σ) (hT : ∀ j, j < k → σ.1 22 j = iI (plT m b j)) : L_X6_rightAfterPull_3 g l K X (iI b) (iI a) (iI s) (iI k) σ := by
  have hwb := wf_b hw
  have hN' := hN.fr hF (by decide)
  have ih := fun h => c_rap_3 hN hw hb ha hs H (k + 1) h
  refine b_X6_rightAfterPull_3 ?_
  rw [hN'.1.2.2.1]
  try simp (disch := omega) only [iI_add, iI_sub, iI_mul, iI_neg, iI_n, iI_lt, iI_le, iI_eq, iI_tn, iI_ti, bI_0, bI_1, iI_L, iL_0, Decidable.not_not, Int.toNat_natCast, zpt_at, zpt_ne, pk_us, pk_un, forall_eq, tn_0, tn_1, tn_2, tn_3, tn_4, tn_5, ni_1, ni_2, ni_3, ni_4, ni_5, not_false_eq_true, not_true_eq_false, true_implies, false_implies, and_true, true_and, iL_6, iL_m6, iL_7, iL_8, iL_9, iL_4, iL_m4, iL_m8, li_0, li_1, li_2, li_3, li_4, li_5, li_6, li_7, li_8, li_9, li_10, li_11, li_12, li_13, li_15, li_16, li_18, li_20, li_24, li_31, li_32, li_40, li_46, li_48, li_57, li_59, li_60, li_61, li_63, li_64, li_97, li_99, li_122, li_124, li_150, li_255, li_480, li_488, li_600, li_999, li_1110, li_54]
  refine ⟨fun h => ?_, fun h => ?_⟩
  · obtain rfl : k = nS m := by omega
    exact c_rightOfTrial (t := plT m b) hN' hw (fun j hj => plT_b hw b hj) hT ha hs (fun τ hF' => H τ (hF.tr (hF'.sub LV_LW)))
  · have hk' : k < nS m := by omega
    refine c_turnAfterPull hN' hw hk' hb ⟨in10 hk' hwb.2.2.1, ?_⟩
    try simp (disch := omega) only [iI_add, iI_sub, iI_mul, iI_neg, iI_n, iI_lt, iI_le, iI_eq, iI_tn, iI_ti, bI_0, bI_1, iI_L, iL_0, Decidable.not_not, Int.toNat_natCast, zpt_at, zpt_ne, pk_us, pk_un, forall_eq, tn_0, tn_1, tn_2, tn_3, tn_4, tn_5, ni_1, ni_2, ni_3, ni_4, ni_5, not_false_eq_true, not_true_eq_false, true_implies, false_implies, and_true, true_and, iL_6, iL_m6, iL_7, iL_8, iL_9, iL_4, iL_m4, iL_m8, li_0, li_1, li_2, li_3, li_4, li_5, li_6, li_7, li_8, li_9, li_10, li_11, li_12, li_13, li_15, li_16, li_18, li_20, li_24, li_31, li_32, li_40, li_46, li_48, li_57, li_59, li_60, li_61, li_63, li_64, li_97, li_99, li_122, li_124, li_150, li_255, li_480, li_488, li_600, li_999, li_1110, li_54]
    refine ih hk' _ (hF.up (by decide) _) (fun j hj => ?_)
    rw [zpt_at]
    by_cases e : j = k
    · subst e; rw [pk_us]
    · rw [pk_un e]; exact hT j (by omega)
termination_by nS m - k
theorem c_rap (hN : Nw σ m) (hw : WF m) {b a : Int} (hb : -1000000 ≤ b ∧ b ≤ 1000000) (ha : -6 ≤ a ∧ a ≤ 6) {s : Nat} (hs : s < 2) (H : ∀ τ, FrL LW σ τ → K (iI (rgt (wT m (plT m b)) a s)) τ) : CT g l M_X6_rightAfterPull 0 [.ref (zad g 0), .int (iI b), .int (iI a), .int (iI s)] σ (zQi K X) :=
  b_X6_rightAfterPull (c_rap_3 hN hw hb ha hs H 0 (Nat.zero_le _) σ (FrL.rf _ _) (fun j hj => absurd hj (Nat.not_lt_zero j)))
theorem c_bestTurn_51 {σ0 : zS} (hN : Nw σ0 m) (hw : WF m) {k s : Nat} (hk : k < nS m) (hs : s < 2) {a : Int} (ha : -6 ≤ a ∧ a ≤ 6) (H : ∀ τ, FrL LW σ0 τ → K (iI (btN m k a s (-4) 9).1) τ) (j : Nat) (hj : j ≤ 9) (σ : zS) (hF : FrL LW σ0 σ) (hT : ∀ i, i < nS m → i ≠ k → σ.1 22 i = iI (tu m i)) : L_X6_bestTurn_51 g l K X (iI k) (iI a) (iI s) (iI (btN m k a s (-4) j).1) (iI (btN m k a s (-4) j).2) (iI (-4 + (j : Int))) σ := by
  have hwb := wf_b hw
  have hb := btN_b hw k a s (-4) hj
  have hN' := hN.fr hF (by decide)
  have ih := fun h => c_bestTurn_51 hN hw hk hs ha H (j + 1) h
  refine b_X6_bestTurn_51 ?_
  rw [tnk hk (by omega)]
  try simp (disch := omega) only [iI_add, iI_sub, iI_mul, iI_neg, iI_n, iI_lt, iI_le, iI_eq, iI_tn, iI_ti, bI_0, bI_1, iI_L, iL_0, Decidable.not_not, Int.toNat_natCast, zpt_at, zpt_ne, pk_us, pk_un, forall_eq, tn_0, tn_1, tn_2, tn_3, tn_4, tn_5, ni_1, ni_2, ni_3, ni_4, ni_5, not_false_eq_true, not_true_eq_false, true_implies, false_implies, and_true, true_and, iL_6, iL_m6, iL_7, iL_8, iL_9, iL_4, iL_m4, iL_m8, li_0, li_1, li_2, li_3, li_4, li_5, li_6, li_7, li_8, li_9, li_10, li_11, li_12, li_13, li_15, li_16, li_18, li_20, li_24, li_31, li_32, li_40, li_46, li_48, li_57, li_59, li_60, li_61, li_63, li_64, li_97, li_99, li_122, li_124, li_150, li_255, li_480, li_488, li_600, li_999, li_1110, li_54]
  refine ⟨fun h => ?_, fun h => ⟨in10 hk hwb.2.2.1, ?_⟩⟩
  · obtain rfl : j = 9 := by omega
    exact H σ hF
  · have hfb := btF_b hw (k := k) a s (j := j) (by omega)
    have hF2 := hF.up (o := 22) (by decide) (upd (σ.1 22) k (iI (-4 + (j : Int))))
    have hT2 : ∀ i, i < nS m → (zup σ 22 k (iI (-4 + (j : Int)))).1 22 i = iI (if i = k then -4 + (j : Int) else tu m i) := fun i hi => by
      rw [zpt_at]
      by_cases e : i = k
      · subst e; rw [pk_us, if_pos rfl]
      · rw [pk_un e, if_neg e]; exact hT i hi e
    refine c_rightOfTrial (m := m) (t := fun i => if i = k then -4 + (j : Int) else tu m i) (hN.fr hF2 (by decide)) hw (fun i hi => ?_) hT2 ha hs (fun τ hF' => ?_)
    · have := wf_s hw hi
      (try simp only); split <;> omega
    · replace ih := ih (by omega) τ (hF2.tr (hF'.sub LV_LW)) (fun i hi e => by
        rw [hF'.1 22 (by decide), hT2 i hi, if_neg e])
      rw [show ((-4 : Int) + ((j + 1 : Nat) : Int)) = -4 + (j : Int) + 1 by omega] at ih
      rw [show (rgt (wT m (fun i => if i = k then -4 + (j : Int) else tu m i)) a s : Int) = btF m k a s j from rfl]
      try simp (disch := omega) only [iI_add, iI_sub, iI_mul, iI_neg, iI_n, iI_lt, iI_le, iI_eq, iI_tn, iI_ti, bI_0, bI_1, iI_L, iL_0, Decidable.not_not, Int.toNat_natCast, zpt_at, zpt_ne, pk_us, pk_un, forall_eq, tn_0, tn_1, tn_2, tn_3, tn_4, tn_5, ni_1, ni_2, ni_3, ni_4, ni_5, not_false_eq_true, not_true_eq_false, true_implies, false_implies, and_true, true_and, iL_6, iL_m6, iL_7, iL_8, iL_9, iL_4, iL_m4, iL_m8, li_0, li_1, li_2, li_3, li_4, li_5, li_6, li_7, li_8, li_9, li_10, li_11, li_12, li_13, li_15, li_16, li_18, li_20, li_24, li_31, li_32, li_40, li_46, li_48, li_57, li_59, li_60, li_61, li_63, li_64, li_97, li_99, li_122, li_124, li_150, li_255, li_480, li_488, li_600, li_999, li_1110, li_54]
      refine ⟨fun h2 => ?_, fun h2 => ?_⟩
      · rw [show btN m k a s (-4) (j + 1) = _ from bst_n (by show ¬ (btN m k a s (-4) j).2 < _; omega)] at ih
        exact ih
      · rw [show btN m k a s (-4) (j + 1) = _ from bst_y (by show (btN m k a s (-4) j).2 < _; omega)] at ih
        exact ih
termination_by 9 - j
theorem btN_eq (hw : WF m) (k : Nat) (a : Int) (s : Nat) : btN m k a s (-4) 9 = btN m k a s 0 9 :=
  bst_0 (by have := btF_b hw (k := k) a s (j := 0) (by decide); omega) 9 (by decide)
theorem c_bestTurn (hN : Nw σ m) (hw : WF m) {x a : Int} (hx : I32 x) (ha : I32 a) {s : Nat} (hs : s < 2) (H0 : ∀ k : Nat, x = k → k < nS m → (-6 ≤ a ∧ a ≤ 6) → ∀ τ, FrL LW σ τ → K (iI (btN m k a s 0 9).1) τ) (H1 : ¬ (0 ≤ x ∧ x < nS m) → X xI σ) (H2 : 0 ≤ x ∧ x < nS m → ¬ (-6 ≤ a ∧ a ≤ 6) → X xA σ) : CT g l M_X6_bestTurn 1 [.ref (zad g 0), .int (iI x), .int (iI a), .int (iI s)] σ (zQi K X) := by
  have hwb := wf_b hw
  refine b_X6_bestTurn (c_hasSlat zB_73 hN.1 hw hx ?_)
  try simp (disch := omega) only [iI_add, iI_sub, iI_mul, iI_neg, iI_n, iI_lt, iI_le, iI_eq, iI_tn, iI_ti, bI_0, bI_1, iI_L, iL_0, Decidable.not_not, Int.toNat_natCast, zpt_at, zpt_ne, pk_us, pk_un, forall_eq, tn_0, tn_1, tn_2, tn_3, tn_4, tn_5, ni_1, ni_2, ni_3, ni_4, ni_5, not_false_eq_true, not_true_eq_false, true_implies, false_implies, and_true, true_and, iL_6, iL_m6, iL_7, iL_8, iL_9, iL_4, iL_m4, iL_m8, li_0, li_1, li_2, li_3, li_4, li_5, li_6, li_7, li_8, li_9, li_10, li_11, li_12, li_13, li_15, li_16, li_18, li_20, li_24, li_31, li_32, li_40, li_46, li_48, li_57, li_59, li_60, li_61, li_63, li_64, li_97, li_99, li_122, li_124, li_150, li_255, li_480, li_488, li_600, li_999, li_1110, li_54]
  refine ⟨fun h => c_refuse1 (H1 h), fun h => c_angle ha (fun h' => c_refuse0 ?_) (fun h' => c_refuse2 (H2 h h'))⟩
  obtain ⟨k, rfl, hk⟩ := nat_of h
  try simp (disch := omega) only [iI_add, iI_sub, iI_mul, iI_neg, iI_n, iI_lt, iI_le, iI_eq, iI_tn, iI_ti, bI_0, bI_1, iI_L, iL_0, Decidable.not_not, Int.toNat_natCast, zpt_at, zpt_ne, pk_us, pk_un, forall_eq, tn_0, tn_1, tn_2, tn_3, tn_4, tn_5, ni_1, ni_2, ni_3, ni_4, ni_5, not_false_eq_true, not_true_eq_false, true_implies, false_implies, and_true, true_and, iL_6, iL_m6, iL_7, iL_8, iL_9, iL_4, iL_m4, iL_m8, li_0, li_1, li_2, li_3, li_4, li_5, li_6, li_7, li_8, li_9, li_10, li_11, li_12, li_13, li_15, li_16, li_18, li_20, li_24, li_31, li_32, li_40, li_46, li_48, li_57, li_59, li_60, li_61, li_63, li_64, li_97, li_99, li_122, li_124, li_150, li_255, li_480, li_488, li_600, li_999, li_1110, li_54]
  replace H0 := H0 k rfl hk h'
  rw [← btN_eq hw] at H0
  refine c_bestTurn_51 hN hw hk hs h' H0 0 (by omega) _ ((FrL.rf LW σ).up (by decide) _) (fun i hi _ => ?_)
  rw [zpt_at]
  unfold va_cpy
  rw [if_pos (by rw [show Int.toNat 10 = 10 from rfl]; omega), show 0 + (i - 0) = i by omega]
  exact hN.2 i hi
theorem c_bestPull_20 {σ0 : zS} (hN : Nw σ0 m) (hw : WF m) {s : Nat} (hs : s < 2) {a : Int} (ha : -6 ≤ a ∧ a ≤ 6) (H : ∀ τ, FrL LW σ0 τ → K (iI (bpN m a s 16).1) τ) (j : Nat) (hj : j ≤ 8) (σ : zS) (hF : FrL LW σ0 σ) : L_X6_bestPull_20 g l K X (iI a) (iI s) (iI (bpN m a s (2 * j)).1) (iI (bpN m a s (2 * j)).2) (iI ((j : Int) + 1)) σ := by
  have hb := bpN_b hw a s (2 * j)
  have hN' := hN.fr hF (by decide)
  have ih := fun h => c_bestPull_20 hN hw hs ha H (j + 1) h
  have b0 : byN (2 * j) = -((j : Int) + 1) := by unfold byN; rw [if_pos (by omega)]; omega
  have b1 : byN (2 * j + 1) = (j : Int) + 1 := by unfold byN; rw [if_neg (by omega)]; omega
  have r0 := rgt_le (wT_wf (t := plT m (byN (2 * j))) hw (fun k hk => plT_b hw (byN (2 * j)) hk)) a s
  have r1 := rgt_le (wT_wf (t := plT m (byN (2 * j + 1))) hw (fun k hk => plT_b hw (byN (2 * j + 1)) hk)) a s
  refine b_X6_bestPull_20 ?_
  try simp (disch := omega) only [iI_add, iI_sub, iI_mul, iI_neg, iI_n, iI_lt, iI_le, iI_eq, iI_tn, iI_ti, bI_0, bI_1, iI_L, iL_0, Decidable.not_not, Int.toNat_natCast, zpt_at, zpt_ne, pk_us, pk_un, forall_eq, tn_0, tn_1, tn_2, tn_3, tn_4, tn_5, ni_1, ni_2, ni_3, ni_4, ni_5, not_false_eq_true, not_true_eq_false, true_implies, false_implies, and_true, true_and, iL_6, iL_m6, iL_7, iL_8, iL_9, iL_4, iL_m4, iL_m8, li_0, li_1, li_2, li_3, li_4, li_5, li_6, li_7, li_8, li_9, li_10, li_11, li_12, li_13, li_15, li_16, li_18, li_20, li_24, li_31, li_32, li_40, li_46, li_48, li_57, li_59, li_60, li_61, li_63, li_64, li_97, li_99, li_122, li_124, li_150, li_255, li_480, li_488, li_600, li_999, li_1110, li_54]
  refine ⟨fun h => ?_, fun h => ?_⟩
  · obtain rfl : j = 8 := by omega
    exact H σ hF
  · have c2 : ∀ (v w : Int), (bpN m a s (2 * j + 1)) = (v, w) → ∀ τ, FrL LW σ τ → ((rgt (wT m (plT m ((j : Int) + 1))) a s : Int) ≤ w → L_X6_bestPull_20 g l K X (iI a) (iI s) (iI v) (iI w) (iI ((j : Int) + 1 + 1)) τ) ∧ (¬ (rgt (wT m (plT m ((j : Int) + 1))) a s : Int) ≤ w → L_X6_bestPull_20 g l K X (iI a) (iI s) (iI ((j : Int) + 1)) (iI (rgt (wT m (plT m ((j : Int) + 1))) a s : Int)) (iI ((j : Int) + 1 + 1)) τ) := by
      intro v w e τ hF'
      replace ih := ih (by omega) τ (hF.tr hF')
      rw [show (((j + 1 : Nat) : Int) + 1) = (j : Int) + 1 + 1 by omega, show 2 * (j + 1) = 2 * j + 1 + 1 by omega] at ih
      refine ⟨fun h2 => ?_, fun h2 => ?_⟩
      · rw [show bpN m a s (2 * j + 1 + 1) = _ from bst_n (by show ¬ (bpN m a s (2 * j + 1)).2 < _; rw [e, b1]; (try simp only); omega)] at ih
        rw [show bst (fun j => (rgt (wT m (plT m (byN j))) a s : Int)) byN 0 (rgt m a s) (2 * j + 1) = (v, w) from e] at ih
        exact ih
      · rw [show bpN m a s (2 * j + 1 + 1) = _ from bst_y (by show (bpN m a s (2 * j + 1)).2 < _; rw [e, b1]; (try simp only); omega), b1] at ih
        exact ih
    have hb1 := bpN_b hw a s (2 * j + 1)
    rw [b0] at r0
    rw [b1] at r1
    refine c_rap hN' hw (by omega) ha hs (fun τ hF1 => ?_)
    have hN1 := hN'.fr hF1 (by decide)
    rw [iI_le (by omega) (by omega) (by omega) (by omega)]
    refine ⟨fun h2 => c_rap hN1 hw (by omega) ha hs (fun υ hF2 => ?_), fun h2 => c_rap hN1 hw (by omega) ha hs (fun υ hF2 => ?_)⟩
    · have e : bpN m a s (2 * j + 1) = ((bpN m a s (2 * j)).1, (bpN m a s (2 * j)).2) := by
        rw [show bpN m a s (2 * j + 1) = _ from bst_n (by show ¬ (bpN m a s (2 * j)).2 < _; rw [b0]; omega)]; rfl
      have := c2 _ _ e υ (hF1.tr hF2)
      rw [iI_le (by omega) (by omega) (by omega) (by omega)]
      exact this
    · have e : bpN m a s (2 * j + 1) = (-((j : Int) + 1), (rgt (wT m (plT m (-((j : Int) + 1)))) a s : Int)) := by
        rw [show bpN m a s (2 * j + 1) = _ from bst_y (by show (bpN m a s (2 * j)).2 < _; rw [b0]; omega), b0]
      have := c2 _ _ e υ (hF1.tr hF2)
      rw [iI_le (by omega) (by omega) (by omega) (by omega)]
      exact this
termination_by 8 - j
theorem c_bestPull (hN : Nw σ m) (hw : WF m) {a : Int} (ha : I32 a) {s : Nat} (hs : s < 2) (H0 : (-6 ≤ a ∧ a ≤ 6) → ∀ τ, FrL LW σ τ → K (iI (bpN m a s 16).1) τ) (H1 : ¬ (-6 ≤ a ∧ a ≤ 6) → X xA σ) : CT g l M_X6_bestPull 1 [.ref (zad g 0), .int (iI a), .int (iI s)] σ (zQi K X) := by
  refine b_X6_bestPull (c_angle ha (fun h => c_refuse0 (c_rightFrom hN hw h hs (fun τ hF hN' => ?_))) (fun h => c_refuse2 (H1 h)))
  exact c_bestPull_20 hN' hw hs h (fun υ h' => H0 h υ ((hF.sub LV_LW).tr h')) 0 (by omega) τ (FrL.rf _ _)
theorem c_fill_5 {K : zS → Prop} {v : Int32} (H : ∀ f : Nat → Int32, (∀ k, k < 10 → f k = v) → K (zpt σ 22 f)) (k : Nat) (hk : k ≤ 10) (f : Nat → Int32) (hf : ∀ j, j < k → f j = v) : L_J7_fill_53178_5 g l K X 22 v (iI k) (nI 10) (zpt σ 22 f) := by
  have ih := fun h f hf => c_fill_5 H (k + 1) h f hf
  refine b_J7_fill_53178_5 (N := 10) rfl (by decide) ?_
  try simp (disch := omega) only [iI_add, iI_sub, iI_mul, iI_neg, iI_n, iI_lt, iI_le, iI_eq, iI_tn, iI_ti, bI_0, bI_1, iI_L, iL_0, Decidable.not_not, Int.toNat_natCast, zpt_at, zpt_ne, pk_us, pk_un, forall_eq, tn_0, tn_1, tn_2, tn_3, tn_4, tn_5, ni_1, ni_2, ni_3, ni_4, ni_5, not_false_eq_true, not_true_eq_false, true_implies, false_implies, and_true, true_and, iL_6, iL_m6, iL_7, iL_8, iL_9, iL_4, iL_m4, iL_m8, li_0, li_1, li_2, li_3, li_4, li_5, li_6, li_7, li_8, li_9, li_10, li_11, li_12, li_13, li_15, li_16, li_18, li_20, li_24, li_31, li_32, li_40, li_46, li_48, li_57, li_59, li_60, li_61, li_63, li_64, li_97, li_99, li_122, li_124, li_150, li_255, li_480, li_488, li_600, li_999, li_1110, li_54]
  refine ⟨fun h => ?_, fun h => ⟨iI_in (by omega) (by omega) (by omega), ?_⟩⟩
  · exact H f (fun j hj => hf j (by omega))
  · rw [zup_zpt]
    refine ih (by omega) _ (fun j hj => ?_)
    by_cases e : j = k
    · subst e; rw [pk_us]
    · rw [pk_un e]; exact hf j (by omega)
termination_by 10 - k
theorem c_fill {K : zS → Prop} {v : Int32} (H : ∀ f : Nat → Int32, (∀ k, k < 10 → f k = v) → K (zpt σ 22 f)) : CT g l M_J7_fill_53178 0 [.ref (zad g 22), .int v] σ (zQv K X) := by
  have := c_fill_5 (g := g) (l := l) (X := X) H 0 (by omega) (σ.1 22) (fun j hj => absurd hj (Nat.not_lt_zero j))
  rw [zpt_id] at this
  exact b_J7_fill_53178 (N := 10) rfl (by decide) this
noncomputable def ttN (m : Nat → Int32) (t : Int) : Int := if fb_ct (fun k => decide (tu m k ≠ t ∧ td m k ≠ 0)) (nS m) = 0 then cnT m t else -1
theorem c_turnsTo_4 (hN : Nw σ m) (hw : WF m) {t : Int} (ht : -4 ≤ t ∧ t ≤ 4) (H : K (iI (ttN m t)) σ) (k : Nat) (hk : k ≤ nS m) (h0 : fb_ct (fun k => decide (tu m k ≠ t ∧ td m k ≠ 0)) k = 0) : L_X0_turnsTo_4 g l K X 73 (iI t) (iI (fb_ct (fun k => decide (tu m k ≠ t)) k)) (iI k) σ := by
  have hwb := wf_b hw
  have ih := fun h h' => c_turnsTo_4 hN hw ht H (k + 1) h h'
  refine b_X0_turnsTo_4 zB_73 ?_
  rw [hN.1.2.2.1, show (Int32.toNatClampNeg (iI (k : Int))) = k by rw [iI_tn (by omega) (by omega)]; rfl]
  try simp (disch := omega) only [iI_add, iI_sub, iI_mul, iI_neg, iI_n, iI_lt, iI_le, iI_eq, iI_tn, iI_ti, bI_0, bI_1, iI_L, iL_0, Decidable.not_not, Int.toNat_natCast, zpt_at, zpt_ne, pk_us, pk_un, forall_eq, tn_0, tn_1, tn_2, tn_3, tn_4, tn_5, ni_1, ni_2, ni_3, ni_4, ni_5, not_false_eq_true, not_true_eq_false, true_implies, false_implies, and_true, true_and, iL_6, iL_m6, iL_7, iL_8, iL_9, iL_4, iL_m4, iL_m8, li_0, li_1, li_2, li_3, li_4, li_5, li_6, li_7, li_8, li_9, li_10, li_11, li_12, li_13, li_15, li_16, li_18, li_20, li_24, li_31, li_32, li_40, li_46, li_48, li_57, li_59, li_60, li_61, li_63, li_64, li_97, li_99, li_122, li_124, li_150, li_255, li_480, li_488, li_600, li_999, li_1110, li_54]
  refine ⟨fun h => ?_, fun h => ?_⟩
  · obtain rfl : k = nS m := by omega
    unfold ttN at H
    rw [if_pos h0] at H; exact H
  · have hk' : k < nS m := by omega
    have hs := wf_s hw hk'
    have h10 := in10 hk' hwb.2.2.1
    replace ih := ih hk'
    rw [fb_ct_succ, fb_ct_succ] at ih
    rw [hN.2 k hk']
    try simp (disch := omega) only [iI_add, iI_sub, iI_mul, iI_neg, iI_n, iI_lt, iI_le, iI_eq, iI_tn, iI_ti, bI_0, bI_1, iI_L, iL_0, Decidable.not_not, Int.toNat_natCast, zpt_at, zpt_ne, pk_us, pk_un, forall_eq, tn_0, tn_1, tn_2, tn_3, tn_4, tn_5, ni_1, ni_2, ni_3, ni_4, ni_5, not_false_eq_true, not_true_eq_false, true_implies, false_implies, and_true, true_and, iL_6, iL_m6, iL_7, iL_8, iL_9, iL_4, iL_m4, iL_m8, li_0, li_1, li_2, li_3, li_4, li_5, li_6, li_7, li_8, li_9, li_10, li_11, li_12, li_13, li_15, li_16, li_18, li_20, li_24, li_31, li_32, li_40, li_46, li_48, li_57, li_59, li_60, li_61, li_63, li_64, li_97, li_99, li_122, li_124, li_150, li_255, li_480, li_488, li_600, li_999, li_1110, li_54]
    refine ⟨h10, fun h2 => ⟨h10, fun h3 => ?_, fun h3 => absurd h2 h3⟩, fun h2 => c_isTied zB_73 hN.1 hw hk' ?_⟩
    · have := ih (by rw [h0, if_neg (by simp [h2])])
      rw [if_neg (by simp [h2])] at this
      exact this
    · rw [hN.2 k hk']
      try simp (disch := omega) only [iI_add, iI_sub, iI_mul, iI_neg, iI_n, iI_lt, iI_le, iI_eq, iI_tn, iI_ti, bI_0, bI_1, iI_L, iL_0, Decidable.not_not, Int.toNat_natCast, zpt_at, zpt_ne, pk_us, pk_un, forall_eq, tn_0, tn_1, tn_2, tn_3, tn_4, tn_5, ni_1, ni_2, ni_3, ni_4, ni_5, not_false_eq_true, not_true_eq_false, true_implies, false_implies, and_true, true_and, iL_6, iL_m6, iL_7, iL_8, iL_9, iL_4, iL_m4, iL_m8, li_0, li_1, li_2, li_3, li_4, li_5, li_6, li_7, li_8, li_9, li_10, li_11, li_12, li_13, li_15, li_16, li_18, li_20, li_24, li_31, li_32, li_40, li_46, li_48, li_57, li_59, li_60, li_61, li_63, li_64, li_97, li_99, li_122, li_124, li_150, li_255, li_480, li_488, li_600, li_999, li_1110, li_54]
      refine ⟨fun h3 => ⟨h10, fun h4 => absurd h4 h2, fun h4 => ?_⟩, fun h3 => ?_⟩
      · have := ih (by rw [h0, if_neg (by simp; omega)])
        rw [if_pos (by simp [h2])] at this
        exact this
      · unfold ttN at H
        rw [if_neg (fun q => by
          have := fb_ct_zero.mp q k hk'
          simp only [decide_eq_false_iff_not] at this
          exact this ⟨h2, by omega⟩)] at H
        exact H
termination_by nS m - k
theorem c_turnsTo (hN : Nw σ m) (hw : WF m) {t : Int} (ht : -4 ≤ t ∧ t ≤ 4) (H : K (iI (ttN m t)) σ) : CT g l M_X0_turnsTo 0 [.ref (zad g 73), .int (iI t)] σ (zQi K X) :=
  b_X0_turnsTo zB_73 (c_turnsTo_4 hN hw ht H 0 (Nat.zero_le _) rfl)
/-- the class's own least number so far -/
noncomputable def fwT (m : Nat → Int32) (a : Int) (s : Nat) : Nat → Int
  | 0 => -1
  | n + 1 => if gdT m a s (-4 + (n : Int)) = 1 ∧ (fwT m a s n = -1 ∨ (cnT m (-4 + (n : Int)) : Int) < fwT m a s n) then (cnT m (-4 + (n : Int)) : Int) else fwT m a s n
theorem cnT_le (hw : WF m) (t : Int) : cnT m t ≤ 10 := by
  have := wf_b hw
  exact Nat.le_trans (fb_ct_le _ _) this.2.2.1
theorem fwT_b (hw : WF m) (a : Int) (s : Nat) : ∀ n, -1 ≤ fwT m a s n ∧ fwT m a s n ≤ 10
  | 0 => by unfold fwT; omega
  | n + 1 => by
    have := fwT_b hw a s n
    have := cnT_le hw (-4 + (n : Int))
    unfold fwT; split <;> omega
theorem fwT_lsN (hw : WF m) {a : Int} {s : Nat} (h : wN m a s ≠ 1) : ∀ n, n ≤ 9 → (lsN m a s n = 11 ∧ fwT m a s n = -1) ∨ (lsN m a s n ≤ 10 ∧ fwT m a s n = lsN m a s n)
  | 0, _ => Or.inl ⟨rfl, rfl⟩
  | n + 1, hn => by
    have ih := fwT_lsN hw h n (by omega)
    have hc := cnT_le hw (-4 + (n : Int))
    have h0 : gdT m a s (-4 + (n : Int)) = 1 → 0 < cnT m (-4 + (n : Int)) := fun q => by
      rcases Nat.eq_zero_or_pos (cnT m (-4 + (n : Int))) with e | e
      · exfalso
        unfold gdT at q
        split at q
        · rw [wT_id (fun k hk => ?_)] at q
          · exact h q
          · have := fb_ct_zero.mp e k hk
            simp only [decide_eq_false_iff_not, Decidable.not_not] at this
            exact this.symm
        · omega
      · exact e
    unfold lsN fwT
    by_cases q : gdT m a s (-4 + (n : Int)) = 1
    · have := h0 q
      rcases ih with ⟨e1, e2⟩ | ⟨e1, e2⟩
      · rw [if_pos ⟨q, this, by omega⟩, if_pos ⟨q, Or.inl e2⟩]
        exact Or.inr ⟨hc, rfl⟩
      · by_cases q2 : cnT m (-4 + (n : Int)) < lsN m a s n
        · rw [if_pos ⟨q, this, q2⟩, if_pos ⟨q, Or.inr (by omega)⟩]
          exact Or.inr ⟨hc, rfl⟩
        · rw [if_neg (fun x => q2 x.2.2), if_neg (fun x => by omega)]
          exact Or.inr ⟨e1, e2⟩
    · rw [if_neg (fun x => q x.1), if_neg (fun x => q x.1)]
      exact ih
theorem fwT_0 (hw : WF m) {a : Int} {s : Nat} {i : Nat} (hg : gdT m a s (-4 + (i : Int)) = 1) (hc : cnT m (-4 + (i : Int)) = 0) : ∀ n, i < n → fwT m a s n = 0
  | 0, h => absurd h (Nat.not_lt_zero _)
  | n + 1, h => by
    have hb := fwT_b hw a s n
    rcases Nat.lt_or_ge i n with q | q
    · have ih := fwT_0 hw hg hc n q
      unfold fwT
      rw [if_neg (fun x => by have := x.2; omega)]
      exact ih
    · obtain rfl : i = n := by omega
      unfold fwT
      by_cases e : fwT m a s i = 0
      · rw [if_neg (fun x => by have := x.2; omega)]
        exact e
      · rw [if_pos ⟨hg, by omega⟩, hc]; rfl
theorem fwT_tnN (hw : WF m) (a : Int) (s : Nat) : fwT m a s 9 = tnN m a s := by
  have hb := wf_b hw
  unfold tnN
  by_cases h : wN m a s = 1
  · rw [if_pos h]
    have hal := whole_turns hw h
    have hn0 : 0 < nS m := ((wN_1 m a s).mp h).1
    have ht0 := wf_s hw hn0
    have e : -4 + (((tu m 0 + 4).toNat : Nat) : Int) = tu m 0 := by omega
    have hc : cnT m (tu m 0) = 0 := fb_ct_zero.mpr (fun k hk => by
      simp only [decide_eq_false_iff_not, Decidable.not_not]
      exact hal k hk)
    have hg : gdT m a s (tu m 0) = 1 := by
      unfold gdT
      rw [if_pos (fb_ct_zero.mpr (fun k hk => by
        simp only [decide_eq_false_iff_not]
        exact fun q => q.1 (hal k hk))), wT_id (fun k hk => (hal k hk).symm)]
      exact h
    exact fwT_0 hw (i := (tu m 0 + 4).toNat) (by rw [e]; exact hg) (by rw [e]; exact hc) 9 (by omega)
  · rw [if_neg h]
    rcases fwT_lsN hw h 9 (Nat.le_refl _) with ⟨e1, e2⟩ | ⟨e1, e2⟩
    · rw [if_neg (by omega), e2]
    · rw [if_pos e1, e2]
theorem c_tn_13 {σ0 : zS} (hN : Nw σ0 m) (hw : WF m) {a : Int} (ha : -6 ≤ a ∧ a ≤ 6) {s : Nat} (hs : s < 2) (H : ∀ τ, FrL LW σ0 τ → K (iI (fwT m a s 9)) τ) (j : Nat) (hj : j ≤ 9) (σ : zS) (hF : FrL LW σ0 σ) : L_X6_turnsNeeded_13 g l K X (iI a) (iI s) (iI (fwT m a s j)) (iI (-4 + (j : Int))) σ := by
  have hwb := wf_b hw
  have hb := fwT_b hw a s j
  have ih := fun h => c_tn_13 hN hw ha hs H (j + 1) h
  refine b_X6_turnsNeeded_13 ?_
  try simp (disch := omega) only [iI_add, iI_sub, iI_mul, iI_neg, iI_n, iI_lt, iI_le, iI_eq, iI_tn, iI_ti, bI_0, bI_1, iI_L, iL_0, Decidable.not_not, Int.toNat_natCast, zpt_at, zpt_ne, pk_us, pk_un, forall_eq, tn_0, tn_1, tn_2, tn_3, tn_4, tn_5, ni_1, ni_2, ni_3, ni_4, ni_5, not_false_eq_true, not_true_eq_false, true_implies, false_implies, and_true, true_and, iL_6, iL_m6, iL_7, iL_8, iL_9, iL_4, iL_m4, iL_m8, li_0, li_1, li_2, li_3, li_4, li_5, li_6, li_7, li_8, li_9, li_10, li_11, li_12, li_13, li_15, li_16, li_18, li_20, li_24, li_31, li_32, li_40, li_46, li_48, li_57, li_59, li_60, li_61, li_63, li_64, li_97, li_99, li_122, li_124, li_150, li_255, li_480, li_488, li_600, li_999, li_1110, li_54]
  refine ⟨fun h => ?_, fun h => ?_⟩
  · obtain rfl : j = 9 := by omega
    exact H σ hF
  · replace ih := ih (by omega)
    rw [show ((-4 : Int) + ((j + 1 : Nat) : Int)) = -4 + (j : Int) + 1 by omega, show fwT m a s (j + 1) = if gdT m a s (-4 + (j : Int)) = 1 ∧ (fwT m a s j = -1 ∨ (cnT m (-4 + (j : Int)) : Int) < fwT m a s j) then (cnT m (-4 + (j : Int)) : Int) else fwT m a s j from rfl] at ih
    have ht : -4 ≤ -4 + (j : Int) ∧ -4 + (j : Int) ≤ 4 := by omega
    generalize -4 + (j : Int) = t at *
    have hcn := cnT_le hw t
    have htt : (ttN m t = -1 ∧ gdT m a s t ≠ 1) ∨ (ttN m t = cnT m t ∧ gdT m a s t = wN (wT m (fun _ => t)) a s) := by
      unfold ttN gdT
      by_cases q : fb_ct (fun k => decide (tu m k ≠ t ∧ td m k ≠ 0)) (nS m) = 0
      · rw [if_pos q, if_pos q]; exact Or.inr ⟨rfl, rfl⟩
      · rw [if_neg q, if_neg q]; exact Or.inl ⟨rfl, by decide⟩
    refine c_turnsTo (hN.fr hF (by decide)) hw ht (c_fill (fun f hf => ?_))
    have hF1 := hF.up (o := 22) (by decide) f
    have hN1 := hN.fr hF1 (by decide)
    have hwt : WF (wT m (fun _ => t)) := wT_wf hw (fun i hi => ht)
    refine c_look (t := 22) rfl (by decide) (by decide) (hN1.1.wT (t := fun _ => t) hw) (RT.wT (t := fun _ => t) (fun i hi => ht) (fun k hk => by rw [zpt_at]; exact hf k (by omega))) hwt ha (fun τ hF2 hV => ?_)
    have hR2 := hF2.R0 (o := 73) (by decide) (hN1.1.wT (t := fun _ => t) hw)
    have hF3 := hF1.tr (hF2.sub LV_LW)
    have hwl := wN_le (wT m (fun _ => t)) a s
    have httb : -1 ≤ ttN m t ∧ ttN m t ≤ 10 := by rcases htt with q | q <;> omega
    have nx : ¬ (gdT m a s t = 1 ∧ (fwT m a s j = -1 ∨ (cnT m t : Int) < fwT m a s j)) → ∀ υ, FrL LW τ υ → L_X6_turnsNeeded_13 g l K X (iI a) (iI s) (iI (fwT m a s j)) (iI (t + 1)) υ := fun q υ h => by
      rw [if_neg q] at ih; exact ih υ (hF3.tr h)
    have ny : (gdT m a s t = 1 ∧ (fwT m a s j = -1 ∨ (cnT m t : Int) < fwT m a s j)) → ttN m t = cnT m t → ∀ υ, FrL LW τ υ → L_X6_turnsNeeded_13 g l K X (iI a) (iI s) (iI (ttN m t)) (iI (t + 1)) υ := fun q e υ h => by
      rw [if_pos q] at ih; rw [e]; exact ih υ (hF3.tr h)
    try simp (disch := omega) only [iI_add, iI_sub, iI_mul, iI_neg, iI_n, iI_lt, iI_le, iI_eq, iI_tn, iI_ti, bI_0, bI_1, iI_L, iL_0, Decidable.not_not, Int.toNat_natCast, zpt_at, zpt_ne, pk_us, pk_un, forall_eq, tn_0, tn_1, tn_2, tn_3, tn_4, tn_5, ni_1, ni_2, ni_3, ni_4, ni_5, not_false_eq_true, not_true_eq_false, true_implies, false_implies, and_true, true_and, iL_6, iL_m6, iL_7, iL_8, iL_9, iL_4, iL_m4, iL_m8, li_0, li_1, li_2, li_3, li_4, li_5, li_6, li_7, li_8, li_9, li_10, li_11, li_12, li_13, li_15, li_16, li_18, li_20, li_24, li_31, li_32, li_40, li_46, li_48, li_57, li_59, li_60, li_61, li_63, li_64, li_97, li_99, li_122, li_124, li_150, li_255, li_480, li_488, li_600, li_999, li_1110, li_54]
    refine ⟨fun h2 => ⟨fun h3 => nx (by omega) τ (FrL.rf _ _), fun h3 => c_isWhole hwt hR2 hV hs ?_⟩, fun h2 => ⟨fun h3 => ⟨fun h4 => nx (by omega) τ (FrL.rf _ _), fun h4 => nx (by omega) τ (FrL.rf _ _)⟩, fun h3 => ⟨fun h4 => nx (by omega) τ (FrL.rf _ _), fun h4 => c_isWhole hwt hR2 hV hs ?_⟩⟩⟩
    · try simp (disch := omega) only [iI_add, iI_sub, iI_mul, iI_neg, iI_n, iI_lt, iI_le, iI_eq, iI_tn, iI_ti, bI_0, bI_1, iI_L, iL_0, Decidable.not_not, Int.toNat_natCast, zpt_at, zpt_ne, pk_us, pk_un, forall_eq, tn_0, tn_1, tn_2, tn_3, tn_4, tn_5, ni_1, ni_2, ni_3, ni_4, ni_5, not_false_eq_true, not_true_eq_false, true_implies, false_implies, and_true, true_and, iL_6, iL_m6, iL_7, iL_8, iL_9, iL_4, iL_m4, iL_m8, li_0, li_1, li_2, li_3, li_4, li_5, li_6, li_7, li_8, li_9, li_10, li_11, li_12, li_13, li_15, li_16, li_18, li_20, li_24, li_31, li_32, li_40, li_46, li_48, li_57, li_59, li_60, li_61, li_63, li_64, li_97, li_99, li_122, li_124, li_150, li_255, li_480, li_488, li_600, li_999, li_1110, li_54]
      exact ⟨fun h4 => nx (by omega) τ (FrL.rf _ _), fun h4 => ny (by omega) (by omega) τ (FrL.rf _ _)⟩
    · try simp (disch := omega) only [iI_add, iI_sub, iI_mul, iI_neg, iI_n, iI_lt, iI_le, iI_eq, iI_tn, iI_ti, bI_0, bI_1, iI_L, iL_0, Decidable.not_not, Int.toNat_natCast, zpt_at, zpt_ne, pk_us, pk_un, forall_eq, tn_0, tn_1, tn_2, tn_3, tn_4, tn_5, ni_1, ni_2, ni_3, ni_4, ni_5, not_false_eq_true, not_true_eq_false, true_implies, false_implies, and_true, true_and, iL_6, iL_m6, iL_7, iL_8, iL_9, iL_4, iL_m4, iL_m8, li_0, li_1, li_2, li_3, li_4, li_5, li_6, li_7, li_8, li_9, li_10, li_11, li_12, li_13, li_15, li_16, li_18, li_20, li_24, li_31, li_32, li_40, li_46, li_48, li_57, li_59, li_60, li_61, li_63, li_64, li_97, li_99, li_122, li_124, li_150, li_255, li_480, li_488, li_600, li_999, li_1110, li_54]
      exact ⟨fun h5 => nx (by omega) τ (FrL.rf _ _), fun h5 => ny (by omega) (by omega) τ (FrL.rf _ _)⟩
termination_by 9 - j
theorem c_turnsNeeded (hN : Nw σ m) (hw : WF m) {a : Int} (ha : I32 a) {s : Nat} (hs : s < 2) (H0 : (-6 ≤ a ∧ a ≤ 6) → ∀ τ, FrL LW σ τ → K (iI (tnN m a s)) τ) (H1 : ¬ (-6 ≤ a ∧ a ≤ 6) → X xA σ) : CT g l M_X6_turnsNeeded 1 [.ref (zad g 0), .int (iI a), .int (iI s)] σ (zQi K X) := by
  refine b_X6_turnsNeeded (c_angle ha (fun h => c_refuse0 ?_) (fun h => c_refuse2 (H1 h)))
  replace H0 := H0 h
  rw [← fwT_tnN hw] at H0
  exact c_tn_13 hN hw h hs H0 0 (by omega) σ (FrL.rf _ _)
end ZCW

