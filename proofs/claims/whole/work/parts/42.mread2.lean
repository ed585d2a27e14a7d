/-! what the reference's reading methods answer: what is seen -/
section ZMS
variable {g : zG} {l : Launch} {K : Int32 → zS → Prop} {X : String → zS → Prop} {σ : zS} {m : Nat → Int32}
theorem s_greater {x y : Int} (h1 : -2147483648 ≤ x) (h2 : x < 2147483648) (h3 : -2147483648 ≤ y) (h4 : y < 2147483648) (H : K (iI (max x y)) σ) : CT g l M_X7_greater 0 [.int (iI x), .int (iI y)] σ (zQi K X) := by
  refine b_X7_greater ?_
  try simp (disch := omega) only [iI_add, iI_sub, iI_mul, iI_neg, iI_n, iI_lt, iI_le, iI_eq, iI_tn, iI_ti, bI_0, bI_1, iI_L, iL_0, Decidable.not_not, Int.toNat_natCast, zpt_at, zpt_ne, pk_us, pk_un, forall_eq, tn_0, tn_1, tn_2, tn_3, tn_4, tn_5, ni_1, ni_2, ni_3, ni_4, ni_5, not_false_eq_true, not_true_eq_false, true_implies, false_implies, and_true, true_and, iL_6, iL_m6, iL_7, iL_8, iL_9, iL_4, iL_m4, iL_m8, li_0, li_1, li_2, li_3, li_4, li_5, li_6, li_7, li_8, li_9, li_10, li_11, li_12, li_13, li_15, li_16, li_18, li_20, li_24, li_31, li_32, li_40, li_46, li_48, li_57, li_59, li_60, li_61, li_63, li_64, li_97, li_99, li_122, li_124, li_150, li_255, li_480, li_488, li_600, li_999, li_1110, li_54]
  refine ⟨fun h => ?_, fun h => ?_⟩
  · rw [show max x y = y by omega] at H; exact H
  · rw [show max x y = x by omega] at H; exact H
theorem s_lesser {x y : Int} (h1 : -2147483648 ≤ x) (h2 : x < 2147483648) (h3 : -2147483648 ≤ y) (h4 : y < 2147483648) (H : K (iI (min x y)) σ) : CT g l M_X7_lesser 0 [.int (iI x), .int (iI y)] σ (zQi K X) := by
  refine b_X7_lesser ?_
  try simp (disch := omega) only [iI_add, iI_sub, iI_mul, iI_neg, iI_n, iI_lt, iI_le, iI_eq, iI_tn, iI_ti, bI_0, bI_1, iI_L, iL_0, Decidable.not_not, Int.toNat_natCast, zpt_at, zpt_ne, pk_us, pk_un, forall_eq, tn_0, tn_1, tn_2, tn_3, tn_4, tn_5, ni_1, ni_2, ni_3, ni_4, ni_5, not_false_eq_true, not_true_eq_false, true_implies, false_implies, and_true, true_and, iL_6, iL_m6, iL_7, iL_8, iL_9, iL_4, iL_m4, iL_m8, li_0, li_1, li_2, li_3, li_4, li_5, li_6, li_7, li_8, li_9, li_10, li_11, li_12, li_13, li_15, li_16, li_18, li_20, li_24, li_31, li_32, li_40, li_46, li_48, li_57, li_59, li_60, li_61, li_63, li_64, li_97, li_99, li_122, li_124, li_150, li_255, li_480, li_488, li_600, li_999, li_1110, li_54]
  refine ⟨fun h => ?_, fun h => ?_⟩
  · rw [show min x y = y by omega] at H; exact H
  · rw [show min x y = x by omega] at H; exact H
theorem s_held {v : Int} {mo : Int} (h1 : -2147483648 ≤ v) (h2 : v < 2147483648) (h3 : 0 ≤ mo) (h4 : mo < 1000) (H : K (iI (max (-mo) (min mo v))) σ) : CT g l M_X7_held 0 [.int (iI v), .int (iI mo)] σ (zQi K X) := by
  refine b_X7_held (s_lesser (by omega) (by omega) (by omega) (by omega) ?_)
  try simp (disch := omega) only [iI_add, iI_sub, iI_mul, iI_neg, iI_n, iI_lt, iI_le, iI_eq, iI_tn, iI_ti, bI_0, bI_1, iI_L, iL_0, Decidable.not_not, Int.toNat_natCast, zpt_at, zpt_ne, pk_us, pk_un, forall_eq, tn_0, tn_1, tn_2, tn_3, tn_4, tn_5, ni_1, ni_2, ni_3, ni_4, ni_5, not_false_eq_true, not_true_eq_false, true_implies, false_implies, and_true, true_and, iL_6, iL_m6, iL_7, iL_8, iL_9, iL_4, iL_m4, iL_m8, li_0, li_1, li_2, li_3, li_4, li_5, li_6, li_7, li_8, li_9, li_10, li_11, li_12, li_13, li_15, li_16, li_18, li_20, li_24, li_31, li_32, li_40, li_46, li_48, li_57, li_59, li_60, li_61, li_63, li_64, li_97, li_99, li_122, li_124, li_150, li_255, li_480, li_488, li_600, li_999, li_1110, li_54]
  exact s_greater (by omega) (by omega) (by omega) (by omega) H
theorem lean_b (m : Nat → Int32) (k : Nat) (a : Int) : -6 ≤ lean m k a ∧ lean m k a ≤ 6 := by
  unfold lean; omega
theorem s_leanOf (hm : σ.1 26 = m) (hw : WF m) {k : Nat} (hk : k < nS m) {a : Int} (ha : -6 ≤ a ∧ a ≤ 6) (H : K (iI (lean m k a)) σ) : CT g l M_X7_leanOf 0 [.ref (zad g 24), .int (iI k), .int (iI a)] σ (zQi K X) := by
  have hs := wf_s hw hk
  refine b_X7_leanOf (s_ofT hm hw hk ?_)
  try simp (disch := omega) only [iI_add, iI_sub, iI_mul, iI_neg, iI_n, iI_lt, iI_le, iI_eq, iI_tn, iI_ti, bI_0, bI_1, iI_L, iL_0, Decidable.not_not, Int.toNat_natCast, zpt_at, zpt_ne, pk_us, pk_un, forall_eq, tn_0, tn_1, tn_2, tn_3, tn_4, tn_5, ni_1, ni_2, ni_3, ni_4, ni_5, not_false_eq_true, not_true_eq_false, true_implies, false_implies, and_true, true_and, iL_6, iL_m6, iL_7, iL_8, iL_9, iL_4, iL_m4, iL_m8, li_0, li_1, li_2, li_3, li_4, li_5, li_6, li_7, li_8, li_9, li_10, li_11, li_12, li_13, li_15, li_16, li_18, li_20, li_24, li_31, li_32, li_40, li_46, li_48, li_57, li_59, li_60, li_61, li_63, li_64, li_97, li_99, li_122, li_124, li_150, li_255, li_480, li_488, li_600, li_999, li_1110, li_54]
  refine s_held (by omega) (by omega) (by omega) (by omega) ?_
  exact H
theorem seam_b (hw : WF m) {k : Nat} (hk : k < nS m) : -8 ≤ seamB m k ∧ seamB m k ≤ 8 := by
  have h1 := wf_s hw hk
  unfold seamB
  split
  · omega
  · have h2 := wf_s hw (k := k + 1) (by omega)
    omega
theorem s_seamBehind (hm : σ.1 26 = m) (hw : WF m) {k : Nat} (hk : k < nS m) (H : K (iI (seamB m k)) σ) : CT g l M_X7_seamBehind 0 [.ref (zad g 24), .int (iI k)] σ (zQi K X) := by
  have hb := wf_b hw
  refine b_X7_seamBehind ?_
  rw [show (Int32.toNatClampNeg 1) = 1 from rfl, hm, wf_1 hw]
  unfold seamB at H
  try simp (disch := omega) only [iI_add, iI_sub, iI_mul, iI_neg, iI_n, iI_lt, iI_le, iI_eq, iI_tn, iI_ti, bI_0, bI_1, iI_L, iL_0, Decidable.not_not, Int.toNat_natCast, zpt_at, zpt_ne, pk_us, pk_un, forall_eq, tn_0, tn_1, tn_2, tn_3, tn_4, tn_5, ni_1, ni_2, ni_3, ni_4, ni_5, not_false_eq_true, not_true_eq_false, true_implies, false_implies, and_true, true_and, iL_6, iL_m6, iL_7, iL_8, iL_9, iL_4, iL_m4, iL_m8, li_0, li_1, li_2, li_3, li_4, li_5, li_6, li_7, li_8, li_9, li_10, li_11, li_12, li_13, li_15, li_16, li_18, li_20, li_24, li_31, li_32, li_40, li_46, li_48, li_57, li_59, li_60, li_61, li_63, li_64, li_97, li_99, li_122, li_124, li_150, li_255, li_480, li_488, li_600, li_999, li_1110, li_54]
  refine ⟨fun h => ?_, fun h => ?_⟩
  · rw [if_neg (by omega)] at H
    refine s_ofT hm hw hk ?_
    try simp (disch := omega) only [iI_add, iI_sub, iI_mul, iI_neg, iI_n, iI_lt, iI_le, iI_eq, iI_tn, iI_ti, bI_0, bI_1, iI_L, iL_0, Decidable.not_not, Int.toNat_natCast, zpt_at, zpt_ne, pk_us, pk_un, forall_eq, tn_0, tn_1, tn_2, tn_3, tn_4, tn_5, ni_1, ni_2, ni_3, ni_4, ni_5, not_false_eq_true, not_true_eq_false, true_implies, false_implies, and_true, true_and, iL_6, iL_m6, iL_7, iL_8, iL_9, iL_4, iL_m4, iL_m8, li_0, li_1, li_2, li_3, li_4, li_5, li_6, li_7, li_8, li_9, li_10, li_11, li_12, li_13, li_15, li_16, li_18, li_20, li_24, li_31, li_32, li_40, li_46, li_48, li_57, li_59, li_60, li_61, li_63, li_64, li_97, li_99, li_122, li_124, li_150, li_255, li_480, li_488, li_600, li_999, li_1110, li_54]
    refine s_ofT (k := k + 1) hm hw (by omega) ?_
    try simp (disch := omega) only [iI_add, iI_sub, iI_mul, iI_neg, iI_n, iI_lt, iI_le, iI_eq, iI_tn, iI_ti, bI_0, bI_1, iI_L, iL_0, Decidable.not_not, Int.toNat_natCast, zpt_at, zpt_ne, pk_us, pk_un, forall_eq, tn_0, tn_1, tn_2, tn_3, tn_4, tn_5, ni_1, ni_2, ni_3, ni_4, ni_5, not_false_eq_true, not_true_eq_false, true_implies, false_implies, and_true, true_and, iL_6, iL_m6, iL_7, iL_8, iL_9, iL_4, iL_m4, iL_m8, li_0, li_1, li_2, li_3, li_4, li_5, li_6, li_7, li_8, li_9, li_10, li_11, li_12, li_13, li_15, li_16, li_18, li_20, li_24, li_31, li_32, li_40, li_46, li_48, li_57, li_59, li_60, li_61, li_63, li_64, li_97, li_99, li_122, li_124, li_150, li_255, li_480, li_488, li_600, li_999, li_1110, li_54]
    exact H
  · rw [if_pos (by omega)] at H
    exact H
theorem shw_le {w : Nat} {le : Int} (h1 : -6 ≤ le) (h2 : le ≤ 6) : shw w le ≤ w := by
  unfold shw
  have h : w * le.natAbs ≤ w * 6 := Nat.mul_le_mul_left w (by omega)
  omega
theorem shw_i {w : Nat} {le : Int} (hw : w ≤ 6) (h1 : -6 ≤ le) (h2 : le ≤ 6) : (iI w * iI (max le (-le)) + iI 5) / iI 6 = iI (shw w le) := by
  have e : (w : Int) * max le (-le) = ((w * le.natAbs : Nat) : Int) := by
    rw [show max le (-le) = (le.natAbs : Int) by omega]; simp
  have h : w * le.natAbs ≤ 6 * 6 := Nat.mul_le_mul hw (by omega)
  rw [iI_mul, iI_add, e, iI_div (by omega) (by omega) (by omega) (by omega)]
  congr 1
theorem s_isHidden (hm : σ.1 26 = m) (hw : WF m) {k p : Nat} (hk : k < nS m) (hp : p < 6) {le : Int} (h1 : -6 ≤ le) (h2 : le ≤ 6) (H : K (bI ((0 < le ∧ (p : Int) < (wd m k : Int) - (shw (wd m k) le : Int)) ∨ (le ≤ 0 ∧ shw (wd m k) le ≤ p))) σ) : CT g l M_X7_isHidden 0 [.ref (zad g 24), .int (iI k), .int (iI p), .int (iI le)] σ (zQi K X) := by
  have hs := wf_s hw hk
  have hsh := shw_le (w := wd m k) h1 h2
  refine b_X7_isHidden (s_ofW hm hw hk ?_)
  try simp (disch := omega) only [iI_add, iI_sub, iI_mul, iI_neg, iI_n, iI_lt, iI_le, iI_eq, iI_tn, iI_ti, bI_0, bI_1, iI_L, iL_0, Decidable.not_not, Int.toNat_natCast, zpt_at, zpt_ne, pk_us, pk_un, forall_eq, tn_0, tn_1, tn_2, tn_3, tn_4, tn_5, ni_1, ni_2, ni_3, ni_4, ni_5, not_false_eq_true, not_true_eq_false, true_implies, false_implies, and_true, true_and, iL_6, iL_m6, iL_7, iL_8, iL_9, iL_4, iL_m4, iL_m8, li_0, li_1, li_2, li_3, li_4, li_5, li_6, li_7, li_8, li_9, li_10, li_11, li_12, li_13, li_15, li_16, li_18, li_20, li_24, li_31, li_32, li_40, li_46, li_48, li_57, li_59, li_60, li_61, li_63, li_64, li_97, li_99, li_122, li_124, li_150, li_255, li_480, li_488, li_600, li_999, li_1110, li_54]
  refine s_greater (by omega) (by omega) (by omega) (by omega) ?_
  have e := shw_i hs.2.1 h1 h2
  rw [iI_mul, iI_add] at e
  try simp (disch := omega) only [iI_add, iI_sub, iI_mul, iI_neg, iI_n, iI_lt, iI_le, iI_eq, iI_tn, iI_ti, bI_0, bI_1, iI_L, iL_0, Decidable.not_not, Int.toNat_natCast, zpt_at, zpt_ne, pk_us, pk_un, forall_eq, tn_0, tn_1, tn_2, tn_3, tn_4, tn_5, ni_1, ni_2, ni_3, ni_4, ni_5, not_false_eq_true, not_true_eq_false, true_implies, false_implies, and_true, true_and, iL_6, iL_m6, iL_7, iL_8, iL_9, iL_4, iL_m4, iL_m8, li_0, li_1, li_2, li_3, li_4, li_5, li_6, li_7, li_8, li_9, li_10, li_11, li_12, li_13, li_15, li_16, li_18, li_20, li_24, li_31, li_32, li_40, li_46, li_48, li_57, li_59, li_60, li_61, li_63, li_64, li_97, li_99, li_122, li_124, li_150, li_255, li_480, li_488, li_600, li_999, li_1110, li_54, e]
  refine ⟨fun h => ⟨fun h' => ?_, fun h' => ?_⟩, fun h => ⟨fun h' => ?_, fun h' => ?_⟩⟩
  · rw [bI_F (by omega)] at H; exact H
  · rw [bI_T (by omega)] at H; exact H
  · rw [bI_F (by omega)] at H; exact H
  · rw [bI_T (by omega)] at H; exact H
theorem stt_le (m : Nat → Int32) (a : Int) (c : Nat) : stt m a c ≤ 3 := by
  unfold stt
  split
  · omega
  · split
    · omega
    · split <;> omega
theorem s_stateOf (hm : σ.1 26 = m) (hw : WF m) {c : Nat} (hc : c < cols m) {a : Int} (ha : -6 ≤ a ∧ a ≤ 6) (H : K (iI (stt m a c)) σ) : CT g l M_X7_stateOf 0 [.ref (zad g 24), .int (iI a), .int (iI c)] σ (zQi K X) := by
  have hy := slat_yes hc
  have hb := wf_b hw
  have hcl := cols_le hw
  have hs := wf_s hw hy.1
  have hsb := seam_b hw hy.1
  have hlb := lean_b m (slatOf m c) a
  unfold stt at H
  generalize hk : slatOf m c = k at *
  have hp : ((c : Int) - (fst m k : Int)) = ((c - fst m k : Nat) : Int) := by omega
  refine b_X7_stateOf (s_slatOf hm hw hc ?_)
  rw [hk]
  refine s_firstOf hm hw (by omega) ?_
  try simp (disch := omega) only [iI_add, iI_sub, iI_mul, iI_neg, iI_n, iI_lt, iI_le, iI_eq, iI_tn, iI_ti, bI_0, bI_1, iI_L, iL_0, Decidable.not_not, Int.toNat_natCast, zpt_at, zpt_ne, pk_us, pk_un, forall_eq, tn_0, tn_1, tn_2, tn_3, tn_4, tn_5, ni_1, ni_2, ni_3, ni_4, ni_5, not_false_eq_true, not_true_eq_false, true_implies, false_implies, and_true, true_and, iL_6, iL_m6, iL_7, iL_8, iL_9, iL_4, iL_m4, iL_m8, li_0, li_1, li_2, li_3, li_4, li_5, li_6, li_7, li_8, li_9, li_10, li_11, li_12, li_13, li_15, li_16, li_18, li_20, li_24, li_31, li_32, li_40, li_46, li_48, li_57, li_59, li_60, li_61, li_63, li_64, li_97, li_99, li_122, li_124, li_150, li_255, li_480, li_488, li_600, li_999, li_1110, li_54, hp]
  have tail : ¬ (0 < k ∧ ((c - fst m k : Nat) : Int) < seamB m (k - 1)) → CT g l M_X7_of 0 [.ref (zad g 24), .int (iI k), .int (iI 0)] σ (zQi (fun v4 τ4 => CT g l M_X7_seamBehind 0 [.ref (zad g 24), .int (iI k)] τ4 (zQi (fun v5 τ5 => ((iI ((c - fst m k : Nat) : Int) < (v4 + v5) → CT g l M_X7_leanOf 0 [.ref (zad g 24), .int (iI k), .int (iI a)] τ5 (zQi (fun v7 τ7 => CT g l M_X7_isHidden 0 [.ref (zad g 24), .int (iI k), .int (iI ((c - fst m k : Nat) : Int)), .int v7] τ7 (zQi (fun v8 τ8 => ((v8 = iI 0 → K (iI 0) τ8) ∧ (¬ v8 = iI 0 → K (iI 3) τ8))) (fun E τ => X E τ))) (fun E τ => X E τ))) ∧ (¬ iI ((c - fst m k : Nat) : Int) < (v4 + v5) → K (iI 2) τ5))) (fun E τ => X E τ))) (fun E τ => X E τ)) := fun h1 => by
    rw [if_neg h1] at H
    refine s_ofW hm hw hy.1 ?_
    refine s_seamBehind hm hw hy.1 ?_
    try simp (disch := omega) only [iI_add, iI_sub, iI_mul, iI_neg, iI_n, iI_lt, iI_le, iI_eq, iI_tn, iI_ti, bI_0, bI_1, iI_L, iL_0, Decidable.not_not, Int.toNat_natCast, zpt_at, zpt_ne, pk_us, pk_un, forall_eq, tn_0, tn_1, tn_2, tn_3, tn_4, tn_5, ni_1, ni_2, ni_3, ni_4, ni_5, not_false_eq_true, not_true_eq_false, true_implies, false_implies, and_true, true_and, iL_6, iL_m6, iL_7, iL_8, iL_9, iL_4, iL_m4, iL_m8, li_0, li_1, li_2, li_3, li_4, li_5, li_6, li_7, li_8, li_9, li_10, li_11, li_12, li_13, li_15, li_16, li_18, li_20, li_24, li_31, li_32, li_40, li_46, li_48, li_57, li_59, li_60, li_61, li_63, li_64, li_97, li_99, li_122, li_124, li_150, li_255, li_480, li_488, li_600, li_999, li_1110, li_54]
    refine ⟨fun h2 => ?_, fun h2 => ?_⟩
    · rw [if_neg (by omega)] at H
      refine s_leanOf hm hw hy.1 ha ?_
      refine s_isHidden hm hw hy.1 (by omega) hlb.1 hlb.2 ?_
      try simp (disch := omega) only [iI_add, iI_sub, iI_mul, iI_neg, iI_n, iI_lt, iI_le, iI_eq, iI_tn, iI_ti, bI_0, bI_1, iI_L, iL_0, Decidable.not_not, Int.toNat_natCast, zpt_at, zpt_ne, pk_us, pk_un, forall_eq, tn_0, tn_1, tn_2, tn_3, tn_4, tn_5, ni_1, ni_2, ni_3, ni_4, ni_5, not_false_eq_true, not_true_eq_false, true_implies, false_implies, and_true, true_and, iL_6, iL_m6, iL_7, iL_8, iL_9, iL_4, iL_m4, iL_m8, li_0, li_1, li_2, li_3, li_4, li_5, li_6, li_7, li_8, li_9, li_10, li_11, li_12, li_13, li_15, li_16, li_18, li_20, li_24, li_31, li_32, li_40, li_46, li_48, li_57, li_59, li_60, li_61, li_63, li_64, li_97, li_99, li_122, li_124, li_150, li_255, li_480, li_488, li_600, li_999, li_1110, li_54]
      refine ⟨fun h3 => ?_, fun h3 => ?_⟩
      · rw [if_neg h3] at H; exact H
      · rw [if_pos h3] at H; exact H
    · rw [if_pos (by omega)] at H; exact H
  refine ⟨fun h => ?_, fun h => ?_⟩
  · exact tail (by omega)
  · rw [show ((k : Int) - 1) = ((k - 1 : Nat) : Int) by omega]
    have hsb2 := seam_b hw (k := k - 1) (by omega)
    refine s_seamBehind hm hw (by omega) ?_
    try simp (disch := omega) only [iI_add, iI_sub, iI_mul, iI_neg, iI_n, iI_lt, iI_le, iI_eq, iI_tn, iI_ti, bI_0, bI_1, iI_L, iL_0, Decidable.not_not, Int.toNat_natCast, zpt_at, zpt_ne, pk_us, pk_un, forall_eq, tn_0, tn_1, tn_2, tn_3, tn_4, tn_5, ni_1, ni_2, ni_3, ni_4, ni_5, not_false_eq_true, not_true_eq_false, true_implies, false_implies, and_true, true_and, iL_6, iL_m6, iL_7, iL_8, iL_9, iL_4, iL_m4, iL_m8, li_0, li_1, li_2, li_3, li_4, li_5, li_6, li_7, li_8, li_9, li_10, li_11, li_12, li_13, li_15, li_16, li_18, li_20, li_24, li_31, li_32, li_40, li_46, li_48, li_57, li_59, li_60, li_61, li_63, li_64, li_97, li_99, li_122, li_124, li_150, li_255, li_480, li_488, li_600, li_999, li_1110, li_54]
    refine ⟨fun h2 => ?_, fun h2 => ?_⟩
    · exact tail (by omega)
    · rw [if_pos (by omega)] at H; exact H
theorem sdS_lt (m : Nat → Int32) (a : Int) (c : Nat) : sdS m a c < 2 := by
  unfold sdS; split <;> omega
theorem s_sideSeen (hm : σ.1 26 = m) (hw : WF m) {c : Nat} (hc : c < cols m) {a : Int} (ha : -6 ≤ a ∧ a ≤ 6) (H : K (iI (sdS m a c)) σ) : CT g l M_X7_sideSeen 0 [.ref (zad g 24), .int (iI a), .int (iI c)] σ (zQi K X) := by
  have hy := slat_yes hc
  have hb := wf_b hw
  have hlb := lean_b m (slatOf m c) a
  unfold sdS at H
  refine b_X7_sideSeen (s_slatOf hm hw hc ?_)
  try simp (disch := omega) only [iI_add, iI_sub, iI_mul, iI_neg, iI_n, iI_lt, iI_le, iI_eq, iI_tn, iI_ti, bI_0, bI_1, iI_L, iL_0, Decidable.not_not, Int.toNat_natCast, zpt_at, zpt_ne, pk_us, pk_un, forall_eq, tn_0, tn_1, tn_2, tn_3, tn_4, tn_5, ni_1, ni_2, ni_3, ni_4, ni_5, not_false_eq_true, not_true_eq_false, true_implies, false_implies, and_true, true_and, iL_6, iL_m6, iL_7, iL_8, iL_9, iL_4, iL_m4, iL_m8, li_0, li_1, li_2, li_3, li_4, li_5, li_6, li_7, li_8, li_9, li_10, li_11, li_12, li_13, li_15, li_16, li_18, li_20, li_24, li_31, li_32, li_40, li_46, li_48, li_57, li_59, li_60, li_61, li_63, li_64, li_97, li_99, li_122, li_124, li_150, li_255, li_480, li_488, li_600, li_999, li_1110, li_54]
  refine s_leanOf hm hw hy.1 ha ?_
  try simp (disch := omega) only [iI_add, iI_sub, iI_mul, iI_neg, iI_n, iI_lt, iI_le, iI_eq, iI_tn, iI_ti, bI_0, bI_1, iI_L, iL_0, Decidable.not_not, Int.toNat_natCast, zpt_at, zpt_ne, pk_us, pk_un, forall_eq, tn_0, tn_1, tn_2, tn_3, tn_4, tn_5, ni_1, ni_2, ni_3, ni_4, ni_5, not_false_eq_true, not_true_eq_false, true_implies, false_implies, and_true, true_and, iL_6, iL_m6, iL_7, iL_8, iL_9, iL_4, iL_m4, iL_m8, li_0, li_1, li_2, li_3, li_4, li_5, li_6, li_7, li_8, li_9, li_10, li_11, li_12, li_13, li_15, li_16, li_18, li_20, li_24, li_31, li_32, li_40, li_46, li_48, li_57, li_59, li_60, li_61, li_63, li_64, li_97, li_99, li_122, li_124, li_150, li_255, li_480, li_488, li_600, li_999, li_1110, li_54]
  refine ⟨fun h => ?_, fun h => ?_⟩
  · rw [if_neg (by omega)] at H
    exact s_truth0 H
  · rw [if_pos (by omega)] at H
    exact s_truth1 H
theorem s_colourSeen (hm : σ.1 26 = m) (hw : WF m) {c r : Nat} (hc : c < cols m) (hr : r < 8) {a : Int} (ha : -6 ≤ a ∧ a ≤ 6) (H : K (iI (cS m a c r)) σ) : CT g l M_X7_colourSeen 0 [.ref (zad g 24), .int (iI a), .int (iI c), .int (iI r)] σ (zQi K X) := by
  have hcl := cols_le hw
  refine b_X7_colourSeen (s_sideSeen hm hw hc ha ?_)
  exact s_painted hm hw (sdS_lt m a c) (by omega) hr H
theorem picN_le (hw : WF m) (s c r : Nat) : ∀ n, n ≤ nB m → picN m s c r n ≤ 9
  | 0, _ => Nat.zero_le _
  | n + 1, h => by
    have := picN_le hw s c r n (by omega)
    have := wf_x hw (b := n) (by omega)
    unfold picN; split <;> omega
theorem pic_le (hw : WF m) (s c r : Nat) : pic m s c r ≤ 9 := picN_le hw s c r _ (Nat.le_refl _)
theorem why_le (m : Nat → Int32) (a : Int) (s c r : Nat) : whyN m a s c r ≤ 5 := by
  have := stt_le m a c
  unfold whyN
  split
  · omega
  · split
    · omega
    · split <;> omega
theorem s_whyNot (hm : σ.1 26 = m) (hw : WF m) {s c r : Nat} (hs : s < 2) (hc : c < cols m) (hr : r < 8) {a : Int} (ha : -6 ≤ a ∧ a ≤ 6) (H : K (iI (whyN m a s c r)) σ) : CT g l M_X7_whyNot 0 [.ref (zad g 24), .int (iI a), .int (iI s), .int (iI c), .int (iI r)] σ (zQi K X) := by
  have hcl := cols_le hw
  have hst := stt_le m a c
  have hpl := pic_le hw s c r
  have hsd := sdS_lt m a c
  have hfl := wf_f9 hw hsd (c := c) (r := r) (by omega) hr
  unfold whyN at H
  refine b_X7_whyNot (s_stateOf hm hw hc ha ?_)
  try simp (disch := omega) only [iI_add, iI_sub, iI_mul, iI_neg, iI_n, iI_lt, iI_le, iI_eq, iI_tn, iI_ti, bI_0, bI_1, iI_L, iL_0, Decidable.not_not, Int.toNat_natCast, zpt_at, zpt_ne, pk_us, pk_un, forall_eq, tn_0, tn_1, tn_2, tn_3, tn_4, tn_5, ni_1, ni_2, ni_3, ni_4, ni_5, not_false_eq_true, not_true_eq_false, true_implies, false_implies, and_true, true_and, iL_6, iL_m6, iL_7, iL_8, iL_9, iL_4, iL_m4, iL_m8, li_0, li_1, li_2, li_3, li_4, li_5, li_6, li_7, li_8, li_9, li_10, li_11, li_12, li_13, li_15, li_16, li_18, li_20, li_24, li_31, li_32, li_40, li_46, li_48, li_57, li_59, li_60, li_61, li_63, li_64, li_97, li_99, li_122, li_124, li_150, li_255, li_480, li_488, li_600, li_999, li_1110, li_54]
  refine ⟨fun h => ?_, fun h => ?_⟩
  · rw [if_neg (by omega)] at H
    refine s_colourSeen hm hw hc hr ha ?_
    refine s_pictureAt hm hw hs (by omega) hr ?_
    unfold cS at *
    try simp (disch := omega) only [iI_add, iI_sub, iI_mul, iI_neg, iI_n, iI_lt, iI_le, iI_eq, iI_tn, iI_ti, bI_0, bI_1, iI_L, iL_0, Decidable.not_not, Int.toNat_natCast, zpt_at, zpt_ne, pk_us, pk_un, forall_eq, tn_0, tn_1, tn_2, tn_3, tn_4, tn_5, ni_1, ni_2, ni_3, ni_4, ni_5, not_false_eq_true, not_true_eq_false, true_implies, false_implies, and_true, true_and, iL_6, iL_m6, iL_7, iL_8, iL_9, iL_4, iL_m4, iL_m8, li_0, li_1, li_2, li_3, li_4, li_5, li_6, li_7, li_8, li_9, li_10, li_11, li_12, li_13, li_15, li_16, li_18, li_20, li_24, li_31, li_32, li_40, li_46, li_48, li_57, li_59, li_60, li_61, li_63, li_64, li_97, li_99, li_122, li_124, li_150, li_255, li_480, li_488, li_600, li_999, li_1110, li_54]
    refine ⟨fun h2 => ?_, fun h2 => ?_⟩
    · rw [if_neg (by omega)] at H
      refine s_sideSeen hm hw hc ha ?_
      try simp (disch := omega) only [iI_add, iI_sub, iI_mul, iI_neg, iI_n, iI_lt, iI_le, iI_eq, iI_tn, iI_ti, bI_0, bI_1, iI_L, iL_0, Decidable.not_not, Int.toNat_natCast, zpt_at, zpt_ne, pk_us, pk_un, forall_eq, tn_0, tn_1, tn_2, tn_3, tn_4, tn_5, ni_1, ni_2, ni_3, ni_4, ni_5, not_false_eq_true, not_true_eq_false, true_implies, false_implies, and_true, true_and, iL_6, iL_m6, iL_7, iL_8, iL_9, iL_4, iL_m4, iL_m8, li_0, li_1, li_2, li_3, li_4, li_5, li_6, li_7, li_8, li_9, li_10, li_11, li_12, li_13, li_15, li_16, li_18, li_20, li_24, li_31, li_32, li_40, li_46, li_48, li_57, li_59, li_60, li_61, li_63, li_64, li_97, li_99, li_122, li_124, li_150, li_255, li_480, li_488, li_600, li_999, li_1110, li_54]
      refine ⟨fun h3 => ?_, fun h3 => ?_⟩
      · rw [if_neg (by omega)] at H; exact H
      · rw [if_pos (by omega)] at H; exact H
    · rw [if_pos (by omega)] at H; exact H
  · rw [if_pos (by omega)] at H; exact H
theorem ctd (p : Nat → Bool) (n : Nat) (h : p n = true) : ((fb_ct p n : Int) + 1) = ((fb_ct p (n + 1) : Nat) : Int) := by
  rw [fb_ct_succ, if_pos h]; rfl
theorem ctn (p : Nat → Bool) (n : Nat) (h : ¬ p n = true) : ((fb_ct p n : Int) + 0) = ((fb_ct p (n + 1) : Nat) : Int) := by
  rw [fb_ct_succ, if_neg h]; rfl
theorem s_rightMany_11 (hm : σ.1 26 = m) (hw : WF m) {s : Nat} (hs : s < 2) {a : Int} (ha : -6 ≤ a ∧ a ≤ 6) (H : K (iI (rgt m a s)) σ) (c : Nat) (hc : c ≤ cols m) : L_X7_rightMany_11 g l K X (iI a) (iI s) (iI (fb_sm (fun c => fb_ct (fun r => decide (whyN m a s c r = 0)) (nH m)) c)) (iI (cols m)) (iI c) σ := by
  have hb := wf_b hw
  have hcl := cols_le hw
  have inner : ∀ n r, r + n = nH m → c < cols m → L_X7_rightMany_21 g l K X (iI a) (iI s) (iI (fb_sm (fun c => fb_ct (fun r => decide (whyN m a s c r = 0)) (nH m)) c + fb_ct (fun r => decide (whyN m a s c r = 0)) r : Nat)) (iI (cols m)) (iI c) (iI r) σ := fun n => by
    induction n with
    | zero =>
      intro r e h
      refine b_X7_rightMany_21 ?_
      rw [show (Int32.toNatClampNeg 0) = 0 from rfl, hm, wf_0 hw]
      try simp (disch := omega) only [iI_add, iI_sub, iI_mul, iI_neg, iI_n, iI_lt, iI_le, iI_eq, iI_tn, iI_ti, bI_0, bI_1, iI_L, iL_0, Decidable.not_not, Int.toNat_natCast, zpt_at, zpt_ne, pk_us, pk_un, forall_eq, tn_0, tn_1, tn_2, tn_3, tn_4, tn_5, ni_1, ni_2, ni_3, ni_4, ni_5, not_false_eq_true, not_true_eq_false, true_implies, false_implies, and_true, true_and, iL_6, iL_m6, iL_7, iL_8, iL_9, iL_4, iL_m4, iL_m8, li_0, li_1, li_2, li_3, li_4, li_5, li_6, li_7, li_8, li_9, li_10, li_11, li_12, li_13, li_15, li_16, li_18, li_20, li_24, li_31, li_32, li_40, li_46, li_48, li_57, li_59, li_60, li_61, li_63, li_64, li_97, li_99, li_122, li_124, li_150, li_255, li_480, li_488, li_600, li_999, li_1110, li_54]
      refine ⟨fun _ => ?_, fun h => by omega⟩
      obtain rfl : r = nH m := by omega
      exact s_rightMany_11 hm hw hs ha H (c + 1) h
    | succ n ih =>
      intro r e h
      refine b_X7_rightMany_21 ?_
      rw [show (Int32.toNatClampNeg 0) = 0 from rfl, hm, wf_0 hw]
      have hwl := why_le m a s c r
      try simp (disch := omega) only [iI_add, iI_sub, iI_mul, iI_neg, iI_n, iI_lt, iI_le, iI_eq, iI_tn, iI_ti, bI_0, bI_1, iI_L, iL_0, Decidable.not_not, Int.toNat_natCast, zpt_at, zpt_ne, pk_us, pk_un, forall_eq, tn_0, tn_1, tn_2, tn_3, tn_4, tn_5, ni_1, ni_2, ni_3, ni_4, ni_5, not_false_eq_true, not_true_eq_false, true_implies, false_implies, and_true, true_and, iL_6, iL_m6, iL_7, iL_8, iL_9, iL_4, iL_m4, iL_m8, li_0, li_1, li_2, li_3, li_4, li_5, li_6, li_7, li_8, li_9, li_10, li_11, li_12, li_13, li_15, li_16, li_18, li_20, li_24, li_31, li_32, li_40, li_46, li_48, li_57, li_59, li_60, li_61, li_63, li_64, li_97, li_99, li_122, li_124, li_150, li_255, li_480, li_488, li_600, li_999, li_1110, li_54]
      refine ⟨fun h => by omega, fun _ => ?_⟩
      refine s_whyNot hm hw hs h (by omega) ha ?_
      have ih := ih (r + 1) (by omega) h
      try simp (disch := omega) only [iI_add, iI_sub, iI_mul, iI_neg, iI_n, iI_lt, iI_le, iI_eq, iI_tn, iI_ti, bI_0, bI_1, iI_L, iL_0, Decidable.not_not, Int.toNat_natCast, zpt_at, zpt_ne, pk_us, pk_un, forall_eq, tn_0, tn_1, tn_2, tn_3, tn_4, tn_5, ni_1, ni_2, ni_3, ni_4, ni_5, not_false_eq_true, not_true_eq_false, true_implies, false_implies, and_true, true_and, iL_6, iL_m6, iL_7, iL_8, iL_9, iL_4, iL_m4, iL_m8, li_0, li_1, li_2, li_3, li_4, li_5, li_6, li_7, li_8, li_9, li_10, li_11, li_12, li_13, li_15, li_16, li_18, li_20, li_24, li_31, li_32, li_40, li_46, li_48, li_57, li_59, li_60, li_61, li_63, li_64, li_97, li_99, li_122, li_124, li_150, li_255, li_480, li_488, li_600, li_999, li_1110, li_54]
      refine ⟨fun h2 => s_truth0 ?_, fun h2 => s_truth1 ?_⟩
      · try simp (disch := omega) only [iI_add, iI_sub, iI_mul, iI_neg, iI_n, iI_lt, iI_le, iI_eq, iI_tn, iI_ti, bI_0, bI_1, iI_L, iL_0, Decidable.not_not, Int.toNat_natCast, zpt_at, zpt_ne, pk_us, pk_un, forall_eq, tn_0, tn_1, tn_2, tn_3, tn_4, tn_5, ni_1, ni_2, ni_3, ni_4, ni_5, not_false_eq_true, not_true_eq_false, true_implies, false_implies, and_true, true_and, iL_6, iL_m6, iL_7, iL_8, iL_9, iL_4, iL_m4, iL_m8, li_0, li_1, li_2, li_3, li_4, li_5, li_6, li_7, li_8, li_9, li_10, li_11, li_12, li_13, li_15, li_16, li_18, li_20, li_24, li_31, li_32, li_40, li_46, li_48, li_57, li_59, li_60, li_61, li_63, li_64, li_97, li_99, li_122, li_124, li_150, li_255, li_480, li_488, li_600, li_999, li_1110, li_54]
        rw [fb_ct_succ, if_neg (by simp; omega)] at ih
        exact ih
      · try simp (disch := omega) only [iI_add, iI_sub, iI_mul, iI_neg, iI_n, iI_lt, iI_le, iI_eq, iI_tn, iI_ti, bI_0, bI_1, iI_L, iL_0, Decidable.not_not, Int.toNat_natCast, zpt_at, zpt_ne, pk_us, pk_un, forall_eq, tn_0, tn_1, tn_2, tn_3, tn_4, tn_5, ni_1, ni_2, ni_3, ni_4, ni_5, not_false_eq_true, not_true_eq_false, true_implies, false_implies, and_true, true_and, iL_6, iL_m6, iL_7, iL_8, iL_9, iL_4, iL_m4, iL_m8, li_0, li_1, li_2, li_3, li_4, li_5, li_6, li_7, li_8, li_9, li_10, li_11, li_12, li_13, li_15, li_16, li_18, li_20, li_24, li_31, li_32, li_40, li_46, li_48, li_57, li_59, li_60, li_61, li_63, li_64, li_97, li_99, li_122, li_124, li_150, li_255, li_480, li_488, li_600, li_999, li_1110, li_54]
        rw [fb_ct_succ, if_pos (by simp; omega)] at ih
        exact ih
  refine b_X7_rightMany_11 ?_
  try simp (disch := omega) only [iI_add, iI_sub, iI_mul, iI_neg, iI_n, iI_lt, iI_le, iI_eq, iI_tn, iI_ti, bI_0, bI_1, iI_L, iL_0, Decidable.not_not, Int.toNat_natCast, zpt_at, zpt_ne, pk_us, pk_un, forall_eq, tn_0, tn_1, tn_2, tn_3, tn_4, tn_5, ni_1, ni_2, ni_3, ni_4, ni_5, not_false_eq_true, not_true_eq_false, true_implies, false_implies, and_true, true_and, iL_6, iL_m6, iL_7, iL_8, iL_9, iL_4, iL_m4, iL_m8, li_0, li_1, li_2, li_3, li_4, li_5, li_6, li_7, li_8, li_9, li_10, li_11, li_12, li_13, li_15, li_16, li_18, li_20, li_24, li_31, li_32, li_40, li_46, li_48, li_57, li_59, li_60, li_61, li_63, li_64, li_97, li_99, li_122, li_124, li_150, li_255, li_480, li_488, li_600, li_999, li_1110, li_54]
  refine ⟨fun h => ?_, fun h => inner (nH m) 0 (by omega) (by omega)⟩
  obtain rfl : c = cols m := by omega
  exact H
termination_by cols m - c
theorem s_rightMany (hm : σ.1 26 = m) (hw : WF m) {s : Nat} (hs : s < 2) {a : Int} (ha : -6 ≤ a ∧ a ≤ 6) (H : K (iI (rgt m a s)) σ) : CT g l M_X7_rightMany 0 [.ref (zad g 24), .int (iI a), .int (iI s)] σ (zQi K X) :=
  b_X7_rightMany (s_columns hm hw (s_rightMany_11 hm hw hs ha H 0 (Nat.zero_le _)))
end ZMS
