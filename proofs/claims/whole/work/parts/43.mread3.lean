/-! the reference: tests ahead of a call, counts -/
section ZMT
variable {g : zG} {l : Launch} {K : Int32 → zS → Prop} {X : String → zS → Prop} {σ : zS} {m : Nat → Int32}
theorem zpt_zpt (σ : zS) (o : Nat) (f h : Nat → Int32) : zpt (zpt σ o f) o h = zpt σ o h := by
  have : ∀ a, (zpt (zpt σ o f) o h).1 a = (zpt σ o h).1 a := by
    intro a
    by_cases e : a = o
    · subst e; rw [zpt_at, zpt_at]
    · rw [zpt_ne e, zpt_ne e, zpt_ne e]
  exact Prod.ext (funext this) rfl
theorem zpt_id (σ : zS) (o : Nat) : zpt σ o (σ.1 o) = σ := by
  have : ∀ a, (zpt σ o (σ.1 o)).1 a = σ.1 a := by
    intro a
    by_cases e : a = o
    · subst e; rw [zpt_at]
    · rw [zpt_ne e]
  exact Prod.ext (funext this) rfl
theorem zpt_sw (σ : zS) {o a : Nat} (h : o ≠ a) (f k : Nat → Int32) : zpt (zpt σ o f) a k = zpt (zpt σ a k) o f := by
  have : ∀ b, (zpt (zpt σ o f) a k).1 b = (zpt (zpt σ a k) o f).1 b := by
    intro b
    by_cases e : b = o
    · subst e; rw [zpt_ne h, zpt_at, zpt_at]
    · by_cases e' : b = a
      · subst e'; rw [zpt_at, zpt_ne e, zpt_at]
      · rw [zpt_ne e', zpt_ne e, zpt_ne e, zpt_ne e']
  exact Prod.ext (funext this) rfl
/-- how a call of the reference was left: its code -/
abbrev cd (σ : zS) (c : Int) : zS := zup σ 24 0 (iI c)
theorem cd_cd (σ : zS) (a b : Int) : cd (cd σ a) b = cd σ b := by
  unfold cd zup
  rw [zpt_zpt, zpt_at, fa_upd_twice]
theorem s_goes {p : Prop} [Decidable p] (H1 : p → K (iI 1) (cd σ 0)) (H0 : ¬ p → K (iI 0) (cd σ 1)) : CT g l M_X7_goes 0 [.ref (zad g 24), .int (bI p)] σ (zQi K X) := by
  refine b_X7_goes ?_
  try simp (disch := omega) only [iI_add, iI_sub, iI_mul, iI_neg, iI_n, iI_lt, iI_le, iI_eq, iI_tn, iI_ti, bI_0, bI_1, iI_L, iL_0, Decidable.not_not, Int.toNat_natCast, zpt_at, zpt_ne, pk_us, pk_un, forall_eq, tn_0, tn_1, tn_2, tn_3, tn_4, tn_5, ni_1, ni_2, ni_3, ni_4, ni_5, not_false_eq_true, not_true_eq_false, true_implies, false_implies, and_true, true_and, iL_6, iL_m6, iL_7, iL_8, iL_9, iL_4, iL_m4, iL_m8, li_0, li_1, li_2, li_3, li_4, li_5, li_6, li_7, li_8, li_9, li_10, li_11, li_12, li_13, li_15, li_16, li_18, li_20, li_24, li_31, li_32, li_40, li_46, li_48, li_57, li_59, li_60, li_61, li_63, li_64, li_97, li_99, li_122, li_124, li_150, li_255, li_480, li_488, li_600, li_999, li_1110, li_54]
  refine ⟨fun h => s_truth0 ?_, fun h => s_truth1 ?_⟩
  · try simp (disch := omega) only [iI_add, iI_sub, iI_mul, iI_neg, iI_n, iI_lt, iI_le, iI_eq, iI_tn, iI_ti, bI_0, bI_1, iI_L, iL_0, Decidable.not_not, Int.toNat_natCast, zpt_at, zpt_ne, pk_us, pk_un, forall_eq, tn_0, tn_1, tn_2, tn_3, tn_4, tn_5, ni_1, ni_2, ni_3, ni_4, ni_5, not_false_eq_true, not_true_eq_false, true_implies, false_implies, and_true, true_and, iL_6, iL_m6, iL_7, iL_8, iL_9, iL_4, iL_m4, iL_m8, li_0, li_1, li_2, li_3, li_4, li_5, li_6, li_7, li_8, li_9, li_10, li_11, li_12, li_13, li_15, li_16, li_18, li_20, li_24, li_31, li_32, li_40, li_46, li_48, li_57, li_59, li_60, li_61, li_63, li_64, li_97, li_99, li_122, li_124, li_150, li_255, li_480, li_488, li_600, li_999, li_1110, li_54]
    refine ⟨bI_bl, ?_⟩
    rw [bI_T h]; exact H1 h
  · try simp (disch := omega) only [iI_add, iI_sub, iI_mul, iI_neg, iI_n, iI_lt, iI_le, iI_eq, iI_tn, iI_ti, bI_0, bI_1, iI_L, iL_0, Decidable.not_not, Int.toNat_natCast, zpt_at, zpt_ne, pk_us, pk_un, forall_eq, tn_0, tn_1, tn_2, tn_3, tn_4, tn_5, ni_1, ni_2, ni_3, ni_4, ni_5, not_false_eq_true, not_true_eq_false, true_implies, false_implies, and_true, true_and, iL_6, iL_m6, iL_7, iL_8, iL_9, iL_4, iL_m4, iL_m8, li_0, li_1, li_2, li_3, li_4, li_5, li_6, li_7, li_8, li_9, li_10, li_11, li_12, li_13, li_15, li_16, li_18, li_20, li_24, li_31, li_32, li_40, li_46, li_48, li_57, li_59, li_60, li_61, li_63, li_64, li_97, li_99, li_122, li_124, li_150, li_255, li_480, li_488, li_600, li_999, li_1110, li_54]
    refine ⟨bI_bl, ?_⟩
    rw [bI_F h]; exact H0 h
theorem s_goes1 (H1 : K (iI 1) (cd σ 0)) : CT g l M_X7_goes 0 [.ref (zad g 24), .int (iI 1)] σ (zQi K X) := by
  have := s_goes (g := g) (l := l) (X := X) (p := True) (fun _ => H1) (fun h => absurd trivial h)
  rw [bI_T trivial] at this; exact this
theorem s_goes0 (H0 : K (iI 0) (cd σ 1)) : CT g l M_X7_goes 0 [.ref (zad g 24), .int (iI 0)] σ (zQi K X) := by
  have := s_goes (g := g) (l := l) (X := X) (p := False) (fun h => h.elim) (fun _ => H0)
  rw [bI_F (fun h => h)] at this; exact this
theorem s_goesBoth {p q : Prop} [Decidable p] [Decidable q] (H0 : p → q → K (iI 1) (cd σ 0)) (H1 : ¬ p → K (iI 0) (cd σ 1)) (H2 : p → ¬ q → K (iI 0) (cd σ 2)) : CT g l M_X7_goesBoth 0 [.ref (zad g 24), .int (bI p), .int (bI q)] σ (zQi K X) := by
  refine b_X7_goesBoth ?_
  try simp (disch := omega) only [iI_add, iI_sub, iI_mul, iI_neg, iI_n, iI_lt, iI_le, iI_eq, iI_tn, iI_ti, bI_0, bI_1, iI_L, iL_0, Decidable.not_not, Int.toNat_natCast, zpt_at, zpt_ne, pk_us, pk_un, forall_eq, tn_0, tn_1, tn_2, tn_3, tn_4, tn_5, ni_1, ni_2, ni_3, ni_4, ni_5, not_false_eq_true, not_true_eq_false, true_implies, false_implies, and_true, true_and, iL_6, iL_m6, iL_7, iL_8, iL_9, iL_4, iL_m4, iL_m8, li_0, li_1, li_2, li_3, li_4, li_5, li_6, li_7, li_8, li_9, li_10, li_11, li_12, li_13, li_15, li_16, li_18, li_20, li_24, li_31, li_32, li_40, li_46, li_48, li_57, li_59, li_60, li_61, li_63, li_64, li_97, li_99, li_122, li_124, li_150, li_255, li_480, li_488, li_600, li_999, li_1110, li_54]
  refine ⟨fun h => ⟨fun h' => ?_, fun h' => ?_⟩, fun h => ?_⟩
  · exact H0 h h'
  · exact H2 h h'
  · exact H1 h
theorem s_isSlat (hm : σ.1 26 = m) (hw : WF m) {z : Int} (hz : -2147483648 ≤ z ∧ z < 2147483648) (H : K (bI (0 ≤ z ∧ z < nS m)) σ) : CT g l M_X7_isSlat 0 [.ref (zad g 24), .int (iI z)] σ (zQi K X) := by
  have hb := wf_b hw
  refine b_X7_isSlat ?_
  rw [show (Int32.toNatClampNeg 1) = 1 from rfl, hm, wf_1 hw]
  try simp (disch := omega) only [iI_add, iI_sub, iI_mul, iI_neg, iI_n, iI_lt, iI_le, iI_eq, iI_tn, iI_ti, bI_0, bI_1, iI_L, iL_0, Decidable.not_not, Int.toNat_natCast, zpt_at, zpt_ne, pk_us, pk_un, forall_eq, tn_0, tn_1, tn_2, tn_3, tn_4, tn_5, ni_1, ni_2, ni_3, ni_4, ni_5, not_false_eq_true, not_true_eq_false, true_implies, false_implies, and_true, true_and, iL_6, iL_m6, iL_7, iL_8, iL_9, iL_4, iL_m4, iL_m8, li_0, li_1, li_2, li_3, li_4, li_5, li_6, li_7, li_8, li_9, li_10, li_11, li_12, li_13, li_15, li_16, li_18, li_20, li_24, li_31, li_32, li_40, li_46, li_48, li_57, li_59, li_60, li_61, li_63, li_64, li_97, li_99, li_122, li_124, li_150, li_255, li_480, li_488, li_600, li_999, li_1110, li_54]
  refine s_isIn (by omega) (by omega) (by omega) (by omega) (by omega) (by omega) ⟨bI_bl, ?_⟩
  rw [bI_iff (q := 0 ≤ z ∧ z < nS m) (by omega)]; exact H
theorem s_isColumn (hm : σ.1 26 = m) (hw : WF m) {z : Int} (hz : -2147483648 ≤ z ∧ z < 2147483648) (H : K (bI (0 ≤ z ∧ z < cols m)) σ) : CT g l M_X7_isColumn 0 [.ref (zad g 24), .int (iI z)] σ (zQi K X) := by
  have hb := cols_le hw
  refine b_X7_isColumn (s_columns hm hw ?_)
  try simp (disch := omega) only [iI_add, iI_sub, iI_mul, iI_neg, iI_n, iI_lt, iI_le, iI_eq, iI_tn, iI_ti, bI_0, bI_1, iI_L, iL_0, Decidable.not_not, Int.toNat_natCast, zpt_at, zpt_ne, pk_us, pk_un, forall_eq, tn_0, tn_1, tn_2, tn_3, tn_4, tn_5, ni_1, ni_2, ni_3, ni_4, ni_5, not_false_eq_true, not_true_eq_false, true_implies, false_implies, and_true, true_and, iL_6, iL_m6, iL_7, iL_8, iL_9, iL_4, iL_m4, iL_m8, li_0, li_1, li_2, li_3, li_4, li_5, li_6, li_7, li_8, li_9, li_10, li_11, li_12, li_13, li_15, li_16, li_18, li_20, li_24, li_31, li_32, li_40, li_46, li_48, li_57, li_59, li_60, li_61, li_63, li_64, li_97, li_99, li_122, li_124, li_150, li_255, li_480, li_488, li_600, li_999, li_1110, li_54]
  refine s_isIn (by omega) (by omega) (by omega) (by omega) (by omega) (by omega) ⟨bI_bl, ?_⟩
  rw [bI_iff (q := 0 ≤ z ∧ z < cols m) (by omega)]; exact H
theorem s_isRow (hm : σ.1 26 = m) (hw : WF m) {z : Int} (hz : -2147483648 ≤ z ∧ z < 2147483648) (H : K (bI (0 ≤ z ∧ z < nH m)) σ) : CT g l M_X7_isRow 0 [.ref (zad g 24), .int (iI z)] σ (zQi K X) := by
  have hb := wf_b hw
  refine b_X7_isRow ?_
  rw [show (Int32.toNatClampNeg 0) = 0 from rfl, hm, wf_0 hw]
  try simp (disch := omega) only [iI_add, iI_sub, iI_mul, iI_neg, iI_n, iI_lt, iI_le, iI_eq, iI_tn, iI_ti, bI_0, bI_1, iI_L, iL_0, Decidable.not_not, Int.toNat_natCast, zpt_at, zpt_ne, pk_us, pk_un, forall_eq, tn_0, tn_1, tn_2, tn_3, tn_4, tn_5, ni_1, ni_2, ni_3, ni_4, ni_5, not_false_eq_true, not_true_eq_false, true_implies, false_implies, and_true, true_and, iL_6, iL_m6, iL_7, iL_8, iL_9, iL_4, iL_m4, iL_m8, li_0, li_1, li_2, li_3, li_4, li_5, li_6, li_7, li_8, li_9, li_10, li_11, li_12, li_13, li_15, li_16, li_18, li_20, li_24, li_31, li_32, li_40, li_46, li_48, li_57, li_59, li_60, li_61, li_63, li_64, li_97, li_99, li_122, li_124, li_150, li_255, li_480, li_488, li_600, li_999, li_1110, li_54]
  refine s_isIn (by omega) (by omega) (by omega) (by omega) (by omega) (by omega) ⟨bI_bl, ?_⟩
  rw [bI_iff (q := 0 ≤ z ∧ z < nH m) (by omega)]; exact H
theorem s_isAngle {z : Int} (hz : -2147483648 ≤ z ∧ z < 2147483648) (H : K (bI (-6 ≤ z ∧ z ≤ 6)) σ) : CT g l M_X7_isAngle 0 [.int (iI z)] σ (zQi K X) := by
  refine b_X7_isAngle ?_
  try simp (disch := omega) only [iI_add, iI_sub, iI_mul, iI_neg, iI_n, iI_lt, iI_le, iI_eq, iI_tn, iI_ti, bI_0, bI_1, iI_L, iL_0, Decidable.not_not, Int.toNat_natCast, zpt_at, zpt_ne, pk_us, pk_un, forall_eq, tn_0, tn_1, tn_2, tn_3, tn_4, tn_5, ni_1, ni_2, ni_3, ni_4, ni_5, not_false_eq_true, not_true_eq_false, true_implies, false_implies, and_true, true_and, iL_6, iL_m6, iL_7, iL_8, iL_9, iL_4, iL_m4, iL_m8, li_0, li_1, li_2, li_3, li_4, li_5, li_6, li_7, li_8, li_9, li_10, li_11, li_12, li_13, li_15, li_16, li_18, li_20, li_24, li_31, li_32, li_40, li_46, li_48, li_57, li_59, li_60, li_61, li_63, li_64, li_97, li_99, li_122, li_124, li_150, li_255, li_480, li_488, li_600, li_999, li_1110, li_54]
  refine s_isIn (by omega) (by omega) (by omega) (by omega) (by omega) (by omega) ⟨bI_bl, ?_⟩
  exact H
theorem nat_of {z : Int} {n : Nat} (h : 0 ≤ z ∧ z < n) : ∃ k : Nat, z = k ∧ k < n := ⟨z.toNat, by omega, by omega⟩
theorem s_isOfSlat (hm : σ.1 26 = m) (hw : WF m) {z c r : Int} (hz : -2147483648 ≤ z ∧ z < 2147483648) (hc : -2147483648 ≤ c ∧ c < 2147483648) (hr : -2147483648 ≤ r ∧ r < 2147483648) (H : K (bI ((0 ≤ z ∧ z < nS m) ∧ (0 ≤ c ∧ c < wd m z.toNat) ∧ (0 ≤ r ∧ r < nH m))) σ) : CT g l M_X7_isOfSlat 0 [.ref (zad g 24), .int (iI z), .int (iI c), .int (iI r)] σ (zQi K X) := by
  refine b_X7_isOfSlat (s_isSlat hm hw hz ?_)
  try simp (disch := omega) only [iI_add, iI_sub, iI_mul, iI_neg, iI_n, iI_lt, iI_le, iI_eq, iI_tn, iI_ti, bI_0, bI_1, iI_L, iL_0, Decidable.not_not, Int.toNat_natCast, zpt_at, zpt_ne, pk_us, pk_un, forall_eq, tn_0, tn_1, tn_2, tn_3, tn_4, tn_5, ni_1, ni_2, ni_3, ni_4, ni_5, not_false_eq_true, not_true_eq_false, true_implies, false_implies, and_true, true_and, iL_6, iL_m6, iL_7, iL_8, iL_9, iL_4, iL_m4, iL_m8, li_0, li_1, li_2, li_3, li_4, li_5, li_6, li_7, li_8, li_9, li_10, li_11, li_12, li_13, li_15, li_16, li_18, li_20, li_24, li_31, li_32, li_40, li_46, li_48, li_57, li_59, li_60, li_61, li_63, li_64, li_97, li_99, li_122, li_124, li_150, li_255, li_480, li_488, li_600, li_999, li_1110, li_54]
  refine ⟨fun h => ?_, fun h => ?_⟩
  · rw [bI_F (fun q => h q.1)] at H; exact H
  · obtain ⟨k, rfl, hk⟩ := nat_of h
    have hs := wf_s hw hk
    rw [Int.toNat_natCast] at H
    refine s_ofW hm hw hk ?_
    try simp (disch := omega) only [iI_add, iI_sub, iI_mul, iI_neg, iI_n, iI_lt, iI_le, iI_eq, iI_tn, iI_ti, bI_0, bI_1, iI_L, iL_0, Decidable.not_not, Int.toNat_natCast, zpt_at, zpt_ne, pk_us, pk_un, forall_eq, tn_0, tn_1, tn_2, tn_3, tn_4, tn_5, ni_1, ni_2, ni_3, ni_4, ni_5, not_false_eq_true, not_true_eq_false, true_implies, false_implies, and_true, true_and, iL_6, iL_m6, iL_7, iL_8, iL_9, iL_4, iL_m4, iL_m8, li_0, li_1, li_2, li_3, li_4, li_5, li_6, li_7, li_8, li_9, li_10, li_11, li_12, li_13, li_15, li_16, li_18, li_20, li_24, li_31, li_32, li_40, li_46, li_48, li_57, li_59, li_60, li_61, li_63, li_64, li_97, li_99, li_122, li_124, li_150, li_255, li_480, li_488, li_600, li_999, li_1110, li_54]
    refine s_isIn (by omega) (by omega) (by omega) (by omega) (by omega) (by omega) ?_
    try simp (disch := omega) only [iI_add, iI_sub, iI_mul, iI_neg, iI_n, iI_lt, iI_le, iI_eq, iI_tn, iI_ti, bI_0, bI_1, iI_L, iL_0, Decidable.not_not, Int.toNat_natCast, zpt_at, zpt_ne, pk_us, pk_un, forall_eq, tn_0, tn_1, tn_2, tn_3, tn_4, tn_5, ni_1, ni_2, ni_3, ni_4, ni_5, not_false_eq_true, not_true_eq_false, true_implies, false_implies, and_true, true_and, iL_6, iL_m6, iL_7, iL_8, iL_9, iL_4, iL_m4, iL_m8, li_0, li_1, li_2, li_3, li_4, li_5, li_6, li_7, li_8, li_9, li_10, li_11, li_12, li_13, li_15, li_16, li_18, li_20, li_24, li_31, li_32, li_40, li_46, li_48, li_57, li_59, li_60, li_61, li_63, li_64, li_97, li_99, li_122, li_124, li_150, li_255, li_480, li_488, li_600, li_999, li_1110, li_54]
    refine ⟨fun h2 => ?_, fun h2 => ?_⟩
    · rw [bI_F (fun q => h2 (by omega))] at H; exact H
    · refine s_isRow hm hw hr ?_
      try simp (disch := omega) only [iI_add, iI_sub, iI_mul, iI_neg, iI_n, iI_lt, iI_le, iI_eq, iI_tn, iI_ti, bI_0, bI_1, iI_L, iL_0, Decidable.not_not, Int.toNat_natCast, zpt_at, zpt_ne, pk_us, pk_un, forall_eq, tn_0, tn_1, tn_2, tn_3, tn_4, tn_5, ni_1, ni_2, ni_3, ni_4, ni_5, not_false_eq_true, not_true_eq_false, true_implies, false_implies, and_true, true_and, iL_6, iL_m6, iL_7, iL_8, iL_9, iL_4, iL_m4, iL_m8, li_0, li_1, li_2, li_3, li_4, li_5, li_6, li_7, li_8, li_9, li_10, li_11, li_12, li_13, li_15, li_16, li_18, li_20, li_24, li_31, li_32, li_40, li_46, li_48, li_57, li_59, li_60, li_61, li_63, li_64, li_97, li_99, li_122, li_124, li_150, li_255, li_480, li_488, li_600, li_999, li_1110, li_54]
      refine ⟨fun h3 => ?_, fun h3 => ?_⟩
      · rw [bI_F (fun q => h3 q.2.2)] at H; exact H
      · rw [bI_T ⟨by omega, by omega, h3⟩] at H; exact H
theorem s_columnsAs_12 (hm : σ.1 26 = m) (hw : WF m) {lo hi : Nat} (hlo : lo < 10) (hhi : hi < 10) {a : Int} (ha : -6 ≤ a ∧ a ≤ 6) (H : K (iI (colsAs m a lo hi)) σ) (c : Nat) (hc : c ≤ cols m) : L_X7_columnsAs_12 g l K X (iI a) (iI lo) (iI hi) (iI (fb_ct (fun c => decide (lo ≤ stt m a c ∧ stt m a c ≤ hi)) c)) (iI (cols m)) (iI c) σ := by
  have hcl := cols_le hw
  have hst := stt_le m a c
  have ih := fun h => s_columnsAs_12 hm hw hlo hhi ha H (c + 1) h
  refine b_X7_columnsAs_12 ?_
  try simp (disch := omega) only [iI_add, iI_sub, iI_mul, iI_neg, iI_n, iI_lt, iI_le, iI_eq, iI_tn, iI_ti, bI_0, bI_1, iI_L, iL_0, Decidable.not_not, Int.toNat_natCast, zpt_at, zpt_ne, pk_us, pk_un, forall_eq, tn_0, tn_1, tn_2, tn_3, tn_4, tn_5, ni_1, ni_2, ni_3, ni_4, ni_5, not_false_eq_true, not_true_eq_false, true_implies, false_implies, and_true, true_and, iL_6, iL_m6, iL_7, iL_8, iL_9, iL_4, iL_m4, iL_m8, li_0, li_1, li_2, li_3, li_4, li_5, li_6, li_7, li_8, li_9, li_10, li_11, li_12, li_13, li_15, li_16, li_18, li_20, li_24, li_31, li_32, li_40, li_46, li_48, li_57, li_59, li_60, li_61, li_63, li_64, li_97, li_99, li_122, li_124, li_150, li_255, li_480, li_488, li_600, li_999, li_1110, li_54]
  refine ⟨fun h => ?_, fun h => ?_⟩
  · obtain rfl : c = cols m := by omega
    exact H
  · refine s_stateOf hm hw (by omega) ha ?_
    try simp (disch := omega) only [iI_add, iI_sub, iI_mul, iI_neg, iI_n, iI_lt, iI_le, iI_eq, iI_tn, iI_ti, bI_0, bI_1, iI_L, iL_0, Decidable.not_not, Int.toNat_natCast, zpt_at, zpt_ne, pk_us, pk_un, forall_eq, tn_0, tn_1, tn_2, tn_3, tn_4, tn_5, ni_1, ni_2, ni_3, ni_4, ni_5, not_false_eq_true, not_true_eq_false, true_implies, false_implies, and_true, true_and, iL_6, iL_m6, iL_7, iL_8, iL_9, iL_4, iL_m4, iL_m8, li_0, li_1, li_2, li_3, li_4, li_5, li_6, li_7, li_8, li_9, li_10, li_11, li_12, li_13, li_15, li_16, li_18, li_20, li_24, li_31, li_32, li_40, li_46, li_48, li_57, li_59, li_60, li_61, li_63, li_64, li_97, li_99, li_122, li_124, li_150, li_255, li_480, li_488, li_600, li_999, li_1110, li_54]
    refine s_isIn (by omega) (by omega) (by omega) (by omega) (by omega) (by omega) (s_truth ?_)
    replace ih := ih (by omega)
    rw [fb_ct_succ] at ih
    by_cases q : lo ≤ stt m a c ∧ stt m a c ≤ hi
    · rw [bI_T (by omega)]
      rw [if_pos (by simp [q])] at ih
      try simp (disch := omega) only [iI_add, iI_sub, iI_mul, iI_neg, iI_n, iI_lt, iI_le, iI_eq, iI_tn, iI_ti, bI_0, bI_1, iI_L, iL_0, Decidable.not_not, Int.toNat_natCast, zpt_at, zpt_ne, pk_us, pk_un, forall_eq, tn_0, tn_1, tn_2, tn_3, tn_4, tn_5, ni_1, ni_2, ni_3, ni_4, ni_5, not_false_eq_true, not_true_eq_false, true_implies, false_implies, and_true, true_and, iL_6, iL_m6, iL_7, iL_8, iL_9, iL_4, iL_m4, iL_m8, li_0, li_1, li_2, li_3, li_4, li_5, li_6, li_7, li_8, li_9, li_10, li_11, li_12, li_13, li_15, li_16, li_18, li_20, li_24, li_31, li_32, li_40, li_46, li_48, li_57, li_59, li_60, li_61, li_63, li_64, li_97, li_99, li_122, li_124, li_150, li_255, li_480, li_488, li_600, li_999, li_1110, li_54]
      exact ih
    · rw [bI_F (by omega)]
      rw [if_neg (by simp; omega)] at ih
      try simp (disch := omega) only [iI_add, iI_sub, iI_mul, iI_neg, iI_n, iI_lt, iI_le, iI_eq, iI_tn, iI_ti, bI_0, bI_1, iI_L, iL_0, Decidable.not_not, Int.toNat_natCast, zpt_at, zpt_ne, pk_us, pk_un, forall_eq, tn_0, tn_1, tn_2, tn_3, tn_4, tn_5, ni_1, ni_2, ni_3, ni_4, ni_5, not_false_eq_true, not_true_eq_false, true_implies, false_implies, and_true, true_and, iL_6, iL_m6, iL_7, iL_8, iL_9, iL_4, iL_m4, iL_m8, li_0, li_1, li_2, li_3, li_4, li_5, li_6, li_7, li_8, li_9, li_10, li_11, li_12, li_13, li_15, li_16, li_18, li_20, li_24, li_31, li_32, li_40, li_46, li_48, li_57, li_59, li_60, li_61, li_63, li_64, li_97, li_99, li_122, li_124, li_150, li_255, li_480, li_488, li_600, li_999, li_1110, li_54]
      exact ih
termination_by cols m - c
theorem s_columnsAs (hm : σ.1 26 = m) (hw : WF m) {lo hi : Nat} (hlo : lo < 10) (hhi : hi < 10) {a : Int} (ha : -6 ≤ a ∧ a ≤ 6) (H : K (iI (colsAs m a lo hi)) σ) : CT g l M_X7_columnsAs 0 [.ref (zad g 24), .int (iI a), .int (iI lo), .int (iI hi)] σ (zQi K X) :=
  b_X7_columnsAs (s_columns hm hw (s_columnsAs_12 hm hw hlo hhi ha H 0 (Nat.zero_le _)))
theorem fstN_le (m : Nat → Int32) (a : Int) (s : Nat) : fstN m a s ≤ cols m * nH m := fa_first_le _ _
/-- the first cell that is not seen right as it is answered -/
noncomputable def fwN (m : Nat → Int32) (a : Int) (s : Nat) : Int := if fstN m a s = cols m * nH m then -1 else fstN m a s
theorem cells_le (hw : WF m) : cols m * nH m ≤ 480 := by
  have h1 := cols_le hw
  have h2 := wf_b hw
  exact Nat.mul_le_mul h1.1 h2.2.1
theorem s_firstNot_8 (hm : σ.1 26 = m) (hw : WF m) {s : Nat} (hs : s < 2) {a : Int} (ha : -6 ≤ a ∧ a ≤ 6) (H : K (iI (fwN m a s)) σ) (k : Nat) (hk : k ≤ fstN m a s) : L_X7_firstNot_8 g l K X (iI a) (iI s) (iI (cols m)) (iI k) σ := by
  have hcl := cols_le hw
  have hb := wf_b hw
  have hce := cells_le hw
  have hfl := fstN_le m a s
  unfold fwN at H
  refine b_X7_firstNot_8 ?_
  rw [show (Int32.toNatClampNeg 0) = 0 from rfl, hm, wf_0 hw, iI_mul, show (cols m : Int) * (nH m : Int) = ((cols m * nH m : Nat) : Int) by simp]
  by_cases h0 : cols m = 0
  · have : cols m * nH m = 0 := by rw [h0]; exact Nat.zero_mul _
    try simp (disch := omega) only [iI_add, iI_sub, iI_mul, iI_neg, iI_n, iI_lt, iI_le, iI_eq, iI_tn, iI_ti, bI_0, bI_1, iI_L, iL_0, Decidable.not_not, Int.toNat_natCast, zpt_at, zpt_ne, pk_us, pk_un, forall_eq, tn_0, tn_1, tn_2, tn_3, tn_4, tn_5, ni_1, ni_2, ni_3, ni_4, ni_5, not_false_eq_true, not_true_eq_false, true_implies, false_implies, and_true, true_and, iL_6, iL_m6, iL_7, iL_8, iL_9, iL_4, iL_m4, iL_m8, li_0, li_1, li_2, li_3, li_4, li_5, li_6, li_7, li_8, li_9, li_10, li_11, li_12, li_13, li_15, li_16, li_18, li_20, li_24, li_31, li_32, li_40, li_46, li_48, li_57, li_59, li_60, li_61, li_63, li_64, li_97, li_99, li_122, li_124, li_150, li_255, li_480, li_488, li_600, li_999, li_1110, li_54]
    refine ⟨fun _ => ?_, fun h => by omega⟩
    rw [if_pos (by omega)] at H; exact H
  · have e1 : iI (k : Int) / iI (cols m : Int) = iI ((k / cols m : Nat) : Int) := by rw [iI_div (by omega) (by omega) (by omega) (by omega)]; rfl
    have e2 : iI (k : Int) - iI ((k / cols m : Nat) : Int) * iI (cols m : Int) = iI ((k % cols m : Nat) : Int) := by
      rw [← e1, iI_rem (by omega) (by omega) (by omega) (by omega)]; rfl
    rw [e1, e2]
    try simp (disch := omega) only [iI_add, iI_sub, iI_mul, iI_neg, iI_n, iI_lt, iI_le, iI_eq, iI_tn, iI_ti, bI_0, bI_1, iI_L, iL_0, Decidable.not_not, Int.toNat_natCast, zpt_at, zpt_ne, pk_us, pk_un, forall_eq, tn_0, tn_1, tn_2, tn_3, tn_4, tn_5, ni_1, ni_2, ni_3, ni_4, ni_5, not_false_eq_true, not_true_eq_false, true_implies, false_implies, and_true, true_and, iL_6, iL_m6, iL_7, iL_8, iL_9, iL_4, iL_m4, iL_m8, li_0, li_1, li_2, li_3, li_4, li_5, li_6, li_7, li_8, li_9, li_10, li_11, li_12, li_13, li_15, li_16, li_18, li_20, li_24, li_31, li_32, li_40, li_46, li_48, li_57, li_59, li_60, li_61, li_63, li_64, li_97, li_99, li_122, li_124, li_150, li_255, li_480, li_488, li_600, li_999, li_1110, li_54]
    refine ⟨fun h => ?_, fun h => ?_⟩
    · rw [if_pos (by omega)] at H; exact H
    · have hc : k % cols m < cols m := Nat.mod_lt _ (by omega)
      have hr : k / cols m < nH m := Nat.div_lt_of_lt_mul (by omega)
      have hwl := why_le m a s (k % cols m) (k / cols m)
      refine ⟨by omega, by omega, ?_⟩
      refine s_whyNot hm hw hs hc (by omega) ha ?_
      try simp (disch := omega) only [iI_add, iI_sub, iI_mul, iI_neg, iI_n, iI_lt, iI_le, iI_eq, iI_tn, iI_ti, bI_0, bI_1, iI_L, iL_0, Decidable.not_not, Int.toNat_natCast, zpt_at, zpt_ne, pk_us, pk_un, forall_eq, tn_0, tn_1, tn_2, tn_3, tn_4, tn_5, ni_1, ni_2, ni_3, ni_4, ni_5, not_false_eq_true, not_true_eq_false, true_implies, false_implies, and_true, true_and, iL_6, iL_m6, iL_7, iL_8, iL_9, iL_4, iL_m4, iL_m8, li_0, li_1, li_2, li_3, li_4, li_5, li_6, li_7, li_8, li_9, li_10, li_11, li_12, li_13, li_15, li_16, li_18, li_20, li_24, li_31, li_32, li_40, li_46, li_48, li_57, li_59, li_60, li_61, li_63, li_64, li_97, li_99, li_122, li_124, li_150, li_255, li_480, li_488, li_600, li_999, li_1110, li_54]
      refine ⟨fun h2 => ?_, fun h2 => ?_⟩
      · have h3 : k < fstN m a s := by
          rcases Nat.lt_or_ge k (fstN m a s) with q | q
          · exact q
          · exfalso
            have e : k = fstN m a s := by omega
            have hy : decide (whyN m a s (fstN m a s % cols m) (fstN m a s / cols m) ≠ 0) = true := fa_first_yes (fun i => decide (whyN m a s (i % cols m) (i / cols m) ≠ 0)) (cols m * nH m) (by show fstN m a s < _; omega)
            rw [decide_eq_true_eq, ← e] at hy
            omega
        have := s_firstNot_8 hm hw hs ha H (k + 1) (by omega)
        exact this
      · have e : k = fstN m a s := by
          rcases Nat.lt_or_ge k (fstN m a s) with q | q
          · exfalso
            have hy : decide (whyN m a s (k % cols m) (k / cols m) ≠ 0) = false := fa_first_no (fun i => decide (whyN m a s (i % cols m) (i / cols m) ≠ 0)) (cols m * nH m) k q
            rw [decide_eq_false_iff_not] at hy
            omega
          · omega
        rw [if_neg (by omega), ← e] at H
        exact H
termination_by fstN m a s - k
theorem s_firstNot (hm : σ.1 26 = m) (hw : WF m) {s : Nat} (hs : s < 2) {a : Int} (ha : -6 ≤ a ∧ a ≤ 6) (H : K (iI (fwN m a s)) σ) : CT g l M_X7_firstNot 0 [.ref (zad g 24), .int (iI a), .int (iI s)] σ (zQi K X) :=
  b_X7_firstNot (s_columns hm hw (s_firstNot_8 hm hw hs ha H 0 (Nat.zero_le _)))
theorem isW_dec (m : Nat → Int32) (a : Int) (s : Nat) : isW m a s ∨ ¬ isW m a s := Classical.em _
noncomputable def wN (m : Nat → Int32) (a : Int) (s : Nat) : Nat := if 0 < nS m ∧ fstN m a s = cols m * nH m then 1 else 0
theorem wN_1 (m : Nat → Int32) (a : Int) (s : Nat) : wN m a s = 1 ↔ isW m a s := by
  unfold wN isW
  split
  · exact ⟨fun _ => by assumption, fun _ => rfl⟩
  · exact ⟨fun h => absurd h (by decide), fun h => by contradiction⟩
theorem wN_le (m : Nat → Int32) (a : Int) (s : Nat) : wN m a s < 2 := by
  unfold wN; split <;> omega
theorem s_isWhole (hm : σ.1 26 = m) (hw : WF m) {s : Nat} (hs : s < 2) {a : Int} (ha : -6 ≤ a ∧ a ≤ 6) (H : K (iI (wN m a s)) σ) : CT g l M_X7_isWhole 0 [.ref (zad g 24), .int (iI a), .int (iI s)] σ (zQi K X) := by
  have hb := wf_b hw
  have hce := cells_le hw
  have hfl := fstN_le m a s
  unfold wN at H
  refine b_X7_isWhole ?_
  rw [show (Int32.toNatClampNeg 1) = 1 from rfl, hm, wf_1 hw]
  try simp (disch := omega) only [iI_add, iI_sub, iI_mul, iI_neg, iI_n, iI_lt, iI_le, iI_eq, iI_tn, iI_ti, bI_0, bI_1, iI_L, iL_0, Decidable.not_not, Int.toNat_natCast, zpt_at, zpt_ne, pk_us, pk_un, forall_eq, tn_0, tn_1, tn_2, tn_3, tn_4, tn_5, ni_1, ni_2, ni_3, ni_4, ni_5, not_false_eq_true, not_true_eq_false, true_implies, false_implies, and_true, true_and, iL_6, iL_m6, iL_7, iL_8, iL_9, iL_4, iL_m4, iL_m8, li_0, li_1, li_2, li_3, li_4, li_5, li_6, li_7, li_8, li_9, li_10, li_11, li_12, li_13, li_15, li_16, li_18, li_20, li_24, li_31, li_32, li_40, li_46, li_48, li_57, li_59, li_60, li_61, li_63, li_64, li_97, li_99, li_122, li_124, li_150, li_255, li_480, li_488, li_600, li_999, li_1110, li_54]
  refine ⟨fun h => ?_, fun h => ?_⟩
  · rw [if_neg (by omega)] at H; exact H
  · refine s_firstNot hm hw hs ha ?_
    unfold fwN
    by_cases e : fstN m a s = cols m * nH m
    · rw [if_pos e]
      rw [if_pos ⟨by omega, e⟩] at H
      exact ⟨fun h => absurd rfl h, fun _ => H⟩
    · rw [if_neg e]
      rw [if_neg (fun h => e h.2)] at H
      try simp (disch := omega) only [iI_add, iI_sub, iI_mul, iI_neg, iI_n, iI_lt, iI_le, iI_eq, iI_tn, iI_ti, bI_0, bI_1, iI_L, iL_0, Decidable.not_not, Int.toNat_natCast, zpt_at, zpt_ne, pk_us, pk_un, forall_eq, tn_0, tn_1, tn_2, tn_3, tn_4, tn_5, ni_1, ni_2, ni_3, ni_4, ni_5, not_false_eq_true, not_true_eq_false, true_implies, false_implies, and_true, true_and, iL_6, iL_m6, iL_7, iL_8, iL_9, iL_4, iL_m4, iL_m8, li_0, li_1, li_2, li_3, li_4, li_5, li_6, li_7, li_8, li_9, li_10, li_11, li_12, li_13, li_15, li_16, li_18, li_20, li_24, li_31, li_32, li_40, li_46, li_48, li_57, li_59, li_60, li_61, li_63, li_64, li_97, li_99, li_122, li_124, li_150, li_255, li_480, li_488, li_600, li_999, li_1110, li_54]
      exact ⟨fun _ => H, fun h => by omega⟩
theorem s_boxesOf_4 (hm : σ.1 26 = m) (hw : WF m) {s : Nat} (hs : s < 2) (H : K (iI (boxesOf m s)) σ) (k : Nat) (hk : k ≤ nB m) : L_X7_boxesOf_4 g l K X (iI s) (iI (fb_ct (fun b => decide (xS m b = s)) k)) (iI k) σ := by
  have hb := wf_b hw
  have ih := fun h => s_boxesOf_4 hm hw hs H (k + 1) h
  refine b_X7_boxesOf_4 ?_
  rw [show (Int32.toNatClampNeg 3) = 3 from rfl, hm, wf_3 hw]
  try simp (disch := omega) only [iI_add, iI_sub, iI_mul, iI_neg, iI_n, iI_lt, iI_le, iI_eq, iI_tn, iI_ti, bI_0, bI_1, iI_L, iL_0, Decidable.not_not, Int.toNat_natCast, zpt_at, zpt_ne, pk_us, pk_un, forall_eq, tn_0, tn_1, tn_2, tn_3, tn_4, tn_5, ni_1, ni_2, ni_3, ni_4, ni_5, not_false_eq_true, not_true_eq_false, true_implies, false_implies, and_true, true_and, iL_6, iL_m6, iL_7, iL_8, iL_9, iL_4, iL_m4, iL_m8, li_0, li_1, li_2, li_3, li_4, li_5, li_6, li_7, li_8, li_9, li_10, li_11, li_12, li_13, li_15, li_16, li_18, li_20, li_24, li_31, li_32, li_40, li_46, li_48, li_57, li_59, li_60, li_61, li_63, li_64, li_97, li_99, li_122, li_124, li_150, li_255, li_480, li_488, li_600, li_999, li_1110, li_54]
  refine ⟨fun h => ?_, fun h => ?_⟩
  · obtain rfl : k = nB m := by omega
    exact H
  · have hx := wf_x hw (b := k) (by omega)
    replace ih := ih (by omega)
    rw [fb_ct_succ] at ih
    refine s_ofX0 hm hw (by omega) ?_
    try simp (disch := omega) only [iI_add, iI_sub, iI_mul, iI_neg, iI_n, iI_lt, iI_le, iI_eq, iI_tn, iI_ti, bI_0, bI_1, iI_L, iL_0, Decidable.not_not, Int.toNat_natCast, zpt_at, zpt_ne, pk_us, pk_un, forall_eq, tn_0, tn_1, tn_2, tn_3, tn_4, tn_5, ni_1, ni_2, ni_3, ni_4, ni_5, not_false_eq_true, not_true_eq_false, true_implies, false_implies, and_true, true_and, iL_6, iL_m6, iL_7, iL_8, iL_9, iL_4, iL_m4, iL_m8, li_0, li_1, li_2, li_3, li_4, li_5, li_6, li_7, li_8, li_9, li_10, li_11, li_12, li_13, li_15, li_16, li_18, li_20, li_24, li_31, li_32, li_40, li_46, li_48, li_57, li_59, li_60, li_61, li_63, li_64, li_97, li_99, li_122, li_124, li_150, li_255, li_480, li_488, li_600, li_999, li_1110, li_54]
    refine ⟨fun h2 => s_truth0 ?_, fun h2 => s_truth1 ?_⟩
    · rw [if_neg (by simp; omega)] at ih
      try simp (disch := omega) only [iI_add, iI_sub, iI_mul, iI_neg, iI_n, iI_lt, iI_le, iI_eq, iI_tn, iI_ti, bI_0, bI_1, iI_L, iL_0, Decidable.not_not, Int.toNat_natCast, zpt_at, zpt_ne, pk_us, pk_un, forall_eq, tn_0, tn_1, tn_2, tn_3, tn_4, tn_5, ni_1, ni_2, ni_3, ni_4, ni_5, not_false_eq_true, not_true_eq_false, true_implies, false_implies, and_true, true_and, iL_6, iL_m6, iL_7, iL_8, iL_9, iL_4, iL_m4, iL_m8, li_0, li_1, li_2, li_3, li_4, li_5, li_6, li_7, li_8, li_9, li_10, li_11, li_12, li_13, li_15, li_16, li_18, li_20, li_24, li_31, li_32, li_40, li_46, li_48, li_57, li_59, li_60, li_61, li_63, li_64, li_97, li_99, li_122, li_124, li_150, li_255, li_480, li_488, li_600, li_999, li_1110, li_54]
      exact ih
    · rw [if_pos (by simp; omega)] at ih
      try simp (disch := omega) only [iI_add, iI_sub, iI_mul, iI_neg, iI_n, iI_lt, iI_le, iI_eq, iI_tn, iI_ti, bI_0, bI_1, iI_L, iL_0, Decidable.not_not, Int.toNat_natCast, zpt_at, zpt_ne, pk_us, pk_un, forall_eq, tn_0, tn_1, tn_2, tn_3, tn_4, tn_5, ni_1, ni_2, ni_3, ni_4, ni_5, not_false_eq_true, not_true_eq_false, true_implies, false_implies, and_true, true_and, iL_6, iL_m6, iL_7, iL_8, iL_9, iL_4, iL_m4, iL_m8, li_0, li_1, li_2, li_3, li_4, li_5, li_6, li_7, li_8, li_9, li_10, li_11, li_12, li_13, li_15, li_16, li_18, li_20, li_24, li_31, li_32, li_40, li_46, li_48, li_57, li_59, li_60, li_61, li_63, li_64, li_97, li_99, li_122, li_124, li_150, li_255, li_480, li_488, li_600, li_999, li_1110, li_54]
      exact ih
termination_by nB m - k
theorem s_boxesOf (hm : σ.1 26 = m) (hw : WF m) {s : Nat} (hs : s < 2) (H : K (iI (boxesOf m s)) σ) : CT g l M_X7_boxesOf 0 [.ref (zad g 24), .int (iI s)] σ (zQi K X) :=
  b_X7_boxesOf (s_boxesOf_4 hm hw hs H 0 (Nat.zero_le _))
theorem s_tiedMany_4 (hm : σ.1 26 = m) (hw : WF m) (H : K (iI (tiedMany m)) σ) (k : Nat) (hk : k ≤ nS m) : L_X7_tiedMany_4 g l K X (iI (fb_sm (td m) k)) (iI k) σ := by
  have hb := wf_b hw
  have ih := fun h => s_tiedMany_4 hm hw H (k + 1) h
  refine b_X7_tiedMany_4 ?_
  rw [show (Int32.toNatClampNeg 1) = 1 from rfl, hm, wf_1 hw]
  try simp (disch := omega) only [iI_add, iI_sub, iI_mul, iI_neg, iI_n, iI_lt, iI_le, iI_eq, iI_tn, iI_ti, bI_0, bI_1, iI_L, iL_0, Decidable.not_not, Int.toNat_natCast, zpt_at, zpt_ne, pk_us, pk_un, forall_eq, tn_0, tn_1, tn_2, tn_3, tn_4, tn_5, ni_1, ni_2, ni_3, ni_4, ni_5, not_false_eq_true, not_true_eq_false, true_implies, false_implies, and_true, true_and, iL_6, iL_m6, iL_7, iL_8, iL_9, iL_4, iL_m4, iL_m8, li_0, li_1, li_2, li_3, li_4, li_5, li_6, li_7, li_8, li_9, li_10, li_11, li_12, li_13, li_15, li_16, li_18, li_20, li_24, li_31, li_32, li_40, li_46, li_48, li_57, li_59, li_60, li_61, li_63, li_64, li_97, li_99, li_122, li_124, li_150, li_255, li_480, li_488, li_600, li_999, li_1110, li_54]
  refine ⟨fun h => ?_, fun h => ?_⟩
  · obtain rfl : k = nS m := by omega
    exact H
  · refine s_ofD hm hw (by omega) ?_
    try simp (disch := omega) only [iI_add, iI_sub, iI_mul, iI_neg, iI_n, iI_lt, iI_le, iI_eq, iI_tn, iI_ti, bI_0, bI_1, iI_L, iL_0, Decidable.not_not, Int.toNat_natCast, zpt_at, zpt_ne, pk_us, pk_un, forall_eq, tn_0, tn_1, tn_2, tn_3, tn_4, tn_5, ni_1, ni_2, ni_3, ni_4, ni_5, not_false_eq_true, not_true_eq_false, true_implies, false_implies, and_true, true_and, iL_6, iL_m6, iL_7, iL_8, iL_9, iL_4, iL_m4, iL_m8, li_0, li_1, li_2, li_3, li_4, li_5, li_6, li_7, li_8, li_9, li_10, li_11, li_12, li_13, li_15, li_16, li_18, li_20, li_24, li_31, li_32, li_40, li_46, li_48, li_57, li_59, li_60, li_61, li_63, li_64, li_97, li_99, li_122, li_124, li_150, li_255, li_480, li_488, li_600, li_999, li_1110, li_54]
    exact ih (by omega)
termination_by nS m - k
theorem s_tiedMany (hm : σ.1 26 = m) (hw : WF m) (H : K (iI (tiedMany m)) σ) : CT g l M_X7_tiedMany 0 [.ref (zad g 24)] σ (zQi K X) :=
  b_X7_tiedMany (s_tiedMany_4 hm hw H 0 (Nat.zero_le _))
theorem s_seams_4 (hm : σ.1 26 = m) (hw : WF m) {sg : Int} (hs : sg = 1 ∨ sg = -1) (H : K (iI (seamsN m sg)) σ) (k : Nat) (hk : k ≤ nS m) : L_X7_seams_4 g l K X (iI sg) (iI (fb_ct (fun k => decide (0 < sg * seamB m k)) k)) (iI k) σ := by
  have hb := wf_b hw
  have ih := fun h => s_seams_4 hm hw hs H (k + 1) h
  refine b_X7_seams_4 ?_
  rw [show (Int32.toNatClampNeg 1) = 1 from rfl, hm, wf_1 hw]
  try simp (disch := omega) only [iI_add, iI_sub, iI_mul, iI_neg, iI_n, iI_lt, iI_le, iI_eq, iI_tn, iI_ti, bI_0, bI_1, iI_L, iL_0, Decidable.not_not, Int.toNat_natCast, zpt_at, zpt_ne, pk_us, pk_un, forall_eq, tn_0, tn_1, tn_2, tn_3, tn_4, tn_5, ni_1, ni_2, ni_3, ni_4, ni_5, not_false_eq_true, not_true_eq_false, true_implies, false_implies, and_true, true_and, iL_6, iL_m6, iL_7, iL_8, iL_9, iL_4, iL_m4, iL_m8, li_0, li_1, li_2, li_3, li_4, li_5, li_6, li_7, li_8, li_9, li_10, li_11, li_12, li_13, li_15, li_16, li_18, li_20, li_24, li_31, li_32, li_40, li_46, li_48, li_57, li_59, li_60, li_61, li_63, li_64, li_97, li_99, li_122, li_124, li_150, li_255, li_480, li_488, li_600, li_999, li_1110, li_54]
  refine ⟨fun h => ?_, fun h => ?_⟩
  · obtain rfl : k = nS m := by omega
    exact H
  · have hsb := seam_b hw (k := k) (by omega)
    have hbd : -8 ≤ sg * seamB m k ∧ sg * seamB m k ≤ 8 := by rcases hs with rfl | rfl <;> omega
    replace ih := ih (by omega)
    rw [fb_ct_succ] at ih
    refine s_seamBehind hm hw (by omega) ?_
    try simp (disch := omega) only [iI_add, iI_sub, iI_mul, iI_neg, iI_n, iI_lt, iI_le, iI_eq, iI_tn, iI_ti, bI_0, bI_1, iI_L, iL_0, Decidable.not_not, Int.toNat_natCast, zpt_at, zpt_ne, pk_us, pk_un, forall_eq, tn_0, tn_1, tn_2, tn_3, tn_4, tn_5, ni_1, ni_2, ni_3, ni_4, ni_5, not_false_eq_true, not_true_eq_false, true_implies, false_implies, and_true, true_and, iL_6, iL_m6, iL_7, iL_8, iL_9, iL_4, iL_m4, iL_m8, li_0, li_1, li_2, li_3, li_4, li_5, li_6, li_7, li_8, li_9, li_10, li_11, li_12, li_13, li_15, li_16, li_18, li_20, li_24, li_31, li_32, li_40, li_46, li_48, li_57, li_59, li_60, li_61, li_63, li_64, li_97, li_99, li_122, li_124, li_150, li_255, li_480, li_488, li_600, li_999, li_1110, li_54]
    refine ⟨fun h2 => s_truth0 ?_, fun h2 => s_truth1 ?_⟩
    · rw [if_neg (by simp; omega)] at ih
      try simp (disch := omega) only [iI_add, iI_sub, iI_mul, iI_neg, iI_n, iI_lt, iI_le, iI_eq, iI_tn, iI_ti, bI_0, bI_1, iI_L, iL_0, Decidable.not_not, Int.toNat_natCast, zpt_at, zpt_ne, pk_us, pk_un, forall_eq, tn_0, tn_1, tn_2, tn_3, tn_4, tn_5, ni_1, ni_2, ni_3, ni_4, ni_5, not_false_eq_true, not_true_eq_false, true_implies, false_implies, and_true, true_and, iL_6, iL_m6, iL_7, iL_8, iL_9, iL_4, iL_m4, iL_m8, li_0, li_1, li_2, li_3, li_4, li_5, li_6, li_7, li_8, li_9, li_10, li_11, li_12, li_13, li_15, li_16, li_18, li_20, li_24, li_31, li_32, li_40, li_46, li_48, li_57, li_59, li_60, li_61, li_63, li_64, li_97, li_99, li_122, li_124, li_150, li_255, li_480, li_488, li_600, li_999, li_1110, li_54]
      exact ih
    · rw [if_pos (by simp; omega)] at ih
      try simp (disch := omega) only [iI_add, iI_sub, iI_mul, iI_neg, iI_n, iI_lt, iI_le, iI_eq, iI_tn, iI_ti, bI_0, bI_1, iI_L, iL_0, Decidable.not_not, Int.toNat_natCast, zpt_at, zpt_ne, pk_us, pk_un, forall_eq, tn_0, tn_1, tn_2, tn_3, tn_4, tn_5, ni_1, ni_2, ni_3, ni_4, ni_5, not_false_eq_true, not_true_eq_false, true_implies, false_implies, and_true, true_and, iL_6, iL_m6, iL_7, iL_8, iL_9, iL_4, iL_m4, iL_m8, li_0, li_1, li_2, li_3, li_4, li_5, li_6, li_7, li_8, li_9, li_10, li_11, li_12, li_13, li_15, li_16, li_18, li_20, li_24, li_31, li_32, li_40, li_46, li_48, li_57, li_59, li_60, li_61, li_63, li_64, li_97, li_99, li_122, li_124, li_150, li_255, li_480, li_488, li_600, li_999, li_1110, li_54]
      exact ih
termination_by nS m - k
theorem s_seams (hm : σ.1 26 = m) (hw : WF m) {sg : Int} (hs : sg = 1 ∨ sg = -1) (H : K (iI (seamsN m sg)) σ) : CT g l M_X7_seams 0 [.ref (zad g 24), .int (iI sg)] σ (zQi K X) :=
  b_X7_seams (s_seams_4 hm hw hs H 0 (Nat.zero_le _))
theorem fst_col (hw : WF m) {k j : Nat} (hk : k < nS m) (hj : j < wd m k) : fst m k + j < cols m := by
  have := fst_mono m (show k + 1 ≤ nS m from hk)
  rw [fst_succ] at this
  unfold cols; omega
theorem s_unlike_13 (hm : σ.1 26 = m) (hw : WF m) {k s : Nat} (hk : k < nS m) (hs : s < 2) (H : K (iI (unl m k s)) σ) (j : Nat) (hj : j ≤ wd m k) : L_X7_unlike_13 g l K X (iI k) (iI s) (iI (fb_sm (fun j => fb_ct (fun r => decide (fc m s (fst m k + j) r ≠ pic m s (fst m k + j) r)) (nH m)) j)) (iI (fst m k)) (iI (fst m k + j : Nat)) σ := by
  have hb := wf_b hw
  have hcl := cols_le hw
  have hsl := wf_s hw hk
  have hfl := fst_le hw (k := k) (by omega)
  have inner : ∀ n r, r + n = nH m → j < wd m k → L_X7_unlike_30 g l K X (iI k) (iI s) (iI (fb_sm (fun j => fb_ct (fun r => decide (fc m s (fst m k + j) r ≠ pic m s (fst m k + j) r)) (nH m)) j + fb_ct (fun r => decide (fc m s (fst m k + j) r ≠ pic m s (fst m k + j) r)) r : Nat)) (iI (fst m k)) (iI (fst m k + j : Nat)) (iI r) σ := fun n => by
    induction n with
    | zero =>
      intro r e h
      refine b_X7_unlike_30 ?_
      rw [show (Int32.toNatClampNeg 0) = 0 from rfl, hm, wf_0 hw]
      try simp (disch := omega) only [iI_add, iI_sub, iI_mul, iI_neg, iI_n, iI_lt, iI_le, iI_eq, iI_tn, iI_ti, bI_0, bI_1, iI_L, iL_0, Decidable.not_not, Int.toNat_natCast, zpt_at, zpt_ne, pk_us, pk_un, forall_eq, tn_0, tn_1, tn_2, tn_3, tn_4, tn_5, ni_1, ni_2, ni_3, ni_4, ni_5, not_false_eq_true, not_true_eq_false, true_implies, false_implies, and_true, true_and, iL_6, iL_m6, iL_7, iL_8, iL_9, iL_4, iL_m4, iL_m8, li_0, li_1, li_2, li_3, li_4, li_5, li_6, li_7, li_8, li_9, li_10, li_11, li_12, li_13, li_15, li_16, li_18, li_20, li_24, li_31, li_32, li_40, li_46, li_48, li_57, li_59, li_60, li_61, li_63, li_64, li_97, li_99, li_122, li_124, li_150, li_255, li_480, li_488, li_600, li_999, li_1110, li_54]
      refine ⟨fun _ => ?_, fun h => by omega⟩
      obtain rfl : r = nH m := by omega
      exact s_unlike_13 hm hw hk hs H (j + 1) h
    | succ n ih =>
      intro r e h
      have hcc := fst_col hw hk h
      refine b_X7_unlike_30 ?_
      rw [show (Int32.toNatClampNeg 0) = 0 from rfl, hm, wf_0 hw]
      have hp := pic_le hw s (fst m k + j) r
      have hf := wf_f9 hw hs (c := fst m k + j) (r := r) (by omega) (by omega)
      try simp (disch := omega) only [iI_add, iI_sub, iI_mul, iI_neg, iI_n, iI_lt, iI_le, iI_eq, iI_tn, iI_ti, bI_0, bI_1, iI_L, iL_0, Decidable.not_not, Int.toNat_natCast, zpt_at, zpt_ne, pk_us, pk_un, forall_eq, tn_0, tn_1, tn_2, tn_3, tn_4, tn_5, ni_1, ni_2, ni_3, ni_4, ni_5, not_false_eq_true, not_true_eq_false, true_implies, false_implies, and_true, true_and, iL_6, iL_m6, iL_7, iL_8, iL_9, iL_4, iL_m4, iL_m8, li_0, li_1, li_2, li_3, li_4, li_5, li_6, li_7, li_8, li_9, li_10, li_11, li_12, li_13, li_15, li_16, li_18, li_20, li_24, li_31, li_32, li_40, li_46, li_48, li_57, li_59, li_60, li_61, li_63, li_64, li_97, li_99, li_122, li_124, li_150, li_255, li_480, li_488, li_600, li_999, li_1110, li_54]
      refine ⟨fun h => by omega, fun _ => ?_⟩
      refine s_painted hm hw hs (by omega) (by omega) ?_
      refine s_pictureAt hm hw hs (by omega) (by omega) ?_
      have ih := ih (r + 1) (by omega) h
      rw [fb_ct_succ] at ih
      try simp (disch := omega) only [iI_add, iI_sub, iI_mul, iI_neg, iI_n, iI_lt, iI_le, iI_eq, iI_tn, iI_ti, bI_0, bI_1, iI_L, iL_0, Decidable.not_not, Int.toNat_natCast, zpt_at, zpt_ne, pk_us, pk_un, forall_eq, tn_0, tn_1, tn_2, tn_3, tn_4, tn_5, ni_1, ni_2, ni_3, ni_4, ni_5, not_false_eq_true, not_true_eq_false, true_implies, false_implies, and_true, true_and, iL_6, iL_m6, iL_7, iL_8, iL_9, iL_4, iL_m4, iL_m8, li_0, li_1, li_2, li_3, li_4, li_5, li_6, li_7, li_8, li_9, li_10, li_11, li_12, li_13, li_15, li_16, li_18, li_20, li_24, li_31, li_32, li_40, li_46, li_48, li_57, li_59, li_60, li_61, li_63, li_64, li_97, li_99, li_122, li_124, li_150, li_255, li_480, li_488, li_600, li_999, li_1110, li_54]
      refine ⟨fun h2 => s_truth0 ?_, fun h2 => s_truth1 ?_⟩
      · try simp (disch := omega) only [iI_add, iI_sub, iI_mul, iI_neg, iI_n, iI_lt, iI_le, iI_eq, iI_tn, iI_ti, bI_0, bI_1, iI_L, iL_0, Decidable.not_not, Int.toNat_natCast, zpt_at, zpt_ne, pk_us, pk_un, forall_eq, tn_0, tn_1, tn_2, tn_3, tn_4, tn_5, ni_1, ni_2, ni_3, ni_4, ni_5, not_false_eq_true, not_true_eq_false, true_implies, false_implies, and_true, true_and, iL_6, iL_m6, iL_7, iL_8, iL_9, iL_4, iL_m4, iL_m8, li_0, li_1, li_2, li_3, li_4, li_5, li_6, li_7, li_8, li_9, li_10, li_11, li_12, li_13, li_15, li_16, li_18, li_20, li_24, li_31, li_32, li_40, li_46, li_48, li_57, li_59, li_60, li_61, li_63, li_64, li_97, li_99, li_122, li_124, li_150, li_255, li_480, li_488, li_600, li_999, li_1110, li_54]
        rw [if_neg (by simp; omega)] at ih
        exact ih
      · try simp (disch := omega) only [iI_add, iI_sub, iI_mul, iI_neg, iI_n, iI_lt, iI_le, iI_eq, iI_tn, iI_ti, bI_0, bI_1, iI_L, iL_0, Decidable.not_not, Int.toNat_natCast, zpt_at, zpt_ne, pk_us, pk_un, forall_eq, tn_0, tn_1, tn_2, tn_3, tn_4, tn_5, ni_1, ni_2, ni_3, ni_4, ni_5, not_false_eq_true, not_true_eq_false, true_implies, false_implies, and_true, true_and, iL_6, iL_m6, iL_7, iL_8, iL_9, iL_4, iL_m4, iL_m8, li_0, li_1, li_2, li_3, li_4, li_5, li_6, li_7, li_8, li_9, li_10, li_11, li_12, li_13, li_15, li_16, li_18, li_20, li_24, li_31, li_32, li_40, li_46, li_48, li_57, li_59, li_60, li_61, li_63, li_64, li_97, li_99, li_122, li_124, li_150, li_255, li_480, li_488, li_600, li_999, li_1110, li_54]
        rw [if_pos (by simp; omega)] at ih
        exact ih
  refine b_X7_unlike_13 (s_ofW hm hw hk ?_)
  try simp (disch := omega) only [iI_add, iI_sub, iI_mul, iI_neg, iI_n, iI_lt, iI_le, iI_eq, iI_tn, iI_ti, bI_0, bI_1, iI_L, iL_0, Decidable.not_not, Int.toNat_natCast, zpt_at, zpt_ne, pk_us, pk_un, forall_eq, tn_0, tn_1, tn_2, tn_3, tn_4, tn_5, ni_1, ni_2, ni_3, ni_4, ni_5, not_false_eq_true, not_true_eq_false, true_implies, false_implies, and_true, true_and, iL_6, iL_m6, iL_7, iL_8, iL_9, iL_4, iL_m4, iL_m8, li_0, li_1, li_2, li_3, li_4, li_5, li_6, li_7, li_8, li_9, li_10, li_11, li_12, li_13, li_15, li_16, li_18, li_20, li_24, li_31, li_32, li_40, li_46, li_48, li_57, li_59, li_60, li_61, li_63, li_64, li_97, li_99, li_122, li_124, li_150, li_255, li_480, li_488, li_600, li_999, li_1110, li_54]
  refine ⟨fun h => ?_, fun h => inner (nH m) 0 (by omega) (by omega)⟩
  obtain rfl : j = wd m k := by omega
  exact H
termination_by wd m k - j
theorem s_unlike (hm : σ.1 26 = m) (hw : WF m) {k s : Nat} (hk : k < nS m) (hs : s < 2) (H : K (iI (unl m k s)) σ) : CT g l M_X7_unlike 0 [.ref (zad g 24), .int (iI k), .int (iI s)] σ (zQi K X) :=
  b_X7_unlike (s_firstOf hm hw (by omega) (s_unlike_13 hm hw hk hs H 0 (Nat.zero_le _)))
end ZMT
