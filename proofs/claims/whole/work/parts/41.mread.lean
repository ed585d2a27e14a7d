/-! what the reference's reading methods answer -/
section ZMR
variable {g : zG} {l : Launch} {K : Int32 → zS → Prop} {X : String → zS → Prop} {σ : zS} {m : Nat → Int32}
theorem bI_bl {p : Prop} [Decidable p] : zbl (bI p) := by
  unfold bI; split
  · exact zbl_1
  · exact zbl_0
theorem lg_ti (x y : Int64) : (lg_cmp x y < iI 0 ↔ x.toInt < y.toInt) ∧ (iI 0 < lg_cmp x y ↔ y.toInt < x.toInt) := by
  unfold lg_cmp
  simp only [fa_lt64, fa_eq64]
  by_cases h1 : y.toInt < x.toInt
  · rw [if_pos h1]
    exact ⟨⟨fun h => absurd h (by decide), fun h => by omega⟩, ⟨fun _ => h1, fun _ => by decide⟩⟩
  · rw [if_neg h1]
    by_cases h2 : x.toInt = y.toInt
    · rw [if_pos h2]
      exact ⟨⟨fun h => absurd h (by decide), fun h => by omega⟩, ⟨fun h => absurd h (by decide), fun h => by omega⟩⟩
    · rw [if_neg h2]
      exact ⟨⟨fun _ => by omega, fun _ => by decide⟩, ⟨fun h => absurd h (by decide), fun h => by omega⟩⟩
theorem s_isIn {x lo hi : Int} (h1 : -9223372036854775808 ≤ x) (h2 : x < 9223372036854775808) (h3 : -9223372036854775808 ≤ lo) (h4 : lo < 9223372036854775808) (h5 : -9223372036854775808 ≤ hi) (h6 : hi < 9223372036854775808) (H : K (bI (lo ≤ x ∧ x ≤ hi)) σ) : CT g l M_X7_isIn 0 [.long (iL x), .long (iL lo), .long (iL hi)] σ (zQi K X) := by
  refine b_X7_isIn ?_
  try simp (disch := omega) only [iI_add, iI_sub, iI_mul, iI_neg, iI_n, iI_lt, iI_le, iI_eq, iI_tn, iI_ti, bI_0, bI_1, iI_L, iL_0, Decidable.not_not, Int.toNat_natCast, zpt_at, zpt_ne, pk_us, pk_un, forall_eq, tn_0, tn_1, tn_2, tn_3, tn_4, tn_5, ni_1, ni_2, ni_3, ni_4, ni_5, not_false_eq_true, not_true_eq_false, true_implies, false_implies, and_true, true_and, iL_6, iL_m6, iL_7, iL_8, iL_9, iL_4, iL_m4, iL_m8, li_0, li_1, li_2, li_3, li_4, li_5, li_6, li_7, li_8, li_9, li_10, li_11, li_12, li_13, li_15, li_16, li_18, li_20, li_24, li_31, li_32, li_40, li_46, li_48, li_57, li_59, li_60, li_61, li_63, li_64, li_97, li_99, li_122, li_124, li_150, li_255, li_480, li_488, li_600, li_999, li_1110, li_54, (lg_ti _ _).1, (lg_ti _ _).2, iL_ti]
  refine ⟨fun h => ?_, fun h => ⟨fun h' => ?_, fun h' => ?_⟩⟩
  · rw [bI_F (by omega)] at H; exact H
  · rw [bI_F (by omega)] at H; exact H
  · rw [bI_T (by omega)] at H; exact H
theorem s_truth {p : Prop} [Decidable p] (H : K (bI p) σ) : CT g l M_X7_truth 0 [.int (bI p)] σ (zQi K X) := by
  refine b_X7_truth ?_
  try simp (disch := omega) only [iI_add, iI_sub, iI_mul, iI_neg, iI_n, iI_lt, iI_le, iI_eq, iI_tn, iI_ti, bI_0, bI_1, iI_L, iL_0, Decidable.not_not, Int.toNat_natCast, zpt_at, zpt_ne, pk_us, pk_un, forall_eq, tn_0, tn_1, tn_2, tn_3, tn_4, tn_5, ni_1, ni_2, ni_3, ni_4, ni_5, not_false_eq_true, not_true_eq_false, true_implies, false_implies, and_true, true_and, iL_6, iL_m6, iL_7, iL_8, iL_9, iL_4, iL_m4, iL_m8, li_0, li_1, li_2, li_3, li_4, li_5, li_6, li_7, li_8, li_9, li_10, li_11, li_12, li_13, li_15, li_16, li_18, li_20, li_24, li_31, li_32, li_40, li_46, li_48, li_57, li_59, li_60, li_61, li_63, li_64, li_97, li_99, li_122, li_124, li_150, li_255, li_480, li_488, li_600, li_999, li_1110, li_54]
  refine ⟨fun h => ?_, fun h => ?_⟩
  · rw [bI_F h] at H; exact H
  · rw [bI_T h] at H; exact H
theorem s_truth0 (H : K (iI 0) σ) : CT g l M_X7_truth 0 [.int (iI 0)] σ (zQi K X) := b_X7_truth ⟨fun _ => H, fun h => absurd rfl h⟩
theorem s_truth1 (H : K (iI 1) σ) : CT g l M_X7_truth 0 [.int (iI 1)] σ (zQi K X) := b_X7_truth ⟨fun h => absurd h (by decide), fun _ => H⟩
theorem s_of (hm : σ.1 26 = m) {a b : Nat} {v : Int32} (hv : m (4 + 5 * a + b) = v) (hb : 4 + 5 * a + b < 1110) (H : K v σ) : CT g l M_X7_of 0 [.ref (zad g 24), .int (iI a), .int (iI b)] σ (zQi K X) := by
  refine b_X7_of ?_
  try simp (disch := omega) only [iI_add, iI_sub, iI_mul, iI_neg, iI_n, iI_lt, iI_le, iI_eq, iI_tn, iI_ti, bI_0, bI_1, iI_L, iL_0, Decidable.not_not, Int.toNat_natCast, zpt_at, zpt_ne, pk_us, pk_un, forall_eq, tn_0, tn_1, tn_2, tn_3, tn_4, tn_5, ni_1, ni_2, ni_3, ni_4, ni_5, not_false_eq_true, not_true_eq_false, true_implies, false_implies, and_true, true_and, iL_6, iL_m6, iL_7, iL_8, iL_9, iL_4, iL_m4, iL_m8, li_0, li_1, li_2, li_3, li_4, li_5, li_6, li_7, li_8, li_9, li_10, li_11, li_12, li_13, li_15, li_16, li_18, li_20, li_24, li_31, li_32, li_40, li_46, li_48, li_57, li_59, li_60, li_61, li_63, li_64, li_97, li_99, li_122, li_124, li_150, li_255, li_480, li_488, li_600, li_999, li_1110, li_54]
  refine ⟨iI_in (by omega) (by omega) (by omega), ?_⟩
  rw [hm, show ((4 : Int) + 5 * (a : Int) + (b : Int)).toNat = 4 + 5 * a + b by omega, hv]; exact H
theorem s_ofW (hm : σ.1 26 = m) (hw : WF m) {k : Nat} (hk : k < nS m) (H : K (iI (wd m k)) σ) : CT g l M_X7_of 0 [.ref (zad g 24), .int (iI k), .int (iI 0)] σ (zQi K X) :=
  s_of (b := 0) hm (wf_w hw hk) (by have := wf_b hw; omega) H
theorem s_ofT (hm : σ.1 26 = m) (hw : WF m) {k : Nat} (hk : k < nS m) (H : K (iI (tu m k)) σ) : CT g l M_X7_of 0 [.ref (zad g 24), .int (iI k), .int (iI 1)] σ (zQi K X) :=
  s_of (b := 1) hm (by rw [show 4 + 5 * k + 1 = 5 + 5 * k by omega]; exact wf_t k) (by have := wf_b hw; omega) H
theorem s_ofD (hm : σ.1 26 = m) (hw : WF m) {k : Nat} (hk : k < nS m) (H : K (iI (td m k)) σ) : CT g l M_X7_of 0 [.ref (zad g 24), .int (iI k), .int (iI 2)] σ (zQi K X) :=
  s_of (b := 2) hm (by rw [show 4 + 5 * k + 2 = 6 + 5 * k by omega]; exact wf_d hw hk) (by have := wf_b hw; omega) H
theorem s_ofC (hm : σ.1 26 = m) (hw : WF m) {k s : Nat} (hk : k < nS m) (hs : s < 2) (H : K (iI (ct m k s)) σ) : CT g l M_X7_of 0 [.ref (zad g 24), .int (iI k), .int (iI (3 + s))] σ (zQi K X) :=
  s_of (b := 3 + s) hm (by rw [show 4 + 5 * k + (3 + s) = 7 + 5 * k + s by omega]; exact wf_c hw hk hs) (by have := wf_b hw; omega) H
theorem s_ofBox (hm : σ.1 26 = m) {a b : Nat} {v : Int32} (hv : m (54 + 6 * a + b) = v) (hb : 54 + 6 * a + b < 1110) (H : K v σ) : CT g l M_X7_ofBox 0 [.ref (zad g 24), .int (iI a), .int (iI b)] σ (zQi K X) := by
  refine b_X7_ofBox ?_
  try simp (disch := omega) only [iI_add, iI_sub, iI_mul, iI_neg, iI_n, iI_lt, iI_le, iI_eq, iI_tn, iI_ti, bI_0, bI_1, iI_L, iL_0, Decidable.not_not, Int.toNat_natCast, zpt_at, zpt_ne, pk_us, pk_un, forall_eq, tn_0, tn_1, tn_2, tn_3, tn_4, tn_5, ni_1, ni_2, ni_3, ni_4, ni_5, not_false_eq_true, not_true_eq_false, true_implies, false_implies, and_true, true_and, iL_6, iL_m6, iL_7, iL_8, iL_9, iL_4, iL_m4, iL_m8, li_0, li_1, li_2, li_3, li_4, li_5, li_6, li_7, li_8, li_9, li_10, li_11, li_12, li_13, li_15, li_16, li_18, li_20, li_24, li_31, li_32, li_40, li_46, li_48, li_57, li_59, li_60, li_61, li_63, li_64, li_97, li_99, li_122, li_124, li_150, li_255, li_480, li_488, li_600, li_999, li_1110, li_54]
  refine ⟨iI_in (by omega) (by omega) (by omega), ?_⟩
  rw [hm, show ((54 : Int) + 6 * (a : Int) + (b : Int)).toNat = 54 + 6 * a + b by omega, hv]; exact H
theorem s_ofX0 (hm : σ.1 26 = m) (hw : WF m) {k : Nat} (hk : k < nB m) (H : K (iI (xS m k)) σ) : CT g l M_X7_ofBox 0 [.ref (zad g 24), .int (iI k), .int (iI 0)] σ (zQi K X) :=
  s_ofBox (b := 0) hm (wf_x0 hw hk) (by have := wf_b hw; omega) H
theorem s_ofX1 (hm : σ.1 26 = m) (hw : WF m) {k : Nat} (hk : k < nB m) (H : K (iI (xX m k)) σ) : CT g l M_X7_ofBox 0 [.ref (zad g 24), .int (iI k), .int (iI 1)] σ (zQi K X) :=
  s_ofBox (b := 1) hm (by rw [show 54 + 6 * k + 1 = 55 + 6 * k by omega]; exact wf_x1 hw hk) (by have := wf_b hw; omega) H
theorem s_ofX2 (hm : σ.1 26 = m) (hw : WF m) {k : Nat} (hk : k < nB m) (H : K (iI (xY m k)) σ) : CT g l M_X7_ofBox 0 [.ref (zad g 24), .int (iI k), .int (iI 2)] σ (zQi K X) :=
  s_ofBox (b := 2) hm (by rw [show 54 + 6 * k + 2 = 56 + 6 * k by omega]; exact wf_x2 hw hk) (by have := wf_b hw; omega) H
theorem s_ofX3 (hm : σ.1 26 = m) (hw : WF m) {k : Nat} (hk : k < nB m) (H : K (iI (xW m k)) σ) : CT g l M_X7_ofBox 0 [.ref (zad g 24), .int (iI k), .int (iI 3)] σ (zQi K X) :=
  s_ofBox (b := 3) hm (by rw [show 54 + 6 * k + 3 = 57 + 6 * k by omega]; exact wf_x3 hw hk) (by have := wf_b hw; omega) H
theorem s_ofX4 (hm : σ.1 26 = m) (hw : WF m) {k : Nat} (hk : k < nB m) (H : K (iI (xD m k)) σ) : CT g l M_X7_ofBox 0 [.ref (zad g 24), .int (iI k), .int (iI 4)] σ (zQi K X) :=
  s_ofBox (b := 4) hm (by rw [show 54 + 6 * k + 4 = 58 + 6 * k by omega]; exact wf_x4 hw hk) (by have := wf_b hw; omega) H
theorem s_ofX5 (hm : σ.1 26 = m) (hw : WF m) {k : Nat} (hk : k < nB m) (H : K (iI (xC m k)) σ) : CT g l M_X7_ofBox 0 [.ref (zad g 24), .int (iI k), .int (iI 5)] σ (zQi K X) :=
  s_ofBox (b := 5) hm (by rw [show 54 + 6 * k + 5 = 59 + 6 * k by omega]; exact wf_x5 hw hk) (by have := wf_b hw; omega) H
theorem s_faceCell {s c r : Nat} (H : K (iI (150 + 480 * s + 8 * c + r : Nat)) σ) : CT g l M_X7_faceCell 0 [.int (iI s), .int (iI c), .int (iI r)] σ (zQi K X) := by
  refine b_X7_faceCell ?_
  try simp (disch := omega) only [iI_add, iI_sub, iI_mul, iI_neg, iI_n, iI_lt, iI_le, iI_eq, iI_tn, iI_ti, bI_0, bI_1, iI_L, iL_0, Decidable.not_not, Int.toNat_natCast, zpt_at, zpt_ne, pk_us, pk_un, forall_eq, tn_0, tn_1, tn_2, tn_3, tn_4, tn_5, ni_1, ni_2, ni_3, ni_4, ni_5, not_false_eq_true, not_true_eq_false, true_implies, false_implies, and_true, true_and, iL_6, iL_m6, iL_7, iL_8, iL_9, iL_4, iL_m4, iL_m8, li_0, li_1, li_2, li_3, li_4, li_5, li_6, li_7, li_8, li_9, li_10, li_11, li_12, li_13, li_15, li_16, li_18, li_20, li_24, li_31, li_32, li_40, li_46, li_48, li_57, li_59, li_60, li_61, li_63, li_64, li_97, li_99, li_122, li_124, li_150, li_255, li_480, li_488, li_600, li_999, li_1110, li_54]
  exact H
theorem s_painted (hm : σ.1 26 = m) (hw : WF m) {s c r : Nat} (hs : s < 2) (hc : c < 60) (hr : r < 8) (H : K (iI (fc m s c r)) σ) : CT g l M_X7_painted 0 [.ref (zad g 24), .int (iI s), .int (iI c), .int (iI r)] σ (zQi K X) := by
  refine b_X7_painted (s_faceCell ?_)
  try simp (disch := omega) only [iI_add, iI_sub, iI_mul, iI_neg, iI_n, iI_lt, iI_le, iI_eq, iI_tn, iI_ti, bI_0, bI_1, iI_L, iL_0, Decidable.not_not, Int.toNat_natCast, zpt_at, zpt_ne, pk_us, pk_un, forall_eq, tn_0, tn_1, tn_2, tn_3, tn_4, tn_5, ni_1, ni_2, ni_3, ni_4, ni_5, not_false_eq_true, not_true_eq_false, true_implies, false_implies, and_true, true_and, iL_6, iL_m6, iL_7, iL_8, iL_9, iL_4, iL_m4, iL_m8, li_0, li_1, li_2, li_3, li_4, li_5, li_6, li_7, li_8, li_9, li_10, li_11, li_12, li_13, li_15, li_16, li_18, li_20, li_24, li_31, li_32, li_40, li_46, li_48, li_57, li_59, li_60, li_61, li_63, li_64, li_97, li_99, li_122, li_124, li_150, li_255, li_480, li_488, li_600, li_999, li_1110, li_54]
  refine ⟨iI_in (by omega) (by omega) (by omega), ?_⟩
  rw [hm, wf_f hw hs hc hr]; exact H
theorem fst_succ (m : Nat → Int32) (k : Nat) : fst m (k + 1) = fst m k + wd m k := rfl
theorem fst_0 (m : Nat → Int32) : fst m 0 = 0 := rfl
theorem fst_le (hw : WF m) : ∀ {k : Nat}, k ≤ nS m → fst m k ≤ 6 * k ∧ k ≤ fst m k
  | 0, _ => by rw [fst_0]; omega
  | k + 1, h => by
    have := fst_le hw (k := k) (by omega)
    have := wf_s hw (k := k) (by omega)
    rw [fst_succ]; omega
theorem fst_mono (m : Nat → Int32) {j k : Nat} (h : j ≤ k) : fst m j ≤ fst m k := by
  obtain ⟨d, rfl⟩ := Nat.exists_eq_add_of_le h
  exact fb_sm_mono (wd m) j d
theorem cols_le (hw : WF m) : cols m ≤ 60 ∧ nS m ≤ cols m := by
  have h1 := fst_le hw (k := nS m) (Nat.le_refl _)
  have := wf_b hw
  unfold cols; omega
theorem s_firstOf_4 (hm : σ.1 26 = m) (hw : WF m) {x : Nat} (hx : x ≤ nS m) (H : K (iI (fst m x)) σ) (k : Nat) (hk : k ≤ x) : L_X7_firstOf_4 g l K X (iI x) (iI (fst m k)) (iI k) σ := by
  have hb := wf_b hw
  refine b_X7_firstOf_4 ?_
  try simp (disch := omega) only [iI_add, iI_sub, iI_mul, iI_neg, iI_n, iI_lt, iI_le, iI_eq, iI_tn, iI_ti, bI_0, bI_1, iI_L, iL_0, Decidable.not_not, Int.toNat_natCast, zpt_at, zpt_ne, pk_us, pk_un, forall_eq, tn_0, tn_1, tn_2, tn_3, tn_4, tn_5, ni_1, ni_2, ni_3, ni_4, ni_5, not_false_eq_true, not_true_eq_false, true_implies, false_implies, and_true, true_and, iL_6, iL_m6, iL_7, iL_8, iL_9, iL_4, iL_m4, iL_m8, li_0, li_1, li_2, li_3, li_4, li_5, li_6, li_7, li_8, li_9, li_10, li_11, li_12, li_13, li_15, li_16, li_18, li_20, li_24, li_31, li_32, li_40, li_46, li_48, li_57, li_59, li_60, li_61, li_63, li_64, li_97, li_99, li_122, li_124, li_150, li_255, li_480, li_488, li_600, li_999, li_1110, li_54]
  refine ⟨fun h => ?_, fun h => ?_⟩
  · obtain rfl : k = x := by omega
    exact H
  · refine s_ofW hm hw (by omega) ?_
    try simp (disch := omega) only [iI_add, iI_sub, iI_mul, iI_neg, iI_n, iI_lt, iI_le, iI_eq, iI_tn, iI_ti, bI_0, bI_1, iI_L, iL_0, Decidable.not_not, Int.toNat_natCast, zpt_at, zpt_ne, pk_us, pk_un, forall_eq, tn_0, tn_1, tn_2, tn_3, tn_4, tn_5, ni_1, ni_2, ni_3, ni_4, ni_5, not_false_eq_true, not_true_eq_false, true_implies, false_implies, and_true, true_and, iL_6, iL_m6, iL_7, iL_8, iL_9, iL_4, iL_m4, iL_m8, li_0, li_1, li_2, li_3, li_4, li_5, li_6, li_7, li_8, li_9, li_10, li_11, li_12, li_13, li_15, li_16, li_18, li_20, li_24, li_31, li_32, li_40, li_46, li_48, li_57, li_59, li_60, li_61, li_63, li_64, li_97, li_99, li_122, li_124, li_150, li_255, li_480, li_488, li_600, li_999, li_1110, li_54]
    exact s_firstOf_4 hm hw hx H (k + 1) (by omega)
termination_by x - k
theorem s_firstOf (hm : σ.1 26 = m) (hw : WF m) {x : Nat} (hx : x ≤ nS m) (H : K (iI (fst m x)) σ) : CT g l M_X7_firstOf 0 [.ref (zad g 24), .int (iI x)] σ (zQi K X) :=
  b_X7_firstOf (s_firstOf_4 hm hw hx H 0 (Nat.zero_le _))
theorem s_columns (hm : σ.1 26 = m) (hw : WF m) (H : K (iI (cols m)) σ) : CT g l M_X7_columns 0 [.ref (zad g 24)] σ (zQi K X) := by
  refine b_X7_columns ?_
  rw [show (Int32.toNatClampNeg 1) = 1 from rfl, hm, wf_1 hw]
  exact s_firstOf hm hw (Nat.le_refl _) H
theorem s_cells (hm : σ.1 26 = m) (hw : WF m) (H : K (iI (cols m * nH m : Nat)) σ) : CT g l M_X7_cells 0 [.ref (zad g 24)] σ (zQi K X) := by
  refine b_X7_cells (s_columns hm hw ?_)
  rw [show (Int32.toNatClampNeg 0) = 0 from rfl, hm, wf_0 hw]
  try simp (disch := omega) only [iI_add, iI_sub, iI_mul, iI_neg, iI_n, iI_lt, iI_le, iI_eq, iI_tn, iI_ti, bI_0, bI_1, iI_L, iL_0, Decidable.not_not, Int.toNat_natCast, zpt_at, zpt_ne, pk_us, pk_un, forall_eq, tn_0, tn_1, tn_2, tn_3, tn_4, tn_5, ni_1, ni_2, ni_3, ni_4, ni_5, not_false_eq_true, not_true_eq_false, true_implies, false_implies, and_true, true_and, iL_6, iL_m6, iL_7, iL_8, iL_9, iL_4, iL_m4, iL_m8, li_0, li_1, li_2, li_3, li_4, li_5, li_6, li_7, li_8, li_9, li_10, li_11, li_12, li_13, li_15, li_16, li_18, li_20, li_24, li_31, li_32, li_40, li_46, li_48, li_57, li_59, li_60, li_61, li_63, li_64, li_97, li_99, li_122, li_124, li_150, li_255, li_480, li_488, li_600, li_999, li_1110, li_54]
  rw [show ((cols m : Int) * (nH m : Int)) = ((cols m * nH m : Nat) : Int) by simp]
  exact H
theorem slat_no {c k : Nat} (h : k < slatOf m c) : fst m (k + 1) ≤ c := by
  have := fa_first_no _ _ _ h
  simp only [decide_eq_false_iff_not] at this
  omega
theorem slat_yes {c : Nat} (hc : c < cols m) : slatOf m c < nS m ∧ fst m (slatOf m c) ≤ c ∧ c < fst m (slatOf m c) + wd m (slatOf m c) := by
  have h0 : slatOf m c < nS m := by
    rcases Nat.lt_or_ge (slatOf m c) (nS m) with h | h
    · exact h
    · exfalso
      have h1 := fa_first_le (fun k => decide (c < fst m (k + 1))) (nS m)
      unfold cols at hc
      cases hn : nS m with
      | zero => rw [hn, fst_0] at hc; omega
      | succ n =>
        have := slat_no (m := m) (c := c) (k := n) (by unfold slatOf at h ⊢; omega)
        rw [hn] at hc; omega
  have h1 := fa_first_yes (fun k => decide (c < fst m (k + 1))) (nS m) h0
  simp only [decide_eq_true_eq] at h1
  refine ⟨h0, ?_, h1⟩
  cases hq : slatOf m c with
  | zero => rw [fst_0]; omega
  | succ n => exact slat_no (by omega)
theorem slat_eq {c k : Nat} (h1 : k < nS m) (h2 : fst m k ≤ c) (h3 : c < fst m (k + 1)) : slatOf m c = k := by
  have hc : c < cols m := Nat.lt_of_lt_of_le h3 (fst_mono m h1)
  obtain ⟨a1, a2, a3⟩ := slat_yes hc
  rcases Nat.lt_trichotomy (slatOf m c) k with h | h | h
  · have := fst_mono m (show slatOf m c + 1 ≤ k from h)
    rw [fst_succ] at this; omega
  · exact h
  · have := slat_no h
    omega
theorem s_slatOf_4 (hm : σ.1 26 = m) (hw : WF m) {c : Nat} (hc : c < cols m) (H : K (iI (slatOf m c)) σ) (k : Nat) (hk : k ≤ slatOf m c) (h2 : fst m k ≤ c) : L_X7_slatOf_4 g l K X (iI k) (iI (c - fst m k : Nat)) σ := by
  have hb := wf_b hw
  have hy := slat_yes hc
  have hc6 := cols_le hw
  have hw6 := wf_s hw (k := k) (by omega)
  refine b_X7_slatOf_4 ?_
  try simp (disch := omega) only [iI_add, iI_sub, iI_mul, iI_neg, iI_n, iI_lt, iI_le, iI_eq, iI_tn, iI_ti, bI_0, bI_1, iI_L, iL_0, Decidable.not_not, Int.toNat_natCast, zpt_at, zpt_ne, pk_us, pk_un, forall_eq, tn_0, tn_1, tn_2, tn_3, tn_4, tn_5, ni_1, ni_2, ni_3, ni_4, ni_5, not_false_eq_true, not_true_eq_false, true_implies, false_implies, and_true, true_and, iL_6, iL_m6, iL_7, iL_8, iL_9, iL_4, iL_m4, iL_m8, li_0, li_1, li_2, li_3, li_4, li_5, li_6, li_7, li_8, li_9, li_10, li_11, li_12, li_13, li_15, li_16, li_18, li_20, li_24, li_31, li_32, li_40, li_46, li_48, li_57, li_59, li_60, li_61, li_63, li_64, li_97, li_99, li_122, li_124, li_150, li_255, li_480, li_488, li_600, li_999, li_1110, li_54]
  refine s_ofW hm hw (by omega) ?_
  try simp (disch := omega) only [iI_add, iI_sub, iI_mul, iI_neg, iI_n, iI_lt, iI_le, iI_eq, iI_tn, iI_ti, bI_0, bI_1, iI_L, iL_0, Decidable.not_not, Int.toNat_natCast, zpt_at, zpt_ne, pk_us, pk_un, forall_eq, tn_0, tn_1, tn_2, tn_3, tn_4, tn_5, ni_1, ni_2, ni_3, ni_4, ni_5, not_false_eq_true, not_true_eq_false, true_implies, false_implies, and_true, true_and, iL_6, iL_m6, iL_7, iL_8, iL_9, iL_4, iL_m4, iL_m8, li_0, li_1, li_2, li_3, li_4, li_5, li_6, li_7, li_8, li_9, li_10, li_11, li_12, li_13, li_15, li_16, li_18, li_20, li_24, li_31, li_32, li_40, li_46, li_48, li_57, li_59, li_60, li_61, li_63, li_64, li_97, li_99, li_122, li_124, li_150, li_255, li_480, li_488, li_600, li_999, li_1110, li_54]
  refine ⟨fun h => ?_, fun h => ?_⟩
  · have : slatOf m c = k := slat_eq (by omega) h2 (by rw [fst_succ]; omega)
    rw [← this]; exact H
  · refine s_ofW hm hw (by omega) ?_
    try simp (disch := omega) only [iI_add, iI_sub, iI_mul, iI_neg, iI_n, iI_lt, iI_le, iI_eq, iI_tn, iI_ti, bI_0, bI_1, iI_L, iL_0, Decidable.not_not, Int.toNat_natCast, zpt_at, zpt_ne, pk_us, pk_un, forall_eq, tn_0, tn_1, tn_2, tn_3, tn_4, tn_5, ni_1, ni_2, ni_3, ni_4, ni_5, not_false_eq_true, not_true_eq_false, true_implies, false_implies, and_true, true_and, iL_6, iL_m6, iL_7, iL_8, iL_9, iL_4, iL_m4, iL_m8, li_0, li_1, li_2, li_3, li_4, li_5, li_6, li_7, li_8, li_9, li_10, li_11, li_12, li_13, li_15, li_16, li_18, li_20, li_24, li_31, li_32, li_40, li_46, li_48, li_57, li_59, li_60, li_61, li_63, li_64, li_97, li_99, li_122, li_124, li_150, li_255, li_480, li_488, li_600, li_999, li_1110, li_54]
    have h3 : k + 1 ≤ slatOf m c := by
      rcases Nat.lt_or_ge k (slatOf m c) with q | q
      · exact q
      · obtain rfl : k = slatOf m c := by omega
        omega
    rw [show ((c - fst m k : Nat) : Int) - (wd m k : Int) = ((c - fst m (k + 1) : Nat) : Int) by rw [fst_succ]; omega]
    exact s_slatOf_4 hm hw hc H (k + 1) h3 (by rw [fst_succ]; omega)
termination_by slatOf m c - k
theorem s_slatOf (hm : σ.1 26 = m) (hw : WF m) {c : Nat} (hc : c < cols m) (H : K (iI (slatOf m c)) σ) : CT g l M_X7_slatOf 0 [.ref (zad g 24), .int (iI c)] σ (zQi K X) :=
  b_X7_slatOf (s_slatOf_4 hm hw hc H 0 (Nat.zero_le _) (Nat.zero_le _))
theorem s_pictureAt_6 (hm : σ.1 26 = m) (hw : WF m) {s c r : Nat} (hs : s < 2) (hc : c < 60) (hr : r < 8) (H : K (iI (pic m s c r)) σ) (k : Nat) (hk : k ≤ nB m) : L_X7_pictureAt_6 g l K X (iI s) (iI c) (iI r) (iI (picN m s c r k)) (iI k) σ := by
  have hb := wf_b hw
  have hn : ∀ v, picN m s c r (k + 1) = v → (k < nB m) → L_X7_pictureAt_6 g l K X (iI s) (iI c) (iI r) (iI v) (iI ((k : Int) + 1)) σ := fun v e h => by
    rw [← e]; exact s_pictureAt_6 hm hw hs hc hr H (k + 1) h
  refine b_X7_pictureAt_6 ?_
  rw [show (Int32.toNatClampNeg 3) = 3 from rfl, hm, wf_3 hw]
  try simp (disch := omega) only [iI_add, iI_sub, iI_mul, iI_neg, iI_n, iI_lt, iI_le, iI_eq, iI_tn, iI_ti, bI_0, bI_1, iI_L, iL_0, Decidable.not_not, Int.toNat_natCast, zpt_at, zpt_ne, pk_us, pk_un, forall_eq, tn_0, tn_1, tn_2, tn_3, tn_4, tn_5, ni_1, ni_2, ni_3, ni_4, ni_5, not_false_eq_true, not_true_eq_false, true_implies, false_implies, and_true, true_and, iL_6, iL_m6, iL_7, iL_8, iL_9, iL_4, iL_m4, iL_m8, li_0, li_1, li_2, li_3, li_4, li_5, li_6, li_7, li_8, li_9, li_10, li_11, li_12, li_13, li_15, li_16, li_18, li_20, li_24, li_31, li_32, li_40, li_46, li_48, li_57, li_59, li_60, li_61, li_63, li_64, li_97, li_99, li_122, li_124, li_150, li_255, li_480, li_488, li_600, li_999, li_1110, li_54]
  refine ⟨fun h => ?_, fun h => ?_⟩
  · obtain rfl : k = nB m := by omega
    exact H
  · have hx := wf_x hw (b := k) (by omega)
    refine s_ofX0 hm hw (by omega) ?_
    try simp (disch := omega) only [iI_add, iI_sub, iI_mul, iI_neg, iI_n, iI_lt, iI_le, iI_eq, iI_tn, iI_ti, bI_0, bI_1, iI_L, iL_0, Decidable.not_not, Int.toNat_natCast, zpt_at, zpt_ne, pk_us, pk_un, forall_eq, tn_0, tn_1, tn_2, tn_3, tn_4, tn_5, ni_1, ni_2, ni_3, ni_4, ni_5, not_false_eq_true, not_true_eq_false, true_implies, false_implies, and_true, true_and, iL_6, iL_m6, iL_7, iL_8, iL_9, iL_4, iL_m4, iL_m8, li_0, li_1, li_2, li_3, li_4, li_5, li_6, li_7, li_8, li_9, li_10, li_11, li_12, li_13, li_15, li_16, li_18, li_20, li_24, li_31, li_32, li_40, li_46, li_48, li_57, li_59, li_60, li_61, li_63, li_64, li_97, li_99, li_122, li_124, li_150, li_255, li_480, li_488, li_600, li_999, li_1110, li_54]
    refine ⟨fun h1 => hn _ (if_neg (by omega)) (by omega), fun h1 => ?_⟩
    refine s_ofX1 hm hw (by omega) ?_
    try simp (disch := omega) only [iI_add, iI_sub, iI_mul, iI_neg, iI_n, iI_lt, iI_le, iI_eq, iI_tn, iI_ti, bI_0, bI_1, iI_L, iL_0, Decidable.not_not, Int.toNat_natCast, zpt_at, zpt_ne, pk_us, pk_un, forall_eq, tn_0, tn_1, tn_2, tn_3, tn_4, tn_5, ni_1, ni_2, ni_3, ni_4, ni_5, not_false_eq_true, not_true_eq_false, true_implies, false_implies, and_true, true_and, iL_6, iL_m6, iL_7, iL_8, iL_9, iL_4, iL_m4, iL_m8, li_0, li_1, li_2, li_3, li_4, li_5, li_6, li_7, li_8, li_9, li_10, li_11, li_12, li_13, li_15, li_16, li_18, li_20, li_24, li_31, li_32, li_40, li_46, li_48, li_57, li_59, li_60, li_61, li_63, li_64, li_97, li_99, li_122, li_124, li_150, li_255, li_480, li_488, li_600, li_999, li_1110, li_54]
    refine s_ofX3 hm hw (by omega) ?_
    try simp (disch := omega) only [iI_add, iI_sub, iI_mul, iI_neg, iI_n, iI_lt, iI_le, iI_eq, iI_tn, iI_ti, bI_0, bI_1, iI_L, iL_0, Decidable.not_not, Int.toNat_natCast, zpt_at, zpt_ne, pk_us, pk_un, forall_eq, tn_0, tn_1, tn_2, tn_3, tn_4, tn_5, ni_1, ni_2, ni_3, ni_4, ni_5, not_false_eq_true, not_true_eq_false, true_implies, false_implies, and_true, true_and, iL_6, iL_m6, iL_7, iL_8, iL_9, iL_4, iL_m4, iL_m8, li_0, li_1, li_2, li_3, li_4, li_5, li_6, li_7, li_8, li_9, li_10, li_11, li_12, li_13, li_15, li_16, li_18, li_20, li_24, li_31, li_32, li_40, li_46, li_48, li_57, li_59, li_60, li_61, li_63, li_64, li_97, li_99, li_122, li_124, li_150, li_255, li_480, li_488, li_600, li_999, li_1110, li_54]
    refine s_isIn (by omega) (by omega) (by omega) (by omega) (by omega) (by omega) ?_
    try simp (disch := omega) only [iI_add, iI_sub, iI_mul, iI_neg, iI_n, iI_lt, iI_le, iI_eq, iI_tn, iI_ti, bI_0, bI_1, iI_L, iL_0, Decidable.not_not, Int.toNat_natCast, zpt_at, zpt_ne, pk_us, pk_un, forall_eq, tn_0, tn_1, tn_2, tn_3, tn_4, tn_5, ni_1, ni_2, ni_3, ni_4, ni_5, not_false_eq_true, not_true_eq_false, true_implies, false_implies, and_true, true_and, iL_6, iL_m6, iL_7, iL_8, iL_9, iL_4, iL_m4, iL_m8, li_0, li_1, li_2, li_3, li_4, li_5, li_6, li_7, li_8, li_9, li_10, li_11, li_12, li_13, li_15, li_16, li_18, li_20, li_24, li_31, li_32, li_40, li_46, li_48, li_57, li_59, li_60, li_61, li_63, li_64, li_97, li_99, li_122, li_124, li_150, li_255, li_480, li_488, li_600, li_999, li_1110, li_54]
    refine ⟨fun h2 => hn _ (if_neg (by omega)) (by omega), fun h2 => ?_⟩
    refine s_ofX2 hm hw (by omega) ?_
    try simp (disch := omega) only [iI_add, iI_sub, iI_mul, iI_neg, iI_n, iI_lt, iI_le, iI_eq, iI_tn, iI_ti, bI_0, bI_1, iI_L, iL_0, Decidable.not_not, Int.toNat_natCast, zpt_at, zpt_ne, pk_us, pk_un, forall_eq, tn_0, tn_1, tn_2, tn_3, tn_4, tn_5, ni_1, ni_2, ni_3, ni_4, ni_5, not_false_eq_true, not_true_eq_false, true_implies, false_implies, and_true, true_and, iL_6, iL_m6, iL_7, iL_8, iL_9, iL_4, iL_m4, iL_m8, li_0, li_1, li_2, li_3, li_4, li_5, li_6, li_7, li_8, li_9, li_10, li_11, li_12, li_13, li_15, li_16, li_18, li_20, li_24, li_31, li_32, li_40, li_46, li_48, li_57, li_59, li_60, li_61, li_63, li_64, li_97, li_99, li_122, li_124, li_150, li_255, li_480, li_488, li_600, li_999, li_1110, li_54]
    refine s_ofX4 hm hw (by omega) ?_
    try simp (disch := omega) only [iI_add, iI_sub, iI_mul, iI_neg, iI_n, iI_lt, iI_le, iI_eq, iI_tn, iI_ti, bI_0, bI_1, iI_L, iL_0, Decidable.not_not, Int.toNat_natCast, zpt_at, zpt_ne, pk_us, pk_un, forall_eq, tn_0, tn_1, tn_2, tn_3, tn_4, tn_5, ni_1, ni_2, ni_3, ni_4, ni_5, not_false_eq_true, not_true_eq_false, true_implies, false_implies, and_true, true_and, iL_6, iL_m6, iL_7, iL_8, iL_9, iL_4, iL_m4, iL_m8, li_0, li_1, li_2, li_3, li_4, li_5, li_6, li_7, li_8, li_9, li_10, li_11, li_12, li_13, li_15, li_16, li_18, li_20, li_24, li_31, li_32, li_40, li_46, li_48, li_57, li_59, li_60, li_61, li_63, li_64, li_97, li_99, li_122, li_124, li_150, li_255, li_480, li_488, li_600, li_999, li_1110, li_54]
    refine s_isIn (by omega) (by omega) (by omega) (by omega) (by omega) (by omega) ?_
    try simp (disch := omega) only [iI_add, iI_sub, iI_mul, iI_neg, iI_n, iI_lt, iI_le, iI_eq, iI_tn, iI_ti, bI_0, bI_1, iI_L, iL_0, Decidable.not_not, Int.toNat_natCast, zpt_at, zpt_ne, pk_us, pk_un, forall_eq, tn_0, tn_1, tn_2, tn_3, tn_4, tn_5, ni_1, ni_2, ni_3, ni_4, ni_5, not_false_eq_true, not_true_eq_false, true_implies, false_implies, and_true, true_and, iL_6, iL_m6, iL_7, iL_8, iL_9, iL_4, iL_m4, iL_m8, li_0, li_1, li_2, li_3, li_4, li_5, li_6, li_7, li_8, li_9, li_10, li_11, li_12, li_13, li_15, li_16, li_18, li_20, li_24, li_31, li_32, li_40, li_46, li_48, li_57, li_59, li_60, li_61, li_63, li_64, li_97, li_99, li_122, li_124, li_150, li_255, li_480, li_488, li_600, li_999, li_1110, li_54]
    refine ⟨fun h3 => hn _ (if_neg (by omega)) (by omega), fun h3 => ?_⟩
    refine s_ofX5 hm hw (by omega) ?_
    try simp (disch := omega) only [iI_add, iI_sub, iI_mul, iI_neg, iI_n, iI_lt, iI_le, iI_eq, iI_tn, iI_ti, bI_0, bI_1, iI_L, iL_0, Decidable.not_not, Int.toNat_natCast, zpt_at, zpt_ne, pk_us, pk_un, forall_eq, tn_0, tn_1, tn_2, tn_3, tn_4, tn_5, ni_1, ni_2, ni_3, ni_4, ni_5, not_false_eq_true, not_true_eq_false, true_implies, false_implies, and_true, true_and, iL_6, iL_m6, iL_7, iL_8, iL_9, iL_4, iL_m4, iL_m8, li_0, li_1, li_2, li_3, li_4, li_5, li_6, li_7, li_8, li_9, li_10, li_11, li_12, li_13, li_15, li_16, li_18, li_20, li_24, li_31, li_32, li_40, li_46, li_48, li_57, li_59, li_60, li_61, li_63, li_64, li_97, li_99, li_122, li_124, li_150, li_255, li_480, li_488, li_600, li_999, li_1110, li_54]
    exact hn _ (if_pos (by omega)) (by omega)
termination_by nB m - k
theorem s_pictureAt (hm : σ.1 26 = m) (hw : WF m) {s c r : Nat} (hs : s < 2) (hc : c < 60) (hr : r < 8) (H : K (iI (pic m s c r)) σ) : CT g l M_X7_pictureAt 0 [.ref (zad g 24), .int (iI s), .int (iI c), .int (iI r)] σ (zQi K X) :=
  b_X7_pictureAt (s_pictureAt_6 hm hw hs hc hr H 0 (Nat.zero_le _))
end ZMR
