/-! the reference: public reading methods with loops over angles or slats -/
section ZMQ
variable {g : zG} {l : Launch} {K : Int32 → zS → Prop} {X : String → zS → Prop} {σ : zS} {m : Nat → Int32}
theorem or0 (x : Int32) : x ||| iI 0 = x := by
  apply b_ext
  intro i hi
  rw [b_or]
  have : bt (iI 0) i = false := by
    show bt (nI 0) i = false
    rw [bt_nI _ _ hi]; simp
  rw [this, Bool.or_false]
theorem bst_b {f v : Nat → Int} {b0 m0 lo hi : Int} (h0 : lo ≤ m0 ∧ m0 ≤ hi) : ∀ {n : Nat}, (∀ k, k < n → lo ≤ f k ∧ f k ≤ hi) → lo ≤ (bst f v b0 m0 n).2 ∧ (bst f v b0 m0 n).2 ≤ hi
  | 0, _ => h0
  | n + 1, h => by
    have ih := bst_b (f := f) (v := v) (b0 := b0) (m0 := m0) h0 (n := n) (fun k hk => h k (by omega))
    have h1 := h n (by omega)
    unfold bst
    split
    · exact h1
    · exact ih
theorem bst_y {f v : Nat → Int} {b0 m0 : Int} {n : Nat} (h : (bst f v b0 m0 n).2 < f n) : bst f v b0 m0 (n + 1) = (v n, f n) := by
  rw [bst, if_pos h]
theorem bst_n {f v : Nat → Int} {b0 m0 : Int} {n : Nat} (h : ¬ (bst f v b0 m0 n).2 < f n) : bst f v b0 m0 (n + 1) = bst f v b0 m0 n := by
  rw [bst, if_neg h]
theorem rgt_le (hw : WF m) (a : Int) (s : Nat) : rgt m a s ≤ 480 := by
  have h1 := fb_sm_bound (f := fun c => fb_ct (fun r => decide (whyN m a s c r = 0)) (nH m)) (c := nH m) (n := cols m) (fun k _ => fb_ct_le _ _)
  have h2 := cells_le hw
  exact Nat.le_trans h1 h2
theorem opN_le (hw : WF m) (a : Int) : opN m a ≤ 480 := by
  have h1 : colsAs m a 2 3 ≤ cols m := fb_ct_le _ _
  have h2 := cells_le hw
  unfold opN
  rw [Nat.mul_comm]
  exact Nat.le_trans (Nat.mul_le_mul_right _ h1) h2
def sfN (m : Nat → Int32) (c : Nat) : Int32 := bset (fun j => decide (stt m (-6 + (j : Int)) c = 0)) 13
theorem s_shownFrom_19 (hm : σ.1 26 = m) (hw : WF m) {c : Nat} (hc : c < cols m) (H : K (sfN m c) σ) (j : Nat) (hj : j ≤ 13) : L_X7_shownFrom_19 g l K X (iI c) (bset (fun j => decide (stt m (-6 + (j : Int)) c = 0)) j) (iI (-6 + (j : Int))) σ := by
  have hst := stt_le m (-6 + (j : Int)) c
  have ih := fun h => s_shownFrom_19 hm hw hc H (j + 1) h
  refine b_X7_shownFrom_19 ?_
  try simp (disch := omega) only [iI_add, iI_sub, iI_mul, iI_neg, iI_n, iI_lt, iI_le, iI_eq, iI_tn, iI_ti, bI_0, bI_1, iI_L, iL_0, Decidable.not_not, Int.toNat_natCast, zpt_at, zpt_ne, pk_us, pk_un, forall_eq, tn_0, tn_1, tn_2, tn_3, tn_4, tn_5, ni_1, ni_2, ni_3, ni_4, ni_5, not_false_eq_true, not_true_eq_false, true_implies, false_implies, and_true, true_and, iL_6, iL_m6, iL_7, iL_8, iL_9, iL_4, iL_m4, iL_m8, li_0, li_1, li_2, li_3, li_4, li_5, li_6, li_7, li_8, li_9, li_10, li_11, li_12, li_13, li_15, li_16, li_18, li_20, li_24, li_31, li_32, li_40, li_46, li_48, li_57, li_59, li_60, li_61, li_63, li_64, li_97, li_99, li_122, li_124, li_150, li_255, li_480, li_488, li_600, li_999, li_1110, li_54, or0]
  refine ⟨fun h => ?_, fun h => ?_⟩
  · obtain rfl : j = 13 := by omega
    exact H
  · replace ih := ih (by omega)
    rw [bset, show ((-6 : Int) + ((j + 1 : Nat) : Int)) = -6 + (j : Int) + 1 by omega] at ih
    refine s_stateOf hm hw hc (by omega) ?_
    try simp (disch := omega) only [iI_add, iI_sub, iI_mul, iI_neg, iI_n, iI_lt, iI_le, iI_eq, iI_tn, iI_ti, bI_0, bI_1, iI_L, iL_0, Decidable.not_not, Int.toNat_natCast, zpt_at, zpt_ne, pk_us, pk_un, forall_eq, tn_0, tn_1, tn_2, tn_3, tn_4, tn_5, ni_1, ni_2, ni_3, ni_4, ni_5, not_false_eq_true, not_true_eq_false, true_implies, false_implies, and_true, true_and, iL_6, iL_m6, iL_7, iL_8, iL_9, iL_4, iL_m4, iL_m8, li_0, li_1, li_2, li_3, li_4, li_5, li_6, li_7, li_8, li_9, li_10, li_11, li_12, li_13, li_15, li_16, li_18, li_20, li_24, li_31, li_32, li_40, li_46, li_48, li_57, li_59, li_60, li_61, li_63, li_64, li_97, li_99, li_122, li_124, li_150, li_255, li_480, li_488, li_600, li_999, li_1110, li_54, or0]
    refine ⟨fun h2 => ?_, fun h2 => ?_⟩
    · rw [if_neg (by simp; omega)] at ih
      exact ih
    · rw [if_pos (by simp; omega)] at ih
      rw [show (-6 + (j : Int) + 6) = (j : Int) by omega]
      exact ih
termination_by 13 - j
theorem s_shownFrom (hm : σ.1 26 = m) (hw : WF m) {x : Int} (hx : I32 x) (H0 : ∀ c : Nat, x = c → c < cols m → K (sfN m c) (cd σ 0)) (H1 : ¬ (0 ≤ x ∧ x < cols m) → K (iI 0) (cd σ 1)) : CT g l M_X7_shownFrom 0 [.ref (zad g 24), .int (iI x)] σ (zQi K X) := by
  refine b_X7_shownFrom (s_isColumn hm hw hx (s_goes (fun h => ?_) (fun h => ?_)))
  · obtain ⟨c, rfl, hc⟩ := nat_of h
    try simp (disch := omega) only [iI_add, iI_sub, iI_mul, iI_neg, iI_n, iI_lt, iI_le, iI_eq, iI_tn, iI_ti, bI_0, bI_1, iI_L, iL_0, Decidable.not_not, Int.toNat_natCast, zpt_at, zpt_ne, pk_us, pk_un, forall_eq, tn_0, tn_1, tn_2, tn_3, tn_4, tn_5, ni_1, ni_2, ni_3, ni_4, ni_5, not_false_eq_true, not_true_eq_false, true_implies, false_implies, and_true, true_and, iL_6, iL_m6, iL_7, iL_8, iL_9, iL_4, iL_m4, iL_m8, li_0, li_1, li_2, li_3, li_4, li_5, li_6, li_7, li_8, li_9, li_10, li_11, li_12, li_13, li_15, li_16, li_18, li_20, li_24, li_31, li_32, li_40, li_46, li_48, li_57, li_59, li_60, li_61, li_63, li_64, li_97, li_99, li_122, li_124, li_150, li_255, li_480, li_488, li_600, li_999, li_1110, li_54]
    exact s_shownFrom_19 (cd_m hm 0) hw hc (H0 c rfl hc) 0 (by omega)
  · try simp (disch := omega) only [iI_add, iI_sub, iI_mul, iI_neg, iI_n, iI_lt, iI_le, iI_eq, iI_tn, iI_ti, bI_0, bI_1, iI_L, iL_0, Decidable.not_not, Int.toNat_natCast, zpt_at, zpt_ne, pk_us, pk_un, forall_eq, tn_0, tn_1, tn_2, tn_3, tn_4, tn_5, ni_1, ni_2, ni_3, ni_4, ni_5, not_false_eq_true, not_true_eq_false, true_implies, false_implies, and_true, true_and, iL_6, iL_m6, iL_7, iL_8, iL_9, iL_4, iL_m4, iL_m8, li_0, li_1, li_2, li_3, li_4, li_5, li_6, li_7, li_8, li_9, li_10, li_11, li_12, li_13, li_15, li_16, li_18, li_20, li_24, li_31, li_32, li_40, li_46, li_48, li_57, li_59, li_60, li_61, li_63, li_64, li_97, li_99, li_122, li_124, li_150, li_255, li_480, li_488, li_600, li_999, li_1110, li_54]
    exact H1 h
noncomputable def baN (m : Nat → Int32) (s : Nat) (n : Nat) : Int × Int := bst (fun j => (rgt m (-6 + (j : Int)) s : Int)) (fun j => -6 + (j : Int)) (-99) (-1) n
theorem baN_b (hw : WF m) (s n : Nat) : -1 ≤ (baN m s n).2 ∧ (baN m s n).2 ≤ 480 :=
  bst_b (by omega) (fun k _ => by have := rgt_le hw (-6 + (k : Int)) s; omega)
theorem s_bestAngle_14 (hm : σ.1 26 = m) (hw : WF m) {s : Nat} (hs : s < 2) (H : K (iI (if nS m = 0 then -99 else (baN m s 13).1)) σ) (j : Nat) (hj : j ≤ 13) (h0 : nS m = 0 → j = 0) : L_X7_bestAngle_14 g l K X (iI s) (iI (baN m s j).1) (iI (baN m s j).2) (iI (-6 + (j : Int))) σ := by
  have hb := wf_b hw
  have hbb := baN_b hw s j
  have hr := rgt_le hw (-6 + (j : Int)) s
  have ih := fun h h' => s_bestAngle_14 hm hw hs H (j + 1) h h'
  refine b_X7_bestAngle_14 ?_
  rw [show (Int32.toNatClampNeg 1) = 1 from rfl, hm, wf_1 hw]
  try simp (disch := omega) only [iI_add, iI_sub, iI_mul, iI_neg, iI_n, iI_lt, iI_le, iI_eq, iI_tn, iI_ti, bI_0, bI_1, iI_L, iL_0, Decidable.not_not, Int.toNat_natCast, zpt_at, zpt_ne, pk_us, pk_un, forall_eq, tn_0, tn_1, tn_2, tn_3, tn_4, tn_5, ni_1, ni_2, ni_3, ni_4, ni_5, not_false_eq_true, not_true_eq_false, true_implies, false_implies, and_true, true_and, iL_6, iL_m6, iL_7, iL_8, iL_9, iL_4, iL_m4, iL_m8, li_0, li_1, li_2, li_3, li_4, li_5, li_6, li_7, li_8, li_9, li_10, li_11, li_12, li_13, li_15, li_16, li_18, li_20, li_24, li_31, li_32, li_40, li_46, li_48, li_57, li_59, li_60, li_61, li_63, li_64, li_97, li_99, li_122, li_124, li_150, li_255, li_480, li_488, li_600, li_999, li_1110, li_54]
  refine ⟨fun h => ?_, fun h => ⟨fun h' => ?_, fun h' => ?_⟩⟩
  · obtain rfl : j = 13 := by omega
    rw [if_neg (fun q => by have := h0 q; omega)] at H
    exact H
  · obtain rfl := h0 (by omega)
    rw [if_pos (by omega)] at H
    exact H
  · replace ih := ih (by omega) (by omega)
    rw [show ((-6 : Int) + ((j + 1 : Nat) : Int)) = -6 + (j : Int) + 1 by omega] at ih
    refine s_truthS hs (s_rightMany hm hw hs (by omega) ?_)
    try simp (disch := omega) only [iI_add, iI_sub, iI_mul, iI_neg, iI_n, iI_lt, iI_le, iI_eq, iI_tn, iI_ti, bI_0, bI_1, iI_L, iL_0, Decidable.not_not, Int.toNat_natCast, zpt_at, zpt_ne, pk_us, pk_un, forall_eq, tn_0, tn_1, tn_2, tn_3, tn_4, tn_5, ni_1, ni_2, ni_3, ni_4, ni_5, not_false_eq_true, not_true_eq_false, true_implies, false_implies, and_true, true_and, iL_6, iL_m6, iL_7, iL_8, iL_9, iL_4, iL_m4, iL_m8, li_0, li_1, li_2, li_3, li_4, li_5, li_6, li_7, li_8, li_9, li_10, li_11, li_12, li_13, li_15, li_16, li_18, li_20, li_24, li_31, li_32, li_40, li_46, li_48, li_57, li_59, li_60, li_61, li_63, li_64, li_97, li_99, li_122, li_124, li_150, li_255, li_480, li_488, li_600, li_999, li_1110, li_54]
    refine ⟨fun h2 => ?_, fun h2 => ?_⟩
    · rw [show baN m s (j + 1) = _ from bst_y h2] at ih
      exact ih
    · rw [show baN m s (j + 1) = _ from bst_n h2] at ih
      exact ih
termination_by 13 - j
theorem s_bestAngle (hm : σ.1 26 = m) (hw : WF m) {s : Nat} (hs : s < 2) (H : K (iI (if nS m = 0 then -99 else (baN m s 13).1)) (cd σ 0)) : CT g l M_X7_bestAngle 0 [.ref (zad g 24), .int (iI s)] σ (zQi K X) := by
  refine b_X7_bestAngle ?_
  try simp (disch := omega) only [iI_add, iI_sub, iI_mul, iI_neg, iI_n, iI_lt, iI_le, iI_eq, iI_tn, iI_ti, bI_0, bI_1, iI_L, iL_0, Decidable.not_not, Int.toNat_natCast, zpt_at, zpt_ne, pk_us, pk_un, forall_eq, tn_0, tn_1, tn_2, tn_3, tn_4, tn_5, ni_1, ni_2, ni_3, ni_4, ni_5, not_false_eq_true, not_true_eq_false, true_implies, false_implies, and_true, true_and, iL_6, iL_m6, iL_7, iL_8, iL_9, iL_4, iL_m4, iL_m8, li_0, li_1, li_2, li_3, li_4, li_5, li_6, li_7, li_8, li_9, li_10, li_11, li_12, li_13, li_15, li_16, li_18, li_20, li_24, li_31, li_32, li_40, li_46, li_48, li_57, li_59, li_60, li_61, li_63, li_64, li_97, li_99, li_122, li_124, li_150, li_255, li_480, li_488, li_600, li_999, li_1110, li_54]
  exact s_bestAngle_14 (cd_m hm 0) hw hs H 0 (by omega) (fun _ => rfl)
def liN (m : Nat → Int32) (n : Nat) : Int × Int := bst (fun j => (opN m (-6 + (j : Int)) : Int)) (fun j => -6 + (j : Int)) (-99) (-1) n
theorem liN_b (hw : WF m) (n : Nat) : -1 ≤ (liN m n).2 ∧ (liN m n).2 ≤ 480 :=
  bst_b (by omega) (fun k _ => by have := opN_le hw (-6 + (k : Int)); omega)
theorem s_lightest_13 (hm : σ.1 26 = m) (hw : WF m) (H : K (iI (if nS m = 0 then -99 else (liN m 13).1)) σ) (j : Nat) (hj : j ≤ 13) (h0 : nS m = 0 → j = 0) : L_X7_lightest_13 g l K X (iI (liN m j).1) (iI (liN m j).2) (iI (-6 + (j : Int))) σ := by
  have hb := wf_b hw
  have hbb := liN_b hw j
  have hr := opN_le hw (-6 + (j : Int))
  have ih := fun h h' => s_lightest_13 hm hw H (j + 1) h h'
  refine b_X7_lightest_13 ?_
  rw [show (Int32.toNatClampNeg 1) = 1 from rfl, hm, wf_1 hw]
  try simp (disch := omega) only [iI_add, iI_sub, iI_mul, iI_neg, iI_n, iI_lt, iI_le, iI_eq, iI_tn, iI_ti, bI_0, bI_1, iI_L, iL_0, Decidable.not_not, Int.toNat_natCast, zpt_at, zpt_ne, pk_us, pk_un, forall_eq, tn_0, tn_1, tn_2, tn_3, tn_4, tn_5, ni_1, ni_2, ni_3, ni_4, ni_5, not_false_eq_true, not_true_eq_false, true_implies, false_implies, and_true, true_and, iL_6, iL_m6, iL_7, iL_8, iL_9, iL_4, iL_m4, iL_m8, li_0, li_1, li_2, li_3, li_4, li_5, li_6, li_7, li_8, li_9, li_10, li_11, li_12, li_13, li_15, li_16, li_18, li_20, li_24, li_31, li_32, li_40, li_46, li_48, li_57, li_59, li_60, li_61, li_63, li_64, li_97, li_99, li_122, li_124, li_150, li_255, li_480, li_488, li_600, li_999, li_1110, li_54]
  refine ⟨fun h => ?_, fun h => ⟨fun h' => ?_, fun h' => ?_⟩⟩
  · obtain rfl : j = 13 := by omega
    rw [if_neg (fun q => by have := h0 q; omega)] at H
    exact H
  · obtain rfl := h0 (by omega)
    rw [if_pos (by omega)] at H
    exact H
  · replace ih := ih (by omega) (by omega)
    rw [show ((-6 : Int) + ((j + 1 : Nat) : Int)) = -6 + (j : Int) + 1 by omega] at ih
    refine s_openMany hm hw (by omega) ?_
    try simp (disch := omega) only [iI_add, iI_sub, iI_mul, iI_neg, iI_n, iI_lt, iI_le, iI_eq, iI_tn, iI_ti, bI_0, bI_1, iI_L, iL_0, Decidable.not_not, Int.toNat_natCast, zpt_at, zpt_ne, pk_us, pk_un, forall_eq, tn_0, tn_1, tn_2, tn_3, tn_4, tn_5, ni_1, ni_2, ni_3, ni_4, ni_5, not_false_eq_true, not_true_eq_false, true_implies, false_implies, and_true, true_and, iL_6, iL_m6, iL_7, iL_8, iL_9, iL_4, iL_m4, iL_m8, li_0, li_1, li_2, li_3, li_4, li_5, li_6, li_7, li_8, li_9, li_10, li_11, li_12, li_13, li_15, li_16, li_18, li_20, li_24, li_31, li_32, li_40, li_46, li_48, li_57, li_59, li_60, li_61, li_63, li_64, li_97, li_99, li_122, li_124, li_150, li_255, li_480, li_488, li_600, li_999, li_1110, li_54]
    refine ⟨fun h2 => ?_, fun h2 => ?_⟩
    · rw [show liN m (j + 1) = _ from bst_y h2] at ih
      exact ih
    · rw [show liN m (j + 1) = _ from bst_n h2] at ih
      exact ih
termination_by 13 - j
theorem s_lightest (hm : σ.1 26 = m) (hw : WF m) (H : K (iI (if nS m = 0 then -99 else (liN m 13).1)) (cd σ 0)) : CT g l M_X7_lightest 0 [.ref (zad g 24)] σ (zQi K X) := by
  refine b_X7_lightest ?_
  try simp (disch := omega) only [iI_add, iI_sub, iI_mul, iI_neg, iI_n, iI_lt, iI_le, iI_eq, iI_tn, iI_ti, bI_0, bI_1, iI_L, iL_0, Decidable.not_not, Int.toNat_natCast, zpt_at, zpt_ne, pk_us, pk_un, forall_eq, tn_0, tn_1, tn_2, tn_3, tn_4, tn_5, ni_1, ni_2, ni_3, ni_4, ni_5, not_false_eq_true, not_true_eq_false, true_implies, false_implies, and_true, true_and, iL_6, iL_m6, iL_7, iL_8, iL_9, iL_4, iL_m4, iL_m8, li_0, li_1, li_2, li_3, li_4, li_5, li_6, li_7, li_8, li_9, li_10, li_11, li_12, li_13, li_15, li_16, li_18, li_20, li_24, li_31, li_32, li_40, li_46, li_48, li_57, li_59, li_60, li_61, li_63, li_64, li_97, li_99, li_122, li_124, li_150, li_255, li_480, li_488, li_600, li_999, li_1110, li_54]
  exact s_lightest_13 (cd_m hm 0) hw H 0 (by omega) (fun _ => rfl)
theorem s_seam (hm : σ.1 26 = m) (hw : WF m) {x : Int} (hx : I32 x) (H0 : ∀ k : Nat, x = k → k < nS m → K (iI (seamB m k)) (cd σ 0)) (H1 : ¬ (0 ≤ x ∧ x < nS m) → K (iI 0) (cd σ 1)) : CT g l M_X7_seam 0 [.ref (zad g 24), .int (iI x)] σ (zQi K X) := by
  refine b_X7_seam (s_isSlat hm hw hx (s_goes (fun h => ?_) (fun h => ?_)))
  · obtain ⟨c, rfl, hc⟩ := nat_of h
    try simp (disch := omega) only [iI_add, iI_sub, iI_mul, iI_neg, iI_n, iI_lt, iI_le, iI_eq, iI_tn, iI_ti, bI_0, bI_1, iI_L, iL_0, Decidable.not_not, Int.toNat_natCast, zpt_at, zpt_ne, pk_us, pk_un, forall_eq, tn_0, tn_1, tn_2, tn_3, tn_4, tn_5, ni_1, ni_2, ni_3, ni_4, ni_5, not_false_eq_true, not_true_eq_false, true_implies, false_implies, and_true, true_and, iL_6, iL_m6, iL_7, iL_8, iL_9, iL_4, iL_m4, iL_m8, li_0, li_1, li_2, li_3, li_4, li_5, li_6, li_7, li_8, li_9, li_10, li_11, li_12, li_13, li_15, li_16, li_18, li_20, li_24, li_31, li_32, li_40, li_46, li_48, li_57, li_59, li_60, li_61, li_63, li_64, li_97, li_99, li_122, li_124, li_150, li_255, li_480, li_488, li_600, li_999, li_1110, li_54]
    exact s_seamBehind (cd_m hm 0) hw hc (H0 c rfl hc)
  · try simp (disch := omega) only [iI_add, iI_sub, iI_mul, iI_neg, iI_n, iI_lt, iI_le, iI_eq, iI_tn, iI_ti, bI_0, bI_1, iI_L, iL_0, Decidable.not_not, Int.toNat_natCast, zpt_at, zpt_ne, pk_us, pk_un, forall_eq, tn_0, tn_1, tn_2, tn_3, tn_4, tn_5, ni_1, ni_2, ni_3, ni_4, ni_5, not_false_eq_true, not_true_eq_false, true_implies, false_implies, and_true, true_and, iL_6, iL_m6, iL_7, iL_8, iL_9, iL_4, iL_m4, iL_m8, li_0, li_1, li_2, li_3, li_4, li_5, li_6, li_7, li_8, li_9, li_10, li_11, li_12, li_13, li_15, li_16, li_18, li_20, li_24, li_31, li_32, li_40, li_46, li_48, li_57, li_59, li_60, li_61, li_63, li_64, li_97, li_99, li_122, li_124, li_150, li_255, li_480, li_488, li_600, li_999, li_1110, li_54]
    exact H1 h
theorem rnn_b (p : Nat → Bool) : ∀ n, (rnn p n).1 ≤ n ∧ (rnn p n).2 ≤ n
  | 0 => ⟨Nat.le_refl _, Nat.le_refl _⟩
  | n + 1 => by
    have ih := rnn_b p n
    unfold rnn
    simp only
    split <;> omega
def ruN (m : Nat → Int32) (a : Int) (n : Nat) : Nat × Nat := rnn (fun c => decide (stt m a c = 0)) n
theorem s_run_26 (hm : σ.1 26 = m) (hw : WF m) {a : Int} (ha : -6 ≤ a ∧ a ≤ 6) (H : K (iI (ruN m a (cols m)).2) σ) (c : Nat) (hc : c ≤ cols m) : L_X7_run_26 g l K X (iI a) (iI (ruN m a c).2) (iI (ruN m a c).1) (iI (cols m)) (iI c) σ := by
  have hcl := cols_le hw
  have hst := stt_le m a c
  have hrb : (ruN m a c).1 ≤ c ∧ (ruN m a c).2 ≤ c := rnn_b _ c
  have ih := fun h => s_run_26 hm hw ha H (c + 1) h
  refine b_X7_run_26 ?_
  try simp (disch := omega) only [iI_add, iI_sub, iI_mul, iI_neg, iI_n, iI_lt, iI_le, iI_eq, iI_tn, iI_ti, bI_0, bI_1, iI_L, iL_0, Decidable.not_not, Int.toNat_natCast, zpt_at, zpt_ne, pk_us, pk_un, forall_eq, tn_0, tn_1, tn_2, tn_3, tn_4, tn_5, ni_1, ni_2, ni_3, ni_4, ni_5, not_false_eq_true, not_true_eq_false, true_implies, false_implies, and_true, true_and, iL_6, iL_m6, iL_7, iL_8, iL_9, iL_4, iL_m4, iL_m8, li_0, li_1, li_2, li_3, li_4, li_5, li_6, li_7, li_8, li_9, li_10, li_11, li_12, li_13, li_15, li_16, li_18, li_20, li_24, li_31, li_32, li_40, li_46, li_48, li_57, li_59, li_60, li_61, li_63, li_64, li_97, li_99, li_122, li_124, li_150, li_255, li_480, li_488, li_600, li_999, li_1110, li_54]
  refine ⟨fun h => ?_, fun h => ?_⟩
  · obtain rfl : c = cols m := by omega
    exact H
  · replace ih := ih (by omega)
    refine s_stateOf hm hw (by omega) ha ?_
    try simp (disch := omega) only [iI_add, iI_sub, iI_mul, iI_neg, iI_n, iI_lt, iI_le, iI_eq, iI_tn, iI_ti, bI_0, bI_1, iI_L, iL_0, Decidable.not_not, Int.toNat_natCast, zpt_at, zpt_ne, pk_us, pk_un, forall_eq, tn_0, tn_1, tn_2, tn_3, tn_4, tn_5, ni_1, ni_2, ni_3, ni_4, ni_5, not_false_eq_true, not_true_eq_false, true_implies, false_implies, and_true, true_and, iL_6, iL_m6, iL_7, iL_8, iL_9, iL_4, iL_m4, iL_m8, li_0, li_1, li_2, li_3, li_4, li_5, li_6, li_7, li_8, li_9, li_10, li_11, li_12, li_13, li_15, li_16, li_18, li_20, li_24, li_31, li_32, li_40, li_46, li_48, li_57, li_59, li_60, li_61, li_63, li_64, li_97, li_99, li_122, li_124, li_150, li_255, li_480, li_488, li_600, li_999, li_1110, li_54]
    refine ⟨fun h2 => ?_, fun h2 => ?_⟩
    · refine s_greater (by omega) (by omega) (by omega) (by omega) ?_
      have e1 : ruN m a (c + 1) = (0, max (ruN m a c).2 0) := by
        show rnn _ (c + 1) = _
        rw [rnn, if_neg (by simp; omega)]; rfl
      rw [e1, show (((max (ruN m a c).2 0 : Nat)) : Int) = max ((ruN m a c).2 : Int) 0 by omega] at ih
      try simp (disch := omega) only [iI_add, iI_sub, iI_mul, iI_neg, iI_n, iI_lt, iI_le, iI_eq, iI_tn, iI_ti, bI_0, bI_1, iI_L, iL_0, Decidable.not_not, Int.toNat_natCast, zpt_at, zpt_ne, pk_us, pk_un, forall_eq, tn_0, tn_1, tn_2, tn_3, tn_4, tn_5, ni_1, ni_2, ni_3, ni_4, ni_5, not_false_eq_true, not_true_eq_false, true_implies, false_implies, and_true, true_and, iL_6, iL_m6, iL_7, iL_8, iL_9, iL_4, iL_m4, iL_m8, li_0, li_1, li_2, li_3, li_4, li_5, li_6, li_7, li_8, li_9, li_10, li_11, li_12, li_13, li_15, li_16, li_18, li_20, li_24, li_31, li_32, li_40, li_46, li_48, li_57, li_59, li_60, li_61, li_63, li_64, li_97, li_99, li_122, li_124, li_150, li_255, li_480, li_488, li_600, li_999, li_1110, li_54]
      exact ih
    · refine s_greater (by omega) (by omega) (by omega) (by omega) ?_
      have e1 : ruN m a (c + 1) = ((ruN m a c).1 + 1, max (ruN m a c).2 ((ruN m a c).1 + 1)) := by
        show rnn _ (c + 1) = _
        rw [rnn, if_pos (by simp; omega)]; rfl
      rw [e1, show (((max (ruN m a c).2 ((ruN m a c).1 + 1) : Nat)) : Int) = max ((ruN m a c).2 : Int) ((ruN m a c).1 + 1) by omega] at ih
      try simp (disch := omega) only [iI_add, iI_sub, iI_mul, iI_neg, iI_n, iI_lt, iI_le, iI_eq, iI_tn, iI_ti, bI_0, bI_1, iI_L, iL_0, Decidable.not_not, Int.toNat_natCast, zpt_at, zpt_ne, pk_us, pk_un, forall_eq, tn_0, tn_1, tn_2, tn_3, tn_4, tn_5, ni_1, ni_2, ni_3, ni_4, ni_5, not_false_eq_true, not_true_eq_false, true_implies, false_implies, and_true, true_and, iL_6, iL_m6, iL_7, iL_8, iL_9, iL_4, iL_m4, iL_m8, li_0, li_1, li_2, li_3, li_4, li_5, li_6, li_7, li_8, li_9, li_10, li_11, li_12, li_13, li_15, li_16, li_18, li_20, li_24, li_31, li_32, li_40, li_46, li_48, li_57, li_59, li_60, li_61, li_63, li_64, li_97, li_99, li_122, li_124, li_150, li_255, li_480, li_488, li_600, li_999, li_1110, li_54]
      exact ih
termination_by cols m - c
theorem s_run (hm : σ.1 26 = m) (hw : WF m) {a : Int} (ha : I32 a) (H0 : (-6 ≤ a ∧ a ≤ 6) → K (iI (ruN m a (cols m)).2) (cd σ 0)) (H1 : ¬ (-6 ≤ a ∧ a ≤ 6) → K (iI 0) (cd σ 1)) : CT g l M_X7_run 0 [.ref (zad g 24), .int (iI a)] σ (zQi K X) := by
  refine b_X7_run (s_isAngle ha (s_goes (fun h => ?_) (fun h => ?_)))
  · try simp (disch := omega) only [iI_add, iI_sub, iI_mul, iI_neg, iI_n, iI_lt, iI_le, iI_eq, iI_tn, iI_ti, bI_0, bI_1, iI_L, iL_0, Decidable.not_not, Int.toNat_natCast, zpt_at, zpt_ne, pk_us, pk_un, forall_eq, tn_0, tn_1, tn_2, tn_3, tn_4, tn_5, ni_1, ni_2, ni_3, ni_4, ni_5, not_false_eq_true, not_true_eq_false, true_implies, false_implies, and_true, true_and, iL_6, iL_m6, iL_7, iL_8, iL_9, iL_4, iL_m4, iL_m8, li_0, li_1, li_2, li_3, li_4, li_5, li_6, li_7, li_8, li_9, li_10, li_11, li_12, li_13, li_15, li_16, li_18, li_20, li_24, li_31, li_32, li_40, li_46, li_48, li_57, li_59, li_60, li_61, li_63, li_64, li_97, li_99, li_122, li_124, li_150, li_255, li_480, li_488, li_600, li_999, li_1110, li_54]
    exact s_columns (cd_m hm 0) hw (s_run_26 (cd_m hm 0) hw h (H0 h) 0 (Nat.zero_le _))
  · try simp (disch := omega) only [iI_add, iI_sub, iI_mul, iI_neg, iI_n, iI_lt, iI_le, iI_eq, iI_tn, iI_ti, bI_0, bI_1, iI_L, iL_0, Decidable.not_not, Int.toNat_natCast, zpt_at, zpt_ne, pk_us, pk_un, forall_eq, tn_0, tn_1, tn_2, tn_3, tn_4, tn_5, ni_1, ni_2, ni_3, ni_4, ni_5, not_false_eq_true, not_true_eq_false, true_implies, false_implies, and_true, true_and, iL_6, iL_m6, iL_7, iL_8, iL_9, iL_4, iL_m4, iL_m8, li_0, li_1, li_2, li_3, li_4, li_5, li_6, li_7, li_8, li_9, li_10, li_11, li_12, li_13, li_15, li_16, li_18, li_20, li_24, li_31, li_32, li_40, li_46, li_48, li_57, li_59, li_60, li_61, li_63, li_64, li_97, li_99, li_122, li_124, li_150, li_255, li_480, li_488, li_600, li_999, li_1110, li_54]
    exact H1 h
noncomputable def spN (m : Nat → Int32) (s : Nat) (n : Nat) : Nat × Nat := rnn (fun j => decide (wN m (-6 + (j : Int)) s = 1)) n
theorem s_span_13 (hm : σ.1 26 = m) (hw : WF m) {s : Nat} (hs : s < 2) (H : K (iI (spN m s 13).2) σ) (j : Nat) (hj : j ≤ 13) : L_X7_span_13 g l K X (iI s) (iI (spN m s j).2) (iI (spN m s j).1) (iI (-6 + (j : Int))) σ := by
  have hwn := wN_le m (-6 + (j : Int)) s
  have hrb : (spN m s j).1 ≤ j ∧ (spN m s j).2 ≤ j := rnn_b _ j
  have ih := fun h => s_span_13 hm hw hs H (j + 1) h
  refine b_X7_span_13 ?_
  try simp (disch := omega) only [iI_add, iI_sub, iI_mul, iI_neg, iI_n, iI_lt, iI_le, iI_eq, iI_tn, iI_ti, bI_0, bI_1, iI_L, iL_0, Decidable.not_not, Int.toNat_natCast, zpt_at, zpt_ne, pk_us, pk_un, forall_eq, tn_0, tn_1, tn_2, tn_3, tn_4, tn_5, ni_1, ni_2, ni_3, ni_4, ni_5, not_false_eq_true, not_true_eq_false, true_implies, false_implies, and_true, true_and, iL_6, iL_m6, iL_7, iL_8, iL_9, iL_4, iL_m4, iL_m8, li_0, li_1, li_2, li_3, li_4, li_5, li_6, li_7, li_8, li_9, li_10, li_11, li_12, li_13, li_15, li_16, li_18, li_20, li_24, li_31, li_32, li_40, li_46, li_48, li_57, li_59, li_60, li_61, li_63, li_64, li_97, li_99, li_122, li_124, li_150, li_255, li_480, li_488, li_600, li_999, li_1110, li_54]
  refine ⟨fun h => ?_, fun h => ?_⟩
  · obtain rfl : j = 13 := by omega
    exact H
  · replace ih := ih (by omega)
    rw [show ((-6 : Int) + ((j + 1 : Nat) : Int)) = -6 + (j : Int) + 1 by omega] at ih
    refine s_truthS hs (s_isWhole hm hw hs (by omega) ?_)
    try simp (disch := omega) only [iI_add, iI_sub, iI_mul, iI_neg, iI_n, iI_lt, iI_le, iI_eq, iI_tn, iI_ti, bI_0, bI_1, iI_L, iL_0, Decidable.not_not, Int.toNat_natCast, zpt_at, zpt_ne, pk_us, pk_un, forall_eq, tn_0, tn_1, tn_2, tn_3, tn_4, tn_5, ni_1, ni_2, ni_3, ni_4, ni_5, not_false_eq_true, not_true_eq_false, true_implies, false_implies, and_true, true_and, iL_6, iL_m6, iL_7, iL_8, iL_9, iL_4, iL_m4, iL_m8, li_0, li_1, li_2, li_3, li_4, li_5, li_6, li_7, li_8, li_9, li_10, li_11, li_12, li_13, li_15, li_16, li_18, li_20, li_24, li_31, li_32, li_40, li_46, li_48, li_57, li_59, li_60, li_61, li_63, li_64, li_97, li_99, li_122, li_124, li_150, li_255, li_480, li_488, li_600, li_999, li_1110, li_54]
    refine ⟨fun h2 => ?_, fun h2 => ?_⟩
    · refine s_greater (by omega) (by omega) (by omega) (by omega) ?_
      have e1 : spN m s (j + 1) = (0, max (spN m s j).2 0) := by
        show rnn _ (j + 1) = _
        rw [rnn, if_neg (by simp; omega)]; rfl
      rw [e1, show (((max (spN m s j).2 0 : Nat)) : Int) = max ((spN m s j).2 : Int) 0 by omega] at ih
      try simp (disch := omega) only [iI_add, iI_sub, iI_mul, iI_neg, iI_n, iI_lt, iI_le, iI_eq, iI_tn, iI_ti, bI_0, bI_1, iI_L, iL_0, Decidable.not_not, Int.toNat_natCast, zpt_at, zpt_ne, pk_us, pk_un, forall_eq, tn_0, tn_1, tn_2, tn_3, tn_4, tn_5, ni_1, ni_2, ni_3, ni_4, ni_5, not_false_eq_true, not_true_eq_false, true_implies, false_implies, and_true, true_and, iL_6, iL_m6, iL_7, iL_8, iL_9, iL_4, iL_m4, iL_m8, li_0, li_1, li_2, li_3, li_4, li_5, li_6, li_7, li_8, li_9, li_10, li_11, li_12, li_13, li_15, li_16, li_18, li_20, li_24, li_31, li_32, li_40, li_46, li_48, li_57, li_59, li_60, li_61, li_63, li_64, li_97, li_99, li_122, li_124, li_150, li_255, li_480, li_488, li_600, li_999, li_1110, li_54]
      exact ih
    · refine s_greater (by omega) (by omega) (by omega) (by omega) ?_
      have e1 : spN m s (j + 1) = ((spN m s j).1 + 1, max (spN m s j).2 ((spN m s j).1 + 1)) := by
        show rnn _ (j + 1) = _
        rw [rnn, if_pos (by simp; omega)]; rfl
      rw [e1, show (((max (spN m s j).2 ((spN m s j).1 + 1) : Nat)) : Int) = max ((spN m s j).2 : Int) ((spN m s j).1 + 1) by omega] at ih
      try simp (disch := omega) only [iI_add, iI_sub, iI_mul, iI_neg, iI_n, iI_lt, iI_le, iI_eq, iI_tn, iI_ti, bI_0, bI_1, iI_L, iL_0, Decidable.not_not, Int.toNat_natCast, zpt_at, zpt_ne, pk_us, pk_un, forall_eq, tn_0, tn_1, tn_2, tn_3, tn_4, tn_5, ni_1, ni_2, ni_3, ni_4, ni_5, not_false_eq_true, not_true_eq_false, true_implies, false_implies, and_true, true_and, iL_6, iL_m6, iL_7, iL_8, iL_9, iL_4, iL_m4, iL_m8, li_0, li_1, li_2, li_3, li_4, li_5, li_6, li_7, li_8, li_9, li_10, li_11, li_12, li_13, li_15, li_16, li_18, li_20, li_24, li_31, li_32, li_40, li_46, li_48, li_57, li_59, li_60, li_61, li_63, li_64, li_97, li_99, li_122, li_124, li_150, li_255, li_480, li_488, li_600, li_999, li_1110, li_54]
      exact ih
termination_by 13 - j
theorem s_span (hm : σ.1 26 = m) (hw : WF m) {s : Nat} (hs : s < 2) (H : K (iI (spN m s 13).2) (cd σ 0)) : CT g l M_X7_span 0 [.ref (zad g 24), .int (iI s)] σ (zQi K X) := by
  refine b_X7_span ?_
  try simp (disch := omega) only [iI_add, iI_sub, iI_mul, iI_neg, iI_n, iI_lt, iI_le, iI_eq, iI_tn, iI_ti, bI_0, bI_1, iI_L, iL_0, Decidable.not_not, Int.toNat_natCast, zpt_at, zpt_ne, pk_us, pk_un, forall_eq, tn_0, tn_1, tn_2, tn_3, tn_4, tn_5, ni_1, ni_2, ni_3, ni_4, ni_5, not_false_eq_true, not_true_eq_false, true_implies, false_implies, and_true, true_and, iL_6, iL_m6, iL_7, iL_8, iL_9, iL_4, iL_m4, iL_m8, li_0, li_1, li_2, li_3, li_4, li_5, li_6, li_7, li_8, li_9, li_10, li_11, li_12, li_13, li_15, li_16, li_18, li_20, li_24, li_31, li_32, li_40, li_46, li_48, li_57, li_59, li_60, li_61, li_63, li_64, li_97, li_99, li_122, li_124, li_150, li_255, li_480, li_488, li_600, li_999, li_1110, li_54]
  exact s_span_13 (cd_m hm 0) hw hs H 0 (by omega)
theorem s_wrongIn_14 (hm : σ.1 26 = m) (hw : WF m) {k s : Nat} (hk : k < nS m) (hs : s < 2) {a : Int} (ha : -6 ≤ a ∧ a ≤ 6) (H : K (iI (wrongN m k a s)) σ) (j : Nat) (hj : j ≤ wd m k) : L_X7_wrongIn_14 g l K X (iI k) (iI a) (iI s) (iI (fb_sm (fun j => fb_ct (fun r => decide (whyN m a s (fst m k + j) r ≠ 0)) (nH m)) j)) (iI (fst m k)) (iI (fst m k + j : Nat)) σ := by
  have hb := wf_b hw
  have hcl := cols_le hw
  have hsl := wf_s hw hk
  have hfl := fst_le hw (k := k) (by omega)
  have inner : ∀ n r, r + n = nH m → j < wd m k → L_X7_wrongIn_31 g l K X (iI k) (iI a) (iI s) (iI (fb_sm (fun j => fb_ct (fun r => decide (whyN m a s (fst m k + j) r ≠ 0)) (nH m)) j + fb_ct (fun r => decide (whyN m a s (fst m k + j) r ≠ 0)) r : Nat)) (iI (fst m k)) (iI (fst m k + j : Nat)) (iI r) σ := fun n => by
    induction n with
    | zero =>
      intro r e h
      refine b_X7_wrongIn_31 ?_
      rw [show (Int32.toNatClampNeg 0) = 0 from rfl, hm, wf_0 hw]
      try simp (disch := omega) only [iI_add, iI_sub, iI_mul, iI_neg, iI_n, iI_lt, iI_le, iI_eq, iI_tn, iI_ti, bI_0, bI_1, iI_L, iL_0, Decidable.not_not, Int.toNat_natCast, zpt_at, zpt_ne, pk_us, pk_un, forall_eq, tn_0, tn_1, tn_2, tn_3, tn_4, tn_5, ni_1, ni_2, ni_3, ni_4, ni_5, not_false_eq_true, not_true_eq_false, true_implies, false_implies, and_true, true_and, iL_6, iL_m6, iL_7, iL_8, iL_9, iL_4, iL_m4, iL_m8, li_0, li_1, li_2, li_3, li_4, li_5, li_6, li_7, li_8, li_9, li_10, li_11, li_12, li_13, li_15, li_16, li_18, li_20, li_24, li_31, li_32, li_40, li_46, li_48, li_57, li_59, li_60, li_61, li_63, li_64, li_97, li_99, li_122, li_124, li_150, li_255, li_480, li_488, li_600, li_999, li_1110, li_54]
      refine ⟨fun _ => ?_, fun h => by omega⟩
      obtain rfl : r = nH m := by omega
      exact s_wrongIn_14 hm hw hk hs ha H (j + 1) h
    | succ n ih =>
      intro r e h
      have hcc := fst_col hw hk h
      refine b_X7_wrongIn_31 ?_
      rw [show (Int32.toNatClampNeg 0) = 0 from rfl, hm, wf_0 hw]
      have hwl := why_le m a s (fst m k + j) r
      try simp (disch := omega) only [iI_add, iI_sub, iI_mul, iI_neg, iI_n, iI_lt, iI_le, iI_eq, iI_tn, iI_ti, bI_0, bI_1, iI_L, iL_0, Decidable.not_not, Int.toNat_natCast, zpt_at, zpt_ne, pk_us, pk_un, forall_eq, tn_0, tn_1, tn_2, tn_3, tn_4, tn_5, ni_1, ni_2, ni_3, ni_4, ni_5, not_false_eq_true, not_true_eq_false, true_implies, false_implies, and_true, true_and, iL_6, iL_m6, iL_7, iL_8, iL_9, iL_4, iL_m4, iL_m8, li_0, li_1, li_2, li_3, li_4, li_5, li_6, li_7, li_8, li_9, li_10, li_11, li_12, li_13, li_15, li_16, li_18, li_20, li_24, li_31, li_32, li_40, li_46, li_48, li_57, li_59, li_60, li_61, li_63, li_64, li_97, li_99, li_122, li_124, li_150, li_255, li_480, li_488, li_600, li_999, li_1110, li_54]
      refine ⟨fun h => by omega, fun _ => ?_⟩
      refine s_whyNot hm hw hs hcc (by omega) ha ?_
      have ih := ih (r + 1) (by omega) h
      rw [fb_ct_succ] at ih
      try simp (disch := omega) only [iI_add, iI_sub, iI_mul, iI_neg, iI_n, iI_lt, iI_le, iI_eq, iI_tn, iI_ti, bI_0, bI_1, iI_L, iL_0, Decidable.not_not, Int.toNat_natCast, zpt_at, zpt_ne, pk_us, pk_un, forall_eq, tn_0, tn_1, tn_2, tn_3, tn_4, tn_5, ni_1, ni_2, ni_3, ni_4, ni_5, not_false_eq_true, not_true_eq_false, true_implies, false_implies, and_true, true_and, iL_6, iL_m6, iL_7, iL_8, iL_9, iL_4, iL_m4, iL_m8, li_0, li_1, li_2, li_3, li_4, li_5, li_6, li_7, li_8, li_9, li_10, li_11, li_12, li_13, li_15, li_16, li_18, li_20, li_24, li_31, li_32, li_40, li_46, li_48, li_57, li_59, li_60, li_61, li_63, li_64, li_97, li_99, li_122, li_124, li_150, li_255, li_480, li_488, li_600, li_999, li_1110, li_54]
      refine ⟨fun h2 => s_truth0 ?_, fun h2 => s_truth1 ?_⟩
      · try simp (disch := omega) only [iI_add, iI_sub, iI_mul, iI_neg, iI_n, iI_lt, iI_le, iI_eq, iI_tn, iI_ti, bI_0, bI_1, iI_L, iL_0, Decidable.not_not, Int.toNat_natCast, zpt_at, zpt_ne, pk_us, pk_un, forall_eq, tn_0, tn_1, tn_2, tn_3, tn_4, tn_5, ni_1, ni_2, ni_3, ni_4, ni_5, not_false_eq_true, not_true_eq_false, true_implies, false_implies, and_true, true_and, iL_6, iL_m6, iL_7, iL_8, iL_9, iL_4, iL_m4, iL_m8, li_0, li_1, li_2, li_3, li_4, li_5, li_6, li_7, li_8, li_9, li_10, li_11, li_12, li_13, li_15, li_16, li_18, li_20, li_24, li_31, li_32, li_40, li_46, li_48, li_57, li_59, li_60, li_61, li_63, li_64, li_97, li_99, li_122, li_124, li_150, li_255, li_480, li_488, li_600, li_999, li_1110, li_54]
        rw [if_neg (by simp; omega)] at ih
        exact ih
      · try simp (disch := omega) only [iI_add, iI_sub, iI_mul, iI_neg, iI_n, iI_lt, iI_le, iI_eq, iI_tn, iI_ti, bI_0, bI_1, iI_L, iL_0, Decidable.not_not, Int.toNat_natCast, zpt_at, zpt_ne, pk_us, pk_un, forall_eq, tn_0, tn_1, tn_2, tn_3, tn_4, tn_5, ni_1, ni_2, ni_3, ni_4, ni_5, not_false_eq_true, not_true_eq_false, true_implies, false_implies, and_true, true_and, iL_6, iL_m6, iL_7, iL_8, iL_9, iL_4, iL_m4, iL_m8, li_0, li_1, li_2, li_3, li_4, li_5, li_6, li_7, li_8, li_9, li_10, li_11, li_12, li_13, li_15, li_16, li_18, li_20, li_24, li_31, li_32, li_40, li_46, li_48, li_57, li_59, li_60, li_61, li_63, li_64, li_97, li_99, li_122, li_124, li_150, li_255, li_480, li_488, li_600, li_999, li_1110, li_54]
        rw [if_pos (by simp; omega)] at ih
        exact ih
  refine b_X7_wrongIn_14 (s_ofW hm hw hk ?_)
  try simp (disch := omega) only [iI_add, iI_sub, iI_mul, iI_neg, iI_n, iI_lt, iI_le, iI_eq, iI_tn, iI_ti, bI_0, bI_1, iI_L, iL_0, Decidable.not_not, Int.toNat_natCast, zpt_at, zpt_ne, pk_us, pk_un, forall_eq, tn_0, tn_1, tn_2, tn_3, tn_4, tn_5, ni_1, ni_2, ni_3, ni_4, ni_5, not_false_eq_true, not_true_eq_false, true_implies, false_implies, and_true, true_and, iL_6, iL_m6, iL_7, iL_8, iL_9, iL_4, iL_m4, iL_m8, li_0, li_1, li_2, li_3, li_4, li_5, li_6, li_7, li_8, li_9, li_10, li_11, li_12, li_13, li_15, li_16, li_18, li_20, li_24, li_31, li_32, li_40, li_46, li_48, li_57, li_59, li_60, li_61, li_63, li_64, li_97, li_99, li_122, li_124, li_150, li_255, li_480, li_488, li_600, li_999, li_1110, li_54]
  refine ⟨fun h => ?_, fun h => inner (nH m) 0 (by omega) (by omega)⟩
  obtain rfl : j = wd m k := by omega
  exact H
termination_by wd m k - j
theorem s_wrongIn (hm : σ.1 26 = m) (hw : WF m) {k s : Nat} (hk : k < nS m) (hs : s < 2) {a : Int} (ha : -6 ≤ a ∧ a ≤ 6) (H : K (iI (wrongN m k a s)) σ) : CT g l M_X7_wrongIn 0 [.ref (zad g 24), .int (iI k), .int (iI a), .int (iI s)] σ (zQi K X) :=
  b_X7_wrongIn (s_firstOf hm hw (by omega) (s_wrongIn_14 hm hw hk hs ha H 0 (Nat.zero_le _)))
theorem wrongN_le (hw : WF m) {k : Nat} (hk : k < nS m) (a : Int) (s : Nat) : wrongN m k a s ≤ 48 := by
  have h1 := fb_sm_bound (f := fun j => fb_ct (fun r => decide (whyN m a s (fst m k + j) r ≠ 0)) (nH m)) (c := nH m) (n := wd m k) (fun k _ => fb_ct_le _ _)
  have h2 := wf_s hw hk
  have h3 := wf_b hw
  have h4 : wd m k * nH m ≤ 6 * 8 := Nat.mul_le_mul h2.2.1 h3.2.1
  exact Nat.le_trans h1 h4
noncomputable def woN (m : Nat → Int32) (a : Int) (s n : Nat) : Int × Int := bst (fun k => (wrongN m k a s : Int)) (fun k => (k : Int)) (-1) 0 n
theorem woN_b (hw : WF m) (a : Int) (s : Nat) {n : Nat} (hn : n ≤ nS m) : 0 ≤ (woN m a s n).2 ∧ (woN m a s n).2 ≤ 480 :=
  bst_b (by omega) (fun k hk => by have := wrongN_le hw (k := k) (by omega) a s; omega)
theorem s_worstSlat_21 (hm : σ.1 26 = m) (hw : WF m) {s : Nat} (hs : s < 2) {a : Int} (ha : -6 ≤ a ∧ a ≤ 6) (H : K (iI (woN m a s (nS m)).1) σ) (k : Nat) (hk : k ≤ nS m) : L_X7_worstSlat_21 g l K X (iI a) (iI s) (iI (woN m a s k).1) (iI (woN m a s k).2) (iI k) σ := by
  have hb := wf_b hw
  have hbb := woN_b hw a s hk
  have ih := fun h => s_worstSlat_21 hm hw hs ha H (k + 1) h
  refine b_X7_worstSlat_21 ?_
  rw [show (Int32.toNatClampNeg 1) = 1 from rfl, hm, wf_1 hw]
  try simp (disch := omega) only [iI_add, iI_sub, iI_mul, iI_neg, iI_n, iI_lt, iI_le, iI_eq, iI_tn, iI_ti, bI_0, bI_1, iI_L, iL_0, Decidable.not_not, Int.toNat_natCast, zpt_at, zpt_ne, pk_us, pk_un, forall_eq, tn_0, tn_1, tn_2, tn_3, tn_4, tn_5, ni_1, ni_2, ni_3, ni_4, ni_5, not_false_eq_true, not_true_eq_false, true_implies, false_implies, and_true, true_and, iL_6, iL_m6, iL_7, iL_8, iL_9, iL_4, iL_m4, iL_m8, li_0, li_1, li_2, li_3, li_4, li_5, li_6, li_7, li_8, li_9, li_10, li_11, li_12, li_13, li_15, li_16, li_18, li_20, li_24, li_31, li_32, li_40, li_46, li_48, li_57, li_59, li_60, li_61, li_63, li_64, li_97, li_99, li_122, li_124, li_150, li_255, li_480, li_488, li_600, li_999, li_1110, li_54]
  refine ⟨fun h => ?_, fun h => ?_⟩
  · obtain rfl : k = nS m := by omega
    exact H
  · have hwl := wrongN_le hw (k := k) (by omega) a s
    replace ih := ih (by omega)
    refine s_truthS hs (s_wrongIn hm hw (by omega) hs ha ?_)
    try simp (disch := omega) only [iI_add, iI_sub, iI_mul, iI_neg, iI_n, iI_lt, iI_le, iI_eq, iI_tn, iI_ti, bI_0, bI_1, iI_L, iL_0, Decidable.not_not, Int.toNat_natCast, zpt_at, zpt_ne, pk_us, pk_un, forall_eq, tn_0, tn_1, tn_2, tn_3, tn_4, tn_5, ni_1, ni_2, ni_3, ni_4, ni_5, not_false_eq_true, not_true_eq_false, true_implies, false_implies, and_true, true_and, iL_6, iL_m6, iL_7, iL_8, iL_9, iL_4, iL_m4, iL_m8, li_0, li_1, li_2, li_3, li_4, li_5, li_6, li_7, li_8, li_9, li_10, li_11, li_12, li_13, li_15, li_16, li_18, li_20, li_24, li_31, li_32, li_40, li_46, li_48, li_57, li_59, li_60, li_61, li_63, li_64, li_97, li_99, li_122, li_124, li_150, li_255, li_480, li_488, li_600, li_999, li_1110, li_54]
    refine ⟨fun h2 => ?_, fun h2 => ?_⟩
    · rw [show woN m a s (k + 1) = _ from bst_y h2] at ih
      exact ih
    · rw [show woN m a s (k + 1) = _ from bst_n h2] at ih
      exact ih
termination_by nS m - k
theorem s_worstSlat (hm : σ.1 26 = m) (hw : WF m) {s : Nat} (hs : s < 2) {a : Int} (ha : I32 a) (H0 : (-6 ≤ a ∧ a ≤ 6) → K (iI (woN m a s (nS m)).1) (cd σ 0)) (H1 : ¬ (-6 ≤ a ∧ a ≤ 6) → K (iI 0) (cd σ 1)) : CT g l M_X7_worstSlat 0 [.ref (zad g 24), .int (iI a), .int (iI s)] σ (zQi K X) := by
  refine b_X7_worstSlat (s_isAngle ha (s_goes (fun h => ?_) (fun h => ?_)))
  · try simp (disch := omega) only [iI_add, iI_sub, iI_mul, iI_neg, iI_n, iI_lt, iI_le, iI_eq, iI_tn, iI_ti, bI_0, bI_1, iI_L, iL_0, Decidable.not_not, Int.toNat_natCast, zpt_at, zpt_ne, pk_us, pk_un, forall_eq, tn_0, tn_1, tn_2, tn_3, tn_4, tn_5, ni_1, ni_2, ni_3, ni_4, ni_5, not_false_eq_true, not_true_eq_false, true_implies, false_implies, and_true, true_and, iL_6, iL_m6, iL_7, iL_8, iL_9, iL_4, iL_m4, iL_m8, li_0, li_1, li_2, li_3, li_4, li_5, li_6, li_7, li_8, li_9, li_10, li_11, li_12, li_13, li_15, li_16, li_18, li_20, li_24, li_31, li_32, li_40, li_46, li_48, li_57, li_59, li_60, li_61, li_63, li_64, li_97, li_99, li_122, li_124, li_150, li_255, li_480, li_488, li_600, li_999, li_1110, li_54]
    exact s_worstSlat_21 (cd_m hm 0) hw hs h (H0 h) 0 (Nat.zero_le _)
  · try simp (disch := omega) only [iI_add, iI_sub, iI_mul, iI_neg, iI_n, iI_lt, iI_le, iI_eq, iI_tn, iI_ti, bI_0, bI_1, iI_L, iL_0, Decidable.not_not, Int.toNat_natCast, zpt_at, zpt_ne, pk_us, pk_un, forall_eq, tn_0, tn_1, tn_2, tn_3, tn_4, tn_5, ni_1, ni_2, ni_3, ni_4, ni_5, not_false_eq_true, not_true_eq_false, true_implies, false_implies, and_true, true_and, iL_6, iL_m6, iL_7, iL_8, iL_9, iL_4, iL_m4, iL_m8, li_0, li_1, li_2, li_3, li_4, li_5, li_6, li_7, li_8, li_9, li_10, li_11, li_12, li_13, li_15, li_16, li_18, li_20, li_24, li_31, li_32, li_40, li_46, li_48, li_57, li_59, li_60, li_61, li_63, li_64, li_97, li_99, li_122, li_124, li_150, li_255, li_480, li_488, li_600, li_999, li_1110, li_54]
    exact H1 h
theorem s_isGhost (hm : σ.1 26 = m) (hw : WF m) {s c r : Nat} (hs : s < 2) (hc : c < cols m) (hr : r < 8) {a : Int} (ha : -6 ≤ a ∧ a ≤ 6) (H : K (bI (cS m a c r ≠ pic m s c r ∧ cS m a c r = pic m (1 - s) c r)) σ) : CT g l M_X7_isGhost 0 [.ref (zad g 24), .int (iI a), .int (iI s), .int (iI c), .int (iI r)] σ (zQi K X) := by
  have hcl := cols_le hw
  have hp0 := pic_le hw s c r
  have hp1 := pic_le hw (1 - s) c r
  have hsd := sdS_lt m a c
  have hfl : cS m a c r ≤ 9 := wf_f9 hw hsd (c := c) (r := r) (by omega) hr
  refine b_X7_isGhost (s_colourSeen hm hw hc hr ha (s_pictureAt hm hw hs (by omega) hr ?_))
  try simp (disch := omega) only [iI_add, iI_sub, iI_mul, iI_neg, iI_n, iI_lt, iI_le, iI_eq, iI_tn, iI_ti, bI_0, bI_1, iI_L, iL_0, Decidable.not_not, Int.toNat_natCast, zpt_at, zpt_ne, pk_us, pk_un, forall_eq, tn_0, tn_1, tn_2, tn_3, tn_4, tn_5, ni_1, ni_2, ni_3, ni_4, ni_5, not_false_eq_true, not_true_eq_false, true_implies, false_implies, and_true, true_and, iL_6, iL_m6, iL_7, iL_8, iL_9, iL_4, iL_m4, iL_m8, li_0, li_1, li_2, li_3, li_4, li_5, li_6, li_7, li_8, li_9, li_10, li_11, li_12, li_13, li_15, li_16, li_18, li_20, li_24, li_31, li_32, li_40, li_46, li_48, li_57, li_59, li_60, li_61, li_63, li_64, li_97, li_99, li_122, li_124, li_150, li_255, li_480, li_488, li_600, li_999, li_1110, li_54]
  refine ⟨fun h => ?_, fun h => ?_⟩
  · rw [bI_F (by omega)] at H; exact H
  · rw [show (1 - (s : Int)) = ((1 - s : Nat) : Int) by omega]
    refine s_pictureAt (s := 1 - s) hm hw (by omega) (by omega) hr ?_
    try simp (disch := omega) only [iI_add, iI_sub, iI_mul, iI_neg, iI_n, iI_lt, iI_le, iI_eq, iI_tn, iI_ti, bI_0, bI_1, iI_L, iL_0, Decidable.not_not, Int.toNat_natCast, zpt_at, zpt_ne, pk_us, pk_un, forall_eq, tn_0, tn_1, tn_2, tn_3, tn_4, tn_5, ni_1, ni_2, ni_3, ni_4, ni_5, not_false_eq_true, not_true_eq_false, true_implies, false_implies, and_true, true_and, iL_6, iL_m6, iL_7, iL_8, iL_9, iL_4, iL_m4, iL_m8, li_0, li_1, li_2, li_3, li_4, li_5, li_6, li_7, li_8, li_9, li_10, li_11, li_12, li_13, li_15, li_16, li_18, li_20, li_24, li_31, li_32, li_40, li_46, li_48, li_57, li_59, li_60, li_61, li_63, li_64, li_97, li_99, li_122, li_124, li_150, li_255, li_480, li_488, li_600, li_999, li_1110, li_54]
    refine ⟨fun h' => ?_, fun h' => ?_⟩
    · rw [bI_F (by omega)] at H; exact H
    · rw [bI_T (by omega)] at H; exact H
noncomputable def ghC (m : Nat → Int32) (a : Int) (s c : Nat) : Nat := if stt m a c ≠ 0 then 0 else fb_ct (fun r => decide (cS m a c r ≠ pic m s c r ∧ cS m a c r = pic m (1 - s) c r)) (nH m)
theorem s_ghosts_24 (hm : σ.1 26 = m) (hw : WF m) {s : Nat} (hs : s < 2) {a : Int} (ha : -6 ≤ a ∧ a ≤ 6) (H : K (iI (fb_sm (ghC m a s) (cols m))) σ) (c : Nat) (hc : c ≤ cols m) : L_X7_ghosts_24 g l K X (iI a) (iI s) (iI (fb_sm (ghC m a s) c)) (iI (cols m)) (iI c) σ := by
  have hb := wf_b hw
  have hcl := cols_le hw
  have hst := stt_le m a c
  have inner : ∀ n r, r + n = nH m → c < cols m → stt m a c = 0 → L_X7_ghosts_47 g l K X (iI a) (iI s) (iI (fb_sm (ghC m a s) c + fb_ct (fun r => decide (cS m a c r ≠ pic m s c r ∧ cS m a c r = pic m (1 - s) c r)) r : Nat)) (iI (cols m)) (iI c) (iI r) σ := fun n => by
    induction n with
    | zero =>
      intro r e h h0
      refine b_X7_ghosts_47 ?_
      rw [show (Int32.toNatClampNeg 0) = 0 from rfl, hm, wf_0 hw]
      try simp (disch := omega) only [iI_add, iI_sub, iI_mul, iI_neg, iI_n, iI_lt, iI_le, iI_eq, iI_tn, iI_ti, bI_0, bI_1, iI_L, iL_0, Decidable.not_not, Int.toNat_natCast, zpt_at, zpt_ne, pk_us, pk_un, forall_eq, tn_0, tn_1, tn_2, tn_3, tn_4, tn_5, ni_1, ni_2, ni_3, ni_4, ni_5, not_false_eq_true, not_true_eq_false, true_implies, false_implies, and_true, true_and, iL_6, iL_m6, iL_7, iL_8, iL_9, iL_4, iL_m4, iL_m8, li_0, li_1, li_2, li_3, li_4, li_5, li_6, li_7, li_8, li_9, li_10, li_11, li_12, li_13, li_15, li_16, li_18, li_20, li_24, li_31, li_32, li_40, li_46, li_48, li_57, li_59, li_60, li_61, li_63, li_64, li_97, li_99, li_122, li_124, li_150, li_255, li_480, li_488, li_600, li_999, li_1110, li_54]
      refine ⟨fun _ => ?_, fun h => by omega⟩
      obtain rfl : r = nH m := by omega
      have := s_ghosts_24 hm hw hs ha H (c + 1) h
      rw [fb_sm_succ, show ghC m a s c = _ from if_neg (by omega)] at this
      exact this
    | succ n ih =>
      intro r e h h0
      refine b_X7_ghosts_47 ?_
      rw [show (Int32.toNatClampNeg 0) = 0 from rfl, hm, wf_0 hw]
      try simp (disch := omega) only [iI_add, iI_sub, iI_mul, iI_neg, iI_n, iI_lt, iI_le, iI_eq, iI_tn, iI_ti, bI_0, bI_1, iI_L, iL_0, Decidable.not_not, Int.toNat_natCast, zpt_at, zpt_ne, pk_us, pk_un, forall_eq, tn_0, tn_1, tn_2, tn_3, tn_4, tn_5, ni_1, ni_2, ni_3, ni_4, ni_5, not_false_eq_true, not_true_eq_false, true_implies, false_implies, and_true, true_and, iL_6, iL_m6, iL_7, iL_8, iL_9, iL_4, iL_m4, iL_m8, li_0, li_1, li_2, li_3, li_4, li_5, li_6, li_7, li_8, li_9, li_10, li_11, li_12, li_13, li_15, li_16, li_18, li_20, li_24, li_31, li_32, li_40, li_46, li_48, li_57, li_59, li_60, li_61, li_63, li_64, li_97, li_99, li_122, li_124, li_150, li_255, li_480, li_488, li_600, li_999, li_1110, li_54]
      refine ⟨fun h => by omega, fun _ => ?_⟩
      refine s_truthS hs (s_isGhost hm hw hs h (by omega) ha (s_truth ?_))
      have ih := ih (r + 1) (by omega) h h0
      rw [fb_ct_succ] at ih
      by_cases q : cS m a c r ≠ pic m s c r ∧ cS m a c r = pic m (1 - s) c r
      · rw [bI_T q]
        rw [if_pos (decide_eq_true q)] at ih
        try simp (disch := omega) only [iI_add, iI_sub, iI_mul, iI_neg, iI_n, iI_lt, iI_le, iI_eq, iI_tn, iI_ti, bI_0, bI_1, iI_L, iL_0, Decidable.not_not, Int.toNat_natCast, zpt_at, zpt_ne, pk_us, pk_un, forall_eq, tn_0, tn_1, tn_2, tn_3, tn_4, tn_5, ni_1, ni_2, ni_3, ni_4, ni_5, not_false_eq_true, not_true_eq_false, true_implies, false_implies, and_true, true_and, iL_6, iL_m6, iL_7, iL_8, iL_9, iL_4, iL_m4, iL_m8, li_0, li_1, li_2, li_3, li_4, li_5, li_6, li_7, li_8, li_9, li_10, li_11, li_12, li_13, li_15, li_16, li_18, li_20, li_24, li_31, li_32, li_40, li_46, li_48, li_57, li_59, li_60, li_61, li_63, li_64, li_97, li_99, li_122, li_124, li_150, li_255, li_480, li_488, li_600, li_999, li_1110, li_54]
        exact ih
      · rw [bI_F q]
        rw [if_neg (fun x => q (of_decide_eq_true x))] at ih
        try simp (disch := omega) only [iI_add, iI_sub, iI_mul, iI_neg, iI_n, iI_lt, iI_le, iI_eq, iI_tn, iI_ti, bI_0, bI_1, iI_L, iL_0, Decidable.not_not, Int.toNat_natCast, zpt_at, zpt_ne, pk_us, pk_un, forall_eq, tn_0, tn_1, tn_2, tn_3, tn_4, tn_5, ni_1, ni_2, ni_3, ni_4, ni_5, not_false_eq_true, not_true_eq_false, true_implies, false_implies, and_true, true_and, iL_6, iL_m6, iL_7, iL_8, iL_9, iL_4, iL_m4, iL_m8, li_0, li_1, li_2, li_3, li_4, li_5, li_6, li_7, li_8, li_9, li_10, li_11, li_12, li_13, li_15, li_16, li_18, li_20, li_24, li_31, li_32, li_40, li_46, li_48, li_57, li_59, li_60, li_61, li_63, li_64, li_97, li_99, li_122, li_124, li_150, li_255, li_480, li_488, li_600, li_999, li_1110, li_54]
        exact ih
  refine b_X7_ghosts_24 ?_
  try simp (disch := omega) only [iI_add, iI_sub, iI_mul, iI_neg, iI_n, iI_lt, iI_le, iI_eq, iI_tn, iI_ti, bI_0, bI_1, iI_L, iL_0, Decidable.not_not, Int.toNat_natCast, zpt_at, zpt_ne, pk_us, pk_un, forall_eq, tn_0, tn_1, tn_2, tn_3, tn_4, tn_5, ni_1, ni_2, ni_3, ni_4, ni_5, not_false_eq_true, not_true_eq_false, true_implies, false_implies, and_true, true_and, iL_6, iL_m6, iL_7, iL_8, iL_9, iL_4, iL_m4, iL_m8, li_0, li_1, li_2, li_3, li_4, li_5, li_6, li_7, li_8, li_9, li_10, li_11, li_12, li_13, li_15, li_16, li_18, li_20, li_24, li_31, li_32, li_40, li_46, li_48, li_57, li_59, li_60, li_61, li_63, li_64, li_97, li_99, li_122, li_124, li_150, li_255, li_480, li_488, li_600, li_999, li_1110, li_54]
  refine ⟨fun h => ?_, fun h => s_stateOf hm hw (by omega) ha ?_⟩
  · obtain rfl : c = cols m := by omega
    exact H
  · try simp (disch := omega) only [iI_add, iI_sub, iI_mul, iI_neg, iI_n, iI_lt, iI_le, iI_eq, iI_tn, iI_ti, bI_0, bI_1, iI_L, iL_0, Decidable.not_not, Int.toNat_natCast, zpt_at, zpt_ne, pk_us, pk_un, forall_eq, tn_0, tn_1, tn_2, tn_3, tn_4, tn_5, ni_1, ni_2, ni_3, ni_4, ni_5, not_false_eq_true, not_true_eq_false, true_implies, false_implies, and_true, true_and, iL_6, iL_m6, iL_7, iL_8, iL_9, iL_4, iL_m4, iL_m8, li_0, li_1, li_2, li_3, li_4, li_5, li_6, li_7, li_8, li_9, li_10, li_11, li_12, li_13, li_15, li_16, li_18, li_20, li_24, li_31, li_32, li_40, li_46, li_48, li_57, li_59, li_60, li_61, li_63, li_64, li_97, li_99, li_122, li_124, li_150, li_255, li_480, li_488, li_600, li_999, li_1110, li_54]
    refine ⟨fun h2 => inner (nH m) 0 (by omega) (by omega) (by omega), fun h2 => ?_⟩
    have := s_ghosts_24 hm hw hs ha H (c + 1) (by omega)
    rw [fb_sm_succ, show ghC m a s c = _ from if_pos (by omega)] at this
    exact this
termination_by cols m - c
theorem s_ghosts (hm : σ.1 26 = m) (hw : WF m) {s : Nat} (hs : s < 2) {a : Int} (ha : I32 a) (H0 : (-6 ≤ a ∧ a ≤ 6) → K (iI (fb_sm (ghC m a s) (cols m))) (cd σ 0)) (H1 : ¬ (-6 ≤ a ∧ a ≤ 6) → K (iI 0) (cd σ 1)) : CT g l M_X7_ghosts 0 [.ref (zad g 24), .int (iI a), .int (iI s)] σ (zQi K X) := by
  refine b_X7_ghosts (s_isAngle ha (s_goes (fun h => ?_) (fun h => ?_)))
  · try simp (disch := omega) only [iI_add, iI_sub, iI_mul, iI_neg, iI_n, iI_lt, iI_le, iI_eq, iI_tn, iI_ti, bI_0, bI_1, iI_L, iL_0, Decidable.not_not, Int.toNat_natCast, zpt_at, zpt_ne, pk_us, pk_un, forall_eq, tn_0, tn_1, tn_2, tn_3, tn_4, tn_5, ni_1, ni_2, ni_3, ni_4, ni_5, not_false_eq_true, not_true_eq_false, true_implies, false_implies, and_true, true_and, iL_6, iL_m6, iL_7, iL_8, iL_9, iL_4, iL_m4, iL_m8, li_0, li_1, li_2, li_3, li_4, li_5, li_6, li_7, li_8, li_9, li_10, li_11, li_12, li_13, li_15, li_16, li_18, li_20, li_24, li_31, li_32, li_40, li_46, li_48, li_57, li_59, li_60, li_61, li_63, li_64, li_97, li_99, li_122, li_124, li_150, li_255, li_480, li_488, li_600, li_999, li_1110, li_54]
    exact s_columns (cd_m hm 0) hw (s_ghosts_24 (cd_m hm 0) hw hs h (H0 h) 0 (Nat.zero_le _))
  · try simp (disch := omega) only [iI_add, iI_sub, iI_mul, iI_neg, iI_n, iI_lt, iI_le, iI_eq, iI_tn, iI_ti, bI_0, bI_1, iI_L, iL_0, Decidable.not_not, Int.toNat_natCast, zpt_at, zpt_ne, pk_us, pk_un, forall_eq, tn_0, tn_1, tn_2, tn_3, tn_4, tn_5, ni_1, ni_2, ni_3, ni_4, ni_5, not_false_eq_true, not_true_eq_false, true_implies, false_implies, and_true, true_and, iL_6, iL_m6, iL_7, iL_8, iL_9, iL_4, iL_m4, iL_m8, li_0, li_1, li_2, li_3, li_4, li_5, li_6, li_7, li_8, li_9, li_10, li_11, li_12, li_13, li_15, li_16, li_18, li_20, li_24, li_31, li_32, li_40, li_46, li_48, li_57, li_59, li_60, li_61, li_63, li_64, li_97, li_99, li_122, li_124, li_150, li_255, li_480, li_488, li_600, li_999, li_1110, li_54]
    exact H1 h
theorem s_bearsMore (hm : σ.1 26 = m) (hw : WF m) {k s : Nat} (hk : k < nS m) (hs : s < 2) (H : K (bI (ct m k s < nC m)) σ) : CT g l M_X7_bearsMore 0 [.ref (zad g 24), .int (iI k), .int (iI s)] σ (zQi K X) := by
  have hb := wf_b hw
  have hsl := wf_s hw hk
  have hcs : ct m k s ≤ 99 := by
    match s, hs with
    | 0, _ => exact hsl.2.2.2.2.2.1
    | 1, _ => exact hsl.2.2.2.2.2.2
  refine b_X7_bearsMore ?_
  rw [show (Int32.toNatClampNeg 2) = 2 from rfl]
  try simp (disch := omega) only [iI_add, iI_sub, iI_mul, iI_neg, iI_n, iI_lt, iI_le, iI_eq, iI_tn, iI_ti, bI_0, bI_1, iI_L, iL_0, Decidable.not_not, Int.toNat_natCast, zpt_at, zpt_ne, pk_us, pk_un, forall_eq, tn_0, tn_1, tn_2, tn_3, tn_4, tn_5, ni_1, ni_2, ni_3, ni_4, ni_5, not_false_eq_true, not_true_eq_false, true_implies, false_implies, and_true, true_and, iL_6, iL_m6, iL_7, iL_8, iL_9, iL_4, iL_m4, iL_m8, li_0, li_1, li_2, li_3, li_4, li_5, li_6, li_7, li_8, li_9, li_10, li_11, li_12, li_13, li_15, li_16, li_18, li_20, li_24, li_31, li_32, li_40, li_46, li_48, li_57, li_59, li_60, li_61, li_63, li_64, li_97, li_99, li_122, li_124, li_150, li_255, li_480, li_488, li_600, li_999, li_1110, li_54]
  refine s_ofC hm hw hk hs ?_
  rw [hm, wf_2 hw]
  try simp (disch := omega) only [iI_add, iI_sub, iI_mul, iI_neg, iI_n, iI_lt, iI_le, iI_eq, iI_tn, iI_ti, bI_0, bI_1, iI_L, iL_0, Decidable.not_not, Int.toNat_natCast, zpt_at, zpt_ne, pk_us, pk_un, forall_eq, tn_0, tn_1, tn_2, tn_3, tn_4, tn_5, ni_1, ni_2, ni_3, ni_4, ni_5, not_false_eq_true, not_true_eq_false, true_implies, false_implies, and_true, true_and, iL_6, iL_m6, iL_7, iL_8, iL_9, iL_4, iL_m4, iL_m8, li_0, li_1, li_2, li_3, li_4, li_5, li_6, li_7, li_8, li_9, li_10, li_11, li_12, li_13, li_15, li_16, li_18, li_20, li_24, li_31, li_32, li_40, li_46, li_48, li_57, li_59, li_60, li_61, li_63, li_64, li_97, li_99, li_122, li_124, li_150, li_255, li_480, li_488, li_600, li_999, li_1110, li_54]
  refine ⟨fun h => ?_, fun h => ?_⟩
  · rw [bI_F (by omega)] at H; exact H
  · rw [bI_T (by omega)] at H; exact H
theorem unl_le (hw : WF m) {k : Nat} (hk : k < nS m) (s : Nat) : unl m k s ≤ 48 := by
  have h1 := fb_sm_bound (f := fun j => fb_ct (fun r => decide (fc m s (fst m k + j) r ≠ pic m s (fst m k + j) r)) (nH m)) (c := nH m) (n := wd m k) (fun k _ => fb_ct_le _ _)
  have h2 := wf_s hw hk
  have h3 := wf_b hw
  have h4 : wd m k * nH m ≤ 6 * 8 := Nat.mul_le_mul h2.2.1 h3.2.1
  exact Nat.le_trans h1 h4
noncomputable def paN (m : Nat → Int32) (s : Nat) (n : Nat) : Int32 := bset (fun k => decide (ct m k s < nC m ∧ 0 < unl m k s)) n
theorem s_paintable_15 (hm : σ.1 26 = m) (hw : WF m) {s : Nat} (hs : s < 2) (H : K (paN m s (nS m)) σ) (k : Nat) (hk : k ≤ nS m) : L_X7_paintable_15 g l K X (paN m s k) (iI s) (iI k) σ := by
  have hb := wf_b hw
  have ih := fun h => s_paintable_15 hm hw hs H (k + 1) h
  refine b_X7_paintable_15 ?_
  rw [show (Int32.toNatClampNeg 1) = 1 from rfl, hm, wf_1 hw]
  try simp (disch := omega) only [iI_add, iI_sub, iI_mul, iI_neg, iI_n, iI_lt, iI_le, iI_eq, iI_tn, iI_ti, bI_0, bI_1, iI_L, iL_0, Decidable.not_not, Int.toNat_natCast, zpt_at, zpt_ne, pk_us, pk_un, forall_eq, tn_0, tn_1, tn_2, tn_3, tn_4, tn_5, ni_1, ni_2, ni_3, ni_4, ni_5, not_false_eq_true, not_true_eq_false, true_implies, false_implies, and_true, true_and, iL_6, iL_m6, iL_7, iL_8, iL_9, iL_4, iL_m4, iL_m8, li_0, li_1, li_2, li_3, li_4, li_5, li_6, li_7, li_8, li_9, li_10, li_11, li_12, li_13, li_15, li_16, li_18, li_20, li_24, li_31, li_32, li_40, li_46, li_48, li_57, li_59, li_60, li_61, li_63, li_64, li_97, li_99, li_122, li_124, li_150, li_255, li_480, li_488, li_600, li_999, li_1110, li_54, or0]
  refine ⟨fun h => ?_, fun h => ?_⟩
  · obtain rfl : k = nS m := by omega
    exact H
  · have hul := unl_le hw (k := k) (by omega) s
    replace ih := ih (by omega)
    rw [show paN m s (k + 1) = if decide (ct m k s < nC m ∧ 0 < unl m k s) then paN m s k ||| (iI 1 <<< (iI (k : Nat) &&& iI 31)) else paN m s k from rfl] at ih
    refine s_bearsMore hm hw (by omega) hs ?_
    try simp (disch := omega) only [iI_add, iI_sub, iI_mul, iI_neg, iI_n, iI_lt, iI_le, iI_eq, iI_tn, iI_ti, bI_0, bI_1, iI_L, iL_0, Decidable.not_not, Int.toNat_natCast, zpt_at, zpt_ne, pk_us, pk_un, forall_eq, tn_0, tn_1, tn_2, tn_3, tn_4, tn_5, ni_1, ni_2, ni_3, ni_4, ni_5, not_false_eq_true, not_true_eq_false, true_implies, false_implies, and_true, true_and, iL_6, iL_m6, iL_7, iL_8, iL_9, iL_4, iL_m4, iL_m8, li_0, li_1, li_2, li_3, li_4, li_5, li_6, li_7, li_8, li_9, li_10, li_11, li_12, li_13, li_15, li_16, li_18, li_20, li_24, li_31, li_32, li_40, li_46, li_48, li_57, li_59, li_60, li_61, li_63, li_64, li_97, li_99, li_122, li_124, li_150, li_255, li_480, li_488, li_600, li_999, li_1110, li_54, or0]
    refine ⟨fun h2 => ?_, fun h2 => s_unlike hm hw (by omega) hs ?_⟩
    · rw [if_neg (fun x => h2 (of_decide_eq_true x).1)] at ih
      exact ih
    · try simp (disch := omega) only [iI_add, iI_sub, iI_mul, iI_neg, iI_n, iI_lt, iI_le, iI_eq, iI_tn, iI_ti, bI_0, bI_1, iI_L, iL_0, Decidable.not_not, Int.toNat_natCast, zpt_at, zpt_ne, pk_us, pk_un, forall_eq, tn_0, tn_1, tn_2, tn_3, tn_4, tn_5, ni_1, ni_2, ni_3, ni_4, ni_5, not_false_eq_true, not_true_eq_false, true_implies, false_implies, and_true, true_and, iL_6, iL_m6, iL_7, iL_8, iL_9, iL_4, iL_m4, iL_m8, li_0, li_1, li_2, li_3, li_4, li_5, li_6, li_7, li_8, li_9, li_10, li_11, li_12, li_13, li_15, li_16, li_18, li_20, li_24, li_31, li_32, li_40, li_46, li_48, li_57, li_59, li_60, li_61, li_63, li_64, li_97, li_99, li_122, li_124, li_150, li_255, li_480, li_488, li_600, li_999, li_1110, li_54, or0]
      refine ⟨fun h3 => ?_, fun h3 => ?_⟩
      · rw [if_neg (fun x => by have := (of_decide_eq_true x).2; omega)] at ih
        exact ih
      · rw [if_pos (decide_eq_true ⟨h2, by omega⟩)] at ih
        exact ih
termination_by nS m - k
theorem s_paintable (hm : σ.1 26 = m) (hw : WF m) {s : Nat} (hs : s < 2) (H : K (paN m s (nS m)) (cd σ 0)) : CT g l M_X7_paintable 0 [.ref (zad g 24), .int (iI s)] σ (zQi K X) := by
  refine b_X7_paintable ?_
  try simp (disch := omega) only [iI_add, iI_sub, iI_mul, iI_neg, iI_n, iI_lt, iI_le, iI_eq, iI_tn, iI_ti, bI_0, bI_1, iI_L, iL_0, Decidable.not_not, Int.toNat_natCast, zpt_at, zpt_ne, pk_us, pk_un, forall_eq, tn_0, tn_1, tn_2, tn_3, tn_4, tn_5, ni_1, ni_2, ni_3, ni_4, ni_5, not_false_eq_true, not_true_eq_false, true_implies, false_implies, and_true, true_and, iL_6, iL_m6, iL_7, iL_8, iL_9, iL_4, iL_m4, iL_m8, li_0, li_1, li_2, li_3, li_4, li_5, li_6, li_7, li_8, li_9, li_10, li_11, li_12, li_13, li_15, li_16, li_18, li_20, li_24, li_31, li_32, li_40, li_46, li_48, li_57, li_59, li_60, li_61, li_63, li_64, li_97, li_99, li_122, li_124, li_150, li_255, li_480, li_488, li_600, li_999, li_1110, li_54]
  exact s_truthS hs (s_paintable_15 (cd_m hm 0) hw hs H 0 (Nat.zero_le _))
end ZMQ
