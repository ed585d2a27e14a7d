/-! the reference: what would be -/
section ZMW
variable {g : zG} {l : Launch} {K : Int32 → zS → Prop} {X : String → zS → Prop} {m : Nat → Int32} {σ : zS}
theorem s_sets {K : zS → Prop} {a b : Nat} {v : Int32} (hb : 4 + 5 * a + b < 1110) (H : K (zup σ 26 (4 + 5 * a + b) v)) : CT g l M_X7_sets 0 [.ref (zad g 24), .int (iI a), .int (iI b), .int v] σ (zQv K X) := by
  refine b_X7_sets ?_
  try simp (disch := omega) only [iI_add, iI_sub, iI_mul, iI_neg, iI_n, iI_lt, iI_le, iI_eq, iI_tn, iI_ti, bI_0, bI_1, iI_L, iL_0, Decidable.not_not, Int.toNat_natCast, zpt_at, zpt_ne, pk_us, pk_un, forall_eq, tn_0, tn_1, tn_2, tn_3, tn_4, tn_5, ni_1, ni_2, ni_3, ni_4, ni_5, not_false_eq_true, not_true_eq_false, true_implies, false_implies, and_true, true_and, iL_6, iL_m6, iL_7, iL_8, iL_9, iL_4, iL_m4, iL_m8, li_0, li_1, li_2, li_3, li_4, li_5, li_6, li_7, li_8, li_9, li_10, li_11, li_12, li_13, li_15, li_16, li_18, li_20, li_24, li_31, li_32, li_40, li_46, li_48, li_57, li_59, li_60, li_61, li_63, li_64, li_97, li_99, li_122, li_124, li_150, li_255, li_480, li_488, li_600, li_999, li_1110, li_54]
  refine ⟨iI_in (by omega) (by omega) (by omega), ?_⟩
  rw [show ((4 : Int) + 5 * (a : Int) + (b : Int)).toNat = 4 + 5 * a + b by omega]; exact H
theorem s_setsT {K : zS → Prop} {f : Nat → Int32} {t : Nat → Int} (hw : WF m) {k : Nat} (hk : k < nS m) {v : Int} (H : K (zpt σ 26 (wT m (fun j => if j = k then v else t j)))) : CT g l M_X7_sets 0 [.ref (zad g 24), .int (iI k), .int (iI 1), .int (iI v)] (zpt σ 26 (wT m t)) (zQv K X) := by
  have hb := wf_b hw
  refine s_sets (b := 1) (by omega) ?_
  rw [zup_zpt, show 4 + 5 * k + 1 = 5 + 5 * k by omega, wT_up hk]
  exact H
abbrev L29 : List Nat := [29]
theorem fr29 {f x : Nat → Int32} (hm : σ.1 26 = m) : FrL L29 σ (zpt (zpt (zpt σ 29 f) 26 x) 26 m) := by
  refine ⟨fun b hb => ?_, rfl⟩
  rw [zpt_zpt]
  by_cases e : b = 26
  · subst e; rw [zpt_at, hm]
  · rw [zpt_ne e, zpt_ne (fun q => hb (by rw [q]; decide))]
theorem wT_far (t : Nat → Int) (hw : WF m) {k : Nat} (hk : 1110 ≤ k) : wT m t k = m k := by
  have := wf_b hw
  exact wT_q (by omega)
theorem z29 {f : Nat → Int32} (hm : σ.1 26 = m) : zpt σ 29 f = zpt (zpt σ 29 f) 26 (wT m (tu m)) := by
  rw [wT_tu_id, ← hm]
  have := zpt_id (zpt σ 29 f) 26
  rw [zpt_ne (by decide)] at this
  exact this.symm
theorem s_rightBy (hm : σ.1 26 = m) (hw : WF m) {k s : Nat} (hk : k < nS m) (hs : s < 2) {t a : Int} (ht : -4 ≤ t ∧ t ≤ 4) (ha : -6 ≤ a ∧ a ≤ 6) (H : ∀ τ, FrL L29 σ τ → K (iI (rgt (wT m (fun j => if j = k then t else tu m j)) a s)) τ) : CT g l M_X7_rightBy 0 [.ref (zad g 24), .int (iI k), .int (iI t), .int (iI a), .int (iI s)] σ (zQi K X) := by
  have hw' : WF (wT m (fun j => if j = k then t else tu m j)) := wT_wf hw (fun j hj => by
    have := wf_s hw hj
    (try simp only); split <;> omega)
  refine b_X7_rightBy (s_leaves (fun f hf => ?_))
  rw [z29 hm]
  refine s_setsT (f := f) hw hk (s_rightMany (zpt_at _ _ _) hw' hs ha ?_)
  refine s_comesBack (m := m) (fun q hq => ?_) (fun q hq => ?_) (H _ (fr29 hm))
  · rw [zpt_ne (by decide), zpt_at, hf q hq, hm]
  · rw [zpt_at]; exact wT_far _ hw hq
noncomputable def btF (m : Nat → Int32) (k : Nat) (a : Int) (s : Nat) (j : Nat) : Int := (rgt (wT m (fun i => if i = k then -4 + (j : Int) else tu m i)) a s : Int)
noncomputable def btN (m : Nat → Int32) (k : Nat) (a : Int) (s : Nat) (b0 : Int) (n : Nat) : Int × Int := bst (btF m k a s) (fun j => -4 + (j : Int)) b0 (-1) n
theorem btF_b (hw : WF m) {k : Nat} (a : Int) (s : Nat) {j : Nat} (hj : j < 9) : 0 ≤ btF m k a s j ∧ btF m k a s j ≤ 480 := by
  have hw' : WF (wT m (fun i => if i = k then -4 + (j : Int) else tu m i)) := wT_wf hw (fun i hi => by
    have := wf_s hw hi
    (try simp only); split <;> omega)
  have := rgt_le hw' a s
  unfold btF; omega
theorem btN_b (hw : WF m) (k : Nat) (a : Int) (s : Nat) (b0 : Int) {n : Nat} (hn : n ≤ 9) : -1 ≤ (btN m k a s b0 n).2 ∧ (btN m k a s b0 n).2 ≤ 480 :=
  bst_b (by omega) (fun j hj => by have := btF_b hw (k := k) a s (j := j) (by omega); omega)
theorem bst_0 {f v : Nat → Int} {b0 b1 m0 : Int} (h : m0 < f 0) : ∀ n, 0 < n → bst f v b0 m0 n = bst f v b1 m0 n
  | 0, h0 => absurd h0 (Nat.lt_irrefl _)
  | 1, _ => by rw [bst_y (n := 0) (b0 := b0) h, bst_y (n := 0) (b0 := b1) h]
  | n + 2, _ => by
    have ih := bst_0 (v := v) (b0 := b0) (b1 := b1) h (n + 1) (by omega)
    rw [bst, ih]
    conv => rhs; rw [bst]
theorem s_bestTurn_28 {σ0 : zS} (hm : σ0.1 26 = m) (hw : WF m) {k s : Nat} (hk : k < nS m) (hs : s < 2) {a : Int} (ha : -6 ≤ a ∧ a ≤ 6) (H : ∀ τ, FrL L29 σ0 τ → K (iI (btN m k a s 0 9).1) τ) (j : Nat) (hj : j ≤ 9) (σ : zS) (hF : FrL L29 σ0 σ) : L_X7_bestTurn_28 g l K X (iI k) (iI a) (iI s) (iI (btN m k a s 0 j).1) (iI (btN m k a s 0 j).2) (iI (-4 + (j : Int))) σ := by
  have hb := btN_b hw k a s 0 hj
  have ih := fun h => s_bestTurn_28 hm hw hk hs ha H (j + 1) h
  refine b_X7_bestTurn_28 ?_
  try simp (disch := omega) only [iI_add, iI_sub, iI_mul, iI_neg, iI_n, iI_lt, iI_le, iI_eq, iI_tn, iI_ti, bI_0, bI_1, iI_L, iL_0, Decidable.not_not, Int.toNat_natCast, zpt_at, zpt_ne, pk_us, pk_un, forall_eq, tn_0, tn_1, tn_2, tn_3, tn_4, tn_5, ni_1, ni_2, ni_3, ni_4, ni_5, not_false_eq_true, not_true_eq_false, true_implies, false_implies, and_true, true_and, iL_6, iL_m6, iL_7, iL_8, iL_9, iL_4, iL_m4, iL_m8, li_0, li_1, li_2, li_3, li_4, li_5, li_6, li_7, li_8, li_9, li_10, li_11, li_12, li_13, li_15, li_16, li_18, li_20, li_24, li_31, li_32, li_40, li_46, li_48, li_57, li_59, li_60, li_61, li_63, li_64, li_97, li_99, li_122, li_124, li_150, li_255, li_480, li_488, li_600, li_999, li_1110, li_54]
  refine ⟨fun h => ?_, fun h => s_truthS hs ?_⟩
  · obtain rfl : j = 9 := by omega
    exact H σ hF
  · have hfb := btF_b hw (k := k) a s (j := j) (by omega)
    refine s_rightBy (m := m) ((hF.1 26 (by decide)).trans hm) hw hk hs (by omega) ha (fun τ hF' => ?_)
    replace ih := ih (by omega) τ (hF.tr hF')
    rw [show ((-4 : Int) + ((j + 1 : Nat) : Int)) = -4 + (j : Int) + 1 by omega] at ih
    rw [show (rgt (wT m (fun i => if i = k then -4 + (j : Int) else tu m i)) a s : Int) = btF m k a s j from rfl]
    try simp (disch := omega) only [iI_add, iI_sub, iI_mul, iI_neg, iI_n, iI_lt, iI_le, iI_eq, iI_tn, iI_ti, bI_0, bI_1, iI_L, iL_0, Decidable.not_not, Int.toNat_natCast, zpt_at, zpt_ne, pk_us, pk_un, forall_eq, tn_0, tn_1, tn_2, tn_3, tn_4, tn_5, ni_1, ni_2, ni_3, ni_4, ni_5, not_false_eq_true, not_true_eq_false, true_implies, false_implies, and_true, true_and, iL_6, iL_m6, iL_7, iL_8, iL_9, iL_4, iL_m4, iL_m8, li_0, li_1, li_2, li_3, li_4, li_5, li_6, li_7, li_8, li_9, li_10, li_11, li_12, li_13, li_15, li_16, li_18, li_20, li_24, li_31, li_32, li_40, li_46, li_48, li_57, li_59, li_60, li_61, li_63, li_64, li_97, li_99, li_122, li_124, li_150, li_255, li_480, li_488, li_600, li_999, li_1110, li_54]
    refine ⟨fun h2 => ?_, fun h2 => ?_⟩
    · rw [show btN m k a s 0 (j + 1) = _ from bst_y h2] at ih
      exact ih
    · rw [show btN m k a s 0 (j + 1) = _ from bst_n h2] at ih
      exact ih
termination_by 9 - j
theorem s_bestTurn (hm : σ.1 26 = m) (hw : WF m) {x a : Int} (hx : I32 x) (ha : I32 a) {s : Nat} (hs : s < 2) (H0 : ∀ k : Nat, x = k → k < nS m → (-6 ≤ a ∧ a ≤ 6) → ∀ τ, FrL L29 (cd σ 0) τ → K (iI (btN m k a s 0 9).1) τ) (H1 : ¬ (0 ≤ x ∧ x < nS m) → K (iI 0) (cd σ 1)) (H2 : 0 ≤ x ∧ x < nS m → ¬ (-6 ≤ a ∧ a ≤ 6) → K (iI 0) (cd σ 2)) : CT g l M_X7_bestTurn 0 [.ref (zad g 24), .int (iI x), .int (iI a), .int (iI s)] σ (zQi K X) := by
  refine b_X7_bestTurn (s_isSlat hm hw hx (s_isAngle ha (s_goesBoth (fun h h' => ?_) (fun h => ?_) (fun h h' => ?_))))
  · obtain ⟨k, rfl, hk⟩ := nat_of h
    try simp (disch := omega) only [iI_add, iI_sub, iI_mul, iI_neg, iI_n, iI_lt, iI_le, iI_eq, iI_tn, iI_ti, bI_0, bI_1, iI_L, iL_0, Decidable.not_not, Int.toNat_natCast, zpt_at, zpt_ne, pk_us, pk_un, forall_eq, tn_0, tn_1, tn_2, tn_3, tn_4, tn_5, ni_1, ni_2, ni_3, ni_4, ni_5, not_false_eq_true, not_true_eq_false, true_implies, false_implies, and_true, true_and, iL_6, iL_m6, iL_7, iL_8, iL_9, iL_4, iL_m4, iL_m8, li_0, li_1, li_2, li_3, li_4, li_5, li_6, li_7, li_8, li_9, li_10, li_11, li_12, li_13, li_15, li_16, li_18, li_20, li_24, li_31, li_32, li_40, li_46, li_48, li_57, li_59, li_60, li_61, li_63, li_64, li_97, li_99, li_122, li_124, li_150, li_255, li_480, li_488, li_600, li_999, li_1110, li_54]
    exact s_bestTurn_28 (cd_m hm 0) hw hk hs h' (H0 k rfl hk h') 0 (by omega) _ (FrL.rf _ _)
  · try simp (disch := omega) only [iI_add, iI_sub, iI_mul, iI_neg, iI_n, iI_lt, iI_le, iI_eq, iI_tn, iI_ti, bI_0, bI_1, iI_L, iL_0, Decidable.not_not, Int.toNat_natCast, zpt_at, zpt_ne, pk_us, pk_un, forall_eq, tn_0, tn_1, tn_2, tn_3, tn_4, tn_5, ni_1, ni_2, ni_3, ni_4, ni_5, not_false_eq_true, not_true_eq_false, true_implies, false_implies, and_true, true_and, iL_6, iL_m6, iL_7, iL_8, iL_9, iL_4, iL_m4, iL_m8, li_0, li_1, li_2, li_3, li_4, li_5, li_6, li_7, li_8, li_9, li_10, li_11, li_12, li_13, li_15, li_16, li_18, li_20, li_24, li_31, li_32, li_40, li_46, li_48, li_57, li_59, li_60, li_61, li_63, li_64, li_97, li_99, li_122, li_124, li_150, li_255, li_480, li_488, li_600, li_999, li_1110, li_54]
    exact H1 h
  · try simp (disch := omega) only [iI_add, iI_sub, iI_mul, iI_neg, iI_n, iI_lt, iI_le, iI_eq, iI_tn, iI_ti, bI_0, bI_1, iI_L, iL_0, Decidable.not_not, Int.toNat_natCast, zpt_at, zpt_ne, pk_us, pk_un, forall_eq, tn_0, tn_1, tn_2, tn_3, tn_4, tn_5, ni_1, ni_2, ni_3, ni_4, ni_5, not_false_eq_true, not_true_eq_false, true_implies, false_implies, and_true, true_and, iL_6, iL_m6, iL_7, iL_8, iL_9, iL_4, iL_m4, iL_m8, li_0, li_1, li_2, li_3, li_4, li_5, li_6, li_7, li_8, li_9, li_10, li_11, li_12, li_13, li_15, li_16, li_18, li_20, li_24, li_31, li_32, li_40, li_46, li_48, li_57, li_59, li_60, li_61, li_63, li_64, li_97, li_99, li_122, li_124, li_150, li_255, li_480, li_488, li_600, li_999, li_1110, li_54]
    exact H2 h h'
/-- the turns after a pull -/
def plT (m : Nat → Int32) (by' : Int) (k : Nat) : Int := if td m k = 0 then max (-4) (min 4 (tu m k + by')) else tu m k
theorem plT_b (hw : WF m) (by' : Int) {k : Nat} (hk : k < nS m) : -4 ≤ plT m by' k ∧ plT m by' k ≤ 4 := by
  have := wf_s hw hk
  unfold plT
  split <;> omega
theorem s_pulls_4 (hw : WF m) {b : Int} (hb : -1000000 ≤ b ∧ b ≤ 1000000) (H : K (iI (fb_ct (fun j => decide (plT m b j ≠ tu m j)) (nS m))) (zpt σ 26 (wT m (plT m b)))) (k : Nat) (hk : k ≤ nS m) : L_X7_pulls_4 g l K X (iI b) (iI (fb_ct (fun j => decide (plT m b j ≠ tu m j)) k)) (iI k) (zpt σ 26 (wT m (fun j => if j < k then plT m b j else tu m j))) := by
  have hwb := wf_b hw
  have ht : ∀ j, j < nS m → -4 ≤ (if j < k then plT m b j else tu m j) ∧ (if j < k then plT m b j else tu m j) ≤ 4 := fun j hj => by
    have := wf_s hw hj
    have := plT_b hw b hj
    split <;> omega
  have hw' : WF (wT m (fun j => if j < k then plT m b j else tu m j)) := wT_wf hw ht
  have ih := fun h => s_pulls_4 hw hb H (k + 1) h
  refine b_X7_pulls_4 ?_
  rw [show (Int32.toNatClampNeg 1) = 1 from rfl, zpt_at, wf_1 hw', wT_nS]
  try simp (disch := omega) only [iI_add, iI_sub, iI_mul, iI_neg, iI_n, iI_lt, iI_le, iI_eq, iI_tn, iI_ti, bI_0, bI_1, iI_L, iL_0, Decidable.not_not, Int.toNat_natCast, zpt_at, zpt_ne, pk_us, pk_un, forall_eq, tn_0, tn_1, tn_2, tn_3, tn_4, tn_5, ni_1, ni_2, ni_3, ni_4, ni_5, not_false_eq_true, not_true_eq_false, true_implies, false_implies, and_true, true_and, iL_6, iL_m6, iL_7, iL_8, iL_9, iL_4, iL_m4, iL_m8, li_0, li_1, li_2, li_3, li_4, li_5, li_6, li_7, li_8, li_9, li_10, li_11, li_12, li_13, li_15, li_16, li_18, li_20, li_24, li_31, li_32, li_40, li_46, li_48, li_57, li_59, li_60, li_61, li_63, li_64, li_97, li_99, li_122, li_124, li_150, li_255, li_480, li_488, li_600, li_999, li_1110, li_54]
  refine ⟨fun h => ?_, fun h => ?_⟩
  · obtain rfl : k = nS m := by omega
    rw [wT_cong (m := m) (t := fun j => if j < nS m then plT m b j else tu m j) (t' := plT m b) (fun j hj => if_pos hj)]
    exact H
  · have hk' : k < nS m := by omega
    have hs := wf_s hw hk'
    have hp := plT_b hw b hk'
    have ht1 : tu (wT m (fun j => if j < k then plT m b j else tu m j)) k = tu m k := by
      rw [wT_tu hk' (ht k hk'), if_neg (Nat.lt_irrefl k)]
    replace ih := ih (by omega)
    rw [fb_ct_succ] at ih
    have hkT : k < nS (wT m (fun j => if j < k then plT m b j else tu m j)) := by rw [wT_nS]; exact hk'
    refine s_ofT (zpt_at _ _ _) hw' hkT (s_ofD (zpt_at _ _ _) hw' hkT ?_)
    rw [ht1, wT_td]
    try simp (disch := omega) only [iI_add, iI_sub, iI_mul, iI_neg, iI_n, iI_lt, iI_le, iI_eq, iI_tn, iI_ti, bI_0, bI_1, iI_L, iL_0, Decidable.not_not, Int.toNat_natCast, zpt_at, zpt_ne, pk_us, pk_un, forall_eq, tn_0, tn_1, tn_2, tn_3, tn_4, tn_5, ni_1, ni_2, ni_3, ni_4, ni_5, not_false_eq_true, not_true_eq_false, true_implies, false_implies, and_true, true_and, iL_6, iL_m6, iL_7, iL_8, iL_9, iL_4, iL_m4, iL_m8, li_0, li_1, li_2, li_3, li_4, li_5, li_6, li_7, li_8, li_9, li_10, li_11, li_12, li_13, li_15, li_16, li_18, li_20, li_24, li_31, li_32, li_40, li_46, li_48, li_57, li_59, li_60, li_61, li_63, li_64, li_97, li_99, li_122, li_124, li_150, li_255, li_480, li_488, li_600, li_999, li_1110, li_54]
    refine ⟨fun h2 => s_ofT (zpt_at _ _ _) hw' hkT ?_, fun h2 => s_held (by omega) (by omega) (by omega) (by omega) ?_⟩
    · have e : plT m b k = tu m k := if_neg (by omega)
      rw [if_neg (by simp [e])] at ih
      rw [wT_cong (m := m) (t := fun j => if j < k + 1 then plT m b j else tu m j) (t' := fun j => if j < k then plT m b j else tu m j) (fun j hj => by
        by_cases q : j = k
        · subst q; (try simp only); rw [if_pos (by omega), if_neg (by omega), e]
        · (try simp only)
          by_cases q2 : j < k
          · rw [if_pos (by omega), if_pos q2]
          · rw [if_neg (by omega), if_neg q2])] at ih
      rw [ht1]
      try simp (disch := omega) only [iI_add, iI_sub, iI_mul, iI_neg, iI_n, iI_lt, iI_le, iI_eq, iI_tn, iI_ti, bI_0, bI_1, iI_L, iL_0, Decidable.not_not, Int.toNat_natCast, zpt_at, zpt_ne, pk_us, pk_un, forall_eq, tn_0, tn_1, tn_2, tn_3, tn_4, tn_5, ni_1, ni_2, ni_3, ni_4, ni_5, not_false_eq_true, not_true_eq_false, true_implies, false_implies, and_true, true_and, iL_6, iL_m6, iL_7, iL_8, iL_9, iL_4, iL_m4, iL_m8, li_0, li_1, li_2, li_3, li_4, li_5, li_6, li_7, li_8, li_9, li_10, li_11, li_12, li_13, li_15, li_16, li_18, li_20, li_24, li_31, li_32, li_40, li_46, li_48, li_57, li_59, li_60, li_61, li_63, li_64, li_97, li_99, li_122, li_124, li_150, li_255, li_480, li_488, li_600, li_999, li_1110, li_54]
      refine s_truth0 ?_
      try simp (disch := omega) only [iI_add, iI_sub, iI_mul, iI_neg, iI_n, iI_lt, iI_le, iI_eq, iI_tn, iI_ti, bI_0, bI_1, iI_L, iL_0, Decidable.not_not, Int.toNat_natCast, zpt_at, zpt_ne, pk_us, pk_un, forall_eq, tn_0, tn_1, tn_2, tn_3, tn_4, tn_5, ni_1, ni_2, ni_3, ni_4, ni_5, not_false_eq_true, not_true_eq_false, true_implies, false_implies, and_true, true_and, iL_6, iL_m6, iL_7, iL_8, iL_9, iL_4, iL_m4, iL_m8, li_0, li_1, li_2, li_3, li_4, li_5, li_6, li_7, li_8, li_9, li_10, li_11, li_12, li_13, li_15, li_16, li_18, li_20, li_24, li_31, li_32, li_40, li_46, li_48, li_57, li_59, li_60, li_61, li_63, li_64, li_97, li_99, li_122, li_124, li_150, li_255, li_480, li_488, li_600, li_999, li_1110, li_54]
      exact ih
    · have e : plT m b k = max (-4) (min 4 (tu m k + b)) := if_pos (by omega)
      refine s_setsT (f := m) hw hk' ?_
      rw [← e]
      have hw2 : WF (wT m (fun j => if j = k then plT m b k else if j < k then plT m b j else tu m j)) := wT_wf hw (fun j hj => by
        have := ht j hj
        (try simp only); split <;> omega)
      have hkT2 : k < nS (wT m (fun j => if j = k then plT m b k else if j < k then plT m b j else tu m j)) := by rw [wT_nS]; exact hk'
      refine s_ofT (zpt_at _ _ _) hw2 hkT2 ?_
      rw [wT_tu hk' (by simpa using hp)]
      simp only [if_true]
      rw [wT_cong (m := m) (t := fun j => if j < k + 1 then plT m b j else tu m j) (t' := fun j => if j = k then plT m b k else if j < k then plT m b j else tu m j) (fun j hj => by
        by_cases q : j = k
        · subst q; simp
        · (try simp only)
          rw [if_neg q]
          by_cases q2 : j < k
          · rw [if_pos (by omega), if_pos q2]
          · rw [if_neg (by omega), if_neg q2])] at ih
      try simp (disch := omega) only [iI_add, iI_sub, iI_mul, iI_neg, iI_n, iI_lt, iI_le, iI_eq, iI_tn, iI_ti, bI_0, bI_1, iI_L, iL_0, Decidable.not_not, Int.toNat_natCast, zpt_at, zpt_ne, pk_us, pk_un, forall_eq, tn_0, tn_1, tn_2, tn_3, tn_4, tn_5, ni_1, ni_2, ni_3, ni_4, ni_5, not_false_eq_true, not_true_eq_false, true_implies, false_implies, and_true, true_and, iL_6, iL_m6, iL_7, iL_8, iL_9, iL_4, iL_m4, iL_m8, li_0, li_1, li_2, li_3, li_4, li_5, li_6, li_7, li_8, li_9, li_10, li_11, li_12, li_13, li_15, li_16, li_18, li_20, li_24, li_31, li_32, li_40, li_46, li_48, li_57, li_59, li_60, li_61, li_63, li_64, li_97, li_99, li_122, li_124, li_150, li_255, li_480, li_488, li_600, li_999, li_1110, li_54]
      refine ⟨fun h3 => s_truth0 ?_, fun h3 => s_truth1 ?_⟩
      · rw [if_neg (by simp [h3])] at ih
        try simp (disch := omega) only [iI_add, iI_sub, iI_mul, iI_neg, iI_n, iI_lt, iI_le, iI_eq, iI_tn, iI_ti, bI_0, bI_1, iI_L, iL_0, Decidable.not_not, Int.toNat_natCast, zpt_at, zpt_ne, pk_us, pk_un, forall_eq, tn_0, tn_1, tn_2, tn_3, tn_4, tn_5, ni_1, ni_2, ni_3, ni_4, ni_5, not_false_eq_true, not_true_eq_false, true_implies, false_implies, and_true, true_and, iL_6, iL_m6, iL_7, iL_8, iL_9, iL_4, iL_m4, iL_m8, li_0, li_1, li_2, li_3, li_4, li_5, li_6, li_7, li_8, li_9, li_10, li_11, li_12, li_13, li_15, li_16, li_18, li_20, li_24, li_31, li_32, li_40, li_46, li_48, li_57, li_59, li_60, li_61, li_63, li_64, li_97, li_99, li_122, li_124, li_150, li_255, li_480, li_488, li_600, li_999, li_1110, li_54]
        exact ih
      · rw [if_pos (by simp [h3])] at ih
        try simp (disch := omega) only [iI_add, iI_sub, iI_mul, iI_neg, iI_n, iI_lt, iI_le, iI_eq, iI_tn, iI_ti, bI_0, bI_1, iI_L, iL_0, Decidable.not_not, Int.toNat_natCast, zpt_at, zpt_ne, pk_us, pk_un, forall_eq, tn_0, tn_1, tn_2, tn_3, tn_4, tn_5, ni_1, ni_2, ni_3, ni_4, ni_5, not_false_eq_true, not_true_eq_false, true_implies, false_implies, and_true, true_and, iL_6, iL_m6, iL_7, iL_8, iL_9, iL_4, iL_m4, iL_m8, li_0, li_1, li_2, li_3, li_4, li_5, li_6, li_7, li_8, li_9, li_10, li_11, li_12, li_13, li_15, li_16, li_18, li_20, li_24, li_31, li_32, li_40, li_46, li_48, li_57, li_59, li_60, li_61, li_63, li_64, li_97, li_99, li_122, li_124, li_150, li_255, li_480, li_488, li_600, li_999, li_1110, li_54]
        exact ih
termination_by nS m - k
theorem s_pulls (hw : WF m) {t : Nat → Int} (hm : σ.1 26 = m) {b : Int} (hb : -1000000 ≤ b ∧ b ≤ 1000000) (H : K (iI (fb_ct (fun j => decide (plT m b j ≠ tu m j)) (nS m))) (zpt σ 26 (wT m (plT m b)))) : CT g l M_X7_pulls 0 [.ref (zad g 24), .int (iI b)] σ (zQi K X) := by
  have := s_pulls_4 (g := g) (l := l) (X := X) hw hb H 0 (Nat.zero_le _)
  rw [wT_id (fun j _ => if_neg (Nat.not_lt_zero j)), ← hm, zpt_id] at this
  exact b_X7_pulls this
theorem s_rightPulled (hm : σ.1 26 = m) (hw : WF m) {s : Nat} (hs : s < 2) {b a : Int} (hb : -1000000 ≤ b ∧ b ≤ 1000000) (ha : -6 ≤ a ∧ a ≤ 6) (H : ∀ τ, FrL L29 σ τ → K (iI (rgt (wT m (plT m b)) a s)) τ) : CT g l M_X7_rightPulled 0 [.ref (zad g 24), .int (iI b), .int (iI a), .int (iI s)] σ (zQi K X) := by
  have hw' : WF (wT m (plT m b)) := wT_wf hw (fun j hj => plT_b hw b hj)
  refine b_X7_rightPulled (s_leaves (fun f hf => ?_))
  refine s_pulls (t := tu m) hw ((zpt_ne (by decide)).trans hm) hb (s_rightMany (zpt_at _ _ _) hw' hs ha ?_)
  refine s_comesBack (m := m) (fun q hq => ?_) (fun q hq => ?_) (H _ (fr29 hm))
  · rw [zpt_ne (by decide), zpt_at, hf q hq, hm]
  · rw [zpt_at]; exact wT_far _ hw hq
/-- the numbers that bestPull tries, in their order -/
def byN (n : Nat) : Int := if n % 2 = 0 then -((n / 2 + 1 : Nat) : Int) else ((n / 2 + 1 : Nat) : Int)
noncomputable def bpN (m : Nat → Int32) (a : Int) (s n : Nat) : Int × Int := bst (fun j => (rgt (wT m (plT m (byN j))) a s : Int)) byN 0 (rgt m a s) n
theorem bpN_b (hw : WF m) (a : Int) (s n : Nat) : 0 ≤ (bpN m a s n).2 ∧ (bpN m a s n).2 ≤ 480 := by
  have := rgt_le hw a s
  exact bst_b (by omega) (fun j _ => by
    have := rgt_le (wT_wf (t := plT m (byN j)) hw (fun k hk => plT_b hw (byN j) hk)) a s
    omega)
theorem s_bestPull_32 {σ0 : zS} (hm : σ0.1 26 = m) (hw : WF m) {s : Nat} (hs : s < 2) {a : Int} (ha : -6 ≤ a ∧ a ≤ 6) (H : ∀ τ, FrL L29 σ0 τ → K (iI (bpN m a s 16).1) τ) (j : Nat) (hj : j ≤ 16) (σ : zS) (hF : FrL L29 σ0 σ) : L_X7_bestPull_32 g l K X (iI a) (iI s) (iI (bpN m a s j).1) (iI (bpN m a s j).2) (iI ((j : Int) + 2)) σ := by
  have hb := bpN_b hw a s j
  have ih := fun h => s_bestPull_32 hm hw hs ha H (j + 1) h
  have e1 : iI ((j : Int) + 2) / 2 = iI ((j / 2 + 1 : Nat) : Int) := by
    rw [show (2 : Int32) = iI 2 from rfl, iI_div (by omega) (by omega) (by omega) (by omega)]; congr 1; omega
  have e2 : iI ((j : Int) + 2) - iI ((j : Int) + 2) / 2 * 2 = iI ((j % 2 : Nat) : Int) := by
    rw [show (2 : Int32) = iI 2 from rfl, iI_rem (by omega) (by omega) (by omega) (by omega)]; congr 1; omega
  have hr := rgt_le (wT_wf (t := plT m (byN j)) hw (fun k hk => plT_b hw (byN j) hk)) a s
  refine b_X7_bestPull_32 ?_
  rw [e2, e1]
  try simp (disch := omega) only [iI_add, iI_sub, iI_mul, iI_neg, iI_n, iI_lt, iI_le, iI_eq, iI_tn, iI_ti, bI_0, bI_1, iI_L, iL_0, Decidable.not_not, Int.toNat_natCast, zpt_at, zpt_ne, pk_us, pk_un, forall_eq, tn_0, tn_1, tn_2, tn_3, tn_4, tn_5, ni_1, ni_2, ni_3, ni_4, ni_5, not_false_eq_true, not_true_eq_false, true_implies, false_implies, and_true, true_and, iL_6, iL_m6, iL_7, iL_8, iL_9, iL_4, iL_m4, iL_m8, li_0, li_1, li_2, li_3, li_4, li_5, li_6, li_7, li_8, li_9, li_10, li_11, li_12, li_13, li_15, li_16, li_18, li_20, li_24, li_31, li_32, li_40, li_46, li_48, li_57, li_59, li_60, li_61, li_63, li_64, li_97, li_99, li_122, li_124, li_150, li_255, li_480, li_488, li_600, li_999, li_1110, li_54]
  have go : ∀ τ, FrL L29 σ τ → j < 16 → ((bpN m a s j).2 < (rgt (wT m (plT m (byN j))) a s : Int) → L_X7_bestPull_32 g l K X (iI a) (iI s) (iI (byN j)) (iI (rgt (wT m (plT m (byN j))) a s : Int)) (iI ((j : Int) + 2 + 1)) τ) ∧ (¬ (bpN m a s j).2 < (rgt (wT m (plT m (byN j))) a s : Int) → L_X7_bestPull_32 g l K X (iI a) (iI s) (iI (bpN m a s j).1) (iI (bpN m a s j).2) (iI ((j : Int) + 2 + 1)) τ) := fun τ hF' hj' => by
    replace ih := ih (by omega) τ (hF.tr hF')
    rw [show (((j + 1 : Nat) : Int) + 2) = (j : Int) + 2 + 1 by omega] at ih
    refine ⟨fun h2 => ?_, fun h2 => ?_⟩
    · rw [show bpN m a s (j + 1) = _ from bst_y h2] at ih
      exact ih
    · rw [show bpN m a s (j + 1) = _ from bst_n h2] at ih
      exact ih
  refine ⟨fun h => ?_, fun h => ⟨fun h1 => ?_, fun h1 => ?_⟩⟩
  · obtain rfl : j = 16 := by omega
    exact H σ hF
  · have hby : byN j = ((j / 2 + 1 : Nat) : Int) := if_neg (by omega)
    refine s_rightPulled (m := m) ((hF.1 26 (by decide)).trans hm) hw hs (by omega) ha (fun τ hF' => ?_)
    have := go τ hF' (by omega)
    rw [hby] at this hr
    try simp (disch := omega) only [iI_add, iI_sub, iI_mul, iI_neg, iI_n, iI_lt, iI_le, iI_eq, iI_tn, iI_ti, bI_0, bI_1, iI_L, iL_0, Decidable.not_not, Int.toNat_natCast, zpt_at, zpt_ne, pk_us, pk_un, forall_eq, tn_0, tn_1, tn_2, tn_3, tn_4, tn_5, ni_1, ni_2, ni_3, ni_4, ni_5, not_false_eq_true, not_true_eq_false, true_implies, false_implies, and_true, true_and, iL_6, iL_m6, iL_7, iL_8, iL_9, iL_4, iL_m4, iL_m8, li_0, li_1, li_2, li_3, li_4, li_5, li_6, li_7, li_8, li_9, li_10, li_11, li_12, li_13, li_15, li_16, li_18, li_20, li_24, li_31, li_32, li_40, li_46, li_48, li_57, li_59, li_60, li_61, li_63, li_64, li_97, li_99, li_122, li_124, li_150, li_255, li_480, li_488, li_600, li_999, li_1110, li_54]
    exact this
  · have hby : byN j = -((j / 2 + 1 : Nat) : Int) := if_pos (by omega)
    refine s_rightPulled (m := m) ((hF.1 26 (by decide)).trans hm) hw hs (by omega) ha (fun τ hF' => ?_)
    have := go τ hF' (by omega)
    rw [hby] at this hr
    try simp (disch := omega) only [iI_add, iI_sub, iI_mul, iI_neg, iI_n, iI_lt, iI_le, iI_eq, iI_tn, iI_ti, bI_0, bI_1, iI_L, iL_0, Decidable.not_not, Int.toNat_natCast, zpt_at, zpt_ne, pk_us, pk_un, forall_eq, tn_0, tn_1, tn_2, tn_3, tn_4, tn_5, ni_1, ni_2, ni_3, ni_4, ni_5, not_false_eq_true, not_true_eq_false, true_implies, false_implies, and_true, true_and, iL_6, iL_m6, iL_7, iL_8, iL_9, iL_4, iL_m4, iL_m8, li_0, li_1, li_2, li_3, li_4, li_5, li_6, li_7, li_8, li_9, li_10, li_11, li_12, li_13, li_15, li_16, li_18, li_20, li_24, li_31, li_32, li_40, li_46, li_48, li_57, li_59, li_60, li_61, li_63, li_64, li_97, li_99, li_122, li_124, li_150, li_255, li_480, li_488, li_600, li_999, li_1110, li_54]
    exact this
termination_by 16 - j
theorem s_bestPull (hm : σ.1 26 = m) (hw : WF m) {a : Int} (ha : I32 a) {s : Nat} (hs : s < 2) (H0 : (-6 ≤ a ∧ a ≤ 6) → ∀ τ, FrL L29 (cd σ 0) τ → K (iI (bpN m a s 16).1) τ) (H1 : ¬ (-6 ≤ a ∧ a ≤ 6) → K (iI 0) (cd σ 1)) : CT g l M_X7_bestPull 0 [.ref (zad g 24), .int (iI a), .int (iI s)] σ (zQi K X) := by
  refine b_X7_bestPull (s_isAngle ha (s_goes (fun h => ?_) (fun h => ?_)))
  · try simp (disch := omega) only [iI_add, iI_sub, iI_mul, iI_neg, iI_n, iI_lt, iI_le, iI_eq, iI_tn, iI_ti, bI_0, bI_1, iI_L, iL_0, Decidable.not_not, Int.toNat_natCast, zpt_at, zpt_ne, pk_us, pk_un, forall_eq, tn_0, tn_1, tn_2, tn_3, tn_4, tn_5, ni_1, ni_2, ni_3, ni_4, ni_5, not_false_eq_true, not_true_eq_false, true_implies, false_implies, and_true, true_and, iL_6, iL_m6, iL_7, iL_8, iL_9, iL_4, iL_m4, iL_m8, li_0, li_1, li_2, li_3, li_4, li_5, li_6, li_7, li_8, li_9, li_10, li_11, li_12, li_13, li_15, li_16, li_18, li_20, li_24, li_31, li_32, li_40, li_46, li_48, li_57, li_59, li_60, li_61, li_63, li_64, li_97, li_99, li_122, li_124, li_150, li_255, li_480, li_488, li_600, li_999, li_1110, li_54]
    refine s_truthS hs (s_rightMany (cd_m hm 0) hw hs h ?_)
    exact s_bestPull_32 (cd_m hm 0) hw hs h (H0 h) 0 (by omega) _ (FrL.rf _ _)
  · try simp (disch := omega) only [iI_add, iI_sub, iI_mul, iI_neg, iI_n, iI_lt, iI_le, iI_eq, iI_tn, iI_ti, bI_0, bI_1, iI_L, iL_0, Decidable.not_not, Int.toNat_natCast, zpt_at, zpt_ne, pk_us, pk_un, forall_eq, tn_0, tn_1, tn_2, tn_3, tn_4, tn_5, ni_1, ni_2, ni_3, ni_4, ni_5, not_false_eq_true, not_true_eq_false, true_implies, false_implies, and_true, true_and, iL_6, iL_m6, iL_7, iL_8, iL_9, iL_4, iL_m4, iL_m8, li_0, li_1, li_2, li_3, li_4, li_5, li_6, li_7, li_8, li_9, li_10, li_11, li_12, li_13, li_15, li_16, li_18, li_20, li_24, li_31, li_32, li_40, li_46, li_48, li_57, li_59, li_60, li_61, li_63, li_64, li_97, li_99, li_122, li_124, li_150, li_255, li_480, li_488, li_600, li_999, li_1110, li_54]
    exact H1 h
noncomputable def daN (m : Nat → Int32) (a : Int) (s : Nat) : Int := if nS m = 0 ∨ 0 < colsAs m a 1 3 then -1 else ((cols m * nH m : Nat) : Int) - (rgt m a s : Int)
theorem s_dabs (hm : σ.1 26 = m) (hw : WF m) {a : Int} (ha : I32 a) {s : Nat} (hs : s < 2) (H0 : (-6 ≤ a ∧ a ≤ 6) → K (iI (daN m a s)) (cd σ 0)) (H1 : ¬ (-6 ≤ a ∧ a ≤ 6) → K (iI 0) (cd σ 1)) : CT g l M_X7_dabs 0 [.ref (zad g 24), .int (iI a), .int (iI s)] σ (zQi K X) := by
  have hb := wf_b hw
  have hcl := cols_le hw
  have hca : colsAs m a 1 3 ≤ cols m := fb_ct_le _ _
  refine b_X7_dabs (s_isAngle ha (s_goes (fun h => ?_) (fun h => ?_)))
  · replace H0 := H0 h
    unfold daN at H0
    rw [show (Int32.toNatClampNeg 1) = 1 from rfl, cd_m hm 0, wf_1 hw]
    try simp (disch := omega) only [iI_add, iI_sub, iI_mul, iI_neg, iI_n, iI_lt, iI_le, iI_eq, iI_tn, iI_ti, bI_0, bI_1, iI_L, iL_0, Decidable.not_not, Int.toNat_natCast, zpt_at, zpt_ne, pk_us, pk_un, forall_eq, tn_0, tn_1, tn_2, tn_3, tn_4, tn_5, ni_1, ni_2, ni_3, ni_4, ni_5, not_false_eq_true, not_true_eq_false, true_implies, false_implies, and_true, true_and, iL_6, iL_m6, iL_7, iL_8, iL_9, iL_4, iL_m4, iL_m8, li_0, li_1, li_2, li_3, li_4, li_5, li_6, li_7, li_8, li_9, li_10, li_11, li_12, li_13, li_15, li_16, li_18, li_20, li_24, li_31, li_32, li_40, li_46, li_48, li_57, li_59, li_60, li_61, li_63, li_64, li_97, li_99, li_122, li_124, li_150, li_255, li_480, li_488, li_600, li_999, li_1110, li_54]
    refine ⟨fun h2 => ?_, fun h2 => s_columnsAs (lo := 1) (hi := 3) (cd_m hm 0) hw (by decide) (by decide) h ?_⟩
    · rw [if_pos (Or.inl (by omega))] at H0; exact H0
    · try simp (disch := omega) only [iI_add, iI_sub, iI_mul, iI_neg, iI_n, iI_lt, iI_le, iI_eq, iI_tn, iI_ti, bI_0, bI_1, iI_L, iL_0, Decidable.not_not, Int.toNat_natCast, zpt_at, zpt_ne, pk_us, pk_un, forall_eq, tn_0, tn_1, tn_2, tn_3, tn_4, tn_5, ni_1, ni_2, ni_3, ni_4, ni_5, not_false_eq_true, not_true_eq_false, true_implies, false_implies, and_true, true_and, iL_6, iL_m6, iL_7, iL_8, iL_9, iL_4, iL_m4, iL_m8, li_0, li_1, li_2, li_3, li_4, li_5, li_6, li_7, li_8, li_9, li_10, li_11, li_12, li_13, li_15, li_16, li_18, li_20, li_24, li_31, li_32, li_40, li_46, li_48, li_57, li_59, li_60, li_61, li_63, li_64, li_97, li_99, li_122, li_124, li_150, li_255, li_480, li_488, li_600, li_999, li_1110, li_54]
      refine ⟨fun h3 => s_cells (cd_m hm 0) hw (s_truthS hs (s_rightMany (cd_m hm 0) hw hs h ?_)), fun h3 => ?_⟩
      · rw [if_neg (by omega)] at H0
        try simp (disch := omega) only [iI_add, iI_sub, iI_mul, iI_neg, iI_n, iI_lt, iI_le, iI_eq, iI_tn, iI_ti, bI_0, bI_1, iI_L, iL_0, Decidable.not_not, Int.toNat_natCast, zpt_at, zpt_ne, pk_us, pk_un, forall_eq, tn_0, tn_1, tn_2, tn_3, tn_4, tn_5, ni_1, ni_2, ni_3, ni_4, ni_5, not_false_eq_true, not_true_eq_false, true_implies, false_implies, and_true, true_and, iL_6, iL_m6, iL_7, iL_8, iL_9, iL_4, iL_m4, iL_m8, li_0, li_1, li_2, li_3, li_4, li_5, li_6, li_7, li_8, li_9, li_10, li_11, li_12, li_13, li_15, li_16, li_18, li_20, li_24, li_31, li_32, li_40, li_46, li_48, li_57, li_59, li_60, li_61, li_63, li_64, li_97, li_99, li_122, li_124, li_150, li_255, li_480, li_488, li_600, li_999, li_1110, li_54]
        exact H0
      · rw [if_pos (Or.inr (by omega))] at H0; exact H0
  · try simp (disch := omega) only [iI_add, iI_sub, iI_mul, iI_neg, iI_n, iI_lt, iI_le, iI_eq, iI_tn, iI_ti, bI_0, bI_1, iI_L, iL_0, Decidable.not_not, Int.toNat_natCast, zpt_at, zpt_ne, pk_us, pk_un, forall_eq, tn_0, tn_1, tn_2, tn_3, tn_4, tn_5, ni_1, ni_2, ni_3, ni_4, ni_5, not_false_eq_true, not_true_eq_false, true_implies, false_implies, and_true, true_and, iL_6, iL_m6, iL_7, iL_8, iL_9, iL_4, iL_m4, iL_m8, li_0, li_1, li_2, li_3, li_4, li_5, li_6, li_7, li_8, li_9, li_10, li_11, li_12, li_13, li_15, li_16, li_18, li_20, li_24, li_31, li_32, li_40, li_46, li_48, li_57, li_59, li_60, li_61, li_63, li_64, li_97, li_99, li_122, li_124, li_150, li_255, li_480, li_488, li_600, li_999, li_1110, li_54]
    exact H1 h
noncomputable def faF (m : Nat → Int32) (a : Int) (j : Nat) : Int := (rgt (wT m (fun _ => -4 + (j : Int))) a 0 + rgt (wT m (fun _ => -4 + (j : Int))) (-a) 1 : Nat)
noncomputable def faN (m : Nat → Int32) (a : Int) (b0 : Int) (n : Nat) : Int × Int := bst (faF m a) (fun j => -4 + (j : Int)) b0 (-1) n
theorem faF_b (hw : WF m) (a : Int) {j : Nat} (hj : j < 9) : 0 ≤ faF m a j ∧ faF m a j ≤ 960 := by
  have hw' : WF (wT m (fun _ => -4 + (j : Int))) := wT_wf hw (fun i hi => by omega)
  have := rgt_le hw' a 0
  have := rgt_le hw' (-a) 1
  unfold faF; omega
theorem faN_b (hw : WF m) (a : Int) (b0 : Int) {n : Nat} (hn : n ≤ 9) : -1 ≤ (faN m a b0 n).2 ∧ (faN m a b0 n).2 ≤ 960 :=
  bst_b (by omega) (fun j hj => by have := faF_b hw a (j := j) (by omega); omega)
theorem s_rightAll_6 (hm : σ.1 26 = m) (hw : WF m) {t a : Int} (ht : -4 ≤ t ∧ t ≤ 4) (ha : -6 ≤ a ∧ a ≤ 6) {f : Nat → Int32} (hf : ∀ k, k < 1110 → f k = σ.1 26 k) (H : ∀ τ, FrL L29 σ τ → K (iI (rgt (wT m (fun _ => t)) a 0 + rgt (wT m (fun _ => t)) (-a) 1 : Nat)) τ) (k : Nat) (hk : k ≤ nS m) : L_X7_rightAll_6 g l K X (iI t) (iI a) (iI k) (zpt (zpt σ 29 f) 26 (wT m (fun j => if j < k then t else tu m j))) := by
  have hwb := wf_b hw
  have hw' : WF (wT m (fun j => if j < k then t else tu m j)) := wT_wf hw (fun j hj => by
    have := wf_s hw hj
    (try simp only); split <;> omega)
  have ih := fun h => s_rightAll_6 hm hw ht ha hf H (k + 1) h
  refine b_X7_rightAll_6 ?_
  rw [show (Int32.toNatClampNeg 1) = 1 from rfl, zpt_at, wf_1 hw', wT_nS]
  try simp (disch := omega) only [iI_add, iI_sub, iI_mul, iI_neg, iI_n, iI_lt, iI_le, iI_eq, iI_tn, iI_ti, bI_0, bI_1, iI_L, iL_0, Decidable.not_not, Int.toNat_natCast, zpt_at, zpt_ne, pk_us, pk_un, forall_eq, tn_0, tn_1, tn_2, tn_3, tn_4, tn_5, ni_1, ni_2, ni_3, ni_4, ni_5, not_false_eq_true, not_true_eq_false, true_implies, false_implies, and_true, true_and, iL_6, iL_m6, iL_7, iL_8, iL_9, iL_4, iL_m4, iL_m8, li_0, li_1, li_2, li_3, li_4, li_5, li_6, li_7, li_8, li_9, li_10, li_11, li_12, li_13, li_15, li_16, li_18, li_20, li_24, li_31, li_32, li_40, li_46, li_48, li_57, li_59, li_60, li_61, li_63, li_64, li_97, li_99, li_122, li_124, li_150, li_255, li_480, li_488, li_600, li_999, li_1110, li_54]
  refine ⟨fun h => ?_, fun h => ?_⟩
  · obtain rfl : k = nS m := by omega
    have hwa : WF (wT m (fun _ => t)) := wT_wf hw (fun j hj => ht)
    rw [wT_cong (m := m) (t := fun j => if j < nS m then t else tu m j) (t' := fun _ => t) (fun j hj => if_pos hj)]
    refine s_rightMany (s := 0) (zpt_at _ _ _) hwa (by decide) ha (s_rightMany (s := 1) (zpt_at _ _ _) hwa (by decide) (by omega) ?_)
    try simp (disch := omega) only [iI_add, iI_sub, iI_mul, iI_neg, iI_n, iI_lt, iI_le, iI_eq, iI_tn, iI_ti, bI_0, bI_1, iI_L, iL_0, Decidable.not_not, Int.toNat_natCast, zpt_at, zpt_ne, pk_us, pk_un, forall_eq, tn_0, tn_1, tn_2, tn_3, tn_4, tn_5, ni_1, ni_2, ni_3, ni_4, ni_5, not_false_eq_true, not_true_eq_false, true_implies, false_implies, and_true, true_and, iL_6, iL_m6, iL_7, iL_8, iL_9, iL_4, iL_m4, iL_m8, li_0, li_1, li_2, li_3, li_4, li_5, li_6, li_7, li_8, li_9, li_10, li_11, li_12, li_13, li_15, li_16, li_18, li_20, li_24, li_31, li_32, li_40, li_46, li_48, li_57, li_59, li_60, li_61, li_63, li_64, li_97, li_99, li_122, li_124, li_150, li_255, li_480, li_488, li_600, li_999, li_1110, li_54]
    refine s_comesBack (m := m) (fun q hq => ?_) (fun q hq => ?_) (H _ (fr29 hm))
    · rw [zpt_ne (by decide), zpt_at, hf q hq, hm]
    · rw [zpt_at]; exact wT_far _ hw hq
  · have hk' : k < nS m := by omega
    refine s_setsT (f := m) hw hk' ?_
    replace ih := ih hk'
    rw [wT_cong (m := m) (t := fun j => if j < k + 1 then t else tu m j) (t' := fun j => if j = k then t else if j < k then t else tu m j) (fun j hj => by
        by_cases q : j = k
        · subst q; simp
        · (try simp only)
          rw [if_neg q]
          by_cases q2 : j < k
          · rw [if_pos (by omega), if_pos q2]
          · rw [if_neg (by omega), if_neg q2])] at ih
    exact ih
termination_by nS m - k
theorem s_rightAll (hm : σ.1 26 = m) (hw : WF m) {t a : Int} (ht : -4 ≤ t ∧ t ≤ 4) (ha : -6 ≤ a ∧ a ≤ 6) (H : ∀ τ, FrL L29 σ τ → K (iI (rgt (wT m (fun _ => t)) a 0 + rgt (wT m (fun _ => t)) (-a) 1 : Nat)) τ) : CT g l M_X7_rightAll 0 [.ref (zad g 24), .int (iI t), .int (iI a)] σ (zQi K X) := by
  refine b_X7_rightAll (s_leaves (fun f hf => ?_))
  have := s_rightAll_6 (g := g) (l := l) (X := X) hm hw ht ha hf H 0 (Nat.zero_le _)
  rw [wT_cong (m := m) (t := fun j => if j < 0 then t else tu m j) (t' := tu m) (fun j _ => if_neg (Nat.not_lt_zero j)), ← z29 hm] at this
  exact this
theorem s_fairest_21 {σ0 : zS} (hm : σ0.1 26 = m) (hw : WF m) {a : Int} (ha : -6 ≤ a ∧ a ≤ 6) (H : ∀ τ, FrL L29 σ0 τ → K (iI (faN m a 0 9).1) τ) (j : Nat) (hj : j ≤ 9) (σ : zS) (hF : FrL L29 σ0 σ) : L_X7_fairest_21 g l K X (iI a) (iI (faN m a 0 j).1) (iI (faN m a 0 j).2) (iI (-4 + (j : Int))) σ := by
  have hb := faN_b hw a 0 hj
  have ih := fun h => s_fairest_21 hm hw ha H (j + 1) h
  refine b_X7_fairest_21 ?_
  try simp (disch := omega) only [iI_add, iI_sub, iI_mul, iI_neg, iI_n, iI_lt, iI_le, iI_eq, iI_tn, iI_ti, bI_0, bI_1, iI_L, iL_0, Decidable.not_not, Int.toNat_natCast, zpt_at, zpt_ne, pk_us, pk_un, forall_eq, tn_0, tn_1, tn_2, tn_3, tn_4, tn_5, ni_1, ni_2, ni_3, ni_4, ni_5, not_false_eq_true, not_true_eq_false, true_implies, false_implies, and_true, true_and, iL_6, iL_m6, iL_7, iL_8, iL_9, iL_4, iL_m4, iL_m8, li_0, li_1, li_2, li_3, li_4, li_5, li_6, li_7, li_8, li_9, li_10, li_11, li_12, li_13, li_15, li_16, li_18, li_20, li_24, li_31, li_32, li_40, li_46, li_48, li_57, li_59, li_60, li_61, li_63, li_64, li_97, li_99, li_122, li_124, li_150, li_255, li_480, li_488, li_600, li_999, li_1110, li_54]
  refine ⟨fun h => ?_, fun h => ?_⟩
  · obtain rfl : j = 9 := by omega
    exact H σ hF
  · have hfb := faF_b hw a (j := j) (by omega)
    refine s_rightAll (m := m) ((hF.1 26 (by decide)).trans hm) hw (by omega) ha (fun τ hF' => ?_)
    replace ih := ih (by omega) τ (hF.tr hF')
    rw [show ((-4 : Int) + ((j + 1 : Nat) : Int)) = -4 + (j : Int) + 1 by omega] at ih
    rw [show ((rgt (wT m (fun _ => -4 + (j : Int))) a 0 + rgt (wT m (fun _ => -4 + (j : Int))) (-a) 1 : Nat) : Int) = faF m a j from rfl]
    try simp (disch := omega) only [iI_add, iI_sub, iI_mul, iI_neg, iI_n, iI_lt, iI_le, iI_eq, iI_tn, iI_ti, bI_0, bI_1, iI_L, iL_0, Decidable.not_not, Int.toNat_natCast, zpt_at, zpt_ne, pk_us, pk_un, forall_eq, tn_0, tn_1, tn_2, tn_3, tn_4, tn_5, ni_1, ni_2, ni_3, ni_4, ni_5, not_false_eq_true, not_true_eq_false, true_implies, false_implies, and_true, true_and, iL_6, iL_m6, iL_7, iL_8, iL_9, iL_4, iL_m4, iL_m8, li_0, li_1, li_2, li_3, li_4, li_5, li_6, li_7, li_8, li_9, li_10, li_11, li_12, li_13, li_15, li_16, li_18, li_20, li_24, li_31, li_32, li_40, li_46, li_48, li_57, li_59, li_60, li_61, li_63, li_64, li_97, li_99, li_122, li_124, li_150, li_255, li_480, li_488, li_600, li_999, li_1110, li_54]
    refine ⟨fun h2 => ?_, fun h2 => ?_⟩
    · rw [show faN m a 0 (j + 1) = _ from bst_y h2] at ih
      exact ih
    · rw [show faN m a 0 (j + 1) = _ from bst_n h2] at ih
      exact ih
termination_by 9 - j
theorem s_fairest (hm : σ.1 26 = m) (hw : WF m) {a : Int} (ha : I32 a) (H0 : (-6 ≤ a ∧ a ≤ 6) → ∀ τ, FrL L29 (cd σ 0) τ → K (iI (faN m a 0 9).1) τ) (H1 : ¬ (-6 ≤ a ∧ a ≤ 6) → K (iI 0) (cd σ 1)) : CT g l M_X7_fairest 0 [.ref (zad g 24), .int (iI a)] σ (zQi K X) := by
  refine b_X7_fairest (s_isAngle ha (s_goes (fun h => ?_) (fun h => ?_)))
  · try simp (disch := omega) only [iI_add, iI_sub, iI_mul, iI_neg, iI_n, iI_lt, iI_le, iI_eq, iI_tn, iI_ti, bI_0, bI_1, iI_L, iL_0, Decidable.not_not, Int.toNat_natCast, zpt_at, zpt_ne, pk_us, pk_un, forall_eq, tn_0, tn_1, tn_2, tn_3, tn_4, tn_5, ni_1, ni_2, ni_3, ni_4, ni_5, not_false_eq_true, not_true_eq_false, true_implies, false_implies, and_true, true_and, iL_6, iL_m6, iL_7, iL_8, iL_9, iL_4, iL_m4, iL_m8, li_0, li_1, li_2, li_3, li_4, li_5, li_6, li_7, li_8, li_9, li_10, li_11, li_12, li_13, li_15, li_16, li_18, li_20, li_24, li_31, li_32, li_40, li_46, li_48, li_57, li_59, li_60, li_61, li_63, li_64, li_97, li_99, li_122, li_124, li_150, li_255, li_480, li_488, li_600, li_999, li_1110, li_54]
    exact s_fairest_21 (cd_m hm 0) hw h (H0 h) 0 (by omega) _ (FrL.rf _ _)
  · try simp (disch := omega) only [iI_add, iI_sub, iI_mul, iI_neg, iI_n, iI_lt, iI_le, iI_eq, iI_tn, iI_ti, bI_0, bI_1, iI_L, iL_0, Decidable.not_not, Int.toNat_natCast, zpt_at, zpt_ne, pk_us, pk_un, forall_eq, tn_0, tn_1, tn_2, tn_3, tn_4, tn_5, ni_1, ni_2, ni_3, ni_4, ni_5, not_false_eq_true, not_true_eq_false, true_implies, false_implies, and_true, true_and, iL_6, iL_m6, iL_7, iL_8, iL_9, iL_4, iL_m4, iL_m8, li_0, li_1, li_2, li_3, li_4, li_5, li_6, li_7, li_8, li_9, li_10, li_11, li_12, li_13, li_15, li_16, li_18, li_20, li_24, li_31, li_32, li_40, li_46, li_48, li_57, li_59, li_60, li_61, li_63, li_64, li_97, li_99, li_122, li_124, li_150, li_255, li_480, li_488, li_600, li_999, li_1110, li_54]
    exact H1 h
end ZMW
