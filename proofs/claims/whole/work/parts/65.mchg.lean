/-! the reference: what its changes do to the row -/
section ZMC
variable {g : zG} {l : Launch} {K : Int32 → zS → Prop} {X : String → zS → Prop} {m : Nat → Int32} {σ : zS}
theorem s_isFree (hm : σ.1 26 = m) (hw : WF m) {k : Nat} (hk : k < nS m) (H : K (bI (td m k = 0)) σ) : CT g l M_X7_isFree 0 [.ref (zad g 24), .int (iI k)] σ (zQi K X) := by
  have hs := wf_s hw hk
  refine b_X7_isFree (s_ofD hm hw hk ?_)
  try simp (disch := omega) only [iI_add, iI_sub, iI_mul, iI_neg, iI_n, iI_lt, iI_le, iI_eq, iI_tn, iI_ti, bI_0, bI_1, iI_L, iL_0, Decidable.not_not, Int.toNat_natCast, zpt_at, zpt_ne, pk_us, pk_un, forall_eq, tn_0, tn_1, tn_2, tn_3, tn_4, tn_5, ni_1, ni_2, ni_3, ni_4, ni_5, not_false_eq_true, not_true_eq_false, true_implies, false_implies, and_true, true_and, iL_6, iL_m6, iL_7, iL_8, iL_9, iL_4, iL_m4, iL_m8, li_0, li_1, li_2, li_3, li_4, li_5, li_6, li_7, li_8, li_9, li_10, li_11, li_12, li_13, li_15, li_16, li_18, li_20, li_24, li_31, li_32, li_40, li_46, li_48, li_57, li_59, li_60, li_61, li_63, li_64, li_97, li_99, li_122, li_124, li_150, li_255, li_480, li_488, li_600, li_999, li_1110, li_54]
  refine ⟨fun h => ?_, fun h => ?_⟩
  · rw [bI_F (by omega)] at H; exact H
  · rw [bI_T (by omega)] at H; exact H
theorem s_isPull {z : Int} (hz : I32 z) (H : K (bI ((-8 ≤ z ∧ z ≤ 8) ∧ z ≠ 0)) σ) : CT g l M_X7_isPull 0 [.int (iI z)] σ (zQi K X) := by
  refine b_X7_isPull ?_
  try simp (disch := omega) only [iI_add, iI_sub, iI_mul, iI_neg, iI_n, iI_lt, iI_le, iI_eq, iI_tn, iI_ti, bI_0, bI_1, iI_L, iL_0, Decidable.not_not, Int.toNat_natCast, zpt_at, zpt_ne, pk_us, pk_un, forall_eq, tn_0, tn_1, tn_2, tn_3, tn_4, tn_5, ni_1, ni_2, ni_3, ni_4, ni_5, not_false_eq_true, not_true_eq_false, true_implies, false_implies, and_true, true_and, iL_6, iL_m6, iL_7, iL_8, iL_9, iL_4, iL_m4, iL_m8, li_0, li_1, li_2, li_3, li_4, li_5, li_6, li_7, li_8, li_9, li_10, li_11, li_12, li_13, li_15, li_16, li_18, li_20, li_24, li_31, li_32, li_40, li_46, li_48, li_57, li_59, li_60, li_61, li_63, li_64, li_97, li_99, li_122, li_124, li_150, li_255, li_480, li_488, li_600, li_999, li_1110, li_54]
  refine ⟨fun h => ?_, fun h => s_isIn (by omega) (by omega) (by omega) (by omega) (by omega) (by omega) ?_⟩
  · rw [bI_F (by omega)] at H; exact H
  · try simp (disch := omega) only [iI_add, iI_sub, iI_mul, iI_neg, iI_n, iI_lt, iI_le, iI_eq, iI_tn, iI_ti, bI_0, bI_1, iI_L, iL_0, Decidable.not_not, Int.toNat_natCast, zpt_at, zpt_ne, pk_us, pk_un, forall_eq, tn_0, tn_1, tn_2, tn_3, tn_4, tn_5, ni_1, ni_2, ni_3, ni_4, ni_5, not_false_eq_true, not_true_eq_false, true_implies, false_implies, and_true, true_and, iL_6, iL_m6, iL_7, iL_8, iL_9, iL_4, iL_m4, iL_m8, li_0, li_1, li_2, li_3, li_4, li_5, li_6, li_7, li_8, li_9, li_10, li_11, li_12, li_13, li_15, li_16, li_18, li_20, li_24, li_31, li_32, li_40, li_46, li_48, li_57, li_59, li_60, li_61, li_63, li_64, li_97, li_99, li_122, li_124, li_150, li_255, li_480, li_488, li_600, li_999, li_1110, li_54]
    refine ⟨fun h' => ?_, fun h' => ?_⟩
    · rw [bI_F (by omega)] at H; exact H
    · rw [bI_T (by omega)] at H; exact H
theorem s_isTurn {z : Int} (hz : I32 z) (H : K (bI (-4 ≤ z ∧ z ≤ 4)) σ) : CT g l M_X7_isTurn 0 [.int (iI z)] σ (zQi K X) := by
  refine b_X7_isTurn ?_
  try simp (disch := omega) only [iI_add, iI_sub, iI_mul, iI_neg, iI_n, iI_lt, iI_le, iI_eq, iI_tn, iI_ti, bI_0, bI_1, iI_L, iL_0, Decidable.not_not, Int.toNat_natCast, zpt_at, zpt_ne, pk_us, pk_un, forall_eq, tn_0, tn_1, tn_2, tn_3, tn_4, tn_5, ni_1, ni_2, ni_3, ni_4, ni_5, not_false_eq_true, not_true_eq_false, true_implies, false_implies, and_true, true_and, iL_6, iL_m6, iL_7, iL_8, iL_9, iL_4, iL_m4, iL_m8, li_0, li_1, li_2, li_3, li_4, li_5, li_6, li_7, li_8, li_9, li_10, li_11, li_12, li_13, li_15, li_16, li_18, li_20, li_24, li_31, li_32, li_40, li_46, li_48, li_57, li_59, li_60, li_61, li_63, li_64, li_97, li_99, li_122, li_124, li_150, li_255, li_480, li_488, li_600, li_999, li_1110, li_54]
  exact s_isIn (by omega) (by omega) (by omega) (by omega) (by omega) (by omega) ⟨bI_bl, H⟩
theorem s_isColour {z : Int} (hz : I32 z) (H : K (bI (0 ≤ z ∧ z ≤ 9)) σ) : CT g l M_X7_isColour 0 [.int (iI z)] σ (zQi K X) := by
  refine b_X7_isColour ?_
  try simp (disch := omega) only [iI_add, iI_sub, iI_mul, iI_neg, iI_n, iI_lt, iI_le, iI_eq, iI_tn, iI_ti, bI_0, bI_1, iI_L, iL_0, Decidable.not_not, Int.toNat_natCast, zpt_at, zpt_ne, pk_us, pk_un, forall_eq, tn_0, tn_1, tn_2, tn_3, tn_4, tn_5, ni_1, ni_2, ni_3, ni_4, ni_5, not_false_eq_true, not_true_eq_false, true_implies, false_implies, and_true, true_and, iL_6, iL_m6, iL_7, iL_8, iL_9, iL_4, iL_m4, iL_m8, li_0, li_1, li_2, li_3, li_4, li_5, li_6, li_7, li_8, li_9, li_10, li_11, li_12, li_13, li_15, li_16, li_18, li_20, li_24, li_31, li_32, li_40, li_46, li_48, li_57, li_59, li_60, li_61, li_63, li_64, li_97, li_99, li_122, li_124, li_150, li_255, li_480, li_488, li_600, li_999, li_1110, li_54]
  exact s_isIn (by omega) (by omega) (by omega) (by omega) (by omega) (by omega) ⟨bI_bl, H⟩
theorem s_goesAll {p q r : Prop} [Decidable p] [Decidable q] [Decidable r] (H0 : p → q → r → K (iI 1) (cd σ 0)) (H1 : ¬ p → K (iI 0) (cd σ 1)) (H2 : p → ¬ q → K (iI 0) (cd σ 2)) (H3 : p → q → ¬ r → K (iI 0) (cd σ 3)) : CT g l M_X7_goesAll 0 [.ref (zad g 24), .int (bI p), .int (bI q), .int (bI r)] σ (zQi K X) := by
  refine b_X7_goesAll (s_goesBoth (fun h h' => ?_) (fun h => ?_) (fun h h' => ?_))
  · try simp (disch := omega) only [iI_add, iI_sub, iI_mul, iI_neg, iI_n, iI_lt, iI_le, iI_eq, iI_tn, iI_ti, bI_0, bI_1, iI_L, iL_0, Decidable.not_not, Int.toNat_natCast, zpt_at, zpt_ne, pk_us, pk_un, forall_eq, tn_0, tn_1, tn_2, tn_3, tn_4, tn_5, ni_1, ni_2, ni_3, ni_4, ni_5, not_false_eq_true, not_true_eq_false, true_implies, false_implies, and_true, true_and, iL_6, iL_m6, iL_7, iL_8, iL_9, iL_4, iL_m4, iL_m8, li_0, li_1, li_2, li_3, li_4, li_5, li_6, li_7, li_8, li_9, li_10, li_11, li_12, li_13, li_15, li_16, li_18, li_20, li_24, li_31, li_32, li_40, li_46, li_48, li_57, li_59, li_60, li_61, li_63, li_64, li_97, li_99, li_122, li_124, li_150, li_255, li_480, li_488, li_600, li_999, li_1110, li_54]
    refine ⟨fun h2 => ?_, fun h2 => ?_⟩
    · exact H0 h h' h2
    · have := H3 h h' h2
      rw [show cd σ 3 = cd (cd σ 0) 3 from (cd_cd σ 0 3).symm] at this
      first
        | exact this
        | exact ⟨fun _ => this, fun e => absurd e (by decide)⟩
  · have := H1 h
    try simp (disch := omega) only [iI_add, iI_sub, iI_mul, iI_neg, iI_n, iI_lt, iI_le, iI_eq, iI_tn, iI_ti, bI_0, bI_1, iI_L, iL_0, Decidable.not_not, Int.toNat_natCast, zpt_at, zpt_ne, pk_us, pk_un, forall_eq, tn_0, tn_1, tn_2, tn_3, tn_4, tn_5, ni_1, ni_2, ni_3, ni_4, ni_5, not_false_eq_true, not_true_eq_false, true_implies, false_implies, and_true, true_and, iL_6, iL_m6, iL_7, iL_8, iL_9, iL_4, iL_m4, iL_m8, li_0, li_1, li_2, li_3, li_4, li_5, li_6, li_7, li_8, li_9, li_10, li_11, li_12, li_13, li_15, li_16, li_18, li_20, li_24, li_31, li_32, li_40, li_46, li_48, li_57, li_59, li_60, li_61, li_63, li_64, li_97, li_99, li_122, li_124, li_150, li_255, li_480, li_488, li_600, li_999, li_1110, li_54]
    exact this
  · have := H2 h h'
    try simp (disch := omega) only [iI_add, iI_sub, iI_mul, iI_neg, iI_n, iI_lt, iI_le, iI_eq, iI_tn, iI_ti, bI_0, bI_1, iI_L, iL_0, Decidable.not_not, Int.toNat_natCast, zpt_at, zpt_ne, pk_us, pk_un, forall_eq, tn_0, tn_1, tn_2, tn_3, tn_4, tn_5, ni_1, ni_2, ni_3, ni_4, ni_5, not_false_eq_true, not_true_eq_false, true_implies, false_implies, and_true, true_and, iL_6, iL_m6, iL_7, iL_8, iL_9, iL_4, iL_m4, iL_m8, li_0, li_1, li_2, li_3, li_4, li_5, li_6, li_7, li_8, li_9, li_10, li_11, li_12, li_13, li_15, li_16, li_18, li_20, li_24, li_31, li_32, li_40, li_46, li_48, li_57, li_59, li_60, li_61, li_63, li_64, li_97, li_99, li_122, li_124, li_150, li_255, li_480, li_488, li_600, li_999, li_1110, li_54]
    exact this
def mTurn (m : Nat → Int32) (k : Nat) (t : Int) : Nat → Int32 := wT m (fun j => if j = k then t else tu m j)
theorem s_turns (hm : σ.1 26 = m) (hw : WF m) {k : Nat} (hk : k < nS m) {t : Int} (H : K (iI (tu m k)) (zpt σ 26 (mTurn m k t))) : CT g l M_X7_turns 0 [.ref (zad g 24), .int (iI k), .int (iI t)] σ (zQi K X) := by
  have hb := wf_b hw
  refine b_X7_turns (s_ofT hm hw hk ?_)
  try simp (disch := omega) only [iI_add, iI_sub, iI_mul, iI_neg, iI_n, iI_lt, iI_le, iI_eq, iI_tn, iI_ti, bI_0, bI_1, iI_L, iL_0, Decidable.not_not, Int.toNat_natCast, zpt_at, zpt_ne, pk_us, pk_un, forall_eq, tn_0, tn_1, tn_2, tn_3, tn_4, tn_5, ni_1, ni_2, ni_3, ni_4, ni_5, not_false_eq_true, not_true_eq_false, true_implies, false_implies, and_true, true_and, iL_6, iL_m6, iL_7, iL_8, iL_9, iL_4, iL_m4, iL_m8, li_0, li_1, li_2, li_3, li_4, li_5, li_6, li_7, li_8, li_9, li_10, li_11, li_12, li_13, li_15, li_16, li_18, li_20, li_24, li_31, li_32, li_40, li_46, li_48, li_57, li_59, li_60, li_61, li_63, li_64, li_97, li_99, li_122, li_124, li_150, li_255, li_480, li_488, li_600, li_999, li_1110, li_54]
  refine s_sets (b := 1) (by omega) ?_
  rw [show zup σ 26 (4 + 5 * k + 1) (iI t) = zpt σ 26 (upd (σ.1 26) (4 + 5 * k + 1) (iI t)) from rfl, hm, show 4 + 5 * k + 1 = 5 + 5 * k by omega, up_wT hk]
  exact H
theorem s_ties (hm : σ.1 26 = m) (hw : WF m) {k s : Nat} (hk : k < nS m) (hs : s < 2) (H1 : td m k ≠ s → K (iI 1) (zpt σ 26 (mTie m k s))) (H0 : td m k = s → K (iI 0) σ) : CT g l M_X7_ties 0 [.ref (zad g 24), .int (iI k), .int (iI s)] σ (zQi K X) := by
  have hb := wf_b hw
  have hsl := wf_s hw hk
  refine b_X7_ties (s_isFree hm hw hk ?_)
  have e : bI (td m k = 0) = iI (s : Int) ↔ td m k ≠ s := by
    match s, hs with
    | 0, _ => exact bI_0
    | 1, _ =>
      refine bI_1.trans ?_
      omega
  rw [e]
  refine ⟨fun h => s_truthS hs ?_, fun h => H0 (by omega)⟩
  try simp (disch := omega) only [iI_add, iI_sub, iI_mul, iI_neg, iI_n, iI_lt, iI_le, iI_eq, iI_tn, iI_ti, bI_0, bI_1, iI_L, iL_0, Decidable.not_not, Int.toNat_natCast, zpt_at, zpt_ne, pk_us, pk_un, forall_eq, tn_0, tn_1, tn_2, tn_3, tn_4, tn_5, ni_1, ni_2, ni_3, ni_4, ni_5, not_false_eq_true, not_true_eq_false, true_implies, false_implies, and_true, true_and, iL_6, iL_m6, iL_7, iL_8, iL_9, iL_4, iL_m4, iL_m8, li_0, li_1, li_2, li_3, li_4, li_5, li_6, li_7, li_8, li_9, li_10, li_11, li_12, li_13, li_15, li_16, li_18, li_20, li_24, li_31, li_32, li_40, li_46, li_48, li_57, li_59, li_60, li_61, li_63, li_64, li_97, li_99, li_122, li_124, li_150, li_255, li_480, li_488, li_600, li_999, li_1110, li_54]
  refine s_sets (b := 2) (by omega) ?_
  rw [show zup σ 26 (4 + 5 * k + 2) (iI (s : Int)) = zpt σ 26 (upd (σ.1 26) (4 + 5 * k + 2) (iI (s : Int))) from rfl, hm, show 4 + 5 * k + 2 = 6 + 5 * k by omega]
  exact H1 h
/-- a slat's face as its picture, up to a cell -/
noncomputable def rpU (m : Nat → Int32) (k s j r : Nat) (s' c r' : Nat) : Nat := if s' = s ∧ (fst m k ≤ c ∧ (c < fst m k + j ∨ (c = fst m k + j ∧ r' < r))) ∧ r' < nH m then pic m s c r' else fc m s' c r'
noncomputable def rpF (m : Nat → Int32) (k s : Nat) (s' c r' : Nat) : Nat := if s' = s ∧ (fst m k ≤ c ∧ c < fst m k + wd m k) ∧ r' < nH m then pic m s c r' else fc m s' c r'
theorem rpU_9 (hw : WF m) (k s j r : Nat) : ∀ s' c r', s' < 2 → c < 60 → r' < 8 → rpU m k s j r s' c r' ≤ 9 := fun s' c r' h1 h2 h3 => by
  have := pic_le hw s c r'
  have := wf_f9 hw h1 h2 h3
  unfold rpU; split <;> omega
theorem rpF_9 (hw : WF m) (k s : Nat) : ∀ s' c r', s' < 2 → c < 60 → r' < 8 → rpF m k s s' c r' ≤ 9 := fun s' c r' h1 h2 h3 => by
  have := pic_le hw s c r'
  have := wf_f9 hw h1 h2 h3
  unfold rpF; split <;> omega
theorem s_repaints_13 (hw : WF m) {k s : Nat} (hk : k < nS m) (hs : s < 2) (H : K (iI (unl m k s)) (zpt σ 26 (wF m (rpF m k s)))) (j : Nat) (hj : j ≤ wd m k) : L_X7_repaints_13 g l K X (iI k) (iI s) (iI (fb_sm (fun j => fb_ct (fun r => decide (fc m s (fst m k + j) r ≠ pic m s (fst m k + j) r)) (nH m)) j)) (iI (fst m k)) (iI (fst m k + j : Nat)) (zpt σ 26 (wF m (rpU m k s j 0))) := by
  have hb := wf_b hw
  have hcl := cols_le hw
  have hsl := wf_s hw hk
  have hfl := fst_le hw (k := k) (by omega)
  have inner : ∀ n r, r + n = nH m → j < wd m k → L_X7_repaints_30 g l K X (iI k) (iI s) (iI (fb_sm (fun j => fb_ct (fun r => decide (fc m s (fst m k + j) r ≠ pic m s (fst m k + j) r)) (nH m)) j + fb_ct (fun r => decide (fc m s (fst m k + j) r ≠ pic m s (fst m k + j) r)) r : Nat)) (iI (fst m k)) (iI (fst m k + j : Nat)) (iI r) (zpt σ 26 (wF m (rpU m k s j r))) := fun n => by
    induction n with
    | zero =>
      intro r e h
      have hw2 := wF_wf hw (rpU_9 hw k s j r)
      have hb2 := wF_b (m := m) (rpU m k s j r)
      refine b_X7_repaints_30 ?_
      rw [show (Int32.toNatClampNeg 0) = 0 from rfl, zpt_at, wf_0 hw2, hb2.1.e_nH]
      try simp (disch := omega) only [iI_add, iI_sub, iI_mul, iI_neg, iI_n, iI_lt, iI_le, iI_eq, iI_tn, iI_ti, bI_0, bI_1, iI_L, iL_0, Decidable.not_not, Int.toNat_natCast, zpt_at, zpt_ne, pk_us, pk_un, forall_eq, tn_0, tn_1, tn_2, tn_3, tn_4, tn_5, ni_1, ni_2, ni_3, ni_4, ni_5, not_false_eq_true, not_true_eq_false, true_implies, false_implies, and_true, true_and, iL_6, iL_m6, iL_7, iL_8, iL_9, iL_4, iL_m4, iL_m8, li_0, li_1, li_2, li_3, li_4, li_5, li_6, li_7, li_8, li_9, li_10, li_11, li_12, li_13, li_15, li_16, li_18, li_20, li_24, li_31, li_32, li_40, li_46, li_48, li_57, li_59, li_60, li_61, li_63, li_64, li_97, li_99, li_122, li_124, li_150, li_255, li_480, li_488, li_600, li_999, li_1110, li_54]
      refine ⟨fun _ => ?_, fun h => by omega⟩
      obtain rfl : r = nH m := by omega
      have := s_repaints_13 hw hk hs H (j + 1) h
      rw [wF_cong (m := m) (f := rpU m k s (j + 1) 0) (f' := rpU m k s j (nH m)) (fun s' c r' _ _ _ => by
        unfold rpU
        by_cases q : s' = s ∧ (fst m k ≤ c ∧ (c < fst m k + (j + 1) ∨ (c = fst m k + (j + 1) ∧ r' < 0))) ∧ r' < nH m
        · rw [if_pos q, if_pos (by omega)]
        · rw [if_neg q, if_neg (by omega)])] at this
      exact this
    | succ n ih =>
      intro r e h
      have hcc := fst_col hw hk h
      have hw2 := wF_wf hw (rpU_9 hw k s j r)
      have hb2 := wF_b (m := m) (rpU m k s j r)
      refine b_X7_repaints_30 ?_
      rw [show (Int32.toNatClampNeg 0) = 0 from rfl, zpt_at, wf_0 hw2, hb2.1.e_nH]
      have hp := pic_le hw s (fst m k + j) r
      have hf := wf_f9 hw hs (c := fst m k + j) (r := r) (by omega) (by omega)
      try simp (disch := omega) only [iI_add, iI_sub, iI_mul, iI_neg, iI_n, iI_lt, iI_le, iI_eq, iI_tn, iI_ti, bI_0, bI_1, iI_L, iL_0, Decidable.not_not, Int.toNat_natCast, zpt_at, zpt_ne, pk_us, pk_un, forall_eq, tn_0, tn_1, tn_2, tn_3, tn_4, tn_5, ni_1, ni_2, ni_3, ni_4, ni_5, not_false_eq_true, not_true_eq_false, true_implies, false_implies, and_true, true_and, iL_6, iL_m6, iL_7, iL_8, iL_9, iL_4, iL_m4, iL_m8, li_0, li_1, li_2, li_3, li_4, li_5, li_6, li_7, li_8, li_9, li_10, li_11, li_12, li_13, li_15, li_16, li_18, li_20, li_24, li_31, li_32, li_40, li_46, li_48, li_57, li_59, li_60, li_61, li_63, li_64, li_97, li_99, li_122, li_124, li_150, li_255, li_480, li_488, li_600, li_999, li_1110, li_54]
      refine ⟨fun h => by omega, fun _ => ?_⟩
      refine s_pictureAt (zpt_at _ _ _) hw2 hs (by omega) (by omega) ?_
      refine s_painted (zpt_at _ _ _) hw2 hs (by omega) (by omega) ?_
      rw [hb2.2.e_pic hw, wF_fc hs (by omega) (by omega) (rpU_9 hw k s j r _ _ _ hs (by omega) (by omega)), show rpU m k s j r s (fst m k + j) r = fc m s (fst m k + j) r from if_neg (by omega)]
      have ih := ih (r + 1) (by omega) h
      rw [fb_ct_succ, wF_cong (m := m) (f := rpU m k s j (r + 1)) (f' := fun s' c' r' => if s' = s ∧ c' = fst m k + j ∧ r' = r then pic m s (fst m k + j) r else rpU m k s j r s' c' r') (fun s' c r' _ _ _ => by
        unfold rpU
        by_cases q : s' = s ∧ c = fst m k + j ∧ r' = r
        · rw [if_pos (by omega), if_pos q]
          obtain ⟨_, rfl, rfl⟩ := q
          rfl
        · rw [if_neg q]
          by_cases q2 : s' = s ∧ (fst m k ≤ c ∧ (c < fst m k + j ∨ (c = fst m k + j ∧ r' < r))) ∧ r' < nH m
          · rw [if_pos q2, if_pos (by omega)]
          · rw [if_neg q2, if_neg (by omega)])] at ih
      have cell : vp_in (iI ((150 + 480 * s + 8 * (fst m k + j) + r : Nat) : Int)) 1110 := iI_in (by omega) (by omega) (by omega)
      try simp (disch := omega) only [iI_add, iI_sub, iI_mul, iI_neg, iI_n, iI_lt, iI_le, iI_eq, iI_tn, iI_ti, bI_0, bI_1, iI_L, iL_0, Decidable.not_not, Int.toNat_natCast, zpt_at, zpt_ne, pk_us, pk_un, forall_eq, tn_0, tn_1, tn_2, tn_3, tn_4, tn_5, ni_1, ni_2, ni_3, ni_4, ni_5, not_false_eq_true, not_true_eq_false, true_implies, false_implies, and_true, true_and, iL_6, iL_m6, iL_7, iL_8, iL_9, iL_4, iL_m4, iL_m8, li_0, li_1, li_2, li_3, li_4, li_5, li_6, li_7, li_8, li_9, li_10, li_11, li_12, li_13, li_15, li_16, li_18, li_20, li_24, li_31, li_32, li_40, li_46, li_48, li_57, li_59, li_60, li_61, li_63, li_64, li_97, li_99, li_122, li_124, li_150, li_255, li_480, li_488, li_600, li_999, li_1110, li_54]
      refine ⟨fun h2 => s_truth0 (s_faceCell (c := fst m k + j) ⟨cell, ?_⟩), fun h2 => s_truth1 (s_faceCell (c := fst m k + j) ⟨cell, ?_⟩)⟩
      · rw [if_neg (by simp; omega)] at ih
        try simp (disch := omega) only [iI_add, iI_sub, iI_mul, iI_neg, iI_n, iI_lt, iI_le, iI_eq, iI_tn, iI_ti, bI_0, bI_1, iI_L, iL_0, Decidable.not_not, Int.toNat_natCast, zpt_at, zpt_ne, pk_us, pk_un, forall_eq, tn_0, tn_1, tn_2, tn_3, tn_4, tn_5, ni_1, ni_2, ni_3, ni_4, ni_5, not_false_eq_true, not_true_eq_false, true_implies, false_implies, and_true, true_and, iL_6, iL_m6, iL_7, iL_8, iL_9, iL_4, iL_m4, iL_m8, li_0, li_1, li_2, li_3, li_4, li_5, li_6, li_7, li_8, li_9, li_10, li_11, li_12, li_13, li_15, li_16, li_18, li_20, li_24, li_31, li_32, li_40, li_46, li_48, li_57, li_59, li_60, li_61, li_63, li_64, li_97, li_99, li_122, li_124, li_150, li_255, li_480, li_488, li_600, li_999, li_1110, li_54]
        rw [zup_zpt, wF_up hs (by omega) (by omega)]
        exact ih
      · rw [if_pos (by simp; omega)] at ih
        try simp (disch := omega) only [iI_add, iI_sub, iI_mul, iI_neg, iI_n, iI_lt, iI_le, iI_eq, iI_tn, iI_ti, bI_0, bI_1, iI_L, iL_0, Decidable.not_not, Int.toNat_natCast, zpt_at, zpt_ne, pk_us, pk_un, forall_eq, tn_0, tn_1, tn_2, tn_3, tn_4, tn_5, ni_1, ni_2, ni_3, ni_4, ni_5, not_false_eq_true, not_true_eq_false, true_implies, false_implies, and_true, true_and, iL_6, iL_m6, iL_7, iL_8, iL_9, iL_4, iL_m4, iL_m8, li_0, li_1, li_2, li_3, li_4, li_5, li_6, li_7, li_8, li_9, li_10, li_11, li_12, li_13, li_15, li_16, li_18, li_20, li_24, li_31, li_32, li_40, li_46, li_48, li_57, li_59, li_60, li_61, li_63, li_64, li_97, li_99, li_122, li_124, li_150, li_255, li_480, li_488, li_600, li_999, li_1110, li_54]
        rw [zup_zpt, wF_up hs (by omega) (by omega)]
        exact ih
  have hw2 := wF_wf hw (rpU_9 hw k s j 0)
  have hb2 := wF_b (m := m) (rpU m k s j 0)
  refine b_X7_repaints_13 (s_ofW (zpt_at _ _ _) hw2 (by rw [hb2.1.e_nS]; exact hk) ?_)
  rw [hb2.1.e_wd (by omega)]
  try simp (disch := omega) only [iI_add, iI_sub, iI_mul, iI_neg, iI_n, iI_lt, iI_le, iI_eq, iI_tn, iI_ti, bI_0, bI_1, iI_L, iL_0, Decidable.not_not, Int.toNat_natCast, zpt_at, zpt_ne, pk_us, pk_un, forall_eq, tn_0, tn_1, tn_2, tn_3, tn_4, tn_5, ni_1, ni_2, ni_3, ni_4, ni_5, not_false_eq_true, not_true_eq_false, true_implies, false_implies, and_true, true_and, iL_6, iL_m6, iL_7, iL_8, iL_9, iL_4, iL_m4, iL_m8, li_0, li_1, li_2, li_3, li_4, li_5, li_6, li_7, li_8, li_9, li_10, li_11, li_12, li_13, li_15, li_16, li_18, li_20, li_24, li_31, li_32, li_40, li_46, li_48, li_57, li_59, li_60, li_61, li_63, li_64, li_97, li_99, li_122, li_124, li_150, li_255, li_480, li_488, li_600, li_999, li_1110, li_54]
  refine ⟨fun h => ?_, fun h => inner (nH m) 0 (by omega) (by omega)⟩
  obtain rfl : j = wd m k := by omega
  rw [wF_cong (m := m) (f := rpU m k s (wd m k) 0) (f' := rpF m k s) (fun s' c r' _ _ _ => by
    unfold rpU rpF
    by_cases q : s' = s ∧ (fst m k ≤ c ∧ c < fst m k + wd m k) ∧ r' < nH m
    · rw [if_pos q, if_pos (by omega)]
    · rw [if_neg q, if_neg (by omega)])]
  exact H
termination_by wd m k - j
theorem s_repaints (hm : σ.1 26 = m) (hw : WF m) {k s : Nat} (hk : k < nS m) (hs : s < 2) (H : K (iI (unl m k s)) (zpt σ 26 (wF m (rpF m k s)))) : CT g l M_X7_repaints 0 [.ref (zad g 24), .int (iI k), .int (iI s)] σ (zQi K X) := by
  refine b_X7_repaints (s_firstOf hm hw (by omega) ?_)
  have := s_repaints_13 (g := g) (l := l) (X := X) hw hk hs H 0 (Nat.zero_le _)
  rw [wF_cong (m := m) (f := rpU m k s 0 0) (f' := fc m) (fun s' c r' _ _ _ => if_neg (by omega)), wF_id hw, ← hm, zpt_id, hm] at this
  exact this
/-- a face painted anew -/
noncomputable def mPaint (m : Nat → Int32) (k s : Nat) : Nat → Int32 := wF (mCoat m k s (ct m k s + 1)) (rpF m k s)
theorem mCoat_fc {k s v : Nat} (hk : k < 10) (hs : s < 2) : fc (mCoat m k s v) = fc m := by
  funext s' c r
  unfold fc qv mCoat
  rw [pk_un (by omega)]
theorem mCoat_rpF (hw : WF m) {k s v : Nat} (hk : k < nS m) (hs : s < 2) : rpF (mCoat m k s v) k s = rpF m k s := by
  have hb := wf_b hw
  have h := mCoat_b (m := m) (v := v) (show k < 10 by omega) hs
  funext s' c r'
  unfold rpF
  rw [h.1.e_fst (by omega), h.1.e_wd (by omega), h.1.e_nH, h.2.e_pic hw, mCoat_fc (by omega) hs]
theorem unl_same {m' : Nat → Int32} (hw : WF m) (hb : Sb m m') (hx : Sx m m') (hf : fc m' = fc m) {k : Nat} (hk : k < nS m) (s : Nat) : unl m' k s = unl m k s := by
  have hwb := wf_b hw
  unfold unl
  rw [hb.e_wd (by omega), hb.e_nH, hf, hb.e_fst (by omega)]
  exact fb_sm_cong (fun j _ => fb_ct_cong (fun r _ => by rw [hx.e_pic hw]))
theorem s_paints (hm : σ.1 26 = m) (hw : WF m) {k s : Nat} (hk : k < nS m) (hs : s < 2) (hc : ct m k s < 99) (H : K (iI (unl m k s)) (zpt σ 26 (mPaint m k s))) : CT g l M_X7_paints 0 [.ref (zad g 24), .int (iI k), .int (iI s)] σ (zQi K X) := by
  have hb := wf_b hw
  refine b_X7_paints ?_
  try simp (disch := omega) only [iI_add, iI_sub, iI_mul, iI_neg, iI_n, iI_lt, iI_le, iI_eq, iI_tn, iI_ti, bI_0, bI_1, iI_L, iL_0, Decidable.not_not, Int.toNat_natCast, zpt_at, zpt_ne, pk_us, pk_un, forall_eq, tn_0, tn_1, tn_2, tn_3, tn_4, tn_5, ni_1, ni_2, ni_3, ni_4, ni_5, not_false_eq_true, not_true_eq_false, true_implies, false_implies, and_true, true_and, iL_6, iL_m6, iL_7, iL_8, iL_9, iL_4, iL_m4, iL_m8, li_0, li_1, li_2, li_3, li_4, li_5, li_6, li_7, li_8, li_9, li_10, li_11, li_12, li_13, li_15, li_16, li_18, li_20, li_24, li_31, li_32, li_40, li_46, li_48, li_57, li_59, li_60, li_61, li_63, li_64, li_97, li_99, li_122, li_124, li_150, li_255, li_480, li_488, li_600, li_999, li_1110, li_54]
  refine s_ofC hm hw hk hs ?_
  try simp (disch := omega) only [iI_add, iI_sub, iI_mul, iI_neg, iI_n, iI_lt, iI_le, iI_eq, iI_tn, iI_ti, bI_0, bI_1, iI_L, iL_0, Decidable.not_not, Int.toNat_natCast, zpt_at, zpt_ne, pk_us, pk_un, forall_eq, tn_0, tn_1, tn_2, tn_3, tn_4, tn_5, ni_1, ni_2, ni_3, ni_4, ni_5, not_false_eq_true, not_true_eq_false, true_implies, false_implies, and_true, true_and, iL_6, iL_m6, iL_7, iL_8, iL_9, iL_4, iL_m4, iL_m8, li_0, li_1, li_2, li_3, li_4, li_5, li_6, li_7, li_8, li_9, li_10, li_11, li_12, li_13, li_15, li_16, li_18, li_20, li_24, li_31, li_32, li_40, li_46, li_48, li_57, li_59, li_60, li_61, li_63, li_64, li_97, li_99, li_122, li_124, li_150, li_255, li_480, li_488, li_600, li_999, li_1110, li_54]
  refine s_sets (b := 3 + s) (by omega) ?_
  have e : zup σ 26 (4 + 5 * k + (3 + s)) (iI ((ct m k s : Int) + 1)) = zpt σ 26 (mCoat m k s (ct m k s + 1)) := by
    rw [show zup σ 26 (4 + 5 * k + (3 + s)) (iI ((ct m k s : Int) + 1)) = zpt σ 26 (upd (σ.1 26) (4 + 5 * k + (3 + s)) (iI ((ct m k s : Int) + 1))) from rfl, hm, show 4 + 5 * k + (3 + s) = 7 + 5 * k + s by omega]
    rfl
  rw [e]
  have hw1 := mCoat_wf hw hk hs (v := ct m k s + 1) (by omega)
  have hb1 := mCoat_b (m := m) (v := ct m k s + 1) (show k < 10 by omega) hs
  refine s_repaints (zpt_at _ _ _) hw1 (by rw [hb1.1.e_nS]; exact hk) hs ?_
  rw [unl_same hw hb1.1 hb1.2 (mCoat_fc (by omega) hs) hk, mCoat_rpF hw hk hs, zpt_zpt]
  exact H
/-- a cell dabbed -/
def mDab (m : Nat → Int32) (k s c r v : Nat) : Nat → Int32 := wF m (fun s' c' r' => if s' = s ∧ c' = fst m k + c ∧ r' = r then v else fc m s' c' r')
theorem s_dabs0 (hm : σ.1 26 = m) (hw : WF m) {k s c r v : Nat} (hk : k < nS m) (hs : s < 2) (hc : c < wd m k) (hr : r < nH m) (H : K (iI (fc m s (fst m k + c) r)) (zpt σ 26 (mDab m k s c r v))) : CT g l M_X7_dabs0 0 [.ref (zad g 24), .int (iI k), .int (iI s), .int (iI c), .int (iI r), .int (iI v)] σ (zQi K X) := by
  have hb := wf_b hw
  have hcl := cols_le hw
  have hcc := fst_col hw hk hc
  have cell : vp_in (iI ((150 + 480 * s + 8 * (fst m k + c) + r : Nat) : Int)) 1110 := iI_in (by omega) (by omega) (by omega)
  have htn : (Int32.toNatClampNeg (iI ((150 + 480 * s + 8 * (fst m k + c) + r : Nat) : Int))) = 150 + 480 * s + 8 * (fst m k + c) + r := by
    rw [iI_tn (by omega) (by omega)]; rfl
  refine b_X7_dabs0 (s_firstOf hm hw (by omega) ?_)
  try simp (disch := omega) only [iI_add, iI_sub, iI_mul, iI_neg, iI_n, iI_lt, iI_le, iI_eq, iI_tn, iI_ti, bI_0, bI_1, iI_L, iL_0, Decidable.not_not, Int.toNat_natCast, zpt_at, zpt_ne, pk_us, pk_un, forall_eq, tn_0, tn_1, tn_2, tn_3, tn_4, tn_5, ni_1, ni_2, ni_3, ni_4, ni_5, not_false_eq_true, not_true_eq_false, true_implies, false_implies, and_true, true_and, iL_6, iL_m6, iL_7, iL_8, iL_9, iL_4, iL_m4, iL_m8, li_0, li_1, li_2, li_3, li_4, li_5, li_6, li_7, li_8, li_9, li_10, li_11, li_12, li_13, li_15, li_16, li_18, li_20, li_24, li_31, li_32, li_40, li_46, li_48, li_57, li_59, li_60, li_61, li_63, li_64, li_97, li_99, li_122, li_124, li_150, li_255, li_480, li_488, li_600, li_999, li_1110, li_54]
  refine s_faceCell (c := fst m k + c) ⟨cell, cell, ?_⟩
  rw [htn, hm, wf_f hw hs (by omega) (by omega)]
  rw [show zup σ 26 (150 + 480 * s + 8 * (fst m k + c) + r) (iI (v : Int)) = zpt σ 26 (upd (σ.1 26) (150 + 480 * s + 8 * (fst m k + c) + r) (iI (v : Int))) from rfl, hm]
  have e := wF_up (m := m) (f := fc m) (v := v) hs (show fst m k + c < 60 by omega) (show r < 8 by omega)
  rw [wF_id hw] at e
  rw [e]
  exact H
/-- the faces of a slat in each other's place, up to a cell -/
def swU (m : Nat → Int32) (k j r : Nat) (s' c r' : Nat) : Nat := if (fst m k ≤ c ∧ (c < fst m k + j ∨ (c = fst m k + j ∧ r' < r))) ∧ r' < nH m then fc m (1 - s') c r' else fc m s' c r'
def swF (m : Nat → Int32) (k : Nat) (s' c r' : Nat) : Nat := if (fst m k ≤ c ∧ c < fst m k + wd m k) ∧ r' < nH m then fc m (1 - s') c r' else fc m s' c r'
theorem swU_9 (hw : WF m) (k j r : Nat) : ∀ s' c r', s' < 2 → c < 60 → r' < 8 → swU m k j r s' c r' ≤ 9 := fun s' c r' h1 h2 h3 => by
  have := wf_f9 hw (show 1 - s' < 2 by omega) h2 h3
  have := wf_f9 hw h1 h2 h3
  unfold swU; split <;> omega
theorem swF_9 (hw : WF m) (k : Nat) : ∀ s' c r', s' < 2 → c < 60 → r' < 8 → swF m k s' c r' ≤ 9 := fun s' c r' h1 h2 h3 => by
  have := wf_f9 hw (show 1 - s' < 2 by omega) h2 h3
  have := wf_f9 hw h1 h2 h3
  unfold swF; split <;> omega
def swN (m : Nat → Int32) (k : Nat) : Nat := fb_sm (fun j => fb_ct (fun r => decide (fc m 1 (fst m k + j) r ≠ fc m 0 (fst m k + j) r)) (nH m)) (wd m k)
theorem s_swaps_39 (hw : WF m) {k : Nat} (hk : k < nS m) (H : K (iI (swN m k)) (zpt σ 26 (wF m (swF m k)))) (j : Nat) (hj : j ≤ wd m k) : L_X7_swaps_39 g l K X (iI k) (iI (fb_sm (fun j => fb_ct (fun r => decide (fc m 1 (fst m k + j) r ≠ fc m 0 (fst m k + j) r)) (nH m)) j)) (iI (fst m k)) (iI (fst m k + j : Nat)) (zpt σ 26 (wF m (swU m k j 0))) := by
  have hb := wf_b hw
  have hcl := cols_le hw
  have hsl := wf_s hw hk
  have hfl := fst_le hw (k := k) (by omega)
  have inner : ∀ n r, r + n = nH m → j < wd m k → L_X7_swaps_56 g l K X (iI k) (iI (fb_sm (fun j => fb_ct (fun r => decide (fc m 1 (fst m k + j) r ≠ fc m 0 (fst m k + j) r)) (nH m)) j + fb_ct (fun r => decide (fc m 1 (fst m k + j) r ≠ fc m 0 (fst m k + j) r)) r : Nat)) (iI (fst m k)) (iI (fst m k + j : Nat)) (iI r) (zpt σ 26 (wF m (swU m k j r))) := fun n => by
    induction n with
    | zero =>
      intro r e h
      have hw2 := wF_wf hw (swU_9 hw k j r)
      have hb2 := wF_b (m := m) (swU m k j r)
      refine b_X7_swaps_56 ?_
      rw [show (Int32.toNatClampNeg 0) = 0 from rfl, zpt_at, wf_0 hw2, hb2.1.e_nH]
      try simp (disch := omega) only [iI_add, iI_sub, iI_mul, iI_neg, iI_n, iI_lt, iI_le, iI_eq, iI_tn, iI_ti, bI_0, bI_1, iI_L, iL_0, Decidable.not_not, Int.toNat_natCast, zpt_at, zpt_ne, pk_us, pk_un, forall_eq, tn_0, tn_1, tn_2, tn_3, tn_4, tn_5, ni_1, ni_2, ni_3, ni_4, ni_5, not_false_eq_true, not_true_eq_false, true_implies, false_implies, and_true, true_and, iL_6, iL_m6, iL_7, iL_8, iL_9, iL_4, iL_m4, iL_m8, li_0, li_1, li_2, li_3, li_4, li_5, li_6, li_7, li_8, li_9, li_10, li_11, li_12, li_13, li_15, li_16, li_18, li_20, li_24, li_31, li_32, li_40, li_46, li_48, li_57, li_59, li_60, li_61, li_63, li_64, li_97, li_99, li_122, li_124, li_150, li_255, li_480, li_488, li_600, li_999, li_1110, li_54]
      refine ⟨fun _ => ?_, fun h => by omega⟩
      obtain rfl : r = nH m := by omega
      have := s_swaps_39 hw hk H (j + 1) h
      rw [wF_cong (m := m) (f := swU m k (j + 1) 0) (f' := swU m k j (nH m)) (fun s' c r' _ _ _ => by
        unfold swU
        by_cases q : (fst m k ≤ c ∧ (c < fst m k + (j + 1) ∨ (c = fst m k + (j + 1) ∧ r' < 0))) ∧ r' < nH m
        · rw [if_pos q, if_pos (by omega)]
        · rw [if_neg q, if_neg (by omega)])] at this
      exact this
    | succ n ih =>
      intro r e h
      have hcc := fst_col hw hk h
      have hc60 : fst m k + j < 60 := by omega
      have hr8 : r < 8 := by omega
      have hw2 := wF_wf hw (swU_9 hw k j r)
      have hb2 := wF_b (m := m) (swU m k j r)
      refine b_X7_swaps_56 ?_
      rw [show (Int32.toNatClampNeg 0) = 0 from rfl, zpt_at, wf_0 hw2, hb2.1.e_nH]
      have hf0 := wf_f9 hw (s := 0) (by decide) hc60 hr8
      have hf1 := wf_f9 hw (s := 1) (by decide) hc60 hr8
      have g0 : fc (wF m (swU m k j r)) 0 (fst m k + j) r = fc m 0 (fst m k + j) r := by
        rw [wF_fc (by decide) hc60 hr8 (swU_9 hw k j r _ _ _ (by decide) hc60 hr8)]; exact if_neg (by omega)
      have g1 : fc (wF m (swU m k j r)) 1 (fst m k + j) r = fc m 1 (fst m k + j) r := by
        rw [wF_fc (by decide) hc60 hr8 (swU_9 hw k j r _ _ _ (by decide) hc60 hr8)]; exact if_neg (by omega)
      try simp (disch := omega) only [iI_add, iI_sub, iI_mul, iI_neg, iI_n, iI_lt, iI_le, iI_eq, iI_tn, iI_ti, bI_0, bI_1, iI_L, iL_0, Decidable.not_not, Int.toNat_natCast, zpt_at, zpt_ne, pk_us, pk_un, forall_eq, tn_0, tn_1, tn_2, tn_3, tn_4, tn_5, ni_1, ni_2, ni_3, ni_4, ni_5, not_false_eq_true, not_true_eq_false, true_implies, false_implies, and_true, true_and, iL_6, iL_m6, iL_7, iL_8, iL_9, iL_4, iL_m4, iL_m8, li_0, li_1, li_2, li_3, li_4, li_5, li_6, li_7, li_8, li_9, li_10, li_11, li_12, li_13, li_15, li_16, li_18, li_20, li_24, li_31, li_32, li_40, li_46, li_48, li_57, li_59, li_60, li_61, li_63, li_64, li_97, li_99, li_122, li_124, li_150, li_255, li_480, li_488, li_600, li_999, li_1110, li_54]
      refine ⟨fun h => by omega, fun _ => ?_⟩
      refine s_painted (s := 0) (zpt_at _ _ _) hw2 (by decide) hc60 hr8 ?_
      refine s_painted (s := 1) (zpt_at _ _ _) hw2 (by decide) hc60 hr8 ?_
      rw [g0, g1]
      have ih := ih (r + 1) (by omega) h
      rw [fb_ct_succ, wF_cong (m := m) (f := swU m k j (r + 1)) (f' := fun s' c' r' => if s' = 1 ∧ c' = fst m k + j ∧ r' = r then fc m 0 (fst m k + j) r else if s' = 0 ∧ c' = fst m k + j ∧ r' = r then fc m 1 (fst m k + j) r else swU m k j r s' c' r') (fun s' c r' h2 _ _ => by
        unfold swU
        by_cases q : c = fst m k + j ∧ r' = r
        · obtain ⟨rfl, rfl⟩ := q
          rw [if_pos (by omega)]
          match s', h2 with
          | 0, _ => rw [if_neg (by omega), if_pos ⟨rfl, rfl, rfl⟩]
          | 1, _ => rw [if_pos ⟨rfl, rfl, rfl⟩]
        · have n1 : ¬ (s' = 1 ∧ c = fst m k + j ∧ r' = r) := fun x => q x.2
          have n0 : ¬ (s' = 0 ∧ c = fst m k + j ∧ r' = r) := fun x => q x.2
          rw [if_neg n1, if_neg n0]
          by_cases q2 : (fst m k ≤ c ∧ (c < fst m k + j ∨ (c = fst m k + j ∧ r' < r))) ∧ r' < nH m
          · rw [if_pos q2, if_pos (by omega)]
          · rw [if_neg q2, if_neg (by omega)])] at ih
      have cell0 : vp_in (iI ((150 + 480 * 0 + 8 * (fst m k + j) + r : Nat) : Int)) 1110 := iI_in (by omega) (by omega) (by omega)
      have cell1 : vp_in (iI ((150 + 480 * 1 + 8 * (fst m k + j) + r : Nat) : Int)) 1110 := iI_in (by omega) (by omega) (by omega)
      have body : ∀ y : Int32, L_X7_swaps_56 g l K X (iI k) y (iI (fst m k)) (iI (fst m k + j : Nat)) (iI ((r : Int) + 1)) (zpt σ 26 (wF m (fun s' c' r' => if s' = 1 ∧ c' = fst m k + j ∧ r' = r then fc m 0 (fst m k + j) r else if s' = 0 ∧ c' = fst m k + j ∧ r' = r then fc m 1 (fst m k + j) r else swU m k j r s' c' r'))) → CT g l M_X7_faceCell 0 [.int (iI 0), .int (iI (fst m k + j : Nat)), .int (iI r)] (zpt σ 26 (wF m (swU m k j r))) (zQi (fun v6 τ6 => CT g l M_X7_painted 0 [.ref (zad g 24), .int (iI 1), .int (iI (fst m k + j : Nat)), .int (iI r)] τ6 (zQi (fun v7 τ7 => (vp_in v6 1110 ∧ CT g l M_X7_faceCell 0 [.int (iI 1), .int (iI (fst m k + j : Nat)), .int (iI r)] (zup τ7 26 (Int32.toNatClampNeg v6) v7) (zQi (fun v9 τ9 => (vp_in v9 1110 ∧ L_X7_swaps_56 g l K X (iI k) y (iI (fst m k)) (iI (fst m k + j : Nat)) (iI ((r : Int) + 1)) (zup τ9 26 (Int32.toNatClampNeg v9) (iI (fc m 0 (fst m k + j) r))))) (fun E τ => X E τ)))) (fun E τ => X E τ))) (fun E τ => X E τ)) := by
        intro y hy
        refine s_faceCell (s := 0) (c := fst m k + j) ?_
        refine s_painted (s := 1) (zpt_at _ _ _) hw2 (by decide) hc60 hr8 ⟨cell0, ?_⟩
        rw [g1, show (Int32.toNatClampNeg (iI ((150 + 480 * 0 + 8 * (fst m k + j) + r : Nat) : Int))) = 150 + 480 * 0 + 8 * (fst m k + j) + r by rw [iI_tn (by omega) (by omega)]; rfl, zup_zpt, wF_up (s := 0) (by decide) hc60 hr8]
        refine s_faceCell (s := 1) (c := fst m k + j) ⟨cell1, ?_⟩
        rw [show (Int32.toNatClampNeg (iI ((150 + 480 * 1 + 8 * (fst m k + j) + r : Nat) : Int))) = 150 + 480 * 1 + 8 * (fst m k + j) + r by rw [iI_tn (by omega) (by omega)]; rfl, zup_zpt, wF_up (s := 1) (by decide) hc60 hr8]
        exact hy
      simp (disch := omega) only [iI_eq, forall_eq]
      refine ⟨fun h2 => s_truth0 ?_, fun h2 => s_truth1 ?_⟩
      · rw [if_neg (by simp; omega)] at ih
        have := body _ ih
        try simp (disch := omega) only [iI_add, iI_sub, iI_mul, iI_neg, iI_n, iI_lt, iI_le, iI_eq, iI_tn, iI_ti, bI_0, bI_1, iI_L, iL_0, Decidable.not_not, Int.toNat_natCast, zpt_at, zpt_ne, pk_us, pk_un, forall_eq, tn_0, tn_1, tn_2, tn_3, tn_4, tn_5, ni_1, ni_2, ni_3, ni_4, ni_5, not_false_eq_true, not_true_eq_false, true_implies, false_implies, and_true, true_and, iL_6, iL_m6, iL_7, iL_8, iL_9, iL_4, iL_m4, iL_m8, li_0, li_1, li_2, li_3, li_4, li_5, li_6, li_7, li_8, li_9, li_10, li_11, li_12, li_13, li_15, li_16, li_18, li_20, li_24, li_31, li_32, li_40, li_46, li_48, li_57, li_59, li_60, li_61, li_63, li_64, li_97, li_99, li_122, li_124, li_150, li_255, li_480, li_488, li_600, li_999, li_1110, li_54]
        try simp (disch := omega) only [iI_add, iI_sub, iI_mul, iI_neg, iI_n, iI_lt, iI_le, iI_eq, iI_tn, iI_ti, bI_0, bI_1, iI_L, iL_0, Decidable.not_not, Int.toNat_natCast, zpt_at, zpt_ne, pk_us, pk_un, forall_eq, tn_0, tn_1, tn_2, tn_3, tn_4, tn_5, ni_1, ni_2, ni_3, ni_4, ni_5, not_false_eq_true, not_true_eq_false, true_implies, false_implies, and_true, true_and, iL_6, iL_m6, iL_7, iL_8, iL_9, iL_4, iL_m4, iL_m8, li_0, li_1, li_2, li_3, li_4, li_5, li_6, li_7, li_8, li_9, li_10, li_11, li_12, li_13, li_15, li_16, li_18, li_20, li_24, li_31, li_32, li_40, li_46, li_48, li_57, li_59, li_60, li_61, li_63, li_64, li_97, li_99, li_122, li_124, li_150, li_255, li_480, li_488, li_600, li_999, li_1110, li_54] at this
        exact this
      · rw [if_pos (by simp; omega)] at ih
        have := body _ ih
        try simp (disch := omega) only [iI_add, iI_sub, iI_mul, iI_neg, iI_n, iI_lt, iI_le, iI_eq, iI_tn, iI_ti, bI_0, bI_1, iI_L, iL_0, Decidable.not_not, Int.toNat_natCast, zpt_at, zpt_ne, pk_us, pk_un, forall_eq, tn_0, tn_1, tn_2, tn_3, tn_4, tn_5, ni_1, ni_2, ni_3, ni_4, ni_5, not_false_eq_true, not_true_eq_false, true_implies, false_implies, and_true, true_and, iL_6, iL_m6, iL_7, iL_8, iL_9, iL_4, iL_m4, iL_m8, li_0, li_1, li_2, li_3, li_4, li_5, li_6, li_7, li_8, li_9, li_10, li_11, li_12, li_13, li_15, li_16, li_18, li_20, li_24, li_31, li_32, li_40, li_46, li_48, li_57, li_59, li_60, li_61, li_63, li_64, li_97, li_99, li_122, li_124, li_150, li_255, li_480, li_488, li_600, li_999, li_1110, li_54]
        try simp (disch := omega) only [iI_add, iI_sub, iI_mul, iI_neg, iI_n, iI_lt, iI_le, iI_eq, iI_tn, iI_ti, bI_0, bI_1, iI_L, iL_0, Decidable.not_not, Int.toNat_natCast, zpt_at, zpt_ne, pk_us, pk_un, forall_eq, tn_0, tn_1, tn_2, tn_3, tn_4, tn_5, ni_1, ni_2, ni_3, ni_4, ni_5, not_false_eq_true, not_true_eq_false, true_implies, false_implies, and_true, true_and, iL_6, iL_m6, iL_7, iL_8, iL_9, iL_4, iL_m4, iL_m8, li_0, li_1, li_2, li_3, li_4, li_5, li_6, li_7, li_8, li_9, li_10, li_11, li_12, li_13, li_15, li_16, li_18, li_20, li_24, li_31, li_32, li_40, li_46, li_48, li_57, li_59, li_60, li_61, li_63, li_64, li_97, li_99, li_122, li_124, li_150, li_255, li_480, li_488, li_600, li_999, li_1110, li_54] at this
        exact this
  have hw2 := wF_wf hw (swU_9 hw k j 0)
  have hb2 := wF_b (m := m) (swU m k j 0)
  refine b_X7_swaps_39 (s_ofW (zpt_at _ _ _) hw2 (by rw [hb2.1.e_nS]; exact hk) ?_)
  rw [hb2.1.e_wd (by omega)]
  try simp (disch := omega) only [iI_add, iI_sub, iI_mul, iI_neg, iI_n, iI_lt, iI_le, iI_eq, iI_tn, iI_ti, bI_0, bI_1, iI_L, iL_0, Decidable.not_not, Int.toNat_natCast, zpt_at, zpt_ne, pk_us, pk_un, forall_eq, tn_0, tn_1, tn_2, tn_3, tn_4, tn_5, ni_1, ni_2, ni_3, ni_4, ni_5, not_false_eq_true, not_true_eq_false, true_implies, false_implies, and_true, true_and, iL_6, iL_m6, iL_7, iL_8, iL_9, iL_4, iL_m4, iL_m8, li_0, li_1, li_2, li_3, li_4, li_5, li_6, li_7, li_8, li_9, li_10, li_11, li_12, li_13, li_15, li_16, li_18, li_20, li_24, li_31, li_32, li_40, li_46, li_48, li_57, li_59, li_60, li_61, li_63, li_64, li_97, li_99, li_122, li_124, li_150, li_255, li_480, li_488, li_600, li_999, li_1110, li_54]
  refine ⟨fun h => ?_, fun h => inner (nH m) 0 (by omega) (by omega)⟩
  obtain rfl : j = wd m k := by omega
  rw [wF_cong (m := m) (f := swU m k (wd m k) 0) (f' := swF m k) (fun s' c r' _ _ _ => by
    unfold swU swF
    by_cases q : (fst m k ≤ c ∧ c < fst m k + wd m k) ∧ r' < nH m
    · rw [if_pos q, if_pos (by omega)]
    · rw [if_neg q, if_neg (by omega)])]
  exact H
termination_by wd m k - j
end ZMC
