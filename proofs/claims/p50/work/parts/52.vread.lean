/-! what is read of the view -/
section ZVR
variable {g : zG} {l : Launch} {K : Int32 → zS → Prop} {X : String → zS → Prop} {m : Nat → Int32} {σ : zS} {a : Int}
theorem tnk {k n : Nat} (h : k < n) (hn : n ≤ 1000) : (Int32.toNatClampNeg (iI (k : Int))) = k := by
  rw [iI_tn (by omega) (by omega)]; rfl
theorem c_isShown (hw : WF m) (hV : Vw σ m a) {c : Nat} (hc : c < cols m) (H : K (bI (stt m a c = 0)) σ) : CT g l M_X5_isShown 0 [.ref (zad g 18), .int (iI c)] σ (zQi K X) := by
  have hcl := cols_le hw
  have hst := stt_le m a c
  refine b_X5_isShown ⟨in60 hc hcl.1, ?_⟩
  rw [tnk hc (by omega), (hV c hc).1]
  try simp (disch := omega) only [iI_add, iI_sub, iI_mul, iI_neg, iI_n, iI_lt, iI_le, iI_eq, iI_tn, iI_ti, bI_0, bI_1, iI_L, iL_0, Decidable.not_not, Int.toNat_natCast, zpt_at, zpt_ne, pk_us, pk_un, forall_eq, tn_0, tn_1, tn_2, tn_3, tn_4, tn_5, ni_1, ni_2, ni_3, ni_4, ni_5, not_false_eq_true, not_true_eq_false, true_implies, false_implies, and_true, true_and, iL_6, iL_m6, iL_7, iL_8, iL_9, iL_4, iL_m4, iL_m8, li_0, li_1, li_2, li_3, li_4, li_5, li_6, li_7, li_8, li_9, li_10, li_11, li_12, li_13, li_15, li_16, li_18, li_20, li_24, li_31, li_32, li_40, li_46, li_48, li_57, li_59, li_60, li_61, li_63, li_64, li_97, li_99, li_122, li_124, li_150, li_255, li_480, li_488, li_600, li_999, li_1110, li_54]
  refine ⟨fun h => ?_, fun h => ?_⟩
  · rw [bI_F (by omega)] at H; exact H
  · rw [bI_T (by omega)] at H; exact H
theorem c_seenAt (hw : WF m) (hV : Vw σ m a) {c r : Nat} (hc : c < cols m) (hr : r < nH m) (H : K (iI (snN m a c r)) σ) : CT g l M_X5_seenAt 0 [.ref (zad g 18), .int (iI c), .int (iI r)] σ (zQi K X) := by
  have hcl := cols_le hw
  have hb := wf_b hw
  have hst := stt_le m a c
  have hv := hV c hc
  unfold snN at H
  refine b_X5_seenAt (c_isShown hw hV hc ?_)
  rw [tnk hc (by omega), hv.1]
  try simp (disch := omega) only [iI_add, iI_sub, iI_mul, iI_neg, iI_n, iI_lt, iI_le, iI_eq, iI_tn, iI_ti, bI_0, bI_1, iI_L, iL_0, Decidable.not_not, Int.toNat_natCast, zpt_at, zpt_ne, pk_us, pk_un, forall_eq, tn_0, tn_1, tn_2, tn_3, tn_4, tn_5, ni_1, ni_2, ni_3, ni_4, ni_5, not_false_eq_true, not_true_eq_false, true_implies, false_implies, and_true, true_and, iL_6, iL_m6, iL_7, iL_8, iL_9, iL_4, iL_m4, iL_m8, li_0, li_1, li_2, li_3, li_4, li_5, li_6, li_7, li_8, li_9, li_10, li_11, li_12, li_13, li_15, li_16, li_18, li_20, li_24, li_31, li_32, li_40, li_46, li_48, li_57, li_59, li_60, li_61, li_63, li_64, li_97, li_99, li_122, li_124, li_150, li_255, li_480, li_488, li_600, li_999, li_1110, li_54]
  refine ⟨fun h => ⟨in60 hc hcl.1, fun h' => ?_, fun h' => ?_⟩, fun h => ⟨in60 hc hcl.1, ?_⟩⟩
  · rw [if_neg (by omega), if_neg (by omega)] at H; exact H
  · rw [if_neg (by omega), if_pos (by omega)] at H; exact H
  · rw [if_pos h] at H
    refine c_colourIn (by omega) ?_
    rw [hv.2.1 r (by omega), if_pos hr]
    exact H
theorem c_isSeenRight (hw : WF m) (hR : R0 σ 73 m) (hV : Vw σ m a) {s c r : Nat} (hs : s < 2) (hc : c < cols m) (hr : r < nH m) (H : K (bI (whyN m a s c r = 0)) σ) : CT g l M_X5_isSeenRight 0 [.ref (zad g 18), .int (iI s), .int (iI c), .int (iI r)] σ (zQi K X) := by
  have hcl := cols_le hw
  have hb := wf_b hw
  have hv := hV c hc
  have hpl := pic_le hw s c r
  have hfl : cS m a c r ≤ 9 := wf_f9 hw (sdS_lt m a c) (c := c) (r := r) (by omega) (by omega)
  refine b_X5_isSeenRight (c_pictureOf zB_73 hs ⟨(zB_p zB_73 hs).1, (zB_p zB_73 hs).2, in60 hc hcl.1, ?_⟩)
  rw [tnk hc (by omega)]
  refine c_colourIn (by omega) (c_isShown hw hV hc ?_)
  rw [(hR.2.2.2.2.2.2.2.2 c hc s hs).1 r (by omega), if_pos hr]
  try simp (disch := omega) only [iI_add, iI_sub, iI_mul, iI_neg, iI_n, iI_lt, iI_le, iI_eq, iI_tn, iI_ti, bI_0, bI_1, iI_L, iL_0, Decidable.not_not, Int.toNat_natCast, zpt_at, zpt_ne, pk_us, pk_un, forall_eq, tn_0, tn_1, tn_2, tn_3, tn_4, tn_5, ni_1, ni_2, ni_3, ni_4, ni_5, not_false_eq_true, not_true_eq_false, true_implies, false_implies, and_true, true_and, iL_6, iL_m6, iL_7, iL_8, iL_9, iL_4, iL_m4, iL_m8, li_0, li_1, li_2, li_3, li_4, li_5, li_6, li_7, li_8, li_9, li_10, li_11, li_12, li_13, li_15, li_16, li_18, li_20, li_24, li_31, li_32, li_40, li_46, li_48, li_57, li_59, li_60, li_61, li_63, li_64, li_97, li_99, li_122, li_124, li_150, li_255, li_480, li_488, li_600, li_999, li_1110, li_54]
  refine ⟨fun h => ?_, fun h => ⟨in60 hc hcl.1, c_colourIn (by omega) ?_⟩⟩
  · rw [bI_F (by unfold whyN; rw [if_pos h]; exact h)] at H; exact H
  · rw [hv.2.1 r (by omega), if_pos hr]
    try simp (disch := omega) only [iI_add, iI_sub, iI_mul, iI_neg, iI_n, iI_lt, iI_le, iI_eq, iI_tn, iI_ti, bI_0, bI_1, iI_L, iL_0, Decidable.not_not, Int.toNat_natCast, zpt_at, zpt_ne, pk_us, pk_un, forall_eq, tn_0, tn_1, tn_2, tn_3, tn_4, tn_5, ni_1, ni_2, ni_3, ni_4, ni_5, not_false_eq_true, not_true_eq_false, true_implies, false_implies, and_true, true_and, iL_6, iL_m6, iL_7, iL_8, iL_9, iL_4, iL_m4, iL_m8, li_0, li_1, li_2, li_3, li_4, li_5, li_6, li_7, li_8, li_9, li_10, li_11, li_12, li_13, li_15, li_16, li_18, li_20, li_24, li_31, li_32, li_40, li_46, li_48, li_57, li_59, li_60, li_61, li_63, li_64, li_97, li_99, li_122, li_124, li_150, li_255, li_480, li_488, li_600, li_999, li_1110, li_54]
    refine ⟨fun h' => ?_, fun h' => ?_⟩
    · rw [bI_F (by unfold whyN; rw [if_neg (by omega), if_neg (by omega)]; split <;> decide)] at H; exact H
    · rw [bI_T (by unfold whyN; rw [if_neg (by omega), if_pos (by omega)])] at H; exact H
theorem c_whyNotRight (hw : WF m) (hR : R0 σ 73 m) (hV : Vw σ m a) {s c r : Nat} (hs : s < 2) (hc : c < cols m) (hr : r < nH m) (H : K (iI (whyN m a s c r)) σ) : CT g l M_X5_whyNotRight 0 [.ref (zad g 18), .int (iI s), .int (iI c), .int (iI r)] σ (zQi K X) := by
  have hcl := cols_le hw
  have hv := hV c hc
  have hst := stt_le m a c
  have hsd := sdS_lt m a c
  refine b_X5_whyNotRight (c_isShown hw hV hc ?_)
  rw [tnk hc (by omega), hv.1]
  try simp (disch := omega) only [iI_add, iI_sub, iI_mul, iI_neg, iI_n, iI_lt, iI_le, iI_eq, iI_tn, iI_ti, bI_0, bI_1, iI_L, iL_0, Decidable.not_not, Int.toNat_natCast, zpt_at, zpt_ne, pk_us, pk_un, forall_eq, tn_0, tn_1, tn_2, tn_3, tn_4, tn_5, ni_1, ni_2, ni_3, ni_4, ni_5, not_false_eq_true, not_true_eq_false, true_implies, false_implies, and_true, true_and, iL_6, iL_m6, iL_7, iL_8, iL_9, iL_4, iL_m4, iL_m8, li_0, li_1, li_2, li_3, li_4, li_5, li_6, li_7, li_8, li_9, li_10, li_11, li_12, li_13, li_15, li_16, li_18, li_20, li_24, li_31, li_32, li_40, li_46, li_48, li_57, li_59, li_60, li_61, li_63, li_64, li_97, li_99, li_122, li_124, li_150, li_255, li_480, li_488, li_600, li_999, li_1110, li_54]
  refine ⟨fun h => ⟨in60 hc hcl.1, ?_⟩, fun h => c_isSeenRight hw hR hV hs hc hr ?_⟩
  · unfold whyN at H; rw [if_pos h] at H; exact H
  · rw [hv.1, hv.2.2]
    try simp (disch := omega) only [iI_add, iI_sub, iI_mul, iI_neg, iI_n, iI_lt, iI_le, iI_eq, iI_tn, iI_ti, bI_0, bI_1, iI_L, iL_0, Decidable.not_not, Int.toNat_natCast, zpt_at, zpt_ne, pk_us, pk_un, forall_eq, tn_0, tn_1, tn_2, tn_3, tn_4, tn_5, ni_1, ni_2, ni_3, ni_4, ni_5, not_false_eq_true, not_true_eq_false, true_implies, false_implies, and_true, true_and, iL_6, iL_m6, iL_7, iL_8, iL_9, iL_4, iL_m4, iL_m8, li_0, li_1, li_2, li_3, li_4, li_5, li_6, li_7, li_8, li_9, li_10, li_11, li_12, li_13, li_15, li_16, li_18, li_20, li_24, li_31, li_32, li_40, li_46, li_48, li_57, li_59, li_60, li_61, li_63, li_64, li_97, li_99, li_122, li_124, li_150, li_255, li_480, li_488, li_600, li_999, li_1110, li_54]
    refine ⟨fun h' => ⟨in60 hc hcl.1, fun h2 => ?_, fun h2 => ?_⟩, fun h' => ⟨in60 hc hcl.1, ?_⟩⟩
    · unfold whyN at H h'
      rw [if_neg (by omega)] at H h'
      by_cases e : cS m a c r = pic m s c r
      · rw [if_pos e] at h'; omega
      · rw [if_neg e, if_pos (by omega)] at H; exact H
    · unfold whyN at H h'
      rw [if_neg (by omega)] at H h'
      by_cases e : cS m a c r = pic m s c r
      · rw [if_pos e] at h'; omega
      · rw [if_neg e, if_neg (by omega)] at H; exact H
    · rw [h'] at H; rw [h]; exact H
theorem c_columnsWith_4 (hw : WF m) (hR : R0 σ 73 m) (hV : Vw σ m a) {q : Nat} (hq : q < 10) (H : K (iI (fb_ct (fun c => decide (stt m a c = q)) (cols m))) σ) (c : Nat) (hc : c ≤ cols m) : L_X5_columnsWith_4 g l K X (iI q) (iI (fb_ct (fun c => decide (stt m a c = q)) c)) (iI c) σ := by
  have hcl := cols_le hw
  have hst := stt_le m a c
  have ih := fun h => c_columnsWith_4 hw hR hV hq H (c + 1) h
  refine b_X5_columnsWith_4 ?_
  rw [hR.2.2.2.1]
  try simp (disch := omega) only [iI_add, iI_sub, iI_mul, iI_neg, iI_n, iI_lt, iI_le, iI_eq, iI_tn, iI_ti, bI_0, bI_1, iI_L, iL_0, Decidable.not_not, Int.toNat_natCast, zpt_at, zpt_ne, pk_us, pk_un, forall_eq, tn_0, tn_1, tn_2, tn_3, tn_4, tn_5, ni_1, ni_2, ni_3, ni_4, ni_5, not_false_eq_true, not_true_eq_false, true_implies, false_implies, and_true, true_and, iL_6, iL_m6, iL_7, iL_8, iL_9, iL_4, iL_m4, iL_m8, li_0, li_1, li_2, li_3, li_4, li_5, li_6, li_7, li_8, li_9, li_10, li_11, li_12, li_13, li_15, li_16, li_18, li_20, li_24, li_31, li_32, li_40, li_46, li_48, li_57, li_59, li_60, li_61, li_63, li_64, li_97, li_99, li_122, li_124, li_150, li_255, li_480, li_488, li_600, li_999, li_1110, li_54]
  refine ⟨fun h => ?_, fun h => ⟨in60 (n := cols m) (by omega) hcl.1, ?_⟩⟩
  · obtain rfl : c = cols m := by omega
    exact H
  · replace ih := ih (by omega)
    rw [fb_ct_succ] at ih
    rw [(hV c (by omega)).1]
    try simp (disch := omega) only [iI_add, iI_sub, iI_mul, iI_neg, iI_n, iI_lt, iI_le, iI_eq, iI_tn, iI_ti, bI_0, bI_1, iI_L, iL_0, Decidable.not_not, Int.toNat_natCast, zpt_at, zpt_ne, pk_us, pk_un, forall_eq, tn_0, tn_1, tn_2, tn_3, tn_4, tn_5, ni_1, ni_2, ni_3, ni_4, ni_5, not_false_eq_true, not_true_eq_false, true_implies, false_implies, and_true, true_and, iL_6, iL_m6, iL_7, iL_8, iL_9, iL_4, iL_m4, iL_m8, li_0, li_1, li_2, li_3, li_4, li_5, li_6, li_7, li_8, li_9, li_10, li_11, li_12, li_13, li_15, li_16, li_18, li_20, li_24, li_31, li_32, li_40, li_46, li_48, li_57, li_59, li_60, li_61, li_63, li_64, li_97, li_99, li_122, li_124, li_150, li_255, li_480, li_488, li_600, li_999, li_1110, li_54]
    refine ⟨fun h2 => ?_, fun h2 => ?_⟩
    · rw [if_neg (by simp; omega)] at ih
      exact ih
    · rw [if_pos (by simp; omega)] at ih
      exact ih
termination_by cols m - c
theorem c_columnsWith (hw : WF m) (hR : R0 σ 73 m) (hV : Vw σ m a) {q : Nat} (hq : q < 10) (H : K (iI (fb_ct (fun c => decide (stt m a c = q)) (cols m))) σ) : CT g l M_X5_columnsWith 0 [.ref (zad g 18), .int (iI q)] σ (zQi K X) :=
  b_X5_columnsWith (c_columnsWith_4 hw hR hV hq H 0 (Nat.zero_le _))
/-- the rows of a column that are seen right -/
noncomputable def rowsR (m : Nat → Int32) (a : Int) (s c : Nat) : Nat := fb_ct (fun r => decide (whyN m a s c r = 0)) (nH m)
theorem why0 (m : Nat → Int32) (a : Int) (s c r : Nat) : whyN m a s c r = 0 ↔ (stt m a c = 0 ∧ cS m a c r = pic m s c r) := by
  unfold whyN
  by_cases h : stt m a c = 0
  · rw [if_neg (by omega)]
    by_cases h' : cS m a c r = pic m s c r
    · rw [if_pos h']; exact ⟨fun _ => ⟨h, h'⟩, fun _ => rfl⟩
    · rw [if_neg h']
      refine ⟨fun q => ?_, fun q => absurd q.2 h'⟩
      split at q <;> omega
  · rw [if_pos h]; exact ⟨fun q => absurd q h, fun q => absurd q.1 h⟩
theorem rowsR_0 {s c : Nat} (h : stt m a c ≠ 0) : rowsR m a s c = 0 := by
  unfold rowsR
  rw [fb_ct_zero]
  intro r _
  simp only [decide_eq_false_iff_not, why0]
  exact fun q => h q.1
theorem rowsR_1 {s c : Nat} (h : stt m a c = 0) : rowsR m a s c + fb_ct (fun r => decide (cS m a c r ≠ pic m s c r)) (nH m) = nH m := by
  have e := fb_ct_not (fun r => decide (cS m a c r ≠ pic m s c r)) (nH m)
  have e2 : fb_ct (fun r => decide (whyN m a s c r = 0)) (nH m) = fb_ct (fun r => !decide (cS m a c r ≠ pic m s c r)) (nH m) := fb_ct_cong (fun r _ => by
    by_cases e : cS m a c r = pic m s c r
    · simp [why0, h, e]
    · simp [why0, e])
  unfold rowsR
  omega
theorem c_rightCells_16 (hw : WF m) (hR : R0 σ 73 m) (hV : Vw σ m a) {s f t : Nat} (hs : s < 2) (ht : f + t ≤ cols m) (H : K (iI (fb_sm (fun j => rowsR m a s (f + j)) t)) σ) (j : Nat) (hj : j ≤ t) : L_X5_rightCells_16 g l K X (iI (f + t : Nat)) (73 + 6 + s) (iI (fb_sm (fun j => rowsR m a s (f + j)) j)) (iI (f + j : Nat)) σ := by
  have hcl := cols_le hw
  have hb := wf_b hw
  have ih := fun h => c_rightCells_16 hw hR hV hs ht H (j + 1) h
  refine b_X5_rightCells_16 (zB_p zB_73 hs).1 (zB_p zB_73 hs).2 ?_
  try simp (disch := omega) only [iI_add, iI_sub, iI_mul, iI_neg, iI_n, iI_lt, iI_le, iI_eq, iI_tn, iI_ti, bI_0, bI_1, iI_L, iL_0, Decidable.not_not, Int.toNat_natCast, zpt_at, zpt_ne, pk_us, pk_un, forall_eq, tn_0, tn_1, tn_2, tn_3, tn_4, tn_5, ni_1, ni_2, ni_3, ni_4, ni_5, not_false_eq_true, not_true_eq_false, true_implies, false_implies, and_true, true_and, iL_6, iL_m6, iL_7, iL_8, iL_9, iL_4, iL_m4, iL_m8, li_0, li_1, li_2, li_3, li_4, li_5, li_6, li_7, li_8, li_9, li_10, li_11, li_12, li_13, li_15, li_16, li_18, li_20, li_24, li_31, li_32, li_40, li_46, li_48, li_57, li_59, li_60, li_61, li_63, li_64, li_97, li_99, li_122, li_124, li_150, li_255, li_480, li_488, li_600, li_999, li_1110, li_54]
  refine ⟨fun h => ?_, fun h => ?_⟩
  · obtain rfl : j = t := by omega
    exact H
  · have hc : f + j < cols m := by omega
    replace ih := ih (by omega)
    rw [fb_sm_succ] at ih
    refine c_isShown (c := f + j) hw hV hc ?_
    try simp (disch := omega) only [iI_add, iI_sub, iI_mul, iI_neg, iI_n, iI_lt, iI_le, iI_eq, iI_tn, iI_ti, bI_0, bI_1, iI_L, iL_0, Decidable.not_not, Int.toNat_natCast, zpt_at, zpt_ne, pk_us, pk_un, forall_eq, tn_0, tn_1, tn_2, tn_3, tn_4, tn_5, ni_1, ni_2, ni_3, ni_4, ni_5, not_false_eq_true, not_true_eq_false, true_implies, false_implies, and_true, true_and, iL_6, iL_m6, iL_7, iL_8, iL_9, iL_4, iL_m4, iL_m8, li_0, li_1, li_2, li_3, li_4, li_5, li_6, li_7, li_8, li_9, li_10, li_11, li_12, li_13, li_15, li_16, li_18, li_20, li_24, li_31, li_32, li_40, li_46, li_48, li_57, li_59, li_60, li_61, li_63, li_64, li_97, li_99, li_122, li_124, li_150, li_255, li_480, li_488, li_600, li_999, li_1110, li_54]
    refine ⟨fun h2 => ?_, fun h2 => ⟨in60 hc hcl.1, in60 hc hcl.1, ?_⟩⟩
    · rw [rowsR_0 h2] at ih
      exact ih
    · have e := rowsR_1 (s := s) h2
      refine c_unlikeRows (hV _ hc).2.1 ((hR.2.2.2.2.2.2.2.2 _ hc s hs).1) hb.2.1 ?_
      rw [hR.1]
      try simp (disch := omega) only [iI_add, iI_sub, iI_mul, iI_neg, iI_n, iI_lt, iI_le, iI_eq, iI_tn, iI_ti, bI_0, bI_1, iI_L, iL_0, Decidable.not_not, Int.toNat_natCast, zpt_at, zpt_ne, pk_us, pk_un, forall_eq, tn_0, tn_1, tn_2, tn_3, tn_4, tn_5, ni_1, ni_2, ni_3, ni_4, ni_5, not_false_eq_true, not_true_eq_false, true_implies, false_implies, and_true, true_and, iL_6, iL_m6, iL_7, iL_8, iL_9, iL_4, iL_m4, iL_m8, li_0, li_1, li_2, li_3, li_4, li_5, li_6, li_7, li_8, li_9, li_10, li_11, li_12, li_13, li_15, li_16, li_18, li_20, li_24, li_31, li_32, li_40, li_46, li_48, li_57, li_59, li_60, li_61, li_63, li_64, li_97, li_99, li_122, li_124, li_150, li_255, li_480, li_488, li_600, li_999, li_1110, li_54]
      rw [show (fb_sm (fun j => rowsR m a s (f + j)) j : Int) + ((nH m : Int) - (fb_ct (fun r => decide (cS m a (f + j) r ≠ pic m s (f + j) r)) (nH m) : Int)) = ((fb_sm (fun j => rowsR m a s (f + j)) j + rowsR m a s (f + j) : Nat) : Int) by omega]
      exact ih
termination_by t - j
theorem c_rightCells (hw : WF m) (hR : R0 σ 73 m) (hV : Vw σ m a) {s f t : Nat} (hs : s < 2) (ht : f + t ≤ cols m) (H : K (iI (fb_sm (fun j => rowsR m a s (f + j)) t)) σ) : CT g l M_X5_rightCells 0 [.ref (zad g 18), .int (iI s), .int (iI f), .int (iI (f + t : Nat))] σ (zQi K X) :=
  b_X5_rightCells (c_pictureOf zB_73 hs ⟨(zB_p zB_73 hs).1, (zB_p zB_73 hs).2, c_rightCells_16 hw hR hV hs ht H 0 (Nat.zero_le _)⟩)
theorem c_rightAll (hw : WF m) (hR : R0 σ 73 m) (hV : Vw σ m a) {s : Nat} (hs : s < 2) (H : K (iI (rgt m a s)) σ) : CT g l M_X5_rightCells 0 [.ref (zad g 18), .int (iI s), .int (iI 0), .int (iI (cols m))] σ (zQi K X) := by
  have := c_rightCells (g := g) (l := l) (K := K) (X := X) hw hR hV (f := 0) (t := cols m) hs (by omega) (by
    rw [show fb_sm (fun j => rowsR m a s (0 + j)) (cols m) = rgt m a s from fb_sm_cong (fun k _ => by rw [Nat.zero_add]; rfl)]
    exact H)
  rw [Nat.zero_add] at this
  exact this
theorem wrong_right (hw : WF m) {k : Nat} (hk : k < nS m) (s : Nat) : wrongN m k a s + fb_sm (fun j => rowsR m a s (fst m k + j)) (wd m k) = wd m k * nH m := by
  unfold wrongN rowsR
  rw [← fb_sm_const (nH m) (wd m k), ← fb_sm_add]
  refine fb_sm_cong (fun j _ => ?_)
  have e := fb_ct_not (fun r => decide (whyN m a s (fst m k + j) r = 0)) (nH m)
  have e2 : fb_ct (fun r => decide (whyN m a s (fst m k + j) r ≠ 0)) (nH m) = fb_ct (fun r => !decide (whyN m a s (fst m k + j) r = 0)) (nH m) := fb_ct_cong (fun r _ => by
    by_cases e : whyN m a s (fst m k + j) r = 0 <;> simp [e])
  omega
theorem ct_full {p : Nat → Nat → Bool} {h : Nat} : ∀ {n : Nat}, fb_sm (fun c => fb_ct (p c) h) n = n * h ↔ ∀ c, c < n → ∀ r, r < h → p c r = true
  | 0 => ⟨fun _ c hc => by omega, fun _ => by rw [Nat.zero_mul]; rfl⟩
  | n + 1 => by
    rw [fb_sm_succ]
    have h1 := fb_sm_bound (f := fun c => fb_ct (p c) h) (c := h) (n := n) (fun k _ => fb_ct_le _ _)
    have h2 := fb_ct_le (p n) h
    have ih := ct_full (p := p) (h := h) (n := n)
    rw [Nat.add_mul, Nat.one_mul]
    constructor
    · intro e c hc r hr
      have e1 : fb_sm (fun c => fb_ct (p c) h) n = n * h := by omega
      have e2 : fb_ct (p n) h = h := by omega
      rcases Nat.lt_or_ge c n with q | q
      · exact ih.mp e1 c q r hr
      · obtain rfl : c = n := by omega
        exact fb_ct_all.mp e2 r hr
    · intro e
      rw [ih.mpr (fun c hc r hr => e c (by omega) r hr), fb_ct_all.mpr (fun r hr => e n (by omega) r hr)]
theorem rgt_full (s : Nat) : rgt m a s = cols m * nH m ↔ ∀ c, c < cols m → ∀ r, r < nH m → whyN m a s c r = 0 := by
  unfold rgt
  rw [ct_full]
  exact ⟨fun h c hc r hr => of_decide_eq_true (h c hc r hr), fun h c hc r hr => decide_eq_true (h c hc r hr)⟩
theorem fstN_full (s : Nat) : fstN m a s = cols m * nH m ↔ ∀ c, c < cols m → ∀ r, r < nH m → whyN m a s c r = 0 := by
  constructor
  · intro h c hc r hr
    have hi : r * cols m + c < cols m * nH m := by
      have : (r + 1) * cols m ≤ nH m * cols m := Nat.mul_le_mul_right _ hr
      rw [Nat.add_mul, Nat.one_mul, Nat.mul_comm (nH m)] at this
      omega
    have := fa_first_no (fun i => decide (whyN m a s (i % cols m) (i / cols m) ≠ 0)) (cols m * nH m) (r * cols m + c) (by show _ < fstN m a s; omega)
    rw [decide_eq_false_iff_not, Nat.mul_comm, Nat.mul_add_mod, Nat.mod_eq_of_lt hc, Nat.mul_add_div (by omega), Nat.div_eq_of_lt hc, Nat.add_zero] at this
    exact Decidable.not_not.mp this
  · intro h
    rcases Nat.lt_or_ge (fstN m a s) (cols m * nH m) with q | q
    · exfalso
      have h0 : 0 < cols m := by
        rcases Nat.eq_zero_or_pos (cols m) with e | e
        · rw [e, Nat.zero_mul] at q; omega
        · exact e
      have hy : decide (whyN m a s (fstN m a s % cols m) (fstN m a s / cols m) ≠ 0) = true := fa_first_yes (fun i => decide (whyN m a s (i % cols m) (i / cols m) ≠ 0)) (cols m * nH m) q
      rw [decide_eq_true_eq] at hy
      exact hy (h _ (Nat.mod_lt _ h0) _ (Nat.div_lt_of_lt_mul q))
    · exact Nat.le_antisymm (fstN_le m a s) q
theorem wN_full (hw : WF m) (s : Nat) : wN m a s = if 0 < cols m ∧ rgt m a s = cols m * nH m then 1 else 0 := by
  have hcl := cols_le hw
  have h0 : 0 < nS m ↔ 0 < cols m := by
    refine ⟨fun h => by omega, fun h => ?_⟩
    rcases Nat.eq_zero_or_pos (nS m) with e | e
    · unfold cols at h; rw [e, fst_0] at h; omega
    · exact e
  unfold wN
  have : (0 < nS m ∧ fstN m a s = cols m * nH m) ↔ (0 < cols m ∧ rgt m a s = cols m * nH m) := by rw [h0, rgt_full, fstN_full]
  by_cases q : 0 < cols m ∧ rgt m a s = cols m * nH m
  · rw [if_pos q, if_pos (this.mpr q)]
  · rw [if_neg q, if_neg (fun x => q (this.mp x))]
theorem c_isWhole (hw : WF m) (hR : R0 σ 73 m) (hV : Vw σ m a) {s : Nat} (hs : s < 2) (H : K (iI (wN m a s)) σ) : CT g l M_X5_isWhole 0 [.ref (zad g 18), .int (iI s)] σ (zQi K X) := by
  have hcl := cols_le hw
  have hr := rgt_le hw a s
  have hce := cells_le hw
  rw [wN_full hw] at H
  refine b_X5_isWhole ?_
  rw [hR.2.2.2.1]
  refine c_rightAll hw hR hV hs (c_cells zB_73 hR ?_)
  rw [hR.2.2.2.1]
  try simp (disch := omega) only [iI_add, iI_sub, iI_mul, iI_neg, iI_n, iI_lt, iI_le, iI_eq, iI_tn, iI_ti, bI_0, bI_1, iI_L, iL_0, Decidable.not_not, Int.toNat_natCast, zpt_at, zpt_ne, pk_us, pk_un, forall_eq, tn_0, tn_1, tn_2, tn_3, tn_4, tn_5, ni_1, ni_2, ni_3, ni_4, ni_5, not_false_eq_true, not_true_eq_false, true_implies, false_implies, and_true, true_and, iL_6, iL_m6, iL_7, iL_8, iL_9, iL_4, iL_m4, iL_m8, li_0, li_1, li_2, li_3, li_4, li_5, li_6, li_7, li_8, li_9, li_10, li_11, li_12, li_13, li_15, li_16, li_18, li_20, li_24, li_31, li_32, li_40, li_46, li_48, li_57, li_59, li_60, li_61, li_63, li_64, li_97, li_99, li_122, li_124, li_150, li_255, li_480, li_488, li_600, li_999, li_1110, li_54]
  refine ⟨fun h => ⟨fun h' => ?_, fun h' => ?_⟩, fun h => ⟨fun h' => ?_, fun h' => ?_⟩⟩
  · rw [if_neg (by omega)] at H; exact H
  · rw [if_neg (by omega)] at H; exact H
  · rw [if_neg (by omega)] at H; exact H
  · rw [if_pos ⟨by omega, by omega⟩] at H; exact H
theorem c_firstNotRight_2 (hw : WF m) (hR : R0 σ 73 m) (hV : Vw σ m a) {s : Nat} (hs : s < 2) (H : K (iI (fwN m a s)) σ) (r : Nat) (hr : r ≤ nH m) (h0 : r * cols m ≤ fstN m a s) : L_X5_firstNotRight_2 g l K X (iI s) (iI r) σ := by
  have hcl := cols_le hw
  have hb := wf_b hw
  have hce := cells_le hw
  have hfl := fstN_le m a s
  have ih := fun h h' => c_firstNotRight_2 hw hR hV hs H (r + 1) h h'
  have inner : ∀ n c, c + n = cols m → r < nH m → r * cols m + c ≤ fstN m a s → L_X5_firstNotRight_15 g l K X (iI s) (iI r) (iI c) σ := fun n => by
    induction n with
    | zero =>
      intro c e h h1
      obtain rfl : c = cols m := by omega
      refine b_X5_firstNotRight_15 ?_
      rw [hR.2.2.2.1]
      try simp (disch := omega) only [iI_add, iI_sub, iI_mul, iI_neg, iI_n, iI_lt, iI_le, iI_eq, iI_tn, iI_ti, bI_0, bI_1, iI_L, iL_0, Decidable.not_not, Int.toNat_natCast, zpt_at, zpt_ne, pk_us, pk_un, forall_eq, tn_0, tn_1, tn_2, tn_3, tn_4, tn_5, ni_1, ni_2, ni_3, ni_4, ni_5, not_false_eq_true, not_true_eq_false, true_implies, false_implies, and_true, true_and, iL_6, iL_m6, iL_7, iL_8, iL_9, iL_4, iL_m4, iL_m8, li_0, li_1, li_2, li_3, li_4, li_5, li_6, li_7, li_8, li_9, li_10, li_11, li_12, li_13, li_15, li_16, li_18, li_20, li_24, li_31, li_32, li_40, li_46, li_48, li_57, li_59, li_60, li_61, li_63, li_64, li_97, li_99, li_122, li_124, li_150, li_255, li_480, li_488, li_600, li_999, li_1110, li_54]
      refine ⟨fun _ => ih h (by rw [Nat.add_mul, Nat.one_mul]; exact h1), fun h => by omega⟩
    | succ n ihn =>
      intro c e h h1
      have hc : c < cols m := by omega
      have hi : r * cols m + c < cols m * nH m := by
        have : (r + 1) * cols m ≤ nH m * cols m := Nat.mul_le_mul_right _ h
        rw [Nat.add_mul, Nat.one_mul, Nat.mul_comm (nH m)] at this
        omega
      have e1 : (r * cols m + c) % cols m = c := by rw [Nat.mul_comm, Nat.mul_add_mod, Nat.mod_eq_of_lt hc]
      have e2 : (r * cols m + c) / cols m = r := by rw [Nat.mul_comm, Nat.mul_add_div (by omega), Nat.div_eq_of_lt hc, Nat.add_zero]
      refine b_X5_firstNotRight_15 ?_
      rw [hR.2.2.2.1]
      try simp (disch := omega) only [iI_add, iI_sub, iI_mul, iI_neg, iI_n, iI_lt, iI_le, iI_eq, iI_tn, iI_ti, bI_0, bI_1, iI_L, iL_0, Decidable.not_not, Int.toNat_natCast, zpt_at, zpt_ne, pk_us, pk_un, forall_eq, tn_0, tn_1, tn_2, tn_3, tn_4, tn_5, ni_1, ni_2, ni_3, ni_4, ni_5, not_false_eq_true, not_true_eq_false, true_implies, false_implies, and_true, true_and, iL_6, iL_m6, iL_7, iL_8, iL_9, iL_4, iL_m4, iL_m8, li_0, li_1, li_2, li_3, li_4, li_5, li_6, li_7, li_8, li_9, li_10, li_11, li_12, li_13, li_15, li_16, li_18, li_20, li_24, li_31, li_32, li_40, li_46, li_48, li_57, li_59, li_60, li_61, li_63, li_64, li_97, li_99, li_122, li_124, li_150, li_255, li_480, li_488, li_600, li_999, li_1110, li_54]
      refine ⟨fun h => by omega, fun _ => c_isSeenRight hw hR hV hs hc h ?_⟩
      try simp (disch := omega) only [iI_add, iI_sub, iI_mul, iI_neg, iI_n, iI_lt, iI_le, iI_eq, iI_tn, iI_ti, bI_0, bI_1, iI_L, iL_0, Decidable.not_not, Int.toNat_natCast, zpt_at, zpt_ne, pk_us, pk_un, forall_eq, tn_0, tn_1, tn_2, tn_3, tn_4, tn_5, ni_1, ni_2, ni_3, ni_4, ni_5, not_false_eq_true, not_true_eq_false, true_implies, false_implies, and_true, true_and, iL_6, iL_m6, iL_7, iL_8, iL_9, iL_4, iL_m4, iL_m8, li_0, li_1, li_2, li_3, li_4, li_5, li_6, li_7, li_8, li_9, li_10, li_11, li_12, li_13, li_15, li_16, li_18, li_20, li_24, li_31, li_32, li_40, li_46, li_48, li_57, li_59, li_60, li_61, li_63, li_64, li_97, li_99, li_122, li_124, li_150, li_255, li_480, li_488, li_600, li_999, li_1110, li_54]
      refine ⟨fun h2 => ihn (c + 1) (by omega) h ?_, fun h2 => ?_⟩
      · rcases Nat.lt_or_ge (r * cols m + c) (fstN m a s) with q | q
        · omega
        · exfalso
          have e3 : fstN m a s = r * cols m + c := by omega
          have hy : decide (whyN m a s (fstN m a s % cols m) (fstN m a s / cols m) ≠ 0) = true := fa_first_yes (fun i => decide (whyN m a s (i % cols m) (i / cols m) ≠ 0)) (cols m * nH m) (by show fstN m a s < _; omega)
          rw [decide_eq_true_eq, e3, e1, e2] at hy
          exact hy h2
      · have e3 : fstN m a s = r * cols m + c := by
          rcases Nat.lt_or_ge (r * cols m + c) (fstN m a s) with q | q
          · exfalso
            have := fa_first_no (fun i => decide (whyN m a s (i % cols m) (i / cols m) ≠ 0)) (cols m * nH m) (r * cols m + c) q
            rw [decide_eq_false_iff_not, e1, e2] at this
            exact this h2
          · omega
        unfold fwN at H
        rw [if_neg (by omega), e3] at H
        rw [hR.2.2.2.1]
        try simp (disch := omega) only [iI_add, iI_sub, iI_mul, iI_neg, iI_n, iI_lt, iI_le, iI_eq, iI_tn, iI_ti, bI_0, bI_1, iI_L, iL_0, Decidable.not_not, Int.toNat_natCast, zpt_at, zpt_ne, pk_us, pk_un, forall_eq, tn_0, tn_1, tn_2, tn_3, tn_4, tn_5, ni_1, ni_2, ni_3, ni_4, ni_5, not_false_eq_true, not_true_eq_false, true_implies, false_implies, and_true, true_and, iL_6, iL_m6, iL_7, iL_8, iL_9, iL_4, iL_m4, iL_m8, li_0, li_1, li_2, li_3, li_4, li_5, li_6, li_7, li_8, li_9, li_10, li_11, li_12, li_13, li_15, li_16, li_18, li_20, li_24, li_31, li_32, li_40, li_46, li_48, li_57, li_59, li_60, li_61, li_63, li_64, li_97, li_99, li_122, li_124, li_150, li_255, li_480, li_488, li_600, li_999, li_1110, li_54]
        rw [show ((r : Int) * (cols m : Int) + (c : Int)) = ((r * cols m + c : Nat) : Int) by simp]
        exact H
  refine b_X5_firstNotRight_2 ?_
  rw [hR.1]
  try simp (disch := omega) only [iI_add, iI_sub, iI_mul, iI_neg, iI_n, iI_lt, iI_le, iI_eq, iI_tn, iI_ti, bI_0, bI_1, iI_L, iL_0, Decidable.not_not, Int.toNat_natCast, zpt_at, zpt_ne, pk_us, pk_un, forall_eq, tn_0, tn_1, tn_2, tn_3, tn_4, tn_5, ni_1, ni_2, ni_3, ni_4, ni_5, not_false_eq_true, not_true_eq_false, true_implies, false_implies, and_true, true_and, iL_6, iL_m6, iL_7, iL_8, iL_9, iL_4, iL_m4, iL_m8, li_0, li_1, li_2, li_3, li_4, li_5, li_6, li_7, li_8, li_9, li_10, li_11, li_12, li_13, li_15, li_16, li_18, li_20, li_24, li_31, li_32, li_40, li_46, li_48, li_57, li_59, li_60, li_61, li_63, li_64, li_97, li_99, li_122, li_124, li_150, li_255, li_480, li_488, li_600, li_999, li_1110, li_54]
  refine ⟨fun h => ?_, fun h => inner (cols m) 0 (by omega) (by omega) (by omega)⟩
  obtain rfl : r = nH m := by omega
  rw [Nat.mul_comm] at h0
  unfold fwN at H
  rw [if_pos (by omega)] at H
  exact H
termination_by nH m - r
theorem c_firstNotRight (hw : WF m) (hR : R0 σ 73 m) (hV : Vw σ m a) {s : Nat} (hs : s < 2) (H : K (iI (fwN m a s)) σ) : CT g l M_X5_firstNotRight 0 [.ref (zad g 18), .int (iI s)] σ (zQi K X) :=
  b_X5_firstNotRight (c_firstNotRight_2 hw hR hV hs H 0 (Nat.zero_le _) (by omega))
theorem c_most_6 (hw : WF m) (hR : R0 σ 73 m) (hV : Vw σ m a) (H : K (iI (ruN m a (cols m)).2) σ) (c : Nat) (hc : c ≤ cols m) : L_X5_mostShownTogether_6 g l K X (iI (ruN m a c).2) (iI (ruN m a c).1) (iI c) σ := by
  have hcl := cols_le hw
  have hrb : (ruN m a c).1 ≤ c ∧ (ruN m a c).2 ≤ c := rnn_b _ c
  have ih := fun h => c_most_6 hw hR hV H (c + 1) h
  refine b_X5_mostShownTogether_6 ?_
  rw [hR.2.2.2.1]
  try simp (disch := omega) only [iI_add, iI_sub, iI_mul, iI_neg, iI_n, iI_lt, iI_le, iI_eq, iI_tn, iI_ti, bI_0, bI_1, iI_L, iL_0, Decidable.not_not, Int.toNat_natCast, zpt_at, zpt_ne, pk_us, pk_un, forall_eq, tn_0, tn_1, tn_2, tn_3, tn_4, tn_5, ni_1, ni_2, ni_3, ni_4, ni_5, not_false_eq_true, not_true_eq_false, true_implies, false_implies, and_true, true_and, iL_6, iL_m6, iL_7, iL_8, iL_9, iL_4, iL_m4, iL_m8, li_0, li_1, li_2, li_3, li_4, li_5, li_6, li_7, li_8, li_9, li_10, li_11, li_12, li_13, li_15, li_16, li_18, li_20, li_24, li_31, li_32, li_40, li_46, li_48, li_57, li_59, li_60, li_61, li_63, li_64, li_97, li_99, li_122, li_124, li_150, li_255, li_480, li_488, li_600, li_999, li_1110, li_54]
  refine ⟨fun h => ?_, fun h => c_isShown hw hV (c := c) (by omega) ?_⟩
  · obtain rfl : c = cols m := by omega
    exact H
  · replace ih := ih (by omega)
    have m0 : zmax (iI ((ruN m a c).2 : Int)) (iI 0) = iI ((max (ruN m a c).2 0 : Nat) : Int) := by rw [iI_max (by omega) (by omega) (by omega) (by omega)]; congr 1; omega
    have m1 : zmax (iI ((ruN m a c).2 : Int)) (iI ((ruN m a c).1 + 1 : Int)) = iI ((max (ruN m a c).2 ((ruN m a c).1 + 1) : Nat) : Int) := by rw [iI_max (by omega) (by omega) (by omega) (by omega)]; congr 1; omega
    simp only [iI_add, li_0, li_1, bI_0, m0, m1, Decidable.not_not]
    refine ⟨fun h2 => ?_, fun h2 => ?_⟩
    · have e1 : ruN m a (c + 1) = (0, max (ruN m a c).2 0) := by
        show rnn _ (c + 1) = _
        rw [rnn, if_neg (by simp; omega)]; rfl
      rw [e1] at ih
      exact ih
    · have e1 : ruN m a (c + 1) = ((ruN m a c).1 + 1, max (ruN m a c).2 ((ruN m a c).1 + 1)) := by
        show rnn _ (c + 1) = _
        rw [rnn, if_pos (by simp; omega)]; rfl
      rw [e1] at ih
      exact ih
termination_by cols m - c
theorem c_most (hw : WF m) (hR : R0 σ 73 m) (hV : Vw σ m a) (H : K (iI (ruN m a (cols m)).2) σ) : CT g l M_X5_mostShownTogether 0 [.ref (zad g 18)] σ (zQi K X) :=
  b_X5_mostShownTogether (c_most_6 hw hR hV H 0 (Nat.zero_le _))
theorem gh_bc {x y z : Int32} {h : Nat} {f f' f'' : Nat → Nat} (hx : Cl x h f) (hy : Cl y h f') (hz : Cl z h f'') (hh : h ≤ 8) : bcF (unF x y &&& (unF x z ^^^ (-1))) = iI (fb_ct (fun r => decide (f r ≠ f' r ∧ f r = f'' r)) h : Nat) := by
  rw [bc_mask (p := fun r => decide (nib x r ≠ nib y r) && !decide (nib x r ≠ nib z r)) (fun i hi => ?_), cn8_ct]
  · congr 1
    refine ct_cut hh (fun r hr => ?_) (fun r h1 h2 => ?_)
    · rw [hx r (by omega), hy r (by omega), hz r (by omega), if_pos hr, if_pos hr, if_pos hr]
      by_cases e1 : f r = f' r <;> by_cases e2 : f r = f'' r <;> simp [e1, e2]
    · rw [hx r h2, hy r h2, hz r h2, if_neg (by omega), if_neg (by omega), if_neg (by omega)]
      simp
  · rw [b_and, b_xor, b_m1 _ hi, unF_bt hi, unF_bt hi]
    by_cases e : i % 4 = 0 <;> simp [e]
theorem c_ghost_32 (hw : WF m) (hR : R0 σ 73 m) (hV : Vw σ m a) {s : Nat} (hs : s < 2) (H : K (iI (fb_sm (ghC m a s) (cols m))) σ) (c : Nat) (hc : c ≤ cols m) : L_X5_ghostCells_32 g l K X (73 + 6 + s) (73 + 6 + (1 - s)) (iI (fb_sm (ghC m a s) c)) (iI c) σ := by
  have hcl := cols_le hw
  have hb := wf_b hw
  have hs' : 1 - s < 2 := by omega
  have ih := fun h => c_ghost_32 hw hR hV hs H (c + 1) h
  refine b_X5_ghostCells_32 (zB_p zB_73 hs).1 (zB_p zB_73 hs).2 (zB_p zB_73 hs').1 (zB_p zB_73 hs').2 ?_
  rw [hR.2.2.2.1]
  try simp (disch := omega) only [iI_add, iI_sub, iI_mul, iI_neg, iI_n, iI_lt, iI_le, iI_eq, iI_tn, iI_ti, bI_0, bI_1, iI_L, iL_0, Decidable.not_not, Int.toNat_natCast, zpt_at, zpt_ne, pk_us, pk_un, forall_eq, tn_0, tn_1, tn_2, tn_3, tn_4, tn_5, ni_1, ni_2, ni_3, ni_4, ni_5, not_false_eq_true, not_true_eq_false, true_implies, false_implies, and_true, true_and, iL_6, iL_m6, iL_7, iL_8, iL_9, iL_4, iL_m4, iL_m8, li_0, li_1, li_2, li_3, li_4, li_5, li_6, li_7, li_8, li_9, li_10, li_11, li_12, li_13, li_15, li_16, li_18, li_20, li_24, li_31, li_32, li_40, li_46, li_48, li_57, li_59, li_60, li_61, li_63, li_64, li_97, li_99, li_122, li_124, li_150, li_255, li_480, li_488, li_600, li_999, li_1110, li_54]
  refine ⟨fun h => ?_, fun h => ?_⟩
  · obtain rfl : c = cols m := by omega
    exact H
  · have hc' : c < cols m := by omega
    have h60 := in60 hc' hcl.1
    replace ih := ih hc'
    rw [fb_sm_succ] at ih
    refine ⟨h60, h60, c_unlikeBits ⟨h60, h60, c_unlikeBits (c_isShown hw hV hc' ?_)⟩⟩
    try simp (disch := omega) only [iI_add, iI_sub, iI_mul, iI_neg, iI_n, iI_lt, iI_le, iI_eq, iI_tn, iI_ti, bI_0, bI_1, iI_L, iL_0, Decidable.not_not, Int.toNat_natCast, zpt_at, zpt_ne, pk_us, pk_un, forall_eq, tn_0, tn_1, tn_2, tn_3, tn_4, tn_5, ni_1, ni_2, ni_3, ni_4, ni_5, not_false_eq_true, not_true_eq_false, true_implies, false_implies, and_true, true_and, iL_6, iL_m6, iL_7, iL_8, iL_9, iL_4, iL_m4, iL_m8, li_0, li_1, li_2, li_3, li_4, li_5, li_6, li_7, li_8, li_9, li_10, li_11, li_12, li_13, li_15, li_16, li_18, li_20, li_24, li_31, li_32, li_40, li_46, li_48, li_57, li_59, li_60, li_61, li_63, li_64, li_97, li_99, li_122, li_124, li_150, li_255, li_480, li_488, li_600, li_999, li_1110, li_54]
    refine ⟨fun h2 => ?_, fun h2 => c_bitCount ?_⟩
    · rw [show ghC m a s c = _ from if_pos h2] at ih
      exact ih
    · have e := gh_bc (hV c hc').2.1 ((hR.2.2.2.2.2.2.2.2 _ hc' s hs).1) ((hR.2.2.2.2.2.2.2.2 _ hc' (1 - s) hs').1) hb.2.1
      rw [show ghC m a s c = _ from if_neg (fun q => q h2)] at ih
      first
        | rw [e]
        | rw [show iI (-1) = (-1 : Int32) from rfl, e]
      try simp (disch := omega) only [iI_add, iI_sub, iI_mul, iI_neg, iI_n, iI_lt, iI_le, iI_eq, iI_tn, iI_ti, bI_0, bI_1, iI_L, iL_0, Decidable.not_not, Int.toNat_natCast, zpt_at, zpt_ne, pk_us, pk_un, forall_eq, tn_0, tn_1, tn_2, tn_3, tn_4, tn_5, ni_1, ni_2, ni_3, ni_4, ni_5, not_false_eq_true, not_true_eq_false, true_implies, false_implies, and_true, true_and, iL_6, iL_m6, iL_7, iL_8, iL_9, iL_4, iL_m4, iL_m8, li_0, li_1, li_2, li_3, li_4, li_5, li_6, li_7, li_8, li_9, li_10, li_11, li_12, li_13, li_15, li_16, li_18, li_20, li_24, li_31, li_32, li_40, li_46, li_48, li_57, li_59, li_60, li_61, li_63, li_64, li_97, li_99, li_122, li_124, li_150, li_255, li_480, li_488, li_600, li_999, li_1110, li_54]
      exact ih
termination_by cols m - c
theorem c_ghost (hw : WF m) (hR : R0 σ 73 m) (hV : Vw σ m a) {s : Nat} (hs : s < 2) (H : K (iI (fb_sm (ghC m a s) (cols m))) σ) : CT g l M_X5_ghostCells 0 [.ref (zad g 18), .int (iI s)] σ (zQi K X) := by
  refine b_X5_ghostCells (c_pictureOf zB_73 hs ⟨(zB_p zB_73 hs).1, (zB_p zB_73 hs).2, fun h => ?_, fun h => ?_⟩)
  · obtain rfl : s = 1 := by
      match s, hs with
      | 0, _ => exact absurd rfl h
      | 1, _ => rfl
    exact c_pictureOf (s := 0) zB_73 (by decide) ⟨(zB_p zB_73 (s := 0) (by decide)).1, (zB_p zB_73 (s := 0) (by decide)).2, c_ghost_32 hw hR hV (s := 1) (by decide) H 0 (Nat.zero_le _)⟩
  · obtain rfl : s = 0 := by
      match s, hs with
      | 0, _ => rfl
      | 1, _ => exact absurd h (by decide)
    exact c_pictureOf (s := 1) zB_73 (by decide) ⟨(zB_p zB_73 (s := 1) (by decide)).1, (zB_p zB_73 (s := 1) (by decide)).2, c_ghost_32 hw hR hV (s := 0) (by decide) H 0 (Nat.zero_le _)⟩
end ZVR

