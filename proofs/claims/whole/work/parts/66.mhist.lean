/-! the reference: swaps, boxes, what is kept, its changing methods -/
section ZMH
variable {g : zG} {l : Launch} {K : Int32 → zS → Prop} {X : String → zS → Prop} {m : Nat → Int32} {σ : zS}
def mSwap (m : Nat → Int32) (k : Nat) : Nat → Int32 := wF (mCoat (mCoat m k 0 (ct m k 1)) k 1 (ct m k 0)) (swF m k)
theorem mSw_c (hw : WF m) {k : Nat} (hk : k < nS m) : WF (mCoat (mCoat m k 0 (ct m k 1)) k 1 (ct m k 0)) ∧ Sb m (mCoat (mCoat m k 0 (ct m k 1)) k 1 (ct m k 0)) ∧ Sx m (mCoat (mCoat m k 0 (ct m k 1)) k 1 (ct m k 0)) := by
  have hb := wf_b hw
  have hs := wf_s hw hk
  have b1 := mCoat_b (m := m) (v := ct m k 1) (show k < 10 by omega) (show 0 < 2 by decide)
  have w1 := mCoat_wf hw hk (show 0 < 2 by decide) (v := ct m k 1) (by omega)
  have b2 := mCoat_b (m := mCoat m k 0 (ct m k 1)) (v := ct m k 0) (show k < 10 by omega) (show 1 < 2 by decide)
  have w2 := mCoat_wf w1 (k := k) (by rw [b1.1.e_nS]; exact hk) (show 1 < 2 by decide) (v := ct m k 0) (by omega)
  refine ⟨w2, ⟨b2.1.1.trans b1.1.1, b2.1.2.1.trans b1.1.2.1, b2.1.2.2.1.trans b1.1.2.2.1, fun j hj => (b2.1.2.2.2 j hj).trans (b1.1.2.2.2 j hj)⟩, ⟨b2.2.1.trans b1.2.1, fun q h1 h2 => (b2.2.2 q h1 h2).trans (b1.2.2 q h1 h2)⟩⟩
theorem s_swaps (hm : σ.1 26 = m) (hw : WF m) {k : Nat} (hk : k < nS m) (H : K (iI (swN m k)) (zpt σ 26 (mSwap m k))) : CT g l M_X7_swaps 0 [.ref (zad g 24), .int (iI k)] σ (zQi K X) := by
  have hb := wf_b hw
  have hs := wf_s hw hk
  obtain ⟨w2, b2, x2⟩ := mSw_c hw hk
  have hf : fc (mCoat (mCoat m k 0 (ct m k 1)) k 1 (ct m k 0)) = fc m := by rw [mCoat_fc (by omega) (by decide), mCoat_fc (by omega) (by decide)]
  refine b_X7_swaps (s_ofC (s := 0) hm hw hk (by decide) (s_ofC (s := 1) hm hw hk (by decide) ?_))
  try simp (disch := omega) only [iI_add, iI_sub, iI_mul, iI_neg, iI_n, iI_lt, iI_le, iI_eq, iI_tn, iI_ti, bI_0, bI_1, iI_L, iL_0, Decidable.not_not, Int.toNat_natCast, zpt_at, zpt_ne, pk_us, pk_un, forall_eq, tn_0, tn_1, tn_2, tn_3, tn_4, tn_5, ni_1, ni_2, ni_3, ni_4, ni_5, not_false_eq_true, not_true_eq_false, true_implies, false_implies, and_true, true_and, iL_6, iL_m6, iL_7, iL_8, iL_9, iL_4, iL_m4, iL_m8, li_0, li_1, li_2, li_3, li_4, li_5, li_6, li_7, li_8, li_9, li_10, li_11, li_12, li_13, li_15, li_16, li_18, li_20, li_24, li_31, li_32, li_40, li_46, li_48, li_57, li_59, li_60, li_61, li_63, li_64, li_97, li_99, li_122, li_124, li_150, li_255, li_480, li_488, li_600, li_999, li_1110, li_54]
  refine s_sets (b := 3) (by omega) ?_
  refine s_sets (b := 4) (by omega) ?_
  have e : zup (zup σ 26 (4 + 5 * k + 3) (iI (ct m k 1 : Int))) 26 (4 + 5 * k + 4) (iI (ct m k 0 : Int)) = zpt σ 26 (mCoat (mCoat m k 0 (ct m k 1)) k 1 (ct m k 0)) := by
    rw [show zup σ 26 (4 + 5 * k + 3) (iI (ct m k 1 : Int)) = zpt σ 26 (upd (σ.1 26) (4 + 5 * k + 3) (iI (ct m k 1 : Int))) from rfl, zup_zpt, hm, show 4 + 5 * k + 3 = 7 + 5 * k + 0 by omega, show 4 + 5 * k + 4 = 7 + 5 * k + 1 by omega]
    rfl
  rw [e]
  refine s_firstOf (zpt_at _ _ _) w2 (by rw [b2.e_nS]; omega) ?_
  have H2 : K (iI (swN (mCoat (mCoat m k 0 (ct m k 1)) k 1 (ct m k 0)) k)) (zpt σ 26 (wF (mCoat (mCoat m k 0 (ct m k 1)) k 1 (ct m k 0)) (swF (mCoat (mCoat m k 0 (ct m k 1)) k 1 (ct m k 0)) k))) := by
    have e1 : swN (mCoat (mCoat m k 0 (ct m k 1)) k 1 (ct m k 0)) k = swN m k := by
      unfold swN
      rw [b2.e_wd (by omega), b2.e_nH, hf, b2.e_fst (by omega)]
    have e2 : swF (mCoat (mCoat m k 0 (ct m k 1)) k 1 (ct m k 0)) k = swF m k := by
      funext s' c r'
      unfold swF
      rw [b2.e_fst (by omega), b2.e_wd (by omega), b2.e_nH, hf]
    rw [e1, e2]
    exact H
  have := s_swaps_39 (g := g) (l := l) (X := X) (σ := σ) w2 (k := k) (by rw [b2.e_nS]; exact hk) H2 0 (Nat.zero_le _)
  rw [wF_cong (m := mCoat (mCoat m k 0 (ct m k 1)) k 1 (ct m k 0)) (f := swU (mCoat (mCoat m k 0 (ct m k 1)) k 1 (ct m k 0)) k 0 0) (f' := fc (mCoat (mCoat m k 0 (ct m k 1)) k 1 (ct m k 0))) (fun s' c r' _ _ _ => if_neg (by omega)), wF_id w2] at this
  exact this
theorem s_setsBox {K : zS → Prop} {a b : Nat} {v : Int32} (hb : 54 + 6 * a + b < 1110) (H : K (zup σ 26 (54 + 6 * a + b) v)) : CT g l M_X7_setsBox 0 [.ref (zad g 24), .int (iI a), .int (iI b), .int v] σ (zQv K X) := by
  refine b_X7_setsBox ?_
  try simp (disch := omega) only [iI_add, iI_sub, iI_mul, iI_neg, iI_n, iI_lt, iI_le, iI_eq, iI_tn, iI_ti, bI_0, bI_1, iI_L, iL_0, Decidable.not_not, Int.toNat_natCast, zpt_at, zpt_ne, pk_us, pk_un, forall_eq, tn_0, tn_1, tn_2, tn_3, tn_4, tn_5, ni_1, ni_2, ni_3, ni_4, ni_5, not_false_eq_true, not_true_eq_false, true_implies, false_implies, and_true, true_and, iL_6, iL_m6, iL_7, iL_8, iL_9, iL_4, iL_m4, iL_m8, li_0, li_1, li_2, li_3, li_4, li_5, li_6, li_7, li_8, li_9, li_10, li_11, li_12, li_13, li_15, li_16, li_18, li_20, li_24, li_31, li_32, li_40, li_46, li_48, li_57, li_59, li_60, li_61, li_63, li_64, li_97, li_99, li_122, li_124, li_150, li_255, li_480, li_488, li_600, li_999, li_1110, li_54]
  refine ⟨iI_in (by omega) (by omega) (by omega), ?_⟩
  rw [show ((54 : Int) + 6 * (a : Int) + (b : Int)).toNat = 54 + 6 * a + b by omega]; exact H
/-- a box more, its colour left out -/
def mBox5 (m : Nat → Int32) (s c r w d : Nat) : Nat → Int32 := upd (upd (upd (upd (upd (upd m (54 + 6 * nB m) (iI s)) (54 + 6 * nB m + 1) (iI c)) (54 + 6 * nB m + 2) (iI r)) (54 + 6 * nB m + 3) (iI w)) (54 + 6 * nB m + 4) (iI d)) 3 (iI ((nB m : Int) + 1))
def mBox (m : Nat → Int32) (s c r w d v : Nat) : Nat → Int32 := upd (mBox5 m s c r w d) (54 + 6 * nB m + 5) (iI v)
theorem s_laysBox {K : zS → Prop} (hm : σ.1 26 = m) (hB : m 3 = iI (nB m)) (hn : nB m ≤ 15) {s c r w d : Nat} (H : K (zpt σ 26 (mBox5 m s c r w d))) : CT g l M_X7_laysBox 0 [.ref (zad g 24), .int (iI s), .int (iI c), .int (iI r), .int (iI w), .int (iI d)] σ (zQv K X) := by
  refine b_X7_laysBox ?_
  rw [show (Int32.toNatClampNeg 3) = 3 from rfl, hm, hB]
  try simp (disch := omega) only [iI_add, iI_sub, iI_mul, iI_neg, iI_n, iI_lt, iI_le, iI_eq, iI_tn, iI_ti, bI_0, bI_1, iI_L, iL_0, Decidable.not_not, Int.toNat_natCast, zpt_at, zpt_ne, pk_us, pk_un, forall_eq, tn_0, tn_1, tn_2, tn_3, tn_4, tn_5, ni_1, ni_2, ni_3, ni_4, ni_5, not_false_eq_true, not_true_eq_false, true_implies, false_implies, and_true, true_and, iL_6, iL_m6, iL_7, iL_8, iL_9, iL_4, iL_m4, iL_m8, li_0, li_1, li_2, li_3, li_4, li_5, li_6, li_7, li_8, li_9, li_10, li_11, li_12, li_13, li_15, li_16, li_18, li_20, li_24, li_31, li_32, li_40, li_46, li_48, li_57, li_59, li_60, li_61, li_63, li_64, li_97, li_99, li_122, li_124, li_150, li_255, li_480, li_488, li_600, li_999, li_1110, li_54]
  refine s_setsBox (b := 0) (by omega) (s_setsBox (b := 1) (by omega) (s_setsBox (b := 2) (by omega) (s_setsBox (b := 3) (by omega) (s_setsBox (b := 4) (by omega) ?_))))
  unfold zup
  simp only [zpt_zpt, zpt_at]
  rw [hm, pk_un (by omega), pk_un (by omega), pk_un (by omega), pk_un (by omega), pk_un (by omega), hB, iI_add]
  exact H
theorem s_spots (hm : σ.1 26 = m) (hw : WF m) (hn : nB m ≤ 15) {s c r v : Nat} (H : K (iI (nB m + 1 : Nat)) (zpt σ 26 (mBox m s c r 1 1 v))) : CT g l M_X7_spots 0 [.ref (zad g 24), .int (iI s), .int (iI c), .int (iI r), .int (iI v)] σ (zQi K X) := by
  refine b_X7_spots (s_laysBox (w := 1) (d := 1) hm (wf_3 hw) hn ?_)
  rw [show (Int32.toNatClampNeg 3) = 3 from rfl, hm, wf_3 hw]
  refine s_setsBox (b := 5) (by omega) ?_
  rw [zup_zpt, zpt_at, pk_un (by omega)]
  unfold mBox5
  rw [pk_us]
  exact H
/-- what a call of the reference may change: arrays, fields -/
def FM (L F : List Nat) (σ τ : zS) : Prop := (∀ b, ¬ b ∈ L → b ≠ 24 → τ.1 b = σ.1 b) ∧ (∀ k, ¬ k ∈ F → τ.1 24 k = σ.1 24 k) ∧ τ.2 = σ.2
theorem FM.rf (L F : List Nat) (σ : zS) : FM L F σ σ := ⟨fun _ _ _ => rfl, fun _ _ => rfl, rfl⟩
theorem FM.tr {L F : List Nat} {σ τ υ : zS} (h : FM L F σ τ) (h' : FM L F τ υ) : FM L F σ υ := ⟨fun b hb hn => (h'.1 b hb hn).trans (h.1 b hb hn), fun k hk => (h'.2.1 k hk).trans (h.2.1 k hk), h'.2.2.trans h.2.2⟩
theorem FM.sub {L L' F F' : List Nat} {σ τ : zS} (h : FM L F σ τ) (hL : ∀ b, b ∈ L → b ∈ L') (hF : ∀ b, b ∈ F → b ∈ F') : FM L' F' σ τ := ⟨fun b hb hn => h.1 b (fun q => hb (hL b q)) hn, fun k hk => h.2.1 k (fun q => hk (hF k q)), h.2.2⟩
theorem FM.pt {L F : List Nat} {σ τ : zS} (h : FM L F σ τ) {o : Nat} (ho : o ∈ L) (hn : o ≠ 24) (f : Nat → Int32) : FM L F σ (zpt τ o f) := ⟨fun b hb hn' => (zpt_ne (a := b) (o := o) (fun e => hb (e.symm ▸ ho))).trans (h.1 b hb hn'), fun k hk => by rw [zpt_ne hn.symm]; exact h.2.1 k hk, h.2.2⟩
theorem FM.fl {L F : List Nat} {σ τ : zS} (h : FM L F σ τ) {k : Nat} (hk : k ∈ F) (v : Int32) : FM L F σ (zup τ 24 k v) := ⟨fun b hb hn => (zpt_ne hn).trans (h.1 b hb hn), fun j hj => by rw [zpt_at, pk_un (j := j) (k := k) (fun e => hj (e.symm ▸ hk))]; exact h.2.1 j hj, h.2.2⟩
theorem FM.cd {L F : List Nat} {σ τ : zS} (h : FM L F σ τ) (h0 : 0 ∈ F) (c : Int) : FM L F σ (cd τ c) := h.fl h0 _
/-- what the reference keeps: the latest row first -/
def HsM (σ : zS) (u : Nat) (h : Nat → Nat → Int32) : Prop := σ.1 24 18 = iI u ∧ u ≤ 6 ∧ ∀ i, i < u → ∀ k, k < 1110 → σ.1 30 (1110 * (u - 1 - i) + k) = h i k
def hpush (a : Nat → Int32) (h : Nat → Nat → Int32) : Nat → Nat → Int32 := fun i => if i = 0 then a else h (i - 1)
theorem HsM.fr {σ τ : zS} {u : Nat} {h : Nat → Nat → Int32} (H : HsM σ u h) (h1 : τ.1 24 18 = σ.1 24 18) (h2 : τ.1 30 = σ.1 30) : HsM τ u h := ⟨h1.trans H.1, H.2.1, fun i hi k hk => by rw [h2]; exact H.2.2 i hi k hk⟩
theorem s_keeps_21 {K : zS → Prop} {p0 : Nat → Int32} (hu : σ.1 24 18 = iI 5) (H : ∀ f : Nat → Int32, (∀ q, q < 5550 → f q = p0 (q + 1110)) → (∀ q, q < 1110 → f (5550 + q) = σ.1 28 q) → K (zup (zpt σ 30 f) 24 18 (iI 6))) (k : Nat) (hk : k ≤ 5550) (f : Nat → Int32) (h1 : ∀ q, q < k → f q = p0 (q + 1110)) (h2 : ∀ q, k ≤ q → f q = p0 q) : L_X7_keeps_21 g l K X (iI k) (zpt σ 30 f) := by
  have ih := fun h f h1 h2 => s_keeps_21 hu H (k + 1) h f h1 h2
  refine b_X7_keeps_21 ?_
  rw [zpt_ne (by decide), hu]
  try simp (disch := omega) only [iI_add, iI_sub, iI_mul, iI_neg, iI_n, iI_lt, iI_le, iI_eq, iI_tn, iI_ti, bI_0, bI_1, iI_L, iL_0, Decidable.not_not, Int.toNat_natCast, zpt_at, zpt_ne, pk_us, pk_un, forall_eq, tn_0, tn_1, tn_2, tn_3, tn_4, tn_5, ni_1, ni_2, ni_3, ni_4, ni_5, not_false_eq_true, not_true_eq_false, true_implies, false_implies, and_true, true_and, iL_6, iL_m6, iL_7, iL_8, iL_9, iL_4, iL_m4, iL_m8, li_0, li_1, li_2, li_3, li_4, li_5, li_6, li_7, li_8, li_9, li_10, li_11, li_12, li_13, li_15, li_16, li_18, li_20, li_24, li_31, li_32, li_40, li_46, li_48, li_57, li_59, li_60, li_61, li_63, li_64, li_97, li_99, li_122, li_124, li_150, li_255, li_480, li_488, li_600, li_999, li_1110, li_54]
  refine ⟨fun h => ?_, fun h => ⟨iI_in (by omega) (by omega) (by omega), iI_in (by omega) (by omega) (by omega), ?_⟩⟩
  · obtain rfl : k = 5550 := by omega
    refine s_copies (o1 := 28) (o2 := 30) (N1 := 1110) (N2 := 6660) (a := 0) (b := 5550) rfl (by decide) rfl (by decide) (by decide) (by decide) (by decide) ⟨by decide, by decide⟩ ?_
    rw [zpt_zpt, zpt_at, zpt_ne (by decide), zpt_ne (by decide), hu]
    try simp (disch := omega) only [iI_add, iI_sub, iI_mul, iI_neg, iI_n, iI_lt, iI_le, iI_eq, iI_tn, iI_ti, bI_0, bI_1, iI_L, iL_0, Decidable.not_not, Int.toNat_natCast, zpt_at, zpt_ne, pk_us, pk_un, forall_eq, tn_0, tn_1, tn_2, tn_3, tn_4, tn_5, ni_1, ni_2, ni_3, ni_4, ni_5, not_false_eq_true, not_true_eq_false, true_implies, false_implies, and_true, true_and, iL_6, iL_m6, iL_7, iL_8, iL_9, iL_4, iL_m4, iL_m8, li_0, li_1, li_2, li_3, li_4, li_5, li_6, li_7, li_8, li_9, li_10, li_11, li_12, li_13, li_15, li_16, li_18, li_20, li_24, li_31, li_32, li_40, li_46, li_48, li_57, li_59, li_60, li_61, li_63, li_64, li_97, li_99, li_122, li_124, li_150, li_255, li_480, li_488, li_600, li_999, li_1110, li_54]
    refine H _ (fun q hq => ?_) (fun q hq => ?_)
    · rw [fb_put_out (Or.inl hq)]; exact h1 q hq
    · rw [fb_put_in (by omega) (by omega), Nat.zero_add, show 5550 + q - 5550 = q by omega]
  · rw [show ((k : Int) + 1110).toNat = k + 1110 by omega, zup_zpt]
    refine ih (by omega) _ (fun q hq => ?_) (fun q hq => ?_)
    · by_cases e : q = k
      · subst e; rw [pk_us]; exact h2 _ (by omega)
      · rw [pk_un e]; exact h1 q (by omega)
    · rw [pk_un (by omega)]; exact h2 q (by omega)
termination_by 5550 - k
theorem s_keeps {K : zS → Prop} {u : Nat} {h : Nat → Nat → Int32} {a : Nat → Int32} (hH : HsM σ u h) (ha : ∀ k, k < 1110 → σ.1 28 k = a k) (H : ∀ τ, FM [30] [18] σ τ → HsM τ (min 6 (u + 1)) (hpush a h) → K τ) : CT g l M_X7_keeps 0 [.ref (zad g 24)] σ (zQv K X) := by
  obtain ⟨h1, h2, h3⟩ := hH
  refine b_X7_keeps ?_
  rw [h1]
  try simp (disch := omega) only [iI_add, iI_sub, iI_mul, iI_neg, iI_n, iI_lt, iI_le, iI_eq, iI_tn, iI_ti, bI_0, bI_1, iI_L, iL_0, Decidable.not_not, Int.toNat_natCast, zpt_at, zpt_ne, pk_us, pk_un, forall_eq, tn_0, tn_1, tn_2, tn_3, tn_4, tn_5, ni_1, ni_2, ni_3, ni_4, ni_5, not_false_eq_true, not_true_eq_false, true_implies, false_implies, and_true, true_and, iL_6, iL_m6, iL_7, iL_8, iL_9, iL_4, iL_m4, iL_m8, li_0, li_1, li_2, li_3, li_4, li_5, li_6, li_7, li_8, li_9, li_10, li_11, li_12, li_13, li_15, li_16, li_18, li_20, li_24, li_31, li_32, li_40, li_46, li_48, li_57, li_59, li_60, li_61, li_63, li_64, li_97, li_99, li_122, li_124, li_150, li_255, li_480, li_488, li_600, li_999, li_1110, li_54]
  refine ⟨fun e => ?_, fun e => ?_⟩
  · rw [show (1110 * (u : Int)) = ((1110 * u : Nat) : Int) by omega]
    refine s_copies (o1 := 28) (o2 := 30) (N1 := 1110) (N2 := 6660) (a := 0) (b := 1110 * u) rfl (by decide) rfl (by decide) (by decide) (by decide) (by omega) ⟨by decide, by decide⟩ ?_
    rw [zpt_ne (by decide), h1]
    try simp (disch := omega) only [iI_add, iI_sub, iI_mul, iI_neg, iI_n, iI_lt, iI_le, iI_eq, iI_tn, iI_ti, bI_0, bI_1, iI_L, iL_0, Decidable.not_not, Int.toNat_natCast, zpt_at, zpt_ne, pk_us, pk_un, forall_eq, tn_0, tn_1, tn_2, tn_3, tn_4, tn_5, ni_1, ni_2, ni_3, ni_4, ni_5, not_false_eq_true, not_true_eq_false, true_implies, false_implies, and_true, true_and, iL_6, iL_m6, iL_7, iL_8, iL_9, iL_4, iL_m4, iL_m8, li_0, li_1, li_2, li_3, li_4, li_5, li_6, li_7, li_8, li_9, li_10, li_11, li_12, li_13, li_15, li_16, li_18, li_20, li_24, li_31, li_32, li_40, li_46, li_48, li_57, li_59, li_60, li_61, li_63, li_64, li_97, li_99, li_122, li_124, li_150, li_255, li_480, li_488, li_600, li_999, li_1110, li_54]
    refine H _ (((FM.rf [30] [18] σ).pt (by decide) (by decide) _).fl (by decide) _) ⟨?_, by omega, fun i hi k hk => ?_⟩
    · rw [zpt_at, pk_us]; congr 1; omega
    · rw [zpt_ne (by decide), zpt_at]
      unfold hpush
      by_cases e0 : i = 0
      · subst e0
        rw [if_pos rfl, fb_put_in (by omega) (by omega), Nat.zero_add, ← ha k hk]
        exact congrArg (σ.1 28) (by omega)
      · rw [if_neg e0, fb_put_out (by omega), ← h3 (i - 1) (by omega) k hk]
        exact congrArg (σ.1 30) (by omega)
  · obtain rfl : u = 6 := by omega
    have e5 : ((6 : Nat) : Int) - 1 = 5 := by omega
    rw [e5]
    have := s_keeps_21 (g := g) (l := l) (X := X) (K := K) (σ := zup σ 24 18 (iI 5)) (p0 := σ.1 30) (by rw [zpt_at, pk_us]) (fun f hf1 hf2 => ?_) 0 (by omega) (σ.1 30) (fun q hq => absurd hq (Nat.not_lt_zero q)) (fun q _ => rfl)
    · rw [show zpt (zup σ 24 18 (iI 5)) 30 (σ.1 30) = zup σ 24 18 (iI 5) by
        have := zpt_id (zup σ 24 18 (iI 5)) 30
        rw [zpt_ne (by decide)] at this
        exact this] at this
      exact this
    · refine H _ ((((FM.rf [30] [18] σ).fl (by decide) _).pt (by decide) (by decide) _).fl (by decide) _) ⟨?_, by omega, fun i hi k hk => ?_⟩
      · rw [zpt_at, pk_us]; rfl
      · rw [zpt_ne (by decide), zpt_at]
        rw [zpt_ne (by decide)] at hf2
        unfold hpush
        by_cases e0 : i = 0
        · subst e0
          rw [if_pos rfl, ← ha k hk, ← hf2 k hk]
          rfl
        · rw [if_neg e0, hf1 _ (by omega), ← h3 (i - 1) (by omega) k hk]
          exact congrArg (σ.1 30) (by omega)
theorem s_kept {u : Nat} {h : Nat → Nat → Int32} {a : Nat → Int32} {v : Int32} (hH : HsM σ u h) (ha : ∀ k, k < 1110 → σ.1 28 k = a k) (H : ∀ τ, FM [30] [18] σ τ → HsM τ (min 6 (u + 1)) (hpush a h) → K v τ) : CT g l M_X7_kept 0 [.ref (zad g 24), .int v] σ (zQi K X) :=
  b_X7_kept (s_keeps hH ha H)
/-- after a change: the row, what is kept, what else may differ -/
def Chg (σ : zS) (u : Nat) (h : Nat → Nat → Int32) (m m' : Nat → Int32) (τ : zS) : Prop := FM [26, 28, 30] [0, 18] σ τ ∧ τ.1 24 0 = iI 0 ∧ τ.1 26 = m' ∧ HsM τ (min 6 (u + 1)) (hpush m h)
theorem chg_of {u : Nat} {h : Nat → Nat → Int32} {f m' : Nat → Int32} {τ : zS} (hF : FM [30] [18] (zpt (zpt (cd σ 0) 28 f) 26 m') τ) (hH : HsM τ (min 6 (u + 1)) (hpush m h)) : Chg σ u h m m' τ := by
  refine ⟨FM.tr ((((FM.rf [26, 28, 30] [0, 18] σ).cd (by decide) 0).pt (by decide) (by decide) f).pt (by decide) (by decide) m') (hF.sub (by decide) (by decide)), ?_, ?_, hH⟩
  · rw [hF.2.1 0 (by decide), zpt_ne (by decide), zpt_ne (by decide), zpt_at, pk_us]
  · rw [hF.1 26 (by decide) (by decide), zpt_at]
theorem pre_k {u : Nat} {h : Nat → Nat → Int32} {f m' : Nat → Int32} (hH : HsM σ u h) : HsM (zpt (zpt (cd σ 0) 28 f) 26 m') u h :=
  hH.fr (by rw [zpt_ne (by decide), zpt_ne (by decide), zpt_at, pk_un (by decide)]) (by rw [zpt_ne (by decide), zpt_ne (by decide), zpt_ne (by decide)])
theorem pre_m {f : Nat → Int32} (hm : σ.1 26 = m) : (zpt (cd σ 0) 28 f).1 26 = m := by rw [zpt_ne (by decide)]; exact cd_m hm 0
theorem pre_a {f m' : Nat → Int32} (hm : σ.1 26 = m) (hf : ∀ k, k < 1110 → f k = (cd σ 0).1 26 k) : ∀ k, k < 1110 → (zpt (zpt (cd σ 0) 28 f) 26 m').1 28 k = m k := fun k hk => by
  rw [zpt_ne (by decide), zpt_at, hf k hk, cd_m hm 0]
theorem s_pull {u : Nat} {h : Nat → Nat → Int32} (hm : σ.1 26 = m) (hw : WF m) (hH : HsM σ u h) {z : Int} (hz : I32 z) (H0 : (-8 ≤ z ∧ z ≤ 8) ∧ z ≠ 0 → ∀ τ, Chg σ u h m (wT m (plT m z)) τ → K (iI (fb_ct (fun j => decide (plT m z j ≠ tu m j)) (nS m))) τ) (H1 : ¬ ((-8 ≤ z ∧ z ≤ 8) ∧ z ≠ 0) → K (iI 0) (cd σ 1)) : CT g l M_X7_pull 0 [.ref (zad g 24), .int (iI z)] σ (zQi K X) := by
  refine b_X7_pull (s_isPull hz (s_goes (fun q => ?_) (fun q => ?_)))
  · try simp (disch := omega) only [iI_add, iI_sub, iI_mul, iI_neg, iI_n, iI_lt, iI_le, iI_eq, iI_tn, iI_ti, bI_0, bI_1, iI_L, iL_0, Decidable.not_not, Int.toNat_natCast, zpt_at, zpt_ne, pk_us, pk_un, forall_eq, tn_0, tn_1, tn_2, tn_3, tn_4, tn_5, ni_1, ni_2, ni_3, ni_4, ni_5, not_false_eq_true, not_true_eq_false, true_implies, false_implies, and_true, true_and, iL_6, iL_m6, iL_7, iL_8, iL_9, iL_4, iL_m4, iL_m8, li_0, li_1, li_2, li_3, li_4, li_5, li_6, li_7, li_8, li_9, li_10, li_11, li_12, li_13, li_15, li_16, li_18, li_20, li_24, li_31, li_32, li_40, li_46, li_48, li_57, li_59, li_60, li_61, li_63, li_64, li_97, li_99, li_122, li_124, li_150, li_255, li_480, li_488, li_600, li_999, li_1110, li_54]
    refine s_laysAside (fun f hf => ?_)
    refine s_pulls (t := tu m) hw (pre_m hm) (by omega) (s_kept (pre_k hH) (pre_a hm hf) (fun τ hF hH' => H0 q τ (chg_of hF hH')))
  · try simp (disch := omega) only [iI_add, iI_sub, iI_mul, iI_neg, iI_n, iI_lt, iI_le, iI_eq, iI_tn, iI_ti, bI_0, bI_1, iI_L, iL_0, Decidable.not_not, Int.toNat_natCast, zpt_at, zpt_ne, pk_us, pk_un, forall_eq, tn_0, tn_1, tn_2, tn_3, tn_4, tn_5, ni_1, ni_2, ni_3, ni_4, ni_5, not_false_eq_true, not_true_eq_false, true_implies, false_implies, and_true, true_and, iL_6, iL_m6, iL_7, iL_8, iL_9, iL_4, iL_m4, iL_m8, li_0, li_1, li_2, li_3, li_4, li_5, li_6, li_7, li_8, li_9, li_10, li_11, li_12, li_13, li_15, li_16, li_18, li_20, li_24, li_31, li_32, li_40, li_46, li_48, li_57, li_59, li_60, li_61, li_63, li_64, li_97, li_99, li_122, li_124, li_150, li_255, li_480, li_488, li_600, li_999, li_1110, li_54]
    exact H1 q
theorem s_turn {u : Nat} {h : Nat → Nat → Int32} (hm : σ.1 26 = m) (hw : WF m) (hH : HsM σ u h) {x z : Int} (hx : I32 x) (hz : I32 z) (H0 : ∀ k : Nat, x = k → k < nS m → (-4 ≤ z ∧ z ≤ 4) → td m k = 0 → ∀ τ, Chg σ u h m (mTurn m k z) τ → K (iI (tu m k)) τ) (H1 : ¬ (0 ≤ x ∧ x < nS m) → K (iI 0) (cd σ 1)) (H2 : (0 ≤ x ∧ x < nS m) → ¬ (-4 ≤ z ∧ z ≤ 4) → K (iI 0) (cd σ 2)) (H3 : ∀ k : Nat, x = k → k < nS m → (-4 ≤ z ∧ z ≤ 4) → td m k ≠ 0 → K (iI 0) (cd σ 3)) : CT g l M_X7_turn 0 [.ref (zad g 24), .int (iI x), .int (iI z)] σ (zQi K X) := by
  refine b_X7_turn (s_isSlat hm hw hx (s_isTurn hz ?_))
  have go : ∀ (r : Prop) [Decidable r], (∀ k : Nat, x = k → k < nS m → (r ↔ td m k = 0)) → CT g l M_X7_goesAll 0 [.ref (zad g 24), .int (bI (0 ≤ x ∧ x < nS m)), .int (bI (-4 ≤ z ∧ z ≤ 4)), .int (bI r)] σ (zQi (fun v4 τ4 => ((¬ v4 = 0 → CT g l M_X7_laysAside 0 [.ref (zad g 24)] τ4 (zQv (fun τ6 => CT g l M_X7_turns 0 [.ref (zad g 24), .int (iI x), .int (iI z)] τ6 (zQi (fun v7 τ7 => CT g l M_X7_kept 0 [.ref (zad g 24), .int v7] τ7 (zQi (fun v8 τ8 => K v8 τ8) (fun E τ => X E τ))) (fun E τ => X E τ))) (fun E τ => X E τ))) ∧ (v4 = 0 → K 0 τ4))) (fun E τ => X E τ)) := by
    intro r _ hr
    refine s_goesAll (fun h1 h2 h3 => ?_) (fun h1 => ?_) (fun h1 h2 => ?_) (fun h1 h2 h3 => ?_)
    · obtain ⟨k, rfl, hk⟩ := nat_of h1
      try simp (disch := omega) only [iI_add, iI_sub, iI_mul, iI_neg, iI_n, iI_lt, iI_le, iI_eq, iI_tn, iI_ti, bI_0, bI_1, iI_L, iL_0, Decidable.not_not, Int.toNat_natCast, zpt_at, zpt_ne, pk_us, pk_un, forall_eq, tn_0, tn_1, tn_2, tn_3, tn_4, tn_5, ni_1, ni_2, ni_3, ni_4, ni_5, not_false_eq_true, not_true_eq_false, true_implies, false_implies, and_true, true_and, iL_6, iL_m6, iL_7, iL_8, iL_9, iL_4, iL_m4, iL_m8, li_0, li_1, li_2, li_3, li_4, li_5, li_6, li_7, li_8, li_9, li_10, li_11, li_12, li_13, li_15, li_16, li_18, li_20, li_24, li_31, li_32, li_40, li_46, li_48, li_57, li_59, li_60, li_61, li_63, li_64, li_97, li_99, li_122, li_124, li_150, li_255, li_480, li_488, li_600, li_999, li_1110, li_54]
      refine s_laysAside (fun f hf => s_turns (pre_m hm) hw hk (s_kept (pre_k hH) (pre_a hm hf) (fun τ hF hH' => H0 k rfl hk h2 ((hr k rfl hk).mp h3) τ (chg_of hF hH'))))
    · try simp (disch := omega) only [iI_add, iI_sub, iI_mul, iI_neg, iI_n, iI_lt, iI_le, iI_eq, iI_tn, iI_ti, bI_0, bI_1, iI_L, iL_0, Decidable.not_not, Int.toNat_natCast, zpt_at, zpt_ne, pk_us, pk_un, forall_eq, tn_0, tn_1, tn_2, tn_3, tn_4, tn_5, ni_1, ni_2, ni_3, ni_4, ni_5, not_false_eq_true, not_true_eq_false, true_implies, false_implies, and_true, true_and, iL_6, iL_m6, iL_7, iL_8, iL_9, iL_4, iL_m4, iL_m8, li_0, li_1, li_2, li_3, li_4, li_5, li_6, li_7, li_8, li_9, li_10, li_11, li_12, li_13, li_15, li_16, li_18, li_20, li_24, li_31, li_32, li_40, li_46, li_48, li_57, li_59, li_60, li_61, li_63, li_64, li_97, li_99, li_122, li_124, li_150, li_255, li_480, li_488, li_600, li_999, li_1110, li_54]
      exact H1 h1
    · try simp (disch := omega) only [iI_add, iI_sub, iI_mul, iI_neg, iI_n, iI_lt, iI_le, iI_eq, iI_tn, iI_ti, bI_0, bI_1, iI_L, iL_0, Decidable.not_not, Int.toNat_natCast, zpt_at, zpt_ne, pk_us, pk_un, forall_eq, tn_0, tn_1, tn_2, tn_3, tn_4, tn_5, ni_1, ni_2, ni_3, ni_4, ni_5, not_false_eq_true, not_true_eq_false, true_implies, false_implies, and_true, true_and, iL_6, iL_m6, iL_7, iL_8, iL_9, iL_4, iL_m4, iL_m8, li_0, li_1, li_2, li_3, li_4, li_5, li_6, li_7, li_8, li_9, li_10, li_11, li_12, li_13, li_15, li_16, li_18, li_20, li_24, li_31, li_32, li_40, li_46, li_48, li_57, li_59, li_60, li_61, li_63, li_64, li_97, li_99, li_122, li_124, li_150, li_255, li_480, li_488, li_600, li_999, li_1110, li_54]
      exact H2 h1 h2
    · obtain ⟨k, rfl, hk⟩ := nat_of h1
      try simp (disch := omega) only [iI_add, iI_sub, iI_mul, iI_neg, iI_n, iI_lt, iI_le, iI_eq, iI_tn, iI_ti, bI_0, bI_1, iI_L, iL_0, Decidable.not_not, Int.toNat_natCast, zpt_at, zpt_ne, pk_us, pk_un, forall_eq, tn_0, tn_1, tn_2, tn_3, tn_4, tn_5, ni_1, ni_2, ni_3, ni_4, ni_5, not_false_eq_true, not_true_eq_false, true_implies, false_implies, and_true, true_and, iL_6, iL_m6, iL_7, iL_8, iL_9, iL_4, iL_m4, iL_m8, li_0, li_1, li_2, li_3, li_4, li_5, li_6, li_7, li_8, li_9, li_10, li_11, li_12, li_13, li_15, li_16, li_18, li_20, li_24, li_31, li_32, li_40, li_46, li_48, li_57, li_59, li_60, li_61, li_63, li_64, li_97, li_99, li_122, li_124, li_150, li_255, li_480, li_488, li_600, li_999, li_1110, li_54]
      exact H3 k rfl hk h2 (fun e => h3 ((hr k rfl hk).mpr e))
  have goF := go False
  have goT := go True
  rw [bI_F (fun q => q)] at goF
  rw [bI_T trivial] at goT
  refine ⟨fun q => goF (fun k e hk => ?_), fun q => ?_⟩
  · exfalso
    exact (bI_0.mp q) (by omega)
  · have q' : 0 ≤ x ∧ x < nS m := Decidable.not_not.mp (fun e => q (bI_0.mpr e))
    obtain ⟨k, rfl, hk⟩ := nat_of q'
    refine s_isFree hm hw hk ⟨fun e => goF (fun k' e' hk' => ?_), fun e => goT (fun k' e' hk' => ?_)⟩
    · have : k' = k := by omega
      subst this
      exact ⟨fun x => x.elim, fun x => bI_0.mp e x⟩
    · have : k' = k := by omega
      subst this
      exact ⟨fun _ => Decidable.not_not.mp (fun x => e (bI_0.mpr x)), fun _ => trivial⟩
theorem s_tie {u : Nat} {h : Nat → Nat → Int32} (hm : σ.1 26 = m) (hw : WF m) (hH : HsM σ u h) {x : Int} (hx : I32 x) {s : Nat} (hs : s < 2) (H0 : ∀ k : Nat, x = k → k < nS m → td m k ≠ s → ∀ τ, Chg σ u h m (mTie m k s) τ → K (iI 1) τ) (H1 : ¬ (0 ≤ x ∧ x < nS m) → K (iI 0) (cd σ 1)) (H2 : ∀ k : Nat, x = k → k < nS m → td m k = s → K (iI 0) (cd σ 0)) : CT g l M_X7_tie 0 [.ref (zad g 24), .int (iI x), .int (iI s)] σ (zQi K X) := by
  refine b_X7_tie (s_isSlat hm hw hx (s_goes (fun q => ?_) (fun q => ?_)))
  · obtain ⟨k, rfl, hk⟩ := nat_of q
    have hsl := wf_s hw hk
    simp only [li_1, li_0, (by decide : (iI 1 = iI 0) = False), not_false_eq_true, true_implies, false_implies, true_and]
    refine s_isFree (cd_m hm 0) hw hk ?_
    have e : bI (td m k = 0) = iI (s : Int) ↔ td m k ≠ s := by
      match s, hs with
      | 0, _ => exact bI_0
      | 1, _ =>
        refine bI_1.trans ?_
        omega
    rw [e]
    refine ⟨fun h2 => s_laysAside (fun f hf => s_ties (pre_m hm) hw hk hs (fun _ => ?_) (fun e => absurd e h2)), fun h2 => H2 k rfl hk (by omega)⟩
    exact s_keeps (pre_k hH) (pre_a hm hf) (fun τ hF hH' => ⟨zbl_1, H0 k rfl hk h2 τ (chg_of hF hH')⟩)
  · try simp (disch := omega) only [iI_add, iI_sub, iI_mul, iI_neg, iI_n, iI_lt, iI_le, iI_eq, iI_tn, iI_ti, bI_0, bI_1, iI_L, iL_0, Decidable.not_not, Int.toNat_natCast, zpt_at, zpt_ne, pk_us, pk_un, forall_eq, tn_0, tn_1, tn_2, tn_3, tn_4, tn_5, ni_1, ni_2, ni_3, ni_4, ni_5, not_false_eq_true, not_true_eq_false, true_implies, false_implies, and_true, true_and, iL_6, iL_m6, iL_7, iL_8, iL_9, iL_4, iL_m4, iL_m8, li_0, li_1, li_2, li_3, li_4, li_5, li_6, li_7, li_8, li_9, li_10, li_11, li_12, li_13, li_15, li_16, li_18, li_20, li_24, li_31, li_32, li_40, li_46, li_48, li_57, li_59, li_60, li_61, li_63, li_64, li_97, li_99, li_122, li_124, li_150, li_255, li_480, li_488, li_600, li_999, li_1110, li_54]
    exact H1 q
theorem s_paint {u : Nat} {h : Nat → Nat → Int32} (hm : σ.1 26 = m) (hw : WF m) (hH : HsM σ u h) {x : Int} (hx : I32 x) {s : Nat} (hs : s < 2) (H0 : ∀ k : Nat, x = k → k < nS m → ct m k s < nC m → ∀ τ, Chg σ u h m (mPaint m k s) τ → K (iI (unl m k s)) τ) (H1 : ¬ (0 ≤ x ∧ x < nS m) → K (iI 0) (cd σ 1)) (H2 : ∀ k : Nat, x = k → k < nS m → ¬ ct m k s < nC m → K (iI 0) (cd σ 2)) : CT g l M_X7_paint 0 [.ref (zad g 24), .int (iI x), .int (iI s)] σ (zQi K X) := by
  have hwb := wf_b hw
  refine b_X7_paint (s_isSlat hm hw hx ?_)
  have go : ∀ (r : Prop) [Decidable r], (∀ k : Nat, x = k → k < nS m → (r ↔ ct m k s < nC m)) → CT g l M_X7_goesBoth 0 [.ref (zad g 24), .int (bI (0 ≤ x ∧ x < nS m)), .int (bI r)] σ (zQi (fun v3 τ3 => ((¬ v3 = 0 → CT g l M_X7_laysAside 0 [.ref (zad g 24)] τ3 (zQv (fun τ5 => CT g l M_X7_truth 0 [.int (iI s)] τ5 (zQi (fun v6 τ6 => CT g l M_X7_paints 0 [.ref (zad g 24), .int (iI x), .int v6] τ6 (zQi (fun v7 τ7 => CT g l M_X7_kept 0 [.ref (zad g 24), .int v7] τ7 (zQi (fun v8 τ8 => K v8 τ8) (fun E τ => X E τ))) (fun E τ => X E τ))) (fun E τ => X E τ))) (fun E τ => X E τ))) ∧ (v3 = 0 → K 0 τ3))) (fun E τ => X E τ)) := by
    intro r _ hr
    refine s_goesBoth (fun h1 h2 => ?_) (fun h1 => ?_) (fun h1 h2 => ?_)
    · obtain ⟨k, rfl, hk⟩ := nat_of h1
      have hc := (hr k rfl hk).mp h2
      try simp (disch := omega) only [iI_add, iI_sub, iI_mul, iI_neg, iI_n, iI_lt, iI_le, iI_eq, iI_tn, iI_ti, bI_0, bI_1, iI_L, iL_0, Decidable.not_not, Int.toNat_natCast, zpt_at, zpt_ne, pk_us, pk_un, forall_eq, tn_0, tn_1, tn_2, tn_3, tn_4, tn_5, ni_1, ni_2, ni_3, ni_4, ni_5, not_false_eq_true, not_true_eq_false, true_implies, false_implies, and_true, true_and, iL_6, iL_m6, iL_7, iL_8, iL_9, iL_4, iL_m4, iL_m8, li_0, li_1, li_2, li_3, li_4, li_5, li_6, li_7, li_8, li_9, li_10, li_11, li_12, li_13, li_15, li_16, li_18, li_20, li_24, li_31, li_32, li_40, li_46, li_48, li_57, li_59, li_60, li_61, li_63, li_64, li_97, li_99, li_122, li_124, li_150, li_255, li_480, li_488, li_600, li_999, li_1110, li_54]
      refine s_laysAside (fun f hf => s_truthS hs (s_paints (pre_m hm) hw hk hs (by omega) (s_kept (pre_k hH) (pre_a hm hf) (fun τ hF hH' => H0 k rfl hk hc τ (chg_of hF hH')))))
    · try simp (disch := omega) only [iI_add, iI_sub, iI_mul, iI_neg, iI_n, iI_lt, iI_le, iI_eq, iI_tn, iI_ti, bI_0, bI_1, iI_L, iL_0, Decidable.not_not, Int.toNat_natCast, zpt_at, zpt_ne, pk_us, pk_un, forall_eq, tn_0, tn_1, tn_2, tn_3, tn_4, tn_5, ni_1, ni_2, ni_3, ni_4, ni_5, not_false_eq_true, not_true_eq_false, true_implies, false_implies, and_true, true_and, iL_6, iL_m6, iL_7, iL_8, iL_9, iL_4, iL_m4, iL_m8, li_0, li_1, li_2, li_3, li_4, li_5, li_6, li_7, li_8, li_9, li_10, li_11, li_12, li_13, li_15, li_16, li_18, li_20, li_24, li_31, li_32, li_40, li_46, li_48, li_57, li_59, li_60, li_61, li_63, li_64, li_97, li_99, li_122, li_124, li_150, li_255, li_480, li_488, li_600, li_999, li_1110, li_54]
      exact H1 h1
    · obtain ⟨k, rfl, hk⟩ := nat_of h1
      try simp (disch := omega) only [iI_add, iI_sub, iI_mul, iI_neg, iI_n, iI_lt, iI_le, iI_eq, iI_tn, iI_ti, bI_0, bI_1, iI_L, iL_0, Decidable.not_not, Int.toNat_natCast, zpt_at, zpt_ne, pk_us, pk_un, forall_eq, tn_0, tn_1, tn_2, tn_3, tn_4, tn_5, ni_1, ni_2, ni_3, ni_4, ni_5, not_false_eq_true, not_true_eq_false, true_implies, false_implies, and_true, true_and, iL_6, iL_m6, iL_7, iL_8, iL_9, iL_4, iL_m4, iL_m8, li_0, li_1, li_2, li_3, li_4, li_5, li_6, li_7, li_8, li_9, li_10, li_11, li_12, li_13, li_15, li_16, li_18, li_20, li_24, li_31, li_32, li_40, li_46, li_48, li_57, li_59, li_60, li_61, li_63, li_64, li_97, li_99, li_122, li_124, li_150, li_255, li_480, li_488, li_600, li_999, li_1110, li_54]
      exact H2 k rfl hk (fun e => h2 ((hr k rfl hk).mpr e))
  have goF := go False
  have goT := go True
  rw [bI_F (fun q => q)] at goF
  rw [bI_T trivial] at goT
  refine ⟨fun q => goF (fun k e hk => ?_), fun q => s_truthS hs ?_⟩
  · exfalso
    exact (bI_0.mp q) (by omega)
  · have q' : 0 ≤ x ∧ x < nS m := Decidable.not_not.mp (fun e => q (bI_0.mpr e))
    obtain ⟨k, rfl, hk⟩ := nat_of q'
    refine s_bearsMore hm hw hk hs ⟨fun e => goF (fun k' e' hk' => ?_), fun e => goT (fun k' e' hk' => ?_)⟩
    · have : k' = k := by omega
      subst this
      exact ⟨fun x => x.elim, fun x => bI_0.mp e x⟩
    · have : k' = k := by omega
      subst this
      exact ⟨fun _ => Decidable.not_not.mp (fun x => e (bI_0.mpr x)), fun _ => trivial⟩
theorem s_dab {u : Nat} {h : Nat → Nat → Int32} (hm : σ.1 26 = m) (hw : WF m) (hH : HsM σ u h) {k x y v : Int} (hk : I32 k) (hx : I32 x) (hy : I32 y) (hv : I32 v) {s : Nat} (hs : s < 2) (H0 : ∀ q c r w : Nat, k = q → x = c → y = r → v = w → q < nS m → c < wd m q → r < nH m → w ≤ 9 → ∀ τ, Chg σ u h m (mDab m q s c r w) τ → K (iI (fc m s (fst m q + c) r)) τ) (H1 : ¬ ((0 ≤ k ∧ k < nS m) ∧ (0 ≤ x ∧ x < wd m k.toNat) ∧ (0 ≤ y ∧ y < nH m)) → K (iI 0) (cd σ 1)) (H2 : ((0 ≤ k ∧ k < nS m) ∧ (0 ≤ x ∧ x < wd m k.toNat) ∧ (0 ≤ y ∧ y < nH m)) → ¬ (0 ≤ v ∧ v ≤ 9) → K (iI 0) (cd σ 2)) : CT g l M_X7_dab 0 [.ref (zad g 24), .int (iI k), .int (iI s), .int (iI x), .int (iI y), .int (iI v)] σ (zQi K X) := by
  refine b_X7_dab (s_isOfSlat hm hw hk hx hy (s_isColour hv (s_goesBoth (fun h1 h2 => ?_) (fun h1 => ?_) (fun h1 h2 => ?_))))
  · obtain ⟨q, rfl, hq⟩ := nat_of h1.1
    rw [Int.toNat_natCast] at h1
    obtain ⟨c, rfl, hc⟩ := nat_of h1.2.1
    obtain ⟨r, rfl, hr⟩ := nat_of h1.2.2
    obtain ⟨w, rfl, hw'⟩ := nat_of (n := 10) (show 0 ≤ v ∧ v < (10 : Nat) by omega)
    try simp (disch := omega) only [iI_add, iI_sub, iI_mul, iI_neg, iI_n, iI_lt, iI_le, iI_eq, iI_tn, iI_ti, bI_0, bI_1, iI_L, iL_0, Decidable.not_not, Int.toNat_natCast, zpt_at, zpt_ne, pk_us, pk_un, forall_eq, tn_0, tn_1, tn_2, tn_3, tn_4, tn_5, ni_1, ni_2, ni_3, ni_4, ni_5, not_false_eq_true, not_true_eq_false, true_implies, false_implies, and_true, true_and, iL_6, iL_m6, iL_7, iL_8, iL_9, iL_4, iL_m4, iL_m8, li_0, li_1, li_2, li_3, li_4, li_5, li_6, li_7, li_8, li_9, li_10, li_11, li_12, li_13, li_15, li_16, li_18, li_20, li_24, li_31, li_32, li_40, li_46, li_48, li_57, li_59, li_60, li_61, li_63, li_64, li_97, li_99, li_122, li_124, li_150, li_255, li_480, li_488, li_600, li_999, li_1110, li_54]
    refine s_laysAside (fun f hf => s_truthS hs (s_dabs0 (pre_m hm) hw hq hs hc hr (s_kept (pre_k hH) (pre_a hm hf) (fun τ hF hH' => H0 q c r w rfl rfl rfl rfl hq hc hr (by omega) τ (chg_of hF hH')))))
  · try simp (disch := omega) only [iI_add, iI_sub, iI_mul, iI_neg, iI_n, iI_lt, iI_le, iI_eq, iI_tn, iI_ti, bI_0, bI_1, iI_L, iL_0, Decidable.not_not, Int.toNat_natCast, zpt_at, zpt_ne, pk_us, pk_un, forall_eq, tn_0, tn_1, tn_2, tn_3, tn_4, tn_5, ni_1, ni_2, ni_3, ni_4, ni_5, not_false_eq_true, not_true_eq_false, true_implies, false_implies, and_true, true_and, iL_6, iL_m6, iL_7, iL_8, iL_9, iL_4, iL_m4, iL_m8, li_0, li_1, li_2, li_3, li_4, li_5, li_6, li_7, li_8, li_9, li_10, li_11, li_12, li_13, li_15, li_16, li_18, li_20, li_24, li_31, li_32, li_40, li_46, li_48, li_57, li_59, li_60, li_61, li_63, li_64, li_97, li_99, li_122, li_124, li_150, li_255, li_480, li_488, li_600, li_999, li_1110, li_54]
    exact H1 h1
  · try simp (disch := omega) only [iI_add, iI_sub, iI_mul, iI_neg, iI_n, iI_lt, iI_le, iI_eq, iI_tn, iI_ti, bI_0, bI_1, iI_L, iL_0, Decidable.not_not, Int.toNat_natCast, zpt_at, zpt_ne, pk_us, pk_un, forall_eq, tn_0, tn_1, tn_2, tn_3, tn_4, tn_5, ni_1, ni_2, ni_3, ni_4, ni_5, not_false_eq_true, not_true_eq_false, true_implies, false_implies, and_true, true_and, iL_6, iL_m6, iL_7, iL_8, iL_9, iL_4, iL_m4, iL_m8, li_0, li_1, li_2, li_3, li_4, li_5, li_6, li_7, li_8, li_9, li_10, li_11, li_12, li_13, li_15, li_16, li_18, li_20, li_24, li_31, li_32, li_40, li_46, li_48, li_57, li_59, li_60, li_61, li_63, li_64, li_97, li_99, li_122, li_124, li_150, li_255, li_480, li_488, li_600, li_999, li_1110, li_54]
    exact H2 h1 h2
theorem s_swap {u : Nat} {h : Nat → Nat → Int32} (hm : σ.1 26 = m) (hw : WF m) (hH : HsM σ u h) {x : Int} (hx : I32 x) (H0 : ∀ k : Nat, x = k → k < nS m → ∀ τ, Chg σ u h m (mSwap m k) τ → K (iI (swN m k)) τ) (H1 : ¬ (0 ≤ x ∧ x < nS m) → K (iI 0) (cd σ 1)) : CT g l M_X7_swap 0 [.ref (zad g 24), .int (iI x)] σ (zQi K X) := by
  refine b_X7_swap (s_isSlat hm hw hx (s_goes (fun q => ?_) (fun q => ?_)))
  · obtain ⟨k, rfl, hk⟩ := nat_of q
    try simp (disch := omega) only [iI_add, iI_sub, iI_mul, iI_neg, iI_n, iI_lt, iI_le, iI_eq, iI_tn, iI_ti, bI_0, bI_1, iI_L, iL_0, Decidable.not_not, Int.toNat_natCast, zpt_at, zpt_ne, pk_us, pk_un, forall_eq, tn_0, tn_1, tn_2, tn_3, tn_4, tn_5, ni_1, ni_2, ni_3, ni_4, ni_5, not_false_eq_true, not_true_eq_false, true_implies, false_implies, and_true, true_and, iL_6, iL_m6, iL_7, iL_8, iL_9, iL_4, iL_m4, iL_m8, li_0, li_1, li_2, li_3, li_4, li_5, li_6, li_7, li_8, li_9, li_10, li_11, li_12, li_13, li_15, li_16, li_18, li_20, li_24, li_31, li_32, li_40, li_46, li_48, li_57, li_59, li_60, li_61, li_63, li_64, li_97, li_99, li_122, li_124, li_150, li_255, li_480, li_488, li_600, li_999, li_1110, li_54]
    refine s_laysAside (fun f hf => s_swaps (pre_m hm) hw hk (s_kept (pre_k hH) (pre_a hm hf) (fun τ hF hH' => H0 k rfl hk τ (chg_of hF hH'))))
  · try simp (disch := omega) only [iI_add, iI_sub, iI_mul, iI_neg, iI_n, iI_lt, iI_le, iI_eq, iI_tn, iI_ti, bI_0, bI_1, iI_L, iL_0, Decidable.not_not, Int.toNat_natCast, zpt_at, zpt_ne, pk_us, pk_un, forall_eq, tn_0, tn_1, tn_2, tn_3, tn_4, tn_5, ni_1, ni_2, ni_3, ni_4, ni_5, not_false_eq_true, not_true_eq_false, true_implies, false_implies, and_true, true_and, iL_6, iL_m6, iL_7, iL_8, iL_9, iL_4, iL_m4, iL_m8, li_0, li_1, li_2, li_3, li_4, li_5, li_6, li_7, li_8, li_9, li_10, li_11, li_12, li_13, li_15, li_16, li_18, li_20, li_24, li_31, li_32, li_40, li_46, li_48, li_57, li_59, li_60, li_61, li_63, li_64, li_97, li_99, li_122, li_124, li_150, li_255, li_480, li_488, li_600, li_999, li_1110, li_54]
    exact H1 q
end ZMH
