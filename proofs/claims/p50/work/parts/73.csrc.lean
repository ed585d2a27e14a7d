/-! the class: its tokens -/
theorem li_41 : (41 : Int32) = iI 41 := rfl
section ZCS
variable {g : zG} {l : Launch} {X : String → zS → Prop} {σ : zS} {f : Nat → Nat} {n p : Nat}
def SrB (σ : zS) (f : Nat → Nat) (n : Nat) : Prop := n ≤ 600 ∧ (∀ i, i < n → f i < 256) ∧ σ.1 1 1 = iI n ∧ (∀ i, i < n → σ.1 2 i = sbN (f i)) ∧ σ.1 1 6 = iI 0 ∧ σ.1 1 7 = iI (-1)
def SrC (σ : zS) (f : Nat → Nat) (n p : Nat) : Prop := SrB σ f n ∧ p ≤ n ∧ σ.1 1 3 = iI (ztS f n p) ∧ σ.1 1 4 = iI (ztE f n p) ∧ σ.1 1 2 = iI (ztK f n p) ∧ (ztK f n p = 3 → σ.1 1 5 = iI (ztV f n p))
theorem SrB.fr {τ : zS} (H : SrB σ f n) (h1 : ∀ k, ¬ (2 ≤ k ∧ k ≤ 5) → τ.1 1 k = σ.1 1 k) (h2 : τ.1 2 = σ.1 2) : SrB τ f n :=
  ⟨H.1, H.2.1, (h1 1 (by omega)).trans H.2.2.1, fun i hi => by rw [h2]; exact H.2.2.2.1 i hi, (h1 6 (by omega)).trans H.2.2.2.2.1, (h1 7 (by omega)).trans H.2.2.2.2.2⟩
theorem SrC.fr {τ : zS} (H : SrC σ f n p) (h1 : τ.1 1 = σ.1 1) (h2 : τ.1 2 = σ.1 2) : SrC τ f n p :=
  ⟨H.1.fr (fun k _ => by rw [h1]) h2, H.2.1, by rw [h1]; exact H.2.2.1, by rw [h1]; exact H.2.2.2.1, by rw [h1]; exact H.2.2.2.2.1, fun e => by rw [h1]; exact H.2.2.2.2.2 e⟩
theorem c_ends_5 {K : Int32 → zS → Prop} (hB : SrB σ f n) {lo hi : Nat} (hh : lo ≤ hi) (hi2 : hi < 128) (j : Nat) (hj : j ≤ n) (H : K (iI (runQ (fun v => lo ≤ v ∧ v ≤ hi) f n j)) σ) : L_X3_endOfRun_5 g l K X (iI lo) (iI hi) (iI j) σ := by
  have ih := fun h H => c_ends_5 (K := K) hB hh hi2 (j + 1) h H
  obtain ⟨hn, hf, h1, hb, _, _⟩ := hB
  refine b_X3_endOfRun_5 ?_
  rw [h1]
  try simp (disch := omega) only [iI_add, iI_sub, iI_mul, iI_neg, iI_n, iI_lt, iI_le, iI_eq, iI_tn, iI_ti, bI_0, bI_1, iI_L, iL_0, Decidable.not_not, Int.toNat_natCast, zpt_at, zpt_ne, pk_us, pk_un, forall_eq, tn_0, tn_1, tn_2, tn_3, tn_4, tn_5, ni_1, ni_2, ni_3, ni_4, ni_5, not_false_eq_true, not_true_eq_false, true_implies, false_implies, and_true, true_and, iL_6, iL_m6, iL_7, iL_8, iL_9, iL_4, iL_m4, iL_m8, li_0, li_1, li_2, li_3, li_4, li_5, li_6, li_7, li_8, li_9, li_10, li_11, li_12, li_13, li_15, li_16, li_18, li_20, li_24, li_31, li_32, li_40, li_46, li_48, li_57, li_59, li_60, li_61, li_63, li_64, li_97, li_99, li_122, li_124, li_150, li_255, li_480, li_488, li_600, li_999, li_1110, li_54]
  refine ⟨fun h => ?_, fun h => ⟨iI_in (by omega) (by omega) (by omega), ?_⟩⟩
  · rw [runQ_n (by omega)] at H; exact H
  · have hfj := hf j (by omega)
    have hsv := sv_c hfj
    rw [hb j (by omega), sv_eq (hf j (by omega))]
    try simp (disch := omega) only [iI_add, iI_sub, iI_mul, iI_neg, iI_n, iI_lt, iI_le, iI_eq, iI_tn, iI_ti, bI_0, bI_1, iI_L, iL_0, Decidable.not_not, Int.toNat_natCast, zpt_at, zpt_ne, pk_us, pk_un, forall_eq, tn_0, tn_1, tn_2, tn_3, tn_4, tn_5, ni_1, ni_2, ni_3, ni_4, ni_5, not_false_eq_true, not_true_eq_false, true_implies, false_implies, and_true, true_and, iL_6, iL_m6, iL_7, iL_8, iL_9, iL_4, iL_m4, iL_m8, li_0, li_1, li_2, li_3, li_4, li_5, li_6, li_7, li_8, li_9, li_10, li_11, li_12, li_13, li_15, li_16, li_18, li_20, li_24, li_31, li_32, li_40, li_46, li_48, li_57, li_59, li_60, li_61, li_63, li_64, li_97, li_99, li_122, li_124, li_150, li_255, li_480, li_488, li_600, li_999, li_1110, li_54]
    refine ⟨fun h2 => ?_, fun h2 => ⟨iI_in (by omega) (by omega) (by omega), fun h3 => ?_, fun h3 => ?_⟩⟩
    · rw [runQ_n (by show ¬ (_ ∧ (lo ≤ f j ∧ f j ≤ hi)); omega)] at H; exact H
    · rw [runQ_n (by show ¬ (_ ∧ (lo ≤ f j ∧ f j ≤ hi)); omega)] at H; exact H
    · rw [runQ_y (by omega) (by show lo ≤ f j ∧ f j ≤ hi; omega)] at H
      exact ih (by omega) H
termination_by n - j
theorem c_endOfRun {K : Int32 → zS → Prop} (hB : SrB σ f n) {lo hi : Nat} (hh : lo ≤ hi) (hi2 : hi < 128) {j : Nat} (hj : j ≤ n) (h3 : σ.1 1 3 = iI j) (H : K (iI (runQ (fun v => lo ≤ v ∧ v ≤ hi) f n j)) σ) : CT g l M_X3_endOfRun 0 [.ref (zad g 1), .int (iI lo), .int (iI hi)] σ (zQi K X) := by
  refine b_X3_endOfRun ?_
  rw [h3]
  exact c_ends_5 hB hh hi2 j hj H
theorem c_number_7 {K : Int32 → zS → Prop} (hB : SrB σ f n) {s e : Nat} (he : e ≤ n) (hs : e ≤ s + 3) (h4 : σ.1 1 4 = iI e) (hd : ∀ i, i < e - s → isD (f (s + i))) (j : Nat) (hj : s + j ≤ e) (H : K (iI (vQ f s (e - s))) σ) : L_X3_numberHere_7 g l K X (iI (vQ f s j)) (iI (s + j : Nat)) σ := by
  have ih := fun h => c_number_7 (K := K) hB he hs h4 hd (j + 1) h H
  obtain ⟨hn, hf, h1, hb, _, _⟩ := hB
  refine b_X3_numberHere_7 ?_
  rw [h4]
  try simp (disch := omega) only [iI_add, iI_sub, iI_mul, iI_neg, iI_n, iI_lt, iI_le, iI_eq, iI_tn, iI_ti, bI_0, bI_1, iI_L, iL_0, Decidable.not_not, Int.toNat_natCast, zpt_at, zpt_ne, pk_us, pk_un, forall_eq, tn_0, tn_1, tn_2, tn_3, tn_4, tn_5, ni_1, ni_2, ni_3, ni_4, ni_5, not_false_eq_true, not_true_eq_false, true_implies, false_implies, and_true, true_and, iL_6, iL_m6, iL_7, iL_8, iL_9, iL_4, iL_m4, iL_m8, li_0, li_1, li_2, li_3, li_4, li_5, li_6, li_7, li_8, li_9, li_10, li_11, li_12, li_13, li_15, li_16, li_18, li_20, li_24, li_31, li_32, li_40, li_46, li_48, li_57, li_59, li_60, li_61, li_63, li_64, li_97, li_99, li_122, li_124, li_150, li_255, li_480, li_488, li_600, li_999, li_1110, li_54]
  refine ⟨fun h => ?_, fun h => ⟨iI_in (by omega) (by omega) (by omega), ?_⟩⟩
  · rw [show e - s = j by omega] at H; exact H
  · have hfj := hf (s + j) (by omega)
    have hsv := sv_c hfj
    have hd2 := hd j (by omega)
    rw [hb _ (by omega), sv_eq (hf _ (by omega))]
    try simp (disch := omega) only [iI_add, iI_sub, iI_mul, iI_neg, iI_n, iI_lt, iI_le, iI_eq, iI_tn, iI_ti, bI_0, bI_1, iI_L, iL_0, Decidable.not_not, Int.toNat_natCast, zpt_at, zpt_ne, pk_us, pk_un, forall_eq, tn_0, tn_1, tn_2, tn_3, tn_4, tn_5, ni_1, ni_2, ni_3, ni_4, ni_5, not_false_eq_true, not_true_eq_false, true_implies, false_implies, and_true, true_and, iL_6, iL_m6, iL_7, iL_8, iL_9, iL_4, iL_m4, iL_m8, li_0, li_1, li_2, li_3, li_4, li_5, li_6, li_7, li_8, li_9, li_10, li_11, li_12, li_13, li_15, li_16, li_18, li_20, li_24, li_31, li_32, li_40, li_46, li_48, li_57, li_59, li_60, li_61, li_63, li_64, li_97, li_99, li_122, li_124, li_150, li_255, li_480, li_488, li_600, li_999, li_1110, li_54]
    rw [show (10 * (vQ f s j : Int) + sv (f (s + j)) - 48) = ((vQ f s (j + 1) : Nat) : Int) by
      show _ = ((10 * vQ f s j + (f (s + j) - 48) : Nat) : Int)
      omega, show ((s + j : Nat) : Int) + 1 = ((s + (j + 1) : Nat) : Int) by omega]
    exact ih (by omega)
termination_by e - s - j
theorem c_isSign {K : Int32 → zS → Prop} {v : Nat} (hv : v < 256) (H1 : isG v → K (iI 1) σ) (H0 : ¬ isG v → K (iI 0) σ) : CT g l M_X3_isSign 0 [.int (sbN v)] σ (zQi K X) := by
  refine b_X3_isSign ?_
  have hsv := sv_c hv
  rw [sv_eq hv]
  try simp (disch := omega) only [iI_add, iI_sub, iI_mul, iI_neg, iI_n, iI_lt, iI_le, iI_eq, iI_tn, iI_ti, bI_0, bI_1, iI_L, iL_0, Decidable.not_not, Int.toNat_natCast, zpt_at, zpt_ne, pk_us, pk_un, forall_eq, tn_0, tn_1, tn_2, tn_3, tn_4, tn_5, ni_1, ni_2, ni_3, ni_4, ni_5, not_false_eq_true, not_true_eq_false, true_implies, false_implies, and_true, true_and, iL_6, iL_m6, iL_7, iL_8, iL_9, iL_4, iL_m4, iL_m8, li_0, li_1, li_2, li_3, li_4, li_5, li_6, li_7, li_8, li_9, li_10, li_11, li_12, li_13, li_15, li_16, li_18, li_20, li_24, li_31, li_32, li_40, li_46, li_48, li_57, li_59, li_60, li_61, li_63, li_64, li_97, li_99, li_122, li_124, li_150, li_255, li_480, li_488, li_600, li_999, li_1110, li_54, li_41]
  exact ⟨fun h => H1 (by omega), fun h => ⟨fun h2 => H1 (by omega), fun h2 => ⟨fun h3 => H0 (by omega), fun h3 => H1 (by omega)⟩⟩⟩
theorem c_fin {K : zS → Prop} {τ : zS} (hB : SrB σ f n) (hp : p ≤ n) (h3 : σ.1 1 3 = iI (ztS f n p)) (H : ∀ τ, FrP (fun b => b = 1) σ τ → SrC τ f n p → K τ) (hb : ∀ b, b ≠ 1 → τ.1 b = σ.1 b) (hJ : τ.2 = σ.2) (hF : ∀ k, k ≠ 2 → k ≠ 4 → k ≠ 5 → τ.1 1 k = σ.1 1 k) (h4 : τ.1 1 4 = iI (ztE f n p)) (h2 : τ.1 1 2 = iI (ztK f n p)) (h5 : ztK f n p = 3 → τ.1 1 5 = iI (ztV f n p)) : K τ :=
  H τ ⟨hb, hJ⟩ ⟨hB.fr (fun k hk => hF k (by omega) (by omega) (by omega)) (hb 2 (by decide)), hp, (hF 3 (by decide) (by decide) (by decide)).trans h3, h4, h2, h5⟩
theorem c_eL {K : Int32 → zS → Prop} (hB : SrB σ f n) (hs : ztS f n p ≤ n) (h3 : σ.1 1 3 = iI (ztS f n p)) (H : K (iI (ztL f n p)) σ) : CT g l M_X3_endOfRun 0 [.ref (zad g 1), .int 97, .int 122] σ (zQi K X) := c_endOfRun hB (lo := 97) (hi := 122) (by decide) (by decide) hs h3 H
theorem c_eD {K : Int32 → zS → Prop} (hB : SrB σ f n) (hs : ztS f n p ≤ n) (h3 : σ.1 1 3 = iI (ztS f n p)) (H : K (iI (ztD f n p)) σ) : CT g l M_X3_endOfRun 0 [.ref (zad g 1), .int 48, .int 57] σ (zQi K X) := c_endOfRun hB (lo := 48) (hi := 57) (by decide) (by decide) hs h3 H
/-- the rest of a step, once the blanks are behind -/
theorem c_adv_60 {K : zS → Prop} (hB : SrB σ f n) (hp : p ≤ n) (h3 : σ.1 1 3 = iI (ztS f n p)) (H : ∀ τ, FrP (fun b => b = 1) σ τ → SrC τ f n p → K τ) : L_X3_advance_60 g l K X σ := by
  have hs := ztS_hi (f := f) hp
  have hn := hB.1
  have hf := hB.2.1
  have hL : ztL f n p ≤ n := runQ_hi _ _ _ _ hs
  have hD : ztD f n p ≤ n := runQ_hi _ _ _ _ hs
  have h1 := hB.2.2.1
  refine b_X3_advance_60 (c_eL hB hs h3 (c_eD hB hs h3 ?_))
  rw [h3, h1]
  try simp (disch := omega) only [iI_add, iI_sub, iI_mul, iI_neg, iI_n, iI_lt, iI_le, iI_eq, iI_tn, iI_ti, bI_0, bI_1, iI_L, iL_0, Decidable.not_not, Int.toNat_natCast, zpt_at, zpt_ne, pk_us, pk_un, forall_eq, tn_0, tn_1, tn_2, tn_3, tn_4, tn_5, ni_1, ni_2, ni_3, ni_4, ni_5, not_false_eq_true, not_true_eq_false, true_implies, false_implies, and_true, true_and, iL_6, iL_m6, iL_7, iL_8, iL_9, iL_4, iL_m4, iL_m8, li_0, li_1, li_2, li_3, li_4, li_5, li_6, li_7, li_8, li_9, li_10, li_11, li_12, li_13, li_15, li_16, li_18, li_20, li_24, li_31, li_32, li_40, li_46, li_48, li_57, li_59, li_60, li_61, li_63, li_64, li_97, li_99, li_122, li_124, li_150, li_255, li_480, li_488, li_600, li_999, li_1110, li_54]
  refine ⟨fun h => ⟨fun hl => ⟨fun hd => ?_, fun hd => ?_⟩, fun hl => ?_⟩, fun h => ?_⟩
  · rw [h3]
    refine ⟨iI_in (by omega) (by omega) (by omega), ?_⟩
    try simp (disch := omega) only [iI_add, iI_sub, iI_mul, iI_neg, iI_n, iI_lt, iI_le, iI_eq, iI_tn, iI_ti, bI_0, bI_1, iI_L, iL_0, Decidable.not_not, Int.toNat_natCast, zpt_at, zpt_ne, pk_us, pk_un, forall_eq, tn_0, tn_1, tn_2, tn_3, tn_4, tn_5, ni_1, ni_2, ni_3, ni_4, ni_5, not_false_eq_true, not_true_eq_false, true_implies, false_implies, and_true, true_and, iL_6, iL_m6, iL_7, iL_8, iL_9, iL_4, iL_m4, iL_m8, li_0, li_1, li_2, li_3, li_4, li_5, li_6, li_7, li_8, li_9, li_10, li_11, li_12, li_13, li_15, li_16, li_18, li_20, li_24, li_31, li_32, li_40, li_46, li_48, li_57, li_59, li_60, li_61, li_63, li_64, li_97, li_99, li_122, li_124, li_150, li_255, li_480, li_488, li_600, li_999, li_1110, li_54]
    rw [hB.2.2.2.1 _ (by omega)]
    have e4 : ztE f n p = ztS f n p + 1 := by unfold ztE; rw [if_neg (by omega), if_neg (by omega), if_neg (by omega)]
    have e2 : ztK f n p = if isG (f (ztS f n p)) then f (ztS f n p) else 1 := by unfold ztK; rw [if_neg (by omega), if_neg (by omega), if_neg (by omega)]
    refine c_isSign (hf _ (by omega)) (fun q => ?_) (fun q => ?_)
    · rw [if_pos q] at e2
      rw [zpt_at, pk_un (by decide), h3]
      try simp (disch := omega) only [iI_add, iI_sub, iI_mul, iI_neg, iI_n, iI_lt, iI_le, iI_eq, iI_tn, iI_ti, bI_0, bI_1, iI_L, iL_0, Decidable.not_not, Int.toNat_natCast, zpt_at, zpt_ne, pk_us, pk_un, forall_eq, tn_0, tn_1, tn_2, tn_3, tn_4, tn_5, ni_1, ni_2, ni_3, ni_4, ni_5, not_false_eq_true, not_true_eq_false, true_implies, false_implies, and_true, true_and, iL_6, iL_m6, iL_7, iL_8, iL_9, iL_4, iL_m4, iL_m8, li_0, li_1, li_2, li_3, li_4, li_5, li_6, li_7, li_8, li_9, li_10, li_11, li_12, li_13, li_15, li_16, li_18, li_20, li_24, li_31, li_32, li_40, li_46, li_48, li_57, li_59, li_60, li_61, li_63, li_64, li_97, li_99, li_122, li_124, li_150, li_255, li_480, li_488, li_600, li_999, li_1110, li_54]
      refine ⟨iI_in (by omega) (by omega) (by omega), b_X3_advance_241 ?_⟩
      rw [hB.2.2.2.1 _ (by omega), sv_eq (hf _ (by omega)), show sv (f (ztS f n p)) = f (ztS f n p) by have := sv_c (hf (ztS f n p) (by omega)); unfold isG at q; omega]
      intro τ e
      refine b_X3_advance_244 (c_fin (τ := τ) hB hp h3 H ?_ ?_ ?_ ?_ ?_ ?_)
      · intro b hb; rw [e, zpt_ne hb, zpt_ne hb]
      · rw [e]; rfl
      · intro k a b c; rw [e, zpt_at, zpt_at, pk_un a, pk_un b]
      · rw [e, zpt_at, zpt_at, pk_un (by decide), pk_us, e4]; rfl
      · rw [e, zpt_at, pk_us, e2]
      · intro k; exact absurd (e2.symm.trans k) (by unfold isG at q; omega)
    · rw [if_neg q] at e2
      try simp (disch := omega) only [iI_add, iI_sub, iI_mul, iI_neg, iI_n, iI_lt, iI_le, iI_eq, iI_tn, iI_ti, bI_0, bI_1, iI_L, iL_0, Decidable.not_not, Int.toNat_natCast, zpt_at, zpt_ne, pk_us, pk_un, forall_eq, tn_0, tn_1, tn_2, tn_3, tn_4, tn_5, ni_1, ni_2, ni_3, ni_4, ni_5, not_false_eq_true, not_true_eq_false, true_implies, false_implies, and_true, true_and, iL_6, iL_m6, iL_7, iL_8, iL_9, iL_4, iL_m4, iL_m8, li_0, li_1, li_2, li_3, li_4, li_5, li_6, li_7, li_8, li_9, li_10, li_11, li_12, li_13, li_15, li_16, li_18, li_20, li_24, li_31, li_32, li_40, li_46, li_48, li_57, li_59, li_60, li_61, li_63, li_64, li_97, li_99, li_122, li_124, li_150, li_255, li_480, li_488, li_600, li_999, li_1110, li_54]
      refine b_X3_advance_241 ?_
      intro τ e
      refine b_X3_advance_244 (c_fin (τ := τ) hB hp h3 H ?_ ?_ ?_ ?_ ?_ ?_)
      · intro b hb; rw [e, zpt_ne hb, zpt_ne hb]
      · rw [e]; rfl
      · intro k a b c; rw [e, zpt_at, zpt_at, pk_un a, pk_un b]
      · rw [e, zpt_at, zpt_at, pk_un (by decide), pk_us, e4]; rfl
      · rw [e, zpt_at, pk_us, e2]; rfl
      · intro k; exact absurd (e2.symm.trans k) (by omega)
  · -- digits
    have hd3 : ztS f n p < ztD f n p := by omega
    have e4 : ztE f n p = ztD f n p := by unfold ztE; rw [if_neg (by omega), if_neg (by omega), if_pos hd3]
    have e2 : ztK f n p = if ztD f n p - ztS f n p ≤ 3 then 3 else 1 := by unfold ztK; rw [if_neg (by omega), if_neg (by omega), if_pos hd3]
    rw [h3]
    try simp (disch := omega) only [iI_add, iI_sub, iI_mul, iI_neg, iI_n, iI_lt, iI_le, iI_eq, iI_tn, iI_ti, bI_0, bI_1, iI_L, iL_0, Decidable.not_not, Int.toNat_natCast, zpt_at, zpt_ne, pk_us, pk_un, forall_eq, tn_0, tn_1, tn_2, tn_3, tn_4, tn_5, ni_1, ni_2, ni_3, ni_4, ni_5, not_false_eq_true, not_true_eq_false, true_implies, false_implies, and_true, true_and, iL_6, iL_m6, iL_7, iL_8, iL_9, iL_4, iL_m4, iL_m8, li_0, li_1, li_2, li_3, li_4, li_5, li_6, li_7, li_8, li_9, li_10, li_11, li_12, li_13, li_15, li_16, li_18, li_20, li_24, li_31, li_32, li_40, li_46, li_48, li_57, li_59, li_60, li_61, li_63, li_64, li_97, li_99, li_122, li_124, li_150, li_255, li_480, li_488, li_600, li_999, li_1110, li_54]
    refine ⟨fun q => b_X3_advance_176 ?_, fun q => b_X3_advance_176 ?_⟩
    · rw [if_neg (by omega)] at e2
      try simp (disch := omega) only [iI_add, iI_sub, iI_mul, iI_neg, iI_n, iI_lt, iI_le, iI_eq, iI_tn, iI_ti, bI_0, bI_1, iI_L, iL_0, Decidable.not_not, Int.toNat_natCast, zpt_at, zpt_ne, pk_us, pk_un, forall_eq, tn_0, tn_1, tn_2, tn_3, tn_4, tn_5, ni_1, ni_2, ni_3, ni_4, ni_5, not_false_eq_true, not_true_eq_false, true_implies, false_implies, and_true, true_and, iL_6, iL_m6, iL_7, iL_8, iL_9, iL_4, iL_m4, iL_m8, li_0, li_1, li_2, li_3, li_4, li_5, li_6, li_7, li_8, li_9, li_10, li_11, li_12, li_13, li_15, li_16, li_18, li_20, li_24, li_31, li_32, li_40, li_46, li_48, li_57, li_59, li_60, li_61, li_63, li_64, li_97, li_99, li_122, li_124, li_150, li_255, li_480, li_488, li_600, li_999, li_1110, li_54]
      refine ⟨fun _ => b_X3_advance_196 ?_, fun k => absurd k (by decide)⟩
      intro τ e
      refine b_X3_advance_244 (c_fin (τ := τ) hB hp h3 H ?_ ?_ ?_ ?_ ?_ ?_)
      · intro b hb; rw [e, zpt_ne hb, zpt_ne hb, zpt_ne hb]
      · rw [e]; rfl
      · intro k a b c; rw [e, zpt_at, zpt_at, zpt_at, pk_un c, pk_un a, pk_un b]
      · rw [e, zpt_at, zpt_at, zpt_at, pk_un (by decide), pk_un (by decide), pk_us, e4]
      · rw [e, zpt_at, zpt_at, pk_un (by decide), pk_us, e2]; rfl
      · intro k; exact absurd (e2.symm.trans k) (by omega)
    · rw [if_pos (by omega)] at e2
      obtain ⟨_, k2, _, k4, k5⟩ := ztK_3 e2
      intro σ2 e5
      have a1 : ∀ k, k ≠ 2 → k ≠ 4 → σ2.1 1 k = σ.1 1 k := fun k a b => by rw [e5, zpt_at, zpt_at, pk_un a, pk_un b]
      have a2 : σ2.1 1 2 = iI 3 := by rw [e5, zpt_at, pk_us]
      have a4 : σ2.1 1 4 = iI (ztE f n p) := by rw [e5, zpt_at, zpt_at, pk_un (by decide), pk_us, e4]
      have a0 : ∀ b, b ≠ 1 → σ2.1 b = σ.1 b := fun b hb => by rw [e5, zpt_ne hb, zpt_ne hb]
      have hB2 : SrB σ2 f n := hB.fr (fun k hk => a1 k (by omega) (by omega)) (a0 2 (by decide))
      rw [a2]
      refine ⟨fun k => absurd rfl k, fun _ => b_X3_numberHere ?_⟩
      rw [a1 3 (by decide) (by decide), h3]
      refine c_number_7 hB2 (s := ztS f n p) (e := ztE f n p) k4 k2 a4 k5 0 (by omega) (b_X3_advance_196 ?_)
      intro τ e
      refine b_X3_advance_244 (c_fin (τ := τ) hB hp h3 H ?_ ?_ ?_ ?_ ?_ ?_)
      · intro b hb; rw [e, zpt_ne hb, a0 b hb]
      · rw [e, e5]; rfl
      · intro k a b c; rw [e, zpt_at, pk_un c, a1 k a b]
      · rw [e, zpt_at, pk_un (by decide), a4]
      · rw [e, zpt_at, pk_un (by decide), a2, e2]; rfl
      · intro _; rw [e, zpt_at, pk_us]; rfl
  · -- letters
    have hl3 : ztS f n p < ztL f n p := by omega
    have e4 : ztE f n p = ztL f n p := by unfold ztE; rw [if_neg (by omega), if_pos hl3]
    have e2 : ztK f n p = if ztL f n p - ztS f n p ≤ 8 then 2 else 1 := by unfold ztK; rw [if_neg (by omega), if_pos hl3]
    rw [h3]
    try simp (disch := omega) only [iI_add, iI_sub, iI_mul, iI_neg, iI_n, iI_lt, iI_le, iI_eq, iI_tn, iI_ti, bI_0, bI_1, iI_L, iL_0, Decidable.not_not, Int.toNat_natCast, zpt_at, zpt_ne, pk_us, pk_un, forall_eq, tn_0, tn_1, tn_2, tn_3, tn_4, tn_5, ni_1, ni_2, ni_3, ni_4, ni_5, not_false_eq_true, not_true_eq_false, true_implies, false_implies, and_true, true_and, iL_6, iL_m6, iL_7, iL_8, iL_9, iL_4, iL_m4, iL_m8, li_0, li_1, li_2, li_3, li_4, li_5, li_6, li_7, li_8, li_9, li_10, li_11, li_12, li_13, li_15, li_16, li_18, li_20, li_24, li_31, li_32, li_40, li_46, li_48, li_57, li_59, li_60, li_61, li_63, li_64, li_97, li_99, li_122, li_124, li_150, li_255, li_480, li_488, li_600, li_999, li_1110, li_54]
    refine ⟨fun q => b_X3_advance_138 ?_, fun q => b_X3_advance_138 ?_⟩
    all_goals
      intro τ e
      refine b_X3_advance_244 (c_fin (τ := τ) hB hp h3 H ?_ ?_ ?_ ?_ ?_ ?_)
      · intro b hb; rw [e, zpt_ne hb, zpt_ne hb]
      · rw [e]; rfl
      · intro k a b c; rw [e, zpt_at, zpt_at, pk_un a, pk_un b]
      · rw [e, zpt_at, zpt_at, pk_un (by decide), pk_us, e4]
      · rw [e, zpt_at, pk_us, e2]
        first | (rw [if_neg (by omega)]; rfl) | (rw [if_pos (by omega)]; rfl)
      · intro k
        first | (rw [if_neg (by omega)] at e2; exact absurd (e2.symm.trans k) (by omega)) | (rw [if_pos (by omega)] at e2; exact absurd (e2.symm.trans k) (by omega))
  · have e4 : ztE f n p = ztS f n p := by unfold ztE; rw [if_pos (by omega)]
    have e2 : ztK f n p = 0 := ztK_0.mpr (by omega)
    refine b_X3_advance_244 (c_fin hB hp h3 H ?_ ?_ ?_ ?_ ?_ ?_)
    · intro b hb; rw [zpt_ne hb, zpt_ne hb]
    · rfl
    · intro k a b c; rw [zpt_at, zpt_at, pk_un a, pk_un b]
    · rw [zpt_at, zpt_at, pk_un (by decide), pk_us, e4]
    · rw [zpt_at, pk_us, e2]; rfl
    · intro k; exact absurd (e2.symm.trans k) (by omega)
theorem c_adv_8 {K : zS → Prop} {σ0 : zS} (hp : p ≤ n) (H : ∀ τ, FrP (fun b => b = 1) σ0 τ → SrC τ f n p → K τ) (q : Nat) (hq : q ≤ n) (hr : runQ isB f n q = ztS f n p) (σ : zS) (hB : SrB σ f n) (hF : FrP (fun b => b = 1) σ0 σ) (h3 : σ.1 1 3 = iI q) : L_X3_advance_8 g l K X σ := by
  have ih := fun h hr σ hB hF h3 => c_adv_8 hp H (q + 1) h hr σ hB hF h3
  have hn := hB.1
  have hf := hB.2.1
  have fin := fun (e : q = ztS f n p) => c_adv_60 (g := g) (l := l) (X := X) (K := K) hB hp (h3.trans (by rw [e])) (fun τ h => H τ (hF.tr h))
  have nxt : q < n → isB (f q) → L_X3_advance_47 g l K X σ := fun h1 h2 => by
    refine b_X3_advance_47 ?_
    rw [h3]
    intro τ e
    refine ih (by omega) ((runQ_y h1 h2).symm.trans hr) τ (hB.fr (fun k hk => ?_) ?_) (hF.tr ?_) ?_
    · rw [e, zpt_at, pk_un (by omega)]
    · rw [e, zpt_ne (by decide)]
    · rw [e]; exact (FrP.rf (fun b => b = 1) σ).up rfl _
    · rw [e, zpt_at, pk_us, show (1 : Int32) = iI 1 from rfl, iI_add]; rfl
  refine b_X3_advance_8 ?_
  rw [h3, hB.2.2.1]
  try simp (disch := omega) only [iI_add, iI_sub, iI_mul, iI_neg, iI_n, iI_lt, iI_le, iI_eq, iI_tn, iI_ti, bI_0, bI_1, iI_L, iL_0, Decidable.not_not, Int.toNat_natCast, zpt_at, zpt_ne, pk_us, pk_un, forall_eq, tn_0, tn_1, tn_2, tn_3, tn_4, tn_5, ni_1, ni_2, ni_3, ni_4, ni_5, not_false_eq_true, not_true_eq_false, true_implies, false_implies, and_true, true_and, iL_6, iL_m6, iL_7, iL_8, iL_9, iL_4, iL_m4, iL_m8, li_0, li_1, li_2, li_3, li_4, li_5, li_6, li_7, li_8, li_9, li_10, li_11, li_12, li_13, li_15, li_16, li_18, li_20, li_24, li_31, li_32, li_40, li_46, li_48, li_57, li_59, li_60, li_61, li_63, li_64, li_97, li_99, li_122, li_124, li_150, li_255, li_480, li_488, li_600, li_999, li_1110, li_54]
  refine ⟨fun h => fin ?_, fun h => ⟨iI_in (by omega) (by omega) (by omega), ?_⟩⟩
  · rw [← hr, runQ_n (by omega)]
  · have hfj := hf q (by omega)
    have hsv := sv_c hfj
    rw [hB.2.2.2.1 q (by omega), sv_eq hfj]
    try simp (disch := omega) only [iI_add, iI_sub, iI_mul, iI_neg, iI_n, iI_lt, iI_le, iI_eq, iI_tn, iI_ti, bI_0, bI_1, iI_L, iL_0, Decidable.not_not, Int.toNat_natCast, zpt_at, zpt_ne, pk_us, pk_un, forall_eq, tn_0, tn_1, tn_2, tn_3, tn_4, tn_5, ni_1, ni_2, ni_3, ni_4, ni_5, not_false_eq_true, not_true_eq_false, true_implies, false_implies, and_true, true_and, iL_6, iL_m6, iL_7, iL_8, iL_9, iL_4, iL_m4, iL_m8, li_0, li_1, li_2, li_3, li_4, li_5, li_6, li_7, li_8, li_9, li_10, li_11, li_12, li_13, li_15, li_16, li_18, li_20, li_24, li_31, li_32, li_40, li_46, li_48, li_57, li_59, li_60, li_61, li_63, li_64, li_97, li_99, li_122, li_124, li_150, li_255, li_480, li_488, li_600, li_999, li_1110, li_54, show (10 : Int32) = iI 10 from rfl]
    refine ⟨fun h2 => nxt (by omega) (by unfold isB; omega), fun h2 => ⟨iI_in (by omega) (by omega) (by omega), fun h3 => fin ?_, fun h3 => nxt (by omega) (by unfold isB; omega)⟩⟩
    rw [← hr, runQ_n (by unfold isB; omega)]
termination_by n - q
theorem c_advance {K : zS → Prop} (hB : SrB σ f n) (hp : p ≤ n) (h4 : σ.1 1 4 = iI p) (H : ∀ τ, FrP (fun b => b = 1) σ τ → SrC τ f n p → K τ) : CT g l M_X3_advance 0 [.ref (zad g 1)] σ (zQv K X) := by
  refine b_X3_advance ?_
  rw [h4]
  intro τ e
  refine c_adv_8 hp H p hp rfl τ (hB.fr (fun k hk => ?_) ?_) ?_ ?_
  · rw [e, zpt_at, pk_un (by omega)]
  · rw [e, zpt_ne (by decide)]
  · rw [e]; exact (FrP.rf (fun b => b = 1) σ).up rfl _
  · rw [e, zpt_at, pk_us]
theorem c_adv {K : zS → Prop} (hS : SrC σ f n p) (H : ∀ τ, FrP (fun b => b = 1) σ τ → SrC τ f n (ztE f n p) → K τ) : CT g l M_X3_advance 0 [.ref (zad g 1)] σ (zQv K X) :=
  c_advance hS.1 (ztE_hi hS.2.1) hS.2.2.2.1 H
theorem ztK_b (hS : SrC σ f n p) : ztK f n p < 256 := ztK_256 hS.1.2.1
theorem c_isAtEnd {K : Int32 → zS → Prop} (hS : SrC σ f n p) (H0 : ztK f n p ≠ 0 → K (iI 0) σ) (H1 : ztK f n p = 0 → K (iI 1) σ) : CT g l M_X3_isAtEnd 0 [.ref (zad g 1)] σ (zQi K X) := by
  have hk := ztK_b hS
  refine b_X3_isAtEnd ?_
  rw [hS.2.2.2.2.1]
  try simp (disch := omega) only [iI_add, iI_sub, iI_mul, iI_neg, iI_n, iI_lt, iI_le, iI_eq, iI_tn, iI_ti, bI_0, bI_1, iI_L, iL_0, Decidable.not_not, Int.toNat_natCast, zpt_at, zpt_ne, pk_us, pk_un, forall_eq, tn_0, tn_1, tn_2, tn_3, tn_4, tn_5, ni_1, ni_2, ni_3, ni_4, ni_5, not_false_eq_true, not_true_eq_false, true_implies, false_implies, and_true, true_and, iL_6, iL_m6, iL_7, iL_8, iL_9, iL_4, iL_m4, iL_m8, li_0, li_1, li_2, li_3, li_4, li_5, li_6, li_7, li_8, li_9, li_10, li_11, li_12, li_13, li_15, li_16, li_18, li_20, li_24, li_31, li_32, li_40, li_46, li_48, li_57, li_59, li_60, li_61, li_63, li_64, li_97, li_99, li_122, li_124, li_150, li_255, li_480, li_488, li_600, li_999, li_1110, li_54]
  exact ⟨fun h => H0 (by omega), fun h => H1 (by omega)⟩
theorem c_isAtSign {K : Int32 → zS → Prop} (hS : SrC σ f n p) {s : Nat} (hs : s < 256) (H0 : ztK f n p ≠ s → K (iI 0) σ) (H1 : ztK f n p = s → K (iI 1) σ) : CT g l M_X3_isAtSign 0 [.ref (zad g 1), .int (iI s)] σ (zQi K X) := by
  have hk := ztK_b hS
  refine b_X3_isAtSign ?_
  rw [hS.2.2.2.2.1]
  try simp (disch := omega) only [iI_add, iI_sub, iI_mul, iI_neg, iI_n, iI_lt, iI_le, iI_eq, iI_tn, iI_ti, bI_0, bI_1, iI_L, iL_0, Decidable.not_not, Int.toNat_natCast, zpt_at, zpt_ne, pk_us, pk_un, forall_eq, tn_0, tn_1, tn_2, tn_3, tn_4, tn_5, ni_1, ni_2, ni_3, ni_4, ni_5, not_false_eq_true, not_true_eq_false, true_implies, false_implies, and_true, true_and, iL_6, iL_m6, iL_7, iL_8, iL_9, iL_4, iL_m4, iL_m8, li_0, li_1, li_2, li_3, li_4, li_5, li_6, li_7, li_8, li_9, li_10, li_11, li_12, li_13, li_15, li_16, li_18, li_20, li_24, li_31, li_32, li_40, li_46, li_48, li_57, li_59, li_60, li_61, li_63, li_64, li_97, li_99, li_122, li_124, li_150, li_255, li_480, li_488, li_600, li_999, li_1110, li_54]
  exact ⟨fun h => H0 (by omega), fun h => H1 (by omega)⟩
theorem wB_z : ∀ w, w < 6 → zLen.getD w 0 = wL w ∧ wL w ≤ 8 ∧ ∀ i, i < wL w → (zByt.getD w []).getD i 0 = iI (wB w i) ∧ wB w i < 128 := by decide +kernel
theorem c_word_28 {K : Int32 → zS → Prop} (hS : SrC σ f n p) {w : Nat} (hw : w < 6) (h2 : ztK f n p = 2) (hl : ztE f n p - ztS f n p = wL w) (H0 : ¬ isWd f n p w → K (iI 0) σ) (H1 : isWd f n p w → K (iI 1) σ) (j : Nat) (hj : j ≤ wL w) (hd : ∀ i, i < j → f (ztS f n p + i) = wB w i) : L_X3_isAtWord_28 g l K X w (iI j) σ := by
  have ih := fun h hd => c_word_28 (K := K) hS hw h2 hl H0 H1 (j + 1) h hd
  obtain ⟨e1, e8, e2⟩ := wB_z w hw
  obtain ⟨k1, k2, k3, k4, k5⟩ := ztK_2 h2
  have hn := hS.1.1
  refine b_X3_isAtWord_28 (by omega) ?_
  rw [e1, hS.2.2.1]
  try simp (disch := omega) only [iI_add, iI_sub, iI_mul, iI_neg, iI_n, iI_lt, iI_le, iI_eq, iI_tn, iI_ti, bI_0, bI_1, iI_L, iL_0, Decidable.not_not, Int.toNat_natCast, zpt_at, zpt_ne, pk_us, pk_un, forall_eq, tn_0, tn_1, tn_2, tn_3, tn_4, tn_5, ni_1, ni_2, ni_3, ni_4, ni_5, not_false_eq_true, not_true_eq_false, true_implies, false_implies, and_true, true_and, iL_6, iL_m6, iL_7, iL_8, iL_9, iL_4, iL_m4, iL_m8, li_0, li_1, li_2, li_3, li_4, li_5, li_6, li_7, li_8, li_9, li_10, li_11, li_12, li_13, li_15, li_16, li_18, li_20, li_24, li_31, li_32, li_40, li_46, li_48, li_57, li_59, li_60, li_61, li_63, li_64, li_97, li_99, li_122, li_124, li_150, li_255, li_480, li_488, li_600, li_999, li_1110, li_54]
  refine ⟨fun h => ?_, fun h => ⟨iI_in (by omega) (by omega) (by omega), iI_in (by omega) (by omega) (by omega), ?_⟩⟩
  · obtain rfl : j = wL w := by omega
    exact H1 ⟨h2, hl, hd⟩
  · have hj2 : j < wL w := by omega
    obtain ⟨e3, e4⟩ := e2 j hj2
    have hfj := hS.1.2.1 (ztS f n p + j) (by omega)
    have hsv := sv_c hfj
    rw [show (zByt.getD w []).getD j (iI 0) = iI (wB w j) from e3, show ((ztS f n p : Int) + (j : Int)).toNat = ztS f n p + j by omega, hS.1.2.2.2.1 _ (by omega), sv_eq hfj]
    try simp (disch := omega) only [iI_add, iI_sub, iI_mul, iI_neg, iI_n, iI_lt, iI_le, iI_eq, iI_tn, iI_ti, bI_0, bI_1, iI_L, iL_0, Decidable.not_not, Int.toNat_natCast, zpt_at, zpt_ne, pk_us, pk_un, forall_eq, tn_0, tn_1, tn_2, tn_3, tn_4, tn_5, ni_1, ni_2, ni_3, ni_4, ni_5, not_false_eq_true, not_true_eq_false, true_implies, false_implies, and_true, true_and, iL_6, iL_m6, iL_7, iL_8, iL_9, iL_4, iL_m4, iL_m8, li_0, li_1, li_2, li_3, li_4, li_5, li_6, li_7, li_8, li_9, li_10, li_11, li_12, li_13, li_15, li_16, li_18, li_20, li_24, li_31, li_32, li_40, li_46, li_48, li_57, li_59, li_60, li_61, li_63, li_64, li_97, li_99, li_122, li_124, li_150, li_255, li_480, li_488, li_600, li_999, li_1110, li_54]
    refine ⟨fun h => ih (by omega) (fun i hi => ?_), fun h => H0 (fun q => ?_)⟩
    · by_cases e : i = j
      · subst e; omega
      · exact hd i (by omega)
    · have := q.2.2 j hj2
      omega
termination_by wL w - j
theorem c_isAtWord {K : Int32 → zS → Prop} (hS : SrC σ f n p) {w : Nat} (hw : w < 6) (H0 : ¬ isWd f n p w → K (iI 0) σ) (H1 : isWd f n p w → K (iI 1) σ) : CT g l M_X3_isAtWord 0 [.ref (zad g 1), .ref (g.2.2.2.2.1 w)] σ (zQi K X) := by
  obtain ⟨e1, e8, e2⟩ := wB_z w hw
  have hk := ztK_b hS
  have hn := hS.1.1
  have hE := ztE_hi (f := f) hS.2.1
  have hs := ztS_hi (f := f) hS.2.1
  refine b_X3_isAtWord (by omega) ?_
  rw [e1, hS.2.2.1, hS.2.2.2.1, hS.2.2.2.2.1]
  try simp (disch := omega) only [iI_add, iI_sub, iI_mul, iI_neg, iI_n, iI_lt, iI_le, iI_eq, iI_tn, iI_ti, bI_0, bI_1, iI_L, iL_0, Decidable.not_not, Int.toNat_natCast, zpt_at, zpt_ne, pk_us, pk_un, forall_eq, tn_0, tn_1, tn_2, tn_3, tn_4, tn_5, ni_1, ni_2, ni_3, ni_4, ni_5, not_false_eq_true, not_true_eq_false, true_implies, false_implies, and_true, true_and, iL_6, iL_m6, iL_7, iL_8, iL_9, iL_4, iL_m4, iL_m8, li_0, li_1, li_2, li_3, li_4, li_5, li_6, li_7, li_8, li_9, li_10, li_11, li_12, li_13, li_15, li_16, li_18, li_20, li_24, li_31, li_32, li_40, li_46, li_48, li_57, li_59, li_60, li_61, li_63, li_64, li_97, li_99, li_122, li_124, li_150, li_255, li_480, li_488, li_600, li_999, li_1110, li_54]
  refine ⟨fun h => H0 (fun q => by have := q.1; omega), fun h => ⟨fun h3 => ?_, fun h3 => H0 (fun q => ?_)⟩⟩
  · obtain ⟨k1, _⟩ := ztK_2 (f := f) (n := n) (p := p) (by omega)
    exact c_word_28 hS hw (by omega) (by omega) H0 H1 0 (by omega) (fun i hi => absurd hi (Nat.not_lt_zero i))
  · have := q.2.1
    obtain ⟨k1, _⟩ := ztK_2 q.1
    omega
/-- an error told -/
def ErC (σ : zS) (c q : Int) : Prop := σ.1 1 6 = iI c ∧ σ.1 1 7 = iI q
theorem c_fail {K : Int32 → zS → Prop} (hS : SrC σ f n p) {c : Nat} (H : ∀ τ, FrP (fun b => b = 1) σ τ → τ.1 1 1 = iI n → ErC τ c (ztS f n p) → K (iI 0) τ) : CT g l M_X3_fail 0 [.ref (zad g 1), .int (iI c)] σ (zQi K X) := by
  refine b_X3_fail ?_
  intro σ1 e1 τ e
  refine H τ ?_ ?_ ⟨?_, ?_⟩
  · rw [e, e1]; exact ((FrP.rf (fun b => b = 1) σ).up rfl _).up rfl _
  · rw [e, e1, zpt_at, zpt_at, pk_un (by decide), pk_un (by decide)]; exact hS.1.2.2.1
  · rw [e, e1, zpt_at, zpt_at, pk_un (by decide), pk_us]
  · rw [e, e1, zpt_at, zpt_at, pk_us, pk_un (by decide)]; exact hS.2.2.1
end ZCS

