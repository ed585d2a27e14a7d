/-! the class's public reading methods -/
section ZCP
variable {g : zG} {l : Launch} {K : Int32 → zS → Prop} {X : String → zS → Prop} {m : Nat → Int32} {σ : zS}
abbrev xI : String := "java/lang/IndexOutOfBoundsException"
abbrev xA : String := "java/lang/IllegalArgumentException"
abbrev xS' : String := "java/lang/IllegalStateException"
def Nw (σ : zS) (m : Nat → Int32) : Prop := R0 σ 73 m ∧ RT σ (73 + 3) m
theorem Nw.fr {L : List Nat} {σ τ : zS} (h : Nw σ m) (hF : FrL L σ τ) (hL : ∀ b, b ∈ L → b < 73 ∨ 73 + 10 ≤ b) : Nw τ m :=
  ⟨hF.R0 hL h.1, hF.RT (fun q => by have := hL _ q; omega) h.2⟩
theorem c_refuse0 {K : zS → Prop} (H : K σ) : CT g l M_X6_refuse 1 [.int (iI 0)] σ (zQv K X) :=
  b_X6_refuse ⟨fun _ => ⟨fun _ => ⟨fun _ => H, fun h => absurd h (by decide)⟩, fun h => absurd h (by decide)⟩, fun h => absurd h (by decide)⟩
theorem c_refuse1 {K : zS → Prop} (H : X xI σ) : CT g l M_X6_refuse 1 [.int (iI 1)] σ (zQv K X) :=
  b_X6_refuse ⟨fun h => absurd rfl h, fun _ => H⟩
theorem c_refuse2 {K : zS → Prop} (H : X xA σ) : CT g l M_X6_refuse 1 [.int (iI 2)] σ (zQv K X) :=
  b_X6_refuse ⟨fun _ => ⟨fun h => absurd rfl h, fun _ => H⟩, fun h => absurd h (by decide)⟩
theorem c_refuse3 {K : zS → Prop} (H : X xS' σ) : CT g l M_X6_refuse 1 [.int (iI 3)] σ (zQv K X) :=
  b_X6_refuse ⟨fun _ => ⟨fun _ => ⟨fun h => absurd rfl h, fun _ => H⟩, fun h => absurd h (by decide)⟩, fun h => absurd h (by decide)⟩
theorem c_refuse4 {K : zS → Prop} (H : K σ) : CT g l M_X6_refuse 1 [.int (iI 4)] σ (zQv K X) :=
  b_X6_refuse ⟨fun _ => ⟨fun _ => ⟨fun _ => H, fun h => absurd h (by decide)⟩, fun h => absurd h (by decide)⟩, fun h => absurd h (by decide)⟩
theorem c_angle {a : Int} (ha : I32 a) (H0 : (-6 ≤ a ∧ a ≤ 6) → K (iI 0) σ) (H2 : ¬ (-6 ≤ a ∧ a ≤ 6) → K (iI 2) σ) : CT g l M_X6_angleProblem 0 [.int (iI a)] σ (zQi K X) := by
  refine b_X6_angleProblem ?_
  try simp (disch := omega) only [iI_add, iI_sub, iI_mul, iI_neg, iI_n, iI_lt, iI_le, iI_eq, iI_tn, iI_ti, bI_0, bI_1, iI_L, iL_0, Decidable.not_not, Int.toNat_natCast, zpt_at, zpt_ne, pk_us, pk_un, forall_eq, tn_0, tn_1, tn_2, tn_3, tn_4, tn_5, ni_1, ni_2, ni_3, ni_4, ni_5, not_false_eq_true, not_true_eq_false, true_implies, false_implies, and_true, true_and, iL_6, iL_m6, iL_7, iL_8, iL_9, iL_4, iL_m4, iL_m8, li_0, li_1, li_2, li_3, li_4, li_5, li_6, li_7, li_8, li_9, li_10, li_11, li_12, li_13, li_15, li_16, li_18, li_20, li_24, li_31, li_32, li_40, li_46, li_48, li_57, li_59, li_60, li_61, li_63, li_64, li_97, li_99, li_122, li_124, li_150, li_255, li_480, li_488, li_600, li_999, li_1110, li_54]
  exact ⟨fun h => H2 (by omega), fun h => ⟨fun h' => H0 (by omega), fun h' => H2 (by omega)⟩⟩
theorem c_lookN {K : zS → Prop} (hN : Nw σ m) (hw : WF m) {a : Int} (ha : -6 ≤ a ∧ a ≤ 6) (H : ∀ τ, FrL LV σ τ → Nw τ m → Vw τ m a → K τ) : CT g l M_X5_look 0 [.ref (zad g 18), .ref (zad g (73 + 3)), .int (iI a)] σ (zQv K X) :=
  c_look (zB_s3 zB_73) (zB_l3 zB_73) (by decide) hN.1 hN.2 hw ha (fun τ hF hV => H τ hF (hN.fr hF (by decide)) hV)
theorem c_rightFrom (hN : Nw σ m) (hw : WF m) {a : Int} (ha : -6 ≤ a ∧ a ≤ 6) {s : Nat} (hs : s < 2) (H : ∀ τ, FrL LV σ τ → Nw τ m → K (iI (rgt m a s)) τ) : CT g l M_X6_rightFrom 0 [.ref (zad g 0), .int (iI a), .int (iI s)] σ (zQi K X) := by
  refine b_X6_rightFrom (c_lookN hN hw ha (fun τ hF hN' hV => ?_))
  rw [hN'.1.2.2.2.1]
  exact c_rightAll hw hN'.1 hV hs (H τ hF hN')
theorem opN_ct (m : Nat → Int32) (a : Int) : opN m a = (fb_ct (fun c => decide (stt m a c = 2)) (cols m) + fb_ct (fun c => decide (stt m a c = 3)) (cols m)) * nH m := by
  unfold opN colsAs
  rw [Nat.mul_comm]
  congr 1
  rw [← fb_ct_or (fun k _ h => by simp only [decide_eq_true_eq] at h; omega)]
  refine fb_ct_cong (fun c _ => ?_)
  have := stt_le m a c
  by_cases e2 : stt m a c = 2
  · simp [e2]
  · by_cases e3 : stt m a c = 3
    · simp [e3]
    · simp [e2, e3]; omega
theorem c_openFrom (hN : Nw σ m) (hw : WF m) {a : Int} (ha : -6 ≤ a ∧ a ≤ 6) (H : ∀ τ, FrL LV σ τ → Nw τ m → K (iI (opN m a)) τ) : CT g l M_X6_openFrom 0 [.ref (zad g 0), .int (iI a)] σ (zQi K X) := by
  refine b_X6_openFrom (c_lookN hN hw ha (fun τ hF hN' hV => ?_))
  refine c_columnsWith (q := 2) hw hN'.1 hV (by decide) (c_columnsWith (q := 3) hw hN'.1 hV (by decide) ?_)
  have := H τ hF hN'
  rw [opN_ct] at this
  rw [hN'.1.1, iI_add, iI_mul]
  simpa using this
theorem c_right (hN : Nw σ m) (hw : WF m) {a : Int} (ha : I32 a) {s : Nat} (hs : s < 2) (H0 : (-6 ≤ a ∧ a ≤ 6) → ∀ τ, FrL LV σ τ → K (iI (rgt m a s)) τ) (H1 : ¬ (-6 ≤ a ∧ a ≤ 6) → X xA σ) : CT g l M_X6_right 1 [.ref (zad g 0), .int (iI a), .int (iI s)] σ (zQi K X) :=
  b_X6_right (c_angle ha (fun h => c_refuse0 (c_rightFrom hN hw h hs (fun τ hF _ => H0 h τ hF))) (fun h => c_refuse2 (H1 h)))
theorem c_open (hN : Nw σ m) (hw : WF m) {a : Int} (ha : I32 a) (H0 : (-6 ≤ a ∧ a ≤ 6) → ∀ τ, FrL LV σ τ → K (iI (opN m a)) τ) (H1 : ¬ (-6 ≤ a ∧ a ≤ 6) → X xA σ) : CT g l M_X6_open 1 [.ref (zad g 0), .int (iI a)] σ (zQi K X) :=
  b_X6_open (c_angle ha (fun h => c_refuse0 (c_openFrom hN hw h (fun τ hF _ => H0 h τ hF))) (fun h => c_refuse2 (H1 h)))
theorem c_covered (hN : Nw σ m) (hw : WF m) {a : Int} (ha : I32 a) (H0 : (-6 ≤ a ∧ a ≤ 6) → ∀ τ, FrL LV σ τ → K (iI (nH m * colsAs m a 1 1 : Nat)) τ) (H1 : ¬ (-6 ≤ a ∧ a ≤ 6) → X xA σ) : CT g l M_X6_covered 1 [.ref (zad g 0), .int (iI a)] σ (zQi K X) := by
  refine b_X6_covered (c_angle ha (fun h => c_refuse0 (c_lookN hN hw h (fun τ hF hN' hV => ?_))) (fun h => c_refuse2 (H1 h)))
  refine c_columnsWith (q := 1) hw hN'.1 hV (by decide) ?_
  have := H0 h τ hF
  rw [hN'.1.1, iI_mul, show (fb_ct (fun c => decide (stt m a c = 1)) (cols m) : Int) * (nH m : Int) = ((nH m * colsAs m a 1 1 : Nat) : Int) by
    rw [Int.mul_comm]
    have e : fb_ct (fun c => decide (stt m a c = 1)) (cols m) = colsAs m a 1 1 := fb_ct_cong (fun c _ => by by_cases e : stt m a c = 1 <;> simp [e]; omega)
    rw [e]; simp]
  exact this
theorem c_whole (hN : Nw σ m) (hw : WF m) {a : Int} (ha : I32 a) (H0 : (-6 ≤ a ∧ a ≤ 6) → ∀ τ, FrL LV σ τ → K (iI (wN m a 0 + 2 * wN m a 1 : Nat)) τ) (H1 : ¬ (-6 ≤ a ∧ a ≤ 6) → X xA σ) : CT g l M_X6_whole 1 [.ref (zad g 0), .int (iI a)] σ (zQi K X) := by
  have h0 := wN_le m a 0
  have h1 := wN_le m a 1
  refine b_X6_whole (c_angle ha (fun h => c_refuse0 (c_lookN hN hw h (fun τ hF hN' hV => ?_))) (fun h => c_refuse2 (H1 h)))
  have := H0 h τ hF
  refine c_isWhole (s := 0) hw hN'.1 hV (by decide) ?_
  try simp (disch := omega) only [iI_add, iI_sub, iI_mul, iI_neg, iI_n, iI_lt, iI_le, iI_eq, iI_tn, iI_ti, bI_0, bI_1, iI_L, iL_0, Decidable.not_not, Int.toNat_natCast, zpt_at, zpt_ne, pk_us, pk_un, forall_eq, tn_0, tn_1, tn_2, tn_3, tn_4, tn_5, ni_1, ni_2, ni_3, ni_4, ni_5, not_false_eq_true, not_true_eq_false, true_implies, false_implies, and_true, true_and, iL_6, iL_m6, iL_7, iL_8, iL_9, iL_4, iL_m4, iL_m8, li_0, li_1, li_2, li_3, li_4, li_5, li_6, li_7, li_8, li_9, li_10, li_11, li_12, li_13, li_15, li_16, li_18, li_20, li_24, li_31, li_32, li_40, li_46, li_48, li_57, li_59, li_60, li_61, li_63, li_64, li_97, li_99, li_122, li_124, li_150, li_255, li_480, li_488, li_600, li_999, li_1110, li_54]
  refine ⟨fun h2 => c_isWhole (s := 1) hw hN'.1 hV (by decide) ?_, fun h2 => c_isWhole (s := 1) hw hN'.1 hV (by decide) ?_⟩
  · try simp (disch := omega) only [iI_add, iI_sub, iI_mul, iI_neg, iI_n, iI_lt, iI_le, iI_eq, iI_tn, iI_ti, bI_0, bI_1, iI_L, iL_0, Decidable.not_not, Int.toNat_natCast, zpt_at, zpt_ne, pk_us, pk_un, forall_eq, tn_0, tn_1, tn_2, tn_3, tn_4, tn_5, ni_1, ni_2, ni_3, ni_4, ni_5, not_false_eq_true, not_true_eq_false, true_implies, false_implies, and_true, true_and, iL_6, iL_m6, iL_7, iL_8, iL_9, iL_4, iL_m4, iL_m8, li_0, li_1, li_2, li_3, li_4, li_5, li_6, li_7, li_8, li_9, li_10, li_11, li_12, li_13, li_15, li_16, li_18, li_20, li_24, li_31, li_32, li_40, li_46, li_48, li_57, li_59, li_60, li_61, li_63, li_64, li_97, li_99, li_122, li_124, li_150, li_255, li_480, li_488, li_600, li_999, li_1110, li_54]
    refine ⟨fun h3 => ?_, fun h3 => ?_⟩
    · rw [show wN m a 0 = 0 by omega, show wN m a 1 = 0 by omega] at this; exact this
    · rw [show wN m a 0 = 0 by omega, show wN m a 1 = 1 by omega] at this; exact this
  · try simp (disch := omega) only [iI_add, iI_sub, iI_mul, iI_neg, iI_n, iI_lt, iI_le, iI_eq, iI_tn, iI_ti, bI_0, bI_1, iI_L, iL_0, Decidable.not_not, Int.toNat_natCast, zpt_at, zpt_ne, pk_us, pk_un, forall_eq, tn_0, tn_1, tn_2, tn_3, tn_4, tn_5, ni_1, ni_2, ni_3, ni_4, ni_5, not_false_eq_true, not_true_eq_false, true_implies, false_implies, and_true, true_and, iL_6, iL_m6, iL_7, iL_8, iL_9, iL_4, iL_m4, iL_m8, li_0, li_1, li_2, li_3, li_4, li_5, li_6, li_7, li_8, li_9, li_10, li_11, li_12, li_13, li_15, li_16, li_18, li_20, li_24, li_31, li_32, li_40, li_46, li_48, li_57, li_59, li_60, li_61, li_63, li_64, li_97, li_99, li_122, li_124, li_150, li_255, li_480, li_488, li_600, li_999, li_1110, li_54]
    refine ⟨fun h3 => ?_, fun h3 => ?_⟩
    · rw [show wN m a 0 = 1 by omega, show wN m a 1 = 0 by omega] at this; exact this
    · rw [show wN m a 0 = 1 by omega, show wN m a 1 = 1 by omega] at this; exact this
theorem c_firstWrong (hN : Nw σ m) (hw : WF m) {a : Int} (ha : I32 a) {s : Nat} (hs : s < 2) (H0 : (-6 ≤ a ∧ a ≤ 6) → ∀ τ, FrL LV σ τ → K (iI (fwN m a s)) τ) (H1 : ¬ (-6 ≤ a ∧ a ≤ 6) → X xA σ) : CT g l M_X6_firstWrong 1 [.ref (zad g 0), .int (iI a), .int (iI s)] σ (zQi K X) :=
  b_X6_firstWrong (c_angle ha (fun h => c_refuse0 (c_lookN hN hw h (fun τ hF hN' hV => c_firstNotRight hw hN'.1 hV hs (H0 h τ hF)))) (fun h => c_refuse2 (H1 h)))
theorem c_run (hN : Nw σ m) (hw : WF m) {a : Int} (ha : I32 a) (H0 : (-6 ≤ a ∧ a ≤ 6) → ∀ τ, FrL LV σ τ → K (iI (ruN m a (cols m)).2) τ) (H1 : ¬ (-6 ≤ a ∧ a ≤ 6) → X xA σ) : CT g l M_X6_run 1 [.ref (zad g 0), .int (iI a)] σ (zQi K X) :=
  b_X6_run (c_angle ha (fun h => c_refuse0 (c_lookN hN hw h (fun τ hF hN' hV => c_most hw hN'.1 hV (H0 h τ hF)))) (fun h => c_refuse2 (H1 h)))
theorem c_ghosts (hN : Nw σ m) (hw : WF m) {a : Int} (ha : I32 a) {s : Nat} (hs : s < 2) (H0 : (-6 ≤ a ∧ a ≤ 6) → ∀ τ, FrL LV σ τ → K (iI (fb_sm (ghC m a s) (cols m))) τ) (H1 : ¬ (-6 ≤ a ∧ a ≤ 6) → X xA σ) : CT g l M_X6_ghosts 1 [.ref (zad g 0), .int (iI a), .int (iI s)] σ (zQi K X) :=
  b_X6_ghosts (c_angle ha (fun h => c_refuse0 (c_lookN hN hw h (fun τ hF hN' hV => c_ghost hw hN'.1 hV hs (H0 h τ hF)))) (fun h => c_refuse2 (H1 h)))
theorem c_seen (hN : Nw σ m) (hw : WF m) {a x y : Int} (ha : I32 a) (hx : I32 x) (hy : I32 y) (H0 : ∀ c r : Nat, x = c → y = r → c < cols m → r < nH m → (-6 ≤ a ∧ a ≤ 6) → ∀ τ, FrL LV σ τ → K (iI (snN m a c r)) τ) (H1 : ¬ ((0 ≤ x ∧ x < cols m) ∧ (0 ≤ y ∧ y < nH m)) → X xI σ) (H2 : ((0 ≤ x ∧ x < cols m) ∧ (0 ≤ y ∧ y < nH m)) → ¬ (-6 ≤ a ∧ a ≤ 6) → X xA σ) : CT g l M_X6_seen 1 [.ref (zad g 0), .int (iI a), .int (iI x), .int (iI y)] σ (zQi K X) := by
  refine b_X6_seen (c_hasCell zB_73 hN.1 hw hx hy ?_)
  try simp (disch := omega) only [iI_add, iI_sub, iI_mul, iI_neg, iI_n, iI_lt, iI_le, iI_eq, iI_tn, iI_ti, bI_0, bI_1, iI_L, iL_0, Decidable.not_not, Int.toNat_natCast, zpt_at, zpt_ne, pk_us, pk_un, forall_eq, tn_0, tn_1, tn_2, tn_3, tn_4, tn_5, ni_1, ni_2, ni_3, ni_4, ni_5, not_false_eq_true, not_true_eq_false, true_implies, false_implies, and_true, true_and, iL_6, iL_m6, iL_7, iL_8, iL_9, iL_4, iL_m4, iL_m8, li_0, li_1, li_2, li_3, li_4, li_5, li_6, li_7, li_8, li_9, li_10, li_11, li_12, li_13, li_15, li_16, li_18, li_20, li_24, li_31, li_32, li_40, li_46, li_48, li_57, li_59, li_60, li_61, li_63, li_64, li_97, li_99, li_122, li_124, li_150, li_255, li_480, li_488, li_600, li_999, li_1110, li_54]
  refine ⟨fun h => c_refuse1 (H1 h), fun h => c_angle ha (fun h' => c_refuse0 (c_lookN hN hw h' (fun τ hF hN' hV => ?_))) (fun h' => c_refuse2 (H2 h h'))⟩
  obtain ⟨c, rfl, hc⟩ := nat_of h.1
  obtain ⟨r, rfl, hr⟩ := nat_of h.2
  exact c_seenAt hw hV hc hr (H0 c r rfl rfl hc hr h' τ hF)
theorem c_why (hN : Nw σ m) (hw : WF m) {s : Nat} (hs : s < 2) {a x y : Int} (ha : I32 a) (hx : I32 x) (hy : I32 y) (H0 : ∀ c r : Nat, x = c → y = r → c < cols m → r < nH m → (-6 ≤ a ∧ a ≤ 6) → ∀ τ, FrL LV σ τ → K (iI (whyN m a s c r)) τ) (H1 : ¬ ((0 ≤ x ∧ x < cols m) ∧ (0 ≤ y ∧ y < nH m)) → X xI σ) (H2 : ((0 ≤ x ∧ x < cols m) ∧ (0 ≤ y ∧ y < nH m)) → ¬ (-6 ≤ a ∧ a ≤ 6) → X xA σ) : CT g l M_X6_why 1 [.ref (zad g 0), .int (iI a), .int (iI s), .int (iI x), .int (iI y)] σ (zQi K X) := by
  refine b_X6_why (c_hasCell zB_73 hN.1 hw hx hy ?_)
  try simp (disch := omega) only [iI_add, iI_sub, iI_mul, iI_neg, iI_n, iI_lt, iI_le, iI_eq, iI_tn, iI_ti, bI_0, bI_1, iI_L, iL_0, Decidable.not_not, Int.toNat_natCast, zpt_at, zpt_ne, pk_us, pk_un, forall_eq, tn_0, tn_1, tn_2, tn_3, tn_4, tn_5, ni_1, ni_2, ni_3, ni_4, ni_5, not_false_eq_true, not_true_eq_false, true_implies, false_implies, and_true, true_and, iL_6, iL_m6, iL_7, iL_8, iL_9, iL_4, iL_m4, iL_m8, li_0, li_1, li_2, li_3, li_4, li_5, li_6, li_7, li_8, li_9, li_10, li_11, li_12, li_13, li_15, li_16, li_18, li_20, li_24, li_31, li_32, li_40, li_46, li_48, li_57, li_59, li_60, li_61, li_63, li_64, li_97, li_99, li_122, li_124, li_150, li_255, li_480, li_488, li_600, li_999, li_1110, li_54]
  refine ⟨fun h => c_refuse1 (H1 h), fun h => c_angle ha (fun h' => c_refuse0 (c_lookN hN hw h' (fun τ hF hN' hV => ?_))) (fun h' => c_refuse2 (H2 h h'))⟩
  obtain ⟨c, rfl, hc⟩ := nat_of h.1
  obtain ⟨r, rfl, hr⟩ := nat_of h.2
  exact c_whyNotRight hw hN'.1 hV hs hc hr (H0 c r rfl rfl hc hr h' τ hF)
theorem c_slatAt (hN : Nw σ m) (hw : WF m) {z : Int} (hz : I32 z) (H0 : ∀ c : Nat, z = c → c < cols m → K (iI (slatOf m c)) σ) (H1 : ¬ (0 ≤ z ∧ z < cols m) → X xI σ) : CT g l M_X6_slatAt 1 [.ref (zad g 0), .int (iI z)] σ (zQi K X) := by
  refine b_X6_slatAt (c_hasColumn zB_73 hN.1 hw hz ?_)
  try simp (disch := omega) only [iI_add, iI_sub, iI_mul, iI_neg, iI_n, iI_lt, iI_le, iI_eq, iI_tn, iI_ti, bI_0, bI_1, iI_L, iL_0, Decidable.not_not, Int.toNat_natCast, zpt_at, zpt_ne, pk_us, pk_un, forall_eq, tn_0, tn_1, tn_2, tn_3, tn_4, tn_5, ni_1, ni_2, ni_3, ni_4, ni_5, not_false_eq_true, not_true_eq_false, true_implies, false_implies, and_true, true_and, iL_6, iL_m6, iL_7, iL_8, iL_9, iL_4, iL_m4, iL_m8, li_0, li_1, li_2, li_3, li_4, li_5, li_6, li_7, li_8, li_9, li_10, li_11, li_12, li_13, li_15, li_16, li_18, li_20, li_24, li_31, li_32, li_40, li_46, li_48, li_57, li_59, li_60, li_61, li_63, li_64, li_97, li_99, li_122, li_124, li_150, li_255, li_480, li_488, li_600, li_999, li_1110, li_54]
  refine ⟨fun h => c_refuse1 (H1 h), fun h => c_refuse0 ?_⟩
  obtain ⟨c, rfl, hc⟩ := nat_of h
  exact c_slatWith zB_73 hN.1 hw hc (H0 c rfl hc)
theorem c_seam (hN : Nw σ m) (hw : WF m) {z : Int} (hz : I32 z) (H0 : ∀ k : Nat, z = k → k < nS m → K (iI (seamB m k)) σ) (H1 : ¬ (0 ≤ z ∧ z < nS m) → X xI σ) : CT g l M_X6_seam 1 [.ref (zad g 0), .int (iI z)] σ (zQi K X) := by
  refine b_X6_seam (c_hasSlat zB_73 hN.1 hw hz ?_)
  try simp (disch := omega) only [iI_add, iI_sub, iI_mul, iI_neg, iI_n, iI_lt, iI_le, iI_eq, iI_tn, iI_ti, bI_0, bI_1, iI_L, iL_0, Decidable.not_not, Int.toNat_natCast, zpt_at, zpt_ne, pk_us, pk_un, forall_eq, tn_0, tn_1, tn_2, tn_3, tn_4, tn_5, ni_1, ni_2, ni_3, ni_4, ni_5, not_false_eq_true, not_true_eq_false, true_implies, false_implies, and_true, true_and, iL_6, iL_m6, iL_7, iL_8, iL_9, iL_4, iL_m4, iL_m8, li_0, li_1, li_2, li_3, li_4, li_5, li_6, li_7, li_8, li_9, li_10, li_11, li_12, li_13, li_15, li_16, li_18, li_20, li_24, li_31, li_32, li_40, li_46, li_48, li_57, li_59, li_60, li_61, li_63, li_64, li_97, li_99, li_122, li_124, li_150, li_255, li_480, li_488, li_600, li_999, li_1110, li_54]
  refine ⟨fun h => c_refuse1 (H1 h), fun h => c_refuse0 ?_⟩
  obtain ⟨c, rfl, hc⟩ := nat_of h
  exact c_seamBehind zB_73 hN.1 hN.2 hw hc (H0 c rfl hc)
theorem c_picture (hN : Nw σ m) (hw : WF m) {s : Nat} (hs : s < 2) {x y : Int} (hx : I32 x) (hy : I32 y) (H0 : ∀ c r : Nat, x = c → y = r → c < cols m → r < nH m → K (iI (pic m s c r)) σ) (H1 : ¬ ((0 ≤ x ∧ x < cols m) ∧ (0 ≤ y ∧ y < nH m)) → X xI σ) : CT g l M_X6_picture 1 [.ref (zad g 0), .int (iI s), .int (iI x), .int (iI y)] σ (zQi K X) := by
  have hcl := cols_le hw
  have hb := wf_b hw
  refine b_X6_picture (c_hasCell zB_73 hN.1 hw hx hy ?_)
  try simp (disch := omega) only [iI_add, iI_sub, iI_mul, iI_neg, iI_n, iI_lt, iI_le, iI_eq, iI_tn, iI_ti, bI_0, bI_1, iI_L, iL_0, Decidable.not_not, Int.toNat_natCast, zpt_at, zpt_ne, pk_us, pk_un, forall_eq, tn_0, tn_1, tn_2, tn_3, tn_4, tn_5, ni_1, ni_2, ni_3, ni_4, ni_5, not_false_eq_true, not_true_eq_false, true_implies, false_implies, and_true, true_and, iL_6, iL_m6, iL_7, iL_8, iL_9, iL_4, iL_m4, iL_m8, li_0, li_1, li_2, li_3, li_4, li_5, li_6, li_7, li_8, li_9, li_10, li_11, li_12, li_13, li_15, li_16, li_18, li_20, li_24, li_31, li_32, li_40, li_46, li_48, li_57, li_59, li_60, li_61, li_63, li_64, li_97, li_99, li_122, li_124, li_150, li_255, li_480, li_488, li_600, li_999, li_1110, li_54]
  refine ⟨fun h => c_refuse1 (H1 h), fun h => c_refuse0 (c_pictureOf zB_73 hs ⟨(zB_p zB_73 hs).1, (zB_p zB_73 hs).2, ?_⟩)⟩
  obtain ⟨c, rfl, hc⟩ := nat_of h.1
  obtain ⟨r, rfl, hr⟩ := nat_of h.2
  refine ⟨in60 hc hcl.1, c_colourIn (by omega) ?_⟩
  rw [tnk hc (by omega), ((hN.1.2.2.2.2.2.2.2.2 c hc s hs).1) r (by omega), if_pos hr]
  exact H0 c r rfl rfl hc hr
theorem c_face (hN : Nw σ m) (hw : WF m) {s : Nat} (hs : s < 2) {k x y : Int} (hk : I32 k) (hx : I32 x) (hy : I32 y) (H0 : ∀ q c r : Nat, k = q → x = c → y = r → q < nS m → c < wd m q → r < nH m → K (iI (fc m s (fst m q + c) r)) σ) (H1 : ¬ ((0 ≤ k ∧ k < nS m) ∧ (0 ≤ x ∧ x < wd m k.toNat) ∧ (0 ≤ y ∧ y < nH m)) → X xI σ) : CT g l M_X6_face 1 [.ref (zad g 0), .int (iI k), .int (iI s), .int (iI x), .int (iI y)] σ (zQi K X) := by
  have hcl := cols_le hw
  have hb := wf_b hw
  refine b_X6_face (c_hasFaceCell zB_73 hN.1 hw hk hx hy ?_)
  try simp (disch := omega) only [iI_add, iI_sub, iI_mul, iI_neg, iI_n, iI_lt, iI_le, iI_eq, iI_tn, iI_ti, bI_0, bI_1, iI_L, iL_0, Decidable.not_not, Int.toNat_natCast, zpt_at, zpt_ne, pk_us, pk_un, forall_eq, tn_0, tn_1, tn_2, tn_3, tn_4, tn_5, ni_1, ni_2, ni_3, ni_4, ni_5, not_false_eq_true, not_true_eq_false, true_implies, false_implies, and_true, true_and, iL_6, iL_m6, iL_7, iL_8, iL_9, iL_4, iL_m4, iL_m8, li_0, li_1, li_2, li_3, li_4, li_5, li_6, li_7, li_8, li_9, li_10, li_11, li_12, li_13, li_15, li_16, li_18, li_20, li_24, li_31, li_32, li_40, li_46, li_48, li_57, li_59, li_60, li_61, li_63, li_64, li_97, li_99, li_122, li_124, li_150, li_255, li_480, li_488, li_600, li_999, li_1110, li_54]
  refine ⟨fun h => c_refuse1 (H1 h), fun h => c_refuse0 (c_faceOf zB_73 hs ⟨(zB_f zB_73 hs).1, (zB_f zB_73 hs).2, ?_⟩)⟩
  obtain ⟨q, rfl, hq⟩ := nat_of h.1
  rw [Int.toNat_natCast] at h
  obtain ⟨c, rfl, hc⟩ := nat_of h.2.1
  obtain ⟨r, rfl, hr⟩ := nat_of h.2.2
  have hcc := fst_col hw hq hc
  rw [tnk hq (by omega), (hN.1.2.2.2.2.2.2.2.1 q hq).2.1, iI_add, show ((fst m q : Int) + (c : Int)) = ((fst m q + c : Nat) : Int) by omega]
  refine ⟨in10 hq hb.2.2.1, in60 hcc hcl.1, c_colourIn (by omega) ?_⟩
  rw [tnk hcc (by omega), ((hN.1.2.2.2.2.2.2.2.2 _ hcc s hs).2) r (by omega), if_pos hr]
  exact H0 q c r rfl rfl rfl hq hc hr
theorem eq_ne_ct (f f' : Nat → Nat) (h : Nat) : fb_ct (fun r => decide (f r = f' r)) h + fb_ct (fun r => decide (f r ≠ f' r)) h = h := by
  have e := fb_ct_not (fun r => decide (f r = f' r)) h
  have e2 : fb_ct (fun r => decide (f r ≠ f' r)) h = fb_ct (fun r => !decide (f r = f' r)) h := fb_ct_cong (fun r _ => by
    by_cases e : f r = f' r <;> simp [e])
  omega
theorem c_shownFrom_23 {σ0 : zS} (hN : Nw σ0 m) (hw : WF m) {c : Nat} (hc : c < cols m) (H : ∀ τ, FrL LV σ0 τ → K (sfN m c) τ) (j : Nat) (hj : j ≤ 13) (σ : zS) (hF : FrL LV σ0 σ) : L_X6_shownFrom_23 g l K X (iI c) (bset (fun j => decide (stt m (-6 + (j : Int)) c = 0)) j) (iI j) σ := by
  have hst := stt_le m (-6 + (j : Int)) c
  have ih := fun h => c_shownFrom_23 hN hw hc H (j + 1) h
  refine b_X6_shownFrom_23 ?_
  try simp (disch := omega) only [iI_add, iI_sub, iI_mul, iI_neg, iI_n, iI_lt, iI_le, iI_eq, iI_tn, iI_ti, bI_0, bI_1, iI_L, iL_0, Decidable.not_not, Int.toNat_natCast, zpt_at, zpt_ne, pk_us, pk_un, forall_eq, tn_0, tn_1, tn_2, tn_3, tn_4, tn_5, ni_1, ni_2, ni_3, ni_4, ni_5, not_false_eq_true, not_true_eq_false, true_implies, false_implies, and_true, true_and, iL_6, iL_m6, iL_7, iL_8, iL_9, iL_4, iL_m4, iL_m8, li_0, li_1, li_2, li_3, li_4, li_5, li_6, li_7, li_8, li_9, li_10, li_11, li_12, li_13, li_15, li_16, li_18, li_20, li_24, li_31, li_32, li_40, li_46, li_48, li_57, li_59, li_60, li_61, li_63, li_64, li_97, li_99, li_122, li_124, li_150, li_255, li_480, li_488, li_600, li_999, li_1110, li_54]
  refine ⟨fun h => ?_, fun h => ?_⟩
  · obtain rfl : j = 13 := by omega
    exact H σ hF
  · rw [show ((j : Int) - 6) = -6 + (j : Int) by omega]
    refine c_lookN (hN.fr hF (by decide)) hw (by omega) (fun τ hF' hN' hV => c_isShown hw hV hc ?_)
    replace ih := ih (by omega) τ (hF.tr hF')
    rw [bset] at ih
    try simp (disch := omega) only [iI_add, iI_sub, iI_mul, iI_neg, iI_n, iI_lt, iI_le, iI_eq, iI_tn, iI_ti, bI_0, bI_1, iI_L, iL_0, Decidable.not_not, Int.toNat_natCast, zpt_at, zpt_ne, pk_us, pk_un, forall_eq, tn_0, tn_1, tn_2, tn_3, tn_4, tn_5, ni_1, ni_2, ni_3, ni_4, ni_5, not_false_eq_true, not_true_eq_false, true_implies, false_implies, and_true, true_and, iL_6, iL_m6, iL_7, iL_8, iL_9, iL_4, iL_m4, iL_m8, li_0, li_1, li_2, li_3, li_4, li_5, li_6, li_7, li_8, li_9, li_10, li_11, li_12, li_13, li_15, li_16, li_18, li_20, li_24, li_31, li_32, li_40, li_46, li_48, li_57, li_59, li_60, li_61, li_63, li_64, li_97, li_99, li_122, li_124, li_150, li_255, li_480, li_488, li_600, li_999, li_1110, li_54]
    refine ⟨fun h2 => ?_, fun h2 => ?_⟩
    · rw [if_neg (by simp; omega)] at ih
      exact ih
    · rw [if_pos (by simp; omega)] at ih
      exact ih
termination_by 13 - j
theorem c_shownFrom (hN : Nw σ m) (hw : WF m) {z : Int} (hz : I32 z) (H0 : ∀ c : Nat, z = c → c < cols m → ∀ τ, FrL LV σ τ → K (sfN m c) τ) (H1 : ¬ (0 ≤ z ∧ z < cols m) → X xI σ) : CT g l M_X6_shownFrom 1 [.ref (zad g 0), .int (iI z)] σ (zQi K X) := by
  refine b_X6_shownFrom (c_hasColumn zB_73 hN.1 hw hz ?_)
  try simp (disch := omega) only [iI_add, iI_sub, iI_mul, iI_neg, iI_n, iI_lt, iI_le, iI_eq, iI_tn, iI_ti, bI_0, bI_1, iI_L, iL_0, Decidable.not_not, Int.toNat_natCast, zpt_at, zpt_ne, pk_us, pk_un, forall_eq, tn_0, tn_1, tn_2, tn_3, tn_4, tn_5, ni_1, ni_2, ni_3, ni_4, ni_5, not_false_eq_true, not_true_eq_false, true_implies, false_implies, and_true, true_and, iL_6, iL_m6, iL_7, iL_8, iL_9, iL_4, iL_m4, iL_m8, li_0, li_1, li_2, li_3, li_4, li_5, li_6, li_7, li_8, li_9, li_10, li_11, li_12, li_13, li_15, li_16, li_18, li_20, li_24, li_31, li_32, li_40, li_46, li_48, li_57, li_59, li_60, li_61, li_63, li_64, li_97, li_99, li_122, li_124, li_150, li_255, li_480, li_488, li_600, li_999, li_1110, li_54]
  refine ⟨fun h => c_refuse1 (H1 h), fun h => c_refuse0 ?_⟩
  obtain ⟨c, rfl, hc⟩ := nat_of h
  exact c_shownFrom_23 hN hw hc (H0 c rfl hc) 0 (by omega) σ (FrL.rf _ _)
theorem nS0_iff (hw : WF m) : cols m = 0 ↔ nS m = 0 := by
  have hcl := cols_le hw
  refine ⟨fun h => by omega, fun h => ?_⟩
  unfold cols; rw [h, fst_0]
theorem c_bestAngle_9 {σ0 : zS} (hN : Nw σ0 m) (hw : WF m) {s : Nat} (hs : s < 2) (H : ∀ τ, FrL LV σ0 τ → K (iI (if nS m = 0 then -99 else (baN m s 13).1)) τ) (j : Nat) (hj : j ≤ 13) (h0 : nS m = 0 → j = 0) (σ : zS) (hF : FrL LV σ0 σ) : L_X6_bestAngle_9 g l K X (iI s) (iI (baN m s j).1) (iI (baN m s j).2) (iI (-6 + (j : Int))) σ := by
  have hcl := cols_le hw
  have hn0 := nS0_iff hw
  have hbb := baN_b hw s j
  have hr := rgt_le hw (-6 + (j : Int)) s
  have hN2 := hN.fr hF (by decide)
  have ih := fun h h' => c_bestAngle_9 hN hw hs H (j + 1) h h'
  refine b_X6_bestAngle_9 ?_
  rw [hN2.1.2.2.2.1]
  try simp (disch := omega) only [iI_add, iI_sub, iI_mul, iI_neg, iI_n, iI_lt, iI_le, iI_eq, iI_tn, iI_ti, bI_0, bI_1, iI_L, iL_0, Decidable.not_not, Int.toNat_natCast, zpt_at, zpt_ne, pk_us, pk_un, forall_eq, tn_0, tn_1, tn_2, tn_3, tn_4, tn_5, ni_1, ni_2, ni_3, ni_4, ni_5, not_false_eq_true, not_true_eq_false, true_implies, false_implies, and_true, true_and, iL_6, iL_m6, iL_7, iL_8, iL_9, iL_4, iL_m4, iL_m8, li_0, li_1, li_2, li_3, li_4, li_5, li_6, li_7, li_8, li_9, li_10, li_11, li_12, li_13, li_15, li_16, li_18, li_20, li_24, li_31, li_32, li_40, li_46, li_48, li_57, li_59, li_60, li_61, li_63, li_64, li_97, li_99, li_122, li_124, li_150, li_255, li_480, li_488, li_600, li_999, li_1110, li_54]
  refine ⟨fun h => ?_, fun h => ⟨fun h' => ?_, fun h' => ?_⟩⟩
  · obtain rfl : j = 13 := by omega
    have := H σ hF
    rw [if_neg (fun q => by have := h0 q; omega)] at this
    exact this
  · obtain rfl := h0 (by omega)
    have := H σ hF
    rw [if_pos (by omega)] at this
    exact this
  · refine c_rightFrom hN2 hw (by omega) hs (fun τ hF' hN' => ?_)
    replace ih := ih (by omega) (by omega) τ (hF.tr hF')
    rw [show ((-6 : Int) + ((j + 1 : Nat) : Int)) = -6 + (j : Int) + 1 by omega] at ih
    try simp (disch := omega) only [iI_add, iI_sub, iI_mul, iI_neg, iI_n, iI_lt, iI_le, iI_eq, iI_tn, iI_ti, bI_0, bI_1, iI_L, iL_0, Decidable.not_not, Int.toNat_natCast, zpt_at, zpt_ne, pk_us, pk_un, forall_eq, tn_0, tn_1, tn_2, tn_3, tn_4, tn_5, ni_1, ni_2, ni_3, ni_4, ni_5, not_false_eq_true, not_true_eq_false, true_implies, false_implies, and_true, true_and, iL_6, iL_m6, iL_7, iL_8, iL_9, iL_4, iL_m4, iL_m8, li_0, li_1, li_2, li_3, li_4, li_5, li_6, li_7, li_8, li_9, li_10, li_11, li_12, li_13, li_15, li_16, li_18, li_20, li_24, li_31, li_32, li_40, li_46, li_48, li_57, li_59, li_60, li_61, li_63, li_64, li_97, li_99, li_122, li_124, li_150, li_255, li_480, li_488, li_600, li_999, li_1110, li_54]
    refine ⟨fun h2 => ?_, fun h2 => ?_⟩
    · rw [show baN m s (j + 1) = _ from bst_n (by show ¬ (baN m s j).2 < _; omega)] at ih
      exact ih
    · rw [show baN m s (j + 1) = _ from bst_y (by show (baN m s j).2 < _; omega)] at ih
      exact ih
termination_by 13 - j
theorem c_bestAngle (hN : Nw σ m) (hw : WF m) {s : Nat} (hs : s < 2) (H : ∀ τ, FrL LV σ τ → K (iI (if nS m = 0 then -99 else (baN m s 13).1)) τ) : CT g l M_X6_bestAngle 0 [.ref (zad g 0), .int (iI s)] σ (zQi K X) :=
  b_X6_bestAngle (c_bestAngle_9 hN hw hs H 0 (by omega) (fun _ => rfl) σ (FrL.rf _ _))
theorem c_lightest_8 {σ0 : zS} (hN : Nw σ0 m) (hw : WF m) (H : ∀ τ, FrL LV σ0 τ → K (iI (if nS m = 0 then -99 else (liN m 13).1)) τ) (j : Nat) (hj : j ≤ 13) (h0 : nS m = 0 → j = 0) (σ : zS) (hF : FrL LV σ0 σ) : L_X6_lightest_8 g l K X (iI (liN m j).1) (iI (liN m j).2) (iI (-6 + (j : Int))) σ := by
  have hcl := cols_le hw
  have hn0 := nS0_iff hw
  have hbb := liN_b hw j
  have hr := opN_le hw (-6 + (j : Int))
  have hN2 := hN.fr hF (by decide)
  have ih := fun h h' => c_lightest_8 hN hw H (j + 1) h h'
  refine b_X6_lightest_8 ?_
  rw [hN2.1.2.2.2.1]
  try simp (disch := omega) only [iI_add, iI_sub, iI_mul, iI_neg, iI_n, iI_lt, iI_le, iI_eq, iI_tn, iI_ti, bI_0, bI_1, iI_L, iL_0, Decidable.not_not, Int.toNat_natCast, zpt_at, zpt_ne, pk_us, pk_un, forall_eq, tn_0, tn_1, tn_2, tn_3, tn_4, tn_5, ni_1, ni_2, ni_3, ni_4, ni_5, not_false_eq_true, not_true_eq_false, true_implies, false_implies, and_true, true_and, iL_6, iL_m6, iL_7, iL_8, iL_9, iL_4, iL_m4, iL_m8, li_0, li_1, li_2, li_3, li_4, li_5, li_6, li_7, li_8, li_9, li_10, li_11, li_12, li_13, li_15, li_16, li_18, li_20, li_24, li_31, li_32, li_40, li_46, li_48, li_57, li_59, li_60, li_61, li_63, li_64, li_97, li_99, li_122, li_124, li_150, li_255, li_480, li_488, li_600, li_999, li_1110, li_54]
  refine ⟨fun h => ?_, fun h => ⟨fun h' => ?_, fun h' => ?_⟩⟩
  · obtain rfl : j = 13 := by omega
    have := H σ hF
    rw [if_neg (fun q => by have := h0 q; omega)] at this
    exact this
  · obtain rfl := h0 (by omega)
    have := H σ hF
    rw [if_pos (by omega)] at this
    exact this
  · refine c_openFrom hN2 hw (by omega) (fun τ hF' hN' => ?_)
    replace ih := ih (by omega) (by omega) τ (hF.tr hF')
    rw [show ((-6 : Int) + ((j + 1 : Nat) : Int)) = -6 + (j : Int) + 1 by omega] at ih
    try simp (disch := omega) only [iI_add, iI_sub, iI_mul, iI_neg, iI_n, iI_lt, iI_le, iI_eq, iI_tn, iI_ti, bI_0, bI_1, iI_L, iL_0, Decidable.not_not, Int.toNat_natCast, zpt_at, zpt_ne, pk_us, pk_un, forall_eq, tn_0, tn_1, tn_2, tn_3, tn_4, tn_5, ni_1, ni_2, ni_3, ni_4, ni_5, not_false_eq_true, not_true_eq_false, true_implies, false_implies, and_true, true_and, iL_6, iL_m6, iL_7, iL_8, iL_9, iL_4, iL_m4, iL_m8, li_0, li_1, li_2, li_3, li_4, li_5, li_6, li_7, li_8, li_9, li_10, li_11, li_12, li_13, li_15, li_16, li_18, li_20, li_24, li_31, li_32, li_40, li_46, li_48, li_57, li_59, li_60, li_61, li_63, li_64, li_97, li_99, li_122, li_124, li_150, li_255, li_480, li_488, li_600, li_999, li_1110, li_54]
    refine ⟨fun h2 => ?_, fun h2 => ?_⟩
    · rw [show liN m (j + 1) = _ from bst_n (by show ¬ (liN m j).2 < _; omega)] at ih
      exact ih
    · rw [show liN m (j + 1) = _ from bst_y (by show (liN m j).2 < _; omega)] at ih
      exact ih
termination_by 13 - j
theorem c_lightest (hN : Nw σ m) (hw : WF m) (H : ∀ τ, FrL LV σ τ → K (iI (if nS m = 0 then -99 else (liN m 13).1)) τ) : CT g l M_X6_lightest 0 [.ref (zad g 0)] σ (zQi K X) :=
  b_X6_lightest (c_lightest_8 hN hw H 0 (by omega) (fun _ => rfl) σ (FrL.rf _ _))
theorem c_paintable_4 (hN : Nw σ m) (hw : WF m) {s : Nat} (hs : s < 2) (H : K (paN m s (nS m)) σ) (k : Nat) (hk : k ≤ nS m) : L_X6_paintable_4 g l K X (iI s) (paN m s k) (iI k) σ := by
  have hb := wf_b hw
  have ih := fun h => c_paintable_4 hN hw hs H (k + 1) h
  refine b_X6_paintable_4 ?_
  rw [hN.1.2.2.1]
  try simp (disch := omega) only [iI_add, iI_sub, iI_mul, iI_neg, iI_n, iI_lt, iI_le, iI_eq, iI_tn, iI_ti, bI_0, bI_1, iI_L, iL_0, Decidable.not_not, Int.toNat_natCast, zpt_at, zpt_ne, pk_us, pk_un, forall_eq, tn_0, tn_1, tn_2, tn_3, tn_4, tn_5, ni_1, ni_2, ni_3, ni_4, ni_5, not_false_eq_true, not_true_eq_false, true_implies, false_implies, and_true, true_and, iL_6, iL_m6, iL_7, iL_8, iL_9, iL_4, iL_m4, iL_m8, li_0, li_1, li_2, li_3, li_4, li_5, li_6, li_7, li_8, li_9, li_10, li_11, li_12, li_13, li_15, li_16, li_18, li_20, li_24, li_31, li_32, li_40, li_46, li_48, li_57, li_59, li_60, li_61, li_63, li_64, li_97, li_99, li_122, li_124, li_150, li_255, li_480, li_488, li_600, li_999, li_1110, li_54]
  refine ⟨fun h => ?_, fun h => ?_⟩
  · obtain rfl : k = nS m := by omega
    exact H
  · have hul := unl_le hw (k := k) (by omega) s
    replace ih := ih (by omega)
    rw [show paN m s (k + 1) = if decide (ct m k s < nC m ∧ 0 < unl m k s) then paN m s k ||| (iI 1 <<< (iI (k : Nat) &&& iI 31)) else paN m s k from rfl] at ih
    refine c_bearsCoat zB_73 hN.1 hw (by omega) hs ?_
    try simp (disch := omega) only [iI_add, iI_sub, iI_mul, iI_neg, iI_n, iI_lt, iI_le, iI_eq, iI_tn, iI_ti, bI_0, bI_1, iI_L, iL_0, Decidable.not_not, Int.toNat_natCast, zpt_at, zpt_ne, pk_us, pk_un, forall_eq, tn_0, tn_1, tn_2, tn_3, tn_4, tn_5, ni_1, ni_2, ni_3, ni_4, ni_5, not_false_eq_true, not_true_eq_false, true_implies, false_implies, and_true, true_and, iL_6, iL_m6, iL_7, iL_8, iL_9, iL_4, iL_m4, iL_m8, li_0, li_1, li_2, li_3, li_4, li_5, li_6, li_7, li_8, li_9, li_10, li_11, li_12, li_13, li_15, li_16, li_18, li_20, li_24, li_31, li_32, li_40, li_46, li_48, li_57, li_59, li_60, li_61, li_63, li_64, li_97, li_99, li_122, li_124, li_150, li_255, li_480, li_488, li_600, li_999, li_1110, li_54]
    refine ⟨fun h2 => ?_, fun h2 => c_unlikePicture zB_73 hN.1 hw (by omega) hs ?_⟩
    · rw [if_neg (fun x => h2 (of_decide_eq_true x).1)] at ih
      exact ih
    · try simp (disch := omega) only [iI_add, iI_sub, iI_mul, iI_neg, iI_n, iI_lt, iI_le, iI_eq, iI_tn, iI_ti, bI_0, bI_1, iI_L, iL_0, Decidable.not_not, Int.toNat_natCast, zpt_at, zpt_ne, pk_us, pk_un, forall_eq, tn_0, tn_1, tn_2, tn_3, tn_4, tn_5, ni_1, ni_2, ni_3, ni_4, ni_5, not_false_eq_true, not_true_eq_false, true_implies, false_implies, and_true, true_and, iL_6, iL_m6, iL_7, iL_8, iL_9, iL_4, iL_m4, iL_m8, li_0, li_1, li_2, li_3, li_4, li_5, li_6, li_7, li_8, li_9, li_10, li_11, li_12, li_13, li_15, li_16, li_18, li_20, li_24, li_31, li_32, li_40, li_46, li_48, li_57, li_59, li_60, li_61, li_63, li_64, li_97, li_99, li_122, li_124, li_150, li_255, li_480, li_488, li_600, li_999, li_1110, li_54]
      refine ⟨fun h3 => ?_, fun h3 => ?_⟩
      · rw [if_neg (fun x => by have := (of_decide_eq_true x).2; omega)] at ih
        exact ih
      · rw [if_pos (decide_eq_true ⟨h2, by omega⟩)] at ih
        exact ih
termination_by nS m - k
theorem c_paintable (hN : Nw σ m) (hw : WF m) {s : Nat} (hs : s < 2) (H : K (paN m s (nS m)) σ) : CT g l M_X6_paintable 0 [.ref (zad g 0), .int (iI s)] σ (zQi K X) :=
  b_X6_paintable (c_paintable_4 hN hw hs H 0 (Nat.zero_le _))
end ZCP

