/-! the class: undo, save, restore, report, feed, truncate -/
section ZCU
variable {g : zG} {l : Launch} {K : Int32 → zS → Prop} {X : String → zS → Prop} {m m' : Nat → Int32} {σ : zS}
theorem c_undo {u : Nat} {h : Nat → Nat → Int32} (hH : HsC σ u h) (hhw : ∀ i, i < u → WF (h i)) (H0 : u = 0 → K (iI (-1)) σ) (H1 : 0 < u → ∀ τ, FrP pU σ τ → Nw τ (h 0) → HsC τ (u - 1) (fun i => h (i + 1)) → K (iI (u - 1 : Nat)) τ) : CT g l M_X6_undo 0 [.ref (zad g 0)] σ (zQi K X) := by
  refine b_X6_undo (c_takeBack hH hhw (fun e => ?_) (fun e τ hF hN hH' => ?_))
  · exact ⟨fun _ => H0 e, fun q => absurd rfl q⟩
  · refine ⟨fun q => absurd q (by decide), fun _ => ?_⟩
    obtain ⟨nx, _, _, h1, _⟩ := id hH'
    rw [h1]
    exact H1 e τ hF hN hH'
/-- what the class has saved -/
def SvC (σ : zS) (sv : Nat) (a : Nat → Int32) : Prop := sv < 2 ∧ σ.1 0 11 = iI sv ∧ (sv = 1 → Nb σ 83 a)
theorem SvC.fr {sv : Nat} {a : Nat → Int32} {τ : zS} (H : SvC σ sv a) (h1 : τ.1 0 11 = σ.1 0 11) (h2 : ∀ b, 83 ≤ b → b < 93 → τ.1 b = σ.1 b) : SvC τ sv a :=
  ⟨H.1, h1.trans H.2.1, fun e => (H.2.2 e).fr (fun b h3 h4 => h2 b h3 (by omega))⟩
theorem c_save (hN : Nw σ m) (hw : WF m) (H : ∀ τ, FrP (fun b => b = 0 ∨ (83 ≤ b ∧ b < 93)) σ τ → (∀ k, k ≠ 11 → τ.1 0 k = σ.1 0 k) → SvC τ 1 m → K (iI (nS m)) τ) : CT g l M_X6_save 0 [.ref (zad g 0)] σ (zQi K X) := by
  refine b_X6_save (c_copyFrom zB_83 zB_73 (by omega) (fun τ hF hC => ?_))
  intro σ2 e2
  have b0 : ∀ b, b ≠ 0 → σ2.1 b = τ.1 b := fun b hb => by rw [e2]; exact zpt_ne hb
  have z0 : σ2.1 0 = upd (τ.1 0) 11 1 := by rw [e2]; exact zpt_at _ _ _
  have hF2 : FrP (fun b => b = 0 ∨ (83 ≤ b ∧ b < 93)) σ σ2 := by
    rw [e2]
    exact FrP.up (hF.sub (q := fun b => b = 0 ∨ (83 ≤ b ∧ b < 93)) (fun b hb => Or.inr (by omega))) (Or.inl rfl) _
  rw [b0 73 (by decide), hF.1 73 (by omega), hN.1.2.2.1]
  refine H σ2 hF2 (fun k hk => ?_) ⟨by decide, ?_, fun _ => ?_⟩
  · rw [z0, pk_un hk, hF.1 0 (by omega)]
  · rw [z0, pk_us]; rfl
  · exact (hC.Nb hw (Nw_Nb.mp hN)).fr (fun b h1 h2 => b0 b (by omega))
theorem c_restore {sv : Nat} {a : Nat → Int32} (hS : SvC σ sv a) (hwa : sv = 1 → WF a) (H0 : sv = 0 → X xS' σ) (H1 : sv = 1 → ∀ τ, FrP pU σ τ → Nw τ a → (∀ k, k ≠ 1 → τ.1 16 k = σ.1 16 k) → τ.1 16 1 = iI 0 → K (iI (nS a)) τ) : CT g l M_X6_restore 1 [.ref (zad g 0)] σ (zQi K X) := by
  obtain ⟨h0, h1, h2⟩ := hS
  refine b_X6_restore ?_
  rw [h1]
  match sv, h0 with
  | 0, _ => exact ⟨fun q => absurd rfl q, fun _ => H0 rfl⟩
  | 1, _ =>
    refine ⟨fun _ => c_copyFrom zB_73 zB_83 (by omega) (fun τ hF hC => b_X1_forget ?_), fun q => absurd q (by decide)⟩
    intro σ2 e2
    have b0 : ∀ b, b ≠ 16 → σ2.1 b = τ.1 b := fun b hb => by rw [e2]; exact zpt_ne hb
    have z0 : σ2.1 16 = upd (τ.1 16) 1 0 := by rw [e2]; exact zpt_at _ _ _
    have hN : Nw τ a := hC.Nb (hwa rfl) (h2 rfl)
    have hN2 : Nw σ2 a := (Nw_Nb.mp hN).fr (fun b h1 h2 => b0 b (by omega))
    have hF2 : FrP pU σ σ2 := by
      rw [e2]
      exact FrP.up (hF.sub (q := pU) (fun b hb => Or.inr (by omega))) (Or.inl rfl) _
    rw [hN2.1.2.2.1]
    refine H1 rfl σ2 hF2 hN2 (fun k hk => ?_) ?_
    · rw [z0, pk_un hk, hF.1 16 (by omega)]
    · rw [z0, pk_us]; rfl
/-- the class's report -/
def RpC (σ : zS) (n : Nat) (f : Nat → Nat) : Prop := n ≤ 488 ∧ σ.1 0 9 = iI n ∧ ∀ i, i < n → σ.1 23 i = iI (f i)
theorem RpC.fr {n : Nat} {f : Nat → Nat} {τ : zS} (H : RpC σ n f) (h1 : τ.1 0 9 = σ.1 0 9) (h2 : τ.1 23 = σ.1 23) : RpC τ n f := ⟨H.1, h1.trans H.2.1, fun i hi => by rw [h2]; exact H.2.2 i hi⟩
def pR (b : Nat) : Prop := b = 0 ∨ b = 23
theorem c_reportSign {K : zS → Prop} {n v : Nat} {f : Nat → Nat} (hR : RpC σ n f) (hn : n < 488) (hv : v = f n) (hv2 : v < 128) (H : ∀ τ, FrP pR σ τ → (∀ k, k ≠ 9 → τ.1 0 k = σ.1 0 k) → RpC τ (n + 1) f → K τ) : CT g l M_X6_reportSign 0 [.ref (zad g 0), .int (iI v)] σ (zQv K X) := by
  obtain ⟨h0, h2, h4⟩ := hR
  have eb : vp_nar .byte (zi2b (iI (v : Int))) = iI v := by
    rw [vp_nar_byte]
    show (iI (v : Int)).toInt8.toInt32.toInt8.toInt32 = _
    rw [fb_byte_twice, fb_byte (by rw [iI_ti (by omega) (by omega)]; omega) (by rw [iI_ti (by omega) (by omega)]; omega)]
  refine b_X6_reportSign ?_
  rw [h2, tnk hn (by omega), eb]
  refine ⟨fun q => ?_, fun _ => ⟨iI_in (by omega) (by omega) (by omega), ?_⟩⟩
  · rw [show (488 : Int32) = iI 488 from rfl, iI_le (by omega) (by omega) (by omega) (by omega)] at q
    omega
  · intro σ2 e2 σ3 e3
    have z0 : σ3.1 0 = upd (σ.1 0) 9 (iI (n + 1 : Nat)) := by
      rw [e3, e2, zpt_at, zpt_ne (by decide), h2, show (1 : Int32) = iI 1 from rfl, iI_add]; rfl
    have z23 : σ3.1 23 = upd (σ.1 23) n (iI v) := by rw [e3, zpt_ne (by decide), e2, zpt_at]
    have hF : FrP pR σ σ3 := by
      rw [e3, e2]
      exact ((FrP.rf pR σ).up (Or.inr rfl) _).up (Or.inl rfl) _
    refine H σ3 hF (fun k hk => by rw [z0, pk_un hk]) ⟨by omega, by rw [z0, pk_us], fun i hi => ?_⟩
    rw [z23]
    by_cases e : i = n
    · subst e; rw [pk_us, hv]
    · rw [pk_un e]; exact h4 i (by omega)
theorem sg_ok : ∀ v, v < 10 → zi2c (48 + nI v) = nI (48 + v) ∧ narrow .char (.int (nI (48 + v))) = .int (nI (48 + v)) := by decide +kernel
theorem c_signOf {v : Int} (h1 : -2 ≤ v) (h2 : v ≤ 9) (H : K (iI (sgN v)) σ) : CT g l M_X6_signOf 0 [.int (iI v)] σ (zQi K X) := by
  unfold sgN at H
  refine b_X6_signOf ?_
  rw [show (-1 : Int32) = iI (-1) from rfl, show (-2 : Int32) = iI (-2) from rfl, iI_eq (by omega) (by omega) (by omega) (by omega), iI_eq (by omega) (by omega) (by omega) (by omega)]
  refine ⟨fun h3 => ⟨fun h4 => ?_, fun h4 => ?_⟩, fun h3 => ?_⟩
  · rw [if_neg h4, if_neg h3] at H
    obtain ⟨k, rfl, hk⟩ := nat_of (n := 10) (show 0 ≤ v ∧ v < (10 : Nat) by omega)
    have e := sg_ok k hk
    rw [show iI (k : Int) = nI k from rfl, e.1]
    refine ⟨e.2, ?_⟩
    rw [show (48 + (k : Int)).toNat = 48 + k by omega] at H
    exact H
  · rw [if_pos h4] at H; exact H
  · rw [if_neg (by omega), if_pos h3] at H; exact H
theorem sgN_lt {v : Int} (h1 : -2 ≤ v) (h2 : v ≤ 9) : sgN v < 128 := by
  unfold sgN; split
  · omega
  · split <;> omega
theorem c_report_29 {σ0 : zS} (hN : Nw σ0 m) (hw : WF m) {a : Int} (hV : Vw σ0 m a) (H : ∀ τ, FrP pR σ0 τ → (∀ k, k ≠ 9 → τ.1 0 k = σ0.1 0 k) → RpC τ (nH m * (cols m + 1)) (rpB m a) → K (iI (nH m * (cols m + 1) : Nat)) τ) (r : Nat) (hr : r ≤ nH m) (σ : zS) (hF : FrP pR σ0 σ) (h9 : ∀ k, k ≠ 9 → σ.1 0 k = σ0.1 0 k) (hR : RpC σ (r * (cols m + 1)) (rpB m a)) : L_X6_report_29 g l K X (iI r) σ := by
  have hwb := wf_b hw
  have hcl := cols_le hw
  have ih := fun h σ a b c => c_report_29 hN hw hV H (r + 1) h σ a b c
  have nw : ∀ τ, FrP pR σ0 τ → Nw τ m ∧ Vw τ m a := fun τ h => ⟨(Nw_Nb.mp hN).fr (fun b h1 h2 => h.1 b (by unfold pR; omega)), hV.fr (h.1 19 (by unfold pR; omega)) (h.1 20 (by unfold pR; omega)) (h.1 21 (by unfold pR; omega))⟩
  have inner : ∀ n c, c + n = cols m → r < nH m → ∀ τ, FrP pR σ0 τ → (∀ k, k ≠ 9 → τ.1 0 k = σ0.1 0 k) → RpC τ (r * (cols m + 1) + c) (rpB m a) → L_X6_report_42 g l K X (iI r) (iI c) τ := fun n => by
    induction n with
    | zero =>
      intro c e h τ hF0 g9 hR0
      obtain rfl : c = cols m := by omega
      have hlt : (r + 1) * (cols m + 1) ≤ 8 * 61 := Nat.mul_le_mul (by omega) (by omega)
      rw [Nat.add_mul, Nat.one_mul] at hlt
      refine b_X6_report_42 ?_
      rw [(nw τ hF0).1.1.2.2.2.1]
      try simp (disch := omega) only [iI_add, iI_sub, iI_mul, iI_neg, iI_n, iI_lt, iI_le, iI_eq, iI_tn, iI_ti, bI_0, bI_1, iI_L, iL_0, Decidable.not_not, Int.toNat_natCast, zpt_at, zpt_ne, pk_us, pk_un, forall_eq, tn_0, tn_1, tn_2, tn_3, tn_4, tn_5, ni_1, ni_2, ni_3, ni_4, ni_5, not_false_eq_true, not_true_eq_false, true_implies, false_implies, and_true, true_and, iL_6, iL_m6, iL_7, iL_8, iL_9, iL_4, iL_m4, iL_m8, li_0, li_1, li_2, li_3, li_4, li_5, li_6, li_7, li_8, li_9, li_10, li_11, li_12, li_13, li_15, li_16, li_18, li_20, li_24, li_31, li_32, li_40, li_46, li_48, li_57, li_59, li_60, li_61, li_63, li_64, li_97, li_99, li_122, li_124, li_150, li_255, li_480, li_488, li_600, li_999, li_1110, li_54]
      refine ⟨fun _ => ?_, fun h => by omega⟩
      refine c_reportSign (v := 10) hR0 (by omega) ?_ (by decide) (fun υ hF1 e0 hR1 => ?_)
      · unfold rpB
        rw [Nat.mul_comm, Nat.mul_add_mod, Nat.mod_eq_of_lt (by omega), if_neg (by omega)]
      · exact ih h υ (hF0.tr hF1) (fun k hk => (e0 k hk).trans (g9 k hk)) (by rw [Nat.add_mul, Nat.one_mul]; exact hR1)
    | succ n ihn =>
      intro c e h τ hF0 g9 hR0
      have hc : c < cols m := by omega
      have hlt : (r + 1) * (cols m + 1) ≤ 8 * 61 := Nat.mul_le_mul (by omega) (by omega)
      rw [Nat.add_mul, Nat.one_mul] at hlt
      have hsb := sn_b hw hc (r := r) (by omega) a
      have hrp : rpB m a (r * (cols m + 1) + c) = sgN (snN m a c r) := by
        unfold rpB
        rw [Nat.mul_comm, Nat.mul_add_mod, Nat.mod_eq_of_lt (by omega), if_pos hc, Nat.mul_add_div (by omega), Nat.div_eq_of_lt (by omega), Nat.add_zero]
      refine b_X6_report_42 ?_
      rw [(nw τ hF0).1.1.2.2.2.1]
      try simp (disch := omega) only [iI_add, iI_sub, iI_mul, iI_neg, iI_n, iI_lt, iI_le, iI_eq, iI_tn, iI_ti, bI_0, bI_1, iI_L, iL_0, Decidable.not_not, Int.toNat_natCast, zpt_at, zpt_ne, pk_us, pk_un, forall_eq, tn_0, tn_1, tn_2, tn_3, tn_4, tn_5, ni_1, ni_2, ni_3, ni_4, ni_5, not_false_eq_true, not_true_eq_false, true_implies, false_implies, and_true, true_and, iL_6, iL_m6, iL_7, iL_8, iL_9, iL_4, iL_m4, iL_m8, li_0, li_1, li_2, li_3, li_4, li_5, li_6, li_7, li_8, li_9, li_10, li_11, li_12, li_13, li_15, li_16, li_18, li_20, li_24, li_31, li_32, li_40, li_46, li_48, li_57, li_59, li_60, li_61, li_63, li_64, li_97, li_99, li_122, li_124, li_150, li_255, li_480, li_488, li_600, li_999, li_1110, li_54]
      refine ⟨fun h => by omega, fun _ => ?_⟩
      refine c_seenAt hw (nw τ hF0).2 hc h (c_signOf hsb.1 hsb.2 (c_reportSign hR0 (by omega) hrp.symm (sgN_lt hsb.1 hsb.2) (fun υ hF1 e0 hR1 => ?_)))
      exact ihn (c + 1) (by omega) h υ (hF0.tr hF1) (fun k hk => (e0 k hk).trans (g9 k hk)) hR1
  refine b_X6_report_29 ?_
  rw [(nw σ hF).1.1.1]
  try simp (disch := omega) only [iI_add, iI_sub, iI_mul, iI_neg, iI_n, iI_lt, iI_le, iI_eq, iI_tn, iI_ti, bI_0, bI_1, iI_L, iL_0, Decidable.not_not, Int.toNat_natCast, zpt_at, zpt_ne, pk_us, pk_un, forall_eq, tn_0, tn_1, tn_2, tn_3, tn_4, tn_5, ni_1, ni_2, ni_3, ni_4, ni_5, not_false_eq_true, not_true_eq_false, true_implies, false_implies, and_true, true_and, iL_6, iL_m6, iL_7, iL_8, iL_9, iL_4, iL_m4, iL_m8, li_0, li_1, li_2, li_3, li_4, li_5, li_6, li_7, li_8, li_9, li_10, li_11, li_12, li_13, li_15, li_16, li_18, li_20, li_24, li_31, li_32, li_40, li_46, li_48, li_57, li_59, li_60, li_61, li_63, li_64, li_97, li_99, li_122, li_124, li_150, li_255, li_480, li_488, li_600, li_999, li_1110, li_54]
  refine ⟨fun h => ?_, fun h => inner (cols m) 0 (by omega) (by omega) σ hF h9 hR⟩
  obtain rfl : r = nH m := by omega
  rw [hR.2.1]
  exact H σ hF h9 hR
termination_by nH m - r
def pRV (b : Nat) : Prop := b = 0 ∨ b = 23 ∨ b = 19 ∨ b = 20 ∨ b = 21
theorem c_report (hN : Nw σ m) (hw : WF m) {a : Int} (ha : I32 a) (H0 : (-6 ≤ a ∧ a ≤ 6) → ∀ τ, FrP pRV σ τ → (∀ k, k ≠ 9 → τ.1 0 k = σ.1 0 k) → RpC τ (nH m * (cols m + 1)) (rpB m a) → K (iI (nH m * (cols m + 1) : Nat)) τ) (H1 : ¬ (-6 ≤ a ∧ a ≤ 6) → X xA σ) : CT g l M_X6_report 1 [.ref (zad g 0), .int (iI a)] σ (zQi K X) := by
  refine b_X6_report (c_angle ha (fun h => c_refuse0 (c_lookN hN hw h (fun τ hF hN' hV => ?_))) (fun h => c_refuse2 (H1 h)))
  intro σ4 e4
  have b0 : ∀ b, b ≠ 0 → σ4.1 b = τ.1 b := fun b hb => by rw [e4]; exact zpt_ne hb
  have z0 : σ4.1 0 = upd (τ.1 0) 9 (iI 0) := by rw [e4]; exact zpt_at _ _ _
  have e2 : σ4.2 = τ.2 := by rw [e4]; rfl
  have f1 : FrP pRV σ σ4 := ⟨fun b hb => (b0 b (by unfold pRV at hb; omega)).trans (hF.1 b (by unfold pRV at hb; simp only [LV, List.mem_cons, List.not_mem_nil, or_false]; omega)), e2.trans hF.2⟩
  refine c_report_29 ((Nw_Nb.mp hN').fr (fun b h1 h2 => b0 b (by omega))) hw (hV.fr (b0 19 (by decide)) (b0 20 (by decide)) (b0 21 (by decide))) (fun υ hF2 h9 hR => H0 h υ (f1.tr (hF2.sub (fun b hb => by unfold pR at hb; unfold pRV; omega))) (fun k hk => ?_) hR) 0 (Nat.zero_le _) σ4 (FrP.rf _ _) (fun k _ => rfl) ⟨by omega, ?_, fun i hi => by omega⟩
  · rw [h9 k hk, z0, pk_un hk, hF.1 0 (by decide)]
  · rw [z0, pk_us, Nat.zero_mul]; rfl
theorem c_reportByte {n : Nat} {f : Nat → Nat} (hR : RpC σ n f) {x : Int} (hx : I32 x) (H0 : ∀ i : Nat, x = i → i < n → K (iI (f i)) σ) (H1 : ¬ (0 ≤ x ∧ x < n) → X xI σ) : CT g l M_X6_reportByte 1 [.ref (zad g 0), .int (iI x)] σ (zQi K X) := by
  obtain ⟨h0, h2, h4⟩ := hR
  refine b_X6_reportByte ?_
  rw [h2]
  try simp (disch := omega) only [iI_add, iI_sub, iI_mul, iI_neg, iI_n, iI_lt, iI_le, iI_eq, iI_tn, iI_ti, bI_0, bI_1, iI_L, iL_0, Decidable.not_not, Int.toNat_natCast, zpt_at, zpt_ne, pk_us, pk_un, forall_eq, tn_0, tn_1, tn_2, tn_3, tn_4, tn_5, ni_1, ni_2, ni_3, ni_4, ni_5, not_false_eq_true, not_true_eq_false, true_implies, false_implies, and_true, true_and, iL_6, iL_m6, iL_7, iL_8, iL_9, iL_4, iL_m4, iL_m8, li_0, li_1, li_2, li_3, li_4, li_5, li_6, li_7, li_8, li_9, li_10, li_11, li_12, li_13, li_15, li_16, li_18, li_20, li_24, li_31, li_32, li_40, li_46, li_48, li_57, li_59, li_60, li_61, li_63, li_64, li_97, li_99, li_122, li_124, li_150, li_255, li_480, li_488, li_600, li_999, li_1110, li_54]
  refine ⟨fun h => H1 (by omega), fun h => ⟨fun h' => ⟨iI_in (by omega) (by omega) (by omega), ?_⟩, fun h' => H1 (by omega)⟩⟩
  obtain ⟨i, rfl, hi⟩ := nat_of (n := n) (show 0 ≤ x ∧ x < (n : Nat) by omega)
  rw [tnk hi (by omega), h4 i hi]
  exact H0 i rfl hi
/-- a byte as the class holds it -/
def sbN (v : Nat) : Int32 := (iI (v : Int)).toInt8.toInt32
theorem tbv_c {v : Int32} {k : Nat} (hk : k ≤ 24) : vp_nar .byte (zi2b (zushr v (iI (k : Int)))) = sbN (tbv v k) := by
  rw [vp_nar_byte]
  show (zushr v (iI (k : Int))).toInt8.toInt32.toInt8.toInt32 = _
  rw [fb_byte_twice]
  unfold sbN
  congr 1
  rw [← fa_byte_low (zushr v (iI (k : Int)))]
  congr 1
  apply b_ext
  intro i hi
  rw [b_and, b_255, show iI (k : Int) = nI k from rfl, bt_ushr (by omega), show iI (tbv v k : Int) = nI (tbv v k) from rfl, bt_nI _ _ hi, tbv_bit]
  by_cases h : i < 8 <;> simp [h]
def TxC (σ : zS) (n : Nat) (f : Nat → Nat) : Prop := n ≤ 600 ∧ σ.1 1 1 = iI n ∧ ∀ i, i < n → σ.1 2 i = sbN (f i)
theorem TxC.fr {n : Nat} {f : Nat → Nat} {τ : zS} (H : TxC σ n f) (h1 : τ.1 1 1 = σ.1 1 1) (h2 : τ.1 2 = σ.1 2) : TxC τ n f := ⟨H.1, h1.trans H.2.1, fun i hi => by rw [h2]; exact H.2.2 i hi⟩
def pT (b : Nat) : Prop := b = 1 ∨ b = 2
theorem c_append_3 {K : zS → Prop} {σ0 : zS} {n : Nat} {f : Nat → Nat} {v : Int32} (hn : n + 4 ≤ 600) (H : ∀ τ, FrP pT σ0 τ → (∀ k, k ≠ 1 → τ.1 1 k = σ0.1 1 k) → TxC τ (n + 4) (app f n v) → K τ) (j : Nat) (hj : j ≤ 4) (σ : zS) (hF : FrP pT σ0 σ) (h1 : ∀ k, k ≠ 1 → σ.1 1 k = σ0.1 1 k) (hT : TxC σ (n + j) (app f n v)) : L_X3_append_3 g l K X v (iI (24 - 8 * (j : Int))) σ := by
  have ih := fun h σ a b c => c_append_3 hn H (j + 1) h σ a b c
  refine b_X3_append_3 ?_
  rw [hT.2.1]
  simp (disch := omega) only [li_0, li_8, li_600, iI_lt, iI_le, iI_neg, iI_add]
  refine ⟨fun h => ?_, fun h => ⟨fun h2 => by omega, fun h2 => ⟨iI_in (by omega) (by omega) (by omega), ?_⟩⟩⟩
  · obtain rfl : j = 4 := by omega
    exact H σ hF h1 hT
  · intro σ3 e3 σ4 e4
    rw [show (24 - 8 * (j : Int)) = ((24 - 8 * j : Nat) : Int) by omega, tbv_c (by omega), show (Int32.toNatClampNeg (iI ((n + j : Nat) : Int))) = n + j by rw [iI_tn (by omega) (by omega)]; rfl] at e3
    have z1 : σ4.1 1 = upd (σ.1 1) 1 (iI (n + j + 1 : Nat)) := by
      rw [e4, e3, zpt_at, zpt_ne (by decide), hT.2.1, li_1, iI_add]; rfl
    have z2 : σ4.1 2 = upd (σ.1 2) (n + j) (sbN (tbv v (24 - 8 * j))) := by rw [e4, zpt_ne (by decide), e3, zpt_at]
    have f4 : FrP pT σ σ4 := by
      rw [e4, e3]
      exact ((FrP.rf pT σ).up (Or.inr rfl) _).up (Or.inl rfl) _
    rw [show (24 - 8 * (j : Int)) + -8 = 24 - 8 * ((j + 1 : Nat) : Int) by omega]
    refine ih (by omega) σ4 (hF.tr f4) (fun k hk => by rw [z1, pk_un hk]; exact h1 k hk) ⟨by omega, by rw [z1, pk_us]; rfl, fun i hi => ?_⟩
    rw [z2]
    by_cases e2 : i = n + j
    · subst e2
      rw [pk_us]
      unfold app
      rw [if_neg (by omega), show n + j - n = j by omega]
    · rw [pk_un e2]; exact hT.2.2 i (by omega)
termination_by 4 - j
theorem c_append {K : zS → Prop} {n : Nat} {f : Nat → Nat} {v : Int32} (hT : TxC σ n f) (hn : n + 4 ≤ 600) (H : ∀ τ, FrP pT σ τ → (∀ k, k ≠ 1 → τ.1 1 k = σ.1 1 k) → TxC τ (n + 4) (app f n v) → K τ) : CT g l M_X3_append 0 [.ref (zad g 1), .int v] σ (zQv K X) :=
  b_X3_append (c_append_3 hn H 0 (by omega) σ (FrP.rf _ _) (fun _ _ => rfl) ⟨hT.1, hT.2.1, fun i hi => by
    unfold app
    rw [if_pos (show i < n by omega)]
    exact hT.2.2 i hi⟩)
theorem c_feed {n : Nat} {f : Nat → Nat} {a b c d e : Int32} (hT : TxC σ n f) (H0 : n + 20 ≤ 600 → ∀ τ, FrP pT σ τ → (∀ k, k ≠ 1 → τ.1 1 k = σ.1 1 k) → TxC τ (n + 20) (app5 f n a b c d e) → K (iI (n + 20 : Nat)) τ) (H1 : ¬ n + 20 ≤ 600 → X xS' σ) : CT g l M_X6_feed 1 [.ref (zad g 0), .int a, .int b, .int c, .int d, .int e] σ (zQi K X) := by
  have hn := hT.1
  refine b_X6_feed ?_
  rw [hT.2.1]
  try simp (disch := omega) only [iI_add, iI_sub, iI_mul, iI_neg, iI_n, iI_lt, iI_le, iI_eq, iI_tn, iI_ti, bI_0, bI_1, iI_L, iL_0, Decidable.not_not, Int.toNat_natCast, zpt_at, zpt_ne, pk_us, pk_un, forall_eq, tn_0, tn_1, tn_2, tn_3, tn_4, tn_5, ni_1, ni_2, ni_3, ni_4, ni_5, not_false_eq_true, not_true_eq_false, true_implies, false_implies, and_true, true_and, iL_6, iL_m6, iL_7, iL_8, iL_9, iL_4, iL_m4, iL_m8, li_0, li_1, li_2, li_3, li_4, li_5, li_6, li_7, li_8, li_9, li_10, li_11, li_12, li_13, li_15, li_16, li_18, li_20, li_24, li_31, li_32, li_40, li_46, li_48, li_57, li_59, li_60, li_61, li_63, li_64, li_97, li_99, li_122, li_124, li_150, li_255, li_480, li_488, li_600, li_999, li_1110, li_54]
  refine ⟨fun h => ?_, fun h => H1 (by omega)⟩
  refine c_append hT (by omega) (fun τ1 f1 k1 t1 => c_append t1 (by omega) (fun τ2 f2 k2 t2 => c_append t2 (by omega) (fun τ3 f3 k3 t3 => c_append t3 (by omega) (fun τ4 f4 k4 t4 => c_append t4 (by omega) (fun τ5 f5 k5 t5 => ?_)))))
  rw [t5.2.1]
  exact H0 (by omega) τ5 ((((f1.tr f2).tr f3).tr f4).tr f5) (fun k hk => (k5 k hk).trans ((k4 k hk).trans ((k3 k hk).trans ((k2 k hk).trans (k1 k hk))))) t5
theorem c_truncate {n : Nat} {f : Nat → Nat} (hT : TxC σ n f) {x : Int} (hx : I32 x) (H0 : ∀ i : Nat, x = i → i ≤ n → ∀ τ, FrP pT σ τ → (∀ k, k ≠ 1 → τ.1 1 k = σ.1 1 k) → TxC τ i f → K (iI i) τ) (H1 : ¬ (0 ≤ x ∧ x ≤ n) → X xA σ) : CT g l M_X6_truncate 1 [.ref (zad g 0), .int (iI x)] σ (zQi K X) := by
  have hn := hT.1
  refine b_X6_truncate ?_
  rw [hT.2.1]
  simp (disch := omega) only [li_0, iI_lt, iI_le]
  refine ⟨fun h => H1 (by omega), fun h => ⟨fun h2 σ3 e3 => ?_, fun h2 => H1 (by omega)⟩⟩
  obtain ⟨i, rfl, hi⟩ := nat_of (n := n + 1) (show 0 ≤ x ∧ x < ((n + 1 : Nat) : Int) by omega)
  have z1 : σ3.1 1 = upd (σ.1 1) 1 (iI i) := by rw [e3, zpt_at]
  have f3 : FrP pT σ σ3 := by
    rw [e3]
    exact (FrP.rf pT σ).up (Or.inl rfl) _
  refine H0 i rfl (by omega) σ3 f3 (fun k hk => by rw [z1, pk_un hk]) ⟨by omega, by rw [z1, pk_us], fun j hj => ?_⟩
  rw [e3, zpt_ne (by decide)]
  exact hT.2.2 j (by omega)
end ZCU
