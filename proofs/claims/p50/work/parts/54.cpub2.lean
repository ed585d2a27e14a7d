/-! settings, numbers of a slat, light, meanRight: the class and the reference -/
section ZCS
variable {g : zG} {l : Launch} {X : String → zS → Prop} {m : Nat → Int32} {σ : zS}
def sp10 (b0 b1 b2 b3 b4 b5 b6 b7 b8 b9 : Bool) : Int32 := nI (b0.toNat + 2 * b1.toNat + 4 * b2.toNat + 8 * b3.toNat + 16 * b4.toNat + 32 * b5.toNat + 64 * b6.toNat + 128 * b7.toNat + 256 * b8.toNat + 512 * b9.toNat)
theorem sp10_bt : ∀ b0 b1 b2 b3 b4 b5 b6 b7 b8 b9 : Bool, ∀ i, i < 32 → bt (sp10 b0 b1 b2 b3 b4 b5 b6 b7 b8 b9) i = [b0, b1, b2, b3, b4, b5, b6, b7, b8, b9].getD i false := by decide +kernel
theorem sp10_bc : ∀ b0 b1 b2 b3 b4 b5 b6 b7 b8 b9 : Bool, bcF (sp10 b0 b1 b2 b3 b4 b5 b6 b7 b8 b9) = nI (b0.toNat + b1.toNat + b2.toNat + b3.toNat + b4.toNat + b5.toNat + b6.toNat + b7.toNat + b8.toNat + b9.toNat) := by decide +kernel
theorem bc_ten {x : Int32} {p : Nat → Bool} (h : ∀ i, i < 32 → bt x i = (decide (i < 10) && p i)) : bcF x = nI (fb_ct p 10) := by
  have e : x = sp10 (p 0) (p 1) (p 2) (p 3) (p 4) (p 5) (p 6) (p 7) (p 8) (p 9) := by
    apply b_ext
    intro i hi
    rw [h i hi, sp10_bt _ _ _ _ _ _ _ _ _ _ i hi]
    match i, hi with
    | 0, _ => rfl
    | 1, _ => rfl
    | 2, _ => rfl
    | 3, _ => rfl
    | 4, _ => rfl
    | 5, _ => rfl
    | 6, _ => rfl
    | 7, _ => rfl
    | 8, _ => rfl
    | 9, _ => rfl
    | n + 10, _ => simp; omega
  have e2 : ∀ b : Bool, b.toNat = if b then 1 else 0 := fun b => by cases b <;> rfl
  rw [e, sp10_bc]
  congr 1
  simp only [fb_ct, e2, Nat.zero_add]
theorem tied_bc (hw : WF m) {x : Int32} (h : ∀ k, k < 32 → bt x k = decide (k < nS m ∧ td m k = 1)) : bcF x = iI (tiedMany m) := by
  have hb := wf_b hw
  rw [bc_ten (p := fun k => decide (k < nS m ∧ td m k = 1)) (fun i hi => ?_)]
  · congr 1
    have e := fb_ct_split (fun k => decide (k < nS m ∧ td m k = 1)) (nS m) (10 - nS m)
    rw [show nS m + (10 - nS m) = 10 by omega, (fb_ct_zero (p := fun k => decide (nS m + k < nS m ∧ td m (nS m + k) = 1)) (n := 10 - nS m)).mpr (fun k _ => decide_eq_false (fun q => by omega))] at e
    have e3 : ∀ n, n ≤ nS m → fb_ct (fun k => decide (k < nS m ∧ td m k = 1)) n = fb_sm (td m) n := fun n => by
      induction n with
      | zero => intro _; rfl
      | succ n ih =>
        intro hn
        have := wf_s hw (k := n) (by omega)
        rw [fb_ct_succ, fb_sm_succ, ih (by omega)]
        congr 1
        by_cases q : td m n = 1
        · rw [if_pos (decide_eq_true ⟨by omega, q⟩), q]
        · rw [if_neg (fun x => q (of_decide_eq_true x).2)]; omega
    rw [e, e3 _ (Nat.le_refl _)]
    rfl
  · rw [h i hi]
    by_cases q : i < 10
    · simp [q]
    · simp [q]; omega
theorem c_setting {K : Int32 → zS → Prop} (hN : Nw σ m) (hw : WF m) {z u : Int} (hz : I32 z) (hu : σ.1 16 1 = iI u) (H1 : 0 ≤ z ∧ z ≤ 9 → K (iI (setN m u z)) σ) (H0 : ¬ (0 ≤ z ∧ z ≤ 9) → X xA σ) : CT g l M_X6_setting 1 [.ref (zad g 0), .int (iI z)] σ (zQi K X) := by
  refine b_X6_setting ?_
  try simp (disch := omega) only [iI_add, iI_sub, iI_mul, iI_neg, iI_n, iI_lt, iI_le, iI_eq, iI_tn, iI_ti, bI_0, bI_1, iI_L, iL_0, Decidable.not_not, Int.toNat_natCast, zpt_at, zpt_ne, pk_us, pk_un, forall_eq, tn_0, tn_1, tn_2, tn_3, tn_4, tn_5, ni_1, ni_2, ni_3, ni_4, ni_5, not_false_eq_true, not_true_eq_false, true_implies, false_implies, and_true, true_and, iL_6, iL_m6, iL_7, iL_8, iL_9, iL_4, iL_m4, iL_m8, li_0, li_1, li_2, li_3, li_4, li_5, li_6, li_7, li_8, li_9, li_10, li_11, li_12, li_13, li_15, li_16, li_18, li_20, li_24, li_31, li_32, li_40, li_46, li_48, li_57, li_59, li_60, li_61, li_63, li_64, li_97, li_99, li_122, li_124, li_150, li_255, li_480, li_488, li_600, li_999, li_1110, li_54]
  rw [hN.1.1, hN.1.2.1, hN.1.2.2.1, hN.1.2.2.2.1, hN.1.2.2.2.2.1, hN.1.2.2.2.2.2.1, hu]
  unfold setN at H1
  refine ⟨fun e => H0 (by omega), fun e => ?_, fun e => ?_, fun e => ?_, fun e => ?_, fun e => ?_, fun e => ?_, fun e => ?_, fun e => ?_, fun e => ?_, fun e => ?_⟩
  · subst e; exact H1 (by decide)
  · subst e; exact H1 (by decide)
  · subst e; exact H1 (by decide)
  · subst e; exact H1 (by decide)
  · subst e; exact H1 (by decide)
  · subst e; exact H1 (by decide)
  · subst e
    refine c_bitCount ?_
    rw [tied_bc hw hN.1.2.2.2.2.2.2.1]
    exact H1 (by decide)
  · subst e; exact c_coveringSeams zB_73 hN.1 hN.2 hw (H1 (by decide))
  · subst e; exact c_openingSeams zB_73 hN.1 hN.2 hw (H1 (by decide))
  · subst e; exact H1 (by decide)
theorem c_slat {K : Int32 → zS → Prop} (hN : Nw σ m) (hw : WF m) {x z : Int} (hx : I32 x) (hz : I32 z) (H0 : ∀ k : Nat, x = k → k < nS m → 0 ≤ z ∧ z ≤ 7 → K (iI (slN m k z)) σ) (H1 : ¬ (0 ≤ x ∧ x < nS m) → X xI σ) (H2 : 0 ≤ x ∧ x < nS m → ¬ (0 ≤ z ∧ z ≤ 7) → X xA σ) : CT g l M_X6_slat 2 [.ref (zad g 0), .int (iI x), .int (iI z)] σ (zQi K X) := by
  have hb := wf_b hw
  refine b_X6_slat (c_hasSlat zB_73 hN.1 hw hx ?_)
  try simp (disch := omega) only [iI_add, iI_sub, iI_mul, iI_neg, iI_n, iI_lt, iI_le, iI_eq, iI_tn, iI_ti, bI_0, bI_1, iI_L, iL_0, Decidable.not_not, Int.toNat_natCast, zpt_at, zpt_ne, pk_us, pk_un, forall_eq, tn_0, tn_1, tn_2, tn_3, tn_4, tn_5, ni_1, ni_2, ni_3, ni_4, ni_5, not_false_eq_true, not_true_eq_false, true_implies, false_implies, and_true, true_and, iL_6, iL_m6, iL_7, iL_8, iL_9, iL_4, iL_m4, iL_m8, li_0, li_1, li_2, li_3, li_4, li_5, li_6, li_7, li_8, li_9, li_10, li_11, li_12, li_13, li_15, li_16, li_18, li_20, li_24, li_31, li_32, li_40, li_46, li_48, li_57, li_59, li_60, li_61, li_63, li_64, li_97, li_99, li_122, li_124, li_150, li_255, li_480, li_488, li_600, li_999, li_1110, li_54]
  refine ⟨fun h => c_refuse1 (H1 h), fun h => c_refuse0 ?_⟩
  obtain ⟨k, rfl, hk⟩ := nat_of h
  have hr := hN.1.2.2.2.2.2.2.2.1 k hk
  have hs := wf_s hw hk
  have c0 : σ.1 (73 + 4) k = iI (ct m k 0) := hr.2.2 0 (by decide)
  have c1 : σ.1 (73 + 5) k = iI (ct m k 1) := hr.2.2 1 (by decide)
  have h10 := in10 hk hb.2.2.1
  replace H0 := H0 k rfl hk
  unfold slN at H0
  rw [tnk hk (by omega), hr.1, hr.2.1, hN.2 k hk, c0, c1]
  refine ⟨fun e => H2 h (by omega), fun e => ⟨h10, ?_⟩, fun e => ⟨h10, ?_⟩, fun e => ⟨h10, ?_⟩, fun e => ?_, fun e => ⟨h10, ?_⟩, fun e => ⟨h10, ?_⟩, fun e => ?_, fun e => ?_⟩
  · subst e; exact H0 (by decide)
  · subst e; exact H0 (by decide)
  · subst e; exact H0 (by decide)
  · subst e
    refine c_isTied zB_73 hN.1 hw hk ?_
    replace H0 := H0 (by decide)
    try simp (disch := omega) only [iI_add, iI_sub, iI_mul, iI_neg, iI_n, iI_lt, iI_le, iI_eq, iI_tn, iI_ti, bI_0, bI_1, iI_L, iL_0, Decidable.not_not, Int.toNat_natCast, zpt_at, zpt_ne, pk_us, pk_un, forall_eq, tn_0, tn_1, tn_2, tn_3, tn_4, tn_5, ni_1, ni_2, ni_3, ni_4, ni_5, not_false_eq_true, not_true_eq_false, true_implies, false_implies, and_true, true_and, iL_6, iL_m6, iL_7, iL_8, iL_9, iL_4, iL_m4, iL_m8, li_0, li_1, li_2, li_3, li_4, li_5, li_6, li_7, li_8, li_9, li_10, li_11, li_12, li_13, li_15, li_16, li_18, li_20, li_24, li_31, li_32, li_40, li_46, li_48, li_57, li_59, li_60, li_61, li_63, li_64, li_97, li_99, li_122, li_124, li_150, li_255, li_480, li_488, li_600, li_999, li_1110, li_54]
    refine ⟨fun h => ?_, fun h => ?_⟩
    · rw [h] at H0; exact H0
    · rw [show td m k = 1 by omega] at H0; exact H0
  · subst e; exact H0 (by decide)
  · subst e; exact H0 (by decide)
  · subst e; exact c_unlikePicture (s := 0) zB_73 hN.1 hw hk (by decide) (H0 (by decide))
  · subst e; exact c_unlikePicture (s := 1) zB_73 hN.1 hw hk (by decide) (H0 (by decide))
theorem n32_of {r : UInt32} (h : r.toNat % 2 ^ 31 < 255 * 2 ^ 23) : vf_n32 r := by
  unfold vf_n32
  rw [UInt32.le_iff_toNat_le, Jvm.FP.Core.mask_toNat32]
  show _ ≤ 2139095040
  omega
theorem n64_of {r : UInt64} (h : r.toNat % 2 ^ 63 < 2047 * 2 ^ 52) : vf_n64 r := by
  unfold vf_n64
  rw [UInt64.le_iff_toNat_le, Jvm.FP.Core.mask_toNat]
  show _ ≤ 9218868437227405312
  omega
def ltN (m : Nat → Int32) (a : Int) : UInt32 := if cols m = 0 then FP.fconst0 else FP.fdiv (FP.i2f (iI (opN m a))) (FP.i2f (iI (cols m * nH m : Nat)))
theorem lt_mag (x : Int32) {c : Int} (h0 : 0 < c) (h1 : c < 2147483648) : (FP.fdiv (FP.i2f x) (FP.i2f (iI c))).toNat % 2 ^ 31 < 161 * 2 ^ 23 := by
  have h2 := Jvm.FP.Core.i2f_big (v := iI c) (by rw [iI_ti (by omega) h1]; omega)
  have := Jvm.FP.Core.fdiv_mag (a := FP.i2f x) (b := FP.i2f (iI c)) (K := 160) (L := 127) (Jvm.FP.Core.i2f_mag x) h2.1 h2.2 (by decide) (by decide)
  exact this
theorem c_light {K : UInt32 → zS → Prop} (hN : Nw σ m) (hw : WF m) {a : Int} (ha : I32 a) (H0 : (-6 ≤ a ∧ a ≤ 6) → ∀ τ, FrL LV σ τ → K (ltN m a) τ) (H1 : ¬ (-6 ≤ a ∧ a ≤ 6) → X xA σ) : CT g l M_X6_light 1 [.ref (zad g 0), .int (iI a)] σ (zQf K X) := by
  have hb := wf_b hw
  have hce := cells_le hw
  refine b_X6_light (c_angle ha (fun h => c_refuse0 (c_cells zB_73 hN.1 ?_)) (fun h => c_refuse2 (H1 h)))
  replace H0 := H0 h
  unfold ltN at H0
  have hz : cols m = 0 → cols m * nH m = 0 := fun q => by rw [q, Nat.zero_mul]
  have hp : cols m ≠ 0 → 0 < cols m * nH m := fun q => Nat.mul_pos (by omega) (by omega)
  try simp (disch := omega) only [iI_add, iI_sub, iI_mul, iI_neg, iI_n, iI_lt, iI_le, iI_eq, iI_tn, iI_ti, bI_0, bI_1, iI_L, iL_0, Decidable.not_not, Int.toNat_natCast, zpt_at, zpt_ne, pk_us, pk_un, forall_eq, tn_0, tn_1, tn_2, tn_3, tn_4, tn_5, ni_1, ni_2, ni_3, ni_4, ni_5, not_false_eq_true, not_true_eq_false, true_implies, false_implies, and_true, true_and, iL_6, iL_m6, iL_7, iL_8, iL_9, iL_4, iL_m4, iL_m8, li_0, li_1, li_2, li_3, li_4, li_5, li_6, li_7, li_8, li_9, li_10, li_11, li_12, li_13, li_15, li_16, li_18, li_20, li_24, li_31, li_32, li_40, li_46, li_48, li_57, li_59, li_60, li_61, li_63, li_64, li_97, li_99, li_122, li_124, li_150, li_255, li_480, li_488, li_600, li_999, li_1110, li_54]
  refine ⟨fun h2 => c_openFrom hN hw h (fun τ hF _ => ?_), fun h2 => ?_⟩
  · have := H0 τ hF
    rw [if_neg (fun q => by have := hz q; omega)] at this
    refine ⟨n32_of ?_, this⟩
    have := lt_mag (iI (opN m a : Int)) (c := (cols m * nH m : Nat)) (by omega) (by omega)
    omega
  · have := H0 σ (FrL.rf _ _)
    by_cases q : cols m = 0
    · rw [if_pos q] at this; exact this
    · have := hp q; omega
noncomputable def mrS (m : Nat → Int32) (s n : Nat) : Nat := fb_sm (fun j => rgt m (-6 + (j : Int)) s) n
noncomputable def mrN (m : Nat → Int32) (s : Nat) : UInt64 := FP.ddiv (FP.i2d (iI (mrS m s 13))) (4623507967449235456 : UInt64)
theorem mr_n (x : Int32) : vf_n64 (FP.ddiv (FP.i2d x) (4623507967449235456 : UInt64)) := by
  have := Jvm.FP.Core.ddiv_mag (a := FP.i2d x) (b := (4623507967449235456 : UInt64)) (K := 1056) (L := 1026) (Jvm.FP.Core.i2d_mag x) (by decide +kernel) (by decide +kernel) (by decide) (by decide)
  refine n64_of (Nat.lt_of_lt_of_le this ?_)
  decide +kernel
end ZCS

