/-! the class's own state beside the reference's row: what a blind holds of it, what a view shows of it -/
/-- the colours of a column -/
def Cl (x : Int32) (h : Nat) (f : Nat → Nat) : Prop := ∀ r, r < 8 → nib x r = if r < h then f r else 0
/-- a blind beside a row, its turns left out -/
def R0 (σ : zS) (o : Nat) (m : Nat → Int32) : Prop :=
  σ.1 o 0 = iI (nH m) ∧ σ.1 o 1 = iI (nC m) ∧ σ.1 o 2 = iI (nS m) ∧ σ.1 o 3 = iI (cols m) ∧ σ.1 o 4 = iI (boxesOf m 0) ∧ σ.1 o 5 = iI (boxesOf m 1) ∧
  (∀ k, k < 32 → bt (σ.1 o 6) k = decide (k < nS m ∧ td m k = 1)) ∧
  (∀ k, k < nS m → σ.1 (o + 1) k = iI (wd m k) ∧ σ.1 (o + 2) k = iI (fst m k) ∧ ∀ s, s < 2 → σ.1 (o + 4 + s) k = iI (ct m k s)) ∧
  (∀ c, c < cols m → ∀ s, s < 2 → Cl (σ.1 (o + 6 + s) c) (nH m) (pic m s c) ∧ Cl (σ.1 (o + 8 + s) c) (nH m) (fc m s c))
def RT (σ : zS) (a : Nat) (m : Nat → Int32) : Prop := ∀ k, k < nS m → σ.1 a k = iI (tu m k)
/-- what the view shows -/
def Vw (σ : zS) (m : Nat → Int32) (a : Int) : Prop := ∀ c, c < cols m → σ.1 19 c = iI (stt m a c) ∧ Cl (σ.1 20 c) (nH m) (cS m a c) ∧ σ.1 21 c = iI (sdS m a c)
/-- only some objects have other ints -/
def FrL (L : List Nat) (σ τ : zS) : Prop := (∀ b, ¬ b ∈ L → τ.1 b = σ.1 b) ∧ τ.2 = σ.2
theorem FrL.rf (L : List Nat) (σ : zS) : FrL L σ σ := ⟨fun _ _ => rfl, rfl⟩
theorem FrL.tr {L : List Nat} {σ τ υ : zS} (h : FrL L σ τ) (h' : FrL L τ υ) : FrL L σ υ := ⟨fun b hb => (h'.1 b hb).trans (h.1 b hb), h'.2.trans h.2⟩
theorem FrL.up {L : List Nat} {σ τ : zS} (h : FrL L σ τ) {o : Nat} (ho : o ∈ L) (f : Nat → Int32) : FrL L σ (zpt τ o f) := ⟨fun b hb => (zpt_ne (a := b) (o := o) (fun e => hb (e.symm ▸ ho))).trans (h.1 b hb), h.2⟩
theorem FrL.sub {L L' : List Nat} {σ τ : zS} (h : FrL L σ τ) (hs : ∀ b, b ∈ L → b ∈ L') : FrL L' σ τ := ⟨fun b hb => h.1 b (fun q => hb (hs b q)), h.2⟩
theorem R0.fr {σ τ : zS} {o : Nat} {m : Nat → Int32} (h : R0 σ o m) (hf : ∀ j, j ≤ 9 → τ.1 (o + j) = σ.1 (o + j)) : R0 τ o m := by
  have h0 := hf 0 (by omega); have h1 := hf 1 (by omega); have h2 := hf 2 (by omega)
  simp only [Nat.add_zero] at h0
  unfold R0
  rw [h0, h1, h2]
  refine ⟨h.1, h.2.1, h.2.2.1, h.2.2.2.1, h.2.2.2.2.1, h.2.2.2.2.2.1, h.2.2.2.2.2.2.1, fun k hk => ?_, fun c hc s hs => ?_⟩
  · obtain ⟨a, b, c⟩ := h.2.2.2.2.2.2.2.1 k hk
    refine ⟨a, b, fun s hs => ?_⟩
    rw [show o + 4 + s = o + (4 + s) by omega, hf (4 + s) (by omega), show o + (4 + s) = o + 4 + s by omega]
    exact c s hs
  · obtain ⟨a, b⟩ := h.2.2.2.2.2.2.2.2 c hc s hs
    rw [show o + 6 + s = o + (6 + s) by omega, show o + 8 + s = o + (8 + s) by omega, hf (6 + s) (by omega), hf (8 + s) (by omega), show o + (6 + s) = o + 6 + s by omega, show o + (8 + s) = o + 8 + s by omega]
    exact ⟨a, b⟩
theorem Vw.fr {σ τ : zS} {m : Nat → Int32} {a : Int} (h : Vw σ m a) (h1 : τ.1 19 = σ.1 19) (h2 : τ.1 20 = σ.1 20) (h3 : τ.1 21 = σ.1 21) : Vw τ m a := by
  unfold Vw; rw [h1, h2, h3]; exact h
section ZCR
variable {g : zG} {l : Launch} {X : String → zS → Prop} {σ : zS} {m : Nat → Int32}
theorem c_hasSlat {K : Int32 → zS → Prop} {o : Nat} (hb : zB o) (hR : R0 σ o m) (hw : WF m) {z : Int} (hz : I32 z) (H : K (bI (0 ≤ z ∧ z < nS m)) σ) : CT g l M_X0_hasSlat 0 [.ref (zad g o), .int (iI z)] σ (zQi K X) := by
  have hb' := wf_b hw
  refine b_X0_hasSlat hb ?_
  rw [hR.2.2.1]
  try simp (disch := omega) only [iI_add, iI_sub, iI_mul, iI_neg, iI_n, iI_lt, iI_le, iI_eq, iI_tn, iI_ti, bI_0, bI_1, iI_L, iL_0, Decidable.not_not, Int.toNat_natCast, zpt_at, zpt_ne, pk_us, pk_un, forall_eq, tn_0, tn_1, tn_2, tn_3, tn_4, tn_5, ni_1, ni_2, ni_3, ni_4, ni_5, not_false_eq_true, not_true_eq_false, true_implies, false_implies, and_true, true_and, iL_6, iL_m6, iL_7, iL_8, iL_9, iL_4, iL_m4, iL_m8, li_0, li_1, li_2, li_3, li_4, li_5, li_6, li_7, li_8, li_9, li_10, li_11, li_12, li_13, li_15, li_16, li_18, li_20, li_24, li_31, li_32, li_40, li_46, li_48, li_57, li_59, li_60, li_61, li_63, li_64, li_97, li_99, li_122, li_124, li_150, li_255, li_480, li_488, li_600, li_999, li_1110, li_54]
  refine ⟨fun h => ?_, fun h => ⟨fun h' => ?_, fun h' => ?_⟩⟩
  · rw [bI_F (by omega)] at H; exact H
  · rw [bI_F (by omega)] at H; exact H
  · rw [bI_T (by omega)] at H; exact H
theorem c_hasColumn {K : Int32 → zS → Prop} {o : Nat} (hb : zB o) (hR : R0 σ o m) (hw : WF m) {z : Int} (hz : I32 z) (H : K (bI (0 ≤ z ∧ z < cols m)) σ) : CT g l M_X0_hasColumn 0 [.ref (zad g o), .int (iI z)] σ (zQi K X) := by
  have hb' := cols_le hw
  refine b_X0_hasColumn hb ?_
  rw [hR.2.2.2.1]
  try simp (disch := omega) only [iI_add, iI_sub, iI_mul, iI_neg, iI_n, iI_lt, iI_le, iI_eq, iI_tn, iI_ti, bI_0, bI_1, iI_L, iL_0, Decidable.not_not, Int.toNat_natCast, zpt_at, zpt_ne, pk_us, pk_un, forall_eq, tn_0, tn_1, tn_2, tn_3, tn_4, tn_5, ni_1, ni_2, ni_3, ni_4, ni_5, not_false_eq_true, not_true_eq_false, true_implies, false_implies, and_true, true_and, iL_6, iL_m6, iL_7, iL_8, iL_9, iL_4, iL_m4, iL_m8, li_0, li_1, li_2, li_3, li_4, li_5, li_6, li_7, li_8, li_9, li_10, li_11, li_12, li_13, li_15, li_16, li_18, li_20, li_24, li_31, li_32, li_40, li_46, li_48, li_57, li_59, li_60, li_61, li_63, li_64, li_97, li_99, li_122, li_124, li_150, li_255, li_480, li_488, li_600, li_999, li_1110, li_54]
  refine ⟨fun h => ?_, fun h => ⟨fun h' => ?_, fun h' => ?_⟩⟩
  · rw [bI_F (by omega)] at H; exact H
  · rw [bI_F (by omega)] at H; exact H
  · rw [bI_T (by omega)] at H; exact H
theorem c_hasRow {K : Int32 → zS → Prop} {o : Nat} (hb : zB o) (hR : R0 σ o m) (hw : WF m) {z : Int} (hz : I32 z) (H : K (bI (0 ≤ z ∧ z < nH m)) σ) : CT g l M_X0_hasRow 0 [.ref (zad g o), .int (iI z)] σ (zQi K X) := by
  have hb' := wf_b hw
  refine b_X0_hasRow hb ?_
  rw [hR.1]
  try simp (disch := omega) only [iI_add, iI_sub, iI_mul, iI_neg, iI_n, iI_lt, iI_le, iI_eq, iI_tn, iI_ti, bI_0, bI_1, iI_L, iL_0, Decidable.not_not, Int.toNat_natCast, zpt_at, zpt_ne, pk_us, pk_un, forall_eq, tn_0, tn_1, tn_2, tn_3, tn_4, tn_5, ni_1, ni_2, ni_3, ni_4, ni_5, not_false_eq_true, not_true_eq_false, true_implies, false_implies, and_true, true_and, iL_6, iL_m6, iL_7, iL_8, iL_9, iL_4, iL_m4, iL_m8, li_0, li_1, li_2, li_3, li_4, li_5, li_6, li_7, li_8, li_9, li_10, li_11, li_12, li_13, li_15, li_16, li_18, li_20, li_24, li_31, li_32, li_40, li_46, li_48, li_57, li_59, li_60, li_61, li_63, li_64, li_97, li_99, li_122, li_124, li_150, li_255, li_480, li_488, li_600, li_999, li_1110, li_54]
  refine ⟨fun h => ?_, fun h => ⟨fun h' => ?_, fun h' => ?_⟩⟩
  · rw [bI_F (by omega)] at H; exact H
  · rw [bI_F (by omega)] at H; exact H
  · rw [bI_T (by omega)] at H; exact H
theorem c_hasCell {K : Int32 → zS → Prop} {o : Nat} (hb : zB o) (hR : R0 σ o m) (hw : WF m) {x y : Int} (hx : I32 x) (hy : I32 y) (H : K (bI ((0 ≤ x ∧ x < cols m) ∧ (0 ≤ y ∧ y < nH m))) σ) : CT g l M_X0_hasCell 0 [.ref (zad g o), .int (iI x), .int (iI y)] σ (zQi K X) := by
  refine b_X0_hasCell hb (c_hasColumn hb hR hw hx ?_)
  try simp (disch := omega) only [iI_add, iI_sub, iI_mul, iI_neg, iI_n, iI_lt, iI_le, iI_eq, iI_tn, iI_ti, bI_0, bI_1, iI_L, iL_0, Decidable.not_not, Int.toNat_natCast, zpt_at, zpt_ne, pk_us, pk_un, forall_eq, tn_0, tn_1, tn_2, tn_3, tn_4, tn_5, ni_1, ni_2, ni_3, ni_4, ni_5, not_false_eq_true, not_true_eq_false, true_implies, false_implies, and_true, true_and, iL_6, iL_m6, iL_7, iL_8, iL_9, iL_4, iL_m4, iL_m8, li_0, li_1, li_2, li_3, li_4, li_5, li_6, li_7, li_8, li_9, li_10, li_11, li_12, li_13, li_15, li_16, li_18, li_20, li_24, li_31, li_32, li_40, li_46, li_48, li_57, li_59, li_60, li_61, li_63, li_64, li_97, li_99, li_122, li_124, li_150, li_255, li_480, li_488, li_600, li_999, li_1110, li_54]
  refine ⟨fun h => ?_, fun h => c_hasRow hb hR hw hy ?_⟩
  · rw [bI_F (fun q => h q.1)] at H; exact H
  · try simp (disch := omega) only [iI_add, iI_sub, iI_mul, iI_neg, iI_n, iI_lt, iI_le, iI_eq, iI_tn, iI_ti, bI_0, bI_1, iI_L, iL_0, Decidable.not_not, Int.toNat_natCast, zpt_at, zpt_ne, pk_us, pk_un, forall_eq, tn_0, tn_1, tn_2, tn_3, tn_4, tn_5, ni_1, ni_2, ni_3, ni_4, ni_5, not_false_eq_true, not_true_eq_false, true_implies, false_implies, and_true, true_and, iL_6, iL_m6, iL_7, iL_8, iL_9, iL_4, iL_m4, iL_m8, li_0, li_1, li_2, li_3, li_4, li_5, li_6, li_7, li_8, li_9, li_10, li_11, li_12, li_13, li_15, li_16, li_18, li_20, li_24, li_31, li_32, li_40, li_46, li_48, li_57, li_59, li_60, li_61, li_63, li_64, li_97, li_99, li_122, li_124, li_150, li_255, li_480, li_488, li_600, li_999, li_1110, li_54]
    refine ⟨fun h' => ?_, fun h' => ?_⟩
    · rw [bI_F (fun q => h' q.2)] at H; exact H
    · rw [bI_T ⟨h, h'⟩] at H; exact H
theorem in10 {k n : Nat} (h : k < n) (hn : n ≤ 10) : vp_in (iI (k : Int)) 10 := iI_in (by omega) (by omega) (by omega)
theorem in60 {k n : Nat} (h : k < n) (hn : n ≤ 60) : vp_in (iI (k : Int)) 60 := iI_in (by omega) (by omega) (by omega)
theorem c_hasFaceCell {K : Int32 → zS → Prop} {o : Nat} (hb : zB o) (hR : R0 σ o m) (hw : WF m) {z x y : Int} (hz : I32 z) (hx : I32 x) (hy : I32 y) (H : K (bI ((0 ≤ z ∧ z < nS m) ∧ (0 ≤ x ∧ x < wd m z.toNat) ∧ (0 ≤ y ∧ y < nH m))) σ) : CT g l M_X0_hasFaceCell 0 [.ref (zad g o), .int (iI z), .int (iI x), .int (iI y)] σ (zQi K X) := by
  have hb' := wf_b hw
  refine b_X0_hasFaceCell hb (c_hasSlat hb hR hw hz ?_)
  try simp (disch := omega) only [iI_add, iI_sub, iI_mul, iI_neg, iI_n, iI_lt, iI_le, iI_eq, iI_tn, iI_ti, bI_0, bI_1, iI_L, iL_0, Decidable.not_not, Int.toNat_natCast, zpt_at, zpt_ne, pk_us, pk_un, forall_eq, tn_0, tn_1, tn_2, tn_3, tn_4, tn_5, ni_1, ni_2, ni_3, ni_4, ni_5, not_false_eq_true, not_true_eq_false, true_implies, false_implies, and_true, true_and, iL_6, iL_m6, iL_7, iL_8, iL_9, iL_4, iL_m4, iL_m8, li_0, li_1, li_2, li_3, li_4, li_5, li_6, li_7, li_8, li_9, li_10, li_11, li_12, li_13, li_15, li_16, li_18, li_20, li_24, li_31, li_32, li_40, li_46, li_48, li_57, li_59, li_60, li_61, li_63, li_64, li_97, li_99, li_122, li_124, li_150, li_255, li_480, li_488, li_600, li_999, li_1110, li_54]
  refine ⟨fun h => ?_, fun h => ⟨fun h' => ?_, fun h' => ?_⟩⟩
  · rw [bI_F (fun q => h q.1)] at H; exact H
  · rw [bI_F (by omega)] at H; exact H
  · obtain ⟨k, rfl, hk⟩ := nat_of h
    have hs := wf_s hw hk
    rw [Int.toNat_natCast] at H
    refine ⟨in10 hk hb'.2.2.1, ?_⟩
    try simp (disch := omega) only [iI_add, iI_sub, iI_mul, iI_neg, iI_n, iI_lt, iI_le, iI_eq, iI_tn, iI_ti, bI_0, bI_1, iI_L, iL_0, Decidable.not_not, Int.toNat_natCast, zpt_at, zpt_ne, pk_us, pk_un, forall_eq, tn_0, tn_1, tn_2, tn_3, tn_4, tn_5, ni_1, ni_2, ni_3, ni_4, ni_5, not_false_eq_true, not_true_eq_false, true_implies, false_implies, and_true, true_and, iL_6, iL_m6, iL_7, iL_8, iL_9, iL_4, iL_m4, iL_m8, li_0, li_1, li_2, li_3, li_4, li_5, li_6, li_7, li_8, li_9, li_10, li_11, li_12, li_13, li_15, li_16, li_18, li_20, li_24, li_31, li_32, li_40, li_46, li_48, li_57, li_59, li_60, li_61, li_63, li_64, li_97, li_99, li_122, li_124, li_150, li_255, li_480, li_488, li_600, li_999, li_1110, li_54]
    rw [(hR.2.2.2.2.2.2.2.1 k hk).1]
    try simp (disch := omega) only [iI_add, iI_sub, iI_mul, iI_neg, iI_n, iI_lt, iI_le, iI_eq, iI_tn, iI_ti, bI_0, bI_1, iI_L, iL_0, Decidable.not_not, Int.toNat_natCast, zpt_at, zpt_ne, pk_us, pk_un, forall_eq, tn_0, tn_1, tn_2, tn_3, tn_4, tn_5, ni_1, ni_2, ni_3, ni_4, ni_5, not_false_eq_true, not_true_eq_false, true_implies, false_implies, and_true, true_and, iL_6, iL_m6, iL_7, iL_8, iL_9, iL_4, iL_m4, iL_m8, li_0, li_1, li_2, li_3, li_4, li_5, li_6, li_7, li_8, li_9, li_10, li_11, li_12, li_13, li_15, li_16, li_18, li_20, li_24, li_31, li_32, li_40, li_46, li_48, li_57, li_59, li_60, li_61, li_63, li_64, li_97, li_99, li_122, li_124, li_150, li_255, li_480, li_488, li_600, li_999, li_1110, li_54]
    refine ⟨fun h2 => ?_, fun h2 => c_hasRow hb hR hw hy ?_⟩
    · rw [bI_F (by omega)] at H; exact H
    · try simp (disch := omega) only [iI_add, iI_sub, iI_mul, iI_neg, iI_n, iI_lt, iI_le, iI_eq, iI_tn, iI_ti, bI_0, bI_1, iI_L, iL_0, Decidable.not_not, Int.toNat_natCast, zpt_at, zpt_ne, pk_us, pk_un, forall_eq, tn_0, tn_1, tn_2, tn_3, tn_4, tn_5, ni_1, ni_2, ni_3, ni_4, ni_5, not_false_eq_true, not_true_eq_false, true_implies, false_implies, and_true, true_and, iL_6, iL_m6, iL_7, iL_8, iL_9, iL_4, iL_m4, iL_m8, li_0, li_1, li_2, li_3, li_4, li_5, li_6, li_7, li_8, li_9, li_10, li_11, li_12, li_13, li_15, li_16, li_18, li_20, li_24, li_31, li_32, li_40, li_46, li_48, li_57, li_59, li_60, li_61, li_63, li_64, li_97, li_99, li_122, li_124, li_150, li_255, li_480, li_488, li_600, li_999, li_1110, li_54]
      refine ⟨fun h3 => ?_, fun h3 => ?_⟩
      · rw [bI_F (by omega)] at H; exact H
      · rw [bI_T (by omega)] at H; exact H
theorem c_cells {K : Int32 → zS → Prop} {o : Nat} (hb : zB o) (hR : R0 σ o m) (H : K (iI (cols m * nH m : Nat)) σ) : CT g l M_X0_cells 0 [.ref (zad g o)] σ (zQi K X) := by
  refine b_X0_cells hb ?_
  rw [hR.1, hR.2.2.2.1, iI_mul]
  exact H
theorem c_slatWith_2 {K : Int32 → zS → Prop} {o : Nat} (hb : zB o) (hR : R0 σ o m) (hw : WF m) {c : Nat} (hc : c < cols m) (H : K (iI (slatOf m c)) σ) (k : Nat) (hk : k ≤ slatOf m c) : L_X0_slatWith_2 g l K X o (iI c) (iI k) σ := by
  have hb' := wf_b hw
  have hcl := cols_le hw
  have hy := slat_yes hc
  have hs := wf_s hw (k := k) (by omega)
  have hfl := fst_le hw (k := k) (by omega)
  have hr := hR.2.2.2.2.2.2.2.1 k (by omega)
  have ih := fun h => c_slatWith_2 hb hR hw hc H (k + 1) h
  refine b_X0_slatWith_2 hb ?_
  rw [hR.2.2.1]
  try simp (disch := omega) only [iI_add, iI_sub, iI_mul, iI_neg, iI_n, iI_lt, iI_le, iI_eq, iI_tn, iI_ti, bI_0, bI_1, iI_L, iL_0, Decidable.not_not, Int.toNat_natCast, zpt_at, zpt_ne, pk_us, pk_un, forall_eq, tn_0, tn_1, tn_2, tn_3, tn_4, tn_5, ni_1, ni_2, ni_3, ni_4, ni_5, not_false_eq_true, not_true_eq_false, true_implies, false_implies, and_true, true_and, iL_6, iL_m6, iL_7, iL_8, iL_9, iL_4, iL_m4, iL_m8, li_0, li_1, li_2, li_3, li_4, li_5, li_6, li_7, li_8, li_9, li_10, li_11, li_12, li_13, li_15, li_16, li_18, li_20, li_24, li_31, li_32, li_40, li_46, li_48, li_57, li_59, li_60, li_61, li_63, li_64, li_97, li_99, li_122, li_124, li_150, li_255, li_480, li_488, li_600, li_999, li_1110, li_54]
  rw [hr.1, hr.2.1]
  try simp (disch := omega) only [iI_add, iI_sub, iI_mul, iI_neg, iI_n, iI_lt, iI_le, iI_eq, iI_tn, iI_ti, bI_0, bI_1, iI_L, iL_0, Decidable.not_not, Int.toNat_natCast, zpt_at, zpt_ne, pk_us, pk_un, forall_eq, tn_0, tn_1, tn_2, tn_3, tn_4, tn_5, ni_1, ni_2, ni_3, ni_4, ni_5, not_false_eq_true, not_true_eq_false, true_implies, false_implies, and_true, true_and, iL_6, iL_m6, iL_7, iL_8, iL_9, iL_4, iL_m4, iL_m8, li_0, li_1, li_2, li_3, li_4, li_5, li_6, li_7, li_8, li_9, li_10, li_11, li_12, li_13, li_15, li_16, li_18, li_20, li_24, li_31, li_32, li_40, li_46, li_48, li_57, li_59, li_60, li_61, li_63, li_64, li_97, li_99, li_122, li_124, li_150, li_255, li_480, li_488, li_600, li_999, li_1110, li_54]
  refine ⟨fun h => ?_, fun h => ⟨in10 (by omega) hb'.2.2.1, in10 (by omega) hb'.2.2.1, fun h' => ?_, fun h' => ?_⟩⟩
  · rw [show slatOf m c = k by omega] at H; exact H
  · have : slatOf m c = k := by
      rcases Nat.lt_or_ge k (slatOf m c) with q | q
      · have := slat_no q
        rw [fst_succ] at this; omega
      · omega
    rw [this] at H; exact H
  · refine ih ?_
    rcases Nat.lt_or_ge k (slatOf m c) with q | q
    · exact q
    · obtain rfl : k = slatOf m c := by omega
      omega
termination_by slatOf m c - k
theorem c_slatWith {K : Int32 → zS → Prop} {o : Nat} (hb : zB o) (hR : R0 σ o m) (hw : WF m) {c : Nat} (hc : c < cols m) (H : K (iI (slatOf m c)) σ) : CT g l M_X0_slatWith 0 [.ref (zad g o), .int (iI c)] σ (zQi K X) :=
  b_X0_slatWith hb (c_slatWith_2 hb hR hw hc H 0 (Nat.zero_le _))
theorem and1 (x : Int32) : (x &&& 1) = if bt x 0 then 1 else 0 := by
  apply b_ext
  intro i hi
  rw [b_and]
  have h1 : bt 1 i = decide (i = 0) := by
    show bt (nI 1) i = _
    rw [bt_nI _ _ hi]
    exact (by decide +kernel : ∀ i, i < 32 → (1 : Nat).testBit i = decide (i = 0)) i hi
  rw [h1]
  by_cases e : i = 0
  · subst e
    cases bt x 0
    · simp; decide
    · simp; decide
  · simp only [e, decide_false, Bool.and_false]
    split
    · rw [h1]; simp [e]
    · show false = bt (nI 0) i
      rw [bt_nI _ _ hi]; simp
theorem bt1 {x : Int32} {k : Nat} (hk : k < 32) : ((zushr x (iI (k : Int))) &&& 1) = if bt x k then 1 else 0 := by
  rw [and1, show iI (k : Int) = nI k from rfl, bt_ushr hk 0, Nat.add_zero]
theorem c_isTied {K : Int32 → zS → Prop} {o : Nat} (hb : zB o) (hR : R0 σ o m) (hw : WF m) {k : Nat} (hk : k < nS m) (H : K (iI (td m k)) σ) : CT g l M_X0_isTied 0 [.ref (zad g o), .int (iI k)] σ (zQi K X) := by
  have hb' := wf_b hw
  have hs := wf_s hw hk
  refine b_X0_isTied hb ?_
  rw [bt1 (by omega), hR.2.2.2.2.2.2.1 k (by omega)]
  by_cases e : td m k = 1
  · rw [show decide (k < nS m ∧ td m k = 1) = true by simp [hk, e], if_pos rfl]
    rw [e] at H
    exact ⟨fun h => absurd rfl h, fun _ => H⟩
  · rw [show decide (k < nS m ∧ td m k = 1) = false by simp [e], if_neg (by decide)]
    rw [show td m k = 0 by omega] at H
    exact ⟨fun _ => H, fun h => absurd h (by decide)⟩
theorem c_seamBehind {K : Int32 → zS → Prop} {o : Nat} (hb : zB o) (hR : R0 σ o m) (hT : RT σ (o + 3) m) (hw : WF m) {k : Nat} (hk : k < nS m) (H : K (iI (seamB m k)) σ) : CT g l M_X0_seamBehind 0 [.ref (zad g o), .int (iI k)] σ (zQi K X) := by
  have hb' := wf_b hw
  unfold seamB at H
  refine b_X0_seamBehind hb ?_
  rw [hR.2.2.1]
  try simp (disch := omega) only [iI_add, iI_sub, iI_mul, iI_neg, iI_n, iI_lt, iI_le, iI_eq, iI_tn, iI_ti, bI_0, bI_1, iI_L, iL_0, Decidable.not_not, Int.toNat_natCast, zpt_at, zpt_ne, pk_us, pk_un, forall_eq, tn_0, tn_1, tn_2, tn_3, tn_4, tn_5, ni_1, ni_2, ni_3, ni_4, ni_5, not_false_eq_true, not_true_eq_false, true_implies, false_implies, and_true, true_and, iL_6, iL_m6, iL_7, iL_8, iL_9, iL_4, iL_m4, iL_m8, li_0, li_1, li_2, li_3, li_4, li_5, li_6, li_7, li_8, li_9, li_10, li_11, li_12, li_13, li_15, li_16, li_18, li_20, li_24, li_31, li_32, li_40, li_46, li_48, li_57, li_59, li_60, li_61, li_63, li_64, li_97, li_99, li_122, li_124, li_150, li_255, li_480, li_488, li_600, li_999, li_1110, li_54]
  refine ⟨fun h => by omega, fun _ => ⟨fun h => ?_, fun h => ⟨in10 hk hb'.2.2.1, ?_⟩⟩⟩
  · rw [if_pos (by omega)] at H; exact H
  · rw [if_neg (by omega)] at H
    refine ⟨in10 (k := k + 1) (by omega) hb'.2.2.1, ?_⟩
    rw [show ((k : Int) + 1).toNat = k + 1 by omega, hT k hk, hT (k + 1) (by omega), iI_sub]
    exact H
theorem c_coveringSeams_4 {K : Int32 → zS → Prop} {o : Nat} (hb : zB o) (hR : R0 σ o m) (hT : RT σ (o + 3) m) (hw : WF m) (H : K (iI (seamsN m 1)) σ) (k : Nat) (hk : k ≤ nS m) : L_X0_coveringSeams_4 g l K X o (iI (fb_ct (fun k => decide (0 < 1 * seamB m k)) k)) (iI k) σ := by
  have hb' := wf_b hw
  have ih := fun h => c_coveringSeams_4 hb hR hT hw H (k + 1) h
  refine b_X0_coveringSeams_4 hb ?_
  rw [hR.2.2.1]
  try simp (disch := omega) only [iI_add, iI_sub, iI_mul, iI_neg, iI_n, iI_lt, iI_le, iI_eq, iI_tn, iI_ti, bI_0, bI_1, iI_L, iL_0, Decidable.not_not, Int.toNat_natCast, zpt_at, zpt_ne, pk_us, pk_un, forall_eq, tn_0, tn_1, tn_2, tn_3, tn_4, tn_5, ni_1, ni_2, ni_3, ni_4, ni_5, not_false_eq_true, not_true_eq_false, true_implies, false_implies, and_true, true_and, iL_6, iL_m6, iL_7, iL_8, iL_9, iL_4, iL_m4, iL_m8, li_0, li_1, li_2, li_3, li_4, li_5, li_6, li_7, li_8, li_9, li_10, li_11, li_12, li_13, li_15, li_16, li_18, li_20, li_24, li_31, li_32, li_40, li_46, li_48, li_57, li_59, li_60, li_61, li_63, li_64, li_97, li_99, li_122, li_124, li_150, li_255, li_480, li_488, li_600, li_999, li_1110, li_54]
  refine ⟨fun h => ?_, fun h => ?_⟩
  · obtain rfl : k = nS m := by omega
    exact H
  · have hsb := seam_b hw (k := k) (by omega)
    replace ih := ih (by omega)
    rw [fb_ct_succ] at ih
    refine c_seamBehind hb hR hT hw (by omega) ?_
    try simp (disch := omega) only [iI_add, iI_sub, iI_mul, iI_neg, iI_n, iI_lt, iI_le, iI_eq, iI_tn, iI_ti, bI_0, bI_1, iI_L, iL_0, Decidable.not_not, Int.toNat_natCast, zpt_at, zpt_ne, pk_us, pk_un, forall_eq, tn_0, tn_1, tn_2, tn_3, tn_4, tn_5, ni_1, ni_2, ni_3, ni_4, ni_5, not_false_eq_true, not_true_eq_false, true_implies, false_implies, and_true, true_and, iL_6, iL_m6, iL_7, iL_8, iL_9, iL_4, iL_m4, iL_m8, li_0, li_1, li_2, li_3, li_4, li_5, li_6, li_7, li_8, li_9, li_10, li_11, li_12, li_13, li_15, li_16, li_18, li_20, li_24, li_31, li_32, li_40, li_46, li_48, li_57, li_59, li_60, li_61, li_63, li_64, li_97, li_99, li_122, li_124, li_150, li_255, li_480, li_488, li_600, li_999, li_1110, li_54]
    refine ⟨fun h2 => ?_, fun h2 => ?_⟩
    · rw [if_neg (by simp; omega)] at ih
      exact ih
    · rw [if_pos (by simp; omega)] at ih
      exact ih
termination_by nS m - k
theorem c_coveringSeams {K : Int32 → zS → Prop} {o : Nat} (hb : zB o) (hR : R0 σ o m) (hT : RT σ (o + 3) m) (hw : WF m) (H : K (iI (seamsN m 1)) σ) : CT g l M_X0_coveringSeams 0 [.ref (zad g o)] σ (zQi K X) :=
  b_X0_coveringSeams hb (c_coveringSeams_4 hb hR hT hw H 0 (Nat.zero_le _))
theorem c_openingSeams_4 {K : Int32 → zS → Prop} {o : Nat} (hb : zB o) (hR : R0 σ o m) (hT : RT σ (o + 3) m) (hw : WF m) (H : K (iI (seamsN m (-1))) σ) (k : Nat) (hk : k ≤ nS m) : L_X0_openingSeams_4 g l K X o (iI (fb_ct (fun k => decide (0 < -1 * seamB m k)) k)) (iI k) σ := by
  have hb' := wf_b hw
  have ih := fun h => c_openingSeams_4 hb hR hT hw H (k + 1) h
  refine b_X0_openingSeams_4 hb ?_
  rw [hR.2.2.1]
  try simp (disch := omega) only [iI_add, iI_sub, iI_mul, iI_neg, iI_n, iI_lt, iI_le, iI_eq, iI_tn, iI_ti, bI_0, bI_1, iI_L, iL_0, Decidable.not_not, Int.toNat_natCast, zpt_at, zpt_ne, pk_us, pk_un, forall_eq, tn_0, tn_1, tn_2, tn_3, tn_4, tn_5, ni_1, ni_2, ni_3, ni_4, ni_5, not_false_eq_true, not_true_eq_false, true_implies, false_implies, and_true, true_and, iL_6, iL_m6, iL_7, iL_8, iL_9, iL_4, iL_m4, iL_m8, li_0, li_1, li_2, li_3, li_4, li_5, li_6, li_7, li_8, li_9, li_10, li_11, li_12, li_13, li_15, li_16, li_18, li_20, li_24, li_31, li_32, li_40, li_46, li_48, li_57, li_59, li_60, li_61, li_63, li_64, li_97, li_99, li_122, li_124, li_150, li_255, li_480, li_488, li_600, li_999, li_1110, li_54]
  refine ⟨fun h => ?_, fun h => ?_⟩
  · obtain rfl : k = nS m := by omega
    exact H
  · have hsb := seam_b hw (k := k) (by omega)
    replace ih := ih (by omega)
    rw [fb_ct_succ] at ih
    refine c_seamBehind hb hR hT hw (by omega) ?_
    try simp (disch := omega) only [iI_add, iI_sub, iI_mul, iI_neg, iI_n, iI_lt, iI_le, iI_eq, iI_tn, iI_ti, bI_0, bI_1, iI_L, iL_0, Decidable.not_not, Int.toNat_natCast, zpt_at, zpt_ne, pk_us, pk_un, forall_eq, tn_0, tn_1, tn_2, tn_3, tn_4, tn_5, ni_1, ni_2, ni_3, ni_4, ni_5, not_false_eq_true, not_true_eq_false, true_implies, false_implies, and_true, true_and, iL_6, iL_m6, iL_7, iL_8, iL_9, iL_4, iL_m4, iL_m8, li_0, li_1, li_2, li_3, li_4, li_5, li_6, li_7, li_8, li_9, li_10, li_11, li_12, li_13, li_15, li_16, li_18, li_20, li_24, li_31, li_32, li_40, li_46, li_48, li_57, li_59, li_60, li_61, li_63, li_64, li_97, li_99, li_122, li_124, li_150, li_255, li_480, li_488, li_600, li_999, li_1110, li_54]
    refine ⟨fun h2 => ?_, fun h2 => ?_⟩
    · rw [if_neg (by simp; omega)] at ih
      exact ih
    · rw [if_pos (by simp; omega)] at ih
      exact ih
termination_by nS m - k
theorem c_openingSeams {K : Int32 → zS → Prop} {o : Nat} (hb : zB o) (hR : R0 σ o m) (hT : RT σ (o + 3) m) (hw : WF m) (H : K (iI (seamsN m (-1))) σ) : CT g l M_X0_openingSeams 0 [.ref (zad g o)] σ (zQi K X) :=
  b_X0_openingSeams hb (c_openingSeams_4 hb hR hT hw H 0 (Nat.zero_le _))
theorem c_pictureOf {K : Nat → zS → Prop} {o : Nat} (hb : zB o) {s : Nat} (hs : s < 2) (H : K (o + 6 + s) σ) : CT g l M_X0_pictureOf 0 [.ref (zad g o), .int (iI s)] σ (zQr g K X) := by
  match s, hs with
  | 0, _ => exact b_X0_pictureOf hb ⟨fun _ => H, fun h => absurd rfl h⟩
  | 1, _ => exact b_X0_pictureOf hb ⟨fun h => absurd h (by decide), fun _ => H⟩
theorem c_faceOf {K : Nat → zS → Prop} {o : Nat} (hb : zB o) {s : Nat} (hs : s < 2) (H : K (o + 8 + s) σ) : CT g l M_X0_faceOf 0 [.ref (zad g o), .int (iI s)] σ (zQr g K X) := by
  match s, hs with
  | 0, _ => exact b_X0_faceOf hb ⟨fun _ => H, fun h => absurd rfl h⟩
  | 1, _ => exact b_X0_faceOf hb ⟨fun h => absurd h (by decide), fun _ => H⟩
theorem c_coatsOf {K : Nat → zS → Prop} {o : Nat} (hb : zB o) {s : Nat} (hs : s < 2) (H : K (o + 4 + s) σ) : CT g l M_X0_coatsOf 0 [.ref (zad g o), .int (iI s)] σ (zQr g K X) := by
  match s, hs with
  | 0, _ => exact b_X0_coatsOf hb ⟨fun _ => H, fun h => absurd rfl h⟩
  | 1, _ => exact b_X0_coatsOf hb ⟨fun h => absurd h (by decide), fun _ => H⟩
theorem zB_p {o : Nat} (hb : zB o) {s : Nat} (hs : s < 2) : zsh (o + 6 + s) = .inr (0, 60) ∧ o + 6 + s < 163 := by
  match s, hs with
  | 0, _ => exact ⟨zB_s6 hb, zB_l6 hb⟩
  | 1, _ => exact ⟨zB_s7 hb, zB_l7 hb⟩
theorem zB_f {o : Nat} (hb : zB o) {s : Nat} (hs : s < 2) : zsh (o + 8 + s) = .inr (0, 60) ∧ o + 8 + s < 163 := by
  match s, hs with
  | 0, _ => exact ⟨zB_s8 hb, zB_l8 hb⟩
  | 1, _ => exact ⟨zB_s9 hb, zB_l9 hb⟩
theorem zB_c {o : Nat} (hb : zB o) {s : Nat} (hs : s < 2) : zsh (o + 4 + s) = .inr (0, 10) ∧ o + 4 + s < 163 := by
  match s, hs with
  | 0, _ => exact ⟨zB_s4 hb, zB_l4 hb⟩
  | 1, _ => exact ⟨zB_s5 hb, zB_l5 hb⟩
theorem c_colourIn {K : Int32 → zS → Prop} {x : Int32} {r : Nat} (hr : r < 8) (H : K (iI (nib x r)) σ) : CT g l M_X6_colourIn 0 [.int x, .int (iI r)] σ (zQi K X) := by
  refine b_X6_colourIn ?_
  rw [show iI (r : Int) = nI r from rfl, nib_get hr]
  exact H
theorem c_withColour {K : Int32 → zS → Prop} {x : Int32} {r v : Nat} (hr : r < 8) (hv : v < 16) (H : ∀ y, (∀ j, j < 8 → nib y j = if j = r then v else nib x j) → K y σ) : CT g l M_X6_withColour 0 [.int x, .int (iI r), .int (iI v)] σ (zQi K X) :=
  b_X6_withColour (H _ (fun j hj => nib_set hr hv j hj))
theorem c_unlikeBits {K : Int32 → zS → Prop} {x y : Int32} (H : K (unF x y) σ) : CT g l M_X6_unlikeBits 0 [.int x, .int y] σ (zQi K X) := b_X6_unlikeBits H
theorem c_bitCount {K : Int32 → zS → Prop} {x : Int32} (H : K (bcF x) σ) : CT g l M_J6_bitCount_0f7a4 0 [.int x] σ (zQi K X) := b_J6_bitCount_0f7a4 H
theorem cn8_ct (p : Nat → Bool) : cn8 p = fb_ct p 8 := by
  have e : ∀ b : Bool, b.toNat = if b then 1 else 0 := fun b => by cases b <;> rfl
  simp only [cn8, fb_ct, e, Nat.zero_add]
theorem ct_cut {p q : Nat → Bool} {h : Nat} (hh : h ≤ 8) (h1 : ∀ r, r < h → p r = q r) (h2 : ∀ r, h ≤ r → r < 8 → p r = false) : fb_ct p 8 = fb_ct q h := by
  have e := fb_ct_split p h (8 - h)
  rw [show h + (8 - h) = 8 by omega, fb_ct_cong h1, (fb_ct_zero (p := fun k => p (h + k)) (n := 8 - h)).mpr (fun k hk => h2 (h + k) (by omega) (by omega))] at e
  omega
theorem Cl.un {x y : Int32} {h : Nat} {f f' : Nat → Nat} (hx : Cl x h f) (hy : Cl y h f') (hh : h ≤ 8) : cn8 (fun r => decide (nib x r ≠ nib y r)) = fb_ct (fun r => decide (f r ≠ f' r)) h := by
  rw [cn8_ct]
  refine ct_cut hh (fun r hr => ?_) (fun r h1 h2 => ?_)
  · rw [hx r (by omega), hy r (by omega), if_pos hr, if_pos hr]
  · rw [hx r h2, hy r h2, if_neg (by omega), if_neg (by omega)]
    simp
theorem c_unlikeRows {K : Int32 → zS → Prop} {x y : Int32} {h : Nat} {f f' : Nat → Nat} (hx : Cl x h f) (hy : Cl y h f') (hh : h ≤ 8) (H : K (iI (fb_ct (fun r => decide (f r ≠ f' r)) h)) σ) : CT g l M_X6_unlikeRows 0 [.int x, .int y] σ (zQi K X) := by
  refine b_X6_unlikeRows (c_unlikeBits (c_bitCount ?_))
  rw [unR, hx.un hy hh]
  exact H
theorem c_unlikePicture_24 {K : Int32 → zS → Prop} {o : Nat} (hb : zB o) (hR : R0 σ o m) (hw : WF m) {k s : Nat} (hk : k < nS m) (hs : s < 2) (H : K (iI (unl m k s)) σ) (j : Nat) (hj : j ≤ wd m k) : L_X0_unlikePicture_24 g l K X o (iI k) (o + 6 + s) (o + 8 + s) (iI (fb_sm (fun j => fb_ct (fun r => decide (fc m s (fst m k + j) r ≠ pic m s (fst m k + j) r)) (nH m)) j)) (iI (fst m k + j : Nat)) σ := by
  have hb' := wf_b hw
  have hcl := cols_le hw
  have hsl := wf_s hw hk
  have hfl := fst_le hw (k := k) (by omega)
  have hr := hR.2.2.2.2.2.2.2.1 k hk
  have ih := fun h => c_unlikePicture_24 hb hR hw hk hs H (j + 1) h
  refine b_X0_unlikePicture_24 hb (zB_p hb hs).1 (zB_p hb hs).2 (zB_f hb hs).1 (zB_f hb hs).2 ?_
  try simp (disch := omega) only [iI_add, iI_sub, iI_mul, iI_neg, iI_n, iI_lt, iI_le, iI_eq, iI_tn, iI_ti, bI_0, bI_1, iI_L, iL_0, Decidable.not_not, Int.toNat_natCast, zpt_at, zpt_ne, pk_us, pk_un, forall_eq, tn_0, tn_1, tn_2, tn_3, tn_4, tn_5, ni_1, ni_2, ni_3, ni_4, ni_5, not_false_eq_true, not_true_eq_false, true_implies, false_implies, and_true, true_and, iL_6, iL_m6, iL_7, iL_8, iL_9, iL_4, iL_m4, iL_m8, li_0, li_1, li_2, li_3, li_4, li_5, li_6, li_7, li_8, li_9, li_10, li_11, li_12, li_13, li_15, li_16, li_18, li_20, li_24, li_31, li_32, li_40, li_46, li_48, li_57, li_59, li_60, li_61, li_63, li_64, li_97, li_99, li_122, li_124, li_150, li_255, li_480, li_488, li_600, li_999, li_1110, li_54]
  rw [hr.1, hr.2.1]
  try simp (disch := omega) only [iI_add, iI_sub, iI_mul, iI_neg, iI_n, iI_lt, iI_le, iI_eq, iI_tn, iI_ti, bI_0, bI_1, iI_L, iL_0, Decidable.not_not, Int.toNat_natCast, zpt_at, zpt_ne, pk_us, pk_un, forall_eq, tn_0, tn_1, tn_2, tn_3, tn_4, tn_5, ni_1, ni_2, ni_3, ni_4, ni_5, not_false_eq_true, not_true_eq_false, true_implies, false_implies, and_true, true_and, iL_6, iL_m6, iL_7, iL_8, iL_9, iL_4, iL_m4, iL_m8, li_0, li_1, li_2, li_3, li_4, li_5, li_6, li_7, li_8, li_9, li_10, li_11, li_12, li_13, li_15, li_16, li_18, li_20, li_24, li_31, li_32, li_40, li_46, li_48, li_57, li_59, li_60, li_61, li_63, li_64, li_97, li_99, li_122, li_124, li_150, li_255, li_480, li_488, li_600, li_999, li_1110, li_54]
  refine ⟨in10 hk hb'.2.2.1, in10 hk hb'.2.2.1, fun h => ?_, fun h => ?_⟩
  · obtain rfl : j = wd m k := by omega
    exact H
  · have hcc := fst_col hw hk (j := j) (by omega)
    have hq := hR.2.2.2.2.2.2.2.2 _ hcc s hs
    refine ⟨in60 hcc hcl.1, in60 hcc hcl.1, ?_⟩
    refine c_unlikeRows hq.2 hq.1 hb'.2.1 ?_
    replace ih := ih (by omega)
    try simp (disch := omega) only [iI_add, iI_sub, iI_mul, iI_neg, iI_n, iI_lt, iI_le, iI_eq, iI_tn, iI_ti, bI_0, bI_1, iI_L, iL_0, Decidable.not_not, Int.toNat_natCast, zpt_at, zpt_ne, pk_us, pk_un, forall_eq, tn_0, tn_1, tn_2, tn_3, tn_4, tn_5, ni_1, ni_2, ni_3, ni_4, ni_5, not_false_eq_true, not_true_eq_false, true_implies, false_implies, and_true, true_and, iL_6, iL_m6, iL_7, iL_8, iL_9, iL_4, iL_m4, iL_m8, li_0, li_1, li_2, li_3, li_4, li_5, li_6, li_7, li_8, li_9, li_10, li_11, li_12, li_13, li_15, li_16, li_18, li_20, li_24, li_31, li_32, li_40, li_46, li_48, li_57, li_59, li_60, li_61, li_63, li_64, li_97, li_99, li_122, li_124, li_150, li_255, li_480, li_488, li_600, li_999, li_1110, li_54]
    exact ih
termination_by wd m k - j
theorem c_unlikePicture {K : Int32 → zS → Prop} {o : Nat} (hb : zB o) (hR : R0 σ o m) (hw : WF m) {k s : Nat} (hk : k < nS m) (hs : s < 2) (H : K (iI (unl m k s)) σ) : CT g l M_X0_unlikePicture 0 [.ref (zad g o), .int (iI k), .int (iI s)] σ (zQi K X) := by
  have hb' := wf_b hw
  refine b_X0_unlikePicture hb (c_pictureOf hb hs ⟨(zB_p hb hs).1, (zB_p hb hs).2, ?_⟩)
  refine c_faceOf hb hs ⟨(zB_f hb hs).1, (zB_f hb hs).2, in10 hk hb'.2.2.1, ?_⟩
  try simp (disch := omega) only [iI_add, iI_sub, iI_mul, iI_neg, iI_n, iI_lt, iI_le, iI_eq, iI_tn, iI_ti, bI_0, bI_1, iI_L, iL_0, Decidable.not_not, Int.toNat_natCast, zpt_at, zpt_ne, pk_us, pk_un, forall_eq, tn_0, tn_1, tn_2, tn_3, tn_4, tn_5, ni_1, ni_2, ni_3, ni_4, ni_5, not_false_eq_true, not_true_eq_false, true_implies, false_implies, and_true, true_and, iL_6, iL_m6, iL_7, iL_8, iL_9, iL_4, iL_m4, iL_m8, li_0, li_1, li_2, li_3, li_4, li_5, li_6, li_7, li_8, li_9, li_10, li_11, li_12, li_13, li_15, li_16, li_18, li_20, li_24, li_31, li_32, li_40, li_46, li_48, li_57, li_59, li_60, li_61, li_63, li_64, li_97, li_99, li_122, li_124, li_150, li_255, li_480, li_488, li_600, li_999, li_1110, li_54]
  rw [(hR.2.2.2.2.2.2.2.1 k hk).2.1]
  exact c_unlikePicture_24 hb hR hw hk hs H 0 (Nat.zero_le _)
theorem c_bearsCoat {K : Int32 → zS → Prop} {o : Nat} (hb : zB o) (hR : R0 σ o m) (hw : WF m) {k s : Nat} (hk : k < nS m) (hs : s < 2) (H : K (bI (ct m k s < nC m)) σ) : CT g l M_X0_bearsCoat 0 [.ref (zad g o), .int (iI k), .int (iI s)] σ (zQi K X) := by
  have hb' := wf_b hw
  have hsl := wf_s hw hk
  have hcs : ct m k s ≤ 99 := by
    match s, hs with
    | 0, _ => exact hsl.2.2.2.2.2.1
    | 1, _ => exact hsl.2.2.2.2.2.2
  refine b_X0_bearsCoat hb (c_coatsOf hb hs ⟨(zB_c hb hs).1, (zB_c hb hs).2, in10 hk hb'.2.2.1, ?_⟩)
  try simp (disch := omega) only [iI_add, iI_sub, iI_mul, iI_neg, iI_n, iI_lt, iI_le, iI_eq, iI_tn, iI_ti, bI_0, bI_1, iI_L, iL_0, Decidable.not_not, Int.toNat_natCast, zpt_at, zpt_ne, pk_us, pk_un, forall_eq, tn_0, tn_1, tn_2, tn_3, tn_4, tn_5, ni_1, ni_2, ni_3, ni_4, ni_5, not_false_eq_true, not_true_eq_false, true_implies, false_implies, and_true, true_and, iL_6, iL_m6, iL_7, iL_8, iL_9, iL_4, iL_m4, iL_m8, li_0, li_1, li_2, li_3, li_4, li_5, li_6, li_7, li_8, li_9, li_10, li_11, li_12, li_13, li_15, li_16, li_18, li_20, li_24, li_31, li_32, li_40, li_46, li_48, li_57, li_59, li_60, li_61, li_63, li_64, li_97, li_99, li_122, li_124, li_150, li_255, li_480, li_488, li_600, li_999, li_1110, li_54]
  rw [(hR.2.2.2.2.2.2.2.1 k hk).2.2 s hs, hR.2.1]
  try simp (disch := omega) only [iI_add, iI_sub, iI_mul, iI_neg, iI_n, iI_lt, iI_le, iI_eq, iI_tn, iI_ti, bI_0, bI_1, iI_L, iL_0, Decidable.not_not, Int.toNat_natCast, zpt_at, zpt_ne, pk_us, pk_un, forall_eq, tn_0, tn_1, tn_2, tn_3, tn_4, tn_5, ni_1, ni_2, ni_3, ni_4, ni_5, not_false_eq_true, not_true_eq_false, true_implies, false_implies, and_true, true_and, iL_6, iL_m6, iL_7, iL_8, iL_9, iL_4, iL_m4, iL_m8, li_0, li_1, li_2, li_3, li_4, li_5, li_6, li_7, li_8, li_9, li_10, li_11, li_12, li_13, li_15, li_16, li_18, li_20, li_24, li_31, li_32, li_40, li_46, li_48, li_57, li_59, li_60, li_61, li_63, li_64, li_97, li_99, li_122, li_124, li_150, li_255, li_480, li_488, li_600, li_999, li_1110, li_54]
  refine ⟨fun h => ?_, fun h => ?_⟩
  · rw [bI_F (by omega)] at H; exact H
  · rw [bI_T (by omega)] at H; exact H
end ZCR

