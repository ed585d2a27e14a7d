/-! the reference: spot, undo, save, restore, report, feed, truncate -/
section ZMZ
variable {g : zG} {l : Launch} {K : Int32 → zS → Prop} {X : String → zS → Prop} {m : Nat → Int32} {σ : zS}
theorem s_spot {u : Nat} {h : Nat → Nat → Int32} (hm : σ.1 26 = m) (hw : WF m) (hH : HsM σ u h) {x y v : Int} (hx : I32 x) (hy : I32 y) (hv : I32 v) {s : Nat} (hs : s < 2) (H0 : ∀ c r w : Nat, x = c → y = r → v = w → c < cols m → r < nH m → w ≤ 9 → nB m < 16 → ∀ τ, Chg σ u h m (mBox m s c r 1 1 w) τ → K (iI (nB m + 1 : Nat)) τ) (H1 : ¬ ((0 ≤ x ∧ x < cols m) ∧ (0 ≤ y ∧ y < nH m)) → K (iI 0) (cd σ 1)) (H2 : ((0 ≤ x ∧ x < cols m) ∧ (0 ≤ y ∧ y < nH m)) → ¬ (0 ≤ v ∧ v ≤ 9) → K (iI 0) (cd σ 2)) (H3 : ((0 ≤ x ∧ x < cols m) ∧ (0 ≤ y ∧ y < nH m)) → (0 ≤ v ∧ v ≤ 9) → ¬ nB m < 16 → K (iI 0) (cd σ 3)) : CT g l M_X7_spot 0 [.ref (zad g 24), .int (iI s), .int (iI x), .int (iI y), .int (iI v)] σ (zQi K X) := by
  have hb := wf_b hw
  refine b_X7_spot (s_isColumn hm hw hx ?_)
  have go : ∀ (p r : Prop) [Decidable p] [Decidable r], (p ↔ ((0 ≤ x ∧ x < cols m) ∧ (0 ≤ y ∧ y < nH m))) → (r ↔ nB m < 16) → CT g l M_X7_goesAll 0 [.ref (zad g 24), .int (bI p), .int (bI (0 ≤ v ∧ v ≤ 9)), .int (bI r)] σ (zQi (fun v5 τ5 => ((¬ v5 = 0 → CT g l M_X7_laysAside 0 [.ref (zad g 24)] τ5 (zQv (fun τ7 => CT g l M_X7_truth 0 [.int (iI s)] τ7 (zQi (fun v8 τ8 => CT g l M_X7_spots 0 [.ref (zad g 24), .int v8, .int (iI x), .int (iI y), .int (iI v)] τ8 (zQi (fun v9 τ9 => CT g l M_X7_kept 0 [.ref (zad g 24), .int v9] τ9 (zQi (fun v10 τ10 => K v10 τ10) (fun E τ => X E τ))) (fun E τ => X E τ))) (fun E τ => X E τ))) (fun E τ => X E τ))) ∧ (v5 = 0 → K 0 τ5))) (fun E τ => X E τ)) := by
    intro p r _ _ hp hr
    refine s_goesAll (fun h1 h2 h3 => ?_) (fun h1 => ?_) (fun h1 h2 => ?_) (fun h1 h2 h3 => ?_)
    · have h1' := hp.mp h1
      have h3' := hr.mp h3
      obtain ⟨c, rfl, hc⟩ := nat_of h1'.1
      obtain ⟨q, rfl, hq⟩ := nat_of h1'.2
      obtain ⟨w, rfl, hw'⟩ := nat_of (n := 10) (show 0 ≤ v ∧ v < (10 : Nat) by omega)
      try simp (disch := omega) only [iI_add, iI_sub, iI_mul, iI_neg, iI_n, iI_lt, iI_le, iI_eq, iI_tn, iI_ti, bI_0, bI_1, iI_L, iL_0, Decidable.not_not, Int.toNat_natCast, zpt_at, zpt_ne, pk_us, pk_un, forall_eq, tn_0, tn_1, tn_2, tn_3, tn_4, tn_5, ni_1, ni_2, ni_3, ni_4, ni_5, not_false_eq_true, not_true_eq_false, true_implies, false_implies, and_true, true_and, iL_6, iL_m6, iL_7, iL_8, iL_9, iL_4, iL_m4, iL_m8, li_0, li_1, li_2, li_3, li_4, li_5, li_6, li_7, li_8, li_9, li_10, li_11, li_12, li_13, li_15, li_16, li_18, li_20, li_24, li_31, li_32, li_40, li_46, li_48, li_57, li_59, li_60, li_61, li_63, li_64, li_97, li_99, li_122, li_124, li_150, li_255, li_480, li_488, li_600, li_999, li_1110, li_54]
      refine s_laysAside (fun f hf => s_truthS hs (s_spots (pre_m hm) hw (by omega) (s_kept (pre_k hH) (pre_a hm hf) (fun τ hF hH' => H0 c q w rfl rfl rfl hc hq (by omega) h3' τ (chg_of hF hH')))))
    · try simp (disch := omega) only [iI_add, iI_sub, iI_mul, iI_neg, iI_n, iI_lt, iI_le, iI_eq, iI_tn, iI_ti, bI_0, bI_1, iI_L, iL_0, Decidable.not_not, Int.toNat_natCast, zpt_at, zpt_ne, pk_us, pk_un, forall_eq, tn_0, tn_1, tn_2, tn_3, tn_4, tn_5, ni_1, ni_2, ni_3, ni_4, ni_5, not_false_eq_true, not_true_eq_false, true_implies, false_implies, and_true, true_and, iL_6, iL_m6, iL_7, iL_8, iL_9, iL_4, iL_m4, iL_m8, li_0, li_1, li_2, li_3, li_4, li_5, li_6, li_7, li_8, li_9, li_10, li_11, li_12, li_13, li_15, li_16, li_18, li_20, li_24, li_31, li_32, li_40, li_46, li_48, li_57, li_59, li_60, li_61, li_63, li_64, li_97, li_99, li_122, li_124, li_150, li_255, li_480, li_488, li_600, li_999, li_1110, li_54]
      exact H1 (fun e => h1 (hp.mpr e))
    · try simp (disch := omega) only [iI_add, iI_sub, iI_mul, iI_neg, iI_n, iI_lt, iI_le, iI_eq, iI_tn, iI_ti, bI_0, bI_1, iI_L, iL_0, Decidable.not_not, Int.toNat_natCast, zpt_at, zpt_ne, pk_us, pk_un, forall_eq, tn_0, tn_1, tn_2, tn_3, tn_4, tn_5, ni_1, ni_2, ni_3, ni_4, ni_5, not_false_eq_true, not_true_eq_false, true_implies, false_implies, and_true, true_and, iL_6, iL_m6, iL_7, iL_8, iL_9, iL_4, iL_m4, iL_m8, li_0, li_1, li_2, li_3, li_4, li_5, li_6, li_7, li_8, li_9, li_10, li_11, li_12, li_13, li_15, li_16, li_18, li_20, li_24, li_31, li_32, li_40, li_46, li_48, li_57, li_59, li_60, li_61, li_63, li_64, li_97, li_99, li_122, li_124, li_150, li_255, li_480, li_488, li_600, li_999, li_1110, li_54]
      exact H2 (hp.mp h1) h2
    · try simp (disch := omega) only [iI_add, iI_sub, iI_mul, iI_neg, iI_n, iI_lt, iI_le, iI_eq, iI_tn, iI_ti, bI_0, bI_1, iI_L, iL_0, Decidable.not_not, Int.toNat_natCast, zpt_at, zpt_ne, pk_us, pk_un, forall_eq, tn_0, tn_1, tn_2, tn_3, tn_4, tn_5, ni_1, ni_2, ni_3, ni_4, ni_5, not_false_eq_true, not_true_eq_false, true_implies, false_implies, and_true, true_and, iL_6, iL_m6, iL_7, iL_8, iL_9, iL_4, iL_m4, iL_m8, li_0, li_1, li_2, li_3, li_4, li_5, li_6, li_7, li_8, li_9, li_10, li_11, li_12, li_13, li_15, li_16, li_18, li_20, li_24, li_31, li_32, li_40, li_46, li_48, li_57, li_59, li_60, li_61, li_63, li_64, li_97, li_99, li_122, li_124, li_150, li_255, li_480, li_488, li_600, li_999, li_1110, li_54]
      exact H3 (hp.mp h1) h2 (fun e => h3 (hr.mpr e))
  have gFF := fun hp hr => go False False hp hr
  have gFT := fun hp hr => go False True hp hr
  have gTF := fun hp hr => go True False hp hr
  have gTT := fun hp hr => go True True hp hr
  rw [bI_F (fun q => q)] at gFF gFT gTF
  rw [bI_T trivial] at gFT gTF gTT
  have e16 : ∀ τ : zS, τ.1 26 = m → (16 ≤ τ.1 26 (Int32.toNatClampNeg 3) ↔ ¬ nB m < 16) := fun τ e => by
    rw [e, show (Int32.toNatClampNeg 3) = 3 from rfl, wf_3 hw, show (16 : Int32) = iI 16 from rfl, iI_le (by omega) (by omega) (by omega) (by omega)]
    omega
  refine ⟨fun q => s_isColour hv ?_, fun q => s_isRow hm hw hy ⟨fun q2 => s_isColour hv ?_, fun q2 => s_isColour hv ?_⟩⟩
  · have q' := bI_0.mp q
    rw [e16 σ hm]
    exact ⟨fun e => gFF ⟨fun x => x.elim, fun x => q' x.1⟩ ⟨fun x => x.elim, fun x => e x⟩, fun e => gFT ⟨fun x => x.elim, fun x => q' x.1⟩ ⟨fun _ => Decidable.not_not.mp e, fun _ => trivial⟩⟩
  · have q' := bI_0.mp q2
    rw [e16 σ hm]
    exact ⟨fun e => gFF ⟨fun x => x.elim, fun x => q' x.2⟩ ⟨fun x => x.elim, fun x => e x⟩, fun e => gFT ⟨fun x => x.elim, fun x => q' x.2⟩ ⟨fun _ => Decidable.not_not.mp e, fun _ => trivial⟩⟩
  · have q1' : 0 ≤ x ∧ x < cols m := Decidable.not_not.mp (fun e => q (bI_0.mpr e))
    have q2' : 0 ≤ y ∧ y < nH m := Decidable.not_not.mp (fun e => q2 (bI_0.mpr e))
    rw [e16 σ hm]
    exact ⟨fun e => gTF ⟨fun _ => ⟨q1', q2'⟩, fun _ => trivial⟩ ⟨fun x => x.elim, fun x => e x⟩, fun e => gTT ⟨fun _ => ⟨q1', q2'⟩, fun _ => trivial⟩ ⟨fun _ => Decidable.not_not.mp e, fun _ => trivial⟩⟩
/-- a row that is nothing behind its end -/
def Ct (m : Nat → Int32) : Prop := ∀ k, 1110 ≤ k → m k = 0
theorem put_row {f p a : Nat → Int32} {b : Nat} (hf : ∀ k, 1110 ≤ k → f k = 0) (ha : Ct a) (hp : ∀ k, k < 1110 → p (b + k) = a k) : fb_put f (fun k => p (b + k)) 0 1110 = a := by
  funext k
  by_cases e : k < 1110
  · rw [fb_put_in (by omega) (by omega), Nat.sub_zero]; exact hp k e
  · rw [fb_put_out (by omega), hf k (by omega), ha k (by omega)]
theorem s_undo {u : Nat} {h : Nat → Nat → Int32} (hm : σ.1 26 = m) (hc : Ct m) (hH : HsM σ u h) (hch : ∀ i, i < u → Ct (h i)) (H0 : u = 0 → K (iI (-1)) (cd σ 0)) (H1 : 0 < u → ∀ τ, FM [26] [0, 18] σ τ → τ.1 24 0 = iI 0 → τ.1 26 = h 0 → HsM τ (u - 1) (fun i => h (i + 1)) → K (iI (u - 1 : Nat)) τ) : CT g l M_X7_undo 0 [.ref (zad g 24)] σ (zQi K X) := by
  obtain ⟨h1, h2, h3⟩ := hH
  refine b_X7_undo ?_
  try simp (disch := omega) only [iI_add, iI_sub, iI_mul, iI_neg, iI_n, iI_lt, iI_le, iI_eq, iI_tn, iI_ti, bI_0, bI_1, iI_L, iL_0, Decidable.not_not, Int.toNat_natCast, zpt_at, zpt_ne, pk_us, pk_un, forall_eq, tn_0, tn_1, tn_2, tn_3, tn_4, tn_5, ni_1, ni_2, ni_3, ni_4, ni_5, not_false_eq_true, not_true_eq_false, true_implies, false_implies, and_true, true_and, iL_6, iL_m6, iL_7, iL_8, iL_9, iL_4, iL_m4, iL_m8, li_0, li_1, li_2, li_3, li_4, li_5, li_6, li_7, li_8, li_9, li_10, li_11, li_12, li_13, li_15, li_16, li_18, li_20, li_24, li_31, li_32, li_40, li_46, li_48, li_57, li_59, li_60, li_61, li_63, li_64, li_97, li_99, li_122, li_124, li_150, li_255, li_480, li_488, li_600, li_999, li_1110, li_54]
  rw [h1]
  try simp (disch := omega) only [iI_add, iI_sub, iI_mul, iI_neg, iI_n, iI_lt, iI_le, iI_eq, iI_tn, iI_ti, bI_0, bI_1, iI_L, iL_0, Decidable.not_not, Int.toNat_natCast, zpt_at, zpt_ne, pk_us, pk_un, forall_eq, tn_0, tn_1, tn_2, tn_3, tn_4, tn_5, ni_1, ni_2, ni_3, ni_4, ni_5, not_false_eq_true, not_true_eq_false, true_implies, false_implies, and_true, true_and, iL_6, iL_m6, iL_7, iL_8, iL_9, iL_4, iL_m4, iL_m8, li_0, li_1, li_2, li_3, li_4, li_5, li_6, li_7, li_8, li_9, li_10, li_11, li_12, li_13, li_15, li_16, li_18, li_20, li_24, li_31, li_32, li_40, li_46, li_48, li_57, li_59, li_60, li_61, li_63, li_64, li_97, li_99, li_122, li_124, li_150, li_255, li_480, li_488, li_600, li_999, li_1110, li_54]
  refine ⟨fun e => ?_, fun e => H0 (by omega)⟩
  rw [show ((u : Int) - 1) = ((u - 1 : Nat) : Int) by omega]
  try simp (disch := omega) only [iI_add, iI_sub, iI_mul, iI_neg, iI_n, iI_lt, iI_le, iI_eq, iI_tn, iI_ti, bI_0, bI_1, iI_L, iL_0, Decidable.not_not, Int.toNat_natCast, zpt_at, zpt_ne, pk_us, pk_un, forall_eq, tn_0, tn_1, tn_2, tn_3, tn_4, tn_5, ni_1, ni_2, ni_3, ni_4, ni_5, not_false_eq_true, not_true_eq_false, true_implies, false_implies, and_true, true_and, iL_6, iL_m6, iL_7, iL_8, iL_9, iL_4, iL_m4, iL_m8, li_0, li_1, li_2, li_3, li_4, li_5, li_6, li_7, li_8, li_9, li_10, li_11, li_12, li_13, li_15, li_16, li_18, li_20, li_24, li_31, li_32, li_40, li_46, li_48, li_57, li_59, li_60, li_61, li_63, li_64, li_97, li_99, li_122, li_124, li_150, li_255, li_480, li_488, li_600, li_999, li_1110, li_54]
  rw [show (1110 * ((u - 1 : Nat) : Int)) = ((1110 * (u - 1) : Nat) : Int) by omega]
  refine s_copies (o1 := 30) (o2 := 26) (N1 := 6660) (N2 := 1110) (a := 1110 * (u - 1)) (b := 0) rfl (by decide) rfl (by decide) (by decide) (by omega) (by decide) ⟨by decide, by decide⟩ ?_
  have e30 : (zup (zup σ 24 0 (iI 0)) 24 18 (iI ((u - 1 : Nat) : Int))).1 30 = σ.1 30 := by rw [zpt_ne (by decide), zpt_ne (by decide)]
  have e26 : (zup (zup σ 24 0 (iI 0)) 24 18 (iI ((u - 1 : Nat) : Int))).1 26 = m := by rw [zpt_ne (by decide), zpt_ne (by decide), hm]
  rw [e30, e26, put_row hc (hch 0 (by omega)) (fun k hk => by
    rw [← h3 0 (by omega) k hk]
    exact congrArg (σ.1 30) (by omega))]
  try simp (disch := omega) only [iI_add, iI_sub, iI_mul, iI_neg, iI_n, iI_lt, iI_le, iI_eq, iI_tn, iI_ti, bI_0, bI_1, iI_L, iL_0, Decidable.not_not, Int.toNat_natCast, zpt_at, zpt_ne, pk_us, pk_un, forall_eq, tn_0, tn_1, tn_2, tn_3, tn_4, tn_5, ni_1, ni_2, ni_3, ni_4, ni_5, not_false_eq_true, not_true_eq_false, true_implies, false_implies, and_true, true_and, iL_6, iL_m6, iL_7, iL_8, iL_9, iL_4, iL_m4, iL_m8, li_0, li_1, li_2, li_3, li_4, li_5, li_6, li_7, li_8, li_9, li_10, li_11, li_12, li_13, li_15, li_16, li_18, li_20, li_24, li_31, li_32, li_40, li_46, li_48, li_57, li_59, li_60, li_61, li_63, li_64, li_97, li_99, li_122, li_124, li_150, li_255, li_480, li_488, li_600, li_999, li_1110, li_54]
  refine H1 (by omega) _ ((((FM.rf [26] [0, 18] σ).fl (by decide) _).fl (by decide) _).pt (by decide) (by decide) _) ?_ (zpt_at _ _ _) ⟨?_, by omega, fun i hi k hk => ?_⟩
  · rw [zpt_ne (by decide), zpt_at, pk_un (by decide), zpt_at, pk_us]
  · rw [zpt_ne (by decide), zpt_at, pk_us]
  · rw [zpt_ne (by decide), e30]
    show _ = h (i + 1) k
    rw [← h3 (i + 1) (by omega) k hk]
    exact congrArg (σ.1 30) (by omega)
/-- what the reference has saved -/
def SvM (σ : zS) (sv : Nat) (a : Nat → Int32) : Prop := sv < 2 ∧ σ.1 24 19 = iI sv ∧ (sv = 1 → ∀ k, k < 1110 → σ.1 27 k = a k)
theorem SvM.fr {σ τ : zS} {sv : Nat} {a : Nat → Int32} (H : SvM σ sv a) (h1 : τ.1 24 19 = σ.1 24 19) (h2 : τ.1 27 = σ.1 27) : SvM τ sv a := ⟨H.1, h1.trans H.2.1, fun e k hk => by rw [h2]; exact H.2.2 e k hk⟩
theorem s_save (hm : σ.1 26 = m) (hw : WF m) (H : ∀ τ, FM [27] [0, 19] σ τ → τ.1 24 0 = iI 0 → SvM τ 1 m → K (iI (nS m)) τ) : CT g l M_X7_save 0 [.ref (zad g 24)] σ (zQi K X) := by
  refine b_X7_save ?_
  try simp (disch := omega) only [iI_add, iI_sub, iI_mul, iI_neg, iI_n, iI_lt, iI_le, iI_eq, iI_tn, iI_ti, bI_0, bI_1, iI_L, iL_0, Decidable.not_not, Int.toNat_natCast, zpt_at, zpt_ne, pk_us, pk_un, forall_eq, tn_0, tn_1, tn_2, tn_3, tn_4, tn_5, ni_1, ni_2, ni_3, ni_4, ni_5, not_false_eq_true, not_true_eq_false, true_implies, false_implies, and_true, true_and, iL_6, iL_m6, iL_7, iL_8, iL_9, iL_4, iL_m4, iL_m8, li_0, li_1, li_2, li_3, li_4, li_5, li_6, li_7, li_8, li_9, li_10, li_11, li_12, li_13, li_15, li_16, li_18, li_20, li_24, li_31, li_32, li_40, li_46, li_48, li_57, li_59, li_60, li_61, li_63, li_64, li_97, li_99, li_122, li_124, li_150, li_255, li_480, li_488, li_600, li_999, li_1110, li_54]
  refine s_copies (o1 := 26) (o2 := 27) (N1 := 1110) (N2 := 1110) (a := 0) (b := 0) rfl (by decide) rfl (by decide) (by decide) (by decide) (by decide) ⟨by decide, by decide⟩ ?_
  have hF := (((FM.rf [27] [0, 19] σ).fl (k := 0) (by decide) (iI 0)).pt (o := 27) (by decide) (by decide) (fb_put ((zup σ 24 0 (iI 0)).1 27) (fun k => (zup σ 24 0 (iI 0)).1 26 (0 + k)) 0 1110)).fl (k := 19) (by decide) (iI 1)
  try simp (disch := omega) only [iI_add, iI_sub, iI_mul, iI_neg, iI_n, iI_lt, iI_le, iI_eq, iI_tn, iI_ti, bI_0, bI_1, iI_L, iL_0, Decidable.not_not, Int.toNat_natCast, zpt_at, zpt_ne, pk_us, pk_un, forall_eq, tn_0, tn_1, tn_2, tn_3, tn_4, tn_5, ni_1, ni_2, ni_3, ni_4, ni_5, not_false_eq_true, not_true_eq_false, true_implies, false_implies, and_true, true_and, iL_6, iL_m6, iL_7, iL_8, iL_9, iL_4, iL_m4, iL_m8, li_0, li_1, li_2, li_3, li_4, li_5, li_6, li_7, li_8, li_9, li_10, li_11, li_12, li_13, li_15, li_16, li_18, li_20, li_24, li_31, li_32, li_40, li_46, li_48, li_57, li_59, li_60, li_61, li_63, li_64, li_97, li_99, li_122, li_124, li_150, li_255, li_480, li_488, li_600, li_999, li_1110, li_54]
  try simp (disch := omega) only [iI_add, iI_sub, iI_mul, iI_neg, iI_n, iI_lt, iI_le, iI_eq, iI_tn, iI_ti, bI_0, bI_1, iI_L, iL_0, Decidable.not_not, Int.toNat_natCast, zpt_at, zpt_ne, pk_us, pk_un, forall_eq, tn_0, tn_1, tn_2, tn_3, tn_4, tn_5, ni_1, ni_2, ni_3, ni_4, ni_5, not_false_eq_true, not_true_eq_false, true_implies, false_implies, and_true, true_and, iL_6, iL_m6, iL_7, iL_8, iL_9, iL_4, iL_m4, iL_m8, li_0, li_1, li_2, li_3, li_4, li_5, li_6, li_7, li_8, li_9, li_10, li_11, li_12, li_13, li_15, li_16, li_18, li_20, li_24, li_31, li_32, li_40, li_46, li_48, li_57, li_59, li_60, li_61, li_63, li_64, li_97, li_99, li_122, li_124, li_150, li_255, li_480, li_488, li_600, li_999, li_1110, li_54] at hF
  rw [hm, wf_1 hw]
  rw [hm] at hF
  refine H _ hF ?_ ⟨by decide, ?_, fun _ k hk => ?_⟩
  · rw [zpt_at, pk_un (by decide), zpt_ne (by decide), zpt_at, pk_us]
  · rw [zpt_at, pk_us]; rfl
  · rw [zpt_ne (by decide), zpt_at, fb_put_in (by omega) (by omega), Nat.zero_add, Nat.sub_zero]
theorem s_restore {sv : Nat} {a : Nat → Int32} (hm : σ.1 26 = m) (hc : Ct m) (hS : SvM σ sv a) (hca : sv = 1 → Ct a ∧ WF a) (H0 : sv = 0 → K (iI 0) (cd σ 1)) (H1 : sv = 1 → ∀ τ, FM [26] [0, 18] σ τ → τ.1 24 0 = iI 0 → τ.1 24 18 = iI 0 → τ.1 26 = a → K (iI (nS a)) τ) : CT g l M_X7_restore 0 [.ref (zad g 24)] σ (zQi K X) := by
  obtain ⟨h0, h1, h2⟩ := hS
  refine b_X7_restore ?_
  rw [h1]
  match sv, h0 with
  | 0, _ =>
    refine s_goes0 ?_
    try simp (disch := omega) only [iI_add, iI_sub, iI_mul, iI_neg, iI_n, iI_lt, iI_le, iI_eq, iI_tn, iI_ti, bI_0, bI_1, iI_L, iL_0, Decidable.not_not, Int.toNat_natCast, zpt_at, zpt_ne, pk_us, pk_un, forall_eq, tn_0, tn_1, tn_2, tn_3, tn_4, tn_5, ni_1, ni_2, ni_3, ni_4, ni_5, not_false_eq_true, not_true_eq_false, true_implies, false_implies, and_true, true_and, iL_6, iL_m6, iL_7, iL_8, iL_9, iL_4, iL_m4, iL_m8, li_0, li_1, li_2, li_3, li_4, li_5, li_6, li_7, li_8, li_9, li_10, li_11, li_12, li_13, li_15, li_16, li_18, li_20, li_24, li_31, li_32, li_40, li_46, li_48, li_57, li_59, li_60, li_61, li_63, li_64, li_97, li_99, li_122, li_124, li_150, li_255, li_480, li_488, li_600, li_999, li_1110, li_54]
    exact H0 rfl
  | 1, _ =>
    refine s_goes1 ?_
    try simp (disch := omega) only [iI_add, iI_sub, iI_mul, iI_neg, iI_n, iI_lt, iI_le, iI_eq, iI_tn, iI_ti, bI_0, bI_1, iI_L, iL_0, Decidable.not_not, Int.toNat_natCast, zpt_at, zpt_ne, pk_us, pk_un, forall_eq, tn_0, tn_1, tn_2, tn_3, tn_4, tn_5, ni_1, ni_2, ni_3, ni_4, ni_5, not_false_eq_true, not_true_eq_false, true_implies, false_implies, and_true, true_and, iL_6, iL_m6, iL_7, iL_8, iL_9, iL_4, iL_m4, iL_m8, li_0, li_1, li_2, li_3, li_4, li_5, li_6, li_7, li_8, li_9, li_10, li_11, li_12, li_13, li_15, li_16, li_18, li_20, li_24, li_31, li_32, li_40, li_46, li_48, li_57, li_59, li_60, li_61, li_63, li_64, li_97, li_99, li_122, li_124, li_150, li_255, li_480, li_488, li_600, li_999, li_1110, li_54]
    refine s_copies (o1 := 27) (o2 := 26) (N1 := 1110) (N2 := 1110) (a := 0) (b := 0) rfl (by decide) rfl (by decide) (by decide) (by decide) (by decide) ⟨by decide, by decide⟩ ?_
    have e27 : (cd σ 0).1 27 = σ.1 27 := zpt_ne (by decide)
    rw [cd_m hm 0, e27, put_row hc (hca rfl).1 (fun k hk => by rw [Nat.zero_add]; exact h2 rfl k hk)]
    try simp (disch := omega) only [iI_add, iI_sub, iI_mul, iI_neg, iI_n, iI_lt, iI_le, iI_eq, iI_tn, iI_ti, bI_0, bI_1, iI_L, iL_0, Decidable.not_not, Int.toNat_natCast, zpt_at, zpt_ne, pk_us, pk_un, forall_eq, tn_0, tn_1, tn_2, tn_3, tn_4, tn_5, ni_1, ni_2, ni_3, ni_4, ni_5, not_false_eq_true, not_true_eq_false, true_implies, false_implies, and_true, true_and, iL_6, iL_m6, iL_7, iL_8, iL_9, iL_4, iL_m4, iL_m8, li_0, li_1, li_2, li_3, li_4, li_5, li_6, li_7, li_8, li_9, li_10, li_11, li_12, li_13, li_15, li_16, li_18, li_20, li_24, li_31, li_32, li_40, li_46, li_48, li_57, li_59, li_60, li_61, li_63, li_64, li_97, li_99, li_122, li_124, li_150, li_255, li_480, li_488, li_600, li_999, li_1110, li_54]
    rw [wf_1 (hca rfl).2]
    refine H1 rfl _ ((((FM.rf [26] [0, 18] σ).cd (by decide) 0).pt (by decide) (by decide) _).fl (by decide) _) ?_ ?_ ?_
    · rw [zpt_at, pk_un (by decide), zpt_ne (by decide), zpt_at, pk_us]
    · rw [zpt_at, pk_us]
    · rw [zpt_ne (by decide), zpt_at]
/-- a report's bytes -/
def sgN (v : Int) : Nat := if v = -2 then 124 else if v = -1 then 46 else (48 + v).toNat
def rpB (m : Nat → Int32) (a : Int) (i : Nat) : Nat := if i % (cols m + 1) < cols m then sgN (snN m a (i % (cols m + 1)) (i / (cols m + 1))) else 10
def RpM (σ : zS) (n : Nat) (f : Nat → Nat) : Prop := n ≤ 488 ∧ σ.1 24 34 = iI n ∧ (σ.1 24 35 = iI 1 ∨ (σ.1 24 35 = iI 0 ∧ n = 0)) ∧ ∀ i, i < n → σ.1 40 i = iI (f i)
theorem RpM.fr {σ τ : zS} {n : Nat} {f : Nat → Nat} (H : RpM σ n f) (h1 : τ.1 24 34 = σ.1 24 34) (h2 : τ.1 24 35 = σ.1 24 35) (h3 : τ.1 40 = σ.1 40) : RpM τ n f := ⟨H.1, h1.trans H.2.1, by rw [h2]; exact H.2.2.1, fun i hi => by rw [h3]; exact H.2.2.2 i hi⟩
theorem s_tell {K : zS → Prop} {n v : Nat} {f : Nat → Nat} (hR : RpM σ n f) (h1 : σ.1 24 35 = iI 1) (hn : n < 488) (hv : v = f n) (H : ∀ τ, FM [40] [0, 34, 35] σ τ → τ.1 24 0 = σ.1 24 0 → τ.1 24 35 = iI 1 → RpM τ (n + 1) f → K τ) : CT g l M_X7_tell 0 [.ref (zad g 24), .int (iI v)] σ (zQv K X) := by
  obtain ⟨h0, h2, h3, h4⟩ := hR
  refine b_X7_tell ?_
  rw [h2, tnk hn (by omega)]
  refine ⟨iI_in (by omega) (by omega) (by omega), ?_⟩
  try simp (disch := omega) only [iI_add, iI_sub, iI_mul, iI_neg, iI_n, iI_lt, iI_le, iI_eq, iI_tn, iI_ti, bI_0, bI_1, iI_L, iL_0, Decidable.not_not, Int.toNat_natCast, zpt_at, zpt_ne, pk_us, pk_un, forall_eq, tn_0, tn_1, tn_2, tn_3, tn_4, tn_5, ni_1, ni_2, ni_3, ni_4, ni_5, not_false_eq_true, not_true_eq_false, true_implies, false_implies, and_true, true_and, iL_6, iL_m6, iL_7, iL_8, iL_9, iL_4, iL_m4, iL_m8, li_0, li_1, li_2, li_3, li_4, li_5, li_6, li_7, li_8, li_9, li_10, li_11, li_12, li_13, li_15, li_16, li_18, li_20, li_24, li_31, li_32, li_40, li_46, li_48, li_57, li_59, li_60, li_61, li_63, li_64, li_97, li_99, li_122, li_124, li_150, li_255, li_480, li_488, li_600, li_999, li_1110, li_54]
  rw [h2, iI_add]
  refine H _ (((FM.rf [40] [0, 34, 35] σ).pt (by decide) (by decide) _).fl (by decide) _) ?_ ?_ ⟨by omega, ?_, Or.inl ?_, fun i hi => ?_⟩
  · rw [zpt_at, pk_un (by decide), zpt_ne (by decide)]
  · rw [zpt_at, pk_un (by decide), zpt_ne (by decide)]; exact h1
  · rw [zpt_at, pk_us]; rfl
  · rw [zpt_at, pk_un (by decide), zpt_ne (by decide)]; exact h1
  · rw [zpt_ne (by decide), zpt_at]
    by_cases e : i = n
    · subst e; rw [pk_us, hv]
    · rw [pk_un e]; exact h4 i (by omega)
theorem sn_b (hw : WF m) {c r : Nat} (hc : c < cols m) (hr : r < 8) (a : Int) : -2 ≤ snN m a c r ∧ snN m a c r ≤ 9 := by
  have hcl := cols_le hw
  have hfl : cS m a c r ≤ 9 := wf_f9 hw (sdS_lt m a c) (c := c) (r := r) (by omega) hr
  unfold snN
  split
  · omega
  · split <;> omega
theorem s_report_30 {σ0 : zS} (hm : σ0.1 26 = m) (hw : WF m) {a : Int} (ha : -6 ≤ a ∧ a ≤ 6) (H : ∀ τ, FM [40] [0, 34, 35] σ0 τ → τ.1 24 0 = iI 0 → RpM τ (nH m * (cols m + 1)) (rpB m a) → K (iI (nH m * (cols m + 1) : Nat)) τ) (r : Nat) (hr : r ≤ nH m) (σ : zS) (hF : FM [40] [0, 34, 35] σ0 σ) (h0 : σ.1 24 0 = iI 0) (h1 : σ.1 24 35 = iI 1) (hR : RpM σ (r * (cols m + 1)) (rpB m a)) : L_X7_report_30 g l K X (iI a) (iI (cols m)) (iI r) σ := by
  have hb := wf_b hw
  have hcl := cols_le hw
  have ih := fun h σ h1 h2 h3 h4 => s_report_30 hm hw ha H (r + 1) h σ h1 h2 h3 h4
  have inner : ∀ n c, c + n = cols m → r < nH m → ∀ τ, FM [40] [0, 34, 35] σ0 τ → τ.1 24 0 = iI 0 → τ.1 24 35 = iI 1 → RpM τ (r * (cols m + 1) + c) (rpB m a) → L_X7_report_43 g l K X (iI a) (iI (cols m)) (iI r) (iI c) τ := fun n => by
    induction n with
    | zero =>
      intro c e h τ hF0 g0 g1 hR0
      obtain rfl : c = cols m := by omega
      have hlt : (r + 1) * (cols m + 1) ≤ 8 * 61 := Nat.mul_le_mul (by omega) (by omega)
      rw [Nat.add_mul, Nat.one_mul] at hlt
      refine b_X7_report_43 ?_
      try simp (disch := omega) only [iI_add, iI_sub, iI_mul, iI_neg, iI_n, iI_lt, iI_le, iI_eq, iI_tn, iI_ti, bI_0, bI_1, iI_L, iL_0, Decidable.not_not, Int.toNat_natCast, zpt_at, zpt_ne, pk_us, pk_un, forall_eq, tn_0, tn_1, tn_2, tn_3, tn_4, tn_5, ni_1, ni_2, ni_3, ni_4, ni_5, not_false_eq_true, not_true_eq_false, true_implies, false_implies, and_true, true_and, iL_6, iL_m6, iL_7, iL_8, iL_9, iL_4, iL_m4, iL_m8, li_0, li_1, li_2, li_3, li_4, li_5, li_6, li_7, li_8, li_9, li_10, li_11, li_12, li_13, li_15, li_16, li_18, li_20, li_24, li_31, li_32, li_40, li_46, li_48, li_57, li_59, li_60, li_61, li_63, li_64, li_97, li_99, li_122, li_124, li_150, li_255, li_480, li_488, li_600, li_999, li_1110, li_54]
      refine ⟨fun _ => ?_, fun h => by omega⟩
      refine s_tell (v := 10) hR0 g1 (by omega) ?_ (fun υ hF1 e0 e1 hR1 => ?_)
      · unfold rpB
        rw [Nat.mul_comm, Nat.mul_add_mod, Nat.mod_eq_of_lt (by omega), if_neg (by omega)]
      · exact ih h υ (hF0.tr hF1) (e0.trans g0) e1 (by rw [Nat.add_mul, Nat.one_mul]; exact hR1)
    | succ n ihn =>
      intro c e h τ hF0 g0 g1 hR0
      have hc : c < cols m := by omega
      have hlt : (r + 1) * (cols m + 1) ≤ 8 * 61 := Nat.mul_le_mul (by omega) (by omega)
      rw [Nat.add_mul, Nat.one_mul] at hlt
      have hsb := sn_b hw hc (r := r) (by omega) a
      have hrp : rpB m a (r * (cols m + 1) + c) = sgN (snN m a c r) := by
        unfold rpB
        rw [Nat.mul_comm, Nat.mul_add_mod, Nat.mod_eq_of_lt (by omega), if_pos hc, Nat.mul_add_div (by omega), Nat.div_eq_of_lt (by omega), Nat.add_zero]
      refine b_X7_report_43 ?_
      try simp (disch := omega) only [iI_add, iI_sub, iI_mul, iI_neg, iI_n, iI_lt, iI_le, iI_eq, iI_tn, iI_ti, bI_0, bI_1, iI_L, iL_0, Decidable.not_not, Int.toNat_natCast, zpt_at, zpt_ne, pk_us, pk_un, forall_eq, tn_0, tn_1, tn_2, tn_3, tn_4, tn_5, ni_1, ni_2, ni_3, ni_4, ni_5, not_false_eq_true, not_true_eq_false, true_implies, false_implies, and_true, true_and, iL_6, iL_m6, iL_7, iL_8, iL_9, iL_4, iL_m4, iL_m8, li_0, li_1, li_2, li_3, li_4, li_5, li_6, li_7, li_8, li_9, li_10, li_11, li_12, li_13, li_15, li_16, li_18, li_20, li_24, li_31, li_32, li_40, li_46, li_48, li_57, li_59, li_60, li_61, li_63, li_64, li_97, li_99, li_122, li_124, li_150, li_255, li_480, li_488, li_600, li_999, li_1110, li_54]
      refine ⟨fun h => by omega, fun _ => ?_⟩
      refine s_seenAt (m := m) ((hF0.1 26 (by decide) (by decide)).trans hm) hw hc (by omega) ha ?_
      try simp (disch := omega) only [iI_add, iI_sub, iI_mul, iI_neg, iI_n, iI_lt, iI_le, iI_eq, iI_tn, iI_ti, bI_0, bI_1, iI_L, iL_0, Decidable.not_not, Int.toNat_natCast, zpt_at, zpt_ne, pk_us, pk_un, forall_eq, tn_0, tn_1, tn_2, tn_3, tn_4, tn_5, ni_1, ni_2, ni_3, ni_4, ni_5, not_false_eq_true, not_true_eq_false, true_implies, false_implies, and_true, true_and, iL_6, iL_m6, iL_7, iL_8, iL_9, iL_4, iL_m4, iL_m8, li_0, li_1, li_2, li_3, li_4, li_5, li_6, li_7, li_8, li_9, li_10, li_11, li_12, li_13, li_15, li_16, li_18, li_20, li_24, li_31, li_32, li_40, li_46, li_48, li_57, li_59, li_60, li_61, li_63, li_64, li_97, li_99, li_122, li_124, li_150, li_255, li_480, li_488, li_600, li_999, li_1110, li_54]
      have nx : ∀ υ, FM [40] [0, 34, 35] τ υ → υ.1 24 0 = τ.1 24 0 → υ.1 24 35 = iI 1 → RpM υ (r * (cols m + 1) + c + 1) (rpB m a) → L_X7_report_43 g l K X (iI a) (iI ↑(cols m)) (iI ↑r) (iI ((c : Int) + 1)) υ := fun υ hF1 e0 e1 hR1 => ihn (c + 1) (by omega) h υ (hF0.tr hF1) (e0.trans g0) e1 hR1
      refine ⟨fun h2 => ⟨fun h3 => ?_, fun h3 => ?_⟩, fun h2 => ?_⟩
      · rw [show (48 + snN m a c r) = (((48 + snN m a c r).toNat : Nat) : Int) by omega]
        refine s_tell hR0 g1 (by omega) ?_ nx
        rw [hrp]; unfold sgN; rw [if_neg h2, if_neg h3]
      · refine s_tell (v := 46) hR0 g1 (by omega) ?_ nx
        rw [hrp]; unfold sgN; rw [if_neg h2, if_pos h3]
      · refine s_tell (v := 124) hR0 g1 (by omega) ?_ nx
        rw [hrp]; unfold sgN; rw [if_pos h2]
  refine b_X7_report_30 ?_
  rw [show (Int32.toNatClampNeg 0) = 0 from rfl, hF.1 26 (by decide) (by decide), hm, wf_0 hw]
  try simp (disch := omega) only [iI_add, iI_sub, iI_mul, iI_neg, iI_n, iI_lt, iI_le, iI_eq, iI_tn, iI_ti, bI_0, bI_1, iI_L, iL_0, Decidable.not_not, Int.toNat_natCast, zpt_at, zpt_ne, pk_us, pk_un, forall_eq, tn_0, tn_1, tn_2, tn_3, tn_4, tn_5, ni_1, ni_2, ni_3, ni_4, ni_5, not_false_eq_true, not_true_eq_false, true_implies, false_implies, and_true, true_and, iL_6, iL_m6, iL_7, iL_8, iL_9, iL_4, iL_m4, iL_m8, li_0, li_1, li_2, li_3, li_4, li_5, li_6, li_7, li_8, li_9, li_10, li_11, li_12, li_13, li_15, li_16, li_18, li_20, li_24, li_31, li_32, li_40, li_46, li_48, li_57, li_59, li_60, li_61, li_63, li_64, li_97, li_99, li_122, li_124, li_150, li_255, li_480, li_488, li_600, li_999, li_1110, li_54]
  refine ⟨fun h => ?_, fun h => inner (cols m) 0 (by omega) (by omega) σ hF h0 h1 hR⟩
  obtain rfl : r = nH m := by omega
  rw [hR.2.1]
  exact H σ hF h0 hR
termination_by nH m - r
theorem s_report (hm : σ.1 26 = m) (hw : WF m) {a : Int} (ha : I32 a) (H0 : (-6 ≤ a ∧ a ≤ 6) → ∀ τ, FM [40] [0, 34, 35] σ τ → τ.1 24 0 = iI 0 → RpM τ (nH m * (cols m + 1)) (rpB m a) → K (iI (nH m * (cols m + 1) : Nat)) τ) (H1 : ¬ (-6 ≤ a ∧ a ≤ 6) → K (iI 0) (cd σ 1)) : CT g l M_X7_report 0 [.ref (zad g 24), .int (iI a)] σ (zQi K X) := by
  refine b_X7_report (s_isAngle ha (s_goes (fun h => ?_) (fun h => ?_)))
  · simp only [forall_eq, li_1, li_0, (by decide : (iI 1 = iI 0) = False), not_false_eq_true, true_implies, false_implies, and_true]
    have hF : FM [40] [0, 34, 35] σ (zup (zup (cd σ 0) 24 34 (iI 0)) 24 35 (iI 1)) := (((FM.rf [40] [0, 34, 35] σ).cd (by decide) 0).fl (by decide) _).fl (by decide) _
    have hm2 : (zup (zup (cd σ 0) 24 34 (iI 0)) 24 35 (iI 1)).1 26 = m := (hF.1 26 (by decide) (by decide)).trans hm
    refine s_columns hm2 hw ?_
    refine s_report_30 hm hw h (H0 h) 0 (Nat.zero_le _) _ hF ?_ ?_ ⟨by omega, ?_, Or.inl ?_, fun i hi => by omega⟩
    · rw [zpt_at, pk_un (by decide), zpt_at, pk_un (by decide), zpt_at, pk_us]
    · rw [zpt_at, pk_us]
    · rw [zpt_at, pk_un (by decide), zpt_at, pk_us, Nat.zero_mul]; rfl
    · rw [zpt_at, pk_us]
  · try simp (disch := omega) only [iI_add, iI_sub, iI_mul, iI_neg, iI_n, iI_lt, iI_le, iI_eq, iI_tn, iI_ti, bI_0, bI_1, iI_L, iL_0, Decidable.not_not, Int.toNat_natCast, zpt_at, zpt_ne, pk_us, pk_un, forall_eq, tn_0, tn_1, tn_2, tn_3, tn_4, tn_5, ni_1, ni_2, ni_3, ni_4, ni_5, not_false_eq_true, not_true_eq_false, true_implies, false_implies, and_true, true_and, iL_6, iL_m6, iL_7, iL_8, iL_9, iL_4, iL_m4, iL_m8, li_0, li_1, li_2, li_3, li_4, li_5, li_6, li_7, li_8, li_9, li_10, li_11, li_12, li_13, li_15, li_16, li_18, li_20, li_24, li_31, li_32, li_40, li_46, li_48, li_57, li_59, li_60, li_61, li_63, li_64, li_97, li_99, li_122, li_124, li_150, li_255, li_480, li_488, li_600, li_999, li_1110, li_54]
    exact H1 h
theorem s_reportByte {n : Nat} {f : Nat → Nat} (hR : RpM σ n f) {x : Int} (hx : I32 x) (H0 : ∀ i : Nat, x = i → i < n → K (iI (f i)) (cd σ 0)) (H1 : ¬ (0 ≤ x ∧ x < n) → K (iI 0) (cd σ 1)) : CT g l M_X7_reportByte 0 [.ref (zad g 24), .int (iI x)] σ (zQi K X) := by
  obtain ⟨h0, h2, h3, h4⟩ := hR
  refine b_X7_reportByte ?_
  rw [h2]
  try simp (disch := omega) only [iI_add, iI_sub, iI_mul, iI_neg, iI_n, iI_lt, iI_le, iI_eq, iI_tn, iI_ti, bI_0, bI_1, iI_L, iL_0, Decidable.not_not, Int.toNat_natCast, zpt_at, zpt_ne, pk_us, pk_un, forall_eq, tn_0, tn_1, tn_2, tn_3, tn_4, tn_5, ni_1, ni_2, ni_3, ni_4, ni_5, not_false_eq_true, not_true_eq_false, true_implies, false_implies, and_true, true_and, iL_6, iL_m6, iL_7, iL_8, iL_9, iL_4, iL_m4, iL_m8, li_0, li_1, li_2, li_3, li_4, li_5, li_6, li_7, li_8, li_9, li_10, li_11, li_12, li_13, li_15, li_16, li_18, li_20, li_24, li_31, li_32, li_40, li_46, li_48, li_57, li_59, li_60, li_61, li_63, li_64, li_97, li_99, li_122, li_124, li_150, li_255, li_480, li_488, li_600, li_999, li_1110, li_54]
  refine ⟨fun e => s_goes0 ?_, fun e => ?_⟩
  · try simp (disch := omega) only [iI_add, iI_sub, iI_mul, iI_neg, iI_n, iI_lt, iI_le, iI_eq, iI_tn, iI_ti, bI_0, bI_1, iI_L, iL_0, Decidable.not_not, Int.toNat_natCast, zpt_at, zpt_ne, pk_us, pk_un, forall_eq, tn_0, tn_1, tn_2, tn_3, tn_4, tn_5, ni_1, ni_2, ni_3, ni_4, ni_5, not_false_eq_true, not_true_eq_false, true_implies, false_implies, and_true, true_and, iL_6, iL_m6, iL_7, iL_8, iL_9, iL_4, iL_m4, iL_m8, li_0, li_1, li_2, li_3, li_4, li_5, li_6, li_7, li_8, li_9, li_10, li_11, li_12, li_13, li_15, li_16, li_18, li_20, li_24, li_31, li_32, li_40, li_46, li_48, li_57, li_59, li_60, li_61, li_63, li_64, li_97, li_99, li_122, li_124, li_150, li_255, li_480, li_488, li_600, li_999, li_1110, li_54]
    rcases h3 with q | ⟨q, q'⟩
    · rw [q] at e; exact absurd e (by decide)
    · exact H1 (by omega)
  · refine s_isIn (by omega) (by omega) (by omega) (by omega) (by omega) (by omega) ?_
    try simp (disch := omega) only [iI_add, iI_sub, iI_mul, iI_neg, iI_n, iI_lt, iI_le, iI_eq, iI_tn, iI_ti, bI_0, bI_1, iI_L, iL_0, Decidable.not_not, Int.toNat_natCast, zpt_at, zpt_ne, pk_us, pk_un, forall_eq, tn_0, tn_1, tn_2, tn_3, tn_4, tn_5, ni_1, ni_2, ni_3, ni_4, ni_5, not_false_eq_true, not_true_eq_false, true_implies, false_implies, and_true, true_and, iL_6, iL_m6, iL_7, iL_8, iL_9, iL_4, iL_m4, iL_m8, li_0, li_1, li_2, li_3, li_4, li_5, li_6, li_7, li_8, li_9, li_10, li_11, li_12, li_13, li_15, li_16, li_18, li_20, li_24, li_31, li_32, li_40, li_46, li_48, li_57, li_59, li_60, li_61, li_63, li_64, li_97, li_99, li_122, li_124, li_150, li_255, li_480, li_488, li_600, li_999, li_1110, li_54]
    refine ⟨fun h => s_goes0 ?_, fun h => s_goes1 ?_⟩
    · try simp (disch := omega) only [iI_add, iI_sub, iI_mul, iI_neg, iI_n, iI_lt, iI_le, iI_eq, iI_tn, iI_ti, bI_0, bI_1, iI_L, iL_0, Decidable.not_not, Int.toNat_natCast, zpt_at, zpt_ne, pk_us, pk_un, forall_eq, tn_0, tn_1, tn_2, tn_3, tn_4, tn_5, ni_1, ni_2, ni_3, ni_4, ni_5, not_false_eq_true, not_true_eq_false, true_implies, false_implies, and_true, true_and, iL_6, iL_m6, iL_7, iL_8, iL_9, iL_4, iL_m4, iL_m8, li_0, li_1, li_2, li_3, li_4, li_5, li_6, li_7, li_8, li_9, li_10, li_11, li_12, li_13, li_15, li_16, li_18, li_20, li_24, li_31, li_32, li_40, li_46, li_48, li_57, li_59, li_60, li_61, li_63, li_64, li_97, li_99, li_122, li_124, li_150, li_255, li_480, li_488, li_600, li_999, li_1110, li_54]
      exact H1 (by omega)
    · obtain ⟨i, rfl, hi⟩ := nat_of (n := n) (show 0 ≤ x ∧ x < (n : Nat) by omega)
      try simp (disch := omega) only [iI_add, iI_sub, iI_mul, iI_neg, iI_n, iI_lt, iI_le, iI_eq, iI_tn, iI_ti, bI_0, bI_1, iI_L, iL_0, Decidable.not_not, Int.toNat_natCast, zpt_at, zpt_ne, pk_us, pk_un, forall_eq, tn_0, tn_1, tn_2, tn_3, tn_4, tn_5, ni_1, ni_2, ni_3, ni_4, ni_5, not_false_eq_true, not_true_eq_false, true_implies, false_implies, and_true, true_and, iL_6, iL_m6, iL_7, iL_8, iL_9, iL_4, iL_m4, iL_m8, li_0, li_1, li_2, li_3, li_4, li_5, li_6, li_7, li_8, li_9, li_10, li_11, li_12, li_13, li_15, li_16, li_18, li_20, li_24, li_31, li_32, li_40, li_46, li_48, li_57, li_59, li_60, li_61, li_63, li_64, li_97, li_99, li_122, li_124, li_150, li_255, li_480, li_488, li_600, li_999, li_1110, li_54]
      refine ⟨iI_in (by omega) (by omega) (by omega), ?_⟩
      rw [h4 i hi]
      exact H0 i rfl hi
/-- a byte of an int -/
def tbv (v : Int32) (k : Nat) : Nat := v.toBitVec.toNat / 2 ^ k % 2 ^ 8
theorem tbv_lt (v : Int32) (k : Nat) : tbv v k < 256 := Nat.mod_lt _ (by decide)
theorem tbv_bit (v : Int32) (k i : Nat) : (tbv v k).testBit i = (decide (i < 8) && bt v (k + i)) := by
  unfold tbv bt
  rw [Nat.testBit_mod_two_pow, Nat.testBit_div_two_pow, BitVec.getLsbD, Nat.add_comm i]
theorem tbv_s {v : Int32} {k : Nat} (hk : k ≤ 24) : (v >>> (iI (k : Int) &&& 31)) &&& 255 = iI (tbv v k) := by
  apply b_ext
  intro i hi
  rw [b_and, b_255, show iI (k : Int) = nI k from rfl, b_sshr k (by omega) v hi, show iI (tbv v k : Int) = nI (tbv v k) from rfl, bt_nI _ _ hi, tbv_bit]
  by_cases h : i < 8
  · rw [if_pos (by omega)]; simp [h]
  · simp [h]
def TxM (σ : zS) (n : Nat) (f : Nat → Nat) : Prop := n ≤ 600 ∧ σ.1 24 2 = iI n ∧ ∀ i, i < n → σ.1 25 i = iI (f i) ∧ f i < 256
theorem TxM.fr {σ τ : zS} {n : Nat} {f : Nat → Nat} (H : TxM σ n f) (h1 : τ.1 24 2 = σ.1 24 2) (h2 : τ.1 25 = σ.1 25) : TxM τ n f := ⟨H.1, h1.trans H.2.1, fun i hi => by rw [h2]; exact H.2.2 i hi⟩
/-- four bytes more -/
def app (f : Nat → Nat) (n : Nat) (v : Int32) : Nat → Nat := fun i => if i < n then f i else tbv v (24 - 8 * (i - n))
theorem s_four_3 {K : zS → Prop} {σ0 : zS} {n : Nat} {f : Nat → Nat} {v : Int32} (hn : n + 4 ≤ 600) (H : ∀ τ, FM [25] [2] σ0 τ → TxM τ (n + 4) (app f n v) → K τ) (j : Nat) (hj : j ≤ 4) (σ : zS) (hF : FM [25] [2] σ0 σ) (hT : TxM σ (n + j) (app f n v)) : L_X7_four_3 g l K X v (iI (24 - 8 * (j : Int))) σ := by
  have ih := fun h σ h1 h2 => s_four_3 hn H (j + 1) h σ h1 h2
  refine b_X7_four_3 ?_
  rw [hT.2.1]
  try simp (disch := omega) only [iI_add, iI_sub, iI_mul, iI_neg, iI_n, iI_lt, iI_le, iI_eq, iI_tn, iI_ti, bI_0, bI_1, iI_L, iL_0, Decidable.not_not, Int.toNat_natCast, zpt_at, zpt_ne, pk_us, pk_un, forall_eq, tn_0, tn_1, tn_2, tn_3, tn_4, tn_5, ni_1, ni_2, ni_3, ni_4, ni_5, not_false_eq_true, not_true_eq_false, true_implies, false_implies, and_true, true_and, iL_6, iL_m6, iL_7, iL_8, iL_9, iL_4, iL_m4, iL_m8, li_0, li_1, li_2, li_3, li_4, li_5, li_6, li_7, li_8, li_9, li_10, li_11, li_12, li_13, li_15, li_16, li_18, li_20, li_24, li_31, li_32, li_40, li_46, li_48, li_57, li_59, li_60, li_61, li_63, li_64, li_97, li_99, li_122, li_124, li_150, li_255, li_480, li_488, li_600, li_999, li_1110, li_54]
  refine ⟨fun h => ?_, fun h => ⟨iI_in (by omega) (by omega) (by omega), ?_⟩⟩
  · obtain rfl : j = 4 := by omega
    exact H σ hF hT
  · replace ih := ih (by omega)
    rw [show (24 - 8 * (j : Int)) = ((24 - 8 * j : Nat) : Int) by omega]
    have e := tbv_s (v := v) (k := 24 - 8 * j) (by omega)
    rw [show (31 : Int32) = iI 31 from rfl, show (255 : Int32) = iI 255 from rfl] at e
    rw [e, hT.2.1]
    try simp (disch := omega) only [iI_add, iI_sub, iI_mul, iI_neg, iI_n, iI_lt, iI_le, iI_eq, iI_tn, iI_ti, bI_0, bI_1, iI_L, iL_0, Decidable.not_not, Int.toNat_natCast, zpt_at, zpt_ne, pk_us, pk_un, forall_eq, tn_0, tn_1, tn_2, tn_3, tn_4, tn_5, ni_1, ni_2, ni_3, ni_4, ni_5, not_false_eq_true, not_true_eq_false, true_implies, false_implies, and_true, true_and, iL_6, iL_m6, iL_7, iL_8, iL_9, iL_4, iL_m4, iL_m8, li_0, li_1, li_2, li_3, li_4, li_5, li_6, li_7, li_8, li_9, li_10, li_11, li_12, li_13, li_15, li_16, li_18, li_20, li_24, li_31, li_32, li_40, li_46, li_48, li_57, li_59, li_60, li_61, li_63, li_64, li_97, li_99, li_122, li_124, li_150, li_255, li_480, li_488, li_600, li_999, li_1110, li_54]
    rw [show ((24 - 8 * j : Nat) : Int) + -8 = 24 - 8 * ((j + 1 : Nat) : Int) by omega]
    refine ih _ ((hF.pt (by decide) (by decide) _).fl (by decide) _) ⟨by omega, ?_, fun i hi => ?_⟩
    · rw [zpt_at, pk_us]; rfl
    · rw [zpt_ne (by decide), zpt_at]
      by_cases e2 : i = n + j
      · subst e2
        rw [pk_us]
        unfold app
        rw [if_neg (by omega), show n + j - n = j by omega]
        exact ⟨rfl, tbv_lt _ _⟩
      · rw [pk_un e2]; exact hT.2.2 i (by omega)
termination_by 4 - j
theorem app_TxM {n : Nat} {f : Nat → Nat} {v : Int32} (hT : TxM σ n f) : TxM σ n (app f n v) := ⟨hT.1, hT.2.1, fun i hi => by
  unfold app
  rw [if_pos hi]
  exact hT.2.2 i hi⟩
theorem s_four {K : zS → Prop} {n : Nat} {f : Nat → Nat} {v : Int32} (hT : TxM σ n f) (hn : n + 4 ≤ 600) (H : ∀ τ, FM [25] [2] σ τ → TxM τ (n + 4) (app f n v) → K τ) : CT g l M_X7_four 0 [.ref (zad g 24), .int v] σ (zQv K X) :=
  b_X7_four (s_four_3 hn H 0 (by omega) σ (FM.rf _ _ _) (app_TxM hT))
def app5 (f : Nat → Nat) (n : Nat) (a b c d e : Int32) : Nat → Nat := app (app (app (app (app f n a) (n + 4) b) (n + 8) c) (n + 12) d) (n + 16) e
theorem s_feed {n : Nat} {f : Nat → Nat} {a b c d e : Int32} (hT : TxM σ n f) (H0 : n + 20 ≤ 600 → ∀ τ, FM [25] [0, 2] σ τ → τ.1 24 0 = iI 0 → TxM τ (n + 20) (app5 f n a b c d e) → K (iI (n + 20 : Nat)) τ) (H1 : ¬ n + 20 ≤ 600 → K (iI 0) (cd σ 1)) : CT g l M_X7_feed 0 [.ref (zad g 24), .int a, .int b, .int c, .int d, .int e] σ (zQi K X) := by
  have hn := hT.1
  refine b_X7_feed ?_
  rw [hT.2.1]
  try simp (disch := omega) only [iI_add, iI_sub, iI_mul, iI_neg, iI_n, iI_lt, iI_le, iI_eq, iI_tn, iI_ti, bI_0, bI_1, iI_L, iL_0, Decidable.not_not, Int.toNat_natCast, zpt_at, zpt_ne, pk_us, pk_un, forall_eq, tn_0, tn_1, tn_2, tn_3, tn_4, tn_5, ni_1, ni_2, ni_3, ni_4, ni_5, not_false_eq_true, not_true_eq_false, true_implies, false_implies, and_true, true_and, iL_6, iL_m6, iL_7, iL_8, iL_9, iL_4, iL_m4, iL_m8, li_0, li_1, li_2, li_3, li_4, li_5, li_6, li_7, li_8, li_9, li_10, li_11, li_12, li_13, li_15, li_16, li_18, li_20, li_24, li_31, li_32, li_40, li_46, li_48, li_57, li_59, li_60, li_61, li_63, li_64, li_97, li_99, li_122, li_124, li_150, li_255, li_480, li_488, li_600, li_999, li_1110, li_54]
  refine ⟨fun h => s_goes0 ?_, fun h => s_goes1 ?_⟩
  · try simp (disch := omega) only [iI_add, iI_sub, iI_mul, iI_neg, iI_n, iI_lt, iI_le, iI_eq, iI_tn, iI_ti, bI_0, bI_1, iI_L, iL_0, Decidable.not_not, Int.toNat_natCast, zpt_at, zpt_ne, pk_us, pk_un, forall_eq, tn_0, tn_1, tn_2, tn_3, tn_4, tn_5, ni_1, ni_2, ni_3, ni_4, ni_5, not_false_eq_true, not_true_eq_false, true_implies, false_implies, and_true, true_and, iL_6, iL_m6, iL_7, iL_8, iL_9, iL_4, iL_m4, iL_m8, li_0, li_1, li_2, li_3, li_4, li_5, li_6, li_7, li_8, li_9, li_10, li_11, li_12, li_13, li_15, li_16, li_18, li_20, li_24, li_31, li_32, li_40, li_46, li_48, li_57, li_59, li_60, li_61, li_63, li_64, li_97, li_99, li_122, li_124, li_150, li_255, li_480, li_488, li_600, li_999, li_1110, li_54]
    exact H1 (by omega)
  · try simp (disch := omega) only [iI_add, iI_sub, iI_mul, iI_neg, iI_n, iI_lt, iI_le, iI_eq, iI_tn, iI_ti, bI_0, bI_1, iI_L, iL_0, Decidable.not_not, Int.toNat_natCast, zpt_at, zpt_ne, pk_us, pk_un, forall_eq, tn_0, tn_1, tn_2, tn_3, tn_4, tn_5, ni_1, ni_2, ni_3, ni_4, ni_5, not_false_eq_true, not_true_eq_false, true_implies, false_implies, and_true, true_and, iL_6, iL_m6, iL_7, iL_8, iL_9, iL_4, iL_m4, iL_m8, li_0, li_1, li_2, li_3, li_4, li_5, li_6, li_7, li_8, li_9, li_10, li_11, li_12, li_13, li_15, li_16, li_18, li_20, li_24, li_31, li_32, li_40, li_46, li_48, li_57, li_59, li_60, li_61, li_63, li_64, li_97, li_99, li_122, li_124, li_150, li_255, li_480, li_488, li_600, li_999, li_1110, li_54]
    have h0 := hT.fr (τ := cd σ 0) (by rw [zpt_at, pk_un (by decide)]) (zpt_ne (by decide))
    refine s_four h0 (by omega) (fun τ1 f1 t1 => s_four t1 (by omega) (fun τ2 f2 t2 => s_four t2 (by omega) (fun τ3 f3 t3 => s_four t3 (by omega) (fun τ4 f4 t4 => s_four t4 (by omega) (fun τ5 f5 t5 => ?_)))))
    have hF : FM [25] [2] (cd σ 0) τ5 := (((f1.tr f2).tr f3).tr f4).tr f5
    rw [t5.2.1]
    refine H0 (by omega) τ5 (((FM.rf [25] [0, 2] σ).cd (by decide) 0).tr (hF.sub (by decide) (by decide))) ?_ t5
    rw [hF.2.1 0 (by decide), zpt_at, pk_us]
theorem s_truncate {n : Nat} {f : Nat → Nat} (hT : TxM σ n f) {x : Int} (hx : I32 x) (H0 : ∀ i : Nat, x = i → i ≤ n → ∀ τ, FM [] [0, 2] σ τ → τ.1 24 0 = iI 0 → TxM τ i f → K (iI i) τ) (H1 : ¬ (0 ≤ x ∧ x ≤ n) → K (iI 0) (cd σ 1)) : CT g l M_X7_truncate 0 [.ref (zad g 24), .int (iI x)] σ (zQi K X) := by
  have hn := hT.1
  refine b_X7_truncate ?_
  rw [hT.2.1]
  try simp (disch := omega) only [iI_add, iI_sub, iI_mul, iI_neg, iI_n, iI_lt, iI_le, iI_eq, iI_tn, iI_ti, bI_0, bI_1, iI_L, iL_0, Decidable.not_not, Int.toNat_natCast, zpt_at, zpt_ne, pk_us, pk_un, forall_eq, tn_0, tn_1, tn_2, tn_3, tn_4, tn_5, ni_1, ni_2, ni_3, ni_4, ni_5, not_false_eq_true, not_true_eq_false, true_implies, false_implies, and_true, true_and, iL_6, iL_m6, iL_7, iL_8, iL_9, iL_4, iL_m4, iL_m8, li_0, li_1, li_2, li_3, li_4, li_5, li_6, li_7, li_8, li_9, li_10, li_11, li_12, li_13, li_15, li_16, li_18, li_20, li_24, li_31, li_32, li_40, li_46, li_48, li_57, li_59, li_60, li_61, li_63, li_64, li_97, li_99, li_122, li_124, li_150, li_255, li_480, li_488, li_600, li_999, li_1110, li_54]
  refine s_isIn (by omega) (by omega) (by omega) (by omega) (by omega) (by omega) (s_goes (fun h => ?_) (fun h => ?_))
  · obtain ⟨i, rfl, hi⟩ := nat_of (n := n + 1) (show 0 ≤ x ∧ x < ((n + 1 : Nat) : Int) by omega)
    try simp (disch := omega) only [iI_add, iI_sub, iI_mul, iI_neg, iI_n, iI_lt, iI_le, iI_eq, iI_tn, iI_ti, bI_0, bI_1, iI_L, iL_0, Decidable.not_not, Int.toNat_natCast, zpt_at, zpt_ne, pk_us, pk_un, forall_eq, tn_0, tn_1, tn_2, tn_3, tn_4, tn_5, ni_1, ni_2, ni_3, ni_4, ni_5, not_false_eq_true, not_true_eq_false, true_implies, false_implies, and_true, true_and, iL_6, iL_m6, iL_7, iL_8, iL_9, iL_4, iL_m4, iL_m8, li_0, li_1, li_2, li_3, li_4, li_5, li_6, li_7, li_8, li_9, li_10, li_11, li_12, li_13, li_15, li_16, li_18, li_20, li_24, li_31, li_32, li_40, li_46, li_48, li_57, li_59, li_60, li_61, li_63, li_64, li_97, li_99, li_122, li_124, li_150, li_255, li_480, li_488, li_600, li_999, li_1110, li_54]
    refine H0 i rfl (by omega) _ (((FM.rf [] [0, 2] σ).cd (by decide) 0).fl (by decide) _) ?_ ⟨by omega, ?_, fun j hj => ?_⟩
    · rw [zpt_at, pk_un (by decide), zpt_at, pk_us]
    · rw [zpt_at, pk_us]
    · rw [zpt_ne (by decide), zpt_ne (by decide)]; exact hT.2.2 j (by omega)
  · try simp (disch := omega) only [iI_add, iI_sub, iI_mul, iI_neg, iI_n, iI_lt, iI_le, iI_eq, iI_tn, iI_ti, bI_0, bI_1, iI_L, iL_0, Decidable.not_not, Int.toNat_natCast, zpt_at, zpt_ne, pk_us, pk_un, forall_eq, tn_0, tn_1, tn_2, tn_3, tn_4, tn_5, ni_1, ni_2, ni_3, ni_4, ni_5, not_false_eq_true, not_true_eq_false, true_implies, false_implies, and_true, true_and, iL_6, iL_m6, iL_7, iL_8, iL_9, iL_4, iL_m4, iL_m8, li_0, li_1, li_2, li_3, li_4, li_5, li_6, li_7, li_8, li_9, li_10, li_11, li_12, li_13, li_15, li_16, li_18, li_20, li_24, li_31, li_32, li_40, li_46, li_48, li_57, li_59, li_60, li_61, li_63, li_64, li_97, li_99, li_122, li_124, li_150, li_255, li_480, li_488, li_600, li_999, li_1110, li_54]
    exact H1 h
end ZMZ
