/-! the reference: what comes of a text -/
section ZMR
variable {g : zG} {l : Launch} {K : Int32 → zS → Prop} {X : String → zS → Prop} {σ : zS} {f : Nat → Nat} {n p : Nat} {m : Nat → Int32}
theorem wF_wF (F G : Nat → Nat → Nat → Nat) : wF (wF m F) G = wF m G := by
  funext q
  unfold wF
  by_cases h : 150 ≤ q ∧ q < 1110
  · rw [if_pos h, if_pos h]
  · rw [if_neg h, if_neg h, if_neg h]
noncomputable def paF (m : Nat → Int32) (x0 x1 : Nat) : Nat → Nat → Nat → Nat := fun s c r => if c < (if s = 0 then x0 else x1) ∧ r < nH m then pic m s c r else fc m s c r
theorem paF_9 (hw : WF m) (x0 x1 : Nat) : ∀ s c r, s < 2 → c < 60 → r < 8 → paF m x0 x1 s c r ≤ 9 := fun s c r h1 h2 h3 => by
  have a := pic_le hw s c r
  have b := wf_f9 hw h1 h2 h3
  unfold paF; (repeat' split) <;> omega
theorem pa_rp (hw : WF m) {x0 x1 k s : Nat} (hk : k < nS m) (hs : s < 2) (hx : (if s = 0 then x0 else x1) = fst m k) : wF (wF m (paF m x0 x1)) (rpF (wF m (paF m x0 x1)) k s) = wF m (paF m (if s = 0 then fst m (k + 1) else x0) (if s = 0 then x1 else fst m (k + 1))) := by
  have hwb := wf_b hw
  have hb := wF_b (m := m) (paF m x0 x1)
  rw [wF_wF]
  refine wF_cong (fun s' c r h1 h2 h3 => ?_)
  unfold rpF
  rw [hb.1.e_fst (by omega), hb.1.e_wd (by omega), hb.1.e_nH, hb.2.e_pic hw, wF_fc h1 h2 h3 (paF_9 hw x0 x1 s' c r h1 h2 h3), fst_succ]
  unfold paF
  rcases (by omega : s = 0 ∨ s = 1) with e | e <;> rcases (by omega : s' = 0 ∨ s' = 1) with e' | e' <;> subst e <;> subst e'
  all_goals
    revert hx
    repeat' split
    all_goals intro hx
    all_goals first | rfl | (exfalso; omega)
/-- the row once all is painted -/
noncomputable def mEnd (m : Nat → Int32) : Nat → Int32 := wF m (paF m (cols m) (cols m))
theorem s_paintsAll_4 {K : zS → Prop} (hw : WF m) (H : K (zpt σ 26 (mEnd m))) (j : Nat) (hj : j ≤ nS m) (y : Int32) : L_X7_paintsAll_4 g l K X y (iI j) (zpt σ 26 (wF m (paF m (fst m j) (fst m j)))) := by
  have ih := fun h y => s_paintsAll_4 (K := K) hw H (j + 1) h y
  have hwb := wf_b hw
  have hb := wF_b (m := m) (paF m (fst m j) (fst m j))
  refine b_X7_paintsAll_4 ?_
  rw [show Int32.toNatClampNeg 1 = 1 from rfl, zpt_at, hb.1.2.1, wf_1 hw, iI_le (by omega) (by omega) (by omega) (by omega)]
  refine ⟨fun h => ?_, fun h => ?_⟩
  · obtain rfl : j = nS m := by omega
    exact H
  · have hj2 : j < nS m := by omega
    have w1 : WF (wF m (paF m (fst m j) (fst m j))) := wF_wf hw (paF_9 hw _ _)
    refine s_repaints (zpt_at _ _ _) w1 (s := 0) (by rw [hb.1.e_nS]; exact hj2) (by decide) ?_
    rw [zpt_zpt, pa_rp hw hj2 (by decide) rfl]
    have hb2 := wF_b (m := m) (paF m (fst m (j + 1)) (fst m j))
    have w2 : WF (wF m (paF m (fst m (j + 1)) (fst m j))) := wF_wf hw (paF_9 hw _ _)
    refine s_repaints (m := wF m (paF m (fst m (j + 1)) (fst m j))) (zpt_at _ _ _) w2 (s := 1) (by rw [hb2.1.e_nS]; exact hj2) (by decide) ?_
    rw [zpt_zpt, pa_rp hw hj2 (by decide) rfl, show (1 : Int32) = iI 1 from rfl, iI_add (j : Int) 1]
    exact ih (by omega) _
termination_by nS m - j
theorem paF_0 (hw : WF m) : wF m (paF m 0 0) = m := by
  refine (wF_cong (fun s c r _ _ _ => ?_)).trans (wF_id hw)
  unfold paF
  rw [if_neg (by split <;> omega)]
theorem s_paintsAll {K : zS → Prop} (hm : σ.1 26 = m) (hw : WF m) (H : K (zpt σ 26 (mEnd m))) : CT g l M_X7_paintsAll 0 [.ref (zad g 24)] σ (zQv K X) := by
  have e := s_paintsAll_4 (g := g) (l := l) (X := X) (σ := σ) hw H 0 (by omega) 0
  rw [fst_0, paF_0 hw, ← hm, zpt_id] at e
  exact b_X7_paintsAll e
/-- all rows 0, then the two that are not -/
theorem s_clears_2 {K : zS → Prop} (hc : ∀ k, 1110 ≤ k → m k = 0) (H : K (zpt σ 26 mNew)) (j : Nat) (hj : j ≤ 1110) (F : Nat → Int32) (h1 : ∀ k, k < j → F k = 0) (h2 : ∀ k, 1110 ≤ k → F k = 0) : L_X7_clears_2 g l K X (iI j) (zpt σ 26 F) := by
  have ih := fun h F a b => s_clears_2 (K := K) hc H (j + 1) h F a b
  refine b_X7_clears_2 ?_
  try simp (disch := omega) only [iI_add, iI_sub, iI_mul, iI_neg, iI_n, iI_lt, iI_le, iI_eq, iI_tn, iI_ti, bI_0, bI_1, iI_L, iL_0, Decidable.not_not, Int.toNat_natCast, zpt_at, zpt_ne, pk_us, pk_un, forall_eq, tn_0, tn_1, tn_2, tn_3, tn_4, tn_5, ni_1, ni_2, ni_3, ni_4, ni_5, not_false_eq_true, not_true_eq_false, true_implies, false_implies, and_true, true_and, iL_6, iL_m6, iL_7, iL_8, iL_9, iL_4, iL_m4, iL_m8, li_0, li_1, li_2, li_3, li_4, li_5, li_6, li_7, li_8, li_9, li_10, li_11, li_12, li_13, li_15, li_16, li_18, li_20, li_24, li_31, li_32, li_40, li_46, li_48, li_57, li_59, li_60, li_61, li_63, li_64, li_97, li_99, li_122, li_124, li_150, li_255, li_480, li_488, li_600, li_999, li_1110, li_54]
  refine ⟨fun h => ?_, fun h => ⟨iI_in (by omega) (by omega) (by omega), ?_⟩⟩
  · obtain rfl : j = 1110 := by omega
    have e : F = fun _ => 0 := funext (fun k => by
      by_cases q : k < 1110
      · exact h1 k q
      · exact h2 k (by omega))
    have e2 : zup (zup (zpt σ 26 (fun _ => 0)) 26 0 (iI 4)) 26 2 (iI 9) = zpt σ 26 mNew := by
      rw [zup_zpt σ 26 0 (fun _ => 0) (iI 4), zup_zpt σ 26 2 _ (iI 9)]; rfl
    rw [e]
    exact cast (congrArg K e2.symm) H
  · rw [zup_zpt]
    refine ih (by omega) _ (fun k hk => ?_) (fun k hk => ?_)
    · by_cases q : k = j
      · subst q; rw [pk_us]; rfl
      · rw [pk_un q]; exact h1 k (by omega)
    · rw [pk_un (by omega)]; exact h2 k hk
termination_by 1110 - j
theorem s_clears {K : zS → Prop} (hm : σ.1 26 = m) (hc : Ct m) (H : K (zpt σ 26 mNew)) : CT g l M_X7_clears 0 [.ref (zad g 24)] σ (zQv K X) := by
  have e := s_clears_2 (g := g) (l := l) (X := X) (σ := σ) hc H 0 (by omega) m (fun k hk => absurd hk (Nat.not_lt_zero k)) hc
  rw [← hm, zpt_id] at e
  exact b_X7_clears e
/-- the text begins -/
theorem s_begins {K : zS → Prop} (hT : TxM σ n f) (H : ∀ τ, FN [] [2, 3, 4, 5, 6, 7, 8, 9] σ τ → SrM τ f n 0 → τ.1 24 2 = iI 0 → K τ) : CT g l M_X7_beginsText 0 [.ref (zad g 24)] σ (zQv K X) := by
  obtain ⟨hn, h2, hb⟩ := hT
  refine b_X7_beginsText ?_
  rw [h2]
  intro σ1 e1 σ2 e2 σ3 e3 σ4 e4 σ5 e5
  have z : ∀ k, k ≠ 3 → k ≠ 2 → k ≠ 4 → k ≠ 8 → k ≠ 9 → σ5.1 24 k = σ.1 24 k := fun k a b c d e => by
    rw [e5, e4, e3, e2, e1, zpt_at, zpt_at, zpt_at, zpt_at, zpt_at, pk_un e, pk_un d, pk_un c, pk_un b, pk_un a]
  have hF : FN [] [2, 3, 4, 5, 6, 7, 8, 9] σ σ5 := by
    rw [e5, e4, e3, e2, e1]
    exact (((((FN.rf _ _ _).fl (by decide) _).fl (by decide) _).fl (by decide) _).fl (by decide) _).fl (by decide) _
  have hB : SrN σ5 f n := by
    refine ⟨hn, fun i hi => (hb i hi).2, ?_, fun i hi => ?_, ?_, ?_⟩
    · rw [e5, e4, e3, e2, e1, zpt_at, zpt_at, zpt_at, zpt_at, zpt_at, pk_un (by decide), pk_un (by decide), pk_un (by decide), pk_un (by decide), pk_us]
    · rw [hF.1 25 (by simp) (by decide)]; exact (hb i hi).1
    · rw [e5, e4, zpt_at, pk_un (by decide), zpt_at, pk_us]; rfl
    · rw [e5, zpt_at, pk_us]; rfl
  refine s_goOn1 (p := 0) hB (Nat.zero_le n) ?_ (fun τ hF' hS => H τ (hF.tr (hF'.sub (by decide) (by decide))) hS ?_)
  · rw [e5, e4, e3, zpt_at, pk_un (by decide), zpt_at, pk_un (by decide), zpt_at, pk_us]; rfl
  · rw [hF'.2.1 2 (by decide), e5, e4, e3, e2, zpt_at, pk_un (by decide), zpt_at, pk_un (by decide), zpt_at, pk_un (by decide), zpt_at, pk_us]; rfl
/-- the text's end: what is told -/
theorem s_endsE {K : Int32 → zS → Prop} {c q : Nat} (hE : ErM σ c q) (H : ∀ τ, FN [] [0, 10, 11] σ τ → τ.1 24 0 = iI 1 → τ.1 24 10 = iI c → τ.1 24 11 = iI q → K (iI 0) τ) : CT g l M_X7_endsText 0 [.ref (zad g 24)] σ (zQi K X) := by
  obtain ⟨h1, h2, h3, h4⟩ := hE
  refine b_X7_endsText ?_
  rw [h1]
  intro σ1 e1 σ2 e2
  have a9 : σ1.1 24 9 = iI q := by rw [e1, zpt_at, pk_un (by decide), h2]
  rw [a9] at e2
  have a8 : σ2.1 24 8 = iI c := by rw [e2, e1, zpt_at, zpt_at, pk_un (by decide), pk_un (by decide), h1]
  rw [a8]
  try simp (disch := omega) only [iI_add, iI_sub, iI_mul, iI_neg, iI_n, iI_lt, iI_le, iI_eq, iI_tn, iI_ti, bI_0, bI_1, iI_L, iL_0, Decidable.not_not, Int.toNat_natCast, zpt_at, zpt_ne, pk_us, pk_un, forall_eq, tn_0, tn_1, tn_2, tn_3, tn_4, tn_5, ni_1, ni_2, ni_3, ni_4, ni_5, not_false_eq_true, not_true_eq_false, true_implies, false_implies, and_true, true_and, iL_6, iL_m6, iL_7, iL_8, iL_9, iL_4, iL_m4, iL_m8, li_0, li_1, li_2, li_3, li_4, li_5, li_6, li_7, li_8, li_9, li_10, li_11, li_12, li_13, li_15, li_16, li_18, li_20, li_24, li_31, li_32, li_40, li_46, li_48, li_57, li_59, li_60, li_61, li_63, li_64, li_97, li_99, li_122, li_124, li_150, li_255, li_480, li_488, li_600, li_999, li_1110, li_54]
  refine ⟨fun _ => s_goes0 ⟨Or.inl rfl, H _ ?_ ?_ ?_ ?_⟩, fun h => by omega⟩
  · rw [e2, e1]; exact (((FN.rf _ _ _).fl (by decide) _).fl (by decide) _).fl (by decide) _
  · rw [zpt_at, pk_us]
  · rw [e2, e1, zpt_at, pk_un (by decide), zpt_at, pk_un (by decide), zpt_at, pk_us]
  · rw [e2, zpt_at, pk_un (by decide), zpt_at, pk_us]
theorem s_ends {K : Int32 → zS → Prop} (hB : SrN σ f n) (H : ∀ τ, FN [] [0, 10, 11] σ τ → τ.1 24 0 = iI 0 → τ.1 24 10 = iI 0 → τ.1 24 11 = iI (-1) → K (iI 1) τ) : CT g l M_X7_endsText 0 [.ref (zad g 24)] σ (zQi K X) := by
  obtain ⟨_, _, _, _, h1, h2⟩ := hB
  refine b_X7_endsText ?_
  rw [h1]
  intro σ1 e1 σ2 e2
  have a9 : σ1.1 24 9 = iI (-1) := by rw [e1, zpt_at, pk_un (by decide), h2]
  rw [a9] at e2
  have a8 : σ2.1 24 8 = iI 0 := by rw [e2, e1, zpt_at, zpt_at, pk_un (by decide), pk_un (by decide), h1]
  rw [a8]
  refine ⟨fun h => absurd rfl h, fun _ => s_goes1 ⟨Or.inr rfl, H _ ?_ ?_ ?_ ?_⟩⟩
  · rw [e2, e1]; exact (((FN.rf _ _ _).fl (by decide) _).fl (by decide) _).fl (by decide) _
  · rw [zpt_at, pk_us]
  · rw [e2, e1, zpt_at, pk_un (by decide), zpt_at, pk_un (by decide), zpt_at, pk_us]
  · rw [e2, zpt_at, pk_un (by decide), zpt_at, pk_us]
abbrev FT : List Nat := [0, 2, 3, 4, 5, 6, 7, 8, 9, 10, 11, 18, 20]
/-- the loop -/
theorem s_text_17 {K : Int32 → zS → Prop} {σ0 : zS} {a : Nat → Int32} (ha : Ct a)
    (k p : Nat) (m : Nat → Int32) (hi co : Nat) (hR : Rd m) (hhi : hi < 2) (hco : co < 2) (hk : n ≤ k + p) (σ : zS) (hS : SrM σ f n p) (hm : σ.1 26 = m) (h20 : σ.1 24 20 = iI ((hi : Int) + 2 * co)) (hF : FN [26, 28] FT σ0 σ) (h2 : σ.1 24 2 = iI 0) (h28 : ∀ k, k < 1110 → σ.1 28 k = a k) (h18 : σ.1 24 18 = σ0.1 24 18)
    (H : pAll f n (fun c q => ∀ τ, FN [26, 28] FT σ0 τ → τ.1 26 = a → τ.1 24 2 = iI 0 → τ.1 24 0 = iI 1 → τ.1 24 10 = iI c → τ.1 24 11 = iI q → τ.1 24 18 = σ0.1 24 18 → K (iI 0) τ) (fun m' => ∀ τ, FN [26, 28] FT σ0 τ → τ.1 26 = mEnd m' → τ.1 24 2 = iI 0 → τ.1 24 0 = iI 0 → τ.1 24 10 = iI 0 → τ.1 24 11 = iI (-1) → τ.1 24 18 = iI 0 → K (iI (nS m')) τ) k p m hi co) : L_X7_readText_17 g l K X σ := by
  have hmk := mK_b (ztK f n p)
  have hp := hS.2.1
  -- the end of the text
  have fin : ztK f n p = 0 → (∀ τ, FN [26, 28] FT σ0 τ → τ.1 26 = mEnd m → τ.1 24 2 = iI 0 → τ.1 24 0 = iI 0 → τ.1 24 10 = iI 0 → τ.1 24 11 = iI (-1) → τ.1 24 18 = iI 0 → K (iI (nS m)) τ) → L_X7_readText_17 g l K X σ := fun e hO => by
    refine b_X7_readText_17 (s_isGood hS.1 ⟨fun k => absurd k (by decide), fun _ => ?_⟩)
    rw [hS.2.2.2.2.1, e]
    refine ⟨fun _ => s_ends hS.1 (fun τ f1 a0 a10 a11 => ⟨fun _ => ?_, fun k => absurd k (by decide)⟩), fun k => absurd rfl k⟩
    have m1 : τ.1 26 = m := (f1.1 26 (by simp) (by decide)).trans hm
    refine s_paintsAll m1 hR.1 ?_
    intro σ6 e6
    have hb := wF_b (m := m) (paF m (cols m) (cols m))
    have m6 : σ6.1 26 = mEnd m := by rw [e6, zpt_ne (by decide), zpt_at]
    rw [m6, show Int32.toNatClampNeg 1 = 1 from rfl, show mEnd m 1 = iI (nS m) from hb.1.2.1.trans (wf_1 hR.1)]
    refine hO σ6 ?_ m6 ?_ ?_ ?_ ?_ ?_
    · rw [e6]
      exact ((hF.tr (f1.sub (by intro b hb; exact absurd hb (by simp)) (by decide))).pt (by decide) (by decide) _).fl (by decide) _
    · rw [e6, zpt_at, pk_un (by decide), zpt_ne (by decide), f1.2.1 2 (by decide), h2]
    · rw [e6, zpt_at, pk_un (by decide), zpt_ne (by decide), a0]
    · rw [e6, zpt_at, pk_un (by decide), zpt_ne (by decide), a10]
    · rw [e6, zpt_at, pk_un (by decide), zpt_ne (by decide), a11]
    · rw [e6, zpt_at, pk_us]; rfl
  match k with
  | 0 =>
    refine fin (ztK_0.mpr ?_) H
    have := ztS_le (f := f) (n := n) (p := p)
    omega
  | k + 1 =>
    by_cases e : ztK f n p = 0
    · refine fin e ?_
      unfold pAll at H
      rw [if_pos e] at H
      exact H
    · unfold pAll at H
      rw [if_neg e] at H
      have gt := ztE_gt e
      refine b_X7_readText_17 (s_isGood hS.1 ⟨fun k => absurd k (by decide), fun _ => ⟨fun q => ?_, fun _ => ?_⟩⟩)
      · rw [hS.2.2.2.2.1, show (0 : Int32) = iI 0 from rfl, iI_eq (by omega) (by omega) (by omega) (by omega)] at q
        exact absurd (mK_0.mp (by omega)) e
      · refine s_statement hS hm hR.1 hhi hco h20 (pStat_m hR hhi hco H (fun c q hE τ f1 e1 h26 => ?_) (fun p' m' hi' co' hlt hR' hhi' hco' hO τ f1 S1 m1 t1 => ?_))
        · have g1 : FN [26, 28] FT σ0 τ := hF.tr (f1.sub (by decide) (by decide))
          refine b_X7_readText_17 (s_isGoodE e1 ⟨fun _ => s_endsE e1 (fun τ2 f2 a0 a10 a11 => ⟨fun k => absurd rfl k, fun _ => ?_⟩), fun k => absurd rfl k⟩)
          refine s_copies (o1 := 28) (o2 := 26) (N1 := 1110) (N2 := 1110) (a := 0) (b := 0) rfl (by decide) rfl (by decide) (by decide) (by decide) (by decide) (by decide) ?_
          have r1 : fb_put (τ2.1 26) (fun k => τ2.1 28 (0 + k)) 0 1110 = a := funext (fun j => by
            by_cases q : j < 1110
            · rw [fb_put_in (by omega) (by omega), Nat.sub_zero, Nat.zero_add, f2.1 28 (by simp) (by decide), f1.1 28 (by decide) (by decide)]
              exact h28 j q
            · rw [fb_put_out (by omega), f2.1 26 (by simp) (by decide), h26 j (by omega), hm, hR.2.1 j (by omega), ha j (by omega)])
          rw [r1]
          refine hE _ ?_ (zpt_at _ _ _) ?_ ?_ ?_ ?_ ?_
          · exact (g1.tr (f2.sub (by intro b hb; exact absurd hb (by simp)) (by decide))).pt (by decide) (by decide) _
          · rw [zpt_ne (by decide), f2.2.1 2 (by decide), f1.2.1 2 (by decide), h2]
          · rw [zpt_ne (by decide), a0]
          · rw [zpt_ne (by decide), a10]
          · rw [zpt_ne (by decide), a11]
          · rw [zpt_ne (by decide), f2.2.1 18 (by decide), f1.2.1 18 (by decide), h18]
        · refine s_text_17 ha k p' m' hi' co' hR' hhi' hco' (by omega) τ S1 m1 t1 (hF.tr (f1.sub (by decide) (by decide))) ?_ (fun j hj => ?_) ?_ hO
          · rw [f1.2.1 2 (by decide), h2]
          · rw [f1.1 28 (by decide) (by decide)]; exact h28 j hj
          · rw [f1.2.1 18 (by decide), h18]
theorem s_readText (hT : TxM σ n f) (hm : σ.1 26 = m) (hc : Ct m)
    (H0 : ∀ c q : Nat, rText f n = .inl (c, q) → ∀ τ, FN [26, 28] FT σ τ → τ.1 26 = m → τ.1 24 2 = iI 0 → τ.1 24 0 = iI 1 → τ.1 24 10 = iI c → τ.1 24 11 = iI q → τ.1 24 18 = σ.1 24 18 → K (iI 0) τ)
    (H1 : ∀ m', rText f n = .inr m' → ∀ τ, FN [26, 28] FT σ τ → τ.1 26 = mEnd m' → τ.1 24 2 = iI 0 → τ.1 24 0 = iI 0 → τ.1 24 10 = iI 0 → τ.1 24 11 = iI (-1) → τ.1 24 18 = iI 0 → K (iI (nS m')) τ) : CT g l M_X7_readText 0 [.ref (zad g 24)] σ (zQi K X) := by
  have hn := hT.1
  refine b_X7_readText (s_begins hT (fun τ1 f1 S1 h2 => s_laysAside (fun F hF => s_clears (m := m) ?_ hc ?_)))
  · rw [zpt_ne (by decide), f1.1 26 (by simp) (by decide), hm]
  · intro σ4 e4
    refine s_text_17 (σ0 := σ) hc 600 0 mNew 0 0 rd_new (by decide) (by decide) (by omega) σ4 ?_ ?_ ?_ ?_ ?_ ?_ ?_ (rText_of H0 H1)
    · rw [e4]; exact ((S1.pt (by decide) (by decide)).pt (by decide) (by decide)).fl (by decide)
    · rw [e4, zpt_ne (by decide), zpt_at]
    · rw [e4, zpt_at, pk_us]; rfl
    · rw [e4]
      exact (((f1.sub (by intro b hb; exact absurd hb (by simp)) (by decide)).pt (by decide) (by decide) _).pt (by decide) (by decide) _).fl (by decide) _
    · rw [e4, zpt_at, pk_un (by decide), zpt_ne (by decide), zpt_ne (by decide), h2]
    · intro k hk
      rw [e4, zpt_ne (by decide), zpt_ne (by decide), zpt_at, hF k hk, f1.1 26 (by simp) (by decide), hm]
    · rw [e4, zpt_at, pk_un (by decide), zpt_ne (by decide), zpt_ne (by decide), f1.2.1 18 (by decide)]
end ZMR
