/-! the other pairs -/
section ZPq
variable {g : zG} {l : Launch} {σ τ υ : zS}
variable {m m' : Nat → Int32} {u : Nat} {h : Nat → Nat → Int32} {sv : Nat} {a : Nat → Int32} {rn : Nat} {rf : Nat → Nat} {n n' : Nat} {f f' : Nat → Nat} {ec ep ec' ep' : Int}
theorem p_face (hJ : JI σ) {x1 x2 x3 : Int32} {s : Nat} (hs : s < 2) : PH g l M_L_face M_X7_face 1 [.int x1, .int (iI s), .int x2, .int x3] PO σ := by
  obtain ⟨m, u, h, sv, a, rn, rf, n, f, ec, ep, H⟩ := hJ
  obtain ⟨hN, hH, hS, hR, hT, hE⟩ := H.1
  obtain ⟨hw, hc, hhw, hsa⟩ := H.2.2.1
  obtain ⟨z1, hz1, rfl⟩ := i32_ex x1
  obtain ⟨z2, hz2, rfl⟩ := i32_ex x2
  obtain ⟨z3, hz3, rfl⟩ := i32_ex x3
  refine b_L_face (c_face hN hw hs hz1 hz2 hz3 (fun q c r e1 e2 e3 h1 h2 h3 => ?_) (fun hn => ?_))
  · subst e1 e2 e3
    exact s_face (H.J _).2.1.1 hw hs hz1 hz2 hz3 (fun q' c' r' e1' e2' e3' _ _ _ => by obtain rfl : q' = q := (by omega); obtain rfl : c' = c := (by omega); obtain rfl : r' = r := (by omega); exact po_0 ((H.J _).cd 0).I) (fun hn => by exfalso; rw [Int.toNat_natCast] at hn; omega)
  · exact ⟨rfl, s_face H.2.1.1 hw hs hz1 hz2 hz3 (fun q' c' r' e1' e2' e3' _ _ _ => by exfalso; subst e1' e2' e3'; rw [Int.toNat_natCast] at hn; omega) (fun _ => po_1 (H.cd 1).I)⟩
theorem p_dab (hJ : JI σ) {x1 x2 x3 x4 : Int32} {s : Nat} (hs : s < 2) : PH g l M_L_dab M_X7_dab 1 [.int x1, .int (iI s), .int x2, .int x3, .int x4] PO σ := by
  obtain ⟨m, u, h, sv, a, rn, rf, n, f, ec, ep, H⟩ := hJ
  obtain ⟨hN, hH, hS, hR, hT, hE⟩ := H.1
  obtain ⟨hw, hc, hhw, hsa⟩ := H.2.2.1
  obtain ⟨z1, hz1, rfl⟩ := i32_ex x1
  obtain ⟨z2, hz2, rfl⟩ := i32_ex x2
  obtain ⟨z3, hz3, rfl⟩ := i32_ex x3
  obtain ⟨z4, hz4, rfl⟩ := i32_ex x4
  refine b_L_dab (c_dab hN hw hH (fun i hi => (hhw i hi).1) hz1 hz2 hz3 hz4 hs (fun q c r w e1 e2 e3 e4 h1 h2 h3 h4 υ hC => ?_) (fun hn => ?_) (fun hn hn2 => ?_))
  · subst e1 e2 e3 e4
    have M1 := fun v => JP.mc (v := v) hC H
    have gd := db_gd hw hc h1 hs h2 h3 h4
    exact s_dab (M1 _).1 hw (M1 _).2.1 hz1 hz2 hz3 hz4 hs (fun q' c' r' w' e1' e2' e3' e4' _ _ _ _ τ' hM' => by obtain rfl : q' = q := (by omega); obtain rfl : c' = c := (by omega); obtain rfl : r' = r := (by omega); obtain rfl : w' = w := (by omega); exact po_m (H.chg hC hM' gd).I hM'.2.1 (fm_1 hM'.1)) (fun hn => by exfalso; rw [Int.toNat_natCast] at hn; omega) (fun _ _ => by exfalso; omega)
  · exact Or.inl ⟨rfl, s_dab H.2.1.1 hw H.2.1.2.1 hz1 hz2 hz3 hz4 hs (fun q' c' r' w' e1' e2' e3' e4' _ _ _ _ _ _ => by exfalso; subst e1' e2' e3'; rw [Int.toNat_natCast] at hn; omega) (fun _ => po_1 (H.cd 1).I) (fun h1 _ => absurd h1 hn)⟩
  · exact Or.inr ⟨rfl, s_dab H.2.1.1 hw H.2.1.2.1 hz1 hz2 hz3 hz4 hs (fun q' c' r' w' e1' e2' e3' e4' _ _ _ _ _ _ => by exfalso; omega) (fun h1 => absurd hn h1) (fun _ _ => po_2 (H.cd 2).I)⟩
/-- a truth as the answer -/
def PT (k : Int32) : Int32 → zS → Prop := fun b υ => PO k b υ ∧ (b = 0 ∨ b = 1)
theorem p_tie (hJ : JI σ) {x1 : Int32} {s : Nat} (hs : s < 2) : PH g l M_L_tie M_X7_tie 1 [.int x1, .int (iI s)] PT σ := by
  obtain ⟨m, u, h, sv, a, rn, rf, n, f, ec, ep, H⟩ := hJ
  obtain ⟨hN, hH, hS, hR, hT, hE⟩ := H.1
  obtain ⟨hw, hc, hhw, hsa⟩ := H.2.2.1
  obtain ⟨z1, hz1, rfl⟩ := i32_ex x1
  have t0 : (0 : Int64) = (iI 0).toInt64 := by decide
  have t1 : (1 : Int64) = (iI 1).toInt64 := by decide
  refine b_L_tie (c_tie hN hw hH (fun i hi => (hhw i hi).1) hz1 hs (fun k e1 h1 h2 υ hC => ?_) (fun hn => ?_) (fun k e1 h1 h2 => ?_))
  · subst e1
    have M1 := fun v => JP.mc (v := v) hC H
    have gd := ti_gd hw hc h1 hs
    refine ⟨fun e => absurd e (by decide), fun _ => ?_⟩
    rw [t1]
    exact s_tie (M1 _).1 hw (M1 _).2.1 hz1 hs (fun k' e1' _ _ τ' hM' => by obtain rfl : k' = k := (by omega); exact ⟨po_m (H.chg hC hM' gd).I hM'.2.1 (fm_1 hM'.1), Or.inr rfl⟩) (fun hn => by exfalso; omega) (fun k' e1' _ h3 => by exfalso; obtain rfl : k' = k := (by omega); exact h2 h3)
  · exact ⟨rfl, s_tie H.2.1.1 hw H.2.1.2.1 hz1 hs (fun k' e1' _ _ _ _ => by exfalso; omega) (fun _ => ⟨po_1 (H.cd 1).I, Or.inl rfl⟩) (fun k' e1' _ _ => by exfalso; omega)⟩
  · subst e1
    refine ⟨fun _ => ?_, fun e => absurd rfl e⟩
    rw [t0]
    exact s_tie (H.J _).2.1.1 hw (H.J _).2.1.2.1 hz1 hs (fun k' e1' _ h3 _ _ => by exfalso; obtain rfl : k' = k := (by omega); exact h3 h2) (fun hn => by exfalso; omega) (fun k' e1' _ _ => ⟨po_0 ((H.J _).cd 0).I, Or.inl rfl⟩)
theorem p_setting (hJ : JI σ) {x1 : Int32} : PH g l M_L_setting M_X7_setting 1 [.int x1] PO σ := by
  obtain ⟨m, u, h, sv, a, rn, rf, n, f, ec, ep, H⟩ := hJ
  obtain ⟨hN, hH, hS, hR, hT, hE⟩ := H.1
  obtain ⟨hw, hc, hhw, hsa⟩ := H.2.2.1
  obtain ⟨z1, hz1, rfl⟩ := i32_ex x1
  obtain ⟨nx, _, hu6, hcnt, _, _⟩ := hH
  have hI : I32 (u : Int) := by constructor <;> omega
  refine b_L_setting (c_setting hN hw hz1 hcnt (fun ha => ?_) (fun hn => ?_))
  · exact s_setting (H.J _).2.1.1 hw hz1 (H.J _).2.1.2.1.1 (fun _ => po_0 ((H.J _).cd 0).I) (fun hn => absurd ha hn)
  · exact ⟨rfl, s_setting H.2.1.1 hw hz1 H.2.1.2.1.1 (fun ha => absurd ha hn) (fun _ => po_1 (H.cd 1).I)⟩
theorem p_reportByte (hJ : JI σ) {x1 : Int32} : PH g l M_L_reportByte M_X7_reportByte 1 [.int x1] PO σ := by
  obtain ⟨m, u, h, sv, a, rn, rf, n, f, ec, ep, H⟩ := hJ
  obtain ⟨hN, hH, hS, hR, hT, hE⟩ := H.1
  obtain ⟨z1, hz1, rfl⟩ := i32_ex x1
  refine b_L_reportByte (c_reportByte hR hz1 (fun i e1 h1 => ?_) (fun hn => ?_))
  · subst e1
    exact s_reportByte (H.J _).2.1.2.2.2.1 hz1 (fun i' e1' _ => by obtain rfl : i' = i := (by omega); exact po_0 ((H.J _).cd 0).I) (fun hn => by exfalso; omega)
  · exact ⟨rfl, s_reportByte H.2.1.2.2.2.1 hz1 (fun i' e1' _ => by exfalso; omega) (fun _ => po_1 (H.cd 1).I)⟩
theorem p_report (hJ : JI σ) {x1 : Int32} : PH g l M_L_report M_X7_report 1 [.int x1] PO σ := by
  obtain ⟨m, u, h, sv, a, rn, rf, n, f, ec, ep, H⟩ := hJ
  obtain ⟨hN, hH, hS, hR, hT, hE⟩ := H.1
  obtain ⟨hw, hc, hhw, hsa⟩ := H.2.2.1
  obtain ⟨z1, hz1, rfl⟩ := i32_ex x1
  refine b_L_report (c_report hN hw hz1 (fun ha τ hF e0 hR' => ?_) (fun hn => ?_))
  · have M1 := fun v => MI_J v (MI_P hF (by intro b hb; unfold pRV at hb; omega) H.2.1)
    have C1 := CI_report hF e0 hR' H.1
    exact s_report (M1 _).1 hw hz1 (fun _ υ hM h0 hR2 => po_m (JP.I ⟨CI_N hM.N (by intro b hb; simp at hb; omega) (CI_J _ C1), MI_report hM hR2 (M1 _), H.2.2⟩) h0 (fm_1 hM)) (fun hn => absurd ha hn)
  · exact ⟨rfl, s_report H.2.1.1 hw hz1 (fun ha => absurd ha hn) (fun _ => po_1 (H.cd 1).I)⟩
theorem ap_b (v : Int32) (hf : ∀ i, i < n → f i < 256) : ∀ i, i < n + 4 → app f n v i < 256 := fun i _ => by
  unfold app
  by_cases e : i < n
  · rw [if_pos e]; exact hf i e
  · rw [if_neg e]; exact tbv_lt _ _
theorem p_feed (hJ : JI σ) {x1 x2 x3 x4 x5 : Int32} : PH g l M_L_feed M_X7_feed 1 [.int x1, .int x2, .int x3, .int x4, .int x5] PO σ := by
  obtain ⟨m, u, h, sv, a, rn, rf, n, f, ec, ep, H⟩ := hJ
  obtain ⟨hN, hH, hS, hR, hT, hE⟩ := H.1
  refine b_L_feed (c_feed hT (fun ha τ hF e1 hT' => ?_) (fun hn => ?_))
  · have M1 := fun v => MI_J v (MI_P hF (by intro b hb; unfold pT at hb; omega) H.2.1)
    have C1 := CI_text hF e1 hT' H.1
    have hf : ∀ i, i < n + 20 → app5 f n x1 x2 x3 x4 x5 i < 256 := fun i hi => ap_b x5 (ap_b x4 (ap_b x3 (ap_b x2 (ap_b x1 H.2.2.2)))) i (by omega)
    exact s_feed (M1 _).2.2.2.2.1 (fun _ υ hM h0 hT2 => po_m (JP.I ⟨CI_N hM.N (by intro b hb; simp at hb; omega) (CI_J _ C1), MI_text hM hT2 (M1 _), H.2.2.1, hf⟩) h0 (fm_1 hM)) (fun hn => absurd ha hn)
  · exact ⟨rfl, s_feed H.2.1.2.2.2.2.1 (fun ha => absurd ha hn) (fun _ => po_1 (H.cd 1).I)⟩
theorem p_truncate (hJ : JI σ) {x1 : Int32} : PH g l M_L_truncate M_X7_truncate 1 [.int x1] PO σ := by
  obtain ⟨m, u, h, sv, a, rn, rf, n, f, ec, ep, H⟩ := hJ
  obtain ⟨hN, hH, hS, hR, hT, hE⟩ := H.1
  obtain ⟨z1, hz1, rfl⟩ := i32_ex x1
  refine b_L_truncate (c_truncate hT hz1 (fun i e1 h1 τ hF ek hT' => ?_) (fun hn => ?_))
  · subst e1
    have M1 := fun v => MI_J v (MI_P hF (by intro b hb; unfold pT at hb; omega) H.2.1)
    have C1 := CI_text hF ek hT' H.1
    exact s_truncate (M1 _).2.2.2.2.1 hz1 (fun i' e1' _ υ hM h0 hT2 => by obtain rfl : i' = i := (by omega); exact po_m (JP.I ⟨CI_N hM.N (by intro b hb; simp at hb) (CI_J _ C1), MI_text (hM.sub (by intro b hb; simp at hb) (by intro b hb; exact hb)) hT2 (M1 _), H.2.2.1, fun j hj => H.2.2.2 j (by omega)⟩) h0 (fm_1 hM)) (fun hn => by exfalso; omega)
  · exact ⟨rfl, s_truncate H.2.1.2.2.2.2.1 hz1 (fun i' e1' _ _ _ _ _ => by exfalso; omega) (fun _ => po_1 (H.cd 1).I)⟩
theorem p_restore (hJ : JI σ) : PH g l M_L_restore M_X7_restore 1 [] PO σ := by
  obtain ⟨m, u, h, sv, a, rn, rf, n, f, ec, ep, H⟩ := hJ
  obtain ⟨hN, hH, hS, hR, hT, hE⟩ := H.1
  obtain ⟨hw, hc, hhw, hsa⟩ := H.2.2.1
  refine b_L_restore (c_restore hS (fun e => (hsa e).2) (fun e => ?_) (fun e τ hF hN' e16 e161 => ?_))
  · exact ⟨rfl, s_restore H.2.1.1 hc H.2.1.2.2.1 hsa (fun _ => po_1 (H.cd 1).I) (fun e' => by exfalso; omega)⟩
  · have M1 := fun v => MI_J v (MI_P hF (by intro b hb; unfold pU at hb; omega) H.2.1)
    have C1 := CI_restore hF hN' e16 e161 H.1
    exact s_restore (M1 _).1 hc (M1 _).2.2.1 hsa (fun e' => by exfalso; omega) (fun _ υ hM h0 h18 hm => po_m (JP.I ⟨CI_N hM.N (by intro b hb; simp at hb; omega) (CI_J _ C1), MI_restore hM hm h18 (M1 _), ⟨(hsa e).2, (hsa e).1, fun i hi => absurd hi (Nat.not_lt_zero i), hsa⟩, H.2.2.2⟩) h0 (fm_1 hM))
theorem MI_rd {L F : List Nat} (hF : FN L F σ τ) (hL : ∀ b, b ∈ L → b ≠ 27 ∧ b ≠ 40) (hFF : ∀ k, k ∈ F → k ≠ 19 ∧ k ≠ 34 ∧ k ≠ 35) (hm : τ.1 26 = m') {u' : Nat} {h' : Nat → Nat → Int32} (hH : HsM τ u' h') (e2 : τ.1 24 2 = iI 0) (e10 : τ.1 24 10 = iI ec') (e11 : τ.1 24 11 = iI ep') (H : MI σ m u h sv a rn rf n f ec ep) : MI τ m' u' h' sv a rn rf 0 f ec' ep' := by
  obtain ⟨h1, h2, h3, h4, h5, h6⟩ := H
  exact ⟨hm, hH, h3.fr (hF.2.1 19 (fun q => (hFF _ q).1 rfl)) (hF.1 27 (fun q => (hL _ q).1 rfl) (by decide)), h4.fr (hF.2.1 34 (fun q => (hFF _ q).2.1 rfl)) (hF.2.1 35 (fun q => (hFF _ q).2.2 rfl)) (hF.1 40 (fun q => (hL _ q).2 rfl) (by decide)), TxM_none e2, ⟨e10, e11⟩⟩
theorem FT_k : ∀ k, k ∈ FT → k ≠ 19 ∧ k ≠ 34 ∧ k ≠ 35 := by intro k hk; simp at hk; omega
theorem FR_k : ∀ k, k ∈ FR → k ≠ 19 ∧ k ≠ 34 ∧ k ≠ 35 := by intro k hk; simp at hk; omega
theorem LR_k : ∀ k, k ∈ LR → k ≠ 27 ∧ k ≠ 40 := by intro k hk; simp at hk; omega
theorem LT_k : ∀ k, k ∈ [26, 28] → k ≠ 27 ∧ k ≠ 40 := by intro k hk; simp at hk; omega
theorem LR_c : ∀ k, k ∈ LR → 25 ≤ k ∧ k ≤ 40 := by intro k hk; simp at hk; omega
theorem LT_c : ∀ k, k ∈ [26, 28] → 25 ≤ k ∧ k ≤ 40 := by intro k hk; simp at hk; omega
theorem p_readText (hJ : JI σ) : PH g l M_L_readText M_X7_readText 1 [] PO σ := by
  obtain ⟨m, u, h, sv, a, rn, rf, n, f, ec, ep, H⟩ := hJ
  obtain ⟨hN, hH, hS, hR, hT, hE⟩ := H.1
  obtain ⟨hw, hc, hhw, hsa⟩ := H.2.2.1
  refine b_L_readText (c_readText hT H.2.2.2 (fun c q e τ hF e1 hE' => ?_) (fun m' e hRd τ hF e1 hE' hN' e16 e161 => ?_))
  · have M1 := MI_P hF (by intro b hb; unfold pD at hb; omega) H.2.1
    have C1 := CI_err hF (by intro b hb; unfold pD at hb; omega) e1 hE' H.1
    exact ⟨rfl, s_readText M1.2.2.2.2.1 M1.1 hc (fun c' q' e' υ hM hm h2 h0 h10 h11 h18 => by
      rw [e] at e'; cases e'
      exact po_e (JP.I ⟨CI_N hM LT_c C1, MI_rd hM LT_k FT_k hm (M1.2.1.fr h18 (hM.1 30 (by decide) (by decide))) h2 h10 h11 M1, H.2.2.1, fun i hi => absurd hi (Nat.not_lt_zero i)⟩) h0) (fun m' e' => by rw [e] at e'; cases e')⟩
  · have M1 := fun v => MI_J v (MI_P hF (by intro b hb; unfold pRT pD at hb; omega) H.2.1)
    have C1 := CI_readText hF e1 hE' hN' e16 e161 H.1
    exact s_readText (M1 _).2.2.2.2.1 (M1 _).1 hc (fun c' q' e' => by rw [e] at e'; cases e') (fun m2 e' υ hM hm h2 h0 h10 h11 h18 => by
      rw [e] at e'; cases e'
      exact po_m (JP.I ⟨CI_N hM LT_c (CI_J _ C1), MI_rd hM LT_k FT_k hm (HsM_none (h := h) h18) h2 h10 h11 (M1 _), ⟨(en_gd hRd).1, (en_gd hRd).2, fun i hi => absurd hi (Nat.not_lt_zero i), hsa⟩, fun i hi => absurd hi (Nat.not_lt_zero i)⟩) h0 (fn_1 hM))
theorem p_runScript (hJ : JI σ) : PH g l M_L_runScript M_X7_runScript 1 [] PO σ := by
  obtain ⟨m, u, h, sv, a, rn, rf, n, f, ec, ep, H⟩ := hJ
  obtain ⟨hN, hH, hS, hR, hT, hE⟩ := H.1
  obtain ⟨hw, hc, hhw, hsa⟩ := H.2.2.1
  refine b_L_runScript (c_runScript hN hw hH (fun i hi => (hhw i hi).1) hT H.2.2.2 (fun c q e τ hF e1 hE' => ?_) (fun P k L e τ hF e1 hE' hN' hw' hH' e0 _ => ?_))
  · have M1 := MI_P hF (by intro b hb; unfold pSc at hb; omega) H.2.1
    have C1 := CI_err hF (by intro b hb; unfold pSc at hb; omega) e1 hE' H.1
    exact ⟨rfl, s_runScript M1.2.2.2.2.1 M1.1 hw hc M1.2.1 (fun c' q' e' υ hM hm h30 h18 h2 h0 h10 h11 => by
      rw [e] at e'; cases e'
      exact po_e (JP.I ⟨CI_N hM LR_c C1, MI_rd hM LR_k FR_k hm (M1.2.1.fr h18 h30) h2 h10 h11 M1, H.2.2.1, fun i hi => absurd hi (Nat.not_lt_zero i)⟩) h0) (fun P k L e' => by rw [e] at e'; cases e')⟩
  · have M1 := fun v => MI_J v (MI_P hF (by intro b hb; unfold pRS pSc pC at hb; omega) H.2.1)
    have C1 := CI_runScript hF e1 hE' hN' hH' e0 H.1
    exact s_runScript (M1 _).2.2.2.2.1 (M1 _).1 hw hc (M1 _).2.1 (fun c' q' e' => by rw [e] at e'; cases e') (fun P2 k2 L2 e' υ hM hm hw2 hc2 hHM h2 h0 h10 h11 _ => by
      rw [e] at e'; cases e'
      exact po_m (JP.I ⟨CI_N hM LR_c (CI_J _ C1), MI_rd hM LR_k FR_k hm hHM h2 h10 h11 (M1 _), GI_chg H.2.2.1 hH.choose_spec.2.1 hw2 hc2, fun i hi => absurd hi (Nat.not_lt_zero i)⟩) h0 (fn_1 hM))
/-- light(): a float, kept as a double -/
def PL (k : Int32) : UInt32 → zS → Prop := fun b υ => JI υ ∧ υ.1 24 0 = k ∧ (k = 0 → vf_n64 (FP.f2d b) ∧ υ.2.2 0 = FP.f2d b)
theorem lt_n64 (hw : WF m) (a : Int) : vf_n64 (FP.f2d (ltN m a)) := by
  have h1 : FP.fIsNaN (ltN m a) = false := by
    cases hx : FP.fIsNaN (ltN m a) with
    | false => rfl
    | true =>
      exfalso
      have h2 := (Jvm.FP.Core.isNaN_bits32 (ltN m a)).mp hx
      have hb := wf_b hw
      have hc := cols_le hw
      unfold ltN at h2
      by_cases q : cols m = 0
      · rw [if_pos q] at h2
        exact absurd h2 (by decide)
      · rw [if_neg q] at h2
        have hp : 0 < cols m * nH m := Nat.mul_pos (by omega) (by omega)
        have hce := cells_le hw
        have := lt_mag (iI (opN m a : Int)) (c := (cols m * nH m : Nat)) (by omega) (by omega)
        omega
  have h3 : FP.dIsNaN (FP.f2d (ltN m a)) = false := by rw [Jvm.FP.f2d_nan]; exact h1
  have h4 : ¬ 9218868437227405312 < (FP.f2d (ltN m a)).toNat % 2 ^ 63 := fun q => by
    rw [show FP.dIsNaN (FP.f2d (ltN m a)) = true from (Jvm.FP.Core.isNaN_bits _).mpr q] at h3
    cases h3
  unfold vf_n64
  rw [UInt64.le_iff_toNat_le, Jvm.FP.Core.mask_toNat]
  show _ ≤ 9218868437227405312
  omega
theorem pd_0 {v : UInt64} : (zupD σ v).2.2 0 = v := by simp [vf_upd]
theorem p_light (hJ : JI σ) {x1 : Int32} : CTW g l M_L_light 1 [.ref (zad g 0), .int x1, .ref (zad g 42)] σ (zQi (fun k τ => CT g l M_X7_light 0 [.ref (zad g 24), .int x1] τ (zQf (PL k) NX)) NX) := by
  obtain ⟨m, u, h, sv, a, rn, rf, n, f, ec, ep, H⟩ := hJ
  obtain ⟨hN, hH, hS, hR, hT, hE⟩ := H.1
  obtain ⟨hw, hc, hhw, hsa⟩ := H.2.2.1
  obtain ⟨z1, hz1, rfl⟩ := i32_ex x1
  refine b_L_light (c_light hN hw hz1 (fun ha τ hF => ⟨lt_n64 hw z1, ?_⟩) (fun hn => ⟨rfl, ?_⟩))
  · have J1 := H.lk hF LV_r
    exact s_light (J1.D _).2.1.1 hw hz1 (fun _ => ⟨((J1.D _).cd 0).I, cd_0, fun _ => ⟨lt_n64 hw z1, pd_0⟩⟩) (fun hn => absurd ha hn)
  · exact s_light H.2.1.1 hw hz1 (fun ha => absurd ha hn) (fun _ => ⟨(H.cd 1).I, cd_0, fun e => absurd e (by decide)⟩)
/-! without a helper -/
theorem p_errorCode (hJ : JI σ) : PC g l M_X6_errorCode M_X7_errorCode [] σ := by
  obtain ⟨m, u, h, sv, a, rn, rf, n, f, ec, ep, H⟩ := hJ
  exact c_errorCode H.1.2.2.2.2.2 (s_errorCode H.2.1.2.2.2.2.2 ⟨(H.cd 0).I, rfl⟩)
theorem p_errorPosition (hJ : JI σ) : PC g l M_X6_errorPosition M_X7_errorPosition [] σ := by
  obtain ⟨m, u, h, sv, a, rn, rf, n, f, ec, ep, H⟩ := hJ
  exact c_errorPosition H.1.2.2.2.2.2 (s_errorPosition H.2.1.2.2.2.2.2 ⟨(H.cd 0).I, rfl⟩)
theorem p_common (hJ : JI σ) : PC g l M_X6_common M_X7_common [] σ := by
  obtain ⟨m, u, h, sv, a, rn, rf, n, f, ec, ep, H⟩ := hJ
  exact c_common H.1.1 H.2.2.1.1 (s_common H.2.1.1 H.2.2.1.1 ⟨(H.cd 0).I, rfl⟩)
theorem p_bestAngle (hJ : JI σ) {s : Nat} (hs : s < 2) : PC g l M_X6_bestAngle M_X7_bestAngle [.int (iI s)] σ := by
  obtain ⟨m, u, h, sv, a, rn, rf, n, f, ec, ep, H⟩ := hJ
  exact c_bestAngle H.1.1 H.2.2.1.1 hs (fun τ hF => s_bestAngle (H.lk hF LV_r).2.1.1 H.2.2.1.1 hs ⟨((H.lk hF LV_r).cd 0).I, rfl⟩)
theorem p_lightest (hJ : JI σ) : PC g l M_X6_lightest M_X7_lightest [] σ := by
  obtain ⟨m, u, h, sv, a, rn, rf, n, f, ec, ep, H⟩ := hJ
  exact c_lightest H.1.1 H.2.2.1.1 (fun τ hF => s_lightest (H.lk hF LV_r).2.1.1 H.2.2.1.1 ⟨((H.lk hF LV_r).cd 0).I, rfl⟩)
theorem p_paintable (hJ : JI σ) {s : Nat} (hs : s < 2) : PC g l M_X6_paintable M_X7_paintable [.int (iI s)] σ := by
  obtain ⟨m, u, h, sv, a, rn, rf, n, f, ec, ep, H⟩ := hJ
  exact c_paintable H.1.1 H.2.2.1.1 hs (s_paintable H.2.1.1 H.2.2.1.1 hs ⟨(H.cd 0).I, rfl⟩)
theorem p_span (hJ : JI σ) {s : Nat} (hs : s < 2) : PC g l M_X6_span M_X7_span [.int (iI s)] σ := by
  obtain ⟨m, u, h, sv, a, rn, rf, n, f, ec, ep, H⟩ := hJ
  exact c_span H.1.1 H.2.2.1.1 hs (fun τ hF => s_span (H.lk hF LV_r).2.1.1 H.2.2.1.1 hs ⟨((H.lk hF LV_r).cd 0).I, rfl⟩)
theorem p_undo (hJ : JI σ) : PC g l M_X6_undo M_X7_undo [] σ := by
  obtain ⟨m, u, h, sv, a, rn, rf, n, f, ec, ep, H⟩ := hJ
  obtain ⟨hN, hH, hS, hR, hT, hE⟩ := H.1
  obtain ⟨hw, hc, hhw, hsa⟩ := H.2.2.1
  refine c_undo hH (fun i hi => (hhw i hi).1) (fun e => ?_) (fun e τ hF hN' hH' => ?_)
  · exact s_undo H.2.1.1 hc H.2.1.2.1 (fun i hi => (hhw i hi).2) (fun _ => ⟨(H.cd 0).I, rfl⟩) (fun e' => by exfalso; omega)
  · have M1 := MI_P hF (by intro b hb; unfold pU at hb; omega) H.2.1
    have C1 := CI_undo hF hN' hH' H.1
    exact s_undo M1.1 hc M1.2.1 (fun i hi => (hhw i hi).2) (fun e' => by exfalso; omega) (fun _ υ hM h0 hm hHM => ⟨JP.I ⟨CI_N hM.N (by intro b hb; simp at hb; omega) C1, MI_undo hM hm hHM M1, ⟨(hhw 0 e).1, (hhw 0 e).2, fun i hi => hhw (i + 1) (by omega), hsa⟩, H.2.2.2⟩, rfl⟩)
theorem p_save (hJ : JI σ) : PC g l M_X6_save M_X7_save [] σ := by
  obtain ⟨m, u, h, sv, a, rn, rf, n, f, ec, ep, H⟩ := hJ
  obtain ⟨hN, hH, hS, hR, hT, hE⟩ := H.1
  obtain ⟨hw, hc, hhw, hsa⟩ := H.2.2.1
  refine c_save hN hw (fun τ hF e0 hS' => ?_)
  have M1 := MI_P hF (by intro b hb; have hb : b = 0 ∨ (83 ≤ b ∧ b < 93) := hb; omega) H.2.1
  have C1 := CI_save hF e0 hS' H.1
  exact s_save M1.1 hw (fun υ hM h0 hS2 => ⟨JP.I ⟨CI_N hM.N (by intro b hb; simp at hb; omega) C1, MI_save hM hS2 M1, ⟨hw, hc, hhw, fun _ => ⟨hc, hw⟩⟩, H.2.2.2⟩, rfl⟩)
theorem p_meanRight (hJ : JI σ) {s : Nat} (hs : s < 2) : CT g l M_X6_meanRight 0 [.ref (zad g 0), .int (iI s)] σ (zQd (fun v τ => CT g l M_X7_meanRight 0 [.ref (zad g 24), .int (iI s)] τ (zQd (fun b υ => JI υ ∧ v = b ∧ vf_n64 b) NX)) NX) := by
  obtain ⟨m, u, h, sv, a, rn, rf, n, f, ec, ep, H⟩ := hJ
  exact c_meanRight H.1.1 H.2.2.1.1 hs (fun τ hF => s_meanRight (H.lk hF LV_r).2.1.1 H.2.2.1.1 hs ⟨((H.lk hF LV_r).cd 0).I, rfl, mr_n _⟩)
end ZPq
