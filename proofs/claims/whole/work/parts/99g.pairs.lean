/-! pair by pair: what the class answers, the reference answers (made by pairs.py) -/
section ZPr
variable {g : zG} {l : Launch} {σ : zS}
theorem fl_c {L : List Nat} {c : Int} {τ : zS} (hF : FrL L (cd σ c) τ) : τ.2.1 1 = σ.2.1 1 := congrArg (fun z : (Nat → Int64) × (Nat → UInt64) => z.1 1) hF.2
theorem p_right (hJ : JI σ) {x1 : Int32} {s : Nat} (hs : s < 2) : PH g l M_L_right M_X7_right 1 [.int x1, .int (iI s)] PO σ := by
  obtain ⟨m, u, h, sv, a, rn, rf, n, f, ec, ep, H⟩ := hJ
  obtain ⟨hN, hH, hS, hR, hT, hE⟩ := H.1
  obtain ⟨hw, hc, hhw, hsa⟩ := H.2.2.1
  have hb := wf_b hw
  obtain ⟨z1, hz1, rfl⟩ := i32_ex x1
  refine b_L_right (c_right hN hw hz1 hs (fun ha τ hF => ?_) (fun hn => ?_))
  · have J1 := H.lk hF LV_r
    exact s_right ((J1.J _).2.1).1 hw hs hz1 (fun _ => by exact po_0 ((J1.J _).cd 0).I) (fun _ => by exfalso; first | omega)
  · exact ⟨rfl, s_right (H.2.1).1 hw hs hz1 (fun _ => by exfalso; first | omega) (fun _ => by exact po_1 (H.cd 1).I)⟩
theorem p_open (hJ : JI σ) {x1 : Int32} : PH g l M_L_open M_X7_open 1 [.int x1] PO σ := by
  obtain ⟨m, u, h, sv, a, rn, rf, n, f, ec, ep, H⟩ := hJ
  obtain ⟨hN, hH, hS, hR, hT, hE⟩ := H.1
  obtain ⟨hw, hc, hhw, hsa⟩ := H.2.2.1
  have hb := wf_b hw
  obtain ⟨z1, hz1, rfl⟩ := i32_ex x1
  refine b_L_open (c_open hN hw hz1 (fun ha τ hF => ?_) (fun hn => ?_))
  · have J1 := H.lk hF LV_r
    exact s_open ((J1.J _).2.1).1 hw hz1 (fun _ => by exact po_0 ((J1.J _).cd 0).I) (fun _ => by exfalso; first | omega)
  · exact ⟨rfl, s_open (H.2.1).1 hw hz1 (fun _ => by exfalso; first | omega) (fun _ => by exact po_1 (H.cd 1).I)⟩
theorem p_covered (hJ : JI σ) {x1 : Int32} : PH g l M_L_covered M_X7_covered 1 [.int x1] PO σ := by
  obtain ⟨m, u, h, sv, a, rn, rf, n, f, ec, ep, H⟩ := hJ
  obtain ⟨hN, hH, hS, hR, hT, hE⟩ := H.1
  obtain ⟨hw, hc, hhw, hsa⟩ := H.2.2.1
  have hb := wf_b hw
  obtain ⟨z1, hz1, rfl⟩ := i32_ex x1
  refine b_L_covered (c_covered hN hw hz1 (fun ha τ hF => ?_) (fun hn => ?_))
  · have J1 := H.lk hF LV_r
    exact s_covered ((J1.J _).2.1).1 hw hz1 (fun _ => by exact po_0 ((J1.J _).cd 0).I) (fun _ => by exfalso; first | omega)
  · exact ⟨rfl, s_covered (H.2.1).1 hw hz1 (fun _ => by exfalso; first | omega) (fun _ => by exact po_1 (H.cd 1).I)⟩
theorem p_whole (hJ : JI σ) {x1 : Int32} : PH g l M_L_whole M_X7_whole 1 [.int x1] PO σ := by
  obtain ⟨m, u, h, sv, a, rn, rf, n, f, ec, ep, H⟩ := hJ
  obtain ⟨hN, hH, hS, hR, hT, hE⟩ := H.1
  obtain ⟨hw, hc, hhw, hsa⟩ := H.2.2.1
  have hb := wf_b hw
  obtain ⟨z1, hz1, rfl⟩ := i32_ex x1
  refine b_L_whole (c_whole hN hw hz1 (fun ha τ hF => ?_) (fun hn => ?_))
  · have J1 := H.lk hF LV_r
    exact s_whole ((J1.J _).2.1).1 hw hz1 (fun _ => by exact po_0 ((J1.J _).cd 0).I) (fun _ => by exfalso; first | omega)
  · exact ⟨rfl, s_whole (H.2.1).1 hw hz1 (fun _ => by exfalso; first | omega) (fun _ => by exact po_1 (H.cd 1).I)⟩
theorem p_firstWrong (hJ : JI σ) {x1 : Int32} {s : Nat} (hs : s < 2) : PH g l M_L_firstWrong M_X7_firstWrong 1 [.int x1, .int (iI s)] PO σ := by
  obtain ⟨m, u, h, sv, a, rn, rf, n, f, ec, ep, H⟩ := hJ
  obtain ⟨hN, hH, hS, hR, hT, hE⟩ := H.1
  obtain ⟨hw, hc, hhw, hsa⟩ := H.2.2.1
  have hb := wf_b hw
  obtain ⟨z1, hz1, rfl⟩ := i32_ex x1
  refine b_L_firstWrong (c_firstWrong hN hw hz1 hs (fun ha τ hF => ?_) (fun hn => ?_))
  · have J1 := H.lk hF LV_r
    exact s_firstWrong ((J1.J _).2.1).1 hw hs hz1 (fun _ => by exact po_0 ((J1.J _).cd 0).I) (fun _ => by exfalso; first | omega)
  · exact ⟨rfl, s_firstWrong (H.2.1).1 hw hs hz1 (fun _ => by exfalso; first | omega) (fun _ => by exact po_1 (H.cd 1).I)⟩
theorem p_run (hJ : JI σ) {x1 : Int32} : PH g l M_L_run M_X7_run 1 [.int x1] PO σ := by
  obtain ⟨m, u, h, sv, a, rn, rf, n, f, ec, ep, H⟩ := hJ
  obtain ⟨hN, hH, hS, hR, hT, hE⟩ := H.1
  obtain ⟨hw, hc, hhw, hsa⟩ := H.2.2.1
  have hb := wf_b hw
  obtain ⟨z1, hz1, rfl⟩ := i32_ex x1
  refine b_L_run (c_run hN hw hz1 (fun ha τ hF => ?_) (fun hn => ?_))
  · have J1 := H.lk hF LV_r
    exact s_run ((J1.J _).2.1).1 hw hz1 (fun _ => by exact po_0 ((J1.J _).cd 0).I) (fun _ => by exfalso; first | omega)
  · exact ⟨rfl, s_run (H.2.1).1 hw hz1 (fun _ => by exfalso; first | omega) (fun _ => by exact po_1 (H.cd 1).I)⟩
theorem p_worstSlat (hJ : JI σ) {x1 : Int32} {s : Nat} (hs : s < 2) : PH g l M_L_worstSlat M_X7_worstSlat 1 [.int x1, .int (iI s)] PO σ := by
  obtain ⟨m, u, h, sv, a, rn, rf, n, f, ec, ep, H⟩ := hJ
  obtain ⟨hN, hH, hS, hR, hT, hE⟩ := H.1
  obtain ⟨hw, hc, hhw, hsa⟩ := H.2.2.1
  have hb := wf_b hw
  obtain ⟨z1, hz1, rfl⟩ := i32_ex x1
  refine b_L_worstSlat (c_worstSlat hN hw hz1 hs (fun ha τ hF => ?_) (fun hn => ?_))
  · have J1 := H.lk hF LV_r
    exact s_worstSlat ((J1.J _).2.1).1 hw hs hz1 (fun _ => by exact po_0 ((J1.J _).cd 0).I) (fun _ => by exfalso; first | omega)
  · exact ⟨rfl, s_worstSlat (H.2.1).1 hw hs hz1 (fun _ => by exfalso; first | omega) (fun _ => by exact po_1 (H.cd 1).I)⟩
theorem p_ghosts (hJ : JI σ) {x1 : Int32} {s : Nat} (hs : s < 2) : PH g l M_L_ghosts M_X7_ghosts 1 [.int x1, .int (iI s)] PO σ := by
  obtain ⟨m, u, h, sv, a, rn, rf, n, f, ec, ep, H⟩ := hJ
  obtain ⟨hN, hH, hS, hR, hT, hE⟩ := H.1
  obtain ⟨hw, hc, hhw, hsa⟩ := H.2.2.1
  have hb := wf_b hw
  obtain ⟨z1, hz1, rfl⟩ := i32_ex x1
  refine b_L_ghosts (c_ghosts hN hw hz1 hs (fun ha τ hF => ?_) (fun hn => ?_))
  · have J1 := H.lk hF LV_r
    exact s_ghosts ((J1.J _).2.1).1 hw hs hz1 (fun _ => by exact po_0 ((J1.J _).cd 0).I) (fun _ => by exfalso; first | omega)
  · exact ⟨rfl, s_ghosts (H.2.1).1 hw hs hz1 (fun _ => by exfalso; first | omega) (fun _ => by exact po_1 (H.cd 1).I)⟩
theorem p_dabs (hJ : JI σ) {x1 : Int32} {s : Nat} (hs : s < 2) : PH g l M_L_dabs M_X7_dabs 1 [.int x1, .int (iI s)] PO σ := by
  obtain ⟨m, u, h, sv, a, rn, rf, n, f, ec, ep, H⟩ := hJ
  obtain ⟨hN, hH, hS, hR, hT, hE⟩ := H.1
  obtain ⟨hw, hc, hhw, hsa⟩ := H.2.2.1
  have hb := wf_b hw
  obtain ⟨z1, hz1, rfl⟩ := i32_ex x1
  refine b_L_dabs (c_dabs hN hw hz1 hs (fun ha τ hF => ?_) (fun hn => ?_))
  · have J1 := H.lk hF LV_r
    exact s_dabs ((J1.J _).2.1).1 hw hz1 hs (fun _ => by exact po_0 ((J1.J _).cd 0).I) (fun _ => by exfalso; first | omega)
  · exact ⟨rfl, s_dabs (H.2.1).1 hw hz1 hs (fun _ => by exfalso; first | omega) (fun _ => by exact po_1 (H.cd 1).I)⟩
theorem p_bestPull (hJ : JI σ) {x1 : Int32} {s : Nat} (hs : s < 2) : PH g l M_L_bestPull M_X7_bestPull 1 [.int x1, .int (iI s)] PO σ := by
  obtain ⟨m, u, h, sv, a, rn, rf, n, f, ec, ep, H⟩ := hJ
  obtain ⟨hN, hH, hS, hR, hT, hE⟩ := H.1
  obtain ⟨hw, hc, hhw, hsa⟩ := H.2.2.1
  have hb := wf_b hw
  obtain ⟨z1, hz1, rfl⟩ := i32_ex x1
  refine b_L_bestPull (c_bestPull hN hw hz1 hs (fun ha τ hF => ?_) (fun hn => ?_))
  · have J1 := H.lk hF LW_r
    exact s_bestPull ((J1.J _).2.1).1 hw hz1 hs (fun _ τ' hF' => by exact po_m (((J1.J _).cd 0).lm hF' L29_r).I (fl_0 hF' L29_r) (fl_c hF')) (fun _ => by exfalso; first | omega)
  · exact ⟨rfl, s_bestPull (H.2.1).1 hw hz1 hs (fun _ _ _ => by exfalso; first | omega) (fun _ => by exact po_1 (H.cd 1).I)⟩
theorem p_fairest (hJ : JI σ) {x1 : Int32} : PH g l M_L_fairest M_X7_fairest 1 [.int x1] PO σ := by
  obtain ⟨m, u, h, sv, a, rn, rf, n, f, ec, ep, H⟩ := hJ
  obtain ⟨hN, hH, hS, hR, hT, hE⟩ := H.1
  obtain ⟨hw, hc, hhw, hsa⟩ := H.2.2.1
  have hb := wf_b hw
  obtain ⟨z1, hz1, rfl⟩ := i32_ex x1
  refine b_L_fairest (c_fairest hN hw hz1 (fun ha τ hF => ?_) (fun hn => ?_))
  · have J1 := H.lk hF LW_r
    exact s_fairest ((J1.J _).2.1).1 hw hz1 (fun _ τ' hF' => by exact po_m (((J1.J _).cd 0).lm hF' L29_r).I (fl_0 hF' L29_r) (fl_c hF')) (fun _ => by exfalso; first | omega)
  · exact ⟨rfl, s_fairest (H.2.1).1 hw hz1 (fun _ _ _ => by exfalso; first | omega) (fun _ => by exact po_1 (H.cd 1).I)⟩
theorem p_turnsNeeded (hJ : JI σ) {x1 : Int32} {s : Nat} (hs : s < 2) : PH g l M_L_turnsNeeded M_X7_turnsNeeded 1 [.int x1, .int (iI s)] PO σ := by
  obtain ⟨m, u, h, sv, a, rn, rf, n, f, ec, ep, H⟩ := hJ
  obtain ⟨hN, hH, hS, hR, hT, hE⟩ := H.1
  obtain ⟨hw, hc, hhw, hsa⟩ := H.2.2.1
  have hb := wf_b hw
  obtain ⟨z1, hz1, rfl⟩ := i32_ex x1
  refine b_L_turnsNeeded (c_turnsNeeded hN hw hz1 hs (fun ha τ hF => ?_) (fun hn => ?_))
  · have J1 := H.lk hF LW_r
    exact s_turnsNeeded ((J1.J _).2.1).1 hw hz1 hs (fun _ τ' hF' => by exact po_m (((J1.J _).cd 0).lm hF' L31_r).I (fl_0 hF' L31_r) (fl_c hF')) (fun _ => by exfalso; first | omega)
  · exact ⟨rfl, s_turnsNeeded (H.2.1).1 hw hz1 hs (fun _ _ _ => by exfalso; first | omega) (fun _ => by exact po_1 (H.cd 1).I)⟩
theorem p_seen (hJ : JI σ) {x1 x2 x3 : Int32} : PH g l M_L_seen M_X7_seen 1 [.int x1, .int x2, .int x3] PO σ := by
  obtain ⟨m, u, h, sv, a, rn, rf, n, f, ec, ep, H⟩ := hJ
  obtain ⟨hN, hH, hS, hR, hT, hE⟩ := H.1
  obtain ⟨hw, hc, hhw, hsa⟩ := H.2.2.1
  have hb := wf_b hw
  obtain ⟨z1, hz1, rfl⟩ := i32_ex x1
  obtain ⟨z2, hz2, rfl⟩ := i32_ex x2
  obtain ⟨z3, hz3, rfl⟩ := i32_ex x3
  refine b_L_seen (c_seen hN hw hz1 hz2 hz3 (fun c r e1 e2 h1 h2 ha τ hF => ?_) (fun hn => ?_) (fun hn hn2 => ?_))
  · subst e1 e2
    have J1 := H.lk hF LV_r
    exact s_seen ((J1.J _).2.1).1 hw hz1 hz2 hz3 (fun c' r' e1' e2' _ _ _ => by obtain rfl : c' = c := (by omega); obtain rfl : r' = r := (by omega); exact po_0 ((J1.J _).cd 0).I) (fun _ => by exfalso; first | omega) (fun _ _ => by exfalso; first | omega)
  · exact Or.inl ⟨rfl, s_seen (H.2.1).1 hw hz1 hz2 hz3 (fun c' r' e1' e2' _ _ _ => by exfalso; first | omega | (obtain rfl : c' = c := (by omega); omega)) (fun _ => by exact po_1 (H.cd 1).I) (fun _ _ => by exfalso; first | omega)⟩
  · exact Or.inr ⟨rfl, s_seen (H.2.1).1 hw hz1 hz2 hz3 (fun c' r' e1' e2' _ _ _ => by exfalso; first | omega | (obtain rfl : c' = c := (by omega); omega)) (fun _ => by exfalso; first | omega) (fun _ _ => by exact po_2 (H.cd 2).I)⟩
theorem p_why (hJ : JI σ) {x1 x2 x3 : Int32} {s : Nat} (hs : s < 2) : PH g l M_L_why M_X7_why 1 [.int x1, .int (iI s), .int x2, .int x3] PO σ := by
  obtain ⟨m, u, h, sv, a, rn, rf, n, f, ec, ep, H⟩ := hJ
  obtain ⟨hN, hH, hS, hR, hT, hE⟩ := H.1
  obtain ⟨hw, hc, hhw, hsa⟩ := H.2.2.1
  have hb := wf_b hw
  obtain ⟨z1, hz1, rfl⟩ := i32_ex x1
  obtain ⟨z2, hz2, rfl⟩ := i32_ex x2
  obtain ⟨z3, hz3, rfl⟩ := i32_ex x3
  refine b_L_why (c_why hN hw hs hz1 hz2 hz3 (fun c r e1 e2 h1 h2 ha τ hF => ?_) (fun hn => ?_) (fun hn hn2 => ?_))
  · subst e1 e2
    have J1 := H.lk hF LV_r
    exact s_why ((J1.J _).2.1).1 hw hs hz1 hz2 hz3 (fun c' r' e1' e2' _ _ _ => by obtain rfl : c' = c := (by omega); obtain rfl : r' = r := (by omega); exact po_0 ((J1.J _).cd 0).I) (fun _ => by exfalso; first | omega) (fun _ _ => by exfalso; first | omega)
  · exact Or.inl ⟨rfl, s_why (H.2.1).1 hw hs hz1 hz2 hz3 (fun c' r' e1' e2' _ _ _ => by exfalso; first | omega | (obtain rfl : c' = c := (by omega); omega)) (fun _ => by exact po_1 (H.cd 1).I) (fun _ _ => by exfalso; first | omega)⟩
  · exact Or.inr ⟨rfl, s_why (H.2.1).1 hw hs hz1 hz2 hz3 (fun c' r' e1' e2' _ _ _ => by exfalso; first | omega | (obtain rfl : c' = c := (by omega); omega)) (fun _ => by exfalso; first | omega) (fun _ _ => by exact po_2 (H.cd 2).I)⟩
theorem p_slatAt (hJ : JI σ) {x1 : Int32} : PH g l M_L_slatAt M_X7_slatAt 1 [.int x1] PO σ := by
  obtain ⟨m, u, h, sv, a, rn, rf, n, f, ec, ep, H⟩ := hJ
  obtain ⟨hN, hH, hS, hR, hT, hE⟩ := H.1
  obtain ⟨hw, hc, hhw, hsa⟩ := H.2.2.1
  have hb := wf_b hw
  obtain ⟨z1, hz1, rfl⟩ := i32_ex x1
  refine b_L_slatAt (c_slatAt hN hw hz1 (fun c e1 h1 => ?_) (fun hn => ?_))
  · subst e1
    exact s_slatAt ((H.J _).2.1).1 hw hz1 (fun c' e1' _ => by obtain rfl : c' = c := (by omega); exact po_0 ((H.J _).cd 0).I) (fun _ => by exfalso; first | omega)
  · exact ⟨rfl, s_slatAt (H.2.1).1 hw hz1 (fun c' e1' _ => by exfalso; first | omega | (obtain rfl : c' = c := (by omega); omega)) (fun _ => by exact po_1 (H.cd 1).I)⟩
theorem p_seam (hJ : JI σ) {x1 : Int32} : PH g l M_L_seam M_X7_seam 1 [.int x1] PO σ := by
  obtain ⟨m, u, h, sv, a, rn, rf, n, f, ec, ep, H⟩ := hJ
  obtain ⟨hN, hH, hS, hR, hT, hE⟩ := H.1
  obtain ⟨hw, hc, hhw, hsa⟩ := H.2.2.1
  have hb := wf_b hw
  obtain ⟨z1, hz1, rfl⟩ := i32_ex x1
  refine b_L_seam (c_seam hN hw hz1 (fun c e1 h1 => ?_) (fun hn => ?_))
  · subst e1
    exact s_seam ((H.J _).2.1).1 hw hz1 (fun c' e1' _ => by obtain rfl : c' = c := (by omega); exact po_0 ((H.J _).cd 0).I) (fun _ => by exfalso; first | omega)
  · exact ⟨rfl, s_seam (H.2.1).1 hw hz1 (fun c' e1' _ => by exfalso; first | omega | (obtain rfl : c' = c := (by omega); omega)) (fun _ => by exact po_1 (H.cd 1).I)⟩
theorem p_shownFrom (hJ : JI σ) {x1 : Int32} : PH g l M_L_shownFrom M_X7_shownFrom 1 [.int x1] PO σ := by
  obtain ⟨m, u, h, sv, a, rn, rf, n, f, ec, ep, H⟩ := hJ
  obtain ⟨hN, hH, hS, hR, hT, hE⟩ := H.1
  obtain ⟨hw, hc, hhw, hsa⟩ := H.2.2.1
  have hb := wf_b hw
  obtain ⟨z1, hz1, rfl⟩ := i32_ex x1
  refine b_L_shownFrom (c_shownFrom hN hw hz1 (fun c e1 h1 τ hF => ?_) (fun hn => ?_))
  · subst e1
    have J1 := H.lk hF LV_r
    exact s_shownFrom ((J1.J _).2.1).1 hw hz1 (fun c' e1' _ => by obtain rfl : c' = c := (by omega); exact po_0 ((J1.J _).cd 0).I) (fun _ => by exfalso; first | omega)
  · exact ⟨rfl, s_shownFrom (H.2.1).1 hw hz1 (fun c' e1' _ => by exfalso; first | omega | (obtain rfl : c' = c := (by omega); omega)) (fun _ => by exact po_1 (H.cd 1).I)⟩
theorem p_picture (hJ : JI σ) {x1 x2 : Int32} {s : Nat} (hs : s < 2) : PH g l M_L_picture M_X7_picture 1 [.int (iI s), .int x1, .int x2] PO σ := by
  obtain ⟨m, u, h, sv, a, rn, rf, n, f, ec, ep, H⟩ := hJ
  obtain ⟨hN, hH, hS, hR, hT, hE⟩ := H.1
  obtain ⟨hw, hc, hhw, hsa⟩ := H.2.2.1
  have hb := wf_b hw
  obtain ⟨z1, hz1, rfl⟩ := i32_ex x1
  obtain ⟨z2, hz2, rfl⟩ := i32_ex x2
  refine b_L_picture (c_picture hN hw hs hz1 hz2 (fun c r e1 e2 h1 h2 => ?_) (fun hn => ?_))
  · subst e1 e2
    exact s_picture ((H.J _).2.1).1 hw hs hz1 hz2 (fun c' r' e1' e2' _ _ => by obtain rfl : c' = c := (by omega); obtain rfl : r' = r := (by omega); exact po_0 ((H.J _).cd 0).I) (fun _ => by exfalso; first | omega)
  · exact ⟨rfl, s_picture (H.2.1).1 hw hs hz1 hz2 (fun c' r' e1' e2' _ _ => by exfalso; first | omega | (obtain rfl : c' = c := (by omega); omega)) (fun _ => by exact po_1 (H.cd 1).I)⟩
theorem p_slat (hJ : JI σ) {x1 x2 : Int32} : PH g l M_L_slat M_X7_slat 2 [.int x1, .int x2] PO σ := by
  obtain ⟨m, u, h, sv, a, rn, rf, n, f, ec, ep, H⟩ := hJ
  obtain ⟨hN, hH, hS, hR, hT, hE⟩ := H.1
  obtain ⟨hw, hc, hhw, hsa⟩ := H.2.2.1
  have hb := wf_b hw
  obtain ⟨z1, hz1, rfl⟩ := i32_ex x1
  obtain ⟨z2, hz2, rfl⟩ := i32_ex x2
  refine b_L_slat (c_slat hN hw hz1 hz2 (fun k e1 h1 h2 => ?_) (fun hn => ?_) (fun hn hn2 => ?_))
  · subst e1
    exact s_slat ((H.J _).2.1).1 hw hz1 hz2 (fun k' e1' _ _ => by obtain rfl : k' = k := (by omega); exact po_0 ((H.J _).cd 0).I) (fun _ => by exfalso; first | omega) (fun _ _ => by exfalso; first | omega)
  · exact Or.inl ⟨rfl, s_slat (H.2.1).1 hw hz1 hz2 (fun k' e1' _ _ => by exfalso; first | omega | (obtain rfl : k' = k := (by omega); omega)) (fun _ => by exact po_1 (H.cd 1).I) (fun _ _ => by exfalso; first | omega)⟩
  · exact Or.inr ⟨rfl, s_slat (H.2.1).1 hw hz1 hz2 (fun k' e1' _ _ => by exfalso; first | omega | (obtain rfl : k' = k := (by omega); omega)) (fun _ => by exfalso; first | omega) (fun _ _ => by exact po_2 (H.cd 2).I)⟩
theorem p_bestTurn (hJ : JI σ) {x1 x2 : Int32} {s : Nat} (hs : s < 2) : PH g l M_L_bestTurn M_X7_bestTurn 1 [.int x1, .int x2, .int (iI s)] PO σ := by
  obtain ⟨m, u, h, sv, a, rn, rf, n, f, ec, ep, H⟩ := hJ
  obtain ⟨hN, hH, hS, hR, hT, hE⟩ := H.1
  obtain ⟨hw, hc, hhw, hsa⟩ := H.2.2.1
  have hb := wf_b hw
  obtain ⟨z1, hz1, rfl⟩ := i32_ex x1
  obtain ⟨z2, hz2, rfl⟩ := i32_ex x2
  refine b_L_bestTurn (c_bestTurn hN hw hz1 hz2 hs (fun k e1 h1 ha τ hF => ?_) (fun hn => ?_) (fun hn hn2 => ?_))
  · subst e1
    have J1 := H.lk hF LW_r
    exact s_bestTurn ((J1.J _).2.1).1 hw hz1 hz2 hs (fun k' e1' _ _ τ' hF' => by obtain rfl : k' = k := (by omega); exact po_m (((J1.J _).cd 0).lm hF' L29_r).I (fl_0 hF' L29_r) (fl_c hF')) (fun _ => by exfalso; first | omega) (fun _ _ => by exfalso; first | omega)
  · exact Or.inl ⟨rfl, s_bestTurn (H.2.1).1 hw hz1 hz2 hs (fun k' e1' _ _ _ _ => by exfalso; first | omega | (obtain rfl : k' = k := (by omega); omega)) (fun _ => by exact po_1 (H.cd 1).I) (fun _ _ => by exfalso; first | omega)⟩
  · exact Or.inr ⟨rfl, s_bestTurn (H.2.1).1 hw hz1 hz2 hs (fun k' e1' _ _ _ _ => by exfalso; first | omega | (obtain rfl : k' = k := (by omega); omega)) (fun _ => by exfalso; first | omega) (fun _ _ => by exact po_2 (H.cd 2).I)⟩
theorem p_pull (hJ : JI σ) {x1 : Int32} : PH g l M_L_pull M_X7_pull 1 [.int x1] PO σ := by
  obtain ⟨m, u, h, sv, a, rn, rf, n, f, ec, ep, H⟩ := hJ
  obtain ⟨hN, hH, hS, hR, hT, hE⟩ := H.1
  obtain ⟨hw, hc, hhw, hsa⟩ := H.2.2.1
  have hb := wf_b hw
  obtain ⟨z1, hz1, rfl⟩ := i32_ex x1
  refine b_L_pull (c_pull hN hw hH (fun i hi => (hhw i hi).1) hz1 (fun ha υ hC => ?_) (fun hn => ?_))
  · have M1 := fun v => JP.mc (v := v) hC H
    have gd := pl_gd hw hc z1
    exact s_pull (M1 _).1 hw (M1 _).2.1 hz1 (fun _ τ' hM' => by exact po_m (H.chg hC hM' gd).I hM'.2.1 (fm_1 hM'.1)) (fun _ => by exfalso; first | omega)
  · exact ⟨rfl, s_pull (H.2.1).1 hw (H.2.1).2.1 hz1 (fun _ _ _ => by exfalso; first | omega) (fun _ => by exact po_1 (H.cd 1).I)⟩
theorem p_turn (hJ : JI σ) {x1 x2 : Int32} : PH g l M_L_turn M_X7_turn 1 [.int x1, .int x2] PO σ := by
  obtain ⟨m, u, h, sv, a, rn, rf, n, f, ec, ep, H⟩ := hJ
  obtain ⟨hN, hH, hS, hR, hT, hE⟩ := H.1
  obtain ⟨hw, hc, hhw, hsa⟩ := H.2.2.1
  have hb := wf_b hw
  obtain ⟨z1, hz1, rfl⟩ := i32_ex x1
  obtain ⟨z2, hz2, rfl⟩ := i32_ex x2
  refine b_L_turn (c_turn hN hw hH (fun i hi => (hhw i hi).1) hz1 hz2 (fun k e1 h1 h2 h3 υ hC => ?_) (fun hn => ?_) (fun hn hn2 => ?_) (fun k e1 h1 h2 h3 => ?_))
  · subst e1
    have M1 := fun v => JP.mc (v := v) hC H
    have gd := tr_gd (k := k) hw hc h2
    exact s_turn (M1 _).1 hw (M1 _).2.1 hz1 hz2 (fun k' e1' _ _ _ τ' hM' => by obtain rfl : k' = k := (by omega); exact po_m (H.chg hC hM' gd).I hM'.2.1 (fm_1 hM'.1)) (fun _ => by exfalso; first | omega) (fun _ _ => by exfalso; first | omega) (fun k' e1' _ _ _ => by exfalso; first | omega | (obtain rfl : k' = k := (by omega); omega))
  · exact Or.inl ⟨rfl, s_turn (H.2.1).1 hw (H.2.1).2.1 hz1 hz2 (fun k' e1' _ _ _ _ _ => by exfalso; first | omega | (obtain rfl : k' = k := (by omega); omega)) (fun _ => by exact po_1 (H.cd 1).I) (fun _ _ => by exfalso; first | omega) (fun k' e1' _ _ _ => by exfalso; first | omega | (obtain rfl : k' = k := (by omega); omega))⟩
  · exact Or.inr (Or.inl ⟨rfl, s_turn (H.2.1).1 hw (H.2.1).2.1 hz1 hz2 (fun k' e1' _ _ _ _ _ => by exfalso; first | omega | (obtain rfl : k' = k := (by omega); omega)) (fun _ => by exfalso; first | omega) (fun _ _ => by exact po_2 (H.cd 2).I) (fun k' e1' _ _ _ => by exfalso; first | omega | (obtain rfl : k' = k := (by omega); omega))⟩)
  · subst e1
    exact Or.inr (Or.inr ⟨rfl, s_turn (H.2.1).1 hw (H.2.1).2.1 hz1 hz2 (fun k' e1' _ _ _ _ _ => by exfalso; first | omega | (obtain rfl : k' = k := (by omega); omega)) (fun _ => by exfalso; first | omega) (fun _ _ => by exfalso; first | omega) (fun k' e1' _ _ _ => by obtain rfl : k' = k := (by omega); exact po_3 (H.cd 3).I)⟩)
theorem p_paint (hJ : JI σ) {x1 : Int32} {s : Nat} (hs : s < 2) : PH g l M_L_paint M_X7_paint 1 [.int x1, .int (iI s)] PO σ := by
  obtain ⟨m, u, h, sv, a, rn, rf, n, f, ec, ep, H⟩ := hJ
  obtain ⟨hN, hH, hS, hR, hT, hE⟩ := H.1
  obtain ⟨hw, hc, hhw, hsa⟩ := H.2.2.1
  have hb := wf_b hw
  obtain ⟨z1, hz1, rfl⟩ := i32_ex x1
  refine b_L_paint (c_paint hN hw hH (fun i hi => (hhw i hi).1) hz1 hs (fun k e1 h1 h2 υ hC => ?_) (fun hn => ?_) (fun k e1 h1 h2 => ?_))
  · subst e1
    have M1 := fun v => JP.mc (v := v) hC H
    have gd := pt_gd hw hc h1 hs h2
    exact s_paint (M1 _).1 hw (M1 _).2.1 hz1 hs (fun k' e1' _ _ τ' hM' => by obtain rfl : k' = k := (by omega); exact po_m (H.chg hC hM' gd).I hM'.2.1 (fm_1 hM'.1)) (fun _ => by exfalso; first | omega) (fun k' e1' _ _ => by exfalso; first | omega | (obtain rfl : k' = k := (by omega); omega))
  · exact Or.inl ⟨rfl, s_paint (H.2.1).1 hw (H.2.1).2.1 hz1 hs (fun k' e1' _ _ _ _ => by exfalso; first | omega | (obtain rfl : k' = k := (by omega); omega)) (fun _ => by exact po_1 (H.cd 1).I) (fun k' e1' _ _ => by exfalso; first | omega | (obtain rfl : k' = k := (by omega); omega))⟩
  · subst e1
    exact Or.inr ⟨rfl, s_paint (H.2.1).1 hw (H.2.1).2.1 hz1 hs (fun k' e1' _ _ _ _ => by exfalso; first | omega | (obtain rfl : k' = k := (by omega); omega)) (fun _ => by exfalso; first | omega) (fun k' e1' _ _ => by obtain rfl : k' = k := (by omega); exact po_2 (H.cd 2).I)⟩
theorem p_swap (hJ : JI σ) {x1 : Int32} : PH g l M_L_swap M_X7_swap 1 [.int x1] PO σ := by
  obtain ⟨m, u, h, sv, a, rn, rf, n, f, ec, ep, H⟩ := hJ
  obtain ⟨hN, hH, hS, hR, hT, hE⟩ := H.1
  obtain ⟨hw, hc, hhw, hsa⟩ := H.2.2.1
  have hb := wf_b hw
  obtain ⟨z1, hz1, rfl⟩ := i32_ex x1
  refine b_L_swap (c_swap hN hw hH (fun i hi => (hhw i hi).1) hz1 (fun k e1 h1 υ hC => ?_) (fun hn => ?_))
  · subst e1
    have M1 := fun v => JP.mc (v := v) hC H
    have gd := sw_gd hw hc h1
    exact s_swap (M1 _).1 hw (M1 _).2.1 hz1 (fun k' e1' _ τ' hM' => by obtain rfl : k' = k := (by omega); exact po_m (H.chg hC hM' gd).I hM'.2.1 (fm_1 hM'.1)) (fun _ => by exfalso; first | omega)
  · exact ⟨rfl, s_swap (H.2.1).1 hw (H.2.1).2.1 hz1 (fun k' e1' _ _ _ => by exfalso; first | omega | (obtain rfl : k' = k := (by omega); omega)) (fun _ => by exact po_1 (H.cd 1).I)⟩
theorem p_spot (hJ : JI σ) {x1 x2 x3 : Int32} {s : Nat} (hs : s < 2) : PH g l M_L_spot M_X7_spot 1 [.int (iI s), .int x1, .int x2, .int x3] PO σ := by
  obtain ⟨m, u, h, sv, a, rn, rf, n, f, ec, ep, H⟩ := hJ
  obtain ⟨hN, hH, hS, hR, hT, hE⟩ := H.1
  obtain ⟨hw, hc, hhw, hsa⟩ := H.2.2.1
  have hb := wf_b hw
  obtain ⟨z1, hz1, rfl⟩ := i32_ex x1
  obtain ⟨z2, hz2, rfl⟩ := i32_ex x2
  obtain ⟨z3, hz3, rfl⟩ := i32_ex x3
  refine b_L_spot (c_spot hN hw hH (fun i hi => (hhw i hi).1) hz1 hz2 hz3 hs (fun c r w e1 e2 e3 h1 h2 h3 h4 υ hC => ?_) (fun hn => ?_) (fun hn hn2 => ?_) (fun hn hn2 hn3 => ?_))
  · subst e1 e2 e3
    have M1 := fun v => JP.mc (v := v) hC H
    have gd := bx_gd hw hc hs h1 h2 h3 h4
    exact s_spot (M1 _).1 hw (M1 _).2.1 hz1 hz2 hz3 hs (fun c' r' w' e1' e2' e3' _ _ _ _ τ' hM' => by obtain rfl : c' = c := (by omega); obtain rfl : r' = r := (by omega); obtain rfl : w' = w := (by omega); exact po_m (H.chg hC hM' gd).I hM'.2.1 (fm_1 hM'.1)) (fun _ => by exfalso; first | omega) (fun _ _ => by exfalso; first | omega) (fun _ _ _ => by exfalso; first | omega)
  · exact Or.inl ⟨rfl, s_spot (H.2.1).1 hw (H.2.1).2.1 hz1 hz2 hz3 hs (fun c' r' w' e1' e2' e3' _ _ _ _ _ _ => by exfalso; first | omega | (obtain rfl : c' = c := (by omega); omega)) (fun _ => by exact po_1 (H.cd 1).I) (fun _ _ => by exfalso; first | omega) (fun _ _ _ => by exfalso; first | omega)⟩
  · exact Or.inr (Or.inl ⟨rfl, s_spot (H.2.1).1 hw (H.2.1).2.1 hz1 hz2 hz3 hs (fun c' r' w' e1' e2' e3' _ _ _ _ _ _ => by exfalso; first | omega | (obtain rfl : c' = c := (by omega); omega)) (fun _ => by exfalso; first | omega) (fun _ _ => by exact po_2 (H.cd 2).I) (fun _ _ _ => by exfalso; first | omega)⟩)
  · exact Or.inr (Or.inr ⟨rfl, s_spot (H.2.1).1 hw (H.2.1).2.1 hz1 hz2 hz3 hs (fun c' r' w' e1' e2' e3' _ _ _ _ _ _ => by exfalso; first | omega | (obtain rfl : c' = c := (by omega); omega)) (fun _ => by exfalso; first | omega) (fun _ _ => by exfalso; first | omega) (fun _ _ _ => by exact po_3 (H.cd 3).I)⟩)
end ZPr
