/-! the questions of the law, asked of the blind -/
section HLc
variable {G : fG} {l : Launch} {Kz : Int32 → zS → Prop} {ax : Nat} {m : Nat → Int32} {σ τ : zS} {ω : fW} {n : Nat}
theorem JW.fr (J : JW G ax m σ ω) (h : ∀ b, b = 16 ∨ (73 ≤ b ∧ b < 83) ∨ (103 ≤ b ∧ b < 163) → τ.1 b = σ.1 b) : JW G ax m τ ω := by
  obtain ⟨h1, h2, h3, ⟨u, hh, h4, h5⟩, h6⟩ := J
  exact ⟨(Nw_Nb.mp h1).fr (fun b x y => h b (by omega)), h2, h3, ⟨u, hh, h4.fr (h 16 (by omega)) (fun b x y => h b (by omega)), h5⟩, h6⟩
theorem JW.look (J : JW G ax m σ ω) (hF : FrL LV σ τ) : JW G ax m τ ω := J.fr (fun b hb => hF.1 b (fun q => by
  simp only [LV, List.mem_cons, List.not_mem_nil, or_false] at q
  omega))
theorem JW.lookW (J : JW G ax m σ ω) (hF : FrL LW σ τ) : JW G ax m τ ω := J.fr (fun b hb => hF.1 b (fun q => by
  simp only [LW, List.mem_cons, List.not_mem_nil, or_false] at q
  omega))
theorem g_set (J : JW G ax m σ ω) {z : Int} (hz : 0 ≤ z ∧ z ≤ 8) {v : Int} (hv : ∀ u, setN m u z = v) (H : Kz (iI v) σ) : CT (gB G.1 n) l M_X6_setting 1 [.ref (zad G.1 0), .int (iI z)] σ (zQi Kz (fun _ _ => False)) := by
  obtain ⟨hN, hw, -, ⟨u, h, hH, -⟩, -⟩ := J
  obtain ⟨nx, -, hu, h1, -⟩ := hH
  exact c_setting (u := u) hN hw (by unfold I32; omega) h1 (fun _ => by rw [hv]; exact H) (fun z => z (by omega))
theorem g_slat (hN : Nw σ m) (hw : WF m) {k : Nat} (hk : k < nS m) {z : Int} (hz : 0 ≤ z ∧ z ≤ 7) (H : Kz (iI (slN m k z)) σ) : CT (gB G.1 n) l M_X6_slat 2 [.ref (zad G.1 0), .int (nI k), .int (iI z)] σ (zQi Kz (fun _ _ => False)) := by
  have hb := wf_b hw
  rw [iI_n k]
  exact c_slat hN hw (by unfold I32; omega) (by unfold I32; omega) (fun q e _ _ => by
    have e : q = k := by omega
    subst e
    exact H) (fun z => z (by omega)) (fun _ z => z (by omega))
theorem g_right (hN : Nw σ m) (hw : WF m) {a : Int} (ha : -6 ≤ a ∧ a ≤ 6) {s : Nat} (hs : s < 2) (H : ∀ τ, FrL LV σ τ → Kz (nI (rgt m a s)) τ) : CT (gB G.1 n) l M_X6_right 1 [.ref (zad G.1 0), .int (iI a), .int (nI s)] σ (zQi Kz (fun _ _ => False)) := by
  rw [iI_n s]
  exact c_right hN hw (by unfold I32; omega) hs (fun _ τ h => H τ h) (fun z => z ha)
theorem g_open (hN : Nw σ m) (hw : WF m) {a : Int} (ha : -6 ≤ a ∧ a ≤ 6) (H : ∀ τ, FrL LV σ τ → Kz (nI (opN m a)) τ) : CT (gB G.1 n) l M_X6_open 1 [.ref (zad G.1 0), .int (iI a)] σ (zQi Kz (fun _ _ => False)) :=
  c_open hN hw (by unfold I32; omega) (fun _ τ h => H τ h) (fun z => z ha)
theorem g_cov (hN : Nw σ m) (hw : WF m) {a : Int} (ha : -6 ≤ a ∧ a ≤ 6) (H : ∀ τ, FrL LV σ τ → Kz (nI (nH m * colsAs m a 1 1)) τ) : CT (gB G.1 n) l M_X6_covered 1 [.ref (zad G.1 0), .int (iI a)] σ (zQi Kz (fun _ _ => False)) :=
  c_covered hN hw (by unfold I32; omega) (fun _ τ h => H τ h) (fun z => z ha)
theorem g_whole (hN : Nw σ m) (hw : WF m) {a : Int} (ha : -6 ≤ a ∧ a ≤ 6) (H : ∀ τ, FrL LV σ τ → Kz (nI (wN m a 0 + 2 * wN m a 1)) τ) : CT (gB G.1 n) l M_X6_whole 1 [.ref (zad G.1 0), .int (iI a)] σ (zQi Kz (fun _ _ => False)) :=
  c_whole hN hw (by unfold I32; omega) (fun _ τ h => H τ h) (fun z => z ha)
theorem g_first (hN : Nw σ m) (hw : WF m) {a : Int} (ha : -6 ≤ a ∧ a ≤ 6) {s : Nat} (hs : s < 2) (H : ∀ τ, FrL LV σ τ → Kz (iI (fwN m a s)) τ) : CT (gB G.1 n) l M_X6_firstWrong 1 [.ref (zad G.1 0), .int (iI a), .int (nI s)] σ (zQi Kz (fun _ _ => False)) := by
  rw [iI_n s]
  exact c_firstWrong hN hw (by unfold I32; omega) hs (fun _ τ h => H τ h) (fun z => z ha)
theorem g_run (hN : Nw σ m) (hw : WF m) {a : Int} (ha : -6 ≤ a ∧ a ≤ 6) (H : ∀ τ, FrL LV σ τ → Kz (nI (ruN m a (cols m)).2) τ) : CT (gB G.1 n) l M_X6_run 1 [.ref (zad G.1 0), .int (iI a)] σ (zQi Kz (fun _ _ => False)) :=
  c_run hN hw (by unfold I32; omega) (fun _ τ h => H τ h) (fun z => z ha)
theorem g_ghost (hN : Nw σ m) (hw : WF m) {a : Int} (ha : -6 ≤ a ∧ a ≤ 6) {s : Nat} (hs : s < 2) (H : ∀ τ, FrL LV σ τ → Kz (nI (fb_sm (ghC m a s) (cols m))) τ) : CT (gB G.1 n) l M_X6_ghosts 1 [.ref (zad G.1 0), .int (iI a), .int (nI s)] σ (zQi Kz (fun _ _ => False)) := by
  rw [iI_n s]
  exact c_ghosts hN hw (by unfold I32; omega) hs (fun _ τ h => H τ h) (fun z => z ha)
theorem g_seen (hN : Nw σ m) (hw : WF m) {a : Int} (ha : -6 ≤ a ∧ a ≤ 6) {c r : Nat} (hc : c < cols m) (hr : r < nH m) (H : ∀ τ, FrL LV σ τ → Kz (iI (snN m a c r)) τ) : CT (gB G.1 n) l M_X6_seen 1 [.ref (zad G.1 0), .int (iI a), .int (nI c), .int (nI r)] σ (zQi Kz (fun _ _ => False)) := by
  have hb := wf_b hw
  have hcl := cols_le hw
  rw [iI_n c, iI_n r]
  exact c_seen hN hw (by unfold I32; omega) (by unfold I32; omega) (by unfold I32; omega) (fun c' r' e1 e2 _ _ _ => by
    have e1 : c' = c := by omega
    have e2 : r' = r := by omega
    subst e1 e2
    exact H) (fun z => z (by omega)) (fun _ z => z ha)
theorem g_why (hN : Nw σ m) (hw : WF m) {a : Int} (ha : -6 ≤ a ∧ a ≤ 6) {s : Nat} (hs : s < 2) {c r : Nat} (hc : c < cols m) (hr : r < nH m) (H : ∀ τ, FrL LV σ τ → Kz (nI (whyN m a s c r)) τ) : CT (gB G.1 n) l M_X6_why 1 [.ref (zad G.1 0), .int (iI a), .int (nI s), .int (nI c), .int (nI r)] σ (zQi Kz (fun _ _ => False)) := by
  have hb := wf_b hw
  have hcl := cols_le hw
  rw [iI_n c, iI_n r, iI_n s]
  exact c_why hN hw hs (by unfold I32; omega) (by unfold I32; omega) (by unfold I32; omega) (fun c' r' e1 e2 _ _ _ => by
    have e1 : c' = c := by omega
    have e2 : r' = r := by omega
    subst e1 e2
    exact H) (fun z => z (by omega)) (fun _ z => z ha)
theorem g_pic (hN : Nw σ m) (hw : WF m) {s : Nat} (hs : s < 2) {c r : Nat} (hc : c < cols m) (hr : r < nH m) (H : Kz (nI (pic m s c r)) σ) : CT (gB G.1 n) l M_X6_picture 1 [.ref (zad G.1 0), .int (nI s), .int (nI c), .int (nI r)] σ (zQi Kz (fun _ _ => False)) := by
  have hb := wf_b hw
  have hcl := cols_le hw
  rw [iI_n c, iI_n r, iI_n s]
  exact c_picture hN hw hs (by unfold I32; omega) (by unfold I32; omega) (fun c' r' e1 e2 _ _ => by
    have e1 : c' = c := by omega
    have e2 : r' = r := by omega
    subst e1 e2
    exact H) (fun z => z (by omega))
theorem g_shown (hN : Nw σ m) (hw : WF m) {c : Nat} (hc : c < cols m) (H : ∀ τ, FrL LV σ τ → Kz (sfN m c) τ) : CT (gB G.1 n) l M_X6_shownFrom 1 [.ref (zad G.1 0), .int (nI c)] σ (zQi Kz (fun _ _ => False)) := by
  have hcl := cols_le hw
  rw [iI_n c]
  exact c_shownFrom hN hw (by unfold I32; omega) (fun c' e1 _ => by
    have e1 : c' = c := by omega
    subst e1
    exact H) (fun z => z (by omega))
theorem g_need (hN : Nw σ m) (hw : WF m) {a : Int} (ha : -6 ≤ a ∧ a ≤ 6) {s : Nat} (hs : s < 2) (H : ∀ τ, FrL LW σ τ → Kz (iI (tnN m a s)) τ) : CT (gB G.1 n) l M_X6_turnsNeeded 1 [.ref (zad G.1 0), .int (iI a), .int (nI s)] σ (zQi Kz (fun _ _ => False)) := by
  rw [iI_n s]
  exact c_turnsNeeded hN hw (by unfold I32; omega) hs (fun _ τ h => H τ h) (fun z => z ha)
theorem g_best (hN : Nw σ m) (hw : WF m) (h0 : nS m ≠ 0) {s : Nat} (hs : s < 2) (H : ∀ τ, FrL LV σ τ → Kz (iI (baN m s 13).1) τ) : CT (gB G.1 n) l M_X6_bestAngle 0 [.ref (zad G.1 0), .int (nI s)] σ (zQi Kz (fun _ _ => False)) := by
  rw [iI_n s]
  exact c_bestAngle hN hw hs (fun τ h => by rw [if_neg h0]; exact H τ h)
theorem g_lightest (hN : Nw σ m) (hw : WF m) (h0 : nS m ≠ 0) (H : ∀ τ, FrL LV σ τ → Kz (iI (liN m 13).1) τ) : CT (gB G.1 n) l M_X6_lightest 0 [.ref (zad G.1 0)] σ (zQi Kz (fun _ _ => False)) :=
  c_lightest hN hw (fun τ h => by rw [if_neg h0]; exact H τ h)
theorem g_light {Kf : UInt32 → zS → Prop} (hN : Nw σ m) (hw : WF m) (h0 : cols m ≠ 0) {a : Int} (ha : -6 ≤ a ∧ a ≤ 6) (H : ∀ τ, FrL LV σ τ → Kf (qoF (opN m a) (cols m * nH m)) τ) : CT (gB G.1 n) l M_X6_light 1 [.ref (zad G.1 0), .int (iI a)] σ (zQf Kf (fun _ _ => False)) :=
  c_light hN hw (by unfold I32; omega) (fun _ τ h => by unfold ltN; rw [if_neg h0]; exact H τ h) (fun z => z ha)
theorem g_bturn (hN : Nw σ m) (hw : WF m) {a : Int} (ha : -6 ≤ a ∧ a ≤ 6) {s k : Nat} (hs : s < 2) (hk : k < nS m) (H : ∀ τ, FrL LW σ τ → Kz (iI (btN m k a s 0 9).1) τ) : CT (gB G.1 n) l M_X6_bestTurn 1 [.ref (zad G.1 0), .int (nI k), .int (iI a), .int (nI s)] σ (zQi Kz (fun _ _ => False)) := by
  have hb := wf_b hw
  rw [iI_n k, iI_n s]
  exact c_bestTurn hN hw (by unfold I32; omega) (by unfold I32; omega) hs (fun k' e1 _ _ => by
    have e1 : k' = k := by omega
    subst e1
    exact H) (fun z => z (by omega)) (fun _ z => z ha)
theorem g_bpull (hN : Nw σ m) (hw : WF m) {a : Int} (ha : -6 ≤ a ∧ a ≤ 6) {s : Nat} (hs : s < 2) (H : ∀ τ, FrL LW σ τ → Kz (iI (bpN m a s 16).1) τ) : CT (gB G.1 n) l M_X6_bestPull 1 [.ref (zad G.1 0), .int (iI a), .int (nI s)] σ (zQi Kz (fun _ _ => False)) := by
  rw [iI_n s]
  exact c_bestPull hN hw (by unfold I32; omega) hs (fun _ τ h => H τ h) (fun z => z ha)
theorem g_pable (hN : Nw σ m) (hw : WF m) {s : Nat} (hs : s < 2) (H : Kz (paN m s (nS m)) σ) : CT (gB G.1 n) l M_X6_paintable 0 [.ref (zad G.1 0), .int (nI s)] σ (zQi Kz (fun _ _ => False)) := by
  rw [iI_n s]
  exact c_paintable hN hw hs H
/-- the blind changed, the world as it was: to be undone -/
def JD (G : fG) (ax : Nat) (m m' : Nat → Int32) (σ : zS) (ω : fW) : Prop := Nw σ m' ∧ WF m' ∧ (WF m ∧ (nS m ≤ 4 ∧ nH m ≤ 4) ∧ Cw m) ∧ (∃ (u : Nat) (h : Nat → Nat → Int32), HsC σ (u + 1) h ∧ (∀ i, i < u + 1 → WF (h i)) ∧ h 0 = m) ∧ ∃ (p : Nat → Nat) (fa : Nat → Nat → Nat → Int32), WR G ω ax p m fa ∧ fOk m fa
theorem JW.done (J : JW G ax m σ ω) {u : Nat} {h : Nat → Nat → Int32} (hh : ∀ i, i < u → WF (h i)) {m' : Nat → Int32} (hC : ChC σ u h m m' τ) (hw' : WF m') : JD G ax m m' τ ω := by
  obtain ⟨h1, h2, h3, -, h6⟩ := J
  refine ⟨hC.2.1, hw', ⟨h2, h3⟩, ⟨min 5 u, _, ?_, fun i hi => hpush_wf h2 hh i (by omega), rfl⟩, h6⟩
  have e : min 5 u + 1 = min 6 (u + 1) := by omega
  rw [e]
  exact hC.2.2
theorem JD.look {m' : Nat → Int32} (J : JD G ax m m' σ ω) (hF : FrL LV σ τ) : JD G ax m m' τ ω := by
  have h : ∀ b, b = 16 ∨ (73 ≤ b ∧ b < 83) ∨ (103 ≤ b ∧ b < 163) → τ.1 b = σ.1 b := fun b hb => hF.1 b (fun q => by
    simp only [LV, List.mem_cons, List.not_mem_nil, or_false] at q
    omega)
  obtain ⟨h1, h2, h3, ⟨u, hh, h4, h5⟩, h6⟩ := J
  exact ⟨(Nw_Nb.mp h1).fr (fun b x y => h b (by omega)), h2, h3, ⟨u, hh, h4.fr (h 16 (by omega)) (fun b x y => h b (by omega)), h5⟩, h6⟩
theorem g_undo {m' : Nat → Int32} (J : JD G ax m m' σ ω) (H : ∀ (τ : zS) (u : Nat), u < 6 → JW G ax m τ ω → Kz (nI u) τ) : CT (gB G.1 n) l M_X6_undo 0 [.ref (zad G.1 0)] σ (zQi Kz (fun _ _ => False)) := by
  obtain ⟨h1, h2, ⟨h3, h3'⟩, ⟨u, hh, h4, h5, h7⟩, h6⟩ := J
  have hu : u + 1 ≤ 6 := by obtain ⟨_, _, z, _⟩ := h4; exact z
  refine c_undo h4 h5 (fun z => by omega) (fun _ τ hF hN hH => ?_)
  rw [h7] at hN
  exact H τ (u + 1 - 1) (by omega) ⟨hN, h3, h3', ⟨u + 1 - 1, _, hH, fun i hi => h5 (i + 1) (by omega)⟩, h6⟩
theorem g_pull (J : JW G ax m σ ω) {z : Int} (hz : (-8 ≤ z ∧ z ≤ 8) ∧ z ≠ 0) (H : ∀ τ, JD G ax m (wT m (plT m z)) τ ω → Kz (nI (fb_ct (fun j => decide (plT m z j ≠ tu m j)) (nS m))) τ) : CT (gB G.1 n) l M_X6_pull 1 [.ref (zad G.1 0), .int (iI z)] σ (zQi Kz (fun _ _ => False)) := by
  obtain ⟨hN, hw, -, ⟨u, h, hH, hh⟩, -⟩ := id J
  exact c_pull hN hw hH hh (by unfold I32; omega) (fun _ τ hC => H τ (J.done hh hC (wT_wf hw (fun k hk => plT_b hw z hk)))) (fun y => y hz)
theorem g_turn (J : JW G ax m σ ω) {k : Nat} (hk : k < nS m) (h0 : td m k = 0) {z : Int} (hz : -4 ≤ z ∧ z ≤ 4) (H : ∀ τ, JD G ax m (mTurn m k z) τ ω → Kz (iI (tu m k)) τ) : CT (gB G.1 n) l M_X6_turn 1 [.ref (zad G.1 0), .int (nI k), .int (iI z)] σ (zQi Kz (fun _ _ => False)) := by
  obtain ⟨hN, hw, -, ⟨u, h, hH, hh⟩, -⟩ := id J
  have hb := wf_b hw
  rw [iI_n k]
  refine c_turn hN hw hH hh (by unfold I32; omega) (by unfold I32; omega) (fun q e1 _ _ _ τ hC => ?_) (fun y => y (by omega)) (fun _ y => y hz) (fun q e1 _ _ y => y (by rw [show q = k by omega]; exact h0))
  have e1 : q = k := by omega
  subst e1
  exact H τ (J.done hh hC (wT_wf hw (fun i hi => by
    have := wf_s hw hi
    (try simp only); split <;> omega)))
theorem g_paint (J : JW G ax m σ ω) {k s : Nat} (hk : k < nS m) (hs : s < 2) (h0 : ct m k s < nC m) (H : ∀ τ, JD G ax m (mPaint m k s) τ ω → Kz (nI (unl m k s)) τ) : CT (gB G.1 n) l M_X6_paint 1 [.ref (zad G.1 0), .int (nI k), .int (nI s)] σ (zQi Kz (fun _ _ => False)) := by
  obtain ⟨hN, hw, -, ⟨u, h, hH, hh⟩, -⟩ := id J
  have hb := wf_b hw
  rw [iI_n k, iI_n s]
  refine c_paint hN hw hH hh (by unfold I32; omega) hs (fun q e1 _ _ τ hC => ?_) (fun y => y (by omega)) (fun q e1 _ y => y (by rw [show q = k by omega]; exact h0))
  have e1 : q = k := by omega
  subst e1
  exact H τ (J.done hh hC (wF_wf (mCoat_wf hw hk hs (v := ct m q s + 1) (by omega)) (fun s' c' r' h1 h2 h3 => by
    have := rpF_9 hw q s s' c' r' h1 h2 h3
    exact this)))
end HLc
