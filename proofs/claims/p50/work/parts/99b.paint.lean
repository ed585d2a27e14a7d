section APt
variable {G : fG} {l : Launch} {K : Int32 → Option zS → fW → Prop} {ax : Nat} {m : Nat → Int32} {σ : zS} {ω : fW}
theorem WQ.fac {p : Nat → Nat} {H C S B : Nat} {fa fa' : Nat → Nat → Nat → Int32} (h : WQ G ω ax p H C S B m fa) (hf : ∀ s c r, s < 2 → c < 64 → r < 8 → fa' s c r = fa s c r) : WQ G ω ax p H C S B m fa' := by
  obtain ⟨a1, a2, a3, a4, a5, a6, a7, a8, a9⟩ := h
  refine ⟨a1, a2, a3, a4, a5, a6, a7, fun s c hs hc => ?_, a9⟩
  obtain ⟨f, z1, z2⟩ := a8 s c hs hc
  exact ⟨f, z1, fun r hr => (z2 r hr).trans (hf s c r hs hc hr).symm⟩
/-- a slat's face painted, up to a cell -/
noncomputable def ptF (m : Nat → Int32) (fa : Nat → Nat → Nat → Int32) (k s j r : Nat) : Nat → Nat → Nat → Int32 := fun s' c' r' => if s' = s ∧ (fst m k ≤ c' ∧ (c' < fst m k + j ∨ (c' = fst m k + j ∧ r' < r))) ∧ r' < nH m then nI (pic m s c' r') else fa s' c' r'
theorem ac_347 {m1 : Nat → Int32} (hw : WF m) (hw1 : WF m1) (hb : Sb m m1) (hx : Sx m m1) {p : Nat → Nat} {fa : Nat → Nat → Nat → Int32} {k s j : Nat} (hk : k < nS m) (hs : s < 2) (hj : j < wd m k) {t : Int32} {o : Option zS} {kb : Nat} (H2 : ∀ ω : fW, WR G ω ax p m1 (ptF m fa k s (j + 1) 0) → L_L_acts_332 G l K ax (nI k) (p k) (nI s) (nI (fst m k)) t (nI (fst m k + j + 1)) o ω kb) : ∀ (d r : Nat) (ω : fW), r + d = nH m → WR G ω ax p m1 (ptF m fa k s j r) → L_L_acts_347 G l K ax (nI k) (p k) (nI s) (nI (fst m k)) t (nI (fst m k + j)) (nI r) o ω kb
  | 0, r, ω, hr, W => by
    have hwb := wf_b hw
    have hr : r = nH m := by omega
    subst hr
    refine b_L_acts_347 ⟨_, _, W.2.1, rfl, fun _ => ?_, fun z => absurd ?_ z⟩
    · rw [nI_1]
      refine H2 ω (WQ.fac W (fun s' c' r' h1 h2 h3 => ?_))
      unfold ptF
      by_cases q : s' = s ∧ (fst m k ≤ c' ∧ (c' < fst m k + j ∨ (c' = fst m k + j ∧ r' < nH m))) ∧ r' < nH m
      · rw [if_pos q, if_pos (by omega)]
      · rw [if_neg q, if_neg (by omega)]
    · rw [hb.e_nH]
      exact nI_le (Nat.le_refl _) (by omega)
  | d + 1, r, ω, hr, W => by
    have hwb := wf_b hw
    have hcol := fst_col hw hk hj
    have hcl := cols_le hw
    obtain ⟨F, R, f, a1, a2, b1, b2, c1, c2⟩ := W.face hs (show fst m k + j < 64 by omega)
    refine b_L_acts_347 ⟨_, _, W.2.1, rfl, fun z => absurd z ?_, fun _ => ⟨_, _, W.2.1, rfl, _, _, _, a1, nI_in hs (by omega), ?_, _, _, _, b1, nI_in (by omega) (by omega), ?_, Nat.zero_le _, _, W.2.1, w_picture W hw1 hs (by omega) (by omega) ⟨_, _, c1, nI_in (by omega) (by omega), fun ω17 e17 => ?_⟩⟩⟩
    · rw [hb.e_nH]
      exact nI_ge (by omega) (by omega)
    · rw [nI_clamp (by omega)]; exact a2
    · rw [nI_clamp (by omega)]; exact b2
    · rw [nI_clamp (by omega), hx.e_pic hw] at e17
      have W2 := W.fset hs (show fst m k + j < 64 by omega) (show r < 8 by omega) c1 c2 (nI (pic m s (fst m k + j) r))
      rw [← e17] at W2
      rw [nI_1]
      refine ac_347 hw hw1 hb hx hk hs hj H2 d (r + 1) ω17 (by omega) (WQ.fac W2 (fun s' c' r' h1 h2 h3 => ?_))
      unfold fset ptF
      by_cases q : s' = s ∧ c' = fst m k + j ∧ r' = r
      · rw [if_pos q, if_pos (by omega), q.2.1, q.2.2]
      · rw [if_neg q]
        by_cases q2 : s' = s ∧ (fst m k ≤ c' ∧ (c' < fst m k + j ∨ (c' = fst m k + j ∧ r' < r))) ∧ r' < nH m
        · rw [if_pos q2, if_pos (by omega)]
        · rw [if_neg q2, if_neg (by omega)]
theorem ac_332 {m1 : Nat → Int32} (hw : WF m) (hw1 : WF m1) (hb : Sb m m1) (hx : Sx m m1) {p : Nat → Nat} {fa : Nat → Nat → Nat → Int32} {k s : Nat} (hk : k < nS m) (hs : s < 2) {t : Int32} {o : Option zS} {kb : Nat} (H2 : ∀ ω : fW, WR G ω ax p m1 (ptF m fa k s (wd m k) 0) → L_L_acts_405 G l K ax t (nI s) (nI k) o ω kb) : ∀ (d j : Nat) (ω : fW), j + d = wd m k → WR G ω ax p m1 (ptF m fa k s j 0) → L_L_acts_332 G l K ax (nI k) (p k) (nI s) (nI (fst m k)) t (nI (fst m k + j)) o ω kb
  | 0, j, ω, hj, W => by
    have hj : j = wd m k := by omega
    subst hj
    have hs' := wf_s hw hk
    have hwb := wf_b hw
    have hm := fst_mono m (j := k + 1) (k := nS m) hk
    have hcl := cols_le hw
    rw [fst_succ] at hm
    unfold cols at hcl
    obtain ⟨f, f1, ⟨f2, -⟩, -⟩ := WR.slat W (k := k) (by rw [hb.e_nS]; exact hk)
    refine b_L_acts_332 ⟨_, _, f1, vi (i := 0) (by omega) (by omega), ?_⟩
    rw [f2, wf_w hw1 (by rw [hb.e_nS]; exact hk), hb.e_wd (by omega), ← iI_n, nI_add]
    refine ⟨fun _ => ⟨fun z => ?_, fun z => ?_⟩, fun z => absurd (nI_le (Nat.le_refl _) (by omega)) z⟩
    · have : s = 0 := by
        have : s ≠ 1 := fun w => z (by rw [w]; rfl)
        omega
      subst this
      exact H2 ω W
    · have : s = 1 := (nI_eq (b := 1) (by omega) (by omega)).mp z
      subst this
      exact H2 ω W
  | d + 1, j, ω, hj, W => by
    have hs' := wf_s hw hk
    have hwb := wf_b hw
    have hcol := fst_col hw hk (j := j) (by omega)
    have hm := fst_mono m (j := k + 1) (k := nS m) hk
    have hcl := cols_le hw
    rw [fst_succ] at hm
    unfold cols at hcl
    obtain ⟨f, f1, ⟨f2, -⟩, -⟩ := WR.slat W (k := k) (by rw [hb.e_nS]; exact hk)
    refine b_L_acts_332 ⟨_, _, f1, vi (i := 0) (by omega) (by omega), ?_⟩
    rw [f2, wf_w hw1 (by rw [hb.e_nS]; exact hk), hb.e_wd (by omega), ← iI_n, nI_add]
    refine ⟨fun z => absurd z (nI_ge (by omega) (by omega)), fun _ => ?_⟩
    exact ac_347 hw hw1 hb hx hk hs (by omega) (fun ω2 W2 => ac_332 hw hw1 hb hx hk hs H2 d (j + 1) ω2 (by omega) W2) (nH m) 0 ω (by omega) W
theorem ac_paint (J : JW G ax m σ ω) {p : Nat → Nat} {fa : Nat → Nat → Nat → Int32} (W : WR G ω ax p m fa) (hf : fOk m fa) {k s : Nat} (hk : k < nS m) (hs : s < 2) {kb : Nat} (hkb : 2 ≤ kb) (HK : ∀ τ ω' m', JW G ax m' τ ω' → K 1 (some τ) ω') :
    (∃ (n93 : Nat) (f94 : Nat → Int32), ω (p k) = some (.inl (G.1.2.1 0, n93, .inl f94)) ∧ vp_in (nI (3 + s)) n93 ∧ (∃ (fs95 : List Value) (w96 : Int32), ω ax = some (.inr (11, fs95)) ∧ fs95[1]? = some (.int w96) ∧ (((f94 (Int32.toNatClampNeg (nI (3 + s)))) < w96 → (0 ≤ kb ∧ ∃ fs106 : List Value, ω ax = some (.inr (11, fs106)) ∧ FC G l M_X7_unlike 0 [.ref ax, .int (nI k), .int (nI s)] (some σ, ω) (fQi (fun v98 o99 ω100 => (∃ (n101 : Nat) (f102 : Nat → Int32), ω100 (p k) = some (.inl (G.1.2.1 0, n101, .inl f102)) ∧ vp_in (nI (3 + s)) n101 ∧ (∃ (n103 : Nat) (f104 : Nat → Int32), ω100 (p k) = some (.inl (G.1.2.1 0, n103, .inl f104)) ∧ vp_in (nI (3 + s)) n103 ∧ (∀ ω105 : fW, ω105 = fup ω100 (p k) (.inl (G.1.2.1 0, n103, .inl (upd f104 (Int32.toNatClampNeg (nI (3 + s))) ((f102 (Int32.toNatClampNeg (nI (3 + s)))) + 1)))) → L_L_acts_332 G l K ax (nI k) (p k) (nI s) (nI (fst m k)) v98 (nI (fst m k)) o99 ω105 kb))))))) ∧ (¬ (f94 (Int32.toNatClampNeg (nI (3 + s)))) < w96 → K 1 (some σ) ω)))) := by
  obtain ⟨hN, hw, h4, ⟨u, h, hH, hh⟩, -⟩ := id J
  have hs' := wf_s hw hk
  have hwb := wf_b hw
  obtain ⟨f, f1, -, f5⟩ := WR.slat W hk
  have hct : ct m k s ≤ 99 := by
    match s, hs with
    | 0, _ => exact hs'.2.2.2.2.2.1
    | 1, _ => exact hs'.2.2.2.2.2.2
  have fv : f (Int32.toNatClampNeg (nI (3 + s))) = nI (ct m k s) := by
    rw [nI_clamp (by omega), f5 _ (by omega), show 4 + 5 * k + (3 + s) = 7 + 5 * k + s by omega, wf_c hw hk hs, iI_n]
  refine ⟨_, _, f1, nI_in (by omega) (by omega), _, _, W.2.1, rfl, ?_⟩
  rw [fv]
  refine ⟨fun y => ⟨Nat.zero_le _, _, W.2.1, w_unlike W hw hk hs ⟨_, _, f1, nI_in (by omega) (by omega), _, _, f1, nI_in (by omega) (by omega), fun ω2 e2 => ?_⟩⟩, fun _ => HK σ ω m J⟩
  have hlt : ct m k s < nC m := (nI_ltI (by omega) (by omega)).mp y
  rw [fv, nI_1, nI_clamp (by omega)] at e2
  have hb := mCoat_b (m := m) (v := ct m k s + 1) (show k < 10 by omega) hs
  have hw1 := mCoat_wf hw hk hs (v := ct m k s + 1) (by omega)
  have W2 : WR G ω2 ax p (mCoat m k s (ct m k s + 1)) fa := by
    refine WR.of ?_ hb.1 hb.2.e_nB
    rw [e2]
    refine W.wr (Or.inl hk) f1 (fun k' hk' => ⟨fun hne j hj => pk_un (by omega), fun e => ⟨rfl, fun j hj => ?_⟩⟩) (fun b hb => ⟨fun _ j hj => pk_un (by omega), fun e => by omega⟩) (fun s c hs hc => ⟨fun _ _ _ => rfl, fun e => by omega⟩)
    subst e
    unfold mCoat
    by_cases q1 : j = 3 + s
    · subst q1
      rw [pk_us, show 4 + 5 * k' + (3 + s) = 7 + 5 * k' + s by omega, pk_us, iI_n]
    · rw [pk_un q1, pk_un (by omega), f5 j hj]
  rw [ulF_unl hw hf hk hs]
  have pb := mPaint_b hw hk hs
  refine ac_332 hw hw1 hb.1 hb.2 (fa := fa) hk hs (fun ω3 W3 => b_L_acts_405 ⟨σ, rfl, by omega, fun n => ?_⟩) (wd m k) 0 ω2 (by omega) (WQ.fac W2 (fun s' c' r' h1 h2 h3 => ?_))
  · rw [iI_n k, iI_n s]
    refine c_paint hN hw hH hh (by unfold I32; omega) hs (fun q e1 _ _ τ hC => ?_) (fun z => z (by omega)) (fun q e1 _ z => z (by rw [show q = k by omega]; exact hlt))
    have e1 : q = k := by omega
    subst e1
    refine ⟨fun z => absurd rfl z, fun _ => b_L_acts_418 ⟨zbl_1, HK τ ω3 (mPaint m q s) ?_⟩⟩
    have r9 : ∀ s' c' r', s' < 2 → c' < 60 → r' < 8 → rpF m q s s' c' r' ≤ 9 := fun s' c' r' h1 h2 h3 => by
      have := rpF_9 hw q s s' c' r' h1 h2 h3
      exact this
    have hw2 : WF (mPaint m q s) := wF_wf hw1 r9
    have hcw : ∀ k' s', k' < nS m → s' < 2 → ct (mPaint m q s) k' s' ≤ nC m := fun k' s' hk' hs2 => by
      have e : ct (mPaint m q s) k' s' = (qv (mCoat m q s (ct m q s + 1)) (7 + 5 * k' + s')).toNat := congrArg (fun z : Int32 => z.toInt.toNat) (wF_q (Or.inl (by omega)))
      rw [e, mCoat_qv (by omega)]
      split
      · omega
      · exact J.2.2.1.2 k' s' hk' hs2
    refine J.chg hh hC hw2 pb.1 hcw (p := p) (fa := ptF m fa q s (wd m q) 0) ?_ ?_
    · have W3' : WQ G ω3 ax p (nH m) (nC m) (nS m) (nB m) (mCoat m q s (ct m q s + 1)) (ptF m fa q s (wd m q) 0) := by
        rw [← hb.1.e_nH, ← hb.1.e_nC, ← hb.1.e_nS, ← hb.2.e_nB]
        exact W3
      exact WR.of (W3'.cong (fun k' hk' j hj => wF_q (by omega)) (fun b hb j hj => wF_q (by omega))) pb.1 pb.2.e_nB
    · intro s' c' r' h1 h2 h3
      have hcl := cols_le hw
      rw [pb.1.e_cols hw] at h2
      rw [pb.1.e_nH] at h3
      have e : fc (mPaint m q s) s' c' r' = rpF m q s s' c' r' := wF_fc h1 (by omega) (by omega) (r9 s' c' r' h1 (by omega) (by omega))
      rw [e]
      unfold ptF rpF
      by_cases z : s' = s ∧ (fst m q ≤ c' ∧ c' < fst m q + wd m q) ∧ r' < nH m
      · rw [if_pos z, if_pos (by omega)]
      · rw [if_neg z, if_neg (by omega)]
        exact hf s' c' r' h1 h2 h3
  · unfold ptF
    rw [if_neg (by omega)]
end APt
