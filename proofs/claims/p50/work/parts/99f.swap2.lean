section ASx
variable {G : fG} {l : Launch} {K : Int32 → Option zS → fW → Prop} {ax : Nat} {m : Nat → Int32} {σ : zS}
theorem dist.ne (hd : dist G) {s t : Nat} (hs : s < 7) (ht : t < 7) (h : s ≠ t) {x y : vp_A} : (Sum.inl (G.1.2.1 s, x) : va_E) ≠ .inl (G.1.2.1 t, y) := fun z => h (hd s t hs ht (congrArg (fun q : va_E => match q with | .inl (a, _) => a | .inr _ => G.1.2.1 s) z))
theorem dist.ad (hd : dist G) {ω : fW} {p q s t : Nat} (hs : s < 7) (ht : t < 7) (h : s ≠ t) {x y : vp_A} (hp : ω p = some (.inl (G.1.2.1 s, x))) (hq : ω q = some (.inl (G.1.2.1 t, y))) : p ≠ q := fun z => by
  rw [z, hq] at hp
  exact hd.ne ht hs (fun e => h e.symm) (Option.some.inj hp)
def swP (m : Nat → Int32) (k j : Nat) : Nat := fb_sm (fun j => fb_ct (fun r => decide (fc m 1 (fst m k + j) r ≠ fc m 0 (fst m k + j) r)) (nH m)) j
def swC (m : Nat → Int32) (c r : Nat) : Nat := fb_ct (fun r => decide (fc m 1 c r ≠ fc m 0 c r)) r
theorem swP_s (m : Nat → Int32) (k j : Nat) : swP m k (j + 1) = swP m k j + swC m (fst m k + j) (nH m) := rfl
def swW (m : Nat → Int32) (fa : Nat → Nat → Nat → Int32) (k j : Nat) : Nat → Nat → Nat → Int32 := fun s c r => if fst m k ≤ c ∧ c < fst m k + j then fa (1 - s) c r else fa s c r
theorem swC_s (m : Nat → Int32) (c r : Nat) : swC m c (r + 1) = swC m c r + (if fc m 1 c r ≠ fc m 0 c r then 1 else 0) := by
  show fb_ct _ r + (if decide (fc m 1 c r ≠ fc m 0 c r) = true then 1 else 0) = _
  congr 1
  by_cases h : fc m 1 c r ≠ fc m 0 c r
  · rw [if_pos h, if_pos (decide_eq_true h)]
  · rw [if_neg h, if_neg (by rw [decide_eq_true_iff]; exact h)]
theorem ac_561 (hw : WF m) {fa : Nat → Nat → Nat → Int32} (hf : fOk m fa) {k j P : Nat} (hk : k < nS m) (hj : j < wd m k) {o : Option zS} {kb : Nat} (H2 : ∀ (p : Nat → Nat) (ω : fW), p k = P → WR G ω ax p m (swW m fa k (j + 1)) → L_L_acts_546 G l K ax (nI k) P (nI (fst m k)) (nI (swP m k (j + 1))) (nI (fst m k + j + 1)) o ω kb) : ∀ (d r : Nat) (p : Nat → Nat) (ω : fW), r + d = nH m → p k = P → WR G ω ax p m (swW m fa k j) → L_L_acts_561 G l K ax (nI k) P (nI (fst m k)) (nI (swP m k j + swC m (fst m k + j) r)) (nI (fst m k + j)) (nI r) o ω kb
  | 0, r, p, ω, hr, hp, W => by
    have hwb := wf_b hw
    have hcol := fst_col hw hk hj
    have hcl := cols_le hw
    have hc : fst m k + j < 64 := by omega
    have hr : r = nH m := by omega
    subst hr
    obtain ⟨F, R0, f0, a1, a2, b1, b2, c1, c2⟩ := W.face (s := 0) (by omega) hc
    obtain ⟨F', R1, f1, a1', a2', b1', b2', c1', c2'⟩ := W.face (s := 1) (by omega) hc
    rw [Nat.mul_zero, Nat.add_zero] at b2 c1
    have hd := W.1
    have hp34 : p 163 ≠ p 164 := W.2.2.2.2.2.2.2.2.2.2.1
    have t0 : F (Int32.toNatClampNeg 0) = some (p 163) := by rw [tc_0]; exact a2
    have t1 : F' (Int32.toNatClampNeg 1) = some (p 164) := by rw [tc_1]; exact a2'
    have u0 : R0 (Int32.toNatClampNeg (nI (fst m k + j))) = some (p (32 + (fst m k + j))) := by rw [nI_clamp (by omega)]; exact b2
    have u1 : R1 (Int32.toNatClampNeg (nI (fst m k + j))) = some (p (96 + (fst m k + j))) := by rw [nI_clamp (by omega)]; exact b2'
    have ci := nI_in (N := 64) hc (by omega)
    refine b_L_acts_561 ⟨_, _, W.2.1, rfl, fun _ => ⟨_, _, W.2.1, rfl, _, _, _, a1, vi (i := 0) (by omega) (by omega), t0, _, _, _, b1, ci, u0, _, _, W.2.1, rfl, _, _, _, a1, vi (i := 0) (by omega) (by omega), t0, _, _, W.2.1, rfl, _, _, _, a1', vi (i := 1) (by omega) (by omega), t1, _, _, _, b1', ci, u1, _, _, _, b1, c1', ci, fun ω2 e2 => ?_⟩, fun z => absurd (nI_le (Nat.le_refl _) (by omega)) z⟩
    have k2 : ∀ q e, ω q = some e → q ≠ p 163 → ω2 q = some e := fun q e h1 h2 => by rw [e2, fup_ne h2]; exact h1
    have hax : ω2 ax = _ := k2 _ _ W.2.1 (fun z => by have := W.2.1; rw [z] at this; rw [show ω (p 163) = _ from b1] at this; cases this)
    have b1'' : ω2 (p 164) = _ := k2 _ _ b1' (fun z => hp34 z.symm)
    refine ⟨_, _, hax, rfl, _, _, _, k2 _ _ a1' (hd.ad (by omega) (by omega) (by omega) a1' b1), vi (i := 1) (by omega) (by omega), t1, _, _, _, b1'', k2 _ _ c1 (hd.ad (by omega) (by omega) (by omega) c1 b1), ci, fun ω3 e3 => ?_⟩
    rw [nI_clamp (by omega)] at e2 e3
    obtain ⟨p', q1, q2⟩ := WQ.swap W hc b1 b1'
    subst e2
    subst e3
    rw [nI_1]
    refine H2 p' _ (by rw [q1 k (by omega)]; exact hp) (WQ.fac q2 (fun s c' r' h1 h2 h3 => ?_))
    unfold swW
    by_cases e : c' = fst m k + j
    · rw [if_pos e, if_pos (by omega), if_neg (by omega)]
    · rw [if_neg e]
      by_cases e2 : fst m k ≤ c' ∧ c' < fst m k + j
      · rw [if_pos e2, if_pos (by omega)]
      · rw [if_neg e2, if_neg (by omega)]
  | d + 1, r, p, ω, hr, hp, W => by
    have hwb := wf_b hw
    have hcol := fst_col hw hk hj
    have hcl := cols_le hw
    have hc : fst m k + j < 64 := by omega
    have hr8 : r < 8 := by omega
    obtain ⟨F, R0, f0, a1, a2, b1, b2, c1, c2⟩ := W.face (s := 0) (by omega) hc
    obtain ⟨F', R1, f1, a1', a2', b1', b2', c1', c2'⟩ := W.face (s := 1) (by omega) hc
    have t0 : F (Int32.toNatClampNeg 0) = some (p 163) := by rw [tc_0]; exact a2
    have t1 : F' (Int32.toNatClampNeg 1) = some (p 164) := by rw [tc_1]; exact a2'
    have u0 : R0 (Int32.toNatClampNeg (nI (fst m k + j))) = some (p (32 + 64 * 0 + (fst m k + j))) := by rw [nI_clamp (by omega)]; exact b2
    have u1 : R1 (Int32.toNatClampNeg (nI (fst m k + j))) = some (p (32 + 64 * 1 + (fst m k + j))) := by rw [nI_clamp (by omega)]; exact b2'
    have ci := nI_in (N := 64) hc (by omega)
    have ri := nI_in (N := 8) hr8 (by omega)
    have v0 : f0 (Int32.toNatClampNeg (nI r)) = nI (fc m 0 (fst m k + j) r) := by
      rw [nI_clamp (by omega), c2 r hr8]
      unfold swW
      rw [if_neg (by omega)]
      exact hf 0 _ _ (by omega) hcol (by omega)
    have v1 : f1 (Int32.toNatClampNeg (nI r)) = nI (fc m 1 (fst m k + j) r) := by
      rw [nI_clamp (by omega), c2' r hr8]
      unfold swW
      rw [if_neg (by omega)]
      exact hf 1 _ _ (by omega) hcol (by omega)
    have g0 := wf_f9 hw (s := 0) (c := fst m k + j) (r := r) (by omega) (by omega) hr8
    have g1 := wf_f9 hw (s := 1) (c := fst m k + j) (r := r) (by omega) (by omega) hr8
    refine b_L_acts_561 ⟨_, _, W.2.1, rfl, fun z => absurd z (nI_ge (by omega) (by omega)), fun _ => ⟨_, _, W.2.1, rfl, _, _, _, a1, vi (i := 0) (by omega) (by omega), t0, _, _, _, b1, ci, u0, _, _, c1, ri, _, _, W.2.1, rfl, _, _, _, a1', vi (i := 1) (by omega) (by omega), t1, _, _, _, b1', ci, u1, _, _, c1', ri, ?_⟩⟩
    rw [v0, v1, nI_eq (by omega) (by omega)]
    refine ⟨fun y => b_L_acts_604 ?_, fun y => b_L_acts_604 ?_⟩
    · rw [nI_1, nI_1, show swP m k j + swC m (fst m k + j) r + 1 = swP m k j + swC m (fst m k + j) (r + 1) by rw [swC_s, if_pos (fun z => y z.symm)]; omega]
      exact ac_561 hw hf hk hj H2 d (r + 1) p ω (by omega) hp W
    · rw [nI_1, show nI (swP m k j + swC m (fst m k + j) r) + 0 = nI (swP m k j + swC m (fst m k + j) (r + 1)) from by rw [swC_s, if_neg (fun z => z y.symm)]; exact nI_add _ 0]
      exact ac_561 hw hf hk hj H2 d (r + 1) p ω (by omega) hp W
theorem ac_546 {ω0 : fW} (J : JW G ax m σ ω0) {fa : Nat → Nat → Nat → Int32} (hf : fOk m fa) {k P : Nat} (hk : k < nS m) {kb : Nat} (hkb : 2 ≤ kb) (HK : ∀ τ ω' m', JW G ax m' τ ω' → K 1 (some τ) ω') : ∀ (d j : Nat) (p : Nat → Nat) (ω : fW), j + d = wd m k → p k = P → WR G ω ax p m (swW m fa k j) → L_L_acts_546 G l K ax (nI k) P (nI (fst m k)) (nI (swP m k j)) (nI (fst m k + j)) (some σ) ω kb
  | 0, j, p, ω, hj, hp, W => by
    obtain ⟨hN, hw, h4, ⟨u, h, hH, hh⟩, -⟩ := id J
    have hs' := wf_s hw hk
    have hwb := wf_b hw
    have hcl := cols_le hw
    have hj : j = wd m k := by omega
    subst hj
    subst hp
    have hm := fst_mono m (j := k + 1) (k := nS m) hk
    rw [fst_succ] at hm
    unfold cols at hcl
    obtain ⟨f, f1, ⟨f2, -, -, f3, f4⟩, f5⟩ := WR.slat W hk
    refine b_L_acts_546 ⟨_, _, f1, vi (i := 0) (by omega) (by omega), ?_⟩
    rw [f2, wf_w hw hk, ← iI_n, nI_add]
    refine ⟨fun _ => ⟨_, _, f1, vi (i := 3) (by omega) (by omega), _, _, f1, vi (i := 4) (by omega) (by omega), _, _, f1, vi (i := 3) (by omega) (by omega), fun ω2 e2 => ?_⟩, fun z => absurd (nI_le (Nat.le_refl _) (by omega)) z⟩
    rw [f4, wf_c hw hk (by omega), tc_3] at e2
    rw [f3, wf_c hw hk (by omega)]
    have c2 := (congrFun e2 (p k)).trans (fup_at _ _ _)
    refine ⟨_, _, c2, vi (i := 4) (by omega) (by omega), fun ω3 e3 => ⟨σ, rfl, by omega, fun n => ?_⟩⟩
    rw [tc_4] at e3
    rw [iI_n k]
    refine c_swap hN hw hH hh (by unfold I32; omega) (fun q e1 _ τ hC => ?_) (fun z => z (by omega))
    have e1 : q = k := by omega
    subst e1
    refine ⟨fun z => absurd rfl z, fun _ => b_L_acts_695 ⟨zbl_1, HK τ ω3 (mSwap m q) ?_⟩⟩
    have sb := mSwap_b hw hk
    have W2 : WQ G ω2 ax p (nH m) (nC m) (nS m) (nB m) (mCoat m q 0 (ct m q 1)) (swW m fa q (wd m q)) := by
      rw [e2]
      refine W.wr (Or.inl hk) f1 (fun k' hk' => ⟨fun hne j hj => pk_un (by omega), fun e => ⟨rfl, fun j5 h5 => ?_⟩⟩) (fun b hb => ⟨fun _ j hj => pk_un (by omega), fun e => by omega⟩) (fun s c hs hc => ⟨fun _ _ _ => rfl, fun e => by omega⟩)
      subst e
      unfold mCoat
      by_cases q1 : j5 = 3
      · subst q1
        rw [pk_us, show 4 + 5 * k' + 3 = 7 + 5 * k' + 0 by omega, pk_us]
      · rw [pk_un q1, pk_un (by omega), f5 j5 h5]
    obtain ⟨g, g1, -, g5⟩ := WR.slat W2 hk
    have eg := Option.some.inj (g1.symm.trans c2)
    have W3 : WQ G ω3 ax p (nH m) (nC m) (nS m) (nB m) (mCoat (mCoat m q 0 (ct m q 1)) q 1 (ct m q 0)) (swW m fa q (wd m q)) := by
      rw [e3]
      refine W2.wr (Or.inl hk) c2 (fun k' hk' => ⟨fun hne j hj => pk_un (by omega), fun e => ⟨rfl, fun j5 h5 => ?_⟩⟩) (fun b hb => ⟨fun _ j hj => pk_un (by omega), fun e => by omega⟩) (fun s c hs hc => ⟨fun _ _ _ => rfl, fun e => by omega⟩)
      subst e
      have g6 := g5 j5 h5
      have eg2 : g = upd f 3 (iI (ct m k' 1)) := by
        injection eg with eg
        injection eg with _ eg
        injection eg with _ eg
        injection eg
      rw [eg2] at g6
      unfold mCoat
      unfold mCoat at g6
      by_cases q1 : j5 = 4
      · subst q1
        rw [pk_us, show 4 + 5 * k' + 4 = 7 + 5 * k' + 1 by omega, pk_us]
      · rw [pk_un q1, g6]
        exact (pk_un (by omega)).symm
    have hw2 : WF (mSwap m q) := wF_wf (mSw_c hw hk).1 (swF_9 hw q)
    have hcw : ∀ k' s', k' < nS m → s' < 2 → ct (mSwap m q) k' s' ≤ nC m := fun k' s' hk' hs2 => by
      have e : ct (mSwap m q) k' s' = (qv (mCoat (mCoat m q 0 (ct m q 1)) q 1 (ct m q 0)) (7 + 5 * k' + s')).toNat := congrArg (fun z : Int32 => z.toInt.toNat) (wF_q (Or.inl (by omega)))
      have h0 := J.2.2.1.2 q 0 hk (by omega)
      have h1 := J.2.2.1.2 q 1 hk (by omega)
      rw [e, mCoat_qv (by omega)]
      split
      · omega
      · rw [mCoat_qv (by omega)]
        split
        · omega
        · exact J.2.2.1.2 k' s' hk' hs2
    refine J.chg hh hC hw2 sb.1 hcw (p := p) (fa := swW m fa q (wd m q)) (WR.of (W3.cong (fun k' hk' j hj => wF_q (by omega)) (fun b hb j hj => wF_q (by omega))) sb.1 sb.2.e_nB) ?_
    intro s' c' r' h1 h2 h3
    rw [sb.1.e_cols hw] at h2
    rw [sb.1.e_nH] at h3
    have hcl2 := cols_le hw
    have e : fc (mSwap m q) s' c' r' = swF m q s' c' r' := wF_fc h1 (by omega) (by omega) (swF_9 hw q s' c' r' h1 (by omega) (by omega))
    rw [e]
    unfold swW swF
    by_cases z : fst m q ≤ c' ∧ c' < fst m q + wd m q
    · rw [if_pos z, if_pos ⟨z, h3⟩]
      exact hf (1 - s') c' r' (by omega) h2 h3
    · rw [if_neg z, if_neg (fun w => z w.1)]
      exact hf s' c' r' h1 h2 h3
  | d + 1, j, p, ω, hj, hp, W => by
    have hw := J.2.1
    have hs' := wf_s hw hk
    have hwb := wf_b hw
    have hcol := fst_col hw hk (j := j) (by omega)
    have hcl := cols_le hw
    subst hp
    have hm := fst_mono m (j := k + 1) (k := nS m) hk
    rw [fst_succ] at hm
    unfold cols at hcl
    obtain ⟨f, f1, ⟨f2, -⟩, f5⟩ := WR.slat W hk
    refine b_L_acts_546 ⟨_, _, f1, vi (i := 0) (by omega) (by omega), ?_⟩
    rw [f2, wf_w hw hk, ← iI_n, nI_add]
    refine ⟨fun z => absurd z (nI_ge (by omega) (by omega)), fun _ => ?_⟩
    exact ac_561 hw hf hk (by omega) (fun p2 ω2 h2 W2 => ac_546 J hf hk hkb HK d (j + 1) p2 ω2 (by omega) h2 W2) (nH m) 0 p ω (by omega) rfl W
theorem ac_swap {ω : fW} (J : JW G ax m σ ω) {p : Nat → Nat} {fa : Nat → Nat → Nat → Int32} (W : WR G ω ax p m fa) (hf : fOk m fa) {k : Nat} (hk : k < nS m) {kb : Nat} (hkb : 2 ≤ kb) (HK : ∀ τ ω' m', JW G ax m' τ ω' → K 1 (some τ) ω') : L_L_acts_546 G l K ax (nI k) (p k) (nI (fst m k)) 0 (nI (fst m k)) (some σ) ω kb :=
  ac_546 J hf hk hkb HK (wd m k) 0 p ω (by omega) rfl (WQ.fac W (fun s c r _ _ _ => by unfold swW; rw [if_neg (by omega)]))
end ASx
