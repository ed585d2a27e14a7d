/-! the changes: class and world together -/
theorem nle_eq {a b c : Nat} (h : a = b) (h2 : b ≤ c) : a ≤ c := by rw [h]; exact h2
def Cw (m : Nat → Int32) : Prop := ∀ k s, k < nS m → s < 2 → ct m k s ≤ nC m
def JW (G : fG) (ax : Nat) (m : Nat → Int32) (σ : zS) (ω : fW) : Prop := Nw σ m ∧ WF m ∧ ((nS m ≤ 4 ∧ nH m ≤ 4) ∧ Cw m) ∧ (∃ (u : Nat) (h : Nat → Nat → Int32), HsC σ u h ∧ ∀ i, i < u → WF (h i)) ∧ ∃ (p : Nat → Nat) (fa : Nat → Nat → Nat → Int32), WR G ω ax p m fa ∧ fOk m fa
section JWs
variable {G : fG} {ax : Nat} {m m' : Nat → Int32} {σ τ : zS} {ω ω' : fW}
theorem hpush_wf (hw : WF m) {u : Nat} {h : Nat → Nat → Int32} (hh : ∀ i, i < u → WF (h i)) : ∀ i, i < min 6 (u + 1) → WF (hpush m h i) := fun i hi => by
  unfold hpush
  by_cases e : i = 0
  · rw [if_pos e]; exact hw
  · rw [if_neg e]; exact hh _ (by omega)
theorem WR.of {p : Nat → Nat} {fa : Nat → Nat → Nat → Int32} (W : WQ G ω ax p (nH m) (nC m) (nS m) (nB m) m' fa) (hb : Sb m m') (hx : nB m' = nB m) : WR G ω ax p m' fa := by
  show WQ G ω ax p (nH m') (nC m') (nS m') (nB m') m' fa
  rw [hb.e_nH, hb.e_nC, hb.e_nS, hx]
  exact W
theorem fOk.of {fa : Nat → Nat → Nat → Int32} (hf : fOk m fa) (hw : WF m) (hb : Sb m m') (hc : ∀ s c r, s < 2 → c < 60 → r < 8 → fc m' s c r = fc m s c r) : fOk m' fa := fun s c r h1 h2 h3 => by
  have hwb := wf_b hw
  have hcl := cols_le hw
  rw [hb.e_cols hw] at h2
  rw [hb.e_nH] at h3
  rw [hc s c r h1 (by omega) (by omega)]
  exact hf s c r h1 h2 h3
theorem JW.chg (h : JW G ax m σ ω) {u : Nat} {hh : Nat → Nat → Int32} (hu : ∀ i, i < u → WF (hh i)) (hC : ChC σ u hh m m' τ) (hw' : WF m') (hb : Sb m m') (hcw : ∀ k s, k < nS m → s < 2 → ct m' k s ≤ nC m) {p : Nat → Nat} {fa : Nat → Nat → Nat → Int32} (W : WR G ω' ax p m' fa) (hf : fOk m' fa) : JW G ax m' τ ω' :=
  ⟨hC.2.1, hw', ⟨by rw [hb.e_nS, hb.e_nH]; exact h.2.2.1.1, fun k s hk hs => by
    rw [hb.e_nS] at hk
    rw [hb.e_nC]
    exact hcw k s hk hs⟩, ⟨_, _, hC.2.2, hpush_wf h.2.1 hu⟩, p, fa, W, hf⟩
theorem wT_Sb (t : Nat → Int) : Sb m (wT m t) := ⟨wT_q (by omega), wT_q (by omega), wT_q (by omega), fun k hk => wT_q (by omega)⟩
theorem mTie_Sb {k v : Nat} (hk : k < 10) : Sb m (mTie m k v) := (mTie_b hk).1
end JWs
section ACt
variable {G : fG} {l : Launch} {K : Int32 → Option zS → fW → Prop} {ax : Nat} {m : Nat → Int32} {σ : zS} {ω : fW}
theorem ac_58 (J : JW G ax m σ ω) {z : Int} (hz : (-8 ≤ z ∧ z ≤ 8) ∧ z ≠ 0) {kb : Nat} (hkb : 2 ≤ kb) (HK : ∀ τ ω' m', JW G ax m' τ ω' → K 1 (some τ) ω') : L_L_acts_58 G l K ax (iI z) (some σ) ω kb := by
  obtain ⟨hN, hw, h4, ⟨u, h, hH, hh⟩, p, fa, W, hf⟩ := id J
  refine b_L_acts_58 ⟨σ, rfl, by omega, fun n => c_pull hN hw hH hh (by unfold I32; omega) (fun _ τ hC => ⟨by omega, _, W.2.1, w_pull W hw hz.1 (by omega) (fun ω' W' => ⟨fun y => absurd rfl y, fun _ => b_L_acts_80 ⟨zbl_1, HK τ ω' (wT m (plT m z)) ?_⟩⟩)⟩) (fun y => y hz)⟩
  have hp : ∀ k, k < nS m → -4 ≤ plT m z k ∧ plT m z k ≤ 4 := fun k hk => by
    have := wf_s hw hk
    unfold plT
    split <;> omega
  exact J.chg hh hC (wT_wf hw hp) (wT_Sb _) (fun k s hk hs => nle_eq (wT_ct hs) (J.2.2.1.2 k s hk hs)) (WR.of W' (wT_Sb _) wT_nB) (hf.of hw (wT_Sb _) (fun s c r _ _ _ => by rw [wT_fc hw]))
theorem e_div {V d : Nat} (hV : V < 2 ^ 31) (h0 : 0 < d) (hd : d < 2 ^ 31) {q : Nat} (hq : 0 < q) (hq2 : q < 2 ^ 31) : nI V / nI d - nI V / nI d / nI q * nI q = nI (V / d % q) := by
  rw [pk_div hV h0 hd, pk_rem (Nat.lt_of_le_of_lt (Nat.div_le_self _ _) hV) hq hq2]
/-- a slat turns -/
theorem ac_turn (J : JW G ax m σ ω) {p : Nat → Nat} {fa : Nat → Nat → Nat → Int32} (W : WR G ω ax p m fa) (hf : fOk m fa) {k : Nat} (hk : k < nS m) {t : Int} (ht : -4 ≤ t ∧ t ≤ 4) {kb : Nat} (hkb : 2 ≤ kb) (HK : ∀ τ ω' m', JW G ax m' τ ω' → K 1 (some τ) ω') :
    (∃ (n108 : Nat) (f109 : Nat → Int32), ω (p k) = some (.inl (G.1.2.1 0, n108, .inl f109)) ∧ vp_in 2 n108 ∧ ((¬ (f109 (Int32.toNatClampNeg 2)) = 1 → (∃ (n111 : Nat) (f112 : Nat → Int32), ω (p k) = some (.inl (G.1.2.1 0, n111, .inl f112)) ∧ vp_in 1 n111 ∧ (∃ (n113 : Nat) (f114 : Nat → Int32), ω (p k) = some (.inl (G.1.2.1 0, n113, .inl f114)) ∧ vp_in 1 n113 ∧ (∀ ω115 : fW, ω115 = fup ω (p k) (.inl (G.1.2.1 0, n113, .inl (upd f114 (Int32.toNatClampNeg 1) (iI t)))) → (∃ (n116 : Nat) (f117 : Nat → Int32), ω115 (p k) = some (.inl (G.1.2.1 0, n116, .inl f117)) ∧ vp_in 1 n116 ∧ (∃ σ121 : zS, (some σ : Option zS) = some σ121 ∧ (1 ≤ kb ∧ ∀ n : Nat, CT (gB G.1 n) l M_X6_turn 1 [.ref (zad G.1 0), .int (nI k), .int (f117 (Int32.toNatClampNeg 1))] σ121 (zQi (fun v118 σ119 => ((¬ v118 = (f112 (Int32.toNatClampNeg 1)) → L_L_acts_198 G l K ax 0 (some σ119) ω115 (kb - 1)) ∧ (v118 = (f112 (Int32.toNatClampNeg 1)) → L_L_acts_198 G l K ax 1 (some σ119) ω115 (kb - 1)))) (fun _ _ => False))))))))) ∧ ((f109 (Int32.toNatClampNeg 2)) = 1 → K 1 (some σ) ω))) := by
  obtain ⟨hN, hw, h4, ⟨u, h, hH, hh⟩, -⟩ := id J
  have hs := wf_s hw hk
  have hwb := wf_b hw
  obtain ⟨f, f1, ⟨-, f2, f3, -⟩, f5⟩ := WR.slat W hk
  refine ⟨_, _, f1, vi (i := 2) (by omega) (by omega), ?_⟩
  rw [f3, wf_d hw hk]
  refine ⟨fun y => ⟨_, _, f1, vi (i := 1) (by omega) (by omega), _, _, f1, vi (i := 1) (by omega) (by omega), fun ω2 e2 => ?_⟩, fun _ => HK σ ω m J⟩
  have c2 := (congrFun e2 (p k)).trans (fup_at _ _ _)
  refine ⟨_, _, c2, vi (i := 1) (by omega) (by omega), σ, rfl, by omega, fun n => ?_⟩
  rw [pk_us, f2, wf_t (m := m) k, iI_n k]
  have htd : td m k = 0 := by
    rcases Nat.lt_or_ge (td m k) 1 with z | z
    · omega
    · exact absurd (by rw [show td m k = 1 by omega]; rfl) y
  refine c_turn hN hw hH hh (by unfold I32; omega) (by unfold I32; omega) (fun q e1 _ _ _ τ hC => ?_) (fun z => z (by omega)) (fun _ z => z ht) (fun q e1 _ _ z => z (by rw [show q = k by omega]; exact htd))
  have e1 : q = k := by omega
  subst e1
  refine ⟨fun z => absurd rfl z, fun _ => b_L_acts_198 ⟨zbl_1, HK τ ω2 (mTurn m q t) ?_⟩⟩
  have W2 : WQ G ω2 ax p (nH m) (nC m) (nS m) (nB m) (mTurn m q t) fa := by
    rw [e2]
    refine W.wr (Or.inl hk) f1 (fun k' hk' => ⟨fun hne j hj => ?_, fun e => ⟨rfl, fun j hj => ?_⟩⟩) (fun b hb => ⟨fun _ j hj => wT_q (by omega), fun e => by omega⟩) (fun s c hs hc => ⟨fun _ _ _ => rfl, fun e => by omega⟩)
    · by_cases q1 : j = 1
      · subst q1
        rw [show 4 + 5 * k' + 1 = 5 + 5 * k' by omega]
        refine (wT_t hk').trans ?_
        rw [if_neg hne]
        exact (wf_t k').symm
      · exact wT_q (by omega)
    · subst e
      rw [tc_1]
      by_cases q1 : j = 1
      · subst q1
        rw [pk_us, show 4 + 5 * k' + 1 = 5 + 5 * k' by omega]
        refine Eq.symm ((wT_t hk').trans ?_)
        rw [if_pos rfl]
      · rw [pk_un q1, f5 j hj]
        exact (wT_q (by omega)).symm
  refine J.chg hh hC (wT_wf hw (fun i hi => ?_)) (wT_Sb _) (fun k s hk hs => nle_eq (wT_ct hs) (J.2.2.1.2 k s hk hs)) (WR.of W2 (wT_Sb _) wT_nB) (hf.of hw (wT_Sb _) (fun s c r _ _ _ => by show fc (wT m _) s c r = _; rw [wT_fc hw]))
  have := wf_s hw hi
  split <;> omega
/-- a slat is tied or freed -/
theorem ac_220 (J : JW G ax m σ ω) {p : Nat → Nat} {fa : Nat → Nat → Nat → Int32} (W : WR G ω ax p m fa) (hf : fOk m fa) {k : Nat} (hk : k < nS m) {v : Nat} (hv : v < 2) {kb : Nat} (hkb : 2 ≤ kb) (HK : ∀ τ ω' m', JW G ax m' τ ω' → K 1 (some τ) ω') : L_L_acts_220 G l K ax (nI k) (p k) (nI v) (some σ) ω kb := by
  obtain ⟨hN, hw, h4, ⟨u, h, hH, hh⟩, -⟩ := id J
  have hs := wf_s hw hk
  have hwb := wf_b hw
  obtain ⟨f, f1, ⟨-, -, f3, -⟩, f5⟩ := WR.slat W hk
  have key : ∀ (z0 : Int32) (ω2 : fW), (td m k ≠ v → z0 = 1 ∧ WQ G ω2 ax p (nH m) (nC m) (nS m) (nB m) (mTie m k v) fa) → (td m k = v → z0 = 0 ∧ ω2 = ω) → L_L_acts_266 G l K ax (nI k) (nI v) z0 (some σ) ω2 kb := by
    intro z0 ω2 h1 h0
    refine b_L_acts_266 ⟨σ, rfl, by omega, fun n => ?_⟩
    rw [iI_n k, iI_n v]
    refine c_tie hN hw hH hh (by unfold I32; omega) hv (fun q e1 _ hne τ hC => ?_) (fun z => z (by omega)) (fun q e1 _ he => ?_)
    · have e1 : q = k := by omega
      subst e1
      obtain ⟨rfl, W2⟩ := h1 hne
      refine ⟨fun z => absurd rfl z, fun _ => b_L_acts_284 ⟨zbl_1, HK τ ω2 (mTie m q v) ?_⟩⟩
      exact J.chg hh hC (mTie_wf hw hk hv) (mTie_Sb (by omega)) (fun k s hk hs => nle_eq (by unfold ct; rw [mTie_o (by omega)]) (J.2.2.1.2 k s hk hs)) (WR.of W2 (mTie_Sb (by omega)) (mTie_b (by omega)).2.e_nB) (hf.of hw (mTie_Sb (by omega)) (fun s c r _ _ _ => by unfold fc; rw [mTie_o (by omega)]))
    · have e1 : q = k := by omega
      subst e1
      obtain ⟨rfl, rfl⟩ := h0 he
      exact ⟨fun z => absurd rfl z, fun _ => b_L_acts_284 ⟨zbl_1, HK σ ω2 m J⟩⟩
  have wr : td m k ≠ v → ∀ (z0 z1 : Int32), z0 = nI v → z1 = 1 → L_L_acts_265 G l K ax (nI k) (nI v) z1 z0 2 (p k) (some σ) ω kb := by
    intro hne z0 z1 e0 e1
    subst e0 e1
    refine b_L_acts_265 ⟨_, _, f1, vi (i := 2) (by omega) (by omega), fun ω3 e3 => key 1 ω3 (fun _ => ⟨rfl, ?_⟩) (fun e => absurd e hne)⟩
    rw [e3]
    refine W.wr (Or.inl hk) f1 (fun k' hk' => ⟨fun hne j hj => pk_un (by omega), fun e => ⟨rfl, fun j hj => ?_⟩⟩) (fun b hb => ⟨fun _ j hj => pk_un (by omega), fun e => by omega⟩) (fun s c hs hc => ⟨fun _ _ _ => rfl, fun e => by omega⟩)
    subst e
    rw [tc_2]
    unfold mTie
    by_cases q1 : j = 2
    · subst q1
      rw [pk_us, show 4 + 5 * k' + 2 = 6 + 5 * k' by omega, pk_us, iI_n]
    · rw [pk_un q1, pk_un (by omega), f5 j hj]
  have e01 : ∀ a b : Nat, a < 2 → b < 2 → (nI a = nI b ↔ a = b) := fun a b ha hb => nI_eq (by omega) (by omega)
  have go : ∀ z0 : Int32, z0 = nI (td m k) → L_L_acts_237 G l K ax (nI k) (p k) (nI v) z0 (nI v) (some σ) ω kb := by
    intro z0 ez
    subst ez
    refine b_L_acts_237 ⟨fun y => ?_, fun y => ?_⟩
    · have he : v = td m k := (e01 _ _ hv (by omega)).mp y
      exact b_L_acts_245 ⟨fun _ => key 0 ω (fun z => absurd he.symm z) (fun _ => ⟨rfl, rfl⟩), fun z => absurd rfl z⟩
    · have hne : td m k ≠ v := fun z => y (by rw [z])
      refine b_L_acts_245 ⟨fun z => absurd z (by decide), fun _ => ⟨fun z => wr hne 0 1 ?_ rfl, fun z => wr hne 1 1 ?_ rfl⟩⟩
      · exact z.symm
      · have : v ≠ 0 := fun w => z (by rw [w]; rfl)
        rw [show v = 1 by omega]; rfl
  refine b_L_acts_220 ⟨_, _, f1, vi (i := 2) (by omega) (by omega), ?_⟩
  rw [f3, wf_d hw hk]
  refine ⟨fun y => go 0 ?_, fun y => go 1 ?_⟩
  · have : td m k ≠ 1 := fun z => y (by rw [z]; rfl)
    rw [show td m k = 0 by omega]; rfl
  · exact y.symm
end ACt
