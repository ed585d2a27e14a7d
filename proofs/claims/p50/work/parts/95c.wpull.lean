/-! faces, and the pull of the world -/
section WUn
variable {G : fG} {l : Launch} {o : Option zS} {ω : fW} {kb ax : Nat} {p : Nat → Nat} {m : Nat → Int32} {fa : Nat → Nat → Nat → Int32}
theorem WQ.face {H C S B : Nat} (h : WQ G ω ax p H C S B m fa) {s c : Nat} (hs : s < 2) (hc : c < 64) : ∃ (F R : Nat → Option Nat) (f : Nat → Int32), ω (p 162) = some (.inl (G.1.2.1 6, 2, .inr (.inr (.inr (.inr F))))) ∧ F s = some (p (163 + s)) ∧ ω (p (163 + s)) = some (.inl (G.1.2.1 4, 64, .inr (.inr (.inr (.inr R))))) ∧ R c = some (p (32 + 64 * s + c)) ∧ ω (p (32 + 64 * s + c)) = some (.inl (G.1.2.1 0, 8, .inl f)) ∧ ∀ r, r < 8 → f r = fa s c r := by
  obtain ⟨F, a1, a2⟩ := h.2.2.2.1
  obtain ⟨R, b1, b2⟩ := h.2.2.2.2.1 s hs
  obtain ⟨f, c1, c2⟩ := h.2.2.2.2.2.2.2.1 s c hs hc
  exact ⟨F, R, f, a1, a2 s hs, b1, b2 c hc, c1, c2⟩
noncomputable def ulR (m : Nat → Int32) (fa : Nat → Nat → Nat → Int32) (s c : Nat) (r : Nat) : Nat := fb_ct (fun r => decide (fa s c r ≠ nI (pic m s c r))) r
noncomputable def ulF (m : Nat → Int32) (fa : Nat → Nat → Nat → Int32) (k s : Nat) (j : Nat) : Nat := fb_sm (fun j => ulR m fa s (fst m k + j) (nH m)) j
theorem w_unl_24 (h : WR G ω ax p m fa) (hw : WF m) {K : Int32 → Option zS → fW → Prop} {k s c n : Nat} (hs : s < 2) (hc : c < 64) (HK : L_X7_unlike_9 G l K ax (nI k) (nI s) (nI (n + ulR m fa s c (nH m))) (nI (c + 1)) o ω kb) : ∀ (d r : Nat), r + d = nH m → L_X7_unlike_24 G l K ax (nI k) (nI s) (nI (n + ulR m fa s c r)) (nI c) (nI r) o ω kb
  | 0, r, hr => by
    have hr : r = nH m := by omega
    have hb := wf_b hw
    rw [hr]
    refine b_X7_unlike_24 ⟨_, _, h.2.1, rfl, fun _ => ?_, fun q => absurd (nI_le (Nat.le_refl _) (by omega)) q⟩
    rw [nI_1]
    exact HK
  | d + 1, r, hr => by
    have hb := wf_b hw
    obtain ⟨F, R, f, a1, a2, b1, b2, c1, c2⟩ := h.face hs hc
    refine b_X7_unlike_24 ⟨_, _, h.2.1, rfl, fun q => absurd q (nI_ge (by omega) (by omega)), fun _ => ⟨_, _, h.2.1, rfl, _, _, _, a1, nI_in hs (by omega), ?_, _, _, _, b1, nI_in hc (by omega), ?_, _, _, c1, nI_in (by omega) (by omega), Nat.zero_le _, _, h.2.1, w_picture h hw hs (by omega) (by omega) ?_⟩⟩
    · rw [nI_clamp (by omega)]; exact a2
    · rw [nI_clamp (by omega)]; exact b2
    have hst : ulR m fa s c (r + 1) = ulR m fa s c r + (if decide (fa s c r ≠ nI (pic m s c r)) then 1 else 0) := rfl
    have go := w_unl_24 h hw (K := K) (k := k) (n := n) hs hc HK d (r + 1) (by omega)
    rw [hst] at go
    rw [nI_clamp (by omega), c2 r (by omega), nI_1 r]
    refine ⟨fun q => ?_, fun q => ?_⟩
    · rw [nI_1]
      rw [if_pos (decide_eq_true q)] at go
      exact go
    · rw [if_neg (by rw [decide_eq_true_iff]; exact fun z => z q)] at go
      have e0 : nI (n + ulR m fa s c r) + 0 = nI (n + ulR m fa s c r) := nI_add _ 0
      rw [e0]
      exact go
theorem w_unl_9 (h : WR G ω ax p m fa) (hw : WF m) {K : Int32 → Option zS → fW → Prop} {k s : Nat} (hk : k < nS m) (hs : s < 2) (HK : K (nI (ulF m fa k s (wd m k))) o ω) : ∀ (d j : Nat), j + d = wd m k → L_X7_unlike_9 G l K ax (nI k) (nI s) (nI (ulF m fa k s j)) (nI (fst m k + j)) o ω kb
  | 0, j, hj => by
    have hj : j = wd m k := by omega
    have hc := cols_le hw
    have hm := fst_mono m (j := k + 1) (k := nS m) hk
    rw [fst_succ] at hm
    rw [hj]
    refine b_X7_unlike_9 ⟨Nat.zero_le _, _, h.2.1, ?_⟩
    rw [nI_1]
    refine w_first h hw hk ⟨fun _ => HK, fun q => absurd (nI_le (by rw [fst_succ]; omega) ?_) q⟩
    unfold cols at hc
    omega
  | d + 1, j, hj => by
    have hc := cols_le hw
    have hcol := fst_col hw hk (j := j) (by omega)
    have hm := fst_mono m (j := k + 1) (k := nS m) hk
    unfold cols at hc hcol
    refine b_X7_unlike_9 ⟨Nat.zero_le _, _, h.2.1, ?_⟩
    rw [nI_1]
    refine w_first h hw hk ⟨fun q => absurd q (nI_ge (by rw [fst_succ]; omega) (by omega)), fun _ => ?_⟩
    have go := w_unl_9 h hw hk hs HK d (j + 1) (by omega)
    have e : ulF m fa k s (j + 1) = ulF m fa k s j + ulR m fa s (fst m k + j) (nH m) := rfl
    rw [e, ← Nat.add_assoc] at go
    exact w_unl_24 h hw hs (by omega) go (nH m) 0 (by omega)
theorem w_unlike (h : WR G ω ax p m fa) (hw : WF m) {K : Int32 → Option zS → fW → Prop} {k s : Nat} (hk : k < nS m) (hs : s < 2) (HK : K (nI (ulF m fa k s (wd m k))) o ω) : FC G l M_X7_unlike kb [.ref ax, .int (nI k), .int (nI s)] (o, ω) (fQi K) :=
  b_X7_unlike ⟨Nat.zero_le _, _, h.2.1, w_first h hw (by omega) (w_unl_9 h hw hk hs HK (wd m k) 0 (by omega))⟩
/-- the faces of the world are those of the row -/
def fOk (m : Nat → Int32) (fa : Nat → Nat → Nat → Int32) : Prop := ∀ s c r, s < 2 → c < cols m → r < nH m → fa s c r = nI (fc m s c r)
theorem ulF_unl (hw : WF m) (hf : fOk m fa) {k s : Nat} (hk : k < nS m) (hs : s < 2) : ulF m fa k s (wd m k) = unl m k s := by
  refine fb_sm_cong (fun j hj => fb_ct_cong (fun r hr => ?_))
  have hc := fst_col hw hk hj
  have h8 := wf_b hw
  have h60 := cols_le hw
  rw [hf s _ r hs hc hr]
  have h9 := wf_f9 hw (s := s) (c := fst m k + j) (r := r) hs (by omega) (by omega)
  have hp := pic_le hw s (fst m k + j) r
  have e : nI (fc m s (fst m k + j) r) = nI (pic m s (fst m k + j) r) ↔ fc m s (fst m k + j) r = pic m s (fst m k + j) r := nI_eq (by omega) (by omega)
  exact decide_eq_decide.mpr (not_congr e)
/-- some of the slats pulled -/
def plP (m : Nat → Int32) (z : Int) (j : Nat) : Nat → Int32 := wT m (fun k => if k < j then plT m z k else tu m k)
theorem plP_5 (z : Int) (j : Nat) {k : Nat} (hk : k < nS m) : plP m z j (5 + 5 * k) = iI (if k < j then plT m z k else tu m k) := by
  show (if 4 ≤ 5 + 5 * k ∧ 5 + 5 * k < 4 + 5 * nS m ∧ (5 + 5 * k) % 5 = 0 then iI ((fun k => if k < j then plT m z k else tu m k) ((5 + 5 * k) / 5 - 1)) else m (5 + 5 * k)) = _
  rw [if_pos (by omega), show (5 + 5 * k) / 5 - 1 = k by omega]
theorem plP_ne (z : Int) (j : Nat) {q : Nat} (h : q < 4 ∨ 4 + 5 * nS m ≤ q ∨ q % 5 ≠ 0) : plP m z j q = m q := if_neg (by omega)
theorem plP_b (hw : WF m) (z : Int) (j : Nat) {b i : Nat} (hi : i < 6) : plP m z j (54 + 6 * b + i) = m (54 + 6 * b + i) := by
  have := wf_b hw
  exact plP_ne z j (by omega)
theorem wT_same (t : Nat → Int) (ht : ∀ k, k < nS m → t k = tu m k) : wT m t = m := funext fun q => by
  show (if 4 ≤ q ∧ q < 4 + 5 * nS m ∧ q % 5 = 0 then iI (t (q / 5 - 1)) else m q) = m q
  by_cases h : 4 ≤ q ∧ q < 4 + 5 * nS m ∧ q % 5 = 0
  · rw [if_pos h, ht _ (by omega)]
    show iI (qv m (5 + 5 * (q / 5 - 1))) = m q
    rw [show 5 + 5 * (q / 5 - 1) = q by omega]
    exact (qv_int q).symm
  · rw [if_neg h]
theorem im4 : (-4 : Int32) = iI (-4) := by decide
theorem w_pull_12 (hw : WF m) {K : Int32 → Option zS → fW → Prop} {z : Int} (hz : -8 ≤ z ∧ z ≤ 8) {it : Nat} {mc : Int32} (HK : ∀ ω', WQ G ω' ax p (nH m) (nC m) (nS m) (nB m) (wT m (plT m z)) fa → (∀ i, wv (nS m) (nB m) i → p i ≠ it) → K (nI (fb_ct (fun j => decide (plT m z j ≠ tu m j)) (nS m))) o ω') : ∀ (d j : Nat) (ω : fW), j + d = nS m → WQ G ω ax p (nH m) (nC m) (nS m) (nB m) (plP m z j) fa → (∀ n1 : Nat, LsA G ω (p 160) mc (nS m) n1 (p 165) p → n1 ≤ 36 → True) → ItA ω it (p 160) mc j → (∃ n1 : Nat, LsA G ω (p 160) mc (nS m) n1 (p 165) p) → L_X7_pull_12 G l K (iI z) (nI (fb_ct (fun j => decide (plT m z j ≠ tu m j)) j)) it o ω kb
  | 0, j, ω, hj, h, _, hi, ⟨n1, l1⟩ => by
    have hj : j = nS m := by omega
    subst hj
    obtain ⟨lr, hit⟩ := id hi
    have e : plP m z (nS m) = wT m (plT m z) := wT_cong (fun k hk => if_pos hk)
    rw [e] at h
    refine b_X7_pull_12 ⟨Nat.zero_le _, _, hit, s_hasNext l1 hi (Nat.le_refl _) (fun _ => ⟨fun _ => HK ω h (fun i hv y => ?_), fun q => absurd rfl q⟩) (fun q => absurd q (Nat.lt_irrefl _))⟩
    obtain ⟨x, hx⟩ := h.row hv
    rw [y, hit] at hx
    cases hx
  | d + 1, j, ω, hj, h, ht, hi, ⟨n1, l1⟩ => by
    obtain ⟨lr, hit⟩ := id hi
    have hjS : j < nS m := by omega
    have hit2 : ∀ i, wv (nS m) (nB m) i → p i ≠ it := fun i hv y => by
      obtain ⟨x, hx⟩ := h.row hv
      rw [y, hit] at hx
      cases hx
    refine b_X7_pull_12 ⟨Nat.zero_le _, _, hit, s_hasNext l1 hi (by omega) (fun q => by omega) (fun _ => ⟨fun q => absurd q (by decide), fun _ => ⟨Nat.zero_le _, _, hit, s_next l1 hi hjS (fun x hi' => ?_)⟩⟩)⟩
    have h2 : WQ G (fup ω it x) ax p (nH m) (nC m) (nS m) (nB m) (plP m z j) fa := h.it hit
    have l2 : LsA G (fup ω it x) (p 160) mc (nS m) n1 (p 165) p := l1.fr (fup_ne (fun y => by rw [← y, l1.1] at hit; cases hit)) (fun he => fup_ne (fun y => by
      have := l1.arr (by have := l1.2.2; omega)
      rw [y, hit] at this; cases this))
    generalize fup ω it x = ω2 at h2 l2 hi'
    obtain ⟨f, f1, f2, f3⟩ := WR.slat h2 (k := j) hjS
    have e5 : f (Int32.toNatClampNeg 1) = iI (tu m j) := by rw [f2.2.1, plP_5 z j hjS, if_neg (Nat.lt_irrefl j)]
    have e6 : f (Int32.toNatClampNeg 2) = iI (td m j) := by rw [f2.2.2.1, plP_ne z j (by omega), wf_d hw hjS]
    obtain ⟨s1, s2, s3, s4, s5, s6, s7⟩ := wf_s hw hjS
    have hnx : plP m z (j + 1) (5 + 5 * j) = iI (plT m z j) := by rw [plP_5 z (j + 1) hjS, if_pos (by omega)]
    have hpl : -4 ≤ plT m z j ∧ plT m z j ≤ 4 := by
      unfold plT
      split
      · omega
      · omega
    -- behind the write
    have step : ∀ ω3 : fW, ω3 = fup ω2 (p j) (.inl (G.1.2.1 0, 5, .inl (upd f (Int32.toNatClampNeg 1) (iI (plT m z j))))) → WQ G ω3 ax p (nH m) (nC m) (nS m) (nB m) (plP m z (j + 1)) fa ∧ ItA ω3 it (p 160) mc (j + 1) ∧ (∃ n1 : Nat, LsA G ω3 (p 160) mc (nS m) n1 (p 165) p) ∧ ω3 (p j) = some (.inl (G.1.2.1 0, 5, .inl (upd f (Int32.toNatClampNeg 1) (iI (plT m z j))))) := by
      intro ω3 e3
      have hjit : it ≠ p j := fun y => hit2 j (Or.inl hjS) y.symm
      subst e3
      refine ⟨h2.wr (Or.inl hjS) f1 (fun k hk => ⟨fun hkj i i5 => ?_, fun hkj => ⟨rfl, fun i i5 => ?_⟩⟩) (fun b hb => ⟨fun _ i i5 => by rw [plP_b hw z _ i5, plP_b hw z _ i5], fun e => by have := wf_b hw; omega⟩) (fun s c hs hc => ⟨fun _ _ _ => rfl, fun e => by have := wf_b hw; omega⟩), ?_, ⟨n1, l2.fr (fup_ne (fun y => by rw [y] at l2; rw [l2.1] at f1; cases f1)) (fun he => fup_ne (fun y => by
          have := l2.arr (by have := l2.2.2; omega)
          rw [y, f1] at this
          exact (h2.ne0 (t := 5) (by omega) (by omega)) (Option.some.inj this).symm))⟩, fup_at _ _ _⟩
      · by_cases q : i = 1
        · subst q
          rw [show 4 + 5 * k + 1 = 5 + 5 * k by omega, plP_5 z _ hk, plP_5 z _ hk]
          by_cases w : k < j
          · rw [if_pos w, if_pos (by omega)]
          · rw [if_neg w, if_neg (by omega)]
        · rw [plP_ne z _ (by omega), plP_ne z _ (by omega)]
      · subst hkj
        rw [tc_1]
        by_cases q : i = 1
        · subst q
          rw [pk_us, show 4 + 5 * k + 1 = 5 + 5 * k by omega, hnx]
        · rw [pk_un q, f3 i i5, plP_ne z _ (by omega), plP_ne z _ (by omega)]
      · obtain ⟨lr2, hi'⟩ := hi'
        exact ⟨lr2, by rw [fup_ne hjit]; exact hi'⟩
    have hct : fb_ct (fun j => decide (plT m z j ≠ tu m j)) (j + 1) = fb_ct (fun j => decide (plT m z j ≠ tu m j)) j + (if decide (plT m z j ≠ tu m j) then 1 else 0) := rfl
    have fin : ∀ ω3 : fW, ω3 = fup ω2 (p j) (.inl (G.1.2.1 0, 5, .inl (upd f (Int32.toNatClampNeg 1) (iI (plT m z j))))) → (∃ (n17 : Nat) (f18 : Nat → Int32), ω3 (p j) = some (.inl (G.1.2.1 0, n17, .inl f18)) ∧ vp_in 1 n17 ∧ ((¬ (f18 (Int32.toNatClampNeg 1)) = (f (Int32.toNatClampNeg 1)) → L_X7_pull_12 G l K (iI z) (nI (fb_ct (fun j => decide (plT m z j ≠ tu m j)) j) + 1) it o ω3 kb) ∧ ((f18 (Int32.toNatClampNeg 1)) = (f (Int32.toNatClampNeg 1)) → L_X7_pull_12 G l K (iI z) (nI (fb_ct (fun j => decide (plT m z j ≠ tu m j)) j) + 0) it o ω3 kb))) := by
      intro ω3 e3
      obtain ⟨w1, w2, w3, w4⟩ := step ω3 e3
      have go := w_pull_12 hw hz HK d (j + 1) ω3 (by omega) w1 (fun _ _ _ => trivial) w2 w3
      rw [hct] at go
      refine ⟨_, _, w4, vi (i := 1) (by omega) (by omega), ?_⟩
      rw [pk_us, e5]
      have he : iI (plT m z j) = iI (tu m j) ↔ plT m z j = tu m j := iI_eq (by omega) (by omega) (by omega) (by omega)
      refine ⟨fun q => ?_, fun q => ?_⟩
      · rw [if_pos (decide_eq_true (p := plT m z j ≠ tu m j) (fun y => q (he.mpr y)))] at go
        rw [nI_1]
        exact go
      · rw [if_neg (by rw [decide_eq_true_iff]; exact fun y => y (he.mp q))] at go
        have e0 : nI (fb_ct (fun j => decide (plT m z j ≠ tu m j)) j) + 0 = nI (fb_ct (fun j => decide (plT m z j ≠ tu m j)) j) := nI_add _ 0
        rw [e0]
        exact go
    refine ⟨_, f1, _, _, f1, vi (i := 1) (by omega) (by omega), _, _, f1, vi (i := 2) (by omega) (by omega), ?_⟩
    rw [e6]
    refine ⟨fun q => ⟨_, _, f1, vi (i := 1) (by omega) (by omega), fun ω3 e3 => fin ω3 ?_⟩, fun q => ⟨_, _, f1, vi (i := 1) (by omega) (by omega), fun ω3 e3 => fin ω3 ?_⟩⟩
    · have ht0 : td m j = 0 := by
        rcases Nat.lt_or_ge (td m j) 1 with y | y
        · omega
        · exact absurd (by rw [show td m j = 1 by omega]; rfl) q
      have e4 : zmin 4 (iI (tu m j) + iI z) = iI (min 4 (tu m j + z)) := by rw [iI_add, li_4]; exact iI_min (a := 4) (b := tu m j + z) (by omega) (by omega) (by omega) (by omega)
      have em : zmax (-4) (iI (min 4 (tu m j + z))) = iI (max (-4) (min 4 (tu m j + z))) := by
        rw [im4]
        exact iI_max (a := -4) (b := min 4 (tu m j + z)) (by omega) (by omega) (by omega) (by omega)
      rw [e5, e4, em] at e3
      rw [e3]
      unfold plT
      rw [if_pos ht0]
    · have ht1 : td m j ≠ 0 := fun y => by rw [y] at q; exact absurd q (by decide)
      rw [e5] at e3
      rw [e3]
      unfold plT
      rw [if_neg ht1]
theorem w_pull (h : WR G ω ax p m fa) (hw : WF m) {K : Int32 → Option zS → fW → Prop} {z : Int} (hz : -8 ≤ z ∧ z ≤ 8) (hkb : 1 ≤ kb) (HK : ∀ ω', WQ G ω' ax p (nH m) (nC m) (nS m) (nB m) (wT m (plT m z)) fa → K (nI (fb_ct (fun j => decide (plT m z j ≠ tu m j)) (nS m))) o ω') : FC G l M_X7_pull kb [.ref ax, .int (iI z)] (o, ω) (fQi K) := by
  obtain ⟨mc1, mc2, n1, n2, l1, l2, l3⟩ := h.2.2.1
  refine b_X7_pull ⟨_, _, h.2.1, rfl, hkb, _, l1.1, s_iterator l1 (Nat.le_refl 1) (fun it x hit hi => ?_)⟩
  have hl : fle ω (fup ω it x) := fle.up hit
  have h2 := h.le hl
  have e : plP m z 0 = m := wT_same _ (fun k hk => if_neg (Nat.not_lt_zero k))
  exact w_pull_12 hw hz (fun ω' w _ => HK ω' w) (nS m) 0 (fup ω it x) (by omega) (by rw [e]; exact h2) (fun _ _ _ => trivial) hi ⟨n1, l1.le hl⟩
end WUn
