/-! the law's rounds -/
section LWk
variable {G : fG} {l : Launch} {K : Int32 → Option zS → fW → Prop} {ax : Nat}
theorem lw_44 (hL : G.2.2.1 < 2 ^ 31) (HK : ∀ o ω, K 1 o ω) : ∀ (d i kb : Nat) (σ : zS) (ω : fW) (m : Nat → Int32), i + d = 16 → 1320 * d ≤ kb → JW G ax m σ ω → L_L_law_44 G l K ax (nI i) (some σ) ω kb
  | 0, i, kb, σ, ω, m, hi, hkb, J => by
    have : i = 16 := by omega
    subst this
    exact b_L_law_44 ⟨fun _ => HK _ _, fun z => absurd (show (16 : Int32) ≤ nI 16 by decide) z⟩
  | d + 1, i, kb, σ, ω, m, hi, hkb, J => by
    have hP : pkN G (400 + i) 13 < 13 := pkN_lt _ (by omega)
    refine b_L_law_44 ⟨fun z => absurd z (nI_ge (b := 16) (by omega) (by decide)), fun _ => ⟨Nat.zero_le _, ?_⟩⟩
    rw [show (400 : Int32) + nI i = nI (400 + i) from nI_add 400 i]
    refine s_pick (n := 13) hL (by omega) (by omega) (by omega) ⟨by omega, s_acts hL J (by omega) (by omega) (fun τ ω2 m2 J2 => ⟨fun z => absurd z (by decide), fun _ => ?_⟩)⟩
    rw [show nI (pkN G (400 + i) 13) - 6 = iI ((pkN G (400 + i) 13 : Int) - 6) from by rw [iI_n, show (6 : Int32) = iI 6 from rfl, iI_sub], show nI i - nI i / 2 * 2 = nI (i % 2) from pk_rem (d := 2) (by omega) (by omega) (by omega)]
    have ha : -6 ≤ ((pkN G (400 + i) 13 : Int) - 6) ∧ ((pkN G (400 + i) 13 : Int) - 6) ≤ 6 := by omega
    generalize ((pkN G (400 + i) 13 : Int) - 6) = a at ha ⊢
    have k112 : ∀ (s kb' : Nat) (τ : zS) (ω : fW), s < 2 → 1320 * d + 800 ≤ kb' → JW G ax m2 τ ω → L_L_law_112 G l K ax (nI i) (nI s) (iI a) (some τ) ω kb' := fun s kb' τ ω hs hk J3 => by
      refine b_L_law_112 ⟨by omega, s_comes J3 ha hs (by omega) (fun τ4 ω4 J4 => ⟨fun _ => ?_, fun z => absurd z (by decide)⟩)⟩
      rw [nI_1]
      exact lw_44 hL HK d (i + 1) _ τ4 ω4 m2 (by omega) (by omega) J4
    have k91 : ∀ (s : Nat), s < 2 → L_L_law_91 G l K ax (nI i) (iI a) (nI s) (iI a) (some τ) ω2 (kb - 20) := fun s hs => by
      refine b_L_law_91 ⟨by omega, s_holds J2 ha hs (by omega) (fun τ3 J3 => ⟨fun z => absurd z (by decide), fun _ => ?_⟩)⟩
      rw [show nI i - nI i / 2 * 2 = nI (i % 2) from pk_rem (d := 2) (by omega) (by omega) (by omega)]
      exact ⟨fun _ => k112 0 _ τ3 ω2 (by omega) (by omega) J3, fun _ => k112 1 _ τ3 ω2 (by omega) (by omega) J3⟩
    exact ⟨fun _ => k91 0 (by omega), fun _ => k91 1 (by omega)⟩
theorem pic_ag {P : Nat → Nat → Nat} {m g : Nat → Int32} {B : Nat} (h : ∀ b, b < B → ∀ j, j < 6 → m (54 + 6 * b + j) = g (54 + 6 * b + j)) (s c r : Nat) : ∀ n, n ≤ B → picN m s c r n = picN g s c r n
  | 0, _ => rfl
  | n + 1, hn => by
    have ih := pic_ag (P := P) h s c r n (by omega)
    have e0 : xS m n = xS g n := congrArg (fun z : Int32 => z.toInt.toNat) (h n (by omega) 0 (by omega))
    have e1 : xX m n = xX g n := congrArg (fun z : Int32 => z.toInt.toNat) (show m (55 + 6 * n) = g (55 + 6 * n) by have z := h n (by omega) 1 (by omega); rw [show 54 + 6 * n + 1 = 55 + 6 * n by omega] at z; exact z)
    have e2 : xY m n = xY g n := congrArg (fun z : Int32 => z.toInt.toNat) (show m (56 + 6 * n) = g (56 + 6 * n) by have z := h n (by omega) 2 (by omega); rw [show 54 + 6 * n + 2 = 56 + 6 * n by omega] at z; exact z)
    have e3 : xW m n = xW g n := congrArg (fun z : Int32 => z.toInt.toNat) (show m (57 + 6 * n) = g (57 + 6 * n) by have z := h n (by omega) 3 (by omega); rw [show 54 + 6 * n + 3 = 57 + 6 * n by omega] at z; exact z)
    have e4 : xD m n = xD g n := congrArg (fun z : Int32 => z.toInt.toNat) (show m (58 + 6 * n) = g (58 + 6 * n) by have z := h n (by omega) 4 (by omega); rw [show 54 + 6 * n + 4 = 58 + 6 * n by omega] at z; exact z)
    have e5 : xC m n = xC g n := congrArg (fun z : Int32 => z.toInt.toNat) (show m (59 + 6 * n) = g (59 + 6 * n) by have z := h n (by omega) 5 (by omega); rw [show 54 + 6 * n + 5 = 59 + 6 * n by omega] at z; exact z)
    show (if xS m n = s ∧ (xX m n ≤ c ∧ c < xX m n + xW m n) ∧ (xY m n ≤ r ∧ r < xY m n + xD m n) then xC m n else picN m s c r n) = (if xS g n = s ∧ (xX g n ≤ c ∧ c < xX g n + xW g n) ∧ (xY g n ≤ r ∧ r < xY g n + xD g n) then xC g n else picN g s c r n)
    rw [e0, e1, e2, e3, e4, e5, ih]
theorem lw_start {P : Nat → Nat → Nat} (hP : pOk P) {m' : Nat → Int32} (hA : Ag P m' (gNH P) (gNC P) (gNS P) (gNB P)) (hR : Rd m') {τ : zS} {ω : fW} {p : Nat → Nat} {fa : Nat → Nat → Nat → Int32} (W : WR G ω ax p (gRow P) fa) (hd : fdone (gRow P) fa 2 0 0) (hN : Nw τ (mEnd m')) (h1 : τ.1 16 1 = iI (0 : Nat)) (h2 : τ.1 16 2 = iI (0 : Nat)) : JW G ax (mEnd m') τ ω := by
  obtain ⟨a0, a2, a3, a4, a5, a6, a7⟩ := id hA
  have hS5 : gNS P < 5 := hP 3 5 (by omega)
  have hB8 : gNB P < 8 := hP 4 8 (by omega)
  have hH := gH_b hP
  have hC : 1 ≤ gNC P ∧ gNC P ≤ 9 := by
    have := hP 6 4 (by omega)
    unfold gNC
    split <;> omega
  have eb : Sb m' (mEnd m') ∧ Sx m' (mEnd m') := wF_b (m := m') (paF m' (cols m') (cols m'))
  have eH : nH (mEnd m') = gNH P := eb.1.e_nH.trans (Ag.nH hA (by omega))
  have eC : nC (mEnd m') = gNC P := eb.1.e_nC.trans (Ag.nC hA (by omega))
  have eS : nS (mEnd m') = gNS P := eb.1.e_nS.trans a3
  have eB : nB (mEnd m') = gNB P := eb.2.e_nB.trans a4
  have hwE : WF (mEnd m') := wF_wf hR.1 (paF_9 hR.1 _ _)
  have hcols : cols (gRow P) = cols m' := by
    unfold cols
    rw [gRow_nS hP, a3]
    exact fb_sm_cong (fun k hk => congrArg (fun z : Int32 => z.toInt.toNat) (a6 k hk 0 (by omega)).symm)
  have hcl := cols_le hR.1
  have hbm := wf_b hR.1
  refine ⟨hN, hwE, ⟨⟨by omega, by omega⟩, fun k s hk hs => ?_⟩, ⟨0, fun _ => mEnd m', ⟨0, by decide, by decide, h1, h2, fun i hi => absurd hi (by omega)⟩, fun i hi => absurd hi (by omega)⟩, p, fa, ?_, ?_⟩
  · rw [eS] at hk
    have e : ct (mEnd m') k s = 1 := by
      have e1 : ct (mEnd m') k s = ct m' k s := wF_ct (by omega) hs
      rw [e1]
      have e2 := a6 k hk (3 + s) (by omega)
      rw [gRow_s (by omega) (by omega), show 4 + 5 * k + (3 + s) = 7 + 5 * k + s by omega] at e2
      unfold ct qv
      rw [e2]
      match s, hs with
      | 0, _ => rfl
      | 1, _ => rfl
    omega
  · show WQ G ω ax p (nH (mEnd m')) (nC (mEnd m')) (nS (mEnd m')) (nB (mEnd m')) (mEnd m') fa
    rw [eH, eC, eS, eB]
    have W' : WQ G ω ax p (gNH P) (gNC P) (gNS P) (gNB P) (gRow P) fa := by
      have := W
      unfold WR at this
      rw [gRow_nH hP, gRow_nC hP, gRow_nS hP, gRow_nB hP] at this
      exact this
    exact W'.cong (fun k hk j hj => (wF_q (Or.inl (by omega))).trans (a6 k hk j hj)) (fun b hb j hj => (wF_q (Or.inl (by omega))).trans (a7 b hb j hj))
  · intro s c r hs hc hr
    rw [eb.1.e_cols hR.1] at hc
    have hr' : r < nH m' := by rw [← eb.1.e_nH]; exact hr
    have e : fc (mEnd m') s c r = paF m' (cols m') (cols m') s c r := wF_fc hs (by omega) (by omega) (paF_9 hR.1 _ _ s c r hs (by omega) (by omega))
    rw [e]
    unfold paF
    rw [if_pos ⟨by split <;> exact hc, hr'⟩]
    have ep : pic m' s c r = pic (gRow P) s c r := by
      unfold pic
      rw [a4, gRow_nB hP]
      exact pic_ag (P := P) a7 s c r _ (Nat.le_refl _)
    rw [ep]
    exact hd s c r hs (by rw [hcols]; exact hc) (by rw [gRow_nH hP]; omega) (Or.inl hs)
theorem lw_13 (hL : G.2.2.1 < 2 ^ 31) (HK : ∀ o ω, K 1 o ω) {σ : zS} {f0 : Nat → Nat} (hX : TxC σ 0 f0) (h16 : σ.1 16 2 = iI (0 : Nat)) {ω : fW} {p : Nat → Nat} {fa : Nat → Nat → Nat → Int32} (W : WR G ω ax p (gRow (pkN G)) fa) (hd : fdone (gRow (pkN G)) fa 2 0 0) (ht : tT G ω (p 167) (gText (pkN G))) {kb : Nat} (hkb : 22000 ≤ kb) : FV G l M_L_law kb (fQi K) 13 [(2, .ref (zad G.1 0)), (1, .ref ax), (0, .ref G.2.1)] [] (some σ, ω) := by
  have hP : pOk (pkN G) := fun k n h => pkN_lt k h
  have hS5 : gNS (pkN G) < 5 := hP 3 5 (by omega)
  refine b_L_law_13 ⟨_, _, W.2.1, rfl, by omega, s_feeds (gText_c hP) (gText_l hP) ht (Nat.le_refl 100) hX (fun τ ω' f hl hF h1 hT hf => ⟨fun z => absurd z (by decide), fun _ => ⟨τ, rfl, by omega, fun n => ?_⟩⟩)⟩
  have hTl : Tl f (gText (pkN G)).length 0 (gText (pkN G)) := ⟨by omega, fun i hi => by rw [Nat.zero_add]; exact hf i hi⟩
  obtain ⟨m2, e2, hA⟩ := rText_g hP hTl
  refine c_readText hT (fun i hi => ?_) (fun c q e => ?_) (fun m' e hR τ2 hF2 _ _ hN h3 h4 => ?_)
  · rw [hf i hi, show (gText (pkN G)).getD i 0 = (gText (pkN G))[i]'hi from by rw [List.getD_eq_getElem?_getD, List.getElem?_eq_getElem hi]; rfl]
    exact Nat.lt_trans (gText_c hP _ (List.getElem_mem hi)) (by decide)
  · rw [e2] at e
    cases e
  · rw [e2] at e
    cases e
    have W' := W.le hl
    obtain ⟨mc1, mc2, n1, n2, l1, l2, l3⟩ := W'.2.2.1
    have eS : iI (nS m2) = nI (nS (gRow (pkN G))) := by rw [hA.2.2.1, gRow_nS hP, iI_n]
    refine ⟨_, _, W'.2.1, rfl, Nat.zero_le _, _, l1.1, s_size l1 ⟨fun _ => ?_, fun z => absurd eS z⟩⟩
    have h5 : τ2.1 16 2 = iI (0 : Nat) := by
      rw [h3 2 (by decide), hF.1 16 (by unfold pT; omega)]
      exact h16
    exact lw_44 hL HK 16 0 _ τ2 ω' (mEnd m2) (by omega) (by omega) (lw_start hP hA hR W' hd hN h4 h5)
end LWk
