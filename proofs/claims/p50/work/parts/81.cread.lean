/-! the class: statements, what the boxes draw, a text -/
section ZCRd
variable {g : zG} {l : Launch} {K : Int32 → zS → Prop} {X : String → zS → Prop} {σ : zS} {f : Nat → Nat} {n p : Nat} {m m' : Nat → Int32}
theorem c_readBox {hi co : Nat} (hS : SrC σ f n p) (hR : Rd m) (h1 : TRb σ m) (h2 : TRx σ m) (h3 : TRf σ hi co) (H : pBox f n p m hi co (CTe K σ n) (CTo K σ f n)) : CT g l M_X4_readBox 0 [.ref (zad g 3)] σ (zQi K X) := by
  have hwb := wf_b hR.1
  unfold pBox at H
  refine b_X4_readBox ?_
  rw [h2.1, show (16 : Int32) = iI 16 from rfl, iI_lt (by omega) (by omega) (by omega) (by omega)]
  refine ⟨fun e => ?_, fun e => ?_⟩
  · rw [if_neg (by omega)] at H
    refine c_adv hS (fun τ2 f2 S2 => c_takeSide S2 (pSide_m H (fun c q hE τ3 f3 a3 e3 => ⟨fun h => absurd rfl h, fun _ => hE τ3 ((pE_D f2).tr (pE_D f3)) a3 e3⟩) (fun s hs _ hO τ3 f3 S3 => ⟨fun _ => ?_, fun h => absurd h (m1_ne (by omega))⟩)))
    have F3 : FrP pE σ τ3 := FrP.tr f2 f3
    have t3 : τ3.1 3 = σ.1 3 := F3.1 3 (by unfold pE; omega)
    have go : ∀ (v : Int32) (σ6 : zS), v = iI s → σ6 = zup τ3 4 (nB m) v → SrC σ6 f n (ztE f n (ztE f n p)) ∧ TRb σ6 m ∧ TRx σ6 m ∧ σ6.1 3 4 = iI (nB m) ∧ σ6.1 4 (nB m) = iI s ∧ TRf σ6 hi co ∧ FrP pD σ σ6 := fun v σ6 ev e6 => by
      have o : ∀ b, b ≠ 1 → b ≠ 4 → σ6.1 b = σ.1 b := fun b x y => by rw [e6, zpt_ne y, F3.1 b (by unfold pE; omega)]
      refine ⟨S3.fr (by rw [e6, zpt_ne (by decide)]) (by rw [e6, zpt_ne (by decide)]), h1.fr (fun b a _ => o b (by omega) (by omega)), ⟨?_, fun b hb => ?_⟩, ?_, ?_, ?_, ?_⟩
      · rw [o 3 (by decide) (by decide)]; exact h2.1
      · rw [o 5 (by decide) (by decide), o 6 (by decide) (by decide), o 7 (by decide) (by decide), o 8 (by decide) (by decide), o 9 (by decide) (by decide), show σ6.1 4 b = σ.1 4 b by rw [e6, zpt_at, pk_un (by omega), F3.1 4 (by unfold pE; omega)]]
        exact h2.2 b hb
      · rw [o 3 (by decide) (by decide)]; exact h2.1
      · rw [e6, zpt_at, pk_us, ev]
      · unfold TRf; rw [o 3 (by decide) (by decide)]; exact h3
      · rw [e6]; exact (pE_D F3).up (Or.inr (Or.inl (by decide))) _
    rw [t3, h2.1, iI_tn (by omega) (by omega), Int.toNat_natCast]
    refine ⟨fun h => ⟨iI_in (by omega) (by omega) (by omega), ?_⟩, fun h => ⟨iI_in (by omega) (by omega) (by omega), ?_⟩⟩
    all_goals
      rw [show (1 : Int32) = iI 1 from rfl, iI_eq (by omega) (by omega) (by omega) (by omega)] at h
    · have es : s = 0 := by omega
      intro σ6 e6
      obtain ⟨a1, a2, a3, a4, a5, a6, a7⟩ := go _ σ6 (by rw [es]; rfl) e6
      exact c_boxRest rfl hs a1 hR (by omega) rfl a2 a3 a4 a5 a6 a7 hO
    · have es : s = 1 := by omega
      intro σ6 e6
      obtain ⟨a1, a2, a3, a4, a5, a6, a7⟩ := go _ σ6 (by rw [es]; rfl) e6
      exact c_boxRest rfl hs a1 hR (by omega) rfl a2 a3 a4 a5 a6 a7 hO
  · rw [if_pos (by omega)] at H
    exact c_fail hS (c := 5) (fun τ f1 a e => ⟨Or.inl rfl, H τ (pE_D f1) a e⟩)
theorem CTe.z {c q : Nat} (h : CTe K σ n c q) : CTe (fun v τ => zbl v ∧ K v τ) σ n c q := fun τ a b e => ⟨Or.inl rfl, h τ a b e⟩
theorem CTo.z {q : Nat} {a b : Nat} (h : CTo K σ f n q m a b) : CTo (fun v τ => zbl v ∧ K v τ) σ f n q m a b := fun τ a1 a2 a3 a4 a5 => ⟨Or.inr rfl, h τ a1 a2 a3 a4 a5⟩
theorem c_readStatement {hi co : Nat} (hhi : hi < 2) (hco : co < 2) (hS : SrC σ f n p) (hR : Rd m) (h1 : TRb σ m) (h2 : TRx σ m) (h3 : TRf σ hi co) (H : pStat f n p m hi co (CTe K σ n) (CTo K σ f n)) : CT g l M_X4_readStatement 0 [.ref (zad g 3)] σ (zQi K X) := by
  have H' : pStat f n p m hi co (CTe (fun v τ => zbl v ∧ K v τ) σ n) (CTo (fun v τ => zbl v ∧ K v τ) σ f n) := pStat_m hR hhi hco H (fun c q h => h.z) (fun p' m' a b _ _ _ _ h => h.z)
  unfold pStat at H'
  refine b_X4_readStatement (c_isAtWord hS (w := 0) (by decide) (fun n0 => ?_) (fun y0 => ?_))
  · rw [if_neg (fun q => n0 ((isWd_q (by decide)).mpr q))] at H'
    refine ⟨fun _ => c_isAtWord hS (w := 1) (by decide) (fun n1 => ?_) (fun y1 => ?_), fun h => absurd rfl h⟩
    · rw [if_neg (fun q => n1 ((isWd_q (by decide)).mpr q))] at H'
      refine ⟨fun _ => c_isAtWord hS (w := 2) (by decide) (fun n2 => ?_) (fun y2 => ?_), fun h => absurd rfl h⟩
      · rw [if_neg (fun q => n2 ((isWd_q (by decide)).mpr q))] at H'
        refine ⟨fun _ => c_isAtWord hS (w := 3) (by decide) (fun n3 => ?_) (fun y3 => ?_), fun h => absurd rfl h⟩
        · rw [if_neg (fun q => n3 ((isWd_q (by decide)).mpr q))] at H'
          exact ⟨fun _ => c_fail hS (c := 1) (fun τ f1 a e => H' τ (pE_D f1) a e), fun h => absurd rfl h⟩
        · rw [if_pos ((isWd_q (by decide)).mp y3)] at H'
          exact ⟨fun h => absurd h (by decide), fun _ => c_readCoats hco hS h1 h2 h3 H'⟩
      · rw [if_pos ((isWd_q (by decide)).mp y2)] at H'
        exact ⟨fun h => absurd h (by decide), fun _ => c_readBox hS hR h1 h2 h3 H'⟩
    · rw [if_pos ((isWd_q (by decide)).mp y1)] at H'
      exact ⟨fun h => absurd h (by decide), fun _ => c_readSlat hS hR h1 h2 h3 H'⟩
  · rw [if_pos ((isWd_q (by decide)).mp y0)] at H'
    exact ⟨fun h => absurd h (by decide), fun _ => c_readHigh hhi hS h1 h2 h3 H'⟩
/-- what a box draws over a column -/
theorem c_drawn_35 {b : Nat} (hb : b < 16) {x : Int32} {v y e : Nat} (hv : v ≤ 9) (h9 : σ.1 9 b = iI v) (he : e ≤ 8) (H : ∀ z, (∀ r, r < 8 → nib z r = if y ≤ r ∧ r < e then v else nib x r) → K z σ) (r : Nat) (hr : y ≤ r) (hr2 : r ≤ 200) (z : Int32) (hz : ∀ j, j < 8 → nib z j = if y ≤ j ∧ j < r ∧ j < e then v else nib x j) : L_X4_drawnOver_35 g l K X (iI b) z (iI e) (iI r) σ := by
  have ih := fun h1 h2 z hz => c_drawn_35 hb hv h9 he H (r + 1) h1 h2 z hz
  refine b_X4_drawnOver_35 ?_
  rw [iI_le (by omega) (by omega) (by omega) (by omega), iI_tn (by omega) (by omega), Int.toNat_natCast, h9]
  refine ⟨fun h => H z (fun j hj => ?_), fun h => ⟨iI_in (by omega) (by omega) (by omega), c_withColour (by omega) (by omega) (fun w hw => ?_)⟩⟩
  · rw [hz j hj]
    by_cases q : y ≤ j ∧ j < e
    · rw [if_pos q, if_pos (by omega)]
    · rw [if_neg q, if_neg (by omega)]
  · rw [show (1 : Int32) = iI 1 from rfl, iI_add]
    refine ih (by omega) (by omega) w (fun j hj => ?_)
    rw [hw j hj, hz j hj]
    by_cases q : j = r
    · rw [if_pos q, if_pos (by omega)]
    · rw [if_neg q]
      by_cases q2 : y ≤ j ∧ j < r ∧ j < e
      · rw [if_pos q2, if_pos (by omega)]
      · rw [if_neg q2, if_neg (by omega)]
termination_by 200 - r
/-- the pictures after some boxes -/
def DR (σ : zS) (m : Nat → Int32) (b : Nat) : Prop := ∀ c, c < cols m → ∀ s, s < 2 → Cl (σ.1 (99 + s) c) (nH m) (fun r => picN m s c r b)
def DI (σ : zS) (m : Nat → Int32) (b c0 : Nat) : Prop := ∀ c, c < cols m → ∀ s, s < 2 → Cl (σ.1 (99 + s) c) (nH m) (fun r => picN m s c r (if s = xS m b ∧ xX m b ≤ c ∧ c < c0 then b + 1 else b))
def DD (σ : zS) (m : Nat → Int32) : Prop := σ.1 93 0 = iI (nH m) ∧ σ.1 93 3 = iI (cols m) ∧ TRx σ m
theorem c_drawnOver {b : Nat} (hb : b < nB m) (hR : Rd m) (h1 : DD σ m) {x : Int32} {s c : Nat} (hx : Cl x (nH m) (fun r => picN m s c r b)) (hs : xS m b = s) (hc : xX m b ≤ c ∧ c < xX m b + xW m b) (H : ∀ z, Cl z (nH m) (fun r => picN m s c r (b + 1)) → K z σ) : CT g l M_X4_drawnOver 0 [.ref (zad g 3), .int x, .int (iI b)] σ (zQi K X) := by
  have hwb := wf_b hR.1
  have hxb := wf_x hR.1 hb
  obtain ⟨x4, x5, x6, x7, x8, x9⟩ := h1.2.2.2 b hb
  refine b_X4_drawnOver ?_
  rw [iI_tn (by omega) (by omega), Int.toNat_natCast, x6, x8, h1.1, iI_add, iI_min (by omega) (by omega) (by omega) (by omega), show min (nH m : Int) ((xY m b : Int) + (xD m b : Int)) = ((min (nH m) (xY m b + xD m b) : Nat) : Int) by omega]
  refine ⟨iI_in (by omega) (by omega) (by omega), iI_in (by omega) (by omega) (by omega), iI_in (by omega) (by omega) (by omega), ?_⟩
  refine c_drawn_35 (x := x) (v := xC m b) (y := xY m b) (e := min (nH m) (xY m b + xD m b)) (by omega) (by omega) x9 (by omega) (fun z hz => H z (fun r hr => ?_)) (xY m b) (Nat.le_refl _) (by omega) x (fun j hj => by rw [if_neg (by omega)])
  rw [hz r hr, hx r hr]
  show _ = if r < nH m then (if xS m b = s ∧ (xX m b ≤ c ∧ c < xX m b + xW m b) ∧ (xY m b ≤ r ∧ r < xY m b + xD m b) then xC m b else picN m s c r b) else 0
  by_cases q : r < nH m
  · rw [if_pos q]
    by_cases q2 : xY m b ≤ r ∧ r < xY m b + xD m b
    · rw [if_pos (by omega), if_pos q, if_pos ⟨hs, hc, q2⟩]
    · rw [if_neg (by omega), if_pos q, if_neg (fun k => q2 k.2.2)]
  · rw [if_neg (by omega), if_neg q, if_neg q]
theorem DD.fr {τ : zS} (h : DD σ m) (e : ∀ b, b = 93 ∨ (3 ≤ b ∧ b ≤ 9) → τ.1 b = σ.1 b) : DD τ m := by
  refine ⟨by rw [e 93 (by omega)]; exact h.1, by rw [e 93 (by omega)]; exact h.2.1, h.2.2.fr (by rw [e 3 (by omega)]) (fun b a1 a2 => e b (by omega))⟩
def pP (b : Nat) : Prop := b = 99 ∨ b = 100
theorem c_draw_56 {K : zS → Prop} {σ0 : zS} (hR : Rd m) {b : Nat} (hb : b < nB m) (nxt : ∀ τ, FrP pP σ0 τ → DD τ m → DR τ m (b + 1) → L_X4_drawBoxes_2 g l K X (iI (b + 1 : Nat)) τ) (c : Nat) (hc0 : xX m b ≤ c) (hc1 : c ≤ 200) (σ : zS) (hF : FrP pP σ0 σ) (hD : DD σ m) (hI : DI σ m b c) : L_X4_drawBoxes_56 g l K X (iI b) (99 + xS m b) (iI (min (cols m) (xX m b + xW m b) : Nat)) (iI c) σ := by
  have ih := fun h1 h2 σ x y z => c_draw_56 hR hb nxt (c + 1) h1 h2 σ x y z
  have hwb := wf_b hR.1
  have hcl := cols_le hR.1
  have hxb := wf_x hR.1 hb
  have hsh : zsh (99 + xS m b) = .inr (0, 60) := by
    rcases (by omega : xS m b = 0 ∨ xS m b = 1) with e | e <;> rw [e] <;> rfl
  refine b_X4_drawBoxes_56 hsh (by omega) ?_
  rw [iI_le (by omega) (by omega) (by omega) (by omega), iI_tn (by omega) (by omega), Int.toNat_natCast]
  refine ⟨fun h => ?_, fun h => ⟨iI_in (by omega) (by omega) (by omega), ?_⟩⟩
  · rw [show (1 : Int32) = iI 1 from rfl, iI_add]
    refine nxt σ hF hD (fun c' hc' s hs r hr => ?_)
    rw [hI c' hc' s hs r hr]
    by_cases q : r < nH m
    · rw [if_pos q, if_pos q]
      by_cases q2 : s = xS m b ∧ xX m b ≤ c' ∧ c' < c
      · rw [if_pos q2]
      · rw [if_neg q2]
        show _ = if xS m b = s ∧ (xX m b ≤ c' ∧ c' < xX m b + xW m b) ∧ _ then _ else picN m s c' r b
        rw [if_neg (by omega)]
    · rw [if_neg q, if_neg q]
  · have hcc : c < cols m := by omega
    refine c_drawnOver (s := xS m b) (c := c) hb hR hD (fun r hr => ?_) rfl (by omega) (fun z hz => ?_)
    · rw [hI c hcc (xS m b) (by omega) r hr, if_neg (show ¬ (xS m b = xS m b ∧ xX m b ≤ c ∧ c < c) by omega)]
    · refine ⟨iI_in (by omega) (by omega) (by omega), ?_⟩
      intro σ3 e3
      rw [show (1 : Int32) = iI 1 from rfl, iI_add]
      refine ih (by omega) (by omega) σ3 ?_ (hD.fr (fun b hb => by rw [e3, zpt_ne (by omega)])) (fun c' hc' s hs => ?_)
      · rw [e3]; exact hF.up (by unfold pP; omega) _
      · by_cases q : s = xS m b
        · subst q
          rw [e3, zpt_at]
          by_cases q2 : c' = c
          · subst q2
            rw [pk_us]
            intro r hr
            rw [hz r hr, if_pos (show xS m b = xS m b ∧ xX m b ≤ c' ∧ c' < c' + 1 by omega)]
          · rw [pk_un q2]
            intro r hr
            rw [hI c' hc' (xS m b) hs r hr]
            by_cases q3 : xX m b ≤ c' ∧ c' < c
            · rw [if_pos (show xS m b = xS m b ∧ xX m b ≤ c' ∧ c' < c by omega), if_pos (show xS m b = xS m b ∧ xX m b ≤ c' ∧ c' < c + 1 by omega)]
            · rw [if_neg (show ¬ (xS m b = xS m b ∧ xX m b ≤ c' ∧ c' < c) by omega), if_neg (show ¬ (xS m b = xS m b ∧ xX m b ≤ c' ∧ c' < c + 1) by omega)]
        · rw [e3, zpt_ne (by omega)]
          intro r hr
          rw [hI c' hc' s hs r hr, if_neg (show ¬ (s = xS m b ∧ xX m b ≤ c' ∧ c' < c) from fun k => q k.1), if_neg (show ¬ (s = xS m b ∧ xX m b ≤ c' ∧ c' < c + 1) from fun k => q k.1)]
termination_by 200 - c
theorem c_draw_2 {K : zS → Prop} {σ0 : zS} (hR : Rd m) (H : ∀ τ, FrP pP σ0 τ → DD τ m → DR τ m (nB m) → K τ) (b : Nat) (hb : b ≤ nB m) (σ : zS) (hF : FrP pP σ0 σ) (hD : DD σ m) (hI : DR σ m b) : L_X4_drawBoxes_2 g l K X (iI b) σ := by
  have ih := fun h σ a b' c => c_draw_2 (K := K) hR H (b + 1) h σ a b' c
  have hwb := wf_b hR.1
  have hcl := cols_le hR.1
  refine b_X4_drawBoxes_2 ?_
  rw [hD.2.2.1, iI_le (by omega) (by omega) (by omega) (by omega), iI_tn (by omega) (by omega), Int.toNat_natCast]
  refine ⟨fun h => ?_, fun h => ⟨iI_in (by omega) (by omega) (by omega), ?_⟩⟩
  · obtain rfl : b = nB m := by omega
    exact H σ hF hD hI
  · have hb2 : b < nB m := by omega
    have hxb := wf_x hR.1 hb2
    obtain ⟨x4, x5, x6, x7, x8, x9⟩ := hD.2.2.2 b hb2
    have hsh : zsh (99 + xS m b) = .inr (0, 60) := by
      rcases (by omega : xS m b = 0 ∨ xS m b = 1) with e | e <;> rw [e] <;> rfl
    rw [x4]
    refine c_pictureOf zB_93 (s := xS m b) (by omega) ⟨hsh, by omega, iI_in (by omega) (by omega) (by omega), iI_in (by omega) (by omega) (by omega), iI_in (by omega) (by omega) (by omega), ?_⟩
    rw [x5, x7, hD.2.1, iI_add, iI_min (by omega) (by omega) (by omega) (by omega), show min (cols m : Int) ((xX m b : Int) + (xW m b : Int)) = ((min (cols m) (xX m b + xW m b) : Nat) : Int) by omega]
    refine c_draw_56 (σ0 := σ0) hR hb2 (fun τ a b' c => ih (by omega) τ a b' c) (xX m b) (Nat.le_refl _) (by omega) σ hF hD (fun c hc s hs r hr => ?_)
    rw [hI c hc s hs r hr, if_neg (show ¬ (s = xS m b ∧ xX m b ≤ c ∧ c < xX m b) by omega)]
termination_by nB m - b
theorem c_drawBoxes {K : zS → Prop} (hR : Rd m) (h1 : TRb σ m) (h2 : TRx σ m) (H : ∀ τ, FrP pP σ τ → (∀ c, c < cols m → ∀ s, s < 2 → Cl (τ.1 (99 + s) c) (nH m) (pic m s c)) → K τ) : CT g l M_X4_drawBoxes 0 [.ref (zad g 3)] σ (zQv K X) := by
  have hcl := cols_le hR.1
  refine b_X4_drawBoxes (c_draw_2 hR (fun τ a _ c => H τ a c) 0 (by omega) σ (FrP.rf _ _) ⟨h1.1, h1.2.2.2.1, h2⟩ (fun c hc s hs r hr => ?_))
  have := h1.2.2.2.2.2.2.2.2 c (by omega)
  have e : σ.1 (99 + s) c = 0 := by
    rcases (by omega : s = 0 ∨ s = 1) with e | e <;> subst e
    · exact this.1
    · exact this.2
  rw [e, nib_0]
  split <;> rfl
/-- the draft, painted -/
theorem c_draftEnd {K : zS → Prop} (hR : Rd m) (h1 : TRb σ m) (h2 : TRx σ m) (H : ∀ τ, FrP pD σ τ → τ.1 1 = σ.1 1 → Nb τ 93 (mEnd m) → K τ) : CT g l M_X4_drawBoxes 0 [.ref (zad g 3)] σ (zQv (fun τ2 => CT g l M_X0_paintAll 0 [.ref (zad g 93)] τ2 (zQv (fun τ3 => K τ3) (fun E τ => X E τ))) (fun E τ => X E τ)) := by
  have hwb := wf_b hR.1
  have hcl := cols_le hR.1
  refine c_drawBoxes hR h1 h2 (fun τ fr hp => b_X0_paintAll zB_93 ?_)
  intro σ1 e1 σ2 e2
  have o : ∀ b, b ≠ 101 → b ≠ 102 → σ2.1 b = τ.1 b := fun b x y => by rw [e2, zpt_ne y, e1, zpt_ne x]
  have z : ∀ s, s < 2 → ∀ c, c < 60 → σ2.1 (101 + s) c = τ.1 (99 + s) c := fun s hs c hc => by
    rcases (by omega : s = 0 ∨ s = 1) with e | e <;> subst e
    · show σ2.1 101 c = τ.1 99 c
      rw [e2, zpt_ne (by decide), e1, zpt_at, cpy0, if_pos (by exact hc)]
    · show σ2.1 102 c = τ.1 100 c
      rw [e2, zpt_at, cpy0, if_pos (by exact hc), e1, zpt_ne (by decide)]
  have h1' : ∀ b, 93 ≤ b → b ≤ 98 → σ2.1 b = σ.1 b := fun b x y => by rw [o b (by omega) (by omega), fr.1 b (by unfold pP; omega)]
  obtain ⟨a0, a1, a2, a3, a4, a5, a6, a7, a8⟩ := h1
  have hb := wF_b (m := m) (paF m (cols m) (cols m))
  have ec : cols (mEnd m) = cols m := hb.1.e_cols hR.1
  have eS : nS (mEnd m) = nS m := hb.1.e_nS
  have eH : nH (mEnd m) = nH m := hb.1.e_nH
  refine H σ2 ⟨fun b hb => ?_, ?_⟩ ?_ ⟨⟨?_, ?_, ?_, ?_, ?_, ?_, fun k hk => ?_, fun k hk => ?_, fun c hc s hs => ?_⟩, fun k hk => ?_⟩
  · have : ¬ pP b := fun h => hb (by unfold pP at h; unfold pD; omega)
    rw [o b (fun h => hb (by unfold pD; omega)) (fun h => hb (by unfold pD; omega)), fr.1 b this]
  · rw [e2, e1]; exact fr.2
  · rw [o 1 (by decide) (by decide), fr.1 1 (by unfold pP; omega)]
  · rw [h1' 93 (by decide) (by decide), eH]; exact a0
  · rw [h1' 93 (by decide) (by decide), show nC (mEnd m) = nC m from hb.1.e_nC]; exact a1
  · rw [h1' 93 (by decide) (by decide), eS]; exact a2
  · rw [h1' 93 (by decide) (by decide), ec]; exact a3
  · rw [h1' 93 (by decide) (by decide), show boxesOf (mEnd m) 0 = boxesOf m 0 from hb.2.e_boxes hR.1 0]; exact a4
  · rw [h1' 93 (by decide) (by decide), show boxesOf (mEnd m) 1 = boxesOf m 1 from hb.2.e_boxes hR.1 1]; exact a5
  · rw [h1' 93 (by decide) (by decide), a6, b_0, eS]
    by_cases q : k < nS m
    · rw [show td (mEnd m) k = td m k from wF_td (by omega), show td m k = 0 by unfold td qv; rw [hR.2.2.1 k (by omega)]; rfl]
      simp
    · simp [q]
  · rw [eS] at hk
    obtain ⟨b1, b2, b3, b4, b5⟩ := a7 k hk
    refine ⟨?_, ?_, fun s hs => ?_⟩
    · rw [h1' (93 + 1) (by decide) (by decide), show wd (mEnd m) k = wd m k from hb.1.e_wd (by omega)]; exact b1
    · rw [h1' (93 + 2) (by decide) (by decide), show fst (mEnd m) k = fst m k from hb.1.e_fst (by omega)]; exact b2
    · rw [show ct (mEnd m) k s = ct m k s from wF_ct (by omega) hs]
      rcases (by omega : s = 0 ∨ s = 1) with e | e <;> subst e
      · rw [h1' (93 + 4 + 0) (by decide) (by decide)]; exact b4
      · rw [h1' (93 + 4 + 1) (by decide) (by decide)]; exact b5
  · rw [ec] at hc
    rw [eH]
    have ep : pic (mEnd m) s c = pic m s c := funext (fun r => hb.2.e_pic hR.1 s c r)
    rw [ep]
    refine ⟨?_, fun r hr => ?_⟩
    · rw [show 93 + 6 + s = 99 + s by omega, o _ (by omega) (by omega)]; exact hp c hc s hs
    · rw [show 93 + 8 + s = 101 + s by omega, z s hs c (by omega), hp c hc s hs r hr]
      by_cases q : r < nH m
      · rw [if_pos q, if_pos q, show fc (mEnd m) s c r = paF m (cols m) (cols m) s c r from wF_fc hs (by omega) hr (paF_9 hR.1 _ _ s c r hs (by omega) hr)]
        unfold paF
        rw [if_pos ⟨by split <;> exact hc, q⟩]
      · rw [if_neg q, if_neg q]
  · rw [eS] at hk
    rw [h1' (93 + 3) (by decide) (by decide), show tu (mEnd m) k = tu m k from wF_tu (by omega)]
    exact (a7 k hk).2.2.1
end ZCRd

