/-! the class: a text -/
section ZCT
variable {g : zG} {l : Launch} {K : Int32 → zS → Prop} {X : String → zS → Prop} {σ : zS} {f : Nat → Nat} {n p : Nat} {m m' : Nat → Int32}
/-- the draft as the row -/
def TRb (σ : zS) (m : Nat → Int32) : Prop := σ.1 93 0 = iI (nH m) ∧ σ.1 93 1 = iI (nC m) ∧ σ.1 93 2 = iI (nS m) ∧ σ.1 93 3 = iI (cols m) ∧ σ.1 93 4 = iI (boxesOf m 0) ∧ σ.1 93 5 = iI (boxesOf m 1) ∧ σ.1 93 6 = 0 ∧ (∀ k, k < nS m → σ.1 94 k = iI (wd m k) ∧ σ.1 95 k = iI (fst m k) ∧ σ.1 96 k = iI (tu m k) ∧ σ.1 97 k = iI (ct m k 0) ∧ σ.1 98 k = iI (ct m k 1)) ∧ (∀ c, c < 60 → σ.1 99 c = 0 ∧ σ.1 100 c = 0)
def TRx (σ : zS) (m : Nat → Int32) : Prop := σ.1 3 4 = iI (nB m) ∧ ∀ b, b < nB m → σ.1 4 b = iI (xS m b) ∧ σ.1 5 b = iI (xX m b) ∧ σ.1 6 b = iI (xY m b) ∧ σ.1 7 b = iI (xW m b) ∧ σ.1 8 b = iI (xD m b) ∧ σ.1 9 b = iI (xC m b)
def TRf (σ : zS) (hi co : Nat) : Prop := σ.1 3 2 = iI hi ∧ σ.1 3 3 = iI co
def pD (b : Nat) : Prop := b = 1 ∨ (3 ≤ b ∧ b ≤ 9) ∨ (93 ≤ b ∧ b < 103)
theorem TRb.fr {τ : zS} (h : TRb σ m) (e : ∀ b, 93 ≤ b → b ≤ 100 → τ.1 b = σ.1 b) : TRb τ m := by
  unfold TRb at h ⊢
  rw [e 93 (by decide) (by decide), e 94 (by decide) (by decide), e 95 (by decide) (by decide), e 96 (by decide) (by decide), e 97 (by decide) (by decide), e 98 (by decide) (by decide), e 99 (by decide) (by decide), e 100 (by decide) (by decide)]
  exact h
theorem TRx.fr {τ : zS} (h : TRx σ m) (e4 : τ.1 3 4 = σ.1 3 4) (e : ∀ b, 4 ≤ b → b ≤ 9 → τ.1 b = σ.1 b) : TRx τ m := by
  unfold TRx at h ⊢
  rw [e4, e 4 (by decide) (by decide), e 5 (by decide) (by decide), e 6 (by decide) (by decide), e 7 (by decide) (by decide), e 8 (by decide) (by decide), e 9 (by decide) (by decide)]
  exact h
/-- functions of rows that are alike but for the numbers 0 and 2 -/
theorem row_eq (h : ∀ q, q ≠ 0 → q ≠ 2 → m' q = m q) : nS m' = nS m ∧ wd m' = wd m ∧ fst m' = fst m ∧ tu m' = tu m ∧ ct m' = ct m ∧ nB m' = nB m ∧ xS m' = xS m ∧ xX m' = xX m ∧ xY m' = xY m ∧ xW m' = xW m ∧ xD m' = xD m ∧ xC m' = xC m := by
  have e : ∀ q, q ≠ 0 → q ≠ 2 → qv m' q = qv m q := fun q a b => by unfold qv; rw [h q a b]
  have e1 : wd m' = wd m := funext (fun k => by unfold wd; rw [e _ (by omega) (by omega)])
  refine ⟨by unfold nS; rw [e _ (by decide) (by decide)], e1, funext (fun k => by unfold fst; rw [e1]), funext (fun k => by unfold tu; rw [e _ (by omega) (by omega)]), funext (fun k => funext (fun s => by unfold ct; rw [e _ (by omega) (by omega)])), by unfold nB; rw [e _ (by decide) (by decide)], ?_, ?_, ?_, ?_, ?_, ?_⟩
  all_goals
    refine funext (fun k => ?_)
    first | (unfold xS; rw [e _ (by omega) (by omega)]) | (unfold xX; rw [e _ (by omega) (by omega)]) | (unfold xY; rw [e _ (by omega) (by omega)]) | (unfold xW; rw [e _ (by omega) (by omega)]) | (unfold xD; rw [e _ (by omega) (by omega)]) | (unfold xC; rw [e _ (by omega) (by omega)])
def CTo (K : Int32 → zS → Prop) (σ : zS) (f : Nat → Nat) (n : Nat) : Nat → (Nat → Int32) → Nat → Nat → Prop := fun q m' hi co => ∀ τ, FrP pD σ τ → SrC τ f n q → TRb τ m' → TRx τ m' → TRf τ hi co → K (iI 1) τ
def CTe (K : Int32 → zS → Prop) (σ : zS) (n : Nat) : Nat → Nat → Prop := fun c q => ∀ τ, FrP pD σ τ → τ.1 1 1 = iI n → ErC τ c q → K (iI 0) τ
theorem pE_D {τ : zS} (h : FrP pE σ τ) : FrP pD σ τ := h.sub (fun b hb => Or.inl hb)
/-- the last sign of a statement -/
theorem c_lastSign {σ0 : zS} {hi co : Nat} (hS : SrC σ f n p) (h1 : TRb σ m) (h2 : TRx σ m) (h3 : TRf σ hi co) (hF : FrP pD σ0 σ) (H : pSign f n p 59 (CTe K σ0 n) (fun q => CTo K σ0 f n q m hi co)) : CT g l M_X3_takeSign 0 [.ref (zad g 1), .int 59] σ (zQi (fun v7 τ7 => (zbl v7 ∧ K v7 τ7)) (fun E τ => X E τ)) := by
  refine c_takeSign hS (s := 59) (by decide) (pSign_m H (fun c q hE τ f1 a e => ⟨Or.inl rfl, hE τ (hF.tr (pE_D f1)) a e⟩) (fun _ hO τ f1 S1 => ⟨Or.inr rfl, hO τ (hF.tr (pE_D f1)) S1 ?_ ?_ ?_⟩))
  · exact h1.fr (fun b a _ => f1.1 b (by unfold pE; omega))
  · exact h2.fr (by rw [f1.1 3 (by unfold pE; omega)]) (fun b a _ => f1.1 b (by unfold pE; omega))
  · unfold TRf; rw [f1.1 3 (by unfold pE; omega)]; exact h3
theorem m1_ne {v : Nat} (hv : v < 2000) : ¬ iI (v : Int) = -1 := by
  rw [iI_m1, iI_eq (by omega) (by omega) (by omega) (by omega)]
  omega
theorem c_readHigh {hi co : Nat} (hhi : hi < 2) (hS : SrC σ f n p) (h1 : TRb σ m) (h2 : TRx σ m) (h3 : TRf σ hi co) (H : pHigh f n p m hi co (CTe K σ n) (CTo K σ f n)) : CT g l M_X4_readHigh 0 [.ref (zad g 3)] σ (zQi K X) := by
  unfold pHigh at H
  refine b_X4_readHigh ?_
  rw [h3.1, show (0 : Int32) = iI 0 from rfl, iI_eq (by omega) (by omega) (by omega) (by omega)]
  refine ⟨fun e => ?_, fun e => ?_⟩
  · rw [if_neg (by omega)] at H
    intro σ2 e2
    have S2 : SrC σ2 f n p := hS.fr (by rw [e2, zpt_ne (by decide)]) (by rw [e2, zpt_ne (by decide)])
    have F2 : FrP pD σ σ2 := by rw [e2]; exact (FrP.rf pD σ).up (Or.inr (Or.inl (by decide))) _
    have b2 : ∀ b, b ≠ 3 → σ2.1 b = σ.1 b := fun b hb => by rw [e2, zpt_ne hb]
    have z2 : ∀ k, k ≠ 2 → σ2.1 3 k = σ.1 3 k := fun k hk => by rw [e2, zpt_at, pk_un hk]
    have y2 : σ2.1 3 2 = iI 1 := by rw [e2, zpt_at, pk_us]; rfl
    refine c_adv S2 (fun τ3 f3 S3 => c_takeNumber S3 (lo := 1) (hi := 8) (by decide) (by decide) (pNum_m H (fun c q hE τ4 f4 a4 e4 => ⟨fun h => absurd rfl h, fun _ => hE τ4 ((F2.tr (pE_D f3)).tr (pE_D f4)) a4 e4⟩) (fun v _ v1 v2 _ hO τ4 f4 S4 => ⟨fun _ => ?_, fun h => absurd h (m1_ne (by omega))⟩)))
    intro σ6 e6
    have F6 : FrP pD σ σ6 := by rw [e6]; exact ((F2.tr (pE_D f3)).tr (pE_D f4)).up (Or.inr (Or.inr (by decide))) _
    have b6 : ∀ b, b ≠ 1 → b ≠ 3 → b ≠ 93 → σ6.1 b = σ.1 b := fun b x1 x3 x93 => by rw [e6, zpt_ne x93, f4.1 b x1, f3.1 b x1, b2 b x3]
    have b3 : σ6.1 3 = σ2.1 3 := by rw [e6, zpt_ne (by decide), f4.1 3 (by unfold pE; omega), f3.1 3 (by omega)]
    have z6 : ∀ k, k ≠ 0 → σ6.1 93 k = σ.1 93 k := fun k hk => by rw [e6, zpt_at, pk_un hk, f4.1 93 (by unfold pE; omega), f3.1 93 (by omega), b2 93 (by decide)]
    have r := row_eq (m := m) (m' := upd m 0 (iI v)) (fun q q0 _ => pk_un q0)
    obtain ⟨r0, r1, r2, r3, r4, r5, r6, r7, r8, r9, r10, r11⟩ := r
    refine c_lastSign (m := upd m 0 (iI v)) (hi := 1) (co := co) (S4.fr (by rw [e6, zpt_ne (by decide)]) (by rw [e6, zpt_ne (by decide)])) ?_ ?_ ⟨by rw [b3]; exact y2, by rw [b3, z2 3 (by decide)]; exact h3.2⟩ F6 hO
    · unfold TRb at h1 ⊢
      unfold cols boxesOf at h1 ⊢
      rw [r0, r1, r2, r3, r4, r5, r6, z6 1 (by decide), z6 2 (by decide), z6 3 (by decide), z6 4 (by decide), z6 5 (by decide), z6 6 (by decide), b6 94 (by decide) (by decide) (by decide), b6 95 (by decide) (by decide) (by decide), b6 96 (by decide) (by decide) (by decide), b6 97 (by decide) (by decide) (by decide), b6 98 (by decide) (by decide) (by decide), b6 99 (by decide) (by decide) (by decide), b6 100 (by decide) (by decide) (by decide), show nC (upd m 0 (iI v)) = nC m by unfold nC; rw [qv_o2 (by decide)]]
      refine ⟨?_, h1.2⟩
      rw [e6, zpt_at, pk_us, show nH (upd m 0 (iI v)) = v by unfold nH; rw [qv_s2 (by omega) (by omega)]; rfl]
    · unfold TRx at h2 ⊢
      rw [r5, r6, r7, r8, r9, r10, r11, b3, z2 4 (by decide), b6 4 (by decide) (by decide) (by decide), b6 5 (by decide) (by decide) (by decide), b6 6 (by decide) (by decide) (by decide), b6 7 (by decide) (by decide) (by decide), b6 8 (by decide) (by decide) (by decide), b6 9 (by decide) (by decide) (by decide)]
      exact h2
  · rw [if_pos (by omega)] at H
    exact c_fail hS (c := 3) (fun τ f1 a e => ⟨Or.inl rfl, H τ (pE_D f1) a e⟩)
theorem c_readCoats {hi co : Nat} (hco : co < 2) (hS : SrC σ f n p) (h1 : TRb σ m) (h2 : TRx σ m) (h3 : TRf σ hi co) (H : pCoat f n p m hi co (CTe K σ n) (CTo K σ f n)) : CT g l M_X4_readCoats 0 [.ref (zad g 3)] σ (zQi K X) := by
  unfold pCoat at H
  refine b_X4_readCoats ?_
  rw [h3.2, show (0 : Int32) = iI 0 from rfl, iI_eq (by omega) (by omega) (by omega) (by omega)]
  refine ⟨fun e => ?_, fun e => ?_⟩
  · rw [if_neg (by omega)] at H
    intro σ2 e2
    have S2 : SrC σ2 f n p := hS.fr (by rw [e2, zpt_ne (by decide)]) (by rw [e2, zpt_ne (by decide)])
    have F2 : FrP pD σ σ2 := by rw [e2]; exact (FrP.rf pD σ).up (Or.inr (Or.inl (by decide))) _
    have b2 : ∀ b, b ≠ 3 → σ2.1 b = σ.1 b := fun b hb => by rw [e2, zpt_ne hb]
    have z2 : ∀ k, k ≠ 3 → σ2.1 3 k = σ.1 3 k := fun k hk => by rw [e2, zpt_at, pk_un hk]
    have y2 : σ2.1 3 3 = iI 1 := by rw [e2, zpt_at, pk_us]; rfl
    refine c_adv S2 (fun τ3 f3 S3 => c_takeNumber S3 (lo := 1) (hi := 99) (by decide) (by decide) (pNum_m H (fun c q hE τ4 f4 a4 e4 => ⟨fun h => absurd rfl h, fun _ => hE τ4 ((F2.tr (pE_D f3)).tr (pE_D f4)) a4 e4⟩) (fun v _ v1 v2 _ hO τ4 f4 S4 => ⟨fun _ => ?_, fun h => absurd h (m1_ne (by omega))⟩)))
    intro σ6 e6
    have F6 : FrP pD σ σ6 := by rw [e6]; exact ((F2.tr (pE_D f3)).tr (pE_D f4)).up (Or.inr (Or.inr (by decide))) _
    have b6 : ∀ b, b ≠ 1 → b ≠ 3 → b ≠ 93 → σ6.1 b = σ.1 b := fun b x1 x3 x93 => by rw [e6, zpt_ne x93, f4.1 b x1, f3.1 b x1, b2 b x3]
    have b3 : σ6.1 3 = σ2.1 3 := by rw [e6, zpt_ne (by decide), f4.1 3 (by unfold pE; omega), f3.1 3 (by omega)]
    have z6 : ∀ k, k ≠ 1 → σ6.1 93 k = σ.1 93 k := fun k hk => by rw [e6, zpt_at, pk_un hk, f4.1 93 (by unfold pE; omega), f3.1 93 (by omega), b2 93 (by decide)]
    have r := row_eq (m := m) (m' := upd m 2 (iI v)) (fun q _ q0 => pk_un q0)
    obtain ⟨r0, r1, r2, r3, r4, r5, r6, r7, r8, r9, r10, r11⟩ := r
    refine c_lastSign (m := upd m 2 (iI v)) (hi := hi) (co := 1) (S4.fr (by rw [e6, zpt_ne (by decide)]) (by rw [e6, zpt_ne (by decide)])) ?_ ?_ ⟨by rw [b3, z2 2 (by decide)]; exact h3.1, by rw [b3]; exact y2⟩ F6 hO
    · unfold TRb at h1 ⊢
      unfold cols boxesOf at h1 ⊢
      rw [r0, r1, r2, r3, r4, r5, r6, z6 0 (by decide), z6 2 (by decide), z6 3 (by decide), z6 4 (by decide), z6 5 (by decide), z6 6 (by decide), b6 94 (by decide) (by decide) (by decide), b6 95 (by decide) (by decide) (by decide), b6 96 (by decide) (by decide) (by decide), b6 97 (by decide) (by decide) (by decide), b6 98 (by decide) (by decide) (by decide), b6 99 (by decide) (by decide) (by decide), b6 100 (by decide) (by decide) (by decide), show nH (upd m 2 (iI v)) = nH m by unfold nH; rw [qv_o2 (by decide)]]
      refine ⟨h1.1, ?_, h1.2.2⟩
      rw [e6, zpt_at, pk_us, show nC (upd m 2 (iI v)) = v by unfold nC; rw [qv_s2 (by omega) (by omega)]; rfl]
    · unfold TRx at h2 ⊢
      rw [r5, r6, r7, r8, r9, r10, r11, b3, z2 4 (by decide), b6 4 (by decide) (by decide) (by decide), b6 5 (by decide) (by decide) (by decide), b6 6 (by decide) (by decide) (by decide), b6 7 (by decide) (by decide) (by decide), b6 8 (by decide) (by decide) (by decide), b6 9 (by decide) (by decide) (by decide)]
      exact h2
  · rw [if_pos (by omega)] at H
    exact c_fail hS (c := 3) (fun τ f1 a e => ⟨Or.inl rfl, H τ (pE_D f1) a e⟩)
theorem sl_wd {w : Nat} {t : Int} {k : Nat} (hk : k < nS m) : wd (mSlat m w t) k = wd m k ∧ tu (mSlat m w t) k = tu m k ∧ ct (mSlat m w t) k 0 = ct m k 0 ∧ ct (mSlat m w t) k 1 = ct m k 1 := by
  refine ⟨?_, ?_, ?_, ?_⟩
  · unfold wd; rw [mSlat_qv (by omega) (by omega)]
  · unfold tu; rw [mSlat_qv (by omega) (by omega)]
  · unfold ct; rw [mSlat_qv (by omega) (by omega)]
  · unfold ct; rw [mSlat_qv (by omega) (by omega)]
theorem sl_fst {w : Nat} {t : Int} {k : Nat} (hk : k ≤ nS m) : fst (mSlat m w t) k = fst m k := fb_sm_cong (fun j hj => (sl_wd (by omega)).1)
theorem sl_new {w : Nat} {t : Int} (hw : w < 1000) (ht : -1000 < t ∧ t < 1000) : wd (mSlat m w t) (nS m) = w ∧ tu (mSlat m w t) (nS m) = t ∧ ct (mSlat m w t) (nS m) 0 = 1 ∧ ct (mSlat m w t) (nS m) 1 = 1 := by
  refine ⟨?_, ?_, ?_, ?_⟩
  · unfold wd qv; rw [mSlat_w, iI_ti (by omega) (by omega)]; rfl
  · unfold tu qv; rw [mSlat_t, iI_ti (by omega) (by omega)]
  · unfold ct qv; rw [mSlat_c (by decide)]; rfl
  · unfold ct qv; rw [mSlat_c (by decide)]; rfl
theorem sl_box {w : Nat} {t : Int} (hn : nS m ≤ 9) : nB (mSlat m w t) = nB m ∧ xS (mSlat m w t) = xS m ∧ xX (mSlat m w t) = xX m ∧ xY (mSlat m w t) = xY m ∧ xW (mSlat m w t) = xW m ∧ xD (mSlat m w t) = xD m ∧ xC (mSlat m w t) = xC m := by
  have e : ∀ q, 54 ≤ q → qv (mSlat m w t) q = qv m q := fun q h => mSlat_qv (by omega) (by omega)
  refine ⟨by unfold nB; rw [mSlat_qv (by omega) (by omega)], ?_, ?_, ?_, ?_, ?_, ?_⟩
  all_goals
    refine funext (fun k => ?_)
    first | (unfold xS; rw [e _ (by omega)]) | (unfold xX; rw [e _ (by omega)]) | (unfold xY; rw [e _ (by omega)]) | (unfold xW; rw [e _ (by omega)]) | (unfold xD; rw [e _ (by omega)]) | (unfold xC; rw [e _ (by omega)])
theorem c_addSlat {K : zS → Prop} (h1 : TRb σ m) (hR : Rd m) (hn : nS m ≤ 9) {w : Nat} {t : Int} (hw : w < 1000) (ht : -1000 < t ∧ t < 1000) (H : ∀ τ, FrP (fun b => 93 ≤ b ∧ b < 103) σ τ → TRb τ (mSlat m w t) → K τ) : CT g l M_X0_addSlat 0 [.ref (zad g 93), .int (iI w), .int (iI t)] σ (zQv K X) := by
  have hcl := cols_le hR.1
  obtain ⟨a0, a1, a2, a3, a4, a5, a6, a7, a8⟩ := h1
  refine b_X0_addSlat zB_93 ?_
  rw [a2, show (10 : Int32) = iI 10 from rfl, iI_le (by omega) (by omega) (by omega) (by omega), iI_tn (by omega) (by omega), Int.toNat_natCast]
  refine ⟨fun h => by omega, fun _ => ⟨iI_in (by omega) (by omega) (by omega), ?_⟩⟩
  intro σ2 e2
  have b2 : σ2.1 93 = σ.1 93 := by rw [e2, zpt_ne (by decide)]
  rw [b2, a2, a3, iI_tn (by omega) (by omega), Int.toNat_natCast]
  refine ⟨iI_in (by omega) (by omega) (by omega), ?_⟩
  intro σ3 e3
  have b3 : σ3.1 93 = σ.1 93 := by rw [e3, zpt_ne (by decide), b2]
  rw [b3, a2, iI_tn (by omega) (by omega), Int.toNat_natCast]
  refine ⟨iI_in (by omega) (by omega) (by omega), ?_⟩
  intro σ4 e4
  have b4 : σ4.1 93 = σ.1 93 := by rw [e4, zpt_ne (by decide), b3]
  rw [b4, a2, iI_tn (by omega) (by omega), Int.toNat_natCast]
  refine ⟨iI_in (by omega) (by omega) (by omega), ?_⟩
  intro σ5 e5
  have b5 : σ5.1 93 = σ.1 93 := by rw [e5, zpt_ne (by decide), b4]
  rw [b5, a2, iI_tn (by omega) (by omega), Int.toNat_natCast]
  refine ⟨iI_in (by omega) (by omega) (by omega), ?_⟩
  intro σ6 e6
  have b6 : σ6.1 93 = σ.1 93 := by rw [e6, zpt_ne (by decide), b5]
  rw [b6, a2]
  intro σ7 e7
  have b7 : σ7.1 93 3 = iI (cols m) := by rw [e7, zpt_at, pk_un (by decide), b6, a3]
  rw [b7]
  intro σ8 e8
  have z94 : σ8.1 94 = upd (σ.1 94) (nS m) (iI w) := by rw [e8, zpt_ne (by decide), e7, zpt_ne (by decide), e6, zpt_ne (by decide), e5, zpt_ne (by decide), e4, zpt_ne (by decide), e3, zpt_ne (by decide), e2, zpt_at]
  have z95 : σ8.1 95 = upd (σ.1 95) (nS m) (iI (cols m)) := by rw [e8, zpt_ne (by decide), e7, zpt_ne (by decide), e6, zpt_ne (by decide), e5, zpt_ne (by decide), e4, zpt_ne (by decide), e3, zpt_at, e2, zpt_ne (by decide)]
  have z96 : σ8.1 96 = upd (σ.1 96) (nS m) (iI t) := by rw [e8, zpt_ne (by decide), e7, zpt_ne (by decide), e6, zpt_ne (by decide), e5, zpt_ne (by decide), e4, zpt_at, e3, zpt_ne (by decide), e2, zpt_ne (by decide)]
  have z97 : σ8.1 97 = upd (σ.1 97) (nS m) (iI 1) := by rw [e8, zpt_ne (by decide), e7, zpt_ne (by decide), e6, zpt_ne (by decide), e5, zpt_at, e4, zpt_ne (by decide), e3, zpt_ne (by decide), e2, zpt_ne (by decide)]; rfl
  have z98 : σ8.1 98 = upd (σ.1 98) (nS m) (iI 1) := by rw [e8, zpt_ne (by decide), e7, zpt_ne (by decide), e6, zpt_at, e5, zpt_ne (by decide), e4, zpt_ne (by decide), e3, zpt_ne (by decide), e2, zpt_ne (by decide)]; rfl
  have zo : ∀ b, b ≠ 93 → b ≠ 94 → b ≠ 95 → b ≠ 96 → b ≠ 97 → b ≠ 98 → σ8.1 b = σ.1 b := fun b x1 x2 x3 x4 x5 x6 => by rw [e8, zpt_ne x1, e7, zpt_ne x1, e6, zpt_ne x6, e5, zpt_ne x5, e4, zpt_ne x4, e3, zpt_ne x3, e2, zpt_ne x2]
  have z93 : ∀ k, k ≠ 2 → k ≠ 3 → σ8.1 93 k = σ.1 93 k := fun k x y => by rw [e8, zpt_at, pk_un y, e7, zpt_at, pk_un x, b6]
  have hF : FrP (fun b => 93 ≤ b ∧ b < 103) σ σ8 := ⟨fun b hb => zo b (by omega) (by omega) (by omega) (by omega) (by omega) (by omega), by rw [e8, e7, e6, e5, e4, e3, e2]; rfl⟩
  obtain ⟨x0, x1, _⟩ := sl_box (m := m) (w := w) (t := t) hn
  obtain ⟨n0, n1, n2, n3⟩ := sl_new (m := m) (w := w) (t := t) hw ht
  have ec : cols (mSlat m w t) = cols m + w := by
    unfold cols
    rw [mSlat_nS hn, fst_succ, sl_fst (Nat.le_refl _), n0]
  refine H σ8 hF ⟨?_, ?_, ?_, ?_, ?_, ?_, ?_, fun k hk => ?_, fun c hc => ?_⟩
  · rw [z93 0 (by decide) (by decide), a0, show nH (mSlat m w t) = nH m by unfold nH; rw [mSlat_qv (by omega) (by omega)]]
  · rw [z93 1 (by decide) (by decide), a1, show nC (mSlat m w t) = nC m by unfold nC; rw [mSlat_qv (by omega) (by omega)]]
  · rw [e8, zpt_at, pk_un (by decide), e7, zpt_at, pk_us, mSlat_nS hn, show (1 : Int32) = iI 1 from rfl, iI_add]; rfl
  · rw [e8, zpt_at, pk_us, ec, iI_add]; rfl
  · rw [z93 4 (by decide) (by decide), a4]; unfold boxesOf; rw [x0, x1]
  · rw [z93 5 (by decide) (by decide), a5]; unfold boxesOf; rw [x0, x1]
  · rw [z93 6 (by decide) (by decide), a6]
  · rw [mSlat_nS hn] at hk
    by_cases q : k = nS m
    · subst q
      rw [z94, z95, z96, z97, z98, pk_us, pk_us, pk_us, pk_us, pk_us, n0, n1, n2, n3, sl_fst (Nat.le_refl _)]
      exact ⟨rfl, rfl, rfl, rfl, rfl⟩
    · obtain ⟨y0, y1, y2, y3⟩ := sl_wd (m := m) (w := w) (t := t) (show k < nS m by omega)
      rw [z94, z95, z96, z97, z98, pk_un q, pk_un q, pk_un q, pk_un q, pk_un q, y0, y1, y2, y3, sl_fst (by omega)]
      exact a7 k (by omega)
  · rw [zo 99 (by decide) (by decide) (by decide) (by decide) (by decide) (by decide), zo 100 (by decide) (by decide) (by decide) (by decide) (by decide) (by decide)]
    exact a8 c hc
theorem c_slatEnd {σ0 : zS} {hi co : Nat} (hS : SrC σ f n p) (h1 : TRb σ m) (h2 : TRx σ m) (h3 : TRf σ hi co) (hF : FrP pD σ0 σ) (hR : Rd m) (hn : nS m ≤ 9) {w : Nat} {t : Int} (hw : w < 1000) (ht : -1000 < t ∧ t < 1000) (H : pSign f n p 59 (CTe K σ0 n) (fun q => CTo K σ0 f n q (mSlat m w t) hi co)) : CT g l M_X0_addSlat 0 [.ref (zad g 93), .int (iI w), .int (iI t)] σ (zQv (fun τ18 => CT g l M_X3_takeSign 0 [.ref (zad g 1), .int 59] τ18 (zQi (fun v7 τ7 => (zbl v7 ∧ K v7 τ7)) (fun E τ => X E τ))) (fun E τ => X E τ)) := by
  obtain ⟨x0, x1, x2, x3, x4, x5, x6⟩ := sl_box (m := m) (w := w) (t := t) hn
  refine c_addSlat h1 hR hn hw ht (fun τ f1 t1 => c_lastSign (m := mSlat m w t) (hS.fr (f1.1 1 (by omega)) (f1.1 2 (by omega))) t1 ?_ ?_ (hF.tr (f1.sub (fun b hb => Or.inr (Or.inr hb)))) H)
  · have h2' := h2.fr (τ := τ) (by rw [f1.1 3 (by omega)]) (fun b a _ => f1.1 b (by omega))
    unfold TRx at h2' ⊢
    rw [x0, x1, x2, x3, x4, x5, x6]
    exact h2'
  · unfold TRf; rw [f1.1 3 (by omega)]; exact h3
theorem c_readSlat {hi co : Nat} (hS : SrC σ f n p) (hR : Rd m) (h1 : TRb σ m) (h2 : TRx σ m) (h3 : TRf σ hi co) (H : pSlat f n p m hi co (CTe K σ n) (CTo K σ f n)) : CT g l M_X4_readSlat 0 [.ref (zad g 3)] σ (zQi K X) := by
  have hwb := wf_b hR.1
  unfold pSlat at H
  refine b_X4_readSlat ?_
  rw [h1.2.2.1, show (10 : Int32) = iI 10 from rfl, iI_lt (by omega) (by omega) (by omega) (by omega)]
  refine ⟨fun e => ?_, fun e => ?_⟩
  · rw [if_neg (by omega)] at H
    have t1 : ∀ {τ υ : zS}, FrP pE τ υ → TRb τ m → TRb υ m := fun h k => k.fr (fun b a _ => h.1 b (by unfold pE; omega))
    have t2 : ∀ {τ υ : zS}, FrP pE τ υ → TRx τ m → TRx υ m := fun h k => k.fr (by rw [h.1 3 (by unfold pE; omega)]) (fun b a _ => h.1 b (by unfold pE; omega))
    have t3 : ∀ {τ υ : zS}, FrP pE τ υ → TRf τ hi co → TRf υ hi co := fun h k => by unfold TRf; rw [h.1 3 (by unfold pE; omega)]; exact k
    refine c_adv hS (fun τ2 f2 S2 => c_takeNumber S2 (lo := 1) (hi := 6) (by decide) (by decide) (pNum_m H (fun c q hE τ3 f3 a3 e3 => ⟨fun h => absurd rfl h, fun _ => hE τ3 ((pE_D f2).tr (pE_D f3)) a3 e3⟩) (fun w _ w1 w2 _ hO τ3 f3 S3 => ⟨fun _ => ?_, fun h => absurd h (m1_ne (by omega))⟩)))
    have F3 : FrP pE σ τ3 := FrP.tr f2 f3
    refine c_isAtSign S3 (s := 59) (by decide) (fun h59 => ?_) (fun h59 => ?_)
    · rw [if_neg h59] at hO
      refine ⟨fun _ => c_takeSide S3 (pSide_m hO (fun c q hE τ4 f4 a4 e4 => ⟨fun h => absurd rfl h, fun _ => hE τ4 (pE_D (F3.tr f4)) a4 e4⟩) (fun s hs _ hO τ4 f4 S4 => ⟨fun _ => ?_, fun h => absurd h (m1_ne (by omega))⟩)), fun h => absurd rfl h⟩
      refine c_takeNumber S4 (lo := 0) (hi := 4) (by decide) (by decide) (pNum_m hO (fun c q hE τ5 f5 a5 e5 => ⟨fun h => absurd rfl h, fun _ => hE τ5 (pE_D ((F3.tr f4).tr f5)) a5 e5⟩) (fun v _ _ v2 _ hO τ5 f5 S5 => ⟨fun _ => ?_, fun h => absurd h (m1_ne (by omega))⟩))
      have F5 : FrP pE σ τ5 := (F3.tr f4).tr f5
      rw [show (1 : Int32) = iI 1 from rfl, iI_eq (by omega) (by omega) (by omega) (by omega)]
      refine ⟨fun hs1 => b_X6_toSide ⟨fun _ => ?_, fun h => absurd rfl h⟩, fun hs1 => b_X6_toSide ⟨fun h => absurd h (by decide), fun _ => ?_⟩⟩
      · rw [if_neg (by omega)] at hO
        rw [iI_neg]
        exact c_slatEnd S5 (t1 F5 h1) (t2 F5 h2) (t3 F5 h3) (pE_D F5) hR (by omega) (by omega) (by omega) hO
      · rw [if_pos (by omega)] at hO
        exact c_slatEnd S5 (t1 F5 h1) (t2 F5 h2) (t3 F5 h3) (pE_D F5) hR (by omega) (by omega) (by omega) hO
    · rw [if_pos h59] at hO
      refine ⟨fun h => absurd h (by decide), fun _ => c_slatEnd (t := 0) S3 (t1 F3 h1) (t2 F3 h2) (t3 F3 h3) (pE_D F3) hR (by omega) (by omega) (by omega) ?_⟩
      unfold pSign
      rw [if_pos h59]
      exact hO
  · rw [if_pos (by omega)] at H
    exact c_fail hS (c := 5) (fun τ f1 a e => ⟨Or.inl rfl, H τ (pE_D f1) a e⟩)
theorem c_readInto {K : Int32 → zS → Prop} {t : Nat} (ht : 5 ≤ t ∧ t ≤ 9) (hS : SrC σ f n p) {b : Nat} (hb : b < 16) (hx : σ.1 3 4 = iI b) {lo hi : Nat} (hl : lo < 2000) (hh : hi < 2000) (H : pNum f n p lo hi (fun c q => ∀ τ, FrP pE σ τ → τ.1 1 1 = iI n → ErC τ c q → K (iI 0) τ) (fun v q => ∀ τ, FrP (fun b => b = 1 ∨ b = t) σ τ → SrC τ f n q → τ.1 t = upd (σ.1 t) b (iI v) → K (iI 1) τ)) : CT g l M_X4_readInto 0 [.ref (zad g 3), .ref (zad g t), .int (iI lo), .int (iI hi)] σ (zQi K X) := by
  have hz : zsh t = .inr (0, 16) := by
    rcases (by omega : t = 5 ∨ t = 6 ∨ t = 7 ∨ t = 8 ∨ t = 9) with e | e | e | e | e <;> subst e <;> rfl
  refine b_X4_readInto hz (by omega) (c_takeNumber hS hl hh (pNum_m H (fun c q hE τ f1 a e => ⟨fun _ => hE τ f1 a e, fun h => absurd rfl h⟩) (fun v _ _ hv2 _ hO τ f1 S1 => ⟨fun h => absurd h (m1_ne (by omega)), fun _ => ?_⟩)))
  rw [f1.1 3 (by unfold pE; omega), hx, iI_n, iI_lt (by omega) (by omega) (by omega) (by omega)]
  refine ⟨fun _ => ⟨iI_in (by omega) (by omega) (by omega), ?_⟩, fun h => by omega⟩
  intro σ4 e4
  rw [iI_tn (by omega) (by omega), Int.toNat_natCast] at e4
  refine hO σ4 ?_ (S1.fr (by rw [e4, zpt_ne (by omega)]) (by rw [e4, zpt_ne (by omega)])) ?_
  · rw [e4]; exact FrP.up (f1.sub (q := fun b => b = 1 ∨ b = t) (fun b hb => Or.inl hb)) (Or.inr rfl) _
  · rw [e4, zpt_at, f1.1 t (by unfold pE; omega)]
end ZCT

