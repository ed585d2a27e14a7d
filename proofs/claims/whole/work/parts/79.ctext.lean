/-! the class: a text -/
section ZCT
variable {g : zG} {l : Launch} {K : Int32 → zS → Prop} {X : String → zS → Prop} {σ : zS} {f : Nat → Nat} {n p : Nat} {m m' : Nat → Int32}
/-- the draft as the row -/
def TRb (σ : zS) (m : Nat → Int32) : Prop := σ.1 93 0 = iI (nH m) ∧ σ.1 93 1 = iI (nC m) ∧ σ.1 93 2 = iI (nS m) ∧ σ.1 93 3 = iI (cols m) ∧ σ.1 93 4 = iI (boxesOf m 0) ∧ σ.1 93 5 = iI (boxesOf m 1) ∧ σ.1 93 6 = 0 ∧ (∀ k, k < nS m → σ.1 94 k = iI (wd m k) ∧ σ.1 95 k = iI (fst m k) ∧ σ.1 96 k = iI (tu m k) ∧ σ.1 97 k = iI (ct m k 0) ∧ σ.1 98 k = iI (ct m k 1)) ∧ (∀ c, c < 60 → σ.1 99 c = 0 ∧ σ.1 100 c = 0)
def TRx (σ : zS) (m : Nat → Int32) : Prop := σ.1 3 4 = iI (nB m) ∧ ∀ b, b < nB m → σ.1 4 b = iI (xS m b) ∧ σ.1 5 b = iI (xX m b) ∧ σ.1 6 b = iI (xY m b) ∧ σ.1 7 b = iI (xW m b) ∧ σ.1 8 b = iI (xD m b) ∧ σ.1 9 b = iI (xC m b)
def TRf (σ : zS) (hi co : Nat) : Prop := σ.1 3 2 = iI hi ∧ σ.1 3 3 = iI co
def pD (b : Nat) : Prop := b = 1 ∨ (3 ≤ b ∧ b ≤ 9) ∨ (93 ≤ b ∧ b < 103)
theorem TRb.fr {τ : zS} (h : TRb σ m) (e : ∀ b, 93 ≤ b → b ≤ 100 → τ.1 b = σ.1 b) : TRb τ m := by
  unfold TRb at h ⊢
  rw [e 93 (by decide) (by decide), e 94 (by decide) (by decide), e 95 (by decide) (by decide), e 96 (by decide) (by decide), e 97 (by decide) (by decide), e 98 (by decide) (by decide), e 99 (by decide) (by decide), e 100 (by decide) (by decide)]
  exact h
theorem TRx.fr {τ : zS} (h : TRx σ m) (e4 : τ.1 3 4 = σ.1 3 4) (e : ∀ b, 4 ≤ b → b ≤ 9 → τ.1 b = σ.1 b) : TRx τ m := by
  unfold TRx at h ⊢
  rw [e4, e 4 (by decide) (by decide), e 5 (by decide) (by decide), e 6 (by decide) (by decide), e 7 (by decide) (by decide), e 8 (by decide) (by decide), e 9 (by decide) (by decide)]
  exact h
/-- functions of rows that are alike but for the numbers 0 and 2 -/
theorem row_eq (h : ∀ q, q ≠ 0 → q ≠ 2 → m' q = m q) : nS m' = nS m ∧ wd m' = wd m ∧ fst m' = fst m ∧ tu m' = tu m ∧ ct m' = ct m ∧ nB m' = nB m ∧ xS m' = xS m ∧ xX m' = xX m ∧ xY m' = xY m ∧ xW m' = xW m ∧ xD m' = xD m ∧ xC m' = xC m := by
  have e : ∀ q, q ≠ 0 → q ≠ 2 → qv m' q = qv m q := fun q a b => by unfold qv; rw [h q a b]
  have e1 : wd m' = wd m := funext (fun k => by unfold wd; rw [e _ (by omega) (by omega)])
  refine ⟨by unfold nS; rw [e _ (by decide) (by decide)], e1, funext (fun k => by unfold fst; rw [e1]), funext (fun k => by unfold tu; rw [e _ (by omega) (by omega)]), funext (fun k => funext (fun s => by unfold ct; rw [e _ (by omega) (by omega)])), by unfold nB; rw [e _ (by decide) (by decide)], ?_, ?_, ?_, ?_, ?_, ?_⟩
  all_goals
    refine funext (fun k => ?_)
    first | (unfold xS; rw [e _ (by omega) (by omega)]) | (unfold xX; rw [e _ (by omega) (by omega)]) | (unfold xY; rw [e _ (by omega) (by omega)]) | (unfold xW; rw [e _ (by omega) (by omega)]) | (unfold xD; rw [e _ (by omega) (by omega)]) | (unfold xC; rw [e _ (by omega) (by omega)])
def CTo (K : Int32 → zS → Prop) (σ : zS) (f : Nat → Nat) (n : Nat) : Nat → (Nat → Int32) → Nat → Nat → Prop := fun q m' hi co => ∀ τ, FrP pD σ τ → SrC τ f n q → TRb τ m' → TRx τ m' → TRf τ hi co → K (iI 1) τ
def CTe (K : Int32 → zS → Prop) (σ : zS) (n : Nat) : Nat → Nat → Prop := fun c q => ∀ τ, FrP pD σ τ → τ.1 1 1 = iI n → ErC τ c q → K (iI 0) τ
theorem pE_D {τ : zS} (h : FrP pE σ τ) : FrP pD σ τ := h.sub (fun b hb => Or.inl hb)
/-- the last sign of a statement -/
theorem c_lastSign {σ0 : zS} {hi co : Nat} (hS : SrC σ f n p) (h1 : TRb σ m) (h2 : TRx σ m) (h3 : TRf σ hi co) (hF : FrP pD σ0 σ) (H : pSign f n p 59 (CTe K σ0 n) (fun q => CTo K σ0 f n q m hi co)) : CT g l M_X3_takeSign 0 [.ref (zad g 1), .int 59] σ (zQi (fun v7 τ7 => (zbl v7 ∧ K v7 τ7)) (fun E τ => X E τ)) := by
  refine c_takeSign hS (s := 59) (by decide) (pSign_m H (fun c q hE τ f1 a e => ⟨Or.inl rfl, hE τ (hF.tr (pE_D f1)) a e⟩) (fun _ hO τ f1 S1 => ⟨Or.inr rfl, hO τ (hF.tr (pE_D f1)) S1 ?_ ?_ ?_⟩))
  · exact h1.fr (fun b a _ => f1.1 b (by unfold pE; omega))
  · exact h2.fr (by rw [f1.1 3 (by unfold pE; omega)]) (fun b a _ => f1.1 b (by unfold pE; omega))
  · unfold TRf; rw [f1.1 3 (by unfold pE; omega)]; exact h3
theorem m1_ne {v : Nat} (hv : v < 2000) : ¬ iI (v : Int) = -1 := by
  rw [iI_m1, iI_eq (by omega) (by omega) (by omega) (by omega)]
  omega
theorem c_readHigh {hi co : Nat} (hhi : hi < 2) (hS : SrC σ f n p) (h1 : TRb σ m) (h2 : TRx σ m) (h3 : TRf σ hi co) (H : pHigh f n p m hi co (CTe K σ n) (CTo K σ f n)) : CT g l M_X4_readHigh 0 [.ref (zad g 3)] σ (zQi K X) := by
  unfold pHigh at H
  refine b_X4_readHigh ?_
  rw [h3.1, show (0 : Int32) = iI 0 from rfl, iI_eq (by omega) (by omega) (by omega) (by omega)]
  refine ⟨fun e => ?_, fun e => ?_⟩
  · rw [if_neg (by omega)] at H
    intro σ2 e2
    have S2 : SrC σ2 f n p := hS.fr (by rw [e2, zpt_ne (by decide)]) (by rw [e2, zpt_ne (by decide)])
    have F2 : FrP pD σ σ2 := by rw [e2]; exact (FrP.rf pD σ).up (Or.inr (Or.inl (by decide))) _
    have b2 : ∀ b, b ≠ 3 → σ2.1 b = σ.1 b := fun b hb => by rw [e2, zpt_ne hb]
    have z2 : ∀ k, k ≠ 2 → σ2.1 3 k = σ.1 3 k := fun k hk => by rw [e2, zpt_at, pk_un hk]
    have y2 : σ2.1 3 2 = iI 1 := by rw [e2, zpt_at, pk_us]; rfl
    refine c_adv S2 (fun τ3 f3 S3 => c_takeNumber S3 (lo := 1) (hi := 8) (by decide) (by decide) (pNum_m H (fun c q hE τ4 f4 a4 e4 => ⟨fun h => absurd rfl h, fun _ => hE τ4 ((F2.tr (pE_D f3)).tr (pE_D f4)) a4 e4⟩) (fun v _ v1 v2 _ hO τ4 f4 S4 => ⟨fun _ => ?_, fun h => absurd h (m1_ne (by omega))⟩)))
    intro σ6 e6
    have F6 : FrP pD σ σ6 := by rw [e6]; exact ((F2.tr (pE_D f3)).tr (pE_D f4)).up (Or.inr (Or.inr (by decide))) _
    have b6 : ∀ b, b ≠ 1 → b ≠ 3 → b ≠ 93 → σ6.1 b = σ.1 b := fun b x1 x3 x93 => by rw [e6, zpt_ne x93, f4.1 b x1, f3.1 b x1, b2 b x3]
    have b3 : σ6.1 3 = σ2.1 3 := by rw [e6, zpt_ne (by decide), f4.1 3 (by unfold pE; omega), f3.1 3 (by omega)]
    have z6 : ∀ k, k ≠ 0 → σ6.1 93 k = σ.1 93 k := fun k hk => by rw [e6, zpt_at, pk_un hk, f4.1 93 (by unfold pE; omega), f3.1 93 (by omega), b2 93 (by decide)]
    have r := row_eq (m := m) (m' := upd m 0 (iI v)) (fun q q0 _ => pk_un q0)
    obtain ⟨r0, r1, r2, r3, r4, r5, r6, r7, r8, r9, r10, r11⟩ := r
    refine c_lastSign (m := upd m 0 (iI v)) (hi := 1) (co := co) (S4.fr (by rw [e6, zpt_ne (by decide)]) (by rw [e6, zpt_ne (by decide)])) ?_ ?_ ⟨by rw [b3]; exact y2, by rw [b3, z2 3 (by decide)]; exact h3.2⟩ F6 hO
    · unfold TRb at h1 ⊢
      unfold cols boxesOf at h1 ⊢
      rw [r0, r1, r2, r3, r4, r5, r6, z6 1 (by decide), z6 2 (by decide), z6 3 (by decide), z6 4 (by decide), z6 5 (by decide), z6 6 (by decide), b6 94 (by decide) (by decide) (by decide), b6 95 (by decide) (by decide) (by decide), b6 96 (by decide) (by decide) (by decide), b6 97 (by decide) (by decide) (by decide), b6 98 (by decide) (by decide) (by decide), b6 99 (by decide) (by decide) (by decide), b6 100 (by decide) (by decide) (by decide), show nC (upd m 0 (iI v)) = nC m by unfold nC; rw [qv_o2 (by decide)]]
      refine ⟨?_, h1.2⟩
      rw [e6, zpt_at, pk_us, show nH (upd m 0 (iI v)) = v by unfold nH; rw [qv_s2 (by omega) (by omega)]; rfl]
    · unfold TRx at h2 ⊢
      rw [r5, r6, r7, r8, r9, r10, r11, b3, z2 4 (by decide), b6 4 (by decide) (by decide) (by decide), b6 5 (by decide) (by decide) (by decide), b6 6 (by decide) (by decide) (by decide), b6 7 (by decide) (by decide) (by decide), b6 8 (by decide) (by decide) (by decide), b6 9 (by decide) (by decide) (by decide)]
      exact h2
  · rw [if_pos (by omega)] at H
    exact c_fail hS (c := 3) (fun τ f1 a e => ⟨Or.inl rfl, H τ (pE_D f1) a e⟩)
theorem c_readCoats {hi co : Nat} (hco : co < 2) (hS : SrC σ f n p) (h1 : TRb σ m) (h2 : TRx σ m) (h3 : TRf σ hi co) (H : pCoat f n p m hi co (CTe K σ n) (CTo K σ f n)) : CT g l M_X4_readCoats 0 [.ref (zad g 3)] σ (zQi K X) := by
  unfold pCoat at H
  refine b_X4_readCoats ?_
  rw [h3.2, show (0 : Int32) = iI 0 from rfl, iI_eq (by omega) (by omega) (by omega) (by omega)]
  refine ⟨fun e => ?_, fun e => ?_⟩
  · rw [if_neg (by omega)] at H
    intro σ2 e2
    have S2 : SrC σ2 f n p := hS.fr (by rw [e2, zpt_ne (by decide)]) (by rw [e2, zpt_ne (by decide)])
    have F2 : FrP pD σ σ2 := by rw [e2]; exact (FrP.rf pD σ).up (Or.inr (Or.inl (by decide))) _
    have b2 : ∀ b, b ≠ 3 → σ2.1 b = σ.1 b := fun b hb => by rw [e2, zpt_ne hb]
    have z2 : ∀ k, k ≠ 3 → σ2.1 3 k = σ.1 3 k := fun k hk => by rw [e2, zpt_at, pk_un hk]
    have y2 : σ2.1 3 3 = iI 1 := by rw [e2, zpt_at, pk_us]; rfl
    refine c_adv S2 (fun τ3 f3 S3 => c_takeNumber S3 (lo := 1) (hi := 99) (by decide) (by decide) (pNum_m H (fun c q hE τ4 f4 a4 e4 => ⟨fun h => absurd rfl h, fun _ => hE τ4 ((F2.tr (pE_D f3)).tr (pE_D f4)) a4 e4⟩) (fun v _ v1 v2 _ hO τ4 f4 S4 => ⟨fun _ => ?_, fun h => absurd h (m1_ne (by omega))⟩)))
    intro σ6 e6
    have F6 : FrP pD σ σ6 := by rw [e6]; exact ((F2.tr (pE_D f3)).tr (pE_D f4)).up (Or.inr (Or.inr (by decide))) _
    have b6 : ∀ b, b ≠ 1 → b ≠ 3 → b ≠ 93 → σ6.1 b = σ.1 b := fun b x1 x3 x93 => by rw [e6, zpt_ne x93, f4.1 b x1, f3.1 b x1, b2 b x3]
    have b3 : σ6.1 3 = σ2.1 3 := by rw [e6, zpt_ne (by decide), f4.1 3 (by unfold pE; omega), f3.1 3 (by omega)]
    have z6 : ∀ k, k ≠ 1 → σ6.1 93 k = σ.1 93 k := fun k hk => by rw [e6, zpt_at, pk_un hk, f4.1 93 (by unfold pE; omega), f3.1 93 (by omega), b2 93 (by decide)]
    have r := row_eq (m := m) (m' := upd m 2 (iI v)) (fun q _ q0 => pk_un q0)
    obtain ⟨r0, r1, r2, r3, r4, r5, r6, r7, r8, r9, r10, r11⟩ := r
    refine c_lastSign (m := upd m 2 (iI v)) (hi := hi) (co := 1) (S4.fr (by rw [e6, zpt_ne (by decide)]) (by rw [e6, zpt_ne (by decide)])) ?_ ?_ ⟨by rw [b3, z2 2 (by decide)]; exact h3.1, by rw [b3]; exact y2⟩ F6 hO
    · unfold TRb at h1 ⊢
      unfold cols boxesOf at h1 ⊢
      rw [r0, r1, r2, r3, r4, r5, r6, z6 0 (by decide), z6 2 (by decide), z6 3 (by decide), z6 4 (by decide), z6 5 (by decide), z6 6 (by decide), b6 94 (by decide) (by decide) (by decide), b6 95 (by decide) (by decide) (by decide), b6 96 (by decide) (by decide) (by decide), b6 97 (by decide) (by decide) (by decide), b6 98 (by decide) (by decide) (by decide), b6 99 (by decide) (by decide) (by decide), b6 100 (by decide) (by decide) (by decide), show nH (upd m 2 (iI v)) = nH m by unfold nH; rw [qv_o2 (by decide)]]
      refine ⟨h1.1, ?_, h1.2.2⟩
      rw [e6, zpt_at, pk_us, show nC (upd m 2 (iI v)) = v by unfold nC; rw [qv_s2 (by omega) (by omega)]; rfl]
    · unfold TRx at h2 ⊢
      rw [r5, r6, r7, r8, r9, r10, r11, b3, z2 4 (by decide), b6 4 (by decide) (by decide) (by decide), b6 5 (by decide) (by decide) (by decide), b6 6 (by decide) (by decide) (by decide), b6 7 (by decide) (by decide) (by decide), b6 8 (by decide) (by decide) (by decide), b6 9 (by decide) (by decide) (by decide)]
      exact h2
  · rw [if_pos (by omega)] at H
    exact c_fail hS (c := 3) (fun τ f1 a e => ⟨Or.inl rfl, H τ (pE_D f1) a e⟩)
end ZCT
