/-! the class: a text read -/
section ZCRt
variable {g : zG} {l : Launch} {K : Int32 → zS → Prop} {X : String → zS → Prop} {σ : zS} {f : Nat → Nat} {n p : Nat} {m m' : Nat → Int32}
theorem c_fill0 {K : zS → Prop} {t N : Nat} (ht : zsh t = .inr (0, N)) (lt : t < 163) (hN : N ≤ 1000) (H : ∀ F : Nat → Int32, (∀ k, k < N → F k = 0) → K (zpt σ t F)) (j : Nat) (hj : j ≤ N) (F : Nat → Int32) (hF : ∀ k, k < j → F k = 0) : L_J7_fill_53178_5 g l K X t 0 (iI j) (iI N) (zpt σ t F) := by
  have ih := fun h F a => c_fill0 (K := K) ht lt hN H (j + 1) h F a
  refine b_J7_fill_53178_5 ht lt ?_
  rw [iI_le (by omega) (by omega) (by omega) (by omega), iI_tn (by omega) (by omega), Int.toNat_natCast]
  refine ⟨fun h => H F (fun k hk => hF k (by omega)), fun h => ⟨iI_in (by omega) (by omega) (by omega), ?_⟩⟩
  intro σ2 e2
  rw [e2, zup_zpt, show (1 : Int32) = iI 1 from rfl, iI_add]
  refine ih (by omega) _ (fun k hk => ?_)
  by_cases q : k = j
  · subst q; rw [pk_us]
  · rw [pk_un q]; exact hF k (by omega)
termination_by N - j
theorem c_fillZ {K : zS → Prop} {t N : Nat} (ht : zsh t = .inr (0, N)) (lt : t < 163) (hN : N ≤ 1000) (H : ∀ F : Nat → Int32, (∀ k, k < N → F k = 0) → K (zpt σ t F)) : CT g l M_J7_fill_53178 0 [.ref (zad g t), .int 0] σ (zQv K X) := by
  have e := c_fill0 (g := g) (l := l) (X := X) ht lt hN H 0 (by omega) (σ.1 t) (fun k hk => absurd hk (Nat.not_lt_zero k))
  rw [zpt_id] at e
  exact b_J7_fill_53178 ht lt e
theorem mNew_v : nH mNew = 4 ∧ nC mNew = 9 ∧ nS mNew = 0 ∧ nB mNew = 0 ∧ cols mNew = 0 ∧ boxesOf mNew 0 = 0 ∧ boxesOf mNew 1 = 0 := ⟨rfl, rfl, rfl, rfl, rfl, rfl, rfl⟩
theorem c_clear {K : zS → Prop} (H : ∀ τ, FrP pD σ τ → (∀ b, b < 93 → τ.1 b = σ.1 b) → TRb τ mNew → K τ) : CT g l M_X0_clear 0 [.ref (zad g 93)] σ (zQv K X) := by
  refine b_X0_clear zB_93 ?_
  intro σ1 e1 σ2 e2 σ3 e3 σ4 e4 σ5 e5 σ6 e6 σ7 e7
  have o : ∀ b, b ≠ 93 → σ7.1 b = σ.1 b := fun b hb => by rw [e7, zpt_ne hb, e6, zpt_ne hb, e5, zpt_ne hb, e4, zpt_ne hb, e3, zpt_ne hb, e2, zpt_ne hb, e1, zpt_ne hb]
  have z0 : σ7.1 93 0 = 4 := by rw [e7, zpt_at, pk_un (by decide), e6, zpt_at, pk_un (by decide), e5, zpt_at, pk_un (by decide), e4, zpt_at, pk_un (by decide), e3, zpt_at, pk_un (by decide), e2, zpt_at, pk_un (by decide), e1, zpt_at, pk_us]
  have z1 : σ7.1 93 1 = 9 := by rw [e7, zpt_at, pk_un (by decide), e6, zpt_at, pk_un (by decide), e5, zpt_at, pk_un (by decide), e4, zpt_at, pk_un (by decide), e3, zpt_at, pk_un (by decide), e2, zpt_at, pk_us]
  have z2 : σ7.1 93 2 = 0 := by rw [e7, zpt_at, pk_un (by decide), e6, zpt_at, pk_un (by decide), e5, zpt_at, pk_un (by decide), e4, zpt_at, pk_un (by decide), e3, zpt_at, pk_us]
  have z3 : σ7.1 93 3 = 0 := by rw [e7, zpt_at, pk_un (by decide), e6, zpt_at, pk_un (by decide), e5, zpt_at, pk_un (by decide), e4, zpt_at, pk_us]
  have z4 : σ7.1 93 4 = 0 := by rw [e7, zpt_at, pk_un (by decide), e6, zpt_at, pk_un (by decide), e5, zpt_at, pk_us]
  have z5 : σ7.1 93 5 = 0 := by rw [e7, zpt_at, pk_un (by decide), e6, zpt_at, pk_us]
  have z6 : σ7.1 93 6 = 0 := by rw [e7, zpt_at, pk_us]
  refine c_fillZ rfl (by decide) (by decide) (fun F1 h1 => c_fillZ rfl (by decide) (by decide) (fun F2 h2 => ?_))
  have q : ∀ b, b ≠ 99 → b ≠ 100 → (zpt (zpt σ7 (93 + 6) F1) (93 + 7) F2).1 b = σ7.1 b := fun b x y => by rw [zpt_ne y, zpt_ne x]
  refine H _ ⟨fun b hb => ?_, ?_⟩ (fun b hb => ?_) ⟨?_, ?_, ?_, ?_, ?_, ?_, ?_, fun k hk => absurd hk (Nat.not_lt_zero k), fun c hc => ⟨?_, ?_⟩⟩
  · rw [q b (fun h => hb (by unfold pD; omega)) (fun h => hb (by unfold pD; omega)), o b (fun h => hb (by unfold pD; omega))]
  · show σ7.2 = _; rw [e7, e6, e5, e4, e3, e2, e1]; rfl
  · rw [q b (by omega) (by omega), o b (by omega)]
  · rw [q 93 (by decide) (by decide)]; exact z0
  · rw [q 93 (by decide) (by decide)]; exact z1
  · rw [q 93 (by decide) (by decide)]; exact z2
  · rw [q 93 (by decide) (by decide)]; exact z3
  · rw [q 93 (by decide) (by decide)]; exact z4
  · rw [q 93 (by decide) (by decide)]; exact z5
  · rw [q 93 (by decide) (by decide)]; exact z6
  · rw [zpt_ne (by decide), zpt_at]; exact h1 c hc
  · rw [zpt_at]; exact h2 c hc
theorem c_begin {K : zS → Prop} (hT : TxC σ n f) (hf : ∀ i, i < n → f i < 256) (H : ∀ τ, FrP pE σ τ → SrC τ f n 0 → K τ) : CT g l M_X3_begin 0 [.ref (zad g 1)] σ (zQv K X) := by
  obtain ⟨hn, h1, hb⟩ := hT
  refine b_X3_begin ?_
  intro σ1 e1 σ2 e2 σ3 e3
  have F3 : FrP pE σ σ3 := by rw [e3, e2, e1]; exact (((FrP.rf pE σ).up rfl _).up rfl _).up rfl _
  have hB : SrB σ3 f n := by
    refine ⟨hn, hf, ?_, fun i hi => ?_, ?_, ?_⟩
    · rw [e3, e2, e1, zpt_at, pk_un (by decide), zpt_at, pk_un (by decide), zpt_at, pk_un (by decide)]; exact h1
    · rw [e3, e2, e1, zpt_ne (by decide), zpt_ne (by decide), zpt_ne (by decide)]; exact hb i hi
    · rw [e3, e2, e1, zpt_at, pk_un (by decide), zpt_at, pk_un (by decide), zpt_at, pk_us]; rfl
    · rw [e3, e2, zpt_at, pk_un (by decide), zpt_at, pk_us]; rfl
  refine c_advance hB (Nat.zero_le n) ?_ (fun τ fr S => H τ (F3.tr fr) S)
  rw [e3, zpt_at, pk_us]; rfl
/-- the loop over statements -/
theorem c_read_31 {σ0 : zS} (k : Nat) (hk : k ≤ 600) (p : Nat) (m : Nat → Int32) (hi co : Nat) (hR : Rd m) (hhi : hi < 2) (hco : co < 2) (σ : zS) (hF : FrP pD σ0 σ) (hS : SrC σ f n p) (h1 : TRb σ m) (h2 : TRx σ m) (h3 : TRf σ hi co)
    (H : pAll f n (fun c q => ∀ τ, FrP pD σ0 τ → τ.1 1 1 = iI n → ErC τ c q → K (iI 0) τ) (fun m' => ∀ τ, FrP pD σ0 τ → τ.1 1 1 = iI n → ErC τ 0 (-1) → Nb τ 93 (mEnd m') → K (iI 1) τ) k p m hi co) : L_X4_read_31 g l K X (iI (600 - k : Nat)) σ := by
  have fin : (∀ τ, FrP pD σ0 τ → τ.1 1 1 = iI n → ErC τ 0 (-1) → Nb τ 93 (mEnd m) → K (iI 1) τ) → CT g l M_X4_drawBoxes 0 [.ref (zad g 3)] σ (zQv (fun τ2 => CT g l M_X0_paintAll 0 [.ref (zad g 93)] τ2 (zQv (fun τ3 => K 1 τ3) (fun E τ => X E τ))) (fun E τ => X E τ)) := fun h => c_draftEnd hR h1 h2 (fun τ fr e hN => h τ (hF.tr fr) (by rw [e]; exact hS.1.2.2.1) ⟨by rw [e]; exact hS.1.2.2.2.2.1, by rw [e]; exact hS.1.2.2.2.2.2⟩ hN)
  refine b_X4_read_31 ?_
  rw [show (600 : Int32) = iI 600 from rfl, iI_le (by omega) (by omega) (by omega) (by omega)]
  refine ⟨fun h => ?_, fun h => ?_⟩
  · obtain rfl : k = 0 := by omega
    exact fin H
  · obtain ⟨k', rfl⟩ : ∃ k', k = k' + 1 := ⟨k - 1, by omega⟩
    unfold pAll at H
    refine c_isAtEnd hS (fun e => ?_) (fun e => ?_)
    · rw [if_neg e] at H
      refine ⟨fun h => absurd rfl h, fun _ => c_readStatement hhi hco hS hR h1 h2 h3 (pStat_m hR hhi hco H (fun c q hE τ fr a er => ⟨fun h => absurd rfl h, fun _ => hE τ (hF.tr fr) a er⟩) (fun p' m' hi' co' _ hR' hhi' hco' hO τ fr S' a1 a2 a3 => ⟨fun _ => ?_, fun h => absurd h (by decide)⟩))⟩
      have ih := c_read_31 k' (by omega) p' m' hi' co' hR' hhi' hco' τ (hF.tr fr) S' a1 a2 a3 hO
      rw [show (1 : Int32) = iI 1 from rfl, iI_add, show ((600 - (k' + 1) : Nat) : Int) + 1 = ((600 - k' : Nat) : Int) by omega]
      exact ih
    · rw [if_pos e] at H
      exact ⟨fun _ => fin H, fun h => absurd h (by decide)⟩
termination_by k
theorem c_readT (hT : TxC σ n f) (hf : ∀ i, i < n → f i < 256)
    (H0 : ∀ c q : Nat, rText f n = .inl (c, q) → ∀ τ, FrP pD σ τ → τ.1 1 1 = iI n → ErC τ c q → K (iI 0) τ)
    (H1 : ∀ m', rText f n = .inr m' → ∀ τ, FrP pD σ τ → τ.1 1 1 = iI n → ErC τ 0 (-1) → Nb τ 93 (mEnd m') → K (iI 1) τ) : CT g l M_X4_read 0 [.ref (zad g 3)] σ (zQi K X) := by
  refine b_X4_read (c_clear (fun τ1 f1 o1 t1 => ?_))
  intro σ2 e2 σ3 e3 σ4 e4
  have o : ∀ b, b ≠ 3 → σ4.1 b = τ1.1 b := fun b hb => by rw [e4, zpt_ne hb, e3, zpt_ne hb, e2, zpt_ne hb]
  have F4 : FrP pD σ σ4 := by
    rw [e4, e3, e2]
    exact ((f1.up (Or.inr (Or.inl (by decide))) _).up (Or.inr (Or.inl (by decide))) _).up (Or.inr (Or.inl (by decide))) _
  have hT4 : TxC σ4 n f := hT.fr (by rw [o 1 (by decide), o1 1 (by decide)]) (by rw [o 2 (by decide), o1 2 (by decide)])
  refine c_begin hT4 hf (fun τ5 f5 S5 => ?_)
  have e5 : ∀ b, b ≠ 1 → τ5.1 b = σ4.1 b := fun b hb => f5.1 b hb
  refine c_read_31 (σ0 := σ) 600 (by decide) 0 mNew 0 0 rd_new (by decide) (by decide) τ5 (F4.tr (pE_D f5)) S5 ?_ ⟨?_, fun b hb => absurd hb (Nat.not_lt_zero b)⟩ ⟨?_, ?_⟩ (rText_of H0 H1)
  · exact t1.fr (fun b a _ => by rw [e5 b (by omega), o b (by omega)])
  · rw [e5 3 (by decide), e4, zpt_at, pk_us]; rfl
  · rw [e5 3 (by decide), e4, zpt_at, pk_un (by decide), e3, zpt_at, pk_un (by decide), e2, zpt_at, pk_us]; rfl
  · rw [e5 3 (by decide), e4, zpt_at, pk_un (by decide), e3, zpt_at, pk_us]; rfl
/-- what a text's reading touches -/
def pRT (b : Nat) : Prop := pD b ∨ b = 16 ∨ (73 ≤ b ∧ b < 83)
theorem c_readText (hT : TxC σ n f) (hf : ∀ i, i < n → f i < 256)
    (H0 : ∀ c q : Nat, rText f n = .inl (c, q) → ∀ τ, FrP pD σ τ → τ.1 1 1 = iI 0 → ErC τ c q → X xA τ)
    (H1 : ∀ m', rText f n = .inr m' → Rd m' → ∀ τ, FrP pRT σ τ → τ.1 1 1 = iI 0 → ErC τ 0 (-1) → Nw τ (mEnd m') → (∀ k, k ≠ 1 → τ.1 16 k = σ.1 16 k) → τ.1 16 1 = iI 0 → K (iI (nS m')) τ) : CT g l M_X6_readText 1 [.ref (zad g 0)] σ (zQi K X) := by
  have hrd : ∀ m', rText f n = .inr m' → Rd m' := fun m' e => by
    have key : ∀ (k p : Nat) (m : Nat → Int32) (hi co : Nat), Rd m → hi < 2 → co < 2 → pAll f n (fun _ _ => True) (fun m => Rd m) k p m hi co := by
      intro k
      induction k with
      | zero => intro p m hi co hR _ _; exact hR
      | succ k ih =>
        intro p m hi co hR h1 h2
        unfold pAll
        by_cases z : ztK f n p = 0
        · rw [if_pos z]; exact hR
        · rw [if_neg z]
          have tr : ∀ p m hi co, pStat f n p m hi co (fun _ _ => True) (fun _ _ _ _ => True) := fun p m hi co => by
            have := pStat_n (f := f) (n := n) (m := m) (p := p) (hi := hi) (co := co) (fun _ : Unit => True) (fun _ _ => ()) (fun _ _ _ _ => ())
            exact cast this True.intro
          exact pStat_m hR h1 h2 (tr p m hi co) (fun _ _ _ => True.intro) (fun p' m' hi' co' _ a b c _ => ih p' m' hi' co' a b c)
    have e2 := pAll_n (f := f) (n := n) (fun x : (Nat × Nat) ⊕ (Nat → Int32) => match x with | .inl _ => True | .inr m => Rd m) (fun c q => .inl (c, q)) (fun m => .inr m) 600 0 mNew 0 0
    have k2 := key 600 0 mNew 0 0 rd_new (by decide) (by decide)
    have e3 : (match rText f n with | .inl _ => True | .inr m => Rd m) := cast e2.symm k2
    rw [e] at e3
    exact e3
  refine b_X6_readText (c_readT hT hf (fun c q e τ fr a er => ?_) (fun m' e τ fr a er hN => ?_))
  · intro σ2 e2
    refine ⟨fun h => absurd rfl h, fun _ => H0 c q e σ2 ?_ ?_ ?_⟩
    · rw [e2]; exact fr.up (Or.inl rfl) _
    · rw [e2, zpt_at, pk_us]; rfl
    · unfold ErC; rw [e2, zpt_at, pk_un (by decide), pk_un (by decide)]; exact er
  · have hR := hrd m' e
    have hwE : WF (mEnd m') := wF_wf hR.1 (paF_9 hR.1 _ _)
    intro σ2 e2
    have F2 : FrP pD σ σ2 := by rw [e2]; exact fr.up (Or.inl rfl) _
    have o2 : ∀ b, b ≠ 1 → σ2.1 b = τ.1 b := fun b hb => by rw [e2, zpt_ne hb]
    have N2 : Nb σ2 93 (mEnd m') := hN.fr (fun b h1 h2 => o2 b (by omega))
    refine ⟨fun _ => c_copyFrom zB_73 zB_93 (by omega) (fun τ4 f4 C4 => b_X1_forget ?_), fun h => absurd h (by decide)⟩
    intro σ5 e5
    have hN4 : Nb τ4 73 (mEnd m') := C4.Nb hwE N2
    have o5 : ∀ b, b ≠ 16 → σ5.1 b = τ4.1 b := fun b hb => by rw [e5]; exact zpt_ne hb
    have hN5 : Nw σ5 (mEnd m') := (Nw_Nb.mp (hN4)).fr (fun b h1 h2 => o5 b (by omega))
    have hb := wF_b (m := m') (paF m' (cols m') (cols m'))
    have n1 : ∀ b, ¬ (73 ≤ b ∧ b < 83) → b ≠ 16 → b ≠ 1 → ¬ pD b → σ5.1 b = σ.1 b := fun b x y z w => by rw [o5 b y, f4.1 b (by omega), F2.1 b w]
    have s1 : σ5.1 1 = σ2.1 1 := by rw [o5 1 (by decide), f4.1 1 (by omega)]
    rw [hN5.1.2.2.1, show nS (mEnd m') = nS m' from hb.1.e_nS]
    refine H1 m' e hR σ5 ⟨fun b hb => ?_, ?_⟩ ?_ ?_ hN5 (fun k hk => ?_) ?_
    · unfold pRT at hb
      exact n1 b (fun h => hb (by omega)) (fun h => hb (by omega)) (fun h => hb (Or.inl (Or.inl h))) (fun h => hb (Or.inl h))
    · rw [e5]; exact f4.2.trans F2.2
    · rw [s1, e2, zpt_at, pk_us]; rfl
    · unfold ErC; rw [s1, e2, zpt_at, pk_un (by decide), pk_un (by decide)]; exact er
    · rw [e5, zpt_at, pk_un hk, f4.1 16 (by omega), F2.1 16 (by unfold pD; omega)]
    · rw [e5, zpt_at, pk_us]; rfl
end ZCRt

