/-! the class: runScript -/
section ZCRn
variable {g : zG} {l : Launch} {K : Int32 → zS → Prop} {X : String → zS → Prop} {σ : zS} {f : Nat → Nat} {n : Nat} {m : Nat → Int32}
theorem c_readS (hT : TxC σ n f) (hf : ∀ i, i < n → f i < 256)
    (H0 : ∀ c q : Nat, rScr f n = .inl (c, q) → ∀ τ, FrP pSc σ τ → τ.1 1 1 = iI n → ErC τ c q → K (iI 0) τ)
    (H1 : ∀ P k L, rScr f n = .inr (P, k, L) → ∀ τ, FrP pSc σ τ → τ.1 1 1 = iI n → ErC τ 0 (-1) → CS g l τ P [] k → K (iI 1) τ) : CT g l M_X2_read 0 [.ref (zad g 10)] σ (zQi K X) := by
  refine b_X2_read ?_
  intro σ1 e1 σ2 e2
  have o : ∀ b, b ≠ 10 → σ2.1 b = σ.1 b := fun b hb => by rw [e2, zpt_ne hb, e1, zpt_ne hb]
  have F2 : FrP pSc σ σ2 := by
    rw [e2, e1]
    exact ((FrP.rf pSc σ).up (by unfold pSc; omega) _).up (by unfold pSc; omega) _
  refine c_begin (hT.fr (by rw [o 1 (by decide)]) (by rw [o 2 (by decide)])) hf (fun τ fr S => ?_)
  refine c_scr_19 (σ0 := σ) 600 (by decide) 0 nilD [] 0 0 (by decide) (by decide) τ (F2.tr (pE_Sc fr)) S ⟨?_, ?_, by decide, by decide, cP_nil _ _, True.intro⟩ (rScr_of H0 H1)
  · rw [fr.1 10 (by unfold pE; omega), e2, zpt_at, pk_un (by decide), e1, zpt_at, pk_us]; rfl
  · rw [fr.1 10 (by unfold pE; omega), e2, zpt_at, pk_us]; rfl
def pRS (b : Nat) : Prop := pSc b ∨ b = 0 ∨ pC b
theorem c_runScript {u : Nat} {h : Nat → Nat → Int32} (hN : Nw σ m) (hw : WF m) (hH : HsC σ u h) (hhw : ∀ i, i < u → WF (h i)) (hT : TxC σ n f) (hf : ∀ i, i < n → f i < 256)
    (H0 : ∀ c q : Nat, rScr f n = .inl (c, q) → ∀ τ, FrP pSc σ τ → τ.1 1 1 = iI 0 → ErC τ c q → X xA τ)
    (H1 : ∀ P k L, rScr f n = .inr (P, k, L) → ∀ τ, FrP pRS σ τ → τ.1 1 1 = iI 0 → ErC τ 0 (-1) → Nw τ (P m 0).1 → WF (P m 0).1 → HsC τ (min 6 (u + 1)) (hpush m h) → (∀ k, k ≠ 10 → τ.1 0 k = σ.1 0 k) → (P m 0).2.1 ≤ 40 → K (iI (P m 0).2.1) τ) : CT g l M_X6_runScript 1 [.ref (zad g 0)] σ (zQi K X) := by
  refine b_X6_runScript (c_readS hT hf (fun c q e τ fr a er => ?_) (fun P k L e τ fr a er hC => ?_))
  · intro σ2 e2
    refine ⟨fun h => absurd rfl h, fun _ => H0 c q e σ2 ?_ ?_ ?_⟩
    · rw [e2]; exact fr.up (Or.inl rfl) _
    · rw [e2, zpt_at, pk_us]; rfl
    · unfold ErC; rw [e2, zpt_at, pk_un (by decide), pk_un (by decide)]; exact er
  · intro σ2 e2
    refine ⟨fun _ => ?_, fun h => absurd h (by decide)⟩
    have F2 : FrP pSc σ σ2 := by rw [e2]; exact fr.up (Or.inl rfl) _
    have o2 : ∀ b, b ≠ 1 → σ2.1 b = τ.1 b := fun b hb => by rw [e2, zpt_ne hb]
    have hN2 : Nw σ2 m := (Nw_Nb.mp hN).fr (fun b h1 h2 => F2.1 b (by unfold pSc; omega))
    have hH2 : HsC σ2 u h := hH.fr (F2.1 16 (by unfold pSc; omega)) (fun b h1 h2 => F2.1 b (by unfold pSc; omega))
    have hC2 : CS g l σ2 P [] k := CS_fr hC (fun b h1 => o2 b (by omega))
    refine c_keep hH2 hN2 hw hhw (fun τ4 f4 hH4 => ?_)
    intro σ5 e5
    have o5 : ∀ b, b ≠ 0 → σ5.1 b = τ4.1 b := fun b hb => by rw [e5, zpt_ne hb]
    have o4 : ∀ b, ¬ pK b → τ4.1 b = σ2.1 b := fun b hb => f4.1 b hb
    have hN5 : Nw σ5 m := (Nw_Nb.mp (nw_pK hN2 f4)).fr (fun b h1 h2 => o5 b (by omega))
    have hC5 : CS g l σ5 P [] k := CS_fr hC2 (fun b h1 => by rw [o5 b (by omega), o4 b (by unfold pK; omega)])
    obtain ⟨c1, c7, ck, cst, cp, cs⟩ := hC5
    have hH5 : HsC σ5 (min 6 (u + 1)) (hpush m h) := hH4.fr (o5 16 (by decide)) (fun b h1 h2 => o5 b (by omega))
    have s0 : ∀ k, k ≠ 10 → σ5.1 0 k = σ.1 0 k := fun k hk => by rw [e5, zpt_at, pk_un hk, o4 0 (by unfold pK; omega), F2.1 0 (by unfold pSc; omega)]
    have s1 : σ5.1 1 = σ2.1 1 := by rw [o5 1 (by decide), o4 1 (by unfold pK; omega)]
    have F5 : FrP pRS σ σ5 := by
      rw [e5]
      refine FrP.up ((F2.sub (q := pRS) (fun b hb => Or.inl hb)).tr (f4.sub (q := pRS) (fun b hb => Or.inr (Or.inr ?_)))) (Or.inr (Or.inl rfl)) _
      unfold pK at hb; unfold pC; omega
    rw [c1]
    have done : ∀ υ, exC σ5 υ m 0 P → K (υ.1 0 10) υ := fun υ ex => by
      have fx := ex.1
      rw [ex.2.2.2.2.1]
      refine H1 P k L e υ (F5.tr (fx.sub (fun b hb => ?_))) ?_ ?_ ex.2.2.1 ex.2.2.2.1 (hH5.fr (fx.1 16 (by unfold pX pB; omega)) (fun b h1 h2 => fx.1 b (by unfold pX pB; omega))) (fun k hk => (ex.2.1 k hk).trans (s0 k hk)) ex.2.2.2.2.2
      · unfold pX pB at hb; unfold pRS pC; omega
      · rw [fx.1 1 (by unfold pX pB; omega), s1, e2, zpt_at, pk_us]; rfl
      · unfold ErC; rw [fx.1 1 (by unfold pX pB; omega), s1, e2, zpt_at, pk_un (by decide), pk_un (by decide)]; exact er
    refine b_X6_runCommands (d := 13) (dn := 12) (by decide) (by decide) ?_
    refine cp.2 _ X σ5 m 0 0 k 13 (fun i _ _ => ⟨rfl, rfl, rfl, rfl⟩) hN5 hw (by decide) ?_ (Nat.le_refl _) (Nat.le_refl _) ck (by decide) (fun υ cnt' hc ex ht hd => ?_) (fun υ ex _ => done υ ex)
    · rw [e5, zpt_at, pk_us]; rfl
    · refine b_X6_runCommands_9 (d := 13) (dn := 12) (by decide) (by decide) ?_
      rw [show (30 : Int32) = iI 30 from rfl, iI_le (by omega) (by omega) (by omega) (by omega), iI_le (by omega) (by omega) (by omega) (by omega)]
      exact ⟨fun _ => ⟨Or.inr rfl, done υ ex⟩, fun _ => ⟨fun _ => ⟨Or.inr rfl, done υ ex⟩, fun q => absurd (Int.le_refl _) q⟩⟩
end ZCRn
