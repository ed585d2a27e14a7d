/-! the shared state after every kind of call -/
section ZIo
variable {g : zG} {l : Launch} {σ τ : zS}
variable {m m' : Nat → Int32} {u : Nat} {h : Nat → Nat → Int32} {sv : Nat} {a : Nat → Int32} {rn : Nat} {rf : Nat → Nat} {n n' : Nat} {f f' : Nat → Nat} {ec ep ec' ep' : Int}
theorem CI_undo (hF : FrP pU σ τ) (hN : Nw τ m') (hH : HsC τ (u - 1) (fun i => h (i + 1))) (H : CI σ m u h sv a rn rf n f ec ep) : CI τ m' (u - 1) (fun i => h (i + 1)) sv a rn rf n f ec ep := by
  obtain ⟨h1, h2, h3, h4, h5, h6⟩ := H
  have e : ∀ b, ¬ pU b → τ.1 b = σ.1 b := fun b hb => hF.1 b hb
  refine ⟨hN, hH, h3.fr (by rw [e 0 (by unfold pU; omega)]) (fun b x y => e b (by unfold pU; omega)), h4.fr (by rw [e 0 (by unfold pU; omega)]) (e 23 (by unfold pU; omega)), h5.fr (by rw [e 1 (by unfold pU; omega)]) (e 2 (by unfold pU; omega)), ?_⟩
  unfold ErC; rw [e 1 (by unfold pU; omega)]; exact h6
theorem HsC_none (hH : HsC σ u h) (e2 : τ.1 16 2 = σ.1 16 2) (e1 : τ.1 16 1 = iI 0) : HsC τ 0 h := by
  obtain ⟨nx, h0, h1, h2, h3, h4⟩ := hH
  exact ⟨nx, h0, Nat.zero_le _, e1, e2.trans h3, fun i hi => absurd hi (Nat.not_lt_zero i)⟩
theorem CI_restore (hF : FrP pU σ τ) (hN : Nw τ a) (e16 : ∀ k, k ≠ 1 → τ.1 16 k = σ.1 16 k) (e1 : τ.1 16 1 = iI 0) (H : CI σ m u h sv a rn rf n f ec ep) : CI τ a 0 h sv a rn rf n f ec ep := by
  obtain ⟨h1, h2, h3, h4, h5, h6⟩ := H
  have e : ∀ b, ¬ pU b → τ.1 b = σ.1 b := fun b hb => hF.1 b hb
  refine ⟨hN, HsC_none h2 (e16 2 (by decide)) e1, h3.fr (by rw [e 0 (by unfold pU; omega)]) (fun b x y => e b (by unfold pU; omega)), h4.fr (by rw [e 0 (by unfold pU; omega)]) (e 23 (by unfold pU; omega)), h5.fr (by rw [e 1 (by unfold pU; omega)]) (e 2 (by unfold pU; omega)), ?_⟩
  unfold ErC; rw [e 1 (by unfold pU; omega)]; exact h6
theorem CI_save (hF : FrP (fun b => b = 0 ∨ (83 ≤ b ∧ b < 93)) σ τ) (e0 : ∀ k, k ≠ 11 → τ.1 0 k = σ.1 0 k) (hS : SvC τ 1 m) (H : CI σ m u h sv a rn rf n f ec ep) : CI τ m u h 1 m rn rf n f ec ep := by
  obtain ⟨h1, h2, h3, h4, h5, h6⟩ := H
  have e : ∀ b, b ≠ 0 → ¬ (83 ≤ b ∧ b < 93) → τ.1 b = σ.1 b := fun b x y => hF.1 b (by omega)
  refine ⟨(Nw_Nb.mp h1).fr (fun b x y => e b (by omega) (by omega)), h2.fr (e 16 (by decide) (by omega)) (fun b x y => e b (by omega) (by omega)), hS, h4.fr (e0 9 (by decide)) (e 23 (by decide) (by omega)), h5.fr (by rw [e 1 (by decide) (by omega)]) (e 2 (by decide) (by omega)), ?_⟩
  unfold ErC; rw [e 1 (by decide) (by omega)]; exact h6
theorem CI_report {rn' : Nat} {rf' : Nat → Nat} (hF : FrP pRV σ τ) (e0 : ∀ k, k ≠ 9 → τ.1 0 k = σ.1 0 k) (hR : RpC τ rn' rf') (H : CI σ m u h sv a rn rf n f ec ep) : CI τ m u h sv a rn' rf' n f ec ep := by
  obtain ⟨h1, h2, h3, h4, h5, h6⟩ := H
  have e : ∀ b, ¬ pRV b → τ.1 b = σ.1 b := fun b hb => hF.1 b hb
  refine ⟨(Nw_Nb.mp h1).fr (fun b x y => e b (by unfold pRV; omega)), h2.fr (e 16 (by unfold pRV; omega)) (fun b x y => e b (by unfold pRV; omega)), h3.fr (e0 11 (by decide)) (fun b x y => e b (by unfold pRV; omega)), hR, h5.fr (by rw [e 1 (by unfold pRV; omega)]) (e 2 (by unfold pRV; omega)), ?_⟩
  unfold ErC; rw [e 1 (by unfold pRV; omega)]; exact h6
theorem CI_text (hF : FrP pT σ τ) (e1 : ∀ k, k ≠ 1 → τ.1 1 k = σ.1 1 k) (hT : TxC τ n' f') (H : CI σ m u h sv a rn rf n f ec ep) : CI τ m u h sv a rn rf n' f' ec ep := by
  obtain ⟨h1, h2, h3, h4, h5, h6⟩ := H
  have e : ∀ b, ¬ pT b → τ.1 b = σ.1 b := fun b hb => hF.1 b hb
  refine ⟨(Nw_Nb.mp h1).fr (fun b x y => e b (by unfold pT; omega)), h2.fr (e 16 (by unfold pT; omega)) (fun b x y => e b (by unfold pT; omega)), h3.fr (by rw [e 0 (by unfold pT; omega)]) (fun b x y => e b (by unfold pT; omega)), h4.fr (by rw [e 0 (by unfold pT; omega)]) (e 23 (by unfold pT; omega)), hT, ⟨(e1 6 (by decide)).trans h6.1, (e1 7 (by decide)).trans h6.2⟩⟩
theorem TxC_none (e1 : τ.1 1 1 = iI 0) : TxC τ 0 f := ⟨Nat.zero_le _, e1, fun i hi => absurd hi (Nat.not_lt_zero i)⟩
/-- a text or a script with an error -/
theorem CI_err {p : Nat → Prop} (hF : FrP p σ τ) (hp : ∀ b, p b → b ≠ 0 ∧ b ≠ 16 ∧ b ≠ 23 ∧ ¬ (73 ≤ b ∧ b < 93) ∧ ¬ (103 ≤ b ∧ b < 163)) (e1 : τ.1 1 1 = iI 0) (hE : ErC τ ec' ep') (H : CI σ m u h sv a rn rf n f ec ep) : CI τ m u h sv a rn rf 0 f ec' ep' := by
  obtain ⟨h1, h2, h3, h4, h5, h6⟩ := H
  have e : ∀ b, b = 0 ∨ b = 16 ∨ b = 23 ∨ (73 ≤ b ∧ b < 93) ∨ (103 ≤ b ∧ b < 163) → τ.1 b = σ.1 b := fun b hb => hF.1 b (fun q => by have := hp b q; omega)
  exact ⟨(Nw_Nb.mp h1).fr (fun b x y => e b (by omega)), h2.fr (e 16 (by omega)) (fun b x y => e b (by omega)), h3.fr (by rw [e 0 (by omega)]) (fun b x y => e b (by omega)), h4.fr (by rw [e 0 (by omega)]) (e 23 (by omega)), TxC_none e1, hE⟩
theorem CI_readText (hF : FrP pRT σ τ) (e1 : τ.1 1 1 = iI 0) (hE : ErC τ 0 (-1)) (hN : Nw τ m') (e16 : ∀ k, k ≠ 1 → τ.1 16 k = σ.1 16 k) (e161 : τ.1 16 1 = iI 0) (H : CI σ m u h sv a rn rf n f ec ep) : CI τ m' 0 h sv a rn rf 0 f 0 (-1) := by
  obtain ⟨h1, h2, h3, h4, h5, h6⟩ := H
  have e : ∀ b, ¬ pRT b → τ.1 b = σ.1 b := fun b hb => hF.1 b hb
  exact ⟨hN, HsC_none h2 (e16 2 (by decide)) e161, h3.fr (by rw [e 0 (by unfold pRT pD; omega)]) (fun b x y => e b (by unfold pRT pD; omega)), h4.fr (by rw [e 0 (by unfold pRT pD; omega)]) (e 23 (by unfold pRT pD; omega)), TxC_none e1, hE⟩
theorem CI_runScript (hF : FrP pRS σ τ) (e1 : τ.1 1 1 = iI 0) (hE : ErC τ 0 (-1)) (hN : Nw τ m') (hH : HsC τ (min 6 (u + 1)) (hpush m h)) (e0 : ∀ k, k ≠ 10 → τ.1 0 k = σ.1 0 k) (H : CI σ m u h sv a rn rf n f ec ep) : CI τ m' (min 6 (u + 1)) (hpush m h) sv a rn rf 0 f 0 (-1) := by
  obtain ⟨h1, h2, h3, h4, h5, h6⟩ := H
  have e : ∀ b, ¬ pRS b → τ.1 b = σ.1 b := fun b hb => hF.1 b hb
  exact ⟨hN, hH, h3.fr (e0 11 (by decide)) (fun b x y => e b (by unfold pRS pSc pC; omega)), h4.fr (e0 9 (by decide)) (e 23 (by unfold pRS pSc pC; omega)), TxC_none e1, hE⟩
/-! the reference's side -/
theorem MI_undo (hF : FM [26] [0, 18] σ τ) (hm : τ.1 26 = m') (hH : HsM τ (u - 1) (fun i => h (i + 1))) (H : MI σ m u h sv a rn rf n f ec ep) : MI τ m' (u - 1) (fun i => h (i + 1)) sv a rn rf n f ec ep := by
  obtain ⟨h1, h2, h3, h4, h5, h6⟩ := H
  have e := fun k (x : k ≠ 0) (y : k ≠ 18) => hF.2.1 k (by simp; omega)
  have eb := fun b (x : b ≠ 24) (y : b ≠ 26) => hF.1 b (by simp; omega) x
  exact ⟨hm, hH, h3.fr (e 19 (by decide) (by decide)) (eb 27 (by decide) (by decide)), h4.fr (e 34 (by decide) (by decide)) (e 35 (by decide) (by decide)) (eb 40 (by decide) (by decide)), h5.fr (e 2 (by decide) (by decide)) (eb 25 (by decide) (by decide)), ⟨(e 10 (by decide) (by decide)).trans h6.1, (e 11 (by decide) (by decide)).trans h6.2⟩⟩
theorem HsM_none (e1 : τ.1 24 18 = iI 0) : HsM τ 0 h := ⟨e1, Nat.zero_le _, fun i hi => absurd hi (Nat.not_lt_zero i)⟩
theorem MI_restore (hF : FM [26] [0, 18] σ τ) (hm : τ.1 26 = a) (e18 : τ.1 24 18 = iI 0) (H : MI σ m u h sv a rn rf n f ec ep) : MI τ a 0 h sv a rn rf n f ec ep := by
  obtain ⟨h1, h2, h3, h4, h5, h6⟩ := H
  have e := fun k (x : k ≠ 0) (y : k ≠ 18) => hF.2.1 k (by simp; omega)
  have eb := fun b (x : b ≠ 24) (y : b ≠ 26) => hF.1 b (by simp; omega) x
  exact ⟨hm, HsM_none e18, h3.fr (e 19 (by decide) (by decide)) (eb 27 (by decide) (by decide)), h4.fr (e 34 (by decide) (by decide)) (e 35 (by decide) (by decide)) (eb 40 (by decide) (by decide)), h5.fr (e 2 (by decide) (by decide)) (eb 25 (by decide) (by decide)), ⟨(e 10 (by decide) (by decide)).trans h6.1, (e 11 (by decide) (by decide)).trans h6.2⟩⟩
theorem MI_save (hF : FM [27] [0, 19] σ τ) (hS : SvM τ 1 m) (H : MI σ m u h sv a rn rf n f ec ep) : MI τ m u h 1 m rn rf n f ec ep := by
  obtain ⟨h1, h2, h3, h4, h5, h6⟩ := H
  have e := fun k (x : k ≠ 0) (y : k ≠ 19) => hF.2.1 k (by simp; omega)
  have eb := fun b (x : b ≠ 24) (y : b ≠ 27) => hF.1 b (by simp; omega) x
  exact ⟨(eb 26 (by decide) (by decide)).trans h1, h2.fr (e 18 (by decide) (by decide)) (eb 30 (by decide) (by decide)), hS, h4.fr (e 34 (by decide) (by decide)) (e 35 (by decide) (by decide)) (eb 40 (by decide) (by decide)), h5.fr (e 2 (by decide) (by decide)) (eb 25 (by decide) (by decide)), ⟨(e 10 (by decide) (by decide)).trans h6.1, (e 11 (by decide) (by decide)).trans h6.2⟩⟩
theorem MI_report {rn' : Nat} {rf' : Nat → Nat} (hF : FM [40] [0, 34, 35] σ τ) (hR : RpM τ rn' rf') (H : MI σ m u h sv a rn rf n f ec ep) : MI τ m u h sv a rn' rf' n f ec ep := by
  obtain ⟨h1, h2, h3, h4, h5, h6⟩ := H
  have e := fun k (x : k ≠ 0) (y : k ≠ 34) (z : k ≠ 35) => hF.2.1 k (by simp; omega)
  have eb := fun b (x : b ≠ 24) (y : b ≠ 40) => hF.1 b (by simp; omega) x
  exact ⟨(eb 26 (by decide) (by decide)).trans h1, h2.fr (e 18 (by decide) (by decide) (by decide)) (eb 30 (by decide) (by decide)), h3.fr (e 19 (by decide) (by decide) (by decide)) (eb 27 (by decide) (by decide)), hR, h5.fr (e 2 (by decide) (by decide) (by decide)) (eb 25 (by decide) (by decide)), ⟨(e 10 (by decide) (by decide) (by decide)).trans h6.1, (e 11 (by decide) (by decide) (by decide)).trans h6.2⟩⟩
theorem MI_text (hF : FM [25] [0, 2] σ τ) (hT : TxM τ n' f') (H : MI σ m u h sv a rn rf n f ec ep) : MI τ m u h sv a rn rf n' f' ec ep := by
  obtain ⟨h1, h2, h3, h4, h5, h6⟩ := H
  have e := fun k (x : k ≠ 0) (y : k ≠ 2) => hF.2.1 k (by simp; omega)
  have eb := fun b (x : b ≠ 24) (y : b ≠ 25) => hF.1 b (by simp; omega) x
  exact ⟨(eb 26 (by decide) (by decide)).trans h1, h2.fr (e 18 (by decide) (by decide)) (eb 30 (by decide) (by decide)), h3.fr (e 19 (by decide) (by decide)) (eb 27 (by decide) (by decide)), h4.fr (e 34 (by decide) (by decide)) (e 35 (by decide) (by decide)) (eb 40 (by decide) (by decide)), hT, ⟨(e 10 (by decide) (by decide)).trans h6.1, (e 11 (by decide) (by decide)).trans h6.2⟩⟩
theorem TxM_none (e1 : τ.1 24 2 = iI 0) : TxM τ 0 f := ⟨Nat.zero_le _, e1, fun i hi => absurd hi (Nat.not_lt_zero i)⟩
/-- a text or a script read, with an error or without: what is as before -/
theorem MI_read (hF : FN LR FR σ τ) (hm : τ.1 26 = m') {u' : Nat} {h' : Nat → Nat → Int32} (hH : HsM τ u' h') (e2 : τ.1 24 2 = iI 0) (e10 : τ.1 24 10 = iI ec') (e11 : τ.1 24 11 = iI ep') (H : MI σ m u h sv a rn rf n f ec ep) : MI τ m' u' h' sv a rn rf 0 f ec' ep' := by
  obtain ⟨h1, h2, h3, h4, h5, h6⟩ := H
  exact ⟨hm, hH, h3.fr (hF.2.1 19 (by decide)) (hF.1 27 (by decide) (by decide)), h4.fr (hF.2.1 34 (by decide)) (hF.2.1 35 (by decide)) (hF.1 40 (by decide) (by decide)), TxM_none e2, ⟨e10, e11⟩⟩
end ZIo
