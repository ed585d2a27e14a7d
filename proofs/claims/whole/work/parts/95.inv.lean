/-! what the two sides share, call by call -/
section ZIn
variable {g : zG} {l : Launch} {K : Int32 → zS → Prop} {X : String → zS → Prop} {σ τ : zS}
theorem c_errorCode {c q : Int} (hE : ErC σ c q) (H : K (iI c) σ) : CT g l M_X6_errorCode 0 [.ref (zad g 0)] σ (zQi K X) := by
  refine b_X6_errorCode ?_
  rw [hE.1]; exact H
theorem c_errorPosition {c q : Int} (hE : ErC σ c q) (H : K (iI q) σ) : CT g l M_X6_errorPosition 0 [.ref (zad g 0)] σ (zQi K X) := by
  refine b_X6_errorPosition ?_
  rw [hE.2]; exact H
def ErT (σ : zS) (c q : Int) : Prop := σ.1 24 10 = iI c ∧ σ.1 24 11 = iI q
theorem s_errorCode {c q : Int} (hE : ErT σ c q) (H : K (iI c) (cd σ 0)) : CT g l M_X7_errorCode 0 [.ref (zad g 24)] σ (zQi K X) := by
  refine b_X7_errorCode ?_
  intro σ1 e1
  rw [e1, zpt_at, pk_un (by decide), hE.1]
  exact H
theorem s_errorPosition {c q : Int} (hE : ErT σ c q) (H : K (iI q) (cd σ 0)) : CT g l M_X7_errorPosition 0 [.ref (zad g 24)] σ (zQi K X) := by
  refine b_X7_errorPosition ?_
  intro σ1 e1
  rw [e1, zpt_at, pk_un (by decide), hE.2]
  exact H
theorem s_thrown {c : Int} (h : σ.1 24 0 = iI c) (H : K (iI c) σ) : CT g l M_X7_thrown 0 [.ref (zad g 24)] σ (zQi K X) := by
  refine b_X7_thrown ?_
  rw [h]; exact H
/-- the class's side -/
def CI (σ : zS) (m : Nat → Int32) (u : Nat) (h : Nat → Nat → Int32) (sv : Nat) (a : Nat → Int32) (rn : Nat) (rf : Nat → Nat) (n : Nat) (f : Nat → Nat) (ec ep : Int) : Prop :=
  Nw σ m ∧ HsC σ u h ∧ SvC σ sv a ∧ RpC σ rn rf ∧ TxC σ n f ∧ ErC σ ec ep
/-- the reference's side -/
def MI (σ : zS) (m : Nat → Int32) (u : Nat) (h : Nat → Nat → Int32) (sv : Nat) (a : Nat → Int32) (rn : Nat) (rf : Nat → Nat) (n : Nat) (f : Nat → Nat) (ec ep : Int) : Prop :=
  σ.1 26 = m ∧ HsM σ u h ∧ SvM σ sv a ∧ RpM σ rn rf ∧ TxM σ n f ∧ ErT σ ec ep
/-- the rows are good ones -/
def GI (m : Nat → Int32) (u : Nat) (h : Nat → Nat → Int32) (sv : Nat) (a : Nat → Int32) : Prop :=
  WF m ∧ Ct m ∧ (∀ i, i < u → WF (h i) ∧ Ct (h i)) ∧ (sv = 1 → Ct a ∧ WF a)
variable {m m' : Nat → Int32} {u : Nat} {h : Nat → Nat → Int32} {sv : Nat} {a : Nat → Int32} {rn : Nat} {rf : Nat → Nat} {n : Nat} {f : Nat → Nat} {ec ep : Int}
theorem CI_fr (H : CI σ m u h sv a rn rf n f ec ep) (e0 : τ.1 0 9 = σ.1 0 9 ∧ τ.1 0 11 = σ.1 0 11) (e : ∀ b, b = 1 ∨ b = 2 ∨ b = 16 ∨ b = 23 ∨ (73 ≤ b ∧ b < 93) ∨ (103 ≤ b ∧ b < 163) → τ.1 b = σ.1 b) : CI τ m u h sv a rn rf n f ec ep := by
  obtain ⟨h1, h2, h3, h4, h5, h6⟩ := H
  refine ⟨(Nw_Nb.mp h1).fr (fun b x y => e b (by omega)), h2.fr (e 16 (by omega)) (fun b x y => e b (by omega)), h3.fr e0.2 (fun b x y => e b (by omega)), h4.fr e0.1 (e 23 (by omega)), h5.fr (by rw [e 1 (by omega)]) (e 2 (by omega)), ?_⟩
  unfold ErC; rw [e 1 (by omega)]; exact h6
theorem MI_fr (H : MI σ m u h sv a rn rf n f ec ep) (e24 : ∀ k, k = 2 ∨ k = 10 ∨ k = 11 ∨ k = 18 ∨ k = 19 ∨ k = 34 ∨ k = 35 → τ.1 24 k = σ.1 24 k) (e : ∀ b, b = 25 ∨ b = 26 ∨ b = 27 ∨ b = 30 ∨ b = 40 → τ.1 b = σ.1 b) : MI τ m u h sv a rn rf n f ec ep := by
  obtain ⟨h1, h2, h3, h4, h5, h6⟩ := H
  refine ⟨(e 26 (by omega)).trans h1, h2.fr (e24 18 (by omega)) (e 30 (by omega)), ⟨h3.1, (e24 19 (by omega)).trans h3.2.1, fun q k hk => by rw [e 27 (by omega)]; exact h3.2.2 q k hk⟩, ⟨h4.1, (e24 34 (by omega)).trans h4.2.1, ?_, fun i hi => by rw [e 40 (by omega)]; exact h4.2.2.2 i hi⟩, h5.fr (e24 2 (by omega)) (e 25 (by omega)), ⟨(e24 10 (by omega)).trans h6.1, (e24 11 (by omega)).trans h6.2⟩⟩
  rw [e24 35 (by omega)]; exact h4.2.2.1
/-- what the reference does leaves the class's side -/
theorem CI_N {L F : List Nat} (hF : FN L F σ τ) (hL : ∀ b, b ∈ L → 25 ≤ b ∧ b ≤ 40) (H : CI σ m u h sv a rn rf n f ec ep) : CI τ m u h sv a rn rf n f ec ep := by
  have e : ∀ b, b < 24 ∨ 40 < b → τ.1 b = σ.1 b := fun b hb => hF.1 b (fun q => by have := hL b q; omega) (by omega)
  exact CI_fr H ⟨by rw [e 0 (by omega)], by rw [e 0 (by omega)]⟩ (fun b hb => e b (by omega))
theorem MI_P {p : Nat → Prop} (hF : FrP p σ τ) (hp : ∀ b, p b → b < 24 ∨ 40 < b) (H : MI σ m u h sv a rn rf n f ec ep) : MI τ m u h sv a rn rf n f ec ep := by
  have e : ∀ b, 24 ≤ b → b ≤ 40 → τ.1 b = σ.1 b := fun b x y => hF.1 b (fun q => by have := hp b q; omega)
  exact MI_fr H (fun k _ => by rw [e 24 (by decide) (by decide)]) (fun b hb => e b (by omega) (by omega))
/-- the class's side after what only looks -/
theorem CI_look (hF : FrL LV σ τ) (H : CI σ m u h sv a rn rf n f ec ep) : CI τ m u h sv a rn rf n f ec ep := by
  have e : ∀ b, b ≠ 19 → b ≠ 20 → b ≠ 21 → τ.1 b = σ.1 b := fun b x y z => hF.1 b (by unfold LV; simp; omega)
  exact CI_fr H ⟨by rw [e 0 (by decide) (by decide) (by decide)], by rw [e 0 (by decide) (by decide) (by decide)]⟩ (fun b hb => e b (by omega) (by omega) (by omega))
/-- after a change -/
theorem CI_chg (hC : ChC σ u h m m' τ) (H : CI σ m u h sv a rn rf n f ec ep) : CI τ m' (min 6 (u + 1)) (hpush m h) sv a rn rf n f ec ep := by
  obtain ⟨h1, h2, h3, h4, h5, h6⟩ := H
  have e : ∀ b, ¬ pC b → τ.1 b = σ.1 b := fun b hb => hC.1.1 b hb
  refine ⟨hC.2.1, hC.2.2, h3.fr (by rw [e 0 (by unfold pC; omega)]) (fun b x y => e b (by unfold pC; omega)), h4.fr (by rw [e 0 (by unfold pC; omega)]) (e 23 (by unfold pC; omega)), h5.fr (by rw [e 1 (by unfold pC; omega)]) (e 2 (by unfold pC; omega)), ?_⟩
  unfold ErC; rw [e 1 (by unfold pC; omega)]; exact h6
theorem MI_chg (hC : Chg σ u h m m' τ) (H : MI σ m u h sv a rn rf n f ec ep) : MI τ m' (min 6 (u + 1)) (hpush m h) sv a rn rf n f ec ep := by
  obtain ⟨h1, h2, h3, h4, h5, h6⟩ := H
  obtain ⟨c1, c2, c3, c4⟩ := hC
  have e : ∀ k, k ≠ 0 → k ≠ 18 → τ.1 24 k = σ.1 24 k := fun k x y => c1.2.1 k (by simp; omega)
  have eb : ∀ b, b ≠ 24 → b ≠ 26 → b ≠ 28 → b ≠ 30 → τ.1 b = σ.1 b := fun b x y z w => c1.1 b (by simp; omega) x
  refine ⟨c3, c4, ⟨h3.1, (e 19 (by decide) (by decide)).trans h3.2.1, fun q k hk => by rw [eb 27 (by decide) (by decide) (by decide) (by decide)]; exact h3.2.2 q k hk⟩, ⟨h4.1, (e 34 (by decide) (by decide)).trans h4.2.1, ?_, fun i hi => by rw [eb 40 (by decide) (by decide) (by decide) (by decide)]; exact h4.2.2.2 i hi⟩, h5.fr (e 2 (by decide) (by decide)) (eb 25 (by decide) (by decide) (by decide) (by decide)), ⟨(e 10 (by decide) (by decide)).trans h6.1, (e 11 (by decide) (by decide)).trans h6.2⟩⟩
  rw [e 35 (by decide) (by decide)]; exact h4.2.2.1
/-- the reference's side when only its code of what was thrown changes -/
theorem MI_cd (c : Int) (H : MI σ m u h sv a rn rf n f ec ep) : MI (cd σ c) m u h sv a rn rf n f ec ep :=
  MI_fr H (fun k hk => by rw [zpt_at, pk_un (by omega)]) (fun b hb => zpt_ne (by omega))
theorem CI_cd (c : Int) (H : CI σ m u h sv a rn rf n f ec ep) : CI (cd σ c) m u h sv a rn rf n f ec ep :=
  CI_N (L := []) (F := [0]) ((FM.rf [] [0] σ).cd (by decide) c).N (fun b hb => absurd hb (by simp)) H
end ZIn
