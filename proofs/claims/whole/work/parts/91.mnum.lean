/-! the reference: what stands behind the word of a command -/
section ZMN
variable {g : zG} {l : Launch} {K : zS → Prop} {X : String → zS → Prop} {σ σ0 : zS} {f : Nat → Nat} {n p L v c q : Nat}
def FrJ (L : Nat) (σ τ : zS) : Prop := (∀ b, b ≠ 24 → (b < 33 ∨ 37 < b) → τ.1 b = σ.1 b) ∧ (∀ b, 33 ≤ b → b ≤ 37 → ∀ k, k ≠ L → τ.1 b k = σ.1 b k) ∧ (∀ k, ¬ k ∈ F6 → τ.1 24 k = σ.1 24 k) ∧ (∀ j, j ≠ 0 → τ.2.1 j = σ.2.1 j) ∧ τ.2.2 = σ.2.2
theorem FrJ.rf (L : Nat) (σ : zS) : FrJ L σ σ := ⟨fun _ _ _ => rfl, fun _ _ _ _ _ => rfl, fun _ _ => rfl, fun _ _ => rfl, rfl⟩
theorem FrJ.tr {τ υ : zS} (h : FrJ L σ τ) (h' : FrJ L τ υ) : FrJ L σ υ := ⟨fun b x y => (h'.1 b x y).trans (h.1 b x y), fun b x y k z => (h'.2.1 b x y k z).trans (h.2.1 b x y k z), fun k z => (h'.2.2.1 k z).trans (h.2.2.1 k z), fun j z => (h'.2.2.2.1 j z).trans (h.2.2.2.1 j z), h'.2.2.2.2.trans h.2.2.2.2⟩
theorem FrJ.N {τ : zS} (h : FN [] F6 σ τ) : FrJ L σ τ := ⟨fun b x _ => h.1 b (by simp) x, fun b x y k _ => by rw [h.1 b (by simp) (by omega)], fun k z => h.2.1 k z, h.2.2.1, h.2.2.2⟩
theorem FrJ.wr {τ : zS} (h : FrJ L σ τ) {o : Nat} (h1 : 33 ≤ o) (h2 : o ≤ 37) (v : Int32) : FrJ L σ (zup τ o L v) := h.tr ⟨fun b x y => zpt_ne (by omega), fun b x y k z => by
  by_cases e : b = o
  · subst e; rw [zpt_at, pk_un z]
  · rw [zpt_ne e], fun k _ => by rw [zpt_ne (by omega)], fun _ _ => rfl, rfl⟩
theorem ErM.wr {o k : Nat} {v : Int32} (h : ErM σ c q) (ho : o ≠ 24) : ErM (zup σ o k v) c q := h.fr (by rw [zpt_ne ho.symm]) (by rw [zpt_ne ho.symm])
theorem e_136 (hE : ErM σ c q) (hF : FrJ L σ0 σ) (H : ∀ τ, FrJ L σ0 τ → ErM τ c q → K τ) : L_X7_readsNumbers_136 g l K X σ := b_X7_readsNumbers_136 (H σ hF hE)
theorem e_124 (hE : ErM σ c q) (hF : FrJ L σ0 σ) (H : ∀ τ, FrJ L σ0 τ → ErM τ c q → K τ) (v : Int32) : L_X7_readsNumbers_124 g l K X v σ :=
  b_X7_readsNumbers_124 ⟨fun _ => e_136 hE hF H, fun _ => s_mustSignE hE (e_136 hE hF H)⟩
theorem e_105 (hL : L < 60) (hE : ErM σ c q) (hF : FrJ L σ0 σ) (H : ∀ τ, FrJ L σ0 τ → ErM τ c q → K τ) (v : Int32) : L_X7_readsNumbers_105 g l K X (iI L) v σ := by
  refine b_X7_readsNumbers_105 ⟨fun _ => e_124 hE hF H v, fun _ => s_numberE hE (fun r => ⟨in60 hL (Nat.le_refl 60), fun σ3 e3 => ?_⟩)⟩
  rw [iI_tn (by omega) (by omega), Int.toNat_natCast] at e3
  rw [e3]
  exact e_124 (hE.wr (by decide)) (hF.wr (by decide) (by decide) _) H v
theorem e_90 (hL : L < 60) (hE : ErM σ c q) (hF : FrJ L σ0 σ) (H : ∀ τ, FrJ L σ0 τ → ErM τ c q → K τ) (v : Int32) : L_X7_readsNumbers_90 g l K X (iI L) v σ := by
  refine b_X7_readsNumbers_90 ⟨fun _ => e_105 hL hE hF H v, fun _ => b_X7_any (s_numberE hE (fun r => ⟨in60 hL (Nat.le_refl 60), fun σ3 e3 => ?_⟩))⟩
  rw [iI_tn (by omega) (by omega), Int.toNat_natCast] at e3
  rw [e3]
  exact e_105 hL (hE.wr (by decide)) (hF.wr (by decide) (by decide) _) H v
theorem e_75 (hL : L < 60) (hE : ErM σ c q) (hF : FrJ L σ0 σ) (H : ∀ τ, FrJ L σ0 τ → ErM τ c q → K τ) (v : Int32) : L_X7_readsNumbers_75 g l K X (iI L) v σ := by
  refine b_X7_readsNumbers_75 ⟨fun _ => e_90 hL hE hF H v, fun _ => b_X7_any (s_numberE hE (fun r => ⟨in60 hL (Nat.le_refl 60), fun σ3 e3 => ?_⟩))⟩
  rw [iI_tn (by omega) (by omega), Int.toNat_natCast] at e3
  rw [e3]
  exact e_90 hL (hE.wr (by decide)) (hF.wr (by decide) (by decide) _) H v
theorem e_65 (hL : L < 60) (hE : ErM σ c q) (hF : FrJ L σ0 σ) (H : ∀ τ, FrJ L σ0 τ → ErM τ c q → K τ) (v : Int32) : L_X7_readsNumbers_65 g l K X (iI L) v σ := by
  refine b_X7_readsNumbers_65 (b_X7_any (s_numberE hE (fun r => ⟨in60 hL (Nat.le_refl 60), fun σ3 e3 => ?_⟩)))
  rw [iI_tn (by omega) (by omega), Int.toNat_natCast] at e3
  rw [e3]
  exact e_75 hL (hE.wr (by decide)) (hF.wr (by decide) (by decide) _) H v
theorem e_51 (hL : L < 60) (hE : ErM σ c q) (hF : FrJ L σ0 σ) (H : ∀ τ, FrJ L σ0 τ → ErM τ c q → K τ) (v : Int32) : L_X7_readsNumbers_51 g l K X (iI L) v σ :=
  b_X7_readsNumbers_51 ⟨fun _ => e_65 hL hE hF H v, fun _ => ⟨fun _ => e_65 hL hE hF H v, fun _ => ⟨fun _ => e_75 hL hE hF H v, fun _ => e_65 hL hE hF H v⟩⟩⟩
theorem e_41 (hL : L < 60) (hE : ErM σ c q) (hF : FrJ L σ0 σ) (H : ∀ τ, FrJ L σ0 τ → ErM τ c q → K τ) (v : Int32) : L_X7_readsNumbers_41 g l K X (iI L) v σ := by
  refine b_X7_readsNumbers_41 (s_sideE hE (fun r => ⟨in60 hL (Nat.le_refl 60), fun σ3 e3 => ?_⟩))
  rw [iI_tn (by omega) (by omega), Int.toNat_natCast] at e3
  rw [e3]
  exact e_51 hL (hE.wr (by decide)) (hF.wr (by decide) (by decide) _) H v
theorem e_22 (hL : L < 60) (hE : ErM σ c q) (hF : FrJ L σ0 σ) (H : ∀ τ, FrJ L σ0 τ → ErM τ c q → K τ) (v : Int32) : L_X7_readsNumbers_22 g l K X (iI L) v σ :=
  b_X7_readsNumbers_22 ⟨fun _ => e_41 hL hE hF H v, fun _ => ⟨fun _ => e_41 hL hE hF H v, fun _ => ⟨fun _ => e_41 hL hE hF H v, fun _ => ⟨fun _ => e_51 hL hE hF H v, fun _ => e_41 hL hE hF H v⟩⟩⟩⟩
/-- a number that is read and kept -/
def NOk (σ0 : zS) (L : Nat) (f : Nat → Nat) (n : Nat) (o : Nat) (σ : zS) (C : zS → Prop) : Nat → Nat → Prop := fun v q => ∀ τ, FrJ L σ0 τ → SrM τ f n q → τ.1 o L = iI v → (∀ b, 33 ≤ b → b ≤ 37 → b ≠ o → τ.1 b L = σ.1 b L) → C τ
theorem s_keepN {C : zS → Prop} {o lo hi : Nat} (ho : 33 ≤ o ∧ o ≤ 37) (hL : L < 60) (hl : lo < 2000) (hh : hi < 2000) (hS : SrM σ f n p) (hF : FrJ L σ0 σ) (H : pNum f n p lo hi (fun c q => ∀ τ, FrJ L σ0 τ → ErM τ c q → C τ) (NOk σ0 L f n o σ C)) : CT g l M_X7_number 0 [.ref (zad g 24), .int (iI lo), .int (iI hi)] σ (zQi (fun v3 τ3 => (vp_in (iI L) 60 ∧ (∀ σ4 : zS, σ4 = zup τ3 o (Int32.toNatClampNeg (iI L)) v3 → C σ4))) X) := by
  refine s_number hS hl hh (pNum_m H (fun c q h τ fr e r => ⟨in60 hL (Nat.le_refl 60), fun σ4 e4 => ?_⟩) (fun v _ _ _ _ h τ fr S => ⟨in60 hL (Nat.le_refl 60), fun σ4 e4 => ?_⟩))
  · rw [iI_tn (by omega) (by omega), Int.toNat_natCast] at e4
    rw [e4]
    exact h _ ((hF.tr (FrJ.N fr)).wr ho.1 ho.2 _) (e.wr (by omega))
  · rw [iI_tn (by omega) (by omega), Int.toNat_natCast] at e4
    refine h σ4 ?_ ?_ ?_ (fun b h1 h2 h3 => ?_)
    · rw [e4]; exact (hF.tr (FrJ.N fr)).wr ho.1 ho.2 _
    · rw [e4]; exact S.pt (by omega) (by omega)
    · rw [e4, zpt_at, pk_us]
    · rw [e4, zpt_ne h3, fr.1 b (by simp) (by omega)]
theorem s_keepS {C : zS → Prop} (hL : L < 60) (hS : SrM σ f n p) (hF : FrJ L σ0 σ) (H : pSide f n p (fun c q => ∀ τ, FrJ L σ0 τ → ErM τ c q → C τ) (NOk σ0 L f n 34 σ C)) : CT g l M_X7_side 0 [.ref (zad g 24)] σ (zQi (fun v3 τ3 => (vp_in (iI L) 60 ∧ (∀ σ4 : zS, σ4 = zup τ3 34 (Int32.toNatClampNeg (iI L)) v3 → C σ4))) X) := by
  refine s_side hS (pSide_m H (fun c q h τ fr e r => ⟨in60 hL (Nat.le_refl 60), fun σ4 e4 => ?_⟩) (fun v _ _ h τ fr S => ⟨in60 hL (Nat.le_refl 60), fun σ4 e4 => ?_⟩))
  · rw [iI_tn (by omega) (by omega), Int.toNat_natCast] at e4
    rw [e4]
    exact h _ ((hF.tr (FrJ.N fr)).wr (by decide) (by decide) _) (e.wr (by decide))
  · rw [iI_tn (by omega) (by omega), Int.toNat_natCast] at e4
    refine h σ4 ?_ ?_ ?_ (fun b h1 h2 h3 => ?_)
    · rw [e4]; exact (hF.tr (FrJ.N fr)).wr (by decide) (by decide) _
    · rw [e4]; exact S.pt (by decide) (by decide)
    · rw [e4, zpt_at, pk_us]
    · rw [e4, zpt_ne h3, fr.1 b (by simp) (by omega)]
def NCe (K : zS → Prop) (σ0 : zS) (L : Nat) : Nat → Nat → Prop := fun c q => ∀ τ, FrJ L σ0 τ → ErM τ c q → K τ
theorem v_ne {k : Nat} (hv : v ≤ 8) (hk : k ≤ 100) : iI (v : Int) = iI (k : Int) ↔ v = k := by
  rw [iI_eq (by omega) (by omega) (by omega) (by omega)]; omega
/-- what every command but "repeat" has behind its word -/
theorem s_nums (hv : v ≤ 6) (hL : L < 60) (hS : SrM σ f n p) (H : pArg f n p v (NCe K σ L) (fun s x y z w p' => ∀ τ, FrJ L σ τ → SrM τ f n p' → (v = 0 ∨ v = 1 ∨ v = 4 ∨ v = 5 → τ.1 34 L = iI s) → (v ≠ 0 → τ.1 33 L = iI x) → (v = 0 → τ.1 35 L = iI x) → (v = 1 ∨ v = 5 → τ.1 35 L = iI y) → (v = 5 → τ.1 36 L = iI z ∧ τ.1 37 L = iI w) → K τ)) : CT g l M_X7_readsNumbers 0 [.ref (zad g 24), .int (iI L), .int (iI v)] σ (zQv K X) := by
  unfold pArg at H
  have fin : ∀ τ, K τ → L_X7_readsNumbers_105 g l K X (iI L) (iI v) τ := fun τ k => by
    refine b_X7_readsNumbers_105 ⟨fun _ => b_X7_readsNumbers_124 ⟨fun _ => b_X7_readsNumbers_136 k, fun h => ?_⟩, fun h => ?_⟩
    · have := (v_ne (k := 7) (by omega) (by decide)).mp h; omega
    · have := (v_ne (k := 7) (by omega) (by decide)).mp h; omega
  refine b_X7_readsNumbers ?_
  rw [iI_L (by omega) (by omega), show (1 : Int64) = iL 1 from rfl, show (6 : Int64) = iL 6 from rfl]
  refine s_isIn (by omega) (by omega) (by omega) (by omega) (by omega) (by omega) ?_
  by_cases e0 : v = 0
  · subst e0
    rw [if_pos rfl] at H
    rw [bI_F (by omega)]
    refine ⟨fun _ => b_X7_readsNumbers_22 ⟨fun _ => b_X7_readsNumbers_41 (s_keepS hL hS (FrJ.rf _ _) (pSide_m H (fun c q h τ fr e => e_51 hL e fr h _) (fun s _ _ h τ1 f1 S1 a1 b1 => ?_))), fun k => absurd rfl k⟩, fun k => absurd rfl k⟩
    refine b_X7_readsNumbers_51 ⟨fun _ => b_X7_readsNumbers_65 (b_X7_any (s_keepN (o := 35) (lo := 0) (hi := 999) (by decide) hL (by decide) (by decide) S1 f1 (pNum_m h (fun c q h τ fr e => e_75 hL e fr h _) (fun x _ _ _ _ h τ2 f2 S2 a2 b2 => ?_)))), fun k => absurd rfl k⟩
    refine b_X7_readsNumbers_75 ⟨fun _ => b_X7_readsNumbers_90 ⟨fun _ => fin τ2 (h τ2 f2 S2 (fun _ => ?_) (fun k => absurd rfl k) (fun _ => a2) (fun k => by omega) (fun k => by omega)), fun k => absurd k (by decide)⟩, fun k => absurd k (by decide)⟩
    rw [b2 34 (by decide) (by decide) (by decide)]; exact a1
  · rw [if_neg e0] at H
    rw [bI_T (by omega)]
    refine ⟨fun k => absurd k (by decide), fun _ => b_X7_any ?_⟩
    have n0 : ¬ iI (v : Int) = 0 := fun k => e0 ((v_ne (k := 0) (by omega) (by decide)).mp k)
    by_cases e1 : v = 1
    · subst e1
      rw [if_pos rfl] at H
      refine s_keepN (o := 33) (lo := 0) (hi := 999) (by decide) hL (by decide) (by decide) hS (FrJ.rf _ _) (pNum_m H (fun c q h τ fr e => e_22 hL e fr h _) (fun x _ _ _ _ h τ1 f1 S1 a1 b1 => ?_))
      refine b_X7_readsNumbers_22 ⟨fun k => absurd k (by decide), fun _ => ⟨fun _ => b_X7_readsNumbers_41 (s_keepS hL S1 f1 (pSide_m h (fun c q h τ fr e => e_51 hL e fr h _) (fun s _ _ h τ2 f2 S2 a2 b2 => ?_))), fun k => absurd rfl k⟩⟩
      refine b_X7_readsNumbers_51 ⟨fun k => absurd k (by decide), fun _ => ⟨fun _ => b_X7_readsNumbers_65 (b_X7_any (s_keepN (o := 35) (lo := 0) (hi := 999) (by decide) hL (by decide) (by decide) S2 f2 (pNum_m h (fun c q h τ fr e => e_75 hL e fr h _) (fun y _ _ _ _ h τ3 f3 S3 a3 b3 => ?_)))), fun k => absurd rfl k⟩⟩
      refine b_X7_readsNumbers_75 ⟨fun _ => b_X7_readsNumbers_90 ⟨fun _ => fin τ3 (h τ3 f3 S3 (fun _ => ?_) (fun _ => ?_) (fun k => by omega) (fun _ => a3) (fun k => by omega)), fun k => absurd k (by decide)⟩, fun k => absurd k (by decide)⟩
      · rw [b3 34 (by decide) (by decide) (by decide)]; exact a2
      · rw [b3 33 (by decide) (by decide) (by decide), b2 33 (by decide) (by decide) (by decide)]; exact a1
    · rw [if_neg e1] at H
      have n1 : ¬ iI (v : Int) = 1 := fun k => e1 ((v_ne (k := 1) (by omega) (by decide)).mp k)
      by_cases e4 : v = 4
      · subst e4
        rw [if_pos rfl] at H
        refine s_keepN (o := 33) (lo := 0) (hi := 999) (by decide) hL (by decide) (by decide) hS (FrJ.rf _ _) (pNum_m H (fun c q h τ fr e => e_22 hL e fr h _) (fun x _ _ _ _ h τ1 f1 S1 a1 b1 => ?_))
        refine b_X7_readsNumbers_22 ⟨fun k => absurd k (by decide), fun _ => ⟨fun k => absurd k (by decide), fun _ => ⟨fun _ => b_X7_readsNumbers_41 (s_keepS hL S1 f1 (pSide_m h (fun c q h τ fr e => e_51 hL e fr h _) (fun s _ _ h τ2 f2 S2 a2 b2 => ?_))), fun k => absurd rfl k⟩⟩⟩
        refine b_X7_readsNumbers_51 ⟨fun k => absurd k (by decide), fun _ => ⟨fun k => absurd k (by decide), fun _ => ⟨fun _ => ?_, fun k => absurd k (by decide)⟩⟩⟩
        refine b_X7_readsNumbers_75 ⟨fun _ => b_X7_readsNumbers_90 ⟨fun _ => fin τ2 (h τ2 f2 S2 (fun _ => a2) (fun _ => ?_) (fun k => by omega) (fun k => by omega) (fun k => by omega)), fun k => absurd k (by decide)⟩, fun k => absurd k (by decide)⟩
        rw [b2 33 (by decide) (by decide) (by decide)]; exact a1
      · rw [if_neg e4] at H
        have n4 : ¬ iI (v : Int) = 4 := fun k => e4 ((v_ne (k := 4) (by omega) (by decide)).mp k)
        by_cases e5 : v = 5
        · subst e5
          rw [if_pos rfl] at H
          refine s_keepN (o := 33) (lo := 0) (hi := 999) (by decide) hL (by decide) (by decide) hS (FrJ.rf _ _) (pNum_m H (fun c q h τ fr e => e_22 hL e fr h _) (fun x _ _ _ _ h τ1 f1 S1 a1 b1 => ?_))
          refine b_X7_readsNumbers_22 ⟨fun k => absurd k (by decide), fun _ => ⟨fun k => absurd k (by decide), fun _ => ⟨fun k => absurd k (by decide), fun _ => ⟨fun k => absurd rfl k, fun _ => b_X7_readsNumbers_41 (s_keepS hL S1 f1 (pSide_m h (fun c q h τ fr e => e_51 hL e fr h _) (fun s _ _ h τ2 f2 S2 a2 b2 => ?_)))⟩⟩⟩⟩
          refine b_X7_readsNumbers_51 ⟨fun k => absurd k (by decide), fun _ => ⟨fun k => absurd k (by decide), fun _ => ⟨fun k => absurd rfl k, fun _ => b_X7_readsNumbers_65 (b_X7_any (s_keepN (o := 35) (lo := 0) (hi := 999) (by decide) hL (by decide) (by decide) S2 f2 (pNum_m h (fun c q h τ fr e => e_75 hL e fr h _) (fun y _ _ _ _ h τ3 f3 S3 a3 b3 => ?_))))⟩⟩⟩
          refine b_X7_readsNumbers_75 ⟨fun k => absurd rfl k, fun _ => b_X7_any (s_keepN (o := 36) (lo := 0) (hi := 999) (by decide) hL (by decide) (by decide) S3 f3 (pNum_m h (fun c q h τ fr e => e_90 hL e fr h _) (fun z _ _ _ _ h τ4 f4 S4 a4 b4 => ?_)))⟩
          refine b_X7_readsNumbers_90 ⟨fun k => absurd rfl k, fun _ => b_X7_any (s_keepN (o := 37) (lo := 0) (hi := 999) (by decide) hL (by decide) (by decide) S4 f4 (pNum_m h (fun c q h τ fr e => e_105 hL e fr h _) (fun w _ _ _ _ h τ5 f5 S5 a5 b5 => fin τ5 (h τ5 f5 S5 (fun _ => ?_) (fun _ => ?_) (fun k => by omega) (fun _ => ?_) (fun _ => ⟨?_, a5⟩)))))⟩
          · rw [b5 34 (by decide) (by decide) (by decide), b4 34 (by decide) (by decide) (by decide), b3 34 (by decide) (by decide) (by decide)]; exact a2
          · rw [b5 33 (by decide) (by decide) (by decide), b4 33 (by decide) (by decide) (by decide), b3 33 (by decide) (by decide) (by decide), b2 33 (by decide) (by decide) (by decide)]; exact a1
          · rw [b5 35 (by decide) (by decide) (by decide), b4 35 (by decide) (by decide) (by decide)]; exact a3
          · rw [b5 36 (by decide) (by decide) (by decide)]; exact a4
        · rw [if_neg e5] at H
          have n5 : ¬ iI (v : Int) = 5 := fun k => e5 ((v_ne (k := 5) (by omega) (by decide)).mp k)
          refine s_keepN (o := 33) (lo := 0) (hi := 999) (by decide) hL (by decide) (by decide) hS (FrJ.rf _ _) (pNum_m H (fun c q h τ fr e => e_22 hL e fr h _) (fun x _ _ _ _ h τ1 f1 S1 a1 b1 => ?_))
          refine b_X7_readsNumbers_22 ⟨fun k => absurd k n0, fun _ => ⟨fun k => absurd k n1, fun _ => ⟨fun k => absurd k n4, fun _ => ⟨fun _ => ?_, fun k => absurd k n5⟩⟩⟩⟩
          refine b_X7_readsNumbers_51 ⟨fun k => absurd k n0, fun _ => ⟨fun k => absurd k n1, fun _ => ⟨fun _ => ?_, fun k => absurd k n5⟩⟩⟩
          exact b_X7_readsNumbers_75 ⟨fun _ => b_X7_readsNumbers_90 ⟨fun _ => fin τ1 (h τ1 f1 S1 (fun k => by omega) (fun _ => a1) (fun k => absurd k e0) (fun k => by omega) (fun k => by omega)), fun k => absurd k n5⟩, fun k => absurd k n5⟩
/-- "repeat": how often, and the sign -/
theorem s_numsR (hL : L < 60) (hS : SrM σ f n p) (H : pNum f n p 1 20 (NCe K σ L) (fun t p1 => pSign f n p1 40 (NCe K σ L) (fun p2 => ∀ τ, FrJ L σ τ → SrM τ f n p2 → τ.1 33 L = iI t → K τ))) : CT g l M_X7_readsNumbers 0 [.ref (zad g 24), .int (iI L), .int (iI 7)] σ (zQv K X) := by
  refine b_X7_readsNumbers ?_
  rw [iI_L (by omega) (by omega), show (1 : Int64) = iL 1 from rfl, show (6 : Int64) = iL 6 from rfl]
  refine s_isIn (by omega) (by omega) (by omega) (by omega) (by omega) (by omega) ?_
  rw [bI_F (by omega)]
  refine ⟨fun _ => b_X7_readsNumbers_22 ⟨fun k => absurd k (by decide), fun _ => ⟨fun k => absurd k (by decide), fun _ => ⟨fun k => absurd k (by decide), fun _ => ⟨fun _ => ?_, fun k => absurd k (by decide)⟩⟩⟩⟩, fun k => absurd rfl k⟩
  refine b_X7_readsNumbers_51 ⟨fun k => absurd k (by decide), fun _ => ⟨fun k => absurd k (by decide), fun _ => ⟨fun _ => ?_, fun k => absurd k (by decide)⟩⟩⟩
  refine b_X7_readsNumbers_75 ⟨fun _ => b_X7_readsNumbers_90 ⟨fun _ => ?_, fun k => absurd k (by decide)⟩, fun k => absurd k (by decide)⟩
  refine b_X7_readsNumbers_105 ⟨fun k => absurd rfl k, fun _ => s_keepN (o := 33) (lo := 1) (hi := 20) (by decide) hL (by decide) (by decide) hS (FrJ.rf _ _) (pNum_m H (fun c q h τ fr e => e_124 e fr h _) (fun t _ _ _ _ h τ1 f1 S1 a1 b1 => ?_))⟩
  refine b_X7_readsNumbers_124 ⟨fun k => absurd rfl k, fun _ => s_mustSign S1 (s := 40) (by unfold isG; omega) (pSign_m h (fun c q h τ fr e => b_X7_readsNumbers_136 (h τ (f1.tr (FrJ.N fr)) e)) (fun _ h τ fr S => b_X7_readsNumbers_136 (h τ (f1.tr (FrJ.N fr)) S ?_)))⟩
  rw [fr.1 33 (by simp) (by decide)]; exact a1
end ZMN
