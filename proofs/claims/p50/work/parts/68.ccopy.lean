/-! the class: a blind copied, what is kept, changes of a blind -/
section ZCC
variable {g : zG} {l : Launch} {X : String → zS → Prop} {m : Nat → Int32} {σ : zS}
def Nb (σ : zS) (o : Nat) (m : Nat → Int32) : Prop := R0 σ o m ∧ RT σ (o + 3) m
/-- only the objects that p tells have other ints -/
def FrP (p : Nat → Prop) (σ τ : zS) : Prop := (∀ b, ¬ p b → τ.1 b = σ.1 b) ∧ τ.2 = σ.2
theorem FrP.rf (p : Nat → Prop) (σ : zS) : FrP p σ σ := ⟨fun _ _ => rfl, rfl⟩
theorem FrP.tr {p : Nat → Prop} {σ τ υ : zS} (h : FrP p σ τ) (h' : FrP p τ υ) : FrP p σ υ := ⟨fun b hb => (h'.1 b hb).trans (h.1 b hb), h'.2.trans h.2⟩
theorem FrP.up {p : Nat → Prop} {σ τ : zS} (h : FrP p σ τ) {o : Nat} (ho : p o) (f : Nat → Int32) : FrP p σ (zpt τ o f) := ⟨fun b hb => (zpt_ne (a := b) (o := o) (fun e => hb (e.symm ▸ ho))).trans (h.1 b hb), h.2⟩
theorem FrP.sub {p q : Nat → Prop} {σ τ : zS} (h : FrP p σ τ) (hs : ∀ b, p b → q b) : FrP q σ τ := ⟨fun b hb => h.1 b (fun x => hb (hs b x)), h.2⟩
theorem FrL.P {L : List Nat} {p : Nat → Prop} {σ τ : zS} (h : FrL L σ τ) (hs : ∀ b, b ∈ L → p b) : FrP p σ τ := ⟨fun b hb => h.1 b (fun x => hb (hs b x)), h.2⟩
/-- a blind's ints as another one's were -/
def Cp (σ : zS) (o2 : Nat) (τ : zS) (o : Nat) : Prop := (∀ k, k < 7 → τ.1 o k = σ.1 o2 k) ∧ (∀ j, 1 ≤ j → j ≤ 5 → ∀ k, k < 10 → τ.1 (o + j) k = σ.1 (o2 + j) k) ∧ (∀ j, 6 ≤ j → j ≤ 9 → ∀ k, k < 60 → τ.1 (o + j) k = σ.1 (o2 + j) k)
def CpF (σ : zS) (o2 : Nat) (τ : zS) (o i : Nat) : Prop := (∀ k, k < i → τ.1 o k = σ.1 o2 k) ∧ (∀ b, b ≠ o → τ.1 b = σ.1 b) ∧ τ.2 = σ.2
def CpA (σ : zS) (o2 : Nat) (τ : zS) (o i : Nat) : Prop := (∀ k, k < 7 → τ.1 o k = σ.1 o2 k) ∧ (∀ j, 1 ≤ j → j ≤ i → ∀ k, k < (if j ≤ 5 then 10 else 60) → τ.1 (o + j) k = σ.1 (o2 + j) k) ∧ (∀ b, (b < o ∨ o + i < b) → τ.1 b = σ.1 b) ∧ τ.2 = σ.2
theorem CpF.st {o2 o i : Nat} {τ υ : zS} (hne : o2 ≠ o) (h : CpF σ o2 τ o i) (e : υ = zup τ o i (τ.1 o2 i)) : CpF σ o2 υ o (i + 1) := by
  subst e
  refine ⟨fun k hk => ?_, fun b hb => (zpt_ne hb).trans (h.2.1 b hb), h.2.2⟩
  rw [zpt_at]
  by_cases q : k = i
  · subst q; rw [pk_us, h.2.1 o2 hne]
  · rw [pk_un q]; exact h.1 k (by omega)
theorem CpA.of {o2 o : Nat} {τ : zS} (h : CpF σ o2 τ o 7) : CpA σ o2 τ o 0 := ⟨h.1, fun j h1 h2 => by omega, fun b hb => h.2.1 b (by omega), h.2.2⟩
theorem cpy0 {f h : Nat → Int32} {n : Nat} (k : Nat) : va_cpy f h (Int32.toNatClampNeg 0) (Int32.toNatClampNeg 0) n k = if k < n then f k else h k := by
  unfold va_cpy
  rw [show Int32.toNatClampNeg 0 = 0 from rfl]
  by_cases e : k < n
  · rw [if_pos (by omega), if_pos e, show 0 + (k - 0) = k by omega]
  · rw [if_neg (by omega), if_neg e]
theorem CpA.st {o2 o i n : Nat} {τ υ : zS} (hd : o + 10 ≤ o2 ∨ o2 + 10 ≤ o) (hi : i < 9) (hn : n = if i + 1 ≤ 5 then 10 else 60) (h : CpA σ o2 τ o i) (e : υ = zpt τ (o + (i + 1)) (va_cpy (τ.1 (o2 + (i + 1))) (τ.1 (o + (i + 1))) (Int32.toNatClampNeg 0) (Int32.toNatClampNeg 0) n)) : CpA σ o2 υ o (i + 1) := by
  subst e
  refine ⟨fun k hk => ?_, fun j h1 h2 k hk => ?_, fun b hb => ?_, h.2.2.2⟩
  · rw [zpt_ne (by omega)]; exact h.1 k hk
  · by_cases q : j = i + 1
    · subst q
      rw [zpt_at, cpy0, if_pos (by omega), h.2.2.1 _ (by omega)]
    · rw [zpt_ne (by omega)]; exact h.2.1 j h1 (by omega) k hk
  · rw [zpt_ne (by omega)]; exact h.2.2.1 b (by omega)
theorem c_copyFrom {K : zS → Prop} {o o2 : Nat} (hb : zB o) (hb2 : zB o2) (hd : o + 10 ≤ o2 ∨ o2 + 10 ≤ o) (H : ∀ τ, FrP (fun b => o ≤ b ∧ b < o + 10) σ τ → Cp σ o2 τ o → K τ) : CT g l M_X0_copyFrom 0 [.ref (zad g o), .ref (zad g o2)] σ (zQv K X) := by
  refine b_X0_copyFrom hb hb2 ?_
  have p0 : CpF σ o2 σ o 0 := ⟨fun k hk => absurd hk (Nat.not_lt_zero k), fun _ _ => rfl, rfl⟩
  intro s1 e1
  have p1 := p0.st (by omega) e1
  intro s2 e2
  have p2 := p1.st (by omega) e2
  intro s3 e3
  have p3 := p2.st (by omega) e3
  intro s4 e4
  have p4 := p3.st (by omega) e4
  intro s5 e5
  have p5 := p4.st (by omega) e5
  intro s6 e6
  have p6 := p5.st (by omega) e6
  intro s7 e7
  have p7 := p6.st (by omega) e7
  have q0 := CpA.of p7
  intro t1 d1
  have q1 := q0.st (n := 10) hd (by decide) (by decide) d1
  intro t2 d2
  have q2 := q1.st (n := 10) hd (by decide) (by decide) d2
  intro t3 d3
  have q3 := q2.st (n := 10) hd (by decide) (by decide) d3
  intro t4 d4
  have q4 := q3.st (n := 10) hd (by decide) (by decide) d4
  intro t5 d5
  have q5 := q4.st (n := 10) hd (by decide) (by decide) d5
  intro t6 d6
  have q6 := q5.st (n := 60) hd (by decide) (by decide) d6
  intro t7 d7
  have q7 := q6.st (n := 60) hd (by decide) (by decide) d7
  intro t8 d8
  have q8 := q7.st (n := 60) hd (by decide) (by decide) d8
  intro t9 d9
  have q9 := q8.st (n := 60) hd (by decide) (by decide) d9
  refine H _ ⟨fun b hb => q9.2.2.1 b (by omega), q9.2.2.2⟩ ⟨q9.1, fun j h1 h2 k hk => q9.2.1 j h1 (by omega) k (by rw [if_pos h2]; exact hk), fun j h1 h2 k hk => q9.2.1 j (by omega) h2 k (by rw [if_neg (by omega)]; exact hk)⟩
theorem Cp.Nb {o o2 : Nat} {τ : zS} (h : Cp σ o2 τ o) (hw : WF m) (hN : Nb σ o2 m) : Nb τ o m := by
  have hb := wf_b hw
  have hcl := cols_le hw
  obtain ⟨⟨r0, r1, r2, r3, r4, r5, r6, r7, r8⟩, rt⟩ := hN
  refine ⟨⟨(h.1 0 (by decide)).trans r0, (h.1 1 (by decide)).trans r1, (h.1 2 (by decide)).trans r2, (h.1 3 (by decide)).trans r3, (h.1 4 (by decide)).trans r4, (h.1 5 (by decide)).trans r5, fun k hk => by rw [h.1 6 (by decide)]; exact r6 k hk, fun k hk => ?_, fun c hc s hs => ?_⟩, fun k hk => ?_⟩
  · obtain ⟨a, b, c⟩ := r7 k hk
    refine ⟨(h.2.1 1 (by decide) (by decide) k (by omega)).trans a, (h.2.1 2 (by decide) (by decide) k (by omega)).trans b, fun s hs => ?_⟩
    rw [show o + 4 + s = o + (4 + s) by omega, h.2.1 (4 + s) (by omega) (by omega) k (by omega), show o2 + (4 + s) = o2 + 4 + s by omega]
    exact c s hs
  · obtain ⟨a, b⟩ := r8 c hc s hs
    rw [show o + 6 + s = o + (6 + s) by omega, show o + 8 + s = o + (8 + s) by omega, h.2.2 (6 + s) (by omega) (by omega) c (by omega), h.2.2 (8 + s) (by omega) (by omega) c (by omega), show o2 + (6 + s) = o2 + 6 + s by omega, show o2 + (8 + s) = o2 + 8 + s by omega]
    exact ⟨a, b⟩
  · rw [h.2.1 3 (by decide) (by decide) k (by omega)]; exact rt k hk
theorem Nb.fr {o : Nat} {τ : zS} (h : Nb σ o m) (hf : ∀ b, o ≤ b → b < o + 10 → τ.1 b = σ.1 b) : Nb τ o m :=
  ⟨h.1.fr (fun j hj => hf (o + j) (by omega) (by omega)), fun k hk => by rw [hf (o + 3) (by omega) (by omega)]; exact h.2 k hk⟩
def HsC (σ : zS) (u : Nat) (h : Nat → Nat → Int32) : Prop := ∃ nx : Nat, nx < 6 ∧ u ≤ 6 ∧ σ.1 16 1 = iI u ∧ σ.1 16 2 = iI nx ∧ ∀ i, i < u → Nb σ (103 + 10 * ((nx + 5 - i) % 6)) (h i)
theorem HsC.fr {u : Nat} {h : Nat → Nat → Int32} {τ : zS} (H : HsC σ u h) (h1 : τ.1 16 = σ.1 16) (h2 : ∀ b, 103 ≤ b → b < 163 → τ.1 b = σ.1 b) : HsC τ u h := by
  obtain ⟨nx, a, b, c, d, e⟩ := H
  exact ⟨nx, a, b, by rw [h1]; exact c, by rw [h1]; exact d, fun i hi => (e i hi).fr (fun b h3 h4 => h2 b (by omega) (by omega))⟩
theorem zB_kept {i : Nat} (hi : i < 6) : zB (103 + 10 * i) := by
  have := zB_at (b := i + 3) (by omega)
  rw [show 73 + 10 * (i + 3) = 103 + 10 * i by omega] at this
  exact this
theorem Nw_Nb : Nw σ m ↔ Nb σ 73 m := Iff.rfl
/-- what a kept state may change -/
def pK (b : Nat) : Prop := b = 16 ∨ (103 ≤ b ∧ b < 163)
theorem c_keep {K : zS → Prop} {u : Nat} {h : Nat → Nat → Int32} (hH : HsC σ u h) (hN : Nw σ m) (hw : WF m) (hhw : ∀ i, i < u → WF (h i)) (H : ∀ τ, FrP pK σ τ → HsC τ (min 6 (u + 1)) (hpush m h) → K τ) : CT g l M_X1_keep 0 [.ref (zad g 16), .ref (zad g 73)] σ (zQv K X) := by
  obtain ⟨nx, hnx, hu, h1, h2, h3⟩ := hH
  refine b_X1_keep zB_73 ?_
  rw [h2, tnk hnx (by omega)]
  refine ⟨iI_in (by omega) (by omega) (by omega), c_copyFrom (zB_kept hnx) zB_73 (by omega) (fun τ hF hC => ?_)⟩
  have e16 : τ.1 16 = σ.1 16 := hF.1 16 (by omega)
  have er : (iI (nx : Int) + 1) - (iI (nx : Int) + 1) / 6 * 6 = iI (((nx + 1) % 6 : Nat) : Int) := by
    rw [show (1 : Int32) = iI 1 from rfl, show (6 : Int32) = iI 6 from rfl, iI_add, iI_rem (by omega) (by omega) (by omega) (by omega)]; congr 1
  rw [e16, h2, er]
  simp only [forall_eq]
  have em : zmin 6 ((zup τ 16 2 (iI (((nx + 1) % 6 : Nat) : Int))).1 16 1 + 1) = iI ((min 6 (u + 1) : Nat) : Int) := by
    rw [zpt_at, pk_un (by decide), e16, h1, show (1 : Int32) = iI 1 from rfl, show (6 : Int32) = iI 6 from rfl, iI_add, iI_min (by omega) (by omega) (by omega) (by omega)]
    congr 1; omega
  rw [em]
  have hF2 : FrP pK σ (zup (zup τ 16 2 (iI (((nx + 1) % 6 : Nat) : Int))) 16 1 (iI ((min 6 (u + 1) : Nat) : Int))) := FrP.up (FrP.up (hF.sub (q := pK) (fun b hb => Or.inr (by omega))) (Or.inl rfl) _) (Or.inl rfl) _
  refine H _ hF2 ⟨(nx + 1) % 6, by omega, by omega, ?_, ?_, fun i hi => ?_⟩
  · rw [zpt_at, pk_us]
  · rw [zpt_at, pk_un (by decide), zpt_at, pk_us]
  · have back : ∀ b, b ≠ 16 → (zup (zup τ 16 2 (iI (((nx + 1) % 6 : Nat) : Int))) 16 1 (iI ((min 6 (u + 1) : Nat) : Int))).1 b = τ.1 b := fun b hb => by rw [zpt_ne hb, zpt_ne hb]
    unfold hpush
    by_cases e0 : i = 0
    · subst e0
      rw [if_pos rfl, show ((nx + 1) % 6 + 5 - 0) % 6 = nx by omega]
      exact (hC.Nb hw hN).fr (fun b h4 h5 => back b (by omega))
    · rw [if_neg e0, show ((nx + 1) % 6 + 5 - i) % 6 = (nx + 5 - (i - 1)) % 6 by omega]
      exact (h3 (i - 1) (by omega)).fr (fun b h4 h5 => (back b (by omega)).trans (hF.1 b (by omega)))
/-- what a state taken back may change -/
def pU (b : Nat) : Prop := b = 16 ∨ (73 ≤ b ∧ b < 83)
theorem c_takeBack {K : Int32 → zS → Prop} {u : Nat} {h : Nat → Nat → Int32} (hH : HsC σ u h) (hhw : ∀ i, i < u → WF (h i)) (H0 : u = 0 → K (iI 0) σ) (H1 : 0 < u → ∀ τ, FrP pU σ τ → Nw τ (h 0) → HsC τ (u - 1) (fun i => h (i + 1)) → K (iI 1) τ) : CT g l M_X1_takeBack 0 [.ref (zad g 16), .ref (zad g 73)] σ (zQi K X) := by
  obtain ⟨nx, hnx, hu, h1, h2, h3⟩ := hH
  refine b_X1_takeBack zB_73 ?_
  rw [h1, h2]
  have er : ((iI (nx : Int) + 6) - 1) - ((iI (nx : Int) + 6) - 1) / 6 * 6 = iI (((nx + 5) % 6 : Nat) : Int) := by
    rw [show (1 : Int32) = iI 1 from rfl, show (6 : Int32) = iI 6 from rfl, iI_add, iI_sub, iI_rem (by omega) (by omega) (by omega) (by omega)]; congr 1; omega
  rw [er]
  try simp (disch := omega) only [iI_add, iI_sub, iI_mul, iI_neg, iI_n, iI_lt, iI_le, iI_eq, iI_tn, iI_ti, bI_0, bI_1, iI_L, iL_0, Decidable.not_not, Int.toNat_natCast, zpt_at, zpt_ne, pk_us, pk_un, forall_eq, tn_0, tn_1, tn_2, tn_3, tn_4, tn_5, ni_1, ni_2, ni_3, ni_4, ni_5, not_false_eq_true, not_true_eq_false, true_implies, false_implies, and_true, true_and, iL_6, iL_m6, iL_7, iL_8, iL_9, iL_4, iL_m4, iL_m8, li_0, li_1, li_2, li_3, li_4, li_5, li_6, li_7, li_8, li_9, li_10, li_11, li_12, li_13, li_15, li_16, li_18, li_20, li_24, li_31, li_32, li_40, li_46, li_48, li_57, li_59, li_60, li_61, li_63, li_64, li_97, li_99, li_122, li_124, li_150, li_255, li_480, li_488, li_600, li_999, li_1110, li_54]
  refine ⟨fun e => ?_, fun e => H0 (by omega)⟩
  rw [h1]
  have e1 : iI (u : Int) - iI 1 = iI ((u - 1 : Nat) : Int) := by rw [iI_sub]; congr 1; omega
  rw [e1]
  have hF0 : FrP pU σ (zup (zup σ 16 2 (iI (((nx + 5) % 6 : Nat) : Int))) 16 1 (iI ((u - 1 : Nat) : Int))) := ((FrP.rf pU σ).up (Or.inl rfl) _).up (Or.inl rfl) _
  have back : ∀ b, b ≠ 16 → (zup (zup σ 16 2 (iI (((nx + 5) % 6 : Nat) : Int))) 16 1 (iI ((u - 1 : Nat) : Int))).1 b = σ.1 b := fun b hb => by rw [zpt_ne hb, zpt_ne hb]
  refine ⟨iI_in (by omega) (by omega) (by omega), c_copyFrom zB_73 (zB_kept (Nat.mod_lt _ (by decide))) (by omega) (fun τ hF hC => ?_)⟩
  refine H1 (by omega) τ (hF0.tr (hF.sub (fun b hb => Or.inr hb))) (hC.Nb (hhw 0 (by omega)) ((h3 0 (by omega)).fr (fun b h4 h5 => back b (by omega)))) ⟨(nx + 5) % 6, by omega, by omega, ?_, ?_, fun i hi => ?_⟩
  · rw [hF.1 16 (by omega), zpt_at, pk_us]
  · rw [hF.1 16 (by omega), zpt_at, pk_un (by decide), zpt_at, pk_us]
  · rw [show ((nx + 5) % 6 + 5 - i) % 6 = (nx + 5 - (i + 1)) % 6 by omega]
    exact (h3 (i + 1) (by omega)).fr (fun b h4 h5 => (hF.1 b (by omega)).trans (back b (by omega)))
end ZCC

