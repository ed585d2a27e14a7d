/-! the class: a script read, command by command -/
section ZCSr
variable {g : zG} {l : Launch} {K : Int32 → zS → Prop} {X : String → zS → Prop} {σ A B : zS} {f : Nat → Nat} {n p : Nat} {P : Den} {st : List Fr} {k L : Nat}
def bsF : List Fr → Nat
  | [] => 0
  | (_, _, kq, _) :: _ => kq + 1
/-- the scripts that are open -/
def cSt (g : zG) (l : Launch) (A : zS) : List Fr → Nat → Prop
  | [], _ => True
  | (t, Q, kq, _) :: rest, k => kq < k ∧ t ≤ 20 ∧ A.1 11 kq = iI 7 ∧ A.1 (43 + kq) 0 = iI t ∧ A.1 15 rest.length = iI kq ∧ cP g l A Q (bsF rest) kq rest.length ∧ cSt g l A rest kq
theorem cSt_fr : ∀ {st : List Fr} {k : Nat}, cSt g l A st k → agC B A 0 k → (∀ i, i < st.length → B.1 15 i = A.1 15 i) → cSt g l B st k
  | [], _, _, _, _ => True.intro
  | (t, Q, kq, _) :: rest, k, h, hB, h15 => by
    obtain ⟨a, b, c, d, e, f', r⟩ := h
    obtain ⟨g1, g2, g3, g4⟩ := hB kq (Nat.zero_le _) a
    exact ⟨a, b, by rw [g1]; exact c, by rw [g4]; exact d, by rw [h15 _ (by show rest.length < rest.length + 1; omega)]; exact e, f'.fr (hB.sub (Nat.zero_le _) (by omega)), cSt_fr r (hB.sub (Nat.le_refl _) (by omega)) (fun i hi => h15 i (by show i < rest.length + 1; omega))⟩
theorem cSt_mono : ∀ {st : List Fr} {k k' : Nat}, cSt g l A st k → k ≤ k' → cSt g l A st k'
  | [], _, _, _, _ => True.intro
  | (t, Q, kq, _) :: rest, k, k', h, hk => ⟨Nat.lt_of_lt_of_le h.1 hk, h.2⟩
def CS (g : zG) (l : Launch) (σ : zS) (P : Den) (st : List Fr) (k : Nat) : Prop := σ.1 10 1 = iI k ∧ σ.1 10 7 = iI st.length ∧ k ≤ 30 ∧ st.length ≤ 2 ∧ cP g l σ P (bsF st) k st.length ∧ cSt g l σ st k
theorem CS_fr {τ : zS} (h : CS g l σ P st k) (e : ∀ b, 10 ≤ b → b < 73 → τ.1 b = σ.1 b) : CS g l τ P st k := by
  obtain ⟨a, b, c, d, h1, h2⟩ := h
  have ag : agC τ σ 0 k := fun i _ _ => ⟨by rw [e 11 (by decide) (by decide)], by rw [e 12 (by decide) (by decide)], by rw [e 14 (by decide) (by decide)], e (43 + i) (by omega) (by omega)⟩
  exact ⟨by rw [e 10 (by decide) (by decide)]; exact a, by rw [e 10 (by decide) (by decide)]; exact b, c, d, h1.fr (ag.sub (Nat.zero_le _) (Nat.le_refl _)), cSt_fr h2 ag (fun i _ => by rw [e 15 (by decide) (by decide)])⟩
def pSc (b : Nat) : Prop := b = 1 ∨ (10 ≤ b ∧ b ≤ 15) ∨ (43 ≤ b ∧ b < 73)
def CTs (g : zG) (l : Launch) (K : Int32 → zS → Prop) (σ : zS) (f : Nat → Nat) (n : Nat) : Nat → Den → List Fr → Nat → Nat → Prop := fun p P st k _ => ∀ τ, FrP pSc σ τ → SrC τ f n p → CS g l τ P st k → K (iI 1) τ
def CEs (K : Int32 → zS → Prop) (σ : zS) (n : Nat) : Nat → Nat → Prop := fun c q => ∀ τ, FrP pSc σ τ → τ.1 1 1 = iI n → ErC τ c q → K (iI 0) τ
theorem pE_Sc {τ : zS} (h : FrP pE σ τ) : FrP pSc σ τ := h.sub (fun b hb => Or.inl hb)
theorem frK_Sc {kk : Nat} {τ : zS} (hk : kk < 30) (h : FrK kk σ τ) : FrP pSc σ τ := ⟨fun b hb => h.1 b (fun e => hb (by unfold pSc; omega)) (fun e => hb (by unfold pSc; omega)) (fun e => hb (by unfold pSc; omega)), h.2.2⟩
theorem bsF_le {g : zG} {l : Launch} (h : cSt g l A st k) : bsF st ≤ k := by
  match st, h with
  | [], _ => exact Nat.zero_le _
  | (t, Q, kq, Lq) :: rest, h => exact h.1
/-- from the word of a command on -/
theorem c_cmdRest {v : Nat} (hv : v ≤ 7) (hS : SrC σ f n p) (hC : CS g l σ P st k) (hk : k < 30) (hst : v = 7 → st.length < 2)
    (H : if v = 7 then pNum f n (ztE f n p) 1 20 (CEs K σ n) (fun t p1 => pSign f n p1 40 (CEs K σ n) (fun p2 => CTs g l K σ f n p2 nilD ((t, P, k, L) :: st) (k + 1) (L + 1))) else pArg f n (ztE f n p) v (CEs K σ n) (fun s x y z w p1 => pSign f n p1 59 (CEs K σ n) (fun p2 => CTs g l K σ f n p2 (seqD P (eC v s x y z w)) st (k + 1) (L + 1)))) :
    CT g l M_X3_advance 0 [.ref (zad g 1)] σ (zQv (fun τ5 => (∀ σ6 : zS, σ6 = zup τ5 10 1 ((τ5.1 10 1) + 1) → (vp_in (τ5.1 10 1) 30 ∧ (∀ σ7 : zS, σ7 = zup σ6 11 (Int32.toNatClampNeg (τ5.1 10 1)) (iI v) → ((¬ iI (v : Int) = 7 → CT g l M_X2_partsOf 0 [.int (iI v)] σ7 (zQs g (fun v9 τ9 => v9 < 19 ∧ CT g l M_X2_readParts 0 [.ref (zad g 10), .int (τ5.1 10 1), .ref (g.2.2.2.2.1 v9)] τ9 (zQi (fun v10 τ10 => ((v10 = 0 → K 0 τ10) ∧ (¬ v10 = 0 → CT g l M_X3_takeSign 0 [.ref (zad g 1), .int 59] τ10 (zQi (fun v12 τ12 => ((v12 = 0 → K 0 τ12) ∧ (¬ v12 = 0 → K 1 τ12))) (fun E τ => X E τ))))) (fun E τ => X E τ))) (fun E τ => X E τ))) ∧ (iI (v : Int) = 7 → CT g l M_X2_openRepeat 0 [.ref (zad g 10), .int (τ5.1 10 1)] σ7 (zQi (fun v14 τ14 => (zbl v14 ∧ K v14 τ14)) (fun E τ => X E τ)))))))) (fun E τ => X E τ)) := by
  obtain ⟨c1, c7, ck, cst, cp, cs⟩ := id hC
  refine c_adv hS (fun τ5 f5 S5 => ?_)
  have o5 : ∀ b, b ≠ 1 → τ5.1 b = σ.1 b := fun b hb => f5.1 b hb
  rw [o5 10 (by decide), c1, show (1 : Int32) = iI 1 from rfl, iI_add, iI_tn (by omega) (by omega), Int.toNat_natCast]
  intro σ6 e6
  refine ⟨in30 hk, ?_⟩
  intro σ7 e7
  have o7 : ∀ b, b ≠ 1 → b ≠ 10 → b ≠ 11 → σ7.1 b = σ.1 b := fun b x y z => by rw [e7, zpt_ne z, e6, zpt_ne y, o5 b x]
  have a11 : σ7.1 11 = upd (σ.1 11) k (iI v) := by rw [e7, zpt_at, e6, zpt_ne (by decide), o5 11 (by decide)]
  have a10 : σ7.1 10 = upd (σ.1 10) 1 (iI (k + 1 : Nat)) := by rw [e7, zpt_ne (by decide), e6, zpt_at, o5 10 (by decide)]; rfl
  have S7 : SrC σ7 f n (ztE f n p) := S5.fr (by rw [e7, zpt_ne (by decide), e6, zpt_ne (by decide)]) (by rw [e7, zpt_ne (by decide), e6, zpt_ne (by decide)])
  have F7 : FrP pSc σ σ7 := by
    rw [e7, e6]
    exact (FrP.up (pE_Sc f5) (by unfold pSc; omega) _).up (by unfold pSc; omega) _
  have g7 : agC σ7 σ 0 k := fun i _ hi => ⟨by rw [a11, pk_un (by omega)], by rw [o7 12 (by decide) (by decide) (by decide)], by rw [o7 14 (by decide) (by decide) (by decide)], o7 _ (by omega) (by omega) (by omega)⟩
  have e15 : σ7.1 15 = σ.1 15 := o7 15 (by decide) (by decide) (by decide)
  have hbs := bsF_le cs
  rw [show (7 : Int32) = iI 7 from rfl, iI_eq (by omega) (by omega) (by omega) (by omega)]
  refine ⟨fun h7 => ?_, fun h7 => ?_⟩
  · rw [if_neg (by omega)] at H
    refine c_readParts (v := v) (kk := k) (by omega) hk S7 (pArg_m H (fun c q hE τ fr a e => ⟨fun _ => hE τ (F7.tr (frK_Sc hk fr)) a e, fun h => absurd rfl h⟩) (fun s x y z w p' _ hs hx hy hz hw hO τ fr S q1 q2 q3 q4 => ⟨fun h => absurd h (by decide), fun _ => ?_⟩))
    refine c_takeSign S (s := 59) (by decide) (pSign_m hO (fun c q hE υ f1 a e => ⟨fun _ => hE υ ((F7.tr (frK_Sc hk fr)).tr (pE_Sc f1)) a e, fun h => absurd rfl h⟩) (fun _ hO υ f1 S1 => ⟨fun h => absurd h (by decide), fun _ => hO υ ((F7.tr (frK_Sc hk fr)).tr (pE_Sc f1)) S1 (CS_fr ?_ (fun b h1 _ => f1.1 b (by unfold pE; omega)))⟩))
    have gt : agC τ σ 0 k := fun i _ hi => ⟨by rw [fr.1 11 (by decide) (by decide) (by omega)]; exact (g7 i (Nat.zero_le _) hi).1, by rw [fr.2.1 i (by omega)]; exact (g7 i (Nat.zero_le _) hi).2.1, by rw [fr.1 14 (by decide) (by decide) (by omega)]; exact (g7 i (Nat.zero_le _) hi).2.2.1, by rw [fr.1 (43 + i) (by omega) (by omega) (by omega)]; exact (g7 i (Nat.zero_le _) hi).2.2.2⟩
    have hcA : cA τ k v s x y z w := ⟨by rw [fr.1 11 (by decide) (by decide) (by omega), a11, pk_us], q1, q2, q3, q4⟩
    refine ⟨?_, ?_, by omega, cst, ?_, ?_⟩
    · rw [fr.1 10 (by decide) (by decide) (by omega), a10, pk_us]
    · rw [fr.1 10 (by decide) (by decide) (by omega), a10, pk_un (by decide)]; exact c7
    · exact cP_seq (cp.fr (gt.sub (Nat.zero_le _) (Nat.le_refl _))) (cP_cm hk (by omega) ⟨by omega, hs, hx, hy, hz, hw⟩ hcA)
    · exact cSt_mono (cSt_fr cs gt (fun i _ => by rw [fr.1 15 (by decide) (by decide) (by omega), e15])) (by omega)
  · rw [if_pos (by omega)] at H
    have hst2 := hst (by omega)
    refine b_X2_openRepeat (c_takeNumber S7 (lo := 1) (hi := 20) (by decide) (by decide) (pNum_m H (fun c q hE τ fr a e => ⟨fun _ => ⟨Or.inl rfl, hE τ (F7.tr (pE_Sc fr)) a e⟩, fun h => absurd rfl h⟩) (fun t _ t1 t2 _ hO τ fr S => ⟨fun h => absurd h (m1_ne (by omega)), fun _ => ?_⟩)))
    have o8 : ∀ b, b ≠ 1 → τ.1 b = σ7.1 b := fun b hb => fr.1 b hb
    have l7 : τ.1 10 7 = iI st.length := by rw [o8 10 (by decide), a10, pk_un (by decide)]; exact c7
    rw [l7, show (2 : Int32) = iI 2 from rfl, iI_lt (by omega) (by omega) (by omega) (by omega), iI_tn (by omega) (by omega), Int.toNat_natCast, show Int32.toNatClampNeg 0 = 0 from rfl]
    refine ⟨fun _ => ⟨in30 hk, ?_⟩, fun h => by omega⟩
    intro σ5 e5
    have l5 : σ5.1 10 7 = iI st.length := by rw [e5, zpt_ne (by omega), l7]
    rw [l5, iI_tn (by omega) (by omega), Int.toNat_natCast]
    refine ⟨iI_in (by omega) (by omega) (by omega), ?_⟩
    intro σ6' e6'
    have l6 : σ6'.1 10 7 = iI st.length := by rw [e6', zpt_ne (by decide), l5]
    rw [l6, show (1 : Int32) = iI 1 from rfl, iI_add]
    intro σ8 e8
    have o9 : ∀ b, b ≠ 1 → b ≠ 10 → b ≠ 15 → b ≠ 43 + k → σ8.1 b = σ7.1 b := fun b x y z w => by rw [e8, zpt_ne y, e6', zpt_ne z, e5, zpt_ne w, o8 b x]
    have S8 : SrC σ8 f n _ := S.fr (by rw [e8, zpt_ne (by decide), e6', zpt_ne (by decide), e5, zpt_ne (by omega)]) (by rw [e8, zpt_ne (by decide), e6', zpt_ne (by decide), e5, zpt_ne (by omega)])
    have F8 : FrP pSc σ σ8 := by
      rw [e8, e6', e5]
      exact (((F7.tr (pE_Sc fr)).up (by unfold pSc; omega) _).up (by unfold pSc; omega) _).up (by unfold pSc; omega) _
    have g8 : agC σ8 σ 0 k := fun i _ hi => ⟨by rw [o9 11 (by decide) (by decide) (by decide) (by omega)]; exact (g7 i (Nat.zero_le _) hi).1, by rw [o9 12 (by decide) (by decide) (by decide) (by omega)]; exact (g7 i (Nat.zero_le _) hi).2.1, by rw [o9 14 (by decide) (by decide) (by decide) (by omega)]; exact (g7 i (Nat.zero_le _) hi).2.2.1, by rw [o9 (43 + i) (by omega) (by omega) (by omega) (by omega)]; exact (g7 i (Nat.zero_le _) hi).2.2.2⟩
    have b15 : σ8.1 15 = upd (σ.1 15) st.length (iI k) := by rw [e8, zpt_ne (by decide), e6', zpt_at, e5, zpt_ne (by omega), o8 15 (by decide), e15]
    have hz : zbl (0 : Int32) := Or.inl rfl
    refine c_takeSign S8 (s := 40) (by decide) (pSign_m hO (fun c q hE υ f1 a e => ⟨Or.inl rfl, Or.inl rfl, hE υ (F8.tr (pE_Sc f1)) a e⟩) (fun _ hO υ f1 S1 => ⟨Or.inr rfl, Or.inr rfl, hO υ (F8.tr (pE_Sc f1)) S1 (CS_fr ?_ (fun b h1 _ => f1.1 b (by unfold pE; omega)))⟩))
    refine ⟨?_, ?_, by omega, ?_, ?_, ?_⟩
    · rw [e8, zpt_at, pk_un (by decide), e6', zpt_ne (by decide), e5, zpt_ne (by omega), o8 10 (by decide), a10, pk_us]
    · rw [e8, zpt_at, pk_us]; rfl
    · show st.length + 1 ≤ 2; omega
    · exact cP_nil _ _
    · refine ⟨by omega, t2, ?_, ?_, ?_, cp.fr (g8.sub (Nat.zero_le _) (Nat.le_refl _)), cSt_fr cs g8 (fun i hi => by rw [b15, pk_un (by omega)])⟩
      · rw [o9 11 (by decide) (by decide) (by decide) (by omega), a11, pk_us, show v = 7 by omega]; rfl
      · rw [e8, zpt_ne (by omega), e6', zpt_ne (by omega), e5, zpt_at, pk_us]
      · rw [b15, pk_us]
end ZCSr
