/-! the class: a script read, command by command -/
section ZCSr
variable {g : zG} {l : Launch} {K : Int32 → zS → Prop} {X : String → zS → Prop} {σ A B : zS} {f : Nat → Nat} {n p : Nat} {P : Den} {st : List Fr} {k L : Nat}
def bsF : List Fr → Nat
  | [] => 0
  | (_, _, kq, _) :: _ => kq + 1
/-- the scripts that are open -/
def cSt (g : zG) (l : Launch) (A : zS) : List Fr → Nat → Prop
  | [], _ => True
  | (t, Q, kq, _) :: rest, k => kq < k ∧ t ≤ 20 ∧ A.1 11 kq = iI 7 ∧ A.1 (43 + kq) 0 = iI t ∧ A.1 15 rest.length = iI kq ∧ cP g l A Q (bsF rest) kq rest.length ∧ cSt g l A rest kq
theorem cSt_fr : ∀ {st : List Fr} {k : Nat}, cSt g l A st k → agC B A 0 k → (∀ i, i < st.length → B.1 15 i = A.1 15 i) → cSt g l B st k
  | [], _, _, _, _ => True.intro
  | (t, Q, kq, _) :: rest, k, h, hB, h15 => by
    obtain ⟨a, b, c, d, e, f', r⟩ := h
    obtain ⟨g1, g2, g3, g4⟩ := hB kq (Nat.zero_le _) a
    exact ⟨a, b, by rw [g1]; exact c, by rw [g4]; exact d, by rw [h15 _ (by show rest.length < rest.length + 1; omega)]; exact e, f'.fr (hB.sub (Nat.zero_le _) (by omega)), cSt_fr r (hB.sub (Nat.le_refl _) (by omega)) (fun i hi => h15 i (by show i < rest.length + 1; omega))⟩
theorem cSt_mono : ∀ {st : List Fr} {k k' : Nat}, cSt g l A st k → k ≤ k' → cSt g l A st k'
  | [], _, _, _, _ => True.intro
  | (t, Q, kq, _) :: rest, k, k', h, hk => ⟨Nat.lt_of_lt_of_le h.1 hk, h.2⟩
def CS (g : zG) (l : Launch) (σ : zS) (P : Den) (st : List Fr) (k : Nat) : Prop := σ.1 10 1 = iI k ∧ σ.1 10 7 = iI st.length ∧ k ≤ 30 ∧ st.length ≤ 2 ∧ cP g l σ P (bsF st) k st.length ∧ cSt g l σ st k
theorem CS_fr {τ : zS} (h : CS g l σ P st k) (e : ∀ b, (10 ≤ b ∧ b ≤ 15) ∨ (43 ≤ b ∧ b < 73) → τ.1 b = σ.1 b) : CS g l τ P st k := by
  obtain ⟨a, b, c, d, h1, h2⟩ := h
  have ag : agC τ σ 0 k := fun i _ _ => ⟨by rw [e 11 (by omega)], by rw [e 12 (by omega)], by rw [e 14 (by omega)], e (43 + i) (by omega)⟩
  exact ⟨by rw [e 10 (by omega)]; exact a, by rw [e 10 (by omega)]; exact b, c, d, h1.fr (ag.sub (Nat.zero_le _) (Nat.le_refl _)), cSt_fr h2 ag (fun i _ => by rw [e 15 (by omega)])⟩
def pSc (b : Nat) : Prop := b = 1 ∨ (10 ≤ b ∧ b ≤ 15) ∨ (43 ≤ b ∧ b < 73)
def CTs (g : zG) (l : Launch) (K : Int32 → zS → Prop) (σ : zS) (f : Nat → Nat) (n : Nat) : Nat → Den → List Fr → Nat → Nat → Prop := fun p P st k _ => ∀ τ, FrP pSc σ τ → SrC τ f n p → CS g l τ P st k → K (iI 1) τ
def CEs (K : Int32 → zS → Prop) (σ : zS) (n : Nat) : Nat → Nat → Prop := fun c q => ∀ τ, FrP pSc σ τ → τ.1 1 1 = iI n → ErC τ c q → K (iI 0) τ
theorem pE_Sc {τ : zS} (h : FrP pE σ τ) : FrP pSc σ τ := h.sub (fun b hb => Or.inl hb)
theorem frK_Sc {kk : Nat} {τ : zS} (hk : kk < 30) (h : FrK kk σ τ) : FrP pSc σ τ := ⟨fun b hb => h.1 b (fun e => hb (by unfold pSc; omega)) (fun e => hb (by unfold pSc; omega)) (fun e => hb (by unfold pSc; omega)), h.2.2⟩
theorem bsF_le {g : zG} {l : Launch} (h : cSt g l A st k) : bsF st ≤ k := by
  match st, h with
  | [], _ => exact Nat.zero_le _
  | (t, Q, kq, Lq) :: rest, h => exact h.1
/-- from the word of a command on -/
theorem c_cmdRest {v : Nat} (hv : v ≤ 7) (hS : SrC σ f n p) (hC : CS g l σ P st k) (hk : k < 30) (hst : v = 7 → st.length < 2)
    (H : if v = 7 then pNum f n (ztE f n p) 1 20 (CEs K σ n) (fun t p1 => pSign f n p1 40 (CEs K σ n) (fun p2 => CTs g l K σ f n p2 nilD ((t, P, k, L) :: st) (k + 1) (L + 1))) else pArg f n (ztE f n p) v (CEs K σ n) (fun s x y z w p1 => pSign f n p1 59 (CEs K σ n) (fun p2 => CTs g l K σ f n p2 (seqD P (eC v s x y z w)) st (k + 1) (L + 1)))) :
    CT g l M_X3_advance 0 [.ref (zad g 1)] σ (zQv (fun τ5 => (∀ σ6 : zS, σ6 = zup τ5 10 1 ((τ5.1 10 1) + 1) → (vp_in (τ5.1 10 1) 30 ∧ (∀ σ7 : zS, σ7 = zup σ6 11 (Int32.toNatClampNeg (τ5.1 10 1)) (iI v) → ((¬ iI (v : Int) = 7 → CT g l M_X2_partsOf 0 [.int (iI v)] σ7 (zQs g (fun v9 τ9 => v9 < 19 ∧ CT g l M_X2_readParts 0 [.ref (zad g 10), .int (τ5.1 10 1), .ref (g.2.2.2.2.1 v9)] τ9 (zQi (fun v10 τ10 => ((v10 = 0 → K 0 τ10) ∧ (¬ v10 = 0 → CT g l M_X3_takeSign 0 [.ref (zad g 1), .int 59] τ10 (zQi (fun v12 τ12 => ((v12 = 0 → K 0 τ12) ∧ (¬ v12 = 0 → K 1 τ12))) (fun E τ => X E τ))))) (fun E τ => X E τ))) (fun E τ => X E τ))) ∧ (iI (v : Int) = 7 → CT g l M_X2_openRepeat 0 [.ref (zad g 10), .int (τ5.1 10 1)] σ7 (zQi (fun v14 τ14 => (zbl v14 ∧ K v14 τ14)) (fun E τ => X E τ)))))))) (fun E τ => X E τ)) := by
  obtain ⟨c1, c7, ck, cst, cp, cs⟩ := id hC
  refine c_adv hS (fun τ5 f5 S5 => ?_)
  have o5 : ∀ b, b ≠ 1 → τ5.1 b = σ.1 b := fun b hb => f5.1 b hb
  rw [o5 10 (by decide), c1, show (1 : Int32) = iI 1 from rfl, iI_add, iI_tn (by omega) (by omega), Int.toNat_natCast]
  intro σ6 e6
  refine ⟨in30 hk, ?_⟩
  intro σ7 e7
  have o7 : ∀ b, b ≠ 1 → b ≠ 10 → b ≠ 11 → σ7.1 b = σ.1 b := fun b x y z => by rw [e7, zpt_ne z, e6, zpt_ne y, o5 b x]
  have a11 : σ7.1 11 = upd (σ.1 11) k (iI v) := by rw [e7, zpt_at, e6, zpt_ne (by decide), o5 11 (by decide)]
  have a10 : σ7.1 10 = upd (σ.1 10) 1 (iI (k + 1 : Nat)) := by rw [e7, zpt_ne (by decide), e6, zpt_at, o5 10 (by decide)]; rfl
  have S7 : SrC σ7 f n (ztE f n p) := S5.fr (by rw [e7, zpt_ne (by decide), e6, zpt_ne (by decide)]) (by rw [e7, zpt_ne (by decide), e6, zpt_ne (by decide)])
  have F7 : FrP pSc σ σ7 := by
    rw [e7, e6]
    exact (FrP.up (pE_Sc f5) (by unfold pSc; omega) _).up (by unfold pSc; omega) _
  have g7 : agC σ7 σ 0 k := fun i _ hi => ⟨by rw [a11, pk_un (by omega)], by rw [o7 12 (by decide) (by decide) (by decide)], by rw [o7 14 (by decide) (by decide) (by decide)], o7 _ (by omega) (by omega) (by omega)⟩
  have e15 : σ7.1 15 = σ.1 15 := o7 15 (by decide) (by decide) (by decide)
  have hbs := bsF_le cs
  rw [show (7 : Int32) = iI 7 from rfl, iI_eq (by omega) (by omega) (by omega) (by omega)]
  refine ⟨fun h7 => ?_, fun h7 => ?_⟩
  · rw [if_neg (by omega)] at H
    refine c_readParts (v := v) (kk := k) (by omega) hk S7 (pArg_m H (fun c q hE τ fr a e => ⟨fun _ => hE τ (F7.tr (frK_Sc hk fr)) a e, fun h => absurd rfl h⟩) (fun s x y z w p' _ hs hx hy hz hw hO τ fr S q1 q2 q3 q4 => ⟨fun h => absurd h (by decide), fun _ => ?_⟩))
    refine c_takeSign S (s := 59) (by decide) (pSign_m hO (fun c q hE υ f1 a e => ⟨fun _ => hE υ ((F7.tr (frK_Sc hk fr)).tr (pE_Sc f1)) a e, fun h => absurd rfl h⟩) (fun _ hO υ f1 S1 => ⟨fun h => absurd h (by decide), fun _ => hO υ ((F7.tr (frK_Sc hk fr)).tr (pE_Sc f1)) S1 (CS_fr ?_ (fun b h1 => f1.1 b (by unfold pE; omega)))⟩))
    have gt : agC τ σ 0 k := fun i _ hi => ⟨by rw [fr.1 11 (by decide) (by decide) (by omega)]; exact (g7 i (Nat.zero_le _) hi).1, by rw [fr.2.1 i (by omega)]; exact (g7 i (Nat.zero_le _) hi).2.1, by rw [fr.1 14 (by decide) (by decide) (by omega)]; exact (g7 i (Nat.zero_le _) hi).2.2.1, by rw [fr.1 (43 + i) (by omega) (by omega) (by omega)]; exact (g7 i (Nat.zero_le _) hi).2.2.2⟩
    have hcA : cA τ k v s x y z w := ⟨by rw [fr.1 11 (by decide) (by decide) (by omega), a11, pk_us], q1, q2, q3, q4⟩
    refine ⟨?_, ?_, by omega, cst, ?_, ?_⟩
    · rw [fr.1 10 (by decide) (by decide) (by omega), a10, pk_us]
    · rw [fr.1 10 (by decide) (by decide) (by omega), a10, pk_un (by decide)]; exact c7
    · exact cP_seq (cp.fr (gt.sub (Nat.zero_le _) (Nat.le_refl _))) (cP_cm hk (by omega) ⟨by omega, hs, hx, hy, hz, hw⟩ hcA)
    · exact cSt_mono (cSt_fr cs gt (fun i _ => by rw [fr.1 15 (by decide) (by decide) (by omega), e15])) (by omega)
  · rw [if_pos (by omega)] at H
    have hst2 := hst (by omega)
    refine b_X2_openRepeat (c_takeNumber S7 (lo := 1) (hi := 20) (by decide) (by decide) (pNum_m H (fun c q hE τ fr a e => ⟨fun _ => ⟨Or.inl rfl, hE τ (F7.tr (pE_Sc fr)) a e⟩, fun h => absurd rfl h⟩) (fun t _ t1 t2 _ hO τ fr S => ⟨fun h => absurd h (m1_ne (by omega)), fun _ => ?_⟩)))
    have o8 : ∀ b, b ≠ 1 → τ.1 b = σ7.1 b := fun b hb => fr.1 b hb
    have l7 : τ.1 10 7 = iI st.length := by rw [o8 10 (by decide), a10, pk_un (by decide)]; exact c7
    rw [l7, show (2 : Int32) = iI 2 from rfl, iI_lt (by omega) (by omega) (by omega) (by omega), iI_tn (by omega) (by omega), Int.toNat_natCast, show Int32.toNatClampNeg 0 = 0 from rfl]
    refine ⟨fun _ => ⟨in30 hk, ?_⟩, fun h => by omega⟩
    intro σ5 e5
    have l5 : σ5.1 10 7 = iI st.length := by rw [e5, zpt_ne (by omega), l7]
    rw [l5, iI_tn (by omega) (by omega), Int.toNat_natCast]
    refine ⟨iI_in (by omega) (by omega) (by omega), ?_⟩
    intro σ6' e6'
    have l6 : σ6'.1 10 7 = iI st.length := by rw [e6', zpt_ne (by decide), l5]
    rw [l6, show (1 : Int32) = iI 1 from rfl, iI_add]
    intro σ8 e8
    have o9 : ∀ b, b ≠ 1 → b ≠ 10 → b ≠ 15 → b ≠ 43 + k → σ8.1 b = σ7.1 b := fun b x y z w => by rw [e8, zpt_ne y, e6', zpt_ne z, e5, zpt_ne w, o8 b x]
    have S8 : SrC σ8 f n _ := S.fr (by rw [e8, zpt_ne (by decide), e6', zpt_ne (by decide), e5, zpt_ne (by omega)]) (by rw [e8, zpt_ne (by decide), e6', zpt_ne (by decide), e5, zpt_ne (by omega)])
    have F8 : FrP pSc σ σ8 := by
      rw [e8, e6', e5]
      exact (((F7.tr (pE_Sc fr)).up (by unfold pSc; omega) _).up (by unfold pSc; omega) _).up (by unfold pSc; omega) _
    have g8 : agC σ8 σ 0 k := fun i _ hi => ⟨by rw [o9 11 (by decide) (by decide) (by decide) (by omega)]; exact (g7 i (Nat.zero_le _) hi).1, by rw [o9 12 (by decide) (by decide) (by decide) (by omega)]; exact (g7 i (Nat.zero_le _) hi).2.1, by rw [o9 14 (by decide) (by decide) (by decide) (by omega)]; exact (g7 i (Nat.zero_le _) hi).2.2.1, by rw [o9 (43 + i) (by omega) (by omega) (by omega) (by omega)]; exact (g7 i (Nat.zero_le _) hi).2.2.2⟩
    have b15 : σ8.1 15 = upd (σ.1 15) st.length (iI k) := by rw [e8, zpt_ne (by decide), e6', zpt_at, e5, zpt_ne (by omega), o8 15 (by decide), e15]
    have hz : zbl (0 : Int32) := Or.inl rfl
    refine c_takeSign S8 (s := 40) (by decide) (pSign_m hO (fun c q hE υ f1 a e => ⟨Or.inl rfl, Or.inl rfl, hE υ (F8.tr (pE_Sc f1)) a e⟩) (fun _ hO υ f1 S1 => ⟨Or.inr rfl, Or.inr rfl, hO υ (F8.tr (pE_Sc f1)) S1 (CS_fr ?_ (fun b h1 => f1.1 b (by unfold pE; omega)))⟩))
    refine ⟨?_, ?_, by omega, ?_, ?_, ?_⟩
    · rw [e8, zpt_at, pk_un (by decide), e6', zpt_ne (by decide), e5, zpt_ne (by omega), o8 10 (by decide), a10, pk_us]
    · rw [e8, zpt_at, pk_us]; rfl
    · show st.length + 1 ≤ 2; omega
    · exact cP_nil _ _
    · refine ⟨by omega, t2, ?_, ?_, ?_, cp.fr (g8.sub (Nat.zero_le _) (Nat.le_refl _)), cSt_fr cs g8 (fun i hi => by rw [b15, pk_un (by omega)])⟩
      · rw [o9 11 (by decide) (by decide) (by decide) (by omega), a11, pk_us, show v = 7 by omega]; rfl
      · rw [e8, zpt_ne (by omega), e6', zpt_ne (by omega), e5, zpt_at, pk_us]
      · rw [b15, pk_us]
theorem CEs_z {c q : Nat} (h : CEs K σ n c q) : CEs (fun v τ => zbl v ∧ K v τ) σ n c q := fun τ a b e => ⟨Or.inl rfl, h τ a b e⟩
theorem c_readCommand (hS : SrC σ f n p) (hC : CS g l σ P st k) (H : pCmd f n p P st k L (CEs K σ n) (CTs g l K σ f n)) : CT g l M_X2_readCommand 0 [.ref (zad g 10)] σ (zQi K X) := by
  obtain ⟨c1, c7, ck, cst, cp, cs⟩ := id hC
  unfold pCmd at H
  have hv8 := pV_b (f := f) (n := n) p
  refine b_X2_readCommand (c_verbHere hS (fun e8 => ?_) (fun e8 => ?_))
  · rw [if_pos e8] at H
    exact ⟨fun h => absurd rfl h, fun _ => c_fail hS (c := 1) (fun τ fr a e => ⟨Or.inl rfl, H τ (pE_Sc fr) a e⟩)⟩
  · rw [if_neg (by omega)] at H
    rw [c1, c7, show (2 : Int32) = iI 2 from rfl, iI_lt (by omega) (by omega) (by omega) (by omega), show (30 : Int32) = iI 30 from rfl, iI_lt (by omega) (by omega) (by omega) (by omega)]
    have y7 : iI (pV f n p : Int) = 7 → pV f n p = 7 := fun h => by
      rw [show (7 : Int32) = iI 7 from rfl, iI_eq (by omega) (by omega) (by omega) (by omega)] at h
      omega
    have n7 : ¬ iI (pV f n p : Int) = 7 → pV f n p ≠ 7 := fun h e => h (by rw [e]; rfl)
    have rest : k < 30 → (pV f n p = 7 → st.length < 2) → (if pV f n p = 7 then pNum f n (ztE f n p) 1 20 (CEs K σ n) (fun t p1 => pSign f n p1 40 (CEs K σ n) (fun p2 => CTs g l K σ f n p2 nilD ((t, P, k, L) :: st) (k + 1) (L + 1))) else pArg f n (ztE f n p) (pV f n p) (CEs K σ n) (fun s x y z w p1 => pSign f n p1 59 (CEs K σ n) (fun p2 => CTs g l K σ f n p2 (seqD P (eC (pV f n p) s x y z w)) st (k + 1) (L + 1)))) := fun hk hs => by
      rw [if_neg (fun h => by have := hs h.1; omega), if_neg (by omega)] at H
      exact H
    refine ⟨fun _ => ⟨fun h7 => ⟨fun hk => ?_, fun hk => ?_⟩, fun h7 => ⟨fun hd => ⟨fun hk => ?_, fun hk => ?_⟩, fun hd => ?_⟩⟩, fun h => absurd h (m1_ne (by omega))⟩
    · exact c_cmdRest (by omega) hS hC (by omega) (fun h => absurd h (n7 h7)) (rest (by omega) (fun h => absurd h (n7 h7)))
    · rw [if_neg (fun h => n7 h7 h.1), if_pos (by omega)] at H
      exact c_fail hS (c := 5) (fun τ fr a e => ⟨Or.inl rfl, H τ (pE_Sc fr) a e⟩)
    · exact c_cmdRest (by omega) hS hC (by omega) (fun h => by omega) (rest (by omega) (fun h => by omega))
    · rw [if_neg (fun h => by omega), if_pos (by omega)] at H
      exact c_fail hS (c := 5) (fun τ fr a e => ⟨Or.inl rfl, H τ (pE_Sc fr) a e⟩)
    · rw [if_pos ⟨y7 h7, by omega⟩] at H
      exact c_fail hS (c := 3) (fun τ fr a e => ⟨Or.inl rfl, H τ (pE_Sc fr) a e⟩)
theorem c_closeRepeat {t kq Lq : Nat} {Q : Den} {rest : List Fr} (hS : SrC σ f n p) (hC : CS g l σ P ((t, Q, kq, Lq) :: rest) k) (H : pSign f n (ztE f n p) 59 (CEs K σ n) (fun p2 => CTs g l K σ f n p2 (seqD Q (repD P t)) rest k (L + 1))) : CT g l M_X2_closeRepeat 0 [.ref (zad g 10)] σ (zQi K X) := by
  obtain ⟨c1, c7, ck, cst, cp, cs⟩ := hC
  obtain ⟨s1, s2, s3, s4, s5, s6, s7⟩ := cs
  have cst2 : rest.length + 1 ≤ 2 := cst
  have c72 : σ.1 10 7 = iI (rest.length + 1 : Nat) := c7
  have cp2 : cP g l σ P (kq + 1) k (rest.length + 1) := cp
  refine b_X2_closeRepeat (c_adv hS (fun τ1 f1 S1 => ?_))
  have o1 : ∀ b, b ≠ 1 → τ1.1 b = σ.1 b := fun b hb => f1.1 b hb
  rw [o1 10 (by decide), c72, show (1 : Int32) = iI 1 from rfl, iI_sub]
  intro σ2 e2
  have l2 : σ2.1 10 7 = iI rest.length := by rw [e2, zpt_at, pk_us]; congr 1; omega
  have l15 : σ2.1 15 rest.length = iI kq := by rw [e2, zpt_ne (by decide), o1 15 (by decide), s5]
  have l21 : σ2.1 10 1 = iI k := by rw [e2, zpt_at, pk_un (by decide), o1 10 (by decide), c1]
  rw [l2, iI_tn (by omega) (by omega), Int.toNat_natCast, l15, iI_tn (by omega) (by omega), Int.toNat_natCast, l21]
  refine ⟨iI_in (by omega) (by omega) (by omega), in30 (by omega), ?_⟩
  intro σ3 e3
  have o3 : ∀ b, b ≠ 1 → b ≠ 10 → b ≠ 14 → σ3.1 b = σ.1 b := fun b x y z => by rw [e3, zpt_ne z, e2, zpt_ne y, o1 b x]
  have a14 : σ3.1 14 = upd (σ.1 14) kq (iI k) := by rw [e3, zpt_at, e2, zpt_ne (by decide), o1 14 (by decide)]
  have S3 : SrC σ3 f n (ztE f n p) := S1.fr (by rw [e3, zpt_ne (by decide), e2, zpt_ne (by decide)]) (by rw [e3, zpt_ne (by decide), e2, zpt_ne (by decide)])
  have F3 : FrP pSc σ σ3 := by
    rw [e3, e2]
    exact (FrP.up (pE_Sc f1) (by unfold pSc; omega) _).up (by unfold pSc; omega) _
  have ag : ∀ i j, (kq < i ∨ j ≤ kq) → agC σ3 σ i j := fun i j h q h1 h2 => ⟨by rw [o3 11 (by decide) (by decide) (by decide)], by rw [o3 12 (by decide) (by decide) (by decide)], by rw [a14, pk_un (by omega)], o3 _ (by omega) (by omega) (by omega)⟩
  refine c_takeSign S3 (s := 59) (by decide) (pSign_m H (fun c q hE υ fr a e => ⟨Or.inl rfl, hE υ (F3.tr (pE_Sc fr)) a e⟩) (fun _ hO υ fr S4 => ⟨Or.inr rfl, hO υ (F3.tr (pE_Sc fr)) S4 (CS_fr ?_ (fun b h1 => fr.1 b (by unfold pE; omega)))⟩))
  refine ⟨?_, ?_, ck, by omega, ?_, ?_⟩
  · rw [e3, zpt_ne (by decide)]; exact l21
  · rw [e3, zpt_ne (by decide)]; exact l2
  · refine cP_seq (s6.fr (ag _ _ (Or.inr (Nat.le_refl _)))) (cP_rp (by omega) ck s2 (by omega) (cp2.fr (ag _ _ (Or.inl (by omega)))) ?_ ?_ ?_)
    · rw [o3 11 (by decide) (by decide) (by decide)]; exact s3
    · rw [o3 (43 + kq) (by omega) (by omega) (by omega)]; exact s4
    · rw [a14, pk_us]
  · exact cSt_mono (cSt_fr s7 (ag _ _ (Or.inr (Nat.le_refl _))) (fun i _ => by rw [o3 15 (by decide) (by decide) (by decide)])) (by omega)
/-- the loop over commands -/
theorem c_scr_19 {σ0 : zS} (u : Nat) (hu : u ≤ 600) (p : Nat) (P : Den) (st : List Fr) (k L : Nat) (hp : 2 * (600 - u) ≤ p) (hL : L + st.length ≤ 2 * k) (σ : zS) (hF : FrP pSc σ0 σ) (hS : SrC σ f n p) (hC : CS g l σ P st k)
    (H : pScr f n (fun c q => ∀ τ, FrP pSc σ0 τ → τ.1 1 1 = iI n → ErC τ c q → K (iI 0) τ) (fun P' k' _ => ∀ τ, FrP pSc σ0 τ → τ.1 1 1 = iI n → ErC τ 0 (-1) → CS g l τ P' [] k' → K (iI 1) τ) u p P st k L) : L_X2_read_19 g l K X (iI (600 - u : Nat)) σ := by
  have hn := hS.1.1
  have hpn := hS.2.1
  obtain ⟨c1, c7, ck, cst, cp, cs⟩ := id hC
  obtain ⟨u', rfl⟩ : ∃ u', u = u' + 1 := ⟨u - 1, by omega⟩
  unfold pScr at H
  refine b_X2_read_19 ?_
  rw [show (600 : Int32) = iI 600 from rfl, iI_le (by omega) (by omega) (by omega) (by omega)]
  refine ⟨fun h => by omega, fun _ => ?_⟩
  have nxt : ∀ (K2 : Int32 → zS → Prop), (∀ τ, L_X2_read_19 g l K X (iI (600 - u' : Nat)) τ → K2 (iI 1) τ) → ∀ {q P' st' k' L'}, p + 2 ≤ q → k' ≤ 30 → st'.length ≤ 2 → L' + st'.length ≤ 2 * k' → pScr f n (fun c q => ∀ τ, FrP pSc σ0 τ → τ.1 1 1 = iI n → ErC τ c q → K (iI 0) τ) (fun P' k' _ => ∀ τ, FrP pSc σ0 τ → τ.1 1 1 = iI n → ErC τ 0 (-1) → CS g l τ P' [] k' → K (iI 1) τ) u' q P' st' k' L' → CTs g l K2 σ f n q P' st' k' L' := fun K2 hK {q P' st' k' L'} h1 h2 h3 h4 hO τ fr S hC' =>
    hK τ (c_scr_19 u' (by omega) q P' st' k' L' (by omega) h4 τ (hF.tr fr) S hC' hO)
  have her : ∀ (K2 : Int32 → zS → Prop), (∀ τ, K (iI 0) τ → K2 (iI 0) τ) → ∀ {c q : Nat}, (∀ τ, FrP pSc σ0 τ → τ.1 1 1 = iI n → ErC τ c q → K (iI 0) τ) → CEs K2 σ n c q := fun K2 hK {c q} h τ fr a e => hK τ (h τ (hF.tr fr) a e)
  have cmd : (¬ (ztK f n p = 0 ∧ st.length = 0)) → (st.length = 0 ∨ ztK f n p ≠ 41) → ∀ (K2 : Int32 → zS → Prop), (∀ τ, L_X2_read_19 g l K X (iI (600 - u' : Nat)) τ → K2 (iI 1) τ) → (∀ τ, K (iI 0) τ → K2 (iI 0) τ) → CT g l M_X2_readCommand 0 [.ref (zad g 10)] σ (zQi K2 X) := fun hne hc K2 hK1 hK0 => by
    rw [if_neg hne] at H
    have H2 := pItem_m ck cst hL H (fun c q h => her K2 hK0 h) (fun p' P' st' k' L' h1 h2 h3 h4 h => nxt K2 hK1 h1 h2 h3 h4 h)
    refine c_readCommand (L := L) hS hC ?_
    match st, hc, H2 with
    | [], _, H2 => exact H2
    | (t, Q, kq, Lq) :: rest, hc, H2 =>
      have hc2 : ztK f n p ≠ 41 := hc.resolve_left (by show ¬ rest.length + 1 = 0; omega)
      unfold pItem at H2
      simp only [if_neg hc2] at H2
      exact H2
  have cls : (¬ (ztK f n p = 0 ∧ st.length = 0)) → ¬ (st.length = 0) → ztK f n p = 41 → ∀ (K2 : Int32 → zS → Prop), (∀ τ, L_X2_read_19 g l K X (iI (600 - u' : Nat)) τ → K2 (iI 1) τ) → (∀ τ, K (iI 0) τ → K2 (iI 0) τ) → CT g l M_X2_closeRepeat 0 [.ref (zad g 10)] σ (zQi K2 X) := fun hne hs hc K2 hK1 hK0 => by
    rw [if_neg hne] at H
    have H2 := pItem_m ck cst hL H (fun c q h => her K2 hK0 h) (fun p' P' st' k' L' h1 h2 h3 h4 h => nxt K2 hK1 h1 h2 h3 h4 h)
    match st, hs, hC, H2 with
    | [], hs, _, _ => exact absurd rfl hs
    | (t, Q, kq, Lq) :: rest, _, hC, H2 =>
      unfold pItem at H2
      simp only [if_pos hc] at H2
      exact c_closeRepeat hS hC H2
  rw [show (1 : Int32) = iI 1 from rfl, iI_add, show ((600 - (u' + 1) : Nat) : Int) + 1 = ((600 - u' : Nat) : Int) by omega]
  refine c_isAtEnd hS (fun e => ?_) (fun e => ?_)
  · have hne : ¬ (ztK f n p = 0 ∧ st.length = 0) := fun h => e h.1
    refine ⟨fun _ => ?_, fun h => absurd rfl h⟩
    rw [c7, show (0 : Int32) = iI 0 from rfl, iI_le (by omega) (by omega) (by omega) (by omega)]
    refine ⟨fun hd => cmd hne (Or.inl (by omega)) _ (fun τ h => ⟨fun _ => h, fun k => absurd k (by decide)⟩) (fun τ h => ⟨fun k => absurd rfl k, fun _ => h⟩), fun hd => c_isAtSign hS (s := 41) (by decide) (fun e41 => ?_) (fun e41 => ?_)⟩
    · exact ⟨fun _ => cmd hne (Or.inr e41) _ (fun τ h => ⟨fun _ => h, fun k => absurd k (by decide)⟩) (fun τ h => ⟨fun k => absurd rfl k, fun _ => h⟩), fun k => absurd rfl k⟩
    · exact ⟨fun k => absurd k (by decide), fun _ => cls hne (by omega) e41 _ (fun τ h => ⟨fun k => absurd k (by decide), fun _ => h⟩) (fun τ h => ⟨fun _ => h, fun k => absurd rfl k⟩)⟩
  · refine ⟨fun h => absurd h (by decide), fun _ => ?_⟩
    rw [c7, show (0 : Int32) = iI 0 from rfl, iI_le (by omega) (by omega) (by omega) (by omega), iI_eq (by omega) (by omega) (by omega) (by omega)]
    refine ⟨fun hd => ?_, fun hd => ⟨fun hd2 => by omega, fun _ => c_isAtSign hS (s := 41) (by decide) (fun e41 => ?_) (fun e41 => by omega)⟩⟩
    · have hz : st = [] := by
        match st, hd with
        | [], _ => rfl
        | x :: rest, hd => exact absurd hd (by show ¬ ((rest.length + 1 : Nat) : Int) = 0; omega)
      rw [if_pos ⟨e, by omega⟩] at H
      subst hz
      exact H σ hF hS.1.2.2.1 ⟨hS.1.2.2.2.2.1, hS.1.2.2.2.2.2⟩ hC
    · exact ⟨fun _ => cmd (fun h => by omega) (Or.inr e41) _ (fun τ h => ⟨fun _ => h, fun k => absurd k (by decide)⟩) (fun τ h => ⟨fun k => absurd rfl k, fun _ => h⟩), fun k => absurd rfl k⟩
termination_by u
end ZCSr
