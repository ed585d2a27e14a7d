/-! the reference: a script read -/
section ZMSc
variable {g : zG} {l : Launch} {X : String → zS → Prop} {σ A B : zS} {f : Nat → Nat} {n p : Nat} {P : Den} {st : List Fr} {k L : Nat}
theorem s_commandHere {K : Int32 → zS → Prop} (hS : SrM σ f n p) (H0 : pV f n p = 8 → K (iI (-1)) σ) (H1 : pV f n p < 8 → K (iI (pV f n p)) σ) : CT g l M_X7_commandHere 0 [.ref (zad g 24)] σ (zQi K X) := by
  have hit : ∀ j, j < 8 → (∀ i, i < j → ¬ isWq f n p (6 + i)) → isWq f n p (6 + j) → K (iI j) σ := fun j hj h1 h2 => by
    have e := pV_is hj h1 h2
    have := H1 (by omega)
    rw [e] at this
    exact this
  refine b_X7_commandHere (s_isWord hS (w := 6) (by decide) (by decide +kernel) (fun n0 => ?_) (fun y0 => ⟨fun h => absurd h (by decide), fun _ => hit 0 (by decide) (fun i hi => by omega) y0⟩))
  refine ⟨fun _ => s_isWord hS (w := 7) (by decide) (by decide +kernel) (fun n1 => ?_) (fun y1 => ⟨fun h => absurd h (by decide), fun _ => hit 1 (by decide) (fun i hi => ?_) y1⟩), fun h => absurd rfl h⟩
  rotate_left
  · obtain rfl : i = 0 := by omega
    exact n0
  refine ⟨fun _ => s_isWord hS (w := 8) (by decide) (by decide +kernel) (fun n2 => ?_) (fun y2 => ⟨fun h => absurd h (by decide), fun _ => hit 2 (by decide) (fun i hi => ?_) y2⟩), fun h => absurd rfl h⟩
  rotate_left
  · rcases (by omega : i = 0 ∨ i = 1) with e | e <;> subst e <;> assumption
  refine ⟨fun _ => s_isWord hS (w := 9) (by decide) (by decide +kernel) (fun n3 => ?_) (fun y3 => ⟨fun h => absurd h (by decide), fun _ => hit 3 (by decide) (fun i hi => ?_) y3⟩), fun h => absurd rfl h⟩
  rotate_left
  · rcases (by omega : i = 0 ∨ i = 1 ∨ i = 2) with e | e | e <;> subst e <;> assumption
  refine ⟨fun _ => s_isWord hS (w := 10) (by decide) (by decide +kernel) (fun n4 => ?_) (fun y4 => ⟨fun h => absurd h (by decide), fun _ => hit 4 (by decide) (fun i hi => ?_) y4⟩), fun h => absurd rfl h⟩
  rotate_left
  · rcases (by omega : i = 0 ∨ i = 1 ∨ i = 2 ∨ i = 3) with e | e | e | e <;> subst e <;> assumption
  refine ⟨fun _ => s_isWord hS (w := 11) (by decide) (by decide +kernel) (fun n5 => ?_) (fun y5 => ⟨fun h => absurd h (by decide), fun _ => hit 5 (by decide) (fun i hi => ?_) y5⟩), fun h => absurd rfl h⟩
  rotate_left
  · rcases (by omega : i = 0 ∨ i = 1 ∨ i = 2 ∨ i = 3 ∨ i = 4) with e | e | e | e | e <;> subst e <;> assumption
  refine ⟨fun _ => s_isWord hS (w := 12) (by decide) (by decide +kernel) (fun n6 => ?_) (fun y6 => ⟨fun h => absurd h (by decide), fun _ => hit 6 (by decide) (fun i hi => ?_) y6⟩), fun h => absurd rfl h⟩
  rotate_left
  · rcases (by omega : i = 0 ∨ i = 1 ∨ i = 2 ∨ i = 3 ∨ i = 4 ∨ i = 5) with e | e | e | e | e | e <;> subst e <;> assumption
  refine ⟨fun _ => s_isWord hS (w := 13) (by decide) (by decide +kernel) (fun n7 => ⟨fun _ => H0 (pV_no (fun i hi => ?_)), fun h => absurd rfl h⟩) (fun y7 => ⟨fun h => absurd h (by decide), fun _ => hit 7 (by decide) (fun i hi => ?_) y7⟩), fun h => absurd rfl h⟩
  · rcases (by omega : i = 0 ∨ i = 1 ∨ i = 2 ∨ i = 3 ∨ i = 4 ∨ i = 5 ∨ i = 6 ∨ i = 7) with e | e | e | e | e | e | e | e <;> subst e <;> assumption
  · rcases (by omega : i = 0 ∨ i = 1 ∨ i = 2 ∨ i = 3 ∨ i = 4 ∨ i = 5 ∨ i = 6) with e | e | e | e | e | e | e <;> subst e <;> assumption
def bsM : List Fr → Nat
  | [] => 0
  | (_, _, _, Lq) :: _ => Lq + 1
def mSt (g : zG) (l : Launch) (A : zS) : List Fr → Nat → Prop
  | [], _ => True
  | (t, Q, _, Lq) :: rest, L => Lq < L ∧ 1 ≤ t ∧ t ≤ 20 ∧ A.1 32 Lq = iI 7 ∧ A.1 33 Lq = iI t ∧ mP g l A Q (bsM rest) Lq rest.length ∧ mSt g l A rest Lq
theorem mSt_fr : ∀ {st : List Fr} {L : Nat}, mSt g l A st L → agM B A 0 L → mSt g l B st L
  | [], _, _, _ => True.intro
  | (t, Q, _, Lq) :: rest, L, h, hB => by
    obtain ⟨a, b, b2, c, d, f', r⟩ := h
    exact ⟨a, b, b2, by rw [hB Lq (Nat.zero_le _) a 32 (by decide) (by decide)]; exact c, by rw [hB Lq (Nat.zero_le _) a 33 (by decide) (by decide)]; exact d, f'.fr (hB.sub (Nat.zero_le _) (by omega)), mSt_fr r (hB.sub (Nat.le_refl _) (by omega))⟩
theorem mSt_mono : ∀ {st : List Fr} {L L' : Nat}, mSt g l A st L → L ≤ L' → mSt g l A st L'
  | [], _, _, _, _ => True.intro
  | (t, Q, kq, _) :: rest, L, L', h, hk => ⟨Nat.lt_of_lt_of_le h.1 hk, h.2⟩
def MS (g : zG) (l : Launch) (σ : zS) (P : Den) (st : List Fr) (k L : Nat) : Prop := σ.1 24 31 = iI k ∧ σ.1 24 30 = iI L ∧ σ.1 24 32 = iI st.length ∧ k ≤ 30 ∧ st.length ≤ 2 ∧ L + st.length ≤ 2 * k ∧ mP g l σ P (bsM st) L st.length ∧ mSt g l σ st L
abbrev L6S : List Nat := [32, 33, 34, 35, 36, 37]
abbrev F9S : List Nat := [4, 5, 6, 7, 8, 9, 30, 31, 32]
theorem frJ_N {τ : zS} {L : Nat} (h : FrJ L σ τ) : FN L6S F9S σ τ := ⟨fun b hb h24 => h.1 b h24 (by simp at hb; omega), fun k hk => h.2.2.1 k (by simp at hk ⊢; omega), h.2.2.2.1, h.2.2.2.2⟩
theorem fn6_S {τ : zS} (h : FN [] F6 σ τ) : FN L6S F9S σ τ := h.sub (by intro b hb; exact absurd hb (by simp)) (by decide)
theorem MS_fr {τ : zS} (h : MS g l σ P st k L) (hF : FN [] F6 σ τ) : MS g l τ P st k L := by
  obtain ⟨a, b, c, d, e, e2, h1, h2⟩ := h
  have ag : agM τ σ 0 L := fun i _ _ o o1 o2 => by rw [hF.1 o (by simp) (by omega)]
  exact ⟨(hF.2.1 31 (by decide)).trans a, (hF.2.1 30 (by decide)).trans b, (hF.2.1 32 (by decide)).trans c, d, e, e2, h1.fr (ag.sub (Nat.zero_le _) (Nat.le_refl _)), mSt_fr h2 ag⟩
def MTs (g : zG) (l : Launch) (K : zS → Prop) (σ : zS) (f : Nat → Nat) (n : Nat) : Nat → Den → List Fr → Nat → Nat → Prop := fun p P st k L => ∀ τ, FN L6S F9S σ τ → SrM τ f n p → MS g l τ P st k L → K τ
def MEs (K : zS → Prop) (σ : zS) : Nat → Nat → Prop := fun c q => ∀ τ, FN L6S F9S σ τ → ErM τ c q → K τ
theorem s_cmd15E {K : zS → Prop} {c q : Nat} (hE : ErM σ c q) (v : Int32) (H : K σ) : L_X7_command_15 g l K X v σ := by
  have h48 : L_X7_command_48 g l K X v σ := b_X7_command_48 (s_isGoodE hE ⟨fun k => absurd rfl k, fun _ => H⟩)
  have h34 : L_X7_command_34 g l K X v σ := b_X7_command_34 ⟨fun _ => h48, fun _ => s_wrongE hE h48⟩
  exact b_X7_command_15 ⟨fun _ => h34, fun _ => ⟨fun _ => h34, fun _ => s_wrongE hE h34⟩⟩
/-- a command with its last sign -/
theorem s_cmd {KC K' : zS → Prop} (hS : SrM σ f n p) (hM : MS g l σ P st k L)
    (hK1 : ∀ τ : zS, ¬ τ.1 24 32 = σ.1 24 32 → KC τ → K' τ) (hK2 : ∀ τ : zS, τ.1 24 32 = σ.1 24 32 → CT g l M_X7_mustSign 0 [.ref (zad g 24), .int 59] τ (zQv KC X) → K' τ)
    (H : pCmd f n p P st k L (MEs KC σ) (MTs g l KC σ f n)) : CT g l M_X7_command 0 [.ref (zad g 24)] σ (zQv K' X) := by
  obtain ⟨a31, a30, a32, hk, hst, hL, hP, hSt⟩ := id hM
  have hv8 := pV_b (f := f) (n := n) p
  unfold pCmd at H
  have err : ∀ {c q τ}, ErM τ c q → FN L6S F9S σ τ → τ.1 24 32 = σ.1 24 32 → MEs KC σ c q → K' τ := fun hE hF h32 h => hK2 _ h32 (s_mustSignE hE (h _ hF hE))
  have w89 : ∀ {τ}, FN [] [8, 9] σ τ → FN L6S F9S σ τ := fun h => h.sub (by intro b hb; exact absurd hb (by simp)) (by decide)
  refine b_X7_command (s_commandHere hS (fun e8 => ?_) (fun e8 => ?_))
  · rw [if_pos e8] at H
    exact ⟨fun h => absurd rfl h, fun _ => s_wrong hS (c := 1) (by decide) (by decide) (fun _ => rfl) (fun τ fr e => s_cmd15E e _ (err e (w89 fr) (fr.2.1 32 (by decide)) H))⟩
  · rw [if_neg (by omega)] at H
    have k2 := pV_2 (f := f) (n := n) (p := p) (by omega)
    refine ⟨fun _ => b_X7_command_15 ?_, fun h => absurd h (m1_ne (by omega))⟩
    rw [a32, show (2 : Int32) = iI 2 from rfl, iI_eq (by omega) (by omega) (by omega) (by omega) (a := (st.length : Int)), show (7 : Int32) = iI 7 from rfl, iI_eq (by omega) (by omega) (by omega) (by omega)]
    have go : ¬ (pV f n p = 7 ∧ st.length = 2) → L_X7_command_34 g l K' X (iI (pV f n p)) σ := fun hno => by
      rw [if_neg hno] at H
      refine b_X7_command_34 ?_
      rw [a31, show (30 : Int32) = iI 30 from rfl, iI_eq (by omega) (by omega) (by omega) (by omega)]
      refine ⟨fun hk30 => ?_, fun hk30 => ?_⟩
      · rw [if_neg (by omega)] at H
        refine b_X7_command_48 (s_isGood hS.1 ⟨fun _ => ?_, fun k => absurd k (by decide)⟩)
        rw [a31, show (1 : Int32) = iI 1 from rfl, iI_add]
        intro σ3 e3
        have S3 : SrM σ3 f n p := by rw [e3]; exact hS.fl (by omega)
        have f3 : FN L6S F9S σ σ3 := by rw [e3]; exact (FN.rf _ _ _).fl (by decide) _
        refine s_goOn S3 (fun τ4 f4 S4 => ?_)
        have l30 : τ4.1 24 30 = iI L := by rw [f4.2.1 30 (by decide), e3, zpt_at, pk_un (by decide), a30]
        rw [l30, iI_tn (by omega) (by omega), Int.toNat_natCast]
        refine ⟨in60 (show L < 60 by omega) (Nat.le_refl 60), ?_⟩
        intro σ5 e5
        have S5 : SrM σ5 f n (ztE f n p) := by rw [e5]; exact S4.pt (by decide) (by decide)
        have f5 : FN L6S F9S σ σ5 := by rw [e5]; exact (f3.tr (f4.sub (by intro b hb; exact absurd hb (by simp)) (by decide))).pt (by decide) (by decide) _
        have z31 : σ5.1 24 31 = iI (k + 1 : Nat) := by rw [e5, zpt_ne (by decide), f4.2.1 31 (by decide), e3, zpt_at, pk_us]; rfl
        have z30 : σ5.1 24 30 = iI L := by rw [e5, zpt_ne (by decide), l30]
        have z32 : σ5.1 24 32 = iI st.length := by rw [e5, zpt_ne (by decide), f4.2.1 32 (by decide), e3, zpt_at, pk_un (by decide), a32]
        have v5 : σ5.1 32 L = iI (pV f n p) := by rw [e5, zpt_at, pk_us]
        have ag5 : agM σ5 σ 0 L := fun i _ hi o o1 o2 => by
          by_cases q : o = 32
          · subst q; rw [e5, zpt_at, pk_un (by omega), f4.1 32 (by simp) (by decide), e3, zpt_ne (by decide)]
          · rw [e5, zpt_ne q, f4.1 o (by simp) (by omega), e3, zpt_ne (by omega)]
        have agJ : ∀ {τ}, FrJ L σ5 τ → agM τ σ 0 L := fun {τ} fr i h0 hi o o1 o2 => by
          by_cases q : o = 32
          · subst q; rw [fr.1 32 (by decide) (by omega)]; exact ag5 i h0 hi 32 (by decide) (by decide)
          · rw [fr.2.1 o (by omega) o2 i (by omega)]; exact ag5 i h0 hi o o1 o2
        have j32 : ∀ {τ}, FrJ L σ5 τ → τ.1 24 32 = σ.1 24 32 := fun {τ} fr => by rw [fr.2.2.1 32 (by decide), z32, a32]
        -- after an error behind the word
        have errJ : ∀ {c q}, MEs KC σ c q → ∀ τ, FrJ L σ5 τ → ErM τ c q → CT g l M_X7_isGood 0 [.ref (zad g 24)] τ (zQi (fun v7 τ7 => ((¬ v7 = 0 → (∀ σ9 : zS, σ9 = zup τ7 24 30 ((τ7.1 24 30) + iI 1) → ((¬ iI (pV f n p : Int) = iI 7 → L_X7_command_122 g l K' X 0 (σ9.1 24 32) σ9) ∧ (iI (pV f n p : Int) = iI 7 → L_X7_command_122 g l K' X (iI 1) (σ9.1 24 32) σ9)))) ∧ (v7 = 0 → K' τ7))) X) := fun h τ fr e => s_isGoodE e ⟨fun k => absurd rfl k, fun _ => err e (f5.tr (frJ_N fr)) (j32 fr) h⟩
        by_cases e7 : pV f n p = 7
        · rw [if_pos e7] at H
          have hst1 : st.length < 2 := by omega
          rw [e7] at v5 errJ ⊢
          refine s_numsR (by omega) S5 (pNum_m H (fun c q h τ fr e => errJ h τ fr e) (fun t _ t1 t2 _ h => pSign_m h (fun c q h τ fr e => errJ h τ fr e) (fun _ h τ fr S7 q33 => ?_)))
          refine s_isGood S7.1 ⟨fun _ => ?_, fun k => absurd k (by decide)⟩
          intro σ9 e9
          refine ⟨fun k => absurd rfl k, fun _ => b_X7_command_122 (s_truth1 ?_)⟩
          have y30 : τ.1 24 30 = iI L := by rw [fr.2.2.1 30 (by decide), z30]
          have y32 : σ9.1 24 32 = iI st.length := by rw [e9, zpt_at, pk_un (by decide), fr.2.2.1 32 (by decide), z32]
          rw [y32]
          intro σ10 e10
          have hd : ¬ σ10.1 24 32 = σ.1 24 32 := by
            rw [e10, zpt_at, pk_us, a32, iI_add, iI_eq (by omega) (by omega) (by omega) (by omega)]
            omega
          refine hK1 σ10 hd (h σ10 ?_ ?_ ⟨?_, ?_, ?_, by omega, ?_, ?_, ?_, ?_⟩)
          · rw [e10, e9]; exact ((f5.tr (frJ_N fr)).fl (by decide) _).fl (by decide) _
          · rw [e10, e9]; exact (S7.fl (by omega)).fl (by omega)
          · rw [e10, zpt_at, pk_un (by decide), e9, zpt_at, pk_un (by decide), fr.2.2.1 31 (by decide), z31]
          · rw [e10, zpt_at, pk_un (by decide), e9, zpt_at, pk_us, y30, iI_add]; rfl
          · rw [e10, zpt_at, pk_us, iI_add]; rfl
          · show st.length + 1 ≤ 2; omega
          · show L + 1 + (st.length + 1) ≤ _; omega
          · exact mP_nil _ _
          · have agX : agM σ10 σ 0 L := fun i h0 hi o o1 o2 => by rw [e10, zpt_ne (by omega), e9, zpt_ne (by omega)]; exact agJ fr i h0 hi o o1 o2
            refine ⟨by omega, t1, t2, ?_, ?_, hP.fr (agX.sub (Nat.zero_le _) (Nat.le_refl _)), mSt_fr hSt agX⟩
            · rw [e10, zpt_ne (by decide), e9, zpt_ne (by decide), fr.1 32 (by decide) (by omega), v5]; rfl
            · rw [e10, zpt_ne (by decide), e9, zpt_ne (by decide), q33]
        · rw [if_neg e7] at H
          refine s_nums (by omega) (by omega) S5 (pArg_m H (fun c q h τ fr e => errJ h τ fr e) (fun s x y z w p' _ hs hx hy hz hw h τ fr S7 q1 q2 q3 q4 q5 => ?_))
          refine s_isGood S7.1 ⟨fun _ => ?_, fun k => absurd k (by decide)⟩
          intro σ9 e9
          have n7 : ¬ iI (pV f n p : Int) = iI 7 := fun q => e7 ((v_ne (k := 7) (by omega) (by decide)).mp q)
          refine ⟨fun _ => b_X7_command_122 (s_truth0 ?_), fun q => absurd q n7⟩
          have y30 : τ.1 24 30 = iI L := by rw [fr.2.2.1 30 (by decide), z30]
          have y32 : σ9.1 24 32 = iI st.length := by rw [e9, zpt_at, pk_un (by decide), fr.2.2.1 32 (by decide), z32]
          rw [y32, iI_add, show (st.length : Int) + 0 = st.length by omega]
          intro σ10 e10
          have hF10 : FN L6S F9S σ σ10 := by rw [e10, e9]; exact ((f5.tr (frJ_N fr)).fl (by decide) _).fl (by decide) _
          have agX : agM σ10 σ 0 L := fun i h0 hi o o1 o2 => by rw [e10, zpt_ne (by omega), e9, zpt_ne (by omega)]; exact agJ fr i h0 hi o o1 o2
          have S10 : SrM σ10 f n p' := by rw [e10, e9]; exact (S7.fl (by omega)).fl (by omega)
          have o10 : ∀ b, b ≠ 24 → σ10.1 b = τ.1 b := fun b hb => by rw [e10, zpt_ne hb, e9, zpt_ne hb]
          have hmA : mA σ10 L (pV f n p) s x y z w := by
            unfold mA
            rw [o10 32 (by decide), o10 33 (by decide), o10 34 (by decide), o10 35 (by decide), o10 36 (by decide), o10 37 (by decide), fr.1 32 (by decide) (by omega)]
            exact ⟨v5, q1, q2, q3, q4, q5⟩
          have M10 : MS g l σ10 (seqD P (eC (pV f n p) s x y z w)) st (k + 1) (L + 1) := by
            refine ⟨?_, ?_, ?_, by omega, hst, by omega, mP_seq (hP.fr (agX.sub (Nat.zero_le _) (Nat.le_refl _))) (mP_cm ⟨by omega, hs, hx, hy, hz, hw⟩ hmA), mSt_mono (mSt_fr hSt agX) (by omega)⟩
            · rw [e10, zpt_at, pk_un (by decide), e9, zpt_at, pk_un (by decide), fr.2.2.1 31 (by decide), z31]
            · rw [e10, zpt_at, pk_un (by decide), e9, zpt_at, pk_us, y30, iI_add]; rfl
            · rw [e10, zpt_at, pk_us]
          refine hK2 σ10 (by rw [e10, zpt_at, pk_us, a32]) ?_
          exact s_mustSign S10 (s := 59) (by unfold isG; omega) (pSign_m h (fun c q h τ2 f2 e2 => h τ2 (hF10.tr (fn6_S f2)) e2) (fun _ h τ2 f2 S2 => h τ2 (hF10.tr (fn6_S f2)) S2 (MS_fr M10 f2)))
      · rw [if_pos (by omega)] at H
        refine s_wrong hS (c := 5) (by decide) (by decide) (fun q => by omega) (fun τ fr e => b_X7_command_48 (s_isGoodE e ⟨fun k => absurd rfl k, fun _ => err e (w89 fr) (fr.2.1 32 (by decide)) H⟩))
    refine ⟨fun h7 => go (fun h => by omega), fun h7 => ⟨fun h2 => go (fun h => by omega), fun h2 => ?_⟩⟩
    rw [if_pos (by omega)] at H
    refine s_wrong hS (c := 3) (by decide) (by decide) (fun q => by omega) (fun τ fr e => ?_)
    have h48 : L_X7_command_48 g l K' X (iI (pV f n p)) τ := b_X7_command_48 (s_isGoodE e ⟨fun k => absurd rfl k, fun _ => err e (w89 fr) (fr.2.1 32 (by decide)) H⟩)
    exact b_X7_command_34 ⟨fun _ => h48, fun _ => s_wrongE e h48⟩
end ZMSc
