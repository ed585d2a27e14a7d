/-! the reference: a text -/
section ZMT
variable {g : zG} {l : Launch} {X : String → zS → Prop} {σ : zS} {f : Nat → Nat} {n p : Nat} {m : Nat → Int32}
abbrev F7 : List Nat := [4, 5, 6, 7, 8, 9, 20]
abbrev F6 : List Nat := [4, 5, 6, 7, 8, 9]
theorem F67 {L : List Nat} {σ τ : zS} (h : FN [] F6 σ τ) : FN (26 :: L) F7 σ τ := h.sub (by intro b hb; exact absurd hb (by simp)) (by decide)
def MTo (K : zS → Prop) (σ : zS) (f : Nat → Nat) (n : Nat) : Nat → (Nat → Int32) → Nat → Nat → Prop := fun q m' hi co => ∀ τ, FN [26] F7 σ τ → SrM τ f n q → τ.1 26 = m' → τ.1 24 20 = iI ((hi : Int) + 2 * co) → K τ
def MTe (K : zS → Prop) (σ : zS) : Nat → Nat → Prop := fun c q => ∀ τ, FN [26] F7 σ τ → ErM τ c q → (∀ k, 1110 ≤ k → τ.1 26 k = σ.1 26 k) → K τ
theorem ErM.fr {c q : Nat} {τ : zS} (h : ErM σ c q) (h8 : τ.1 24 8 = σ.1 24 8) (h9 : τ.1 24 9 = σ.1 24 9) : ErM τ c q := ⟨h8.trans h.1, h9.trans h.2.1, h.2.2⟩
theorem SrM.pt {o : Nat} {F : Nat → Int32} (h : SrM σ f n p) (h1 : o ≠ 24) (h2 : o ≠ 25) : SrM (zpt σ o F) f n p :=
  h.fr (L := [o]) (F := []) ((FM.rf [o] [] σ).pt (by simp) h1 F) (by simp; omega) (by simp)
theorem SrM.fl {k : Nat} {v : Int32} (h : SrM σ f n p) (h1 : k < 3 ∨ 9 < k) : SrM (zup σ 24 k v) f n p :=
  h.fr (L := []) (F := [k]) ((FM.rf [] [k] σ).fl (by simp) v) (by simp) (by intro j a b; simp; omega)
theorem hc_bit {hi co : Nat} (h1 : hi < 2) (h2 : co < 2) : ((hi + 2 * co).testBit 0 = true ↔ hi = 1) ∧ ((hi + 2 * co).testBit 1 = true ↔ co = 1) := by
  rcases (by omega : hi = 0 ∨ hi = 1) with a | a <;> rcases (by omega : co = 0 ∨ co = 1) with b | b <;> subst a <;> subst b <;> decide
theorem hc_or0 {hi co : Nat} (h1 : hi < 2) (h2 : co < 2) : (iI ((hi : Int) + 2 * co) ||| (1 <<< (iI 0 &&& 31))) = iI ((1 : Int) + 2 * co) := by
  rcases (by omega : hi = 0 ∨ hi = 1) with a | a <;> rcases (by omega : co = 0 ∨ co = 1) with b | b <;> subst a <;> subst b <;> decide
theorem hc_or1 {hi co : Nat} (h1 : hi < 2) (h2 : co < 2) : (iI ((hi : Int) + 2 * co) ||| (1 <<< (iI 1 &&& 31))) = iI ((hi : Int) + 2 * (1 : Nat)) := by
  rcases (by omega : hi = 0 ∨ hi = 1) with a | a <;> rcases (by omega : co = 0 ∨ co = 1) with b | b <;> subst a <;> subst b <;> decide
/-- "high" and "coats" -/
theorem s_once {K : zS → Prop} (hS : SrM σ f n p) (hm : σ.1 26 = m) {hi co : Nat} (hhi : hi < 2) (hco : co < 2) (h20 : σ.1 24 20 = iI ((hi : Int) + 2 * co)) {x b mx : Nat} (hx : x < 1110) (hb : b < 2) (hmx : mx < 2000) {hi' co' : Nat} (hbit : (iI ((hi : Int) + 2 * co) ||| (1 <<< (iI b &&& 31))) = iI ((hi' : Int) + 2 * co')) (hk : ztK f n p = 2)
    (H : if (hi + 2 * co).testBit b = true then MTe K σ 3 (ztS f n p) else pNum f n (ztE f n p) 1 mx (MTe K σ) (fun v q => MTo K σ f n q (upd m x (iI v)) hi' co')) : CT g l M_X7_readsOnce 0 [.ref (zad g 24), .int (iI x), .int (iI b), .int (iI mx)] σ (zQv K X) := by
  refine b_X7_readsOnce ?_
  rw [h20]
  refine s_has (N := hi + 2 * co) (by omega) (by omega) ?_
  rw [show (0 : Int32) = iI 0 from rfl, bI_0]
  refine ⟨fun h => ?_, fun h => ?_⟩
  · rw [if_neg h] at H
    intro σ3 e3
    rw [h20, hbit] at e3
    have f3 : FN [26] F7 σ σ3 := by rw [e3]; exact (FN.rf _ _ _).fl (by decide) _
    have S3 : SrM σ3 f n p := by rw [e3]; exact hS.fl (by omega)
    have m3 : σ3.1 26 = m := by rw [e3, zpt_ne (by decide)]; exact hm
    have t3 : σ3.1 24 20 = iI ((hi' : Int) + 2 * co') := by rw [e3, zpt_at, pk_us]
    refine s_isGood S3.1 ⟨fun k => absurd k (by decide), fun _ => s_goOn S3 (fun τ4 f4 S4 => ?_)⟩
    have g4 : FN [26] F7 σ τ4 := f3.tr (f4.sub (by decide) (by decide))
    refine s_number S4 (lo := 1) (by decide) hmx (pNum_m H (fun c q hE τ5 f5 e5 v => ?_) (fun v _ _ _ _ hO τ5 f5 S5 => ?_))
    · refine s_isGoodE e5 ⟨fun _ => hE τ5 (g4.tr (F67 f5)) e5 (fun k hk => ?_), fun k => absurd rfl k⟩
      rw [f5.1 26 (by simp) (by decide), f4.1 26 (by simp) (by decide), m3, hm]
    · refine s_isGood S5.1 ⟨fun k => absurd k (by decide), fun _ => ⟨iI_in (by omega) (by omega) (by omega), ?_⟩⟩
      intro σ9 e9
      rw [iI_tn (by omega) (by omega), Int.toNat_natCast] at e9
      have g5 : FN [26] F7 σ σ9 := by rw [e9]; exact (g4.tr (F67 f5)).pt (by decide) (by decide) _
      refine hO σ9 g5 (by rw [e9]; exact S5.pt (by decide) (by decide)) ?_ ?_
      · rw [e9, zpt_at, f5.1 26 (by simp) (by decide), f4.1 26 (by simp) (by decide), m3]
      · rw [e9, zpt_ne (by decide), f5.2.1 20 (by decide), f4.2.1 20 (by decide), t3]
  · rw [Decidable.not_not] at h
    rw [if_pos h] at H
    refine s_wrong hS (c := 3) (by decide) (by decide) (fun q => by omega) (fun τ f1 e1 => ?_)
    intro σ3 e3
    have f3 : FN [26] F7 σ σ3 := by rw [e3]; exact FN.fl (f1.sub (by decide) (by decide)) (by decide) _
    have E3 : ErM σ3 3 (ztS f n p) := by rw [e3]; exact e1.fr (by rw [zpt_at, pk_un (by decide)]) (by rw [zpt_at, pk_un (by decide)])
    refine s_isGoodE E3 ⟨fun _ => s_numberE E3 (fun v => s_isGoodE E3 ⟨fun _ => H σ3 f3 E3 (fun k _ => ?_), fun k => absurd rfl k⟩), fun k => absurd rfl k⟩
    rw [e3, zpt_ne (by decide), f1.1 26 (by simp) (by decide)]
theorem MTe.mo {K : zS → Prop} {c q : Nat} {τ : zS} (h : MTe K σ c q) (hF : FN [26] F7 σ τ) (h26 : ∀ k, 1110 ≤ k → τ.1 26 k = σ.1 26 k) : MTe K τ c q :=
  fun υ f e k => h υ (hF.tr f) e (fun j hj => (k j hj).trans (h26 j hj))
theorem MTo.mo {K : zS → Prop} {q : Nat} {m' : Nat → Int32} {a b : Nat} {τ : zS} (h : MTo K σ f n q m' a b) (hF : FN [26] F7 σ τ) : MTo K τ f n q m' a b :=
  fun υ f s e t => h υ (hF.tr f) s e t
theorem s_slat_104 {K : zS → Prop} (hm : σ.1 26 = m) (hw : WF m) (hn : nS m ≤ 9) {w : Nat} {t : Int} (H : K (zpt σ 26 (mSlat m w t))) : L_X7_readsSlat_104 g l K X (iI (nS m)) (iI t) (iI 1) (iI (nS m)) (zup σ 26 (4 + 5 * nS m + 0) (iI w)) := by
  refine b_X7_readsSlat_104 (s_sets (a := nS m) (b := 1) (by omega) (s_sets (a := nS m) (b := 3) (by omega) (s_sets (a := nS m) (b := 4) (by omega) ?_)))
  have e : zup (zup (zup (zup σ 26 (4 + 5 * nS m + 0) (iI w)) 26 (4 + 5 * nS m + 1) (iI t)) 26 (4 + 5 * nS m + 3) 1) 26 (4 + 5 * nS m + 4) 1 = zpt σ 26 (upd (upd (upd (upd m (4 + 5 * nS m) (iI w)) (5 + 5 * nS m) (iI t)) (7 + 5 * nS m) (iI 1)) (8 + 5 * nS m) (iI 1)) := by
    have e1 : zup σ 26 (4 + 5 * nS m + 0) (iI w) = zpt σ 26 (upd m (4 + 5 * nS m) (iI w)) := by
      show zpt σ 26 (upd (σ.1 26) _ _) = _
      rw [hm]; rfl
    have e2 : ∀ F k v, zup (zpt σ 26 F) 26 k v = zpt σ 26 (upd F k v) := fun F k v => zup_zpt σ 26 k F v
    rw [e1, e2 (upd m (4 + 5 * nS m) (iI w)) (4 + 5 * nS m + 1) (iI t), e2 (upd (upd m (4 + 5 * nS m) (iI w)) (4 + 5 * nS m + 1) (iI t)) (4 + 5 * nS m + 3) 1, e2 (upd (upd (upd m (4 + 5 * nS m) (iI w)) (4 + 5 * nS m + 1) (iI t)) (4 + 5 * nS m + 3) 1) (4 + 5 * nS m + 4) 1, show 4 + 5 * nS m + 1 = 5 + 5 * nS m by omega, show 4 + 5 * nS m + 3 = 7 + 5 * nS m by omega, show 4 + 5 * nS m + 4 = 8 + 5 * nS m by omega]
    rfl
  intro σ4 e4
  rw [e, show Int32.toNatClampNeg 1 = 1 from rfl, zpt_at, pk_un (by omega), pk_un (by omega), pk_un (by omega), pk_un (by omega), wf_1 hw, show (1 : Int32) = iI 1 from rfl, iI_add, zup_zpt] at e4
  rw [e4]
  exact H
theorem s_slat_70 {K : zS → Prop} (hS : SrM σ f n p) (hm : σ.1 26 = m) (hw : WF m) (hn : nS m ≤ 9) {w s v : Nat} (hs : s < 2) (hv : v < 1000) (H : K (zpt σ 26 (mSlat m w (if s = 1 then (v : Int) else -v)))) : L_X7_readsSlat_70 g l K X (iI (nS m)) (iI w) (iI s) (iI v) σ := by
  refine b_X7_readsSlat_70 (s_isGood hS.1 ⟨fun _ => s_sets (a := nS m) (b := 0) (by omega) ⟨fun h => ?_, fun h => ?_⟩, fun k => absurd k (by decide)⟩)
  · rw [if_neg (fun e => h (by rw [e]; rfl))] at H
    rw [iI_neg]
    exact s_slat_104 hm hw hn H
  · have e : s = 1 := by
      rcases (by omega : s = 0 ∨ s = 1) with e | e
      · subst e; exact absurd h (by decide)
      · exact e
    rw [if_pos e] at H
    exact s_slat_104 hm hw hn H
/-- "slat", with its last sign -/
theorem s_slatS {K : zS → Prop} (hS : SrM σ f n p) (hm : σ.1 26 = m) (hw : WF m) {hi co : Nat} (h20 : σ.1 24 20 = iI ((hi : Int) + 2 * co)) (hk : ztK f n p = 2) (H : pSlat f n p m hi co (MTe K σ) (MTo K σ f n)) : CT g l M_X7_readsSlat 0 [.ref (zad g 24)] σ (zQv (fun τ => CT g l M_X7_mustSign 0 [.ref (zad g 24), .int 59] τ (zQv K X)) X) := by
  have hwb := wf_b hw
  unfold pSlat at H
  refine b_X7_readsSlat ?_
  rw [show Int32.toNatClampNeg 1 = 1 from rfl, hm, wf_1 hw, show (10 : Int32) = iI 10 from rfl, iI_eq (by omega) (by omega) (by omega) (by omega)]
  refine ⟨fun h => ?_, fun h => ?_⟩
  · rw [if_neg (by omega)] at H
    refine b_X7_readsSlat_18 (s_isGood hS.1 ⟨fun k => absurd k (by decide), fun _ => s_goOn hS (fun τ1 f1 S1 => ?_)⟩)
    have g1 : FN [26] F7 σ τ1 := f1.sub (by decide) (by decide)
    refine b_X7_readsSlat_29 (s_number S1 (lo := 1) (hi := 6) (by decide) (by decide) (pNum_m H (fun c q hE τ2 f2 e2 v => ?_) (fun w _ w1 w2 _ hO τ2 f2 S2 => ?_)))
    · refine s_isSideE e2 ⟨fun _ => b_X7_readsSlat_54 ⟨fun _ => b_X7_readsSlat_70 (s_isGoodE e2 ⟨fun k => absurd rfl k, fun _ => s_mustSignE e2 (hE τ2 (g1.tr (F67 f2)) e2 (fun k _ => ?_))⟩), fun k => absurd rfl k⟩, fun k => absurd rfl k⟩
      rw [f2.1 26 (by simp) (by decide), f1.1 26 (by simp) (by decide)]
    · have g2 : FN [26] F7 σ τ2 := g1.tr (F67 f2)
      have m2 : τ2.1 26 = m := by rw [f2.1 26 (by simp) (by decide), f1.1 26 (by simp) (by decide), hm]
      have t2 : τ2.1 24 20 = iI ((hi : Int) + 2 * co) := by rw [f2.2.1 20 (by decide), f1.2.1 20 (by decide), h20]
      have big : ∀ (τ : zS) (t : Int), τ.1 26 = m → ∀ k, 1110 ≤ k → (zpt τ 26 (mSlat m w t)).1 26 k = σ.1 26 k := fun τ t hm' k hk => by
        rw [zpt_at, mSlat_q (by omega) (by omega), hm]
      refine s_isSide S2 (fun n4 n5 => ?_) (fun h45 => ?_)
      · refine ⟨fun _ => b_X7_readsSlat_54 ⟨fun _ => ?_, fun k => absurd rfl k⟩, fun k => absurd rfl k⟩
        refine s_slat_70 (s := 0) (v := 0) S2 m2 hw (by omega) (by decide) (by decide) ?_
        have S3 : SrM (zpt τ2 26 (mSlat m w 0)) f n (ztE f n (ztE f n p)) := S2.pt (by decide) (by decide)
        refine s_mustSign S3 (s := 59) (by unfold isG; omega) ?_
        unfold pSign
        by_cases e : ztK f n (ztE f n (ztE f n p)) = 59
        · rw [if_pos e] at hO ⊢
          intro τ4 f4 S4
          refine hO τ4 ((g2.pt (by decide) (by decide) _).tr (F67 f4)) S4 ?_ ?_
          · rw [f4.1 26 (by simp) (by decide), zpt_at]
          · rw [f4.2.1 20 (by decide), zpt_ne (by decide), t2]
        · rw [if_neg e] at hO ⊢
          unfold pSide at hO
          rw [if_neg n4, if_neg n5] at hO
          intro τ4 f4 e4
          refine hO τ4 ((g2.pt (by decide) (by decide) _).tr (F67 f4)) e4 (fun k hk => ?_)
          rw [f4.1 26 (by simp) (by decide)]
          exact big τ2 0 m2 k hk
      · have k2 : ztK f n (ztE f n (ztE f n p)) = 2 := by rcases h45 with h | h <;> exact h.1
        rw [if_neg (by omega)] at hO
        refine ⟨fun k => absurd k (by decide), fun _ => s_side S2 (pSide_m hO (fun c q hE τ3 f3 e3 v => ?_) (fun s hs _ hO τ3 f3 S3 => ?_))⟩
        · refine b_X7_readsSlat_54 ⟨fun k => absurd k (by decide), fun _ => s_numberE e3 (fun v' => b_X7_readsSlat_70 (s_isGoodE e3 ⟨fun k => absurd rfl k, fun _ => s_mustSignE e3 (hE τ3 (g2.tr (F67 f3)) e3 (fun k _ => ?_))⟩))⟩
          rw [f3.1 26 (by simp) (by decide), m2, hm]
        · have g3 : FN [26] F7 σ τ3 := g2.tr (F67 f3)
          have m3 : τ3.1 26 = m := by rw [f3.1 26 (by simp) (by decide), m2]
          refine b_X7_readsSlat_54 ⟨fun k => absurd k (by decide), fun _ => s_number S3 (lo := 0) (hi := 4) (by decide) (by decide) (pNum_m hO (fun c q hE τ4 f4 e4 v' => ?_) (fun v _ _ v2 _ hO τ4 f4 S4 => ?_))⟩
          · refine b_X7_readsSlat_70 (s_isGoodE e4 ⟨fun k => absurd rfl k, fun _ => s_mustSignE e4 (hE τ4 (g3.tr (F67 f4)) e4 (fun k _ => ?_))⟩)
            rw [f4.1 26 (by simp) (by decide), m3, hm]
          · have g4 : FN [26] F7 σ τ4 := g3.tr (F67 f4)
            have m4 : τ4.1 26 = m := by rw [f4.1 26 (by simp) (by decide), m3]
            refine s_slat_70 S4 m4 hw (by omega) hs (by omega) ?_
            refine s_mustSign (S4.pt (by decide) (by decide)) (s := 59) (by unfold isG; omega) (pSign_m hO (fun c q hE τ5 f5 e5 => ?_) (fun _ hO τ5 f5 S5 => ?_))
            · refine hE τ5 ((g4.pt (by decide) (by decide) _).tr (F67 f5)) e5 (fun k hk => ?_)
              rw [f5.1 26 (by simp) (by decide)]
              exact big τ4 _ m4 k hk
            · refine hO τ5 ((g4.pt (by decide) (by decide) _).tr (F67 f5)) S5 ?_ ?_
              · rw [f5.1 26 (by simp) (by decide), zpt_at]
              · rw [f5.2.1 20 (by decide), zpt_ne (by decide), f4.2.1 20 (by decide), f3.2.1 20 (by decide), t2]
  · rw [if_pos (by omega)] at H
    refine s_wrong hS (c := 5) (by decide) (by decide) (fun q => by omega) (fun τ f1 e1 => ?_)
    refine b_X7_readsSlat_18 (s_isGoodE e1 ⟨fun _ => b_X7_readsSlat_29 (s_numberE e1 (fun v => s_isSideE e1 ⟨fun _ => b_X7_readsSlat_54 ⟨fun _ => b_X7_readsSlat_70 (s_isGoodE e1 ⟨fun k => absurd rfl k, fun _ => s_mustSignE e1 (H τ (f1.sub (by decide) (by decide)) e1 (fun k _ => ?_))⟩), fun k => absurd rfl k⟩, fun k => absurd rfl k⟩)), fun k => absurd rfl k⟩)
    rw [f1.1 26 (by simp) (by decide)]
/-- nothing more is done with a box after an error -/
theorem s_boxE {K : zS → Prop} {y : Int32} {c q : Nat} (hE : ErM σ c q) (H : K σ) (v1 v2 v3 v4 v5 v6 : Int32) : (CT g l M_X7_isGood 0 [.ref (zad g 24)] σ (zQi (fun v7 τ7 => ((v7 = 0 → L_X7_readsBox_97 g l K X y v6 τ7) ∧ (¬ v7 = 0 → CT g l M_X7_laysBox 0 [.ref (zad g 24), .int v1, .int v2, .int v3, .int v4, .int v5] τ7 (zQv (fun τ9 => L_X7_readsBox_97 g l K X y v6 τ9) (fun E τ => X E τ))))) (fun E τ => X E τ))) :=
  s_isGoodE hE ⟨fun _ => b_X7_readsBox_97 (s_isGoodE hE ⟨fun _ => b_X7_readsBox_112 H, fun k => absurd rfl k⟩), fun k => absurd rfl k⟩
theorem s_boxS {K : zS → Prop} (hS : SrM σ f n p) (hm : σ.1 26 = m) (hw : WF m) {hi co : Nat} (h20 : σ.1 24 20 = iI ((hi : Int) + 2 * co)) (hk : ztK f n p = 2) (H : pBox f n p m hi co (MTe K σ) (MTo K σ f n)) : CT g l M_X7_readsBox 0 [.ref (zad g 24)] σ (zQv (fun τ => CT g l M_X7_mustSign 0 [.ref (zad g 24), .int 59] τ (zQv K X)) X) := by
  have hwb := wf_b hw
  unfold pBox at H
  refine b_X7_readsBox ?_
  rw [show Int32.toNatClampNeg 3 = 3 from rfl, hm, wf_3 hw, show (16 : Int32) = iI 16 from rfl, iI_eq (by omega) (by omega) (by omega) (by omega)]
  refine ⟨fun h => ?_, fun h => ?_⟩
  · rw [if_neg (by omega)] at H
    refine b_X7_readsBox_18 (s_isGood hS.1 ⟨fun k => absurd k (by decide), fun _ => s_goOn hS (fun τ1 f1 S1 => ?_)⟩)
    have g1 : FN [26] F7 σ τ1 := f1.sub (by decide) (by decide)
    have m1 : τ1.1 26 = m := by rw [f1.1 26 (by simp) (by decide), hm]
    have hm0 : m = σ.1 26 := hm.symm
    have er : ∀ (τ : zS) (c q : Nat), FN [26] F7 σ τ → τ.1 26 = m → ErM τ c q → MTe K σ c q → CT g l M_X7_mustSign 0 [.ref (zad g 24), .int 59] τ (zQv K X) := fun τ c q hF h26 hE h => s_mustSignE hE (h τ hF hE (fun k _ => by rw [h26, hm0]))
    refine b_X7_readsBox_29 (s_side S1 (pSide_m H (fun c q hE τ2 f2 e2 v => ?_) (fun s hs _ H τ2 f2 S2 => ?_)))
    · have m2 : τ2.1 26 = m := by rw [f2.1 26 (by simp) (by decide), m1]
      exact s_numberE e2 (fun v2 => s_numberE e2 (fun v3 => s_numberE e2 (fun v4 => s_numberE e2 (fun v5 => s_numberE e2 (fun v6 => s_boxE e2 (er τ2 c q (g1.tr (F67 f2)) m2 e2 hE) _ _ _ _ _ _)))))
    have m2 : τ2.1 26 = m := by rw [f2.1 26 (by simp) (by decide), m1]
    have g2 : FN [26] F7 σ τ2 := g1.tr (F67 f2)
    refine s_number S2 (lo := 0) (hi := 63) (by decide) (by decide) (pNum_m H (fun c q hE τ3 f3 e3 v => ?_) (fun cc _ _ c2 _ H τ3 f3 S3 => ?_))
    · have m3 : τ3.1 26 = m := by rw [f3.1 26 (by simp) (by decide), m2]
      exact s_numberE e3 (fun v3 => s_numberE e3 (fun v4 => s_numberE e3 (fun v5 => s_numberE e3 (fun v6 => s_boxE e3 (er τ3 c q (g2.tr (F67 f3)) m3 e3 hE) _ _ _ _ _ _))))
    have m3 : τ3.1 26 = m := by rw [f3.1 26 (by simp) (by decide), m2]
    have g3 : FN [26] F7 σ τ3 := g2.tr (F67 f3)
    refine s_number S3 (lo := 0) (hi := 63) (by decide) (by decide) (pNum_m H (fun c q hE τ4 f4 e4 v => ?_) (fun rr _ _ r2 _ H τ4 f4 S4 => ?_))
    · have m4 : τ4.1 26 = m := by rw [f4.1 26 (by simp) (by decide), m3]
      exact s_numberE e4 (fun v4 => s_numberE e4 (fun v5 => s_numberE e4 (fun v6 => s_boxE e4 (er τ4 c q (g3.tr (F67 f4)) m4 e4 hE) _ _ _ _ _ _)))
    have m4 : τ4.1 26 = m := by rw [f4.1 26 (by simp) (by decide), m3]
    have g4 : FN [26] F7 σ τ4 := g3.tr (F67 f4)
    refine s_number S4 (lo := 1) (hi := 64) (by decide) (by decide) (pNum_m H (fun c q hE τ5 f5 e5 v => ?_) (fun ww _ w1 w2 _ H τ5 f5 S5 => ?_))
    · have m5 : τ5.1 26 = m := by rw [f5.1 26 (by simp) (by decide), m4]
      exact s_numberE e5 (fun v5 => s_numberE e5 (fun v6 => s_boxE e5 (er τ5 c q (g4.tr (F67 f5)) m5 e5 hE) _ _ _ _ _ _))
    have m5 : τ5.1 26 = m := by rw [f5.1 26 (by simp) (by decide), m4]
    have g5 : FN [26] F7 σ τ5 := g4.tr (F67 f5)
    refine s_number S5 (lo := 1) (hi := 64) (by decide) (by decide) (pNum_m H (fun c q hE τ6 f6 e6 v => ?_) (fun dd _ d1 d2 _ H τ6 f6 S6 => ?_))
    · have m6 : τ6.1 26 = m := by rw [f6.1 26 (by simp) (by decide), m5]
      exact s_numberE e6 (fun v6 => s_boxE e6 (er τ6 c q (g5.tr (F67 f6)) m6 e6 hE) _ _ _ _ _ _)
    have m6 : τ6.1 26 = m := by rw [f6.1 26 (by simp) (by decide), m5]
    have g6 : FN [26] F7 σ τ6 := g5.tr (F67 f6)
    refine s_number S6 (lo := 1) (hi := 9) (by decide) (by decide) (pNum_m H (fun c q hE τ7 f7 e7 v => ?_) (fun vv _ v1 v2 _ H τ7 f7 S7 => ?_))
    · have m7 : τ7.1 26 = m := by rw [f7.1 26 (by simp) (by decide), m6]
      exact s_boxE e7 (er τ7 c q (g6.tr (F67 f7)) m7 e7 hE) _ _ _ _ _ _
    have m7 : τ7.1 26 = m := by rw [f7.1 26 (by simp) (by decide), m6]
    have g7 : FN [26] F7 σ τ7 := g6.tr (F67 f7)
    have t7 : τ7.1 24 20 = iI ((hi : Int) + 2 * co) := by rw [f7.2.1 20 (by decide), f6.2.1 20 (by decide), f5.2.1 20 (by decide), f4.2.1 20 (by decide), f3.2.1 20 (by decide), f2.2.1 20 (by decide), f1.2.1 20 (by decide), h20]
    refine s_isGood S7.1 ⟨fun k => absurd k (by decide), fun _ => s_laysBox m7 (wf_3 hw) (by omega) ?_⟩
    have S8 : SrM (zpt τ7 26 (mBox5 m s cc rr ww dd)) f n _ := S7.pt (by decide) (by decide)
    refine b_X7_readsBox_97 (s_isGood S8.1 ⟨fun k => absurd k (by decide), fun _ => s_setsBox (a := nB m) (b := 5) (by omega) ?_⟩)
    refine b_X7_readsBox_112 ?_
    rw [zup_zpt]
    refine s_mustSign (S7.pt (by decide) (by decide)) (s := 59) (by unfold isG; omega) (pSign_m H (fun c q hE τ8 f8 e8 => ?_) (fun _ hO τ8 f8 S8 => ?_))
    · refine hE τ8 ((g7.pt (by decide) (by decide) _).tr (F67 f8)) e8 (fun k hk => ?_)
      rw [f8.1 26 (by simp) (by decide), zpt_at]
      show mBox m s cc rr ww dd vv k = _
      rw [mBox_q (by omega) (by omega), hm]
    · refine hO τ8 ((g7.pt (by decide) (by decide) _).tr (F67 f8)) S8 ?_ ?_
      · rw [f8.1 26 (by simp) (by decide), zpt_at]; rfl
      · rw [f8.2.1 20 (by decide), zpt_ne (by decide), t7]
  · rw [if_pos (by omega)] at H
    refine s_wrong hS (c := 5) (by decide) (by decide) (fun q => by omega) (fun τ f1 e1 => ?_)
    have fin : CT g l M_X7_mustSign 0 [.ref (zad g 24), .int 59] τ (zQv K X) := s_mustSignE e1 (H τ (f1.sub (by decide) (by decide)) e1 (fun k _ => by rw [f1.1 26 (by simp) (by decide)]))
    exact b_X7_readsBox_18 (s_isGoodE e1 ⟨fun _ => b_X7_readsBox_29 (s_sideE e1 (fun v1 => s_numberE e1 (fun v2 => s_numberE e1 (fun v3 => s_numberE e1 (fun v4 => s_numberE e1 (fun v5 => s_numberE e1 (fun v6 => s_boxE e1 fin _ _ _ _ _ _))))))), fun k => absurd rfl k⟩)
/-- one statement -/
theorem s_statement {K : zS → Prop} (hS : SrM σ f n p) (hm : σ.1 26 = m) (hw : WF m) {hi co : Nat} (hhi : hi < 2) (hco : co < 2) (h20 : σ.1 24 20 = iI ((hi : Int) + 2 * co)) (H : pStat f n p m hi co (MTe K σ) (MTo K σ f n)) : CT g l M_X7_statement 0 [.ref (zad g 24)] σ (zQv K X) := by
  have bits := hc_bit hhi hco
  have ex := fun {w v : Nat} (hw : w < 14) (hv : v < 14) (hne : w ≠ v) (h : isWq f n p w) (h' : isWq f n p v) => hne (isWd_1 hw hv ((isWd_q hw).mpr h) ((isWd_q hv).mpr h'))
  have once : ∀ {x b mx : Nat} {hi' co' : Nat}, x < 1110 → b < 2 → mx < 2000 → (iI ((hi : Int) + 2 * co) ||| (1 <<< (iI b &&& 31))) = iI ((hi' : Int) + 2 * co') → ztK f n p = 2 → (if (hi + 2 * co).testBit b = true then MTe K σ 3 (ztS f n p) else pNum f n (ztE f n p) 1 mx (MTe K σ) (fun v q => pSign f n q 59 (MTe K σ) (fun q' => MTo K σ f n q' (upd m x (iI v)) hi' co'))) → CT g l M_X7_readsOnce 0 [.ref (zad g 24), .int (iI x), .int (iI b), .int (iI mx)] σ (zQv (fun τ => CT g l M_X7_mustSign 0 [.ref (zad g 24), .int 59] τ (zQv K X)) X) := fun {x b mx hi' co'} hx hb hmx hbit hk H => by
    refine s_once hS hm hhi hco h20 hx hb hmx hbit hk ?_
    by_cases e : (hi + 2 * co).testBit b = true
    · rw [if_pos e] at H ⊢
      exact fun τ hF hE h26 => s_mustSignE hE (H τ hF hE h26)
    · rw [if_neg e] at H ⊢
      refine pNum_m H (fun c q h τ hF hE h26 => s_mustSignE hE (h τ hF hE h26)) (fun v _ _ _ _ hO τ hF hS2 h26 h20' => ?_)
      refine s_mustSign hS2 (s := 59) (by unfold isG; omega) (pSign_m hO (fun c q hE τ8 f8 e8 => ?_) (fun _ hO τ8 f8 S8 => ?_))
      · refine hE τ8 (hF.tr (F67 f8)) e8 (fun k hk => ?_)
        rw [f8.1 26 (by simp) (by decide), h26, pk_un (by omega), hm]
      · exact hO τ8 (hF.tr (F67 f8)) S8 ((f8.1 26 (by simp) (by decide)).trans h26) ((f8.2.1 20 (by decide)).trans h20')
  unfold pStat at H
  refine b_X7_statement (s_isWord hS (w := 0) (by decide) (by decide +kernel) (fun n0 => ?_) (fun y0 => ?_))
  · rw [if_neg n0] at H
    refine ⟨fun _ => s_isWord hS (w := 3) (by decide) (by decide +kernel) (fun n3 => ?_) (fun y3 => ?_), fun k => absurd rfl k⟩
    · refine ⟨fun _ => s_isWord hS (w := 1) (by decide) (by decide +kernel) (fun n1 => ?_) (fun y1 => ?_), fun k => absurd rfl k⟩
      · rw [if_neg n1] at H
        refine ⟨fun _ => s_isWord hS (w := 2) (by decide) (by decide +kernel) (fun n2 => ?_) (fun y2 => ?_), fun k => absurd rfl k⟩
        · rw [if_neg n2, if_neg n3] at H
          refine ⟨fun _ => s_wrong hS (c := 1) (by decide) (by decide) (fun _ => rfl) (fun τ f1 e1 => s_mustSignE e1 (H τ (f1.sub (by decide) (by decide)) e1 (fun k _ => ?_))), fun k => absurd rfl k⟩
          rw [f1.1 26 (by simp) (by decide)]
        · rw [if_pos y2] at H
          exact ⟨fun k => absurd k (by decide), fun _ => s_boxS hS hm hw h20 y2.1 H⟩
      · rw [if_pos y1] at H
        exact ⟨fun k => absurd k (by decide), fun _ => s_slatS hS hm hw h20 y1.1 H⟩
    · rw [if_neg (fun h => ex (by decide) (by decide) (by decide) h y3), if_neg (fun h => ex (by decide) (by decide) (by decide) h y3), if_pos y3] at H
      unfold pCoat at H
      refine ⟨fun k => absurd k (by decide), fun _ => once (x := 2) (b := 1) (mx := 99) (by decide) (by decide) (by decide) (hc_or1 hhi hco) y3.1 ?_⟩
      by_cases e : co = 1
      · rw [if_pos e] at H; rw [if_pos (bits.2.mpr e)]; exact H
      · rw [if_neg e] at H; rw [if_neg (fun q => e (bits.2.mp q))]; exact H
  · rw [if_pos y0] at H
    unfold pHigh at H
    refine ⟨fun k => absurd k (by decide), fun _ => once (x := 0) (b := 0) (mx := 8) (by decide) (by decide) (by decide) (hc_or0 hhi hco) y0.1 ?_⟩
    by_cases e : hi = 1
    · rw [if_pos e] at H; rw [if_pos (bits.1.mpr e)]; exact H
    · rw [if_neg e] at H; rw [if_neg (fun q => e (bits.1.mp q))]; exact H
end ZMT
