/-! the class: a script read -/
section ZCSc
variable {g : zG} {l : Launch} {K : Int32 → zS → Prop} {X : String → zS → Prop} {σ A B : zS} {f : Nat → Nat} {n p : Nat} {P : Den}
theorem pV_is {j : Nat} (hj : j < 8) (h1 : ∀ i, i < j → ¬ isWq f n p (6 + i)) (h2 : isWq f n p (6 + j)) : pV f n p = j := by
  unfold pV
  rcases (by omega : j = 0 ∨ j = 1 ∨ j = 2 ∨ j = 3 ∨ j = 4 ∨ j = 5 ∨ j = 6 ∨ j = 7) with e | e | e | e | e | e | e | e <;> subst e
  · rw [if_pos h2]
  · rw [if_neg (h1 0 (by decide)), if_pos h2]
  · rw [if_neg (h1 0 (by decide)), if_neg (h1 1 (by decide)), if_pos h2]
  · rw [if_neg (h1 0 (by decide)), if_neg (h1 1 (by decide)), if_neg (h1 2 (by decide)), if_pos h2]
  · rw [if_neg (h1 0 (by decide)), if_neg (h1 1 (by decide)), if_neg (h1 2 (by decide)), if_neg (h1 3 (by decide)), if_pos h2]
  · rw [if_neg (h1 0 (by decide)), if_neg (h1 1 (by decide)), if_neg (h1 2 (by decide)), if_neg (h1 3 (by decide)), if_neg (h1 4 (by decide)), if_pos h2]
  · rw [if_neg (h1 0 (by decide)), if_neg (h1 1 (by decide)), if_neg (h1 2 (by decide)), if_neg (h1 3 (by decide)), if_neg (h1 4 (by decide)), if_neg (h1 5 (by decide)), if_pos h2]
  · rw [if_neg (h1 0 (by decide)), if_neg (h1 1 (by decide)), if_neg (h1 2 (by decide)), if_neg (h1 3 (by decide)), if_neg (h1 4 (by decide)), if_neg (h1 5 (by decide)), if_neg (h1 6 (by decide)), if_pos h2]
theorem pV_no (h1 : ∀ i, i < 8 → ¬ isWq f n p (6 + i)) : pV f n p = 8 := by
  unfold pV
  rw [if_neg (h1 0 (by decide)), if_neg (h1 1 (by decide)), if_neg (h1 2 (by decide)), if_neg (h1 3 (by decide)), if_neg (h1 4 (by decide)), if_neg (h1 5 (by decide)), if_neg (h1 6 (by decide)), if_neg (h1 7 (by decide))]
theorem c_wordOf {K : Nat → zS → Prop} {j : Nat} (hj : j < 8) (H : K (6 + j) σ) : CT g l M_X2_wordOf 0 [.int (iI j)] σ (zQs g K X) := by
  refine b_X2_wordOf ?_
  rw [iI_ti (by omega) (by omega)]
  have neq : ∀ k : Nat, k < 100 → iI (j : Int) = nI k → j = k := fun k hk e => by
    rw [iI_n, iI_eq (by omega) (by omega) (by omega) (by omega)] at e
    omega
  refine ⟨fun e => ?_, fun e => ?_, fun e => ?_, fun e => ?_, fun e => ?_, fun e => ?_, fun e => ?_, fun e => ?_⟩
  · obtain rfl : j = 7 := by omega
    exact H
  · obtain rfl := neq 0 (by decide) e; exact H
  · obtain rfl := neq 1 (by decide) e; exact H
  · obtain rfl := neq 2 (by decide) e; exact H
  · obtain rfl := neq 3 (by decide) e; exact H
  · obtain rfl := neq 4 (by decide) e; exact H
  · obtain rfl := neq 5 (by decide) e; exact H
  · obtain rfl := neq 6 (by decide) e; exact H
theorem c_verb_2 (hS : SrC σ f n p) (H0 : pV f n p = 8 → K (iI (-1)) σ) (H1 : pV f n p < 8 → K (iI (pV f n p)) σ) (j : Nat) (hj : j ≤ 8) (hno : ∀ i, i < j → ¬ isWq f n p (6 + i)) : L_X2_verbHere_2 g l K X (iI j) σ := by
  have ih := fun h a => c_verb_2 hS H0 H1 (j + 1) h a
  refine b_X2_verbHere_2 ?_
  rw [show (7 : Int32) = iI 7 from rfl, iI_lt (by omega) (by omega) (by omega) (by omega)]
  refine ⟨fun h => ?_, fun h => c_wordOf (by omega) ⟨by omega, c_isAtWord hS (by omega) (fun q => ⟨fun _ => ?_, fun k => absurd rfl k⟩) (fun q => ⟨fun k => absurd k (by decide), fun _ => ?_⟩)⟩⟩
  · obtain rfl : j = 8 := by omega
    exact H0 (pV_no hno)
  · rw [show (1 : Int32) = iI 1 from rfl, iI_add]
    refine ih (by omega) (fun i hi => ?_)
    by_cases e : i = j
    · subst e; exact fun k => q ((isWd_q (by omega)).mpr k)
    · exact hno i (by omega)
  · have e := pV_is (j := j) (by omega) hno ((isWd_q (by omega)).mp q)
    have := H1 (by omega)
    rw [e] at this
    exact this
termination_by 8 - j
theorem c_verbHere (hS : SrC σ f n p) (H0 : pV f n p = 8 → K (iI (-1)) σ) (H1 : pV f n p < 8 → K (iI (pV f n p)) σ) : CT g l M_X2_verbHere 0 [.ref (zad g 10)] σ (zQi K X) :=
  b_X2_verbHere (c_verb_2 hS H0 H1 0 (by decide) (fun i hi => absurd hi (Nat.not_lt_zero i)))
def FrK (kk : Nat) (σ τ : zS) : Prop := (∀ b, b ≠ 1 → b ≠ 12 → b ≠ 43 + kk → τ.1 b = σ.1 b) ∧ (∀ q, q ≠ kk → τ.1 12 q = σ.1 12 q) ∧ τ.2 = σ.2
theorem FrK.rf (kk : Nat) (σ : zS) : FrK kk σ σ := ⟨fun _ _ _ _ => rfl, fun _ _ => rfl, rfl⟩
theorem FrK.tr {kk : Nat} {τ υ : zS} (h : FrK kk σ τ) (h' : FrK kk τ υ) : FrK kk σ υ := ⟨fun b x y z => (h'.1 b x y z).trans (h.1 b x y z), fun q hq => (h'.2.1 q hq).trans (h.2.1 q hq), h'.2.2.trans h.2.2⟩
theorem FrK.E {kk : Nat} {τ : zS} (h : FrP pE σ τ) : FrK kk σ τ := ⟨fun b x _ _ => h.1 b x, fun q _ => by rw [h.1 12 (by unfold pE; omega)], h.2⟩
def CKe (K : Int32 → zS → Prop) (σ : zS) (n kk : Nat) : Nat → Nat → Prop := fun c q => ∀ τ, FrK kk σ τ → τ.1 1 1 = iI n → ErC τ c q → K (iI 0) τ
theorem c_partN {w j kk num : Nat} (hw : w < 19) (hj : j < zLen.getD w 0) (hch : (zByt.getD w []).getD j 0 = 78) (hS : SrC σ f n p) (hn4 : num < 4) (hk : kk < 30) (H : pNum f n p 0 999 (CKe K σ n kk) (fun v q => ∀ τ, FrK kk σ τ → τ.1 12 = σ.1 12 → SrC τ f n q → τ.1 (43 + kk) = upd (σ.1 (43 + kk)) num (iI v) → L_X2_readParts_5 g l K X w (iI kk) (iI (num + 1 : Nat)) (iI (j + 1 : Nat)) τ)) : L_X2_readParts_5 g l K X w (iI kk) (iI num) (iI j) σ := by
  have hz := zLen_small w hw
  refine b_X2_readParts_5 hw ?_
  rw [iI_n, iI_le (by omega) (by omega) (by omega) (by omega), iI_tn (by omega) (by omega), Int.toNat_natCast, hch]
  refine ⟨fun h => by omega, fun _ => ⟨iI_in (by omega) (by omega) (by omega), fun _ => ?_, fun h => absurd h (by decide)⟩⟩
  refine c_takeNumber hS (lo := 0) (hi := 999) (by decide) (by decide) (pNum_m H (fun c q hE τ fr a e => ⟨fun h => absurd rfl h, fun _ => hE τ (FrK.E fr) a e⟩) (fun v _ _ hv _ hO τ fr S => ⟨fun _ => ?_, fun h => absurd h (m1_ne (by omega))⟩))
  rw [show (4 : Int32) = iI 4 from rfl, iI_le (by omega) (by omega) (by omega) (by omega)]
  refine ⟨fun h => by omega, fun _ => ⟨in30 hk, iI_in (by omega) (by omega) (by omega), ?_⟩⟩
  intro σ9 e9
  rw [iI_tn (by omega) (by omega), Int.toNat_natCast, iI_tn (by omega) (by omega), Int.toNat_natCast] at e9
  rw [show (1 : Int32) = iI 1 from rfl, iI_add, iI_add]
  have fe : ∀ b, b ≠ 1 → τ.1 b = σ.1 b := fun b hb => fr.1 b hb
  refine hO σ9 ⟨fun b x y z => by rw [e9, zpt_ne z, fe b x], fun q _ => by rw [e9, zpt_ne (by omega), fe 12 (by decide)], by rw [e9]; exact fr.2⟩ (by rw [e9, zpt_ne (by omega), fe 12 (by decide)]) (S.fr (by rw [e9, zpt_ne (by omega)]) (by rw [e9, zpt_ne (by omega)])) ?_
  rw [e9, zpt_at, fe _ (by omega)]
theorem c_partS {w j kk num : Nat} (hw : w < 19) (hj : j < zLen.getD w 0) (hch : (zByt.getD w []).getD j 0 = 83) (hS : SrC σ f n p) (hk : kk < 30) (H : pSide f n p (CKe K σ n kk) (fun s q => ∀ τ, FrK kk σ τ → τ.1 12 = upd (σ.1 12) kk (iI s) → SrC τ f n q → τ.1 (43 + kk) = σ.1 (43 + kk) → L_X2_readParts_5 g l K X w (iI kk) (iI num) (iI (j + 1 : Nat)) τ)) : L_X2_readParts_5 g l K X w (iI kk) (iI num) (iI j) σ := by
  have hz := zLen_small w hw
  refine b_X2_readParts_5 hw ?_
  rw [iI_n, iI_le (by omega) (by omega) (by omega) (by omega), iI_tn (by omega) (by omega), Int.toNat_natCast, hch]
  refine ⟨fun h => by omega, fun _ => ⟨iI_in (by omega) (by omega) (by omega), fun h => absurd rfl h, fun _ => ?_⟩⟩
  refine c_takeSide hS (pSide_m H (fun c q hE τ fr a e => ⟨fun h => absurd rfl h, fun _ => hE τ (FrK.E fr) a e⟩) (fun s hs _ hO τ fr S => ⟨fun _ => ?_, fun h => absurd h (m1_ne (by omega))⟩))
  have fe : ∀ b, b ≠ 1 → τ.1 b = σ.1 b := fun b hb => fr.1 b hb
  have go : ∀ (v : Int32) (σ9 : zS), v = iI s → σ9 = zup τ 12 kk v → L_X2_readParts_5 g l K X w (iI kk) (iI num) (iI (j + 1 : Nat)) σ9 := fun v σ9 ev e9 =>
    hO σ9 ⟨fun b x y z => by rw [e9, zpt_ne y, fe b x], fun q hq => by rw [e9, zpt_at, pk_un hq, fe 12 (by decide)], by rw [e9]; exact fr.2⟩ (by rw [e9, zpt_at, fe 12 (by decide), ev]) (S.fr (by rw [e9, zpt_ne (by decide)]) (by rw [e9, zpt_ne (by decide)])) (by rw [e9, zpt_ne (by omega), fe _ (by omega)])
  rw [show (1 : Int32) = iI 1 from rfl, iI_eq (by omega) (by omega) (by omega) (by omega), iI_add]
  refine ⟨fun h => ⟨in30 hk, fun σ15 e15 => go (vp_nar .boolean 0) σ15 ?_ (e15.trans (by rw [iI_tn (by omega) (by omega), Int.toNat_natCast]))⟩, fun h => ⟨in30 hk, fun σ16 e16 => go (vp_nar .boolean (iI 1)) σ16 ?_ (e16.trans (by rw [iI_tn (by omega) (by omega), Int.toNat_natCast]))⟩⟩
  · rw [show s = 0 by omega]; rfl
  · rw [show s = 1 by omega]; rfl
theorem c_partE {w j kk num : Nat} (hw : w < 19) (hj : zLen.getD w 0 = j) (H : K (iI 1) σ) : L_X2_readParts_5 g l K X w (iI kk) (iI num) (iI j) σ := by
  have hz := zLen_small w hw
  refine b_X2_readParts_5 hw ?_
  rw [iI_n, iI_le (by omega) (by omega) (by omega) (by omega)]
  exact ⟨fun _ => H, fun h => by omega⟩
theorem CKe.mo {kk c q : Nat} {τ : zS} (h : CKe K σ n kk c q) (hF : FrK kk σ τ) : CKe K τ n kk c q := fun υ fr a e => h υ (hF.tr fr) a e
/-- the parts of a command -/
theorem c_readParts {v kk : Nat} (hv : v ≤ 6) (hk : kk < 30) (hS : SrC σ f n p) (H : pArg f n p v (CKe K σ n kk) (fun s x y z w q => ∀ τ, FrK kk σ τ → SrC τ f n q → (v = 0 ∨ v = 1 ∨ v = 4 ∨ v = 5 → τ.1 12 kk = iI s) → τ.1 (43 + kk) 0 = iI x → (v = 1 ∨ v = 5 → τ.1 (43 + kk) 1 = iI y) → (v = 5 → τ.1 (43 + kk) 2 = iI z ∧ τ.1 (43 + kk) 3 = iI w) → K (iI 1) τ)) : CT g l M_X2_partsOf 0 [.int (iI v)] σ (zQs g (fun v9 τ9 => v9 < 19 ∧ CT g l M_X2_readParts 0 [.ref (zad g 10), .int (iI kk), .ref (g.2.2.2.2.1 v9)] τ9 (zQi K X)) X) := by
  unfold pArg at H
  refine b_X2_partsOf ?_
  rw [iI_ti (by omega) (by omega)]
  have neq : ∀ k : Nat, k < 100 → iI (v : Int) = nI k → v = k := fun k hk e => by
    rw [iI_n, iI_eq (by omega) (by omega) (by omega) (by omega)] at e
    omega
  have one : v ≠ 0 → v ≠ 1 → v ≠ 4 → v ≠ 5 → CT g l M_X2_readParts 0 [.ref (zad g 10), .int (iI kk), .ref (g.2.2.2.2.1 18)] σ (zQi K X) := fun e0 e1 e4 e5 => by
    rw [if_neg e0, if_neg e1, if_neg e4, if_neg e5] at H
    refine b_X2_readParts (by decide) (c_partN (j := 0) (num := 0) (by decide) (by decide) (by decide) hS (by decide) hk (pNum_m H (fun c q h => h) (fun x _ _ hx _ hO τ fr _ S e => c_partE (by decide) (by decide) (hO τ fr S (fun h => by omega) ?_ (fun h => by omega) (fun h => by omega)))))
    rw [e, pk_us]
  refine ⟨fun e => ⟨by decide, one (by omega) (by omega) (by omega) (by omega)⟩, fun e => ⟨by decide, ?_⟩, fun e => ⟨by decide, ?_⟩, fun e => ⟨by decide, ?_⟩, fun e => ⟨by decide, ?_⟩, fun e => ⟨by decide, ?_⟩, fun e => ⟨by decide, ?_⟩⟩
  · obtain rfl := neq 0 (by decide) e
    rw [if_pos rfl] at H
    refine b_X2_readParts (by decide) (c_partS (j := 0) (num := 0) (by decide) (by decide) (by decide) hS hk (pSide_m H (fun c q h => h) (fun s _ _ hO τ1 f1 a1 S1 b1 => c_partN (j := 1) (num := 0) (by decide) (by decide) (by decide) S1 (by decide) hk (pNum_m hO (fun c q h => h.mo f1) (fun x _ _ _ _ hO τ2 f2 a2 S2 b2 => c_partE (by decide) (by decide) (hO τ2 (f1.tr f2) S2 (fun _ => ?_) ?_ (fun h => by omega) (fun h => by omega)))))))
    · rw [a2, a1, pk_us]
    · rw [b2, pk_us]
  · obtain rfl := neq 1 (by decide) e
    rw [if_neg (by decide), if_pos rfl] at H
    refine b_X2_readParts (by decide) (c_partN (j := 0) (num := 0) (by decide) (by decide) (by decide) hS (by decide) hk (pNum_m H (fun c q h => h) (fun x _ _ _ _ hO τ1 f1 a1 S1 b1 => c_partS (j := 1) (num := 1) (by decide) (by decide) (by decide) S1 hk (pSide_m hO (fun c q h => h.mo f1) (fun s _ _ hO τ2 f2 a2 S2 b2 => c_partN (j := 2) (num := 1) (by decide) (by decide) (by decide) S2 (by decide) hk (pNum_m hO (fun c q h => h.mo (f1.tr f2)) (fun y _ _ _ _ hO τ3 f3 a3 S3 b3 => c_partE (by decide) (by decide) (hO τ3 ((f1.tr f2).tr f3) S3 (fun _ => ?_) ?_ (fun _ => ?_) (fun h => by omega)))))))))
    · rw [a3, a2, pk_us]
    · rw [b3, pk_un (by decide), b2, b1, pk_us]
    · rw [b3, pk_us]
  · obtain rfl := neq 2 (by decide) e
    exact one (by decide) (by decide) (by decide) (by decide)
  · obtain rfl := neq 3 (by decide) e
    exact one (by decide) (by decide) (by decide) (by decide)
  · obtain rfl := neq 4 (by decide) e
    rw [if_neg (by decide), if_neg (by decide), if_pos rfl] at H
    refine b_X2_readParts (by decide) (c_partN (j := 0) (num := 0) (by decide) (by decide) (by decide) hS (by decide) hk (pNum_m H (fun c q h => h) (fun x _ _ _ _ hO τ1 f1 a1 S1 b1 => c_partS (j := 1) (num := 1) (by decide) (by decide) (by decide) S1 hk (pSide_m hO (fun c q h => h.mo f1) (fun s _ _ hO τ2 f2 a2 S2 b2 => c_partE (by decide) (by decide) (hO τ2 (f1.tr f2) S2 (fun _ => ?_) ?_ (fun h => by omega) (fun h => by omega)))))))
    · rw [a2, pk_us]
    · rw [b2, b1, pk_us]
  · obtain rfl := neq 5 (by decide) e
    rw [if_neg (by decide), if_neg (by decide), if_neg (by decide), if_pos rfl] at H
    refine b_X2_readParts (by decide) (c_partN (j := 0) (num := 0) (by decide) (by decide) (by decide) hS (by decide) hk (pNum_m H (fun c q h => h) (fun x _ _ _ _ hO τ1 f1 a1 S1 b1 => c_partS (j := 1) (num := 1) (by decide) (by decide) (by decide) S1 hk (pSide_m hO (fun c q h => h.mo f1) (fun s _ _ hO τ2 f2 a2 S2 b2 => c_partN (j := 2) (num := 1) (by decide) (by decide) (by decide) S2 (by decide) hk (pNum_m hO (fun c q h => h.mo (f1.tr f2)) (fun y _ _ _ _ hO τ3 f3 a3 S3 b3 => c_partN (j := 3) (num := 2) (by decide) (by decide) (by decide) S3 (by decide) hk (pNum_m hO (fun c q h => h.mo ((f1.tr f2).tr f3)) (fun z _ _ _ _ hO τ4 f4 a4 S4 b4 => c_partN (j := 4) (num := 3) (by decide) (by decide) (by decide) S4 (by decide) hk (pNum_m hO (fun c q h => h.mo (((f1.tr f2).tr f3).tr f4)) (fun w _ _ _ _ hO τ5 f5 a5 S5 b5 => c_partE (by decide) (by decide) (hO τ5 ((((f1.tr f2).tr f3).tr f4).tr f5) S5 (fun _ => ?_) ?_ (fun _ => ?_) (fun _ => ⟨?_, ?_⟩)))))))))))))
    · rw [a5, a4, a3, a2, pk_us]
    · rw [b5, pk_un (by decide), b4, pk_un (by decide), b3, pk_un (by decide), b2, b1, pk_us]
    · rw [b5, pk_un (by decide), b4, pk_un (by decide), b3, pk_us]
    · rw [b5, pk_un (by decide), b4, pk_us]
    · rw [b5, pk_us]
end ZCSc
