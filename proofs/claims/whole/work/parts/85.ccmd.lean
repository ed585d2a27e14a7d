/-! one command: the class -/
section ZCC
variable {g : zG} {l : Launch} {K : Int32 → zS → Prop} {X : String → zS → Prop} {σ : zS} {m : Nat → Int32}
/-- a command as the class keeps it -/
def cA (σ : zS) (i v s x y z w : Nat) : Prop := σ.1 11 i = iI v ∧ (v = 0 ∨ v = 1 ∨ v = 4 ∨ v = 5 → σ.1 12 i = iI s) ∧ σ.1 (43 + i) 0 = iI x ∧ (v = 1 ∨ v = 5 → σ.1 (43 + i) 1 = iI y) ∧ (v = 5 → σ.1 (43 + i) 2 = iI z ∧ σ.1 (43 + i) 3 = iI w)
theorem in30 {i : Nat} (h : i < 30) : vp_in (iI (i : Int)) 30 := iI_in (by omega) (by omega) (by omega)
theorem c_toSide {s x : Nat} (hs : s < 2) (H : K (iI (sdZ s x)) σ) : CT g l M_X6_toSide 0 [.int (iI x), .int (iI s)] σ (zQi K X) := by
  unfold sdZ at H
  refine b_X6_toSide ?_
  rw [show (0 : Int32) = iI 0 from rfl, iI_eq (by omega) (by omega) (by omega) (by omega)]
  refine ⟨fun h => ?_, fun h => ?_⟩
  · rw [if_neg (by omega)] at H; rw [iI_neg]; exact H
  · rw [if_pos (by omega)] at H; exact H
theorem c_slatP {K : Int32 → zS → Prop} (hN : Nw σ m) (hw : WF m) {x : Nat} (hx : x ≤ 999) (H0 : ¬ x < nS m → K (iI 0) σ) (H1 : x < nS m → K (iI 1) σ) : CT g l M_X0_hasSlat 0 [.ref (zad g 73), .int (iI x)] σ (zQi K X) :=
  c_hasSlat zB_73 hN.1 hw (by unfold I32; omega) (by
    by_cases q : x < nS m
    · rw [bI_T (by omega)]; exact H1 q
    · rw [bI_F (by omega)]; exact H0 q)
theorem c_commandProblem {i v s x y z w : Nat} (hi : i < 30) (hN : Nw σ m) (hw : WF m) (hA : gA v s x y z w) (h : cA σ i v s x y z w) (H0 : gC v s x y z w m → K (iI 0) σ) (H1 : ¬ gC v s x y z w m → ∀ c : Int32, c ≠ iI 0 → K c σ) : CT g l M_X6_commandProblem 0 [.ref (zad g 0), .int (iI i)] σ (zQi K X) := by
  obtain ⟨hv, hs, hx, hy, hz, hww⟩ := hA
  obtain ⟨h2, h4, h3, h5, h67⟩ := h
  have hwb := wf_b hw
  refine b_X6_commandProblem ?_
  rw [iI_tn (by omega) (by omega), Int.toNat_natCast, h2, show Int32.toNatClampNeg 0 = 0 from rfl, show Int32.toNatClampNeg 1 = 1 from rfl, show Int32.toNatClampNeg 2 = 2 from rfl, show Int32.toNatClampNeg 3 = 3 from rfl, h3]
  refine ⟨in30 hi, in30 hi, in30 hi, ?_⟩
  have neq : ∀ k : Nat, k < 100 → iI (v : Int) = nI k → v = k := fun k hk e => by
    rw [iI_n, iI_eq (by omega) (by omega) (by omega) (by omega)] at e
    omega
  rw [iI_ti (by omega) (by omega)]
  refine ⟨fun e => ?_, fun e => ?_, fun e => ?_, fun e => ?_, fun e => ?_, fun e => ?_, fun e => ?_⟩
  · have e6 : v = 6 := by omega
    subst e6
    exact b_X6_swapProblem (c_slatP hN hw hx (fun q => ⟨fun _ => H1 (fun k => q k) _ (by decide), fun k => absurd rfl k⟩) (fun q => ⟨fun k => absurd k (by decide), fun _ => H0 q⟩))
  · obtain rfl := neq 0 (by decide) e
    rw [h4 (by omega)]
    have hb := sdZ_b (s := s) hx
    exact c_toSide hs (c_pullProblem (by unfold I32; omega) (fun q => H0 q) (fun q => H1 (fun k => q k) _ (by decide)))
  · obtain rfl := neq 1 (by decide) e
    rw [h4 (by omega), h5 (by omega)]
    have hb := sdZ_b (s := s) hy
    refine c_toSide hs (b_X6_turnProblem (c_slatP hN hw hx (fun q => ⟨fun k => absurd rfl k, fun _ => H1 (fun k => q (show x < nS m ∧ (-4 ≤ sdZ s y ∧ sdZ s y ≤ 4) ∧ td m x = 0 from k).1) _ (by decide)⟩) (fun q => ⟨fun _ => ?_, fun k => absurd k (by decide)⟩)))
    rw [show (-4 : Int32) = iI (-4) from rfl, show (4 : Int32) = iI 4 from rfl, iI_lt (by omega) (by omega) (by omega) (by omega), iI_le (by omega) (by omega) (by omega) (by omega)]
    refine ⟨fun a => H1 (fun k => by have := (show x < nS m ∧ (-4 ≤ sdZ s y ∧ sdZ s y ≤ 4) ∧ td m x = 0 from k).2.1; omega) _ (by decide), fun a => ⟨fun b => c_isTied zB_73 hN.1 hw q ?_, fun b => H1 (fun k => by have := (show x < nS m ∧ (-4 ≤ sdZ s y ∧ sdZ s y ≤ 4) ∧ td m x = 0 from k).2.1; omega) _ (by decide)⟩⟩
    have := wf_s hw q
    rw [show (0 : Int32) = iI 0 from rfl, iI_eq (by omega) (by omega) (by omega) (by omega)]
    exact ⟨fun c => H0 (show x < nS m ∧ (-4 ≤ sdZ s y ∧ sdZ s y ≤ 4) ∧ td m x = 0 from ⟨q, by omega, by omega⟩), fun c => H1 (fun k => by have := (show x < nS m ∧ (-4 ≤ sdZ s y ∧ sdZ s y ≤ 4) ∧ td m x = 0 from k).2.2; omega) _ (by decide)⟩
  · obtain rfl := neq 2 (by decide) e
    refine b_X6_tieProblem (c_slatP hN hw hx (fun q => ⟨fun k => absurd rfl k, fun _ => H1 (fun k => q (show x < nS m ∧ td m x = 0 from k).1) _ (by decide)⟩) (fun q => ⟨fun _ => c_isTied zB_73 hN.1 hw q ?_, fun k => absurd k (by decide)⟩))
    have := wf_s hw q
    rw [show (1 : Int32) = iI 1 from rfl, iI_eq (by omega) (by omega) (by omega) (by omega)]
    exact ⟨fun c => H0 (show x < nS m ∧ td m x = 0 from ⟨q, by omega⟩), fun c => H1 (fun k => by have := (show x < nS m ∧ td m x = 0 from k).2; omega) _ (by decide)⟩
  · obtain rfl := neq 3 (by decide) e
    refine b_X6_tieProblem (c_slatP hN hw hx (fun q => ⟨fun k => absurd rfl k, fun _ => H1 (fun k => q (show x < nS m ∧ td m x ≠ 0 from k).1) _ (by decide)⟩) (fun q => ⟨fun _ => c_isTied zB_73 hN.1 hw q ?_, fun k => absurd k (by decide)⟩))
    have := wf_s hw q
    rw [show (0 : Int32) = iI 0 from rfl, iI_eq (by omega) (by omega) (by omega) (by omega)]
    exact ⟨fun c => H0 (show x < nS m ∧ td m x ≠ 0 from ⟨q, by omega⟩), fun c => H1 (fun k => by have := (show x < nS m ∧ td m x ≠ 0 from k).2; omega) _ (by decide)⟩
  · obtain rfl := neq 4 (by decide) e
    rw [h4 (by omega)]
    refine b_X6_paintProblem (c_slatP hN hw hx (fun q => ⟨fun k => absurd rfl k, fun _ => H1 (fun k => q (show x < nS m ∧ ct m x s < nC m from k).1) _ (by decide)⟩) (fun q => ⟨fun _ => c_bearsCoat zB_73 hN.1 hw q hs ?_, fun k => absurd k (by decide)⟩))
    by_cases c : ct m x s < nC m
    · rw [bI_T c]; exact ⟨fun k => absurd k (by decide), fun _ => H0 (show x < nS m ∧ ct m x s < nC m from ⟨q, c⟩)⟩
    · rw [bI_F c]; exact ⟨fun _ => H1 (fun k => c (show x < nS m ∧ ct m x s < nC m from k).2) _ (by decide), fun k => absurd rfl k⟩
  · obtain rfl := neq 5 (by decide) e
    rw [h5 (by omega), (h67 rfl).1, (h67 rfl).2]
    refine b_X6_dabProblem (c_hasFaceCell zB_73 hN.1 hw (by unfold I32; omega) (by unfold I32; omega) (by unfold I32; omega) ?_)
    by_cases q : x < nS m ∧ y < wd m x ∧ z < nH m
    · rw [bI_T (by rw [Int.toNat_natCast]; omega)]
      refine ⟨fun k => absurd k (by decide), fun _ => c_colourProblem (by unfold I32; omega) (fun c => H0 (show x < nS m ∧ y < wd m x ∧ z < nH m ∧ w ≤ 9 from ⟨q.1, q.2.1, q.2.2, by omega⟩)) (fun c => H1 (fun k => c ?_) _ (by decide))⟩
      have := (show x < nS m ∧ y < wd m x ∧ z < nH m ∧ w ≤ 9 from k).2.2.2
      omega
    · rw [bI_F (by rw [Int.toNat_natCast]; omega)]
      exact ⟨fun _ => H1 (fun k => q (by have k2 := (show x < nS m ∧ y < wd m x ∧ z < nH m ∧ w ≤ 9 from k); exact ⟨k2.1, k2.2.1, k2.2.2.1⟩)) _ (by decide), fun k => absurd rfl k⟩
theorem turn_Nw (hN : Nw σ m) (hw : WF m) {k : Nat} (hk : k < nS m) {t : Int} (ht : -4 ≤ t ∧ t ≤ 4) : Nw (zup σ (73 + 3) k (iI t)) (mTurn m k t) := by
  have f2 : FrL LT σ (zup σ (73 + 3) k (iI t)) := (FrL.rf LT σ).up (by decide) _
  refine ⟨r0_tr hN.1 f2 _ hw, RT.wT (fun j hj => ?_) (fun j hj => ?_)⟩
  · have := wf_s hw hj
    (try simp only); split <;> omega
  · rw [zpt_at]
    by_cases e : j = k
    · subst e; rw [pk_us, if_pos rfl]
    · rw [pk_un e, if_neg e]; exact hN.2 j hj
/-- what a command touches -/
def pX (b : Nat) : Prop := b = 0 ∨ pB b
theorem c_doCommand {i v s x y z w dn : Nat} (hi : i < 30) (hN : Nw σ m) (hw : WF m) (hA : gA v s x y z w) (h : cA σ i v s x y z w) (hd : dn < 40) (h10 : σ.1 0 10 = iI dn)
    (H0 : gC v s x y z w m → ∀ τ, FrP pX σ τ → (∀ k, k ≠ 10 → τ.1 0 k = σ.1 0 k) → Nw τ (dC v s x y z w m) → τ.1 0 10 = iI (dn + 1 : Nat) → K (iI (if dn + 1 < 40 then 1 else 0 : Nat)) τ)
    (H1 : ¬ gC v s x y z w m → K (iI 0) σ) : CT g l M_X6_doCommand 0 [.ref (zad g 0), .int (iI i)] σ (zQi K X) := by
  have hA0 := hA
  have h0 := h
  obtain ⟨hv, hs, hx, hy, hz, hww⟩ := hA
  obtain ⟨h2, h4, h3, h5, h67⟩ := h
  have hwb := wf_b hw
  refine b_X6_doCommand (c_commandProblem hi hN hw hA0 h0 (fun hg => ⟨fun _ => ?_, fun k => absurd rfl k⟩) (fun hg c hc => ⟨fun k => absurd k hc, fun _ => H1 hg⟩))
  rw [iI_tn (by omega) (by omega), Int.toNat_natCast, h2, show Int32.toNatClampNeg 0 = 0 from rfl, show Int32.toNatClampNeg 1 = 1 from rfl, show Int32.toNatClampNeg 2 = 2 from rfl, show Int32.toNatClampNeg 3 = 3 from rfl, h3]
  refine ⟨in30 hi, in30 hi, in30 hi, ?_⟩
  have neq : ∀ k : Nat, k < 100 → iI (v : Int) = nI k → v = k := fun k hk e => by
    rw [iI_n, iI_eq (by omega) (by omega) (by omega) (by omega)] at e
    omega
  rw [iI_ti (by omega) (by omega)]
  -- the count
  have fin : ∀ τ, FrP pB σ τ → Nw τ (dC v s x y z w m) → ∀ σ6, σ6 = zup τ 0 10 (τ.1 0 10 + 1) → (40 ≤ σ6.1 0 10 → K 0 σ6) ∧ (¬ 40 ≤ σ6.1 0 10 → K 1 σ6) := fun τ fr hN' σ6 e6 => by
    have t0 : τ.1 0 = σ.1 0 := fr.1 0 (by unfold pB; omega)
    rw [t0, h10, show (1 : Int32) = iI 1 from rfl, iI_add] at e6
    have a10 : σ6.1 0 10 = iI (dn + 1 : Nat) := by rw [e6, zpt_at, pk_us]; rfl
    have o : ∀ b, b ≠ 0 → σ6.1 b = τ.1 b := fun b hb => by rw [e6, zpt_ne hb]
    have key := H0 hg σ6 (by rw [e6]; exact FrP.up (fr.sub (q := pX) (fun b hb => Or.inr hb)) (Or.inl rfl) _) (fun k hk => by rw [e6, zpt_at, pk_un hk, t0]) ((Nw_Nb.mp hN').fr (fun b h1 h2 => o b (by omega))) a10
    rw [a10, show (40 : Int32) = iI 40 from rfl, iI_le (by omega) (by omega) (by omega) (by omega)]
    refine ⟨fun q => ?_, fun q => ?_⟩
    · rw [if_neg (by omega)] at key; exact key
    · rw [if_pos (by omega)] at key; exact key
  refine ⟨fun e => ?_, fun e => ?_, fun e => ?_, fun e => ?_, fun e => ?_, fun e => ?_, fun e => ?_⟩
  · have e6 : v = 6 := by omega
    subst e6
    exact c_swapFaces hN hw hg (fun τ fr hN' => fin τ fr hN')
  · obtain rfl := neq 0 (by decide) e
    rw [h4 (by omega)]
    have hb := sdZ_b (s := s) hx
    exact c_toSide hs (c_pullCord hN hw (by omega) (fun τ fr hN' => fin τ (fr.P LT_pB) hN'))
  · obtain rfl := neq 1 (by decide) e
    have hg' : x < nS m ∧ (-4 ≤ sdZ s y ∧ sdZ s y ≤ 4) ∧ td m x = 0 := hg
    rw [h4 (by omega), h5 (by omega)]
    refine c_toSide hs ⟨iI_in (by omega) (by omega) (by omega), ?_⟩
    intro σ13 e13
    rw [iI_tn (by omega) (by omega), Int.toNat_natCast] at e13
    refine fin σ13 (by rw [e13]; exact (FrP.rf pB σ).up (by unfold pB; omega) _) ?_
    rw [e13]
    exact turn_Nw hN hw hg'.1 hg'.2.1
  · obtain rfl := neq 2 (by decide) e
    have hg' : x < nS m ∧ td m x = 0 := hg
    exact c_setTied (s := 1) hN hw hg'.1 (by decide) (fun τ fr hN' => fin τ fr hN')
  · obtain rfl := neq 3 (by decide) e
    have hg' : x < nS m ∧ td m x ≠ 0 := hg
    exact c_setTied (s := 0) hN hw hg'.1 (by decide) (fun τ fr hN' => fin τ fr hN')
  · obtain rfl := neq 4 (by decide) e
    have hg' : x < nS m ∧ ct m x s < nC m := hg
    rw [h4 (by omega)]
    exact c_paintFace hN hw hg'.1 hs (by omega) (fun τ fr hN' => fin τ fr hN')
  · obtain rfl := neq 5 (by decide) e
    have hg' : x < nS m ∧ y < wd m x ∧ z < nH m ∧ w ≤ 9 := hg
    rw [h4 (by omega), h5 (by omega), (h67 rfl).1, (h67 rfl).2]
    exact c_dabCell hN hw hg'.1 hs hg'.2.1 hg'.2.2.1 hg'.2.2.2 (fun τ fr hN' => fin τ fr hN')
end ZCC
