/-! one command: the rows after it, the reference's may() and does() -/
section ZMC
variable {g : zG} {l : Launch} {K : Int32 → zS → Prop} {X : String → zS → Prop} {σ : zS} {m : Nat → Int32}
def gA (v s x y z w : Nat) : Prop := v ≤ 6 ∧ s < 2 ∧ x ≤ 999 ∧ y ≤ 999 ∧ z ≤ 999 ∧ w ≤ 999
theorem sdZ_b {s x : Nat} (hx : x ≤ 999) : -999 ≤ sdZ s x ∧ sdZ s x ≤ 999 := by unfold sdZ; split <;> omega
theorem dC_wf (hw : WF m) {v s x y z w : Nat} (hA : gA v s x y z w) (hg : gC v s x y z w m) : WF (dC v s x y z w m) := by
  obtain ⟨hv, hs, hx, hy, hz, hww⟩ := hA
  have hwb := wf_b hw
  unfold gC at hg
  unfold dC
  by_cases e0 : v = 0
  · rw [if_pos e0] at hg ⊢
    refine wT_wf hw (fun k hk => ?_)
    have := wf_s hw hk
    unfold plT
    split <;> omega
  rw [if_neg e0] at hg ⊢
  by_cases e1 : v = 1
  · rw [if_pos e1] at hg ⊢
    refine wT_wf hw (fun k hk => ?_)
    have := wf_s hw hk
    split <;> omega
  rw [if_neg e1] at hg ⊢
  by_cases e2 : v = 2
  · rw [if_pos e2] at hg ⊢; exact mTie_wf hw hg.1 (by decide)
  rw [if_neg e2] at hg ⊢
  by_cases e3 : v = 3
  · rw [if_pos e3] at hg ⊢; exact mTie_wf hw hg.1 (by decide)
  rw [if_neg e3] at hg ⊢
  by_cases e4 : v = 4
  · rw [if_pos e4] at hg ⊢
    have w1 : WF (mCoat m x s (ct m x s + 1)) := mCoat_wf hw hg.1 hs (by omega)
    have e : rpF (mCoat m x s (ct m x s + 1)) x s = rpF m x s := mCoat_rpF hw hg.1 hs
    unfold mPaint
    exact wF_wf w1 (rpF_9 hw x s)
  rw [if_neg e4] at hg ⊢
  by_cases e5 : v = 5
  · rw [if_pos e5] at hg ⊢
    refine wF_wf hw (fun s' c r h1 h2 h3 => ?_)
    have := wf_f9 hw h1 h2 h3
    split <;> omega
  rw [if_neg e5] at hg ⊢
  have a0 := (wf_s hw hg).2.2.2.2.2.1
  have a1 := (wf_s hw hg).2.2.2.2.2.2
  have hb := mCoat_b (m := m) (k := x) (s := 0) (v := ct m x 1) (by omega) (by decide)
  have w1 : WF (mCoat m x 0 (ct m x 1)) := mCoat_wf hw hg (by decide) a1
  have w2 : WF (mCoat (mCoat m x 0 (ct m x 1)) x 1 (ct m x 0)) := mCoat_wf w1 (by rw [hb.1.e_nS]; exact hg) (by decide) a0
  unfold mSwap
  exact wF_wf w2 (swF_9 hw x)
theorem ct_up {k : Nat} {v : Int32} (hc : Ct m) (hk : k < 1110) : Ct (upd m k v) := fun j hj => by rw [pk_un (by omega)]; exact hc j hj
theorem ct_wF {F : Nat → Nat → Nat → Nat} (hc : Ct m) : Ct (wF m F) := fun j hj => by rw [wF_q (Or.inr hj)]; exact hc j hj
theorem ct_wT {t : Nat → Int} (hc : Ct m) (hn : nS m ≤ 10) : Ct (wT m t) := fun j hj => by rw [wT_q (by omega)]; exact hc j hj
theorem dC_Ct (hc : Ct m) (hw : WF m) {v s x y z w : Nat} (hA : gA v s x y z w) (hg : gC v s x y z w m) : Ct (dC v s x y z w m) := by
  obtain ⟨hv, hs, hx, hy, hz, hww⟩ := hA
  have hwb := wf_b hw
  have hx2 : v ≠ 0 → x < nS m := fun h => by
    unfold gC at hg
    rw [if_neg h] at hg
    revert hg
    repeat' split
    all_goals intro hg
    all_goals first | exact hg.1 | exact hg
  unfold dC
  repeat' split
  · exact ct_wT hc hwb.2.2.1
  · exact ct_wT hc hwb.2.2.1
  · exact ct_up hc (by have := hx2 (by omega); omega)
  · exact ct_up hc (by have := hx2 (by omega); omega)
  · exact ct_wF (ct_up hc (by have := hx2 (by omega); omega))
  · exact ct_wF hc
  · exact ct_wF (ct_up (ct_up hc (by have := hx2 (by omega); omega)) (by have := hx2 (by omega); omega))
/-- a command as the reference keeps it -/
def mA (σ : zS) (i v s x y z w : Nat) : Prop := σ.1 32 i = iI v ∧ (v = 0 ∨ v = 1 ∨ v = 4 ∨ v = 5 → σ.1 34 i = iI s) ∧ (v ≠ 0 → σ.1 33 i = iI x) ∧ (v = 0 → σ.1 35 i = iI x) ∧ (v = 1 ∨ v = 5 → σ.1 35 i = iI y) ∧ (v = 5 → σ.1 36 i = iI z ∧ σ.1 37 i = iI w)
theorem s_sided {i s x : Nat} (hi : i < 60) (hs : s < 2) (h4 : σ.1 34 i = iI s) (h5 : σ.1 35 i = iI x) (H : K (iI (sdZ s x)) σ) : CT g l M_X7_sided 0 [.ref (zad g 24), .int (iI i)] σ (zQi K X) := by
  unfold sdZ at H
  refine b_X7_sided ?_
  rw [iI_tn (by omega) (by omega), Int.toNat_natCast, h4, h5, show (1 : Int32) = iI 1 from rfl, iI_eq (by omega) (by omega) (by omega) (by omega)]
  have hin := in60 hi (Nat.le_refl 60)
  refine ⟨hin, fun h => ⟨hin, ?_⟩, fun h => ⟨hin, ?_⟩⟩
  · rw [if_neg (by omega)] at H; rw [iI_neg]; exact H
  · rw [if_pos (by omega)] at H; exact H
theorem bI_z {p : Prop} [Decidable p] : zbl (bI p) := by
  unfold bI
  split
  · exact Or.inr rfl
  · exact Or.inl rfl
theorem s_may {i v s x y z w : Nat} (hi : i < 60) (hm : σ.1 26 = m) (hw : WF m) (hA : gA v s x y z w) (h : mA σ i v s x y z w) (H0 : ¬ gC v s x y z w m → K (iI 0) σ) (H1 : gC v s x y z w m → K (iI 1) σ) : CT g l M_X7_may 0 [.ref (zad g 24), .int (iI i)] σ (zQi K X) := by
  obtain ⟨hv, hs, hx, hy, hz, hww⟩ := hA
  obtain ⟨h2, h4, h3, h50, h5, h67⟩ := h
  have hin := in60 hi (Nat.le_refl 60)
  have bs : ∀ (p : Prop) [Decidable p], (p ↔ gC v s x y z w m) → zbl (bI p) ∧ K (bI p) σ := fun p _ e => ⟨bI_z, by
    by_cases q : p
    · rw [bI_T q]; exact H1 (e.mp q)
    · rw [bI_F q]; exact H0 (fun k => q (e.mpr k))⟩
  have slat : ∀ (K' : Int32 → zS → Prop), (¬ x < nS m → K' (iI 0) σ) → (x < nS m → K' (iI 1) σ) → CT g l M_X7_isSlat 0 [.ref (zad g 24), .int (iI x)] σ (zQi K' X) := fun K' a b => s_isSlat hm hw (by omega) (by
    by_cases q : x < nS m
    · rw [bI_T (by omega)]; exact b q
    · rw [bI_F (by omega)]; exact a q)
  refine b_X7_may ?_
  rw [iI_tn (by omega) (by omega), Int.toNat_natCast, h2]
  refine ⟨hin, hin, ?_⟩
  have neq : ∀ k : Nat, k < 100 → iI (v : Int) = nI k → v = k := fun k hk e => by
    rw [iI_n, iI_eq (by omega) (by omega) (by omega) (by omega)] at e
    omega
  rw [iI_ti (by omega) (by omega)]
  refine ⟨fun e => ?_, fun e => ?_, fun e => ?_, fun e => ?_, fun e => ?_, fun e => ?_, fun e => ?_⟩
  · have e6 : v = 6 := by omega
    rw [h3 (by omega)]
    refine slat _ (fun q => ⟨Or.inl rfl, H0 (fun k => q ?_)⟩) (fun q => ⟨Or.inr rfl, H1 ?_⟩)
    · unfold gC at k; subst e6; exact k
    · unfold gC; subst e6; exact q
  · obtain rfl := neq 0 (by decide) e
    refine s_sided hi hs (h4 (by omega)) (h50 rfl) ?_
    have hb := sdZ_b (s := s) hx
    refine s_isPull (by omega) (bs _ ?_)
    unfold gC; rw [if_pos rfl]
  · obtain rfl := neq 1 (by decide) e
    have hb := sdZ_b (s := s) hy
    rw [h3 (by decide)]
    refine slat _ (fun q => ⟨fun _ => H0 (fun k => q ?_), fun k => absurd rfl k⟩) (fun q => ⟨fun k => absurd k (by decide), fun _ => ?_⟩)
    · unfold gC at k; rw [if_neg (by decide), if_pos rfl] at k; exact k.1
    · refine s_sided hi hs (h4 (by omega)) (h5 (by omega)) (s_isTurn (by omega) ?_)
      by_cases q2 : -4 ≤ sdZ s y ∧ sdZ s y ≤ 4
      · rw [bI_T q2]
        refine ⟨fun k => absurd k (by decide), fun _ => s_isFree hm hw q ?_⟩
        by_cases q3 : td m x = 0
        · rw [bI_T q3]; exact ⟨fun k => absurd k (by decide), fun _ => H1 (by unfold gC; rw [if_neg (by decide), if_pos rfl]; exact ⟨q, q2, q3⟩)⟩
        · rw [bI_F q3]; exact ⟨fun _ => H0 (fun k => q3 (by unfold gC at k; rw [if_neg (by decide), if_pos rfl] at k; exact k.2.2)), fun k => absurd rfl k⟩
      · rw [bI_F q2]
        exact ⟨fun _ => H0 (fun k => q2 (by unfold gC at k; rw [if_neg (by decide), if_pos rfl] at k; exact k.2.1)), fun k => absurd rfl k⟩
  · obtain rfl := neq 2 (by decide) e
    rw [h3 (by decide)]
    refine slat _ (fun q => ⟨fun _ => H0 (fun k => q ?_), fun k => absurd rfl k⟩) (fun q => ⟨fun k => absurd k (by decide), fun _ => s_isFree hm hw q ?_⟩)
    · exact (show x < nS m ∧ td m x = 0 from k).1
    · by_cases q3 : td m x = 0
      · rw [bI_T q3]; exact ⟨fun k => absurd k (by decide), fun _ => H1 (show x < nS m ∧ td m x = 0 from ⟨q, q3⟩)⟩
      · rw [bI_F q3]; exact ⟨fun _ => H0 (fun k => q3 (show x < nS m ∧ td m x = 0 from k).2), fun k => absurd rfl k⟩
  · obtain rfl := neq 3 (by decide) e
    rw [h3 (by decide)]
    refine slat _ (fun q => ⟨fun _ => H0 (fun k => q ?_), fun k => absurd rfl k⟩) (fun q => ⟨fun k => absurd k (by decide), fun _ => s_isFree hm hw q ?_⟩)
    · exact (show x < nS m ∧ td m x ≠ 0 from k).1
    · by_cases q3 : td m x = 0
      · rw [bI_T q3]; exact ⟨fun _ => H0 (fun k => (show x < nS m ∧ td m x ≠ 0 from k).2 q3), fun k => absurd k (by decide)⟩
      · rw [bI_F q3]; exact ⟨fun k => absurd rfl k, fun _ => H1 (show x < nS m ∧ td m x ≠ 0 from ⟨q, q3⟩)⟩
  · obtain rfl := neq 4 (by decide) e
    rw [h3 (by decide)]
    refine slat _ (fun q => ⟨fun _ => H0 (fun k => q ?_), fun k => absurd rfl k⟩) (fun q => ⟨fun k => absurd k (by decide), fun _ => ⟨hin, ?_⟩⟩)
    · exact (show x < nS m ∧ ct m x s < nC m from k).1
    · rw [h4 (by omega)]
      refine s_bearsMore hm hw q hs ?_
      by_cases q3 : ct m x s < nC m
      · rw [bI_T q3]; exact ⟨fun k => absurd k (by decide), fun _ => H1 (show x < nS m ∧ ct m x s < nC m from ⟨q, q3⟩)⟩
      · rw [bI_F q3]; exact ⟨fun _ => H0 (fun k => q3 (show x < nS m ∧ ct m x s < nC m from k).2), fun k => absurd rfl k⟩
  · obtain rfl := neq 5 (by decide) e
    rw [h3 (by decide), h5 (by omega), (h67 rfl).1]
    refine ⟨hin, hin, s_isOfSlat hm hw (by omega) (by omega) (by omega) ?_⟩
    by_cases q : x < nS m ∧ y < wd m x ∧ z < nH m
    · rw [bI_T (by rw [Int.toNat_natCast]; omega)]
      refine ⟨fun k => absurd k (by decide), fun _ => ⟨hin, ?_⟩⟩
      rw [(h67 rfl).2]
      refine s_isColour (by omega) ?_
      by_cases q3 : w ≤ 9
      · rw [bI_T (by omega)]; exact ⟨fun k => absurd k (by decide), fun _ => H1 (show x < nS m ∧ y < wd m x ∧ z < nH m ∧ w ≤ 9 from ⟨q.1, q.2.1, q.2.2, q3⟩)⟩
      · rw [bI_F (by omega)]; exact ⟨fun _ => H0 (fun k => q3 (show x < nS m ∧ y < wd m x ∧ z < nH m ∧ w ≤ 9 from k).2.2.2), fun k => absurd rfl k⟩
    · rw [bI_F (by rw [Int.toNat_natCast]; omega)]
      exact ⟨fun _ => H0 (fun k => q (by have k2 := (show x < nS m ∧ y < wd m x ∧ z < nH m ∧ w ≤ 9 from k); exact ⟨k2.1, k2.2.1, k2.2.2.1⟩)), fun k => absurd rfl k⟩
theorem s_does {i v s x y z w : Nat} (hi : i < 60) (hm : σ.1 26 = m) (hw : WF m) (hA : gA v s x y z w) (h : mA σ i v s x y z w) (hg : gC v s x y z w m) (H : ∀ r, K r (zpt σ 26 (dC v s x y z w m))) : CT g l M_X7_does 0 [.ref (zad g 24), .int (iI i)] σ (zQi K X) := by
  obtain ⟨hv, hs, hx, hy, hz, hww⟩ := hA
  obtain ⟨h2, h4, h3, h50, h5, h67⟩ := h
  have hwb := wf_b hw
  have hin := in60 hi (Nat.le_refl 60)
  refine b_X7_does ?_
  rw [iI_tn (by omega) (by omega), Int.toNat_natCast, h2]
  refine ⟨hin, hin, ?_⟩
  have neq : ∀ k : Nat, k < 100 → iI (v : Int) = nI k → v = k := fun k hk e => by
    rw [iI_n, iI_eq (by omega) (by omega) (by omega) (by omega)] at e
    omega
  rw [iI_ti (by omega) (by omega)]
  refine ⟨fun e => ?_, fun e => ?_, fun e => ?_, fun e => ?_, fun e => ?_, fun e => ?_, fun e => ?_⟩
  · have e6 : v = 6 := by omega
    subst e6
    rw [h3 (by decide)]
    exact s_swaps hm hw hg (H _)
  · obtain rfl := neq 0 (by decide) e
    refine s_sided hi hs (h4 (by omega)) (h50 rfl) ?_
    have hb := sdZ_b (s := s) hx
    exact s_pulls (t := fun _ => 0) hw hm (by omega) (H _)
  · obtain rfl := neq 1 (by decide) e
    have hg' : x < nS m ∧ (-4 ≤ sdZ s y ∧ sdZ s y ≤ 4) ∧ td m x = 0 := hg
    refine s_sided hi hs (h4 (by omega)) (h5 (by omega)) ?_
    rw [h3 (by decide)]
    exact s_turns hm hw hg'.1 (H _)
  · obtain rfl := neq 2 (by decide) e
    have hg' : x < nS m ∧ td m x = 0 := hg
    rw [h3 (by decide)]
    exact s_ties (s := 1) hm hw hg'.1 (by decide) (fun _ => s_truth1 (H _)) (fun k => by omega)
  · obtain rfl := neq 3 (by decide) e
    have hg' : x < nS m ∧ td m x ≠ 0 := hg
    rw [h3 (by decide)]
    exact s_ties (s := 0) hm hw hg'.1 (by decide) (fun _ => s_truth1 (H _)) (fun k => absurd k hg'.2)
  · obtain rfl := neq 4 (by decide) e
    have hg' : x < nS m ∧ ct m x s < nC m := hg
    rw [h3 (by decide), h4 (by omega)]
    exact ⟨hin, s_paints hm hw hg'.1 hs (by omega) (H _)⟩
  · obtain rfl := neq 5 (by decide) e
    have hg' : x < nS m ∧ y < wd m x ∧ z < nH m ∧ w ≤ 9 := hg
    rw [h3 (by decide), h4 (by omega), h5 (by omega), (h67 rfl).1, (h67 rfl).2]
    exact ⟨hin, hin, hin, hin, s_dabs0 hm hw hg'.1 hs hg'.2.1 hg'.2.2.1 (H _)⟩
end ZMC
