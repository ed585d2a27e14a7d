/-! the class: a part of a script run -/
section ZCE
variable {g : zG} {l : Launch} {X : String → zS → Prop} {σ A B : zS} {m : Nat → Int32} {P Q : Den}
def agC (σ A : zS) (i j : Nat) : Prop := ∀ k, i ≤ k → k < j → σ.1 11 k = A.1 11 k ∧ σ.1 12 k = A.1 12 k ∧ σ.1 14 k = A.1 14 k ∧ σ.1 (43 + k) = A.1 (43 + k)
theorem agC.tr {i j : Nat} {τ : zS} (h : agC τ σ i j) (h' : agC σ A i j) : agC τ A i j := fun k a b => ⟨(h k a b).1.trans (h' k a b).1, (h k a b).2.1.trans (h' k a b).2.1, (h k a b).2.2.1.trans (h' k a b).2.2.1, (h k a b).2.2.2.trans (h' k a b).2.2.2⟩
theorem agC.sub {i j i' j' : Nat} (h : agC σ A i j) (h1 : i ≤ i') (h2 : j' ≤ j) : agC σ A i' j' := fun k a b => h k (by omega) (by omega)
theorem agC_X {τ : zS} (h : FrP pX σ τ) (i j : Nat) (hj : j ≤ 30) : agC τ σ i j := fun k a b => by
  unfold FrP pX pB at h
  exact ⟨by rw [h.1 11 (by omega)], by rw [h.1 12 (by omega)], by rw [h.1 14 (by omega)], h.1 (43 + k) (by omega)⟩
def exC (σ τ : zS) (m : Nat → Int32) (dn : Nat) (P : Den) : Prop := FrP pX σ τ ∧ (∀ k, k ≠ 10 → τ.1 0 k = σ.1 0 k) ∧ Nw τ (P m dn).1 ∧ WF (P m dn).1 ∧ τ.1 0 10 = iI (P m dn).2.1 ∧ (P m dn).2.1 ≤ 40
/-- the commands i up to j do what P tells -/
def cP (g : zG) (l : Launch) (A : zS) (P : Den) (i j dep : Nat) : Prop :=
  i ≤ j ∧ ∀ (K : Int32 → zS → Prop) (X : String → zS → Prop) (σ : zS) (m : Nat → Int32) (dn cnt to d : Nat), agC σ A i j → Nw σ m → WF m → dn < 40 → σ.1 0 10 = iI dn → cnt ≤ i → j ≤ to → to ≤ 30 → 13 ≤ d + 2 * dep →
    (∀ τ cnt', cnt' ≤ j → exC σ τ m dn P → (P m dn).2.2 = true → (P m dn).2.1 < 40 → L_X6_runCommands_9 g l K X (iI to) (iI dep) (iI 1) (iI j) (iI cnt') d τ) →
    (∀ τ, exC σ τ m dn P → (P m dn).2.2 = false → K (iI 0) τ) →
    L_X6_runCommands_9 g l K X (iI to) (iI dep) (iI 1) (iI i) (iI cnt) d σ
theorem cP.fr {i j dep : Nat} (h : cP g l A P i j dep) (hB : agC B A i j) : cP g l B P i j dep :=
  ⟨h.1, fun K X σ m dn cnt to d h1 => h.2 K X σ m dn cnt to d (h1.tr hB)⟩
theorem cP_nil (i dep : Nat) : cP g l A nilD i i dep :=
  ⟨Nat.le_refl i, fun K X σ m dn cnt to d _ h2 h3 h4 h5 h6 _ _ _ H1 _ => H1 σ cnt h6 ⟨FrP.rf _ _, fun _ _ => rfl, h2, h3, h5, Nat.le_of_lt h4⟩ rfl h4⟩
theorem exC.seq {τ υ : zS} {dn : Nat} (h1 : exC σ τ m dn P) (ht : (P m dn).2.2 = true) (h2 : exC τ υ (P m dn).1 (P m dn).2.1 Q) : exC σ υ m dn (seqD P Q) := by
  unfold exC seqD
  rw [if_pos ht]
  exact ⟨h1.1.tr h2.1, fun k hk => (h2.2.1 k hk).trans (h1.2.1 k hk), h2.2.2⟩
theorem exC.stop {τ : zS} {dn : Nat} (h1 : exC σ τ m dn P) (ht : (P m dn).2.2 = false) : exC σ τ m dn (seqD P Q) := by
  unfold exC seqD
  rw [if_neg (by rw [ht]; decide)]
  exact h1
theorem seqD_t {dn : Nat} (ht : (P m dn).2.2 = true) : seqD P Q m dn = Q (P m dn).1 (P m dn).2.1 := if_pos ht
theorem seqD_f {dn : Nat} (ht : (P m dn).2.2 = false) : seqD P Q m dn = P m dn := if_neg (by rw [ht]; decide)
theorem cP_seq {i j k dep : Nat} (h1 : cP g l A P i j dep) (h2 : cP g l A Q j k dep) : cP g l A (seqD P Q) i k dep := by
  refine ⟨Nat.le_trans h1.1 h2.1, fun K X σ m dn cnt to d a1 a2 a3 a4 a5 a6 a7 a8 a9 H1 H0 => ?_⟩
  refine h1.2 K X σ m dn cnt to d (a1.sub (Nat.le_refl _) h2.1) a2 a3 a4 a5 a6 (Nat.le_trans h2.1 a7) a8 a9 (fun τ cnt' hc e ht hd => ?_) (fun τ e hf => ?_)
  · refine h2.2 K X τ _ _ cnt' to d ((agC_X e.1 j k (by omega)).tr (a1.sub h1.1 (Nat.le_refl _))) e.2.2.1 e.2.2.2.1 hd e.2.2.2.2.1 hc a7 a8 a9 (fun υ cnt2 hc2 e2 ht2 hd2 => ?_) (fun υ e2 hf2 => ?_)
    · exact H1 υ cnt2 hc2 (e.seq ht e2) (by rw [seqD_t ht]; exact ht2) (by rw [seqD_t ht]; exact hd2)
    · exact H0 υ (e.seq ht e2) (by rw [seqD_t ht]; exact hf2)
  · exact H0 τ (e.stop hf) (by rw [seqD_f hf]; exact hf)
/-- once a command may not be done, nothing more is -/
theorem c_stop9 {K : Int32 → zS → Prop} {to dep pc cnt d : Nat} (hd : 1 ≤ d) (hd8 : 8 ≤ d) (ht : to ≤ 30) (hp : pc ≤ 1000) (hc : cnt ≤ 1000) (H : K (iI 0) σ) : L_X6_runCommands_9 g l K X (iI to) (iI dep) (iI 0) (iI pc) (iI cnt) d σ := by
  refine b_X6_runCommands_9 (d := d) (dn := d - 1) (by omega) hd8 ?_
  exact ⟨fun _ => ⟨Or.inl rfl, H⟩, fun _ => ⟨fun _ => ⟨Or.inl rfl, H⟩, fun _ => ⟨fun _ => ⟨Or.inl rfl, H⟩, fun h => absurd rfl h⟩⟩⟩
theorem cP_cm {i v s x y z w dep : Nat} (hi : i < 30) (hdep : dep ≤ 2) (hA : gA v s x y z w) (h : cA A i v s x y z w) : cP g l A (eC v s x y z w) i (i + 1) dep := by
  refine ⟨by omega, fun K X σ m dn cnt to d a1 a2 a3 a4 a5 a6 a7 a8 a9 H1 H0 => ?_⟩
  obtain ⟨g1, g2, g3, g4⟩ := a1 i (Nat.le_refl _) (by omega)
  have h' : cA σ i v s x y z w := by unfold cA at h ⊢; rw [g1, g2, g4]; exact h
  have hv : v ≤ 6 := hA.1
  refine b_X6_runCommands_9 (d := d) (dn := d - 1) (by omega) (by omega) ?_
  rw [show (30 : Int32) = iI 30 from rfl, iI_le (by omega) (by omega) (by omega) (by omega), iI_le (by omega) (by omega) (by omega) (by omega), iI_tn (by omega) (by omega), Int.toNat_natCast, h'.1, show (7 : Int32) = iI 7 from rfl, iI_eq (by omega) (by omega) (by omega) (by omega)]
  refine ⟨fun q => by omega, fun _ => ⟨fun q => by omega, fun _ => ⟨fun q => absurd q (by decide), fun _ => ⟨in30 hi, fun _ => ?_, fun q => by omega⟩⟩⟩⟩
  rw [show (1 : Int32) = iI 1 from rfl, iI_add, iI_add]
  refine c_doCommand hi a2 a3 hA h' a4 a5 (fun hg τ fr f0 hN h10 => ?_) (fun hg => ?_)
  · have e : eC v s x y z w m dn = (dC v s x y z w m, dn + 1, decide (dn + 1 < 40)) := by unfold eC; rw [if_pos hg]
    have ex : exC σ τ m dn (eC v s x y z w) := by
      unfold exC; rw [e]
      exact ⟨fr, f0, hN, dC_wf a3 hA hg, h10, by show dn + 1 ≤ 40; omega⟩
    by_cases q : dn + 1 < 40
    · rw [if_pos q]
      refine H1 τ (cnt + 1) (by omega) ex ?_ ?_
      · rw [e]; exact decide_eq_true q
      · rw [e]; exact q
    · rw [if_neg q]
      refine c_stop9 (pc := i + 1) (cnt := cnt + 1) (by omega) (by omega) a8 (by omega) (by omega) (H0 τ ex ?_)
      rw [e]; exact decide_eq_false q
  · have e : eC v s x y z w m dn = (m, dn, false) := by unfold eC; rw [if_neg hg]
    refine c_stop9 (pc := i + 1) (cnt := cnt + 1) (by omega) (by omega) a8 (by omega) (by omega) (H0 σ ?_ ?_)
    · unfold exC; rw [e]; exact ⟨FrP.rf _ _, fun _ _ => rfl, a2, a3, a5, Nat.le_of_lt a4⟩
    · rw [e]
/-- a "repeat" -/
theorem c_rep_27 {K : Int32 → zS → Prop} {σ0 : zS} {m0 : Nat → Int32} {i e n dep d : Nat} (hi : i < 30) (he : e ≤ 30) (hn : n ≤ 20) (hdep : dep < 2) (hd : 12 ≤ d + 2 * dep) (hP : cP g l A P (i + 1) e (dep + 1)) (hAe : A.1 14 i = iI e) (t : Nat) (ht : t ≤ n) (σ : zS) (m : Nat → Int32) (dn : Nat) (ag : agC σ A i e) (hN : Nw σ m) (hw : WF m) (hdn : dn < 40) (h10 : σ.1 0 10 = iI dn)
    (H1 : ∀ τ, exC σ τ m dn (repD P (n - t)) → (repD P (n - t) m dn).2.2 = true → (repD P (n - t) m dn).2.1 < 40 → K (iI 1) τ) (H0 : ∀ τ, exC σ τ m dn (repD P (n - t)) → (repD P (n - t) m dn).2.2 = false → K (iI 0) τ) : L_X6_runRepeat_27 g l K X (iI i) (iI (dep + 1 : Nat)) (iI n) (iI 1) (iI t) d σ := by
  have ih := fun h σ m dn a b c e f H1 H0 => c_rep_27 (K := K) (σ0 := σ0) (m0 := m0) hi he hn hdep hd hP hAe (t + 1) h σ m dn a b c e f H1 H0
  have hie := hP.1
  refine b_X6_runRepeat_27 (d := d) (dn := d - 1) (by omega) (by omega) ?_
  rw [iI_le (by omega) (by omega) (by omega) (by omega)]
  refine ⟨fun q => ⟨Or.inr rfl, ?_⟩, fun q => ⟨fun k => absurd k (by decide), fun _ => ⟨in30 hi, ?_⟩⟩⟩
  · have e0 : n - t = 0 := by omega
    rw [e0] at H1
    exact H1 σ ⟨FrP.rf _ _, fun _ _ => rfl, hN, hw, h10, Nat.le_of_lt hdn⟩ rfl hdn
  · have e1 : n - t = (n - (t + 1)) + 1 := by omega
    rw [e1] at H1 H0
    rw [iI_tn (by omega) (by omega), Int.toNat_natCast, (ag i (Nat.le_refl _) (by omega)).2.2.1, hAe, show (1 : Int32) = iI 1 from rfl, iI_add, iI_add]
    refine b_X6_runCommands (d := d - 1) (dn := d - 2) (by omega) (by omega) ?_
    refine hP.2 _ X σ m dn (0 : Nat) e (d - 1) (ag.sub (by omega) (Nat.le_refl _)) hN hw hdn h10 (by omega) (Nat.le_refl _) he (by omega) (fun τ cnt' hc ex ht' hd' => ?_) (fun τ ex hf => ?_)
    · have stop : L_X6_runRepeat_27 g l K X (iI i) (iI (dep + 1 : Nat)) (iI n) (iI 1) (iI (t + 1 : Nat)) d τ := by
        refine ih (by omega) τ _ _ ((agC_X ex.1 i e he).tr ag) ex.2.2.1 ex.2.2.2.1 hd' ex.2.2.2.2.1 (fun υ e2 t2 d2 => ?_) (fun υ e2 f2 => ?_)
        · exact H1 υ (ex.seq ht' e2) (by show (seqD P _ m dn).2.2 = true; rw [seqD_t ht']; exact t2) (by show (seqD P _ m dn).2.1 < 40; rw [seqD_t ht']; exact d2)
        · exact H0 υ (ex.seq ht' e2) (by show (seqD P _ m dn).2.2 = false; rw [seqD_t ht']; exact f2)
      refine b_X6_runCommands_9 (d := d - 1) (dn := d - 2) (by omega) (by omega) ?_
      rw [show (30 : Int32) = iI 30 from rfl, iI_le (by omega) (by omega) (by omega) (by omega), iI_le (by omega) (by omega) (by omega) (by omega)]
      exact ⟨fun _ => ⟨Or.inr rfl, stop⟩, fun _ => ⟨fun _ => ⟨Or.inr rfl, stop⟩, fun k => absurd (Int.le_refl _) k⟩⟩
    · refine b_X6_runRepeat_27 (d := d) (dn := d - 1) (by omega) (by omega) ?_
      have k0 : K (iI 0) τ := H0 τ (ex.stop hf) (by show (seqD P _ m dn).2.2 = false; rw [seqD_f hf]; exact hf)
      exact ⟨fun _ => ⟨Or.inl rfl, k0⟩, fun _ => ⟨fun _ => ⟨Or.inl rfl, k0⟩, fun k => absurd rfl k⟩⟩
termination_by n - t
theorem cP_rp {i e n dep : Nat} (hi : i < 30) (he : e ≤ 30) (hn : n ≤ 20) (hdep : dep < 2) (hP : cP g l A P (i + 1) e (dep + 1)) (hA7 : A.1 11 i = iI 7) (hAn : A.1 (43 + i) 0 = iI n) (hAe : A.1 14 i = iI e) : cP g l A (repD P n) i e dep := by
  have hie := hP.1
  refine ⟨by omega, fun K X σ m dn cnt to d a1 a2 a3 a4 a5 a6 a7 a8 a9 H1 H0 => ?_⟩
  obtain ⟨g1, g2, g3, g4⟩ := a1 i (Nat.le_refl _) (by omega)
  refine b_X6_runCommands_9 (d := d) (dn := d - 1) (by omega) (by omega) ?_
  rw [show (30 : Int32) = iI 30 from rfl, iI_le (by omega) (by omega) (by omega) (by omega), iI_le (by omega) (by omega) (by omega) (by omega), iI_tn (by omega) (by omega), Int.toNat_natCast, g1, hA7]
  refine ⟨fun q => by omega, fun _ => ⟨fun q => by omega, fun _ => ⟨fun q => absurd q (by decide), fun _ => ⟨in30 hi, fun q => absurd rfl q, fun _ => ?_⟩⟩⟩⟩
  rw [show (1 : Int32) = iI 1 from rfl, iI_add, iI_add]
  refine b_X6_runRepeat (d := d - 1) (dn := d - 2) (by omega) (by omega) ?_
  rw [iI_tn (by omega) (by omega), Int.toNat_natCast, show Int32.toNatClampNeg 0 = 0 from rfl, g4, hAn, show (2 : Int32) = iI 2 from rfl, iI_lt (by omega) (by omega) (by omega) (by omega)]
  refine ⟨in30 hi, fun q => by omega, fun _ => ?_⟩
  refine c_rep_27 (σ0 := σ) (m0 := m) (P := P) (A := A) hi he hn hdep (by omega) hP hAe 0 (Nat.zero_le _) σ m dn a1 a2 a3 a4 a5 (fun τ ex t2 d2 => ⟨in30 hi, ?_⟩) (fun τ ex f2 => ⟨in30 hi, ?_⟩)
  · rw [((agC_X ex.1 i e he).tr a1 i (Nat.le_refl _) (by omega)).2.2.1, hAe]
    exact H1 τ (cnt + 1) (by omega) ex t2 d2
  · rw [((agC_X ex.1 i e he).tr a1 i (Nat.le_refl _) (by omega)).2.2.1, hAe]
    exact c_stop9 (pc := e) (cnt := cnt + 1) (by omega) (by omega) a8 (by omega) (by omega) (H0 τ ex f2)
end ZCE
