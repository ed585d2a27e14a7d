/-! the reference: a part of a script run -/
section ZME
variable {g : zG} {l : Launch} {X : String → zS → Prop} {σ A B : zS} {m : Nat → Int32} {P Q : Den}
def agM (σ A : zS) (i j : Nat) : Prop := ∀ k, i ≤ k → k < j → ∀ o, 32 ≤ o → o ≤ 37 → σ.1 o k = A.1 o k
theorem agM.tr {i j : Nat} {τ : zS} (h : agM τ σ i j) (h' : agM σ A i j) : agM τ A i j := fun k a b o c d => (h k a b o c d).trans (h' k a b o c d)
theorem agM.sub {i j i' j' : Nat} (h : agM σ A i j) (h1 : i ≤ i') (h2 : j' ≤ j) : agM σ A i' j' := fun k a b => h k (by omega) (by omega)
theorem agM_F {τ : zS} (h : FM [26, 38, 39] [] σ τ) (i j : Nat) : agM τ σ i j := fun k _ _ o h1 h2 => by
  rw [h.1 o (by simp; omega) (by omega)]
def exM (σ τ : zS) (m : Nat → Int32) (dn dep : Nat) (P : Den) : Prop := FM [26, 38, 39] [] σ τ ∧ (∀ q, q < dep → τ.1 38 q = σ.1 38 q ∧ τ.1 39 q = σ.1 39 q) ∧ τ.1 26 = (P m dn).1 ∧ WF (P m dn).1 ∧ Ct (P m dn).1 ∧ (P m dn).2.1 ≤ 40
def mP (g : zG) (l : Launch) (A : zS) (P : Den) (i j dep : Nat) : Prop :=
  i ≤ j ∧ ∀ (K : Int32 → zS → Prop) (X : String → zS → Prop) (σ : zS) (m : Nat → Int32) (dn L : Nat), agM σ A i j → σ.1 24 30 = iI L → j ≤ L → L ≤ 60 → σ.1 26 = m → WF m → Ct m → dn < 40 →
    (∀ τ, exM σ τ m dn dep P → (P m dn).2.2 = true → (P m dn).2.1 < 40 → L_X7_doesAll_9 g l K X (iI (P m dn).2.1) (iI dep) (iI j) (iI 1) τ) →
    (∀ τ, exM σ τ m dn dep P → (P m dn).2.2 = false → K (iI (P m dn).2.1) τ) →
    L_X7_doesAll_9 g l K X (iI dn) (iI dep) (iI i) (iI 1) σ
theorem mP.fr {i j dep : Nat} (h : mP g l A P i j dep) (hB : agM B A i j) : mP g l B P i j dep :=
  ⟨h.1, fun K X σ m dn L h1 => h.2 K X σ m dn L (h1.tr hB)⟩
theorem mP_nil (i dep : Nat) : mP g l A nilD i i dep :=
  ⟨Nat.le_refl i, fun K X σ m dn L _ h2 h3 h4 h5 h6 h7 h8 H1 _ => H1 σ ⟨FM.rf _ _ _, fun _ _ => ⟨rfl, rfl⟩, h5, h6, h7, Nat.le_of_lt h8⟩ rfl h8⟩
theorem exM.seq {τ υ : zS} {dn dep : Nat} (h1 : exM σ τ m dn dep P) (ht : (P m dn).2.2 = true) (h2 : exM τ υ (P m dn).1 (P m dn).2.1 dep Q) : exM σ υ m dn dep (seqD P Q) := by
  unfold exM
  rw [seqD_t ht]
  exact ⟨h1.1.tr h2.1, fun q hq => ⟨(h2.2.1 q hq).1.trans (h1.2.1 q hq).1, (h2.2.1 q hq).2.trans (h1.2.1 q hq).2⟩, h2.2.2⟩
theorem exM.stop {τ : zS} {dn dep : Nat} (h1 : exM σ τ m dn dep P) (ht : (P m dn).2.2 = false) : exM σ τ m dn dep (seqD P Q) := by
  unfold exM
  rw [seqD_f ht]
  exact h1
theorem exM.L {τ : zS} {dn dep L : Nat} (h : exM σ τ m dn dep P) (hL : σ.1 24 30 = iI L) : τ.1 24 30 = iI L := (h.1.2.1 30 (by simp)).trans hL
theorem mP_seq {i j k dep : Nat} (h1 : mP g l A P i j dep) (h2 : mP g l A Q j k dep) : mP g l A (seqD P Q) i k dep := by
  refine ⟨Nat.le_trans h1.1 h2.1, fun K X σ m dn L a1 a2 a3 a4 a5 a6 a7 a8 H1 H0 => ?_⟩
  refine h1.2 K X σ m dn L (a1.sub (Nat.le_refl _) h2.1) a2 (Nat.le_trans h2.1 a3) a4 a5 a6 a7 a8 (fun τ e ht hd => ?_) (fun τ e hf => ?_)
  · refine h2.2 K X τ _ _ L ((agM_F e.1 j k).tr (a1.sub h1.1 (Nat.le_refl _))) (e.L a2) a3 a4 e.2.2.1 e.2.2.2.1 e.2.2.2.2.1 hd (fun υ e2 ht2 hd2 => ?_) (fun υ e2 hf2 => ?_)
    · have := H1 υ (e.seq ht e2) (by rw [seqD_t ht]; exact ht2) (by rw [seqD_t ht]; exact hd2)
      rw [seqD_t ht] at this
      exact this
    · have := H0 υ (e.seq ht e2) (by rw [seqD_t ht]; exact hf2)
      rw [seqD_t ht] at this
      exact this
  · have := H0 τ (e.stop hf) (by rw [seqD_f hf]; exact hf)
    rw [seqD_f hf] at this
    exact this
/-- the head of the loop, where the script goes on -/
theorem s_all_head {K : Int32 → zS → Prop} {dn dep i L : Nat} (hL : σ.1 24 30 = iI L) (hi : i < L) (hL6 : L ≤ 60) (hd : dn < 40) {v : Nat} (hv : σ.1 32 i = iI v) (hv9 : v ≤ 8)
    (H7 : v = 7 → (vp_in (iI dep) 2 ∧ (∀ σ19 : zS, σ19 = zup σ 38 (Int32.toNatClampNeg (iI dep)) (iI i) → (vp_in (iI dep) 2 ∧ (∀ σ20 : zS, σ20 = zup σ19 39 (Int32.toNatClampNeg (iI dep)) (σ19.1 33 i) → L_X7_doesAll_9 g l K X (iI dn) (iI (dep + 1 : Nat)) (iI (i + 1 : Nat)) (iI 1) σ20)))))
    (H8 : v = 8 → (vp_in (iI ((dep : Int) - 1)) 2 ∧ (∀ σ11 : zS, σ11 = zup σ 39 (Int32.toNatClampNeg (iI ((dep : Int) - 1))) ((σ.1 39 (Int32.toNatClampNeg (iI ((dep : Int) - 1)))) - 1) → (((σ11.1 39 (Int32.toNatClampNeg (iI ((dep : Int) - 1)))) ≤ 0 → L_X7_doesAll_9 g l K X (iI dn) (iI ((dep : Int) - 1)) (iI (i + 1 : Nat)) (iI 1) σ11) ∧ (¬ (σ11.1 39 (Int32.toNatClampNeg (iI ((dep : Int) - 1)))) ≤ 0 → L_X7_doesAll_9 g l K X (iI dn) (iI dep) ((σ11.1 38 (Int32.toNatClampNeg (iI ((dep : Int) - 1)))) + 1) (iI 1) σ11)))))
    (HC : v ≤ 6 → CT g l M_X7_may 0 [.ref (zad g 24), .int (iI i)] σ (zQi (fun v6 τ6 => ((v6 = 0 → CT g l M_X7_truth 0 [.int v6] τ6 (zQi (fun v8 τ8 => L_X7_doesAll_9 g l K X (iI dn + v8) (iI dep) (iI i + 1) v6 τ8) (fun E τ => X E τ))) ∧ (¬ v6 = 0 → CT g l M_X7_does 0 [.ref (zad g 24), .int (iI i)] τ6 (zQi (fun v9 τ9 => CT g l M_X7_truth 0 [.int v6] τ9 (zQi (fun v10 τ10 => L_X7_doesAll_9 g l K X (iI dn + v10) (iI dep) (iI i + 1) v6 τ10) (fun E τ => X E τ))) (fun E τ => X E τ))))) (fun E τ => X E τ))) :
    L_X7_doesAll_9 g l K X (iI dn) (iI dep) (iI i) (iI 1) σ := by
  refine b_X7_doesAll_9 ?_
  rw [hL, iI_le (by omega) (by omega) (by omega) (by omega), show (40 : Int32) = iI 40 from rfl, iI_le (by omega) (by omega) (by omega) (by omega), iI_tn (by omega) (by omega) (z := (i : Int)), Int.toNat_natCast, hv]
  have hin := in60 (show i < 60 by omega) (Nat.le_refl 60)
  refine ⟨fun h => absurd h (by decide), fun _ => ⟨fun h => by omega, fun _ => ⟨fun h => by omega, fun _ => ⟨hin, fun n7 => ⟨hin, fun n8 => HC ?_, fun y8 => ?_⟩, fun y7 => ?_⟩⟩⟩⟩
  · have a : v ≠ 7 := fun e => n7 (by rw [e]; rfl)
    have b : v ≠ 8 := fun e => n8 (by rw [e]; rfl)
    omega
  · have e8 : v = 8 := by
      rw [show (8 : Int32) = iI 8 from rfl, iI_eq (by omega) (by omega) (by omega) (by omega)] at y8
      omega
    have H := H8 e8
    rw [show (1 : Int32) = iI 1 from rfl, iI_sub, iI_add, show ((i : Int) + 1) = ((i + 1 : Nat) : Int) from rfl]
    refine ⟨H.1, H.1, fun σ11 e11 => ⟨H.1, fun h => s_truth1 ?_, fun h => ⟨H.1, s_truth0 ?_⟩⟩⟩
    · rw [iI_sub]; exact (H.2 σ11 e11).1 h
    · rw [iI_sub, show (dep : Int) - 0 = dep by omega]; exact (H.2 σ11 e11).2 h
  · have e7 : v = 7 := by
      rw [show (7 : Int32) = iI 7 from rfl, iI_eq (by omega) (by omega) (by omega) (by omega)] at y7
      omega
    have H := H7 e7
    rw [show (1 : Int32) = iI 1 from rfl, iI_add, iI_add]
    exact ⟨H.1, fun σ19 e19 => ⟨hin, (H.2 σ19 e19).1, fun σ20 e20 => (H.2 σ19 e19).2 σ20 e20⟩⟩
theorem s_all_stop {K : Int32 → zS → Prop} {dn : Int32} {dep pc : Int32} (H : K dn σ) : L_X7_doesAll_9 g l K X dn dep pc (iI 0) σ :=
  b_X7_doesAll_9 ⟨fun _ => H, fun h => absurd rfl h⟩
theorem s_all_40 {K : Int32 → zS → Prop} {dep pc : Int32} (H : K (iI 40) σ) : L_X7_doesAll_9 g l K X (iI 40) dep pc (iI 1) σ :=
  b_X7_doesAll_9 ⟨fun h => absurd h (by decide), fun _ => ⟨fun _ => H, fun _ => ⟨fun _ => H, fun h => absurd (by decide) h⟩⟩⟩
theorem mP_cm {i v s x y z w dep : Nat} (hA : gA v s x y z w) (h : mA A i v s x y z w) : mP g l A (eC v s x y z w) i (i + 1) dep := by
  refine ⟨by omega, fun K X σ m dn L a1 a2 a3 a4 a5 a6 a7 a8 H1 H0 => ?_⟩
  have ag := fun o h1 h2 => a1 i (Nat.le_refl _) (by omega) o h1 h2
  have h' : mA σ i v s x y z w := by
    unfold mA at h ⊢
    rw [ag 32 (by decide) (by decide), ag 33 (by decide) (by decide), ag 34 (by decide) (by decide), ag 35 (by decide) (by decide), ag 36 (by decide) (by decide), ag 37 (by decide) (by decide)]
    exact h
  have hv : v ≤ 6 := hA.1
  have hi : i < 60 := by omega
  refine s_all_head a2 (by omega) a4 a8 h'.1 (by omega) (fun e => by omega) (fun e => by omega) (fun _ => s_may hi a5 a6 hA h' (fun hg => ⟨fun _ => s_truth0 ?_, fun k => absurd rfl k⟩) (fun hg => ⟨fun k => absurd k (by decide), fun _ => s_does hi a5 a6 hA h' hg (fun r => s_truth1 ?_)⟩))
  · have e : eC v s x y z w m dn = (m, dn, false) := by unfold eC; rw [if_neg hg]
    refine s_all_stop ?_
    rw [iI_add, show (dn : Int) + 0 = dn by omega]
    have := H0 σ (by unfold exM; rw [e]; exact ⟨FM.rf _ _ _, fun _ _ => ⟨rfl, rfl⟩, a5, a6, a7, Nat.le_of_lt a8⟩) (by rw [e])
    rw [e] at this
    exact this
  · have e : eC v s x y z w m dn = (dC v s x y z w m, dn + 1, decide (dn + 1 < 40)) := by unfold eC; rw [if_pos hg]
    have ex : exM σ (zpt σ 26 (dC v s x y z w m)) m dn dep (eC v s x y z w) := by
      unfold exM; rw [e]
      exact ⟨(FM.rf _ _ _).pt (by decide) (by decide) _, fun q _ => ⟨by rw [zpt_ne (by decide)], by rw [zpt_ne (by decide)]⟩, zpt_at _ _ _, dC_wf a6 hA hg, dC_Ct a7 a6 hA hg, by show dn + 1 ≤ 40; omega⟩
    rw [show (1 : Int32) = iI 1 from rfl, iI_add, iI_add]
    by_cases q : dn + 1 < 40
    · have := H1 _ ex (by rw [e]; exact decide_eq_true q) (by rw [e]; exact q)
      rw [e] at this
      exact this
    · have := H0 _ ex (by rw [e]; exact decide_eq_false q)
      rw [e] at this
      have e40 : dn + 1 = 40 := by omega
      rw [show ((dn : Int) + 1) = 40 by omega]
      refine s_all_40 ?_
      have t : K (iI ((dn + 1 : Nat) : Int)) (zpt σ 26 (dC v s x y z w m)) := this
      rw [e40] at t
      exact t
/-- the body of a "repeat", some times -/
theorem s_rep {K : Int32 → zS → Prop} {i e dep L : Nat} (hdep : dep < 2) (hP : mP g l A P (i + 1) e (dep + 1)) (hAe : A.1 32 e = iI 8) (r : Nat) (hr : r ≤ 20) (σ : zS) (m : Nat → Int32) (dn : Nat) (ag : agM σ A i (e + 1)) (hL : σ.1 24 30 = iI L) (heL : e < L) (hL6 : L ≤ 60) (hm : σ.1 26 = m) (hw : WF m) (hc : Ct m) (hdn : dn < 40) (h38 : σ.1 38 dep = iI i) (h39 : σ.1 39 dep = iI (r + 1 : Nat))
    (H1 : ∀ τ, exM σ τ m dn dep (repD P (r + 1)) → (repD P (r + 1) m dn).2.2 = true → (repD P (r + 1) m dn).2.1 < 40 → L_X7_doesAll_9 g l K X (iI (repD P (r + 1) m dn).2.1) (iI dep) (iI (e + 1 : Nat)) (iI 1) τ) (H0 : ∀ τ, exM σ τ m dn dep (repD P (r + 1)) → (repD P (r + 1) m dn).2.2 = false → K (iI (repD P (r + 1) m dn).2.1) τ) : L_X7_doesAll_9 g l K X (iI dn) (iI (dep + 1 : Nat)) (iI (i + 1 : Nat)) (iI 1) σ := by
  have hie := hP.1
  have weak : ∀ {τ}, exM σ τ m dn (dep + 1) P → exM σ τ m dn dep P := fun h => ⟨h.1, fun q hq => h.2.1 q (by omega), h.2.2⟩
  refine hP.2 K X σ m dn L (ag.sub (by omega) (by omega)) hL (by omega) hL6 hm hw hc hdn (fun τ ex ht hd => ?_) (fun τ ex hf => ?_)
  · have l38 : τ.1 38 dep = iI i := ((ex.2.1 dep (by omega)).1).trans h38
    have l39 : τ.1 39 dep = iI (r + 1 : Nat) := ((ex.2.1 dep (by omega)).2).trans h39
    have agt : agM τ A i (e + 1) := (agM_F ex.1 _ _).tr ag
    refine s_all_head (v := 8) (ex.L hL) heL hL6 hd (by rw [agt e (by omega) (by omega) 32 (by decide) (by decide), hAe]; rfl) (by decide) (fun k => absurd k (by decide)) (fun _ => ?_) (fun k => absurd k (by decide))
    rw [show (((dep + 1 : Nat) : Int) - 1) = dep by omega, iI_tn (by omega) (by omega), Int.toNat_natCast, l39]
    refine ⟨iI_in (by omega) (by omega) (by omega), ?_⟩
    intro σ11 e11
    have k39 : σ11.1 39 dep = iI r := by rw [e11, zpt_at, pk_us, show (1 : Int32) = iI 1 from rfl, iI_sub]; congr 1; omega
    have k38 : σ11.1 38 dep = iI i := by rw [e11, zpt_ne (by decide)]; exact l38
    have f11 : FM [26, 38, 39] [] τ σ11 := by rw [e11]; exact (FM.rf _ _ _).pt (by decide) (by decide) _
    have lo11 : ∀ q, q < dep → σ11.1 38 q = τ.1 38 q ∧ σ11.1 39 q = τ.1 39 q := fun q hq => ⟨by rw [e11, zpt_ne (by decide)], by rw [e11, zpt_at, pk_un (by omega)]⟩
    have m11 : σ11.1 26 = (P m dn).1 := by rw [e11, zpt_ne (by decide)]; exact ex.2.2.1
    have e11' : exM σ σ11 m dn dep P := ⟨ex.1.tr f11, fun q hq => ⟨(lo11 q hq).1.trans (ex.2.1 q (by omega)).1, (lo11 q hq).2.trans (ex.2.1 q (by omega)).2⟩, m11, ex.2.2.2⟩
    rw [k39, k38, show (0 : Int32) = iI 0 from rfl, iI_le (by omega) (by omega) (by omega) (by omega), show (1 : Int32) = iI 1 from rfl, iI_add]
    refine ⟨fun h0 => ?_, fun h0 => ?_⟩
    · obtain rfl : r = 0 := by omega
      have en : repD P (0 + 1) m dn = P m dn := by
        show seqD P nilD m dn = _
        rw [seqD_t ht]
        show ((P m dn).1, (P m dn).2.1, true) = P m dn
        rw [← ht]
      have := H1 σ11 (by unfold exM; rw [en]; exact e11') (by rw [en]; exact ht) (by rw [en]; exact hd)
      rw [en] at this
      exact this
    · obtain ⟨r', rfl⟩ : ∃ r', r = r' + 1 := ⟨r - 1, by omega⟩
      have es : repD P (r' + 1 + 1) m dn = repD P (r' + 1) (P m dn).1 (P m dn).2.1 := seqD_t ht
      refine s_rep hdep hP hAe r' (by omega) σ11 (P m dn).1 (P m dn).2.1 ((agM_F f11 _ _).tr agt) ((f11.2.1 30 (by simp)).trans (ex.L hL)) heL hL6 m11 ex.2.2.2.1 ex.2.2.2.2.1 hd k38 k39 (fun υ e2 t2 d2 => ?_) (fun υ e2 f2 => ?_)
      · have := H1 υ (e11'.seq ht e2) (by rw [es]; exact t2) (by rw [es]; exact d2)
        rw [es] at this
        exact this
      · have := H0 υ (e11'.seq ht e2) (by rw [es]; exact f2)
        rw [es] at this
        exact this
  · have es : repD P (r + 1) m dn = P m dn := seqD_f hf
    have := H0 τ ((weak ex).stop hf) (by rw [es]; exact hf)
    rw [es] at this
    exact this
termination_by r
theorem mP_rp {i e n dep : Nat} (hn1 : 1 ≤ n) (hn : n ≤ 20) (hdep : dep < 2) (hP : mP g l A P (i + 1) e (dep + 1)) (hA7 : A.1 32 i = iI 7) (hAn : A.1 33 i = iI n) (hAe : A.1 32 e = iI 8) : mP g l A (repD P n) i (e + 1) dep := by
  have hie := hP.1
  refine ⟨by omega, fun K X σ m dn L a1 a2 a3 a4 a5 a6 a7 a8 H1 H0 => ?_⟩
  obtain ⟨r, rfl⟩ : ∃ r, n = r + 1 := ⟨n - 1, by omega⟩
  refine s_all_head (v := 7) a2 (by omega) a4 a8 (by rw [a1 i (Nat.le_refl _) (by omega) 32 (by decide) (by decide), hA7]; rfl) (by decide) (fun _ => ?_) (fun k => absurd k (by decide)) (fun k => absurd k (by decide))
  rw [iI_tn (by omega) (by omega), Int.toNat_natCast]
  refine ⟨iI_in (by omega) (by omega) (by omega), ?_⟩
  intro σ19 e19
  refine ⟨iI_in (by omega) (by omega) (by omega), ?_⟩
  have e33 : σ19.1 33 i = iI (r + 1 : Nat) := by rw [e19, zpt_ne (by decide), a1 i (Nat.le_refl _) (by omega) 33 (by decide) (by decide), hAn]
  rw [e33]
  intro σ20 e20
  have f20 : FM [26, 38, 39] [] σ σ20 := by
    rw [e20, e19]
    exact ((FM.rf _ _ _).pt (by decide) (by decide) _).pt (by decide) (by decide) _
  have lo : ∀ q, q < dep → σ20.1 38 q = σ.1 38 q ∧ σ20.1 39 q = σ.1 39 q := fun q hq => ⟨by rw [e20, zpt_ne (by decide), e19, zpt_at, pk_un (by omega)], by rw [e20, zpt_at, pk_un (by omega), e19, zpt_ne (by decide)]⟩
  have up : ∀ {τ}, exM σ20 τ m dn dep (repD P (r + 1)) → exM σ τ m dn dep (repD P (r + 1)) := fun h => ⟨f20.tr h.1, fun q hq => ⟨(h.2.1 q hq).1.trans (lo q hq).1, (h.2.1 q hq).2.trans (lo q hq).2⟩, h.2.2⟩
  refine s_rep (L := L) hdep hP hAe r (by omega) σ20 m dn ((agM_F f20 _ _).tr a1) ((f20.2.1 30 (by simp)).trans a2) (by omega) a4 ?_ a6 a7 a8 ?_ ?_ (fun τ ex => H1 τ (up ex)) (fun τ ex => H0 τ (up ex))
  · rw [e20, zpt_ne (by decide), e19, zpt_ne (by decide)]; exact a5
  · rw [e20, zpt_ne (by decide), e19, zpt_at, pk_us]
  · rw [e20, zpt_at, pk_us]
end ZME
