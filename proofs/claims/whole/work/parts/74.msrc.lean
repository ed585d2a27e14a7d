/-! the reference: its tokens -/
theorem li_57b : (57 : Int32) = iI 57 := rfl
def FN (L F : List Nat) (σ τ : zS) : Prop := (∀ b, ¬ b ∈ L → b ≠ 24 → τ.1 b = σ.1 b) ∧ (∀ k, ¬ k ∈ F → τ.1 24 k = σ.1 24 k) ∧ (∀ j, j ≠ 0 → τ.2.1 j = σ.2.1 j) ∧ τ.2.2 = σ.2.2
theorem FN.rf (L F : List Nat) (σ : zS) : FN L F σ σ := ⟨fun _ _ _ => rfl, fun _ _ => rfl, fun _ _ => rfl, rfl⟩
theorem FN.tr {L F : List Nat} {σ τ υ : zS} (h : FN L F σ τ) (h' : FN L F τ υ) : FN L F σ υ := ⟨fun b hb hn => (h'.1 b hb hn).trans (h.1 b hb hn), fun k hk => (h'.2.1 k hk).trans (h.2.1 k hk), fun j hj => (h'.2.2.1 j hj).trans (h.2.2.1 j hj), h'.2.2.2.trans h.2.2.2⟩
theorem FN.sub {L L' F F' : List Nat} {σ τ : zS} (h : FN L F σ τ) (hL : ∀ b, b ∈ L → b ∈ L') (hF : ∀ b, b ∈ F → b ∈ F') : FN L' F' σ τ := ⟨fun b hb hn => h.1 b (fun q => hb (hL b q)) hn, fun k hk => h.2.1 k (fun q => hk (hF k q)), h.2.2⟩
theorem FM.N {L F : List Nat} {σ τ : zS} (h : FM L F σ τ) : FN L F σ τ := ⟨h.1, h.2.1, fun j _ => by rw [h.2.2], by rw [h.2.2]⟩
theorem FN.pt {L F : List Nat} {σ τ : zS} (h : FN L F σ τ) {o : Nat} (ho : o ∈ L) (hn : o ≠ 24) (f : Nat → Int32) : FN L F σ (zpt τ o f) := h.tr ((FM.rf L F τ).pt ho hn f).N
theorem FN.fl {L F : List Nat} {σ τ : zS} (h : FN L F σ τ) {k : Nat} (hk : k ∈ F) (v : Int32) : FN L F σ (zup τ 24 k v) := h.tr ((FM.rf L F τ).fl hk v).N
theorem zJ_1 (σ : zS) (j : Nat) (v : Int64) : (zupJ σ j v).1 = σ.1 := rfl
theorem zJ_0 (σ : zS) (v : Int64) : (zupJ σ 0 v).2.1 0 = v := by show vp_updL σ.2.1 0 v 0 = v; unfold vp_updL; rw [if_pos rfl]
theorem FN.lg {L F : List Nat} {σ τ : zS} (h : FN L F σ τ) (v : Int64) : FN L F σ (zupJ τ 0 v) := h.tr ⟨fun _ _ _ => rfl, fun _ _ => rfl, fun j hj => by show vp_updL _ _ _ _ = _; simp [vp_updL, hj], rfl⟩
section ZMS
variable {g : zG} {l : Launch} {X : String → zS → Prop} {σ : zS} {f : Nat → Nat} {n p : Nat}
def SrN (σ : zS) (f : Nat → Nat) (n : Nat) : Prop := n ≤ 600 ∧ (∀ i, i < n → f i < 256) ∧ σ.1 24 3 = iI n ∧ (∀ i, i < n → σ.1 25 i = iI (f i)) ∧ σ.1 24 8 = iI 0 ∧ σ.1 24 9 = iI (-1)
def mK (k : Nat) : Nat := if k = 0 then 0 else if k = 1 then 4 else if k = 2 then 1 else if k = 3 then 2 else 3
def SrM (σ : zS) (f : Nat → Nat) (n p : Nat) : Prop := SrN σ f n ∧ p ≤ n ∧ σ.1 24 5 = iI (ztS f n p) ∧ σ.1 24 4 = iI (ztE f n p) ∧ σ.1 24 6 = iI (mK (ztK f n p)) ∧ (ztK f n p = 2 → σ.2.1 0 = lN (hQ f (ztS f n p) (ztE f n p - ztS f n p))) ∧ (ztK f n p = 3 → σ.1 24 7 = iI (ztV f n p)) ∧ (isG (ztK f n p) → σ.1 24 7 = iI (ztK f n p))
theorem SrN.fr {τ : zS} (H : SrN σ f n) (h1 : ∀ k, k = 3 ∨ k = 8 ∨ k = 9 → τ.1 24 k = σ.1 24 k) (h2 : τ.1 25 = σ.1 25) : SrN τ f n :=
  ⟨H.1, H.2.1, (h1 3 (by omega)).trans H.2.2.1, fun i hi => by rw [h2]; exact H.2.2.2.1 i hi, (h1 8 (by omega)).trans H.2.2.2.2.1, (h1 9 (by omega)).trans H.2.2.2.2.2⟩
theorem SrM.fr {τ : zS} {F : List Nat} {L : List Nat} (H : SrM σ f n p) (hF : FM L F σ τ) (h25 : ¬ 25 ∈ L) (h3 : ∀ k, 3 ≤ k → k ≤ 9 → ¬ k ∈ F) : SrM τ f n p := by
  have e := fun k (h : 3 ≤ k) (h' : k ≤ 9) => hF.2.1 k (h3 k h h')
  obtain ⟨h0, hp, a5, a4, a6, a2, a7, a8⟩ := H
  refine ⟨h0.fr (fun k hk => e k (by omega) (by omega)) (hF.1 25 h25 (by decide)), hp, (e 5 (by omega) (by omega)).trans a5, (e 4 (by omega) (by omega)).trans a4, (e 6 (by omega) (by omega)).trans a6, fun q => by rw [hF.2.2]; exact a2 q, fun q => (e 7 (by omega) (by omega)).trans (a7 q), fun q => (e 7 (by omega) (by omega)).trans (a8 q)⟩
theorem s_here {K : Int32 → zS → Prop} (hB : SrN σ f n) {q j : Nat} (h4 : σ.1 24 4 = iI q) (hq : q + j ≤ 5000) (H0 : n ≤ q + j → K (iI (-1)) σ) (H1 : q + j < n → K (iI (f (q + j))) σ) : CT g l M_X7_here 0 [.ref (zad g 24), .int (iI j)] σ (zQi K X) := by
  have hn := hB.1
  refine b_X7_here ?_
  rw [h4, hB.2.2.1]
  try simp (disch := omega) only [iI_add, iI_sub, iI_mul, iI_neg, iI_n, iI_lt, iI_le, iI_eq, iI_tn, iI_ti, bI_0, bI_1, iI_L, iL_0, Decidable.not_not, Int.toNat_natCast, zpt_at, zpt_ne, pk_us, pk_un, forall_eq, tn_0, tn_1, tn_2, tn_3, tn_4, tn_5, ni_1, ni_2, ni_3, ni_4, ni_5, not_false_eq_true, not_true_eq_false, true_implies, false_implies, and_true, true_and, iL_6, iL_m6, iL_7, iL_8, iL_9, iL_4, iL_m4, iL_m8, li_0, li_1, li_2, li_3, li_4, li_5, li_6, li_7, li_8, li_9, li_10, li_11, li_12, li_13, li_15, li_16, li_18, li_20, li_24, li_31, li_32, li_40, li_46, li_48, li_57, li_59, li_60, li_61, li_63, li_64, li_97, li_99, li_122, li_124, li_150, li_255, li_480, li_488, li_600, li_999, li_1110, li_54]
  refine ⟨fun h => H0 (by omega), fun h => ⟨iI_in (by omega) (by omega) (by omega), ?_⟩⟩
  rw [show ((q : Int) + (j : Int)).toNat = q + j by omega, hB.2.2.2.1 _ (by omega)]
  exact H1 (by omega)
theorem s_here0 {K : Int32 → zS → Prop} (hB : SrN σ f n) {q : Nat} (h4 : σ.1 24 4 = iI q) (hq : q ≤ 5000) (H0 : n ≤ q → K (iI (-1)) σ) (H1 : q < n → K (iI (f q)) σ) : CT g l M_X7_here 0 [.ref (zad g 24), .int 0] σ (zQi K X) :=
  s_here hB h4 (j := 0) hq H0 H1
theorem s_isLetter {K : Int32 → zS → Prop} {v : Int} (hv : -1 ≤ v) (hv2 : v < 256) (H0 : ¬ (97 ≤ v ∧ v ≤ 122) → K (iI 0) σ) (H1 : 97 ≤ v ∧ v ≤ 122 → K (iI 1) σ) : CT g l M_X7_isLetter 0 [.int (iI v)] σ (zQi K X) := by
  refine b_X7_isLetter ?_
  try simp (disch := omega) only [iI_add, iI_sub, iI_mul, iI_neg, iI_n, iI_lt, iI_le, iI_eq, iI_tn, iI_ti, bI_0, bI_1, iI_L, iL_0, Decidable.not_not, Int.toNat_natCast, zpt_at, zpt_ne, pk_us, pk_un, forall_eq, tn_0, tn_1, tn_2, tn_3, tn_4, tn_5, ni_1, ni_2, ni_3, ni_4, ni_5, not_false_eq_true, not_true_eq_false, true_implies, false_implies, and_true, true_and, iL_6, iL_m6, iL_7, iL_8, iL_9, iL_4, iL_m4, iL_m8, li_0, li_1, li_2, li_3, li_4, li_5, li_6, li_7, li_8, li_9, li_10, li_11, li_12, li_13, li_15, li_16, li_18, li_20, li_24, li_31, li_32, li_40, li_46, li_48, li_57, li_59, li_60, li_61, li_63, li_64, li_97, li_99, li_122, li_124, li_150, li_255, li_480, li_488, li_600, li_999, li_1110, li_54]
  exact ⟨fun h => H0 (by omega), fun h => ⟨fun h2 => H0 (by omega), fun h2 => H1 (by omega)⟩⟩
theorem s_isDigit {K : Int32 → zS → Prop} {v : Int} (hv : -1 ≤ v) (hv2 : v < 256) (H0 : ¬ (48 ≤ v ∧ v ≤ 57) → K (iI 0) σ) (H1 : 48 ≤ v ∧ v ≤ 57 → K (iI 1) σ) : CT g l M_X7_isDigit 0 [.int (iI v)] σ (zQi K X) := by
  refine b_X7_isDigit ?_
  try simp (disch := omega) only [iI_add, iI_sub, iI_mul, iI_neg, iI_n, iI_lt, iI_le, iI_eq, iI_tn, iI_ti, bI_0, bI_1, iI_L, iL_0, Decidable.not_not, Int.toNat_natCast, zpt_at, zpt_ne, pk_us, pk_un, forall_eq, tn_0, tn_1, tn_2, tn_3, tn_4, tn_5, ni_1, ni_2, ni_3, ni_4, ni_5, not_false_eq_true, not_true_eq_false, true_implies, false_implies, and_true, true_and, iL_6, iL_m6, iL_7, iL_8, iL_9, iL_4, iL_m4, iL_m8, li_0, li_1, li_2, li_3, li_4, li_5, li_6, li_7, li_8, li_9, li_10, li_11, li_12, li_13, li_15, li_16, li_18, li_20, li_24, li_31, li_32, li_40, li_46, li_48, li_57, li_59, li_60, li_61, li_63, li_64, li_97, li_99, li_122, li_124, li_150, li_255, li_480, li_488, li_600, li_999, li_1110, li_54]
  exact ⟨fun h => H0 (by omega), fun h => ⟨fun h2 => H0 (by omega), fun h2 => H1 (by omega)⟩⟩
theorem s_fin {K : zS → Prop} {σ0 τ : zS} (hB : SrN τ f n) (hp : p ≤ n) (H : ∀ τ, FN [] [4, 5, 6, 7] σ0 τ → SrM τ f n p → K τ) (hF : FN [] [4, 5, 6, 7] σ0 τ) (h5 : τ.1 24 5 = iI (ztS f n p)) (h4 : τ.1 24 4 = iI (ztE f n p)) (h6 : τ.1 24 6 = iI (mK (ztK f n p))) (h2 : ztK f n p = 2 → τ.2.1 0 = lN (hQ f (ztS f n p) (ztE f n p - ztS f n p))) (h7 : ztK f n p = 3 → τ.1 24 7 = iI (ztV f n p)) (h8 : isG (ztK f n p) → τ.1 24 7 = iI (ztK f n p)) : K τ :=
  H τ hF ⟨hB, hp, h5, h4, h6, h2, h7, h8⟩
theorem hQ_step {s k : Nat} (hk : k < 8) (hl : ∀ i, i < k + 1 → isL (f (s + i))) : (lN (hQ f s k) <<< (iL 5 &&& 63)) ||| Int32.toInt64 (iI (f (s + k)) - iI 97 + iI 1) = lN (hQ f s (k + 1)) := by
  rw [iI_sub, iI_add]
  have h1 := hQ_lt (f := f) (s := s) (k := k) (fun i hi => hl i (by omega))
  have h2 := hl k (by omega)
  have h3 : (32 : Nat) ^ k ≤ 32 ^ 7 := Nat.pow_le_pow_right (by decide) (by omega)
  have h4 : hQ f s k < 2 ^ 35 := Nat.lt_of_lt_of_le h1 (Nat.le_trans h3 (by decide))
  unfold isL at h2
  have e1 : lN (hQ f s k) <<< (iL 5 &&& 63) = lN (hQ f s k * 2 ^ 5) := wb_shl _ (k := 5) (by decide)
  have e2 : Int32.toInt64 (iI ((f (s + k) : Int) - 97 + 1)) = lN (f (s + k) - 96) := by
    rw [iI_L (by omega) (by omega)]
    show iL _ = iL ((f (s + k) - 96 : Nat) : Int)
    congr 1
    omega
  rw [e1, e2, wb_or (by omega) (by omega), ← Nat.shiftLeft_eq, ← Nat.shiftLeft_add_eq_or_of_lt (by omega), Nat.shiftLeft_eq]
  congr 1
  show _ = 32 * hQ f s k + (f (s + k) - 96)
  omega
/-- a word -/
theorem s_goOn_76 {K : zS → Prop} {σ0 : zS} (hp : p ≤ n) (hs : ztS f n p < ztL f n p) (H : ∀ τ, FN [] [4, 5, 6, 7] σ0 τ → SrM τ f n p → K τ) (j : Nat) (hj : ztS f n p + j ≤ ztL f n p) (σ : zS) (hB : SrN σ f n) (hF : FN [] [4, 5, 6, 7] σ0 σ) (h5 : σ.1 24 5 = iI (ztS f n p)) (h4 : σ.1 24 4 = iI (ztS f n p)) (hr : runQ isL f n (ztS f n p + j) = ztL f n p) (hw : σ.2.1 0 = lN (hQ f (ztS f n p) (min j 8))) : L_X7_goOn_76 g l K X (iI j) σ := by
  have hL : ztL f n p ≤ n := runQ_hi _ _ _ _ (ztS_hi hp)
  have ih := fun (h : ztS f n p + (j + 1) ≤ ztL f n p) σ a b c d e i => s_goOn_76 (K := K) hp hs H (j + 1) h σ a b c d e i
  have hn := hB.1
  have hlet : ∀ i, ztS f n p + i < ztL f n p → isL (f (ztS f n p + i)) := fun i hi => runQ_in isL f n (ztS f n p) _ (by omega) hi
  have e4 : ztE f n p = ztL f n p := by unfold ztE; rw [if_neg (by omega), if_pos hs]
  have e2 : ztK f n p = if ztL f n p - ztS f n p ≤ 8 then 2 else 1 := by unfold ztK; rw [if_neg (by omega), if_pos hs]
  -- the end of the word
  have fin : ztS f n p + j = ztL f n p → ∀ v : Int32, v = iI (if j ≤ 8 then 1 else 4 : Nat) → K (zup (zup σ 24 6 v) 24 4 (iI (ztL f n p))) := fun e v ev => by
    have ej : ztL f n p - ztS f n p = j := by omega
    rw [ej] at e2
    refine s_fin (p := p) (hB.fr (fun k hk => ?_) ?_) hp H ((hF.fl (by decide) _).fl (by decide) _) ?_ ?_ ?_ ?_ ?_ ?_
    · rw [zpt_at, zpt_at, pk_un (by omega), pk_un (by omega)]
    · rw [zpt_ne (by decide), zpt_ne (by decide)]
    · rw [zpt_at, zpt_at, pk_un (by decide), pk_un (by decide), h5]
    · rw [zpt_at, pk_us, e4]
    · rw [zpt_at, zpt_at, pk_un (by decide), pk_us, ev, e2]
      by_cases q : j ≤ 8
      · rw [if_pos q, if_pos q]; rfl
      · rw [if_neg q, if_neg q]; rfl
    · intro k
      have q : j ≤ 8 := by
        by_cases q : j ≤ 8
        · exact q
        · rw [if_neg q] at e2; omega
      show σ.2.1 0 = _
      rw [hw, e4, ej, show min j 8 = j by omega]
    · intro k
      by_cases q : j ≤ 8
      · rw [if_pos q] at e2; omega
      · rw [if_neg q] at e2; omega
    · intro k
      by_cases q : j ≤ 8
      · rw [if_pos q] at e2; unfold isG at k; omega
      · rw [if_neg q] at e2; unfold isG at k; omega
  -- no letter here
  have stop : ztS f n p + j = ztL f n p → (iI 0 = 0 → (iI ↑j ≤ 8 → ∀ (σ5 : zS), σ5 = zup σ 24 6 1 → ∀ (σ6 : zS), σ6 = zup σ5 24 4 (σ5.1 24 4 + iI ↑j) → K σ6) ∧ (¬iI ↑j ≤ 8 → ∀ (σ7 : zS), σ7 = zup σ 24 6 4 → ∀ (σ8 : zS), σ8 = zup σ7 24 4 (σ7.1 24 4 + iI ↑j) → K σ8)) := fun e => by
    have fe := fin e
    have a4 : ∀ v, (zup σ 24 6 v).1 24 4 = iI (ztS f n p) := fun v => by rw [zpt_at, pk_un (by decide)]; exact h4
    intro _
    rw [show (8 : Int32) = iI 8 from rfl, iI_le (by omega) (by omega) (by omega) (by omega)]
    refine ⟨fun q σ5 e5 σ6 e6 => ?_, fun q σ5 e5 σ6 e6 => ?_⟩
    · rw [e6, e5, a4, iI_add, show (ztS f n p : Int) + (j : Int) = (ztL f n p : Nat) by omega]
      exact fe 1 (by rw [if_pos (by omega)]; rfl)
    · rw [e6, e5, a4, iI_add, show (ztS f n p : Int) + (j : Int) = (ztL f n p : Nat) by omega]
      exact fe 4 (by rw [if_neg (by omega)]; rfl)
  refine b_X7_goOn_76 (s_here hB h4 (by omega) (fun h => ?_) (fun h => ?_))
  · refine s_isLetter (by omega) (by omega) (fun _ => ?_) (fun q => by omega)
    exact ⟨stop (by rw [← hr, runQ_n (by omega)]), fun q => absurd rfl q⟩
  · have hfj := hB.2.1 _ h
    refine s_isLetter (by omega) (by omega) (fun q => ?_) (fun q => ?_)
    · exact ⟨stop (by rw [← hr, runQ_n (by unfold isL; omega)]), fun q => absurd rfl q⟩
    · refine ⟨fun q => absurd q (by decide), fun _ => ?_⟩
      have hr2 : runQ isL f n (ztS f n p + (j + 1)) = ztL f n p := by
        rw [← hr, runQ_y h (by unfold isL; omega)]; rfl
      have hle : ztS f n p + (j + 1) ≤ ztL f n p := by rw [← hr2]; exact runQ_le _ _ _ _
      try simp (disch := omega) only [iI_add, iI_sub, iI_mul, iI_neg, iI_n, iI_lt, iI_le, iI_eq, iI_tn, iI_ti, bI_0, bI_1, iI_L, iL_0, Decidable.not_not, Int.toNat_natCast, zpt_at, zpt_ne, pk_us, pk_un, forall_eq, tn_0, tn_1, tn_2, tn_3, tn_4, tn_5, ni_1, ni_2, ni_3, ni_4, ni_5, not_false_eq_true, not_true_eq_false, true_implies, false_implies, and_true, true_and, iL_6, iL_m6, iL_7, iL_8, iL_9, iL_4, iL_m4, iL_m8, li_0, li_1, li_2, li_3, li_4, li_5, li_6, li_7, li_8, li_9, li_10, li_11, li_12, li_13, li_15, li_16, li_18, li_20, li_24, li_31, li_32, li_40, li_46, li_48, li_57, li_59, li_60, li_61, li_63, li_64, li_97, li_99, li_122, li_124, li_150, li_255, li_480, li_488, li_600, li_999, li_1110, li_54]
      refine ⟨fun q8 => ?_, fun q8 => ?_⟩
      · exact ih hle σ hB hF h5 h4 hr2 (by rw [hw]; congr 2; omega)
      · refine s_here hB h4 (by omega) (fun h => by omega) (fun _ => ?_)
        rw [hw, show min j 8 = j by omega, hQ_step (by omega) (fun i hi => hlet i (by omega))]
        refine ih hle _ (hB.fr (fun k hk => rfl) rfl) (hF.lg _) h5 h4 hr2 ?_
        rw [zJ_0, show min (j + 1) 8 = j + 1 by omega]
termination_by n - (ztS f n p + j)
/-- a number -/
theorem s_goOn_146 {K : zS → Prop} {σ0 : zS} (hp : p ≤ n) (hs0 : ¬ ztS f n p < ztL f n p) (hs : ztS f n p < ztD f n p) (H : ∀ τ, FN [] [4, 5, 6, 7] σ0 τ → SrM τ f n p → K τ) (j : Nat) (hj : ztS f n p + j ≤ ztD f n p) (σ : zS) (hB : SrN σ f n) (hF : FN [] [4, 5, 6, 7] σ0 σ) (h5 : σ.1 24 5 = iI (ztS f n p)) (h4 : σ.1 24 4 = iI (ztS f n p)) (hr : runQ isD f n (ztS f n p + j) = ztD f n p) (hw : σ.1 24 7 = iI (vQ f (ztS f n p) (min j 3))) : L_X7_goOn_146 g l K X (iI j) σ := by
  have hL : ztD f n p ≤ n := runQ_hi _ _ _ _ (ztS_hi hp)
  have ih := fun (h : ztS f n p + (j + 1) ≤ ztD f n p) σ a b c d e i => s_goOn_146 (K := K) hp hs0 hs H (j + 1) h σ a b c d e i
  have hn := hB.1
  have hlet : ∀ i, ztS f n p + i < ztD f n p → isD (f (ztS f n p + i)) := fun i hi => runQ_in isD f n (ztS f n p) _ (by omega) hi
  have e4 : ztE f n p = ztD f n p := by unfold ztE; rw [if_neg (by omega), if_neg hs0, if_pos hs]
  have e2 : ztK f n p = if ztD f n p - ztS f n p ≤ 3 then 3 else 1 := by unfold ztK; rw [if_neg (by omega), if_neg hs0, if_pos hs]
  have fin : ztS f n p + j = ztD f n p → ∀ v : Int32, v = iI (if j ≤ 3 then 2 else 4 : Nat) → K (zup (zup σ 24 6 v) 24 4 (iI (ztD f n p))) := fun e v ev => by
    have ej : ztD f n p - ztS f n p = j := by omega
    rw [ej] at e2
    refine s_fin (p := p) (hB.fr (fun k hk => ?_) ?_) hp H ((hF.fl (by decide) _).fl (by decide) _) ?_ ?_ ?_ ?_ ?_ ?_
    · rw [zpt_at, zpt_at, pk_un (by omega), pk_un (by omega)]
    · rw [zpt_ne (by decide), zpt_ne (by decide)]
    · rw [zpt_at, zpt_at, pk_un (by decide), pk_un (by decide), h5]
    · rw [zpt_at, pk_us, e4]
    · rw [zpt_at, zpt_at, pk_un (by decide), pk_us, ev, e2]
      by_cases q : j ≤ 3
      · rw [if_pos q, if_pos q]; rfl
      · rw [if_neg q, if_neg q]; rfl
    · intro k
      by_cases q : j ≤ 3
      · rw [if_pos q] at e2; omega
      · rw [if_neg q] at e2; omega
    · intro k
      have q : j ≤ 3 := by
        by_cases q : j ≤ 3
        · exact q
        · rw [if_neg q] at e2; omega
      rw [zpt_at, zpt_at, pk_un (by decide), pk_un (by decide), hw]
      unfold ztV
      rw [e4, ej, show min j 3 = j by omega]
    · intro k
      by_cases q : j ≤ 3
      · rw [if_pos q] at e2; unfold isG at k; omega
      · rw [if_neg q] at e2; unfold isG at k; omega
  have stop : ztS f n p + j = ztD f n p → (iI 0 = 0 → (iI ↑j ≤ 3 → ∀ (σ5 : zS), σ5 = zup σ 24 6 2 → ∀ (σ6 : zS), σ6 = zup σ5 24 4 (σ5.1 24 4 + iI ↑j) → K σ6) ∧ (¬iI ↑j ≤ 3 → ∀ (σ7 : zS), σ7 = zup σ 24 6 4 → ∀ (σ8 : zS), σ8 = zup σ7 24 4 (σ7.1 24 4 + iI ↑j) → K σ8)) := fun e => by
    have fe := fin e
    have a4 : ∀ v, (zup σ 24 6 v).1 24 4 = iI (ztS f n p) := fun v => by rw [zpt_at, pk_un (by decide)]; exact h4
    intro _
    rw [show (3 : Int32) = iI 3 from rfl, iI_le (by omega) (by omega) (by omega) (by omega)]
    refine ⟨fun q σ5 e5 σ6 e6 => ?_, fun q σ5 e5 σ6 e6 => ?_⟩
    · rw [e6, e5, a4, iI_add, show (ztS f n p : Int) + (j : Int) = (ztD f n p : Nat) by omega]
      exact fe 2 (by rw [if_pos (by omega)]; rfl)
    · rw [e6, e5, a4, iI_add, show (ztS f n p : Int) + (j : Int) = (ztD f n p : Nat) by omega]
      exact fe 4 (by rw [if_neg (by omega)]; rfl)
  refine b_X7_goOn_146 (s_here hB h4 (by omega) (fun h => ?_) (fun h => ?_))
  · refine s_isDigit (by omega) (by omega) (fun _ => ?_) (fun q => by omega)
    exact ⟨stop (by rw [← hr, runQ_n (by omega)]), fun q => absurd rfl q⟩
  · have hfj := hB.2.1 _ h
    refine s_isDigit (by omega) (by omega) (fun q => ?_) (fun q => ?_)
    · exact ⟨stop (by rw [← hr, runQ_n (by unfold isD; omega)]), fun q => absurd rfl q⟩
    · refine ⟨fun q => absurd q (by decide), fun _ => ?_⟩
      have hr2 : runQ isD f n (ztS f n p + (j + 1)) = ztD f n p := by
        rw [← hr, runQ_y h (by unfold isD; omega)]; rfl
      have hle : ztS f n p + (j + 1) ≤ ztD f n p := by rw [← hr2]; exact runQ_le _ _ _ _
      try simp (disch := omega) only [iI_add, iI_sub, iI_mul, iI_neg, iI_n, iI_lt, iI_le, iI_eq, iI_tn, iI_ti, bI_0, bI_1, iI_L, iL_0, Decidable.not_not, Int.toNat_natCast, zpt_at, zpt_ne, pk_us, pk_un, forall_eq, tn_0, tn_1, tn_2, tn_3, tn_4, tn_5, ni_1, ni_2, ni_3, ni_4, ni_5, not_false_eq_true, not_true_eq_false, true_implies, false_implies, and_true, true_and, iL_6, iL_m6, iL_7, iL_8, iL_9, iL_4, iL_m4, iL_m8, li_0, li_1, li_2, li_3, li_4, li_5, li_6, li_7, li_8, li_9, li_10, li_11, li_12, li_13, li_15, li_16, li_18, li_20, li_24, li_31, li_32, li_40, li_46, li_48, li_57, li_59, li_60, li_61, li_63, li_64, li_97, li_99, li_122, li_124, li_150, li_255, li_480, li_488, li_600, li_999, li_1110, li_54]
      refine ⟨fun q8 => ?_, fun q8 => ?_⟩
      · exact ih hle σ hB hF h5 h4 hr2 (by rw [hw]; congr 3; omega)
      · refine s_here hB h4 (by omega) (fun h => by omega) (fun _ => ?_)
        have hd := hlet j (by omega)
        unfold isD at hd
        rw [hw, show min j 3 = j by omega, show iI 10 * iI (vQ f (ztS f n p) j) + iI (f (ztS f n p + j)) - iI 48 = iI (vQ f (ztS f n p) (j + 1)) by
          rw [iI_mul, iI_add, iI_sub]
          show _ = iI ((10 * vQ f (ztS f n p) j + (f (ztS f n p + j) - 48) : Nat))
          congr 1
          omega]
        refine ih hle _ (hB.fr (fun k hk => ?_) ?_) (hF.fl (by decide) _) ?_ ?_ hr2 ?_
        · rw [zpt_at, pk_un (by omega)]
        · rw [zpt_ne (by decide)]
        · rw [zpt_at, pk_un (by decide), h5]
        · rw [zpt_at, pk_un (by decide), h4]
        · rw [zpt_at, pk_us, show min (j + 1) 3 = j + 1 by omega]
termination_by n - (ztS f n p + j)
/-- the whole step -/
theorem s_goOn_0 {K : zS → Prop} {σ0 : zS} (hp : p ≤ n) (H : ∀ τ, FN [] [4, 5, 6, 7] σ0 τ → SrM τ f n p → K τ) (q : Nat) (hq : q ≤ n) (hr : runQ isB f n q = ztS f n p) (σ : zS) (hB : SrN σ f n) (hF : FN [] [4, 5, 6, 7] σ0 σ) (h4 : σ.1 24 4 = iI q) : L_X7_goOn_0 g l K X σ := by
  have ih := fun h hr σ hB hF h4 => s_goOn_0 (K := K) hp H (q + 1) h hr σ hB hF h4
  have hn := hB.1
  have nxt : q < n → isB (f q) → ∀ τ, τ = zup σ 24 4 (σ.1 24 4 + 1) → L_X7_goOn_0 g l K X τ := fun h1 h2 τ e => by
    rw [h4] at e
    refine ih (by omega) ((runQ_y h1 h2).symm.trans hr) τ (hB.fr (fun k hk => ?_) ?_) ?_ ?_
    · rw [e, zpt_at, pk_un (by omega)]
    · rw [e, zpt_ne (by decide)]
    · rw [e]; exact hF.fl (by decide) _
    · rw [e, zpt_at, pk_us, show (1 : Int32) = iI 1 from rfl, iI_add]; rfl
  have rest : q = ztS f n p → ∀ σ6, σ6 = zup σ 24 5 (σ.1 24 4) → ∀ σ7, σ7 = zupJ σ6 0 (0 : Int64) → ∀ σ8, σ8 = zup σ7 24 7 0 → SrN σ8 f n ∧ FN [] [4, 5, 6, 7] σ0 σ8 ∧ σ8.1 24 5 = iI (ztS f n p) ∧ σ8.1 24 4 = iI (ztS f n p) ∧ σ8.1 24 7 = iI 0 ∧ σ8.2.1 0 = lN 0 := fun e σ6 e6 σ7 e7 σ8 e8 => by
    subst e
    rw [h4] at e6
    subst e6
    subst e7
    refine ⟨hB.fr (fun k hk => ?_) ?_, ?_, ?_, ?_, ?_, ?_⟩
    · rw [e8, zpt_at, pk_un (by omega), zJ_1, zpt_at, pk_un (by omega)]
    · rw [e8, zpt_ne (by decide), zJ_1, zpt_ne (by decide)]
    · rw [e8]; exact ((hF.fl (by decide) _).lg _).fl (by decide) _
    · rw [e8, zpt_at, pk_un (by decide), zJ_1, zpt_at, pk_us]
    · rw [e8, zpt_at, pk_un (by decide), zJ_1, zpt_at, pk_un (by decide)]; exact h4
    · rw [e8, zpt_at, pk_us]; rfl
    · rw [e8]; exact zJ_0 _ _
  refine b_X7_goOn_0 (s_here0 hB h4 (by omega) (fun h => ?_) (fun h => ?_))
  · refine ⟨fun k => absurd k (by decide), fun _ => s_here0 hB h4 (by omega) (fun _ => ?_) (fun k => by omega)⟩
    refine ⟨fun _ => ?_, fun k => absurd k (by decide)⟩
    intro σ6 e6 σ7 e7 σ8 e8
    obtain ⟨hB8, hF8, a5, a4, a7, a2⟩ := rest (by rw [← hr, runQ_n (by omega)]) σ6 e6 σ7 e7 σ8 e8
    have hs : n ≤ ztS f n p := by rw [← hr, runQ_n (by omega)]; omega
    have hs2 := ztS_hi (f := f) hp
    refine s_here0 hB8 a4 (by omega) (fun _ => ?_) (fun k => by omega)
    refine ⟨fun k => absurd k (by decide), fun _ => ?_⟩
    intro σ9 e9
    have e4 : ztE f n p = ztS f n p := by unfold ztE; rw [if_pos hs]
    have e2 : ztK f n p = 0 := ztK_0.mpr hs
    refine s_fin (p := p) (hB8.fr (fun k hk => ?_) ?_) hp H (by rw [e9]; exact hF8.fl (by decide) _) ?_ ?_ ?_ ?_ ?_ ?_
    · rw [e9, zpt_at, pk_un (by omega)]
    · rw [e9, zpt_ne (by decide)]
    · rw [e9, zpt_at, pk_un (by decide), a5]
    · rw [e9, zpt_at, pk_un (by decide), a4, e4]
    · rw [e9, zpt_at, pk_us, e2]; rfl
    · intro k; omega
    · intro k; omega
    · intro k; unfold isG at k; omega
  · have hfq := hB.2.1 _ h
    have bl : ¬ isB (f q) → q = ztS f n p := fun k => by rw [← hr, runQ_n (fun z => k z.2)]
    refine ⟨fun k => nxt h ?_, fun k => s_here0 hB h4 (by omega) (fun k => by omega) (fun _ => ⟨fun k2 => ?_, fun k2 => nxt h ?_⟩)⟩
    · rw [show (32 : Int32) = iI 32 from rfl, iI_eq (by omega) (by omega) (by omega) (by omega)] at k
      unfold isB; omega
    · rw [show (32 : Int32) = iI 32 from rfl, iI_eq (by omega) (by omega) (by omega) (by omega)] at k
      rw [show (10 : Int32) = iI 10 from rfl, iI_eq (by omega) (by omega) (by omega) (by omega)] at k2
      have eq := bl (by unfold isB; omega)
      intro σ6 e6 σ7 e7 σ8 e8
      obtain ⟨hB8, hF8, a5, a4, a7, a2⟩ := rest eq σ6 e6 σ7 e7 σ8 e8
      subst eq
      refine s_here0 hB8 a4 (by omega) (fun k => by omega) (fun _ => ?_)
      refine ⟨fun _ => ?_, fun k => absurd ((iI_le (a := 0) (b := (f (ztS f n p) : Int)) (by omega) (by omega) (by omega) (by omega)).mpr (by omega)) k⟩
      refine s_isLetter (by omega) (by omega) (fun hl => ?_) (fun hl => ?_)
      · refine ⟨fun _ => s_isDigit (by omega) (by omega) (fun hd => ?_) (fun hd => ?_), fun k => absurd rfl k⟩
        · refine ⟨fun _ => ?_, fun k => absurd rfl k⟩
          have hL0 : ¬ ztS f n p < ztL f n p := by
            have : ztL f n p = ztS f n p := runQ_n (by unfold isL; omega)
            omega
          have hD0 : ¬ ztS f n p < ztD f n p := by
            have : ztD f n p = ztS f n p := runQ_n (by unfold isD; omega)
            omega
          have e4 : ztE f n p = ztS f n p + 1 := by unfold ztE; rw [if_neg (by omega), if_neg hL0, if_neg hD0]
          have e2 : ztK f n p = if isG (f (ztS f n p)) then f (ztS f n p) else 1 := by unfold ztK; rw [if_neg (by omega), if_neg hL0, if_neg hD0]
          have go : ∀ (v : Int32) (b : Nat), v = iI b → b = mK (ztK f n p) → ∀ σ16, σ16 = zup σ8 24 6 v → ∀ σ17, σ17 = zup σ16 24 7 (iI (f (ztS f n p))) → ∀ σ18, σ18 = zup σ17 24 4 (σ17.1 24 4 + 1) → K σ18 := fun v b ev eb σ16 e16 σ17 e17 σ18 e18 => by
            have b4 : σ17.1 24 4 = iI (ztS f n p) := by rw [e17, e16, zpt_at, zpt_at, pk_un (by decide), pk_un (by decide), a4]
            rw [b4, e17, e16] at e18
            refine s_fin (p := p) (hB8.fr (fun k hk => ?_) ?_) hp H (by rw [e18]; exact ((hF8.fl (by decide) _).fl (by decide) _).fl (by decide) _) ?_ ?_ ?_ ?_ ?_ ?_
            · rw [e18, zpt_at, zpt_at, zpt_at, pk_un (by omega), pk_un (by omega), pk_un (by omega)]
            · rw [e18, zpt_ne (by decide), zpt_ne (by decide), zpt_ne (by decide)]
            · rw [e18, zpt_at, zpt_at, zpt_at, pk_un (by decide), pk_un (by decide), pk_un (by decide), a5]
            · rw [e18, zpt_at, pk_us, e4, show (1 : Int32) = iI 1 from rfl, iI_add]; rfl
            · rw [e18, zpt_at, zpt_at, zpt_at, pk_un (by decide), pk_un (by decide), pk_us, ev, eb]
            · intro k; rw [e2] at k; by_cases q : isG (f (ztS f n p))
              · rw [if_pos q] at k; unfold isG at q; omega
              · rw [if_neg q] at k; omega
            · intro k; rw [e2] at k; by_cases q : isG (f (ztS f n p))
              · rw [if_pos q] at k; unfold isG at q; omega
              · rw [if_neg q] at k; omega
            · intro k
              rw [e18, zpt_at, zpt_at, pk_un (by decide), pk_us]
              rw [e2] at k ⊢
              by_cases q : isG (f (ztS f n p))
              · rw [if_pos q]
              · rw [if_neg q] at k; unfold isG at k; omega
          have gS : isG (f (ztS f n p)) → 3 = mK (ztK f n p) := fun q => by
            rw [e2, if_pos q]
            unfold isG at q
            rcases q with q | q | q <;> rw [q] <;> rfl
          rw [show (59 : Int32) = iI 59 from rfl, show (40 : Int32) = iI 40 from rfl, show (41 : Int32) = iI 41 from rfl, iI_eq (by omega) (by omega) (by omega) (by omega), iI_eq (by omega) (by omega) (by omega) (by omega), iI_eq (by omega) (by omega) (by omega) (by omega)]
          refine ⟨fun k => go 3 3 rfl (gS (by unfold isG; omega)), fun k1 => ⟨fun k => go 3 3 rfl (gS (by unfold isG; omega)), fun k2 => ⟨fun k3 => go 4 4 rfl ?_, fun k => go 3 3 rfl (gS (by unfold isG; omega))⟩⟩⟩
          rw [e2, if_neg (by unfold isG; omega)]
          rfl
        · refine ⟨fun k => absurd k (by decide), fun _ => ?_⟩
          have hL0 : ¬ ztS f n p < ztL f n p := by
            have : ztL f n p = ztS f n p := runQ_n (by unfold isL; omega)
            omega
          have hD0 : ztS f n p < ztD f n p := by
            have : ztD f n p = runQ isD f n (ztS f n p + 1) := runQ_y h (by unfold isD; omega)
            have := runQ_le isD f n (ztS f n p + 1)
            omega
          exact s_goOn_146 hp hL0 hD0 H 0 (by omega) σ8 hB8 hF8 a5 a4 rfl a7
      · refine ⟨fun k => absurd k (by decide), fun _ => ?_⟩
        have hL0 : ztS f n p < ztL f n p := by
          have : ztL f n p = runQ isL f n (ztS f n p + 1) := runQ_y h (by unfold isL; omega)
          have := runQ_le isL f n (ztS f n p + 1)
          omega
        exact s_goOn_76 hp hL0 H 0 (by omega) σ8 hB8 hF8 a5 a4 rfl a2
    · rw [show (10 : Int32) = iI 10 from rfl, iI_eq (by omega) (by omega) (by omega) (by omega)] at k2
      unfold isB; omega
termination_by n - q
theorem s_goOn1 {K : zS → Prop} (hB : SrN σ f n) (hp : p ≤ n) (h4 : σ.1 24 4 = iI p) (H : ∀ τ, FN [] [4, 5, 6, 7] σ τ → SrM τ f n p → K τ) : CT g l M_X7_goOn 0 [.ref (zad g 24)] σ (zQv K X) :=
  b_X7_goOn (s_goOn_0 hp H p hp rfl σ hB (FN.rf _ _ _) h4)
theorem s_goOn {K : zS → Prop} (hS : SrM σ f n p) (H : ∀ τ, FN [] [4, 5, 6, 7] σ τ → SrM τ f n (ztE f n p) → K τ) : CT g l M_X7_goOn 0 [.ref (zad g 24)] σ (zQv K X) :=
  s_goOn1 hS.1 (ztE_hi hS.2.1) hS.2.2.2.1 H
end ZMS
