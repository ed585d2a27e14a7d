/-! the class: changes of the blind -/
section ZCG
variable {g : zG} {l : Launch} {K : Int32 → zS → Prop} {X : String → zS → Prop} {m m' : Nat → Int32} {σ : zS}
/-- what changes of the blind may change -/
def pB (b : Nat) : Prop := 73 ≤ b ∧ b < 83
theorem Cl.cong {x : Int32} {h : Nat} {f f' : Nat → Nat} (hc : Cl x h f) (e : ∀ r, r < h → f r = f' r) : Cl x h f' := fun r hr => by
  rw [hc r hr]
  by_cases q : r < h
  · rw [if_pos q, if_pos q, e r q]
  · rw [if_neg q, if_neg q]
theorem R0.mk (hw : WF m) (hb : Sb m m') (hx : Sx m m') {τ : zS} (h : R0 σ 73 m) (h73 : ∀ k, k ≠ 6 → τ.1 73 k = σ.1 73 k) (h6 : ∀ k, k < 32 → bt (τ.1 73 6) k = decide (k < nS m ∧ td m' k = 1)) (h74 : τ.1 (73 + 1) = σ.1 (73 + 1)) (h75 : τ.1 (73 + 2) = σ.1 (73 + 2)) (hct : ∀ k, k < nS m → ∀ s, s < 2 → τ.1 (73 + 4 + s) k = iI (ct m' k s)) (hp : ∀ s, s < 2 → τ.1 (73 + 6 + s) = σ.1 (73 + 6 + s)) (hf : ∀ c, c < cols m → ∀ s, s < 2 → Cl (τ.1 (73 + 8 + s) c) (nH m) (fc m' s c)) : R0 τ 73 m' := by
  have hwb := wf_b hw
  obtain ⟨r0, r1, r2, r3, r4, r5, r6, r7, r8⟩ := h
  unfold R0
  rw [hb.e_nH, hb.e_nC, hb.e_nS, hb.e_cols hw, hx.e_boxes hw, hx.e_boxes hw, h73 0 (by decide), h73 1 (by decide), h73 2 (by decide), h73 3 (by decide), h73 4 (by decide), h73 5 (by decide), h74, h75]
  refine ⟨r0, r1, r2, r3, r4, r5, h6, fun k hk => ?_, fun c hc s hs => ?_⟩
  · obtain ⟨a, b, _⟩ := r7 k hk
    rw [hb.e_wd (by omega), hb.e_fst (by omega)]
    exact ⟨a, b, hct k hk⟩
  · rw [hp s hs]
    exact ⟨((r8 c hc s hs).1).cong (fun r _ => (hx.e_pic hw s c r).symm), hf c hc s hs⟩
theorem c_pullProblem {z : Int} (hz : I32 z) (H0 : (-8 ≤ z ∧ z ≤ 8) ∧ z ≠ 0 → K (iI 0) σ) (H2 : ¬ ((-8 ≤ z ∧ z ≤ 8) ∧ z ≠ 0) → K (iI 2) σ) : CT g l M_X6_pullProblem 0 [.int (iI z)] σ (zQi K X) := by
  refine b_X6_pullProblem ?_
  try simp (disch := omega) only [iI_add, iI_sub, iI_mul, iI_neg, iI_n, iI_lt, iI_le, iI_eq, iI_tn, iI_ti, bI_0, bI_1, iI_L, iL_0, Decidable.not_not, Int.toNat_natCast, zpt_at, zpt_ne, pk_us, pk_un, forall_eq, tn_0, tn_1, tn_2, tn_3, tn_4, tn_5, ni_1, ni_2, ni_3, ni_4, ni_5, not_false_eq_true, not_true_eq_false, true_implies, false_implies, and_true, true_and, iL_6, iL_m6, iL_7, iL_8, iL_9, iL_4, iL_m4, iL_m8, li_0, li_1, li_2, li_3, li_4, li_5, li_6, li_7, li_8, li_9, li_10, li_11, li_12, li_13, li_15, li_16, li_18, li_20, li_24, li_31, li_32, li_40, li_46, li_48, li_57, li_59, li_60, li_61, li_63, li_64, li_97, li_99, li_122, li_124, li_150, li_255, li_480, li_488, li_600, li_999, li_1110, li_54]
  exact ⟨fun h => H2 (by omega), fun h => ⟨fun h2 => H2 (by omega), fun h2 => ⟨fun h3 => H0 (by omega), fun h3 => H2 (by omega)⟩⟩⟩
theorem c_tap {k : Nat} (hR : R0 σ 73 m) (hT : σ.1 (73 + 3) k = iI (tu m k)) (hw : WF m) (hk : k < nS m) {b : Int} (hb : -1000000 ≤ b ∧ b ≤ 1000000) (H : K (iI (plT m b k)) σ) : CT g l M_X0_turnAfterPull 0 [.ref (zad g 73), .int (iI k), .int (iI b)] σ (zQi K X) := by
  have hwb := wf_b hw
  have hs := wf_s hw hk
  unfold plT at H
  refine b_X0_turnAfterPull zB_73 (c_isTied zB_73 hR hw hk ?_)
  rw [tnk hk (by omega), hT, iI_add, show (-4 : Int32) = iI (-4) from rfl, show (4 : Int32) = iI 4 from rfl, iI_min (by omega) (by omega) (by omega) (by omega), iI_max (by omega) (by omega) (by omega) (by omega)]
  try simp (disch := omega) only [iI_add, iI_sub, iI_mul, iI_neg, iI_n, iI_lt, iI_le, iI_eq, iI_tn, iI_ti, bI_0, bI_1, iI_L, iL_0, Decidable.not_not, Int.toNat_natCast, zpt_at, zpt_ne, pk_us, pk_un, forall_eq, tn_0, tn_1, tn_2, tn_3, tn_4, tn_5, ni_1, ni_2, ni_3, ni_4, ni_5, not_false_eq_true, not_true_eq_false, true_implies, false_implies, and_true, true_and, iL_6, iL_m6, iL_7, iL_8, iL_9, iL_4, iL_m4, iL_m8, li_0, li_1, li_2, li_3, li_4, li_5, li_6, li_7, li_8, li_9, li_10, li_11, li_12, li_13, li_15, li_16, li_18, li_20, li_24, li_31, li_32, li_40, li_46, li_48, li_57, li_59, li_60, li_61, li_63, li_64, li_97, li_99, li_122, li_124, li_150, li_255, li_480, li_488, li_600, li_999, li_1110, li_54]
  refine ⟨fun h => ⟨in10 hk hwb.2.2.1, ?_⟩, fun h => ⟨in10 hk hwb.2.2.1, ?_⟩⟩
  · rw [if_pos (by omega)] at H; exact H
  · rw [if_neg (by omega)] at H; exact H
abbrev LT : List Nat := [76]
theorem LT_pB : ∀ b, b ∈ LT → pB b := fun b hb => by
  simp only [LT, List.mem_singleton] at hb
  subst hb
  exact ⟨by decide, by decide⟩
theorem r0_tr {τ : zS} (hR : R0 σ 73 m) (hF : FrL LT σ τ) (t : Nat → Int) (hw : WF m) : R0 τ 73 (wT m t) := by
  refine R0.wT hw ?_
  unfold R0
  have e : ∀ b, b ≠ 76 → τ.1 b = σ.1 b := fun b hb => hF.1 b (by simpa using hb)
  rw [e 73 (by decide), e (73 + 1) (by decide), e (73 + 2) (by decide)]
  refine ⟨hR.1, hR.2.1, hR.2.2.1, hR.2.2.2.1, hR.2.2.2.2.1, hR.2.2.2.2.2.1, hR.2.2.2.2.2.2.1, fun k hk => ?_, fun c hc s hs => ?_⟩
  · obtain ⟨a, b, c⟩ := hR.2.2.2.2.2.2.2.1 k hk
    exact ⟨a, b, fun s hs => by rw [e _ (by omega)]; exact c s hs⟩
  · rw [e (73 + 6 + s) (by omega), e (73 + 8 + s) (by omega)]
    exact hR.2.2.2.2.2.2.2.2 c hc s hs
theorem r0_lt {τ : zS} (hR : R0 σ 73 m) (hF : FrL LT σ τ) (hw : WF m) : R0 τ 73 m := by
  have := r0_tr hR hF (tu m) hw
  rw [wT_tu_id] at this
  exact this
theorem c_pullCord_4 {σ0 : zS} (hN : Nw σ0 m) (hw : WF m) {b : Int} (hb : -1000000 ≤ b ∧ b ≤ 1000000) (H : ∀ τ, FrL LT σ0 τ → Nw τ (wT m (plT m b)) → K (iI (fb_ct (fun j => decide (plT m b j ≠ tu m j)) (nS m))) τ) (k : Nat) (hk : k ≤ nS m) (σ : zS) (hF : FrL LT σ0 σ) (h1 : ∀ j, j < k → σ.1 (73 + 3) j = iI (plT m b j)) (h2 : ∀ j, k ≤ j → j < nS m → σ.1 (73 + 3) j = iI (tu m j)) : L_X0_pullCord_4 g l K X 73 (iI b) (iI (fb_ct (fun j => decide (plT m b j ≠ tu m j)) k)) (iI k) σ := by
  have hwb := wf_b hw
  have hR := r0_lt hN.1 hF hw
  have ih := fun h σ a b c => c_pullCord_4 hN hw hb H (k + 1) h σ a b c
  refine b_X0_pullCord_4 zB_73 ?_
  rw [hR.2.2.1]
  try simp (disch := omega) only [iI_add, iI_sub, iI_mul, iI_neg, iI_n, iI_lt, iI_le, iI_eq, iI_tn, iI_ti, bI_0, bI_1, iI_L, iL_0, Decidable.not_not, Int.toNat_natCast, zpt_at, zpt_ne, pk_us, pk_un, forall_eq, tn_0, tn_1, tn_2, tn_3, tn_4, tn_5, ni_1, ni_2, ni_3, ni_4, ni_5, not_false_eq_true, not_true_eq_false, true_implies, false_implies, and_true, true_and, iL_6, iL_m6, iL_7, iL_8, iL_9, iL_4, iL_m4, iL_m8, li_0, li_1, li_2, li_3, li_4, li_5, li_6, li_7, li_8, li_9, li_10, li_11, li_12, li_13, li_15, li_16, li_18, li_20, li_24, li_31, li_32, li_40, li_46, li_48, li_57, li_59, li_60, li_61, li_63, li_64, li_97, li_99, li_122, li_124, li_150, li_255, li_480, li_488, li_600, li_999, li_1110, li_54]
  refine ⟨fun h => ?_, fun h => ?_⟩
  · obtain rfl : k = nS m := by omega
    exact H σ hF ⟨r0_tr hN.1 hF _ hw, RT.wT (fun j hj => plT_b hw b hj) h1⟩
  · have hk' : k < nS m := by omega
    have hs := wf_s hw hk'
    have hp := plT_b hw b hk'
    have h10 := in10 hk' hwb.2.2.1
    refine c_tap hR (h2 k (Nat.le_refl _) hk') hw hk' hb ⟨h10, ?_⟩
    rw [h2 k (Nat.le_refl _) hk']
    have nx := ih hk' (zup σ (73 + 3) k (iI (plT m b k))) (hF.up (by decide) _) (fun j hj => by
      rw [zpt_at]
      by_cases e : j = k
      · subst e; rw [pk_us]
      · rw [pk_un e]; exact h1 j (by omega)) (fun j hj hj' => by
      rw [zpt_at, pk_un (by omega)]; exact h2 j (by omega) hj')
    rw [fb_ct_succ] at nx
    simp (disch := omega) only [iI_eq, forall_eq, iI_tn, Int.toNat_natCast, li_0, li_1, iI_add]
    refine ⟨fun h3 => ⟨h10, ?_⟩, fun h3 => ⟨h10, ?_⟩⟩
    · rw [if_neg (by simp [h3])] at nx
      exact nx
    · rw [if_pos (by simp [h3])] at nx
      exact nx
termination_by nS m - k
theorem c_pullCord (hN : Nw σ m) (hw : WF m) {b : Int} (hb : -1000000 ≤ b ∧ b ≤ 1000000) (H : ∀ τ, FrL LT σ τ → Nw τ (wT m (plT m b)) → K (iI (fb_ct (fun j => decide (plT m b j ≠ tu m j)) (nS m))) τ) : CT g l M_X0_pullCord 0 [.ref (zad g 73), .int (iI b)] σ (zQi K X) :=
  b_X0_pullCord zB_73 (c_pullCord_4 hN hw hb H 0 (Nat.zero_le _) σ (FrL.rf _ _) (fun j hj => absurd hj (Nat.not_lt_zero j)) (fun j _ hj => hN.2 j hj))
/-- after a change of the class: the row, what is kept -/
def pC (b : Nat) : Prop := b = 16 ∨ (73 ≤ b ∧ b < 83) ∨ (103 ≤ b ∧ b < 163)
def ChC (σ : zS) (u : Nat) (h : Nat → Nat → Int32) (m m' : Nat → Int32) (τ : zS) : Prop := FrP pC σ τ ∧ Nw τ m' ∧ HsC τ (min 6 (u + 1)) (hpush m h)
theorem chc_of {u : Nat} {h : Nat → Nat → Int32} {τ υ : zS} (h1 : FrP pK σ τ) (h2 : HsC τ (min 6 (u + 1)) (hpush m h)) (h3 : FrP pB τ υ) (h4 : Nw υ m') : ChC σ u h m m' υ :=
  ⟨FrP.tr (h1.sub (fun b hb => by unfold pK at hb; unfold pC; omega)) (h3.sub (fun b hb => by unfold pB at hb; unfold pC; omega)), h4, h2.fr (h3.1 16 (by unfold pB; omega)) (fun b h5 h6 => h3.1 b (by unfold pB; omega))⟩
theorem nw_pK {τ : zS} (hN : Nw σ m) (h : FrP pK σ τ) : Nw τ m := (Nw_Nb.mp hN).fr (fun b h1 h2 => h.1 b (by unfold pK; omega))
theorem c_pull {u : Nat} {h : Nat → Nat → Int32} (hN : Nw σ m) (hw : WF m) (hH : HsC σ u h) (hhw : ∀ i, i < u → WF (h i)) {z : Int} (hz : I32 z) (H0 : (-8 ≤ z ∧ z ≤ 8) ∧ z ≠ 0 → ∀ τ, ChC σ u h m (wT m (plT m z)) τ → K (iI (fb_ct (fun j => decide (plT m z j ≠ tu m j)) (nS m))) τ) (H1 : ¬ ((-8 ≤ z ∧ z ≤ 8) ∧ z ≠ 0) → X xA σ) : CT g l M_X6_pull 1 [.ref (zad g 0), .int (iI z)] σ (zQi K X) :=
  b_X6_pull (c_pullProblem hz (fun q => c_refuse0 (c_keep hH hN hw hhw (fun τ f1 h1 => c_pullCord (nw_pK hN f1) hw (by omega) (fun υ f2 h2 => H0 q υ (chc_of f1 h1 (f2.P LT_pB) h2))))) (fun q => c_refuse2 (H1 q)))
theorem c_turn {u : Nat} {h : Nat → Nat → Int32} (hN : Nw σ m) (hw : WF m) (hH : HsC σ u h) (hhw : ∀ i, i < u → WF (h i)) {x z : Int} (hx : I32 x) (hz : I32 z) (H0 : ∀ k : Nat, x = k → k < nS m → (-4 ≤ z ∧ z ≤ 4) → td m k = 0 → ∀ τ, ChC σ u h m (mTurn m k z) τ → K (iI (tu m k)) τ) (H1 : ¬ (0 ≤ x ∧ x < nS m) → X xI σ) (H2 : (0 ≤ x ∧ x < nS m) → ¬ (-4 ≤ z ∧ z ≤ 4) → X xA σ) (H3 : ∀ k : Nat, x = k → k < nS m → (-4 ≤ z ∧ z ≤ 4) → td m k ≠ 0 → X xS' σ) : CT g l M_X6_turn 1 [.ref (zad g 0), .int (iI x), .int (iI z)] σ (zQi K X) := by
  have hwb := wf_b hw
  refine b_X6_turn (b_X6_turnProblem (c_hasSlat zB_73 hN.1 hw hx ?_))
  try simp (disch := omega) only [iI_add, iI_sub, iI_mul, iI_neg, iI_n, iI_lt, iI_le, iI_eq, iI_tn, iI_ti, bI_0, bI_1, iI_L, iL_0, Decidable.not_not, Int.toNat_natCast, zpt_at, zpt_ne, pk_us, pk_un, forall_eq, tn_0, tn_1, tn_2, tn_3, tn_4, tn_5, ni_1, ni_2, ni_3, ni_4, ni_5, not_false_eq_true, not_true_eq_false, true_implies, false_implies, and_true, true_and, iL_6, iL_m6, iL_7, iL_8, iL_9, iL_4, iL_m4, iL_m8, li_0, li_1, li_2, li_3, li_4, li_5, li_6, li_7, li_8, li_9, li_10, li_11, li_12, li_13, li_15, li_16, li_18, li_20, li_24, li_31, li_32, li_40, li_46, li_48, li_57, li_59, li_60, li_61, li_63, li_64, li_97, li_99, li_122, li_124, li_150, li_255, li_480, li_488, li_600, li_999, li_1110, li_54]
  refine ⟨fun h1 => ⟨fun h2 => c_refuse2 (H2 h1 (by omega)), fun h2 => ⟨fun h3 => ?_, fun h3 => c_refuse2 (H2 h1 (by omega))⟩⟩, fun h1 => c_refuse1 (H1 h1)⟩
  obtain ⟨k, rfl, hk⟩ := nat_of h1
  have hs := wf_s hw hk
  refine c_isTied zB_73 hN.1 hw hk ?_
  try simp (disch := omega) only [iI_add, iI_sub, iI_mul, iI_neg, iI_n, iI_lt, iI_le, iI_eq, iI_tn, iI_ti, bI_0, bI_1, iI_L, iL_0, Decidable.not_not, Int.toNat_natCast, zpt_at, zpt_ne, pk_us, pk_un, forall_eq, tn_0, tn_1, tn_2, tn_3, tn_4, tn_5, ni_1, ni_2, ni_3, ni_4, ni_5, not_false_eq_true, not_true_eq_false, true_implies, false_implies, and_true, true_and, iL_6, iL_m6, iL_7, iL_8, iL_9, iL_4, iL_m4, iL_m8, li_0, li_1, li_2, li_3, li_4, li_5, li_6, li_7, li_8, li_9, li_10, li_11, li_12, li_13, li_15, li_16, li_18, li_20, li_24, li_31, li_32, li_40, li_46, li_48, li_57, li_59, li_60, li_61, li_63, li_64, li_97, li_99, li_122, li_124, li_150, li_255, li_480, li_488, li_600, li_999, li_1110, li_54]
  refine ⟨fun h4 => c_refuse0 (c_keep hH hN hw hhw (fun τ f1 h5 => ?_)), fun h4 => c_refuse3 (H3 k rfl hk (by omega) (by omega))⟩
  have hN1 := nw_pK hN f1
  rw [hN1.2 k hk]
  refine ⟨in10 hk hwb.2.2.1, in10 hk hwb.2.2.1, ?_⟩
  have f2 : FrL LT τ (zup τ (73 + 3) k (iI z)) := (FrL.rf LT τ).up (by decide) _
  refine H0 k rfl hk (by omega) (by omega) _ (chc_of f1 h5 (f2.P LT_pB) ⟨r0_tr hN1.1 f2 _ hw, RT.wT (fun j hj => ?_) (fun j hj => ?_)⟩)
  · have := wf_s hw hj
    (try simp only); split <;> omega
  · rw [zpt_at]
    by_cases e : j = k
    · subst e; rw [pk_us, if_pos rfl]
    · rw [pk_un e, if_neg e]; exact hN1.2 j hj
theorem bt_sh {k i : Nat} (hk : k < 32) (hi : i < 32) : bt ((1 : Int32) <<< (iI (k : Int) &&& 31)) i = decide (i = k) := by
  rw [show iI (k : Int) = nI k from rfl, b_shl k hk 1 hi]
  have h1 : ∀ j, bt 1 j = decide (j = 0) := by
    intro j
    by_cases hj : j < 32
    · show bt (nI 1) j = _
      rw [bt_nI _ _ hj]
      exact (by decide +kernel : ∀ i, i < 32 → (1 : Nat).testBit i = decide (i = 0)) j hj
    · rw [b_big (by omega)]; simp; omega
  rw [h1]
  by_cases e : i = k
  · subst e; simp
  · simp [e]; omega
theorem mTie_td {k v : Nat} (hv : v < 2) (j : Nat) : td (mTie m k v) j = if j = k then v else td m j := by
  unfold td
  rw [show qv (mTie m k v) (6 + 5 * j) = if 6 + 5 * j = 6 + 5 * k then (v : Int) else qv m (6 + 5 * j) from qv_up (by omega)]
  by_cases e : j = k
  · rw [if_pos (by omega), if_pos e]; omega
  · rw [if_neg (by omega), if_neg e]
theorem mTie_o {k v : Nat} {q : Nat} (h : q ≠ 6 + 5 * k) : qv (mTie m k v) q = qv m q := by unfold qv mTie; rw [pk_un h]
theorem c_setTied {K : zS → Prop} (hN : Nw σ m) (hw : WF m) {k s : Nat} (hk : k < nS m) (hs : s < 2) (H : ∀ τ, FrP pB σ τ → Nw τ (mTie m k s) → K τ) : CT g l M_X0_setTied 0 [.ref (zad g 73), .int (iI k), .int (iI s)] σ (zQv K X) := by
  have hwb := wf_b hw
  have hb := mTie_b (m := m) (k := k) (v := s) (by omega)
  have fin : ∀ v : Int32, (∀ i, i < 32 → bt v i = if i = k then decide (s = 1) else bt (σ.1 73 6) i) → K (zup σ 73 6 v) := fun v hv => by
    refine H _ ((FrP.rf pB σ).up ⟨by decide, by decide⟩ _) ⟨R0.mk hw hb.1 hb.2 hN.1 (fun j hj => ?_) (fun j hj => ?_) ?_ ?_ (fun j hj t ht => ?_) (fun t ht => ?_) (fun c hc t ht => ?_), fun j hj => ?_⟩
    · rw [zpt_at, pk_un hj]
    · rw [zpt_at, pk_us, hv j hj, mTie_td hs]
      by_cases e : j = k
      · subst e; rw [if_pos rfl, if_pos rfl]; simp [hk]
      · rw [if_neg e, if_neg e]; exact hN.1.2.2.2.2.2.2.1 j hj
    · rw [zpt_ne (by decide)]
    · rw [zpt_ne (by decide)]
    · rw [zpt_ne (by omega), (hN.1.2.2.2.2.2.2.2.1 j hj).2.2 t ht]
      unfold ct
      rw [mTie_o (by omega)]
    · rw [zpt_ne (by omega)]
    · rw [zpt_ne (by omega)]
      refine ((hN.1.2.2.2.2.2.2.2.2 c hc t ht).2).cong (fun r hr => ?_)
      unfold fc
      rw [mTie_o (by omega)]
    · rw [hb.1.e_nS] at hj
      rw [zpt_ne (by decide)]
      unfold tu
      rw [mTie_o (by omega)]
      exact hN.2 j hj
  refine b_X0_setTied zB_73 ?_
  match s, hs with
  | 0, _ =>
    refine ⟨fun _ σ2 e2 => ?_, fun h => absurd rfl h⟩
    subst e2
    refine fin _ (fun i hi => ?_)
    rw [b_and, b_xor, b_m1 _ hi, bt_sh (by omega) hi]
    by_cases e : i = k
    · subst e; simp
    · simp [e]
  | 1, _ =>
    refine ⟨fun h => absurd h (by decide), fun _ σ2 e2 => ?_⟩
    subst e2
    refine fin _ (fun i hi => ?_)
    rw [b_or, bt_sh (by omega) hi]
    by_cases e : i = k
    · subst e; simp
    · simp [e]
theorem c_tie {u : Nat} {h : Nat → Nat → Int32} (hN : Nw σ m) (hw : WF m) (hH : HsC σ u h) (hhw : ∀ i, i < u → WF (h i)) {x : Int} (hx : I32 x) {s : Nat} (hs : s < 2) (H0 : ∀ k : Nat, x = k → k < nS m → td m k ≠ s → ∀ τ, ChC σ u h m (mTie m k s) τ → K (iI 1) τ) (H1 : ¬ (0 ≤ x ∧ x < nS m) → X xI σ) (H2 : ∀ k : Nat, x = k → k < nS m → td m k = s → K (iI 0) σ) : CT g l M_X6_tie 1 [.ref (zad g 0), .int (iI x), .int (iI s)] σ (zQi K X) := by
  refine b_X6_tie (b_X6_tieProblem (c_hasSlat zB_73 hN.1 hw hx ?_))
  try simp (disch := omega) only [iI_add, iI_sub, iI_mul, iI_neg, iI_n, iI_lt, iI_le, iI_eq, iI_tn, iI_ti, bI_0, bI_1, iI_L, iL_0, Decidable.not_not, Int.toNat_natCast, zpt_at, zpt_ne, pk_us, pk_un, forall_eq, tn_0, tn_1, tn_2, tn_3, tn_4, tn_5, ni_1, ni_2, ni_3, ni_4, ni_5, not_false_eq_true, not_true_eq_false, true_implies, false_implies, and_true, true_and, iL_6, iL_m6, iL_7, iL_8, iL_9, iL_4, iL_m4, iL_m8, li_0, li_1, li_2, li_3, li_4, li_5, li_6, li_7, li_8, li_9, li_10, li_11, li_12, li_13, li_15, li_16, li_18, li_20, li_24, li_31, li_32, li_40, li_46, li_48, li_57, li_59, li_60, li_61, li_63, li_64, li_97, li_99, li_122, li_124, li_150, li_255, li_480, li_488, li_600, li_999, li_1110, li_54]
  refine ⟨fun h1 => ?_, fun h1 => c_refuse1 (H1 h1)⟩
  obtain ⟨k, rfl, hk⟩ := nat_of h1
  have hsl := wf_s hw hk
  refine c_isTied zB_73 hN.1 hw hk ?_
  have e0 : iI (td m k : Int) = iI (s : Int) ↔ td m k = s := by rw [iI_eq (by omega) (by omega) (by omega) (by omega)]; omega
  have n04 : ¬ iI 0 = iI 4 := by decide
  simp only [e0, n04, not_false_eq_true, true_implies, false_implies, and_true, true_and]
  refine ⟨fun h2 => c_refuse0 ⟨fun _ => c_keep hH hN hw hhw (fun τ f1 h3 => c_setTied (nw_pK hN f1) hw hk hs (fun υ f2 h4 => H0 k rfl hk h2 υ (chc_of f1 h3 f2 h4))), fun e => absurd e (by decide)⟩, fun h2 => c_refuse4 (H2 k rfl hk h2)⟩
theorem mPaint_b (hw : WF m) {k s : Nat} (hk : k < nS m) (hs : s < 2) : Sb m (mPaint m k s) ∧ Sx m (mPaint m k s) := by
  have hb := wf_b hw
  have h1 := mCoat_b (m := m) (v := ct m k s + 1) (show k < 10 by omega) hs
  have h2 := wF_b (m := mCoat m k s (ct m k s + 1)) (rpF m k s)
  exact ⟨⟨h2.1.1.trans h1.1.1, h2.1.2.1.trans h1.1.2.1, h2.1.2.2.1.trans h1.1.2.2.1, fun j hj => (h2.1.2.2.2 j hj).trans (h1.1.2.2.2 j hj)⟩, ⟨h2.2.1.trans h1.2.1, fun q a b => (h2.2.2 q a b).trans (h1.2.2 q a b)⟩⟩
theorem c_paintFace (hN : Nw σ m) (hw : WF m) {k s : Nat} (hk : k < nS m) (hs : s < 2) (hc : ct m k s < 99) (H : ∀ τ, FrP pB σ τ → Nw τ (mPaint m k s) → K (iI (unl m k s)) τ) : CT g l M_X0_paintFace 0 [.ref (zad g 73), .int (iI k), .int (iI s)] σ (zQi K X) := by
  have hwb := wf_b hw
  have hcl := cols_le hw
  have hsl := wf_s hw hk
  have hr := hN.1.2.2.2.2.2.2.2.1 k hk
  have h10 := in10 hk hwb.2.2.1
  have hcc := fst_col hw hk (j := wd m k - 1) (by omega)
  have hb := mPaint_b hw hk hs
  refine b_X0_paintFace zB_73 (c_unlikePicture zB_73 hN.1 hw hk hs ⟨h10, c_pictureOf zB_73 hs ⟨(zB_p zB_73 hs).1, (zB_p zB_73 hs).2, c_faceOf zB_73 hs ⟨(zB_f zB_73 hs).1, (zB_f zB_73 hs).2, h10, ?_⟩⟩⟩)
  rw [tnk hk (by omega), hr.1, hr.2.1, show (Int32.toNatClampNeg (iI (fst m k : Int))) = fst m k by rw [iI_tn (by omega) (by omega)]; rfl, show (Int32.toNatClampNeg (iI (wd m k : Int))) = wd m k by rw [iI_tn (by omega) (by omega)]; rfl]
  have nn : ∀ n : Nat, n ≤ 100 → ¬ iI (n : Int) < 0 := fun n hn => by
    rw [show (0 : Int32) = iI 0 from rfl, iI_lt (by omega) (by omega) (by omega) (by omega)]; omega
  refine ⟨⟨nn _ (by omega), nn _ (by omega), nn _ (by omega), by omega, by omega⟩, ?_⟩
  intro σ4 e4
  subst e4
  refine c_coatsOf zB_73 hs ⟨(zB_c zB_73 hs).1, (zB_c zB_73 hs).2, h10, h10, ?_⟩
  rw [zpt_ne (by omega), hr.2.2 s hs]
  intro σ6 e6
  subst e6
  refine H _ (((FrP.rf pB σ).up ⟨by omega, by omega⟩ _).up ⟨by omega, by omega⟩ _) ⟨R0.mk hw hb.1 hb.2 hN.1 (fun j hj => ?_) (fun j hj => ?_) ?_ ?_ (fun j hj t ht => ?_) (fun t ht => ?_) (fun c hc9 t ht => ?_), fun j hj => ?_⟩
  · rw [zpt_ne (by omega), zpt_ne (by omega)]
  · rw [zpt_ne (by omega), zpt_ne (by omega), hN.1.2.2.2.2.2.2.1 j hj]
    by_cases q : j < nS m
    · have e : td (mPaint m k s) j = td m j := by
        unfold mPaint
        rw [wF_td (by omega)]
        unfold td
        rw [mCoat_qv (by omega), if_neg (by omega)]
      rw [e]
    · simp [q]
  · rw [zpt_ne (by omega), zpt_ne (by omega)]
  · rw [zpt_ne (by omega), zpt_ne (by omega)]
  · have e : ct (mPaint m k s) j t = if j = k ∧ t = s then ct m k s + 1 else ct m j t := by
      unfold mPaint
      rw [wF_ct (by omega) ht, mCoat_ct hs (by omega) ht]
    rw [e]
    by_cases q : t = s
    · subst q
      rw [zpt_at]
      by_cases q2 : j = k
      · subst q2; rw [pk_us, if_pos ⟨rfl, rfl⟩, show (1 : Int32) = iI 1 from rfl, iI_add]; rfl
      · rw [pk_un q2, if_neg (fun x => q2 x.1), zpt_ne (by omega)]
        exact (hN.1.2.2.2.2.2.2.2.1 j hj).2.2 t ht
    · rw [zpt_ne (by omega), zpt_ne (by omega), if_neg (fun x => q x.2)]
      exact (hN.1.2.2.2.2.2.2.2.1 j hj).2.2 t ht
  · rw [zpt_ne (by omega), zpt_ne (by omega)]
  · have hf : ∀ r, r < nH m → fc (mPaint m k s) t c r = rpF m k s t c r := fun r hr => wF_fc ht (by omega) (by omega) (rpF_9 hw k s t c r ht (by omega) (by omega))
    rw [zpt_ne (by omega)]
    by_cases q : t = s
    · subst q
      rw [zpt_at]
      unfold va_cpy
      by_cases q2 : fst m k ≤ c ∧ c < fst m k + wd m k
      · rw [if_pos q2, show fst m k + (c - fst m k) = c by omega]
        refine ((hN.1.2.2.2.2.2.2.2.2 c hc9 t ht).1).cong (fun r hr => ?_)
        rw [hf r hr]
        unfold rpF
        rw [if_pos ⟨rfl, q2, hr⟩]
      · rw [if_neg q2]
        refine ((hN.1.2.2.2.2.2.2.2.2 c hc9 t ht).2).cong (fun r hr => ?_)
        rw [hf r hr]
        unfold rpF
        rw [if_neg (fun x => q2 x.2.1)]
    · rw [zpt_ne (by omega)]
      refine ((hN.1.2.2.2.2.2.2.2.2 c hc9 t ht).2).cong (fun r hr => ?_)
      rw [hf r hr]
      unfold rpF
      rw [if_neg (fun x => q x.1)]
  · rw [hb.1.e_nS] at hj
    rw [zpt_ne (by omega), zpt_ne (by omega)]
    have e : tu (mPaint m k s) j = tu m j := by
      unfold mPaint
      rw [wF_tu (by omega)]
      unfold tu
      rw [mCoat_qv (by omega), if_neg (by omega)]
    rw [e]
    exact hN.2 j hj
theorem c_paint {u : Nat} {h : Nat → Nat → Int32} (hN : Nw σ m) (hw : WF m) (hH : HsC σ u h) (hhw : ∀ i, i < u → WF (h i)) {x : Int} (hx : I32 x) {s : Nat} (hs : s < 2) (H0 : ∀ k : Nat, x = k → k < nS m → ct m k s < nC m → ∀ τ, ChC σ u h m (mPaint m k s) τ → K (iI (unl m k s)) τ) (H1 : ¬ (0 ≤ x ∧ x < nS m) → X xI σ) (H2 : ∀ k : Nat, x = k → k < nS m → ¬ ct m k s < nC m → X xS' σ) : CT g l M_X6_paint 1 [.ref (zad g 0), .int (iI x), .int (iI s)] σ (zQi K X) := by
  have hwb := wf_b hw
  refine b_X6_paint (b_X6_paintProblem (c_hasSlat zB_73 hN.1 hw hx ?_))
  try simp (disch := omega) only [iI_add, iI_sub, iI_mul, iI_neg, iI_n, iI_lt, iI_le, iI_eq, iI_tn, iI_ti, bI_0, bI_1, iI_L, iL_0, Decidable.not_not, Int.toNat_natCast, zpt_at, zpt_ne, pk_us, pk_un, forall_eq, tn_0, tn_1, tn_2, tn_3, tn_4, tn_5, ni_1, ni_2, ni_3, ni_4, ni_5, not_false_eq_true, not_true_eq_false, true_implies, false_implies, and_true, true_and, iL_6, iL_m6, iL_7, iL_8, iL_9, iL_4, iL_m4, iL_m8, li_0, li_1, li_2, li_3, li_4, li_5, li_6, li_7, li_8, li_9, li_10, li_11, li_12, li_13, li_15, li_16, li_18, li_20, li_24, li_31, li_32, li_40, li_46, li_48, li_57, li_59, li_60, li_61, li_63, li_64, li_97, li_99, li_122, li_124, li_150, li_255, li_480, li_488, li_600, li_999, li_1110, li_54]
  refine ⟨fun h1 => ?_, fun h1 => c_refuse1 (H1 h1)⟩
  obtain ⟨k, rfl, hk⟩ := nat_of h1
  refine c_bearsCoat zB_73 hN.1 hw hk hs ?_
  try simp (disch := omega) only [iI_add, iI_sub, iI_mul, iI_neg, iI_n, iI_lt, iI_le, iI_eq, iI_tn, iI_ti, bI_0, bI_1, iI_L, iL_0, Decidable.not_not, Int.toNat_natCast, zpt_at, zpt_ne, pk_us, pk_un, forall_eq, tn_0, tn_1, tn_2, tn_3, tn_4, tn_5, ni_1, ni_2, ni_3, ni_4, ni_5, not_false_eq_true, not_true_eq_false, true_implies, false_implies, and_true, true_and, iL_6, iL_m6, iL_7, iL_8, iL_9, iL_4, iL_m4, iL_m8, li_0, li_1, li_2, li_3, li_4, li_5, li_6, li_7, li_8, li_9, li_10, li_11, li_12, li_13, li_15, li_16, li_18, li_20, li_24, li_31, li_32, li_40, li_46, li_48, li_57, li_59, li_60, li_61, li_63, li_64, li_97, li_99, li_122, li_124, li_150, li_255, li_480, li_488, li_600, li_999, li_1110, li_54]
  refine ⟨fun h2 => c_refuse3 (H2 k rfl hk h2), fun h2 => c_refuse0 (c_keep hH hN hw hhw (fun τ f1 h3 => c_paintFace (nw_pK hN f1) hw hk hs (by omega) (fun υ f2 h4 => H0 k rfl hk h2 υ (chc_of f1 h3 f2 h4))))⟩
theorem c_colourProblem {z : Int} (hz : I32 z) (H0 : 0 ≤ z ∧ z ≤ 9 → K (iI 0) σ) (H2 : ¬ (0 ≤ z ∧ z ≤ 9) → K (iI 2) σ) : CT g l M_X6_colourProblem 0 [.int (iI z)] σ (zQi K X) := by
  refine b_X6_colourProblem ?_
  try simp (disch := omega) only [iI_add, iI_sub, iI_mul, iI_neg, iI_n, iI_lt, iI_le, iI_eq, iI_tn, iI_ti, bI_0, bI_1, iI_L, iL_0, Decidable.not_not, Int.toNat_natCast, zpt_at, zpt_ne, pk_us, pk_un, forall_eq, tn_0, tn_1, tn_2, tn_3, tn_4, tn_5, ni_1, ni_2, ni_3, ni_4, ni_5, not_false_eq_true, not_true_eq_false, true_implies, false_implies, and_true, true_and, iL_6, iL_m6, iL_7, iL_8, iL_9, iL_4, iL_m4, iL_m8, li_0, li_1, li_2, li_3, li_4, li_5, li_6, li_7, li_8, li_9, li_10, li_11, li_12, li_13, li_15, li_16, li_18, li_20, li_24, li_31, li_32, li_40, li_46, li_48, li_57, li_59, li_60, li_61, li_63, li_64, li_97, li_99, li_122, li_124, li_150, li_255, li_480, li_488, li_600, li_999, li_1110, li_54]
  exact ⟨fun h => H2 (by omega), fun h => ⟨fun h2 => H0 (by omega), fun h2 => H2 (by omega)⟩⟩
theorem mDab_fc (hw : WF m) {k s c r v : Nat} (hv : v ≤ 9) {t c' r' : Nat} (ht : t < 2) (hc : c' < 60) (hr : r' < 8) : fc (mDab m k s c r v) t c' r' = if t = s ∧ c' = fst m k + c ∧ r' = r then v else fc m t c' r' := by
  refine wF_fc ht hc hr ?_
  have := wf_f9 hw ht hc hr
  (try simp only); split <;> omega
theorem c_dabCell (hN : Nw σ m) (hw : WF m) {k s c r v : Nat} (hk : k < nS m) (hs : s < 2) (hc : c < wd m k) (hr : r < nH m) (hv : v ≤ 9) (H : ∀ τ, FrP pB σ τ → Nw τ (mDab m k s c r v) → K (iI (fc m s (fst m k + c) r)) τ) : CT g l M_X0_dabCell 0 [.ref (zad g 73), .int (iI k), .int (iI s), .int (iI c), .int (iI r), .int (iI v)] σ (zQi K X) := by
  have hwb := wf_b hw
  have hcl := cols_le hw
  have hrr := hN.1.2.2.2.2.2.2.2.1 k hk
  have h10 := in10 hk hwb.2.2.1
  have hcc := fst_col hw hk hc
  have h60 := in60 hcc hcl.1
  have hb := wF_b (m := m) (fun s' c' r' => if s' = s ∧ c' = fst m k + c ∧ r' = r then v else fc m s' c' r')
  refine b_X0_dabCell zB_73 (c_faceOf zB_73 hs ⟨(zB_f zB_73 hs).1, (zB_f zB_73 hs).2, h10, ?_⟩)
  have ea : iI (fst m k : Int) + iI (c : Int) = iI ((fst m k + c : Nat) : Int) := iI_add _ _
  rw [tnk hk (by omega), hrr.2.1, ea, tnk hcc (by omega)]
  refine ⟨h60, c_colourIn (by omega) ?_⟩
  refine ⟨h60, c_withColour (by omega) (by omega) (fun y hy => ⟨h60, ?_⟩)⟩
  intro σ4 e4
  subst e4
  have hf0 := (hN.1.2.2.2.2.2.2.2.2 _ hcc s hs).2
  rw [hf0 r (by omega), if_pos hr]
  refine H _ ((FrP.rf pB σ).up ⟨by omega, by omega⟩ _) ⟨R0.mk hw hb.1 hb.2 hN.1 (fun j hj => ?_) (fun j hj => ?_) ?_ ?_ (fun j hj t ht => ?_) (fun t ht => ?_) (fun c' hc' t ht => ?_), fun j hj => ?_⟩
  · rw [zpt_ne (by omega)]
  · rw [zpt_ne (by omega), hN.1.2.2.2.2.2.2.1 j hj]
    by_cases q : j < nS m
    · rw [wF_td (by omega)]
    · simp [q]
  · rw [zpt_ne (by omega)]
  · rw [zpt_ne (by omega)]
  · rw [zpt_ne (by omega), wF_ct (by omega) ht]
    exact (hN.1.2.2.2.2.2.2.2.1 j hj).2.2 t ht
  · rw [zpt_ne (by omega)]
  · have old := (hN.1.2.2.2.2.2.2.2.2 c' hc' t ht).2
    have hfc : ∀ r', r' < nH m → fc (mDab m k s c r v) t c' r' = if t = s ∧ c' = fst m k + c ∧ r' = r then v else fc m t c' r' := fun r' hr' => mDab_fc hw hv ht (by omega) (by omega)
    show Cl _ _ (fc (mDab m k s c r v) t c')
    by_cases q : t = s
    · subst q
      rw [zpt_at]
      by_cases q2 : c' = fst m k + c
      · subst q2
        rw [pk_us]
        intro r' hr'
        rw [hy r' hr', hf0 r' hr']
        by_cases q3 : r' = r
        · subst q3; rw [if_pos rfl, if_pos hr, hfc r' hr, if_pos ⟨rfl, rfl, rfl⟩]
        · rw [if_neg q3]
          by_cases q4 : r' < nH m
          · rw [if_pos q4, if_pos q4, hfc r' q4, if_neg (fun x => q3 x.2.2)]
          · rw [if_neg q4, if_neg q4]
      · rw [pk_un q2]
        exact old.cong (fun r' hr' => by rw [hfc r' hr', if_neg (fun x => q2 x.2.1)])
    · rw [zpt_ne (by omega)]
      exact old.cong (fun r' hr' => by rw [hfc r' hr', if_neg (fun x => q x.1)])
  · have hj2 : j < nS m := by rw [← hb.1.e_nS]; exact hj
    rw [zpt_ne (by omega), show tu (mDab m k s c r v) j = tu m j from wF_tu (by omega)]
    exact hN.2 j hj2
theorem c_dab {u : Nat} {h : Nat → Nat → Int32} (hN : Nw σ m) (hw : WF m) (hH : HsC σ u h) (hhw : ∀ i, i < u → WF (h i)) {k x y v : Int} (hk : I32 k) (hx : I32 x) (hy : I32 y) (hv : I32 v) {s : Nat} (hs : s < 2) (H0 : ∀ q c r w : Nat, k = q → x = c → y = r → v = w → q < nS m → c < wd m q → r < nH m → w ≤ 9 → ∀ τ, ChC σ u h m (mDab m q s c r w) τ → K (iI (fc m s (fst m q + c) r)) τ) (H1 : ¬ ((0 ≤ k ∧ k < nS m) ∧ (0 ≤ x ∧ x < wd m k.toNat) ∧ (0 ≤ y ∧ y < nH m)) → X xI σ) (H2 : ((0 ≤ k ∧ k < nS m) ∧ (0 ≤ x ∧ x < wd m k.toNat) ∧ (0 ≤ y ∧ y < nH m)) → ¬ (0 ≤ v ∧ v ≤ 9) → X xA σ) : CT g l M_X6_dab 1 [.ref (zad g 0), .int (iI k), .int (iI s), .int (iI x), .int (iI y), .int (iI v)] σ (zQi K X) := by
  refine b_X6_dab (b_X6_dabProblem (c_hasFaceCell zB_73 hN.1 hw hk hx hy ?_))
  try simp (disch := omega) only [iI_add, iI_sub, iI_mul, iI_neg, iI_n, iI_lt, iI_le, iI_eq, iI_tn, iI_ti, bI_0, bI_1, iI_L, iL_0, Decidable.not_not, Int.toNat_natCast, zpt_at, zpt_ne, pk_us, pk_un, forall_eq, tn_0, tn_1, tn_2, tn_3, tn_4, tn_5, ni_1, ni_2, ni_3, ni_4, ni_5, not_false_eq_true, not_true_eq_false, true_implies, false_implies, and_true, true_and, iL_6, iL_m6, iL_7, iL_8, iL_9, iL_4, iL_m4, iL_m8, li_0, li_1, li_2, li_3, li_4, li_5, li_6, li_7, li_8, li_9, li_10, li_11, li_12, li_13, li_15, li_16, li_18, li_20, li_24, li_31, li_32, li_40, li_46, li_48, li_57, li_59, li_60, li_61, li_63, li_64, li_97, li_99, li_122, li_124, li_150, li_255, li_480, li_488, li_600, li_999, li_1110, li_54]
  refine ⟨fun h1 => c_refuse1 (H1 h1), fun h1 => c_colourProblem hv (fun h2 => c_refuse0 (c_keep hH hN hw hhw (fun τ f1 h3 => ?_))) (fun h2 => c_refuse2 (H2 h1 h2))⟩
  obtain ⟨q, rfl, hq⟩ := nat_of h1.1
  rw [Int.toNat_natCast] at h1
  obtain ⟨c, rfl, hc⟩ := nat_of h1.2.1
  obtain ⟨r, rfl, hr⟩ := nat_of h1.2.2
  obtain ⟨w, rfl, hw'⟩ := nat_of (n := 10) (show 0 ≤ v ∧ v < (10 : Nat) by omega)
  exact c_dabCell (nw_pK hN f1) hw hq hs hc hr (by omega) (fun υ f2 h4 => H0 q c r w rfl rfl rfl rfl hq hc hr (by omega) υ (chc_of f1 h3 f2 h4))
end ZCG

