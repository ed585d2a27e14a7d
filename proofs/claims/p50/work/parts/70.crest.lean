/-! the class: swap, spot, undo, save, restore, report, feed, truncate -/
section ZCT
variable {g : zG} {l : Launch} {K : Int32 → zS → Prop} {X : String → zS → Prop} {m m' : Nat → Int32} {σ : zS}
abbrev LF : List Nat := [81, 82]
theorem LF_pB : ∀ b, b ∈ LF → pB b := fun b hb => by
  simp only [LF, List.mem_cons, List.not_mem_nil, or_false] at hb
  unfold pB; omega
theorem mSwap_b (hw : WF m) {k : Nat} (hk : k < nS m) : Sb m (mSwap m k) ∧ Sx m (mSwap m k) := by
  obtain ⟨_, b1, x1⟩ := mSw_c hw hk
  have h2 := wF_b (m := mCoat (mCoat m k 0 (ct m k 1)) k 1 (ct m k 0)) (swF m k)
  exact ⟨⟨h2.1.1.trans b1.1, h2.1.2.1.trans b1.2.1, h2.1.2.2.1.trans b1.2.2.1, fun j hj => (h2.1.2.2.2 j hj).trans (b1.2.2.2 j hj)⟩, ⟨h2.2.1.trans x1.1, fun q a b => (h2.2.2 q a b).trans (x1.2 q a b)⟩⟩
theorem c_swapFaces_9 {σ0 : zS} (hN : Nw σ0 m) (hw : WF m) {k : Nat} (hk : k < nS m) (H : ∀ τ, FrP pB σ0 τ → Nw τ (mSwap m k) → K (iI (swN m k)) τ) (j : Nat) (hj : j ≤ wd m k) (σ : zS) (hF : FrL LF σ0 σ) (h1 : ∀ c, c < cols m → (fst m k ≤ c ∧ c < fst m k + j → σ.1 81 c = σ0.1 82 c ∧ σ.1 82 c = σ0.1 81 c) ∧ (¬ (fst m k ≤ c ∧ c < fst m k + j) → σ.1 81 c = σ0.1 81 c ∧ σ.1 82 c = σ0.1 82 c)) : L_X0_swapFaces_9 g l K X 73 (iI k) (iI (fb_sm (fun j => fb_ct (fun r => decide (fc m 1 (fst m k + j) r ≠ fc m 0 (fst m k + j) r)) (nH m)) j)) (iI (fst m k + j : Nat)) σ := by
  have hwb := wf_b hw
  have hcl := cols_le hw
  have hsl := wf_s hw hk
  have hfl := fst_le hw (k := k) (by omega)
  have hb := mSwap_b hw hk
  have hr := hN.1.2.2.2.2.2.2.2.1 k hk
  have h10 := in10 hk hwb.2.2.1
  have ih := fun h σ a b => c_swapFaces_9 hN hw hk H (j + 1) h σ a b
  have e : ∀ b, b ≠ 81 → b ≠ 82 → σ.1 b = σ0.1 b := fun b h2 h3 => hF.1 b (by simp [LF, h2, h3])
  refine b_X0_swapFaces_9 zB_73 ?_
  rw [tnk hk (by omega), e (73 + 1) (by decide) (by decide), e (73 + 2) (by decide) (by decide), e (73 + 4) (by decide) (by decide), e (73 + 5) (by decide) (by decide), hr.1, hr.2.1, show σ0.1 (73 + 4) k = iI (ct m k 0) from hr.2.2 0 (by decide), show σ0.1 (73 + 5) k = iI (ct m k 1) from hr.2.2 1 (by decide), iI_add, iI_le (by omega) (by omega) (by omega) (by omega)]
  refine ⟨h10, h10, fun h => ⟨h10, h10, h10, fun σ2 e2 => ⟨h10, fun σ3 e3 => ?_⟩⟩, fun h => ?_⟩
  · subst e2
    subst e3
    obtain rfl : j = wd m k := by omega
    refine H _ (((hF.P LF_pB).up ⟨by decide, by decide⟩ _).up ⟨by decide, by decide⟩ _) ⟨R0.mk hw hb.1 hb.2 hN.1 (fun q hq => ?_) (fun q hq => ?_) ?_ ?_ (fun q hq t ht => ?_) (fun t ht => ?_) (fun c hc t ht => ?_), fun q hq => ?_⟩
    · rw [zpt_ne (by decide), zpt_ne (by decide), e 73 (by decide) (by decide)]
    · rw [zpt_ne (by decide), zpt_ne (by decide), e 73 (by decide) (by decide), hN.1.2.2.2.2.2.2.1 q hq]
      by_cases q2 : q < nS m
      · have e : td (mSwap m k) q = td m q := by
          unfold mSwap
          rw [wF_td (by omega)]
          unfold td
          rw [mCoat_qv (by omega), if_neg (by omega), mCoat_qv (by omega), if_neg (by omega)]
        rw [e]
      · simp [q2]
    · rw [zpt_ne (by decide), zpt_ne (by decide), e _ (by decide) (by decide)]
    · rw [zpt_ne (by decide), zpt_ne (by decide), e _ (by decide) (by decide)]
    · have ec : ct (mSwap m k) q t = if q = k then ct m k (1 - t) else ct m q t := by
        unfold mSwap
        rw [wF_ct (by omega) ht, mCoat_ct (by decide) (by omega) ht, mCoat_ct (by decide) (by omega) ht]
        by_cases q2 : q = k
        · subst q2
          match t, ht with
          | 0, _ => rw [if_neg (by omega), if_pos ⟨rfl, rfl⟩, if_pos rfl]
          | 1, _ => rw [if_pos ⟨rfl, rfl⟩, if_pos rfl]
        · rw [if_neg (fun x => q2 x.1), if_neg (fun x => q2 x.1), if_neg q2]
      rw [ec]
      match t, ht with
      | 0, _ =>
        show (zup (zup σ (73 + 4) k (iI (ct m k 1 : Int))) (73 + 5) k (iI (ct m k 0 : Int))).1 (73 + 4) q = _
        rw [zpt_ne (by decide), zpt_at]
        by_cases q2 : q = k
        · subst q2; rw [pk_us, if_pos rfl]
        · rw [pk_un q2, if_neg q2, e _ (by decide) (by decide)]
          exact (hN.1.2.2.2.2.2.2.2.1 q hq).2.2 0 (by decide)
      | 1, _ =>
        show (zup (zup σ (73 + 4) k (iI (ct m k 1 : Int))) (73 + 5) k (iI (ct m k 0 : Int))).1 (73 + 5) q = _
        rw [zpt_at]
        by_cases q2 : q = k
        · subst q2; rw [pk_us, if_pos rfl]
        · rw [pk_un q2, if_neg q2, zpt_ne (by decide), e _ (by decide) (by decide)]
          exact (hN.1.2.2.2.2.2.2.2.1 q hq).2.2 1 (by decide)
    · rw [zpt_ne (by omega), zpt_ne (by omega), e _ (by omega) (by omega)]
    · have hf : ∀ r, r < nH m → fc (mSwap m k) t c r = swF m k t c r := fun r hr => wF_fc ht (by omega) (by omega) (swF_9 hw k t c r ht (by omega) (by omega))
      rw [zpt_ne (by omega), zpt_ne (by omega)]
      have old := hN.1.2.2.2.2.2.2.2.2 c hc
      have now := h1 c hc
      by_cases q2 : fst m k ≤ c ∧ c < fst m k + wd m k
      · have hc2 : Cl (σ.1 (73 + 8 + t) c) (nH m) (fc m (1 - t) c) := by
          match t, ht with
          | 0, _ =>
            show Cl (σ.1 81 c) _ _
            rw [(now.1 q2).1]; exact (old 1 (by decide)).2
          | 1, _ =>
            show Cl (σ.1 82 c) _ _
            rw [(now.1 q2).2]; exact (old 0 (by decide)).2
        exact hc2.cong (fun r hr => by rw [hf r hr]; unfold swF; rw [if_pos ⟨q2, hr⟩])
      · have hc2 : Cl (σ.1 (73 + 8 + t) c) (nH m) (fc m t c) := by
          match t, ht with
          | 0, _ =>
            show Cl (σ.1 81 c) _ _
            rw [(now.2 q2).1]; exact (old 0 (by decide)).2
          | 1, _ =>
            show Cl (σ.1 82 c) _ _
            rw [(now.2 q2).2]; exact (old 1 (by decide)).2
        exact hc2.cong (fun r hr => by rw [hf r hr]; unfold swF; rw [if_neg (fun x => q2 x.1)])
    · rw [hb.1.e_nS] at hq
      rw [zpt_ne (by decide), zpt_ne (by decide), e _ (by decide) (by decide)]
      have et : tu (mSwap m k) q = tu m q := by
        unfold mSwap
        rw [wF_tu (by omega)]
        unfold tu
        rw [mCoat_qv (by omega), if_neg (by omega), mCoat_qv (by omega), if_neg (by omega)]
      rw [et]
      exact hN.2 q hq
  · have hcc := fst_col hw hk (j := j) (by omega)
    have h60 := in60 hcc hcl.1
    have old := hN.1.2.2.2.2.2.2.2.2 _ hcc
    have now := (h1 _ hcc).2 (by omega)
    rw [tnk hcc (by omega), show σ.1 (73 + 8) (fst m k + j) = σ0.1 (73 + 8) (fst m k + j) from now.1, show σ.1 (73 + 9) (fst m k + j) = σ0.1 (73 + 9) (fst m k + j) from now.2]
    refine ⟨h60, h60, c_unlikeRows (old 0 (by decide)).2 (old 1 (by decide)).2 hwb.2.1 ⟨h60, h60, h60, fun σ5 e5 => ⟨h60, fun σ6 e6 => ?_⟩⟩⟩
    subst e5
    subst e6
    rw [show σ.1 (73 + 8) (fst m k + j) = σ0.1 (73 + 8) (fst m k + j) from now.1, show σ.1 (73 + 9) (fst m k + j) = σ0.1 (73 + 9) (fst m k + j) from now.2]
    have ih := ih (by omega) (zup (zup σ (73 + 8) (fst m k + j) (σ0.1 (73 + 9) (fst m k + j))) (73 + 9) (fst m k + j) (σ0.1 (73 + 8) (fst m k + j))) ((hF.up (by decide) _).up (by decide) _) (fun c hc => by
      have n81 : (zup (zup σ (73 + 8) (fst m k + j) (σ0.1 (73 + 9) (fst m k + j))) (73 + 9) (fst m k + j) (σ0.1 (73 + 8) (fst m k + j))).1 81 = upd (σ.1 81) (fst m k + j) (σ0.1 82 (fst m k + j)) := by
        rw [zpt_ne (by decide)]; exact zpt_at _ _ _
      have n82 : (zup (zup σ (73 + 8) (fst m k + j) (σ0.1 (73 + 9) (fst m k + j))) (73 + 9) (fst m k + j) (σ0.1 (73 + 8) (fst m k + j))).1 82 = upd (σ.1 82) (fst m k + j) (σ0.1 81 (fst m k + j)) := by
        rw [show (zup (zup σ (73 + 8) (fst m k + j) (σ0.1 (73 + 9) (fst m k + j))) (73 + 9) (fst m k + j) (σ0.1 (73 + 8) (fst m k + j))).1 82 = upd ((zup σ (73 + 8) (fst m k + j) (σ0.1 (73 + 9) (fst m k + j))).1 (73 + 9)) (fst m k + j) (σ0.1 (73 + 8) (fst m k + j)) from zpt_at _ _ _, zpt_ne (by decide)]
      rw [n81, n82]
      by_cases q : c = fst m k + j
      · subst q
        rw [pk_us, pk_us]
        exact ⟨fun _ => ⟨rfl, rfl⟩, fun x => by omega⟩
      · rw [pk_un q, pk_un q]
        have := h1 c hc
        exact ⟨fun x => this.1 (by omega), fun x => this.2 (by omega)⟩)
    rw [fb_sm_succ] at ih
    rw [show fb_ct (fun r => decide (fc m 0 (fst m k + j) r ≠ fc m 1 (fst m k + j) r)) (nH m) = fb_ct (fun r => decide (fc m 1 (fst m k + j) r ≠ fc m 0 (fst m k + j) r)) (nH m) from fb_ct_cong (fun r _ => decide_eq_decide.mpr ⟨Ne.symm, Ne.symm⟩), iI_add, show (1 : Int32) = iI 1 from rfl, iI_add]
    exact ih
termination_by wd m k - j
theorem c_swapFaces (hN : Nw σ m) (hw : WF m) {k : Nat} (hk : k < nS m) (H : ∀ τ, FrP pB σ τ → Nw τ (mSwap m k) → K (iI (swN m k)) τ) : CT g l M_X0_swapFaces 0 [.ref (zad g 73), .int (iI k)] σ (zQi K X) := by
  have hwb := wf_b hw
  refine b_X0_swapFaces zB_73 ⟨in10 hk hwb.2.2.1, ?_⟩
  rw [tnk hk (by omega), (hN.1.2.2.2.2.2.2.2.1 k hk).2.1]
  exact c_swapFaces_9 hN hw hk H 0 (Nat.zero_le _) σ (FrL.rf _ _) (fun c hc => ⟨fun x => by omega, fun _ => ⟨rfl, rfl⟩⟩)
theorem c_swap {u : Nat} {h : Nat → Nat → Int32} (hN : Nw σ m) (hw : WF m) (hH : HsC σ u h) (hhw : ∀ i, i < u → WF (h i)) {x : Int} (hx : I32 x) (H0 : ∀ k : Nat, x = k → k < nS m → ∀ τ, ChC σ u h m (mSwap m k) τ → K (iI (swN m k)) τ) (H1 : ¬ (0 ≤ x ∧ x < nS m) → X xI σ) : CT g l M_X6_swap 1 [.ref (zad g 0), .int (iI x)] σ (zQi K X) := by
  refine b_X6_swap (b_X6_swapProblem (c_hasSlat zB_73 hN.1 hw hx ?_))
  try simp (disch := omega) only [iI_add, iI_sub, iI_mul, iI_neg, iI_n, iI_lt, iI_le, iI_eq, iI_tn, iI_ti, bI_0, bI_1, iI_L, iL_0, Decidable.not_not, Int.toNat_natCast, zpt_at, zpt_ne, pk_us, pk_un, forall_eq, tn_0, tn_1, tn_2, tn_3, tn_4, tn_5, ni_1, ni_2, ni_3, ni_4, ni_5, not_false_eq_true, not_true_eq_false, true_implies, false_implies, and_true, true_and, iL_6, iL_m6, iL_7, iL_8, iL_9, iL_4, iL_m4, iL_m8, li_0, li_1, li_2, li_3, li_4, li_5, li_6, li_7, li_8, li_9, li_10, li_11, li_12, li_13, li_15, li_16, li_18, li_20, li_24, li_31, li_32, li_40, li_46, li_48, li_57, li_59, li_60, li_61, li_63, li_64, li_97, li_99, li_122, li_124, li_150, li_255, li_480, li_488, li_600, li_999, li_1110, li_54]
  refine ⟨fun h1 => c_refuse1 (H1 h1), fun h1 => c_refuse0 (c_keep hH hN hw hhw (fun τ f1 h3 => ?_))⟩
  obtain ⟨k, rfl, hk⟩ := nat_of h1
  exact c_swapFaces (nw_pK hN f1) hw hk (fun υ f2 h4 => H0 k rfl hk υ (chc_of f1 h3 f2 h4))
/-! a box more -/
theorem mBox_q {s c r w d v q : Nat} (h3 : q ≠ 3) (h : q < 54 + 6 * nB m ∨ 54 + 6 * nB m + 6 ≤ q) : mBox m s c r w d v q = m q := by
  unfold mBox mBox5
  rw [pk_un (by omega), pk_un (by omega), pk_un (by omega), pk_un (by omega), pk_un (by omega), pk_un (by omega), pk_un (by omega)]
theorem mBox_3 {s c r w d v : Nat} : mBox m s c r w d v 3 = iI ((nB m : Int) + 1) := by
  unfold mBox mBox5
  rw [pk_un (by omega), pk_us]
theorem mBox_0 {s c r w d v : Nat} : mBox m s c r w d v (54 + 6 * nB m) = iI s := by
  unfold mBox mBox5
  rw [pk_un (by omega), pk_un (by omega), pk_un (by omega), pk_un (by omega), pk_un (by omega), pk_un (by omega), pk_us]
theorem mBox_1 {s c r w d v : Nat} : mBox m s c r w d v (55 + 6 * nB m) = iI c := by
  unfold mBox mBox5
  rw [pk_un (by omega), pk_un (by omega), pk_un (by omega), pk_un (by omega), pk_un (by omega), show 55 + 6 * nB m = 54 + 6 * nB m + 1 by omega, pk_us]
theorem mBox_2 {s c r w d v : Nat} : mBox m s c r w d v (56 + 6 * nB m) = iI r := by
  unfold mBox mBox5
  rw [pk_un (by omega), pk_un (by omega), pk_un (by omega), pk_un (by omega), show 56 + 6 * nB m = 54 + 6 * nB m + 2 by omega, pk_us]
theorem mBox_w {s c r w d v : Nat} : mBox m s c r w d v (57 + 6 * nB m) = iI w := by
  unfold mBox mBox5
  rw [pk_un (by omega), pk_un (by omega), pk_un (by omega), show 57 + 6 * nB m = 54 + 6 * nB m + 3 by omega, pk_us]
theorem mBox_d {s c r w d v : Nat} : mBox m s c r w d v (58 + 6 * nB m) = iI d := by
  unfold mBox mBox5
  rw [pk_un (by omega), pk_un (by omega), show 58 + 6 * nB m = 54 + 6 * nB m + 4 by omega, pk_us]
theorem mBox_v {s c r w d v : Nat} : mBox m s c r w d v (59 + 6 * nB m) = iI v := by
  unfold mBox
  rw [show 59 + 6 * nB m = 54 + 6 * nB m + 5 by omega, pk_us]
theorem qv_of {q : Nat} {v : Nat} (h : m' q = iI (v : Int)) (hv : v < 1000) : qv m' q = v := by
  unfold qv; rw [h, iI_ti (by omega) (by omega)]
section ZBX
variable {s c r w d v : Nat}
theorem mBox_Sb (hn : nB m ≤ 15) : Sb m (mBox m s c r w d v) := ⟨mBox_q (by omega) (by omega), mBox_q (by omega) (by omega), mBox_q (by omega) (by omega), fun k hk => mBox_q (by omega) (by omega)⟩
theorem mBox_nB (hn : nB m ≤ 15) : nB (mBox m s c r w d v) = nB m + 1 := by
  have : qv (mBox m s c r w d v) 3 = (nB m + 1 : Nat) := qv_of mBox_3 (by omega)
  rw [show nB (mBox m s c r w d v) = (qv (mBox m s c r w d v) 3).toNat from rfl, this]; omega
theorem mBox_old {b i : Nat} (hb : b < nB m) (hi : i < 6) : qv (mBox m s c r w d v) (54 + i + 6 * b) = qv m (54 + i + 6 * b) := by
  unfold qv; rw [mBox_q (by omega) (by omega)]
theorem mBox_wf (hw : WF m) (hn : nB m ≤ 15) (hs : s < 2) (hc : c ≤ 63) (hr : r ≤ 63) (hww : 1 ≤ w ∧ w ≤ 64) (hd : 1 ≤ d ∧ d ≤ 64) (hv : v ≤ 9) : WF (mBox m s c r w d v) := by
  have hwb := wf_b hw
  have hb := mBox_Sb (s := s) (c := c) (r := r) (w := w) (d := d) (v := v) hn
  obtain ⟨h0, h1, h2, h3, h4, h5, h6⟩ := hw
  have e : ∀ q, q ≠ 3 → (q < 54 ∨ 150 ≤ q) → qv (mBox m s c r w d v) q = qv m q := fun q a b => by unfold qv; rw [mBox_q a (by omega)]
  have e3 : qv (mBox m s c r w d v) 3 = (nB m + 1 : Nat) := qv_of mBox_3 (by omega)
  refine ⟨by rw [e _ (by omega) (by omega)]; exact h0, by rw [e _ (by omega) (by omega)]; exact h1, by rw [e _ (by omega) (by omega)]; exact h2, by rw [e3]; omega, fun k hk => ?_, fun b hb' => ?_, fun q hq hq' => by rw [e _ (by omega) (by omega)]; exact h6 q hq hq'⟩
  · rw [hb.e_nS] at hk
    rw [e (4 + 5 * k) (by omega) (by omega), e (5 + 5 * k) (by omega) (by omega), e (6 + 5 * k) (by omega) (by omega), e (7 + 5 * k) (by omega) (by omega), e (8 + 5 * k) (by omega) (by omega)]
    exact h4 k hk
  · rw [mBox_nB hn] at hb'
    by_cases q : b = nB m
    · subst q
      rw [qv_of mBox_0 (by omega), qv_of mBox_1 (by omega), qv_of mBox_2 (by omega), qv_of mBox_w (by omega), qv_of mBox_d (by omega), qv_of mBox_v (by omega)]
      omega
    · have o := fun i hi => mBox_old (m := m) (s := s) (c := c) (r := r) (w := w) (d := d) (v := v) (b := b) (i := i) (by omega) hi
      rw [o 0 (by decide), o 1 (by decide), o 2 (by decide), o 3 (by decide), o 4 (by decide), o 5 (by decide)]
      exact h5 b (by omega)
theorem mBox_picN (hn : nB m ≤ 15) (s' c' r' : Nat) : ∀ {n : Nat}, n ≤ nB m → picN (mBox m s c r w d v) s' c' r' n = picN m s' c' r' n := by
  intro n
  induction n with
  | zero => intro _; rfl
  | succ n ih =>
    intro hn'
    have o := fun i hi => mBox_old (m := m) (s := s) (c := c) (r := r) (w := w) (d := d) (v := v) (b := n) (i := i) (by omega) hi
    unfold picN xS xX xY xW xD xC
    rw [ih (by omega), o 0 (by decide), o 1 (by decide), o 2 (by decide), o 3 (by decide), o 4 (by decide), o 5 (by decide)]
theorem mBox_pic (hn : nB m ≤ 15) (hs : s < 1000) (hc : c < 1000) (hr : r < 1000) (hw' : w < 1000) (hd : d < 1000) (hv : v < 1000) (s' c' r' : Nat) : pic (mBox m s c r w d v) s' c' r' = if s' = s ∧ (c ≤ c' ∧ c' < c + w) ∧ (r ≤ r' ∧ r' < r + d) then v else pic m s' c' r' := by
  unfold pic
  rw [mBox_nB hn]
  show (if xS (mBox m s c r w d v) (nB m) = s' ∧ _ ∧ _ then _ else _) = _
  unfold xS xX xY xW xD xC
  rw [qv_of mBox_0 hs, qv_of mBox_1 hc, qv_of mBox_2 hr, qv_of mBox_w hw', qv_of mBox_d hd, qv_of mBox_v hv, mBox_picN hn s' c' r' (Nat.le_refl _)]
  simp only [Int.toNat_natCast]
  by_cases q : s = s' ∧ (c ≤ c' ∧ c' < c + w) ∧ (r ≤ r' ∧ r' < r + d)
  · rw [if_pos q, if_pos ⟨q.1.symm, q.2⟩]
  · rw [if_neg q, if_neg (fun x => q ⟨x.1.symm, x.2⟩)]
theorem mBox_boxes (hn : nB m ≤ 15) (hs : s < 1000) (s' : Nat) : boxesOf (mBox m s c r w d v) s' = boxesOf m s' + if s = s' then 1 else 0 := by
  unfold boxesOf
  rw [mBox_nB hn, fb_ct_succ]
  have e1 : xS (mBox m s c r w d v) (nB m) = s := by unfold xS; rw [qv_of mBox_0 hs]; omega
  rw [e1, fb_ct_cong (n := nB m) (q := fun b => decide (xS m b = s')) (fun b hb => by
    have := mBox_old (m := m) (s := s) (c := c) (r := r) (w := w) (d := d) (v := v) (b := b) (i := 0) hb (by decide)
    rw [Nat.add_zero] at this
    unfold xS
    rw [this])]
  congr 1
  by_cases q : s = s' <;> simp [q]
end ZBX
theorem boxes_sum (hw : WF m) : boxesOf m 0 + boxesOf m 1 = nB m := by
  unfold boxesOf
  have e := fb_ct_not (fun b => decide (xS m b = 0)) (nB m)
  rw [fb_ct_cong (n := nB m) (p := fun b => !decide (xS m b = 0)) (q := fun b => decide (xS m b = 1)) (fun b hb => by
    have := (wf_x hw hb).1
    by_cases q : xS m b = 0
    · simp [q]
    · simp [q]; omega)] at e
  exact e
theorem spot_Nw (hN : Nw σ m) (hw : WF m) (hn : nB m ≤ 15) {s c r v : Nat} (hs : s < 2) (hc : c < cols m) (hr : r < nH m) (hv : v ≤ 9) {y : Int32} (hy : ∀ j, j < 8 → nib y j = if j = r then v else nib (σ.1 (73 + 6 + s) c) j) {τ : zS} (hb1 : ∀ b, b ≠ 73 → b ≠ 73 + 6 + s → τ.1 b = σ.1 b) (hp1 : τ.1 (73 + 6 + s) = upd (σ.1 (73 + 6 + s)) c y) (h73 : ∀ k, k ≠ 4 → k ≠ 5 → τ.1 73 k = σ.1 73 k) (h734 : τ.1 73 4 = iI (boxesOf m 0 + if s = 0 then 1 else 0 : Nat)) (h735 : τ.1 73 5 = iI (boxesOf m 1 + if s = 1 then 1 else 0 : Nat)) : Nw τ (mBox m s c r 1 1 v) := by
  have hwb := wf_b hw
  have hcl := cols_le hw
  have hb := mBox_Sb (m := m) (s := s) (c := c) (r := r) (w := 1) (d := 1) (v := v) hn
  have hbx := fun s' => mBox_boxes (m := m) (c := c) (r := r) (w := 1) (d := 1) (v := v) hn (show s < 1000 by omega) s'
  have hpic := fun s' c' r' => mBox_pic (m := m) (s := s) (c := c) (r := r) (w := 1) (d := 1) (v := v) hn (by omega) (by omega) (by omega) (by omega) (by omega) (by omega) s' c' r'
  have ho : ∀ q, q ≠ 3 → (q < 54 ∨ 150 ≤ q) → qv (mBox m s c r 1 1 v) q = qv m q := fun q a b => by unfold qv; rw [mBox_q a (by omega)]
  obtain ⟨r0, r1, r2, r3, r4, r5, r6, r7, r8⟩ := hN.1
  refine ⟨?_, fun j hj => ?_⟩
  · unfold R0
    rw [hb.e_nH, hb.e_nC, hb.e_nS, hb.e_cols hw, h73 0 (by decide) (by decide), h73 1 (by decide) (by decide), h73 2 (by decide) (by decide), h73 3 (by decide) (by decide), h73 6 (by decide) (by decide), h734, h735, hbx 0, hbx 1]
    refine ⟨r0, r1, r2, r3, rfl, rfl, fun k hk => ?_, fun k hk => ?_, fun c' hc' t ht => ?_⟩
    · rw [r6 k hk]
      by_cases q : k < nS m
      · rw [show td (mBox m s c r 1 1 v) k = td m k by unfold td; rw [ho _ (by omega) (by omega)]]
      · simp [q]
    · obtain ⟨a, b, e⟩ := r7 k hk
      rw [hb1 (73 + 1) (by omega) (by omega), hb1 (73 + 2) (by omega) (by omega), hb.e_wd (by omega), hb.e_fst (by omega)]
      refine ⟨a, b, fun t ht => ?_⟩
      rw [hb1 (73 + 4 + t) (by omega) (by omega), show ct (mBox m s c r 1 1 v) k t = ct m k t by unfold ct; rw [ho _ (by omega) (by omega)]]
      exact e t ht
    · obtain ⟨a, b⟩ := r8 c' hc' t ht
      refine ⟨?_, ?_⟩
      · by_cases q : t = s
        · subst q
          rw [hp1]
          by_cases q2 : c' = c
          · subst q2
            rw [pk_us]
            intro r' hr'
            rw [hy r' hr', hpic]
            by_cases q3 : r' = r
            · subst q3; rw [if_pos rfl, if_pos hr, if_pos ⟨rfl, by omega, by omega⟩]
            · rw [if_neg q3, if_neg (show ¬ (t = t ∧ (c' ≤ c' ∧ c' < c' + 1) ∧ (r ≤ r' ∧ r' < r + 1)) by omega)]; exact a r' hr'
          · rw [pk_un q2]
            exact a.cong (fun r' _ => by rw [hpic, if_neg (by omega)])
        · rw [hb1 (73 + 6 + t) (by omega) (by omega)]
          exact a.cong (fun r' _ => by rw [hpic, if_neg (fun x => q x.1)])
      · rw [hb1 (73 + 8 + t) (by omega) (by omega)]
        refine b.cong (fun r' hr' => ?_)
        unfold fc
        rw [ho _ (by omega) (by omega)]
  · rw [hb.e_nS] at hj
    rw [hb1 (73 + 3) (by omega) (by omega), show tu (mBox m s c r 1 1 v) j = tu m j from ho _ (by omega) (by omega)]
    exact hN.2 j hj
theorem c_addSpot (hN : Nw σ m) (hw : WF m) (hn : nB m ≤ 15) {s c r v : Nat} (hs : s < 2) (hc : c < cols m) (hr : r < nH m) (hv : v ≤ 9) (H : ∀ τ, FrP pB σ τ → Nw τ (mBox m s c r 1 1 v) → K (iI (nB m + 1 : Nat)) τ) : CT g l M_X0_addSpot 0 [.ref (zad g 73), .int (iI s), .int (iI c), .int (iI r), .int (iI v)] σ (zQi K X) := by
  have hwb := wf_b hw
  have hcl := cols_le hw
  have h60 := in60 hc hcl.1
  have hsum := boxes_sum hw
  have r4 := hN.1.2.2.2.2.1
  have r5 := hN.1.2.2.2.2.2.1
  refine b_X0_addSpot zB_73 (c_pictureOf zB_73 hs ⟨(zB_p zB_73 hs).1, (zB_p zB_73 hs).2, h60, ?_⟩)
  rw [tnk hc (by omega)]
  refine c_withColour (by omega) (by omega) (fun y hy => ⟨h60, ?_⟩)
  intro σ3 e3
  have f3 : FrP pB σ σ3 := e3 ▸ (FrP.rf pB σ).up (p := pB) (o := 73 + 6 + s) ⟨by omega, by omega⟩ _
  have b3 : ∀ b, b ≠ 73 + 6 + s → σ3.1 b = σ.1 b := fun b hb => by rw [e3]; exact zpt_ne hb
  have p3 : σ3.1 (73 + 6 + s) = upd (σ.1 (73 + 6 + s)) c y := by rw [e3]; exact zpt_at _ _ _
  have g4 : σ3.1 73 4 = iI (boxesOf m 0) := by rw [b3 73 (by omega)]; exact r4
  have g5 : σ3.1 73 5 = iI (boxesOf m 1) := by rw [b3 73 (by omega)]; exact r5
  clear e3
  have fin : ∀ τ : zS, FrP pB σ3 τ → (∀ b, b ≠ 73 → τ.1 b = σ3.1 b) → (∀ k, k ≠ 4 → k ≠ 5 → τ.1 73 k = σ3.1 73 k) → τ.1 73 4 = iI (boxesOf m 0 + if s = 0 then 1 else 0 : Nat) → τ.1 73 5 = iI (boxesOf m 1 + if s = 1 then 1 else 0 : Nat) → K (τ.1 73 4 + τ.1 73 5) τ := fun τ hF h1 h2 h4 h5 => by
    have e : τ.1 73 4 + τ.1 73 5 = iI (nB m + 1 : Nat) := by
      rw [h4, h5, iI_add]
      congr 1
      rcases (by omega : s = 0 ∨ s = 1) with q | q
      · rw [if_pos q, if_neg (by omega)]; omega
      · rw [if_neg (by omega), if_pos q]; omega
    rw [e]
    refine H τ (f3.tr hF) (spot_Nw hN hw hn hs hc hr hv hy (fun b q1 q2 => (h1 b q1).trans (b3 b q2)) ((h1 _ (by omega)).trans p3) (fun k q1 q2 => (h2 k q1 q2).trans (by rw [b3 73 (by omega)])) h4 h5)
  refine b_X0_countBox zB_73 ⟨fun q σ2 e2 => ?_, fun q σ2 e2 => ?_⟩
  · have hs0 : s = 0 := by
      rcases (by omega : s = 0 ∨ s = 1) with x | x
      · exact x
      · rw [x] at q; exact absurd q (by decide)
    refine fin σ2 (e2 ▸ (FrP.rf pB σ3).up (p := pB) (o := 73) ⟨by decide, by decide⟩ _) (fun b q1 => ?_) (fun k q1 q2 => ?_) ?_ ?_
    · rw [e2]; exact zpt_ne q1
    · rw [e2, zpt_at, pk_un q1]
    · rw [e2, zpt_at, pk_us, g4, if_pos hs0, show (1 : Int32) = iI 1 from rfl, iI_add]; rfl
    · rw [e2, zpt_at, pk_un (by decide), g5, if_neg (by omega)]; rfl
  · have hs1 : s = 1 := by
      rcases (by omega : s = 0 ∨ s = 1) with x | x
      · rw [x] at q; exact absurd rfl q
      · exact x
    refine fin σ2 (e2 ▸ (FrP.rf pB σ3).up (p := pB) (o := 73) ⟨by decide, by decide⟩ _) (fun b q1 => ?_) (fun k q1 q2 => ?_) ?_ ?_
    · rw [e2]; exact zpt_ne q1
    · rw [e2, zpt_at, pk_un q2]
    · rw [e2, zpt_at, pk_un (by decide), g4, if_neg (by omega)]; rfl
    · rw [e2, zpt_at, pk_us, g5, if_pos hs1, show (1 : Int32) = iI 1 from rfl, iI_add]; rfl
theorem c_spot {u : Nat} {h : Nat → Nat → Int32} (hN : Nw σ m) (hw : WF m) (hH : HsC σ u h) (hhw : ∀ i, i < u → WF (h i)) {x y v : Int} (hx : I32 x) (hy : I32 y) (hv : I32 v) {s : Nat} (hs : s < 2) (H0 : ∀ c r w : Nat, x = c → y = r → v = w → c < cols m → r < nH m → w ≤ 9 → nB m < 16 → ∀ τ, ChC σ u h m (mBox m s c r 1 1 w) τ → K (iI (nB m + 1 : Nat)) τ) (H1 : ¬ ((0 ≤ x ∧ x < cols m) ∧ (0 ≤ y ∧ y < nH m)) → X xI σ) (H2 : ((0 ≤ x ∧ x < cols m) ∧ (0 ≤ y ∧ y < nH m)) → ¬ (0 ≤ v ∧ v ≤ 9) → X xA σ) (H3 : ((0 ≤ x ∧ x < cols m) ∧ (0 ≤ y ∧ y < nH m)) → (0 ≤ v ∧ v ≤ 9) → ¬ nB m < 16 → X xS' σ) : CT g l M_X6_spot 1 [.ref (zad g 0), .int (iI s), .int (iI x), .int (iI y), .int (iI v)] σ (zQi K X) := by
  have hwb := wf_b hw
  have hsum := boxes_sum hw
  refine b_X6_spot (b_X6_spotProblem (c_hasCell zB_73 hN.1 hw hx hy ?_))
  simp only [li_1, li_0, bI_0, Decidable.not_not]
  refine ⟨fun h1 => c_refuse1 (H1 h1), fun h1 => c_colourProblem hv (fun h2 => ?_) (fun h2 => ?_)⟩
  · rw [hN.1.2.2.2.2.1, hN.1.2.2.2.2.2.1, iI_add, show (boxesOf m 0 : Int) + (boxesOf m 1 : Int) = (nB m : Int) by omega, li_16, iI_lt (by omega) (by omega) (by omega) (by omega)]
    refine ⟨fun _ => ⟨fun h3 => c_refuse0 (c_keep hH hN hw hhw (fun τ f1 h5 => ?_)), fun h3 => c_refuse3 (H3 h1 h2 (by omega))⟩, fun e => absurd rfl e⟩
    obtain ⟨c, rfl, hc⟩ := nat_of h1.1
    obtain ⟨r, rfl, hr⟩ := nat_of h1.2
    obtain ⟨w, rfl, hw'⟩ := nat_of (n := 10) (show 0 ≤ v ∧ v < (10 : Nat) by omega)
    exact c_addSpot (nw_pK hN f1) hw (by omega) hs hc hr (by omega) (fun υ f2 h4 => H0 c r w rfl rfl rfl hc hr (by omega) (by omega) υ (chc_of f1 h5 f2 h4))
  · exact ⟨fun e => absurd e (by decide), fun _ => c_refuse2 (H2 h1 h2)⟩
end ZCT

