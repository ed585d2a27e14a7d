/-! what the world's own methods read -/
abbrev WR (G : fG) (ω : fW) (ax : Nat) (p : Nat → Nat) (m : Nat → Int32) (fa : Nat → Nat → Nat → Int32) : Prop := WQ G ω ax p (nH m) (nC m) (nS m) (nB m) m fa
theorem tc_0 : Int32.toNatClampNeg 0 = 0 := by decide
theorem tc_1 : Int32.toNatClampNeg 1 = 1 := by decide
theorem tc_2 : Int32.toNatClampNeg 2 = 2 := by decide
theorem tc_3 : Int32.toNatClampNeg 3 = 3 := by decide
theorem tc_4 : Int32.toNatClampNeg 4 = 4 := by decide
theorem tc_5 : Int32.toNatClampNeg 5 = 5 := by decide
theorem vi {i n : Nat} (h : i < n) (hn : n < 65) : vp_in (nI i) n := nI_in h (by omega)
section WRd
variable {G : fG} {l : Launch} {o : Option zS} {ω : fW} {kb ax : Nat} {p : Nat → Nat} {m : Nat → Int32} {fa : Nat → Nat → Nat → Int32}
theorem WR.slat {H C S B : Nat} (h : WQ G ω ax p H C S B m fa) {k : Nat} (hk : k < S) : ∃ f : Nat → Int32, ω (p k) = some (.inl (G.1.2.1 0, 5, .inl f)) ∧ (f (Int32.toNatClampNeg 0) = m (4 + 5 * k) ∧ f (Int32.toNatClampNeg 1) = m (5 + 5 * k) ∧ f (Int32.toNatClampNeg 2) = m (6 + 5 * k) ∧ f (Int32.toNatClampNeg 3) = m (7 + 5 * k + 0) ∧ f (Int32.toNatClampNeg 4) = m (7 + 5 * k + 1)) ∧ ∀ j, j < 5 → f j = m (4 + 5 * k + j) := by
  obtain ⟨f, h1, h2⟩ := h.2.2.2.2.2.1 k hk
  refine ⟨f, h1, ⟨?_, ?_, ?_, ?_, ?_⟩, h2⟩
  · rw [tc_0, h2 0 (by omega)]; rfl
  · rw [tc_1]; exact (h2 1 (by omega)).trans (congrArg m (by omega))
  · rw [tc_2]; exact (h2 2 (by omega)).trans (congrArg m (by omega))
  · rw [tc_3]; exact (h2 3 (by omega)).trans (congrArg m (by omega))
  · rw [tc_4]; exact (h2 4 (by omega)).trans (congrArg m (by omega))
theorem w_first_4 {H C B : Nat} (h : WQ G ω ax p H C (nS m) B m fa) (hw : WF m) {K : Int32 → Option zS → fW → Prop} {k : Nat} (hk : k ≤ nS m) (HK : K (nI (fst m k)) o ω) : ∀ (d j : Nat), j + d = k → L_X7_first_4 G l K ax (nI k) (nI (fst m j)) (nI j) o ω kb
  | 0, j, hj => by
    have : j = k := by omega
    subst this
    refine b_X7_first_4 ⟨fun _ => HK, fun q => absurd (nI_le (Nat.le_refl _) (by have := wf_b hw; omega)) q⟩
  | d + 1, j, hj => by
    obtain ⟨mc1, mc2, n1, n2, l1, l2, l3⟩ := h.2.2.1
    obtain ⟨f, f1, f2, f3⟩ := WR.slat h (k := j) (by omega)
    have hb := wf_b hw
    refine b_X7_first_4 ⟨fun q => absurd q (nI_ge (by omega) (by omega)), fun q => ⟨_, _, h.2.1, rfl, Nat.zero_le _, _, l1.1, s_get l1 (by omega) ⟨_, f1, _, _, f1, vi (i := 0) (by omega) (by omega), ?_⟩⟩⟩
    rw [f2.1, wf_w hw (by omega), ← iI_n, nI_add, ← fst_succ, nI_1]
    exact w_first_4 h hw hk HK d (j + 1) (by omega)
theorem w_first {H C B : Nat} (h : WQ G ω ax p H C (nS m) B m fa) (hw : WF m) {K : Int32 → Option zS → fW → Prop} {k : Nat} (hk : k ≤ nS m) (HK : K (nI (fst m k)) o ω) : FC G l M_X7_first kb [.ref ax, .int (nI k)] (o, ω) (fQi K) := b_X7_first (w_first_4 h hw hk HK k 0 (by omega))
theorem w_columns {H C B : Nat} (h : WQ G ω ax p H C (nS m) B m fa) (hw : WF m) {K : Int32 → Option zS → fW → Prop} (HK : K (nI (cols m)) o ω) : FC G l M_X7_columns kb [.ref ax] (o, ω) (fQi K) := by
  obtain ⟨mc1, mc2, n1, n2, l1, l2, l3⟩ := h.2.2.1
  exact b_X7_columns ⟨_, _, h.2.1, rfl, Nat.zero_le _, _, l1.1, s_size l1 ⟨Nat.zero_le _, _, h.2.1, w_first h hw (Nat.le_refl _) HK⟩⟩
theorem WR.box {H C S B : Nat} (h : WQ G ω ax p H C S B m fa) {b : Nat} (hb : b < B) : ∃ f : Nat → Int32, ω (p (16 + b)) = some (.inl (G.1.2.1 0, 6, .inl f)) ∧ (f (Int32.toNatClampNeg 0) = m (54 + 6 * b) ∧ f (Int32.toNatClampNeg 1) = m (55 + 6 * b) ∧ f (Int32.toNatClampNeg 2) = m (56 + 6 * b) ∧ f (Int32.toNatClampNeg 3) = m (57 + 6 * b) ∧ f (Int32.toNatClampNeg 4) = m (58 + 6 * b) ∧ f (Int32.toNatClampNeg 5) = m (59 + 6 * b)) := by
  obtain ⟨f, h1, h2⟩ := h.2.2.2.2.2.2.1 b hb
  refine ⟨f, h1, ?_, ?_, ?_, ?_, ?_, ?_⟩
  · rw [tc_0, h2 0 (by omega)]; rfl
  · rw [tc_1]; exact (h2 1 (by omega)).trans (congrArg m (by omega))
  · rw [tc_2]; exact (h2 2 (by omega)).trans (congrArg m (by omega))
  · rw [tc_3]; exact (h2 3 (by omega)).trans (congrArg m (by omega))
  · rw [tc_4]; exact (h2 4 (by omega)).trans (congrArg m (by omega))
  · rw [tc_5]; exact (h2 5 (by omega)).trans (congrArg m (by omega))
theorem w_pic_13 {H C S : Nat} (h : WQ G ω ax p H C S (nB m) m fa) (hw : WF m) {K : Int32 → Option zS → fW → Prop} {s c r : Nat} (hs : s < 2) (hc : c < 1000) (hr : r < 1000) : ∀ n : Nat, n ≤ nB m → K (nI (picN m s c r n)) o ω → L_X7_picture_13 G l K ax (nI s) (nI c) (nI r) (iI ((n : Int) - 1)) o ω kb
  | 0, _, HK => b_X7_picture_13 ⟨fun _ => HK, fun q => absurd (show iI (-1) < 0 by decide) q⟩
  | b + 1, hn, HK => by
    obtain ⟨mc1, mc2, n1, n2, l1, l2, l3⟩ := h.2.2.1
    obtain ⟨f, f1, e0, e1, e2, e3, e4, e5⟩ := WR.box h (b := b) (by omega)
    have hb := wf_b hw
    obtain ⟨x1, x2, x3, x4, x5, x6, x7, x8⟩ := wf_x hw (b := b) (by omega)
    have ib : iI (((b + 1 : Nat) : Int) - 1) = nI b := by rw [iI_n]; congr 1; omega
    have go : ∀ K0 : K (nI (picN m s c r b)) o ω, L_X7_picture_13 G l K ax (nI s) (nI c) (nI r) (nI b + (-1)) o ω kb := fun K0 => by
      rw [iI_n b, iI_m1, iI_add]
      exact w_pic_13 h hw hs hc hr b (by omega) K0
    rw [wf_x0 hw (by omega)] at e0
    rw [wf_x1 hw (by omega)] at e1
    rw [wf_x2 hw (by omega)] at e2
    rw [wf_x3 hw (by omega)] at e3
    rw [wf_x4 hw (by omega)] at e4
    rw [wf_x5 hw (by omega)] at e5
    rw [← iI_n] at e0 e1 e2 e3 e4 e5
    rw [ib]
    have pn : picN m s c r (b + 1) = if xS m b = s ∧ (xX m b ≤ c ∧ c < xX m b + xW m b) ∧ (xY m b ≤ r ∧ r < xY m b + xD m b) then xC m b else picN m s c r b := rfl
    rw [pn] at HK
    refine b_X7_picture_13 ⟨fun q => absurd q (nI_pos (by omega)), fun _ => ⟨_, _, h.2.1, rfl, Nat.zero_le _, _, l2.1, s_get l2 (by omega) ⟨_, f1, _, _, f1, vi (i := 0) (by omega) (by omega), ?_⟩⟩⟩
    rw [e0]
    refine ⟨fun q => go ?_, fun q => ⟨_, _, f1, vi (i := 1) (by omega) (by omega), ?_⟩⟩
    · rwa [if_neg (fun z => q (by rw [z.1]))] at HK
    have q0 : xS m b = s := (nI_eq (by omega) (by omega)).mp q
    rw [e1]
    refine ⟨fun q => go ?_, fun q => ⟨_, _, f1, vi (i := 1) (by omega) (by omega), _, _, f1, vi (i := 3) (by omega) (by omega), ?_⟩⟩
    · have := (nI_ltI (by omega) (by omega)).mp q
      rwa [if_neg (fun z => by omega)] at HK
    have q1 : xX m b ≤ c := Nat.le_of_not_lt (fun z => q (nI_lt z (by omega)))
    rw [e1, e3, nI_add]
    refine ⟨fun q => go ?_, fun q => ⟨_, _, f1, vi (i := 2) (by omega) (by omega), ?_⟩⟩
    · have := (nI_leI (by omega) (by omega)).mp q
      rwa [if_neg (fun z => by omega)] at HK
    have q2 : c < xX m b + xW m b := Nat.lt_of_not_le (fun z => q (nI_le z (by omega)))
    rw [e2]
    refine ⟨fun q => go ?_, fun q => ⟨_, _, f1, vi (i := 2) (by omega) (by omega), _, _, f1, vi (i := 4) (by omega) (by omega), ?_⟩⟩
    · have := (nI_ltI (by omega) (by omega)).mp q
      rwa [if_neg (fun z => by omega)] at HK
    have q3 : xY m b ≤ r := Nat.le_of_not_lt (fun z => q (nI_lt z (by omega)))
    rw [e2, e4, nI_add]
    refine ⟨fun q => go ?_, fun q => ⟨_, _, f1, vi (i := 5) (by omega) (by omega), ?_⟩⟩
    · have := (nI_leI (by omega) (by omega)).mp q
      rwa [if_neg (fun z => by omega)] at HK
    have q4 : r < xY m b + xD m b := Nat.lt_of_not_le (fun z => q (nI_le z (by omega)))
    rw [e5]
    rwa [if_pos ⟨q0, ⟨q1, q2⟩, q3, q4⟩] at HK
theorem w_picture {H C S : Nat} (h : WQ G ω ax p H C S (nB m) m fa) (hw : WF m) {K : Int32 → Option zS → fW → Prop} {s c r : Nat} (hs : s < 2) (hc : c < 1000) (hr : r < 1000) (HK : K (nI (pic m s c r)) o ω) : FC G l M_X7_picture kb [.ref ax, .int (nI s), .int (nI c), .int (nI r)] (o, ω) (fQi K) := by
  obtain ⟨mc1, mc2, n1, n2, l1, l2, l3⟩ := h.2.2.1
  refine b_X7_picture ⟨_, _, h.2.1, rfl, Nat.zero_le _, _, l2.1, s_size l2 ?_⟩
  have e : nI (nB m) - 1 = iI ((nB m : Int) - 1) := by rw [iI_n, iI_lit 1, iI_sub]; rfl
  rw [e]
  exact w_pic_13 h hw hs hc hr (nB m) (Nat.le_refl _) HK
theorem w_seam (h : WR G ω ax p m fa) (hw : WF m) {K : Int32 → Option zS → fW → Prop} {k : Nat} (hk : k < nS m) (HK : K (iI (seamB m k)) o ω) : FC G l M_X7_seam kb [.ref ax, .int (nI k)] (o, ω) (fQi K) := by
  obtain ⟨mc1, mc2, n1, n2, l1, l2, l3⟩ := h.2.2.1
  have hb := wf_b hw
  refine b_X7_seam ⟨_, _, h.2.1, rfl, Nat.zero_le _, _, l1.1, s_size l1 ?_⟩
  rw [nI_1]
  unfold seamB at HK
  refine ⟨fun q => ?_, fun q => ?_⟩
  · have := (nI_leI (by omega) (by omega)).mp q
    rw [if_pos (by omega)] at HK
    exact HK
  · have hk1 : k + 1 < nS m := Nat.lt_of_not_le (fun z => q (nI_le z (by omega)))
    rw [if_neg (by omega)] at HK
    obtain ⟨f, f1, f2, f3⟩ := WR.slat h (k := k) (by omega)
    obtain ⟨g, g1, g2, g3⟩ := WR.slat h (k := k + 1) (by omega)
    refine ⟨_, _, h.2.1, rfl, Nat.zero_le _, _, l1.1, s_get l1 (by omega) ⟨_, f1, _, _, f1, vi (i := 1) (by omega) (by omega), _, _, h.2.1, rfl, Nat.zero_le _, _, l1.1, s_get l1 (by omega) ⟨_, g1, _, _, g1, vi (i := 1) (by omega) (by omega), ?_⟩⟩⟩
    rw [f2.2.1, g2.2.1, wf_t (m := m) k, wf_t (m := m) (k + 1), iI_sub]
    exact HK
end WRd
