/-! the world as it is grown -/
def fz : Nat → Nat → Nat → Int32 := fun _ _ _ => 0
def GJ (G : fG) (ω : fW) (ax : Nat) (p : Nat → Nat) (H C S B : Nat) (m : Nat → Int32) (fa : Nat → Nat → Nat → Int32) (sb v n : Nat) (ts : List Nat) : Prop := WQ G ω ax p H C S B m fa ∧ SbA G ω sb v n ts ∧ p 167 = G.1.2.2.2.2.1 6
theorem SbA.le {G : fG} {ω ω' : fW} {a v n : Nat} {ts : List Nat} (hl : fle ω ω') (h : SbA G ω a v n ts) : SbA G ω' a v n ts := by
  obtain ⟨⟨ml, h1⟩, ⟨f, h2, h3⟩, h4⟩ := h
  exact ⟨⟨ml, hl _ _ h1⟩, ⟨f, hl _ _ h2, h3⟩, h4⟩
section GRo
variable {G : fG} {l : Launch} {o : Option zS} {ω : fW} {ax : Nat} {p : Nat → Nat} {H C S B : Nat} {m : Nat → Int32} {fa : Nat → Nat → Nat → Int32} {sb v n : Nat} {ts : List Nat}
theorem GJ.new (h : GJ G ω ax p H C S B m fa sb v n ts) {a : Nat} {x : va_E} (ha : ω a = none) : GJ G (fup ω a x) ax p H C S B m fa sb v n ts := ⟨h.1.le (fle.up ha), h.2.1.le (fle.up ha), h.2.2⟩
theorem GJ.off (h : GJ G ω ax p H C S B m fa sb v n ts) {a : Nat} {x y : vp_A} (ha : ω a = some (.inl (G.1.2.1 0, x))) (hn : ∀ i, wv S B i → p i ≠ a) : GJ G (fup ω a (.inl (G.1.2.1 0, y))) ax p H C S B m fa sb v n ts := by
  refine ⟨h.1.off ha hn, ?_, h.2.2⟩
  obtain ⟨⟨ml, h1⟩, ⟨f, h2, h3⟩, h4⟩ := h.2.1
  refine ⟨⟨ml, ?_⟩, ⟨f, ?_, h3⟩, h4⟩
  · rw [fup_ne (fun z => by rw [z, ha] at h1; cases h1)]; exact h1
  · rw [fup_ne (fun z => by
      rw [z, ha] at h2
      exact absurd (h.1.1 0 1 (by omega) (by omega) (congrArg (fun q : va_E => match q with | .inl (a, _) => a | .inr _ => G.1.2.1 0) (Option.some.inj h2))) (by omega))]
    exact h2
theorem GJ.rows (h : GJ G ω ax p H C S B m fa sb v n ts) {ω' : fW} (hf : ∀ x c, ω x = some c → x ≠ sb → x ≠ v → ω' x = some c) : ∀ q c, ω q = some c → (∃ y, c = .inl (G.1.2.1 0, y)) → ω' q = some c := fun q c hq hc => by
  obtain ⟨y, rfl⟩ := hc
  obtain ⟨⟨ml, h1⟩, ⟨f, h2, h3⟩, h4⟩ := h.2.1
  refine hf q _ hq (fun z => by rw [z, h1] at hq; cases hq) (fun z => ?_)
  rw [z, h2] at hq
  exact absurd (h.1.1 1 0 (by omega) (by omega) (congrArg (fun q : va_E => match q with | .inl (a, _) => a | .inr _ => G.1.2.1 1) (Option.some.inj hq))) (by omega)
/-- a constant is added to the text -/
theorem GJ.app {kb : Nat} {K : Nat → Option zS → fW → Prop} (h : GJ G ω ax p H C S B m fa sb v n ts) {r : Nat} {us : List Nat} (hr : tT G ω r us) (hl : ts.length + us.length ≤ 280) (hkb : 60 ≤ kb) (HK : ∀ (v' n' : Nat) (ω' : fW), GJ G ω' ax p H C S B m fa sb v' n' (ts ++ us) → (∀ q c, ω q = some c → (∃ y, c = .inl (G.1.2.1 0, y)) → ω' q = some c) → K sb o ω') : 60 ≤ kb ∧ ∃ fs : List Value, ω sb = some (.inr (1, fs)) ∧ FC G l M_J4_append_15ec4 60 [.ref sb, .ref r] (o, ω) (fQr K) := by
  obtain ⟨fs, hfs⟩ := h.2.1.ob
  exact ⟨hkb, fs, hfs, s_app h.2.1 hr hl (Nat.le_refl 60) (fun v' n' ω' S' _ hf => HK v' n' ω' ⟨h.1.sb h.2.1 hf, S', h.2.2⟩ (h.rows hf))⟩
theorem GJ.appI {kb x : Nat} {K : Nat → Option zS → fW → Prop} (h : GJ G ω ax p H C S B m fa sb v n ts) (hx : x < 100) (hl : ts.length + 2 ≤ 280) (hkb : 60 ≤ kb) (HK : ∀ (v' n' : Nat) (ω' : fW), GJ G ω' ax p H C S B m fa sb v' n' (ts ++ digs x) → (∀ q c, ω q = some c → (∃ y, c = .inl (G.1.2.1 0, y)) → ω' q = some c) → K sb o ω') : 60 ≤ kb ∧ ∃ fs : List Value, ω sb = some (.inr (1, fs)) ∧ FC G l M_J4_append_bf812 60 [.ref sb, .int (nI x)] (o, ω) (fQr K) := by
  obtain ⟨fs, hfs⟩ := h.2.1.ob
  have hd := digs_l2 x
  refine ⟨hkb, fs, hfs, s_appI h.2.1 hx (by omega) (Nat.le_refl 60) (fun v' n' ω' S' _ hf => HK v' n' ω' ⟨h.1.sb h.2.1 hf, S', h.2.2⟩ (h.rows hf))⟩
/-- the world's own object is written -/
theorem WQ.obj (h : WQ G ω ax p H C S B m fa) (H' C' : Nat) {p' : Nat → Nat} (hp : ∀ i, i ≠ 167 → p' i = p i) : WQ G (fup ω ax (.inr (11, [.int (nI H'), .int (nI C'), .ref (p 160), .ref (p 161), .ref (p 162), .ref (p' 167)]))) ax p' H' C' S B m fa := by
  obtain ⟨hd, h1, ⟨mc1, mc2, n1, n2, l1, l2, l3, l4, l5⟩, h3, h4, h5, h6, h7, h8, h9, h10, h11, h12⟩ := id h
  have hk : ∀ q c, ω q = some c → (∀ fs, c ≠ .inr (11, fs)) → (fup ω ax (.inr (11, [.int (nI H'), .int (nI C'), .ref (p 160), .ref (p 161), .ref (p 162), .ref (p' 167)]))) q = some c := fun q c hq hc => by
    rw [fup_ne (fun z => by
      rw [z, h1] at hq
      cases hq
      exact hc _ rfl)]
    exact hq
  generalize hω : (fup ω ax (.inr (11, [.int (nI H'), .int (nI C'), .ref (p 160), .ref (p 161), .ref (p 162), .ref (p' 167)]))) = ω' at hk ⊢
  have ha : ∀ q x, ω q = some (.inl x) → ω' q = some (.inl x) := fun q x hq => hk q _ hq (fun fs e => by cases e)
  have hls : ∀ {a c n0 e : Nat} {mc : Int32} {el el' : Nat → Nat}, (∀ i, i < c → el i = el' i) → LsA G ω a mc c n0 e el → LsA G ω' a mc c n0 e el' := fun he l => LsA.el' ⟨hk _ _ l.1 (fun fs e => by cases e), l.2.1.imp id (fun z => ⟨z.1, ha _ _ z.2⟩), l.2.2⟩ he
  have hrw : ∀ {i N : Nat} {g : Nat → Int32}, i ≠ 167 → rwI G ω (p i) N g → rwI G ω' (p' i) N g := fun hi hr => by
    obtain ⟨f0, z1, z2⟩ := hr
    exact ⟨f0, by rw [hp _ hi]; exact ha _ _ z1, z2⟩
  refine ⟨hd, ?_, ⟨mc1, mc2, n1, n2, ?_, ?_, l3, l4, ?_⟩, ?_, fun s hs => ?_, fun k hk => hrw (by omega) (h5 k hk), fun b hb => hrw (by omega) (h6 b hb), fun s c hs hc => hrw (by omega) (h7 s c hs hc), fun i j hi hj hij => ?_, ?_, ?_, h11, h12⟩
  · rw [hp 160 (by omega), hp 161 (by omega), hp 162 (by omega), ← hω]
    exact fup_at _ _ _
  · rw [hp 160 (by omega), hp 165 (by omega)]
    exact hls (fun i hi => (hp i (by omega)).symm) l1
  · rw [hp 161 (by omega), hp 166 (by omega)]
    exact hls (fun i hi => (hp (16 + i) (by omega)).symm) l2
  · rw [hp 165 (by omega), hp 166 (by omega)]; exact l5
  · obtain ⟨F, z1, z2⟩ := h3
    exact ⟨F, by rw [hp 162 (by omega)]; exact ha _ _ z1, fun j hj => by rw [z2 j hj]; exact congrArg some (hp _ (by omega)).symm⟩
  · obtain ⟨F, z1, z2⟩ := h4 s hs
    exact ⟨F, by rw [hp (163 + s) (by omega)]; exact ha _ _ z1, fun j hj => by rw [z2 j hj]; exact congrArg some (hp _ (by omega)).symm⟩
  · have w : ∀ i, wv S B i → i ≠ 167 := fun i hi => by unfold wv at hi; omega
    rw [hp i (w i hi), hp j (w j hj)] at hij
    exact h8 i j hi hj hij
  · rw [hp 160 (by omega), hp 161 (by omega)]; exact h9
  · rw [hp 163 (by omega), hp 164 (by omega)]; exact h10
theorem GJ.obj (h : GJ G ω ax p H C S B m fa sb v n ts) (H' C' : Nat) : GJ G (fup ω ax (.inr (11, [.int (nI H'), .int (nI C'), .ref (p 160), .ref (p 161), .ref (p 162), .ref (p 167)]))) ax p H' C' S B m fa sb v n ts := by
  refine ⟨h.1.obj H' C' (p' := p) (fun _ _ => rfl), ?_, h.2.2⟩
  have h0 := h.1.2.1
  obtain ⟨⟨ml, h1⟩, ⟨f, h2, h3⟩, h4⟩ := h.2.1
  refine ⟨⟨ml, ?_⟩, ⟨f, ?_, h3⟩, h4⟩
  · rw [fup_ne (fun z => by rw [z, h0] at h1; cases h1)]; exact h1
  · rw [fup_ne (fun z => by rw [z, h0] at h2; cases h2)]; exact h2
end GRo
section GRs
variable {G : fG} {l : Launch} {o : Option zS} {ax sb : Nat} {fa : Nat → Nat → Nat → Int32}
/-- a new slat goes into the list, its width into the text -/
theorem g_key {P : Nat → Nat → Nat} {ω : fW} {p : Nat → Nat} {H C v n k1 i q : Nat} {ts : List Nat} {f : Nat → Int32} (hP : pOk P) (hk1 : 130 ≤ k1) (h : GJ G ω ax p H C i 0 (gRow P) fa sb v n ts) (hi : i < 10) (hq : ω q = some (.inl (G.1.2.1 0, 5, .inl f))) (hf : ∀ j, j < 5 → f j = gRow P (4 + 5 * i + j)) (hn : ∀ j, wv i 0 j → p j ≠ q) (hl : ts.length ≤ 200) {K4 : Nat → Option zS → fW → Prop}
    (HK : ∀ (p' : Nat → Nat) (v' n' : Nat) (ω' : fW), GJ G ω' ax p' H C (i + 1) 0 (gRow P) fa sb v' n' (ts ++ (zC 9 ++ digs (1 + P (30 + i) 6))) → K4 sb o ω') :
    (3 ≤ k1 ∧ ∃ fs53 : List Value, ω (p 160) = some (.inr (3, fs53)) ∧ FC G l M_Jx4a65c_add_9ea2d 3 [.ref (p 160), .ref q] (o, ω) (fQi (fun v28 o29 ω30 => (60 ≤ (k1 - 3) ∧ ∃ fs52 : List Value, ω30 sb = some (.inr (1, fs52)) ∧ FC G l M_J4_append_15ec4 60 [.ref sb, .ref (G.1.2.2.2.2.1 9)] (o29, ω30) (fQr (fun v31 o32 ω33 => (∃ (fs34 : List Value) (w35 : Nat), ω33 ax = some (.inr (11, fs34)) ∧ fs34[2]? = some (.ref w35) ∧ (0 ≤ ((k1 - 3) - 60) ∧ ∃ fs51 : List Value, ω33 w35 = some (.inr (3, fs51)) ∧ FC G l M_Jx4a65c_get_915e3 0 [.ref w35, .int (nI i)] (o32, ω33) (fQr (fun v36 o37 ω38 => (∃ y39 : vp_A, ω38 v36 = some (.inl (G.1.2.1 0, y39)) ∧ (∃ (n40 : Nat) (f41 : Nat → Int32), ω38 v36 = some (.inl (G.1.2.1 0, n40, .inl f41)) ∧ vp_in 0 n40 ∧ (60 ≤ ((k1 - 3) - 60) ∧ ∃ fs50 : List Value, ω38 v31 = some (.inr (1, fs50)) ∧ FC G l M_J4_append_bf812 60 [.ref v31, .int (f41 (Int32.toNatClampNeg 0))] (o37, ω38) (fQr (fun v42 o43 ω44 => K4 v42 o43 ω44))))))))))))))) := by
  obtain ⟨mc1, mc2, n1, n2, l1, l2, l3⟩ := h.1.2.2.1
  have hw := hP (30 + i) 6 (by omega)
  have z9 : (zC 9).length = 5 := by decide
  refine ⟨by omega, _, l1.1, w_addS h.1 hq hf hn hi (Nat.le_refl 3) (fun p' ω' W' hfr h167 => ?_)⟩
  have J' : GJ G ω' ax p' H C (i + 1) 0 (gRow P) fa sb v n ts := by
    exact ⟨W', h.2.1.fr h.1.1 hfr, h167.trans h.2.2⟩
  refine J'.app (tT_k (by omega)) (by omega) (by omega) (fun v2 n2 ω2 J2 _ => ?_)
  obtain ⟨mc3, mc4, n3, n4, l5, l6, l7⟩ := J2.1.2.2.1
  obtain ⟨f2, a1, a2, a3⟩ := WR.slat J2.1 (k := i) (by omega)
  refine ⟨_, _, J2.1.2.1, rfl, Nat.zero_le _, _, l5.1, s_get l5 (by omega) ⟨_, a1, _, _, a1, vi (i := 0) (by omega) (by omega), ?_⟩⟩
  have e : f2 (Int32.toNatClampNeg 0) = nI (1 + P (30 + i) 6) := a2.1.trans (gRow_s (j := 0) (by omega) (by omega))
  rw [e]
  refine J2.appI (by omega) (by rw [List.length_append, z9]; omega) (by omega) (fun v3 n3 ω3 J3 _ => HK p' v3 n3 ω3 ?_)
  rw [List.append_assoc] at J3
  exact J3
end GRs
section GRt
variable {G : fG} {l : Launch} {o : Option zS} {ax sb : Nat} {fa : Nat → Nat → Nat → Int32}
theorem la (a b : Nat) : (OfNat.ofNat a : Int32) + nI b = nI (a + b) := nI_add a b
/-- the five numbers of a slat -/
theorem g_row5 {P : Nat → Nat → Nat} {i : Nat} (hi : i < 10) {t : Int32} (ht : t = iI (gTurn P i)) : ∀ j, j < 5 → upd (upd (upd (upd (upd (fun _ => 0) (Int32.toNatClampNeg 0) (1 + nI (P (30 + i) 6))) (Int32.toNatClampNeg 1) t) (Int32.toNatClampNeg 2) 0) (Int32.toNatClampNeg 3) 1) (Int32.toNatClampNeg 4) 1 j = gRow P (4 + 5 * i + j) := fun j hj => by
  rw [gRow_s hi hj, tc_0, tc_1, tc_2, tc_3, tc_4, ht]
  match j, hj with
  | 0, _ => exact la 1 _
  | 1, _ => rfl
  | 2, _ => rfl
  | 3, _ => rfl
  | 4, _ => rfl
theorem g_66 (hL : G.2.2.1 < 2 ^ 31) {K : Nat → Option zS → fW → Prop} {X : Nat} (H2 : ∀ (ω : fW) (p : Nat → Nat) (v n kb : Nat), X ≤ kb → GJ G ω ax p (gNH (pkN G)) 9 (gNS (pkN G)) 0 (gRow (pkN G)) fa sb v n (hiT (pkN G) ++ slsT (pkN G) (gNS (pkN G))) → L_X7_grown_207 G l K ax sb 0 o ω kb) : ∀ (d i : Nat) (ω : fW) (p : Nat → Nat) (v n kb : Nat), i + d = gNS (pkN G) → X + 444 * d ≤ kb → GJ G ω ax p (gNH (pkN G)) 9 i 0 (gRow (pkN G)) fa sb v n (hiT (pkN G) ++ slsT (pkN G) i) → L_X7_grown_66 G l K ax sb (nI (gNS (pkN G))) (nI i) o ω kb
  | 0, i, ω, p, v, n, kb, hd, hkb, J => by
    have hi : i = gNS (pkN G) := by omega
    subst hi
    have hS : gNS (pkN G) < 5 := pkN_lt 3 (by omega)
    exact b_X7_grown_66 ⟨fun _ => H2 ω p v n kb (by omega) J, fun q => absurd (nI_le (Nat.le_refl _) (by omega)) q⟩
  | d + 1, i, ω, p, v, n, kb, hd, hkb, J => by
    have hP : pOk (pkN G) := fun k n h => pkN_lt k h
    have hS : gNS (pkN G) < 5 := pkN_lt 3 (by omega)
    have hw := hP (30 + i) 6 (by omega)
    have l1 := hiT_l (P := pkN G)
    have l2 := slsT_l hP i
    have z9 : (zC 9).length = 5 := by decide
    have z12 : (zC 12).length = 3 := by decide
    have hdl : (digs (1 + pkN G (30 + i) 6)).length = 1 := by rw [digs_l, if_pos (by omega)]
    have hts : (hiT (pkN G) ++ slsT (pkN G) i).length ≤ 8 + 17 * i := by rw [List.length_append]; omega
    refine b_X7_grown_66 ⟨fun q => absurd q (nI_ge (by omega) (by omega)), fun _ => ⟨Nat.zero_le _, ?_⟩⟩
    rw [show (10 : Int32) + nI i = nI (10 + i) from la 10 i]
    refine s_pick (n := 3) hL (by omega) (by omega) (by omega) ⟨fun q => ?_, fun q => ⟨Nat.zero_le _, ?_⟩⟩
    · have ht : gTurn (pkN G) i = 0 := if_neg (fun z => q (by rw [z]; rfl))
      refine ⟨_, _, J.1.2.1, rfl, by omega, fun q8 ω9 h8 e9 => ⟨Nat.zero_le _, ?_⟩⟩
      rw [show (30 : Int32) + nI i = nI (30 + i) from la 30 i]
      have J9 := J.new (x := .inl (G.1.2.1 0, 5, .inl (fun _ => 0))) h8
      have hn := J.1.new h8
      have c9 : ω9 q8 = some (.inl (G.1.2.1 0, 5, .inl (fun _ => 0))) := by rw [e9]; exact fup_at _ _ _
      rw [← e9] at J9
      refine s_pick (n := 6) hL (by omega) (by omega) (by omega) ⟨_, _, c9, vi (i := 0) (by omega) (by omega), fun ω15 e15 => ?_⟩
      have J15 := J9.off (y := (5, .inl (upd (fun _ => 0) (Int32.toNatClampNeg 0) (1 + nI (pkN G (30 + i) 6))))) c9 hn
      rw [← e15] at J15
      have c15 := (congrFun e15 q8).trans (fup_at _ _ _)
      refine ⟨_, _, c15, vi (i := 1) (by omega) (by omega), fun ω18 e18 => ?_⟩
      have J18 := J15.off (y := (5, .inl (upd (upd (fun _ => 0) (Int32.toNatClampNeg 0) (1 + nI (pkN G (30 + i) 6))) (Int32.toNatClampNeg 1) 0))) c15 hn
      rw [← e18] at J18
      have c18 := (congrFun e18 q8).trans (fup_at _ _ _)
      refine ⟨_, _, c18, vi (i := 2) (by omega) (by omega), fun ω21 e21 => ?_⟩
      have J21 := J18.off (y := (5, .inl (upd (upd (upd (fun _ => 0) (Int32.toNatClampNeg 0) (1 + nI (pkN G (30 + i) 6))) (Int32.toNatClampNeg 1) 0) (Int32.toNatClampNeg 2) 0))) c18 hn
      rw [← e21] at J21
      have c21 := (congrFun e21 q8).trans (fup_at _ _ _)
      refine ⟨_, _, c21, vi (i := 3) (by omega) (by omega), fun ω24 e24 => ?_⟩
      have J24 := J21.off (y := (5, .inl (upd (upd (upd (upd (fun _ => 0) (Int32.toNatClampNeg 0) (1 + nI (pkN G (30 + i) 6))) (Int32.toNatClampNeg 1) 0) (Int32.toNatClampNeg 2) 0) (Int32.toNatClampNeg 3) 1))) c21 hn
      rw [← e24] at J24
      have c24 := (congrFun e24 q8).trans (fup_at _ _ _)
      refine ⟨_, _, c24, vi (i := 4) (by omega) (by omega), fun ω27 e27 => ?_⟩
      have J27 := J24.off (y := (5, .inl (upd (upd (upd (upd (upd (fun _ => 0) (Int32.toNatClampNeg 0) (1 + nI (pkN G (30 + i) 6))) (Int32.toNatClampNeg 1) 0) (Int32.toNatClampNeg 2) 0) (Int32.toNatClampNeg 3) 1) (Int32.toNatClampNeg 4) 1))) c24 hn
      rw [← e27] at J27
      have c27 := (congrFun e27 q8).trans (fup_at _ _ _)
      refine g_key hP (by omega) J27 (by omega) c27 (g_row5 (by omega) (by rw [ht]; rfl)) hn (by omega) (fun p' v' n' ω44 J44 => ?_)
      refine J44.app (tT_k (by omega)) (by simp only [List.length_append, z9, z12, hdl]; omega) (by omega) (fun v2 n2 ω48 J48 _ => ?_)
      rw [nI_1]
      refine g_66 hL H2 d (i + 1) ω48 p' v2 n2 _ (by omega) (by omega) ?_
      have e : hiT (pkN G) ++ slsT (pkN G) (i + 1) = hiT (pkN G) ++ slsT (pkN G) i ++ (zC 9 ++ digs (1 + pkN G (30 + i) 6)) ++ zC 12 := by
        show hiT (pkN G) ++ (slsT (pkN G) i ++ (zC 9 ++ digs (1 + pkN G (30 + i) 6) ++ (if gTurn (pkN G) i = 0 then [] else toldT (gTurn (pkN G) i)) ++ zC 12)) = _
        rw [if_pos ht, List.append_nil]
        simp only [List.append_assoc]
      rw [e]
      exact J48
    · have hx := hP (20 + i) 9 (by omega)
      have q0 : pkN G (10 + i) 3 = 0 := (nI_eq (b := 0) (by have := hP (10 + i) 3 (by omega); omega) (by omega)).mp q
      have ht : gTurn (pkN G) i = (pkN G (20 + i) 9 : Int) - 4 := if_pos q0
      have hb := gTurn_b hP i
      rw [show (20 : Int32) + nI i = nI (20 + i) from la 20 i]
      refine s_pick (n := 9) hL (by omega) (by omega) (by omega) ⟨_, _, J.1.2.1, rfl, by omega, fun q8 ω9 h8 e9 => ⟨Nat.zero_le _, ?_⟩⟩
      rw [show (30 : Int32) + nI i = nI (30 + i) from la 30 i]
      have et : nI (pkN G (20 + i) 9) - 4 = iI (gTurn (pkN G) i) := by rw [ht, iI_n, li_4, iI_sub]
      rw [et]
      have J9 := J.new (x := .inl (G.1.2.1 0, 5, .inl (fun _ => 0))) h8
      have hn := J.1.new h8
      have c9 : ω9 q8 = some (.inl (G.1.2.1 0, 5, .inl (fun _ => 0))) := by rw [e9]; exact fup_at _ _ _
      rw [← e9] at J9
      refine s_pick (n := 6) hL (by omega) (by omega) (by omega) ⟨_, _, c9, vi (i := 0) (by omega) (by omega), fun ω15 e15 => ?_⟩
      have J15 := J9.off (y := (5, .inl (upd (fun _ => 0) (Int32.toNatClampNeg 0) (1 + nI (pkN G (30 + i) 6))))) c9 hn
      rw [← e15] at J15
      have c15 := (congrFun e15 q8).trans (fup_at _ _ _)
      refine ⟨_, _, c15, vi (i := 1) (by omega) (by omega), fun ω18 e18 => ?_⟩
      have J18 := J15.off (y := (5, .inl (upd (upd (fun _ => 0) (Int32.toNatClampNeg 0) (1 + nI (pkN G (30 + i) 6))) (Int32.toNatClampNeg 1) (iI (gTurn (pkN G) i))))) c15 hn
      rw [← e18] at J18
      have c18 := (congrFun e18 q8).trans (fup_at _ _ _)
      refine ⟨_, _, c18, vi (i := 2) (by omega) (by omega), fun ω21 e21 => ?_⟩
      have J21 := J18.off (y := (5, .inl (upd (upd (upd (fun _ => 0) (Int32.toNatClampNeg 0) (1 + nI (pkN G (30 + i) 6))) (Int32.toNatClampNeg 1) (iI (gTurn (pkN G) i))) (Int32.toNatClampNeg 2) 0))) c18 hn
      rw [← e21] at J21
      have c21 := (congrFun e21 q8).trans (fup_at _ _ _)
      refine ⟨_, _, c21, vi (i := 3) (by omega) (by omega), fun ω24 e24 => ?_⟩
      have J24 := J21.off (y := (5, .inl (upd (upd (upd (upd (fun _ => 0) (Int32.toNatClampNeg 0) (1 + nI (pkN G (30 + i) 6))) (Int32.toNatClampNeg 1) (iI (gTurn (pkN G) i))) (Int32.toNatClampNeg 2) 0) (Int32.toNatClampNeg 3) 1))) c21 hn
      rw [← e24] at J24
      have c24 := (congrFun e24 q8).trans (fup_at _ _ _)
      refine ⟨_, _, c24, vi (i := 4) (by omega) (by omega), fun ω27 e27 => ?_⟩
      have J27 := J24.off (y := (5, .inl (upd (upd (upd (upd (upd (fun _ => 0) (Int32.toNatClampNeg 0) (1 + nI (pkN G (30 + i) 6))) (Int32.toNatClampNeg 1) (iI (gTurn (pkN G) i))) (Int32.toNatClampNeg 2) 0) (Int32.toNatClampNeg 3) 1) (Int32.toNatClampNeg 4) 1))) c24 hn
      rw [← e27] at J27
      have c27 := (congrFun e27 q8).trans (fup_at _ _ _)
      refine g_key hP (by omega) J27 (by omega) c27 (g_row5 (by omega) rfl) hn (by omega) (fun p' v' n' ω44 J44 => ⟨fun y => ?_, fun y => ⟨by omega, ?_⟩⟩)
      · have ht0 : gTurn (pkN G) i = 0 := (iI_eq (b := 0) (by omega) (by omega) (by omega) (by omega)).mp y
        refine J44.app (tT_k (by omega)) (by simp only [List.length_append, z9, z12, hdl]; omega) (by omega) (fun v2 n2 ω48 J48 _ => ?_)
        rw [nI_1]
        refine g_66 hL H2 d (i + 1) ω48 p' v2 n2 _ (by omega) (by omega) ?_
        have e : hiT (pkN G) ++ slsT (pkN G) (i + 1) = hiT (pkN G) ++ slsT (pkN G) i ++ (zC 9 ++ digs (1 + pkN G (30 + i) 6)) ++ zC 12 := by
          show hiT (pkN G) ++ (slsT (pkN G) i ++ (zC 9 ++ digs (1 + pkN G (30 + i) 6) ++ (if gTurn (pkN G) i = 0 then [] else toldT (gTurn (pkN G) i)) ++ zC 12)) = _
          rw [if_pos ht0, List.append_nil]
          simp only [List.append_assoc]
        rw [e]
        exact J48
      · have ht0 : gTurn (pkN G) i ≠ 0 := fun z => y (by rw [z]; rfl)
        have tl := toldT_l _ hb
        refine s_told hb.1 hb.2 (Nat.le_refl 200) (fun tq ω46 htq tT46 hl46 => ?_)
        have J46 : GJ G ω46 ax p' (gNH (pkN G)) 9 (i + 1) 0 (gRow (pkN G)) fa sb v' n' (hiT (pkN G) ++ slsT (pkN G) i ++ (zC 9 ++ digs (1 + pkN G (30 + i) 6))) := ⟨J44.1.le hl46, J44.2.1.le hl46, J44.2.2⟩
        have tT47 : tT G ω46 tq (toldT (gTurn (pkN G) i)) := tT46
        refine J46.app tT47 (by simp only [List.length_append, z9, hdl]; omega) (by omega) (fun v1 n1 ω47 J47 _ => ?_)
        refine J47.app (tT_k (by omega)) (by simp only [List.length_append, z9, z12, hdl]; omega) (by omega) (fun v2 n2 ω48 J48 _ => ?_)
        rw [nI_1]
        refine g_66 hL H2 d (i + 1) ω48 p' v2 n2 _ (by omega) (by omega) ?_
        have e : hiT (pkN G) ++ slsT (pkN G) (i + 1) = hiT (pkN G) ++ slsT (pkN G) i ++ (zC 9 ++ digs (1 + pkN G (30 + i) 6)) ++ toldT (gTurn (pkN G) i) ++ zC 12 := by
          show hiT (pkN G) ++ (slsT (pkN G) i ++ (zC 9 ++ digs (1 + pkN G (30 + i) 6) ++ (if gTurn (pkN G) i = 0 then [] else toldT (gTurn (pkN G) i)) ++ zC 12)) = _
          rw [if_neg ht0]
          simp only [List.append_assoc]
        rw [e]
        exact J48
end GRt
