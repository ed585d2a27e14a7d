/-! the faces are painted, the text is made: the world is grown -/
def fset (fa : Nat → Nat → Nat → Int32) (s c r : Nat) (v : Int32) : Nat → Nat → Nat → Int32 := fun s' c' r' => if s' = s ∧ c' = c ∧ r' = r then v else fa s' c' r'
def fdone (m : Nat → Int32) (fa : Nat → Nat → Nat → Int32) (s c r : Nat) : Prop := ∀ s' c' r', s' < 2 → c' < cols m → r' < nH m → (s' < s ∨ (s' = s ∧ (c' < c ∨ (c' = c ∧ r' < r)))) → fa s' c' r' = nI (pic m s' c' r')
section GRf
variable {G : fG} {l : Launch} {o : Option zS} {ax sb : Nat}
theorem WQ.fset {ω : fW} {p : Nat → Nat} {H C S B : Nat} {m : Nat → Int32} {fa : Nat → Nat → Nat → Int32} (h : WQ G ω ax p H C S B m fa) {s c r : Nat} (hs : s < 2) (hc : c < 64) (hr : r < 8) {f : Nat → Int32} (hf : ω (p (32 + 64 * s + c)) = some (.inl (G.1.2.1 0, 8, .inl f))) (hfr : ∀ r, r < 8 → f r = fa s c r) (v : Int32) : WQ G (fup ω (p (32 + 64 * s + c)) (.inl (G.1.2.1 0, 8, .inl (upd f r v)))) ax p H C S B m (fset fa s c r v) := by
  have h11 := h.2.2.2.2.2.2.2.2.2.2.2
  refine h.wr (Or.inr (Or.inr ⟨by omega, by omega⟩)) hf (fun k hk => ⟨fun _ _ _ => rfl, fun e => by omega⟩) (fun b hb => ⟨fun _ _ _ => rfl, fun e => by omega⟩) (fun s' c' hs' hc' => ⟨fun e j hj => if_neg (fun z => e (by rw [z.1, z.2.1])), fun e => ⟨rfl, fun j hj => ?_⟩⟩)
  have hs2 : s' = s := by omega
  have hc2 : c' = c := by omega
  subst hs2 hc2
  by_cases q : j = r
  · subst q
    rw [pk_us]
    exact (if_pos ⟨rfl, rfl, rfl⟩).symm
  · rw [pk_un q, hfr j hj]
    exact (if_neg (fun z => q z.2.2)).symm
theorem GJ.fset {ω : fW} {p : Nat → Nat} {H C S B : Nat} {m : Nat → Int32} {fa : Nat → Nat → Nat → Int32} {v n : Nat} {ts : List Nat} (h : GJ G ω ax p H C S B m fa sb v n ts) {s c r : Nat} (hs : s < 2) (hc : c < 64) (hr : r < 8) {f : Nat → Int32} (hf : ω (p (32 + 64 * s + c)) = some (.inl (G.1.2.1 0, 8, .inl f))) (hfr : ∀ r, r < 8 → f r = fa s c r) (x : Int32) : GJ G (fup ω (p (32 + 64 * s + c)) (.inl (G.1.2.1 0, 8, .inl (upd f r x)))) ax p H C S B m (fset fa s c r x) sb v n ts := by
  refine ⟨h.1.fset hs hc hr hf hfr x, ?_, h.2.2⟩
  obtain ⟨⟨ml, h1⟩, ⟨g, h2, h3⟩, h4⟩ := h.2.1
  refine ⟨⟨ml, ?_⟩, ⟨g, ?_, h3⟩, h4⟩
  · rw [fup_ne (fun z => by rw [z, hf] at h1; cases h1)]; exact h1
  · rw [fup_ne (fun z => by
      rw [z, hf] at h2
      exact absurd (h.1.1 0 1 (by omega) (by omega) (congrArg (fun q : va_E => match q with | .inl (a, _) => a | .inr _ => G.1.2.1 0) (Option.some.inj h2))) (by omega))]
    exact h2
variable {p : Nat → Nat} {m : Nat → Int32} {v n kb : Nat} {ts : List Nat} {K : Nat → Option zS → fW → Prop}
abbrev FJ (G : fG) (ω : fW) (ax : Nat) (p : Nat → Nat) (m : Nat → Int32) (fa : Nat → Nat → Nat → Int32) (sb v n : Nat) (ts : List Nat) : Prop := GJ G ω ax p (nH m) (nC m) (nS m) (nB m) m fa sb v n ts
theorem g_456 (hw : WF m) {s c : Nat} (hs : s < 2) (hc : c < cols m) (H2 : ∀ (ω : fW) (fa : Nat → Nat → Nat → Int32), FJ G ω ax p m fa sb v n ts → fdone m fa s (c + 1) 0 → L_X7_grown_444 G l K ax sb (nI s) (nI (c + 1)) o ω kb) : ∀ (d r : Nat) (ω : fW) (fa : Nat → Nat → Nat → Int32), r + d = nH m → FJ G ω ax p m fa sb v n ts → fdone m fa s c r → L_X7_grown_456 G l K ax sb (nI s) (nI c) (nI r) o ω kb
  | 0, r, ω, fa, hr, J, hd => by
    have hr : r = nH m := by omega
    have hb := wf_b hw
    refine b_X7_grown_456 ⟨_, _, J.1.2.1, rfl, fun _ => ?_, fun q => absurd (nI_le (by omega) (by omega)) q⟩
    rw [nI_1]
    exact H2 ω fa J (fun s' c' r' h1 h2 h3 h4 => hd s' c' r' h1 h2 h3 (by omega))
  | d + 1, r, ω, fa, hr, J, hd => by
    have hb := wf_b hw
    have hcl := cols_le hw
    obtain ⟨F, R, f, a1, a2, b1, b2, c1, c2⟩ := J.1.face hs (show c < 64 by omega)
    refine b_X7_grown_456 ⟨_, _, J.1.2.1, rfl, fun q => absurd q (nI_ge (by omega) (by omega)), fun _ => ⟨_, _, J.1.2.1, rfl, _, _, _, a1, nI_in hs (by omega), ?_, _, _, _, b1, nI_in (by omega) (by omega), ?_, Nat.zero_le _, _, J.1.2.1, w_picture J.1 hw hs (by omega) (by omega) ⟨_, _, c1, nI_in (by omega) (by omega), fun ω17 e17 => ?_⟩⟩⟩
    · rw [nI_clamp (by omega)]; exact a2
    · rw [nI_clamp (by omega)]; exact b2
    · rw [nI_clamp (by omega)] at e17
      have J2 := J.fset hs (show c < 64 by omega) (show r < 8 by omega) c1 c2 (nI (pic m s c r))
      rw [← e17] at J2
      rw [nI_1]
      refine g_456 hw hs hc H2 d (r + 1) ω17 _ (by omega) J2 (fun s' c' r' h1 h2 h3 h4 => ?_)
      by_cases q : s' = s ∧ c' = c ∧ r' = r
      · obtain ⟨rfl, rfl, rfl⟩ := q
        exact if_pos ⟨rfl, rfl, rfl⟩
      · exact (if_neg q).trans (hd s' c' r' h1 h2 h3 (by omega))
theorem g_444 (hw : WF m) {s : Nat} (hs : s < 2) (H2 : ∀ (ω : fW) (fa : Nat → Nat → Nat → Int32), FJ G ω ax p m fa sb v n ts → fdone m fa (s + 1) 0 0 → L_X7_grown_435 G l K ax sb (nI (s + 1)) o ω kb) : ∀ (d c : Nat) (ω : fW) (fa : Nat → Nat → Nat → Int32), c + d = cols m → FJ G ω ax p m fa sb v n ts → fdone m fa s c 0 → L_X7_grown_444 G l K ax sb (nI s) (nI c) o ω kb
  | 0, c, ω, fa, hc, J, hd => by
    have hcl := cols_le hw
    refine b_X7_grown_444 ⟨Nat.zero_le _, _, J.1.2.1, w_columns J.1 hw ⟨fun _ => ?_, fun q => absurd (nI_le (by omega) (by omega)) q⟩⟩
    rw [nI_1]
    exact H2 ω fa J (fun s' c' r' h1 h2 h3 h4 => hd s' c' r' h1 h2 h3 (by omega))
  | d + 1, c, ω, fa, hc, J, hd => by
    have hcl := cols_le hw
    refine b_X7_grown_444 ⟨Nat.zero_le _, _, J.1.2.1, w_columns J.1 hw ⟨fun q => absurd q (nI_ge (by omega) (by omega)), fun _ => ?_⟩⟩
    exact g_456 hw hs (by omega) (fun ω2 fa2 J2 hd2 => g_444 hw hs H2 d (c + 1) ω2 fa2 (by omega) J2 hd2) (nH m) 0 ω fa (by omega) J hd
theorem g_435 (hw : WF m) (hts : asc ts) (hkb : 61 ≤ kb) (HK : ∀ (p' : Nat → Nat) (ω : fW) (fa : Nat → Nat → Nat → Int32), WR G ω ax p' m fa → fdone m fa 2 0 0 → tT G ω (p' 167) ts → K ax o ω) : ∀ (d s : Nat) (ω : fW) (fa : Nat → Nat → Nat → Int32), s + d = 2 → FJ G ω ax p m fa sb v n ts → fdone m fa s 0 0 → L_X7_grown_435 G l K ax sb (nI s) o ω kb
  | 0, s, ω, fa, hs, J, hd => by
    have hs : s = 2 := by omega
    subst hs
    obtain ⟨fs, hfs⟩ := J.2.1.ob
    refine b_X7_grown_435 ⟨fun _ => ⟨hkb, _, hfs, s_toString J.2.1 hts (Nat.le_refl 61) (fun q ω4 hq t4 hl => ?_)⟩, fun q => absurd (show (2 : Int32) ≤ nI 2 by decide) q⟩
    have W4 := J.1.le hl
    refine ⟨_, W4.2.1, by simp, fun ω6 e6 => ?_⟩
    have W6 := W4.obj (nH m) (nC m) (p' := fun i => if i = 167 then q else p i) (fun i hi => if_neg hi)
    have e167 : (fun i => if i = 167 then q else p i) 167 = q := if_pos rfl
    have e6' : ω6 = fup ω4 ax (.inr (11, [.int (nI (nH m)), .int (nI (nC m)), .ref (p 160), .ref (p 161), .ref (p 162), .ref ((fun i => if i = 167 then q else p i) 167)])) := by
      rw [e6, e167]
      rfl
    rw [← e6'] at W6
    refine HK _ ω6 fa W6 hd ?_
    have e168 : (if 167 = 167 then q else p 167) = q := if_pos rfl
    rw [e168]
    obtain ⟨va, f, t1, t2⟩ := t4
    refine ⟨va, f, ?_, t2⟩
    rcases t1 with ⟨x, y, z1, z2⟩ | z
    · refine Or.inl ⟨x, y, ?_, ?_⟩
      · rw [e6, fup_ne (fun w => by rw [w, W4.2.1] at z1; cases z1)]; exact z1
      · rw [e6, fup_ne (fun w => by rw [w, W4.2.1] at z2; cases z2)]; exact z2
    · exact Or.inr z
  | d + 1, s, ω, fa, hs, J, hd => by
    refine b_X7_grown_435 ⟨fun q => absurd q (nI_ge (b := 2) (by omega) (by decide)), fun _ => ?_⟩
    exact g_444 hw (by omega) (fun ω2 fa2 J2 hd2 => g_435 hw hts hkb HK d (s + 1) ω2 fa2 (by omega) J2 hd2) (cols m) 0 ω fa (by omega) J hd
end GRf
section GRw2
variable {G : fG} {l : Launch} {o : Option zS} {ω : fW} {kb : Nat}
theorem s_grown (hd : dist G) (hdup : dup G) (hL : G.2.2.1 < 2 ^ 31) {K : Nat → Option zS → fW → Prop} (hkb : 9000 ≤ kb) (HK : ∀ (ax : Nat) (p : Nat → Nat) (ω : fW) (fa : Nat → Nat → Nat → Int32), WR G ω ax p (gRow (pkN G)) fa → fdone (gRow (pkN G)) fa 2 0 0 → tT G ω (p 167) (gText (pkN G)) → K ax o ω) : FC G l M_X7_grown kb [.ref G.2.1] (o, ω) (fQr K) := by
  have hP : pOk (pkN G) := fun k n h => pkN_lt k h
  have hS : gNS (pkN G) < 5 := pkN_lt 3 (by omega)
  have hB : gNB (pkN G) < 8 := pkN_lt 4 (by omega)
  have hH := gH_b hP
  refine b_X7_grown ⟨by omega, fun ax ω2 hx e2 => ⟨by omega, ?_⟩⟩
  have a2 : ω2 ax = some (.inr (11, [.int 0, .int 0, .null, .null, .null, .null])) := by rw [e2]; exact fup_at _ _ _
  refine w_init (m := gRow (pkN G)) hd a2 (Nat.le_refl 140) (fun p ω5 W5 h167 _ => ⟨by omega, fun sb ω7 hs e7 => ⟨by omega, ?_⟩⟩)
  have c7 : ω7 sb = some (.inr (1, [.null, .int 0, .int 0, .int 0])) := by rw [e7]; exact fup_at _ _ _
  have W7 : WQ G ω7 ax p 4 9 0 0 (gRow (pkN G)) fz := by rw [e7]; exact W5.le (fle.up hs)
  refine s_sbinit c7 (Nat.le_refl 2) (fun v ω10 hv S10 f10 => ⟨Nat.zero_le _, ?_⟩)
  have J10 : GJ G ω10 ax p 4 9 0 0 (gRow (pkN G)) fz sb v 16 [] := by
    refine ⟨W7.fr (fun q c hq hwk _ => f10 q c hq (fun z => ?_)), S10, h167⟩
    rw [z, c7] at hq
    cases hq
    rcases hwk with ⟨i, fs', e, h1, h2⟩ | ⟨i, x, e, _⟩
    · cases e; exact absurd rfl h1
    · cases e
  have fin : ∀ (ω : fW) (p : Nat → Nat) (v n kb : Nat), 61 ≤ kb → GJ G ω ax p (gNH (pkN G)) (gNC (pkN G)) (gNS (pkN G)) (gNB (pkN G)) (gRow (pkN G)) fz sb v n (gText (pkN G)) → L_X7_grown_435 G l K ax sb 0 o ω kb := by
    intro ω p v n kb hk J
    refine g_435 (p := p) (v := v) (n := n) (m := gRow (pkN G)) (ts := gText (pkN G)) (gRow_WF hP) (gText_c hP) hk (fun p' ω' fa W h1 h2 => HK ax p' ω' fa W h1 h2) 2 0 ω fz (by omega) ?_ (fun s' c' r' _ _ _ h4 => by omega)
    show GJ G ω ax p (nH (gRow (pkN G))) (nC (gRow (pkN G))) (nS (gRow (pkN G))) (nB (gRow (pkN G))) (gRow (pkN G)) fz sb v n (gText (pkN G))
    rw [gRow_nH hP, gRow_nC hP, gRow_nS hP, gRow_nB hP]
    exact J
  have main : ∀ (ω : fW) (v n kb : Nat), 7700 ≤ kb → GJ G ω ax p (gNH (pkN G)) 9 0 0 (gRow (pkN G)) fz sb v n (hiT (pkN G)) → L_X7_grown_66 G l K ax sb (nI (pkN G 3 5)) 0 o ω kb := by
    intro ω v n kb hk J
    refine g_66 (fa := fz) hL (X := 5729) (fun ω2 p2 v2 n2 kb2 hk2 J2 => g_207 (fa := fz) hL hdup (X := 61) fin (gNB (pkN G)) 0 ω2 p2 v2 n2 kb2 (by omega) (by omega) ?_) (gNS (pkN G)) 0 ω p v n kb (by omega) (by omega) ?_
    · have : bxsT (pkN G) 0 = [] := rfl
      rw [this, List.append_nil]
      exact J2
    · have : slsT (pkN G) 0 = [] := rfl
      rw [this, List.append_nil]
      exact J
  refine s_pick (k := 1) (n := 2) hL (by omega) (by omega) (by omega) ⟨fun q => ⟨Nat.zero_le _, s_pick (k := 3) (n := 5) hL (by omega) (by omega) (by omega) ?_⟩, fun q => ⟨Nat.zero_le _, s_pick (k := 2) (n := 4) hL (by omega) (by omega) (by omega) ?_⟩⟩
  · have q0 : ¬ pkN G 1 2 = 0 := fun z => q (by rw [z]; rfl)
    have eH : gNH (pkN G) = 4 := if_neg q0
    have eT : hiT (pkN G) = [] := if_neg q0
    refine main ω10 v 16 _ (by omega) ?_
    rw [eH, eT]
    exact J10
  · have q0 : pkN G 1 2 = 0 := (nI_eq (b := 0) (by have := hP 1 2 (by omega); omega) (by omega)).mp q
    have eH : gNH (pkN G) = 1 + pkN G 2 4 := if_pos q0
    have eT : hiT (pkN G) = zC 7 ++ digs (gNH (pkN G)) ++ zC 8 := if_pos q0
    have z7 : (zC 7).length = 5 := by decide
    have z8 : (zC 8).length = 1 := by decide
    have hdl := digs_l2 (gNH (pkN G))
    refine ⟨_, J10.1.2.1, by simp, fun ω22 e22 => ?_⟩
    have J22 := J10.obj (gNH (pkN G)) 9
    have e22' : ω22 = fup ω10 ax (.inr (11, [.int (nI (gNH (pkN G))), .int (nI 9), .ref (p 160), .ref (p 161), .ref (p 162), .ref (p 167)])) := by
      rw [e22, eH, ← la 1]
      rfl
    rw [← e22'] at J22
    refine J22.app (tT_k (by omega)) (by rw [List.length_nil, z7]; omega) (by omega) (fun v2 n2 ω2 J2 _ => ⟨_, _, J2.1.2.1, rfl, ?_⟩)
    rw [List.nil_append] at J2
    refine J2.appI (by omega) (by rw [z7]; omega) (by omega) (fun v3 n3 ω3 J3 _ => ?_)
    refine J3.app (tT_k (by omega)) (by simp only [List.length_append, z7, z8]; omega) (by omega) (fun v4 n4 ω4 J4 _ => ⟨Nat.zero_le _, s_pick (k := 3) (n := 5) hL (by omega) (by omega) (by omega) ?_⟩)
    rw [← eT] at J4
    exact main ω4 v4 n4 _ (by omega) J4
end GRw2
