/-! boxes grown, faces painted, the text made -/
section GRb
variable {G : fG} {l : Launch} {o : Option zS} {ax sb : Nat} {fa : Nat → Nat → Nat → Int32}
theorem g_338 {P : Nat → Nat → Nat} {K : Nat → Option zS → fW → Prop} {X H C S b q28 : Nat} {base : List Nat} {f : Nat → Int32} (hP : pOk P) (hb : b < 16) (hbase : base.length ≤ 260) (hf : ∀ j, j < 6 → f j = nI (gBn P b j))
    (H2 : ∀ (ω : fW) (p : Nat → Nat) (v n kb : Nat), X ≤ kb → GJ G ω ax p H C S (b + 1) (gRow P) fa sb v n (base ++ bfT P b 5 ++ zC 8) → L_X7_grown_207 G l K ax sb (nI (b + 1)) o ω kb) : ∀ (d i : Nat) (ω : fW) (p : Nat → Nat) (v n kb : Nat), i + d = 5 → X + 63 + 120 * d ≤ kb → GJ G ω ax p H C S b (gRow P) fa sb v n (base ++ bfT P b i) → ω q28 = some (.inl (G.1.2.1 0, 6, .inl f)) → (∀ j, wv S b j → p j ≠ q28) → L_X7_grown_338 G l K ax sb (nI b) q28 (nI (i + 1)) o ω kb
  | 0, i, ω, p, v, n, kb, hd, hkb, J, hq, hn => by
    have hi : i = 5 := by omega
    subst hi
    have l1 := bfT_l (P := P) b 5
    have z8 : (zC 8).length = 1 := by decide
    refine b_X7_grown_338 ⟨fun _ => ?_, fun q => absurd (show (6 : Int32) ≤ nI (5 + 1) by decide) q⟩
    refine J.app (tT_k (by omega)) (by simp only [List.length_append, z8]; omega) (by omega) (fun v2 n2 ω2 J2 hr => ?_)
    obtain ⟨mc1, mc2, n1, n2', l1, l2, l3⟩ := J2.1.2.2.1
    refine ⟨_, _, J2.1.2.1, rfl, by omega, _, l2.1, w_addB J2.1 (hr _ _ hq ⟨_, rfl⟩) (fun j hj => (hf j hj).trans (gRow_b hb hj).symm) hn hb (Nat.le_refl 3) (fun p' ω' W' hfr h167 => ?_)⟩
    rw [nI_1]
    exact H2 ω' p' v2 n2 _ (by omega) ⟨W', J2.2.1.fr J2.1.1 hfr, h167.trans J2.2.2⟩
  | d + 1, i, ω, p, v, n, kb, hd, hkb, J, hq, hn => by
    have l1 := bfT_l (P := P) b i
    have z14 : (zC 14).length = 1 := by decide
    have hg := (gBn_b hP b (i + 1)).1
    refine b_X7_grown_338 ⟨fun q => absurd q (nI_ge (b := 6) (by omega) (by decide)), fun _ => ?_⟩
    refine J.app (tT_k (by omega)) (by simp only [List.length_append, z14]; omega) (by omega) (fun v2 n2 ω2 J2 hr => ?_)
    have hq2 := hr _ _ hq ⟨_, rfl⟩
    refine ⟨_, _, hq2, nI_in (by omega) (by omega), ?_⟩
    rw [nI_clamp (by omega), hf (i + 1) (by omega)]
    refine J2.appI (by omega) (by simp only [List.length_append, z14]; omega) (by omega) (fun v3 n3 ω3 J3 hr3 => ?_)
    rw [nI_1]
    refine g_338 hP hb hbase hf H2 d (i + 1) ω3 p v3 n3 _ (by omega) (by omega) ?_ (hr3 _ _ hq2 ⟨_, rfl⟩) hn
    have e : base ++ bfT P b (i + 1) = base ++ bfT P b i ++ zC 14 ++ digs (gBn P b (i + 1)) := by
      show base ++ (bfT P b i ++ (zC 14 ++ digs (gBn P b (i + 1)))) = _
      simp only [List.append_assoc]
    rw [e]
    exact J3
theorem g_row6 {P : Nat → Nat → Nat} {b : Nat} : ∀ j, j < 6 → upd (upd (upd (upd (upd (upd (fun _ => 0) (Int32.toNatClampNeg 0) (nI (P (40 + b) 2))) (Int32.toNatClampNeg 1) (nI (P (50 + b) 12))) (Int32.toNatClampNeg 2) (nI (P (60 + b) 5))) (Int32.toNatClampNeg 3) (1 + nI (P (70 + b) 20))) (Int32.toNatClampNeg 4) (1 + nI (P (80 + b) 4))) (Int32.toNatClampNeg 5) (1 + nI (P (90 + b) 3)) j = nI (gBn P b j) := fun j hj => by
  rw [tc_0, tc_1, tc_2, tc_3, tc_4, tc_5]
  match j, hj with
  | 0, _ => rfl
  | 1, _ => rfl
  | 2, _ => rfl
  | 3, _ => exact la 1 _
  | 4, _ => exact la 1 _
  | 5, _ => exact la 1 _
abbrev dup (G : fG) : Prop := G.1.2.2.2.2.1 15 = G.1.2.2.2.2.1 5 ∧ G.1.2.2.2.2.1 16 = G.1.2.2.2.2.1 4 ∧ G.1.2.2.2.2.1 17 = G.1.2.2.2.2.1 3
theorem kb_207 {X d kb : Nat} (h : X + 180 + 784 * (d + 1) ≤ kb) : X + 180 + 784 * d + 663 ≤ kb - 1 - 60 - 60 := by
  rw [Nat.sub_sub, Nat.sub_sub]
  refine Nat.le_sub_of_add_le (Nat.le_trans (Nat.le_of_eq ?_) h)
  rw [Nat.mul_succ, Nat.add_assoc, ← Nat.add_assoc (X + 180)]
theorem g_207 (hL : G.2.2.1 < 2 ^ 31) (hdup : dup G) {K : Nat → Option zS → fW → Prop} {X : Nat} (H2 : ∀ (ω : fW) (p : Nat → Nat) (v n kb : Nat), X ≤ kb → GJ G ω ax p (gNH (pkN G)) (gNC (pkN G)) (gNS (pkN G)) (gNB (pkN G)) (gRow (pkN G)) fa sb v n (gText (pkN G)) → L_X7_grown_435 G l K ax sb 0 o ω kb) : ∀ (d b : Nat) (ω : fW) (p : Nat → Nat) (v n kb : Nat), b + d = gNB (pkN G) → X + 180 + 784 * d ≤ kb → GJ G ω ax p (gNH (pkN G)) 9 (gNS (pkN G)) b (gRow (pkN G)) fa sb v n (hiT (pkN G) ++ slsT (pkN G) (gNS (pkN G)) ++ bxsT (pkN G) b) → L_X7_grown_207 G l K ax sb (nI b) o ω kb
  | 0, b, ω, p, v, n, kb, hd, hkb, J => by
    have hb : b = gNB (pkN G) := by omega
    have hP : pOk (pkN G) := fun k n h => pkN_lt k h
    have hB : gNB (pkN G) < 8 := pkN_lt 4 (by omega)
    have hS : gNS (pkN G) < 5 := pkN_lt 3 (by omega)
    have hx := hP 6 4 (by omega)
    have l1 := hiT_l (P := pkN G)
    have l2 := slsT_l hP (gNS (pkN G))
    have l3 := bxsT_l (P := pkN G) b
    have z3 : (zC 3).length = 5 := by decide
    have z8 : (zC 8).length = 1 := by decide
    have hdl := digs_l2 (gNC (pkN G))
    refine b_X7_grown_207 ⟨Nat.zero_le _, s_pick (k := 4) (n := 8) hL (by omega) (by omega) (by omega) ⟨fun _ => ⟨Nat.zero_le _, s_pick (k := 5) (n := 2) hL (by omega) (by omega) (by omega) ⟨fun q => ?_, fun q => ⟨Nat.zero_le _, s_pick (k := 6) (n := 4) hL (by omega) (by omega) (by omega) ⟨_, J.1.2.1, by simp, fun ω13 e13 => ?_⟩⟩⟩⟩, fun q => absurd (nI_le (a := pkN G 4 8) (b := b) (by unfold gNB at hb; omega) (by omega)) q⟩⟩
    · have q0 : ¬ pkN G 5 2 = 0 := fun z => q (by rw [z]; rfl)
      have eC : gNC (pkN G) = 9 := if_neg q0
      have eT : gText (pkN G) = hiT (pkN G) ++ slsT (pkN G) (gNS (pkN G)) ++ bxsT (pkN G) b := by
        have : coT (pkN G) = [] := if_neg q0
        unfold gText
        rw [this, List.append_nil, hb]
      rw [← eT] at J
      rw [hb] at J
      refine H2 ω p v n _ (by omega) ?_
      rw [eC]
      exact J
    · have q0 : pkN G 5 2 = 0 := (nI_eq (b := 0) (by have := hP 5 2 (by omega); omega) (by omega)).mp q
      have eC : gNC (pkN G) = 1 + pkN G 6 4 := if_pos q0
      have J13 := J.obj (gNH (pkN G)) (gNC (pkN G))
      have e13' : ω13 = fup ω ax (.inr (11, [.int (nI (gNH (pkN G))), .int (nI (gNC (pkN G))), .ref (p 160), .ref (p 161), .ref (p 162), .ref (p 167)])) := by
        rw [e13, eC, ← la 1]
        rfl
      rw [← e13'] at J13
      rw [hdup.2.2]
      refine J13.app (tT_k (by omega)) (by simp only [List.length_append, z3]; omega) (by omega) (fun v2 n2 ω2 J2 _ => ⟨_, _, J2.1.2.1, rfl, ?_⟩)
      refine J2.appI (by omega) (by simp only [List.length_append, z3]; omega) (by omega) (fun v3 n3 ω3 J3 _ => ?_)
      refine J3.app (tT_k (by omega)) (by simp only [List.length_append, z3, z8]; omega) (by omega) (fun v4 n4 ω4 J4 _ => ?_)
      have eT : gText (pkN G) = hiT (pkN G) ++ slsT (pkN G) (gNS (pkN G)) ++ bxsT (pkN G) b ++ zC 3 ++ digs (gNC (pkN G)) ++ zC 8 := by
        have : coT (pkN G) = zC 3 ++ digs (gNC (pkN G)) ++ zC 8 := if_pos q0
        unfold gText
        rw [this, hb]
        simp only [List.append_assoc]
      rw [← eT] at J4
      rw [hb] at J4
      exact H2 ω4 p v4 n4 _ (by omega) J4
  | d + 1, b, ω, p, v, n, kb, hd, hkb, J => by
    have hP : pOk (pkN G) := fun k n h => pkN_lt k h
    have hB : gNB (pkN G) < 8 := pkN_lt 4 (by omega)
    have hS : gNS (pkN G) < 5 := pkN_lt 3 (by omega)
    have l1 := hiT_l (P := pkN G)
    have l2 := slsT_l hP (gNS (pkN G))
    have l3 := bxsT_l (P := pkN G) b
    have hkb8 : X + 180 + 784 * d + 663 ≤ kb - 1 - 60 - 60 := kb_207 hkb
    have z13 : (zC 13).length = 4 := by decide
    have z5 : (zC 5).length = 4 := by decide
    have z4 : (zC 4).length = 5 := by decide
    refine b_X7_grown_207 ⟨Nat.zero_le _, s_pick (k := 4) (n := 8) hL (by omega) (by omega) (by omega) ⟨fun q => absurd q (nI_ge (by unfold gNB at *; omega) (by unfold gNB at *; omega)), fun _ => ⟨by omega, fun q8 ω9 h8 e9 => ⟨Nat.zero_le _, ?_⟩⟩⟩⟩
    rw [show (40 : Int32) + nI b = nI (40 + b) from la 40 b, show (50 : Int32) + nI b = nI (50 + b) from la 50 b, show (60 : Int32) + nI b = nI (60 + b) from la 60 b, show (70 : Int32) + nI b = nI (70 + b) from la 70 b, show (80 : Int32) + nI b = nI (80 + b) from la 80 b, show (90 : Int32) + nI b = nI (90 + b) from la 90 b]
    have hn := J.1.new h8
    have J0 := J.new (x := .inl (G.1.2.1 0, 6, .inl (fun _ => 0))) h8
    rw [← e9] at J0
    have c0 := (congrFun e9 q8).trans (fup_at _ _ _)
    refine s_pick (n := 2) hL (by omega) (by omega) (by omega) ⟨_, _, c0, vi (i := 0) (by omega) (by omega), fun ω1 e1 => ⟨Nat.zero_le _, ?_⟩⟩
    have J1 := J0.off (y := (6, .inl (upd (fun _ => 0) (Int32.toNatClampNeg 0) (nI (pkN G (40 + b) 2))))) c0 hn
    rw [← e1] at J1
    have c1 := (congrFun e1 q8).trans (fup_at _ _ _)
    refine s_pick (n := 12) hL (by omega) (by omega) (by omega) ⟨_, _, c1, vi (i := 1) (by omega) (by omega), fun ω2 e2 => ⟨Nat.zero_le _, ?_⟩⟩
    have J2 := J1.off (y := (6, .inl (upd (upd (fun _ => 0) (Int32.toNatClampNeg 0) (nI (pkN G (40 + b) 2))) (Int32.toNatClampNeg 1) (nI (pkN G (50 + b) 12))))) c1 hn
    rw [← e2] at J2
    have c2 := (congrFun e2 q8).trans (fup_at _ _ _)
    refine s_pick (n := 5) hL (by omega) (by omega) (by omega) ⟨_, _, c2, vi (i := 2) (by omega) (by omega), fun ω3 e3 => ⟨Nat.zero_le _, ?_⟩⟩
    have J3 := J2.off (y := (6, .inl (upd (upd (upd (fun _ => 0) (Int32.toNatClampNeg 0) (nI (pkN G (40 + b) 2))) (Int32.toNatClampNeg 1) (nI (pkN G (50 + b) 12))) (Int32.toNatClampNeg 2) (nI (pkN G (60 + b) 5))))) c2 hn
    rw [← e3] at J3
    have c3 := (congrFun e3 q8).trans (fup_at _ _ _)
    refine s_pick (n := 20) hL (by omega) (by omega) (by omega) ⟨_, _, c3, vi (i := 3) (by omega) (by omega), fun ω4 e4 => ⟨Nat.zero_le _, ?_⟩⟩
    have J4 := J3.off (y := (6, .inl (upd (upd (upd (upd (fun _ => 0) (Int32.toNatClampNeg 0) (nI (pkN G (40 + b) 2))) (Int32.toNatClampNeg 1) (nI (pkN G (50 + b) 12))) (Int32.toNatClampNeg 2) (nI (pkN G (60 + b) 5))) (Int32.toNatClampNeg 3) (1 + nI (pkN G (70 + b) 20))))) c3 hn
    rw [← e4] at J4
    have c4 := (congrFun e4 q8).trans (fup_at _ _ _)
    refine s_pick (n := 4) hL (by omega) (by omega) (by omega) ⟨_, _, c4, vi (i := 4) (by omega) (by omega), fun ω5 e5 => ⟨Nat.zero_le _, ?_⟩⟩
    have J5 := J4.off (y := (6, .inl (upd (upd (upd (upd (upd (fun _ => 0) (Int32.toNatClampNeg 0) (nI (pkN G (40 + b) 2))) (Int32.toNatClampNeg 1) (nI (pkN G (50 + b) 12))) (Int32.toNatClampNeg 2) (nI (pkN G (60 + b) 5))) (Int32.toNatClampNeg 3) (1 + nI (pkN G (70 + b) 20))) (Int32.toNatClampNeg 4) (1 + nI (pkN G (80 + b) 4))))) c4 hn
    rw [← e5] at J5
    have c5 := (congrFun e5 q8).trans (fup_at _ _ _)
    refine s_pick (n := 3) hL (by omega) (by omega) (by omega) ⟨_, _, c5, vi (i := 5) (by omega) (by omega), fun ω6 e6 => ?_⟩
    have J6 := J5.off (y := (6, .inl (upd (upd (upd (upd (upd (upd (fun _ => 0) (Int32.toNatClampNeg 0) (nI (pkN G (40 + b) 2))) (Int32.toNatClampNeg 1) (nI (pkN G (50 + b) 12))) (Int32.toNatClampNeg 2) (nI (pkN G (60 + b) 5))) (Int32.toNatClampNeg 3) (1 + nI (pkN G (70 + b) 20))) (Int32.toNatClampNeg 4) (1 + nI (pkN G (80 + b) 4))) (Int32.toNatClampNeg 5) (1 + nI (pkN G (90 + b) 3))))) c5 hn
    rw [← e6] at J6
    have c6 := (congrFun e6 q8).trans (fup_at _ _ _)
    have g6 := g_row6 (P := pkN G) (b := b)
    refine J6.app (tT_k (by omega)) (by simp only [List.length_append, z13]; omega) (by omega) (fun v7 n7 ω7 J7 r7 => ?_)
    have c7 := r7 _ _ c6 ⟨_, rfl⟩
    have g0 := g6 0 (by omega)
    rw [← tc_0] at g0
    refine ⟨_, _, c7, vi (i := 0) (by omega) (by omega), ?_⟩
    generalize hF : (upd (upd (upd (upd (upd (upd (fun _ => 0) (Int32.toNatClampNeg 0) (nI (pkN G (40 + b) 2))) (Int32.toNatClampNeg 1) (nI (pkN G (50 + b) 12))) (Int32.toNatClampNeg 2) (nI (pkN G (60 + b) 5))) (Int32.toNatClampNeg 3) (1 + nI (pkN G (70 + b) 20))) (Int32.toNatClampNeg 4) (1 + nI (pkN G (80 + b) 4))) (Int32.toNatClampNeg 5) (1 + nI (pkN G (90 + b) 3)) : Nat → Int32) = F at g6 g0 c7 ⊢
    rw [g0]
    have hside : gBn (pkN G) b (Int32.toNatClampNeg 0) = pkN G (40 + b) 2 := by rw [tc_0]; rfl
    rw [hside, hdup.1, hdup.2.1]
    have go : ∀ (us : List Nat) (ω8 : fW) (v8 n8 : Nat) (kb8 : Nat), (zC 13 ++ us).length ≤ 9 → X + 180 + 784 * d + 663 ≤ kb8 → us = (if pkN G (40 + b) 2 = 0 then zC 5 else zC 4) → GJ G ω8 ax p (gNH (pkN G)) 9 (gNS (pkN G)) b (gRow (pkN G)) fa sb v8 n8 (hiT (pkN G) ++ slsT (pkN G) (gNS (pkN G)) ++ bxsT (pkN G) b ++ zC 13 ++ us) → ω8 q8 = some (.inl (G.1.2.1 0, 6, .inl F)) → L_X7_grown_338 G l K ax sb (nI b) q8 1 o ω8 kb8 := by
      intro us ω8 v8 n8 kb8 hu hk8 hus J8 c8
      refine g_338 (fa := fa) (H := gNH (pkN G)) (C := 9) (S := gNS (pkN G)) (X := X + 180 + 784 * d) (base := hiT (pkN G) ++ slsT (pkN G) (gNS (pkN G)) ++ bxsT (pkN G) b ++ zC 13 ++ us) hP (by omega) ?_ g6 (fun ω9 p9 v9 n9 kb9 hk9 J9 => ?_) 5 0 ω8 p v8 n8 kb8 (by omega) (by omega) ?_ c8 hn
      · simp only [List.length_append] at hu ⊢
        omega
      · refine g_207 hL hdup H2 d (b + 1) ω9 p9 v9 n9 kb9 (by omega) hk9 ?_
        have e : hiT (pkN G) ++ slsT (pkN G) (gNS (pkN G)) ++ bxsT (pkN G) (b + 1) = hiT (pkN G) ++ slsT (pkN G) (gNS (pkN G)) ++ bxsT (pkN G) b ++ zC 13 ++ us ++ bfT (pkN G) b 5 ++ zC 8 := by
          show hiT (pkN G) ++ slsT (pkN G) (gNS (pkN G)) ++ (bxsT (pkN G) b ++ (zC 13 ++ (if pkN G (40 + b) 2 = 0 then zC 5 else zC 4) ++ bfT (pkN G) b 5 ++ zC 8)) = _
          rw [← hus]
          simp only [List.append_assoc]
        rw [e]
        exact J9
      · have : bfT (pkN G) b 0 = [] := rfl
        rw [this, List.append_nil]
        exact J8
    have h2 := hP (40 + b) 2 (by omega)
    have hu4 : (zC 13 ++ zC 4).length ≤ 9 := by decide
    have hu5 : (zC 13 ++ zC 5).length ≤ 9 := by decide
    refine ⟨fun q => ?_, fun q => ?_⟩
    · have q0 : ¬ pkN G (40 + b) 2 = 0 := fun z => q (by rw [z]; rfl)
      exact J7.app (tT_k (by omega)) (by simp only [List.length_append, z13, z4]; omega) (by omega) (fun v8 n8 ω8 J8 r8 => go (zC 4) ω8 v8 n8 (kb - 1 - 60 - 60) hu4 hkb8 (if_neg q0).symm J8 (r8 _ _ c7 ⟨_, rfl⟩))
    · have q0 : pkN G (40 + b) 2 = 0 := (nI_eq (b := 0) (by omega) (by omega)).mp q
      exact J7.app (tT_k (by omega)) (by simp only [List.length_append, z13, z5]; omega) (by omega) (fun v8 n8 ω8 J8 r8 => go (zC 5) ω8 v8 n8 (kb - 1 - 60 - 60) hu5 hkb8 (if_pos q0).symm J8 (r8 _ _ c7 ⟨_, rfl⟩))
end GRb
