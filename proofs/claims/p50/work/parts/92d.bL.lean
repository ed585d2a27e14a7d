set_option maxRecDepth 20000 in
set_option maxHeartbeats 2000000 in
theorem b_L_cell {G : fG} {l : Launch} {K : Int32 → Option zS → fW → Prop} {x1 : Int32} {o : Option zS} {ω : fW} {kb : Nat}
    (H : (((nI G.2.2.1) ≤ x1 → K ((1664525 * x1) + 40409) o ω) ∧ (¬ (nI G.2.2.1) ≤ x1 → (vp_in x1 G.2.2.1 ∧ K (G.2.2.2 (Int32.toNatClampNeg x1)) o ω)))) :
    FC G l M_L_cell kb [.ref G.2.1, .int x1] (o, ω) (fQi K) := by
  refine FC_of (by decide) (Nat.le_of_ble_eq_true rfl) ?_
  change FV _ _ _ _ _ 0 [(0, .ref G.2.1), (1, .int x1)] [] _
  refine f_iload_n dL_cell_0 rfl 1 rfl ?_
  refine f_aload_n dL_cell_1 rfl 0 rfl ?_
  refine f_slen dL_cell_2 ?_
  refine f_icmp_ge (tgt := 12) dL_cell_3 (by decide) (fun h1 => ?_) (fun h1 => ?_)
  · replace H := H.1 h1
    refine f_ldc k_L_7 dL_cell_12 ?_
    refine f_iload_n dL_cell_14 rfl 1 rfl ?_
    refine f_imul dL_cell_15 ?_
    refine f_ldc k_L_8 dL_cell_16 ?_
    refine f_iadd dL_cell_18 ?_
    exact f_iret rfl dL_cell_19 ⟨_, rfl, H⟩
  · replace H := H.2 h1
    refine f_aload_n dL_cell_6 rfl 0 rfl ?_
    refine f_iload_n dL_cell_7 rfl 1 rfl ?_
    refine f_sld H.1 dL_cell_8 ?_
    replace H := H.2
    refine f_goto (tgt := 19) dL_cell_9 (by decide) ?_
    exact f_iret rfl dL_cell_19 ⟨_, rfl, H⟩
set_option maxRecDepth 20000 in
set_option maxHeartbeats 2000000 in
theorem b_L_pick {G : fG} {l : Launch} {K : Int32 → Option zS → fW → Prop} {x1 : Int32} {x2 : Int32} {o : Option zS} {ω : fW} {kb : Nat}
    (H : (0 ≤ kb ∧ FC G l M_L_cell 0 [.ref G.2.1, .int x1] (o, ω) (fQi (fun v1 o2 ω3 => (¬ x2 = 0 ∧ K ((v1 &&& 2147483647) - (v1 &&& 2147483647) / x2 * x2) o2 ω3))))) :
    FC G l M_L_pick kb [.ref G.2.1, .int x1, .int x2] (o, ω) (fQi K) := by
  refine FC_of (by decide) (Nat.le_of_ble_eq_true rfl) ?_
  change FV _ _ _ _ _ 0 [(0, .ref G.2.1), (1, .int x1), (2, .int x2)] [] _
  refine f_aload_n dL_pick_0 rfl 0 rfl ?_
  refine f_iload_n dL_pick_1 rfl 1 rfl ?_
  refine f_callSi (j1 := 0) (j2 := kb) (av := [.ref G.2.1, .int x1]) rfl H.2 i_L_cell rfl s_L_cell q_L_9 (by decide) (f_kj H.1) (Nat.le_of_ble_eq_true rfl) dL_pick_2 (fun v1 o2 ω3 H => ?_)
  refine f_ldc k_L_15 dL_pick_5 ?_
  refine f_iand dL_pick_7 ?_
  refine f_iload_n dL_pick_8 rfl 2 rfl ?_
  refine f_irem dL_pick_9 H.1 ?_
  replace H := H.2
  exact f_iret rfl dL_pick_10 ⟨_, rfl, H⟩
abbrev L_L_feeds_4 (G : fG) (l : Launch) (K : Int32 → Option zS → fW → Prop) (r1 : Nat) (y2 : Int32) (y3 : Int32) (o : Option zS) (ω : fW) (kb : Nat) : Prop :=
  FV G l M_L_feeds kb (fQi K) 4 [(0, .ref (zad G.1 0)), (1, .ref r1), (2, .int y2), (3, .int y3)] [] (o, ω)
abbrev L_L_feeds_20 (G : fG) (l : Launch) (K : Int32 → Option zS → fW → Prop) (r1 : Nat) (y3 : Int32) (y4 : Nat) (y5 : Int32) (o : Option zS) (ω : fW) (kb : Nat) : Prop :=
  FV G l M_L_feeds kb (fQi K) 20 [(0, .ref (zad G.1 0)), (1, .ref r1), (3, .int y3), (4, .ref y4), (5, .int y5)] [] (o, ω)
set_option maxRecDepth 20000 in
set_option maxHeartbeats 2000000 in
theorem b_L_feeds {G : fG} {l : Launch} {K : Int32 → Option zS → fW → Prop} {r1 : Nat} {σ : zS} {ω : fW} {kb : Nat}
    (H : L_L_feeds_4 G l K r1 0 0 (some σ) ω kb) :
    FC G l M_L_feeds kb [.ref (zad G.1 0), .ref r1] ((some σ), ω) (fQi K) := by
  refine FC_of (by decide) (Nat.le_of_ble_eq_true rfl) ?_
  change FV _ _ _ _ _ 0 [(0, .ref (zad G.1 0)), (1, .ref r1)] [] _
  refine f_iconst (v := 0) dL_feeds_0 (by decide) ?_
  refine f_istore_n (ls' := [(2, .int 0), (0, .ref (zad G.1 0)), (1, .ref r1)]) dL_feeds_1 rfl (by decide) rfl ?_
  refine f_iconst (v := 0) dL_feeds_2 (by decide) ?_
  refine f_istore_n (ls' := [(3, .int 0), (2, .int 0), (0, .ref (zad G.1 0)), (1, .ref r1)]) dL_feeds_3 rfl (by decide) rfl ?_
  refine f_ls [2, 3, 1, 0] rfl ?_
  exact H
set_option maxRecDepth 20000 in
set_option maxHeartbeats 2000000 in
theorem b_L_feeds_4 {G : fG} {l : Launch} {K : Int32 → Option zS → fW → Prop} {r1 : Nat} {y2 : Int32} {y3 : Int32} {o : Option zS} {ω : fW} {kb : Nat}
    (H : (0 ≤ kb ∧ ∃ (a37 t38 : Nat) (f39 : Nat → Int32), tA G ω r1 a37 t38 f39 ∧ FC G l M_J0_length_8abf5 0 [.ref r1] (o, ω) (fQi (fun v1 o2 ω3 => ((v1 ≤ y3 → (0 ≤ kb ∧ ∃ (a32 t33 : Nat) (f34 : Nat → Int32), tA G ω3 r1 a32 t33 f34 ∧ FC G l M_J0_isEmpty_aae02 0 [.ref r1] (o2, ω3) (fQi (fun v5 o6 ω7 => ((¬ v5 = 0 → K 1 o6 ω7) ∧ (v5 = 0 → (0 ≤ kb ∧ ∃ (a29 t30 : Nat) (f31 : Nat → Int32), tA G ω7 r1 a29 t30 f31 ∧ FC G l M_J0_length_8abf5 0 [.ref r1] (o6, ω7) (fQi (fun v9 o10 ω11 => ((y2 < v9 → K 0 o10 ω11) ∧ (¬ y2 < v9 → (0 ≤ kb ∧ ∃ (a26 t27 : Nat) (f28 : Nat → Int32), tA G ω11 r1 a26 t27 f28 ∧ FC G l M_J0_length_8abf5 0 [.ref r1] (o10, ω11) (fQi (fun v13 o14 ω15 => (∃ σ25 : zS, o14 = some σ25 ∧ (1 ≤ kb ∧ ∀ n : Nat, CT (gB G.1 n) l M_X6_truncate 1 [.ref (zad G.1 0), .int v13] σ25 (zQi (fun v16 σ17 => (0 ≤ (kb - 1) ∧ ∃ (a22 t23 : Nat) (f24 : Nat → Int32), tA G ω15 r1 a22 t23 f24 ∧ FC G l M_J0_length_8abf5 0 [.ref r1] ((some σ17), ω15) (fQi (fun v18 o19 ω20 => ((¬ v16 = v18 → K 0 o19 ω20) ∧ (v16 = v18 → K 1 o19 ω20)))))) (fun _ _ => False)))))))))))))))))) ∧ (¬ v1 ≤ y3 → (1 ≤ kb ∧ ∀ (q35 : Nat) (ω36 : fW), ω3 q35 = none → ω36 = fup ω3 q35 (.inl (G.1.2.1 0, 5, .inl (fun _ => 0))) → L_L_feeds_20 G l K r1 y3 q35 0 o2 ω36 (kb - 1)))))))) :
    L_L_feeds_4 G l K r1 y2 y3 o ω kb := by
  refine f_iload_n dL_feeds_4 rfl 3 rfl ?_
  refine f_aload_n dL_feeds_5 rfl 1 rfl ?_
  have hka37 := H.1
  obtain ⟨a37, t38, f39, ha37, H⟩ := H.2
  refine f_callTi (j1 := 0) (j2 := kb) (av := []) rfl ha37 rfl H i_J0_length_8abf5 rfl n_J0_length_8abf5 v_J0_length_8abf5 q_L_16 (by decide) (f_kj hka37) (Nat.le_of_ble_eq_true rfl) dL_feeds_6 (fun v1 o2 ω3 H => ?_)
  refine f_icmp_ge (tgt := 106) dL_feeds_9 (by decide) (fun h4 => ?_) (fun h4 => ?_)
  · replace H := H.1 h4
    refine f_aload_n dL_feeds_106 rfl 1 rfl ?_
    have hka32 := H.1
    obtain ⟨a32, t33, f34, ha32, H⟩ := H.2
    refine f_callTi (j1 := 0) (j2 := kb) (av := []) rfl ha32 rfl H i_J0_isEmpty_aae02 rfl n_J0_isEmpty_aae02 v_J0_isEmpty_aae02 q_L_32 (by decide) (f_kj hka32) (Nat.le_of_ble_eq_true rfl) dL_feeds_107 (fun v5 o6 ω7 H => ?_)
    refine f_if_ne (tgt := 136) dL_feeds_110 (by decide) (fun h8 => ?_) (fun h8 => ?_)
    · replace H := H.1 h8
      refine f_iconst (v := 1) dL_feeds_136 (by decide) ?_
      refine f_goto (tgt := 141) dL_feeds_137 (by decide) ?_
      exact f_zret rfl rfl dL_feeds_141 ⟨_, rfl, H⟩
    · replace H := H.2 h8
      refine f_iload_n dL_feeds_113 rfl 2 rfl ?_
      refine f_aload_n dL_feeds_114 rfl 1 rfl ?_
      have hka29 := H.1
      obtain ⟨a29, t30, f31, ha29, H⟩ := H.2
      refine f_callTi (j1 := 0) (j2 := kb) (av := []) rfl ha29 rfl H i_J0_length_8abf5 rfl n_J0_length_8abf5 v_J0_length_8abf5 q_L_16 (by decide) (f_kj hka29) (Nat.le_of_ble_eq_true rfl) dL_feeds_115 (fun v9 o10 ω11 H => ?_)
      refine f_icmp_lt (tgt := 140) dL_feeds_118 (by decide) (fun h12 => ?_) (fun h12 => ?_)
      · replace H := H.1 h12
        refine f_iconst (v := 0) dL_feeds_140 (by decide) ?_
        exact f_zret rfl rfl dL_feeds_141 ⟨_, rfl, H⟩
      · replace H := H.2 h12
        refine f_aload_n dL_feeds_121 rfl 0 rfl ?_
        refine f_aload_n dL_feeds_122 rfl 1 rfl ?_
        have hka26 := H.1
        obtain ⟨a26, t27, f28, ha26, H⟩ := H.2
        refine f_callTi (j1 := 0) (j2 := kb) (av := []) rfl ha26 rfl H i_J0_length_8abf5 rfl n_J0_length_8abf5 v_J0_length_8abf5 q_L_16 (by decide) (f_kj hka26) (Nat.le_of_ble_eq_true rfl) dL_feeds_123 (fun v13 o14 ω15 H => ?_)
        obtain ⟨σ25, he, H⟩ := H
        subst he
        refine f_callCi (oo := 0) (j1 := 1) (j2 := (kb - 1)) (av := [.int v13]) rfl rfl (by decide) rfl rfl H.2 i_X6_truncate rfl n_X6_truncate v_X6_truncate q_L_36 (by decide) (f_kj H.1) (Nat.le_of_ble_eq_true rfl) dL_feeds_126 (fun v16 σ17 H => ?_)
        refine f_aload_n dL_feeds_129 rfl 1 rfl ?_
        have hka22 := H.1
        obtain ⟨a22, t23, f24, ha22, H⟩ := H.2
        refine f_callTi (j1 := 0) (j2 := (kb - 1)) (av := []) rfl ha22 rfl H i_J0_length_8abf5 rfl n_J0_length_8abf5 v_J0_length_8abf5 q_L_16 (by decide) (f_kj hka22) (Nat.le_of_ble_eq_true rfl) dL_feeds_130 (fun v18 o19 ω20 H => ?_)
        refine f_icmp_ne (tgt := 140) dL_feeds_133 (by decide) (fun h21 => ?_) (fun h21 => ?_)
        · replace H := H.1 h21
          refine f_iconst (v := 0) dL_feeds_140 (by decide) ?_
          exact f_zret rfl rfl dL_feeds_141 ⟨_, rfl, H⟩
        · replace H := H.2 h21
          refine f_iconst (v := 1) dL_feeds_136 (by decide) ?_
          refine f_goto (tgt := 141) dL_feeds_137 (by decide) ?_
          exact f_zret rfl rfl dL_feeds_141 ⟨_, rfl, H⟩
  · replace H := H.2 h4
    refine f_iconst (v := 5) dL_feeds_12 (by decide) ?_
    refine f_newa0 (N := 5) (u := 1) (by decide) (by decide) (Nat.le_of_ble_eq_true rfl) (f_ks H.1) ⟨by decide, by decide⟩ dL_feeds_13 (fun q35 hq35 => ?_)
    replace H := H.2 q35 _ hq35 rfl
    generalize fup ω3 q35 (.inl (G.1.2.1 0, 5, .inl (fun _ => 0))) = ω36 at H ⊢
    refine f_astore (ls' := [(4, .ref q35), (0, .ref (zad G.1 0)), (1, .ref r1), (2, .int y2), (3, .int y3)]) dL_feeds_15 (by decide) rfl ?_
    refine f_iconst (v := 0) dL_feeds_17 (by decide) ?_
    refine f_istore (ls' := [(5, .int 0), (4, .ref q35), (0, .ref (zad G.1 0)), (1, .ref r1), (2, .int y2), (3, .int y3)]) dL_feeds_18 (by decide) rfl ?_
    refine f_ls [2, 3, 5, 1, 0] rfl ?_
    exact H
set_option maxRecDepth 20000 in
set_option maxHeartbeats 2000000 in
theorem b_L_feeds_20 {G : fG} {l : Launch} {K : Int32 → Option zS → fW → Prop} {r1 : Nat} {y3 : Int32} {y4 : Nat} {y5 : Int32} {o : Option zS} {ω : fW} {kb : Nat}
    (H : ((20 ≤ y5 → (∃ (n2 : Nat) (f3 : Nat → Int32), ω y4 = some (.inl (G.1.2.1 0, n2, .inl f3)) ∧ vp_in 0 n2 ∧ (∃ (n4 : Nat) (f5 : Nat → Int32), ω y4 = some (.inl (G.1.2.1 0, n4, .inl f5)) ∧ vp_in 1 n4 ∧ (∃ (n6 : Nat) (f7 : Nat → Int32), ω y4 = some (.inl (G.1.2.1 0, n6, .inl f7)) ∧ vp_in 2 n6 ∧ (∃ (n8 : Nat) (f9 : Nat → Int32), ω y4 = some (.inl (G.1.2.1 0, n8, .inl f9)) ∧ vp_in 3 n8 ∧ (∃ (n10 : Nat) (f11 : Nat → Int32), ω y4 = some (.inl (G.1.2.1 0, n10, .inl f11)) ∧ vp_in 4 n10 ∧ (∃ σ14 : zS, o = some σ14 ∧ (1 ≤ kb ∧ ∀ n : Nat, CT (gB G.1 n) l M_X6_feed 1 [.ref (zad G.1 0), .int (f3 (Int32.toNatClampNeg 0)), .int (f5 (Int32.toNatClampNeg 1)), .int (f7 (Int32.toNatClampNeg 2)), .int (f9 (Int32.toNatClampNeg 3)), .int (f11 (Int32.toNatClampNeg 4))] σ14 (zQi (fun v12 σ13 => L_L_feeds_4 G l K r1 v12 (y3 + 20) (some σ13) ω (kb - 1)) (fun _ _ => False)))))))))) ∧ (¬ 20 ≤ y5 → (∃ (n15 : Nat) (f16 : Nat → Int32), ω y4 = some (.inl (G.1.2.1 0, n15, .inl f16)) ∧ vp_in (y5 / 4) n15 ∧ (0 ≤ kb ∧ ∃ (a33 t34 : Nat) (f35 : Nat → Int32), tA G ω r1 a33 t34 f35 ∧ FC G l M_J0_length_8abf5 0 [.ref r1] (o, ω) (fQi (fun v17 o18 ω19 => ((v17 ≤ (y3 + y5) → (∃ (n21 : Nat) (f22 : Nat → Int32), ω19 y4 = some (.inl (G.1.2.1 0, n21, .inl f22)) ∧ vp_in (y5 / 4) n21 ∧ (∀ ω23 : fW, ω23 = fup ω19 y4 (.inl (G.1.2.1 0, n21, .inl (upd f22 (Int32.toNatClampNeg (y5 / 4)) (((f16 (Int32.toNatClampNeg (y5 / 4))) <<< (8 &&& 31)) ||| 32)))) → L_L_feeds_20 G l K r1 y3 y4 (y5 + 1) o18 ω23 kb))) ∧ (¬ v17 ≤ (y3 + y5) → (0 ≤ kb ∧ ∃ (a30 t31 : Nat) (f32 : Nat → Int32), tA G ω19 r1 a30 t31 f32 ∧ FC G l M_J0_charAt_5068e 0 [.ref r1, .int (y3 + y5)] (o18, ω19) (fQi (fun v24 o25 ω26 => (∃ (n27 : Nat) (f28 : Nat → Int32), ω26 y4 = some (.inl (G.1.2.1 0, n27, .inl f28)) ∧ vp_in (y5 / 4) n27 ∧ (∀ ω29 : fW, ω29 = fup ω26 y4 (.inl (G.1.2.1 0, n27, .inl (upd f28 (Int32.toNatClampNeg (y5 / 4)) (((f16 (Int32.toNatClampNeg (y5 / 4))) <<< (8 &&& 31)) ||| v24)))) → L_L_feeds_20 G l K r1 y3 y4 (y5 + 1) o25 ω29 kb)))))))))))))) :
    L_L_feeds_20 G l K r1 y3 y4 y5 o ω kb := by
  refine f_iload dL_feeds_20 4 rfl ?_
  refine f_bipush (v := 20) dL_feeds_22 (by decide) ?_
  refine f_icmp_ge (tgt := 75) dL_feeds_24 (by decide) (fun h1 => ?_) (fun h1 => ?_)
  · replace H := H.1 h1
    refine f_aload_n dL_feeds_75 rfl 0 rfl ?_
    refine f_aload dL_feeds_76 3 rfl ?_
    refine f_iconst (v := 0) dL_feeds_78 (by decide) ?_
    obtain ⟨n2, f3, hn2, gn2, H⟩ := H
    refine f_iald hn2 gn2 dL_feeds_79 ?_
    refine f_aload dL_feeds_80 3 rfl ?_
    refine f_iconst (v := 1) dL_feeds_82 (by decide) ?_
    obtain ⟨n4, f5, hn4, gn4, H⟩ := H
    refine f_iald hn4 gn4 dL_feeds_83 ?_
    refine f_aload dL_feeds_84 3 rfl ?_
    refine f_iconst (v := 2) dL_feeds_86 (by decide) ?_
    obtain ⟨n6, f7, hn6, gn6, H⟩ := H
    refine f_iald hn6 gn6 dL_feeds_87 ?_
    refine f_aload dL_feeds_88 3 rfl ?_
    refine f_iconst (v := 3) dL_feeds_90 (by decide) ?_
    obtain ⟨n8, f9, hn8, gn8, H⟩ := H
    refine f_iald hn8 gn8 dL_feeds_91 ?_
    refine f_aload dL_feeds_92 3 rfl ?_
    refine f_iconst (v := 4) dL_feeds_94 (by decide) ?_
    obtain ⟨n10, f11, hn10, gn10, H⟩ := H
    refine f_iald hn10 gn10 dL_feeds_95 ?_
    obtain ⟨σ14, he, H⟩ := H
    subst he
    refine f_callCi (oo := 0) (j1 := 1) (j2 := (kb - 1)) (av := [.int (f3 (Int32.toNatClampNeg 0)), .int (f5 (Int32.toNatClampNeg 1)), .int (f7 (Int32.toNatClampNeg 2)), .int (f9 (Int32.toNatClampNeg 3)), .int (f11 (Int32.toNatClampNeg 4))]) rfl rfl (by decide) rfl rfl H.2 i_X6_feed rfl n_X6_feed v_X6_feed q_L_26 (by decide) (f_kj H.1) (Nat.le_of_ble_eq_true rfl) dL_feeds_96 (fun v12 σ13 H => ?_)
    refine f_istore_n (ls' := [(2, .int v12), (0, .ref (zad G.1 0)), (1, .ref r1), (3, .int y3), (4, .ref y4), (5, .int y5)]) dL_feeds_99 rfl (by decide) rfl ?_
    refine f_iinc (j := 3) (v := (y3 + 20)) (ls' := [(3, .int (y3 + 20)), (2, .int v12), (0, .ref (zad G.1 0)), (1, .ref r1), (4, .ref y4), (5, .int y5)]) dL_feeds_100 rfl rfl (by decide) rfl ?_
    refine f_goto (tgt := 4) dL_feeds_103 (by decide) ?_
    refine f_ls [2, 3, 1, 0] rfl ?_
    exact H
  · replace H := H.2 h1
    refine f_aload dL_feeds_27 3 rfl ?_
    refine f_iload dL_feeds_29 4 rfl ?_
    refine f_iconst (v := 4) dL_feeds_31 (by decide) ?_
    refine f_idiv dL_feeds_32 (by decide) ?_
    refine f_aload dL_feeds_33 3 rfl ?_
    refine f_iload dL_feeds_35 4 rfl ?_
    refine f_iconst (v := 4) dL_feeds_37 (by decide) ?_
    refine f_idiv dL_feeds_38 (by decide) ?_
    obtain ⟨n15, f16, hn15, gn15, H⟩ := H
    refine f_iald hn15 gn15 dL_feeds_39 ?_
    refine f_bipush (v := 8) dL_feeds_40 (by decide) ?_
    refine f_ishl dL_feeds_42 ?_
    refine f_iload_n dL_feeds_43 rfl 2 rfl ?_
    refine f_iload dL_feeds_44 4 rfl ?_
    refine f_iadd dL_feeds_46 ?_
    refine f_aload_n dL_feeds_47 rfl 1 rfl ?_
    have hka33 := H.1
    obtain ⟨a33, t34, f35, ha33, H⟩ := H.2
    refine f_callTi (j1 := 0) (j2 := kb) (av := []) rfl ha33 rfl H i_J0_length_8abf5 rfl n_J0_length_8abf5 v_J0_length_8abf5 q_L_16 (by decide) (f_kj hka33) (Nat.le_of_ble_eq_true rfl) dL_feeds_48 (fun v17 o18 ω19 H => ?_)
    refine f_icmp_ge (tgt := 65) dL_feeds_51 (by decide) (fun h20 => ?_) (fun h20 => ?_)
    · replace H := H.1 h20
      refine f_bipush (v := 32) dL_feeds_65 (by decide) ?_
      refine f_ior dL_feeds_67 ?_
      obtain ⟨n21, f22, hn21, gn21, H⟩ := H
      refine f_iast hn21 gn21 dL_feeds_68 ?_
      replace H := H _ rfl
      generalize fup ω19 y4 (.inl (G.1.2.1 0, n21, .inl (upd f22 (Int32.toNatClampNeg (y5 / 4)) (((f16 (Int32.toNatClampNeg (y5 / 4))) <<< (8 &&& 31)) ||| 32)))) = ω23 at H ⊢
      refine f_iinc (j := 4) (v := (y5 + 1)) (ls' := [(5, .int (y5 + 1)), (0, .ref (zad G.1 0)), (1, .ref r1), (3, .int y3), (4, .ref y4)]) dL_feeds_69 rfl rfl (by decide) rfl ?_
      refine f_goto (tgt := 20) dL_feeds_72 (by decide) ?_
      refine f_ls [1, 2, 3, 4, 0] rfl ?_
      exact H
    · replace H := H.2 h20
      refine f_aload_n dL_feeds_54 rfl 1 rfl ?_
      refine f_iload_n dL_feeds_55 rfl 2 rfl ?_
      refine f_iload dL_feeds_56 4 rfl ?_
      refine f_iadd dL_feeds_58 ?_
      have hka30 := H.1
      obtain ⟨a30, t31, f32, ha30, H⟩ := H.2
      refine f_callTi (j1 := 0) (j2 := kb) (av := [.int (y3 + y5)]) rfl ha30 rfl H i_J0_charAt_5068e rfl n_J0_charAt_5068e v_J0_charAt_5068e q_L_22 (by decide) (f_kj hka30) (Nat.le_of_ble_eq_true rfl) dL_feeds_59 (fun v24 o25 ω26 H => ?_)
      refine f_goto (tgt := 67) dL_feeds_62 (by decide) ?_
      refine f_ior dL_feeds_67 ?_
      obtain ⟨n27, f28, hn27, gn27, H⟩ := H
      refine f_iast hn27 gn27 dL_feeds_68 ?_
      replace H := H _ rfl
      generalize fup ω26 y4 (.inl (G.1.2.1 0, n27, .inl (upd f28 (Int32.toNatClampNeg (y5 / 4)) (((f16 (Int32.toNatClampNeg (y5 / 4))) <<< (8 &&& 31)) ||| v24)))) = ω29 at H ⊢
      refine f_iinc (j := 4) (v := (y5 + 1)) (ls' := [(5, .int (y5 + 1)), (0, .ref (zad G.1 0)), (1, .ref r1), (3, .int y3), (4, .ref y4)]) dL_feeds_69 rfl rfl (by decide) rfl ?_
      refine f_goto (tgt := 20) dL_feeds_72 (by decide) ?_
      refine f_ls [1, 2, 3, 4, 0] rfl ?_
      exact H
set_option maxRecDepth 20000 in
set_option maxHeartbeats 2000000 in
theorem b_L_told {G : fG} {l : Launch} {K : Nat → Option zS → fW → Prop} {x0 : Int32} {o : Option zS} {ω : fW} {kb : Nat}
    (H : (1 ≤ kb ∧ ∀ (q1 : Nat) (ω2 : fW), ω q1 = none → ω2 = fup ω q1 (.inr (1, [.null, .int 0, .int 0, .int 0])) → (2 ≤ (kb - 1) ∧ FC G l M_J4_init_da8c8 2 [.ref q1] (o, ω2) (fQv (fun o4 ω5 => ((0 ≤ x0 → (60 ≤ ((kb - 1) - 2) ∧ ∃ fs18 : List Value, ω5 q1 = some (.inr (1, fs18)) ∧ FC G l M_J4_append_15ec4 60 [.ref q1, .ref (G.1.2.2.2.2.1 11)] (o4, ω5) (fQr (fun v7 o8 ω9 => (60 ≤ (((kb - 1) - 2) - 60) ∧ ∃ fs17 : List Value, ω9 v7 = some (.inr (1, fs17)) ∧ FC G l M_J4_append_bf812 60 [.ref v7, .int (zabs x0)] (o8, ω9) (fQr (fun v10 o11 ω12 => (61 ≤ ((((kb - 1) - 2) - 60) - 60) ∧ ∃ fs16 : List Value, ω12 v10 = some (.inr (1, fs16)) ∧ FC G l M_J4_toString_0e30d 61 [.ref v10] (o11, ω12) (fQr (fun v13 o14 ω15 => K v13 o14 ω15)))))))))) ∧ (¬ 0 ≤ x0 → (60 ≤ ((kb - 1) - 2) ∧ ∃ fs30 : List Value, ω5 q1 = some (.inr (1, fs30)) ∧ FC G l M_J4_append_15ec4 60 [.ref q1, .ref (G.1.2.2.2.2.1 10)] (o4, ω5) (fQr (fun v19 o20 ω21 => (60 ≤ (((kb - 1) - 2) - 60) ∧ ∃ fs29 : List Value, ω21 v19 = some (.inr (1, fs29)) ∧ FC G l M_J4_append_bf812 60 [.ref v19, .int (zabs x0)] (o20, ω21) (fQr (fun v22 o23 ω24 => (61 ≤ ((((kb - 1) - 2) - 60) - 60) ∧ ∃ fs28 : List Value, ω24 v22 = some (.inr (1, fs28)) ∧ FC G l M_J4_toString_0e30d 61 [.ref v22] (o23, ω24) (fQr (fun v25 o26 ω27 => K v25 o26 ω27)))))))))))))))) :
    FC G l M_L_told kb [.int x0] (o, ω) (fQr K) := by
  refine FC_of (by decide) (Nat.le_of_ble_eq_true rfl) ?_
  change FV _ _ _ _ _ 0 [(0, .int x0)] [] _
  refine f_new1 cl_L_40 (f_ks H.1) dL_told_0 (fun q1 hq1 => ?_)
  replace H := H.2 q1 _ hq1 rfl
  generalize fup ω q1 (.inr (1, [.null, .int 0, .int 0, .int 0])) = ω2 at H ⊢
  refine f_dup dL_told_3 rfl ?_
  refine f_callIv (j1 := 2) (j2 := ((kb - 1) - 2)) (av := []) rfl H.2 i_J4_init_da8c8 rfl rfl rfl n_J4_init_da8c8 q_L_42 (by decide) (f_kj H.1) (Nat.le_of_ble_eq_true rfl) dL_told_4 (fun o4 ω5 H => ?_)
  refine f_iload_n dL_told_7 rfl 0 rfl ?_
  refine f_if_ge (tgt := 16) dL_told_8 (by decide) (fun h6 => ?_) (fun h6 => ?_)
  · replace H := H.1 h6
    refine f_ldcS (i := 11) rfl dL_told_16 ?_
    have hkfs18 := H.1
    obtain ⟨fs18, hfs18, H⟩ := H.2
    refine f_callVr (C := RJ4) (j1 := 60) (j2 := (((kb - 1) - 2) - 60)) (av := [.ref (G.1.2.2.2.2.1 11)]) rfl hfs18 rfl rfl H i_J4_append_15ec4 rfl n_J4_append_15ec4 v_J4_append_15ec4 q_L_47 (by decide) (f_kj hkfs18) (Nat.le_of_ble_eq_true rfl) dL_told_18 (fun v7 o8 ω9 H => ?_)
    refine f_iload_n dL_told_21 rfl 0 rfl ?_
    refine f_mabs qm_L_51 ms_abs mi_math mc_abs (by decide) (Nat.le_of_ble_eq_true rfl) dL_told_22 ?_
    change FV _ _ _ _ _ _ _ (.int (zabs x0) :: _) _
    have hkfs17 := H.1
    obtain ⟨fs17, hfs17, H⟩ := H.2
    refine f_callVr (C := RJ4) (j1 := 60) (j2 := ((((kb - 1) - 2) - 60) - 60)) (av := [.int (zabs x0)]) rfl hfs17 rfl rfl H i_J4_append_bf812 rfl n_J4_append_bf812 v_J4_append_bf812 q_L_56 (by decide) (f_kj hkfs17) (Nat.le_of_ble_eq_true rfl) dL_told_25 (fun v10 o11 ω12 H => ?_)
    have hkfs16 := H.1
    obtain ⟨fs16, hfs16, H⟩ := H.2
    refine f_callVr (C := RJ4) (j1 := 61) (j2 := (((((kb - 1) - 2) - 60) - 60) - 61)) (av := []) rfl hfs16 rfl rfl H i_J4_toString_0e30d rfl n_J4_toString_0e30d v_J4_toString_0e30d q_L_59 (by decide) (f_kj hkfs16) (Nat.le_of_ble_eq_true rfl) dL_told_28 (fun v13 o14 ω15 H => ?_)
    exact f_aret rfl (Or.inl ⟨_, rfl⟩) dL_told_31 ⟨_, rfl, H⟩
  · replace H := H.2 h6
    refine f_ldcS (i := 10) rfl dL_told_11 ?_
    refine f_goto (tgt := 18) dL_told_13 (by decide) ?_
    have hkfs30 := H.1
    obtain ⟨fs30, hfs30, H⟩ := H.2
    refine f_callVr (C := RJ4) (j1 := 60) (j2 := (((kb - 1) - 2) - 60)) (av := [.ref (G.1.2.2.2.2.1 10)]) rfl hfs30 rfl rfl H i_J4_append_15ec4 rfl n_J4_append_15ec4 v_J4_append_15ec4 q_L_47 (by decide) (f_kj hkfs30) (Nat.le_of_ble_eq_true rfl) dL_told_18 (fun v19 o20 ω21 H => ?_)
    refine f_iload_n dL_told_21 rfl 0 rfl ?_
    refine f_mabs qm_L_51 ms_abs mi_math mc_abs (by decide) (Nat.le_of_ble_eq_true rfl) dL_told_22 ?_
    change FV _ _ _ _ _ _ _ (.int (zabs x0) :: _) _
    have hkfs29 := H.1
    obtain ⟨fs29, hfs29, H⟩ := H.2
    refine f_callVr (C := RJ4) (j1 := 60) (j2 := ((((kb - 1) - 2) - 60) - 60)) (av := [.int (zabs x0)]) rfl hfs29 rfl rfl H i_J4_append_bf812 rfl n_J4_append_bf812 v_J4_append_bf812 q_L_56 (by decide) (f_kj hkfs29) (Nat.le_of_ble_eq_true rfl) dL_told_25 (fun v22 o23 ω24 H => ?_)
    have hkfs28 := H.1
    obtain ⟨fs28, hfs28, H⟩ := H.2
    refine f_callVr (C := RJ4) (j1 := 61) (j2 := (((((kb - 1) - 2) - 60) - 60) - 61)) (av := []) rfl hfs28 rfl rfl H i_J4_toString_0e30d rfl n_J4_toString_0e30d v_J4_toString_0e30d q_L_59 (by decide) (f_kj hkfs28) (Nat.le_of_ble_eq_true rfl) dL_told_28 (fun v25 o26 ω27 H => ?_)
    exact f_aret rfl (Or.inl ⟨_, rfl⟩) dL_told_31 ⟨_, rfl, H⟩
abbrev L_L_holds_25 (G : fG) (l : Launch) (K : Int32 → Option zS → fW → Prop) (y1 : Int32) (y2 : Int32) (y3 : Int32) (y4 : Int32) (y5 : Int32) (y6 : Int32) (y7 : Int32) (y8 : Int32) (o : Option zS) (ω : fW) (kb : Nat) : Prop :=
  FV G l M_L_holds kb (fQi K) 25 [(0, .ref (zad G.1 0)), (1, .int y1), (2, .int y2), (3, .int y3), (4, .int y4), (5, .int y5), (6, .int y6), (7, .int y7), (8, .int y8)] [] (o, ω)
abbrev L_L_holds_53 (G : fG) (l : Launch) (K : Int32 → Option zS → fW → Prop) (y1 : Int32) (y2 : Int32) (y3 : Int32) (y4 : Int32) (y5 : Int32) (y6 : Int32) (y7 : Int32) (y8 : Int32) (z0 : Int32) (o : Option zS) (ω : fW) (kb : Nat) : Prop :=
  FV G l M_L_holds kb (fQi K) 53 [(0, .ref (zad G.1 0)), (1, .int y1), (2, .int y2), (3, .int y3), (4, .int y4), (5, .int y5), (6, .int y6), (7, .int y7), (8, .int y8)] [.int z0] (o, ω)
abbrev L_L_holds_58 (G : fG) (l : Launch) (K : Int32 → Option zS → fW → Prop) (y1 : Int32) (y2 : Int32) (y3 : Int32) (y4 : Int32) (y5 : Int32) (y6 : Int32) (y7 : Int32) (y8 : Int32) (y9 : Int32) (y10 : Int32) (o : Option zS) (ω : fW) (kb : Nat) : Prop :=
  FV G l M_L_holds kb (fQi K) 58 [(0, .ref (zad G.1 0)), (1, .int y1), (2, .int y2), (3, .int y3), (4, .int y4), (5, .int y5), (6, .int y6), (7, .int y7), (8, .int y8), (9, .int y9), (10, .int y10)] [] (o, ω)
abbrev L_L_holds_100 (G : fG) (l : Launch) (K : Int32 → Option zS → fW → Prop) (y1 : Int32) (y2 : Int32) (y3 : Int32) (y4 : Int32) (y6 : Int32) (y7 : Int32) (y8 : Int32) (y9 : Int32) (y10 : Int32) (y11 : Int32) (y12 : Int32) (z0 : Int32) (z1 : Int32) (o : Option zS) (ω : fW) (kb : Nat) : Prop :=
  FV G l M_L_holds kb (fQi K) 100 [(0, .ref (zad G.1 0)), (1, .int y1), (2, .int y2), (3, .int y3), (4, .int y4), (6, .int y6), (7, .int y7), (8, .int y8), (9, .int y9), (10, .int y10), (11, .int y11), (12, .int y12)] [.int z0, .int z1] (o, ω)
abbrev L_L_holds_115 (G : fG) (l : Launch) (K : Int32 → Option zS → fW → Prop) (y1 : Int32) (y2 : Int32) (y3 : Int32) (y4 : Int32) (y5 : Int32) (y7 : Int32) (y8 : Int32) (y9 : Int32) (y10 : Int32) (y11 : Int32) (y12 : Int32) (z0 : Int32) (z1 : Int32) (o : Option zS) (ω : fW) (kb : Nat) : Prop :=
  FV G l M_L_holds kb (fQi K) 115 [(0, .ref (zad G.1 0)), (1, .int y1), (2, .int y2), (3, .int y3), (4, .int y4), (5, .int y5), (7, .int y7), (8, .int y8), (9, .int y9), (10, .int y10), (11, .int y11), (12, .int y12)] [.int z0, .int z1] (o, ω)
abbrev L_L_holds_128 (G : fG) (l : Launch) (K : Int32 → Option zS → fW → Prop) (y1 : Int32) (y2 : Int32) (y3 : Int32) (y4 : Int32) (y5 : Int32) (y6 : Int32) (y7 : Int32) (y8 : Int32) (y9 : Int32) (y10 : Int32) (y11 : Int32) (y12 : Int32) (z0 : Int32) (o : Option zS) (ω : fW) (kb : Nat) : Prop :=
  FV G l M_L_holds kb (fQi K) 128 [(0, .ref (zad G.1 0)), (1, .int y1), (2, .int y2), (3, .int y3), (4, .int y4), (5, .int y5), (6, .int y6), (7, .int y7), (8, .int y8), (9, .int y9), (10, .int y10), (11, .int y11), (12, .int y12)] [.int z0] (o, ω)
abbrev L_L_holds_144 (G : fG) (l : Launch) (K : Int32 → Option zS → fW → Prop) (y1 : Int32) (y2 : Int32) (y3 : Int32) (y4 : Int32) (y5 : Int32) (y6 : Int32) (y7 : Int32) (y8 : Int32) (y9 : Int32) (y10 : Int32) (y11 : Int32) (y12 : Int32) (z0 : Int32) (o : Option zS) (ω : fW) (kb : Nat) : Prop :=
  FV G l M_L_holds kb (fQi K) 144 [(0, .ref (zad G.1 0)), (1, .int y1), (2, .int y2), (3, .int y3), (4, .int y4), (5, .int y5), (6, .int y6), (7, .int y7), (8, .int y8), (9, .int y9), (10, .int y10), (11, .int y11), (12, .int y12)] [.int z0] (o, ω)
abbrev L_L_holds_156 (G : fG) (l : Launch) (K : Int32 → Option zS → fW → Prop) (y1 : Int32) (y2 : Int32) (y3 : Int32) (y4 : Int32) (y5 : Int32) (y6 : Int32) (y7 : Int32) (y8 : Int32) (y9 : Int32) (y10 : Int32) (y11 : Int32) (y12 : Int32) (z0 : Int32) (z1 : Int32) (o : Option zS) (ω : fW) (kb : Nat) : Prop :=
  FV G l M_L_holds kb (fQi K) 156 [(0, .ref (zad G.1 0)), (1, .int y1), (2, .int y2), (3, .int y3), (4, .int y4), (5, .int y5), (6, .int y6), (7, .int y7), (8, .int y8), (9, .int y9), (10, .int y10), (11, .int y11), (12, .int y12)] [.int z0, .int z1] (o, ω)
abbrev L_L_holds_171 (G : fG) (l : Launch) (K : Int32 → Option zS → fW → Prop) (y1 : Int32) (y2 : Int32) (y3 : Int32) (y4 : Int32) (y5 : Int32) (y6 : Int32) (y7 : Int32) (y8 : Int32) (y9 : Int32) (y10 : Int32) (y11 : Int32) (y12 : Int32) (o : Option zS) (ω : fW) (kb : Nat) : Prop :=
  FV G l M_L_holds kb (fQi K) 171 [(0, .ref (zad G.1 0)), (1, .int y1), (2, .int y2), (3, .int y3), (4, .int y4), (5, .int y5), (6, .int y6), (7, .int y7), (8, .int y8), (9, .int y9), (10, .int y10), (11, .int y11), (12, .int y12)] [] (o, ω)
abbrev L_L_holds_176 (G : fG) (l : Launch) (K : Int32 → Option zS → fW → Prop) (y1 : Int32) (y2 : Int32) (y3 : Int32) (y4 : Int32) (y5 : Int32) (y6 : Int32) (y7 : Int32) (y8 : Int32) (y9 : Int32) (y10 : Int32) (y11 : Int32) (y12 : Int32) (z0 : Int32) (o : Option zS) (ω : fW) (kb : Nat) : Prop :=
  FV G l M_L_holds kb (fQi K) 176 [(0, .ref (zad G.1 0)), (1, .int y1), (2, .int y2), (3, .int y3), (4, .int y4), (5, .int y5), (6, .int y6), (7, .int y7), (8, .int y8), (9, .int y9), (10, .int y10), (11, .int y11), (12, .int y12)] [.int z0] (o, ω)
abbrev L_L_holds_187 (G : fG) (l : Launch) (K : Int32 → Option zS → fW → Prop) (y1 : Int32) (y2 : Int32) (y3 : Int32) (y4 : Int32) (y5 : Int32) (y6 : Int32) (y7 : Int32) (y8 : Int32) (y9 : Int32) (y10 : Int32) (y11 : Int32) (y12 : Int32) (z0 : Int32) (z1 : Int32) (o : Option zS) (ω : fW) (kb : Nat) : Prop :=
  FV G l M_L_holds kb (fQi K) 187 [(0, .ref (zad G.1 0)), (1, .int y1), (2, .int y2), (3, .int y3), (4, .int y4), (5, .int y5), (6, .int y6), (7, .int y7), (8, .int y8), (9, .int y9), (10, .int y10), (11, .int y11), (12, .int y12)] [.int z0, .int z1] (o, ω)
abbrev L_L_holds_190 (G : fG) (l : Launch) (K : Int32 → Option zS → fW → Prop) (o : Option zS) (ω : fW) (kb : Nat) : Prop :=
  FV G l M_L_holds kb (fQi K) 190 [] [] (o, ω)
abbrev L_L_holds_213 (G : fG) (l : Launch) (K : Int32 → Option zS → fW → Prop) (y1 : Int32) (y2 : Int32) (y3 : Int32) (y4 : Int32) (y5 : Int32) (y6 : Int32) (y7 : Int32) (y8 : Int32) (y9 : Int32) (y10 : Int32) (o : Option zS) (ω : fW) (kb : Nat) : Prop :=
  FV G l M_L_holds kb (fQi K) 213 [(0, .ref (zad G.1 0)), (1, .int y1), (2, .int y2), (3, .int y3), (4, .int y4), (5, .int y5), (6, .int y6), (7, .int y7), (8, .int y8), (9, .int y9), (10, .int y10)] [] (o, ω)
abbrev L_L_holds_228 (G : fG) (l : Launch) (K : Int32 → Option zS → fW → Prop) (y1 : Int32) (y2 : Int32) (y3 : Int32) (y4 : Int32) (y5 : Int32) (y6 : Int32) (y7 : Int32) (y8 : Int32) (o : Option zS) (ω : fW) (kb : Nat) : Prop :=
  FV G l M_L_holds kb (fQi K) 228 [(0, .ref (zad G.1 0)), (1, .int y1), (2, .int y2), (3, .int y3), (4, .int y4), (5, .int y5), (6, .int y6), (7, .int y7), (8, .int y8)] [] (o, ω)
abbrev L_L_holds_303 (G : fG) (l : Launch) (K : Int32 → Option zS → fW → Prop) (o : Option zS) (ω : fW) (kb : Nat) : Prop :=
  FV G l M_L_holds kb (fQi K) 303 [] [] (o, ω)
abbrev L_L_holds_372 (G : fG) (l : Launch) (K : Int32 → Option zS → fW → Prop) (o : Option zS) (ω : fW) (kb : Nat) : Prop :=
  FV G l M_L_holds kb (fQi K) 372 [] [] (o, ω)
abbrev L_L_holds_388 (G : fG) (l : Launch) (K : Int32 → Option zS → fW → Prop) (y1 : Int32) (y2 : Int32) (y3 : Int32) (y6 : Int32) (z0 : Int32) (z1 : Int32) (o : Option zS) (ω : fW) (kb : Nat) : Prop :=
  FV G l M_L_holds kb (fQi K) 388 [(0, .ref (zad G.1 0)), (1, .int y1), (2, .int y2), (3, .int y3), (6, .int y6)] [.int z0, .int z1] (o, ω)
abbrev L_L_holds_408 (G : fG) (l : Launch) (K : Int32 → Option zS → fW → Prop) (y1 : Int32) (y2 : Int32) (y3 : Int32) (y6 : Int32) (y8 : Int32) (z0 : Int32) (o : Option zS) (ω : fW) (kb : Nat) : Prop :=
  FV G l M_L_holds kb (fQi K) 408 [(0, .ref (zad G.1 0)), (1, .int y1), (2, .int y2), (3, .int y3), (6, .int y6), (8, .int y8)] [.int z0] (o, ω)
abbrev L_L_holds_423 (G : fG) (l : Launch) (K : Int32 → Option zS → fW → Prop) (y1 : Int32) (y2 : Int32) (y3 : Int32) (y6 : Int32) (y8 : Int32) (z0 : Int32) (z1 : Int32) (o : Option zS) (ω : fW) (kb : Nat) : Prop :=
  FV G l M_L_holds kb (fQi K) 423 [(0, .ref (zad G.1 0)), (1, .int y1), (2, .int y2), (3, .int y3), (6, .int y6), (8, .int y8)] [.int z0, .int z1] (o, ω)
abbrev L_L_holds_426 (G : fG) (l : Launch) (K : Int32 → Option zS → fW → Prop) (y1 : Int32) (y2 : Int32) (y3 : Int32) (y6 : Int32) (y8 : Int32) (o : Option zS) (ω : fW) (kb : Nat) : Prop :=
  FV G l M_L_holds kb (fQi K) 426 [(0, .ref (zad G.1 0)), (1, .int y1), (2, .int y2), (3, .int y3), (6, .int y6), (8, .int y8)] [] (o, ω)
abbrev L_L_holds_441 (G : fG) (l : Launch) (K : Int32 → Option zS → fW → Prop) (o : Option zS) (ω : fW) (kb : Nat) : Prop :=
  FV G l M_L_holds kb (fQi K) 441 [] [] (o, ω)
abbrev L_L_holds_443 (G : fG) (l : Launch) (K : Int32 → Option zS → fW → Prop) (y1 : Int32) (y2 : Int32) (y3 : Int32) (y6 : Int32) (o : Option zS) (ω : fW) (kb : Nat) : Prop :=
  FV G l M_L_holds kb (fQi K) 443 [(0, .ref (zad G.1 0)), (1, .int y1), (2, .int y2), (3, .int y3), (6, .int y6)] [] (o, ω)
abbrev L_L_holds_479 (G : fG) (l : Launch) (K : Int32 → Option zS → fW → Prop) (o : Option zS) (ω : fW) (kb : Nat) : Prop :=
  FV G l M_L_holds kb (fQi K) 479 [] [] (o, ω)
abbrev L_L_holds_483 (G : fG) (l : Launch) (K : Int32 → Option zS → fW → Prop) (o : Option zS) (ω : fW) (kb : Nat) : Prop :=
  FV G l M_L_holds kb (fQi K) 483 [] [] (o, ω)
abbrev L_L_holds_484 (G : fG) (l : Launch) (K : Int32 → Option zS → fW → Prop) (z0 : Int32) (o : Option zS) (ω : fW) (kb : Nat) : Prop :=
  FV G l M_L_holds kb (fQi K) 484 [] [.int z0] (o, ω)
set_option maxRecDepth 20000 in
set_option maxHeartbeats 2000000 in
theorem b_L_holds {G : fG} {l : Launch} {K : Int32 → Option zS → fW → Prop} {x1 : Int32} {x2 : Int32} {σ : zS} {ω : fW} {kb : Nat}
    (H : (1 ≤ kb ∧ ∀ n : Nat, CT (gB G.1 n) l M_X6_setting 1 [.ref (zad G.1 0), .int 2] σ (zQi (fun v1 σ2 => (1 ≤ (kb - 1) ∧ ∀ n : Nat, CT (gB G.1 n) l M_X6_setting 1 [.ref (zad G.1 0), .int 1] σ2 (zQi (fun v3 σ4 => L_L_holds_25 G l K x1 x2 v1 v3 0 0 0 0 (some σ4) ω ((kb - 1) - 1)) (fun _ _ => False)))) (fun _ _ => False)))) :
    FC G l M_L_holds kb [.ref (zad G.1 0), .int x1, .int x2] ((some σ), ω) (fQi K) := by
  refine FC_of (by decide) (Nat.le_of_ble_eq_true rfl) ?_
  change FV _ _ _ _ _ 0 [(0, .ref (zad G.1 0)), (1, .int x1), (2, .int x2)] [] _
  refine f_aload_n dL_holds_0 rfl 0 rfl ?_
  refine f_iconst (v := 2) dL_holds_1 (by decide) ?_
  refine f_callCi (oo := 0) (j1 := 1) (j2 := (kb - 1)) (av := [.int 2]) rfl rfl (by decide) rfl rfl H.2 i_X6_setting rfl n_X6_setting v_X6_setting q_L_131 (by decide) (f_kj H.1) (Nat.le_of_ble_eq_true rfl) dL_holds_2 (fun v1 σ2 H => ?_)
  refine f_istore_n (ls' := [(3, .int v1), (0, .ref (zad G.1 0)), (1, .int x1), (2, .int x2)]) dL_holds_5 rfl (by decide) rfl ?_
  refine f_aload_n dL_holds_6 rfl 1 rfl ?_
  refine f_iconst (v := 1) dL_holds_7 (by decide) ?_
  refine f_callCi (oo := 0) (j1 := 1) (j2 := ((kb - 1) - 1)) (av := [.int 1]) rfl rfl (by decide) rfl rfl H.2 i_X6_setting rfl n_X6_setting v_X6_setting q_L_131 (by decide) (f_kj H.1) (Nat.le_of_ble_eq_true rfl) dL_holds_8 (fun v3 σ4 H => ?_)
  refine f_istore (ls' := [(4, .int v3), (3, .int v1), (0, .ref (zad G.1 0)), (1, .int x1), (2, .int x2)]) dL_holds_11 (by decide) rfl ?_
  refine f_iconst (v := 0) dL_holds_13 (by decide) ?_
  refine f_istore (ls' := [(5, .int 0), (4, .int v3), (3, .int v1), (0, .ref (zad G.1 0)), (1, .int x1), (2, .int x2)]) dL_holds_14 (by decide) rfl ?_
  refine f_iconst (v := 0) dL_holds_16 (by decide) ?_
  refine f_istore (ls' := [(6, .int 0), (5, .int 0), (4, .int v3), (3, .int v1), (0, .ref (zad G.1 0)), (1, .int x1), (2, .int x2)]) dL_holds_17 (by decide) rfl ?_
  refine f_iconst (v := 0) dL_holds_19 (by decide) ?_
  refine f_istore (ls' := [(7, .int 0), (6, .int 0), (5, .int 0), (4, .int v3), (3, .int v1), (0, .ref (zad G.1 0)), (1, .int x1), (2, .int x2)]) dL_holds_20 (by decide) rfl ?_
  refine f_iconst (v := 0) dL_holds_22 (by decide) ?_
  refine f_istore (ls' := [(8, .int 0), (7, .int 0), (6, .int 0), (5, .int 0), (4, .int v3), (3, .int v1), (0, .ref (zad G.1 0)), (1, .int x1), (2, .int x2)]) dL_holds_23 (by decide) rfl ?_
  refine f_ls [6, 7, 8, 5, 4, 3, 2, 1, 0] rfl ?_
  exact H
set_option maxRecDepth 20000 in
set_option maxHeartbeats 2000000 in
theorem b_L_holds_25 {G : fG} {l : Launch} {K : Int32 → Option zS → fW → Prop} {y1 : Int32} {y2 : Int32} {y3 : Int32} {y4 : Int32} {y5 : Int32} {y6 : Int32} {y7 : Int32} {y8 : Int32} {o : Option zS} {ω : fW} {kb : Nat}
    (H : ((y3 ≤ y8 → L_L_holds_228 G l K y1 y2 y3 y4 y5 y6 y7 0 o ω kb) ∧ (¬ y3 ≤ y8 → (∃ σ5 : zS, o = some σ5 ∧ (1 ≤ kb ∧ ∀ n : Nat, CT (gB G.1 n) l M_X6_shownFrom 1 [.ref (zad G.1 0), .int y8] σ5 (zQi (fun v2 σ3 => ((¬ ((v2 >>> ((y1 + 6) &&& 31)) &&& 1) = 1 → L_L_holds_53 G l K y1 y2 y3 y4 y5 y6 y7 y8 0 (some σ3) ω (kb - 1)) ∧ (((v2 >>> ((y1 + 6) &&& 31)) &&& 1) = 1 → L_L_holds_53 G l K y1 y2 y3 y4 y5 y6 y7 y8 1 (some σ3) ω (kb - 1)))) (fun _ _ => False))))))) :
    L_L_holds_25 G l K y1 y2 y3 y4 y5 y6 y7 y8 o ω kb := by
  refine f_iload dL_holds_25 8 rfl ?_
  refine f_iload_n dL_holds_27 rfl 3 rfl ?_
  refine f_icmp_ge (tgt := 225) dL_holds_28 (by decide) (fun h1 => ?_) (fun h1 => ?_)
  · replace H := H.1 h1
    refine f_iconst (v := 0) dL_holds_225 (by decide) ?_
    refine f_istore (ls' := [(8, .int 0), (0, .ref (zad G.1 0)), (1, .int y1), (2, .int y2), (3, .int y3), (4, .int y4), (5, .int y5), (6, .int y6), (7, .int y7)]) dL_holds_226 (by decide) rfl ?_
    refine f_ls [1, 2, 3, 4, 5, 6, 7, 8, 0] rfl ?_
    exact H
  · replace H := H.2 h1
    refine f_aload_n dL_holds_31 rfl 0 rfl ?_
    refine f_iload dL_holds_32 8 rfl ?_
    obtain ⟨σ5, he, H⟩ := H
    subst he
    refine f_callCi (oo := 0) (j1 := 1) (j2 := (kb - 1)) (av := [.int y8]) rfl rfl (by decide) rfl rfl H.2 i_X6_shownFrom rfl n_X6_shownFrom v_X6_shownFrom q_L_174 (by decide) (f_kj H.1) (Nat.le_of_ble_eq_true rfl) dL_holds_34 (fun v2 σ3 H => ?_)
    refine f_iload_n dL_holds_37 rfl 1 rfl ?_
    refine f_bipush (v := 6) dL_holds_38 (by decide) ?_
    refine f_iadd dL_holds_40 ?_
    refine f_ishr dL_holds_41 ?_
    refine f_iconst (v := 1) dL_holds_42 (by decide) ?_
    refine f_iand dL_holds_43 ?_
    refine f_iconst (v := 1) dL_holds_44 (by decide) ?_
    refine f_icmp_ne (tgt := 52) dL_holds_45 (by decide) (fun h4 => ?_) (fun h4 => ?_)
    · replace H := H.1 h4
      refine f_iconst (v := 0) dL_holds_52 (by decide) ?_
      refine f_ls [0, 1, 2, 3, 4, 5, 6, 7, 8] rfl ?_
      exact H
    · replace H := H.2 h4
      refine f_iconst (v := 1) dL_holds_48 (by decide) ?_
      refine f_goto (tgt := 53) dL_holds_49 (by decide) ?_
      refine f_ls [0, 1, 2, 3, 4, 5, 6, 7, 8] rfl ?_
      exact H
set_option maxRecDepth 20000 in
set_option maxHeartbeats 2000000 in
theorem b_L_holds_53 {G : fG} {l : Launch} {K : Int32 → Option zS → fW → Prop} {y1 : Int32} {y2 : Int32} {y3 : Int32} {y4 : Int32} {y5 : Int32} {y6 : Int32} {y7 : Int32} {y8 : Int32} {z0 : Int32} {o : Option zS} {ω : fW} {kb : Nat}
    (H : L_L_holds_58 G l K y1 y2 y3 y4 y5 y6 y7 y8 z0 0 o ω kb) :
    L_L_holds_53 G l K y1 y2 y3 y4 y5 y6 y7 y8 z0 o ω kb := by
  refine f_istore (ls' := [(9, .int z0), (0, .ref (zad G.1 0)), (1, .int y1), (2, .int y2), (3, .int y3), (4, .int y4), (5, .int y5), (6, .int y6), (7, .int y7), (8, .int y8)]) dL_holds_53 (by decide) rfl ?_
  refine f_iconst (v := 0) dL_holds_55 (by decide) ?_
  refine f_istore (ls' := [(10, .int 0), (9, .int z0), (0, .ref (zad G.1 0)), (1, .int y1), (2, .int y2), (3, .int y3), (4, .int y4), (5, .int y5), (6, .int y6), (7, .int y7), (8, .int y8)]) dL_holds_56 (by decide) rfl ?_
  refine f_ls [2, 3, 4, 5, 6, 7, 8, 9, 10, 1, 0] rfl ?_
  exact H
set_option maxRecDepth 20000 in
set_option maxHeartbeats 2000000 in
theorem b_L_holds_58 {G : fG} {l : Launch} {K : Int32 → Option zS → fW → Prop} {y1 : Int32} {y2 : Int32} {y3 : Int32} {y4 : Int32} {y5 : Int32} {y6 : Int32} {y7 : Int32} {y8 : Int32} {y9 : Int32} {y10 : Int32} {o : Option zS} {ω : fW} {kb : Nat}
    (H : ((y4 ≤ y10 → L_L_holds_25 G l K y1 y2 y3 y4 y5 y6 y7 (y8 + 1) o ω kb) ∧ (¬ y4 ≤ y10 → (∃ σ7 : zS, o = some σ7 ∧ (1 ≤ kb ∧ ∀ n : Nat, CT (gB G.1 n) l M_X6_seen 1 [.ref (zad G.1 0), .int y1, .int y8, .int y10] σ7 (zQi (fun v2 σ3 => (1 ≤ (kb - 1) ∧ ∀ n : Nat, CT (gB G.1 n) l M_X6_why 1 [.ref (zad G.1 0), .int y1, .int y2, .int y8, .int y10] σ3 (zQi (fun v4 σ5 => ((v2 < 0 → L_L_holds_100 G l K y1 y2 y3 y4 y6 y7 y8 y9 y10 v2 v4 0 y5 (some σ5) ω ((kb - 1) - 1)) ∧ (¬ v2 < 0 → L_L_holds_100 G l K y1 y2 y3 y4 y6 y7 y8 y9 y10 v2 v4 1 y5 (some σ5) ω ((kb - 1) - 1)))) (fun _ _ => False)))) (fun _ _ => False))))))) :
    L_L_holds_58 G l K y1 y2 y3 y4 y5 y6 y7 y8 y9 y10 o ω kb := by
  refine f_iload dL_holds_58 10 rfl ?_
  refine f_iload dL_holds_60 4 rfl ?_
  refine f_icmp_ge (tgt := 219) dL_holds_62 (by decide) (fun h1 => ?_) (fun h1 => ?_)
  · replace H := H.1 h1
    refine f_iinc (j := 8) (v := (y8 + 1)) (ls' := [(8, .int (y8 + 1)), (0, .ref (zad G.1 0)), (1, .int y1), (2, .int y2), (3, .int y3), (4, .int y4), (5, .int y5), (6, .int y6), (7, .int y7), (9, .int y9), (10, .int y10)]) dL_holds_219 rfl rfl (by decide) rfl ?_
    refine f_goto (tgt := 25) dL_holds_222 (by decide) ?_
    refine f_ls [1, 2, 3, 4, 5, 6, 7, 8, 0] rfl ?_
    exact H
  · replace H := H.2 h1
    refine f_aload_n dL_holds_65 rfl 0 rfl ?_
    refine f_iload_n dL_holds_66 rfl 1 rfl ?_
    refine f_iload dL_holds_67 8 rfl ?_
    refine f_iload dL_holds_69 10 rfl ?_
    obtain ⟨σ7, he, H⟩ := H
    subst he
    refine f_callCi (oo := 0) (j1 := 1) (j2 := (kb - 1)) (av := [.int y1, .int y8, .int y10]) rfl rfl (by decide) rfl rfl H.2 i_X6_seen rfl n_X6_seen v_X6_seen q_L_177 (by decide) (f_kj H.1) (Nat.le_of_ble_eq_true rfl) dL_holds_71 (fun v2 σ3 H => ?_)
    refine f_istore (ls' := [(11, .int v2), (0, .ref (zad G.1 0)), (1, .int y1), (2, .int y2), (3, .int y3), (4, .int y4), (5, .int y5), (6, .int y6), (7, .int y7), (8, .int y8), (9, .int y9), (10, .int y10)]) dL_holds_74 (by decide) rfl ?_
    refine f_aload_n dL_holds_76 rfl 1 rfl ?_
    refine f_iload_n dL_holds_77 rfl 2 rfl ?_
    refine f_iload_n dL_holds_78 rfl 3 rfl ?_
    refine f_iload dL_holds_79 9 rfl ?_
    refine f_iload dL_holds_81 11 rfl ?_
    refine f_callCi (oo := 0) (j1 := 1) (j2 := ((kb - 1) - 1)) (av := [.int y1, .int y2, .int y8, .int y10]) rfl rfl (by decide) rfl rfl H.2 i_X6_why rfl n_X6_why v_X6_why q_L_180 (by decide) (f_kj H.1) (Nat.le_of_ble_eq_true rfl) dL_holds_83 (fun v4 σ5 H => ?_)
    refine f_istore (ls' := [(12, .int v4), (11, .int v2), (0, .ref (zad G.1 0)), (1, .int y1), (2, .int y2), (3, .int y3), (4, .int y4), (5, .int y5), (6, .int y6), (7, .int y7), (8, .int y8), (9, .int y9), (10, .int y10)]) dL_holds_86 (by decide) rfl ?_
    refine f_iload dL_holds_88 7 rfl ?_
    refine f_iload dL_holds_90 1 rfl ?_
    refine f_if_lt (tgt := 99) dL_holds_92 (by decide) (fun h6 => ?_) (fun h6 => ?_)
    · replace H := H.1 h6
      refine f_iconst (v := 0) dL_holds_99 (by decide) ?_
      refine f_ls [2, 3, 4, 5, 6, 8, 9, 10, 11, 12, 1, 0] rfl ?_
      exact H
    · replace H := H.2 h6
      refine f_iconst (v := 1) dL_holds_95 (by decide) ?_
      refine f_goto (tgt := 100) dL_holds_96 (by decide) ?_
      refine f_ls [2, 3, 4, 5, 6, 8, 9, 10, 11, 12, 1, 0] rfl ?_
      exact H
set_option maxRecDepth 20000 in
set_option maxHeartbeats 2000000 in
theorem b_L_holds_100 {G : fG} {l : Launch} {K : Int32 → Option zS → fW → Prop} {y1 : Int32} {y2 : Int32} {y3 : Int32} {y4 : Int32} {y6 : Int32} {y7 : Int32} {y8 : Int32} {y9 : Int32} {y10 : Int32} {y11 : Int32} {y12 : Int32} {z0 : Int32} {z1 : Int32} {o : Option zS} {ω : fW} {kb : Nat}
    (H : ((¬ y12 = 0 → L_L_holds_115 G l K y1 y2 y3 y4 (z1 + z0) y7 y8 y9 y10 y11 y12 0 y6 o ω kb) ∧ (y12 = 0 → L_L_holds_115 G l K y1 y2 y3 y4 (z1 + z0) y7 y8 y9 y10 y11 y12 1 y6 o ω kb))) :
    L_L_holds_100 G l K y1 y2 y3 y4 y6 y7 y8 y9 y10 y11 y12 z0 z1 o ω kb := by
  refine f_iadd dL_holds_100 ?_
  refine f_istore (ls' := [(5, .int (z1 + z0)), (0, .ref (zad G.1 0)), (1, .int y1), (2, .int y2), (3, .int y3), (4, .int y4), (6, .int y6), (7, .int y7), (8, .int y8), (9, .int y9), (10, .int y10), (11, .int y11), (12, .int y12)]) dL_holds_101 (by decide) rfl ?_
  refine f_iload dL_holds_103 6 rfl ?_
  refine f_iload dL_holds_105 12 rfl ?_
  refine f_if_ne (tgt := 114) dL_holds_107 (by decide) (fun h1 => ?_) (fun h1 => ?_)
  · replace H := H.1 h1
    refine f_iconst (v := 0) dL_holds_114 (by decide) ?_
    refine f_ls [1, 2, 3, 4, 5, 0, 7, 8, 9, 10, 11, 12] rfl ?_
    exact H
  · replace H := H.2 h1
    refine f_iconst (v := 1) dL_holds_110 (by decide) ?_
    refine f_goto (tgt := 115) dL_holds_111 (by decide) ?_
    refine f_ls [1, 2, 3, 4, 5, 0, 7, 8, 9, 10, 11, 12] rfl ?_
    exact H
set_option maxRecDepth 20000 in
set_option maxHeartbeats 2000000 in
theorem b_L_holds_115 {G : fG} {l : Launch} {K : Int32 → Option zS → fW → Prop} {y1 : Int32} {y2 : Int32} {y3 : Int32} {y4 : Int32} {y5 : Int32} {y7 : Int32} {y8 : Int32} {y9 : Int32} {y10 : Int32} {y11 : Int32} {y12 : Int32} {z0 : Int32} {z1 : Int32} {o : Option zS} {ω : fW} {kb : Nat}
    (H : ((y11 < 0 → L_L_holds_128 G l K y1 y2 y3 y4 y5 (z1 + z0) y7 y8 y9 y10 y11 y12 0 o ω kb) ∧ (¬ y11 < 0 → L_L_holds_128 G l K y1 y2 y3 y4 y5 (z1 + z0) y7 y8 y9 y10 y11 y12 1 o ω kb))) :
    L_L_holds_115 G l K y1 y2 y3 y4 y5 y7 y8 y9 y10 y11 y12 z0 z1 o ω kb := by
  refine f_iadd dL_holds_115 ?_
  refine f_istore (ls' := [(6, .int (z1 + z0)), (0, .ref (zad G.1 0)), (1, .int y1), (2, .int y2), (3, .int y3), (4, .int y4), (5, .int y5), (7, .int y7), (8, .int y8), (9, .int y9), (10, .int y10), (11, .int y11), (12, .int y12)]) dL_holds_116 (by decide) rfl ?_
  refine f_iload dL_holds_118 11 rfl ?_
  refine f_if_lt (tgt := 127) dL_holds_120 (by decide) (fun h1 => ?_) (fun h1 => ?_)
  · replace H := H.1 h1
    refine f_iconst (v := 0) dL_holds_127 (by decide) ?_
    refine f_ls [1, 2, 3, 4, 5, 6, 0, 7, 8, 9, 10, 11, 12] rfl ?_
    exact H
  · replace H := H.2 h1
    refine f_iconst (v := 1) dL_holds_123 (by decide) ?_
    refine f_goto (tgt := 128) dL_holds_124 (by decide) ?_
    refine f_ls [1, 2, 3, 4, 5, 6, 0, 7, 8, 9, 10, 11, 12] rfl ?_
    exact H
set_option maxRecDepth 20000 in
set_option maxHeartbeats 2000000 in
theorem b_L_holds_128 {G : fG} {l : Launch} {K : Int32 → Option zS → fW → Prop} {y1 : Int32} {y2 : Int32} {y3 : Int32} {y4 : Int32} {y5 : Int32} {y6 : Int32} {y7 : Int32} {y8 : Int32} {y9 : Int32} {y10 : Int32} {y11 : Int32} {y12 : Int32} {z0 : Int32} {o : Option zS} {ω : fW} {kb : Nat}
    (H : ((¬ z0 = y9 → L_L_holds_190 G l K o ω kb) ∧ (z0 = y9 → ((¬ y12 = 1 → L_L_holds_144 G l K y1 y2 y3 y4 y5 y6 y7 y8 y9 y10 y11 y12 0 o ω kb) ∧ (y12 = 1 → L_L_holds_144 G l K y1 y2 y3 y4 y5 y6 y7 y8 y9 y10 y11 y12 1 o ω kb))))) :
    L_L_holds_128 G l K y1 y2 y3 y4 y5 y6 y7 y8 y9 y10 y11 y12 z0 o ω kb := by
  refine f_iload dL_holds_128 9 rfl ?_
  refine f_icmp_ne (tgt := 190) dL_holds_130 (by decide) (fun h1 => ?_) (fun h1 => ?_)
  · replace H := H.1 h1
    refine f_ls [] rfl ?_
    exact H
  · replace H := H.2 h1
    refine f_iload dL_holds_133 12 rfl ?_
    refine f_iconst (v := 1) dL_holds_135 (by decide) ?_
    refine f_icmp_ne (tgt := 143) dL_holds_136 (by decide) (fun h2 => ?_) (fun h2 => ?_)
    · replace H := H.1 h2
      refine f_iconst (v := 0) dL_holds_143 (by decide) ?_
      refine f_ls [0, 1, 2, 3, 4, 5, 6, 7, 8, 9, 10, 11, 12] rfl ?_
      exact H
    · replace H := H.2 h2
      refine f_iconst (v := 1) dL_holds_139 (by decide) ?_
      refine f_goto (tgt := 144) dL_holds_140 (by decide) ?_
      refine f_ls [0, 1, 2, 3, 4, 5, 6, 7, 8, 9, 10, 11, 12] rfl ?_
      exact H
set_option maxRecDepth 20000 in
set_option maxHeartbeats 2000000 in
theorem b_L_holds_144 {G : fG} {l : Launch} {K : Int32 → Option zS → fW → Prop} {y1 : Int32} {y2 : Int32} {y3 : Int32} {y4 : Int32} {y5 : Int32} {y6 : Int32} {y7 : Int32} {y8 : Int32} {y9 : Int32} {y10 : Int32} {y11 : Int32} {y12 : Int32} {z0 : Int32} {o : Option zS} {ω : fW} {kb : Nat}
    (H : ((¬ y11 = (-2) → L_L_holds_156 G l K y1 y2 y3 y4 y5 y6 y7 y8 y9 y10 y11 y12 0 z0 o ω kb) ∧ (y11 = (-2) → L_L_holds_156 G l K y1 y2 y3 y4 y5 y6 y7 y8 y9 y10 y11 y12 1 z0 o ω kb))) :
    L_L_holds_144 G l K y1 y2 y3 y4 y5 y6 y7 y8 y9 y10 y11 y12 z0 o ω kb := by
  refine f_iload dL_holds_144 11 rfl ?_
  refine f_bipush (v := (-2)) dL_holds_146 (by decide) ?_
  refine f_icmp_ne (tgt := 155) dL_holds_148 (by decide) (fun h1 => ?_) (fun h1 => ?_)
  · replace H := H.1 h1
    refine f_iconst (v := 0) dL_holds_155 (by decide) ?_
    refine f_ls [0, 1, 2, 3, 4, 5, 6, 7, 8, 9, 10, 11, 12] rfl ?_
    exact H
  · replace H := H.2 h1
    refine f_iconst (v := 1) dL_holds_151 (by decide) ?_
    refine f_goto (tgt := 156) dL_holds_152 (by decide) ?_
    refine f_ls [0, 1, 2, 3, 4, 5, 6, 7, 8, 9, 10, 11, 12] rfl ?_
    exact H
set_option maxRecDepth 20000 in
set_option maxHeartbeats 2000000 in
theorem b_L_holds_156 {G : fG} {l : Launch} {K : Int32 → Option zS → fW → Prop} {y1 : Int32} {y2 : Int32} {y3 : Int32} {y4 : Int32} {y5 : Int32} {y6 : Int32} {y7 : Int32} {y8 : Int32} {y9 : Int32} {y10 : Int32} {y11 : Int32} {y12 : Int32} {z0 : Int32} {z1 : Int32} {o : Option zS} {ω : fW} {kb : Nat}
    (H : ((¬ z1 = z0 → L_L_holds_190 G l K o ω kb) ∧ (z1 = z0 → ((y12 = 2 → L_L_holds_171 G l K y1 y2 y3 y4 y5 y6 y7 y8 y9 y10 y11 y12 o ω kb) ∧ (¬ y12 = 2 → ((¬ y12 = 3 → L_L_holds_176 G l K y1 y2 y3 y4 y5 y6 y7 y8 y9 y10 y11 y12 0 o ω kb) ∧ (y12 = 3 → L_L_holds_171 G l K y1 y2 y3 y4 y5 y6 y7 y8 y9 y10 y11 y12 o ω kb))))))) :
    L_L_holds_156 G l K y1 y2 y3 y4 y5 y6 y7 y8 y9 y10 y11 y12 z0 z1 o ω kb := by
  refine f_icmp_ne (tgt := 190) dL_holds_156 (by decide) (fun h1 => ?_) (fun h1 => ?_)
  · replace H := H.1 h1
    refine f_ls [] rfl ?_
    exact H
  · replace H := H.2 h1
    refine f_iload dL_holds_159 12 rfl ?_
    refine f_iconst (v := 2) dL_holds_161 (by decide) ?_
    refine f_icmp_eq (tgt := 171) dL_holds_162 (by decide) (fun h2 => ?_) (fun h2 => ?_)
    · replace H := H.1 h2
      refine f_ls [0, 1, 2, 3, 4, 5, 6, 7, 8, 9, 10, 11, 12] rfl ?_
      exact H
    · replace H := H.2 h2
      refine f_iload dL_holds_165 12 rfl ?_
      refine f_iconst (v := 3) dL_holds_167 (by decide) ?_
      refine f_icmp_ne (tgt := 175) dL_holds_168 (by decide) (fun h3 => ?_) (fun h3 => ?_)
      · replace H := H.1 h3
        refine f_iconst (v := 0) dL_holds_175 (by decide) ?_
        refine f_ls [0, 1, 2, 3, 4, 5, 6, 7, 8, 9, 10, 11, 12] rfl ?_
        exact H
      · replace H := H.2 h3
        refine f_ls [0, 1, 2, 3, 4, 5, 6, 7, 8, 9, 10, 11, 12] rfl ?_
        exact H
set_option maxRecDepth 20000 in
set_option maxHeartbeats 2000000 in
theorem b_L_holds_171 {G : fG} {l : Launch} {K : Int32 → Option zS → fW → Prop} {y1 : Int32} {y2 : Int32} {y3 : Int32} {y4 : Int32} {y5 : Int32} {y6 : Int32} {y7 : Int32} {y8 : Int32} {y9 : Int32} {y10 : Int32} {y11 : Int32} {y12 : Int32} {o : Option zS} {ω : fW} {kb : Nat}
    (H : L_L_holds_176 G l K y1 y2 y3 y4 y5 y6 y7 y8 y9 y10 y11 y12 1 o ω kb) :
    L_L_holds_171 G l K y1 y2 y3 y4 y5 y6 y7 y8 y9 y10 y11 y12 o ω kb := by
  refine f_iconst (v := 1) dL_holds_171 (by decide) ?_
  refine f_goto (tgt := 176) dL_holds_172 (by decide) ?_
  refine f_ls [0, 1, 2, 3, 4, 5, 6, 7, 8, 9, 10, 11, 12] rfl ?_
  exact H
set_option maxRecDepth 20000 in
set_option maxHeartbeats 2000000 in
theorem b_L_holds_176 {G : fG} {l : Launch} {K : Int32 → Option zS → fW → Prop} {y1 : Int32} {y2 : Int32} {y3 : Int32} {y4 : Int32} {y5 : Int32} {y6 : Int32} {y7 : Int32} {y8 : Int32} {y9 : Int32} {y10 : Int32} {y11 : Int32} {y12 : Int32} {z0 : Int32} {o : Option zS} {ω : fW} {kb : Nat}
    (H : ((¬ y11 = (-1) → L_L_holds_187 G l K y1 y2 y3 y4 y5 y6 y7 y8 y9 y10 y11 y12 0 z0 o ω kb) ∧ (y11 = (-1) → L_L_holds_187 G l K y1 y2 y3 y4 y5 y6 y7 y8 y9 y10 y11 y12 1 z0 o ω kb))) :
    L_L_holds_176 G l K y1 y2 y3 y4 y5 y6 y7 y8 y9 y10 y11 y12 z0 o ω kb := by
  refine f_iload dL_holds_176 11 rfl ?_
  refine f_iconst (v := (-1)) dL_holds_178 (by decide) ?_
  refine f_icmp_ne (tgt := 186) dL_holds_179 (by decide) (fun h1 => ?_) (fun h1 => ?_)
  · replace H := H.1 h1
    refine f_iconst (v := 0) dL_holds_186 (by decide) ?_
    refine f_ls [0, 1, 2, 3, 4, 5, 6, 7, 8, 9, 10, 11, 12] rfl ?_
    exact H
  · replace H := H.2 h1
    refine f_iconst (v := 1) dL_holds_182 (by decide) ?_
    refine f_goto (tgt := 187) dL_holds_183 (by decide) ?_
    refine f_ls [0, 1, 2, 3, 4, 5, 6, 7, 8, 9, 10, 11, 12] rfl ?_
    exact H
set_option maxRecDepth 20000 in
set_option maxHeartbeats 2000000 in
theorem b_L_holds_187 {G : fG} {l : Launch} {K : Int32 → Option zS → fW → Prop} {y1 : Int32} {y2 : Int32} {y3 : Int32} {y4 : Int32} {y5 : Int32} {y6 : Int32} {y7 : Int32} {y8 : Int32} {y9 : Int32} {y10 : Int32} {y11 : Int32} {y12 : Int32} {z0 : Int32} {z1 : Int32} {o : Option zS} {ω : fW} {kb : Nat}
    (H : ((z1 = z0 → ((¬ y12 = 0 → L_L_holds_213 G l K y1 y2 y3 y4 y5 y6 y7 y8 y9 y10 o ω kb) ∧ (y12 = 0 → (∃ σ6 : zS, o = some σ6 ∧ (1 ≤ kb ∧ ∀ n : Nat, CT (gB G.1 n) l M_X6_picture 1 [.ref (zad G.1 0), .int y2, .int y8, .int y10] σ6 (zQi (fun v3 σ4 => ((y11 = v3 → L_L_holds_213 G l K y1 y2 y3 y4 y5 y6 y7 y8 y9 y10 (some σ4) ω (kb - 1)) ∧ (¬ y11 = v3 → K 0 (some σ4) ω))) (fun _ _ => False))))))) ∧ (¬ z1 = z0 → L_L_holds_190 G l K o ω kb))) :
    L_L_holds_187 G l K y1 y2 y3 y4 y5 y6 y7 y8 y9 y10 y11 y12 z0 z1 o ω kb := by
  refine f_icmp_eq (tgt := 192) dL_holds_187 (by decide) (fun h1 => ?_) (fun h1 => ?_)
  · replace H := H.1 h1
    refine f_iload dL_holds_192 12 rfl ?_
    refine f_if_ne (tgt := 213) dL_holds_194 (by decide) (fun h2 => ?_) (fun h2 => ?_)
    · replace H := H.1 h2
      refine f_ls [0, 1, 2, 3, 4, 5, 6, 7, 8, 9, 10] rfl ?_
      exact H
    · replace H := H.2 h2
      refine f_iload dL_holds_197 11 rfl ?_
      refine f_aload_n dL_holds_199 rfl 0 rfl ?_
      refine f_iload_n dL_holds_200 rfl 2 rfl ?_
      refine f_iload dL_holds_201 8 rfl ?_
      refine f_iload dL_holds_203 10 rfl ?_
      obtain ⟨σ6, he, H⟩ := H
      subst he
      refine f_callCi (oo := 0) (j1 := 1) (j2 := (kb - 1)) (av := [.int y2, .int y8, .int y10]) rfl rfl (by decide) rfl rfl H.2 i_X6_picture rfl n_X6_picture v_X6_picture q_L_183 (by decide) (f_kj H.1) (Nat.le_of_ble_eq_true rfl) dL_holds_205 (fun v3 σ4 H => ?_)
      refine f_icmp_eq (tgt := 213) dL_holds_208 (by decide) (fun h5 => ?_) (fun h5 => ?_)
      · replace H := H.1 h5
        refine f_ls [0, 1, 2, 3, 4, 5, 6, 7, 8, 9, 10] rfl ?_
        exact H
      · replace H := H.2 h5
        refine f_iconst (v := 0) dL_holds_211 (by decide) ?_
        exact f_zret rfl rfl dL_holds_212 ⟨_, rfl, H⟩
  · replace H := H.2 h1
    refine f_ls [] rfl ?_
    exact H
set_option maxRecDepth 20000 in
set_option maxHeartbeats 2000000 in
theorem b_L_holds_190 {G : fG} {l : Launch} {K : Int32 → Option zS → fW → Prop} {o : Option zS} {ω : fW} {kb : Nat}
    (H : K 0 o ω) :
    L_L_holds_190 G l K o ω kb := by
  refine f_iconst (v := 0) dL_holds_190 (by decide) ?_
  exact f_zret rfl rfl dL_holds_191 ⟨_, rfl, H⟩
set_option maxRecDepth 20000 in
set_option maxHeartbeats 2000000 in
theorem b_L_holds_213 {G : fG} {l : Launch} {K : Int32 → Option zS → fW → Prop} {y1 : Int32} {y2 : Int32} {y3 : Int32} {y4 : Int32} {y5 : Int32} {y6 : Int32} {y7 : Int32} {y8 : Int32} {y9 : Int32} {y10 : Int32} {o : Option zS} {ω : fW} {kb : Nat}
    (H : L_L_holds_58 G l K y1 y2 y3 y4 y5 y6 y7 y8 y9 (y10 + 1) o ω kb) :
    L_L_holds_213 G l K y1 y2 y3 y4 y5 y6 y7 y8 y9 y10 o ω kb := by
  refine f_iinc (j := 10) (v := (y10 + 1)) (ls' := [(10, .int (y10 + 1)), (0, .ref (zad G.1 0)), (1, .int y1), (2, .int y2), (3, .int y3), (4, .int y4), (5, .int y5), (6, .int y6), (7, .int y7), (8, .int y8), (9, .int y9)]) dL_holds_213 rfl rfl (by decide) rfl ?_
  refine f_goto (tgt := 58) dL_holds_216 (by decide) ?_
  refine f_ls [1, 2, 3, 4, 5, 6, 7, 8, 9, 10, 0] rfl ?_
  exact H
set_option maxRecDepth 20000 in
set_option maxHeartbeats 2000000 in
theorem b_L_holds_228 {G : fG} {l : Launch} {K : Int32 → Option zS → fW → Prop} {y1 : Int32} {y2 : Int32} {y3 : Int32} {y4 : Int32} {y5 : Int32} {y6 : Int32} {y7 : Int32} {y8 : Int32} {o : Option zS} {ω : fW} {kb : Nat}
    (H : (∃ σ40 : zS, o = some σ40 ∧ (1 ≤ kb ∧ ∀ n : Nat, CT (gB G.1 n) l M_X6_setting 1 [.ref (zad G.1 0), .int 0] σ40 (zQi (fun v1 σ2 => ((v1 ≤ y8 → ((¬ y7 = y3 → L_L_holds_372 G l K (some σ2) ω (kb - 1)) ∧ (y7 = y3 → (1 ≤ (kb - 1) ∧ ∀ n : Nat, CT (gB G.1 n) l M_X6_open 1 [.ref (zad G.1 0), .int y1] σ2 (zQi (fun v5 σ6 => (1 ≤ ((kb - 1) - 1) ∧ ∀ n : Nat, CT (gB G.1 n) l M_X6_covered 1 [.ref (zad G.1 0), .int y1] σ6 (zQi (fun v7 σ8 => ((¬ ((y5 + v5) + v7) = (y3 * y4) → L_L_holds_372 G l K (some σ8) ω (((kb - 1) - 1) - 1)) ∧ (((y5 + v5) + v7) = (y3 * y4) → (1 ≤ (((kb - 1) - 1) - 1) ∧ ∀ n : Nat, CT (gB G.1 n) l M_X6_right 1 [.ref (zad G.1 0), .int y1, .int y2] σ8 (zQi (fun v10 σ11 => ((¬ v10 = y6 → L_L_holds_372 G l K (some σ11) ω ((((kb - 1) - 1) - 1) - 1)) ∧ (v10 = y6 → (1 ≤ ((((kb - 1) - 1) - 1) - 1) ∧ ∀ n : Nat, CT (gB G.1 n) l M_X6_ghosts 1 [.ref (zad G.1 0), .int y1, .int y2] σ11 (zQi (fun v13 σ14 => ((y5 < (y6 + v13) → L_L_holds_372 G l K (some σ14) ω (((((kb - 1) - 1) - 1) - 1) - 1)) ∧ (¬ y5 < (y6 + v13) → (1 ≤ (((((kb - 1) - 1) - 1) - 1) - 1) ∧ ∀ n : Nat, CT (gB G.1 n) l M_X6_run 1 [.ref (zad G.1 0), .int y1] σ14 (zQi (fun v16 σ17 => ((v16 ≤ y3 → (1 ≤ ((((((kb - 1) - 1) - 1) - 1) - 1) - 1) ∧ ∀ n : Nat, CT (gB G.1 n) l M_X6_whole 1 [.ref (zad G.1 0), .int y1] σ17 (zQi (fun v19 σ20 => ((y2 = 0 → L_L_holds_388 G l K y1 y2 y3 y6 0 v19 (some σ20) ω (((((((kb - 1) - 1) - 1) - 1) - 1) - 1) - 1)) ∧ (¬ y2 = 0 → L_L_holds_388 G l K y1 y2 y3 y6 1 v19 (some σ20) ω (((((((kb - 1) - 1) - 1) - 1) - 1) - 1) - 1)))) (fun _ _ => False)))) ∧ (¬ v16 ≤ y3 → L_L_holds_372 G l K (some σ17) ω ((((((kb - 1) - 1) - 1) - 1) - 1) - 1)))) (fun _ _ => False)))))) (fun _ _ => False)))))) (fun _ _ => False)))))) (fun _ _ => False)))) (fun _ _ => False)))))) ∧ (¬ v1 ≤ y8 → (2 ≤ (kb - 1) ∧ ∀ n : Nat, CT (gB G.1 n) l M_X6_slat 2 [.ref (zad G.1 0), .int y8, .int 0] σ2 (zQi (fun v22 σ23 => (2 ≤ ((kb - 1) - 2) ∧ ∀ n : Nat, CT (gB G.1 n) l M_X6_slat 2 [.ref (zad G.1 0), .int y8, .int 4] σ23 (zQi (fun v24 σ25 => (1 ≤ (((kb - 1) - 2) - 2) ∧ ∀ n : Nat, CT (gB G.1 n) l M_X6_setting 1 [.ref (zad G.1 0), .int 5] σ25 (zQi (fun v26 σ27 => ((v26 < v24 → L_L_holds_303 G l K (some σ27) ω ((((kb - 1) - 2) - 2) - 1)) ∧ (¬ v26 < v24 → (2 ≤ ((((kb - 1) - 2) - 2) - 1) ∧ ∀ n : Nat, CT (gB G.1 n) l M_X6_slat 2 [.ref (zad G.1 0), .int y8, .int 5] σ27 (zQi (fun v29 σ30 => (1 ≤ (((((kb - 1) - 2) - 2) - 1) - 2) ∧ ∀ n : Nat, CT (gB G.1 n) l M_X6_setting 1 [.ref (zad G.1 0), .int 5] σ30 (zQi (fun v31 σ32 => ((v31 < v29 → L_L_holds_303 G l K (some σ32) ω ((((((kb - 1) - 2) - 2) - 1) - 2) - 1)) ∧ (¬ v31 < v29 → (2 ≤ ((((((kb - 1) - 2) - 2) - 1) - 2) - 1) ∧ ∀ n : Nat, CT (gB G.1 n) l M_X6_slat 2 [.ref (zad G.1 0), .int y8, .int 2] σ32 (zQi (fun v34 σ35 => ((v34 < (-4) → L_L_holds_303 G l K (some σ35) ω (((((((kb - 1) - 2) - 2) - 1) - 2) - 1) - 2)) ∧ (¬ v34 < (-4) → (2 ≤ (((((((kb - 1) - 2) - 2) - 1) - 2) - 1) - 2) ∧ ∀ n : Nat, CT (gB G.1 n) l M_X6_slat 2 [.ref (zad G.1 0), .int y8, .int 2] σ35 (zQi (fun v37 σ38 => ((v37 ≤ 4 → L_L_holds_228 G l K y1 y2 y3 y4 y5 y6 (y7 + v22) (y8 + 1) (some σ38) ω ((((((((kb - 1) - 2) - 2) - 1) - 2) - 1) - 2) - 2)) ∧ (¬ v37 ≤ 4 → L_L_holds_303 G l K (some σ38) ω ((((((((kb - 1) - 2) - 2) - 1) - 2) - 1) - 2) - 2)))) (fun _ _ => False)))))) (fun _ _ => False)))))) (fun _ _ => False)))) (fun _ _ => False)))))) (fun _ _ => False)))) (fun _ _ => False)))) (fun _ _ => False)))))) (fun _ _ => False))))) :
    L_L_holds_228 G l K y1 y2 y3 y4 y5 y6 y7 y8 o ω kb := by
  refine f_iload dL_holds_228 8 rfl ?_
  refine f_aload_n dL_holds_230 rfl 0 rfl ?_
  refine f_iconst (v := 0) dL_holds_231 (by decide) ?_
  obtain ⟨σ40, he, H⟩ := H
  subst he
  refine f_callCi (oo := 0) (j1 := 1) (j2 := (kb - 1)) (av := [.int 0]) rfl rfl (by decide) rfl rfl H.2 i_X6_setting rfl n_X6_setting v_X6_setting q_L_131 (by decide) (f_kj H.1) (Nat.le_of_ble_eq_true rfl) dL_holds_232 (fun v1 σ2 H => ?_)
  refine f_icmp_ge (tgt := 311) dL_holds_235 (by decide) (fun h3 => ?_) (fun h3 => ?_)
  · replace H := H.1 h3
    refine f_iload dL_holds_311 7 rfl ?_
    refine f_iload_n dL_holds_313 rfl 3 rfl ?_
    refine f_icmp_ne (tgt := 372) dL_holds_314 (by decide) (fun h4 => ?_) (fun h4 => ?_)
    · replace H := H.1 h4
      refine f_ls [] rfl ?_
      exact H
    · replace H := H.2 h4
      refine f_iload dL_holds_317 5 rfl ?_
      refine f_aload_n dL_holds_319 rfl 0 rfl ?_
      refine f_iload_n dL_holds_320 rfl 1 rfl ?_
      refine f_callCi (oo := 0) (j1 := 1) (j2 := ((kb - 1) - 1)) (av := [.int y1]) rfl rfl (by decide) rfl rfl H.2 i_X6_open rfl n_X6_open v_X6_open q_L_186 (by decide) (f_kj H.1) (Nat.le_of_ble_eq_true rfl) dL_holds_321 (fun v5 σ6 H => ?_)
      refine f_iadd dL_holds_324 ?_
      refine f_aload_n dL_holds_325 rfl 0 rfl ?_
      refine f_iload_n dL_holds_326 rfl 1 rfl ?_
      refine f_callCi (oo := 0) (j1 := 1) (j2 := (((kb - 1) - 1) - 1)) (av := [.int y1]) rfl rfl (by decide) rfl rfl H.2 i_X6_covered rfl n_X6_covered v_X6_covered q_L_189 (by decide) (f_kj H.1) (Nat.le_of_ble_eq_true rfl) dL_holds_327 (fun v7 σ8 H => ?_)
      refine f_iadd dL_holds_330 ?_
      refine f_iload_n dL_holds_331 rfl 3 rfl ?_
      refine f_iload dL_holds_332 4 rfl ?_
      refine f_imul dL_holds_334 ?_
      refine f_icmp_ne (tgt := 372) dL_holds_335 (by decide) (fun h9 => ?_) (fun h9 => ?_)
      · replace H := H.1 h9
        refine f_ls [] rfl ?_
        exact H
      · replace H := H.2 h9
        refine f_aload_n dL_holds_338 rfl 0 rfl ?_
        refine f_iload_n dL_holds_339 rfl 1 rfl ?_
        refine f_iload_n dL_holds_340 rfl 2 rfl ?_
        refine f_callCi (oo := 0) (j1 := 1) (j2 := ((((kb - 1) - 1) - 1) - 1)) (av := [.int y1, .int y2]) rfl rfl (by decide) rfl rfl H.2 i_X6_right rfl n_X6_right v_X6_right q_L_192 (by decide) (f_kj H.1) (Nat.le_of_ble_eq_true rfl) dL_holds_341 (fun v10 σ11 H => ?_)
        refine f_iload dL_holds_344 6 rfl ?_
        refine f_icmp_ne (tgt := 372) dL_holds_346 (by decide) (fun h12 => ?_) (fun h12 => ?_)
        · replace H := H.1 h12
          refine f_ls [] rfl ?_
          exact H
        · replace H := H.2 h12
          refine f_iload dL_holds_349 6 rfl ?_
          refine f_aload_n dL_holds_351 rfl 0 rfl ?_
          refine f_iload_n dL_holds_352 rfl 1 rfl ?_
          refine f_iload_n dL_holds_353 rfl 2 rfl ?_
          refine f_callCi (oo := 0) (j1 := 1) (j2 := (((((kb - 1) - 1) - 1) - 1) - 1)) (av := [.int y1, .int y2]) rfl rfl (by decide) rfl rfl H.2 i_X6_ghosts rfl n_X6_ghosts v_X6_ghosts q_L_195 (by decide) (f_kj H.1) (Nat.le_of_ble_eq_true rfl) dL_holds_354 (fun v13 σ14 H => ?_)
          refine f_iadd dL_holds_357 ?_
          refine f_iload dL_holds_358 5 rfl ?_
          refine f_icmp_gt (tgt := 372) dL_holds_360 (by decide) (fun h15 => ?_) (fun h15 => ?_)
          · replace H := H.1 h15
            refine f_ls [] rfl ?_
            exact H
          · replace H := H.2 h15
            refine f_aload_n dL_holds_363 rfl 0 rfl ?_
            refine f_iload_n dL_holds_364 rfl 1 rfl ?_
            refine f_callCi (oo := 0) (j1 := 1) (j2 := ((((((kb - 1) - 1) - 1) - 1) - 1) - 1)) (av := [.int y1]) rfl rfl (by decide) rfl rfl H.2 i_X6_run rfl n_X6_run v_X6_run q_L_198 (by decide) (f_kj H.1) (Nat.le_of_ble_eq_true rfl) dL_holds_365 (fun v16 σ17 H => ?_)
            refine f_iload_n dL_holds_368 rfl 3 rfl ?_
            refine f_icmp_le (tgt := 374) dL_holds_369 (by decide) (fun h18 => ?_) (fun h18 => ?_)
            · replace H := H.1 h18
              refine f_aload_n dL_holds_374 rfl 0 rfl ?_
              refine f_iload_n dL_holds_375 rfl 1 rfl ?_
              refine f_callCi (oo := 0) (j1 := 1) (j2 := (((((((kb - 1) - 1) - 1) - 1) - 1) - 1) - 1)) (av := [.int y1]) rfl rfl (by decide) rfl rfl H.2 i_X6_whole rfl n_X6_whole v_X6_whole q_L_201 (by decide) (f_kj H.1) (Nat.le_of_ble_eq_true rfl) dL_holds_376 (fun v19 σ20 H => ?_)
              refine f_iload_n dL_holds_379 rfl 2 rfl ?_
              refine f_if_eq (tgt := 387) dL_holds_380 (by decide) (fun h21 => ?_) (fun h21 => ?_)
              · replace H := H.1 h21
                refine f_iconst (v := 0) dL_holds_387 (by decide) ?_
                refine f_ls [0, 1, 2, 3, 6] rfl ?_
                exact H
              · replace H := H.2 h21
                refine f_iconst (v := 1) dL_holds_383 (by decide) ?_
                refine f_goto (tgt := 388) dL_holds_384 (by decide) ?_
                refine f_ls [0, 1, 2, 3, 6] rfl ?_
                exact H
            · replace H := H.2 h18
              refine f_ls [] rfl ?_
              exact H
  · replace H := H.2 h3
    refine f_iload dL_holds_238 7 rfl ?_
    refine f_aload_n dL_holds_240 rfl 0 rfl ?_
    refine f_iload dL_holds_241 8 rfl ?_
    refine f_iconst (v := 0) dL_holds_243 (by decide) ?_
    refine f_callCi (oo := 0) (j1 := 2) (j2 := ((kb - 1) - 2)) (av := [.int y8, .int 0]) rfl rfl (by decide) rfl rfl H.2 i_X6_slat rfl n_X6_slat v_X6_slat q_L_106 (by decide) (f_kj H.1) (Nat.le_of_ble_eq_true rfl) dL_holds_244 (fun v22 σ23 H => ?_)
    refine f_iadd dL_holds_247 ?_
    refine f_istore (ls' := [(7, .int (y7 + v22)), (0, .ref (zad G.1 0)), (1, .int y1), (2, .int y2), (3, .int y3), (4, .int y4), (5, .int y5), (6, .int y6), (8, .int y8)]) dL_holds_248 (by decide) rfl ?_
    refine f_aload_n dL_holds_250 rfl 1 rfl ?_
    refine f_iload dL_holds_251 8 rfl ?_
    refine f_iconst (v := 4) dL_holds_253 (by decide) ?_
    refine f_callCi (oo := 0) (j1 := 2) (j2 := (((kb - 1) - 2) - 2)) (av := [.int y8, .int 4]) rfl rfl (by decide) rfl rfl H.2 i_X6_slat rfl n_X6_slat v_X6_slat q_L_106 (by decide) (f_kj H.1) (Nat.le_of_ble_eq_true rfl) dL_holds_254 (fun v24 σ25 H => ?_)
    refine f_aload_n dL_holds_257 rfl 1 rfl ?_
    refine f_iconst (v := 5) dL_holds_258 (by decide) ?_
    refine f_callCi (oo := 0) (j1 := 1) (j2 := ((((kb - 1) - 2) - 2) - 1)) (av := [.int 5]) rfl rfl (by decide) rfl rfl H.2 i_X6_setting rfl n_X6_setting v_X6_setting q_L_131 (by decide) (f_kj H.1) (Nat.le_of_ble_eq_true rfl) dL_holds_259 (fun v26 σ27 H => ?_)
    refine f_icmp_gt (tgt := 303) dL_holds_262 (by decide) (fun h28 => ?_) (fun h28 => ?_)
    · replace H := H.1 h28
      refine f_ls [] rfl ?_
      exact H
    · replace H := H.2 h28
      refine f_aload_n dL_holds_265 rfl 1 rfl ?_
      refine f_iload dL_holds_266 8 rfl ?_
      refine f_iconst (v := 5) dL_holds_268 (by decide) ?_
      refine f_callCi (oo := 0) (j1 := 2) (j2 := (((((kb - 1) - 2) - 2) - 1) - 2)) (av := [.int y8, .int 5]) rfl rfl (by decide) rfl rfl H.2 i_X6_slat rfl n_X6_slat v_X6_slat q_L_106 (by decide) (f_kj H.1) (Nat.le_of_ble_eq_true rfl) dL_holds_269 (fun v29 σ30 H => ?_)
      refine f_aload_n dL_holds_272 rfl 1 rfl ?_
      refine f_iconst (v := 5) dL_holds_273 (by decide) ?_
      refine f_callCi (oo := 0) (j1 := 1) (j2 := ((((((kb - 1) - 2) - 2) - 1) - 2) - 1)) (av := [.int 5]) rfl rfl (by decide) rfl rfl H.2 i_X6_setting rfl n_X6_setting v_X6_setting q_L_131 (by decide) (f_kj H.1) (Nat.le_of_ble_eq_true rfl) dL_holds_274 (fun v31 σ32 H => ?_)
      refine f_icmp_gt (tgt := 303) dL_holds_277 (by decide) (fun h33 => ?_) (fun h33 => ?_)
      · replace H := H.1 h33
        refine f_ls [] rfl ?_
        exact H
      · replace H := H.2 h33
        refine f_aload_n dL_holds_280 rfl 1 rfl ?_
        refine f_iload dL_holds_281 8 rfl ?_
        refine f_iconst (v := 2) dL_holds_283 (by decide) ?_
        refine f_callCi (oo := 0) (j1 := 2) (j2 := (((((((kb - 1) - 2) - 2) - 1) - 2) - 1) - 2)) (av := [.int y8, .int 2]) rfl rfl (by decide) rfl rfl H.2 i_X6_slat rfl n_X6_slat v_X6_slat q_L_106 (by decide) (f_kj H.1) (Nat.le_of_ble_eq_true rfl) dL_holds_284 (fun v34 σ35 H => ?_)
        refine f_bipush (v := (-4)) dL_holds_287 (by decide) ?_
        refine f_icmp_lt (tgt := 303) dL_holds_289 (by decide) (fun h36 => ?_) (fun h36 => ?_)
        · replace H := H.1 h36
          refine f_ls [] rfl ?_
          exact H
        · replace H := H.2 h36
          refine f_aload_n dL_holds_292 rfl 1 rfl ?_
          refine f_iload dL_holds_293 8 rfl ?_
          refine f_iconst (v := 2) dL_holds_295 (by decide) ?_
          refine f_callCi (oo := 0) (j1 := 2) (j2 := ((((((((kb - 1) - 2) - 2) - 1) - 2) - 1) - 2) - 2)) (av := [.int y8, .int 2]) rfl rfl (by decide) rfl rfl H.2 i_X6_slat rfl n_X6_slat v_X6_slat q_L_106 (by decide) (f_kj H.1) (Nat.le_of_ble_eq_true rfl) dL_holds_296 (fun v37 σ38 H => ?_)
          refine f_iconst (v := 4) dL_holds_299 (by decide) ?_
          refine f_icmp_le (tgt := 305) dL_holds_300 (by decide) (fun h39 => ?_) (fun h39 => ?_)
          · replace H := H.1 h39
            refine f_iinc (j := 8) (v := (y8 + 1)) (ls' := [(8, .int (y8 + 1)), (7, .int (y7 + v22)), (0, .ref (zad G.1 0)), (1, .int y1), (2, .int y2), (3, .int y3), (4, .int y4), (5, .int y5), (6, .int y6)]) dL_holds_305 rfl rfl (by decide) rfl ?_
            refine f_goto (tgt := 228) dL_holds_308 (by decide) ?_
            refine f_ls [2, 3, 4, 5, 6, 7, 8, 1, 0] rfl ?_
            exact H
          · replace H := H.2 h39
            refine f_ls [] rfl ?_
            exact H
set_option maxRecDepth 20000 in
set_option maxHeartbeats 2000000 in
theorem b_L_holds_303 {G : fG} {l : Launch} {K : Int32 → Option zS → fW → Prop} {o : Option zS} {ω : fW} {kb : Nat}
    (H : K 0 o ω) :
    L_L_holds_303 G l K o ω kb := by
  refine f_iconst (v := 0) dL_holds_303 (by decide) ?_
  exact f_zret rfl rfl dL_holds_304 ⟨_, rfl, H⟩
set_option maxRecDepth 20000 in
set_option maxHeartbeats 2000000 in
theorem b_L_holds_372 {G : fG} {l : Launch} {K : Int32 → Option zS → fW → Prop} {o : Option zS} {ω : fW} {kb : Nat}
    (H : K 0 o ω) :
    L_L_holds_372 G l K o ω kb := by
  refine f_iconst (v := 0) dL_holds_372 (by decide) ?_
  exact f_zret rfl rfl dL_holds_373 ⟨_, rfl, H⟩
set_option maxRecDepth 20000 in
set_option maxHeartbeats 2000000 in
theorem b_L_holds_388 {G : fG} {l : Launch} {K : Int32 → Option zS → fW → Prop} {y1 : Int32} {y2 : Int32} {y3 : Int32} {y6 : Int32} {z0 : Int32} {z1 : Int32} {o : Option zS} {ω : fW} {kb : Nat}
    (H : ((y3 ≤ 0 → L_L_holds_426 G l K y1 y2 y3 y6 ((z1 >>> (z0 &&& 31)) &&& 1) o ω kb) ∧ (¬ y3 ≤ 0 → ((¬ ((z1 >>> (z0 &&& 31)) &&& 1) = 1 → L_L_holds_408 G l K y1 y2 y3 y6 ((z1 >>> (z0 &&& 31)) &&& 1) 0 o ω kb) ∧ (((z1 >>> (z0 &&& 31)) &&& 1) = 1 → L_L_holds_408 G l K y1 y2 y3 y6 ((z1 >>> (z0 &&& 31)) &&& 1) 1 o ω kb))))) :
    L_L_holds_388 G l K y1 y2 y3 y6 z0 z1 o ω kb := by
  refine f_ishr dL_holds_388 ?_
  refine f_iconst (v := 1) dL_holds_389 (by decide) ?_
  refine f_iand dL_holds_390 ?_
  refine f_istore (ls' := [(8, .int ((z1 >>> (z0 &&& 31)) &&& 1)), (0, .ref (zad G.1 0)), (1, .int y1), (2, .int y2), (3, .int y3), (6, .int y6)]) dL_holds_391 (by decide) rfl ?_
  refine f_iload_n dL_holds_393 rfl 4 rfl ?_
  refine f_if_le (tgt := 426) dL_holds_394 (by decide) (fun h1 => ?_) (fun h1 => ?_)
  · replace H := H.1 h1
    refine f_ls [1, 2, 3, 4, 5, 0] rfl ?_
    exact H
  · replace H := H.2 h1
    refine f_iload dL_holds_397 0 rfl ?_
    refine f_iconst (v := 1) dL_holds_399 (by decide) ?_
    refine f_icmp_ne (tgt := 407) dL_holds_400 (by decide) (fun h2 => ?_) (fun h2 => ?_)
    · replace H := H.1 h2
      refine f_iconst (v := 0) dL_holds_407 (by decide) ?_
      refine f_ls [1, 2, 3, 4, 5, 0] rfl ?_
      exact H
    · replace H := H.2 h2
      refine f_iconst (v := 1) dL_holds_403 (by decide) ?_
      refine f_goto (tgt := 408) dL_holds_404 (by decide) ?_
      refine f_ls [1, 2, 3, 4, 5, 0] rfl ?_
      exact H
set_option maxRecDepth 20000 in
set_option maxHeartbeats 2000000 in
theorem b_L_holds_408 {G : fG} {l : Launch} {K : Int32 → Option zS → fW → Prop} {y1 : Int32} {y2 : Int32} {y3 : Int32} {y6 : Int32} {y8 : Int32} {z0 : Int32} {o : Option zS} {ω : fW} {kb : Nat}
    (H : (∃ σ4 : zS, o = some σ4 ∧ (1 ≤ kb ∧ ∀ n : Nat, CT (gB G.1 n) l M_X6_firstWrong 1 [.ref (zad G.1 0), .int y1, .int y2] σ4 (zQi (fun v1 σ2 => ((¬ v1 = (-1) → L_L_holds_423 G l K y1 y2 y3 y6 y8 0 z0 (some σ2) ω (kb - 1)) ∧ (v1 = (-1) → L_L_holds_423 G l K y1 y2 y3 y6 y8 1 z0 (some σ2) ω (kb - 1)))) (fun _ _ => False))))) :
    L_L_holds_408 G l K y1 y2 y3 y6 y8 z0 o ω kb := by
  refine f_aload_n dL_holds_408 rfl 0 rfl ?_
  refine f_iload_n dL_holds_409 rfl 1 rfl ?_
  refine f_iload_n dL_holds_410 rfl 2 rfl ?_
  obtain ⟨σ4, he, H⟩ := H
  subst he
  refine f_callCi (oo := 0) (j1 := 1) (j2 := (kb - 1)) (av := [.int y1, .int y2]) rfl rfl (by decide) rfl rfl H.2 i_X6_firstWrong rfl n_X6_firstWrong v_X6_firstWrong q_L_204 (by decide) (f_kj H.1) (Nat.le_of_ble_eq_true rfl) dL_holds_411 (fun v1 σ2 H => ?_)
  refine f_iconst (v := (-1)) dL_holds_414 (by decide) ?_
  refine f_icmp_ne (tgt := 422) dL_holds_415 (by decide) (fun h3 => ?_) (fun h3 => ?_)
  · replace H := H.1 h3
    refine f_iconst (v := 0) dL_holds_422 (by decide) ?_
    refine f_ls [0, 1, 2, 3, 4, 5] rfl ?_
    exact H
  · replace H := H.2 h3
    refine f_iconst (v := 1) dL_holds_418 (by decide) ?_
    refine f_goto (tgt := 423) dL_holds_419 (by decide) ?_
    refine f_ls [0, 1, 2, 3, 4, 5] rfl ?_
    exact H
set_option maxRecDepth 20000 in
set_option maxHeartbeats 2000000 in
theorem b_L_holds_423 {G : fG} {l : Launch} {K : Int32 → Option zS → fW → Prop} {y1 : Int32} {y2 : Int32} {y3 : Int32} {y6 : Int32} {y8 : Int32} {z0 : Int32} {z1 : Int32} {o : Option zS} {ω : fW} {kb : Nat}
    (H : ((¬ z1 = z0 → L_L_holds_441 G l K o ω kb) ∧ (z1 = z0 → L_L_holds_426 G l K y1 y2 y3 y6 y8 o ω kb))) :
    L_L_holds_423 G l K y1 y2 y3 y6 y8 z0 z1 o ω kb := by
  refine f_icmp_ne (tgt := 441) dL_holds_423 (by decide) (fun h1 => ?_) (fun h1 => ?_)
  · replace H := H.1 h1
    refine f_ls [] rfl ?_
    exact H
  · replace H := H.2 h1
    refine f_ls [0, 1, 2, 3, 4, 5] rfl ?_
    exact H
set_option maxRecDepth 20000 in
set_option maxHeartbeats 2000000 in
theorem b_L_holds_426 {G : fG} {l : Launch} {K : Int32 → Option zS → fW → Prop} {y1 : Int32} {y2 : Int32} {y3 : Int32} {y6 : Int32} {y8 : Int32} {o : Option zS} {ω : fW} {kb : Nat}
    (H : ((¬ y8 = 1 → L_L_holds_443 G l K y1 y2 y3 y6 o ω kb) ∧ (y8 = 1 → (∃ σ5 : zS, o = some σ5 ∧ (1 ≤ kb ∧ ∀ n : Nat, CT (gB G.1 n) l M_X6_turnsNeeded 1 [.ref (zad G.1 0), .int y1, .int y2] σ5 (zQi (fun v2 σ3 => ((v2 = 0 → L_L_holds_443 G l K y1 y2 y3 y6 (some σ3) ω (kb - 1)) ∧ (¬ v2 = 0 → L_L_holds_441 G l K (some σ3) ω (kb - 1)))) (fun _ _ => False))))))) :
    L_L_holds_426 G l K y1 y2 y3 y6 y8 o ω kb := by
  refine f_iload dL_holds_426 5 rfl ?_
  refine f_iconst (v := 1) dL_holds_428 (by decide) ?_
  refine f_icmp_ne (tgt := 443) dL_holds_429 (by decide) (fun h1 => ?_) (fun h1 => ?_)
  · replace H := H.1 h1
    refine f_ls [0, 1, 2, 3, 4] rfl ?_
    exact H
  · replace H := H.2 h1
    refine f_aload_n dL_holds_432 rfl 0 rfl ?_
    refine f_iload_n dL_holds_433 rfl 1 rfl ?_
    refine f_iload_n dL_holds_434 rfl 2 rfl ?_
    obtain ⟨σ5, he, H⟩ := H
    subst he
    refine f_callCi (oo := 0) (j1 := 1) (j2 := (kb - 1)) (av := [.int y1, .int y2]) rfl rfl (by decide) rfl rfl H.2 i_X6_turnsNeeded rfl n_X6_turnsNeeded v_X6_turnsNeeded q_L_207 (by decide) (f_kj H.1) (Nat.le_of_ble_eq_true rfl) dL_holds_435 (fun v2 σ3 H => ?_)
    refine f_if_eq (tgt := 443) dL_holds_438 (by decide) (fun h4 => ?_) (fun h4 => ?_)
    · replace H := H.1 h4
      refine f_ls [0, 1, 2, 3, 4] rfl ?_
      exact H
    · replace H := H.2 h4
      refine f_ls [] rfl ?_
      exact H
set_option maxRecDepth 20000 in
set_option maxHeartbeats 2000000 in
theorem b_L_holds_441 {G : fG} {l : Launch} {K : Int32 → Option zS → fW → Prop} {o : Option zS} {ω : fW} {kb : Nat}
    (H : K 0 o ω) :
    L_L_holds_441 G l K o ω kb := by
  refine f_iconst (v := 0) dL_holds_441 (by decide) ?_
  exact f_zret rfl rfl dL_holds_442 ⟨_, rfl, H⟩
set_option maxRecDepth 20000 in
set_option maxHeartbeats 2000000 in
theorem b_L_holds_443 {G : fG} {l : Launch} {K : Int32 → Option zS → fW → Prop} {y1 : Int32} {y2 : Int32} {y3 : Int32} {y6 : Int32} {o : Option zS} {ω : fW} {kb : Nat}
    (H : ((y3 = 0 → L_L_holds_479 G l K o ω kb) ∧ (¬ y3 = 0 → (∃ σ14 : zS, o = some σ14 ∧ (0 ≤ kb ∧ ∀ n : Nat, CT (gB G.1 n) l M_X6_bestAngle 0 [.ref (zad G.1 0), .int y2] σ14 (zQi (fun v2 σ3 => (1 ≤ (kb - 0) ∧ ∀ n : Nat, CT (gB G.1 n) l M_X6_right 1 [.ref (zad G.1 0), .int v2, .int y2] σ3 (zQi (fun v4 σ5 => ((v4 < y6 → L_L_holds_483 G l K (some σ5) ω ((kb - 0) - 1)) ∧ (¬ v4 < y6 → (0 ≤ ((kb - 0) - 1) ∧ ∀ n : Nat, CT (gB G.1 n) l M_X6_lightest 0 [.ref (zad G.1 0)] σ5 (zQi (fun v7 σ8 => (1 ≤ (((kb - 0) - 1) - 0) ∧ ∀ n : Nat, CT (gB G.1 n) l M_X6_light 1 [.ref (zad G.1 0), .int v7] σ8 (zQf (fun v9 σ10 => (1 ≤ ((((kb - 0) - 1) - 0) - 1) ∧ ∀ n : Nat, CT (gB G.1 n) l M_X6_light 1 [.ref (zad G.1 0), .int y1] σ10 (zQf (fun v11 σ12 => (((Op.cmpValue (FP.fcmp v9 v11) .l) < 0 → L_L_holds_483 G l K (some σ12) ω (((((kb - 0) - 1) - 0) - 1) - 1)) ∧ (¬ (Op.cmpValue (FP.fcmp v9 v11) .l) < 0 → L_L_holds_479 G l K (some σ12) ω (((((kb - 0) - 1) - 0) - 1) - 1)))) (fun _ _ => False)))) (fun _ _ => False)))) (fun _ _ => False)))))) (fun _ _ => False)))) (fun _ _ => False))))))) :
    L_L_holds_443 G l K y1 y2 y3 y6 o ω kb := by
  refine f_iload_n dL_holds_443 rfl 3 rfl ?_
  refine f_if_eq (tgt := 479) dL_holds_444 (by decide) (fun h1 => ?_) (fun h1 => ?_)
  · replace H := H.1 h1
    refine f_ls [] rfl ?_
    exact H
  · replace H := H.2 h1
    refine f_aload_n dL_holds_447 rfl 0 rfl ?_
    refine f_aload_n dL_holds_448 rfl 0 rfl ?_
    refine f_iload_n dL_holds_449 rfl 2 rfl ?_
    obtain ⟨σ14, he, H⟩ := H
    subst he
    refine f_callCi (oo := 0) (j1 := 0) (j2 := (kb - 0)) (av := [.int y2]) rfl rfl (by decide) rfl rfl H.2 i_X6_bestAngle rfl n_X6_bestAngle v_X6_bestAngle q_L_210 (by decide) (f_kj H.1) (Nat.le_of_ble_eq_true rfl) dL_holds_450 (fun v2 σ3 H => ?_)
    refine f_iload_n dL_holds_453 rfl 2 rfl ?_
    refine f_callCi (oo := 0) (j1 := 1) (j2 := ((kb - 0) - 1)) (av := [.int v2, .int y2]) rfl rfl (by decide) rfl rfl H.2 i_X6_right rfl n_X6_right v_X6_right q_L_192 (by decide) (f_kj H.1) (Nat.le_of_ble_eq_true rfl) dL_holds_454 (fun v4 σ5 H => ?_)
    refine f_iload dL_holds_457 4 rfl ?_
    refine f_icmp_lt (tgt := 483) dL_holds_459 (by decide) (fun h6 => ?_) (fun h6 => ?_)
    · replace H := H.1 h6
      refine f_ls [] rfl ?_
      exact H
    · replace H := H.2 h6
      refine f_aload_n dL_holds_462 rfl 0 rfl ?_
      refine f_aload_n dL_holds_463 rfl 0 rfl ?_
      refine f_callCi (oo := 0) (j1 := 0) (j2 := (((kb - 0) - 1) - 0)) (av := []) rfl rfl (by decide) rfl rfl H.2 i_X6_lightest rfl n_X6_lightest v_X6_lightest q_L_214 (by decide) (f_kj H.1) (Nat.le_of_ble_eq_true rfl) dL_holds_464 (fun v7 σ8 H => ?_)
      refine f_callCf (oo := 0) (j1 := 1) (j2 := ((((kb - 0) - 1) - 0) - 1)) (av := [.int v7]) rfl rfl (by decide) rfl rfl H.2 i_X6_light rfl n_X6_light v_X6_light q_L_217 (by decide) (f_kj H.1) (Nat.le_of_ble_eq_true rfl) dL_holds_467 (fun v9 σ10 H => ?_)
      refine f_aload_n dL_holds_470 rfl 0 rfl ?_
      refine f_iload_n dL_holds_471 rfl 1 rfl ?_
      refine f_callCf (oo := 0) (j1 := 1) (j2 := (((((kb - 0) - 1) - 0) - 1) - 1)) (av := [.int y1]) rfl rfl (by decide) rfl rfl H.2 i_X6_light rfl n_X6_light v_X6_light q_L_217 (by decide) (f_kj H.1) (Nat.le_of_ble_eq_true rfl) dL_holds_472 (fun v11 σ12 H => ?_)
      refine f_fcmp dL_holds_475 ?_
      refine f_if_lt (tgt := 483) dL_holds_476 (by decide) (fun h13 => ?_) (fun h13 => ?_)
      · replace H := H.1 h13
        refine f_ls [] rfl ?_
        exact H
      · replace H := H.2 h13
        refine f_ls [] rfl ?_
        exact H
set_option maxRecDepth 20000 in
set_option maxHeartbeats 2000000 in
theorem b_L_holds_479 {G : fG} {l : Launch} {K : Int32 → Option zS → fW → Prop} {o : Option zS} {ω : fW} {kb : Nat}
    (H : L_L_holds_484 G l K 1 o ω kb) :
    L_L_holds_479 G l K o ω kb := by
  refine f_iconst (v := 1) dL_holds_479 (by decide) ?_
  refine f_goto (tgt := 484) dL_holds_480 (by decide) ?_
  refine f_ls [] rfl ?_
  exact H
set_option maxRecDepth 20000 in
set_option maxHeartbeats 2000000 in
theorem b_L_holds_483 {G : fG} {l : Launch} {K : Int32 → Option zS → fW → Prop} {o : Option zS} {ω : fW} {kb : Nat}
    (H : L_L_holds_484 G l K 0 o ω kb) :
    L_L_holds_483 G l K o ω kb := by
  refine f_iconst (v := 0) dL_holds_483 (by decide) ?_
  refine f_ls [] rfl ?_
  exact H
set_option maxRecDepth 20000 in
set_option maxHeartbeats 2000000 in
theorem b_L_holds_484 {G : fG} {l : Launch} {K : Int32 → Option zS → fW → Prop} {z0 : Int32} {o : Option zS} {ω : fW} {kb : Nat}
    (H : (zbl z0 ∧ K z0 o ω)) :
    L_L_holds_484 G l K z0 o ω kb := by
  exact f_zret rfl (zbl_n H.1) dL_holds_484 ⟨_, rfl, H.2⟩
abbrev L_L_comes_54 (G : fG) (l : Launch) (K : Int32 → Option zS → fW → Prop) (r1 : Nat) (y2 : Int32) (y3 : Int32) (y4 : Int32) (y6 : Int32) (o : Option zS) (ω : fW) (kb : Nat) : Prop :=
  FV G l M_L_comes kb (fQi K) 54 [(0, .ref (zad G.1 0)), (1, .ref r1), (2, .int y2), (3, .int y3), (4, .int y4), (6, .int y6)] [] (o, ω)
abbrev L_L_comes_146 (G : fG) (l : Launch) (K : Int32 → Option zS → fW → Prop) (r1 : Nat) (y3 : Int32) (y6 : Int32) (y7 : Int32) (o : Option zS) (ω : fW) (kb : Nat) : Prop :=
  FV G l M_L_comes kb (fQi K) 146 [(0, .ref (zad G.1 0)), (1, .ref r1), (3, .int y3), (6, .int y6), (7, .int y7)] [] (o, ω)
set_option maxRecDepth 20000 in
set_option maxHeartbeats 2000000 in
theorem b_L_comes {G : fG} {l : Launch} {K : Int32 → Option zS → fW → Prop} {r1 : Nat} {x2 : Int32} {x3 : Int32} {σ : zS} {ω : fW} {kb : Nat}
    (H : (1 ≤ kb ∧ ∀ n : Nat, CT (gB G.1 n) l M_X6_right 1 [.ref (zad G.1 0), .int x2, .int x3] σ (zQi (fun v1 σ2 => (1 ≤ (kb - 1) ∧ ∀ n : Nat, CT (gB G.1 n) l M_X6_bestPull 1 [.ref (zad G.1 0), .int x2, .int x3] σ2 (zQi (fun v3 σ4 => ((v3 = 0 → L_L_comes_54 G l K r1 x2 x3 v1 0 (some σ4) ω ((kb - 1) - 1)) ∧ (¬ v3 = 0 → (1 ≤ ((kb - 1) - 1) ∧ ∀ n : Nat, CT (gB G.1 n) l M_X6_pull 1 [.ref (zad G.1 0), .int v3] σ4 (zQi (fun v6 σ7 => ((v6 < 1 → K 0 (some σ7) ω) ∧ (¬ v6 < 1 → (1 ≤ (((kb - 1) - 1) - 1) ∧ ∀ n : Nat, CT (gB G.1 n) l M_X6_right 1 [.ref (zad G.1 0), .int x2, .int x3] σ7 (zQi (fun v9 σ10 => ((v9 ≤ v1 → K 0 (some σ10) ω) ∧ (¬ v9 ≤ v1 → (0 ≤ ((((kb - 1) - 1) - 1) - 1) ∧ ∀ n : Nat, CT (gB G.1 n) l M_X6_undo 0 [.ref (zad G.1 0)] σ10 (zQi (fun v12 σ13 => ((0 ≤ v12 → L_L_comes_54 G l K r1 x2 x3 v1 0 (some σ13) ω (((((kb - 1) - 1) - 1) - 1) - 0)) ∧ (¬ 0 ≤ v12 → K 0 (some σ13) ω))) (fun _ _ => False)))))) (fun _ _ => False)))))) (fun _ _ => False)))))) (fun _ _ => False)))) (fun _ _ => False)))) :
    FC G l M_L_comes kb [.ref (zad G.1 0), .ref r1, .int x2, .int x3] ((some σ), ω) (fQi K) := by
  refine FC_of (by decide) (Nat.le_of_ble_eq_true rfl) ?_
  change FV _ _ _ _ _ 0 [(0, .ref (zad G.1 0)), (1, .ref r1), (2, .int x2), (3, .int x3)] [] _
  refine f_aload_n dL_comes_0 rfl 0 rfl ?_
  refine f_iload_n dL_comes_1 rfl 2 rfl ?_
  refine f_iload_n dL_comes_2 rfl 3 rfl ?_
  refine f_callCi (oo := 0) (j1 := 1) (j2 := (kb - 1)) (av := [.int x2, .int x3]) rfl rfl (by decide) rfl rfl H.2 i_X6_right rfl n_X6_right v_X6_right q_L_192 (by decide) (f_kj H.1) (Nat.le_of_ble_eq_true rfl) dL_comes_3 (fun v1 σ2 H => ?_)
  refine f_istore (ls' := [(4, .int v1), (0, .ref (zad G.1 0)), (1, .ref r1), (2, .int x2), (3, .int x3)]) dL_comes_6 (by decide) rfl ?_
  refine f_aload_n dL_comes_8 rfl 1 rfl ?_
  refine f_iload_n dL_comes_9 rfl 3 rfl ?_
  refine f_iload_n dL_comes_10 rfl 4 rfl ?_
  refine f_callCi (oo := 0) (j1 := 1) (j2 := ((kb - 1) - 1)) (av := [.int x2, .int x3]) rfl rfl (by decide) rfl rfl H.2 i_X6_bestPull rfl n_X6_bestPull v_X6_bestPull q_L_221 (by decide) (f_kj H.1) (Nat.le_of_ble_eq_true rfl) dL_comes_11 (fun v3 σ4 H => ?_)
  refine f_istore (ls' := [(5, .int v3), (4, .int v1), (0, .ref (zad G.1 0)), (1, .ref r1), (2, .int x2), (3, .int x3)]) dL_comes_14 (by decide) rfl ?_
  refine f_iload dL_comes_16 0 rfl ?_
  refine f_if_eq (tgt := 51) dL_comes_18 (by decide) (fun h5 => ?_) (fun h5 => ?_)
  · replace H := H.1 h5
    refine f_iconst (v := 0) dL_comes_51 (by decide) ?_
    refine f_istore (ls' := [(6, .int 0), (5, .int v3), (4, .int v1), (0, .ref (zad G.1 0)), (1, .ref r1), (2, .int x2), (3, .int x3)]) dL_comes_52 (by decide) rfl ?_
    refine f_ls [3, 4, 5, 6, 2, 0] rfl ?_
    exact H
  · replace H := H.2 h5
    refine f_aload_n dL_comes_21 rfl 2 rfl ?_
    refine f_iload dL_comes_22 0 rfl ?_
    refine f_callCi (oo := 0) (j1 := 1) (j2 := (((kb - 1) - 1) - 1)) (av := [.int v3]) rfl rfl (by decide) rfl rfl H.2 i_X6_pull rfl n_X6_pull v_X6_pull q_L_139 (by decide) (f_kj H.1) (Nat.le_of_ble_eq_true rfl) dL_comes_24 (fun v6 σ7 H => ?_)
    refine f_iconst (v := 1) dL_comes_27 (by decide) ?_
    refine f_icmp_lt (tgt := 49) dL_comes_28 (by decide) (fun h8 => ?_) (fun h8 => ?_)
    · replace H := H.1 h8
      refine f_iconst (v := 0) dL_comes_49 (by decide) ?_
      exact f_zret rfl rfl dL_comes_50 ⟨_, rfl, H⟩
    · replace H := H.2 h8
      refine f_aload_n dL_comes_31 rfl 2 rfl ?_
      refine f_iload_n dL_comes_32 rfl 4 rfl ?_
      refine f_iload_n dL_comes_33 rfl 5 rfl ?_
      refine f_callCi (oo := 0) (j1 := 1) (j2 := ((((kb - 1) - 1) - 1) - 1)) (av := [.int x2, .int x3]) rfl rfl (by decide) rfl rfl H.2 i_X6_right rfl n_X6_right v_X6_right q_L_192 (by decide) (f_kj H.1) (Nat.le_of_ble_eq_true rfl) dL_comes_34 (fun v9 σ10 H => ?_)
      refine f_iload dL_comes_37 1 rfl ?_
      refine f_icmp_le (tgt := 49) dL_comes_39 (by decide) (fun h11 => ?_) (fun h11 => ?_)
      · replace H := H.1 h11
        refine f_iconst (v := 0) dL_comes_49 (by decide) ?_
        exact f_zret rfl rfl dL_comes_50 ⟨_, rfl, H⟩
      · replace H := H.2 h11
        refine f_aload_n dL_comes_42 rfl 2 rfl ?_
        refine f_callCi (oo := 0) (j1 := 0) (j2 := (((((kb - 1) - 1) - 1) - 1) - 0)) (av := []) rfl rfl (by decide) rfl rfl H.2 i_X6_undo rfl n_X6_undo v_X6_undo q_L_224 (by decide) (f_kj H.1) (Nat.le_of_ble_eq_true rfl) dL_comes_43 (fun v12 σ13 H => ?_)
        refine f_if_ge (tgt := 51) dL_comes_46 (by decide) (fun h14 => ?_) (fun h14 => ?_)
        · replace H := H.1 h14
          refine f_iconst (v := 0) dL_comes_51 (by decide) ?_
          refine f_istore (ls' := [(6, .int 0), (5, .int v3), (4, .int v1), (0, .ref (zad G.1 0)), (1, .ref r1), (2, .int x2), (3, .int x3)]) dL_comes_52 (by decide) rfl ?_
          refine f_ls [3, 4, 5, 6, 2, 0] rfl ?_
          exact H
        · replace H := H.2 h14
          refine f_iconst (v := 0) dL_comes_49 (by decide) ?_
          exact f_zret rfl rfl dL_comes_50 ⟨_, rfl, H⟩
set_option maxRecDepth 20000 in
set_option maxHeartbeats 2000000 in
theorem b_L_comes_54 {G : fG} {l : Launch} {K : Int32 → Option zS → fW → Prop} {r1 : Nat} {y2 : Int32} {y3 : Int32} {y4 : Int32} {y6 : Int32} {o : Option zS} {ω : fW} {kb : Nat}
    (H : (∃ σ22 : zS, o = some σ22 ∧ (1 ≤ kb ∧ ∀ n : Nat, CT (gB G.1 n) l M_X6_setting 1 [.ref (zad G.1 0), .int 0] σ22 (zQi (fun v1 σ2 => ((v1 ≤ y6 → (0 ≤ (kb - 1) ∧ ∀ n : Nat, CT (gB G.1 n) l M_X6_paintable 0 [.ref (zad G.1 0), .int y3] σ2 (zQi (fun v4 σ5 => L_L_comes_146 G l K r1 y3 v4 0 (some σ5) ω ((kb - 1) - 0)) (fun _ _ => False)))) ∧ (¬ v1 ≤ y6 → (2 ≤ (kb - 1) ∧ ∀ n : Nat, CT (gB G.1 n) l M_X6_slat 2 [.ref (zad G.1 0), .int y6, .int 3] σ2 (zQi (fun v6 σ7 => ((¬ v6 = 1 → (1 ≤ ((kb - 1) - 2) ∧ ∀ n : Nat, CT (gB G.1 n) l M_X6_bestTurn 1 [.ref (zad G.1 0), .int y6, .int y2, .int y3] σ7 (zQi (fun v9 σ10 => (2 ≤ (((kb - 1) - 2) - 1) ∧ ∀ n : Nat, CT (gB G.1 n) l M_X6_slat 2 [.ref (zad G.1 0), .int y6, .int 2] σ10 (zQi (fun v11 σ12 => (1 ≤ ((((kb - 1) - 2) - 1) - 2) ∧ ∀ n : Nat, CT (gB G.1 n) l M_X6_turn 1 [.ref (zad G.1 0), .int y6, .int v9] σ12 (zQi (fun v13 σ14 => ((¬ v13 = v11 → K 0 (some σ14) ω) ∧ (v13 = v11 → (1 ≤ (((((kb - 1) - 2) - 1) - 2) - 1) ∧ ∀ n : Nat, CT (gB G.1 n) l M_X6_right 1 [.ref (zad G.1 0), .int y2, .int y3] σ14 (zQi (fun v16 σ17 => ((v16 < y4 → K 0 (some σ17) ω) ∧ (¬ v16 < y4 → (0 ≤ ((((((kb - 1) - 2) - 1) - 2) - 1) - 1) ∧ ∀ n : Nat, CT (gB G.1 n) l M_X6_undo 0 [.ref (zad G.1 0)] σ17 (zQi (fun v19 σ20 => ((0 ≤ v19 → L_L_comes_54 G l K r1 y2 y3 y4 (y6 + 1) (some σ20) ω (((((((kb - 1) - 2) - 1) - 2) - 1) - 1) - 0)) ∧ (¬ 0 ≤ v19 → K 0 (some σ20) ω))) (fun _ _ => False)))))) (fun _ _ => False)))))) (fun _ _ => False)))) (fun _ _ => False)))) (fun _ _ => False)))) ∧ (v6 = 1 → L_L_comes_54 G l K r1 y2 y3 y4 (y6 + 1) (some σ7) ω ((kb - 1) - 2)))) (fun _ _ => False)))))) (fun _ _ => False))))) :
    L_L_comes_54 G l K r1 y2 y3 y4 y6 o ω kb := by
  refine f_iload dL_comes_54 5 rfl ?_
  refine f_aload_n dL_comes_56 rfl 0 rfl ?_
  refine f_iconst (v := 0) dL_comes_57 (by decide) ?_
  obtain ⟨σ22, he, H⟩ := H
  subst he
  refine f_callCi (oo := 0) (j1 := 1) (j2 := (kb - 1)) (av := [.int 0]) rfl rfl (by decide) rfl rfl H.2 i_X6_setting rfl n_X6_setting v_X6_setting q_L_131 (by decide) (f_kj H.1) (Nat.le_of_ble_eq_true rfl) dL_comes_58 (fun v1 σ2 H => ?_)
  refine f_icmp_ge (tgt := 136) dL_comes_61 (by decide) (fun h3 => ?_) (fun h3 => ?_)
  · replace H := H.1 h3
    refine f_aload_n dL_comes_136 rfl 0 rfl ?_
    refine f_iload_n dL_comes_137 rfl 3 rfl ?_
    refine f_callCi (oo := 0) (j1 := 0) (j2 := ((kb - 1) - 0)) (av := [.int y3]) rfl rfl (by decide) rfl rfl H.2 i_X6_paintable rfl n_X6_paintable v_X6_paintable q_L_231 (by decide) (f_kj H.1) (Nat.le_of_ble_eq_true rfl) dL_comes_138 (fun v4 σ5 H => ?_)
    refine f_istore (ls' := [(6, .int v4), (0, .ref (zad G.1 0)), (1, .ref r1), (2, .int y2), (3, .int y3), (4, .int y4)]) dL_comes_141 (by decide) rfl ?_
    refine f_iconst (v := 0) dL_comes_143 (by decide) ?_
    refine f_istore (ls' := [(7, .int 0), (6, .int v4), (0, .ref (zad G.1 0)), (1, .ref r1), (2, .int y2), (3, .int y3), (4, .int y4)]) dL_comes_144 (by decide) rfl ?_
    refine f_ls [2, 3, 5, 1, 0] rfl ?_
    exact H
  · replace H := H.2 h3
    refine f_aload_n dL_comes_64 rfl 0 rfl ?_
    refine f_iload dL_comes_65 5 rfl ?_
    refine f_iconst (v := 3) dL_comes_67 (by decide) ?_
    refine f_callCi (oo := 0) (j1 := 2) (j2 := ((kb - 1) - 2)) (av := [.int y6, .int 3]) rfl rfl (by decide) rfl rfl H.2 i_X6_slat rfl n_X6_slat v_X6_slat q_L_106 (by decide) (f_kj H.1) (Nat.le_of_ble_eq_true rfl) dL_comes_68 (fun v6 σ7 H => ?_)
    refine f_iconst (v := 1) dL_comes_71 (by decide) ?_
    refine f_icmp_ne (tgt := 78) dL_comes_72 (by decide) (fun h8 => ?_) (fun h8 => ?_)
    · replace H := H.1 h8
      refine f_aload_n dL_comes_78 rfl 0 rfl ?_
      refine f_iload dL_comes_79 5 rfl ?_
      refine f_iload_n dL_comes_81 rfl 2 rfl ?_
      refine f_iload_n dL_comes_82 rfl 3 rfl ?_
      refine f_callCi (oo := 0) (j1 := 1) (j2 := (((kb - 1) - 2) - 1)) (av := [.int y6, .int y2, .int y3]) rfl rfl (by decide) rfl rfl H.2 i_X6_bestTurn rfl n_X6_bestTurn v_X6_bestTurn q_L_227 (by decide) (f_kj H.1) (Nat.le_of_ble_eq_true rfl) dL_comes_83 (fun v9 σ10 H => ?_)
      refine f_istore (ls' := [(7, .int v9), (0, .ref (zad G.1 0)), (1, .ref r1), (2, .int y2), (3, .int y3), (4, .int y4), (6, .int y6)]) dL_comes_86 (by decide) rfl ?_
      refine f_aload_n dL_comes_88 rfl 1 rfl ?_
      refine f_iload dL_comes_89 6 rfl ?_
      refine f_iconst (v := 2) dL_comes_91 (by decide) ?_
      refine f_callCi (oo := 0) (j1 := 2) (j2 := ((((kb - 1) - 2) - 1) - 2)) (av := [.int y6, .int 2]) rfl rfl (by decide) rfl rfl H.2 i_X6_slat rfl n_X6_slat v_X6_slat q_L_106 (by decide) (f_kj H.1) (Nat.le_of_ble_eq_true rfl) dL_comes_92 (fun v11 σ12 H => ?_)
      refine f_istore (ls' := [(8, .int v11), (7, .int v9), (0, .ref (zad G.1 0)), (1, .ref r1), (2, .int y2), (3, .int y3), (4, .int y4), (6, .int y6)]) dL_comes_95 (by decide) rfl ?_
      refine f_aload_n dL_comes_97 rfl 2 rfl ?_
      refine f_iload dL_comes_98 7 rfl ?_
      refine f_iload dL_comes_100 1 rfl ?_
      refine f_callCi (oo := 0) (j1 := 1) (j2 := (((((kb - 1) - 2) - 1) - 2) - 1)) (av := [.int y6, .int v9]) rfl rfl (by decide) rfl rfl H.2 i_X6_turn rfl n_X6_turn v_X6_turn q_L_144 (by decide) (f_kj H.1) (Nat.le_of_ble_eq_true rfl) dL_comes_102 (fun v13 σ14 H => ?_)
      refine f_iload dL_comes_105 0 rfl ?_
      refine f_icmp_ne (tgt := 128) dL_comes_107 (by decide) (fun h15 => ?_) (fun h15 => ?_)
      · replace H := H.1 h15
        refine f_iconst (v := 0) dL_comes_128 (by decide) ?_
        exact f_zret rfl rfl dL_comes_129 ⟨_, rfl, H⟩
      · replace H := H.2 h15
        refine f_aload_n dL_comes_110 rfl 2 rfl ?_
        refine f_iload_n dL_comes_111 rfl 4 rfl ?_
        refine f_iload_n dL_comes_112 rfl 5 rfl ?_
        refine f_callCi (oo := 0) (j1 := 1) (j2 := ((((((kb - 1) - 2) - 1) - 2) - 1) - 1)) (av := [.int y2, .int y3]) rfl rfl (by decide) rfl rfl H.2 i_X6_right rfl n_X6_right v_X6_right q_L_192 (by decide) (f_kj H.1) (Nat.le_of_ble_eq_true rfl) dL_comes_113 (fun v16 σ17 H => ?_)
        refine f_iload dL_comes_116 6 rfl ?_
        refine f_icmp_lt (tgt := 128) dL_comes_118 (by decide) (fun h18 => ?_) (fun h18 => ?_)
        · replace H := H.1 h18
          refine f_iconst (v := 0) dL_comes_128 (by decide) ?_
          exact f_zret rfl rfl dL_comes_129 ⟨_, rfl, H⟩
        · replace H := H.2 h18
          refine f_aload_n dL_comes_121 rfl 2 rfl ?_
          refine f_callCi (oo := 0) (j1 := 0) (j2 := (((((((kb - 1) - 2) - 1) - 2) - 1) - 1) - 0)) (av := []) rfl rfl (by decide) rfl rfl H.2 i_X6_undo rfl n_X6_undo v_X6_undo q_L_224 (by decide) (f_kj H.1) (Nat.le_of_ble_eq_true rfl) dL_comes_122 (fun v19 σ20 H => ?_)
          refine f_if_ge (tgt := 130) dL_comes_125 (by decide) (fun h21 => ?_) (fun h21 => ?_)
          · replace H := H.1 h21
            refine f_iinc (j := 7) (v := (y6 + 1)) (ls' := [(6, .int (y6 + 1)), (8, .int v11), (7, .int v9), (0, .ref (zad G.1 0)), (1, .ref r1), (2, .int y2), (3, .int y3), (4, .int y4)]) dL_comes_130 rfl rfl (by decide) rfl ?_
            refine f_goto (tgt := 54) dL_comes_133 (by decide) ?_
            refine f_ls [3, 4, 5, 6, 7, 0] rfl ?_
            exact H
          · replace H := H.2 h21
            refine f_iconst (v := 0) dL_comes_128 (by decide) ?_
            exact f_zret rfl rfl dL_comes_129 ⟨_, rfl, H⟩
    · replace H := H.2 h8
      refine f_goto (tgt := 130) dL_comes_75 (by decide) ?_
      refine f_iinc (j := 5) (v := (y6 + 1)) (ls' := [(6, .int (y6 + 1)), (0, .ref (zad G.1 0)), (1, .ref r1), (2, .int y2), (3, .int y3), (4, .int y4)]) dL_comes_130 rfl rfl (by decide) rfl ?_
      refine f_goto (tgt := 54) dL_comes_133 (by decide) ?_
      refine f_ls [1, 2, 3, 4, 5, 0] rfl ?_
      exact H
set_option maxRecDepth 20000 in
set_option maxHeartbeats 2000000 in
theorem b_L_comes_146 {G : fG} {l : Launch} {K : Int32 → Option zS → fW → Prop} {r1 : Nat} {y3 : Int32} {y6 : Int32} {y7 : Int32} {o : Option zS} {ω : fW} {kb : Nat}
    (H : (∃ σ45 : zS, o = some σ45 ∧ (1 ≤ kb ∧ ∀ n : Nat, CT (gB G.1 n) l M_X6_setting 1 [.ref (zad G.1 0), .int 0] σ45 (zQi (fun v1 σ2 => ((v1 ≤ y7 → (500 ≤ (kb - 1) ∧ FC G l M_L_alike 500 [.ref (zad G.1 0), .ref r1] ((some σ2), ω) (fQi (fun v4 o5 ω6 => (zbl v4 ∧ K v4 o5 ω6))))) ∧ (¬ v1 ≤ y7 → ((¬ ((y6 >>> (y7 &&& 31)) &&& 1) = 0 → ((y3 = 0 → (2 ≤ (kb - 1) ∧ ∀ n : Nat, CT (gB G.1 n) l M_X6_slat 2 [.ref (zad G.1 0), .int y7, .int 6] σ2 (zQi (fun v9 σ10 => (1 ≤ ((kb - 1) - 2) ∧ ∀ n : Nat, CT (gB G.1 n) l M_X6_paint 1 [.ref (zad G.1 0), .int y7, .int y3] σ10 (zQi (fun v11 σ12 => ((¬ v11 = v9 → K 0 (some σ12) ω) ∧ (v11 = v9 → ((y3 = 0 → (2 ≤ (((kb - 1) - 2) - 1) ∧ ∀ n : Nat, CT (gB G.1 n) l M_X6_slat 2 [.ref (zad G.1 0), .int y7, .int 6] σ12 (zQi (fun v15 σ16 => ((¬ v15 = 0 → K 0 (some σ16) ω) ∧ (v15 = 0 → (0 ≤ ((((kb - 1) - 2) - 1) - 2) ∧ ∀ n : Nat, CT (gB G.1 n) l M_X6_undo 0 [.ref (zad G.1 0)] σ16 (zQi (fun v18 σ19 => ((0 ≤ v18 → L_L_comes_146 G l K r1 y3 y6 (y7 + 1) (some σ19) ω (((((kb - 1) - 2) - 1) - 2) - 0)) ∧ (¬ 0 ≤ v18 → K 0 (some σ19) ω))) (fun _ _ => False)))))) (fun _ _ => False)))) ∧ (¬ y3 = 0 → (2 ≤ (((kb - 1) - 2) - 1) ∧ ∀ n : Nat, CT (gB G.1 n) l M_X6_slat 2 [.ref (zad G.1 0), .int y7, .int 7] σ12 (zQi (fun v21 σ22 => ((¬ v21 = 0 → K 0 (some σ22) ω) ∧ (v21 = 0 → (0 ≤ ((((kb - 1) - 2) - 1) - 2) ∧ ∀ n : Nat, CT (gB G.1 n) l M_X6_undo 0 [.ref (zad G.1 0)] σ22 (zQi (fun v24 σ25 => ((0 ≤ v24 → L_L_comes_146 G l K r1 y3 y6 (y7 + 1) (some σ25) ω (((((kb - 1) - 2) - 1) - 2) - 0)) ∧ (¬ 0 ≤ v24 → K 0 (some σ25) ω))) (fun _ _ => False)))))) (fun _ _ => False)))))))) (fun _ _ => False)))) (fun _ _ => False)))) ∧ (¬ y3 = 0 → (2 ≤ (kb - 1) ∧ ∀ n : Nat, CT (gB G.1 n) l M_X6_slat 2 [.ref (zad G.1 0), .int y7, .int 7] σ2 (zQi (fun v27 σ28 => (1 ≤ ((kb - 1) - 2) ∧ ∀ n : Nat, CT (gB G.1 n) l M_X6_paint 1 [.ref (zad G.1 0), .int y7, .int y3] σ28 (zQi (fun v29 σ30 => ((¬ v29 = v27 → K 0 (some σ30) ω) ∧ (v29 = v27 → ((y3 = 0 → (2 ≤ (((kb - 1) - 2) - 1) ∧ ∀ n : Nat, CT (gB G.1 n) l M_X6_slat 2 [.ref (zad G.1 0), .int y7, .int 6] σ30 (zQi (fun v33 σ34 => ((¬ v33 = 0 → K 0 (some σ34) ω) ∧ (v33 = 0 → (0 ≤ ((((kb - 1) - 2) - 1) - 2) ∧ ∀ n : Nat, CT (gB G.1 n) l M_X6_undo 0 [.ref (zad G.1 0)] σ34 (zQi (fun v36 σ37 => ((0 ≤ v36 → L_L_comes_146 G l K r1 y3 y6 (y7 + 1) (some σ37) ω (((((kb - 1) - 2) - 1) - 2) - 0)) ∧ (¬ 0 ≤ v36 → K 0 (some σ37) ω))) (fun _ _ => False)))))) (fun _ _ => False)))) ∧ (¬ y3 = 0 → (2 ≤ (((kb - 1) - 2) - 1) ∧ ∀ n : Nat, CT (gB G.1 n) l M_X6_slat 2 [.ref (zad G.1 0), .int y7, .int 7] σ30 (zQi (fun v39 σ40 => ((¬ v39 = 0 → K 0 (some σ40) ω) ∧ (v39 = 0 → (0 ≤ ((((kb - 1) - 2) - 1) - 2) ∧ ∀ n : Nat, CT (gB G.1 n) l M_X6_undo 0 [.ref (zad G.1 0)] σ40 (zQi (fun v42 σ43 => ((0 ≤ v42 → L_L_comes_146 G l K r1 y3 y6 (y7 + 1) (some σ43) ω (((((kb - 1) - 2) - 1) - 2) - 0)) ∧ (¬ 0 ≤ v42 → K 0 (some σ43) ω))) (fun _ _ => False)))))) (fun _ _ => False)))))))) (fun _ _ => False)))) (fun _ _ => False)))))) ∧ (((y6 >>> (y7 &&& 31)) &&& 1) = 0 → L_L_comes_146 G l K r1 y3 y6 (y7 + 1) (some σ2) ω (kb - 1)))))) (fun _ _ => False))))) :
    L_L_comes_146 G l K r1 y3 y6 y7 o ω kb := by
  refine f_iload dL_comes_146 4 rfl ?_
  refine f_aload_n dL_comes_148 rfl 0 rfl ?_
  refine f_iconst (v := 0) dL_comes_149 (by decide) ?_
  obtain ⟨σ45, he, H⟩ := H
  subst he
  refine f_callCi (oo := 0) (j1 := 1) (j2 := (kb - 1)) (av := [.int 0]) rfl rfl (by decide) rfl rfl H.2 i_X6_setting rfl n_X6_setting v_X6_setting q_L_131 (by decide) (f_kj H.1) (Nat.le_of_ble_eq_true rfl) dL_comes_150 (fun v1 σ2 H => ?_)
  refine f_icmp_ge (tgt := 235) dL_comes_153 (by decide) (fun h3 => ?_) (fun h3 => ?_)
  · replace H := H.1 h3
    refine f_aload_n dL_comes_235 rfl 0 rfl ?_
    refine f_aload_n dL_comes_236 rfl 1 rfl ?_
    refine f_callSi (j1 := 500) (j2 := ((kb - 1) - 500)) (av := [.ref (zad G.1 0), .ref r1]) rfl H.2 i_L_alike rfl s_L_alike q_L_234 (by decide) (f_kj H.1) (Nat.le_of_ble_eq_true rfl) dL_comes_237 (fun v4 o5 ω6 H => ?_)
    exact f_zret rfl (zbl_n H.1) dL_comes_240 ⟨_, rfl, H.2⟩
  · replace H := H.2 h3
    refine f_iload dL_comes_156 3 rfl ?_
    refine f_iload dL_comes_158 4 rfl ?_
    refine f_ishr dL_comes_160 ?_
    refine f_iconst (v := 1) dL_comes_161 (by decide) ?_
    refine f_iand dL_comes_162 ?_
    refine f_if_ne (tgt := 169) dL_comes_163 (by decide) (fun h7 => ?_) (fun h7 => ?_)
    · replace H := H.1 h7
      refine f_aload_n dL_comes_169 rfl 0 rfl ?_
      refine f_iload dL_comes_170 4 rfl ?_
      refine f_iload_n dL_comes_172 rfl 2 rfl ?_
      refine f_if_eq (tgt := 181) dL_comes_173 (by decide) (fun h8 => ?_) (fun h8 => ?_)
      · replace H := H.1 h8
        refine f_bipush (v := 6) dL_comes_181 (by decide) ?_
        refine f_callCi (oo := 0) (j1 := 2) (j2 := ((kb - 1) - 2)) (av := [.int y7, .int 6]) rfl rfl (by decide) rfl rfl H.2 i_X6_slat rfl n_X6_slat v_X6_slat q_L_106 (by decide) (f_kj H.1) (Nat.le_of_ble_eq_true rfl) dL_comes_183 (fun v9 σ10 H => ?_)
        refine f_istore (ls' := [(8, .int v9), (0, .ref (zad G.1 0)), (1, .ref r1), (3, .int y3), (6, .int y6), (7, .int y7)]) dL_comes_186 (by decide) rfl ?_
        refine f_aload_n dL_comes_188 rfl 1 rfl ?_
        refine f_iload dL_comes_189 5 rfl ?_
        refine f_iload_n dL_comes_191 rfl 3 rfl ?_
        refine f_callCi (oo := 0) (j1 := 1) (j2 := (((kb - 1) - 2) - 1)) (av := [.int y7, .int y3]) rfl rfl (by decide) rfl rfl H.2 i_X6_paint rfl n_X6_paint v_X6_paint q_L_155 (by decide) (f_kj H.1) (Nat.le_of_ble_eq_true rfl) dL_comes_192 (fun v11 σ12 H => ?_)
        refine f_iload dL_comes_195 0 rfl ?_
        refine f_icmp_ne (tgt := 227) dL_comes_197 (by decide) (fun h13 => ?_) (fun h13 => ?_)
        · replace H := H.1 h13
          refine f_iconst (v := 0) dL_comes_227 (by decide) ?_
          exact f_zret rfl rfl dL_comes_228 ⟨_, rfl, H⟩
        · replace H := H.2 h13
          refine f_aload_n dL_comes_200 rfl 1 rfl ?_
          refine f_iload dL_comes_201 5 rfl ?_
          refine f_iload_n dL_comes_203 rfl 3 rfl ?_
          refine f_if_eq (tgt := 212) dL_comes_204 (by decide) (fun h14 => ?_) (fun h14 => ?_)
          · replace H := H.1 h14
            refine f_bipush (v := 6) dL_comes_212 (by decide) ?_
            refine f_callCi (oo := 0) (j1 := 2) (j2 := ((((kb - 1) - 2) - 1) - 2)) (av := [.int y7, .int 6]) rfl rfl (by decide) rfl rfl H.2 i_X6_slat rfl n_X6_slat v_X6_slat q_L_106 (by decide) (f_kj H.1) (Nat.le_of_ble_eq_true rfl) dL_comes_214 (fun v15 σ16 H => ?_)
            refine f_if_ne (tgt := 227) dL_comes_217 (by decide) (fun h17 => ?_) (fun h17 => ?_)
            · replace H := H.1 h17
              refine f_iconst (v := 0) dL_comes_227 (by decide) ?_
              exact f_zret rfl rfl dL_comes_228 ⟨_, rfl, H⟩
            · replace H := H.2 h17
              refine f_aload_n dL_comes_220 rfl 1 rfl ?_
              refine f_callCi (oo := 0) (j1 := 0) (j2 := (((((kb - 1) - 2) - 1) - 2) - 0)) (av := []) rfl rfl (by decide) rfl rfl H.2 i_X6_undo rfl n_X6_undo v_X6_undo q_L_224 (by decide) (f_kj H.1) (Nat.le_of_ble_eq_true rfl) dL_comes_221 (fun v18 σ19 H => ?_)
              refine f_if_ge (tgt := 229) dL_comes_224 (by decide) (fun h20 => ?_) (fun h20 => ?_)
              · replace H := H.1 h20
                refine f_iinc (j := 5) (v := (y7 + 1)) (ls' := [(7, .int (y7 + 1)), (8, .int v9), (0, .ref (zad G.1 0)), (1, .ref r1), (3, .int y3), (6, .int y6)]) dL_comes_229 rfl rfl (by decide) rfl ?_
                refine f_goto (tgt := 146) dL_comes_232 (by decide) ?_
                refine f_ls [2, 3, 4, 5, 0] rfl ?_
                exact H
              · replace H := H.2 h20
                refine f_iconst (v := 0) dL_comes_227 (by decide) ?_
                exact f_zret rfl rfl dL_comes_228 ⟨_, rfl, H⟩
          · replace H := H.2 h14
            refine f_bipush (v := 7) dL_comes_207 (by decide) ?_
            refine f_goto (tgt := 214) dL_comes_209 (by decide) ?_
            refine f_callCi (oo := 0) (j1 := 2) (j2 := ((((kb - 1) - 2) - 1) - 2)) (av := [.int y7, .int 7]) rfl rfl (by decide) rfl rfl H.2 i_X6_slat rfl n_X6_slat v_X6_slat q_L_106 (by decide) (f_kj H.1) (Nat.le_of_ble_eq_true rfl) dL_comes_214 (fun v21 σ22 H => ?_)
            refine f_if_ne (tgt := 227) dL_comes_217 (by decide) (fun h23 => ?_) (fun h23 => ?_)
            · replace H := H.1 h23
              refine f_iconst (v := 0) dL_comes_227 (by decide) ?_
              exact f_zret rfl rfl dL_comes_228 ⟨_, rfl, H⟩
            · replace H := H.2 h23
              refine f_aload_n dL_comes_220 rfl 1 rfl ?_
              refine f_callCi (oo := 0) (j1 := 0) (j2 := (((((kb - 1) - 2) - 1) - 2) - 0)) (av := []) rfl rfl (by decide) rfl rfl H.2 i_X6_undo rfl n_X6_undo v_X6_undo q_L_224 (by decide) (f_kj H.1) (Nat.le_of_ble_eq_true rfl) dL_comes_221 (fun v24 σ25 H => ?_)
              refine f_if_ge (tgt := 229) dL_comes_224 (by decide) (fun h26 => ?_) (fun h26 => ?_)
              · replace H := H.1 h26
                refine f_iinc (j := 5) (v := (y7 + 1)) (ls' := [(7, .int (y7 + 1)), (8, .int v9), (0, .ref (zad G.1 0)), (1, .ref r1), (3, .int y3), (6, .int y6)]) dL_comes_229 rfl rfl (by decide) rfl ?_
                refine f_goto (tgt := 146) dL_comes_232 (by decide) ?_
                refine f_ls [2, 3, 4, 5, 0] rfl ?_
                exact H
              · replace H := H.2 h26
                refine f_iconst (v := 0) dL_comes_227 (by decide) ?_
                exact f_zret rfl rfl dL_comes_228 ⟨_, rfl, H⟩
      · replace H := H.2 h8
        refine f_bipush (v := 7) dL_comes_176 (by decide) ?_
        refine f_goto (tgt := 183) dL_comes_178 (by decide) ?_
        refine f_callCi (oo := 0) (j1 := 2) (j2 := ((kb - 1) - 2)) (av := [.int y7, .int 7]) rfl rfl (by decide) rfl rfl H.2 i_X6_slat rfl n_X6_slat v_X6_slat q_L_106 (by decide) (f_kj H.1) (Nat.le_of_ble_eq_true rfl) dL_comes_183 (fun v27 σ28 H => ?_)
        refine f_istore (ls' := [(8, .int v27), (0, .ref (zad G.1 0)), (1, .ref r1), (3, .int y3), (6, .int y6), (7, .int y7)]) dL_comes_186 (by decide) rfl ?_
        refine f_aload_n dL_comes_188 rfl 1 rfl ?_
        refine f_iload dL_comes_189 5 rfl ?_
        refine f_iload_n dL_comes_191 rfl 3 rfl ?_
        refine f_callCi (oo := 0) (j1 := 1) (j2 := (((kb - 1) - 2) - 1)) (av := [.int y7, .int y3]) rfl rfl (by decide) rfl rfl H.2 i_X6_paint rfl n_X6_paint v_X6_paint q_L_155 (by decide) (f_kj H.1) (Nat.le_of_ble_eq_true rfl) dL_comes_192 (fun v29 σ30 H => ?_)
        refine f_iload dL_comes_195 0 rfl ?_
        refine f_icmp_ne (tgt := 227) dL_comes_197 (by decide) (fun h31 => ?_) (fun h31 => ?_)
        · replace H := H.1 h31
          refine f_iconst (v := 0) dL_comes_227 (by decide) ?_
          exact f_zret rfl rfl dL_comes_228 ⟨_, rfl, H⟩
        · replace H := H.2 h31
          refine f_aload_n dL_comes_200 rfl 1 rfl ?_
          refine f_iload dL_comes_201 5 rfl ?_
          refine f_iload_n dL_comes_203 rfl 3 rfl ?_
          refine f_if_eq (tgt := 212) dL_comes_204 (by decide) (fun h32 => ?_) (fun h32 => ?_)
          · replace H := H.1 h32
            refine f_bipush (v := 6) dL_comes_212 (by decide) ?_
            refine f_callCi (oo := 0) (j1 := 2) (j2 := ((((kb - 1) - 2) - 1) - 2)) (av := [.int y7, .int 6]) rfl rfl (by decide) rfl rfl H.2 i_X6_slat rfl n_X6_slat v_X6_slat q_L_106 (by decide) (f_kj H.1) (Nat.le_of_ble_eq_true rfl) dL_comes_214 (fun v33 σ34 H => ?_)
            refine f_if_ne (tgt := 227) dL_comes_217 (by decide) (fun h35 => ?_) (fun h35 => ?_)
            · replace H := H.1 h35
              refine f_iconst (v := 0) dL_comes_227 (by decide) ?_
              exact f_zret rfl rfl dL_comes_228 ⟨_, rfl, H⟩
            · replace H := H.2 h35
              refine f_aload_n dL_comes_220 rfl 1 rfl ?_
              refine f_callCi (oo := 0) (j1 := 0) (j2 := (((((kb - 1) - 2) - 1) - 2) - 0)) (av := []) rfl rfl (by decide) rfl rfl H.2 i_X6_undo rfl n_X6_undo v_X6_undo q_L_224 (by decide) (f_kj H.1) (Nat.le_of_ble_eq_true rfl) dL_comes_221 (fun v36 σ37 H => ?_)
              refine f_if_ge (tgt := 229) dL_comes_224 (by decide) (fun h38 => ?_) (fun h38 => ?_)
              · replace H := H.1 h38
                refine f_iinc (j := 5) (v := (y7 + 1)) (ls' := [(7, .int (y7 + 1)), (8, .int v27), (0, .ref (zad G.1 0)), (1, .ref r1), (3, .int y3), (6, .int y6)]) dL_comes_229 rfl rfl (by decide) rfl ?_
                refine f_goto (tgt := 146) dL_comes_232 (by decide) ?_
                refine f_ls [2, 3, 4, 5, 0] rfl ?_
                exact H
              · replace H := H.2 h38
                refine f_iconst (v := 0) dL_comes_227 (by decide) ?_
                exact f_zret rfl rfl dL_comes_228 ⟨_, rfl, H⟩
          · replace H := H.2 h32
            refine f_bipush (v := 7) dL_comes_207 (by decide) ?_
            refine f_goto (tgt := 214) dL_comes_209 (by decide) ?_
            refine f_callCi (oo := 0) (j1 := 2) (j2 := ((((kb - 1) - 2) - 1) - 2)) (av := [.int y7, .int 7]) rfl rfl (by decide) rfl rfl H.2 i_X6_slat rfl n_X6_slat v_X6_slat q_L_106 (by decide) (f_kj H.1) (Nat.le_of_ble_eq_true rfl) dL_comes_214 (fun v39 σ40 H => ?_)
            refine f_if_ne (tgt := 227) dL_comes_217 (by decide) (fun h41 => ?_) (fun h41 => ?_)
            · replace H := H.1 h41
              refine f_iconst (v := 0) dL_comes_227 (by decide) ?_
              exact f_zret rfl rfl dL_comes_228 ⟨_, rfl, H⟩
            · replace H := H.2 h41
              refine f_aload_n dL_comes_220 rfl 1 rfl ?_
              refine f_callCi (oo := 0) (j1 := 0) (j2 := (((((kb - 1) - 2) - 1) - 2) - 0)) (av := []) rfl rfl (by decide) rfl rfl H.2 i_X6_undo rfl n_X6_undo v_X6_undo q_L_224 (by decide) (f_kj H.1) (Nat.le_of_ble_eq_true rfl) dL_comes_221 (fun v42 σ43 H => ?_)
              refine f_if_ge (tgt := 229) dL_comes_224 (by decide) (fun h44 => ?_) (fun h44 => ?_)
              · replace H := H.1 h44
                refine f_iinc (j := 5) (v := (y7 + 1)) (ls' := [(7, .int (y7 + 1)), (8, .int v27), (0, .ref (zad G.1 0)), (1, .ref r1), (3, .int y3), (6, .int y6)]) dL_comes_229 rfl rfl (by decide) rfl ?_
                refine f_goto (tgt := 146) dL_comes_232 (by decide) ?_
                refine f_ls [2, 3, 4, 5, 0] rfl ?_
                exact H
              · replace H := H.2 h44
                refine f_iconst (v := 0) dL_comes_227 (by decide) ?_
                exact f_zret rfl rfl dL_comes_228 ⟨_, rfl, H⟩
    · replace H := H.2 h7
      refine f_goto (tgt := 229) dL_comes_166 (by decide) ?_
      refine f_iinc (j := 4) (v := (y7 + 1)) (ls' := [(7, .int (y7 + 1)), (0, .ref (zad G.1 0)), (1, .ref r1), (3, .int y3), (6, .int y6)]) dL_comes_229 rfl rfl (by decide) rfl ?_
      refine f_goto (tgt := 146) dL_comes_232 (by decide) ?_
      refine f_ls [1, 2, 3, 4, 0] rfl ?_
      exact H
