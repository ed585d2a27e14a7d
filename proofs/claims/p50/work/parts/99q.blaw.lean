/-! the law's body behind the constructor (made by wlaw.py) -/
abbrev M_L_law : zM := (yL_law, cL_law, 5, (some FieldType.boolean), 13, [])
abbrev L_L_law_40 (G : fG) (l : Launch) (K : Int32 → Option zS → fW → Prop) (r1 : Nat) (o : Option zS) (ω : fW) (kb : Nat) : Prop :=
  FV G l M_L_law kb (fQi K) 40 [] [] (o, ω)
abbrev L_L_law_44 (G : fG) (l : Launch) (K : Int32 → Option zS → fW → Prop) (r1 : Nat) (y3 : Int32) (o : Option zS) (ω : fW) (kb : Nat) : Prop :=
  FV G l M_L_law kb (fQi K) 44 [(0, .ref G.2.1), (1, .ref r1), (2, .ref (zad G.1 0)), (3, .int y3)] [] (o, ω)
abbrev L_L_law_91 (G : fG) (l : Launch) (K : Int32 → Option zS → fW → Prop) (r1 : Nat) (y3 : Int32) (y4 : Int32) (z0 : Int32) (z1 : Int32) (o : Option zS) (ω : fW) (kb : Nat) : Prop :=
  FV G l M_L_law kb (fQi K) 91 [(0, .ref G.2.1), (1, .ref r1), (2, .ref (zad G.1 0)), (3, .int y3), (4, .int y4)] [.int z0, .int z1, .ref (zad G.1 0)] (o, ω)
abbrev L_L_law_112 (G : fG) (l : Launch) (K : Int32 → Option zS → fW → Prop) (r1 : Nat) (y3 : Int32) (z0 : Int32) (z1 : Int32) (o : Option zS) (ω : fW) (kb : Nat) : Prop :=
  FV G l M_L_law kb (fQi K) 112 [(0, .ref G.2.1), (1, .ref r1), (2, .ref (zad G.1 0)), (3, .int y3)] [.int z0, .int z1, .ref r1, .ref (zad G.1 0)] (o, ω)
abbrev L_L_law_118 (G : fG) (l : Launch) (K : Int32 → Option zS → fW → Prop) (r1 : Nat) (o : Option zS) (ω : fW) (kb : Nat) : Prop :=
  FV G l M_L_law kb (fQi K) 118 [] [] (o, ω)
set_option maxRecDepth 20000 in
set_option maxHeartbeats 2000000 in
theorem b_L_law_13 {G : fG} {l : Launch} {K : Int32 → Option zS → fW → Prop} {r1 : Nat} {σ : zS} {ω : fW} {kb : Nat}
    (H : (∃ (fs1 : List Value) (w2 : Nat), ω r1 = some (.inr (11, fs1)) ∧ fs1[5]? = some (.ref w2) ∧ (100 ≤ kb ∧ FC G l M_L_feeds 100 [.ref (zad G.1 0), .ref w2] ((some σ), ω) (fQi (fun v3 o4 ω5 => ((v3 = 0 → L_L_law_40 G l K r1 o4 ω5 (kb - 100)) ∧ (¬ v3 = 0 → (∃ σ16 : zS, o4 = some σ16 ∧ (1 ≤ (kb - 100) ∧ ∀ n : Nat, CT (gB G.1 n) l M_X6_readText 1 [.ref (zad G.1 0)] σ16 (zQi (fun v7 σ8 => (∃ (fs9 : List Value) (w10 : Nat), ω5 r1 = some (.inr (11, fs9)) ∧ fs9[2]? = some (.ref w10) ∧ (0 ≤ ((kb - 100) - 1) ∧ ∃ fs15 : List Value, ω5 w10 = some (.inr (3, fs15)) ∧ FC G l M_Jx4a65c_size_8abf5 0 [.ref w10] ((some σ8), ω5) (fQi (fun v11 o12 ω13 => ((v7 = v11 → L_L_law_44 G l K r1 0 o12 ω13 ((kb - 100) - 1)) ∧ (¬ v7 = v11 → L_L_law_40 G l K r1 o12 ω13 ((kb - 100) - 1)))))))) (fun _ _ => False))))))))))) :
    FV G l M_L_law kb (fQi K) 13 [(2, .ref (zad G.1 0)), (1, .ref r1), (0, .ref G.2.1)] [] ((some σ), ω) := by
  refine f_aload_n dL_law_13 rfl 0 rfl ?_
  refine f_aload_n dL_law_14 rfl 1 rfl ?_
  obtain ⟨fs1, w2, hfs1, gfs1, H⟩ := H
  refine gf_L_243 rfl hfs1 gfs1 dL_law_15 ?_
  refine f_callSi (j1 := 100) (j2 := (kb - 100)) (av := [.ref (zad G.1 0), .ref w2]) rfl H.2 i_L_feeds rfl s_L_feeds q_L_247 (by decide) (f_kj H.1) (Nat.le_of_ble_eq_true rfl) dL_law_18 (fun v3 o4 ω5 H => ?_)
  refine f_if_eq (tgt := 40) dL_law_21 (by decide) (fun h6 => ?_) (fun h6 => ?_)
  · replace H := H.1 h6
    refine f_ls [] rfl ?_
    exact H
  · replace H := H.2 h6
    refine f_aload_n dL_law_24 rfl 0 rfl ?_
    obtain ⟨σ16, he, H⟩ := H
    subst he
    refine f_callCi (oo := 0) (j1 := 1) (j2 := ((kb - 100) - 1)) (av := []) rfl rfl (by decide) rfl rfl H.2 i_X6_readText rfl n_X6_readText v_X6_readText q_L_251 (by decide) (f_kj H.1) (Nat.le_of_ble_eq_true rfl) dL_law_25 (fun v7 σ8 H => ?_)
    refine f_aload_n dL_law_28 rfl 1 rfl ?_
    obtain ⟨fs9, w10, hfs9, gfs9, H⟩ := H
    refine gf_L_86 rfl hfs9 gfs9 dL_law_29 ?_
    have hkfs15 := H.1
    obtain ⟨fs15, hfs15, H⟩ := H.2
    refine f_callFi (j1 := 0) (j2 := ((kb - 100) - 1)) (av := []) rfl hfs15 rfl rfl H i_Jx4a65c_size_8abf5 rfl (by decide +kernel) (by decide +kernel) n_Jx4a65c_size_8abf5 vi_Jx4a65c_size_8abf5 q_L_89 (by decide) (f_kj hkfs15) (Nat.le_of_ble_eq_true rfl) dL_law_32 (fun v11 o12 ω13 H => ?_)
    refine f_icmp_eq (tgt := 42) dL_law_37 (by decide) (fun h14 => ?_) (fun h14 => ?_)
    · replace H := H.1 h14
      refine f_iconst (v := 0) dL_law_42 (by decide) ?_
      refine f_istore_n (ls' := [(3, .int 0), (2, .ref (zad G.1 0)), (1, .ref r1), (0, .ref G.2.1)]) dL_law_43 rfl (by decide) rfl ?_
      refine f_ls [3, 2, 1, 0] rfl ?_
      exact H
    · replace H := H.2 h14
      refine f_ls [] rfl ?_
      exact H
set_option maxRecDepth 20000 in
set_option maxHeartbeats 2000000 in
theorem b_L_law_40 {G : fG} {l : Launch} {K : Int32 → Option zS → fW → Prop} {r1 : Nat} {o : Option zS} {ω : fW} {kb : Nat}
    (H : K 0 o ω) :
    L_L_law_40 G l K r1 o ω kb := by
  refine f_iconst (v := 0) dL_law_40 (by decide) ?_
  exact f_zret rfl rfl dL_law_41 ⟨_, rfl, H⟩
set_option maxRecDepth 20000 in
set_option maxHeartbeats 2000000 in
theorem b_L_law_44 {G : fG} {l : Launch} {K : Int32 → Option zS → fW → Prop} {r1 : Nat} {y3 : Int32} {o : Option zS} {ω : fW} {kb : Nat}
    (H : ((16 ≤ y3 → K 1 o ω) ∧ (¬ 16 ≤ y3 → (0 ≤ kb ∧ FC G l M_L_pick 0 [.ref G.2.1, .int (400 + y3), .int 13] (o, ω) (fQi (fun v2 o3 ω4 => (20 ≤ kb ∧ FC G l M_L_acts 20 [.ref (zad G.1 0), .ref r1, .ref G.2.1, .int y3] (o3, ω4) (fQi (fun v5 o6 ω7 => ((v5 = 0 → L_L_law_118 G l K r1 o6 ω7 (kb - 20)) ∧ (¬ v5 = 0 → ((¬ (y3 - y3 / 2 * 2) = 1 → L_L_law_91 G l K r1 y3 (v2 - 6) 0 (v2 - 6) o6 ω7 (kb - 20)) ∧ ((y3 - y3 / 2 * 2) = 1 → L_L_law_91 G l K r1 y3 (v2 - 6) 1 (v2 - 6) o6 ω7 (kb - 20)))))))))))))) :
    L_L_law_44 G l K r1 y3 o ω kb := by
  refine f_iload_n dL_law_44 rfl 3 rfl ?_
  refine f_bipush (v := 16) dL_law_45 (by decide) ?_
  refine f_icmp_ge (tgt := 126) dL_law_47 (by decide) (fun h1 => ?_) (fun h1 => ?_)
  · replace H := H.1 h1
    refine f_iconst (v := 1) dL_law_126 (by decide) ?_
    exact f_zret rfl rfl dL_law_127 ⟨_, rfl, H⟩
  · replace H := H.2 h1
    refine f_aload_n dL_law_50 rfl 0 rfl ?_
    refine f_sipush (v := 400) dL_law_51 (by decide) ?_
    refine f_iload_n dL_law_54 rfl 3 rfl ?_
    refine f_iadd dL_law_55 ?_
    refine f_bipush (v := 13) dL_law_56 (by decide) ?_
    refine f_callSi (j1 := 0) (j2 := kb) (av := [.ref G.2.1, .int (400 + y3), .int 13]) rfl H.2 i_L_pick rfl s_L_pick q_L_135 (by decide) (f_kj H.1) (Nat.le_of_ble_eq_true rfl) dL_law_58 (fun v2 o3 ω4 H => ?_)
    refine f_bipush (v := 6) dL_law_61 (by decide) ?_
    refine f_isub dL_law_63 ?_
    refine f_istore (ls' := [(4, .int (v2 - 6)), (0, .ref G.2.1), (1, .ref r1), (2, .ref (zad G.1 0)), (3, .int y3)]) dL_law_64 (by decide) rfl ?_
    refine f_aload_n dL_law_66 rfl 3 rfl ?_
    refine f_aload_n dL_law_67 rfl 2 rfl ?_
    refine f_aload_n dL_law_68 rfl 1 rfl ?_
    refine f_iload_n dL_law_69 rfl 4 rfl ?_
    refine f_callSi (j1 := 20) (j2 := (kb - 20)) (av := [.ref (zad G.1 0), .ref r1, .ref G.2.1, .int y3]) rfl H.2 i_L_acts rfl s_L_acts q_L_254 (by decide) (f_kj H.1) (Nat.le_of_ble_eq_true rfl) dL_law_70 (fun v5 o6 ω7 H => ?_)
    refine f_if_eq (tgt := 118) dL_law_73 (by decide) (fun h8 => ?_) (fun h8 => ?_)
    · replace H := H.1 h8
      refine f_ls [] rfl ?_
      exact H
    · replace H := H.2 h8
      refine f_aload_n dL_law_76 rfl 3 rfl ?_
      refine f_iload dL_law_77 0 rfl ?_
      refine f_iload_n dL_law_79 rfl 4 rfl ?_
      refine f_iconst (v := 2) dL_law_80 (by decide) ?_
      refine f_irem dL_law_81 (by decide) ?_
      refine f_iconst (v := 1) dL_law_82 (by decide) ?_
      refine f_icmp_ne (tgt := 90) dL_law_83 (by decide) (fun h9 => ?_) (fun h9 => ?_)
      · replace H := H.1 h9
        refine f_iconst (v := 0) dL_law_90 (by decide) ?_
        refine f_ls [1, 2, 3, 4, 0] rfl ?_
        exact H
      · replace H := H.2 h9
        refine f_iconst (v := 1) dL_law_86 (by decide) ?_
        refine f_goto (tgt := 91) dL_law_87 (by decide) ?_
        refine f_ls [1, 2, 3, 4, 0] rfl ?_
        exact H
set_option maxRecDepth 20000 in
set_option maxHeartbeats 2000000 in
theorem b_L_law_91 {G : fG} {l : Launch} {K : Int32 → Option zS → fW → Prop} {r1 : Nat} {y3 : Int32} {y4 : Int32} {z0 : Int32} {z1 : Int32} {o : Option zS} {ω : fW} {kb : Nat}
    (H : (500 ≤ kb ∧ FC G l M_L_holds 500 [.ref (zad G.1 0), .int z1, .int z0] (o, ω) (fQi (fun v1 o2 ω3 => ((v1 = 0 → L_L_law_118 G l K r1 o2 ω3 (kb - 500)) ∧ (¬ v1 = 0 → ((¬ (y3 - y3 / 2 * 2) = 0 → L_L_law_112 G l K r1 y3 0 y4 o2 ω3 (kb - 500)) ∧ ((y3 - y3 / 2 * 2) = 0 → L_L_law_112 G l K r1 y3 1 y4 o2 ω3 (kb - 500))))))))) :
    L_L_law_91 G l K r1 y3 y4 z0 z1 o ω kb := by
  refine f_callSi (j1 := 500) (j2 := (kb - 500)) (av := [.ref (zad G.1 0), .int z1, .int z0]) rfl H.2 i_L_holds rfl s_L_holds q_L_258 (by decide) (f_kj H.1) (Nat.le_of_ble_eq_true rfl) dL_law_91 (fun v1 o2 ω3 H => ?_)
  refine f_if_eq (tgt := 118) dL_law_94 (by decide) (fun h4 => ?_) (fun h4 => ?_)
  · replace H := H.1 h4
    refine f_ls [] rfl ?_
    exact H
  · replace H := H.2 h4
    refine f_aload_n dL_law_97 rfl 2 rfl ?_
    refine f_aload_n dL_law_98 rfl 1 rfl ?_
    refine f_iload dL_law_99 4 rfl ?_
    refine f_iload_n dL_law_101 rfl 3 rfl ?_
    refine f_iconst (v := 2) dL_law_102 (by decide) ?_
    refine f_irem dL_law_103 (by decide) ?_
    refine f_if_ne (tgt := 111) dL_law_104 (by decide) (fun h5 => ?_) (fun h5 => ?_)
    · replace H := H.1 h5
      refine f_iconst (v := 0) dL_law_111 (by decide) ?_
      refine f_ls [0, 1, 2, 3] rfl ?_
      exact H
    · replace H := H.2 h5
      refine f_iconst (v := 1) dL_law_107 (by decide) ?_
      refine f_goto (tgt := 112) dL_law_108 (by decide) ?_
      refine f_ls [0, 1, 2, 3] rfl ?_
      exact H
set_option maxRecDepth 20000 in
set_option maxHeartbeats 2000000 in
theorem b_L_law_112 {G : fG} {l : Launch} {K : Int32 → Option zS → fW → Prop} {r1 : Nat} {y3 : Int32} {z0 : Int32} {z1 : Int32} {o : Option zS} {ω : fW} {kb : Nat}
    (H : (800 ≤ kb ∧ FC G l M_L_comes 800 [.ref (zad G.1 0), .ref r1, .int z1, .int z0] (o, ω) (fQi (fun v1 o2 ω3 => ((¬ v1 = 0 → L_L_law_44 G l K r1 (y3 + 1) o2 ω3 (kb - 800)) ∧ (v1 = 0 → L_L_law_118 G l K r1 o2 ω3 (kb - 800))))))) :
    L_L_law_112 G l K r1 y3 z0 z1 o ω kb := by
  refine f_callSi (j1 := 800) (j2 := (kb - 800)) (av := [.ref (zad G.1 0), .ref r1, .int z1, .int z0]) rfl H.2 i_L_comes rfl s_L_comes q_L_262 (by decide) (f_kj H.1) (Nat.le_of_ble_eq_true rfl) dL_law_112 (fun v1 o2 ω3 H => ?_)
  refine f_if_ne (tgt := 120) dL_law_115 (by decide) (fun h4 => ?_) (fun h4 => ?_)
  · replace H := H.1 h4
    refine f_iinc (j := 3) (v := (y3 + 1)) (ls' := [(3, .int (y3 + 1)), (0, .ref G.2.1), (1, .ref r1), (2, .ref (zad G.1 0))]) dL_law_120 rfl rfl (by decide) rfl ?_
    refine f_goto (tgt := 44) dL_law_123 (by decide) ?_
    refine f_ls [1, 2, 3, 0] rfl ?_
    exact H
  · replace H := H.2 h4
    refine f_ls [] rfl ?_
    exact H
set_option maxRecDepth 20000 in
set_option maxHeartbeats 2000000 in
theorem b_L_law_118 {G : fG} {l : Launch} {K : Int32 → Option zS → fW → Prop} {r1 : Nat} {o : Option zS} {ω : fW} {kb : Nat}
    (H : K 0 o ω) :
    L_L_law_118 G l K r1 o ω kb := by
  refine f_iconst (v := 0) dL_law_118 (by decide) ?_
  exact f_zret rfl rfl dL_law_119 ⟨_, rfl, H⟩
