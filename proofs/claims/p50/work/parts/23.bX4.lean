abbrev L_X4_read_31 (g : zG) (l : Launch) (K : Int32 → zS → Prop) (X : String → zS → Prop) (y1 : Int32) (σ : zS) : Prop :=
  EV g l M_X4_read 0 (zQi K X) 31 [(0, .ref (zad g 3)), (1, .int y1)] [] σ
set_option maxRecDepth 20000 in
set_option maxHeartbeats 2000000 in
theorem b_X4_read {g : zG} {l : Launch} {K : Int32 → zS → Prop} {X : String → zS → Prop} {σ : zS}
    (H : CT g l M_X0_clear 0 [.ref (zad g 93)] σ (zQv (fun τ1 => (∀ σ2 : zS, σ2 = zup τ1 3 2 0 → (∀ σ3 : zS, σ3 = zup σ2 3 3 0 → (∀ σ4 : zS, σ4 = zup σ3 3 4 0 → CT g l M_X3_begin 0 [.ref (zad g 1)] σ4 (zQv (fun τ5 => L_X4_read_31 g l K X 0 τ5) (fun E τ => X E τ)))))) (fun E τ => X E τ))) :
    CT g l M_X4_read 0 [.ref (zad g 3)] σ (zQi K X) := by
  refine CT_of rfl (by decide) (Nat.le_of_ble_eq_true rfl) ?_
  change EV _ _ _ _ _ 0 [(0, .ref (zad g 3))] [] _
  refine e_aload_n dX4_read_0 rfl 0 rfl ?_
  refine fg_X4_12 rfl dX4_read_1 ?_
  refine e_callVv (j1 := 0) (j2 := 0) (av := []) rfl (zB_s0 zB_93) (zB_l0 zB_93) rfl rfl H i_X0_clear rfl n_X0_clear v_X0_clear q_X4_42 (by decide) (by decide) (Nat.le_of_ble_eq_true rfl) dX4_read_4 (fun τ1 H => ?_) (fun E τ H => H)
  refine e_aload_n dX4_read_7 rfl 0 rfl ?_
  refine e_iconst (v := 0) dX4_read_8 (by decide) ?_
  refine fp_X4_45 zbl_0 rfl dX4_read_9 ?_
  replace H := H _ rfl
  generalize zup τ1 3 2 0 = σ2 at H ⊢
  refine e_aload_n dX4_read_12 rfl 0 rfl ?_
  refine e_iconst (v := 0) dX4_read_13 (by decide) ?_
  refine fp_X4_49 zbl_0 rfl dX4_read_14 ?_
  replace H := H _ rfl
  generalize zup σ2 3 3 0 = σ3 at H ⊢
  refine e_aload_n dX4_read_17 rfl 0 rfl ?_
  refine e_iconst (v := 0) dX4_read_18 (by decide) ?_
  refine fp_X4_52 rfl dX4_read_19 ?_
  replace H := H _ rfl
  generalize zup σ3 3 4 0 = σ4 at H ⊢
  refine e_aload_n dX4_read_22 rfl 0 rfl ?_
  refine fg_X4_38 rfl dX4_read_23 ?_
  refine e_callVv (j1 := 0) (j2 := 0) (av := []) rfl rfl (Nat.le_of_ble_eq_true rfl) rfl rfl H i_X3_begin rfl n_X3_begin v_X3_begin q_X4_56 (by decide) (by decide) (Nat.le_of_ble_eq_true rfl) dX4_read_26 (fun τ5 H => ?_) (fun E τ H => H)
  refine e_iconst (v := 0) dX4_read_29 (by decide) ?_
  refine e_istore_n (ls' := [(1, .int 0), (0, .ref (zad g 3))]) dX4_read_30 rfl (by decide) rfl ?_
  refine e_ls [1, 0] rfl ?_
  exact H
set_option maxRecDepth 20000 in
set_option maxHeartbeats 2000000 in
theorem b_X4_read_31 {g : zG} {l : Launch} {K : Int32 → zS → Prop} {X : String → zS → Prop} {y1 : Int32} {σ : zS}
    (H : ((600 ≤ y1 → CT g l M_X4_drawBoxes 0 [.ref (zad g 3)] σ (zQv (fun τ2 => CT g l M_X0_paintAll 0 [.ref (zad g 93)] τ2 (zQv (fun τ3 => K 1 τ3) (fun E τ => X E τ))) (fun E τ => X E τ))) ∧ (¬ 600 ≤ y1 → CT g l M_X3_isAtEnd 0 [.ref (zad g 1)] σ (zQi (fun v4 τ4 => ((¬ v4 = 0 → CT g l M_X4_drawBoxes 0 [.ref (zad g 3)] τ4 (zQv (fun τ6 => CT g l M_X0_paintAll 0 [.ref (zad g 93)] τ6 (zQv (fun τ7 => K 1 τ7) (fun E τ => X E τ))) (fun E τ => X E τ))) ∧ (v4 = 0 → CT g l M_X4_readStatement 0 [.ref (zad g 3)] τ4 (zQi (fun v8 τ8 => ((¬ v8 = 0 → L_X4_read_31 g l K X (y1 + 1) τ8) ∧ (v8 = 0 → K 0 τ8))) (fun E τ => X E τ))))) (fun E τ => X E τ))))) :
    L_X4_read_31 g l K X y1 σ := by
  refine e_iload_n dX4_read_31 rfl 1 rfl ?_
  refine e_sipush (v := 600) dX4_read_32 (by decide) ?_
  refine e_icmp_ge (tgt := 63) dX4_read_35 (by decide) (fun h1 => ?_) (fun h1 => ?_)
  · replace H := H.1 h1
    refine e_aload_n dX4_read_63 rfl 0 rfl ?_
    refine e_callVv (j1 := 0) (j2 := 0) (av := []) rfl rfl (Nat.le_of_ble_eq_true rfl) rfl rfl H i_X4_drawBoxes rfl n_X4_drawBoxes v_X4_drawBoxes q_X4_68 (by decide) (by decide) (Nat.le_of_ble_eq_true rfl) dX4_read_64 (fun τ2 H => ?_) (fun E τ H => H)
    refine e_aload_n dX4_read_67 rfl 0 rfl ?_
    refine fg_X4_12 rfl dX4_read_68 ?_
    refine e_callVv (j1 := 0) (j2 := 0) (av := []) rfl (zB_s0 zB_93) (zB_l0 zB_93) rfl rfl H i_X0_paintAll rfl n_X0_paintAll v_X0_paintAll q_X4_71 (by decide) (by decide) (Nat.le_of_ble_eq_true rfl) dX4_read_71 (fun τ3 H => ?_) (fun E τ H => H)
    refine e_iconst (v := 1) dX4_read_74 (by decide) ?_
    exact e_zret rfl rfl dX4_read_75 H
  · replace H := H.2 h1
    refine e_aload_n dX4_read_38 rfl 0 rfl ?_
    refine fg_X4_38 rfl dX4_read_39 ?_
    refine e_callVi (j1 := 0) (j2 := 0) (av := []) rfl rfl (Nat.le_of_ble_eq_true rfl) rfl rfl H i_X3_isAtEnd rfl n_X3_isAtEnd v_X3_isAtEnd q_X4_61 (by decide) (by decide) (Nat.le_of_ble_eq_true rfl) dX4_read_42 (fun v4 τ4 H => ?_) (fun E τ H => H)
    refine e_if_ne (tgt := 63) dX4_read_45 (by decide) (fun h5 => ?_) (fun h5 => ?_)
    · replace H := H.1 h5
      refine e_aload_n dX4_read_63 rfl 0 rfl ?_
      refine e_callVv (j1 := 0) (j2 := 0) (av := []) rfl rfl (Nat.le_of_ble_eq_true rfl) rfl rfl H i_X4_drawBoxes rfl n_X4_drawBoxes v_X4_drawBoxes q_X4_68 (by decide) (by decide) (Nat.le_of_ble_eq_true rfl) dX4_read_64 (fun τ6 H => ?_) (fun E τ H => H)
      refine e_aload_n dX4_read_67 rfl 0 rfl ?_
      refine fg_X4_12 rfl dX4_read_68 ?_
      refine e_callVv (j1 := 0) (j2 := 0) (av := []) rfl (zB_s0 zB_93) (zB_l0 zB_93) rfl rfl H i_X0_paintAll rfl n_X0_paintAll v_X0_paintAll q_X4_71 (by decide) (by decide) (Nat.le_of_ble_eq_true rfl) dX4_read_71 (fun τ7 H => ?_) (fun E τ H => H)
      refine e_iconst (v := 1) dX4_read_74 (by decide) ?_
      exact e_zret rfl rfl dX4_read_75 H
    · replace H := H.2 h5
      refine e_aload_n dX4_read_48 rfl 0 rfl ?_
      refine e_callVi (j1 := 0) (j2 := 0) (av := []) rfl rfl (Nat.le_of_ble_eq_true rfl) rfl rfl H i_X4_readStatement rfl n_X4_readStatement v_X4_readStatement q_X4_65 (by decide) (by decide) (Nat.le_of_ble_eq_true rfl) dX4_read_49 (fun v8 τ8 H => ?_) (fun E τ H => H)
      refine e_if_ne (tgt := 57) dX4_read_52 (by decide) (fun h9 => ?_) (fun h9 => ?_)
      · replace H := H.1 h9
        refine e_iinc (j := 1) (v := (y1 + 1)) (ls' := [(1, .int (y1 + 1)), (0, .ref (zad g 3))]) dX4_read_57 rfl rfl (by decide) rfl ?_
        refine e_goto (tgt := 31) dX4_read_60 (by decide) ?_
        refine e_ls [1, 0] rfl ?_
        exact H
      · replace H := H.2 h9
        refine e_iconst (v := 0) dX4_read_55 (by decide) ?_
        exact e_zret rfl rfl dX4_read_56 H
set_option maxRecDepth 20000 in
set_option maxHeartbeats 2000000 in
theorem b_X4_readStatement {g : zG} {l : Launch} {K : Int32 → zS → Prop} {X : String → zS → Prop} {σ : zS}
    (H : CT g l M_X3_isAtWord 0 [.ref (zad g 1), .ref (g.2.2.2.2.1 0)] σ (zQi (fun v1 τ1 => ((v1 = 0 → CT g l M_X3_isAtWord 0 [.ref (zad g 1), .ref (g.2.2.2.2.1 1)] τ1 (zQi (fun v3 τ3 => ((v3 = 0 → CT g l M_X3_isAtWord 0 [.ref (zad g 1), .ref (g.2.2.2.2.1 2)] τ3 (zQi (fun v5 τ5 => ((v5 = 0 → CT g l M_X3_isAtWord 0 [.ref (zad g 1), .ref (g.2.2.2.2.1 3)] τ5 (zQi (fun v7 τ7 => ((v7 = 0 → CT g l M_X3_fail 0 [.ref (zad g 1), .int 1] τ7 (zQi (fun v9 τ9 => (zbl v9 ∧ K v9 τ9)) (fun E τ => X E τ))) ∧ (¬ v7 = 0 → CT g l M_X4_readCoats 0 [.ref (zad g 3)] τ7 (zQi (fun v10 τ10 => (zbl v10 ∧ K v10 τ10)) (fun E τ => X E τ))))) (fun E τ => X E τ))) ∧ (¬ v5 = 0 → CT g l M_X4_readBox 0 [.ref (zad g 3)] τ5 (zQi (fun v11 τ11 => (zbl v11 ∧ K v11 τ11)) (fun E τ => X E τ))))) (fun E τ => X E τ))) ∧ (¬ v3 = 0 → CT g l M_X4_readSlat 0 [.ref (zad g 3)] τ3 (zQi (fun v12 τ12 => (zbl v12 ∧ K v12 τ12)) (fun E τ => X E τ))))) (fun E τ => X E τ))) ∧ (¬ v1 = 0 → CT g l M_X4_readHigh 0 [.ref (zad g 3)] τ1 (zQi (fun v13 τ13 => (zbl v13 ∧ K v13 τ13)) (fun E τ => X E τ))))) (fun E τ => X E τ))) :
    CT g l M_X4_readStatement 0 [.ref (zad g 3)] σ (zQi K X) := by
  refine CT_of rfl (by decide) (Nat.le_of_ble_eq_true rfl) ?_
  change EV _ _ _ _ _ 0 [(0, .ref (zad g 3))] [] _
  refine e_aload_n dX4_readStatement_0 rfl 0 rfl ?_
  refine fg_X4_38 rfl dX4_readStatement_1 ?_
  refine e_ldcS (i := 0) rfl dX4_readStatement_4 ?_
  refine e_callVi (j1 := 0) (j2 := 0) (av := [.ref (g.2.2.2.2.1 0)]) rfl rfl (Nat.le_of_ble_eq_true rfl) rfl rfl H i_X3_isAtWord rfl n_X3_isAtWord v_X3_isAtWord q_X4_76 (by decide) (by decide) (Nat.le_of_ble_eq_true rfl) dX4_readStatement_6 (fun v1 τ1 H => ?_) (fun E τ H => H)
  refine e_if_eq (tgt := 17) dX4_readStatement_9 (by decide) (fun h2 => ?_) (fun h2 => ?_)
  · replace H := H.1 h2
    refine e_aload_n dX4_readStatement_17 rfl 0 rfl ?_
    refine fg_X4_38 rfl dX4_readStatement_18 ?_
    refine e_ldcS (i := 1) rfl dX4_readStatement_21 ?_
    refine e_callVi (j1 := 0) (j2 := 0) (av := [.ref (g.2.2.2.2.1 1)]) rfl rfl (Nat.le_of_ble_eq_true rfl) rfl rfl H i_X3_isAtWord rfl n_X3_isAtWord v_X3_isAtWord q_X4_76 (by decide) (by decide) (Nat.le_of_ble_eq_true rfl) dX4_readStatement_23 (fun v3 τ3 H => ?_) (fun E τ H => H)
    refine e_if_eq (tgt := 34) dX4_readStatement_26 (by decide) (fun h4 => ?_) (fun h4 => ?_)
    · replace H := H.1 h4
      refine e_aload_n dX4_readStatement_34 rfl 0 rfl ?_
      refine fg_X4_38 rfl dX4_readStatement_35 ?_
      refine e_ldcS (i := 2) rfl dX4_readStatement_38 ?_
      refine e_callVi (j1 := 0) (j2 := 0) (av := [.ref (g.2.2.2.2.1 2)]) rfl rfl (Nat.le_of_ble_eq_true rfl) rfl rfl H i_X3_isAtWord rfl n_X3_isAtWord v_X3_isAtWord q_X4_76 (by decide) (by decide) (Nat.le_of_ble_eq_true rfl) dX4_readStatement_40 (fun v5 τ5 H => ?_) (fun E τ H => H)
      refine e_if_eq (tgt := 51) dX4_readStatement_43 (by decide) (fun h6 => ?_) (fun h6 => ?_)
      · replace H := H.1 h6
        refine e_aload_n dX4_readStatement_51 rfl 0 rfl ?_
        refine fg_X4_38 rfl dX4_readStatement_52 ?_
        refine e_ldcS (i := 3) rfl dX4_readStatement_55 ?_
        refine e_callVi (j1 := 0) (j2 := 0) (av := [.ref (g.2.2.2.2.1 3)]) rfl rfl (Nat.le_of_ble_eq_true rfl) rfl rfl H i_X3_isAtWord rfl n_X3_isAtWord v_X3_isAtWord q_X4_76 (by decide) (by decide) (Nat.le_of_ble_eq_true rfl) dX4_readStatement_57 (fun v7 τ7 H => ?_) (fun E τ H => H)
        refine e_if_eq (tgt := 68) dX4_readStatement_60 (by decide) (fun h8 => ?_) (fun h8 => ?_)
        · replace H := H.1 h8
          refine e_aload_n dX4_readStatement_68 rfl 0 rfl ?_
          refine fg_X4_38 rfl dX4_readStatement_69 ?_
          refine e_iconst (v := 1) dX4_readStatement_72 (by decide) ?_
          refine e_callVi (j1 := 0) (j2 := 0) (av := [.int 1]) rfl rfl (Nat.le_of_ble_eq_true rfl) rfl rfl H i_X3_fail rfl n_X3_fail v_X3_fail q_X4_98 (by decide) (by decide) (Nat.le_of_ble_eq_true rfl) dX4_readStatement_73 (fun v9 τ9 H => ?_) (fun E τ H => H)
          exact e_zret rfl (zbl_n H.1) dX4_readStatement_76 H.2
        · replace H := H.2 h8
          refine e_aload_n dX4_readStatement_63 rfl 0 rfl ?_
          refine e_callVi (j1 := 0) (j2 := 0) (av := []) rfl rfl (Nat.le_of_ble_eq_true rfl) rfl rfl H i_X4_readCoats rfl n_X4_readCoats v_X4_readCoats q_X4_95 (by decide) (by decide) (Nat.le_of_ble_eq_true rfl) dX4_readStatement_64 (fun v10 τ10 H => ?_) (fun E τ H => H)
          exact e_zret rfl (zbl_n H.1) dX4_readStatement_67 H.2
      · replace H := H.2 h6
        refine e_aload_n dX4_readStatement_46 rfl 0 rfl ?_
        refine e_callVi (j1 := 0) (j2 := 0) (av := []) rfl rfl (Nat.le_of_ble_eq_true rfl) rfl rfl H i_X4_readBox rfl n_X4_readBox v_X4_readBox q_X4_90 (by decide) (by decide) (Nat.le_of_ble_eq_true rfl) dX4_readStatement_47 (fun v11 τ11 H => ?_) (fun E τ H => H)
        exact e_zret rfl (zbl_n H.1) dX4_readStatement_50 H.2
    · replace H := H.2 h4
      refine e_aload_n dX4_readStatement_29 rfl 0 rfl ?_
      refine e_callVi (j1 := 0) (j2 := 0) (av := []) rfl rfl (Nat.le_of_ble_eq_true rfl) rfl rfl H i_X4_readSlat rfl n_X4_readSlat v_X4_readSlat q_X4_85 (by decide) (by decide) (Nat.le_of_ble_eq_true rfl) dX4_readStatement_30 (fun v12 τ12 H => ?_) (fun E τ H => H)
      exact e_zret rfl (zbl_n H.1) dX4_readStatement_33 H.2
  · replace H := H.2 h2
    refine e_aload_n dX4_readStatement_12 rfl 0 rfl ?_
    refine e_callVi (j1 := 0) (j2 := 0) (av := []) rfl rfl (Nat.le_of_ble_eq_true rfl) rfl rfl H i_X4_readHigh rfl n_X4_readHigh v_X4_readHigh q_X4_80 (by decide) (by decide) (Nat.le_of_ble_eq_true rfl) dX4_readStatement_13 (fun v13 τ13 H => ?_) (fun E τ H => H)
    exact e_zret rfl (zbl_n H.1) dX4_readStatement_16 H.2
set_option maxRecDepth 20000 in
set_option maxHeartbeats 2000000 in
theorem b_X4_readHigh {g : zG} {l : Launch} {K : Int32 → zS → Prop} {X : String → zS → Prop} {σ : zS}
    (H : (((σ.1 3 2) = 0 → (∀ σ2 : zS, σ2 = zup σ 3 2 1 → CT g l M_X3_advance 0 [.ref (zad g 1)] σ2 (zQv (fun τ3 => CT g l M_X3_takeNumber 0 [.ref (zad g 1), .int 1, .int 8] τ3 (zQi (fun v4 τ4 => ((¬ v4 = (-1) → (∀ σ6 : zS, σ6 = zup τ4 93 0 v4 → CT g l M_X3_takeSign 0 [.ref (zad g 1), .int 59] σ6 (zQi (fun v7 τ7 => (zbl v7 ∧ K v7 τ7)) (fun E τ => X E τ)))) ∧ (v4 = (-1) → K 0 τ4))) (fun E τ => X E τ))) (fun E τ => X E τ)))) ∧ (¬ (σ.1 3 2) = 0 → CT g l M_X3_fail 0 [.ref (zad g 1), .int 3] σ (zQi (fun v8 τ8 => (zbl v8 ∧ K v8 τ8)) (fun E τ => X E τ))))) :
    CT g l M_X4_readHigh 0 [.ref (zad g 3)] σ (zQi K X) := by
  refine CT_of rfl (by decide) (Nat.le_of_ble_eq_true rfl) ?_
  change EV _ _ _ _ _ 0 [(0, .ref (zad g 3))] [] _
  refine e_aload_n dX4_readHigh_0 rfl 0 rfl ?_
  refine fg_X4_45 rfl dX4_readHigh_1 ?_
  refine e_if_eq (tgt := 16) dX4_readHigh_4 (by decide) (fun h1 => ?_) (fun h1 => ?_)
  · replace H := H.1 h1
    refine e_aload_n dX4_readHigh_16 rfl 0 rfl ?_
    refine e_iconst (v := 1) dX4_readHigh_17 (by decide) ?_
    refine fp_X4_45 zbl_1 rfl dX4_readHigh_18 ?_
    replace H := H _ rfl
    generalize zup σ 3 2 1 = σ2 at H ⊢
    refine e_aload_n dX4_readHigh_21 rfl 0 rfl ?_
    refine fg_X4_38 rfl dX4_readHigh_22 ?_
    refine e_callVv (j1 := 0) (j2 := 0) (av := []) rfl rfl (Nat.le_of_ble_eq_true rfl) rfl rfl H i_X3_advance rfl n_X3_advance v_X3_advance q_X4_102 (by decide) (by decide) (Nat.le_of_ble_eq_true rfl) dX4_readHigh_25 (fun τ3 H => ?_) (fun E τ H => H)
    refine e_aload_n dX4_readHigh_28 rfl 0 rfl ?_
    refine fg_X4_38 rfl dX4_readHigh_29 ?_
    refine e_iconst (v := 1) dX4_readHigh_32 (by decide) ?_
    refine e_bipush (v := 8) dX4_readHigh_33 (by decide) ?_
    refine e_callVi (j1 := 0) (j2 := 0) (av := [.int 1, .int 8]) rfl rfl (Nat.le_of_ble_eq_true rfl) rfl rfl H i_X3_takeNumber rfl n_X3_takeNumber v_X3_takeNumber q_X4_105 (by decide) (by decide) (Nat.le_of_ble_eq_true rfl) dX4_readHigh_35 (fun v4 τ4 H => ?_) (fun E τ H => H)
    refine e_istore_n (ls' := [(1, .int v4), (0, .ref (zad g 3))]) dX4_readHigh_38 rfl (by decide) rfl ?_
    refine e_iload_n dX4_readHigh_39 rfl 0 rfl ?_
    refine e_iconst (v := (-1)) dX4_readHigh_40 (by decide) ?_
    refine e_icmp_ne (tgt := 46) dX4_readHigh_41 (by decide) (fun h5 => ?_) (fun h5 => ?_)
    · replace H := H.1 h5
      refine e_aload_n dX4_readHigh_46 rfl 1 rfl ?_
      refine fg_X4_12 rfl dX4_readHigh_47 ?_
      refine e_iload_n dX4_readHigh_50 rfl 0 rfl ?_
      refine fp_X4_109 (zB_s0 zB_93) (zB_l0 zB_93) rfl dX4_readHigh_51 ?_
      replace H := H _ rfl
      generalize zup τ4 93 0 v4 = σ6 at H ⊢
      refine e_aload_n dX4_readHigh_54 rfl 1 rfl ?_
      refine fg_X4_38 rfl dX4_readHigh_55 ?_
      refine e_bipush (v := 59) dX4_readHigh_58 (by decide) ?_
      refine e_callVi (j1 := 0) (j2 := 0) (av := [.int 59]) rfl rfl (Nat.le_of_ble_eq_true rfl) rfl rfl H i_X3_takeSign rfl n_X3_takeSign v_X3_takeSign q_X4_111 (by decide) (by decide) (Nat.le_of_ble_eq_true rfl) dX4_readHigh_60 (fun v7 τ7 H => ?_) (fun E τ H => H)
      exact e_zret rfl (zbl_n H.1) dX4_readHigh_63 H.2
    · replace H := H.2 h5
      refine e_iconst (v := 0) dX4_readHigh_44 (by decide) ?_
      exact e_zret rfl rfl dX4_readHigh_45 H
  · replace H := H.2 h1
    refine e_aload_n dX4_readHigh_7 rfl 0 rfl ?_
    refine fg_X4_38 rfl dX4_readHigh_8 ?_
    refine e_iconst (v := 3) dX4_readHigh_11 (by decide) ?_
    refine e_callVi (j1 := 0) (j2 := 0) (av := [.int 3]) rfl rfl (Nat.le_of_ble_eq_true rfl) rfl rfl H i_X3_fail rfl n_X3_fail v_X3_fail q_X4_98 (by decide) (by decide) (Nat.le_of_ble_eq_true rfl) dX4_readHigh_12 (fun v8 τ8 H => ?_) (fun E τ H => H)
    exact e_zret rfl (zbl_n H.1) dX4_readHigh_15 H.2
set_option maxRecDepth 20000 in
set_option maxHeartbeats 2000000 in
theorem b_X4_readCoats {g : zG} {l : Launch} {K : Int32 → zS → Prop} {X : String → zS → Prop} {σ : zS}
    (H : (((σ.1 3 3) = 0 → (∀ σ2 : zS, σ2 = zup σ 3 3 1 → CT g l M_X3_advance 0 [.ref (zad g 1)] σ2 (zQv (fun τ3 => CT g l M_X3_takeNumber 0 [.ref (zad g 1), .int 1, .int 99] τ3 (zQi (fun v4 τ4 => ((¬ v4 = (-1) → (∀ σ6 : zS, σ6 = zup τ4 93 1 v4 → CT g l M_X3_takeSign 0 [.ref (zad g 1), .int 59] σ6 (zQi (fun v7 τ7 => (zbl v7 ∧ K v7 τ7)) (fun E τ => X E τ)))) ∧ (v4 = (-1) → K 0 τ4))) (fun E τ => X E τ))) (fun E τ => X E τ)))) ∧ (¬ (σ.1 3 3) = 0 → CT g l M_X3_fail 0 [.ref (zad g 1), .int 3] σ (zQi (fun v8 τ8 => (zbl v8 ∧ K v8 τ8)) (fun E τ => X E τ))))) :
    CT g l M_X4_readCoats 0 [.ref (zad g 3)] σ (zQi K X) := by
  refine CT_of rfl (by decide) (Nat.le_of_ble_eq_true rfl) ?_
  change EV _ _ _ _ _ 0 [(0, .ref (zad g 3))] [] _
  refine e_aload_n dX4_readCoats_0 rfl 0 rfl ?_
  refine fg_X4_49 rfl dX4_readCoats_1 ?_
  refine e_if_eq (tgt := 16) dX4_readCoats_4 (by decide) (fun h1 => ?_) (fun h1 => ?_)
  · replace H := H.1 h1
    refine e_aload_n dX4_readCoats_16 rfl 0 rfl ?_
    refine e_iconst (v := 1) dX4_readCoats_17 (by decide) ?_
    refine fp_X4_49 zbl_1 rfl dX4_readCoats_18 ?_
    replace H := H _ rfl
    generalize zup σ 3 3 1 = σ2 at H ⊢
    refine e_aload_n dX4_readCoats_21 rfl 0 rfl ?_
    refine fg_X4_38 rfl dX4_readCoats_22 ?_
    refine e_callVv (j1 := 0) (j2 := 0) (av := []) rfl rfl (Nat.le_of_ble_eq_true rfl) rfl rfl H i_X3_advance rfl n_X3_advance v_X3_advance q_X4_102 (by decide) (by decide) (Nat.le_of_ble_eq_true rfl) dX4_readCoats_25 (fun τ3 H => ?_) (fun E τ H => H)
    refine e_aload_n dX4_readCoats_28 rfl 0 rfl ?_
    refine fg_X4_38 rfl dX4_readCoats_29 ?_
    refine e_iconst (v := 1) dX4_readCoats_32 (by decide) ?_
    refine e_bipush (v := 99) dX4_readCoats_33 (by decide) ?_
    refine e_callVi (j1 := 0) (j2 := 0) (av := [.int 1, .int 99]) rfl rfl (Nat.le_of_ble_eq_true rfl) rfl rfl H i_X3_takeNumber rfl n_X3_takeNumber v_X3_takeNumber q_X4_105 (by decide) (by decide) (Nat.le_of_ble_eq_true rfl) dX4_readCoats_35 (fun v4 τ4 H => ?_) (fun E τ H => H)
    refine e_istore_n (ls' := [(1, .int v4), (0, .ref (zad g 3))]) dX4_readCoats_38 rfl (by decide) rfl ?_
    refine e_iload_n dX4_readCoats_39 rfl 0 rfl ?_
    refine e_iconst (v := (-1)) dX4_readCoats_40 (by decide) ?_
    refine e_icmp_ne (tgt := 46) dX4_readCoats_41 (by decide) (fun h5 => ?_) (fun h5 => ?_)
    · replace H := H.1 h5
      refine e_aload_n dX4_readCoats_46 rfl 1 rfl ?_
      refine fg_X4_12 rfl dX4_readCoats_47 ?_
      refine e_iload_n dX4_readCoats_50 rfl 0 rfl ?_
      refine fp_X4_115 (zB_s0 zB_93) (zB_l0 zB_93) rfl dX4_readCoats_51 ?_
      replace H := H _ rfl
      generalize zup τ4 93 1 v4 = σ6 at H ⊢
      refine e_aload_n dX4_readCoats_54 rfl 1 rfl ?_
      refine fg_X4_38 rfl dX4_readCoats_55 ?_
      refine e_bipush (v := 59) dX4_readCoats_58 (by decide) ?_
      refine e_callVi (j1 := 0) (j2 := 0) (av := [.int 59]) rfl rfl (Nat.le_of_ble_eq_true rfl) rfl rfl H i_X3_takeSign rfl n_X3_takeSign v_X3_takeSign q_X4_111 (by decide) (by decide) (Nat.le_of_ble_eq_true rfl) dX4_readCoats_60 (fun v7 τ7 H => ?_) (fun E τ H => H)
      exact e_zret rfl (zbl_n H.1) dX4_readCoats_63 H.2
    · replace H := H.2 h5
      refine e_iconst (v := 0) dX4_readCoats_44 (by decide) ?_
      exact e_zret rfl rfl dX4_readCoats_45 H
  · replace H := H.2 h1
    refine e_aload_n dX4_readCoats_7 rfl 0 rfl ?_
    refine fg_X4_38 rfl dX4_readCoats_8 ?_
    refine e_iconst (v := 3) dX4_readCoats_11 (by decide) ?_
    refine e_callVi (j1 := 0) (j2 := 0) (av := [.int 3]) rfl rfl (Nat.le_of_ble_eq_true rfl) rfl rfl H i_X3_fail rfl n_X3_fail v_X3_fail q_X4_98 (by decide) (by decide) (Nat.le_of_ble_eq_true rfl) dX4_readCoats_12 (fun v8 τ8 H => ?_) (fun E τ H => H)
    exact e_zret rfl (zbl_n H.1) dX4_readCoats_15 H.2
set_option maxRecDepth 20000 in
set_option maxHeartbeats 2000000 in
theorem b_X4_readSlat {g : zG} {l : Launch} {K : Int32 → zS → Prop} {X : String → zS → Prop} {σ : zS}
    (H : (((σ.1 93 2) < 10 → CT g l M_X3_advance 0 [.ref (zad g 1)] σ (zQv (fun τ2 => CT g l M_X3_takeNumber 0 [.ref (zad g 1), .int 1, .int 6] τ2 (zQi (fun v3 τ3 => ((¬ v3 = (-1) → CT g l M_X3_isAtSign 0 [.ref (zad g 1), .int 59] τ3 (zQi (fun v5 τ5 => ((v5 = 0 → CT g l M_X3_takeSide 0 [.ref (zad g 1)] τ5 (zQi (fun v7 τ7 => ((¬ v7 = (-1) → CT g l M_X3_takeNumber 0 [.ref (zad g 1), .int 0, .int 4] τ7 (zQi (fun v9 τ9 => ((¬ v9 = (-1) → ((¬ v7 = 1 → CT g l M_X6_toSide 0 [.int v9, .int 0] τ9 (zQi (fun v12 τ12 => CT g l M_X0_addSlat 0 [.ref (zad g 93), .int v3, .int v12] τ12 (zQv (fun τ13 => CT g l M_X3_takeSign 0 [.ref (zad g 1), .int 59] τ13 (zQi (fun v14 τ14 => (zbl v14 ∧ K v14 τ14)) (fun E τ => X E τ))) (fun E τ => X E τ))) (fun E τ => X E τ))) ∧ (v7 = 1 → CT g l M_X6_toSide 0 [.int v9, .int 1] τ9 (zQi (fun v15 τ15 => CT g l M_X0_addSlat 0 [.ref (zad g 93), .int v3, .int v15] τ15 (zQv (fun τ16 => CT g l M_X3_takeSign 0 [.ref (zad g 1), .int 59] τ16 (zQi (fun v17 τ17 => (zbl v17 ∧ K v17 τ17)) (fun E τ => X E τ))) (fun E τ => X E τ))) (fun E τ => X E τ))))) ∧ (v9 = (-1) → K 0 τ9))) (fun E τ => X E τ))) ∧ (v7 = (-1) → K 0 τ7))) (fun E τ => X E τ))) ∧ (¬ v5 = 0 → CT g l M_X0_addSlat 0 [.ref (zad g 93), .int v3, .int 0] τ5 (zQv (fun τ18 => CT g l M_X3_takeSign 0 [.ref (zad g 1), .int 59] τ18 (zQi (fun v19 τ19 => (zbl v19 ∧ K v19 τ19)) (fun E τ => X E τ))) (fun E τ => X E τ))))) (fun E τ => X E τ))) ∧ (v3 = (-1) → K 0 τ3))) (fun E τ => X E τ))) (fun E τ => X E τ))) ∧ (¬ (σ.1 93 2) < 10 → CT g l M_X3_fail 0 [.ref (zad g 1), .int 5] σ (zQi (fun v20 τ20 => (zbl v20 ∧ K v20 τ20)) (fun E τ => X E τ))))) :
    CT g l M_X4_readSlat 0 [.ref (zad g 3)] σ (zQi K X) := by
  refine CT_of rfl (by decide) (Nat.le_of_ble_eq_true rfl) ?_
  change EV _ _ _ _ _ 0 [(0, .ref (zad g 3))] [] _
  refine e_aload_n dX4_readSlat_0 rfl 0 rfl ?_
  refine fg_X4_12 rfl dX4_readSlat_1 ?_
  refine fg_X4_118 (zB_s0 zB_93) (zB_l0 zB_93) rfl dX4_readSlat_4 ?_
  refine e_bipush (v := 10) dX4_readSlat_7 (by decide) ?_
  refine e_icmp_lt (tgt := 21) dX4_readSlat_9 (by decide) (fun h1 => ?_) (fun h1 => ?_)
  · replace H := H.1 h1
    refine e_aload_n dX4_readSlat_21 rfl 0 rfl ?_
    refine fg_X4_38 rfl dX4_readSlat_22 ?_
    refine e_callVv (j1 := 0) (j2 := 0) (av := []) rfl rfl (Nat.le_of_ble_eq_true rfl) rfl rfl H i_X3_advance rfl n_X3_advance v_X3_advance q_X4_102 (by decide) (by decide) (Nat.le_of_ble_eq_true rfl) dX4_readSlat_25 (fun τ2 H => ?_) (fun E τ H => H)
    refine e_aload_n dX4_readSlat_28 rfl 0 rfl ?_
    refine fg_X4_38 rfl dX4_readSlat_29 ?_
    refine e_iconst (v := 1) dX4_readSlat_32 (by decide) ?_
    refine e_bipush (v := 6) dX4_readSlat_33 (by decide) ?_
    refine e_callVi (j1 := 0) (j2 := 0) (av := [.int 1, .int 6]) rfl rfl (Nat.le_of_ble_eq_true rfl) rfl rfl H i_X3_takeNumber rfl n_X3_takeNumber v_X3_takeNumber q_X4_105 (by decide) (by decide) (Nat.le_of_ble_eq_true rfl) dX4_readSlat_35 (fun v3 τ3 H => ?_) (fun E τ H => H)
    refine e_istore_n (ls' := [(1, .int v3), (0, .ref (zad g 3))]) dX4_readSlat_38 rfl (by decide) rfl ?_
    refine e_iload_n dX4_readSlat_39 rfl 0 rfl ?_
    refine e_iconst (v := (-1)) dX4_readSlat_40 (by decide) ?_
    refine e_icmp_ne (tgt := 46) dX4_readSlat_41 (by decide) (fun h4 => ?_) (fun h4 => ?_)
    · replace H := H.1 h4
      refine e_aload_n dX4_readSlat_46 rfl 1 rfl ?_
      refine fg_X4_38 rfl dX4_readSlat_47 ?_
      refine e_bipush (v := 59) dX4_readSlat_50 (by decide) ?_
      refine e_callVi (j1 := 0) (j2 := 0) (av := [.int 59]) rfl rfl (Nat.le_of_ble_eq_true rfl) rfl rfl H i_X3_isAtSign rfl n_X3_isAtSign v_X3_isAtSign q_X4_121 (by decide) (by decide) (Nat.le_of_ble_eq_true rfl) dX4_readSlat_52 (fun v5 τ5 H => ?_) (fun E τ H => H)
      refine e_if_eq (tgt := 77) dX4_readSlat_55 (by decide) (fun h6 => ?_) (fun h6 => ?_)
      · replace H := H.1 h6
        refine e_aload_n dX4_readSlat_77 rfl 1 rfl ?_
        refine fg_X4_38 rfl dX4_readSlat_78 ?_
        refine e_callVi (j1 := 0) (j2 := 0) (av := []) rfl rfl (Nat.le_of_ble_eq_true rfl) rfl rfl H i_X3_takeSide rfl n_X3_takeSide v_X3_takeSide q_X4_128 (by decide) (by decide) (Nat.le_of_ble_eq_true rfl) dX4_readSlat_81 (fun v7 τ7 H => ?_) (fun E τ H => H)
        refine e_istore_n (ls' := [(2, .int v7), (1, .int v3), (0, .ref (zad g 3))]) dX4_readSlat_84 rfl (by decide) rfl ?_
        refine e_iload_n dX4_readSlat_85 rfl 0 rfl ?_
        refine e_iconst (v := (-1)) dX4_readSlat_86 (by decide) ?_
        refine e_icmp_ne (tgt := 92) dX4_readSlat_87 (by decide) (fun h8 => ?_) (fun h8 => ?_)
        · replace H := H.1 h8
          refine e_aload_n dX4_readSlat_92 rfl 2 rfl ?_
          refine fg_X4_38 rfl dX4_readSlat_93 ?_
          refine e_iconst (v := 0) dX4_readSlat_96 (by decide) ?_
          refine e_iconst (v := 4) dX4_readSlat_97 (by decide) ?_
          refine e_callVi (j1 := 0) (j2 := 0) (av := [.int 0, .int 4]) rfl rfl (Nat.le_of_ble_eq_true rfl) rfl rfl H i_X3_takeNumber rfl n_X3_takeNumber v_X3_takeNumber q_X4_105 (by decide) (by decide) (Nat.le_of_ble_eq_true rfl) dX4_readSlat_98 (fun v9 τ9 H => ?_) (fun E τ H => H)
          refine e_istore_n (ls' := [(3, .int v9), (2, .int v7), (1, .int v3), (0, .ref (zad g 3))]) dX4_readSlat_101 rfl (by decide) rfl ?_
          refine e_iload_n dX4_readSlat_102 rfl 0 rfl ?_
          refine e_iconst (v := (-1)) dX4_readSlat_103 (by decide) ?_
          refine e_icmp_ne (tgt := 109) dX4_readSlat_104 (by decide) (fun h10 => ?_) (fun h10 => ?_)
          · replace H := H.1 h10
            refine e_aload_n dX4_readSlat_109 rfl 3 rfl ?_
            refine fg_X4_12 rfl dX4_readSlat_110 ?_
            refine e_iload_n dX4_readSlat_113 rfl 2 rfl ?_
            refine e_iload_n dX4_readSlat_114 rfl 0 rfl ?_
            refine e_iload_n dX4_readSlat_115 rfl 1 rfl ?_
            refine e_iconst (v := 1) dX4_readSlat_116 (by decide) ?_
            refine e_icmp_ne (tgt := 124) dX4_readSlat_117 (by decide) (fun h11 => ?_) (fun h11 => ?_)
            · replace H := H.1 h11
              refine e_iconst (v := 0) dX4_readSlat_124 (by decide) ?_
              refine e_callSNi (j1 := 0) (j2 := 0) (av := [.int v9, .int 0]) rfl H i_X6_toSide rfl s_X6_toSide nl_X4_132 (by decide) (by decide) (Nat.le_of_ble_eq_true rfl) dX4_readSlat_125 (fun v12 τ12 H => ?_) (fun E τ H => H)
              refine e_callVv (j1 := 0) (j2 := 0) (av := [.int v3, .int v12]) rfl (zB_s0 zB_93) (zB_l0 zB_93) rfl rfl H i_X0_addSlat rfl n_X0_addSlat v_X0_addSlat q_X4_124 (by decide) (by decide) (Nat.le_of_ble_eq_true rfl) dX4_readSlat_128 (fun τ13 H => ?_) (fun E τ H => H)
              refine e_aload_n dX4_readSlat_131 rfl 3 rfl ?_
              refine fg_X4_38 rfl dX4_readSlat_132 ?_
              refine e_bipush (v := 59) dX4_readSlat_135 (by decide) ?_
              refine e_callVi (j1 := 0) (j2 := 0) (av := [.int 59]) rfl rfl (Nat.le_of_ble_eq_true rfl) rfl rfl H i_X3_takeSign rfl n_X3_takeSign v_X3_takeSign q_X4_111 (by decide) (by decide) (Nat.le_of_ble_eq_true rfl) dX4_readSlat_137 (fun v14 τ14 H => ?_) (fun E τ H => H)
              exact e_zret rfl (zbl_n H.1) dX4_readSlat_140 H.2
            · replace H := H.2 h11
              refine e_iconst (v := 1) dX4_readSlat_120 (by decide) ?_
              refine e_goto (tgt := 125) dX4_readSlat_121 (by decide) ?_
              refine e_callSNi (j1 := 0) (j2 := 0) (av := [.int v9, .int 1]) rfl H i_X6_toSide rfl s_X6_toSide nl_X4_132 (by decide) (by decide) (Nat.le_of_ble_eq_true rfl) dX4_readSlat_125 (fun v15 τ15 H => ?_) (fun E τ H => H)
              refine e_callVv (j1 := 0) (j2 := 0) (av := [.int v3, .int v15]) rfl (zB_s0 zB_93) (zB_l0 zB_93) rfl rfl H i_X0_addSlat rfl n_X0_addSlat v_X0_addSlat q_X4_124 (by decide) (by decide) (Nat.le_of_ble_eq_true rfl) dX4_readSlat_128 (fun τ16 H => ?_) (fun E τ H => H)
              refine e_aload_n dX4_readSlat_131 rfl 3 rfl ?_
              refine fg_X4_38 rfl dX4_readSlat_132 ?_
              refine e_bipush (v := 59) dX4_readSlat_135 (by decide) ?_
              refine e_callVi (j1 := 0) (j2 := 0) (av := [.int 59]) rfl rfl (Nat.le_of_ble_eq_true rfl) rfl rfl H i_X3_takeSign rfl n_X3_takeSign v_X3_takeSign q_X4_111 (by decide) (by decide) (Nat.le_of_ble_eq_true rfl) dX4_readSlat_137 (fun v17 τ17 H => ?_) (fun E τ H => H)
              exact e_zret rfl (zbl_n H.1) dX4_readSlat_140 H.2
          · replace H := H.2 h10
            refine e_iconst (v := 0) dX4_readSlat_107 (by decide) ?_
            exact e_zret rfl rfl dX4_readSlat_108 H
        · replace H := H.2 h8
          refine e_iconst (v := 0) dX4_readSlat_90 (by decide) ?_
          exact e_zret rfl rfl dX4_readSlat_91 H
      · replace H := H.2 h6
        refine e_aload_n dX4_readSlat_58 rfl 1 rfl ?_
        refine fg_X4_12 rfl dX4_readSlat_59 ?_
        refine e_iload_n dX4_readSlat_62 rfl 0 rfl ?_
        refine e_iconst (v := 0) dX4_readSlat_63 (by decide) ?_
        refine e_callVv (j1 := 0) (j2 := 0) (av := [.int v3, .int 0]) rfl (zB_s0 zB_93) (zB_l0 zB_93) rfl rfl H i_X0_addSlat rfl n_X0_addSlat v_X0_addSlat q_X4_124 (by decide) (by decide) (Nat.le_of_ble_eq_true rfl) dX4_readSlat_64 (fun τ18 H => ?_) (fun E τ H => H)
        refine e_aload_n dX4_readSlat_67 rfl 1 rfl ?_
        refine fg_X4_38 rfl dX4_readSlat_68 ?_
        refine e_bipush (v := 59) dX4_readSlat_71 (by decide) ?_
        refine e_callVi (j1 := 0) (j2 := 0) (av := [.int 59]) rfl rfl (Nat.le_of_ble_eq_true rfl) rfl rfl H i_X3_takeSign rfl n_X3_takeSign v_X3_takeSign q_X4_111 (by decide) (by decide) (Nat.le_of_ble_eq_true rfl) dX4_readSlat_73 (fun v19 τ19 H => ?_) (fun E τ H => H)
        exact e_zret rfl (zbl_n H.1) dX4_readSlat_76 H.2
    · replace H := H.2 h4
      refine e_iconst (v := 0) dX4_readSlat_44 (by decide) ?_
      exact e_zret rfl rfl dX4_readSlat_45 H
  · replace H := H.2 h1
    refine e_aload_n dX4_readSlat_12 rfl 0 rfl ?_
    refine fg_X4_38 rfl dX4_readSlat_13 ?_
    refine e_iconst (v := 5) dX4_readSlat_16 (by decide) ?_
    refine e_callVi (j1 := 0) (j2 := 0) (av := [.int 5]) rfl rfl (Nat.le_of_ble_eq_true rfl) rfl rfl H i_X3_fail rfl n_X3_fail v_X3_fail q_X4_98 (by decide) (by decide) (Nat.le_of_ble_eq_true rfl) dX4_readSlat_17 (fun v20 τ20 H => ?_) (fun E τ H => H)
    exact e_zret rfl (zbl_n H.1) dX4_readSlat_20 H.2
set_option maxRecDepth 20000 in
set_option maxHeartbeats 2000000 in
theorem b_X4_readBox {g : zG} {l : Launch} {K : Int32 → zS → Prop} {X : String → zS → Prop} {σ : zS}
    (H : (((σ.1 3 4) < 16 → CT g l M_X3_advance 0 [.ref (zad g 1)] σ (zQv (fun τ2 => CT g l M_X3_takeSide 0 [.ref (zad g 1)] τ2 (zQi (fun v3 τ3 => ((¬ v3 = (-1) → ((¬ v3 = 1 → (vp_in (τ3.1 3 4) 16 ∧ (∀ σ6 : zS, σ6 = zup τ3 4 (Int32.toNatClampNeg (τ3.1 3 4)) (vp_nar .boolean 0) → CT g l M_X4_readInto 0 [.ref (zad g 3), .ref (zad g 5), .int 0, .int 63] σ6 (zQi (fun v7 τ7 => ((v7 = 0 → K 0 τ7) ∧ (¬ v7 = 0 → CT g l M_X4_readInto 0 [.ref (zad g 3), .ref (zad g 6), .int 0, .int 63] τ7 (zQi (fun v10 τ10 => ((v10 = 0 → K 0 τ10) ∧ (¬ v10 = 0 → CT g l M_X4_readInto 0 [.ref (zad g 3), .ref (zad g 7), .int 1, .int 64] τ10 (zQi (fun v13 τ13 => ((v13 = 0 → K 0 τ13) ∧ (¬ v13 = 0 → CT g l M_X4_readInto 0 [.ref (zad g 3), .ref (zad g 8), .int 1, .int 64] τ13 (zQi (fun v16 τ16 => ((v16 = 0 → K 0 τ16) ∧ (¬ v16 = 0 → CT g l M_X4_readInto 0 [.ref (zad g 3), .ref (zad g 9), .int 1, .int 9] τ16 (zQi (fun v19 τ19 => ((v19 = 0 → K 0 τ19) ∧ (¬ v19 = 0 → (∀ σ23 : zS, σ23 = zup τ19 3 4 ((τ19.1 3 4) + 1) → ((¬ v3 = 1 → CT g l M_X0_countBox 0 [.ref (zad g 93), .int 0] σ23 (zQv (fun τ25 => CT g l M_X3_takeSign 0 [.ref (zad g 1), .int 59] τ25 (zQi (fun v26 τ26 => (zbl v26 ∧ K v26 τ26)) (fun E τ => X E τ))) (fun E τ => X E τ))) ∧ (v3 = 1 → CT g l M_X0_countBox 0 [.ref (zad g 93), .int 1] σ23 (zQv (fun τ27 => CT g l M_X3_takeSign 0 [.ref (zad g 1), .int 59] τ27 (zQi (fun v28 τ28 => (zbl v28 ∧ K v28 τ28)) (fun E τ => X E τ))) (fun E τ => X E τ)))))))) (fun E τ => X E τ))))) (fun E τ => X E τ))))) (fun E τ => X E τ))))) (fun E τ => X E τ))))) (fun E τ => X E τ))))) ∧ (v3 = 1 → (vp_in (τ3.1 3 4) 16 ∧ (∀ σ29 : zS, σ29 = zup τ3 4 (Int32.toNatClampNeg (τ3.1 3 4)) (vp_nar .boolean 1) → CT g l M_X4_readInto 0 [.ref (zad g 3), .ref (zad g 5), .int 0, .int 63] σ29 (zQi (fun v30 τ30 => ((v30 = 0 → K 0 τ30) ∧ (¬ v30 = 0 → CT g l M_X4_readInto 0 [.ref (zad g 3), .ref (zad g 6), .int 0, .int 63] τ30 (zQi (fun v33 τ33 => ((v33 = 0 → K 0 τ33) ∧ (¬ v33 = 0 → CT g l M_X4_readInto 0 [.ref (zad g 3), .ref (zad g 7), .int 1, .int 64] τ33 (zQi (fun v36 τ36 => ((v36 = 0 → K 0 τ36) ∧ (¬ v36 = 0 → CT g l M_X4_readInto 0 [.ref (zad g 3), .ref (zad g 8), .int 1, .int 64] τ36 (zQi (fun v39 τ39 => ((v39 = 0 → K 0 τ39) ∧ (¬ v39 = 0 → CT g l M_X4_readInto 0 [.ref (zad g 3), .ref (zad g 9), .int 1, .int 9] τ39 (zQi (fun v42 τ42 => ((v42 = 0 → K 0 τ42) ∧ (¬ v42 = 0 → (∀ σ46 : zS, σ46 = zup τ42 3 4 ((τ42.1 3 4) + 1) → ((¬ v3 = 1 → CT g l M_X0_countBox 0 [.ref (zad g 93), .int 0] σ46 (zQv (fun τ48 => CT g l M_X3_takeSign 0 [.ref (zad g 1), .int 59] τ48 (zQi (fun v49 τ49 => (zbl v49 ∧ K v49 τ49)) (fun E τ => X E τ))) (fun E τ => X E τ))) ∧ (v3 = 1 → CT g l M_X0_countBox 0 [.ref (zad g 93), .int 1] σ46 (zQv (fun τ50 => CT g l M_X3_takeSign 0 [.ref (zad g 1), .int 59] τ50 (zQi (fun v51 τ51 => (zbl v51 ∧ K v51 τ51)) (fun E τ => X E τ))) (fun E τ => X E τ)))))))) (fun E τ => X E τ))))) (fun E τ => X E τ))))) (fun E τ => X E τ))))) (fun E τ => X E τ))))) (fun E τ => X E τ))))))) ∧ (v3 = (-1) → K 0 τ3))) (fun E τ => X E τ))) (fun E τ => X E τ))) ∧ (¬ (σ.1 3 4) < 16 → CT g l M_X3_fail 0 [.ref (zad g 1), .int 5] σ (zQi (fun v52 τ52 => (zbl v52 ∧ K v52 τ52)) (fun E τ => X E τ))))) :
    CT g l M_X4_readBox 0 [.ref (zad g 3)] σ (zQi K X) := by
  refine CT_of rfl (by decide) (Nat.le_of_ble_eq_true rfl) ?_
  change EV _ _ _ _ _ 0 [(0, .ref (zad g 3))] [] _
  refine e_aload_n dX4_readBox_0 rfl 0 rfl ?_
  refine fg_X4_52 rfl dX4_readBox_1 ?_
  refine e_bipush (v := 16) dX4_readBox_4 (by decide) ?_
  refine e_icmp_lt (tgt := 18) dX4_readBox_6 (by decide) (fun h1 => ?_) (fun h1 => ?_)
  · replace H := H.1 h1
    refine e_aload_n dX4_readBox_18 rfl 0 rfl ?_
    refine fg_X4_38 rfl dX4_readBox_19 ?_
    refine e_callVv (j1 := 0) (j2 := 0) (av := []) rfl rfl (Nat.le_of_ble_eq_true rfl) rfl rfl H i_X3_advance rfl n_X3_advance v_X3_advance q_X4_102 (by decide) (by decide) (Nat.le_of_ble_eq_true rfl) dX4_readBox_22 (fun τ2 H => ?_) (fun E τ H => H)
    refine e_aload_n dX4_readBox_25 rfl 0 rfl ?_
    refine fg_X4_38 rfl dX4_readBox_26 ?_
    refine e_callVi (j1 := 0) (j2 := 0) (av := []) rfl rfl (Nat.le_of_ble_eq_true rfl) rfl rfl H i_X3_takeSide rfl n_X3_takeSide v_X3_takeSide q_X4_128 (by decide) (by decide) (Nat.le_of_ble_eq_true rfl) dX4_readBox_29 (fun v3 τ3 H => ?_) (fun E τ H => H)
    refine e_istore_n (ls' := [(1, .int v3), (0, .ref (zad g 3))]) dX4_readBox_32 rfl (by decide) rfl ?_
    refine e_iload_n dX4_readBox_33 rfl 0 rfl ?_
    refine e_iconst (v := (-1)) dX4_readBox_34 (by decide) ?_
    refine e_icmp_ne (tgt := 40) dX4_readBox_35 (by decide) (fun h4 => ?_) (fun h4 => ?_)
    · replace H := H.1 h4
      refine e_aload_n dX4_readBox_40 rfl 1 rfl ?_
      refine fg_X4_18 rfl dX4_readBox_41 ?_
      refine e_aload_n dX4_readBox_44 rfl 1 rfl ?_
      refine fg_X4_52 rfl dX4_readBox_45 ?_
      refine e_iload_n dX4_readBox_48 rfl 0 rfl ?_
      refine e_iconst (v := 1) dX4_readBox_49 (by decide) ?_
      refine e_icmp_ne (tgt := 57) dX4_readBox_50 (by decide) (fun h5 => ?_) (fun h5 => ?_)
      · replace H := H.1 h5
        refine e_iconst (v := 0) dX4_readBox_57 (by decide) ?_
        refine e_zast (n := 16) rfl (Nat.le_of_ble_eq_true rfl) H.1 dX4_readBox_58 ?_
        replace H := H.2
        replace H := H _ rfl
        generalize zup τ3 4 (Int32.toNatClampNeg (τ3.1 3 4)) (vp_nar .boolean 0) = σ6 at H ⊢
        refine e_aload_n dX4_readBox_59 rfl 1 rfl ?_
        refine e_aload_n dX4_readBox_60 rfl 1 rfl ?_
        refine fg_X4_22 rfl dX4_readBox_61 ?_
        refine e_iconst (v := 0) dX4_readBox_64 (by decide) ?_
        refine e_bipush (v := 63) dX4_readBox_65 (by decide) ?_
        refine e_callVi (j1 := 0) (j2 := 0) (av := [.ref (zad g 5), .int 0, .int 63]) rfl rfl (Nat.le_of_ble_eq_true rfl) rfl rfl H i_X4_readInto rfl n_X4_readInto v_X4_readInto q_X4_136 (by decide) (by decide) (Nat.le_of_ble_eq_true rfl) dX4_readBox_67 (fun v7 τ7 H => ?_) (fun E τ H => H)
        refine e_if_eq (tgt := 133) dX4_readBox_70 (by decide) (fun h8 => ?_) (fun h8 => ?_)
        · replace H := H.1 h8
          refine e_iconst (v := 0) dX4_readBox_133 (by decide) ?_
          refine e_istore_n (ls' := [(2, .int 0), (1, .int v3), (0, .ref (zad g 3))]) dX4_readBox_134 rfl (by decide) rfl ?_
          refine e_iload_n dX4_readBox_135 rfl 0 rfl ?_
          refine e_if_ne (tgt := 141) dX4_readBox_136 (by decide) (fun h9 => ?_) (fun h9 => ?_)
          · exact absurd h9 (by decide)
          · refine e_iconst (v := 0) dX4_readBox_139 (by decide) ?_
            exact e_zret rfl rfl dX4_readBox_140 H
        · replace H := H.2 h8
          refine e_aload_n dX4_readBox_73 rfl 1 rfl ?_
          refine e_aload_n dX4_readBox_74 rfl 1 rfl ?_
          refine fg_X4_26 rfl dX4_readBox_75 ?_
          refine e_iconst (v := 0) dX4_readBox_78 (by decide) ?_
          refine e_bipush (v := 63) dX4_readBox_79 (by decide) ?_
          refine e_callVi (j1 := 0) (j2 := 0) (av := [.ref (zad g 6), .int 0, .int 63]) rfl rfl (Nat.le_of_ble_eq_true rfl) rfl rfl H i_X4_readInto rfl n_X4_readInto v_X4_readInto q_X4_136 (by decide) (by decide) (Nat.le_of_ble_eq_true rfl) dX4_readBox_81 (fun v10 τ10 H => ?_) (fun E τ H => H)
          refine e_if_eq (tgt := 133) dX4_readBox_84 (by decide) (fun h11 => ?_) (fun h11 => ?_)
          · replace H := H.1 h11
            refine e_iconst (v := 0) dX4_readBox_133 (by decide) ?_
            refine e_istore_n (ls' := [(2, .int 0), (1, .int v3), (0, .ref (zad g 3))]) dX4_readBox_134 rfl (by decide) rfl ?_
            refine e_iload_n dX4_readBox_135 rfl 0 rfl ?_
            refine e_if_ne (tgt := 141) dX4_readBox_136 (by decide) (fun h12 => ?_) (fun h12 => ?_)
            · exact absurd h12 (by decide)
            · refine e_iconst (v := 0) dX4_readBox_139 (by decide) ?_
              exact e_zret rfl rfl dX4_readBox_140 H
          · replace H := H.2 h11
            refine e_aload_n dX4_readBox_87 rfl 1 rfl ?_
            refine e_aload_n dX4_readBox_88 rfl 1 rfl ?_
            refine fg_X4_29 rfl dX4_readBox_89 ?_
            refine e_iconst (v := 1) dX4_readBox_92 (by decide) ?_
            refine e_bipush (v := 64) dX4_readBox_93 (by decide) ?_
            refine e_callVi (j1 := 0) (j2 := 0) (av := [.ref (zad g 7), .int 1, .int 64]) rfl rfl (Nat.le_of_ble_eq_true rfl) rfl rfl H i_X4_readInto rfl n_X4_readInto v_X4_readInto q_X4_136 (by decide) (by decide) (Nat.le_of_ble_eq_true rfl) dX4_readBox_95 (fun v13 τ13 H => ?_) (fun E τ H => H)
            refine e_if_eq (tgt := 133) dX4_readBox_98 (by decide) (fun h14 => ?_) (fun h14 => ?_)
            · replace H := H.1 h14
              refine e_iconst (v := 0) dX4_readBox_133 (by decide) ?_
              refine e_istore_n (ls' := [(2, .int 0), (1, .int v3), (0, .ref (zad g 3))]) dX4_readBox_134 rfl (by decide) rfl ?_
              refine e_iload_n dX4_readBox_135 rfl 0 rfl ?_
              refine e_if_ne (tgt := 141) dX4_readBox_136 (by decide) (fun h15 => ?_) (fun h15 => ?_)
              · exact absurd h15 (by decide)
              · refine e_iconst (v := 0) dX4_readBox_139 (by decide) ?_
                exact e_zret rfl rfl dX4_readBox_140 H
            · replace H := H.2 h14
              refine e_aload_n dX4_readBox_101 rfl 1 rfl ?_
              refine e_aload_n dX4_readBox_102 rfl 1 rfl ?_
              refine fg_X4_32 rfl dX4_readBox_103 ?_
              refine e_iconst (v := 1) dX4_readBox_106 (by decide) ?_
              refine e_bipush (v := 64) dX4_readBox_107 (by decide) ?_
              refine e_callVi (j1 := 0) (j2 := 0) (av := [.ref (zad g 8), .int 1, .int 64]) rfl rfl (Nat.le_of_ble_eq_true rfl) rfl rfl H i_X4_readInto rfl n_X4_readInto v_X4_readInto q_X4_136 (by decide) (by decide) (Nat.le_of_ble_eq_true rfl) dX4_readBox_109 (fun v16 τ16 H => ?_) (fun E τ H => H)
              refine e_if_eq (tgt := 133) dX4_readBox_112 (by decide) (fun h17 => ?_) (fun h17 => ?_)
              · replace H := H.1 h17
                refine e_iconst (v := 0) dX4_readBox_133 (by decide) ?_
                refine e_istore_n (ls' := [(2, .int 0), (1, .int v3), (0, .ref (zad g 3))]) dX4_readBox_134 rfl (by decide) rfl ?_
                refine e_iload_n dX4_readBox_135 rfl 0 rfl ?_
                refine e_if_ne (tgt := 141) dX4_readBox_136 (by decide) (fun h18 => ?_) (fun h18 => ?_)
                · exact absurd h18 (by decide)
                · refine e_iconst (v := 0) dX4_readBox_139 (by decide) ?_
                  exact e_zret rfl rfl dX4_readBox_140 H
              · replace H := H.2 h17
                refine e_aload_n dX4_readBox_115 rfl 1 rfl ?_
                refine e_aload_n dX4_readBox_116 rfl 1 rfl ?_
                refine fg_X4_35 rfl dX4_readBox_117 ?_
                refine e_iconst (v := 1) dX4_readBox_120 (by decide) ?_
                refine e_bipush (v := 9) dX4_readBox_121 (by decide) ?_
                refine e_callVi (j1 := 0) (j2 := 0) (av := [.ref (zad g 9), .int 1, .int 9]) rfl rfl (Nat.le_of_ble_eq_true rfl) rfl rfl H i_X4_readInto rfl n_X4_readInto v_X4_readInto q_X4_136 (by decide) (by decide) (Nat.le_of_ble_eq_true rfl) dX4_readBox_123 (fun v19 τ19 H => ?_) (fun E τ H => H)
                refine e_if_eq (tgt := 133) dX4_readBox_126 (by decide) (fun h20 => ?_) (fun h20 => ?_)
                · replace H := H.1 h20
                  refine e_iconst (v := 0) dX4_readBox_133 (by decide) ?_
                  refine e_istore_n (ls' := [(2, .int 0), (1, .int v3), (0, .ref (zad g 3))]) dX4_readBox_134 rfl (by decide) rfl ?_
                  refine e_iload_n dX4_readBox_135 rfl 0 rfl ?_
                  refine e_if_ne (tgt := 141) dX4_readBox_136 (by decide) (fun h21 => ?_) (fun h21 => ?_)
                  · exact absurd h21 (by decide)
                  · refine e_iconst (v := 0) dX4_readBox_139 (by decide) ?_
                    exact e_zret rfl rfl dX4_readBox_140 H
                · replace H := H.2 h20
                  refine e_iconst (v := 1) dX4_readBox_129 (by decide) ?_
                  refine e_goto (tgt := 134) dX4_readBox_130 (by decide) ?_
                  refine e_istore_n (ls' := [(2, .int 1), (1, .int v3), (0, .ref (zad g 3))]) dX4_readBox_134 rfl (by decide) rfl ?_
                  refine e_iload_n dX4_readBox_135 rfl 0 rfl ?_
                  refine e_if_ne (tgt := 141) dX4_readBox_136 (by decide) (fun h22 => ?_) (fun h22 => ?_)
                  · refine e_aload_n dX4_readBox_141 rfl 2 rfl ?_
                    refine e_dup dX4_readBox_142 rfl ?_
                    refine fg_X4_52 rfl dX4_readBox_143 ?_
                    refine e_iconst (v := 1) dX4_readBox_146 (by decide) ?_
                    refine e_iadd dX4_readBox_147 ?_
                    refine fp_X4_52 rfl dX4_readBox_148 ?_
                    replace H := H _ rfl
                    generalize zup τ19 3 4 ((τ19.1 3 4) + 1) = σ23 at H ⊢
                    refine e_aload_n dX4_readBox_151 rfl 2 rfl ?_
                    refine fg_X4_12 rfl dX4_readBox_152 ?_
                    refine e_iload_n dX4_readBox_155 rfl 1 rfl ?_
                    refine e_iconst (v := 1) dX4_readBox_156 (by decide) ?_
                    refine e_icmp_ne (tgt := 164) dX4_readBox_157 (by decide) (fun h24 => ?_) (fun h24 => ?_)
                    · replace H := H.1 h24
                      refine e_iconst (v := 0) dX4_readBox_164 (by decide) ?_
                      refine e_callVv (j1 := 0) (j2 := 0) (av := [.int 0]) rfl (zB_s0 zB_93) (zB_l0 zB_93) rfl rfl H i_X0_countBox rfl n_X0_countBox v_X0_countBox q_X4_140 (by decide) (by decide) (Nat.le_of_ble_eq_true rfl) dX4_readBox_165 (fun τ25 H => ?_) (fun E τ H => H)
                      refine e_aload_n dX4_readBox_168 rfl 2 rfl ?_
                      refine fg_X4_38 rfl dX4_readBox_169 ?_
                      refine e_bipush (v := 59) dX4_readBox_172 (by decide) ?_
                      refine e_callVi (j1 := 0) (j2 := 0) (av := [.int 59]) rfl rfl (Nat.le_of_ble_eq_true rfl) rfl rfl H i_X3_takeSign rfl n_X3_takeSign v_X3_takeSign q_X4_111 (by decide) (by decide) (Nat.le_of_ble_eq_true rfl) dX4_readBox_174 (fun v26 τ26 H => ?_) (fun E τ H => H)
                      exact e_zret rfl (zbl_n H.1) dX4_readBox_177 H.2
                    · replace H := H.2 h24
                      refine e_iconst (v := 1) dX4_readBox_160 (by decide) ?_
                      refine e_goto (tgt := 165) dX4_readBox_161 (by decide) ?_
                      refine e_callVv (j1 := 0) (j2 := 0) (av := [.int 1]) rfl (zB_s0 zB_93) (zB_l0 zB_93) rfl rfl H i_X0_countBox rfl n_X0_countBox v_X0_countBox q_X4_140 (by decide) (by decide) (Nat.le_of_ble_eq_true rfl) dX4_readBox_165 (fun τ27 H => ?_) (fun E τ H => H)
                      refine e_aload_n dX4_readBox_168 rfl 2 rfl ?_
                      refine fg_X4_38 rfl dX4_readBox_169 ?_
                      refine e_bipush (v := 59) dX4_readBox_172 (by decide) ?_
                      refine e_callVi (j1 := 0) (j2 := 0) (av := [.int 59]) rfl rfl (Nat.le_of_ble_eq_true rfl) rfl rfl H i_X3_takeSign rfl n_X3_takeSign v_X3_takeSign q_X4_111 (by decide) (by decide) (Nat.le_of_ble_eq_true rfl) dX4_readBox_174 (fun v28 τ28 H => ?_) (fun E τ H => H)
                      exact e_zret rfl (zbl_n H.1) dX4_readBox_177 H.2
                  · exact absurd h22 (by decide)
      · replace H := H.2 h5
        refine e_iconst (v := 1) dX4_readBox_53 (by decide) ?_
        refine e_goto (tgt := 58) dX4_readBox_54 (by decide) ?_
        refine e_zast (n := 16) rfl (Nat.le_of_ble_eq_true rfl) H.1 dX4_readBox_58 ?_
        replace H := H.2
        replace H := H _ rfl
        generalize zup τ3 4 (Int32.toNatClampNeg (τ3.1 3 4)) (vp_nar .boolean 1) = σ29 at H ⊢
        refine e_aload_n dX4_readBox_59 rfl 1 rfl ?_
        refine e_aload_n dX4_readBox_60 rfl 1 rfl ?_
        refine fg_X4_22 rfl dX4_readBox_61 ?_
        refine e_iconst (v := 0) dX4_readBox_64 (by decide) ?_
        refine e_bipush (v := 63) dX4_readBox_65 (by decide) ?_
        refine e_callVi (j1 := 0) (j2 := 0) (av := [.ref (zad g 5), .int 0, .int 63]) rfl rfl (Nat.le_of_ble_eq_true rfl) rfl rfl H i_X4_readInto rfl n_X4_readInto v_X4_readInto q_X4_136 (by decide) (by decide) (Nat.le_of_ble_eq_true rfl) dX4_readBox_67 (fun v30 τ30 H => ?_) (fun E τ H => H)
        refine e_if_eq (tgt := 133) dX4_readBox_70 (by decide) (fun h31 => ?_) (fun h31 => ?_)
        · replace H := H.1 h31
          refine e_iconst (v := 0) dX4_readBox_133 (by decide) ?_
          refine e_istore_n (ls' := [(2, .int 0), (1, .int v3), (0, .ref (zad g 3))]) dX4_readBox_134 rfl (by decide) rfl ?_
          refine e_iload_n dX4_readBox_135 rfl 0 rfl ?_
          refine e_if_ne (tgt := 141) dX4_readBox_136 (by decide) (fun h32 => ?_) (fun h32 => ?_)
          · exact absurd h32 (by decide)
          · refine e_iconst (v := 0) dX4_readBox_139 (by decide) ?_
            exact e_zret rfl rfl dX4_readBox_140 H
        · replace H := H.2 h31
          refine e_aload_n dX4_readBox_73 rfl 1 rfl ?_
          refine e_aload_n dX4_readBox_74 rfl 1 rfl ?_
          refine fg_X4_26 rfl dX4_readBox_75 ?_
          refine e_iconst (v := 0) dX4_readBox_78 (by decide) ?_
          refine e_bipush (v := 63) dX4_readBox_79 (by decide) ?_
          refine e_callVi (j1 := 0) (j2 := 0) (av := [.ref (zad g 6), .int 0, .int 63]) rfl rfl (Nat.le_of_ble_eq_true rfl) rfl rfl H i_X4_readInto rfl n_X4_readInto v_X4_readInto q_X4_136 (by decide) (by decide) (Nat.le_of_ble_eq_true rfl) dX4_readBox_81 (fun v33 τ33 H => ?_) (fun E τ H => H)
          refine e_if_eq (tgt := 133) dX4_readBox_84 (by decide) (fun h34 => ?_) (fun h34 => ?_)
          · replace H := H.1 h34
            refine e_iconst (v := 0) dX4_readBox_133 (by decide) ?_
            refine e_istore_n (ls' := [(2, .int 0), (1, .int v3), (0, .ref (zad g 3))]) dX4_readBox_134 rfl (by decide) rfl ?_
            refine e_iload_n dX4_readBox_135 rfl 0 rfl ?_
            refine e_if_ne (tgt := 141) dX4_readBox_136 (by decide) (fun h35 => ?_) (fun h35 => ?_)
            · exact absurd h35 (by decide)
            · refine e_iconst (v := 0) dX4_readBox_139 (by decide) ?_
              exact e_zret rfl rfl dX4_readBox_140 H
          · replace H := H.2 h34
            refine e_aload_n dX4_readBox_87 rfl 1 rfl ?_
            refine e_aload_n dX4_readBox_88 rfl 1 rfl ?_
            refine fg_X4_29 rfl dX4_readBox_89 ?_
            refine e_iconst (v := 1) dX4_readBox_92 (by decide) ?_
            refine e_bipush (v := 64) dX4_readBox_93 (by decide) ?_
            refine e_callVi (j1 := 0) (j2 := 0) (av := [.ref (zad g 7), .int 1, .int 64]) rfl rfl (Nat.le_of_ble_eq_true rfl) rfl rfl H i_X4_readInto rfl n_X4_readInto v_X4_readInto q_X4_136 (by decide) (by decide) (Nat.le_of_ble_eq_true rfl) dX4_readBox_95 (fun v36 τ36 H => ?_) (fun E τ H => H)
            refine e_if_eq (tgt := 133) dX4_readBox_98 (by decide) (fun h37 => ?_) (fun h37 => ?_)
            · replace H := H.1 h37
              refine e_iconst (v := 0) dX4_readBox_133 (by decide) ?_
              refine e_istore_n (ls' := [(2, .int 0), (1, .int v3), (0, .ref (zad g 3))]) dX4_readBox_134 rfl (by decide) rfl ?_
              refine e_iload_n dX4_readBox_135 rfl 0 rfl ?_
              refine e_if_ne (tgt := 141) dX4_readBox_136 (by decide) (fun h38 => ?_) (fun h38 => ?_)
              · exact absurd h38 (by decide)
              · refine e_iconst (v := 0) dX4_readBox_139 (by decide) ?_
                exact e_zret rfl rfl dX4_readBox_140 H
            · replace H := H.2 h37
              refine e_aload_n dX4_readBox_101 rfl 1 rfl ?_
              refine e_aload_n dX4_readBox_102 rfl 1 rfl ?_
              refine fg_X4_32 rfl dX4_readBox_103 ?_
              refine e_iconst (v := 1) dX4_readBox_106 (by decide) ?_
              refine e_bipush (v := 64) dX4_readBox_107 (by decide) ?_
              refine e_callVi (j1 := 0) (j2 := 0) (av := [.ref (zad g 8), .int 1, .int 64]) rfl rfl (Nat.le_of_ble_eq_true rfl) rfl rfl H i_X4_readInto rfl n_X4_readInto v_X4_readInto q_X4_136 (by decide) (by decide) (Nat.le_of_ble_eq_true rfl) dX4_readBox_109 (fun v39 τ39 H => ?_) (fun E τ H => H)
              refine e_if_eq (tgt := 133) dX4_readBox_112 (by decide) (fun h40 => ?_) (fun h40 => ?_)
              · replace H := H.1 h40
                refine e_iconst (v := 0) dX4_readBox_133 (by decide) ?_
                refine e_istore_n (ls' := [(2, .int 0), (1, .int v3), (0, .ref (zad g 3))]) dX4_readBox_134 rfl (by decide) rfl ?_
                refine e_iload_n dX4_readBox_135 rfl 0 rfl ?_
                refine e_if_ne (tgt := 141) dX4_readBox_136 (by decide) (fun h41 => ?_) (fun h41 => ?_)
                · exact absurd h41 (by decide)
                · refine e_iconst (v := 0) dX4_readBox_139 (by decide) ?_
                  exact e_zret rfl rfl dX4_readBox_140 H
              · replace H := H.2 h40
                refine e_aload_n dX4_readBox_115 rfl 1 rfl ?_
                refine e_aload_n dX4_readBox_116 rfl 1 rfl ?_
                refine fg_X4_35 rfl dX4_readBox_117 ?_
                refine e_iconst (v := 1) dX4_readBox_120 (by decide) ?_
                refine e_bipush (v := 9) dX4_readBox_121 (by decide) ?_
                refine e_callVi (j1 := 0) (j2 := 0) (av := [.ref (zad g 9), .int 1, .int 9]) rfl rfl (Nat.le_of_ble_eq_true rfl) rfl rfl H i_X4_readInto rfl n_X4_readInto v_X4_readInto q_X4_136 (by decide) (by decide) (Nat.le_of_ble_eq_true rfl) dX4_readBox_123 (fun v42 τ42 H => ?_) (fun E τ H => H)
                refine e_if_eq (tgt := 133) dX4_readBox_126 (by decide) (fun h43 => ?_) (fun h43 => ?_)
                · replace H := H.1 h43
                  refine e_iconst (v := 0) dX4_readBox_133 (by decide) ?_
                  refine e_istore_n (ls' := [(2, .int 0), (1, .int v3), (0, .ref (zad g 3))]) dX4_readBox_134 rfl (by decide) rfl ?_
                  refine e_iload_n dX4_readBox_135 rfl 0 rfl ?_
                  refine e_if_ne (tgt := 141) dX4_readBox_136 (by decide) (fun h44 => ?_) (fun h44 => ?_)
                  · exact absurd h44 (by decide)
                  · refine e_iconst (v := 0) dX4_readBox_139 (by decide) ?_
                    exact e_zret rfl rfl dX4_readBox_140 H
                · replace H := H.2 h43
                  refine e_iconst (v := 1) dX4_readBox_129 (by decide) ?_
                  refine e_goto (tgt := 134) dX4_readBox_130 (by decide) ?_
                  refine e_istore_n (ls' := [(2, .int 1), (1, .int v3), (0, .ref (zad g 3))]) dX4_readBox_134 rfl (by decide) rfl ?_
                  refine e_iload_n dX4_readBox_135 rfl 0 rfl ?_
                  refine e_if_ne (tgt := 141) dX4_readBox_136 (by decide) (fun h45 => ?_) (fun h45 => ?_)
                  · refine e_aload_n dX4_readBox_141 rfl 2 rfl ?_
                    refine e_dup dX4_readBox_142 rfl ?_
                    refine fg_X4_52 rfl dX4_readBox_143 ?_
                    refine e_iconst (v := 1) dX4_readBox_146 (by decide) ?_
                    refine e_iadd dX4_readBox_147 ?_
                    refine fp_X4_52 rfl dX4_readBox_148 ?_
                    replace H := H _ rfl
                    generalize zup τ42 3 4 ((τ42.1 3 4) + 1) = σ46 at H ⊢
                    refine e_aload_n dX4_readBox_151 rfl 2 rfl ?_
                    refine fg_X4_12 rfl dX4_readBox_152 ?_
                    refine e_iload_n dX4_readBox_155 rfl 1 rfl ?_
                    refine e_iconst (v := 1) dX4_readBox_156 (by decide) ?_
                    refine e_icmp_ne (tgt := 164) dX4_readBox_157 (by decide) (fun h47 => ?_) (fun h47 => ?_)
                    · replace H := H.1 h47
                      refine e_iconst (v := 0) dX4_readBox_164 (by decide) ?_
                      refine e_callVv (j1 := 0) (j2 := 0) (av := [.int 0]) rfl (zB_s0 zB_93) (zB_l0 zB_93) rfl rfl H i_X0_countBox rfl n_X0_countBox v_X0_countBox q_X4_140 (by decide) (by decide) (Nat.le_of_ble_eq_true rfl) dX4_readBox_165 (fun τ48 H => ?_) (fun E τ H => H)
                      refine e_aload_n dX4_readBox_168 rfl 2 rfl ?_
                      refine fg_X4_38 rfl dX4_readBox_169 ?_
                      refine e_bipush (v := 59) dX4_readBox_172 (by decide) ?_
                      refine e_callVi (j1 := 0) (j2 := 0) (av := [.int 59]) rfl rfl (Nat.le_of_ble_eq_true rfl) rfl rfl H i_X3_takeSign rfl n_X3_takeSign v_X3_takeSign q_X4_111 (by decide) (by decide) (Nat.le_of_ble_eq_true rfl) dX4_readBox_174 (fun v49 τ49 H => ?_) (fun E τ H => H)
                      exact e_zret rfl (zbl_n H.1) dX4_readBox_177 H.2
                    · replace H := H.2 h47
                      refine e_iconst (v := 1) dX4_readBox_160 (by decide) ?_
                      refine e_goto (tgt := 165) dX4_readBox_161 (by decide) ?_
                      refine e_callVv (j1 := 0) (j2 := 0) (av := [.int 1]) rfl (zB_s0 zB_93) (zB_l0 zB_93) rfl rfl H i_X0_countBox rfl n_X0_countBox v_X0_countBox q_X4_140 (by decide) (by decide) (Nat.le_of_ble_eq_true rfl) dX4_readBox_165 (fun τ50 H => ?_) (fun E τ H => H)
                      refine e_aload_n dX4_readBox_168 rfl 2 rfl ?_
                      refine fg_X4_38 rfl dX4_readBox_169 ?_
                      refine e_bipush (v := 59) dX4_readBox_172 (by decide) ?_
                      refine e_callVi (j1 := 0) (j2 := 0) (av := [.int 59]) rfl rfl (Nat.le_of_ble_eq_true rfl) rfl rfl H i_X3_takeSign rfl n_X3_takeSign v_X3_takeSign q_X4_111 (by decide) (by decide) (Nat.le_of_ble_eq_true rfl) dX4_readBox_174 (fun v51 τ51 H => ?_) (fun E τ H => H)
                      exact e_zret rfl (zbl_n H.1) dX4_readBox_177 H.2
                  · exact absurd h45 (by decide)
    · replace H := H.2 h4
      refine e_iconst (v := 0) dX4_readBox_38 (by decide) ?_
      exact e_zret rfl rfl dX4_readBox_39 H
  · replace H := H.2 h1
    refine e_aload_n dX4_readBox_9 rfl 0 rfl ?_
    refine fg_X4_38 rfl dX4_readBox_10 ?_
    refine e_iconst (v := 5) dX4_readBox_13 (by decide) ?_
    refine e_callVi (j1 := 0) (j2 := 0) (av := [.int 5]) rfl rfl (Nat.le_of_ble_eq_true rfl) rfl rfl H i_X3_fail rfl n_X3_fail v_X3_fail q_X4_98 (by decide) (by decide) (Nat.le_of_ble_eq_true rfl) dX4_readBox_14 (fun v52 τ52 H => ?_) (fun E τ H => H)
    exact e_zret rfl (zbl_n H.1) dX4_readBox_17 H.2
set_option maxRecDepth 20000 in
set_option maxHeartbeats 2000000 in
theorem b_X4_readInto {g : zG} {l : Launch} {K : Int32 → zS → Prop} {X : String → zS → Prop} {t : Nat} {x2 : Int32} {x3 : Int32} {σ : zS} (ht : zsh t = .inr (0, 16)) (lt : t < 163)
    (H : CT g l M_X3_takeNumber 0 [.ref (zad g 1), .int x2, .int x3] σ (zQi (fun v1 τ1 => ((v1 = (-1) → K 0 τ1) ∧ (¬ v1 = (-1) → (((τ1.1 3 4) < (nI 16) → (vp_in (τ1.1 3 4) 16 ∧ (∀ σ4 : zS, σ4 = zup τ1 t (Int32.toNatClampNeg (τ1.1 3 4)) v1 → K 1 σ4))) ∧ (¬ (τ1.1 3 4) < (nI 16) → K 0 τ1))))) (fun E τ => X E τ))) :
    CT g l M_X4_readInto 0 [.ref (zad g 3), .ref (zad g t), .int x2, .int x3] σ (zQi K X) := by
  refine CT_of rfl (by decide) (Nat.le_of_ble_eq_true rfl) ?_
  change EV _ _ _ _ _ 0 [(0, .ref (zad g 3)), (1, .ref (zad g t)), (2, .int x2), (3, .int x3)] [] _
  refine e_aload_n dX4_readInto_0 rfl 0 rfl ?_
  refine fg_X4_38 rfl dX4_readInto_1 ?_
  refine e_iload_n dX4_readInto_4 rfl 2 rfl ?_
  refine e_iload_n dX4_readInto_5 rfl 3 rfl ?_
  refine e_callVi (j1 := 0) (j2 := 0) (av := [.int x2, .int x3]) rfl rfl (Nat.le_of_ble_eq_true rfl) rfl rfl H i_X3_takeNumber rfl n_X3_takeNumber v_X3_takeNumber q_X4_105 (by decide) (by decide) (Nat.le_of_ble_eq_true rfl) dX4_readInto_6 (fun v1 τ1 H => ?_) (fun E τ H => H)
  refine e_istore (ls' := [(4, .int v1), (0, .ref (zad g 3)), (1, .ref (zad g t)), (2, .int x2), (3, .int x3)]) dX4_readInto_9 (by decide) rfl ?_
  refine e_iload dX4_readInto_11 0 rfl ?_
  refine e_iconst (v := (-1)) dX4_readInto_13 (by decide) ?_
  refine e_icmp_eq (tgt := 26) dX4_readInto_14 (by decide) (fun h2 => ?_) (fun h2 => ?_)
  · replace H := H.1 h2
    refine e_iconst (v := 0) dX4_readInto_26 (by decide) ?_
    exact e_zret rfl rfl dX4_readInto_27 H
  · replace H := H.2 h2
    refine e_aload_n dX4_readInto_17 rfl 1 rfl ?_
    refine fg_X4_52 rfl dX4_readInto_18 ?_
    refine e_aload_n dX4_readInto_21 rfl 2 rfl ?_
    refine e_alen (n := 16) (v := nI 16) ht lt rfl dX4_readInto_22 ?_
    refine e_icmp_lt (tgt := 28) dX4_readInto_23 (by decide) (fun h3 => ?_) (fun h3 => ?_)
    · replace H := H.1 h3
      refine e_aload_n dX4_readInto_28 rfl 2 rfl ?_
      refine e_aload_n dX4_readInto_29 rfl 1 rfl ?_
      refine fg_X4_52 rfl dX4_readInto_30 ?_
      refine e_iload dX4_readInto_33 0 rfl ?_
      refine e_iast (n := 16) ht lt H.1 dX4_readInto_35 ?_
      replace H := H.2
      replace H := H _ rfl
      generalize zup τ1 t (Int32.toNatClampNeg (τ1.1 3 4)) v1 = σ4 at H ⊢
      refine e_iconst (v := 1) dX4_readInto_36 (by decide) ?_
      exact e_zret rfl rfl dX4_readInto_37 H
    · replace H := H.2 h3
      refine e_iconst (v := 0) dX4_readInto_26 (by decide) ?_
      exact e_zret rfl rfl dX4_readInto_27 H
abbrev L_X4_drawBoxes_2 (g : zG) (l : Launch) (K : zS → Prop) (X : String → zS → Prop) (y1 : Int32) (σ : zS) : Prop :=
  EV g l M_X4_drawBoxes 0 (zQv K X) 2 [(0, .ref (zad g 3)), (1, .int y1)] [] σ
abbrev L_X4_drawBoxes_56 (g : zG) (l : Launch) (K : zS → Prop) (X : String → zS → Prop) (y1 : Int32) (y2 : Nat) (y3 : Int32) (y4 : Int32) (σ : zS) : Prop :=
  EV g l M_X4_drawBoxes 0 (zQv K X) 56 [(0, .ref (zad g 3)), (1, .int y1), (2, .ref (zad g y2)), (3, .int y3), (4, .int y4)] [] σ
set_option maxRecDepth 20000 in
set_option maxHeartbeats 2000000 in
theorem b_X4_drawBoxes {g : zG} {l : Launch} {K : zS → Prop} {X : String → zS → Prop} {σ : zS}
    (H : L_X4_drawBoxes_2 g l K X 0 σ) :
    CT g l M_X4_drawBoxes 0 [.ref (zad g 3)] σ (zQv K X) := by
  refine CT_of rfl (by decide) (Nat.le_of_ble_eq_true rfl) ?_
  change EV _ _ _ _ _ 0 [(0, .ref (zad g 3))] [] _
  refine e_iconst (v := 0) dX4_drawBoxes_0 (by decide) ?_
  refine e_istore_n (ls' := [(1, .int 0), (0, .ref (zad g 3))]) dX4_drawBoxes_1 rfl (by decide) rfl ?_
  refine e_ls [1, 0] rfl ?_
  exact H
set_option maxRecDepth 20000 in
set_option maxHeartbeats 2000000 in
theorem b_X4_drawBoxes_2 {g : zG} {l : Launch} {K : zS → Prop} {X : String → zS → Prop} {y1 : Int32} {σ : zS}
    (H : (((σ.1 3 4) ≤ y1 → K σ) ∧ (¬ (σ.1 3 4) ≤ y1 → (vp_in y1 16 ∧ CT g l M_X0_pictureOf 0 [.ref (zad g 93), .int (σ.1 4 (Int32.toNatClampNeg y1))] σ (zQr g (fun v2 τ2 => zsh v2 = .inr (0, 60) ∧ v2 < 163 ∧ (vp_in y1 16 ∧ (vp_in y1 16 ∧ (vp_in y1 16 ∧ L_X4_drawBoxes_56 g l K X y1 v2 (zmin (τ2.1 93 3) ((τ2.1 5 (Int32.toNatClampNeg y1)) + (τ2.1 7 (Int32.toNatClampNeg y1)))) (τ2.1 5 (Int32.toNatClampNeg y1)) τ2)))) (fun E τ => X E τ)))))) :
    L_X4_drawBoxes_2 g l K X y1 σ := by
  refine e_iload_n dX4_drawBoxes_2 rfl 1 rfl ?_
  refine e_aload_n dX4_drawBoxes_3 rfl 0 rfl ?_
  refine fg_X4_52 rfl dX4_drawBoxes_4 ?_
  refine e_icmp_ge (tgt := 87) dX4_drawBoxes_7 (by decide) (fun h1 => ?_) (fun h1 => ?_)
  · replace H := H.1 h1
    exact e_vret rfl dX4_drawBoxes_87 H
  · replace H := H.2 h1
    refine e_aload_n dX4_drawBoxes_10 rfl 0 rfl ?_
    refine fg_X4_12 rfl dX4_drawBoxes_11 ?_
    refine e_aload_n dX4_drawBoxes_14 rfl 0 rfl ?_
    refine fg_X4_18 rfl dX4_drawBoxes_15 ?_
    refine e_iload_n dX4_drawBoxes_18 rfl 1 rfl ?_
    refine e_zald (n := 16) rfl (Nat.le_of_ble_eq_true rfl) H.1 dX4_drawBoxes_19 ?_
    replace H := H.2
    refine e_callVr (j1 := 0) (j2 := 0) (av := [.int (σ.1 4 (Int32.toNatClampNeg y1))]) rfl (zB_s0 zB_93) (zB_l0 zB_93) rfl rfl H i_X0_pictureOf rfl n_X0_pictureOf v_X0_pictureOf q_X4_144 (by decide) (by decide) (Nat.le_of_ble_eq_true rfl) dX4_drawBoxes_20 (fun v2 τ2 H => ?_) (fun E τ H => H)
    have hsv2 := H.1
    have hlv2 := H.2.1
    replace H := H.2.2
    refine e_astore_n (ls' := [(2, .ref (zad g v2)), (0, .ref (zad g 3)), (1, .int y1)]) dX4_drawBoxes_23 rfl (by decide) rfl ?_
    refine e_aload_n dX4_drawBoxes_24 rfl 1 rfl ?_
    refine fg_X4_12 rfl dX4_drawBoxes_25 ?_
    refine fg_X4_148 (zB_s0 zB_93) (zB_l0 zB_93) rfl dX4_drawBoxes_28 ?_
    refine e_aload_n dX4_drawBoxes_31 rfl 1 rfl ?_
    refine fg_X4_22 rfl dX4_drawBoxes_32 ?_
    refine e_iload_n dX4_drawBoxes_35 rfl 2 rfl ?_
    refine e_iald (n := 16) rfl (Nat.le_of_ble_eq_true rfl) H.1 dX4_drawBoxes_36 ?_
    replace H := H.2
    refine e_aload_n dX4_drawBoxes_37 rfl 1 rfl ?_
    refine fg_X4_29 rfl dX4_drawBoxes_38 ?_
    refine e_iload_n dX4_drawBoxes_41 rfl 2 rfl ?_
    refine e_iald (n := 16) rfl (Nat.le_of_ble_eq_true rfl) H.1 dX4_drawBoxes_42 ?_
    replace H := H.2
    refine e_iadd dX4_drawBoxes_43 ?_
    refine e_mmin qm_X4_150 ms_min mi_math mc_min (by decide) (Nat.le_of_ble_eq_true rfl) dX4_drawBoxes_44 ?_
    change EV _ _ _ _ _ _ _ (.int (zmin (τ2.1 93 3) ((τ2.1 5 (Int32.toNatClampNeg y1)) + (τ2.1 7 (Int32.toNatClampNeg y1)))) :: _) _
    refine e_istore_n (ls' := [(3, .int (zmin (τ2.1 93 3) ((τ2.1 5 (Int32.toNatClampNeg y1)) + (τ2.1 7 (Int32.toNatClampNeg y1))))), (2, .ref (zad g v2)), (0, .ref (zad g 3)), (1, .int y1)]) dX4_drawBoxes_47 rfl (by decide) rfl ?_
    refine e_aload_n dX4_drawBoxes_48 rfl 2 rfl ?_
    refine fg_X4_22 rfl dX4_drawBoxes_49 ?_
    refine e_iload_n dX4_drawBoxes_52 rfl 3 rfl ?_
    refine e_iald (n := 16) rfl (Nat.le_of_ble_eq_true rfl) H.1 dX4_drawBoxes_53 ?_
    replace H := H.2
    refine e_istore (ls' := [(4, .int (τ2.1 5 (Int32.toNatClampNeg y1))), (3, .int (zmin (τ2.1 93 3) ((τ2.1 5 (Int32.toNatClampNeg y1)) + (τ2.1 7 (Int32.toNatClampNeg y1))))), (2, .ref (zad g v2)), (0, .ref (zad g 3)), (1, .int y1)]) dX4_drawBoxes_54 (by decide) rfl ?_
    refine e_ls [3, 4, 2, 1, 0] rfl ?_
    exact H
set_option maxRecDepth 20000 in
set_option maxHeartbeats 2000000 in
theorem b_X4_drawBoxes_56 {g : zG} {l : Launch} {K : zS → Prop} {X : String → zS → Prop} {y1 : Int32} {y2 : Nat} {y3 : Int32} {y4 : Int32} {σ : zS} (hy2 : zsh y2 = .inr (0, 60)) (ly2 : y2 < 163)
    (H : ((y3 ≤ y4 → L_X4_drawBoxes_2 g l K X (y1 + 1) σ) ∧ (¬ y3 ≤ y4 → (vp_in y4 60 ∧ CT g l M_X4_drawnOver 0 [.ref (zad g 3), .int (σ.1 y2 (Int32.toNatClampNeg y4)), .int y1] σ (zQi (fun v2 τ2 => (vp_in y4 60 ∧ (∀ σ3 : zS, σ3 = zup τ2 y2 (Int32.toNatClampNeg y4) v2 → L_X4_drawBoxes_56 g l K X y1 y2 y3 (y4 + 1) σ3))) (fun E τ => X E τ)))))) :
    L_X4_drawBoxes_56 g l K X y1 y2 y3 y4 σ := by
  refine e_iload dX4_drawBoxes_56 4 rfl ?_
  refine e_iload_n dX4_drawBoxes_58 rfl 3 rfl ?_
  refine e_icmp_ge (tgt := 81) dX4_drawBoxes_59 (by decide) (fun h1 => ?_) (fun h1 => ?_)
  · replace H := H.1 h1
    refine e_iinc (j := 1) (v := (y1 + 1)) (ls' := [(1, .int (y1 + 1)), (0, .ref (zad g 3)), (2, .ref (zad g y2)), (3, .int y3), (4, .int y4)]) dX4_drawBoxes_81 rfl rfl (by decide) rfl ?_
    refine e_goto (tgt := 2) dX4_drawBoxes_84 (by decide) ?_
    refine e_ls [1, 0] rfl ?_
    exact H
  · replace H := H.2 h1
    refine e_aload_n dX4_drawBoxes_62 rfl 2 rfl ?_
    refine e_iload dX4_drawBoxes_63 4 rfl ?_
    refine e_aload_n dX4_drawBoxes_65 rfl 0 rfl ?_
    refine e_aload_n dX4_drawBoxes_66 rfl 2 rfl ?_
    refine e_iload dX4_drawBoxes_67 4 rfl ?_
    refine e_iald (n := 60) hy2 ly2 H.1 dX4_drawBoxes_69 ?_
    replace H := H.2
    refine e_iload_n dX4_drawBoxes_70 rfl 1 rfl ?_
    refine e_callVi (j1 := 0) (j2 := 0) (av := [.int (σ.1 y2 (Int32.toNatClampNeg y4)), .int y1]) rfl rfl (Nat.le_of_ble_eq_true rfl) rfl rfl H i_X4_drawnOver rfl n_X4_drawnOver v_X4_drawnOver q_X4_155 (by decide) (by decide) (Nat.le_of_ble_eq_true rfl) dX4_drawBoxes_71 (fun v2 τ2 H => ?_) (fun E τ H => H)
    refine e_iast (n := 60) hy2 ly2 H.1 dX4_drawBoxes_74 ?_
    replace H := H.2
    replace H := H _ rfl
    generalize zup τ2 y2 (Int32.toNatClampNeg y4) v2 = σ3 at H ⊢
    refine e_iinc (j := 4) (v := (y4 + 1)) (ls' := [(4, .int (y4 + 1)), (0, .ref (zad g 3)), (1, .int y1), (2, .ref (zad g y2)), (3, .int y3)]) dX4_drawBoxes_75 rfl rfl (by decide) rfl ?_
    refine e_goto (tgt := 56) dX4_drawBoxes_78 (by decide) ?_
    refine e_ls [1, 2, 3, 4, 0] rfl ?_
    exact H
abbrev L_X4_drawnOver_35 (g : zG) (l : Launch) (K : Int32 → zS → Prop) (X : String → zS → Prop) (y2 : Int32) (y3 : Int32) (y4 : Int32) (y5 : Int32) (σ : zS) : Prop :=
  EV g l M_X4_drawnOver 0 (zQi K X) 35 [(0, .ref (zad g 3)), (2, .int y2), (3, .int y3), (4, .int y4), (5, .int y5)] [] σ
set_option maxRecDepth 20000 in
set_option maxHeartbeats 2000000 in
theorem b_X4_drawnOver {g : zG} {l : Launch} {K : Int32 → zS → Prop} {X : String → zS → Prop} {x1 : Int32} {x2 : Int32} {σ : zS}
    (H : (vp_in x2 16 ∧ (vp_in x2 16 ∧ (vp_in x2 16 ∧ L_X4_drawnOver_35 g l K X x2 x1 (zmin (σ.1 93 0) ((σ.1 6 (Int32.toNatClampNeg x2)) + (σ.1 8 (Int32.toNatClampNeg x2)))) (σ.1 6 (Int32.toNatClampNeg x2)) σ)))) :
    CT g l M_X4_drawnOver 0 [.ref (zad g 3), .int x1, .int x2] σ (zQi K X) := by
  refine CT_of rfl (by decide) (Nat.le_of_ble_eq_true rfl) ?_
  change EV _ _ _ _ _ 0 [(0, .ref (zad g 3)), (1, .int x1), (2, .int x2)] [] _
  refine e_iload_n dX4_drawnOver_0 rfl 1 rfl ?_
  refine e_istore_n (ls' := [(3, .int x1), (0, .ref (zad g 3)), (1, .int x1), (2, .int x2)]) dX4_drawnOver_1 rfl (by decide) rfl ?_
  refine e_aload_n dX4_drawnOver_2 rfl 1 rfl ?_
  refine fg_X4_12 rfl dX4_drawnOver_3 ?_
  refine fg_X4_109 (zB_s0 zB_93) (zB_l0 zB_93) rfl dX4_drawnOver_6 ?_
  refine e_aload_n dX4_drawnOver_9 rfl 1 rfl ?_
  refine fg_X4_26 rfl dX4_drawnOver_10 ?_
  refine e_iload_n dX4_drawnOver_13 rfl 3 rfl ?_
  refine e_iald (n := 16) rfl (Nat.le_of_ble_eq_true rfl) H.1 dX4_drawnOver_14 ?_
  replace H := H.2
  refine e_aload_n dX4_drawnOver_15 rfl 1 rfl ?_
  refine fg_X4_32 rfl dX4_drawnOver_16 ?_
  refine e_iload_n dX4_drawnOver_19 rfl 3 rfl ?_
  refine e_iald (n := 16) rfl (Nat.le_of_ble_eq_true rfl) H.1 dX4_drawnOver_20 ?_
  replace H := H.2
  refine e_iadd dX4_drawnOver_21 ?_
  refine e_mmin qm_X4_150 ms_min mi_math mc_min (by decide) (Nat.le_of_ble_eq_true rfl) dX4_drawnOver_22 ?_
  change EV _ _ _ _ _ _ _ (.int (zmin (σ.1 93 0) ((σ.1 6 (Int32.toNatClampNeg x2)) + (σ.1 8 (Int32.toNatClampNeg x2)))) :: _) _
  refine e_istore (ls' := [(4, .int (zmin (σ.1 93 0) ((σ.1 6 (Int32.toNatClampNeg x2)) + (σ.1 8 (Int32.toNatClampNeg x2))))), (3, .int x1), (0, .ref (zad g 3)), (1, .int x1), (2, .int x2)]) dX4_drawnOver_25 (by decide) rfl ?_
  refine e_aload_n dX4_drawnOver_27 rfl 2 rfl ?_
  refine fg_X4_26 rfl dX4_drawnOver_28 ?_
  refine e_iload_n dX4_drawnOver_31 rfl 4 rfl ?_
  refine e_iald (n := 16) rfl (Nat.le_of_ble_eq_true rfl) H.1 dX4_drawnOver_32 ?_
  replace H := H.2
  refine e_istore (ls' := [(5, .int (σ.1 6 (Int32.toNatClampNeg x2))), (4, .int (zmin (σ.1 93 0) ((σ.1 6 (Int32.toNatClampNeg x2)) + (σ.1 8 (Int32.toNatClampNeg x2))))), (3, .int x1), (0, .ref (zad g 3)), (1, .int x1), (2, .int x2)]) dX4_drawnOver_33 (by decide) rfl ?_
  refine e_ls [3, 5, 2, 1, 0] rfl ?_
  exact H
set_option maxRecDepth 20000 in
set_option maxHeartbeats 2000000 in
theorem b_X4_drawnOver_35 {g : zG} {l : Launch} {K : Int32 → zS → Prop} {X : String → zS → Prop} {y2 : Int32} {y3 : Int32} {y4 : Int32} {y5 : Int32} {σ : zS}
    (H : ((y4 ≤ y5 → K y3 σ) ∧ (¬ y4 ≤ y5 → (vp_in y2 16 ∧ CT g l M_X6_withColour 0 [.int y3, .int y5, .int (σ.1 9 (Int32.toNatClampNeg y2))] σ (zQi (fun v2 τ2 => L_X4_drawnOver_35 g l K X y2 v2 y4 (y5 + 1) τ2) (fun E τ => X E τ)))))) :
    L_X4_drawnOver_35 g l K X y2 y3 y4 y5 σ := by
  refine e_iload dX4_drawnOver_35 4 rfl ?_
  refine e_iload dX4_drawnOver_37 3 rfl ?_
  refine e_icmp_ge (tgt := 61) dX4_drawnOver_39 (by decide) (fun h1 => ?_) (fun h1 => ?_)
  · replace H := H.1 h1
    refine e_iload_n dX4_drawnOver_61 rfl 2 rfl ?_
    exact e_iret rfl dX4_drawnOver_62 H
  · replace H := H.2 h1
    refine e_iload_n dX4_drawnOver_42 rfl 2 rfl ?_
    refine e_iload dX4_drawnOver_43 4 rfl ?_
    refine e_aload_n dX4_drawnOver_45 rfl 0 rfl ?_
    refine fg_X4_35 rfl dX4_drawnOver_46 ?_
    refine e_iload_n dX4_drawnOver_49 rfl 1 rfl ?_
    refine e_iald (n := 16) rfl (Nat.le_of_ble_eq_true rfl) H.1 dX4_drawnOver_50 ?_
    replace H := H.2
    refine e_callSNi (j1 := 0) (j2 := 0) (av := [.int y3, .int y5, .int (σ.1 9 (Int32.toNatClampNeg y2))]) rfl H i_X6_withColour rfl s_X6_withColour nl_X4_158 (by decide) (by decide) (Nat.le_of_ble_eq_true rfl) dX4_drawnOver_51 (fun v2 τ2 H => ?_) (fun E τ H => H)
    refine e_istore_n (ls' := [(3, .int v2), (0, .ref (zad g 3)), (2, .int y2), (4, .int y4), (5, .int y5)]) dX4_drawnOver_54 rfl (by decide) rfl ?_
    refine e_iinc (j := 4) (v := (y5 + 1)) (ls' := [(5, .int (y5 + 1)), (3, .int v2), (0, .ref (zad g 3)), (2, .int y2), (4, .int y4)]) dX4_drawnOver_55 rfl rfl (by decide) rfl ?_
    refine e_goto (tgt := 35) dX4_drawnOver_58 (by decide) ?_
    refine e_ls [2, 3, 1, 4, 0] rfl ?_
    exact H
