set_option maxRecDepth 20000 in
set_option maxHeartbeats 2000000 in
theorem b_X1_keep {g : zG} {l : Launch} {K : zS → Prop} {X : String → zS → Prop} {o2 : Nat} {σ : zS} (hb2 : zB o2)
    (H : (vp_in (σ.1 16 2) 6 ∧ CT g l M_X0_copyFrom 0 [.ref (zad g (103 + 10 * Int32.toNatClampNeg (σ.1 16 2))), .ref (zad g o2)] σ (zQv (fun τ2 => (∀ σ3 : zS, σ3 = zup τ2 16 2 (((τ2.1 16 2) + 1) - ((τ2.1 16 2) + 1) / 6 * 6) → (∀ σ4 : zS, σ4 = zup σ3 16 1 (zmin 6 ((σ3.1 16 1) + 1)) → K σ4))) (fun E τ => X E τ)))) :
    CT g l M_X1_keep 0 [.ref (zad g 16), .ref (zad g o2)] σ (zQv K X) := by
  refine CT_of rfl (by decide) (Nat.le_of_ble_eq_true rfl) ?_
  change EV _ _ _ _ _ 0 [(0, .ref (zad g 16)), (1, .ref (zad g o2))] [] _
  refine e_aload_n dX1_keep_0 rfl 0 rfl ?_
  refine fg_X1_11 rfl dX1_keep_1 ?_
  refine e_aload_n dX1_keep_4 rfl 0 rfl ?_
  refine fg_X1_16 rfl dX1_keep_5 ?_
  have hi1 := H.1
  replace H := H.2
  refine e_aaldK hi1 dX1_keep_8 ?_
  refine e_aload_n dX1_keep_9 rfl 1 rfl ?_
  refine e_callVv (j1 := 0) (j2 := 0) (av := [.ref (zad g o2)]) rfl (zB_s0 (zB_k hi1)) (zB_l0 (zB_k hi1)) rfl rfl H i_X0_copyFrom rfl n_X0_copyFrom v_X0_copyFrom q_X1_20 (by decide) (by decide) (Nat.le_of_ble_eq_true rfl) dX1_keep_10 (fun τ2 H => ?_) (fun E τ H => H)
  refine e_aload_n dX1_keep_13 rfl 0 rfl ?_
  refine e_aload_n dX1_keep_14 rfl 0 rfl ?_
  refine fg_X1_16 rfl dX1_keep_15 ?_
  refine e_iconst (v := 1) dX1_keep_18 (by decide) ?_
  refine e_iadd dX1_keep_19 ?_
  refine e_bipush (v := 6) dX1_keep_20 (by decide) ?_
  refine e_irem dX1_keep_22 (by decide) ?_
  refine fp_X1_16 rfl dX1_keep_23 ?_
  replace H := H _ rfl
  generalize zup τ2 16 2 (((τ2.1 16 2) + 1) - ((τ2.1 16 2) + 1) / 6 * 6) = σ3 at H ⊢
  refine e_aload_n dX1_keep_26 rfl 0 rfl ?_
  refine e_bipush (v := 6) dX1_keep_27 (by decide) ?_
  refine e_aload_n dX1_keep_29 rfl 0 rfl ?_
  refine fg_X1_24 rfl dX1_keep_30 ?_
  refine e_iconst (v := 1) dX1_keep_33 (by decide) ?_
  refine e_iadd dX1_keep_34 ?_
  refine e_mmin qm_X1_27 ms_min mi_math mc_min (by decide) (Nat.le_of_ble_eq_true rfl) dX1_keep_35 ?_
  change EV _ _ _ _ _ _ _ (.int (zmin 6 ((σ3.1 16 1) + 1)) :: _) _
  refine fp_X1_24 rfl dX1_keep_38 ?_
  replace H := H _ rfl
  generalize zup σ3 16 1 (zmin 6 ((σ3.1 16 1) + 1)) = σ4 at H ⊢
  exact e_vret rfl dX1_keep_41 H
set_option maxRecDepth 20000 in
set_option maxHeartbeats 2000000 in
theorem b_X1_takeBack {g : zG} {l : Launch} {K : Int32 → zS → Prop} {X : String → zS → Prop} {o2 : Nat} {σ : zS} (hb2 : zB o2)
    (H : ((¬ (σ.1 16 1) = 0 → (∀ σ2 : zS, σ2 = zup σ 16 2 ((((σ.1 16 2) + 6) - 1) - (((σ.1 16 2) + 6) - 1) / 6 * 6) → (∀ σ3 : zS, σ3 = zup σ2 16 1 ((σ2.1 16 1) - 1) → (vp_in (σ3.1 16 2) 6 ∧ CT g l M_X0_copyFrom 0 [.ref (zad g o2), .ref (zad g (103 + 10 * Int32.toNatClampNeg (σ3.1 16 2)))] σ3 (zQv (fun τ5 => K 1 τ5) (fun E τ => X E τ)))))) ∧ ((σ.1 16 1) = 0 → K 0 σ))) :
    CT g l M_X1_takeBack 0 [.ref (zad g 16), .ref (zad g o2)] σ (zQi K X) := by
  refine CT_of rfl (by decide) (Nat.le_of_ble_eq_true rfl) ?_
  change EV _ _ _ _ _ 0 [(0, .ref (zad g 16)), (1, .ref (zad g o2))] [] _
  refine e_aload_n dX1_takeBack_0 rfl 0 rfl ?_
  refine fg_X1_24 rfl dX1_takeBack_1 ?_
  refine e_if_ne (tgt := 9) dX1_takeBack_4 (by decide) (fun h1 => ?_) (fun h1 => ?_)
  · replace H := H.1 h1
    refine e_aload_n dX1_takeBack_9 rfl 0 rfl ?_
    refine e_aload_n dX1_takeBack_10 rfl 0 rfl ?_
    refine fg_X1_16 rfl dX1_takeBack_11 ?_
    refine e_bipush (v := 6) dX1_takeBack_14 (by decide) ?_
    refine e_iadd dX1_takeBack_16 ?_
    refine e_iconst (v := 1) dX1_takeBack_17 (by decide) ?_
    refine e_isub dX1_takeBack_18 ?_
    refine e_bipush (v := 6) dX1_takeBack_19 (by decide) ?_
    refine e_irem dX1_takeBack_21 (by decide) ?_
    refine fp_X1_16 rfl dX1_takeBack_22 ?_
    replace H := H _ rfl
    generalize zup σ 16 2 ((((σ.1 16 2) + 6) - 1) - (((σ.1 16 2) + 6) - 1) / 6 * 6) = σ2 at H ⊢
    refine e_aload_n dX1_takeBack_25 rfl 0 rfl ?_
    refine e_dup dX1_takeBack_26 rfl ?_
    refine fg_X1_24 rfl dX1_takeBack_27 ?_
    refine e_iconst (v := 1) dX1_takeBack_30 (by decide) ?_
    refine e_isub dX1_takeBack_31 ?_
    refine fp_X1_24 rfl dX1_takeBack_32 ?_
    replace H := H _ rfl
    generalize zup σ2 16 1 ((σ2.1 16 1) - 1) = σ3 at H ⊢
    refine e_aload_n dX1_takeBack_35 rfl 1 rfl ?_
    refine e_aload_n dX1_takeBack_36 rfl 0 rfl ?_
    refine fg_X1_11 rfl dX1_takeBack_37 ?_
    refine e_aload_n dX1_takeBack_40 rfl 0 rfl ?_
    refine fg_X1_16 rfl dX1_takeBack_41 ?_
    have hi4 := H.1
    replace H := H.2
    refine e_aaldK hi4 dX1_takeBack_44 ?_
    refine e_callVv (j1 := 0) (j2 := 0) (av := [.ref (zad g (103 + 10 * Int32.toNatClampNeg (σ3.1 16 2)))]) rfl (zB_s0 hb2) (zB_l0 hb2) rfl rfl H i_X0_copyFrom rfl n_X0_copyFrom v_X0_copyFrom q_X1_20 (by decide) (by decide) (Nat.le_of_ble_eq_true rfl) dX1_takeBack_45 (fun τ5 H => ?_) (fun E τ H => H)
    refine e_iconst (v := 1) dX1_takeBack_48 (by decide) ?_
    exact e_zret rfl rfl dX1_takeBack_49 H
  · replace H := H.2 h1
    refine e_iconst (v := 0) dX1_takeBack_7 (by decide) ?_
    exact e_zret rfl rfl dX1_takeBack_8 H
set_option maxRecDepth 20000 in
set_option maxHeartbeats 2000000 in
theorem b_X1_forget {g : zG} {l : Launch} {K : zS → Prop} {X : String → zS → Prop} {σ : zS}
    (H : (∀ σ1 : zS, σ1 = zup σ 16 1 0 → K σ1)) :
    CT g l M_X1_forget 0 [.ref (zad g 16)] σ (zQv K X) := by
  refine CT_of rfl (by decide) (Nat.le_of_ble_eq_true rfl) ?_
  change EV _ _ _ _ _ 0 [(0, .ref (zad g 16))] [] _
  refine e_aload_n dX1_forget_0 rfl 0 rfl ?_
  refine e_iconst (v := 0) dX1_forget_1 (by decide) ?_
  refine fp_X1_24 rfl dX1_forget_2 ?_
  replace H := H _ rfl
  generalize zup σ 16 1 0 = σ1 at H ⊢
  exact e_vret rfl dX1_forget_5 H
abbrev L_X2_read_19 (g : zG) (l : Launch) (K : Int32 → zS → Prop) (X : String → zS → Prop) (y1 : Int32) (σ : zS) : Prop :=
  EV g l M_X2_read 0 (zQi K X) 19 [(0, .ref (zad g 10)), (1, .int y1)] [] σ
set_option maxRecDepth 20000 in
set_option maxHeartbeats 2000000 in
theorem b_X2_read {g : zG} {l : Launch} {K : Int32 → zS → Prop} {X : String → zS → Prop} {σ : zS}
    (H : (∀ σ1 : zS, σ1 = zup σ 10 1 0 → (∀ σ2 : zS, σ2 = zup σ1 10 7 0 → CT g l M_X3_begin 0 [.ref (zad g 1)] σ2 (zQv (fun τ3 => L_X2_read_19 g l K X 0 τ3) (fun E τ => X E τ))))) :
    CT g l M_X2_read 0 [.ref (zad g 10)] σ (zQi K X) := by
  refine CT_of rfl (by decide) (Nat.le_of_ble_eq_true rfl) ?_
  change EV _ _ _ _ _ 0 [(0, .ref (zad g 10))] [] _
  refine e_aload_n dX2_read_0 rfl 0 rfl ?_
  refine e_iconst (v := 0) dX2_read_1 (by decide) ?_
  refine fp_X2_34 rfl dX2_read_2 ?_
  replace H := H _ rfl
  generalize zup σ 10 1 0 = σ1 at H ⊢
  refine e_aload_n dX2_read_5 rfl 0 rfl ?_
  refine e_iconst (v := 0) dX2_read_6 (by decide) ?_
  refine fp_X2_38 rfl dX2_read_7 ?_
  replace H := H _ rfl
  generalize zup σ1 10 7 0 = σ2 at H ⊢
  refine e_aload_n dX2_read_10 rfl 0 rfl ?_
  refine fg_X2_30 rfl dX2_read_11 ?_
  refine e_callVv (j1 := 0) (j2 := 0) (av := []) rfl rfl (Nat.le_of_ble_eq_true rfl) rfl rfl H i_X3_begin rfl n_X3_begin v_X3_begin q_X2_41 (by decide) (by decide) (Nat.le_of_ble_eq_true rfl) dX2_read_14 (fun τ3 H => ?_) (fun E τ H => H)
  refine e_iconst (v := 0) dX2_read_17 (by decide) ?_
  refine e_istore_n (ls' := [(1, .int 0), (0, .ref (zad g 10))]) dX2_read_18 rfl (by decide) rfl ?_
  refine e_ls [1, 0] rfl ?_
  exact H
set_option maxRecDepth 20000 in
set_option maxHeartbeats 2000000 in
theorem b_X2_read_19 {g : zG} {l : Launch} {K : Int32 → zS → Prop} {X : String → zS → Prop} {y1 : Int32} {σ : zS}
    (H : ((600 ≤ y1 → K 1 σ) ∧ (¬ 600 ≤ y1 → CT g l M_X3_isAtEnd 0 [.ref (zad g 1)] σ (zQi (fun v2 τ2 => ((v2 = 0 → (((τ2.1 10 7) ≤ 0 → CT g l M_X2_readCommand 0 [.ref (zad g 10)] τ2 (zQi (fun v6 τ6 => ((¬ v6 = 0 → L_X2_read_19 g l K X (y1 + 1) τ6) ∧ (v6 = 0 → K 0 τ6))) (fun E τ => X E τ))) ∧ (¬ (τ2.1 10 7) ≤ 0 → CT g l M_X3_isAtSign 0 [.ref (zad g 1), .int 41] τ2 (zQi (fun v8 τ8 => ((v8 = 0 → CT g l M_X2_readCommand 0 [.ref (zad g 10)] τ8 (zQi (fun v11 τ11 => ((¬ v11 = 0 → L_X2_read_19 g l K X (y1 + 1) τ11) ∧ (v11 = 0 → K 0 τ11))) (fun E τ => X E τ))) ∧ (¬ v8 = 0 → CT g l M_X2_closeRepeat 0 [.ref (zad g 10)] τ8 (zQi (fun v14 τ14 => ((v14 = 0 → K 0 τ14) ∧ (¬ v14 = 0 → L_X2_read_19 g l K X (y1 + 1) τ14))) (fun E τ => X E τ))))) (fun E τ => X E τ))))) ∧ (¬ v2 = 0 → (((τ2.1 10 7) = 0 → K 1 τ2) ∧ (¬ (τ2.1 10 7) = 0 → (((τ2.1 10 7) ≤ 0 → CT g l M_X2_readCommand 0 [.ref (zad g 10)] τ2 (zQi (fun v19 τ19 => ((¬ v19 = 0 → L_X2_read_19 g l K X (y1 + 1) τ19) ∧ (v19 = 0 → K 0 τ19))) (fun E τ => X E τ))) ∧ (¬ (τ2.1 10 7) ≤ 0 → CT g l M_X3_isAtSign 0 [.ref (zad g 1), .int 41] τ2 (zQi (fun v21 τ21 => ((v21 = 0 → CT g l M_X2_readCommand 0 [.ref (zad g 10)] τ21 (zQi (fun v24 τ24 => ((¬ v24 = 0 → L_X2_read_19 g l K X (y1 + 1) τ24) ∧ (v24 = 0 → K 0 τ24))) (fun E τ => X E τ))) ∧ (¬ v21 = 0 → CT g l M_X2_closeRepeat 0 [.ref (zad g 10)] τ21 (zQi (fun v27 τ27 => ((v27 = 0 → K 0 τ27) ∧ (¬ v27 = 0 → L_X2_read_19 g l K X (y1 + 1) τ27))) (fun E τ => X E τ))))) (fun E τ => X E τ))))))))) (fun E τ => X E τ))))) :
    L_X2_read_19 g l K X y1 σ := by
  refine e_iload_n dX2_read_19 rfl 1 rfl ?_
  refine e_sipush (v := 600) dX2_read_20 (by decide) ?_
  refine e_icmp_ge (tgt := 97) dX2_read_23 (by decide) (fun h1 => ?_) (fun h1 => ?_)
  · replace H := H.1 h1
    refine e_iconst (v := 1) dX2_read_97 (by decide) ?_
    exact e_zret rfl rfl dX2_read_98 H
  · replace H := H.2 h1
    refine e_aload_n dX2_read_26 rfl 0 rfl ?_
    refine fg_X2_30 rfl dX2_read_27 ?_
    refine e_callVi (j1 := 0) (j2 := 0) (av := []) rfl rfl (Nat.le_of_ble_eq_true rfl) rfl rfl H i_X3_isAtEnd rfl n_X3_isAtEnd v_X3_isAtEnd q_X2_46 (by decide) (by decide) (Nat.le_of_ble_eq_true rfl) dX2_read_30 (fun v2 τ2 H => ?_) (fun E τ H => H)
    refine e_if_eq (tgt := 43) dX2_read_33 (by decide) (fun h3 => ?_) (fun h3 => ?_)
    · replace H := H.1 h3
      refine e_aload_n dX2_read_43 rfl 0 rfl ?_
      refine fg_X2_38 rfl dX2_read_44 ?_
      refine e_if_le (tgt := 66) dX2_read_47 (by decide) (fun h4 => ?_) (fun h4 => ?_)
      · replace H := H.1 h4
        refine e_iconst (v := 0) dX2_read_66 (by decide) ?_
        refine e_istore_n (ls' := [(2, .int 0), (0, .ref (zad g 10)), (1, .int y1)]) dX2_read_67 rfl (by decide) rfl ?_
        refine e_iload_n dX2_read_68 rfl 0 rfl ?_
        refine e_if_eq (tgt := 82) dX2_read_69 (by decide) (fun h5 => ?_) (fun h5 => ?_)
        · refine e_aload_n dX2_read_82 rfl 1 rfl ?_
          refine e_callVi (j1 := 0) (j2 := 0) (av := []) rfl rfl (Nat.le_of_ble_eq_true rfl) rfl rfl H i_X2_readCommand rfl n_X2_readCommand v_X2_readCommand q_X2_57 (by decide) (by decide) (Nat.le_of_ble_eq_true rfl) dX2_read_83 (fun v6 τ6 H => ?_) (fun E τ H => H)
          refine e_if_ne (tgt := 91) dX2_read_86 (by decide) (fun h7 => ?_) (fun h7 => ?_)
          · replace H := H.1 h7
            refine e_iinc (j := 2) (v := (y1 + 1)) (ls' := [(1, .int (y1 + 1)), (2, .int 0), (0, .ref (zad g 10))]) dX2_read_91 rfl rfl (by decide) rfl ?_
            refine e_goto (tgt := 19) dX2_read_94 (by decide) ?_
            refine e_ls [2, 0] rfl ?_
            exact H
          · replace H := H.2 h7
            refine e_iconst (v := 0) dX2_read_89 (by decide) ?_
            exact e_zret rfl rfl dX2_read_90 H
        · exact absurd h5 (by decide)
      · replace H := H.2 h4
        refine e_aload_n dX2_read_50 rfl 0 rfl ?_
        refine fg_X2_30 rfl dX2_read_51 ?_
        refine e_bipush (v := 41) dX2_read_54 (by decide) ?_
        refine e_callVi (j1 := 0) (j2 := 0) (av := [.int 41]) rfl rfl (Nat.le_of_ble_eq_true rfl) rfl rfl H i_X3_isAtSign rfl n_X3_isAtSign v_X3_isAtSign q_X2_50 (by decide) (by decide) (Nat.le_of_ble_eq_true rfl) dX2_read_56 (fun v8 τ8 H => ?_) (fun E τ H => H)
        refine e_if_eq (tgt := 66) dX2_read_59 (by decide) (fun h9 => ?_) (fun h9 => ?_)
        · replace H := H.1 h9
          refine e_iconst (v := 0) dX2_read_66 (by decide) ?_
          refine e_istore_n (ls' := [(2, .int 0), (0, .ref (zad g 10)), (1, .int y1)]) dX2_read_67 rfl (by decide) rfl ?_
          refine e_iload_n dX2_read_68 rfl 0 rfl ?_
          refine e_if_eq (tgt := 82) dX2_read_69 (by decide) (fun h10 => ?_) (fun h10 => ?_)
          · refine e_aload_n dX2_read_82 rfl 1 rfl ?_
            refine e_callVi (j1 := 0) (j2 := 0) (av := []) rfl rfl (Nat.le_of_ble_eq_true rfl) rfl rfl H i_X2_readCommand rfl n_X2_readCommand v_X2_readCommand q_X2_57 (by decide) (by decide) (Nat.le_of_ble_eq_true rfl) dX2_read_83 (fun v11 τ11 H => ?_) (fun E τ H => H)
            refine e_if_ne (tgt := 91) dX2_read_86 (by decide) (fun h12 => ?_) (fun h12 => ?_)
            · replace H := H.1 h12
              refine e_iinc (j := 2) (v := (y1 + 1)) (ls' := [(1, .int (y1 + 1)), (2, .int 0), (0, .ref (zad g 10))]) dX2_read_91 rfl rfl (by decide) rfl ?_
              refine e_goto (tgt := 19) dX2_read_94 (by decide) ?_
              refine e_ls [2, 0] rfl ?_
              exact H
            · replace H := H.2 h12
              refine e_iconst (v := 0) dX2_read_89 (by decide) ?_
              exact e_zret rfl rfl dX2_read_90 H
          · exact absurd h10 (by decide)
        · replace H := H.2 h9
          refine e_iconst (v := 1) dX2_read_62 (by decide) ?_
          refine e_goto (tgt := 67) dX2_read_63 (by decide) ?_
          refine e_istore_n (ls' := [(2, .int 1), (0, .ref (zad g 10)), (1, .int y1)]) dX2_read_67 rfl (by decide) rfl ?_
          refine e_iload_n dX2_read_68 rfl 0 rfl ?_
          refine e_if_eq (tgt := 82) dX2_read_69 (by decide) (fun h13 => ?_) (fun h13 => ?_)
          · exact absurd h13 (by decide)
          · refine e_aload_n dX2_read_72 rfl 1 rfl ?_
            refine e_callVi (j1 := 0) (j2 := 0) (av := []) rfl rfl (Nat.le_of_ble_eq_true rfl) rfl rfl H i_X2_closeRepeat rfl n_X2_closeRepeat v_X2_closeRepeat q_X2_54 (by decide) (by decide) (Nat.le_of_ble_eq_true rfl) dX2_read_73 (fun v14 τ14 H => ?_) (fun E τ H => H)
            refine e_if_eq (tgt := 89) dX2_read_76 (by decide) (fun h15 => ?_) (fun h15 => ?_)
            · replace H := H.1 h15
              refine e_iconst (v := 0) dX2_read_89 (by decide) ?_
              exact e_zret rfl rfl dX2_read_90 H
            · replace H := H.2 h15
              refine e_goto (tgt := 91) dX2_read_79 (by decide) ?_
              refine e_iinc (j := 2) (v := (y1 + 1)) (ls' := [(1, .int (y1 + 1)), (2, .int 1), (0, .ref (zad g 10))]) dX2_read_91 rfl rfl (by decide) rfl ?_
              refine e_goto (tgt := 19) dX2_read_94 (by decide) ?_
              refine e_ls [2, 0] rfl ?_
              exact H
    · replace H := H.2 h3
      refine e_aload_n dX2_read_36 rfl 0 rfl ?_
      refine fg_X2_38 rfl dX2_read_37 ?_
      refine e_if_eq (tgt := 97) dX2_read_40 (by decide) (fun h16 => ?_) (fun h16 => ?_)
      · replace H := H.1 h16
        refine e_iconst (v := 1) dX2_read_97 (by decide) ?_
        exact e_zret rfl rfl dX2_read_98 H
      · replace H := H.2 h16
        refine e_aload_n dX2_read_43 rfl 0 rfl ?_
        refine fg_X2_38 rfl dX2_read_44 ?_
        refine e_if_le (tgt := 66) dX2_read_47 (by decide) (fun h17 => ?_) (fun h17 => ?_)
        · replace H := H.1 h17
          refine e_iconst (v := 0) dX2_read_66 (by decide) ?_
          refine e_istore_n (ls' := [(2, .int 0), (0, .ref (zad g 10)), (1, .int y1)]) dX2_read_67 rfl (by decide) rfl ?_
          refine e_iload_n dX2_read_68 rfl 0 rfl ?_
          refine e_if_eq (tgt := 82) dX2_read_69 (by decide) (fun h18 => ?_) (fun h18 => ?_)
          · refine e_aload_n dX2_read_82 rfl 1 rfl ?_
            refine e_callVi (j1 := 0) (j2 := 0) (av := []) rfl rfl (Nat.le_of_ble_eq_true rfl) rfl rfl H i_X2_readCommand rfl n_X2_readCommand v_X2_readCommand q_X2_57 (by decide) (by decide) (Nat.le_of_ble_eq_true rfl) dX2_read_83 (fun v19 τ19 H => ?_) (fun E τ H => H)
            refine e_if_ne (tgt := 91) dX2_read_86 (by decide) (fun h20 => ?_) (fun h20 => ?_)
            · replace H := H.1 h20
              refine e_iinc (j := 2) (v := (y1 + 1)) (ls' := [(1, .int (y1 + 1)), (2, .int 0), (0, .ref (zad g 10))]) dX2_read_91 rfl rfl (by decide) rfl ?_
              refine e_goto (tgt := 19) dX2_read_94 (by decide) ?_
              refine e_ls [2, 0] rfl ?_
              exact H
            · replace H := H.2 h20
              refine e_iconst (v := 0) dX2_read_89 (by decide) ?_
              exact e_zret rfl rfl dX2_read_90 H
          · exact absurd h18 (by decide)
        · replace H := H.2 h17
          refine e_aload_n dX2_read_50 rfl 0 rfl ?_
          refine fg_X2_30 rfl dX2_read_51 ?_
          refine e_bipush (v := 41) dX2_read_54 (by decide) ?_
          refine e_callVi (j1 := 0) (j2 := 0) (av := [.int 41]) rfl rfl (Nat.le_of_ble_eq_true rfl) rfl rfl H i_X3_isAtSign rfl n_X3_isAtSign v_X3_isAtSign q_X2_50 (by decide) (by decide) (Nat.le_of_ble_eq_true rfl) dX2_read_56 (fun v21 τ21 H => ?_) (fun E τ H => H)
          refine e_if_eq (tgt := 66) dX2_read_59 (by decide) (fun h22 => ?_) (fun h22 => ?_)
          · replace H := H.1 h22
            refine e_iconst (v := 0) dX2_read_66 (by decide) ?_
            refine e_istore_n (ls' := [(2, .int 0), (0, .ref (zad g 10)), (1, .int y1)]) dX2_read_67 rfl (by decide) rfl ?_
            refine e_iload_n dX2_read_68 rfl 0 rfl ?_
            refine e_if_eq (tgt := 82) dX2_read_69 (by decide) (fun h23 => ?_) (fun h23 => ?_)
            · refine e_aload_n dX2_read_82 rfl 1 rfl ?_
              refine e_callVi (j1 := 0) (j2 := 0) (av := []) rfl rfl (Nat.le_of_ble_eq_true rfl) rfl rfl H i_X2_readCommand rfl n_X2_readCommand v_X2_readCommand q_X2_57 (by decide) (by decide) (Nat.le_of_ble_eq_true rfl) dX2_read_83 (fun v24 τ24 H => ?_) (fun E τ H => H)
              refine e_if_ne (tgt := 91) dX2_read_86 (by decide) (fun h25 => ?_) (fun h25 => ?_)
              · replace H := H.1 h25
                refine e_iinc (j := 2) (v := (y1 + 1)) (ls' := [(1, .int (y1 + 1)), (2, .int 0), (0, .ref (zad g 10))]) dX2_read_91 rfl rfl (by decide) rfl ?_
                refine e_goto (tgt := 19) dX2_read_94 (by decide) ?_
                refine e_ls [2, 0] rfl ?_
                exact H
              · replace H := H.2 h25
                refine e_iconst (v := 0) dX2_read_89 (by decide) ?_
                exact e_zret rfl rfl dX2_read_90 H
            · exact absurd h23 (by decide)
          · replace H := H.2 h22
            refine e_iconst (v := 1) dX2_read_62 (by decide) ?_
            refine e_goto (tgt := 67) dX2_read_63 (by decide) ?_
            refine e_istore_n (ls' := [(2, .int 1), (0, .ref (zad g 10)), (1, .int y1)]) dX2_read_67 rfl (by decide) rfl ?_
            refine e_iload_n dX2_read_68 rfl 0 rfl ?_
            refine e_if_eq (tgt := 82) dX2_read_69 (by decide) (fun h26 => ?_) (fun h26 => ?_)
            · exact absurd h26 (by decide)
            · refine e_aload_n dX2_read_72 rfl 1 rfl ?_
              refine e_callVi (j1 := 0) (j2 := 0) (av := []) rfl rfl (Nat.le_of_ble_eq_true rfl) rfl rfl H i_X2_closeRepeat rfl n_X2_closeRepeat v_X2_closeRepeat q_X2_54 (by decide) (by decide) (Nat.le_of_ble_eq_true rfl) dX2_read_73 (fun v27 τ27 H => ?_) (fun E τ H => H)
              refine e_if_eq (tgt := 89) dX2_read_76 (by decide) (fun h28 => ?_) (fun h28 => ?_)
              · replace H := H.1 h28
                refine e_iconst (v := 0) dX2_read_89 (by decide) ?_
                exact e_zret rfl rfl dX2_read_90 H
              · replace H := H.2 h28
                refine e_goto (tgt := 91) dX2_read_79 (by decide) ?_
                refine e_iinc (j := 2) (v := (y1 + 1)) (ls' := [(1, .int (y1 + 1)), (2, .int 1), (0, .ref (zad g 10))]) dX2_read_91 rfl rfl (by decide) rfl ?_
                refine e_goto (tgt := 19) dX2_read_94 (by decide) ?_
                refine e_ls [2, 0] rfl ?_
                exact H
set_option maxRecDepth 20000 in
set_option maxHeartbeats 2000000 in
theorem b_X2_readCommand {g : zG} {l : Launch} {K : Int32 → zS → Prop} {X : String → zS → Prop} {σ : zS}
    (H : CT g l M_X2_verbHere 0 [.ref (zad g 10)] σ (zQi (fun v1 τ1 => ((¬ v1 = (-1) → ((¬ v1 = 7 → (((τ1.1 10 1) < 30 → CT g l M_X3_advance 0 [.ref (zad g 1)] τ1 (zQv (fun τ5 => (∀ σ6 : zS, σ6 = zup τ5 10 1 ((τ5.1 10 1) + 1) → (vp_in (τ5.1 10 1) 30 ∧ (∀ σ7 : zS, σ7 = zup σ6 11 (Int32.toNatClampNeg (τ5.1 10 1)) v1 → ((¬ v1 = 7 → CT g l M_X2_partsOf 0 [.int v1] σ7 (zQs g (fun v9 τ9 => v9 < 19 ∧ CT g l M_X2_readParts 0 [.ref (zad g 10), .int (τ5.1 10 1), .ref (g.2.2.2.2.1 v9)] τ9 (zQi (fun v10 τ10 => ((v10 = 0 → K 0 τ10) ∧ (¬ v10 = 0 → CT g l M_X3_takeSign 0 [.ref (zad g 1), .int 59] τ10 (zQi (fun v12 τ12 => ((v12 = 0 → K 0 τ12) ∧ (¬ v12 = 0 → K 1 τ12))) (fun E τ => X E τ))))) (fun E τ => X E τ))) (fun E τ => X E τ))) ∧ (v1 = 7 → CT g l M_X2_openRepeat 0 [.ref (zad g 10), .int (τ5.1 10 1)] σ7 (zQi (fun v14 τ14 => (zbl v14 ∧ K v14 τ14)) (fun E τ => X E τ)))))))) (fun E τ => X E τ))) ∧ (¬ (τ1.1 10 1) < 30 → CT g l M_X3_fail 0 [.ref (zad g 1), .int 5] τ1 (zQi (fun v15 τ15 => (zbl v15 ∧ K v15 τ15)) (fun E τ => X E τ))))) ∧ (v1 = 7 → (((τ1.1 10 7) < 2 → (((τ1.1 10 1) < 30 → CT g l M_X3_advance 0 [.ref (zad g 1)] τ1 (zQv (fun τ18 => (∀ σ19 : zS, σ19 = zup τ18 10 1 ((τ18.1 10 1) + 1) → (vp_in (τ18.1 10 1) 30 ∧ (∀ σ20 : zS, σ20 = zup σ19 11 (Int32.toNatClampNeg (τ18.1 10 1)) v1 → ((¬ v1 = 7 → CT g l M_X2_partsOf 0 [.int v1] σ20 (zQs g (fun v22 τ22 => v22 < 19 ∧ CT g l M_X2_readParts 0 [.ref (zad g 10), .int (τ18.1 10 1), .ref (g.2.2.2.2.1 v22)] τ22 (zQi (fun v23 τ23 => ((v23 = 0 → K 0 τ23) ∧ (¬ v23 = 0 → CT g l M_X3_takeSign 0 [.ref (zad g 1), .int 59] τ23 (zQi (fun v25 τ25 => ((v25 = 0 → K 0 τ25) ∧ (¬ v25 = 0 → K 1 τ25))) (fun E τ => X E τ))))) (fun E τ => X E τ))) (fun E τ => X E τ))) ∧ (v1 = 7 → CT g l M_X2_openRepeat 0 [.ref (zad g 10), .int (τ18.1 10 1)] σ20 (zQi (fun v27 τ27 => (zbl v27 ∧ K v27 τ27)) (fun E τ => X E τ)))))))) (fun E τ => X E τ))) ∧ (¬ (τ1.1 10 1) < 30 → CT g l M_X3_fail 0 [.ref (zad g 1), .int 5] τ1 (zQi (fun v28 τ28 => (zbl v28 ∧ K v28 τ28)) (fun E τ => X E τ))))) ∧ (¬ (τ1.1 10 7) < 2 → CT g l M_X3_fail 0 [.ref (zad g 1), .int 3] τ1 (zQi (fun v29 τ29 => (zbl v29 ∧ K v29 τ29)) (fun E τ => X E τ))))))) ∧ (v1 = (-1) → CT g l M_X3_fail 0 [.ref (zad g 1), .int 1] τ1 (zQi (fun v30 τ30 => (zbl v30 ∧ K v30 τ30)) (fun E τ => X E τ))))) (fun E τ => X E τ))) :
    CT g l M_X2_readCommand 0 [.ref (zad g 10)] σ (zQi K X) := by
  refine CT_of rfl (by decide) (Nat.le_of_ble_eq_true rfl) ?_
  change EV _ _ _ _ _ 0 [(0, .ref (zad g 10))] [] _
  refine e_aload_n dX2_readCommand_0 rfl 0 rfl ?_
  refine e_callVi (j1 := 0) (j2 := 0) (av := []) rfl rfl (Nat.le_of_ble_eq_true rfl) rfl rfl H i_X2_verbHere rfl n_X2_verbHere v_X2_verbHere q_X2_60 (by decide) (by decide) (Nat.le_of_ble_eq_true rfl) dX2_readCommand_1 (fun v1 τ1 H => ?_) (fun E τ H => H)
  refine e_istore_n (ls' := [(1, .int v1), (0, .ref (zad g 10))]) dX2_readCommand_4 rfl (by decide) rfl ?_
  refine e_iload_n dX2_readCommand_5 rfl 0 rfl ?_
  refine e_iconst (v := (-1)) dX2_readCommand_6 (by decide) ?_
  refine e_icmp_ne (tgt := 19) dX2_readCommand_7 (by decide) (fun h2 => ?_) (fun h2 => ?_)
  · replace H := H.1 h2
    refine e_iload_n dX2_readCommand_19 rfl 0 rfl ?_
    refine e_bipush (v := 7) dX2_readCommand_20 (by decide) ?_
    refine e_icmp_ne (tgt := 42) dX2_readCommand_22 (by decide) (fun h3 => ?_) (fun h3 => ?_)
    · replace H := H.1 h3
      refine e_aload_n dX2_readCommand_42 rfl 1 rfl ?_
      refine fg_X2_34 rfl dX2_readCommand_43 ?_
      refine e_bipush (v := 30) dX2_readCommand_46 (by decide) ?_
      refine e_icmp_lt (tgt := 60) dX2_readCommand_48 (by decide) (fun h4 => ?_) (fun h4 => ?_)
      · replace H := H.1 h4
        refine e_aload_n dX2_readCommand_60 rfl 1 rfl ?_
        refine fg_X2_30 rfl dX2_readCommand_61 ?_
        refine e_callVv (j1 := 0) (j2 := 0) (av := []) rfl rfl (Nat.le_of_ble_eq_true rfl) rfl rfl H i_X3_advance rfl n_X3_advance v_X3_advance q_X2_68 (by decide) (by decide) (Nat.le_of_ble_eq_true rfl) dX2_readCommand_64 (fun τ5 H => ?_) (fun E τ H => H)
        refine e_aload_n dX2_readCommand_67 rfl 1 rfl ?_
        refine fg_X2_34 rfl dX2_readCommand_68 ?_
        refine e_istore_n (ls' := [(2, .int (τ5.1 10 1)), (1, .int v1), (0, .ref (zad g 10))]) dX2_readCommand_71 rfl (by decide) rfl ?_
        refine e_aload_n dX2_readCommand_72 rfl 2 rfl ?_
        refine e_dup dX2_readCommand_73 rfl ?_
        refine fg_X2_34 rfl dX2_readCommand_74 ?_
        refine e_iconst (v := 1) dX2_readCommand_77 (by decide) ?_
        refine e_iadd dX2_readCommand_78 ?_
        refine fp_X2_34 rfl dX2_readCommand_79 ?_
        replace H := H _ rfl
        generalize zup τ5 10 1 ((τ5.1 10 1) + 1) = σ6 at H ⊢
        refine e_aload_n dX2_readCommand_82 rfl 2 rfl ?_
        refine fg_X2_11 rfl dX2_readCommand_83 ?_
        refine e_iload_n dX2_readCommand_86 rfl 0 rfl ?_
        refine e_iload_n dX2_readCommand_87 rfl 1 rfl ?_
        refine e_iast (n := 30) rfl (Nat.le_of_ble_eq_true rfl) H.1 dX2_readCommand_88 ?_
        replace H := H.2
        replace H := H _ rfl
        generalize zup σ6 11 (Int32.toNatClampNeg (τ5.1 10 1)) v1 = σ7 at H ⊢
        refine e_iload_n dX2_readCommand_89 rfl 1 rfl ?_
        refine e_bipush (v := 7) dX2_readCommand_90 (by decide) ?_
        refine e_icmp_ne (tgt := 101) dX2_readCommand_92 (by decide) (fun h8 => ?_) (fun h8 => ?_)
        · replace H := H.1 h8
          refine e_aload_n dX2_readCommand_101 rfl 2 rfl ?_
          refine e_iload_n dX2_readCommand_102 rfl 0 rfl ?_
          refine e_iload_n dX2_readCommand_103 rfl 1 rfl ?_
          refine e_callSs (j1 := 0) (j2 := 0) (av := [.int v1]) rfl H i_X2_partsOf rfl s_X2_partsOf q_X2_74 (by decide) (by decide) (Nat.le_of_ble_eq_true rfl) dX2_readCommand_104 (fun v9 τ9 H => ?_) (fun E τ H => H)
          have hwv9 := H.1
          replace H := H.2
          refine e_callVi (j1 := 0) (j2 := 0) (av := [.int (τ5.1 10 1), .ref (g.2.2.2.2.1 v9)]) rfl rfl (Nat.le_of_ble_eq_true rfl) rfl rfl H i_X2_readParts rfl n_X2_readParts v_X2_readParts q_X2_78 (by decide) (by decide) (Nat.le_of_ble_eq_true rfl) dX2_readCommand_107 (fun v10 τ10 H => ?_) (fun E τ H => H)
          refine e_if_eq (tgt := 129) dX2_readCommand_110 (by decide) (fun h11 => ?_) (fun h11 => ?_)
          · replace H := H.1 h11
            refine e_iconst (v := 0) dX2_readCommand_129 (by decide) ?_
            exact e_zret rfl rfl dX2_readCommand_130 H
          · replace H := H.2 h11
            refine e_aload_n dX2_readCommand_113 rfl 2 rfl ?_
            refine fg_X2_30 rfl dX2_readCommand_114 ?_
            refine e_bipush (v := 59) dX2_readCommand_117 (by decide) ?_
            refine e_callVi (j1 := 0) (j2 := 0) (av := [.int 59]) rfl rfl (Nat.le_of_ble_eq_true rfl) rfl rfl H i_X3_takeSign rfl n_X3_takeSign v_X3_takeSign q_X2_82 (by decide) (by decide) (Nat.le_of_ble_eq_true rfl) dX2_readCommand_119 (fun v12 τ12 H => ?_) (fun E τ H => H)
            refine e_if_eq (tgt := 129) dX2_readCommand_122 (by decide) (fun h13 => ?_) (fun h13 => ?_)
            · replace H := H.1 h13
              refine e_iconst (v := 0) dX2_readCommand_129 (by decide) ?_
              exact e_zret rfl rfl dX2_readCommand_130 H
            · replace H := H.2 h13
              refine e_iconst (v := 1) dX2_readCommand_125 (by decide) ?_
              refine e_goto (tgt := 130) dX2_readCommand_126 (by decide) ?_
              exact e_zret rfl rfl dX2_readCommand_130 H
        · replace H := H.2 h8
          refine e_aload_n dX2_readCommand_95 rfl 2 rfl ?_
          refine e_iload_n dX2_readCommand_96 rfl 0 rfl ?_
          refine e_callVi (j1 := 0) (j2 := 0) (av := [.int (τ5.1 10 1)]) rfl rfl (Nat.le_of_ble_eq_true rfl) rfl rfl H i_X2_openRepeat rfl n_X2_openRepeat v_X2_openRepeat q_X2_71 (by decide) (by decide) (Nat.le_of_ble_eq_true rfl) dX2_readCommand_97 (fun v14 τ14 H => ?_) (fun E τ H => H)
          exact e_zret rfl (zbl_n H.1) dX2_readCommand_100 H.2
      · replace H := H.2 h4
        refine e_aload_n dX2_readCommand_51 rfl 1 rfl ?_
        refine fg_X2_30 rfl dX2_readCommand_52 ?_
        refine e_iconst (v := 5) dX2_readCommand_55 (by decide) ?_
        refine e_callVi (j1 := 0) (j2 := 0) (av := [.int 5]) rfl rfl (Nat.le_of_ble_eq_true rfl) rfl rfl H i_X3_fail rfl n_X3_fail v_X3_fail q_X2_64 (by decide) (by decide) (Nat.le_of_ble_eq_true rfl) dX2_readCommand_56 (fun v15 τ15 H => ?_) (fun E τ H => H)
        exact e_zret rfl (zbl_n H.1) dX2_readCommand_59 H.2
    · replace H := H.2 h3
      refine e_aload_n dX2_readCommand_25 rfl 1 rfl ?_
      refine fg_X2_38 rfl dX2_readCommand_26 ?_
      refine e_iconst (v := 2) dX2_readCommand_29 (by decide) ?_
      refine e_icmp_lt (tgt := 42) dX2_readCommand_30 (by decide) (fun h16 => ?_) (fun h16 => ?_)
      · replace H := H.1 h16
        refine e_aload_n dX2_readCommand_42 rfl 1 rfl ?_
        refine fg_X2_34 rfl dX2_readCommand_43 ?_
        refine e_bipush (v := 30) dX2_readCommand_46 (by decide) ?_
        refine e_icmp_lt (tgt := 60) dX2_readCommand_48 (by decide) (fun h17 => ?_) (fun h17 => ?_)
        · replace H := H.1 h17
          refine e_aload_n dX2_readCommand_60 rfl 1 rfl ?_
          refine fg_X2_30 rfl dX2_readCommand_61 ?_
          refine e_callVv (j1 := 0) (j2 := 0) (av := []) rfl rfl (Nat.le_of_ble_eq_true rfl) rfl rfl H i_X3_advance rfl n_X3_advance v_X3_advance q_X2_68 (by decide) (by decide) (Nat.le_of_ble_eq_true rfl) dX2_readCommand_64 (fun τ18 H => ?_) (fun E τ H => H)
          refine e_aload_n dX2_readCommand_67 rfl 1 rfl ?_
          refine fg_X2_34 rfl dX2_readCommand_68 ?_
          refine e_istore_n (ls' := [(2, .int (τ18.1 10 1)), (1, .int v1), (0, .ref (zad g 10))]) dX2_readCommand_71 rfl (by decide) rfl ?_
          refine e_aload_n dX2_readCommand_72 rfl 2 rfl ?_
          refine e_dup dX2_readCommand_73 rfl ?_
          refine fg_X2_34 rfl dX2_readCommand_74 ?_
          refine e_iconst (v := 1) dX2_readCommand_77 (by decide) ?_
          refine e_iadd dX2_readCommand_78 ?_
          refine fp_X2_34 rfl dX2_readCommand_79 ?_
          replace H := H _ rfl
          generalize zup τ18 10 1 ((τ18.1 10 1) + 1) = σ19 at H ⊢
          refine e_aload_n dX2_readCommand_82 rfl 2 rfl ?_
          refine fg_X2_11 rfl dX2_readCommand_83 ?_
          refine e_iload_n dX2_readCommand_86 rfl 0 rfl ?_
          refine e_iload_n dX2_readCommand_87 rfl 1 rfl ?_
          refine e_iast (n := 30) rfl (Nat.le_of_ble_eq_true rfl) H.1 dX2_readCommand_88 ?_
          replace H := H.2
          replace H := H _ rfl
          generalize zup σ19 11 (Int32.toNatClampNeg (τ18.1 10 1)) v1 = σ20 at H ⊢
          refine e_iload_n dX2_readCommand_89 rfl 1 rfl ?_
          refine e_bipush (v := 7) dX2_readCommand_90 (by decide) ?_
          refine e_icmp_ne (tgt := 101) dX2_readCommand_92 (by decide) (fun h21 => ?_) (fun h21 => ?_)
          · replace H := H.1 h21
            refine e_aload_n dX2_readCommand_101 rfl 2 rfl ?_
            refine e_iload_n dX2_readCommand_102 rfl 0 rfl ?_
            refine e_iload_n dX2_readCommand_103 rfl 1 rfl ?_
            refine e_callSs (j1 := 0) (j2 := 0) (av := [.int v1]) rfl H i_X2_partsOf rfl s_X2_partsOf q_X2_74 (by decide) (by decide) (Nat.le_of_ble_eq_true rfl) dX2_readCommand_104 (fun v22 τ22 H => ?_) (fun E τ H => H)
            have hwv22 := H.1
            replace H := H.2
            refine e_callVi (j1 := 0) (j2 := 0) (av := [.int (τ18.1 10 1), .ref (g.2.2.2.2.1 v22)]) rfl rfl (Nat.le_of_ble_eq_true rfl) rfl rfl H i_X2_readParts rfl n_X2_readParts v_X2_readParts q_X2_78 (by decide) (by decide) (Nat.le_of_ble_eq_true rfl) dX2_readCommand_107 (fun v23 τ23 H => ?_) (fun E τ H => H)
            refine e_if_eq (tgt := 129) dX2_readCommand_110 (by decide) (fun h24 => ?_) (fun h24 => ?_)
            · replace H := H.1 h24
              refine e_iconst (v := 0) dX2_readCommand_129 (by decide) ?_
              exact e_zret rfl rfl dX2_readCommand_130 H
            · replace H := H.2 h24
              refine e_aload_n dX2_readCommand_113 rfl 2 rfl ?_
              refine fg_X2_30 rfl dX2_readCommand_114 ?_
              refine e_bipush (v := 59) dX2_readCommand_117 (by decide) ?_
              refine e_callVi (j1 := 0) (j2 := 0) (av := [.int 59]) rfl rfl (Nat.le_of_ble_eq_true rfl) rfl rfl H i_X3_takeSign rfl n_X3_takeSign v_X3_takeSign q_X2_82 (by decide) (by decide) (Nat.le_of_ble_eq_true rfl) dX2_readCommand_119 (fun v25 τ25 H => ?_) (fun E τ H => H)
              refine e_if_eq (tgt := 129) dX2_readCommand_122 (by decide) (fun h26 => ?_) (fun h26 => ?_)
              · replace H := H.1 h26
                refine e_iconst (v := 0) dX2_readCommand_129 (by decide) ?_
                exact e_zret rfl rfl dX2_readCommand_130 H
              · replace H := H.2 h26
                refine e_iconst (v := 1) dX2_readCommand_125 (by decide) ?_
                refine e_goto (tgt := 130) dX2_readCommand_126 (by decide) ?_
                exact e_zret rfl rfl dX2_readCommand_130 H
          · replace H := H.2 h21
            refine e_aload_n dX2_readCommand_95 rfl 2 rfl ?_
            refine e_iload_n dX2_readCommand_96 rfl 0 rfl ?_
            refine e_callVi (j1 := 0) (j2 := 0) (av := [.int (τ18.1 10 1)]) rfl rfl (Nat.le_of_ble_eq_true rfl) rfl rfl H i_X2_openRepeat rfl n_X2_openRepeat v_X2_openRepeat q_X2_71 (by decide) (by decide) (Nat.le_of_ble_eq_true rfl) dX2_readCommand_97 (fun v27 τ27 H => ?_) (fun E τ H => H)
            exact e_zret rfl (zbl_n H.1) dX2_readCommand_100 H.2
        · replace H := H.2 h17
          refine e_aload_n dX2_readCommand_51 rfl 1 rfl ?_
          refine fg_X2_30 rfl dX2_readCommand_52 ?_
          refine e_iconst (v := 5) dX2_readCommand_55 (by decide) ?_
          refine e_callVi (j1 := 0) (j2 := 0) (av := [.int 5]) rfl rfl (Nat.le_of_ble_eq_true rfl) rfl rfl H i_X3_fail rfl n_X3_fail v_X3_fail q_X2_64 (by decide) (by decide) (Nat.le_of_ble_eq_true rfl) dX2_readCommand_56 (fun v28 τ28 H => ?_) (fun E τ H => H)
          exact e_zret rfl (zbl_n H.1) dX2_readCommand_59 H.2
      · replace H := H.2 h16
        refine e_aload_n dX2_readCommand_33 rfl 1 rfl ?_
        refine fg_X2_30 rfl dX2_readCommand_34 ?_
        refine e_iconst (v := 3) dX2_readCommand_37 (by decide) ?_
        refine e_callVi (j1 := 0) (j2 := 0) (av := [.int 3]) rfl rfl (Nat.le_of_ble_eq_true rfl) rfl rfl H i_X3_fail rfl n_X3_fail v_X3_fail q_X2_64 (by decide) (by decide) (Nat.le_of_ble_eq_true rfl) dX2_readCommand_38 (fun v29 τ29 H => ?_) (fun E τ H => H)
        exact e_zret rfl (zbl_n H.1) dX2_readCommand_41 H.2
  · replace H := H.2 h2
    refine e_aload_n dX2_readCommand_10 rfl 1 rfl ?_
    refine fg_X2_30 rfl dX2_readCommand_11 ?_
    refine e_iconst (v := 1) dX2_readCommand_14 (by decide) ?_
    refine e_callVi (j1 := 0) (j2 := 0) (av := [.int 1]) rfl rfl (Nat.le_of_ble_eq_true rfl) rfl rfl H i_X3_fail rfl n_X3_fail v_X3_fail q_X2_64 (by decide) (by decide) (Nat.le_of_ble_eq_true rfl) dX2_readCommand_15 (fun v30 τ30 H => ?_) (fun E τ H => H)
    exact e_zret rfl (zbl_n H.1) dX2_readCommand_18 H.2
abbrev L_X2_verbHere_2 (g : zG) (l : Launch) (K : Int32 → zS → Prop) (X : String → zS → Prop) (y1 : Int32) (σ : zS) : Prop :=
  EV g l M_X2_verbHere 0 (zQi K X) 2 [(0, .ref (zad g 10)), (1, .int y1)] [] σ
set_option maxRecDepth 20000 in
set_option maxHeartbeats 2000000 in
theorem b_X2_verbHere {g : zG} {l : Launch} {K : Int32 → zS → Prop} {X : String → zS → Prop} {σ : zS}
    (H : L_X2_verbHere_2 g l K X 0 σ) :
    CT g l M_X2_verbHere 0 [.ref (zad g 10)] σ (zQi K X) := by
  refine CT_of rfl (by decide) (Nat.le_of_ble_eq_true rfl) ?_
  change EV _ _ _ _ _ 0 [(0, .ref (zad g 10))] [] _
  refine e_iconst (v := 0) dX2_verbHere_0 (by decide) ?_
  refine e_istore_n (ls' := [(1, .int 0), (0, .ref (zad g 10))]) dX2_verbHere_1 rfl (by decide) rfl ?_
  refine e_ls [1, 0] rfl ?_
  exact H
set_option maxRecDepth 20000 in
set_option maxHeartbeats 2000000 in
theorem b_X2_verbHere_2 {g : zG} {l : Launch} {K : Int32 → zS → Prop} {X : String → zS → Prop} {y1 : Int32} {σ : zS}
    (H : ((7 < y1 → K (-1) σ) ∧ (¬ 7 < y1 → CT g l M_X2_wordOf 0 [.int y1] σ (zQs g (fun v2 τ2 => v2 < 19 ∧ CT g l M_X3_isAtWord 0 [.ref (zad g 1), .ref (g.2.2.2.2.1 v2)] τ2 (zQi (fun v3 τ3 => ((v3 = 0 → L_X2_verbHere_2 g l K X (y1 + 1) τ3) ∧ (¬ v3 = 0 → K y1 τ3))) (fun E τ => X E τ))) (fun E τ => X E τ))))) :
    L_X2_verbHere_2 g l K X y1 σ := by
  refine e_iload_n dX2_verbHere_2 rfl 1 rfl ?_
  refine e_bipush (v := 7) dX2_verbHere_3 (by decide) ?_
  refine e_icmp_gt (tgt := 30) dX2_verbHere_5 (by decide) (fun h1 => ?_) (fun h1 => ?_)
  · replace H := H.1 h1
    refine e_iconst (v := (-1)) dX2_verbHere_30 (by decide) ?_
    exact e_iret rfl dX2_verbHere_31 H
  · replace H := H.2 h1
    refine e_aload_n dX2_verbHere_8 rfl 0 rfl ?_
    refine fg_X2_30 rfl dX2_verbHere_9 ?_
    refine e_iload_n dX2_verbHere_12 rfl 1 rfl ?_
    refine e_callSs (j1 := 0) (j2 := 0) (av := [.int y1]) rfl H i_X2_wordOf rfl s_X2_wordOf q_X2_85 (by decide) (by decide) (Nat.le_of_ble_eq_true rfl) dX2_verbHere_13 (fun v2 τ2 H => ?_) (fun E τ H => H)
    have hwv2 := H.1
    replace H := H.2
    refine e_callVi (j1 := 0) (j2 := 0) (av := [.ref (g.2.2.2.2.1 v2)]) rfl rfl (Nat.le_of_ble_eq_true rfl) rfl rfl H i_X3_isAtWord rfl n_X3_isAtWord v_X3_isAtWord q_X2_88 (by decide) (by decide) (Nat.le_of_ble_eq_true rfl) dX2_verbHere_16 (fun v3 τ3 H => ?_) (fun E τ H => H)
    refine e_if_eq (tgt := 24) dX2_verbHere_19 (by decide) (fun h4 => ?_) (fun h4 => ?_)
    · replace H := H.1 h4
      refine e_iinc (j := 1) (v := (y1 + 1)) (ls' := [(1, .int (y1 + 1)), (0, .ref (zad g 10))]) dX2_verbHere_24 rfl rfl (by decide) rfl ?_
      refine e_goto (tgt := 2) dX2_verbHere_27 (by decide) ?_
      refine e_ls [1, 0] rfl ?_
      exact H
    · replace H := H.2 h4
      refine e_iload_n dX2_verbHere_22 rfl 1 rfl ?_
      exact e_iret rfl dX2_verbHere_23 H
set_option maxRecDepth 20000 in
set_option maxHeartbeats 2000000 in
theorem b_X2_wordOf {g : zG} {l : Launch} {K : Nat → zS → Prop} {X : String → zS → Prop} {x0 : Int32} {σ : zS}
    (H : (((x0.toInt < 0 ∨ (6 : Int) < x0.toInt) → K 13 σ) ∧ (x0 = nI 0 → K 6 σ) ∧ (x0 = nI 1 → K 7 σ) ∧ (x0 = nI 2 → K 8 σ) ∧ (x0 = nI 3 → K 9 σ) ∧ (x0 = nI 4 → K 10 σ) ∧ (x0 = nI 5 → K 11 σ) ∧ (x0 = nI 6 → K 12 σ))) :
    CT g l M_X2_wordOf 0 [.int x0] σ (zQs g K X) := by
  refine CT_of rfl (by decide) (Nat.le_of_ble_eq_true rfl) ?_
  change EV _ _ _ _ _ 0 [(0, .int x0)] [] _
  refine e_iload_n dX2_wordOf_0 rfl 0 rfl ?_
  rcases zsw 7 x0 (by decide) with h1 | ⟨h1k, h1l, h1⟩
  · replace H := H.1 h1
    refine e_tableOut (tgt := 65) dX2_wordOf_1 h1 (by decide) ?_
    refine e_ldcS (i := 13) rfl dX2_wordOf_65 ?_
    exact e_aret rfl (Or.inl ⟨_, rfl⟩) dX2_wordOf_67 ⟨_, rfl, H⟩
  · match h1k, h1l, h1 with
    | 0, _, h1 =>
      replace H := H.2.1 h1
      refine e_tableIn (tgt := 44) dX2_wordOf_1 (by rw [h1]; decide) (by rw [h1]; decide) (by rw [h1]; rfl) (by decide) ?_
      refine e_ldcS (i := 6) rfl dX2_wordOf_44 ?_
      exact e_aret rfl (Or.inl ⟨_, rfl⟩) dX2_wordOf_46 ⟨_, rfl, H⟩
    | 1, _, h1 =>
      replace H := H.2.2.1 h1
      refine e_tableIn (tgt := 47) dX2_wordOf_1 (by rw [h1]; decide) (by rw [h1]; decide) (by rw [h1]; rfl) (by decide) ?_
      refine e_ldcS (i := 7) rfl dX2_wordOf_47 ?_
      exact e_aret rfl (Or.inl ⟨_, rfl⟩) dX2_wordOf_49 ⟨_, rfl, H⟩
    | 2, _, h1 =>
      replace H := H.2.2.2.1 h1
      refine e_tableIn (tgt := 50) dX2_wordOf_1 (by rw [h1]; decide) (by rw [h1]; decide) (by rw [h1]; rfl) (by decide) ?_
      refine e_ldcS (i := 8) rfl dX2_wordOf_50 ?_
      exact e_aret rfl (Or.inl ⟨_, rfl⟩) dX2_wordOf_52 ⟨_, rfl, H⟩
    | 3, _, h1 =>
      replace H := H.2.2.2.2.1 h1
      refine e_tableIn (tgt := 53) dX2_wordOf_1 (by rw [h1]; decide) (by rw [h1]; decide) (by rw [h1]; rfl) (by decide) ?_
      refine e_ldcS (i := 9) rfl dX2_wordOf_53 ?_
      exact e_aret rfl (Or.inl ⟨_, rfl⟩) dX2_wordOf_55 ⟨_, rfl, H⟩
    | 4, _, h1 =>
      replace H := H.2.2.2.2.2.1 h1
      refine e_tableIn (tgt := 56) dX2_wordOf_1 (by rw [h1]; decide) (by rw [h1]; decide) (by rw [h1]; rfl) (by decide) ?_
      refine e_ldcS (i := 10) rfl dX2_wordOf_56 ?_
      exact e_aret rfl (Or.inl ⟨_, rfl⟩) dX2_wordOf_58 ⟨_, rfl, H⟩
    | 5, _, h1 =>
      replace H := H.2.2.2.2.2.2.1 h1
      refine e_tableIn (tgt := 59) dX2_wordOf_1 (by rw [h1]; decide) (by rw [h1]; decide) (by rw [h1]; rfl) (by decide) ?_
      refine e_ldcS (i := 11) rfl dX2_wordOf_59 ?_
      exact e_aret rfl (Or.inl ⟨_, rfl⟩) dX2_wordOf_61 ⟨_, rfl, H⟩
    | 6, _, h1 =>
      replace H := H.2.2.2.2.2.2.2 h1
      refine e_tableIn (tgt := 62) dX2_wordOf_1 (by rw [h1]; decide) (by rw [h1]; decide) (by rw [h1]; rfl) (by decide) ?_
      refine e_ldcS (i := 12) rfl dX2_wordOf_62 ?_
      exact e_aret rfl (Or.inl ⟨_, rfl⟩) dX2_wordOf_64 ⟨_, rfl, H⟩
    | n + 7, h, _ => exact absurd h (by omega)
set_option maxRecDepth 20000 in
set_option maxHeartbeats 2000000 in
theorem b_X2_partsOf {g : zG} {l : Launch} {K : Nat → zS → Prop} {X : String → zS → Prop} {x0 : Int32} {σ : zS}
    (H : (((x0.toInt < 0 ∨ (5 : Int) < x0.toInt) → K 18 σ) ∧ (x0 = nI 0 → K 14 σ) ∧ (x0 = nI 1 → K 15 σ) ∧ (x0 = nI 2 → K 18 σ) ∧ (x0 = nI 3 → K 18 σ) ∧ (x0 = nI 4 → K 16 σ) ∧ (x0 = nI 5 → K 17 σ))) :
    CT g l M_X2_partsOf 0 [.int x0] σ (zQs g K X) := by
  refine CT_of rfl (by decide) (Nat.le_of_ble_eq_true rfl) ?_
  change EV _ _ _ _ _ 0 [(0, .int x0)] [] _
  refine e_iload_n dX2_partsOf_0 rfl 0 rfl ?_
  rcases zsw 6 x0 (by decide) with h1 | ⟨h1k, h1l, h1⟩
  · replace H := H.1 h1
    refine e_tableOut (tgt := 52) dX2_partsOf_1 h1 (by decide) ?_
    refine e_ldcS (i := 18) rfl dX2_partsOf_52 ?_
    exact e_aret rfl (Or.inl ⟨_, rfl⟩) dX2_partsOf_54 ⟨_, rfl, H⟩
  · match h1k, h1l, h1 with
    | 0, _, h1 =>
      replace H := H.2.1 h1
      refine e_tableIn (tgt := 40) dX2_partsOf_1 (by rw [h1]; decide) (by rw [h1]; decide) (by rw [h1]; rfl) (by decide) ?_
      refine e_ldcS (i := 14) rfl dX2_partsOf_40 ?_
      exact e_aret rfl (Or.inl ⟨_, rfl⟩) dX2_partsOf_42 ⟨_, rfl, H⟩
    | 1, _, h1 =>
      replace H := H.2.2.1 h1
      refine e_tableIn (tgt := 43) dX2_partsOf_1 (by rw [h1]; decide) (by rw [h1]; decide) (by rw [h1]; rfl) (by decide) ?_
      refine e_ldcS (i := 15) rfl dX2_partsOf_43 ?_
      exact e_aret rfl (Or.inl ⟨_, rfl⟩) dX2_partsOf_45 ⟨_, rfl, H⟩
    | 2, _, h1 =>
      replace H := H.2.2.2.1 h1
      refine e_tableIn (tgt := 52) dX2_partsOf_1 (by rw [h1]; decide) (by rw [h1]; decide) (by rw [h1]; rfl) (by decide) ?_
      refine e_ldcS (i := 18) rfl dX2_partsOf_52 ?_
      exact e_aret rfl (Or.inl ⟨_, rfl⟩) dX2_partsOf_54 ⟨_, rfl, H⟩
    | 3, _, h1 =>
      replace H := H.2.2.2.2.1 h1
      refine e_tableIn (tgt := 52) dX2_partsOf_1 (by rw [h1]; decide) (by rw [h1]; decide) (by rw [h1]; rfl) (by decide) ?_
      refine e_ldcS (i := 18) rfl dX2_partsOf_52 ?_
      exact e_aret rfl (Or.inl ⟨_, rfl⟩) dX2_partsOf_54 ⟨_, rfl, H⟩
    | 4, _, h1 =>
      replace H := H.2.2.2.2.2.1 h1
      refine e_tableIn (tgt := 46) dX2_partsOf_1 (by rw [h1]; decide) (by rw [h1]; decide) (by rw [h1]; rfl) (by decide) ?_
      refine e_ldcS (i := 16) rfl dX2_partsOf_46 ?_
      exact e_aret rfl (Or.inl ⟨_, rfl⟩) dX2_partsOf_48 ⟨_, rfl, H⟩
    | 5, _, h1 =>
      replace H := H.2.2.2.2.2.2 h1
      refine e_tableIn (tgt := 49) dX2_partsOf_1 (by rw [h1]; decide) (by rw [h1]; decide) (by rw [h1]; rfl) (by decide) ?_
      refine e_ldcS (i := 17) rfl dX2_partsOf_49 ?_
      exact e_aret rfl (Or.inl ⟨_, rfl⟩) dX2_partsOf_51 ⟨_, rfl, H⟩
    | n + 6, h, _ => exact absurd h (by omega)
abbrev L_X2_readParts_5 (g : zG) (l : Launch) (K : Int32 → zS → Prop) (X : String → zS → Prop) (w : Nat) (y1 : Int32) (y3 : Int32) (y4 : Int32) (σ : zS) : Prop :=
  EV g l M_X2_readParts 0 (zQi K X) 5 [(0, .ref (zad g 10)), (1, .int y1), (2, .ref (g.2.2.2.2.1 w)), (3, .int y3), (4, .int y4)] [] σ
set_option maxRecDepth 20000 in
set_option maxHeartbeats 2000000 in
theorem b_X2_readParts {g : zG} {l : Launch} {K : Int32 → zS → Prop} {X : String → zS → Prop} {x1 : Int32} {w : Nat} {σ : zS} (hw : w < 19)
    (H : L_X2_readParts_5 g l K X w x1 0 0 σ) :
    CT g l M_X2_readParts 0 [.ref (zad g 10), .int x1, .ref (g.2.2.2.2.1 w)] σ (zQi K X) := by
  refine CT_of rfl (by decide) (Nat.le_of_ble_eq_true rfl) ?_
  change EV _ _ _ _ _ 0 [(0, .ref (zad g 10)), (1, .int x1), (2, .ref (g.2.2.2.2.1 w))] [] _
  refine e_iconst (v := 0) dX2_readParts_0 (by decide) ?_
  refine e_istore_n (ls' := [(3, .int 0), (0, .ref (zad g 10)), (1, .int x1), (2, .ref (g.2.2.2.2.1 w))]) dX2_readParts_1 rfl (by decide) rfl ?_
  refine e_iconst (v := 0) dX2_readParts_2 (by decide) ?_
  refine e_istore (ls' := [(4, .int 0), (3, .int 0), (0, .ref (zad g 10)), (1, .int x1), (2, .ref (g.2.2.2.2.1 w))]) dX2_readParts_3 (by decide) rfl ?_
  refine e_ls [2, 3, 4, 1, 0] rfl ?_
  exact H
set_option maxRecDepth 20000 in
set_option maxHeartbeats 2000000 in
theorem b_X2_readParts_5 {g : zG} {l : Launch} {K : Int32 → zS → Prop} {X : String → zS → Prop} {w : Nat} {y1 : Int32} {y3 : Int32} {y4 : Int32} {σ : zS} (hw : w < 19)
    (H : (((nI (zLen.getD w 0)) ≤ y4 → K 1 σ) ∧ (¬ (nI (zLen.getD w 0)) ≤ y4 → (vp_in y4 (zLen.getD w 0) ∧ ((¬ ((zByt.getD w []).getD (Int32.toNatClampNeg y4) 0) = 83 → CT g l M_X3_takeNumber 0 [.ref (zad g 1), .int 0, .int 999] σ (zQi (fun v4 τ4 => ((¬ v4 = (-1) → ((4 ≤ y3 → L_X2_readParts_5 g l K X w y1 y3 (y4 + 1) τ4) ∧ (¬ 4 ≤ y3 → (vp_in y1 30 ∧ (vp_in y3 4 ∧ (∀ σ9 : zS, σ9 = zup τ4 (43 + Int32.toNatClampNeg y1) (Int32.toNatClampNeg y3) v4 → L_X2_readParts_5 g l K X w y1 (y3 + 1) (y4 + 1) σ9)))))) ∧ (v4 = (-1) → K 0 τ4))) (fun E τ => X E τ))) ∧ (((zByt.getD w []).getD (Int32.toNatClampNeg y4) 0) = 83 → CT g l M_X3_takeSide 0 [.ref (zad g 1)] σ (zQi (fun v11 τ11 => ((¬ v11 = (-1) → ((¬ v11 = 1 → (vp_in y1 30 ∧ (∀ σ15 : zS, σ15 = zup τ11 12 (Int32.toNatClampNeg y1) (vp_nar .boolean 0) → L_X2_readParts_5 g l K X w y1 y3 (y4 + 1) σ15))) ∧ (v11 = 1 → (vp_in y1 30 ∧ (∀ σ16 : zS, σ16 = zup τ11 12 (Int32.toNatClampNeg y1) (vp_nar .boolean 1) → L_X2_readParts_5 g l K X w y1 y3 (y4 + 1) σ16))))) ∧ (v11 = (-1) → K 0 τ11))) (fun E τ => X E τ)))))))) :
    L_X2_readParts_5 g l K X w y1 y3 y4 σ := by
  refine e_iload dX2_readParts_5 4 rfl ?_
  refine e_aload_n dX2_readParts_7 rfl 2 rfl ?_
  refine e_strlen hw q_X2_118 (by decide) (Nat.le_of_ble_eq_true rfl) dX2_readParts_8 ?_
  refine e_icmp_ge (tgt := 117) dX2_readParts_11 (by decide) (fun h1 => ?_) (fun h1 => ?_)
  · replace H := H.1 h1
    refine e_iconst (v := 1) dX2_readParts_117 (by decide) ?_
    exact e_zret rfl rfl dX2_readParts_118 H
  · replace H := H.2 h1
    refine e_aload_n dX2_readParts_14 rfl 2 rfl ?_
    refine e_iload dX2_readParts_15 4 rfl ?_
    refine e_charAt hw H.1 q_X2_123 (by decide) (Nat.le_of_ble_eq_true rfl) dX2_readParts_17 ?_
    replace H := H.2
    refine e_bipush (v := 83) dX2_readParts_20 (by decide) ?_
    refine e_icmp_ne (tgt := 29) dX2_readParts_22 (by decide) (fun h2 => ?_) (fun h2 => ?_)
    · replace H := H.1 h2
      refine e_iconst (v := 0) dX2_readParts_29 (by decide) ?_
      refine e_istore (ls' := [(5, .int 0), (0, .ref (zad g 10)), (1, .int y1), (2, .ref (g.2.2.2.2.1 w)), (3, .int y3), (4, .int y4)]) dX2_readParts_30 (by decide) rfl ?_
      refine e_iload dX2_readParts_32 0 rfl ?_
      refine e_if_eq (tgt := 47) dX2_readParts_34 (by decide) (fun h3 => ?_) (fun h3 => ?_)
      · refine e_aload_n dX2_readParts_47 rfl 1 rfl ?_
        refine fg_X2_30 rfl dX2_readParts_48 ?_
        refine e_iconst (v := 0) dX2_readParts_51 (by decide) ?_
        refine e_sipush (v := 999) dX2_readParts_52 (by decide) ?_
        refine e_callVi (j1 := 0) (j2 := 0) (av := [.int 0, .int 999]) rfl rfl (Nat.le_of_ble_eq_true rfl) rfl rfl H i_X3_takeNumber rfl n_X3_takeNumber v_X3_takeNumber q_X2_130 (by decide) (by decide) (Nat.le_of_ble_eq_true rfl) dX2_readParts_55 (fun v4 τ4 H => ?_) (fun E τ H => H)
        refine e_istore (ls' := [(6, .int v4), (5, .int 0), (0, .ref (zad g 10)), (1, .int y1), (2, .ref (g.2.2.2.2.1 w)), (3, .int y3), (4, .int y4)]) dX2_readParts_58 (by decide) rfl ?_
        refine e_iload dX2_readParts_60 0 rfl ?_
        refine e_iconst (v := (-1)) dX2_readParts_62 (by decide) ?_
        refine e_icmp_ne (tgt := 68) dX2_readParts_63 (by decide) (fun h5 => ?_) (fun h5 => ?_)
        · replace H := H.1 h5
          refine e_iload dX2_readParts_68 1 rfl ?_
          refine e_if_eq (tgt := 93) dX2_readParts_70 (by decide) (fun h6 => ?_) (fun h6 => ?_)
          · refine e_iload_n dX2_readParts_93 rfl 5 rfl ?_
            refine e_iconst (v := 4) dX2_readParts_94 (by decide) ?_
            refine e_icmp_ge (tgt := 111) dX2_readParts_95 (by decide) (fun h7 => ?_) (fun h7 => ?_)
            · replace H := H.1 h7
              refine e_iinc (j := 6) (v := (y4 + 1)) (ls' := [(4, .int (y4 + 1)), (6, .int v4), (5, .int 0), (0, .ref (zad g 10)), (1, .int y1), (2, .ref (g.2.2.2.2.1 w)), (3, .int y3)]) dX2_readParts_111 rfl rfl (by decide) rfl ?_
              refine e_goto (tgt := 5) dX2_readParts_114 (by decide) ?_
              refine e_ls [3, 4, 5, 6, 0] rfl ?_
              exact H
            · replace H := H.2 h7
              refine e_aload_n dX2_readParts_98 rfl 2 rfl ?_
              refine fg_X2_21 rfl dX2_readParts_99 ?_
              refine e_iload_n dX2_readParts_102 rfl 3 rfl ?_
              have hi8 := H.1
              replace H := H.2
              refine e_aaldN hi8 dX2_readParts_103 ?_
              refine e_iload_n dX2_readParts_104 rfl 5 rfl ?_
              refine e_iload dX2_readParts_105 0 rfl ?_
              refine e_iast (n := 4) (zN_s hi8) (zN_l hi8) H.1 dX2_readParts_107 ?_
              replace H := H.2
              replace H := H _ rfl
              generalize zup τ4 (43 + Int32.toNatClampNeg y1) (Int32.toNatClampNeg y3) v4 = σ9 at H ⊢
              refine e_iinc (j := 5) (v := (y3 + 1)) (ls' := [(3, .int (y3 + 1)), (6, .int v4), (5, .int 0), (0, .ref (zad g 10)), (1, .int y1), (2, .ref (g.2.2.2.2.1 w)), (4, .int y4)]) dX2_readParts_108 rfl rfl (by decide) rfl ?_
              refine e_iinc (j := 6) (v := (y4 + 1)) (ls' := [(4, .int (y4 + 1)), (3, .int (y3 + 1)), (6, .int v4), (5, .int 0), (0, .ref (zad g 10)), (1, .int y1), (2, .ref (g.2.2.2.2.1 w))]) dX2_readParts_111 rfl rfl (by decide) rfl ?_
              refine e_goto (tgt := 5) dX2_readParts_114 (by decide) ?_
              refine e_ls [4, 5, 6, 1, 0] rfl ?_
              exact H
          · exact absurd h6 (by decide)
        · replace H := H.2 h5
          refine e_iconst (v := 0) dX2_readParts_66 (by decide) ?_
          exact e_zret rfl rfl dX2_readParts_67 H
      · exact absurd h3 (by decide)
    · replace H := H.2 h2
      refine e_iconst (v := 1) dX2_readParts_25 (by decide) ?_
      refine e_goto (tgt := 30) dX2_readParts_26 (by decide) ?_
      refine e_istore (ls' := [(5, .int 1), (0, .ref (zad g 10)), (1, .int y1), (2, .ref (g.2.2.2.2.1 w)), (3, .int y3), (4, .int y4)]) dX2_readParts_30 (by decide) rfl ?_
      refine e_iload dX2_readParts_32 0 rfl ?_
      refine e_if_eq (tgt := 47) dX2_readParts_34 (by decide) (fun h10 => ?_) (fun h10 => ?_)
      · exact absurd h10 (by decide)
      · refine e_aload_n dX2_readParts_37 rfl 1 rfl ?_
        refine fg_X2_30 rfl dX2_readParts_38 ?_
        refine e_callVi (j1 := 0) (j2 := 0) (av := []) rfl rfl (Nat.le_of_ble_eq_true rfl) rfl rfl H i_X3_takeSide rfl n_X3_takeSide v_X3_takeSide q_X2_127 (by decide) (by decide) (Nat.le_of_ble_eq_true rfl) dX2_readParts_41 (fun v11 τ11 H => ?_) (fun E τ H => H)
        refine e_goto (tgt := 58) dX2_readParts_44 (by decide) ?_
        refine e_istore (ls' := [(6, .int v11), (5, .int 1), (0, .ref (zad g 10)), (1, .int y1), (2, .ref (g.2.2.2.2.1 w)), (3, .int y3), (4, .int y4)]) dX2_readParts_58 (by decide) rfl ?_
        refine e_iload dX2_readParts_60 0 rfl ?_
        refine e_iconst (v := (-1)) dX2_readParts_62 (by decide) ?_
        refine e_icmp_ne (tgt := 68) dX2_readParts_63 (by decide) (fun h12 => ?_) (fun h12 => ?_)
        · replace H := H.1 h12
          refine e_iload dX2_readParts_68 1 rfl ?_
          refine e_if_eq (tgt := 93) dX2_readParts_70 (by decide) (fun h13 => ?_) (fun h13 => ?_)
          · exact absurd h13 (by decide)
          · refine e_aload_n dX2_readParts_73 rfl 2 rfl ?_
            refine fg_X2_15 rfl dX2_readParts_74 ?_
            refine e_iload_n dX2_readParts_77 rfl 3 rfl ?_
            refine e_iload dX2_readParts_78 0 rfl ?_
            refine e_iconst (v := 1) dX2_readParts_80 (by decide) ?_
            refine e_icmp_ne (tgt := 88) dX2_readParts_81 (by decide) (fun h14 => ?_) (fun h14 => ?_)
            · replace H := H.1 h14
              refine e_iconst (v := 0) dX2_readParts_88 (by decide) ?_
              refine e_zast (n := 30) rfl (Nat.le_of_ble_eq_true rfl) H.1 dX2_readParts_89 ?_
              replace H := H.2
              replace H := H _ rfl
              generalize zup τ11 12 (Int32.toNatClampNeg y1) (vp_nar .boolean 0) = σ15 at H ⊢
              refine e_goto (tgt := 111) dX2_readParts_90 (by decide) ?_
              refine e_iinc (j := 6) (v := (y4 + 1)) (ls' := [(4, .int (y4 + 1)), (6, .int v11), (5, .int 1), (0, .ref (zad g 10)), (1, .int y1), (2, .ref (g.2.2.2.2.1 w)), (3, .int y3)]) dX2_readParts_111 rfl rfl (by decide) rfl ?_
              refine e_goto (tgt := 5) dX2_readParts_114 (by decide) ?_
              refine e_ls [3, 4, 5, 6, 0] rfl ?_
              exact H
            · replace H := H.2 h14
              refine e_iconst (v := 1) dX2_readParts_84 (by decide) ?_
              refine e_goto (tgt := 89) dX2_readParts_85 (by decide) ?_
              refine e_zast (n := 30) rfl (Nat.le_of_ble_eq_true rfl) H.1 dX2_readParts_89 ?_
              replace H := H.2
              replace H := H _ rfl
              generalize zup τ11 12 (Int32.toNatClampNeg y1) (vp_nar .boolean 1) = σ16 at H ⊢
              refine e_goto (tgt := 111) dX2_readParts_90 (by decide) ?_
              refine e_iinc (j := 6) (v := (y4 + 1)) (ls' := [(4, .int (y4 + 1)), (6, .int v11), (5, .int 1), (0, .ref (zad g 10)), (1, .int y1), (2, .ref (g.2.2.2.2.1 w)), (3, .int y3)]) dX2_readParts_111 rfl rfl (by decide) rfl ?_
              refine e_goto (tgt := 5) dX2_readParts_114 (by decide) ?_
              refine e_ls [3, 4, 5, 6, 0] rfl ?_
              exact H
        · replace H := H.2 h12
          refine e_iconst (v := 0) dX2_readParts_66 (by decide) ?_
          exact e_zret rfl rfl dX2_readParts_67 H
set_option maxRecDepth 20000 in
set_option maxHeartbeats 2000000 in
theorem b_X2_openRepeat {g : zG} {l : Launch} {K : Int32 → zS → Prop} {X : String → zS → Prop} {x1 : Int32} {σ : zS}
    (H : CT g l M_X3_takeNumber 0 [.ref (zad g 1), .int 1, .int 20] σ (zQi (fun v1 τ1 => ((v1 = (-1) → K 0 τ1) ∧ (¬ v1 = (-1) → (((τ1.1 10 7) < 2 → (vp_in x1 30 ∧ (∀ σ5 : zS, σ5 = zup τ1 (43 + Int32.toNatClampNeg x1) (Int32.toNatClampNeg 0) v1 → (vp_in (σ5.1 10 7) 2 ∧ (∀ σ6 : zS, σ6 = zup σ5 15 (Int32.toNatClampNeg (σ5.1 10 7)) x1 → (∀ σ7 : zS, σ7 = zup σ6 10 7 ((σ6.1 10 7) + 1) → CT g l M_X3_takeSign 0 [.ref (zad g 1), .int 40] σ7 (zQi (fun v8 τ8 => (zbl v8 ∧ K v8 τ8)) (fun E τ => X E τ)))))))) ∧ (¬ (τ1.1 10 7) < 2 → K 0 τ1))))) (fun E τ => X E τ))) :
    CT g l M_X2_openRepeat 0 [.ref (zad g 10), .int x1] σ (zQi K X) := by
  refine CT_of rfl (by decide) (Nat.le_of_ble_eq_true rfl) ?_
  change EV _ _ _ _ _ 0 [(0, .ref (zad g 10)), (1, .int x1)] [] _
  refine e_aload_n dX2_openRepeat_0 rfl 0 rfl ?_
  refine fg_X2_30 rfl dX2_openRepeat_1 ?_
  refine e_iconst (v := 1) dX2_openRepeat_4 (by decide) ?_
  refine e_bipush (v := 20) dX2_openRepeat_5 (by decide) ?_
  refine e_callVi (j1 := 0) (j2 := 0) (av := [.int 1, .int 20]) rfl rfl (Nat.le_of_ble_eq_true rfl) rfl rfl H i_X3_takeNumber rfl n_X3_takeNumber v_X3_takeNumber q_X2_130 (by decide) (by decide) (Nat.le_of_ble_eq_true rfl) dX2_openRepeat_7 (fun v1 τ1 H => ?_) (fun E τ H => H)
  refine e_istore_n (ls' := [(2, .int v1), (0, .ref (zad g 10)), (1, .int x1)]) dX2_openRepeat_10 rfl (by decide) rfl ?_
  refine e_iload_n dX2_openRepeat_11 rfl 0 rfl ?_
  refine e_iconst (v := (-1)) dX2_openRepeat_12 (by decide) ?_
  refine e_icmp_eq (tgt := 24) dX2_openRepeat_13 (by decide) (fun h2 => ?_) (fun h2 => ?_)
  · replace H := H.1 h2
    refine e_iconst (v := 0) dX2_openRepeat_24 (by decide) ?_
    exact e_zret rfl rfl dX2_openRepeat_25 H
  · replace H := H.2 h2
    refine e_aload_n dX2_openRepeat_16 rfl 1 rfl ?_
    refine fg_X2_38 rfl dX2_openRepeat_17 ?_
    refine e_iconst (v := 2) dX2_openRepeat_20 (by decide) ?_
    refine e_icmp_lt (tgt := 26) dX2_openRepeat_21 (by decide) (fun h3 => ?_) (fun h3 => ?_)
    · replace H := H.1 h3
      refine e_aload_n dX2_openRepeat_26 rfl 1 rfl ?_
      refine fg_X2_21 rfl dX2_openRepeat_27 ?_
      refine e_iload_n dX2_openRepeat_30 rfl 2 rfl ?_
      have hi4 := H.1
      replace H := H.2
      refine e_aaldN hi4 dX2_openRepeat_31 ?_
      refine e_iconst (v := 0) dX2_openRepeat_32 (by decide) ?_
      refine e_iload_n dX2_openRepeat_33 rfl 0 rfl ?_
      refine e_iast (n := 4) (zN_s hi4) (zN_l hi4) (vil (by decide)) dX2_openRepeat_34 ?_
      replace H := H _ rfl
      generalize zup τ1 (43 + Int32.toNatClampNeg x1) (Int32.toNatClampNeg 0) v1 = σ5 at H ⊢
      refine e_aload_n dX2_openRepeat_35 rfl 1 rfl ?_
      refine fg_X2_27 rfl dX2_openRepeat_36 ?_
      refine e_aload_n dX2_openRepeat_39 rfl 1 rfl ?_
      refine fg_X2_38 rfl dX2_openRepeat_40 ?_
      refine e_iload_n dX2_openRepeat_43 rfl 2 rfl ?_
      refine e_iast (n := 2) rfl (Nat.le_of_ble_eq_true rfl) H.1 dX2_openRepeat_44 ?_
      replace H := H.2
      replace H := H _ rfl
      generalize zup σ5 15 (Int32.toNatClampNeg (σ5.1 10 7)) x1 = σ6 at H ⊢
      refine e_aload_n dX2_openRepeat_45 rfl 1 rfl ?_
      refine e_dup dX2_openRepeat_46 rfl ?_
      refine fg_X2_38 rfl dX2_openRepeat_47 ?_
      refine e_iconst (v := 1) dX2_openRepeat_50 (by decide) ?_
      refine e_iadd dX2_openRepeat_51 ?_
      refine fp_X2_38 rfl dX2_openRepeat_52 ?_
      replace H := H _ rfl
      generalize zup σ6 10 7 ((σ6.1 10 7) + 1) = σ7 at H ⊢
      refine e_aload_n dX2_openRepeat_55 rfl 1 rfl ?_
      refine fg_X2_30 rfl dX2_openRepeat_56 ?_
      refine e_bipush (v := 40) dX2_openRepeat_59 (by decide) ?_
      refine e_callVi (j1 := 0) (j2 := 0) (av := [.int 40]) rfl rfl (Nat.le_of_ble_eq_true rfl) rfl rfl H i_X3_takeSign rfl n_X3_takeSign v_X3_takeSign q_X2_82 (by decide) (by decide) (Nat.le_of_ble_eq_true rfl) dX2_openRepeat_61 (fun v8 τ8 H => ?_) (fun E τ H => H)
      exact e_zret rfl (zbl_n H.1) dX2_openRepeat_64 H.2
    · replace H := H.2 h3
      refine e_iconst (v := 0) dX2_openRepeat_24 (by decide) ?_
      exact e_zret rfl rfl dX2_openRepeat_25 H
set_option maxRecDepth 20000 in
set_option maxHeartbeats 2000000 in
theorem b_X2_closeRepeat {g : zG} {l : Launch} {K : Int32 → zS → Prop} {X : String → zS → Prop} {σ : zS}
    (H : CT g l M_X3_advance 0 [.ref (zad g 1)] σ (zQv (fun τ1 => (∀ σ2 : zS, σ2 = zup τ1 10 7 ((τ1.1 10 7) - 1) → (vp_in (σ2.1 10 7) 2 ∧ (vp_in (σ2.1 15 (Int32.toNatClampNeg (σ2.1 10 7))) 30 ∧ (∀ σ3 : zS, σ3 = zup σ2 14 (Int32.toNatClampNeg (σ2.1 15 (Int32.toNatClampNeg (σ2.1 10 7)))) (σ2.1 10 1) → CT g l M_X3_takeSign 0 [.ref (zad g 1), .int 59] σ3 (zQi (fun v4 τ4 => (zbl v4 ∧ K v4 τ4)) (fun E τ => X E τ))))))) (fun E τ => X E τ))) :
    CT g l M_X2_closeRepeat 0 [.ref (zad g 10)] σ (zQi K X) := by
  refine CT_of rfl (by decide) (Nat.le_of_ble_eq_true rfl) ?_
  change EV _ _ _ _ _ 0 [(0, .ref (zad g 10))] [] _
  refine e_aload_n dX2_closeRepeat_0 rfl 0 rfl ?_
  refine fg_X2_30 rfl dX2_closeRepeat_1 ?_
  refine e_callVv (j1 := 0) (j2 := 0) (av := []) rfl rfl (Nat.le_of_ble_eq_true rfl) rfl rfl H i_X3_advance rfl n_X3_advance v_X3_advance q_X2_68 (by decide) (by decide) (Nat.le_of_ble_eq_true rfl) dX2_closeRepeat_4 (fun τ1 H => ?_) (fun E τ H => H)
  refine e_aload_n dX2_closeRepeat_7 rfl 0 rfl ?_
  refine e_dup dX2_closeRepeat_8 rfl ?_
  refine fg_X2_38 rfl dX2_closeRepeat_9 ?_
  refine e_iconst (v := 1) dX2_closeRepeat_12 (by decide) ?_
  refine e_isub dX2_closeRepeat_13 ?_
  refine fp_X2_38 rfl dX2_closeRepeat_14 ?_
  replace H := H _ rfl
  generalize zup τ1 10 7 ((τ1.1 10 7) - 1) = σ2 at H ⊢
  refine e_aload_n dX2_closeRepeat_17 rfl 0 rfl ?_
  refine fg_X2_24 rfl dX2_closeRepeat_18 ?_
  refine e_aload_n dX2_closeRepeat_21 rfl 0 rfl ?_
  refine fg_X2_27 rfl dX2_closeRepeat_22 ?_
  refine e_aload_n dX2_closeRepeat_25 rfl 0 rfl ?_
  refine fg_X2_38 rfl dX2_closeRepeat_26 ?_
  refine e_iald (n := 2) rfl (Nat.le_of_ble_eq_true rfl) H.1 dX2_closeRepeat_29 ?_
  replace H := H.2
  refine e_aload_n dX2_closeRepeat_30 rfl 0 rfl ?_
  refine fg_X2_34 rfl dX2_closeRepeat_31 ?_
  refine e_iast (n := 30) rfl (Nat.le_of_ble_eq_true rfl) H.1 dX2_closeRepeat_34 ?_
  replace H := H.2
  replace H := H _ rfl
  generalize zup σ2 14 (Int32.toNatClampNeg (σ2.1 15 (Int32.toNatClampNeg (σ2.1 10 7)))) (σ2.1 10 1) = σ3 at H ⊢
  refine e_aload_n dX2_closeRepeat_35 rfl 0 rfl ?_
  refine fg_X2_30 rfl dX2_closeRepeat_36 ?_
  refine e_bipush (v := 59) dX2_closeRepeat_39 (by decide) ?_
  refine e_callVi (j1 := 0) (j2 := 0) (av := [.int 59]) rfl rfl (Nat.le_of_ble_eq_true rfl) rfl rfl H i_X3_takeSign rfl n_X3_takeSign v_X3_takeSign q_X2_82 (by decide) (by decide) (Nat.le_of_ble_eq_true rfl) dX2_closeRepeat_41 (fun v4 τ4 H => ?_) (fun E τ H => H)
  exact e_zret rfl (zbl_n H.1) dX2_closeRepeat_44 H.2
