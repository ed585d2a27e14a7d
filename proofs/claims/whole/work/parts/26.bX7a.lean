set_option maxRecDepth 20000 in
set_option maxHeartbeats 2000000 in
theorem b_X7_thrown {g : zG} {l : Launch} {K : Int32 → zS → Prop} {X : String → zS → Prop} {σ : zS}
    (H : K (σ.1 24 0) σ) :
    CT g l M_X7_thrown 0 [.ref (zad g 24)] σ (zQi K X) := by
  refine CT_of rfl (by decide) (Nat.le_of_ble_eq_true rfl) ?_
  change EV _ _ _ _ _ 0 [(0, .ref (zad g 24))] [] _
  refine e_aload_n dX7_thrown_0 rfl 0 rfl ?_
  refine fg_X7_68 rfl dX7_thrown_1 ?_
  exact e_iret rfl dX7_thrown_4 H
set_option maxRecDepth 20000 in
set_option maxHeartbeats 2000000 in
theorem b_X7_isIn {g : zG} {l : Launch} {K : Int32 → zS → Prop} {X : String → zS → Prop} {x0 : Int64} {x2 : Int64} {x4 : Int64} {σ : zS}
    (H : (((lg_cmp x0 x2) < 0 → K 0 σ) ∧ (¬ (lg_cmp x0 x2) < 0 → ((0 < (lg_cmp x0 x4) → K 0 σ) ∧ (¬ 0 < (lg_cmp x0 x4) → K 1 σ))))) :
    CT g l M_X7_isIn 0 [.long x0, .long x2, .long x4] σ (zQi K X) := by
  refine CT_of rfl (by decide) (Nat.le_of_ble_eq_true rfl) ?_
  change EV _ _ _ _ _ 0 [(0, .long x0), (2, .long x2), (4, .long x4)] [] _
  refine e_lload_n dX7_isIn_0 rfl 0 rfl ?_
  refine e_lload_n dX7_isIn_1 rfl 1 rfl ?_
  refine e_lcmp dX7_isIn_2 ?_
  refine e_if_lt (tgt := 17) dX7_isIn_3 (by decide) (fun h1 => ?_) (fun h1 => ?_)
  · replace H := H.1 h1
    refine e_iconst (v := 0) dX7_isIn_17 (by decide) ?_
    exact e_zret rfl rfl dX7_isIn_18 H
  · replace H := H.2 h1
    refine e_lload_n dX7_isIn_6 rfl 0 rfl ?_
    refine e_lload dX7_isIn_7 2 rfl ?_
    refine e_lcmp dX7_isIn_9 ?_
    refine e_if_gt (tgt := 17) dX7_isIn_10 (by decide) (fun h2 => ?_) (fun h2 => ?_)
    · replace H := H.1 h2
      refine e_iconst (v := 0) dX7_isIn_17 (by decide) ?_
      exact e_zret rfl rfl dX7_isIn_18 H
    · replace H := H.2 h2
      refine e_iconst (v := 1) dX7_isIn_13 (by decide) ?_
      refine e_goto (tgt := 18) dX7_isIn_14 (by decide) ?_
      exact e_zret rfl rfl dX7_isIn_18 H
set_option maxRecDepth 20000 in
set_option maxHeartbeats 2000000 in
theorem b_X7_truth {g : zG} {l : Launch} {K : Int32 → zS → Prop} {X : String → zS → Prop} {x0 : Int32} {σ : zS}
    (H : ((x0 = 0 → K 0 σ) ∧ (¬ x0 = 0 → K 1 σ))) :
    CT g l M_X7_truth 0 [.int x0] σ (zQi K X) := by
  refine CT_of rfl (by decide) (Nat.le_of_ble_eq_true rfl) ?_
  change EV _ _ _ _ _ 0 [(0, .int x0)] [] _
  refine e_iload_n dX7_truth_0 rfl 0 rfl ?_
  refine e_if_eq (tgt := 8) dX7_truth_1 (by decide) (fun h1 => ?_) (fun h1 => ?_)
  · replace H := H.1 h1
    refine e_iconst (v := 0) dX7_truth_8 (by decide) ?_
    exact e_iret rfl dX7_truth_9 H
  · replace H := H.2 h1
    refine e_iconst (v := 1) dX7_truth_4 (by decide) ?_
    refine e_goto (tgt := 9) dX7_truth_5 (by decide) ?_
    exact e_iret rfl dX7_truth_9 H
set_option maxRecDepth 20000 in
set_option maxHeartbeats 2000000 in
theorem b_X7_has {g : zG} {l : Launch} {K : Int32 → zS → Prop} {X : String → zS → Prop} {x0 : Int32} {x1 : Int32} {σ : zS}
    (H : ((¬ ((x0 >>> (x1 &&& 31)) &&& 1) = 1 → K 0 σ) ∧ (((x0 >>> (x1 &&& 31)) &&& 1) = 1 → K 1 σ))) :
    CT g l M_X7_has 0 [.int x0, .int x1] σ (zQi K X) := by
  refine CT_of rfl (by decide) (Nat.le_of_ble_eq_true rfl) ?_
  change EV _ _ _ _ _ 0 [(0, .int x0), (1, .int x1)] [] _
  refine e_iload_n dX7_has_0 rfl 0 rfl ?_
  refine e_iload_n dX7_has_1 rfl 1 rfl ?_
  refine e_ishr dX7_has_2 ?_
  refine e_iconst (v := 1) dX7_has_3 (by decide) ?_
  refine e_iand dX7_has_4 ?_
  refine e_iconst (v := 1) dX7_has_5 (by decide) ?_
  refine e_icmp_ne (tgt := 13) dX7_has_6 (by decide) (fun h1 => ?_) (fun h1 => ?_)
  · replace H := H.1 h1
    refine e_iconst (v := 0) dX7_has_13 (by decide) ?_
    exact e_zret rfl rfl dX7_has_14 H
  · replace H := H.2 h1
    refine e_iconst (v := 1) dX7_has_9 (by decide) ?_
    refine e_goto (tgt := 14) dX7_has_10 (by decide) ?_
    exact e_zret rfl rfl dX7_has_14 H
set_option maxRecDepth 20000 in
set_option maxHeartbeats 2000000 in
theorem b_X7_goes {g : zG} {l : Launch} {K : Int32 → zS → Prop} {X : String → zS → Prop} {x1 : Int32} {σ : zS}
    (H : ((¬ x1 = 0 → CT g l M_X7_truth 0 [.int 0] σ (zQi (fun v2 τ2 => (∀ σ3 : zS, σ3 = zup τ2 24 0 v2 → (zbl x1 ∧ K x1 σ3))) (fun E τ => X E τ))) ∧ (x1 = 0 → CT g l M_X7_truth 0 [.int 1] σ (zQi (fun v4 τ4 => (∀ σ5 : zS, σ5 = zup τ4 24 0 v4 → (zbl x1 ∧ K x1 σ5))) (fun E τ => X E τ))))) :
    CT g l M_X7_goes 0 [.ref (zad g 24), .int x1] σ (zQi K X) := by
  refine CT_of rfl (by decide) (Nat.le_of_ble_eq_true rfl) ?_
  change EV _ _ _ _ _ 0 [(0, .ref (zad g 24)), (1, .int x1)] [] _
  refine e_aload_n dX7_goes_0 rfl 0 rfl ?_
  refine e_iload_n dX7_goes_1 rfl 1 rfl ?_
  refine e_if_ne (tgt := 9) dX7_goes_2 (by decide) (fun h1 => ?_) (fun h1 => ?_)
  · replace H := H.1 h1
    refine e_iconst (v := 0) dX7_goes_9 (by decide) ?_
    refine e_callSi (j1 := 0) (j2 := 0) (av := [.int 0]) rfl H i_X7_truth rfl s_X7_truth q_X7_71 (by decide) (by decide) (Nat.le_of_ble_eq_true rfl) dX7_goes_10 (fun v2 τ2 H => ?_) (fun E τ H => H)
    refine fp_X7_68 rfl dX7_goes_13 ?_
    replace H := H _ rfl
    generalize zup τ2 24 0 v2 = σ3 at H ⊢
    refine e_iload_n dX7_goes_16 rfl 1 rfl ?_
    exact e_zret rfl (zbl_n H.1) dX7_goes_17 H.2
  · replace H := H.2 h1
    refine e_iconst (v := 1) dX7_goes_5 (by decide) ?_
    refine e_goto (tgt := 10) dX7_goes_6 (by decide) ?_
    refine e_callSi (j1 := 0) (j2 := 0) (av := [.int 1]) rfl H i_X7_truth rfl s_X7_truth q_X7_71 (by decide) (by decide) (Nat.le_of_ble_eq_true rfl) dX7_goes_10 (fun v4 τ4 H => ?_) (fun E τ H => H)
    refine fp_X7_68 rfl dX7_goes_13 ?_
    replace H := H _ rfl
    generalize zup τ4 24 0 v4 = σ5 at H ⊢
    refine e_iload_n dX7_goes_16 rfl 1 rfl ?_
    exact e_zret rfl (zbl_n H.1) dX7_goes_17 H.2
set_option maxRecDepth 20000 in
set_option maxHeartbeats 2000000 in
theorem b_X7_goesBoth {g : zG} {l : Launch} {K : Int32 → zS → Prop} {X : String → zS → Prop} {x1 : Int32} {x2 : Int32} {σ : zS}
    (H : ((¬ x1 = 0 → ((¬ x2 = 0 → (∀ σ3 : zS, σ3 = zup σ 24 0 0 → ((¬ (σ3.1 24 0) = 0 → K 0 σ3) ∧ ((σ3.1 24 0) = 0 → K 1 σ3)))) ∧ (x2 = 0 → (∀ σ5 : zS, σ5 = zup σ 24 0 2 → ((¬ (σ5.1 24 0) = 0 → K 0 σ5) ∧ ((σ5.1 24 0) = 0 → K 1 σ5)))))) ∧ (x1 = 0 → (∀ σ7 : zS, σ7 = zup σ 24 0 1 → ((¬ (σ7.1 24 0) = 0 → K 0 σ7) ∧ ((σ7.1 24 0) = 0 → K 1 σ7)))))) :
    CT g l M_X7_goesBoth 0 [.ref (zad g 24), .int x1, .int x2] σ (zQi K X) := by
  refine CT_of rfl (by decide) (Nat.le_of_ble_eq_true rfl) ?_
  change EV _ _ _ _ _ 0 [(0, .ref (zad g 24)), (1, .int x1), (2, .int x2)] [] _
  refine e_aload_n dX7_goesBoth_0 rfl 0 rfl ?_
  refine e_iload_n dX7_goesBoth_1 rfl 1 rfl ?_
  refine e_if_ne (tgt := 9) dX7_goesBoth_2 (by decide) (fun h1 => ?_) (fun h1 => ?_)
  · replace H := H.1 h1
    refine e_iload_n dX7_goesBoth_9 rfl 2 rfl ?_
    refine e_if_ne (tgt := 17) dX7_goesBoth_10 (by decide) (fun h2 => ?_) (fun h2 => ?_)
    · replace H := H.1 h2
      refine e_iconst (v := 0) dX7_goesBoth_17 (by decide) ?_
      refine fp_X7_68 rfl dX7_goesBoth_18 ?_
      replace H := H _ rfl
      generalize zup σ 24 0 0 = σ3 at H ⊢
      refine e_aload_n dX7_goesBoth_21 rfl 0 rfl ?_
      refine fg_X7_68 rfl dX7_goesBoth_22 ?_
      refine e_if_ne (tgt := 32) dX7_goesBoth_25 (by decide) (fun h4 => ?_) (fun h4 => ?_)
      · replace H := H.1 h4
        refine e_iconst (v := 0) dX7_goesBoth_32 (by decide) ?_
        exact e_zret rfl rfl dX7_goesBoth_33 H
      · replace H := H.2 h4
        refine e_iconst (v := 1) dX7_goesBoth_28 (by decide) ?_
        refine e_goto (tgt := 33) dX7_goesBoth_29 (by decide) ?_
        exact e_zret rfl rfl dX7_goesBoth_33 H
    · replace H := H.2 h2
      refine e_iconst (v := 2) dX7_goesBoth_13 (by decide) ?_
      refine e_goto (tgt := 18) dX7_goesBoth_14 (by decide) ?_
      refine fp_X7_68 rfl dX7_goesBoth_18 ?_
      replace H := H _ rfl
      generalize zup σ 24 0 2 = σ5 at H ⊢
      refine e_aload_n dX7_goesBoth_21 rfl 0 rfl ?_
      refine fg_X7_68 rfl dX7_goesBoth_22 ?_
      refine e_if_ne (tgt := 32) dX7_goesBoth_25 (by decide) (fun h6 => ?_) (fun h6 => ?_)
      · replace H := H.1 h6
        refine e_iconst (v := 0) dX7_goesBoth_32 (by decide) ?_
        exact e_zret rfl rfl dX7_goesBoth_33 H
      · replace H := H.2 h6
        refine e_iconst (v := 1) dX7_goesBoth_28 (by decide) ?_
        refine e_goto (tgt := 33) dX7_goesBoth_29 (by decide) ?_
        exact e_zret rfl rfl dX7_goesBoth_33 H
  · replace H := H.2 h1
    refine e_iconst (v := 1) dX7_goesBoth_5 (by decide) ?_
    refine e_goto (tgt := 18) dX7_goesBoth_6 (by decide) ?_
    refine fp_X7_68 rfl dX7_goesBoth_18 ?_
    replace H := H _ rfl
    generalize zup σ 24 0 1 = σ7 at H ⊢
    refine e_aload_n dX7_goesBoth_21 rfl 0 rfl ?_
    refine fg_X7_68 rfl dX7_goesBoth_22 ?_
    refine e_if_ne (tgt := 32) dX7_goesBoth_25 (by decide) (fun h8 => ?_) (fun h8 => ?_)
    · replace H := H.1 h8
      refine e_iconst (v := 0) dX7_goesBoth_32 (by decide) ?_
      exact e_zret rfl rfl dX7_goesBoth_33 H
    · replace H := H.2 h8
      refine e_iconst (v := 1) dX7_goesBoth_28 (by decide) ?_
      refine e_goto (tgt := 33) dX7_goesBoth_29 (by decide) ?_
      exact e_zret rfl rfl dX7_goesBoth_33 H
set_option maxRecDepth 20000 in
set_option maxHeartbeats 2000000 in
theorem b_X7_feed {g : zG} {l : Launch} {K : Int32 → zS → Prop} {X : String → zS → Prop} {x1 : Int32} {x2 : Int32} {x3 : Int32} {x4 : Int32} {x5 : Int32} {σ : zS}
    (H : ((600 < ((σ.1 24 2) + 20) → CT g l M_X7_goes 0 [.ref (zad g 24), .int 0] σ (zQi (fun v2 τ2 => ((¬ v2 = 0 → CT g l M_X7_four 0 [.ref (zad g 24), .int x1] τ2 (zQv (fun τ4 => CT g l M_X7_four 0 [.ref (zad g 24), .int x2] τ4 (zQv (fun τ5 => CT g l M_X7_four 0 [.ref (zad g 24), .int x3] τ5 (zQv (fun τ6 => CT g l M_X7_four 0 [.ref (zad g 24), .int x4] τ6 (zQv (fun τ7 => CT g l M_X7_four 0 [.ref (zad g 24), .int x5] τ7 (zQv (fun τ8 => K (τ8.1 24 2) τ8) (fun E τ => X E τ))) (fun E τ => X E τ))) (fun E τ => X E τ))) (fun E τ => X E τ))) (fun E τ => X E τ))) ∧ (v2 = 0 → K 0 τ2))) (fun E τ => X E τ))) ∧ (¬ 600 < ((σ.1 24 2) + 20) → CT g l M_X7_goes 0 [.ref (zad g 24), .int 1] σ (zQi (fun v9 τ9 => ((¬ v9 = 0 → CT g l M_X7_four 0 [.ref (zad g 24), .int x1] τ9 (zQv (fun τ11 => CT g l M_X7_four 0 [.ref (zad g 24), .int x2] τ11 (zQv (fun τ12 => CT g l M_X7_four 0 [.ref (zad g 24), .int x3] τ12 (zQv (fun τ13 => CT g l M_X7_four 0 [.ref (zad g 24), .int x4] τ13 (zQv (fun τ14 => CT g l M_X7_four 0 [.ref (zad g 24), .int x5] τ14 (zQv (fun τ15 => K (τ15.1 24 2) τ15) (fun E τ => X E τ))) (fun E τ => X E τ))) (fun E τ => X E τ))) (fun E τ => X E τ))) (fun E τ => X E τ))) ∧ (v9 = 0 → K 0 τ9))) (fun E τ => X E τ))))) :
    CT g l M_X7_feed 0 [.ref (zad g 24), .int x1, .int x2, .int x3, .int x4, .int x5] σ (zQi K X) := by
  refine CT_of rfl (by decide) (Nat.le_of_ble_eq_true rfl) ?_
  change EV _ _ _ _ _ 0 [(0, .ref (zad g 24)), (1, .int x1), (2, .int x2), (3, .int x3), (4, .int x4), (5, .int x5)] [] _
  refine e_aload_n dX7_feed_0 rfl 0 rfl ?_
  refine e_aload_n dX7_feed_1 rfl 0 rfl ?_
  refine fg_X7_75 rfl dX7_feed_2 ?_
  refine e_bipush (v := 20) dX7_feed_5 (by decide) ?_
  refine e_iadd dX7_feed_7 ?_
  refine e_sipush (v := 600) dX7_feed_8 (by decide) ?_
  refine e_icmp_gt (tgt := 18) dX7_feed_11 (by decide) (fun h1 => ?_) (fun h1 => ?_)
  · replace H := H.1 h1
    refine e_iconst (v := 0) dX7_feed_18 (by decide) ?_
    refine e_callVi (j1 := 0) (j2 := 0) (av := [.int 0]) rfl rfl (Nat.le_of_ble_eq_true rfl) rfl rfl H i_X7_goes rfl n_X7_goes v_X7_goes q_X7_78 (by decide) (by decide) (Nat.le_of_ble_eq_true rfl) dX7_feed_19 (fun v2 τ2 H => ?_) (fun E τ H => H)
    refine e_if_ne (tgt := 27) dX7_feed_22 (by decide) (fun h3 => ?_) (fun h3 => ?_)
    · replace H := H.1 h3
      refine e_aload_n dX7_feed_27 rfl 0 rfl ?_
      refine e_iload_n dX7_feed_28 rfl 1 rfl ?_
      refine e_callVv (j1 := 0) (j2 := 0) (av := [.int x1]) rfl rfl (Nat.le_of_ble_eq_true rfl) rfl rfl H i_X7_four rfl n_X7_four v_X7_four q_X7_82 (by decide) (by decide) (Nat.le_of_ble_eq_true rfl) dX7_feed_29 (fun τ4 H => ?_) (fun E τ H => H)
      refine e_aload_n dX7_feed_32 rfl 0 rfl ?_
      refine e_iload_n dX7_feed_33 rfl 2 rfl ?_
      refine e_callVv (j1 := 0) (j2 := 0) (av := [.int x2]) rfl rfl (Nat.le_of_ble_eq_true rfl) rfl rfl H i_X7_four rfl n_X7_four v_X7_four q_X7_82 (by decide) (by decide) (Nat.le_of_ble_eq_true rfl) dX7_feed_34 (fun τ5 H => ?_) (fun E τ H => H)
      refine e_aload_n dX7_feed_37 rfl 0 rfl ?_
      refine e_iload_n dX7_feed_38 rfl 3 rfl ?_
      refine e_callVv (j1 := 0) (j2 := 0) (av := [.int x3]) rfl rfl (Nat.le_of_ble_eq_true rfl) rfl rfl H i_X7_four rfl n_X7_four v_X7_four q_X7_82 (by decide) (by decide) (Nat.le_of_ble_eq_true rfl) dX7_feed_39 (fun τ6 H => ?_) (fun E τ H => H)
      refine e_aload_n dX7_feed_42 rfl 0 rfl ?_
      refine e_iload dX7_feed_43 4 rfl ?_
      refine e_callVv (j1 := 0) (j2 := 0) (av := [.int x4]) rfl rfl (Nat.le_of_ble_eq_true rfl) rfl rfl H i_X7_four rfl n_X7_four v_X7_four q_X7_82 (by decide) (by decide) (Nat.le_of_ble_eq_true rfl) dX7_feed_45 (fun τ7 H => ?_) (fun E τ H => H)
      refine e_aload_n dX7_feed_48 rfl 0 rfl ?_
      refine e_iload dX7_feed_49 5 rfl ?_
      refine e_callVv (j1 := 0) (j2 := 0) (av := [.int x5]) rfl rfl (Nat.le_of_ble_eq_true rfl) rfl rfl H i_X7_four rfl n_X7_four v_X7_four q_X7_82 (by decide) (by decide) (Nat.le_of_ble_eq_true rfl) dX7_feed_51 (fun τ8 H => ?_) (fun E τ H => H)
      refine e_aload_n dX7_feed_54 rfl 0 rfl ?_
      refine fg_X7_75 rfl dX7_feed_55 ?_
      exact e_iret rfl dX7_feed_58 H
    · replace H := H.2 h3
      refine e_iconst (v := 0) dX7_feed_25 (by decide) ?_
      exact e_iret rfl dX7_feed_26 H
  · replace H := H.2 h1
    refine e_iconst (v := 1) dX7_feed_14 (by decide) ?_
    refine e_goto (tgt := 19) dX7_feed_15 (by decide) ?_
    refine e_callVi (j1 := 0) (j2 := 0) (av := [.int 1]) rfl rfl (Nat.le_of_ble_eq_true rfl) rfl rfl H i_X7_goes rfl n_X7_goes v_X7_goes q_X7_78 (by decide) (by decide) (Nat.le_of_ble_eq_true rfl) dX7_feed_19 (fun v9 τ9 H => ?_) (fun E τ H => H)
    refine e_if_ne (tgt := 27) dX7_feed_22 (by decide) (fun h10 => ?_) (fun h10 => ?_)
    · replace H := H.1 h10
      refine e_aload_n dX7_feed_27 rfl 0 rfl ?_
      refine e_iload_n dX7_feed_28 rfl 1 rfl ?_
      refine e_callVv (j1 := 0) (j2 := 0) (av := [.int x1]) rfl rfl (Nat.le_of_ble_eq_true rfl) rfl rfl H i_X7_four rfl n_X7_four v_X7_four q_X7_82 (by decide) (by decide) (Nat.le_of_ble_eq_true rfl) dX7_feed_29 (fun τ11 H => ?_) (fun E τ H => H)
      refine e_aload_n dX7_feed_32 rfl 0 rfl ?_
      refine e_iload_n dX7_feed_33 rfl 2 rfl ?_
      refine e_callVv (j1 := 0) (j2 := 0) (av := [.int x2]) rfl rfl (Nat.le_of_ble_eq_true rfl) rfl rfl H i_X7_four rfl n_X7_four v_X7_four q_X7_82 (by decide) (by decide) (Nat.le_of_ble_eq_true rfl) dX7_feed_34 (fun τ12 H => ?_) (fun E τ H => H)
      refine e_aload_n dX7_feed_37 rfl 0 rfl ?_
      refine e_iload_n dX7_feed_38 rfl 3 rfl ?_
      refine e_callVv (j1 := 0) (j2 := 0) (av := [.int x3]) rfl rfl (Nat.le_of_ble_eq_true rfl) rfl rfl H i_X7_four rfl n_X7_four v_X7_four q_X7_82 (by decide) (by decide) (Nat.le_of_ble_eq_true rfl) dX7_feed_39 (fun τ13 H => ?_) (fun E τ H => H)
      refine e_aload_n dX7_feed_42 rfl 0 rfl ?_
      refine e_iload dX7_feed_43 4 rfl ?_
      refine e_callVv (j1 := 0) (j2 := 0) (av := [.int x4]) rfl rfl (Nat.le_of_ble_eq_true rfl) rfl rfl H i_X7_four rfl n_X7_four v_X7_four q_X7_82 (by decide) (by decide) (Nat.le_of_ble_eq_true rfl) dX7_feed_45 (fun τ14 H => ?_) (fun E τ H => H)
      refine e_aload_n dX7_feed_48 rfl 0 rfl ?_
      refine e_iload dX7_feed_49 5 rfl ?_
      refine e_callVv (j1 := 0) (j2 := 0) (av := [.int x5]) rfl rfl (Nat.le_of_ble_eq_true rfl) rfl rfl H i_X7_four rfl n_X7_four v_X7_four q_X7_82 (by decide) (by decide) (Nat.le_of_ble_eq_true rfl) dX7_feed_51 (fun τ15 H => ?_) (fun E τ H => H)
      refine e_aload_n dX7_feed_54 rfl 0 rfl ?_
      refine fg_X7_75 rfl dX7_feed_55 ?_
      exact e_iret rfl dX7_feed_58 H
    · replace H := H.2 h10
      refine e_iconst (v := 0) dX7_feed_25 (by decide) ?_
      exact e_iret rfl dX7_feed_26 H
abbrev L_X7_four_3 (g : zG) (l : Launch) (K : zS → Prop) (X : String → zS → Prop) (y1 : Int32) (y2 : Int32) (σ : zS) : Prop :=
  EV g l M_X7_four 0 (zQv K X) 3 [(0, .ref (zad g 24)), (1, .int y1), (2, .int y2)] [] σ
set_option maxRecDepth 20000 in
set_option maxHeartbeats 2000000 in
theorem b_X7_four {g : zG} {l : Launch} {K : zS → Prop} {X : String → zS → Prop} {x1 : Int32} {σ : zS}
    (H : L_X7_four_3 g l K X x1 24 σ) :
    CT g l M_X7_four 0 [.ref (zad g 24), .int x1] σ (zQv K X) := by
  refine CT_of rfl (by decide) (Nat.le_of_ble_eq_true rfl) ?_
  change EV _ _ _ _ _ 0 [(0, .ref (zad g 24)), (1, .int x1)] [] _
  refine e_bipush (v := 24) dX7_four_0 (by decide) ?_
  refine e_istore_n (ls' := [(2, .int 24), (0, .ref (zad g 24)), (1, .int x1)]) dX7_four_2 rfl (by decide) rfl ?_
  refine e_ls [1, 2, 0] rfl ?_
  exact H
set_option maxRecDepth 20000 in
set_option maxHeartbeats 2000000 in
theorem b_X7_four_3 {g : zG} {l : Launch} {K : zS → Prop} {X : String → zS → Prop} {y1 : Int32} {y2 : Int32} {σ : zS}
    (H : ((y2 < 0 → K σ) ∧ (¬ y2 < 0 → (vp_in (σ.1 24 2) 600 ∧ (∀ σ2 : zS, σ2 = zup σ 25 (Int32.toNatClampNeg (σ.1 24 2)) ((y1 >>> (y2 &&& 31)) &&& 255) → (∀ σ3 : zS, σ3 = zup σ2 24 2 ((σ2.1 24 2) + 1) → L_X7_four_3 g l K X y1 (y2 + (-8)) σ3)))))) :
    L_X7_four_3 g l K X y1 y2 σ := by
  refine e_iload_n dX7_four_3 rfl 2 rfl ?_
  refine e_if_lt (tgt := 39) dX7_four_4 (by decide) (fun h1 => ?_) (fun h1 => ?_)
  · replace H := H.1 h1
    exact e_vret rfl dX7_four_39 H
  · replace H := H.2 h1
    refine e_aload_n dX7_four_7 rfl 0 rfl ?_
    refine fg_X7_7 rfl dX7_four_8 ?_
    refine e_aload_n dX7_four_11 rfl 0 rfl ?_
    refine fg_X7_75 rfl dX7_four_12 ?_
    refine e_iload_n dX7_four_15 rfl 1 rfl ?_
    refine e_iload_n dX7_four_16 rfl 2 rfl ?_
    refine e_ishr dX7_four_17 ?_
    refine e_sipush (v := 255) dX7_four_18 (by decide) ?_
    refine e_iand dX7_four_21 ?_
    refine e_iast (n := 600) rfl (Nat.le_of_ble_eq_true rfl) H.1 dX7_four_22 ?_
    replace H := H.2
    replace H := H _ rfl
    generalize zup σ 25 (Int32.toNatClampNeg (σ.1 24 2)) ((y1 >>> (y2 &&& 31)) &&& 255) = σ2 at H ⊢
    refine e_aload_n dX7_four_23 rfl 0 rfl ?_
    refine e_dup dX7_four_24 rfl ?_
    refine fg_X7_75 rfl dX7_four_25 ?_
    refine e_iconst (v := 1) dX7_four_28 (by decide) ?_
    refine e_iadd dX7_four_29 ?_
    refine fp_X7_75 rfl dX7_four_30 ?_
    replace H := H _ rfl
    generalize zup σ2 24 2 ((σ2.1 24 2) + 1) = σ3 at H ⊢
    refine e_iinc (j := 2) (v := (y2 + (-8))) (ls' := [(2, .int (y2 + (-8))), (0, .ref (zad g 24)), (1, .int y1)]) dX7_four_33 rfl rfl (by decide) rfl ?_
    refine e_goto (tgt := 3) dX7_four_36 (by decide) ?_
    refine e_ls [1, 2, 0] rfl ?_
    exact H
set_option maxRecDepth 20000 in
set_option maxHeartbeats 2000000 in
theorem b_X7_truncate {g : zG} {l : Launch} {K : Int32 → zS → Prop} {X : String → zS → Prop} {x1 : Int32} {σ : zS}
    (H : CT g l M_X7_isIn 0 [.long (Int32.toInt64 x1), .long (0 : Int64), .long (Int32.toInt64 (σ.1 24 2))] σ (zQi (fun v1 τ1 => CT g l M_X7_goes 0 [.ref (zad g 24), .int v1] τ1 (zQi (fun v2 τ2 => ((¬ v2 = 0 → (∀ σ4 : zS, σ4 = zup τ2 24 2 x1 → K x1 σ4)) ∧ (v2 = 0 → K 0 τ2))) (fun E τ => X E τ))) (fun E τ => X E τ))) :
    CT g l M_X7_truncate 0 [.ref (zad g 24), .int x1] σ (zQi K X) := by
  refine CT_of rfl (by decide) (Nat.le_of_ble_eq_true rfl) ?_
  change EV _ _ _ _ _ 0 [(0, .ref (zad g 24)), (1, .int x1)] [] _
  refine e_aload_n dX7_truncate_0 rfl 0 rfl ?_
  refine e_iload_n dX7_truncate_1 rfl 1 rfl ?_
  refine e_i2l (v := Int32.toInt64 x1) dX7_truncate_2 rfl ?_
  refine e_lconst (v := 0) dX7_truncate_3 (by decide) ?_
  refine e_aload_n dX7_truncate_4 rfl 0 rfl ?_
  refine fg_X7_75 rfl dX7_truncate_5 ?_
  refine e_i2l (v := Int32.toInt64 (σ.1 24 2)) dX7_truncate_8 rfl ?_
  refine e_callSi (j1 := 0) (j2 := 0) (av := [.long (Int32.toInt64 x1), .long (0 : Int64), .long (Int32.toInt64 (σ.1 24 2))]) rfl H i_X7_isIn rfl s_X7_isIn q_X7_85 (by decide) (by decide) (Nat.le_of_ble_eq_true rfl) dX7_truncate_9 (fun v1 τ1 H => ?_) (fun E τ H => H)
  refine e_callVi (j1 := 0) (j2 := 0) (av := [.int v1]) rfl rfl (Nat.le_of_ble_eq_true rfl) rfl rfl H i_X7_goes rfl n_X7_goes v_X7_goes q_X7_78 (by decide) (by decide) (Nat.le_of_ble_eq_true rfl) dX7_truncate_12 (fun v2 τ2 H => ?_) (fun E τ H => H)
  refine e_if_ne (tgt := 20) dX7_truncate_15 (by decide) (fun h3 => ?_) (fun h3 => ?_)
  · replace H := H.1 h3
    refine e_aload_n dX7_truncate_20 rfl 0 rfl ?_
    refine e_iload_n dX7_truncate_21 rfl 1 rfl ?_
    refine fp_X7_75 rfl dX7_truncate_22 ?_
    replace H := H _ rfl
    generalize zup τ2 24 2 x1 = σ4 at H ⊢
    refine e_iload_n dX7_truncate_25 rfl 1 rfl ?_
    exact e_iret rfl dX7_truncate_26 H
  · replace H := H.2 h3
    refine e_iconst (v := 0) dX7_truncate_18 (by decide) ?_
    exact e_iret rfl dX7_truncate_19 H
set_option maxRecDepth 20000 in
set_option maxHeartbeats 2000000 in
theorem b_X7_here {g : zG} {l : Launch} {K : Int32 → zS → Prop} {X : String → zS → Prop} {x1 : Int32} {σ : zS}
    (H : (((σ.1 24 3) ≤ ((σ.1 24 4) + x1) → K (-1) σ) ∧ (¬ (σ.1 24 3) ≤ ((σ.1 24 4) + x1) → (vp_in ((σ.1 24 4) + x1) 600 ∧ K (σ.1 25 (Int32.toNatClampNeg ((σ.1 24 4) + x1))) σ)))) :
    CT g l M_X7_here 0 [.ref (zad g 24), .int x1] σ (zQi K X) := by
  refine CT_of rfl (by decide) (Nat.le_of_ble_eq_true rfl) ?_
  change EV _ _ _ _ _ 0 [(0, .ref (zad g 24)), (1, .int x1)] [] _
  refine e_aload_n dX7_here_0 rfl 0 rfl ?_
  refine fg_X7_89 rfl dX7_here_1 ?_
  refine e_iload_n dX7_here_4 rfl 1 rfl ?_
  refine e_iadd dX7_here_5 ?_
  refine e_aload_n dX7_here_6 rfl 0 rfl ?_
  refine fg_X7_92 rfl dX7_here_7 ?_
  refine e_icmp_ge (tgt := 27) dX7_here_10 (by decide) (fun h1 => ?_) (fun h1 => ?_)
  · replace H := H.1 h1
    refine e_iconst (v := (-1)) dX7_here_27 (by decide) ?_
    exact e_iret rfl dX7_here_28 H
  · replace H := H.2 h1
    refine e_aload_n dX7_here_13 rfl 0 rfl ?_
    refine fg_X7_7 rfl dX7_here_14 ?_
    refine e_aload_n dX7_here_17 rfl 0 rfl ?_
    refine fg_X7_89 rfl dX7_here_18 ?_
    refine e_iload_n dX7_here_21 rfl 1 rfl ?_
    refine e_iadd dX7_here_22 ?_
    refine e_iald (n := 600) rfl (Nat.le_of_ble_eq_true rfl) H.1 dX7_here_23 ?_
    replace H := H.2
    refine e_goto (tgt := 28) dX7_here_24 (by decide) ?_
    exact e_iret rfl dX7_here_28 H
set_option maxRecDepth 20000 in
set_option maxHeartbeats 2000000 in
theorem b_X7_isLetter {g : zG} {l : Launch} {K : Int32 → zS → Prop} {X : String → zS → Prop} {x0 : Int32} {σ : zS}
    (H : ((x0 < 97 → K 0 σ) ∧ (¬ x0 < 97 → ((122 < x0 → K 0 σ) ∧ (¬ 122 < x0 → K 1 σ))))) :
    CT g l M_X7_isLetter 0 [.int x0] σ (zQi K X) := by
  refine CT_of rfl (by decide) (Nat.le_of_ble_eq_true rfl) ?_
  change EV _ _ _ _ _ 0 [(0, .int x0)] [] _
  refine e_iload_n dX7_isLetter_0 rfl 0 rfl ?_
  refine e_bipush (v := 97) dX7_isLetter_1 (by decide) ?_
  refine e_icmp_lt (tgt := 16) dX7_isLetter_3 (by decide) (fun h1 => ?_) (fun h1 => ?_)
  · replace H := H.1 h1
    refine e_iconst (v := 0) dX7_isLetter_16 (by decide) ?_
    exact e_zret rfl rfl dX7_isLetter_17 H
  · replace H := H.2 h1
    refine e_iload_n dX7_isLetter_6 rfl 0 rfl ?_
    refine e_bipush (v := 122) dX7_isLetter_7 (by decide) ?_
    refine e_icmp_gt (tgt := 16) dX7_isLetter_9 (by decide) (fun h2 => ?_) (fun h2 => ?_)
    · replace H := H.1 h2
      refine e_iconst (v := 0) dX7_isLetter_16 (by decide) ?_
      exact e_zret rfl rfl dX7_isLetter_17 H
    · replace H := H.2 h2
      refine e_iconst (v := 1) dX7_isLetter_12 (by decide) ?_
      refine e_goto (tgt := 17) dX7_isLetter_13 (by decide) ?_
      exact e_zret rfl rfl dX7_isLetter_17 H
set_option maxRecDepth 20000 in
set_option maxHeartbeats 2000000 in
theorem b_X7_isDigit {g : zG} {l : Launch} {K : Int32 → zS → Prop} {X : String → zS → Prop} {x0 : Int32} {σ : zS}
    (H : ((x0 < 48 → K 0 σ) ∧ (¬ x0 < 48 → ((57 < x0 → K 0 σ) ∧ (¬ 57 < x0 → K 1 σ))))) :
    CT g l M_X7_isDigit 0 [.int x0] σ (zQi K X) := by
  refine CT_of rfl (by decide) (Nat.le_of_ble_eq_true rfl) ?_
  change EV _ _ _ _ _ 0 [(0, .int x0)] [] _
  refine e_iload_n dX7_isDigit_0 rfl 0 rfl ?_
  refine e_bipush (v := 48) dX7_isDigit_1 (by decide) ?_
  refine e_icmp_lt (tgt := 16) dX7_isDigit_3 (by decide) (fun h1 => ?_) (fun h1 => ?_)
  · replace H := H.1 h1
    refine e_iconst (v := 0) dX7_isDigit_16 (by decide) ?_
    exact e_zret rfl rfl dX7_isDigit_17 H
  · replace H := H.2 h1
    refine e_iload_n dX7_isDigit_6 rfl 0 rfl ?_
    refine e_bipush (v := 57) dX7_isDigit_7 (by decide) ?_
    refine e_icmp_gt (tgt := 16) dX7_isDigit_9 (by decide) (fun h2 => ?_) (fun h2 => ?_)
    · replace H := H.1 h2
      refine e_iconst (v := 0) dX7_isDigit_16 (by decide) ?_
      exact e_zret rfl rfl dX7_isDigit_17 H
    · replace H := H.2 h2
      refine e_iconst (v := 1) dX7_isDigit_12 (by decide) ?_
      refine e_goto (tgt := 17) dX7_isDigit_13 (by decide) ?_
      exact e_zret rfl rfl dX7_isDigit_17 H
abbrev L_X7_goOn_0 (g : zG) (l : Launch) (K : zS → Prop) (X : String → zS → Prop) (σ : zS) : Prop :=
  EV g l M_X7_goOn 0 (zQv K X) 0 [(0, .ref (zad g 24))] [] σ
abbrev L_X7_goOn_76 (g : zG) (l : Launch) (K : zS → Prop) (X : String → zS → Prop) (y2 : Int32) (σ : zS) : Prop :=
  EV g l M_X7_goOn 0 (zQv K X) 76 [(0, .ref (zad g 24)), (2, .int y2)] [] σ
abbrev L_X7_goOn_146 (g : zG) (l : Launch) (K : zS → Prop) (X : String → zS → Prop) (y2 : Int32) (σ : zS) : Prop :=
  EV g l M_X7_goOn 0 (zQv K X) 146 [(0, .ref (zad g 24)), (2, .int y2)] [] σ
set_option maxRecDepth 20000 in
set_option maxHeartbeats 2000000 in
theorem b_X7_goOn {g : zG} {l : Launch} {K : zS → Prop} {X : String → zS → Prop} {σ : zS}
    (H : L_X7_goOn_0 g l K X  σ) :
    CT g l M_X7_goOn 0 [.ref (zad g 24)] σ (zQv K X) := by
  refine CT_of rfl (by decide) (Nat.le_of_ble_eq_true rfl) ?_
  change EV _ _ _ _ _ 0 [(0, .ref (zad g 24))] [] _
  refine e_ls [0] rfl ?_
  exact H
set_option maxRecDepth 20000 in
set_option maxHeartbeats 2000000 in
theorem b_X7_goOn_0 {g : zG} {l : Launch} {K : zS → Prop} {X : String → zS → Prop} {σ : zS}
    (H : CT g l M_X7_here 0 [.ref (zad g 24), .int 0] σ (zQi (fun v1 τ1 => ((v1 = 32 → (∀ σ3 : zS, σ3 = zup τ1 24 4 ((τ1.1 24 4) + 1) → L_X7_goOn_0 g l K X  σ3)) ∧ (¬ v1 = 32 → CT g l M_X7_here 0 [.ref (zad g 24), .int 0] τ1 (zQi (fun v4 τ4 => ((¬ v4 = 10 → (∀ σ6 : zS, σ6 = zup τ4 24 5 (τ4.1 24 4) → (∀ σ7 : zS, σ7 = zupJ σ6 0 (0 : Int64) → (∀ σ8 : zS, σ8 = zup σ7 24 7 0 → CT g l M_X7_here 0 [.ref (zad g 24), .int 0] σ8 (zQi (fun v9 τ9 => ((0 ≤ v9 → CT g l M_X7_isLetter 0 [.int v9] τ9 (zQi (fun v11 τ11 => ((v11 = 0 → CT g l M_X7_isDigit 0 [.int v9] τ11 (zQi (fun v13 τ13 => ((v13 = 0 → ((v9 = 59 → (∀ σ16 : zS, σ16 = zup τ13 24 6 3 → (∀ σ17 : zS, σ17 = zup σ16 24 7 v9 → (∀ σ18 : zS, σ18 = zup σ17 24 4 ((σ17.1 24 4) + 1) → K σ18)))) ∧ (¬ v9 = 59 → ((v9 = 40 → (∀ σ20 : zS, σ20 = zup τ13 24 6 3 → (∀ σ21 : zS, σ21 = zup σ20 24 7 v9 → (∀ σ22 : zS, σ22 = zup σ21 24 4 ((σ21.1 24 4) + 1) → K σ22)))) ∧ (¬ v9 = 40 → ((¬ v9 = 41 → (∀ σ24 : zS, σ24 = zup τ13 24 6 4 → (∀ σ25 : zS, σ25 = zup σ24 24 7 v9 → (∀ σ26 : zS, σ26 = zup σ25 24 4 ((σ25.1 24 4) + 1) → K σ26)))) ∧ (v9 = 41 → (∀ σ27 : zS, σ27 = zup τ13 24 6 3 → (∀ σ28 : zS, σ28 = zup σ27 24 7 v9 → (∀ σ29 : zS, σ29 = zup σ28 24 4 ((σ28.1 24 4) + 1) → K σ29)))))))))) ∧ (¬ v13 = 0 → L_X7_goOn_146 g l K X 0 τ13))) (fun E τ => X E τ))) ∧ (¬ v11 = 0 → L_X7_goOn_76 g l K X 0 τ11))) (fun E τ => X E τ))) ∧ (¬ 0 ≤ v9 → (∀ σ30 : zS, σ30 = zup τ9 24 6 0 → K σ30)))) (fun E τ => X E τ)))))) ∧ (v4 = 10 → (∀ σ31 : zS, σ31 = zup τ4 24 4 ((τ4.1 24 4) + 1) → L_X7_goOn_0 g l K X  σ31)))) (fun E τ => X E τ))))) (fun E τ => X E τ))) :
    L_X7_goOn_0 g l K X σ := by
  refine e_aload_n dX7_goOn_0 rfl 0 rfl ?_
  refine e_iconst (v := 0) dX7_goOn_1 (by decide) ?_
  refine e_callVi (j1 := 0) (j2 := 0) (av := [.int 0]) rfl rfl (Nat.le_of_ble_eq_true rfl) rfl rfl H i_X7_here rfl n_X7_here v_X7_here q_X7_95 (by decide) (by decide) (Nat.le_of_ble_eq_true rfl) dX7_goOn_2 (fun v1 τ1 H => ?_) (fun E τ H => H)
  refine e_bipush (v := 32) dX7_goOn_5 (by decide) ?_
  refine e_icmp_eq (tgt := 20) dX7_goOn_7 (by decide) (fun h2 => ?_) (fun h2 => ?_)
  · replace H := H.1 h2
    refine e_aload_n dX7_goOn_20 rfl 0 rfl ?_
    refine e_dup dX7_goOn_21 rfl ?_
    refine fg_X7_89 rfl dX7_goOn_22 ?_
    refine e_iconst (v := 1) dX7_goOn_25 (by decide) ?_
    refine e_iadd dX7_goOn_26 ?_
    refine fp_X7_89 rfl dX7_goOn_27 ?_
    replace H := H _ rfl
    generalize zup τ1 24 4 ((τ1.1 24 4) + 1) = σ3 at H ⊢
    refine e_goto (tgt := 0) dX7_goOn_30 (by decide) ?_
    refine e_ls [0] rfl ?_
    exact H
  · replace H := H.2 h2
    refine e_aload_n dX7_goOn_10 rfl 0 rfl ?_
    refine e_iconst (v := 0) dX7_goOn_11 (by decide) ?_
    refine e_callVi (j1 := 0) (j2 := 0) (av := [.int 0]) rfl rfl (Nat.le_of_ble_eq_true rfl) rfl rfl H i_X7_here rfl n_X7_here v_X7_here q_X7_95 (by decide) (by decide) (Nat.le_of_ble_eq_true rfl) dX7_goOn_12 (fun v4 τ4 H => ?_) (fun E τ H => H)
    refine e_bipush (v := 10) dX7_goOn_15 (by decide) ?_
    refine e_icmp_ne (tgt := 33) dX7_goOn_17 (by decide) (fun h5 => ?_) (fun h5 => ?_)
    · replace H := H.1 h5
      refine e_aload_n dX7_goOn_33 rfl 0 rfl ?_
      refine e_aload_n dX7_goOn_34 rfl 0 rfl ?_
      refine fg_X7_89 rfl dX7_goOn_35 ?_
      refine fp_X7_99 rfl dX7_goOn_38 ?_
      replace H := H _ rfl
      generalize zup τ4 24 5 (τ4.1 24 4) = σ6 at H ⊢
      refine e_aload_n dX7_goOn_41 rfl 0 rfl ?_
      refine e_lconst (v := 0) dX7_goOn_42 (by decide) ?_
      refine fpJ_X7_102 rfl dX7_goOn_43 ?_
      replace H := H _ rfl
      generalize zupJ σ6 0 (0 : Int64) = σ7 at H ⊢
      refine e_aload_n dX7_goOn_46 rfl 0 rfl ?_
      refine e_iconst (v := 0) dX7_goOn_47 (by decide) ?_
      refine fp_X7_106 rfl dX7_goOn_48 ?_
      replace H := H _ rfl
      generalize zup σ7 24 7 0 = σ8 at H ⊢
      refine e_aload_n dX7_goOn_51 rfl 0 rfl ?_
      refine e_iconst (v := 0) dX7_goOn_52 (by decide) ?_
      refine e_callVi (j1 := 0) (j2 := 0) (av := [.int 0]) rfl rfl (Nat.le_of_ble_eq_true rfl) rfl rfl H i_X7_here rfl n_X7_here v_X7_here q_X7_95 (by decide) (by decide) (Nat.le_of_ble_eq_true rfl) dX7_goOn_53 (fun v9 τ9 H => ?_) (fun E τ H => H)
      refine e_istore_n (ls' := [(1, .int v9), (0, .ref (zad g 24))]) dX7_goOn_56 rfl (by decide) rfl ?_
      refine e_iconst (v := 0) dX7_goOn_57 (by decide) ?_
      refine e_istore_n (ls' := [(2, .int 0), (1, .int v9), (0, .ref (zad g 24))]) dX7_goOn_58 rfl (by decide) rfl ?_
      refine e_iload_n dX7_goOn_59 rfl 1 rfl ?_
      refine e_if_ge (tgt := 69) dX7_goOn_60 (by decide) (fun h10 => ?_) (fun h10 => ?_)
      · replace H := H.1 h10
        refine e_iload_n dX7_goOn_69 rfl 1 rfl ?_
        refine e_callSi (j1 := 0) (j2 := 0) (av := [.int v9]) rfl H i_X7_isLetter rfl s_X7_isLetter q_X7_112 (by decide) (by decide) (Nat.le_of_ble_eq_true rfl) dX7_goOn_70 (fun v11 τ11 H => ?_) (fun E τ H => H)
        refine e_if_eq (tgt := 139) dX7_goOn_73 (by decide) (fun h12 => ?_) (fun h12 => ?_)
        · replace H := H.1 h12
          refine e_iload_n dX7_goOn_139 rfl 1 rfl ?_
          refine e_callSi (j1 := 0) (j2 := 0) (av := [.int v9]) rfl H i_X7_isDigit rfl s_X7_isDigit q_X7_116 (by decide) (by decide) (Nat.le_of_ble_eq_true rfl) dX7_goOn_140 (fun v13 τ13 H => ?_) (fun E τ H => H)
          refine e_if_eq (tgt := 205) dX7_goOn_143 (by decide) (fun h14 => ?_) (fun h14 => ?_)
          · replace H := H.1 h14
            refine e_aload_n dX7_goOn_205 rfl 2 rfl ?_
            refine e_iload_n dX7_goOn_206 rfl 1 rfl ?_
            refine e_bipush (v := 59) dX7_goOn_207 (by decide) ?_
            refine e_icmp_eq (tgt := 224) dX7_goOn_209 (by decide) (fun h15 => ?_) (fun h15 => ?_)
            · replace H := H.1 h15
              refine e_iconst (v := 3) dX7_goOn_224 (by decide) ?_
              refine e_goto (tgt := 229) dX7_goOn_225 (by decide) ?_
              refine fp_X7_109 rfl dX7_goOn_229 ?_
              replace H := H _ rfl
              generalize zup τ13 24 6 3 = σ16 at H ⊢
              refine e_aload_n dX7_goOn_232 rfl 2 rfl ?_
              refine e_iload_n dX7_goOn_233 rfl 1 rfl ?_
              refine fp_X7_106 rfl dX7_goOn_234 ?_
              replace H := H _ rfl
              generalize zup σ16 24 7 v9 = σ17 at H ⊢
              refine e_iconst (v := 1) dX7_goOn_237 (by decide) ?_
              refine e_istore_n (ls' := [(2, .int 1), (1, .int v9), (0, .ref (zad g 24))]) dX7_goOn_238 rfl (by decide) rfl ?_
              refine e_aload_n dX7_goOn_239 rfl 2 rfl ?_
              refine e_dup dX7_goOn_240 rfl ?_
              refine fg_X7_89 rfl dX7_goOn_241 ?_
              refine e_iload_n dX7_goOn_244 rfl 0 rfl ?_
              refine e_iadd dX7_goOn_245 ?_
              refine fp_X7_89 rfl dX7_goOn_246 ?_
              replace H := H _ rfl
              generalize zup σ17 24 4 ((σ17.1 24 4) + 1) = σ18 at H ⊢
              exact e_vret rfl dX7_goOn_249 H
            · replace H := H.2 h15
              refine e_iload_n dX7_goOn_212 rfl 1 rfl ?_
              refine e_bipush (v := 40) dX7_goOn_213 (by decide) ?_
              refine e_icmp_eq (tgt := 224) dX7_goOn_215 (by decide) (fun h19 => ?_) (fun h19 => ?_)
              · replace H := H.1 h19
                refine e_iconst (v := 3) dX7_goOn_224 (by decide) ?_
                refine e_goto (tgt := 229) dX7_goOn_225 (by decide) ?_
                refine fp_X7_109 rfl dX7_goOn_229 ?_
                replace H := H _ rfl
                generalize zup τ13 24 6 3 = σ20 at H ⊢
                refine e_aload_n dX7_goOn_232 rfl 2 rfl ?_
                refine e_iload_n dX7_goOn_233 rfl 1 rfl ?_
                refine fp_X7_106 rfl dX7_goOn_234 ?_
                replace H := H _ rfl
                generalize zup σ20 24 7 v9 = σ21 at H ⊢
                refine e_iconst (v := 1) dX7_goOn_237 (by decide) ?_
                refine e_istore_n (ls' := [(2, .int 1), (1, .int v9), (0, .ref (zad g 24))]) dX7_goOn_238 rfl (by decide) rfl ?_
                refine e_aload_n dX7_goOn_239 rfl 2 rfl ?_
                refine e_dup dX7_goOn_240 rfl ?_
                refine fg_X7_89 rfl dX7_goOn_241 ?_
                refine e_iload_n dX7_goOn_244 rfl 0 rfl ?_
                refine e_iadd dX7_goOn_245 ?_
                refine fp_X7_89 rfl dX7_goOn_246 ?_
                replace H := H _ rfl
                generalize zup σ21 24 4 ((σ21.1 24 4) + 1) = σ22 at H ⊢
                exact e_vret rfl dX7_goOn_249 H
              · replace H := H.2 h19
                refine e_iload_n dX7_goOn_218 rfl 1 rfl ?_
                refine e_bipush (v := 41) dX7_goOn_219 (by decide) ?_
                refine e_icmp_ne (tgt := 228) dX7_goOn_221 (by decide) (fun h23 => ?_) (fun h23 => ?_)
                · replace H := H.1 h23
                  refine e_iconst (v := 4) dX7_goOn_228 (by decide) ?_
                  refine fp_X7_109 rfl dX7_goOn_229 ?_
                  replace H := H _ rfl
                  generalize zup τ13 24 6 4 = σ24 at H ⊢
                  refine e_aload_n dX7_goOn_232 rfl 2 rfl ?_
                  refine e_iload_n dX7_goOn_233 rfl 1 rfl ?_
                  refine fp_X7_106 rfl dX7_goOn_234 ?_
                  replace H := H _ rfl
                  generalize zup σ24 24 7 v9 = σ25 at H ⊢
                  refine e_iconst (v := 1) dX7_goOn_237 (by decide) ?_
                  refine e_istore_n (ls' := [(2, .int 1), (1, .int v9), (0, .ref (zad g 24))]) dX7_goOn_238 rfl (by decide) rfl ?_
                  refine e_aload_n dX7_goOn_239 rfl 2 rfl ?_
                  refine e_dup dX7_goOn_240 rfl ?_
                  refine fg_X7_89 rfl dX7_goOn_241 ?_
                  refine e_iload_n dX7_goOn_244 rfl 0 rfl ?_
                  refine e_iadd dX7_goOn_245 ?_
                  refine fp_X7_89 rfl dX7_goOn_246 ?_
                  replace H := H _ rfl
                  generalize zup σ25 24 4 ((σ25.1 24 4) + 1) = σ26 at H ⊢
                  exact e_vret rfl dX7_goOn_249 H
                · replace H := H.2 h23
                  refine e_iconst (v := 3) dX7_goOn_224 (by decide) ?_
                  refine e_goto (tgt := 229) dX7_goOn_225 (by decide) ?_
                  refine fp_X7_109 rfl dX7_goOn_229 ?_
                  replace H := H _ rfl
                  generalize zup τ13 24 6 3 = σ27 at H ⊢
                  refine e_aload_n dX7_goOn_232 rfl 2 rfl ?_
                  refine e_iload_n dX7_goOn_233 rfl 1 rfl ?_
                  refine fp_X7_106 rfl dX7_goOn_234 ?_
                  replace H := H _ rfl
                  generalize zup σ27 24 7 v9 = σ28 at H ⊢
                  refine e_iconst (v := 1) dX7_goOn_237 (by decide) ?_
                  refine e_istore_n (ls' := [(2, .int 1), (1, .int v9), (0, .ref (zad g 24))]) dX7_goOn_238 rfl (by decide) rfl ?_
                  refine e_aload_n dX7_goOn_239 rfl 2 rfl ?_
                  refine e_dup dX7_goOn_240 rfl ?_
                  refine fg_X7_89 rfl dX7_goOn_241 ?_
                  refine e_iload_n dX7_goOn_244 rfl 0 rfl ?_
                  refine e_iadd dX7_goOn_245 ?_
                  refine fp_X7_89 rfl dX7_goOn_246 ?_
                  replace H := H _ rfl
                  generalize zup σ28 24 4 ((σ28.1 24 4) + 1) = σ29 at H ⊢
                  exact e_vret rfl dX7_goOn_249 H
          · replace H := H.2 h14
            refine e_ls [2, 0] rfl ?_
            exact H
        · replace H := H.2 h12
          refine e_ls [2, 0] rfl ?_
          exact H
      · replace H := H.2 h10
        refine e_aload_n dX7_goOn_63 rfl 2 rfl ?_
        refine e_iconst (v := 0) dX7_goOn_64 (by decide) ?_
        refine fp_X7_109 rfl dX7_goOn_65 ?_
        replace H := H _ rfl
        generalize zup τ9 24 6 0 = σ30 at H ⊢
        exact e_vret rfl dX7_goOn_68 H
    · replace H := H.2 h5
      refine e_aload_n dX7_goOn_20 rfl 0 rfl ?_
      refine e_dup dX7_goOn_21 rfl ?_
      refine fg_X7_89 rfl dX7_goOn_22 ?_
      refine e_iconst (v := 1) dX7_goOn_25 (by decide) ?_
      refine e_iadd dX7_goOn_26 ?_
      refine fp_X7_89 rfl dX7_goOn_27 ?_
      replace H := H _ rfl
      generalize zup τ4 24 4 ((τ4.1 24 4) + 1) = σ31 at H ⊢
      refine e_goto (tgt := 0) dX7_goOn_30 (by decide) ?_
      refine e_ls [0] rfl ?_
      exact H
set_option maxRecDepth 20000 in
set_option maxHeartbeats 2000000 in
theorem b_X7_goOn_76 {g : zG} {l : Launch} {K : zS → Prop} {X : String → zS → Prop} {y2 : Int32} {σ : zS}
    (H : CT g l M_X7_here 0 [.ref (zad g 24), .int y2] σ (zQi (fun v1 τ1 => CT g l M_X7_isLetter 0 [.int v1] τ1 (zQi (fun v2 τ2 => ((v2 = 0 → ((y2 ≤ 8 → (∀ σ5 : zS, σ5 = zup τ2 24 6 1 → (∀ σ6 : zS, σ6 = zup σ5 24 4 ((σ5.1 24 4) + y2) → K σ6))) ∧ (¬ y2 ≤ 8 → (∀ σ7 : zS, σ7 = zup τ2 24 6 4 → (∀ σ8 : zS, σ8 = zup σ7 24 4 ((σ7.1 24 4) + y2) → K σ8))))) ∧ (¬ v2 = 0 → ((8 ≤ y2 → L_X7_goOn_76 g l K X (y2 + 1) τ2) ∧ (¬ 8 ≤ y2 → CT g l M_X7_here 0 [.ref (zad g 24), .int y2] τ2 (zQi (fun v10 τ10 => (∀ σ11 : zS, σ11 = zupJ τ10 0 (((τ2.2.1 0) <<< ((Int32.toInt64 5) &&& 63)) ||| (Int32.toInt64 ((v10 - 97) + 1))) → L_X7_goOn_76 g l K X (y2 + 1) σ11)) (fun E τ => X E τ))))))) (fun E τ => X E τ))) (fun E τ => X E τ))) :
    L_X7_goOn_76 g l K X y2 σ := by
  refine e_aload_n dX7_goOn_76 rfl 0 rfl ?_
  refine e_iload_n dX7_goOn_77 rfl 1 rfl ?_
  refine e_callVi (j1 := 0) (j2 := 0) (av := [.int y2]) rfl rfl (Nat.le_of_ble_eq_true rfl) rfl rfl H i_X7_here rfl n_X7_here v_X7_here q_X7_95 (by decide) (by decide) (Nat.le_of_ble_eq_true rfl) dX7_goOn_78 (fun v1 τ1 H => ?_) (fun E τ H => H)
  refine e_callSi (j1 := 0) (j2 := 0) (av := [.int v1]) rfl H i_X7_isLetter rfl s_X7_isLetter q_X7_112 (by decide) (by decide) (Nat.le_of_ble_eq_true rfl) dX7_goOn_81 (fun v2 τ2 H => ?_) (fun E τ H => H)
  refine e_if_eq (tgt := 121) dX7_goOn_84 (by decide) (fun h3 => ?_) (fun h3 => ?_)
  · replace H := H.1 h3
    refine e_aload_n dX7_goOn_121 rfl 0 rfl ?_
    refine e_iload_n dX7_goOn_122 rfl 1 rfl ?_
    refine e_bipush (v := 8) dX7_goOn_123 (by decide) ?_
    refine e_icmp_le (tgt := 132) dX7_goOn_125 (by decide) (fun h4 => ?_) (fun h4 => ?_)
    · replace H := H.1 h4
      refine e_iconst (v := 1) dX7_goOn_132 (by decide) ?_
      refine fp_X7_109 rfl dX7_goOn_133 ?_
      replace H := H _ rfl
      generalize zup τ2 24 6 1 = σ5 at H ⊢
      refine e_goto (tgt := 239) dX7_goOn_136 (by decide) ?_
      refine e_aload_n dX7_goOn_239 rfl 0 rfl ?_
      refine e_dup dX7_goOn_240 rfl ?_
      refine fg_X7_89 rfl dX7_goOn_241 ?_
      refine e_iload_n dX7_goOn_244 rfl 1 rfl ?_
      refine e_iadd dX7_goOn_245 ?_
      refine fp_X7_89 rfl dX7_goOn_246 ?_
      replace H := H _ rfl
      generalize zup σ5 24 4 ((σ5.1 24 4) + y2) = σ6 at H ⊢
      exact e_vret rfl dX7_goOn_249 H
    · replace H := H.2 h4
      refine e_iconst (v := 4) dX7_goOn_128 (by decide) ?_
      refine e_goto (tgt := 133) dX7_goOn_129 (by decide) ?_
      refine fp_X7_109 rfl dX7_goOn_133 ?_
      replace H := H _ rfl
      generalize zup τ2 24 6 4 = σ7 at H ⊢
      refine e_goto (tgt := 239) dX7_goOn_136 (by decide) ?_
      refine e_aload_n dX7_goOn_239 rfl 0 rfl ?_
      refine e_dup dX7_goOn_240 rfl ?_
      refine fg_X7_89 rfl dX7_goOn_241 ?_
      refine e_iload_n dX7_goOn_244 rfl 1 rfl ?_
      refine e_iadd dX7_goOn_245 ?_
      refine fp_X7_89 rfl dX7_goOn_246 ?_
      replace H := H _ rfl
      generalize zup σ7 24 4 ((σ7.1 24 4) + y2) = σ8 at H ⊢
      exact e_vret rfl dX7_goOn_249 H
  · replace H := H.2 h3
    refine e_iload_n dX7_goOn_87 rfl 1 rfl ?_
    refine e_bipush (v := 8) dX7_goOn_88 (by decide) ?_
    refine e_icmp_ge (tgt := 115) dX7_goOn_90 (by decide) (fun h9 => ?_) (fun h9 => ?_)
    · replace H := H.1 h9
      refine e_iinc (j := 1) (v := (y2 + 1)) (ls' := [(2, .int (y2 + 1)), (0, .ref (zad g 24))]) dX7_goOn_115 rfl rfl (by decide) rfl ?_
      refine e_goto (tgt := 76) dX7_goOn_118 (by decide) ?_
      refine e_ls [1, 0] rfl ?_
      exact H
    · replace H := H.2 h9
      refine e_aload_n dX7_goOn_93 rfl 0 rfl ?_
      refine e_aload_n dX7_goOn_94 rfl 0 rfl ?_
      refine fg_X7_102 rfl dX7_goOn_95 ?_
      refine e_iconst (v := 5) dX7_goOn_98 (by decide) ?_
      refine e_lshl (v := (τ2.2.1 0) <<< ((Int32.toInt64 5) &&& 63)) dX7_goOn_99 rfl ?_
      refine e_aload_n dX7_goOn_100 rfl 0 rfl ?_
      refine e_iload_n dX7_goOn_101 rfl 1 rfl ?_
      refine e_callVi (j1 := 0) (j2 := 0) (av := [.int y2]) rfl rfl (Nat.le_of_ble_eq_true rfl) rfl rfl H i_X7_here rfl n_X7_here v_X7_here q_X7_95 (by decide) (by decide) (Nat.le_of_ble_eq_true rfl) dX7_goOn_102 (fun v10 τ10 H => ?_) (fun E τ H => H)
      refine e_bipush (v := 97) dX7_goOn_105 (by decide) ?_
      refine e_isub dX7_goOn_107 ?_
      refine e_iconst (v := 1) dX7_goOn_108 (by decide) ?_
      refine e_iadd dX7_goOn_109 ?_
      refine e_i2l (v := Int32.toInt64 ((v10 - 97) + 1)) dX7_goOn_110 rfl ?_
      refine e_lor dX7_goOn_111 ?_
      refine fpJ_X7_102 rfl dX7_goOn_112 ?_
      replace H := H _ rfl
      generalize zupJ τ10 0 (((τ2.2.1 0) <<< ((Int32.toInt64 5) &&& 63)) ||| (Int32.toInt64 ((v10 - 97) + 1))) = σ11 at H ⊢
      refine e_iinc (j := 1) (v := (y2 + 1)) (ls' := [(2, .int (y2 + 1)), (0, .ref (zad g 24))]) dX7_goOn_115 rfl rfl (by decide) rfl ?_
      refine e_goto (tgt := 76) dX7_goOn_118 (by decide) ?_
      refine e_ls [1, 0] rfl ?_
      exact H
set_option maxRecDepth 20000 in
set_option maxHeartbeats 2000000 in
theorem b_X7_goOn_146 {g : zG} {l : Launch} {K : zS → Prop} {X : String → zS → Prop} {y2 : Int32} {σ : zS}
    (H : CT g l M_X7_here 0 [.ref (zad g 24), .int y2] σ (zQi (fun v1 τ1 => CT g l M_X7_isDigit 0 [.int v1] τ1 (zQi (fun v2 τ2 => ((v2 = 0 → ((y2 ≤ 3 → (∀ σ5 : zS, σ5 = zup τ2 24 6 2 → (∀ σ6 : zS, σ6 = zup σ5 24 4 ((σ5.1 24 4) + y2) → K σ6))) ∧ (¬ y2 ≤ 3 → (∀ σ7 : zS, σ7 = zup τ2 24 6 4 → (∀ σ8 : zS, σ8 = zup σ7 24 4 ((σ7.1 24 4) + y2) → K σ8))))) ∧ (¬ v2 = 0 → ((3 ≤ y2 → L_X7_goOn_146 g l K X (y2 + 1) τ2) ∧ (¬ 3 ≤ y2 → CT g l M_X7_here 0 [.ref (zad g 24), .int y2] τ2 (zQi (fun v10 τ10 => (∀ σ11 : zS, σ11 = zup τ10 24 7 (((10 * (τ2.1 24 7)) + v10) - 48) → L_X7_goOn_146 g l K X (y2 + 1) σ11)) (fun E τ => X E τ))))))) (fun E τ => X E τ))) (fun E τ => X E τ))) :
    L_X7_goOn_146 g l K X y2 σ := by
  refine e_aload_n dX7_goOn_146 rfl 0 rfl ?_
  refine e_iload_n dX7_goOn_147 rfl 1 rfl ?_
  refine e_callVi (j1 := 0) (j2 := 0) (av := [.int y2]) rfl rfl (Nat.le_of_ble_eq_true rfl) rfl rfl H i_X7_here rfl n_X7_here v_X7_here q_X7_95 (by decide) (by decide) (Nat.le_of_ble_eq_true rfl) dX7_goOn_148 (fun v1 τ1 H => ?_) (fun E τ H => H)
  refine e_callSi (j1 := 0) (j2 := 0) (av := [.int v1]) rfl H i_X7_isDigit rfl s_X7_isDigit q_X7_116 (by decide) (by decide) (Nat.le_of_ble_eq_true rfl) dX7_goOn_151 (fun v2 τ2 H => ?_) (fun E τ H => H)
  refine e_if_eq (tgt := 188) dX7_goOn_154 (by decide) (fun h3 => ?_) (fun h3 => ?_)
  · replace H := H.1 h3
    refine e_aload_n dX7_goOn_188 rfl 0 rfl ?_
    refine e_iload_n dX7_goOn_189 rfl 1 rfl ?_
    refine e_iconst (v := 3) dX7_goOn_190 (by decide) ?_
    refine e_icmp_le (tgt := 198) dX7_goOn_191 (by decide) (fun h4 => ?_) (fun h4 => ?_)
    · replace H := H.1 h4
      refine e_iconst (v := 2) dX7_goOn_198 (by decide) ?_
      refine fp_X7_109 rfl dX7_goOn_199 ?_
      replace H := H _ rfl
      generalize zup τ2 24 6 2 = σ5 at H ⊢
      refine e_goto (tgt := 239) dX7_goOn_202 (by decide) ?_
      refine e_aload_n dX7_goOn_239 rfl 0 rfl ?_
      refine e_dup dX7_goOn_240 rfl ?_
      refine fg_X7_89 rfl dX7_goOn_241 ?_
      refine e_iload_n dX7_goOn_244 rfl 1 rfl ?_
      refine e_iadd dX7_goOn_245 ?_
      refine fp_X7_89 rfl dX7_goOn_246 ?_
      replace H := H _ rfl
      generalize zup σ5 24 4 ((σ5.1 24 4) + y2) = σ6 at H ⊢
      exact e_vret rfl dX7_goOn_249 H
    · replace H := H.2 h4
      refine e_iconst (v := 4) dX7_goOn_194 (by decide) ?_
      refine e_goto (tgt := 199) dX7_goOn_195 (by decide) ?_
      refine fp_X7_109 rfl dX7_goOn_199 ?_
      replace H := H _ rfl
      generalize zup τ2 24 6 4 = σ7 at H ⊢
      refine e_goto (tgt := 239) dX7_goOn_202 (by decide) ?_
      refine e_aload_n dX7_goOn_239 rfl 0 rfl ?_
      refine e_dup dX7_goOn_240 rfl ?_
      refine fg_X7_89 rfl dX7_goOn_241 ?_
      refine e_iload_n dX7_goOn_244 rfl 1 rfl ?_
      refine e_iadd dX7_goOn_245 ?_
      refine fp_X7_89 rfl dX7_goOn_246 ?_
      replace H := H _ rfl
      generalize zup σ7 24 4 ((σ7.1 24 4) + y2) = σ8 at H ⊢
      exact e_vret rfl dX7_goOn_249 H
  · replace H := H.2 h3
    refine e_iload_n dX7_goOn_157 rfl 1 rfl ?_
    refine e_iconst (v := 3) dX7_goOn_158 (by decide) ?_
    refine e_icmp_ge (tgt := 182) dX7_goOn_159 (by decide) (fun h9 => ?_) (fun h9 => ?_)
    · replace H := H.1 h9
      refine e_iinc (j := 1) (v := (y2 + 1)) (ls' := [(2, .int (y2 + 1)), (0, .ref (zad g 24))]) dX7_goOn_182 rfl rfl (by decide) rfl ?_
      refine e_goto (tgt := 146) dX7_goOn_185 (by decide) ?_
      refine e_ls [1, 0] rfl ?_
      exact H
    · replace H := H.2 h9
      refine e_aload_n dX7_goOn_162 rfl 0 rfl ?_
      refine e_bipush (v := 10) dX7_goOn_163 (by decide) ?_
      refine e_aload_n dX7_goOn_165 rfl 0 rfl ?_
      refine fg_X7_106 rfl dX7_goOn_166 ?_
      refine e_imul dX7_goOn_169 ?_
      refine e_aload_n dX7_goOn_170 rfl 0 rfl ?_
      refine e_iload_n dX7_goOn_171 rfl 1 rfl ?_
      refine e_callVi (j1 := 0) (j2 := 0) (av := [.int y2]) rfl rfl (Nat.le_of_ble_eq_true rfl) rfl rfl H i_X7_here rfl n_X7_here v_X7_here q_X7_95 (by decide) (by decide) (Nat.le_of_ble_eq_true rfl) dX7_goOn_172 (fun v10 τ10 H => ?_) (fun E τ H => H)
      refine e_iadd dX7_goOn_175 ?_
      refine e_bipush (v := 48) dX7_goOn_176 (by decide) ?_
      refine e_isub dX7_goOn_178 ?_
      refine fp_X7_106 rfl dX7_goOn_179 ?_
      replace H := H _ rfl
      generalize zup τ10 24 7 (((10 * (τ2.1 24 7)) + v10) - 48) = σ11 at H ⊢
      refine e_iinc (j := 1) (v := (y2 + 1)) (ls' := [(2, .int (y2 + 1)), (0, .ref (zad g 24))]) dX7_goOn_182 rfl rfl (by decide) rfl ?_
      refine e_goto (tgt := 146) dX7_goOn_185 (by decide) ?_
      refine e_ls [1, 0] rfl ?_
      exact H
set_option maxRecDepth 20000 in
set_option maxHeartbeats 2000000 in
theorem b_X7_wrong {g : zG} {l : Launch} {K : zS → Prop} {X : String → zS → Prop} {x1 : Int32} {σ : zS}
    (H : (((σ.1 24 8) ≤ 0 → ((¬ (σ.1 24 6) = 4 → (∀ σ3 : zS, σ3 = zup σ 24 8 x1 → (∀ σ4 : zS, σ4 = zup σ3 24 9 (σ3.1 24 5) → K σ4))) ∧ ((σ.1 24 6) = 4 → (∀ σ5 : zS, σ5 = zup σ 24 8 1 → (∀ σ6 : zS, σ6 = zup σ5 24 9 (σ5.1 24 5) → K σ6))))) ∧ (¬ (σ.1 24 8) ≤ 0 → K σ))) :
    CT g l M_X7_wrong 0 [.ref (zad g 24), .int x1] σ (zQv K X) := by
  refine CT_of rfl (by decide) (Nat.le_of_ble_eq_true rfl) ?_
  change EV _ _ _ _ _ 0 [(0, .ref (zad g 24)), (1, .int x1)] [] _
  refine e_aload_n dX7_wrong_0 rfl 0 rfl ?_
  refine fg_X7_119 rfl dX7_wrong_1 ?_
  refine e_if_le (tgt := 8) dX7_wrong_4 (by decide) (fun h1 => ?_) (fun h1 => ?_)
  · replace H := H.1 h1
    refine e_aload_n dX7_wrong_8 rfl 0 rfl ?_
    refine e_aload_n dX7_wrong_9 rfl 0 rfl ?_
    refine fg_X7_109 rfl dX7_wrong_10 ?_
    refine e_iconst (v := 4) dX7_wrong_13 (by decide) ?_
    refine e_icmp_ne (tgt := 21) dX7_wrong_14 (by decide) (fun h2 => ?_) (fun h2 => ?_)
    · replace H := H.1 h2
      refine e_iload_n dX7_wrong_21 rfl 1 rfl ?_
      refine fp_X7_119 rfl dX7_wrong_22 ?_
      replace H := H _ rfl
      generalize zup σ 24 8 x1 = σ3 at H ⊢
      refine e_aload_n dX7_wrong_25 rfl 0 rfl ?_
      refine e_aload_n dX7_wrong_26 rfl 0 rfl ?_
      refine fg_X7_99 rfl dX7_wrong_27 ?_
      refine fp_X7_13 rfl dX7_wrong_30 ?_
      replace H := H _ rfl
      generalize zup σ3 24 9 (σ3.1 24 5) = σ4 at H ⊢
      exact e_vret rfl dX7_wrong_33 H
    · replace H := H.2 h2
      refine e_iconst (v := 1) dX7_wrong_17 (by decide) ?_
      refine e_goto (tgt := 22) dX7_wrong_18 (by decide) ?_
      refine fp_X7_119 rfl dX7_wrong_22 ?_
      replace H := H _ rfl
      generalize zup σ 24 8 1 = σ5 at H ⊢
      refine e_aload_n dX7_wrong_25 rfl 0 rfl ?_
      refine e_aload_n dX7_wrong_26 rfl 0 rfl ?_
      refine fg_X7_99 rfl dX7_wrong_27 ?_
      refine fp_X7_13 rfl dX7_wrong_30 ?_
      replace H := H _ rfl
      generalize zup σ5 24 9 (σ5.1 24 5) = σ6 at H ⊢
      exact e_vret rfl dX7_wrong_33 H
  · replace H := H.2 h1
    exact e_vret rfl dX7_wrong_7 H
set_option maxRecDepth 20000 in
set_option maxHeartbeats 2000000 in
theorem b_X7_isGood {g : zG} {l : Launch} {K : Int32 → zS → Prop} {X : String → zS → Prop} {σ : zS}
    (H : ((¬ (σ.1 24 8) = 0 → K 0 σ) ∧ ((σ.1 24 8) = 0 → K 1 σ))) :
    CT g l M_X7_isGood 0 [.ref (zad g 24)] σ (zQi K X) := by
  refine CT_of rfl (by decide) (Nat.le_of_ble_eq_true rfl) ?_
  change EV _ _ _ _ _ 0 [(0, .ref (zad g 24))] [] _
  refine e_aload_n dX7_isGood_0 rfl 0 rfl ?_
  refine fg_X7_119 rfl dX7_isGood_1 ?_
  refine e_if_ne (tgt := 11) dX7_isGood_4 (by decide) (fun h1 => ?_) (fun h1 => ?_)
  · replace H := H.1 h1
    refine e_iconst (v := 0) dX7_isGood_11 (by decide) ?_
    exact e_zret rfl rfl dX7_isGood_12 H
  · replace H := H.2 h1
    refine e_iconst (v := 1) dX7_isGood_7 (by decide) ?_
    refine e_goto (tgt := 12) dX7_isGood_8 (by decide) ?_
    exact e_zret rfl rfl dX7_isGood_12 H
set_option maxRecDepth 20000 in
set_option maxHeartbeats 2000000 in
theorem b_X7_isWord {g : zG} {l : Launch} {K : Int32 → zS → Prop} {X : String → zS → Prop} {x1 : Int64} {σ : zS}
    (H : ((¬ (σ.1 24 8) = 0 → K 0 σ) ∧ ((σ.1 24 8) = 0 → ((¬ (σ.1 24 6) = 1 → K 0 σ) ∧ ((σ.1 24 6) = 1 → ((¬ (lg_cmp (σ.2.1 0) x1) = 0 → K 0 σ) ∧ ((lg_cmp (σ.2.1 0) x1) = 0 → K 1 σ))))))) :
    CT g l M_X7_isWord 0 [.ref (zad g 24), .long x1] σ (zQi K X) := by
  refine CT_of rfl (by decide) (Nat.le_of_ble_eq_true rfl) ?_
  change EV _ _ _ _ _ 0 [(0, .ref (zad g 24)), (1, .long x1)] [] _
  refine e_aload_n dX7_isWord_0 rfl 0 rfl ?_
  refine fg_X7_119 rfl dX7_isWord_1 ?_
  refine e_if_ne (tgt := 28) dX7_isWord_4 (by decide) (fun h1 => ?_) (fun h1 => ?_)
  · replace H := H.1 h1
    refine e_iconst (v := 0) dX7_isWord_28 (by decide) ?_
    exact e_zret rfl rfl dX7_isWord_29 H
  · replace H := H.2 h1
    refine e_aload_n dX7_isWord_7 rfl 0 rfl ?_
    refine fg_X7_109 rfl dX7_isWord_8 ?_
    refine e_iconst (v := 1) dX7_isWord_11 (by decide) ?_
    refine e_icmp_ne (tgt := 28) dX7_isWord_12 (by decide) (fun h2 => ?_) (fun h2 => ?_)
    · replace H := H.1 h2
      refine e_iconst (v := 0) dX7_isWord_28 (by decide) ?_
      exact e_zret rfl rfl dX7_isWord_29 H
    · replace H := H.2 h2
      refine e_aload_n dX7_isWord_15 rfl 0 rfl ?_
      refine fg_X7_102 rfl dX7_isWord_16 ?_
      refine e_lload_n dX7_isWord_19 rfl 1 rfl ?_
      refine e_lcmp dX7_isWord_20 ?_
      refine e_if_ne (tgt := 28) dX7_isWord_21 (by decide) (fun h3 => ?_) (fun h3 => ?_)
      · replace H := H.1 h3
        refine e_iconst (v := 0) dX7_isWord_28 (by decide) ?_
        exact e_zret rfl rfl dX7_isWord_29 H
      · replace H := H.2 h3
        refine e_iconst (v := 1) dX7_isWord_24 (by decide) ?_
        refine e_goto (tgt := 29) dX7_isWord_25 (by decide) ?_
        exact e_zret rfl rfl dX7_isWord_29 H
set_option maxRecDepth 20000 in
set_option maxHeartbeats 2000000 in
theorem b_X7_isSign {g : zG} {l : Launch} {K : Int32 → zS → Prop} {X : String → zS → Prop} {x1 : Int32} {σ : zS}
    (H : ((¬ (σ.1 24 8) = 0 → K 0 σ) ∧ ((σ.1 24 8) = 0 → ((¬ (σ.1 24 6) = 3 → K 0 σ) ∧ ((σ.1 24 6) = 3 → ((¬ (σ.1 24 7) = x1 → K 0 σ) ∧ ((σ.1 24 7) = x1 → K 1 σ))))))) :
    CT g l M_X7_isSign 0 [.ref (zad g 24), .int x1] σ (zQi K X) := by
  refine CT_of rfl (by decide) (Nat.le_of_ble_eq_true rfl) ?_
  change EV _ _ _ _ _ 0 [(0, .ref (zad g 24)), (1, .int x1)] [] _
  refine e_aload_n dX7_isSign_0 rfl 0 rfl ?_
  refine fg_X7_119 rfl dX7_isSign_1 ?_
  refine e_if_ne (tgt := 27) dX7_isSign_4 (by decide) (fun h1 => ?_) (fun h1 => ?_)
  · replace H := H.1 h1
    refine e_iconst (v := 0) dX7_isSign_27 (by decide) ?_
    exact e_zret rfl rfl dX7_isSign_28 H
  · replace H := H.2 h1
    refine e_aload_n dX7_isSign_7 rfl 0 rfl ?_
    refine fg_X7_109 rfl dX7_isSign_8 ?_
    refine e_iconst (v := 3) dX7_isSign_11 (by decide) ?_
    refine e_icmp_ne (tgt := 27) dX7_isSign_12 (by decide) (fun h2 => ?_) (fun h2 => ?_)
    · replace H := H.1 h2
      refine e_iconst (v := 0) dX7_isSign_27 (by decide) ?_
      exact e_zret rfl rfl dX7_isSign_28 H
    · replace H := H.2 h2
      refine e_aload_n dX7_isSign_15 rfl 0 rfl ?_
      refine fg_X7_106 rfl dX7_isSign_16 ?_
      refine e_iload_n dX7_isSign_19 rfl 1 rfl ?_
      refine e_icmp_ne (tgt := 27) dX7_isSign_20 (by decide) (fun h3 => ?_) (fun h3 => ?_)
      · replace H := H.1 h3
        refine e_iconst (v := 0) dX7_isSign_27 (by decide) ?_
        exact e_zret rfl rfl dX7_isSign_28 H
      · replace H := H.2 h3
        refine e_iconst (v := 1) dX7_isSign_23 (by decide) ?_
        refine e_goto (tgt := 28) dX7_isSign_24 (by decide) ?_
        exact e_zret rfl rfl dX7_isSign_28 H
set_option maxRecDepth 20000 in
set_option maxHeartbeats 2000000 in
theorem b_X7_mustSign {g : zG} {l : Launch} {K : zS → Prop} {X : String → zS → Prop} {x1 : Int32} {σ : zS}
    (H : CT g l M_X7_isGood 0 [.ref (zad g 24)] σ (zQi (fun v1 τ1 => ((v1 = 0 → CT g l M_X7_isGood 0 [.ref (zad g 24)] τ1 (zQi (fun v3 τ3 => ((v3 = 0 → K τ3) ∧ (¬ v3 = 0 → CT g l M_X7_goOn 0 [.ref (zad g 24)] τ3 (zQv (fun τ5 => K τ5) (fun E τ => X E τ))))) (fun E τ => X E τ))) ∧ (¬ v1 = 0 → CT g l M_X7_isSign 0 [.ref (zad g 24), .int x1] τ1 (zQi (fun v6 τ6 => ((¬ v6 = 0 → CT g l M_X7_isGood 0 [.ref (zad g 24)] τ6 (zQi (fun v8 τ8 => ((v8 = 0 → K τ8) ∧ (¬ v8 = 0 → CT g l M_X7_goOn 0 [.ref (zad g 24)] τ8 (zQv (fun τ10 => K τ10) (fun E τ => X E τ))))) (fun E τ => X E τ))) ∧ (v6 = 0 → CT g l M_X7_wrong 0 [.ref (zad g 24), .int 1] τ6 (zQv (fun τ11 => CT g l M_X7_isGood 0 [.ref (zad g 24)] τ11 (zQi (fun v12 τ12 => ((v12 = 0 → K τ12) ∧ (¬ v12 = 0 → CT g l M_X7_goOn 0 [.ref (zad g 24)] τ12 (zQv (fun τ14 => K τ14) (fun E τ => X E τ))))) (fun E τ => X E τ))) (fun E τ => X E τ))))) (fun E τ => X E τ))))) (fun E τ => X E τ))) :
    CT g l M_X7_mustSign 0 [.ref (zad g 24), .int x1] σ (zQv K X) := by
  refine CT_of rfl (by decide) (Nat.le_of_ble_eq_true rfl) ?_
  change EV _ _ _ _ _ 0 [(0, .ref (zad g 24)), (1, .int x1)] [] _
  refine e_aload_n dX7_mustSign_0 rfl 0 rfl ?_
  refine e_callVi (j1 := 0) (j2 := 0) (av := []) rfl rfl (Nat.le_of_ble_eq_true rfl) rfl rfl H i_X7_isGood rfl n_X7_isGood v_X7_isGood q_X7_122 (by decide) (by decide) (Nat.le_of_ble_eq_true rfl) dX7_mustSign_1 (fun v1 τ1 H => ?_) (fun E τ H => H)
  refine e_if_eq (tgt := 20) dX7_mustSign_4 (by decide) (fun h2 => ?_) (fun h2 => ?_)
  · replace H := H.1 h2
    refine e_aload_n dX7_mustSign_20 rfl 0 rfl ?_
    refine e_callVi (j1 := 0) (j2 := 0) (av := []) rfl rfl (Nat.le_of_ble_eq_true rfl) rfl rfl H i_X7_isGood rfl n_X7_isGood v_X7_isGood q_X7_122 (by decide) (by decide) (Nat.le_of_ble_eq_true rfl) dX7_mustSign_21 (fun v3 τ3 H => ?_) (fun E τ H => H)
    refine e_if_eq (tgt := 31) dX7_mustSign_24 (by decide) (fun h4 => ?_) (fun h4 => ?_)
    · replace H := H.1 h4
      exact e_vret rfl dX7_mustSign_31 H
    · replace H := H.2 h4
      refine e_aload_n dX7_mustSign_27 rfl 0 rfl ?_
      refine e_callVv (j1 := 0) (j2 := 0) (av := []) rfl rfl (Nat.le_of_ble_eq_true rfl) rfl rfl H i_X7_goOn rfl n_X7_goOn v_X7_goOn q_X7_132 (by decide) (by decide) (Nat.le_of_ble_eq_true rfl) dX7_mustSign_28 (fun τ5 H => ?_) (fun E τ H => H)
      exact e_vret rfl dX7_mustSign_31 H
  · replace H := H.2 h2
    refine e_aload_n dX7_mustSign_7 rfl 0 rfl ?_
    refine e_iload_n dX7_mustSign_8 rfl 1 rfl ?_
    refine e_callVi (j1 := 0) (j2 := 0) (av := [.int x1]) rfl rfl (Nat.le_of_ble_eq_true rfl) rfl rfl H i_X7_isSign rfl n_X7_isSign v_X7_isSign q_X7_126 (by decide) (by decide) (Nat.le_of_ble_eq_true rfl) dX7_mustSign_9 (fun v6 τ6 H => ?_) (fun E τ H => H)
    refine e_if_ne (tgt := 20) dX7_mustSign_12 (by decide) (fun h7 => ?_) (fun h7 => ?_)
    · replace H := H.1 h7
      refine e_aload_n dX7_mustSign_20 rfl 0 rfl ?_
      refine e_callVi (j1 := 0) (j2 := 0) (av := []) rfl rfl (Nat.le_of_ble_eq_true rfl) rfl rfl H i_X7_isGood rfl n_X7_isGood v_X7_isGood q_X7_122 (by decide) (by decide) (Nat.le_of_ble_eq_true rfl) dX7_mustSign_21 (fun v8 τ8 H => ?_) (fun E τ H => H)
      refine e_if_eq (tgt := 31) dX7_mustSign_24 (by decide) (fun h9 => ?_) (fun h9 => ?_)
      · replace H := H.1 h9
        exact e_vret rfl dX7_mustSign_31 H
      · replace H := H.2 h9
        refine e_aload_n dX7_mustSign_27 rfl 0 rfl ?_
        refine e_callVv (j1 := 0) (j2 := 0) (av := []) rfl rfl (Nat.le_of_ble_eq_true rfl) rfl rfl H i_X7_goOn rfl n_X7_goOn v_X7_goOn q_X7_132 (by decide) (by decide) (Nat.le_of_ble_eq_true rfl) dX7_mustSign_28 (fun τ10 H => ?_) (fun E τ H => H)
        exact e_vret rfl dX7_mustSign_31 H
    · replace H := H.2 h7
      refine e_aload_n dX7_mustSign_15 rfl 0 rfl ?_
      refine e_iconst (v := 1) dX7_mustSign_16 (by decide) ?_
      refine e_callVv (j1 := 0) (j2 := 0) (av := [.int 1]) rfl rfl (Nat.le_of_ble_eq_true rfl) rfl rfl H i_X7_wrong rfl n_X7_wrong v_X7_wrong q_X7_129 (by decide) (by decide) (Nat.le_of_ble_eq_true rfl) dX7_mustSign_17 (fun τ11 H => ?_) (fun E τ H => H)
      refine e_aload_n dX7_mustSign_20 rfl 0 rfl ?_
      refine e_callVi (j1 := 0) (j2 := 0) (av := []) rfl rfl (Nat.le_of_ble_eq_true rfl) rfl rfl H i_X7_isGood rfl n_X7_isGood v_X7_isGood q_X7_122 (by decide) (by decide) (Nat.le_of_ble_eq_true rfl) dX7_mustSign_21 (fun v12 τ12 H => ?_) (fun E τ H => H)
      refine e_if_eq (tgt := 31) dX7_mustSign_24 (by decide) (fun h13 => ?_) (fun h13 => ?_)
      · replace H := H.1 h13
        exact e_vret rfl dX7_mustSign_31 H
      · replace H := H.2 h13
        refine e_aload_n dX7_mustSign_27 rfl 0 rfl ?_
        refine e_callVv (j1 := 0) (j2 := 0) (av := []) rfl rfl (Nat.le_of_ble_eq_true rfl) rfl rfl H i_X7_goOn rfl n_X7_goOn v_X7_goOn q_X7_132 (by decide) (by decide) (Nat.le_of_ble_eq_true rfl) dX7_mustSign_28 (fun τ14 H => ?_) (fun E τ H => H)
        exact e_vret rfl dX7_mustSign_31 H
set_option maxRecDepth 20000 in
set_option maxHeartbeats 2000000 in
theorem b_X7_looks {g : zG} {l : Launch} {K : Int32 → zS → Prop} {X : String → zS → Prop} {x1 : Int32} {x2 : Int32} {σ : zS}
    (H : CT g l M_X7_isGood 0 [.ref (zad g 24)] σ (zQi (fun v1 τ1 => ((v1 = 0 → CT g l M_X7_isGood 0 [.ref (zad g 24)] τ1 (zQi (fun v3 τ3 => ((v3 = 0 → K (τ3.1 24 7) τ3) ∧ (¬ v3 = 0 → CT g l M_X7_isIn 0 [.long (Int32.toInt64 (τ3.1 24 7)), .long (Int32.toInt64 x1), .long (Int32.toInt64 x2)] τ3 (zQi (fun v5 τ5 => ((¬ v5 = 0 → K (τ5.1 24 7) τ5) ∧ (v5 = 0 → CT g l M_X7_wrong 0 [.ref (zad g 24), .int 2] τ5 (zQv (fun τ7 => K (τ7.1 24 7) τ7) (fun E τ => X E τ))))) (fun E τ => X E τ))))) (fun E τ => X E τ))) ∧ (¬ v1 = 0 → (((τ1.1 24 6) = 2 → CT g l M_X7_isGood 0 [.ref (zad g 24)] τ1 (zQi (fun v9 τ9 => ((v9 = 0 → K (τ9.1 24 7) τ9) ∧ (¬ v9 = 0 → CT g l M_X7_isIn 0 [.long (Int32.toInt64 (τ9.1 24 7)), .long (Int32.toInt64 x1), .long (Int32.toInt64 x2)] τ9 (zQi (fun v11 τ11 => ((¬ v11 = 0 → K (τ11.1 24 7) τ11) ∧ (v11 = 0 → CT g l M_X7_wrong 0 [.ref (zad g 24), .int 2] τ11 (zQv (fun τ13 => K (τ13.1 24 7) τ13) (fun E τ => X E τ))))) (fun E τ => X E τ))))) (fun E τ => X E τ))) ∧ (¬ (τ1.1 24 6) = 2 → CT g l M_X7_wrong 0 [.ref (zad g 24), .int 1] τ1 (zQv (fun τ14 => CT g l M_X7_isGood 0 [.ref (zad g 24)] τ14 (zQi (fun v15 τ15 => ((v15 = 0 → K (τ15.1 24 7) τ15) ∧ (¬ v15 = 0 → CT g l M_X7_isIn 0 [.long (Int32.toInt64 (τ15.1 24 7)), .long (Int32.toInt64 x1), .long (Int32.toInt64 x2)] τ15 (zQi (fun v17 τ17 => ((¬ v17 = 0 → K (τ17.1 24 7) τ17) ∧ (v17 = 0 → CT g l M_X7_wrong 0 [.ref (zad g 24), .int 2] τ17 (zQv (fun τ19 => K (τ19.1 24 7) τ19) (fun E τ => X E τ))))) (fun E τ => X E τ))))) (fun E τ => X E τ))) (fun E τ => X E τ))))))) (fun E τ => X E τ))) :
    CT g l M_X7_looks 0 [.ref (zad g 24), .int x1, .int x2] σ (zQi K X) := by
  refine CT_of rfl (by decide) (Nat.le_of_ble_eq_true rfl) ?_
  change EV _ _ _ _ _ 0 [(0, .ref (zad g 24)), (1, .int x1), (2, .int x2)] [] _
  refine e_aload_n dX7_looks_0 rfl 0 rfl ?_
  refine e_callVi (j1 := 0) (j2 := 0) (av := []) rfl rfl (Nat.le_of_ble_eq_true rfl) rfl rfl H i_X7_isGood rfl n_X7_isGood v_X7_isGood q_X7_122 (by decide) (by decide) (Nat.le_of_ble_eq_true rfl) dX7_looks_1 (fun v1 τ1 H => ?_) (fun E τ H => H)
  refine e_if_eq (tgt := 20) dX7_looks_4 (by decide) (fun h2 => ?_) (fun h2 => ?_)
  · replace H := H.1 h2
    refine e_aload_n dX7_looks_20 rfl 0 rfl ?_
    refine e_callVi (j1 := 0) (j2 := 0) (av := []) rfl rfl (Nat.le_of_ble_eq_true rfl) rfl rfl H i_X7_isGood rfl n_X7_isGood v_X7_isGood q_X7_122 (by decide) (by decide) (Nat.le_of_ble_eq_true rfl) dX7_looks_21 (fun v3 τ3 H => ?_) (fun E τ H => H)
    refine e_if_eq (tgt := 47) dX7_looks_24 (by decide) (fun h4 => ?_) (fun h4 => ?_)
    · replace H := H.1 h4
      refine e_aload_n dX7_looks_47 rfl 0 rfl ?_
      refine fg_X7_106 rfl dX7_looks_48 ?_
      exact e_iret rfl dX7_looks_51 H
    · replace H := H.2 h4
      refine e_aload_n dX7_looks_27 rfl 0 rfl ?_
      refine fg_X7_106 rfl dX7_looks_28 ?_
      refine e_i2l (v := Int32.toInt64 (τ3.1 24 7)) dX7_looks_31 rfl ?_
      refine e_iload_n dX7_looks_32 rfl 1 rfl ?_
      refine e_i2l (v := Int32.toInt64 x1) dX7_looks_33 rfl ?_
      refine e_iload_n dX7_looks_34 rfl 2 rfl ?_
      refine e_i2l (v := Int32.toInt64 x2) dX7_looks_35 rfl ?_
      refine e_callSi (j1 := 0) (j2 := 0) (av := [.long (Int32.toInt64 (τ3.1 24 7)), .long (Int32.toInt64 x1), .long (Int32.toInt64 x2)]) rfl H i_X7_isIn rfl s_X7_isIn q_X7_85 (by decide) (by decide) (Nat.le_of_ble_eq_true rfl) dX7_looks_36 (fun v5 τ5 H => ?_) (fun E τ H => H)
      refine e_if_ne (tgt := 47) dX7_looks_39 (by decide) (fun h6 => ?_) (fun h6 => ?_)
      · replace H := H.1 h6
        refine e_aload_n dX7_looks_47 rfl 0 rfl ?_
        refine fg_X7_106 rfl dX7_looks_48 ?_
        exact e_iret rfl dX7_looks_51 H
      · replace H := H.2 h6
        refine e_aload_n dX7_looks_42 rfl 0 rfl ?_
        refine e_iconst (v := 2) dX7_looks_43 (by decide) ?_
        refine e_callVv (j1 := 0) (j2 := 0) (av := [.int 2]) rfl rfl (Nat.le_of_ble_eq_true rfl) rfl rfl H i_X7_wrong rfl n_X7_wrong v_X7_wrong q_X7_129 (by decide) (by decide) (Nat.le_of_ble_eq_true rfl) dX7_looks_44 (fun τ7 H => ?_) (fun E τ H => H)
        refine e_aload_n dX7_looks_47 rfl 0 rfl ?_
        refine fg_X7_106 rfl dX7_looks_48 ?_
        exact e_iret rfl dX7_looks_51 H
  · replace H := H.2 h2
    refine e_aload_n dX7_looks_7 rfl 0 rfl ?_
    refine fg_X7_109 rfl dX7_looks_8 ?_
    refine e_iconst (v := 2) dX7_looks_11 (by decide) ?_
    refine e_icmp_eq (tgt := 20) dX7_looks_12 (by decide) (fun h8 => ?_) (fun h8 => ?_)
    · replace H := H.1 h8
      refine e_aload_n dX7_looks_20 rfl 0 rfl ?_
      refine e_callVi (j1 := 0) (j2 := 0) (av := []) rfl rfl (Nat.le_of_ble_eq_true rfl) rfl rfl H i_X7_isGood rfl n_X7_isGood v_X7_isGood q_X7_122 (by decide) (by decide) (Nat.le_of_ble_eq_true rfl) dX7_looks_21 (fun v9 τ9 H => ?_) (fun E τ H => H)
      refine e_if_eq (tgt := 47) dX7_looks_24 (by decide) (fun h10 => ?_) (fun h10 => ?_)
      · replace H := H.1 h10
        refine e_aload_n dX7_looks_47 rfl 0 rfl ?_
        refine fg_X7_106 rfl dX7_looks_48 ?_
        exact e_iret rfl dX7_looks_51 H
      · replace H := H.2 h10
        refine e_aload_n dX7_looks_27 rfl 0 rfl ?_
        refine fg_X7_106 rfl dX7_looks_28 ?_
        refine e_i2l (v := Int32.toInt64 (τ9.1 24 7)) dX7_looks_31 rfl ?_
        refine e_iload_n dX7_looks_32 rfl 1 rfl ?_
        refine e_i2l (v := Int32.toInt64 x1) dX7_looks_33 rfl ?_
        refine e_iload_n dX7_looks_34 rfl 2 rfl ?_
        refine e_i2l (v := Int32.toInt64 x2) dX7_looks_35 rfl ?_
        refine e_callSi (j1 := 0) (j2 := 0) (av := [.long (Int32.toInt64 (τ9.1 24 7)), .long (Int32.toInt64 x1), .long (Int32.toInt64 x2)]) rfl H i_X7_isIn rfl s_X7_isIn q_X7_85 (by decide) (by decide) (Nat.le_of_ble_eq_true rfl) dX7_looks_36 (fun v11 τ11 H => ?_) (fun E τ H => H)
        refine e_if_ne (tgt := 47) dX7_looks_39 (by decide) (fun h12 => ?_) (fun h12 => ?_)
        · replace H := H.1 h12
          refine e_aload_n dX7_looks_47 rfl 0 rfl ?_
          refine fg_X7_106 rfl dX7_looks_48 ?_
          exact e_iret rfl dX7_looks_51 H
        · replace H := H.2 h12
          refine e_aload_n dX7_looks_42 rfl 0 rfl ?_
          refine e_iconst (v := 2) dX7_looks_43 (by decide) ?_
          refine e_callVv (j1 := 0) (j2 := 0) (av := [.int 2]) rfl rfl (Nat.le_of_ble_eq_true rfl) rfl rfl H i_X7_wrong rfl n_X7_wrong v_X7_wrong q_X7_129 (by decide) (by decide) (Nat.le_of_ble_eq_true rfl) dX7_looks_44 (fun τ13 H => ?_) (fun E τ H => H)
          refine e_aload_n dX7_looks_47 rfl 0 rfl ?_
          refine fg_X7_106 rfl dX7_looks_48 ?_
          exact e_iret rfl dX7_looks_51 H
    · replace H := H.2 h8
      refine e_aload_n dX7_looks_15 rfl 0 rfl ?_
      refine e_iconst (v := 1) dX7_looks_16 (by decide) ?_
      refine e_callVv (j1 := 0) (j2 := 0) (av := [.int 1]) rfl rfl (Nat.le_of_ble_eq_true rfl) rfl rfl H i_X7_wrong rfl n_X7_wrong v_X7_wrong q_X7_129 (by decide) (by decide) (Nat.le_of_ble_eq_true rfl) dX7_looks_17 (fun τ14 H => ?_) (fun E τ H => H)
      refine e_aload_n dX7_looks_20 rfl 0 rfl ?_
      refine e_callVi (j1 := 0) (j2 := 0) (av := []) rfl rfl (Nat.le_of_ble_eq_true rfl) rfl rfl H i_X7_isGood rfl n_X7_isGood v_X7_isGood q_X7_122 (by decide) (by decide) (Nat.le_of_ble_eq_true rfl) dX7_looks_21 (fun v15 τ15 H => ?_) (fun E τ H => H)
      refine e_if_eq (tgt := 47) dX7_looks_24 (by decide) (fun h16 => ?_) (fun h16 => ?_)
      · replace H := H.1 h16
        refine e_aload_n dX7_looks_47 rfl 0 rfl ?_
        refine fg_X7_106 rfl dX7_looks_48 ?_
        exact e_iret rfl dX7_looks_51 H
      · replace H := H.2 h16
        refine e_aload_n dX7_looks_27 rfl 0 rfl ?_
        refine fg_X7_106 rfl dX7_looks_28 ?_
        refine e_i2l (v := Int32.toInt64 (τ15.1 24 7)) dX7_looks_31 rfl ?_
        refine e_iload_n dX7_looks_32 rfl 1 rfl ?_
        refine e_i2l (v := Int32.toInt64 x1) dX7_looks_33 rfl ?_
        refine e_iload_n dX7_looks_34 rfl 2 rfl ?_
        refine e_i2l (v := Int32.toInt64 x2) dX7_looks_35 rfl ?_
        refine e_callSi (j1 := 0) (j2 := 0) (av := [.long (Int32.toInt64 (τ15.1 24 7)), .long (Int32.toInt64 x1), .long (Int32.toInt64 x2)]) rfl H i_X7_isIn rfl s_X7_isIn q_X7_85 (by decide) (by decide) (Nat.le_of_ble_eq_true rfl) dX7_looks_36 (fun v17 τ17 H => ?_) (fun E τ H => H)
        refine e_if_ne (tgt := 47) dX7_looks_39 (by decide) (fun h18 => ?_) (fun h18 => ?_)
        · replace H := H.1 h18
          refine e_aload_n dX7_looks_47 rfl 0 rfl ?_
          refine fg_X7_106 rfl dX7_looks_48 ?_
          exact e_iret rfl dX7_looks_51 H
        · replace H := H.2 h18
          refine e_aload_n dX7_looks_42 rfl 0 rfl ?_
          refine e_iconst (v := 2) dX7_looks_43 (by decide) ?_
          refine e_callVv (j1 := 0) (j2 := 0) (av := [.int 2]) rfl rfl (Nat.le_of_ble_eq_true rfl) rfl rfl H i_X7_wrong rfl n_X7_wrong v_X7_wrong q_X7_129 (by decide) (by decide) (Nat.le_of_ble_eq_true rfl) dX7_looks_44 (fun τ19 H => ?_) (fun E τ H => H)
          refine e_aload_n dX7_looks_47 rfl 0 rfl ?_
          refine fg_X7_106 rfl dX7_looks_48 ?_
          exact e_iret rfl dX7_looks_51 H
set_option maxRecDepth 20000 in
set_option maxHeartbeats 2000000 in
theorem b_X7_number {g : zG} {l : Launch} {K : Int32 → zS → Prop} {X : String → zS → Prop} {x1 : Int32} {x2 : Int32} {σ : zS}
    (H : CT g l M_X7_looks 0 [.ref (zad g 24), .int x1, .int x2] σ (zQi (fun v1 τ1 => CT g l M_X7_isGood 0 [.ref (zad g 24)] τ1 (zQi (fun v2 τ2 => ((v2 = 0 → K v1 τ2) ∧ (¬ v2 = 0 → CT g l M_X7_goOn 0 [.ref (zad g 24)] τ2 (zQv (fun τ4 => K v1 τ4) (fun E τ => X E τ))))) (fun E τ => X E τ))) (fun E τ => X E τ))) :
    CT g l M_X7_number 0 [.ref (zad g 24), .int x1, .int x2] σ (zQi K X) := by
  refine CT_of rfl (by decide) (Nat.le_of_ble_eq_true rfl) ?_
  change EV _ _ _ _ _ 0 [(0, .ref (zad g 24)), (1, .int x1), (2, .int x2)] [] _
  refine e_aload_n dX7_number_0 rfl 0 rfl ?_
  refine e_iload_n dX7_number_1 rfl 1 rfl ?_
  refine e_iload_n dX7_number_2 rfl 2 rfl ?_
  refine e_callVi (j1 := 0) (j2 := 0) (av := [.int x1, .int x2]) rfl rfl (Nat.le_of_ble_eq_true rfl) rfl rfl H i_X7_looks rfl n_X7_looks v_X7_looks q_X7_139 (by decide) (by decide) (Nat.le_of_ble_eq_true rfl) dX7_number_3 (fun v1 τ1 H => ?_) (fun E τ H => H)
  refine e_istore_n (ls' := [(3, .int v1), (0, .ref (zad g 24)), (1, .int x1), (2, .int x2)]) dX7_number_6 rfl (by decide) rfl ?_
  refine e_aload_n dX7_number_7 rfl 1 rfl ?_
  refine e_callVi (j1 := 0) (j2 := 0) (av := []) rfl rfl (Nat.le_of_ble_eq_true rfl) rfl rfl H i_X7_isGood rfl n_X7_isGood v_X7_isGood q_X7_122 (by decide) (by decide) (Nat.le_of_ble_eq_true rfl) dX7_number_8 (fun v2 τ2 H => ?_) (fun E τ H => H)
  refine e_if_eq (tgt := 18) dX7_number_11 (by decide) (fun h3 => ?_) (fun h3 => ?_)
  · replace H := H.1 h3
    refine e_iload_n dX7_number_18 rfl 0 rfl ?_
    exact e_iret rfl dX7_number_19 H
  · replace H := H.2 h3
    refine e_aload_n dX7_number_14 rfl 1 rfl ?_
    refine e_callVv (j1 := 0) (j2 := 0) (av := []) rfl rfl (Nat.le_of_ble_eq_true rfl) rfl rfl H i_X7_goOn rfl n_X7_goOn v_X7_goOn q_X7_132 (by decide) (by decide) (Nat.le_of_ble_eq_true rfl) dX7_number_15 (fun τ4 H => ?_) (fun E τ H => H)
    refine e_iload_n dX7_number_18 rfl 0 rfl ?_
    exact e_iret rfl dX7_number_19 H
set_option maxRecDepth 20000 in
set_option maxHeartbeats 2000000 in
theorem b_X7_beginsText {g : zG} {l : Launch} {K : zS → Prop} {X : String → zS → Prop} {σ : zS}
    (H : (∀ σ1 : zS, σ1 = zup σ 24 3 (σ.1 24 2) → (∀ σ2 : zS, σ2 = zup σ1 24 2 0 → (∀ σ3 : zS, σ3 = zup σ2 24 4 0 → (∀ σ4 : zS, σ4 = zup σ3 24 8 0 → (∀ σ5 : zS, σ5 = zup σ4 24 9 (-1) → CT g l M_X7_goOn 0 [.ref (zad g 24)] σ5 (zQv (fun τ6 => K τ6) (fun E τ => X E τ)))))))) :
    CT g l M_X7_beginsText 0 [.ref (zad g 24)] σ (zQv K X) := by
  refine CT_of rfl (by decide) (Nat.le_of_ble_eq_true rfl) ?_
  change EV _ _ _ _ _ 0 [(0, .ref (zad g 24))] [] _
  refine e_aload_n dX7_beginsText_0 rfl 0 rfl ?_
  refine e_aload_n dX7_beginsText_1 rfl 0 rfl ?_
  refine fg_X7_75 rfl dX7_beginsText_2 ?_
  refine fp_X7_92 rfl dX7_beginsText_5 ?_
  replace H := H _ rfl
  generalize zup σ 24 3 (σ.1 24 2) = σ1 at H ⊢
  refine e_aload_n dX7_beginsText_8 rfl 0 rfl ?_
  refine e_iconst (v := 0) dX7_beginsText_9 (by decide) ?_
  refine fp_X7_75 rfl dX7_beginsText_10 ?_
  replace H := H _ rfl
  generalize zup σ1 24 2 0 = σ2 at H ⊢
  refine e_aload_n dX7_beginsText_13 rfl 0 rfl ?_
  refine e_iconst (v := 0) dX7_beginsText_14 (by decide) ?_
  refine fp_X7_89 rfl dX7_beginsText_15 ?_
  replace H := H _ rfl
  generalize zup σ2 24 4 0 = σ3 at H ⊢
  refine e_aload_n dX7_beginsText_18 rfl 0 rfl ?_
  refine e_iconst (v := 0) dX7_beginsText_19 (by decide) ?_
  refine fp_X7_119 rfl dX7_beginsText_20 ?_
  replace H := H _ rfl
  generalize zup σ3 24 8 0 = σ4 at H ⊢
  refine e_aload_n dX7_beginsText_23 rfl 0 rfl ?_
  refine e_iconst (v := (-1)) dX7_beginsText_24 (by decide) ?_
  refine fp_X7_13 rfl dX7_beginsText_25 ?_
  replace H := H _ rfl
  generalize zup σ4 24 9 (-1) = σ5 at H ⊢
  refine e_aload_n dX7_beginsText_28 rfl 0 rfl ?_
  refine e_callVv (j1 := 0) (j2 := 0) (av := []) rfl rfl (Nat.le_of_ble_eq_true rfl) rfl rfl H i_X7_goOn rfl n_X7_goOn v_X7_goOn q_X7_132 (by decide) (by decide) (Nat.le_of_ble_eq_true rfl) dX7_beginsText_29 (fun τ6 H => ?_) (fun E τ H => H)
  exact e_vret rfl dX7_beginsText_32 H
set_option maxRecDepth 20000 in
set_option maxHeartbeats 2000000 in
theorem b_X7_endsText {g : zG} {l : Launch} {K : Int32 → zS → Prop} {X : String → zS → Prop} {σ : zS}
    (H : (∀ σ1 : zS, σ1 = zup σ 24 10 (σ.1 24 8) → (∀ σ2 : zS, σ2 = zup σ1 24 11 (σ1.1 24 9) → ((¬ (σ2.1 24 8) = 0 → CT g l M_X7_goes 0 [.ref (zad g 24), .int 0] σ2 (zQi (fun v4 τ4 => (zbl v4 ∧ K v4 τ4)) (fun E τ => X E τ))) ∧ ((σ2.1 24 8) = 0 → CT g l M_X7_goes 0 [.ref (zad g 24), .int 1] σ2 (zQi (fun v5 τ5 => (zbl v5 ∧ K v5 τ5)) (fun E τ => X E τ))))))) :
    CT g l M_X7_endsText 0 [.ref (zad g 24)] σ (zQi K X) := by
  refine CT_of rfl (by decide) (Nat.le_of_ble_eq_true rfl) ?_
  change EV _ _ _ _ _ 0 [(0, .ref (zad g 24))] [] _
  refine e_aload_n dX7_endsText_0 rfl 0 rfl ?_
  refine e_aload_n dX7_endsText_1 rfl 0 rfl ?_
  refine fg_X7_119 rfl dX7_endsText_2 ?_
  refine fp_X7_143 rfl dX7_endsText_5 ?_
  replace H := H _ rfl
  generalize zup σ 24 10 (σ.1 24 8) = σ1 at H ⊢
  refine e_aload_n dX7_endsText_8 rfl 0 rfl ?_
  refine e_aload_n dX7_endsText_9 rfl 0 rfl ?_
  refine fg_X7_13 rfl dX7_endsText_10 ?_
  refine fp_X7_17 rfl dX7_endsText_13 ?_
  replace H := H _ rfl
  generalize zup σ1 24 11 (σ1.1 24 9) = σ2 at H ⊢
  refine e_aload_n dX7_endsText_16 rfl 0 rfl ?_
  refine e_aload_n dX7_endsText_17 rfl 0 rfl ?_
  refine fg_X7_119 rfl dX7_endsText_18 ?_
  refine e_if_ne (tgt := 28) dX7_endsText_21 (by decide) (fun h3 => ?_) (fun h3 => ?_)
  · replace H := H.1 h3
    refine e_iconst (v := 0) dX7_endsText_28 (by decide) ?_
    refine e_callVi (j1 := 0) (j2 := 0) (av := [.int 0]) rfl rfl (Nat.le_of_ble_eq_true rfl) rfl rfl H i_X7_goes rfl n_X7_goes v_X7_goes q_X7_78 (by decide) (by decide) (Nat.le_of_ble_eq_true rfl) dX7_endsText_29 (fun v4 τ4 H => ?_) (fun E τ H => H)
    exact e_zret rfl (zbl_n H.1) dX7_endsText_32 H.2
  · replace H := H.2 h3
    refine e_iconst (v := 1) dX7_endsText_24 (by decide) ?_
    refine e_goto (tgt := 29) dX7_endsText_25 (by decide) ?_
    refine e_callVi (j1 := 0) (j2 := 0) (av := [.int 1]) rfl rfl (Nat.le_of_ble_eq_true rfl) rfl rfl H i_X7_goes rfl n_X7_goes v_X7_goes q_X7_78 (by decide) (by decide) (Nat.le_of_ble_eq_true rfl) dX7_endsText_29 (fun v5 τ5 H => ?_) (fun E τ H => H)
    exact e_zret rfl (zbl_n H.1) dX7_endsText_32 H.2
set_option maxRecDepth 20000 in
set_option maxHeartbeats 2000000 in
theorem b_X7_errorCode {g : zG} {l : Launch} {K : Int32 → zS → Prop} {X : String → zS → Prop} {σ : zS}
    (H : (∀ σ1 : zS, σ1 = zup σ 24 0 0 → K (σ1.1 24 10) σ1)) :
    CT g l M_X7_errorCode 0 [.ref (zad g 24)] σ (zQi K X) := by
  refine CT_of rfl (by decide) (Nat.le_of_ble_eq_true rfl) ?_
  change EV _ _ _ _ _ 0 [(0, .ref (zad g 24))] [] _
  refine e_aload_n dX7_errorCode_0 rfl 0 rfl ?_
  refine e_iconst (v := 0) dX7_errorCode_1 (by decide) ?_
  refine fp_X7_68 rfl dX7_errorCode_2 ?_
  replace H := H _ rfl
  generalize zup σ 24 0 0 = σ1 at H ⊢
  refine e_aload_n dX7_errorCode_5 rfl 0 rfl ?_
  refine fg_X7_143 rfl dX7_errorCode_6 ?_
  exact e_iret rfl dX7_errorCode_9 H
set_option maxRecDepth 20000 in
set_option maxHeartbeats 2000000 in
theorem b_X7_errorPosition {g : zG} {l : Launch} {K : Int32 → zS → Prop} {X : String → zS → Prop} {σ : zS}
    (H : (∀ σ1 : zS, σ1 = zup σ 24 0 0 → K (σ1.1 24 11) σ1)) :
    CT g l M_X7_errorPosition 0 [.ref (zad g 24)] σ (zQi K X) := by
  refine CT_of rfl (by decide) (Nat.le_of_ble_eq_true rfl) ?_
  change EV _ _ _ _ _ 0 [(0, .ref (zad g 24))] [] _
  refine e_aload_n dX7_errorPosition_0 rfl 0 rfl ?_
  refine e_iconst (v := 0) dX7_errorPosition_1 (by decide) ?_
  refine fp_X7_68 rfl dX7_errorPosition_2 ?_
  replace H := H _ rfl
  generalize zup σ 24 0 0 = σ1 at H ⊢
  refine e_aload_n dX7_errorPosition_5 rfl 0 rfl ?_
  refine fg_X7_17 rfl dX7_errorPosition_6 ?_
  exact e_iret rfl dX7_errorPosition_9 H
abbrev L_X7_copiesRow_3 (g : zG) (l : Launch) (K : zS → Prop) (X : String → zS → Prop) (t : Nat) (t2 : Nat) (y1 : Int32) (y3 : Int32) (y4 : Int32) (σ : zS) : Prop :=
  EV g l M_X7_copiesRow 0 (zQv K X) 3 [(0, .ref (zad g t)), (1, .int y1), (2, .ref (zad g t2)), (3, .int y3), (4, .int y4)] [] σ
set_option maxRecDepth 20000 in
set_option maxHeartbeats 2000000 in
theorem b_X7_copiesRow {g : zG} {l : Launch} {K : zS → Prop} {X : String → zS → Prop} {t : Nat} {N : Nat} {x1 : Int32} {t2 : Nat} {N2 : Nat} {x3 : Int32} {σ : zS} (ht : zsh t = .inr (0, N)) (lt : t < 163) (ht2 : zsh t2 = .inr (0, N2)) (lt2 : t2 < 163)
    (H : L_X7_copiesRow_3 g l K X t t2 x1 x3 0 σ) :
    CT g l M_X7_copiesRow 0 [.ref (zad g t), .int x1, .ref (zad g t2), .int x3] σ (zQv K X) := by
  refine CT_of rfl (by decide) (Nat.le_of_ble_eq_true rfl) ?_
  change EV _ _ _ _ _ 0 [(0, .ref (zad g t)), (1, .int x1), (2, .ref (zad g t2)), (3, .int x3)] [] _
  refine e_iconst (v := 0) dX7_copiesRow_0 (by decide) ?_
  refine e_istore (ls' := [(4, .int 0), (0, .ref (zad g t)), (1, .int x1), (2, .ref (zad g t2)), (3, .int x3)]) dX7_copiesRow_1 (by decide) rfl ?_
  refine e_ls [1, 2, 3, 4, 0] rfl ?_
  exact H
set_option maxRecDepth 20000 in
set_option maxHeartbeats 2000000 in
theorem b_X7_copiesRow_3 {g : zG} {l : Launch} {K : zS → Prop} {X : String → zS → Prop} {t : Nat} {N : Nat} {t2 : Nat} {N2 : Nat} {y1 : Int32} {y3 : Int32} {y4 : Int32} {σ : zS} (ht : zsh t = .inr (0, N)) (lt : t < 163) (ht2 : zsh t2 = .inr (0, N2)) (lt2 : t2 < 163)
    (H : ((1110 ≤ y4 → K σ) ∧ (¬ 1110 ≤ y4 → (vp_in (y1 + y4) N ∧ (vp_in (y3 + y4) N2 ∧ (∀ σ2 : zS, σ2 = zup σ t2 (Int32.toNatClampNeg (y3 + y4)) (σ.1 t (Int32.toNatClampNeg (y1 + y4))) → L_X7_copiesRow_3 g l K X t t2 y1 y3 (y4 + 1) σ2)))))) :
    L_X7_copiesRow_3 g l K X t t2 y1 y3 y4 σ := by
  refine e_iload dX7_copiesRow_3 4 rfl ?_
  refine e_sipush (v := 1110) dX7_copiesRow_5 (by decide) ?_
  refine e_icmp_ge (tgt := 29) dX7_copiesRow_8 (by decide) (fun h1 => ?_) (fun h1 => ?_)
  · replace H := H.1 h1
    exact e_vret rfl dX7_copiesRow_29 H
  · replace H := H.2 h1
    refine e_aload_n dX7_copiesRow_11 rfl 2 rfl ?_
    refine e_iload_n dX7_copiesRow_12 rfl 3 rfl ?_
    refine e_iload dX7_copiesRow_13 4 rfl ?_
    refine e_iadd dX7_copiesRow_15 ?_
    refine e_aload_n dX7_copiesRow_16 rfl 0 rfl ?_
    refine e_iload_n dX7_copiesRow_17 rfl 1 rfl ?_
    refine e_iload dX7_copiesRow_18 4 rfl ?_
    refine e_iadd dX7_copiesRow_20 ?_
    refine e_iald (n := N) ht lt H.1 dX7_copiesRow_21 ?_
    replace H := H.2
    refine e_iast (n := N2) ht2 lt2 H.1 dX7_copiesRow_22 ?_
    replace H := H.2
    replace H := H _ rfl
    generalize zup σ t2 (Int32.toNatClampNeg (y3 + y4)) (σ.1 t (Int32.toNatClampNeg (y1 + y4))) = σ2 at H ⊢
    refine e_iinc (j := 4) (v := (y4 + 1)) (ls' := [(4, .int (y4 + 1)), (0, .ref (zad g t)), (1, .int y1), (2, .ref (zad g t2)), (3, .int y3)]) dX7_copiesRow_23 rfl rfl (by decide) rfl ?_
    refine e_goto (tgt := 3) dX7_copiesRow_26 (by decide) ?_
    refine e_ls [1, 2, 3, 4, 0] rfl ?_
    exact H
abbrev L_X7_clears_2 (g : zG) (l : Launch) (K : zS → Prop) (X : String → zS → Prop) (y1 : Int32) (σ : zS) : Prop :=
  EV g l M_X7_clears 0 (zQv K X) 2 [(0, .ref (zad g 24)), (1, .int y1)] [] σ
set_option maxRecDepth 20000 in
set_option maxHeartbeats 2000000 in
theorem b_X7_clears {g : zG} {l : Launch} {K : zS → Prop} {X : String → zS → Prop} {σ : zS}
    (H : L_X7_clears_2 g l K X 0 σ) :
    CT g l M_X7_clears 0 [.ref (zad g 24)] σ (zQv K X) := by
  refine CT_of rfl (by decide) (Nat.le_of_ble_eq_true rfl) ?_
  change EV _ _ _ _ _ 0 [(0, .ref (zad g 24))] [] _
  refine e_iconst (v := 0) dX7_clears_0 (by decide) ?_
  refine e_istore_n (ls' := [(1, .int 0), (0, .ref (zad g 24))]) dX7_clears_1 rfl (by decide) rfl ?_
  refine e_ls [1, 0] rfl ?_
  exact H
set_option maxRecDepth 20000 in
set_option maxHeartbeats 2000000 in
theorem b_X7_clears_2 {g : zG} {l : Launch} {K : zS → Prop} {X : String → zS → Prop} {y1 : Int32} {σ : zS}
    (H : ((1110 ≤ y1 → (∀ σ2 : zS, σ2 = zup σ 26 (Int32.toNatClampNeg 0) 4 → (∀ σ3 : zS, σ3 = zup σ2 26 (Int32.toNatClampNeg 2) 9 → K σ3))) ∧ (¬ 1110 ≤ y1 → (vp_in y1 1110 ∧ (∀ σ4 : zS, σ4 = zup σ 26 (Int32.toNatClampNeg y1) 0 → L_X7_clears_2 g l K X (y1 + 1) σ4))))) :
    L_X7_clears_2 g l K X y1 σ := by
  refine e_iload_n dX7_clears_2 rfl 1 rfl ?_
  refine e_sipush (v := 1110) dX7_clears_3 (by decide) ?_
  refine e_icmp_ge (tgt := 22) dX7_clears_6 (by decide) (fun h1 => ?_) (fun h1 => ?_)
  · replace H := H.1 h1
    refine e_aload_n dX7_clears_22 rfl 0 rfl ?_
    refine fg_X7_20 rfl dX7_clears_23 ?_
    refine e_iconst (v := 0) dX7_clears_26 (by decide) ?_
    refine e_iconst (v := 4) dX7_clears_27 (by decide) ?_
    refine e_iast (n := 1110) rfl (Nat.le_of_ble_eq_true rfl) (vil (by decide)) dX7_clears_28 ?_
    replace H := H _ rfl
    generalize zup σ 26 (Int32.toNatClampNeg 0) 4 = σ2 at H ⊢
    refine e_aload_n dX7_clears_29 rfl 0 rfl ?_
    refine fg_X7_20 rfl dX7_clears_30 ?_
    refine e_iconst (v := 2) dX7_clears_33 (by decide) ?_
    refine e_bipush (v := 9) dX7_clears_34 (by decide) ?_
    refine e_iast (n := 1110) rfl (Nat.le_of_ble_eq_true rfl) (vil (by decide)) dX7_clears_36 ?_
    replace H := H _ rfl
    generalize zup σ2 26 (Int32.toNatClampNeg 2) 9 = σ3 at H ⊢
    exact e_vret rfl dX7_clears_37 H
  · replace H := H.2 h1
    refine e_aload_n dX7_clears_9 rfl 0 rfl ?_
    refine fg_X7_20 rfl dX7_clears_10 ?_
    refine e_iload_n dX7_clears_13 rfl 1 rfl ?_
    refine e_iconst (v := 0) dX7_clears_14 (by decide) ?_
    refine e_iast (n := 1110) rfl (Nat.le_of_ble_eq_true rfl) H.1 dX7_clears_15 ?_
    replace H := H.2
    replace H := H _ rfl
    generalize zup σ 26 (Int32.toNatClampNeg y1) 0 = σ4 at H ⊢
    refine e_iinc (j := 1) (v := (y1 + 1)) (ls' := [(1, .int (y1 + 1)), (0, .ref (zad g 24))]) dX7_clears_16 rfl rfl (by decide) rfl ?_
    refine e_goto (tgt := 2) dX7_clears_19 (by decide) ?_
    refine e_ls [1, 0] rfl ?_
    exact H
set_option maxRecDepth 20000 in
set_option maxHeartbeats 2000000 in
theorem b_X7_laysAside {g : zG} {l : Launch} {K : zS → Prop} {X : String → zS → Prop} {σ : zS}
    (H : CT g l M_X7_copiesRow 0 [.ref (zad g 26), .int 0, .ref (zad g 28), .int 0] σ (zQv (fun τ1 => K τ1) (fun E τ => X E τ))) :
    CT g l M_X7_laysAside 0 [.ref (zad g 24)] σ (zQv K X) := by
  refine CT_of rfl (by decide) (Nat.le_of_ble_eq_true rfl) ?_
  change EV _ _ _ _ _ 0 [(0, .ref (zad g 24))] [] _
  refine e_aload_n dX7_laysAside_0 rfl 0 rfl ?_
  refine fg_X7_20 rfl dX7_laysAside_1 ?_
  refine e_iconst (v := 0) dX7_laysAside_4 (by decide) ?_
  refine e_aload_n dX7_laysAside_5 rfl 0 rfl ?_
  refine fg_X7_26 rfl dX7_laysAside_6 ?_
  refine e_iconst (v := 0) dX7_laysAside_9 (by decide) ?_
  refine e_callSv (j1 := 0) (j2 := 0) (av := [.ref (zad g 26), .int 0, .ref (zad g 28), .int 0]) rfl H i_X7_copiesRow rfl s_X7_copiesRow q_X7_146 (by decide) (by decide) (Nat.le_of_ble_eq_true rfl) dX7_laysAside_10 (fun τ1 H => ?_) (fun E τ H => H)
  exact e_vret rfl dX7_laysAside_13 H
abbrev L_X7_keeps_21 (g : zG) (l : Launch) (K : zS → Prop) (X : String → zS → Prop) (y1 : Int32) (σ : zS) : Prop :=
  EV g l M_X7_keeps 0 (zQv K X) 21 [(0, .ref (zad g 24)), (1, .int y1)] [] σ
set_option maxRecDepth 20000 in
set_option maxHeartbeats 2000000 in
theorem b_X7_keeps {g : zG} {l : Launch} {K : zS → Prop} {X : String → zS → Prop} {σ : zS}
    (H : ((¬ (σ.1 24 18) = 6 → CT g l M_X7_copiesRow 0 [.ref (zad g 28), .int 0, .ref (zad g 30), .int (1110 * (σ.1 24 18))] σ (zQv (fun τ2 => (∀ σ3 : zS, σ3 = zup τ2 24 18 ((τ2.1 24 18) + 1) → K σ3)) (fun E τ => X E τ))) ∧ ((σ.1 24 18) = 6 → (∀ σ4 : zS, σ4 = zup σ 24 18 ((σ.1 24 18) - 1) → L_X7_keeps_21 g l K X 0 σ4)))) :
    CT g l M_X7_keeps 0 [.ref (zad g 24)] σ (zQv K X) := by
  refine CT_of rfl (by decide) (Nat.le_of_ble_eq_true rfl) ?_
  change EV _ _ _ _ _ 0 [(0, .ref (zad g 24))] [] _
  refine e_aload_n dX7_keeps_0 rfl 0 rfl ?_
  refine fg_X7_150 rfl dX7_keeps_1 ?_
  refine e_bipush (v := 6) dX7_keeps_4 (by decide) ?_
  refine e_icmp_ne (tgt := 55) dX7_keeps_6 (by decide) (fun h1 => ?_) (fun h1 => ?_)
  · replace H := H.1 h1
    refine e_aload_n dX7_keeps_55 rfl 0 rfl ?_
    refine fg_X7_26 rfl dX7_keeps_56 ?_
    refine e_iconst (v := 0) dX7_keeps_59 (by decide) ?_
    refine e_aload_n dX7_keeps_60 rfl 0 rfl ?_
    refine fg_X7_32 rfl dX7_keeps_61 ?_
    refine e_sipush (v := 1110) dX7_keeps_64 (by decide) ?_
    refine e_aload_n dX7_keeps_67 rfl 0 rfl ?_
    refine fg_X7_150 rfl dX7_keeps_68 ?_
    refine e_imul dX7_keeps_71 ?_
    refine e_callSv (j1 := 0) (j2 := 0) (av := [.ref (zad g 28), .int 0, .ref (zad g 30), .int (1110 * (σ.1 24 18))]) rfl H i_X7_copiesRow rfl s_X7_copiesRow q_X7_146 (by decide) (by decide) (Nat.le_of_ble_eq_true rfl) dX7_keeps_72 (fun τ2 H => ?_) (fun E τ H => H)
    refine e_aload_n dX7_keeps_75 rfl 0 rfl ?_
    refine e_dup dX7_keeps_76 rfl ?_
    refine fg_X7_150 rfl dX7_keeps_77 ?_
    refine e_iconst (v := 1) dX7_keeps_80 (by decide) ?_
    refine e_iadd dX7_keeps_81 ?_
    refine fp_X7_150 rfl dX7_keeps_82 ?_
    replace H := H _ rfl
    generalize zup τ2 24 18 ((τ2.1 24 18) + 1) = σ3 at H ⊢
    exact e_vret rfl dX7_keeps_85 H
  · replace H := H.2 h1
    refine e_aload_n dX7_keeps_9 rfl 0 rfl ?_
    refine e_dup dX7_keeps_10 rfl ?_
    refine fg_X7_150 rfl dX7_keeps_11 ?_
    refine e_iconst (v := 1) dX7_keeps_14 (by decide) ?_
    refine e_isub dX7_keeps_15 ?_
    refine fp_X7_150 rfl dX7_keeps_16 ?_
    replace H := H _ rfl
    generalize zup σ 24 18 ((σ.1 24 18) - 1) = σ4 at H ⊢
    refine e_iconst (v := 0) dX7_keeps_19 (by decide) ?_
    refine e_istore_n (ls' := [(1, .int 0), (0, .ref (zad g 24))]) dX7_keeps_20 rfl (by decide) rfl ?_
    refine e_ls [1, 0] rfl ?_
    exact H
set_option maxRecDepth 20000 in
set_option maxHeartbeats 2000000 in
theorem b_X7_keeps_21 {g : zG} {l : Launch} {K : zS → Prop} {X : String → zS → Prop} {y1 : Int32} {σ : zS}
    (H : (((1110 * (σ.1 24 18)) ≤ y1 → CT g l M_X7_copiesRow 0 [.ref (zad g 28), .int 0, .ref (zad g 30), .int (1110 * (σ.1 24 18))] σ (zQv (fun τ2 => (∀ σ3 : zS, σ3 = zup τ2 24 18 ((τ2.1 24 18) + 1) → K σ3)) (fun E τ => X E τ))) ∧ (¬ (1110 * (σ.1 24 18)) ≤ y1 → (vp_in (y1 + 1110) 6660 ∧ (vp_in y1 6660 ∧ (∀ σ4 : zS, σ4 = zup σ 30 (Int32.toNatClampNeg y1) (σ.1 30 (Int32.toNatClampNeg (y1 + 1110))) → L_X7_keeps_21 g l K X (y1 + 1) σ4)))))) :
    L_X7_keeps_21 g l K X y1 σ := by
  refine e_iload_n dX7_keeps_21 rfl 1 rfl ?_
  refine e_sipush (v := 1110) dX7_keeps_22 (by decide) ?_
  refine e_aload_n dX7_keeps_25 rfl 0 rfl ?_
  refine fg_X7_150 rfl dX7_keeps_26 ?_
  refine e_imul dX7_keeps_29 ?_
  refine e_icmp_ge (tgt := 55) dX7_keeps_30 (by decide) (fun h1 => ?_) (fun h1 => ?_)
  · replace H := H.1 h1
    refine e_aload_n dX7_keeps_55 rfl 0 rfl ?_
    refine fg_X7_26 rfl dX7_keeps_56 ?_
    refine e_iconst (v := 0) dX7_keeps_59 (by decide) ?_
    refine e_aload_n dX7_keeps_60 rfl 0 rfl ?_
    refine fg_X7_32 rfl dX7_keeps_61 ?_
    refine e_sipush (v := 1110) dX7_keeps_64 (by decide) ?_
    refine e_aload_n dX7_keeps_67 rfl 0 rfl ?_
    refine fg_X7_150 rfl dX7_keeps_68 ?_
    refine e_imul dX7_keeps_71 ?_
    refine e_callSv (j1 := 0) (j2 := 0) (av := [.ref (zad g 28), .int 0, .ref (zad g 30), .int (1110 * (σ.1 24 18))]) rfl H i_X7_copiesRow rfl s_X7_copiesRow q_X7_146 (by decide) (by decide) (Nat.le_of_ble_eq_true rfl) dX7_keeps_72 (fun τ2 H => ?_) (fun E τ H => H)
    refine e_aload_n dX7_keeps_75 rfl 0 rfl ?_
    refine e_dup dX7_keeps_76 rfl ?_
    refine fg_X7_150 rfl dX7_keeps_77 ?_
    refine e_iconst (v := 1) dX7_keeps_80 (by decide) ?_
    refine e_iadd dX7_keeps_81 ?_
    refine fp_X7_150 rfl dX7_keeps_82 ?_
    replace H := H _ rfl
    generalize zup τ2 24 18 ((τ2.1 24 18) + 1) = σ3 at H ⊢
    exact e_vret rfl dX7_keeps_85 H
  · replace H := H.2 h1
    refine e_aload_n dX7_keeps_33 rfl 0 rfl ?_
    refine fg_X7_32 rfl dX7_keeps_34 ?_
    refine e_iload_n dX7_keeps_37 rfl 1 rfl ?_
    refine e_aload_n dX7_keeps_38 rfl 0 rfl ?_
    refine fg_X7_32 rfl dX7_keeps_39 ?_
    refine e_iload_n dX7_keeps_42 rfl 1 rfl ?_
    refine e_sipush (v := 1110) dX7_keeps_43 (by decide) ?_
    refine e_iadd dX7_keeps_46 ?_
    refine e_iald (n := 6660) rfl (Nat.le_of_ble_eq_true rfl) H.1 dX7_keeps_47 ?_
    replace H := H.2
    refine e_iast (n := 6660) rfl (Nat.le_of_ble_eq_true rfl) H.1 dX7_keeps_48 ?_
    replace H := H.2
    replace H := H _ rfl
    generalize zup σ 30 (Int32.toNatClampNeg y1) (σ.1 30 (Int32.toNatClampNeg (y1 + 1110))) = σ4 at H ⊢
    refine e_iinc (j := 1) (v := (y1 + 1)) (ls' := [(1, .int (y1 + 1)), (0, .ref (zad g 24))]) dX7_keeps_49 rfl rfl (by decide) rfl ?_
    refine e_goto (tgt := 21) dX7_keeps_52 (by decide) ?_
    refine e_ls [1, 0] rfl ?_
    exact H
set_option maxRecDepth 20000 in
set_option maxHeartbeats 2000000 in
theorem b_X7_kept {g : zG} {l : Launch} {K : Int32 → zS → Prop} {X : String → zS → Prop} {x1 : Int32} {σ : zS}
    (H : CT g l M_X7_keeps 0 [.ref (zad g 24)] σ (zQv (fun τ1 => K x1 τ1) (fun E τ => X E τ))) :
    CT g l M_X7_kept 0 [.ref (zad g 24), .int x1] σ (zQi K X) := by
  refine CT_of rfl (by decide) (Nat.le_of_ble_eq_true rfl) ?_
  change EV _ _ _ _ _ 0 [(0, .ref (zad g 24)), (1, .int x1)] [] _
  refine e_aload_n dX7_kept_0 rfl 0 rfl ?_
  refine e_callVv (j1 := 0) (j2 := 0) (av := []) rfl rfl (Nat.le_of_ble_eq_true rfl) rfl rfl H i_X7_keeps rfl n_X7_keeps v_X7_keeps q_X7_153 (by decide) (by decide) (Nat.le_of_ble_eq_true rfl) dX7_kept_1 (fun τ1 H => ?_) (fun E τ H => H)
  refine e_iload_n dX7_kept_4 rfl 1 rfl ?_
  exact e_iret rfl dX7_kept_5 H
set_option maxRecDepth 20000 in
set_option maxHeartbeats 2000000 in
theorem b_X7_undo {g : zG} {l : Launch} {K : Int32 → zS → Prop} {X : String → zS → Prop} {σ : zS}
    (H : (∀ σ1 : zS, σ1 = zup σ 24 0 0 → ((¬ (σ1.1 24 18) = 0 → (∀ σ3 : zS, σ3 = zup σ1 24 18 ((σ1.1 24 18) - 1) → CT g l M_X7_copiesRow 0 [.ref (zad g 30), .int (1110 * (σ3.1 24 18)), .ref (zad g 26), .int 0] σ3 (zQv (fun τ4 => K (τ4.1 24 18) τ4) (fun E τ => X E τ)))) ∧ ((σ1.1 24 18) = 0 → K (-1) σ1)))) :
    CT g l M_X7_undo 0 [.ref (zad g 24)] σ (zQi K X) := by
  refine CT_of rfl (by decide) (Nat.le_of_ble_eq_true rfl) ?_
  change EV _ _ _ _ _ 0 [(0, .ref (zad g 24))] [] _
  refine e_aload_n dX7_undo_0 rfl 0 rfl ?_
  refine e_iconst (v := 0) dX7_undo_1 (by decide) ?_
  refine fp_X7_68 rfl dX7_undo_2 ?_
  replace H := H _ rfl
  generalize zup σ 24 0 0 = σ1 at H ⊢
  refine e_aload_n dX7_undo_5 rfl 0 rfl ?_
  refine fg_X7_150 rfl dX7_undo_6 ?_
  refine e_if_ne (tgt := 14) dX7_undo_9 (by decide) (fun h2 => ?_) (fun h2 => ?_)
  · replace H := H.1 h2
    refine e_aload_n dX7_undo_14 rfl 0 rfl ?_
    refine e_dup dX7_undo_15 rfl ?_
    refine fg_X7_150 rfl dX7_undo_16 ?_
    refine e_iconst (v := 1) dX7_undo_19 (by decide) ?_
    refine e_isub dX7_undo_20 ?_
    refine fp_X7_150 rfl dX7_undo_21 ?_
    replace H := H _ rfl
    generalize zup σ1 24 18 ((σ1.1 24 18) - 1) = σ3 at H ⊢
    refine e_aload_n dX7_undo_24 rfl 0 rfl ?_
    refine fg_X7_32 rfl dX7_undo_25 ?_
    refine e_sipush (v := 1110) dX7_undo_28 (by decide) ?_
    refine e_aload_n dX7_undo_31 rfl 0 rfl ?_
    refine fg_X7_150 rfl dX7_undo_32 ?_
    refine e_imul dX7_undo_35 ?_
    refine e_aload_n dX7_undo_36 rfl 0 rfl ?_
    refine fg_X7_20 rfl dX7_undo_37 ?_
    refine e_iconst (v := 0) dX7_undo_40 (by decide) ?_
    refine e_callSv (j1 := 0) (j2 := 0) (av := [.ref (zad g 30), .int (1110 * (σ3.1 24 18)), .ref (zad g 26), .int 0]) rfl H i_X7_copiesRow rfl s_X7_copiesRow q_X7_146 (by decide) (by decide) (Nat.le_of_ble_eq_true rfl) dX7_undo_41 (fun τ4 H => ?_) (fun E τ H => H)
    refine e_aload_n dX7_undo_44 rfl 0 rfl ?_
    refine fg_X7_150 rfl dX7_undo_45 ?_
    exact e_iret rfl dX7_undo_48 H
  · replace H := H.2 h2
    refine e_iconst (v := (-1)) dX7_undo_12 (by decide) ?_
    exact e_iret rfl dX7_undo_13 H
set_option maxRecDepth 20000 in
set_option maxHeartbeats 2000000 in
theorem b_X7_save {g : zG} {l : Launch} {K : Int32 → zS → Prop} {X : String → zS → Prop} {σ : zS}
    (H : (∀ σ1 : zS, σ1 = zup σ 24 0 0 → CT g l M_X7_copiesRow 0 [.ref (zad g 26), .int 0, .ref (zad g 27), .int 0] σ1 (zQv (fun τ2 => (∀ σ3 : zS, σ3 = zup τ2 24 19 1 → K (σ3.1 26 (Int32.toNatClampNeg 1)) σ3)) (fun E τ => X E τ)))) :
    CT g l M_X7_save 0 [.ref (zad g 24)] σ (zQi K X) := by
  refine CT_of rfl (by decide) (Nat.le_of_ble_eq_true rfl) ?_
  change EV _ _ _ _ _ 0 [(0, .ref (zad g 24))] [] _
  refine e_aload_n dX7_save_0 rfl 0 rfl ?_
  refine e_iconst (v := 0) dX7_save_1 (by decide) ?_
  refine fp_X7_68 rfl dX7_save_2 ?_
  replace H := H _ rfl
  generalize zup σ 24 0 0 = σ1 at H ⊢
  refine e_aload_n dX7_save_5 rfl 0 rfl ?_
  refine fg_X7_20 rfl dX7_save_6 ?_
  refine e_iconst (v := 0) dX7_save_9 (by decide) ?_
  refine e_aload_n dX7_save_10 rfl 0 rfl ?_
  refine fg_X7_23 rfl dX7_save_11 ?_
  refine e_iconst (v := 0) dX7_save_14 (by decide) ?_
  refine e_callSv (j1 := 0) (j2 := 0) (av := [.ref (zad g 26), .int 0, .ref (zad g 27), .int 0]) rfl H i_X7_copiesRow rfl s_X7_copiesRow q_X7_146 (by decide) (by decide) (Nat.le_of_ble_eq_true rfl) dX7_save_15 (fun τ2 H => ?_) (fun E τ H => H)
  refine e_aload_n dX7_save_18 rfl 0 rfl ?_
  refine e_iconst (v := 1) dX7_save_19 (by decide) ?_
  refine fp_X7_156 zbl_1 rfl dX7_save_20 ?_
  replace H := H _ rfl
  generalize zup τ2 24 19 1 = σ3 at H ⊢
  refine e_aload_n dX7_save_23 rfl 0 rfl ?_
  refine fg_X7_20 rfl dX7_save_24 ?_
  refine e_iconst (v := 1) dX7_save_27 (by decide) ?_
  refine e_iald (n := 1110) rfl (Nat.le_of_ble_eq_true rfl) (vil (by decide)) dX7_save_28 ?_
  exact e_iret rfl dX7_save_29 H
set_option maxRecDepth 20000 in
set_option maxHeartbeats 2000000 in
theorem b_X7_restore {g : zG} {l : Launch} {K : Int32 → zS → Prop} {X : String → zS → Prop} {σ : zS}
    (H : CT g l M_X7_goes 0 [.ref (zad g 24), .int (σ.1 24 19)] σ (zQi (fun v1 τ1 => ((¬ v1 = 0 → CT g l M_X7_copiesRow 0 [.ref (zad g 27), .int 0, .ref (zad g 26), .int 0] τ1 (zQv (fun τ3 => (∀ σ4 : zS, σ4 = zup τ3 24 18 0 → K (σ4.1 26 (Int32.toNatClampNeg 1)) σ4)) (fun E τ => X E τ))) ∧ (v1 = 0 → K 0 τ1))) (fun E τ => X E τ))) :
    CT g l M_X7_restore 0 [.ref (zad g 24)] σ (zQi K X) := by
  refine CT_of rfl (by decide) (Nat.le_of_ble_eq_true rfl) ?_
  change EV _ _ _ _ _ 0 [(0, .ref (zad g 24))] [] _
  refine e_aload_n dX7_restore_0 rfl 0 rfl ?_
  refine e_aload_n dX7_restore_1 rfl 0 rfl ?_
  refine fg_X7_156 rfl dX7_restore_2 ?_
  refine e_callVi (j1 := 0) (j2 := 0) (av := [.int (σ.1 24 19)]) rfl rfl (Nat.le_of_ble_eq_true rfl) rfl rfl H i_X7_goes rfl n_X7_goes v_X7_goes q_X7_78 (by decide) (by decide) (Nat.le_of_ble_eq_true rfl) dX7_restore_5 (fun v1 τ1 H => ?_) (fun E τ H => H)
  refine e_if_ne (tgt := 13) dX7_restore_8 (by decide) (fun h2 => ?_) (fun h2 => ?_)
  · replace H := H.1 h2
    refine e_aload_n dX7_restore_13 rfl 0 rfl ?_
    refine fg_X7_23 rfl dX7_restore_14 ?_
    refine e_iconst (v := 0) dX7_restore_17 (by decide) ?_
    refine e_aload_n dX7_restore_18 rfl 0 rfl ?_
    refine fg_X7_20 rfl dX7_restore_19 ?_
    refine e_iconst (v := 0) dX7_restore_22 (by decide) ?_
    refine e_callSv (j1 := 0) (j2 := 0) (av := [.ref (zad g 27), .int 0, .ref (zad g 26), .int 0]) rfl H i_X7_copiesRow rfl s_X7_copiesRow q_X7_146 (by decide) (by decide) (Nat.le_of_ble_eq_true rfl) dX7_restore_23 (fun τ3 H => ?_) (fun E τ H => H)
    refine e_aload_n dX7_restore_26 rfl 0 rfl ?_
    refine e_iconst (v := 0) dX7_restore_27 (by decide) ?_
    refine fp_X7_150 rfl dX7_restore_28 ?_
    replace H := H _ rfl
    generalize zup τ3 24 18 0 = σ4 at H ⊢
    refine e_aload_n dX7_restore_31 rfl 0 rfl ?_
    refine fg_X7_20 rfl dX7_restore_32 ?_
    refine e_iconst (v := 1) dX7_restore_35 (by decide) ?_
    refine e_iald (n := 1110) rfl (Nat.le_of_ble_eq_true rfl) (vil (by decide)) dX7_restore_36 ?_
    exact e_iret rfl dX7_restore_37 H
  · replace H := H.2 h2
    refine e_iconst (v := 0) dX7_restore_11 (by decide) ?_
    exact e_iret rfl dX7_restore_12 H
set_option maxRecDepth 20000 in
set_option maxHeartbeats 2000000 in
theorem b_X7_of {g : zG} {l : Launch} {K : Int32 → zS → Prop} {X : String → zS → Prop} {x1 : Int32} {x2 : Int32} {σ : zS}
    (H : (vp_in ((4 + (5 * x1)) + x2) 1110 ∧ K (σ.1 26 (Int32.toNatClampNeg ((4 + (5 * x1)) + x2))) σ)) :
    CT g l M_X7_of 0 [.ref (zad g 24), .int x1, .int x2] σ (zQi K X) := by
  refine CT_of rfl (by decide) (Nat.le_of_ble_eq_true rfl) ?_
  change EV _ _ _ _ _ 0 [(0, .ref (zad g 24)), (1, .int x1), (2, .int x2)] [] _
  refine e_aload_n dX7_of_0 rfl 0 rfl ?_
  refine fg_X7_20 rfl dX7_of_1 ?_
  refine e_iconst (v := 4) dX7_of_4 (by decide) ?_
  refine e_iconst (v := 5) dX7_of_5 (by decide) ?_
  refine e_iload_n dX7_of_6 rfl 1 rfl ?_
  refine e_imul dX7_of_7 ?_
  refine e_iadd dX7_of_8 ?_
  refine e_iload_n dX7_of_9 rfl 2 rfl ?_
  refine e_iadd dX7_of_10 ?_
  refine e_iald (n := 1110) rfl (Nat.le_of_ble_eq_true rfl) H.1 dX7_of_11 ?_
  replace H := H.2
  exact e_iret rfl dX7_of_12 H
set_option maxRecDepth 20000 in
set_option maxHeartbeats 2000000 in
theorem b_X7_sets {g : zG} {l : Launch} {K : zS → Prop} {X : String → zS → Prop} {x1 : Int32} {x2 : Int32} {x3 : Int32} {σ : zS}
    (H : (vp_in ((4 + (5 * x1)) + x2) 1110 ∧ (∀ σ1 : zS, σ1 = zup σ 26 (Int32.toNatClampNeg ((4 + (5 * x1)) + x2)) x3 → K σ1))) :
    CT g l M_X7_sets 0 [.ref (zad g 24), .int x1, .int x2, .int x3] σ (zQv K X) := by
  refine CT_of rfl (by decide) (Nat.le_of_ble_eq_true rfl) ?_
  change EV _ _ _ _ _ 0 [(0, .ref (zad g 24)), (1, .int x1), (2, .int x2), (3, .int x3)] [] _
  refine e_aload_n dX7_sets_0 rfl 0 rfl ?_
  refine fg_X7_20 rfl dX7_sets_1 ?_
  refine e_iconst (v := 4) dX7_sets_4 (by decide) ?_
  refine e_iconst (v := 5) dX7_sets_5 (by decide) ?_
  refine e_iload_n dX7_sets_6 rfl 1 rfl ?_
  refine e_imul dX7_sets_7 ?_
  refine e_iadd dX7_sets_8 ?_
  refine e_iload_n dX7_sets_9 rfl 2 rfl ?_
  refine e_iadd dX7_sets_10 ?_
  refine e_iload_n dX7_sets_11 rfl 3 rfl ?_
  refine e_iast (n := 1110) rfl (Nat.le_of_ble_eq_true rfl) H.1 dX7_sets_12 ?_
  replace H := H.2
  replace H := H _ rfl
  generalize zup σ 26 (Int32.toNatClampNeg ((4 + (5 * x1)) + x2)) x3 = σ1 at H ⊢
  exact e_vret rfl dX7_sets_13 H
set_option maxRecDepth 20000 in
set_option maxHeartbeats 2000000 in
theorem b_X7_ofBox {g : zG} {l : Launch} {K : Int32 → zS → Prop} {X : String → zS → Prop} {x1 : Int32} {x2 : Int32} {σ : zS}
    (H : (vp_in ((54 + (6 * x1)) + x2) 1110 ∧ K (σ.1 26 (Int32.toNatClampNeg ((54 + (6 * x1)) + x2))) σ)) :
    CT g l M_X7_ofBox 0 [.ref (zad g 24), .int x1, .int x2] σ (zQi K X) := by
  refine CT_of rfl (by decide) (Nat.le_of_ble_eq_true rfl) ?_
  change EV _ _ _ _ _ 0 [(0, .ref (zad g 24)), (1, .int x1), (2, .int x2)] [] _
  refine e_aload_n dX7_ofBox_0 rfl 0 rfl ?_
  refine fg_X7_20 rfl dX7_ofBox_1 ?_
  refine e_bipush (v := 54) dX7_ofBox_4 (by decide) ?_
  refine e_bipush (v := 6) dX7_ofBox_6 (by decide) ?_
  refine e_iload_n dX7_ofBox_8 rfl 1 rfl ?_
  refine e_imul dX7_ofBox_9 ?_
  refine e_iadd dX7_ofBox_10 ?_
  refine e_iload_n dX7_ofBox_11 rfl 2 rfl ?_
  refine e_iadd dX7_ofBox_12 ?_
  refine e_iald (n := 1110) rfl (Nat.le_of_ble_eq_true rfl) H.1 dX7_ofBox_13 ?_
  replace H := H.2
  exact e_iret rfl dX7_ofBox_14 H
set_option maxRecDepth 20000 in
set_option maxHeartbeats 2000000 in
theorem b_X7_faceCell {g : zG} {l : Launch} {K : Int32 → zS → Prop} {X : String → zS → Prop} {x0 : Int32} {x1 : Int32} {x2 : Int32} {σ : zS}
    (H : K (((150 + (480 * x0)) + (8 * x1)) + x2) σ) :
    CT g l M_X7_faceCell 0 [.int x0, .int x1, .int x2] σ (zQi K X) := by
  refine CT_of rfl (by decide) (Nat.le_of_ble_eq_true rfl) ?_
  change EV _ _ _ _ _ 0 [(0, .int x0), (1, .int x1), (2, .int x2)] [] _
  refine e_sipush (v := 150) dX7_faceCell_0 (by decide) ?_
  refine e_sipush (v := 480) dX7_faceCell_3 (by decide) ?_
  refine e_iload_n dX7_faceCell_6 rfl 0 rfl ?_
  refine e_imul dX7_faceCell_7 ?_
  refine e_iadd dX7_faceCell_8 ?_
  refine e_bipush (v := 8) dX7_faceCell_9 (by decide) ?_
  refine e_iload_n dX7_faceCell_11 rfl 1 rfl ?_
  refine e_imul dX7_faceCell_12 ?_
  refine e_iadd dX7_faceCell_13 ?_
  refine e_iload_n dX7_faceCell_14 rfl 2 rfl ?_
  refine e_iadd dX7_faceCell_15 ?_
  exact e_iret rfl dX7_faceCell_16 H
set_option maxRecDepth 20000 in
set_option maxHeartbeats 2000000 in
theorem b_X7_painted {g : zG} {l : Launch} {K : Int32 → zS → Prop} {X : String → zS → Prop} {x1 : Int32} {x2 : Int32} {x3 : Int32} {σ : zS}
    (H : CT g l M_X7_faceCell 0 [.int x1, .int x2, .int x3] σ (zQi (fun v1 τ1 => (vp_in v1 1110 ∧ K (τ1.1 26 (Int32.toNatClampNeg v1)) τ1)) (fun E τ => X E τ))) :
    CT g l M_X7_painted 0 [.ref (zad g 24), .int x1, .int x2, .int x3] σ (zQi K X) := by
  refine CT_of rfl (by decide) (Nat.le_of_ble_eq_true rfl) ?_
  change EV _ _ _ _ _ 0 [(0, .ref (zad g 24)), (1, .int x1), (2, .int x2), (3, .int x3)] [] _
  refine e_aload_n dX7_painted_0 rfl 0 rfl ?_
  refine fg_X7_20 rfl dX7_painted_1 ?_
  refine e_iload_n dX7_painted_4 rfl 1 rfl ?_
  refine e_iload_n dX7_painted_5 rfl 2 rfl ?_
  refine e_iload_n dX7_painted_6 rfl 3 rfl ?_
  refine e_callSi (j1 := 0) (j2 := 0) (av := [.int x1, .int x2, .int x3]) rfl H i_X7_faceCell rfl s_X7_faceCell q_X7_160 (by decide) (by decide) (Nat.le_of_ble_eq_true rfl) dX7_painted_7 (fun v1 τ1 H => ?_) (fun E τ H => H)
  refine e_iald (n := 1110) rfl (Nat.le_of_ble_eq_true rfl) H.1 dX7_painted_10 ?_
  replace H := H.2
  exact e_iret rfl dX7_painted_11 H
abbrev L_X7_firstOf_4 (g : zG) (l : Launch) (K : Int32 → zS → Prop) (X : String → zS → Prop) (y1 : Int32) (y2 : Int32) (y3 : Int32) (σ : zS) : Prop :=
  EV g l M_X7_firstOf 0 (zQi K X) 4 [(0, .ref (zad g 24)), (1, .int y1), (2, .int y2), (3, .int y3)] [] σ
set_option maxRecDepth 20000 in
set_option maxHeartbeats 2000000 in
theorem b_X7_firstOf {g : zG} {l : Launch} {K : Int32 → zS → Prop} {X : String → zS → Prop} {x1 : Int32} {σ : zS}
    (H : L_X7_firstOf_4 g l K X x1 0 0 σ) :
    CT g l M_X7_firstOf 0 [.ref (zad g 24), .int x1] σ (zQi K X) := by
  refine CT_of rfl (by decide) (Nat.le_of_ble_eq_true rfl) ?_
  change EV _ _ _ _ _ 0 [(0, .ref (zad g 24)), (1, .int x1)] [] _
  refine e_iconst (v := 0) dX7_firstOf_0 (by decide) ?_
  refine e_istore_n (ls' := [(2, .int 0), (0, .ref (zad g 24)), (1, .int x1)]) dX7_firstOf_1 rfl (by decide) rfl ?_
  refine e_iconst (v := 0) dX7_firstOf_2 (by decide) ?_
  refine e_istore_n (ls' := [(3, .int 0), (2, .int 0), (0, .ref (zad g 24)), (1, .int x1)]) dX7_firstOf_3 rfl (by decide) rfl ?_
  refine e_ls [2, 3, 1, 0] rfl ?_
  exact H
set_option maxRecDepth 20000 in
set_option maxHeartbeats 2000000 in
theorem b_X7_firstOf_4 {g : zG} {l : Launch} {K : Int32 → zS → Prop} {X : String → zS → Prop} {y1 : Int32} {y2 : Int32} {y3 : Int32} {σ : zS}
    (H : ((y1 ≤ y3 → K y2 σ) ∧ (¬ y1 ≤ y3 → CT g l M_X7_of 0 [.ref (zad g 24), .int y3, .int 0] σ (zQi (fun v2 τ2 => L_X7_firstOf_4 g l K X y1 (y2 + v2) (y3 + 1) τ2) (fun E τ => X E τ))))) :
    L_X7_firstOf_4 g l K X y1 y2 y3 σ := by
  refine e_iload_n dX7_firstOf_4 rfl 3 rfl ?_
  refine e_iload_n dX7_firstOf_5 rfl 1 rfl ?_
  refine e_icmp_ge (tgt := 24) dX7_firstOf_6 (by decide) (fun h1 => ?_) (fun h1 => ?_)
  · replace H := H.1 h1
    refine e_iload_n dX7_firstOf_24 rfl 2 rfl ?_
    exact e_iret rfl dX7_firstOf_25 H
  · replace H := H.2 h1
    refine e_iload_n dX7_firstOf_9 rfl 2 rfl ?_
    refine e_aload_n dX7_firstOf_10 rfl 0 rfl ?_
    refine e_iload_n dX7_firstOf_11 rfl 3 rfl ?_
    refine e_iconst (v := 0) dX7_firstOf_12 (by decide) ?_
    refine e_callVi (j1 := 0) (j2 := 0) (av := [.int y3, .int 0]) rfl rfl (Nat.le_of_ble_eq_true rfl) rfl rfl H i_X7_of rfl n_X7_of v_X7_of q_X7_164 (by decide) (by decide) (Nat.le_of_ble_eq_true rfl) dX7_firstOf_13 (fun v2 τ2 H => ?_) (fun E τ H => H)
    refine e_iadd dX7_firstOf_16 ?_
    refine e_istore_n (ls' := [(2, .int (y2 + v2)), (0, .ref (zad g 24)), (1, .int y1), (3, .int y3)]) dX7_firstOf_17 rfl (by decide) rfl ?_
    refine e_iinc (j := 3) (v := (y3 + 1)) (ls' := [(3, .int (y3 + 1)), (2, .int (y2 + v2)), (0, .ref (zad g 24)), (1, .int y1)]) dX7_firstOf_18 rfl rfl (by decide) rfl ?_
    refine e_goto (tgt := 4) dX7_firstOf_21 (by decide) ?_
    refine e_ls [2, 3, 1, 0] rfl ?_
    exact H
set_option maxRecDepth 20000 in
set_option maxHeartbeats 2000000 in
theorem b_X7_columns {g : zG} {l : Launch} {K : Int32 → zS → Prop} {X : String → zS → Prop} {σ : zS}
    (H : CT g l M_X7_firstOf 0 [.ref (zad g 24), .int (σ.1 26 (Int32.toNatClampNeg 1))] σ (zQi (fun v1 τ1 => K v1 τ1) (fun E τ => X E τ))) :
    CT g l M_X7_columns 0 [.ref (zad g 24)] σ (zQi K X) := by
  refine CT_of rfl (by decide) (Nat.le_of_ble_eq_true rfl) ?_
  change EV _ _ _ _ _ 0 [(0, .ref (zad g 24))] [] _
  refine e_aload_n dX7_columns_0 rfl 0 rfl ?_
  refine e_aload_n dX7_columns_1 rfl 0 rfl ?_
  refine fg_X7_20 rfl dX7_columns_2 ?_
  refine e_iconst (v := 1) dX7_columns_5 (by decide) ?_
  refine e_iald (n := 1110) rfl (Nat.le_of_ble_eq_true rfl) (vil (by decide)) dX7_columns_6 ?_
  refine e_callVi (j1 := 0) (j2 := 0) (av := [.int (σ.1 26 (Int32.toNatClampNeg 1))]) rfl rfl (Nat.le_of_ble_eq_true rfl) rfl rfl H i_X7_firstOf rfl n_X7_firstOf v_X7_firstOf q_X7_167 (by decide) (by decide) (Nat.le_of_ble_eq_true rfl) dX7_columns_7 (fun v1 τ1 H => ?_) (fun E τ H => H)
  exact e_iret rfl dX7_columns_10 H
set_option maxRecDepth 20000 in
set_option maxHeartbeats 2000000 in
theorem b_X7_cells {g : zG} {l : Launch} {K : Int32 → zS → Prop} {X : String → zS → Prop} {σ : zS}
    (H : CT g l M_X7_columns 0 [.ref (zad g 24)] σ (zQi (fun v1 τ1 => K (v1 * (τ1.1 26 (Int32.toNatClampNeg 0))) τ1) (fun E τ => X E τ))) :
    CT g l M_X7_cells 0 [.ref (zad g 24)] σ (zQi K X) := by
  refine CT_of rfl (by decide) (Nat.le_of_ble_eq_true rfl) ?_
  change EV _ _ _ _ _ 0 [(0, .ref (zad g 24))] [] _
  refine e_aload_n dX7_cells_0 rfl 0 rfl ?_
  refine e_callVi (j1 := 0) (j2 := 0) (av := []) rfl rfl (Nat.le_of_ble_eq_true rfl) rfl rfl H i_X7_columns rfl n_X7_columns v_X7_columns q_X7_170 (by decide) (by decide) (Nat.le_of_ble_eq_true rfl) dX7_cells_1 (fun v1 τ1 H => ?_) (fun E τ H => H)
  refine e_aload_n dX7_cells_4 rfl 0 rfl ?_
  refine fg_X7_20 rfl dX7_cells_5 ?_
  refine e_iconst (v := 0) dX7_cells_8 (by decide) ?_
  refine e_iald (n := 1110) rfl (Nat.le_of_ble_eq_true rfl) (vil (by decide)) dX7_cells_9 ?_
  refine e_imul dX7_cells_10 ?_
  exact e_iret rfl dX7_cells_11 H
abbrev L_X7_slatOf_4 (g : zG) (l : Launch) (K : Int32 → zS → Prop) (X : String → zS → Prop) (y2 : Int32) (y3 : Int32) (σ : zS) : Prop :=
  EV g l M_X7_slatOf 0 (zQi K X) 4 [(0, .ref (zad g 24)), (2, .int y2), (3, .int y3)] [] σ
set_option maxRecDepth 20000 in
set_option maxHeartbeats 2000000 in
theorem b_X7_slatOf {g : zG} {l : Launch} {K : Int32 → zS → Prop} {X : String → zS → Prop} {x1 : Int32} {σ : zS}
    (H : L_X7_slatOf_4 g l K X 0 x1 σ) :
    CT g l M_X7_slatOf 0 [.ref (zad g 24), .int x1] σ (zQi K X) := by
  refine CT_of rfl (by decide) (Nat.le_of_ble_eq_true rfl) ?_
  change EV _ _ _ _ _ 0 [(0, .ref (zad g 24)), (1, .int x1)] [] _
  refine e_iconst (v := 0) dX7_slatOf_0 (by decide) ?_
  refine e_istore_n (ls' := [(2, .int 0), (0, .ref (zad g 24)), (1, .int x1)]) dX7_slatOf_1 rfl (by decide) rfl ?_
  refine e_iload_n dX7_slatOf_2 rfl 2 rfl ?_
  refine e_istore_n (ls' := [(3, .int x1), (2, .int 0), (0, .ref (zad g 24)), (1, .int x1)]) dX7_slatOf_3 rfl (by decide) rfl ?_
  refine e_ls [2, 1, 0] rfl ?_
  exact H
set_option maxRecDepth 20000 in
set_option maxHeartbeats 2000000 in
theorem b_X7_slatOf_4 {g : zG} {l : Launch} {K : Int32 → zS → Prop} {X : String → zS → Prop} {y2 : Int32} {y3 : Int32} {σ : zS}
    (H : CT g l M_X7_of 0 [.ref (zad g 24), .int y2, .int 0] σ (zQi (fun v1 τ1 => ((y3 < v1 → K y2 τ1) ∧ (¬ y3 < v1 → CT g l M_X7_of 0 [.ref (zad g 24), .int y2, .int 0] τ1 (zQi (fun v3 τ3 => L_X7_slatOf_4 g l K X (y2 + 1) (y3 - v3) τ3) (fun E τ => X E τ))))) (fun E τ => X E τ))) :
    L_X7_slatOf_4 g l K X y2 y3 σ := by
  refine e_iload_n dX7_slatOf_4 rfl 2 rfl ?_
  refine e_aload_n dX7_slatOf_5 rfl 0 rfl ?_
  refine e_iload_n dX7_slatOf_6 rfl 1 rfl ?_
  refine e_iconst (v := 0) dX7_slatOf_7 (by decide) ?_
  refine e_callVi (j1 := 0) (j2 := 0) (av := [.int y2, .int 0]) rfl rfl (Nat.le_of_ble_eq_true rfl) rfl rfl H i_X7_of rfl n_X7_of v_X7_of q_X7_164 (by decide) (by decide) (Nat.le_of_ble_eq_true rfl) dX7_slatOf_8 (fun v1 τ1 H => ?_) (fun E τ H => H)
  refine e_icmp_lt (tgt := 29) dX7_slatOf_11 (by decide) (fun h2 => ?_) (fun h2 => ?_)
  · replace H := H.1 h2
    refine e_iload_n dX7_slatOf_29 rfl 1 rfl ?_
    exact e_iret rfl dX7_slatOf_30 H
  · replace H := H.2 h2
    refine e_iload_n dX7_slatOf_14 rfl 2 rfl ?_
    refine e_aload_n dX7_slatOf_15 rfl 0 rfl ?_
    refine e_iload_n dX7_slatOf_16 rfl 1 rfl ?_
    refine e_iconst (v := 0) dX7_slatOf_17 (by decide) ?_
    refine e_callVi (j1 := 0) (j2 := 0) (av := [.int y2, .int 0]) rfl rfl (Nat.le_of_ble_eq_true rfl) rfl rfl H i_X7_of rfl n_X7_of v_X7_of q_X7_164 (by decide) (by decide) (Nat.le_of_ble_eq_true rfl) dX7_slatOf_18 (fun v3 τ3 H => ?_) (fun E τ H => H)
    refine e_isub dX7_slatOf_21 ?_
    refine e_istore_n (ls' := [(3, .int (y3 - v3)), (0, .ref (zad g 24)), (2, .int y2)]) dX7_slatOf_22 rfl (by decide) rfl ?_
    refine e_iinc (j := 2) (v := (y2 + 1)) (ls' := [(2, .int (y2 + 1)), (3, .int (y3 - v3)), (0, .ref (zad g 24))]) dX7_slatOf_23 rfl rfl (by decide) rfl ?_
    refine e_goto (tgt := 4) dX7_slatOf_26 (by decide) ?_
    refine e_ls [2, 0, 1] rfl ?_
    exact H
abbrev L_X7_pictureAt_6 (g : zG) (l : Launch) (K : Int32 → zS → Prop) (X : String → zS → Prop) (y1 : Int32) (y2 : Int32) (y3 : Int32) (y4 : Int32) (y5 : Int32) (σ : zS) : Prop :=
  EV g l M_X7_pictureAt 0 (zQi K X) 6 [(0, .ref (zad g 24)), (1, .int y1), (2, .int y2), (3, .int y3), (4, .int y4), (5, .int y5)] [] σ
set_option maxRecDepth 20000 in
set_option maxHeartbeats 2000000 in
theorem b_X7_pictureAt {g : zG} {l : Launch} {K : Int32 → zS → Prop} {X : String → zS → Prop} {x1 : Int32} {x2 : Int32} {x3 : Int32} {σ : zS}
    (H : L_X7_pictureAt_6 g l K X x1 x2 x3 0 0 σ) :
    CT g l M_X7_pictureAt 0 [.ref (zad g 24), .int x1, .int x2, .int x3] σ (zQi K X) := by
  refine CT_of rfl (by decide) (Nat.le_of_ble_eq_true rfl) ?_
  change EV _ _ _ _ _ 0 [(0, .ref (zad g 24)), (1, .int x1), (2, .int x2), (3, .int x3)] [] _
  refine e_iconst (v := 0) dX7_pictureAt_0 (by decide) ?_
  refine e_istore (ls' := [(4, .int 0), (0, .ref (zad g 24)), (1, .int x1), (2, .int x2), (3, .int x3)]) dX7_pictureAt_1 (by decide) rfl ?_
  refine e_iconst (v := 0) dX7_pictureAt_3 (by decide) ?_
  refine e_istore (ls' := [(5, .int 0), (4, .int 0), (0, .ref (zad g 24)), (1, .int x1), (2, .int x2), (3, .int x3)]) dX7_pictureAt_4 (by decide) rfl ?_
  refine e_ls [2, 3, 4, 5, 1, 0] rfl ?_
  exact H
set_option maxRecDepth 20000 in
set_option maxHeartbeats 2000000 in
theorem b_X7_pictureAt_6 {g : zG} {l : Launch} {K : Int32 → zS → Prop} {X : String → zS → Prop} {y1 : Int32} {y2 : Int32} {y3 : Int32} {y4 : Int32} {y5 : Int32} {σ : zS}
    (H : (((σ.1 26 (Int32.toNatClampNeg 3)) ≤ y5 → K y4 σ) ∧ (¬ (σ.1 26 (Int32.toNatClampNeg 3)) ≤ y5 → CT g l M_X7_ofBox 0 [.ref (zad g 24), .int y5, .int 0] σ (zQi (fun v2 τ2 => ((¬ v2 = y1 → L_X7_pictureAt_6 g l K X y1 y2 y3 y4 (y5 + 1) τ2) ∧ (v2 = y1 → CT g l M_X7_ofBox 0 [.ref (zad g 24), .int y5, .int 1] τ2 (zQi (fun v5 τ5 => CT g l M_X7_ofBox 0 [.ref (zad g 24), .int y5, .int 3] τ5 (zQi (fun v6 τ6 => CT g l M_X7_isIn 0 [.long (Int32.toInt64 (y2 - v5)), .long (0 : Int64), .long (Int32.toInt64 (v6 - 1))] τ6 (zQi (fun v7 τ7 => ((v7 = 0 → L_X7_pictureAt_6 g l K X y1 y2 y3 y4 (y5 + 1) τ7) ∧ (¬ v7 = 0 → CT g l M_X7_ofBox 0 [.ref (zad g 24), .int y5, .int 2] τ7 (zQi (fun v10 τ10 => CT g l M_X7_ofBox 0 [.ref (zad g 24), .int y5, .int 4] τ10 (zQi (fun v11 τ11 => CT g l M_X7_isIn 0 [.long (Int32.toInt64 (y3 - v10)), .long (0 : Int64), .long (Int32.toInt64 (v11 - 1))] τ11 (zQi (fun v12 τ12 => ((v12 = 0 → L_X7_pictureAt_6 g l K X y1 y2 y3 y4 (y5 + 1) τ12) ∧ (¬ v12 = 0 → CT g l M_X7_ofBox 0 [.ref (zad g 24), .int y5, .int 5] τ12 (zQi (fun v16 τ16 => L_X7_pictureAt_6 g l K X y1 y2 y3 v16 (y5 + 1) τ16) (fun E τ => X E τ))))) (fun E τ => X E τ))) (fun E τ => X E τ))) (fun E τ => X E τ))))) (fun E τ => X E τ))) (fun E τ => X E τ))) (fun E τ => X E τ))))) (fun E τ => X E τ))))) :
    L_X7_pictureAt_6 g l K X y1 y2 y3 y4 y5 σ := by
  refine e_iload dX7_pictureAt_6 5 rfl ?_
  refine e_aload_n dX7_pictureAt_8 rfl 0 rfl ?_
  refine fg_X7_20 rfl dX7_pictureAt_9 ?_
  refine e_iconst (v := 3) dX7_pictureAt_12 (by decide) ?_
  refine e_iald (n := 1110) rfl (Nat.le_of_ble_eq_true rfl) (vil (by decide)) dX7_pictureAt_13 ?_
  refine e_icmp_ge (tgt := 114) dX7_pictureAt_14 (by decide) (fun h1 => ?_) (fun h1 => ?_)
  · replace H := H.1 h1
    refine e_iload dX7_pictureAt_114 4 rfl ?_
    exact e_iret rfl dX7_pictureAt_116 H
  · replace H := H.2 h1
    refine e_aload_n dX7_pictureAt_17 rfl 0 rfl ?_
    refine e_iload dX7_pictureAt_18 5 rfl ?_
    refine e_iconst (v := 0) dX7_pictureAt_20 (by decide) ?_
    refine e_callVi (j1 := 0) (j2 := 0) (av := [.int y5, .int 0]) rfl rfl (Nat.le_of_ble_eq_true rfl) rfl rfl H i_X7_ofBox rfl n_X7_ofBox v_X7_ofBox q_X7_174 (by decide) (by decide) (Nat.le_of_ble_eq_true rfl) dX7_pictureAt_21 (fun v2 τ2 H => ?_) (fun E τ H => H)
    refine e_iload_n dX7_pictureAt_24 rfl 1 rfl ?_
    refine e_icmp_ne (tgt := 86) dX7_pictureAt_25 (by decide) (fun h3 => ?_) (fun h3 => ?_)
    · replace H := H.1 h3
      refine e_iconst (v := 0) dX7_pictureAt_86 (by decide) ?_
      refine e_istore (ls' := [(6, .int 0), (0, .ref (zad g 24)), (1, .int y1), (2, .int y2), (3, .int y3), (4, .int y4), (5, .int y5)]) dX7_pictureAt_87 (by decide) rfl ?_
      refine e_iload dX7_pictureAt_89 0 rfl ?_
      refine e_if_eq (tgt := 104) dX7_pictureAt_91 (by decide) (fun h4 => ?_) (fun h4 => ?_)
      · refine e_iload dX7_pictureAt_104 5 rfl ?_
        refine e_istore (ls' := [(4, .int y4), (6, .int 0), (0, .ref (zad g 24)), (1, .int y1), (2, .int y2), (3, .int y3), (5, .int y5)]) dX7_pictureAt_106 (by decide) rfl ?_
        refine e_iinc (j := 6) (v := (y5 + 1)) (ls' := [(5, .int (y5 + 1)), (4, .int y4), (6, .int 0), (0, .ref (zad g 24)), (1, .int y1), (2, .int y2), (3, .int y3)]) dX7_pictureAt_108 rfl rfl (by decide) rfl ?_
        refine e_goto (tgt := 6) dX7_pictureAt_111 (by decide) ?_
        refine e_ls [3, 4, 5, 6, 1, 0] rfl ?_
        exact H
      · exact absurd h4 (by decide)
    · replace H := H.2 h3
      refine e_iload_n dX7_pictureAt_28 rfl 2 rfl ?_
      refine e_aload_n dX7_pictureAt_29 rfl 0 rfl ?_
      refine e_iload dX7_pictureAt_30 5 rfl ?_
      refine e_iconst (v := 1) dX7_pictureAt_32 (by decide) ?_
      refine e_callVi (j1 := 0) (j2 := 0) (av := [.int y5, .int 1]) rfl rfl (Nat.le_of_ble_eq_true rfl) rfl rfl H i_X7_ofBox rfl n_X7_ofBox v_X7_ofBox q_X7_174 (by decide) (by decide) (Nat.le_of_ble_eq_true rfl) dX7_pictureAt_33 (fun v5 τ5 H => ?_) (fun E τ H => H)
      refine e_isub dX7_pictureAt_36 ?_
      refine e_i2l (v := Int32.toInt64 (y2 - v5)) dX7_pictureAt_37 rfl ?_
      refine e_lconst (v := 0) dX7_pictureAt_38 (by decide) ?_
      refine e_aload_n dX7_pictureAt_39 rfl 0 rfl ?_
      refine e_iload dX7_pictureAt_40 5 rfl ?_
      refine e_iconst (v := 3) dX7_pictureAt_42 (by decide) ?_
      refine e_callVi (j1 := 0) (j2 := 0) (av := [.int y5, .int 3]) rfl rfl (Nat.le_of_ble_eq_true rfl) rfl rfl H i_X7_ofBox rfl n_X7_ofBox v_X7_ofBox q_X7_174 (by decide) (by decide) (Nat.le_of_ble_eq_true rfl) dX7_pictureAt_43 (fun v6 τ6 H => ?_) (fun E τ H => H)
      refine e_iconst (v := 1) dX7_pictureAt_46 (by decide) ?_
      refine e_isub dX7_pictureAt_47 ?_
      refine e_i2l (v := Int32.toInt64 (v6 - 1)) dX7_pictureAt_48 rfl ?_
      refine e_callSi (j1 := 0) (j2 := 0) (av := [.long (Int32.toInt64 (y2 - v5)), .long (0 : Int64), .long (Int32.toInt64 (v6 - 1))]) rfl H i_X7_isIn rfl s_X7_isIn q_X7_85 (by decide) (by decide) (Nat.le_of_ble_eq_true rfl) dX7_pictureAt_49 (fun v7 τ7 H => ?_) (fun E τ H => H)
      refine e_if_eq (tgt := 86) dX7_pictureAt_52 (by decide) (fun h8 => ?_) (fun h8 => ?_)
      · replace H := H.1 h8
        refine e_iconst (v := 0) dX7_pictureAt_86 (by decide) ?_
        refine e_istore (ls' := [(6, .int 0), (0, .ref (zad g 24)), (1, .int y1), (2, .int y2), (3, .int y3), (4, .int y4), (5, .int y5)]) dX7_pictureAt_87 (by decide) rfl ?_
        refine e_iload dX7_pictureAt_89 0 rfl ?_
        refine e_if_eq (tgt := 104) dX7_pictureAt_91 (by decide) (fun h9 => ?_) (fun h9 => ?_)
        · refine e_iload dX7_pictureAt_104 5 rfl ?_
          refine e_istore (ls' := [(4, .int y4), (6, .int 0), (0, .ref (zad g 24)), (1, .int y1), (2, .int y2), (3, .int y3), (5, .int y5)]) dX7_pictureAt_106 (by decide) rfl ?_
          refine e_iinc (j := 6) (v := (y5 + 1)) (ls' := [(5, .int (y5 + 1)), (4, .int y4), (6, .int 0), (0, .ref (zad g 24)), (1, .int y1), (2, .int y2), (3, .int y3)]) dX7_pictureAt_108 rfl rfl (by decide) rfl ?_
          refine e_goto (tgt := 6) dX7_pictureAt_111 (by decide) ?_
          refine e_ls [3, 4, 5, 6, 1, 0] rfl ?_
          exact H
        · exact absurd h9 (by decide)
      · replace H := H.2 h8
        refine e_iload_n dX7_pictureAt_55 rfl 3 rfl ?_
        refine e_aload_n dX7_pictureAt_56 rfl 0 rfl ?_
        refine e_iload dX7_pictureAt_57 5 rfl ?_
        refine e_iconst (v := 2) dX7_pictureAt_59 (by decide) ?_
        refine e_callVi (j1 := 0) (j2 := 0) (av := [.int y5, .int 2]) rfl rfl (Nat.le_of_ble_eq_true rfl) rfl rfl H i_X7_ofBox rfl n_X7_ofBox v_X7_ofBox q_X7_174 (by decide) (by decide) (Nat.le_of_ble_eq_true rfl) dX7_pictureAt_60 (fun v10 τ10 H => ?_) (fun E τ H => H)
        refine e_isub dX7_pictureAt_63 ?_
        refine e_i2l (v := Int32.toInt64 (y3 - v10)) dX7_pictureAt_64 rfl ?_
        refine e_lconst (v := 0) dX7_pictureAt_65 (by decide) ?_
        refine e_aload_n dX7_pictureAt_66 rfl 0 rfl ?_
        refine e_iload dX7_pictureAt_67 5 rfl ?_
        refine e_iconst (v := 4) dX7_pictureAt_69 (by decide) ?_
        refine e_callVi (j1 := 0) (j2 := 0) (av := [.int y5, .int 4]) rfl rfl (Nat.le_of_ble_eq_true rfl) rfl rfl H i_X7_ofBox rfl n_X7_ofBox v_X7_ofBox q_X7_174 (by decide) (by decide) (Nat.le_of_ble_eq_true rfl) dX7_pictureAt_70 (fun v11 τ11 H => ?_) (fun E τ H => H)
        refine e_iconst (v := 1) dX7_pictureAt_73 (by decide) ?_
        refine e_isub dX7_pictureAt_74 ?_
        refine e_i2l (v := Int32.toInt64 (v11 - 1)) dX7_pictureAt_75 rfl ?_
        refine e_callSi (j1 := 0) (j2 := 0) (av := [.long (Int32.toInt64 (y3 - v10)), .long (0 : Int64), .long (Int32.toInt64 (v11 - 1))]) rfl H i_X7_isIn rfl s_X7_isIn q_X7_85 (by decide) (by decide) (Nat.le_of_ble_eq_true rfl) dX7_pictureAt_76 (fun v12 τ12 H => ?_) (fun E τ H => H)
        refine e_if_eq (tgt := 86) dX7_pictureAt_79 (by decide) (fun h13 => ?_) (fun h13 => ?_)
        · replace H := H.1 h13
          refine e_iconst (v := 0) dX7_pictureAt_86 (by decide) ?_
          refine e_istore (ls' := [(6, .int 0), (0, .ref (zad g 24)), (1, .int y1), (2, .int y2), (3, .int y3), (4, .int y4), (5, .int y5)]) dX7_pictureAt_87 (by decide) rfl ?_
          refine e_iload dX7_pictureAt_89 0 rfl ?_
          refine e_if_eq (tgt := 104) dX7_pictureAt_91 (by decide) (fun h14 => ?_) (fun h14 => ?_)
          · refine e_iload dX7_pictureAt_104 5 rfl ?_
            refine e_istore (ls' := [(4, .int y4), (6, .int 0), (0, .ref (zad g 24)), (1, .int y1), (2, .int y2), (3, .int y3), (5, .int y5)]) dX7_pictureAt_106 (by decide) rfl ?_
            refine e_iinc (j := 6) (v := (y5 + 1)) (ls' := [(5, .int (y5 + 1)), (4, .int y4), (6, .int 0), (0, .ref (zad g 24)), (1, .int y1), (2, .int y2), (3, .int y3)]) dX7_pictureAt_108 rfl rfl (by decide) rfl ?_
            refine e_goto (tgt := 6) dX7_pictureAt_111 (by decide) ?_
            refine e_ls [3, 4, 5, 6, 1, 0] rfl ?_
            exact H
          · exact absurd h14 (by decide)
        · replace H := H.2 h13
          refine e_iconst (v := 1) dX7_pictureAt_82 (by decide) ?_
          refine e_goto (tgt := 87) dX7_pictureAt_83 (by decide) ?_
          refine e_istore (ls' := [(6, .int 1), (0, .ref (zad g 24)), (1, .int y1), (2, .int y2), (3, .int y3), (4, .int y4), (5, .int y5)]) dX7_pictureAt_87 (by decide) rfl ?_
          refine e_iload dX7_pictureAt_89 0 rfl ?_
          refine e_if_eq (tgt := 104) dX7_pictureAt_91 (by decide) (fun h15 => ?_) (fun h15 => ?_)
          · exact absurd h15 (by decide)
          · refine e_aload_n dX7_pictureAt_94 rfl 1 rfl ?_
            refine e_iload dX7_pictureAt_95 6 rfl ?_
            refine e_iconst (v := 5) dX7_pictureAt_97 (by decide) ?_
            refine e_callVi (j1 := 0) (j2 := 0) (av := [.int y5, .int 5]) rfl rfl (Nat.le_of_ble_eq_true rfl) rfl rfl H i_X7_ofBox rfl n_X7_ofBox v_X7_ofBox q_X7_174 (by decide) (by decide) (Nat.le_of_ble_eq_true rfl) dX7_pictureAt_98 (fun v16 τ16 H => ?_) (fun E τ H => H)
            refine e_goto (tgt := 106) dX7_pictureAt_101 (by decide) ?_
            refine e_istore (ls' := [(4, .int v16), (6, .int 1), (0, .ref (zad g 24)), (1, .int y1), (2, .int y2), (3, .int y3), (5, .int y5)]) dX7_pictureAt_106 (by decide) rfl ?_
            refine e_iinc (j := 6) (v := (y5 + 1)) (ls' := [(5, .int (y5 + 1)), (4, .int v16), (6, .int 1), (0, .ref (zad g 24)), (1, .int y1), (2, .int y2), (3, .int y3)]) dX7_pictureAt_108 rfl rfl (by decide) rfl ?_
            refine e_goto (tgt := 6) dX7_pictureAt_111 (by decide) ?_
            refine e_ls [3, 4, 5, 6, 1, 0] rfl ?_
            exact H
abbrev L_X7_repaints_13 (g : zG) (l : Launch) (K : Int32 → zS → Prop) (X : String → zS → Prop) (y1 : Int32) (y2 : Int32) (y3 : Int32) (y4 : Int32) (y5 : Int32) (σ : zS) : Prop :=
  EV g l M_X7_repaints 0 (zQi K X) 13 [(0, .ref (zad g 24)), (1, .int y1), (2, .int y2), (3, .int y3), (4, .int y4), (5, .int y5)] [] σ
abbrev L_X7_repaints_30 (g : zG) (l : Launch) (K : Int32 → zS → Prop) (X : String → zS → Prop) (y1 : Int32) (y2 : Int32) (y3 : Int32) (y4 : Int32) (y5 : Int32) (y6 : Int32) (σ : zS) : Prop :=
  EV g l M_X7_repaints 0 (zQi K X) 30 [(0, .ref (zad g 24)), (1, .int y1), (2, .int y2), (3, .int y3), (4, .int y4), (5, .int y5), (6, .int y6)] [] σ
set_option maxRecDepth 20000 in
set_option maxHeartbeats 2000000 in
theorem b_X7_repaints {g : zG} {l : Launch} {K : Int32 → zS → Prop} {X : String → zS → Prop} {x1 : Int32} {x2 : Int32} {σ : zS}
    (H : CT g l M_X7_firstOf 0 [.ref (zad g 24), .int x1] σ (zQi (fun v1 τ1 => L_X7_repaints_13 g l K X x1 x2 0 v1 v1 τ1) (fun E τ => X E τ))) :
    CT g l M_X7_repaints 0 [.ref (zad g 24), .int x1, .int x2] σ (zQi K X) := by
  refine CT_of rfl (by decide) (Nat.le_of_ble_eq_true rfl) ?_
  change EV _ _ _ _ _ 0 [(0, .ref (zad g 24)), (1, .int x1), (2, .int x2)] [] _
  refine e_iconst (v := 0) dX7_repaints_0 (by decide) ?_
  refine e_istore_n (ls' := [(3, .int 0), (0, .ref (zad g 24)), (1, .int x1), (2, .int x2)]) dX7_repaints_1 rfl (by decide) rfl ?_
  refine e_aload_n dX7_repaints_2 rfl 1 rfl ?_
  refine e_iload_n dX7_repaints_3 rfl 2 rfl ?_
  refine e_callVi (j1 := 0) (j2 := 0) (av := [.int x1]) rfl rfl (Nat.le_of_ble_eq_true rfl) rfl rfl H i_X7_firstOf rfl n_X7_firstOf v_X7_firstOf q_X7_167 (by decide) (by decide) (Nat.le_of_ble_eq_true rfl) dX7_repaints_4 (fun v1 τ1 H => ?_) (fun E τ H => H)
  refine e_istore (ls' := [(4, .int v1), (3, .int 0), (0, .ref (zad g 24)), (1, .int x1), (2, .int x2)]) dX7_repaints_7 (by decide) rfl ?_
  refine e_iload dX7_repaints_9 0 rfl ?_
  refine e_istore (ls' := [(5, .int v1), (4, .int v1), (3, .int 0), (0, .ref (zad g 24)), (1, .int x1), (2, .int x2)]) dX7_repaints_11 (by decide) rfl ?_
  refine e_ls [3, 4, 5, 2, 1, 0] rfl ?_
  exact H
set_option maxRecDepth 20000 in
set_option maxHeartbeats 2000000 in
theorem b_X7_repaints_13 {g : zG} {l : Launch} {K : Int32 → zS → Prop} {X : String → zS → Prop} {y1 : Int32} {y2 : Int32} {y3 : Int32} {y4 : Int32} {y5 : Int32} {σ : zS}
    (H : CT g l M_X7_of 0 [.ref (zad g 24), .int y1, .int 0] σ (zQi (fun v1 τ1 => (((y4 + v1) ≤ y5 → K y3 τ1) ∧ (¬ (y4 + v1) ≤ y5 → L_X7_repaints_30 g l K X y1 y2 y3 y4 y5 0 τ1))) (fun E τ => X E τ))) :
    L_X7_repaints_13 g l K X y1 y2 y3 y4 y5 σ := by
  refine e_iload dX7_repaints_13 5 rfl ?_
  refine e_iload dX7_repaints_15 4 rfl ?_
  refine e_aload_n dX7_repaints_17 rfl 0 rfl ?_
  refine e_iload_n dX7_repaints_18 rfl 1 rfl ?_
  refine e_iconst (v := 0) dX7_repaints_19 (by decide) ?_
  refine e_callVi (j1 := 0) (j2 := 0) (av := [.int y1, .int 0]) rfl rfl (Nat.le_of_ble_eq_true rfl) rfl rfl H i_X7_of rfl n_X7_of v_X7_of q_X7_164 (by decide) (by decide) (Nat.le_of_ble_eq_true rfl) dX7_repaints_20 (fun v1 τ1 H => ?_) (fun E τ H => H)
  refine e_iadd dX7_repaints_23 ?_
  refine e_icmp_ge (tgt := 104) dX7_repaints_24 (by decide) (fun h2 => ?_) (fun h2 => ?_)
  · replace H := H.1 h2
    refine e_iload_n dX7_repaints_104 rfl 3 rfl ?_
    exact e_iret rfl dX7_repaints_105 H
  · replace H := H.2 h2
    refine e_iconst (v := 0) dX7_repaints_27 (by decide) ?_
    refine e_istore (ls' := [(6, .int 0), (0, .ref (zad g 24)), (1, .int y1), (2, .int y2), (3, .int y3), (4, .int y4), (5, .int y5)]) dX7_repaints_28 (by decide) rfl ?_
    refine e_ls [1, 2, 3, 4, 5, 6, 0] rfl ?_
    exact H
set_option maxRecDepth 20000 in
set_option maxHeartbeats 2000000 in
theorem b_X7_repaints_30 {g : zG} {l : Launch} {K : Int32 → zS → Prop} {X : String → zS → Prop} {y1 : Int32} {y2 : Int32} {y3 : Int32} {y4 : Int32} {y5 : Int32} {y6 : Int32} {σ : zS}
    (H : (((σ.1 26 (Int32.toNatClampNeg 0)) ≤ y6 → L_X7_repaints_13 g l K X y1 y2 y3 y4 (y5 + 1) σ) ∧ (¬ (σ.1 26 (Int32.toNatClampNeg 0)) ≤ y6 → CT g l M_X7_pictureAt 0 [.ref (zad g 24), .int y2, .int y5, .int y6] σ (zQi (fun v2 τ2 => CT g l M_X7_painted 0 [.ref (zad g 24), .int y2, .int y5, .int y6] τ2 (zQi (fun v3 τ3 => ((v3 = v2 → CT g l M_X7_truth 0 [.int 0] τ3 (zQi (fun v5 τ5 => CT g l M_X7_faceCell 0 [.int y2, .int y5, .int y6] τ5 (zQi (fun v6 τ6 => (vp_in v6 1110 ∧ (∀ σ7 : zS, σ7 = zup τ6 26 (Int32.toNatClampNeg v6) v2 → L_X7_repaints_30 g l K X y1 y2 (y3 + v5) y4 y5 (y6 + 1) σ7))) (fun E τ => X E τ))) (fun E τ => X E τ))) ∧ (¬ v3 = v2 → CT g l M_X7_truth 0 [.int 1] τ3 (zQi (fun v8 τ8 => CT g l M_X7_faceCell 0 [.int y2, .int y5, .int y6] τ8 (zQi (fun v9 τ9 => (vp_in v9 1110 ∧ (∀ σ10 : zS, σ10 = zup τ9 26 (Int32.toNatClampNeg v9) v2 → L_X7_repaints_30 g l K X y1 y2 (y3 + v8) y4 y5 (y6 + 1) σ10))) (fun E τ => X E τ))) (fun E τ => X E τ))))) (fun E τ => X E τ))) (fun E τ => X E τ))))) :
    L_X7_repaints_30 g l K X y1 y2 y3 y4 y5 y6 σ := by
  refine e_iload dX7_repaints_30 6 rfl ?_
  refine e_aload_n dX7_repaints_32 rfl 0 rfl ?_
  refine fg_X7_20 rfl dX7_repaints_33 ?_
  refine e_iconst (v := 0) dX7_repaints_36 (by decide) ?_
  refine e_iald (n := 1110) rfl (Nat.le_of_ble_eq_true rfl) (vil (by decide)) dX7_repaints_37 ?_
  refine e_icmp_ge (tgt := 98) dX7_repaints_38 (by decide) (fun h1 => ?_) (fun h1 => ?_)
  · replace H := H.1 h1
    refine e_iinc (j := 5) (v := (y5 + 1)) (ls' := [(5, .int (y5 + 1)), (0, .ref (zad g 24)), (1, .int y1), (2, .int y2), (3, .int y3), (4, .int y4), (6, .int y6)]) dX7_repaints_98 rfl rfl (by decide) rfl ?_
    refine e_goto (tgt := 13) dX7_repaints_101 (by decide) ?_
    refine e_ls [1, 2, 3, 4, 5, 0] rfl ?_
    exact H
  · replace H := H.2 h1
    refine e_aload_n dX7_repaints_41 rfl 0 rfl ?_
    refine e_iload_n dX7_repaints_42 rfl 2 rfl ?_
    refine e_iload dX7_repaints_43 5 rfl ?_
    refine e_iload dX7_repaints_45 6 rfl ?_
    refine e_callVi (j1 := 0) (j2 := 0) (av := [.int y2, .int y5, .int y6]) rfl rfl (Nat.le_of_ble_eq_true rfl) rfl rfl H i_X7_pictureAt rfl n_X7_pictureAt v_X7_pictureAt q_X7_177 (by decide) (by decide) (Nat.le_of_ble_eq_true rfl) dX7_repaints_47 (fun v2 τ2 H => ?_) (fun E τ H => H)
    refine e_istore (ls' := [(7, .int v2), (0, .ref (zad g 24)), (1, .int y1), (2, .int y2), (3, .int y3), (4, .int y4), (5, .int y5), (6, .int y6)]) dX7_repaints_50 (by decide) rfl ?_
    refine e_iload_n dX7_repaints_52 rfl 4 rfl ?_
    refine e_aload_n dX7_repaints_53 rfl 1 rfl ?_
    refine e_iload_n dX7_repaints_54 rfl 3 rfl ?_
    refine e_iload dX7_repaints_55 6 rfl ?_
    refine e_iload dX7_repaints_57 7 rfl ?_
    refine e_callVi (j1 := 0) (j2 := 0) (av := [.int y2, .int y5, .int y6]) rfl rfl (Nat.le_of_ble_eq_true rfl) rfl rfl H i_X7_painted rfl n_X7_painted v_X7_painted q_X7_180 (by decide) (by decide) (Nat.le_of_ble_eq_true rfl) dX7_repaints_59 (fun v3 τ3 H => ?_) (fun E τ H => H)
    refine e_iload dX7_repaints_62 0 rfl ?_
    refine e_icmp_eq (tgt := 71) dX7_repaints_64 (by decide) (fun h4 => ?_) (fun h4 => ?_)
    · replace H := H.1 h4
      refine e_iconst (v := 0) dX7_repaints_71 (by decide) ?_
      refine e_callSi (j1 := 0) (j2 := 0) (av := [.int 0]) rfl H i_X7_truth rfl s_X7_truth q_X7_71 (by decide) (by decide) (Nat.le_of_ble_eq_true rfl) dX7_repaints_72 (fun v5 τ5 H => ?_) (fun E τ H => H)
      refine e_iadd dX7_repaints_75 ?_
      refine e_istore_n (ls' := [(3, .int (y3 + v5)), (7, .int v2), (0, .ref (zad g 24)), (1, .int y1), (2, .int y2), (4, .int y4), (5, .int y5), (6, .int y6)]) dX7_repaints_76 rfl (by decide) rfl ?_
      refine e_aload_n dX7_repaints_77 rfl 2 rfl ?_
      refine fg_X7_20 rfl dX7_repaints_78 ?_
      refine e_iload_n dX7_repaints_81 rfl 4 rfl ?_
      refine e_iload dX7_repaints_82 6 rfl ?_
      refine e_iload dX7_repaints_84 7 rfl ?_
      refine e_callSi (j1 := 0) (j2 := 0) (av := [.int y2, .int y5, .int y6]) rfl H i_X7_faceCell rfl s_X7_faceCell q_X7_160 (by decide) (by decide) (Nat.le_of_ble_eq_true rfl) dX7_repaints_86 (fun v6 τ6 H => ?_) (fun E τ H => H)
      refine e_iload dX7_repaints_89 1 rfl ?_
      refine e_iast (n := 1110) rfl (Nat.le_of_ble_eq_true rfl) H.1 dX7_repaints_91 ?_
      replace H := H.2
      replace H := H _ rfl
      generalize zup τ6 26 (Int32.toNatClampNeg v6) v2 = σ7 at H ⊢
      refine e_iinc (j := 7) (v := (y6 + 1)) (ls' := [(6, .int (y6 + 1)), (3, .int (y3 + v5)), (7, .int v2), (0, .ref (zad g 24)), (1, .int y1), (2, .int y2), (4, .int y4), (5, .int y5)]) dX7_repaints_92 rfl rfl (by decide) rfl ?_
      refine e_goto (tgt := 30) dX7_repaints_95 (by decide) ?_
      refine e_ls [3, 4, 5, 1, 6, 7, 0] rfl ?_
      exact H
    · replace H := H.2 h4
      refine e_iconst (v := 1) dX7_repaints_67 (by decide) ?_
      refine e_goto (tgt := 72) dX7_repaints_68 (by decide) ?_
      refine e_callSi (j1 := 0) (j2 := 0) (av := [.int 1]) rfl H i_X7_truth rfl s_X7_truth q_X7_71 (by decide) (by decide) (Nat.le_of_ble_eq_true rfl) dX7_repaints_72 (fun v8 τ8 H => ?_) (fun E τ H => H)
      refine e_iadd dX7_repaints_75 ?_
      refine e_istore_n (ls' := [(3, .int (y3 + v8)), (7, .int v2), (0, .ref (zad g 24)), (1, .int y1), (2, .int y2), (4, .int y4), (5, .int y5), (6, .int y6)]) dX7_repaints_76 rfl (by decide) rfl ?_
      refine e_aload_n dX7_repaints_77 rfl 2 rfl ?_
      refine fg_X7_20 rfl dX7_repaints_78 ?_
      refine e_iload_n dX7_repaints_81 rfl 4 rfl ?_
      refine e_iload dX7_repaints_82 6 rfl ?_
      refine e_iload dX7_repaints_84 7 rfl ?_
      refine e_callSi (j1 := 0) (j2 := 0) (av := [.int y2, .int y5, .int y6]) rfl H i_X7_faceCell rfl s_X7_faceCell q_X7_160 (by decide) (by decide) (Nat.le_of_ble_eq_true rfl) dX7_repaints_86 (fun v9 τ9 H => ?_) (fun E τ H => H)
      refine e_iload dX7_repaints_89 1 rfl ?_
      refine e_iast (n := 1110) rfl (Nat.le_of_ble_eq_true rfl) H.1 dX7_repaints_91 ?_
      replace H := H.2
      replace H := H _ rfl
      generalize zup τ9 26 (Int32.toNatClampNeg v9) v2 = σ10 at H ⊢
      refine e_iinc (j := 7) (v := (y6 + 1)) (ls' := [(6, .int (y6 + 1)), (3, .int (y3 + v8)), (7, .int v2), (0, .ref (zad g 24)), (1, .int y1), (2, .int y2), (4, .int y4), (5, .int y5)]) dX7_repaints_92 rfl rfl (by decide) rfl ?_
      refine e_goto (tgt := 30) dX7_repaints_95 (by decide) ?_
      refine e_ls [3, 4, 5, 1, 6, 7, 0] rfl ?_
      exact H
abbrev L_X7_unlike_13 (g : zG) (l : Launch) (K : Int32 → zS → Prop) (X : String → zS → Prop) (y1 : Int32) (y2 : Int32) (y3 : Int32) (y4 : Int32) (y5 : Int32) (σ : zS) : Prop :=
  EV g l M_X7_unlike 0 (zQi K X) 13 [(0, .ref (zad g 24)), (1, .int y1), (2, .int y2), (3, .int y3), (4, .int y4), (5, .int y5)] [] σ
abbrev L_X7_unlike_30 (g : zG) (l : Launch) (K : Int32 → zS → Prop) (X : String → zS → Prop) (y1 : Int32) (y2 : Int32) (y3 : Int32) (y4 : Int32) (y5 : Int32) (y6 : Int32) (σ : zS) : Prop :=
  EV g l M_X7_unlike 0 (zQi K X) 30 [(0, .ref (zad g 24)), (1, .int y1), (2, .int y2), (3, .int y3), (4, .int y4), (5, .int y5), (6, .int y6)] [] σ
set_option maxRecDepth 20000 in
set_option maxHeartbeats 2000000 in
theorem b_X7_unlike {g : zG} {l : Launch} {K : Int32 → zS → Prop} {X : String → zS → Prop} {x1 : Int32} {x2 : Int32} {σ : zS}
    (H : CT g l M_X7_firstOf 0 [.ref (zad g 24), .int x1] σ (zQi (fun v1 τ1 => L_X7_unlike_13 g l K X x1 x2 0 v1 v1 τ1) (fun E τ => X E τ))) :
    CT g l M_X7_unlike 0 [.ref (zad g 24), .int x1, .int x2] σ (zQi K X) := by
  refine CT_of rfl (by decide) (Nat.le_of_ble_eq_true rfl) ?_
  change EV _ _ _ _ _ 0 [(0, .ref (zad g 24)), (1, .int x1), (2, .int x2)] [] _
  refine e_iconst (v := 0) dX7_unlike_0 (by decide) ?_
  refine e_istore_n (ls' := [(3, .int 0), (0, .ref (zad g 24)), (1, .int x1), (2, .int x2)]) dX7_unlike_1 rfl (by decide) rfl ?_
  refine e_aload_n dX7_unlike_2 rfl 1 rfl ?_
  refine e_iload_n dX7_unlike_3 rfl 2 rfl ?_
  refine e_callVi (j1 := 0) (j2 := 0) (av := [.int x1]) rfl rfl (Nat.le_of_ble_eq_true rfl) rfl rfl H i_X7_firstOf rfl n_X7_firstOf v_X7_firstOf q_X7_167 (by decide) (by decide) (Nat.le_of_ble_eq_true rfl) dX7_unlike_4 (fun v1 τ1 H => ?_) (fun E τ H => H)
  refine e_istore (ls' := [(4, .int v1), (3, .int 0), (0, .ref (zad g 24)), (1, .int x1), (2, .int x2)]) dX7_unlike_7 (by decide) rfl ?_
  refine e_iload dX7_unlike_9 0 rfl ?_
  refine e_istore (ls' := [(5, .int v1), (4, .int v1), (3, .int 0), (0, .ref (zad g 24)), (1, .int x1), (2, .int x2)]) dX7_unlike_11 (by decide) rfl ?_
  refine e_ls [3, 4, 5, 2, 1, 0] rfl ?_
  exact H
set_option maxRecDepth 20000 in
set_option maxHeartbeats 2000000 in
theorem b_X7_unlike_13 {g : zG} {l : Launch} {K : Int32 → zS → Prop} {X : String → zS → Prop} {y1 : Int32} {y2 : Int32} {y3 : Int32} {y4 : Int32} {y5 : Int32} {σ : zS}
    (H : CT g l M_X7_of 0 [.ref (zad g 24), .int y1, .int 0] σ (zQi (fun v1 τ1 => (((y4 + v1) ≤ y5 → K y3 τ1) ∧ (¬ (y4 + v1) ≤ y5 → L_X7_unlike_30 g l K X y1 y2 y3 y4 y5 0 τ1))) (fun E τ => X E τ))) :
    L_X7_unlike_13 g l K X y1 y2 y3 y4 y5 σ := by
  refine e_iload dX7_unlike_13 5 rfl ?_
  refine e_iload dX7_unlike_15 4 rfl ?_
  refine e_aload_n dX7_unlike_17 rfl 0 rfl ?_
  refine e_iload_n dX7_unlike_18 rfl 1 rfl ?_
  refine e_iconst (v := 0) dX7_unlike_19 (by decide) ?_
  refine e_callVi (j1 := 0) (j2 := 0) (av := [.int y1, .int 0]) rfl rfl (Nat.le_of_ble_eq_true rfl) rfl rfl H i_X7_of rfl n_X7_of v_X7_of q_X7_164 (by decide) (by decide) (Nat.le_of_ble_eq_true rfl) dX7_unlike_20 (fun v1 τ1 H => ?_) (fun E τ H => H)
  refine e_iadd dX7_unlike_23 ?_
  refine e_icmp_ge (tgt := 85) dX7_unlike_24 (by decide) (fun h2 => ?_) (fun h2 => ?_)
  · replace H := H.1 h2
    refine e_iload_n dX7_unlike_85 rfl 3 rfl ?_
    exact e_iret rfl dX7_unlike_86 H
  · replace H := H.2 h2
    refine e_iconst (v := 0) dX7_unlike_27 (by decide) ?_
    refine e_istore (ls' := [(6, .int 0), (0, .ref (zad g 24)), (1, .int y1), (2, .int y2), (3, .int y3), (4, .int y4), (5, .int y5)]) dX7_unlike_28 (by decide) rfl ?_
    refine e_ls [1, 2, 3, 4, 5, 6, 0] rfl ?_
    exact H
set_option maxRecDepth 20000 in
set_option maxHeartbeats 2000000 in
theorem b_X7_unlike_30 {g : zG} {l : Launch} {K : Int32 → zS → Prop} {X : String → zS → Prop} {y1 : Int32} {y2 : Int32} {y3 : Int32} {y4 : Int32} {y5 : Int32} {y6 : Int32} {σ : zS}
    (H : (((σ.1 26 (Int32.toNatClampNeg 0)) ≤ y6 → L_X7_unlike_13 g l K X y1 y2 y3 y4 (y5 + 1) σ) ∧ (¬ (σ.1 26 (Int32.toNatClampNeg 0)) ≤ y6 → CT g l M_X7_painted 0 [.ref (zad g 24), .int y2, .int y5, .int y6] σ (zQi (fun v2 τ2 => CT g l M_X7_pictureAt 0 [.ref (zad g 24), .int y2, .int y5, .int y6] τ2 (zQi (fun v3 τ3 => ((v2 = v3 → CT g l M_X7_truth 0 [.int 0] τ3 (zQi (fun v5 τ5 => L_X7_unlike_30 g l K X y1 y2 (y3 + v5) y4 y5 (y6 + 1) τ5) (fun E τ => X E τ))) ∧ (¬ v2 = v3 → CT g l M_X7_truth 0 [.int 1] τ3 (zQi (fun v6 τ6 => L_X7_unlike_30 g l K X y1 y2 (y3 + v6) y4 y5 (y6 + 1) τ6) (fun E τ => X E τ))))) (fun E τ => X E τ))) (fun E τ => X E τ))))) :
    L_X7_unlike_30 g l K X y1 y2 y3 y4 y5 y6 σ := by
  refine e_iload dX7_unlike_30 6 rfl ?_
  refine e_aload_n dX7_unlike_32 rfl 0 rfl ?_
  refine fg_X7_20 rfl dX7_unlike_33 ?_
  refine e_iconst (v := 0) dX7_unlike_36 (by decide) ?_
  refine e_iald (n := 1110) rfl (Nat.le_of_ble_eq_true rfl) (vil (by decide)) dX7_unlike_37 ?_
  refine e_icmp_ge (tgt := 79) dX7_unlike_38 (by decide) (fun h1 => ?_) (fun h1 => ?_)
  · replace H := H.1 h1
    refine e_iinc (j := 5) (v := (y5 + 1)) (ls' := [(5, .int (y5 + 1)), (0, .ref (zad g 24)), (1, .int y1), (2, .int y2), (3, .int y3), (4, .int y4), (6, .int y6)]) dX7_unlike_79 rfl rfl (by decide) rfl ?_
    refine e_goto (tgt := 13) dX7_unlike_82 (by decide) ?_
    refine e_ls [1, 2, 3, 4, 5, 0] rfl ?_
    exact H
  · replace H := H.2 h1
    refine e_iload_n dX7_unlike_41 rfl 3 rfl ?_
    refine e_aload_n dX7_unlike_42 rfl 0 rfl ?_
    refine e_iload_n dX7_unlike_43 rfl 2 rfl ?_
    refine e_iload dX7_unlike_44 5 rfl ?_
    refine e_iload dX7_unlike_46 6 rfl ?_
    refine e_callVi (j1 := 0) (j2 := 0) (av := [.int y2, .int y5, .int y6]) rfl rfl (Nat.le_of_ble_eq_true rfl) rfl rfl H i_X7_painted rfl n_X7_painted v_X7_painted q_X7_180 (by decide) (by decide) (Nat.le_of_ble_eq_true rfl) dX7_unlike_48 (fun v2 τ2 H => ?_) (fun E τ H => H)
    refine e_aload_n dX7_unlike_51 rfl 0 rfl ?_
    refine e_iload_n dX7_unlike_52 rfl 2 rfl ?_
    refine e_iload dX7_unlike_53 5 rfl ?_
    refine e_iload dX7_unlike_55 6 rfl ?_
    refine e_callVi (j1 := 0) (j2 := 0) (av := [.int y2, .int y5, .int y6]) rfl rfl (Nat.le_of_ble_eq_true rfl) rfl rfl H i_X7_pictureAt rfl n_X7_pictureAt v_X7_pictureAt q_X7_177 (by decide) (by decide) (Nat.le_of_ble_eq_true rfl) dX7_unlike_57 (fun v3 τ3 H => ?_) (fun E τ H => H)
    refine e_icmp_eq (tgt := 67) dX7_unlike_60 (by decide) (fun h4 => ?_) (fun h4 => ?_)
    · replace H := H.1 h4
      refine e_iconst (v := 0) dX7_unlike_67 (by decide) ?_
      refine e_callSi (j1 := 0) (j2 := 0) (av := [.int 0]) rfl H i_X7_truth rfl s_X7_truth q_X7_71 (by decide) (by decide) (Nat.le_of_ble_eq_true rfl) dX7_unlike_68 (fun v5 τ5 H => ?_) (fun E τ H => H)
      refine e_iadd dX7_unlike_71 ?_
      refine e_istore_n (ls' := [(3, .int (y3 + v5)), (0, .ref (zad g 24)), (1, .int y1), (2, .int y2), (4, .int y4), (5, .int y5), (6, .int y6)]) dX7_unlike_72 rfl (by decide) rfl ?_
      refine e_iinc (j := 6) (v := (y6 + 1)) (ls' := [(6, .int (y6 + 1)), (3, .int (y3 + v5)), (0, .ref (zad g 24)), (1, .int y1), (2, .int y2), (4, .int y4), (5, .int y5)]) dX7_unlike_73 rfl rfl (by decide) rfl ?_
      refine e_goto (tgt := 30) dX7_unlike_76 (by decide) ?_
      refine e_ls [2, 3, 4, 1, 5, 6, 0] rfl ?_
      exact H
    · replace H := H.2 h4
      refine e_iconst (v := 1) dX7_unlike_63 (by decide) ?_
      refine e_goto (tgt := 68) dX7_unlike_64 (by decide) ?_
      refine e_callSi (j1 := 0) (j2 := 0) (av := [.int 1]) rfl H i_X7_truth rfl s_X7_truth q_X7_71 (by decide) (by decide) (Nat.le_of_ble_eq_true rfl) dX7_unlike_68 (fun v6 τ6 H => ?_) (fun E τ H => H)
      refine e_iadd dX7_unlike_71 ?_
      refine e_istore_n (ls' := [(3, .int (y3 + v6)), (0, .ref (zad g 24)), (1, .int y1), (2, .int y2), (4, .int y4), (5, .int y5), (6, .int y6)]) dX7_unlike_72 rfl (by decide) rfl ?_
      refine e_iinc (j := 6) (v := (y6 + 1)) (ls' := [(6, .int (y6 + 1)), (3, .int (y3 + v6)), (0, .ref (zad g 24)), (1, .int y1), (2, .int y2), (4, .int y4), (5, .int y5)]) dX7_unlike_73 rfl rfl (by decide) rfl ?_
      refine e_goto (tgt := 30) dX7_unlike_76 (by decide) ?_
      refine e_ls [2, 3, 4, 1, 5, 6, 0] rfl ?_
      exact H
set_option maxRecDepth 20000 in
set_option maxHeartbeats 2000000 in
theorem b_X7_readsOnce {g : zG} {l : Launch} {K : zS → Prop} {X : String → zS → Prop} {x1 : Int32} {x2 : Int32} {x3 : Int32} {σ : zS}
    (H : CT g l M_X7_has 0 [.int (σ.1 24 20), .int x2] σ (zQi (fun v1 τ1 => ((v1 = 0 → (∀ σ3 : zS, σ3 = zup τ1 24 20 ((τ1.1 24 20) ||| (1 <<< (x2 &&& 31))) → CT g l M_X7_isGood 0 [.ref (zad g 24)] σ3 (zQi (fun v4 τ4 => ((v4 = 0 → CT g l M_X7_number 0 [.ref (zad g 24), .int 1, .int x3] τ4 (zQi (fun v6 τ6 => CT g l M_X7_isGood 0 [.ref (zad g 24)] τ6 (zQi (fun v7 τ7 => ((v7 = 0 → K τ7) ∧ (¬ v7 = 0 → (vp_in x1 1110 ∧ (∀ σ9 : zS, σ9 = zup τ7 26 (Int32.toNatClampNeg x1) v6 → K σ9))))) (fun E τ => X E τ))) (fun E τ => X E τ))) ∧ (¬ v4 = 0 → CT g l M_X7_goOn 0 [.ref (zad g 24)] τ4 (zQv (fun τ10 => CT g l M_X7_number 0 [.ref (zad g 24), .int 1, .int x3] τ10 (zQi (fun v11 τ11 => CT g l M_X7_isGood 0 [.ref (zad g 24)] τ11 (zQi (fun v12 τ12 => ((v12 = 0 → K τ12) ∧ (¬ v12 = 0 → (vp_in x1 1110 ∧ (∀ σ14 : zS, σ14 = zup τ12 26 (Int32.toNatClampNeg x1) v11 → K σ14))))) (fun E τ => X E τ))) (fun E τ => X E τ))) (fun E τ => X E τ))))) (fun E τ => X E τ)))) ∧ (¬ v1 = 0 → CT g l M_X7_wrong 0 [.ref (zad g 24), .int 3] τ1 (zQv (fun τ15 => (∀ σ16 : zS, σ16 = zup τ15 24 20 ((τ15.1 24 20) ||| (1 <<< (x2 &&& 31))) → CT g l M_X7_isGood 0 [.ref (zad g 24)] σ16 (zQi (fun v17 τ17 => ((v17 = 0 → CT g l M_X7_number 0 [.ref (zad g 24), .int 1, .int x3] τ17 (zQi (fun v19 τ19 => CT g l M_X7_isGood 0 [.ref (zad g 24)] τ19 (zQi (fun v20 τ20 => ((v20 = 0 → K τ20) ∧ (¬ v20 = 0 → (vp_in x1 1110 ∧ (∀ σ22 : zS, σ22 = zup τ20 26 (Int32.toNatClampNeg x1) v19 → K σ22))))) (fun E τ => X E τ))) (fun E τ => X E τ))) ∧ (¬ v17 = 0 → CT g l M_X7_goOn 0 [.ref (zad g 24)] τ17 (zQv (fun τ23 => CT g l M_X7_number 0 [.ref (zad g 24), .int 1, .int x3] τ23 (zQi (fun v24 τ24 => CT g l M_X7_isGood 0 [.ref (zad g 24)] τ24 (zQi (fun v25 τ25 => ((v25 = 0 → K τ25) ∧ (¬ v25 = 0 → (vp_in x1 1110 ∧ (∀ σ27 : zS, σ27 = zup τ25 26 (Int32.toNatClampNeg x1) v24 → K σ27))))) (fun E τ => X E τ))) (fun E τ => X E τ))) (fun E τ => X E τ))))) (fun E τ => X E τ)))) (fun E τ => X E τ))))) (fun E τ => X E τ))) :
    CT g l M_X7_readsOnce 0 [.ref (zad g 24), .int x1, .int x2, .int x3] σ (zQv K X) := by
  refine CT_of rfl (by decide) (Nat.le_of_ble_eq_true rfl) ?_
  change EV _ _ _ _ _ 0 [(0, .ref (zad g 24)), (1, .int x1), (2, .int x2), (3, .int x3)] [] _
  refine e_aload_n dX7_readsOnce_0 rfl 0 rfl ?_
  refine fg_X7_183 rfl dX7_readsOnce_1 ?_
  refine e_iload_n dX7_readsOnce_4 rfl 2 rfl ?_
  refine e_callSi (j1 := 0) (j2 := 0) (av := [.int (σ.1 24 20), .int x2]) rfl H i_X7_has rfl s_X7_has q_X7_186 (by decide) (by decide) (Nat.le_of_ble_eq_true rfl) dX7_readsOnce_5 (fun v1 τ1 H => ?_) (fun E τ H => H)
  refine e_if_eq (tgt := 16) dX7_readsOnce_8 (by decide) (fun h2 => ?_) (fun h2 => ?_)
  · replace H := H.1 h2
    refine e_aload_n dX7_readsOnce_16 rfl 0 rfl ?_
    refine e_dup dX7_readsOnce_17 rfl ?_
    refine fg_X7_183 rfl dX7_readsOnce_18 ?_
    refine e_iconst (v := 1) dX7_readsOnce_21 (by decide) ?_
    refine e_iload_n dX7_readsOnce_22 rfl 2 rfl ?_
    refine e_ishl dX7_readsOnce_23 ?_
    refine e_ior dX7_readsOnce_24 ?_
    refine fp_X7_183 rfl dX7_readsOnce_25 ?_
    replace H := H _ rfl
    generalize zup τ1 24 20 ((τ1.1 24 20) ||| (1 <<< (x2 &&& 31))) = σ3 at H ⊢
    refine e_aload_n dX7_readsOnce_28 rfl 0 rfl ?_
    refine e_callVi (j1 := 0) (j2 := 0) (av := []) rfl rfl (Nat.le_of_ble_eq_true rfl) rfl rfl H i_X7_isGood rfl n_X7_isGood v_X7_isGood q_X7_122 (by decide) (by decide) (Nat.le_of_ble_eq_true rfl) dX7_readsOnce_29 (fun v4 τ4 H => ?_) (fun E τ H => H)
    refine e_if_eq (tgt := 39) dX7_readsOnce_32 (by decide) (fun h5 => ?_) (fun h5 => ?_)
    · replace H := H.1 h5
      refine e_aload_n dX7_readsOnce_39 rfl 0 rfl ?_
      refine e_iconst (v := 1) dX7_readsOnce_40 (by decide) ?_
      refine e_iload_n dX7_readsOnce_41 rfl 3 rfl ?_
      refine e_callVi (j1 := 0) (j2 := 0) (av := [.int 1, .int x3]) rfl rfl (Nat.le_of_ble_eq_true rfl) rfl rfl H i_X7_number rfl n_X7_number v_X7_number q_X7_190 (by decide) (by decide) (Nat.le_of_ble_eq_true rfl) dX7_readsOnce_42 (fun v6 τ6 H => ?_) (fun E τ H => H)
      refine e_istore (ls' := [(4, .int v6), (0, .ref (zad g 24)), (1, .int x1), (2, .int x2), (3, .int x3)]) dX7_readsOnce_45 (by decide) rfl ?_
      refine e_aload_n dX7_readsOnce_47 rfl 1 rfl ?_
      refine e_callVi (j1 := 0) (j2 := 0) (av := []) rfl rfl (Nat.le_of_ble_eq_true rfl) rfl rfl H i_X7_isGood rfl n_X7_isGood v_X7_isGood q_X7_122 (by decide) (by decide) (Nat.le_of_ble_eq_true rfl) dX7_readsOnce_48 (fun v7 τ7 H => ?_) (fun E τ H => H)
      refine e_if_eq (tgt := 62) dX7_readsOnce_51 (by decide) (fun h8 => ?_) (fun h8 => ?_)
      · replace H := H.1 h8
        exact e_vret rfl dX7_readsOnce_62 H
      · replace H := H.2 h8
        refine e_aload_n dX7_readsOnce_54 rfl 1 rfl ?_
        refine fg_X7_20 rfl dX7_readsOnce_55 ?_
        refine e_iload_n dX7_readsOnce_58 rfl 2 rfl ?_
        refine e_iload dX7_readsOnce_59 0 rfl ?_
        refine e_iast (n := 1110) rfl (Nat.le_of_ble_eq_true rfl) H.1 dX7_readsOnce_61 ?_
        replace H := H.2
        replace H := H _ rfl
        generalize zup τ7 26 (Int32.toNatClampNeg x1) v6 = σ9 at H ⊢
        exact e_vret rfl dX7_readsOnce_62 H
    · replace H := H.2 h5
      refine e_aload_n dX7_readsOnce_35 rfl 0 rfl ?_
      refine e_callVv (j1 := 0) (j2 := 0) (av := []) rfl rfl (Nat.le_of_ble_eq_true rfl) rfl rfl H i_X7_goOn rfl n_X7_goOn v_X7_goOn q_X7_132 (by decide) (by decide) (Nat.le_of_ble_eq_true rfl) dX7_readsOnce_36 (fun τ10 H => ?_) (fun E τ H => H)
      refine e_aload_n dX7_readsOnce_39 rfl 0 rfl ?_
      refine e_iconst (v := 1) dX7_readsOnce_40 (by decide) ?_
      refine e_iload_n dX7_readsOnce_41 rfl 3 rfl ?_
      refine e_callVi (j1 := 0) (j2 := 0) (av := [.int 1, .int x3]) rfl rfl (Nat.le_of_ble_eq_true rfl) rfl rfl H i_X7_number rfl n_X7_number v_X7_number q_X7_190 (by decide) (by decide) (Nat.le_of_ble_eq_true rfl) dX7_readsOnce_42 (fun v11 τ11 H => ?_) (fun E τ H => H)
      refine e_istore (ls' := [(4, .int v11), (0, .ref (zad g 24)), (1, .int x1), (2, .int x2), (3, .int x3)]) dX7_readsOnce_45 (by decide) rfl ?_
      refine e_aload_n dX7_readsOnce_47 rfl 1 rfl ?_
      refine e_callVi (j1 := 0) (j2 := 0) (av := []) rfl rfl (Nat.le_of_ble_eq_true rfl) rfl rfl H i_X7_isGood rfl n_X7_isGood v_X7_isGood q_X7_122 (by decide) (by decide) (Nat.le_of_ble_eq_true rfl) dX7_readsOnce_48 (fun v12 τ12 H => ?_) (fun E τ H => H)
      refine e_if_eq (tgt := 62) dX7_readsOnce_51 (by decide) (fun h13 => ?_) (fun h13 => ?_)
      · replace H := H.1 h13
        exact e_vret rfl dX7_readsOnce_62 H
      · replace H := H.2 h13
        refine e_aload_n dX7_readsOnce_54 rfl 1 rfl ?_
        refine fg_X7_20 rfl dX7_readsOnce_55 ?_
        refine e_iload_n dX7_readsOnce_58 rfl 2 rfl ?_
        refine e_iload dX7_readsOnce_59 0 rfl ?_
        refine e_iast (n := 1110) rfl (Nat.le_of_ble_eq_true rfl) H.1 dX7_readsOnce_61 ?_
        replace H := H.2
        replace H := H _ rfl
        generalize zup τ12 26 (Int32.toNatClampNeg x1) v11 = σ14 at H ⊢
        exact e_vret rfl dX7_readsOnce_62 H
  · replace H := H.2 h2
    refine e_aload_n dX7_readsOnce_11 rfl 0 rfl ?_
    refine e_iconst (v := 3) dX7_readsOnce_12 (by decide) ?_
    refine e_callVv (j1 := 0) (j2 := 0) (av := [.int 3]) rfl rfl (Nat.le_of_ble_eq_true rfl) rfl rfl H i_X7_wrong rfl n_X7_wrong v_X7_wrong q_X7_129 (by decide) (by decide) (Nat.le_of_ble_eq_true rfl) dX7_readsOnce_13 (fun τ15 H => ?_) (fun E τ H => H)
    refine e_aload_n dX7_readsOnce_16 rfl 0 rfl ?_
    refine e_dup dX7_readsOnce_17 rfl ?_
    refine fg_X7_183 rfl dX7_readsOnce_18 ?_
    refine e_iconst (v := 1) dX7_readsOnce_21 (by decide) ?_
    refine e_iload_n dX7_readsOnce_22 rfl 2 rfl ?_
    refine e_ishl dX7_readsOnce_23 ?_
    refine e_ior dX7_readsOnce_24 ?_
    refine fp_X7_183 rfl dX7_readsOnce_25 ?_
    replace H := H _ rfl
    generalize zup τ15 24 20 ((τ15.1 24 20) ||| (1 <<< (x2 &&& 31))) = σ16 at H ⊢
    refine e_aload_n dX7_readsOnce_28 rfl 0 rfl ?_
    refine e_callVi (j1 := 0) (j2 := 0) (av := []) rfl rfl (Nat.le_of_ble_eq_true rfl) rfl rfl H i_X7_isGood rfl n_X7_isGood v_X7_isGood q_X7_122 (by decide) (by decide) (Nat.le_of_ble_eq_true rfl) dX7_readsOnce_29 (fun v17 τ17 H => ?_) (fun E τ H => H)
    refine e_if_eq (tgt := 39) dX7_readsOnce_32 (by decide) (fun h18 => ?_) (fun h18 => ?_)
    · replace H := H.1 h18
      refine e_aload_n dX7_readsOnce_39 rfl 0 rfl ?_
      refine e_iconst (v := 1) dX7_readsOnce_40 (by decide) ?_
      refine e_iload_n dX7_readsOnce_41 rfl 3 rfl ?_
      refine e_callVi (j1 := 0) (j2 := 0) (av := [.int 1, .int x3]) rfl rfl (Nat.le_of_ble_eq_true rfl) rfl rfl H i_X7_number rfl n_X7_number v_X7_number q_X7_190 (by decide) (by decide) (Nat.le_of_ble_eq_true rfl) dX7_readsOnce_42 (fun v19 τ19 H => ?_) (fun E τ H => H)
      refine e_istore (ls' := [(4, .int v19), (0, .ref (zad g 24)), (1, .int x1), (2, .int x2), (3, .int x3)]) dX7_readsOnce_45 (by decide) rfl ?_
      refine e_aload_n dX7_readsOnce_47 rfl 1 rfl ?_
      refine e_callVi (j1 := 0) (j2 := 0) (av := []) rfl rfl (Nat.le_of_ble_eq_true rfl) rfl rfl H i_X7_isGood rfl n_X7_isGood v_X7_isGood q_X7_122 (by decide) (by decide) (Nat.le_of_ble_eq_true rfl) dX7_readsOnce_48 (fun v20 τ20 H => ?_) (fun E τ H => H)
      refine e_if_eq (tgt := 62) dX7_readsOnce_51 (by decide) (fun h21 => ?_) (fun h21 => ?_)
      · replace H := H.1 h21
        exact e_vret rfl dX7_readsOnce_62 H
      · replace H := H.2 h21
        refine e_aload_n dX7_readsOnce_54 rfl 1 rfl ?_
        refine fg_X7_20 rfl dX7_readsOnce_55 ?_
        refine e_iload_n dX7_readsOnce_58 rfl 2 rfl ?_
        refine e_iload dX7_readsOnce_59 0 rfl ?_
        refine e_iast (n := 1110) rfl (Nat.le_of_ble_eq_true rfl) H.1 dX7_readsOnce_61 ?_
        replace H := H.2
        replace H := H _ rfl
        generalize zup τ20 26 (Int32.toNatClampNeg x1) v19 = σ22 at H ⊢
        exact e_vret rfl dX7_readsOnce_62 H
    · replace H := H.2 h18
      refine e_aload_n dX7_readsOnce_35 rfl 0 rfl ?_
      refine e_callVv (j1 := 0) (j2 := 0) (av := []) rfl rfl (Nat.le_of_ble_eq_true rfl) rfl rfl H i_X7_goOn rfl n_X7_goOn v_X7_goOn q_X7_132 (by decide) (by decide) (Nat.le_of_ble_eq_true rfl) dX7_readsOnce_36 (fun τ23 H => ?_) (fun E τ H => H)
      refine e_aload_n dX7_readsOnce_39 rfl 0 rfl ?_
      refine e_iconst (v := 1) dX7_readsOnce_40 (by decide) ?_
      refine e_iload_n dX7_readsOnce_41 rfl 3 rfl ?_
      refine e_callVi (j1 := 0) (j2 := 0) (av := [.int 1, .int x3]) rfl rfl (Nat.le_of_ble_eq_true rfl) rfl rfl H i_X7_number rfl n_X7_number v_X7_number q_X7_190 (by decide) (by decide) (Nat.le_of_ble_eq_true rfl) dX7_readsOnce_42 (fun v24 τ24 H => ?_) (fun E τ H => H)
      refine e_istore (ls' := [(4, .int v24), (0, .ref (zad g 24)), (1, .int x1), (2, .int x2), (3, .int x3)]) dX7_readsOnce_45 (by decide) rfl ?_
      refine e_aload_n dX7_readsOnce_47 rfl 1 rfl ?_
      refine e_callVi (j1 := 0) (j2 := 0) (av := []) rfl rfl (Nat.le_of_ble_eq_true rfl) rfl rfl H i_X7_isGood rfl n_X7_isGood v_X7_isGood q_X7_122 (by decide) (by decide) (Nat.le_of_ble_eq_true rfl) dX7_readsOnce_48 (fun v25 τ25 H => ?_) (fun E τ H => H)
      refine e_if_eq (tgt := 62) dX7_readsOnce_51 (by decide) (fun h26 => ?_) (fun h26 => ?_)
      · replace H := H.1 h26
        exact e_vret rfl dX7_readsOnce_62 H
      · replace H := H.2 h26
        refine e_aload_n dX7_readsOnce_54 rfl 1 rfl ?_
        refine fg_X7_20 rfl dX7_readsOnce_55 ?_
        refine e_iload_n dX7_readsOnce_58 rfl 2 rfl ?_
        refine e_iload dX7_readsOnce_59 0 rfl ?_
        refine e_iast (n := 1110) rfl (Nat.le_of_ble_eq_true rfl) H.1 dX7_readsOnce_61 ?_
        replace H := H.2
        replace H := H _ rfl
        generalize zup τ25 26 (Int32.toNatClampNeg x1) v24 = σ27 at H ⊢
        exact e_vret rfl dX7_readsOnce_62 H
set_option maxRecDepth 20000 in
set_option maxHeartbeats 2000000 in
theorem b_X7_isSide {g : zG} {l : Launch} {K : Int32 → zS → Prop} {X : String → zS → Prop} {σ : zS}
    (H : CT g l M_X7_isWord 0 [.ref (zad g 24), .long (398548 : Int64)] σ (zQi (fun v1 τ1 => ((¬ v1 = 0 → K 1 τ1) ∧ (v1 = 0 → CT g l M_X7_isWord 0 [.ref (zad g 24), .long (19176724 : Int64)] τ1 (zQi (fun v3 τ3 => ((v3 = 0 → K 0 τ3) ∧ (¬ v3 = 0 → K 1 τ3))) (fun E τ => X E τ))))) (fun E τ => X E τ))) :
    CT g l M_X7_isSide 0 [.ref (zad g 24)] σ (zQi K X) := by
  refine CT_of rfl (by decide) (Nat.le_of_ble_eq_true rfl) ?_
  change EV _ _ _ _ _ 0 [(0, .ref (zad g 24))] [] _
  refine e_aload_n dX7_isSide_0 rfl 0 rfl ?_
  refine e_ldc2 k_X7_193 dX7_isSide_1 ?_
  refine e_callVi (j1 := 0) (j2 := 0) (av := [.long (398548 : Int64)]) rfl rfl (Nat.le_of_ble_eq_true rfl) rfl rfl H i_X7_isWord rfl n_X7_isWord v_X7_isWord q_X7_135 (by decide) (by decide) (Nat.le_of_ble_eq_true rfl) dX7_isSide_4 (fun v1 τ1 H => ?_) (fun E τ H => H)
  refine e_if_ne (tgt := 20) dX7_isSide_7 (by decide) (fun h2 => ?_) (fun h2 => ?_)
  · replace H := H.1 h2
    refine e_iconst (v := 1) dX7_isSide_20 (by decide) ?_
    refine e_goto (tgt := 25) dX7_isSide_21 (by decide) ?_
    exact e_zret rfl rfl dX7_isSide_25 H
  · replace H := H.2 h2
    refine e_aload_n dX7_isSide_10 rfl 0 rfl ?_
    refine e_ldc2 k_X7_195 dX7_isSide_11 ?_
    refine e_callVi (j1 := 0) (j2 := 0) (av := [.long (19176724 : Int64)]) rfl rfl (Nat.le_of_ble_eq_true rfl) rfl rfl H i_X7_isWord rfl n_X7_isWord v_X7_isWord q_X7_135 (by decide) (by decide) (Nat.le_of_ble_eq_true rfl) dX7_isSide_14 (fun v3 τ3 H => ?_) (fun E τ H => H)
    refine e_if_eq (tgt := 24) dX7_isSide_17 (by decide) (fun h4 => ?_) (fun h4 => ?_)
    · replace H := H.1 h4
      refine e_iconst (v := 0) dX7_isSide_24 (by decide) ?_
      exact e_zret rfl rfl dX7_isSide_25 H
    · replace H := H.2 h4
      refine e_iconst (v := 1) dX7_isSide_20 (by decide) ?_
      refine e_goto (tgt := 25) dX7_isSide_21 (by decide) ?_
      exact e_zret rfl rfl dX7_isSide_25 H
set_option maxRecDepth 20000 in
set_option maxHeartbeats 2000000 in
theorem b_X7_side {g : zG} {l : Launch} {K : Int32 → zS → Prop} {X : String → zS → Prop} {σ : zS}
    (H : CT g l M_X7_isWord 0 [.ref (zad g 24), .long (19176724 : Int64)] σ (zQi (fun v1 τ1 => CT g l M_X7_isSide 0 [.ref (zad g 24)] τ1 (zQi (fun v2 τ2 => ((¬ v2 = 0 → CT g l M_X7_isGood 0 [.ref (zad g 24)] τ2 (zQi (fun v4 τ4 => ((v4 = 0 → CT g l M_X7_truth 0 [.int v1] τ4 (zQi (fun v6 τ6 => K v6 τ6) (fun E τ => X E τ))) ∧ (¬ v4 = 0 → CT g l M_X7_goOn 0 [.ref (zad g 24)] τ4 (zQv (fun τ7 => CT g l M_X7_truth 0 [.int v1] τ7 (zQi (fun v8 τ8 => K v8 τ8) (fun E τ => X E τ))) (fun E τ => X E τ))))) (fun E τ => X E τ))) ∧ (v2 = 0 → CT g l M_X7_wrong 0 [.ref (zad g 24), .int 1] τ2 (zQv (fun τ9 => CT g l M_X7_isGood 0 [.ref (zad g 24)] τ9 (zQi (fun v10 τ10 => ((v10 = 0 → CT g l M_X7_truth 0 [.int v1] τ10 (zQi (fun v12 τ12 => K v12 τ12) (fun E τ => X E τ))) ∧ (¬ v10 = 0 → CT g l M_X7_goOn 0 [.ref (zad g 24)] τ10 (zQv (fun τ13 => CT g l M_X7_truth 0 [.int v1] τ13 (zQi (fun v14 τ14 => K v14 τ14) (fun E τ => X E τ))) (fun E τ => X E τ))))) (fun E τ => X E τ))) (fun E τ => X E τ))))) (fun E τ => X E τ))) (fun E τ => X E τ))) :
    CT g l M_X7_side 0 [.ref (zad g 24)] σ (zQi K X) := by
  refine CT_of rfl (by decide) (Nat.le_of_ble_eq_true rfl) ?_
  change EV _ _ _ _ _ 0 [(0, .ref (zad g 24))] [] _
  refine e_aload_n dX7_side_0 rfl 0 rfl ?_
  refine e_ldc2 k_X7_195 dX7_side_1 ?_
  refine e_callVi (j1 := 0) (j2 := 0) (av := [.long (19176724 : Int64)]) rfl rfl (Nat.le_of_ble_eq_true rfl) rfl rfl H i_X7_isWord rfl n_X7_isWord v_X7_isWord q_X7_135 (by decide) (by decide) (Nat.le_of_ble_eq_true rfl) dX7_side_4 (fun v1 τ1 H => ?_) (fun E τ H => H)
  refine e_istore_n (ls' := [(1, .int v1), (0, .ref (zad g 24))]) dX7_side_7 rfl (by decide) rfl ?_
  refine e_aload_n dX7_side_8 rfl 1 rfl ?_
  refine e_callVi (j1 := 0) (j2 := 0) (av := []) rfl rfl (Nat.le_of_ble_eq_true rfl) rfl rfl H i_X7_isSide rfl n_X7_isSide v_X7_isSide q_X7_197 (by decide) (by decide) (Nat.le_of_ble_eq_true rfl) dX7_side_9 (fun v2 τ2 H => ?_) (fun E τ H => H)
  refine e_if_ne (tgt := 20) dX7_side_12 (by decide) (fun h3 => ?_) (fun h3 => ?_)
  · replace H := H.1 h3
    refine e_aload_n dX7_side_20 rfl 1 rfl ?_
    refine e_callVi (j1 := 0) (j2 := 0) (av := []) rfl rfl (Nat.le_of_ble_eq_true rfl) rfl rfl H i_X7_isGood rfl n_X7_isGood v_X7_isGood q_X7_122 (by decide) (by decide) (Nat.le_of_ble_eq_true rfl) dX7_side_21 (fun v4 τ4 H => ?_) (fun E τ H => H)
    refine e_if_eq (tgt := 31) dX7_side_24 (by decide) (fun h5 => ?_) (fun h5 => ?_)
    · replace H := H.1 h5
      refine e_iload_n dX7_side_31 rfl 0 rfl ?_
      refine e_callSi (j1 := 0) (j2 := 0) (av := [.int v1]) rfl H i_X7_truth rfl s_X7_truth q_X7_71 (by decide) (by decide) (Nat.le_of_ble_eq_true rfl) dX7_side_32 (fun v6 τ6 H => ?_) (fun E τ H => H)
      exact e_iret rfl dX7_side_35 H
    · replace H := H.2 h5
      refine e_aload_n dX7_side_27 rfl 1 rfl ?_
      refine e_callVv (j1 := 0) (j2 := 0) (av := []) rfl rfl (Nat.le_of_ble_eq_true rfl) rfl rfl H i_X7_goOn rfl n_X7_goOn v_X7_goOn q_X7_132 (by decide) (by decide) (Nat.le_of_ble_eq_true rfl) dX7_side_28 (fun τ7 H => ?_) (fun E τ H => H)
      refine e_iload_n dX7_side_31 rfl 0 rfl ?_
      refine e_callSi (j1 := 0) (j2 := 0) (av := [.int v1]) rfl H i_X7_truth rfl s_X7_truth q_X7_71 (by decide) (by decide) (Nat.le_of_ble_eq_true rfl) dX7_side_32 (fun v8 τ8 H => ?_) (fun E τ H => H)
      exact e_iret rfl dX7_side_35 H
  · replace H := H.2 h3
    refine e_aload_n dX7_side_15 rfl 1 rfl ?_
    refine e_iconst (v := 1) dX7_side_16 (by decide) ?_
    refine e_callVv (j1 := 0) (j2 := 0) (av := [.int 1]) rfl rfl (Nat.le_of_ble_eq_true rfl) rfl rfl H i_X7_wrong rfl n_X7_wrong v_X7_wrong q_X7_129 (by decide) (by decide) (Nat.le_of_ble_eq_true rfl) dX7_side_17 (fun τ9 H => ?_) (fun E τ H => H)
    refine e_aload_n dX7_side_20 rfl 1 rfl ?_
    refine e_callVi (j1 := 0) (j2 := 0) (av := []) rfl rfl (Nat.le_of_ble_eq_true rfl) rfl rfl H i_X7_isGood rfl n_X7_isGood v_X7_isGood q_X7_122 (by decide) (by decide) (Nat.le_of_ble_eq_true rfl) dX7_side_21 (fun v10 τ10 H => ?_) (fun E τ H => H)
    refine e_if_eq (tgt := 31) dX7_side_24 (by decide) (fun h11 => ?_) (fun h11 => ?_)
    · replace H := H.1 h11
      refine e_iload_n dX7_side_31 rfl 0 rfl ?_
      refine e_callSi (j1 := 0) (j2 := 0) (av := [.int v1]) rfl H i_X7_truth rfl s_X7_truth q_X7_71 (by decide) (by decide) (Nat.le_of_ble_eq_true rfl) dX7_side_32 (fun v12 τ12 H => ?_) (fun E τ H => H)
      exact e_iret rfl dX7_side_35 H
    · replace H := H.2 h11
      refine e_aload_n dX7_side_27 rfl 1 rfl ?_
      refine e_callVv (j1 := 0) (j2 := 0) (av := []) rfl rfl (Nat.le_of_ble_eq_true rfl) rfl rfl H i_X7_goOn rfl n_X7_goOn v_X7_goOn q_X7_132 (by decide) (by decide) (Nat.le_of_ble_eq_true rfl) dX7_side_28 (fun τ13 H => ?_) (fun E τ H => H)
      refine e_iload_n dX7_side_31 rfl 0 rfl ?_
      refine e_callSi (j1 := 0) (j2 := 0) (av := [.int v1]) rfl H i_X7_truth rfl s_X7_truth q_X7_71 (by decide) (by decide) (Nat.le_of_ble_eq_true rfl) dX7_side_32 (fun v14 τ14 H => ?_) (fun E τ H => H)
      exact e_iret rfl dX7_side_35 H
abbrev L_X7_readsSlat_18 (g : zG) (l : Launch) (K : zS → Prop) (X : String → zS → Prop) (y1 : Int32) (σ : zS) : Prop :=
  EV g l M_X7_readsSlat 0 (zQv K X) 18 [(0, .ref (zad g 24)), (1, .int y1)] [] σ
abbrev L_X7_readsSlat_29 (g : zG) (l : Launch) (K : zS → Prop) (X : String → zS → Prop) (y1 : Int32) (σ : zS) : Prop :=
  EV g l M_X7_readsSlat 0 (zQv K X) 29 [(0, .ref (zad g 24)), (1, .int y1)] [] σ
abbrev L_X7_readsSlat_54 (g : zG) (l : Launch) (K : zS → Prop) (X : String → zS → Prop) (y1 : Int32) (y2 : Int32) (y3 : Int32) (z0 : Int32) (σ : zS) : Prop :=
  EV g l M_X7_readsSlat 0 (zQv K X) 54 [(0, .ref (zad g 24)), (1, .int y1), (2, .int y2), (3, .int y3)] [.int z0] σ
abbrev L_X7_readsSlat_70 (g : zG) (l : Launch) (K : zS → Prop) (X : String → zS → Prop) (y1 : Int32) (y2 : Int32) (y4 : Int32) (z0 : Int32) (σ : zS) : Prop :=
  EV g l M_X7_readsSlat 0 (zQv K X) 70 [(0, .ref (zad g 24)), (1, .int y1), (2, .int y2), (4, .int y4)] [.int z0] σ
abbrev L_X7_readsSlat_104 (g : zG) (l : Launch) (K : zS → Prop) (X : String → zS → Prop) (y1 : Int32) (z0 : Int32) (z1 : Int32) (z2 : Int32) (σ : zS) : Prop :=
  EV g l M_X7_readsSlat 0 (zQv K X) 104 [(0, .ref (zad g 24)), (1, .int y1)] [.int z0, .int z1, .int z2, .ref (zad g 24)] σ
set_option maxRecDepth 20000 in
set_option maxHeartbeats 2000000 in
theorem b_X7_readsSlat {g : zG} {l : Launch} {K : zS → Prop} {X : String → zS → Prop} {σ : zS}
    (H : ((¬ (σ.1 26 (Int32.toNatClampNeg 1)) = 10 → L_X7_readsSlat_18 g l K X (σ.1 26 (Int32.toNatClampNeg 1)) σ) ∧ ((σ.1 26 (Int32.toNatClampNeg 1)) = 10 → CT g l M_X7_wrong 0 [.ref (zad g 24), .int 5] σ (zQv (fun τ2 => L_X7_readsSlat_18 g l K X (σ.1 26 (Int32.toNatClampNeg 1)) τ2) (fun E τ => X E τ))))) :
    CT g l M_X7_readsSlat 0 [.ref (zad g 24)] σ (zQv K X) := by
  refine CT_of rfl (by decide) (Nat.le_of_ble_eq_true rfl) ?_
  change EV _ _ _ _ _ 0 [(0, .ref (zad g 24))] [] _
  refine e_aload_n dX7_readsSlat_0 rfl 0 rfl ?_
  refine fg_X7_20 rfl dX7_readsSlat_1 ?_
  refine e_iconst (v := 1) dX7_readsSlat_4 (by decide) ?_
  refine e_iald (n := 1110) rfl (Nat.le_of_ble_eq_true rfl) (vil (by decide)) dX7_readsSlat_5 ?_
  refine e_istore_n (ls' := [(1, .int (σ.1 26 (Int32.toNatClampNeg 1))), (0, .ref (zad g 24))]) dX7_readsSlat_6 rfl (by decide) rfl ?_
  refine e_iload_n dX7_readsSlat_7 rfl 0 rfl ?_
  refine e_bipush (v := 10) dX7_readsSlat_8 (by decide) ?_
  refine e_icmp_ne (tgt := 18) dX7_readsSlat_10 (by decide) (fun h1 => ?_) (fun h1 => ?_)
  · replace H := H.1 h1
    refine e_ls [1, 0] rfl ?_
    exact H
  · replace H := H.2 h1
    refine e_aload_n dX7_readsSlat_13 rfl 1 rfl ?_
    refine e_iconst (v := 5) dX7_readsSlat_14 (by decide) ?_
    refine e_callVv (j1 := 0) (j2 := 0) (av := [.int 5]) rfl rfl (Nat.le_of_ble_eq_true rfl) rfl rfl H i_X7_wrong rfl n_X7_wrong v_X7_wrong q_X7_129 (by decide) (by decide) (Nat.le_of_ble_eq_true rfl) dX7_readsSlat_15 (fun τ2 H => ?_) (fun E τ H => H)
    refine e_ls [1, 0] rfl ?_
    exact H
set_option maxRecDepth 20000 in
set_option maxHeartbeats 2000000 in
theorem b_X7_readsSlat_18 {g : zG} {l : Launch} {K : zS → Prop} {X : String → zS → Prop} {y1 : Int32} {σ : zS}
    (H : CT g l M_X7_isGood 0 [.ref (zad g 24)] σ (zQi (fun v1 τ1 => ((v1 = 0 → L_X7_readsSlat_29 g l K X y1 τ1) ∧ (¬ v1 = 0 → CT g l M_X7_goOn 0 [.ref (zad g 24)] τ1 (zQv (fun τ3 => L_X7_readsSlat_29 g l K X y1 τ3) (fun E τ => X E τ))))) (fun E τ => X E τ))) :
    L_X7_readsSlat_18 g l K X y1 σ := by
  refine e_aload_n dX7_readsSlat_18 rfl 0 rfl ?_
  refine e_callVi (j1 := 0) (j2 := 0) (av := []) rfl rfl (Nat.le_of_ble_eq_true rfl) rfl rfl H i_X7_isGood rfl n_X7_isGood v_X7_isGood q_X7_122 (by decide) (by decide) (Nat.le_of_ble_eq_true rfl) dX7_readsSlat_19 (fun v1 τ1 H => ?_) (fun E τ H => H)
  refine e_if_eq (tgt := 29) dX7_readsSlat_22 (by decide) (fun h2 => ?_) (fun h2 => ?_)
  · replace H := H.1 h2
    refine e_ls [0, 1] rfl ?_
    exact H
  · replace H := H.2 h2
    refine e_aload_n dX7_readsSlat_25 rfl 0 rfl ?_
    refine e_callVv (j1 := 0) (j2 := 0) (av := []) rfl rfl (Nat.le_of_ble_eq_true rfl) rfl rfl H i_X7_goOn rfl n_X7_goOn v_X7_goOn q_X7_132 (by decide) (by decide) (Nat.le_of_ble_eq_true rfl) dX7_readsSlat_26 (fun τ3 H => ?_) (fun E τ H => H)
    refine e_ls [0, 1] rfl ?_
    exact H
set_option maxRecDepth 20000 in
set_option maxHeartbeats 2000000 in
theorem b_X7_readsSlat_29 {g : zG} {l : Launch} {K : zS → Prop} {X : String → zS → Prop} {y1 : Int32} {σ : zS}
    (H : CT g l M_X7_number 0 [.ref (zad g 24), .int 1, .int 6] σ (zQi (fun v1 τ1 => CT g l M_X7_isSide 0 [.ref (zad g 24)] τ1 (zQi (fun v2 τ2 => ((v2 = 0 → L_X7_readsSlat_54 g l K X y1 v1 v2 0 τ2) ∧ (¬ v2 = 0 → CT g l M_X7_side 0 [.ref (zad g 24)] τ2 (zQi (fun v4 τ4 => L_X7_readsSlat_54 g l K X y1 v1 v2 v4 τ4) (fun E τ => X E τ))))) (fun E τ => X E τ))) (fun E τ => X E τ))) :
    L_X7_readsSlat_29 g l K X y1 σ := by
  refine e_aload_n dX7_readsSlat_29 rfl 0 rfl ?_
  refine e_iconst (v := 1) dX7_readsSlat_30 (by decide) ?_
  refine e_bipush (v := 6) dX7_readsSlat_31 (by decide) ?_
  refine e_callVi (j1 := 0) (j2 := 0) (av := [.int 1, .int 6]) rfl rfl (Nat.le_of_ble_eq_true rfl) rfl rfl H i_X7_number rfl n_X7_number v_X7_number q_X7_190 (by decide) (by decide) (Nat.le_of_ble_eq_true rfl) dX7_readsSlat_33 (fun v1 τ1 H => ?_) (fun E τ H => H)
  refine e_istore_n (ls' := [(2, .int v1), (0, .ref (zad g 24)), (1, .int y1)]) dX7_readsSlat_36 rfl (by decide) rfl ?_
  refine e_aload_n dX7_readsSlat_37 rfl 1 rfl ?_
  refine e_callVi (j1 := 0) (j2 := 0) (av := []) rfl rfl (Nat.le_of_ble_eq_true rfl) rfl rfl H i_X7_isSide rfl n_X7_isSide v_X7_isSide q_X7_197 (by decide) (by decide) (Nat.le_of_ble_eq_true rfl) dX7_readsSlat_38 (fun v2 τ2 H => ?_) (fun E τ H => H)
  refine e_istore_n (ls' := [(3, .int v2), (2, .int v1), (0, .ref (zad g 24)), (1, .int y1)]) dX7_readsSlat_41 rfl (by decide) rfl ?_
  refine e_iload_n dX7_readsSlat_42 rfl 0 rfl ?_
  refine e_if_eq (tgt := 53) dX7_readsSlat_43 (by decide) (fun h3 => ?_) (fun h3 => ?_)
  · replace H := H.1 h3
    refine e_iconst (v := 0) dX7_readsSlat_53 (by decide) ?_
    refine e_ls [2, 3, 1, 0] rfl ?_
    exact H
  · replace H := H.2 h3
    refine e_aload_n dX7_readsSlat_46 rfl 2 rfl ?_
    refine e_callVi (j1 := 0) (j2 := 0) (av := []) rfl rfl (Nat.le_of_ble_eq_true rfl) rfl rfl H i_X7_side rfl n_X7_side v_X7_side q_X7_200 (by decide) (by decide) (Nat.le_of_ble_eq_true rfl) dX7_readsSlat_47 (fun v4 τ4 H => ?_) (fun E τ H => H)
    refine e_goto (tgt := 54) dX7_readsSlat_50 (by decide) ?_
    refine e_ls [2, 3, 1, 0] rfl ?_
    exact H
set_option maxRecDepth 20000 in
set_option maxHeartbeats 2000000 in
theorem b_X7_readsSlat_54 {g : zG} {l : Launch} {K : zS → Prop} {X : String → zS → Prop} {y1 : Int32} {y2 : Int32} {y3 : Int32} {z0 : Int32} {σ : zS}
    (H : ((y3 = 0 → L_X7_readsSlat_70 g l K X y1 y2 z0 0 σ) ∧ (¬ y3 = 0 → CT g l M_X7_number 0 [.ref (zad g 24), .int 0, .int 4] σ (zQi (fun v2 τ2 => L_X7_readsSlat_70 g l K X y1 y2 z0 v2 τ2) (fun E τ => X E τ))))) :
    L_X7_readsSlat_54 g l K X y1 y2 y3 z0 σ := by
  refine e_istore (ls' := [(4, .int z0), (0, .ref (zad g 24)), (1, .int y1), (2, .int y2), (3, .int y3)]) dX7_readsSlat_54 (by decide) rfl ?_
  refine e_iload_n dX7_readsSlat_56 rfl 4 rfl ?_
  refine e_if_eq (tgt := 69) dX7_readsSlat_57 (by decide) (fun h1 => ?_) (fun h1 => ?_)
  · replace H := H.1 h1
    refine e_iconst (v := 0) dX7_readsSlat_69 (by decide) ?_
    refine e_ls [1, 2, 3, 0] rfl ?_
    exact H
  · replace H := H.2 h1
    refine e_aload_n dX7_readsSlat_60 rfl 1 rfl ?_
    refine e_iconst (v := 0) dX7_readsSlat_61 (by decide) ?_
    refine e_iconst (v := 4) dX7_readsSlat_62 (by decide) ?_
    refine e_callVi (j1 := 0) (j2 := 0) (av := [.int 0, .int 4]) rfl rfl (Nat.le_of_ble_eq_true rfl) rfl rfl H i_X7_number rfl n_X7_number v_X7_number q_X7_190 (by decide) (by decide) (Nat.le_of_ble_eq_true rfl) dX7_readsSlat_63 (fun v2 τ2 H => ?_) (fun E τ H => H)
    refine e_goto (tgt := 70) dX7_readsSlat_66 (by decide) ?_
    refine e_ls [1, 2, 3, 0] rfl ?_
    exact H
set_option maxRecDepth 20000 in
set_option maxHeartbeats 2000000 in
theorem b_X7_readsSlat_70 {g : zG} {l : Launch} {K : zS → Prop} {X : String → zS → Prop} {y1 : Int32} {y2 : Int32} {y4 : Int32} {z0 : Int32} {σ : zS}
    (H : CT g l M_X7_isGood 0 [.ref (zad g 24)] σ (zQi (fun v1 τ1 => ((¬ v1 = 0 → CT g l M_X7_sets 0 [.ref (zad g 24), .int y1, .int 0, .int y2] τ1 (zQv (fun τ3 => ((¬ y4 = 1 → L_X7_readsSlat_104 g l K X y1 (-z0) 1 y1 τ3) ∧ (y4 = 1 → L_X7_readsSlat_104 g l K X y1 z0 1 y1 τ3))) (fun E τ => X E τ))) ∧ (v1 = 0 → K τ1))) (fun E τ => X E τ))) :
    L_X7_readsSlat_70 g l K X y1 y2 y4 z0 σ := by
  refine e_istore (ls' := [(5, .int z0), (0, .ref (zad g 24)), (1, .int y1), (2, .int y2), (4, .int y4)]) dX7_readsSlat_70 (by decide) rfl ?_
  refine e_aload_n dX7_readsSlat_72 rfl 1 rfl ?_
  refine e_callVi (j1 := 0) (j2 := 0) (av := []) rfl rfl (Nat.le_of_ble_eq_true rfl) rfl rfl H i_X7_isGood rfl n_X7_isGood v_X7_isGood q_X7_122 (by decide) (by decide) (Nat.le_of_ble_eq_true rfl) dX7_readsSlat_73 (fun v1 τ1 H => ?_) (fun E τ H => H)
  refine e_if_ne (tgt := 80) dX7_readsSlat_76 (by decide) (fun h2 => ?_) (fun h2 => ?_)
  · replace H := H.1 h2
    refine e_aload_n dX7_readsSlat_80 rfl 1 rfl ?_
    refine e_iload_n dX7_readsSlat_81 rfl 2 rfl ?_
    refine e_iconst (v := 0) dX7_readsSlat_82 (by decide) ?_
    refine e_iload_n dX7_readsSlat_83 rfl 3 rfl ?_
    refine e_callVv (j1 := 0) (j2 := 0) (av := [.int y1, .int 0, .int y2]) rfl rfl (Nat.le_of_ble_eq_true rfl) rfl rfl H i_X7_sets rfl n_X7_sets v_X7_sets q_X7_203 (by decide) (by decide) (Nat.le_of_ble_eq_true rfl) dX7_readsSlat_84 (fun τ3 H => ?_) (fun E τ H => H)
    refine e_aload_n dX7_readsSlat_87 rfl 1 rfl ?_
    refine e_iload_n dX7_readsSlat_88 rfl 2 rfl ?_
    refine e_iconst (v := 1) dX7_readsSlat_89 (by decide) ?_
    refine e_iload dX7_readsSlat_90 4 rfl ?_
    refine e_iconst (v := 1) dX7_readsSlat_92 (by decide) ?_
    refine e_icmp_ne (tgt := 101) dX7_readsSlat_93 (by decide) (fun h4 => ?_) (fun h4 => ?_)
    · replace H := H.1 h4
      refine e_iload dX7_readsSlat_101 0 rfl ?_
      refine e_ineg dX7_readsSlat_103 ?_
      refine e_ls [1, 2] rfl ?_
      exact H
    · replace H := H.2 h4
      refine e_iload dX7_readsSlat_96 0 rfl ?_
      refine e_goto (tgt := 104) dX7_readsSlat_98 (by decide) ?_
      refine e_ls [1, 2] rfl ?_
      exact H
  · replace H := H.2 h2
    exact e_vret rfl dX7_readsSlat_79 H
set_option maxRecDepth 20000 in
set_option maxHeartbeats 2000000 in
theorem b_X7_readsSlat_104 {g : zG} {l : Launch} {K : zS → Prop} {X : String → zS → Prop} {y1 : Int32} {z0 : Int32} {z1 : Int32} {z2 : Int32} {σ : zS}
    (H : CT g l M_X7_sets 0 [.ref (zad g 24), .int z2, .int z1, .int z0] σ (zQv (fun τ1 => CT g l M_X7_sets 0 [.ref (zad g 24), .int y1, .int 3, .int 1] τ1 (zQv (fun τ2 => CT g l M_X7_sets 0 [.ref (zad g 24), .int y1, .int 4, .int 1] τ2 (zQv (fun τ3 => (∀ σ4 : zS, σ4 = zup τ3 26 (Int32.toNatClampNeg 1) ((τ3.1 26 (Int32.toNatClampNeg 1)) + 1) → K σ4)) (fun E τ => X E τ))) (fun E τ => X E τ))) (fun E τ => X E τ))) :
    L_X7_readsSlat_104 g l K X y1 z0 z1 z2 σ := by
  refine e_callVv (j1 := 0) (j2 := 0) (av := [.int z2, .int z1, .int z0]) rfl rfl (Nat.le_of_ble_eq_true rfl) rfl rfl H i_X7_sets rfl n_X7_sets v_X7_sets q_X7_203 (by decide) (by decide) (Nat.le_of_ble_eq_true rfl) dX7_readsSlat_104 (fun τ1 H => ?_) (fun E τ H => H)
  refine e_aload_n dX7_readsSlat_107 rfl 0 rfl ?_
  refine e_iload_n dX7_readsSlat_108 rfl 1 rfl ?_
  refine e_iconst (v := 3) dX7_readsSlat_109 (by decide) ?_
  refine e_iconst (v := 1) dX7_readsSlat_110 (by decide) ?_
  refine e_callVv (j1 := 0) (j2 := 0) (av := [.int y1, .int 3, .int 1]) rfl rfl (Nat.le_of_ble_eq_true rfl) rfl rfl H i_X7_sets rfl n_X7_sets v_X7_sets q_X7_203 (by decide) (by decide) (Nat.le_of_ble_eq_true rfl) dX7_readsSlat_111 (fun τ2 H => ?_) (fun E τ H => H)
  refine e_aload_n dX7_readsSlat_114 rfl 0 rfl ?_
  refine e_iload_n dX7_readsSlat_115 rfl 1 rfl ?_
  refine e_iconst (v := 4) dX7_readsSlat_116 (by decide) ?_
  refine e_iconst (v := 1) dX7_readsSlat_117 (by decide) ?_
  refine e_callVv (j1 := 0) (j2 := 0) (av := [.int y1, .int 4, .int 1]) rfl rfl (Nat.le_of_ble_eq_true rfl) rfl rfl H i_X7_sets rfl n_X7_sets v_X7_sets q_X7_203 (by decide) (by decide) (Nat.le_of_ble_eq_true rfl) dX7_readsSlat_118 (fun τ3 H => ?_) (fun E τ H => H)
  refine e_aload_n dX7_readsSlat_121 rfl 0 rfl ?_
  refine fg_X7_20 rfl dX7_readsSlat_122 ?_
  refine e_iconst (v := 1) dX7_readsSlat_125 (by decide) ?_
  refine e_dup2_11 dX7_readsSlat_126 rfl rfl ?_
  refine e_iald (n := 1110) rfl (Nat.le_of_ble_eq_true rfl) (vil (by decide)) dX7_readsSlat_127 ?_
  refine e_iconst (v := 1) dX7_readsSlat_128 (by decide) ?_
  refine e_iadd dX7_readsSlat_129 ?_
  refine e_iast (n := 1110) rfl (Nat.le_of_ble_eq_true rfl) (vil (by decide)) dX7_readsSlat_130 ?_
  replace H := H _ rfl
  generalize zup τ3 26 (Int32.toNatClampNeg 1) ((τ3.1 26 (Int32.toNatClampNeg 1)) + 1) = σ4 at H ⊢
  exact e_vret rfl dX7_readsSlat_131 H
set_option maxRecDepth 20000 in
set_option maxHeartbeats 2000000 in
theorem b_X7_setsBox {g : zG} {l : Launch} {K : zS → Prop} {X : String → zS → Prop} {x1 : Int32} {x2 : Int32} {x3 : Int32} {σ : zS}
    (H : (vp_in ((54 + (6 * x1)) + x2) 1110 ∧ (∀ σ1 : zS, σ1 = zup σ 26 (Int32.toNatClampNeg ((54 + (6 * x1)) + x2)) x3 → K σ1))) :
    CT g l M_X7_setsBox 0 [.ref (zad g 24), .int x1, .int x2, .int x3] σ (zQv K X) := by
  refine CT_of rfl (by decide) (Nat.le_of_ble_eq_true rfl) ?_
  change EV _ _ _ _ _ 0 [(0, .ref (zad g 24)), (1, .int x1), (2, .int x2), (3, .int x3)] [] _
  refine e_aload_n dX7_setsBox_0 rfl 0 rfl ?_
  refine fg_X7_20 rfl dX7_setsBox_1 ?_
  refine e_bipush (v := 54) dX7_setsBox_4 (by decide) ?_
  refine e_bipush (v := 6) dX7_setsBox_6 (by decide) ?_
  refine e_iload_n dX7_setsBox_8 rfl 1 rfl ?_
  refine e_imul dX7_setsBox_9 ?_
  refine e_iadd dX7_setsBox_10 ?_
  refine e_iload_n dX7_setsBox_11 rfl 2 rfl ?_
  refine e_iadd dX7_setsBox_12 ?_
  refine e_iload_n dX7_setsBox_13 rfl 3 rfl ?_
  refine e_iast (n := 1110) rfl (Nat.le_of_ble_eq_true rfl) H.1 dX7_setsBox_14 ?_
  replace H := H.2
  replace H := H _ rfl
  generalize zup σ 26 (Int32.toNatClampNeg ((54 + (6 * x1)) + x2)) x3 = σ1 at H ⊢
  exact e_vret rfl dX7_setsBox_15 H
abbrev L_X7_readsBox_18 (g : zG) (l : Launch) (K : zS → Prop) (X : String → zS → Prop) (y1 : Int32) (σ : zS) : Prop :=
  EV g l M_X7_readsBox 0 (zQv K X) 18 [(0, .ref (zad g 24)), (1, .int y1)] [] σ
abbrev L_X7_readsBox_29 (g : zG) (l : Launch) (K : zS → Prop) (X : String → zS → Prop) (y1 : Int32) (σ : zS) : Prop :=
  EV g l M_X7_readsBox 0 (zQv K X) 29 [(0, .ref (zad g 24)), (1, .int y1)] [] σ
abbrev L_X7_readsBox_97 (g : zG) (l : Launch) (K : zS → Prop) (X : String → zS → Prop) (y1 : Int32) (y7 : Int32) (σ : zS) : Prop :=
  EV g l M_X7_readsBox 0 (zQv K X) 97 [(0, .ref (zad g 24)), (1, .int y1), (7, .int y7)] [] σ
abbrev L_X7_readsBox_112 (g : zG) (l : Launch) (K : zS → Prop) (X : String → zS → Prop) (σ : zS) : Prop :=
  EV g l M_X7_readsBox 0 (zQv K X) 112 [] [] σ
set_option maxRecDepth 20000 in
set_option maxHeartbeats 2000000 in
theorem b_X7_readsBox {g : zG} {l : Launch} {K : zS → Prop} {X : String → zS → Prop} {σ : zS}
    (H : ((¬ (σ.1 26 (Int32.toNatClampNeg 3)) = 16 → L_X7_readsBox_18 g l K X (σ.1 26 (Int32.toNatClampNeg 3)) σ) ∧ ((σ.1 26 (Int32.toNatClampNeg 3)) = 16 → CT g l M_X7_wrong 0 [.ref (zad g 24), .int 5] σ (zQv (fun τ2 => L_X7_readsBox_18 g l K X (σ.1 26 (Int32.toNatClampNeg 3)) τ2) (fun E τ => X E τ))))) :
    CT g l M_X7_readsBox 0 [.ref (zad g 24)] σ (zQv K X) := by
  refine CT_of rfl (by decide) (Nat.le_of_ble_eq_true rfl) ?_
  change EV _ _ _ _ _ 0 [(0, .ref (zad g 24))] [] _
  refine e_aload_n dX7_readsBox_0 rfl 0 rfl ?_
  refine fg_X7_20 rfl dX7_readsBox_1 ?_
  refine e_iconst (v := 3) dX7_readsBox_4 (by decide) ?_
  refine e_iald (n := 1110) rfl (Nat.le_of_ble_eq_true rfl) (vil (by decide)) dX7_readsBox_5 ?_
  refine e_istore_n (ls' := [(1, .int (σ.1 26 (Int32.toNatClampNeg 3))), (0, .ref (zad g 24))]) dX7_readsBox_6 rfl (by decide) rfl ?_
  refine e_iload_n dX7_readsBox_7 rfl 0 rfl ?_
  refine e_bipush (v := 16) dX7_readsBox_8 (by decide) ?_
  refine e_icmp_ne (tgt := 18) dX7_readsBox_10 (by decide) (fun h1 => ?_) (fun h1 => ?_)
  · replace H := H.1 h1
    refine e_ls [1, 0] rfl ?_
    exact H
  · replace H := H.2 h1
    refine e_aload_n dX7_readsBox_13 rfl 1 rfl ?_
    refine e_iconst (v := 5) dX7_readsBox_14 (by decide) ?_
    refine e_callVv (j1 := 0) (j2 := 0) (av := [.int 5]) rfl rfl (Nat.le_of_ble_eq_true rfl) rfl rfl H i_X7_wrong rfl n_X7_wrong v_X7_wrong q_X7_129 (by decide) (by decide) (Nat.le_of_ble_eq_true rfl) dX7_readsBox_15 (fun τ2 H => ?_) (fun E τ H => H)
    refine e_ls [1, 0] rfl ?_
    exact H
set_option maxRecDepth 20000 in
set_option maxHeartbeats 2000000 in
theorem b_X7_readsBox_18 {g : zG} {l : Launch} {K : zS → Prop} {X : String → zS → Prop} {y1 : Int32} {σ : zS}
    (H : CT g l M_X7_isGood 0 [.ref (zad g 24)] σ (zQi (fun v1 τ1 => ((v1 = 0 → L_X7_readsBox_29 g l K X y1 τ1) ∧ (¬ v1 = 0 → CT g l M_X7_goOn 0 [.ref (zad g 24)] τ1 (zQv (fun τ3 => L_X7_readsBox_29 g l K X y1 τ3) (fun E τ => X E τ))))) (fun E τ => X E τ))) :
    L_X7_readsBox_18 g l K X y1 σ := by
  refine e_aload_n dX7_readsBox_18 rfl 0 rfl ?_
  refine e_callVi (j1 := 0) (j2 := 0) (av := []) rfl rfl (Nat.le_of_ble_eq_true rfl) rfl rfl H i_X7_isGood rfl n_X7_isGood v_X7_isGood q_X7_122 (by decide) (by decide) (Nat.le_of_ble_eq_true rfl) dX7_readsBox_19 (fun v1 τ1 H => ?_) (fun E τ H => H)
  refine e_if_eq (tgt := 29) dX7_readsBox_22 (by decide) (fun h2 => ?_) (fun h2 => ?_)
  · replace H := H.1 h2
    refine e_ls [0, 1] rfl ?_
    exact H
  · replace H := H.2 h2
    refine e_aload_n dX7_readsBox_25 rfl 0 rfl ?_
    refine e_callVv (j1 := 0) (j2 := 0) (av := []) rfl rfl (Nat.le_of_ble_eq_true rfl) rfl rfl H i_X7_goOn rfl n_X7_goOn v_X7_goOn q_X7_132 (by decide) (by decide) (Nat.le_of_ble_eq_true rfl) dX7_readsBox_26 (fun τ3 H => ?_) (fun E τ H => H)
    refine e_ls [0, 1] rfl ?_
    exact H
set_option maxRecDepth 20000 in
set_option maxHeartbeats 2000000 in
theorem b_X7_readsBox_29 {g : zG} {l : Launch} {K : zS → Prop} {X : String → zS → Prop} {y1 : Int32} {σ : zS}
    (H : CT g l M_X7_side 0 [.ref (zad g 24)] σ (zQi (fun v1 τ1 => CT g l M_X7_number 0 [.ref (zad g 24), .int 0, .int 63] τ1 (zQi (fun v2 τ2 => CT g l M_X7_number 0 [.ref (zad g 24), .int 0, .int 63] τ2 (zQi (fun v3 τ3 => CT g l M_X7_number 0 [.ref (zad g 24), .int 1, .int 64] τ3 (zQi (fun v4 τ4 => CT g l M_X7_number 0 [.ref (zad g 24), .int 1, .int 64] τ4 (zQi (fun v5 τ5 => CT g l M_X7_number 0 [.ref (zad g 24), .int 1, .int 9] τ5 (zQi (fun v6 τ6 => CT g l M_X7_isGood 0 [.ref (zad g 24)] τ6 (zQi (fun v7 τ7 => ((v7 = 0 → L_X7_readsBox_97 g l K X y1 v6 τ7) ∧ (¬ v7 = 0 → CT g l M_X7_laysBox 0 [.ref (zad g 24), .int v1, .int v2, .int v3, .int v4, .int v5] τ7 (zQv (fun τ9 => L_X7_readsBox_97 g l K X y1 v6 τ9) (fun E τ => X E τ))))) (fun E τ => X E τ))) (fun E τ => X E τ))) (fun E τ => X E τ))) (fun E τ => X E τ))) (fun E τ => X E τ))) (fun E τ => X E τ))) (fun E τ => X E τ))) :
    L_X7_readsBox_29 g l K X y1 σ := by
  refine e_aload_n dX7_readsBox_29 rfl 0 rfl ?_
  refine e_callVi (j1 := 0) (j2 := 0) (av := []) rfl rfl (Nat.le_of_ble_eq_true rfl) rfl rfl H i_X7_side rfl n_X7_side v_X7_side q_X7_200 (by decide) (by decide) (Nat.le_of_ble_eq_true rfl) dX7_readsBox_30 (fun v1 τ1 H => ?_) (fun E τ H => H)
  refine e_istore_n (ls' := [(2, .int v1), (0, .ref (zad g 24)), (1, .int y1)]) dX7_readsBox_33 rfl (by decide) rfl ?_
  refine e_aload_n dX7_readsBox_34 rfl 1 rfl ?_
  refine e_iconst (v := 0) dX7_readsBox_35 (by decide) ?_
  refine e_bipush (v := 63) dX7_readsBox_36 (by decide) ?_
  refine e_callVi (j1 := 0) (j2 := 0) (av := [.int 0, .int 63]) rfl rfl (Nat.le_of_ble_eq_true rfl) rfl rfl H i_X7_number rfl n_X7_number v_X7_number q_X7_190 (by decide) (by decide) (Nat.le_of_ble_eq_true rfl) dX7_readsBox_38 (fun v2 τ2 H => ?_) (fun E τ H => H)
  refine e_istore_n (ls' := [(3, .int v2), (2, .int v1), (0, .ref (zad g 24)), (1, .int y1)]) dX7_readsBox_41 rfl (by decide) rfl ?_
  refine e_aload_n dX7_readsBox_42 rfl 2 rfl ?_
  refine e_iconst (v := 0) dX7_readsBox_43 (by decide) ?_
  refine e_bipush (v := 63) dX7_readsBox_44 (by decide) ?_
  refine e_callVi (j1 := 0) (j2 := 0) (av := [.int 0, .int 63]) rfl rfl (Nat.le_of_ble_eq_true rfl) rfl rfl H i_X7_number rfl n_X7_number v_X7_number q_X7_190 (by decide) (by decide) (Nat.le_of_ble_eq_true rfl) dX7_readsBox_46 (fun v3 τ3 H => ?_) (fun E τ H => H)
  refine e_istore (ls' := [(4, .int v3), (3, .int v2), (2, .int v1), (0, .ref (zad g 24)), (1, .int y1)]) dX7_readsBox_49 (by decide) rfl ?_
  refine e_aload_n dX7_readsBox_51 rfl 3 rfl ?_
  refine e_iconst (v := 1) dX7_readsBox_52 (by decide) ?_
  refine e_bipush (v := 64) dX7_readsBox_53 (by decide) ?_
  refine e_callVi (j1 := 0) (j2 := 0) (av := [.int 1, .int 64]) rfl rfl (Nat.le_of_ble_eq_true rfl) rfl rfl H i_X7_number rfl n_X7_number v_X7_number q_X7_190 (by decide) (by decide) (Nat.le_of_ble_eq_true rfl) dX7_readsBox_55 (fun v4 τ4 H => ?_) (fun E τ H => H)
  refine e_istore (ls' := [(5, .int v4), (4, .int v3), (3, .int v2), (2, .int v1), (0, .ref (zad g 24)), (1, .int y1)]) dX7_readsBox_58 (by decide) rfl ?_
  refine e_aload_n dX7_readsBox_60 rfl 4 rfl ?_
  refine e_iconst (v := 1) dX7_readsBox_61 (by decide) ?_
  refine e_bipush (v := 64) dX7_readsBox_62 (by decide) ?_
  refine e_callVi (j1 := 0) (j2 := 0) (av := [.int 1, .int 64]) rfl rfl (Nat.le_of_ble_eq_true rfl) rfl rfl H i_X7_number rfl n_X7_number v_X7_number q_X7_190 (by decide) (by decide) (Nat.le_of_ble_eq_true rfl) dX7_readsBox_64 (fun v5 τ5 H => ?_) (fun E τ H => H)
  refine e_istore (ls' := [(6, .int v5), (5, .int v4), (4, .int v3), (3, .int v2), (2, .int v1), (0, .ref (zad g 24)), (1, .int y1)]) dX7_readsBox_67 (by decide) rfl ?_
  refine e_aload_n dX7_readsBox_69 rfl 5 rfl ?_
  refine e_iconst (v := 1) dX7_readsBox_70 (by decide) ?_
  refine e_bipush (v := 9) dX7_readsBox_71 (by decide) ?_
  refine e_callVi (j1 := 0) (j2 := 0) (av := [.int 1, .int 9]) rfl rfl (Nat.le_of_ble_eq_true rfl) rfl rfl H i_X7_number rfl n_X7_number v_X7_number q_X7_190 (by decide) (by decide) (Nat.le_of_ble_eq_true rfl) dX7_readsBox_73 (fun v6 τ6 H => ?_) (fun E τ H => H)
  refine e_istore (ls' := [(7, .int v6), (6, .int v5), (5, .int v4), (4, .int v3), (3, .int v2), (2, .int v1), (0, .ref (zad g 24)), (1, .int y1)]) dX7_readsBox_76 (by decide) rfl ?_
  refine e_aload_n dX7_readsBox_78 rfl 6 rfl ?_
  refine e_callVi (j1 := 0) (j2 := 0) (av := []) rfl rfl (Nat.le_of_ble_eq_true rfl) rfl rfl H i_X7_isGood rfl n_X7_isGood v_X7_isGood q_X7_122 (by decide) (by decide) (Nat.le_of_ble_eq_true rfl) dX7_readsBox_79 (fun v7 τ7 H => ?_) (fun E τ H => H)
  refine e_if_eq (tgt := 97) dX7_readsBox_82 (by decide) (fun h8 => ?_) (fun h8 => ?_)
  · replace H := H.1 h8
    refine e_ls [6, 7, 0] rfl ?_
    exact H
  · replace H := H.2 h8
    refine e_aload_n dX7_readsBox_85 rfl 6 rfl ?_
    refine e_iload_n dX7_readsBox_86 rfl 5 rfl ?_
    refine e_iload_n dX7_readsBox_87 rfl 4 rfl ?_
    refine e_iload dX7_readsBox_88 3 rfl ?_
    refine e_iload dX7_readsBox_90 2 rfl ?_
    refine e_iload dX7_readsBox_92 1 rfl ?_
    refine e_callVv (j1 := 0) (j2 := 0) (av := [.int v1, .int v2, .int v3, .int v4, .int v5]) rfl rfl (Nat.le_of_ble_eq_true rfl) rfl rfl H i_X7_laysBox rfl n_X7_laysBox v_X7_laysBox q_X7_207 (by decide) (by decide) (Nat.le_of_ble_eq_true rfl) dX7_readsBox_94 (fun τ9 H => ?_) (fun E τ H => H)
    refine e_ls [6, 7, 0] rfl ?_
    exact H
set_option maxRecDepth 20000 in
set_option maxHeartbeats 2000000 in
theorem b_X7_readsBox_97 {g : zG} {l : Launch} {K : zS → Prop} {X : String → zS → Prop} {y1 : Int32} {y7 : Int32} {σ : zS}
    (H : CT g l M_X7_isGood 0 [.ref (zad g 24)] σ (zQi (fun v1 τ1 => ((v1 = 0 → L_X7_readsBox_112 g l K X  τ1) ∧ (¬ v1 = 0 → CT g l M_X7_setsBox 0 [.ref (zad g 24), .int y1, .int 5, .int y7] τ1 (zQv (fun τ3 => L_X7_readsBox_112 g l K X  τ3) (fun E τ => X E τ))))) (fun E τ => X E τ))) :
    L_X7_readsBox_97 g l K X y1 y7 σ := by
  refine e_aload_n dX7_readsBox_97 rfl 0 rfl ?_
  refine e_callVi (j1 := 0) (j2 := 0) (av := []) rfl rfl (Nat.le_of_ble_eq_true rfl) rfl rfl H i_X7_isGood rfl n_X7_isGood v_X7_isGood q_X7_122 (by decide) (by decide) (Nat.le_of_ble_eq_true rfl) dX7_readsBox_98 (fun v1 τ1 H => ?_) (fun E τ H => H)
  refine e_if_eq (tgt := 112) dX7_readsBox_101 (by decide) (fun h2 => ?_) (fun h2 => ?_)
  · replace H := H.1 h2
    refine e_ls [] rfl ?_
    exact H
  · replace H := H.2 h2
    refine e_aload_n dX7_readsBox_104 rfl 0 rfl ?_
    refine e_iload_n dX7_readsBox_105 rfl 1 rfl ?_
    refine e_iconst (v := 5) dX7_readsBox_106 (by decide) ?_
    refine e_iload dX7_readsBox_107 2 rfl ?_
    refine e_callVv (j1 := 0) (j2 := 0) (av := [.int y1, .int 5, .int y7]) rfl rfl (Nat.le_of_ble_eq_true rfl) rfl rfl H i_X7_setsBox rfl n_X7_setsBox v_X7_setsBox q_X7_211 (by decide) (by decide) (Nat.le_of_ble_eq_true rfl) dX7_readsBox_109 (fun τ3 H => ?_) (fun E τ H => H)
    refine e_ls [] rfl ?_
    exact H
set_option maxRecDepth 20000 in
set_option maxHeartbeats 2000000 in
theorem b_X7_readsBox_112 {g : zG} {l : Launch} {K : zS → Prop} {X : String → zS → Prop} {σ : zS}
    (H : K σ) :
    L_X7_readsBox_112 g l K X σ := by
  exact e_vret rfl dX7_readsBox_112 H
set_option maxRecDepth 20000 in
set_option maxHeartbeats 2000000 in
theorem b_X7_laysBox {g : zG} {l : Launch} {K : zS → Prop} {X : String → zS → Prop} {x1 : Int32} {x2 : Int32} {x3 : Int32} {x4 : Int32} {x5 : Int32} {σ : zS}
    (H : CT g l M_X7_setsBox 0 [.ref (zad g 24), .int (σ.1 26 (Int32.toNatClampNeg 3)), .int 0, .int x1] σ (zQv (fun τ1 => CT g l M_X7_setsBox 0 [.ref (zad g 24), .int (σ.1 26 (Int32.toNatClampNeg 3)), .int 1, .int x2] τ1 (zQv (fun τ2 => CT g l M_X7_setsBox 0 [.ref (zad g 24), .int (σ.1 26 (Int32.toNatClampNeg 3)), .int 2, .int x3] τ2 (zQv (fun τ3 => CT g l M_X7_setsBox 0 [.ref (zad g 24), .int (σ.1 26 (Int32.toNatClampNeg 3)), .int 3, .int x4] τ3 (zQv (fun τ4 => CT g l M_X7_setsBox 0 [.ref (zad g 24), .int (σ.1 26 (Int32.toNatClampNeg 3)), .int 4, .int x5] τ4 (zQv (fun τ5 => (∀ σ6 : zS, σ6 = zup τ5 26 (Int32.toNatClampNeg 3) ((τ5.1 26 (Int32.toNatClampNeg 3)) + 1) → K σ6)) (fun E τ => X E τ))) (fun E τ => X E τ))) (fun E τ => X E τ))) (fun E τ => X E τ))) (fun E τ => X E τ))) :
    CT g l M_X7_laysBox 0 [.ref (zad g 24), .int x1, .int x2, .int x3, .int x4, .int x5] σ (zQv K X) := by
  refine CT_of rfl (by decide) (Nat.le_of_ble_eq_true rfl) ?_
  change EV _ _ _ _ _ 0 [(0, .ref (zad g 24)), (1, .int x1), (2, .int x2), (3, .int x3), (4, .int x4), (5, .int x5)] [] _
  refine e_aload_n dX7_laysBox_0 rfl 0 rfl ?_
  refine fg_X7_20 rfl dX7_laysBox_1 ?_
  refine e_iconst (v := 3) dX7_laysBox_4 (by decide) ?_
  refine e_iald (n := 1110) rfl (Nat.le_of_ble_eq_true rfl) (vil (by decide)) dX7_laysBox_5 ?_
  refine e_istore (ls' := [(6, .int (σ.1 26 (Int32.toNatClampNeg 3))), (0, .ref (zad g 24)), (1, .int x1), (2, .int x2), (3, .int x3), (4, .int x4), (5, .int x5)]) dX7_laysBox_6 (by decide) rfl ?_
  refine e_aload_n dX7_laysBox_8 rfl 1 rfl ?_
  refine e_iload dX7_laysBox_9 0 rfl ?_
  refine e_iconst (v := 0) dX7_laysBox_11 (by decide) ?_
  refine e_iload_n dX7_laysBox_12 rfl 2 rfl ?_
  refine e_callVv (j1 := 0) (j2 := 0) (av := [.int (σ.1 26 (Int32.toNatClampNeg 3)), .int 0, .int x1]) rfl rfl (Nat.le_of_ble_eq_true rfl) rfl rfl H i_X7_setsBox rfl n_X7_setsBox v_X7_setsBox q_X7_211 (by decide) (by decide) (Nat.le_of_ble_eq_true rfl) dX7_laysBox_13 (fun τ1 H => ?_) (fun E τ H => H)
  refine e_aload_n dX7_laysBox_16 rfl 1 rfl ?_
  refine e_iload dX7_laysBox_17 0 rfl ?_
  refine e_iconst (v := 1) dX7_laysBox_19 (by decide) ?_
  refine e_iload_n dX7_laysBox_20 rfl 3 rfl ?_
  refine e_callVv (j1 := 0) (j2 := 0) (av := [.int (σ.1 26 (Int32.toNatClampNeg 3)), .int 1, .int x2]) rfl rfl (Nat.le_of_ble_eq_true rfl) rfl rfl H i_X7_setsBox rfl n_X7_setsBox v_X7_setsBox q_X7_211 (by decide) (by decide) (Nat.le_of_ble_eq_true rfl) dX7_laysBox_21 (fun τ2 H => ?_) (fun E τ H => H)
  refine e_aload_n dX7_laysBox_24 rfl 1 rfl ?_
  refine e_iload dX7_laysBox_25 0 rfl ?_
  refine e_iconst (v := 2) dX7_laysBox_27 (by decide) ?_
  refine e_iload_n dX7_laysBox_28 rfl 4 rfl ?_
  refine e_callVv (j1 := 0) (j2 := 0) (av := [.int (σ.1 26 (Int32.toNatClampNeg 3)), .int 2, .int x3]) rfl rfl (Nat.le_of_ble_eq_true rfl) rfl rfl H i_X7_setsBox rfl n_X7_setsBox v_X7_setsBox q_X7_211 (by decide) (by decide) (Nat.le_of_ble_eq_true rfl) dX7_laysBox_29 (fun τ3 H => ?_) (fun E τ H => H)
  refine e_aload_n dX7_laysBox_32 rfl 1 rfl ?_
  refine e_iload dX7_laysBox_33 0 rfl ?_
  refine e_iconst (v := 3) dX7_laysBox_35 (by decide) ?_
  refine e_iload dX7_laysBox_36 5 rfl ?_
  refine e_callVv (j1 := 0) (j2 := 0) (av := [.int (σ.1 26 (Int32.toNatClampNeg 3)), .int 3, .int x4]) rfl rfl (Nat.le_of_ble_eq_true rfl) rfl rfl H i_X7_setsBox rfl n_X7_setsBox v_X7_setsBox q_X7_211 (by decide) (by decide) (Nat.le_of_ble_eq_true rfl) dX7_laysBox_38 (fun τ4 H => ?_) (fun E τ H => H)
  refine e_aload_n dX7_laysBox_41 rfl 1 rfl ?_
  refine e_iload dX7_laysBox_42 0 rfl ?_
  refine e_iconst (v := 4) dX7_laysBox_44 (by decide) ?_
  refine e_iload dX7_laysBox_45 6 rfl ?_
  refine e_callVv (j1 := 0) (j2 := 0) (av := [.int (σ.1 26 (Int32.toNatClampNeg 3)), .int 4, .int x5]) rfl rfl (Nat.le_of_ble_eq_true rfl) rfl rfl H i_X7_setsBox rfl n_X7_setsBox v_X7_setsBox q_X7_211 (by decide) (by decide) (Nat.le_of_ble_eq_true rfl) dX7_laysBox_47 (fun τ5 H => ?_) (fun E τ H => H)
  refine e_aload_n dX7_laysBox_50 rfl 1 rfl ?_
  refine fg_X7_20 rfl dX7_laysBox_51 ?_
  refine e_iconst (v := 3) dX7_laysBox_54 (by decide) ?_
  refine e_dup2_11 dX7_laysBox_55 rfl rfl ?_
  refine e_iald (n := 1110) rfl (Nat.le_of_ble_eq_true rfl) (vil (by decide)) dX7_laysBox_56 ?_
  refine e_iconst (v := 1) dX7_laysBox_57 (by decide) ?_
  refine e_iadd dX7_laysBox_58 ?_
  refine e_iast (n := 1110) rfl (Nat.le_of_ble_eq_true rfl) (vil (by decide)) dX7_laysBox_59 ?_
  replace H := H _ rfl
  generalize zup τ5 26 (Int32.toNatClampNeg 3) ((τ5.1 26 (Int32.toNatClampNeg 3)) + 1) = σ6 at H ⊢
  exact e_vret rfl dX7_laysBox_60 H
set_option maxRecDepth 20000 in
set_option maxHeartbeats 2000000 in
theorem b_X7_statement {g : zG} {l : Launch} {K : zS → Prop} {X : String → zS → Prop} {σ : zS}
    (H : CT g l M_X7_isWord 0 [.ref (zad g 24), .long (271592 : Int64)] σ (zQi (fun v1 τ1 => ((v1 = 0 → CT g l M_X7_isWord 0 [.ref (zad g 24), .long (3638931 : Int64)] τ1 (zQi (fun v3 τ3 => ((v3 = 0 → CT g l M_X7_isWord 0 [.ref (zad g 24), .long (634932 : Int64)] τ3 (zQi (fun v5 τ5 => ((v5 = 0 → CT g l M_X7_isWord 0 [.ref (zad g 24), .long (2552 : Int64)] τ5 (zQi (fun v7 τ7 => ((v7 = 0 → CT g l M_X7_wrong 0 [.ref (zad g 24), .int 1] τ7 (zQv (fun τ9 => CT g l M_X7_mustSign 0 [.ref (zad g 24), .int 59] τ9 (zQv (fun τ10 => K τ10) (fun E τ => X E τ))) (fun E τ => X E τ))) ∧ (¬ v7 = 0 → CT g l M_X7_readsBox 0 [.ref (zad g 24)] τ7 (zQv (fun τ11 => CT g l M_X7_mustSign 0 [.ref (zad g 24), .int 59] τ11 (zQv (fun τ12 => K τ12) (fun E τ => X E τ))) (fun E τ => X E τ))))) (fun E τ => X E τ))) ∧ (¬ v5 = 0 → CT g l M_X7_readsSlat 0 [.ref (zad g 24)] τ5 (zQv (fun τ13 => CT g l M_X7_mustSign 0 [.ref (zad g 24), .int 59] τ13 (zQv (fun τ14 => K τ14) (fun E τ => X E τ))) (fun E τ => X E τ))))) (fun E τ => X E τ))) ∧ (¬ v3 = 0 → CT g l M_X7_readsOnce 0 [.ref (zad g 24), .int 2, .int 1, .int 99] τ3 (zQv (fun τ15 => CT g l M_X7_mustSign 0 [.ref (zad g 24), .int 59] τ15 (zQv (fun τ16 => K τ16) (fun E τ => X E τ))) (fun E τ => X E τ))))) (fun E τ => X E τ))) ∧ (¬ v1 = 0 → CT g l M_X7_readsOnce 0 [.ref (zad g 24), .int 0, .int 0, .int 8] τ1 (zQv (fun τ17 => CT g l M_X7_mustSign 0 [.ref (zad g 24), .int 59] τ17 (zQv (fun τ18 => K τ18) (fun E τ => X E τ))) (fun E τ => X E τ))))) (fun E τ => X E τ))) :
    CT g l M_X7_statement 0 [.ref (zad g 24)] σ (zQv K X) := by
  refine CT_of rfl (by decide) (Nat.le_of_ble_eq_true rfl) ?_
  change EV _ _ _ _ _ 0 [(0, .ref (zad g 24))] [] _
  refine e_aload_n dX7_statement_0 rfl 0 rfl ?_
  refine e_ldc2 k_X7_214 dX7_statement_1 ?_
  refine e_callVi (j1 := 0) (j2 := 0) (av := [.long (271592 : Int64)]) rfl rfl (Nat.le_of_ble_eq_true rfl) rfl rfl H i_X7_isWord rfl n_X7_isWord v_X7_isWord q_X7_135 (by decide) (by decide) (Nat.le_of_ble_eq_true rfl) dX7_statement_4 (fun v1 τ1 H => ?_) (fun E τ H => H)
  refine e_if_eq (tgt := 21) dX7_statement_7 (by decide) (fun h2 => ?_) (fun h2 => ?_)
  · replace H := H.1 h2
    refine e_aload_n dX7_statement_21 rfl 0 rfl ?_
    refine e_ldc2 k_X7_219 dX7_statement_22 ?_
    refine e_callVi (j1 := 0) (j2 := 0) (av := [.long (3638931 : Int64)]) rfl rfl (Nat.le_of_ble_eq_true rfl) rfl rfl H i_X7_isWord rfl n_X7_isWord v_X7_isWord q_X7_135 (by decide) (by decide) (Nat.le_of_ble_eq_true rfl) dX7_statement_25 (fun v3 τ3 H => ?_) (fun E τ H => H)
    refine e_if_eq (tgt := 42) dX7_statement_28 (by decide) (fun h4 => ?_) (fun h4 => ?_)
    · replace H := H.1 h4
      refine e_aload_n dX7_statement_42 rfl 0 rfl ?_
      refine e_ldc2 k_X7_221 dX7_statement_43 ?_
      refine e_callVi (j1 := 0) (j2 := 0) (av := [.long (634932 : Int64)]) rfl rfl (Nat.le_of_ble_eq_true rfl) rfl rfl H i_X7_isWord rfl n_X7_isWord v_X7_isWord q_X7_135 (by decide) (by decide) (Nat.le_of_ble_eq_true rfl) dX7_statement_46 (fun v5 τ5 H => ?_) (fun E τ H => H)
      refine e_if_eq (tgt := 59) dX7_statement_49 (by decide) (fun h6 => ?_) (fun h6 => ?_)
      · replace H := H.1 h6
        refine e_aload_n dX7_statement_59 rfl 0 rfl ?_
        refine e_ldc2 k_X7_226 dX7_statement_60 ?_
        refine e_callVi (j1 := 0) (j2 := 0) (av := [.long (2552 : Int64)]) rfl rfl (Nat.le_of_ble_eq_true rfl) rfl rfl H i_X7_isWord rfl n_X7_isWord v_X7_isWord q_X7_135 (by decide) (by decide) (Nat.le_of_ble_eq_true rfl) dX7_statement_63 (fun v7 τ7 H => ?_) (fun E τ H => H)
        refine e_if_eq (tgt := 76) dX7_statement_66 (by decide) (fun h8 => ?_) (fun h8 => ?_)
        · replace H := H.1 h8
          refine e_aload_n dX7_statement_76 rfl 0 rfl ?_
          refine e_iconst (v := 1) dX7_statement_77 (by decide) ?_
          refine e_callVv (j1 := 0) (j2 := 0) (av := [.int 1]) rfl rfl (Nat.le_of_ble_eq_true rfl) rfl rfl H i_X7_wrong rfl n_X7_wrong v_X7_wrong q_X7_129 (by decide) (by decide) (Nat.le_of_ble_eq_true rfl) dX7_statement_78 (fun τ9 H => ?_) (fun E τ H => H)
          refine e_aload_n dX7_statement_81 rfl 0 rfl ?_
          refine e_bipush (v := 59) dX7_statement_82 (by decide) ?_
          refine e_callVv (j1 := 0) (j2 := 0) (av := [.int 59]) rfl rfl (Nat.le_of_ble_eq_true rfl) rfl rfl H i_X7_mustSign rfl n_X7_mustSign v_X7_mustSign q_X7_231 (by decide) (by decide) (Nat.le_of_ble_eq_true rfl) dX7_statement_84 (fun τ10 H => ?_) (fun E τ H => H)
          exact e_vret rfl dX7_statement_87 H
        · replace H := H.2 h8
          refine e_aload_n dX7_statement_69 rfl 0 rfl ?_
          refine e_callVv (j1 := 0) (j2 := 0) (av := []) rfl rfl (Nat.le_of_ble_eq_true rfl) rfl rfl H i_X7_readsBox rfl n_X7_readsBox v_X7_readsBox q_X7_228 (by decide) (by decide) (Nat.le_of_ble_eq_true rfl) dX7_statement_70 (fun τ11 H => ?_) (fun E τ H => H)
          refine e_goto (tgt := 81) dX7_statement_73 (by decide) ?_
          refine e_aload_n dX7_statement_81 rfl 0 rfl ?_
          refine e_bipush (v := 59) dX7_statement_82 (by decide) ?_
          refine e_callVv (j1 := 0) (j2 := 0) (av := [.int 59]) rfl rfl (Nat.le_of_ble_eq_true rfl) rfl rfl H i_X7_mustSign rfl n_X7_mustSign v_X7_mustSign q_X7_231 (by decide) (by decide) (Nat.le_of_ble_eq_true rfl) dX7_statement_84 (fun τ12 H => ?_) (fun E τ H => H)
          exact e_vret rfl dX7_statement_87 H
      · replace H := H.2 h6
        refine e_aload_n dX7_statement_52 rfl 0 rfl ?_
        refine e_callVv (j1 := 0) (j2 := 0) (av := []) rfl rfl (Nat.le_of_ble_eq_true rfl) rfl rfl H i_X7_readsSlat rfl n_X7_readsSlat v_X7_readsSlat q_X7_223 (by decide) (by decide) (Nat.le_of_ble_eq_true rfl) dX7_statement_53 (fun τ13 H => ?_) (fun E τ H => H)
        refine e_goto (tgt := 81) dX7_statement_56 (by decide) ?_
        refine e_aload_n dX7_statement_81 rfl 0 rfl ?_
        refine e_bipush (v := 59) dX7_statement_82 (by decide) ?_
        refine e_callVv (j1 := 0) (j2 := 0) (av := [.int 59]) rfl rfl (Nat.le_of_ble_eq_true rfl) rfl rfl H i_X7_mustSign rfl n_X7_mustSign v_X7_mustSign q_X7_231 (by decide) (by decide) (Nat.le_of_ble_eq_true rfl) dX7_statement_84 (fun τ14 H => ?_) (fun E τ H => H)
        exact e_vret rfl dX7_statement_87 H
    · replace H := H.2 h4
      refine e_aload_n dX7_statement_31 rfl 0 rfl ?_
      refine e_iconst (v := 2) dX7_statement_32 (by decide) ?_
      refine e_iconst (v := 1) dX7_statement_33 (by decide) ?_
      refine e_bipush (v := 99) dX7_statement_34 (by decide) ?_
      refine e_callVv (j1 := 0) (j2 := 0) (av := [.int 2, .int 1, .int 99]) rfl rfl (Nat.le_of_ble_eq_true rfl) rfl rfl H i_X7_readsOnce rfl n_X7_readsOnce v_X7_readsOnce q_X7_216 (by decide) (by decide) (Nat.le_of_ble_eq_true rfl) dX7_statement_36 (fun τ15 H => ?_) (fun E τ H => H)
      refine e_goto (tgt := 81) dX7_statement_39 (by decide) ?_
      refine e_aload_n dX7_statement_81 rfl 0 rfl ?_
      refine e_bipush (v := 59) dX7_statement_82 (by decide) ?_
      refine e_callVv (j1 := 0) (j2 := 0) (av := [.int 59]) rfl rfl (Nat.le_of_ble_eq_true rfl) rfl rfl H i_X7_mustSign rfl n_X7_mustSign v_X7_mustSign q_X7_231 (by decide) (by decide) (Nat.le_of_ble_eq_true rfl) dX7_statement_84 (fun τ16 H => ?_) (fun E τ H => H)
      exact e_vret rfl dX7_statement_87 H
  · replace H := H.2 h2
    refine e_aload_n dX7_statement_10 rfl 0 rfl ?_
    refine e_iconst (v := 0) dX7_statement_11 (by decide) ?_
    refine e_iconst (v := 0) dX7_statement_12 (by decide) ?_
    refine e_bipush (v := 8) dX7_statement_13 (by decide) ?_
    refine e_callVv (j1 := 0) (j2 := 0) (av := [.int 0, .int 0, .int 8]) rfl rfl (Nat.le_of_ble_eq_true rfl) rfl rfl H i_X7_readsOnce rfl n_X7_readsOnce v_X7_readsOnce q_X7_216 (by decide) (by decide) (Nat.le_of_ble_eq_true rfl) dX7_statement_15 (fun τ17 H => ?_) (fun E τ H => H)
    refine e_goto (tgt := 81) dX7_statement_18 (by decide) ?_
    refine e_aload_n dX7_statement_81 rfl 0 rfl ?_
    refine e_bipush (v := 59) dX7_statement_82 (by decide) ?_
    refine e_callVv (j1 := 0) (j2 := 0) (av := [.int 59]) rfl rfl (Nat.le_of_ble_eq_true rfl) rfl rfl H i_X7_mustSign rfl n_X7_mustSign v_X7_mustSign q_X7_231 (by decide) (by decide) (Nat.le_of_ble_eq_true rfl) dX7_statement_84 (fun τ18 H => ?_) (fun E τ H => H)
    exact e_vret rfl dX7_statement_87 H
abbrev L_X7_paintsAll_4 (g : zG) (l : Launch) (K : zS → Prop) (X : String → zS → Prop) (y1 : Int32) (y2 : Int32) (σ : zS) : Prop :=
  EV g l M_X7_paintsAll 0 (zQv K X) 4 [(0, .ref (zad g 24)), (1, .int y1), (2, .int y2)] [] σ
set_option maxRecDepth 20000 in
set_option maxHeartbeats 2000000 in
theorem b_X7_paintsAll {g : zG} {l : Launch} {K : zS → Prop} {X : String → zS → Prop} {σ : zS}
    (H : L_X7_paintsAll_4 g l K X 0 0 σ) :
    CT g l M_X7_paintsAll 0 [.ref (zad g 24)] σ (zQv K X) := by
  refine CT_of rfl (by decide) (Nat.le_of_ble_eq_true rfl) ?_
  change EV _ _ _ _ _ 0 [(0, .ref (zad g 24))] [] _
  refine e_iconst (v := 0) dX7_paintsAll_0 (by decide) ?_
  refine e_istore_n (ls' := [(1, .int 0), (0, .ref (zad g 24))]) dX7_paintsAll_1 rfl (by decide) rfl ?_
  refine e_iconst (v := 0) dX7_paintsAll_2 (by decide) ?_
  refine e_istore_n (ls' := [(2, .int 0), (1, .int 0), (0, .ref (zad g 24))]) dX7_paintsAll_3 rfl (by decide) rfl ?_
  refine e_ls [2, 1, 0] rfl ?_
  exact H
set_option maxRecDepth 20000 in
set_option maxHeartbeats 2000000 in
theorem b_X7_paintsAll_4 {g : zG} {l : Launch} {K : zS → Prop} {X : String → zS → Prop} {y1 : Int32} {y2 : Int32} {σ : zS}
    (H : (((σ.1 26 (Int32.toNatClampNeg 1)) ≤ y2 → K σ) ∧ (¬ (σ.1 26 (Int32.toNatClampNeg 1)) ≤ y2 → CT g l M_X7_repaints 0 [.ref (zad g 24), .int y2, .int 0] σ (zQi (fun v2 τ2 => CT g l M_X7_repaints 0 [.ref (zad g 24), .int y2, .int 1] τ2 (zQi (fun v3 τ3 => L_X7_paintsAll_4 g l K X (y1 + (v2 + v3)) (y2 + 1) τ3) (fun E τ => X E τ))) (fun E τ => X E τ))))) :
    L_X7_paintsAll_4 g l K X y1 y2 σ := by
  refine e_iload_n dX7_paintsAll_4 rfl 2 rfl ?_
  refine e_aload_n dX7_paintsAll_5 rfl 0 rfl ?_
  refine fg_X7_20 rfl dX7_paintsAll_6 ?_
  refine e_iconst (v := 1) dX7_paintsAll_9 (by decide) ?_
  refine e_iald (n := 1110) rfl (Nat.le_of_ble_eq_true rfl) (vil (by decide)) dX7_paintsAll_10 ?_
  refine e_icmp_ge (tgt := 36) dX7_paintsAll_11 (by decide) (fun h1 => ?_) (fun h1 => ?_)
  · replace H := H.1 h1
    exact e_vret rfl dX7_paintsAll_36 H
  · replace H := H.2 h1
    refine e_iload_n dX7_paintsAll_14 rfl 1 rfl ?_
    refine e_aload_n dX7_paintsAll_15 rfl 0 rfl ?_
    refine e_iload_n dX7_paintsAll_16 rfl 2 rfl ?_
    refine e_iconst (v := 0) dX7_paintsAll_17 (by decide) ?_
    refine e_callVi (j1 := 0) (j2 := 0) (av := [.int y2, .int 0]) rfl rfl (Nat.le_of_ble_eq_true rfl) rfl rfl H i_X7_repaints rfl n_X7_repaints v_X7_repaints q_X7_234 (by decide) (by decide) (Nat.le_of_ble_eq_true rfl) dX7_paintsAll_18 (fun v2 τ2 H => ?_) (fun E τ H => H)
    refine e_aload_n dX7_paintsAll_21 rfl 0 rfl ?_
    refine e_iload_n dX7_paintsAll_22 rfl 2 rfl ?_
    refine e_iconst (v := 1) dX7_paintsAll_23 (by decide) ?_
    refine e_callVi (j1 := 0) (j2 := 0) (av := [.int y2, .int 1]) rfl rfl (Nat.le_of_ble_eq_true rfl) rfl rfl H i_X7_repaints rfl n_X7_repaints v_X7_repaints q_X7_234 (by decide) (by decide) (Nat.le_of_ble_eq_true rfl) dX7_paintsAll_24 (fun v3 τ3 H => ?_) (fun E τ H => H)
    refine e_iadd dX7_paintsAll_27 ?_
    refine e_iadd dX7_paintsAll_28 ?_
    refine e_istore_n (ls' := [(1, .int (y1 + (v2 + v3))), (0, .ref (zad g 24)), (2, .int y2)]) dX7_paintsAll_29 rfl (by decide) rfl ?_
    refine e_iinc (j := 2) (v := (y2 + 1)) (ls' := [(2, .int (y2 + 1)), (1, .int (y1 + (v2 + v3))), (0, .ref (zad g 24))]) dX7_paintsAll_30 rfl rfl (by decide) rfl ?_
    refine e_goto (tgt := 4) dX7_paintsAll_33 (by decide) ?_
    refine e_ls [2, 1, 0] rfl ?_
    exact H
abbrev L_X7_readText_17 (g : zG) (l : Launch) (K : Int32 → zS → Prop) (X : String → zS → Prop) (σ : zS) : Prop :=
  EV g l M_X7_readText 0 (zQi K X) 17 [(0, .ref (zad g 24))] [] σ
set_option maxRecDepth 20000 in
set_option maxHeartbeats 2000000 in
theorem b_X7_readText {g : zG} {l : Launch} {K : Int32 → zS → Prop} {X : String → zS → Prop} {σ : zS}
    (H : CT g l M_X7_beginsText 0 [.ref (zad g 24)] σ (zQv (fun τ1 => CT g l M_X7_laysAside 0 [.ref (zad g 24)] τ1 (zQv (fun τ2 => CT g l M_X7_clears 0 [.ref (zad g 24)] τ2 (zQv (fun τ3 => (∀ σ4 : zS, σ4 = zup τ3 24 20 0 → L_X7_readText_17 g l K X  σ4)) (fun E τ => X E τ))) (fun E τ => X E τ))) (fun E τ => X E τ))) :
    CT g l M_X7_readText 0 [.ref (zad g 24)] σ (zQi K X) := by
  refine CT_of rfl (by decide) (Nat.le_of_ble_eq_true rfl) ?_
  change EV _ _ _ _ _ 0 [(0, .ref (zad g 24))] [] _
  refine e_aload_n dX7_readText_0 rfl 0 rfl ?_
  refine e_callVv (j1 := 0) (j2 := 0) (av := []) rfl rfl (Nat.le_of_ble_eq_true rfl) rfl rfl H i_X7_beginsText rfl n_X7_beginsText v_X7_beginsText q_X7_237 (by decide) (by decide) (Nat.le_of_ble_eq_true rfl) dX7_readText_1 (fun τ1 H => ?_) (fun E τ H => H)
  refine e_aload_n dX7_readText_4 rfl 0 rfl ?_
  refine e_callVv (j1 := 0) (j2 := 0) (av := []) rfl rfl (Nat.le_of_ble_eq_true rfl) rfl rfl H i_X7_laysAside rfl n_X7_laysAside v_X7_laysAside q_X7_240 (by decide) (by decide) (Nat.le_of_ble_eq_true rfl) dX7_readText_5 (fun τ2 H => ?_) (fun E τ H => H)
  refine e_aload_n dX7_readText_8 rfl 0 rfl ?_
  refine e_callVv (j1 := 0) (j2 := 0) (av := []) rfl rfl (Nat.le_of_ble_eq_true rfl) rfl rfl H i_X7_clears rfl n_X7_clears v_X7_clears q_X7_65 (by decide) (by decide) (Nat.le_of_ble_eq_true rfl) dX7_readText_9 (fun τ3 H => ?_) (fun E τ H => H)
  refine e_aload_n dX7_readText_12 rfl 0 rfl ?_
  refine e_iconst (v := 0) dX7_readText_13 (by decide) ?_
  refine fp_X7_183 rfl dX7_readText_14 ?_
  replace H := H _ rfl
  generalize zup τ3 24 20 0 = σ4 at H ⊢
  refine e_ls [0] rfl ?_
  exact H
set_option maxRecDepth 20000 in
set_option maxHeartbeats 2000000 in
theorem b_X7_readText_17 {g : zG} {l : Launch} {K : Int32 → zS → Prop} {X : String → zS → Prop} {σ : zS}
    (H : CT g l M_X7_isGood 0 [.ref (zad g 24)] σ (zQi (fun v1 τ1 => ((v1 = 0 → CT g l M_X7_endsText 0 [.ref (zad g 24)] τ1 (zQi (fun v3 τ3 => ((¬ v3 = 0 → CT g l M_X7_paintsAll 0 [.ref (zad g 24)] τ3 (zQv (fun τ5 => (∀ σ6 : zS, σ6 = zup τ5 24 18 0 → K (σ6.1 26 (Int32.toNatClampNeg 1)) σ6)) (fun E τ => X E τ))) ∧ (v3 = 0 → CT g l M_X7_copiesRow 0 [.ref (zad g 28), .int 0, .ref (zad g 26), .int 0] τ3 (zQv (fun τ7 => K 0 τ7) (fun E τ => X E τ))))) (fun E τ => X E τ))) ∧ (¬ v1 = 0 → (((τ1.1 24 6) = 0 → CT g l M_X7_endsText 0 [.ref (zad g 24)] τ1 (zQi (fun v9 τ9 => ((¬ v9 = 0 → CT g l M_X7_paintsAll 0 [.ref (zad g 24)] τ9 (zQv (fun τ11 => (∀ σ12 : zS, σ12 = zup τ11 24 18 0 → K (σ12.1 26 (Int32.toNatClampNeg 1)) σ12)) (fun E τ => X E τ))) ∧ (v9 = 0 → CT g l M_X7_copiesRow 0 [.ref (zad g 28), .int 0, .ref (zad g 26), .int 0] τ9 (zQv (fun τ13 => K 0 τ13) (fun E τ => X E τ))))) (fun E τ => X E τ))) ∧ (¬ (τ1.1 24 6) = 0 → CT g l M_X7_statement 0 [.ref (zad g 24)] τ1 (zQv (fun τ14 => L_X7_readText_17 g l K X  τ14) (fun E τ => X E τ))))))) (fun E τ => X E τ))) :
    L_X7_readText_17 g l K X σ := by
  refine e_aload_n dX7_readText_17 rfl 0 rfl ?_
  refine e_callVi (j1 := 0) (j2 := 0) (av := []) rfl rfl (Nat.le_of_ble_eq_true rfl) rfl rfl H i_X7_isGood rfl n_X7_isGood v_X7_isGood q_X7_122 (by decide) (by decide) (Nat.le_of_ble_eq_true rfl) dX7_readText_18 (fun v1 τ1 H => ?_) (fun E τ H => H)
  refine e_if_eq (tgt := 38) dX7_readText_21 (by decide) (fun h2 => ?_) (fun h2 => ?_)
  · replace H := H.1 h2
    refine e_aload_n dX7_readText_38 rfl 0 rfl ?_
    refine e_callVi (j1 := 0) (j2 := 0) (av := []) rfl rfl (Nat.le_of_ble_eq_true rfl) rfl rfl H i_X7_endsText rfl n_X7_endsText v_X7_endsText q_X7_246 (by decide) (by decide) (Nat.le_of_ble_eq_true rfl) dX7_readText_39 (fun v3 τ3 H => ?_) (fun E τ H => H)
    refine e_if_ne (tgt := 60) dX7_readText_42 (by decide) (fun h4 => ?_) (fun h4 => ?_)
    · replace H := H.1 h4
      refine e_aload_n dX7_readText_60 rfl 0 rfl ?_
      refine e_callVv (j1 := 0) (j2 := 0) (av := []) rfl rfl (Nat.le_of_ble_eq_true rfl) rfl rfl H i_X7_paintsAll rfl n_X7_paintsAll v_X7_paintsAll q_X7_249 (by decide) (by decide) (Nat.le_of_ble_eq_true rfl) dX7_readText_61 (fun τ5 H => ?_) (fun E τ H => H)
      refine e_aload_n dX7_readText_64 rfl 0 rfl ?_
      refine e_iconst (v := 0) dX7_readText_65 (by decide) ?_
      refine fp_X7_150 rfl dX7_readText_66 ?_
      replace H := H _ rfl
      generalize zup τ5 24 18 0 = σ6 at H ⊢
      refine e_aload_n dX7_readText_69 rfl 0 rfl ?_
      refine fg_X7_20 rfl dX7_readText_70 ?_
      refine e_iconst (v := 1) dX7_readText_73 (by decide) ?_
      refine e_iald (n := 1110) rfl (Nat.le_of_ble_eq_true rfl) (vil (by decide)) dX7_readText_74 ?_
      exact e_iret rfl dX7_readText_75 H
    · replace H := H.2 h4
      refine e_aload_n dX7_readText_45 rfl 0 rfl ?_
      refine fg_X7_26 rfl dX7_readText_46 ?_
      refine e_iconst (v := 0) dX7_readText_49 (by decide) ?_
      refine e_aload_n dX7_readText_50 rfl 0 rfl ?_
      refine fg_X7_20 rfl dX7_readText_51 ?_
      refine e_iconst (v := 0) dX7_readText_54 (by decide) ?_
      refine e_callSv (j1 := 0) (j2 := 0) (av := [.ref (zad g 28), .int 0, .ref (zad g 26), .int 0]) rfl H i_X7_copiesRow rfl s_X7_copiesRow q_X7_146 (by decide) (by decide) (Nat.le_of_ble_eq_true rfl) dX7_readText_55 (fun τ7 H => ?_) (fun E τ H => H)
      refine e_iconst (v := 0) dX7_readText_58 (by decide) ?_
      exact e_iret rfl dX7_readText_59 H
  · replace H := H.2 h2
    refine e_aload_n dX7_readText_24 rfl 0 rfl ?_
    refine fg_X7_109 rfl dX7_readText_25 ?_
    refine e_if_eq (tgt := 38) dX7_readText_28 (by decide) (fun h8 => ?_) (fun h8 => ?_)
    · replace H := H.1 h8
      refine e_aload_n dX7_readText_38 rfl 0 rfl ?_
      refine e_callVi (j1 := 0) (j2 := 0) (av := []) rfl rfl (Nat.le_of_ble_eq_true rfl) rfl rfl H i_X7_endsText rfl n_X7_endsText v_X7_endsText q_X7_246 (by decide) (by decide) (Nat.le_of_ble_eq_true rfl) dX7_readText_39 (fun v9 τ9 H => ?_) (fun E τ H => H)
      refine e_if_ne (tgt := 60) dX7_readText_42 (by decide) (fun h10 => ?_) (fun h10 => ?_)
      · replace H := H.1 h10
        refine e_aload_n dX7_readText_60 rfl 0 rfl ?_
        refine e_callVv (j1 := 0) (j2 := 0) (av := []) rfl rfl (Nat.le_of_ble_eq_true rfl) rfl rfl H i_X7_paintsAll rfl n_X7_paintsAll v_X7_paintsAll q_X7_249 (by decide) (by decide) (Nat.le_of_ble_eq_true rfl) dX7_readText_61 (fun τ11 H => ?_) (fun E τ H => H)
        refine e_aload_n dX7_readText_64 rfl 0 rfl ?_
        refine e_iconst (v := 0) dX7_readText_65 (by decide) ?_
        refine fp_X7_150 rfl dX7_readText_66 ?_
        replace H := H _ rfl
        generalize zup τ11 24 18 0 = σ12 at H ⊢
        refine e_aload_n dX7_readText_69 rfl 0 rfl ?_
        refine fg_X7_20 rfl dX7_readText_70 ?_
        refine e_iconst (v := 1) dX7_readText_73 (by decide) ?_
        refine e_iald (n := 1110) rfl (Nat.le_of_ble_eq_true rfl) (vil (by decide)) dX7_readText_74 ?_
        exact e_iret rfl dX7_readText_75 H
      · replace H := H.2 h10
        refine e_aload_n dX7_readText_45 rfl 0 rfl ?_
        refine fg_X7_26 rfl dX7_readText_46 ?_
        refine e_iconst (v := 0) dX7_readText_49 (by decide) ?_
        refine e_aload_n dX7_readText_50 rfl 0 rfl ?_
        refine fg_X7_20 rfl dX7_readText_51 ?_
        refine e_iconst (v := 0) dX7_readText_54 (by decide) ?_
        refine e_callSv (j1 := 0) (j2 := 0) (av := [.ref (zad g 28), .int 0, .ref (zad g 26), .int 0]) rfl H i_X7_copiesRow rfl s_X7_copiesRow q_X7_146 (by decide) (by decide) (Nat.le_of_ble_eq_true rfl) dX7_readText_55 (fun τ13 H => ?_) (fun E τ H => H)
        refine e_iconst (v := 0) dX7_readText_58 (by decide) ?_
        exact e_iret rfl dX7_readText_59 H
    · replace H := H.2 h8
      refine e_aload_n dX7_readText_31 rfl 0 rfl ?_
      refine e_callVv (j1 := 0) (j2 := 0) (av := []) rfl rfl (Nat.le_of_ble_eq_true rfl) rfl rfl H i_X7_statement rfl n_X7_statement v_X7_statement q_X7_243 (by decide) (by decide) (Nat.le_of_ble_eq_true rfl) dX7_readText_32 (fun τ14 H => ?_) (fun E τ H => H)
      refine e_goto (tgt := 17) dX7_readText_35 (by decide) ?_
      refine e_ls [0] rfl ?_
      exact H
set_option maxRecDepth 20000 in
set_option maxHeartbeats 2000000 in
theorem b_X7_greater {g : zG} {l : Launch} {K : Int32 → zS → Prop} {X : String → zS → Prop} {x0 : Int32} {x1 : Int32} {σ : zS}
    (H : ((x0 ≤ x1 → K x1 σ) ∧ (¬ x0 ≤ x1 → K x0 σ))) :
    CT g l M_X7_greater 0 [.int x0, .int x1] σ (zQi K X) := by
  refine CT_of rfl (by decide) (Nat.le_of_ble_eq_true rfl) ?_
  change EV _ _ _ _ _ 0 [(0, .int x0), (1, .int x1)] [] _
  refine e_iload_n dX7_greater_0 rfl 0 rfl ?_
  refine e_iload_n dX7_greater_1 rfl 1 rfl ?_
  refine e_icmp_le (tgt := 9) dX7_greater_2 (by decide) (fun h1 => ?_) (fun h1 => ?_)
  · replace H := H.1 h1
    refine e_iload_n dX7_greater_9 rfl 1 rfl ?_
    exact e_iret rfl dX7_greater_10 H
  · replace H := H.2 h1
    refine e_iload_n dX7_greater_5 rfl 0 rfl ?_
    refine e_goto (tgt := 10) dX7_greater_6 (by decide) ?_
    exact e_iret rfl dX7_greater_10 H
set_option maxRecDepth 20000 in
set_option maxHeartbeats 2000000 in
theorem b_X7_lesser {g : zG} {l : Launch} {K : Int32 → zS → Prop} {X : String → zS → Prop} {x0 : Int32} {x1 : Int32} {σ : zS}
    (H : ((x1 ≤ x0 → K x1 σ) ∧ (¬ x1 ≤ x0 → K x0 σ))) :
    CT g l M_X7_lesser 0 [.int x0, .int x1] σ (zQi K X) := by
  refine CT_of rfl (by decide) (Nat.le_of_ble_eq_true rfl) ?_
  change EV _ _ _ _ _ 0 [(0, .int x0), (1, .int x1)] [] _
  refine e_iload_n dX7_lesser_0 rfl 0 rfl ?_
  refine e_iload_n dX7_lesser_1 rfl 1 rfl ?_
  refine e_icmp_ge (tgt := 9) dX7_lesser_2 (by decide) (fun h1 => ?_) (fun h1 => ?_)
  · replace H := H.1 h1
    refine e_iload_n dX7_lesser_9 rfl 1 rfl ?_
    exact e_iret rfl dX7_lesser_10 H
  · replace H := H.2 h1
    refine e_iload_n dX7_lesser_5 rfl 0 rfl ?_
    refine e_goto (tgt := 10) dX7_lesser_6 (by decide) ?_
    exact e_iret rfl dX7_lesser_10 H
set_option maxRecDepth 20000 in
set_option maxHeartbeats 2000000 in
theorem b_X7_held {g : zG} {l : Launch} {K : Int32 → zS → Prop} {X : String → zS → Prop} {x0 : Int32} {x1 : Int32} {σ : zS}
    (H : CT g l M_X7_lesser 0 [.int x1, .int x0] σ (zQi (fun v1 τ1 => CT g l M_X7_greater 0 [.int (-x1), .int v1] τ1 (zQi (fun v2 τ2 => K v2 τ2) (fun E τ => X E τ))) (fun E τ => X E τ))) :
    CT g l M_X7_held 0 [.int x0, .int x1] σ (zQi K X) := by
  refine CT_of rfl (by decide) (Nat.le_of_ble_eq_true rfl) ?_
  change EV _ _ _ _ _ 0 [(0, .int x0), (1, .int x1)] [] _
  refine e_iload_n dX7_held_0 rfl 1 rfl ?_
  refine e_ineg dX7_held_1 ?_
  refine e_iload_n dX7_held_2 rfl 1 rfl ?_
  refine e_iload_n dX7_held_3 rfl 0 rfl ?_
  refine e_callSi (j1 := 0) (j2 := 0) (av := [.int x1, .int x0]) rfl H i_X7_lesser rfl s_X7_lesser q_X7_252 (by decide) (by decide) (Nat.le_of_ble_eq_true rfl) dX7_held_4 (fun v1 τ1 H => ?_) (fun E τ H => H)
  refine e_callSi (j1 := 0) (j2 := 0) (av := [.int (-x1), .int v1]) rfl H i_X7_greater rfl s_X7_greater q_X7_255 (by decide) (by decide) (Nat.le_of_ble_eq_true rfl) dX7_held_7 (fun v2 τ2 H => ?_) (fun E τ H => H)
  exact e_iret rfl dX7_held_10 H
set_option maxRecDepth 20000 in
set_option maxHeartbeats 2000000 in
theorem b_X7_leanOf {g : zG} {l : Launch} {K : Int32 → zS → Prop} {X : String → zS → Prop} {x1 : Int32} {x2 : Int32} {σ : zS}
    (H : CT g l M_X7_of 0 [.ref (zad g 24), .int x1, .int 1] σ (zQi (fun v1 τ1 => CT g l M_X7_held 0 [.int (x2 - v1), .int 6] τ1 (zQi (fun v2 τ2 => K v2 τ2) (fun E τ => X E τ))) (fun E τ => X E τ))) :
    CT g l M_X7_leanOf 0 [.ref (zad g 24), .int x1, .int x2] σ (zQi K X) := by
  refine CT_of rfl (by decide) (Nat.le_of_ble_eq_true rfl) ?_
  change EV _ _ _ _ _ 0 [(0, .ref (zad g 24)), (1, .int x1), (2, .int x2)] [] _
  refine e_iload_n dX7_leanOf_0 rfl 2 rfl ?_
  refine e_aload_n dX7_leanOf_1 rfl 0 rfl ?_
  refine e_iload_n dX7_leanOf_2 rfl 1 rfl ?_
  refine e_iconst (v := 1) dX7_leanOf_3 (by decide) ?_
  refine e_callVi (j1 := 0) (j2 := 0) (av := [.int x1, .int 1]) rfl rfl (Nat.le_of_ble_eq_true rfl) rfl rfl H i_X7_of rfl n_X7_of v_X7_of q_X7_164 (by decide) (by decide) (Nat.le_of_ble_eq_true rfl) dX7_leanOf_4 (fun v1 τ1 H => ?_) (fun E τ H => H)
  refine e_isub dX7_leanOf_7 ?_
  refine e_bipush (v := 6) dX7_leanOf_8 (by decide) ?_
  refine e_callSi (j1 := 0) (j2 := 0) (av := [.int (x2 - v1), .int 6]) rfl H i_X7_held rfl s_X7_held q_X7_258 (by decide) (by decide) (Nat.le_of_ble_eq_true rfl) dX7_leanOf_10 (fun v2 τ2 H => ?_) (fun E τ H => H)
  exact e_iret rfl dX7_leanOf_13 H
set_option maxRecDepth 20000 in
set_option maxHeartbeats 2000000 in
theorem b_X7_seamBehind {g : zG} {l : Launch} {K : Int32 → zS → Prop} {X : String → zS → Prop} {x1 : Int32} {σ : zS}
    (H : ((¬ x1 = ((σ.1 26 (Int32.toNatClampNeg 1)) - 1) → CT g l M_X7_of 0 [.ref (zad g 24), .int x1, .int 1] σ (zQi (fun v2 τ2 => CT g l M_X7_of 0 [.ref (zad g 24), .int (x1 + 1), .int 1] τ2 (zQi (fun v3 τ3 => K (v2 - v3) τ3) (fun E τ => X E τ))) (fun E τ => X E τ))) ∧ (x1 = ((σ.1 26 (Int32.toNatClampNeg 1)) - 1) → K 0 σ))) :
    CT g l M_X7_seamBehind 0 [.ref (zad g 24), .int x1] σ (zQi K X) := by
  refine CT_of rfl (by decide) (Nat.le_of_ble_eq_true rfl) ?_
  change EV _ _ _ _ _ 0 [(0, .ref (zad g 24)), (1, .int x1)] [] _
  refine e_iload_n dX7_seamBehind_0 rfl 1 rfl ?_
  refine e_aload_n dX7_seamBehind_1 rfl 0 rfl ?_
  refine fg_X7_20 rfl dX7_seamBehind_2 ?_
  refine e_iconst (v := 1) dX7_seamBehind_5 (by decide) ?_
  refine e_iald (n := 1110) rfl (Nat.le_of_ble_eq_true rfl) (vil (by decide)) dX7_seamBehind_6 ?_
  refine e_iconst (v := 1) dX7_seamBehind_7 (by decide) ?_
  refine e_isub dX7_seamBehind_8 ?_
  refine e_icmp_ne (tgt := 16) dX7_seamBehind_9 (by decide) (fun h1 => ?_) (fun h1 => ?_)
  · replace H := H.1 h1
    refine e_aload_n dX7_seamBehind_16 rfl 0 rfl ?_
    refine e_iload_n dX7_seamBehind_17 rfl 1 rfl ?_
    refine e_iconst (v := 1) dX7_seamBehind_18 (by decide) ?_
    refine e_callVi (j1 := 0) (j2 := 0) (av := [.int x1, .int 1]) rfl rfl (Nat.le_of_ble_eq_true rfl) rfl rfl H i_X7_of rfl n_X7_of v_X7_of q_X7_164 (by decide) (by decide) (Nat.le_of_ble_eq_true rfl) dX7_seamBehind_19 (fun v2 τ2 H => ?_) (fun E τ H => H)
    refine e_aload_n dX7_seamBehind_22 rfl 0 rfl ?_
    refine e_iload_n dX7_seamBehind_23 rfl 1 rfl ?_
    refine e_iconst (v := 1) dX7_seamBehind_24 (by decide) ?_
    refine e_iadd dX7_seamBehind_25 ?_
    refine e_iconst (v := 1) dX7_seamBehind_26 (by decide) ?_
    refine e_callVi (j1 := 0) (j2 := 0) (av := [.int (x1 + 1), .int 1]) rfl rfl (Nat.le_of_ble_eq_true rfl) rfl rfl H i_X7_of rfl n_X7_of v_X7_of q_X7_164 (by decide) (by decide) (Nat.le_of_ble_eq_true rfl) dX7_seamBehind_27 (fun v3 τ3 H => ?_) (fun E τ H => H)
    refine e_isub dX7_seamBehind_30 ?_
    exact e_iret rfl dX7_seamBehind_31 H
  · replace H := H.2 h1
    refine e_iconst (v := 0) dX7_seamBehind_12 (by decide) ?_
    refine e_goto (tgt := 31) dX7_seamBehind_13 (by decide) ?_
    exact e_iret rfl dX7_seamBehind_31 H
set_option maxRecDepth 20000 in
set_option maxHeartbeats 2000000 in
theorem b_X7_isHidden {g : zG} {l : Launch} {K : Int32 → zS → Prop} {X : String → zS → Prop} {x1 : Int32} {x2 : Int32} {x3 : Int32} {σ : zS}
    (H : CT g l M_X7_of 0 [.ref (zad g 24), .int x1, .int 0] σ (zQi (fun v1 τ1 => CT g l M_X7_greater 0 [.int x3, .int (-x3)] τ1 (zQi (fun v2 τ2 => ((x3 ≤ 0 → ((x2 < (((v1 * v2) + 5) / 6) → K 0 τ2) ∧ (¬ x2 < (((v1 * v2) + 5) / 6) → K 1 τ2))) ∧ (¬ x3 ≤ 0 → (((v1 - (((v1 * v2) + 5) / 6)) ≤ x2 → K 0 τ2) ∧ (¬ (v1 - (((v1 * v2) + 5) / 6)) ≤ x2 → K 1 τ2))))) (fun E τ => X E τ))) (fun E τ => X E τ))) :
    CT g l M_X7_isHidden 0 [.ref (zad g 24), .int x1, .int x2, .int x3] σ (zQi K X) := by
  refine CT_of rfl (by decide) (Nat.le_of_ble_eq_true rfl) ?_
  change EV _ _ _ _ _ 0 [(0, .ref (zad g 24)), (1, .int x1), (2, .int x2), (3, .int x3)] [] _
  refine e_aload_n dX7_isHidden_0 rfl 0 rfl ?_
  refine e_iload_n dX7_isHidden_1 rfl 1 rfl ?_
  refine e_iconst (v := 0) dX7_isHidden_2 (by decide) ?_
  refine e_callVi (j1 := 0) (j2 := 0) (av := [.int x1, .int 0]) rfl rfl (Nat.le_of_ble_eq_true rfl) rfl rfl H i_X7_of rfl n_X7_of v_X7_of q_X7_164 (by decide) (by decide) (Nat.le_of_ble_eq_true rfl) dX7_isHidden_3 (fun v1 τ1 H => ?_) (fun E τ H => H)
  refine e_istore (ls' := [(4, .int v1), (0, .ref (zad g 24)), (1, .int x1), (2, .int x2), (3, .int x3)]) dX7_isHidden_6 (by decide) rfl ?_
  refine e_iload dX7_isHidden_8 0 rfl ?_
  refine e_iload_n dX7_isHidden_10 rfl 4 rfl ?_
  refine e_iload_n dX7_isHidden_11 rfl 4 rfl ?_
  refine e_ineg dX7_isHidden_12 ?_
  refine e_callSi (j1 := 0) (j2 := 0) (av := [.int x3, .int (-x3)]) rfl H i_X7_greater rfl s_X7_greater q_X7_255 (by decide) (by decide) (Nat.le_of_ble_eq_true rfl) dX7_isHidden_13 (fun v2 τ2 H => ?_) (fun E τ H => H)
  refine e_imul dX7_isHidden_16 ?_
  refine e_iconst (v := 5) dX7_isHidden_17 (by decide) ?_
  refine e_iadd dX7_isHidden_18 ?_
  refine e_bipush (v := 6) dX7_isHidden_19 (by decide) ?_
  refine e_idiv dX7_isHidden_21 (by decide) ?_
  refine e_istore (ls' := [(5, .int (((v1 * v2) + 5) / 6)), (4, .int v1), (0, .ref (zad g 24)), (1, .int x1), (2, .int x2), (3, .int x3)]) dX7_isHidden_22 (by decide) rfl ?_
  refine e_iload_n dX7_isHidden_24 rfl 5 rfl ?_
  refine e_if_le (tgt := 45) dX7_isHidden_25 (by decide) (fun h3 => ?_) (fun h3 => ?_)
  · replace H := H.1 h3
    refine e_iload_n dX7_isHidden_45 rfl 4 rfl ?_
    refine e_iload dX7_isHidden_46 0 rfl ?_
    refine e_icmp_lt (tgt := 55) dX7_isHidden_48 (by decide) (fun h4 => ?_) (fun h4 => ?_)
    · replace H := H.1 h4
      refine e_iconst (v := 0) dX7_isHidden_55 (by decide) ?_
      exact e_zret rfl rfl dX7_isHidden_56 H
    · replace H := H.2 h4
      refine e_iconst (v := 1) dX7_isHidden_51 (by decide) ?_
      refine e_goto (tgt := 56) dX7_isHidden_52 (by decide) ?_
      exact e_zret rfl rfl dX7_isHidden_56 H
  · replace H := H.2 h3
    refine e_iload_n dX7_isHidden_28 rfl 4 rfl ?_
    refine e_iload dX7_isHidden_29 1 rfl ?_
    refine e_iload dX7_isHidden_31 0 rfl ?_
    refine e_isub dX7_isHidden_33 ?_
    refine e_icmp_ge (tgt := 41) dX7_isHidden_34 (by decide) (fun h5 => ?_) (fun h5 => ?_)
    · replace H := H.1 h5
      refine e_iconst (v := 0) dX7_isHidden_41 (by decide) ?_
      refine e_goto (tgt := 56) dX7_isHidden_42 (by decide) ?_
      exact e_zret rfl rfl dX7_isHidden_56 H
    · replace H := H.2 h5
      refine e_iconst (v := 1) dX7_isHidden_37 (by decide) ?_
      refine e_goto (tgt := 56) dX7_isHidden_38 (by decide) ?_
      exact e_zret rfl rfl dX7_isHidden_56 H
set_option maxRecDepth 20000 in
set_option maxHeartbeats 2000000 in
theorem b_X7_stateOf {g : zG} {l : Launch} {K : Int32 → zS → Prop} {X : String → zS → Prop} {x1 : Int32} {x2 : Int32} {σ : zS}
    (H : CT g l M_X7_slatOf 0 [.ref (zad g 24), .int x2] σ (zQi (fun v1 τ1 => CT g l M_X7_firstOf 0 [.ref (zad g 24), .int v1] τ1 (zQi (fun v2 τ2 => ((v1 ≤ 0 → CT g l M_X7_of 0 [.ref (zad g 24), .int v1, .int 0] τ2 (zQi (fun v4 τ4 => CT g l M_X7_seamBehind 0 [.ref (zad g 24), .int v1] τ4 (zQi (fun v5 τ5 => (((x2 - v2) < (v4 + v5) → CT g l M_X7_leanOf 0 [.ref (zad g 24), .int v1, .int x1] τ5 (zQi (fun v7 τ7 => CT g l M_X7_isHidden 0 [.ref (zad g 24), .int v1, .int (x2 - v2), .int v7] τ7 (zQi (fun v8 τ8 => ((v8 = 0 → K 0 τ8) ∧ (¬ v8 = 0 → K 3 τ8))) (fun E τ => X E τ))) (fun E τ => X E τ))) ∧ (¬ (x2 - v2) < (v4 + v5) → K 2 τ5))) (fun E τ => X E τ))) (fun E τ => X E τ))) ∧ (¬ v1 ≤ 0 → CT g l M_X7_seamBehind 0 [.ref (zad g 24), .int (v1 - 1)] τ2 (zQi (fun v10 τ10 => ((v10 ≤ (x2 - v2) → CT g l M_X7_of 0 [.ref (zad g 24), .int v1, .int 0] τ10 (zQi (fun v12 τ12 => CT g l M_X7_seamBehind 0 [.ref (zad g 24), .int v1] τ12 (zQi (fun v13 τ13 => (((x2 - v2) < (v12 + v13) → CT g l M_X7_leanOf 0 [.ref (zad g 24), .int v1, .int x1] τ13 (zQi (fun v15 τ15 => CT g l M_X7_isHidden 0 [.ref (zad g 24), .int v1, .int (x2 - v2), .int v15] τ15 (zQi (fun v16 τ16 => ((v16 = 0 → K 0 τ16) ∧ (¬ v16 = 0 → K 3 τ16))) (fun E τ => X E τ))) (fun E τ => X E τ))) ∧ (¬ (x2 - v2) < (v12 + v13) → K 2 τ13))) (fun E τ => X E τ))) (fun E τ => X E τ))) ∧ (¬ v10 ≤ (x2 - v2) → K 1 τ10))) (fun E τ => X E τ))))) (fun E τ => X E τ))) (fun E τ => X E τ))) :
    CT g l M_X7_stateOf 0 [.ref (zad g 24), .int x1, .int x2] σ (zQi K X) := by
  refine CT_of rfl (by decide) (Nat.le_of_ble_eq_true rfl) ?_
  change EV _ _ _ _ _ 0 [(0, .ref (zad g 24)), (1, .int x1), (2, .int x2)] [] _
  refine e_aload_n dX7_stateOf_0 rfl 0 rfl ?_
  refine e_iload_n dX7_stateOf_1 rfl 2 rfl ?_
  refine e_callVi (j1 := 0) (j2 := 0) (av := [.int x2]) rfl rfl (Nat.le_of_ble_eq_true rfl) rfl rfl H i_X7_slatOf rfl n_X7_slatOf v_X7_slatOf q_X7_261 (by decide) (by decide) (Nat.le_of_ble_eq_true rfl) dX7_stateOf_2 (fun v1 τ1 H => ?_) (fun E τ H => H)
  refine e_istore_n (ls' := [(3, .int v1), (0, .ref (zad g 24)), (1, .int x1), (2, .int x2)]) dX7_stateOf_5 rfl (by decide) rfl ?_
  refine e_iload_n dX7_stateOf_6 rfl 3 rfl ?_
  refine e_aload_n dX7_stateOf_7 rfl 1 rfl ?_
  refine e_iload_n dX7_stateOf_8 rfl 0 rfl ?_
  refine e_callVi (j1 := 0) (j2 := 0) (av := [.int v1]) rfl rfl (Nat.le_of_ble_eq_true rfl) rfl rfl H i_X7_firstOf rfl n_X7_firstOf v_X7_firstOf q_X7_167 (by decide) (by decide) (Nat.le_of_ble_eq_true rfl) dX7_stateOf_9 (fun v2 τ2 H => ?_) (fun E τ H => H)
  refine e_isub dX7_stateOf_12 ?_
  refine e_istore (ls' := [(4, .int (x2 - v2)), (3, .int v1), (0, .ref (zad g 24)), (1, .int x1), (2, .int x2)]) dX7_stateOf_13 (by decide) rfl ?_
  refine e_iload_n dX7_stateOf_15 rfl 1 rfl ?_
  refine e_if_le (tgt := 33) dX7_stateOf_16 (by decide) (fun h3 => ?_) (fun h3 => ?_)
  · replace H := H.1 h3
    refine e_iload dX7_stateOf_33 0 rfl ?_
    refine e_aload_n dX7_stateOf_35 rfl 2 rfl ?_
    refine e_iload_n dX7_stateOf_36 rfl 1 rfl ?_
    refine e_iconst (v := 0) dX7_stateOf_37 (by decide) ?_
    refine e_callVi (j1 := 0) (j2 := 0) (av := [.int v1, .int 0]) rfl rfl (Nat.le_of_ble_eq_true rfl) rfl rfl H i_X7_of rfl n_X7_of v_X7_of q_X7_164 (by decide) (by decide) (Nat.le_of_ble_eq_true rfl) dX7_stateOf_38 (fun v4 τ4 H => ?_) (fun E τ H => H)
    refine e_aload_n dX7_stateOf_41 rfl 2 rfl ?_
    refine e_iload_n dX7_stateOf_42 rfl 1 rfl ?_
    refine e_callVi (j1 := 0) (j2 := 0) (av := [.int v1]) rfl rfl (Nat.le_of_ble_eq_true rfl) rfl rfl H i_X7_seamBehind rfl n_X7_seamBehind v_X7_seamBehind q_X7_264 (by decide) (by decide) (Nat.le_of_ble_eq_true rfl) dX7_stateOf_43 (fun v5 τ5 H => ?_) (fun E τ H => H)
    refine e_iadd dX7_stateOf_46 ?_
    refine e_icmp_lt (tgt := 52) dX7_stateOf_47 (by decide) (fun h6 => ?_) (fun h6 => ?_)
    · replace H := H.1 h6
      refine e_aload_n dX7_stateOf_52 rfl 2 rfl ?_
      refine e_iload_n dX7_stateOf_53 rfl 1 rfl ?_
      refine e_iload dX7_stateOf_54 0 rfl ?_
      refine e_aload_n dX7_stateOf_56 rfl 2 rfl ?_
      refine e_iload_n dX7_stateOf_57 rfl 1 rfl ?_
      refine e_iload_n dX7_stateOf_58 rfl 3 rfl ?_
      refine e_callVi (j1 := 0) (j2 := 0) (av := [.int v1, .int x1]) rfl rfl (Nat.le_of_ble_eq_true rfl) rfl rfl H i_X7_leanOf rfl n_X7_leanOf v_X7_leanOf q_X7_267 (by decide) (by decide) (Nat.le_of_ble_eq_true rfl) dX7_stateOf_59 (fun v7 τ7 H => ?_) (fun E τ H => H)
      refine e_callVi (j1 := 0) (j2 := 0) (av := [.int v1, .int (x2 - v2), .int v7]) rfl rfl (Nat.le_of_ble_eq_true rfl) rfl rfl H i_X7_isHidden rfl n_X7_isHidden v_X7_isHidden q_X7_270 (by decide) (by decide) (Nat.le_of_ble_eq_true rfl) dX7_stateOf_62 (fun v8 τ8 H => ?_) (fun E τ H => H)
      refine e_if_eq (tgt := 72) dX7_stateOf_65 (by decide) (fun h9 => ?_) (fun h9 => ?_)
      · replace H := H.1 h9
        refine e_iconst (v := 0) dX7_stateOf_72 (by decide) ?_
        exact e_iret rfl dX7_stateOf_73 H
      · replace H := H.2 h9
        refine e_iconst (v := 3) dX7_stateOf_68 (by decide) ?_
        refine e_goto (tgt := 73) dX7_stateOf_69 (by decide) ?_
        exact e_iret rfl dX7_stateOf_73 H
    · replace H := H.2 h6
      refine e_iconst (v := 2) dX7_stateOf_50 (by decide) ?_
      exact e_iret rfl dX7_stateOf_51 H
  · replace H := H.2 h3
    refine e_iload dX7_stateOf_19 0 rfl ?_
    refine e_aload_n dX7_stateOf_21 rfl 2 rfl ?_
    refine e_iload_n dX7_stateOf_22 rfl 1 rfl ?_
    refine e_iconst (v := 1) dX7_stateOf_23 (by decide) ?_
    refine e_isub dX7_stateOf_24 ?_
    refine e_callVi (j1 := 0) (j2 := 0) (av := [.int (v1 - 1)]) rfl rfl (Nat.le_of_ble_eq_true rfl) rfl rfl H i_X7_seamBehind rfl n_X7_seamBehind v_X7_seamBehind q_X7_264 (by decide) (by decide) (Nat.le_of_ble_eq_true rfl) dX7_stateOf_25 (fun v10 τ10 H => ?_) (fun E τ H => H)
    refine e_icmp_ge (tgt := 33) dX7_stateOf_28 (by decide) (fun h11 => ?_) (fun h11 => ?_)
    · replace H := H.1 h11
      refine e_iload dX7_stateOf_33 0 rfl ?_
      refine e_aload_n dX7_stateOf_35 rfl 2 rfl ?_
      refine e_iload_n dX7_stateOf_36 rfl 1 rfl ?_
      refine e_iconst (v := 0) dX7_stateOf_37 (by decide) ?_
      refine e_callVi (j1 := 0) (j2 := 0) (av := [.int v1, .int 0]) rfl rfl (Nat.le_of_ble_eq_true rfl) rfl rfl H i_X7_of rfl n_X7_of v_X7_of q_X7_164 (by decide) (by decide) (Nat.le_of_ble_eq_true rfl) dX7_stateOf_38 (fun v12 τ12 H => ?_) (fun E τ H => H)
      refine e_aload_n dX7_stateOf_41 rfl 2 rfl ?_
      refine e_iload_n dX7_stateOf_42 rfl 1 rfl ?_
      refine e_callVi (j1 := 0) (j2 := 0) (av := [.int v1]) rfl rfl (Nat.le_of_ble_eq_true rfl) rfl rfl H i_X7_seamBehind rfl n_X7_seamBehind v_X7_seamBehind q_X7_264 (by decide) (by decide) (Nat.le_of_ble_eq_true rfl) dX7_stateOf_43 (fun v13 τ13 H => ?_) (fun E τ H => H)
      refine e_iadd dX7_stateOf_46 ?_
      refine e_icmp_lt (tgt := 52) dX7_stateOf_47 (by decide) (fun h14 => ?_) (fun h14 => ?_)
      · replace H := H.1 h14
        refine e_aload_n dX7_stateOf_52 rfl 2 rfl ?_
        refine e_iload_n dX7_stateOf_53 rfl 1 rfl ?_
        refine e_iload dX7_stateOf_54 0 rfl ?_
        refine e_aload_n dX7_stateOf_56 rfl 2 rfl ?_
        refine e_iload_n dX7_stateOf_57 rfl 1 rfl ?_
        refine e_iload_n dX7_stateOf_58 rfl 3 rfl ?_
        refine e_callVi (j1 := 0) (j2 := 0) (av := [.int v1, .int x1]) rfl rfl (Nat.le_of_ble_eq_true rfl) rfl rfl H i_X7_leanOf rfl n_X7_leanOf v_X7_leanOf q_X7_267 (by decide) (by decide) (Nat.le_of_ble_eq_true rfl) dX7_stateOf_59 (fun v15 τ15 H => ?_) (fun E τ H => H)
        refine e_callVi (j1 := 0) (j2 := 0) (av := [.int v1, .int (x2 - v2), .int v15]) rfl rfl (Nat.le_of_ble_eq_true rfl) rfl rfl H i_X7_isHidden rfl n_X7_isHidden v_X7_isHidden q_X7_270 (by decide) (by decide) (Nat.le_of_ble_eq_true rfl) dX7_stateOf_62 (fun v16 τ16 H => ?_) (fun E τ H => H)
        refine e_if_eq (tgt := 72) dX7_stateOf_65 (by decide) (fun h17 => ?_) (fun h17 => ?_)
        · replace H := H.1 h17
          refine e_iconst (v := 0) dX7_stateOf_72 (by decide) ?_
          exact e_iret rfl dX7_stateOf_73 H
        · replace H := H.2 h17
          refine e_iconst (v := 3) dX7_stateOf_68 (by decide) ?_
          refine e_goto (tgt := 73) dX7_stateOf_69 (by decide) ?_
          exact e_iret rfl dX7_stateOf_73 H
      · replace H := H.2 h14
        refine e_iconst (v := 2) dX7_stateOf_50 (by decide) ?_
        exact e_iret rfl dX7_stateOf_51 H
    · replace H := H.2 h11
      refine e_iconst (v := 1) dX7_stateOf_31 (by decide) ?_
      exact e_iret rfl dX7_stateOf_32 H
set_option maxRecDepth 20000 in
set_option maxHeartbeats 2000000 in
theorem b_X7_sideSeen {g : zG} {l : Launch} {K : Int32 → zS → Prop} {X : String → zS → Prop} {x1 : Int32} {x2 : Int32} {σ : zS}
    (H : CT g l M_X7_slatOf 0 [.ref (zad g 24), .int x2] σ (zQi (fun v1 τ1 => CT g l M_X7_leanOf 0 [.ref (zad g 24), .int v1, .int x1] τ1 (zQi (fun v2 τ2 => ((v2 ≤ 0 → CT g l M_X7_truth 0 [.int 0] τ2 (zQi (fun v4 τ4 => K v4 τ4) (fun E τ => X E τ))) ∧ (¬ v2 ≤ 0 → CT g l M_X7_truth 0 [.int 1] τ2 (zQi (fun v5 τ5 => K v5 τ5) (fun E τ => X E τ))))) (fun E τ => X E τ))) (fun E τ => X E τ))) :
    CT g l M_X7_sideSeen 0 [.ref (zad g 24), .int x1, .int x2] σ (zQi K X) := by
  refine CT_of rfl (by decide) (Nat.le_of_ble_eq_true rfl) ?_
  change EV _ _ _ _ _ 0 [(0, .ref (zad g 24)), (1, .int x1), (2, .int x2)] [] _
  refine e_aload_n dX7_sideSeen_0 rfl 0 rfl ?_
  refine e_aload_n dX7_sideSeen_1 rfl 0 rfl ?_
  refine e_iload_n dX7_sideSeen_2 rfl 2 rfl ?_
  refine e_callVi (j1 := 0) (j2 := 0) (av := [.int x2]) rfl rfl (Nat.le_of_ble_eq_true rfl) rfl rfl H i_X7_slatOf rfl n_X7_slatOf v_X7_slatOf q_X7_261 (by decide) (by decide) (Nat.le_of_ble_eq_true rfl) dX7_sideSeen_3 (fun v1 τ1 H => ?_) (fun E τ H => H)
  refine e_iload_n dX7_sideSeen_6 rfl 1 rfl ?_
  refine e_callVi (j1 := 0) (j2 := 0) (av := [.int v1, .int x1]) rfl rfl (Nat.le_of_ble_eq_true rfl) rfl rfl H i_X7_leanOf rfl n_X7_leanOf v_X7_leanOf q_X7_267 (by decide) (by decide) (Nat.le_of_ble_eq_true rfl) dX7_sideSeen_7 (fun v2 τ2 H => ?_) (fun E τ H => H)
  refine e_if_le (tgt := 17) dX7_sideSeen_10 (by decide) (fun h3 => ?_) (fun h3 => ?_)
  · replace H := H.1 h3
    refine e_iconst (v := 0) dX7_sideSeen_17 (by decide) ?_
    refine e_callSi (j1 := 0) (j2 := 0) (av := [.int 0]) rfl H i_X7_truth rfl s_X7_truth q_X7_71 (by decide) (by decide) (Nat.le_of_ble_eq_true rfl) dX7_sideSeen_18 (fun v4 τ4 H => ?_) (fun E τ H => H)
    exact e_iret rfl dX7_sideSeen_21 H
  · replace H := H.2 h3
    refine e_iconst (v := 1) dX7_sideSeen_13 (by decide) ?_
    refine e_goto (tgt := 18) dX7_sideSeen_14 (by decide) ?_
    refine e_callSi (j1 := 0) (j2 := 0) (av := [.int 1]) rfl H i_X7_truth rfl s_X7_truth q_X7_71 (by decide) (by decide) (Nat.le_of_ble_eq_true rfl) dX7_sideSeen_18 (fun v5 τ5 H => ?_) (fun E τ H => H)
    exact e_iret rfl dX7_sideSeen_21 H
set_option maxRecDepth 20000 in
set_option maxHeartbeats 2000000 in
theorem b_X7_colourSeen {g : zG} {l : Launch} {K : Int32 → zS → Prop} {X : String → zS → Prop} {x1 : Int32} {x2 : Int32} {x3 : Int32} {σ : zS}
    (H : CT g l M_X7_sideSeen 0 [.ref (zad g 24), .int x1, .int x2] σ (zQi (fun v1 τ1 => CT g l M_X7_painted 0 [.ref (zad g 24), .int v1, .int x2, .int x3] τ1 (zQi (fun v2 τ2 => K v2 τ2) (fun E τ => X E τ))) (fun E τ => X E τ))) :
    CT g l M_X7_colourSeen 0 [.ref (zad g 24), .int x1, .int x2, .int x3] σ (zQi K X) := by
  refine CT_of rfl (by decide) (Nat.le_of_ble_eq_true rfl) ?_
  change EV _ _ _ _ _ 0 [(0, .ref (zad g 24)), (1, .int x1), (2, .int x2), (3, .int x3)] [] _
  refine e_aload_n dX7_colourSeen_0 rfl 0 rfl ?_
  refine e_aload_n dX7_colourSeen_1 rfl 0 rfl ?_
  refine e_iload_n dX7_colourSeen_2 rfl 1 rfl ?_
  refine e_iload_n dX7_colourSeen_3 rfl 2 rfl ?_
  refine e_callVi (j1 := 0) (j2 := 0) (av := [.int x1, .int x2]) rfl rfl (Nat.le_of_ble_eq_true rfl) rfl rfl H i_X7_sideSeen rfl n_X7_sideSeen v_X7_sideSeen q_X7_274 (by decide) (by decide) (Nat.le_of_ble_eq_true rfl) dX7_colourSeen_4 (fun v1 τ1 H => ?_) (fun E τ H => H)
  refine e_iload_n dX7_colourSeen_7 rfl 2 rfl ?_
  refine e_iload_n dX7_colourSeen_8 rfl 3 rfl ?_
  refine e_callVi (j1 := 0) (j2 := 0) (av := [.int v1, .int x2, .int x3]) rfl rfl (Nat.le_of_ble_eq_true rfl) rfl rfl H i_X7_painted rfl n_X7_painted v_X7_painted q_X7_180 (by decide) (by decide) (Nat.le_of_ble_eq_true rfl) dX7_colourSeen_9 (fun v2 τ2 H => ?_) (fun E τ H => H)
  exact e_iret rfl dX7_colourSeen_12 H
set_option maxRecDepth 20000 in
set_option maxHeartbeats 2000000 in
theorem b_X7_whyNot {g : zG} {l : Launch} {K : Int32 → zS → Prop} {X : String → zS → Prop} {x1 : Int32} {x2 : Int32} {x3 : Int32} {x4 : Int32} {σ : zS}
    (H : CT g l M_X7_stateOf 0 [.ref (zad g 24), .int x1, .int x3] σ (zQi (fun v1 τ1 => ((v1 = 0 → CT g l M_X7_colourSeen 0 [.ref (zad g 24), .int x1, .int x3, .int x4] τ1 (zQi (fun v3 τ3 => CT g l M_X7_pictureAt 0 [.ref (zad g 24), .int x2, .int x3, .int x4] τ3 (zQi (fun v4 τ4 => ((¬ v3 = v4 → CT g l M_X7_sideSeen 0 [.ref (zad g 24), .int x1, .int x3] τ4 (zQi (fun v6 τ6 => ((v6 = x2 → K 5 τ6) ∧ (¬ v6 = x2 → K 4 τ6))) (fun E τ => X E τ))) ∧ (v3 = v4 → K 0 τ4))) (fun E τ => X E τ))) (fun E τ => X E τ))) ∧ (¬ v1 = 0 → K v1 τ1))) (fun E τ => X E τ))) :
    CT g l M_X7_whyNot 0 [.ref (zad g 24), .int x1, .int x2, .int x3, .int x4] σ (zQi K X) := by
  refine CT_of rfl (by decide) (Nat.le_of_ble_eq_true rfl) ?_
  change EV _ _ _ _ _ 0 [(0, .ref (zad g 24)), (1, .int x1), (2, .int x2), (3, .int x3), (4, .int x4)] [] _
  refine e_aload_n dX7_whyNot_0 rfl 0 rfl ?_
  refine e_iload_n dX7_whyNot_1 rfl 1 rfl ?_
  refine e_iload_n dX7_whyNot_2 rfl 3 rfl ?_
  refine e_callVi (j1 := 0) (j2 := 0) (av := [.int x1, .int x3]) rfl rfl (Nat.le_of_ble_eq_true rfl) rfl rfl H i_X7_stateOf rfl n_X7_stateOf v_X7_stateOf q_X7_277 (by decide) (by decide) (Nat.le_of_ble_eq_true rfl) dX7_whyNot_3 (fun v1 τ1 H => ?_) (fun E τ H => H)
  refine e_istore (ls' := [(5, .int v1), (0, .ref (zad g 24)), (1, .int x1), (2, .int x2), (3, .int x3), (4, .int x4)]) dX7_whyNot_6 (by decide) rfl ?_
  refine e_iload dX7_whyNot_8 0 rfl ?_
  refine e_if_eq (tgt := 16) dX7_whyNot_10 (by decide) (fun h2 => ?_) (fun h2 => ?_)
  · replace H := H.1 h2
    refine e_aload_n dX7_whyNot_16 rfl 1 rfl ?_
    refine e_iload_n dX7_whyNot_17 rfl 2 rfl ?_
    refine e_iload_n dX7_whyNot_18 rfl 4 rfl ?_
    refine e_iload dX7_whyNot_19 5 rfl ?_
    refine e_callVi (j1 := 0) (j2 := 0) (av := [.int x1, .int x3, .int x4]) rfl rfl (Nat.le_of_ble_eq_true rfl) rfl rfl H i_X7_colourSeen rfl n_X7_colourSeen v_X7_colourSeen q_X7_280 (by decide) (by decide) (Nat.le_of_ble_eq_true rfl) dX7_whyNot_21 (fun v3 τ3 H => ?_) (fun E τ H => H)
    refine e_aload_n dX7_whyNot_24 rfl 1 rfl ?_
    refine e_iload_n dX7_whyNot_25 rfl 3 rfl ?_
    refine e_iload_n dX7_whyNot_26 rfl 4 rfl ?_
    refine e_iload dX7_whyNot_27 5 rfl ?_
    refine e_callVi (j1 := 0) (j2 := 0) (av := [.int x2, .int x3, .int x4]) rfl rfl (Nat.le_of_ble_eq_true rfl) rfl rfl H i_X7_pictureAt rfl n_X7_pictureAt v_X7_pictureAt q_X7_177 (by decide) (by decide) (Nat.le_of_ble_eq_true rfl) dX7_whyNot_29 (fun v4 τ4 H => ?_) (fun E τ H => H)
    refine e_icmp_ne (tgt := 37) dX7_whyNot_32 (by decide) (fun h5 => ?_) (fun h5 => ?_)
    · replace H := H.1 h5
      refine e_aload_n dX7_whyNot_37 rfl 1 rfl ?_
      refine e_iload_n dX7_whyNot_38 rfl 2 rfl ?_
      refine e_iload_n dX7_whyNot_39 rfl 4 rfl ?_
      refine e_callVi (j1 := 0) (j2 := 0) (av := [.int x1, .int x3]) rfl rfl (Nat.le_of_ble_eq_true rfl) rfl rfl H i_X7_sideSeen rfl n_X7_sideSeen v_X7_sideSeen q_X7_274 (by decide) (by decide) (Nat.le_of_ble_eq_true rfl) dX7_whyNot_40 (fun v6 τ6 H => ?_) (fun E τ H => H)
      refine e_iload_n dX7_whyNot_43 rfl 3 rfl ?_
      refine e_icmp_eq (tgt := 51) dX7_whyNot_44 (by decide) (fun h7 => ?_) (fun h7 => ?_)
      · replace H := H.1 h7
        refine e_iconst (v := 5) dX7_whyNot_51 (by decide) ?_
        exact e_iret rfl dX7_whyNot_52 H
      · replace H := H.2 h7
        refine e_iconst (v := 4) dX7_whyNot_47 (by decide) ?_
        refine e_goto (tgt := 52) dX7_whyNot_48 (by decide) ?_
        exact e_iret rfl dX7_whyNot_52 H
    · replace H := H.2 h5
      refine e_iconst (v := 0) dX7_whyNot_35 (by decide) ?_
      exact e_iret rfl dX7_whyNot_36 H
  · replace H := H.2 h2
    refine e_iload dX7_whyNot_13 0 rfl ?_
    exact e_iret rfl dX7_whyNot_15 H
abbrev L_X7_rightMany_11 (g : zG) (l : Launch) (K : Int32 → zS → Prop) (X : String → zS → Prop) (y1 : Int32) (y2 : Int32) (y3 : Int32) (y4 : Int32) (y5 : Int32) (σ : zS) : Prop :=
  EV g l M_X7_rightMany 0 (zQi K X) 11 [(0, .ref (zad g 24)), (1, .int y1), (2, .int y2), (3, .int y3), (4, .int y4), (5, .int y5)] [] σ
abbrev L_X7_rightMany_21 (g : zG) (l : Launch) (K : Int32 → zS → Prop) (X : String → zS → Prop) (y1 : Int32) (y2 : Int32) (y3 : Int32) (y4 : Int32) (y5 : Int32) (y6 : Int32) (σ : zS) : Prop :=
  EV g l M_X7_rightMany 0 (zQi K X) 21 [(0, .ref (zad g 24)), (1, .int y1), (2, .int y2), (3, .int y3), (4, .int y4), (5, .int y5), (6, .int y6)] [] σ
set_option maxRecDepth 20000 in
set_option maxHeartbeats 2000000 in
theorem b_X7_rightMany {g : zG} {l : Launch} {K : Int32 → zS → Prop} {X : String → zS → Prop} {x1 : Int32} {x2 : Int32} {σ : zS}
    (H : CT g l M_X7_columns 0 [.ref (zad g 24)] σ (zQi (fun v1 τ1 => L_X7_rightMany_11 g l K X x1 x2 0 v1 0 τ1) (fun E τ => X E τ))) :
    CT g l M_X7_rightMany 0 [.ref (zad g 24), .int x1, .int x2] σ (zQi K X) := by
  refine CT_of rfl (by decide) (Nat.le_of_ble_eq_true rfl) ?_
  change EV _ _ _ _ _ 0 [(0, .ref (zad g 24)), (1, .int x1), (2, .int x2)] [] _
  refine e_iconst (v := 0) dX7_rightMany_0 (by decide) ?_
  refine e_istore_n (ls' := [(3, .int 0), (0, .ref (zad g 24)), (1, .int x1), (2, .int x2)]) dX7_rightMany_1 rfl (by decide) rfl ?_
  refine e_aload_n dX7_rightMany_2 rfl 1 rfl ?_
  refine e_callVi (j1 := 0) (j2 := 0) (av := []) rfl rfl (Nat.le_of_ble_eq_true rfl) rfl rfl H i_X7_columns rfl n_X7_columns v_X7_columns q_X7_170 (by decide) (by decide) (Nat.le_of_ble_eq_true rfl) dX7_rightMany_3 (fun v1 τ1 H => ?_) (fun E τ H => H)
  refine e_istore (ls' := [(4, .int v1), (3, .int 0), (0, .ref (zad g 24)), (1, .int x1), (2, .int x2)]) dX7_rightMany_6 (by decide) rfl ?_
  refine e_iconst (v := 0) dX7_rightMany_8 (by decide) ?_
  refine e_istore (ls' := [(5, .int 0), (4, .int v1), (3, .int 0), (0, .ref (zad g 24)), (1, .int x1), (2, .int x2)]) dX7_rightMany_9 (by decide) rfl ?_
  refine e_ls [3, 4, 5, 2, 1, 0] rfl ?_
  exact H
set_option maxRecDepth 20000 in
set_option maxHeartbeats 2000000 in
theorem b_X7_rightMany_11 {g : zG} {l : Launch} {K : Int32 → zS → Prop} {X : String → zS → Prop} {y1 : Int32} {y2 : Int32} {y3 : Int32} {y4 : Int32} {y5 : Int32} {σ : zS}
    (H : ((y4 ≤ y5 → K y3 σ) ∧ (¬ y4 ≤ y5 → L_X7_rightMany_21 g l K X y1 y2 y3 y4 y5 0 σ))) :
    L_X7_rightMany_11 g l K X y1 y2 y3 y4 y5 σ := by
  refine e_iload dX7_rightMany_11 5 rfl ?_
  refine e_iload dX7_rightMany_13 4 rfl ?_
  refine e_icmp_ge (tgt := 68) dX7_rightMany_15 (by decide) (fun h1 => ?_) (fun h1 => ?_)
  · replace H := H.1 h1
    refine e_iload_n dX7_rightMany_68 rfl 3 rfl ?_
    exact e_iret rfl dX7_rightMany_69 H
  · replace H := H.2 h1
    refine e_iconst (v := 0) dX7_rightMany_18 (by decide) ?_
    refine e_istore (ls' := [(6, .int 0), (0, .ref (zad g 24)), (1, .int y1), (2, .int y2), (3, .int y3), (4, .int y4), (5, .int y5)]) dX7_rightMany_19 (by decide) rfl ?_
    refine e_ls [1, 2, 3, 4, 5, 6, 0] rfl ?_
    exact H
set_option maxRecDepth 20000 in
set_option maxHeartbeats 2000000 in
theorem b_X7_rightMany_21 {g : zG} {l : Launch} {K : Int32 → zS → Prop} {X : String → zS → Prop} {y1 : Int32} {y2 : Int32} {y3 : Int32} {y4 : Int32} {y5 : Int32} {y6 : Int32} {σ : zS}
    (H : (((σ.1 26 (Int32.toNatClampNeg 0)) ≤ y6 → L_X7_rightMany_11 g l K X y1 y2 y3 y4 (y5 + 1) σ) ∧ (¬ (σ.1 26 (Int32.toNatClampNeg 0)) ≤ y6 → CT g l M_X7_whyNot 0 [.ref (zad g 24), .int y1, .int y2, .int y5, .int y6] σ (zQi (fun v2 τ2 => ((¬ v2 = 0 → CT g l M_X7_truth 0 [.int 0] τ2 (zQi (fun v4 τ4 => L_X7_rightMany_21 g l K X y1 y2 (y3 + v4) y4 y5 (y6 + 1) τ4) (fun E τ => X E τ))) ∧ (v2 = 0 → CT g l M_X7_truth 0 [.int 1] τ2 (zQi (fun v5 τ5 => L_X7_rightMany_21 g l K X y1 y2 (y3 + v5) y4 y5 (y6 + 1) τ5) (fun E τ => X E τ))))) (fun E τ => X E τ))))) :
    L_X7_rightMany_21 g l K X y1 y2 y3 y4 y5 y6 σ := by
  refine e_iload dX7_rightMany_21 6 rfl ?_
  refine e_aload_n dX7_rightMany_23 rfl 0 rfl ?_
  refine fg_X7_20 rfl dX7_rightMany_24 ?_
  refine e_iconst (v := 0) dX7_rightMany_27 (by decide) ?_
  refine e_iald (n := 1110) rfl (Nat.le_of_ble_eq_true rfl) (vil (by decide)) dX7_rightMany_28 ?_
  refine e_icmp_ge (tgt := 62) dX7_rightMany_29 (by decide) (fun h1 => ?_) (fun h1 => ?_)
  · replace H := H.1 h1
    refine e_iinc (j := 5) (v := (y5 + 1)) (ls' := [(5, .int (y5 + 1)), (0, .ref (zad g 24)), (1, .int y1), (2, .int y2), (3, .int y3), (4, .int y4), (6, .int y6)]) dX7_rightMany_62 rfl rfl (by decide) rfl ?_
    refine e_goto (tgt := 11) dX7_rightMany_65 (by decide) ?_
    refine e_ls [1, 2, 3, 4, 5, 0] rfl ?_
    exact H
  · replace H := H.2 h1
    refine e_iload_n dX7_rightMany_32 rfl 3 rfl ?_
    refine e_aload_n dX7_rightMany_33 rfl 0 rfl ?_
    refine e_iload_n dX7_rightMany_34 rfl 1 rfl ?_
    refine e_iload_n dX7_rightMany_35 rfl 2 rfl ?_
    refine e_iload dX7_rightMany_36 5 rfl ?_
    refine e_iload dX7_rightMany_38 6 rfl ?_
    refine e_callVi (j1 := 0) (j2 := 0) (av := [.int y1, .int y2, .int y5, .int y6]) rfl rfl (Nat.le_of_ble_eq_true rfl) rfl rfl H i_X7_whyNot rfl n_X7_whyNot v_X7_whyNot q_X7_283 (by decide) (by decide) (Nat.le_of_ble_eq_true rfl) dX7_rightMany_40 (fun v2 τ2 H => ?_) (fun E τ H => H)
    refine e_if_ne (tgt := 50) dX7_rightMany_43 (by decide) (fun h3 => ?_) (fun h3 => ?_)
    · replace H := H.1 h3
      refine e_iconst (v := 0) dX7_rightMany_50 (by decide) ?_
      refine e_callSi (j1 := 0) (j2 := 0) (av := [.int 0]) rfl H i_X7_truth rfl s_X7_truth q_X7_71 (by decide) (by decide) (Nat.le_of_ble_eq_true rfl) dX7_rightMany_51 (fun v4 τ4 H => ?_) (fun E τ H => H)
      refine e_iadd dX7_rightMany_54 ?_
      refine e_istore_n (ls' := [(3, .int (y3 + v4)), (0, .ref (zad g 24)), (1, .int y1), (2, .int y2), (4, .int y4), (5, .int y5), (6, .int y6)]) dX7_rightMany_55 rfl (by decide) rfl ?_
      refine e_iinc (j := 6) (v := (y6 + 1)) (ls' := [(6, .int (y6 + 1)), (3, .int (y3 + v4)), (0, .ref (zad g 24)), (1, .int y1), (2, .int y2), (4, .int y4), (5, .int y5)]) dX7_rightMany_56 rfl rfl (by decide) rfl ?_
      refine e_goto (tgt := 21) dX7_rightMany_59 (by decide) ?_
      refine e_ls [2, 3, 4, 1, 5, 6, 0] rfl ?_
      exact H
    · replace H := H.2 h3
      refine e_iconst (v := 1) dX7_rightMany_46 (by decide) ?_
      refine e_goto (tgt := 51) dX7_rightMany_47 (by decide) ?_
      refine e_callSi (j1 := 0) (j2 := 0) (av := [.int 1]) rfl H i_X7_truth rfl s_X7_truth q_X7_71 (by decide) (by decide) (Nat.le_of_ble_eq_true rfl) dX7_rightMany_51 (fun v5 τ5 H => ?_) (fun E τ H => H)
      refine e_iadd dX7_rightMany_54 ?_
      refine e_istore_n (ls' := [(3, .int (y3 + v5)), (0, .ref (zad g 24)), (1, .int y1), (2, .int y2), (4, .int y4), (5, .int y5), (6, .int y6)]) dX7_rightMany_55 rfl (by decide) rfl ?_
      refine e_iinc (j := 6) (v := (y6 + 1)) (ls' := [(6, .int (y6 + 1)), (3, .int (y3 + v5)), (0, .ref (zad g 24)), (1, .int y1), (2, .int y2), (4, .int y4), (5, .int y5)]) dX7_rightMany_56 rfl rfl (by decide) rfl ?_
      refine e_goto (tgt := 21) dX7_rightMany_59 (by decide) ?_
      refine e_ls [2, 3, 4, 1, 5, 6, 0] rfl ?_
      exact H
abbrev L_X7_columnsAs_12 (g : zG) (l : Launch) (K : Int32 → zS → Prop) (X : String → zS → Prop) (y1 : Int32) (y2 : Int32) (y3 : Int32) (y4 : Int32) (y5 : Int32) (y6 : Int32) (σ : zS) : Prop :=
  EV g l M_X7_columnsAs 0 (zQi K X) 12 [(0, .ref (zad g 24)), (1, .int y1), (2, .int y2), (3, .int y3), (4, .int y4), (5, .int y5), (6, .int y6)] [] σ
set_option maxRecDepth 20000 in
set_option maxHeartbeats 2000000 in
theorem b_X7_columnsAs {g : zG} {l : Launch} {K : Int32 → zS → Prop} {X : String → zS → Prop} {x1 : Int32} {x2 : Int32} {x3 : Int32} {σ : zS}
    (H : CT g l M_X7_columns 0 [.ref (zad g 24)] σ (zQi (fun v1 τ1 => L_X7_columnsAs_12 g l K X x1 x2 x3 0 v1 0 τ1) (fun E τ => X E τ))) :
    CT g l M_X7_columnsAs 0 [.ref (zad g 24), .int x1, .int x2, .int x3] σ (zQi K X) := by
  refine CT_of rfl (by decide) (Nat.le_of_ble_eq_true rfl) ?_
  change EV _ _ _ _ _ 0 [(0, .ref (zad g 24)), (1, .int x1), (2, .int x2), (3, .int x3)] [] _
  refine e_iconst (v := 0) dX7_columnsAs_0 (by decide) ?_
  refine e_istore (ls' := [(4, .int 0), (0, .ref (zad g 24)), (1, .int x1), (2, .int x2), (3, .int x3)]) dX7_columnsAs_1 (by decide) rfl ?_
  refine e_aload_n dX7_columnsAs_3 rfl 1 rfl ?_
  refine e_callVi (j1 := 0) (j2 := 0) (av := []) rfl rfl (Nat.le_of_ble_eq_true rfl) rfl rfl H i_X7_columns rfl n_X7_columns v_X7_columns q_X7_170 (by decide) (by decide) (Nat.le_of_ble_eq_true rfl) dX7_columnsAs_4 (fun v1 τ1 H => ?_) (fun E τ H => H)
  refine e_istore (ls' := [(5, .int v1), (4, .int 0), (0, .ref (zad g 24)), (1, .int x1), (2, .int x2), (3, .int x3)]) dX7_columnsAs_7 (by decide) rfl ?_
  refine e_iconst (v := 0) dX7_columnsAs_9 (by decide) ?_
  refine e_istore (ls' := [(6, .int 0), (5, .int v1), (4, .int 0), (0, .ref (zad g 24)), (1, .int x1), (2, .int x2), (3, .int x3)]) dX7_columnsAs_10 (by decide) rfl ?_
  refine e_ls [3, 4, 5, 6, 2, 1, 0] rfl ?_
  exact H
set_option maxRecDepth 20000 in
set_option maxHeartbeats 2000000 in
theorem b_X7_columnsAs_12 {g : zG} {l : Launch} {K : Int32 → zS → Prop} {X : String → zS → Prop} {y1 : Int32} {y2 : Int32} {y3 : Int32} {y4 : Int32} {y5 : Int32} {y6 : Int32} {σ : zS}
    (H : ((y5 ≤ y6 → K y4 σ) ∧ (¬ y5 ≤ y6 → CT g l M_X7_stateOf 0 [.ref (zad g 24), .int y1, .int y6] σ (zQi (fun v2 τ2 => CT g l M_X7_isIn 0 [.long (Int32.toInt64 v2), .long (Int32.toInt64 y2), .long (Int32.toInt64 y3)] τ2 (zQi (fun v3 τ3 => CT g l M_X7_truth 0 [.int v3] τ3 (zQi (fun v4 τ4 => L_X7_columnsAs_12 g l K X y1 y2 y3 (y4 + v4) y5 (y6 + 1) τ4) (fun E τ => X E τ))) (fun E τ => X E τ))) (fun E τ => X E τ))))) :
    L_X7_columnsAs_12 g l K X y1 y2 y3 y4 y5 y6 σ := by
  refine e_iload dX7_columnsAs_12 6 rfl ?_
  refine e_iload dX7_columnsAs_14 5 rfl ?_
  refine e_icmp_ge (tgt := 48) dX7_columnsAs_16 (by decide) (fun h1 => ?_) (fun h1 => ?_)
  · replace H := H.1 h1
    refine e_iload dX7_columnsAs_48 4 rfl ?_
    exact e_iret rfl dX7_columnsAs_50 H
  · replace H := H.2 h1
    refine e_iload dX7_columnsAs_19 4 rfl ?_
    refine e_aload_n dX7_columnsAs_21 rfl 0 rfl ?_
    refine e_iload_n dX7_columnsAs_22 rfl 1 rfl ?_
    refine e_iload dX7_columnsAs_23 6 rfl ?_
    refine e_callVi (j1 := 0) (j2 := 0) (av := [.int y1, .int y6]) rfl rfl (Nat.le_of_ble_eq_true rfl) rfl rfl H i_X7_stateOf rfl n_X7_stateOf v_X7_stateOf q_X7_277 (by decide) (by decide) (Nat.le_of_ble_eq_true rfl) dX7_columnsAs_25 (fun v2 τ2 H => ?_) (fun E τ H => H)
    refine e_i2l (v := Int32.toInt64 v2) dX7_columnsAs_28 rfl ?_
    refine e_iload_n dX7_columnsAs_29 rfl 2 rfl ?_
    refine e_i2l (v := Int32.toInt64 y2) dX7_columnsAs_30 rfl ?_
    refine e_iload_n dX7_columnsAs_31 rfl 3 rfl ?_
    refine e_i2l (v := Int32.toInt64 y3) dX7_columnsAs_32 rfl ?_
    refine e_callSi (j1 := 0) (j2 := 0) (av := [.long (Int32.toInt64 v2), .long (Int32.toInt64 y2), .long (Int32.toInt64 y3)]) rfl H i_X7_isIn rfl s_X7_isIn q_X7_85 (by decide) (by decide) (Nat.le_of_ble_eq_true rfl) dX7_columnsAs_33 (fun v3 τ3 H => ?_) (fun E τ H => H)
    refine e_callSi (j1 := 0) (j2 := 0) (av := [.int v3]) rfl H i_X7_truth rfl s_X7_truth q_X7_71 (by decide) (by decide) (Nat.le_of_ble_eq_true rfl) dX7_columnsAs_36 (fun v4 τ4 H => ?_) (fun E τ H => H)
    refine e_iadd dX7_columnsAs_39 ?_
    refine e_istore (ls' := [(4, .int (y4 + v4)), (0, .ref (zad g 24)), (1, .int y1), (2, .int y2), (3, .int y3), (5, .int y5), (6, .int y6)]) dX7_columnsAs_40 (by decide) rfl ?_
    refine e_iinc (j := 6) (v := (y6 + 1)) (ls' := [(6, .int (y6 + 1)), (4, .int (y4 + v4)), (0, .ref (zad g 24)), (1, .int y1), (2, .int y2), (3, .int y3), (5, .int y5)]) dX7_columnsAs_42 rfl rfl (by decide) rfl ?_
    refine e_goto (tgt := 12) dX7_columnsAs_45 (by decide) ?_
    refine e_ls [2, 3, 4, 5, 1, 6, 0] rfl ?_
    exact H
abbrev L_X7_firstNot_8 (g : zG) (l : Launch) (K : Int32 → zS → Prop) (X : String → zS → Prop) (y1 : Int32) (y2 : Int32) (y3 : Int32) (y4 : Int32) (σ : zS) : Prop :=
  EV g l M_X7_firstNot 0 (zQi K X) 8 [(0, .ref (zad g 24)), (1, .int y1), (2, .int y2), (3, .int y3), (4, .int y4)] [] σ
set_option maxRecDepth 20000 in
set_option maxHeartbeats 2000000 in
theorem b_X7_firstNot {g : zG} {l : Launch} {K : Int32 → zS → Prop} {X : String → zS → Prop} {x1 : Int32} {x2 : Int32} {σ : zS}
    (H : CT g l M_X7_columns 0 [.ref (zad g 24)] σ (zQi (fun v1 τ1 => L_X7_firstNot_8 g l K X x1 x2 v1 0 τ1) (fun E τ => X E τ))) :
    CT g l M_X7_firstNot 0 [.ref (zad g 24), .int x1, .int x2] σ (zQi K X) := by
  refine CT_of rfl (by decide) (Nat.le_of_ble_eq_true rfl) ?_
  change EV _ _ _ _ _ 0 [(0, .ref (zad g 24)), (1, .int x1), (2, .int x2)] [] _
  refine e_aload_n dX7_firstNot_0 rfl 0 rfl ?_
  refine e_callVi (j1 := 0) (j2 := 0) (av := []) rfl rfl (Nat.le_of_ble_eq_true rfl) rfl rfl H i_X7_columns rfl n_X7_columns v_X7_columns q_X7_170 (by decide) (by decide) (Nat.le_of_ble_eq_true rfl) dX7_firstNot_1 (fun v1 τ1 H => ?_) (fun E τ H => H)
  refine e_istore_n (ls' := [(3, .int v1), (0, .ref (zad g 24)), (1, .int x1), (2, .int x2)]) dX7_firstNot_4 rfl (by decide) rfl ?_
  refine e_iconst (v := 0) dX7_firstNot_5 (by decide) ?_
  refine e_istore (ls' := [(4, .int 0), (3, .int v1), (0, .ref (zad g 24)), (1, .int x1), (2, .int x2)]) dX7_firstNot_6 (by decide) rfl ?_
  refine e_ls [2, 3, 4, 1, 0] rfl ?_
  exact H
set_option maxRecDepth 20000 in
set_option maxHeartbeats 2000000 in
theorem b_X7_firstNot_8 {g : zG} {l : Launch} {K : Int32 → zS → Prop} {X : String → zS → Prop} {y1 : Int32} {y2 : Int32} {y3 : Int32} {y4 : Int32} {σ : zS}
    (H : (((y3 * (σ.1 26 (Int32.toNatClampNeg 0))) ≤ y4 → K (-1) σ) ∧ (¬ (y3 * (σ.1 26 (Int32.toNatClampNeg 0))) ≤ y4 → (¬ y3 = 0 ∧ (¬ y3 = 0 ∧ CT g l M_X7_whyNot 0 [.ref (zad g 24), .int y1, .int y2, .int (y4 - y4 / y3 * y3), .int (y4 / y3)] σ (zQi (fun v2 τ2 => ((v2 = 0 → L_X7_firstNot_8 g l K X y1 y2 y3 (y4 + 1) τ2) ∧ (¬ v2 = 0 → K y4 τ2))) (fun E τ => X E τ))))))) :
    L_X7_firstNot_8 g l K X y1 y2 y3 y4 σ := by
  refine e_iload dX7_firstNot_8 4 rfl ?_
  refine e_iload_n dX7_firstNot_10 rfl 3 rfl ?_
  refine e_aload_n dX7_firstNot_11 rfl 0 rfl ?_
  refine fg_X7_20 rfl dX7_firstNot_12 ?_
  refine e_iconst (v := 0) dX7_firstNot_15 (by decide) ?_
  refine e_iald (n := 1110) rfl (Nat.le_of_ble_eq_true rfl) (vil (by decide)) dX7_firstNot_16 ?_
  refine e_imul dX7_firstNot_17 ?_
  refine e_icmp_ge (tgt := 47) dX7_firstNot_18 (by decide) (fun h1 => ?_) (fun h1 => ?_)
  · replace H := H.1 h1
    refine e_iconst (v := (-1)) dX7_firstNot_47 (by decide) ?_
    exact e_iret rfl dX7_firstNot_48 H
  · replace H := H.2 h1
    refine e_aload_n dX7_firstNot_21 rfl 0 rfl ?_
    refine e_iload_n dX7_firstNot_22 rfl 1 rfl ?_
    refine e_iload_n dX7_firstNot_23 rfl 2 rfl ?_
    refine e_iload dX7_firstNot_24 4 rfl ?_
    refine e_iload_n dX7_firstNot_26 rfl 3 rfl ?_
    refine e_irem dX7_firstNot_27 H.1 ?_
    replace H := H.2
    refine e_iload dX7_firstNot_28 4 rfl ?_
    refine e_iload_n dX7_firstNot_30 rfl 3 rfl ?_
    refine e_idiv dX7_firstNot_31 H.1 ?_
    replace H := H.2
    refine e_callVi (j1 := 0) (j2 := 0) (av := [.int y1, .int y2, .int (y4 - y4 / y3 * y3), .int (y4 / y3)]) rfl rfl (Nat.le_of_ble_eq_true rfl) rfl rfl H i_X7_whyNot rfl n_X7_whyNot v_X7_whyNot q_X7_283 (by decide) (by decide) (Nat.le_of_ble_eq_true rfl) dX7_firstNot_32 (fun v2 τ2 H => ?_) (fun E τ H => H)
    refine e_if_eq (tgt := 41) dX7_firstNot_35 (by decide) (fun h3 => ?_) (fun h3 => ?_)
    · replace H := H.1 h3
      refine e_iinc (j := 4) (v := (y4 + 1)) (ls' := [(4, .int (y4 + 1)), (0, .ref (zad g 24)), (1, .int y1), (2, .int y2), (3, .int y3)]) dX7_firstNot_41 rfl rfl (by decide) rfl ?_
      refine e_goto (tgt := 8) dX7_firstNot_44 (by decide) ?_
      refine e_ls [1, 2, 3, 4, 0] rfl ?_
      exact H
    · replace H := H.2 h3
      refine e_iload dX7_firstNot_38 4 rfl ?_
      exact e_iret rfl dX7_firstNot_40 H
set_option maxRecDepth 20000 in
set_option maxHeartbeats 2000000 in
theorem b_X7_isWhole {g : zG} {l : Launch} {K : Int32 → zS → Prop} {X : String → zS → Prop} {x1 : Int32} {x2 : Int32} {σ : zS}
    (H : (((σ.1 26 (Int32.toNatClampNeg 1)) ≤ 0 → K 0 σ) ∧ (¬ (σ.1 26 (Int32.toNatClampNeg 1)) ≤ 0 → CT g l M_X7_firstNot 0 [.ref (zad g 24), .int x1, .int x2] σ (zQi (fun v2 τ2 => ((¬ v2 = (-1) → K 0 τ2) ∧ (v2 = (-1) → K 1 τ2))) (fun E τ => X E τ))))) :
    CT g l M_X7_isWhole 0 [.ref (zad g 24), .int x1, .int x2] σ (zQi K X) := by
  refine CT_of rfl (by decide) (Nat.le_of_ble_eq_true rfl) ?_
  change EV _ _ _ _ _ 0 [(0, .ref (zad g 24)), (1, .int x1), (2, .int x2)] [] _
  refine e_aload_n dX7_isWhole_0 rfl 0 rfl ?_
  refine fg_X7_20 rfl dX7_isWhole_1 ?_
  refine e_iconst (v := 1) dX7_isWhole_4 (by decide) ?_
  refine e_iald (n := 1110) rfl (Nat.le_of_ble_eq_true rfl) (vil (by decide)) dX7_isWhole_5 ?_
  refine e_if_le (tgt := 23) dX7_isWhole_6 (by decide) (fun h1 => ?_) (fun h1 => ?_)
  · replace H := H.1 h1
    refine e_iconst (v := 0) dX7_isWhole_23 (by decide) ?_
    exact e_zret rfl rfl dX7_isWhole_24 H
  · replace H := H.2 h1
    refine e_aload_n dX7_isWhole_9 rfl 0 rfl ?_
    refine e_iload_n dX7_isWhole_10 rfl 1 rfl ?_
    refine e_iload_n dX7_isWhole_11 rfl 2 rfl ?_
    refine e_callVi (j1 := 0) (j2 := 0) (av := [.int x1, .int x2]) rfl rfl (Nat.le_of_ble_eq_true rfl) rfl rfl H i_X7_firstNot rfl n_X7_firstNot v_X7_firstNot q_X7_287 (by decide) (by decide) (Nat.le_of_ble_eq_true rfl) dX7_isWhole_12 (fun v2 τ2 H => ?_) (fun E τ H => H)
    refine e_iconst (v := (-1)) dX7_isWhole_15 (by decide) ?_
    refine e_icmp_ne (tgt := 23) dX7_isWhole_16 (by decide) (fun h3 => ?_) (fun h3 => ?_)
    · replace H := H.1 h3
      refine e_iconst (v := 0) dX7_isWhole_23 (by decide) ?_
      exact e_zret rfl rfl dX7_isWhole_24 H
    · replace H := H.2 h3
      refine e_iconst (v := 1) dX7_isWhole_19 (by decide) ?_
      refine e_goto (tgt := 24) dX7_isWhole_20 (by decide) ?_
      exact e_zret rfl rfl dX7_isWhole_24 H
set_option maxRecDepth 20000 in
set_option maxHeartbeats 2000000 in
theorem b_X7_isSlat {g : zG} {l : Launch} {K : Int32 → zS → Prop} {X : String → zS → Prop} {x1 : Int32} {σ : zS}
    (H : CT g l M_X7_isIn 0 [.long (Int32.toInt64 x1), .long (0 : Int64), .long (Int32.toInt64 ((σ.1 26 (Int32.toNatClampNeg 1)) - 1))] σ (zQi (fun v1 τ1 => (zbl v1 ∧ K v1 τ1)) (fun E τ => X E τ))) :
    CT g l M_X7_isSlat 0 [.ref (zad g 24), .int x1] σ (zQi K X) := by
  refine CT_of rfl (by decide) (Nat.le_of_ble_eq_true rfl) ?_
  change EV _ _ _ _ _ 0 [(0, .ref (zad g 24)), (1, .int x1)] [] _
  refine e_iload_n dX7_isSlat_0 rfl 1 rfl ?_
  refine e_i2l (v := Int32.toInt64 x1) dX7_isSlat_1 rfl ?_
  refine e_lconst (v := 0) dX7_isSlat_2 (by decide) ?_
  refine e_aload_n dX7_isSlat_3 rfl 0 rfl ?_
  refine fg_X7_20 rfl dX7_isSlat_4 ?_
  refine e_iconst (v := 1) dX7_isSlat_7 (by decide) ?_
  refine e_iald (n := 1110) rfl (Nat.le_of_ble_eq_true rfl) (vil (by decide)) dX7_isSlat_8 ?_
  refine e_iconst (v := 1) dX7_isSlat_9 (by decide) ?_
  refine e_isub dX7_isSlat_10 ?_
  refine e_i2l (v := Int32.toInt64 ((σ.1 26 (Int32.toNatClampNeg 1)) - 1)) dX7_isSlat_11 rfl ?_
  refine e_callSi (j1 := 0) (j2 := 0) (av := [.long (Int32.toInt64 x1), .long (0 : Int64), .long (Int32.toInt64 ((σ.1 26 (Int32.toNatClampNeg 1)) - 1))]) rfl H i_X7_isIn rfl s_X7_isIn q_X7_85 (by decide) (by decide) (Nat.le_of_ble_eq_true rfl) dX7_isSlat_12 (fun v1 τ1 H => ?_) (fun E τ H => H)
  exact e_zret rfl (zbl_n H.1) dX7_isSlat_15 H.2
set_option maxRecDepth 20000 in
set_option maxHeartbeats 2000000 in
theorem b_X7_isColumn {g : zG} {l : Launch} {K : Int32 → zS → Prop} {X : String → zS → Prop} {x1 : Int32} {σ : zS}
    (H : CT g l M_X7_columns 0 [.ref (zad g 24)] σ (zQi (fun v1 τ1 => CT g l M_X7_isIn 0 [.long (Int32.toInt64 x1), .long (0 : Int64), .long (Int32.toInt64 (v1 - 1))] τ1 (zQi (fun v2 τ2 => (zbl v2 ∧ K v2 τ2)) (fun E τ => X E τ))) (fun E τ => X E τ))) :
    CT g l M_X7_isColumn 0 [.ref (zad g 24), .int x1] σ (zQi K X) := by
  refine CT_of rfl (by decide) (Nat.le_of_ble_eq_true rfl) ?_
  change EV _ _ _ _ _ 0 [(0, .ref (zad g 24)), (1, .int x1)] [] _
  refine e_iload_n dX7_isColumn_0 rfl 1 rfl ?_
  refine e_i2l (v := Int32.toInt64 x1) dX7_isColumn_1 rfl ?_
  refine e_lconst (v := 0) dX7_isColumn_2 (by decide) ?_
  refine e_aload_n dX7_isColumn_3 rfl 0 rfl ?_
  refine e_callVi (j1 := 0) (j2 := 0) (av := []) rfl rfl (Nat.le_of_ble_eq_true rfl) rfl rfl H i_X7_columns rfl n_X7_columns v_X7_columns q_X7_170 (by decide) (by decide) (Nat.le_of_ble_eq_true rfl) dX7_isColumn_4 (fun v1 τ1 H => ?_) (fun E τ H => H)
  refine e_iconst (v := 1) dX7_isColumn_7 (by decide) ?_
  refine e_isub dX7_isColumn_8 ?_
  refine e_i2l (v := Int32.toInt64 (v1 - 1)) dX7_isColumn_9 rfl ?_
  refine e_callSi (j1 := 0) (j2 := 0) (av := [.long (Int32.toInt64 x1), .long (0 : Int64), .long (Int32.toInt64 (v1 - 1))]) rfl H i_X7_isIn rfl s_X7_isIn q_X7_85 (by decide) (by decide) (Nat.le_of_ble_eq_true rfl) dX7_isColumn_10 (fun v2 τ2 H => ?_) (fun E τ H => H)
  exact e_zret rfl (zbl_n H.1) dX7_isColumn_13 H.2
set_option maxRecDepth 20000 in
set_option maxHeartbeats 2000000 in
theorem b_X7_isRow {g : zG} {l : Launch} {K : Int32 → zS → Prop} {X : String → zS → Prop} {x1 : Int32} {σ : zS}
    (H : CT g l M_X7_isIn 0 [.long (Int32.toInt64 x1), .long (0 : Int64), .long (Int32.toInt64 ((σ.1 26 (Int32.toNatClampNeg 0)) - 1))] σ (zQi (fun v1 τ1 => (zbl v1 ∧ K v1 τ1)) (fun E τ => X E τ))) :
    CT g l M_X7_isRow 0 [.ref (zad g 24), .int x1] σ (zQi K X) := by
  refine CT_of rfl (by decide) (Nat.le_of_ble_eq_true rfl) ?_
  change EV _ _ _ _ _ 0 [(0, .ref (zad g 24)), (1, .int x1)] [] _
  refine e_iload_n dX7_isRow_0 rfl 1 rfl ?_
  refine e_i2l (v := Int32.toInt64 x1) dX7_isRow_1 rfl ?_
  refine e_lconst (v := 0) dX7_isRow_2 (by decide) ?_
  refine e_aload_n dX7_isRow_3 rfl 0 rfl ?_
  refine fg_X7_20 rfl dX7_isRow_4 ?_
  refine e_iconst (v := 0) dX7_isRow_7 (by decide) ?_
  refine e_iald (n := 1110) rfl (Nat.le_of_ble_eq_true rfl) (vil (by decide)) dX7_isRow_8 ?_
  refine e_iconst (v := 1) dX7_isRow_9 (by decide) ?_
  refine e_isub dX7_isRow_10 ?_
  refine e_i2l (v := Int32.toInt64 ((σ.1 26 (Int32.toNatClampNeg 0)) - 1)) dX7_isRow_11 rfl ?_
  refine e_callSi (j1 := 0) (j2 := 0) (av := [.long (Int32.toInt64 x1), .long (0 : Int64), .long (Int32.toInt64 ((σ.1 26 (Int32.toNatClampNeg 0)) - 1))]) rfl H i_X7_isIn rfl s_X7_isIn q_X7_85 (by decide) (by decide) (Nat.le_of_ble_eq_true rfl) dX7_isRow_12 (fun v1 τ1 H => ?_) (fun E τ H => H)
  exact e_zret rfl (zbl_n H.1) dX7_isRow_15 H.2
set_option maxRecDepth 20000 in
set_option maxHeartbeats 2000000 in
theorem b_X7_isOfSlat {g : zG} {l : Launch} {K : Int32 → zS → Prop} {X : String → zS → Prop} {x1 : Int32} {x2 : Int32} {x3 : Int32} {σ : zS}
    (H : CT g l M_X7_isSlat 0 [.ref (zad g 24), .int x1] σ (zQi (fun v1 τ1 => ((v1 = 0 → K 0 τ1) ∧ (¬ v1 = 0 → CT g l M_X7_of 0 [.ref (zad g 24), .int x1, .int 0] τ1 (zQi (fun v3 τ3 => CT g l M_X7_isIn 0 [.long (Int32.toInt64 x2), .long (0 : Int64), .long (Int32.toInt64 (v3 - 1))] τ3 (zQi (fun v4 τ4 => ((v4 = 0 → K 0 τ4) ∧ (¬ v4 = 0 → CT g l M_X7_isRow 0 [.ref (zad g 24), .int x3] τ4 (zQi (fun v6 τ6 => ((v6 = 0 → K 0 τ6) ∧ (¬ v6 = 0 → K 1 τ6))) (fun E τ => X E τ))))) (fun E τ => X E τ))) (fun E τ => X E τ))))) (fun E τ => X E τ))) :
    CT g l M_X7_isOfSlat 0 [.ref (zad g 24), .int x1, .int x2, .int x3] σ (zQi K X) := by
  refine CT_of rfl (by decide) (Nat.le_of_ble_eq_true rfl) ?_
  change EV _ _ _ _ _ 0 [(0, .ref (zad g 24)), (1, .int x1), (2, .int x2), (3, .int x3)] [] _
  refine e_aload_n dX7_isOfSlat_0 rfl 0 rfl ?_
  refine e_iload_n dX7_isOfSlat_1 rfl 1 rfl ?_
  refine e_callVi (j1 := 0) (j2 := 0) (av := [.int x1]) rfl rfl (Nat.le_of_ble_eq_true rfl) rfl rfl H i_X7_isSlat rfl n_X7_isSlat v_X7_isSlat q_X7_290 (by decide) (by decide) (Nat.le_of_ble_eq_true rfl) dX7_isOfSlat_2 (fun v1 τ1 H => ?_) (fun E τ H => H)
  refine e_if_eq (tgt := 38) dX7_isOfSlat_5 (by decide) (fun h2 => ?_) (fun h2 => ?_)
  · replace H := H.1 h2
    refine e_iconst (v := 0) dX7_isOfSlat_38 (by decide) ?_
    exact e_zret rfl rfl dX7_isOfSlat_39 H
  · replace H := H.2 h2
    refine e_iload_n dX7_isOfSlat_8 rfl 2 rfl ?_
    refine e_i2l (v := Int32.toInt64 x2) dX7_isOfSlat_9 rfl ?_
    refine e_lconst (v := 0) dX7_isOfSlat_10 (by decide) ?_
    refine e_aload_n dX7_isOfSlat_11 rfl 0 rfl ?_
    refine e_iload_n dX7_isOfSlat_12 rfl 1 rfl ?_
    refine e_iconst (v := 0) dX7_isOfSlat_13 (by decide) ?_
    refine e_callVi (j1 := 0) (j2 := 0) (av := [.int x1, .int 0]) rfl rfl (Nat.le_of_ble_eq_true rfl) rfl rfl H i_X7_of rfl n_X7_of v_X7_of q_X7_164 (by decide) (by decide) (Nat.le_of_ble_eq_true rfl) dX7_isOfSlat_14 (fun v3 τ3 H => ?_) (fun E τ H => H)
    refine e_iconst (v := 1) dX7_isOfSlat_17 (by decide) ?_
    refine e_isub dX7_isOfSlat_18 ?_
    refine e_i2l (v := Int32.toInt64 (v3 - 1)) dX7_isOfSlat_19 rfl ?_
    refine e_callSi (j1 := 0) (j2 := 0) (av := [.long (Int32.toInt64 x2), .long (0 : Int64), .long (Int32.toInt64 (v3 - 1))]) rfl H i_X7_isIn rfl s_X7_isIn q_X7_85 (by decide) (by decide) (Nat.le_of_ble_eq_true rfl) dX7_isOfSlat_20 (fun v4 τ4 H => ?_) (fun E τ H => H)
    refine e_if_eq (tgt := 38) dX7_isOfSlat_23 (by decide) (fun h5 => ?_) (fun h5 => ?_)
    · replace H := H.1 h5
      refine e_iconst (v := 0) dX7_isOfSlat_38 (by decide) ?_
      exact e_zret rfl rfl dX7_isOfSlat_39 H
    · replace H := H.2 h5
      refine e_aload_n dX7_isOfSlat_26 rfl 0 rfl ?_
      refine e_iload_n dX7_isOfSlat_27 rfl 3 rfl ?_
      refine e_callVi (j1 := 0) (j2 := 0) (av := [.int x3]) rfl rfl (Nat.le_of_ble_eq_true rfl) rfl rfl H i_X7_isRow rfl n_X7_isRow v_X7_isRow q_X7_293 (by decide) (by decide) (Nat.le_of_ble_eq_true rfl) dX7_isOfSlat_28 (fun v6 τ6 H => ?_) (fun E τ H => H)
      refine e_if_eq (tgt := 38) dX7_isOfSlat_31 (by decide) (fun h7 => ?_) (fun h7 => ?_)
      · replace H := H.1 h7
        refine e_iconst (v := 0) dX7_isOfSlat_38 (by decide) ?_
        exact e_zret rfl rfl dX7_isOfSlat_39 H
      · replace H := H.2 h7
        refine e_iconst (v := 1) dX7_isOfSlat_34 (by decide) ?_
        refine e_goto (tgt := 39) dX7_isOfSlat_35 (by decide) ?_
        exact e_zret rfl rfl dX7_isOfSlat_39 H
set_option maxRecDepth 20000 in
set_option maxHeartbeats 2000000 in
theorem b_X7_isAngle {g : zG} {l : Launch} {K : Int32 → zS → Prop} {X : String → zS → Prop} {x0 : Int32} {σ : zS}
    (H : CT g l M_X7_isIn 0 [.long (Int32.toInt64 x0), .long (-6 : Int64), .long (6 : Int64)] σ (zQi (fun v1 τ1 => (zbl v1 ∧ K v1 τ1)) (fun E τ => X E τ))) :
    CT g l M_X7_isAngle 0 [.int x0] σ (zQi K X) := by
  refine CT_of rfl (by decide) (Nat.le_of_ble_eq_true rfl) ?_
  change EV _ _ _ _ _ 0 [(0, .int x0)] [] _
  refine e_iload_n dX7_isAngle_0 rfl 0 rfl ?_
  refine e_i2l (v := Int32.toInt64 x0) dX7_isAngle_1 rfl ?_
  refine e_ldc2 k_X7_296 dX7_isAngle_2 ?_
  refine e_ldc2 k_X7_298 dX7_isAngle_5 ?_
  refine e_callSi (j1 := 0) (j2 := 0) (av := [.long (Int32.toInt64 x0), .long (-6 : Int64), .long (6 : Int64)]) rfl H i_X7_isIn rfl s_X7_isIn q_X7_85 (by decide) (by decide) (Nat.le_of_ble_eq_true rfl) dX7_isAngle_8 (fun v1 τ1 H => ?_) (fun E τ H => H)
  exact e_zret rfl (zbl_n H.1) dX7_isAngle_11 H.2
abbrev L_X7_boxesOf_4 (g : zG) (l : Launch) (K : Int32 → zS → Prop) (X : String → zS → Prop) (y1 : Int32) (y2 : Int32) (y3 : Int32) (σ : zS) : Prop :=
  EV g l M_X7_boxesOf 0 (zQi K X) 4 [(0, .ref (zad g 24)), (1, .int y1), (2, .int y2), (3, .int y3)] [] σ
set_option maxRecDepth 20000 in
set_option maxHeartbeats 2000000 in
theorem b_X7_boxesOf {g : zG} {l : Launch} {K : Int32 → zS → Prop} {X : String → zS → Prop} {x1 : Int32} {σ : zS}
    (H : L_X7_boxesOf_4 g l K X x1 0 0 σ) :
    CT g l M_X7_boxesOf 0 [.ref (zad g 24), .int x1] σ (zQi K X) := by
  refine CT_of rfl (by decide) (Nat.le_of_ble_eq_true rfl) ?_
  change EV _ _ _ _ _ 0 [(0, .ref (zad g 24)), (1, .int x1)] [] _
  refine e_iconst (v := 0) dX7_boxesOf_0 (by decide) ?_
  refine e_istore_n (ls' := [(2, .int 0), (0, .ref (zad g 24)), (1, .int x1)]) dX7_boxesOf_1 rfl (by decide) rfl ?_
  refine e_iconst (v := 0) dX7_boxesOf_2 (by decide) ?_
  refine e_istore_n (ls' := [(3, .int 0), (2, .int 0), (0, .ref (zad g 24)), (1, .int x1)]) dX7_boxesOf_3 rfl (by decide) rfl ?_
  refine e_ls [2, 3, 1, 0] rfl ?_
  exact H
set_option maxRecDepth 20000 in
set_option maxHeartbeats 2000000 in
theorem b_X7_boxesOf_4 {g : zG} {l : Launch} {K : Int32 → zS → Prop} {X : String → zS → Prop} {y1 : Int32} {y2 : Int32} {y3 : Int32} {σ : zS}
    (H : (((σ.1 26 (Int32.toNatClampNeg 3)) ≤ y3 → K y2 σ) ∧ (¬ (σ.1 26 (Int32.toNatClampNeg 3)) ≤ y3 → CT g l M_X7_ofBox 0 [.ref (zad g 24), .int y3, .int 0] σ (zQi (fun v2 τ2 => ((¬ v2 = y1 → CT g l M_X7_truth 0 [.int 0] τ2 (zQi (fun v4 τ4 => L_X7_boxesOf_4 g l K X y1 (y2 + v4) (y3 + 1) τ4) (fun E τ => X E τ))) ∧ (v2 = y1 → CT g l M_X7_truth 0 [.int 1] τ2 (zQi (fun v5 τ5 => L_X7_boxesOf_4 g l K X y1 (y2 + v5) (y3 + 1) τ5) (fun E τ => X E τ))))) (fun E τ => X E τ))))) :
    L_X7_boxesOf_4 g l K X y1 y2 y3 σ := by
  refine e_iload_n dX7_boxesOf_4 rfl 3 rfl ?_
  refine e_aload_n dX7_boxesOf_5 rfl 0 rfl ?_
  refine fg_X7_20 rfl dX7_boxesOf_6 ?_
  refine e_iconst (v := 3) dX7_boxesOf_9 (by decide) ?_
  refine e_iald (n := 1110) rfl (Nat.le_of_ble_eq_true rfl) (vil (by decide)) dX7_boxesOf_10 ?_
  refine e_icmp_ge (tgt := 41) dX7_boxesOf_11 (by decide) (fun h1 => ?_) (fun h1 => ?_)
  · replace H := H.1 h1
    refine e_iload_n dX7_boxesOf_41 rfl 2 rfl ?_
    exact e_iret rfl dX7_boxesOf_42 H
  · replace H := H.2 h1
    refine e_iload_n dX7_boxesOf_14 rfl 2 rfl ?_
    refine e_aload_n dX7_boxesOf_15 rfl 0 rfl ?_
    refine e_iload_n dX7_boxesOf_16 rfl 3 rfl ?_
    refine e_iconst (v := 0) dX7_boxesOf_17 (by decide) ?_
    refine e_callVi (j1 := 0) (j2 := 0) (av := [.int y3, .int 0]) rfl rfl (Nat.le_of_ble_eq_true rfl) rfl rfl H i_X7_ofBox rfl n_X7_ofBox v_X7_ofBox q_X7_174 (by decide) (by decide) (Nat.le_of_ble_eq_true rfl) dX7_boxesOf_18 (fun v2 τ2 H => ?_) (fun E τ H => H)
    refine e_iload_n dX7_boxesOf_21 rfl 1 rfl ?_
    refine e_icmp_ne (tgt := 29) dX7_boxesOf_22 (by decide) (fun h3 => ?_) (fun h3 => ?_)
    · replace H := H.1 h3
      refine e_iconst (v := 0) dX7_boxesOf_29 (by decide) ?_
      refine e_callSi (j1 := 0) (j2 := 0) (av := [.int 0]) rfl H i_X7_truth rfl s_X7_truth q_X7_71 (by decide) (by decide) (Nat.le_of_ble_eq_true rfl) dX7_boxesOf_30 (fun v4 τ4 H => ?_) (fun E τ H => H)
      refine e_iadd dX7_boxesOf_33 ?_
      refine e_istore_n (ls' := [(2, .int (y2 + v4)), (0, .ref (zad g 24)), (1, .int y1), (3, .int y3)]) dX7_boxesOf_34 rfl (by decide) rfl ?_
      refine e_iinc (j := 3) (v := (y3 + 1)) (ls' := [(3, .int (y3 + 1)), (2, .int (y2 + v4)), (0, .ref (zad g 24)), (1, .int y1)]) dX7_boxesOf_35 rfl rfl (by decide) rfl ?_
      refine e_goto (tgt := 4) dX7_boxesOf_38 (by decide) ?_
      refine e_ls [2, 3, 1, 0] rfl ?_
      exact H
    · replace H := H.2 h3
      refine e_iconst (v := 1) dX7_boxesOf_25 (by decide) ?_
      refine e_goto (tgt := 30) dX7_boxesOf_26 (by decide) ?_
      refine e_callSi (j1 := 0) (j2 := 0) (av := [.int 1]) rfl H i_X7_truth rfl s_X7_truth q_X7_71 (by decide) (by decide) (Nat.le_of_ble_eq_true rfl) dX7_boxesOf_30 (fun v5 τ5 H => ?_) (fun E τ H => H)
      refine e_iadd dX7_boxesOf_33 ?_
      refine e_istore_n (ls' := [(2, .int (y2 + v5)), (0, .ref (zad g 24)), (1, .int y1), (3, .int y3)]) dX7_boxesOf_34 rfl (by decide) rfl ?_
      refine e_iinc (j := 3) (v := (y3 + 1)) (ls' := [(3, .int (y3 + 1)), (2, .int (y2 + v5)), (0, .ref (zad g 24)), (1, .int y1)]) dX7_boxesOf_35 rfl rfl (by decide) rfl ?_
      refine e_goto (tgt := 4) dX7_boxesOf_38 (by decide) ?_
      refine e_ls [2, 3, 1, 0] rfl ?_
      exact H
abbrev L_X7_tiedMany_4 (g : zG) (l : Launch) (K : Int32 → zS → Prop) (X : String → zS → Prop) (y1 : Int32) (y2 : Int32) (σ : zS) : Prop :=
  EV g l M_X7_tiedMany 0 (zQi K X) 4 [(0, .ref (zad g 24)), (1, .int y1), (2, .int y2)] [] σ
set_option maxRecDepth 20000 in
set_option maxHeartbeats 2000000 in
theorem b_X7_tiedMany {g : zG} {l : Launch} {K : Int32 → zS → Prop} {X : String → zS → Prop} {σ : zS}
    (H : L_X7_tiedMany_4 g l K X 0 0 σ) :
    CT g l M_X7_tiedMany 0 [.ref (zad g 24)] σ (zQi K X) := by
  refine CT_of rfl (by decide) (Nat.le_of_ble_eq_true rfl) ?_
  change EV _ _ _ _ _ 0 [(0, .ref (zad g 24))] [] _
  refine e_iconst (v := 0) dX7_tiedMany_0 (by decide) ?_
  refine e_istore_n (ls' := [(1, .int 0), (0, .ref (zad g 24))]) dX7_tiedMany_1 rfl (by decide) rfl ?_
  refine e_iconst (v := 0) dX7_tiedMany_2 (by decide) ?_
  refine e_istore_n (ls' := [(2, .int 0), (1, .int 0), (0, .ref (zad g 24))]) dX7_tiedMany_3 rfl (by decide) rfl ?_
  refine e_ls [2, 1, 0] rfl ?_
  exact H
set_option maxRecDepth 20000 in
set_option maxHeartbeats 2000000 in
theorem b_X7_tiedMany_4 {g : zG} {l : Launch} {K : Int32 → zS → Prop} {X : String → zS → Prop} {y1 : Int32} {y2 : Int32} {σ : zS}
    (H : (((σ.1 26 (Int32.toNatClampNeg 1)) ≤ y2 → K y1 σ) ∧ (¬ (σ.1 26 (Int32.toNatClampNeg 1)) ≤ y2 → CT g l M_X7_of 0 [.ref (zad g 24), .int y2, .int 2] σ (zQi (fun v2 τ2 => L_X7_tiedMany_4 g l K X (y1 + v2) (y2 + 1) τ2) (fun E τ => X E τ))))) :
    L_X7_tiedMany_4 g l K X y1 y2 σ := by
  refine e_iload_n dX7_tiedMany_4 rfl 2 rfl ?_
  refine e_aload_n dX7_tiedMany_5 rfl 0 rfl ?_
  refine fg_X7_20 rfl dX7_tiedMany_6 ?_
  refine e_iconst (v := 1) dX7_tiedMany_9 (by decide) ?_
  refine e_iald (n := 1110) rfl (Nat.le_of_ble_eq_true rfl) (vil (by decide)) dX7_tiedMany_10 ?_
  refine e_icmp_ge (tgt := 29) dX7_tiedMany_11 (by decide) (fun h1 => ?_) (fun h1 => ?_)
  · replace H := H.1 h1
    refine e_iload_n dX7_tiedMany_29 rfl 1 rfl ?_
    exact e_iret rfl dX7_tiedMany_30 H
  · replace H := H.2 h1
    refine e_iload_n dX7_tiedMany_14 rfl 1 rfl ?_
    refine e_aload_n dX7_tiedMany_15 rfl 0 rfl ?_
    refine e_iload_n dX7_tiedMany_16 rfl 2 rfl ?_
    refine e_iconst (v := 2) dX7_tiedMany_17 (by decide) ?_
    refine e_callVi (j1 := 0) (j2 := 0) (av := [.int y2, .int 2]) rfl rfl (Nat.le_of_ble_eq_true rfl) rfl rfl H i_X7_of rfl n_X7_of v_X7_of q_X7_164 (by decide) (by decide) (Nat.le_of_ble_eq_true rfl) dX7_tiedMany_18 (fun v2 τ2 H => ?_) (fun E τ H => H)
    refine e_iadd dX7_tiedMany_21 ?_
    refine e_istore_n (ls' := [(1, .int (y1 + v2)), (0, .ref (zad g 24)), (2, .int y2)]) dX7_tiedMany_22 rfl (by decide) rfl ?_
    refine e_iinc (j := 2) (v := (y2 + 1)) (ls' := [(2, .int (y2 + 1)), (1, .int (y1 + v2)), (0, .ref (zad g 24))]) dX7_tiedMany_23 rfl rfl (by decide) rfl ?_
    refine e_goto (tgt := 4) dX7_tiedMany_26 (by decide) ?_
    refine e_ls [2, 1, 0] rfl ?_
    exact H
