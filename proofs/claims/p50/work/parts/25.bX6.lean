set_option maxRecDepth 20000 in
set_option maxHeartbeats 2000000 in
theorem b_X6_feed {g : zG} {l : Launch} {K : Int32 → zS → Prop} {X : String → zS → Prop} {x1 : Int32} {x2 : Int32} {x3 : Int32} {x4 : Int32} {x5 : Int32} {σ : zS}
    (H : ((((σ.1 1 1) + 20) ≤ 600 → CT g l M_X3_append 0 [.ref (zad g 1), .int x1] σ (zQv (fun τ2 => CT g l M_X3_append 0 [.ref (zad g 1), .int x2] τ2 (zQv (fun τ3 => CT g l M_X3_append 0 [.ref (zad g 1), .int x3] τ3 (zQv (fun τ4 => CT g l M_X3_append 0 [.ref (zad g 1), .int x4] τ4 (zQv (fun τ5 => CT g l M_X3_append 0 [.ref (zad g 1), .int x5] τ5 (zQv (fun τ6 => K (τ6.1 1 1) τ6) (fun E τ => X E τ))) (fun E τ => X E τ))) (fun E τ => X E τ))) (fun E τ => X E τ))) (fun E τ => X E τ))) ∧ (¬ ((σ.1 1 1) + 20) ≤ 600 → X "java/lang/IllegalStateException" σ))) :
    CT g l M_X6_feed 1 [.ref (zad g 0), .int x1, .int x2, .int x3, .int x4, .int x5] σ (zQi K X) := by
  refine CT_of rfl (by decide) (Nat.le_of_ble_eq_true rfl) ?_
  change EV _ _ _ _ _ 0 [(0, .ref (zad g 0)), (1, .int x1), (2, .int x2), (3, .int x3), (4, .int x4), (5, .int x5)] [] _
  refine e_aload_n dX6_feed_0 rfl 0 rfl ?_
  refine fg_X6_12 rfl dX6_feed_1 ?_
  refine fg_X6_66 rfl dX6_feed_4 ?_
  refine e_bipush (v := 20) dX6_feed_7 (by decide) ?_
  refine e_iadd dX6_feed_9 ?_
  refine e_sipush (v := 600) dX6_feed_10 (by decide) ?_
  refine e_icmp_le (tgt := 26) dX6_feed_13 (by decide) (fun h1 => ?_) (fun h1 => ?_)
  · replace H := H.1 h1
    refine e_aload_n dX6_feed_26 rfl 0 rfl ?_
    refine fg_X6_12 rfl dX6_feed_27 ?_
    refine e_iload_n dX6_feed_30 rfl 1 rfl ?_
    refine e_callVv (j1 := 0) (j2 := 0) (av := [.int x1]) rfl rfl (Nat.le_of_ble_eq_true rfl) rfl rfl H i_X3_append rfl n_X3_append v_X3_append q_X6_77 (by decide) (by decide) (Nat.le_of_ble_eq_true rfl) dX6_feed_31 (fun τ2 H => ?_) (fun E τ H => H)
    refine e_aload_n dX6_feed_34 rfl 0 rfl ?_
    refine fg_X6_12 rfl dX6_feed_35 ?_
    refine e_iload_n dX6_feed_38 rfl 2 rfl ?_
    refine e_callVv (j1 := 0) (j2 := 0) (av := [.int x2]) rfl rfl (Nat.le_of_ble_eq_true rfl) rfl rfl H i_X3_append rfl n_X3_append v_X3_append q_X6_77 (by decide) (by decide) (Nat.le_of_ble_eq_true rfl) dX6_feed_39 (fun τ3 H => ?_) (fun E τ H => H)
    refine e_aload_n dX6_feed_42 rfl 0 rfl ?_
    refine fg_X6_12 rfl dX6_feed_43 ?_
    refine e_iload_n dX6_feed_46 rfl 3 rfl ?_
    refine e_callVv (j1 := 0) (j2 := 0) (av := [.int x3]) rfl rfl (Nat.le_of_ble_eq_true rfl) rfl rfl H i_X3_append rfl n_X3_append v_X3_append q_X6_77 (by decide) (by decide) (Nat.le_of_ble_eq_true rfl) dX6_feed_47 (fun τ4 H => ?_) (fun E τ H => H)
    refine e_aload_n dX6_feed_50 rfl 0 rfl ?_
    refine fg_X6_12 rfl dX6_feed_51 ?_
    refine e_iload dX6_feed_54 4 rfl ?_
    refine e_callVv (j1 := 0) (j2 := 0) (av := [.int x4]) rfl rfl (Nat.le_of_ble_eq_true rfl) rfl rfl H i_X3_append rfl n_X3_append v_X3_append q_X6_77 (by decide) (by decide) (Nat.le_of_ble_eq_true rfl) dX6_feed_56 (fun τ5 H => ?_) (fun E τ H => H)
    refine e_aload_n dX6_feed_59 rfl 0 rfl ?_
    refine fg_X6_12 rfl dX6_feed_60 ?_
    refine e_iload dX6_feed_63 5 rfl ?_
    refine e_callVv (j1 := 0) (j2 := 0) (av := [.int x5]) rfl rfl (Nat.le_of_ble_eq_true rfl) rfl rfl H i_X3_append rfl n_X3_append v_X3_append q_X6_77 (by decide) (by decide) (Nat.le_of_ble_eq_true rfl) dX6_feed_65 (fun τ6 H => ?_) (fun E τ H => H)
    refine e_aload_n dX6_feed_68 rfl 0 rfl ?_
    refine fg_X6_12 rfl dX6_feed_69 ?_
    refine fg_X6_66 rfl dX6_feed_72 ?_
    exact e_iret rfl dX6_feed_75 H
  · replace H := H.2 h1
    exact e_throw (cls := "java/lang/IllegalStateException") (i := 18) (by decide +kernel) (by decide +kernel) cl_X6_70 ci_IllegalStateException rfl (tha_X6_74) (thg_X6_70_74) (by decide) (by decide) (Nat.le_of_ble_eq_true rfl) dX6_feed_16 dX6_feed_19 dX6_feed_20 dX6_feed_22 dX6_feed_25 H
set_option maxRecDepth 20000 in
set_option maxHeartbeats 2000000 in
theorem b_X6_truncate {g : zG} {l : Launch} {K : Int32 → zS → Prop} {X : String → zS → Prop} {x1 : Int32} {σ : zS}
    (H : ((x1 < 0 → X "java/lang/IllegalArgumentException" σ) ∧ (¬ x1 < 0 → ((x1 ≤ (σ.1 1 1) → (∀ σ3 : zS, σ3 = zup σ 1 1 x1 → K x1 σ3)) ∧ (¬ x1 ≤ (σ.1 1 1) → X "java/lang/IllegalArgumentException" σ))))) :
    CT g l M_X6_truncate 1 [.ref (zad g 0), .int x1] σ (zQi K X) := by
  refine CT_of rfl (by decide) (Nat.le_of_ble_eq_true rfl) ?_
  change EV _ _ _ _ _ 0 [(0, .ref (zad g 0)), (1, .int x1)] [] _
  refine e_iload_n dX6_truncate_0 rfl 1 rfl ?_
  refine e_if_lt (tgt := 15) dX6_truncate_1 (by decide) (fun h1 => ?_) (fun h1 => ?_)
  · replace H := H.1 h1
    exact e_throw (cls := "java/lang/IllegalArgumentException") (i := 19) (by decide +kernel) (by decide +kernel) cl_X6_81 ci_IllegalArgumentException rfl (tha_X6_85) (thg_X6_81_85) (by decide) (by decide) (Nat.le_of_ble_eq_true rfl) dX6_truncate_15 dX6_truncate_18 dX6_truncate_19 dX6_truncate_21 dX6_truncate_24 H
  · replace H := H.2 h1
    refine e_iload_n dX6_truncate_4 rfl 1 rfl ?_
    refine e_aload_n dX6_truncate_5 rfl 0 rfl ?_
    refine fg_X6_12 rfl dX6_truncate_6 ?_
    refine fg_X6_66 rfl dX6_truncate_9 ?_
    refine e_icmp_le (tgt := 25) dX6_truncate_12 (by decide) (fun h2 => ?_) (fun h2 => ?_)
    · replace H := H.1 h2
      refine e_aload_n dX6_truncate_25 rfl 0 rfl ?_
      refine fg_X6_12 rfl dX6_truncate_26 ?_
      refine e_iload_n dX6_truncate_29 rfl 1 rfl ?_
      refine fp_X6_66 rfl dX6_truncate_30 ?_
      replace H := H _ rfl
      generalize zup σ 1 1 x1 = σ3 at H ⊢
      refine e_iload_n dX6_truncate_33 rfl 1 rfl ?_
      exact e_iret rfl dX6_truncate_34 H
    · replace H := H.2 h2
      exact e_throw (cls := "java/lang/IllegalArgumentException") (i := 19) (by decide +kernel) (by decide +kernel) cl_X6_81 ci_IllegalArgumentException rfl (tha_X6_85) (thg_X6_81_85) (by decide) (by decide) (Nat.le_of_ble_eq_true rfl) dX6_truncate_15 dX6_truncate_18 dX6_truncate_19 dX6_truncate_21 dX6_truncate_24 H
set_option maxRecDepth 20000 in
set_option maxHeartbeats 2000000 in
theorem b_X6_readText {g : zG} {l : Launch} {K : Int32 → zS → Prop} {X : String → zS → Prop} {σ : zS}
    (H : CT g l M_X4_read 0 [.ref (zad g 3)] σ (zQi (fun v1 τ1 => (∀ σ2 : zS, σ2 = zup τ1 1 1 0 → ((¬ v1 = 0 → CT g l M_X0_copyFrom 0 [.ref (zad g 73), .ref (zad g 93)] σ2 (zQv (fun τ4 => CT g l M_X1_forget 0 [.ref (zad g 16)] τ4 (zQv (fun τ5 => K (τ5.1 73 2) τ5) (fun E τ => X E τ))) (fun E τ => X E τ))) ∧ (v1 = 0 → X "java/lang/IllegalArgumentException" σ2)))) (fun E τ => X E τ))) :
    CT g l M_X6_readText 1 [.ref (zad g 0)] σ (zQi K X) := by
  refine CT_of rfl (by decide) (Nat.le_of_ble_eq_true rfl) ?_
  change EV _ _ _ _ _ 0 [(0, .ref (zad g 0))] [] _
  refine e_aload_n dX6_readText_0 rfl 0 rfl ?_
  refine fg_X6_21 rfl dX6_readText_1 ?_
  refine e_callVi (j1 := 0) (j2 := 1) (av := []) rfl rfl (Nat.le_of_ble_eq_true rfl) rfl rfl H i_X4_read rfl n_X4_read v_X4_read q_X6_86 (by decide) (by decide) (Nat.le_of_ble_eq_true rfl) dX6_readText_4 (fun v1 τ1 H => ?_) (fun E τ H => H)
  refine e_istore_n (ls' := [(1, .int v1), (0, .ref (zad g 0))]) dX6_readText_7 rfl (by decide) rfl ?_
  refine e_aload_n dX6_readText_8 rfl 1 rfl ?_
  refine fg_X6_12 rfl dX6_readText_9 ?_
  refine e_iconst (v := 0) dX6_readText_12 (by decide) ?_
  refine fp_X6_66 rfl dX6_readText_13 ?_
  replace H := H _ rfl
  generalize zup τ1 1 1 0 = σ2 at H ⊢
  refine e_iload_n dX6_readText_16 rfl 0 rfl ?_
  refine e_if_ne (tgt := 30) dX6_readText_17 (by decide) (fun h3 => ?_) (fun h3 => ?_)
  · replace H := H.1 h3
    refine e_aload_n dX6_readText_30 rfl 1 rfl ?_
    refine fg_X6_35 rfl dX6_readText_31 ?_
    refine e_aload_n dX6_readText_34 rfl 1 rfl ?_
    refine fg_X6_21 rfl dX6_readText_35 ?_
    refine fg_X6_92 rfl dX6_readText_38 ?_
    refine e_callVv (j1 := 0) (j2 := 0) (av := [.ref (zad g 93)]) rfl (zB_s0 zB_73) (zB_l0 zB_73) rfl rfl H i_X0_copyFrom rfl n_X0_copyFrom v_X0_copyFrom q_X6_95 (by decide) (by decide) (Nat.le_of_ble_eq_true rfl) dX6_readText_41 (fun τ4 H => ?_) (fun E τ H => H)
    refine e_aload_n dX6_readText_44 rfl 1 rfl ?_
    refine fg_X6_45 rfl dX6_readText_45 ?_
    refine e_callVv (j1 := 0) (j2 := 0) (av := []) rfl rfl (Nat.le_of_ble_eq_true rfl) rfl rfl H i_X1_forget rfl n_X1_forget v_X1_forget q_X6_98 (by decide) (by decide) (Nat.le_of_ble_eq_true rfl) dX6_readText_48 (fun τ5 H => ?_) (fun E τ H => H)
    refine e_aload_n dX6_readText_51 rfl 1 rfl ?_
    refine fg_X6_35 rfl dX6_readText_52 ?_
    refine fg_X6_101 (zB_s0 zB_73) (zB_l0 zB_73) rfl dX6_readText_55 ?_
    exact e_iret rfl dX6_readText_58 H
  · replace H := H.2 h3
    exact e_throw (cls := "java/lang/IllegalArgumentException") (i := 20) (by decide +kernel) (by decide +kernel) cl_X6_81 ci_IllegalArgumentException rfl (tha_X6_85) (thg_X6_81_85) (by decide) (by decide) (Nat.le_of_ble_eq_true rfl) dX6_readText_20 dX6_readText_23 dX6_readText_24 dX6_readText_26 dX6_readText_29 H
set_option maxRecDepth 20000 in
set_option maxHeartbeats 2000000 in
theorem b_X6_setting {g : zG} {l : Launch} {K : Int32 → zS → Prop} {X : String → zS → Prop} {x1 : Int32} {σ : zS}
    (H : (((x1.toInt < 0 ∨ (9 : Int) < x1.toInt) → X "java/lang/IllegalArgumentException" σ) ∧ (x1 = nI 0 → K (σ.1 73 2) σ) ∧ (x1 = nI 1 → K (σ.1 73 0) σ) ∧ (x1 = nI 2 → K (σ.1 73 3) σ) ∧ (x1 = nI 3 → K (σ.1 73 4) σ) ∧ (x1 = nI 4 → K (σ.1 73 5) σ) ∧ (x1 = nI 5 → K (σ.1 73 1) σ) ∧ (x1 = nI 6 → CT g l M_J6_bitCount_0f7a4 0 [.int (σ.1 73 6)] σ (zQi (fun v2 τ2 => K v2 τ2) (fun E τ => X E τ))) ∧ (x1 = nI 7 → CT g l M_X0_coveringSeams 0 [.ref (zad g 73)] σ (zQi (fun v3 τ3 => K v3 τ3) (fun E τ => X E τ))) ∧ (x1 = nI 8 → CT g l M_X0_openingSeams 0 [.ref (zad g 73)] σ (zQi (fun v4 τ4 => K v4 τ4) (fun E τ => X E τ))) ∧ (x1 = nI 9 → K (σ.1 16 1) σ))) :
    CT g l M_X6_setting 1 [.ref (zad g 0), .int x1] σ (zQi K X) := by
  refine CT_of rfl (by decide) (Nat.le_of_ble_eq_true rfl) ?_
  change EV _ _ _ _ _ 0 [(0, .ref (zad g 0)), (1, .int x1)] [] _
  refine e_iload_n dX6_setting_0 rfl 1 rfl ?_
  rcases zsw 10 x1 (by decide) with h1 | ⟨h1k, h1l, h1⟩
  · replace H := H.1 h1
    refine e_tableOut (tgt := 139) dX6_setting_1 h1 (by decide) ?_
    exact e_throw (cls := "java/lang/IllegalArgumentException") (i := 21) (by decide +kernel) (by decide +kernel) cl_X6_81 ci_IllegalArgumentException rfl (tha_X6_85) (thg_X6_81_85) (by decide) (by decide) (Nat.le_of_ble_eq_true rfl) dX6_setting_139 dX6_setting_142 dX6_setting_143 dX6_setting_145 dX6_setting_148 H
  · match h1k, h1l, h1 with
    | 0, _, h1 =>
      replace H := H.2.1 h1
      refine e_tableIn (tgt := 56) dX6_setting_1 (by rw [h1]; decide) (by rw [h1]; decide) (by rw [h1]; rfl) (by decide) ?_
      refine e_aload_n dX6_setting_56 rfl 0 rfl ?_
      refine fg_X6_35 rfl dX6_setting_57 ?_
      refine fg_X6_101 (zB_s0 zB_73) (zB_l0 zB_73) rfl dX6_setting_60 ?_
      exact e_iret rfl dX6_setting_63 H
    | 1, _, h1 =>
      replace H := H.2.2.1 h1
      refine e_tableIn (tgt := 64) dX6_setting_1 (by rw [h1]; decide) (by rw [h1]; decide) (by rw [h1]; rfl) (by decide) ?_
      refine e_aload_n dX6_setting_64 rfl 0 rfl ?_
      refine fg_X6_35 rfl dX6_setting_65 ?_
      refine fg_X6_126 (zB_s0 zB_73) (zB_l0 zB_73) rfl dX6_setting_68 ?_
      exact e_iret rfl dX6_setting_71 H
    | 2, _, h1 =>
      replace H := H.2.2.2.1 h1
      refine e_tableIn (tgt := 72) dX6_setting_1 (by rw [h1]; decide) (by rw [h1]; decide) (by rw [h1]; rfl) (by decide) ?_
      refine e_aload_n dX6_setting_72 rfl 0 rfl ?_
      refine fg_X6_35 rfl dX6_setting_73 ?_
      refine fg_X6_129 (zB_s0 zB_73) (zB_l0 zB_73) rfl dX6_setting_76 ?_
      exact e_iret rfl dX6_setting_79 H
    | 3, _, h1 =>
      replace H := H.2.2.2.2.1 h1
      refine e_tableIn (tgt := 80) dX6_setting_1 (by rw [h1]; decide) (by rw [h1]; decide) (by rw [h1]; rfl) (by decide) ?_
      refine e_aload_n dX6_setting_80 rfl 0 rfl ?_
      refine fg_X6_35 rfl dX6_setting_81 ?_
      refine fg_X6_132 (zB_s0 zB_73) (zB_l0 zB_73) rfl dX6_setting_84 ?_
      exact e_iret rfl dX6_setting_87 H
    | 4, _, h1 =>
      replace H := H.2.2.2.2.2.1 h1
      refine e_tableIn (tgt := 88) dX6_setting_1 (by rw [h1]; decide) (by rw [h1]; decide) (by rw [h1]; rfl) (by decide) ?_
      refine e_aload_n dX6_setting_88 rfl 0 rfl ?_
      refine fg_X6_35 rfl dX6_setting_89 ?_
      refine fg_X6_135 (zB_s0 zB_73) (zB_l0 zB_73) rfl dX6_setting_92 ?_
      exact e_iret rfl dX6_setting_95 H
    | 5, _, h1 =>
      replace H := H.2.2.2.2.2.2.1 h1
      refine e_tableIn (tgt := 96) dX6_setting_1 (by rw [h1]; decide) (by rw [h1]; decide) (by rw [h1]; rfl) (by decide) ?_
      refine e_aload_n dX6_setting_96 rfl 0 rfl ?_
      refine fg_X6_35 rfl dX6_setting_97 ?_
      refine fg_X6_138 (zB_s0 zB_73) (zB_l0 zB_73) rfl dX6_setting_100 ?_
      exact e_iret rfl dX6_setting_103 H
    | 6, _, h1 =>
      replace H := H.2.2.2.2.2.2.2.1 h1
      refine e_tableIn (tgt := 104) dX6_setting_1 (by rw [h1]; decide) (by rw [h1]; decide) (by rw [h1]; rfl) (by decide) ?_
      refine e_aload_n dX6_setting_104 rfl 0 rfl ?_
      refine fg_X6_35 rfl dX6_setting_105 ?_
      refine fg_X6_141 (zB_s0 zB_73) (zB_l0 zB_73) rfl dX6_setting_108 ?_
      refine e_callSi (j1 := 0) (j2 := 0) (av := [.int (σ.1 73 6)]) rfl H i_J6_bitCount_0f7a4 rfl s_J6_bitCount_0f7a4 q_X6_144 (by decide) (by decide) (Nat.le_of_ble_eq_true rfl) dX6_setting_111 (fun v2 τ2 H => ?_) (fun E τ H => H)
      exact e_iret rfl dX6_setting_114 H
    | 7, _, h1 =>
      replace H := H.2.2.2.2.2.2.2.2.1 h1
      refine e_tableIn (tgt := 115) dX6_setting_1 (by rw [h1]; decide) (by rw [h1]; decide) (by rw [h1]; rfl) (by decide) ?_
      refine e_aload_n dX6_setting_115 rfl 0 rfl ?_
      refine fg_X6_35 rfl dX6_setting_116 ?_
      refine e_callVi (j1 := 0) (j2 := 0) (av := []) rfl (zB_s0 zB_73) (zB_l0 zB_73) rfl rfl H i_X0_coveringSeams rfl n_X0_coveringSeams v_X0_coveringSeams q_X6_150 (by decide) (by decide) (Nat.le_of_ble_eq_true rfl) dX6_setting_119 (fun v3 τ3 H => ?_) (fun E τ H => H)
      exact e_iret rfl dX6_setting_122 H
    | 8, _, h1 =>
      replace H := H.2.2.2.2.2.2.2.2.2.1 h1
      refine e_tableIn (tgt := 123) dX6_setting_1 (by rw [h1]; decide) (by rw [h1]; decide) (by rw [h1]; rfl) (by decide) ?_
      refine e_aload_n dX6_setting_123 rfl 0 rfl ?_
      refine fg_X6_35 rfl dX6_setting_124 ?_
      refine e_callVi (j1 := 0) (j2 := 0) (av := []) rfl (zB_s0 zB_73) (zB_l0 zB_73) rfl rfl H i_X0_openingSeams rfl n_X0_openingSeams v_X0_openingSeams q_X6_154 (by decide) (by decide) (Nat.le_of_ble_eq_true rfl) dX6_setting_127 (fun v4 τ4 H => ?_) (fun E τ H => H)
      exact e_iret rfl dX6_setting_130 H
    | 9, _, h1 =>
      replace H := H.2.2.2.2.2.2.2.2.2.2 h1
      refine e_tableIn (tgt := 131) dX6_setting_1 (by rw [h1]; decide) (by rw [h1]; decide) (by rw [h1]; rfl) (by decide) ?_
      refine e_aload_n dX6_setting_131 rfl 0 rfl ?_
      refine fg_X6_45 rfl dX6_setting_132 ?_
      refine fg_X6_157 rfl dX6_setting_135 ?_
      exact e_iret rfl dX6_setting_138 H
    | n + 10, h, _ => exact absurd h (by omega)
set_option maxRecDepth 20000 in
set_option maxHeartbeats 2000000 in
theorem b_X6_slat {g : zG} {l : Launch} {K : Int32 → zS → Prop} {X : String → zS → Prop} {x1 : Int32} {x2 : Int32} {σ : zS}
    (H : CT g l M_X0_hasSlat 0 [.ref (zad g 73), .int x1] σ (zQi (fun v1 τ1 => ((v1 = 0 → CT g l M_X6_refuse 1 [.int 1] τ1 (zQv (fun τ3 => (((x2.toInt < 0 ∨ (7 : Int) < x2.toInt) → X "java/lang/IllegalArgumentException" τ3) ∧ (x2 = nI 0 → (vp_in x1 10 ∧ K (τ3.1 (73 + 1) (Int32.toNatClampNeg x1)) τ3)) ∧ (x2 = nI 1 → (vp_in x1 10 ∧ K (τ3.1 (73 + 2) (Int32.toNatClampNeg x1)) τ3)) ∧ (x2 = nI 2 → (vp_in x1 10 ∧ K (τ3.1 (73 + 3) (Int32.toNatClampNeg x1)) τ3)) ∧ (x2 = nI 3 → CT g l M_X0_isTied 0 [.ref (zad g 73), .int x1] τ3 (zQi (fun v5 τ5 => ((v5 = 0 → K 0 τ5) ∧ (¬ v5 = 0 → K 1 τ5))) (fun E τ => X E τ))) ∧ (x2 = nI 4 → (vp_in x1 10 ∧ K (τ3.1 (73 + 4) (Int32.toNatClampNeg x1)) τ3)) ∧ (x2 = nI 5 → (vp_in x1 10 ∧ K (τ3.1 (73 + 5) (Int32.toNatClampNeg x1)) τ3)) ∧ (x2 = nI 6 → CT g l M_X0_unlikePicture 0 [.ref (zad g 73), .int x1, .int 0] τ3 (zQi (fun v7 τ7 => K v7 τ7) (fun E τ => X E τ))) ∧ (x2 = nI 7 → CT g l M_X0_unlikePicture 0 [.ref (zad g 73), .int x1, .int 1] τ3 (zQi (fun v8 τ8 => K v8 τ8) (fun E τ => X E τ))))) (fun E τ => X E τ))) ∧ (¬ v1 = 0 → CT g l M_X6_refuse 1 [.int 0] τ1 (zQv (fun τ9 => (((x2.toInt < 0 ∨ (7 : Int) < x2.toInt) → X "java/lang/IllegalArgumentException" τ9) ∧ (x2 = nI 0 → (vp_in x1 10 ∧ K (τ9.1 (73 + 1) (Int32.toNatClampNeg x1)) τ9)) ∧ (x2 = nI 1 → (vp_in x1 10 ∧ K (τ9.1 (73 + 2) (Int32.toNatClampNeg x1)) τ9)) ∧ (x2 = nI 2 → (vp_in x1 10 ∧ K (τ9.1 (73 + 3) (Int32.toNatClampNeg x1)) τ9)) ∧ (x2 = nI 3 → CT g l M_X0_isTied 0 [.ref (zad g 73), .int x1] τ9 (zQi (fun v11 τ11 => ((v11 = 0 → K 0 τ11) ∧ (¬ v11 = 0 → K 1 τ11))) (fun E τ => X E τ))) ∧ (x2 = nI 4 → (vp_in x1 10 ∧ K (τ9.1 (73 + 4) (Int32.toNatClampNeg x1)) τ9)) ∧ (x2 = nI 5 → (vp_in x1 10 ∧ K (τ9.1 (73 + 5) (Int32.toNatClampNeg x1)) τ9)) ∧ (x2 = nI 6 → CT g l M_X0_unlikePicture 0 [.ref (zad g 73), .int x1, .int 0] τ9 (zQi (fun v13 τ13 => K v13 τ13) (fun E τ => X E τ))) ∧ (x2 = nI 7 → CT g l M_X0_unlikePicture 0 [.ref (zad g 73), .int x1, .int 1] τ9 (zQi (fun v14 τ14 => K v14 τ14) (fun E τ => X E τ))))) (fun E τ => X E τ))))) (fun E τ => X E τ))) :
    CT g l M_X6_slat 2 [.ref (zad g 0), .int x1, .int x2] σ (zQi K X) := by
  refine CT_of rfl (by decide) (Nat.le_of_ble_eq_true rfl) ?_
  change EV _ _ _ _ _ 0 [(0, .ref (zad g 0)), (1, .int x1), (2, .int x2)] [] _
  refine e_aload_n dX6_slat_0 rfl 0 rfl ?_
  refine fg_X6_35 rfl dX6_slat_1 ?_
  refine e_iload_n dX6_slat_4 rfl 1 rfl ?_
  refine e_callVi (j1 := 0) (j2 := 2) (av := [.int x1]) rfl (zB_s0 zB_73) (zB_l0 zB_73) rfl rfl H i_X0_hasSlat rfl n_X0_hasSlat v_X0_hasSlat q_X6_162 (by decide) (by decide) (Nat.le_of_ble_eq_true rfl) dX6_slat_5 (fun v1 τ1 H => ?_) (fun E τ H => H)
  refine e_if_eq (tgt := 15) dX6_slat_8 (by decide) (fun h2 => ?_) (fun h2 => ?_)
  · replace H := H.1 h2
    refine e_iconst (v := 1) dX6_slat_15 (by decide) ?_
    refine e_callSv (j1 := 1) (j2 := 1) (av := [.int 1]) rfl H i_X6_refuse rfl s_X6_refuse q_X6_166 (by decide) (by decide) (Nat.le_of_ble_eq_true rfl) dX6_slat_16 (fun τ3 H => ?_) (fun E τ H => H)
    refine e_iload_n dX6_slat_19 rfl 2 rfl ?_
    rcases zsw 8 x2 (by decide) with h4 | ⟨h4k, h4l, h4⟩
    · replace H := H.1 h4
      refine e_tableOut (tgt := 155) dX6_slat_20 h4 (by decide) ?_
      exact e_throw (cls := "java/lang/IllegalArgumentException") (i := 25) (by decide +kernel) (by decide +kernel) cl_X6_81 ci_IllegalArgumentException rfl (tha_X6_85) (thg_X6_81_85) (by decide) (by decide) (Nat.le_of_ble_eq_true rfl) dX6_slat_155 dX6_slat_158 dX6_slat_159 dX6_slat_161 dX6_slat_164 H
    · match h4k, h4l, h4 with
      | 0, _, h4 =>
        replace H := H.2.1 h4
        refine e_tableIn (tgt := 68) dX6_slat_20 (by rw [h4]; decide) (by rw [h4]; decide) (by rw [h4]; rfl) (by decide) ?_
        refine e_aload_n dX6_slat_68 rfl 0 rfl ?_
        refine fg_X6_35 rfl dX6_slat_69 ?_
        refine fg_X6_169 (zB_s0 zB_73) (zB_l0 zB_73) rfl dX6_slat_72 ?_
        refine e_iload_n dX6_slat_75 rfl 1 rfl ?_
        refine e_iald (n := 10) (zB_s1 zB_73) (zB_l1 zB_73) H.1 dX6_slat_76 ?_
        replace H := H.2
        exact e_iret rfl dX6_slat_77 H
      | 1, _, h4 =>
        replace H := H.2.2.1 h4
        refine e_tableIn (tgt := 78) dX6_slat_20 (by rw [h4]; decide) (by rw [h4]; decide) (by rw [h4]; rfl) (by decide) ?_
        refine e_aload_n dX6_slat_78 rfl 0 rfl ?_
        refine fg_X6_35 rfl dX6_slat_79 ?_
        refine fg_X6_172 (zB_s0 zB_73) (zB_l0 zB_73) rfl dX6_slat_82 ?_
        refine e_iload_n dX6_slat_85 rfl 1 rfl ?_
        refine e_iald (n := 10) (zB_s2 zB_73) (zB_l2 zB_73) H.1 dX6_slat_86 ?_
        replace H := H.2
        exact e_iret rfl dX6_slat_87 H
      | 2, _, h4 =>
        replace H := H.2.2.2.1 h4
        refine e_tableIn (tgt := 88) dX6_slat_20 (by rw [h4]; decide) (by rw [h4]; decide) (by rw [h4]; rfl) (by decide) ?_
        refine e_aload_n dX6_slat_88 rfl 0 rfl ?_
        refine fg_X6_35 rfl dX6_slat_89 ?_
        refine fg_X6_175 (zB_s0 zB_73) (zB_l0 zB_73) rfl dX6_slat_92 ?_
        refine e_iload_n dX6_slat_95 rfl 1 rfl ?_
        refine e_iald (n := 10) (zB_s3 zB_73) (zB_l3 zB_73) H.1 dX6_slat_96 ?_
        replace H := H.2
        exact e_iret rfl dX6_slat_97 H
      | 3, _, h4 =>
        replace H := H.2.2.2.2.1 h4
        refine e_tableIn (tgt := 98) dX6_slat_20 (by rw [h4]; decide) (by rw [h4]; decide) (by rw [h4]; rfl) (by decide) ?_
        refine e_aload_n dX6_slat_98 rfl 0 rfl ?_
        refine fg_X6_35 rfl dX6_slat_99 ?_
        refine e_iload_n dX6_slat_102 rfl 1 rfl ?_
        refine e_callVi (j1 := 0) (j2 := 0) (av := [.int x1]) rfl (zB_s0 zB_73) (zB_l0 zB_73) rfl rfl H i_X0_isTied rfl n_X0_isTied v_X0_isTied q_X6_178 (by decide) (by decide) (Nat.le_of_ble_eq_true rfl) dX6_slat_103 (fun v5 τ5 H => ?_) (fun E τ H => H)
        refine e_if_eq (tgt := 113) dX6_slat_106 (by decide) (fun h6 => ?_) (fun h6 => ?_)
        · replace H := H.1 h6
          refine e_iconst (v := 0) dX6_slat_113 (by decide) ?_
          exact e_iret rfl dX6_slat_114 H
        · replace H := H.2 h6
          refine e_iconst (v := 1) dX6_slat_109 (by decide) ?_
          refine e_goto (tgt := 114) dX6_slat_110 (by decide) ?_
          exact e_iret rfl dX6_slat_114 H
      | 4, _, h4 =>
        replace H := H.2.2.2.2.2.1 h4
        refine e_tableIn (tgt := 115) dX6_slat_20 (by rw [h4]; decide) (by rw [h4]; decide) (by rw [h4]; rfl) (by decide) ?_
        refine e_aload_n dX6_slat_115 rfl 0 rfl ?_
        refine fg_X6_35 rfl dX6_slat_116 ?_
        refine fg_X6_181 (zB_s0 zB_73) (zB_l0 zB_73) rfl dX6_slat_119 ?_
        refine e_iload_n dX6_slat_122 rfl 1 rfl ?_
        refine e_iald (n := 10) (zB_s4 zB_73) (zB_l4 zB_73) H.1 dX6_slat_123 ?_
        replace H := H.2
        exact e_iret rfl dX6_slat_124 H
      | 5, _, h4 =>
        replace H := H.2.2.2.2.2.2.1 h4
        refine e_tableIn (tgt := 125) dX6_slat_20 (by rw [h4]; decide) (by rw [h4]; decide) (by rw [h4]; rfl) (by decide) ?_
        refine e_aload_n dX6_slat_125 rfl 0 rfl ?_
        refine fg_X6_35 rfl dX6_slat_126 ?_
        refine fg_X6_184 (zB_s0 zB_73) (zB_l0 zB_73) rfl dX6_slat_129 ?_
        refine e_iload_n dX6_slat_132 rfl 1 rfl ?_
        refine e_iald (n := 10) (zB_s5 zB_73) (zB_l5 zB_73) H.1 dX6_slat_133 ?_
        replace H := H.2
        exact e_iret rfl dX6_slat_134 H
      | 6, _, h4 =>
        replace H := H.2.2.2.2.2.2.2.1 h4
        refine e_tableIn (tgt := 135) dX6_slat_20 (by rw [h4]; decide) (by rw [h4]; decide) (by rw [h4]; rfl) (by decide) ?_
        refine e_aload_n dX6_slat_135 rfl 0 rfl ?_
        refine fg_X6_35 rfl dX6_slat_136 ?_
        refine e_iload_n dX6_slat_139 rfl 1 rfl ?_
        refine e_iconst (v := 0) dX6_slat_140 (by decide) ?_
        refine e_callVi (j1 := 0) (j2 := 0) (av := [.int x1, .int 0]) rfl (zB_s0 zB_73) (zB_l0 zB_73) rfl rfl H i_X0_unlikePicture rfl n_X0_unlikePicture v_X0_unlikePicture q_X6_187 (by decide) (by decide) (Nat.le_of_ble_eq_true rfl) dX6_slat_141 (fun v7 τ7 H => ?_) (fun E τ H => H)
        exact e_iret rfl dX6_slat_144 H
      | 7, _, h4 =>
        replace H := H.2.2.2.2.2.2.2.2 h4
        refine e_tableIn (tgt := 145) dX6_slat_20 (by rw [h4]; decide) (by rw [h4]; decide) (by rw [h4]; rfl) (by decide) ?_
        refine e_aload_n dX6_slat_145 rfl 0 rfl ?_
        refine fg_X6_35 rfl dX6_slat_146 ?_
        refine e_iload_n dX6_slat_149 rfl 1 rfl ?_
        refine e_iconst (v := 1) dX6_slat_150 (by decide) ?_
        refine e_callVi (j1 := 0) (j2 := 0) (av := [.int x1, .int 1]) rfl (zB_s0 zB_73) (zB_l0 zB_73) rfl rfl H i_X0_unlikePicture rfl n_X0_unlikePicture v_X0_unlikePicture q_X6_187 (by decide) (by decide) (Nat.le_of_ble_eq_true rfl) dX6_slat_151 (fun v8 τ8 H => ?_) (fun E τ H => H)
        exact e_iret rfl dX6_slat_154 H
      | n + 8, h, _ => exact absurd h (by omega)
  · replace H := H.2 h2
    refine e_iconst (v := 0) dX6_slat_11 (by decide) ?_
    refine e_goto (tgt := 16) dX6_slat_12 (by decide) ?_
    refine e_callSv (j1 := 1) (j2 := 1) (av := [.int 0]) rfl H i_X6_refuse rfl s_X6_refuse q_X6_166 (by decide) (by decide) (Nat.le_of_ble_eq_true rfl) dX6_slat_16 (fun τ9 H => ?_) (fun E τ H => H)
    refine e_iload_n dX6_slat_19 rfl 2 rfl ?_
    rcases zsw 8 x2 (by decide) with h10 | ⟨h10k, h10l, h10⟩
    · replace H := H.1 h10
      refine e_tableOut (tgt := 155) dX6_slat_20 h10 (by decide) ?_
      exact e_throw (cls := "java/lang/IllegalArgumentException") (i := 25) (by decide +kernel) (by decide +kernel) cl_X6_81 ci_IllegalArgumentException rfl (tha_X6_85) (thg_X6_81_85) (by decide) (by decide) (Nat.le_of_ble_eq_true rfl) dX6_slat_155 dX6_slat_158 dX6_slat_159 dX6_slat_161 dX6_slat_164 H
    · match h10k, h10l, h10 with
      | 0, _, h10 =>
        replace H := H.2.1 h10
        refine e_tableIn (tgt := 68) dX6_slat_20 (by rw [h10]; decide) (by rw [h10]; decide) (by rw [h10]; rfl) (by decide) ?_
        refine e_aload_n dX6_slat_68 rfl 0 rfl ?_
        refine fg_X6_35 rfl dX6_slat_69 ?_
        refine fg_X6_169 (zB_s0 zB_73) (zB_l0 zB_73) rfl dX6_slat_72 ?_
        refine e_iload_n dX6_slat_75 rfl 1 rfl ?_
        refine e_iald (n := 10) (zB_s1 zB_73) (zB_l1 zB_73) H.1 dX6_slat_76 ?_
        replace H := H.2
        exact e_iret rfl dX6_slat_77 H
      | 1, _, h10 =>
        replace H := H.2.2.1 h10
        refine e_tableIn (tgt := 78) dX6_slat_20 (by rw [h10]; decide) (by rw [h10]; decide) (by rw [h10]; rfl) (by decide) ?_
        refine e_aload_n dX6_slat_78 rfl 0 rfl ?_
        refine fg_X6_35 rfl dX6_slat_79 ?_
        refine fg_X6_172 (zB_s0 zB_73) (zB_l0 zB_73) rfl dX6_slat_82 ?_
        refine e_iload_n dX6_slat_85 rfl 1 rfl ?_
        refine e_iald (n := 10) (zB_s2 zB_73) (zB_l2 zB_73) H.1 dX6_slat_86 ?_
        replace H := H.2
        exact e_iret rfl dX6_slat_87 H
      | 2, _, h10 =>
        replace H := H.2.2.2.1 h10
        refine e_tableIn (tgt := 88) dX6_slat_20 (by rw [h10]; decide) (by rw [h10]; decide) (by rw [h10]; rfl) (by decide) ?_
        refine e_aload_n dX6_slat_88 rfl 0 rfl ?_
        refine fg_X6_35 rfl dX6_slat_89 ?_
        refine fg_X6_175 (zB_s0 zB_73) (zB_l0 zB_73) rfl dX6_slat_92 ?_
        refine e_iload_n dX6_slat_95 rfl 1 rfl ?_
        refine e_iald (n := 10) (zB_s3 zB_73) (zB_l3 zB_73) H.1 dX6_slat_96 ?_
        replace H := H.2
        exact e_iret rfl dX6_slat_97 H
      | 3, _, h10 =>
        replace H := H.2.2.2.2.1 h10
        refine e_tableIn (tgt := 98) dX6_slat_20 (by rw [h10]; decide) (by rw [h10]; decide) (by rw [h10]; rfl) (by decide) ?_
        refine e_aload_n dX6_slat_98 rfl 0 rfl ?_
        refine fg_X6_35 rfl dX6_slat_99 ?_
        refine e_iload_n dX6_slat_102 rfl 1 rfl ?_
        refine e_callVi (j1 := 0) (j2 := 0) (av := [.int x1]) rfl (zB_s0 zB_73) (zB_l0 zB_73) rfl rfl H i_X0_isTied rfl n_X0_isTied v_X0_isTied q_X6_178 (by decide) (by decide) (Nat.le_of_ble_eq_true rfl) dX6_slat_103 (fun v11 τ11 H => ?_) (fun E τ H => H)
        refine e_if_eq (tgt := 113) dX6_slat_106 (by decide) (fun h12 => ?_) (fun h12 => ?_)
        · replace H := H.1 h12
          refine e_iconst (v := 0) dX6_slat_113 (by decide) ?_
          exact e_iret rfl dX6_slat_114 H
        · replace H := H.2 h12
          refine e_iconst (v := 1) dX6_slat_109 (by decide) ?_
          refine e_goto (tgt := 114) dX6_slat_110 (by decide) ?_
          exact e_iret rfl dX6_slat_114 H
      | 4, _, h10 =>
        replace H := H.2.2.2.2.2.1 h10
        refine e_tableIn (tgt := 115) dX6_slat_20 (by rw [h10]; decide) (by rw [h10]; decide) (by rw [h10]; rfl) (by decide) ?_
        refine e_aload_n dX6_slat_115 rfl 0 rfl ?_
        refine fg_X6_35 rfl dX6_slat_116 ?_
        refine fg_X6_181 (zB_s0 zB_73) (zB_l0 zB_73) rfl dX6_slat_119 ?_
        refine e_iload_n dX6_slat_122 rfl 1 rfl ?_
        refine e_iald (n := 10) (zB_s4 zB_73) (zB_l4 zB_73) H.1 dX6_slat_123 ?_
        replace H := H.2
        exact e_iret rfl dX6_slat_124 H
      | 5, _, h10 =>
        replace H := H.2.2.2.2.2.2.1 h10
        refine e_tableIn (tgt := 125) dX6_slat_20 (by rw [h10]; decide) (by rw [h10]; decide) (by rw [h10]; rfl) (by decide) ?_
        refine e_aload_n dX6_slat_125 rfl 0 rfl ?_
        refine fg_X6_35 rfl dX6_slat_126 ?_
        refine fg_X6_184 (zB_s0 zB_73) (zB_l0 zB_73) rfl dX6_slat_129 ?_
        refine e_iload_n dX6_slat_132 rfl 1 rfl ?_
        refine e_iald (n := 10) (zB_s5 zB_73) (zB_l5 zB_73) H.1 dX6_slat_133 ?_
        replace H := H.2
        exact e_iret rfl dX6_slat_134 H
      | 6, _, h10 =>
        replace H := H.2.2.2.2.2.2.2.1 h10
        refine e_tableIn (tgt := 135) dX6_slat_20 (by rw [h10]; decide) (by rw [h10]; decide) (by rw [h10]; rfl) (by decide) ?_
        refine e_aload_n dX6_slat_135 rfl 0 rfl ?_
        refine fg_X6_35 rfl dX6_slat_136 ?_
        refine e_iload_n dX6_slat_139 rfl 1 rfl ?_
        refine e_iconst (v := 0) dX6_slat_140 (by decide) ?_
        refine e_callVi (j1 := 0) (j2 := 0) (av := [.int x1, .int 0]) rfl (zB_s0 zB_73) (zB_l0 zB_73) rfl rfl H i_X0_unlikePicture rfl n_X0_unlikePicture v_X0_unlikePicture q_X6_187 (by decide) (by decide) (Nat.le_of_ble_eq_true rfl) dX6_slat_141 (fun v13 τ13 H => ?_) (fun E τ H => H)
        exact e_iret rfl dX6_slat_144 H
      | 7, _, h10 =>
        replace H := H.2.2.2.2.2.2.2.2 h10
        refine e_tableIn (tgt := 145) dX6_slat_20 (by rw [h10]; decide) (by rw [h10]; decide) (by rw [h10]; rfl) (by decide) ?_
        refine e_aload_n dX6_slat_145 rfl 0 rfl ?_
        refine fg_X6_35 rfl dX6_slat_146 ?_
        refine e_iload_n dX6_slat_149 rfl 1 rfl ?_
        refine e_iconst (v := 1) dX6_slat_150 (by decide) ?_
        refine e_callVi (j1 := 0) (j2 := 0) (av := [.int x1, .int 1]) rfl (zB_s0 zB_73) (zB_l0 zB_73) rfl rfl H i_X0_unlikePicture rfl n_X0_unlikePicture v_X0_unlikePicture q_X6_187 (by decide) (by decide) (Nat.le_of_ble_eq_true rfl) dX6_slat_151 (fun v14 τ14 H => ?_) (fun E τ H => H)
        exact e_iret rfl dX6_slat_154 H
      | n + 8, h, _ => exact absurd h (by omega)
set_option maxRecDepth 20000 in
set_option maxHeartbeats 2000000 in
theorem b_X6_slatAt {g : zG} {l : Launch} {K : Int32 → zS → Prop} {X : String → zS → Prop} {x1 : Int32} {σ : zS}
    (H : CT g l M_X0_hasColumn 0 [.ref (zad g 73), .int x1] σ (zQi (fun v1 τ1 => ((v1 = 0 → CT g l M_X6_refuse 1 [.int 1] τ1 (zQv (fun τ3 => CT g l M_X0_slatWith 0 [.ref (zad g 73), .int x1] τ3 (zQi (fun v4 τ4 => K v4 τ4) (fun E τ => X E τ))) (fun E τ => X E τ))) ∧ (¬ v1 = 0 → CT g l M_X6_refuse 1 [.int 0] τ1 (zQv (fun τ5 => CT g l M_X0_slatWith 0 [.ref (zad g 73), .int x1] τ5 (zQi (fun v6 τ6 => K v6 τ6) (fun E τ => X E τ))) (fun E τ => X E τ))))) (fun E τ => X E τ))) :
    CT g l M_X6_slatAt 1 [.ref (zad g 0), .int x1] σ (zQi K X) := by
  refine CT_of rfl (by decide) (Nat.le_of_ble_eq_true rfl) ?_
  change EV _ _ _ _ _ 0 [(0, .ref (zad g 0)), (1, .int x1)] [] _
  refine e_aload_n dX6_slatAt_0 rfl 0 rfl ?_
  refine fg_X6_35 rfl dX6_slatAt_1 ?_
  refine e_iload_n dX6_slatAt_4 rfl 1 rfl ?_
  refine e_callVi (j1 := 0) (j2 := 1) (av := [.int x1]) rfl (zB_s0 zB_73) (zB_l0 zB_73) rfl rfl H i_X0_hasColumn rfl n_X0_hasColumn v_X0_hasColumn q_X6_193 (by decide) (by decide) (Nat.le_of_ble_eq_true rfl) dX6_slatAt_5 (fun v1 τ1 H => ?_) (fun E τ H => H)
  refine e_if_eq (tgt := 15) dX6_slatAt_8 (by decide) (fun h2 => ?_) (fun h2 => ?_)
  · replace H := H.1 h2
    refine e_iconst (v := 1) dX6_slatAt_15 (by decide) ?_
    refine e_callSv (j1 := 1) (j2 := 0) (av := [.int 1]) rfl H i_X6_refuse rfl s_X6_refuse q_X6_166 (by decide) (by decide) (Nat.le_of_ble_eq_true rfl) dX6_slatAt_16 (fun τ3 H => ?_) (fun E τ H => H)
    refine e_aload_n dX6_slatAt_19 rfl 0 rfl ?_
    refine fg_X6_35 rfl dX6_slatAt_20 ?_
    refine e_iload_n dX6_slatAt_23 rfl 1 rfl ?_
    refine e_callVi (j1 := 0) (j2 := 0) (av := [.int x1]) rfl (zB_s0 zB_73) (zB_l0 zB_73) rfl rfl H i_X0_slatWith rfl n_X0_slatWith v_X0_slatWith q_X6_196 (by decide) (by decide) (Nat.le_of_ble_eq_true rfl) dX6_slatAt_24 (fun v4 τ4 H => ?_) (fun E τ H => H)
    exact e_iret rfl dX6_slatAt_27 H
  · replace H := H.2 h2
    refine e_iconst (v := 0) dX6_slatAt_11 (by decide) ?_
    refine e_goto (tgt := 16) dX6_slatAt_12 (by decide) ?_
    refine e_callSv (j1 := 1) (j2 := 0) (av := [.int 0]) rfl H i_X6_refuse rfl s_X6_refuse q_X6_166 (by decide) (by decide) (Nat.le_of_ble_eq_true rfl) dX6_slatAt_16 (fun τ5 H => ?_) (fun E τ H => H)
    refine e_aload_n dX6_slatAt_19 rfl 0 rfl ?_
    refine fg_X6_35 rfl dX6_slatAt_20 ?_
    refine e_iload_n dX6_slatAt_23 rfl 1 rfl ?_
    refine e_callVi (j1 := 0) (j2 := 0) (av := [.int x1]) rfl (zB_s0 zB_73) (zB_l0 zB_73) rfl rfl H i_X0_slatWith rfl n_X0_slatWith v_X0_slatWith q_X6_196 (by decide) (by decide) (Nat.le_of_ble_eq_true rfl) dX6_slatAt_24 (fun v6 τ6 H => ?_) (fun E τ H => H)
    exact e_iret rfl dX6_slatAt_27 H
set_option maxRecDepth 20000 in
set_option maxHeartbeats 2000000 in
theorem b_X6_picture {g : zG} {l : Launch} {K : Int32 → zS → Prop} {X : String → zS → Prop} {x1 : Int32} {x2 : Int32} {x3 : Int32} {σ : zS}
    (H : CT g l M_X0_hasCell 0 [.ref (zad g 73), .int x2, .int x3] σ (zQi (fun v1 τ1 => ((v1 = 0 → CT g l M_X6_refuse 1 [.int 1] τ1 (zQv (fun τ3 => CT g l M_X0_pictureOf 0 [.ref (zad g 73), .int x1] τ3 (zQr g (fun v4 τ4 => zsh v4 = .inr (0, 60) ∧ v4 < 163 ∧ (vp_in x2 60 ∧ CT g l M_X6_colourIn 0 [.int (τ4.1 v4 (Int32.toNatClampNeg x2)), .int x3] τ4 (zQi (fun v5 τ5 => K v5 τ5) (fun E τ => X E τ)))) (fun E τ => X E τ))) (fun E τ => X E τ))) ∧ (¬ v1 = 0 → CT g l M_X6_refuse 1 [.int 0] τ1 (zQv (fun τ6 => CT g l M_X0_pictureOf 0 [.ref (zad g 73), .int x1] τ6 (zQr g (fun v7 τ7 => zsh v7 = .inr (0, 60) ∧ v7 < 163 ∧ (vp_in x2 60 ∧ CT g l M_X6_colourIn 0 [.int (τ7.1 v7 (Int32.toNatClampNeg x2)), .int x3] τ7 (zQi (fun v8 τ8 => K v8 τ8) (fun E τ => X E τ)))) (fun E τ => X E τ))) (fun E τ => X E τ))))) (fun E τ => X E τ))) :
    CT g l M_X6_picture 1 [.ref (zad g 0), .int x1, .int x2, .int x3] σ (zQi K X) := by
  refine CT_of rfl (by decide) (Nat.le_of_ble_eq_true rfl) ?_
  change EV _ _ _ _ _ 0 [(0, .ref (zad g 0)), (1, .int x1), (2, .int x2), (3, .int x3)] [] _
  refine e_aload_n dX6_picture_0 rfl 0 rfl ?_
  refine fg_X6_35 rfl dX6_picture_1 ?_
  refine e_iload_n dX6_picture_4 rfl 2 rfl ?_
  refine e_iload_n dX6_picture_5 rfl 3 rfl ?_
  refine e_callVi (j1 := 0) (j2 := 1) (av := [.int x2, .int x3]) rfl (zB_s0 zB_73) (zB_l0 zB_73) rfl rfl H i_X0_hasCell rfl n_X0_hasCell v_X0_hasCell q_X6_199 (by decide) (by decide) (Nat.le_of_ble_eq_true rfl) dX6_picture_6 (fun v1 τ1 H => ?_) (fun E τ H => H)
  refine e_if_eq (tgt := 16) dX6_picture_9 (by decide) (fun h2 => ?_) (fun h2 => ?_)
  · replace H := H.1 h2
    refine e_iconst (v := 1) dX6_picture_16 (by decide) ?_
    refine e_callSv (j1 := 1) (j2 := 0) (av := [.int 1]) rfl H i_X6_refuse rfl s_X6_refuse q_X6_166 (by decide) (by decide) (Nat.le_of_ble_eq_true rfl) dX6_picture_17 (fun τ3 H => ?_) (fun E τ H => H)
    refine e_aload_n dX6_picture_20 rfl 0 rfl ?_
    refine fg_X6_35 rfl dX6_picture_21 ?_
    refine e_iload_n dX6_picture_24 rfl 1 rfl ?_
    refine e_callVr (j1 := 0) (j2 := 0) (av := [.int x1]) rfl (zB_s0 zB_73) (zB_l0 zB_73) rfl rfl H i_X0_pictureOf rfl n_X0_pictureOf v_X0_pictureOf q_X6_203 (by decide) (by decide) (Nat.le_of_ble_eq_true rfl) dX6_picture_25 (fun v4 τ4 H => ?_) (fun E τ H => H)
    have hsv4 := H.1
    have hlv4 := H.2.1
    replace H := H.2.2
    refine e_iload_n dX6_picture_28 rfl 2 rfl ?_
    refine e_iald (n := 60) hsv4 hlv4 H.1 dX6_picture_29 ?_
    replace H := H.2
    refine e_iload_n dX6_picture_30 rfl 3 rfl ?_
    refine e_callSi (j1 := 0) (j2 := 0) (av := [.int (τ4.1 v4 (Int32.toNatClampNeg x2)), .int x3]) rfl H i_X6_colourIn rfl s_X6_colourIn q_X6_207 (by decide) (by decide) (Nat.le_of_ble_eq_true rfl) dX6_picture_31 (fun v5 τ5 H => ?_) (fun E τ H => H)
    exact e_iret rfl dX6_picture_34 H
  · replace H := H.2 h2
    refine e_iconst (v := 0) dX6_picture_12 (by decide) ?_
    refine e_goto (tgt := 17) dX6_picture_13 (by decide) ?_
    refine e_callSv (j1 := 1) (j2 := 0) (av := [.int 0]) rfl H i_X6_refuse rfl s_X6_refuse q_X6_166 (by decide) (by decide) (Nat.le_of_ble_eq_true rfl) dX6_picture_17 (fun τ6 H => ?_) (fun E τ H => H)
    refine e_aload_n dX6_picture_20 rfl 0 rfl ?_
    refine fg_X6_35 rfl dX6_picture_21 ?_
    refine e_iload_n dX6_picture_24 rfl 1 rfl ?_
    refine e_callVr (j1 := 0) (j2 := 0) (av := [.int x1]) rfl (zB_s0 zB_73) (zB_l0 zB_73) rfl rfl H i_X0_pictureOf rfl n_X0_pictureOf v_X0_pictureOf q_X6_203 (by decide) (by decide) (Nat.le_of_ble_eq_true rfl) dX6_picture_25 (fun v7 τ7 H => ?_) (fun E τ H => H)
    have hsv7 := H.1
    have hlv7 := H.2.1
    replace H := H.2.2
    refine e_iload_n dX6_picture_28 rfl 2 rfl ?_
    refine e_iald (n := 60) hsv7 hlv7 H.1 dX6_picture_29 ?_
    replace H := H.2
    refine e_iload_n dX6_picture_30 rfl 3 rfl ?_
    refine e_callSi (j1 := 0) (j2 := 0) (av := [.int (τ7.1 v7 (Int32.toNatClampNeg x2)), .int x3]) rfl H i_X6_colourIn rfl s_X6_colourIn q_X6_207 (by decide) (by decide) (Nat.le_of_ble_eq_true rfl) dX6_picture_31 (fun v8 τ8 H => ?_) (fun E τ H => H)
    exact e_iret rfl dX6_picture_34 H
set_option maxRecDepth 20000 in
set_option maxHeartbeats 2000000 in
theorem b_X6_face {g : zG} {l : Launch} {K : Int32 → zS → Prop} {X : String → zS → Prop} {x1 : Int32} {x2 : Int32} {x3 : Int32} {x4 : Int32} {σ : zS}
    (H : CT g l M_X0_hasFaceCell 0 [.ref (zad g 73), .int x1, .int x3, .int x4] σ (zQi (fun v1 τ1 => ((v1 = 0 → CT g l M_X6_refuse 1 [.int 1] τ1 (zQv (fun τ3 => CT g l M_X0_faceOf 0 [.ref (zad g 73), .int x2] τ3 (zQr g (fun v4 τ4 => zsh v4 = .inr (0, 60) ∧ v4 < 163 ∧ (vp_in x1 10 ∧ (vp_in ((τ4.1 (73 + 2) (Int32.toNatClampNeg x1)) + x3) 60 ∧ CT g l M_X6_colourIn 0 [.int (τ4.1 v4 (Int32.toNatClampNeg ((τ4.1 (73 + 2) (Int32.toNatClampNeg x1)) + x3))), .int x4] τ4 (zQi (fun v5 τ5 => K v5 τ5) (fun E τ => X E τ))))) (fun E τ => X E τ))) (fun E τ => X E τ))) ∧ (¬ v1 = 0 → CT g l M_X6_refuse 1 [.int 0] τ1 (zQv (fun τ6 => CT g l M_X0_faceOf 0 [.ref (zad g 73), .int x2] τ6 (zQr g (fun v7 τ7 => zsh v7 = .inr (0, 60) ∧ v7 < 163 ∧ (vp_in x1 10 ∧ (vp_in ((τ7.1 (73 + 2) (Int32.toNatClampNeg x1)) + x3) 60 ∧ CT g l M_X6_colourIn 0 [.int (τ7.1 v7 (Int32.toNatClampNeg ((τ7.1 (73 + 2) (Int32.toNatClampNeg x1)) + x3))), .int x4] τ7 (zQi (fun v8 τ8 => K v8 τ8) (fun E τ => X E τ))))) (fun E τ => X E τ))) (fun E τ => X E τ))))) (fun E τ => X E τ))) :
    CT g l M_X6_face 1 [.ref (zad g 0), .int x1, .int x2, .int x3, .int x4] σ (zQi K X) := by
  refine CT_of rfl (by decide) (Nat.le_of_ble_eq_true rfl) ?_
  change EV _ _ _ _ _ 0 [(0, .ref (zad g 0)), (1, .int x1), (2, .int x2), (3, .int x3), (4, .int x4)] [] _
  refine e_aload_n dX6_face_0 rfl 0 rfl ?_
  refine fg_X6_35 rfl dX6_face_1 ?_
  refine e_iload_n dX6_face_4 rfl 1 rfl ?_
  refine e_iload_n dX6_face_5 rfl 3 rfl ?_
  refine e_iload dX6_face_6 4 rfl ?_
  refine e_callVi (j1 := 0) (j2 := 1) (av := [.int x1, .int x3, .int x4]) rfl (zB_s0 zB_73) (zB_l0 zB_73) rfl rfl H i_X0_hasFaceCell rfl n_X0_hasFaceCell v_X0_hasFaceCell q_X6_211 (by decide) (by decide) (Nat.le_of_ble_eq_true rfl) dX6_face_8 (fun v1 τ1 H => ?_) (fun E τ H => H)
  refine e_if_eq (tgt := 18) dX6_face_11 (by decide) (fun h2 => ?_) (fun h2 => ?_)
  · replace H := H.1 h2
    refine e_iconst (v := 1) dX6_face_18 (by decide) ?_
    refine e_callSv (j1 := 1) (j2 := 0) (av := [.int 1]) rfl H i_X6_refuse rfl s_X6_refuse q_X6_166 (by decide) (by decide) (Nat.le_of_ble_eq_true rfl) dX6_face_19 (fun τ3 H => ?_) (fun E τ H => H)
    refine e_aload_n dX6_face_22 rfl 0 rfl ?_
    refine fg_X6_35 rfl dX6_face_23 ?_
    refine e_iload_n dX6_face_26 rfl 2 rfl ?_
    refine e_callVr (j1 := 0) (j2 := 0) (av := [.int x2]) rfl (zB_s0 zB_73) (zB_l0 zB_73) rfl rfl H i_X0_faceOf rfl n_X0_faceOf v_X0_faceOf q_X6_214 (by decide) (by decide) (Nat.le_of_ble_eq_true rfl) dX6_face_27 (fun v4 τ4 H => ?_) (fun E τ H => H)
    have hsv4 := H.1
    have hlv4 := H.2.1
    replace H := H.2.2
    refine e_aload_n dX6_face_30 rfl 0 rfl ?_
    refine fg_X6_35 rfl dX6_face_31 ?_
    refine fg_X6_172 (zB_s0 zB_73) (zB_l0 zB_73) rfl dX6_face_34 ?_
    refine e_iload_n dX6_face_37 rfl 1 rfl ?_
    refine e_iald (n := 10) (zB_s2 zB_73) (zB_l2 zB_73) H.1 dX6_face_38 ?_
    replace H := H.2
    refine e_iload_n dX6_face_39 rfl 3 rfl ?_
    refine e_iadd dX6_face_40 ?_
    refine e_iald (n := 60) hsv4 hlv4 H.1 dX6_face_41 ?_
    replace H := H.2
    refine e_iload dX6_face_42 4 rfl ?_
    refine e_callSi (j1 := 0) (j2 := 0) (av := [.int (τ4.1 v4 (Int32.toNatClampNeg ((τ4.1 (73 + 2) (Int32.toNatClampNeg x1)) + x3))), .int x4]) rfl H i_X6_colourIn rfl s_X6_colourIn q_X6_207 (by decide) (by decide) (Nat.le_of_ble_eq_true rfl) dX6_face_44 (fun v5 τ5 H => ?_) (fun E τ H => H)
    exact e_iret rfl dX6_face_47 H
  · replace H := H.2 h2
    refine e_iconst (v := 0) dX6_face_14 (by decide) ?_
    refine e_goto (tgt := 19) dX6_face_15 (by decide) ?_
    refine e_callSv (j1 := 1) (j2 := 0) (av := [.int 0]) rfl H i_X6_refuse rfl s_X6_refuse q_X6_166 (by decide) (by decide) (Nat.le_of_ble_eq_true rfl) dX6_face_19 (fun τ6 H => ?_) (fun E τ H => H)
    refine e_aload_n dX6_face_22 rfl 0 rfl ?_
    refine fg_X6_35 rfl dX6_face_23 ?_
    refine e_iload_n dX6_face_26 rfl 2 rfl ?_
    refine e_callVr (j1 := 0) (j2 := 0) (av := [.int x2]) rfl (zB_s0 zB_73) (zB_l0 zB_73) rfl rfl H i_X0_faceOf rfl n_X0_faceOf v_X0_faceOf q_X6_214 (by decide) (by decide) (Nat.le_of_ble_eq_true rfl) dX6_face_27 (fun v7 τ7 H => ?_) (fun E τ H => H)
    have hsv7 := H.1
    have hlv7 := H.2.1
    replace H := H.2.2
    refine e_aload_n dX6_face_30 rfl 0 rfl ?_
    refine fg_X6_35 rfl dX6_face_31 ?_
    refine fg_X6_172 (zB_s0 zB_73) (zB_l0 zB_73) rfl dX6_face_34 ?_
    refine e_iload_n dX6_face_37 rfl 1 rfl ?_
    refine e_iald (n := 10) (zB_s2 zB_73) (zB_l2 zB_73) H.1 dX6_face_38 ?_
    replace H := H.2
    refine e_iload_n dX6_face_39 rfl 3 rfl ?_
    refine e_iadd dX6_face_40 ?_
    refine e_iald (n := 60) hsv7 hlv7 H.1 dX6_face_41 ?_
    replace H := H.2
    refine e_iload dX6_face_42 4 rfl ?_
    refine e_callSi (j1 := 0) (j2 := 0) (av := [.int (τ7.1 v7 (Int32.toNatClampNeg ((τ7.1 (73 + 2) (Int32.toNatClampNeg x1)) + x3))), .int x4]) rfl H i_X6_colourIn rfl s_X6_colourIn q_X6_207 (by decide) (by decide) (Nat.le_of_ble_eq_true rfl) dX6_face_44 (fun v8 τ8 H => ?_) (fun E τ H => H)
    exact e_iret rfl dX6_face_47 H
set_option maxRecDepth 20000 in
set_option maxHeartbeats 2000000 in
theorem b_X6_seen {g : zG} {l : Launch} {K : Int32 → zS → Prop} {X : String → zS → Prop} {x1 : Int32} {x2 : Int32} {x3 : Int32} {σ : zS}
    (H : CT g l M_X0_hasCell 0 [.ref (zad g 73), .int x2, .int x3] σ (zQi (fun v1 τ1 => ((v1 = 0 → CT g l M_X6_refuse 1 [.int 1] τ1 (zQv (fun τ3 => CT g l M_X5_look 0 [.ref (zad g 18), .ref (zad g (73 + 3)), .int x1] τ3 (zQv (fun τ4 => CT g l M_X5_seenAt 0 [.ref (zad g 18), .int x2, .int x3] τ4 (zQi (fun v5 τ5 => K v5 τ5) (fun E τ => X E τ))) (fun E τ => X E τ))) (fun E τ => X E τ))) ∧ (¬ v1 = 0 → CT g l M_X6_angleProblem 0 [.int x1] τ1 (zQi (fun v6 τ6 => CT g l M_X6_refuse 1 [.int v6] τ6 (zQv (fun τ7 => CT g l M_X5_look 0 [.ref (zad g 18), .ref (zad g (73 + 3)), .int x1] τ7 (zQv (fun τ8 => CT g l M_X5_seenAt 0 [.ref (zad g 18), .int x2, .int x3] τ8 (zQi (fun v9 τ9 => K v9 τ9) (fun E τ => X E τ))) (fun E τ => X E τ))) (fun E τ => X E τ))) (fun E τ => X E τ))))) (fun E τ => X E τ))) :
    CT g l M_X6_seen 1 [.ref (zad g 0), .int x1, .int x2, .int x3] σ (zQi K X) := by
  refine CT_of rfl (by decide) (Nat.le_of_ble_eq_true rfl) ?_
  change EV _ _ _ _ _ 0 [(0, .ref (zad g 0)), (1, .int x1), (2, .int x2), (3, .int x3)] [] _
  refine e_aload_n dX6_seen_0 rfl 0 rfl ?_
  refine fg_X6_35 rfl dX6_seen_1 ?_
  refine e_iload_n dX6_seen_4 rfl 2 rfl ?_
  refine e_iload_n dX6_seen_5 rfl 3 rfl ?_
  refine e_callVi (j1 := 0) (j2 := 1) (av := [.int x2, .int x3]) rfl (zB_s0 zB_73) (zB_l0 zB_73) rfl rfl H i_X0_hasCell rfl n_X0_hasCell v_X0_hasCell q_X6_199 (by decide) (by decide) (Nat.le_of_ble_eq_true rfl) dX6_seen_6 (fun v1 τ1 H => ?_) (fun E τ H => H)
  refine e_if_eq (tgt := 19) dX6_seen_9 (by decide) (fun h2 => ?_) (fun h2 => ?_)
  · replace H := H.1 h2
    refine e_iconst (v := 1) dX6_seen_19 (by decide) ?_
    refine e_callSv (j1 := 1) (j2 := 0) (av := [.int 1]) rfl H i_X6_refuse rfl s_X6_refuse q_X6_166 (by decide) (by decide) (Nat.le_of_ble_eq_true rfl) dX6_seen_20 (fun τ3 H => ?_) (fun E τ H => H)
    refine e_aload_n dX6_seen_23 rfl 0 rfl ?_
    refine fg_X6_54 rfl dX6_seen_24 ?_
    refine e_aload_n dX6_seen_27 rfl 0 rfl ?_
    refine fg_X6_35 rfl dX6_seen_28 ?_
    refine fg_X6_175 (zB_s0 zB_73) (zB_l0 zB_73) rfl dX6_seen_31 ?_
    refine e_iload_n dX6_seen_34 rfl 1 rfl ?_
    refine e_callVv (j1 := 0) (j2 := 0) (av := [.ref (zad g (73 + 3)), .int x1]) rfl rfl (Nat.le_of_ble_eq_true rfl) rfl rfl H i_X5_look rfl n_X5_look v_X5_look q_X6_232 (by decide) (by decide) (Nat.le_of_ble_eq_true rfl) dX6_seen_35 (fun τ4 H => ?_) (fun E τ H => H)
    refine e_aload_n dX6_seen_38 rfl 0 rfl ?_
    refine fg_X6_54 rfl dX6_seen_39 ?_
    refine e_iload_n dX6_seen_42 rfl 2 rfl ?_
    refine e_iload_n dX6_seen_43 rfl 3 rfl ?_
    refine e_callVi (j1 := 0) (j2 := 0) (av := [.int x2, .int x3]) rfl rfl (Nat.le_of_ble_eq_true rfl) rfl rfl H i_X5_seenAt rfl n_X5_seenAt v_X5_seenAt q_X6_236 (by decide) (by decide) (Nat.le_of_ble_eq_true rfl) dX6_seen_44 (fun v5 τ5 H => ?_) (fun E τ H => H)
    exact e_iret rfl dX6_seen_47 H
  · replace H := H.2 h2
    refine e_iload_n dX6_seen_12 rfl 1 rfl ?_
    refine e_callSi (j1 := 0) (j2 := 1) (av := [.int x1]) rfl H i_X6_angleProblem rfl s_X6_angleProblem q_X6_229 (by decide) (by decide) (Nat.le_of_ble_eq_true rfl) dX6_seen_13 (fun v6 τ6 H => ?_) (fun E τ H => H)
    refine e_goto (tgt := 20) dX6_seen_16 (by decide) ?_
    refine e_callSv (j1 := 1) (j2 := 0) (av := [.int v6]) rfl H i_X6_refuse rfl s_X6_refuse q_X6_166 (by decide) (by decide) (Nat.le_of_ble_eq_true rfl) dX6_seen_20 (fun τ7 H => ?_) (fun E τ H => H)
    refine e_aload_n dX6_seen_23 rfl 0 rfl ?_
    refine fg_X6_54 rfl dX6_seen_24 ?_
    refine e_aload_n dX6_seen_27 rfl 0 rfl ?_
    refine fg_X6_35 rfl dX6_seen_28 ?_
    refine fg_X6_175 (zB_s0 zB_73) (zB_l0 zB_73) rfl dX6_seen_31 ?_
    refine e_iload_n dX6_seen_34 rfl 1 rfl ?_
    refine e_callVv (j1 := 0) (j2 := 0) (av := [.ref (zad g (73 + 3)), .int x1]) rfl rfl (Nat.le_of_ble_eq_true rfl) rfl rfl H i_X5_look rfl n_X5_look v_X5_look q_X6_232 (by decide) (by decide) (Nat.le_of_ble_eq_true rfl) dX6_seen_35 (fun τ8 H => ?_) (fun E τ H => H)
    refine e_aload_n dX6_seen_38 rfl 0 rfl ?_
    refine fg_X6_54 rfl dX6_seen_39 ?_
    refine e_iload_n dX6_seen_42 rfl 2 rfl ?_
    refine e_iload_n dX6_seen_43 rfl 3 rfl ?_
    refine e_callVi (j1 := 0) (j2 := 0) (av := [.int x2, .int x3]) rfl rfl (Nat.le_of_ble_eq_true rfl) rfl rfl H i_X5_seenAt rfl n_X5_seenAt v_X5_seenAt q_X6_236 (by decide) (by decide) (Nat.le_of_ble_eq_true rfl) dX6_seen_44 (fun v9 τ9 H => ?_) (fun E τ H => H)
    exact e_iret rfl dX6_seen_47 H
set_option maxRecDepth 20000 in
set_option maxHeartbeats 2000000 in
theorem b_X6_why {g : zG} {l : Launch} {K : Int32 → zS → Prop} {X : String → zS → Prop} {x1 : Int32} {x2 : Int32} {x3 : Int32} {x4 : Int32} {σ : zS}
    (H : CT g l M_X0_hasCell 0 [.ref (zad g 73), .int x3, .int x4] σ (zQi (fun v1 τ1 => ((v1 = 0 → CT g l M_X6_refuse 1 [.int 1] τ1 (zQv (fun τ3 => CT g l M_X5_look 0 [.ref (zad g 18), .ref (zad g (73 + 3)), .int x1] τ3 (zQv (fun τ4 => CT g l M_X5_whyNotRight 0 [.ref (zad g 18), .int x2, .int x3, .int x4] τ4 (zQi (fun v5 τ5 => K v5 τ5) (fun E τ => X E τ))) (fun E τ => X E τ))) (fun E τ => X E τ))) ∧ (¬ v1 = 0 → CT g l M_X6_angleProblem 0 [.int x1] τ1 (zQi (fun v6 τ6 => CT g l M_X6_refuse 1 [.int v6] τ6 (zQv (fun τ7 => CT g l M_X5_look 0 [.ref (zad g 18), .ref (zad g (73 + 3)), .int x1] τ7 (zQv (fun τ8 => CT g l M_X5_whyNotRight 0 [.ref (zad g 18), .int x2, .int x3, .int x4] τ8 (zQi (fun v9 τ9 => K v9 τ9) (fun E τ => X E τ))) (fun E τ => X E τ))) (fun E τ => X E τ))) (fun E τ => X E τ))))) (fun E τ => X E τ))) :
    CT g l M_X6_why 1 [.ref (zad g 0), .int x1, .int x2, .int x3, .int x4] σ (zQi K X) := by
  refine CT_of rfl (by decide) (Nat.le_of_ble_eq_true rfl) ?_
  change EV _ _ _ _ _ 0 [(0, .ref (zad g 0)), (1, .int x1), (2, .int x2), (3, .int x3), (4, .int x4)] [] _
  refine e_aload_n dX6_why_0 rfl 0 rfl ?_
  refine fg_X6_35 rfl dX6_why_1 ?_
  refine e_iload_n dX6_why_4 rfl 3 rfl ?_
  refine e_iload dX6_why_5 4 rfl ?_
  refine e_callVi (j1 := 0) (j2 := 1) (av := [.int x3, .int x4]) rfl (zB_s0 zB_73) (zB_l0 zB_73) rfl rfl H i_X0_hasCell rfl n_X0_hasCell v_X0_hasCell q_X6_199 (by decide) (by decide) (Nat.le_of_ble_eq_true rfl) dX6_why_7 (fun v1 τ1 H => ?_) (fun E τ H => H)
  refine e_if_eq (tgt := 20) dX6_why_10 (by decide) (fun h2 => ?_) (fun h2 => ?_)
  · replace H := H.1 h2
    refine e_iconst (v := 1) dX6_why_20 (by decide) ?_
    refine e_callSv (j1 := 1) (j2 := 0) (av := [.int 1]) rfl H i_X6_refuse rfl s_X6_refuse q_X6_166 (by decide) (by decide) (Nat.le_of_ble_eq_true rfl) dX6_why_21 (fun τ3 H => ?_) (fun E τ H => H)
    refine e_aload_n dX6_why_24 rfl 0 rfl ?_
    refine fg_X6_54 rfl dX6_why_25 ?_
    refine e_aload_n dX6_why_28 rfl 0 rfl ?_
    refine fg_X6_35 rfl dX6_why_29 ?_
    refine fg_X6_175 (zB_s0 zB_73) (zB_l0 zB_73) rfl dX6_why_32 ?_
    refine e_iload_n dX6_why_35 rfl 1 rfl ?_
    refine e_callVv (j1 := 0) (j2 := 0) (av := [.ref (zad g (73 + 3)), .int x1]) rfl rfl (Nat.le_of_ble_eq_true rfl) rfl rfl H i_X5_look rfl n_X5_look v_X5_look q_X6_232 (by decide) (by decide) (Nat.le_of_ble_eq_true rfl) dX6_why_36 (fun τ4 H => ?_) (fun E τ H => H)
    refine e_aload_n dX6_why_39 rfl 0 rfl ?_
    refine fg_X6_54 rfl dX6_why_40 ?_
    refine e_iload_n dX6_why_43 rfl 2 rfl ?_
    refine e_iload_n dX6_why_44 rfl 3 rfl ?_
    refine e_iload dX6_why_45 4 rfl ?_
    refine e_callVi (j1 := 0) (j2 := 0) (av := [.int x2, .int x3, .int x4]) rfl rfl (Nat.le_of_ble_eq_true rfl) rfl rfl H i_X5_whyNotRight rfl n_X5_whyNotRight v_X5_whyNotRight q_X6_239 (by decide) (by decide) (Nat.le_of_ble_eq_true rfl) dX6_why_47 (fun v5 τ5 H => ?_) (fun E τ H => H)
    exact e_iret rfl dX6_why_50 H
  · replace H := H.2 h2
    refine e_iload_n dX6_why_13 rfl 1 rfl ?_
    refine e_callSi (j1 := 0) (j2 := 1) (av := [.int x1]) rfl H i_X6_angleProblem rfl s_X6_angleProblem q_X6_229 (by decide) (by decide) (Nat.le_of_ble_eq_true rfl) dX6_why_14 (fun v6 τ6 H => ?_) (fun E τ H => H)
    refine e_goto (tgt := 21) dX6_why_17 (by decide) ?_
    refine e_callSv (j1 := 1) (j2 := 0) (av := [.int v6]) rfl H i_X6_refuse rfl s_X6_refuse q_X6_166 (by decide) (by decide) (Nat.le_of_ble_eq_true rfl) dX6_why_21 (fun τ7 H => ?_) (fun E τ H => H)
    refine e_aload_n dX6_why_24 rfl 0 rfl ?_
    refine fg_X6_54 rfl dX6_why_25 ?_
    refine e_aload_n dX6_why_28 rfl 0 rfl ?_
    refine fg_X6_35 rfl dX6_why_29 ?_
    refine fg_X6_175 (zB_s0 zB_73) (zB_l0 zB_73) rfl dX6_why_32 ?_
    refine e_iload_n dX6_why_35 rfl 1 rfl ?_
    refine e_callVv (j1 := 0) (j2 := 0) (av := [.ref (zad g (73 + 3)), .int x1]) rfl rfl (Nat.le_of_ble_eq_true rfl) rfl rfl H i_X5_look rfl n_X5_look v_X5_look q_X6_232 (by decide) (by decide) (Nat.le_of_ble_eq_true rfl) dX6_why_36 (fun τ8 H => ?_) (fun E τ H => H)
    refine e_aload_n dX6_why_39 rfl 0 rfl ?_
    refine fg_X6_54 rfl dX6_why_40 ?_
    refine e_iload_n dX6_why_43 rfl 2 rfl ?_
    refine e_iload_n dX6_why_44 rfl 3 rfl ?_
    refine e_iload dX6_why_45 4 rfl ?_
    refine e_callVi (j1 := 0) (j2 := 0) (av := [.int x2, .int x3, .int x4]) rfl rfl (Nat.le_of_ble_eq_true rfl) rfl rfl H i_X5_whyNotRight rfl n_X5_whyNotRight v_X5_whyNotRight q_X6_239 (by decide) (by decide) (Nat.le_of_ble_eq_true rfl) dX6_why_47 (fun v9 τ9 H => ?_) (fun E τ H => H)
    exact e_iret rfl dX6_why_50 H
set_option maxRecDepth 20000 in
set_option maxHeartbeats 2000000 in
theorem b_X6_right {g : zG} {l : Launch} {K : Int32 → zS → Prop} {X : String → zS → Prop} {x1 : Int32} {x2 : Int32} {σ : zS}
    (H : CT g l M_X6_angleProblem 0 [.int x1] σ (zQi (fun v1 τ1 => CT g l M_X6_refuse 1 [.int v1] τ1 (zQv (fun τ2 => CT g l M_X6_rightFrom 0 [.ref (zad g 0), .int x1, .int x2] τ2 (zQi (fun v3 τ3 => K v3 τ3) (fun E τ => X E τ))) (fun E τ => X E τ))) (fun E τ => X E τ))) :
    CT g l M_X6_right 1 [.ref (zad g 0), .int x1, .int x2] σ (zQi K X) := by
  refine CT_of rfl (by decide) (Nat.le_of_ble_eq_true rfl) ?_
  change EV _ _ _ _ _ 0 [(0, .ref (zad g 0)), (1, .int x1), (2, .int x2)] [] _
  refine e_iload_n dX6_right_0 rfl 1 rfl ?_
  refine e_callSi (j1 := 0) (j2 := 1) (av := [.int x1]) rfl H i_X6_angleProblem rfl s_X6_angleProblem q_X6_229 (by decide) (by decide) (Nat.le_of_ble_eq_true rfl) dX6_right_1 (fun v1 τ1 H => ?_) (fun E τ H => H)
  refine e_callSv (j1 := 1) (j2 := 0) (av := [.int v1]) rfl H i_X6_refuse rfl s_X6_refuse q_X6_166 (by decide) (by decide) (Nat.le_of_ble_eq_true rfl) dX6_right_4 (fun τ2 H => ?_) (fun E τ H => H)
  refine e_aload_n dX6_right_7 rfl 0 rfl ?_
  refine e_iload_n dX6_right_8 rfl 1 rfl ?_
  refine e_iload_n dX6_right_9 rfl 2 rfl ?_
  refine e_callVi (j1 := 0) (j2 := 0) (av := [.int x1, .int x2]) rfl rfl (Nat.le_of_ble_eq_true rfl) rfl rfl H i_X6_rightFrom rfl n_X6_rightFrom v_X6_rightFrom q_X6_243 (by decide) (by decide) (Nat.le_of_ble_eq_true rfl) dX6_right_10 (fun v3 τ3 H => ?_) (fun E τ H => H)
  exact e_iret rfl dX6_right_13 H
set_option maxRecDepth 20000 in
set_option maxHeartbeats 2000000 in
theorem b_X6_open {g : zG} {l : Launch} {K : Int32 → zS → Prop} {X : String → zS → Prop} {x1 : Int32} {σ : zS}
    (H : CT g l M_X6_angleProblem 0 [.int x1] σ (zQi (fun v1 τ1 => CT g l M_X6_refuse 1 [.int v1] τ1 (zQv (fun τ2 => CT g l M_X6_openFrom 0 [.ref (zad g 0), .int x1] τ2 (zQi (fun v3 τ3 => K v3 τ3) (fun E τ => X E τ))) (fun E τ => X E τ))) (fun E τ => X E τ))) :
    CT g l M_X6_open 1 [.ref (zad g 0), .int x1] σ (zQi K X) := by
  refine CT_of rfl (by decide) (Nat.le_of_ble_eq_true rfl) ?_
  change EV _ _ _ _ _ 0 [(0, .ref (zad g 0)), (1, .int x1)] [] _
  refine e_iload_n dX6_open_0 rfl 1 rfl ?_
  refine e_callSi (j1 := 0) (j2 := 1) (av := [.int x1]) rfl H i_X6_angleProblem rfl s_X6_angleProblem q_X6_229 (by decide) (by decide) (Nat.le_of_ble_eq_true rfl) dX6_open_1 (fun v1 τ1 H => ?_) (fun E τ H => H)
  refine e_callSv (j1 := 1) (j2 := 0) (av := [.int v1]) rfl H i_X6_refuse rfl s_X6_refuse q_X6_166 (by decide) (by decide) (Nat.le_of_ble_eq_true rfl) dX6_open_4 (fun τ2 H => ?_) (fun E τ H => H)
  refine e_aload_n dX6_open_7 rfl 0 rfl ?_
  refine e_iload_n dX6_open_8 rfl 1 rfl ?_
  refine e_callVi (j1 := 0) (j2 := 0) (av := [.int x1]) rfl rfl (Nat.le_of_ble_eq_true rfl) rfl rfl H i_X6_openFrom rfl n_X6_openFrom v_X6_openFrom q_X6_246 (by decide) (by decide) (Nat.le_of_ble_eq_true rfl) dX6_open_9 (fun v3 τ3 H => ?_) (fun E τ H => H)
  exact e_iret rfl dX6_open_12 H
set_option maxRecDepth 20000 in
set_option maxHeartbeats 2000000 in
theorem b_X6_covered {g : zG} {l : Launch} {K : Int32 → zS → Prop} {X : String → zS → Prop} {x1 : Int32} {σ : zS}
    (H : CT g l M_X6_angleProblem 0 [.int x1] σ (zQi (fun v1 τ1 => CT g l M_X6_refuse 1 [.int v1] τ1 (zQv (fun τ2 => CT g l M_X5_look 0 [.ref (zad g 18), .ref (zad g (73 + 3)), .int x1] τ2 (zQv (fun τ3 => CT g l M_X5_columnsWith 0 [.ref (zad g 18), .int 1] τ3 (zQi (fun v4 τ4 => K (v4 * (τ4.1 73 0)) τ4) (fun E τ => X E τ))) (fun E τ => X E τ))) (fun E τ => X E τ))) (fun E τ => X E τ))) :
    CT g l M_X6_covered 1 [.ref (zad g 0), .int x1] σ (zQi K X) := by
  refine CT_of rfl (by decide) (Nat.le_of_ble_eq_true rfl) ?_
  change EV _ _ _ _ _ 0 [(0, .ref (zad g 0)), (1, .int x1)] [] _
  refine e_iload_n dX6_covered_0 rfl 1 rfl ?_
  refine e_callSi (j1 := 0) (j2 := 1) (av := [.int x1]) rfl H i_X6_angleProblem rfl s_X6_angleProblem q_X6_229 (by decide) (by decide) (Nat.le_of_ble_eq_true rfl) dX6_covered_1 (fun v1 τ1 H => ?_) (fun E τ H => H)
  refine e_callSv (j1 := 1) (j2 := 0) (av := [.int v1]) rfl H i_X6_refuse rfl s_X6_refuse q_X6_166 (by decide) (by decide) (Nat.le_of_ble_eq_true rfl) dX6_covered_4 (fun τ2 H => ?_) (fun E τ H => H)
  refine e_aload_n dX6_covered_7 rfl 0 rfl ?_
  refine fg_X6_54 rfl dX6_covered_8 ?_
  refine e_aload_n dX6_covered_11 rfl 0 rfl ?_
  refine fg_X6_35 rfl dX6_covered_12 ?_
  refine fg_X6_175 (zB_s0 zB_73) (zB_l0 zB_73) rfl dX6_covered_15 ?_
  refine e_iload_n dX6_covered_18 rfl 1 rfl ?_
  refine e_callVv (j1 := 0) (j2 := 0) (av := [.ref (zad g (73 + 3)), .int x1]) rfl rfl (Nat.le_of_ble_eq_true rfl) rfl rfl H i_X5_look rfl n_X5_look v_X5_look q_X6_232 (by decide) (by decide) (Nat.le_of_ble_eq_true rfl) dX6_covered_19 (fun τ3 H => ?_) (fun E τ H => H)
  refine e_aload_n dX6_covered_22 rfl 0 rfl ?_
  refine fg_X6_54 rfl dX6_covered_23 ?_
  refine e_iconst (v := 1) dX6_covered_26 (by decide) ?_
  refine e_callVi (j1 := 0) (j2 := 0) (av := [.int 1]) rfl rfl (Nat.le_of_ble_eq_true rfl) rfl rfl H i_X5_columnsWith rfl n_X5_columnsWith v_X5_columnsWith q_X6_249 (by decide) (by decide) (Nat.le_of_ble_eq_true rfl) dX6_covered_27 (fun v4 τ4 H => ?_) (fun E τ H => H)
  refine e_aload_n dX6_covered_30 rfl 0 rfl ?_
  refine fg_X6_35 rfl dX6_covered_31 ?_
  refine fg_X6_126 (zB_s0 zB_73) (zB_l0 zB_73) rfl dX6_covered_34 ?_
  refine e_imul dX6_covered_37 ?_
  exact e_iret rfl dX6_covered_38 H
set_option maxRecDepth 20000 in
set_option maxHeartbeats 2000000 in
theorem b_X6_whole {g : zG} {l : Launch} {K : Int32 → zS → Prop} {X : String → zS → Prop} {x1 : Int32} {σ : zS}
    (H : CT g l M_X6_angleProblem 0 [.int x1] σ (zQi (fun v1 τ1 => CT g l M_X6_refuse 1 [.int v1] τ1 (zQv (fun τ2 => CT g l M_X5_look 0 [.ref (zad g 18), .ref (zad g (73 + 3)), .int x1] τ2 (zQv (fun τ3 => CT g l M_X5_isWhole 0 [.ref (zad g 18), .int 0] τ3 (zQi (fun v4 τ4 => ((v4 = 0 → CT g l M_X5_isWhole 0 [.ref (zad g 18), .int 1] τ4 (zQi (fun v6 τ6 => ((v6 = 0 → K (0 + 0) τ6) ∧ (¬ v6 = 0 → K (0 + 2) τ6))) (fun E τ => X E τ))) ∧ (¬ v4 = 0 → CT g l M_X5_isWhole 0 [.ref (zad g 18), .int 1] τ4 (zQi (fun v8 τ8 => ((v8 = 0 → K (1 + 0) τ8) ∧ (¬ v8 = 0 → K (1 + 2) τ8))) (fun E τ => X E τ))))) (fun E τ => X E τ))) (fun E τ => X E τ))) (fun E τ => X E τ))) (fun E τ => X E τ))) :
    CT g l M_X6_whole 1 [.ref (zad g 0), .int x1] σ (zQi K X) := by
  refine CT_of rfl (by decide) (Nat.le_of_ble_eq_true rfl) ?_
  change EV _ _ _ _ _ 0 [(0, .ref (zad g 0)), (1, .int x1)] [] _
  refine e_iload_n dX6_whole_0 rfl 1 rfl ?_
  refine e_callSi (j1 := 0) (j2 := 1) (av := [.int x1]) rfl H i_X6_angleProblem rfl s_X6_angleProblem q_X6_229 (by decide) (by decide) (Nat.le_of_ble_eq_true rfl) dX6_whole_1 (fun v1 τ1 H => ?_) (fun E τ H => H)
  refine e_callSv (j1 := 1) (j2 := 0) (av := [.int v1]) rfl H i_X6_refuse rfl s_X6_refuse q_X6_166 (by decide) (by decide) (Nat.le_of_ble_eq_true rfl) dX6_whole_4 (fun τ2 H => ?_) (fun E τ H => H)
  refine e_aload_n dX6_whole_7 rfl 0 rfl ?_
  refine fg_X6_54 rfl dX6_whole_8 ?_
  refine e_aload_n dX6_whole_11 rfl 0 rfl ?_
  refine fg_X6_35 rfl dX6_whole_12 ?_
  refine fg_X6_175 (zB_s0 zB_73) (zB_l0 zB_73) rfl dX6_whole_15 ?_
  refine e_iload_n dX6_whole_18 rfl 1 rfl ?_
  refine e_callVv (j1 := 0) (j2 := 0) (av := [.ref (zad g (73 + 3)), .int x1]) rfl rfl (Nat.le_of_ble_eq_true rfl) rfl rfl H i_X5_look rfl n_X5_look v_X5_look q_X6_232 (by decide) (by decide) (Nat.le_of_ble_eq_true rfl) dX6_whole_19 (fun τ3 H => ?_) (fun E τ H => H)
  refine e_aload_n dX6_whole_22 rfl 0 rfl ?_
  refine fg_X6_54 rfl dX6_whole_23 ?_
  refine e_iconst (v := 0) dX6_whole_26 (by decide) ?_
  refine e_callVi (j1 := 0) (j2 := 0) (av := [.int 0]) rfl rfl (Nat.le_of_ble_eq_true rfl) rfl rfl H i_X5_isWhole rfl n_X5_isWhole v_X5_isWhole q_X6_252 (by decide) (by decide) (Nat.le_of_ble_eq_true rfl) dX6_whole_27 (fun v4 τ4 H => ?_) (fun E τ H => H)
  refine e_if_eq (tgt := 37) dX6_whole_30 (by decide) (fun h5 => ?_) (fun h5 => ?_)
  · replace H := H.1 h5
    refine e_iconst (v := 0) dX6_whole_37 (by decide) ?_
    refine e_aload_n dX6_whole_38 rfl 0 rfl ?_
    refine fg_X6_54 rfl dX6_whole_39 ?_
    refine e_iconst (v := 1) dX6_whole_42 (by decide) ?_
    refine e_callVi (j1 := 0) (j2 := 0) (av := [.int 1]) rfl rfl (Nat.le_of_ble_eq_true rfl) rfl rfl H i_X5_isWhole rfl n_X5_isWhole v_X5_isWhole q_X6_252 (by decide) (by decide) (Nat.le_of_ble_eq_true rfl) dX6_whole_43 (fun v6 τ6 H => ?_) (fun E τ H => H)
    refine e_if_eq (tgt := 53) dX6_whole_46 (by decide) (fun h7 => ?_) (fun h7 => ?_)
    · replace H := H.1 h7
      refine e_iconst (v := 0) dX6_whole_53 (by decide) ?_
      refine e_iadd dX6_whole_54 ?_
      exact e_iret rfl dX6_whole_55 H
    · replace H := H.2 h7
      refine e_iconst (v := 2) dX6_whole_49 (by decide) ?_
      refine e_goto (tgt := 54) dX6_whole_50 (by decide) ?_
      refine e_iadd dX6_whole_54 ?_
      exact e_iret rfl dX6_whole_55 H
  · replace H := H.2 h5
    refine e_iconst (v := 1) dX6_whole_33 (by decide) ?_
    refine e_goto (tgt := 38) dX6_whole_34 (by decide) ?_
    refine e_aload_n dX6_whole_38 rfl 0 rfl ?_
    refine fg_X6_54 rfl dX6_whole_39 ?_
    refine e_iconst (v := 1) dX6_whole_42 (by decide) ?_
    refine e_callVi (j1 := 0) (j2 := 0) (av := [.int 1]) rfl rfl (Nat.le_of_ble_eq_true rfl) rfl rfl H i_X5_isWhole rfl n_X5_isWhole v_X5_isWhole q_X6_252 (by decide) (by decide) (Nat.le_of_ble_eq_true rfl) dX6_whole_43 (fun v8 τ8 H => ?_) (fun E τ H => H)
    refine e_if_eq (tgt := 53) dX6_whole_46 (by decide) (fun h9 => ?_) (fun h9 => ?_)
    · replace H := H.1 h9
      refine e_iconst (v := 0) dX6_whole_53 (by decide) ?_
      refine e_iadd dX6_whole_54 ?_
      exact e_iret rfl dX6_whole_55 H
    · replace H := H.2 h9
      refine e_iconst (v := 2) dX6_whole_49 (by decide) ?_
      refine e_goto (tgt := 54) dX6_whole_50 (by decide) ?_
      refine e_iadd dX6_whole_54 ?_
      exact e_iret rfl dX6_whole_55 H
set_option maxRecDepth 20000 in
set_option maxHeartbeats 2000000 in
theorem b_X6_firstWrong {g : zG} {l : Launch} {K : Int32 → zS → Prop} {X : String → zS → Prop} {x1 : Int32} {x2 : Int32} {σ : zS}
    (H : CT g l M_X6_angleProblem 0 [.int x1] σ (zQi (fun v1 τ1 => CT g l M_X6_refuse 1 [.int v1] τ1 (zQv (fun τ2 => CT g l M_X5_look 0 [.ref (zad g 18), .ref (zad g (73 + 3)), .int x1] τ2 (zQv (fun τ3 => CT g l M_X5_firstNotRight 0 [.ref (zad g 18), .int x2] τ3 (zQi (fun v4 τ4 => K v4 τ4) (fun E τ => X E τ))) (fun E τ => X E τ))) (fun E τ => X E τ))) (fun E τ => X E τ))) :
    CT g l M_X6_firstWrong 1 [.ref (zad g 0), .int x1, .int x2] σ (zQi K X) := by
  refine CT_of rfl (by decide) (Nat.le_of_ble_eq_true rfl) ?_
  change EV _ _ _ _ _ 0 [(0, .ref (zad g 0)), (1, .int x1), (2, .int x2)] [] _
  refine e_iload_n dX6_firstWrong_0 rfl 1 rfl ?_
  refine e_callSi (j1 := 0) (j2 := 1) (av := [.int x1]) rfl H i_X6_angleProblem rfl s_X6_angleProblem q_X6_229 (by decide) (by decide) (Nat.le_of_ble_eq_true rfl) dX6_firstWrong_1 (fun v1 τ1 H => ?_) (fun E τ H => H)
  refine e_callSv (j1 := 1) (j2 := 0) (av := [.int v1]) rfl H i_X6_refuse rfl s_X6_refuse q_X6_166 (by decide) (by decide) (Nat.le_of_ble_eq_true rfl) dX6_firstWrong_4 (fun τ2 H => ?_) (fun E τ H => H)
  refine e_aload_n dX6_firstWrong_7 rfl 0 rfl ?_
  refine fg_X6_54 rfl dX6_firstWrong_8 ?_
  refine e_aload_n dX6_firstWrong_11 rfl 0 rfl ?_
  refine fg_X6_35 rfl dX6_firstWrong_12 ?_
  refine fg_X6_175 (zB_s0 zB_73) (zB_l0 zB_73) rfl dX6_firstWrong_15 ?_
  refine e_iload_n dX6_firstWrong_18 rfl 1 rfl ?_
  refine e_callVv (j1 := 0) (j2 := 0) (av := [.ref (zad g (73 + 3)), .int x1]) rfl rfl (Nat.le_of_ble_eq_true rfl) rfl rfl H i_X5_look rfl n_X5_look v_X5_look q_X6_232 (by decide) (by decide) (Nat.le_of_ble_eq_true rfl) dX6_firstWrong_19 (fun τ3 H => ?_) (fun E τ H => H)
  refine e_aload_n dX6_firstWrong_22 rfl 0 rfl ?_
  refine fg_X6_54 rfl dX6_firstWrong_23 ?_
  refine e_iload_n dX6_firstWrong_26 rfl 2 rfl ?_
  refine e_callVi (j1 := 0) (j2 := 0) (av := [.int x2]) rfl rfl (Nat.le_of_ble_eq_true rfl) rfl rfl H i_X5_firstNotRight rfl n_X5_firstNotRight v_X5_firstNotRight q_X6_256 (by decide) (by decide) (Nat.le_of_ble_eq_true rfl) dX6_firstWrong_27 (fun v4 τ4 H => ?_) (fun E τ H => H)
  exact e_iret rfl dX6_firstWrong_30 H
abbrev L_X6_shownFrom_23 (g : zG) (l : Launch) (K : Int32 → zS → Prop) (X : String → zS → Prop) (y1 : Int32) (y2 : Int32) (y3 : Int32) (σ : zS) : Prop :=
  EV g l M_X6_shownFrom 0 (zQi K X) 23 [(0, .ref (zad g 0)), (1, .int y1), (2, .int y2), (3, .int y3)] [] σ
set_option maxRecDepth 20000 in
set_option maxHeartbeats 2000000 in
theorem b_X6_shownFrom {g : zG} {l : Launch} {K : Int32 → zS → Prop} {X : String → zS → Prop} {x1 : Int32} {σ : zS}
    (H : CT g l M_X0_hasColumn 0 [.ref (zad g 73), .int x1] σ (zQi (fun v1 τ1 => ((v1 = 0 → CT g l M_X6_refuse 1 [.int 1] τ1 (zQv (fun τ3 => L_X6_shownFrom_23 g l K X x1 0 0 τ3) (fun E τ => X E τ))) ∧ (¬ v1 = 0 → CT g l M_X6_refuse 1 [.int 0] τ1 (zQv (fun τ4 => L_X6_shownFrom_23 g l K X x1 0 0 τ4) (fun E τ => X E τ))))) (fun E τ => X E τ))) :
    CT g l M_X6_shownFrom 1 [.ref (zad g 0), .int x1] σ (zQi K X) := by
  refine CT_of rfl (by decide) (Nat.le_of_ble_eq_true rfl) ?_
  change EV _ _ _ _ _ 0 [(0, .ref (zad g 0)), (1, .int x1)] [] _
  refine e_aload_n dX6_shownFrom_0 rfl 0 rfl ?_
  refine fg_X6_35 rfl dX6_shownFrom_1 ?_
  refine e_iload_n dX6_shownFrom_4 rfl 1 rfl ?_
  refine e_callVi (j1 := 0) (j2 := 1) (av := [.int x1]) rfl (zB_s0 zB_73) (zB_l0 zB_73) rfl rfl H i_X0_hasColumn rfl n_X0_hasColumn v_X0_hasColumn q_X6_193 (by decide) (by decide) (Nat.le_of_ble_eq_true rfl) dX6_shownFrom_5 (fun v1 τ1 H => ?_) (fun E τ H => H)
  refine e_if_eq (tgt := 15) dX6_shownFrom_8 (by decide) (fun h2 => ?_) (fun h2 => ?_)
  · replace H := H.1 h2
    refine e_iconst (v := 1) dX6_shownFrom_15 (by decide) ?_
    refine e_callSv (j1 := 1) (j2 := 0) (av := [.int 1]) rfl H i_X6_refuse rfl s_X6_refuse q_X6_166 (by decide) (by decide) (Nat.le_of_ble_eq_true rfl) dX6_shownFrom_16 (fun τ3 H => ?_) (fun E τ H => H)
    refine e_iconst (v := 0) dX6_shownFrom_19 (by decide) ?_
    refine e_istore_n (ls' := [(2, .int 0), (0, .ref (zad g 0)), (1, .int x1)]) dX6_shownFrom_20 rfl (by decide) rfl ?_
    refine e_iconst (v := 0) dX6_shownFrom_21 (by decide) ?_
    refine e_istore_n (ls' := [(3, .int 0), (2, .int 0), (0, .ref (zad g 0)), (1, .int x1)]) dX6_shownFrom_22 rfl (by decide) rfl ?_
    refine e_ls [2, 3, 1, 0] rfl ?_
    exact H
  · replace H := H.2 h2
    refine e_iconst (v := 0) dX6_shownFrom_11 (by decide) ?_
    refine e_goto (tgt := 16) dX6_shownFrom_12 (by decide) ?_
    refine e_callSv (j1 := 1) (j2 := 0) (av := [.int 0]) rfl H i_X6_refuse rfl s_X6_refuse q_X6_166 (by decide) (by decide) (Nat.le_of_ble_eq_true rfl) dX6_shownFrom_16 (fun τ4 H => ?_) (fun E τ H => H)
    refine e_iconst (v := 0) dX6_shownFrom_19 (by decide) ?_
    refine e_istore_n (ls' := [(2, .int 0), (0, .ref (zad g 0)), (1, .int x1)]) dX6_shownFrom_20 rfl (by decide) rfl ?_
    refine e_iconst (v := 0) dX6_shownFrom_21 (by decide) ?_
    refine e_istore_n (ls' := [(3, .int 0), (2, .int 0), (0, .ref (zad g 0)), (1, .int x1)]) dX6_shownFrom_22 rfl (by decide) rfl ?_
    refine e_ls [2, 3, 1, 0] rfl ?_
    exact H
set_option maxRecDepth 20000 in
set_option maxHeartbeats 2000000 in
theorem b_X6_shownFrom_23 {g : zG} {l : Launch} {K : Int32 → zS → Prop} {X : String → zS → Prop} {y1 : Int32} {y2 : Int32} {y3 : Int32} {σ : zS}
    (H : ((13 ≤ y3 → K y2 σ) ∧ (¬ 13 ≤ y3 → CT g l M_X5_look 0 [.ref (zad g 18), .ref (zad g (73 + 3)), .int (y3 - 6)] σ (zQv (fun τ2 => CT g l M_X5_isShown 0 [.ref (zad g 18), .int y1] τ2 (zQi (fun v3 τ3 => ((v3 = 0 → L_X6_shownFrom_23 g l K X y1 y2 (y3 + 1) τ3) ∧ (¬ v3 = 0 → L_X6_shownFrom_23 g l K X y1 (y2 ||| (1 <<< (y3 &&& 31))) (y3 + 1) τ3))) (fun E τ => X E τ))) (fun E τ => X E τ))))) :
    L_X6_shownFrom_23 g l K X y1 y2 y3 σ := by
  refine e_iload_n dX6_shownFrom_23 rfl 3 rfl ?_
  refine e_bipush (v := 13) dX6_shownFrom_24 (by decide) ?_
  refine e_icmp_ge (tgt := 70) dX6_shownFrom_26 (by decide) (fun h1 => ?_) (fun h1 => ?_)
  · replace H := H.1 h1
    refine e_iload_n dX6_shownFrom_70 rfl 2 rfl ?_
    exact e_iret rfl dX6_shownFrom_71 H
  · replace H := H.2 h1
    refine e_aload_n dX6_shownFrom_29 rfl 0 rfl ?_
    refine fg_X6_54 rfl dX6_shownFrom_30 ?_
    refine e_aload_n dX6_shownFrom_33 rfl 0 rfl ?_
    refine fg_X6_35 rfl dX6_shownFrom_34 ?_
    refine fg_X6_175 (zB_s0 zB_73) (zB_l0 zB_73) rfl dX6_shownFrom_37 ?_
    refine e_iload_n dX6_shownFrom_40 rfl 3 rfl ?_
    refine e_bipush (v := 6) dX6_shownFrom_41 (by decide) ?_
    refine e_isub dX6_shownFrom_43 ?_
    refine e_callVv (j1 := 0) (j2 := 0) (av := [.ref (zad g (73 + 3)), .int (y3 - 6)]) rfl rfl (Nat.le_of_ble_eq_true rfl) rfl rfl H i_X5_look rfl n_X5_look v_X5_look q_X6_232 (by decide) (by decide) (Nat.le_of_ble_eq_true rfl) dX6_shownFrom_44 (fun τ2 H => ?_) (fun E τ H => H)
    refine e_aload_n dX6_shownFrom_47 rfl 0 rfl ?_
    refine fg_X6_54 rfl dX6_shownFrom_48 ?_
    refine e_iload_n dX6_shownFrom_51 rfl 1 rfl ?_
    refine e_callVi (j1 := 0) (j2 := 0) (av := [.int y1]) rfl rfl (Nat.le_of_ble_eq_true rfl) rfl rfl H i_X5_isShown rfl n_X5_isShown v_X5_isShown q_X6_260 (by decide) (by decide) (Nat.le_of_ble_eq_true rfl) dX6_shownFrom_52 (fun v3 τ3 H => ?_) (fun E τ H => H)
    refine e_if_eq (tgt := 64) dX6_shownFrom_55 (by decide) (fun h4 => ?_) (fun h4 => ?_)
    · replace H := H.1 h4
      refine e_iinc (j := 3) (v := (y3 + 1)) (ls' := [(3, .int (y3 + 1)), (0, .ref (zad g 0)), (1, .int y1), (2, .int y2)]) dX6_shownFrom_64 rfl rfl (by decide) rfl ?_
      refine e_goto (tgt := 23) dX6_shownFrom_67 (by decide) ?_
      refine e_ls [1, 2, 3, 0] rfl ?_
      exact H
    · replace H := H.2 h4
      refine e_iload_n dX6_shownFrom_58 rfl 2 rfl ?_
      refine e_iconst (v := 1) dX6_shownFrom_59 (by decide) ?_
      refine e_iload_n dX6_shownFrom_60 rfl 3 rfl ?_
      refine e_ishl dX6_shownFrom_61 ?_
      refine e_ior dX6_shownFrom_62 ?_
      refine e_istore_n (ls' := [(2, .int (y2 ||| (1 <<< (y3 &&& 31)))), (0, .ref (zad g 0)), (1, .int y1), (3, .int y3)]) dX6_shownFrom_63 rfl (by decide) rfl ?_
      refine e_iinc (j := 3) (v := (y3 + 1)) (ls' := [(3, .int (y3 + 1)), (2, .int (y2 ||| (1 <<< (y3 &&& 31)))), (0, .ref (zad g 0)), (1, .int y1)]) dX6_shownFrom_64 rfl rfl (by decide) rfl ?_
      refine e_goto (tgt := 23) dX6_shownFrom_67 (by decide) ?_
      refine e_ls [2, 3, 1, 0] rfl ?_
      exact H
abbrev L_X6_bestAngle_9 (g : zG) (l : Launch) (K : Int32 → zS → Prop) (X : String → zS → Prop) (y1 : Int32) (y2 : Int32) (y3 : Int32) (y4 : Int32) (σ : zS) : Prop :=
  EV g l M_X6_bestAngle 0 (zQi K X) 9 [(0, .ref (zad g 0)), (1, .int y1), (2, .int y2), (3, .int y3), (4, .int y4)] [] σ
set_option maxRecDepth 20000 in
set_option maxHeartbeats 2000000 in
theorem b_X6_bestAngle {g : zG} {l : Launch} {K : Int32 → zS → Prop} {X : String → zS → Prop} {x1 : Int32} {σ : zS}
    (H : L_X6_bestAngle_9 g l K X x1 (-99) (-1) (-6) σ) :
    CT g l M_X6_bestAngle 0 [.ref (zad g 0), .int x1] σ (zQi K X) := by
  refine CT_of rfl (by decide) (Nat.le_of_ble_eq_true rfl) ?_
  change EV _ _ _ _ _ 0 [(0, .ref (zad g 0)), (1, .int x1)] [] _
  refine e_bipush (v := (-99)) dX6_bestAngle_0 (by decide) ?_
  refine e_istore_n (ls' := [(2, .int (-99)), (0, .ref (zad g 0)), (1, .int x1)]) dX6_bestAngle_2 rfl (by decide) rfl ?_
  refine e_iconst (v := (-1)) dX6_bestAngle_3 (by decide) ?_
  refine e_istore_n (ls' := [(3, .int (-1)), (2, .int (-99)), (0, .ref (zad g 0)), (1, .int x1)]) dX6_bestAngle_4 rfl (by decide) rfl ?_
  refine e_bipush (v := (-6)) dX6_bestAngle_5 (by decide) ?_
  refine e_istore (ls' := [(4, .int (-6)), (3, .int (-1)), (2, .int (-99)), (0, .ref (zad g 0)), (1, .int x1)]) dX6_bestAngle_7 (by decide) rfl ?_
  refine e_ls [3, 4, 2, 1, 0] rfl ?_
  exact H
set_option maxRecDepth 20000 in
set_option maxHeartbeats 2000000 in
theorem b_X6_bestAngle_9 {g : zG} {l : Launch} {K : Int32 → zS → Prop} {X : String → zS → Prop} {y1 : Int32} {y2 : Int32} {y3 : Int32} {y4 : Int32} {σ : zS}
    (H : ((6 < y4 → K y2 σ) ∧ (¬ 6 < y4 → (((σ.1 73 3) ≤ 0 → K y2 σ) ∧ (¬ (σ.1 73 3) ≤ 0 → CT g l M_X6_rightFrom 0 [.ref (zad g 0), .int y4, .int y1] σ (zQi (fun v3 τ3 => ((v3 ≤ y3 → L_X6_bestAngle_9 g l K X y1 y2 y3 (y4 + 1) τ3) ∧ (¬ v3 ≤ y3 → L_X6_bestAngle_9 g l K X y1 y4 v3 (y4 + 1) τ3))) (fun E τ => X E τ))))))) :
    L_X6_bestAngle_9 g l K X y1 y2 y3 y4 σ := by
  refine e_iload dX6_bestAngle_9 4 rfl ?_
  refine e_bipush (v := 6) dX6_bestAngle_11 (by decide) ?_
  refine e_icmp_gt (tgt := 53) dX6_bestAngle_13 (by decide) (fun h1 => ?_) (fun h1 => ?_)
  · replace H := H.1 h1
    refine e_iload_n dX6_bestAngle_53 rfl 2 rfl ?_
    exact e_iret rfl dX6_bestAngle_54 H
  · replace H := H.2 h1
    refine e_aload_n dX6_bestAngle_16 rfl 0 rfl ?_
    refine fg_X6_35 rfl dX6_bestAngle_17 ?_
    refine fg_X6_129 (zB_s0 zB_73) (zB_l0 zB_73) rfl dX6_bestAngle_20 ?_
    refine e_if_le (tgt := 53) dX6_bestAngle_23 (by decide) (fun h2 => ?_) (fun h2 => ?_)
    · replace H := H.1 h2
      refine e_iload_n dX6_bestAngle_53 rfl 2 rfl ?_
      exact e_iret rfl dX6_bestAngle_54 H
    · replace H := H.2 h2
      refine e_aload_n dX6_bestAngle_26 rfl 0 rfl ?_
      refine e_iload dX6_bestAngle_27 4 rfl ?_
      refine e_iload_n dX6_bestAngle_29 rfl 1 rfl ?_
      refine e_callVi (j1 := 0) (j2 := 0) (av := [.int y4, .int y1]) rfl rfl (Nat.le_of_ble_eq_true rfl) rfl rfl H i_X6_rightFrom rfl n_X6_rightFrom v_X6_rightFrom q_X6_243 (by decide) (by decide) (Nat.le_of_ble_eq_true rfl) dX6_bestAngle_30 (fun v3 τ3 H => ?_) (fun E τ H => H)
      refine e_istore (ls' := [(5, .int v3), (0, .ref (zad g 0)), (1, .int y1), (2, .int y2), (3, .int y3), (4, .int y4)]) dX6_bestAngle_33 (by decide) rfl ?_
      refine e_iload dX6_bestAngle_35 0 rfl ?_
      refine e_iload_n dX6_bestAngle_37 rfl 4 rfl ?_
      refine e_icmp_le (tgt := 47) dX6_bestAngle_38 (by decide) (fun h4 => ?_) (fun h4 => ?_)
      · replace H := H.1 h4
        refine e_iinc (j := 5) (v := (y4 + 1)) (ls' := [(4, .int (y4 + 1)), (5, .int v3), (0, .ref (zad g 0)), (1, .int y1), (2, .int y2), (3, .int y3)]) dX6_bestAngle_47 rfl rfl (by decide) rfl ?_
        refine e_goto (tgt := 9) dX6_bestAngle_50 (by decide) ?_
        refine e_ls [2, 3, 4, 5, 0] rfl ?_
        exact H
      · replace H := H.2 h4
        refine e_iload dX6_bestAngle_41 0 rfl ?_
        refine e_istore_n (ls' := [(3, .int v3), (5, .int v3), (0, .ref (zad g 0)), (1, .int y1), (2, .int y2), (4, .int y4)]) dX6_bestAngle_43 rfl (by decide) rfl ?_
        refine e_iload dX6_bestAngle_44 5 rfl ?_
        refine e_istore_n (ls' := [(2, .int y4), (3, .int v3), (5, .int v3), (0, .ref (zad g 0)), (1, .int y1), (4, .int y4)]) dX6_bestAngle_46 rfl (by decide) rfl ?_
        refine e_iinc (j := 5) (v := (y4 + 1)) (ls' := [(4, .int (y4 + 1)), (2, .int y4), (3, .int v3), (5, .int v3), (0, .ref (zad g 0)), (1, .int y1)]) dX6_bestAngle_47 rfl rfl (by decide) rfl ?_
        refine e_goto (tgt := 9) dX6_bestAngle_50 (by decide) ?_
        refine e_ls [4, 5, 1, 2, 0] rfl ?_
        exact H
set_option maxRecDepth 20000 in
set_option maxHeartbeats 2000000 in
theorem b_X6_seam {g : zG} {l : Launch} {K : Int32 → zS → Prop} {X : String → zS → Prop} {x1 : Int32} {σ : zS}
    (H : CT g l M_X0_hasSlat 0 [.ref (zad g 73), .int x1] σ (zQi (fun v1 τ1 => ((v1 = 0 → CT g l M_X6_refuse 1 [.int 1] τ1 (zQv (fun τ3 => CT g l M_X0_seamBehind 0 [.ref (zad g 73), .int x1] τ3 (zQi (fun v4 τ4 => K v4 τ4) (fun E τ => X E τ))) (fun E τ => X E τ))) ∧ (¬ v1 = 0 → CT g l M_X6_refuse 1 [.int 0] τ1 (zQv (fun τ5 => CT g l M_X0_seamBehind 0 [.ref (zad g 73), .int x1] τ5 (zQi (fun v6 τ6 => K v6 τ6) (fun E τ => X E τ))) (fun E τ => X E τ))))) (fun E τ => X E τ))) :
    CT g l M_X6_seam 1 [.ref (zad g 0), .int x1] σ (zQi K X) := by
  refine CT_of rfl (by decide) (Nat.le_of_ble_eq_true rfl) ?_
  change EV _ _ _ _ _ 0 [(0, .ref (zad g 0)), (1, .int x1)] [] _
  refine e_aload_n dX6_seam_0 rfl 0 rfl ?_
  refine fg_X6_35 rfl dX6_seam_1 ?_
  refine e_iload_n dX6_seam_4 rfl 1 rfl ?_
  refine e_callVi (j1 := 0) (j2 := 1) (av := [.int x1]) rfl (zB_s0 zB_73) (zB_l0 zB_73) rfl rfl H i_X0_hasSlat rfl n_X0_hasSlat v_X0_hasSlat q_X6_162 (by decide) (by decide) (Nat.le_of_ble_eq_true rfl) dX6_seam_5 (fun v1 τ1 H => ?_) (fun E τ H => H)
  refine e_if_eq (tgt := 15) dX6_seam_8 (by decide) (fun h2 => ?_) (fun h2 => ?_)
  · replace H := H.1 h2
    refine e_iconst (v := 1) dX6_seam_15 (by decide) ?_
    refine e_callSv (j1 := 1) (j2 := 0) (av := [.int 1]) rfl H i_X6_refuse rfl s_X6_refuse q_X6_166 (by decide) (by decide) (Nat.le_of_ble_eq_true rfl) dX6_seam_16 (fun τ3 H => ?_) (fun E τ H => H)
    refine e_aload_n dX6_seam_19 rfl 0 rfl ?_
    refine fg_X6_35 rfl dX6_seam_20 ?_
    refine e_iload_n dX6_seam_23 rfl 1 rfl ?_
    refine e_callVi (j1 := 0) (j2 := 0) (av := [.int x1]) rfl (zB_s0 zB_73) (zB_l0 zB_73) rfl rfl H i_X0_seamBehind rfl n_X0_seamBehind v_X0_seamBehind q_X6_263 (by decide) (by decide) (Nat.le_of_ble_eq_true rfl) dX6_seam_24 (fun v4 τ4 H => ?_) (fun E τ H => H)
    exact e_iret rfl dX6_seam_27 H
  · replace H := H.2 h2
    refine e_iconst (v := 0) dX6_seam_11 (by decide) ?_
    refine e_goto (tgt := 16) dX6_seam_12 (by decide) ?_
    refine e_callSv (j1 := 1) (j2 := 0) (av := [.int 0]) rfl H i_X6_refuse rfl s_X6_refuse q_X6_166 (by decide) (by decide) (Nat.le_of_ble_eq_true rfl) dX6_seam_16 (fun τ5 H => ?_) (fun E τ H => H)
    refine e_aload_n dX6_seam_19 rfl 0 rfl ?_
    refine fg_X6_35 rfl dX6_seam_20 ?_
    refine e_iload_n dX6_seam_23 rfl 1 rfl ?_
    refine e_callVi (j1 := 0) (j2 := 0) (av := [.int x1]) rfl (zB_s0 zB_73) (zB_l0 zB_73) rfl rfl H i_X0_seamBehind rfl n_X0_seamBehind v_X0_seamBehind q_X6_263 (by decide) (by decide) (Nat.le_of_ble_eq_true rfl) dX6_seam_24 (fun v6 τ6 H => ?_) (fun E τ H => H)
    exact e_iret rfl dX6_seam_27 H
set_option maxRecDepth 20000 in
set_option maxHeartbeats 2000000 in
theorem b_X6_run {g : zG} {l : Launch} {K : Int32 → zS → Prop} {X : String → zS → Prop} {x1 : Int32} {σ : zS}
    (H : CT g l M_X6_angleProblem 0 [.int x1] σ (zQi (fun v1 τ1 => CT g l M_X6_refuse 1 [.int v1] τ1 (zQv (fun τ2 => CT g l M_X5_look 0 [.ref (zad g 18), .ref (zad g (73 + 3)), .int x1] τ2 (zQv (fun τ3 => CT g l M_X5_mostShownTogether 0 [.ref (zad g 18)] τ3 (zQi (fun v4 τ4 => K v4 τ4) (fun E τ => X E τ))) (fun E τ => X E τ))) (fun E τ => X E τ))) (fun E τ => X E τ))) :
    CT g l M_X6_run 1 [.ref (zad g 0), .int x1] σ (zQi K X) := by
  refine CT_of rfl (by decide) (Nat.le_of_ble_eq_true rfl) ?_
  change EV _ _ _ _ _ 0 [(0, .ref (zad g 0)), (1, .int x1)] [] _
  refine e_iload_n dX6_run_0 rfl 1 rfl ?_
  refine e_callSi (j1 := 0) (j2 := 1) (av := [.int x1]) rfl H i_X6_angleProblem rfl s_X6_angleProblem q_X6_229 (by decide) (by decide) (Nat.le_of_ble_eq_true rfl) dX6_run_1 (fun v1 τ1 H => ?_) (fun E τ H => H)
  refine e_callSv (j1 := 1) (j2 := 0) (av := [.int v1]) rfl H i_X6_refuse rfl s_X6_refuse q_X6_166 (by decide) (by decide) (Nat.le_of_ble_eq_true rfl) dX6_run_4 (fun τ2 H => ?_) (fun E τ H => H)
  refine e_aload_n dX6_run_7 rfl 0 rfl ?_
  refine fg_X6_54 rfl dX6_run_8 ?_
  refine e_aload_n dX6_run_11 rfl 0 rfl ?_
  refine fg_X6_35 rfl dX6_run_12 ?_
  refine fg_X6_175 (zB_s0 zB_73) (zB_l0 zB_73) rfl dX6_run_15 ?_
  refine e_iload_n dX6_run_18 rfl 1 rfl ?_
  refine e_callVv (j1 := 0) (j2 := 0) (av := [.ref (zad g (73 + 3)), .int x1]) rfl rfl (Nat.le_of_ble_eq_true rfl) rfl rfl H i_X5_look rfl n_X5_look v_X5_look q_X6_232 (by decide) (by decide) (Nat.le_of_ble_eq_true rfl) dX6_run_19 (fun τ3 H => ?_) (fun E τ H => H)
  refine e_aload_n dX6_run_22 rfl 0 rfl ?_
  refine fg_X6_54 rfl dX6_run_23 ?_
  refine e_callVi (j1 := 0) (j2 := 0) (av := []) rfl rfl (Nat.le_of_ble_eq_true rfl) rfl rfl H i_X5_mostShownTogether rfl n_X5_mostShownTogether v_X5_mostShownTogether q_X6_266 (by decide) (by decide) (Nat.le_of_ble_eq_true rfl) dX6_run_26 (fun v4 τ4 H => ?_) (fun E τ H => H)
  exact e_iret rfl dX6_run_29 H
set_option maxRecDepth 20000 in
set_option maxHeartbeats 2000000 in
theorem b_X6_ghosts {g : zG} {l : Launch} {K : Int32 → zS → Prop} {X : String → zS → Prop} {x1 : Int32} {x2 : Int32} {σ : zS}
    (H : CT g l M_X6_angleProblem 0 [.int x1] σ (zQi (fun v1 τ1 => CT g l M_X6_refuse 1 [.int v1] τ1 (zQv (fun τ2 => CT g l M_X5_look 0 [.ref (zad g 18), .ref (zad g (73 + 3)), .int x1] τ2 (zQv (fun τ3 => CT g l M_X5_ghostCells 0 [.ref (zad g 18), .int x2] τ3 (zQi (fun v4 τ4 => K v4 τ4) (fun E τ => X E τ))) (fun E τ => X E τ))) (fun E τ => X E τ))) (fun E τ => X E τ))) :
    CT g l M_X6_ghosts 1 [.ref (zad g 0), .int x1, .int x2] σ (zQi K X) := by
  refine CT_of rfl (by decide) (Nat.le_of_ble_eq_true rfl) ?_
  change EV _ _ _ _ _ 0 [(0, .ref (zad g 0)), (1, .int x1), (2, .int x2)] [] _
  refine e_iload_n dX6_ghosts_0 rfl 1 rfl ?_
  refine e_callSi (j1 := 0) (j2 := 1) (av := [.int x1]) rfl H i_X6_angleProblem rfl s_X6_angleProblem q_X6_229 (by decide) (by decide) (Nat.le_of_ble_eq_true rfl) dX6_ghosts_1 (fun v1 τ1 H => ?_) (fun E τ H => H)
  refine e_callSv (j1 := 1) (j2 := 0) (av := [.int v1]) rfl H i_X6_refuse rfl s_X6_refuse q_X6_166 (by decide) (by decide) (Nat.le_of_ble_eq_true rfl) dX6_ghosts_4 (fun τ2 H => ?_) (fun E τ H => H)
  refine e_aload_n dX6_ghosts_7 rfl 0 rfl ?_
  refine fg_X6_54 rfl dX6_ghosts_8 ?_
  refine e_aload_n dX6_ghosts_11 rfl 0 rfl ?_
  refine fg_X6_35 rfl dX6_ghosts_12 ?_
  refine fg_X6_175 (zB_s0 zB_73) (zB_l0 zB_73) rfl dX6_ghosts_15 ?_
  refine e_iload_n dX6_ghosts_18 rfl 1 rfl ?_
  refine e_callVv (j1 := 0) (j2 := 0) (av := [.ref (zad g (73 + 3)), .int x1]) rfl rfl (Nat.le_of_ble_eq_true rfl) rfl rfl H i_X5_look rfl n_X5_look v_X5_look q_X6_232 (by decide) (by decide) (Nat.le_of_ble_eq_true rfl) dX6_ghosts_19 (fun τ3 H => ?_) (fun E τ H => H)
  refine e_aload_n dX6_ghosts_22 rfl 0 rfl ?_
  refine fg_X6_54 rfl dX6_ghosts_23 ?_
  refine e_iload_n dX6_ghosts_26 rfl 2 rfl ?_
  refine e_callVi (j1 := 0) (j2 := 0) (av := [.int x2]) rfl rfl (Nat.le_of_ble_eq_true rfl) rfl rfl H i_X5_ghostCells rfl n_X5_ghostCells v_X5_ghostCells q_X6_272 (by decide) (by decide) (Nat.le_of_ble_eq_true rfl) dX6_ghosts_27 (fun v4 τ4 H => ?_) (fun E τ H => H)
  exact e_iret rfl dX6_ghosts_30 H
abbrev L_X6_paintable_4 (g : zG) (l : Launch) (K : Int32 → zS → Prop) (X : String → zS → Prop) (y1 : Int32) (y2 : Int32) (y3 : Int32) (σ : zS) : Prop :=
  EV g l M_X6_paintable 0 (zQi K X) 4 [(0, .ref (zad g 0)), (1, .int y1), (2, .int y2), (3, .int y3)] [] σ
set_option maxRecDepth 20000 in
set_option maxHeartbeats 2000000 in
theorem b_X6_paintable {g : zG} {l : Launch} {K : Int32 → zS → Prop} {X : String → zS → Prop} {x1 : Int32} {σ : zS}
    (H : L_X6_paintable_4 g l K X x1 0 0 σ) :
    CT g l M_X6_paintable 0 [.ref (zad g 0), .int x1] σ (zQi K X) := by
  refine CT_of rfl (by decide) (Nat.le_of_ble_eq_true rfl) ?_
  change EV _ _ _ _ _ 0 [(0, .ref (zad g 0)), (1, .int x1)] [] _
  refine e_iconst (v := 0) dX6_paintable_0 (by decide) ?_
  refine e_istore_n (ls' := [(2, .int 0), (0, .ref (zad g 0)), (1, .int x1)]) dX6_paintable_1 rfl (by decide) rfl ?_
  refine e_iconst (v := 0) dX6_paintable_2 (by decide) ?_
  refine e_istore_n (ls' := [(3, .int 0), (2, .int 0), (0, .ref (zad g 0)), (1, .int x1)]) dX6_paintable_3 rfl (by decide) rfl ?_
  refine e_ls [2, 3, 1, 0] rfl ?_
  exact H
set_option maxRecDepth 20000 in
set_option maxHeartbeats 2000000 in
theorem b_X6_paintable_4 {g : zG} {l : Launch} {K : Int32 → zS → Prop} {X : String → zS → Prop} {y1 : Int32} {y2 : Int32} {y3 : Int32} {σ : zS}
    (H : (((σ.1 73 2) ≤ y3 → K y2 σ) ∧ (¬ (σ.1 73 2) ≤ y3 → CT g l M_X0_bearsCoat 0 [.ref (zad g 73), .int y3, .int y1] σ (zQi (fun v2 τ2 => ((v2 = 0 → L_X6_paintable_4 g l K X y1 y2 (y3 + 1) τ2) ∧ (¬ v2 = 0 → CT g l M_X0_unlikePicture 0 [.ref (zad g 73), .int y3, .int y1] τ2 (zQi (fun v4 τ4 => ((v4 ≤ 0 → L_X6_paintable_4 g l K X y1 y2 (y3 + 1) τ4) ∧ (¬ v4 ≤ 0 → L_X6_paintable_4 g l K X y1 (y2 ||| (1 <<< (y3 &&& 31))) (y3 + 1) τ4))) (fun E τ => X E τ))))) (fun E τ => X E τ))))) :
    L_X6_paintable_4 g l K X y1 y2 y3 σ := by
  refine e_iload_n dX6_paintable_4 rfl 3 rfl ?_
  refine e_aload_n dX6_paintable_5 rfl 0 rfl ?_
  refine fg_X6_35 rfl dX6_paintable_6 ?_
  refine fg_X6_101 (zB_s0 zB_73) (zB_l0 zB_73) rfl dX6_paintable_9 ?_
  refine e_icmp_ge (tgt := 51) dX6_paintable_12 (by decide) (fun h1 => ?_) (fun h1 => ?_)
  · replace H := H.1 h1
    refine e_iload_n dX6_paintable_51 rfl 2 rfl ?_
    exact e_iret rfl dX6_paintable_52 H
  · replace H := H.2 h1
    refine e_aload_n dX6_paintable_15 rfl 0 rfl ?_
    refine fg_X6_35 rfl dX6_paintable_16 ?_
    refine e_iload_n dX6_paintable_19 rfl 3 rfl ?_
    refine e_iload_n dX6_paintable_20 rfl 1 rfl ?_
    refine e_callVi (j1 := 0) (j2 := 0) (av := [.int y3, .int y1]) rfl (zB_s0 zB_73) (zB_l0 zB_73) rfl rfl H i_X0_bearsCoat rfl n_X0_bearsCoat v_X0_bearsCoat q_X6_275 (by decide) (by decide) (Nat.le_of_ble_eq_true rfl) dX6_paintable_21 (fun v2 τ2 H => ?_) (fun E τ H => H)
    refine e_if_eq (tgt := 45) dX6_paintable_24 (by decide) (fun h3 => ?_) (fun h3 => ?_)
    · replace H := H.1 h3
      refine e_iinc (j := 3) (v := (y3 + 1)) (ls' := [(3, .int (y3 + 1)), (0, .ref (zad g 0)), (1, .int y1), (2, .int y2)]) dX6_paintable_45 rfl rfl (by decide) rfl ?_
      refine e_goto (tgt := 4) dX6_paintable_48 (by decide) ?_
      refine e_ls [1, 2, 3, 0] rfl ?_
      exact H
    · replace H := H.2 h3
      refine e_aload_n dX6_paintable_27 rfl 0 rfl ?_
      refine fg_X6_35 rfl dX6_paintable_28 ?_
      refine e_iload_n dX6_paintable_31 rfl 3 rfl ?_
      refine e_iload_n dX6_paintable_32 rfl 1 rfl ?_
      refine e_callVi (j1 := 0) (j2 := 0) (av := [.int y3, .int y1]) rfl (zB_s0 zB_73) (zB_l0 zB_73) rfl rfl H i_X0_unlikePicture rfl n_X0_unlikePicture v_X0_unlikePicture q_X6_187 (by decide) (by decide) (Nat.le_of_ble_eq_true rfl) dX6_paintable_33 (fun v4 τ4 H => ?_) (fun E τ H => H)
      refine e_if_le (tgt := 45) dX6_paintable_36 (by decide) (fun h5 => ?_) (fun h5 => ?_)
      · replace H := H.1 h5
        refine e_iinc (j := 3) (v := (y3 + 1)) (ls' := [(3, .int (y3 + 1)), (0, .ref (zad g 0)), (1, .int y1), (2, .int y2)]) dX6_paintable_45 rfl rfl (by decide) rfl ?_
        refine e_goto (tgt := 4) dX6_paintable_48 (by decide) ?_
        refine e_ls [1, 2, 3, 0] rfl ?_
        exact H
      · replace H := H.2 h5
        refine e_iload_n dX6_paintable_39 rfl 2 rfl ?_
        refine e_iconst (v := 1) dX6_paintable_40 (by decide) ?_
        refine e_iload_n dX6_paintable_41 rfl 3 rfl ?_
        refine e_ishl dX6_paintable_42 ?_
        refine e_ior dX6_paintable_43 ?_
        refine e_istore_n (ls' := [(2, .int (y2 ||| (1 <<< (y3 &&& 31)))), (0, .ref (zad g 0)), (1, .int y1), (3, .int y3)]) dX6_paintable_44 rfl (by decide) rfl ?_
        refine e_iinc (j := 3) (v := (y3 + 1)) (ls' := [(3, .int (y3 + 1)), (2, .int (y2 ||| (1 <<< (y3 &&& 31)))), (0, .ref (zad g 0)), (1, .int y1)]) dX6_paintable_45 rfl rfl (by decide) rfl ?_
        refine e_goto (tgt := 4) dX6_paintable_48 (by decide) ?_
        refine e_ls [2, 3, 1, 0] rfl ?_
        exact H
set_option maxRecDepth 20000 in
set_option maxHeartbeats 2000000 in
theorem b_X6_light {g : zG} {l : Launch} {K : UInt32 → zS → Prop} {X : String → zS → Prop} {x1 : Int32} {σ : zS}
    (H : CT g l M_X6_angleProblem 0 [.int x1] σ (zQi (fun v1 τ1 => CT g l M_X6_refuse 1 [.int v1] τ1 (zQv (fun τ2 => CT g l M_X0_cells 0 [.ref (zad g 73)] τ2 (zQi (fun v3 τ3 => ((0 < v3 → CT g l M_X6_openFrom 0 [.ref (zad g 0), .int x1] τ3 (zQi (fun v5 τ5 => (vf_n32 (FP.fdiv (FP.i2f v5) (FP.i2f v3)) ∧ K (FP.fdiv (FP.i2f v5) (FP.i2f v3)) τ5)) (fun E τ => X E τ))) ∧ (¬ 0 < v3 → K FP.fconst0 τ3))) (fun E τ => X E τ))) (fun E τ => X E τ))) (fun E τ => X E τ))) :
    CT g l M_X6_light 1 [.ref (zad g 0), .int x1] σ (zQf K X) := by
  refine CT_of rfl (by decide) (Nat.le_of_ble_eq_true rfl) ?_
  change EV _ _ _ _ _ 0 [(0, .ref (zad g 0)), (1, .int x1)] [] _
  refine e_iload_n dX6_light_0 rfl 1 rfl ?_
  refine e_callSi (j1 := 0) (j2 := 1) (av := [.int x1]) rfl H i_X6_angleProblem rfl s_X6_angleProblem q_X6_229 (by decide) (by decide) (Nat.le_of_ble_eq_true rfl) dX6_light_1 (fun v1 τ1 H => ?_) (fun E τ H => H)
  refine e_callSv (j1 := 1) (j2 := 0) (av := [.int v1]) rfl H i_X6_refuse rfl s_X6_refuse q_X6_166 (by decide) (by decide) (Nat.le_of_ble_eq_true rfl) dX6_light_4 (fun τ2 H => ?_) (fun E τ H => H)
  refine e_aload_n dX6_light_7 rfl 0 rfl ?_
  refine fg_X6_35 rfl dX6_light_8 ?_
  refine e_callVi (j1 := 0) (j2 := 0) (av := []) rfl (zB_s0 zB_73) (zB_l0 zB_73) rfl rfl H i_X0_cells rfl n_X0_cells v_X0_cells q_X6_217 (by decide) (by decide) (Nat.le_of_ble_eq_true rfl) dX6_light_11 (fun v3 τ3 H => ?_) (fun E τ H => H)
  refine e_istore_n (ls' := [(2, .int v3), (0, .ref (zad g 0)), (1, .int x1)]) dX6_light_14 rfl (by decide) rfl ?_
  refine e_iload_n dX6_light_15 rfl 0 rfl ?_
  refine e_if_gt (tgt := 21) dX6_light_16 (by decide) (fun h4 => ?_) (fun h4 => ?_)
  · replace H := H.1 h4
    refine e_aload_n dX6_light_21 rfl 1 rfl ?_
    refine e_iload_n dX6_light_22 rfl 2 rfl ?_
    refine e_callVi (j1 := 0) (j2 := 0) (av := [.int x1]) rfl rfl (Nat.le_of_ble_eq_true rfl) rfl rfl H i_X6_openFrom rfl n_X6_openFrom v_X6_openFrom q_X6_246 (by decide) (by decide) (Nat.le_of_ble_eq_true rfl) dX6_light_23 (fun v5 τ5 H => ?_) (fun E τ H => H)
    refine e_i2f dX6_light_26 ?_
    refine e_iload_n dX6_light_27 rfl 0 rfl ?_
    refine e_i2f dX6_light_28 ?_
    refine e_fdiv dX6_light_29 H.1 ?_
    replace H := H.2
    exact e_fret rfl dX6_light_30 H
  · replace H := H.2 h4
    refine e_fconst0 dX6_light_19 ?_
    exact e_fret rfl dX6_light_20 H
abbrev L_X6_lightest_8 (g : zG) (l : Launch) (K : Int32 → zS → Prop) (X : String → zS → Prop) (y1 : Int32) (y2 : Int32) (y3 : Int32) (σ : zS) : Prop :=
  EV g l M_X6_lightest 0 (zQi K X) 8 [(0, .ref (zad g 0)), (1, .int y1), (2, .int y2), (3, .int y3)] [] σ
set_option maxRecDepth 20000 in
set_option maxHeartbeats 2000000 in
theorem b_X6_lightest {g : zG} {l : Launch} {K : Int32 → zS → Prop} {X : String → zS → Prop} {σ : zS}
    (H : L_X6_lightest_8 g l K X (-99) (-1) (-6) σ) :
    CT g l M_X6_lightest 0 [.ref (zad g 0)] σ (zQi K X) := by
  refine CT_of rfl (by decide) (Nat.le_of_ble_eq_true rfl) ?_
  change EV _ _ _ _ _ 0 [(0, .ref (zad g 0))] [] _
  refine e_bipush (v := (-99)) dX6_lightest_0 (by decide) ?_
  refine e_istore_n (ls' := [(1, .int (-99)), (0, .ref (zad g 0))]) dX6_lightest_2 rfl (by decide) rfl ?_
  refine e_iconst (v := (-1)) dX6_lightest_3 (by decide) ?_
  refine e_istore_n (ls' := [(2, .int (-1)), (1, .int (-99)), (0, .ref (zad g 0))]) dX6_lightest_4 rfl (by decide) rfl ?_
  refine e_bipush (v := (-6)) dX6_lightest_5 (by decide) ?_
  refine e_istore_n (ls' := [(3, .int (-6)), (2, .int (-1)), (1, .int (-99)), (0, .ref (zad g 0))]) dX6_lightest_7 rfl (by decide) rfl ?_
  refine e_ls [3, 2, 1, 0] rfl ?_
  exact H
set_option maxRecDepth 20000 in
set_option maxHeartbeats 2000000 in
theorem b_X6_lightest_8 {g : zG} {l : Launch} {K : Int32 → zS → Prop} {X : String → zS → Prop} {y1 : Int32} {y2 : Int32} {y3 : Int32} {σ : zS}
    (H : ((6 < y3 → K y1 σ) ∧ (¬ 6 < y3 → (((σ.1 73 3) ≤ 0 → K y1 σ) ∧ (¬ (σ.1 73 3) ≤ 0 → CT g l M_X6_openFrom 0 [.ref (zad g 0), .int y3] σ (zQi (fun v3 τ3 => ((v3 ≤ y2 → L_X6_lightest_8 g l K X y1 y2 (y3 + 1) τ3) ∧ (¬ v3 ≤ y2 → L_X6_lightest_8 g l K X y3 v3 (y3 + 1) τ3))) (fun E τ => X E τ))))))) :
    L_X6_lightest_8 g l K X y1 y2 y3 σ := by
  refine e_iload_n dX6_lightest_8 rfl 3 rfl ?_
  refine e_bipush (v := 6) dX6_lightest_9 (by decide) ?_
  refine e_icmp_gt (tgt := 48) dX6_lightest_11 (by decide) (fun h1 => ?_) (fun h1 => ?_)
  · replace H := H.1 h1
    refine e_iload_n dX6_lightest_48 rfl 1 rfl ?_
    exact e_iret rfl dX6_lightest_49 H
  · replace H := H.2 h1
    refine e_aload_n dX6_lightest_14 rfl 0 rfl ?_
    refine fg_X6_35 rfl dX6_lightest_15 ?_
    refine fg_X6_129 (zB_s0 zB_73) (zB_l0 zB_73) rfl dX6_lightest_18 ?_
    refine e_if_le (tgt := 48) dX6_lightest_21 (by decide) (fun h2 => ?_) (fun h2 => ?_)
    · replace H := H.1 h2
      refine e_iload_n dX6_lightest_48 rfl 1 rfl ?_
      exact e_iret rfl dX6_lightest_49 H
    · replace H := H.2 h2
      refine e_aload_n dX6_lightest_24 rfl 0 rfl ?_
      refine e_iload_n dX6_lightest_25 rfl 3 rfl ?_
      refine e_callVi (j1 := 0) (j2 := 0) (av := [.int y3]) rfl rfl (Nat.le_of_ble_eq_true rfl) rfl rfl H i_X6_openFrom rfl n_X6_openFrom v_X6_openFrom q_X6_246 (by decide) (by decide) (Nat.le_of_ble_eq_true rfl) dX6_lightest_26 (fun v3 τ3 H => ?_) (fun E τ H => H)
      refine e_istore (ls' := [(4, .int v3), (0, .ref (zad g 0)), (1, .int y1), (2, .int y2), (3, .int y3)]) dX6_lightest_29 (by decide) rfl ?_
      refine e_iload dX6_lightest_31 0 rfl ?_
      refine e_iload_n dX6_lightest_33 rfl 3 rfl ?_
      refine e_icmp_le (tgt := 42) dX6_lightest_34 (by decide) (fun h4 => ?_) (fun h4 => ?_)
      · replace H := H.1 h4
        refine e_iinc (j := 4) (v := (y3 + 1)) (ls' := [(3, .int (y3 + 1)), (4, .int v3), (0, .ref (zad g 0)), (1, .int y1), (2, .int y2)]) dX6_lightest_42 rfl rfl (by decide) rfl ?_
        refine e_goto (tgt := 8) dX6_lightest_45 (by decide) ?_
        refine e_ls [2, 3, 4, 0] rfl ?_
        exact H
      · replace H := H.2 h4
        refine e_iload dX6_lightest_37 0 rfl ?_
        refine e_istore_n (ls' := [(2, .int v3), (4, .int v3), (0, .ref (zad g 0)), (1, .int y1), (3, .int y3)]) dX6_lightest_39 rfl (by decide) rfl ?_
        refine e_iload_n dX6_lightest_40 rfl 4 rfl ?_
        refine e_istore_n (ls' := [(1, .int y3), (2, .int v3), (4, .int v3), (0, .ref (zad g 0)), (3, .int y3)]) dX6_lightest_41 rfl (by decide) rfl ?_
        refine e_iinc (j := 4) (v := (y3 + 1)) (ls' := [(3, .int (y3 + 1)), (1, .int y3), (2, .int v3), (4, .int v3), (0, .ref (zad g 0))]) dX6_lightest_42 rfl rfl (by decide) rfl ?_
        refine e_goto (tgt := 8) dX6_lightest_45 (by decide) ?_
        refine e_ls [4, 1, 2, 0] rfl ?_
        exact H
abbrev L_X6_bestTurn_51 (g : zG) (l : Launch) (K : Int32 → zS → Prop) (X : String → zS → Prop) (y1 : Int32) (y2 : Int32) (y3 : Int32) (y4 : Int32) (y5 : Int32) (y6 : Int32) (σ : zS) : Prop :=
  EV g l M_X6_bestTurn 0 (zQi K X) 51 [(0, .ref (zad g 0)), (1, .int y1), (2, .int y2), (3, .int y3), (4, .int y4), (5, .int y5), (6, .int y6)] [] σ
set_option maxRecDepth 20000 in
set_option maxHeartbeats 2000000 in
theorem b_X6_bestTurn {g : zG} {l : Launch} {K : Int32 → zS → Prop} {X : String → zS → Prop} {x1 : Int32} {x2 : Int32} {x3 : Int32} {σ : zS}
    (H : CT g l M_X0_hasSlat 0 [.ref (zad g 73), .int x1] σ (zQi (fun v1 τ1 => ((v1 = 0 → CT g l M_X6_refuse 1 [.int 1] τ1 (zQv (fun τ3 => (∀ σ4 : zS, σ4 = zpt τ3 22 (va_cpy (τ3.1 (73 + 3)) (τ3.1 22) (Int32.toNatClampNeg 0) (Int32.toNatClampNeg 0) (Int32.toNatClampNeg 10)) → L_X6_bestTurn_51 g l K X x1 x2 x3 (-4) (-1) (-4) σ4)) (fun E τ => X E τ))) ∧ (¬ v1 = 0 → CT g l M_X6_angleProblem 0 [.int x2] τ1 (zQi (fun v5 τ5 => CT g l M_X6_refuse 1 [.int v5] τ5 (zQv (fun τ6 => (∀ σ7 : zS, σ7 = zpt τ6 22 (va_cpy (τ6.1 (73 + 3)) (τ6.1 22) (Int32.toNatClampNeg 0) (Int32.toNatClampNeg 0) (Int32.toNatClampNeg 10)) → L_X6_bestTurn_51 g l K X x1 x2 x3 (-4) (-1) (-4) σ7)) (fun E τ => X E τ))) (fun E τ => X E τ))))) (fun E τ => X E τ))) :
    CT g l M_X6_bestTurn 1 [.ref (zad g 0), .int x1, .int x2, .int x3] σ (zQi K X) := by
  refine CT_of rfl (by decide) (Nat.le_of_ble_eq_true rfl) ?_
  change EV _ _ _ _ _ 0 [(0, .ref (zad g 0)), (1, .int x1), (2, .int x2), (3, .int x3)] [] _
  refine e_aload_n dX6_bestTurn_0 rfl 0 rfl ?_
  refine fg_X6_35 rfl dX6_bestTurn_1 ?_
  refine e_iload_n dX6_bestTurn_4 rfl 1 rfl ?_
  refine e_callVi (j1 := 0) (j2 := 1) (av := [.int x1]) rfl (zB_s0 zB_73) (zB_l0 zB_73) rfl rfl H i_X0_hasSlat rfl n_X0_hasSlat v_X0_hasSlat q_X6_162 (by decide) (by decide) (Nat.le_of_ble_eq_true rfl) dX6_bestTurn_5 (fun v1 τ1 H => ?_) (fun E τ H => H)
  refine e_if_eq (tgt := 18) dX6_bestTurn_8 (by decide) (fun h2 => ?_) (fun h2 => ?_)
  · replace H := H.1 h2
    refine e_iconst (v := 1) dX6_bestTurn_18 (by decide) ?_
    refine e_callSv (j1 := 1) (j2 := 0) (av := [.int 1]) rfl H i_X6_refuse rfl s_X6_refuse q_X6_166 (by decide) (by decide) (Nat.le_of_ble_eq_true rfl) dX6_bestTurn_19 (fun τ3 H => ?_) (fun E τ H => H)
    refine e_aload_n dX6_bestTurn_22 rfl 0 rfl ?_
    refine fg_X6_35 rfl dX6_bestTurn_23 ?_
    refine fg_X6_175 (zB_s0 zB_73) (zB_l0 zB_73) rfl dX6_bestTurn_26 ?_
    refine e_iconst (v := 0) dX6_bestTurn_29 (by decide) ?_
    refine e_aload_n dX6_bestTurn_30 rfl 0 rfl ?_
    refine fg_X6_58 rfl dX6_bestTurn_31 ?_
    refine e_iconst (v := 0) dX6_bestTurn_34 (by decide) ?_
    refine e_bipush (v := 10) dX6_bestTurn_35 (by decide) ?_
    refine e_copy (zB_s3 zB_73) rfl (zB_l3 zB_73) (Nat.le_of_ble_eq_true rfl) q_X6_286 mn_copy ms_copy mi_system (by decide) (by decide) (by decide) (by decide) (by decide) (by decide) (Nat.le_of_ble_eq_true rfl) dX6_bestTurn_37 ?_
    replace H := H _ rfl
    generalize zpt τ3 22 (va_cpy (τ3.1 (73 + 3)) (τ3.1 22) (Int32.toNatClampNeg 0) (Int32.toNatClampNeg 0) (Int32.toNatClampNeg 10)) = σ4 at H ⊢
    refine e_bipush (v := (-4)) dX6_bestTurn_40 (by decide) ?_
    refine e_istore (ls' := [(4, .int (-4)), (0, .ref (zad g 0)), (1, .int x1), (2, .int x2), (3, .int x3)]) dX6_bestTurn_42 (by decide) rfl ?_
    refine e_iconst (v := (-1)) dX6_bestTurn_44 (by decide) ?_
    refine e_istore (ls' := [(5, .int (-1)), (4, .int (-4)), (0, .ref (zad g 0)), (1, .int x1), (2, .int x2), (3, .int x3)]) dX6_bestTurn_45 (by decide) rfl ?_
    refine e_bipush (v := (-4)) dX6_bestTurn_47 (by decide) ?_
    refine e_istore (ls' := [(6, .int (-4)), (5, .int (-1)), (4, .int (-4)), (0, .ref (zad g 0)), (1, .int x1), (2, .int x2), (3, .int x3)]) dX6_bestTurn_49 (by decide) rfl ?_
    refine e_ls [3, 4, 5, 6, 2, 1, 0] rfl ?_
    exact H
  · replace H := H.2 h2
    refine e_iload_n dX6_bestTurn_11 rfl 2 rfl ?_
    refine e_callSi (j1 := 0) (j2 := 1) (av := [.int x2]) rfl H i_X6_angleProblem rfl s_X6_angleProblem q_X6_229 (by decide) (by decide) (Nat.le_of_ble_eq_true rfl) dX6_bestTurn_12 (fun v5 τ5 H => ?_) (fun E τ H => H)
    refine e_goto (tgt := 19) dX6_bestTurn_15 (by decide) ?_
    refine e_callSv (j1 := 1) (j2 := 0) (av := [.int v5]) rfl H i_X6_refuse rfl s_X6_refuse q_X6_166 (by decide) (by decide) (Nat.le_of_ble_eq_true rfl) dX6_bestTurn_19 (fun τ6 H => ?_) (fun E τ H => H)
    refine e_aload_n dX6_bestTurn_22 rfl 0 rfl ?_
    refine fg_X6_35 rfl dX6_bestTurn_23 ?_
    refine fg_X6_175 (zB_s0 zB_73) (zB_l0 zB_73) rfl dX6_bestTurn_26 ?_
    refine e_iconst (v := 0) dX6_bestTurn_29 (by decide) ?_
    refine e_aload_n dX6_bestTurn_30 rfl 0 rfl ?_
    refine fg_X6_58 rfl dX6_bestTurn_31 ?_
    refine e_iconst (v := 0) dX6_bestTurn_34 (by decide) ?_
    refine e_bipush (v := 10) dX6_bestTurn_35 (by decide) ?_
    refine e_copy (zB_s3 zB_73) rfl (zB_l3 zB_73) (Nat.le_of_ble_eq_true rfl) q_X6_286 mn_copy ms_copy mi_system (by decide) (by decide) (by decide) (by decide) (by decide) (by decide) (Nat.le_of_ble_eq_true rfl) dX6_bestTurn_37 ?_
    replace H := H _ rfl
    generalize zpt τ6 22 (va_cpy (τ6.1 (73 + 3)) (τ6.1 22) (Int32.toNatClampNeg 0) (Int32.toNatClampNeg 0) (Int32.toNatClampNeg 10)) = σ7 at H ⊢
    refine e_bipush (v := (-4)) dX6_bestTurn_40 (by decide) ?_
    refine e_istore (ls' := [(4, .int (-4)), (0, .ref (zad g 0)), (1, .int x1), (2, .int x2), (3, .int x3)]) dX6_bestTurn_42 (by decide) rfl ?_
    refine e_iconst (v := (-1)) dX6_bestTurn_44 (by decide) ?_
    refine e_istore (ls' := [(5, .int (-1)), (4, .int (-4)), (0, .ref (zad g 0)), (1, .int x1), (2, .int x2), (3, .int x3)]) dX6_bestTurn_45 (by decide) rfl ?_
    refine e_bipush (v := (-4)) dX6_bestTurn_47 (by decide) ?_
    refine e_istore (ls' := [(6, .int (-4)), (5, .int (-1)), (4, .int (-4)), (0, .ref (zad g 0)), (1, .int x1), (2, .int x2), (3, .int x3)]) dX6_bestTurn_49 (by decide) rfl ?_
    refine e_ls [3, 4, 5, 6, 2, 1, 0] rfl ?_
    exact H
set_option maxRecDepth 20000 in
set_option maxHeartbeats 2000000 in
theorem b_X6_bestTurn_51 {g : zG} {l : Launch} {K : Int32 → zS → Prop} {X : String → zS → Prop} {y1 : Int32} {y2 : Int32} {y3 : Int32} {y4 : Int32} {y5 : Int32} {y6 : Int32} {σ : zS}
    (H : ((4 < y6 → K y4 σ) ∧ (¬ 4 < y6 → (vp_in y1 10 ∧ (∀ σ2 : zS, σ2 = zup σ 22 (Int32.toNatClampNeg y1) y6 → CT g l M_X6_rightOfTrial 0 [.ref (zad g 0), .int y2, .int y3] σ2 (zQi (fun v3 τ3 => ((v3 ≤ y5 → L_X6_bestTurn_51 g l K X y1 y2 y3 y4 y5 (y6 + 1) τ3) ∧ (¬ v3 ≤ y5 → L_X6_bestTurn_51 g l K X y1 y2 y3 y6 v3 (y6 + 1) τ3))) (fun E τ => X E τ))))))) :
    L_X6_bestTurn_51 g l K X y1 y2 y3 y4 y5 y6 σ := by
  refine e_iload dX6_bestTurn_51 6 rfl ?_
  refine e_iconst (v := 4) dX6_bestTurn_53 (by decide) ?_
  refine e_icmp_gt (tgt := 94) dX6_bestTurn_54 (by decide) (fun h1 => ?_) (fun h1 => ?_)
  · replace H := H.1 h1
    refine e_iload dX6_bestTurn_94 4 rfl ?_
    exact e_iret rfl dX6_bestTurn_96 H
  · replace H := H.2 h1
    refine e_aload_n dX6_bestTurn_57 rfl 0 rfl ?_
    refine fg_X6_58 rfl dX6_bestTurn_58 ?_
    refine e_iload_n dX6_bestTurn_61 rfl 1 rfl ?_
    refine e_iload dX6_bestTurn_62 6 rfl ?_
    refine e_iast (n := 10) rfl (Nat.le_of_ble_eq_true rfl) H.1 dX6_bestTurn_64 ?_
    replace H := H.2
    replace H := H _ rfl
    generalize zup σ 22 (Int32.toNatClampNeg y1) y6 = σ2 at H ⊢
    refine e_aload_n dX6_bestTurn_65 rfl 0 rfl ?_
    refine e_iload_n dX6_bestTurn_66 rfl 2 rfl ?_
    refine e_iload_n dX6_bestTurn_67 rfl 3 rfl ?_
    refine e_callVi (j1 := 0) (j2 := 0) (av := [.int y2, .int y3]) rfl rfl (Nat.le_of_ble_eq_true rfl) rfl rfl H i_X6_rightOfTrial rfl n_X6_rightOfTrial v_X6_rightOfTrial q_X6_292 (by decide) (by decide) (Nat.le_of_ble_eq_true rfl) dX6_bestTurn_68 (fun v3 τ3 H => ?_) (fun E τ H => H)
    refine e_istore (ls' := [(7, .int v3), (0, .ref (zad g 0)), (1, .int y1), (2, .int y2), (3, .int y3), (4, .int y4), (5, .int y5), (6, .int y6)]) dX6_bestTurn_71 (by decide) rfl ?_
    refine e_iload dX6_bestTurn_73 0 rfl ?_
    refine e_iload dX6_bestTurn_75 6 rfl ?_
    refine e_icmp_le (tgt := 88) dX6_bestTurn_77 (by decide) (fun h4 => ?_) (fun h4 => ?_)
    · replace H := H.1 h4
      refine e_iinc (j := 7) (v := (y6 + 1)) (ls' := [(6, .int (y6 + 1)), (7, .int v3), (0, .ref (zad g 0)), (1, .int y1), (2, .int y2), (3, .int y3), (4, .int y4), (5, .int y5)]) dX6_bestTurn_88 rfl rfl (by decide) rfl ?_
      refine e_goto (tgt := 51) dX6_bestTurn_91 (by decide) ?_
      refine e_ls [2, 3, 4, 5, 6, 7, 0] rfl ?_
      exact H
    · replace H := H.2 h4
      refine e_iload dX6_bestTurn_80 0 rfl ?_
      refine e_istore (ls' := [(5, .int v3), (7, .int v3), (0, .ref (zad g 0)), (1, .int y1), (2, .int y2), (3, .int y3), (4, .int y4), (6, .int y6)]) dX6_bestTurn_82 (by decide) rfl ?_
      refine e_iload dX6_bestTurn_84 7 rfl ?_
      refine e_istore (ls' := [(4, .int y6), (5, .int v3), (7, .int v3), (0, .ref (zad g 0)), (1, .int y1), (2, .int y2), (3, .int y3), (6, .int y6)]) dX6_bestTurn_86 (by decide) rfl ?_
      refine e_iinc (j := 7) (v := (y6 + 1)) (ls' := [(6, .int (y6 + 1)), (4, .int y6), (5, .int v3), (7, .int v3), (0, .ref (zad g 0)), (1, .int y1), (2, .int y2), (3, .int y3)]) dX6_bestTurn_88 rfl rfl (by decide) rfl ?_
      refine e_goto (tgt := 51) dX6_bestTurn_91 (by decide) ?_
      refine e_ls [4, 5, 6, 7, 1, 2, 0] rfl ?_
      exact H
abbrev L_X6_bestPull_20 (g : zG) (l : Launch) (K : Int32 → zS → Prop) (X : String → zS → Prop) (y1 : Int32) (y2 : Int32) (y3 : Int32) (y4 : Int32) (y5 : Int32) (σ : zS) : Prop :=
  EV g l M_X6_bestPull 0 (zQi K X) 20 [(0, .ref (zad g 0)), (1, .int y1), (2, .int y2), (3, .int y3), (4, .int y4), (5, .int y5)] [] σ
set_option maxRecDepth 20000 in
set_option maxHeartbeats 2000000 in
theorem b_X6_bestPull {g : zG} {l : Launch} {K : Int32 → zS → Prop} {X : String → zS → Prop} {x1 : Int32} {x2 : Int32} {σ : zS}
    (H : CT g l M_X6_angleProblem 0 [.int x1] σ (zQi (fun v1 τ1 => CT g l M_X6_refuse 1 [.int v1] τ1 (zQv (fun τ2 => CT g l M_X6_rightFrom 0 [.ref (zad g 0), .int x1, .int x2] τ2 (zQi (fun v3 τ3 => L_X6_bestPull_20 g l K X x1 x2 0 v3 1 τ3) (fun E τ => X E τ))) (fun E τ => X E τ))) (fun E τ => X E τ))) :
    CT g l M_X6_bestPull 1 [.ref (zad g 0), .int x1, .int x2] σ (zQi K X) := by
  refine CT_of rfl (by decide) (Nat.le_of_ble_eq_true rfl) ?_
  change EV _ _ _ _ _ 0 [(0, .ref (zad g 0)), (1, .int x1), (2, .int x2)] [] _
  refine e_iload_n dX6_bestPull_0 rfl 1 rfl ?_
  refine e_callSi (j1 := 0) (j2 := 1) (av := [.int x1]) rfl H i_X6_angleProblem rfl s_X6_angleProblem q_X6_229 (by decide) (by decide) (Nat.le_of_ble_eq_true rfl) dX6_bestPull_1 (fun v1 τ1 H => ?_) (fun E τ H => H)
  refine e_callSv (j1 := 1) (j2 := 0) (av := [.int v1]) rfl H i_X6_refuse rfl s_X6_refuse q_X6_166 (by decide) (by decide) (Nat.le_of_ble_eq_true rfl) dX6_bestPull_4 (fun τ2 H => ?_) (fun E τ H => H)
  refine e_iconst (v := 0) dX6_bestPull_7 (by decide) ?_
  refine e_istore_n (ls' := [(3, .int 0), (0, .ref (zad g 0)), (1, .int x1), (2, .int x2)]) dX6_bestPull_8 rfl (by decide) rfl ?_
  refine e_aload_n dX6_bestPull_9 rfl 1 rfl ?_
  refine e_iload_n dX6_bestPull_10 rfl 2 rfl ?_
  refine e_iload_n dX6_bestPull_11 rfl 3 rfl ?_
  refine e_callVi (j1 := 0) (j2 := 0) (av := [.int x1, .int x2]) rfl rfl (Nat.le_of_ble_eq_true rfl) rfl rfl H i_X6_rightFrom rfl n_X6_rightFrom v_X6_rightFrom q_X6_243 (by decide) (by decide) (Nat.le_of_ble_eq_true rfl) dX6_bestPull_12 (fun v3 τ3 H => ?_) (fun E τ H => H)
  refine e_istore (ls' := [(4, .int v3), (3, .int 0), (0, .ref (zad g 0)), (1, .int x1), (2, .int x2)]) dX6_bestPull_15 (by decide) rfl ?_
  refine e_iconst (v := 1) dX6_bestPull_17 (by decide) ?_
  refine e_istore (ls' := [(5, .int 1), (4, .int v3), (3, .int 0), (0, .ref (zad g 0)), (1, .int x1), (2, .int x2)]) dX6_bestPull_18 (by decide) rfl ?_
  refine e_ls [3, 4, 5, 2, 1, 0] rfl ?_
  exact H
set_option maxRecDepth 20000 in
set_option maxHeartbeats 2000000 in
theorem b_X6_bestPull_20 {g : zG} {l : Launch} {K : Int32 → zS → Prop} {X : String → zS → Prop} {y1 : Int32} {y2 : Int32} {y3 : Int32} {y4 : Int32} {y5 : Int32} {σ : zS}
    (H : ((8 < y5 → K y3 σ) ∧ (¬ 8 < y5 → CT g l M_X6_rightAfterPull 0 [.ref (zad g 0), .int (-y5), .int y1, .int y2] σ (zQi (fun v2 τ2 => ((v2 ≤ y4 → CT g l M_X6_rightAfterPull 0 [.ref (zad g 0), .int y5, .int y1, .int y2] τ2 (zQi (fun v4 τ4 => ((v4 ≤ y4 → L_X6_bestPull_20 g l K X y1 y2 y3 y4 (y5 + 1) τ4) ∧ (¬ v4 ≤ y4 → L_X6_bestPull_20 g l K X y1 y2 y5 v4 (y5 + 1) τ4))) (fun E τ => X E τ))) ∧ (¬ v2 ≤ y4 → CT g l M_X6_rightAfterPull 0 [.ref (zad g 0), .int y5, .int y1, .int y2] τ2 (zQi (fun v6 τ6 => ((v6 ≤ v2 → L_X6_bestPull_20 g l K X y1 y2 (-y5) v2 (y5 + 1) τ6) ∧ (¬ v6 ≤ v2 → L_X6_bestPull_20 g l K X y1 y2 y5 v6 (y5 + 1) τ6))) (fun E τ => X E τ))))) (fun E τ => X E τ))))) :
    L_X6_bestPull_20 g l K X y1 y2 y3 y4 y5 σ := by
  refine e_iload dX6_bestPull_20 5 rfl ?_
  refine e_bipush (v := 8) dX6_bestPull_22 (by decide) ?_
  refine e_icmp_gt (tgt := 83) dX6_bestPull_24 (by decide) (fun h1 => ?_) (fun h1 => ?_)
  · replace H := H.1 h1
    refine e_iload_n dX6_bestPull_83 rfl 3 rfl ?_
    exact e_iret rfl dX6_bestPull_84 H
  · replace H := H.2 h1
    refine e_aload_n dX6_bestPull_27 rfl 0 rfl ?_
    refine e_iload dX6_bestPull_28 5 rfl ?_
    refine e_ineg dX6_bestPull_30 ?_
    refine e_iload_n dX6_bestPull_31 rfl 1 rfl ?_
    refine e_iload_n dX6_bestPull_32 rfl 2 rfl ?_
    refine e_callVi (j1 := 0) (j2 := 0) (av := [.int (-y5), .int y1, .int y2]) rfl rfl (Nat.le_of_ble_eq_true rfl) rfl rfl H i_X6_rightAfterPull rfl n_X6_rightAfterPull v_X6_rightAfterPull q_X6_295 (by decide) (by decide) (Nat.le_of_ble_eq_true rfl) dX6_bestPull_33 (fun v2 τ2 H => ?_) (fun E τ H => H)
    refine e_istore (ls' := [(6, .int v2), (0, .ref (zad g 0)), (1, .int y1), (2, .int y2), (3, .int y3), (4, .int y4), (5, .int y5)]) dX6_bestPull_36 (by decide) rfl ?_
    refine e_iload dX6_bestPull_38 0 rfl ?_
    refine e_iload dX6_bestPull_40 5 rfl ?_
    refine e_icmp_le (tgt := 53) dX6_bestPull_42 (by decide) (fun h3 => ?_) (fun h3 => ?_)
    · replace H := H.1 h3
      refine e_aload_n dX6_bestPull_53 rfl 1 rfl ?_
      refine e_iload dX6_bestPull_54 6 rfl ?_
      refine e_iload_n dX6_bestPull_56 rfl 2 rfl ?_
      refine e_iload_n dX6_bestPull_57 rfl 3 rfl ?_
      refine e_callVi (j1 := 0) (j2 := 0) (av := [.int y5, .int y1, .int y2]) rfl rfl (Nat.le_of_ble_eq_true rfl) rfl rfl H i_X6_rightAfterPull rfl n_X6_rightAfterPull v_X6_rightAfterPull q_X6_295 (by decide) (by decide) (Nat.le_of_ble_eq_true rfl) dX6_bestPull_58 (fun v4 τ4 H => ?_) (fun E τ H => H)
      refine e_istore (ls' := [(7, .int v4), (6, .int v2), (0, .ref (zad g 0)), (1, .int y1), (2, .int y2), (3, .int y3), (4, .int y4), (5, .int y5)]) dX6_bestPull_61 (by decide) rfl ?_
      refine e_iload dX6_bestPull_63 0 rfl ?_
      refine e_iload dX6_bestPull_65 6 rfl ?_
      refine e_icmp_le (tgt := 77) dX6_bestPull_67 (by decide) (fun h5 => ?_) (fun h5 => ?_)
      · replace H := H.1 h5
        refine e_iinc (j := 7) (v := (y5 + 1)) (ls' := [(5, .int (y5 + 1)), (7, .int v4), (6, .int v2), (0, .ref (zad g 0)), (1, .int y1), (2, .int y2), (3, .int y3), (4, .int y4)]) dX6_bestPull_77 rfl rfl (by decide) rfl ?_
        refine e_goto (tgt := 20) dX6_bestPull_80 (by decide) ?_
        refine e_ls [3, 4, 5, 6, 7, 0] rfl ?_
        exact H
      · replace H := H.2 h5
        refine e_iload dX6_bestPull_70 0 rfl ?_
        refine e_istore (ls' := [(4, .int v4), (7, .int v4), (6, .int v2), (0, .ref (zad g 0)), (1, .int y1), (2, .int y2), (3, .int y3), (5, .int y5)]) dX6_bestPull_72 (by decide) rfl ?_
        refine e_iload dX6_bestPull_74 7 rfl ?_
        refine e_istore_n (ls' := [(3, .int y5), (4, .int v4), (7, .int v4), (6, .int v2), (0, .ref (zad g 0)), (1, .int y1), (2, .int y2), (5, .int y5)]) dX6_bestPull_76 rfl (by decide) rfl ?_
        refine e_iinc (j := 7) (v := (y5 + 1)) (ls' := [(5, .int (y5 + 1)), (3, .int y5), (4, .int v4), (7, .int v4), (6, .int v2), (0, .ref (zad g 0)), (1, .int y1), (2, .int y2)]) dX6_bestPull_77 rfl rfl (by decide) rfl ?_
        refine e_goto (tgt := 20) dX6_bestPull_80 (by decide) ?_
        refine e_ls [5, 6, 7, 1, 2, 0] rfl ?_
        exact H
    · replace H := H.2 h3
      refine e_iload dX6_bestPull_45 0 rfl ?_
      refine e_istore (ls' := [(4, .int v2), (6, .int v2), (0, .ref (zad g 0)), (1, .int y1), (2, .int y2), (3, .int y3), (5, .int y5)]) dX6_bestPull_47 (by decide) rfl ?_
      refine e_iload dX6_bestPull_49 6 rfl ?_
      refine e_ineg dX6_bestPull_51 ?_
      refine e_istore_n (ls' := [(3, .int (-y5)), (4, .int v2), (6, .int v2), (0, .ref (zad g 0)), (1, .int y1), (2, .int y2), (5, .int y5)]) dX6_bestPull_52 rfl (by decide) rfl ?_
      refine e_aload_n dX6_bestPull_53 rfl 3 rfl ?_
      refine e_iload dX6_bestPull_54 6 rfl ?_
      refine e_iload_n dX6_bestPull_56 rfl 4 rfl ?_
      refine e_iload_n dX6_bestPull_57 rfl 5 rfl ?_
      refine e_callVi (j1 := 0) (j2 := 0) (av := [.int y5, .int y1, .int y2]) rfl rfl (Nat.le_of_ble_eq_true rfl) rfl rfl H i_X6_rightAfterPull rfl n_X6_rightAfterPull v_X6_rightAfterPull q_X6_295 (by decide) (by decide) (Nat.le_of_ble_eq_true rfl) dX6_bestPull_58 (fun v6 τ6 H => ?_) (fun E τ H => H)
      refine e_istore (ls' := [(7, .int v6), (3, .int (-y5)), (4, .int v2), (6, .int v2), (0, .ref (zad g 0)), (1, .int y1), (2, .int y2), (5, .int y5)]) dX6_bestPull_61 (by decide) rfl ?_
      refine e_iload dX6_bestPull_63 0 rfl ?_
      refine e_iload dX6_bestPull_65 2 rfl ?_
      refine e_icmp_le (tgt := 77) dX6_bestPull_67 (by decide) (fun h7 => ?_) (fun h7 => ?_)
      · replace H := H.1 h7
        refine e_iinc (j := 7) (v := (y5 + 1)) (ls' := [(5, .int (y5 + 1)), (7, .int v6), (3, .int (-y5)), (4, .int v2), (6, .int v2), (0, .ref (zad g 0)), (1, .int y1), (2, .int y2)]) dX6_bestPull_77 rfl rfl (by decide) rfl ?_
        refine e_goto (tgt := 20) dX6_bestPull_80 (by decide) ?_
        refine e_ls [5, 6, 7, 2, 3, 0] rfl ?_
        exact H
      · replace H := H.2 h7
        refine e_iload dX6_bestPull_70 0 rfl ?_
        refine e_istore (ls' := [(4, .int v6), (7, .int v6), (3, .int (-y5)), (6, .int v2), (0, .ref (zad g 0)), (1, .int y1), (2, .int y2), (5, .int y5)]) dX6_bestPull_72 (by decide) rfl ?_
        refine e_iload dX6_bestPull_74 7 rfl ?_
        refine e_istore_n (ls' := [(3, .int y5), (4, .int v6), (7, .int v6), (6, .int v2), (0, .ref (zad g 0)), (1, .int y1), (2, .int y2), (5, .int y5)]) dX6_bestPull_76 rfl (by decide) rfl ?_
        refine e_iinc (j := 7) (v := (y5 + 1)) (ls' := [(5, .int (y5 + 1)), (3, .int y5), (4, .int v6), (7, .int v6), (6, .int v2), (0, .ref (zad g 0)), (1, .int y1), (2, .int y2)]) dX6_bestPull_77 rfl rfl (by decide) rfl ?_
        refine e_goto (tgt := 20) dX6_bestPull_80 (by decide) ?_
        refine e_ls [5, 6, 7, 1, 2, 0] rfl ?_
        exact H
abbrev L_X6_turnsNeeded_13 (g : zG) (l : Launch) (K : Int32 → zS → Prop) (X : String → zS → Prop) (y1 : Int32) (y2 : Int32) (y3 : Int32) (y4 : Int32) (σ : zS) : Prop :=
  EV g l M_X6_turnsNeeded 0 (zQi K X) 13 [(0, .ref (zad g 0)), (1, .int y1), (2, .int y2), (3, .int y3), (4, .int y4)] [] σ
set_option maxRecDepth 20000 in
set_option maxHeartbeats 2000000 in
theorem b_X6_turnsNeeded {g : zG} {l : Launch} {K : Int32 → zS → Prop} {X : String → zS → Prop} {x1 : Int32} {x2 : Int32} {σ : zS}
    (H : CT g l M_X6_angleProblem 0 [.int x1] σ (zQi (fun v1 τ1 => CT g l M_X6_refuse 1 [.int v1] τ1 (zQv (fun τ2 => L_X6_turnsNeeded_13 g l K X x1 x2 (-1) (-4) τ2) (fun E τ => X E τ))) (fun E τ => X E τ))) :
    CT g l M_X6_turnsNeeded 1 [.ref (zad g 0), .int x1, .int x2] σ (zQi K X) := by
  refine CT_of rfl (by decide) (Nat.le_of_ble_eq_true rfl) ?_
  change EV _ _ _ _ _ 0 [(0, .ref (zad g 0)), (1, .int x1), (2, .int x2)] [] _
  refine e_iload_n dX6_turnsNeeded_0 rfl 1 rfl ?_
  refine e_callSi (j1 := 0) (j2 := 1) (av := [.int x1]) rfl H i_X6_angleProblem rfl s_X6_angleProblem q_X6_229 (by decide) (by decide) (Nat.le_of_ble_eq_true rfl) dX6_turnsNeeded_1 (fun v1 τ1 H => ?_) (fun E τ H => H)
  refine e_callSv (j1 := 1) (j2 := 0) (av := [.int v1]) rfl H i_X6_refuse rfl s_X6_refuse q_X6_166 (by decide) (by decide) (Nat.le_of_ble_eq_true rfl) dX6_turnsNeeded_4 (fun τ2 H => ?_) (fun E τ H => H)
  refine e_iconst (v := (-1)) dX6_turnsNeeded_7 (by decide) ?_
  refine e_istore_n (ls' := [(3, .int (-1)), (0, .ref (zad g 0)), (1, .int x1), (2, .int x2)]) dX6_turnsNeeded_8 rfl (by decide) rfl ?_
  refine e_bipush (v := (-4)) dX6_turnsNeeded_9 (by decide) ?_
  refine e_istore (ls' := [(4, .int (-4)), (3, .int (-1)), (0, .ref (zad g 0)), (1, .int x1), (2, .int x2)]) dX6_turnsNeeded_11 (by decide) rfl ?_
  refine e_ls [2, 3, 4, 1, 0] rfl ?_
  exact H
set_option maxRecDepth 20000 in
set_option maxHeartbeats 2000000 in
theorem b_X6_turnsNeeded_13 {g : zG} {l : Launch} {K : Int32 → zS → Prop} {X : String → zS → Prop} {y1 : Int32} {y2 : Int32} {y3 : Int32} {y4 : Int32} {σ : zS}
    (H : ((4 < y4 → K y3 σ) ∧ (¬ 4 < y4 → CT g l M_X0_turnsTo 0 [.ref (zad g 73), .int y4] σ (zQi (fun v2 τ2 => CT g l M_J7_fill_53178 0 [.ref (zad g 22), .int y4] τ2 (zQv (fun τ3 => CT g l M_X5_look 0 [.ref (zad g 18), .ref (zad g 22), .int y1] τ3 (zQv (fun τ4 => ((y3 = (-1) → ((v2 = (-1) → L_X6_turnsNeeded_13 g l K X y1 y2 y3 (y4 + 1) τ4) ∧ (¬ v2 = (-1) → CT g l M_X5_isWhole 0 [.ref (zad g 18), .int y2] τ4 (zQi (fun v8 τ8 => ((v8 = 0 → L_X6_turnsNeeded_13 g l K X y1 y2 y3 (y4 + 1) τ8) ∧ (¬ v8 = 0 → L_X6_turnsNeeded_13 g l K X y1 y2 v2 (y4 + 1) τ8))) (fun E τ => X E τ))))) ∧ (¬ y3 = (-1) → ((y3 ≤ v2 → ((v2 = (-1) → L_X6_turnsNeeded_13 g l K X y1 y2 y3 (y4 + 1) τ4) ∧ (¬ v2 = (-1) → L_X6_turnsNeeded_13 g l K X y1 y2 y3 (y4 + 1) τ4))) ∧ (¬ y3 ≤ v2 → ((v2 = (-1) → L_X6_turnsNeeded_13 g l K X y1 y2 y3 (y4 + 1) τ4) ∧ (¬ v2 = (-1) → CT g l M_X5_isWhole 0 [.ref (zad g 18), .int y2] τ4 (zQi (fun v15 τ15 => ((v15 = 0 → L_X6_turnsNeeded_13 g l K X y1 y2 y3 (y4 + 1) τ15) ∧ (¬ v15 = 0 → L_X6_turnsNeeded_13 g l K X y1 y2 v2 (y4 + 1) τ15))) (fun E τ => X E τ))))))))) (fun E τ => X E τ))) (fun E τ => X E τ))) (fun E τ => X E τ))))) :
    L_X6_turnsNeeded_13 g l K X y1 y2 y3 y4 σ := by
  refine e_iload dX6_turnsNeeded_13 4 rfl ?_
  refine e_iconst (v := 4) dX6_turnsNeeded_15 (by decide) ?_
  refine e_icmp_gt (tgt := 100) dX6_turnsNeeded_16 (by decide) (fun h1 => ?_) (fun h1 => ?_)
  · replace H := H.1 h1
    refine e_iload_n dX6_turnsNeeded_100 rfl 3 rfl ?_
    exact e_iret rfl dX6_turnsNeeded_101 H
  · replace H := H.2 h1
    refine e_aload_n dX6_turnsNeeded_19 rfl 0 rfl ?_
    refine fg_X6_35 rfl dX6_turnsNeeded_20 ?_
    refine e_iload dX6_turnsNeeded_23 4 rfl ?_
    refine e_callVi (j1 := 0) (j2 := 0) (av := [.int y4]) rfl (zB_s0 zB_73) (zB_l0 zB_73) rfl rfl H i_X0_turnsTo rfl n_X0_turnsTo v_X0_turnsTo q_X6_302 (by decide) (by decide) (Nat.le_of_ble_eq_true rfl) dX6_turnsNeeded_25 (fun v2 τ2 H => ?_) (fun E τ H => H)
    refine e_istore (ls' := [(5, .int v2), (0, .ref (zad g 0)), (1, .int y1), (2, .int y2), (3, .int y3), (4, .int y4)]) dX6_turnsNeeded_28 (by decide) rfl ?_
    refine e_aload_n dX6_turnsNeeded_30 rfl 1 rfl ?_
    refine fg_X6_58 rfl dX6_turnsNeeded_31 ?_
    refine e_iload dX6_turnsNeeded_34 5 rfl ?_
    refine e_callSv (j1 := 0) (j2 := 0) (av := [.ref (zad g 22), .int y4]) rfl H i_J7_fill_53178 rfl s_J7_fill_53178 q_X6_305 (by decide) (by decide) (Nat.le_of_ble_eq_true rfl) dX6_turnsNeeded_36 (fun τ3 H => ?_) (fun E τ H => H)
    refine e_aload_n dX6_turnsNeeded_39 rfl 1 rfl ?_
    refine fg_X6_54 rfl dX6_turnsNeeded_40 ?_
    refine e_aload_n dX6_turnsNeeded_43 rfl 1 rfl ?_
    refine fg_X6_58 rfl dX6_turnsNeeded_44 ?_
    refine e_iload_n dX6_turnsNeeded_47 rfl 2 rfl ?_
    refine e_callVv (j1 := 0) (j2 := 0) (av := [.ref (zad g 22), .int y1]) rfl rfl (Nat.le_of_ble_eq_true rfl) rfl rfl H i_X5_look rfl n_X5_look v_X5_look q_X6_232 (by decide) (by decide) (Nat.le_of_ble_eq_true rfl) dX6_turnsNeeded_48 (fun τ4 H => ?_) (fun E τ H => H)
    refine e_iload_n dX6_turnsNeeded_51 rfl 4 rfl ?_
    refine e_iconst (v := (-1)) dX6_turnsNeeded_52 (by decide) ?_
    refine e_icmp_eq (tgt := 62) dX6_turnsNeeded_53 (by decide) (fun h5 => ?_) (fun h5 => ?_)
    · replace H := H.1 h5
      refine e_iconst (v := 1) dX6_turnsNeeded_62 (by decide) ?_
      refine e_goto (tgt := 67) dX6_turnsNeeded_63 (by decide) ?_
      refine e_istore (ls' := [(6, .int 1), (5, .int v2), (0, .ref (zad g 0)), (1, .int y1), (2, .int y2), (3, .int y3), (4, .int y4)]) dX6_turnsNeeded_67 (by decide) rfl ?_
      refine e_iload dX6_turnsNeeded_69 1 rfl ?_
      refine e_iconst (v := (-1)) dX6_turnsNeeded_71 (by decide) ?_
      refine e_icmp_eq (tgt := 94) dX6_turnsNeeded_72 (by decide) (fun h6 => ?_) (fun h6 => ?_)
      · replace H := H.1 h6
        refine e_iinc (j := 6) (v := (y4 + 1)) (ls' := [(4, .int (y4 + 1)), (6, .int 1), (5, .int v2), (0, .ref (zad g 0)), (1, .int y1), (2, .int y2), (3, .int y3)]) dX6_turnsNeeded_94 rfl rfl (by decide) rfl ?_
        refine e_goto (tgt := 13) dX6_turnsNeeded_97 (by decide) ?_
        refine e_ls [3, 4, 5, 6, 0] rfl ?_
        exact H
      · replace H := H.2 h6
        refine e_iload dX6_turnsNeeded_75 0 rfl ?_
        refine e_if_eq (tgt := 94) dX6_turnsNeeded_77 (by decide) (fun h7 => ?_) (fun h7 => ?_)
        · exact absurd h7 (by decide)
        · refine e_aload_n dX6_turnsNeeded_80 rfl 2 rfl ?_
          refine fg_X6_54 rfl dX6_turnsNeeded_81 ?_
          refine e_iload_n dX6_turnsNeeded_84 rfl 4 rfl ?_
          refine e_callVi (j1 := 0) (j2 := 0) (av := [.int y2]) rfl rfl (Nat.le_of_ble_eq_true rfl) rfl rfl H i_X5_isWhole rfl n_X5_isWhole v_X5_isWhole q_X6_252 (by decide) (by decide) (Nat.le_of_ble_eq_true rfl) dX6_turnsNeeded_85 (fun v8 τ8 H => ?_) (fun E τ H => H)
          refine e_if_eq (tgt := 94) dX6_turnsNeeded_88 (by decide) (fun h9 => ?_) (fun h9 => ?_)
          · replace H := H.1 h9
            refine e_iinc (j := 6) (v := (y4 + 1)) (ls' := [(4, .int (y4 + 1)), (6, .int 1), (5, .int v2), (0, .ref (zad g 0)), (1, .int y1), (2, .int y2), (3, .int y3)]) dX6_turnsNeeded_94 rfl rfl (by decide) rfl ?_
            refine e_goto (tgt := 13) dX6_turnsNeeded_97 (by decide) ?_
            refine e_ls [3, 4, 5, 6, 0] rfl ?_
            exact H
          · replace H := H.2 h9
            refine e_iload dX6_turnsNeeded_91 1 rfl ?_
            refine e_istore_n (ls' := [(3, .int v2), (6, .int 1), (5, .int v2), (0, .ref (zad g 0)), (1, .int y1), (2, .int y2), (4, .int y4)]) dX6_turnsNeeded_93 rfl (by decide) rfl ?_
            refine e_iinc (j := 6) (v := (y4 + 1)) (ls' := [(4, .int (y4 + 1)), (3, .int v2), (6, .int 1), (5, .int v2), (0, .ref (zad g 0)), (1, .int y1), (2, .int y2)]) dX6_turnsNeeded_94 rfl rfl (by decide) rfl ?_
            refine e_goto (tgt := 13) dX6_turnsNeeded_97 (by decide) ?_
            refine e_ls [4, 5, 6, 1, 0] rfl ?_
            exact H
    · replace H := H.2 h5
      refine e_iload dX6_turnsNeeded_56 0 rfl ?_
      refine e_iload_n dX6_turnsNeeded_58 rfl 4 rfl ?_
      refine e_icmp_ge (tgt := 66) dX6_turnsNeeded_59 (by decide) (fun h10 => ?_) (fun h10 => ?_)
      · replace H := H.1 h10
        refine e_iconst (v := 0) dX6_turnsNeeded_66 (by decide) ?_
        refine e_istore (ls' := [(6, .int 0), (5, .int v2), (0, .ref (zad g 0)), (1, .int y1), (2, .int y2), (3, .int y3), (4, .int y4)]) dX6_turnsNeeded_67 (by decide) rfl ?_
        refine e_iload dX6_turnsNeeded_69 1 rfl ?_
        refine e_iconst (v := (-1)) dX6_turnsNeeded_71 (by decide) ?_
        refine e_icmp_eq (tgt := 94) dX6_turnsNeeded_72 (by decide) (fun h11 => ?_) (fun h11 => ?_)
        · replace H := H.1 h11
          refine e_iinc (j := 6) (v := (y4 + 1)) (ls' := [(4, .int (y4 + 1)), (6, .int 0), (5, .int v2), (0, .ref (zad g 0)), (1, .int y1), (2, .int y2), (3, .int y3)]) dX6_turnsNeeded_94 rfl rfl (by decide) rfl ?_
          refine e_goto (tgt := 13) dX6_turnsNeeded_97 (by decide) ?_
          refine e_ls [3, 4, 5, 6, 0] rfl ?_
          exact H
        · replace H := H.2 h11
          refine e_iload dX6_turnsNeeded_75 0 rfl ?_
          refine e_if_eq (tgt := 94) dX6_turnsNeeded_77 (by decide) (fun h12 => ?_) (fun h12 => ?_)
          · refine e_iinc (j := 6) (v := (y4 + 1)) (ls' := [(4, .int (y4 + 1)), (6, .int 0), (5, .int v2), (0, .ref (zad g 0)), (1, .int y1), (2, .int y2), (3, .int y3)]) dX6_turnsNeeded_94 rfl rfl (by decide) rfl ?_
            refine e_goto (tgt := 13) dX6_turnsNeeded_97 (by decide) ?_
            refine e_ls [3, 4, 5, 6, 0] rfl ?_
            exact H
          · exact absurd h12 (by decide)
      · replace H := H.2 h10
        refine e_iconst (v := 1) dX6_turnsNeeded_62 (by decide) ?_
        refine e_goto (tgt := 67) dX6_turnsNeeded_63 (by decide) ?_
        refine e_istore (ls' := [(6, .int 1), (5, .int v2), (0, .ref (zad g 0)), (1, .int y1), (2, .int y2), (3, .int y3), (4, .int y4)]) dX6_turnsNeeded_67 (by decide) rfl ?_
        refine e_iload dX6_turnsNeeded_69 1 rfl ?_
        refine e_iconst (v := (-1)) dX6_turnsNeeded_71 (by decide) ?_
        refine e_icmp_eq (tgt := 94) dX6_turnsNeeded_72 (by decide) (fun h13 => ?_) (fun h13 => ?_)
        · replace H := H.1 h13
          refine e_iinc (j := 6) (v := (y4 + 1)) (ls' := [(4, .int (y4 + 1)), (6, .int 1), (5, .int v2), (0, .ref (zad g 0)), (1, .int y1), (2, .int y2), (3, .int y3)]) dX6_turnsNeeded_94 rfl rfl (by decide) rfl ?_
          refine e_goto (tgt := 13) dX6_turnsNeeded_97 (by decide) ?_
          refine e_ls [3, 4, 5, 6, 0] rfl ?_
          exact H
        · replace H := H.2 h13
          refine e_iload dX6_turnsNeeded_75 0 rfl ?_
          refine e_if_eq (tgt := 94) dX6_turnsNeeded_77 (by decide) (fun h14 => ?_) (fun h14 => ?_)
          · exact absurd h14 (by decide)
          · refine e_aload_n dX6_turnsNeeded_80 rfl 2 rfl ?_
            refine fg_X6_54 rfl dX6_turnsNeeded_81 ?_
            refine e_iload_n dX6_turnsNeeded_84 rfl 4 rfl ?_
            refine e_callVi (j1 := 0) (j2 := 0) (av := [.int y2]) rfl rfl (Nat.le_of_ble_eq_true rfl) rfl rfl H i_X5_isWhole rfl n_X5_isWhole v_X5_isWhole q_X6_252 (by decide) (by decide) (Nat.le_of_ble_eq_true rfl) dX6_turnsNeeded_85 (fun v15 τ15 H => ?_) (fun E τ H => H)
            refine e_if_eq (tgt := 94) dX6_turnsNeeded_88 (by decide) (fun h16 => ?_) (fun h16 => ?_)
            · replace H := H.1 h16
              refine e_iinc (j := 6) (v := (y4 + 1)) (ls' := [(4, .int (y4 + 1)), (6, .int 1), (5, .int v2), (0, .ref (zad g 0)), (1, .int y1), (2, .int y2), (3, .int y3)]) dX6_turnsNeeded_94 rfl rfl (by decide) rfl ?_
              refine e_goto (tgt := 13) dX6_turnsNeeded_97 (by decide) ?_
              refine e_ls [3, 4, 5, 6, 0] rfl ?_
              exact H
            · replace H := H.2 h16
              refine e_iload dX6_turnsNeeded_91 1 rfl ?_
              refine e_istore_n (ls' := [(3, .int v2), (6, .int 1), (5, .int v2), (0, .ref (zad g 0)), (1, .int y1), (2, .int y2), (4, .int y4)]) dX6_turnsNeeded_93 rfl (by decide) rfl ?_
              refine e_iinc (j := 6) (v := (y4 + 1)) (ls' := [(4, .int (y4 + 1)), (3, .int v2), (6, .int 1), (5, .int v2), (0, .ref (zad g 0)), (1, .int y1), (2, .int y2)]) dX6_turnsNeeded_94 rfl rfl (by decide) rfl ?_
              refine e_goto (tgt := 13) dX6_turnsNeeded_97 (by decide) ?_
              refine e_ls [4, 5, 6, 1, 0] rfl ?_
              exact H
set_option maxRecDepth 20000 in
set_option maxHeartbeats 2000000 in
theorem b_X6_pull {g : zG} {l : Launch} {K : Int32 → zS → Prop} {X : String → zS → Prop} {x1 : Int32} {σ : zS}
    (H : CT g l M_X6_pullProblem 0 [.int x1] σ (zQi (fun v1 τ1 => CT g l M_X6_refuse 1 [.int v1] τ1 (zQv (fun τ2 => CT g l M_X1_keep 0 [.ref (zad g 16), .ref (zad g 73)] τ2 (zQv (fun τ3 => CT g l M_X0_pullCord 0 [.ref (zad g 73), .int x1] τ3 (zQi (fun v4 τ4 => K v4 τ4) (fun E τ => X E τ))) (fun E τ => X E τ))) (fun E τ => X E τ))) (fun E τ => X E τ))) :
    CT g l M_X6_pull 1 [.ref (zad g 0), .int x1] σ (zQi K X) := by
  refine CT_of rfl (by decide) (Nat.le_of_ble_eq_true rfl) ?_
  change EV _ _ _ _ _ 0 [(0, .ref (zad g 0)), (1, .int x1)] [] _
  refine e_iload_n dX6_pull_0 rfl 1 rfl ?_
  refine e_callSi (j1 := 0) (j2 := 1) (av := [.int x1]) rfl H i_X6_pullProblem rfl s_X6_pullProblem q_X6_310 (by decide) (by decide) (Nat.le_of_ble_eq_true rfl) dX6_pull_1 (fun v1 τ1 H => ?_) (fun E τ H => H)
  refine e_callSv (j1 := 1) (j2 := 0) (av := [.int v1]) rfl H i_X6_refuse rfl s_X6_refuse q_X6_166 (by decide) (by decide) (Nat.le_of_ble_eq_true rfl) dX6_pull_4 (fun τ2 H => ?_) (fun E τ H => H)
  refine e_aload_n dX6_pull_7 rfl 0 rfl ?_
  refine fg_X6_45 rfl dX6_pull_8 ?_
  refine e_aload_n dX6_pull_11 rfl 0 rfl ?_
  refine fg_X6_35 rfl dX6_pull_12 ?_
  refine e_callVv (j1 := 0) (j2 := 0) (av := [.ref (zad g 73)]) rfl rfl (Nat.le_of_ble_eq_true rfl) rfl rfl H i_X1_keep rfl n_X1_keep v_X1_keep q_X6_107 (by decide) (by decide) (Nat.le_of_ble_eq_true rfl) dX6_pull_15 (fun τ3 H => ?_) (fun E τ H => H)
  refine e_aload_n dX6_pull_18 rfl 0 rfl ?_
  refine fg_X6_35 rfl dX6_pull_19 ?_
  refine e_iload_n dX6_pull_22 rfl 1 rfl ?_
  refine e_callVi (j1 := 0) (j2 := 0) (av := [.int x1]) rfl (zB_s0 zB_73) (zB_l0 zB_73) rfl rfl H i_X0_pullCord rfl n_X0_pullCord v_X0_pullCord q_X6_313 (by decide) (by decide) (Nat.le_of_ble_eq_true rfl) dX6_pull_23 (fun v4 τ4 H => ?_) (fun E τ H => H)
  exact e_iret rfl dX6_pull_26 H
set_option maxRecDepth 20000 in
set_option maxHeartbeats 2000000 in
theorem b_X6_turn {g : zG} {l : Launch} {K : Int32 → zS → Prop} {X : String → zS → Prop} {x1 : Int32} {x2 : Int32} {σ : zS}
    (H : CT g l M_X6_turnProblem 0 [.ref (zad g 0), .int x1, .int x2] σ (zQi (fun v1 τ1 => CT g l M_X6_refuse 1 [.int v1] τ1 (zQv (fun τ2 => CT g l M_X1_keep 0 [.ref (zad g 16), .ref (zad g 73)] τ2 (zQv (fun τ3 => (vp_in x1 10 ∧ (vp_in x1 10 ∧ (∀ σ4 : zS, σ4 = zup τ3 (73 + 3) (Int32.toNatClampNeg x1) x2 → K (τ3.1 (73 + 3) (Int32.toNatClampNeg x1)) σ4)))) (fun E τ => X E τ))) (fun E τ => X E τ))) (fun E τ => X E τ))) :
    CT g l M_X6_turn 1 [.ref (zad g 0), .int x1, .int x2] σ (zQi K X) := by
  refine CT_of rfl (by decide) (Nat.le_of_ble_eq_true rfl) ?_
  change EV _ _ _ _ _ 0 [(0, .ref (zad g 0)), (1, .int x1), (2, .int x2)] [] _
  refine e_aload_n dX6_turn_0 rfl 0 rfl ?_
  refine e_iload_n dX6_turn_1 rfl 1 rfl ?_
  refine e_iload_n dX6_turn_2 rfl 2 rfl ?_
  refine e_callVi (j1 := 0) (j2 := 1) (av := [.int x1, .int x2]) rfl rfl (Nat.le_of_ble_eq_true rfl) rfl rfl H i_X6_turnProblem rfl n_X6_turnProblem v_X6_turnProblem q_X6_316 (by decide) (by decide) (Nat.le_of_ble_eq_true rfl) dX6_turn_3 (fun v1 τ1 H => ?_) (fun E τ H => H)
  refine e_callSv (j1 := 1) (j2 := 0) (av := [.int v1]) rfl H i_X6_refuse rfl s_X6_refuse q_X6_166 (by decide) (by decide) (Nat.le_of_ble_eq_true rfl) dX6_turn_6 (fun τ2 H => ?_) (fun E τ H => H)
  refine e_aload_n dX6_turn_9 rfl 0 rfl ?_
  refine fg_X6_45 rfl dX6_turn_10 ?_
  refine e_aload_n dX6_turn_13 rfl 0 rfl ?_
  refine fg_X6_35 rfl dX6_turn_14 ?_
  refine e_callVv (j1 := 0) (j2 := 0) (av := [.ref (zad g 73)]) rfl rfl (Nat.le_of_ble_eq_true rfl) rfl rfl H i_X1_keep rfl n_X1_keep v_X1_keep q_X6_107 (by decide) (by decide) (Nat.le_of_ble_eq_true rfl) dX6_turn_17 (fun τ3 H => ?_) (fun E τ H => H)
  refine e_aload_n dX6_turn_20 rfl 0 rfl ?_
  refine fg_X6_35 rfl dX6_turn_21 ?_
  refine fg_X6_175 (zB_s0 zB_73) (zB_l0 zB_73) rfl dX6_turn_24 ?_
  refine e_iload_n dX6_turn_27 rfl 1 rfl ?_
  refine e_iald (n := 10) (zB_s3 zB_73) (zB_l3 zB_73) H.1 dX6_turn_28 ?_
  replace H := H.2
  refine e_istore_n (ls' := [(3, .int (τ3.1 (73 + 3) (Int32.toNatClampNeg x1))), (0, .ref (zad g 0)), (1, .int x1), (2, .int x2)]) dX6_turn_29 rfl (by decide) rfl ?_
  refine e_aload_n dX6_turn_30 rfl 1 rfl ?_
  refine fg_X6_35 rfl dX6_turn_31 ?_
  refine fg_X6_175 (zB_s0 zB_73) (zB_l0 zB_73) rfl dX6_turn_34 ?_
  refine e_iload_n dX6_turn_37 rfl 2 rfl ?_
  refine e_iload_n dX6_turn_38 rfl 3 rfl ?_
  refine e_iast (n := 10) (zB_s3 zB_73) (zB_l3 zB_73) H.1 dX6_turn_39 ?_
  replace H := H.2
  replace H := H _ rfl
  generalize zup τ3 (73 + 3) (Int32.toNatClampNeg x1) x2 = σ4 at H ⊢
  refine e_iload_n dX6_turn_40 rfl 0 rfl ?_
  exact e_iret rfl dX6_turn_41 H
set_option maxRecDepth 20000 in
set_option maxHeartbeats 2000000 in
theorem b_X6_tie {g : zG} {l : Launch} {K : Int32 → zS → Prop} {X : String → zS → Prop} {x1 : Int32} {x2 : Int32} {σ : zS}
    (H : CT g l M_X6_tieProblem 0 [.ref (zad g 0), .int x1, .int x2] σ (zQi (fun v1 τ1 => CT g l M_X6_refuse 1 [.int v1] τ1 (zQv (fun τ2 => ((¬ v1 = 4 → CT g l M_X1_keep 0 [.ref (zad g 16), .ref (zad g 73)] τ2 (zQv (fun τ4 => CT g l M_X0_setTied 0 [.ref (zad g 73), .int x1, .int x2] τ4 (zQv (fun τ5 => K 1 τ5) (fun E τ => X E τ))) (fun E τ => X E τ))) ∧ (v1 = 4 → K 0 τ2))) (fun E τ => X E τ))) (fun E τ => X E τ))) :
    CT g l M_X6_tie 1 [.ref (zad g 0), .int x1, .int x2] σ (zQi K X) := by
  refine CT_of rfl (by decide) (Nat.le_of_ble_eq_true rfl) ?_
  change EV _ _ _ _ _ 0 [(0, .ref (zad g 0)), (1, .int x1), (2, .int x2)] [] _
  refine e_aload_n dX6_tie_0 rfl 0 rfl ?_
  refine e_iload_n dX6_tie_1 rfl 1 rfl ?_
  refine e_iload_n dX6_tie_2 rfl 2 rfl ?_
  refine e_callVi (j1 := 0) (j2 := 1) (av := [.int x1, .int x2]) rfl rfl (Nat.le_of_ble_eq_true rfl) rfl rfl H i_X6_tieProblem rfl n_X6_tieProblem v_X6_tieProblem q_X6_319 (by decide) (by decide) (Nat.le_of_ble_eq_true rfl) dX6_tie_3 (fun v1 τ1 H => ?_) (fun E τ H => H)
  refine e_istore_n (ls' := [(3, .int v1), (0, .ref (zad g 0)), (1, .int x1), (2, .int x2)]) dX6_tie_6 rfl (by decide) rfl ?_
  refine e_iload_n dX6_tie_7 rfl 0 rfl ?_
  refine e_callSv (j1 := 1) (j2 := 0) (av := [.int v1]) rfl H i_X6_refuse rfl s_X6_refuse q_X6_166 (by decide) (by decide) (Nat.le_of_ble_eq_true rfl) dX6_tie_8 (fun τ2 H => ?_) (fun E τ H => H)
  refine e_iload_n dX6_tie_11 rfl 0 rfl ?_
  refine e_iconst (v := 4) dX6_tie_12 (by decide) ?_
  refine e_icmp_ne (tgt := 18) dX6_tie_13 (by decide) (fun h3 => ?_) (fun h3 => ?_)
  · replace H := H.1 h3
    refine e_aload_n dX6_tie_18 rfl 1 rfl ?_
    refine fg_X6_45 rfl dX6_tie_19 ?_
    refine e_aload_n dX6_tie_22 rfl 1 rfl ?_
    refine fg_X6_35 rfl dX6_tie_23 ?_
    refine e_callVv (j1 := 0) (j2 := 0) (av := [.ref (zad g 73)]) rfl rfl (Nat.le_of_ble_eq_true rfl) rfl rfl H i_X1_keep rfl n_X1_keep v_X1_keep q_X6_107 (by decide) (by decide) (Nat.le_of_ble_eq_true rfl) dX6_tie_26 (fun τ4 H => ?_) (fun E τ H => H)
    refine e_aload_n dX6_tie_29 rfl 1 rfl ?_
    refine fg_X6_35 rfl dX6_tie_30 ?_
    refine e_iload_n dX6_tie_33 rfl 2 rfl ?_
    refine e_iload_n dX6_tie_34 rfl 3 rfl ?_
    refine e_callVv (j1 := 0) (j2 := 0) (av := [.int x1, .int x2]) rfl (zB_s0 zB_73) (zB_l0 zB_73) rfl rfl H i_X0_setTied rfl n_X0_setTied v_X0_setTied q_X6_322 (by decide) (by decide) (Nat.le_of_ble_eq_true rfl) dX6_tie_35 (fun τ5 H => ?_) (fun E τ H => H)
    refine e_iconst (v := 1) dX6_tie_38 (by decide) ?_
    exact e_zret rfl rfl dX6_tie_39 H
  · replace H := H.2 h3
    refine e_iconst (v := 0) dX6_tie_16 (by decide) ?_
    exact e_zret rfl rfl dX6_tie_17 H
set_option maxRecDepth 20000 in
set_option maxHeartbeats 2000000 in
theorem b_X6_paint {g : zG} {l : Launch} {K : Int32 → zS → Prop} {X : String → zS → Prop} {x1 : Int32} {x2 : Int32} {σ : zS}
    (H : CT g l M_X6_paintProblem 0 [.ref (zad g 0), .int x1, .int x2] σ (zQi (fun v1 τ1 => CT g l M_X6_refuse 1 [.int v1] τ1 (zQv (fun τ2 => CT g l M_X1_keep 0 [.ref (zad g 16), .ref (zad g 73)] τ2 (zQv (fun τ3 => CT g l M_X0_paintFace 0 [.ref (zad g 73), .int x1, .int x2] τ3 (zQi (fun v4 τ4 => K v4 τ4) (fun E τ => X E τ))) (fun E τ => X E τ))) (fun E τ => X E τ))) (fun E τ => X E τ))) :
    CT g l M_X6_paint 1 [.ref (zad g 0), .int x1, .int x2] σ (zQi K X) := by
  refine CT_of rfl (by decide) (Nat.le_of_ble_eq_true rfl) ?_
  change EV _ _ _ _ _ 0 [(0, .ref (zad g 0)), (1, .int x1), (2, .int x2)] [] _
  refine e_aload_n dX6_paint_0 rfl 0 rfl ?_
  refine e_iload_n dX6_paint_1 rfl 1 rfl ?_
  refine e_iload_n dX6_paint_2 rfl 2 rfl ?_
  refine e_callVi (j1 := 0) (j2 := 1) (av := [.int x1, .int x2]) rfl rfl (Nat.le_of_ble_eq_true rfl) rfl rfl H i_X6_paintProblem rfl n_X6_paintProblem v_X6_paintProblem q_X6_326 (by decide) (by decide) (Nat.le_of_ble_eq_true rfl) dX6_paint_3 (fun v1 τ1 H => ?_) (fun E τ H => H)
  refine e_callSv (j1 := 1) (j2 := 0) (av := [.int v1]) rfl H i_X6_refuse rfl s_X6_refuse q_X6_166 (by decide) (by decide) (Nat.le_of_ble_eq_true rfl) dX6_paint_6 (fun τ2 H => ?_) (fun E τ H => H)
  refine e_aload_n dX6_paint_9 rfl 0 rfl ?_
  refine fg_X6_45 rfl dX6_paint_10 ?_
  refine e_aload_n dX6_paint_13 rfl 0 rfl ?_
  refine fg_X6_35 rfl dX6_paint_14 ?_
  refine e_callVv (j1 := 0) (j2 := 0) (av := [.ref (zad g 73)]) rfl rfl (Nat.le_of_ble_eq_true rfl) rfl rfl H i_X1_keep rfl n_X1_keep v_X1_keep q_X6_107 (by decide) (by decide) (Nat.le_of_ble_eq_true rfl) dX6_paint_17 (fun τ3 H => ?_) (fun E τ H => H)
  refine e_aload_n dX6_paint_20 rfl 0 rfl ?_
  refine fg_X6_35 rfl dX6_paint_21 ?_
  refine e_iload_n dX6_paint_24 rfl 1 rfl ?_
  refine e_iload_n dX6_paint_25 rfl 2 rfl ?_
  refine e_callVi (j1 := 0) (j2 := 0) (av := [.int x1, .int x2]) rfl (zB_s0 zB_73) (zB_l0 zB_73) rfl rfl H i_X0_paintFace rfl n_X0_paintFace v_X0_paintFace q_X6_329 (by decide) (by decide) (Nat.le_of_ble_eq_true rfl) dX6_paint_26 (fun v4 τ4 H => ?_) (fun E τ H => H)
  exact e_iret rfl dX6_paint_29 H
set_option maxRecDepth 20000 in
set_option maxHeartbeats 2000000 in
theorem b_X6_dab {g : zG} {l : Launch} {K : Int32 → zS → Prop} {X : String → zS → Prop} {x1 : Int32} {x2 : Int32} {x3 : Int32} {x4 : Int32} {x5 : Int32} {σ : zS}
    (H : CT g l M_X6_dabProblem 0 [.ref (zad g 0), .int x1, .int x3, .int x4, .int x5] σ (zQi (fun v1 τ1 => CT g l M_X6_refuse 1 [.int v1] τ1 (zQv (fun τ2 => CT g l M_X1_keep 0 [.ref (zad g 16), .ref (zad g 73)] τ2 (zQv (fun τ3 => CT g l M_X0_dabCell 0 [.ref (zad g 73), .int x1, .int x2, .int x3, .int x4, .int x5] τ3 (zQi (fun v4 τ4 => K v4 τ4) (fun E τ => X E τ))) (fun E τ => X E τ))) (fun E τ => X E τ))) (fun E τ => X E τ))) :
    CT g l M_X6_dab 1 [.ref (zad g 0), .int x1, .int x2, .int x3, .int x4, .int x5] σ (zQi K X) := by
  refine CT_of rfl (by decide) (Nat.le_of_ble_eq_true rfl) ?_
  change EV _ _ _ _ _ 0 [(0, .ref (zad g 0)), (1, .int x1), (2, .int x2), (3, .int x3), (4, .int x4), (5, .int x5)] [] _
  refine e_aload_n dX6_dab_0 rfl 0 rfl ?_
  refine e_iload_n dX6_dab_1 rfl 1 rfl ?_
  refine e_iload_n dX6_dab_2 rfl 3 rfl ?_
  refine e_iload dX6_dab_3 4 rfl ?_
  refine e_iload dX6_dab_5 5 rfl ?_
  refine e_callVi (j1 := 0) (j2 := 1) (av := [.int x1, .int x3, .int x4, .int x5]) rfl rfl (Nat.le_of_ble_eq_true rfl) rfl rfl H i_X6_dabProblem rfl n_X6_dabProblem v_X6_dabProblem q_X6_332 (by decide) (by decide) (Nat.le_of_ble_eq_true rfl) dX6_dab_7 (fun v1 τ1 H => ?_) (fun E τ H => H)
  refine e_callSv (j1 := 1) (j2 := 0) (av := [.int v1]) rfl H i_X6_refuse rfl s_X6_refuse q_X6_166 (by decide) (by decide) (Nat.le_of_ble_eq_true rfl) dX6_dab_10 (fun τ2 H => ?_) (fun E τ H => H)
  refine e_aload_n dX6_dab_13 rfl 0 rfl ?_
  refine fg_X6_45 rfl dX6_dab_14 ?_
  refine e_aload_n dX6_dab_17 rfl 0 rfl ?_
  refine fg_X6_35 rfl dX6_dab_18 ?_
  refine e_callVv (j1 := 0) (j2 := 0) (av := [.ref (zad g 73)]) rfl rfl (Nat.le_of_ble_eq_true rfl) rfl rfl H i_X1_keep rfl n_X1_keep v_X1_keep q_X6_107 (by decide) (by decide) (Nat.le_of_ble_eq_true rfl) dX6_dab_21 (fun τ3 H => ?_) (fun E τ H => H)
  refine e_aload_n dX6_dab_24 rfl 0 rfl ?_
  refine fg_X6_35 rfl dX6_dab_25 ?_
  refine e_iload_n dX6_dab_28 rfl 1 rfl ?_
  refine e_iload_n dX6_dab_29 rfl 2 rfl ?_
  refine e_iload_n dX6_dab_30 rfl 3 rfl ?_
  refine e_iload dX6_dab_31 4 rfl ?_
  refine e_iload dX6_dab_33 5 rfl ?_
  refine e_callVi (j1 := 0) (j2 := 0) (av := [.int x1, .int x2, .int x3, .int x4, .int x5]) rfl (zB_s0 zB_73) (zB_l0 zB_73) rfl rfl H i_X0_dabCell rfl n_X0_dabCell v_X0_dabCell q_X6_336 (by decide) (by decide) (Nat.le_of_ble_eq_true rfl) dX6_dab_35 (fun v4 τ4 H => ?_) (fun E τ H => H)
  exact e_iret rfl dX6_dab_38 H
set_option maxRecDepth 20000 in
set_option maxHeartbeats 2000000 in
theorem b_X6_swap {g : zG} {l : Launch} {K : Int32 → zS → Prop} {X : String → zS → Prop} {x1 : Int32} {σ : zS}
    (H : CT g l M_X6_swapProblem 0 [.ref (zad g 0), .int x1] σ (zQi (fun v1 τ1 => CT g l M_X6_refuse 1 [.int v1] τ1 (zQv (fun τ2 => CT g l M_X1_keep 0 [.ref (zad g 16), .ref (zad g 73)] τ2 (zQv (fun τ3 => CT g l M_X0_swapFaces 0 [.ref (zad g 73), .int x1] τ3 (zQi (fun v4 τ4 => K v4 τ4) (fun E τ => X E τ))) (fun E τ => X E τ))) (fun E τ => X E τ))) (fun E τ => X E τ))) :
    CT g l M_X6_swap 1 [.ref (zad g 0), .int x1] σ (zQi K X) := by
  refine CT_of rfl (by decide) (Nat.le_of_ble_eq_true rfl) ?_
  change EV _ _ _ _ _ 0 [(0, .ref (zad g 0)), (1, .int x1)] [] _
  refine e_aload_n dX6_swap_0 rfl 0 rfl ?_
  refine e_iload_n dX6_swap_1 rfl 1 rfl ?_
  refine e_callVi (j1 := 0) (j2 := 1) (av := [.int x1]) rfl rfl (Nat.le_of_ble_eq_true rfl) rfl rfl H i_X6_swapProblem rfl n_X6_swapProblem v_X6_swapProblem q_X6_340 (by decide) (by decide) (Nat.le_of_ble_eq_true rfl) dX6_swap_2 (fun v1 τ1 H => ?_) (fun E τ H => H)
  refine e_callSv (j1 := 1) (j2 := 0) (av := [.int v1]) rfl H i_X6_refuse rfl s_X6_refuse q_X6_166 (by decide) (by decide) (Nat.le_of_ble_eq_true rfl) dX6_swap_5 (fun τ2 H => ?_) (fun E τ H => H)
  refine e_aload_n dX6_swap_8 rfl 0 rfl ?_
  refine fg_X6_45 rfl dX6_swap_9 ?_
  refine e_aload_n dX6_swap_12 rfl 0 rfl ?_
  refine fg_X6_35 rfl dX6_swap_13 ?_
  refine e_callVv (j1 := 0) (j2 := 0) (av := [.ref (zad g 73)]) rfl rfl (Nat.le_of_ble_eq_true rfl) rfl rfl H i_X1_keep rfl n_X1_keep v_X1_keep q_X6_107 (by decide) (by decide) (Nat.le_of_ble_eq_true rfl) dX6_swap_16 (fun τ3 H => ?_) (fun E τ H => H)
  refine e_aload_n dX6_swap_19 rfl 0 rfl ?_
  refine fg_X6_35 rfl dX6_swap_20 ?_
  refine e_iload_n dX6_swap_23 rfl 1 rfl ?_
  refine e_callVi (j1 := 0) (j2 := 0) (av := [.int x1]) rfl (zB_s0 zB_73) (zB_l0 zB_73) rfl rfl H i_X0_swapFaces rfl n_X0_swapFaces v_X0_swapFaces q_X6_343 (by decide) (by decide) (Nat.le_of_ble_eq_true rfl) dX6_swap_24 (fun v4 τ4 H => ?_) (fun E τ H => H)
  exact e_iret rfl dX6_swap_27 H
set_option maxRecDepth 20000 in
set_option maxHeartbeats 2000000 in
theorem b_X6_spot {g : zG} {l : Launch} {K : Int32 → zS → Prop} {X : String → zS → Prop} {x1 : Int32} {x2 : Int32} {x3 : Int32} {x4 : Int32} {σ : zS}
    (H : CT g l M_X6_spotProblem 0 [.ref (zad g 0), .int x2, .int x3, .int x4] σ (zQi (fun v1 τ1 => CT g l M_X6_refuse 1 [.int v1] τ1 (zQv (fun τ2 => CT g l M_X1_keep 0 [.ref (zad g 16), .ref (zad g 73)] τ2 (zQv (fun τ3 => CT g l M_X0_addSpot 0 [.ref (zad g 73), .int x1, .int x2, .int x3, .int x4] τ3 (zQi (fun v4 τ4 => K v4 τ4) (fun E τ => X E τ))) (fun E τ => X E τ))) (fun E τ => X E τ))) (fun E τ => X E τ))) :
    CT g l M_X6_spot 1 [.ref (zad g 0), .int x1, .int x2, .int x3, .int x4] σ (zQi K X) := by
  refine CT_of rfl (by decide) (Nat.le_of_ble_eq_true rfl) ?_
  change EV _ _ _ _ _ 0 [(0, .ref (zad g 0)), (1, .int x1), (2, .int x2), (3, .int x3), (4, .int x4)] [] _
  refine e_aload_n dX6_spot_0 rfl 0 rfl ?_
  refine e_iload_n dX6_spot_1 rfl 2 rfl ?_
  refine e_iload_n dX6_spot_2 rfl 3 rfl ?_
  refine e_iload dX6_spot_3 4 rfl ?_
  refine e_callVi (j1 := 0) (j2 := 1) (av := [.int x2, .int x3, .int x4]) rfl rfl (Nat.le_of_ble_eq_true rfl) rfl rfl H i_X6_spotProblem rfl n_X6_spotProblem v_X6_spotProblem q_X6_346 (by decide) (by decide) (Nat.le_of_ble_eq_true rfl) dX6_spot_5 (fun v1 τ1 H => ?_) (fun E τ H => H)
  refine e_callSv (j1 := 1) (j2 := 0) (av := [.int v1]) rfl H i_X6_refuse rfl s_X6_refuse q_X6_166 (by decide) (by decide) (Nat.le_of_ble_eq_true rfl) dX6_spot_8 (fun τ2 H => ?_) (fun E τ H => H)
  refine e_aload_n dX6_spot_11 rfl 0 rfl ?_
  refine fg_X6_45 rfl dX6_spot_12 ?_
  refine e_aload_n dX6_spot_15 rfl 0 rfl ?_
  refine fg_X6_35 rfl dX6_spot_16 ?_
  refine e_callVv (j1 := 0) (j2 := 0) (av := [.ref (zad g 73)]) rfl rfl (Nat.le_of_ble_eq_true rfl) rfl rfl H i_X1_keep rfl n_X1_keep v_X1_keep q_X6_107 (by decide) (by decide) (Nat.le_of_ble_eq_true rfl) dX6_spot_19 (fun τ3 H => ?_) (fun E τ H => H)
  refine e_aload_n dX6_spot_22 rfl 0 rfl ?_
  refine fg_X6_35 rfl dX6_spot_23 ?_
  refine e_iload_n dX6_spot_26 rfl 1 rfl ?_
  refine e_iload_n dX6_spot_27 rfl 2 rfl ?_
  refine e_iload_n dX6_spot_28 rfl 3 rfl ?_
  refine e_iload dX6_spot_29 4 rfl ?_
  refine e_callVi (j1 := 0) (j2 := 0) (av := [.int x1, .int x2, .int x3, .int x4]) rfl (zB_s0 zB_73) (zB_l0 zB_73) rfl rfl H i_X0_addSpot rfl n_X0_addSpot v_X0_addSpot q_X6_350 (by decide) (by decide) (Nat.le_of_ble_eq_true rfl) dX6_spot_31 (fun v4 τ4 H => ?_) (fun E τ H => H)
  exact e_iret rfl dX6_spot_34 H
set_option maxRecDepth 20000 in
set_option maxHeartbeats 2000000 in
theorem b_X6_undo {g : zG} {l : Launch} {K : Int32 → zS → Prop} {X : String → zS → Prop} {σ : zS}
    (H : CT g l M_X1_takeBack 0 [.ref (zad g 16), .ref (zad g 73)] σ (zQi (fun v1 τ1 => ((v1 = 0 → K (-1) τ1) ∧ (¬ v1 = 0 → K (τ1.1 16 1) τ1))) (fun E τ => X E τ))) :
    CT g l M_X6_undo 0 [.ref (zad g 0)] σ (zQi K X) := by
  refine CT_of rfl (by decide) (Nat.le_of_ble_eq_true rfl) ?_
  change EV _ _ _ _ _ 0 [(0, .ref (zad g 0))] [] _
  refine e_aload_n dX6_undo_0 rfl 0 rfl ?_
  refine fg_X6_45 rfl dX6_undo_1 ?_
  refine e_aload_n dX6_undo_4 rfl 0 rfl ?_
  refine fg_X6_35 rfl dX6_undo_5 ?_
  refine e_callVi (j1 := 0) (j2 := 0) (av := [.ref (zad g 73)]) rfl rfl (Nat.le_of_ble_eq_true rfl) rfl rfl H i_X1_takeBack rfl n_X1_takeBack v_X1_takeBack q_X6_370 (by decide) (by decide) (Nat.le_of_ble_eq_true rfl) dX6_undo_8 (fun v1 τ1 H => ?_) (fun E τ H => H)
  refine e_if_eq (tgt := 24) dX6_undo_11 (by decide) (fun h2 => ?_) (fun h2 => ?_)
  · replace H := H.1 h2
    refine e_iconst (v := (-1)) dX6_undo_24 (by decide) ?_
    exact e_iret rfl dX6_undo_25 H
  · replace H := H.2 h2
    refine e_aload_n dX6_undo_14 rfl 0 rfl ?_
    refine fg_X6_45 rfl dX6_undo_15 ?_
    refine fg_X6_157 rfl dX6_undo_18 ?_
    refine e_goto (tgt := 25) dX6_undo_21 (by decide) ?_
    exact e_iret rfl dX6_undo_25 H
set_option maxRecDepth 20000 in
set_option maxHeartbeats 2000000 in
theorem b_X6_refuse {g : zG} {l : Launch} {K : zS → Prop} {X : String → zS → Prop} {x0 : Int32} {σ : zS}
    (H : ((¬ x0 = 1 → ((¬ x0 = 2 → ((¬ x0 = 3 → K σ) ∧ (x0 = 3 → X "java/lang/IllegalStateException" σ))) ∧ (x0 = 2 → X "java/lang/IllegalArgumentException" σ))) ∧ (x0 = 1 → X "java/lang/IndexOutOfBoundsException" σ))) :
    CT g l M_X6_refuse 1 [.int x0] σ (zQv K X) := by
  refine CT_of rfl (by decide) (Nat.le_of_ble_eq_true rfl) ?_
  change EV _ _ _ _ _ 0 [(0, .int x0)] [] _
  refine e_iload_n dX6_refuse_0 rfl 0 rfl ?_
  refine e_iconst (v := 1) dX6_refuse_1 (by decide) ?_
  refine e_icmp_ne (tgt := 16) dX6_refuse_2 (by decide) (fun h1 => ?_) (fun h1 => ?_)
  · replace H := H.1 h1
    refine e_iload_n dX6_refuse_16 rfl 0 rfl ?_
    refine e_iconst (v := 2) dX6_refuse_17 (by decide) ?_
    refine e_icmp_ne (tgt := 32) dX6_refuse_18 (by decide) (fun h2 => ?_) (fun h2 => ?_)
    · replace H := H.1 h2
      refine e_iload_n dX6_refuse_32 rfl 0 rfl ?_
      refine e_iconst (v := 3) dX6_refuse_33 (by decide) ?_
      refine e_icmp_ne (tgt := 48) dX6_refuse_34 (by decide) (fun h3 => ?_) (fun h3 => ?_)
      · replace H := H.1 h3
        exact e_vret rfl dX6_refuse_48 H
      · replace H := H.2 h3
        exact e_throwW (cls := "java/lang/IllegalStateException") (i := 24) (by decide +kernel) (by decide +kernel) cl_X6_70 ci_IllegalStateException rfl (tha_X6_74) (thg_X6_70_74) (by decide) (by decide) (Nat.le_of_ble_eq_true rfl) dX6_refuse_37 dX6_refuse_40 dX6_refuse_41 dX6_refuse_44 dX6_refuse_47 H
    · replace H := H.2 h2
      exact e_throwW (cls := "java/lang/IllegalArgumentException") (i := 23) (by decide +kernel) (by decide +kernel) cl_X6_81 ci_IllegalArgumentException rfl (tha_X6_85) (thg_X6_81_85) (by decide) (by decide) (Nat.le_of_ble_eq_true rfl) dX6_refuse_21 dX6_refuse_24 dX6_refuse_25 dX6_refuse_28 dX6_refuse_31 H
  · replace H := H.2 h1
    exact e_throwW (cls := "java/lang/IndexOutOfBoundsException") (i := 22) (by decide +kernel) (by decide +kernel) cl_X6_365 ci_IndexOutOfBoundsException rfl (tha_X6_369) (thg_X6_365_369) (by decide) (by decide) (Nat.le_of_ble_eq_true rfl) dX6_refuse_5 dX6_refuse_8 dX6_refuse_9 dX6_refuse_12 dX6_refuse_15 H
set_option maxRecDepth 20000 in
set_option maxHeartbeats 2000000 in
theorem b_X6_angleProblem {g : zG} {l : Launch} {K : Int32 → zS → Prop} {X : String → zS → Prop} {x0 : Int32} {σ : zS}
    (H : ((x0 < (-6) → K 2 σ) ∧ (¬ x0 < (-6) → ((x0 ≤ 6 → K 0 σ) ∧ (¬ x0 ≤ 6 → K 2 σ))))) :
    CT g l M_X6_angleProblem 0 [.int x0] σ (zQi K X) := by
  refine CT_of rfl (by decide) (Nat.le_of_ble_eq_true rfl) ?_
  change EV _ _ _ _ _ 0 [(0, .int x0)] [] _
  refine e_iload_n dX6_angleProblem_0 rfl 0 rfl ?_
  refine e_bipush (v := (-6)) dX6_angleProblem_1 (by decide) ?_
  refine e_icmp_lt (tgt := 12) dX6_angleProblem_3 (by decide) (fun h1 => ?_) (fun h1 => ?_)
  · replace H := H.1 h1
    refine e_iconst (v := 2) dX6_angleProblem_12 (by decide) ?_
    refine e_goto (tgt := 17) dX6_angleProblem_13 (by decide) ?_
    exact e_iret rfl dX6_angleProblem_17 H
  · replace H := H.2 h1
    refine e_iload_n dX6_angleProblem_6 rfl 0 rfl ?_
    refine e_bipush (v := 6) dX6_angleProblem_7 (by decide) ?_
    refine e_icmp_le (tgt := 16) dX6_angleProblem_9 (by decide) (fun h2 => ?_) (fun h2 => ?_)
    · replace H := H.1 h2
      refine e_iconst (v := 0) dX6_angleProblem_16 (by decide) ?_
      exact e_iret rfl dX6_angleProblem_17 H
    · replace H := H.2 h2
      refine e_iconst (v := 2) dX6_angleProblem_12 (by decide) ?_
      refine e_goto (tgt := 17) dX6_angleProblem_13 (by decide) ?_
      exact e_iret rfl dX6_angleProblem_17 H
set_option maxRecDepth 20000 in
set_option maxHeartbeats 2000000 in
theorem b_X6_pullProblem {g : zG} {l : Launch} {K : Int32 → zS → Prop} {X : String → zS → Prop} {x0 : Int32} {σ : zS}
    (H : ((x0 < (-8) → K 2 σ) ∧ (¬ x0 < (-8) → ((8 < x0 → K 2 σ) ∧ (¬ 8 < x0 → ((¬ x0 = 0 → K 0 σ) ∧ (x0 = 0 → K 2 σ))))))) :
    CT g l M_X6_pullProblem 0 [.int x0] σ (zQi K X) := by
  refine CT_of rfl (by decide) (Nat.le_of_ble_eq_true rfl) ?_
  change EV _ _ _ _ _ 0 [(0, .int x0)] [] _
  refine e_iload_n dX6_pullProblem_0 rfl 0 rfl ?_
  refine e_bipush (v := (-8)) dX6_pullProblem_1 (by decide) ?_
  refine e_icmp_lt (tgt := 16) dX6_pullProblem_3 (by decide) (fun h1 => ?_) (fun h1 => ?_)
  · replace H := H.1 h1
    refine e_iconst (v := 2) dX6_pullProblem_16 (by decide) ?_
    refine e_goto (tgt := 21) dX6_pullProblem_17 (by decide) ?_
    exact e_iret rfl dX6_pullProblem_21 H
  · replace H := H.2 h1
    refine e_iload_n dX6_pullProblem_6 rfl 0 rfl ?_
    refine e_bipush (v := 8) dX6_pullProblem_7 (by decide) ?_
    refine e_icmp_gt (tgt := 16) dX6_pullProblem_9 (by decide) (fun h2 => ?_) (fun h2 => ?_)
    · replace H := H.1 h2
      refine e_iconst (v := 2) dX6_pullProblem_16 (by decide) ?_
      refine e_goto (tgt := 21) dX6_pullProblem_17 (by decide) ?_
      exact e_iret rfl dX6_pullProblem_21 H
    · replace H := H.2 h2
      refine e_iload_n dX6_pullProblem_12 rfl 0 rfl ?_
      refine e_if_ne (tgt := 20) dX6_pullProblem_13 (by decide) (fun h3 => ?_) (fun h3 => ?_)
      · replace H := H.1 h3
        refine e_iconst (v := 0) dX6_pullProblem_20 (by decide) ?_
        exact e_iret rfl dX6_pullProblem_21 H
      · replace H := H.2 h3
        refine e_iconst (v := 2) dX6_pullProblem_16 (by decide) ?_
        refine e_goto (tgt := 21) dX6_pullProblem_17 (by decide) ?_
        exact e_iret rfl dX6_pullProblem_21 H
set_option maxRecDepth 20000 in
set_option maxHeartbeats 2000000 in
theorem b_X6_turnProblem {g : zG} {l : Launch} {K : Int32 → zS → Prop} {X : String → zS → Prop} {x1 : Int32} {x2 : Int32} {σ : zS}
    (H : CT g l M_X0_hasSlat 0 [.ref (zad g 73), .int x1] σ (zQi (fun v1 τ1 => ((¬ v1 = 0 → ((x2 < (-4) → K 2 τ1) ∧ (¬ x2 < (-4) → ((x2 ≤ 4 → CT g l M_X0_isTied 0 [.ref (zad g 73), .int x1] τ1 (zQi (fun v5 τ5 => ((v5 = 0 → K 0 τ5) ∧ (¬ v5 = 0 → K 3 τ5))) (fun E τ => X E τ))) ∧ (¬ x2 ≤ 4 → K 2 τ1))))) ∧ (v1 = 0 → K 1 τ1))) (fun E τ => X E τ))) :
    CT g l M_X6_turnProblem 0 [.ref (zad g 0), .int x1, .int x2] σ (zQi K X) := by
  refine CT_of rfl (by decide) (Nat.le_of_ble_eq_true rfl) ?_
  change EV _ _ _ _ _ 0 [(0, .ref (zad g 0)), (1, .int x1), (2, .int x2)] [] _
  refine e_aload_n dX6_turnProblem_0 rfl 0 rfl ?_
  refine fg_X6_35 rfl dX6_turnProblem_1 ?_
  refine e_iload_n dX6_turnProblem_4 rfl 1 rfl ?_
  refine e_callVi (j1 := 0) (j2 := 0) (av := [.int x1]) rfl (zB_s0 zB_73) (zB_l0 zB_73) rfl rfl H i_X0_hasSlat rfl n_X0_hasSlat v_X0_hasSlat q_X6_162 (by decide) (by decide) (Nat.le_of_ble_eq_true rfl) dX6_turnProblem_5 (fun v1 τ1 H => ?_) (fun E τ H => H)
  refine e_if_ne (tgt := 13) dX6_turnProblem_8 (by decide) (fun h2 => ?_) (fun h2 => ?_)
  · replace H := H.1 h2
    refine e_iload_n dX6_turnProblem_13 rfl 2 rfl ?_
    refine e_bipush (v := (-4)) dX6_turnProblem_14 (by decide) ?_
    refine e_icmp_lt (tgt := 24) dX6_turnProblem_16 (by decide) (fun h3 => ?_) (fun h3 => ?_)
    · replace H := H.1 h3
      refine e_iconst (v := 2) dX6_turnProblem_24 (by decide) ?_
      exact e_iret rfl dX6_turnProblem_25 H
    · replace H := H.2 h3
      refine e_iload_n dX6_turnProblem_19 rfl 2 rfl ?_
      refine e_iconst (v := 4) dX6_turnProblem_20 (by decide) ?_
      refine e_icmp_le (tgt := 26) dX6_turnProblem_21 (by decide) (fun h4 => ?_) (fun h4 => ?_)
      · replace H := H.1 h4
        refine e_aload_n dX6_turnProblem_26 rfl 0 rfl ?_
        refine fg_X6_35 rfl dX6_turnProblem_27 ?_
        refine e_iload_n dX6_turnProblem_30 rfl 1 rfl ?_
        refine e_callVi (j1 := 0) (j2 := 0) (av := [.int x1]) rfl (zB_s0 zB_73) (zB_l0 zB_73) rfl rfl H i_X0_isTied rfl n_X0_isTied v_X0_isTied q_X6_178 (by decide) (by decide) (Nat.le_of_ble_eq_true rfl) dX6_turnProblem_31 (fun v5 τ5 H => ?_) (fun E τ H => H)
        refine e_if_eq (tgt := 41) dX6_turnProblem_34 (by decide) (fun h6 => ?_) (fun h6 => ?_)
        · replace H := H.1 h6
          refine e_iconst (v := 0) dX6_turnProblem_41 (by decide) ?_
          exact e_iret rfl dX6_turnProblem_42 H
        · replace H := H.2 h6
          refine e_iconst (v := 3) dX6_turnProblem_37 (by decide) ?_
          refine e_goto (tgt := 42) dX6_turnProblem_38 (by decide) ?_
          exact e_iret rfl dX6_turnProblem_42 H
      · replace H := H.2 h4
        refine e_iconst (v := 2) dX6_turnProblem_24 (by decide) ?_
        exact e_iret rfl dX6_turnProblem_25 H
  · replace H := H.2 h2
    refine e_iconst (v := 1) dX6_turnProblem_11 (by decide) ?_
    exact e_iret rfl dX6_turnProblem_12 H
set_option maxRecDepth 20000 in
set_option maxHeartbeats 2000000 in
theorem b_X6_tieProblem {g : zG} {l : Launch} {K : Int32 → zS → Prop} {X : String → zS → Prop} {x1 : Int32} {x2 : Int32} {σ : zS}
    (H : CT g l M_X0_hasSlat 0 [.ref (zad g 73), .int x1] σ (zQi (fun v1 τ1 => ((¬ v1 = 0 → CT g l M_X0_isTied 0 [.ref (zad g 73), .int x1] τ1 (zQi (fun v3 τ3 => ((¬ v3 = x2 → K 0 τ3) ∧ (v3 = x2 → K 4 τ3))) (fun E τ => X E τ))) ∧ (v1 = 0 → K 1 τ1))) (fun E τ => X E τ))) :
    CT g l M_X6_tieProblem 0 [.ref (zad g 0), .int x1, .int x2] σ (zQi K X) := by
  refine CT_of rfl (by decide) (Nat.le_of_ble_eq_true rfl) ?_
  change EV _ _ _ _ _ 0 [(0, .ref (zad g 0)), (1, .int x1), (2, .int x2)] [] _
  refine e_aload_n dX6_tieProblem_0 rfl 0 rfl ?_
  refine fg_X6_35 rfl dX6_tieProblem_1 ?_
  refine e_iload_n dX6_tieProblem_4 rfl 1 rfl ?_
  refine e_callVi (j1 := 0) (j2 := 0) (av := [.int x1]) rfl (zB_s0 zB_73) (zB_l0 zB_73) rfl rfl H i_X0_hasSlat rfl n_X0_hasSlat v_X0_hasSlat q_X6_162 (by decide) (by decide) (Nat.le_of_ble_eq_true rfl) dX6_tieProblem_5 (fun v1 τ1 H => ?_) (fun E τ H => H)
  refine e_if_ne (tgt := 13) dX6_tieProblem_8 (by decide) (fun h2 => ?_) (fun h2 => ?_)
  · replace H := H.1 h2
    refine e_aload_n dX6_tieProblem_13 rfl 0 rfl ?_
    refine fg_X6_35 rfl dX6_tieProblem_14 ?_
    refine e_iload_n dX6_tieProblem_17 rfl 1 rfl ?_
    refine e_callVi (j1 := 0) (j2 := 0) (av := [.int x1]) rfl (zB_s0 zB_73) (zB_l0 zB_73) rfl rfl H i_X0_isTied rfl n_X0_isTied v_X0_isTied q_X6_178 (by decide) (by decide) (Nat.le_of_ble_eq_true rfl) dX6_tieProblem_18 (fun v3 τ3 H => ?_) (fun E τ H => H)
    refine e_iload_n dX6_tieProblem_21 rfl 2 rfl ?_
    refine e_icmp_ne (tgt := 29) dX6_tieProblem_22 (by decide) (fun h4 => ?_) (fun h4 => ?_)
    · replace H := H.1 h4
      refine e_iconst (v := 0) dX6_tieProblem_29 (by decide) ?_
      exact e_iret rfl dX6_tieProblem_30 H
    · replace H := H.2 h4
      refine e_iconst (v := 4) dX6_tieProblem_25 (by decide) ?_
      refine e_goto (tgt := 30) dX6_tieProblem_26 (by decide) ?_
      exact e_iret rfl dX6_tieProblem_30 H
  · replace H := H.2 h2
    refine e_iconst (v := 1) dX6_tieProblem_11 (by decide) ?_
    exact e_iret rfl dX6_tieProblem_12 H
set_option maxRecDepth 20000 in
set_option maxHeartbeats 2000000 in
theorem b_X6_paintProblem {g : zG} {l : Launch} {K : Int32 → zS → Prop} {X : String → zS → Prop} {x1 : Int32} {x2 : Int32} {σ : zS}
    (H : CT g l M_X0_hasSlat 0 [.ref (zad g 73), .int x1] σ (zQi (fun v1 τ1 => ((¬ v1 = 0 → CT g l M_X0_bearsCoat 0 [.ref (zad g 73), .int x1, .int x2] τ1 (zQi (fun v3 τ3 => ((v3 = 0 → K 3 τ3) ∧ (¬ v3 = 0 → K 0 τ3))) (fun E τ => X E τ))) ∧ (v1 = 0 → K 1 τ1))) (fun E τ => X E τ))) :
    CT g l M_X6_paintProblem 0 [.ref (zad g 0), .int x1, .int x2] σ (zQi K X) := by
  refine CT_of rfl (by decide) (Nat.le_of_ble_eq_true rfl) ?_
  change EV _ _ _ _ _ 0 [(0, .ref (zad g 0)), (1, .int x1), (2, .int x2)] [] _
  refine e_aload_n dX6_paintProblem_0 rfl 0 rfl ?_
  refine fg_X6_35 rfl dX6_paintProblem_1 ?_
  refine e_iload_n dX6_paintProblem_4 rfl 1 rfl ?_
  refine e_callVi (j1 := 0) (j2 := 0) (av := [.int x1]) rfl (zB_s0 zB_73) (zB_l0 zB_73) rfl rfl H i_X0_hasSlat rfl n_X0_hasSlat v_X0_hasSlat q_X6_162 (by decide) (by decide) (Nat.le_of_ble_eq_true rfl) dX6_paintProblem_5 (fun v1 τ1 H => ?_) (fun E τ H => H)
  refine e_if_ne (tgt := 13) dX6_paintProblem_8 (by decide) (fun h2 => ?_) (fun h2 => ?_)
  · replace H := H.1 h2
    refine e_aload_n dX6_paintProblem_13 rfl 0 rfl ?_
    refine fg_X6_35 rfl dX6_paintProblem_14 ?_
    refine e_iload_n dX6_paintProblem_17 rfl 1 rfl ?_
    refine e_iload_n dX6_paintProblem_18 rfl 2 rfl ?_
    refine e_callVi (j1 := 0) (j2 := 0) (av := [.int x1, .int x2]) rfl (zB_s0 zB_73) (zB_l0 zB_73) rfl rfl H i_X0_bearsCoat rfl n_X0_bearsCoat v_X0_bearsCoat q_X6_275 (by decide) (by decide) (Nat.le_of_ble_eq_true rfl) dX6_paintProblem_19 (fun v3 τ3 H => ?_) (fun E τ H => H)
    refine e_if_eq (tgt := 29) dX6_paintProblem_22 (by decide) (fun h4 => ?_) (fun h4 => ?_)
    · replace H := H.1 h4
      refine e_iconst (v := 3) dX6_paintProblem_29 (by decide) ?_
      exact e_iret rfl dX6_paintProblem_30 H
    · replace H := H.2 h4
      refine e_iconst (v := 0) dX6_paintProblem_25 (by decide) ?_
      refine e_goto (tgt := 30) dX6_paintProblem_26 (by decide) ?_
      exact e_iret rfl dX6_paintProblem_30 H
  · replace H := H.2 h2
    refine e_iconst (v := 1) dX6_paintProblem_11 (by decide) ?_
    exact e_iret rfl dX6_paintProblem_12 H
set_option maxRecDepth 20000 in
set_option maxHeartbeats 2000000 in
theorem b_X6_dabProblem {g : zG} {l : Launch} {K : Int32 → zS → Prop} {X : String → zS → Prop} {x1 : Int32} {x2 : Int32} {x3 : Int32} {x4 : Int32} {σ : zS}
    (H : CT g l M_X0_hasFaceCell 0 [.ref (zad g 73), .int x1, .int x2, .int x3] σ (zQi (fun v1 τ1 => ((v1 = 0 → K 1 τ1) ∧ (¬ v1 = 0 → CT g l M_X6_colourProblem 0 [.int x4] τ1 (zQi (fun v3 τ3 => K v3 τ3) (fun E τ => X E τ))))) (fun E τ => X E τ))) :
    CT g l M_X6_dabProblem 0 [.ref (zad g 0), .int x1, .int x2, .int x3, .int x4] σ (zQi K X) := by
  refine CT_of rfl (by decide) (Nat.le_of_ble_eq_true rfl) ?_
  change EV _ _ _ _ _ 0 [(0, .ref (zad g 0)), (1, .int x1), (2, .int x2), (3, .int x3), (4, .int x4)] [] _
  refine e_aload_n dX6_dabProblem_0 rfl 0 rfl ?_
  refine fg_X6_35 rfl dX6_dabProblem_1 ?_
  refine e_iload_n dX6_dabProblem_4 rfl 1 rfl ?_
  refine e_iload_n dX6_dabProblem_5 rfl 2 rfl ?_
  refine e_iload_n dX6_dabProblem_6 rfl 3 rfl ?_
  refine e_callVi (j1 := 0) (j2 := 0) (av := [.int x1, .int x2, .int x3]) rfl (zB_s0 zB_73) (zB_l0 zB_73) rfl rfl H i_X0_hasFaceCell rfl n_X0_hasFaceCell v_X0_hasFaceCell q_X6_211 (by decide) (by decide) (Nat.le_of_ble_eq_true rfl) dX6_dabProblem_7 (fun v1 τ1 H => ?_) (fun E τ H => H)
  refine e_if_eq (tgt := 21) dX6_dabProblem_10 (by decide) (fun h2 => ?_) (fun h2 => ?_)
  · replace H := H.1 h2
    refine e_iconst (v := 1) dX6_dabProblem_21 (by decide) ?_
    exact e_iret rfl dX6_dabProblem_22 H
  · replace H := H.2 h2
    refine e_iload dX6_dabProblem_13 4 rfl ?_
    refine e_callSi (j1 := 0) (j2 := 0) (av := [.int x4]) rfl H i_X6_colourProblem rfl s_X6_colourProblem q_X6_386 (by decide) (by decide) (Nat.le_of_ble_eq_true rfl) dX6_dabProblem_15 (fun v3 τ3 H => ?_) (fun E τ H => H)
    refine e_goto (tgt := 22) dX6_dabProblem_18 (by decide) ?_
    exact e_iret rfl dX6_dabProblem_22 H
set_option maxRecDepth 20000 in
set_option maxHeartbeats 2000000 in
theorem b_X6_swapProblem {g : zG} {l : Launch} {K : Int32 → zS → Prop} {X : String → zS → Prop} {x1 : Int32} {σ : zS}
    (H : CT g l M_X0_hasSlat 0 [.ref (zad g 73), .int x1] σ (zQi (fun v1 τ1 => ((v1 = 0 → K 1 τ1) ∧ (¬ v1 = 0 → K 0 τ1))) (fun E τ => X E τ))) :
    CT g l M_X6_swapProblem 0 [.ref (zad g 0), .int x1] σ (zQi K X) := by
  refine CT_of rfl (by decide) (Nat.le_of_ble_eq_true rfl) ?_
  change EV _ _ _ _ _ 0 [(0, .ref (zad g 0)), (1, .int x1)] [] _
  refine e_aload_n dX6_swapProblem_0 rfl 0 rfl ?_
  refine fg_X6_35 rfl dX6_swapProblem_1 ?_
  refine e_iload_n dX6_swapProblem_4 rfl 1 rfl ?_
  refine e_callVi (j1 := 0) (j2 := 0) (av := [.int x1]) rfl (zB_s0 zB_73) (zB_l0 zB_73) rfl rfl H i_X0_hasSlat rfl n_X0_hasSlat v_X0_hasSlat q_X6_162 (by decide) (by decide) (Nat.le_of_ble_eq_true rfl) dX6_swapProblem_5 (fun v1 τ1 H => ?_) (fun E τ H => H)
  refine e_if_eq (tgt := 15) dX6_swapProblem_8 (by decide) (fun h2 => ?_) (fun h2 => ?_)
  · replace H := H.1 h2
    refine e_iconst (v := 1) dX6_swapProblem_15 (by decide) ?_
    exact e_iret rfl dX6_swapProblem_16 H
  · replace H := H.2 h2
    refine e_iconst (v := 0) dX6_swapProblem_11 (by decide) ?_
    refine e_goto (tgt := 16) dX6_swapProblem_12 (by decide) ?_
    exact e_iret rfl dX6_swapProblem_16 H
set_option maxRecDepth 20000 in
set_option maxHeartbeats 2000000 in
theorem b_X6_spotProblem {g : zG} {l : Launch} {K : Int32 → zS → Prop} {X : String → zS → Prop} {x1 : Int32} {x2 : Int32} {x3 : Int32} {σ : zS}
    (H : CT g l M_X0_hasCell 0 [.ref (zad g 73), .int x1, .int x2] σ (zQi (fun v1 τ1 => ((v1 = 0 → K 1 τ1) ∧ (¬ v1 = 0 → CT g l M_X6_colourProblem 0 [.int x3] τ1 (zQi (fun v4 τ4 => ((v4 = 0 → ((((τ4.1 73 4) + (τ4.1 73 5)) < 16 → K 0 τ4) ∧ (¬ ((τ4.1 73 4) + (τ4.1 73 5)) < 16 → K 3 τ4))) ∧ (¬ v4 = 0 → K v4 τ4))) (fun E τ => X E τ))))) (fun E τ => X E τ))) :
    CT g l M_X6_spotProblem 0 [.ref (zad g 0), .int x1, .int x2, .int x3] σ (zQi K X) := by
  refine CT_of rfl (by decide) (Nat.le_of_ble_eq_true rfl) ?_
  change EV _ _ _ _ _ 0 [(0, .ref (zad g 0)), (1, .int x1), (2, .int x2), (3, .int x3)] [] _
  refine e_aload_n dX6_spotProblem_0 rfl 0 rfl ?_
  refine fg_X6_35 rfl dX6_spotProblem_1 ?_
  refine e_iload_n dX6_spotProblem_4 rfl 1 rfl ?_
  refine e_iload_n dX6_spotProblem_5 rfl 2 rfl ?_
  refine e_callVi (j1 := 0) (j2 := 0) (av := [.int x1, .int x2]) rfl (zB_s0 zB_73) (zB_l0 zB_73) rfl rfl H i_X0_hasCell rfl n_X0_hasCell v_X0_hasCell q_X6_199 (by decide) (by decide) (Nat.le_of_ble_eq_true rfl) dX6_spotProblem_6 (fun v1 τ1 H => ?_) (fun E τ H => H)
  refine e_if_eq (tgt := 19) dX6_spotProblem_9 (by decide) (fun h2 => ?_) (fun h2 => ?_)
  · replace H := H.1 h2
    refine e_iconst (v := 1) dX6_spotProblem_19 (by decide) ?_
    refine e_istore (ls' := [(4, .int 1), (0, .ref (zad g 0)), (1, .int x1), (2, .int x2), (3, .int x3)]) dX6_spotProblem_20 (by decide) rfl ?_
    refine e_iload dX6_spotProblem_22 0 rfl ?_
    refine e_if_eq (tgt := 30) dX6_spotProblem_24 (by decide) (fun h3 => ?_) (fun h3 => ?_)
    · exact absurd h3 (by decide)
    · refine e_iload dX6_spotProblem_27 0 rfl ?_
      exact e_iret rfl dX6_spotProblem_29 H
  · replace H := H.2 h2
    refine e_iload_n dX6_spotProblem_12 rfl 3 rfl ?_
    refine e_callSi (j1 := 0) (j2 := 0) (av := [.int x3]) rfl H i_X6_colourProblem rfl s_X6_colourProblem q_X6_386 (by decide) (by decide) (Nat.le_of_ble_eq_true rfl) dX6_spotProblem_13 (fun v4 τ4 H => ?_) (fun E τ H => H)
    refine e_goto (tgt := 20) dX6_spotProblem_16 (by decide) ?_
    refine e_istore (ls' := [(4, .int v4), (0, .ref (zad g 0)), (1, .int x1), (2, .int x2), (3, .int x3)]) dX6_spotProblem_20 (by decide) rfl ?_
    refine e_iload dX6_spotProblem_22 0 rfl ?_
    refine e_if_eq (tgt := 30) dX6_spotProblem_24 (by decide) (fun h5 => ?_) (fun h5 => ?_)
    · replace H := H.1 h5
      refine e_aload_n dX6_spotProblem_30 rfl 1 rfl ?_
      refine fg_X6_35 rfl dX6_spotProblem_31 ?_
      refine fg_X6_132 (zB_s0 zB_73) (zB_l0 zB_73) rfl dX6_spotProblem_34 ?_
      refine e_aload_n dX6_spotProblem_37 rfl 1 rfl ?_
      refine fg_X6_35 rfl dX6_spotProblem_38 ?_
      refine fg_X6_135 (zB_s0 zB_73) (zB_l0 zB_73) rfl dX6_spotProblem_41 ?_
      refine e_iadd dX6_spotProblem_44 ?_
      refine e_bipush (v := 16) dX6_spotProblem_45 (by decide) ?_
      refine e_icmp_lt (tgt := 54) dX6_spotProblem_47 (by decide) (fun h6 => ?_) (fun h6 => ?_)
      · replace H := H.1 h6
        refine e_iconst (v := 0) dX6_spotProblem_54 (by decide) ?_
        exact e_iret rfl dX6_spotProblem_55 H
      · replace H := H.2 h6
        refine e_iconst (v := 3) dX6_spotProblem_50 (by decide) ?_
        refine e_goto (tgt := 55) dX6_spotProblem_51 (by decide) ?_
        exact e_iret rfl dX6_spotProblem_55 H
    · replace H := H.2 h5
      refine e_iload dX6_spotProblem_27 0 rfl ?_
      exact e_iret rfl dX6_spotProblem_29 H
set_option maxRecDepth 20000 in
set_option maxHeartbeats 2000000 in
theorem b_X6_colourProblem {g : zG} {l : Launch} {K : Int32 → zS → Prop} {X : String → zS → Prop} {x0 : Int32} {σ : zS}
    (H : ((x0 < 0 → K 2 σ) ∧ (¬ x0 < 0 → ((x0 ≤ 9 → K 0 σ) ∧ (¬ x0 ≤ 9 → K 2 σ))))) :
    CT g l M_X6_colourProblem 0 [.int x0] σ (zQi K X) := by
  refine CT_of rfl (by decide) (Nat.le_of_ble_eq_true rfl) ?_
  change EV _ _ _ _ _ 0 [(0, .int x0)] [] _
  refine e_iload_n dX6_colourProblem_0 rfl 0 rfl ?_
  refine e_if_lt (tgt := 10) dX6_colourProblem_1 (by decide) (fun h1 => ?_) (fun h1 => ?_)
  · replace H := H.1 h1
    refine e_iconst (v := 2) dX6_colourProblem_10 (by decide) ?_
    refine e_goto (tgt := 15) dX6_colourProblem_11 (by decide) ?_
    exact e_iret rfl dX6_colourProblem_15 H
  · replace H := H.2 h1
    refine e_iload_n dX6_colourProblem_4 rfl 0 rfl ?_
    refine e_bipush (v := 9) dX6_colourProblem_5 (by decide) ?_
    refine e_icmp_le (tgt := 14) dX6_colourProblem_7 (by decide) (fun h2 => ?_) (fun h2 => ?_)
    · replace H := H.1 h2
      refine e_iconst (v := 0) dX6_colourProblem_14 (by decide) ?_
      exact e_iret rfl dX6_colourProblem_15 H
    · replace H := H.2 h2
      refine e_iconst (v := 2) dX6_colourProblem_10 (by decide) ?_
      refine e_goto (tgt := 15) dX6_colourProblem_11 (by decide) ?_
      exact e_iret rfl dX6_colourProblem_15 H
set_option maxRecDepth 20000 in
set_option maxHeartbeats 2000000 in
theorem b_X6_toSide {g : zG} {l : Launch} {K : Int32 → zS → Prop} {X : String → zS → Prop} {x0 : Int32} {x1 : Int32} {σ : zS}
    (H : ((x1 = 0 → K (-x0) σ) ∧ (¬ x1 = 0 → K x0 σ))) :
    CT g l M_X6_toSide 0 [.int x0, .int x1] σ (zQi K X) := by
  refine CT_of rfl (by decide) (Nat.le_of_ble_eq_true rfl) ?_
  change EV _ _ _ _ _ 0 [(0, .int x0), (1, .int x1)] [] _
  refine e_iload_n dX6_toSide_0 rfl 1 rfl ?_
  refine e_if_eq (tgt := 8) dX6_toSide_1 (by decide) (fun h1 => ?_) (fun h1 => ?_)
  · replace H := H.1 h1
    refine e_iload_n dX6_toSide_8 rfl 0 rfl ?_
    refine e_ineg dX6_toSide_9 ?_
    exact e_iret rfl dX6_toSide_10 H
  · replace H := H.2 h1
    refine e_iload_n dX6_toSide_4 rfl 0 rfl ?_
    refine e_goto (tgt := 10) dX6_toSide_5 (by decide) ?_
    exact e_iret rfl dX6_toSide_10 H
set_option maxRecDepth 20000 in
set_option maxHeartbeats 2000000 in
theorem b_X6_rightFrom {g : zG} {l : Launch} {K : Int32 → zS → Prop} {X : String → zS → Prop} {x1 : Int32} {x2 : Int32} {σ : zS}
    (H : CT g l M_X5_look 0 [.ref (zad g 18), .ref (zad g (73 + 3)), .int x1] σ (zQv (fun τ1 => CT g l M_X5_rightCells 0 [.ref (zad g 18), .int x2, .int 0, .int (τ1.1 73 3)] τ1 (zQi (fun v2 τ2 => K v2 τ2) (fun E τ => X E τ))) (fun E τ => X E τ))) :
    CT g l M_X6_rightFrom 0 [.ref (zad g 0), .int x1, .int x2] σ (zQi K X) := by
  refine CT_of rfl (by decide) (Nat.le_of_ble_eq_true rfl) ?_
  change EV _ _ _ _ _ 0 [(0, .ref (zad g 0)), (1, .int x1), (2, .int x2)] [] _
  refine e_aload_n dX6_rightFrom_0 rfl 0 rfl ?_
  refine fg_X6_54 rfl dX6_rightFrom_1 ?_
  refine e_aload_n dX6_rightFrom_4 rfl 0 rfl ?_
  refine fg_X6_35 rfl dX6_rightFrom_5 ?_
  refine fg_X6_175 (zB_s0 zB_73) (zB_l0 zB_73) rfl dX6_rightFrom_8 ?_
  refine e_iload_n dX6_rightFrom_11 rfl 1 rfl ?_
  refine e_callVv (j1 := 0) (j2 := 0) (av := [.ref (zad g (73 + 3)), .int x1]) rfl rfl (Nat.le_of_ble_eq_true rfl) rfl rfl H i_X5_look rfl n_X5_look v_X5_look q_X6_232 (by decide) (by decide) (Nat.le_of_ble_eq_true rfl) dX6_rightFrom_12 (fun τ1 H => ?_) (fun E τ H => H)
  refine e_aload_n dX6_rightFrom_15 rfl 0 rfl ?_
  refine fg_X6_54 rfl dX6_rightFrom_16 ?_
  refine e_iload_n dX6_rightFrom_19 rfl 2 rfl ?_
  refine e_iconst (v := 0) dX6_rightFrom_20 (by decide) ?_
  refine e_aload_n dX6_rightFrom_21 rfl 0 rfl ?_
  refine fg_X6_35 rfl dX6_rightFrom_22 ?_
  refine fg_X6_129 (zB_s0 zB_73) (zB_l0 zB_73) rfl dX6_rightFrom_25 ?_
  refine e_callVi (j1 := 0) (j2 := 0) (av := [.int x2, .int 0, .int (τ1.1 73 3)]) rfl rfl (Nat.le_of_ble_eq_true rfl) rfl rfl H i_X5_rightCells rfl n_X5_rightCells v_X5_rightCells q_X6_299 (by decide) (by decide) (Nat.le_of_ble_eq_true rfl) dX6_rightFrom_28 (fun v2 τ2 H => ?_) (fun E τ H => H)
  exact e_iret rfl dX6_rightFrom_31 H
set_option maxRecDepth 20000 in
set_option maxHeartbeats 2000000 in
theorem b_X6_rightOfTrial {g : zG} {l : Launch} {K : Int32 → zS → Prop} {X : String → zS → Prop} {x1 : Int32} {x2 : Int32} {σ : zS}
    (H : CT g l M_X5_look 0 [.ref (zad g 18), .ref (zad g 22), .int x1] σ (zQv (fun τ1 => CT g l M_X5_rightCells 0 [.ref (zad g 18), .int x2, .int 0, .int (τ1.1 73 3)] τ1 (zQi (fun v2 τ2 => K v2 τ2) (fun E τ => X E τ))) (fun E τ => X E τ))) :
    CT g l M_X6_rightOfTrial 0 [.ref (zad g 0), .int x1, .int x2] σ (zQi K X) := by
  refine CT_of rfl (by decide) (Nat.le_of_ble_eq_true rfl) ?_
  change EV _ _ _ _ _ 0 [(0, .ref (zad g 0)), (1, .int x1), (2, .int x2)] [] _
  refine e_aload_n dX6_rightOfTrial_0 rfl 0 rfl ?_
  refine fg_X6_54 rfl dX6_rightOfTrial_1 ?_
  refine e_aload_n dX6_rightOfTrial_4 rfl 0 rfl ?_
  refine fg_X6_58 rfl dX6_rightOfTrial_5 ?_
  refine e_iload_n dX6_rightOfTrial_8 rfl 1 rfl ?_
  refine e_callVv (j1 := 0) (j2 := 0) (av := [.ref (zad g 22), .int x1]) rfl rfl (Nat.le_of_ble_eq_true rfl) rfl rfl H i_X5_look rfl n_X5_look v_X5_look q_X6_232 (by decide) (by decide) (Nat.le_of_ble_eq_true rfl) dX6_rightOfTrial_9 (fun τ1 H => ?_) (fun E τ H => H)
  refine e_aload_n dX6_rightOfTrial_12 rfl 0 rfl ?_
  refine fg_X6_54 rfl dX6_rightOfTrial_13 ?_
  refine e_iload_n dX6_rightOfTrial_16 rfl 2 rfl ?_
  refine e_iconst (v := 0) dX6_rightOfTrial_17 (by decide) ?_
  refine e_aload_n dX6_rightOfTrial_18 rfl 0 rfl ?_
  refine fg_X6_35 rfl dX6_rightOfTrial_19 ?_
  refine fg_X6_129 (zB_s0 zB_73) (zB_l0 zB_73) rfl dX6_rightOfTrial_22 ?_
  refine e_callVi (j1 := 0) (j2 := 0) (av := [.int x2, .int 0, .int (τ1.1 73 3)]) rfl rfl (Nat.le_of_ble_eq_true rfl) rfl rfl H i_X5_rightCells rfl n_X5_rightCells v_X5_rightCells q_X6_299 (by decide) (by decide) (Nat.le_of_ble_eq_true rfl) dX6_rightOfTrial_25 (fun v2 τ2 H => ?_) (fun E τ H => H)
  exact e_iret rfl dX6_rightOfTrial_28 H
abbrev L_X6_rightAfterPull_3 (g : zG) (l : Launch) (K : Int32 → zS → Prop) (X : String → zS → Prop) (y1 : Int32) (y2 : Int32) (y3 : Int32) (y4 : Int32) (σ : zS) : Prop :=
  EV g l M_X6_rightAfterPull 0 (zQi K X) 3 [(0, .ref (zad g 0)), (1, .int y1), (2, .int y2), (3, .int y3), (4, .int y4)] [] σ
set_option maxRecDepth 20000 in
set_option maxHeartbeats 2000000 in
theorem b_X6_rightAfterPull {g : zG} {l : Launch} {K : Int32 → zS → Prop} {X : String → zS → Prop} {x1 : Int32} {x2 : Int32} {x3 : Int32} {σ : zS}
    (H : L_X6_rightAfterPull_3 g l K X x1 x2 x3 0 σ) :
    CT g l M_X6_rightAfterPull 0 [.ref (zad g 0), .int x1, .int x2, .int x3] σ (zQi K X) := by
  refine CT_of rfl (by decide) (Nat.le_of_ble_eq_true rfl) ?_
  change EV _ _ _ _ _ 0 [(0, .ref (zad g 0)), (1, .int x1), (2, .int x2), (3, .int x3)] [] _
  refine e_iconst (v := 0) dX6_rightAfterPull_0 (by decide) ?_
  refine e_istore (ls' := [(4, .int 0), (0, .ref (zad g 0)), (1, .int x1), (2, .int x2), (3, .int x3)]) dX6_rightAfterPull_1 (by decide) rfl ?_
  refine e_ls [1, 2, 3, 4, 0] rfl ?_
  exact H
set_option maxRecDepth 20000 in
set_option maxHeartbeats 2000000 in
theorem b_X6_rightAfterPull_3 {g : zG} {l : Launch} {K : Int32 → zS → Prop} {X : String → zS → Prop} {y1 : Int32} {y2 : Int32} {y3 : Int32} {y4 : Int32} {σ : zS}
    (H : (((σ.1 73 2) ≤ y4 → CT g l M_X6_rightOfTrial 0 [.ref (zad g 0), .int y2, .int y3] σ (zQi (fun v2 τ2 => K v2 τ2) (fun E τ => X E τ))) ∧ (¬ (σ.1 73 2) ≤ y4 → CT g l M_X0_turnAfterPull 0 [.ref (zad g 73), .int y4, .int y1] σ (zQi (fun v3 τ3 => (vp_in y4 10 ∧ (∀ σ4 : zS, σ4 = zup τ3 22 (Int32.toNatClampNeg y4) v3 → L_X6_rightAfterPull_3 g l K X y1 y2 y3 (y4 + 1) σ4))) (fun E τ => X E τ))))) :
    L_X6_rightAfterPull_3 g l K X y1 y2 y3 y4 σ := by
  refine e_iload dX6_rightAfterPull_3 4 rfl ?_
  refine e_aload_n dX6_rightAfterPull_5 rfl 0 rfl ?_
  refine fg_X6_35 rfl dX6_rightAfterPull_6 ?_
  refine fg_X6_101 (zB_s0 zB_73) (zB_l0 zB_73) rfl dX6_rightAfterPull_9 ?_
  refine e_icmp_ge (tgt := 38) dX6_rightAfterPull_12 (by decide) (fun h1 => ?_) (fun h1 => ?_)
  · replace H := H.1 h1
    refine e_aload_n dX6_rightAfterPull_38 rfl 0 rfl ?_
    refine e_iload_n dX6_rightAfterPull_39 rfl 2 rfl ?_
    refine e_iload_n dX6_rightAfterPull_40 rfl 3 rfl ?_
    refine e_callVi (j1 := 0) (j2 := 0) (av := [.int y2, .int y3]) rfl rfl (Nat.le_of_ble_eq_true rfl) rfl rfl H i_X6_rightOfTrial rfl n_X6_rightOfTrial v_X6_rightOfTrial q_X6_292 (by decide) (by decide) (Nat.le_of_ble_eq_true rfl) dX6_rightAfterPull_41 (fun v2 τ2 H => ?_) (fun E τ H => H)
    exact e_iret rfl dX6_rightAfterPull_44 H
  · replace H := H.2 h1
    refine e_aload_n dX6_rightAfterPull_15 rfl 0 rfl ?_
    refine fg_X6_58 rfl dX6_rightAfterPull_16 ?_
    refine e_iload dX6_rightAfterPull_19 4 rfl ?_
    refine e_aload_n dX6_rightAfterPull_21 rfl 0 rfl ?_
    refine fg_X6_35 rfl dX6_rightAfterPull_22 ?_
    refine e_iload dX6_rightAfterPull_25 4 rfl ?_
    refine e_iload_n dX6_rightAfterPull_27 rfl 1 rfl ?_
    refine e_callVi (j1 := 0) (j2 := 0) (av := [.int y4, .int y1]) rfl (zB_s0 zB_73) (zB_l0 zB_73) rfl rfl H i_X0_turnAfterPull rfl n_X0_turnAfterPull v_X0_turnAfterPull q_X6_415 (by decide) (by decide) (Nat.le_of_ble_eq_true rfl) dX6_rightAfterPull_28 (fun v3 τ3 H => ?_) (fun E τ H => H)
    refine e_iast (n := 10) rfl (Nat.le_of_ble_eq_true rfl) H.1 dX6_rightAfterPull_31 ?_
    replace H := H.2
    replace H := H _ rfl
    generalize zup τ3 22 (Int32.toNatClampNeg y4) v3 = σ4 at H ⊢
    refine e_iinc (j := 4) (v := (y4 + 1)) (ls' := [(4, .int (y4 + 1)), (0, .ref (zad g 0)), (1, .int y1), (2, .int y2), (3, .int y3)]) dX6_rightAfterPull_32 rfl rfl (by decide) rfl ?_
    refine e_goto (tgt := 3) dX6_rightAfterPull_35 (by decide) ?_
    refine e_ls [1, 2, 3, 4, 0] rfl ?_
    exact H
set_option maxRecDepth 20000 in
set_option maxHeartbeats 2000000 in
theorem b_X6_openFrom {g : zG} {l : Launch} {K : Int32 → zS → Prop} {X : String → zS → Prop} {x1 : Int32} {σ : zS}
    (H : CT g l M_X5_look 0 [.ref (zad g 18), .ref (zad g (73 + 3)), .int x1] σ (zQv (fun τ1 => CT g l M_X5_columnsWith 0 [.ref (zad g 18), .int 2] τ1 (zQi (fun v2 τ2 => CT g l M_X5_columnsWith 0 [.ref (zad g 18), .int 3] τ2 (zQi (fun v3 τ3 => K ((v2 + v3) * (τ3.1 73 0)) τ3) (fun E τ => X E τ))) (fun E τ => X E τ))) (fun E τ => X E τ))) :
    CT g l M_X6_openFrom 0 [.ref (zad g 0), .int x1] σ (zQi K X) := by
  refine CT_of rfl (by decide) (Nat.le_of_ble_eq_true rfl) ?_
  change EV _ _ _ _ _ 0 [(0, .ref (zad g 0)), (1, .int x1)] [] _
  refine e_aload_n dX6_openFrom_0 rfl 0 rfl ?_
  refine fg_X6_54 rfl dX6_openFrom_1 ?_
  refine e_aload_n dX6_openFrom_4 rfl 0 rfl ?_
  refine fg_X6_35 rfl dX6_openFrom_5 ?_
  refine fg_X6_175 (zB_s0 zB_73) (zB_l0 zB_73) rfl dX6_openFrom_8 ?_
  refine e_iload_n dX6_openFrom_11 rfl 1 rfl ?_
  refine e_callVv (j1 := 0) (j2 := 0) (av := [.ref (zad g (73 + 3)), .int x1]) rfl rfl (Nat.le_of_ble_eq_true rfl) rfl rfl H i_X5_look rfl n_X5_look v_X5_look q_X6_232 (by decide) (by decide) (Nat.le_of_ble_eq_true rfl) dX6_openFrom_12 (fun τ1 H => ?_) (fun E τ H => H)
  refine e_aload_n dX6_openFrom_15 rfl 0 rfl ?_
  refine fg_X6_54 rfl dX6_openFrom_16 ?_
  refine e_iconst (v := 2) dX6_openFrom_19 (by decide) ?_
  refine e_callVi (j1 := 0) (j2 := 0) (av := [.int 2]) rfl rfl (Nat.le_of_ble_eq_true rfl) rfl rfl H i_X5_columnsWith rfl n_X5_columnsWith v_X5_columnsWith q_X6_249 (by decide) (by decide) (Nat.le_of_ble_eq_true rfl) dX6_openFrom_20 (fun v2 τ2 H => ?_) (fun E τ H => H)
  refine e_aload_n dX6_openFrom_23 rfl 0 rfl ?_
  refine fg_X6_54 rfl dX6_openFrom_24 ?_
  refine e_iconst (v := 3) dX6_openFrom_27 (by decide) ?_
  refine e_callVi (j1 := 0) (j2 := 0) (av := [.int 3]) rfl rfl (Nat.le_of_ble_eq_true rfl) rfl rfl H i_X5_columnsWith rfl n_X5_columnsWith v_X5_columnsWith q_X6_249 (by decide) (by decide) (Nat.le_of_ble_eq_true rfl) dX6_openFrom_28 (fun v3 τ3 H => ?_) (fun E τ H => H)
  refine e_iadd dX6_openFrom_31 ?_
  refine e_istore_n (ls' := [(2, .int (v2 + v3)), (0, .ref (zad g 0)), (1, .int x1)]) dX6_openFrom_32 rfl (by decide) rfl ?_
  refine e_iload_n dX6_openFrom_33 rfl 0 rfl ?_
  refine e_aload_n dX6_openFrom_34 rfl 1 rfl ?_
  refine fg_X6_35 rfl dX6_openFrom_35 ?_
  refine fg_X6_126 (zB_s0 zB_73) (zB_l0 zB_73) rfl dX6_openFrom_38 ?_
  refine e_imul dX6_openFrom_41 ?_
  exact e_iret rfl dX6_openFrom_42 H
set_option maxRecDepth 20000 in
set_option maxHeartbeats 2000000 in
theorem b_X6_colourIn {g : zG} {l : Launch} {K : Int32 → zS → Prop} {X : String → zS → Prop} {x0 : Int32} {x1 : Int32} {σ : zS}
    (H : K ((zushr x0 (4 * x1)) &&& 15) σ) :
    CT g l M_X6_colourIn 0 [.int x0, .int x1] σ (zQi K X) := by
  refine CT_of rfl (by decide) (Nat.le_of_ble_eq_true rfl) ?_
  change EV _ _ _ _ _ 0 [(0, .int x0), (1, .int x1)] [] _
  refine e_iload_n dX6_colourIn_0 rfl 0 rfl ?_
  refine e_iconst (v := 4) dX6_colourIn_1 (by decide) ?_
  refine e_iload_n dX6_colourIn_2 rfl 1 rfl ?_
  refine e_imul dX6_colourIn_3 ?_
  refine e_iushr (v := (zushr x0 (4 * x1))) dX6_colourIn_4 rfl ?_
  refine e_bipush (v := 15) dX6_colourIn_5 (by decide) ?_
  refine e_iand dX6_colourIn_7 ?_
  exact e_iret rfl dX6_colourIn_8 H
set_option maxRecDepth 20000 in
set_option maxHeartbeats 2000000 in
theorem b_X6_withColour {g : zG} {l : Launch} {K : Int32 → zS → Prop} {X : String → zS → Prop} {x0 : Int32} {x1 : Int32} {x2 : Int32} {σ : zS}
    (H : K ((x0 &&& ((15 <<< ((4 * x1) &&& 31)) ^^^ (-1))) ||| (x2 <<< ((4 * x1) &&& 31))) σ) :
    CT g l M_X6_withColour 0 [.int x0, .int x1, .int x2] σ (zQi K X) := by
  refine CT_of rfl (by decide) (Nat.le_of_ble_eq_true rfl) ?_
  change EV _ _ _ _ _ 0 [(0, .int x0), (1, .int x1), (2, .int x2)] [] _
  refine e_iconst (v := 4) dX6_withColour_0 (by decide) ?_
  refine e_iload_n dX6_withColour_1 rfl 1 rfl ?_
  refine e_imul dX6_withColour_2 ?_
  refine e_istore_n (ls' := [(3, .int (4 * x1)), (0, .int x0), (1, .int x1), (2, .int x2)]) dX6_withColour_3 rfl (by decide) rfl ?_
  refine e_iload_n dX6_withColour_4 rfl 1 rfl ?_
  refine e_bipush (v := 15) dX6_withColour_5 (by decide) ?_
  refine e_iload_n dX6_withColour_7 rfl 0 rfl ?_
  refine e_ishl dX6_withColour_8 ?_
  refine e_iconst (v := (-1)) dX6_withColour_9 (by decide) ?_
  refine e_ixor dX6_withColour_10 ?_
  refine e_iand dX6_withColour_11 ?_
  refine e_iload_n dX6_withColour_12 rfl 3 rfl ?_
  refine e_iload_n dX6_withColour_13 rfl 0 rfl ?_
  refine e_ishl dX6_withColour_14 ?_
  refine e_ior dX6_withColour_15 ?_
  exact e_iret rfl dX6_withColour_16 H
set_option maxRecDepth 20000 in
set_option maxHeartbeats 2000000 in
theorem b_X6_unlikeBits {g : zG} {l : Launch} {K : Int32 → zS → Prop} {X : String → zS → Prop} {x0 : Int32} {x1 : Int32} {σ : zS}
    (H : K (((((x0 ^^^ x1) ||| (zushr (x0 ^^^ x1) 1)) ||| (zushr (x0 ^^^ x1) 2)) ||| (zushr (x0 ^^^ x1) 3)) &&& 286331153) σ) :
    CT g l M_X6_unlikeBits 0 [.int x0, .int x1] σ (zQi K X) := by
  refine CT_of rfl (by decide) (Nat.le_of_ble_eq_true rfl) ?_
  change EV _ _ _ _ _ 0 [(0, .int x0), (1, .int x1)] [] _
  refine e_iload_n dX6_unlikeBits_0 rfl 0 rfl ?_
  refine e_iload_n dX6_unlikeBits_1 rfl 1 rfl ?_
  refine e_ixor dX6_unlikeBits_2 ?_
  refine e_istore_n (ls' := [(2, .int (x0 ^^^ x1)), (0, .int x0), (1, .int x1)]) dX6_unlikeBits_3 rfl (by decide) rfl ?_
  refine e_iload_n dX6_unlikeBits_4 rfl 0 rfl ?_
  refine e_iload_n dX6_unlikeBits_5 rfl 0 rfl ?_
  refine e_iconst (v := 1) dX6_unlikeBits_6 (by decide) ?_
  refine e_iushr (v := (zushr (x0 ^^^ x1) 1)) dX6_unlikeBits_7 rfl ?_
  refine e_ior dX6_unlikeBits_8 ?_
  refine e_iload_n dX6_unlikeBits_9 rfl 0 rfl ?_
  refine e_iconst (v := 2) dX6_unlikeBits_10 (by decide) ?_
  refine e_iushr (v := (zushr (x0 ^^^ x1) 2)) dX6_unlikeBits_11 rfl ?_
  refine e_ior dX6_unlikeBits_12 ?_
  refine e_iload_n dX6_unlikeBits_13 rfl 0 rfl ?_
  refine e_iconst (v := 3) dX6_unlikeBits_14 (by decide) ?_
  refine e_iushr (v := (zushr (x0 ^^^ x1) 3)) dX6_unlikeBits_15 rfl ?_
  refine e_ior dX6_unlikeBits_16 ?_
  refine e_ldcw k_X6_418 dX6_unlikeBits_17 ?_
  refine e_iand dX6_unlikeBits_20 ?_
  exact e_iret rfl dX6_unlikeBits_21 H
set_option maxRecDepth 20000 in
set_option maxHeartbeats 2000000 in
theorem b_X6_unlikeRows {g : zG} {l : Launch} {K : Int32 → zS → Prop} {X : String → zS → Prop} {x0 : Int32} {x1 : Int32} {σ : zS}
    (H : CT g l M_X6_unlikeBits 0 [.int x0, .int x1] σ (zQi (fun v1 τ1 => CT g l M_J6_bitCount_0f7a4 0 [.int v1] τ1 (zQi (fun v2 τ2 => K v2 τ2) (fun E τ => X E τ))) (fun E τ => X E τ))) :
    CT g l M_X6_unlikeRows 0 [.int x0, .int x1] σ (zQi K X) := by
  refine CT_of rfl (by decide) (Nat.le_of_ble_eq_true rfl) ?_
  change EV _ _ _ _ _ 0 [(0, .int x0), (1, .int x1)] [] _
  refine e_iload_n dX6_unlikeRows_0 rfl 0 rfl ?_
  refine e_iload_n dX6_unlikeRows_1 rfl 1 rfl ?_
  refine e_callSi (j1 := 0) (j2 := 0) (av := [.int x0, .int x1]) rfl H i_X6_unlikeBits rfl s_X6_unlikeBits q_X6_419 (by decide) (by decide) (Nat.le_of_ble_eq_true rfl) dX6_unlikeRows_2 (fun v1 τ1 H => ?_) (fun E τ H => H)
  refine e_callSi (j1 := 0) (j2 := 0) (av := [.int v1]) rfl H i_J6_bitCount_0f7a4 rfl s_J6_bitCount_0f7a4 q_X6_144 (by decide) (by decide) (Nat.le_of_ble_eq_true rfl) dX6_unlikeRows_5 (fun v2 τ2 H => ?_) (fun E τ H => H)
  exact e_iret rfl dX6_unlikeRows_8 H
