abbrev L_X7_seams_4 (g : zG) (l : Launch) (K : Int32 → zS → Prop) (X : String → zS → Prop) (y1 : Int32) (y2 : Int32) (y3 : Int32) (σ : zS) : Prop :=
  EV g l M_X7_seams 0 (zQi K X) 4 [(0, .ref (zad g 24)), (1, .int y1), (2, .int y2), (3, .int y3)] [] σ
set_option maxRecDepth 20000 in
set_option maxHeartbeats 2000000 in
theorem b_X7_seams {g : zG} {l : Launch} {K : Int32 → zS → Prop} {X : String → zS → Prop} {x1 : Int32} {σ : zS}
    (H : L_X7_seams_4 g l K X x1 0 0 σ) :
    CT g l M_X7_seams 0 [.ref (zad g 24), .int x1] σ (zQi K X) := by
  refine CT_of rfl (by decide) (Nat.le_of_ble_eq_true rfl) ?_
  change EV _ _ _ _ _ 0 [(0, .ref (zad g 24)), (1, .int x1)] [] _
  refine e_iconst (v := 0) dX7_seams_0 (by decide) ?_
  refine e_istore_n (ls' := [(2, .int 0), (0, .ref (zad g 24)), (1, .int x1)]) dX7_seams_1 rfl (by decide) rfl ?_
  refine e_iconst (v := 0) dX7_seams_2 (by decide) ?_
  refine e_istore_n (ls' := [(3, .int 0), (2, .int 0), (0, .ref (zad g 24)), (1, .int x1)]) dX7_seams_3 rfl (by decide) rfl ?_
  refine e_ls [2, 3, 1, 0] rfl ?_
  exact H
set_option maxRecDepth 20000 in
set_option maxHeartbeats 2000000 in
theorem b_X7_seams_4 {g : zG} {l : Launch} {K : Int32 → zS → Prop} {X : String → zS → Prop} {y1 : Int32} {y2 : Int32} {y3 : Int32} {σ : zS}
    (H : (((σ.1 26 (Int32.toNatClampNeg 1)) ≤ y3 → K y2 σ) ∧ (¬ (σ.1 26 (Int32.toNatClampNeg 1)) ≤ y3 → CT g l M_X7_seamBehind 0 [.ref (zad g 24), .int y3] σ (zQi (fun v2 τ2 => (((y1 * v2) ≤ 0 → CT g l M_X7_truth 0 [.int 0] τ2 (zQi (fun v4 τ4 => L_X7_seams_4 g l K X y1 (y2 + v4) (y3 + 1) τ4) (fun E τ => X E τ))) ∧ (¬ (y1 * v2) ≤ 0 → CT g l M_X7_truth 0 [.int 1] τ2 (zQi (fun v5 τ5 => L_X7_seams_4 g l K X y1 (y2 + v5) (y3 + 1) τ5) (fun E τ => X E τ))))) (fun E τ => X E τ))))) :
    L_X7_seams_4 g l K X y1 y2 y3 σ := by
  refine e_iload_n dX7_seams_4 rfl 3 rfl ?_
  refine e_aload_n dX7_seams_5 rfl 0 rfl ?_
  refine fg_X7_20 rfl dX7_seams_6 ?_
  refine e_iconst (v := 1) dX7_seams_9 (by decide) ?_
  refine e_iald (n := 1110) rfl (Nat.le_of_ble_eq_true rfl) (vil (by decide)) dX7_seams_10 ?_
  refine e_icmp_ge (tgt := 41) dX7_seams_11 (by decide) (fun h1 => ?_) (fun h1 => ?_)
  · replace H := H.1 h1
    refine e_iload_n dX7_seams_41 rfl 2 rfl ?_
    exact e_iret rfl dX7_seams_42 H
  · replace H := H.2 h1
    refine e_iload_n dX7_seams_14 rfl 2 rfl ?_
    refine e_iload_n dX7_seams_15 rfl 1 rfl ?_
    refine e_aload_n dX7_seams_16 rfl 0 rfl ?_
    refine e_iload_n dX7_seams_17 rfl 3 rfl ?_
    refine e_callVi (j1 := 0) (j2 := 0) (av := [.int y3]) rfl rfl (Nat.le_of_ble_eq_true rfl) rfl rfl H i_X7_seamBehind rfl n_X7_seamBehind v_X7_seamBehind q_X7_264 (by decide) (by decide) (Nat.le_of_ble_eq_true rfl) dX7_seams_18 (fun v2 τ2 H => ?_) (fun E τ H => H)
    refine e_imul dX7_seams_21 ?_
    refine e_if_le (tgt := 29) dX7_seams_22 (by decide) (fun h3 => ?_) (fun h3 => ?_)
    · replace H := H.1 h3
      refine e_iconst (v := 0) dX7_seams_29 (by decide) ?_
      refine e_callSi (j1 := 0) (j2 := 0) (av := [.int 0]) rfl H i_X7_truth rfl s_X7_truth q_X7_71 (by decide) (by decide) (Nat.le_of_ble_eq_true rfl) dX7_seams_30 (fun v4 τ4 H => ?_) (fun E τ H => H)
      refine e_iadd dX7_seams_33 ?_
      refine e_istore_n (ls' := [(2, .int (y2 + v4)), (0, .ref (zad g 24)), (1, .int y1), (3, .int y3)]) dX7_seams_34 rfl (by decide) rfl ?_
      refine e_iinc (j := 3) (v := (y3 + 1)) (ls' := [(3, .int (y3 + 1)), (2, .int (y2 + v4)), (0, .ref (zad g 24)), (1, .int y1)]) dX7_seams_35 rfl rfl (by decide) rfl ?_
      refine e_goto (tgt := 4) dX7_seams_38 (by decide) ?_
      refine e_ls [2, 3, 1, 0] rfl ?_
      exact H
    · replace H := H.2 h3
      refine e_iconst (v := 1) dX7_seams_25 (by decide) ?_
      refine e_goto (tgt := 30) dX7_seams_26 (by decide) ?_
      refine e_callSi (j1 := 0) (j2 := 0) (av := [.int 1]) rfl H i_X7_truth rfl s_X7_truth q_X7_71 (by decide) (by decide) (Nat.le_of_ble_eq_true rfl) dX7_seams_30 (fun v5 τ5 H => ?_) (fun E τ H => H)
      refine e_iadd dX7_seams_33 ?_
      refine e_istore_n (ls' := [(2, .int (y2 + v5)), (0, .ref (zad g 24)), (1, .int y1), (3, .int y3)]) dX7_seams_34 rfl (by decide) rfl ?_
      refine e_iinc (j := 3) (v := (y3 + 1)) (ls' := [(3, .int (y3 + 1)), (2, .int (y2 + v5)), (0, .ref (zad g 24)), (1, .int y1)]) dX7_seams_35 rfl rfl (by decide) rfl ?_
      refine e_goto (tgt := 4) dX7_seams_38 (by decide) ?_
      refine e_ls [2, 3, 1, 0] rfl ?_
      exact H
set_option maxRecDepth 20000 in
set_option maxHeartbeats 2000000 in
theorem b_X7_setting {g : zG} {l : Launch} {K : Int32 → zS → Prop} {X : String → zS → Prop} {x1 : Int32} {σ : zS}
    (H : CT g l M_X7_isIn 0 [.long (Int32.toInt64 x1), .long (0 : Int64), .long (9 : Int64)] σ (zQi (fun v1 τ1 => CT g l M_X7_goes 0 [.ref (zad g 24), .int v1] τ1 (zQi (fun v2 τ2 => ((¬ v2 = 0 → (((x1.toInt < 0 ∨ (8 : Int) < x1.toInt) → K (τ2.1 24 18) τ2) ∧ (x1 = nI 0 → K (τ2.1 26 (Int32.toNatClampNeg 1)) τ2) ∧ (x1 = nI 1 → K (τ2.1 26 (Int32.toNatClampNeg 0)) τ2) ∧ (x1 = nI 2 → CT g l M_X7_columns 0 [.ref (zad g 24)] τ2 (zQi (fun v5 τ5 => K v5 τ5) (fun E τ => X E τ))) ∧ (x1 = nI 3 → CT g l M_X7_boxesOf 0 [.ref (zad g 24), .int 0] τ2 (zQi (fun v6 τ6 => K v6 τ6) (fun E τ => X E τ))) ∧ (x1 = nI 4 → CT g l M_X7_boxesOf 0 [.ref (zad g 24), .int 1] τ2 (zQi (fun v7 τ7 => K v7 τ7) (fun E τ => X E τ))) ∧ (x1 = nI 5 → K (τ2.1 26 (Int32.toNatClampNeg 2)) τ2) ∧ (x1 = nI 6 → CT g l M_X7_tiedMany 0 [.ref (zad g 24)] τ2 (zQi (fun v8 τ8 => K v8 τ8) (fun E τ => X E τ))) ∧ (x1 = nI 7 → CT g l M_X7_seams 0 [.ref (zad g 24), .int 1] τ2 (zQi (fun v9 τ9 => K v9 τ9) (fun E τ => X E τ))) ∧ (x1 = nI 8 → CT g l M_X7_seams 0 [.ref (zad g 24), .int (-1)] τ2 (zQi (fun v10 τ10 => K v10 τ10) (fun E τ => X E τ))))) ∧ (v2 = 0 → K 0 τ2))) (fun E τ => X E τ))) (fun E τ => X E τ))) :
    CT g l M_X7_setting 0 [.ref (zad g 24), .int x1] σ (zQi K X) := by
  refine CT_of rfl (by decide) (Nat.le_of_ble_eq_true rfl) ?_
  change EV _ _ _ _ _ 0 [(0, .ref (zad g 24)), (1, .int x1)] [] _
  refine e_aload_n dX7_setting_0 rfl 0 rfl ?_
  refine e_iload_n dX7_setting_1 rfl 1 rfl ?_
  refine e_i2l (v := Int32.toInt64 x1) dX7_setting_2 rfl ?_
  refine e_lconst (v := 0) dX7_setting_3 (by decide) ?_
  refine e_ldc2 k_X7_300 dX7_setting_4 ?_
  refine e_callSi (j1 := 0) (j2 := 0) (av := [.long (Int32.toInt64 x1), .long (0 : Int64), .long (9 : Int64)]) rfl H i_X7_isIn rfl s_X7_isIn q_X7_85 (by decide) (by decide) (Nat.le_of_ble_eq_true rfl) dX7_setting_7 (fun v1 τ1 H => ?_) (fun E τ H => H)
  refine e_callVi (j1 := 0) (j2 := 0) (av := [.int v1]) rfl rfl (Nat.le_of_ble_eq_true rfl) rfl rfl H i_X7_goes rfl n_X7_goes v_X7_goes q_X7_78 (by decide) (by decide) (Nat.le_of_ble_eq_true rfl) dX7_setting_10 (fun v2 τ2 H => ?_) (fun E τ H => H)
  refine e_if_ne (tgt := 18) dX7_setting_13 (by decide) (fun h3 => ?_) (fun h3 => ?_)
  · replace H := H.1 h3
    refine e_iload_n dX7_setting_18 rfl 1 rfl ?_
    rcases zsw 9 x1 (by decide) with h4 | ⟨h4k, h4l, h4⟩
    · replace H := H.1 h4
      refine e_tableOut (tgt := 123) dX7_setting_19 h4 (by decide) ?_
      refine e_aload_n dX7_setting_123 rfl 0 rfl ?_
      refine fg_X7_150 rfl dX7_setting_124 ?_
      exact e_iret rfl dX7_setting_127 H
    · match h4k, h4l, h4 with
      | 0, _, h4 =>
        replace H := H.2.1 h4
        refine e_tableIn (tgt := 68) dX7_setting_19 (by rw [h4]; decide) (by rw [h4]; decide) (by rw [h4]; rfl) (by decide) ?_
        refine e_aload_n dX7_setting_68 rfl 0 rfl ?_
        refine fg_X7_20 rfl dX7_setting_69 ?_
        refine e_iconst (v := 1) dX7_setting_72 (by decide) ?_
        refine e_iald (n := 1110) rfl (Nat.le_of_ble_eq_true rfl) (vil (by decide)) dX7_setting_73 ?_
        exact e_iret rfl dX7_setting_74 H
      | 1, _, h4 =>
        replace H := H.2.2.1 h4
        refine e_tableIn (tgt := 75) dX7_setting_19 (by rw [h4]; decide) (by rw [h4]; decide) (by rw [h4]; rfl) (by decide) ?_
        refine e_aload_n dX7_setting_75 rfl 0 rfl ?_
        refine fg_X7_20 rfl dX7_setting_76 ?_
        refine e_iconst (v := 0) dX7_setting_79 (by decide) ?_
        refine e_iald (n := 1110) rfl (Nat.le_of_ble_eq_true rfl) (vil (by decide)) dX7_setting_80 ?_
        exact e_iret rfl dX7_setting_81 H
      | 2, _, h4 =>
        replace H := H.2.2.2.1 h4
        refine e_tableIn (tgt := 82) dX7_setting_19 (by rw [h4]; decide) (by rw [h4]; decide) (by rw [h4]; rfl) (by decide) ?_
        refine e_aload_n dX7_setting_82 rfl 0 rfl ?_
        refine e_callVi (j1 := 0) (j2 := 0) (av := []) rfl rfl (Nat.le_of_ble_eq_true rfl) rfl rfl H i_X7_columns rfl n_X7_columns v_X7_columns q_X7_170 (by decide) (by decide) (Nat.le_of_ble_eq_true rfl) dX7_setting_83 (fun v5 τ5 H => ?_) (fun E τ H => H)
        exact e_iret rfl dX7_setting_86 H
      | 3, _, h4 =>
        replace H := H.2.2.2.2.1 h4
        refine e_tableIn (tgt := 87) dX7_setting_19 (by rw [h4]; decide) (by rw [h4]; decide) (by rw [h4]; rfl) (by decide) ?_
        refine e_aload_n dX7_setting_87 rfl 0 rfl ?_
        refine e_iconst (v := 0) dX7_setting_88 (by decide) ?_
        refine e_callVi (j1 := 0) (j2 := 0) (av := [.int 0]) rfl rfl (Nat.le_of_ble_eq_true rfl) rfl rfl H i_X7_boxesOf rfl n_X7_boxesOf v_X7_boxesOf q_X7_302 (by decide) (by decide) (Nat.le_of_ble_eq_true rfl) dX7_setting_89 (fun v6 τ6 H => ?_) (fun E τ H => H)
        exact e_iret rfl dX7_setting_92 H
      | 4, _, h4 =>
        replace H := H.2.2.2.2.2.1 h4
        refine e_tableIn (tgt := 93) dX7_setting_19 (by rw [h4]; decide) (by rw [h4]; decide) (by rw [h4]; rfl) (by decide) ?_
        refine e_aload_n dX7_setting_93 rfl 0 rfl ?_
        refine e_iconst (v := 1) dX7_setting_94 (by decide) ?_
        refine e_callVi (j1 := 0) (j2 := 0) (av := [.int 1]) rfl rfl (Nat.le_of_ble_eq_true rfl) rfl rfl H i_X7_boxesOf rfl n_X7_boxesOf v_X7_boxesOf q_X7_302 (by decide) (by decide) (Nat.le_of_ble_eq_true rfl) dX7_setting_95 (fun v7 τ7 H => ?_) (fun E τ H => H)
        exact e_iret rfl dX7_setting_98 H
      | 5, _, h4 =>
        replace H := H.2.2.2.2.2.2.1 h4
        refine e_tableIn (tgt := 99) dX7_setting_19 (by rw [h4]; decide) (by rw [h4]; decide) (by rw [h4]; rfl) (by decide) ?_
        refine e_aload_n dX7_setting_99 rfl 0 rfl ?_
        refine fg_X7_20 rfl dX7_setting_100 ?_
        refine e_iconst (v := 2) dX7_setting_103 (by decide) ?_
        refine e_iald (n := 1110) rfl (Nat.le_of_ble_eq_true rfl) (vil (by decide)) dX7_setting_104 ?_
        exact e_iret rfl dX7_setting_105 H
      | 6, _, h4 =>
        replace H := H.2.2.2.2.2.2.2.1 h4
        refine e_tableIn (tgt := 106) dX7_setting_19 (by rw [h4]; decide) (by rw [h4]; decide) (by rw [h4]; rfl) (by decide) ?_
        refine e_aload_n dX7_setting_106 rfl 0 rfl ?_
        refine e_callVi (j1 := 0) (j2 := 0) (av := []) rfl rfl (Nat.le_of_ble_eq_true rfl) rfl rfl H i_X7_tiedMany rfl n_X7_tiedMany v_X7_tiedMany q_X7_305 (by decide) (by decide) (Nat.le_of_ble_eq_true rfl) dX7_setting_107 (fun v8 τ8 H => ?_) (fun E τ H => H)
        exact e_iret rfl dX7_setting_110 H
      | 7, _, h4 =>
        replace H := H.2.2.2.2.2.2.2.2.1 h4
        refine e_tableIn (tgt := 111) dX7_setting_19 (by rw [h4]; decide) (by rw [h4]; decide) (by rw [h4]; rfl) (by decide) ?_
        refine e_aload_n dX7_setting_111 rfl 0 rfl ?_
        refine e_iconst (v := 1) dX7_setting_112 (by decide) ?_
        refine e_callVi (j1 := 0) (j2 := 0) (av := [.int 1]) rfl rfl (Nat.le_of_ble_eq_true rfl) rfl rfl H i_X7_seams rfl n_X7_seams v_X7_seams q_X7_308 (by decide) (by decide) (Nat.le_of_ble_eq_true rfl) dX7_setting_113 (fun v9 τ9 H => ?_) (fun E τ H => H)
        exact e_iret rfl dX7_setting_116 H
      | 8, _, h4 =>
        replace H := H.2.2.2.2.2.2.2.2.2 h4
        refine e_tableIn (tgt := 117) dX7_setting_19 (by rw [h4]; decide) (by rw [h4]; decide) (by rw [h4]; rfl) (by decide) ?_
        refine e_aload_n dX7_setting_117 rfl 0 rfl ?_
        refine e_iconst (v := (-1)) dX7_setting_118 (by decide) ?_
        refine e_callVi (j1 := 0) (j2 := 0) (av := [.int (-1)]) rfl rfl (Nat.le_of_ble_eq_true rfl) rfl rfl H i_X7_seams rfl n_X7_seams v_X7_seams q_X7_308 (by decide) (by decide) (Nat.le_of_ble_eq_true rfl) dX7_setting_119 (fun v10 τ10 H => ?_) (fun E τ H => H)
        exact e_iret rfl dX7_setting_122 H
      | n + 9, h, _ => exact absurd h (by omega)
  · replace H := H.2 h3
    refine e_iconst (v := 0) dX7_setting_16 (by decide) ?_
    exact e_iret rfl dX7_setting_17 H
set_option maxRecDepth 20000 in
set_option maxHeartbeats 2000000 in
theorem b_X7_slat {g : zG} {l : Launch} {K : Int32 → zS → Prop} {X : String → zS → Prop} {x1 : Int32} {x2 : Int32} {σ : zS}
    (H : CT g l M_X7_isSlat 0 [.ref (zad g 24), .int x1] σ (zQi (fun v1 τ1 => CT g l M_X7_isIn 0 [.long (Int32.toInt64 x2), .long (0 : Int64), .long (7 : Int64)] τ1 (zQi (fun v2 τ2 => CT g l M_X7_goesBoth 0 [.ref (zad g 24), .int v1, .int v2] τ2 (zQi (fun v3 τ3 => ((¬ v3 = 0 → (((x2.toInt < 0 ∨ (6 : Int) < x2.toInt) → CT g l M_X7_unlike 0 [.ref (zad g 24), .int x1, .int 1] τ3 (zQi (fun v6 τ6 => K v6 τ6) (fun E τ => X E τ))) ∧ (x2 = nI 0 → CT g l M_X7_of 0 [.ref (zad g 24), .int x1, .int 0] τ3 (zQi (fun v7 τ7 => K v7 τ7) (fun E τ => X E τ))) ∧ (x2 = nI 1 → CT g l M_X7_firstOf 0 [.ref (zad g 24), .int x1] τ3 (zQi (fun v8 τ8 => K v8 τ8) (fun E τ => X E τ))) ∧ (x2 = nI 2 → CT g l M_X7_of 0 [.ref (zad g 24), .int x1, .int 1] τ3 (zQi (fun v9 τ9 => K v9 τ9) (fun E τ => X E τ))) ∧ (x2 = nI 3 → CT g l M_X7_of 0 [.ref (zad g 24), .int x1, .int 2] τ3 (zQi (fun v10 τ10 => K v10 τ10) (fun E τ => X E τ))) ∧ (x2 = nI 4 → CT g l M_X7_of 0 [.ref (zad g 24), .int x1, .int 3] τ3 (zQi (fun v11 τ11 => K v11 τ11) (fun E τ => X E τ))) ∧ (x2 = nI 5 → CT g l M_X7_of 0 [.ref (zad g 24), .int x1, .int 4] τ3 (zQi (fun v12 τ12 => K v12 τ12) (fun E τ => X E τ))) ∧ (x2 = nI 6 → CT g l M_X7_unlike 0 [.ref (zad g 24), .int x1, .int 0] τ3 (zQi (fun v13 τ13 => K v13 τ13) (fun E τ => X E τ))))) ∧ (v3 = 0 → K 0 τ3))) (fun E τ => X E τ))) (fun E τ => X E τ))) (fun E τ => X E τ))) :
    CT g l M_X7_slat 0 [.ref (zad g 24), .int x1, .int x2] σ (zQi K X) := by
  refine CT_of rfl (by decide) (Nat.le_of_ble_eq_true rfl) ?_
  change EV _ _ _ _ _ 0 [(0, .ref (zad g 24)), (1, .int x1), (2, .int x2)] [] _
  refine e_aload_n dX7_slat_0 rfl 0 rfl ?_
  refine e_aload_n dX7_slat_1 rfl 0 rfl ?_
  refine e_iload_n dX7_slat_2 rfl 1 rfl ?_
  refine e_callVi (j1 := 0) (j2 := 0) (av := [.int x1]) rfl rfl (Nat.le_of_ble_eq_true rfl) rfl rfl H i_X7_isSlat rfl n_X7_isSlat v_X7_isSlat q_X7_290 (by decide) (by decide) (Nat.le_of_ble_eq_true rfl) dX7_slat_3 (fun v1 τ1 H => ?_) (fun E τ H => H)
  refine e_iload_n dX7_slat_6 rfl 2 rfl ?_
  refine e_i2l (v := Int32.toInt64 x2) dX7_slat_7 rfl ?_
  refine e_lconst (v := 0) dX7_slat_8 (by decide) ?_
  refine e_ldc2 k_X7_311 dX7_slat_9 ?_
  refine e_callSi (j1 := 0) (j2 := 0) (av := [.long (Int32.toInt64 x2), .long (0 : Int64), .long (7 : Int64)]) rfl H i_X7_isIn rfl s_X7_isIn q_X7_85 (by decide) (by decide) (Nat.le_of_ble_eq_true rfl) dX7_slat_12 (fun v2 τ2 H => ?_) (fun E τ H => H)
  refine e_callVi (j1 := 0) (j2 := 0) (av := [.int v1, .int v2]) rfl rfl (Nat.le_of_ble_eq_true rfl) rfl rfl H i_X7_goesBoth rfl n_X7_goesBoth v_X7_goesBoth q_X7_313 (by decide) (by decide) (Nat.le_of_ble_eq_true rfl) dX7_slat_15 (fun v3 τ3 H => ?_) (fun E τ H => H)
  refine e_if_ne (tgt := 23) dX7_slat_18 (by decide) (fun h4 => ?_) (fun h4 => ?_)
  · replace H := H.1 h4
    refine e_iload_n dX7_slat_23 rfl 2 rfl ?_
    rcases zsw 7 x2 (by decide) with h5 | ⟨h5k, h5l, h5⟩
    · replace H := H.1 h5
      refine e_tableOut (tgt := 116) dX7_slat_24 h5 (by decide) ?_
      refine e_aload_n dX7_slat_116 rfl 0 rfl ?_
      refine e_iload_n dX7_slat_117 rfl 1 rfl ?_
      refine e_iconst (v := 1) dX7_slat_118 (by decide) ?_
      refine e_callVi (j1 := 0) (j2 := 0) (av := [.int x1, .int 1]) rfl rfl (Nat.le_of_ble_eq_true rfl) rfl rfl H i_X7_unlike rfl n_X7_unlike v_X7_unlike q_X7_317 (by decide) (by decide) (Nat.le_of_ble_eq_true rfl) dX7_slat_119 (fun v6 τ6 H => ?_) (fun E τ H => H)
      exact e_iret rfl dX7_slat_122 H
    · match h5k, h5l, h5 with
      | 0, _, h5 =>
        replace H := H.2.1 h5
        refine e_tableIn (tgt := 68) dX7_slat_24 (by rw [h5]; decide) (by rw [h5]; decide) (by rw [h5]; rfl) (by decide) ?_
        refine e_aload_n dX7_slat_68 rfl 0 rfl ?_
        refine e_iload_n dX7_slat_69 rfl 1 rfl ?_
        refine e_iconst (v := 0) dX7_slat_70 (by decide) ?_
        refine e_callVi (j1 := 0) (j2 := 0) (av := [.int x1, .int 0]) rfl rfl (Nat.le_of_ble_eq_true rfl) rfl rfl H i_X7_of rfl n_X7_of v_X7_of q_X7_164 (by decide) (by decide) (Nat.le_of_ble_eq_true rfl) dX7_slat_71 (fun v7 τ7 H => ?_) (fun E τ H => H)
        exact e_iret rfl dX7_slat_74 H
      | 1, _, h5 =>
        replace H := H.2.2.1 h5
        refine e_tableIn (tgt := 75) dX7_slat_24 (by rw [h5]; decide) (by rw [h5]; decide) (by rw [h5]; rfl) (by decide) ?_
        refine e_aload_n dX7_slat_75 rfl 0 rfl ?_
        refine e_iload_n dX7_slat_76 rfl 1 rfl ?_
        refine e_callVi (j1 := 0) (j2 := 0) (av := [.int x1]) rfl rfl (Nat.le_of_ble_eq_true rfl) rfl rfl H i_X7_firstOf rfl n_X7_firstOf v_X7_firstOf q_X7_167 (by decide) (by decide) (Nat.le_of_ble_eq_true rfl) dX7_slat_77 (fun v8 τ8 H => ?_) (fun E τ H => H)
        exact e_iret rfl dX7_slat_80 H
      | 2, _, h5 =>
        replace H := H.2.2.2.1 h5
        refine e_tableIn (tgt := 81) dX7_slat_24 (by rw [h5]; decide) (by rw [h5]; decide) (by rw [h5]; rfl) (by decide) ?_
        refine e_aload_n dX7_slat_81 rfl 0 rfl ?_
        refine e_iload_n dX7_slat_82 rfl 1 rfl ?_
        refine e_iconst (v := 1) dX7_slat_83 (by decide) ?_
        refine e_callVi (j1 := 0) (j2 := 0) (av := [.int x1, .int 1]) rfl rfl (Nat.le_of_ble_eq_true rfl) rfl rfl H i_X7_of rfl n_X7_of v_X7_of q_X7_164 (by decide) (by decide) (Nat.le_of_ble_eq_true rfl) dX7_slat_84 (fun v9 τ9 H => ?_) (fun E τ H => H)
        exact e_iret rfl dX7_slat_87 H
      | 3, _, h5 =>
        replace H := H.2.2.2.2.1 h5
        refine e_tableIn (tgt := 88) dX7_slat_24 (by rw [h5]; decide) (by rw [h5]; decide) (by rw [h5]; rfl) (by decide) ?_
        refine e_aload_n dX7_slat_88 rfl 0 rfl ?_
        refine e_iload_n dX7_slat_89 rfl 1 rfl ?_
        refine e_iconst (v := 2) dX7_slat_90 (by decide) ?_
        refine e_callVi (j1 := 0) (j2 := 0) (av := [.int x1, .int 2]) rfl rfl (Nat.le_of_ble_eq_true rfl) rfl rfl H i_X7_of rfl n_X7_of v_X7_of q_X7_164 (by decide) (by decide) (Nat.le_of_ble_eq_true rfl) dX7_slat_91 (fun v10 τ10 H => ?_) (fun E τ H => H)
        exact e_iret rfl dX7_slat_94 H
      | 4, _, h5 =>
        replace H := H.2.2.2.2.2.1 h5
        refine e_tableIn (tgt := 95) dX7_slat_24 (by rw [h5]; decide) (by rw [h5]; decide) (by rw [h5]; rfl) (by decide) ?_
        refine e_aload_n dX7_slat_95 rfl 0 rfl ?_
        refine e_iload_n dX7_slat_96 rfl 1 rfl ?_
        refine e_iconst (v := 3) dX7_slat_97 (by decide) ?_
        refine e_callVi (j1 := 0) (j2 := 0) (av := [.int x1, .int 3]) rfl rfl (Nat.le_of_ble_eq_true rfl) rfl rfl H i_X7_of rfl n_X7_of v_X7_of q_X7_164 (by decide) (by decide) (Nat.le_of_ble_eq_true rfl) dX7_slat_98 (fun v11 τ11 H => ?_) (fun E τ H => H)
        exact e_iret rfl dX7_slat_101 H
      | 5, _, h5 =>
        replace H := H.2.2.2.2.2.2.1 h5
        refine e_tableIn (tgt := 102) dX7_slat_24 (by rw [h5]; decide) (by rw [h5]; decide) (by rw [h5]; rfl) (by decide) ?_
        refine e_aload_n dX7_slat_102 rfl 0 rfl ?_
        refine e_iload_n dX7_slat_103 rfl 1 rfl ?_
        refine e_iconst (v := 4) dX7_slat_104 (by decide) ?_
        refine e_callVi (j1 := 0) (j2 := 0) (av := [.int x1, .int 4]) rfl rfl (Nat.le_of_ble_eq_true rfl) rfl rfl H i_X7_of rfl n_X7_of v_X7_of q_X7_164 (by decide) (by decide) (Nat.le_of_ble_eq_true rfl) dX7_slat_105 (fun v12 τ12 H => ?_) (fun E τ H => H)
        exact e_iret rfl dX7_slat_108 H
      | 6, _, h5 =>
        replace H := H.2.2.2.2.2.2.2 h5
        refine e_tableIn (tgt := 109) dX7_slat_24 (by rw [h5]; decide) (by rw [h5]; decide) (by rw [h5]; rfl) (by decide) ?_
        refine e_aload_n dX7_slat_109 rfl 0 rfl ?_
        refine e_iload_n dX7_slat_110 rfl 1 rfl ?_
        refine e_iconst (v := 0) dX7_slat_111 (by decide) ?_
        refine e_callVi (j1 := 0) (j2 := 0) (av := [.int x1, .int 0]) rfl rfl (Nat.le_of_ble_eq_true rfl) rfl rfl H i_X7_unlike rfl n_X7_unlike v_X7_unlike q_X7_317 (by decide) (by decide) (Nat.le_of_ble_eq_true rfl) dX7_slat_112 (fun v13 τ13 H => ?_) (fun E τ H => H)
        exact e_iret rfl dX7_slat_115 H
      | n + 7, h, _ => exact absurd h (by omega)
  · replace H := H.2 h4
    refine e_iconst (v := 0) dX7_slat_21 (by decide) ?_
    exact e_iret rfl dX7_slat_22 H
set_option maxRecDepth 20000 in
set_option maxHeartbeats 2000000 in
theorem b_X7_slatAt {g : zG} {l : Launch} {K : Int32 → zS → Prop} {X : String → zS → Prop} {x1 : Int32} {σ : zS}
    (H : CT g l M_X7_isColumn 0 [.ref (zad g 24), .int x1] σ (zQi (fun v1 τ1 => CT g l M_X7_goes 0 [.ref (zad g 24), .int v1] τ1 (zQi (fun v2 τ2 => ((v2 = 0 → K 0 τ2) ∧ (¬ v2 = 0 → CT g l M_X7_slatOf 0 [.ref (zad g 24), .int x1] τ2 (zQi (fun v4 τ4 => K v4 τ4) (fun E τ => X E τ))))) (fun E τ => X E τ))) (fun E τ => X E τ))) :
    CT g l M_X7_slatAt 0 [.ref (zad g 24), .int x1] σ (zQi K X) := by
  refine CT_of rfl (by decide) (Nat.le_of_ble_eq_true rfl) ?_
  change EV _ _ _ _ _ 0 [(0, .ref (zad g 24)), (1, .int x1)] [] _
  refine e_aload_n dX7_slatAt_0 rfl 0 rfl ?_
  refine e_aload_n dX7_slatAt_1 rfl 0 rfl ?_
  refine e_iload_n dX7_slatAt_2 rfl 1 rfl ?_
  refine e_callVi (j1 := 0) (j2 := 0) (av := [.int x1]) rfl rfl (Nat.le_of_ble_eq_true rfl) rfl rfl H i_X7_isColumn rfl n_X7_isColumn v_X7_isColumn q_X7_320 (by decide) (by decide) (Nat.le_of_ble_eq_true rfl) dX7_slatAt_3 (fun v1 τ1 H => ?_) (fun E τ H => H)
  refine e_callVi (j1 := 0) (j2 := 0) (av := [.int v1]) rfl rfl (Nat.le_of_ble_eq_true rfl) rfl rfl H i_X7_goes rfl n_X7_goes v_X7_goes q_X7_78 (by decide) (by decide) (Nat.le_of_ble_eq_true rfl) dX7_slatAt_6 (fun v2 τ2 H => ?_) (fun E τ H => H)
  refine e_if_eq (tgt := 20) dX7_slatAt_9 (by decide) (fun h3 => ?_) (fun h3 => ?_)
  · replace H := H.1 h3
    refine e_iconst (v := 0) dX7_slatAt_20 (by decide) ?_
    exact e_iret rfl dX7_slatAt_21 H
  · replace H := H.2 h3
    refine e_aload_n dX7_slatAt_12 rfl 0 rfl ?_
    refine e_iload_n dX7_slatAt_13 rfl 1 rfl ?_
    refine e_callVi (j1 := 0) (j2 := 0) (av := [.int x1]) rfl rfl (Nat.le_of_ble_eq_true rfl) rfl rfl H i_X7_slatOf rfl n_X7_slatOf v_X7_slatOf q_X7_261 (by decide) (by decide) (Nat.le_of_ble_eq_true rfl) dX7_slatAt_14 (fun v4 τ4 H => ?_) (fun E τ H => H)
    refine e_goto (tgt := 21) dX7_slatAt_17 (by decide) ?_
    exact e_iret rfl dX7_slatAt_21 H
set_option maxRecDepth 20000 in
set_option maxHeartbeats 2000000 in
theorem b_X7_picture {g : zG} {l : Launch} {K : Int32 → zS → Prop} {X : String → zS → Prop} {x1 : Int32} {x2 : Int32} {x3 : Int32} {σ : zS}
    (H : CT g l M_X7_isColumn 0 [.ref (zad g 24), .int x2] σ (zQi (fun v1 τ1 => ((v1 = 0 → CT g l M_X7_goes 0 [.ref (zad g 24), .int 0] τ1 (zQi (fun v3 τ3 => ((v3 = 0 → K 0 τ3) ∧ (¬ v3 = 0 → CT g l M_X7_truth 0 [.int x1] τ3 (zQi (fun v5 τ5 => CT g l M_X7_pictureAt 0 [.ref (zad g 24), .int v5, .int x2, .int x3] τ5 (zQi (fun v6 τ6 => K v6 τ6) (fun E τ => X E τ))) (fun E τ => X E τ))))) (fun E τ => X E τ))) ∧ (¬ v1 = 0 → CT g l M_X7_isRow 0 [.ref (zad g 24), .int x3] τ1 (zQi (fun v7 τ7 => ((v7 = 0 → CT g l M_X7_goes 0 [.ref (zad g 24), .int 0] τ7 (zQi (fun v9 τ9 => ((v9 = 0 → K 0 τ9) ∧ (¬ v9 = 0 → CT g l M_X7_truth 0 [.int x1] τ9 (zQi (fun v11 τ11 => CT g l M_X7_pictureAt 0 [.ref (zad g 24), .int v11, .int x2, .int x3] τ11 (zQi (fun v12 τ12 => K v12 τ12) (fun E τ => X E τ))) (fun E τ => X E τ))))) (fun E τ => X E τ))) ∧ (¬ v7 = 0 → CT g l M_X7_goes 0 [.ref (zad g 24), .int 1] τ7 (zQi (fun v13 τ13 => ((v13 = 0 → K 0 τ13) ∧ (¬ v13 = 0 → CT g l M_X7_truth 0 [.int x1] τ13 (zQi (fun v15 τ15 => CT g l M_X7_pictureAt 0 [.ref (zad g 24), .int v15, .int x2, .int x3] τ15 (zQi (fun v16 τ16 => K v16 τ16) (fun E τ => X E τ))) (fun E τ => X E τ))))) (fun E τ => X E τ))))) (fun E τ => X E τ))))) (fun E τ => X E τ))) :
    CT g l M_X7_picture 0 [.ref (zad g 24), .int x1, .int x2, .int x3] σ (zQi K X) := by
  refine CT_of rfl (by decide) (Nat.le_of_ble_eq_true rfl) ?_
  change EV _ _ _ _ _ 0 [(0, .ref (zad g 24)), (1, .int x1), (2, .int x2), (3, .int x3)] [] _
  refine e_aload_n dX7_picture_0 rfl 0 rfl ?_
  refine e_aload_n dX7_picture_1 rfl 0 rfl ?_
  refine e_iload_n dX7_picture_2 rfl 2 rfl ?_
  refine e_callVi (j1 := 0) (j2 := 0) (av := [.int x2]) rfl rfl (Nat.le_of_ble_eq_true rfl) rfl rfl H i_X7_isColumn rfl n_X7_isColumn v_X7_isColumn q_X7_320 (by decide) (by decide) (Nat.le_of_ble_eq_true rfl) dX7_picture_3 (fun v1 τ1 H => ?_) (fun E τ H => H)
  refine e_if_eq (tgt := 21) dX7_picture_6 (by decide) (fun h2 => ?_) (fun h2 => ?_)
  · replace H := H.1 h2
    refine e_iconst (v := 0) dX7_picture_21 (by decide) ?_
    refine e_callVi (j1 := 0) (j2 := 0) (av := [.int 0]) rfl rfl (Nat.le_of_ble_eq_true rfl) rfl rfl H i_X7_goes rfl n_X7_goes v_X7_goes q_X7_78 (by decide) (by decide) (Nat.le_of_ble_eq_true rfl) dX7_picture_22 (fun v3 τ3 H => ?_) (fun E τ H => H)
    refine e_if_eq (tgt := 41) dX7_picture_25 (by decide) (fun h4 => ?_) (fun h4 => ?_)
    · replace H := H.1 h4
      refine e_iconst (v := 0) dX7_picture_41 (by decide) ?_
      exact e_iret rfl dX7_picture_42 H
    · replace H := H.2 h4
      refine e_aload_n dX7_picture_28 rfl 0 rfl ?_
      refine e_iload_n dX7_picture_29 rfl 1 rfl ?_
      refine e_callSi (j1 := 0) (j2 := 0) (av := [.int x1]) rfl H i_X7_truth rfl s_X7_truth q_X7_71 (by decide) (by decide) (Nat.le_of_ble_eq_true rfl) dX7_picture_30 (fun v5 τ5 H => ?_) (fun E τ H => H)
      refine e_iload_n dX7_picture_33 rfl 2 rfl ?_
      refine e_iload_n dX7_picture_34 rfl 3 rfl ?_
      refine e_callVi (j1 := 0) (j2 := 0) (av := [.int v5, .int x2, .int x3]) rfl rfl (Nat.le_of_ble_eq_true rfl) rfl rfl H i_X7_pictureAt rfl n_X7_pictureAt v_X7_pictureAt q_X7_177 (by decide) (by decide) (Nat.le_of_ble_eq_true rfl) dX7_picture_35 (fun v6 τ6 H => ?_) (fun E τ H => H)
      refine e_goto (tgt := 42) dX7_picture_38 (by decide) ?_
      exact e_iret rfl dX7_picture_42 H
  · replace H := H.2 h2
    refine e_aload_n dX7_picture_9 rfl 0 rfl ?_
    refine e_iload_n dX7_picture_10 rfl 3 rfl ?_
    refine e_callVi (j1 := 0) (j2 := 0) (av := [.int x3]) rfl rfl (Nat.le_of_ble_eq_true rfl) rfl rfl H i_X7_isRow rfl n_X7_isRow v_X7_isRow q_X7_293 (by decide) (by decide) (Nat.le_of_ble_eq_true rfl) dX7_picture_11 (fun v7 τ7 H => ?_) (fun E τ H => H)
    refine e_if_eq (tgt := 21) dX7_picture_14 (by decide) (fun h8 => ?_) (fun h8 => ?_)
    · replace H := H.1 h8
      refine e_iconst (v := 0) dX7_picture_21 (by decide) ?_
      refine e_callVi (j1 := 0) (j2 := 0) (av := [.int 0]) rfl rfl (Nat.le_of_ble_eq_true rfl) rfl rfl H i_X7_goes rfl n_X7_goes v_X7_goes q_X7_78 (by decide) (by decide) (Nat.le_of_ble_eq_true rfl) dX7_picture_22 (fun v9 τ9 H => ?_) (fun E τ H => H)
      refine e_if_eq (tgt := 41) dX7_picture_25 (by decide) (fun h10 => ?_) (fun h10 => ?_)
      · replace H := H.1 h10
        refine e_iconst (v := 0) dX7_picture_41 (by decide) ?_
        exact e_iret rfl dX7_picture_42 H
      · replace H := H.2 h10
        refine e_aload_n dX7_picture_28 rfl 0 rfl ?_
        refine e_iload_n dX7_picture_29 rfl 1 rfl ?_
        refine e_callSi (j1 := 0) (j2 := 0) (av := [.int x1]) rfl H i_X7_truth rfl s_X7_truth q_X7_71 (by decide) (by decide) (Nat.le_of_ble_eq_true rfl) dX7_picture_30 (fun v11 τ11 H => ?_) (fun E τ H => H)
        refine e_iload_n dX7_picture_33 rfl 2 rfl ?_
        refine e_iload_n dX7_picture_34 rfl 3 rfl ?_
        refine e_callVi (j1 := 0) (j2 := 0) (av := [.int v11, .int x2, .int x3]) rfl rfl (Nat.le_of_ble_eq_true rfl) rfl rfl H i_X7_pictureAt rfl n_X7_pictureAt v_X7_pictureAt q_X7_177 (by decide) (by decide) (Nat.le_of_ble_eq_true rfl) dX7_picture_35 (fun v12 τ12 H => ?_) (fun E τ H => H)
        refine e_goto (tgt := 42) dX7_picture_38 (by decide) ?_
        exact e_iret rfl dX7_picture_42 H
    · replace H := H.2 h8
      refine e_iconst (v := 1) dX7_picture_17 (by decide) ?_
      refine e_goto (tgt := 22) dX7_picture_18 (by decide) ?_
      refine e_callVi (j1 := 0) (j2 := 0) (av := [.int 1]) rfl rfl (Nat.le_of_ble_eq_true rfl) rfl rfl H i_X7_goes rfl n_X7_goes v_X7_goes q_X7_78 (by decide) (by decide) (Nat.le_of_ble_eq_true rfl) dX7_picture_22 (fun v13 τ13 H => ?_) (fun E τ H => H)
      refine e_if_eq (tgt := 41) dX7_picture_25 (by decide) (fun h14 => ?_) (fun h14 => ?_)
      · replace H := H.1 h14
        refine e_iconst (v := 0) dX7_picture_41 (by decide) ?_
        exact e_iret rfl dX7_picture_42 H
      · replace H := H.2 h14
        refine e_aload_n dX7_picture_28 rfl 0 rfl ?_
        refine e_iload_n dX7_picture_29 rfl 1 rfl ?_
        refine e_callSi (j1 := 0) (j2 := 0) (av := [.int x1]) rfl H i_X7_truth rfl s_X7_truth q_X7_71 (by decide) (by decide) (Nat.le_of_ble_eq_true rfl) dX7_picture_30 (fun v15 τ15 H => ?_) (fun E τ H => H)
        refine e_iload_n dX7_picture_33 rfl 2 rfl ?_
        refine e_iload_n dX7_picture_34 rfl 3 rfl ?_
        refine e_callVi (j1 := 0) (j2 := 0) (av := [.int v15, .int x2, .int x3]) rfl rfl (Nat.le_of_ble_eq_true rfl) rfl rfl H i_X7_pictureAt rfl n_X7_pictureAt v_X7_pictureAt q_X7_177 (by decide) (by decide) (Nat.le_of_ble_eq_true rfl) dX7_picture_35 (fun v16 τ16 H => ?_) (fun E τ H => H)
        refine e_goto (tgt := 42) dX7_picture_38 (by decide) ?_
        exact e_iret rfl dX7_picture_42 H
set_option maxRecDepth 20000 in
set_option maxHeartbeats 2000000 in
theorem b_X7_face {g : zG} {l : Launch} {K : Int32 → zS → Prop} {X : String → zS → Prop} {x1 : Int32} {x2 : Int32} {x3 : Int32} {x4 : Int32} {σ : zS}
    (H : CT g l M_X7_isOfSlat 0 [.ref (zad g 24), .int x1, .int x3, .int x4] σ (zQi (fun v1 τ1 => CT g l M_X7_goes 0 [.ref (zad g 24), .int v1] τ1 (zQi (fun v2 τ2 => ((v2 = 0 → K 0 τ2) ∧ (¬ v2 = 0 → CT g l M_X7_truth 0 [.int x2] τ2 (zQi (fun v4 τ4 => CT g l M_X7_firstOf 0 [.ref (zad g 24), .int x1] τ4 (zQi (fun v5 τ5 => CT g l M_X7_painted 0 [.ref (zad g 24), .int v4, .int (v5 + x3), .int x4] τ5 (zQi (fun v6 τ6 => K v6 τ6) (fun E τ => X E τ))) (fun E τ => X E τ))) (fun E τ => X E τ))))) (fun E τ => X E τ))) (fun E τ => X E τ))) :
    CT g l M_X7_face 0 [.ref (zad g 24), .int x1, .int x2, .int x3, .int x4] σ (zQi K X) := by
  refine CT_of rfl (by decide) (Nat.le_of_ble_eq_true rfl) ?_
  change EV _ _ _ _ _ 0 [(0, .ref (zad g 24)), (1, .int x1), (2, .int x2), (3, .int x3), (4, .int x4)] [] _
  refine e_aload_n dX7_face_0 rfl 0 rfl ?_
  refine e_aload_n dX7_face_1 rfl 0 rfl ?_
  refine e_iload_n dX7_face_2 rfl 1 rfl ?_
  refine e_iload_n dX7_face_3 rfl 3 rfl ?_
  refine e_iload dX7_face_4 4 rfl ?_
  refine e_callVi (j1 := 0) (j2 := 0) (av := [.int x1, .int x3, .int x4]) rfl rfl (Nat.le_of_ble_eq_true rfl) rfl rfl H i_X7_isOfSlat rfl n_X7_isOfSlat v_X7_isOfSlat q_X7_323 (by decide) (by decide) (Nat.le_of_ble_eq_true rfl) dX7_face_6 (fun v1 τ1 H => ?_) (fun E τ H => H)
  refine e_callVi (j1 := 0) (j2 := 0) (av := [.int v1]) rfl rfl (Nat.le_of_ble_eq_true rfl) rfl rfl H i_X7_goes rfl n_X7_goes v_X7_goes q_X7_78 (by decide) (by decide) (Nat.le_of_ble_eq_true rfl) dX7_face_9 (fun v2 τ2 H => ?_) (fun E τ H => H)
  refine e_if_eq (tgt := 35) dX7_face_12 (by decide) (fun h3 => ?_) (fun h3 => ?_)
  · replace H := H.1 h3
    refine e_iconst (v := 0) dX7_face_35 (by decide) ?_
    exact e_iret rfl dX7_face_36 H
  · replace H := H.2 h3
    refine e_aload_n dX7_face_15 rfl 0 rfl ?_
    refine e_iload_n dX7_face_16 rfl 2 rfl ?_
    refine e_callSi (j1 := 0) (j2 := 0) (av := [.int x2]) rfl H i_X7_truth rfl s_X7_truth q_X7_71 (by decide) (by decide) (Nat.le_of_ble_eq_true rfl) dX7_face_17 (fun v4 τ4 H => ?_) (fun E τ H => H)
    refine e_aload_n dX7_face_20 rfl 0 rfl ?_
    refine e_iload_n dX7_face_21 rfl 1 rfl ?_
    refine e_callVi (j1 := 0) (j2 := 0) (av := [.int x1]) rfl rfl (Nat.le_of_ble_eq_true rfl) rfl rfl H i_X7_firstOf rfl n_X7_firstOf v_X7_firstOf q_X7_167 (by decide) (by decide) (Nat.le_of_ble_eq_true rfl) dX7_face_22 (fun v5 τ5 H => ?_) (fun E τ H => H)
    refine e_iload_n dX7_face_25 rfl 3 rfl ?_
    refine e_iadd dX7_face_26 ?_
    refine e_iload dX7_face_27 4 rfl ?_
    refine e_callVi (j1 := 0) (j2 := 0) (av := [.int v4, .int (v5 + x3), .int x4]) rfl rfl (Nat.le_of_ble_eq_true rfl) rfl rfl H i_X7_painted rfl n_X7_painted v_X7_painted q_X7_180 (by decide) (by decide) (Nat.le_of_ble_eq_true rfl) dX7_face_29 (fun v6 τ6 H => ?_) (fun E τ H => H)
    refine e_goto (tgt := 36) dX7_face_32 (by decide) ?_
    exact e_iret rfl dX7_face_36 H
abbrev L_X7_common_14 (g : zG) (l : Launch) (K : Int32 → zS → Prop) (X : String → zS → Prop) (y1 : Int32) (y2 : Int32) (y3 : Int32) (σ : zS) : Prop :=
  EV g l M_X7_common 0 (zQi K X) 14 [(0, .ref (zad g 24)), (1, .int y1), (2, .int y2), (3, .int y3)] [] σ
abbrev L_X7_common_22 (g : zG) (l : Launch) (K : Int32 → zS → Prop) (X : String → zS → Prop) (y1 : Int32) (y2 : Int32) (y3 : Int32) (y4 : Int32) (σ : zS) : Prop :=
  EV g l M_X7_common 0 (zQi K X) 22 [(0, .ref (zad g 24)), (1, .int y1), (2, .int y2), (3, .int y3), (4, .int y4)] [] σ
set_option maxRecDepth 20000 in
set_option maxHeartbeats 2000000 in
theorem b_X7_common {g : zG} {l : Launch} {K : Int32 → zS → Prop} {X : String → zS → Prop} {σ : zS}
    (H : (∀ σ1 : zS, σ1 = zup σ 24 0 0 → CT g l M_X7_columns 0 [.ref (zad g 24)] σ1 (zQi (fun v2 τ2 => L_X7_common_14 g l K X 0 v2 0 τ2) (fun E τ => X E τ)))) :
    CT g l M_X7_common 0 [.ref (zad g 24)] σ (zQi K X) := by
  refine CT_of rfl (by decide) (Nat.le_of_ble_eq_true rfl) ?_
  change EV _ _ _ _ _ 0 [(0, .ref (zad g 24))] [] _
  refine e_aload_n dX7_common_0 rfl 0 rfl ?_
  refine e_iconst (v := 0) dX7_common_1 (by decide) ?_
  refine fp_X7_68 rfl dX7_common_2 ?_
  replace H := H _ rfl
  generalize zup σ 24 0 0 = σ1 at H ⊢
  refine e_iconst (v := 0) dX7_common_5 (by decide) ?_
  refine e_istore_n (ls' := [(1, .int 0), (0, .ref (zad g 24))]) dX7_common_6 rfl (by decide) rfl ?_
  refine e_aload_n dX7_common_7 rfl 1 rfl ?_
  refine e_callVi (j1 := 0) (j2 := 0) (av := []) rfl rfl (Nat.le_of_ble_eq_true rfl) rfl rfl H i_X7_columns rfl n_X7_columns v_X7_columns q_X7_170 (by decide) (by decide) (Nat.le_of_ble_eq_true rfl) dX7_common_8 (fun v2 τ2 H => ?_) (fun E τ H => H)
  refine e_istore_n (ls' := [(2, .int v2), (1, .int 0), (0, .ref (zad g 24))]) dX7_common_11 rfl (by decide) rfl ?_
  refine e_iconst (v := 0) dX7_common_12 (by decide) ?_
  refine e_istore_n (ls' := [(3, .int 0), (2, .int v2), (1, .int 0), (0, .ref (zad g 24))]) dX7_common_13 rfl (by decide) rfl ?_
  refine e_ls [3, 2, 1, 0] rfl ?_
  exact H
set_option maxRecDepth 20000 in
set_option maxHeartbeats 2000000 in
theorem b_X7_common_14 {g : zG} {l : Launch} {K : Int32 → zS → Prop} {X : String → zS → Prop} {y1 : Int32} {y2 : Int32} {y3 : Int32} {σ : zS}
    (H : ((y2 ≤ y3 → K y1 σ) ∧ (¬ y2 ≤ y3 → L_X7_common_22 g l K X y1 y2 y3 0 σ))) :
    L_X7_common_14 g l K X y1 y2 y3 σ := by
  refine e_iload_n dX7_common_14 rfl 3 rfl ?_
  refine e_iload_n dX7_common_15 rfl 2 rfl ?_
  refine e_icmp_ge (tgt := 75) dX7_common_16 (by decide) (fun h1 => ?_) (fun h1 => ?_)
  · replace H := H.1 h1
    refine e_iload_n dX7_common_75 rfl 1 rfl ?_
    exact e_iret rfl dX7_common_76 H
  · replace H := H.2 h1
    refine e_iconst (v := 0) dX7_common_19 (by decide) ?_
    refine e_istore (ls' := [(4, .int 0), (0, .ref (zad g 24)), (1, .int y1), (2, .int y2), (3, .int y3)]) dX7_common_20 (by decide) rfl ?_
    refine e_ls [1, 2, 3, 4, 0] rfl ?_
    exact H
set_option maxRecDepth 20000 in
set_option maxHeartbeats 2000000 in
theorem b_X7_common_22 {g : zG} {l : Launch} {K : Int32 → zS → Prop} {X : String → zS → Prop} {y1 : Int32} {y2 : Int32} {y3 : Int32} {y4 : Int32} {σ : zS}
    (H : (((σ.1 26 (Int32.toNatClampNeg 0)) ≤ y4 → L_X7_common_14 g l K X y1 y2 (y3 + 1) σ) ∧ (¬ (σ.1 26 (Int32.toNatClampNeg 0)) ≤ y4 → CT g l M_X7_pictureAt 0 [.ref (zad g 24), .int 0, .int y3, .int y4] σ (zQi (fun v2 τ2 => CT g l M_X7_pictureAt 0 [.ref (zad g 24), .int 1, .int y3, .int y4] τ2 (zQi (fun v3 τ3 => ((¬ v2 = v3 → CT g l M_X7_truth 0 [.int 0] τ3 (zQi (fun v5 τ5 => L_X7_common_22 g l K X (y1 + v5) y2 y3 (y4 + 1) τ5) (fun E τ => X E τ))) ∧ (v2 = v3 → CT g l M_X7_truth 0 [.int 1] τ3 (zQi (fun v6 τ6 => L_X7_common_22 g l K X (y1 + v6) y2 y3 (y4 + 1) τ6) (fun E τ => X E τ))))) (fun E τ => X E τ))) (fun E τ => X E τ))))) :
    L_X7_common_22 g l K X y1 y2 y3 y4 σ := by
  refine e_iload dX7_common_22 4 rfl ?_
  refine e_aload_n dX7_common_24 rfl 0 rfl ?_
  refine fg_X7_20 rfl dX7_common_25 ?_
  refine e_iconst (v := 0) dX7_common_28 (by decide) ?_
  refine e_iald (n := 1110) rfl (Nat.le_of_ble_eq_true rfl) (vil (by decide)) dX7_common_29 ?_
  refine e_icmp_ge (tgt := 69) dX7_common_30 (by decide) (fun h1 => ?_) (fun h1 => ?_)
  · replace H := H.1 h1
    refine e_iinc (j := 3) (v := (y3 + 1)) (ls' := [(3, .int (y3 + 1)), (0, .ref (zad g 24)), (1, .int y1), (2, .int y2), (4, .int y4)]) dX7_common_69 rfl rfl (by decide) rfl ?_
    refine e_goto (tgt := 14) dX7_common_72 (by decide) ?_
    refine e_ls [1, 2, 3, 0] rfl ?_
    exact H
  · replace H := H.2 h1
    refine e_iload_n dX7_common_33 rfl 1 rfl ?_
    refine e_aload_n dX7_common_34 rfl 0 rfl ?_
    refine e_iconst (v := 0) dX7_common_35 (by decide) ?_
    refine e_iload_n dX7_common_36 rfl 3 rfl ?_
    refine e_iload dX7_common_37 4 rfl ?_
    refine e_callVi (j1 := 0) (j2 := 0) (av := [.int 0, .int y3, .int y4]) rfl rfl (Nat.le_of_ble_eq_true rfl) rfl rfl H i_X7_pictureAt rfl n_X7_pictureAt v_X7_pictureAt q_X7_177 (by decide) (by decide) (Nat.le_of_ble_eq_true rfl) dX7_common_39 (fun v2 τ2 H => ?_) (fun E τ H => H)
    refine e_aload_n dX7_common_42 rfl 0 rfl ?_
    refine e_iconst (v := 1) dX7_common_43 (by decide) ?_
    refine e_iload_n dX7_common_44 rfl 3 rfl ?_
    refine e_iload dX7_common_45 4 rfl ?_
    refine e_callVi (j1 := 0) (j2 := 0) (av := [.int 1, .int y3, .int y4]) rfl rfl (Nat.le_of_ble_eq_true rfl) rfl rfl H i_X7_pictureAt rfl n_X7_pictureAt v_X7_pictureAt q_X7_177 (by decide) (by decide) (Nat.le_of_ble_eq_true rfl) dX7_common_47 (fun v3 τ3 H => ?_) (fun E τ H => H)
    refine e_icmp_ne (tgt := 57) dX7_common_50 (by decide) (fun h4 => ?_) (fun h4 => ?_)
    · replace H := H.1 h4
      refine e_iconst (v := 0) dX7_common_57 (by decide) ?_
      refine e_callSi (j1 := 0) (j2 := 0) (av := [.int 0]) rfl H i_X7_truth rfl s_X7_truth q_X7_71 (by decide) (by decide) (Nat.le_of_ble_eq_true rfl) dX7_common_58 (fun v5 τ5 H => ?_) (fun E τ H => H)
      refine e_iadd dX7_common_61 ?_
      refine e_istore_n (ls' := [(1, .int (y1 + v5)), (0, .ref (zad g 24)), (2, .int y2), (3, .int y3), (4, .int y4)]) dX7_common_62 rfl (by decide) rfl ?_
      refine e_iinc (j := 4) (v := (y4 + 1)) (ls' := [(4, .int (y4 + 1)), (1, .int (y1 + v5)), (0, .ref (zad g 24)), (2, .int y2), (3, .int y3)]) dX7_common_63 rfl rfl (by decide) rfl ?_
      refine e_goto (tgt := 22) dX7_common_66 (by decide) ?_
      refine e_ls [2, 1, 3, 4, 0] rfl ?_
      exact H
    · replace H := H.2 h4
      refine e_iconst (v := 1) dX7_common_53 (by decide) ?_
      refine e_goto (tgt := 58) dX7_common_54 (by decide) ?_
      refine e_callSi (j1 := 0) (j2 := 0) (av := [.int 1]) rfl H i_X7_truth rfl s_X7_truth q_X7_71 (by decide) (by decide) (Nat.le_of_ble_eq_true rfl) dX7_common_58 (fun v6 τ6 H => ?_) (fun E τ H => H)
      refine e_iadd dX7_common_61 ?_
      refine e_istore_n (ls' := [(1, .int (y1 + v6)), (0, .ref (zad g 24)), (2, .int y2), (3, .int y3), (4, .int y4)]) dX7_common_62 rfl (by decide) rfl ?_
      refine e_iinc (j := 4) (v := (y4 + 1)) (ls' := [(4, .int (y4 + 1)), (1, .int (y1 + v6)), (0, .ref (zad g 24)), (2, .int y2), (3, .int y3)]) dX7_common_63 rfl rfl (by decide) rfl ?_
      refine e_goto (tgt := 22) dX7_common_66 (by decide) ?_
      refine e_ls [2, 1, 3, 4, 0] rfl ?_
      exact H
set_option maxRecDepth 20000 in
set_option maxHeartbeats 2000000 in
theorem b_X7_isSeeing {g : zG} {l : Launch} {K : Int32 → zS → Prop} {X : String → zS → Prop} {x1 : Int32} {x2 : Int32} {x3 : Int32} {σ : zS}
    (H : CT g l M_X7_isColumn 0 [.ref (zad g 24), .int x2] σ (zQi (fun v1 τ1 => ((v1 = 0 → CT g l M_X7_isAngle 0 [.int x1] τ1 (zQi (fun v3 τ3 => CT g l M_X7_goesBoth 0 [.ref (zad g 24), .int 0, .int v3] τ3 (zQi (fun v4 τ4 => (zbl v4 ∧ K v4 τ4)) (fun E τ => X E τ))) (fun E τ => X E τ))) ∧ (¬ v1 = 0 → CT g l M_X7_isRow 0 [.ref (zad g 24), .int x3] τ1 (zQi (fun v5 τ5 => ((v5 = 0 → CT g l M_X7_isAngle 0 [.int x1] τ5 (zQi (fun v7 τ7 => CT g l M_X7_goesBoth 0 [.ref (zad g 24), .int 0, .int v7] τ7 (zQi (fun v8 τ8 => (zbl v8 ∧ K v8 τ8)) (fun E τ => X E τ))) (fun E τ => X E τ))) ∧ (¬ v5 = 0 → CT g l M_X7_isAngle 0 [.int x1] τ5 (zQi (fun v9 τ9 => CT g l M_X7_goesBoth 0 [.ref (zad g 24), .int 1, .int v9] τ9 (zQi (fun v10 τ10 => (zbl v10 ∧ K v10 τ10)) (fun E τ => X E τ))) (fun E τ => X E τ))))) (fun E τ => X E τ))))) (fun E τ => X E τ))) :
    CT g l M_X7_isSeeing 0 [.ref (zad g 24), .int x1, .int x2, .int x3] σ (zQi K X) := by
  refine CT_of rfl (by decide) (Nat.le_of_ble_eq_true rfl) ?_
  change EV _ _ _ _ _ 0 [(0, .ref (zad g 24)), (1, .int x1), (2, .int x2), (3, .int x3)] [] _
  refine e_aload_n dX7_isSeeing_0 rfl 0 rfl ?_
  refine e_aload_n dX7_isSeeing_1 rfl 0 rfl ?_
  refine e_iload_n dX7_isSeeing_2 rfl 2 rfl ?_
  refine e_callVi (j1 := 0) (j2 := 0) (av := [.int x2]) rfl rfl (Nat.le_of_ble_eq_true rfl) rfl rfl H i_X7_isColumn rfl n_X7_isColumn v_X7_isColumn q_X7_320 (by decide) (by decide) (Nat.le_of_ble_eq_true rfl) dX7_isSeeing_3 (fun v1 τ1 H => ?_) (fun E τ H => H)
  refine e_if_eq (tgt := 21) dX7_isSeeing_6 (by decide) (fun h2 => ?_) (fun h2 => ?_)
  · replace H := H.1 h2
    refine e_iconst (v := 0) dX7_isSeeing_21 (by decide) ?_
    refine e_iload_n dX7_isSeeing_22 rfl 1 rfl ?_
    refine e_callSi (j1 := 0) (j2 := 0) (av := [.int x1]) rfl H i_X7_isAngle rfl s_X7_isAngle q_X7_326 (by decide) (by decide) (Nat.le_of_ble_eq_true rfl) dX7_isSeeing_23 (fun v3 τ3 H => ?_) (fun E τ H => H)
    refine e_callVi (j1 := 0) (j2 := 0) (av := [.int 0, .int v3]) rfl rfl (Nat.le_of_ble_eq_true rfl) rfl rfl H i_X7_goesBoth rfl n_X7_goesBoth v_X7_goesBoth q_X7_313 (by decide) (by decide) (Nat.le_of_ble_eq_true rfl) dX7_isSeeing_26 (fun v4 τ4 H => ?_) (fun E τ H => H)
    exact e_zret rfl (zbl_n H.1) dX7_isSeeing_29 H.2
  · replace H := H.2 h2
    refine e_aload_n dX7_isSeeing_9 rfl 0 rfl ?_
    refine e_iload_n dX7_isSeeing_10 rfl 3 rfl ?_
    refine e_callVi (j1 := 0) (j2 := 0) (av := [.int x3]) rfl rfl (Nat.le_of_ble_eq_true rfl) rfl rfl H i_X7_isRow rfl n_X7_isRow v_X7_isRow q_X7_293 (by decide) (by decide) (Nat.le_of_ble_eq_true rfl) dX7_isSeeing_11 (fun v5 τ5 H => ?_) (fun E τ H => H)
    refine e_if_eq (tgt := 21) dX7_isSeeing_14 (by decide) (fun h6 => ?_) (fun h6 => ?_)
    · replace H := H.1 h6
      refine e_iconst (v := 0) dX7_isSeeing_21 (by decide) ?_
      refine e_iload_n dX7_isSeeing_22 rfl 1 rfl ?_
      refine e_callSi (j1 := 0) (j2 := 0) (av := [.int x1]) rfl H i_X7_isAngle rfl s_X7_isAngle q_X7_326 (by decide) (by decide) (Nat.le_of_ble_eq_true rfl) dX7_isSeeing_23 (fun v7 τ7 H => ?_) (fun E τ H => H)
      refine e_callVi (j1 := 0) (j2 := 0) (av := [.int 0, .int v7]) rfl rfl (Nat.le_of_ble_eq_true rfl) rfl rfl H i_X7_goesBoth rfl n_X7_goesBoth v_X7_goesBoth q_X7_313 (by decide) (by decide) (Nat.le_of_ble_eq_true rfl) dX7_isSeeing_26 (fun v8 τ8 H => ?_) (fun E τ H => H)
      exact e_zret rfl (zbl_n H.1) dX7_isSeeing_29 H.2
    · replace H := H.2 h6
      refine e_iconst (v := 1) dX7_isSeeing_17 (by decide) ?_
      refine e_goto (tgt := 22) dX7_isSeeing_18 (by decide) ?_
      refine e_iload_n dX7_isSeeing_22 rfl 1 rfl ?_
      refine e_callSi (j1 := 0) (j2 := 0) (av := [.int x1]) rfl H i_X7_isAngle rfl s_X7_isAngle q_X7_326 (by decide) (by decide) (Nat.le_of_ble_eq_true rfl) dX7_isSeeing_23 (fun v9 τ9 H => ?_) (fun E τ H => H)
      refine e_callVi (j1 := 0) (j2 := 0) (av := [.int 1, .int v9]) rfl rfl (Nat.le_of_ble_eq_true rfl) rfl rfl H i_X7_goesBoth rfl n_X7_goesBoth v_X7_goesBoth q_X7_313 (by decide) (by decide) (Nat.le_of_ble_eq_true rfl) dX7_isSeeing_26 (fun v10 τ10 H => ?_) (fun E τ H => H)
      exact e_zret rfl (zbl_n H.1) dX7_isSeeing_29 H.2
set_option maxRecDepth 20000 in
set_option maxHeartbeats 2000000 in
theorem b_X7_seenAt {g : zG} {l : Launch} {K : Int32 → zS → Prop} {X : String → zS → Prop} {x1 : Int32} {x2 : Int32} {x3 : Int32} {σ : zS}
    (H : CT g l M_X7_stateOf 0 [.ref (zad g 24), .int x1, .int x2] σ (zQi (fun v1 τ1 => ((¬ v1 = 0 → ((¬ v1 = 1 → K (-1) τ1) ∧ (v1 = 1 → K (-2) τ1))) ∧ (v1 = 0 → CT g l M_X7_colourSeen 0 [.ref (zad g 24), .int x1, .int x2, .int x3] τ1 (zQi (fun v4 τ4 => K v4 τ4) (fun E τ => X E τ))))) (fun E τ => X E τ))) :
    CT g l M_X7_seenAt 0 [.ref (zad g 24), .int x1, .int x2, .int x3] σ (zQi K X) := by
  refine CT_of rfl (by decide) (Nat.le_of_ble_eq_true rfl) ?_
  change EV _ _ _ _ _ 0 [(0, .ref (zad g 24)), (1, .int x1), (2, .int x2), (3, .int x3)] [] _
  refine e_aload_n dX7_seenAt_0 rfl 0 rfl ?_
  refine e_iload_n dX7_seenAt_1 rfl 1 rfl ?_
  refine e_iload_n dX7_seenAt_2 rfl 2 rfl ?_
  refine e_callVi (j1 := 0) (j2 := 0) (av := [.int x1, .int x2]) rfl rfl (Nat.le_of_ble_eq_true rfl) rfl rfl H i_X7_stateOf rfl n_X7_stateOf v_X7_stateOf q_X7_277 (by decide) (by decide) (Nat.le_of_ble_eq_true rfl) dX7_seenAt_3 (fun v1 τ1 H => ?_) (fun E τ H => H)
  refine e_istore (ls' := [(4, .int v1), (0, .ref (zad g 24)), (1, .int x1), (2, .int x2), (3, .int x3)]) dX7_seenAt_6 (by decide) rfl ?_
  refine e_iload dX7_seenAt_8 0 rfl ?_
  refine e_if_ne (tgt := 23) dX7_seenAt_10 (by decide) (fun h2 => ?_) (fun h2 => ?_)
  · replace H := H.1 h2
    refine e_iload dX7_seenAt_23 0 rfl ?_
    refine e_iconst (v := 1) dX7_seenAt_25 (by decide) ?_
    refine e_icmp_ne (tgt := 34) dX7_seenAt_26 (by decide) (fun h3 => ?_) (fun h3 => ?_)
    · replace H := H.1 h3
      refine e_iconst (v := (-1)) dX7_seenAt_34 (by decide) ?_
      exact e_iret rfl dX7_seenAt_35 H
    · replace H := H.2 h3
      refine e_bipush (v := (-2)) dX7_seenAt_29 (by decide) ?_
      refine e_goto (tgt := 35) dX7_seenAt_31 (by decide) ?_
      exact e_iret rfl dX7_seenAt_35 H
  · replace H := H.2 h2
    refine e_aload_n dX7_seenAt_13 rfl 1 rfl ?_
    refine e_iload_n dX7_seenAt_14 rfl 2 rfl ?_
    refine e_iload_n dX7_seenAt_15 rfl 3 rfl ?_
    refine e_iload_n dX7_seenAt_16 rfl 4 rfl ?_
    refine e_callVi (j1 := 0) (j2 := 0) (av := [.int x1, .int x2, .int x3]) rfl rfl (Nat.le_of_ble_eq_true rfl) rfl rfl H i_X7_colourSeen rfl n_X7_colourSeen v_X7_colourSeen q_X7_280 (by decide) (by decide) (Nat.le_of_ble_eq_true rfl) dX7_seenAt_17 (fun v4 τ4 H => ?_) (fun E τ H => H)
    refine e_goto (tgt := 35) dX7_seenAt_20 (by decide) ?_
    exact e_iret rfl dX7_seenAt_35 H
set_option maxRecDepth 20000 in
set_option maxHeartbeats 2000000 in
theorem b_X7_seen {g : zG} {l : Launch} {K : Int32 → zS → Prop} {X : String → zS → Prop} {x1 : Int32} {x2 : Int32} {x3 : Int32} {σ : zS}
    (H : CT g l M_X7_isSeeing 0 [.ref (zad g 24), .int x1, .int x2, .int x3] σ (zQi (fun v1 τ1 => ((v1 = 0 → K 0 τ1) ∧ (¬ v1 = 0 → CT g l M_X7_seenAt 0 [.ref (zad g 24), .int x1, .int x2, .int x3] τ1 (zQi (fun v3 τ3 => K v3 τ3) (fun E τ => X E τ))))) (fun E τ => X E τ))) :
    CT g l M_X7_seen 0 [.ref (zad g 24), .int x1, .int x2, .int x3] σ (zQi K X) := by
  refine CT_of rfl (by decide) (Nat.le_of_ble_eq_true rfl) ?_
  change EV _ _ _ _ _ 0 [(0, .ref (zad g 24)), (1, .int x1), (2, .int x2), (3, .int x3)] [] _
  refine e_aload_n dX7_seen_0 rfl 0 rfl ?_
  refine e_iload_n dX7_seen_1 rfl 1 rfl ?_
  refine e_iload_n dX7_seen_2 rfl 2 rfl ?_
  refine e_iload_n dX7_seen_3 rfl 3 rfl ?_
  refine e_callVi (j1 := 0) (j2 := 0) (av := [.int x1, .int x2, .int x3]) rfl rfl (Nat.le_of_ble_eq_true rfl) rfl rfl H i_X7_isSeeing rfl n_X7_isSeeing v_X7_isSeeing q_X7_329 (by decide) (by decide) (Nat.le_of_ble_eq_true rfl) dX7_seen_4 (fun v1 τ1 H => ?_) (fun E τ H => H)
  refine e_if_eq (tgt := 20) dX7_seen_7 (by decide) (fun h2 => ?_) (fun h2 => ?_)
  · replace H := H.1 h2
    refine e_iconst (v := 0) dX7_seen_20 (by decide) ?_
    exact e_iret rfl dX7_seen_21 H
  · replace H := H.2 h2
    refine e_aload_n dX7_seen_10 rfl 0 rfl ?_
    refine e_iload_n dX7_seen_11 rfl 1 rfl ?_
    refine e_iload_n dX7_seen_12 rfl 2 rfl ?_
    refine e_iload_n dX7_seen_13 rfl 3 rfl ?_
    refine e_callVi (j1 := 0) (j2 := 0) (av := [.int x1, .int x2, .int x3]) rfl rfl (Nat.le_of_ble_eq_true rfl) rfl rfl H i_X7_seenAt rfl n_X7_seenAt v_X7_seenAt q_X7_332 (by decide) (by decide) (Nat.le_of_ble_eq_true rfl) dX7_seen_14 (fun v3 τ3 H => ?_) (fun E τ H => H)
    refine e_goto (tgt := 21) dX7_seen_17 (by decide) ?_
    exact e_iret rfl dX7_seen_21 H
set_option maxRecDepth 20000 in
set_option maxHeartbeats 2000000 in
theorem b_X7_why {g : zG} {l : Launch} {K : Int32 → zS → Prop} {X : String → zS → Prop} {x1 : Int32} {x2 : Int32} {x3 : Int32} {x4 : Int32} {σ : zS}
    (H : CT g l M_X7_isSeeing 0 [.ref (zad g 24), .int x1, .int x3, .int x4] σ (zQi (fun v1 τ1 => ((v1 = 0 → K 0 τ1) ∧ (¬ v1 = 0 → CT g l M_X7_truth 0 [.int x2] τ1 (zQi (fun v3 τ3 => CT g l M_X7_whyNot 0 [.ref (zad g 24), .int x1, .int v3, .int x3, .int x4] τ3 (zQi (fun v4 τ4 => K v4 τ4) (fun E τ => X E τ))) (fun E τ => X E τ))))) (fun E τ => X E τ))) :
    CT g l M_X7_why 0 [.ref (zad g 24), .int x1, .int x2, .int x3, .int x4] σ (zQi K X) := by
  refine CT_of rfl (by decide) (Nat.le_of_ble_eq_true rfl) ?_
  change EV _ _ _ _ _ 0 [(0, .ref (zad g 24)), (1, .int x1), (2, .int x2), (3, .int x3), (4, .int x4)] [] _
  refine e_aload_n dX7_why_0 rfl 0 rfl ?_
  refine e_iload_n dX7_why_1 rfl 1 rfl ?_
  refine e_iload_n dX7_why_2 rfl 3 rfl ?_
  refine e_iload dX7_why_3 4 rfl ?_
  refine e_callVi (j1 := 0) (j2 := 0) (av := [.int x1, .int x3, .int x4]) rfl rfl (Nat.le_of_ble_eq_true rfl) rfl rfl H i_X7_isSeeing rfl n_X7_isSeeing v_X7_isSeeing q_X7_329 (by decide) (by decide) (Nat.le_of_ble_eq_true rfl) dX7_why_5 (fun v1 τ1 H => ?_) (fun E τ H => H)
  refine e_if_eq (tgt := 26) dX7_why_8 (by decide) (fun h2 => ?_) (fun h2 => ?_)
  · replace H := H.1 h2
    refine e_iconst (v := 0) dX7_why_26 (by decide) ?_
    exact e_iret rfl dX7_why_27 H
  · replace H := H.2 h2
    refine e_aload_n dX7_why_11 rfl 0 rfl ?_
    refine e_iload_n dX7_why_12 rfl 1 rfl ?_
    refine e_iload_n dX7_why_13 rfl 2 rfl ?_
    refine e_callSi (j1 := 0) (j2 := 0) (av := [.int x2]) rfl H i_X7_truth rfl s_X7_truth q_X7_71 (by decide) (by decide) (Nat.le_of_ble_eq_true rfl) dX7_why_14 (fun v3 τ3 H => ?_) (fun E τ H => H)
    refine e_iload_n dX7_why_17 rfl 3 rfl ?_
    refine e_iload dX7_why_18 4 rfl ?_
    refine e_callVi (j1 := 0) (j2 := 0) (av := [.int x1, .int v3, .int x3, .int x4]) rfl rfl (Nat.le_of_ble_eq_true rfl) rfl rfl H i_X7_whyNot rfl n_X7_whyNot v_X7_whyNot q_X7_283 (by decide) (by decide) (Nat.le_of_ble_eq_true rfl) dX7_why_20 (fun v4 τ4 H => ?_) (fun E τ H => H)
    refine e_goto (tgt := 27) dX7_why_23 (by decide) ?_
    exact e_iret rfl dX7_why_27 H
set_option maxRecDepth 20000 in
set_option maxHeartbeats 2000000 in
theorem b_X7_right {g : zG} {l : Launch} {K : Int32 → zS → Prop} {X : String → zS → Prop} {x1 : Int32} {x2 : Int32} {σ : zS}
    (H : CT g l M_X7_isAngle 0 [.int x1] σ (zQi (fun v1 τ1 => CT g l M_X7_goes 0 [.ref (zad g 24), .int v1] τ1 (zQi (fun v2 τ2 => ((v2 = 0 → K 0 τ2) ∧ (¬ v2 = 0 → CT g l M_X7_truth 0 [.int x2] τ2 (zQi (fun v4 τ4 => CT g l M_X7_rightMany 0 [.ref (zad g 24), .int x1, .int v4] τ4 (zQi (fun v5 τ5 => K v5 τ5) (fun E τ => X E τ))) (fun E τ => X E τ))))) (fun E τ => X E τ))) (fun E τ => X E τ))) :
    CT g l M_X7_right 0 [.ref (zad g 24), .int x1, .int x2] σ (zQi K X) := by
  refine CT_of rfl (by decide) (Nat.le_of_ble_eq_true rfl) ?_
  change EV _ _ _ _ _ 0 [(0, .ref (zad g 24)), (1, .int x1), (2, .int x2)] [] _
  refine e_aload_n dX7_right_0 rfl 0 rfl ?_
  refine e_iload_n dX7_right_1 rfl 1 rfl ?_
  refine e_callSi (j1 := 0) (j2 := 0) (av := [.int x1]) rfl H i_X7_isAngle rfl s_X7_isAngle q_X7_326 (by decide) (by decide) (Nat.le_of_ble_eq_true rfl) dX7_right_2 (fun v1 τ1 H => ?_) (fun E τ H => H)
  refine e_callVi (j1 := 0) (j2 := 0) (av := [.int v1]) rfl rfl (Nat.le_of_ble_eq_true rfl) rfl rfl H i_X7_goes rfl n_X7_goes v_X7_goes q_X7_78 (by decide) (by decide) (Nat.le_of_ble_eq_true rfl) dX7_right_5 (fun v2 τ2 H => ?_) (fun E τ H => H)
  refine e_if_eq (tgt := 23) dX7_right_8 (by decide) (fun h3 => ?_) (fun h3 => ?_)
  · replace H := H.1 h3
    refine e_iconst (v := 0) dX7_right_23 (by decide) ?_
    exact e_iret rfl dX7_right_24 H
  · replace H := H.2 h3
    refine e_aload_n dX7_right_11 rfl 0 rfl ?_
    refine e_iload_n dX7_right_12 rfl 1 rfl ?_
    refine e_iload_n dX7_right_13 rfl 2 rfl ?_
    refine e_callSi (j1 := 0) (j2 := 0) (av := [.int x2]) rfl H i_X7_truth rfl s_X7_truth q_X7_71 (by decide) (by decide) (Nat.le_of_ble_eq_true rfl) dX7_right_14 (fun v4 τ4 H => ?_) (fun E τ H => H)
    refine e_callVi (j1 := 0) (j2 := 0) (av := [.int x1, .int v4]) rfl rfl (Nat.le_of_ble_eq_true rfl) rfl rfl H i_X7_rightMany rfl n_X7_rightMany v_X7_rightMany q_X7_335 (by decide) (by decide) (Nat.le_of_ble_eq_true rfl) dX7_right_17 (fun v5 τ5 H => ?_) (fun E τ H => H)
    refine e_goto (tgt := 24) dX7_right_20 (by decide) ?_
    exact e_iret rfl dX7_right_24 H
set_option maxRecDepth 20000 in
set_option maxHeartbeats 2000000 in
theorem b_X7_openMany {g : zG} {l : Launch} {K : Int32 → zS → Prop} {X : String → zS → Prop} {x1 : Int32} {σ : zS}
    (H : CT g l M_X7_columnsAs 0 [.ref (zad g 24), .int x1, .int 2, .int 3] σ (zQi (fun v1 τ1 => K ((σ.1 26 (Int32.toNatClampNeg 0)) * v1) τ1) (fun E τ => X E τ))) :
    CT g l M_X7_openMany 0 [.ref (zad g 24), .int x1] σ (zQi K X) := by
  refine CT_of rfl (by decide) (Nat.le_of_ble_eq_true rfl) ?_
  change EV _ _ _ _ _ 0 [(0, .ref (zad g 24)), (1, .int x1)] [] _
  refine e_aload_n dX7_openMany_0 rfl 0 rfl ?_
  refine fg_X7_20 rfl dX7_openMany_1 ?_
  refine e_iconst (v := 0) dX7_openMany_4 (by decide) ?_
  refine e_iald (n := 1110) rfl (Nat.le_of_ble_eq_true rfl) (vil (by decide)) dX7_openMany_5 ?_
  refine e_aload_n dX7_openMany_6 rfl 0 rfl ?_
  refine e_iload_n dX7_openMany_7 rfl 1 rfl ?_
  refine e_iconst (v := 2) dX7_openMany_8 (by decide) ?_
  refine e_iconst (v := 3) dX7_openMany_9 (by decide) ?_
  refine e_callVi (j1 := 0) (j2 := 0) (av := [.int x1, .int 2, .int 3]) rfl rfl (Nat.le_of_ble_eq_true rfl) rfl rfl H i_X7_columnsAs rfl n_X7_columnsAs v_X7_columnsAs q_X7_338 (by decide) (by decide) (Nat.le_of_ble_eq_true rfl) dX7_openMany_10 (fun v1 τ1 H => ?_) (fun E τ H => H)
  refine e_imul dX7_openMany_13 ?_
  exact e_iret rfl dX7_openMany_14 H
set_option maxRecDepth 20000 in
set_option maxHeartbeats 2000000 in
theorem b_X7_open {g : zG} {l : Launch} {K : Int32 → zS → Prop} {X : String → zS → Prop} {x1 : Int32} {σ : zS}
    (H : CT g l M_X7_isAngle 0 [.int x1] σ (zQi (fun v1 τ1 => CT g l M_X7_goes 0 [.ref (zad g 24), .int v1] τ1 (zQi (fun v2 τ2 => ((v2 = 0 → K 0 τ2) ∧ (¬ v2 = 0 → CT g l M_X7_openMany 0 [.ref (zad g 24), .int x1] τ2 (zQi (fun v4 τ4 => K v4 τ4) (fun E τ => X E τ))))) (fun E τ => X E τ))) (fun E τ => X E τ))) :
    CT g l M_X7_open 0 [.ref (zad g 24), .int x1] σ (zQi K X) := by
  refine CT_of rfl (by decide) (Nat.le_of_ble_eq_true rfl) ?_
  change EV _ _ _ _ _ 0 [(0, .ref (zad g 24)), (1, .int x1)] [] _
  refine e_aload_n dX7_open_0 rfl 0 rfl ?_
  refine e_iload_n dX7_open_1 rfl 1 rfl ?_
  refine e_callSi (j1 := 0) (j2 := 0) (av := [.int x1]) rfl H i_X7_isAngle rfl s_X7_isAngle q_X7_326 (by decide) (by decide) (Nat.le_of_ble_eq_true rfl) dX7_open_2 (fun v1 τ1 H => ?_) (fun E τ H => H)
  refine e_callVi (j1 := 0) (j2 := 0) (av := [.int v1]) rfl rfl (Nat.le_of_ble_eq_true rfl) rfl rfl H i_X7_goes rfl n_X7_goes v_X7_goes q_X7_78 (by decide) (by decide) (Nat.le_of_ble_eq_true rfl) dX7_open_5 (fun v2 τ2 H => ?_) (fun E τ H => H)
  refine e_if_eq (tgt := 19) dX7_open_8 (by decide) (fun h3 => ?_) (fun h3 => ?_)
  · replace H := H.1 h3
    refine e_iconst (v := 0) dX7_open_19 (by decide) ?_
    exact e_iret rfl dX7_open_20 H
  · replace H := H.2 h3
    refine e_aload_n dX7_open_11 rfl 0 rfl ?_
    refine e_iload_n dX7_open_12 rfl 1 rfl ?_
    refine e_callVi (j1 := 0) (j2 := 0) (av := [.int x1]) rfl rfl (Nat.le_of_ble_eq_true rfl) rfl rfl H i_X7_openMany rfl n_X7_openMany v_X7_openMany q_X7_341 (by decide) (by decide) (Nat.le_of_ble_eq_true rfl) dX7_open_13 (fun v4 τ4 H => ?_) (fun E τ H => H)
    refine e_goto (tgt := 20) dX7_open_16 (by decide) ?_
    exact e_iret rfl dX7_open_20 H
set_option maxRecDepth 20000 in
set_option maxHeartbeats 2000000 in
theorem b_X7_covered {g : zG} {l : Launch} {K : Int32 → zS → Prop} {X : String → zS → Prop} {x1 : Int32} {σ : zS}
    (H : CT g l M_X7_isAngle 0 [.int x1] σ (zQi (fun v1 τ1 => CT g l M_X7_goes 0 [.ref (zad g 24), .int v1] τ1 (zQi (fun v2 τ2 => ((v2 = 0 → K 0 τ2) ∧ (¬ v2 = 0 → CT g l M_X7_columnsAs 0 [.ref (zad g 24), .int x1, .int 1, .int 1] τ2 (zQi (fun v4 τ4 => K ((τ2.1 26 (Int32.toNatClampNeg 0)) * v4) τ4) (fun E τ => X E τ))))) (fun E τ => X E τ))) (fun E τ => X E τ))) :
    CT g l M_X7_covered 0 [.ref (zad g 24), .int x1] σ (zQi K X) := by
  refine CT_of rfl (by decide) (Nat.le_of_ble_eq_true rfl) ?_
  change EV _ _ _ _ _ 0 [(0, .ref (zad g 24)), (1, .int x1)] [] _
  refine e_aload_n dX7_covered_0 rfl 0 rfl ?_
  refine e_iload_n dX7_covered_1 rfl 1 rfl ?_
  refine e_callSi (j1 := 0) (j2 := 0) (av := [.int x1]) rfl H i_X7_isAngle rfl s_X7_isAngle q_X7_326 (by decide) (by decide) (Nat.le_of_ble_eq_true rfl) dX7_covered_2 (fun v1 τ1 H => ?_) (fun E τ H => H)
  refine e_callVi (j1 := 0) (j2 := 0) (av := [.int v1]) rfl rfl (Nat.le_of_ble_eq_true rfl) rfl rfl H i_X7_goes rfl n_X7_goes v_X7_goes q_X7_78 (by decide) (by decide) (Nat.le_of_ble_eq_true rfl) dX7_covered_5 (fun v2 τ2 H => ?_) (fun E τ H => H)
  refine e_if_eq (tgt := 28) dX7_covered_8 (by decide) (fun h3 => ?_) (fun h3 => ?_)
  · replace H := H.1 h3
    refine e_iconst (v := 0) dX7_covered_28 (by decide) ?_
    exact e_iret rfl dX7_covered_29 H
  · replace H := H.2 h3
    refine e_aload_n dX7_covered_11 rfl 0 rfl ?_
    refine fg_X7_20 rfl dX7_covered_12 ?_
    refine e_iconst (v := 0) dX7_covered_15 (by decide) ?_
    refine e_iald (n := 1110) rfl (Nat.le_of_ble_eq_true rfl) (vil (by decide)) dX7_covered_16 ?_
    refine e_aload_n dX7_covered_17 rfl 0 rfl ?_
    refine e_iload_n dX7_covered_18 rfl 1 rfl ?_
    refine e_iconst (v := 1) dX7_covered_19 (by decide) ?_
    refine e_iconst (v := 1) dX7_covered_20 (by decide) ?_
    refine e_callVi (j1 := 0) (j2 := 0) (av := [.int x1, .int 1, .int 1]) rfl rfl (Nat.le_of_ble_eq_true rfl) rfl rfl H i_X7_columnsAs rfl n_X7_columnsAs v_X7_columnsAs q_X7_338 (by decide) (by decide) (Nat.le_of_ble_eq_true rfl) dX7_covered_21 (fun v4 τ4 H => ?_) (fun E τ H => H)
    refine e_imul dX7_covered_24 ?_
    refine e_goto (tgt := 29) dX7_covered_25 (by decide) ?_
    exact e_iret rfl dX7_covered_29 H
set_option maxRecDepth 20000 in
set_option maxHeartbeats 2000000 in
theorem b_X7_whole {g : zG} {l : Launch} {K : Int32 → zS → Prop} {X : String → zS → Prop} {x1 : Int32} {σ : zS}
    (H : CT g l M_X7_isAngle 0 [.int x1] σ (zQi (fun v1 τ1 => CT g l M_X7_goes 0 [.ref (zad g 24), .int v1] τ1 (zQi (fun v2 τ2 => ((v2 = 0 → K 0 τ2) ∧ (¬ v2 = 0 → CT g l M_X7_isWhole 0 [.ref (zad g 24), .int x1, .int 0] τ2 (zQi (fun v4 τ4 => CT g l M_X7_truth 0 [.int v4] τ4 (zQi (fun v5 τ5 => CT g l M_X7_isWhole 0 [.ref (zad g 24), .int x1, .int 1] τ5 (zQi (fun v6 τ6 => CT g l M_X7_truth 0 [.int v6] τ6 (zQi (fun v7 τ7 => K (v5 + (2 * v7)) τ7) (fun E τ => X E τ))) (fun E τ => X E τ))) (fun E τ => X E τ))) (fun E τ => X E τ))))) (fun E τ => X E τ))) (fun E τ => X E τ))) :
    CT g l M_X7_whole 0 [.ref (zad g 24), .int x1] σ (zQi K X) := by
  refine CT_of rfl (by decide) (Nat.le_of_ble_eq_true rfl) ?_
  change EV _ _ _ _ _ 0 [(0, .ref (zad g 24)), (1, .int x1)] [] _
  refine e_aload_n dX7_whole_0 rfl 0 rfl ?_
  refine e_iload_n dX7_whole_1 rfl 1 rfl ?_
  refine e_callSi (j1 := 0) (j2 := 0) (av := [.int x1]) rfl H i_X7_isAngle rfl s_X7_isAngle q_X7_326 (by decide) (by decide) (Nat.le_of_ble_eq_true rfl) dX7_whole_2 (fun v1 τ1 H => ?_) (fun E τ H => H)
  refine e_callVi (j1 := 0) (j2 := 0) (av := [.int v1]) rfl rfl (Nat.le_of_ble_eq_true rfl) rfl rfl H i_X7_goes rfl n_X7_goes v_X7_goes q_X7_78 (by decide) (by decide) (Nat.le_of_ble_eq_true rfl) dX7_whole_5 (fun v2 τ2 H => ?_) (fun E τ H => H)
  refine e_if_eq (tgt := 35) dX7_whole_8 (by decide) (fun h3 => ?_) (fun h3 => ?_)
  · replace H := H.1 h3
    refine e_iconst (v := 0) dX7_whole_35 (by decide) ?_
    exact e_iret rfl dX7_whole_36 H
  · replace H := H.2 h3
    refine e_aload_n dX7_whole_11 rfl 0 rfl ?_
    refine e_iload_n dX7_whole_12 rfl 1 rfl ?_
    refine e_iconst (v := 0) dX7_whole_13 (by decide) ?_
    refine e_callVi (j1 := 0) (j2 := 0) (av := [.int x1, .int 0]) rfl rfl (Nat.le_of_ble_eq_true rfl) rfl rfl H i_X7_isWhole rfl n_X7_isWhole v_X7_isWhole q_X7_344 (by decide) (by decide) (Nat.le_of_ble_eq_true rfl) dX7_whole_14 (fun v4 τ4 H => ?_) (fun E τ H => H)
    refine e_callSi (j1 := 0) (j2 := 0) (av := [.int v4]) rfl H i_X7_truth rfl s_X7_truth q_X7_71 (by decide) (by decide) (Nat.le_of_ble_eq_true rfl) dX7_whole_17 (fun v5 τ5 H => ?_) (fun E τ H => H)
    refine e_iconst (v := 2) dX7_whole_20 (by decide) ?_
    refine e_aload_n dX7_whole_21 rfl 0 rfl ?_
    refine e_iload_n dX7_whole_22 rfl 1 rfl ?_
    refine e_iconst (v := 1) dX7_whole_23 (by decide) ?_
    refine e_callVi (j1 := 0) (j2 := 0) (av := [.int x1, .int 1]) rfl rfl (Nat.le_of_ble_eq_true rfl) rfl rfl H i_X7_isWhole rfl n_X7_isWhole v_X7_isWhole q_X7_344 (by decide) (by decide) (Nat.le_of_ble_eq_true rfl) dX7_whole_24 (fun v6 τ6 H => ?_) (fun E τ H => H)
    refine e_callSi (j1 := 0) (j2 := 0) (av := [.int v6]) rfl H i_X7_truth rfl s_X7_truth q_X7_71 (by decide) (by decide) (Nat.le_of_ble_eq_true rfl) dX7_whole_27 (fun v7 τ7 H => ?_) (fun E τ H => H)
    refine e_imul dX7_whole_30 ?_
    refine e_iadd dX7_whole_31 ?_
    refine e_goto (tgt := 36) dX7_whole_32 (by decide) ?_
    exact e_iret rfl dX7_whole_36 H
set_option maxRecDepth 20000 in
set_option maxHeartbeats 2000000 in
theorem b_X7_firstWrong {g : zG} {l : Launch} {K : Int32 → zS → Prop} {X : String → zS → Prop} {x1 : Int32} {x2 : Int32} {σ : zS}
    (H : CT g l M_X7_isAngle 0 [.int x1] σ (zQi (fun v1 τ1 => CT g l M_X7_goes 0 [.ref (zad g 24), .int v1] τ1 (zQi (fun v2 τ2 => ((v2 = 0 → K 0 τ2) ∧ (¬ v2 = 0 → CT g l M_X7_truth 0 [.int x2] τ2 (zQi (fun v4 τ4 => CT g l M_X7_firstNot 0 [.ref (zad g 24), .int x1, .int v4] τ4 (zQi (fun v5 τ5 => K v5 τ5) (fun E τ => X E τ))) (fun E τ => X E τ))))) (fun E τ => X E τ))) (fun E τ => X E τ))) :
    CT g l M_X7_firstWrong 0 [.ref (zad g 24), .int x1, .int x2] σ (zQi K X) := by
  refine CT_of rfl (by decide) (Nat.le_of_ble_eq_true rfl) ?_
  change EV _ _ _ _ _ 0 [(0, .ref (zad g 24)), (1, .int x1), (2, .int x2)] [] _
  refine e_aload_n dX7_firstWrong_0 rfl 0 rfl ?_
  refine e_iload_n dX7_firstWrong_1 rfl 1 rfl ?_
  refine e_callSi (j1 := 0) (j2 := 0) (av := [.int x1]) rfl H i_X7_isAngle rfl s_X7_isAngle q_X7_326 (by decide) (by decide) (Nat.le_of_ble_eq_true rfl) dX7_firstWrong_2 (fun v1 τ1 H => ?_) (fun E τ H => H)
  refine e_callVi (j1 := 0) (j2 := 0) (av := [.int v1]) rfl rfl (Nat.le_of_ble_eq_true rfl) rfl rfl H i_X7_goes rfl n_X7_goes v_X7_goes q_X7_78 (by decide) (by decide) (Nat.le_of_ble_eq_true rfl) dX7_firstWrong_5 (fun v2 τ2 H => ?_) (fun E τ H => H)
  refine e_if_eq (tgt := 23) dX7_firstWrong_8 (by decide) (fun h3 => ?_) (fun h3 => ?_)
  · replace H := H.1 h3
    refine e_iconst (v := 0) dX7_firstWrong_23 (by decide) ?_
    exact e_iret rfl dX7_firstWrong_24 H
  · replace H := H.2 h3
    refine e_aload_n dX7_firstWrong_11 rfl 0 rfl ?_
    refine e_iload_n dX7_firstWrong_12 rfl 1 rfl ?_
    refine e_iload_n dX7_firstWrong_13 rfl 2 rfl ?_
    refine e_callSi (j1 := 0) (j2 := 0) (av := [.int x2]) rfl H i_X7_truth rfl s_X7_truth q_X7_71 (by decide) (by decide) (Nat.le_of_ble_eq_true rfl) dX7_firstWrong_14 (fun v4 τ4 H => ?_) (fun E τ H => H)
    refine e_callVi (j1 := 0) (j2 := 0) (av := [.int x1, .int v4]) rfl rfl (Nat.le_of_ble_eq_true rfl) rfl rfl H i_X7_firstNot rfl n_X7_firstNot v_X7_firstNot q_X7_287 (by decide) (by decide) (Nat.le_of_ble_eq_true rfl) dX7_firstWrong_17 (fun v5 τ5 H => ?_) (fun E τ H => H)
    refine e_goto (tgt := 24) dX7_firstWrong_20 (by decide) ?_
    exact e_iret rfl dX7_firstWrong_24 H
abbrev L_X7_shownFrom_19 (g : zG) (l : Launch) (K : Int32 → zS → Prop) (X : String → zS → Prop) (y1 : Int32) (y2 : Int32) (y3 : Int32) (σ : zS) : Prop :=
  EV g l M_X7_shownFrom 0 (zQi K X) 19 [(0, .ref (zad g 24)), (1, .int y1), (2, .int y2), (3, .int y3)] [] σ
set_option maxRecDepth 20000 in
set_option maxHeartbeats 2000000 in
theorem b_X7_shownFrom {g : zG} {l : Launch} {K : Int32 → zS → Prop} {X : String → zS → Prop} {x1 : Int32} {σ : zS}
    (H : CT g l M_X7_isColumn 0 [.ref (zad g 24), .int x1] σ (zQi (fun v1 τ1 => CT g l M_X7_goes 0 [.ref (zad g 24), .int v1] τ1 (zQi (fun v2 τ2 => ((¬ v2 = 0 → L_X7_shownFrom_19 g l K X x1 0 (-6) τ2) ∧ (v2 = 0 → K 0 τ2))) (fun E τ => X E τ))) (fun E τ => X E τ))) :
    CT g l M_X7_shownFrom 0 [.ref (zad g 24), .int x1] σ (zQi K X) := by
  refine CT_of rfl (by decide) (Nat.le_of_ble_eq_true rfl) ?_
  change EV _ _ _ _ _ 0 [(0, .ref (zad g 24)), (1, .int x1)] [] _
  refine e_aload_n dX7_shownFrom_0 rfl 0 rfl ?_
  refine e_aload_n dX7_shownFrom_1 rfl 0 rfl ?_
  refine e_iload_n dX7_shownFrom_2 rfl 1 rfl ?_
  refine e_callVi (j1 := 0) (j2 := 0) (av := [.int x1]) rfl rfl (Nat.le_of_ble_eq_true rfl) rfl rfl H i_X7_isColumn rfl n_X7_isColumn v_X7_isColumn q_X7_320 (by decide) (by decide) (Nat.le_of_ble_eq_true rfl) dX7_shownFrom_3 (fun v1 τ1 H => ?_) (fun E τ H => H)
  refine e_callVi (j1 := 0) (j2 := 0) (av := [.int v1]) rfl rfl (Nat.le_of_ble_eq_true rfl) rfl rfl H i_X7_goes rfl n_X7_goes v_X7_goes q_X7_78 (by decide) (by decide) (Nat.le_of_ble_eq_true rfl) dX7_shownFrom_6 (fun v2 τ2 H => ?_) (fun E τ H => H)
  refine e_if_ne (tgt := 14) dX7_shownFrom_9 (by decide) (fun h3 => ?_) (fun h3 => ?_)
  · replace H := H.1 h3
    refine e_iconst (v := 0) dX7_shownFrom_14 (by decide) ?_
    refine e_istore_n (ls' := [(2, .int 0), (0, .ref (zad g 24)), (1, .int x1)]) dX7_shownFrom_15 rfl (by decide) rfl ?_
    refine e_bipush (v := (-6)) dX7_shownFrom_16 (by decide) ?_
    refine e_istore_n (ls' := [(3, .int (-6)), (2, .int 0), (0, .ref (zad g 24)), (1, .int x1)]) dX7_shownFrom_18 rfl (by decide) rfl ?_
    refine e_ls [2, 3, 1, 0] rfl ?_
    exact H
  · replace H := H.2 h3
    refine e_iconst (v := 0) dX7_shownFrom_12 (by decide) ?_
    exact e_iret rfl dX7_shownFrom_13 H
set_option maxRecDepth 20000 in
set_option maxHeartbeats 2000000 in
theorem b_X7_shownFrom_19 {g : zG} {l : Launch} {K : Int32 → zS → Prop} {X : String → zS → Prop} {y1 : Int32} {y2 : Int32} {y3 : Int32} {σ : zS}
    (H : ((6 < y3 → K y2 σ) ∧ (¬ 6 < y3 → CT g l M_X7_stateOf 0 [.ref (zad g 24), .int y3, .int y1] σ (zQi (fun v2 τ2 => ((¬ v2 = 0 → L_X7_shownFrom_19 g l K X y1 (y2 ||| 0) (y3 + 1) τ2) ∧ (v2 = 0 → L_X7_shownFrom_19 g l K X y1 (y2 ||| (1 <<< ((y3 + 6) &&& 31))) (y3 + 1) τ2))) (fun E τ => X E τ))))) :
    L_X7_shownFrom_19 g l K X y1 y2 y3 σ := by
  refine e_iload_n dX7_shownFrom_19 rfl 3 rfl ?_
  refine e_bipush (v := 6) dX7_shownFrom_20 (by decide) ?_
  refine e_icmp_gt (tgt := 53) dX7_shownFrom_22 (by decide) (fun h1 => ?_) (fun h1 => ?_)
  · replace H := H.1 h1
    refine e_iload_n dX7_shownFrom_53 rfl 2 rfl ?_
    exact e_iret rfl dX7_shownFrom_54 H
  · replace H := H.2 h1
    refine e_iload_n dX7_shownFrom_25 rfl 2 rfl ?_
    refine e_aload_n dX7_shownFrom_26 rfl 0 rfl ?_
    refine e_iload_n dX7_shownFrom_27 rfl 3 rfl ?_
    refine e_iload_n dX7_shownFrom_28 rfl 1 rfl ?_
    refine e_callVi (j1 := 0) (j2 := 0) (av := [.int y3, .int y1]) rfl rfl (Nat.le_of_ble_eq_true rfl) rfl rfl H i_X7_stateOf rfl n_X7_stateOf v_X7_stateOf q_X7_277 (by decide) (by decide) (Nat.le_of_ble_eq_true rfl) dX7_shownFrom_29 (fun v2 τ2 H => ?_) (fun E τ H => H)
    refine e_if_ne (tgt := 44) dX7_shownFrom_32 (by decide) (fun h3 => ?_) (fun h3 => ?_)
    · replace H := H.1 h3
      refine e_iconst (v := 0) dX7_shownFrom_44 (by decide) ?_
      refine e_ior dX7_shownFrom_45 ?_
      refine e_istore_n (ls' := [(2, .int (y2 ||| 0)), (0, .ref (zad g 24)), (1, .int y1), (3, .int y3)]) dX7_shownFrom_46 rfl (by decide) rfl ?_
      refine e_iinc (j := 3) (v := (y3 + 1)) (ls' := [(3, .int (y3 + 1)), (2, .int (y2 ||| 0)), (0, .ref (zad g 24)), (1, .int y1)]) dX7_shownFrom_47 rfl rfl (by decide) rfl ?_
      refine e_goto (tgt := 19) dX7_shownFrom_50 (by decide) ?_
      refine e_ls [2, 3, 1, 0] rfl ?_
      exact H
    · replace H := H.2 h3
      refine e_iconst (v := 1) dX7_shownFrom_35 (by decide) ?_
      refine e_iload_n dX7_shownFrom_36 rfl 3 rfl ?_
      refine e_bipush (v := 6) dX7_shownFrom_37 (by decide) ?_
      refine e_iadd dX7_shownFrom_39 ?_
      refine e_ishl dX7_shownFrom_40 ?_
      refine e_goto (tgt := 45) dX7_shownFrom_41 (by decide) ?_
      refine e_ior dX7_shownFrom_45 ?_
      refine e_istore_n (ls' := [(2, .int (y2 ||| (1 <<< ((y3 + 6) &&& 31)))), (0, .ref (zad g 24)), (1, .int y1), (3, .int y3)]) dX7_shownFrom_46 rfl (by decide) rfl ?_
      refine e_iinc (j := 3) (v := (y3 + 1)) (ls' := [(3, .int (y3 + 1)), (2, .int (y2 ||| (1 <<< ((y3 + 6) &&& 31)))), (0, .ref (zad g 24)), (1, .int y1)]) dX7_shownFrom_47 rfl rfl (by decide) rfl ?_
      refine e_goto (tgt := 19) dX7_shownFrom_50 (by decide) ?_
      refine e_ls [2, 3, 1, 0] rfl ?_
      exact H
abbrev L_X7_bestAngle_14 (g : zG) (l : Launch) (K : Int32 → zS → Prop) (X : String → zS → Prop) (y1 : Int32) (y2 : Int32) (y3 : Int32) (y4 : Int32) (σ : zS) : Prop :=
  EV g l M_X7_bestAngle 0 (zQi K X) 14 [(0, .ref (zad g 24)), (1, .int y1), (2, .int y2), (3, .int y3), (4, .int y4)] [] σ
set_option maxRecDepth 20000 in
set_option maxHeartbeats 2000000 in
theorem b_X7_bestAngle {g : zG} {l : Launch} {K : Int32 → zS → Prop} {X : String → zS → Prop} {x1 : Int32} {σ : zS}
    (H : (∀ σ1 : zS, σ1 = zup σ 24 0 0 → L_X7_bestAngle_14 g l K X x1 (-99) (-1) (-6) σ1)) :
    CT g l M_X7_bestAngle 0 [.ref (zad g 24), .int x1] σ (zQi K X) := by
  refine CT_of rfl (by decide) (Nat.le_of_ble_eq_true rfl) ?_
  change EV _ _ _ _ _ 0 [(0, .ref (zad g 24)), (1, .int x1)] [] _
  refine e_aload_n dX7_bestAngle_0 rfl 0 rfl ?_
  refine e_iconst (v := 0) dX7_bestAngle_1 (by decide) ?_
  refine fp_X7_68 rfl dX7_bestAngle_2 ?_
  replace H := H _ rfl
  generalize zup σ 24 0 0 = σ1 at H ⊢
  refine e_bipush (v := (-99)) dX7_bestAngle_5 (by decide) ?_
  refine e_istore_n (ls' := [(2, .int (-99)), (0, .ref (zad g 24)), (1, .int x1)]) dX7_bestAngle_7 rfl (by decide) rfl ?_
  refine e_iconst (v := (-1)) dX7_bestAngle_8 (by decide) ?_
  refine e_istore_n (ls' := [(3, .int (-1)), (2, .int (-99)), (0, .ref (zad g 24)), (1, .int x1)]) dX7_bestAngle_9 rfl (by decide) rfl ?_
  refine e_bipush (v := (-6)) dX7_bestAngle_10 (by decide) ?_
  refine e_istore (ls' := [(4, .int (-6)), (3, .int (-1)), (2, .int (-99)), (0, .ref (zad g 24)), (1, .int x1)]) dX7_bestAngle_12 (by decide) rfl ?_
  refine e_ls [3, 4, 2, 1, 0] rfl ?_
  exact H
set_option maxRecDepth 20000 in
set_option maxHeartbeats 2000000 in
theorem b_X7_bestAngle_14 {g : zG} {l : Launch} {K : Int32 → zS → Prop} {X : String → zS → Prop} {y1 : Int32} {y2 : Int32} {y3 : Int32} {y4 : Int32} {σ : zS}
    (H : ((6 < y4 → K y2 σ) ∧ (¬ 6 < y4 → (((σ.1 26 (Int32.toNatClampNeg 1)) ≤ 0 → K y2 σ) ∧ (¬ (σ.1 26 (Int32.toNatClampNeg 1)) ≤ 0 → CT g l M_X7_truth 0 [.int y1] σ (zQi (fun v3 τ3 => CT g l M_X7_rightMany 0 [.ref (zad g 24), .int y4, .int v3] τ3 (zQi (fun v4 τ4 => ((y3 < v4 → L_X7_bestAngle_14 g l K X y1 y4 v4 (y4 + 1) τ4) ∧ (¬ y3 < v4 → L_X7_bestAngle_14 g l K X y1 y2 y3 (y4 + 1) τ4))) (fun E τ => X E τ))) (fun E τ => X E τ))))))) :
    L_X7_bestAngle_14 g l K X y1 y2 y3 y4 σ := by
  refine e_iload dX7_bestAngle_14 4 rfl ?_
  refine e_bipush (v := 6) dX7_bestAngle_16 (by decide) ?_
  refine e_icmp_gt (tgt := 63) dX7_bestAngle_18 (by decide) (fun h1 => ?_) (fun h1 => ?_)
  · replace H := H.1 h1
    refine e_iload_n dX7_bestAngle_63 rfl 2 rfl ?_
    exact e_iret rfl dX7_bestAngle_64 H
  · replace H := H.2 h1
    refine e_aload_n dX7_bestAngle_21 rfl 0 rfl ?_
    refine fg_X7_20 rfl dX7_bestAngle_22 ?_
    refine e_iconst (v := 1) dX7_bestAngle_25 (by decide) ?_
    refine e_iald (n := 1110) rfl (Nat.le_of_ble_eq_true rfl) (vil (by decide)) dX7_bestAngle_26 ?_
    refine e_if_le (tgt := 63) dX7_bestAngle_27 (by decide) (fun h2 => ?_) (fun h2 => ?_)
    · replace H := H.1 h2
      refine e_iload_n dX7_bestAngle_63 rfl 2 rfl ?_
      exact e_iret rfl dX7_bestAngle_64 H
    · replace H := H.2 h2
      refine e_aload_n dX7_bestAngle_30 rfl 0 rfl ?_
      refine e_iload dX7_bestAngle_31 4 rfl ?_
      refine e_iload_n dX7_bestAngle_33 rfl 1 rfl ?_
      refine e_callSi (j1 := 0) (j2 := 0) (av := [.int y1]) rfl H i_X7_truth rfl s_X7_truth q_X7_71 (by decide) (by decide) (Nat.le_of_ble_eq_true rfl) dX7_bestAngle_34 (fun v3 τ3 H => ?_) (fun E τ H => H)
      refine e_callVi (j1 := 0) (j2 := 0) (av := [.int y4, .int v3]) rfl rfl (Nat.le_of_ble_eq_true rfl) rfl rfl H i_X7_rightMany rfl n_X7_rightMany v_X7_rightMany q_X7_335 (by decide) (by decide) (Nat.le_of_ble_eq_true rfl) dX7_bestAngle_37 (fun v4 τ4 H => ?_) (fun E τ H => H)
      refine e_istore (ls' := [(5, .int v4), (0, .ref (zad g 24)), (1, .int y1), (2, .int y2), (3, .int y3), (4, .int y4)]) dX7_bestAngle_40 (by decide) rfl ?_
      refine e_iload dX7_bestAngle_42 0 rfl ?_
      refine e_iload_n dX7_bestAngle_44 rfl 4 rfl ?_
      refine e_icmp_gt (tgt := 51) dX7_bestAngle_45 (by decide) (fun h5 => ?_) (fun h5 => ?_)
      · replace H := H.1 h5
        refine e_iload dX7_bestAngle_51 0 rfl ?_
        refine e_istore_n (ls' := [(3, .int v4), (5, .int v4), (0, .ref (zad g 24)), (1, .int y1), (2, .int y2), (4, .int y4)]) dX7_bestAngle_53 rfl (by decide) rfl ?_
        refine e_iload dX7_bestAngle_54 5 rfl ?_
        refine e_istore_n (ls' := [(2, .int y4), (3, .int v4), (5, .int v4), (0, .ref (zad g 24)), (1, .int y1), (4, .int y4)]) dX7_bestAngle_56 rfl (by decide) rfl ?_
        refine e_iinc (j := 5) (v := (y4 + 1)) (ls' := [(4, .int (y4 + 1)), (2, .int y4), (3, .int v4), (5, .int v4), (0, .ref (zad g 24)), (1, .int y1)]) dX7_bestAngle_57 rfl rfl (by decide) rfl ?_
        refine e_goto (tgt := 14) dX7_bestAngle_60 (by decide) ?_
        refine e_ls [4, 5, 1, 2, 0] rfl ?_
        exact H
      · replace H := H.2 h5
        refine e_goto (tgt := 57) dX7_bestAngle_48 (by decide) ?_
        refine e_iinc (j := 5) (v := (y4 + 1)) (ls' := [(4, .int (y4 + 1)), (5, .int v4), (0, .ref (zad g 24)), (1, .int y1), (2, .int y2), (3, .int y3)]) dX7_bestAngle_57 rfl rfl (by decide) rfl ?_
        refine e_goto (tgt := 14) dX7_bestAngle_60 (by decide) ?_
        refine e_ls [2, 3, 4, 5, 0] rfl ?_
        exact H
set_option maxRecDepth 20000 in
set_option maxHeartbeats 2000000 in
theorem b_X7_seam {g : zG} {l : Launch} {K : Int32 → zS → Prop} {X : String → zS → Prop} {x1 : Int32} {σ : zS}
    (H : CT g l M_X7_isSlat 0 [.ref (zad g 24), .int x1] σ (zQi (fun v1 τ1 => CT g l M_X7_goes 0 [.ref (zad g 24), .int v1] τ1 (zQi (fun v2 τ2 => ((v2 = 0 → K 0 τ2) ∧ (¬ v2 = 0 → CT g l M_X7_seamBehind 0 [.ref (zad g 24), .int x1] τ2 (zQi (fun v4 τ4 => K v4 τ4) (fun E τ => X E τ))))) (fun E τ => X E τ))) (fun E τ => X E τ))) :
    CT g l M_X7_seam 0 [.ref (zad g 24), .int x1] σ (zQi K X) := by
  refine CT_of rfl (by decide) (Nat.le_of_ble_eq_true rfl) ?_
  change EV _ _ _ _ _ 0 [(0, .ref (zad g 24)), (1, .int x1)] [] _
  refine e_aload_n dX7_seam_0 rfl 0 rfl ?_
  refine e_aload_n dX7_seam_1 rfl 0 rfl ?_
  refine e_iload_n dX7_seam_2 rfl 1 rfl ?_
  refine e_callVi (j1 := 0) (j2 := 0) (av := [.int x1]) rfl rfl (Nat.le_of_ble_eq_true rfl) rfl rfl H i_X7_isSlat rfl n_X7_isSlat v_X7_isSlat q_X7_290 (by decide) (by decide) (Nat.le_of_ble_eq_true rfl) dX7_seam_3 (fun v1 τ1 H => ?_) (fun E τ H => H)
  refine e_callVi (j1 := 0) (j2 := 0) (av := [.int v1]) rfl rfl (Nat.le_of_ble_eq_true rfl) rfl rfl H i_X7_goes rfl n_X7_goes v_X7_goes q_X7_78 (by decide) (by decide) (Nat.le_of_ble_eq_true rfl) dX7_seam_6 (fun v2 τ2 H => ?_) (fun E τ H => H)
  refine e_if_eq (tgt := 20) dX7_seam_9 (by decide) (fun h3 => ?_) (fun h3 => ?_)
  · replace H := H.1 h3
    refine e_iconst (v := 0) dX7_seam_20 (by decide) ?_
    exact e_iret rfl dX7_seam_21 H
  · replace H := H.2 h3
    refine e_aload_n dX7_seam_12 rfl 0 rfl ?_
    refine e_iload_n dX7_seam_13 rfl 1 rfl ?_
    refine e_callVi (j1 := 0) (j2 := 0) (av := [.int x1]) rfl rfl (Nat.le_of_ble_eq_true rfl) rfl rfl H i_X7_seamBehind rfl n_X7_seamBehind v_X7_seamBehind q_X7_264 (by decide) (by decide) (Nat.le_of_ble_eq_true rfl) dX7_seam_14 (fun v4 τ4 H => ?_) (fun E τ H => H)
    refine e_goto (tgt := 21) dX7_seam_17 (by decide) ?_
    exact e_iret rfl dX7_seam_21 H
abbrev L_X7_run_26 (g : zG) (l : Launch) (K : Int32 → zS → Prop) (X : String → zS → Prop) (y1 : Int32) (y2 : Int32) (y3 : Int32) (y4 : Int32) (y5 : Int32) (σ : zS) : Prop :=
  EV g l M_X7_run 0 (zQi K X) 26 [(0, .ref (zad g 24)), (1, .int y1), (2, .int y2), (3, .int y3), (4, .int y4), (5, .int y5)] [] σ
set_option maxRecDepth 20000 in
set_option maxHeartbeats 2000000 in
theorem b_X7_run {g : zG} {l : Launch} {K : Int32 → zS → Prop} {X : String → zS → Prop} {x1 : Int32} {σ : zS}
    (H : CT g l M_X7_isAngle 0 [.int x1] σ (zQi (fun v1 τ1 => CT g l M_X7_goes 0 [.ref (zad g 24), .int v1] τ1 (zQi (fun v2 τ2 => ((¬ v2 = 0 → CT g l M_X7_columns 0 [.ref (zad g 24)] τ2 (zQi (fun v4 τ4 => L_X7_run_26 g l K X x1 0 0 v4 0 τ4) (fun E τ => X E τ))) ∧ (v2 = 0 → K 0 τ2))) (fun E τ => X E τ))) (fun E τ => X E τ))) :
    CT g l M_X7_run 0 [.ref (zad g 24), .int x1] σ (zQi K X) := by
  refine CT_of rfl (by decide) (Nat.le_of_ble_eq_true rfl) ?_
  change EV _ _ _ _ _ 0 [(0, .ref (zad g 24)), (1, .int x1)] [] _
  refine e_aload_n dX7_run_0 rfl 0 rfl ?_
  refine e_iload_n dX7_run_1 rfl 1 rfl ?_
  refine e_callSi (j1 := 0) (j2 := 0) (av := [.int x1]) rfl H i_X7_isAngle rfl s_X7_isAngle q_X7_326 (by decide) (by decide) (Nat.le_of_ble_eq_true rfl) dX7_run_2 (fun v1 τ1 H => ?_) (fun E τ H => H)
  refine e_callVi (j1 := 0) (j2 := 0) (av := [.int v1]) rfl rfl (Nat.le_of_ble_eq_true rfl) rfl rfl H i_X7_goes rfl n_X7_goes v_X7_goes q_X7_78 (by decide) (by decide) (Nat.le_of_ble_eq_true rfl) dX7_run_5 (fun v2 τ2 H => ?_) (fun E τ H => H)
  refine e_if_ne (tgt := 13) dX7_run_8 (by decide) (fun h3 => ?_) (fun h3 => ?_)
  · replace H := H.1 h3
    refine e_iconst (v := 0) dX7_run_13 (by decide) ?_
    refine e_istore_n (ls' := [(2, .int 0), (0, .ref (zad g 24)), (1, .int x1)]) dX7_run_14 rfl (by decide) rfl ?_
    refine e_iconst (v := 0) dX7_run_15 (by decide) ?_
    refine e_istore_n (ls' := [(3, .int 0), (2, .int 0), (0, .ref (zad g 24)), (1, .int x1)]) dX7_run_16 rfl (by decide) rfl ?_
    refine e_aload_n dX7_run_17 rfl 2 rfl ?_
    refine e_callVi (j1 := 0) (j2 := 0) (av := []) rfl rfl (Nat.le_of_ble_eq_true rfl) rfl rfl H i_X7_columns rfl n_X7_columns v_X7_columns q_X7_170 (by decide) (by decide) (Nat.le_of_ble_eq_true rfl) dX7_run_18 (fun v4 τ4 H => ?_) (fun E τ H => H)
    refine e_istore (ls' := [(4, .int v4), (3, .int 0), (2, .int 0), (0, .ref (zad g 24)), (1, .int x1)]) dX7_run_21 (by decide) rfl ?_
    refine e_iconst (v := 0) dX7_run_23 (by decide) ?_
    refine e_istore (ls' := [(5, .int 0), (4, .int v4), (3, .int 0), (2, .int 0), (0, .ref (zad g 24)), (1, .int x1)]) dX7_run_24 (by decide) rfl ?_
    refine e_ls [4, 5, 3, 2, 1, 0] rfl ?_
    exact H
  · replace H := H.2 h3
    refine e_iconst (v := 0) dX7_run_11 (by decide) ?_
    exact e_iret rfl dX7_run_12 H
set_option maxRecDepth 20000 in
set_option maxHeartbeats 2000000 in
theorem b_X7_run_26 {g : zG} {l : Launch} {K : Int32 → zS → Prop} {X : String → zS → Prop} {y1 : Int32} {y2 : Int32} {y3 : Int32} {y4 : Int32} {y5 : Int32} {σ : zS}
    (H : ((y4 ≤ y5 → K y2 σ) ∧ (¬ y4 ≤ y5 → CT g l M_X7_stateOf 0 [.ref (zad g 24), .int y1, .int y5] σ (zQi (fun v2 τ2 => ((¬ v2 = 0 → CT g l M_X7_greater 0 [.int y2, .int 0] τ2 (zQi (fun v4 τ4 => L_X7_run_26 g l K X y1 v4 0 y4 (y5 + 1) τ4) (fun E τ => X E τ))) ∧ (v2 = 0 → CT g l M_X7_greater 0 [.int y2, .int (y3 + 1)] τ2 (zQi (fun v5 τ5 => L_X7_run_26 g l K X y1 v5 (y3 + 1) y4 (y5 + 1) τ5) (fun E τ => X E τ))))) (fun E τ => X E τ))))) :
    L_X7_run_26 g l K X y1 y2 y3 y4 y5 σ := by
  refine e_iload dX7_run_26 5 rfl ?_
  refine e_iload dX7_run_28 4 rfl ?_
  refine e_icmp_ge (tgt := 63) dX7_run_30 (by decide) (fun h1 => ?_) (fun h1 => ?_)
  · replace H := H.1 h1
    refine e_iload_n dX7_run_63 rfl 2 rfl ?_
    exact e_iret rfl dX7_run_64 H
  · replace H := H.2 h1
    refine e_aload_n dX7_run_33 rfl 0 rfl ?_
    refine e_iload_n dX7_run_34 rfl 1 rfl ?_
    refine e_iload dX7_run_35 5 rfl ?_
    refine e_callVi (j1 := 0) (j2 := 0) (av := [.int y1, .int y5]) rfl rfl (Nat.le_of_ble_eq_true rfl) rfl rfl H i_X7_stateOf rfl n_X7_stateOf v_X7_stateOf q_X7_277 (by decide) (by decide) (Nat.le_of_ble_eq_true rfl) dX7_run_37 (fun v2 τ2 H => ?_) (fun E τ H => H)
    refine e_if_ne (tgt := 49) dX7_run_40 (by decide) (fun h3 => ?_) (fun h3 => ?_)
    · replace H := H.1 h3
      refine e_iconst (v := 0) dX7_run_49 (by decide) ?_
      refine e_istore_n (ls' := [(3, .int 0), (0, .ref (zad g 24)), (1, .int y1), (2, .int y2), (4, .int y4), (5, .int y5)]) dX7_run_50 rfl (by decide) rfl ?_
      refine e_iload_n dX7_run_51 rfl 3 rfl ?_
      refine e_iload_n dX7_run_52 rfl 0 rfl ?_
      refine e_callSi (j1 := 0) (j2 := 0) (av := [.int y2, .int 0]) rfl H i_X7_greater rfl s_X7_greater q_X7_255 (by decide) (by decide) (Nat.le_of_ble_eq_true rfl) dX7_run_53 (fun v4 τ4 H => ?_) (fun E τ H => H)
      refine e_istore_n (ls' := [(2, .int v4), (3, .int 0), (0, .ref (zad g 24)), (1, .int y1), (4, .int y4), (5, .int y5)]) dX7_run_56 rfl (by decide) rfl ?_
      refine e_iinc (j := 5) (v := (y5 + 1)) (ls' := [(5, .int (y5 + 1)), (2, .int v4), (3, .int 0), (0, .ref (zad g 24)), (1, .int y1), (4, .int y4)]) dX7_run_57 rfl rfl (by decide) rfl ?_
      refine e_goto (tgt := 26) dX7_run_60 (by decide) ?_
      refine e_ls [3, 4, 1, 2, 5, 0] rfl ?_
      exact H
    · replace H := H.2 h3
      refine e_iload_n dX7_run_43 rfl 3 rfl ?_
      refine e_iconst (v := 1) dX7_run_44 (by decide) ?_
      refine e_iadd dX7_run_45 ?_
      refine e_goto (tgt := 50) dX7_run_46 (by decide) ?_
      refine e_istore_n (ls' := [(3, .int (y3 + 1)), (0, .ref (zad g 24)), (1, .int y1), (2, .int y2), (4, .int y4), (5, .int y5)]) dX7_run_50 rfl (by decide) rfl ?_
      refine e_iload_n dX7_run_51 rfl 3 rfl ?_
      refine e_iload_n dX7_run_52 rfl 0 rfl ?_
      refine e_callSi (j1 := 0) (j2 := 0) (av := [.int y2, .int (y3 + 1)]) rfl H i_X7_greater rfl s_X7_greater q_X7_255 (by decide) (by decide) (Nat.le_of_ble_eq_true rfl) dX7_run_53 (fun v5 τ5 H => ?_) (fun E τ H => H)
      refine e_istore_n (ls' := [(2, .int v5), (3, .int (y3 + 1)), (0, .ref (zad g 24)), (1, .int y1), (4, .int y4), (5, .int y5)]) dX7_run_56 rfl (by decide) rfl ?_
      refine e_iinc (j := 5) (v := (y5 + 1)) (ls' := [(5, .int (y5 + 1)), (2, .int v5), (3, .int (y3 + 1)), (0, .ref (zad g 24)), (1, .int y1), (4, .int y4)]) dX7_run_57 rfl rfl (by decide) rfl ?_
      refine e_goto (tgt := 26) dX7_run_60 (by decide) ?_
      refine e_ls [3, 4, 1, 2, 5, 0] rfl ?_
      exact H
abbrev L_X7_wrongIn_14 (g : zG) (l : Launch) (K : Int32 → zS → Prop) (X : String → zS → Prop) (y1 : Int32) (y2 : Int32) (y3 : Int32) (y4 : Int32) (y5 : Int32) (y6 : Int32) (σ : zS) : Prop :=
  EV g l M_X7_wrongIn 0 (zQi K X) 14 [(0, .ref (zad g 24)), (1, .int y1), (2, .int y2), (3, .int y3), (4, .int y4), (5, .int y5), (6, .int y6)] [] σ
abbrev L_X7_wrongIn_31 (g : zG) (l : Launch) (K : Int32 → zS → Prop) (X : String → zS → Prop) (y1 : Int32) (y2 : Int32) (y3 : Int32) (y4 : Int32) (y5 : Int32) (y6 : Int32) (y7 : Int32) (σ : zS) : Prop :=
  EV g l M_X7_wrongIn 0 (zQi K X) 31 [(0, .ref (zad g 24)), (1, .int y1), (2, .int y2), (3, .int y3), (4, .int y4), (5, .int y5), (6, .int y6), (7, .int y7)] [] σ
set_option maxRecDepth 20000 in
set_option maxHeartbeats 2000000 in
theorem b_X7_wrongIn {g : zG} {l : Launch} {K : Int32 → zS → Prop} {X : String → zS → Prop} {x1 : Int32} {x2 : Int32} {x3 : Int32} {σ : zS}
    (H : CT g l M_X7_firstOf 0 [.ref (zad g 24), .int x1] σ (zQi (fun v1 τ1 => L_X7_wrongIn_14 g l K X x1 x2 x3 0 v1 v1 τ1) (fun E τ => X E τ))) :
    CT g l M_X7_wrongIn 0 [.ref (zad g 24), .int x1, .int x2, .int x3] σ (zQi K X) := by
  refine CT_of rfl (by decide) (Nat.le_of_ble_eq_true rfl) ?_
  change EV _ _ _ _ _ 0 [(0, .ref (zad g 24)), (1, .int x1), (2, .int x2), (3, .int x3)] [] _
  refine e_iconst (v := 0) dX7_wrongIn_0 (by decide) ?_
  refine e_istore (ls' := [(4, .int 0), (0, .ref (zad g 24)), (1, .int x1), (2, .int x2), (3, .int x3)]) dX7_wrongIn_1 (by decide) rfl ?_
  refine e_aload_n dX7_wrongIn_3 rfl 1 rfl ?_
  refine e_iload_n dX7_wrongIn_4 rfl 2 rfl ?_
  refine e_callVi (j1 := 0) (j2 := 0) (av := [.int x1]) rfl rfl (Nat.le_of_ble_eq_true rfl) rfl rfl H i_X7_firstOf rfl n_X7_firstOf v_X7_firstOf q_X7_167 (by decide) (by decide) (Nat.le_of_ble_eq_true rfl) dX7_wrongIn_5 (fun v1 τ1 H => ?_) (fun E τ H => H)
  refine e_istore (ls' := [(5, .int v1), (4, .int 0), (0, .ref (zad g 24)), (1, .int x1), (2, .int x2), (3, .int x3)]) dX7_wrongIn_8 (by decide) rfl ?_
  refine e_iload dX7_wrongIn_10 0 rfl ?_
  refine e_istore (ls' := [(6, .int v1), (5, .int v1), (4, .int 0), (0, .ref (zad g 24)), (1, .int x1), (2, .int x2), (3, .int x3)]) dX7_wrongIn_12 (by decide) rfl ?_
  refine e_ls [3, 4, 5, 6, 2, 1, 0] rfl ?_
  exact H
set_option maxRecDepth 20000 in
set_option maxHeartbeats 2000000 in
theorem b_X7_wrongIn_14 {g : zG} {l : Launch} {K : Int32 → zS → Prop} {X : String → zS → Prop} {y1 : Int32} {y2 : Int32} {y3 : Int32} {y4 : Int32} {y5 : Int32} {y6 : Int32} {σ : zS}
    (H : CT g l M_X7_of 0 [.ref (zad g 24), .int y1, .int 0] σ (zQi (fun v1 τ1 => (((y5 + v1) ≤ y6 → K y4 τ1) ∧ (¬ (y5 + v1) ≤ y6 → L_X7_wrongIn_31 g l K X y1 y2 y3 y4 y5 y6 0 τ1))) (fun E τ => X E τ))) :
    L_X7_wrongIn_14 g l K X y1 y2 y3 y4 y5 y6 σ := by
  refine e_iload dX7_wrongIn_14 6 rfl ?_
  refine e_iload dX7_wrongIn_16 5 rfl ?_
  refine e_aload_n dX7_wrongIn_18 rfl 0 rfl ?_
  refine e_iload_n dX7_wrongIn_19 rfl 1 rfl ?_
  refine e_iconst (v := 0) dX7_wrongIn_20 (by decide) ?_
  refine e_callVi (j1 := 0) (j2 := 0) (av := [.int y1, .int 0]) rfl rfl (Nat.le_of_ble_eq_true rfl) rfl rfl H i_X7_of rfl n_X7_of v_X7_of q_X7_164 (by decide) (by decide) (Nat.le_of_ble_eq_true rfl) dX7_wrongIn_21 (fun v1 τ1 H => ?_) (fun E τ H => H)
  refine e_iadd dX7_wrongIn_24 ?_
  refine e_icmp_ge (tgt := 80) dX7_wrongIn_25 (by decide) (fun h2 => ?_) (fun h2 => ?_)
  · replace H := H.1 h2
    refine e_iload dX7_wrongIn_80 4 rfl ?_
    exact e_iret rfl dX7_wrongIn_82 H
  · replace H := H.2 h2
    refine e_iconst (v := 0) dX7_wrongIn_28 (by decide) ?_
    refine e_istore (ls' := [(7, .int 0), (0, .ref (zad g 24)), (1, .int y1), (2, .int y2), (3, .int y3), (4, .int y4), (5, .int y5), (6, .int y6)]) dX7_wrongIn_29 (by decide) rfl ?_
    refine e_ls [1, 2, 3, 4, 5, 6, 7, 0] rfl ?_
    exact H
set_option maxRecDepth 20000 in
set_option maxHeartbeats 2000000 in
theorem b_X7_wrongIn_31 {g : zG} {l : Launch} {K : Int32 → zS → Prop} {X : String → zS → Prop} {y1 : Int32} {y2 : Int32} {y3 : Int32} {y4 : Int32} {y5 : Int32} {y6 : Int32} {y7 : Int32} {σ : zS}
    (H : (((σ.1 26 (Int32.toNatClampNeg 0)) ≤ y7 → L_X7_wrongIn_14 g l K X y1 y2 y3 y4 y5 (y6 + 1) σ) ∧ (¬ (σ.1 26 (Int32.toNatClampNeg 0)) ≤ y7 → CT g l M_X7_whyNot 0 [.ref (zad g 24), .int y2, .int y3, .int y6, .int y7] σ (zQi (fun v2 τ2 => ((v2 = 0 → CT g l M_X7_truth 0 [.int 0] τ2 (zQi (fun v4 τ4 => L_X7_wrongIn_31 g l K X y1 y2 y3 (y4 + v4) y5 y6 (y7 + 1) τ4) (fun E τ => X E τ))) ∧ (¬ v2 = 0 → CT g l M_X7_truth 0 [.int 1] τ2 (zQi (fun v5 τ5 => L_X7_wrongIn_31 g l K X y1 y2 y3 (y4 + v5) y5 y6 (y7 + 1) τ5) (fun E τ => X E τ))))) (fun E τ => X E τ))))) :
    L_X7_wrongIn_31 g l K X y1 y2 y3 y4 y5 y6 y7 σ := by
  refine e_iload dX7_wrongIn_31 7 rfl ?_
  refine e_aload_n dX7_wrongIn_33 rfl 0 rfl ?_
  refine fg_X7_20 rfl dX7_wrongIn_34 ?_
  refine e_iconst (v := 0) dX7_wrongIn_37 (by decide) ?_
  refine e_iald (n := 1110) rfl (Nat.le_of_ble_eq_true rfl) (vil (by decide)) dX7_wrongIn_38 ?_
  refine e_icmp_ge (tgt := 74) dX7_wrongIn_39 (by decide) (fun h1 => ?_) (fun h1 => ?_)
  · replace H := H.1 h1
    refine e_iinc (j := 6) (v := (y6 + 1)) (ls' := [(6, .int (y6 + 1)), (0, .ref (zad g 24)), (1, .int y1), (2, .int y2), (3, .int y3), (4, .int y4), (5, .int y5), (7, .int y7)]) dX7_wrongIn_74 rfl rfl (by decide) rfl ?_
    refine e_goto (tgt := 14) dX7_wrongIn_77 (by decide) ?_
    refine e_ls [1, 2, 3, 4, 5, 6, 0] rfl ?_
    exact H
  · replace H := H.2 h1
    refine e_iload dX7_wrongIn_42 4 rfl ?_
    refine e_aload_n dX7_wrongIn_44 rfl 0 rfl ?_
    refine e_iload_n dX7_wrongIn_45 rfl 2 rfl ?_
    refine e_iload_n dX7_wrongIn_46 rfl 3 rfl ?_
    refine e_iload dX7_wrongIn_47 6 rfl ?_
    refine e_iload dX7_wrongIn_49 7 rfl ?_
    refine e_callVi (j1 := 0) (j2 := 0) (av := [.int y2, .int y3, .int y6, .int y7]) rfl rfl (Nat.le_of_ble_eq_true rfl) rfl rfl H i_X7_whyNot rfl n_X7_whyNot v_X7_whyNot q_X7_283 (by decide) (by decide) (Nat.le_of_ble_eq_true rfl) dX7_wrongIn_51 (fun v2 τ2 H => ?_) (fun E τ H => H)
    refine e_if_eq (tgt := 61) dX7_wrongIn_54 (by decide) (fun h3 => ?_) (fun h3 => ?_)
    · replace H := H.1 h3
      refine e_iconst (v := 0) dX7_wrongIn_61 (by decide) ?_
      refine e_callSi (j1 := 0) (j2 := 0) (av := [.int 0]) rfl H i_X7_truth rfl s_X7_truth q_X7_71 (by decide) (by decide) (Nat.le_of_ble_eq_true rfl) dX7_wrongIn_62 (fun v4 τ4 H => ?_) (fun E τ H => H)
      refine e_iadd dX7_wrongIn_65 ?_
      refine e_istore (ls' := [(4, .int (y4 + v4)), (0, .ref (zad g 24)), (1, .int y1), (2, .int y2), (3, .int y3), (5, .int y5), (6, .int y6), (7, .int y7)]) dX7_wrongIn_66 (by decide) rfl ?_
      refine e_iinc (j := 7) (v := (y7 + 1)) (ls' := [(7, .int (y7 + 1)), (4, .int (y4 + v4)), (0, .ref (zad g 24)), (1, .int y1), (2, .int y2), (3, .int y3), (5, .int y5), (6, .int y6)]) dX7_wrongIn_68 rfl rfl (by decide) rfl ?_
      refine e_goto (tgt := 31) dX7_wrongIn_71 (by decide) ?_
      refine e_ls [2, 3, 4, 5, 1, 6, 7, 0] rfl ?_
      exact H
    · replace H := H.2 h3
      refine e_iconst (v := 1) dX7_wrongIn_57 (by decide) ?_
      refine e_goto (tgt := 62) dX7_wrongIn_58 (by decide) ?_
      refine e_callSi (j1 := 0) (j2 := 0) (av := [.int 1]) rfl H i_X7_truth rfl s_X7_truth q_X7_71 (by decide) (by decide) (Nat.le_of_ble_eq_true rfl) dX7_wrongIn_62 (fun v5 τ5 H => ?_) (fun E τ H => H)
      refine e_iadd dX7_wrongIn_65 ?_
      refine e_istore (ls' := [(4, .int (y4 + v5)), (0, .ref (zad g 24)), (1, .int y1), (2, .int y2), (3, .int y3), (5, .int y5), (6, .int y6), (7, .int y7)]) dX7_wrongIn_66 (by decide) rfl ?_
      refine e_iinc (j := 7) (v := (y7 + 1)) (ls' := [(7, .int (y7 + 1)), (4, .int (y4 + v5)), (0, .ref (zad g 24)), (1, .int y1), (2, .int y2), (3, .int y3), (5, .int y5), (6, .int y6)]) dX7_wrongIn_68 rfl rfl (by decide) rfl ?_
      refine e_goto (tgt := 31) dX7_wrongIn_71 (by decide) ?_
      refine e_ls [2, 3, 4, 5, 1, 6, 7, 0] rfl ?_
      exact H
abbrev L_X7_worstSlat_21 (g : zG) (l : Launch) (K : Int32 → zS → Prop) (X : String → zS → Prop) (y1 : Int32) (y2 : Int32) (y3 : Int32) (y4 : Int32) (y5 : Int32) (σ : zS) : Prop :=
  EV g l M_X7_worstSlat 0 (zQi K X) 21 [(0, .ref (zad g 24)), (1, .int y1), (2, .int y2), (3, .int y3), (4, .int y4), (5, .int y5)] [] σ
set_option maxRecDepth 20000 in
set_option maxHeartbeats 2000000 in
theorem b_X7_worstSlat {g : zG} {l : Launch} {K : Int32 → zS → Prop} {X : String → zS → Prop} {x1 : Int32} {x2 : Int32} {σ : zS}
    (H : CT g l M_X7_isAngle 0 [.int x1] σ (zQi (fun v1 τ1 => CT g l M_X7_goes 0 [.ref (zad g 24), .int v1] τ1 (zQi (fun v2 τ2 => ((¬ v2 = 0 → L_X7_worstSlat_21 g l K X x1 x2 (-1) 0 0 τ2) ∧ (v2 = 0 → K 0 τ2))) (fun E τ => X E τ))) (fun E τ => X E τ))) :
    CT g l M_X7_worstSlat 0 [.ref (zad g 24), .int x1, .int x2] σ (zQi K X) := by
  refine CT_of rfl (by decide) (Nat.le_of_ble_eq_true rfl) ?_
  change EV _ _ _ _ _ 0 [(0, .ref (zad g 24)), (1, .int x1), (2, .int x2)] [] _
  refine e_aload_n dX7_worstSlat_0 rfl 0 rfl ?_
  refine e_iload_n dX7_worstSlat_1 rfl 1 rfl ?_
  refine e_callSi (j1 := 0) (j2 := 0) (av := [.int x1]) rfl H i_X7_isAngle rfl s_X7_isAngle q_X7_326 (by decide) (by decide) (Nat.le_of_ble_eq_true rfl) dX7_worstSlat_2 (fun v1 τ1 H => ?_) (fun E τ H => H)
  refine e_callVi (j1 := 0) (j2 := 0) (av := [.int v1]) rfl rfl (Nat.le_of_ble_eq_true rfl) rfl rfl H i_X7_goes rfl n_X7_goes v_X7_goes q_X7_78 (by decide) (by decide) (Nat.le_of_ble_eq_true rfl) dX7_worstSlat_5 (fun v2 τ2 H => ?_) (fun E τ H => H)
  refine e_if_ne (tgt := 13) dX7_worstSlat_8 (by decide) (fun h3 => ?_) (fun h3 => ?_)
  · replace H := H.1 h3
    refine e_iconst (v := (-1)) dX7_worstSlat_13 (by decide) ?_
    refine e_istore_n (ls' := [(3, .int (-1)), (0, .ref (zad g 24)), (1, .int x1), (2, .int x2)]) dX7_worstSlat_14 rfl (by decide) rfl ?_
    refine e_iconst (v := 0) dX7_worstSlat_15 (by decide) ?_
    refine e_istore (ls' := [(4, .int 0), (3, .int (-1)), (0, .ref (zad g 24)), (1, .int x1), (2, .int x2)]) dX7_worstSlat_16 (by decide) rfl ?_
    refine e_iconst (v := 0) dX7_worstSlat_18 (by decide) ?_
    refine e_istore (ls' := [(5, .int 0), (4, .int 0), (3, .int (-1)), (0, .ref (zad g 24)), (1, .int x1), (2, .int x2)]) dX7_worstSlat_19 (by decide) rfl ?_
    refine e_ls [3, 4, 5, 2, 1, 0] rfl ?_
    exact H
  · replace H := H.2 h3
    refine e_iconst (v := 0) dX7_worstSlat_11 (by decide) ?_
    exact e_iret rfl dX7_worstSlat_12 H
set_option maxRecDepth 20000 in
set_option maxHeartbeats 2000000 in
theorem b_X7_worstSlat_21 {g : zG} {l : Launch} {K : Int32 → zS → Prop} {X : String → zS → Prop} {y1 : Int32} {y2 : Int32} {y3 : Int32} {y4 : Int32} {y5 : Int32} {σ : zS}
    (H : (((σ.1 26 (Int32.toNatClampNeg 1)) ≤ y5 → K y3 σ) ∧ (¬ (σ.1 26 (Int32.toNatClampNeg 1)) ≤ y5 → CT g l M_X7_truth 0 [.int y2] σ (zQi (fun v2 τ2 => CT g l M_X7_wrongIn 0 [.ref (zad g 24), .int y5, .int y1, .int v2] τ2 (zQi (fun v3 τ3 => ((y4 < v3 → L_X7_worstSlat_21 g l K X y1 y2 y5 v3 (y5 + 1) τ3) ∧ (¬ y4 < v3 → L_X7_worstSlat_21 g l K X y1 y2 y3 y4 (y5 + 1) τ3))) (fun E τ => X E τ))) (fun E τ => X E τ))))) :
    L_X7_worstSlat_21 g l K X y1 y2 y3 y4 y5 σ := by
  refine e_iload dX7_worstSlat_21 5 rfl ?_
  refine e_aload_n dX7_worstSlat_23 rfl 0 rfl ?_
  refine fg_X7_20 rfl dX7_worstSlat_24 ?_
  refine e_iconst (v := 1) dX7_worstSlat_27 (by decide) ?_
  refine e_iald (n := 1110) rfl (Nat.le_of_ble_eq_true rfl) (vil (by decide)) dX7_worstSlat_28 ?_
  refine e_icmp_ge (tgt := 68) dX7_worstSlat_29 (by decide) (fun h1 => ?_) (fun h1 => ?_)
  · replace H := H.1 h1
    refine e_iload_n dX7_worstSlat_68 rfl 3 rfl ?_
    exact e_iret rfl dX7_worstSlat_69 H
  · replace H := H.2 h1
    refine e_aload_n dX7_worstSlat_32 rfl 0 rfl ?_
    refine e_iload dX7_worstSlat_33 5 rfl ?_
    refine e_iload_n dX7_worstSlat_35 rfl 1 rfl ?_
    refine e_iload_n dX7_worstSlat_36 rfl 2 rfl ?_
    refine e_callSi (j1 := 0) (j2 := 0) (av := [.int y2]) rfl H i_X7_truth rfl s_X7_truth q_X7_71 (by decide) (by decide) (Nat.le_of_ble_eq_true rfl) dX7_worstSlat_37 (fun v2 τ2 H => ?_) (fun E τ H => H)
    refine e_callVi (j1 := 0) (j2 := 0) (av := [.int y5, .int y1, .int v2]) rfl rfl (Nat.le_of_ble_eq_true rfl) rfl rfl H i_X7_wrongIn rfl n_X7_wrongIn v_X7_wrongIn q_X7_347 (by decide) (by decide) (Nat.le_of_ble_eq_true rfl) dX7_worstSlat_40 (fun v3 τ3 H => ?_) (fun E τ H => H)
    refine e_istore (ls' := [(6, .int v3), (0, .ref (zad g 24)), (1, .int y1), (2, .int y2), (3, .int y3), (4, .int y4), (5, .int y5)]) dX7_worstSlat_43 (by decide) rfl ?_
    refine e_iload dX7_worstSlat_45 0 rfl ?_
    refine e_iload dX7_worstSlat_47 5 rfl ?_
    refine e_icmp_gt (tgt := 55) dX7_worstSlat_49 (by decide) (fun h4 => ?_) (fun h4 => ?_)
    · replace H := H.1 h4
      refine e_iload dX7_worstSlat_55 0 rfl ?_
      refine e_istore (ls' := [(4, .int v3), (6, .int v3), (0, .ref (zad g 24)), (1, .int y1), (2, .int y2), (3, .int y3), (5, .int y5)]) dX7_worstSlat_57 (by decide) rfl ?_
      refine e_iload dX7_worstSlat_59 6 rfl ?_
      refine e_istore_n (ls' := [(3, .int y5), (4, .int v3), (6, .int v3), (0, .ref (zad g 24)), (1, .int y1), (2, .int y2), (5, .int y5)]) dX7_worstSlat_61 rfl (by decide) rfl ?_
      refine e_iinc (j := 6) (v := (y5 + 1)) (ls' := [(5, .int (y5 + 1)), (3, .int y5), (4, .int v3), (6, .int v3), (0, .ref (zad g 24)), (1, .int y1), (2, .int y2)]) dX7_worstSlat_62 rfl rfl (by decide) rfl ?_
      refine e_goto (tgt := 21) dX7_worstSlat_65 (by decide) ?_
      refine e_ls [4, 5, 6, 1, 2, 0] rfl ?_
      exact H
    · replace H := H.2 h4
      refine e_goto (tgt := 62) dX7_worstSlat_52 (by decide) ?_
      refine e_iinc (j := 6) (v := (y5 + 1)) (ls' := [(5, .int (y5 + 1)), (6, .int v3), (0, .ref (zad g 24)), (1, .int y1), (2, .int y2), (3, .int y3), (4, .int y4)]) dX7_worstSlat_62 rfl rfl (by decide) rfl ?_
      refine e_goto (tgt := 21) dX7_worstSlat_65 (by decide) ?_
      refine e_ls [2, 3, 4, 5, 6, 0] rfl ?_
      exact H
set_option maxRecDepth 20000 in
set_option maxHeartbeats 2000000 in
theorem b_X7_isGhost {g : zG} {l : Launch} {K : Int32 → zS → Prop} {X : String → zS → Prop} {x1 : Int32} {x2 : Int32} {x3 : Int32} {x4 : Int32} {σ : zS}
    (H : CT g l M_X7_colourSeen 0 [.ref (zad g 24), .int x1, .int x3, .int x4] σ (zQi (fun v1 τ1 => CT g l M_X7_pictureAt 0 [.ref (zad g 24), .int x2, .int x3, .int x4] τ1 (zQi (fun v2 τ2 => ((v1 = v2 → K 0 τ2) ∧ (¬ v1 = v2 → CT g l M_X7_pictureAt 0 [.ref (zad g 24), .int (1 - x2), .int x3, .int x4] τ2 (zQi (fun v4 τ4 => ((¬ v1 = v4 → K 0 τ4) ∧ (v1 = v4 → K 1 τ4))) (fun E τ => X E τ))))) (fun E τ => X E τ))) (fun E τ => X E τ))) :
    CT g l M_X7_isGhost 0 [.ref (zad g 24), .int x1, .int x2, .int x3, .int x4] σ (zQi K X) := by
  refine CT_of rfl (by decide) (Nat.le_of_ble_eq_true rfl) ?_
  change EV _ _ _ _ _ 0 [(0, .ref (zad g 24)), (1, .int x1), (2, .int x2), (3, .int x3), (4, .int x4)] [] _
  refine e_aload_n dX7_isGhost_0 rfl 0 rfl ?_
  refine e_iload_n dX7_isGhost_1 rfl 1 rfl ?_
  refine e_iload_n dX7_isGhost_2 rfl 3 rfl ?_
  refine e_iload dX7_isGhost_3 4 rfl ?_
  refine e_callVi (j1 := 0) (j2 := 0) (av := [.int x1, .int x3, .int x4]) rfl rfl (Nat.le_of_ble_eq_true rfl) rfl rfl H i_X7_colourSeen rfl n_X7_colourSeen v_X7_colourSeen q_X7_280 (by decide) (by decide) (Nat.le_of_ble_eq_true rfl) dX7_isGhost_5 (fun v1 τ1 H => ?_) (fun E τ H => H)
  refine e_istore (ls' := [(5, .int v1), (0, .ref (zad g 24)), (1, .int x1), (2, .int x2), (3, .int x3), (4, .int x4)]) dX7_isGhost_8 (by decide) rfl ?_
  refine e_iload dX7_isGhost_10 0 rfl ?_
  refine e_aload_n dX7_isGhost_12 rfl 1 rfl ?_
  refine e_iload_n dX7_isGhost_13 rfl 3 rfl ?_
  refine e_iload_n dX7_isGhost_14 rfl 4 rfl ?_
  refine e_iload dX7_isGhost_15 5 rfl ?_
  refine e_callVi (j1 := 0) (j2 := 0) (av := [.int x2, .int x3, .int x4]) rfl rfl (Nat.le_of_ble_eq_true rfl) rfl rfl H i_X7_pictureAt rfl n_X7_pictureAt v_X7_pictureAt q_X7_177 (by decide) (by decide) (Nat.le_of_ble_eq_true rfl) dX7_isGhost_17 (fun v2 τ2 H => ?_) (fun E τ H => H)
  refine e_icmp_eq (tgt := 42) dX7_isGhost_20 (by decide) (fun h3 => ?_) (fun h3 => ?_)
  · replace H := H.1 h3
    refine e_iconst (v := 0) dX7_isGhost_42 (by decide) ?_
    exact e_zret rfl rfl dX7_isGhost_43 H
  · replace H := H.2 h3
    refine e_iload dX7_isGhost_23 0 rfl ?_
    refine e_aload_n dX7_isGhost_25 rfl 1 rfl ?_
    refine e_iconst (v := 1) dX7_isGhost_26 (by decide) ?_
    refine e_iload_n dX7_isGhost_27 rfl 3 rfl ?_
    refine e_isub dX7_isGhost_28 ?_
    refine e_iload_n dX7_isGhost_29 rfl 4 rfl ?_
    refine e_iload dX7_isGhost_30 5 rfl ?_
    refine e_callVi (j1 := 0) (j2 := 0) (av := [.int (1 - x2), .int x3, .int x4]) rfl rfl (Nat.le_of_ble_eq_true rfl) rfl rfl H i_X7_pictureAt rfl n_X7_pictureAt v_X7_pictureAt q_X7_177 (by decide) (by decide) (Nat.le_of_ble_eq_true rfl) dX7_isGhost_32 (fun v4 τ4 H => ?_) (fun E τ H => H)
    refine e_icmp_ne (tgt := 42) dX7_isGhost_35 (by decide) (fun h5 => ?_) (fun h5 => ?_)
    · replace H := H.1 h5
      refine e_iconst (v := 0) dX7_isGhost_42 (by decide) ?_
      exact e_zret rfl rfl dX7_isGhost_43 H
    · replace H := H.2 h5
      refine e_iconst (v := 1) dX7_isGhost_38 (by decide) ?_
      refine e_goto (tgt := 43) dX7_isGhost_39 (by decide) ?_
      exact e_zret rfl rfl dX7_isGhost_43 H
abbrev L_X7_ghosts_24 (g : zG) (l : Launch) (K : Int32 → zS → Prop) (X : String → zS → Prop) (y1 : Int32) (y2 : Int32) (y3 : Int32) (y4 : Int32) (y5 : Int32) (σ : zS) : Prop :=
  EV g l M_X7_ghosts 0 (zQi K X) 24 [(0, .ref (zad g 24)), (1, .int y1), (2, .int y2), (3, .int y3), (4, .int y4), (5, .int y5)] [] σ
abbrev L_X7_ghosts_47 (g : zG) (l : Launch) (K : Int32 → zS → Prop) (X : String → zS → Prop) (y1 : Int32) (y2 : Int32) (y3 : Int32) (y4 : Int32) (y5 : Int32) (y6 : Int32) (σ : zS) : Prop :=
  EV g l M_X7_ghosts 0 (zQi K X) 47 [(0, .ref (zad g 24)), (1, .int y1), (2, .int y2), (3, .int y3), (4, .int y4), (5, .int y5), (6, .int y6)] [] σ
set_option maxRecDepth 20000 in
set_option maxHeartbeats 2000000 in
theorem b_X7_ghosts {g : zG} {l : Launch} {K : Int32 → zS → Prop} {X : String → zS → Prop} {x1 : Int32} {x2 : Int32} {σ : zS}
    (H : CT g l M_X7_isAngle 0 [.int x1] σ (zQi (fun v1 τ1 => CT g l M_X7_goes 0 [.ref (zad g 24), .int v1] τ1 (zQi (fun v2 τ2 => ((¬ v2 = 0 → CT g l M_X7_columns 0 [.ref (zad g 24)] τ2 (zQi (fun v4 τ4 => L_X7_ghosts_24 g l K X x1 x2 0 v4 0 τ4) (fun E τ => X E τ))) ∧ (v2 = 0 → K 0 τ2))) (fun E τ => X E τ))) (fun E τ => X E τ))) :
    CT g l M_X7_ghosts 0 [.ref (zad g 24), .int x1, .int x2] σ (zQi K X) := by
  refine CT_of rfl (by decide) (Nat.le_of_ble_eq_true rfl) ?_
  change EV _ _ _ _ _ 0 [(0, .ref (zad g 24)), (1, .int x1), (2, .int x2)] [] _
  refine e_aload_n dX7_ghosts_0 rfl 0 rfl ?_
  refine e_iload_n dX7_ghosts_1 rfl 1 rfl ?_
  refine e_callSi (j1 := 0) (j2 := 0) (av := [.int x1]) rfl H i_X7_isAngle rfl s_X7_isAngle q_X7_326 (by decide) (by decide) (Nat.le_of_ble_eq_true rfl) dX7_ghosts_2 (fun v1 τ1 H => ?_) (fun E τ H => H)
  refine e_callVi (j1 := 0) (j2 := 0) (av := [.int v1]) rfl rfl (Nat.le_of_ble_eq_true rfl) rfl rfl H i_X7_goes rfl n_X7_goes v_X7_goes q_X7_78 (by decide) (by decide) (Nat.le_of_ble_eq_true rfl) dX7_ghosts_5 (fun v2 τ2 H => ?_) (fun E τ H => H)
  refine e_if_ne (tgt := 13) dX7_ghosts_8 (by decide) (fun h3 => ?_) (fun h3 => ?_)
  · replace H := H.1 h3
    refine e_iconst (v := 0) dX7_ghosts_13 (by decide) ?_
    refine e_istore_n (ls' := [(3, .int 0), (0, .ref (zad g 24)), (1, .int x1), (2, .int x2)]) dX7_ghosts_14 rfl (by decide) rfl ?_
    refine e_aload_n dX7_ghosts_15 rfl 1 rfl ?_
    refine e_callVi (j1 := 0) (j2 := 0) (av := []) rfl rfl (Nat.le_of_ble_eq_true rfl) rfl rfl H i_X7_columns rfl n_X7_columns v_X7_columns q_X7_170 (by decide) (by decide) (Nat.le_of_ble_eq_true rfl) dX7_ghosts_16 (fun v4 τ4 H => ?_) (fun E τ H => H)
    refine e_istore (ls' := [(4, .int v4), (3, .int 0), (0, .ref (zad g 24)), (1, .int x1), (2, .int x2)]) dX7_ghosts_19 (by decide) rfl ?_
    refine e_iconst (v := 0) dX7_ghosts_21 (by decide) ?_
    refine e_istore (ls' := [(5, .int 0), (4, .int v4), (3, .int 0), (0, .ref (zad g 24)), (1, .int x1), (2, .int x2)]) dX7_ghosts_22 (by decide) rfl ?_
    refine e_ls [3, 4, 5, 2, 1, 0] rfl ?_
    exact H
  · replace H := H.2 h3
    refine e_iconst (v := 0) dX7_ghosts_11 (by decide) ?_
    exact e_iret rfl dX7_ghosts_12 H
set_option maxRecDepth 20000 in
set_option maxHeartbeats 2000000 in
theorem b_X7_ghosts_24 {g : zG} {l : Launch} {K : Int32 → zS → Prop} {X : String → zS → Prop} {y1 : Int32} {y2 : Int32} {y3 : Int32} {y4 : Int32} {y5 : Int32} {σ : zS}
    (H : ((y4 ≤ y5 → K y3 σ) ∧ (¬ y4 ≤ y5 → CT g l M_X7_stateOf 0 [.ref (zad g 24), .int y1, .int y5] σ (zQi (fun v2 τ2 => ((v2 = 0 → L_X7_ghosts_47 g l K X y1 y2 y3 y4 y5 0 τ2) ∧ (¬ v2 = 0 → L_X7_ghosts_24 g l K X y1 y2 y3 y4 (y5 + 1) τ2))) (fun E τ => X E τ))))) :
    L_X7_ghosts_24 g l K X y1 y2 y3 y4 y5 σ := by
  refine e_iload dX7_ghosts_24 5 rfl ?_
  refine e_iload dX7_ghosts_26 4 rfl ?_
  refine e_icmp_ge (tgt := 89) dX7_ghosts_28 (by decide) (fun h1 => ?_) (fun h1 => ?_)
  · replace H := H.1 h1
    refine e_iload_n dX7_ghosts_89 rfl 3 rfl ?_
    exact e_iret rfl dX7_ghosts_90 H
  · replace H := H.2 h1
    refine e_aload_n dX7_ghosts_31 rfl 0 rfl ?_
    refine e_iload_n dX7_ghosts_32 rfl 1 rfl ?_
    refine e_iload dX7_ghosts_33 5 rfl ?_
    refine e_callVi (j1 := 0) (j2 := 0) (av := [.int y1, .int y5]) rfl rfl (Nat.le_of_ble_eq_true rfl) rfl rfl H i_X7_stateOf rfl n_X7_stateOf v_X7_stateOf q_X7_277 (by decide) (by decide) (Nat.le_of_ble_eq_true rfl) dX7_ghosts_35 (fun v2 τ2 H => ?_) (fun E τ H => H)
    refine e_if_eq (tgt := 44) dX7_ghosts_38 (by decide) (fun h3 => ?_) (fun h3 => ?_)
    · replace H := H.1 h3
      refine e_iconst (v := 0) dX7_ghosts_44 (by decide) ?_
      refine e_istore (ls' := [(6, .int 0), (0, .ref (zad g 24)), (1, .int y1), (2, .int y2), (3, .int y3), (4, .int y4), (5, .int y5)]) dX7_ghosts_45 (by decide) rfl ?_
      refine e_ls [1, 2, 3, 4, 5, 6, 0] rfl ?_
      exact H
    · replace H := H.2 h3
      refine e_goto (tgt := 83) dX7_ghosts_41 (by decide) ?_
      refine e_iinc (j := 5) (v := (y5 + 1)) (ls' := [(5, .int (y5 + 1)), (0, .ref (zad g 24)), (1, .int y1), (2, .int y2), (3, .int y3), (4, .int y4)]) dX7_ghosts_83 rfl rfl (by decide) rfl ?_
      refine e_goto (tgt := 24) dX7_ghosts_86 (by decide) ?_
      refine e_ls [1, 2, 3, 4, 5, 0] rfl ?_
      exact H
set_option maxRecDepth 20000 in
set_option maxHeartbeats 2000000 in
theorem b_X7_ghosts_47 {g : zG} {l : Launch} {K : Int32 → zS → Prop} {X : String → zS → Prop} {y1 : Int32} {y2 : Int32} {y3 : Int32} {y4 : Int32} {y5 : Int32} {y6 : Int32} {σ : zS}
    (H : (((σ.1 26 (Int32.toNatClampNeg 0)) ≤ y6 → L_X7_ghosts_24 g l K X y1 y2 y3 y4 (y5 + 1) σ) ∧ (¬ (σ.1 26 (Int32.toNatClampNeg 0)) ≤ y6 → CT g l M_X7_truth 0 [.int y2] σ (zQi (fun v2 τ2 => CT g l M_X7_isGhost 0 [.ref (zad g 24), .int y1, .int v2, .int y5, .int y6] τ2 (zQi (fun v3 τ3 => CT g l M_X7_truth 0 [.int v3] τ3 (zQi (fun v4 τ4 => L_X7_ghosts_47 g l K X y1 y2 (y3 + v4) y4 y5 (y6 + 1) τ4) (fun E τ => X E τ))) (fun E τ => X E τ))) (fun E τ => X E τ))))) :
    L_X7_ghosts_47 g l K X y1 y2 y3 y4 y5 y6 σ := by
  refine e_iload dX7_ghosts_47 6 rfl ?_
  refine e_aload_n dX7_ghosts_49 rfl 0 rfl ?_
  refine fg_X7_20 rfl dX7_ghosts_50 ?_
  refine e_iconst (v := 0) dX7_ghosts_53 (by decide) ?_
  refine e_iald (n := 1110) rfl (Nat.le_of_ble_eq_true rfl) (vil (by decide)) dX7_ghosts_54 ?_
  refine e_icmp_ge (tgt := 83) dX7_ghosts_55 (by decide) (fun h1 => ?_) (fun h1 => ?_)
  · replace H := H.1 h1
    refine e_iinc (j := 5) (v := (y5 + 1)) (ls' := [(5, .int (y5 + 1)), (0, .ref (zad g 24)), (1, .int y1), (2, .int y2), (3, .int y3), (4, .int y4), (6, .int y6)]) dX7_ghosts_83 rfl rfl (by decide) rfl ?_
    refine e_goto (tgt := 24) dX7_ghosts_86 (by decide) ?_
    refine e_ls [1, 2, 3, 4, 5, 0] rfl ?_
    exact H
  · replace H := H.2 h1
    refine e_iload_n dX7_ghosts_58 rfl 3 rfl ?_
    refine e_aload_n dX7_ghosts_59 rfl 0 rfl ?_
    refine e_iload_n dX7_ghosts_60 rfl 1 rfl ?_
    refine e_iload_n dX7_ghosts_61 rfl 2 rfl ?_
    refine e_callSi (j1 := 0) (j2 := 0) (av := [.int y2]) rfl H i_X7_truth rfl s_X7_truth q_X7_71 (by decide) (by decide) (Nat.le_of_ble_eq_true rfl) dX7_ghosts_62 (fun v2 τ2 H => ?_) (fun E τ H => H)
    refine e_iload dX7_ghosts_65 5 rfl ?_
    refine e_iload dX7_ghosts_67 6 rfl ?_
    refine e_callVi (j1 := 0) (j2 := 0) (av := [.int y1, .int v2, .int y5, .int y6]) rfl rfl (Nat.le_of_ble_eq_true rfl) rfl rfl H i_X7_isGhost rfl n_X7_isGhost v_X7_isGhost q_X7_350 (by decide) (by decide) (Nat.le_of_ble_eq_true rfl) dX7_ghosts_69 (fun v3 τ3 H => ?_) (fun E τ H => H)
    refine e_callSi (j1 := 0) (j2 := 0) (av := [.int v3]) rfl H i_X7_truth rfl s_X7_truth q_X7_71 (by decide) (by decide) (Nat.le_of_ble_eq_true rfl) dX7_ghosts_72 (fun v4 τ4 H => ?_) (fun E τ H => H)
    refine e_iadd dX7_ghosts_75 ?_
    refine e_istore_n (ls' := [(3, .int (y3 + v4)), (0, .ref (zad g 24)), (1, .int y1), (2, .int y2), (4, .int y4), (5, .int y5), (6, .int y6)]) dX7_ghosts_76 rfl (by decide) rfl ?_
    refine e_iinc (j := 6) (v := (y6 + 1)) (ls' := [(6, .int (y6 + 1)), (3, .int (y3 + v4)), (0, .ref (zad g 24)), (1, .int y1), (2, .int y2), (4, .int y4), (5, .int y5)]) dX7_ghosts_77 rfl rfl (by decide) rfl ?_
    refine e_goto (tgt := 47) dX7_ghosts_80 (by decide) ?_
    refine e_ls [2, 3, 4, 1, 5, 6, 0] rfl ?_
    exact H
set_option maxRecDepth 20000 in
set_option maxHeartbeats 2000000 in
theorem b_X7_bearsMore {g : zG} {l : Launch} {K : Int32 → zS → Prop} {X : String → zS → Prop} {x1 : Int32} {x2 : Int32} {σ : zS}
    (H : CT g l M_X7_of 0 [.ref (zad g 24), .int x1, .int (3 + x2)] σ (zQi (fun v1 τ1 => (((τ1.1 26 (Int32.toNatClampNeg 2)) ≤ v1 → K 0 τ1) ∧ (¬ (τ1.1 26 (Int32.toNatClampNeg 2)) ≤ v1 → K 1 τ1))) (fun E τ => X E τ))) :
    CT g l M_X7_bearsMore 0 [.ref (zad g 24), .int x1, .int x2] σ (zQi K X) := by
  refine CT_of rfl (by decide) (Nat.le_of_ble_eq_true rfl) ?_
  change EV _ _ _ _ _ 0 [(0, .ref (zad g 24)), (1, .int x1), (2, .int x2)] [] _
  refine e_aload_n dX7_bearsMore_0 rfl 0 rfl ?_
  refine e_iload_n dX7_bearsMore_1 rfl 1 rfl ?_
  refine e_iconst (v := 3) dX7_bearsMore_2 (by decide) ?_
  refine e_iload_n dX7_bearsMore_3 rfl 2 rfl ?_
  refine e_iadd dX7_bearsMore_4 ?_
  refine e_callVi (j1 := 0) (j2 := 0) (av := [.int x1, .int (3 + x2)]) rfl rfl (Nat.le_of_ble_eq_true rfl) rfl rfl H i_X7_of rfl n_X7_of v_X7_of q_X7_164 (by decide) (by decide) (Nat.le_of_ble_eq_true rfl) dX7_bearsMore_5 (fun v1 τ1 H => ?_) (fun E τ H => H)
  refine e_aload_n dX7_bearsMore_8 rfl 0 rfl ?_
  refine fg_X7_20 rfl dX7_bearsMore_9 ?_
  refine e_iconst (v := 2) dX7_bearsMore_12 (by decide) ?_
  refine e_iald (n := 1110) rfl (Nat.le_of_ble_eq_true rfl) (vil (by decide)) dX7_bearsMore_13 ?_
  refine e_icmp_ge (tgt := 21) dX7_bearsMore_14 (by decide) (fun h2 => ?_) (fun h2 => ?_)
  · replace H := H.1 h2
    refine e_iconst (v := 0) dX7_bearsMore_21 (by decide) ?_
    exact e_zret rfl rfl dX7_bearsMore_22 H
  · replace H := H.2 h2
    refine e_iconst (v := 1) dX7_bearsMore_17 (by decide) ?_
    refine e_goto (tgt := 22) dX7_bearsMore_18 (by decide) ?_
    exact e_zret rfl rfl dX7_bearsMore_22 H
abbrev L_X7_paintable_15 (g : zG) (l : Launch) (K : Int32 → zS → Prop) (X : String → zS → Prop) (y2 : Int32) (y3 : Int32) (y4 : Int32) (σ : zS) : Prop :=
  EV g l M_X7_paintable 0 (zQi K X) 15 [(0, .ref (zad g 24)), (2, .int y2), (3, .int y3), (4, .int y4)] [] σ
set_option maxRecDepth 20000 in
set_option maxHeartbeats 2000000 in
theorem b_X7_paintable {g : zG} {l : Launch} {K : Int32 → zS → Prop} {X : String → zS → Prop} {x1 : Int32} {σ : zS}
    (H : (∀ σ1 : zS, σ1 = zup σ 24 0 0 → CT g l M_X7_truth 0 [.int x1] σ1 (zQi (fun v2 τ2 => L_X7_paintable_15 g l K X 0 v2 0 τ2) (fun E τ => X E τ)))) :
    CT g l M_X7_paintable 0 [.ref (zad g 24), .int x1] σ (zQi K X) := by
  refine CT_of rfl (by decide) (Nat.le_of_ble_eq_true rfl) ?_
  change EV _ _ _ _ _ 0 [(0, .ref (zad g 24)), (1, .int x1)] [] _
  refine e_aload_n dX7_paintable_0 rfl 0 rfl ?_
  refine e_iconst (v := 0) dX7_paintable_1 (by decide) ?_
  refine fp_X7_68 rfl dX7_paintable_2 ?_
  replace H := H _ rfl
  generalize zup σ 24 0 0 = σ1 at H ⊢
  refine e_iconst (v := 0) dX7_paintable_5 (by decide) ?_
  refine e_istore_n (ls' := [(2, .int 0), (0, .ref (zad g 24)), (1, .int x1)]) dX7_paintable_6 rfl (by decide) rfl ?_
  refine e_iload_n dX7_paintable_7 rfl 2 rfl ?_
  refine e_callSi (j1 := 0) (j2 := 0) (av := [.int x1]) rfl H i_X7_truth rfl s_X7_truth q_X7_71 (by decide) (by decide) (Nat.le_of_ble_eq_true rfl) dX7_paintable_8 (fun v2 τ2 H => ?_) (fun E τ H => H)
  refine e_istore_n (ls' := [(3, .int v2), (2, .int 0), (0, .ref (zad g 24)), (1, .int x1)]) dX7_paintable_11 rfl (by decide) rfl ?_
  refine e_iconst (v := 0) dX7_paintable_12 (by decide) ?_
  refine e_istore (ls' := [(4, .int 0), (3, .int v2), (2, .int 0), (0, .ref (zad g 24)), (1, .int x1)]) dX7_paintable_13 (by decide) rfl ?_
  refine e_ls [3, 2, 1, 0] rfl ?_
  exact H
set_option maxRecDepth 20000 in
set_option maxHeartbeats 2000000 in
theorem b_X7_paintable_15 {g : zG} {l : Launch} {K : Int32 → zS → Prop} {X : String → zS → Prop} {y2 : Int32} {y3 : Int32} {y4 : Int32} {σ : zS}
    (H : (((σ.1 26 (Int32.toNatClampNeg 1)) ≤ y4 → K y2 σ) ∧ (¬ (σ.1 26 (Int32.toNatClampNeg 1)) ≤ y4 → CT g l M_X7_bearsMore 0 [.ref (zad g 24), .int y4, .int y3] σ (zQi (fun v2 τ2 => ((v2 = 0 → L_X7_paintable_15 g l K X (y2 ||| 0) y3 (y4 + 1) τ2) ∧ (¬ v2 = 0 → CT g l M_X7_unlike 0 [.ref (zad g 24), .int y4, .int y3] τ2 (zQi (fun v4 τ4 => ((v4 ≤ 0 → L_X7_paintable_15 g l K X (y2 ||| 0) y3 (y4 + 1) τ4) ∧ (¬ v4 ≤ 0 → L_X7_paintable_15 g l K X (y2 ||| (1 <<< (y4 &&& 31))) y3 (y4 + 1) τ4))) (fun E τ => X E τ))))) (fun E τ => X E τ))))) :
    L_X7_paintable_15 g l K X y2 y3 y4 σ := by
  refine e_iload dX7_paintable_15 3 rfl ?_
  refine e_aload_n dX7_paintable_17 rfl 0 rfl ?_
  refine fg_X7_20 rfl dX7_paintable_18 ?_
  refine e_iconst (v := 1) dX7_paintable_21 (by decide) ?_
  refine e_iald (n := 1110) rfl (Nat.le_of_ble_eq_true rfl) (vil (by decide)) dX7_paintable_22 ?_
  refine e_icmp_ge (tgt := 63) dX7_paintable_23 (by decide) (fun h1 => ?_) (fun h1 => ?_)
  · replace H := H.1 h1
    refine e_iload_n dX7_paintable_63 rfl 1 rfl ?_
    exact e_iret rfl dX7_paintable_64 H
  · replace H := H.2 h1
    refine e_iload_n dX7_paintable_26 rfl 1 rfl ?_
    refine e_aload_n dX7_paintable_27 rfl 0 rfl ?_
    refine e_iload dX7_paintable_28 3 rfl ?_
    refine e_iload_n dX7_paintable_30 rfl 2 rfl ?_
    refine e_callVi (j1 := 0) (j2 := 0) (av := [.int y4, .int y3]) rfl rfl (Nat.le_of_ble_eq_true rfl) rfl rfl H i_X7_bearsMore rfl n_X7_bearsMore v_X7_bearsMore q_X7_354 (by decide) (by decide) (Nat.le_of_ble_eq_true rfl) dX7_paintable_31 (fun v2 τ2 H => ?_) (fun E τ H => H)
    refine e_if_eq (tgt := 54) dX7_paintable_34 (by decide) (fun h3 => ?_) (fun h3 => ?_)
    · replace H := H.1 h3
      refine e_iconst (v := 0) dX7_paintable_54 (by decide) ?_
      refine e_ior dX7_paintable_55 ?_
      refine e_istore_n (ls' := [(2, .int (y2 ||| 0)), (0, .ref (zad g 24)), (3, .int y3), (4, .int y4)]) dX7_paintable_56 rfl (by decide) rfl ?_
      refine e_iinc (j := 3) (v := (y4 + 1)) (ls' := [(4, .int (y4 + 1)), (2, .int (y2 ||| 0)), (0, .ref (zad g 24)), (3, .int y3)]) dX7_paintable_57 rfl rfl (by decide) rfl ?_
      refine e_goto (tgt := 15) dX7_paintable_60 (by decide) ?_
      refine e_ls [2, 1, 3, 0] rfl ?_
      exact H
    · replace H := H.2 h3
      refine e_aload_n dX7_paintable_37 rfl 0 rfl ?_
      refine e_iload dX7_paintable_38 3 rfl ?_
      refine e_iload_n dX7_paintable_40 rfl 2 rfl ?_
      refine e_callVi (j1 := 0) (j2 := 0) (av := [.int y4, .int y3]) rfl rfl (Nat.le_of_ble_eq_true rfl) rfl rfl H i_X7_unlike rfl n_X7_unlike v_X7_unlike q_X7_317 (by decide) (by decide) (Nat.le_of_ble_eq_true rfl) dX7_paintable_41 (fun v4 τ4 H => ?_) (fun E τ H => H)
      refine e_if_le (tgt := 54) dX7_paintable_44 (by decide) (fun h5 => ?_) (fun h5 => ?_)
      · replace H := H.1 h5
        refine e_iconst (v := 0) dX7_paintable_54 (by decide) ?_
        refine e_ior dX7_paintable_55 ?_
        refine e_istore_n (ls' := [(2, .int (y2 ||| 0)), (0, .ref (zad g 24)), (3, .int y3), (4, .int y4)]) dX7_paintable_56 rfl (by decide) rfl ?_
        refine e_iinc (j := 3) (v := (y4 + 1)) (ls' := [(4, .int (y4 + 1)), (2, .int (y2 ||| 0)), (0, .ref (zad g 24)), (3, .int y3)]) dX7_paintable_57 rfl rfl (by decide) rfl ?_
        refine e_goto (tgt := 15) dX7_paintable_60 (by decide) ?_
        refine e_ls [2, 1, 3, 0] rfl ?_
        exact H
      · replace H := H.2 h5
        refine e_iconst (v := 1) dX7_paintable_47 (by decide) ?_
        refine e_iload dX7_paintable_48 3 rfl ?_
        refine e_ishl dX7_paintable_50 ?_
        refine e_goto (tgt := 55) dX7_paintable_51 (by decide) ?_
        refine e_ior dX7_paintable_55 ?_
        refine e_istore_n (ls' := [(2, .int (y2 ||| (1 <<< (y4 &&& 31)))), (0, .ref (zad g 24)), (3, .int y3), (4, .int y4)]) dX7_paintable_56 rfl (by decide) rfl ?_
        refine e_iinc (j := 3) (v := (y4 + 1)) (ls' := [(4, .int (y4 + 1)), (2, .int (y2 ||| (1 <<< (y4 &&& 31)))), (0, .ref (zad g 24)), (3, .int y3)]) dX7_paintable_57 rfl rfl (by decide) rfl ?_
        refine e_goto (tgt := 15) dX7_paintable_60 (by decide) ?_
        refine e_ls [2, 1, 3, 0] rfl ?_
        exact H
abbrev L_X7_span_13 (g : zG) (l : Launch) (K : Int32 → zS → Prop) (X : String → zS → Prop) (y1 : Int32) (y2 : Int32) (y3 : Int32) (y4 : Int32) (σ : zS) : Prop :=
  EV g l M_X7_span 0 (zQi K X) 13 [(0, .ref (zad g 24)), (1, .int y1), (2, .int y2), (3, .int y3), (4, .int y4)] [] σ
set_option maxRecDepth 20000 in
set_option maxHeartbeats 2000000 in
theorem b_X7_span {g : zG} {l : Launch} {K : Int32 → zS → Prop} {X : String → zS → Prop} {x1 : Int32} {σ : zS}
    (H : (∀ σ1 : zS, σ1 = zup σ 24 0 0 → L_X7_span_13 g l K X x1 0 0 (-6) σ1)) :
    CT g l M_X7_span 0 [.ref (zad g 24), .int x1] σ (zQi K X) := by
  refine CT_of rfl (by decide) (Nat.le_of_ble_eq_true rfl) ?_
  change EV _ _ _ _ _ 0 [(0, .ref (zad g 24)), (1, .int x1)] [] _
  refine e_aload_n dX7_span_0 rfl 0 rfl ?_
  refine e_iconst (v := 0) dX7_span_1 (by decide) ?_
  refine fp_X7_68 rfl dX7_span_2 ?_
  replace H := H _ rfl
  generalize zup σ 24 0 0 = σ1 at H ⊢
  refine e_iconst (v := 0) dX7_span_5 (by decide) ?_
  refine e_istore_n (ls' := [(2, .int 0), (0, .ref (zad g 24)), (1, .int x1)]) dX7_span_6 rfl (by decide) rfl ?_
  refine e_iconst (v := 0) dX7_span_7 (by decide) ?_
  refine e_istore_n (ls' := [(3, .int 0), (2, .int 0), (0, .ref (zad g 24)), (1, .int x1)]) dX7_span_8 rfl (by decide) rfl ?_
  refine e_bipush (v := (-6)) dX7_span_9 (by decide) ?_
  refine e_istore (ls' := [(4, .int (-6)), (3, .int 0), (2, .int 0), (0, .ref (zad g 24)), (1, .int x1)]) dX7_span_11 (by decide) rfl ?_
  refine e_ls [3, 4, 2, 1, 0] rfl ?_
  exact H
set_option maxRecDepth 20000 in
set_option maxHeartbeats 2000000 in
theorem b_X7_span_13 {g : zG} {l : Launch} {K : Int32 → zS → Prop} {X : String → zS → Prop} {y1 : Int32} {y2 : Int32} {y3 : Int32} {y4 : Int32} {σ : zS}
    (H : ((6 < y4 → K y2 σ) ∧ (¬ 6 < y4 → CT g l M_X7_truth 0 [.int y1] σ (zQi (fun v2 τ2 => CT g l M_X7_isWhole 0 [.ref (zad g 24), .int y4, .int v2] τ2 (zQi (fun v3 τ3 => ((v3 = 0 → CT g l M_X7_greater 0 [.int y2, .int 0] τ3 (zQi (fun v5 τ5 => L_X7_span_13 g l K X y1 v5 0 (y4 + 1) τ5) (fun E τ => X E τ))) ∧ (¬ v3 = 0 → CT g l M_X7_greater 0 [.int y2, .int (y3 + 1)] τ3 (zQi (fun v6 τ6 => L_X7_span_13 g l K X y1 v6 (y3 + 1) (y4 + 1) τ6) (fun E τ => X E τ))))) (fun E τ => X E τ))) (fun E τ => X E τ))))) :
    L_X7_span_13 g l K X y1 y2 y3 y4 σ := by
  refine e_iload dX7_span_13 4 rfl ?_
  refine e_bipush (v := 6) dX7_span_15 (by decide) ?_
  refine e_icmp_gt (tgt := 53) dX7_span_17 (by decide) (fun h1 => ?_) (fun h1 => ?_)
  · replace H := H.1 h1
    refine e_iload_n dX7_span_53 rfl 2 rfl ?_
    exact e_iret rfl dX7_span_54 H
  · replace H := H.2 h1
    refine e_aload_n dX7_span_20 rfl 0 rfl ?_
    refine e_iload dX7_span_21 4 rfl ?_
    refine e_iload_n dX7_span_23 rfl 1 rfl ?_
    refine e_callSi (j1 := 0) (j2 := 0) (av := [.int y1]) rfl H i_X7_truth rfl s_X7_truth q_X7_71 (by decide) (by decide) (Nat.le_of_ble_eq_true rfl) dX7_span_24 (fun v2 τ2 H => ?_) (fun E τ H => H)
    refine e_callVi (j1 := 0) (j2 := 0) (av := [.int y4, .int v2]) rfl rfl (Nat.le_of_ble_eq_true rfl) rfl rfl H i_X7_isWhole rfl n_X7_isWhole v_X7_isWhole q_X7_344 (by decide) (by decide) (Nat.le_of_ble_eq_true rfl) dX7_span_27 (fun v3 τ3 H => ?_) (fun E τ H => H)
    refine e_if_eq (tgt := 39) dX7_span_30 (by decide) (fun h4 => ?_) (fun h4 => ?_)
    · replace H := H.1 h4
      refine e_iconst (v := 0) dX7_span_39 (by decide) ?_
      refine e_istore_n (ls' := [(3, .int 0), (0, .ref (zad g 24)), (1, .int y1), (2, .int y2), (4, .int y4)]) dX7_span_40 rfl (by decide) rfl ?_
      refine e_iload_n dX7_span_41 rfl 3 rfl ?_
      refine e_iload_n dX7_span_42 rfl 0 rfl ?_
      refine e_callSi (j1 := 0) (j2 := 0) (av := [.int y2, .int 0]) rfl H i_X7_greater rfl s_X7_greater q_X7_255 (by decide) (by decide) (Nat.le_of_ble_eq_true rfl) dX7_span_43 (fun v5 τ5 H => ?_) (fun E τ H => H)
      refine e_istore_n (ls' := [(2, .int v5), (3, .int 0), (0, .ref (zad g 24)), (1, .int y1), (4, .int y4)]) dX7_span_46 rfl (by decide) rfl ?_
      refine e_iinc (j := 4) (v := (y4 + 1)) (ls' := [(4, .int (y4 + 1)), (2, .int v5), (3, .int 0), (0, .ref (zad g 24)), (1, .int y1)]) dX7_span_47 rfl rfl (by decide) rfl ?_
      refine e_goto (tgt := 13) dX7_span_50 (by decide) ?_
      refine e_ls [3, 4, 1, 2, 0] rfl ?_
      exact H
    · replace H := H.2 h4
      refine e_iload_n dX7_span_33 rfl 3 rfl ?_
      refine e_iconst (v := 1) dX7_span_34 (by decide) ?_
      refine e_iadd dX7_span_35 ?_
      refine e_goto (tgt := 40) dX7_span_36 (by decide) ?_
      refine e_istore_n (ls' := [(3, .int (y3 + 1)), (0, .ref (zad g 24)), (1, .int y1), (2, .int y2), (4, .int y4)]) dX7_span_40 rfl (by decide) rfl ?_
      refine e_iload_n dX7_span_41 rfl 3 rfl ?_
      refine e_iload_n dX7_span_42 rfl 0 rfl ?_
      refine e_callSi (j1 := 0) (j2 := 0) (av := [.int y2, .int (y3 + 1)]) rfl H i_X7_greater rfl s_X7_greater q_X7_255 (by decide) (by decide) (Nat.le_of_ble_eq_true rfl) dX7_span_43 (fun v6 τ6 H => ?_) (fun E τ H => H)
      refine e_istore_n (ls' := [(2, .int v6), (3, .int (y3 + 1)), (0, .ref (zad g 24)), (1, .int y1), (4, .int y4)]) dX7_span_46 rfl (by decide) rfl ?_
      refine e_iinc (j := 4) (v := (y4 + 1)) (ls' := [(4, .int (y4 + 1)), (2, .int v6), (3, .int (y3 + 1)), (0, .ref (zad g 24)), (1, .int y1)]) dX7_span_47 rfl rfl (by decide) rfl ?_
      refine e_goto (tgt := 13) dX7_span_50 (by decide) ?_
      refine e_ls [3, 4, 1, 2, 0] rfl ?_
      exact H
set_option maxRecDepth 20000 in
set_option maxHeartbeats 2000000 in
theorem b_X7_light {g : zG} {l : Launch} {K : UInt32 → zS → Prop} {X : String → zS → Prop} {x1 : Int32} {σ : zS}
    (H : CT g l M_X7_isAngle 0 [.int x1] σ (zQi (fun v1 τ1 => CT g l M_X7_goes 0 [.ref (zad g 24), .int v1] τ1 (zQi (fun v2 τ2 => ((v2 = 0 → K FP.fconst0 τ2) ∧ (¬ v2 = 0 → ((¬ (τ2.1 26 (Int32.toNatClampNeg 1)) = 0 → CT g l M_X7_openMany 0 [.ref (zad g 24), .int x1] τ2 (zQi (fun v5 τ5 => CT g l M_X7_cells 0 [.ref (zad g 24)] τ5 (zQi (fun v6 τ6 => (vf_n32 (FP.fdiv (FP.i2f v5) (FP.i2f v6)) ∧ K (FP.fdiv (FP.i2f v5) (FP.i2f v6)) τ6)) (fun E τ => X E τ))) (fun E τ => X E τ))) ∧ ((τ2.1 26 (Int32.toNatClampNeg 1)) = 0 → K FP.fconst0 τ2))))) (fun E τ => X E τ))) (fun E τ => X E τ))) :
    CT g l M_X7_light 0 [.ref (zad g 24), .int x1] σ (zQf K X) := by
  refine CT_of rfl (by decide) (Nat.le_of_ble_eq_true rfl) ?_
  change EV _ _ _ _ _ 0 [(0, .ref (zad g 24)), (1, .int x1)] [] _
  refine e_aload_n dX7_light_0 rfl 0 rfl ?_
  refine e_iload_n dX7_light_1 rfl 1 rfl ?_
  refine e_callSi (j1 := 0) (j2 := 0) (av := [.int x1]) rfl H i_X7_isAngle rfl s_X7_isAngle q_X7_326 (by decide) (by decide) (Nat.le_of_ble_eq_true rfl) dX7_light_2 (fun v1 τ1 H => ?_) (fun E τ H => H)
  refine e_callVi (j1 := 0) (j2 := 0) (av := [.int v1]) rfl rfl (Nat.le_of_ble_eq_true rfl) rfl rfl H i_X7_goes rfl n_X7_goes v_X7_goes q_X7_78 (by decide) (by decide) (Nat.le_of_ble_eq_true rfl) dX7_light_5 (fun v2 τ2 H => ?_) (fun E τ H => H)
  refine e_if_eq (tgt := 20) dX7_light_8 (by decide) (fun h3 => ?_) (fun h3 => ?_)
  · replace H := H.1 h3
    refine e_fconst0 dX7_light_20 ?_
    exact e_fret rfl dX7_light_21 H
  · replace H := H.2 h3
    refine e_aload_n dX7_light_11 rfl 0 rfl ?_
    refine fg_X7_20 rfl dX7_light_12 ?_
    refine e_iconst (v := 1) dX7_light_15 (by decide) ?_
    refine e_iald (n := 1110) rfl (Nat.le_of_ble_eq_true rfl) (vil (by decide)) dX7_light_16 ?_
    refine e_if_ne (tgt := 22) dX7_light_17 (by decide) (fun h4 => ?_) (fun h4 => ?_)
    · replace H := H.1 h4
      refine e_aload_n dX7_light_22 rfl 0 rfl ?_
      refine e_iload_n dX7_light_23 rfl 1 rfl ?_
      refine e_callVi (j1 := 0) (j2 := 0) (av := [.int x1]) rfl rfl (Nat.le_of_ble_eq_true rfl) rfl rfl H i_X7_openMany rfl n_X7_openMany v_X7_openMany q_X7_341 (by decide) (by decide) (Nat.le_of_ble_eq_true rfl) dX7_light_24 (fun v5 τ5 H => ?_) (fun E τ H => H)
      refine e_i2f dX7_light_27 ?_
      refine e_aload_n dX7_light_28 rfl 0 rfl ?_
      refine e_callVi (j1 := 0) (j2 := 0) (av := []) rfl rfl (Nat.le_of_ble_eq_true rfl) rfl rfl H i_X7_cells rfl n_X7_cells v_X7_cells q_X7_357 (by decide) (by decide) (Nat.le_of_ble_eq_true rfl) dX7_light_29 (fun v6 τ6 H => ?_) (fun E τ H => H)
      refine e_i2f dX7_light_32 ?_
      refine e_fdiv dX7_light_33 H.1 ?_
      replace H := H.2
      exact e_fret rfl dX7_light_34 H
    · replace H := H.2 h4
      refine e_fconst0 dX7_light_20 ?_
      exact e_fret rfl dX7_light_21 H
abbrev L_X7_meanRight_10 (g : zG) (l : Launch) (K : UInt64 → zS → Prop) (X : String → zS → Prop) (y1 : Int32) (y2 : Int32) (y3 : Int32) (σ : zS) : Prop :=
  EV g l M_X7_meanRight 0 (zQd K X) 10 [(0, .ref (zad g 24)), (1, .int y1), (2, .int y2), (3, .int y3)] [] σ
set_option maxRecDepth 20000 in
set_option maxHeartbeats 2000000 in
theorem b_X7_meanRight {g : zG} {l : Launch} {K : UInt64 → zS → Prop} {X : String → zS → Prop} {x1 : Int32} {σ : zS}
    (H : (∀ σ1 : zS, σ1 = zup σ 24 0 0 → L_X7_meanRight_10 g l K X x1 0 (-6) σ1)) :
    CT g l M_X7_meanRight 0 [.ref (zad g 24), .int x1] σ (zQd K X) := by
  refine CT_of rfl (by decide) (Nat.le_of_ble_eq_true rfl) ?_
  change EV _ _ _ _ _ 0 [(0, .ref (zad g 24)), (1, .int x1)] [] _
  refine e_aload_n dX7_meanRight_0 rfl 0 rfl ?_
  refine e_iconst (v := 0) dX7_meanRight_1 (by decide) ?_
  refine fp_X7_68 rfl dX7_meanRight_2 ?_
  replace H := H _ rfl
  generalize zup σ 24 0 0 = σ1 at H ⊢
  refine e_iconst (v := 0) dX7_meanRight_5 (by decide) ?_
  refine e_istore_n (ls' := [(2, .int 0), (0, .ref (zad g 24)), (1, .int x1)]) dX7_meanRight_6 rfl (by decide) rfl ?_
  refine e_bipush (v := (-6)) dX7_meanRight_7 (by decide) ?_
  refine e_istore_n (ls' := [(3, .int (-6)), (2, .int 0), (0, .ref (zad g 24)), (1, .int x1)]) dX7_meanRight_9 rfl (by decide) rfl ?_
  refine e_ls [2, 3, 1, 0] rfl ?_
  exact H
set_option maxRecDepth 20000 in
set_option maxHeartbeats 2000000 in
theorem b_X7_meanRight_10 {g : zG} {l : Launch} {K : UInt64 → zS → Prop} {X : String → zS → Prop} {y1 : Int32} {y2 : Int32} {y3 : Int32} {σ : zS}
    (H : ((6 < y3 → (vf_n64 (FP.ddiv (FP.i2d y2) (4623507967449235456 : UInt64)) ∧ K (FP.ddiv (FP.i2d y2) (4623507967449235456 : UInt64)) σ)) ∧ (¬ 6 < y3 → CT g l M_X7_truth 0 [.int y1] σ (zQi (fun v2 τ2 => CT g l M_X7_rightMany 0 [.ref (zad g 24), .int y3, .int v2] τ2 (zQi (fun v3 τ3 => L_X7_meanRight_10 g l K X y1 (y2 + v3) (y3 + 1) τ3) (fun E τ => X E τ))) (fun E τ => X E τ))))) :
    L_X7_meanRight_10 g l K X y1 y2 y3 σ := by
  refine e_iload_n dX7_meanRight_10 rfl 3 rfl ?_
  refine e_bipush (v := 6) dX7_meanRight_11 (by decide) ?_
  refine e_icmp_gt (tgt := 34) dX7_meanRight_13 (by decide) (fun h1 => ?_) (fun h1 => ?_)
  · replace H := H.1 h1
    refine e_iload_n dX7_meanRight_34 rfl 2 rfl ?_
    refine e_i2d dX7_meanRight_35 ?_
    refine e_ldc2d k_X7_360 dX7_meanRight_36 ?_
    refine e_ddiv dX7_meanRight_39 H.1 ?_
    replace H := H.2
    exact e_dret rfl dX7_meanRight_40 H
  · replace H := H.2 h1
    refine e_iload_n dX7_meanRight_16 rfl 2 rfl ?_
    refine e_aload_n dX7_meanRight_17 rfl 0 rfl ?_
    refine e_iload_n dX7_meanRight_18 rfl 3 rfl ?_
    refine e_iload_n dX7_meanRight_19 rfl 1 rfl ?_
    refine e_callSi (j1 := 0) (j2 := 0) (av := [.int y1]) rfl H i_X7_truth rfl s_X7_truth q_X7_71 (by decide) (by decide) (Nat.le_of_ble_eq_true rfl) dX7_meanRight_20 (fun v2 τ2 H => ?_) (fun E τ H => H)
    refine e_callVi (j1 := 0) (j2 := 0) (av := [.int y3, .int v2]) rfl rfl (Nat.le_of_ble_eq_true rfl) rfl rfl H i_X7_rightMany rfl n_X7_rightMany v_X7_rightMany q_X7_335 (by decide) (by decide) (Nat.le_of_ble_eq_true rfl) dX7_meanRight_23 (fun v3 τ3 H => ?_) (fun E τ H => H)
    refine e_iadd dX7_meanRight_26 ?_
    refine e_istore_n (ls' := [(2, .int (y2 + v3)), (0, .ref (zad g 24)), (1, .int y1), (3, .int y3)]) dX7_meanRight_27 rfl (by decide) rfl ?_
    refine e_iinc (j := 3) (v := (y3 + 1)) (ls' := [(3, .int (y3 + 1)), (2, .int (y2 + v3)), (0, .ref (zad g 24)), (1, .int y1)]) dX7_meanRight_28 rfl rfl (by decide) rfl ?_
    refine e_goto (tgt := 10) dX7_meanRight_31 (by decide) ?_
    refine e_ls [2, 3, 1, 0] rfl ?_
    exact H
abbrev L_X7_lightest_13 (g : zG) (l : Launch) (K : Int32 → zS → Prop) (X : String → zS → Prop) (y1 : Int32) (y2 : Int32) (y3 : Int32) (σ : zS) : Prop :=
  EV g l M_X7_lightest 0 (zQi K X) 13 [(0, .ref (zad g 24)), (1, .int y1), (2, .int y2), (3, .int y3)] [] σ
set_option maxRecDepth 20000 in
set_option maxHeartbeats 2000000 in
theorem b_X7_lightest {g : zG} {l : Launch} {K : Int32 → zS → Prop} {X : String → zS → Prop} {σ : zS}
    (H : (∀ σ1 : zS, σ1 = zup σ 24 0 0 → L_X7_lightest_13 g l K X (-99) (-1) (-6) σ1)) :
    CT g l M_X7_lightest 0 [.ref (zad g 24)] σ (zQi K X) := by
  refine CT_of rfl (by decide) (Nat.le_of_ble_eq_true rfl) ?_
  change EV _ _ _ _ _ 0 [(0, .ref (zad g 24))] [] _
  refine e_aload_n dX7_lightest_0 rfl 0 rfl ?_
  refine e_iconst (v := 0) dX7_lightest_1 (by decide) ?_
  refine fp_X7_68 rfl dX7_lightest_2 ?_
  replace H := H _ rfl
  generalize zup σ 24 0 0 = σ1 at H ⊢
  refine e_bipush (v := (-99)) dX7_lightest_5 (by decide) ?_
  refine e_istore_n (ls' := [(1, .int (-99)), (0, .ref (zad g 24))]) dX7_lightest_7 rfl (by decide) rfl ?_
  refine e_iconst (v := (-1)) dX7_lightest_8 (by decide) ?_
  refine e_istore_n (ls' := [(2, .int (-1)), (1, .int (-99)), (0, .ref (zad g 24))]) dX7_lightest_9 rfl (by decide) rfl ?_
  refine e_bipush (v := (-6)) dX7_lightest_10 (by decide) ?_
  refine e_istore_n (ls' := [(3, .int (-6)), (2, .int (-1)), (1, .int (-99)), (0, .ref (zad g 24))]) dX7_lightest_12 rfl (by decide) rfl ?_
  refine e_ls [3, 2, 1, 0] rfl ?_
  exact H
set_option maxRecDepth 20000 in
set_option maxHeartbeats 2000000 in
theorem b_X7_lightest_13 {g : zG} {l : Launch} {K : Int32 → zS → Prop} {X : String → zS → Prop} {y1 : Int32} {y2 : Int32} {y3 : Int32} {σ : zS}
    (H : ((6 < y3 → K y1 σ) ∧ (¬ 6 < y3 → (((σ.1 26 (Int32.toNatClampNeg 1)) ≤ 0 → K y1 σ) ∧ (¬ (σ.1 26 (Int32.toNatClampNeg 1)) ≤ 0 → CT g l M_X7_openMany 0 [.ref (zad g 24), .int y3] σ (zQi (fun v3 τ3 => ((y2 < v3 → L_X7_lightest_13 g l K X y3 v3 (y3 + 1) τ3) ∧ (¬ y2 < v3 → L_X7_lightest_13 g l K X y1 y2 (y3 + 1) τ3))) (fun E τ => X E τ))))))) :
    L_X7_lightest_13 g l K X y1 y2 y3 σ := by
  refine e_iload_n dX7_lightest_13 rfl 3 rfl ?_
  refine e_bipush (v := 6) dX7_lightest_14 (by decide) ?_
  refine e_icmp_gt (tgt := 55) dX7_lightest_16 (by decide) (fun h1 => ?_) (fun h1 => ?_)
  · replace H := H.1 h1
    refine e_iload_n dX7_lightest_55 rfl 1 rfl ?_
    exact e_iret rfl dX7_lightest_56 H
  · replace H := H.2 h1
    refine e_aload_n dX7_lightest_19 rfl 0 rfl ?_
    refine fg_X7_20 rfl dX7_lightest_20 ?_
    refine e_iconst (v := 1) dX7_lightest_23 (by decide) ?_
    refine e_iald (n := 1110) rfl (Nat.le_of_ble_eq_true rfl) (vil (by decide)) dX7_lightest_24 ?_
    refine e_if_le (tgt := 55) dX7_lightest_25 (by decide) (fun h2 => ?_) (fun h2 => ?_)
    · replace H := H.1 h2
      refine e_iload_n dX7_lightest_55 rfl 1 rfl ?_
      exact e_iret rfl dX7_lightest_56 H
    · replace H := H.2 h2
      refine e_aload_n dX7_lightest_28 rfl 0 rfl ?_
      refine e_iload_n dX7_lightest_29 rfl 3 rfl ?_
      refine e_callVi (j1 := 0) (j2 := 0) (av := [.int y3]) rfl rfl (Nat.le_of_ble_eq_true rfl) rfl rfl H i_X7_openMany rfl n_X7_openMany v_X7_openMany q_X7_341 (by decide) (by decide) (Nat.le_of_ble_eq_true rfl) dX7_lightest_30 (fun v3 τ3 H => ?_) (fun E τ H => H)
      refine e_istore (ls' := [(4, .int v3), (0, .ref (zad g 24)), (1, .int y1), (2, .int y2), (3, .int y3)]) dX7_lightest_33 (by decide) rfl ?_
      refine e_iload dX7_lightest_35 0 rfl ?_
      refine e_iload_n dX7_lightest_37 rfl 3 rfl ?_
      refine e_icmp_gt (tgt := 44) dX7_lightest_38 (by decide) (fun h4 => ?_) (fun h4 => ?_)
      · replace H := H.1 h4
        refine e_iload dX7_lightest_44 0 rfl ?_
        refine e_istore_n (ls' := [(2, .int v3), (4, .int v3), (0, .ref (zad g 24)), (1, .int y1), (3, .int y3)]) dX7_lightest_46 rfl (by decide) rfl ?_
        refine e_iload_n dX7_lightest_47 rfl 4 rfl ?_
        refine e_istore_n (ls' := [(1, .int y3), (2, .int v3), (4, .int v3), (0, .ref (zad g 24)), (3, .int y3)]) dX7_lightest_48 rfl (by decide) rfl ?_
        refine e_iinc (j := 4) (v := (y3 + 1)) (ls' := [(3, .int (y3 + 1)), (1, .int y3), (2, .int v3), (4, .int v3), (0, .ref (zad g 24))]) dX7_lightest_49 rfl rfl (by decide) rfl ?_
        refine e_goto (tgt := 13) dX7_lightest_52 (by decide) ?_
        refine e_ls [4, 1, 2, 0] rfl ?_
        exact H
      · replace H := H.2 h4
        refine e_goto (tgt := 49) dX7_lightest_41 (by decide) ?_
        refine e_iinc (j := 4) (v := (y3 + 1)) (ls' := [(3, .int (y3 + 1)), (4, .int v3), (0, .ref (zad g 24)), (1, .int y1), (2, .int y2)]) dX7_lightest_49 rfl rfl (by decide) rfl ?_
        refine e_goto (tgt := 13) dX7_lightest_52 (by decide) ?_
        refine e_ls [2, 3, 4, 0] rfl ?_
        exact H
set_option maxRecDepth 20000 in
set_option maxHeartbeats 2000000 in
theorem b_X7_leaves {g : zG} {l : Launch} {K : zS → Prop} {X : String → zS → Prop} {σ : zS}
    (H : CT g l M_X7_copiesRow 0 [.ref (zad g 26), .int 0, .ref (zad g 29), .int 0] σ (zQv (fun τ1 => K τ1) (fun E τ => X E τ))) :
    CT g l M_X7_leaves 0 [.ref (zad g 24)] σ (zQv K X) := by
  refine CT_of rfl (by decide) (Nat.le_of_ble_eq_true rfl) ?_
  change EV _ _ _ _ _ 0 [(0, .ref (zad g 24))] [] _
  refine e_aload_n dX7_leaves_0 rfl 0 rfl ?_
  refine fg_X7_20 rfl dX7_leaves_1 ?_
  refine e_iconst (v := 0) dX7_leaves_4 (by decide) ?_
  refine e_aload_n dX7_leaves_5 rfl 0 rfl ?_
  refine fg_X7_29 rfl dX7_leaves_6 ?_
  refine e_iconst (v := 0) dX7_leaves_9 (by decide) ?_
  refine e_callSv (j1 := 0) (j2 := 0) (av := [.ref (zad g 26), .int 0, .ref (zad g 29), .int 0]) rfl H i_X7_copiesRow rfl s_X7_copiesRow q_X7_146 (by decide) (by decide) (Nat.le_of_ble_eq_true rfl) dX7_leaves_10 (fun τ1 H => ?_) (fun E τ H => H)
  exact e_vret rfl dX7_leaves_13 H
set_option maxRecDepth 20000 in
set_option maxHeartbeats 2000000 in
theorem b_X7_comesBack {g : zG} {l : Launch} {K : Int32 → zS → Prop} {X : String → zS → Prop} {x1 : Int32} {σ : zS}
    (H : CT g l M_X7_copiesRow 0 [.ref (zad g 29), .int 0, .ref (zad g 26), .int 0] σ (zQv (fun τ1 => K x1 τ1) (fun E τ => X E τ))) :
    CT g l M_X7_comesBack 0 [.ref (zad g 24), .int x1] σ (zQi K X) := by
  refine CT_of rfl (by decide) (Nat.le_of_ble_eq_true rfl) ?_
  change EV _ _ _ _ _ 0 [(0, .ref (zad g 24)), (1, .int x1)] [] _
  refine e_aload_n dX7_comesBack_0 rfl 0 rfl ?_
  refine fg_X7_29 rfl dX7_comesBack_1 ?_
  refine e_iconst (v := 0) dX7_comesBack_4 (by decide) ?_
  refine e_aload_n dX7_comesBack_5 rfl 0 rfl ?_
  refine fg_X7_20 rfl dX7_comesBack_6 ?_
  refine e_iconst (v := 0) dX7_comesBack_9 (by decide) ?_
  refine e_callSv (j1 := 0) (j2 := 0) (av := [.ref (zad g 29), .int 0, .ref (zad g 26), .int 0]) rfl H i_X7_copiesRow rfl s_X7_copiesRow q_X7_146 (by decide) (by decide) (Nat.le_of_ble_eq_true rfl) dX7_comesBack_10 (fun τ1 H => ?_) (fun E τ H => H)
  refine e_iload_n dX7_comesBack_13 rfl 1 rfl ?_
  exact e_iret rfl dX7_comesBack_14 H
set_option maxRecDepth 20000 in
set_option maxHeartbeats 2000000 in
theorem b_X7_rightBy {g : zG} {l : Launch} {K : Int32 → zS → Prop} {X : String → zS → Prop} {x1 : Int32} {x2 : Int32} {x3 : Int32} {x4 : Int32} {σ : zS}
    (H : CT g l M_X7_leaves 0 [.ref (zad g 24)] σ (zQv (fun τ1 => CT g l M_X7_sets 0 [.ref (zad g 24), .int x1, .int 1, .int x2] τ1 (zQv (fun τ2 => CT g l M_X7_rightMany 0 [.ref (zad g 24), .int x3, .int x4] τ2 (zQi (fun v3 τ3 => CT g l M_X7_comesBack 0 [.ref (zad g 24), .int v3] τ3 (zQi (fun v4 τ4 => K v4 τ4) (fun E τ => X E τ))) (fun E τ => X E τ))) (fun E τ => X E τ))) (fun E τ => X E τ))) :
    CT g l M_X7_rightBy 0 [.ref (zad g 24), .int x1, .int x2, .int x3, .int x4] σ (zQi K X) := by
  refine CT_of rfl (by decide) (Nat.le_of_ble_eq_true rfl) ?_
  change EV _ _ _ _ _ 0 [(0, .ref (zad g 24)), (1, .int x1), (2, .int x2), (3, .int x3), (4, .int x4)] [] _
  refine e_aload_n dX7_rightBy_0 rfl 0 rfl ?_
  refine e_callVv (j1 := 0) (j2 := 0) (av := []) rfl rfl (Nat.le_of_ble_eq_true rfl) rfl rfl H i_X7_leaves rfl n_X7_leaves v_X7_leaves q_X7_362 (by decide) (by decide) (Nat.le_of_ble_eq_true rfl) dX7_rightBy_1 (fun τ1 H => ?_) (fun E τ H => H)
  refine e_aload_n dX7_rightBy_4 rfl 0 rfl ?_
  refine e_iload_n dX7_rightBy_5 rfl 1 rfl ?_
  refine e_iconst (v := 1) dX7_rightBy_6 (by decide) ?_
  refine e_iload_n dX7_rightBy_7 rfl 2 rfl ?_
  refine e_callVv (j1 := 0) (j2 := 0) (av := [.int x1, .int 1, .int x2]) rfl rfl (Nat.le_of_ble_eq_true rfl) rfl rfl H i_X7_sets rfl n_X7_sets v_X7_sets q_X7_203 (by decide) (by decide) (Nat.le_of_ble_eq_true rfl) dX7_rightBy_8 (fun τ2 H => ?_) (fun E τ H => H)
  refine e_aload_n dX7_rightBy_11 rfl 0 rfl ?_
  refine e_aload_n dX7_rightBy_12 rfl 0 rfl ?_
  refine e_iload_n dX7_rightBy_13 rfl 3 rfl ?_
  refine e_iload dX7_rightBy_14 4 rfl ?_
  refine e_callVi (j1 := 0) (j2 := 0) (av := [.int x3, .int x4]) rfl rfl (Nat.le_of_ble_eq_true rfl) rfl rfl H i_X7_rightMany rfl n_X7_rightMany v_X7_rightMany q_X7_335 (by decide) (by decide) (Nat.le_of_ble_eq_true rfl) dX7_rightBy_16 (fun v3 τ3 H => ?_) (fun E τ H => H)
  refine e_callVi (j1 := 0) (j2 := 0) (av := [.int v3]) rfl rfl (Nat.le_of_ble_eq_true rfl) rfl rfl H i_X7_comesBack rfl n_X7_comesBack v_X7_comesBack q_X7_365 (by decide) (by decide) (Nat.le_of_ble_eq_true rfl) dX7_rightBy_19 (fun v4 τ4 H => ?_) (fun E τ H => H)
  exact e_iret rfl dX7_rightBy_22 H
abbrev L_X7_bestTurn_28 (g : zG) (l : Launch) (K : Int32 → zS → Prop) (X : String → zS → Prop) (y1 : Int32) (y2 : Int32) (y3 : Int32) (y4 : Int32) (y5 : Int32) (y6 : Int32) (σ : zS) : Prop :=
  EV g l M_X7_bestTurn 0 (zQi K X) 28 [(0, .ref (zad g 24)), (1, .int y1), (2, .int y2), (3, .int y3), (4, .int y4), (5, .int y5), (6, .int y6)] [] σ
set_option maxRecDepth 20000 in
set_option maxHeartbeats 2000000 in
theorem b_X7_bestTurn {g : zG} {l : Launch} {K : Int32 → zS → Prop} {X : String → zS → Prop} {x1 : Int32} {x2 : Int32} {x3 : Int32} {σ : zS}
    (H : CT g l M_X7_isSlat 0 [.ref (zad g 24), .int x1] σ (zQi (fun v1 τ1 => CT g l M_X7_isAngle 0 [.int x2] τ1 (zQi (fun v2 τ2 => CT g l M_X7_goesBoth 0 [.ref (zad g 24), .int v1, .int v2] τ2 (zQi (fun v3 τ3 => ((¬ v3 = 0 → L_X7_bestTurn_28 g l K X x1 x2 x3 0 (-1) (-4) τ3) ∧ (v3 = 0 → K 0 τ3))) (fun E τ => X E τ))) (fun E τ => X E τ))) (fun E τ => X E τ))) :
    CT g l M_X7_bestTurn 0 [.ref (zad g 24), .int x1, .int x2, .int x3] σ (zQi K X) := by
  refine CT_of rfl (by decide) (Nat.le_of_ble_eq_true rfl) ?_
  change EV _ _ _ _ _ 0 [(0, .ref (zad g 24)), (1, .int x1), (2, .int x2), (3, .int x3)] [] _
  refine e_aload_n dX7_bestTurn_0 rfl 0 rfl ?_
  refine e_aload_n dX7_bestTurn_1 rfl 0 rfl ?_
  refine e_iload_n dX7_bestTurn_2 rfl 1 rfl ?_
  refine e_callVi (j1 := 0) (j2 := 0) (av := [.int x1]) rfl rfl (Nat.le_of_ble_eq_true rfl) rfl rfl H i_X7_isSlat rfl n_X7_isSlat v_X7_isSlat q_X7_290 (by decide) (by decide) (Nat.le_of_ble_eq_true rfl) dX7_bestTurn_3 (fun v1 τ1 H => ?_) (fun E τ H => H)
  refine e_iload_n dX7_bestTurn_6 rfl 2 rfl ?_
  refine e_callSi (j1 := 0) (j2 := 0) (av := [.int x2]) rfl H i_X7_isAngle rfl s_X7_isAngle q_X7_326 (by decide) (by decide) (Nat.le_of_ble_eq_true rfl) dX7_bestTurn_7 (fun v2 τ2 H => ?_) (fun E τ H => H)
  refine e_callVi (j1 := 0) (j2 := 0) (av := [.int v1, .int v2]) rfl rfl (Nat.le_of_ble_eq_true rfl) rfl rfl H i_X7_goesBoth rfl n_X7_goesBoth v_X7_goesBoth q_X7_313 (by decide) (by decide) (Nat.le_of_ble_eq_true rfl) dX7_bestTurn_10 (fun v3 τ3 H => ?_) (fun E τ H => H)
  refine e_if_ne (tgt := 18) dX7_bestTurn_13 (by decide) (fun h4 => ?_) (fun h4 => ?_)
  · replace H := H.1 h4
    refine e_iconst (v := 0) dX7_bestTurn_18 (by decide) ?_
    refine e_istore (ls' := [(4, .int 0), (0, .ref (zad g 24)), (1, .int x1), (2, .int x2), (3, .int x3)]) dX7_bestTurn_19 (by decide) rfl ?_
    refine e_iconst (v := (-1)) dX7_bestTurn_21 (by decide) ?_
    refine e_istore (ls' := [(5, .int (-1)), (4, .int 0), (0, .ref (zad g 24)), (1, .int x1), (2, .int x2), (3, .int x3)]) dX7_bestTurn_22 (by decide) rfl ?_
    refine e_bipush (v := (-4)) dX7_bestTurn_24 (by decide) ?_
    refine e_istore (ls' := [(6, .int (-4)), (5, .int (-1)), (4, .int 0), (0, .ref (zad g 24)), (1, .int x1), (2, .int x2), (3, .int x3)]) dX7_bestTurn_26 (by decide) rfl ?_
    refine e_ls [3, 4, 5, 6, 2, 1, 0] rfl ?_
    exact H
  · replace H := H.2 h4
    refine e_iconst (v := 0) dX7_bestTurn_16 (by decide) ?_
    exact e_iret rfl dX7_bestTurn_17 H
set_option maxRecDepth 20000 in
set_option maxHeartbeats 2000000 in
theorem b_X7_bestTurn_28 {g : zG} {l : Launch} {K : Int32 → zS → Prop} {X : String → zS → Prop} {y1 : Int32} {y2 : Int32} {y3 : Int32} {y4 : Int32} {y5 : Int32} {y6 : Int32} {σ : zS}
    (H : ((4 < y6 → K y4 σ) ∧ (¬ 4 < y6 → CT g l M_X7_truth 0 [.int y3] σ (zQi (fun v2 τ2 => CT g l M_X7_rightBy 0 [.ref (zad g 24), .int y1, .int y6, .int y2, .int v2] τ2 (zQi (fun v3 τ3 => ((y5 < v3 → L_X7_bestTurn_28 g l K X y1 y2 y3 y6 v3 (y6 + 1) τ3) ∧ (¬ y5 < v3 → L_X7_bestTurn_28 g l K X y1 y2 y3 y4 y5 (y6 + 1) τ3))) (fun E τ => X E τ))) (fun E τ => X E τ))))) :
    L_X7_bestTurn_28 g l K X y1 y2 y3 y4 y5 y6 σ := by
  refine e_iload dX7_bestTurn_28 6 rfl ?_
  refine e_iconst (v := 4) dX7_bestTurn_30 (by decide) ?_
  refine e_icmp_gt (tgt := 72) dX7_bestTurn_31 (by decide) (fun h1 => ?_) (fun h1 => ?_)
  · replace H := H.1 h1
    refine e_iload dX7_bestTurn_72 4 rfl ?_
    exact e_iret rfl dX7_bestTurn_74 H
  · replace H := H.2 h1
    refine e_aload_n dX7_bestTurn_34 rfl 0 rfl ?_
    refine e_iload_n dX7_bestTurn_35 rfl 1 rfl ?_
    refine e_iload dX7_bestTurn_36 6 rfl ?_
    refine e_iload_n dX7_bestTurn_38 rfl 2 rfl ?_
    refine e_iload_n dX7_bestTurn_39 rfl 3 rfl ?_
    refine e_callSi (j1 := 0) (j2 := 0) (av := [.int y3]) rfl H i_X7_truth rfl s_X7_truth q_X7_71 (by decide) (by decide) (Nat.le_of_ble_eq_true rfl) dX7_bestTurn_40 (fun v2 τ2 H => ?_) (fun E τ H => H)
    refine e_callVi (j1 := 0) (j2 := 0) (av := [.int y1, .int y6, .int y2, .int v2]) rfl rfl (Nat.le_of_ble_eq_true rfl) rfl rfl H i_X7_rightBy rfl n_X7_rightBy v_X7_rightBy q_X7_368 (by decide) (by decide) (Nat.le_of_ble_eq_true rfl) dX7_bestTurn_43 (fun v3 τ3 H => ?_) (fun E τ H => H)
    refine e_istore (ls' := [(7, .int v3), (0, .ref (zad g 24)), (1, .int y1), (2, .int y2), (3, .int y3), (4, .int y4), (5, .int y5), (6, .int y6)]) dX7_bestTurn_46 (by decide) rfl ?_
    refine e_iload dX7_bestTurn_48 0 rfl ?_
    refine e_iload dX7_bestTurn_50 6 rfl ?_
    refine e_icmp_gt (tgt := 58) dX7_bestTurn_52 (by decide) (fun h4 => ?_) (fun h4 => ?_)
    · replace H := H.1 h4
      refine e_iload dX7_bestTurn_58 0 rfl ?_
      refine e_istore (ls' := [(5, .int v3), (7, .int v3), (0, .ref (zad g 24)), (1, .int y1), (2, .int y2), (3, .int y3), (4, .int y4), (6, .int y6)]) dX7_bestTurn_60 (by decide) rfl ?_
      refine e_iload dX7_bestTurn_62 7 rfl ?_
      refine e_istore (ls' := [(4, .int y6), (5, .int v3), (7, .int v3), (0, .ref (zad g 24)), (1, .int y1), (2, .int y2), (3, .int y3), (6, .int y6)]) dX7_bestTurn_64 (by decide) rfl ?_
      refine e_iinc (j := 7) (v := (y6 + 1)) (ls' := [(6, .int (y6 + 1)), (4, .int y6), (5, .int v3), (7, .int v3), (0, .ref (zad g 24)), (1, .int y1), (2, .int y2), (3, .int y3)]) dX7_bestTurn_66 rfl rfl (by decide) rfl ?_
      refine e_goto (tgt := 28) dX7_bestTurn_69 (by decide) ?_
      refine e_ls [4, 5, 6, 7, 1, 2, 0] rfl ?_
      exact H
    · replace H := H.2 h4
      refine e_goto (tgt := 66) dX7_bestTurn_55 (by decide) ?_
      refine e_iinc (j := 7) (v := (y6 + 1)) (ls' := [(6, .int (y6 + 1)), (7, .int v3), (0, .ref (zad g 24)), (1, .int y1), (2, .int y2), (3, .int y3), (4, .int y4), (5, .int y5)]) dX7_bestTurn_66 rfl rfl (by decide) rfl ?_
      refine e_goto (tgt := 28) dX7_bestTurn_69 (by decide) ?_
      refine e_ls [2, 3, 4, 5, 6, 7, 0] rfl ?_
      exact H
abbrev L_X7_pulls_4 (g : zG) (l : Launch) (K : Int32 → zS → Prop) (X : String → zS → Prop) (y1 : Int32) (y2 : Int32) (y3 : Int32) (σ : zS) : Prop :=
  EV g l M_X7_pulls 0 (zQi K X) 4 [(0, .ref (zad g 24)), (1, .int y1), (2, .int y2), (3, .int y3)] [] σ
set_option maxRecDepth 20000 in
set_option maxHeartbeats 2000000 in
theorem b_X7_pulls {g : zG} {l : Launch} {K : Int32 → zS → Prop} {X : String → zS → Prop} {x1 : Int32} {σ : zS}
    (H : L_X7_pulls_4 g l K X x1 0 0 σ) :
    CT g l M_X7_pulls 0 [.ref (zad g 24), .int x1] σ (zQi K X) := by
  refine CT_of rfl (by decide) (Nat.le_of_ble_eq_true rfl) ?_
  change EV _ _ _ _ _ 0 [(0, .ref (zad g 24)), (1, .int x1)] [] _
  refine e_iconst (v := 0) dX7_pulls_0 (by decide) ?_
  refine e_istore_n (ls' := [(2, .int 0), (0, .ref (zad g 24)), (1, .int x1)]) dX7_pulls_1 rfl (by decide) rfl ?_
  refine e_iconst (v := 0) dX7_pulls_2 (by decide) ?_
  refine e_istore_n (ls' := [(3, .int 0), (2, .int 0), (0, .ref (zad g 24)), (1, .int x1)]) dX7_pulls_3 rfl (by decide) rfl ?_
  refine e_ls [2, 3, 1, 0] rfl ?_
  exact H
set_option maxRecDepth 20000 in
set_option maxHeartbeats 2000000 in
theorem b_X7_pulls_4 {g : zG} {l : Launch} {K : Int32 → zS → Prop} {X : String → zS → Prop} {y1 : Int32} {y2 : Int32} {y3 : Int32} {σ : zS}
    (H : (((σ.1 26 (Int32.toNatClampNeg 1)) ≤ y3 → K y2 σ) ∧ (¬ (σ.1 26 (Int32.toNatClampNeg 1)) ≤ y3 → CT g l M_X7_of 0 [.ref (zad g 24), .int y3, .int 1] σ (zQi (fun v2 τ2 => CT g l M_X7_of 0 [.ref (zad g 24), .int y3, .int 2] τ2 (zQi (fun v3 τ3 => ((¬ v3 = 0 → CT g l M_X7_of 0 [.ref (zad g 24), .int y3, .int 1] τ3 (zQi (fun v5 τ5 => ((v5 = v2 → CT g l M_X7_truth 0 [.int 0] τ5 (zQi (fun v7 τ7 => L_X7_pulls_4 g l K X y1 (y2 + v7) (y3 + 1) τ7) (fun E τ => X E τ))) ∧ (¬ v5 = v2 → CT g l M_X7_truth 0 [.int 1] τ5 (zQi (fun v8 τ8 => L_X7_pulls_4 g l K X y1 (y2 + v8) (y3 + 1) τ8) (fun E τ => X E τ))))) (fun E τ => X E τ))) ∧ (v3 = 0 → CT g l M_X7_held 0 [.int (v2 + y1), .int 4] τ3 (zQi (fun v9 τ9 => CT g l M_X7_sets 0 [.ref (zad g 24), .int y3, .int 1, .int v9] τ9 (zQv (fun τ10 => CT g l M_X7_of 0 [.ref (zad g 24), .int y3, .int 1] τ10 (zQi (fun v11 τ11 => ((v11 = v2 → CT g l M_X7_truth 0 [.int 0] τ11 (zQi (fun v13 τ13 => L_X7_pulls_4 g l K X y1 (y2 + v13) (y3 + 1) τ13) (fun E τ => X E τ))) ∧ (¬ v11 = v2 → CT g l M_X7_truth 0 [.int 1] τ11 (zQi (fun v14 τ14 => L_X7_pulls_4 g l K X y1 (y2 + v14) (y3 + 1) τ14) (fun E τ => X E τ))))) (fun E τ => X E τ))) (fun E τ => X E τ))) (fun E τ => X E τ))))) (fun E τ => X E τ))) (fun E τ => X E τ))))) :
    L_X7_pulls_4 g l K X y1 y2 y3 σ := by
  refine e_iload_n dX7_pulls_4 rfl 3 rfl ?_
  refine e_aload_n dX7_pulls_5 rfl 0 rfl ?_
  refine fg_X7_20 rfl dX7_pulls_6 ?_
  refine e_iconst (v := 1) dX7_pulls_9 (by decide) ?_
  refine e_iald (n := 1110) rfl (Nat.le_of_ble_eq_true rfl) (vil (by decide)) dX7_pulls_10 ?_
  refine e_icmp_ge (tgt := 73) dX7_pulls_11 (by decide) (fun h1 => ?_) (fun h1 => ?_)
  · replace H := H.1 h1
    refine e_iload_n dX7_pulls_73 rfl 2 rfl ?_
    exact e_iret rfl dX7_pulls_74 H
  · replace H := H.2 h1
    refine e_aload_n dX7_pulls_14 rfl 0 rfl ?_
    refine e_iload_n dX7_pulls_15 rfl 3 rfl ?_
    refine e_iconst (v := 1) dX7_pulls_16 (by decide) ?_
    refine e_callVi (j1 := 0) (j2 := 0) (av := [.int y3, .int 1]) rfl rfl (Nat.le_of_ble_eq_true rfl) rfl rfl H i_X7_of rfl n_X7_of v_X7_of q_X7_164 (by decide) (by decide) (Nat.le_of_ble_eq_true rfl) dX7_pulls_17 (fun v2 τ2 H => ?_) (fun E τ H => H)
    refine e_istore (ls' := [(4, .int v2), (0, .ref (zad g 24)), (1, .int y1), (2, .int y2), (3, .int y3)]) dX7_pulls_20 (by decide) rfl ?_
    refine e_aload_n dX7_pulls_22 rfl 1 rfl ?_
    refine e_iload_n dX7_pulls_23 rfl 4 rfl ?_
    refine e_iconst (v := 2) dX7_pulls_24 (by decide) ?_
    refine e_callVi (j1 := 0) (j2 := 0) (av := [.int y3, .int 2]) rfl rfl (Nat.le_of_ble_eq_true rfl) rfl rfl H i_X7_of rfl n_X7_of v_X7_of q_X7_164 (by decide) (by decide) (Nat.le_of_ble_eq_true rfl) dX7_pulls_25 (fun v3 τ3 H => ?_) (fun E τ H => H)
    refine e_if_ne (tgt := 45) dX7_pulls_28 (by decide) (fun h4 => ?_) (fun h4 => ?_)
    · replace H := H.1 h4
      refine e_iload_n dX7_pulls_45 rfl 3 rfl ?_
      refine e_aload_n dX7_pulls_46 rfl 1 rfl ?_
      refine e_iload_n dX7_pulls_47 rfl 4 rfl ?_
      refine e_iconst (v := 1) dX7_pulls_48 (by decide) ?_
      refine e_callVi (j1 := 0) (j2 := 0) (av := [.int y3, .int 1]) rfl rfl (Nat.le_of_ble_eq_true rfl) rfl rfl H i_X7_of rfl n_X7_of v_X7_of q_X7_164 (by decide) (by decide) (Nat.le_of_ble_eq_true rfl) dX7_pulls_49 (fun v5 τ5 H => ?_) (fun E τ H => H)
      refine e_iload dX7_pulls_52 0 rfl ?_
      refine e_icmp_eq (tgt := 61) dX7_pulls_54 (by decide) (fun h6 => ?_) (fun h6 => ?_)
      · replace H := H.1 h6
        refine e_iconst (v := 0) dX7_pulls_61 (by decide) ?_
        refine e_callSi (j1 := 0) (j2 := 0) (av := [.int 0]) rfl H i_X7_truth rfl s_X7_truth q_X7_71 (by decide) (by decide) (Nat.le_of_ble_eq_true rfl) dX7_pulls_62 (fun v7 τ7 H => ?_) (fun E τ H => H)
        refine e_iadd dX7_pulls_65 ?_
        refine e_istore_n (ls' := [(2, .int (y2 + v7)), (4, .int v2), (0, .ref (zad g 24)), (1, .int y1), (3, .int y3)]) dX7_pulls_66 rfl (by decide) rfl ?_
        refine e_iinc (j := 4) (v := (y3 + 1)) (ls' := [(3, .int (y3 + 1)), (2, .int (y2 + v7)), (4, .int v2), (0, .ref (zad g 24)), (1, .int y1)]) dX7_pulls_67 rfl rfl (by decide) rfl ?_
        refine e_goto (tgt := 4) dX7_pulls_70 (by decide) ?_
        refine e_ls [3, 4, 1, 0] rfl ?_
        exact H
      · replace H := H.2 h6
        refine e_iconst (v := 1) dX7_pulls_57 (by decide) ?_
        refine e_goto (tgt := 62) dX7_pulls_58 (by decide) ?_
        refine e_callSi (j1 := 0) (j2 := 0) (av := [.int 1]) rfl H i_X7_truth rfl s_X7_truth q_X7_71 (by decide) (by decide) (Nat.le_of_ble_eq_true rfl) dX7_pulls_62 (fun v8 τ8 H => ?_) (fun E τ H => H)
        refine e_iadd dX7_pulls_65 ?_
        refine e_istore_n (ls' := [(2, .int (y2 + v8)), (4, .int v2), (0, .ref (zad g 24)), (1, .int y1), (3, .int y3)]) dX7_pulls_66 rfl (by decide) rfl ?_
        refine e_iinc (j := 4) (v := (y3 + 1)) (ls' := [(3, .int (y3 + 1)), (2, .int (y2 + v8)), (4, .int v2), (0, .ref (zad g 24)), (1, .int y1)]) dX7_pulls_67 rfl rfl (by decide) rfl ?_
        refine e_goto (tgt := 4) dX7_pulls_70 (by decide) ?_
        refine e_ls [3, 4, 1, 0] rfl ?_
        exact H
    · replace H := H.2 h4
      refine e_aload_n dX7_pulls_31 rfl 1 rfl ?_
      refine e_iload_n dX7_pulls_32 rfl 4 rfl ?_
      refine e_iconst (v := 1) dX7_pulls_33 (by decide) ?_
      refine e_iload dX7_pulls_34 0 rfl ?_
      refine e_iload_n dX7_pulls_36 rfl 2 rfl ?_
      refine e_iadd dX7_pulls_37 ?_
      refine e_iconst (v := 4) dX7_pulls_38 (by decide) ?_
      refine e_callSi (j1 := 0) (j2 := 0) (av := [.int (v2 + y1), .int 4]) rfl H i_X7_held rfl s_X7_held q_X7_258 (by decide) (by decide) (Nat.le_of_ble_eq_true rfl) dX7_pulls_39 (fun v9 τ9 H => ?_) (fun E τ H => H)
      refine e_callVv (j1 := 0) (j2 := 0) (av := [.int y3, .int 1, .int v9]) rfl rfl (Nat.le_of_ble_eq_true rfl) rfl rfl H i_X7_sets rfl n_X7_sets v_X7_sets q_X7_203 (by decide) (by decide) (Nat.le_of_ble_eq_true rfl) dX7_pulls_42 (fun τ10 H => ?_) (fun E τ H => H)
      refine e_iload_n dX7_pulls_45 rfl 3 rfl ?_
      refine e_aload_n dX7_pulls_46 rfl 1 rfl ?_
      refine e_iload_n dX7_pulls_47 rfl 4 rfl ?_
      refine e_iconst (v := 1) dX7_pulls_48 (by decide) ?_
      refine e_callVi (j1 := 0) (j2 := 0) (av := [.int y3, .int 1]) rfl rfl (Nat.le_of_ble_eq_true rfl) rfl rfl H i_X7_of rfl n_X7_of v_X7_of q_X7_164 (by decide) (by decide) (Nat.le_of_ble_eq_true rfl) dX7_pulls_49 (fun v11 τ11 H => ?_) (fun E τ H => H)
      refine e_iload dX7_pulls_52 0 rfl ?_
      refine e_icmp_eq (tgt := 61) dX7_pulls_54 (by decide) (fun h12 => ?_) (fun h12 => ?_)
      · replace H := H.1 h12
        refine e_iconst (v := 0) dX7_pulls_61 (by decide) ?_
        refine e_callSi (j1 := 0) (j2 := 0) (av := [.int 0]) rfl H i_X7_truth rfl s_X7_truth q_X7_71 (by decide) (by decide) (Nat.le_of_ble_eq_true rfl) dX7_pulls_62 (fun v13 τ13 H => ?_) (fun E τ H => H)
        refine e_iadd dX7_pulls_65 ?_
        refine e_istore_n (ls' := [(2, .int (y2 + v13)), (4, .int v2), (0, .ref (zad g 24)), (1, .int y1), (3, .int y3)]) dX7_pulls_66 rfl (by decide) rfl ?_
        refine e_iinc (j := 4) (v := (y3 + 1)) (ls' := [(3, .int (y3 + 1)), (2, .int (y2 + v13)), (4, .int v2), (0, .ref (zad g 24)), (1, .int y1)]) dX7_pulls_67 rfl rfl (by decide) rfl ?_
        refine e_goto (tgt := 4) dX7_pulls_70 (by decide) ?_
        refine e_ls [3, 4, 1, 0] rfl ?_
        exact H
      · replace H := H.2 h12
        refine e_iconst (v := 1) dX7_pulls_57 (by decide) ?_
        refine e_goto (tgt := 62) dX7_pulls_58 (by decide) ?_
        refine e_callSi (j1 := 0) (j2 := 0) (av := [.int 1]) rfl H i_X7_truth rfl s_X7_truth q_X7_71 (by decide) (by decide) (Nat.le_of_ble_eq_true rfl) dX7_pulls_62 (fun v14 τ14 H => ?_) (fun E τ H => H)
        refine e_iadd dX7_pulls_65 ?_
        refine e_istore_n (ls' := [(2, .int (y2 + v14)), (4, .int v2), (0, .ref (zad g 24)), (1, .int y1), (3, .int y3)]) dX7_pulls_66 rfl (by decide) rfl ?_
        refine e_iinc (j := 4) (v := (y3 + 1)) (ls' := [(3, .int (y3 + 1)), (2, .int (y2 + v14)), (4, .int v2), (0, .ref (zad g 24)), (1, .int y1)]) dX7_pulls_67 rfl rfl (by decide) rfl ?_
        refine e_goto (tgt := 4) dX7_pulls_70 (by decide) ?_
        refine e_ls [3, 4, 1, 0] rfl ?_
        exact H
set_option maxRecDepth 20000 in
set_option maxHeartbeats 2000000 in
theorem b_X7_rightPulled {g : zG} {l : Launch} {K : Int32 → zS → Prop} {X : String → zS → Prop} {x1 : Int32} {x2 : Int32} {x3 : Int32} {σ : zS}
    (H : CT g l M_X7_leaves 0 [.ref (zad g 24)] σ (zQv (fun τ1 => CT g l M_X7_pulls 0 [.ref (zad g 24), .int x1] τ1 (zQi (fun v2 τ2 => CT g l M_X7_rightMany 0 [.ref (zad g 24), .int x2, .int x3] τ2 (zQi (fun v3 τ3 => CT g l M_X7_comesBack 0 [.ref (zad g 24), .int v3] τ3 (zQi (fun v4 τ4 => K v4 τ4) (fun E τ => X E τ))) (fun E τ => X E τ))) (fun E τ => X E τ))) (fun E τ => X E τ))) :
    CT g l M_X7_rightPulled 0 [.ref (zad g 24), .int x1, .int x2, .int x3] σ (zQi K X) := by
  refine CT_of rfl (by decide) (Nat.le_of_ble_eq_true rfl) ?_
  change EV _ _ _ _ _ 0 [(0, .ref (zad g 24)), (1, .int x1), (2, .int x2), (3, .int x3)] [] _
  refine e_aload_n dX7_rightPulled_0 rfl 0 rfl ?_
  refine e_callVv (j1 := 0) (j2 := 0) (av := []) rfl rfl (Nat.le_of_ble_eq_true rfl) rfl rfl H i_X7_leaves rfl n_X7_leaves v_X7_leaves q_X7_362 (by decide) (by decide) (Nat.le_of_ble_eq_true rfl) dX7_rightPulled_1 (fun τ1 H => ?_) (fun E τ H => H)
  refine e_aload_n dX7_rightPulled_4 rfl 0 rfl ?_
  refine e_iload_n dX7_rightPulled_5 rfl 1 rfl ?_
  refine e_callVi (j1 := 0) (j2 := 0) (av := [.int x1]) rfl rfl (Nat.le_of_ble_eq_true rfl) rfl rfl H i_X7_pulls rfl n_X7_pulls v_X7_pulls q_X7_371 (by decide) (by decide) (Nat.le_of_ble_eq_true rfl) dX7_rightPulled_6 (fun v2 τ2 H => ?_) (fun E τ H => H)
  refine e_istore (ls' := [(4, .int v2), (0, .ref (zad g 24)), (1, .int x1), (2, .int x2), (3, .int x3)]) dX7_rightPulled_9 (by decide) rfl ?_
  refine e_aload_n dX7_rightPulled_11 rfl 1 rfl ?_
  refine e_aload_n dX7_rightPulled_12 rfl 1 rfl ?_
  refine e_iload_n dX7_rightPulled_13 rfl 3 rfl ?_
  refine e_iload_n dX7_rightPulled_14 rfl 4 rfl ?_
  refine e_callVi (j1 := 0) (j2 := 0) (av := [.int x2, .int x3]) rfl rfl (Nat.le_of_ble_eq_true rfl) rfl rfl H i_X7_rightMany rfl n_X7_rightMany v_X7_rightMany q_X7_335 (by decide) (by decide) (Nat.le_of_ble_eq_true rfl) dX7_rightPulled_15 (fun v3 τ3 H => ?_) (fun E τ H => H)
  refine e_callVi (j1 := 0) (j2 := 0) (av := [.int v3]) rfl rfl (Nat.le_of_ble_eq_true rfl) rfl rfl H i_X7_comesBack rfl n_X7_comesBack v_X7_comesBack q_X7_365 (by decide) (by decide) (Nat.le_of_ble_eq_true rfl) dX7_rightPulled_18 (fun v4 τ4 H => ?_) (fun E τ H => H)
  exact e_iret rfl dX7_rightPulled_21 H
abbrev L_X7_bestPull_32 (g : zG) (l : Launch) (K : Int32 → zS → Prop) (X : String → zS → Prop) (y1 : Int32) (y3 : Int32) (y4 : Int32) (y5 : Int32) (y6 : Int32) (σ : zS) : Prop :=
  EV g l M_X7_bestPull 0 (zQi K X) 32 [(0, .ref (zad g 24)), (1, .int y1), (3, .int y3), (4, .int y4), (5, .int y5), (6, .int y6)] [] σ
set_option maxRecDepth 20000 in
set_option maxHeartbeats 2000000 in
theorem b_X7_bestPull {g : zG} {l : Launch} {K : Int32 → zS → Prop} {X : String → zS → Prop} {x1 : Int32} {x2 : Int32} {σ : zS}
    (H : CT g l M_X7_isAngle 0 [.int x1] σ (zQi (fun v1 τ1 => CT g l M_X7_goes 0 [.ref (zad g 24), .int v1] τ1 (zQi (fun v2 τ2 => ((¬ v2 = 0 → CT g l M_X7_truth 0 [.int x2] τ2 (zQi (fun v4 τ4 => CT g l M_X7_rightMany 0 [.ref (zad g 24), .int x1, .int v4] τ4 (zQi (fun v5 τ5 => L_X7_bestPull_32 g l K X x1 v4 0 v5 2 τ5) (fun E τ => X E τ))) (fun E τ => X E τ))) ∧ (v2 = 0 → K 0 τ2))) (fun E τ => X E τ))) (fun E τ => X E τ))) :
    CT g l M_X7_bestPull 0 [.ref (zad g 24), .int x1, .int x2] σ (zQi K X) := by
  refine CT_of rfl (by decide) (Nat.le_of_ble_eq_true rfl) ?_
  change EV _ _ _ _ _ 0 [(0, .ref (zad g 24)), (1, .int x1), (2, .int x2)] [] _
  refine e_aload_n dX7_bestPull_0 rfl 0 rfl ?_
  refine e_iload_n dX7_bestPull_1 rfl 1 rfl ?_
  refine e_callSi (j1 := 0) (j2 := 0) (av := [.int x1]) rfl H i_X7_isAngle rfl s_X7_isAngle q_X7_326 (by decide) (by decide) (Nat.le_of_ble_eq_true rfl) dX7_bestPull_2 (fun v1 τ1 H => ?_) (fun E τ H => H)
  refine e_callVi (j1 := 0) (j2 := 0) (av := [.int v1]) rfl rfl (Nat.le_of_ble_eq_true rfl) rfl rfl H i_X7_goes rfl n_X7_goes v_X7_goes q_X7_78 (by decide) (by decide) (Nat.le_of_ble_eq_true rfl) dX7_bestPull_5 (fun v2 τ2 H => ?_) (fun E τ H => H)
  refine e_if_ne (tgt := 13) dX7_bestPull_8 (by decide) (fun h3 => ?_) (fun h3 => ?_)
  · replace H := H.1 h3
    refine e_iload_n dX7_bestPull_13 rfl 2 rfl ?_
    refine e_callSi (j1 := 0) (j2 := 0) (av := [.int x2]) rfl H i_X7_truth rfl s_X7_truth q_X7_71 (by decide) (by decide) (Nat.le_of_ble_eq_true rfl) dX7_bestPull_14 (fun v4 τ4 H => ?_) (fun E τ H => H)
    refine e_istore_n (ls' := [(3, .int v4), (0, .ref (zad g 24)), (1, .int x1), (2, .int x2)]) dX7_bestPull_17 rfl (by decide) rfl ?_
    refine e_iconst (v := 0) dX7_bestPull_18 (by decide) ?_
    refine e_istore (ls' := [(4, .int 0), (3, .int v4), (0, .ref (zad g 24)), (1, .int x1), (2, .int x2)]) dX7_bestPull_19 (by decide) rfl ?_
    refine e_aload_n dX7_bestPull_21 rfl 2 rfl ?_
    refine e_iload_n dX7_bestPull_22 rfl 3 rfl ?_
    refine e_iload_n dX7_bestPull_23 rfl 1 rfl ?_
    refine e_callVi (j1 := 0) (j2 := 0) (av := [.int x1, .int v4]) rfl rfl (Nat.le_of_ble_eq_true rfl) rfl rfl H i_X7_rightMany rfl n_X7_rightMany v_X7_rightMany q_X7_335 (by decide) (by decide) (Nat.le_of_ble_eq_true rfl) dX7_bestPull_24 (fun v5 τ5 H => ?_) (fun E τ H => H)
    refine e_istore (ls' := [(5, .int v5), (4, .int 0), (3, .int v4), (0, .ref (zad g 24)), (1, .int x1), (2, .int x2)]) dX7_bestPull_27 (by decide) rfl ?_
    refine e_iconst (v := 2) dX7_bestPull_29 (by decide) ?_
    refine e_istore (ls' := [(6, .int 2), (5, .int v5), (4, .int 0), (3, .int v4), (0, .ref (zad g 24)), (1, .int x1), (2, .int x2)]) dX7_bestPull_30 (by decide) rfl ?_
    refine e_ls [4, 5, 3, 2, 1, 0] rfl ?_
    exact H
  · replace H := H.2 h3
    refine e_iconst (v := 0) dX7_bestPull_11 (by decide) ?_
    exact e_iret rfl dX7_bestPull_12 H
set_option maxRecDepth 20000 in
set_option maxHeartbeats 2000000 in
theorem b_X7_bestPull_32 {g : zG} {l : Launch} {K : Int32 → zS → Prop} {X : String → zS → Prop} {y1 : Int32} {y3 : Int32} {y4 : Int32} {y5 : Int32} {y6 : Int32} {σ : zS}
    (H : ((18 ≤ y6 → K y4 σ) ∧ (¬ 18 ≤ y6 → ((¬ (y6 - y6 / 2 * 2) = 0 → CT g l M_X7_rightPulled 0 [.ref (zad g 24), .int (y6 / 2), .int y1, .int y3] σ (zQi (fun v3 τ3 => ((y5 < v3 → L_X7_bestPull_32 g l K X y1 y3 (y6 / 2) v3 (y6 + 1) τ3) ∧ (¬ y5 < v3 → L_X7_bestPull_32 g l K X y1 y3 y4 y5 (y6 + 1) τ3))) (fun E τ => X E τ))) ∧ ((y6 - y6 / 2 * 2) = 0 → CT g l M_X7_rightPulled 0 [.ref (zad g 24), .int (-(y6 / 2)), .int y1, .int y3] σ (zQi (fun v5 τ5 => ((y5 < v5 → L_X7_bestPull_32 g l K X y1 y3 (-(y6 / 2)) v5 (y6 + 1) τ5) ∧ (¬ y5 < v5 → L_X7_bestPull_32 g l K X y1 y3 y4 y5 (y6 + 1) τ5))) (fun E τ => X E τ))))))) :
    L_X7_bestPull_32 g l K X y1 y3 y4 y5 y6 σ := by
  refine e_iload dX7_bestPull_32 5 rfl ?_
  refine e_bipush (v := 18) dX7_bestPull_34 (by decide) ?_
  refine e_icmp_ge (tgt := 94) dX7_bestPull_36 (by decide) (fun h1 => ?_) (fun h1 => ?_)
  · replace H := H.1 h1
    refine e_iload dX7_bestPull_94 3 rfl ?_
    exact e_iret rfl dX7_bestPull_96 H
  · replace H := H.2 h1
    refine e_iload dX7_bestPull_39 5 rfl ?_
    refine e_iconst (v := 2) dX7_bestPull_41 (by decide) ?_
    refine e_irem dX7_bestPull_42 (by decide) ?_
    refine e_if_ne (tgt := 54) dX7_bestPull_43 (by decide) (fun h2 => ?_) (fun h2 => ?_)
    · replace H := H.1 h2
      refine e_iload dX7_bestPull_54 5 rfl ?_
      refine e_iconst (v := 2) dX7_bestPull_56 (by decide) ?_
      refine e_idiv dX7_bestPull_57 (by decide) ?_
      refine e_istore (ls' := [(7, .int (y6 / 2)), (0, .ref (zad g 24)), (1, .int y1), (3, .int y3), (4, .int y4), (5, .int y5), (6, .int y6)]) dX7_bestPull_58 (by decide) rfl ?_
      refine e_aload_n dX7_bestPull_60 rfl 1 rfl ?_
      refine e_iload dX7_bestPull_61 0 rfl ?_
      refine e_iload_n dX7_bestPull_63 rfl 2 rfl ?_
      refine e_iload_n dX7_bestPull_64 rfl 3 rfl ?_
      refine e_callVi (j1 := 0) (j2 := 0) (av := [.int (y6 / 2), .int y1, .int y3]) rfl rfl (Nat.le_of_ble_eq_true rfl) rfl rfl H i_X7_rightPulled rfl n_X7_rightPulled v_X7_rightPulled q_X7_374 (by decide) (by decide) (Nat.le_of_ble_eq_true rfl) dX7_bestPull_65 (fun v3 τ3 H => ?_) (fun E τ H => H)
      refine e_istore (ls' := [(8, .int v3), (7, .int (y6 / 2)), (0, .ref (zad g 24)), (1, .int y1), (3, .int y3), (4, .int y4), (5, .int y5), (6, .int y6)]) dX7_bestPull_68 (by decide) rfl ?_
      refine e_iload dX7_bestPull_70 0 rfl ?_
      refine e_iload dX7_bestPull_72 6 rfl ?_
      refine e_icmp_gt (tgt := 80) dX7_bestPull_74 (by decide) (fun h4 => ?_) (fun h4 => ?_)
      · replace H := H.1 h4
        refine e_iload dX7_bestPull_80 0 rfl ?_
        refine e_istore (ls' := [(5, .int v3), (8, .int v3), (7, .int (y6 / 2)), (0, .ref (zad g 24)), (1, .int y1), (3, .int y3), (4, .int y4), (6, .int y6)]) dX7_bestPull_82 (by decide) rfl ?_
        refine e_iload dX7_bestPull_84 2 rfl ?_
        refine e_istore (ls' := [(4, .int (y6 / 2)), (5, .int v3), (8, .int v3), (7, .int (y6 / 2)), (0, .ref (zad g 24)), (1, .int y1), (3, .int y3), (6, .int y6)]) dX7_bestPull_86 (by decide) rfl ?_
        refine e_iinc (j := 7) (v := (y6 + 1)) (ls' := [(6, .int (y6 + 1)), (4, .int (y6 / 2)), (5, .int v3), (8, .int v3), (7, .int (y6 / 2)), (0, .ref (zad g 24)), (1, .int y1), (3, .int y3)]) dX7_bestPull_88 rfl rfl (by decide) rfl ?_
        refine e_goto (tgt := 32) dX7_bestPull_91 (by decide) ?_
        refine e_ls [5, 6, 7, 1, 2, 0] rfl ?_
        exact H
      · replace H := H.2 h4
        refine e_goto (tgt := 88) dX7_bestPull_77 (by decide) ?_
        refine e_iinc (j := 7) (v := (y6 + 1)) (ls' := [(6, .int (y6 + 1)), (8, .int v3), (7, .int (y6 / 2)), (0, .ref (zad g 24)), (1, .int y1), (3, .int y3), (4, .int y4), (5, .int y5)]) dX7_bestPull_88 rfl rfl (by decide) rfl ?_
        refine e_goto (tgt := 32) dX7_bestPull_91 (by decide) ?_
        refine e_ls [3, 4, 5, 6, 7, 0] rfl ?_
        exact H
    · replace H := H.2 h2
      refine e_iload dX7_bestPull_46 5 rfl ?_
      refine e_iconst (v := 2) dX7_bestPull_48 (by decide) ?_
      refine e_idiv dX7_bestPull_49 (by decide) ?_
      refine e_ineg dX7_bestPull_50 ?_
      refine e_goto (tgt := 58) dX7_bestPull_51 (by decide) ?_
      refine e_istore (ls' := [(7, .int (-(y6 / 2))), (0, .ref (zad g 24)), (1, .int y1), (3, .int y3), (4, .int y4), (5, .int y5), (6, .int y6)]) dX7_bestPull_58 (by decide) rfl ?_
      refine e_aload_n dX7_bestPull_60 rfl 1 rfl ?_
      refine e_iload dX7_bestPull_61 0 rfl ?_
      refine e_iload_n dX7_bestPull_63 rfl 2 rfl ?_
      refine e_iload_n dX7_bestPull_64 rfl 3 rfl ?_
      refine e_callVi (j1 := 0) (j2 := 0) (av := [.int (-(y6 / 2)), .int y1, .int y3]) rfl rfl (Nat.le_of_ble_eq_true rfl) rfl rfl H i_X7_rightPulled rfl n_X7_rightPulled v_X7_rightPulled q_X7_374 (by decide) (by decide) (Nat.le_of_ble_eq_true rfl) dX7_bestPull_65 (fun v5 τ5 H => ?_) (fun E τ H => H)
      refine e_istore (ls' := [(8, .int v5), (7, .int (-(y6 / 2))), (0, .ref (zad g 24)), (1, .int y1), (3, .int y3), (4, .int y4), (5, .int y5), (6, .int y6)]) dX7_bestPull_68 (by decide) rfl ?_
      refine e_iload dX7_bestPull_70 0 rfl ?_
      refine e_iload dX7_bestPull_72 6 rfl ?_
      refine e_icmp_gt (tgt := 80) dX7_bestPull_74 (by decide) (fun h6 => ?_) (fun h6 => ?_)
      · replace H := H.1 h6
        refine e_iload dX7_bestPull_80 0 rfl ?_
        refine e_istore (ls' := [(5, .int v5), (8, .int v5), (7, .int (-(y6 / 2))), (0, .ref (zad g 24)), (1, .int y1), (3, .int y3), (4, .int y4), (6, .int y6)]) dX7_bestPull_82 (by decide) rfl ?_
        refine e_iload dX7_bestPull_84 2 rfl ?_
        refine e_istore (ls' := [(4, .int (-(y6 / 2))), (5, .int v5), (8, .int v5), (7, .int (-(y6 / 2))), (0, .ref (zad g 24)), (1, .int y1), (3, .int y3), (6, .int y6)]) dX7_bestPull_86 (by decide) rfl ?_
        refine e_iinc (j := 7) (v := (y6 + 1)) (ls' := [(6, .int (y6 + 1)), (4, .int (-(y6 / 2))), (5, .int v5), (8, .int v5), (7, .int (-(y6 / 2))), (0, .ref (zad g 24)), (1, .int y1), (3, .int y3)]) dX7_bestPull_88 rfl rfl (by decide) rfl ?_
        refine e_goto (tgt := 32) dX7_bestPull_91 (by decide) ?_
        refine e_ls [5, 6, 7, 1, 2, 0] rfl ?_
        exact H
      · replace H := H.2 h6
        refine e_goto (tgt := 88) dX7_bestPull_77 (by decide) ?_
        refine e_iinc (j := 7) (v := (y6 + 1)) (ls' := [(6, .int (y6 + 1)), (8, .int v5), (7, .int (-(y6 / 2))), (0, .ref (zad g 24)), (1, .int y1), (3, .int y3), (4, .int y4), (5, .int y5)]) dX7_bestPull_88 rfl rfl (by decide) rfl ?_
        refine e_goto (tgt := 32) dX7_bestPull_91 (by decide) ?_
        refine e_ls [3, 4, 5, 6, 7, 0] rfl ?_
        exact H
set_option maxRecDepth 20000 in
set_option maxHeartbeats 2000000 in
theorem b_X7_dabs {g : zG} {l : Launch} {K : Int32 → zS → Prop} {X : String → zS → Prop} {x1 : Int32} {x2 : Int32} {σ : zS}
    (H : CT g l M_X7_isAngle 0 [.int x1] σ (zQi (fun v1 τ1 => CT g l M_X7_goes 0 [.ref (zad g 24), .int v1] τ1 (zQi (fun v2 τ2 => ((¬ v2 = 0 → (((τ2.1 26 (Int32.toNatClampNeg 1)) = 0 → K (-1) τ2) ∧ (¬ (τ2.1 26 (Int32.toNatClampNeg 1)) = 0 → CT g l M_X7_columnsAs 0 [.ref (zad g 24), .int x1, .int 1, .int 3] τ2 (zQi (fun v5 τ5 => ((v5 ≤ 0 → CT g l M_X7_cells 0 [.ref (zad g 24)] τ5 (zQi (fun v7 τ7 => CT g l M_X7_truth 0 [.int x2] τ7 (zQi (fun v8 τ8 => CT g l M_X7_rightMany 0 [.ref (zad g 24), .int x1, .int v8] τ8 (zQi (fun v9 τ9 => K (v7 - v9) τ9) (fun E τ => X E τ))) (fun E τ => X E τ))) (fun E τ => X E τ))) ∧ (¬ v5 ≤ 0 → K (-1) τ5))) (fun E τ => X E τ))))) ∧ (v2 = 0 → K 0 τ2))) (fun E τ => X E τ))) (fun E τ => X E τ))) :
    CT g l M_X7_dabs 0 [.ref (zad g 24), .int x1, .int x2] σ (zQi K X) := by
  refine CT_of rfl (by decide) (Nat.le_of_ble_eq_true rfl) ?_
  change EV _ _ _ _ _ 0 [(0, .ref (zad g 24)), (1, .int x1), (2, .int x2)] [] _
  refine e_aload_n dX7_dabs_0 rfl 0 rfl ?_
  refine e_iload_n dX7_dabs_1 rfl 1 rfl ?_
  refine e_callSi (j1 := 0) (j2 := 0) (av := [.int x1]) rfl H i_X7_isAngle rfl s_X7_isAngle q_X7_326 (by decide) (by decide) (Nat.le_of_ble_eq_true rfl) dX7_dabs_2 (fun v1 τ1 H => ?_) (fun E τ H => H)
  refine e_callVi (j1 := 0) (j2 := 0) (av := [.int v1]) rfl rfl (Nat.le_of_ble_eq_true rfl) rfl rfl H i_X7_goes rfl n_X7_goes v_X7_goes q_X7_78 (by decide) (by decide) (Nat.le_of_ble_eq_true rfl) dX7_dabs_5 (fun v2 τ2 H => ?_) (fun E τ H => H)
  refine e_if_ne (tgt := 13) dX7_dabs_8 (by decide) (fun h3 => ?_) (fun h3 => ?_)
  · replace H := H.1 h3
    refine e_aload_n dX7_dabs_13 rfl 0 rfl ?_
    refine fg_X7_20 rfl dX7_dabs_14 ?_
    refine e_iconst (v := 1) dX7_dabs_17 (by decide) ?_
    refine e_iald (n := 1110) rfl (Nat.le_of_ble_eq_true rfl) (vil (by decide)) dX7_dabs_18 ?_
    refine e_if_eq (tgt := 32) dX7_dabs_19 (by decide) (fun h4 => ?_) (fun h4 => ?_)
    · replace H := H.1 h4
      refine e_iconst (v := (-1)) dX7_dabs_32 (by decide) ?_
      exact e_iret rfl dX7_dabs_33 H
    · replace H := H.2 h4
      refine e_aload_n dX7_dabs_22 rfl 0 rfl ?_
      refine e_iload_n dX7_dabs_23 rfl 1 rfl ?_
      refine e_iconst (v := 1) dX7_dabs_24 (by decide) ?_
      refine e_iconst (v := 3) dX7_dabs_25 (by decide) ?_
      refine e_callVi (j1 := 0) (j2 := 0) (av := [.int x1, .int 1, .int 3]) rfl rfl (Nat.le_of_ble_eq_true rfl) rfl rfl H i_X7_columnsAs rfl n_X7_columnsAs v_X7_columnsAs q_X7_338 (by decide) (by decide) (Nat.le_of_ble_eq_true rfl) dX7_dabs_26 (fun v5 τ5 H => ?_) (fun E τ H => H)
      refine e_if_le (tgt := 34) dX7_dabs_29 (by decide) (fun h6 => ?_) (fun h6 => ?_)
      · replace H := H.1 h6
        refine e_aload_n dX7_dabs_34 rfl 0 rfl ?_
        refine e_callVi (j1 := 0) (j2 := 0) (av := []) rfl rfl (Nat.le_of_ble_eq_true rfl) rfl rfl H i_X7_cells rfl n_X7_cells v_X7_cells q_X7_357 (by decide) (by decide) (Nat.le_of_ble_eq_true rfl) dX7_dabs_35 (fun v7 τ7 H => ?_) (fun E τ H => H)
        refine e_aload_n dX7_dabs_38 rfl 0 rfl ?_
        refine e_iload_n dX7_dabs_39 rfl 1 rfl ?_
        refine e_iload_n dX7_dabs_40 rfl 2 rfl ?_
        refine e_callSi (j1 := 0) (j2 := 0) (av := [.int x2]) rfl H i_X7_truth rfl s_X7_truth q_X7_71 (by decide) (by decide) (Nat.le_of_ble_eq_true rfl) dX7_dabs_41 (fun v8 τ8 H => ?_) (fun E τ H => H)
        refine e_callVi (j1 := 0) (j2 := 0) (av := [.int x1, .int v8]) rfl rfl (Nat.le_of_ble_eq_true rfl) rfl rfl H i_X7_rightMany rfl n_X7_rightMany v_X7_rightMany q_X7_335 (by decide) (by decide) (Nat.le_of_ble_eq_true rfl) dX7_dabs_44 (fun v9 τ9 H => ?_) (fun E τ H => H)
        refine e_isub dX7_dabs_47 ?_
        exact e_iret rfl dX7_dabs_48 H
      · replace H := H.2 h6
        refine e_iconst (v := (-1)) dX7_dabs_32 (by decide) ?_
        exact e_iret rfl dX7_dabs_33 H
  · replace H := H.2 h3
    refine e_iconst (v := 0) dX7_dabs_11 (by decide) ?_
    exact e_iret rfl dX7_dabs_12 H
abbrev L_X7_othersThan_4 (g : zG) (l : Launch) (K : Int32 → zS → Prop) (X : String → zS → Prop) (y1 : Int32) (y2 : Int32) (y3 : Int32) (σ : zS) : Prop :=
  EV g l M_X7_othersThan 0 (zQi K X) 4 [(0, .ref (zad g 24)), (1, .int y1), (2, .int y2), (3, .int y3)] [] σ
set_option maxRecDepth 20000 in
set_option maxHeartbeats 2000000 in
theorem b_X7_othersThan {g : zG} {l : Launch} {K : Int32 → zS → Prop} {X : String → zS → Prop} {x1 : Int32} {σ : zS}
    (H : L_X7_othersThan_4 g l K X x1 0 0 σ) :
    CT g l M_X7_othersThan 0 [.ref (zad g 24), .int x1] σ (zQi K X) := by
  refine CT_of rfl (by decide) (Nat.le_of_ble_eq_true rfl) ?_
  change EV _ _ _ _ _ 0 [(0, .ref (zad g 24)), (1, .int x1)] [] _
  refine e_iconst (v := 0) dX7_othersThan_0 (by decide) ?_
  refine e_istore_n (ls' := [(2, .int 0), (0, .ref (zad g 24)), (1, .int x1)]) dX7_othersThan_1 rfl (by decide) rfl ?_
  refine e_iconst (v := 0) dX7_othersThan_2 (by decide) ?_
  refine e_istore_n (ls' := [(3, .int 0), (2, .int 0), (0, .ref (zad g 24)), (1, .int x1)]) dX7_othersThan_3 rfl (by decide) rfl ?_
  refine e_ls [2, 3, 1, 0] rfl ?_
  exact H
set_option maxRecDepth 20000 in
set_option maxHeartbeats 2000000 in
theorem b_X7_othersThan_4 {g : zG} {l : Launch} {K : Int32 → zS → Prop} {X : String → zS → Prop} {y1 : Int32} {y2 : Int32} {y3 : Int32} {σ : zS}
    (H : (((σ.1 26 (Int32.toNatClampNeg 1)) ≤ y3 → K y2 σ) ∧ (¬ (σ.1 26 (Int32.toNatClampNeg 1)) ≤ y3 → CT g l M_X7_of 0 [.ref (zad g 24), .int y3, .int 2] σ (zQi (fun v2 τ2 => ((¬ v2 = 0 → L_X7_othersThan_4 g l K X y1 (y2 ||| 0) (y3 + 1) τ2) ∧ (v2 = 0 → CT g l M_X7_of 0 [.ref (zad g 24), .int y3, .int 1] τ2 (zQi (fun v4 τ4 => ((v4 = y1 → L_X7_othersThan_4 g l K X y1 (y2 ||| 0) (y3 + 1) τ4) ∧ (¬ v4 = y1 → L_X7_othersThan_4 g l K X y1 (y2 ||| (1 <<< (y3 &&& 31))) (y3 + 1) τ4))) (fun E τ => X E τ))))) (fun E τ => X E τ))))) :
    L_X7_othersThan_4 g l K X y1 y2 y3 σ := by
  refine e_iload_n dX7_othersThan_4 rfl 3 rfl ?_
  refine e_aload_n dX7_othersThan_5 rfl 0 rfl ?_
  refine fg_X7_20 rfl dX7_othersThan_6 ?_
  refine e_iconst (v := 1) dX7_othersThan_9 (by decide) ?_
  refine e_iald (n := 1110) rfl (Nat.le_of_ble_eq_true rfl) (vil (by decide)) dX7_othersThan_10 ?_
  refine e_icmp_ge (tgt := 49) dX7_othersThan_11 (by decide) (fun h1 => ?_) (fun h1 => ?_)
  · replace H := H.1 h1
    refine e_iload_n dX7_othersThan_49 rfl 2 rfl ?_
    exact e_iret rfl dX7_othersThan_50 H
  · replace H := H.2 h1
    refine e_iload_n dX7_othersThan_14 rfl 2 rfl ?_
    refine e_aload_n dX7_othersThan_15 rfl 0 rfl ?_
    refine e_iload_n dX7_othersThan_16 rfl 3 rfl ?_
    refine e_iconst (v := 2) dX7_othersThan_17 (by decide) ?_
    refine e_callVi (j1 := 0) (j2 := 0) (av := [.int y3, .int 2]) rfl rfl (Nat.le_of_ble_eq_true rfl) rfl rfl H i_X7_of rfl n_X7_of v_X7_of q_X7_164 (by decide) (by decide) (Nat.le_of_ble_eq_true rfl) dX7_othersThan_18 (fun v2 τ2 H => ?_) (fun E τ H => H)
    refine e_if_ne (tgt := 40) dX7_othersThan_21 (by decide) (fun h3 => ?_) (fun h3 => ?_)
    · replace H := H.1 h3
      refine e_iconst (v := 0) dX7_othersThan_40 (by decide) ?_
      refine e_ior dX7_othersThan_41 ?_
      refine e_istore_n (ls' := [(2, .int (y2 ||| 0)), (0, .ref (zad g 24)), (1, .int y1), (3, .int y3)]) dX7_othersThan_42 rfl (by decide) rfl ?_
      refine e_iinc (j := 3) (v := (y3 + 1)) (ls' := [(3, .int (y3 + 1)), (2, .int (y2 ||| 0)), (0, .ref (zad g 24)), (1, .int y1)]) dX7_othersThan_43 rfl rfl (by decide) rfl ?_
      refine e_goto (tgt := 4) dX7_othersThan_46 (by decide) ?_
      refine e_ls [2, 3, 1, 0] rfl ?_
      exact H
    · replace H := H.2 h3
      refine e_aload_n dX7_othersThan_24 rfl 0 rfl ?_
      refine e_iload_n dX7_othersThan_25 rfl 3 rfl ?_
      refine e_iconst (v := 1) dX7_othersThan_26 (by decide) ?_
      refine e_callVi (j1 := 0) (j2 := 0) (av := [.int y3, .int 1]) rfl rfl (Nat.le_of_ble_eq_true rfl) rfl rfl H i_X7_of rfl n_X7_of v_X7_of q_X7_164 (by decide) (by decide) (Nat.le_of_ble_eq_true rfl) dX7_othersThan_27 (fun v4 τ4 H => ?_) (fun E τ H => H)
      refine e_iload_n dX7_othersThan_30 rfl 1 rfl ?_
      refine e_icmp_eq (tgt := 40) dX7_othersThan_31 (by decide) (fun h5 => ?_) (fun h5 => ?_)
      · replace H := H.1 h5
        refine e_iconst (v := 0) dX7_othersThan_40 (by decide) ?_
        refine e_ior dX7_othersThan_41 ?_
        refine e_istore_n (ls' := [(2, .int (y2 ||| 0)), (0, .ref (zad g 24)), (1, .int y1), (3, .int y3)]) dX7_othersThan_42 rfl (by decide) rfl ?_
        refine e_iinc (j := 3) (v := (y3 + 1)) (ls' := [(3, .int (y3 + 1)), (2, .int (y2 ||| 0)), (0, .ref (zad g 24)), (1, .int y1)]) dX7_othersThan_43 rfl rfl (by decide) rfl ?_
        refine e_goto (tgt := 4) dX7_othersThan_46 (by decide) ?_
        refine e_ls [2, 3, 1, 0] rfl ?_
        exact H
      · replace H := H.2 h5
        refine e_iconst (v := 1) dX7_othersThan_34 (by decide) ?_
        refine e_iload_n dX7_othersThan_35 rfl 3 rfl ?_
        refine e_ishl dX7_othersThan_36 ?_
        refine e_goto (tgt := 41) dX7_othersThan_37 (by decide) ?_
        refine e_ior dX7_othersThan_41 ?_
        refine e_istore_n (ls' := [(2, .int (y2 ||| (1 <<< (y3 &&& 31)))), (0, .ref (zad g 24)), (1, .int y1), (3, .int y3)]) dX7_othersThan_42 rfl (by decide) rfl ?_
        refine e_iinc (j := 3) (v := (y3 + 1)) (ls' := [(3, .int (y3 + 1)), (2, .int (y2 ||| (1 <<< (y3 &&& 31)))), (0, .ref (zad g 24)), (1, .int y1)]) dX7_othersThan_43 rfl rfl (by decide) rfl ?_
        refine e_goto (tgt := 4) dX7_othersThan_46 (by decide) ?_
        refine e_ls [2, 3, 1, 0] rfl ?_
        exact H
abbrev L_X7_bits_4 (g : zG) (l : Launch) (K : Int32 → zS → Prop) (X : String → zS → Prop) (y1 : Int32) (y2 : Int32) (σ : zS) : Prop :=
  EV g l M_X7_bits 0 (zQi K X) 4 [(1, .int y1), (2, .int y2)] [] σ
set_option maxRecDepth 20000 in
set_option maxHeartbeats 2000000 in
theorem b_X7_bits {g : zG} {l : Launch} {K : Int32 → zS → Prop} {X : String → zS → Prop} {x0 : Int32} {σ : zS}
    (H : L_X7_bits_4 g l K X 0 x0 σ) :
    CT g l M_X7_bits 0 [.int x0] σ (zQi K X) := by
  refine CT_of rfl (by decide) (Nat.le_of_ble_eq_true rfl) ?_
  change EV _ _ _ _ _ 0 [(0, .int x0)] [] _
  refine e_iconst (v := 0) dX7_bits_0 (by decide) ?_
  refine e_istore_n (ls' := [(1, .int 0), (0, .int x0)]) dX7_bits_1 rfl (by decide) rfl ?_
  refine e_iload_n dX7_bits_2 rfl 1 rfl ?_
  refine e_istore_n (ls' := [(2, .int x0), (1, .int 0), (0, .int x0)]) dX7_bits_3 rfl (by decide) rfl ?_
  refine e_ls [1, 0] rfl ?_
  exact H
set_option maxRecDepth 20000 in
set_option maxHeartbeats 2000000 in
theorem b_X7_bits_4 {g : zG} {l : Launch} {K : Int32 → zS → Prop} {X : String → zS → Prop} {y1 : Int32} {y2 : Int32} {σ : zS}
    (H : ((y2 ≤ 0 → K y1 σ) ∧ (¬ y2 ≤ 0 → L_X7_bits_4 g l K X (y1 + (y2 &&& 1)) (y2 >>> (1 &&& 31)) σ))) :
    L_X7_bits_4 g l K X y1 y2 σ := by
  refine e_iload_n dX7_bits_4 rfl 1 rfl ?_
  refine e_if_le (tgt := 21) dX7_bits_5 (by decide) (fun h1 => ?_) (fun h1 => ?_)
  · replace H := H.1 h1
    refine e_iload_n dX7_bits_21 rfl 0 rfl ?_
    exact e_iret rfl dX7_bits_22 H
  · replace H := H.2 h1
    refine e_iload_n dX7_bits_8 rfl 0 rfl ?_
    refine e_iload_n dX7_bits_9 rfl 1 rfl ?_
    refine e_iconst (v := 1) dX7_bits_10 (by decide) ?_
    refine e_iand dX7_bits_11 ?_
    refine e_iadd dX7_bits_12 ?_
    refine e_istore_n (ls' := [(1, .int (y1 + (y2 &&& 1))), (2, .int y2)]) dX7_bits_13 rfl (by decide) rfl ?_
    refine e_iload_n dX7_bits_14 rfl 1 rfl ?_
    refine e_iconst (v := 1) dX7_bits_15 (by decide) ?_
    refine e_ishr dX7_bits_16 ?_
    refine e_istore_n (ls' := [(2, .int (y2 >>> (1 &&& 31))), (1, .int (y1 + (y2 &&& 1)))]) dX7_bits_17 rfl (by decide) rfl ?_
    refine e_goto (tgt := 4) dX7_bits_18 (by decide) ?_
    refine e_ls [1, 0] rfl ?_
    exact H
abbrev L_X7_isWholeBy_3 (g : zG) (l : Launch) (K : Int32 → zS → Prop) (X : String → zS → Prop) (y1 : Int32) (y2 : Int32) (y3 : Int32) (y4 : Int32) (y5 : Int32) (σ : zS) : Prop :=
  EV g l M_X7_isWholeBy 0 (zQi K X) 3 [(0, .ref (zad g 24)), (1, .int y1), (2, .int y2), (3, .int y3), (4, .int y4), (5, .int y5)] [] σ
abbrev L_X7_isWholeBy_63 (g : zG) (l : Launch) (K : Int32 → zS → Prop) (X : String → zS → Prop) (y5 : Int32) (y6 : Int32) (σ : zS) : Prop :=
  EV g l M_X7_isWholeBy 0 (zQi K X) 63 [(0, .ref (zad g 24)), (5, .int y5), (6, .int y6)] [] σ
set_option maxRecDepth 20000 in
set_option maxHeartbeats 2000000 in
theorem b_X7_isWholeBy {g : zG} {l : Launch} {K : Int32 → zS → Prop} {X : String → zS → Prop} {x1 : Int32} {x2 : Int32} {x3 : Int32} {x4 : Int32} {σ : zS}
    (H : L_X7_isWholeBy_3 g l K X x1 x2 x3 x4 0 σ) :
    CT g l M_X7_isWholeBy 0 [.ref (zad g 24), .int x1, .int x2, .int x3, .int x4] σ (zQi K X) := by
  refine CT_of rfl (by decide) (Nat.le_of_ble_eq_true rfl) ?_
  change EV _ _ _ _ _ 0 [(0, .ref (zad g 24)), (1, .int x1), (2, .int x2), (3, .int x3), (4, .int x4)] [] _
  refine e_iconst (v := 0) dX7_isWholeBy_0 (by decide) ?_
  refine e_istore (ls' := [(5, .int 0), (0, .ref (zad g 24)), (1, .int x1), (2, .int x2), (3, .int x3), (4, .int x4)]) dX7_isWholeBy_1 (by decide) rfl ?_
  refine e_ls [1, 2, 3, 4, 5, 0] rfl ?_
  exact H
set_option maxRecDepth 20000 in
set_option maxHeartbeats 2000000 in
theorem b_X7_isWholeBy_3 {g : zG} {l : Launch} {K : Int32 → zS → Prop} {X : String → zS → Prop} {y1 : Int32} {y2 : Int32} {y3 : Int32} {y4 : Int32} {y5 : Int32} {σ : zS}
    (H : (((σ.1 26 (Int32.toNatClampNeg 1)) ≤ y5 → CT g l M_X7_isWhole 0 [.ref (zad g 24), .int y3, .int y4] σ (zQi (fun v2 τ2 => L_X7_isWholeBy_63 g l K X v2 0 τ2) (fun E τ => X E τ))) ∧ (¬ (σ.1 26 (Int32.toNatClampNeg 1)) ≤ y5 → CT g l M_X7_of 0 [.ref (zad g 24), .int y5, .int 1] σ (zQi (fun v3 τ3 => (vp_in y5 10 ∧ (∀ σ4 : zS, σ4 = zup τ3 31 (Int32.toNatClampNeg y5) v3 → CT g l M_X7_has 0 [.int y1, .int y5] σ4 (zQi (fun v5 τ5 => ((v5 = 0 → L_X7_isWholeBy_3 g l K X y1 y2 y3 y4 (y5 + 1) τ5) ∧ (¬ v5 = 0 → CT g l M_X7_sets 0 [.ref (zad g 24), .int y5, .int 1, .int y2] τ5 (zQv (fun τ7 => L_X7_isWholeBy_3 g l K X y1 y2 y3 y4 (y5 + 1) τ7) (fun E τ => X E τ))))) (fun E τ => X E τ))))) (fun E τ => X E τ))))) :
    L_X7_isWholeBy_3 g l K X y1 y2 y3 y4 y5 σ := by
  refine e_iload dX7_isWholeBy_3 5 rfl ?_
  refine e_aload_n dX7_isWholeBy_5 rfl 0 rfl ?_
  refine fg_X7_20 rfl dX7_isWholeBy_6 ?_
  refine e_iconst (v := 1) dX7_isWholeBy_9 (by decide) ?_
  refine e_iald (n := 1110) rfl (Nat.le_of_ble_eq_true rfl) (vil (by decide)) dX7_isWholeBy_10 ?_
  refine e_icmp_ge (tgt := 51) dX7_isWholeBy_11 (by decide) (fun h1 => ?_) (fun h1 => ?_)
  · replace H := H.1 h1
    refine e_aload_n dX7_isWholeBy_51 rfl 0 rfl ?_
    refine e_iload_n dX7_isWholeBy_52 rfl 3 rfl ?_
    refine e_iload dX7_isWholeBy_53 4 rfl ?_
    refine e_callVi (j1 := 0) (j2 := 0) (av := [.int y3, .int y4]) rfl rfl (Nat.le_of_ble_eq_true rfl) rfl rfl H i_X7_isWhole rfl n_X7_isWhole v_X7_isWhole q_X7_344 (by decide) (by decide) (Nat.le_of_ble_eq_true rfl) dX7_isWholeBy_55 (fun v2 τ2 H => ?_) (fun E τ H => H)
    refine e_istore (ls' := [(5, .int v2), (0, .ref (zad g 24)), (1, .int y1), (2, .int y2), (3, .int y3), (4, .int y4)]) dX7_isWholeBy_58 (by decide) rfl ?_
    refine e_iconst (v := 0) dX7_isWholeBy_60 (by decide) ?_
    refine e_istore (ls' := [(6, .int 0), (5, .int v2), (0, .ref (zad g 24)), (1, .int y1), (2, .int y2), (3, .int y3), (4, .int y4)]) dX7_isWholeBy_61 (by decide) rfl ?_
    refine e_ls [2, 1, 0] rfl ?_
    exact H
  · replace H := H.2 h1
    refine e_aload_n dX7_isWholeBy_14 rfl 0 rfl ?_
    refine fg_X7_35 rfl dX7_isWholeBy_15 ?_
    refine e_iload dX7_isWholeBy_18 5 rfl ?_
    refine e_aload_n dX7_isWholeBy_20 rfl 0 rfl ?_
    refine e_iload dX7_isWholeBy_21 5 rfl ?_
    refine e_iconst (v := 1) dX7_isWholeBy_23 (by decide) ?_
    refine e_callVi (j1 := 0) (j2 := 0) (av := [.int y5, .int 1]) rfl rfl (Nat.le_of_ble_eq_true rfl) rfl rfl H i_X7_of rfl n_X7_of v_X7_of q_X7_164 (by decide) (by decide) (Nat.le_of_ble_eq_true rfl) dX7_isWholeBy_24 (fun v3 τ3 H => ?_) (fun E τ H => H)
    refine e_iast (n := 10) rfl (Nat.le_of_ble_eq_true rfl) H.1 dX7_isWholeBy_27 ?_
    replace H := H.2
    replace H := H _ rfl
    generalize zup τ3 31 (Int32.toNatClampNeg y5) v3 = σ4 at H ⊢
    refine e_iload_n dX7_isWholeBy_28 rfl 1 rfl ?_
    refine e_iload dX7_isWholeBy_29 5 rfl ?_
    refine e_callSi (j1 := 0) (j2 := 0) (av := [.int y1, .int y5]) rfl H i_X7_has rfl s_X7_has q_X7_186 (by decide) (by decide) (Nat.le_of_ble_eq_true rfl) dX7_isWholeBy_31 (fun v5 τ5 H => ?_) (fun E τ H => H)
    refine e_if_eq (tgt := 45) dX7_isWholeBy_34 (by decide) (fun h6 => ?_) (fun h6 => ?_)
    · replace H := H.1 h6
      refine e_iinc (j := 5) (v := (y5 + 1)) (ls' := [(5, .int (y5 + 1)), (0, .ref (zad g 24)), (1, .int y1), (2, .int y2), (3, .int y3), (4, .int y4)]) dX7_isWholeBy_45 rfl rfl (by decide) rfl ?_
      refine e_goto (tgt := 3) dX7_isWholeBy_48 (by decide) ?_
      refine e_ls [1, 2, 3, 4, 5, 0] rfl ?_
      exact H
    · replace H := H.2 h6
      refine e_aload_n dX7_isWholeBy_37 rfl 0 rfl ?_
      refine e_iload dX7_isWholeBy_38 5 rfl ?_
      refine e_iconst (v := 1) dX7_isWholeBy_40 (by decide) ?_
      refine e_iload_n dX7_isWholeBy_41 rfl 2 rfl ?_
      refine e_callVv (j1 := 0) (j2 := 0) (av := [.int y5, .int 1, .int y2]) rfl rfl (Nat.le_of_ble_eq_true rfl) rfl rfl H i_X7_sets rfl n_X7_sets v_X7_sets q_X7_203 (by decide) (by decide) (Nat.le_of_ble_eq_true rfl) dX7_isWholeBy_42 (fun τ7 H => ?_) (fun E τ H => H)
      refine e_iinc (j := 5) (v := (y5 + 1)) (ls' := [(5, .int (y5 + 1)), (0, .ref (zad g 24)), (1, .int y1), (2, .int y2), (3, .int y3), (4, .int y4)]) dX7_isWholeBy_45 rfl rfl (by decide) rfl ?_
      refine e_goto (tgt := 3) dX7_isWholeBy_48 (by decide) ?_
      refine e_ls [1, 2, 3, 4, 5, 0] rfl ?_
      exact H
set_option maxRecDepth 20000 in
set_option maxHeartbeats 2000000 in
theorem b_X7_isWholeBy_63 {g : zG} {l : Launch} {K : Int32 → zS → Prop} {X : String → zS → Prop} {y5 : Int32} {y6 : Int32} {σ : zS}
    (H : (((σ.1 26 (Int32.toNatClampNeg 1)) ≤ y6 → (zbl y5 ∧ K y5 σ)) ∧ (¬ (σ.1 26 (Int32.toNatClampNeg 1)) ≤ y6 → (vp_in y6 10 ∧ CT g l M_X7_sets 0 [.ref (zad g 24), .int y6, .int 1, .int (σ.1 31 (Int32.toNatClampNeg y6))] σ (zQv (fun τ2 => L_X7_isWholeBy_63 g l K X y5 (y6 + 1) τ2) (fun E τ => X E τ)))))) :
    L_X7_isWholeBy_63 g l K X y5 y6 σ := by
  refine e_iload dX7_isWholeBy_63 2 rfl ?_
  refine e_aload_n dX7_isWholeBy_65 rfl 0 rfl ?_
  refine fg_X7_20 rfl dX7_isWholeBy_66 ?_
  refine e_iconst (v := 1) dX7_isWholeBy_69 (by decide) ?_
  refine e_iald (n := 1110) rfl (Nat.le_of_ble_eq_true rfl) (vil (by decide)) dX7_isWholeBy_70 ?_
  refine e_icmp_ge (tgt := 94) dX7_isWholeBy_71 (by decide) (fun h1 => ?_) (fun h1 => ?_)
  · replace H := H.1 h1
    refine e_iload dX7_isWholeBy_94 1 rfl ?_
    exact e_zret rfl (zbl_n H.1) dX7_isWholeBy_96 H.2
  · replace H := H.2 h1
    refine e_aload_n dX7_isWholeBy_74 rfl 0 rfl ?_
    refine e_iload dX7_isWholeBy_75 2 rfl ?_
    refine e_iconst (v := 1) dX7_isWholeBy_77 (by decide) ?_
    refine e_aload_n dX7_isWholeBy_78 rfl 0 rfl ?_
    refine fg_X7_35 rfl dX7_isWholeBy_79 ?_
    refine e_iload dX7_isWholeBy_82 2 rfl ?_
    refine e_iald (n := 10) rfl (Nat.le_of_ble_eq_true rfl) H.1 dX7_isWholeBy_84 ?_
    replace H := H.2
    refine e_callVv (j1 := 0) (j2 := 0) (av := [.int y6, .int 1, .int (σ.1 31 (Int32.toNatClampNeg y6))]) rfl rfl (Nat.le_of_ble_eq_true rfl) rfl rfl H i_X7_sets rfl n_X7_sets v_X7_sets q_X7_203 (by decide) (by decide) (Nat.le_of_ble_eq_true rfl) dX7_isWholeBy_85 (fun τ2 H => ?_) (fun E τ H => H)
    refine e_iinc (j := 2) (v := (y6 + 1)) (ls' := [(6, .int (y6 + 1)), (0, .ref (zad g 24)), (5, .int y5)]) dX7_isWholeBy_88 rfl rfl (by decide) rfl ?_
    refine e_goto (tgt := 63) dX7_isWholeBy_91 (by decide) ?_
    refine e_ls [1, 2, 0] rfl ?_
    exact H
abbrev L_X7_turnsNeeded_37 (g : zG) (l : Launch) (K : Int32 → zS → Prop) (X : String → zS → Prop) (y1 : Int32) (y3 : Int32) (y4 : Int32) (y5 : Int32) (σ : zS) : Prop :=
  EV g l M_X7_turnsNeeded 0 (zQi K X) 37 [(0, .ref (zad g 24)), (1, .int y1), (3, .int y3), (4, .int y4), (5, .int y5)] [] σ
abbrev L_X7_turnsNeeded_55 (g : zG) (l : Launch) (K : Int32 → zS → Prop) (X : String → zS → Prop) (y1 : Int32) (y3 : Int32) (y4 : Int32) (y5 : Int32) (y6 : Int32) (y7 : Int32) (σ : zS) : Prop :=
  EV g l M_X7_turnsNeeded 0 (zQi K X) 55 [(0, .ref (zad g 24)), (1, .int y1), (3, .int y3), (4, .int y4), (5, .int y5), (6, .int y6), (7, .int y7)] [] σ
set_option maxRecDepth 20000 in
set_option maxHeartbeats 2000000 in
theorem b_X7_turnsNeeded {g : zG} {l : Launch} {K : Int32 → zS → Prop} {X : String → zS → Prop} {x1 : Int32} {x2 : Int32} {σ : zS}
    (H : CT g l M_X7_isAngle 0 [.int x1] σ (zQi (fun v1 τ1 => CT g l M_X7_goes 0 [.ref (zad g 24), .int v1] τ1 (zQi (fun v2 τ2 => ((¬ v2 = 0 → CT g l M_X7_truth 0 [.int x2] τ2 (zQi (fun v4 τ4 => CT g l M_X7_isWhole 0 [.ref (zad g 24), .int x1, .int v4] τ4 (zQi (fun v5 τ5 => ((v5 = 0 → L_X7_turnsNeeded_37 g l K X x1 v4 11 (-4) τ5) ∧ (¬ v5 = 0 → K 0 τ5))) (fun E τ => X E τ))) (fun E τ => X E τ))) ∧ (v2 = 0 → K 0 τ2))) (fun E τ => X E τ))) (fun E τ => X E τ))) :
    CT g l M_X7_turnsNeeded 0 [.ref (zad g 24), .int x1, .int x2] σ (zQi K X) := by
  refine CT_of rfl (by decide) (Nat.le_of_ble_eq_true rfl) ?_
  change EV _ _ _ _ _ 0 [(0, .ref (zad g 24)), (1, .int x1), (2, .int x2)] [] _
  refine e_aload_n dX7_turnsNeeded_0 rfl 0 rfl ?_
  refine e_iload_n dX7_turnsNeeded_1 rfl 1 rfl ?_
  refine e_callSi (j1 := 0) (j2 := 0) (av := [.int x1]) rfl H i_X7_isAngle rfl s_X7_isAngle q_X7_326 (by decide) (by decide) (Nat.le_of_ble_eq_true rfl) dX7_turnsNeeded_2 (fun v1 τ1 H => ?_) (fun E τ H => H)
  refine e_callVi (j1 := 0) (j2 := 0) (av := [.int v1]) rfl rfl (Nat.le_of_ble_eq_true rfl) rfl rfl H i_X7_goes rfl n_X7_goes v_X7_goes q_X7_78 (by decide) (by decide) (Nat.le_of_ble_eq_true rfl) dX7_turnsNeeded_5 (fun v2 τ2 H => ?_) (fun E τ H => H)
  refine e_if_ne (tgt := 13) dX7_turnsNeeded_8 (by decide) (fun h3 => ?_) (fun h3 => ?_)
  · replace H := H.1 h3
    refine e_iload_n dX7_turnsNeeded_13 rfl 2 rfl ?_
    refine e_callSi (j1 := 0) (j2 := 0) (av := [.int x2]) rfl H i_X7_truth rfl s_X7_truth q_X7_71 (by decide) (by decide) (Nat.le_of_ble_eq_true rfl) dX7_turnsNeeded_14 (fun v4 τ4 H => ?_) (fun E τ H => H)
    refine e_istore_n (ls' := [(3, .int v4), (0, .ref (zad g 24)), (1, .int x1), (2, .int x2)]) dX7_turnsNeeded_17 rfl (by decide) rfl ?_
    refine e_aload_n dX7_turnsNeeded_18 rfl 1 rfl ?_
    refine e_iload_n dX7_turnsNeeded_19 rfl 2 rfl ?_
    refine e_iload_n dX7_turnsNeeded_20 rfl 0 rfl ?_
    refine e_callVi (j1 := 0) (j2 := 0) (av := [.int x1, .int v4]) rfl rfl (Nat.le_of_ble_eq_true rfl) rfl rfl H i_X7_isWhole rfl n_X7_isWhole v_X7_isWhole q_X7_344 (by decide) (by decide) (Nat.le_of_ble_eq_true rfl) dX7_turnsNeeded_21 (fun v5 τ5 H => ?_) (fun E τ H => H)
    refine e_if_eq (tgt := 29) dX7_turnsNeeded_24 (by decide) (fun h6 => ?_) (fun h6 => ?_)
    · replace H := H.1 h6
      refine e_bipush (v := 11) dX7_turnsNeeded_29 (by decide) ?_
      refine e_istore (ls' := [(4, .int 11), (3, .int v4), (0, .ref (zad g 24)), (1, .int x1), (2, .int x2)]) dX7_turnsNeeded_31 (by decide) rfl ?_
      refine e_bipush (v := (-4)) dX7_turnsNeeded_33 (by decide) ?_
      refine e_istore (ls' := [(5, .int (-4)), (4, .int 11), (3, .int v4), (0, .ref (zad g 24)), (1, .int x1), (2, .int x2)]) dX7_turnsNeeded_35 (by decide) rfl ?_
      refine e_ls [3, 4, 2, 1, 0] rfl ?_
      exact H
    · replace H := H.2 h6
      refine e_iconst (v := 0) dX7_turnsNeeded_27 (by decide) ?_
      exact e_iret rfl dX7_turnsNeeded_28 H
  · replace H := H.2 h3
    refine e_iconst (v := 0) dX7_turnsNeeded_11 (by decide) ?_
    exact e_iret rfl dX7_turnsNeeded_12 H
set_option maxRecDepth 20000 in
set_option maxHeartbeats 2000000 in
theorem b_X7_turnsNeeded_37 {g : zG} {l : Launch} {K : Int32 → zS → Prop} {X : String → zS → Prop} {y1 : Int32} {y3 : Int32} {y4 : Int32} {y5 : Int32} {σ : zS}
    (H : ((4 < y5 → ((y4 ≤ 10 → K y4 σ) ∧ (¬ y4 ≤ 10 → K (-1) σ))) ∧ (¬ 4 < y5 → CT g l M_X7_othersThan 0 [.ref (zad g 24), .int y5] σ (zQi (fun v3 τ3 => L_X7_turnsNeeded_55 g l K X y1 y3 y4 y5 v3 v3 τ3) (fun E τ => X E τ))))) :
    L_X7_turnsNeeded_37 g l K X y1 y3 y4 y5 σ := by
  refine e_iload dX7_turnsNeeded_37 4 rfl ?_
  refine e_iconst (v := 4) dX7_turnsNeeded_39 (by decide) ?_
  refine e_icmp_gt (tgt := 108) dX7_turnsNeeded_40 (by decide) (fun h1 => ?_) (fun h1 => ?_)
  · replace H := H.1 h1
    refine e_iload dX7_turnsNeeded_108 3 rfl ?_
    refine e_bipush (v := 10) dX7_turnsNeeded_110 (by decide) ?_
    refine e_icmp_le (tgt := 119) dX7_turnsNeeded_112 (by decide) (fun h2 => ?_) (fun h2 => ?_)
    · replace H := H.1 h2
      refine e_iload dX7_turnsNeeded_119 3 rfl ?_
      exact e_iret rfl dX7_turnsNeeded_121 H
    · replace H := H.2 h2
      refine e_iconst (v := (-1)) dX7_turnsNeeded_115 (by decide) ?_
      refine e_goto (tgt := 121) dX7_turnsNeeded_116 (by decide) ?_
      exact e_iret rfl dX7_turnsNeeded_121 H
  · replace H := H.2 h1
    refine e_aload_n dX7_turnsNeeded_43 rfl 0 rfl ?_
    refine e_iload dX7_turnsNeeded_44 4 rfl ?_
    refine e_callVi (j1 := 0) (j2 := 0) (av := [.int y5]) rfl rfl (Nat.le_of_ble_eq_true rfl) rfl rfl H i_X7_othersThan rfl n_X7_othersThan v_X7_othersThan q_X7_377 (by decide) (by decide) (Nat.le_of_ble_eq_true rfl) dX7_turnsNeeded_46 (fun v3 τ3 H => ?_) (fun E τ H => H)
    refine e_istore (ls' := [(6, .int v3), (0, .ref (zad g 24)), (1, .int y1), (3, .int y3), (4, .int y4), (5, .int y5)]) dX7_turnsNeeded_49 (by decide) rfl ?_
    refine e_iload dX7_turnsNeeded_51 0 rfl ?_
    refine e_istore (ls' := [(7, .int v3), (6, .int v3), (0, .ref (zad g 24)), (1, .int y1), (3, .int y3), (4, .int y4), (5, .int y5)]) dX7_turnsNeeded_53 (by decide) rfl ?_
    refine e_ls [2, 3, 4, 5, 6, 1, 0] rfl ?_
    exact H
set_option maxRecDepth 20000 in
set_option maxHeartbeats 2000000 in
theorem b_X7_turnsNeeded_55 {g : zG} {l : Launch} {K : Int32 → zS → Prop} {X : String → zS → Prop} {y1 : Int32} {y3 : Int32} {y4 : Int32} {y5 : Int32} {y6 : Int32} {y7 : Int32} {σ : zS}
    (H : ((y7 ≤ 0 → L_X7_turnsNeeded_37 g l K X y1 y3 y4 (y5 + 1) σ) ∧ (¬ y7 ≤ 0 → CT g l M_X7_bits 0 [.int y7] σ (zQi (fun v2 τ2 => ((y4 ≤ v2 → L_X7_turnsNeeded_55 g l K X y1 y3 y4 y5 y6 ((y7 - 1) &&& y6) τ2) ∧ (¬ y4 ≤ v2 → CT g l M_X7_isWholeBy 0 [.ref (zad g 24), .int y7, .int y5, .int y1, .int y3] τ2 (zQi (fun v4 τ4 => ((v4 = 0 → L_X7_turnsNeeded_55 g l K X y1 y3 y4 y5 y6 ((y7 - 1) &&& y6) τ4) ∧ (¬ v4 = 0 → CT g l M_X7_bits 0 [.int y7] τ4 (zQi (fun v6 τ6 => L_X7_turnsNeeded_55 g l K X y1 y3 v6 y5 y6 ((y7 - 1) &&& y6) τ6) (fun E τ => X E τ))))) (fun E τ => X E τ))))) (fun E τ => X E τ))))) :
    L_X7_turnsNeeded_55 g l K X y1 y3 y4 y5 y6 y7 σ := by
  refine e_iload dX7_turnsNeeded_55 6 rfl ?_
  refine e_if_le (tgt := 102) dX7_turnsNeeded_57 (by decide) (fun h1 => ?_) (fun h1 => ?_)
  · replace H := H.1 h1
    refine e_iinc (j := 4) (v := (y5 + 1)) (ls' := [(5, .int (y5 + 1)), (0, .ref (zad g 24)), (1, .int y1), (3, .int y3), (4, .int y4), (6, .int y6), (7, .int y7)]) dX7_turnsNeeded_102 rfl rfl (by decide) rfl ?_
    refine e_goto (tgt := 37) dX7_turnsNeeded_105 (by decide) ?_
    refine e_ls [1, 2, 3, 4, 0] rfl ?_
    exact H
  · replace H := H.2 h1
    refine e_iload dX7_turnsNeeded_60 6 rfl ?_
    refine e_callSi (j1 := 0) (j2 := 0) (av := [.int y7]) rfl H i_X7_bits rfl s_X7_bits q_X7_380 (by decide) (by decide) (Nat.le_of_ble_eq_true rfl) dX7_turnsNeeded_62 (fun v2 τ2 H => ?_) (fun E τ H => H)
    refine e_iload dX7_turnsNeeded_65 3 rfl ?_
    refine e_icmp_ge (tgt := 90) dX7_turnsNeeded_67 (by decide) (fun h3 => ?_) (fun h3 => ?_)
    · replace H := H.1 h3
      refine e_iload dX7_turnsNeeded_90 6 rfl ?_
      refine e_iconst (v := 1) dX7_turnsNeeded_92 (by decide) ?_
      refine e_isub dX7_turnsNeeded_93 ?_
      refine e_iload dX7_turnsNeeded_94 5 rfl ?_
      refine e_iand dX7_turnsNeeded_96 ?_
      refine e_istore (ls' := [(7, .int ((y7 - 1) &&& y6)), (0, .ref (zad g 24)), (1, .int y1), (3, .int y3), (4, .int y4), (5, .int y5), (6, .int y6)]) dX7_turnsNeeded_97 (by decide) rfl ?_
      refine e_goto (tgt := 55) dX7_turnsNeeded_99 (by decide) ?_
      refine e_ls [1, 2, 3, 4, 5, 6, 0] rfl ?_
      exact H
    · replace H := H.2 h3
      refine e_aload_n dX7_turnsNeeded_70 rfl 0 rfl ?_
      refine e_iload dX7_turnsNeeded_71 6 rfl ?_
      refine e_iload dX7_turnsNeeded_73 4 rfl ?_
      refine e_iload_n dX7_turnsNeeded_75 rfl 1 rfl ?_
      refine e_iload_n dX7_turnsNeeded_76 rfl 2 rfl ?_
      refine e_callVi (j1 := 0) (j2 := 0) (av := [.int y7, .int y5, .int y1, .int y3]) rfl rfl (Nat.le_of_ble_eq_true rfl) rfl rfl H i_X7_isWholeBy rfl n_X7_isWholeBy v_X7_isWholeBy q_X7_383 (by decide) (by decide) (Nat.le_of_ble_eq_true rfl) dX7_turnsNeeded_77 (fun v4 τ4 H => ?_) (fun E τ H => H)
      refine e_if_eq (tgt := 90) dX7_turnsNeeded_80 (by decide) (fun h5 => ?_) (fun h5 => ?_)
      · replace H := H.1 h5
        refine e_iload dX7_turnsNeeded_90 6 rfl ?_
        refine e_iconst (v := 1) dX7_turnsNeeded_92 (by decide) ?_
        refine e_isub dX7_turnsNeeded_93 ?_
        refine e_iload dX7_turnsNeeded_94 5 rfl ?_
        refine e_iand dX7_turnsNeeded_96 ?_
        refine e_istore (ls' := [(7, .int ((y7 - 1) &&& y6)), (0, .ref (zad g 24)), (1, .int y1), (3, .int y3), (4, .int y4), (5, .int y5), (6, .int y6)]) dX7_turnsNeeded_97 (by decide) rfl ?_
        refine e_goto (tgt := 55) dX7_turnsNeeded_99 (by decide) ?_
        refine e_ls [1, 2, 3, 4, 5, 6, 0] rfl ?_
        exact H
      · replace H := H.2 h5
        refine e_iload dX7_turnsNeeded_83 6 rfl ?_
        refine e_callSi (j1 := 0) (j2 := 0) (av := [.int y7]) rfl H i_X7_bits rfl s_X7_bits q_X7_380 (by decide) (by decide) (Nat.le_of_ble_eq_true rfl) dX7_turnsNeeded_85 (fun v6 τ6 H => ?_) (fun E τ H => H)
        refine e_istore (ls' := [(4, .int v6), (0, .ref (zad g 24)), (1, .int y1), (3, .int y3), (5, .int y5), (6, .int y6), (7, .int y7)]) dX7_turnsNeeded_88 (by decide) rfl ?_
        refine e_iload dX7_turnsNeeded_90 6 rfl ?_
        refine e_iconst (v := 1) dX7_turnsNeeded_92 (by decide) ?_
        refine e_isub dX7_turnsNeeded_93 ?_
        refine e_iload dX7_turnsNeeded_94 5 rfl ?_
        refine e_iand dX7_turnsNeeded_96 ?_
        refine e_istore (ls' := [(7, .int ((y7 - 1) &&& y6)), (4, .int v6), (0, .ref (zad g 24)), (1, .int y1), (3, .int y3), (5, .int y5), (6, .int y6)]) dX7_turnsNeeded_97 (by decide) rfl ?_
        refine e_goto (tgt := 55) dX7_turnsNeeded_99 (by decide) ?_
        refine e_ls [2, 3, 4, 1, 5, 6, 0] rfl ?_
        exact H
abbrev L_X7_rightAll_6 (g : zG) (l : Launch) (K : Int32 → zS → Prop) (X : String → zS → Prop) (y1 : Int32) (y2 : Int32) (y3 : Int32) (σ : zS) : Prop :=
  EV g l M_X7_rightAll 0 (zQi K X) 6 [(0, .ref (zad g 24)), (1, .int y1), (2, .int y2), (3, .int y3)] [] σ
set_option maxRecDepth 20000 in
set_option maxHeartbeats 2000000 in
theorem b_X7_rightAll {g : zG} {l : Launch} {K : Int32 → zS → Prop} {X : String → zS → Prop} {x1 : Int32} {x2 : Int32} {σ : zS}
    (H : CT g l M_X7_leaves 0 [.ref (zad g 24)] σ (zQv (fun τ1 => L_X7_rightAll_6 g l K X x1 x2 0 τ1) (fun E τ => X E τ))) :
    CT g l M_X7_rightAll 0 [.ref (zad g 24), .int x1, .int x2] σ (zQi K X) := by
  refine CT_of rfl (by decide) (Nat.le_of_ble_eq_true rfl) ?_
  change EV _ _ _ _ _ 0 [(0, .ref (zad g 24)), (1, .int x1), (2, .int x2)] [] _
  refine e_aload_n dX7_rightAll_0 rfl 0 rfl ?_
  refine e_callVv (j1 := 0) (j2 := 0) (av := []) rfl rfl (Nat.le_of_ble_eq_true rfl) rfl rfl H i_X7_leaves rfl n_X7_leaves v_X7_leaves q_X7_362 (by decide) (by decide) (Nat.le_of_ble_eq_true rfl) dX7_rightAll_1 (fun τ1 H => ?_) (fun E τ H => H)
  refine e_iconst (v := 0) dX7_rightAll_4 (by decide) ?_
  refine e_istore_n (ls' := [(3, .int 0), (0, .ref (zad g 24)), (1, .int x1), (2, .int x2)]) dX7_rightAll_5 rfl (by decide) rfl ?_
  refine e_ls [1, 2, 3, 0] rfl ?_
  exact H
set_option maxRecDepth 20000 in
set_option maxHeartbeats 2000000 in
theorem b_X7_rightAll_6 {g : zG} {l : Launch} {K : Int32 → zS → Prop} {X : String → zS → Prop} {y1 : Int32} {y2 : Int32} {y3 : Int32} {σ : zS}
    (H : (((σ.1 26 (Int32.toNatClampNeg 1)) ≤ y3 → CT g l M_X7_rightMany 0 [.ref (zad g 24), .int y2, .int 0] σ (zQi (fun v2 τ2 => CT g l M_X7_rightMany 0 [.ref (zad g 24), .int (-y2), .int 1] τ2 (zQi (fun v3 τ3 => CT g l M_X7_comesBack 0 [.ref (zad g 24), .int (v2 + v3)] τ3 (zQi (fun v4 τ4 => K v4 τ4) (fun E τ => X E τ))) (fun E τ => X E τ))) (fun E τ => X E τ))) ∧ (¬ (σ.1 26 (Int32.toNatClampNeg 1)) ≤ y3 → CT g l M_X7_sets 0 [.ref (zad g 24), .int y3, .int 1, .int y1] σ (zQv (fun τ5 => L_X7_rightAll_6 g l K X y1 y2 (y3 + 1) τ5) (fun E τ => X E τ))))) :
    L_X7_rightAll_6 g l K X y1 y2 y3 σ := by
  refine e_iload_n dX7_rightAll_6 rfl 3 rfl ?_
  refine e_aload_n dX7_rightAll_7 rfl 0 rfl ?_
  refine fg_X7_20 rfl dX7_rightAll_8 ?_
  refine e_iconst (v := 1) dX7_rightAll_11 (by decide) ?_
  refine e_iald (n := 1110) rfl (Nat.le_of_ble_eq_true rfl) (vil (by decide)) dX7_rightAll_12 ?_
  refine e_icmp_ge (tgt := 29) dX7_rightAll_13 (by decide) (fun h1 => ?_) (fun h1 => ?_)
  · replace H := H.1 h1
    refine e_aload_n dX7_rightAll_29 rfl 0 rfl ?_
    refine e_aload_n dX7_rightAll_30 rfl 0 rfl ?_
    refine e_iload_n dX7_rightAll_31 rfl 2 rfl ?_
    refine e_iconst (v := 0) dX7_rightAll_32 (by decide) ?_
    refine e_callVi (j1 := 0) (j2 := 0) (av := [.int y2, .int 0]) rfl rfl (Nat.le_of_ble_eq_true rfl) rfl rfl H i_X7_rightMany rfl n_X7_rightMany v_X7_rightMany q_X7_335 (by decide) (by decide) (Nat.le_of_ble_eq_true rfl) dX7_rightAll_33 (fun v2 τ2 H => ?_) (fun E τ H => H)
    refine e_aload_n dX7_rightAll_36 rfl 0 rfl ?_
    refine e_iload_n dX7_rightAll_37 rfl 2 rfl ?_
    refine e_ineg dX7_rightAll_38 ?_
    refine e_iconst (v := 1) dX7_rightAll_39 (by decide) ?_
    refine e_callVi (j1 := 0) (j2 := 0) (av := [.int (-y2), .int 1]) rfl rfl (Nat.le_of_ble_eq_true rfl) rfl rfl H i_X7_rightMany rfl n_X7_rightMany v_X7_rightMany q_X7_335 (by decide) (by decide) (Nat.le_of_ble_eq_true rfl) dX7_rightAll_40 (fun v3 τ3 H => ?_) (fun E τ H => H)
    refine e_iadd dX7_rightAll_43 ?_
    refine e_callVi (j1 := 0) (j2 := 0) (av := [.int (v2 + v3)]) rfl rfl (Nat.le_of_ble_eq_true rfl) rfl rfl H i_X7_comesBack rfl n_X7_comesBack v_X7_comesBack q_X7_365 (by decide) (by decide) (Nat.le_of_ble_eq_true rfl) dX7_rightAll_44 (fun v4 τ4 H => ?_) (fun E τ H => H)
    exact e_iret rfl dX7_rightAll_47 H
  · replace H := H.2 h1
    refine e_aload_n dX7_rightAll_16 rfl 0 rfl ?_
    refine e_iload_n dX7_rightAll_17 rfl 3 rfl ?_
    refine e_iconst (v := 1) dX7_rightAll_18 (by decide) ?_
    refine e_iload_n dX7_rightAll_19 rfl 1 rfl ?_
    refine e_callVv (j1 := 0) (j2 := 0) (av := [.int y3, .int 1, .int y1]) rfl rfl (Nat.le_of_ble_eq_true rfl) rfl rfl H i_X7_sets rfl n_X7_sets v_X7_sets q_X7_203 (by decide) (by decide) (Nat.le_of_ble_eq_true rfl) dX7_rightAll_20 (fun τ5 H => ?_) (fun E τ H => H)
    refine e_iinc (j := 3) (v := (y3 + 1)) (ls' := [(3, .int (y3 + 1)), (0, .ref (zad g 24)), (1, .int y1), (2, .int y2)]) dX7_rightAll_23 rfl rfl (by decide) rfl ?_
    refine e_goto (tgt := 6) dX7_rightAll_26 (by decide) ?_
    refine e_ls [1, 2, 3, 0] rfl ?_
    exact H
abbrev L_X7_fairest_21 (g : zG) (l : Launch) (K : Int32 → zS → Prop) (X : String → zS → Prop) (y1 : Int32) (y2 : Int32) (y3 : Int32) (y4 : Int32) (σ : zS) : Prop :=
  EV g l M_X7_fairest 0 (zQi K X) 21 [(0, .ref (zad g 24)), (1, .int y1), (2, .int y2), (3, .int y3), (4, .int y4)] [] σ
set_option maxRecDepth 20000 in
set_option maxHeartbeats 2000000 in
theorem b_X7_fairest {g : zG} {l : Launch} {K : Int32 → zS → Prop} {X : String → zS → Prop} {x1 : Int32} {σ : zS}
    (H : CT g l M_X7_isAngle 0 [.int x1] σ (zQi (fun v1 τ1 => CT g l M_X7_goes 0 [.ref (zad g 24), .int v1] τ1 (zQi (fun v2 τ2 => ((¬ v2 = 0 → L_X7_fairest_21 g l K X x1 0 (-1) (-4) τ2) ∧ (v2 = 0 → K 0 τ2))) (fun E τ => X E τ))) (fun E τ => X E τ))) :
    CT g l M_X7_fairest 0 [.ref (zad g 24), .int x1] σ (zQi K X) := by
  refine CT_of rfl (by decide) (Nat.le_of_ble_eq_true rfl) ?_
  change EV _ _ _ _ _ 0 [(0, .ref (zad g 24)), (1, .int x1)] [] _
  refine e_aload_n dX7_fairest_0 rfl 0 rfl ?_
  refine e_iload_n dX7_fairest_1 rfl 1 rfl ?_
  refine e_callSi (j1 := 0) (j2 := 0) (av := [.int x1]) rfl H i_X7_isAngle rfl s_X7_isAngle q_X7_326 (by decide) (by decide) (Nat.le_of_ble_eq_true rfl) dX7_fairest_2 (fun v1 τ1 H => ?_) (fun E τ H => H)
  refine e_callVi (j1 := 0) (j2 := 0) (av := [.int v1]) rfl rfl (Nat.le_of_ble_eq_true rfl) rfl rfl H i_X7_goes rfl n_X7_goes v_X7_goes q_X7_78 (by decide) (by decide) (Nat.le_of_ble_eq_true rfl) dX7_fairest_5 (fun v2 τ2 H => ?_) (fun E τ H => H)
  refine e_if_ne (tgt := 13) dX7_fairest_8 (by decide) (fun h3 => ?_) (fun h3 => ?_)
  · replace H := H.1 h3
    refine e_iconst (v := 0) dX7_fairest_13 (by decide) ?_
    refine e_istore_n (ls' := [(2, .int 0), (0, .ref (zad g 24)), (1, .int x1)]) dX7_fairest_14 rfl (by decide) rfl ?_
    refine e_iconst (v := (-1)) dX7_fairest_15 (by decide) ?_
    refine e_istore_n (ls' := [(3, .int (-1)), (2, .int 0), (0, .ref (zad g 24)), (1, .int x1)]) dX7_fairest_16 rfl (by decide) rfl ?_
    refine e_bipush (v := (-4)) dX7_fairest_17 (by decide) ?_
    refine e_istore (ls' := [(4, .int (-4)), (3, .int (-1)), (2, .int 0), (0, .ref (zad g 24)), (1, .int x1)]) dX7_fairest_19 (by decide) rfl ?_
    refine e_ls [3, 4, 2, 1, 0] rfl ?_
    exact H
  · replace H := H.2 h3
    refine e_iconst (v := 0) dX7_fairest_11 (by decide) ?_
    exact e_iret rfl dX7_fairest_12 H
set_option maxRecDepth 20000 in
set_option maxHeartbeats 2000000 in
theorem b_X7_fairest_21 {g : zG} {l : Launch} {K : Int32 → zS → Prop} {X : String → zS → Prop} {y1 : Int32} {y2 : Int32} {y3 : Int32} {y4 : Int32} {σ : zS}
    (H : ((4 < y4 → K y2 σ) ∧ (¬ 4 < y4 → CT g l M_X7_rightAll 0 [.ref (zad g 24), .int y4, .int y1] σ (zQi (fun v2 τ2 => ((y3 < v2 → L_X7_fairest_21 g l K X y1 y4 v2 (y4 + 1) τ2) ∧ (¬ y3 < v2 → L_X7_fairest_21 g l K X y1 y2 y3 (y4 + 1) τ2))) (fun E τ => X E τ))))) :
    L_X7_fairest_21 g l K X y1 y2 y3 y4 σ := by
  refine e_iload dX7_fairest_21 4 rfl ?_
  refine e_iconst (v := 4) dX7_fairest_23 (by decide) ?_
  refine e_icmp_gt (tgt := 57) dX7_fairest_24 (by decide) (fun h1 => ?_) (fun h1 => ?_)
  · replace H := H.1 h1
    refine e_iload_n dX7_fairest_57 rfl 2 rfl ?_
    exact e_iret rfl dX7_fairest_58 H
  · replace H := H.2 h1
    refine e_aload_n dX7_fairest_27 rfl 0 rfl ?_
    refine e_iload dX7_fairest_28 4 rfl ?_
    refine e_iload_n dX7_fairest_30 rfl 1 rfl ?_
    refine e_callVi (j1 := 0) (j2 := 0) (av := [.int y4, .int y1]) rfl rfl (Nat.le_of_ble_eq_true rfl) rfl rfl H i_X7_rightAll rfl n_X7_rightAll v_X7_rightAll q_X7_386 (by decide) (by decide) (Nat.le_of_ble_eq_true rfl) dX7_fairest_31 (fun v2 τ2 H => ?_) (fun E τ H => H)
    refine e_istore (ls' := [(5, .int v2), (0, .ref (zad g 24)), (1, .int y1), (2, .int y2), (3, .int y3), (4, .int y4)]) dX7_fairest_34 (by decide) rfl ?_
    refine e_iload dX7_fairest_36 0 rfl ?_
    refine e_iload_n dX7_fairest_38 rfl 4 rfl ?_
    refine e_icmp_gt (tgt := 45) dX7_fairest_39 (by decide) (fun h3 => ?_) (fun h3 => ?_)
    · replace H := H.1 h3
      refine e_iload dX7_fairest_45 0 rfl ?_
      refine e_istore_n (ls' := [(3, .int v2), (5, .int v2), (0, .ref (zad g 24)), (1, .int y1), (2, .int y2), (4, .int y4)]) dX7_fairest_47 rfl (by decide) rfl ?_
      refine e_iload dX7_fairest_48 5 rfl ?_
      refine e_istore_n (ls' := [(2, .int y4), (3, .int v2), (5, .int v2), (0, .ref (zad g 24)), (1, .int y1), (4, .int y4)]) dX7_fairest_50 rfl (by decide) rfl ?_
      refine e_iinc (j := 5) (v := (y4 + 1)) (ls' := [(4, .int (y4 + 1)), (2, .int y4), (3, .int v2), (5, .int v2), (0, .ref (zad g 24)), (1, .int y1)]) dX7_fairest_51 rfl rfl (by decide) rfl ?_
      refine e_goto (tgt := 21) dX7_fairest_54 (by decide) ?_
      refine e_ls [4, 5, 1, 2, 0] rfl ?_
      exact H
    · replace H := H.2 h3
      refine e_goto (tgt := 51) dX7_fairest_42 (by decide) ?_
      refine e_iinc (j := 5) (v := (y4 + 1)) (ls' := [(4, .int (y4 + 1)), (5, .int v2), (0, .ref (zad g 24)), (1, .int y1), (2, .int y2), (3, .int y3)]) dX7_fairest_51 rfl rfl (by decide) rfl ?_
      refine e_goto (tgt := 21) dX7_fairest_54 (by decide) ?_
      refine e_ls [2, 3, 4, 5, 0] rfl ?_
      exact H
set_option maxRecDepth 20000 in
set_option maxHeartbeats 2000000 in
theorem b_X7_goesAll {g : zG} {l : Launch} {K : Int32 → zS → Prop} {X : String → zS → Prop} {x1 : Int32} {x2 : Int32} {x3 : Int32} {σ : zS}
    (H : CT g l M_X7_goesBoth 0 [.ref (zad g 24), .int x1, .int x2] σ (zQi (fun v1 τ1 => ((v1 = 0 → ((¬ (τ1.1 24 0) = 0 → K 0 τ1) ∧ ((τ1.1 24 0) = 0 → K 1 τ1))) ∧ (¬ v1 = 0 → ((¬ x3 = 0 → ((¬ (τ1.1 24 0) = 0 → K 0 τ1) ∧ ((τ1.1 24 0) = 0 → K 1 τ1))) ∧ (x3 = 0 → (∀ σ6 : zS, σ6 = zup τ1 24 0 3 → ((¬ (σ6.1 24 0) = 0 → K 0 σ6) ∧ ((σ6.1 24 0) = 0 → K 1 σ6)))))))) (fun E τ => X E τ))) :
    CT g l M_X7_goesAll 0 [.ref (zad g 24), .int x1, .int x2, .int x3] σ (zQi K X) := by
  refine CT_of rfl (by decide) (Nat.le_of_ble_eq_true rfl) ?_
  change EV _ _ _ _ _ 0 [(0, .ref (zad g 24)), (1, .int x1), (2, .int x2), (3, .int x3)] [] _
  refine e_aload_n dX7_goesAll_0 rfl 0 rfl ?_
  refine e_iload_n dX7_goesAll_1 rfl 1 rfl ?_
  refine e_iload_n dX7_goesAll_2 rfl 2 rfl ?_
  refine e_callVi (j1 := 0) (j2 := 0) (av := [.int x1, .int x2]) rfl rfl (Nat.le_of_ble_eq_true rfl) rfl rfl H i_X7_goesBoth rfl n_X7_goesBoth v_X7_goesBoth q_X7_313 (by decide) (by decide) (Nat.le_of_ble_eq_true rfl) dX7_goesAll_3 (fun v1 τ1 H => ?_) (fun E τ H => H)
  refine e_if_eq (tgt := 18) dX7_goesAll_6 (by decide) (fun h2 => ?_) (fun h2 => ?_)
  · replace H := H.1 h2
    refine e_aload_n dX7_goesAll_18 rfl 0 rfl ?_
    refine fg_X7_68 rfl dX7_goesAll_19 ?_
    refine e_if_ne (tgt := 29) dX7_goesAll_22 (by decide) (fun h3 => ?_) (fun h3 => ?_)
    · replace H := H.1 h3
      refine e_iconst (v := 0) dX7_goesAll_29 (by decide) ?_
      exact e_zret rfl rfl dX7_goesAll_30 H
    · replace H := H.2 h3
      refine e_iconst (v := 1) dX7_goesAll_25 (by decide) ?_
      refine e_goto (tgt := 30) dX7_goesAll_26 (by decide) ?_
      exact e_zret rfl rfl dX7_goesAll_30 H
  · replace H := H.2 h2
    refine e_iload_n dX7_goesAll_9 rfl 3 rfl ?_
    refine e_if_ne (tgt := 18) dX7_goesAll_10 (by decide) (fun h4 => ?_) (fun h4 => ?_)
    · replace H := H.1 h4
      refine e_aload_n dX7_goesAll_18 rfl 0 rfl ?_
      refine fg_X7_68 rfl dX7_goesAll_19 ?_
      refine e_if_ne (tgt := 29) dX7_goesAll_22 (by decide) (fun h5 => ?_) (fun h5 => ?_)
      · replace H := H.1 h5
        refine e_iconst (v := 0) dX7_goesAll_29 (by decide) ?_
        exact e_zret rfl rfl dX7_goesAll_30 H
      · replace H := H.2 h5
        refine e_iconst (v := 1) dX7_goesAll_25 (by decide) ?_
        refine e_goto (tgt := 30) dX7_goesAll_26 (by decide) ?_
        exact e_zret rfl rfl dX7_goesAll_30 H
    · replace H := H.2 h4
      refine e_aload_n dX7_goesAll_13 rfl 0 rfl ?_
      refine e_iconst (v := 3) dX7_goesAll_14 (by decide) ?_
      refine fp_X7_68 rfl dX7_goesAll_15 ?_
      replace H := H _ rfl
      generalize zup τ1 24 0 3 = σ6 at H ⊢
      refine e_aload_n dX7_goesAll_18 rfl 0 rfl ?_
      refine fg_X7_68 rfl dX7_goesAll_19 ?_
      refine e_if_ne (tgt := 29) dX7_goesAll_22 (by decide) (fun h7 => ?_) (fun h7 => ?_)
      · replace H := H.1 h7
        refine e_iconst (v := 0) dX7_goesAll_29 (by decide) ?_
        exact e_zret rfl rfl dX7_goesAll_30 H
      · replace H := H.2 h7
        refine e_iconst (v := 1) dX7_goesAll_25 (by decide) ?_
        refine e_goto (tgt := 30) dX7_goesAll_26 (by decide) ?_
        exact e_zret rfl rfl dX7_goesAll_30 H
set_option maxRecDepth 20000 in
set_option maxHeartbeats 2000000 in
theorem b_X7_isPull {g : zG} {l : Launch} {K : Int32 → zS → Prop} {X : String → zS → Prop} {x0 : Int32} {σ : zS}
    (H : ((x0 = 0 → K 0 σ) ∧ (¬ x0 = 0 → CT g l M_X7_isIn 0 [.long (Int32.toInt64 x0), .long (-8 : Int64), .long (8 : Int64)] σ (zQi (fun v2 τ2 => ((v2 = 0 → K 0 τ2) ∧ (¬ v2 = 0 → K 1 τ2))) (fun E τ => X E τ))))) :
    CT g l M_X7_isPull 0 [.int x0] σ (zQi K X) := by
  refine CT_of rfl (by decide) (Nat.le_of_ble_eq_true rfl) ?_
  change EV _ _ _ _ _ 0 [(0, .int x0)] [] _
  refine e_iload_n dX7_isPull_0 rfl 0 rfl ?_
  refine e_if_eq (tgt := 22) dX7_isPull_1 (by decide) (fun h1 => ?_) (fun h1 => ?_)
  · replace H := H.1 h1
    refine e_iconst (v := 0) dX7_isPull_22 (by decide) ?_
    exact e_zret rfl rfl dX7_isPull_23 H
  · replace H := H.2 h1
    refine e_iload_n dX7_isPull_4 rfl 0 rfl ?_
    refine e_i2l (v := Int32.toInt64 x0) dX7_isPull_5 rfl ?_
    refine e_ldc2 k_X7_389 dX7_isPull_6 ?_
    refine e_ldc2 k_X7_391 dX7_isPull_9 ?_
    refine e_callSi (j1 := 0) (j2 := 0) (av := [.long (Int32.toInt64 x0), .long (-8 : Int64), .long (8 : Int64)]) rfl H i_X7_isIn rfl s_X7_isIn q_X7_85 (by decide) (by decide) (Nat.le_of_ble_eq_true rfl) dX7_isPull_12 (fun v2 τ2 H => ?_) (fun E τ H => H)
    refine e_if_eq (tgt := 22) dX7_isPull_15 (by decide) (fun h3 => ?_) (fun h3 => ?_)
    · replace H := H.1 h3
      refine e_iconst (v := 0) dX7_isPull_22 (by decide) ?_
      exact e_zret rfl rfl dX7_isPull_23 H
    · replace H := H.2 h3
      refine e_iconst (v := 1) dX7_isPull_18 (by decide) ?_
      refine e_goto (tgt := 23) dX7_isPull_19 (by decide) ?_
      exact e_zret rfl rfl dX7_isPull_23 H
set_option maxRecDepth 20000 in
set_option maxHeartbeats 2000000 in
theorem b_X7_pull {g : zG} {l : Launch} {K : Int32 → zS → Prop} {X : String → zS → Prop} {x1 : Int32} {σ : zS}
    (H : CT g l M_X7_isPull 0 [.int x1] σ (zQi (fun v1 τ1 => CT g l M_X7_goes 0 [.ref (zad g 24), .int v1] τ1 (zQi (fun v2 τ2 => ((¬ v2 = 0 → CT g l M_X7_laysAside 0 [.ref (zad g 24)] τ2 (zQv (fun τ4 => CT g l M_X7_pulls 0 [.ref (zad g 24), .int x1] τ4 (zQi (fun v5 τ5 => CT g l M_X7_kept 0 [.ref (zad g 24), .int v5] τ5 (zQi (fun v6 τ6 => K v6 τ6) (fun E τ => X E τ))) (fun E τ => X E τ))) (fun E τ => X E τ))) ∧ (v2 = 0 → K 0 τ2))) (fun E τ => X E τ))) (fun E τ => X E τ))) :
    CT g l M_X7_pull 0 [.ref (zad g 24), .int x1] σ (zQi K X) := by
  refine CT_of rfl (by decide) (Nat.le_of_ble_eq_true rfl) ?_
  change EV _ _ _ _ _ 0 [(0, .ref (zad g 24)), (1, .int x1)] [] _
  refine e_aload_n dX7_pull_0 rfl 0 rfl ?_
  refine e_iload_n dX7_pull_1 rfl 1 rfl ?_
  refine e_callSi (j1 := 0) (j2 := 0) (av := [.int x1]) rfl H i_X7_isPull rfl s_X7_isPull q_X7_393 (by decide) (by decide) (Nat.le_of_ble_eq_true rfl) dX7_pull_2 (fun v1 τ1 H => ?_) (fun E τ H => H)
  refine e_callVi (j1 := 0) (j2 := 0) (av := [.int v1]) rfl rfl (Nat.le_of_ble_eq_true rfl) rfl rfl H i_X7_goes rfl n_X7_goes v_X7_goes q_X7_78 (by decide) (by decide) (Nat.le_of_ble_eq_true rfl) dX7_pull_5 (fun v2 τ2 H => ?_) (fun E τ H => H)
  refine e_if_ne (tgt := 13) dX7_pull_8 (by decide) (fun h3 => ?_) (fun h3 => ?_)
  · replace H := H.1 h3
    refine e_aload_n dX7_pull_13 rfl 0 rfl ?_
    refine e_callVv (j1 := 0) (j2 := 0) (av := []) rfl rfl (Nat.le_of_ble_eq_true rfl) rfl rfl H i_X7_laysAside rfl n_X7_laysAside v_X7_laysAside q_X7_240 (by decide) (by decide) (Nat.le_of_ble_eq_true rfl) dX7_pull_14 (fun τ4 H => ?_) (fun E τ H => H)
    refine e_aload_n dX7_pull_17 rfl 0 rfl ?_
    refine e_aload_n dX7_pull_18 rfl 0 rfl ?_
    refine e_iload_n dX7_pull_19 rfl 1 rfl ?_
    refine e_callVi (j1 := 0) (j2 := 0) (av := [.int x1]) rfl rfl (Nat.le_of_ble_eq_true rfl) rfl rfl H i_X7_pulls rfl n_X7_pulls v_X7_pulls q_X7_371 (by decide) (by decide) (Nat.le_of_ble_eq_true rfl) dX7_pull_20 (fun v5 τ5 H => ?_) (fun E τ H => H)
    refine e_callVi (j1 := 0) (j2 := 0) (av := [.int v5]) rfl rfl (Nat.le_of_ble_eq_true rfl) rfl rfl H i_X7_kept rfl n_X7_kept v_X7_kept q_X7_396 (by decide) (by decide) (Nat.le_of_ble_eq_true rfl) dX7_pull_23 (fun v6 τ6 H => ?_) (fun E τ H => H)
    exact e_iret rfl dX7_pull_26 H
  · replace H := H.2 h3
    refine e_iconst (v := 0) dX7_pull_11 (by decide) ?_
    exact e_iret rfl dX7_pull_12 H
set_option maxRecDepth 20000 in
set_option maxHeartbeats 2000000 in
theorem b_X7_isTurn {g : zG} {l : Launch} {K : Int32 → zS → Prop} {X : String → zS → Prop} {x0 : Int32} {σ : zS}
    (H : CT g l M_X7_isIn 0 [.long (Int32.toInt64 x0), .long (-4 : Int64), .long (4 : Int64)] σ (zQi (fun v1 τ1 => (zbl v1 ∧ K v1 τ1)) (fun E τ => X E τ))) :
    CT g l M_X7_isTurn 0 [.int x0] σ (zQi K X) := by
  refine CT_of rfl (by decide) (Nat.le_of_ble_eq_true rfl) ?_
  change EV _ _ _ _ _ 0 [(0, .int x0)] [] _
  refine e_iload_n dX7_isTurn_0 rfl 0 rfl ?_
  refine e_i2l (v := Int32.toInt64 x0) dX7_isTurn_1 rfl ?_
  refine e_ldc2 k_X7_399 dX7_isTurn_2 ?_
  refine e_ldc2 k_X7_401 dX7_isTurn_5 ?_
  refine e_callSi (j1 := 0) (j2 := 0) (av := [.long (Int32.toInt64 x0), .long (-4 : Int64), .long (4 : Int64)]) rfl H i_X7_isIn rfl s_X7_isIn q_X7_85 (by decide) (by decide) (Nat.le_of_ble_eq_true rfl) dX7_isTurn_8 (fun v1 τ1 H => ?_) (fun E τ H => H)
  exact e_zret rfl (zbl_n H.1) dX7_isTurn_11 H.2
set_option maxRecDepth 20000 in
set_option maxHeartbeats 2000000 in
theorem b_X7_isFree {g : zG} {l : Launch} {K : Int32 → zS → Prop} {X : String → zS → Prop} {x1 : Int32} {σ : zS}
    (H : CT g l M_X7_of 0 [.ref (zad g 24), .int x1, .int 2] σ (zQi (fun v1 τ1 => ((¬ v1 = 0 → K 0 τ1) ∧ (v1 = 0 → K 1 τ1))) (fun E τ => X E τ))) :
    CT g l M_X7_isFree 0 [.ref (zad g 24), .int x1] σ (zQi K X) := by
  refine CT_of rfl (by decide) (Nat.le_of_ble_eq_true rfl) ?_
  change EV _ _ _ _ _ 0 [(0, .ref (zad g 24)), (1, .int x1)] [] _
  refine e_aload_n dX7_isFree_0 rfl 0 rfl ?_
  refine e_iload_n dX7_isFree_1 rfl 1 rfl ?_
  refine e_iconst (v := 2) dX7_isFree_2 (by decide) ?_
  refine e_callVi (j1 := 0) (j2 := 0) (av := [.int x1, .int 2]) rfl rfl (Nat.le_of_ble_eq_true rfl) rfl rfl H i_X7_of rfl n_X7_of v_X7_of q_X7_164 (by decide) (by decide) (Nat.le_of_ble_eq_true rfl) dX7_isFree_3 (fun v1 τ1 H => ?_) (fun E τ H => H)
  refine e_if_ne (tgt := 13) dX7_isFree_6 (by decide) (fun h2 => ?_) (fun h2 => ?_)
  · replace H := H.1 h2
    refine e_iconst (v := 0) dX7_isFree_13 (by decide) ?_
    exact e_zret rfl rfl dX7_isFree_14 H
  · replace H := H.2 h2
    refine e_iconst (v := 1) dX7_isFree_9 (by decide) ?_
    refine e_goto (tgt := 14) dX7_isFree_10 (by decide) ?_
    exact e_zret rfl rfl dX7_isFree_14 H
set_option maxRecDepth 20000 in
set_option maxHeartbeats 2000000 in
theorem b_X7_turns {g : zG} {l : Launch} {K : Int32 → zS → Prop} {X : String → zS → Prop} {x1 : Int32} {x2 : Int32} {σ : zS}
    (H : CT g l M_X7_of 0 [.ref (zad g 24), .int x1, .int 1] σ (zQi (fun v1 τ1 => CT g l M_X7_sets 0 [.ref (zad g 24), .int x1, .int 1, .int x2] τ1 (zQv (fun τ2 => K v1 τ2) (fun E τ => X E τ))) (fun E τ => X E τ))) :
    CT g l M_X7_turns 0 [.ref (zad g 24), .int x1, .int x2] σ (zQi K X) := by
  refine CT_of rfl (by decide) (Nat.le_of_ble_eq_true rfl) ?_
  change EV _ _ _ _ _ 0 [(0, .ref (zad g 24)), (1, .int x1), (2, .int x2)] [] _
  refine e_aload_n dX7_turns_0 rfl 0 rfl ?_
  refine e_iload_n dX7_turns_1 rfl 1 rfl ?_
  refine e_iconst (v := 1) dX7_turns_2 (by decide) ?_
  refine e_callVi (j1 := 0) (j2 := 0) (av := [.int x1, .int 1]) rfl rfl (Nat.le_of_ble_eq_true rfl) rfl rfl H i_X7_of rfl n_X7_of v_X7_of q_X7_164 (by decide) (by decide) (Nat.le_of_ble_eq_true rfl) dX7_turns_3 (fun v1 τ1 H => ?_) (fun E τ H => H)
  refine e_istore_n (ls' := [(3, .int v1), (0, .ref (zad g 24)), (1, .int x1), (2, .int x2)]) dX7_turns_6 rfl (by decide) rfl ?_
  refine e_aload_n dX7_turns_7 rfl 1 rfl ?_
  refine e_iload_n dX7_turns_8 rfl 2 rfl ?_
  refine e_iconst (v := 1) dX7_turns_9 (by decide) ?_
  refine e_iload_n dX7_turns_10 rfl 3 rfl ?_
  refine e_callVv (j1 := 0) (j2 := 0) (av := [.int x1, .int 1, .int x2]) rfl rfl (Nat.le_of_ble_eq_true rfl) rfl rfl H i_X7_sets rfl n_X7_sets v_X7_sets q_X7_203 (by decide) (by decide) (Nat.le_of_ble_eq_true rfl) dX7_turns_11 (fun τ2 H => ?_) (fun E τ H => H)
  refine e_iload_n dX7_turns_14 rfl 0 rfl ?_
  exact e_iret rfl dX7_turns_15 H
set_option maxRecDepth 20000 in
set_option maxHeartbeats 2000000 in
theorem b_X7_turn {g : zG} {l : Launch} {K : Int32 → zS → Prop} {X : String → zS → Prop} {x1 : Int32} {x2 : Int32} {σ : zS}
    (H : CT g l M_X7_isSlat 0 [.ref (zad g 24), .int x1] σ (zQi (fun v1 τ1 => CT g l M_X7_isTurn 0 [.int x2] τ1 (zQi (fun v2 τ2 => ((v1 = 0 → CT g l M_X7_goesAll 0 [.ref (zad g 24), .int v1, .int v2, .int 0] τ2 (zQi (fun v4 τ4 => ((¬ v4 = 0 → CT g l M_X7_laysAside 0 [.ref (zad g 24)] τ4 (zQv (fun τ6 => CT g l M_X7_turns 0 [.ref (zad g 24), .int x1, .int x2] τ6 (zQi (fun v7 τ7 => CT g l M_X7_kept 0 [.ref (zad g 24), .int v7] τ7 (zQi (fun v8 τ8 => K v8 τ8) (fun E τ => X E τ))) (fun E τ => X E τ))) (fun E τ => X E τ))) ∧ (v4 = 0 → K 0 τ4))) (fun E τ => X E τ))) ∧ (¬ v1 = 0 → CT g l M_X7_isFree 0 [.ref (zad g 24), .int x1] τ2 (zQi (fun v9 τ9 => ((v9 = 0 → CT g l M_X7_goesAll 0 [.ref (zad g 24), .int v1, .int v2, .int 0] τ9 (zQi (fun v11 τ11 => ((¬ v11 = 0 → CT g l M_X7_laysAside 0 [.ref (zad g 24)] τ11 (zQv (fun τ13 => CT g l M_X7_turns 0 [.ref (zad g 24), .int x1, .int x2] τ13 (zQi (fun v14 τ14 => CT g l M_X7_kept 0 [.ref (zad g 24), .int v14] τ14 (zQi (fun v15 τ15 => K v15 τ15) (fun E τ => X E τ))) (fun E τ => X E τ))) (fun E τ => X E τ))) ∧ (v11 = 0 → K 0 τ11))) (fun E τ => X E τ))) ∧ (¬ v9 = 0 → CT g l M_X7_goesAll 0 [.ref (zad g 24), .int v1, .int v2, .int 1] τ9 (zQi (fun v16 τ16 => ((¬ v16 = 0 → CT g l M_X7_laysAside 0 [.ref (zad g 24)] τ16 (zQv (fun τ18 => CT g l M_X7_turns 0 [.ref (zad g 24), .int x1, .int x2] τ18 (zQi (fun v19 τ19 => CT g l M_X7_kept 0 [.ref (zad g 24), .int v19] τ19 (zQi (fun v20 τ20 => K v20 τ20) (fun E τ => X E τ))) (fun E τ => X E τ))) (fun E τ => X E τ))) ∧ (v16 = 0 → K 0 τ16))) (fun E τ => X E τ))))) (fun E τ => X E τ))))) (fun E τ => X E τ))) (fun E τ => X E τ))) :
    CT g l M_X7_turn 0 [.ref (zad g 24), .int x1, .int x2] σ (zQi K X) := by
  refine CT_of rfl (by decide) (Nat.le_of_ble_eq_true rfl) ?_
  change EV _ _ _ _ _ 0 [(0, .ref (zad g 24)), (1, .int x1), (2, .int x2)] [] _
  refine e_aload_n dX7_turn_0 rfl 0 rfl ?_
  refine e_iload_n dX7_turn_1 rfl 1 rfl ?_
  refine e_callVi (j1 := 0) (j2 := 0) (av := [.int x1]) rfl rfl (Nat.le_of_ble_eq_true rfl) rfl rfl H i_X7_isSlat rfl n_X7_isSlat v_X7_isSlat q_X7_290 (by decide) (by decide) (Nat.le_of_ble_eq_true rfl) dX7_turn_2 (fun v1 τ1 H => ?_) (fun E τ H => H)
  refine e_istore_n (ls' := [(3, .int v1), (0, .ref (zad g 24)), (1, .int x1), (2, .int x2)]) dX7_turn_5 rfl (by decide) rfl ?_
  refine e_aload_n dX7_turn_6 rfl 1 rfl ?_
  refine e_iload_n dX7_turn_7 rfl 0 rfl ?_
  refine e_iload_n dX7_turn_8 rfl 3 rfl ?_
  refine e_callSi (j1 := 0) (j2 := 0) (av := [.int x2]) rfl H i_X7_isTurn rfl s_X7_isTurn q_X7_403 (by decide) (by decide) (Nat.le_of_ble_eq_true rfl) dX7_turn_9 (fun v2 τ2 H => ?_) (fun E τ H => H)
  refine e_iload_n dX7_turn_12 rfl 0 rfl ?_
  refine e_if_eq (tgt := 28) dX7_turn_13 (by decide) (fun h3 => ?_) (fun h3 => ?_)
  · replace H := H.1 h3
    refine e_iconst (v := 0) dX7_turn_28 (by decide) ?_
    refine e_callVi (j1 := 0) (j2 := 0) (av := [.int v1, .int v2, .int 0]) rfl rfl (Nat.le_of_ble_eq_true rfl) rfl rfl H i_X7_goesAll rfl n_X7_goesAll v_X7_goesAll q_X7_409 (by decide) (by decide) (Nat.le_of_ble_eq_true rfl) dX7_turn_29 (fun v4 τ4 H => ?_) (fun E τ H => H)
    refine e_if_ne (tgt := 37) dX7_turn_32 (by decide) (fun h5 => ?_) (fun h5 => ?_)
    · replace H := H.1 h5
      refine e_aload_n dX7_turn_37 rfl 1 rfl ?_
      refine e_callVv (j1 := 0) (j2 := 0) (av := []) rfl rfl (Nat.le_of_ble_eq_true rfl) rfl rfl H i_X7_laysAside rfl n_X7_laysAside v_X7_laysAside q_X7_240 (by decide) (by decide) (Nat.le_of_ble_eq_true rfl) dX7_turn_38 (fun τ6 H => ?_) (fun E τ H => H)
      refine e_aload_n dX7_turn_41 rfl 1 rfl ?_
      refine e_aload_n dX7_turn_42 rfl 1 rfl ?_
      refine e_iload_n dX7_turn_43 rfl 2 rfl ?_
      refine e_iload_n dX7_turn_44 rfl 3 rfl ?_
      refine e_callVi (j1 := 0) (j2 := 0) (av := [.int x1, .int x2]) rfl rfl (Nat.le_of_ble_eq_true rfl) rfl rfl H i_X7_turns rfl n_X7_turns v_X7_turns q_X7_413 (by decide) (by decide) (Nat.le_of_ble_eq_true rfl) dX7_turn_45 (fun v7 τ7 H => ?_) (fun E τ H => H)
      refine e_callVi (j1 := 0) (j2 := 0) (av := [.int v7]) rfl rfl (Nat.le_of_ble_eq_true rfl) rfl rfl H i_X7_kept rfl n_X7_kept v_X7_kept q_X7_396 (by decide) (by decide) (Nat.le_of_ble_eq_true rfl) dX7_turn_48 (fun v8 τ8 H => ?_) (fun E τ H => H)
      exact e_iret rfl dX7_turn_51 H
    · replace H := H.2 h5
      refine e_iconst (v := 0) dX7_turn_35 (by decide) ?_
      exact e_iret rfl dX7_turn_36 H
  · replace H := H.2 h3
    refine e_aload_n dX7_turn_16 rfl 1 rfl ?_
    refine e_iload_n dX7_turn_17 rfl 2 rfl ?_
    refine e_callVi (j1 := 0) (j2 := 0) (av := [.int x1]) rfl rfl (Nat.le_of_ble_eq_true rfl) rfl rfl H i_X7_isFree rfl n_X7_isFree v_X7_isFree q_X7_406 (by decide) (by decide) (Nat.le_of_ble_eq_true rfl) dX7_turn_18 (fun v9 τ9 H => ?_) (fun E τ H => H)
    refine e_if_eq (tgt := 28) dX7_turn_21 (by decide) (fun h10 => ?_) (fun h10 => ?_)
    · replace H := H.1 h10
      refine e_iconst (v := 0) dX7_turn_28 (by decide) ?_
      refine e_callVi (j1 := 0) (j2 := 0) (av := [.int v1, .int v2, .int 0]) rfl rfl (Nat.le_of_ble_eq_true rfl) rfl rfl H i_X7_goesAll rfl n_X7_goesAll v_X7_goesAll q_X7_409 (by decide) (by decide) (Nat.le_of_ble_eq_true rfl) dX7_turn_29 (fun v11 τ11 H => ?_) (fun E τ H => H)
      refine e_if_ne (tgt := 37) dX7_turn_32 (by decide) (fun h12 => ?_) (fun h12 => ?_)
      · replace H := H.1 h12
        refine e_aload_n dX7_turn_37 rfl 1 rfl ?_
        refine e_callVv (j1 := 0) (j2 := 0) (av := []) rfl rfl (Nat.le_of_ble_eq_true rfl) rfl rfl H i_X7_laysAside rfl n_X7_laysAside v_X7_laysAside q_X7_240 (by decide) (by decide) (Nat.le_of_ble_eq_true rfl) dX7_turn_38 (fun τ13 H => ?_) (fun E τ H => H)
        refine e_aload_n dX7_turn_41 rfl 1 rfl ?_
        refine e_aload_n dX7_turn_42 rfl 1 rfl ?_
        refine e_iload_n dX7_turn_43 rfl 2 rfl ?_
        refine e_iload_n dX7_turn_44 rfl 3 rfl ?_
        refine e_callVi (j1 := 0) (j2 := 0) (av := [.int x1, .int x2]) rfl rfl (Nat.le_of_ble_eq_true rfl) rfl rfl H i_X7_turns rfl n_X7_turns v_X7_turns q_X7_413 (by decide) (by decide) (Nat.le_of_ble_eq_true rfl) dX7_turn_45 (fun v14 τ14 H => ?_) (fun E τ H => H)
        refine e_callVi (j1 := 0) (j2 := 0) (av := [.int v14]) rfl rfl (Nat.le_of_ble_eq_true rfl) rfl rfl H i_X7_kept rfl n_X7_kept v_X7_kept q_X7_396 (by decide) (by decide) (Nat.le_of_ble_eq_true rfl) dX7_turn_48 (fun v15 τ15 H => ?_) (fun E τ H => H)
        exact e_iret rfl dX7_turn_51 H
      · replace H := H.2 h12
        refine e_iconst (v := 0) dX7_turn_35 (by decide) ?_
        exact e_iret rfl dX7_turn_36 H
    · replace H := H.2 h10
      refine e_iconst (v := 1) dX7_turn_24 (by decide) ?_
      refine e_goto (tgt := 29) dX7_turn_25 (by decide) ?_
      refine e_callVi (j1 := 0) (j2 := 0) (av := [.int v1, .int v2, .int 1]) rfl rfl (Nat.le_of_ble_eq_true rfl) rfl rfl H i_X7_goesAll rfl n_X7_goesAll v_X7_goesAll q_X7_409 (by decide) (by decide) (Nat.le_of_ble_eq_true rfl) dX7_turn_29 (fun v16 τ16 H => ?_) (fun E τ H => H)
      refine e_if_ne (tgt := 37) dX7_turn_32 (by decide) (fun h17 => ?_) (fun h17 => ?_)
      · replace H := H.1 h17
        refine e_aload_n dX7_turn_37 rfl 1 rfl ?_
        refine e_callVv (j1 := 0) (j2 := 0) (av := []) rfl rfl (Nat.le_of_ble_eq_true rfl) rfl rfl H i_X7_laysAside rfl n_X7_laysAside v_X7_laysAside q_X7_240 (by decide) (by decide) (Nat.le_of_ble_eq_true rfl) dX7_turn_38 (fun τ18 H => ?_) (fun E τ H => H)
        refine e_aload_n dX7_turn_41 rfl 1 rfl ?_
        refine e_aload_n dX7_turn_42 rfl 1 rfl ?_
        refine e_iload_n dX7_turn_43 rfl 2 rfl ?_
        refine e_iload_n dX7_turn_44 rfl 3 rfl ?_
        refine e_callVi (j1 := 0) (j2 := 0) (av := [.int x1, .int x2]) rfl rfl (Nat.le_of_ble_eq_true rfl) rfl rfl H i_X7_turns rfl n_X7_turns v_X7_turns q_X7_413 (by decide) (by decide) (Nat.le_of_ble_eq_true rfl) dX7_turn_45 (fun v19 τ19 H => ?_) (fun E τ H => H)
        refine e_callVi (j1 := 0) (j2 := 0) (av := [.int v19]) rfl rfl (Nat.le_of_ble_eq_true rfl) rfl rfl H i_X7_kept rfl n_X7_kept v_X7_kept q_X7_396 (by decide) (by decide) (Nat.le_of_ble_eq_true rfl) dX7_turn_48 (fun v20 τ20 H => ?_) (fun E τ H => H)
        exact e_iret rfl dX7_turn_51 H
      · replace H := H.2 h17
        refine e_iconst (v := 0) dX7_turn_35 (by decide) ?_
        exact e_iret rfl dX7_turn_36 H
set_option maxRecDepth 20000 in
set_option maxHeartbeats 2000000 in
theorem b_X7_ties {g : zG} {l : Launch} {K : Int32 → zS → Prop} {X : String → zS → Prop} {x1 : Int32} {x2 : Int32} {σ : zS}
    (H : CT g l M_X7_isFree 0 [.ref (zad g 24), .int x1] σ (zQi (fun v1 τ1 => ((v1 = x2 → CT g l M_X7_truth 0 [.int x2] τ1 (zQi (fun v3 τ3 => CT g l M_X7_sets 0 [.ref (zad g 24), .int x1, .int 2, .int v3] τ3 (zQv (fun τ4 => K 1 τ4) (fun E τ => X E τ))) (fun E τ => X E τ))) ∧ (¬ v1 = x2 → K 0 τ1))) (fun E τ => X E τ))) :
    CT g l M_X7_ties 0 [.ref (zad g 24), .int x1, .int x2] σ (zQi K X) := by
  refine CT_of rfl (by decide) (Nat.le_of_ble_eq_true rfl) ?_
  change EV _ _ _ _ _ 0 [(0, .ref (zad g 24)), (1, .int x1), (2, .int x2)] [] _
  refine e_aload_n dX7_ties_0 rfl 0 rfl ?_
  refine e_iload_n dX7_ties_1 rfl 1 rfl ?_
  refine e_callVi (j1 := 0) (j2 := 0) (av := [.int x1]) rfl rfl (Nat.le_of_ble_eq_true rfl) rfl rfl H i_X7_isFree rfl n_X7_isFree v_X7_isFree q_X7_406 (by decide) (by decide) (Nat.le_of_ble_eq_true rfl) dX7_ties_2 (fun v1 τ1 H => ?_) (fun E τ H => H)
  refine e_iload_n dX7_ties_5 rfl 2 rfl ?_
  refine e_icmp_eq (tgt := 11) dX7_ties_6 (by decide) (fun h2 => ?_) (fun h2 => ?_)
  · replace H := H.1 h2
    refine e_aload_n dX7_ties_11 rfl 0 rfl ?_
    refine e_iload_n dX7_ties_12 rfl 1 rfl ?_
    refine e_iconst (v := 2) dX7_ties_13 (by decide) ?_
    refine e_iload_n dX7_ties_14 rfl 2 rfl ?_
    refine e_callSi (j1 := 0) (j2 := 0) (av := [.int x2]) rfl H i_X7_truth rfl s_X7_truth q_X7_71 (by decide) (by decide) (Nat.le_of_ble_eq_true rfl) dX7_ties_15 (fun v3 τ3 H => ?_) (fun E τ H => H)
    refine e_callVv (j1 := 0) (j2 := 0) (av := [.int x1, .int 2, .int v3]) rfl rfl (Nat.le_of_ble_eq_true rfl) rfl rfl H i_X7_sets rfl n_X7_sets v_X7_sets q_X7_203 (by decide) (by decide) (Nat.le_of_ble_eq_true rfl) dX7_ties_18 (fun τ4 H => ?_) (fun E τ H => H)
    refine e_iconst (v := 1) dX7_ties_21 (by decide) ?_
    exact e_zret rfl rfl dX7_ties_22 H
  · replace H := H.2 h2
    refine e_iconst (v := 0) dX7_ties_9 (by decide) ?_
    exact e_zret rfl rfl dX7_ties_10 H
set_option maxRecDepth 20000 in
set_option maxHeartbeats 2000000 in
theorem b_X7_tie {g : zG} {l : Launch} {K : Int32 → zS → Prop} {X : String → zS → Prop} {x1 : Int32} {x2 : Int32} {σ : zS}
    (H : CT g l M_X7_isSlat 0 [.ref (zad g 24), .int x1] σ (zQi (fun v1 τ1 => CT g l M_X7_goes 0 [.ref (zad g 24), .int v1] τ1 (zQi (fun v2 τ2 => ((v2 = 0 → K 0 τ2) ∧ (¬ v2 = 0 → CT g l M_X7_isFree 0 [.ref (zad g 24), .int x1] τ2 (zQi (fun v4 τ4 => ((v4 = x2 → CT g l M_X7_laysAside 0 [.ref (zad g 24)] τ4 (zQv (fun τ6 => CT g l M_X7_ties 0 [.ref (zad g 24), .int x1, .int x2] τ6 (zQi (fun v7 τ7 => CT g l M_X7_keeps 0 [.ref (zad g 24)] τ7 (zQv (fun τ8 => (zbl v7 ∧ K v7 τ8)) (fun E τ => X E τ))) (fun E τ => X E τ))) (fun E τ => X E τ))) ∧ (¬ v4 = x2 → K 0 τ4))) (fun E τ => X E τ))))) (fun E τ => X E τ))) (fun E τ => X E τ))) :
    CT g l M_X7_tie 0 [.ref (zad g 24), .int x1, .int x2] σ (zQi K X) := by
  refine CT_of rfl (by decide) (Nat.le_of_ble_eq_true rfl) ?_
  change EV _ _ _ _ _ 0 [(0, .ref (zad g 24)), (1, .int x1), (2, .int x2)] [] _
  refine e_aload_n dX7_tie_0 rfl 0 rfl ?_
  refine e_aload_n dX7_tie_1 rfl 0 rfl ?_
  refine e_iload_n dX7_tie_2 rfl 1 rfl ?_
  refine e_callVi (j1 := 0) (j2 := 0) (av := [.int x1]) rfl rfl (Nat.le_of_ble_eq_true rfl) rfl rfl H i_X7_isSlat rfl n_X7_isSlat v_X7_isSlat q_X7_290 (by decide) (by decide) (Nat.le_of_ble_eq_true rfl) dX7_tie_3 (fun v1 τ1 H => ?_) (fun E τ H => H)
  refine e_callVi (j1 := 0) (j2 := 0) (av := [.int v1]) rfl rfl (Nat.le_of_ble_eq_true rfl) rfl rfl H i_X7_goes rfl n_X7_goes v_X7_goes q_X7_78 (by decide) (by decide) (Nat.le_of_ble_eq_true rfl) dX7_tie_6 (fun v2 τ2 H => ?_) (fun E τ H => H)
  refine e_if_eq (tgt := 21) dX7_tie_9 (by decide) (fun h3 => ?_) (fun h3 => ?_)
  · replace H := H.1 h3
    refine e_iconst (v := 0) dX7_tie_21 (by decide) ?_
    exact e_zret rfl rfl dX7_tie_22 H
  · replace H := H.2 h3
    refine e_aload_n dX7_tie_12 rfl 0 rfl ?_
    refine e_iload_n dX7_tie_13 rfl 1 rfl ?_
    refine e_callVi (j1 := 0) (j2 := 0) (av := [.int x1]) rfl rfl (Nat.le_of_ble_eq_true rfl) rfl rfl H i_X7_isFree rfl n_X7_isFree v_X7_isFree q_X7_406 (by decide) (by decide) (Nat.le_of_ble_eq_true rfl) dX7_tie_14 (fun v4 τ4 H => ?_) (fun E τ H => H)
    refine e_iload_n dX7_tie_17 rfl 2 rfl ?_
    refine e_icmp_eq (tgt := 23) dX7_tie_18 (by decide) (fun h5 => ?_) (fun h5 => ?_)
    · replace H := H.1 h5
      refine e_aload_n dX7_tie_23 rfl 0 rfl ?_
      refine e_callVv (j1 := 0) (j2 := 0) (av := []) rfl rfl (Nat.le_of_ble_eq_true rfl) rfl rfl H i_X7_laysAside rfl n_X7_laysAside v_X7_laysAside q_X7_240 (by decide) (by decide) (Nat.le_of_ble_eq_true rfl) dX7_tie_24 (fun τ6 H => ?_) (fun E τ H => H)
      refine e_aload_n dX7_tie_27 rfl 0 rfl ?_
      refine e_iload_n dX7_tie_28 rfl 1 rfl ?_
      refine e_iload_n dX7_tie_29 rfl 2 rfl ?_
      refine e_callVi (j1 := 0) (j2 := 0) (av := [.int x1, .int x2]) rfl rfl (Nat.le_of_ble_eq_true rfl) rfl rfl H i_X7_ties rfl n_X7_ties v_X7_ties q_X7_416 (by decide) (by decide) (Nat.le_of_ble_eq_true rfl) dX7_tie_30 (fun v7 τ7 H => ?_) (fun E τ H => H)
      refine e_istore_n (ls' := [(3, .int v7), (0, .ref (zad g 24)), (1, .int x1), (2, .int x2)]) dX7_tie_33 rfl (by decide) rfl ?_
      refine e_aload_n dX7_tie_34 rfl 1 rfl ?_
      refine e_callVv (j1 := 0) (j2 := 0) (av := []) rfl rfl (Nat.le_of_ble_eq_true rfl) rfl rfl H i_X7_keeps rfl n_X7_keeps v_X7_keeps q_X7_153 (by decide) (by decide) (Nat.le_of_ble_eq_true rfl) dX7_tie_35 (fun τ8 H => ?_) (fun E τ H => H)
      refine e_iload_n dX7_tie_38 rfl 0 rfl ?_
      exact e_zret rfl (zbl_n H.1) dX7_tie_39 H.2
    · replace H := H.2 h5
      refine e_iconst (v := 0) dX7_tie_21 (by decide) ?_
      exact e_zret rfl rfl dX7_tie_22 H
set_option maxRecDepth 20000 in
set_option maxHeartbeats 2000000 in
theorem b_X7_paints {g : zG} {l : Launch} {K : Int32 → zS → Prop} {X : String → zS → Prop} {x1 : Int32} {x2 : Int32} {σ : zS}
    (H : CT g l M_X7_of 0 [.ref (zad g 24), .int x1, .int (3 + x2)] σ (zQi (fun v1 τ1 => CT g l M_X7_sets 0 [.ref (zad g 24), .int x1, .int (3 + x2), .int (v1 + 1)] τ1 (zQv (fun τ2 => CT g l M_X7_repaints 0 [.ref (zad g 24), .int x1, .int x2] τ2 (zQi (fun v3 τ3 => K v3 τ3) (fun E τ => X E τ))) (fun E τ => X E τ))) (fun E τ => X E τ))) :
    CT g l M_X7_paints 0 [.ref (zad g 24), .int x1, .int x2] σ (zQi K X) := by
  refine CT_of rfl (by decide) (Nat.le_of_ble_eq_true rfl) ?_
  change EV _ _ _ _ _ 0 [(0, .ref (zad g 24)), (1, .int x1), (2, .int x2)] [] _
  refine e_aload_n dX7_paints_0 rfl 0 rfl ?_
  refine e_iload_n dX7_paints_1 rfl 1 rfl ?_
  refine e_iconst (v := 3) dX7_paints_2 (by decide) ?_
  refine e_iload_n dX7_paints_3 rfl 2 rfl ?_
  refine e_iadd dX7_paints_4 ?_
  refine e_aload_n dX7_paints_5 rfl 0 rfl ?_
  refine e_iload_n dX7_paints_6 rfl 1 rfl ?_
  refine e_iconst (v := 3) dX7_paints_7 (by decide) ?_
  refine e_iload_n dX7_paints_8 rfl 2 rfl ?_
  refine e_iadd dX7_paints_9 ?_
  refine e_callVi (j1 := 0) (j2 := 0) (av := [.int x1, .int (3 + x2)]) rfl rfl (Nat.le_of_ble_eq_true rfl) rfl rfl H i_X7_of rfl n_X7_of v_X7_of q_X7_164 (by decide) (by decide) (Nat.le_of_ble_eq_true rfl) dX7_paints_10 (fun v1 τ1 H => ?_) (fun E τ H => H)
  refine e_iconst (v := 1) dX7_paints_13 (by decide) ?_
  refine e_iadd dX7_paints_14 ?_
  refine e_callVv (j1 := 0) (j2 := 0) (av := [.int x1, .int (3 + x2), .int (v1 + 1)]) rfl rfl (Nat.le_of_ble_eq_true rfl) rfl rfl H i_X7_sets rfl n_X7_sets v_X7_sets q_X7_203 (by decide) (by decide) (Nat.le_of_ble_eq_true rfl) dX7_paints_15 (fun τ2 H => ?_) (fun E τ H => H)
  refine e_aload_n dX7_paints_18 rfl 0 rfl ?_
  refine e_iload_n dX7_paints_19 rfl 1 rfl ?_
  refine e_iload_n dX7_paints_20 rfl 2 rfl ?_
  refine e_callVi (j1 := 0) (j2 := 0) (av := [.int x1, .int x2]) rfl rfl (Nat.le_of_ble_eq_true rfl) rfl rfl H i_X7_repaints rfl n_X7_repaints v_X7_repaints q_X7_234 (by decide) (by decide) (Nat.le_of_ble_eq_true rfl) dX7_paints_21 (fun v3 τ3 H => ?_) (fun E τ H => H)
  exact e_iret rfl dX7_paints_24 H
set_option maxRecDepth 20000 in
set_option maxHeartbeats 2000000 in
theorem b_X7_paint {g : zG} {l : Launch} {K : Int32 → zS → Prop} {X : String → zS → Prop} {x1 : Int32} {x2 : Int32} {σ : zS}
    (H : CT g l M_X7_isSlat 0 [.ref (zad g 24), .int x1] σ (zQi (fun v1 τ1 => ((v1 = 0 → CT g l M_X7_goesBoth 0 [.ref (zad g 24), .int v1, .int 0] τ1 (zQi (fun v3 τ3 => ((¬ v3 = 0 → CT g l M_X7_laysAside 0 [.ref (zad g 24)] τ3 (zQv (fun τ5 => CT g l M_X7_truth 0 [.int x2] τ5 (zQi (fun v6 τ6 => CT g l M_X7_paints 0 [.ref (zad g 24), .int x1, .int v6] τ6 (zQi (fun v7 τ7 => CT g l M_X7_kept 0 [.ref (zad g 24), .int v7] τ7 (zQi (fun v8 τ8 => K v8 τ8) (fun E τ => X E τ))) (fun E τ => X E τ))) (fun E τ => X E τ))) (fun E τ => X E τ))) ∧ (v3 = 0 → K 0 τ3))) (fun E τ => X E τ))) ∧ (¬ v1 = 0 → CT g l M_X7_truth 0 [.int x2] τ1 (zQi (fun v9 τ9 => CT g l M_X7_bearsMore 0 [.ref (zad g 24), .int x1, .int v9] τ9 (zQi (fun v10 τ10 => ((v10 = 0 → CT g l M_X7_goesBoth 0 [.ref (zad g 24), .int v1, .int 0] τ10 (zQi (fun v12 τ12 => ((¬ v12 = 0 → CT g l M_X7_laysAside 0 [.ref (zad g 24)] τ12 (zQv (fun τ14 => CT g l M_X7_truth 0 [.int x2] τ14 (zQi (fun v15 τ15 => CT g l M_X7_paints 0 [.ref (zad g 24), .int x1, .int v15] τ15 (zQi (fun v16 τ16 => CT g l M_X7_kept 0 [.ref (zad g 24), .int v16] τ16 (zQi (fun v17 τ17 => K v17 τ17) (fun E τ => X E τ))) (fun E τ => X E τ))) (fun E τ => X E τ))) (fun E τ => X E τ))) ∧ (v12 = 0 → K 0 τ12))) (fun E τ => X E τ))) ∧ (¬ v10 = 0 → CT g l M_X7_goesBoth 0 [.ref (zad g 24), .int v1, .int 1] τ10 (zQi (fun v18 τ18 => ((¬ v18 = 0 → CT g l M_X7_laysAside 0 [.ref (zad g 24)] τ18 (zQv (fun τ20 => CT g l M_X7_truth 0 [.int x2] τ20 (zQi (fun v21 τ21 => CT g l M_X7_paints 0 [.ref (zad g 24), .int x1, .int v21] τ21 (zQi (fun v22 τ22 => CT g l M_X7_kept 0 [.ref (zad g 24), .int v22] τ22 (zQi (fun v23 τ23 => K v23 τ23) (fun E τ => X E τ))) (fun E τ => X E τ))) (fun E τ => X E τ))) (fun E τ => X E τ))) ∧ (v18 = 0 → K 0 τ18))) (fun E τ => X E τ))))) (fun E τ => X E τ))) (fun E τ => X E τ))))) (fun E τ => X E τ))) :
    CT g l M_X7_paint 0 [.ref (zad g 24), .int x1, .int x2] σ (zQi K X) := by
  refine CT_of rfl (by decide) (Nat.le_of_ble_eq_true rfl) ?_
  change EV _ _ _ _ _ 0 [(0, .ref (zad g 24)), (1, .int x1), (2, .int x2)] [] _
  refine e_aload_n dX7_paint_0 rfl 0 rfl ?_
  refine e_iload_n dX7_paint_1 rfl 1 rfl ?_
  refine e_callVi (j1 := 0) (j2 := 0) (av := [.int x1]) rfl rfl (Nat.le_of_ble_eq_true rfl) rfl rfl H i_X7_isSlat rfl n_X7_isSlat v_X7_isSlat q_X7_290 (by decide) (by decide) (Nat.le_of_ble_eq_true rfl) dX7_paint_2 (fun v1 τ1 H => ?_) (fun E τ H => H)
  refine e_istore_n (ls' := [(3, .int v1), (0, .ref (zad g 24)), (1, .int x1), (2, .int x2)]) dX7_paint_5 rfl (by decide) rfl ?_
  refine e_aload_n dX7_paint_6 rfl 1 rfl ?_
  refine e_iload_n dX7_paint_7 rfl 0 rfl ?_
  refine e_iload_n dX7_paint_8 rfl 0 rfl ?_
  refine e_if_eq (tgt := 28) dX7_paint_9 (by decide) (fun h2 => ?_) (fun h2 => ?_)
  · replace H := H.1 h2
    refine e_iconst (v := 0) dX7_paint_28 (by decide) ?_
    refine e_callVi (j1 := 0) (j2 := 0) (av := [.int v1, .int 0]) rfl rfl (Nat.le_of_ble_eq_true rfl) rfl rfl H i_X7_goesBoth rfl n_X7_goesBoth v_X7_goesBoth q_X7_313 (by decide) (by decide) (Nat.le_of_ble_eq_true rfl) dX7_paint_29 (fun v3 τ3 H => ?_) (fun E τ H => H)
    refine e_if_ne (tgt := 37) dX7_paint_32 (by decide) (fun h4 => ?_) (fun h4 => ?_)
    · replace H := H.1 h4
      refine e_aload_n dX7_paint_37 rfl 1 rfl ?_
      refine e_callVv (j1 := 0) (j2 := 0) (av := []) rfl rfl (Nat.le_of_ble_eq_true rfl) rfl rfl H i_X7_laysAside rfl n_X7_laysAside v_X7_laysAside q_X7_240 (by decide) (by decide) (Nat.le_of_ble_eq_true rfl) dX7_paint_38 (fun τ5 H => ?_) (fun E τ H => H)
      refine e_aload_n dX7_paint_41 rfl 1 rfl ?_
      refine e_aload_n dX7_paint_42 rfl 1 rfl ?_
      refine e_iload_n dX7_paint_43 rfl 2 rfl ?_
      refine e_iload_n dX7_paint_44 rfl 3 rfl ?_
      refine e_callSi (j1 := 0) (j2 := 0) (av := [.int x2]) rfl H i_X7_truth rfl s_X7_truth q_X7_71 (by decide) (by decide) (Nat.le_of_ble_eq_true rfl) dX7_paint_45 (fun v6 τ6 H => ?_) (fun E τ H => H)
      refine e_callVi (j1 := 0) (j2 := 0) (av := [.int x1, .int v6]) rfl rfl (Nat.le_of_ble_eq_true rfl) rfl rfl H i_X7_paints rfl n_X7_paints v_X7_paints q_X7_420 (by decide) (by decide) (Nat.le_of_ble_eq_true rfl) dX7_paint_48 (fun v7 τ7 H => ?_) (fun E τ H => H)
      refine e_callVi (j1 := 0) (j2 := 0) (av := [.int v7]) rfl rfl (Nat.le_of_ble_eq_true rfl) rfl rfl H i_X7_kept rfl n_X7_kept v_X7_kept q_X7_396 (by decide) (by decide) (Nat.le_of_ble_eq_true rfl) dX7_paint_51 (fun v8 τ8 H => ?_) (fun E τ H => H)
      exact e_iret rfl dX7_paint_54 H
    · replace H := H.2 h4
      refine e_iconst (v := 0) dX7_paint_35 (by decide) ?_
      exact e_iret rfl dX7_paint_36 H
  · replace H := H.2 h2
    refine e_aload_n dX7_paint_12 rfl 1 rfl ?_
    refine e_iload_n dX7_paint_13 rfl 2 rfl ?_
    refine e_iload_n dX7_paint_14 rfl 3 rfl ?_
    refine e_callSi (j1 := 0) (j2 := 0) (av := [.int x2]) rfl H i_X7_truth rfl s_X7_truth q_X7_71 (by decide) (by decide) (Nat.le_of_ble_eq_true rfl) dX7_paint_15 (fun v9 τ9 H => ?_) (fun E τ H => H)
    refine e_callVi (j1 := 0) (j2 := 0) (av := [.int x1, .int v9]) rfl rfl (Nat.le_of_ble_eq_true rfl) rfl rfl H i_X7_bearsMore rfl n_X7_bearsMore v_X7_bearsMore q_X7_354 (by decide) (by decide) (Nat.le_of_ble_eq_true rfl) dX7_paint_18 (fun v10 τ10 H => ?_) (fun E τ H => H)
    refine e_if_eq (tgt := 28) dX7_paint_21 (by decide) (fun h11 => ?_) (fun h11 => ?_)
    · replace H := H.1 h11
      refine e_iconst (v := 0) dX7_paint_28 (by decide) ?_
      refine e_callVi (j1 := 0) (j2 := 0) (av := [.int v1, .int 0]) rfl rfl (Nat.le_of_ble_eq_true rfl) rfl rfl H i_X7_goesBoth rfl n_X7_goesBoth v_X7_goesBoth q_X7_313 (by decide) (by decide) (Nat.le_of_ble_eq_true rfl) dX7_paint_29 (fun v12 τ12 H => ?_) (fun E τ H => H)
      refine e_if_ne (tgt := 37) dX7_paint_32 (by decide) (fun h13 => ?_) (fun h13 => ?_)
      · replace H := H.1 h13
        refine e_aload_n dX7_paint_37 rfl 1 rfl ?_
        refine e_callVv (j1 := 0) (j2 := 0) (av := []) rfl rfl (Nat.le_of_ble_eq_true rfl) rfl rfl H i_X7_laysAside rfl n_X7_laysAside v_X7_laysAside q_X7_240 (by decide) (by decide) (Nat.le_of_ble_eq_true rfl) dX7_paint_38 (fun τ14 H => ?_) (fun E τ H => H)
        refine e_aload_n dX7_paint_41 rfl 1 rfl ?_
        refine e_aload_n dX7_paint_42 rfl 1 rfl ?_
        refine e_iload_n dX7_paint_43 rfl 2 rfl ?_
        refine e_iload_n dX7_paint_44 rfl 3 rfl ?_
        refine e_callSi (j1 := 0) (j2 := 0) (av := [.int x2]) rfl H i_X7_truth rfl s_X7_truth q_X7_71 (by decide) (by decide) (Nat.le_of_ble_eq_true rfl) dX7_paint_45 (fun v15 τ15 H => ?_) (fun E τ H => H)
        refine e_callVi (j1 := 0) (j2 := 0) (av := [.int x1, .int v15]) rfl rfl (Nat.le_of_ble_eq_true rfl) rfl rfl H i_X7_paints rfl n_X7_paints v_X7_paints q_X7_420 (by decide) (by decide) (Nat.le_of_ble_eq_true rfl) dX7_paint_48 (fun v16 τ16 H => ?_) (fun E τ H => H)
        refine e_callVi (j1 := 0) (j2 := 0) (av := [.int v16]) rfl rfl (Nat.le_of_ble_eq_true rfl) rfl rfl H i_X7_kept rfl n_X7_kept v_X7_kept q_X7_396 (by decide) (by decide) (Nat.le_of_ble_eq_true rfl) dX7_paint_51 (fun v17 τ17 H => ?_) (fun E τ H => H)
        exact e_iret rfl dX7_paint_54 H
      · replace H := H.2 h13
        refine e_iconst (v := 0) dX7_paint_35 (by decide) ?_
        exact e_iret rfl dX7_paint_36 H
    · replace H := H.2 h11
      refine e_iconst (v := 1) dX7_paint_24 (by decide) ?_
      refine e_goto (tgt := 29) dX7_paint_25 (by decide) ?_
      refine e_callVi (j1 := 0) (j2 := 0) (av := [.int v1, .int 1]) rfl rfl (Nat.le_of_ble_eq_true rfl) rfl rfl H i_X7_goesBoth rfl n_X7_goesBoth v_X7_goesBoth q_X7_313 (by decide) (by decide) (Nat.le_of_ble_eq_true rfl) dX7_paint_29 (fun v18 τ18 H => ?_) (fun E τ H => H)
      refine e_if_ne (tgt := 37) dX7_paint_32 (by decide) (fun h19 => ?_) (fun h19 => ?_)
      · replace H := H.1 h19
        refine e_aload_n dX7_paint_37 rfl 1 rfl ?_
        refine e_callVv (j1 := 0) (j2 := 0) (av := []) rfl rfl (Nat.le_of_ble_eq_true rfl) rfl rfl H i_X7_laysAside rfl n_X7_laysAside v_X7_laysAside q_X7_240 (by decide) (by decide) (Nat.le_of_ble_eq_true rfl) dX7_paint_38 (fun τ20 H => ?_) (fun E τ H => H)
        refine e_aload_n dX7_paint_41 rfl 1 rfl ?_
        refine e_aload_n dX7_paint_42 rfl 1 rfl ?_
        refine e_iload_n dX7_paint_43 rfl 2 rfl ?_
        refine e_iload_n dX7_paint_44 rfl 3 rfl ?_
        refine e_callSi (j1 := 0) (j2 := 0) (av := [.int x2]) rfl H i_X7_truth rfl s_X7_truth q_X7_71 (by decide) (by decide) (Nat.le_of_ble_eq_true rfl) dX7_paint_45 (fun v21 τ21 H => ?_) (fun E τ H => H)
        refine e_callVi (j1 := 0) (j2 := 0) (av := [.int x1, .int v21]) rfl rfl (Nat.le_of_ble_eq_true rfl) rfl rfl H i_X7_paints rfl n_X7_paints v_X7_paints q_X7_420 (by decide) (by decide) (Nat.le_of_ble_eq_true rfl) dX7_paint_48 (fun v22 τ22 H => ?_) (fun E τ H => H)
        refine e_callVi (j1 := 0) (j2 := 0) (av := [.int v22]) rfl rfl (Nat.le_of_ble_eq_true rfl) rfl rfl H i_X7_kept rfl n_X7_kept v_X7_kept q_X7_396 (by decide) (by decide) (Nat.le_of_ble_eq_true rfl) dX7_paint_51 (fun v23 τ23 H => ?_) (fun E τ H => H)
        exact e_iret rfl dX7_paint_54 H
      · replace H := H.2 h19
        refine e_iconst (v := 0) dX7_paint_35 (by decide) ?_
        exact e_iret rfl dX7_paint_36 H
set_option maxRecDepth 20000 in
set_option maxHeartbeats 2000000 in
theorem b_X7_isColour {g : zG} {l : Launch} {K : Int32 → zS → Prop} {X : String → zS → Prop} {x0 : Int32} {σ : zS}
    (H : CT g l M_X7_isIn 0 [.long (Int32.toInt64 x0), .long (0 : Int64), .long (9 : Int64)] σ (zQi (fun v1 τ1 => (zbl v1 ∧ K v1 τ1)) (fun E τ => X E τ))) :
    CT g l M_X7_isColour 0 [.int x0] σ (zQi K X) := by
  refine CT_of rfl (by decide) (Nat.le_of_ble_eq_true rfl) ?_
  change EV _ _ _ _ _ 0 [(0, .int x0)] [] _
  refine e_iload_n dX7_isColour_0 rfl 0 rfl ?_
  refine e_i2l (v := Int32.toInt64 x0) dX7_isColour_1 rfl ?_
  refine e_lconst (v := 0) dX7_isColour_2 (by decide) ?_
  refine e_ldc2 k_X7_300 dX7_isColour_3 ?_
  refine e_callSi (j1 := 0) (j2 := 0) (av := [.long (Int32.toInt64 x0), .long (0 : Int64), .long (9 : Int64)]) rfl H i_X7_isIn rfl s_X7_isIn q_X7_85 (by decide) (by decide) (Nat.le_of_ble_eq_true rfl) dX7_isColour_6 (fun v1 τ1 H => ?_) (fun E τ H => H)
  exact e_zret rfl (zbl_n H.1) dX7_isColour_9 H.2
set_option maxRecDepth 20000 in
set_option maxHeartbeats 2000000 in
theorem b_X7_dabs0 {g : zG} {l : Launch} {K : Int32 → zS → Prop} {X : String → zS → Prop} {x1 : Int32} {x2 : Int32} {x3 : Int32} {x4 : Int32} {x5 : Int32} {σ : zS}
    (H : CT g l M_X7_firstOf 0 [.ref (zad g 24), .int x1] σ (zQi (fun v1 τ1 => CT g l M_X7_faceCell 0 [.int x2, .int (v1 + x3), .int x4] τ1 (zQi (fun v2 τ2 => (vp_in v2 1110 ∧ (vp_in v2 1110 ∧ (∀ σ3 : zS, σ3 = zup τ2 26 (Int32.toNatClampNeg v2) x5 → K (τ2.1 26 (Int32.toNatClampNeg v2)) σ3)))) (fun E τ => X E τ))) (fun E τ => X E τ))) :
    CT g l M_X7_dabs0 0 [.ref (zad g 24), .int x1, .int x2, .int x3, .int x4, .int x5] σ (zQi K X) := by
  refine CT_of rfl (by decide) (Nat.le_of_ble_eq_true rfl) ?_
  change EV _ _ _ _ _ 0 [(0, .ref (zad g 24)), (1, .int x1), (2, .int x2), (3, .int x3), (4, .int x4), (5, .int x5)] [] _
  refine e_iload_n dX7_dabs0_0 rfl 2 rfl ?_
  refine e_aload_n dX7_dabs0_1 rfl 0 rfl ?_
  refine e_iload_n dX7_dabs0_2 rfl 1 rfl ?_
  refine e_callVi (j1 := 0) (j2 := 0) (av := [.int x1]) rfl rfl (Nat.le_of_ble_eq_true rfl) rfl rfl H i_X7_firstOf rfl n_X7_firstOf v_X7_firstOf q_X7_167 (by decide) (by decide) (Nat.le_of_ble_eq_true rfl) dX7_dabs0_3 (fun v1 τ1 H => ?_) (fun E τ H => H)
  refine e_iload_n dX7_dabs0_6 rfl 3 rfl ?_
  refine e_iadd dX7_dabs0_7 ?_
  refine e_iload dX7_dabs0_8 4 rfl ?_
  refine e_callSi (j1 := 0) (j2 := 0) (av := [.int x2, .int (v1 + x3), .int x4]) rfl H i_X7_faceCell rfl s_X7_faceCell q_X7_160 (by decide) (by decide) (Nat.le_of_ble_eq_true rfl) dX7_dabs0_10 (fun v2 τ2 H => ?_) (fun E τ H => H)
  refine e_istore (ls' := [(6, .int v2), (0, .ref (zad g 24)), (1, .int x1), (2, .int x2), (3, .int x3), (4, .int x4), (5, .int x5)]) dX7_dabs0_13 (by decide) rfl ?_
  refine e_aload_n dX7_dabs0_15 rfl 1 rfl ?_
  refine fg_X7_20 rfl dX7_dabs0_16 ?_
  refine e_iload dX7_dabs0_19 0 rfl ?_
  refine e_iald (n := 1110) rfl (Nat.le_of_ble_eq_true rfl) H.1 dX7_dabs0_21 ?_
  replace H := H.2
  refine e_istore (ls' := [(7, .int (τ2.1 26 (Int32.toNatClampNeg v2))), (6, .int v2), (0, .ref (zad g 24)), (1, .int x1), (2, .int x2), (3, .int x3), (4, .int x4), (5, .int x5)]) dX7_dabs0_22 (by decide) rfl ?_
  refine e_aload_n dX7_dabs0_24 rfl 2 rfl ?_
  refine fg_X7_20 rfl dX7_dabs0_25 ?_
  refine e_iload dX7_dabs0_28 1 rfl ?_
  refine e_iload dX7_dabs0_30 7 rfl ?_
  refine e_iast (n := 1110) rfl (Nat.le_of_ble_eq_true rfl) H.1 dX7_dabs0_32 ?_
  replace H := H.2
  replace H := H _ rfl
  generalize zup τ2 26 (Int32.toNatClampNeg v2) x5 = σ3 at H ⊢
  refine e_iload dX7_dabs0_33 0 rfl ?_
  exact e_iret rfl dX7_dabs0_35 H
set_option maxRecDepth 20000 in
set_option maxHeartbeats 2000000 in
theorem b_X7_dab {g : zG} {l : Launch} {K : Int32 → zS → Prop} {X : String → zS → Prop} {x1 : Int32} {x2 : Int32} {x3 : Int32} {x4 : Int32} {x5 : Int32} {σ : zS}
    (H : CT g l M_X7_isOfSlat 0 [.ref (zad g 24), .int x1, .int x3, .int x4] σ (zQi (fun v1 τ1 => CT g l M_X7_isColour 0 [.int x5] τ1 (zQi (fun v2 τ2 => CT g l M_X7_goesBoth 0 [.ref (zad g 24), .int v1, .int v2] τ2 (zQi (fun v3 τ3 => ((¬ v3 = 0 → CT g l M_X7_laysAside 0 [.ref (zad g 24)] τ3 (zQv (fun τ5 => CT g l M_X7_truth 0 [.int x2] τ5 (zQi (fun v6 τ6 => CT g l M_X7_dabs0 0 [.ref (zad g 24), .int x1, .int v6, .int x3, .int x4, .int x5] τ6 (zQi (fun v7 τ7 => CT g l M_X7_kept 0 [.ref (zad g 24), .int v7] τ7 (zQi (fun v8 τ8 => K v8 τ8) (fun E τ => X E τ))) (fun E τ => X E τ))) (fun E τ => X E τ))) (fun E τ => X E τ))) ∧ (v3 = 0 → K 0 τ3))) (fun E τ => X E τ))) (fun E τ => X E τ))) (fun E τ => X E τ))) :
    CT g l M_X7_dab 0 [.ref (zad g 24), .int x1, .int x2, .int x3, .int x4, .int x5] σ (zQi K X) := by
  refine CT_of rfl (by decide) (Nat.le_of_ble_eq_true rfl) ?_
  change EV _ _ _ _ _ 0 [(0, .ref (zad g 24)), (1, .int x1), (2, .int x2), (3, .int x3), (4, .int x4), (5, .int x5)] [] _
  refine e_aload_n dX7_dab_0 rfl 0 rfl ?_
  refine e_aload_n dX7_dab_1 rfl 0 rfl ?_
  refine e_iload_n dX7_dab_2 rfl 1 rfl ?_
  refine e_iload_n dX7_dab_3 rfl 3 rfl ?_
  refine e_iload dX7_dab_4 4 rfl ?_
  refine e_callVi (j1 := 0) (j2 := 0) (av := [.int x1, .int x3, .int x4]) rfl rfl (Nat.le_of_ble_eq_true rfl) rfl rfl H i_X7_isOfSlat rfl n_X7_isOfSlat v_X7_isOfSlat q_X7_323 (by decide) (by decide) (Nat.le_of_ble_eq_true rfl) dX7_dab_6 (fun v1 τ1 H => ?_) (fun E τ H => H)
  refine e_iload dX7_dab_9 5 rfl ?_
  refine e_callSi (j1 := 0) (j2 := 0) (av := [.int x5]) rfl H i_X7_isColour rfl s_X7_isColour q_X7_423 (by decide) (by decide) (Nat.le_of_ble_eq_true rfl) dX7_dab_11 (fun v2 τ2 H => ?_) (fun E τ H => H)
  refine e_callVi (j1 := 0) (j2 := 0) (av := [.int v1, .int v2]) rfl rfl (Nat.le_of_ble_eq_true rfl) rfl rfl H i_X7_goesBoth rfl n_X7_goesBoth v_X7_goesBoth q_X7_313 (by decide) (by decide) (Nat.le_of_ble_eq_true rfl) dX7_dab_14 (fun v3 τ3 H => ?_) (fun E τ H => H)
  refine e_if_ne (tgt := 22) dX7_dab_17 (by decide) (fun h4 => ?_) (fun h4 => ?_)
  · replace H := H.1 h4
    refine e_aload_n dX7_dab_22 rfl 0 rfl ?_
    refine e_callVv (j1 := 0) (j2 := 0) (av := []) rfl rfl (Nat.le_of_ble_eq_true rfl) rfl rfl H i_X7_laysAside rfl n_X7_laysAside v_X7_laysAside q_X7_240 (by decide) (by decide) (Nat.le_of_ble_eq_true rfl) dX7_dab_23 (fun τ5 H => ?_) (fun E τ H => H)
    refine e_aload_n dX7_dab_26 rfl 0 rfl ?_
    refine e_aload_n dX7_dab_27 rfl 0 rfl ?_
    refine e_iload_n dX7_dab_28 rfl 1 rfl ?_
    refine e_iload_n dX7_dab_29 rfl 2 rfl ?_
    refine e_callSi (j1 := 0) (j2 := 0) (av := [.int x2]) rfl H i_X7_truth rfl s_X7_truth q_X7_71 (by decide) (by decide) (Nat.le_of_ble_eq_true rfl) dX7_dab_30 (fun v6 τ6 H => ?_) (fun E τ H => H)
    refine e_iload_n dX7_dab_33 rfl 3 rfl ?_
    refine e_iload dX7_dab_34 4 rfl ?_
    refine e_iload dX7_dab_36 5 rfl ?_
    refine e_callVi (j1 := 0) (j2 := 0) (av := [.int x1, .int v6, .int x3, .int x4, .int x5]) rfl rfl (Nat.le_of_ble_eq_true rfl) rfl rfl H i_X7_dabs0 rfl n_X7_dabs0 v_X7_dabs0 q_X7_426 (by decide) (by decide) (Nat.le_of_ble_eq_true rfl) dX7_dab_38 (fun v7 τ7 H => ?_) (fun E τ H => H)
    refine e_callVi (j1 := 0) (j2 := 0) (av := [.int v7]) rfl rfl (Nat.le_of_ble_eq_true rfl) rfl rfl H i_X7_kept rfl n_X7_kept v_X7_kept q_X7_396 (by decide) (by decide) (Nat.le_of_ble_eq_true rfl) dX7_dab_41 (fun v8 τ8 H => ?_) (fun E τ H => H)
    exact e_iret rfl dX7_dab_44 H
  · replace H := H.2 h4
    refine e_iconst (v := 0) dX7_dab_20 (by decide) ?_
    exact e_iret rfl dX7_dab_21 H
abbrev L_X7_swaps_39 (g : zG) (l : Launch) (K : Int32 → zS → Prop) (X : String → zS → Prop) (y1 : Int32) (y3 : Int32) (y4 : Int32) (y5 : Int32) (σ : zS) : Prop :=
  EV g l M_X7_swaps 0 (zQi K X) 39 [(0, .ref (zad g 24)), (1, .int y1), (3, .int y3), (4, .int y4), (5, .int y5)] [] σ
abbrev L_X7_swaps_56 (g : zG) (l : Launch) (K : Int32 → zS → Prop) (X : String → zS → Prop) (y1 : Int32) (y3 : Int32) (y4 : Int32) (y5 : Int32) (y6 : Int32) (σ : zS) : Prop :=
  EV g l M_X7_swaps 0 (zQi K X) 56 [(0, .ref (zad g 24)), (1, .int y1), (3, .int y3), (4, .int y4), (5, .int y5), (6, .int y6)] [] σ
set_option maxRecDepth 20000 in
set_option maxHeartbeats 2000000 in
theorem b_X7_swaps {g : zG} {l : Launch} {K : Int32 → zS → Prop} {X : String → zS → Prop} {x1 : Int32} {σ : zS}
    (H : CT g l M_X7_of 0 [.ref (zad g 24), .int x1, .int 3] σ (zQi (fun v1 τ1 => CT g l M_X7_of 0 [.ref (zad g 24), .int x1, .int 4] τ1 (zQi (fun v2 τ2 => CT g l M_X7_sets 0 [.ref (zad g 24), .int x1, .int 3, .int v2] τ2 (zQv (fun τ3 => CT g l M_X7_sets 0 [.ref (zad g 24), .int x1, .int 4, .int v1] τ3 (zQv (fun τ4 => CT g l M_X7_firstOf 0 [.ref (zad g 24), .int x1] τ4 (zQi (fun v5 τ5 => L_X7_swaps_39 g l K X x1 0 v5 v5 τ5) (fun E τ => X E τ))) (fun E τ => X E τ))) (fun E τ => X E τ))) (fun E τ => X E τ))) (fun E τ => X E τ))) :
    CT g l M_X7_swaps 0 [.ref (zad g 24), .int x1] σ (zQi K X) := by
  refine CT_of rfl (by decide) (Nat.le_of_ble_eq_true rfl) ?_
  change EV _ _ _ _ _ 0 [(0, .ref (zad g 24)), (1, .int x1)] [] _
  refine e_aload_n dX7_swaps_0 rfl 0 rfl ?_
  refine e_iload_n dX7_swaps_1 rfl 1 rfl ?_
  refine e_iconst (v := 3) dX7_swaps_2 (by decide) ?_
  refine e_callVi (j1 := 0) (j2 := 0) (av := [.int x1, .int 3]) rfl rfl (Nat.le_of_ble_eq_true rfl) rfl rfl H i_X7_of rfl n_X7_of v_X7_of q_X7_164 (by decide) (by decide) (Nat.le_of_ble_eq_true rfl) dX7_swaps_3 (fun v1 τ1 H => ?_) (fun E τ H => H)
  refine e_istore_n (ls' := [(2, .int v1), (0, .ref (zad g 24)), (1, .int x1)]) dX7_swaps_6 rfl (by decide) rfl ?_
  refine e_aload_n dX7_swaps_7 rfl 1 rfl ?_
  refine e_iload_n dX7_swaps_8 rfl 2 rfl ?_
  refine e_iconst (v := 3) dX7_swaps_9 (by decide) ?_
  refine e_aload_n dX7_swaps_10 rfl 1 rfl ?_
  refine e_iload_n dX7_swaps_11 rfl 2 rfl ?_
  refine e_iconst (v := 4) dX7_swaps_12 (by decide) ?_
  refine e_callVi (j1 := 0) (j2 := 0) (av := [.int x1, .int 4]) rfl rfl (Nat.le_of_ble_eq_true rfl) rfl rfl H i_X7_of rfl n_X7_of v_X7_of q_X7_164 (by decide) (by decide) (Nat.le_of_ble_eq_true rfl) dX7_swaps_13 (fun v2 τ2 H => ?_) (fun E τ H => H)
  refine e_callVv (j1 := 0) (j2 := 0) (av := [.int x1, .int 3, .int v2]) rfl rfl (Nat.le_of_ble_eq_true rfl) rfl rfl H i_X7_sets rfl n_X7_sets v_X7_sets q_X7_203 (by decide) (by decide) (Nat.le_of_ble_eq_true rfl) dX7_swaps_16 (fun τ3 H => ?_) (fun E τ H => H)
  refine e_aload_n dX7_swaps_19 rfl 1 rfl ?_
  refine e_iload_n dX7_swaps_20 rfl 2 rfl ?_
  refine e_iconst (v := 4) dX7_swaps_21 (by decide) ?_
  refine e_iload_n dX7_swaps_22 rfl 0 rfl ?_
  refine e_callVv (j1 := 0) (j2 := 0) (av := [.int x1, .int 4, .int v1]) rfl rfl (Nat.le_of_ble_eq_true rfl) rfl rfl H i_X7_sets rfl n_X7_sets v_X7_sets q_X7_203 (by decide) (by decide) (Nat.le_of_ble_eq_true rfl) dX7_swaps_23 (fun τ4 H => ?_) (fun E τ H => H)
  refine e_iconst (v := 0) dX7_swaps_26 (by decide) ?_
  refine e_istore_n (ls' := [(3, .int 0), (2, .int v1), (0, .ref (zad g 24)), (1, .int x1)]) dX7_swaps_27 rfl (by decide) rfl ?_
  refine e_aload_n dX7_swaps_28 rfl 2 rfl ?_
  refine e_iload_n dX7_swaps_29 rfl 3 rfl ?_
  refine e_callVi (j1 := 0) (j2 := 0) (av := [.int x1]) rfl rfl (Nat.le_of_ble_eq_true rfl) rfl rfl H i_X7_firstOf rfl n_X7_firstOf v_X7_firstOf q_X7_167 (by decide) (by decide) (Nat.le_of_ble_eq_true rfl) dX7_swaps_30 (fun v5 τ5 H => ?_) (fun E τ H => H)
  refine e_istore (ls' := [(4, .int v5), (3, .int 0), (2, .int v1), (0, .ref (zad g 24)), (1, .int x1)]) dX7_swaps_33 (by decide) rfl ?_
  refine e_iload dX7_swaps_35 0 rfl ?_
  refine e_istore (ls' := [(5, .int v5), (4, .int v5), (3, .int 0), (2, .int v1), (0, .ref (zad g 24)), (1, .int x1)]) dX7_swaps_37 (by decide) rfl ?_
  refine e_ls [4, 5, 2, 1, 0] rfl ?_
  exact H
set_option maxRecDepth 20000 in
set_option maxHeartbeats 2000000 in
theorem b_X7_swaps_39 {g : zG} {l : Launch} {K : Int32 → zS → Prop} {X : String → zS → Prop} {y1 : Int32} {y3 : Int32} {y4 : Int32} {y5 : Int32} {σ : zS}
    (H : CT g l M_X7_of 0 [.ref (zad g 24), .int y1, .int 0] σ (zQi (fun v1 τ1 => (((y4 + v1) ≤ y5 → K y3 τ1) ∧ (¬ (y4 + v1) ≤ y5 → L_X7_swaps_56 g l K X y1 y3 y4 y5 0 τ1))) (fun E τ => X E τ))) :
    L_X7_swaps_39 g l K X y1 y3 y4 y5 σ := by
  refine e_iload dX7_swaps_39 4 rfl ?_
  refine e_iload dX7_swaps_41 3 rfl ?_
  refine e_aload_n dX7_swaps_43 rfl 0 rfl ?_
  refine e_iload_n dX7_swaps_44 rfl 1 rfl ?_
  refine e_iconst (v := 0) dX7_swaps_45 (by decide) ?_
  refine e_callVi (j1 := 0) (j2 := 0) (av := [.int y1, .int 0]) rfl rfl (Nat.le_of_ble_eq_true rfl) rfl rfl H i_X7_of rfl n_X7_of v_X7_of q_X7_164 (by decide) (by decide) (Nat.le_of_ble_eq_true rfl) dX7_swaps_46 (fun v1 τ1 H => ?_) (fun E τ H => H)
  refine e_iadd dX7_swaps_49 ?_
  refine e_icmp_ge (tgt := 152) dX7_swaps_50 (by decide) (fun h2 => ?_) (fun h2 => ?_)
  · replace H := H.1 h2
    refine e_iload_n dX7_swaps_152 rfl 2 rfl ?_
    exact e_iret rfl dX7_swaps_153 H
  · replace H := H.2 h2
    refine e_iconst (v := 0) dX7_swaps_53 (by decide) ?_
    refine e_istore (ls' := [(6, .int 0), (0, .ref (zad g 24)), (1, .int y1), (3, .int y3), (4, .int y4), (5, .int y5)]) dX7_swaps_54 (by decide) rfl ?_
    refine e_ls [1, 2, 3, 4, 5, 0] rfl ?_
    exact H
set_option maxRecDepth 20000 in
set_option maxHeartbeats 2000000 in
theorem b_X7_swaps_56 {g : zG} {l : Launch} {K : Int32 → zS → Prop} {X : String → zS → Prop} {y1 : Int32} {y3 : Int32} {y4 : Int32} {y5 : Int32} {y6 : Int32} {σ : zS}
    (H : (((σ.1 26 (Int32.toNatClampNeg 0)) ≤ y6 → L_X7_swaps_39 g l K X y1 y3 y4 (y5 + 1) σ) ∧ (¬ (σ.1 26 (Int32.toNatClampNeg 0)) ≤ y6 → CT g l M_X7_painted 0 [.ref (zad g 24), .int 0, .int y5, .int y6] σ (zQi (fun v2 τ2 => CT g l M_X7_painted 0 [.ref (zad g 24), .int 1, .int y5, .int y6] τ2 (zQi (fun v3 τ3 => ((v3 = v2 → CT g l M_X7_truth 0 [.int 0] τ3 (zQi (fun v5 τ5 => CT g l M_X7_faceCell 0 [.int 0, .int y5, .int y6] τ5 (zQi (fun v6 τ6 => CT g l M_X7_painted 0 [.ref (zad g 24), .int 1, .int y5, .int y6] τ6 (zQi (fun v7 τ7 => (vp_in v6 1110 ∧ (∀ σ8 : zS, σ8 = zup τ7 26 (Int32.toNatClampNeg v6) v7 → CT g l M_X7_faceCell 0 [.int 1, .int y5, .int y6] σ8 (zQi (fun v9 τ9 => (vp_in v9 1110 ∧ (∀ σ10 : zS, σ10 = zup τ9 26 (Int32.toNatClampNeg v9) v2 → L_X7_swaps_56 g l K X y1 (y3 + v5) y4 y5 (y6 + 1) σ10))) (fun E τ => X E τ))))) (fun E τ => X E τ))) (fun E τ => X E τ))) (fun E τ => X E τ))) ∧ (¬ v3 = v2 → CT g l M_X7_truth 0 [.int 1] τ3 (zQi (fun v11 τ11 => CT g l M_X7_faceCell 0 [.int 0, .int y5, .int y6] τ11 (zQi (fun v12 τ12 => CT g l M_X7_painted 0 [.ref (zad g 24), .int 1, .int y5, .int y6] τ12 (zQi (fun v13 τ13 => (vp_in v12 1110 ∧ (∀ σ14 : zS, σ14 = zup τ13 26 (Int32.toNatClampNeg v12) v13 → CT g l M_X7_faceCell 0 [.int 1, .int y5, .int y6] σ14 (zQi (fun v15 τ15 => (vp_in v15 1110 ∧ (∀ σ16 : zS, σ16 = zup τ15 26 (Int32.toNatClampNeg v15) v2 → L_X7_swaps_56 g l K X y1 (y3 + v11) y4 y5 (y6 + 1) σ16))) (fun E τ => X E τ))))) (fun E τ => X E τ))) (fun E τ => X E τ))) (fun E τ => X E τ))))) (fun E τ => X E τ))) (fun E τ => X E τ))))) :
    L_X7_swaps_56 g l K X y1 y3 y4 y5 y6 σ := by
  refine e_iload dX7_swaps_56 5 rfl ?_
  refine e_aload_n dX7_swaps_58 rfl 0 rfl ?_
  refine fg_X7_20 rfl dX7_swaps_59 ?_
  refine e_iconst (v := 0) dX7_swaps_62 (by decide) ?_
  refine e_iald (n := 1110) rfl (Nat.le_of_ble_eq_true rfl) (vil (by decide)) dX7_swaps_63 ?_
  refine e_icmp_ge (tgt := 146) dX7_swaps_64 (by decide) (fun h1 => ?_) (fun h1 => ?_)
  · replace H := H.1 h1
    refine e_iinc (j := 4) (v := (y5 + 1)) (ls' := [(5, .int (y5 + 1)), (0, .ref (zad g 24)), (1, .int y1), (3, .int y3), (4, .int y4), (6, .int y6)]) dX7_swaps_146 rfl rfl (by decide) rfl ?_
    refine e_goto (tgt := 39) dX7_swaps_149 (by decide) ?_
    refine e_ls [1, 2, 3, 4, 0] rfl ?_
    exact H
  · replace H := H.2 h1
    refine e_aload_n dX7_swaps_67 rfl 0 rfl ?_
    refine e_iconst (v := 0) dX7_swaps_68 (by decide) ?_
    refine e_iload dX7_swaps_69 4 rfl ?_
    refine e_iload dX7_swaps_71 5 rfl ?_
    refine e_callVi (j1 := 0) (j2 := 0) (av := [.int 0, .int y5, .int y6]) rfl rfl (Nat.le_of_ble_eq_true rfl) rfl rfl H i_X7_painted rfl n_X7_painted v_X7_painted q_X7_180 (by decide) (by decide) (Nat.le_of_ble_eq_true rfl) dX7_swaps_73 (fun v2 τ2 H => ?_) (fun E τ H => H)
    refine e_istore (ls' := [(7, .int v2), (0, .ref (zad g 24)), (1, .int y1), (3, .int y3), (4, .int y4), (5, .int y5), (6, .int y6)]) dX7_swaps_76 (by decide) rfl ?_
    refine e_iload_n dX7_swaps_78 rfl 3 rfl ?_
    refine e_aload_n dX7_swaps_79 rfl 1 rfl ?_
    refine e_iconst (v := 1) dX7_swaps_80 (by decide) ?_
    refine e_iload dX7_swaps_81 5 rfl ?_
    refine e_iload dX7_swaps_83 6 rfl ?_
    refine e_callVi (j1 := 0) (j2 := 0) (av := [.int 1, .int y5, .int y6]) rfl rfl (Nat.le_of_ble_eq_true rfl) rfl rfl H i_X7_painted rfl n_X7_painted v_X7_painted q_X7_180 (by decide) (by decide) (Nat.le_of_ble_eq_true rfl) dX7_swaps_85 (fun v3 τ3 H => ?_) (fun E τ H => H)
    refine e_iload dX7_swaps_88 0 rfl ?_
    refine e_icmp_eq (tgt := 97) dX7_swaps_90 (by decide) (fun h4 => ?_) (fun h4 => ?_)
    · replace H := H.1 h4
      refine e_iconst (v := 0) dX7_swaps_97 (by decide) ?_
      refine e_callSi (j1 := 0) (j2 := 0) (av := [.int 0]) rfl H i_X7_truth rfl s_X7_truth q_X7_71 (by decide) (by decide) (Nat.le_of_ble_eq_true rfl) dX7_swaps_98 (fun v5 τ5 H => ?_) (fun E τ H => H)
      refine e_iadd dX7_swaps_101 ?_
      refine e_istore_n (ls' := [(3, .int (y3 + v5)), (7, .int v2), (0, .ref (zad g 24)), (1, .int y1), (4, .int y4), (5, .int y5), (6, .int y6)]) dX7_swaps_102 rfl (by decide) rfl ?_
      refine e_aload_n dX7_swaps_103 rfl 2 rfl ?_
      refine fg_X7_20 rfl dX7_swaps_104 ?_
      refine e_iconst (v := 0) dX7_swaps_107 (by decide) ?_
      refine e_iload dX7_swaps_108 5 rfl ?_
      refine e_iload dX7_swaps_110 6 rfl ?_
      refine e_callSi (j1 := 0) (j2 := 0) (av := [.int 0, .int y5, .int y6]) rfl H i_X7_faceCell rfl s_X7_faceCell q_X7_160 (by decide) (by decide) (Nat.le_of_ble_eq_true rfl) dX7_swaps_112 (fun v6 τ6 H => ?_) (fun E τ H => H)
      refine e_aload_n dX7_swaps_115 rfl 2 rfl ?_
      refine e_iconst (v := 1) dX7_swaps_116 (by decide) ?_
      refine e_iload dX7_swaps_117 5 rfl ?_
      refine e_iload dX7_swaps_119 6 rfl ?_
      refine e_callVi (j1 := 0) (j2 := 0) (av := [.int 1, .int y5, .int y6]) rfl rfl (Nat.le_of_ble_eq_true rfl) rfl rfl H i_X7_painted rfl n_X7_painted v_X7_painted q_X7_180 (by decide) (by decide) (Nat.le_of_ble_eq_true rfl) dX7_swaps_121 (fun v7 τ7 H => ?_) (fun E τ H => H)
      refine e_iast (n := 1110) rfl (Nat.le_of_ble_eq_true rfl) H.1 dX7_swaps_124 ?_
      replace H := H.2
      replace H := H _ rfl
      generalize zup τ7 26 (Int32.toNatClampNeg v6) v7 = σ8 at H ⊢
      refine e_aload_n dX7_swaps_125 rfl 2 rfl ?_
      refine fg_X7_20 rfl dX7_swaps_126 ?_
      refine e_iconst (v := 1) dX7_swaps_129 (by decide) ?_
      refine e_iload dX7_swaps_130 5 rfl ?_
      refine e_iload dX7_swaps_132 6 rfl ?_
      refine e_callSi (j1 := 0) (j2 := 0) (av := [.int 1, .int y5, .int y6]) rfl H i_X7_faceCell rfl s_X7_faceCell q_X7_160 (by decide) (by decide) (Nat.le_of_ble_eq_true rfl) dX7_swaps_134 (fun v9 τ9 H => ?_) (fun E τ H => H)
      refine e_iload dX7_swaps_137 1 rfl ?_
      refine e_iast (n := 1110) rfl (Nat.le_of_ble_eq_true rfl) H.1 dX7_swaps_139 ?_
      replace H := H.2
      replace H := H _ rfl
      generalize zup τ9 26 (Int32.toNatClampNeg v9) v2 = σ10 at H ⊢
      refine e_iinc (j := 6) (v := (y6 + 1)) (ls' := [(6, .int (y6 + 1)), (3, .int (y3 + v5)), (7, .int v2), (0, .ref (zad g 24)), (1, .int y1), (4, .int y4), (5, .int y5)]) dX7_swaps_140 rfl rfl (by decide) rfl ?_
      refine e_goto (tgt := 56) dX7_swaps_143 (by decide) ?_
      refine e_ls [3, 4, 1, 5, 6, 0] rfl ?_
      exact H
    · replace H := H.2 h4
      refine e_iconst (v := 1) dX7_swaps_93 (by decide) ?_
      refine e_goto (tgt := 98) dX7_swaps_94 (by decide) ?_
      refine e_callSi (j1 := 0) (j2 := 0) (av := [.int 1]) rfl H i_X7_truth rfl s_X7_truth q_X7_71 (by decide) (by decide) (Nat.le_of_ble_eq_true rfl) dX7_swaps_98 (fun v11 τ11 H => ?_) (fun E τ H => H)
      refine e_iadd dX7_swaps_101 ?_
      refine e_istore_n (ls' := [(3, .int (y3 + v11)), (7, .int v2), (0, .ref (zad g 24)), (1, .int y1), (4, .int y4), (5, .int y5), (6, .int y6)]) dX7_swaps_102 rfl (by decide) rfl ?_
      refine e_aload_n dX7_swaps_103 rfl 2 rfl ?_
      refine fg_X7_20 rfl dX7_swaps_104 ?_
      refine e_iconst (v := 0) dX7_swaps_107 (by decide) ?_
      refine e_iload dX7_swaps_108 5 rfl ?_
      refine e_iload dX7_swaps_110 6 rfl ?_
      refine e_callSi (j1 := 0) (j2 := 0) (av := [.int 0, .int y5, .int y6]) rfl H i_X7_faceCell rfl s_X7_faceCell q_X7_160 (by decide) (by decide) (Nat.le_of_ble_eq_true rfl) dX7_swaps_112 (fun v12 τ12 H => ?_) (fun E τ H => H)
      refine e_aload_n dX7_swaps_115 rfl 2 rfl ?_
      refine e_iconst (v := 1) dX7_swaps_116 (by decide) ?_
      refine e_iload dX7_swaps_117 5 rfl ?_
      refine e_iload dX7_swaps_119 6 rfl ?_
      refine e_callVi (j1 := 0) (j2 := 0) (av := [.int 1, .int y5, .int y6]) rfl rfl (Nat.le_of_ble_eq_true rfl) rfl rfl H i_X7_painted rfl n_X7_painted v_X7_painted q_X7_180 (by decide) (by decide) (Nat.le_of_ble_eq_true rfl) dX7_swaps_121 (fun v13 τ13 H => ?_) (fun E τ H => H)
      refine e_iast (n := 1110) rfl (Nat.le_of_ble_eq_true rfl) H.1 dX7_swaps_124 ?_
      replace H := H.2
      replace H := H _ rfl
      generalize zup τ13 26 (Int32.toNatClampNeg v12) v13 = σ14 at H ⊢
      refine e_aload_n dX7_swaps_125 rfl 2 rfl ?_
      refine fg_X7_20 rfl dX7_swaps_126 ?_
      refine e_iconst (v := 1) dX7_swaps_129 (by decide) ?_
      refine e_iload dX7_swaps_130 5 rfl ?_
      refine e_iload dX7_swaps_132 6 rfl ?_
      refine e_callSi (j1 := 0) (j2 := 0) (av := [.int 1, .int y5, .int y6]) rfl H i_X7_faceCell rfl s_X7_faceCell q_X7_160 (by decide) (by decide) (Nat.le_of_ble_eq_true rfl) dX7_swaps_134 (fun v15 τ15 H => ?_) (fun E τ H => H)
      refine e_iload dX7_swaps_137 1 rfl ?_
      refine e_iast (n := 1110) rfl (Nat.le_of_ble_eq_true rfl) H.1 dX7_swaps_139 ?_
      replace H := H.2
      replace H := H _ rfl
      generalize zup τ15 26 (Int32.toNatClampNeg v15) v2 = σ16 at H ⊢
      refine e_iinc (j := 6) (v := (y6 + 1)) (ls' := [(6, .int (y6 + 1)), (3, .int (y3 + v11)), (7, .int v2), (0, .ref (zad g 24)), (1, .int y1), (4, .int y4), (5, .int y5)]) dX7_swaps_140 rfl rfl (by decide) rfl ?_
      refine e_goto (tgt := 56) dX7_swaps_143 (by decide) ?_
      refine e_ls [3, 4, 1, 5, 6, 0] rfl ?_
      exact H
set_option maxRecDepth 20000 in
set_option maxHeartbeats 2000000 in
theorem b_X7_swap {g : zG} {l : Launch} {K : Int32 → zS → Prop} {X : String → zS → Prop} {x1 : Int32} {σ : zS}
    (H : CT g l M_X7_isSlat 0 [.ref (zad g 24), .int x1] σ (zQi (fun v1 τ1 => CT g l M_X7_goes 0 [.ref (zad g 24), .int v1] τ1 (zQi (fun v2 τ2 => ((¬ v2 = 0 → CT g l M_X7_laysAside 0 [.ref (zad g 24)] τ2 (zQv (fun τ4 => CT g l M_X7_swaps 0 [.ref (zad g 24), .int x1] τ4 (zQi (fun v5 τ5 => CT g l M_X7_kept 0 [.ref (zad g 24), .int v5] τ5 (zQi (fun v6 τ6 => K v6 τ6) (fun E τ => X E τ))) (fun E τ => X E τ))) (fun E τ => X E τ))) ∧ (v2 = 0 → K 0 τ2))) (fun E τ => X E τ))) (fun E τ => X E τ))) :
    CT g l M_X7_swap 0 [.ref (zad g 24), .int x1] σ (zQi K X) := by
  refine CT_of rfl (by decide) (Nat.le_of_ble_eq_true rfl) ?_
  change EV _ _ _ _ _ 0 [(0, .ref (zad g 24)), (1, .int x1)] [] _
  refine e_aload_n dX7_swap_0 rfl 0 rfl ?_
  refine e_aload_n dX7_swap_1 rfl 0 rfl ?_
  refine e_iload_n dX7_swap_2 rfl 1 rfl ?_
  refine e_callVi (j1 := 0) (j2 := 0) (av := [.int x1]) rfl rfl (Nat.le_of_ble_eq_true rfl) rfl rfl H i_X7_isSlat rfl n_X7_isSlat v_X7_isSlat q_X7_290 (by decide) (by decide) (Nat.le_of_ble_eq_true rfl) dX7_swap_3 (fun v1 τ1 H => ?_) (fun E τ H => H)
  refine e_callVi (j1 := 0) (j2 := 0) (av := [.int v1]) rfl rfl (Nat.le_of_ble_eq_true rfl) rfl rfl H i_X7_goes rfl n_X7_goes v_X7_goes q_X7_78 (by decide) (by decide) (Nat.le_of_ble_eq_true rfl) dX7_swap_6 (fun v2 τ2 H => ?_) (fun E τ H => H)
  refine e_if_ne (tgt := 14) dX7_swap_9 (by decide) (fun h3 => ?_) (fun h3 => ?_)
  · replace H := H.1 h3
    refine e_aload_n dX7_swap_14 rfl 0 rfl ?_
    refine e_callVv (j1 := 0) (j2 := 0) (av := []) rfl rfl (Nat.le_of_ble_eq_true rfl) rfl rfl H i_X7_laysAside rfl n_X7_laysAside v_X7_laysAside q_X7_240 (by decide) (by decide) (Nat.le_of_ble_eq_true rfl) dX7_swap_15 (fun τ4 H => ?_) (fun E τ H => H)
    refine e_aload_n dX7_swap_18 rfl 0 rfl ?_
    refine e_aload_n dX7_swap_19 rfl 0 rfl ?_
    refine e_iload_n dX7_swap_20 rfl 1 rfl ?_
    refine e_callVi (j1 := 0) (j2 := 0) (av := [.int x1]) rfl rfl (Nat.le_of_ble_eq_true rfl) rfl rfl H i_X7_swaps rfl n_X7_swaps v_X7_swaps q_X7_430 (by decide) (by decide) (Nat.le_of_ble_eq_true rfl) dX7_swap_21 (fun v5 τ5 H => ?_) (fun E τ H => H)
    refine e_callVi (j1 := 0) (j2 := 0) (av := [.int v5]) rfl rfl (Nat.le_of_ble_eq_true rfl) rfl rfl H i_X7_kept rfl n_X7_kept v_X7_kept q_X7_396 (by decide) (by decide) (Nat.le_of_ble_eq_true rfl) dX7_swap_24 (fun v6 τ6 H => ?_) (fun E τ H => H)
    exact e_iret rfl dX7_swap_27 H
  · replace H := H.2 h3
    refine e_iconst (v := 0) dX7_swap_12 (by decide) ?_
    exact e_iret rfl dX7_swap_13 H
set_option maxRecDepth 20000 in
set_option maxHeartbeats 2000000 in
theorem b_X7_spots {g : zG} {l : Launch} {K : Int32 → zS → Prop} {X : String → zS → Prop} {x1 : Int32} {x2 : Int32} {x3 : Int32} {x4 : Int32} {σ : zS}
    (H : CT g l M_X7_laysBox 0 [.ref (zad g 24), .int x1, .int x2, .int x3, .int 1, .int 1] σ (zQv (fun τ1 => CT g l M_X7_setsBox 0 [.ref (zad g 24), .int (σ.1 26 (Int32.toNatClampNeg 3)), .int 5, .int x4] τ1 (zQv (fun τ2 => K (τ2.1 26 (Int32.toNatClampNeg 3)) τ2) (fun E τ => X E τ))) (fun E τ => X E τ))) :
    CT g l M_X7_spots 0 [.ref (zad g 24), .int x1, .int x2, .int x3, .int x4] σ (zQi K X) := by
  refine CT_of rfl (by decide) (Nat.le_of_ble_eq_true rfl) ?_
  change EV _ _ _ _ _ 0 [(0, .ref (zad g 24)), (1, .int x1), (2, .int x2), (3, .int x3), (4, .int x4)] [] _
  refine e_aload_n dX7_spots_0 rfl 0 rfl ?_
  refine fg_X7_20 rfl dX7_spots_1 ?_
  refine e_iconst (v := 3) dX7_spots_4 (by decide) ?_
  refine e_iald (n := 1110) rfl (Nat.le_of_ble_eq_true rfl) (vil (by decide)) dX7_spots_5 ?_
  refine e_istore (ls' := [(5, .int (σ.1 26 (Int32.toNatClampNeg 3))), (0, .ref (zad g 24)), (1, .int x1), (2, .int x2), (3, .int x3), (4, .int x4)]) dX7_spots_6 (by decide) rfl ?_
  refine e_aload_n dX7_spots_8 rfl 1 rfl ?_
  refine e_iload_n dX7_spots_9 rfl 2 rfl ?_
  refine e_iload_n dX7_spots_10 rfl 3 rfl ?_
  refine e_iload_n dX7_spots_11 rfl 4 rfl ?_
  refine e_iconst (v := 1) dX7_spots_12 (by decide) ?_
  refine e_iconst (v := 1) dX7_spots_13 (by decide) ?_
  refine e_callVv (j1 := 0) (j2 := 0) (av := [.int x1, .int x2, .int x3, .int 1, .int 1]) rfl rfl (Nat.le_of_ble_eq_true rfl) rfl rfl H i_X7_laysBox rfl n_X7_laysBox v_X7_laysBox q_X7_207 (by decide) (by decide) (Nat.le_of_ble_eq_true rfl) dX7_spots_14 (fun τ1 H => ?_) (fun E τ H => H)
  refine e_aload_n dX7_spots_17 rfl 1 rfl ?_
  refine e_iload dX7_spots_18 0 rfl ?_
  refine e_iconst (v := 5) dX7_spots_20 (by decide) ?_
  refine e_iload dX7_spots_21 5 rfl ?_
  refine e_callVv (j1 := 0) (j2 := 0) (av := [.int (σ.1 26 (Int32.toNatClampNeg 3)), .int 5, .int x4]) rfl rfl (Nat.le_of_ble_eq_true rfl) rfl rfl H i_X7_setsBox rfl n_X7_setsBox v_X7_setsBox q_X7_211 (by decide) (by decide) (Nat.le_of_ble_eq_true rfl) dX7_spots_23 (fun τ2 H => ?_) (fun E τ H => H)
  refine e_aload_n dX7_spots_26 rfl 1 rfl ?_
  refine fg_X7_20 rfl dX7_spots_27 ?_
  refine e_iconst (v := 3) dX7_spots_30 (by decide) ?_
  refine e_iald (n := 1110) rfl (Nat.le_of_ble_eq_true rfl) (vil (by decide)) dX7_spots_31 ?_
  exact e_iret rfl dX7_spots_32 H
set_option maxRecDepth 20000 in
set_option maxHeartbeats 2000000 in
theorem b_X7_spot {g : zG} {l : Launch} {K : Int32 → zS → Prop} {X : String → zS → Prop} {x1 : Int32} {x2 : Int32} {x3 : Int32} {x4 : Int32} {σ : zS}
    (H : CT g l M_X7_isColumn 0 [.ref (zad g 24), .int x2] σ (zQi (fun v1 τ1 => ((v1 = 0 → CT g l M_X7_isColour 0 [.int x4] τ1 (zQi (fun v3 τ3 => ((16 ≤ (τ3.1 26 (Int32.toNatClampNeg 3)) → CT g l M_X7_goesAll 0 [.ref (zad g 24), .int 0, .int v3, .int 0] τ3 (zQi (fun v5 τ5 => ((¬ v5 = 0 → CT g l M_X7_laysAside 0 [.ref (zad g 24)] τ5 (zQv (fun τ7 => CT g l M_X7_truth 0 [.int x1] τ7 (zQi (fun v8 τ8 => CT g l M_X7_spots 0 [.ref (zad g 24), .int v8, .int x2, .int x3, .int x4] τ8 (zQi (fun v9 τ9 => CT g l M_X7_kept 0 [.ref (zad g 24), .int v9] τ9 (zQi (fun v10 τ10 => K v10 τ10) (fun E τ => X E τ))) (fun E τ => X E τ))) (fun E τ => X E τ))) (fun E τ => X E τ))) ∧ (v5 = 0 → K 0 τ5))) (fun E τ => X E τ))) ∧ (¬ 16 ≤ (τ3.1 26 (Int32.toNatClampNeg 3)) → CT g l M_X7_goesAll 0 [.ref (zad g 24), .int 0, .int v3, .int 1] τ3 (zQi (fun v11 τ11 => ((¬ v11 = 0 → CT g l M_X7_laysAside 0 [.ref (zad g 24)] τ11 (zQv (fun τ13 => CT g l M_X7_truth 0 [.int x1] τ13 (zQi (fun v14 τ14 => CT g l M_X7_spots 0 [.ref (zad g 24), .int v14, .int x2, .int x3, .int x4] τ14 (zQi (fun v15 τ15 => CT g l M_X7_kept 0 [.ref (zad g 24), .int v15] τ15 (zQi (fun v16 τ16 => K v16 τ16) (fun E τ => X E τ))) (fun E τ => X E τ))) (fun E τ => X E τ))) (fun E τ => X E τ))) ∧ (v11 = 0 → K 0 τ11))) (fun E τ => X E τ))))) (fun E τ => X E τ))) ∧ (¬ v1 = 0 → CT g l M_X7_isRow 0 [.ref (zad g 24), .int x3] τ1 (zQi (fun v17 τ17 => ((v17 = 0 → CT g l M_X7_isColour 0 [.int x4] τ17 (zQi (fun v19 τ19 => ((16 ≤ (τ19.1 26 (Int32.toNatClampNeg 3)) → CT g l M_X7_goesAll 0 [.ref (zad g 24), .int 0, .int v19, .int 0] τ19 (zQi (fun v21 τ21 => ((¬ v21 = 0 → CT g l M_X7_laysAside 0 [.ref (zad g 24)] τ21 (zQv (fun τ23 => CT g l M_X7_truth 0 [.int x1] τ23 (zQi (fun v24 τ24 => CT g l M_X7_spots 0 [.ref (zad g 24), .int v24, .int x2, .int x3, .int x4] τ24 (zQi (fun v25 τ25 => CT g l M_X7_kept 0 [.ref (zad g 24), .int v25] τ25 (zQi (fun v26 τ26 => K v26 τ26) (fun E τ => X E τ))) (fun E τ => X E τ))) (fun E τ => X E τ))) (fun E τ => X E τ))) ∧ (v21 = 0 → K 0 τ21))) (fun E τ => X E τ))) ∧ (¬ 16 ≤ (τ19.1 26 (Int32.toNatClampNeg 3)) → CT g l M_X7_goesAll 0 [.ref (zad g 24), .int 0, .int v19, .int 1] τ19 (zQi (fun v27 τ27 => ((¬ v27 = 0 → CT g l M_X7_laysAside 0 [.ref (zad g 24)] τ27 (zQv (fun τ29 => CT g l M_X7_truth 0 [.int x1] τ29 (zQi (fun v30 τ30 => CT g l M_X7_spots 0 [.ref (zad g 24), .int v30, .int x2, .int x3, .int x4] τ30 (zQi (fun v31 τ31 => CT g l M_X7_kept 0 [.ref (zad g 24), .int v31] τ31 (zQi (fun v32 τ32 => K v32 τ32) (fun E τ => X E τ))) (fun E τ => X E τ))) (fun E τ => X E τ))) (fun E τ => X E τ))) ∧ (v27 = 0 → K 0 τ27))) (fun E τ => X E τ))))) (fun E τ => X E τ))) ∧ (¬ v17 = 0 → CT g l M_X7_isColour 0 [.int x4] τ17 (zQi (fun v33 τ33 => ((16 ≤ (τ33.1 26 (Int32.toNatClampNeg 3)) → CT g l M_X7_goesAll 0 [.ref (zad g 24), .int 1, .int v33, .int 0] τ33 (zQi (fun v35 τ35 => ((¬ v35 = 0 → CT g l M_X7_laysAside 0 [.ref (zad g 24)] τ35 (zQv (fun τ37 => CT g l M_X7_truth 0 [.int x1] τ37 (zQi (fun v38 τ38 => CT g l M_X7_spots 0 [.ref (zad g 24), .int v38, .int x2, .int x3, .int x4] τ38 (zQi (fun v39 τ39 => CT g l M_X7_kept 0 [.ref (zad g 24), .int v39] τ39 (zQi (fun v40 τ40 => K v40 τ40) (fun E τ => X E τ))) (fun E τ => X E τ))) (fun E τ => X E τ))) (fun E τ => X E τ))) ∧ (v35 = 0 → K 0 τ35))) (fun E τ => X E τ))) ∧ (¬ 16 ≤ (τ33.1 26 (Int32.toNatClampNeg 3)) → CT g l M_X7_goesAll 0 [.ref (zad g 24), .int 1, .int v33, .int 1] τ33 (zQi (fun v41 τ41 => ((¬ v41 = 0 → CT g l M_X7_laysAside 0 [.ref (zad g 24)] τ41 (zQv (fun τ43 => CT g l M_X7_truth 0 [.int x1] τ43 (zQi (fun v44 τ44 => CT g l M_X7_spots 0 [.ref (zad g 24), .int v44, .int x2, .int x3, .int x4] τ44 (zQi (fun v45 τ45 => CT g l M_X7_kept 0 [.ref (zad g 24), .int v45] τ45 (zQi (fun v46 τ46 => K v46 τ46) (fun E τ => X E τ))) (fun E τ => X E τ))) (fun E τ => X E τ))) (fun E τ => X E τ))) ∧ (v41 = 0 → K 0 τ41))) (fun E τ => X E τ))))) (fun E τ => X E τ))))) (fun E τ => X E τ))))) (fun E τ => X E τ))) :
    CT g l M_X7_spot 0 [.ref (zad g 24), .int x1, .int x2, .int x3, .int x4] σ (zQi K X) := by
  refine CT_of rfl (by decide) (Nat.le_of_ble_eq_true rfl) ?_
  change EV _ _ _ _ _ 0 [(0, .ref (zad g 24)), (1, .int x1), (2, .int x2), (3, .int x3), (4, .int x4)] [] _
  refine e_aload_n dX7_spot_0 rfl 0 rfl ?_
  refine e_aload_n dX7_spot_1 rfl 0 rfl ?_
  refine e_iload_n dX7_spot_2 rfl 2 rfl ?_
  refine e_callVi (j1 := 0) (j2 := 0) (av := [.int x2]) rfl rfl (Nat.le_of_ble_eq_true rfl) rfl rfl H i_X7_isColumn rfl n_X7_isColumn v_X7_isColumn q_X7_320 (by decide) (by decide) (Nat.le_of_ble_eq_true rfl) dX7_spot_3 (fun v1 τ1 H => ?_) (fun E τ H => H)
  refine e_if_eq (tgt := 21) dX7_spot_6 (by decide) (fun h2 => ?_) (fun h2 => ?_)
  · replace H := H.1 h2
    refine e_iconst (v := 0) dX7_spot_21 (by decide) ?_
    refine e_iload dX7_spot_22 4 rfl ?_
    refine e_callSi (j1 := 0) (j2 := 0) (av := [.int x4]) rfl H i_X7_isColour rfl s_X7_isColour q_X7_423 (by decide) (by decide) (Nat.le_of_ble_eq_true rfl) dX7_spot_24 (fun v3 τ3 H => ?_) (fun E τ H => H)
    refine e_aload_n dX7_spot_27 rfl 0 rfl ?_
    refine fg_X7_20 rfl dX7_spot_28 ?_
    refine e_iconst (v := 3) dX7_spot_31 (by decide) ?_
    refine e_iald (n := 1110) rfl (Nat.le_of_ble_eq_true rfl) (vil (by decide)) dX7_spot_32 ?_
    refine e_bipush (v := 16) dX7_spot_33 (by decide) ?_
    refine e_icmp_ge (tgt := 42) dX7_spot_35 (by decide) (fun h4 => ?_) (fun h4 => ?_)
    · replace H := H.1 h4
      refine e_iconst (v := 0) dX7_spot_42 (by decide) ?_
      refine e_callVi (j1 := 0) (j2 := 0) (av := [.int 0, .int v3, .int 0]) rfl rfl (Nat.le_of_ble_eq_true rfl) rfl rfl H i_X7_goesAll rfl n_X7_goesAll v_X7_goesAll q_X7_409 (by decide) (by decide) (Nat.le_of_ble_eq_true rfl) dX7_spot_43 (fun v5 τ5 H => ?_) (fun E τ H => H)
      refine e_if_ne (tgt := 51) dX7_spot_46 (by decide) (fun h6 => ?_) (fun h6 => ?_)
      · replace H := H.1 h6
        refine e_aload_n dX7_spot_51 rfl 0 rfl ?_
        refine e_callVv (j1 := 0) (j2 := 0) (av := []) rfl rfl (Nat.le_of_ble_eq_true rfl) rfl rfl H i_X7_laysAside rfl n_X7_laysAside v_X7_laysAside q_X7_240 (by decide) (by decide) (Nat.le_of_ble_eq_true rfl) dX7_spot_52 (fun τ7 H => ?_) (fun E τ H => H)
        refine e_aload_n dX7_spot_55 rfl 0 rfl ?_
        refine e_aload_n dX7_spot_56 rfl 0 rfl ?_
        refine e_iload_n dX7_spot_57 rfl 1 rfl ?_
        refine e_callSi (j1 := 0) (j2 := 0) (av := [.int x1]) rfl H i_X7_truth rfl s_X7_truth q_X7_71 (by decide) (by decide) (Nat.le_of_ble_eq_true rfl) dX7_spot_58 (fun v8 τ8 H => ?_) (fun E τ H => H)
        refine e_iload_n dX7_spot_61 rfl 2 rfl ?_
        refine e_iload_n dX7_spot_62 rfl 3 rfl ?_
        refine e_iload dX7_spot_63 4 rfl ?_
        refine e_callVi (j1 := 0) (j2 := 0) (av := [.int v8, .int x2, .int x3, .int x4]) rfl rfl (Nat.le_of_ble_eq_true rfl) rfl rfl H i_X7_spots rfl n_X7_spots v_X7_spots q_X7_433 (by decide) (by decide) (Nat.le_of_ble_eq_true rfl) dX7_spot_65 (fun v9 τ9 H => ?_) (fun E τ H => H)
        refine e_callVi (j1 := 0) (j2 := 0) (av := [.int v9]) rfl rfl (Nat.le_of_ble_eq_true rfl) rfl rfl H i_X7_kept rfl n_X7_kept v_X7_kept q_X7_396 (by decide) (by decide) (Nat.le_of_ble_eq_true rfl) dX7_spot_68 (fun v10 τ10 H => ?_) (fun E τ H => H)
        exact e_iret rfl dX7_spot_71 H
      · replace H := H.2 h6
        refine e_iconst (v := 0) dX7_spot_49 (by decide) ?_
        exact e_iret rfl dX7_spot_50 H
    · replace H := H.2 h4
      refine e_iconst (v := 1) dX7_spot_38 (by decide) ?_
      refine e_goto (tgt := 43) dX7_spot_39 (by decide) ?_
      refine e_callVi (j1 := 0) (j2 := 0) (av := [.int 0, .int v3, .int 1]) rfl rfl (Nat.le_of_ble_eq_true rfl) rfl rfl H i_X7_goesAll rfl n_X7_goesAll v_X7_goesAll q_X7_409 (by decide) (by decide) (Nat.le_of_ble_eq_true rfl) dX7_spot_43 (fun v11 τ11 H => ?_) (fun E τ H => H)
      refine e_if_ne (tgt := 51) dX7_spot_46 (by decide) (fun h12 => ?_) (fun h12 => ?_)
      · replace H := H.1 h12
        refine e_aload_n dX7_spot_51 rfl 0 rfl ?_
        refine e_callVv (j1 := 0) (j2 := 0) (av := []) rfl rfl (Nat.le_of_ble_eq_true rfl) rfl rfl H i_X7_laysAside rfl n_X7_laysAside v_X7_laysAside q_X7_240 (by decide) (by decide) (Nat.le_of_ble_eq_true rfl) dX7_spot_52 (fun τ13 H => ?_) (fun E τ H => H)
        refine e_aload_n dX7_spot_55 rfl 0 rfl ?_
        refine e_aload_n dX7_spot_56 rfl 0 rfl ?_
        refine e_iload_n dX7_spot_57 rfl 1 rfl ?_
        refine e_callSi (j1 := 0) (j2 := 0) (av := [.int x1]) rfl H i_X7_truth rfl s_X7_truth q_X7_71 (by decide) (by decide) (Nat.le_of_ble_eq_true rfl) dX7_spot_58 (fun v14 τ14 H => ?_) (fun E τ H => H)
        refine e_iload_n dX7_spot_61 rfl 2 rfl ?_
        refine e_iload_n dX7_spot_62 rfl 3 rfl ?_
        refine e_iload dX7_spot_63 4 rfl ?_
        refine e_callVi (j1 := 0) (j2 := 0) (av := [.int v14, .int x2, .int x3, .int x4]) rfl rfl (Nat.le_of_ble_eq_true rfl) rfl rfl H i_X7_spots rfl n_X7_spots v_X7_spots q_X7_433 (by decide) (by decide) (Nat.le_of_ble_eq_true rfl) dX7_spot_65 (fun v15 τ15 H => ?_) (fun E τ H => H)
        refine e_callVi (j1 := 0) (j2 := 0) (av := [.int v15]) rfl rfl (Nat.le_of_ble_eq_true rfl) rfl rfl H i_X7_kept rfl n_X7_kept v_X7_kept q_X7_396 (by decide) (by decide) (Nat.le_of_ble_eq_true rfl) dX7_spot_68 (fun v16 τ16 H => ?_) (fun E τ H => H)
        exact e_iret rfl dX7_spot_71 H
      · replace H := H.2 h12
        refine e_iconst (v := 0) dX7_spot_49 (by decide) ?_
        exact e_iret rfl dX7_spot_50 H
  · replace H := H.2 h2
    refine e_aload_n dX7_spot_9 rfl 0 rfl ?_
    refine e_iload_n dX7_spot_10 rfl 3 rfl ?_
    refine e_callVi (j1 := 0) (j2 := 0) (av := [.int x3]) rfl rfl (Nat.le_of_ble_eq_true rfl) rfl rfl H i_X7_isRow rfl n_X7_isRow v_X7_isRow q_X7_293 (by decide) (by decide) (Nat.le_of_ble_eq_true rfl) dX7_spot_11 (fun v17 τ17 H => ?_) (fun E τ H => H)
    refine e_if_eq (tgt := 21) dX7_spot_14 (by decide) (fun h18 => ?_) (fun h18 => ?_)
    · replace H := H.1 h18
      refine e_iconst (v := 0) dX7_spot_21 (by decide) ?_
      refine e_iload dX7_spot_22 4 rfl ?_
      refine e_callSi (j1 := 0) (j2 := 0) (av := [.int x4]) rfl H i_X7_isColour rfl s_X7_isColour q_X7_423 (by decide) (by decide) (Nat.le_of_ble_eq_true rfl) dX7_spot_24 (fun v19 τ19 H => ?_) (fun E τ H => H)
      refine e_aload_n dX7_spot_27 rfl 0 rfl ?_
      refine fg_X7_20 rfl dX7_spot_28 ?_
      refine e_iconst (v := 3) dX7_spot_31 (by decide) ?_
      refine e_iald (n := 1110) rfl (Nat.le_of_ble_eq_true rfl) (vil (by decide)) dX7_spot_32 ?_
      refine e_bipush (v := 16) dX7_spot_33 (by decide) ?_
      refine e_icmp_ge (tgt := 42) dX7_spot_35 (by decide) (fun h20 => ?_) (fun h20 => ?_)
      · replace H := H.1 h20
        refine e_iconst (v := 0) dX7_spot_42 (by decide) ?_
        refine e_callVi (j1 := 0) (j2 := 0) (av := [.int 0, .int v19, .int 0]) rfl rfl (Nat.le_of_ble_eq_true rfl) rfl rfl H i_X7_goesAll rfl n_X7_goesAll v_X7_goesAll q_X7_409 (by decide) (by decide) (Nat.le_of_ble_eq_true rfl) dX7_spot_43 (fun v21 τ21 H => ?_) (fun E τ H => H)
        refine e_if_ne (tgt := 51) dX7_spot_46 (by decide) (fun h22 => ?_) (fun h22 => ?_)
        · replace H := H.1 h22
          refine e_aload_n dX7_spot_51 rfl 0 rfl ?_
          refine e_callVv (j1 := 0) (j2 := 0) (av := []) rfl rfl (Nat.le_of_ble_eq_true rfl) rfl rfl H i_X7_laysAside rfl n_X7_laysAside v_X7_laysAside q_X7_240 (by decide) (by decide) (Nat.le_of_ble_eq_true rfl) dX7_spot_52 (fun τ23 H => ?_) (fun E τ H => H)
          refine e_aload_n dX7_spot_55 rfl 0 rfl ?_
          refine e_aload_n dX7_spot_56 rfl 0 rfl ?_
          refine e_iload_n dX7_spot_57 rfl 1 rfl ?_
          refine e_callSi (j1 := 0) (j2 := 0) (av := [.int x1]) rfl H i_X7_truth rfl s_X7_truth q_X7_71 (by decide) (by decide) (Nat.le_of_ble_eq_true rfl) dX7_spot_58 (fun v24 τ24 H => ?_) (fun E τ H => H)
          refine e_iload_n dX7_spot_61 rfl 2 rfl ?_
          refine e_iload_n dX7_spot_62 rfl 3 rfl ?_
          refine e_iload dX7_spot_63 4 rfl ?_
          refine e_callVi (j1 := 0) (j2 := 0) (av := [.int v24, .int x2, .int x3, .int x4]) rfl rfl (Nat.le_of_ble_eq_true rfl) rfl rfl H i_X7_spots rfl n_X7_spots v_X7_spots q_X7_433 (by decide) (by decide) (Nat.le_of_ble_eq_true rfl) dX7_spot_65 (fun v25 τ25 H => ?_) (fun E τ H => H)
          refine e_callVi (j1 := 0) (j2 := 0) (av := [.int v25]) rfl rfl (Nat.le_of_ble_eq_true rfl) rfl rfl H i_X7_kept rfl n_X7_kept v_X7_kept q_X7_396 (by decide) (by decide) (Nat.le_of_ble_eq_true rfl) dX7_spot_68 (fun v26 τ26 H => ?_) (fun E τ H => H)
          exact e_iret rfl dX7_spot_71 H
        · replace H := H.2 h22
          refine e_iconst (v := 0) dX7_spot_49 (by decide) ?_
          exact e_iret rfl dX7_spot_50 H
      · replace H := H.2 h20
        refine e_iconst (v := 1) dX7_spot_38 (by decide) ?_
        refine e_goto (tgt := 43) dX7_spot_39 (by decide) ?_
        refine e_callVi (j1 := 0) (j2 := 0) (av := [.int 0, .int v19, .int 1]) rfl rfl (Nat.le_of_ble_eq_true rfl) rfl rfl H i_X7_goesAll rfl n_X7_goesAll v_X7_goesAll q_X7_409 (by decide) (by decide) (Nat.le_of_ble_eq_true rfl) dX7_spot_43 (fun v27 τ27 H => ?_) (fun E τ H => H)
        refine e_if_ne (tgt := 51) dX7_spot_46 (by decide) (fun h28 => ?_) (fun h28 => ?_)
        · replace H := H.1 h28
          refine e_aload_n dX7_spot_51 rfl 0 rfl ?_
          refine e_callVv (j1 := 0) (j2 := 0) (av := []) rfl rfl (Nat.le_of_ble_eq_true rfl) rfl rfl H i_X7_laysAside rfl n_X7_laysAside v_X7_laysAside q_X7_240 (by decide) (by decide) (Nat.le_of_ble_eq_true rfl) dX7_spot_52 (fun τ29 H => ?_) (fun E τ H => H)
          refine e_aload_n dX7_spot_55 rfl 0 rfl ?_
          refine e_aload_n dX7_spot_56 rfl 0 rfl ?_
          refine e_iload_n dX7_spot_57 rfl 1 rfl ?_
          refine e_callSi (j1 := 0) (j2 := 0) (av := [.int x1]) rfl H i_X7_truth rfl s_X7_truth q_X7_71 (by decide) (by decide) (Nat.le_of_ble_eq_true rfl) dX7_spot_58 (fun v30 τ30 H => ?_) (fun E τ H => H)
          refine e_iload_n dX7_spot_61 rfl 2 rfl ?_
          refine e_iload_n dX7_spot_62 rfl 3 rfl ?_
          refine e_iload dX7_spot_63 4 rfl ?_
          refine e_callVi (j1 := 0) (j2 := 0) (av := [.int v30, .int x2, .int x3, .int x4]) rfl rfl (Nat.le_of_ble_eq_true rfl) rfl rfl H i_X7_spots rfl n_X7_spots v_X7_spots q_X7_433 (by decide) (by decide) (Nat.le_of_ble_eq_true rfl) dX7_spot_65 (fun v31 τ31 H => ?_) (fun E τ H => H)
          refine e_callVi (j1 := 0) (j2 := 0) (av := [.int v31]) rfl rfl (Nat.le_of_ble_eq_true rfl) rfl rfl H i_X7_kept rfl n_X7_kept v_X7_kept q_X7_396 (by decide) (by decide) (Nat.le_of_ble_eq_true rfl) dX7_spot_68 (fun v32 τ32 H => ?_) (fun E τ H => H)
          exact e_iret rfl dX7_spot_71 H
        · replace H := H.2 h28
          refine e_iconst (v := 0) dX7_spot_49 (by decide) ?_
          exact e_iret rfl dX7_spot_50 H
    · replace H := H.2 h18
      refine e_iconst (v := 1) dX7_spot_17 (by decide) ?_
      refine e_goto (tgt := 22) dX7_spot_18 (by decide) ?_
      refine e_iload dX7_spot_22 4 rfl ?_
      refine e_callSi (j1 := 0) (j2 := 0) (av := [.int x4]) rfl H i_X7_isColour rfl s_X7_isColour q_X7_423 (by decide) (by decide) (Nat.le_of_ble_eq_true rfl) dX7_spot_24 (fun v33 τ33 H => ?_) (fun E τ H => H)
      refine e_aload_n dX7_spot_27 rfl 0 rfl ?_
      refine fg_X7_20 rfl dX7_spot_28 ?_
      refine e_iconst (v := 3) dX7_spot_31 (by decide) ?_
      refine e_iald (n := 1110) rfl (Nat.le_of_ble_eq_true rfl) (vil (by decide)) dX7_spot_32 ?_
      refine e_bipush (v := 16) dX7_spot_33 (by decide) ?_
      refine e_icmp_ge (tgt := 42) dX7_spot_35 (by decide) (fun h34 => ?_) (fun h34 => ?_)
      · replace H := H.1 h34
        refine e_iconst (v := 0) dX7_spot_42 (by decide) ?_
        refine e_callVi (j1 := 0) (j2 := 0) (av := [.int 1, .int v33, .int 0]) rfl rfl (Nat.le_of_ble_eq_true rfl) rfl rfl H i_X7_goesAll rfl n_X7_goesAll v_X7_goesAll q_X7_409 (by decide) (by decide) (Nat.le_of_ble_eq_true rfl) dX7_spot_43 (fun v35 τ35 H => ?_) (fun E τ H => H)
        refine e_if_ne (tgt := 51) dX7_spot_46 (by decide) (fun h36 => ?_) (fun h36 => ?_)
        · replace H := H.1 h36
          refine e_aload_n dX7_spot_51 rfl 0 rfl ?_
          refine e_callVv (j1 := 0) (j2 := 0) (av := []) rfl rfl (Nat.le_of_ble_eq_true rfl) rfl rfl H i_X7_laysAside rfl n_X7_laysAside v_X7_laysAside q_X7_240 (by decide) (by decide) (Nat.le_of_ble_eq_true rfl) dX7_spot_52 (fun τ37 H => ?_) (fun E τ H => H)
          refine e_aload_n dX7_spot_55 rfl 0 rfl ?_
          refine e_aload_n dX7_spot_56 rfl 0 rfl ?_
          refine e_iload_n dX7_spot_57 rfl 1 rfl ?_
          refine e_callSi (j1 := 0) (j2 := 0) (av := [.int x1]) rfl H i_X7_truth rfl s_X7_truth q_X7_71 (by decide) (by decide) (Nat.le_of_ble_eq_true rfl) dX7_spot_58 (fun v38 τ38 H => ?_) (fun E τ H => H)
          refine e_iload_n dX7_spot_61 rfl 2 rfl ?_
          refine e_iload_n dX7_spot_62 rfl 3 rfl ?_
          refine e_iload dX7_spot_63 4 rfl ?_
          refine e_callVi (j1 := 0) (j2 := 0) (av := [.int v38, .int x2, .int x3, .int x4]) rfl rfl (Nat.le_of_ble_eq_true rfl) rfl rfl H i_X7_spots rfl n_X7_spots v_X7_spots q_X7_433 (by decide) (by decide) (Nat.le_of_ble_eq_true rfl) dX7_spot_65 (fun v39 τ39 H => ?_) (fun E τ H => H)
          refine e_callVi (j1 := 0) (j2 := 0) (av := [.int v39]) rfl rfl (Nat.le_of_ble_eq_true rfl) rfl rfl H i_X7_kept rfl n_X7_kept v_X7_kept q_X7_396 (by decide) (by decide) (Nat.le_of_ble_eq_true rfl) dX7_spot_68 (fun v40 τ40 H => ?_) (fun E τ H => H)
          exact e_iret rfl dX7_spot_71 H
        · replace H := H.2 h36
          refine e_iconst (v := 0) dX7_spot_49 (by decide) ?_
          exact e_iret rfl dX7_spot_50 H
      · replace H := H.2 h34
        refine e_iconst (v := 1) dX7_spot_38 (by decide) ?_
        refine e_goto (tgt := 43) dX7_spot_39 (by decide) ?_
        refine e_callVi (j1 := 0) (j2 := 0) (av := [.int 1, .int v33, .int 1]) rfl rfl (Nat.le_of_ble_eq_true rfl) rfl rfl H i_X7_goesAll rfl n_X7_goesAll v_X7_goesAll q_X7_409 (by decide) (by decide) (Nat.le_of_ble_eq_true rfl) dX7_spot_43 (fun v41 τ41 H => ?_) (fun E τ H => H)
        refine e_if_ne (tgt := 51) dX7_spot_46 (by decide) (fun h42 => ?_) (fun h42 => ?_)
        · replace H := H.1 h42
          refine e_aload_n dX7_spot_51 rfl 0 rfl ?_
          refine e_callVv (j1 := 0) (j2 := 0) (av := []) rfl rfl (Nat.le_of_ble_eq_true rfl) rfl rfl H i_X7_laysAside rfl n_X7_laysAside v_X7_laysAside q_X7_240 (by decide) (by decide) (Nat.le_of_ble_eq_true rfl) dX7_spot_52 (fun τ43 H => ?_) (fun E τ H => H)
          refine e_aload_n dX7_spot_55 rfl 0 rfl ?_
          refine e_aload_n dX7_spot_56 rfl 0 rfl ?_
          refine e_iload_n dX7_spot_57 rfl 1 rfl ?_
          refine e_callSi (j1 := 0) (j2 := 0) (av := [.int x1]) rfl H i_X7_truth rfl s_X7_truth q_X7_71 (by decide) (by decide) (Nat.le_of_ble_eq_true rfl) dX7_spot_58 (fun v44 τ44 H => ?_) (fun E τ H => H)
          refine e_iload_n dX7_spot_61 rfl 2 rfl ?_
          refine e_iload_n dX7_spot_62 rfl 3 rfl ?_
          refine e_iload dX7_spot_63 4 rfl ?_
          refine e_callVi (j1 := 0) (j2 := 0) (av := [.int v44, .int x2, .int x3, .int x4]) rfl rfl (Nat.le_of_ble_eq_true rfl) rfl rfl H i_X7_spots rfl n_X7_spots v_X7_spots q_X7_433 (by decide) (by decide) (Nat.le_of_ble_eq_true rfl) dX7_spot_65 (fun v45 τ45 H => ?_) (fun E τ H => H)
          refine e_callVi (j1 := 0) (j2 := 0) (av := [.int v45]) rfl rfl (Nat.le_of_ble_eq_true rfl) rfl rfl H i_X7_kept rfl n_X7_kept v_X7_kept q_X7_396 (by decide) (by decide) (Nat.le_of_ble_eq_true rfl) dX7_spot_68 (fun v46 τ46 H => ?_) (fun E τ H => H)
          exact e_iret rfl dX7_spot_71 H
        · replace H := H.2 h42
          refine e_iconst (v := 0) dX7_spot_49 (by decide) ?_
          exact e_iret rfl dX7_spot_50 H
set_option maxRecDepth 20000 in
set_option maxHeartbeats 2000000 in
theorem b_X7_commandHere {g : zG} {l : Launch} {K : Int32 → zS → Prop} {X : String → zS → Prop} {σ : zS}
    (H : CT g l M_X7_isWord 0 [.ref (zad g 24), .long (546188 : Int64)] σ (zQi (fun v1 τ1 => ((v1 = 0 → CT g l M_X7_isWord 0 [.ref (zad g 24), .long (677454 : Int64)] τ1 (zQi (fun v3 τ3 => ((v3 = 0 → CT g l M_X7_isWord 0 [.ref (zad g 24), .long (20773 : Int64)] τ3 (zQi (fun v5 τ5 => ((v5 = 0 → CT g l M_X7_isWord 0 [.ref (zad g 24), .long (215205 : Int64)] τ5 (zQi (fun v7 τ7 => ((v7 = 0 → CT g l M_X7_isWord 0 [.ref (zad g 24), .long (16819668 : Int64)] τ7 (zQi (fun v9 τ9 => ((v9 = 0 → CT g l M_X7_isWord 0 [.ref (zad g 24), .long (4130 : Int64)] τ9 (zQi (fun v11 τ11 => ((v11 = 0 → CT g l M_X7_isWord 0 [.ref (zad g 24), .long (646192 : Int64)] τ11 (zQi (fun v13 τ13 => ((v13 = 0 → CT g l M_X7_isWord 0 [.ref (zad g 24), .long (609752116 : Int64)] τ13 (zQi (fun v15 τ15 => ((v15 = 0 → K (-1) τ15) ∧ (¬ v15 = 0 → K 7 τ15))) (fun E τ => X E τ))) ∧ (¬ v13 = 0 → K 6 τ13))) (fun E τ => X E τ))) ∧ (¬ v11 = 0 → K 5 τ11))) (fun E τ => X E τ))) ∧ (¬ v9 = 0 → K 4 τ9))) (fun E τ => X E τ))) ∧ (¬ v7 = 0 → K 3 τ7))) (fun E τ => X E τ))) ∧ (¬ v5 = 0 → K 2 τ5))) (fun E τ => X E τ))) ∧ (¬ v3 = 0 → K 1 τ3))) (fun E τ => X E τ))) ∧ (¬ v1 = 0 → K 0 τ1))) (fun E τ => X E τ))) :
    CT g l M_X7_commandHere 0 [.ref (zad g 24)] σ (zQi K X) := by
  refine CT_of rfl (by decide) (Nat.le_of_ble_eq_true rfl) ?_
  change EV _ _ _ _ _ 0 [(0, .ref (zad g 24))] [] _
  refine e_aload_n dX7_commandHere_0 rfl 0 rfl ?_
  refine e_ldc2 k_X7_436 dX7_commandHere_1 ?_
  refine e_callVi (j1 := 0) (j2 := 0) (av := [.long (546188 : Int64)]) rfl rfl (Nat.le_of_ble_eq_true rfl) rfl rfl H i_X7_isWord rfl n_X7_isWord v_X7_isWord q_X7_135 (by decide) (by decide) (Nat.le_of_ble_eq_true rfl) dX7_commandHere_4 (fun v1 τ1 H => ?_) (fun E τ H => H)
  refine e_if_eq (tgt := 12) dX7_commandHere_7 (by decide) (fun h2 => ?_) (fun h2 => ?_)
  · replace H := H.1 h2
    refine e_aload_n dX7_commandHere_12 rfl 0 rfl ?_
    refine e_ldc2 k_X7_438 dX7_commandHere_13 ?_
    refine e_callVi (j1 := 0) (j2 := 0) (av := [.long (677454 : Int64)]) rfl rfl (Nat.le_of_ble_eq_true rfl) rfl rfl H i_X7_isWord rfl n_X7_isWord v_X7_isWord q_X7_135 (by decide) (by decide) (Nat.le_of_ble_eq_true rfl) dX7_commandHere_16 (fun v3 τ3 H => ?_) (fun E τ H => H)
    refine e_if_eq (tgt := 24) dX7_commandHere_19 (by decide) (fun h4 => ?_) (fun h4 => ?_)
    · replace H := H.1 h4
      refine e_aload_n dX7_commandHere_24 rfl 0 rfl ?_
      refine e_ldc2 k_X7_440 dX7_commandHere_25 ?_
      refine e_callVi (j1 := 0) (j2 := 0) (av := [.long (20773 : Int64)]) rfl rfl (Nat.le_of_ble_eq_true rfl) rfl rfl H i_X7_isWord rfl n_X7_isWord v_X7_isWord q_X7_135 (by decide) (by decide) (Nat.le_of_ble_eq_true rfl) dX7_commandHere_28 (fun v5 τ5 H => ?_) (fun E τ H => H)
      refine e_if_eq (tgt := 36) dX7_commandHere_31 (by decide) (fun h6 => ?_) (fun h6 => ?_)
      · replace H := H.1 h6
        refine e_aload_n dX7_commandHere_36 rfl 0 rfl ?_
        refine e_ldc2 k_X7_442 dX7_commandHere_37 ?_
        refine e_callVi (j1 := 0) (j2 := 0) (av := [.long (215205 : Int64)]) rfl rfl (Nat.le_of_ble_eq_true rfl) rfl rfl H i_X7_isWord rfl n_X7_isWord v_X7_isWord q_X7_135 (by decide) (by decide) (Nat.le_of_ble_eq_true rfl) dX7_commandHere_40 (fun v7 τ7 H => ?_) (fun E τ H => H)
        refine e_if_eq (tgt := 48) dX7_commandHere_43 (by decide) (fun h8 => ?_) (fun h8 => ?_)
        · replace H := H.1 h8
          refine e_aload_n dX7_commandHere_48 rfl 0 rfl ?_
          refine e_ldc2 k_X7_444 dX7_commandHere_49 ?_
          refine e_callVi (j1 := 0) (j2 := 0) (av := [.long (16819668 : Int64)]) rfl rfl (Nat.le_of_ble_eq_true rfl) rfl rfl H i_X7_isWord rfl n_X7_isWord v_X7_isWord q_X7_135 (by decide) (by decide) (Nat.le_of_ble_eq_true rfl) dX7_commandHere_52 (fun v9 τ9 H => ?_) (fun E τ H => H)
          refine e_if_eq (tgt := 60) dX7_commandHere_55 (by decide) (fun h10 => ?_) (fun h10 => ?_)
          · replace H := H.1 h10
            refine e_aload_n dX7_commandHere_60 rfl 0 rfl ?_
            refine e_ldc2 k_X7_446 dX7_commandHere_61 ?_
            refine e_callVi (j1 := 0) (j2 := 0) (av := [.long (4130 : Int64)]) rfl rfl (Nat.le_of_ble_eq_true rfl) rfl rfl H i_X7_isWord rfl n_X7_isWord v_X7_isWord q_X7_135 (by decide) (by decide) (Nat.le_of_ble_eq_true rfl) dX7_commandHere_64 (fun v11 τ11 H => ?_) (fun E τ H => H)
            refine e_if_eq (tgt := 72) dX7_commandHere_67 (by decide) (fun h12 => ?_) (fun h12 => ?_)
            · replace H := H.1 h12
              refine e_aload_n dX7_commandHere_72 rfl 0 rfl ?_
              refine e_ldc2 k_X7_448 dX7_commandHere_73 ?_
              refine e_callVi (j1 := 0) (j2 := 0) (av := [.long (646192 : Int64)]) rfl rfl (Nat.le_of_ble_eq_true rfl) rfl rfl H i_X7_isWord rfl n_X7_isWord v_X7_isWord q_X7_135 (by decide) (by decide) (Nat.le_of_ble_eq_true rfl) dX7_commandHere_76 (fun v13 τ13 H => ?_) (fun E τ H => H)
              refine e_if_eq (tgt := 85) dX7_commandHere_79 (by decide) (fun h14 => ?_) (fun h14 => ?_)
              · replace H := H.1 h14
                refine e_aload_n dX7_commandHere_85 rfl 0 rfl ?_
                refine e_ldc2 k_X7_450 dX7_commandHere_86 ?_
                refine e_callVi (j1 := 0) (j2 := 0) (av := [.long (609752116 : Int64)]) rfl rfl (Nat.le_of_ble_eq_true rfl) rfl rfl H i_X7_isWord rfl n_X7_isWord v_X7_isWord q_X7_135 (by decide) (by decide) (Nat.le_of_ble_eq_true rfl) dX7_commandHere_89 (fun v15 τ15 H => ?_) (fun E τ H => H)
                refine e_if_eq (tgt := 100) dX7_commandHere_92 (by decide) (fun h16 => ?_) (fun h16 => ?_)
                · replace H := H.1 h16
                  refine e_iconst (v := (-1)) dX7_commandHere_100 (by decide) ?_
                  exact e_iret rfl dX7_commandHere_101 H
                · replace H := H.2 h16
                  refine e_bipush (v := 7) dX7_commandHere_95 (by decide) ?_
                  refine e_goto (tgt := 101) dX7_commandHere_97 (by decide) ?_
                  exact e_iret rfl dX7_commandHere_101 H
              · replace H := H.2 h14
                refine e_bipush (v := 6) dX7_commandHere_82 (by decide) ?_
                exact e_iret rfl dX7_commandHere_84 H
            · replace H := H.2 h12
              refine e_iconst (v := 5) dX7_commandHere_70 (by decide) ?_
              exact e_iret rfl dX7_commandHere_71 H
          · replace H := H.2 h10
            refine e_iconst (v := 4) dX7_commandHere_58 (by decide) ?_
            exact e_iret rfl dX7_commandHere_59 H
        · replace H := H.2 h8
          refine e_iconst (v := 3) dX7_commandHere_46 (by decide) ?_
          exact e_iret rfl dX7_commandHere_47 H
      · replace H := H.2 h6
        refine e_iconst (v := 2) dX7_commandHere_34 (by decide) ?_
        exact e_iret rfl dX7_commandHere_35 H
    · replace H := H.2 h4
      refine e_iconst (v := 1) dX7_commandHere_22 (by decide) ?_
      exact e_iret rfl dX7_commandHere_23 H
  · replace H := H.2 h2
    refine e_iconst (v := 0) dX7_commandHere_10 (by decide) ?_
    exact e_iret rfl dX7_commandHere_11 H
set_option maxRecDepth 20000 in
set_option maxHeartbeats 2000000 in
theorem b_X7_any {g : zG} {l : Launch} {K : Int32 → zS → Prop} {X : String → zS → Prop} {σ : zS}
    (H : CT g l M_X7_number 0 [.ref (zad g 24), .int 0, .int 999] σ (zQi (fun v1 τ1 => K v1 τ1) (fun E τ => X E τ))) :
    CT g l M_X7_any 0 [.ref (zad g 24)] σ (zQi K X) := by
  refine CT_of rfl (by decide) (Nat.le_of_ble_eq_true rfl) ?_
  change EV _ _ _ _ _ 0 [(0, .ref (zad g 24))] [] _
  refine e_aload_n dX7_any_0 rfl 0 rfl ?_
  refine e_iconst (v := 0) dX7_any_1 (by decide) ?_
  refine e_sipush (v := 999) dX7_any_2 (by decide) ?_
  refine e_callVi (j1 := 0) (j2 := 0) (av := [.int 0, .int 999]) rfl rfl (Nat.le_of_ble_eq_true rfl) rfl rfl H i_X7_number rfl n_X7_number v_X7_number q_X7_190 (by decide) (by decide) (Nat.le_of_ble_eq_true rfl) dX7_any_5 (fun v1 τ1 H => ?_) (fun E τ H => H)
  exact e_iret rfl dX7_any_8 H
abbrev L_X7_readsNumbers_22 (g : zG) (l : Launch) (K : zS → Prop) (X : String → zS → Prop) (y1 : Int32) (y2 : Int32) (σ : zS) : Prop :=
  EV g l M_X7_readsNumbers 0 (zQv K X) 22 [(0, .ref (zad g 24)), (1, .int y1), (2, .int y2)] [] σ
abbrev L_X7_readsNumbers_41 (g : zG) (l : Launch) (K : zS → Prop) (X : String → zS → Prop) (y1 : Int32) (y2 : Int32) (σ : zS) : Prop :=
  EV g l M_X7_readsNumbers 0 (zQv K X) 41 [(0, .ref (zad g 24)), (1, .int y1), (2, .int y2)] [] σ
abbrev L_X7_readsNumbers_51 (g : zG) (l : Launch) (K : zS → Prop) (X : String → zS → Prop) (y1 : Int32) (y2 : Int32) (σ : zS) : Prop :=
  EV g l M_X7_readsNumbers 0 (zQv K X) 51 [(0, .ref (zad g 24)), (1, .int y1), (2, .int y2)] [] σ
abbrev L_X7_readsNumbers_65 (g : zG) (l : Launch) (K : zS → Prop) (X : String → zS → Prop) (y1 : Int32) (y2 : Int32) (σ : zS) : Prop :=
  EV g l M_X7_readsNumbers 0 (zQv K X) 65 [(0, .ref (zad g 24)), (1, .int y1), (2, .int y2)] [] σ
abbrev L_X7_readsNumbers_75 (g : zG) (l : Launch) (K : zS → Prop) (X : String → zS → Prop) (y1 : Int32) (y2 : Int32) (σ : zS) : Prop :=
  EV g l M_X7_readsNumbers 0 (zQv K X) 75 [(0, .ref (zad g 24)), (1, .int y1), (2, .int y2)] [] σ
abbrev L_X7_readsNumbers_90 (g : zG) (l : Launch) (K : zS → Prop) (X : String → zS → Prop) (y1 : Int32) (y2 : Int32) (σ : zS) : Prop :=
  EV g l M_X7_readsNumbers 0 (zQv K X) 90 [(0, .ref (zad g 24)), (1, .int y1), (2, .int y2)] [] σ
abbrev L_X7_readsNumbers_105 (g : zG) (l : Launch) (K : zS → Prop) (X : String → zS → Prop) (y1 : Int32) (y2 : Int32) (σ : zS) : Prop :=
  EV g l M_X7_readsNumbers 0 (zQv K X) 105 [(0, .ref (zad g 24)), (1, .int y1), (2, .int y2)] [] σ
abbrev L_X7_readsNumbers_124 (g : zG) (l : Launch) (K : zS → Prop) (X : String → zS → Prop) (y2 : Int32) (σ : zS) : Prop :=
  EV g l M_X7_readsNumbers 0 (zQv K X) 124 [(0, .ref (zad g 24)), (2, .int y2)] [] σ
abbrev L_X7_readsNumbers_136 (g : zG) (l : Launch) (K : zS → Prop) (X : String → zS → Prop) (σ : zS) : Prop :=
  EV g l M_X7_readsNumbers 0 (zQv K X) 136 [] [] σ
set_option maxRecDepth 20000 in
set_option maxHeartbeats 2000000 in
theorem b_X7_readsNumbers {g : zG} {l : Launch} {K : zS → Prop} {X : String → zS → Prop} {x1 : Int32} {x2 : Int32} {σ : zS}
    (H : CT g l M_X7_isIn 0 [.long (Int32.toInt64 x2), .long (1 : Int64), .long (6 : Int64)] σ (zQi (fun v1 τ1 => ((v1 = 0 → L_X7_readsNumbers_22 g l K X x1 x2 τ1) ∧ (¬ v1 = 0 → CT g l M_X7_any 0 [.ref (zad g 24)] τ1 (zQi (fun v3 τ3 => (vp_in x1 60 ∧ (∀ σ4 : zS, σ4 = zup τ3 33 (Int32.toNatClampNeg x1) v3 → L_X7_readsNumbers_22 g l K X x1 x2 σ4))) (fun E τ => X E τ))))) (fun E τ => X E τ))) :
    CT g l M_X7_readsNumbers 0 [.ref (zad g 24), .int x1, .int x2] σ (zQv K X) := by
  refine CT_of rfl (by decide) (Nat.le_of_ble_eq_true rfl) ?_
  change EV _ _ _ _ _ 0 [(0, .ref (zad g 24)), (1, .int x1), (2, .int x2)] [] _
  refine e_iload_n dX7_readsNumbers_0 rfl 2 rfl ?_
  refine e_i2l (v := Int32.toInt64 x2) dX7_readsNumbers_1 rfl ?_
  refine e_lconst (v := 1) dX7_readsNumbers_2 (by decide) ?_
  refine e_ldc2 k_X7_298 dX7_readsNumbers_3 ?_
  refine e_callSi (j1 := 0) (j2 := 0) (av := [.long (Int32.toInt64 x2), .long (1 : Int64), .long (6 : Int64)]) rfl H i_X7_isIn rfl s_X7_isIn q_X7_85 (by decide) (by decide) (Nat.le_of_ble_eq_true rfl) dX7_readsNumbers_6 (fun v1 τ1 H => ?_) (fun E τ H => H)
  refine e_if_eq (tgt := 22) dX7_readsNumbers_9 (by decide) (fun h2 => ?_) (fun h2 => ?_)
  · replace H := H.1 h2
    refine e_ls [0, 1, 2] rfl ?_
    exact H
  · replace H := H.2 h2
    refine e_aload_n dX7_readsNumbers_12 rfl 0 rfl ?_
    refine fg_X7_41 rfl dX7_readsNumbers_13 ?_
    refine e_iload_n dX7_readsNumbers_16 rfl 1 rfl ?_
    refine e_aload_n dX7_readsNumbers_17 rfl 0 rfl ?_
    refine e_callVi (j1 := 0) (j2 := 0) (av := []) rfl rfl (Nat.le_of_ble_eq_true rfl) rfl rfl H i_X7_any rfl n_X7_any v_X7_any q_X7_452 (by decide) (by decide) (Nat.le_of_ble_eq_true rfl) dX7_readsNumbers_18 (fun v3 τ3 H => ?_) (fun E τ H => H)
    refine e_iast (n := 60) rfl (Nat.le_of_ble_eq_true rfl) H.1 dX7_readsNumbers_21 ?_
    replace H := H.2
    replace H := H _ rfl
    generalize zup τ3 33 (Int32.toNatClampNeg x1) v3 = σ4 at H ⊢
    refine e_ls [0, 1, 2] rfl ?_
    exact H
set_option maxRecDepth 20000 in
set_option maxHeartbeats 2000000 in
theorem b_X7_readsNumbers_22 {g : zG} {l : Launch} {K : zS → Prop} {X : String → zS → Prop} {y1 : Int32} {y2 : Int32} {σ : zS}
    (H : ((y2 = 0 → L_X7_readsNumbers_41 g l K X y1 y2 σ) ∧ (¬ y2 = 0 → ((y2 = 1 → L_X7_readsNumbers_41 g l K X y1 y2 σ) ∧ (¬ y2 = 1 → ((y2 = 4 → L_X7_readsNumbers_41 g l K X y1 y2 σ) ∧ (¬ y2 = 4 → ((¬ y2 = 5 → L_X7_readsNumbers_51 g l K X y1 y2 σ) ∧ (y2 = 5 → L_X7_readsNumbers_41 g l K X y1 y2 σ))))))))) :
    L_X7_readsNumbers_22 g l K X y1 y2 σ := by
  refine e_iload_n dX7_readsNumbers_22 rfl 2 rfl ?_
  refine e_if_eq (tgt := 41) dX7_readsNumbers_23 (by decide) (fun h1 => ?_) (fun h1 => ?_)
  · replace H := H.1 h1
    refine e_ls [0, 1, 2] rfl ?_
    exact H
  · replace H := H.2 h1
    refine e_iload_n dX7_readsNumbers_26 rfl 2 rfl ?_
    refine e_iconst (v := 1) dX7_readsNumbers_27 (by decide) ?_
    refine e_icmp_eq (tgt := 41) dX7_readsNumbers_28 (by decide) (fun h2 => ?_) (fun h2 => ?_)
    · replace H := H.1 h2
      refine e_ls [0, 1, 2] rfl ?_
      exact H
    · replace H := H.2 h2
      refine e_iload_n dX7_readsNumbers_31 rfl 2 rfl ?_
      refine e_iconst (v := 4) dX7_readsNumbers_32 (by decide) ?_
      refine e_icmp_eq (tgt := 41) dX7_readsNumbers_33 (by decide) (fun h3 => ?_) (fun h3 => ?_)
      · replace H := H.1 h3
        refine e_ls [0, 1, 2] rfl ?_
        exact H
      · replace H := H.2 h3
        refine e_iload_n dX7_readsNumbers_36 rfl 2 rfl ?_
        refine e_iconst (v := 5) dX7_readsNumbers_37 (by decide) ?_
        refine e_icmp_ne (tgt := 51) dX7_readsNumbers_38 (by decide) (fun h4 => ?_) (fun h4 => ?_)
        · replace H := H.1 h4
          refine e_ls [0, 1, 2] rfl ?_
          exact H
        · replace H := H.2 h4
          refine e_ls [0, 1, 2] rfl ?_
          exact H
set_option maxRecDepth 20000 in
set_option maxHeartbeats 2000000 in
theorem b_X7_readsNumbers_41 {g : zG} {l : Launch} {K : zS → Prop} {X : String → zS → Prop} {y1 : Int32} {y2 : Int32} {σ : zS}
    (H : CT g l M_X7_side 0 [.ref (zad g 24)] σ (zQi (fun v1 τ1 => (vp_in y1 60 ∧ (∀ σ2 : zS, σ2 = zup τ1 34 (Int32.toNatClampNeg y1) v1 → L_X7_readsNumbers_51 g l K X y1 y2 σ2))) (fun E τ => X E τ))) :
    L_X7_readsNumbers_41 g l K X y1 y2 σ := by
  refine e_aload_n dX7_readsNumbers_41 rfl 0 rfl ?_
  refine fg_X7_44 rfl dX7_readsNumbers_42 ?_
  refine e_iload_n dX7_readsNumbers_45 rfl 1 rfl ?_
  refine e_aload_n dX7_readsNumbers_46 rfl 0 rfl ?_
  refine e_callVi (j1 := 0) (j2 := 0) (av := []) rfl rfl (Nat.le_of_ble_eq_true rfl) rfl rfl H i_X7_side rfl n_X7_side v_X7_side q_X7_200 (by decide) (by decide) (Nat.le_of_ble_eq_true rfl) dX7_readsNumbers_47 (fun v1 τ1 H => ?_) (fun E τ H => H)
  refine e_iast (n := 60) rfl (Nat.le_of_ble_eq_true rfl) H.1 dX7_readsNumbers_50 ?_
  replace H := H.2
  replace H := H _ rfl
  generalize zup τ1 34 (Int32.toNatClampNeg y1) v1 = σ2 at H ⊢
  refine e_ls [0, 1, 2] rfl ?_
  exact H
set_option maxRecDepth 20000 in
set_option maxHeartbeats 2000000 in
theorem b_X7_readsNumbers_51 {g : zG} {l : Launch} {K : zS → Prop} {X : String → zS → Prop} {y1 : Int32} {y2 : Int32} {σ : zS}
    (H : ((y2 = 0 → L_X7_readsNumbers_65 g l K X y1 y2 σ) ∧ (¬ y2 = 0 → ((y2 = 1 → L_X7_readsNumbers_65 g l K X y1 y2 σ) ∧ (¬ y2 = 1 → ((¬ y2 = 5 → L_X7_readsNumbers_75 g l K X y1 y2 σ) ∧ (y2 = 5 → L_X7_readsNumbers_65 g l K X y1 y2 σ))))))) :
    L_X7_readsNumbers_51 g l K X y1 y2 σ := by
  refine e_iload_n dX7_readsNumbers_51 rfl 2 rfl ?_
  refine e_if_eq (tgt := 65) dX7_readsNumbers_52 (by decide) (fun h1 => ?_) (fun h1 => ?_)
  · replace H := H.1 h1
    refine e_ls [0, 1, 2] rfl ?_
    exact H
  · replace H := H.2 h1
    refine e_iload_n dX7_readsNumbers_55 rfl 2 rfl ?_
    refine e_iconst (v := 1) dX7_readsNumbers_56 (by decide) ?_
    refine e_icmp_eq (tgt := 65) dX7_readsNumbers_57 (by decide) (fun h2 => ?_) (fun h2 => ?_)
    · replace H := H.1 h2
      refine e_ls [0, 1, 2] rfl ?_
      exact H
    · replace H := H.2 h2
      refine e_iload_n dX7_readsNumbers_60 rfl 2 rfl ?_
      refine e_iconst (v := 5) dX7_readsNumbers_61 (by decide) ?_
      refine e_icmp_ne (tgt := 75) dX7_readsNumbers_62 (by decide) (fun h3 => ?_) (fun h3 => ?_)
      · replace H := H.1 h3
        refine e_ls [0, 1, 2] rfl ?_
        exact H
      · replace H := H.2 h3
        refine e_ls [0, 1, 2] rfl ?_
        exact H
set_option maxRecDepth 20000 in
set_option maxHeartbeats 2000000 in
theorem b_X7_readsNumbers_65 {g : zG} {l : Launch} {K : zS → Prop} {X : String → zS → Prop} {y1 : Int32} {y2 : Int32} {σ : zS}
    (H : CT g l M_X7_any 0 [.ref (zad g 24)] σ (zQi (fun v1 τ1 => (vp_in y1 60 ∧ (∀ σ2 : zS, σ2 = zup τ1 35 (Int32.toNatClampNeg y1) v1 → L_X7_readsNumbers_75 g l K X y1 y2 σ2))) (fun E τ => X E τ))) :
    L_X7_readsNumbers_65 g l K X y1 y2 σ := by
  refine e_aload_n dX7_readsNumbers_65 rfl 0 rfl ?_
  refine fg_X7_47 rfl dX7_readsNumbers_66 ?_
  refine e_iload_n dX7_readsNumbers_69 rfl 1 rfl ?_
  refine e_aload_n dX7_readsNumbers_70 rfl 0 rfl ?_
  refine e_callVi (j1 := 0) (j2 := 0) (av := []) rfl rfl (Nat.le_of_ble_eq_true rfl) rfl rfl H i_X7_any rfl n_X7_any v_X7_any q_X7_452 (by decide) (by decide) (Nat.le_of_ble_eq_true rfl) dX7_readsNumbers_71 (fun v1 τ1 H => ?_) (fun E τ H => H)
  refine e_iast (n := 60) rfl (Nat.le_of_ble_eq_true rfl) H.1 dX7_readsNumbers_74 ?_
  replace H := H.2
  replace H := H _ rfl
  generalize zup τ1 35 (Int32.toNatClampNeg y1) v1 = σ2 at H ⊢
  refine e_ls [0, 1, 2] rfl ?_
  exact H
set_option maxRecDepth 20000 in
set_option maxHeartbeats 2000000 in
theorem b_X7_readsNumbers_75 {g : zG} {l : Launch} {K : zS → Prop} {X : String → zS → Prop} {y1 : Int32} {y2 : Int32} {σ : zS}
    (H : ((¬ y2 = 5 → L_X7_readsNumbers_90 g l K X y1 y2 σ) ∧ (y2 = 5 → CT g l M_X7_any 0 [.ref (zad g 24)] σ (zQi (fun v2 τ2 => (vp_in y1 60 ∧ (∀ σ3 : zS, σ3 = zup τ2 36 (Int32.toNatClampNeg y1) v2 → L_X7_readsNumbers_90 g l K X y1 y2 σ3))) (fun E τ => X E τ))))) :
    L_X7_readsNumbers_75 g l K X y1 y2 σ := by
  refine e_iload_n dX7_readsNumbers_75 rfl 2 rfl ?_
  refine e_iconst (v := 5) dX7_readsNumbers_76 (by decide) ?_
  refine e_icmp_ne (tgt := 90) dX7_readsNumbers_77 (by decide) (fun h1 => ?_) (fun h1 => ?_)
  · replace H := H.1 h1
    refine e_ls [0, 1, 2] rfl ?_
    exact H
  · replace H := H.2 h1
    refine e_aload_n dX7_readsNumbers_80 rfl 0 rfl ?_
    refine fg_X7_50 rfl dX7_readsNumbers_81 ?_
    refine e_iload_n dX7_readsNumbers_84 rfl 1 rfl ?_
    refine e_aload_n dX7_readsNumbers_85 rfl 0 rfl ?_
    refine e_callVi (j1 := 0) (j2 := 0) (av := []) rfl rfl (Nat.le_of_ble_eq_true rfl) rfl rfl H i_X7_any rfl n_X7_any v_X7_any q_X7_452 (by decide) (by decide) (Nat.le_of_ble_eq_true rfl) dX7_readsNumbers_86 (fun v2 τ2 H => ?_) (fun E τ H => H)
    refine e_iast (n := 60) rfl (Nat.le_of_ble_eq_true rfl) H.1 dX7_readsNumbers_89 ?_
    replace H := H.2
    replace H := H _ rfl
    generalize zup τ2 36 (Int32.toNatClampNeg y1) v2 = σ3 at H ⊢
    refine e_ls [0, 1, 2] rfl ?_
    exact H
set_option maxRecDepth 20000 in
set_option maxHeartbeats 2000000 in
theorem b_X7_readsNumbers_90 {g : zG} {l : Launch} {K : zS → Prop} {X : String → zS → Prop} {y1 : Int32} {y2 : Int32} {σ : zS}
    (H : ((¬ y2 = 5 → L_X7_readsNumbers_105 g l K X y1 y2 σ) ∧ (y2 = 5 → CT g l M_X7_any 0 [.ref (zad g 24)] σ (zQi (fun v2 τ2 => (vp_in y1 60 ∧ (∀ σ3 : zS, σ3 = zup τ2 37 (Int32.toNatClampNeg y1) v2 → L_X7_readsNumbers_105 g l K X y1 y2 σ3))) (fun E τ => X E τ))))) :
    L_X7_readsNumbers_90 g l K X y1 y2 σ := by
  refine e_iload_n dX7_readsNumbers_90 rfl 2 rfl ?_
  refine e_iconst (v := 5) dX7_readsNumbers_91 (by decide) ?_
  refine e_icmp_ne (tgt := 105) dX7_readsNumbers_92 (by decide) (fun h1 => ?_) (fun h1 => ?_)
  · replace H := H.1 h1
    refine e_ls [0, 1, 2] rfl ?_
    exact H
  · replace H := H.2 h1
    refine e_aload_n dX7_readsNumbers_95 rfl 0 rfl ?_
    refine fg_X7_53 rfl dX7_readsNumbers_96 ?_
    refine e_iload_n dX7_readsNumbers_99 rfl 1 rfl ?_
    refine e_aload_n dX7_readsNumbers_100 rfl 0 rfl ?_
    refine e_callVi (j1 := 0) (j2 := 0) (av := []) rfl rfl (Nat.le_of_ble_eq_true rfl) rfl rfl H i_X7_any rfl n_X7_any v_X7_any q_X7_452 (by decide) (by decide) (Nat.le_of_ble_eq_true rfl) dX7_readsNumbers_101 (fun v2 τ2 H => ?_) (fun E τ H => H)
    refine e_iast (n := 60) rfl (Nat.le_of_ble_eq_true rfl) H.1 dX7_readsNumbers_104 ?_
    replace H := H.2
    replace H := H _ rfl
    generalize zup τ2 37 (Int32.toNatClampNeg y1) v2 = σ3 at H ⊢
    refine e_ls [0, 1, 2] rfl ?_
    exact H
set_option maxRecDepth 20000 in
set_option maxHeartbeats 2000000 in
theorem b_X7_readsNumbers_105 {g : zG} {l : Launch} {K : zS → Prop} {X : String → zS → Prop} {y1 : Int32} {y2 : Int32} {σ : zS}
    (H : ((¬ y2 = 7 → L_X7_readsNumbers_124 g l K X y2 σ) ∧ (y2 = 7 → CT g l M_X7_number 0 [.ref (zad g 24), .int 1, .int 20] σ (zQi (fun v2 τ2 => (vp_in y1 60 ∧ (∀ σ3 : zS, σ3 = zup τ2 33 (Int32.toNatClampNeg y1) v2 → L_X7_readsNumbers_124 g l K X y2 σ3))) (fun E τ => X E τ))))) :
    L_X7_readsNumbers_105 g l K X y1 y2 σ := by
  refine e_iload_n dX7_readsNumbers_105 rfl 2 rfl ?_
  refine e_bipush (v := 7) dX7_readsNumbers_106 (by decide) ?_
  refine e_icmp_ne (tgt := 124) dX7_readsNumbers_108 (by decide) (fun h1 => ?_) (fun h1 => ?_)
  · replace H := H.1 h1
    refine e_ls [0, 2] rfl ?_
    exact H
  · replace H := H.2 h1
    refine e_aload_n dX7_readsNumbers_111 rfl 0 rfl ?_
    refine fg_X7_41 rfl dX7_readsNumbers_112 ?_
    refine e_iload_n dX7_readsNumbers_115 rfl 1 rfl ?_
    refine e_aload_n dX7_readsNumbers_116 rfl 0 rfl ?_
    refine e_iconst (v := 1) dX7_readsNumbers_117 (by decide) ?_
    refine e_bipush (v := 20) dX7_readsNumbers_118 (by decide) ?_
    refine e_callVi (j1 := 0) (j2 := 0) (av := [.int 1, .int 20]) rfl rfl (Nat.le_of_ble_eq_true rfl) rfl rfl H i_X7_number rfl n_X7_number v_X7_number q_X7_190 (by decide) (by decide) (Nat.le_of_ble_eq_true rfl) dX7_readsNumbers_120 (fun v2 τ2 H => ?_) (fun E τ H => H)
    refine e_iast (n := 60) rfl (Nat.le_of_ble_eq_true rfl) H.1 dX7_readsNumbers_123 ?_
    replace H := H.2
    replace H := H _ rfl
    generalize zup τ2 33 (Int32.toNatClampNeg y1) v2 = σ3 at H ⊢
    refine e_ls [0, 2] rfl ?_
    exact H
set_option maxRecDepth 20000 in
set_option maxHeartbeats 2000000 in
theorem b_X7_readsNumbers_124 {g : zG} {l : Launch} {K : zS → Prop} {X : String → zS → Prop} {y2 : Int32} {σ : zS}
    (H : ((¬ y2 = 7 → L_X7_readsNumbers_136 g l K X  σ) ∧ (y2 = 7 → CT g l M_X7_mustSign 0 [.ref (zad g 24), .int 40] σ (zQv (fun τ2 => L_X7_readsNumbers_136 g l K X  τ2) (fun E τ => X E τ))))) :
    L_X7_readsNumbers_124 g l K X y2 σ := by
  refine e_iload_n dX7_readsNumbers_124 rfl 1 rfl ?_
  refine e_bipush (v := 7) dX7_readsNumbers_125 (by decide) ?_
  refine e_icmp_ne (tgt := 136) dX7_readsNumbers_127 (by decide) (fun h1 => ?_) (fun h1 => ?_)
  · replace H := H.1 h1
    refine e_ls [] rfl ?_
    exact H
  · replace H := H.2 h1
    refine e_aload_n dX7_readsNumbers_130 rfl 0 rfl ?_
    refine e_bipush (v := 40) dX7_readsNumbers_131 (by decide) ?_
    refine e_callVv (j1 := 0) (j2 := 0) (av := [.int 40]) rfl rfl (Nat.le_of_ble_eq_true rfl) rfl rfl H i_X7_mustSign rfl n_X7_mustSign v_X7_mustSign q_X7_231 (by decide) (by decide) (Nat.le_of_ble_eq_true rfl) dX7_readsNumbers_133 (fun τ2 H => ?_) (fun E τ H => H)
    refine e_ls [] rfl ?_
    exact H
set_option maxRecDepth 20000 in
set_option maxHeartbeats 2000000 in
theorem b_X7_readsNumbers_136 {g : zG} {l : Launch} {K : zS → Prop} {X : String → zS → Prop} {σ : zS}
    (H : K σ) :
    L_X7_readsNumbers_136 g l K X σ := by
  exact e_vret rfl dX7_readsNumbers_136 H
abbrev L_X7_command_15 (g : zG) (l : Launch) (K : zS → Prop) (X : String → zS → Prop) (y1 : Int32) (σ : zS) : Prop :=
  EV g l M_X7_command 0 (zQv K X) 15 [(0, .ref (zad g 24)), (1, .int y1)] [] σ
abbrev L_X7_command_34 (g : zG) (l : Launch) (K : zS → Prop) (X : String → zS → Prop) (y1 : Int32) (σ : zS) : Prop :=
  EV g l M_X7_command 0 (zQv K X) 34 [(0, .ref (zad g 24)), (1, .int y1)] [] σ
abbrev L_X7_command_48 (g : zG) (l : Launch) (K : zS → Prop) (X : String → zS → Prop) (y1 : Int32) (σ : zS) : Prop :=
  EV g l M_X7_command 0 (zQv K X) 48 [(0, .ref (zad g 24)), (1, .int y1)] [] σ
abbrev L_X7_command_122 (g : zG) (l : Launch) (K : zS → Prop) (X : String → zS → Prop) (z0 : Int32) (z1 : Int32) (σ : zS) : Prop :=
  EV g l M_X7_command 0 (zQv K X) 122 [] [.int z0, .int z1, .ref (zad g 24)] σ
set_option maxRecDepth 20000 in
set_option maxHeartbeats 2000000 in
theorem b_X7_command {g : zG} {l : Launch} {K : zS → Prop} {X : String → zS → Prop} {σ : zS}
    (H : CT g l M_X7_commandHere 0 [.ref (zad g 24)] σ (zQi (fun v1 τ1 => ((¬ v1 = (-1) → L_X7_command_15 g l K X v1 τ1) ∧ (v1 = (-1) → CT g l M_X7_wrong 0 [.ref (zad g 24), .int 1] τ1 (zQv (fun τ3 => L_X7_command_15 g l K X v1 τ3) (fun E τ => X E τ))))) (fun E τ => X E τ))) :
    CT g l M_X7_command 0 [.ref (zad g 24)] σ (zQv K X) := by
  refine CT_of rfl (by decide) (Nat.le_of_ble_eq_true rfl) ?_
  change EV _ _ _ _ _ 0 [(0, .ref (zad g 24))] [] _
  refine e_aload_n dX7_command_0 rfl 0 rfl ?_
  refine e_callVi (j1 := 0) (j2 := 0) (av := []) rfl rfl (Nat.le_of_ble_eq_true rfl) rfl rfl H i_X7_commandHere rfl n_X7_commandHere v_X7_commandHere q_X7_455 (by decide) (by decide) (Nat.le_of_ble_eq_true rfl) dX7_command_1 (fun v1 τ1 H => ?_) (fun E τ H => H)
  refine e_istore_n (ls' := [(1, .int v1), (0, .ref (zad g 24))]) dX7_command_4 rfl (by decide) rfl ?_
  refine e_iload_n dX7_command_5 rfl 0 rfl ?_
  refine e_iconst (v := (-1)) dX7_command_6 (by decide) ?_
  refine e_icmp_ne (tgt := 15) dX7_command_7 (by decide) (fun h2 => ?_) (fun h2 => ?_)
  · replace H := H.1 h2
    refine e_ls [1, 0] rfl ?_
    exact H
  · replace H := H.2 h2
    refine e_aload_n dX7_command_10 rfl 1 rfl ?_
    refine e_iconst (v := 1) dX7_command_11 (by decide) ?_
    refine e_callVv (j1 := 0) (j2 := 0) (av := [.int 1]) rfl rfl (Nat.le_of_ble_eq_true rfl) rfl rfl H i_X7_wrong rfl n_X7_wrong v_X7_wrong q_X7_129 (by decide) (by decide) (Nat.le_of_ble_eq_true rfl) dX7_command_12 (fun τ3 H => ?_) (fun E τ H => H)
    refine e_ls [1, 0] rfl ?_
    exact H
set_option maxRecDepth 20000 in
set_option maxHeartbeats 2000000 in
theorem b_X7_command_15 {g : zG} {l : Launch} {K : zS → Prop} {X : String → zS → Prop} {y1 : Int32} {σ : zS}
    (H : ((¬ y1 = 7 → L_X7_command_34 g l K X y1 σ) ∧ (y1 = 7 → ((¬ (σ.1 24 32) = 2 → L_X7_command_34 g l K X y1 σ) ∧ ((σ.1 24 32) = 2 → CT g l M_X7_wrong 0 [.ref (zad g 24), .int 3] σ (zQv (fun τ3 => L_X7_command_34 g l K X y1 τ3) (fun E τ => X E τ))))))) :
    L_X7_command_15 g l K X y1 σ := by
  refine e_iload_n dX7_command_15 rfl 1 rfl ?_
  refine e_bipush (v := 7) dX7_command_16 (by decide) ?_
  refine e_icmp_ne (tgt := 34) dX7_command_18 (by decide) (fun h1 => ?_) (fun h1 => ?_)
  · replace H := H.1 h1
    refine e_ls [0, 1] rfl ?_
    exact H
  · replace H := H.2 h1
    refine e_aload_n dX7_command_21 rfl 0 rfl ?_
    refine fg_X7_458 rfl dX7_command_22 ?_
    refine e_iconst (v := 2) dX7_command_25 (by decide) ?_
    refine e_icmp_ne (tgt := 34) dX7_command_26 (by decide) (fun h2 => ?_) (fun h2 => ?_)
    · replace H := H.1 h2
      refine e_ls [0, 1] rfl ?_
      exact H
    · replace H := H.2 h2
      refine e_aload_n dX7_command_29 rfl 0 rfl ?_
      refine e_iconst (v := 3) dX7_command_30 (by decide) ?_
      refine e_callVv (j1 := 0) (j2 := 0) (av := [.int 3]) rfl rfl (Nat.le_of_ble_eq_true rfl) rfl rfl H i_X7_wrong rfl n_X7_wrong v_X7_wrong q_X7_129 (by decide) (by decide) (Nat.le_of_ble_eq_true rfl) dX7_command_31 (fun τ3 H => ?_) (fun E τ H => H)
      refine e_ls [0, 1] rfl ?_
      exact H
set_option maxRecDepth 20000 in
set_option maxHeartbeats 2000000 in
theorem b_X7_command_34 {g : zG} {l : Launch} {K : zS → Prop} {X : String → zS → Prop} {y1 : Int32} {σ : zS}
    (H : ((¬ (σ.1 24 31) = 30 → L_X7_command_48 g l K X y1 σ) ∧ ((σ.1 24 31) = 30 → CT g l M_X7_wrong 0 [.ref (zad g 24), .int 5] σ (zQv (fun τ2 => L_X7_command_48 g l K X y1 τ2) (fun E τ => X E τ))))) :
    L_X7_command_34 g l K X y1 σ := by
  refine e_aload_n dX7_command_34 rfl 0 rfl ?_
  refine fg_X7_461 rfl dX7_command_35 ?_
  refine e_bipush (v := 30) dX7_command_38 (by decide) ?_
  refine e_icmp_ne (tgt := 48) dX7_command_40 (by decide) (fun h1 => ?_) (fun h1 => ?_)
  · replace H := H.1 h1
    refine e_ls [0, 1] rfl ?_
    exact H
  · replace H := H.2 h1
    refine e_aload_n dX7_command_43 rfl 0 rfl ?_
    refine e_iconst (v := 5) dX7_command_44 (by decide) ?_
    refine e_callVv (j1 := 0) (j2 := 0) (av := [.int 5]) rfl rfl (Nat.le_of_ble_eq_true rfl) rfl rfl H i_X7_wrong rfl n_X7_wrong v_X7_wrong q_X7_129 (by decide) (by decide) (Nat.le_of_ble_eq_true rfl) dX7_command_45 (fun τ2 H => ?_) (fun E τ H => H)
    refine e_ls [0, 1] rfl ?_
    exact H
set_option maxRecDepth 20000 in
set_option maxHeartbeats 2000000 in
theorem b_X7_command_48 {g : zG} {l : Launch} {K : zS → Prop} {X : String → zS → Prop} {y1 : Int32} {σ : zS}
    (H : CT g l M_X7_isGood 0 [.ref (zad g 24)] σ (zQi (fun v1 τ1 => ((¬ v1 = 0 → (∀ σ3 : zS, σ3 = zup τ1 24 31 ((τ1.1 24 31) + 1) → CT g l M_X7_goOn 0 [.ref (zad g 24)] σ3 (zQv (fun τ4 => (vp_in (τ4.1 24 30) 60 ∧ (∀ σ5 : zS, σ5 = zup τ4 32 (Int32.toNatClampNeg (τ4.1 24 30)) y1 → CT g l M_X7_readsNumbers 0 [.ref (zad g 24), .int (τ4.1 24 30), .int y1] σ5 (zQv (fun τ6 => CT g l M_X7_isGood 0 [.ref (zad g 24)] τ6 (zQi (fun v7 τ7 => ((¬ v7 = 0 → (∀ σ9 : zS, σ9 = zup τ7 24 30 ((τ7.1 24 30) + 1) → ((¬ y1 = 7 → L_X7_command_122 g l K X 0 (σ9.1 24 32) σ9) ∧ (y1 = 7 → L_X7_command_122 g l K X 1 (σ9.1 24 32) σ9)))) ∧ (v7 = 0 → K τ7))) (fun E τ => X E τ))) (fun E τ => X E τ))))) (fun E τ => X E τ)))) ∧ (v1 = 0 → K τ1))) (fun E τ => X E τ))) :
    L_X7_command_48 g l K X y1 σ := by
  refine e_aload_n dX7_command_48 rfl 0 rfl ?_
  refine e_callVi (j1 := 0) (j2 := 0) (av := []) rfl rfl (Nat.le_of_ble_eq_true rfl) rfl rfl H i_X7_isGood rfl n_X7_isGood v_X7_isGood q_X7_122 (by decide) (by decide) (Nat.le_of_ble_eq_true rfl) dX7_command_49 (fun v1 τ1 H => ?_) (fun E τ H => H)
  refine e_if_ne (tgt := 56) dX7_command_52 (by decide) (fun h2 => ?_) (fun h2 => ?_)
  · replace H := H.1 h2
    refine e_aload_n dX7_command_56 rfl 0 rfl ?_
    refine e_dup dX7_command_57 rfl ?_
    refine fg_X7_461 rfl dX7_command_58 ?_
    refine e_iconst (v := 1) dX7_command_61 (by decide) ?_
    refine e_iadd dX7_command_62 ?_
    refine fp_X7_461 rfl dX7_command_63 ?_
    replace H := H _ rfl
    generalize zup τ1 24 31 ((τ1.1 24 31) + 1) = σ3 at H ⊢
    refine e_aload_n dX7_command_66 rfl 0 rfl ?_
    refine e_callVv (j1 := 0) (j2 := 0) (av := []) rfl rfl (Nat.le_of_ble_eq_true rfl) rfl rfl H i_X7_goOn rfl n_X7_goOn v_X7_goOn q_X7_132 (by decide) (by decide) (Nat.le_of_ble_eq_true rfl) dX7_command_67 (fun τ4 H => ?_) (fun E τ H => H)
    refine e_aload_n dX7_command_70 rfl 0 rfl ?_
    refine fg_X7_464 rfl dX7_command_71 ?_
    refine e_istore_n (ls' := [(2, .int (τ4.1 24 30)), (0, .ref (zad g 24)), (1, .int y1)]) dX7_command_74 rfl (by decide) rfl ?_
    refine e_aload_n dX7_command_75 rfl 1 rfl ?_
    refine fg_X7_38 rfl dX7_command_76 ?_
    refine e_iload_n dX7_command_79 rfl 0 rfl ?_
    refine e_iload_n dX7_command_80 rfl 2 rfl ?_
    refine e_iast (n := 60) rfl (Nat.le_of_ble_eq_true rfl) H.1 dX7_command_81 ?_
    replace H := H.2
    replace H := H _ rfl
    generalize zup τ4 32 (Int32.toNatClampNeg (τ4.1 24 30)) y1 = σ5 at H ⊢
    refine e_aload_n dX7_command_82 rfl 1 rfl ?_
    refine e_iload_n dX7_command_83 rfl 0 rfl ?_
    refine e_iload_n dX7_command_84 rfl 2 rfl ?_
    refine e_callVv (j1 := 0) (j2 := 0) (av := [.int (τ4.1 24 30), .int y1]) rfl rfl (Nat.le_of_ble_eq_true rfl) rfl rfl H i_X7_readsNumbers rfl n_X7_readsNumbers v_X7_readsNumbers q_X7_467 (by decide) (by decide) (Nat.le_of_ble_eq_true rfl) dX7_command_85 (fun τ6 H => ?_) (fun E τ H => H)
    refine e_aload_n dX7_command_88 rfl 1 rfl ?_
    refine e_callVi (j1 := 0) (j2 := 0) (av := []) rfl rfl (Nat.le_of_ble_eq_true rfl) rfl rfl H i_X7_isGood rfl n_X7_isGood v_X7_isGood q_X7_122 (by decide) (by decide) (Nat.le_of_ble_eq_true rfl) dX7_command_89 (fun v7 τ7 H => ?_) (fun E τ H => H)
    refine e_if_ne (tgt := 96) dX7_command_92 (by decide) (fun h8 => ?_) (fun h8 => ?_)
    · replace H := H.1 h8
      refine e_aload_n dX7_command_96 rfl 1 rfl ?_
      refine e_dup dX7_command_97 rfl ?_
      refine fg_X7_464 rfl dX7_command_98 ?_
      refine e_iconst (v := 1) dX7_command_101 (by decide) ?_
      refine e_iadd dX7_command_102 ?_
      refine fp_X7_464 rfl dX7_command_103 ?_
      replace H := H _ rfl
      generalize zup τ7 24 30 ((τ7.1 24 30) + 1) = σ9 at H ⊢
      refine e_aload_n dX7_command_106 rfl 1 rfl ?_
      refine e_dup dX7_command_107 rfl ?_
      refine fg_X7_458 rfl dX7_command_108 ?_
      refine e_iload_n dX7_command_111 rfl 2 rfl ?_
      refine e_bipush (v := 7) dX7_command_112 (by decide) ?_
      refine e_icmp_ne (tgt := 121) dX7_command_114 (by decide) (fun h10 => ?_) (fun h10 => ?_)
      · replace H := H.1 h10
        refine e_iconst (v := 0) dX7_command_121 (by decide) ?_
        refine e_ls [] rfl ?_
        exact H
      · replace H := H.2 h10
        refine e_iconst (v := 1) dX7_command_117 (by decide) ?_
        refine e_goto (tgt := 122) dX7_command_118 (by decide) ?_
        refine e_ls [] rfl ?_
        exact H
    · replace H := H.2 h8
      exact e_vret rfl dX7_command_95 H
  · replace H := H.2 h2
    exact e_vret rfl dX7_command_55 H
set_option maxRecDepth 20000 in
set_option maxHeartbeats 2000000 in
theorem b_X7_command_122 {g : zG} {l : Launch} {K : zS → Prop} {X : String → zS → Prop} {z0 : Int32} {z1 : Int32} {σ : zS}
    (H : CT g l M_X7_truth 0 [.int z0] σ (zQi (fun v1 τ1 => (∀ σ2 : zS, σ2 = zup τ1 24 32 (z1 + v1) → K σ2)) (fun E τ => X E τ))) :
    L_X7_command_122 g l K X z0 z1 σ := by
  refine e_callSi (j1 := 0) (j2 := 0) (av := [.int z0]) rfl H i_X7_truth rfl s_X7_truth q_X7_71 (by decide) (by decide) (Nat.le_of_ble_eq_true rfl) dX7_command_122 (fun v1 τ1 H => ?_) (fun E τ H => H)
  refine e_iadd dX7_command_125 ?_
  refine fp_X7_458 rfl dX7_command_126 ?_
  replace H := H _ rfl
  generalize zup τ1 24 32 (z1 + v1) = σ2 at H ⊢
  exact e_vret rfl dX7_command_129 H
abbrev L_X7_closes_0 (g : zG) (l : Launch) (K : zS → Prop) (X : String → zS → Prop) (σ : zS) : Prop :=
  EV g l M_X7_closes 0 (zQv K X) 0 [(0, .ref (zad g 24))] [] σ
set_option maxRecDepth 20000 in
set_option maxHeartbeats 2000000 in
theorem b_X7_closes {g : zG} {l : Launch} {K : zS → Prop} {X : String → zS → Prop} {σ : zS}
    (H : L_X7_closes_0 g l K X  σ) :
    CT g l M_X7_closes 0 [.ref (zad g 24)] σ (zQv K X) := by
  refine CT_of rfl (by decide) (Nat.le_of_ble_eq_true rfl) ?_
  change EV _ _ _ _ _ 0 [(0, .ref (zad g 24))] [] _
  refine e_ls [0] rfl ?_
  exact H
set_option maxRecDepth 20000 in
set_option maxHeartbeats 2000000 in
theorem b_X7_closes_0 {g : zG} {l : Launch} {K : zS → Prop} {X : String → zS → Prop} {σ : zS}
    (H : (((σ.1 24 32) ≤ 0 → K σ) ∧ (¬ (σ.1 24 32) ≤ 0 → CT g l M_X7_isSign 0 [.ref (zad g 24), .int 41] σ (zQi (fun v2 τ2 => ((v2 = 0 → K τ2) ∧ (¬ v2 = 0 → (∀ σ4 : zS, σ4 = zup τ2 24 32 ((τ2.1 24 32) - 1) → (vp_in (σ4.1 24 30) 60 ∧ (∀ σ5 : zS, σ5 = zup σ4 32 (Int32.toNatClampNeg (σ4.1 24 30)) 8 → (∀ σ6 : zS, σ6 = zup σ5 24 30 ((σ5.1 24 30) + 1) → CT g l M_X7_goOn 0 [.ref (zad g 24)] σ6 (zQv (fun τ7 => CT g l M_X7_mustSign 0 [.ref (zad g 24), .int 59] τ7 (zQv (fun τ8 => L_X7_closes_0 g l K X  τ8) (fun E τ => X E τ))) (fun E τ => X E τ))))))))) (fun E τ => X E τ))))) :
    L_X7_closes_0 g l K X σ := by
  refine e_aload_n dX7_closes_0 rfl 0 rfl ?_
  refine fg_X7_458 rfl dX7_closes_1 ?_
  refine e_if_le (tgt := 60) dX7_closes_4 (by decide) (fun h1 => ?_) (fun h1 => ?_)
  · replace H := H.1 h1
    exact e_vret rfl dX7_closes_60 H
  · replace H := H.2 h1
    refine e_aload_n dX7_closes_7 rfl 0 rfl ?_
    refine e_bipush (v := 41) dX7_closes_8 (by decide) ?_
    refine e_callVi (j1 := 0) (j2 := 0) (av := [.int 41]) rfl rfl (Nat.le_of_ble_eq_true rfl) rfl rfl H i_X7_isSign rfl n_X7_isSign v_X7_isSign q_X7_126 (by decide) (by decide) (Nat.le_of_ble_eq_true rfl) dX7_closes_10 (fun v2 τ2 H => ?_) (fun E τ H => H)
    refine e_if_eq (tgt := 60) dX7_closes_13 (by decide) (fun h3 => ?_) (fun h3 => ?_)
    · replace H := H.1 h3
      exact e_vret rfl dX7_closes_60 H
    · replace H := H.2 h3
      refine e_aload_n dX7_closes_16 rfl 0 rfl ?_
      refine e_dup dX7_closes_17 rfl ?_
      refine fg_X7_458 rfl dX7_closes_18 ?_
      refine e_iconst (v := 1) dX7_closes_21 (by decide) ?_
      refine e_isub dX7_closes_22 ?_
      refine fp_X7_458 rfl dX7_closes_23 ?_
      replace H := H _ rfl
      generalize zup τ2 24 32 ((τ2.1 24 32) - 1) = σ4 at H ⊢
      refine e_aload_n dX7_closes_26 rfl 0 rfl ?_
      refine fg_X7_38 rfl dX7_closes_27 ?_
      refine e_aload_n dX7_closes_30 rfl 0 rfl ?_
      refine fg_X7_464 rfl dX7_closes_31 ?_
      refine e_bipush (v := 8) dX7_closes_34 (by decide) ?_
      refine e_iast (n := 60) rfl (Nat.le_of_ble_eq_true rfl) H.1 dX7_closes_36 ?_
      replace H := H.2
      replace H := H _ rfl
      generalize zup σ4 32 (Int32.toNatClampNeg (σ4.1 24 30)) 8 = σ5 at H ⊢
      refine e_aload_n dX7_closes_37 rfl 0 rfl ?_
      refine e_dup dX7_closes_38 rfl ?_
      refine fg_X7_464 rfl dX7_closes_39 ?_
      refine e_iconst (v := 1) dX7_closes_42 (by decide) ?_
      refine e_iadd dX7_closes_43 ?_
      refine fp_X7_464 rfl dX7_closes_44 ?_
      replace H := H _ rfl
      generalize zup σ5 24 30 ((σ5.1 24 30) + 1) = σ6 at H ⊢
      refine e_aload_n dX7_closes_47 rfl 0 rfl ?_
      refine e_callVv (j1 := 0) (j2 := 0) (av := []) rfl rfl (Nat.le_of_ble_eq_true rfl) rfl rfl H i_X7_goOn rfl n_X7_goOn v_X7_goOn q_X7_132 (by decide) (by decide) (Nat.le_of_ble_eq_true rfl) dX7_closes_48 (fun τ7 H => ?_) (fun E τ H => H)
      refine e_aload_n dX7_closes_51 rfl 0 rfl ?_
      refine e_bipush (v := 59) dX7_closes_52 (by decide) ?_
      refine e_callVv (j1 := 0) (j2 := 0) (av := [.int 59]) rfl rfl (Nat.le_of_ble_eq_true rfl) rfl rfl H i_X7_mustSign rfl n_X7_mustSign v_X7_mustSign q_X7_231 (by decide) (by decide) (Nat.le_of_ble_eq_true rfl) dX7_closes_54 (fun τ8 H => ?_) (fun E τ H => H)
      refine e_goto (tgt := 0) dX7_closes_57 (by decide) ?_
      refine e_ls [0] rfl ?_
      exact H
set_option maxRecDepth 20000 in
set_option maxHeartbeats 2000000 in
theorem b_X7_sided {g : zG} {l : Launch} {K : Int32 → zS → Prop} {X : String → zS → Prop} {x1 : Int32} {σ : zS}
    (H : (vp_in x1 60 ∧ ((¬ (σ.1 34 (Int32.toNatClampNeg x1)) = 1 → (vp_in x1 60 ∧ K (-(σ.1 35 (Int32.toNatClampNeg x1))) σ)) ∧ ((σ.1 34 (Int32.toNatClampNeg x1)) = 1 → (vp_in x1 60 ∧ K (σ.1 35 (Int32.toNatClampNeg x1)) σ))))) :
    CT g l M_X7_sided 0 [.ref (zad g 24), .int x1] σ (zQi K X) := by
  refine CT_of rfl (by decide) (Nat.le_of_ble_eq_true rfl) ?_
  change EV _ _ _ _ _ 0 [(0, .ref (zad g 24)), (1, .int x1)] [] _
  refine e_aload_n dX7_sided_0 rfl 0 rfl ?_
  refine fg_X7_44 rfl dX7_sided_1 ?_
  refine e_iload_n dX7_sided_4 rfl 1 rfl ?_
  refine e_iald (n := 60) rfl (Nat.le_of_ble_eq_true rfl) H.1 dX7_sided_5 ?_
  replace H := H.2
  refine e_iconst (v := 1) dX7_sided_6 (by decide) ?_
  refine e_icmp_ne (tgt := 19) dX7_sided_7 (by decide) (fun h1 => ?_) (fun h1 => ?_)
  · replace H := H.1 h1
    refine e_aload_n dX7_sided_19 rfl 0 rfl ?_
    refine fg_X7_47 rfl dX7_sided_20 ?_
    refine e_iload_n dX7_sided_23 rfl 1 rfl ?_
    refine e_iald (n := 60) rfl (Nat.le_of_ble_eq_true rfl) H.1 dX7_sided_24 ?_
    replace H := H.2
    refine e_ineg dX7_sided_25 ?_
    exact e_iret rfl dX7_sided_26 H
  · replace H := H.2 h1
    refine e_aload_n dX7_sided_10 rfl 0 rfl ?_
    refine fg_X7_47 rfl dX7_sided_11 ?_
    refine e_iload_n dX7_sided_14 rfl 1 rfl ?_
    refine e_iald (n := 60) rfl (Nat.le_of_ble_eq_true rfl) H.1 dX7_sided_15 ?_
    replace H := H.2
    refine e_goto (tgt := 26) dX7_sided_16 (by decide) ?_
    exact e_iret rfl dX7_sided_26 H
set_option maxRecDepth 20000 in
set_option maxHeartbeats 2000000 in
theorem b_X7_may {g : zG} {l : Launch} {K : Int32 → zS → Prop} {X : String → zS → Prop} {x1 : Int32} {σ : zS}
    (H : (vp_in x1 60 ∧ (vp_in x1 60 ∧ ((((σ.1 32 (Int32.toNatClampNeg x1)).toInt < 0 ∨ (5 : Int) < (σ.1 32 (Int32.toNatClampNeg x1)).toInt) → CT g l M_X7_isSlat 0 [.ref (zad g 24), .int (σ.1 33 (Int32.toNatClampNeg x1))] σ (zQi (fun v2 τ2 => (zbl v2 ∧ K v2 τ2)) (fun E τ => X E τ))) ∧ ((σ.1 32 (Int32.toNatClampNeg x1)) = nI 0 → CT g l M_X7_sided 0 [.ref (zad g 24), .int x1] σ (zQi (fun v3 τ3 => CT g l M_X7_isPull 0 [.int v3] τ3 (zQi (fun v4 τ4 => (zbl v4 ∧ K v4 τ4)) (fun E τ => X E τ))) (fun E τ => X E τ))) ∧ ((σ.1 32 (Int32.toNatClampNeg x1)) = nI 1 → CT g l M_X7_isSlat 0 [.ref (zad g 24), .int (σ.1 33 (Int32.toNatClampNeg x1))] σ (zQi (fun v5 τ5 => ((v5 = 0 → K 0 τ5) ∧ (¬ v5 = 0 → CT g l M_X7_sided 0 [.ref (zad g 24), .int x1] τ5 (zQi (fun v7 τ7 => CT g l M_X7_isTurn 0 [.int v7] τ7 (zQi (fun v8 τ8 => ((v8 = 0 → K 0 τ8) ∧ (¬ v8 = 0 → CT g l M_X7_isFree 0 [.ref (zad g 24), .int (σ.1 33 (Int32.toNatClampNeg x1))] τ8 (zQi (fun v10 τ10 => ((v10 = 0 → K 0 τ10) ∧ (¬ v10 = 0 → K 1 τ10))) (fun E τ => X E τ))))) (fun E τ => X E τ))) (fun E τ => X E τ))))) (fun E τ => X E τ))) ∧ ((σ.1 32 (Int32.toNatClampNeg x1)) = nI 2 → CT g l M_X7_isSlat 0 [.ref (zad g 24), .int (σ.1 33 (Int32.toNatClampNeg x1))] σ (zQi (fun v12 τ12 => ((v12 = 0 → K 0 τ12) ∧ (¬ v12 = 0 → CT g l M_X7_isFree 0 [.ref (zad g 24), .int (σ.1 33 (Int32.toNatClampNeg x1))] τ12 (zQi (fun v14 τ14 => ((v14 = 0 → K 0 τ14) ∧ (¬ v14 = 0 → K 1 τ14))) (fun E τ => X E τ))))) (fun E τ => X E τ))) ∧ ((σ.1 32 (Int32.toNatClampNeg x1)) = nI 3 → CT g l M_X7_isSlat 0 [.ref (zad g 24), .int (σ.1 33 (Int32.toNatClampNeg x1))] σ (zQi (fun v16 τ16 => ((v16 = 0 → K 0 τ16) ∧ (¬ v16 = 0 → CT g l M_X7_isFree 0 [.ref (zad g 24), .int (σ.1 33 (Int32.toNatClampNeg x1))] τ16 (zQi (fun v18 τ18 => ((¬ v18 = 0 → K 0 τ18) ∧ (v18 = 0 → K 1 τ18))) (fun E τ => X E τ))))) (fun E τ => X E τ))) ∧ ((σ.1 32 (Int32.toNatClampNeg x1)) = nI 4 → CT g l M_X7_isSlat 0 [.ref (zad g 24), .int (σ.1 33 (Int32.toNatClampNeg x1))] σ (zQi (fun v20 τ20 => ((v20 = 0 → K 0 τ20) ∧ (¬ v20 = 0 → (vp_in x1 60 ∧ CT g l M_X7_bearsMore 0 [.ref (zad g 24), .int (σ.1 33 (Int32.toNatClampNeg x1)), .int (τ20.1 34 (Int32.toNatClampNeg x1))] τ20 (zQi (fun v22 τ22 => ((v22 = 0 → K 0 τ22) ∧ (¬ v22 = 0 → K 1 τ22))) (fun E τ => X E τ)))))) (fun E τ => X E τ))) ∧ ((σ.1 32 (Int32.toNatClampNeg x1)) = nI 5 → (vp_in x1 60 ∧ (vp_in x1 60 ∧ CT g l M_X7_isOfSlat 0 [.ref (zad g 24), .int (σ.1 33 (Int32.toNatClampNeg x1)), .int (σ.1 35 (Int32.toNatClampNeg x1)), .int (σ.1 36 (Int32.toNatClampNeg x1))] σ (zQi (fun v24 τ24 => ((v24 = 0 → K 0 τ24) ∧ (¬ v24 = 0 → (vp_in x1 60 ∧ CT g l M_X7_isColour 0 [.int (τ24.1 37 (Int32.toNatClampNeg x1))] τ24 (zQi (fun v26 τ26 => ((v26 = 0 → K 0 τ26) ∧ (¬ v26 = 0 → K 1 τ26))) (fun E τ => X E τ)))))) (fun E τ => X E τ))))))))) :
    CT g l M_X7_may 0 [.ref (zad g 24), .int x1] σ (zQi K X) := by
  refine CT_of rfl (by decide) (Nat.le_of_ble_eq_true rfl) ?_
  change EV _ _ _ _ _ 0 [(0, .ref (zad g 24)), (1, .int x1)] [] _
  refine e_aload_n dX7_may_0 rfl 0 rfl ?_
  refine fg_X7_41 rfl dX7_may_1 ?_
  refine e_iload_n dX7_may_4 rfl 1 rfl ?_
  refine e_iald (n := 60) rfl (Nat.le_of_ble_eq_true rfl) H.1 dX7_may_5 ?_
  replace H := H.2
  refine e_istore_n (ls' := [(2, .int (σ.1 33 (Int32.toNatClampNeg x1))), (0, .ref (zad g 24)), (1, .int x1)]) dX7_may_6 rfl (by decide) rfl ?_
  refine e_aload_n dX7_may_7 rfl 1 rfl ?_
  refine fg_X7_38 rfl dX7_may_8 ?_
  refine e_iload_n dX7_may_11 rfl 2 rfl ?_
  refine e_iald (n := 60) rfl (Nat.le_of_ble_eq_true rfl) H.1 dX7_may_12 ?_
  replace H := H.2
  rcases zsw 6 (σ.1 32 (Int32.toNatClampNeg x1)) (by decide) with h1 | ⟨h1k, h1l, h1⟩
  · replace H := H.1 h1
    refine e_tableOut (tgt := 204) dX7_may_13 h1 (by decide) ?_
    refine e_aload_n dX7_may_204 rfl 1 rfl ?_
    refine e_iload_n dX7_may_205 rfl 0 rfl ?_
    refine e_callVi (j1 := 0) (j2 := 0) (av := [.int (σ.1 33 (Int32.toNatClampNeg x1))]) rfl rfl (Nat.le_of_ble_eq_true rfl) rfl rfl H i_X7_isSlat rfl n_X7_isSlat v_X7_isSlat q_X7_290 (by decide) (by decide) (Nat.le_of_ble_eq_true rfl) dX7_may_206 (fun v2 τ2 H => ?_) (fun E τ H => H)
    exact e_zret rfl (zbl_n H.1) dX7_may_209 H.2
  · match h1k, h1l, h1 with
    | 0, _, h1 =>
      replace H := H.2.1 h1
      refine e_tableIn (tgt := 52) dX7_may_13 (by rw [h1]; decide) (by rw [h1]; decide) (by rw [h1]; rfl) (by decide) ?_
      refine e_aload_n dX7_may_52 rfl 1 rfl ?_
      refine e_iload_n dX7_may_53 rfl 2 rfl ?_
      refine e_callVi (j1 := 0) (j2 := 0) (av := [.int x1]) rfl rfl (Nat.le_of_ble_eq_true rfl) rfl rfl H i_X7_sided rfl n_X7_sided v_X7_sided q_X7_471 (by decide) (by decide) (Nat.le_of_ble_eq_true rfl) dX7_may_54 (fun v3 τ3 H => ?_) (fun E τ H => H)
      refine e_callSi (j1 := 0) (j2 := 0) (av := [.int v3]) rfl H i_X7_isPull rfl s_X7_isPull q_X7_393 (by decide) (by decide) (Nat.le_of_ble_eq_true rfl) dX7_may_57 (fun v4 τ4 H => ?_) (fun E τ H => H)
      exact e_zret rfl (zbl_n H.1) dX7_may_60 H.2
    | 1, _, h1 =>
      replace H := H.2.2.1 h1
      refine e_tableIn (tgt := 61) dX7_may_13 (by rw [h1]; decide) (by rw [h1]; decide) (by rw [h1]; rfl) (by decide) ?_
      refine e_aload_n dX7_may_61 rfl 1 rfl ?_
      refine e_iload_n dX7_may_62 rfl 0 rfl ?_
      refine e_callVi (j1 := 0) (j2 := 0) (av := [.int (σ.1 33 (Int32.toNatClampNeg x1))]) rfl rfl (Nat.le_of_ble_eq_true rfl) rfl rfl H i_X7_isSlat rfl n_X7_isSlat v_X7_isSlat q_X7_290 (by decide) (by decide) (Nat.le_of_ble_eq_true rfl) dX7_may_63 (fun v5 τ5 H => ?_) (fun E τ H => H)
      refine e_if_eq (tgt := 92) dX7_may_66 (by decide) (fun h6 => ?_) (fun h6 => ?_)
      · replace H := H.1 h6
        refine e_iconst (v := 0) dX7_may_92 (by decide) ?_
        exact e_zret rfl rfl dX7_may_93 H
      · replace H := H.2 h6
        refine e_aload_n dX7_may_69 rfl 1 rfl ?_
        refine e_iload_n dX7_may_70 rfl 2 rfl ?_
        refine e_callVi (j1 := 0) (j2 := 0) (av := [.int x1]) rfl rfl (Nat.le_of_ble_eq_true rfl) rfl rfl H i_X7_sided rfl n_X7_sided v_X7_sided q_X7_471 (by decide) (by decide) (Nat.le_of_ble_eq_true rfl) dX7_may_71 (fun v7 τ7 H => ?_) (fun E τ H => H)
        refine e_callSi (j1 := 0) (j2 := 0) (av := [.int v7]) rfl H i_X7_isTurn rfl s_X7_isTurn q_X7_403 (by decide) (by decide) (Nat.le_of_ble_eq_true rfl) dX7_may_74 (fun v8 τ8 H => ?_) (fun E τ H => H)
        refine e_if_eq (tgt := 92) dX7_may_77 (by decide) (fun h9 => ?_) (fun h9 => ?_)
        · replace H := H.1 h9
          refine e_iconst (v := 0) dX7_may_92 (by decide) ?_
          exact e_zret rfl rfl dX7_may_93 H
        · replace H := H.2 h9
          refine e_aload_n dX7_may_80 rfl 1 rfl ?_
          refine e_iload_n dX7_may_81 rfl 0 rfl ?_
          refine e_callVi (j1 := 0) (j2 := 0) (av := [.int (σ.1 33 (Int32.toNatClampNeg x1))]) rfl rfl (Nat.le_of_ble_eq_true rfl) rfl rfl H i_X7_isFree rfl n_X7_isFree v_X7_isFree q_X7_406 (by decide) (by decide) (Nat.le_of_ble_eq_true rfl) dX7_may_82 (fun v10 τ10 H => ?_) (fun E τ H => H)
          refine e_if_eq (tgt := 92) dX7_may_85 (by decide) (fun h11 => ?_) (fun h11 => ?_)
          · replace H := H.1 h11
            refine e_iconst (v := 0) dX7_may_92 (by decide) ?_
            exact e_zret rfl rfl dX7_may_93 H
          · replace H := H.2 h11
            refine e_iconst (v := 1) dX7_may_88 (by decide) ?_
            refine e_goto (tgt := 93) dX7_may_89 (by decide) ?_
            exact e_zret rfl rfl dX7_may_93 H
    | 2, _, h1 =>
      replace H := H.2.2.2.1 h1
      refine e_tableIn (tgt := 94) dX7_may_13 (by rw [h1]; decide) (by rw [h1]; decide) (by rw [h1]; rfl) (by decide) ?_
      refine e_aload_n dX7_may_94 rfl 1 rfl ?_
      refine e_iload_n dX7_may_95 rfl 0 rfl ?_
      refine e_callVi (j1 := 0) (j2 := 0) (av := [.int (σ.1 33 (Int32.toNatClampNeg x1))]) rfl rfl (Nat.le_of_ble_eq_true rfl) rfl rfl H i_X7_isSlat rfl n_X7_isSlat v_X7_isSlat q_X7_290 (by decide) (by decide) (Nat.le_of_ble_eq_true rfl) dX7_may_96 (fun v12 τ12 H => ?_) (fun E τ H => H)
      refine e_if_eq (tgt := 114) dX7_may_99 (by decide) (fun h13 => ?_) (fun h13 => ?_)
      · replace H := H.1 h13
        refine e_iconst (v := 0) dX7_may_114 (by decide) ?_
        exact e_zret rfl rfl dX7_may_115 H
      · replace H := H.2 h13
        refine e_aload_n dX7_may_102 rfl 1 rfl ?_
        refine e_iload_n dX7_may_103 rfl 0 rfl ?_
        refine e_callVi (j1 := 0) (j2 := 0) (av := [.int (σ.1 33 (Int32.toNatClampNeg x1))]) rfl rfl (Nat.le_of_ble_eq_true rfl) rfl rfl H i_X7_isFree rfl n_X7_isFree v_X7_isFree q_X7_406 (by decide) (by decide) (Nat.le_of_ble_eq_true rfl) dX7_may_104 (fun v14 τ14 H => ?_) (fun E τ H => H)
        refine e_if_eq (tgt := 114) dX7_may_107 (by decide) (fun h15 => ?_) (fun h15 => ?_)
        · replace H := H.1 h15
          refine e_iconst (v := 0) dX7_may_114 (by decide) ?_
          exact e_zret rfl rfl dX7_may_115 H
        · replace H := H.2 h15
          refine e_iconst (v := 1) dX7_may_110 (by decide) ?_
          refine e_goto (tgt := 115) dX7_may_111 (by decide) ?_
          exact e_zret rfl rfl dX7_may_115 H
    | 3, _, h1 =>
      replace H := H.2.2.2.2.1 h1
      refine e_tableIn (tgt := 116) dX7_may_13 (by rw [h1]; decide) (by rw [h1]; decide) (by rw [h1]; rfl) (by decide) ?_
      refine e_aload_n dX7_may_116 rfl 1 rfl ?_
      refine e_iload_n dX7_may_117 rfl 0 rfl ?_
      refine e_callVi (j1 := 0) (j2 := 0) (av := [.int (σ.1 33 (Int32.toNatClampNeg x1))]) rfl rfl (Nat.le_of_ble_eq_true rfl) rfl rfl H i_X7_isSlat rfl n_X7_isSlat v_X7_isSlat q_X7_290 (by decide) (by decide) (Nat.le_of_ble_eq_true rfl) dX7_may_118 (fun v16 τ16 H => ?_) (fun E τ H => H)
      refine e_if_eq (tgt := 136) dX7_may_121 (by decide) (fun h17 => ?_) (fun h17 => ?_)
      · replace H := H.1 h17
        refine e_iconst (v := 0) dX7_may_136 (by decide) ?_
        exact e_zret rfl rfl dX7_may_137 H
      · replace H := H.2 h17
        refine e_aload_n dX7_may_124 rfl 1 rfl ?_
        refine e_iload_n dX7_may_125 rfl 0 rfl ?_
        refine e_callVi (j1 := 0) (j2 := 0) (av := [.int (σ.1 33 (Int32.toNatClampNeg x1))]) rfl rfl (Nat.le_of_ble_eq_true rfl) rfl rfl H i_X7_isFree rfl n_X7_isFree v_X7_isFree q_X7_406 (by decide) (by decide) (Nat.le_of_ble_eq_true rfl) dX7_may_126 (fun v18 τ18 H => ?_) (fun E τ H => H)
        refine e_if_ne (tgt := 136) dX7_may_129 (by decide) (fun h19 => ?_) (fun h19 => ?_)
        · replace H := H.1 h19
          refine e_iconst (v := 0) dX7_may_136 (by decide) ?_
          exact e_zret rfl rfl dX7_may_137 H
        · replace H := H.2 h19
          refine e_iconst (v := 1) dX7_may_132 (by decide) ?_
          refine e_goto (tgt := 137) dX7_may_133 (by decide) ?_
          exact e_zret rfl rfl dX7_may_137 H
    | 4, _, h1 =>
      replace H := H.2.2.2.2.2.1 h1
      refine e_tableIn (tgt := 138) dX7_may_13 (by rw [h1]; decide) (by rw [h1]; decide) (by rw [h1]; rfl) (by decide) ?_
      refine e_aload_n dX7_may_138 rfl 1 rfl ?_
      refine e_iload_n dX7_may_139 rfl 0 rfl ?_
      refine e_callVi (j1 := 0) (j2 := 0) (av := [.int (σ.1 33 (Int32.toNatClampNeg x1))]) rfl rfl (Nat.le_of_ble_eq_true rfl) rfl rfl H i_X7_isSlat rfl n_X7_isSlat v_X7_isSlat q_X7_290 (by decide) (by decide) (Nat.le_of_ble_eq_true rfl) dX7_may_140 (fun v20 τ20 H => ?_) (fun E τ H => H)
      refine e_if_eq (tgt := 164) dX7_may_143 (by decide) (fun h21 => ?_) (fun h21 => ?_)
      · replace H := H.1 h21
        refine e_iconst (v := 0) dX7_may_164 (by decide) ?_
        exact e_zret rfl rfl dX7_may_165 H
      · replace H := H.2 h21
        refine e_aload_n dX7_may_146 rfl 1 rfl ?_
        refine e_iload_n dX7_may_147 rfl 0 rfl ?_
        refine e_aload_n dX7_may_148 rfl 1 rfl ?_
        refine fg_X7_44 rfl dX7_may_149 ?_
        refine e_iload_n dX7_may_152 rfl 2 rfl ?_
        refine e_iald (n := 60) rfl (Nat.le_of_ble_eq_true rfl) H.1 dX7_may_153 ?_
        replace H := H.2
        refine e_callVi (j1 := 0) (j2 := 0) (av := [.int (σ.1 33 (Int32.toNatClampNeg x1)), .int (τ20.1 34 (Int32.toNatClampNeg x1))]) rfl rfl (Nat.le_of_ble_eq_true rfl) rfl rfl H i_X7_bearsMore rfl n_X7_bearsMore v_X7_bearsMore q_X7_354 (by decide) (by decide) (Nat.le_of_ble_eq_true rfl) dX7_may_154 (fun v22 τ22 H => ?_) (fun E τ H => H)
        refine e_if_eq (tgt := 164) dX7_may_157 (by decide) (fun h23 => ?_) (fun h23 => ?_)
        · replace H := H.1 h23
          refine e_iconst (v := 0) dX7_may_164 (by decide) ?_
          exact e_zret rfl rfl dX7_may_165 H
        · replace H := H.2 h23
          refine e_iconst (v := 1) dX7_may_160 (by decide) ?_
          refine e_goto (tgt := 165) dX7_may_161 (by decide) ?_
          exact e_zret rfl rfl dX7_may_165 H
    | 5, _, h1 =>
      replace H := H.2.2.2.2.2.2 h1
      refine e_tableIn (tgt := 166) dX7_may_13 (by rw [h1]; decide) (by rw [h1]; decide) (by rw [h1]; rfl) (by decide) ?_
      refine e_aload_n dX7_may_166 rfl 1 rfl ?_
      refine e_iload_n dX7_may_167 rfl 0 rfl ?_
      refine e_aload_n dX7_may_168 rfl 1 rfl ?_
      refine fg_X7_47 rfl dX7_may_169 ?_
      refine e_iload_n dX7_may_172 rfl 2 rfl ?_
      refine e_iald (n := 60) rfl (Nat.le_of_ble_eq_true rfl) H.1 dX7_may_173 ?_
      replace H := H.2
      refine e_aload_n dX7_may_174 rfl 1 rfl ?_
      refine fg_X7_50 rfl dX7_may_175 ?_
      refine e_iload_n dX7_may_178 rfl 2 rfl ?_
      refine e_iald (n := 60) rfl (Nat.le_of_ble_eq_true rfl) H.1 dX7_may_179 ?_
      replace H := H.2
      refine e_callVi (j1 := 0) (j2 := 0) (av := [.int (σ.1 33 (Int32.toNatClampNeg x1)), .int (σ.1 35 (Int32.toNatClampNeg x1)), .int (σ.1 36 (Int32.toNatClampNeg x1))]) rfl rfl (Nat.le_of_ble_eq_true rfl) rfl rfl H i_X7_isOfSlat rfl n_X7_isOfSlat v_X7_isOfSlat q_X7_323 (by decide) (by decide) (Nat.le_of_ble_eq_true rfl) dX7_may_180 (fun v24 τ24 H => ?_) (fun E τ H => H)
      refine e_if_eq (tgt := 202) dX7_may_183 (by decide) (fun h25 => ?_) (fun h25 => ?_)
      · replace H := H.1 h25
        refine e_iconst (v := 0) dX7_may_202 (by decide) ?_
        exact e_zret rfl rfl dX7_may_203 H
      · replace H := H.2 h25
        refine e_aload_n dX7_may_186 rfl 1 rfl ?_
        refine fg_X7_53 rfl dX7_may_187 ?_
        refine e_iload_n dX7_may_190 rfl 2 rfl ?_
        refine e_iald (n := 60) rfl (Nat.le_of_ble_eq_true rfl) H.1 dX7_may_191 ?_
        replace H := H.2
        refine e_callSi (j1 := 0) (j2 := 0) (av := [.int (τ24.1 37 (Int32.toNatClampNeg x1))]) rfl H i_X7_isColour rfl s_X7_isColour q_X7_423 (by decide) (by decide) (Nat.le_of_ble_eq_true rfl) dX7_may_192 (fun v26 τ26 H => ?_) (fun E τ H => H)
        refine e_if_eq (tgt := 202) dX7_may_195 (by decide) (fun h27 => ?_) (fun h27 => ?_)
        · replace H := H.1 h27
          refine e_iconst (v := 0) dX7_may_202 (by decide) ?_
          exact e_zret rfl rfl dX7_may_203 H
        · replace H := H.2 h27
          refine e_iconst (v := 1) dX7_may_198 (by decide) ?_
          refine e_goto (tgt := 203) dX7_may_199 (by decide) ?_
          exact e_zret rfl rfl dX7_may_203 H
    | n + 6, h, _ => exact absurd h (by omega)
set_option maxRecDepth 20000 in
set_option maxHeartbeats 2000000 in
theorem b_X7_does {g : zG} {l : Launch} {K : Int32 → zS → Prop} {X : String → zS → Prop} {x1 : Int32} {σ : zS}
    (H : (vp_in x1 60 ∧ (vp_in x1 60 ∧ ((((σ.1 32 (Int32.toNatClampNeg x1)).toInt < 0 ∨ (5 : Int) < (σ.1 32 (Int32.toNatClampNeg x1)).toInt) → CT g l M_X7_swaps 0 [.ref (zad g 24), .int (σ.1 33 (Int32.toNatClampNeg x1))] σ (zQi (fun v2 τ2 => K v2 τ2) (fun E τ => X E τ))) ∧ ((σ.1 32 (Int32.toNatClampNeg x1)) = nI 0 → CT g l M_X7_sided 0 [.ref (zad g 24), .int x1] σ (zQi (fun v3 τ3 => CT g l M_X7_pulls 0 [.ref (zad g 24), .int v3] τ3 (zQi (fun v4 τ4 => K v4 τ4) (fun E τ => X E τ))) (fun E τ => X E τ))) ∧ ((σ.1 32 (Int32.toNatClampNeg x1)) = nI 1 → CT g l M_X7_sided 0 [.ref (zad g 24), .int x1] σ (zQi (fun v5 τ5 => CT g l M_X7_turns 0 [.ref (zad g 24), .int (σ.1 33 (Int32.toNatClampNeg x1)), .int v5] τ5 (zQi (fun v6 τ6 => K v6 τ6) (fun E τ => X E τ))) (fun E τ => X E τ))) ∧ ((σ.1 32 (Int32.toNatClampNeg x1)) = nI 2 → CT g l M_X7_ties 0 [.ref (zad g 24), .int (σ.1 33 (Int32.toNatClampNeg x1)), .int 1] σ (zQi (fun v7 τ7 => CT g l M_X7_truth 0 [.int v7] τ7 (zQi (fun v8 τ8 => K v8 τ8) (fun E τ => X E τ))) (fun E τ => X E τ))) ∧ ((σ.1 32 (Int32.toNatClampNeg x1)) = nI 3 → CT g l M_X7_ties 0 [.ref (zad g 24), .int (σ.1 33 (Int32.toNatClampNeg x1)), .int 0] σ (zQi (fun v9 τ9 => CT g l M_X7_truth 0 [.int v9] τ9 (zQi (fun v10 τ10 => K v10 τ10) (fun E τ => X E τ))) (fun E τ => X E τ))) ∧ ((σ.1 32 (Int32.toNatClampNeg x1)) = nI 4 → (vp_in x1 60 ∧ CT g l M_X7_paints 0 [.ref (zad g 24), .int (σ.1 33 (Int32.toNatClampNeg x1)), .int (σ.1 34 (Int32.toNatClampNeg x1))] σ (zQi (fun v11 τ11 => K v11 τ11) (fun E τ => X E τ)))) ∧ ((σ.1 32 (Int32.toNatClampNeg x1)) = nI 5 → (vp_in x1 60 ∧ (vp_in x1 60 ∧ (vp_in x1 60 ∧ (vp_in x1 60 ∧ CT g l M_X7_dabs0 0 [.ref (zad g 24), .int (σ.1 33 (Int32.toNatClampNeg x1)), .int (σ.1 34 (Int32.toNatClampNeg x1)), .int (σ.1 35 (Int32.toNatClampNeg x1)), .int (σ.1 36 (Int32.toNatClampNeg x1)), .int (σ.1 37 (Int32.toNatClampNeg x1))] σ (zQi (fun v12 τ12 => K v12 τ12) (fun E τ => X E τ))))))))))) :
    CT g l M_X7_does 0 [.ref (zad g 24), .int x1] σ (zQi K X) := by
  refine CT_of rfl (by decide) (Nat.le_of_ble_eq_true rfl) ?_
  change EV _ _ _ _ _ 0 [(0, .ref (zad g 24)), (1, .int x1)] [] _
  refine e_aload_n dX7_does_0 rfl 0 rfl ?_
  refine fg_X7_41 rfl dX7_does_1 ?_
  refine e_iload_n dX7_does_4 rfl 1 rfl ?_
  refine e_iald (n := 60) rfl (Nat.le_of_ble_eq_true rfl) H.1 dX7_does_5 ?_
  replace H := H.2
  refine e_istore_n (ls' := [(2, .int (σ.1 33 (Int32.toNatClampNeg x1))), (0, .ref (zad g 24)), (1, .int x1)]) dX7_does_6 rfl (by decide) rfl ?_
  refine e_aload_n dX7_does_7 rfl 1 rfl ?_
  refine fg_X7_38 rfl dX7_does_8 ?_
  refine e_iload_n dX7_does_11 rfl 2 rfl ?_
  refine e_iald (n := 60) rfl (Nat.le_of_ble_eq_true rfl) H.1 dX7_does_12 ?_
  replace H := H.2
  rcases zsw 6 (σ.1 32 (Int32.toNatClampNeg x1)) (by decide) with h1 | ⟨h1k, h1l, h1⟩
  · replace H := H.1 h1
    refine e_tableOut (tgt := 135) dX7_does_13 h1 (by decide) ?_
    refine e_aload_n dX7_does_135 rfl 1 rfl ?_
    refine e_iload_n dX7_does_136 rfl 0 rfl ?_
    refine e_callVi (j1 := 0) (j2 := 0) (av := [.int (σ.1 33 (Int32.toNatClampNeg x1))]) rfl rfl (Nat.le_of_ble_eq_true rfl) rfl rfl H i_X7_swaps rfl n_X7_swaps v_X7_swaps q_X7_430 (by decide) (by decide) (Nat.le_of_ble_eq_true rfl) dX7_does_137 (fun v2 τ2 H => ?_) (fun E τ H => H)
    exact e_iret rfl dX7_does_140 H
  · match h1k, h1l, h1 with
    | 0, _, h1 =>
      replace H := H.2.1 h1
      refine e_tableIn (tgt := 52) dX7_does_13 (by rw [h1]; decide) (by rw [h1]; decide) (by rw [h1]; rfl) (by decide) ?_
      refine e_aload_n dX7_does_52 rfl 1 rfl ?_
      refine e_aload_n dX7_does_53 rfl 1 rfl ?_
      refine e_iload_n dX7_does_54 rfl 2 rfl ?_
      refine e_callVi (j1 := 0) (j2 := 0) (av := [.int x1]) rfl rfl (Nat.le_of_ble_eq_true rfl) rfl rfl H i_X7_sided rfl n_X7_sided v_X7_sided q_X7_471 (by decide) (by decide) (Nat.le_of_ble_eq_true rfl) dX7_does_55 (fun v3 τ3 H => ?_) (fun E τ H => H)
      refine e_callVi (j1 := 0) (j2 := 0) (av := [.int v3]) rfl rfl (Nat.le_of_ble_eq_true rfl) rfl rfl H i_X7_pulls rfl n_X7_pulls v_X7_pulls q_X7_371 (by decide) (by decide) (Nat.le_of_ble_eq_true rfl) dX7_does_58 (fun v4 τ4 H => ?_) (fun E τ H => H)
      exact e_iret rfl dX7_does_61 H
    | 1, _, h1 =>
      replace H := H.2.2.1 h1
      refine e_tableIn (tgt := 62) dX7_does_13 (by rw [h1]; decide) (by rw [h1]; decide) (by rw [h1]; rfl) (by decide) ?_
      refine e_aload_n dX7_does_62 rfl 1 rfl ?_
      refine e_iload_n dX7_does_63 rfl 0 rfl ?_
      refine e_aload_n dX7_does_64 rfl 1 rfl ?_
      refine e_iload_n dX7_does_65 rfl 2 rfl ?_
      refine e_callVi (j1 := 0) (j2 := 0) (av := [.int x1]) rfl rfl (Nat.le_of_ble_eq_true rfl) rfl rfl H i_X7_sided rfl n_X7_sided v_X7_sided q_X7_471 (by decide) (by decide) (Nat.le_of_ble_eq_true rfl) dX7_does_66 (fun v5 τ5 H => ?_) (fun E τ H => H)
      refine e_callVi (j1 := 0) (j2 := 0) (av := [.int (σ.1 33 (Int32.toNatClampNeg x1)), .int v5]) rfl rfl (Nat.le_of_ble_eq_true rfl) rfl rfl H i_X7_turns rfl n_X7_turns v_X7_turns q_X7_413 (by decide) (by decide) (Nat.le_of_ble_eq_true rfl) dX7_does_69 (fun v6 τ6 H => ?_) (fun E τ H => H)
      exact e_iret rfl dX7_does_72 H
    | 2, _, h1 =>
      replace H := H.2.2.2.1 h1
      refine e_tableIn (tgt := 73) dX7_does_13 (by rw [h1]; decide) (by rw [h1]; decide) (by rw [h1]; rfl) (by decide) ?_
      refine e_aload_n dX7_does_73 rfl 1 rfl ?_
      refine e_iload_n dX7_does_74 rfl 0 rfl ?_
      refine e_iconst (v := 1) dX7_does_75 (by decide) ?_
      refine e_callVi (j1 := 0) (j2 := 0) (av := [.int (σ.1 33 (Int32.toNatClampNeg x1)), .int 1]) rfl rfl (Nat.le_of_ble_eq_true rfl) rfl rfl H i_X7_ties rfl n_X7_ties v_X7_ties q_X7_416 (by decide) (by decide) (Nat.le_of_ble_eq_true rfl) dX7_does_76 (fun v7 τ7 H => ?_) (fun E τ H => H)
      refine e_callSi (j1 := 0) (j2 := 0) (av := [.int v7]) rfl H i_X7_truth rfl s_X7_truth q_X7_71 (by decide) (by decide) (Nat.le_of_ble_eq_true rfl) dX7_does_79 (fun v8 τ8 H => ?_) (fun E τ H => H)
      exact e_iret rfl dX7_does_82 H
    | 3, _, h1 =>
      replace H := H.2.2.2.2.1 h1
      refine e_tableIn (tgt := 83) dX7_does_13 (by rw [h1]; decide) (by rw [h1]; decide) (by rw [h1]; rfl) (by decide) ?_
      refine e_aload_n dX7_does_83 rfl 1 rfl ?_
      refine e_iload_n dX7_does_84 rfl 0 rfl ?_
      refine e_iconst (v := 0) dX7_does_85 (by decide) ?_
      refine e_callVi (j1 := 0) (j2 := 0) (av := [.int (σ.1 33 (Int32.toNatClampNeg x1)), .int 0]) rfl rfl (Nat.le_of_ble_eq_true rfl) rfl rfl H i_X7_ties rfl n_X7_ties v_X7_ties q_X7_416 (by decide) (by decide) (Nat.le_of_ble_eq_true rfl) dX7_does_86 (fun v9 τ9 H => ?_) (fun E τ H => H)
      refine e_callSi (j1 := 0) (j2 := 0) (av := [.int v9]) rfl H i_X7_truth rfl s_X7_truth q_X7_71 (by decide) (by decide) (Nat.le_of_ble_eq_true rfl) dX7_does_89 (fun v10 τ10 H => ?_) (fun E τ H => H)
      exact e_iret rfl dX7_does_92 H
    | 4, _, h1 =>
      replace H := H.2.2.2.2.2.1 h1
      refine e_tableIn (tgt := 93) dX7_does_13 (by rw [h1]; decide) (by rw [h1]; decide) (by rw [h1]; rfl) (by decide) ?_
      refine e_aload_n dX7_does_93 rfl 1 rfl ?_
      refine e_iload_n dX7_does_94 rfl 0 rfl ?_
      refine e_aload_n dX7_does_95 rfl 1 rfl ?_
      refine fg_X7_44 rfl dX7_does_96 ?_
      refine e_iload_n dX7_does_99 rfl 2 rfl ?_
      refine e_iald (n := 60) rfl (Nat.le_of_ble_eq_true rfl) H.1 dX7_does_100 ?_
      replace H := H.2
      refine e_callVi (j1 := 0) (j2 := 0) (av := [.int (σ.1 33 (Int32.toNatClampNeg x1)), .int (σ.1 34 (Int32.toNatClampNeg x1))]) rfl rfl (Nat.le_of_ble_eq_true rfl) rfl rfl H i_X7_paints rfl n_X7_paints v_X7_paints q_X7_420 (by decide) (by decide) (Nat.le_of_ble_eq_true rfl) dX7_does_101 (fun v11 τ11 H => ?_) (fun E τ H => H)
      exact e_iret rfl dX7_does_104 H
    | 5, _, h1 =>
      replace H := H.2.2.2.2.2.2 h1
      refine e_tableIn (tgt := 105) dX7_does_13 (by rw [h1]; decide) (by rw [h1]; decide) (by rw [h1]; rfl) (by decide) ?_
      refine e_aload_n dX7_does_105 rfl 1 rfl ?_
      refine e_iload_n dX7_does_106 rfl 0 rfl ?_
      refine e_aload_n dX7_does_107 rfl 1 rfl ?_
      refine fg_X7_44 rfl dX7_does_108 ?_
      refine e_iload_n dX7_does_111 rfl 2 rfl ?_
      refine e_iald (n := 60) rfl (Nat.le_of_ble_eq_true rfl) H.1 dX7_does_112 ?_
      replace H := H.2
      refine e_aload_n dX7_does_113 rfl 1 rfl ?_
      refine fg_X7_47 rfl dX7_does_114 ?_
      refine e_iload_n dX7_does_117 rfl 2 rfl ?_
      refine e_iald (n := 60) rfl (Nat.le_of_ble_eq_true rfl) H.1 dX7_does_118 ?_
      replace H := H.2
      refine e_aload_n dX7_does_119 rfl 1 rfl ?_
      refine fg_X7_50 rfl dX7_does_120 ?_
      refine e_iload_n dX7_does_123 rfl 2 rfl ?_
      refine e_iald (n := 60) rfl (Nat.le_of_ble_eq_true rfl) H.1 dX7_does_124 ?_
      replace H := H.2
      refine e_aload_n dX7_does_125 rfl 1 rfl ?_
      refine fg_X7_53 rfl dX7_does_126 ?_
      refine e_iload_n dX7_does_129 rfl 2 rfl ?_
      refine e_iald (n := 60) rfl (Nat.le_of_ble_eq_true rfl) H.1 dX7_does_130 ?_
      replace H := H.2
      refine e_callVi (j1 := 0) (j2 := 0) (av := [.int (σ.1 33 (Int32.toNatClampNeg x1)), .int (σ.1 34 (Int32.toNatClampNeg x1)), .int (σ.1 35 (Int32.toNatClampNeg x1)), .int (σ.1 36 (Int32.toNatClampNeg x1)), .int (σ.1 37 (Int32.toNatClampNeg x1))]) rfl rfl (Nat.le_of_ble_eq_true rfl) rfl rfl H i_X7_dabs0 rfl n_X7_dabs0 v_X7_dabs0 q_X7_426 (by decide) (by decide) (Nat.le_of_ble_eq_true rfl) dX7_does_131 (fun v12 τ12 H => ?_) (fun E τ H => H)
      exact e_iret rfl dX7_does_134 H
    | n + 6, h, _ => exact absurd h (by omega)
abbrev L_X7_runScript_19 (g : zG) (l : Launch) (K : Int32 → zS → Prop) (X : String → zS → Prop) (σ : zS) : Prop :=
  EV g l M_X7_runScript 0 (zQi K X) 19 [(0, .ref (zad g 24))] [] σ
set_option maxRecDepth 20000 in
set_option maxHeartbeats 2000000 in
theorem b_X7_runScript {g : zG} {l : Launch} {K : Int32 → zS → Prop} {X : String → zS → Prop} {σ : zS}
    (H : CT g l M_X7_beginsText 0 [.ref (zad g 24)] σ (zQv (fun τ1 => (∀ σ2 : zS, σ2 = zup τ1 24 30 0 → (∀ σ3 : zS, σ3 = zup σ2 24 31 0 → (∀ σ4 : zS, σ4 = zup σ3 24 32 0 → L_X7_runScript_19 g l K X  σ4)))) (fun E τ => X E τ))) :
    CT g l M_X7_runScript 0 [.ref (zad g 24)] σ (zQi K X) := by
  refine CT_of rfl (by decide) (Nat.le_of_ble_eq_true rfl) ?_
  change EV _ _ _ _ _ 0 [(0, .ref (zad g 24))] [] _
  refine e_aload_n dX7_runScript_0 rfl 0 rfl ?_
  refine e_callVv (j1 := 0) (j2 := 0) (av := []) rfl rfl (Nat.le_of_ble_eq_true rfl) rfl rfl H i_X7_beginsText rfl n_X7_beginsText v_X7_beginsText q_X7_237 (by decide) (by decide) (Nat.le_of_ble_eq_true rfl) dX7_runScript_1 (fun τ1 H => ?_) (fun E τ H => H)
  refine e_aload_n dX7_runScript_4 rfl 0 rfl ?_
  refine e_iconst (v := 0) dX7_runScript_5 (by decide) ?_
  refine fp_X7_464 rfl dX7_runScript_6 ?_
  replace H := H _ rfl
  generalize zup τ1 24 30 0 = σ2 at H ⊢
  refine e_aload_n dX7_runScript_9 rfl 0 rfl ?_
  refine e_iconst (v := 0) dX7_runScript_10 (by decide) ?_
  refine fp_X7_461 rfl dX7_runScript_11 ?_
  replace H := H _ rfl
  generalize zup σ2 24 31 0 = σ3 at H ⊢
  refine e_aload_n dX7_runScript_14 rfl 0 rfl ?_
  refine e_iconst (v := 0) dX7_runScript_15 (by decide) ?_
  refine fp_X7_458 rfl dX7_runScript_16 ?_
  replace H := H _ rfl
  generalize zup σ3 24 32 0 = σ4 at H ⊢
  refine e_ls [0] rfl ?_
  exact H
set_option maxRecDepth 20000 in
set_option maxHeartbeats 2000000 in
theorem b_X7_runScript_19 {g : zG} {l : Launch} {K : Int32 → zS → Prop} {X : String → zS → Prop} {σ : zS}
    (H : CT g l M_X7_isGood 0 [.ref (zad g 24)] σ (zQi (fun v1 τ1 => ((v1 = 0 → CT g l M_X7_isGood 0 [.ref (zad g 24)] τ1 (zQi (fun v3 τ3 => ((v3 = 0 → CT g l M_X7_endsText 0 [.ref (zad g 24)] τ3 (zQi (fun v5 τ5 => ((¬ v5 = 0 → CT g l M_X7_laysAside 0 [.ref (zad g 24)] τ5 (zQv (fun τ7 => CT g l M_X7_doesAll 0 [.ref (zad g 24)] τ7 (zQi (fun v8 τ8 => CT g l M_X7_keeps 0 [.ref (zad g 24)] τ8 (zQv (fun τ9 => K v8 τ9) (fun E τ => X E τ))) (fun E τ => X E τ))) (fun E τ => X E τ))) ∧ (v5 = 0 → K 0 τ5))) (fun E τ => X E τ))) ∧ (¬ v3 = 0 → (((τ3.1 24 32) ≤ 0 → CT g l M_X7_endsText 0 [.ref (zad g 24)] τ3 (zQi (fun v11 τ11 => ((¬ v11 = 0 → CT g l M_X7_laysAside 0 [.ref (zad g 24)] τ11 (zQv (fun τ13 => CT g l M_X7_doesAll 0 [.ref (zad g 24)] τ13 (zQi (fun v14 τ14 => CT g l M_X7_keeps 0 [.ref (zad g 24)] τ14 (zQv (fun τ15 => K v14 τ15) (fun E τ => X E τ))) (fun E τ => X E τ))) (fun E τ => X E τ))) ∧ (v11 = 0 → K 0 τ11))) (fun E τ => X E τ))) ∧ (¬ (τ3.1 24 32) ≤ 0 → CT g l M_X7_wrong 0 [.ref (zad g 24), .int 1] τ3 (zQv (fun τ16 => CT g l M_X7_endsText 0 [.ref (zad g 24)] τ16 (zQi (fun v17 τ17 => ((¬ v17 = 0 → CT g l M_X7_laysAside 0 [.ref (zad g 24)] τ17 (zQv (fun τ19 => CT g l M_X7_doesAll 0 [.ref (zad g 24)] τ19 (zQi (fun v20 τ20 => CT g l M_X7_keeps 0 [.ref (zad g 24)] τ20 (zQv (fun τ21 => K v20 τ21) (fun E τ => X E τ))) (fun E τ => X E τ))) (fun E τ => X E τ))) ∧ (v17 = 0 → K 0 τ17))) (fun E τ => X E τ))) (fun E τ => X E τ))))))) (fun E τ => X E τ))) ∧ (¬ v1 = 0 → (((τ1.1 24 6) = 0 → CT g l M_X7_isGood 0 [.ref (zad g 24)] τ1 (zQi (fun v23 τ23 => ((v23 = 0 → CT g l M_X7_endsText 0 [.ref (zad g 24)] τ23 (zQi (fun v25 τ25 => ((¬ v25 = 0 → CT g l M_X7_laysAside 0 [.ref (zad g 24)] τ25 (zQv (fun τ27 => CT g l M_X7_doesAll 0 [.ref (zad g 24)] τ27 (zQi (fun v28 τ28 => CT g l M_X7_keeps 0 [.ref (zad g 24)] τ28 (zQv (fun τ29 => K v28 τ29) (fun E τ => X E τ))) (fun E τ => X E τ))) (fun E τ => X E τ))) ∧ (v25 = 0 → K 0 τ25))) (fun E τ => X E τ))) ∧ (¬ v23 = 0 → (((τ23.1 24 32) ≤ 0 → CT g l M_X7_endsText 0 [.ref (zad g 24)] τ23 (zQi (fun v31 τ31 => ((¬ v31 = 0 → CT g l M_X7_laysAside 0 [.ref (zad g 24)] τ31 (zQv (fun τ33 => CT g l M_X7_doesAll 0 [.ref (zad g 24)] τ33 (zQi (fun v34 τ34 => CT g l M_X7_keeps 0 [.ref (zad g 24)] τ34 (zQv (fun τ35 => K v34 τ35) (fun E τ => X E τ))) (fun E τ => X E τ))) (fun E τ => X E τ))) ∧ (v31 = 0 → K 0 τ31))) (fun E τ => X E τ))) ∧ (¬ (τ23.1 24 32) ≤ 0 → CT g l M_X7_wrong 0 [.ref (zad g 24), .int 1] τ23 (zQv (fun τ36 => CT g l M_X7_endsText 0 [.ref (zad g 24)] τ36 (zQi (fun v37 τ37 => ((¬ v37 = 0 → CT g l M_X7_laysAside 0 [.ref (zad g 24)] τ37 (zQv (fun τ39 => CT g l M_X7_doesAll 0 [.ref (zad g 24)] τ39 (zQi (fun v40 τ40 => CT g l M_X7_keeps 0 [.ref (zad g 24)] τ40 (zQv (fun τ41 => K v40 τ41) (fun E τ => X E τ))) (fun E τ => X E τ))) (fun E τ => X E τ))) ∧ (v37 = 0 → K 0 τ37))) (fun E τ => X E τ))) (fun E τ => X E τ))))))) (fun E τ => X E τ))) ∧ (¬ (τ1.1 24 6) = 0 → CT g l M_X7_command 0 [.ref (zad g 24)] τ1 (zQv (fun τ42 => ((¬ (τ42.1 24 32) = (τ1.1 24 32) → CT g l M_X7_closes 0 [.ref (zad g 24)] τ42 (zQv (fun τ44 => L_X7_runScript_19 g l K X  τ44) (fun E τ => X E τ))) ∧ ((τ42.1 24 32) = (τ1.1 24 32) → CT g l M_X7_mustSign 0 [.ref (zad g 24), .int 59] τ42 (zQv (fun τ45 => CT g l M_X7_closes 0 [.ref (zad g 24)] τ45 (zQv (fun τ46 => L_X7_runScript_19 g l K X  τ46) (fun E τ => X E τ))) (fun E τ => X E τ))))) (fun E τ => X E τ))))))) (fun E τ => X E τ))) :
    L_X7_runScript_19 g l K X σ := by
  refine e_aload_n dX7_runScript_19 rfl 0 rfl ?_
  refine e_callVi (j1 := 0) (j2 := 0) (av := []) rfl rfl (Nat.le_of_ble_eq_true rfl) rfl rfl H i_X7_isGood rfl n_X7_isGood v_X7_isGood q_X7_122 (by decide) (by decide) (Nat.le_of_ble_eq_true rfl) dX7_runScript_20 (fun v1 τ1 H => ?_) (fun E τ H => H)
  refine e_if_eq (tgt := 63) dX7_runScript_23 (by decide) (fun h2 => ?_) (fun h2 => ?_)
  · replace H := H.1 h2
    refine e_aload_n dX7_runScript_63 rfl 0 rfl ?_
    refine e_callVi (j1 := 0) (j2 := 0) (av := []) rfl rfl (Nat.le_of_ble_eq_true rfl) rfl rfl H i_X7_isGood rfl n_X7_isGood v_X7_isGood q_X7_122 (by decide) (by decide) (Nat.le_of_ble_eq_true rfl) dX7_runScript_64 (fun v3 τ3 H => ?_) (fun E τ H => H)
    refine e_if_eq (tgt := 82) dX7_runScript_67 (by decide) (fun h4 => ?_) (fun h4 => ?_)
    · replace H := H.1 h4
      refine e_aload_n dX7_runScript_82 rfl 0 rfl ?_
      refine e_callVi (j1 := 0) (j2 := 0) (av := []) rfl rfl (Nat.le_of_ble_eq_true rfl) rfl rfl H i_X7_endsText rfl n_X7_endsText v_X7_endsText q_X7_246 (by decide) (by decide) (Nat.le_of_ble_eq_true rfl) dX7_runScript_83 (fun v5 τ5 H => ?_) (fun E τ H => H)
      refine e_if_ne (tgt := 91) dX7_runScript_86 (by decide) (fun h6 => ?_) (fun h6 => ?_)
      · replace H := H.1 h6
        refine e_aload_n dX7_runScript_91 rfl 0 rfl ?_
        refine e_callVv (j1 := 0) (j2 := 0) (av := []) rfl rfl (Nat.le_of_ble_eq_true rfl) rfl rfl H i_X7_laysAside rfl n_X7_laysAside v_X7_laysAside q_X7_240 (by decide) (by decide) (Nat.le_of_ble_eq_true rfl) dX7_runScript_92 (fun τ7 H => ?_) (fun E τ H => H)
        refine e_aload_n dX7_runScript_95 rfl 0 rfl ?_
        refine e_callVi (j1 := 0) (j2 := 0) (av := []) rfl rfl (Nat.le_of_ble_eq_true rfl) rfl rfl H i_X7_doesAll rfl n_X7_doesAll v_X7_doesAll q_X7_480 (by decide) (by decide) (Nat.le_of_ble_eq_true rfl) dX7_runScript_96 (fun v8 τ8 H => ?_) (fun E τ H => H)
        refine e_istore_n (ls' := [(1, .int v8), (0, .ref (zad g 24))]) dX7_runScript_99 rfl (by decide) rfl ?_
        refine e_aload_n dX7_runScript_100 rfl 1 rfl ?_
        refine e_callVv (j1 := 0) (j2 := 0) (av := []) rfl rfl (Nat.le_of_ble_eq_true rfl) rfl rfl H i_X7_keeps rfl n_X7_keeps v_X7_keeps q_X7_153 (by decide) (by decide) (Nat.le_of_ble_eq_true rfl) dX7_runScript_101 (fun τ9 H => ?_) (fun E τ H => H)
        refine e_iload_n dX7_runScript_104 rfl 0 rfl ?_
        exact e_iret rfl dX7_runScript_105 H
      · replace H := H.2 h6
        refine e_iconst (v := 0) dX7_runScript_89 (by decide) ?_
        exact e_iret rfl dX7_runScript_90 H
    · replace H := H.2 h4
      refine e_aload_n dX7_runScript_70 rfl 0 rfl ?_
      refine fg_X7_458 rfl dX7_runScript_71 ?_
      refine e_if_le (tgt := 82) dX7_runScript_74 (by decide) (fun h10 => ?_) (fun h10 => ?_)
      · replace H := H.1 h10
        refine e_aload_n dX7_runScript_82 rfl 0 rfl ?_
        refine e_callVi (j1 := 0) (j2 := 0) (av := []) rfl rfl (Nat.le_of_ble_eq_true rfl) rfl rfl H i_X7_endsText rfl n_X7_endsText v_X7_endsText q_X7_246 (by decide) (by decide) (Nat.le_of_ble_eq_true rfl) dX7_runScript_83 (fun v11 τ11 H => ?_) (fun E τ H => H)
        refine e_if_ne (tgt := 91) dX7_runScript_86 (by decide) (fun h12 => ?_) (fun h12 => ?_)
        · replace H := H.1 h12
          refine e_aload_n dX7_runScript_91 rfl 0 rfl ?_
          refine e_callVv (j1 := 0) (j2 := 0) (av := []) rfl rfl (Nat.le_of_ble_eq_true rfl) rfl rfl H i_X7_laysAside rfl n_X7_laysAside v_X7_laysAside q_X7_240 (by decide) (by decide) (Nat.le_of_ble_eq_true rfl) dX7_runScript_92 (fun τ13 H => ?_) (fun E τ H => H)
          refine e_aload_n dX7_runScript_95 rfl 0 rfl ?_
          refine e_callVi (j1 := 0) (j2 := 0) (av := []) rfl rfl (Nat.le_of_ble_eq_true rfl) rfl rfl H i_X7_doesAll rfl n_X7_doesAll v_X7_doesAll q_X7_480 (by decide) (by decide) (Nat.le_of_ble_eq_true rfl) dX7_runScript_96 (fun v14 τ14 H => ?_) (fun E τ H => H)
          refine e_istore_n (ls' := [(1, .int v14), (0, .ref (zad g 24))]) dX7_runScript_99 rfl (by decide) rfl ?_
          refine e_aload_n dX7_runScript_100 rfl 1 rfl ?_
          refine e_callVv (j1 := 0) (j2 := 0) (av := []) rfl rfl (Nat.le_of_ble_eq_true rfl) rfl rfl H i_X7_keeps rfl n_X7_keeps v_X7_keeps q_X7_153 (by decide) (by decide) (Nat.le_of_ble_eq_true rfl) dX7_runScript_101 (fun τ15 H => ?_) (fun E τ H => H)
          refine e_iload_n dX7_runScript_104 rfl 0 rfl ?_
          exact e_iret rfl dX7_runScript_105 H
        · replace H := H.2 h12
          refine e_iconst (v := 0) dX7_runScript_89 (by decide) ?_
          exact e_iret rfl dX7_runScript_90 H
      · replace H := H.2 h10
        refine e_aload_n dX7_runScript_77 rfl 0 rfl ?_
        refine e_iconst (v := 1) dX7_runScript_78 (by decide) ?_
        refine e_callVv (j1 := 0) (j2 := 0) (av := [.int 1]) rfl rfl (Nat.le_of_ble_eq_true rfl) rfl rfl H i_X7_wrong rfl n_X7_wrong v_X7_wrong q_X7_129 (by decide) (by decide) (Nat.le_of_ble_eq_true rfl) dX7_runScript_79 (fun τ16 H => ?_) (fun E τ H => H)
        refine e_aload_n dX7_runScript_82 rfl 0 rfl ?_
        refine e_callVi (j1 := 0) (j2 := 0) (av := []) rfl rfl (Nat.le_of_ble_eq_true rfl) rfl rfl H i_X7_endsText rfl n_X7_endsText v_X7_endsText q_X7_246 (by decide) (by decide) (Nat.le_of_ble_eq_true rfl) dX7_runScript_83 (fun v17 τ17 H => ?_) (fun E τ H => H)
        refine e_if_ne (tgt := 91) dX7_runScript_86 (by decide) (fun h18 => ?_) (fun h18 => ?_)
        · replace H := H.1 h18
          refine e_aload_n dX7_runScript_91 rfl 0 rfl ?_
          refine e_callVv (j1 := 0) (j2 := 0) (av := []) rfl rfl (Nat.le_of_ble_eq_true rfl) rfl rfl H i_X7_laysAside rfl n_X7_laysAside v_X7_laysAside q_X7_240 (by decide) (by decide) (Nat.le_of_ble_eq_true rfl) dX7_runScript_92 (fun τ19 H => ?_) (fun E τ H => H)
          refine e_aload_n dX7_runScript_95 rfl 0 rfl ?_
          refine e_callVi (j1 := 0) (j2 := 0) (av := []) rfl rfl (Nat.le_of_ble_eq_true rfl) rfl rfl H i_X7_doesAll rfl n_X7_doesAll v_X7_doesAll q_X7_480 (by decide) (by decide) (Nat.le_of_ble_eq_true rfl) dX7_runScript_96 (fun v20 τ20 H => ?_) (fun E τ H => H)
          refine e_istore_n (ls' := [(1, .int v20), (0, .ref (zad g 24))]) dX7_runScript_99 rfl (by decide) rfl ?_
          refine e_aload_n dX7_runScript_100 rfl 1 rfl ?_
          refine e_callVv (j1 := 0) (j2 := 0) (av := []) rfl rfl (Nat.le_of_ble_eq_true rfl) rfl rfl H i_X7_keeps rfl n_X7_keeps v_X7_keeps q_X7_153 (by decide) (by decide) (Nat.le_of_ble_eq_true rfl) dX7_runScript_101 (fun τ21 H => ?_) (fun E τ H => H)
          refine e_iload_n dX7_runScript_104 rfl 0 rfl ?_
          exact e_iret rfl dX7_runScript_105 H
        · replace H := H.2 h18
          refine e_iconst (v := 0) dX7_runScript_89 (by decide) ?_
          exact e_iret rfl dX7_runScript_90 H
  · replace H := H.2 h2
    refine e_aload_n dX7_runScript_26 rfl 0 rfl ?_
    refine fg_X7_109 rfl dX7_runScript_27 ?_
    refine e_if_eq (tgt := 63) dX7_runScript_30 (by decide) (fun h22 => ?_) (fun h22 => ?_)
    · replace H := H.1 h22
      refine e_aload_n dX7_runScript_63 rfl 0 rfl ?_
      refine e_callVi (j1 := 0) (j2 := 0) (av := []) rfl rfl (Nat.le_of_ble_eq_true rfl) rfl rfl H i_X7_isGood rfl n_X7_isGood v_X7_isGood q_X7_122 (by decide) (by decide) (Nat.le_of_ble_eq_true rfl) dX7_runScript_64 (fun v23 τ23 H => ?_) (fun E τ H => H)
      refine e_if_eq (tgt := 82) dX7_runScript_67 (by decide) (fun h24 => ?_) (fun h24 => ?_)
      · replace H := H.1 h24
        refine e_aload_n dX7_runScript_82 rfl 0 rfl ?_
        refine e_callVi (j1 := 0) (j2 := 0) (av := []) rfl rfl (Nat.le_of_ble_eq_true rfl) rfl rfl H i_X7_endsText rfl n_X7_endsText v_X7_endsText q_X7_246 (by decide) (by decide) (Nat.le_of_ble_eq_true rfl) dX7_runScript_83 (fun v25 τ25 H => ?_) (fun E τ H => H)
        refine e_if_ne (tgt := 91) dX7_runScript_86 (by decide) (fun h26 => ?_) (fun h26 => ?_)
        · replace H := H.1 h26
          refine e_aload_n dX7_runScript_91 rfl 0 rfl ?_
          refine e_callVv (j1 := 0) (j2 := 0) (av := []) rfl rfl (Nat.le_of_ble_eq_true rfl) rfl rfl H i_X7_laysAside rfl n_X7_laysAside v_X7_laysAside q_X7_240 (by decide) (by decide) (Nat.le_of_ble_eq_true rfl) dX7_runScript_92 (fun τ27 H => ?_) (fun E τ H => H)
          refine e_aload_n dX7_runScript_95 rfl 0 rfl ?_
          refine e_callVi (j1 := 0) (j2 := 0) (av := []) rfl rfl (Nat.le_of_ble_eq_true rfl) rfl rfl H i_X7_doesAll rfl n_X7_doesAll v_X7_doesAll q_X7_480 (by decide) (by decide) (Nat.le_of_ble_eq_true rfl) dX7_runScript_96 (fun v28 τ28 H => ?_) (fun E τ H => H)
          refine e_istore_n (ls' := [(1, .int v28), (0, .ref (zad g 24))]) dX7_runScript_99 rfl (by decide) rfl ?_
          refine e_aload_n dX7_runScript_100 rfl 1 rfl ?_
          refine e_callVv (j1 := 0) (j2 := 0) (av := []) rfl rfl (Nat.le_of_ble_eq_true rfl) rfl rfl H i_X7_keeps rfl n_X7_keeps v_X7_keeps q_X7_153 (by decide) (by decide) (Nat.le_of_ble_eq_true rfl) dX7_runScript_101 (fun τ29 H => ?_) (fun E τ H => H)
          refine e_iload_n dX7_runScript_104 rfl 0 rfl ?_
          exact e_iret rfl dX7_runScript_105 H
        · replace H := H.2 h26
          refine e_iconst (v := 0) dX7_runScript_89 (by decide) ?_
          exact e_iret rfl dX7_runScript_90 H
      · replace H := H.2 h24
        refine e_aload_n dX7_runScript_70 rfl 0 rfl ?_
        refine fg_X7_458 rfl dX7_runScript_71 ?_
        refine e_if_le (tgt := 82) dX7_runScript_74 (by decide) (fun h30 => ?_) (fun h30 => ?_)
        · replace H := H.1 h30
          refine e_aload_n dX7_runScript_82 rfl 0 rfl ?_
          refine e_callVi (j1 := 0) (j2 := 0) (av := []) rfl rfl (Nat.le_of_ble_eq_true rfl) rfl rfl H i_X7_endsText rfl n_X7_endsText v_X7_endsText q_X7_246 (by decide) (by decide) (Nat.le_of_ble_eq_true rfl) dX7_runScript_83 (fun v31 τ31 H => ?_) (fun E τ H => H)
          refine e_if_ne (tgt := 91) dX7_runScript_86 (by decide) (fun h32 => ?_) (fun h32 => ?_)
          · replace H := H.1 h32
            refine e_aload_n dX7_runScript_91 rfl 0 rfl ?_
            refine e_callVv (j1 := 0) (j2 := 0) (av := []) rfl rfl (Nat.le_of_ble_eq_true rfl) rfl rfl H i_X7_laysAside rfl n_X7_laysAside v_X7_laysAside q_X7_240 (by decide) (by decide) (Nat.le_of_ble_eq_true rfl) dX7_runScript_92 (fun τ33 H => ?_) (fun E τ H => H)
            refine e_aload_n dX7_runScript_95 rfl 0 rfl ?_
            refine e_callVi (j1 := 0) (j2 := 0) (av := []) rfl rfl (Nat.le_of_ble_eq_true rfl) rfl rfl H i_X7_doesAll rfl n_X7_doesAll v_X7_doesAll q_X7_480 (by decide) (by decide) (Nat.le_of_ble_eq_true rfl) dX7_runScript_96 (fun v34 τ34 H => ?_) (fun E τ H => H)
            refine e_istore_n (ls' := [(1, .int v34), (0, .ref (zad g 24))]) dX7_runScript_99 rfl (by decide) rfl ?_
            refine e_aload_n dX7_runScript_100 rfl 1 rfl ?_
            refine e_callVv (j1 := 0) (j2 := 0) (av := []) rfl rfl (Nat.le_of_ble_eq_true rfl) rfl rfl H i_X7_keeps rfl n_X7_keeps v_X7_keeps q_X7_153 (by decide) (by decide) (Nat.le_of_ble_eq_true rfl) dX7_runScript_101 (fun τ35 H => ?_) (fun E τ H => H)
            refine e_iload_n dX7_runScript_104 rfl 0 rfl ?_
            exact e_iret rfl dX7_runScript_105 H
          · replace H := H.2 h32
            refine e_iconst (v := 0) dX7_runScript_89 (by decide) ?_
            exact e_iret rfl dX7_runScript_90 H
        · replace H := H.2 h30
          refine e_aload_n dX7_runScript_77 rfl 0 rfl ?_
          refine e_iconst (v := 1) dX7_runScript_78 (by decide) ?_
          refine e_callVv (j1 := 0) (j2 := 0) (av := [.int 1]) rfl rfl (Nat.le_of_ble_eq_true rfl) rfl rfl H i_X7_wrong rfl n_X7_wrong v_X7_wrong q_X7_129 (by decide) (by decide) (Nat.le_of_ble_eq_true rfl) dX7_runScript_79 (fun τ36 H => ?_) (fun E τ H => H)
          refine e_aload_n dX7_runScript_82 rfl 0 rfl ?_
          refine e_callVi (j1 := 0) (j2 := 0) (av := []) rfl rfl (Nat.le_of_ble_eq_true rfl) rfl rfl H i_X7_endsText rfl n_X7_endsText v_X7_endsText q_X7_246 (by decide) (by decide) (Nat.le_of_ble_eq_true rfl) dX7_runScript_83 (fun v37 τ37 H => ?_) (fun E τ H => H)
          refine e_if_ne (tgt := 91) dX7_runScript_86 (by decide) (fun h38 => ?_) (fun h38 => ?_)
          · replace H := H.1 h38
            refine e_aload_n dX7_runScript_91 rfl 0 rfl ?_
            refine e_callVv (j1 := 0) (j2 := 0) (av := []) rfl rfl (Nat.le_of_ble_eq_true rfl) rfl rfl H i_X7_laysAside rfl n_X7_laysAside v_X7_laysAside q_X7_240 (by decide) (by decide) (Nat.le_of_ble_eq_true rfl) dX7_runScript_92 (fun τ39 H => ?_) (fun E τ H => H)
            refine e_aload_n dX7_runScript_95 rfl 0 rfl ?_
            refine e_callVi (j1 := 0) (j2 := 0) (av := []) rfl rfl (Nat.le_of_ble_eq_true rfl) rfl rfl H i_X7_doesAll rfl n_X7_doesAll v_X7_doesAll q_X7_480 (by decide) (by decide) (Nat.le_of_ble_eq_true rfl) dX7_runScript_96 (fun v40 τ40 H => ?_) (fun E τ H => H)
            refine e_istore_n (ls' := [(1, .int v40), (0, .ref (zad g 24))]) dX7_runScript_99 rfl (by decide) rfl ?_
            refine e_aload_n dX7_runScript_100 rfl 1 rfl ?_
            refine e_callVv (j1 := 0) (j2 := 0) (av := []) rfl rfl (Nat.le_of_ble_eq_true rfl) rfl rfl H i_X7_keeps rfl n_X7_keeps v_X7_keeps q_X7_153 (by decide) (by decide) (Nat.le_of_ble_eq_true rfl) dX7_runScript_101 (fun τ41 H => ?_) (fun E τ H => H)
            refine e_iload_n dX7_runScript_104 rfl 0 rfl ?_
            exact e_iret rfl dX7_runScript_105 H
          · replace H := H.2 h38
            refine e_iconst (v := 0) dX7_runScript_89 (by decide) ?_
            exact e_iret rfl dX7_runScript_90 H
    · replace H := H.2 h22
      refine e_aload_n dX7_runScript_33 rfl 0 rfl ?_
      refine fg_X7_458 rfl dX7_runScript_34 ?_
      refine e_istore_n (ls' := [(1, .int (τ1.1 24 32)), (0, .ref (zad g 24))]) dX7_runScript_37 rfl (by decide) rfl ?_
      refine e_aload_n dX7_runScript_38 rfl 1 rfl ?_
      refine e_callVv (j1 := 0) (j2 := 0) (av := []) rfl rfl (Nat.le_of_ble_eq_true rfl) rfl rfl H i_X7_command rfl n_X7_command v_X7_command q_X7_474 (by decide) (by decide) (Nat.le_of_ble_eq_true rfl) dX7_runScript_39 (fun τ42 H => ?_) (fun E τ H => H)
      refine e_aload_n dX7_runScript_42 rfl 1 rfl ?_
      refine fg_X7_458 rfl dX7_runScript_43 ?_
      refine e_iload_n dX7_runScript_46 rfl 0 rfl ?_
      refine e_icmp_ne (tgt := 56) dX7_runScript_47 (by decide) (fun h43 => ?_) (fun h43 => ?_)
      · replace H := H.1 h43
        refine e_aload_n dX7_runScript_56 rfl 1 rfl ?_
        refine e_callVv (j1 := 0) (j2 := 0) (av := []) rfl rfl (Nat.le_of_ble_eq_true rfl) rfl rfl H i_X7_closes rfl n_X7_closes v_X7_closes q_X7_477 (by decide) (by decide) (Nat.le_of_ble_eq_true rfl) dX7_runScript_57 (fun τ44 H => ?_) (fun E τ H => H)
        refine e_goto (tgt := 19) dX7_runScript_60 (by decide) ?_
        refine e_ls [1] rfl ?_
        exact H
      · replace H := H.2 h43
        refine e_aload_n dX7_runScript_50 rfl 1 rfl ?_
        refine e_bipush (v := 59) dX7_runScript_51 (by decide) ?_
        refine e_callVv (j1 := 0) (j2 := 0) (av := [.int 59]) rfl rfl (Nat.le_of_ble_eq_true rfl) rfl rfl H i_X7_mustSign rfl n_X7_mustSign v_X7_mustSign q_X7_231 (by decide) (by decide) (Nat.le_of_ble_eq_true rfl) dX7_runScript_53 (fun τ45 H => ?_) (fun E τ H => H)
        refine e_aload_n dX7_runScript_56 rfl 1 rfl ?_
        refine e_callVv (j1 := 0) (j2 := 0) (av := []) rfl rfl (Nat.le_of_ble_eq_true rfl) rfl rfl H i_X7_closes rfl n_X7_closes v_X7_closes q_X7_477 (by decide) (by decide) (Nat.le_of_ble_eq_true rfl) dX7_runScript_57 (fun τ46 H => ?_) (fun E τ H => H)
        refine e_goto (tgt := 19) dX7_runScript_60 (by decide) ?_
        refine e_ls [1] rfl ?_
        exact H
abbrev L_X7_doesAll_9 (g : zG) (l : Launch) (K : Int32 → zS → Prop) (X : String → zS → Prop) (y1 : Int32) (y2 : Int32) (y3 : Int32) (y4 : Int32) (σ : zS) : Prop :=
  EV g l M_X7_doesAll 0 (zQi K X) 9 [(0, .ref (zad g 24)), (1, .int y1), (2, .int y2), (3, .int y3), (4, .int y4)] [] σ
set_option maxRecDepth 20000 in
set_option maxHeartbeats 2000000 in
theorem b_X7_doesAll {g : zG} {l : Launch} {K : Int32 → zS → Prop} {X : String → zS → Prop} {σ : zS}
    (H : L_X7_doesAll_9 g l K X 0 0 0 1 σ) :
    CT g l M_X7_doesAll 0 [.ref (zad g 24)] σ (zQi K X) := by
  refine CT_of rfl (by decide) (Nat.le_of_ble_eq_true rfl) ?_
  change EV _ _ _ _ _ 0 [(0, .ref (zad g 24))] [] _
  refine e_iconst (v := 0) dX7_doesAll_0 (by decide) ?_
  refine e_istore_n (ls' := [(1, .int 0), (0, .ref (zad g 24))]) dX7_doesAll_1 rfl (by decide) rfl ?_
  refine e_iconst (v := 0) dX7_doesAll_2 (by decide) ?_
  refine e_istore_n (ls' := [(2, .int 0), (1, .int 0), (0, .ref (zad g 24))]) dX7_doesAll_3 rfl (by decide) rfl ?_
  refine e_iconst (v := 0) dX7_doesAll_4 (by decide) ?_
  refine e_istore_n (ls' := [(3, .int 0), (2, .int 0), (1, .int 0), (0, .ref (zad g 24))]) dX7_doesAll_5 rfl (by decide) rfl ?_
  refine e_iconst (v := 1) dX7_doesAll_6 (by decide) ?_
  refine e_istore (ls' := [(4, .int 1), (3, .int 0), (2, .int 0), (1, .int 0), (0, .ref (zad g 24))]) dX7_doesAll_7 (by decide) rfl ?_
  refine e_ls [4, 3, 2, 1, 0] rfl ?_
  exact H
set_option maxRecDepth 20000 in
set_option maxHeartbeats 2000000 in
theorem b_X7_doesAll_9 {g : zG} {l : Launch} {K : Int32 → zS → Prop} {X : String → zS → Prop} {y1 : Int32} {y2 : Int32} {y3 : Int32} {y4 : Int32} {σ : zS}
    (H : ((y4 = 0 → K y1 σ) ∧ (¬ y4 = 0 → (((σ.1 24 30) ≤ y3 → K y1 σ) ∧ (¬ (σ.1 24 30) ≤ y3 → ((40 ≤ y1 → K y1 σ) ∧ (¬ 40 ≤ y1 → (vp_in y3 60 ∧ ((¬ (σ.1 32 (Int32.toNatClampNeg y3)) = 7 → (vp_in y3 60 ∧ ((¬ (σ.1 32 (Int32.toNatClampNeg y3)) = 8 → CT g l M_X7_may 0 [.ref (zad g 24), .int y3] σ (zQi (fun v6 τ6 => ((v6 = 0 → CT g l M_X7_truth 0 [.int v6] τ6 (zQi (fun v8 τ8 => L_X7_doesAll_9 g l K X (y1 + v8) y2 (y3 + 1) v6 τ8) (fun E τ => X E τ))) ∧ (¬ v6 = 0 → CT g l M_X7_does 0 [.ref (zad g 24), .int y3] τ6 (zQi (fun v9 τ9 => CT g l M_X7_truth 0 [.int v6] τ9 (zQi (fun v10 τ10 => L_X7_doesAll_9 g l K X (y1 + v10) y2 (y3 + 1) v6 τ10) (fun E τ => X E τ))) (fun E τ => X E τ))))) (fun E τ => X E τ))) ∧ ((σ.1 32 (Int32.toNatClampNeg y3)) = 8 → (vp_in (y2 - 1) 2 ∧ (vp_in (y2 - 1) 2 ∧ (∀ σ11 : zS, σ11 = zup σ 39 (Int32.toNatClampNeg (y2 - 1)) ((σ.1 39 (Int32.toNatClampNeg (y2 - 1))) - 1) → (vp_in (y2 - 1) 2 ∧ (((σ11.1 39 (Int32.toNatClampNeg (y2 - 1))) ≤ 0 → CT g l M_X7_truth 0 [.int 1] σ11 (zQi (fun v15 τ15 => L_X7_doesAll_9 g l K X y1 (y2 - v15) (y3 + 1) y4 τ15) (fun E τ => X E τ))) ∧ (¬ (σ11.1 39 (Int32.toNatClampNeg (y2 - 1))) ≤ 0 → (vp_in (y2 - 1) 2 ∧ CT g l M_X7_truth 0 [.int 0] σ11 (zQi (fun v18 τ18 => L_X7_doesAll_9 g l K X y1 (y2 - v18) ((σ11.1 38 (Int32.toNatClampNeg (y2 - 1))) + 1) y4 τ18) (fun E τ => X E τ))))))))))))) ∧ ((σ.1 32 (Int32.toNatClampNeg y3)) = 7 → (vp_in y2 2 ∧ (∀ σ19 : zS, σ19 = zup σ 38 (Int32.toNatClampNeg y2) y3 → (vp_in y3 60 ∧ (vp_in y2 2 ∧ (∀ σ20 : zS, σ20 = zup σ19 39 (Int32.toNatClampNeg y2) (σ19.1 33 (Int32.toNatClampNeg y3)) → L_X7_doesAll_9 g l K X y1 (y2 + 1) (y3 + 1) y4 σ20))))))))))))))) :
    L_X7_doesAll_9 g l K X y1 y2 y3 y4 σ := by
  refine e_iload dX7_doesAll_9 4 rfl ?_
  refine e_if_eq (tgt := 186) dX7_doesAll_11 (by decide) (fun h1 => ?_) (fun h1 => ?_)
  · replace H := H.1 h1
    refine e_iload_n dX7_doesAll_186 rfl 1 rfl ?_
    exact e_iret rfl dX7_doesAll_187 H
  · replace H := H.2 h1
    refine e_iload_n dX7_doesAll_14 rfl 3 rfl ?_
    refine e_aload_n dX7_doesAll_15 rfl 0 rfl ?_
    refine fg_X7_464 rfl dX7_doesAll_16 ?_
    refine e_icmp_ge (tgt := 186) dX7_doesAll_19 (by decide) (fun h2 => ?_) (fun h2 => ?_)
    · replace H := H.1 h2
      refine e_iload_n dX7_doesAll_186 rfl 1 rfl ?_
      exact e_iret rfl dX7_doesAll_187 H
    · replace H := H.2 h2
      refine e_iload_n dX7_doesAll_22 rfl 1 rfl ?_
      refine e_bipush (v := 40) dX7_doesAll_23 (by decide) ?_
      refine e_icmp_ge (tgt := 186) dX7_doesAll_25 (by decide) (fun h3 => ?_) (fun h3 => ?_)
      · replace H := H.1 h3
        refine e_iload_n dX7_doesAll_186 rfl 1 rfl ?_
        exact e_iret rfl dX7_doesAll_187 H
      · replace H := H.2 h3
        refine e_aload_n dX7_doesAll_28 rfl 0 rfl ?_
        refine fg_X7_38 rfl dX7_doesAll_29 ?_
        refine e_iload_n dX7_doesAll_32 rfl 3 rfl ?_
        refine e_iald (n := 60) rfl (Nat.le_of_ble_eq_true rfl) H.1 dX7_doesAll_33 ?_
        replace H := H.2
        refine e_bipush (v := 7) dX7_doesAll_34 (by decide) ?_
        refine e_icmp_ne (tgt := 67) dX7_doesAll_36 (by decide) (fun h4 => ?_) (fun h4 => ?_)
        · replace H := H.1 h4
          refine e_aload_n dX7_doesAll_67 rfl 0 rfl ?_
          refine fg_X7_38 rfl dX7_doesAll_68 ?_
          refine e_iload_n dX7_doesAll_71 rfl 3 rfl ?_
          refine e_iald (n := 60) rfl (Nat.le_of_ble_eq_true rfl) H.1 dX7_doesAll_72 ?_
          replace H := H.2
          refine e_bipush (v := 8) dX7_doesAll_73 (by decide) ?_
          refine e_icmp_ne (tgt := 149) dX7_doesAll_75 (by decide) (fun h5 => ?_) (fun h5 => ?_)
          · replace H := H.1 h5
            refine e_aload_n dX7_doesAll_149 rfl 0 rfl ?_
            refine e_iload_n dX7_doesAll_150 rfl 3 rfl ?_
            refine e_callVi (j1 := 0) (j2 := 0) (av := [.int y3]) rfl rfl (Nat.le_of_ble_eq_true rfl) rfl rfl H i_X7_may rfl n_X7_may v_X7_may q_X7_483 (by decide) (by decide) (Nat.le_of_ble_eq_true rfl) dX7_doesAll_151 (fun v6 τ6 H => ?_) (fun E τ H => H)
            refine e_istore (ls' := [(4, .int v6), (0, .ref (zad g 24)), (1, .int y1), (2, .int y2), (3, .int y3)]) dX7_doesAll_154 (by decide) rfl ?_
            refine e_iload dX7_doesAll_156 0 rfl ?_
            refine e_if_eq (tgt := 169) dX7_doesAll_158 (by decide) (fun h7 => ?_) (fun h7 => ?_)
            · replace H := H.1 h7
              refine e_iconst (v := 0) dX7_doesAll_169 (by decide) ?_
              refine e_istore (ls' := [(5, .int 0), (4, .int v6), (0, .ref (zad g 24)), (1, .int y1), (2, .int y2), (3, .int y3)]) dX7_doesAll_170 (by decide) rfl ?_
              refine e_iload_n dX7_doesAll_172 rfl 3 rfl ?_
              refine e_iload dX7_doesAll_173 1 rfl ?_
              refine e_callSi (j1 := 0) (j2 := 0) (av := [.int v6]) rfl H i_X7_truth rfl s_X7_truth q_X7_71 (by decide) (by decide) (Nat.le_of_ble_eq_true rfl) dX7_doesAll_175 (fun v8 τ8 H => ?_) (fun E τ H => H)
              refine e_iadd dX7_doesAll_178 ?_
              refine e_istore_n (ls' := [(1, .int (y1 + v8)), (5, .int 0), (4, .int v6), (0, .ref (zad g 24)), (2, .int y2), (3, .int y3)]) dX7_doesAll_179 rfl (by decide) rfl ?_
              refine e_iinc (j := 5) (v := (y3 + 1)) (ls' := [(3, .int (y3 + 1)), (1, .int (y1 + v8)), (5, .int 0), (4, .int v6), (0, .ref (zad g 24)), (2, .int y2)]) dX7_doesAll_180 rfl rfl (by decide) rfl ?_
              refine e_goto (tgt := 9) dX7_doesAll_183 (by decide) ?_
              refine e_ls [4, 1, 5, 0, 3] rfl ?_
              exact H
            · replace H := H.2 h7
              refine e_aload_n dX7_doesAll_161 rfl 1 rfl ?_
              refine e_iload_n dX7_doesAll_162 rfl 4 rfl ?_
              refine e_callVi (j1 := 0) (j2 := 0) (av := [.int y3]) rfl rfl (Nat.le_of_ble_eq_true rfl) rfl rfl H i_X7_does rfl n_X7_does v_X7_does q_X7_486 (by decide) (by decide) (Nat.le_of_ble_eq_true rfl) dX7_doesAll_163 (fun v9 τ9 H => ?_) (fun E τ H => H)
              refine e_goto (tgt := 170) dX7_doesAll_166 (by decide) ?_
              refine e_istore (ls' := [(5, .int v9), (4, .int v6), (0, .ref (zad g 24)), (1, .int y1), (2, .int y2), (3, .int y3)]) dX7_doesAll_170 (by decide) rfl ?_
              refine e_iload_n dX7_doesAll_172 rfl 3 rfl ?_
              refine e_iload dX7_doesAll_173 1 rfl ?_
              refine e_callSi (j1 := 0) (j2 := 0) (av := [.int v6]) rfl H i_X7_truth rfl s_X7_truth q_X7_71 (by decide) (by decide) (Nat.le_of_ble_eq_true rfl) dX7_doesAll_175 (fun v10 τ10 H => ?_) (fun E τ H => H)
              refine e_iadd dX7_doesAll_178 ?_
              refine e_istore_n (ls' := [(1, .int (y1 + v10)), (5, .int v9), (4, .int v6), (0, .ref (zad g 24)), (2, .int y2), (3, .int y3)]) dX7_doesAll_179 rfl (by decide) rfl ?_
              refine e_iinc (j := 5) (v := (y3 + 1)) (ls' := [(3, .int (y3 + 1)), (1, .int (y1 + v10)), (5, .int v9), (4, .int v6), (0, .ref (zad g 24)), (2, .int y2)]) dX7_doesAll_180 rfl rfl (by decide) rfl ?_
              refine e_goto (tgt := 9) dX7_doesAll_183 (by decide) ?_
              refine e_ls [4, 1, 5, 0, 3] rfl ?_
              exact H
          · replace H := H.2 h5
            refine e_aload_n dX7_doesAll_78 rfl 0 rfl ?_
            refine fg_X7_59 rfl dX7_doesAll_79 ?_
            refine e_iload_n dX7_doesAll_82 rfl 2 rfl ?_
            refine e_iconst (v := 1) dX7_doesAll_83 (by decide) ?_
            refine e_isub dX7_doesAll_84 ?_
            refine e_dup2_11 dX7_doesAll_85 rfl rfl ?_
            refine e_iald (n := 2) rfl (Nat.le_of_ble_eq_true rfl) H.1 dX7_doesAll_86 ?_
            replace H := H.2
            refine e_iconst (v := 1) dX7_doesAll_87 (by decide) ?_
            refine e_isub dX7_doesAll_88 ?_
            refine e_iast (n := 2) rfl (Nat.le_of_ble_eq_true rfl) H.1 dX7_doesAll_89 ?_
            replace H := H.2
            replace H := H _ rfl
            generalize zup σ 39 (Int32.toNatClampNeg (y2 - 1)) ((σ.1 39 (Int32.toNatClampNeg (y2 - 1))) - 1) = σ11 at H ⊢
            refine e_aload_n dX7_doesAll_90 rfl 0 rfl ?_
            refine fg_X7_59 rfl dX7_doesAll_91 ?_
            refine e_iload_n dX7_doesAll_94 rfl 2 rfl ?_
            refine e_iconst (v := 1) dX7_doesAll_95 (by decide) ?_
            refine e_isub dX7_doesAll_96 ?_
            refine e_iald (n := 2) rfl (Nat.le_of_ble_eq_true rfl) H.1 dX7_doesAll_97 ?_
            replace H := H.2
            refine e_if_le (tgt := 105) dX7_doesAll_98 (by decide) (fun h12 => ?_) (fun h12 => ?_)
            · replace H := H.1 h12
              refine e_iconst (v := 0) dX7_doesAll_105 (by decide) ?_
              refine e_istore (ls' := [(5, .int 0), (0, .ref (zad g 24)), (1, .int y1), (2, .int y2), (3, .int y3), (4, .int y4)]) dX7_doesAll_106 (by decide) rfl ?_
              refine e_iload dX7_doesAll_108 0 rfl ?_
              refine e_if_eq (tgt := 126) dX7_doesAll_110 (by decide) (fun h13 => ?_) (fun h13 => ?_)
              · refine e_iload_n dX7_doesAll_126 rfl 4 rfl ?_
                refine e_iconst (v := 1) dX7_doesAll_127 (by decide) ?_
                refine e_iadd dX7_doesAll_128 ?_
                refine e_istore_n (ls' := [(3, .int (y3 + 1)), (5, .int 0), (0, .ref (zad g 24)), (1, .int y1), (2, .int y2), (4, .int y4)]) dX7_doesAll_129 rfl (by decide) rfl ?_
                refine e_iload_n dX7_doesAll_130 rfl 4 rfl ?_
                refine e_iload dX7_doesAll_131 1 rfl ?_
                refine e_if_ne (tgt := 140) dX7_doesAll_133 (by decide) (fun h14 => ?_) (fun h14 => ?_)
                · exact absurd h14 (by decide)
                · refine e_iconst (v := 1) dX7_doesAll_136 (by decide) ?_
                  refine e_goto (tgt := 141) dX7_doesAll_137 (by decide) ?_
                  refine e_callSi (j1 := 0) (j2 := 0) (av := [.int 1]) rfl H i_X7_truth rfl s_X7_truth q_X7_71 (by decide) (by decide) (Nat.le_of_ble_eq_true rfl) dX7_doesAll_141 (fun v15 τ15 H => ?_) (fun E τ H => H)
                  refine e_isub dX7_doesAll_144 ?_
                  refine e_istore_n (ls' := [(2, .int (y2 - v15)), (3, .int (y3 + 1)), (5, .int 0), (0, .ref (zad g 24)), (1, .int y1), (4, .int y4)]) dX7_doesAll_145 rfl (by decide) rfl ?_
                  refine e_goto (tgt := 9) dX7_doesAll_146 (by decide) ?_
                  refine e_ls [3, 4, 0, 1, 5] rfl ?_
                  exact H
              · exact absurd h13 (by decide)
            · replace H := H.2 h12
              refine e_iconst (v := 1) dX7_doesAll_101 (by decide) ?_
              refine e_goto (tgt := 106) dX7_doesAll_102 (by decide) ?_
              refine e_istore (ls' := [(5, .int 1), (0, .ref (zad g 24)), (1, .int y1), (2, .int y2), (3, .int y3), (4, .int y4)]) dX7_doesAll_106 (by decide) rfl ?_
              refine e_iload dX7_doesAll_108 0 rfl ?_
              refine e_if_eq (tgt := 126) dX7_doesAll_110 (by decide) (fun h16 => ?_) (fun h16 => ?_)
              · exact absurd h16 (by decide)
              · refine e_aload_n dX7_doesAll_113 rfl 1 rfl ?_
                refine fg_X7_56 rfl dX7_doesAll_114 ?_
                refine e_iload_n dX7_doesAll_117 rfl 3 rfl ?_
                refine e_iconst (v := 1) dX7_doesAll_118 (by decide) ?_
                refine e_isub dX7_doesAll_119 ?_
                refine e_iald (n := 2) rfl (Nat.le_of_ble_eq_true rfl) H.1 dX7_doesAll_120 ?_
                replace H := H.2
                refine e_iconst (v := 1) dX7_doesAll_121 (by decide) ?_
                refine e_iadd dX7_doesAll_122 ?_
                refine e_goto (tgt := 129) dX7_doesAll_123 (by decide) ?_
                refine e_istore_n (ls' := [(3, .int ((σ11.1 38 (Int32.toNatClampNeg (y2 - 1))) + 1)), (5, .int 1), (0, .ref (zad g 24)), (1, .int y1), (2, .int y2), (4, .int y4)]) dX7_doesAll_129 rfl (by decide) rfl ?_
                refine e_iload_n dX7_doesAll_130 rfl 4 rfl ?_
                refine e_iload dX7_doesAll_131 1 rfl ?_
                refine e_if_ne (tgt := 140) dX7_doesAll_133 (by decide) (fun h17 => ?_) (fun h17 => ?_)
                · refine e_iconst (v := 0) dX7_doesAll_140 (by decide) ?_
                  refine e_callSi (j1 := 0) (j2 := 0) (av := [.int 0]) rfl H i_X7_truth rfl s_X7_truth q_X7_71 (by decide) (by decide) (Nat.le_of_ble_eq_true rfl) dX7_doesAll_141 (fun v18 τ18 H => ?_) (fun E τ H => H)
                  refine e_isub dX7_doesAll_144 ?_
                  refine e_istore_n (ls' := [(2, .int (y2 - v18)), (3, .int ((σ11.1 38 (Int32.toNatClampNeg (y2 - 1))) + 1)), (5, .int 1), (0, .ref (zad g 24)), (1, .int y1), (4, .int y4)]) dX7_doesAll_145 rfl (by decide) rfl ?_
                  refine e_goto (tgt := 9) dX7_doesAll_146 (by decide) ?_
                  refine e_ls [3, 4, 0, 1, 5] rfl ?_
                  exact H
                · exact absurd h17 (by decide)
        · replace H := H.2 h4
          refine e_aload_n dX7_doesAll_39 rfl 0 rfl ?_
          refine fg_X7_56 rfl dX7_doesAll_40 ?_
          refine e_iload_n dX7_doesAll_43 rfl 2 rfl ?_
          refine e_iload_n dX7_doesAll_44 rfl 3 rfl ?_
          refine e_iast (n := 2) rfl (Nat.le_of_ble_eq_true rfl) H.1 dX7_doesAll_45 ?_
          replace H := H.2
          replace H := H _ rfl
          generalize zup σ 38 (Int32.toNatClampNeg y2) y3 = σ19 at H ⊢
          refine e_aload_n dX7_doesAll_46 rfl 0 rfl ?_
          refine fg_X7_59 rfl dX7_doesAll_47 ?_
          refine e_iload_n dX7_doesAll_50 rfl 2 rfl ?_
          refine e_aload_n dX7_doesAll_51 rfl 0 rfl ?_
          refine fg_X7_41 rfl dX7_doesAll_52 ?_
          refine e_iload_n dX7_doesAll_55 rfl 3 rfl ?_
          refine e_iald (n := 60) rfl (Nat.le_of_ble_eq_true rfl) H.1 dX7_doesAll_56 ?_
          replace H := H.2
          refine e_iast (n := 2) rfl (Nat.le_of_ble_eq_true rfl) H.1 dX7_doesAll_57 ?_
          replace H := H.2
          replace H := H _ rfl
          generalize zup σ19 39 (Int32.toNatClampNeg y2) (σ19.1 33 (Int32.toNatClampNeg y3)) = σ20 at H ⊢
          refine e_iinc (j := 2) (v := (y2 + 1)) (ls' := [(2, .int (y2 + 1)), (0, .ref (zad g 24)), (1, .int y1), (3, .int y3), (4, .int y4)]) dX7_doesAll_58 rfl rfl (by decide) rfl ?_
          refine e_iinc (j := 3) (v := (y3 + 1)) (ls' := [(3, .int (y3 + 1)), (2, .int (y2 + 1)), (0, .ref (zad g 24)), (1, .int y1), (4, .int y4)]) dX7_doesAll_61 rfl rfl (by decide) rfl ?_
          refine e_goto (tgt := 9) dX7_doesAll_64 (by decide) ?_
          refine e_ls [2, 3, 1, 0, 4] rfl ?_
          exact H
set_option maxRecDepth 20000 in
set_option maxHeartbeats 2000000 in
theorem b_X7_tell {g : zG} {l : Launch} {K : zS → Prop} {X : String → zS → Prop} {x1 : Int32} {σ : zS}
    (H : (vp_in (σ.1 24 34) 500 ∧ (∀ σ1 : zS, σ1 = zup σ 40 (Int32.toNatClampNeg (σ.1 24 34)) x1 → (∀ σ2 : zS, σ2 = zup σ1 24 34 ((σ1.1 24 34) + 1) → K σ2)))) :
    CT g l M_X7_tell 0 [.ref (zad g 24), .int x1] σ (zQv K X) := by
  refine CT_of rfl (by decide) (Nat.le_of_ble_eq_true rfl) ?_
  change EV _ _ _ _ _ 0 [(0, .ref (zad g 24)), (1, .int x1)] [] _
  refine e_aload_n dX7_tell_0 rfl 0 rfl ?_
  refine fg_X7_62 rfl dX7_tell_1 ?_
  refine e_aload_n dX7_tell_4 rfl 0 rfl ?_
  refine fg_X7_489 rfl dX7_tell_5 ?_
  refine e_iload_n dX7_tell_8 rfl 1 rfl ?_
  refine e_iast (n := 500) rfl (Nat.le_of_ble_eq_true rfl) H.1 dX7_tell_9 ?_
  replace H := H.2
  replace H := H _ rfl
  generalize zup σ 40 (Int32.toNatClampNeg (σ.1 24 34)) x1 = σ1 at H ⊢
  refine e_aload_n dX7_tell_10 rfl 0 rfl ?_
  refine e_dup dX7_tell_11 rfl ?_
  refine fg_X7_489 rfl dX7_tell_12 ?_
  refine e_iconst (v := 1) dX7_tell_15 (by decide) ?_
  refine e_iadd dX7_tell_16 ?_
  refine fp_X7_489 rfl dX7_tell_17 ?_
  replace H := H _ rfl
  generalize zup σ1 24 34 ((σ1.1 24 34) + 1) = σ2 at H ⊢
  exact e_vret rfl dX7_tell_20 H
abbrev L_X7_report_30 (g : zG) (l : Launch) (K : Int32 → zS → Prop) (X : String → zS → Prop) (y1 : Int32) (y2 : Int32) (y3 : Int32) (σ : zS) : Prop :=
  EV g l M_X7_report 0 (zQi K X) 30 [(0, .ref (zad g 24)), (1, .int y1), (2, .int y2), (3, .int y3)] [] σ
abbrev L_X7_report_43 (g : zG) (l : Launch) (K : Int32 → zS → Prop) (X : String → zS → Prop) (y1 : Int32) (y2 : Int32) (y3 : Int32) (y4 : Int32) (σ : zS) : Prop :=
  EV g l M_X7_report 0 (zQi K X) 43 [(0, .ref (zad g 24)), (1, .int y1), (2, .int y2), (3, .int y3), (4, .int y4)] [] σ
set_option maxRecDepth 20000 in
set_option maxHeartbeats 2000000 in
theorem b_X7_report {g : zG} {l : Launch} {K : Int32 → zS → Prop} {X : String → zS → Prop} {x1 : Int32} {σ : zS}
    (H : CT g l M_X7_isAngle 0 [.int x1] σ (zQi (fun v1 τ1 => CT g l M_X7_goes 0 [.ref (zad g 24), .int v1] τ1 (zQi (fun v2 τ2 => ((¬ v2 = 0 → (∀ σ4 : zS, σ4 = zup τ2 24 34 0 → (∀ σ5 : zS, σ5 = zup σ4 24 35 1 → CT g l M_X7_columns 0 [.ref (zad g 24)] σ5 (zQi (fun v6 τ6 => L_X7_report_30 g l K X x1 v6 0 τ6) (fun E τ => X E τ))))) ∧ (v2 = 0 → K 0 τ2))) (fun E τ => X E τ))) (fun E τ => X E τ))) :
    CT g l M_X7_report 0 [.ref (zad g 24), .int x1] σ (zQi K X) := by
  refine CT_of rfl (by decide) (Nat.le_of_ble_eq_true rfl) ?_
  change EV _ _ _ _ _ 0 [(0, .ref (zad g 24)), (1, .int x1)] [] _
  refine e_aload_n dX7_report_0 rfl 0 rfl ?_
  refine e_iload_n dX7_report_1 rfl 1 rfl ?_
  refine e_callSi (j1 := 0) (j2 := 0) (av := [.int x1]) rfl H i_X7_isAngle rfl s_X7_isAngle q_X7_326 (by decide) (by decide) (Nat.le_of_ble_eq_true rfl) dX7_report_2 (fun v1 τ1 H => ?_) (fun E τ H => H)
  refine e_callVi (j1 := 0) (j2 := 0) (av := [.int v1]) rfl rfl (Nat.le_of_ble_eq_true rfl) rfl rfl H i_X7_goes rfl n_X7_goes v_X7_goes q_X7_78 (by decide) (by decide) (Nat.le_of_ble_eq_true rfl) dX7_report_5 (fun v2 τ2 H => ?_) (fun E τ H => H)
  refine e_if_ne (tgt := 13) dX7_report_8 (by decide) (fun h3 => ?_) (fun h3 => ?_)
  · replace H := H.1 h3
    refine e_aload_n dX7_report_13 rfl 0 rfl ?_
    refine e_iconst (v := 0) dX7_report_14 (by decide) ?_
    refine fp_X7_489 rfl dX7_report_15 ?_
    replace H := H _ rfl
    generalize zup τ2 24 34 0 = σ4 at H ⊢
    refine e_aload_n dX7_report_18 rfl 0 rfl ?_
    refine e_iconst (v := 1) dX7_report_19 (by decide) ?_
    refine fp_X7_492 zbl_1 rfl dX7_report_20 ?_
    replace H := H _ rfl
    generalize zup σ4 24 35 1 = σ5 at H ⊢
    refine e_aload_n dX7_report_23 rfl 0 rfl ?_
    refine e_callVi (j1 := 0) (j2 := 0) (av := []) rfl rfl (Nat.le_of_ble_eq_true rfl) rfl rfl H i_X7_columns rfl n_X7_columns v_X7_columns q_X7_170 (by decide) (by decide) (Nat.le_of_ble_eq_true rfl) dX7_report_24 (fun v6 τ6 H => ?_) (fun E τ H => H)
    refine e_istore_n (ls' := [(2, .int v6), (0, .ref (zad g 24)), (1, .int x1)]) dX7_report_27 rfl (by decide) rfl ?_
    refine e_iconst (v := 0) dX7_report_28 (by decide) ?_
    refine e_istore_n (ls' := [(3, .int 0), (2, .int v6), (0, .ref (zad g 24)), (1, .int x1)]) dX7_report_29 rfl (by decide) rfl ?_
    refine e_ls [2, 3, 1, 0] rfl ?_
    exact H
  · replace H := H.2 h3
    refine e_iconst (v := 0) dX7_report_11 (by decide) ?_
    exact e_iret rfl dX7_report_12 H
set_option maxRecDepth 20000 in
set_option maxHeartbeats 2000000 in
theorem b_X7_report_30 {g : zG} {l : Launch} {K : Int32 → zS → Prop} {X : String → zS → Prop} {y1 : Int32} {y2 : Int32} {y3 : Int32} {σ : zS}
    (H : (((σ.1 26 (Int32.toNatClampNeg 0)) ≤ y3 → K (σ.1 24 34) σ) ∧ (¬ (σ.1 26 (Int32.toNatClampNeg 0)) ≤ y3 → L_X7_report_43 g l K X y1 y2 y3 0 σ))) :
    L_X7_report_30 g l K X y1 y2 y3 σ := by
  refine e_iload_n dX7_report_30 rfl 3 rfl ?_
  refine e_aload_n dX7_report_31 rfl 0 rfl ?_
  refine fg_X7_20 rfl dX7_report_32 ?_
  refine e_iconst (v := 0) dX7_report_35 (by decide) ?_
  refine e_iald (n := 1110) rfl (Nat.le_of_ble_eq_true rfl) (vil (by decide)) dX7_report_36 ?_
  refine e_icmp_ge (tgt := 109) dX7_report_37 (by decide) (fun h1 => ?_) (fun h1 => ?_)
  · replace H := H.1 h1
    refine e_aload_n dX7_report_109 rfl 0 rfl ?_
    refine fg_X7_489 rfl dX7_report_110 ?_
    exact e_iret rfl dX7_report_113 H
  · replace H := H.2 h1
    refine e_iconst (v := 0) dX7_report_40 (by decide) ?_
    refine e_istore (ls' := [(4, .int 0), (0, .ref (zad g 24)), (1, .int y1), (2, .int y2), (3, .int y3)]) dX7_report_41 (by decide) rfl ?_
    refine e_ls [1, 2, 3, 4, 0] rfl ?_
    exact H
set_option maxRecDepth 20000 in
set_option maxHeartbeats 2000000 in
theorem b_X7_report_43 {g : zG} {l : Launch} {K : Int32 → zS → Prop} {X : String → zS → Prop} {y1 : Int32} {y2 : Int32} {y3 : Int32} {y4 : Int32} {σ : zS}
    (H : ((y2 ≤ y4 → CT g l M_X7_tell 0 [.ref (zad g 24), .int 10] σ (zQv (fun τ2 => L_X7_report_30 g l K X y1 y2 (y3 + 1) τ2) (fun E τ => X E τ))) ∧ (¬ y2 ≤ y4 → CT g l M_X7_seenAt 0 [.ref (zad g 24), .int y1, .int y4, .int y3] σ (zQi (fun v3 τ3 => ((¬ v3 = (-2) → ((¬ v3 = (-1) → CT g l M_X7_tell 0 [.ref (zad g 24), .int (48 + v3)] τ3 (zQv (fun τ6 => L_X7_report_43 g l K X y1 y2 y3 (y4 + 1) τ6) (fun E τ => X E τ))) ∧ (v3 = (-1) → CT g l M_X7_tell 0 [.ref (zad g 24), .int 46] τ3 (zQv (fun τ7 => L_X7_report_43 g l K X y1 y2 y3 (y4 + 1) τ7) (fun E τ => X E τ))))) ∧ (v3 = (-2) → CT g l M_X7_tell 0 [.ref (zad g 24), .int 124] τ3 (zQv (fun τ8 => L_X7_report_43 g l K X y1 y2 y3 (y4 + 1) τ8) (fun E τ => X E τ))))) (fun E τ => X E τ))))) :
    L_X7_report_43 g l K X y1 y2 y3 y4 σ := by
  refine e_iload dX7_report_43 4 rfl ?_
  refine e_iload_n dX7_report_45 rfl 2 rfl ?_
  refine e_icmp_ge (tgt := 97) dX7_report_46 (by decide) (fun h1 => ?_) (fun h1 => ?_)
  · replace H := H.1 h1
    refine e_aload_n dX7_report_97 rfl 0 rfl ?_
    refine e_bipush (v := 10) dX7_report_98 (by decide) ?_
    refine e_callVv (j1 := 0) (j2 := 0) (av := [.int 10]) rfl rfl (Nat.le_of_ble_eq_true rfl) rfl rfl H i_X7_tell rfl n_X7_tell v_X7_tell q_X7_495 (by decide) (by decide) (Nat.le_of_ble_eq_true rfl) dX7_report_100 (fun τ2 H => ?_) (fun E τ H => H)
    refine e_iinc (j := 3) (v := (y3 + 1)) (ls' := [(3, .int (y3 + 1)), (0, .ref (zad g 24)), (1, .int y1), (2, .int y2), (4, .int y4)]) dX7_report_103 rfl rfl (by decide) rfl ?_
    refine e_goto (tgt := 30) dX7_report_106 (by decide) ?_
    refine e_ls [1, 2, 3, 0] rfl ?_
    exact H
  · replace H := H.2 h1
    refine e_aload_n dX7_report_49 rfl 0 rfl ?_
    refine e_iload_n dX7_report_50 rfl 1 rfl ?_
    refine e_iload dX7_report_51 4 rfl ?_
    refine e_iload_n dX7_report_53 rfl 3 rfl ?_
    refine e_callVi (j1 := 0) (j2 := 0) (av := [.int y1, .int y4, .int y3]) rfl rfl (Nat.le_of_ble_eq_true rfl) rfl rfl H i_X7_seenAt rfl n_X7_seenAt v_X7_seenAt q_X7_332 (by decide) (by decide) (Nat.le_of_ble_eq_true rfl) dX7_report_54 (fun v3 τ3 H => ?_) (fun E τ H => H)
    refine e_istore (ls' := [(5, .int v3), (0, .ref (zad g 24)), (1, .int y1), (2, .int y2), (3, .int y3), (4, .int y4)]) dX7_report_57 (by decide) rfl ?_
    refine e_aload_n dX7_report_59 rfl 1 rfl ?_
    refine e_iload dX7_report_60 0 rfl ?_
    refine e_bipush (v := (-2)) dX7_report_62 (by decide) ?_
    refine e_icmp_ne (tgt := 72) dX7_report_64 (by decide) (fun h4 => ?_) (fun h4 => ?_)
    · replace H := H.1 h4
      refine e_iload dX7_report_72 0 rfl ?_
      refine e_iconst (v := (-1)) dX7_report_74 (by decide) ?_
      refine e_icmp_ne (tgt := 83) dX7_report_75 (by decide) (fun h5 => ?_) (fun h5 => ?_)
      · replace H := H.1 h5
        refine e_bipush (v := 48) dX7_report_83 (by decide) ?_
        refine e_iload dX7_report_85 0 rfl ?_
        refine e_iadd dX7_report_87 ?_
        refine e_callVv (j1 := 0) (j2 := 0) (av := [.int (48 + v3)]) rfl rfl (Nat.le_of_ble_eq_true rfl) rfl rfl H i_X7_tell rfl n_X7_tell v_X7_tell q_X7_495 (by decide) (by decide) (Nat.le_of_ble_eq_true rfl) dX7_report_88 (fun τ6 H => ?_) (fun E τ H => H)
        refine e_iinc (j := 5) (v := (y4 + 1)) (ls' := [(4, .int (y4 + 1)), (5, .int v3), (0, .ref (zad g 24)), (1, .int y1), (2, .int y2), (3, .int y3)]) dX7_report_91 rfl rfl (by decide) rfl ?_
        refine e_goto (tgt := 43) dX7_report_94 (by decide) ?_
        refine e_ls [2, 3, 4, 5, 0] rfl ?_
        exact H
      · replace H := H.2 h5
        refine e_bipush (v := 46) dX7_report_78 (by decide) ?_
        refine e_goto (tgt := 88) dX7_report_80 (by decide) ?_
        refine e_callVv (j1 := 0) (j2 := 0) (av := [.int 46]) rfl rfl (Nat.le_of_ble_eq_true rfl) rfl rfl H i_X7_tell rfl n_X7_tell v_X7_tell q_X7_495 (by decide) (by decide) (Nat.le_of_ble_eq_true rfl) dX7_report_88 (fun τ7 H => ?_) (fun E τ H => H)
        refine e_iinc (j := 5) (v := (y4 + 1)) (ls' := [(4, .int (y4 + 1)), (5, .int v3), (0, .ref (zad g 24)), (1, .int y1), (2, .int y2), (3, .int y3)]) dX7_report_91 rfl rfl (by decide) rfl ?_
        refine e_goto (tgt := 43) dX7_report_94 (by decide) ?_
        refine e_ls [2, 3, 4, 5, 0] rfl ?_
        exact H
    · replace H := H.2 h4
      refine e_bipush (v := 124) dX7_report_67 (by decide) ?_
      refine e_goto (tgt := 88) dX7_report_69 (by decide) ?_
      refine e_callVv (j1 := 0) (j2 := 0) (av := [.int 124]) rfl rfl (Nat.le_of_ble_eq_true rfl) rfl rfl H i_X7_tell rfl n_X7_tell v_X7_tell q_X7_495 (by decide) (by decide) (Nat.le_of_ble_eq_true rfl) dX7_report_88 (fun τ8 H => ?_) (fun E τ H => H)
      refine e_iinc (j := 5) (v := (y4 + 1)) (ls' := [(4, .int (y4 + 1)), (5, .int v3), (0, .ref (zad g 24)), (1, .int y1), (2, .int y2), (3, .int y3)]) dX7_report_91 rfl rfl (by decide) rfl ?_
      refine e_goto (tgt := 43) dX7_report_94 (by decide) ?_
      refine e_ls [2, 3, 4, 5, 0] rfl ?_
      exact H
set_option maxRecDepth 20000 in
set_option maxHeartbeats 2000000 in
theorem b_X7_reportByte {g : zG} {l : Launch} {K : Int32 → zS → Prop} {X : String → zS → Prop} {x1 : Int32} {σ : zS}
    (H : (((σ.1 24 35) = 0 → CT g l M_X7_goes 0 [.ref (zad g 24), .int 0] σ (zQi (fun v2 τ2 => ((v2 = 0 → K 0 τ2) ∧ (¬ v2 = 0 → (vp_in x1 500 ∧ K (τ2.1 40 (Int32.toNatClampNeg x1)) τ2)))) (fun E τ => X E τ))) ∧ (¬ (σ.1 24 35) = 0 → CT g l M_X7_isIn 0 [.long (Int32.toInt64 x1), .long (0 : Int64), .long (Int32.toInt64 ((σ.1 24 34) - 1))] σ (zQi (fun v4 τ4 => ((v4 = 0 → CT g l M_X7_goes 0 [.ref (zad g 24), .int 0] τ4 (zQi (fun v6 τ6 => ((v6 = 0 → K 0 τ6) ∧ (¬ v6 = 0 → (vp_in x1 500 ∧ K (τ6.1 40 (Int32.toNatClampNeg x1)) τ6)))) (fun E τ => X E τ))) ∧ (¬ v4 = 0 → CT g l M_X7_goes 0 [.ref (zad g 24), .int 1] τ4 (zQi (fun v8 τ8 => ((v8 = 0 → K 0 τ8) ∧ (¬ v8 = 0 → (vp_in x1 500 ∧ K (τ8.1 40 (Int32.toNatClampNeg x1)) τ8)))) (fun E τ => X E τ))))) (fun E τ => X E τ))))) :
    CT g l M_X7_reportByte 0 [.ref (zad g 24), .int x1] σ (zQi K X) := by
  refine CT_of rfl (by decide) (Nat.le_of_ble_eq_true rfl) ?_
  change EV _ _ _ _ _ 0 [(0, .ref (zad g 24)), (1, .int x1)] [] _
  refine e_aload_n dX7_reportByte_0 rfl 0 rfl ?_
  refine e_aload_n dX7_reportByte_1 rfl 0 rfl ?_
  refine fg_X7_492 rfl dX7_reportByte_2 ?_
  refine e_if_eq (tgt := 28) dX7_reportByte_5 (by decide) (fun h1 => ?_) (fun h1 => ?_)
  · replace H := H.1 h1
    refine e_iconst (v := 0) dX7_reportByte_28 (by decide) ?_
    refine e_callVi (j1 := 0) (j2 := 0) (av := [.int 0]) rfl rfl (Nat.le_of_ble_eq_true rfl) rfl rfl H i_X7_goes rfl n_X7_goes v_X7_goes q_X7_78 (by decide) (by decide) (Nat.le_of_ble_eq_true rfl) dX7_reportByte_29 (fun v2 τ2 H => ?_) (fun E τ H => H)
    refine e_if_eq (tgt := 44) dX7_reportByte_32 (by decide) (fun h3 => ?_) (fun h3 => ?_)
    · replace H := H.1 h3
      refine e_iconst (v := 0) dX7_reportByte_44 (by decide) ?_
      exact e_iret rfl dX7_reportByte_45 H
    · replace H := H.2 h3
      refine e_aload_n dX7_reportByte_35 rfl 0 rfl ?_
      refine fg_X7_62 rfl dX7_reportByte_36 ?_
      refine e_iload_n dX7_reportByte_39 rfl 1 rfl ?_
      refine e_iald (n := 500) rfl (Nat.le_of_ble_eq_true rfl) H.1 dX7_reportByte_40 ?_
      replace H := H.2
      refine e_goto (tgt := 45) dX7_reportByte_41 (by decide) ?_
      exact e_iret rfl dX7_reportByte_45 H
  · replace H := H.2 h1
    refine e_iload_n dX7_reportByte_8 rfl 1 rfl ?_
    refine e_i2l (v := Int32.toInt64 x1) dX7_reportByte_9 rfl ?_
    refine e_lconst (v := 0) dX7_reportByte_10 (by decide) ?_
    refine e_aload_n dX7_reportByte_11 rfl 0 rfl ?_
    refine fg_X7_489 rfl dX7_reportByte_12 ?_
    refine e_iconst (v := 1) dX7_reportByte_15 (by decide) ?_
    refine e_isub dX7_reportByte_16 ?_
    refine e_i2l (v := Int32.toInt64 ((σ.1 24 34) - 1)) dX7_reportByte_17 rfl ?_
    refine e_callSi (j1 := 0) (j2 := 0) (av := [.long (Int32.toInt64 x1), .long (0 : Int64), .long (Int32.toInt64 ((σ.1 24 34) - 1))]) rfl H i_X7_isIn rfl s_X7_isIn q_X7_85 (by decide) (by decide) (Nat.le_of_ble_eq_true rfl) dX7_reportByte_18 (fun v4 τ4 H => ?_) (fun E τ H => H)
    refine e_if_eq (tgt := 28) dX7_reportByte_21 (by decide) (fun h5 => ?_) (fun h5 => ?_)
    · replace H := H.1 h5
      refine e_iconst (v := 0) dX7_reportByte_28 (by decide) ?_
      refine e_callVi (j1 := 0) (j2 := 0) (av := [.int 0]) rfl rfl (Nat.le_of_ble_eq_true rfl) rfl rfl H i_X7_goes rfl n_X7_goes v_X7_goes q_X7_78 (by decide) (by decide) (Nat.le_of_ble_eq_true rfl) dX7_reportByte_29 (fun v6 τ6 H => ?_) (fun E τ H => H)
      refine e_if_eq (tgt := 44) dX7_reportByte_32 (by decide) (fun h7 => ?_) (fun h7 => ?_)
      · replace H := H.1 h7
        refine e_iconst (v := 0) dX7_reportByte_44 (by decide) ?_
        exact e_iret rfl dX7_reportByte_45 H
      · replace H := H.2 h7
        refine e_aload_n dX7_reportByte_35 rfl 0 rfl ?_
        refine fg_X7_62 rfl dX7_reportByte_36 ?_
        refine e_iload_n dX7_reportByte_39 rfl 1 rfl ?_
        refine e_iald (n := 500) rfl (Nat.le_of_ble_eq_true rfl) H.1 dX7_reportByte_40 ?_
        replace H := H.2
        refine e_goto (tgt := 45) dX7_reportByte_41 (by decide) ?_
        exact e_iret rfl dX7_reportByte_45 H
    · replace H := H.2 h5
      refine e_iconst (v := 1) dX7_reportByte_24 (by decide) ?_
      refine e_goto (tgt := 29) dX7_reportByte_25 (by decide) ?_
      refine e_callVi (j1 := 0) (j2 := 0) (av := [.int 1]) rfl rfl (Nat.le_of_ble_eq_true rfl) rfl rfl H i_X7_goes rfl n_X7_goes v_X7_goes q_X7_78 (by decide) (by decide) (Nat.le_of_ble_eq_true rfl) dX7_reportByte_29 (fun v8 τ8 H => ?_) (fun E τ H => H)
      refine e_if_eq (tgt := 44) dX7_reportByte_32 (by decide) (fun h9 => ?_) (fun h9 => ?_)
      · replace H := H.1 h9
        refine e_iconst (v := 0) dX7_reportByte_44 (by decide) ?_
        exact e_iret rfl dX7_reportByte_45 H
      · replace H := H.2 h9
        refine e_aload_n dX7_reportByte_35 rfl 0 rfl ?_
        refine fg_X7_62 rfl dX7_reportByte_36 ?_
        refine e_iload_n dX7_reportByte_39 rfl 1 rfl ?_
        refine e_iald (n := 500) rfl (Nat.le_of_ble_eq_true rfl) H.1 dX7_reportByte_40 ?_
        replace H := H.2
        refine e_goto (tgt := 45) dX7_reportByte_41 (by decide) ?_
        exact e_iret rfl dX7_reportByte_45 H
