set_option maxRecDepth 20000 in
set_option maxHeartbeats 2000000 in
theorem b_X0_clear {g : zG} {l : Launch} {K : zS → Prop} {X : String → zS → Prop} {o : Nat} {σ : zS} (hb : zB o)
    (H : (∀ σ1 : zS, σ1 = zup σ o 0 4 → (∀ σ2 : zS, σ2 = zup σ1 o 1 9 → (∀ σ3 : zS, σ3 = zup σ2 o 2 0 → (∀ σ4 : zS, σ4 = zup σ3 o 3 0 → (∀ σ5 : zS, σ5 = zup σ4 o 4 0 → (∀ σ6 : zS, σ6 = zup σ5 o 5 0 → (∀ σ7 : zS, σ7 = zup σ6 o 6 0 → CT g l M_J7_fill_53178 0 [.ref (zad g (o + 6)), .int 0] σ7 (zQv (fun τ8 => CT g l M_J7_fill_53178 0 [.ref (zad g (o + 7)), .int 0] τ8 (zQv (fun τ9 => K τ9) (fun E τ => X E τ))) (fun E τ => X E τ)))))))))) :
    CT g l M_X0_clear 0 [.ref (zad g o)] σ (zQv K X) := by
  refine CT_of rfl (by decide) (Nat.le_of_ble_eq_true rfl) ?_
  change EV _ _ _ _ _ 0 [(0, .ref (zad g o))] [] _
  refine e_aload_n dX0_clear_0 rfl 0 rfl ?_
  refine e_iconst (v := 4) dX0_clear_1 (by decide) ?_
  refine fp_X0_11 (zB_s0 hb) (zB_l0 hb) rfl dX0_clear_2 ?_
  replace H := H _ rfl
  generalize zup σ o 0 4 = σ1 at H ⊢
  refine e_aload_n dX0_clear_5 rfl 0 rfl ?_
  refine e_bipush (v := 9) dX0_clear_6 (by decide) ?_
  refine fp_X0_15 (zB_s0 hb) (zB_l0 hb) rfl dX0_clear_8 ?_
  replace H := H _ rfl
  generalize zup σ1 o 1 9 = σ2 at H ⊢
  refine e_aload_n dX0_clear_11 rfl 0 rfl ?_
  refine e_iconst (v := 0) dX0_clear_12 (by decide) ?_
  refine fp_X0_46 (zB_s0 hb) (zB_l0 hb) rfl dX0_clear_13 ?_
  replace H := H _ rfl
  generalize zup σ2 o 2 0 = σ3 at H ⊢
  refine e_aload_n dX0_clear_16 rfl 0 rfl ?_
  refine e_iconst (v := 0) dX0_clear_17 (by decide) ?_
  refine fp_X0_49 (zB_s0 hb) (zB_l0 hb) rfl dX0_clear_18 ?_
  replace H := H _ rfl
  generalize zup σ3 o 3 0 = σ4 at H ⊢
  refine e_aload_n dX0_clear_21 rfl 0 rfl ?_
  refine e_iconst (v := 0) dX0_clear_22 (by decide) ?_
  refine fp_X0_52 (zB_s0 hb) (zB_l0 hb) rfl dX0_clear_23 ?_
  replace H := H _ rfl
  generalize zup σ4 o 4 0 = σ5 at H ⊢
  refine e_aload_n dX0_clear_26 rfl 0 rfl ?_
  refine e_iconst (v := 0) dX0_clear_27 (by decide) ?_
  refine fp_X0_55 (zB_s0 hb) (zB_l0 hb) rfl dX0_clear_28 ?_
  replace H := H _ rfl
  generalize zup σ5 o 5 0 = σ6 at H ⊢
  refine e_aload_n dX0_clear_31 rfl 0 rfl ?_
  refine e_iconst (v := 0) dX0_clear_32 (by decide) ?_
  refine fp_X0_58 (zB_s0 hb) (zB_l0 hb) rfl dX0_clear_33 ?_
  replace H := H _ rfl
  generalize zup σ6 o 6 0 = σ7 at H ⊢
  refine e_aload_n dX0_clear_36 rfl 0 rfl ?_
  refine fg_X0_34 (zB_s0 hb) (zB_l0 hb) rfl dX0_clear_37 ?_
  refine e_iconst (v := 0) dX0_clear_40 (by decide) ?_
  refine e_callSv (j1 := 0) (j2 := 0) (av := [.ref (zad g (o + 6)), .int 0]) rfl H i_J7_fill_53178 rfl s_J7_fill_53178 q_X0_61 (by decide) (by decide) (Nat.le_of_ble_eq_true rfl) dX0_clear_41 (fun τ8 H => ?_) (fun E τ H => H)
  refine e_aload_n dX0_clear_44 rfl 0 rfl ?_
  refine fg_X0_37 (zB_s0 hb) (zB_l0 hb) rfl dX0_clear_45 ?_
  refine e_iconst (v := 0) dX0_clear_48 (by decide) ?_
  refine e_callSv (j1 := 0) (j2 := 0) (av := [.ref (zad g (o + 7)), .int 0]) rfl H i_J7_fill_53178 rfl s_J7_fill_53178 q_X0_61 (by decide) (by decide) (Nat.le_of_ble_eq_true rfl) dX0_clear_49 (fun τ9 H => ?_) (fun E τ H => H)
  exact e_vret rfl dX0_clear_52 H
set_option maxRecDepth 20000 in
set_option maxHeartbeats 2000000 in
theorem b_X0_paintAll {g : zG} {l : Launch} {K : zS → Prop} {X : String → zS → Prop} {o : Nat} {σ : zS} (hb : zB o)
    (H : (∀ σ1 : zS, σ1 = zpt σ (o + 8) (va_cpy (σ.1 (o + 6)) (σ.1 (o + 8)) (Int32.toNatClampNeg 0) (Int32.toNatClampNeg 0) (Int32.toNatClampNeg 60)) → (∀ σ2 : zS, σ2 = zpt σ1 (o + 9) (va_cpy (σ1.1 (o + 7)) (σ1.1 (o + 9)) (Int32.toNatClampNeg 0) (Int32.toNatClampNeg 0) (Int32.toNatClampNeg 60)) → K σ2))) :
    CT g l M_X0_paintAll 0 [.ref (zad g o)] σ (zQv K X) := by
  refine CT_of rfl (by decide) (Nat.le_of_ble_eq_true rfl) ?_
  change EV _ _ _ _ _ 0 [(0, .ref (zad g o))] [] _
  refine e_aload_n dX0_paintAll_0 rfl 0 rfl ?_
  refine fg_X0_34 (zB_s0 hb) (zB_l0 hb) rfl dX0_paintAll_1 ?_
  refine e_iconst (v := 0) dX0_paintAll_4 (by decide) ?_
  refine e_aload_n dX0_paintAll_5 rfl 0 rfl ?_
  refine fg_X0_40 (zB_s0 hb) (zB_l0 hb) rfl dX0_paintAll_6 ?_
  refine e_iconst (v := 0) dX0_paintAll_9 (by decide) ?_
  refine e_bipush (v := 60) dX0_paintAll_10 (by decide) ?_
  refine e_copy (zB_s6 hb) (zB_s8 hb) (zB_l6 hb) (zB_l8 hb) q_X0_67 mn_copy ms_copy mi_system (by decide) (by decide) (by decide) (by decide) (by decide) (by decide) (Nat.le_of_ble_eq_true rfl) dX0_paintAll_12 ?_
  replace H := H _ rfl
  generalize zpt σ (o + 8) (va_cpy (σ.1 (o + 6)) (σ.1 (o + 8)) (Int32.toNatClampNeg 0) (Int32.toNatClampNeg 0) (Int32.toNatClampNeg 60)) = σ1 at H ⊢
  refine e_aload_n dX0_paintAll_15 rfl 0 rfl ?_
  refine fg_X0_37 (zB_s0 hb) (zB_l0 hb) rfl dX0_paintAll_16 ?_
  refine e_iconst (v := 0) dX0_paintAll_19 (by decide) ?_
  refine e_aload_n dX0_paintAll_20 rfl 0 rfl ?_
  refine fg_X0_43 (zB_s0 hb) (zB_l0 hb) rfl dX0_paintAll_21 ?_
  refine e_iconst (v := 0) dX0_paintAll_24 (by decide) ?_
  refine e_bipush (v := 60) dX0_paintAll_25 (by decide) ?_
  refine e_copy (zB_s7 hb) (zB_s9 hb) (zB_l7 hb) (zB_l9 hb) q_X0_67 mn_copy ms_copy mi_system (by decide) (by decide) (by decide) (by decide) (by decide) (by decide) (Nat.le_of_ble_eq_true rfl) dX0_paintAll_27 ?_
  replace H := H _ rfl
  generalize zpt σ1 (o + 9) (va_cpy (σ1.1 (o + 7)) (σ1.1 (o + 9)) (Int32.toNatClampNeg 0) (Int32.toNatClampNeg 0) (Int32.toNatClampNeg 60)) = σ2 at H ⊢
  exact e_vret rfl dX0_paintAll_30 H
set_option maxRecDepth 20000 in
set_option maxHeartbeats 2000000 in
theorem b_X0_copyFrom {g : zG} {l : Launch} {K : zS → Prop} {X : String → zS → Prop} {o : Nat} {o2 : Nat} {σ : zS} (hb : zB o) (hb2 : zB o2)
    (H : (∀ σ1 : zS, σ1 = zup σ o 0 (σ.1 o2 0) → (∀ σ2 : zS, σ2 = zup σ1 o 1 (σ1.1 o2 1) → (∀ σ3 : zS, σ3 = zup σ2 o 2 (σ2.1 o2 2) → (∀ σ4 : zS, σ4 = zup σ3 o 3 (σ3.1 o2 3) → (∀ σ5 : zS, σ5 = zup σ4 o 4 (σ4.1 o2 4) → (∀ σ6 : zS, σ6 = zup σ5 o 5 (σ5.1 o2 5) → (∀ σ7 : zS, σ7 = zup σ6 o 6 (σ6.1 o2 6) → (∀ σ8 : zS, σ8 = zpt σ7 (o + 1) (va_cpy (σ7.1 (o2 + 1)) (σ7.1 (o + 1)) (Int32.toNatClampNeg 0) (Int32.toNatClampNeg 0) (Int32.toNatClampNeg 10)) → (∀ σ9 : zS, σ9 = zpt σ8 (o + 2) (va_cpy (σ8.1 (o2 + 2)) (σ8.1 (o + 2)) (Int32.toNatClampNeg 0) (Int32.toNatClampNeg 0) (Int32.toNatClampNeg 10)) → (∀ σ10 : zS, σ10 = zpt σ9 (o + 3) (va_cpy (σ9.1 (o2 + 3)) (σ9.1 (o + 3)) (Int32.toNatClampNeg 0) (Int32.toNatClampNeg 0) (Int32.toNatClampNeg 10)) → (∀ σ11 : zS, σ11 = zpt σ10 (o + 4) (va_cpy (σ10.1 (o2 + 4)) (σ10.1 (o + 4)) (Int32.toNatClampNeg 0) (Int32.toNatClampNeg 0) (Int32.toNatClampNeg 10)) → (∀ σ12 : zS, σ12 = zpt σ11 (o + 5) (va_cpy (σ11.1 (o2 + 5)) (σ11.1 (o + 5)) (Int32.toNatClampNeg 0) (Int32.toNatClampNeg 0) (Int32.toNatClampNeg 10)) → (∀ σ13 : zS, σ13 = zpt σ12 (o + 6) (va_cpy (σ12.1 (o2 + 6)) (σ12.1 (o + 6)) (Int32.toNatClampNeg 0) (Int32.toNatClampNeg 0) (Int32.toNatClampNeg 60)) → (∀ σ14 : zS, σ14 = zpt σ13 (o + 7) (va_cpy (σ13.1 (o2 + 7)) (σ13.1 (o + 7)) (Int32.toNatClampNeg 0) (Int32.toNatClampNeg 0) (Int32.toNatClampNeg 60)) → (∀ σ15 : zS, σ15 = zpt σ14 (o + 8) (va_cpy (σ14.1 (o2 + 8)) (σ14.1 (o + 8)) (Int32.toNatClampNeg 0) (Int32.toNatClampNeg 0) (Int32.toNatClampNeg 60)) → (∀ σ16 : zS, σ16 = zpt σ15 (o + 9) (va_cpy (σ15.1 (o2 + 9)) (σ15.1 (o + 9)) (Int32.toNatClampNeg 0) (Int32.toNatClampNeg 0) (Int32.toNatClampNeg 60)) → K σ16))))))))))))))))) :
    CT g l M_X0_copyFrom 0 [.ref (zad g o), .ref (zad g o2)] σ (zQv K X) := by
  refine CT_of rfl (by decide) (Nat.le_of_ble_eq_true rfl) ?_
  change EV _ _ _ _ _ 0 [(0, .ref (zad g o)), (1, .ref (zad g o2))] [] _
  refine e_aload_n dX0_copyFrom_0 rfl 0 rfl ?_
  refine e_aload_n dX0_copyFrom_1 rfl 1 rfl ?_
  refine fg_X0_11 (zB_s0 hb2) (zB_l0 hb2) rfl dX0_copyFrom_2 ?_
  refine fp_X0_11 (zB_s0 hb) (zB_l0 hb) rfl dX0_copyFrom_5 ?_
  replace H := H _ rfl
  generalize zup σ o 0 (σ.1 o2 0) = σ1 at H ⊢
  refine e_aload_n dX0_copyFrom_8 rfl 0 rfl ?_
  refine e_aload_n dX0_copyFrom_9 rfl 1 rfl ?_
  refine fg_X0_15 (zB_s0 hb2) (zB_l0 hb2) rfl dX0_copyFrom_10 ?_
  refine fp_X0_15 (zB_s0 hb) (zB_l0 hb) rfl dX0_copyFrom_13 ?_
  replace H := H _ rfl
  generalize zup σ1 o 1 (σ1.1 o2 1) = σ2 at H ⊢
  refine e_aload_n dX0_copyFrom_16 rfl 0 rfl ?_
  refine e_aload_n dX0_copyFrom_17 rfl 1 rfl ?_
  refine fg_X0_46 (zB_s0 hb2) (zB_l0 hb2) rfl dX0_copyFrom_18 ?_
  refine fp_X0_46 (zB_s0 hb) (zB_l0 hb) rfl dX0_copyFrom_21 ?_
  replace H := H _ rfl
  generalize zup σ2 o 2 (σ2.1 o2 2) = σ3 at H ⊢
  refine e_aload_n dX0_copyFrom_24 rfl 0 rfl ?_
  refine e_aload_n dX0_copyFrom_25 rfl 1 rfl ?_
  refine fg_X0_49 (zB_s0 hb2) (zB_l0 hb2) rfl dX0_copyFrom_26 ?_
  refine fp_X0_49 (zB_s0 hb) (zB_l0 hb) rfl dX0_copyFrom_29 ?_
  replace H := H _ rfl
  generalize zup σ3 o 3 (σ3.1 o2 3) = σ4 at H ⊢
  refine e_aload_n dX0_copyFrom_32 rfl 0 rfl ?_
  refine e_aload_n dX0_copyFrom_33 rfl 1 rfl ?_
  refine fg_X0_52 (zB_s0 hb2) (zB_l0 hb2) rfl dX0_copyFrom_34 ?_
  refine fp_X0_52 (zB_s0 hb) (zB_l0 hb) rfl dX0_copyFrom_37 ?_
  replace H := H _ rfl
  generalize zup σ4 o 4 (σ4.1 o2 4) = σ5 at H ⊢
  refine e_aload_n dX0_copyFrom_40 rfl 0 rfl ?_
  refine e_aload_n dX0_copyFrom_41 rfl 1 rfl ?_
  refine fg_X0_55 (zB_s0 hb2) (zB_l0 hb2) rfl dX0_copyFrom_42 ?_
  refine fp_X0_55 (zB_s0 hb) (zB_l0 hb) rfl dX0_copyFrom_45 ?_
  replace H := H _ rfl
  generalize zup σ5 o 5 (σ5.1 o2 5) = σ6 at H ⊢
  refine e_aload_n dX0_copyFrom_48 rfl 0 rfl ?_
  refine e_aload_n dX0_copyFrom_49 rfl 1 rfl ?_
  refine fg_X0_58 (zB_s0 hb2) (zB_l0 hb2) rfl dX0_copyFrom_50 ?_
  refine fp_X0_58 (zB_s0 hb) (zB_l0 hb) rfl dX0_copyFrom_53 ?_
  replace H := H _ rfl
  generalize zup σ6 o 6 (σ6.1 o2 6) = σ7 at H ⊢
  refine e_aload_n dX0_copyFrom_56 rfl 1 rfl ?_
  refine fg_X0_18 (zB_s0 hb2) (zB_l0 hb2) rfl dX0_copyFrom_57 ?_
  refine e_iconst (v := 0) dX0_copyFrom_60 (by decide) ?_
  refine e_aload_n dX0_copyFrom_61 rfl 0 rfl ?_
  refine fg_X0_18 (zB_s0 hb) (zB_l0 hb) rfl dX0_copyFrom_62 ?_
  refine e_iconst (v := 0) dX0_copyFrom_65 (by decide) ?_
  refine e_bipush (v := 10) dX0_copyFrom_66 (by decide) ?_
  refine e_copy (zB_s1 hb2) (zB_s1 hb) (zB_l1 hb2) (zB_l1 hb) q_X0_67 mn_copy ms_copy mi_system (by decide) (by decide) (by decide) (by decide) (by decide) (by decide) (Nat.le_of_ble_eq_true rfl) dX0_copyFrom_68 ?_
  replace H := H _ rfl
  generalize zpt σ7 (o + 1) (va_cpy (σ7.1 (o2 + 1)) (σ7.1 (o + 1)) (Int32.toNatClampNeg 0) (Int32.toNatClampNeg 0) (Int32.toNatClampNeg 10)) = σ8 at H ⊢
  refine e_aload_n dX0_copyFrom_71 rfl 1 rfl ?_
  refine fg_X0_22 (zB_s0 hb2) (zB_l0 hb2) rfl dX0_copyFrom_72 ?_
  refine e_iconst (v := 0) dX0_copyFrom_75 (by decide) ?_
  refine e_aload_n dX0_copyFrom_76 rfl 0 rfl ?_
  refine fg_X0_22 (zB_s0 hb) (zB_l0 hb) rfl dX0_copyFrom_77 ?_
  refine e_iconst (v := 0) dX0_copyFrom_80 (by decide) ?_
  refine e_bipush (v := 10) dX0_copyFrom_81 (by decide) ?_
  refine e_copy (zB_s2 hb2) (zB_s2 hb) (zB_l2 hb2) (zB_l2 hb) q_X0_67 mn_copy ms_copy mi_system (by decide) (by decide) (by decide) (by decide) (by decide) (by decide) (Nat.le_of_ble_eq_true rfl) dX0_copyFrom_83 ?_
  replace H := H _ rfl
  generalize zpt σ8 (o + 2) (va_cpy (σ8.1 (o2 + 2)) (σ8.1 (o + 2)) (Int32.toNatClampNeg 0) (Int32.toNatClampNeg 0) (Int32.toNatClampNeg 10)) = σ9 at H ⊢
  refine e_aload_n dX0_copyFrom_86 rfl 1 rfl ?_
  refine fg_X0_25 (zB_s0 hb2) (zB_l0 hb2) rfl dX0_copyFrom_87 ?_
  refine e_iconst (v := 0) dX0_copyFrom_90 (by decide) ?_
  refine e_aload_n dX0_copyFrom_91 rfl 0 rfl ?_
  refine fg_X0_25 (zB_s0 hb) (zB_l0 hb) rfl dX0_copyFrom_92 ?_
  refine e_iconst (v := 0) dX0_copyFrom_95 (by decide) ?_
  refine e_bipush (v := 10) dX0_copyFrom_96 (by decide) ?_
  refine e_copy (zB_s3 hb2) (zB_s3 hb) (zB_l3 hb2) (zB_l3 hb) q_X0_67 mn_copy ms_copy mi_system (by decide) (by decide) (by decide) (by decide) (by decide) (by decide) (Nat.le_of_ble_eq_true rfl) dX0_copyFrom_98 ?_
  replace H := H _ rfl
  generalize zpt σ9 (o + 3) (va_cpy (σ9.1 (o2 + 3)) (σ9.1 (o + 3)) (Int32.toNatClampNeg 0) (Int32.toNatClampNeg 0) (Int32.toNatClampNeg 10)) = σ10 at H ⊢
  refine e_aload_n dX0_copyFrom_101 rfl 1 rfl ?_
  refine fg_X0_28 (zB_s0 hb2) (zB_l0 hb2) rfl dX0_copyFrom_102 ?_
  refine e_iconst (v := 0) dX0_copyFrom_105 (by decide) ?_
  refine e_aload_n dX0_copyFrom_106 rfl 0 rfl ?_
  refine fg_X0_28 (zB_s0 hb) (zB_l0 hb) rfl dX0_copyFrom_107 ?_
  refine e_iconst (v := 0) dX0_copyFrom_110 (by decide) ?_
  refine e_bipush (v := 10) dX0_copyFrom_111 (by decide) ?_
  refine e_copy (zB_s4 hb2) (zB_s4 hb) (zB_l4 hb2) (zB_l4 hb) q_X0_67 mn_copy ms_copy mi_system (by decide) (by decide) (by decide) (by decide) (by decide) (by decide) (Nat.le_of_ble_eq_true rfl) dX0_copyFrom_113 ?_
  replace H := H _ rfl
  generalize zpt σ10 (o + 4) (va_cpy (σ10.1 (o2 + 4)) (σ10.1 (o + 4)) (Int32.toNatClampNeg 0) (Int32.toNatClampNeg 0) (Int32.toNatClampNeg 10)) = σ11 at H ⊢
  refine e_aload_n dX0_copyFrom_116 rfl 1 rfl ?_
  refine fg_X0_31 (zB_s0 hb2) (zB_l0 hb2) rfl dX0_copyFrom_117 ?_
  refine e_iconst (v := 0) dX0_copyFrom_120 (by decide) ?_
  refine e_aload_n dX0_copyFrom_121 rfl 0 rfl ?_
  refine fg_X0_31 (zB_s0 hb) (zB_l0 hb) rfl dX0_copyFrom_122 ?_
  refine e_iconst (v := 0) dX0_copyFrom_125 (by decide) ?_
  refine e_bipush (v := 10) dX0_copyFrom_126 (by decide) ?_
  refine e_copy (zB_s5 hb2) (zB_s5 hb) (zB_l5 hb2) (zB_l5 hb) q_X0_67 mn_copy ms_copy mi_system (by decide) (by decide) (by decide) (by decide) (by decide) (by decide) (Nat.le_of_ble_eq_true rfl) dX0_copyFrom_128 ?_
  replace H := H _ rfl
  generalize zpt σ11 (o + 5) (va_cpy (σ11.1 (o2 + 5)) (σ11.1 (o + 5)) (Int32.toNatClampNeg 0) (Int32.toNatClampNeg 0) (Int32.toNatClampNeg 10)) = σ12 at H ⊢
  refine e_aload_n dX0_copyFrom_131 rfl 1 rfl ?_
  refine fg_X0_34 (zB_s0 hb2) (zB_l0 hb2) rfl dX0_copyFrom_132 ?_
  refine e_iconst (v := 0) dX0_copyFrom_135 (by decide) ?_
  refine e_aload_n dX0_copyFrom_136 rfl 0 rfl ?_
  refine fg_X0_34 (zB_s0 hb) (zB_l0 hb) rfl dX0_copyFrom_137 ?_
  refine e_iconst (v := 0) dX0_copyFrom_140 (by decide) ?_
  refine e_bipush (v := 60) dX0_copyFrom_141 (by decide) ?_
  refine e_copy (zB_s6 hb2) (zB_s6 hb) (zB_l6 hb2) (zB_l6 hb) q_X0_67 mn_copy ms_copy mi_system (by decide) (by decide) (by decide) (by decide) (by decide) (by decide) (Nat.le_of_ble_eq_true rfl) dX0_copyFrom_143 ?_
  replace H := H _ rfl
  generalize zpt σ12 (o + 6) (va_cpy (σ12.1 (o2 + 6)) (σ12.1 (o + 6)) (Int32.toNatClampNeg 0) (Int32.toNatClampNeg 0) (Int32.toNatClampNeg 60)) = σ13 at H ⊢
  refine e_aload_n dX0_copyFrom_146 rfl 1 rfl ?_
  refine fg_X0_37 (zB_s0 hb2) (zB_l0 hb2) rfl dX0_copyFrom_147 ?_
  refine e_iconst (v := 0) dX0_copyFrom_150 (by decide) ?_
  refine e_aload_n dX0_copyFrom_151 rfl 0 rfl ?_
  refine fg_X0_37 (zB_s0 hb) (zB_l0 hb) rfl dX0_copyFrom_152 ?_
  refine e_iconst (v := 0) dX0_copyFrom_155 (by decide) ?_
  refine e_bipush (v := 60) dX0_copyFrom_156 (by decide) ?_
  refine e_copy (zB_s7 hb2) (zB_s7 hb) (zB_l7 hb2) (zB_l7 hb) q_X0_67 mn_copy ms_copy mi_system (by decide) (by decide) (by decide) (by decide) (by decide) (by decide) (Nat.le_of_ble_eq_true rfl) dX0_copyFrom_158 ?_
  replace H := H _ rfl
  generalize zpt σ13 (o + 7) (va_cpy (σ13.1 (o2 + 7)) (σ13.1 (o + 7)) (Int32.toNatClampNeg 0) (Int32.toNatClampNeg 0) (Int32.toNatClampNeg 60)) = σ14 at H ⊢
  refine e_aload_n dX0_copyFrom_161 rfl 1 rfl ?_
  refine fg_X0_40 (zB_s0 hb2) (zB_l0 hb2) rfl dX0_copyFrom_162 ?_
  refine e_iconst (v := 0) dX0_copyFrom_165 (by decide) ?_
  refine e_aload_n dX0_copyFrom_166 rfl 0 rfl ?_
  refine fg_X0_40 (zB_s0 hb) (zB_l0 hb) rfl dX0_copyFrom_167 ?_
  refine e_iconst (v := 0) dX0_copyFrom_170 (by decide) ?_
  refine e_bipush (v := 60) dX0_copyFrom_171 (by decide) ?_
  refine e_copy (zB_s8 hb2) (zB_s8 hb) (zB_l8 hb2) (zB_l8 hb) q_X0_67 mn_copy ms_copy mi_system (by decide) (by decide) (by decide) (by decide) (by decide) (by decide) (Nat.le_of_ble_eq_true rfl) dX0_copyFrom_173 ?_
  replace H := H _ rfl
  generalize zpt σ14 (o + 8) (va_cpy (σ14.1 (o2 + 8)) (σ14.1 (o + 8)) (Int32.toNatClampNeg 0) (Int32.toNatClampNeg 0) (Int32.toNatClampNeg 60)) = σ15 at H ⊢
  refine e_aload_n dX0_copyFrom_176 rfl 1 rfl ?_
  refine fg_X0_43 (zB_s0 hb2) (zB_l0 hb2) rfl dX0_copyFrom_177 ?_
  refine e_iconst (v := 0) dX0_copyFrom_180 (by decide) ?_
  refine e_aload_n dX0_copyFrom_181 rfl 0 rfl ?_
  refine fg_X0_43 (zB_s0 hb) (zB_l0 hb) rfl dX0_copyFrom_182 ?_
  refine e_iconst (v := 0) dX0_copyFrom_185 (by decide) ?_
  refine e_bipush (v := 60) dX0_copyFrom_186 (by decide) ?_
  refine e_copy (zB_s9 hb2) (zB_s9 hb) (zB_l9 hb2) (zB_l9 hb) q_X0_67 mn_copy ms_copy mi_system (by decide) (by decide) (by decide) (by decide) (by decide) (by decide) (Nat.le_of_ble_eq_true rfl) dX0_copyFrom_188 ?_
  replace H := H _ rfl
  generalize zpt σ15 (o + 9) (va_cpy (σ15.1 (o2 + 9)) (σ15.1 (o + 9)) (Int32.toNatClampNeg 0) (Int32.toNatClampNeg 0) (Int32.toNatClampNeg 60)) = σ16 at H ⊢
  exact e_vret rfl dX0_copyFrom_191 H
set_option maxRecDepth 20000 in
set_option maxHeartbeats 2000000 in
theorem b_X0_addSlat {g : zG} {l : Launch} {K : zS → Prop} {X : String → zS → Prop} {o : Nat} {x1 : Int32} {x2 : Int32} {σ : zS} (hb : zB o)
    (H : ((10 ≤ (σ.1 o 2) → K σ) ∧ (¬ 10 ≤ (σ.1 o 2) → (vp_in (σ.1 o 2) 10 ∧ (∀ σ2 : zS, σ2 = zup σ (o + 1) (Int32.toNatClampNeg (σ.1 o 2)) x1 → (vp_in (σ2.1 o 2) 10 ∧ (∀ σ3 : zS, σ3 = zup σ2 (o + 2) (Int32.toNatClampNeg (σ2.1 o 2)) (σ2.1 o 3) → (vp_in (σ3.1 o 2) 10 ∧ (∀ σ4 : zS, σ4 = zup σ3 (o + 3) (Int32.toNatClampNeg (σ3.1 o 2)) x2 → (vp_in (σ4.1 o 2) 10 ∧ (∀ σ5 : zS, σ5 = zup σ4 (o + 4) (Int32.toNatClampNeg (σ4.1 o 2)) 1 → (vp_in (σ5.1 o 2) 10 ∧ (∀ σ6 : zS, σ6 = zup σ5 (o + 5) (Int32.toNatClampNeg (σ5.1 o 2)) 1 → (∀ σ7 : zS, σ7 = zup σ6 o 2 ((σ6.1 o 2) + 1) → (∀ σ8 : zS, σ8 = zup σ7 o 3 ((σ7.1 o 3) + x1) → K σ8))))))))))))))) :
    CT g l M_X0_addSlat 0 [.ref (zad g o), .int x1, .int x2] σ (zQv K X) := by
  refine CT_of rfl (by decide) (Nat.le_of_ble_eq_true rfl) ?_
  change EV _ _ _ _ _ 0 [(0, .ref (zad g o)), (1, .int x1), (2, .int x2)] [] _
  refine e_aload_n dX0_addSlat_0 rfl 0 rfl ?_
  refine fg_X0_46 (zB_s0 hb) (zB_l0 hb) rfl dX0_addSlat_1 ?_
  refine e_bipush (v := 10) dX0_addSlat_4 (by decide) ?_
  refine e_icmp_ge (tgt := 82) dX0_addSlat_6 (by decide) (fun h1 => ?_) (fun h1 => ?_)
  · replace H := H.1 h1
    exact e_vret rfl dX0_addSlat_82 H
  · replace H := H.2 h1
    refine e_aload_n dX0_addSlat_9 rfl 0 rfl ?_
    refine fg_X0_18 (zB_s0 hb) (zB_l0 hb) rfl dX0_addSlat_10 ?_
    refine e_aload_n dX0_addSlat_13 rfl 0 rfl ?_
    refine fg_X0_46 (zB_s0 hb) (zB_l0 hb) rfl dX0_addSlat_14 ?_
    refine e_iload_n dX0_addSlat_17 rfl 1 rfl ?_
    refine e_iast (n := 10) (zB_s1 hb) (zB_l1 hb) H.1 dX0_addSlat_18 ?_
    replace H := H.2
    replace H := H _ rfl
    generalize zup σ (o + 1) (Int32.toNatClampNeg (σ.1 o 2)) x1 = σ2 at H ⊢
    refine e_aload_n dX0_addSlat_19 rfl 0 rfl ?_
    refine fg_X0_22 (zB_s0 hb) (zB_l0 hb) rfl dX0_addSlat_20 ?_
    refine e_aload_n dX0_addSlat_23 rfl 0 rfl ?_
    refine fg_X0_46 (zB_s0 hb) (zB_l0 hb) rfl dX0_addSlat_24 ?_
    refine e_aload_n dX0_addSlat_27 rfl 0 rfl ?_
    refine fg_X0_49 (zB_s0 hb) (zB_l0 hb) rfl dX0_addSlat_28 ?_
    refine e_iast (n := 10) (zB_s2 hb) (zB_l2 hb) H.1 dX0_addSlat_31 ?_
    replace H := H.2
    replace H := H _ rfl
    generalize zup σ2 (o + 2) (Int32.toNatClampNeg (σ2.1 o 2)) (σ2.1 o 3) = σ3 at H ⊢
    refine e_aload_n dX0_addSlat_32 rfl 0 rfl ?_
    refine fg_X0_25 (zB_s0 hb) (zB_l0 hb) rfl dX0_addSlat_33 ?_
    refine e_aload_n dX0_addSlat_36 rfl 0 rfl ?_
    refine fg_X0_46 (zB_s0 hb) (zB_l0 hb) rfl dX0_addSlat_37 ?_
    refine e_iload_n dX0_addSlat_40 rfl 2 rfl ?_
    refine e_iast (n := 10) (zB_s3 hb) (zB_l3 hb) H.1 dX0_addSlat_41 ?_
    replace H := H.2
    replace H := H _ rfl
    generalize zup σ3 (o + 3) (Int32.toNatClampNeg (σ3.1 o 2)) x2 = σ4 at H ⊢
    refine e_aload_n dX0_addSlat_42 rfl 0 rfl ?_
    refine fg_X0_28 (zB_s0 hb) (zB_l0 hb) rfl dX0_addSlat_43 ?_
    refine e_aload_n dX0_addSlat_46 rfl 0 rfl ?_
    refine fg_X0_46 (zB_s0 hb) (zB_l0 hb) rfl dX0_addSlat_47 ?_
    refine e_iconst (v := 1) dX0_addSlat_50 (by decide) ?_
    refine e_iast (n := 10) (zB_s4 hb) (zB_l4 hb) H.1 dX0_addSlat_51 ?_
    replace H := H.2
    replace H := H _ rfl
    generalize zup σ4 (o + 4) (Int32.toNatClampNeg (σ4.1 o 2)) 1 = σ5 at H ⊢
    refine e_aload_n dX0_addSlat_52 rfl 0 rfl ?_
    refine fg_X0_31 (zB_s0 hb) (zB_l0 hb) rfl dX0_addSlat_53 ?_
    refine e_aload_n dX0_addSlat_56 rfl 0 rfl ?_
    refine fg_X0_46 (zB_s0 hb) (zB_l0 hb) rfl dX0_addSlat_57 ?_
    refine e_iconst (v := 1) dX0_addSlat_60 (by decide) ?_
    refine e_iast (n := 10) (zB_s5 hb) (zB_l5 hb) H.1 dX0_addSlat_61 ?_
    replace H := H.2
    replace H := H _ rfl
    generalize zup σ5 (o + 5) (Int32.toNatClampNeg (σ5.1 o 2)) 1 = σ6 at H ⊢
    refine e_aload_n dX0_addSlat_62 rfl 0 rfl ?_
    refine e_dup dX0_addSlat_63 rfl ?_
    refine fg_X0_46 (zB_s0 hb) (zB_l0 hb) rfl dX0_addSlat_64 ?_
    refine e_iconst (v := 1) dX0_addSlat_67 (by decide) ?_
    refine e_iadd dX0_addSlat_68 ?_
    refine fp_X0_46 (zB_s0 hb) (zB_l0 hb) rfl dX0_addSlat_69 ?_
    replace H := H _ rfl
    generalize zup σ6 o 2 ((σ6.1 o 2) + 1) = σ7 at H ⊢
    refine e_aload_n dX0_addSlat_72 rfl 0 rfl ?_
    refine e_dup dX0_addSlat_73 rfl ?_
    refine fg_X0_49 (zB_s0 hb) (zB_l0 hb) rfl dX0_addSlat_74 ?_
    refine e_iload_n dX0_addSlat_77 rfl 1 rfl ?_
    refine e_iadd dX0_addSlat_78 ?_
    refine fp_X0_49 (zB_s0 hb) (zB_l0 hb) rfl dX0_addSlat_79 ?_
    replace H := H _ rfl
    generalize zup σ7 o 3 ((σ7.1 o 3) + x1) = σ8 at H ⊢
    exact e_vret rfl dX0_addSlat_82 H
set_option maxRecDepth 20000 in
set_option maxHeartbeats 2000000 in
theorem b_X0_countBox {g : zG} {l : Launch} {K : zS → Prop} {X : String → zS → Prop} {o : Nat} {x1 : Int32} {σ : zS} (hb : zB o)
    (H : ((x1 = 0 → (∀ σ2 : zS, σ2 = zup σ o 4 ((σ.1 o 4) + 1) → K σ2)) ∧ (¬ x1 = 0 → (∀ σ3 : zS, σ3 = zup σ o 5 ((σ.1 o 5) + 1) → K σ3)))) :
    CT g l M_X0_countBox 0 [.ref (zad g o), .int x1] σ (zQv K X) := by
  refine CT_of rfl (by decide) (Nat.le_of_ble_eq_true rfl) ?_
  change EV _ _ _ _ _ 0 [(0, .ref (zad g o)), (1, .int x1)] [] _
  refine e_iload_n dX0_countBox_0 rfl 1 rfl ?_
  refine e_if_eq (tgt := 17) dX0_countBox_1 (by decide) (fun h1 => ?_) (fun h1 => ?_)
  · replace H := H.1 h1
    refine e_aload_n dX0_countBox_17 rfl 0 rfl ?_
    refine e_dup dX0_countBox_18 rfl ?_
    refine fg_X0_52 (zB_s0 hb) (zB_l0 hb) rfl dX0_countBox_19 ?_
    refine e_iconst (v := 1) dX0_countBox_22 (by decide) ?_
    refine e_iadd dX0_countBox_23 ?_
    refine fp_X0_52 (zB_s0 hb) (zB_l0 hb) rfl dX0_countBox_24 ?_
    replace H := H _ rfl
    generalize zup σ o 4 ((σ.1 o 4) + 1) = σ2 at H ⊢
    exact e_vret rfl dX0_countBox_27 H
  · replace H := H.2 h1
    refine e_aload_n dX0_countBox_4 rfl 0 rfl ?_
    refine e_dup dX0_countBox_5 rfl ?_
    refine fg_X0_55 (zB_s0 hb) (zB_l0 hb) rfl dX0_countBox_6 ?_
    refine e_iconst (v := 1) dX0_countBox_9 (by decide) ?_
    refine e_iadd dX0_countBox_10 ?_
    refine fp_X0_55 (zB_s0 hb) (zB_l0 hb) rfl dX0_countBox_11 ?_
    replace H := H _ rfl
    generalize zup σ o 5 ((σ.1 o 5) + 1) = σ3 at H ⊢
    refine e_goto (tgt := 27) dX0_countBox_14 (by decide) ?_
    exact e_vret rfl dX0_countBox_27 H
set_option maxRecDepth 20000 in
set_option maxHeartbeats 2000000 in
theorem b_X0_pictureOf {g : zG} {l : Launch} {K : Nat → zS → Prop} {X : String → zS → Prop} {o : Nat} {x1 : Int32} {σ : zS} (hb : zB o)
    (H : ((x1 = 0 → K (o + 6) σ) ∧ (¬ x1 = 0 → K (o + 7) σ))) :
    CT g l M_X0_pictureOf 0 [.ref (zad g o), .int x1] σ (zQr g K X) := by
  refine CT_of rfl (by decide) (Nat.le_of_ble_eq_true rfl) ?_
  change EV _ _ _ _ _ 0 [(0, .ref (zad g o)), (1, .int x1)] [] _
  refine e_iload_n dX0_pictureOf_0 rfl 1 rfl ?_
  refine e_if_eq (tgt := 11) dX0_pictureOf_1 (by decide) (fun h1 => ?_) (fun h1 => ?_)
  · replace H := H.1 h1
    refine e_aload_n dX0_pictureOf_11 rfl 0 rfl ?_
    refine fg_X0_34 (zB_s0 hb) (zB_l0 hb) rfl dX0_pictureOf_12 ?_
    exact e_aret rfl (Or.inr ⟨_, rfl⟩) dX0_pictureOf_15 ⟨_, rfl, H⟩
  · replace H := H.2 h1
    refine e_aload_n dX0_pictureOf_4 rfl 0 rfl ?_
    refine fg_X0_37 (zB_s0 hb) (zB_l0 hb) rfl dX0_pictureOf_5 ?_
    refine e_goto (tgt := 15) dX0_pictureOf_8 (by decide) ?_
    exact e_aret rfl (Or.inr ⟨_, rfl⟩) dX0_pictureOf_15 ⟨_, rfl, H⟩
set_option maxRecDepth 20000 in
set_option maxHeartbeats 2000000 in
theorem b_X0_faceOf {g : zG} {l : Launch} {K : Nat → zS → Prop} {X : String → zS → Prop} {o : Nat} {x1 : Int32} {σ : zS} (hb : zB o)
    (H : ((x1 = 0 → K (o + 8) σ) ∧ (¬ x1 = 0 → K (o + 9) σ))) :
    CT g l M_X0_faceOf 0 [.ref (zad g o), .int x1] σ (zQr g K X) := by
  refine CT_of rfl (by decide) (Nat.le_of_ble_eq_true rfl) ?_
  change EV _ _ _ _ _ 0 [(0, .ref (zad g o)), (1, .int x1)] [] _
  refine e_iload_n dX0_faceOf_0 rfl 1 rfl ?_
  refine e_if_eq (tgt := 11) dX0_faceOf_1 (by decide) (fun h1 => ?_) (fun h1 => ?_)
  · replace H := H.1 h1
    refine e_aload_n dX0_faceOf_11 rfl 0 rfl ?_
    refine fg_X0_40 (zB_s0 hb) (zB_l0 hb) rfl dX0_faceOf_12 ?_
    exact e_aret rfl (Or.inr ⟨_, rfl⟩) dX0_faceOf_15 ⟨_, rfl, H⟩
  · replace H := H.2 h1
    refine e_aload_n dX0_faceOf_4 rfl 0 rfl ?_
    refine fg_X0_43 (zB_s0 hb) (zB_l0 hb) rfl dX0_faceOf_5 ?_
    refine e_goto (tgt := 15) dX0_faceOf_8 (by decide) ?_
    exact e_aret rfl (Or.inr ⟨_, rfl⟩) dX0_faceOf_15 ⟨_, rfl, H⟩
set_option maxRecDepth 20000 in
set_option maxHeartbeats 2000000 in
theorem b_X0_coatsOf {g : zG} {l : Launch} {K : Nat → zS → Prop} {X : String → zS → Prop} {o : Nat} {x1 : Int32} {σ : zS} (hb : zB o)
    (H : ((x1 = 0 → K (o + 4) σ) ∧ (¬ x1 = 0 → K (o + 5) σ))) :
    CT g l M_X0_coatsOf 0 [.ref (zad g o), .int x1] σ (zQr g K X) := by
  refine CT_of rfl (by decide) (Nat.le_of_ble_eq_true rfl) ?_
  change EV _ _ _ _ _ 0 [(0, .ref (zad g o)), (1, .int x1)] [] _
  refine e_iload_n dX0_coatsOf_0 rfl 1 rfl ?_
  refine e_if_eq (tgt := 11) dX0_coatsOf_1 (by decide) (fun h1 => ?_) (fun h1 => ?_)
  · replace H := H.1 h1
    refine e_aload_n dX0_coatsOf_11 rfl 0 rfl ?_
    refine fg_X0_28 (zB_s0 hb) (zB_l0 hb) rfl dX0_coatsOf_12 ?_
    exact e_aret rfl (Or.inr ⟨_, rfl⟩) dX0_coatsOf_15 ⟨_, rfl, H⟩
  · replace H := H.2 h1
    refine e_aload_n dX0_coatsOf_4 rfl 0 rfl ?_
    refine fg_X0_31 (zB_s0 hb) (zB_l0 hb) rfl dX0_coatsOf_5 ?_
    refine e_goto (tgt := 15) dX0_coatsOf_8 (by decide) ?_
    exact e_aret rfl (Or.inr ⟨_, rfl⟩) dX0_coatsOf_15 ⟨_, rfl, H⟩
set_option maxRecDepth 20000 in
set_option maxHeartbeats 2000000 in
theorem b_X0_hasSlat {g : zG} {l : Launch} {K : Int32 → zS → Prop} {X : String → zS → Prop} {o : Nat} {x1 : Int32} {σ : zS} (hb : zB o)
    (H : ((x1 < 0 → K 0 σ) ∧ (¬ x1 < 0 → (((σ.1 o 2) ≤ x1 → K 0 σ) ∧ (¬ (σ.1 o 2) ≤ x1 → K 1 σ))))) :
    CT g l M_X0_hasSlat 0 [.ref (zad g o), .int x1] σ (zQi K X) := by
  refine CT_of rfl (by decide) (Nat.le_of_ble_eq_true rfl) ?_
  change EV _ _ _ _ _ 0 [(0, .ref (zad g o)), (1, .int x1)] [] _
  refine e_iload_n dX0_hasSlat_0 rfl 1 rfl ?_
  refine e_if_lt (tgt := 16) dX0_hasSlat_1 (by decide) (fun h1 => ?_) (fun h1 => ?_)
  · replace H := H.1 h1
    refine e_iconst (v := 0) dX0_hasSlat_16 (by decide) ?_
    exact e_zret rfl rfl dX0_hasSlat_17 H
  · replace H := H.2 h1
    refine e_iload_n dX0_hasSlat_4 rfl 1 rfl ?_
    refine e_aload_n dX0_hasSlat_5 rfl 0 rfl ?_
    refine fg_X0_46 (zB_s0 hb) (zB_l0 hb) rfl dX0_hasSlat_6 ?_
    refine e_icmp_ge (tgt := 16) dX0_hasSlat_9 (by decide) (fun h2 => ?_) (fun h2 => ?_)
    · replace H := H.1 h2
      refine e_iconst (v := 0) dX0_hasSlat_16 (by decide) ?_
      exact e_zret rfl rfl dX0_hasSlat_17 H
    · replace H := H.2 h2
      refine e_iconst (v := 1) dX0_hasSlat_12 (by decide) ?_
      refine e_goto (tgt := 17) dX0_hasSlat_13 (by decide) ?_
      exact e_zret rfl rfl dX0_hasSlat_17 H
set_option maxRecDepth 20000 in
set_option maxHeartbeats 2000000 in
theorem b_X0_hasColumn {g : zG} {l : Launch} {K : Int32 → zS → Prop} {X : String → zS → Prop} {o : Nat} {x1 : Int32} {σ : zS} (hb : zB o)
    (H : ((x1 < 0 → K 0 σ) ∧ (¬ x1 < 0 → (((σ.1 o 3) ≤ x1 → K 0 σ) ∧ (¬ (σ.1 o 3) ≤ x1 → K 1 σ))))) :
    CT g l M_X0_hasColumn 0 [.ref (zad g o), .int x1] σ (zQi K X) := by
  refine CT_of rfl (by decide) (Nat.le_of_ble_eq_true rfl) ?_
  change EV _ _ _ _ _ 0 [(0, .ref (zad g o)), (1, .int x1)] [] _
  refine e_iload_n dX0_hasColumn_0 rfl 1 rfl ?_
  refine e_if_lt (tgt := 16) dX0_hasColumn_1 (by decide) (fun h1 => ?_) (fun h1 => ?_)
  · replace H := H.1 h1
    refine e_iconst (v := 0) dX0_hasColumn_16 (by decide) ?_
    exact e_zret rfl rfl dX0_hasColumn_17 H
  · replace H := H.2 h1
    refine e_iload_n dX0_hasColumn_4 rfl 1 rfl ?_
    refine e_aload_n dX0_hasColumn_5 rfl 0 rfl ?_
    refine fg_X0_49 (zB_s0 hb) (zB_l0 hb) rfl dX0_hasColumn_6 ?_
    refine e_icmp_ge (tgt := 16) dX0_hasColumn_9 (by decide) (fun h2 => ?_) (fun h2 => ?_)
    · replace H := H.1 h2
      refine e_iconst (v := 0) dX0_hasColumn_16 (by decide) ?_
      exact e_zret rfl rfl dX0_hasColumn_17 H
    · replace H := H.2 h2
      refine e_iconst (v := 1) dX0_hasColumn_12 (by decide) ?_
      refine e_goto (tgt := 17) dX0_hasColumn_13 (by decide) ?_
      exact e_zret rfl rfl dX0_hasColumn_17 H
set_option maxRecDepth 20000 in
set_option maxHeartbeats 2000000 in
theorem b_X0_hasRow {g : zG} {l : Launch} {K : Int32 → zS → Prop} {X : String → zS → Prop} {o : Nat} {x1 : Int32} {σ : zS} (hb : zB o)
    (H : ((x1 < 0 → K 0 σ) ∧ (¬ x1 < 0 → (((σ.1 o 0) ≤ x1 → K 0 σ) ∧ (¬ (σ.1 o 0) ≤ x1 → K 1 σ))))) :
    CT g l M_X0_hasRow 0 [.ref (zad g o), .int x1] σ (zQi K X) := by
  refine CT_of rfl (by decide) (Nat.le_of_ble_eq_true rfl) ?_
  change EV _ _ _ _ _ 0 [(0, .ref (zad g o)), (1, .int x1)] [] _
  refine e_iload_n dX0_hasRow_0 rfl 1 rfl ?_
  refine e_if_lt (tgt := 16) dX0_hasRow_1 (by decide) (fun h1 => ?_) (fun h1 => ?_)
  · replace H := H.1 h1
    refine e_iconst (v := 0) dX0_hasRow_16 (by decide) ?_
    exact e_zret rfl rfl dX0_hasRow_17 H
  · replace H := H.2 h1
    refine e_iload_n dX0_hasRow_4 rfl 1 rfl ?_
    refine e_aload_n dX0_hasRow_5 rfl 0 rfl ?_
    refine fg_X0_11 (zB_s0 hb) (zB_l0 hb) rfl dX0_hasRow_6 ?_
    refine e_icmp_ge (tgt := 16) dX0_hasRow_9 (by decide) (fun h2 => ?_) (fun h2 => ?_)
    · replace H := H.1 h2
      refine e_iconst (v := 0) dX0_hasRow_16 (by decide) ?_
      exact e_zret rfl rfl dX0_hasRow_17 H
    · replace H := H.2 h2
      refine e_iconst (v := 1) dX0_hasRow_12 (by decide) ?_
      refine e_goto (tgt := 17) dX0_hasRow_13 (by decide) ?_
      exact e_zret rfl rfl dX0_hasRow_17 H
set_option maxRecDepth 20000 in
set_option maxHeartbeats 2000000 in
theorem b_X0_hasCell {g : zG} {l : Launch} {K : Int32 → zS → Prop} {X : String → zS → Prop} {o : Nat} {x1 : Int32} {x2 : Int32} {σ : zS} (hb : zB o)
    (H : CT g l M_X0_hasColumn 0 [.ref (zad g o), .int x1] σ (zQi (fun v1 τ1 => ((v1 = 0 → K 0 τ1) ∧ (¬ v1 = 0 → CT g l M_X0_hasRow 0 [.ref (zad g o), .int x2] τ1 (zQi (fun v3 τ3 => ((v3 = 0 → K 0 τ3) ∧ (¬ v3 = 0 → K 1 τ3))) (fun E τ => X E τ))))) (fun E τ => X E τ))) :
    CT g l M_X0_hasCell 0 [.ref (zad g o), .int x1, .int x2] σ (zQi K X) := by
  refine CT_of rfl (by decide) (Nat.le_of_ble_eq_true rfl) ?_
  change EV _ _ _ _ _ 0 [(0, .ref (zad g o)), (1, .int x1), (2, .int x2)] [] _
  refine e_aload_n dX0_hasCell_0 rfl 0 rfl ?_
  refine e_iload_n dX0_hasCell_1 rfl 1 rfl ?_
  refine e_callVi (j1 := 0) (j2 := 0) (av := [.int x1]) rfl (zB_s0 hb) (zB_l0 hb) rfl rfl H i_X0_hasColumn rfl n_X0_hasColumn v_X0_hasColumn q_X0_73 (by decide) (by decide) (Nat.le_of_ble_eq_true rfl) dX0_hasCell_2 (fun v1 τ1 H => ?_) (fun E τ H => H)
  refine e_if_eq (tgt := 20) dX0_hasCell_5 (by decide) (fun h2 => ?_) (fun h2 => ?_)
  · replace H := H.1 h2
    refine e_iconst (v := 0) dX0_hasCell_20 (by decide) ?_
    exact e_zret rfl rfl dX0_hasCell_21 H
  · replace H := H.2 h2
    refine e_aload_n dX0_hasCell_8 rfl 0 rfl ?_
    refine e_iload_n dX0_hasCell_9 rfl 2 rfl ?_
    refine e_callVi (j1 := 0) (j2 := 0) (av := [.int x2]) rfl (zB_s0 hb) (zB_l0 hb) rfl rfl H i_X0_hasRow rfl n_X0_hasRow v_X0_hasRow q_X0_77 (by decide) (by decide) (Nat.le_of_ble_eq_true rfl) dX0_hasCell_10 (fun v3 τ3 H => ?_) (fun E τ H => H)
    refine e_if_eq (tgt := 20) dX0_hasCell_13 (by decide) (fun h4 => ?_) (fun h4 => ?_)
    · replace H := H.1 h4
      refine e_iconst (v := 0) dX0_hasCell_20 (by decide) ?_
      exact e_zret rfl rfl dX0_hasCell_21 H
    · replace H := H.2 h4
      refine e_iconst (v := 1) dX0_hasCell_16 (by decide) ?_
      refine e_goto (tgt := 21) dX0_hasCell_17 (by decide) ?_
      exact e_zret rfl rfl dX0_hasCell_21 H
set_option maxRecDepth 20000 in
set_option maxHeartbeats 2000000 in
theorem b_X0_hasFaceCell {g : zG} {l : Launch} {K : Int32 → zS → Prop} {X : String → zS → Prop} {o : Nat} {x1 : Int32} {x2 : Int32} {x3 : Int32} {σ : zS} (hb : zB o)
    (H : CT g l M_X0_hasSlat 0 [.ref (zad g o), .int x1] σ (zQi (fun v1 τ1 => ((v1 = 0 → K 0 τ1) ∧ (¬ v1 = 0 → ((x2 < 0 → K 0 τ1) ∧ (¬ x2 < 0 → (vp_in x1 10 ∧ (((τ1.1 (o + 1) (Int32.toNatClampNeg x1)) ≤ x2 → K 0 τ1) ∧ (¬ (τ1.1 (o + 1) (Int32.toNatClampNeg x1)) ≤ x2 → CT g l M_X0_hasRow 0 [.ref (zad g o), .int x3] τ1 (zQi (fun v5 τ5 => ((v5 = 0 → K 0 τ5) ∧ (¬ v5 = 0 → K 1 τ5))) (fun E τ => X E τ)))))))))) (fun E τ => X E τ))) :
    CT g l M_X0_hasFaceCell 0 [.ref (zad g o), .int x1, .int x2, .int x3] σ (zQi K X) := by
  refine CT_of rfl (by decide) (Nat.le_of_ble_eq_true rfl) ?_
  change EV _ _ _ _ _ 0 [(0, .ref (zad g o)), (1, .int x1), (2, .int x2), (3, .int x3)] [] _
  refine e_aload_n dX0_hasFaceCell_0 rfl 0 rfl ?_
  refine e_iload_n dX0_hasFaceCell_1 rfl 1 rfl ?_
  refine e_callVi (j1 := 0) (j2 := 0) (av := [.int x1]) rfl (zB_s0 hb) (zB_l0 hb) rfl rfl H i_X0_hasSlat rfl n_X0_hasSlat v_X0_hasSlat q_X0_80 (by decide) (by decide) (Nat.le_of_ble_eq_true rfl) dX0_hasFaceCell_2 (fun v1 τ1 H => ?_) (fun E τ H => H)
  refine e_if_eq (tgt := 34) dX0_hasFaceCell_5 (by decide) (fun h2 => ?_) (fun h2 => ?_)
  · replace H := H.1 h2
    refine e_iconst (v := 0) dX0_hasFaceCell_34 (by decide) ?_
    exact e_zret rfl rfl dX0_hasFaceCell_35 H
  · replace H := H.2 h2
    refine e_iload_n dX0_hasFaceCell_8 rfl 2 rfl ?_
    refine e_if_lt (tgt := 34) dX0_hasFaceCell_9 (by decide) (fun h3 => ?_) (fun h3 => ?_)
    · replace H := H.1 h3
      refine e_iconst (v := 0) dX0_hasFaceCell_34 (by decide) ?_
      exact e_zret rfl rfl dX0_hasFaceCell_35 H
    · replace H := H.2 h3
      refine e_iload_n dX0_hasFaceCell_12 rfl 2 rfl ?_
      refine e_aload_n dX0_hasFaceCell_13 rfl 0 rfl ?_
      refine fg_X0_18 (zB_s0 hb) (zB_l0 hb) rfl dX0_hasFaceCell_14 ?_
      refine e_iload_n dX0_hasFaceCell_17 rfl 1 rfl ?_
      refine e_iald (n := 10) (zB_s1 hb) (zB_l1 hb) H.1 dX0_hasFaceCell_18 ?_
      replace H := H.2
      refine e_icmp_ge (tgt := 34) dX0_hasFaceCell_19 (by decide) (fun h4 => ?_) (fun h4 => ?_)
      · replace H := H.1 h4
        refine e_iconst (v := 0) dX0_hasFaceCell_34 (by decide) ?_
        exact e_zret rfl rfl dX0_hasFaceCell_35 H
      · replace H := H.2 h4
        refine e_aload_n dX0_hasFaceCell_22 rfl 0 rfl ?_
        refine e_iload_n dX0_hasFaceCell_23 rfl 3 rfl ?_
        refine e_callVi (j1 := 0) (j2 := 0) (av := [.int x3]) rfl (zB_s0 hb) (zB_l0 hb) rfl rfl H i_X0_hasRow rfl n_X0_hasRow v_X0_hasRow q_X0_77 (by decide) (by decide) (Nat.le_of_ble_eq_true rfl) dX0_hasFaceCell_24 (fun v5 τ5 H => ?_) (fun E τ H => H)
        refine e_if_eq (tgt := 34) dX0_hasFaceCell_27 (by decide) (fun h6 => ?_) (fun h6 => ?_)
        · replace H := H.1 h6
          refine e_iconst (v := 0) dX0_hasFaceCell_34 (by decide) ?_
          exact e_zret rfl rfl dX0_hasFaceCell_35 H
        · replace H := H.2 h6
          refine e_iconst (v := 1) dX0_hasFaceCell_30 (by decide) ?_
          refine e_goto (tgt := 35) dX0_hasFaceCell_31 (by decide) ?_
          exact e_zret rfl rfl dX0_hasFaceCell_35 H
set_option maxRecDepth 20000 in
set_option maxHeartbeats 2000000 in
theorem b_X0_cells {g : zG} {l : Launch} {K : Int32 → zS → Prop} {X : String → zS → Prop} {o : Nat} {σ : zS} (hb : zB o)
    (H : K ((σ.1 o 3) * (σ.1 o 0)) σ) :
    CT g l M_X0_cells 0 [.ref (zad g o)] σ (zQi K X) := by
  refine CT_of rfl (by decide) (Nat.le_of_ble_eq_true rfl) ?_
  change EV _ _ _ _ _ 0 [(0, .ref (zad g o))] [] _
  refine e_aload_n dX0_cells_0 rfl 0 rfl ?_
  refine fg_X0_49 (zB_s0 hb) (zB_l0 hb) rfl dX0_cells_1 ?_
  refine e_aload_n dX0_cells_4 rfl 0 rfl ?_
  refine fg_X0_11 (zB_s0 hb) (zB_l0 hb) rfl dX0_cells_5 ?_
  refine e_imul dX0_cells_8 ?_
  exact e_iret rfl dX0_cells_9 H
abbrev L_X0_slatWith_2 (g : zG) (l : Launch) (K : Int32 → zS → Prop) (X : String → zS → Prop) (o : Nat) (y1 : Int32) (y2 : Int32) (σ : zS) : Prop :=
  EV g l M_X0_slatWith 0 (zQi K X) 2 [(0, .ref (zad g o)), (1, .int y1), (2, .int y2)] [] σ
set_option maxRecDepth 20000 in
set_option maxHeartbeats 2000000 in
theorem b_X0_slatWith {g : zG} {l : Launch} {K : Int32 → zS → Prop} {X : String → zS → Prop} {o : Nat} {x1 : Int32} {σ : zS} (hb : zB o)
    (H : L_X0_slatWith_2 g l K X o x1 0 σ) :
    CT g l M_X0_slatWith 0 [.ref (zad g o), .int x1] σ (zQi K X) := by
  refine CT_of rfl (by decide) (Nat.le_of_ble_eq_true rfl) ?_
  change EV _ _ _ _ _ 0 [(0, .ref (zad g o)), (1, .int x1)] [] _
  refine e_iconst (v := 0) dX0_slatWith_0 (by decide) ?_
  refine e_istore_n (ls' := [(2, .int 0), (0, .ref (zad g o)), (1, .int x1)]) dX0_slatWith_1 rfl (by decide) rfl ?_
  refine e_ls [1, 2, 0] rfl ?_
  exact H
set_option maxRecDepth 20000 in
set_option maxHeartbeats 2000000 in
theorem b_X0_slatWith_2 {g : zG} {l : Launch} {K : Int32 → zS → Prop} {X : String → zS → Prop} {o : Nat} {y1 : Int32} {y2 : Int32} {σ : zS} (hb : zB o)
    (H : ((((σ.1 o 2) - 1) ≤ y2 → K y2 σ) ∧ (¬ ((σ.1 o 2) - 1) ≤ y2 → (vp_in y2 10 ∧ (vp_in y2 10 ∧ ((y1 < ((σ.1 (o + 2) (Int32.toNatClampNeg y2)) + (σ.1 (o + 1) (Int32.toNatClampNeg y2))) → K y2 σ) ∧ (¬ y1 < ((σ.1 (o + 2) (Int32.toNatClampNeg y2)) + (σ.1 (o + 1) (Int32.toNatClampNeg y2))) → L_X0_slatWith_2 g l K X o y1 (y2 + 1) σ))))))) :
    L_X0_slatWith_2 g l K X o y1 y2 σ := by
  refine e_iload_n dX0_slatWith_2 rfl 2 rfl ?_
  refine e_aload_n dX0_slatWith_3 rfl 0 rfl ?_
  refine fg_X0_46 (zB_s0 hb) (zB_l0 hb) rfl dX0_slatWith_4 ?_
  refine e_iconst (v := 1) dX0_slatWith_7 (by decide) ?_
  refine e_isub dX0_slatWith_8 ?_
  refine e_icmp_ge (tgt := 35) dX0_slatWith_9 (by decide) (fun h1 => ?_) (fun h1 => ?_)
  · replace H := H.1 h1
    refine e_iload_n dX0_slatWith_35 rfl 2 rfl ?_
    exact e_iret rfl dX0_slatWith_36 H
  · replace H := H.2 h1
    refine e_iload_n dX0_slatWith_12 rfl 1 rfl ?_
    refine e_aload_n dX0_slatWith_13 rfl 0 rfl ?_
    refine fg_X0_22 (zB_s0 hb) (zB_l0 hb) rfl dX0_slatWith_14 ?_
    refine e_iload_n dX0_slatWith_17 rfl 2 rfl ?_
    refine e_iald (n := 10) (zB_s2 hb) (zB_l2 hb) H.1 dX0_slatWith_18 ?_
    replace H := H.2
    refine e_aload_n dX0_slatWith_19 rfl 0 rfl ?_
    refine fg_X0_18 (zB_s0 hb) (zB_l0 hb) rfl dX0_slatWith_20 ?_
    refine e_iload_n dX0_slatWith_23 rfl 2 rfl ?_
    refine e_iald (n := 10) (zB_s1 hb) (zB_l1 hb) H.1 dX0_slatWith_24 ?_
    replace H := H.2
    refine e_iadd dX0_slatWith_25 ?_
    refine e_icmp_lt (tgt := 35) dX0_slatWith_26 (by decide) (fun h2 => ?_) (fun h2 => ?_)
    · replace H := H.1 h2
      refine e_iload_n dX0_slatWith_35 rfl 2 rfl ?_
      exact e_iret rfl dX0_slatWith_36 H
    · replace H := H.2 h2
      refine e_iinc (j := 2) (v := (y2 + 1)) (ls' := [(2, .int (y2 + 1)), (0, .ref (zad g o)), (1, .int y1)]) dX0_slatWith_29 rfl rfl (by decide) rfl ?_
      refine e_goto (tgt := 2) dX0_slatWith_32 (by decide) ?_
      refine e_ls [1, 2, 0] rfl ?_
      exact H
set_option maxRecDepth 20000 in
set_option maxHeartbeats 2000000 in
theorem b_X0_isTied {g : zG} {l : Launch} {K : Int32 → zS → Prop} {X : String → zS → Prop} {o : Nat} {x1 : Int32} {σ : zS} (hb : zB o)
    (H : ((¬ ((zushr (σ.1 o 6) x1) &&& 1) = 1 → K 0 σ) ∧ (((zushr (σ.1 o 6) x1) &&& 1) = 1 → K 1 σ))) :
    CT g l M_X0_isTied 0 [.ref (zad g o), .int x1] σ (zQi K X) := by
  refine CT_of rfl (by decide) (Nat.le_of_ble_eq_true rfl) ?_
  change EV _ _ _ _ _ 0 [(0, .ref (zad g o)), (1, .int x1)] [] _
  refine e_aload_n dX0_isTied_0 rfl 0 rfl ?_
  refine fg_X0_58 (zB_s0 hb) (zB_l0 hb) rfl dX0_isTied_1 ?_
  refine e_iload_n dX0_isTied_4 rfl 1 rfl ?_
  refine e_iushr (v := (zushr (σ.1 o 6) x1)) dX0_isTied_5 rfl ?_
  refine e_iconst (v := 1) dX0_isTied_6 (by decide) ?_
  refine e_iand dX0_isTied_7 ?_
  refine e_iconst (v := 1) dX0_isTied_8 (by decide) ?_
  refine e_icmp_ne (tgt := 16) dX0_isTied_9 (by decide) (fun h1 => ?_) (fun h1 => ?_)
  · replace H := H.1 h1
    refine e_iconst (v := 0) dX0_isTied_16 (by decide) ?_
    exact e_zret rfl rfl dX0_isTied_17 H
  · replace H := H.2 h1
    refine e_iconst (v := 1) dX0_isTied_12 (by decide) ?_
    refine e_goto (tgt := 17) dX0_isTied_13 (by decide) ?_
    exact e_zret rfl rfl dX0_isTied_17 H
set_option maxRecDepth 20000 in
set_option maxHeartbeats 2000000 in
theorem b_X0_setTied {g : zG} {l : Launch} {K : zS → Prop} {X : String → zS → Prop} {o : Nat} {x1 : Int32} {x2 : Int32} {σ : zS} (hb : zB o)
    (H : ((x2 = 0 → (∀ σ2 : zS, σ2 = zup σ o 6 ((σ.1 o 6) &&& ((1 <<< (x1 &&& 31)) ^^^ (-1))) → K σ2)) ∧ (¬ x2 = 0 → (∀ σ3 : zS, σ3 = zup σ o 6 ((σ.1 o 6) ||| (1 <<< (x1 &&& 31))) → K σ3)))) :
    CT g l M_X0_setTied 0 [.ref (zad g o), .int x1, .int x2] σ (zQv K X) := by
  refine CT_of rfl (by decide) (Nat.le_of_ble_eq_true rfl) ?_
  change EV _ _ _ _ _ 0 [(0, .ref (zad g o)), (1, .int x1), (2, .int x2)] [] _
  refine e_iconst (v := 1) dX0_setTied_0 (by decide) ?_
  refine e_iload_n dX0_setTied_1 rfl 1 rfl ?_
  refine e_ishl dX0_setTied_2 ?_
  refine e_istore_n (ls' := [(3, .int (1 <<< (x1 &&& 31))), (0, .ref (zad g o)), (1, .int x1), (2, .int x2)]) dX0_setTied_3 rfl (by decide) rfl ?_
  refine e_aload_n dX0_setTied_4 rfl 1 rfl ?_
  refine e_iload_n dX0_setTied_5 rfl 3 rfl ?_
  refine e_if_eq (tgt := 18) dX0_setTied_6 (by decide) (fun h1 => ?_) (fun h1 => ?_)
  · replace H := H.1 h1
    refine e_aload_n dX0_setTied_18 rfl 1 rfl ?_
    refine fg_X0_58 (zB_s0 hb) (zB_l0 hb) rfl dX0_setTied_19 ?_
    refine e_iload_n dX0_setTied_22 rfl 0 rfl ?_
    refine e_iconst (v := (-1)) dX0_setTied_23 (by decide) ?_
    refine e_ixor dX0_setTied_24 ?_
    refine e_iand dX0_setTied_25 ?_
    refine fp_X0_58 (zB_s0 hb) (zB_l0 hb) rfl dX0_setTied_26 ?_
    replace H := H _ rfl
    generalize zup σ o 6 ((σ.1 o 6) &&& ((1 <<< (x1 &&& 31)) ^^^ (-1))) = σ2 at H ⊢
    exact e_vret rfl dX0_setTied_29 H
  · replace H := H.2 h1
    refine e_aload_n dX0_setTied_9 rfl 1 rfl ?_
    refine fg_X0_58 (zB_s0 hb) (zB_l0 hb) rfl dX0_setTied_10 ?_
    refine e_iload_n dX0_setTied_13 rfl 0 rfl ?_
    refine e_ior dX0_setTied_14 ?_
    refine e_goto (tgt := 26) dX0_setTied_15 (by decide) ?_
    refine fp_X0_58 (zB_s0 hb) (zB_l0 hb) rfl dX0_setTied_26 ?_
    replace H := H _ rfl
    generalize zup σ o 6 ((σ.1 o 6) ||| (1 <<< (x1 &&& 31))) = σ3 at H ⊢
    exact e_vret rfl dX0_setTied_29 H
set_option maxRecDepth 20000 in
set_option maxHeartbeats 2000000 in
theorem b_X0_seamBehind {g : zG} {l : Launch} {K : Int32 → zS → Prop} {X : String → zS → Prop} {o : Nat} {x1 : Int32} {σ : zS} (hb : zB o)
    (H : ((x1 < 0 → K 0 σ) ∧ (¬ x1 < 0 → ((((σ.1 o 2) - 1) ≤ x1 → K 0 σ) ∧ (¬ ((σ.1 o 2) - 1) ≤ x1 → (vp_in x1 10 ∧ (vp_in (x1 + 1) 10 ∧ K ((σ.1 (o + 3) (Int32.toNatClampNeg x1)) - (σ.1 (o + 3) (Int32.toNatClampNeg (x1 + 1)))) σ))))))) :
    CT g l M_X0_seamBehind 0 [.ref (zad g o), .int x1] σ (zQi K X) := by
  refine CT_of rfl (by decide) (Nat.le_of_ble_eq_true rfl) ?_
  change EV _ _ _ _ _ 0 [(0, .ref (zad g o)), (1, .int x1)] [] _
  refine e_iload_n dX0_seamBehind_0 rfl 1 rfl ?_
  refine e_if_lt (tgt := 32) dX0_seamBehind_1 (by decide) (fun h1 => ?_) (fun h1 => ?_)
  · replace H := H.1 h1
    refine e_iconst (v := 0) dX0_seamBehind_32 (by decide) ?_
    exact e_iret rfl dX0_seamBehind_33 H
  · replace H := H.2 h1
    refine e_iload_n dX0_seamBehind_4 rfl 1 rfl ?_
    refine e_aload_n dX0_seamBehind_5 rfl 0 rfl ?_
    refine fg_X0_46 (zB_s0 hb) (zB_l0 hb) rfl dX0_seamBehind_6 ?_
    refine e_iconst (v := 1) dX0_seamBehind_9 (by decide) ?_
    refine e_isub dX0_seamBehind_10 ?_
    refine e_icmp_ge (tgt := 32) dX0_seamBehind_11 (by decide) (fun h2 => ?_) (fun h2 => ?_)
    · replace H := H.1 h2
      refine e_iconst (v := 0) dX0_seamBehind_32 (by decide) ?_
      exact e_iret rfl dX0_seamBehind_33 H
    · replace H := H.2 h2
      refine e_aload_n dX0_seamBehind_14 rfl 0 rfl ?_
      refine fg_X0_25 (zB_s0 hb) (zB_l0 hb) rfl dX0_seamBehind_15 ?_
      refine e_iload_n dX0_seamBehind_18 rfl 1 rfl ?_
      refine e_iald (n := 10) (zB_s3 hb) (zB_l3 hb) H.1 dX0_seamBehind_19 ?_
      replace H := H.2
      refine e_aload_n dX0_seamBehind_20 rfl 0 rfl ?_
      refine fg_X0_25 (zB_s0 hb) (zB_l0 hb) rfl dX0_seamBehind_21 ?_
      refine e_iload_n dX0_seamBehind_24 rfl 1 rfl ?_
      refine e_iconst (v := 1) dX0_seamBehind_25 (by decide) ?_
      refine e_iadd dX0_seamBehind_26 ?_
      refine e_iald (n := 10) (zB_s3 hb) (zB_l3 hb) H.1 dX0_seamBehind_27 ?_
      replace H := H.2
      refine e_isub dX0_seamBehind_28 ?_
      refine e_goto (tgt := 33) dX0_seamBehind_29 (by decide) ?_
      exact e_iret rfl dX0_seamBehind_33 H
abbrev L_X0_coveringSeams_4 (g : zG) (l : Launch) (K : Int32 → zS → Prop) (X : String → zS → Prop) (o : Nat) (y1 : Int32) (y2 : Int32) (σ : zS) : Prop :=
  EV g l M_X0_coveringSeams 0 (zQi K X) 4 [(0, .ref (zad g o)), (1, .int y1), (2, .int y2)] [] σ
set_option maxRecDepth 20000 in
set_option maxHeartbeats 2000000 in
theorem b_X0_coveringSeams {g : zG} {l : Launch} {K : Int32 → zS → Prop} {X : String → zS → Prop} {o : Nat} {σ : zS} (hb : zB o)
    (H : L_X0_coveringSeams_4 g l K X o 0 0 σ) :
    CT g l M_X0_coveringSeams 0 [.ref (zad g o)] σ (zQi K X) := by
  refine CT_of rfl (by decide) (Nat.le_of_ble_eq_true rfl) ?_
  change EV _ _ _ _ _ 0 [(0, .ref (zad g o))] [] _
  refine e_iconst (v := 0) dX0_coveringSeams_0 (by decide) ?_
  refine e_istore_n (ls' := [(1, .int 0), (0, .ref (zad g o))]) dX0_coveringSeams_1 rfl (by decide) rfl ?_
  refine e_iconst (v := 0) dX0_coveringSeams_2 (by decide) ?_
  refine e_istore_n (ls' := [(2, .int 0), (1, .int 0), (0, .ref (zad g o))]) dX0_coveringSeams_3 rfl (by decide) rfl ?_
  refine e_ls [2, 1, 0] rfl ?_
  exact H
set_option maxRecDepth 20000 in
set_option maxHeartbeats 2000000 in
theorem b_X0_coveringSeams_4 {g : zG} {l : Launch} {K : Int32 → zS → Prop} {X : String → zS → Prop} {o : Nat} {y1 : Int32} {y2 : Int32} {σ : zS} (hb : zB o)
    (H : (((σ.1 o 2) ≤ y2 → K y1 σ) ∧ (¬ (σ.1 o 2) ≤ y2 → CT g l M_X0_seamBehind 0 [.ref (zad g o), .int y2] σ (zQi (fun v2 τ2 => ((v2 ≤ 0 → L_X0_coveringSeams_4 g l K X o (y1 + 0) (y2 + 1) τ2) ∧ (¬ v2 ≤ 0 → L_X0_coveringSeams_4 g l K X o (y1 + 1) (y2 + 1) τ2))) (fun E τ => X E τ))))) :
    L_X0_coveringSeams_4 g l K X o y1 y2 σ := by
  refine e_iload_n dX0_coveringSeams_4 rfl 2 rfl ?_
  refine e_aload_n dX0_coveringSeams_5 rfl 0 rfl ?_
  refine fg_X0_46 (zB_s0 hb) (zB_l0 hb) rfl dX0_coveringSeams_6 ?_
  refine e_icmp_ge (tgt := 34) dX0_coveringSeams_9 (by decide) (fun h1 => ?_) (fun h1 => ?_)
  · replace H := H.1 h1
    refine e_iload_n dX0_coveringSeams_34 rfl 1 rfl ?_
    exact e_iret rfl dX0_coveringSeams_35 H
  · replace H := H.2 h1
    refine e_iload_n dX0_coveringSeams_12 rfl 1 rfl ?_
    refine e_aload_n dX0_coveringSeams_13 rfl 0 rfl ?_
    refine e_iload_n dX0_coveringSeams_14 rfl 2 rfl ?_
    refine e_callVi (j1 := 0) (j2 := 0) (av := [.int y2]) rfl (zB_s0 hb) (zB_l0 hb) rfl rfl H i_X0_seamBehind rfl n_X0_seamBehind v_X0_seamBehind q_X0_83 (by decide) (by decide) (Nat.le_of_ble_eq_true rfl) dX0_coveringSeams_15 (fun v2 τ2 H => ?_) (fun E τ H => H)
    refine e_if_le (tgt := 25) dX0_coveringSeams_18 (by decide) (fun h3 => ?_) (fun h3 => ?_)
    · replace H := H.1 h3
      refine e_iconst (v := 0) dX0_coveringSeams_25 (by decide) ?_
      refine e_iadd dX0_coveringSeams_26 ?_
      refine e_istore_n (ls' := [(1, .int (y1 + 0)), (0, .ref (zad g o)), (2, .int y2)]) dX0_coveringSeams_27 rfl (by decide) rfl ?_
      refine e_iinc (j := 2) (v := (y2 + 1)) (ls' := [(2, .int (y2 + 1)), (1, .int (y1 + 0)), (0, .ref (zad g o))]) dX0_coveringSeams_28 rfl rfl (by decide) rfl ?_
      refine e_goto (tgt := 4) dX0_coveringSeams_31 (by decide) ?_
      refine e_ls [2, 1, 0] rfl ?_
      exact H
    · replace H := H.2 h3
      refine e_iconst (v := 1) dX0_coveringSeams_21 (by decide) ?_
      refine e_goto (tgt := 26) dX0_coveringSeams_22 (by decide) ?_
      refine e_iadd dX0_coveringSeams_26 ?_
      refine e_istore_n (ls' := [(1, .int (y1 + 1)), (0, .ref (zad g o)), (2, .int y2)]) dX0_coveringSeams_27 rfl (by decide) rfl ?_
      refine e_iinc (j := 2) (v := (y2 + 1)) (ls' := [(2, .int (y2 + 1)), (1, .int (y1 + 1)), (0, .ref (zad g o))]) dX0_coveringSeams_28 rfl rfl (by decide) rfl ?_
      refine e_goto (tgt := 4) dX0_coveringSeams_31 (by decide) ?_
      refine e_ls [2, 1, 0] rfl ?_
      exact H
abbrev L_X0_openingSeams_4 (g : zG) (l : Launch) (K : Int32 → zS → Prop) (X : String → zS → Prop) (o : Nat) (y1 : Int32) (y2 : Int32) (σ : zS) : Prop :=
  EV g l M_X0_openingSeams 0 (zQi K X) 4 [(0, .ref (zad g o)), (1, .int y1), (2, .int y2)] [] σ
set_option maxRecDepth 20000 in
set_option maxHeartbeats 2000000 in
theorem b_X0_openingSeams {g : zG} {l : Launch} {K : Int32 → zS → Prop} {X : String → zS → Prop} {o : Nat} {σ : zS} (hb : zB o)
    (H : L_X0_openingSeams_4 g l K X o 0 0 σ) :
    CT g l M_X0_openingSeams 0 [.ref (zad g o)] σ (zQi K X) := by
  refine CT_of rfl (by decide) (Nat.le_of_ble_eq_true rfl) ?_
  change EV _ _ _ _ _ 0 [(0, .ref (zad g o))] [] _
  refine e_iconst (v := 0) dX0_openingSeams_0 (by decide) ?_
  refine e_istore_n (ls' := [(1, .int 0), (0, .ref (zad g o))]) dX0_openingSeams_1 rfl (by decide) rfl ?_
  refine e_iconst (v := 0) dX0_openingSeams_2 (by decide) ?_
  refine e_istore_n (ls' := [(2, .int 0), (1, .int 0), (0, .ref (zad g o))]) dX0_openingSeams_3 rfl (by decide) rfl ?_
  refine e_ls [2, 1, 0] rfl ?_
  exact H
set_option maxRecDepth 20000 in
set_option maxHeartbeats 2000000 in
theorem b_X0_openingSeams_4 {g : zG} {l : Launch} {K : Int32 → zS → Prop} {X : String → zS → Prop} {o : Nat} {y1 : Int32} {y2 : Int32} {σ : zS} (hb : zB o)
    (H : (((σ.1 o 2) ≤ y2 → K y1 σ) ∧ (¬ (σ.1 o 2) ≤ y2 → CT g l M_X0_seamBehind 0 [.ref (zad g o), .int y2] σ (zQi (fun v2 τ2 => ((0 ≤ v2 → L_X0_openingSeams_4 g l K X o (y1 + 0) (y2 + 1) τ2) ∧ (¬ 0 ≤ v2 → L_X0_openingSeams_4 g l K X o (y1 + 1) (y2 + 1) τ2))) (fun E τ => X E τ))))) :
    L_X0_openingSeams_4 g l K X o y1 y2 σ := by
  refine e_iload_n dX0_openingSeams_4 rfl 2 rfl ?_
  refine e_aload_n dX0_openingSeams_5 rfl 0 rfl ?_
  refine fg_X0_46 (zB_s0 hb) (zB_l0 hb) rfl dX0_openingSeams_6 ?_
  refine e_icmp_ge (tgt := 34) dX0_openingSeams_9 (by decide) (fun h1 => ?_) (fun h1 => ?_)
  · replace H := H.1 h1
    refine e_iload_n dX0_openingSeams_34 rfl 1 rfl ?_
    exact e_iret rfl dX0_openingSeams_35 H
  · replace H := H.2 h1
    refine e_iload_n dX0_openingSeams_12 rfl 1 rfl ?_
    refine e_aload_n dX0_openingSeams_13 rfl 0 rfl ?_
    refine e_iload_n dX0_openingSeams_14 rfl 2 rfl ?_
    refine e_callVi (j1 := 0) (j2 := 0) (av := [.int y2]) rfl (zB_s0 hb) (zB_l0 hb) rfl rfl H i_X0_seamBehind rfl n_X0_seamBehind v_X0_seamBehind q_X0_83 (by decide) (by decide) (Nat.le_of_ble_eq_true rfl) dX0_openingSeams_15 (fun v2 τ2 H => ?_) (fun E τ H => H)
    refine e_if_ge (tgt := 25) dX0_openingSeams_18 (by decide) (fun h3 => ?_) (fun h3 => ?_)
    · replace H := H.1 h3
      refine e_iconst (v := 0) dX0_openingSeams_25 (by decide) ?_
      refine e_iadd dX0_openingSeams_26 ?_
      refine e_istore_n (ls' := [(1, .int (y1 + 0)), (0, .ref (zad g o)), (2, .int y2)]) dX0_openingSeams_27 rfl (by decide) rfl ?_
      refine e_iinc (j := 2) (v := (y2 + 1)) (ls' := [(2, .int (y2 + 1)), (1, .int (y1 + 0)), (0, .ref (zad g o))]) dX0_openingSeams_28 rfl rfl (by decide) rfl ?_
      refine e_goto (tgt := 4) dX0_openingSeams_31 (by decide) ?_
      refine e_ls [2, 1, 0] rfl ?_
      exact H
    · replace H := H.2 h3
      refine e_iconst (v := 1) dX0_openingSeams_21 (by decide) ?_
      refine e_goto (tgt := 26) dX0_openingSeams_22 (by decide) ?_
      refine e_iadd dX0_openingSeams_26 ?_
      refine e_istore_n (ls' := [(1, .int (y1 + 1)), (0, .ref (zad g o)), (2, .int y2)]) dX0_openingSeams_27 rfl (by decide) rfl ?_
      refine e_iinc (j := 2) (v := (y2 + 1)) (ls' := [(2, .int (y2 + 1)), (1, .int (y1 + 1)), (0, .ref (zad g o))]) dX0_openingSeams_28 rfl rfl (by decide) rfl ?_
      refine e_goto (tgt := 4) dX0_openingSeams_31 (by decide) ?_
      refine e_ls [2, 1, 0] rfl ?_
      exact H
abbrev L_X0_unlikePicture_24 (g : zG) (l : Launch) (K : Int32 → zS → Prop) (X : String → zS → Prop) (o : Nat) (y1 : Int32) (y3 : Nat) (y4 : Nat) (y5 : Int32) (y6 : Int32) (σ : zS) : Prop :=
  EV g l M_X0_unlikePicture 0 (zQi K X) 24 [(0, .ref (zad g o)), (1, .int y1), (3, .ref (zad g y3)), (4, .ref (zad g y4)), (5, .int y5), (6, .int y6)] [] σ
set_option maxRecDepth 20000 in
set_option maxHeartbeats 2000000 in
theorem b_X0_unlikePicture {g : zG} {l : Launch} {K : Int32 → zS → Prop} {X : String → zS → Prop} {o : Nat} {x1 : Int32} {x2 : Int32} {σ : zS} (hb : zB o)
    (H : CT g l M_X0_pictureOf 0 [.ref (zad g o), .int x2] σ (zQr g (fun v1 τ1 => zsh v1 = .inr (0, 60) ∧ v1 < 163 ∧ CT g l M_X0_faceOf 0 [.ref (zad g o), .int x2] τ1 (zQr g (fun v2 τ2 => zsh v2 = .inr (0, 60) ∧ v2 < 163 ∧ (vp_in x1 10 ∧ L_X0_unlikePicture_24 g l K X o x1 v1 v2 0 (τ2.1 (o + 2) (Int32.toNatClampNeg x1)) τ2)) (fun E τ => X E τ))) (fun E τ => X E τ))) :
    CT g l M_X0_unlikePicture 0 [.ref (zad g o), .int x1, .int x2] σ (zQi K X) := by
  refine CT_of rfl (by decide) (Nat.le_of_ble_eq_true rfl) ?_
  change EV _ _ _ _ _ 0 [(0, .ref (zad g o)), (1, .int x1), (2, .int x2)] [] _
  refine e_aload_n dX0_unlikePicture_0 rfl 0 rfl ?_
  refine e_iload_n dX0_unlikePicture_1 rfl 2 rfl ?_
  refine e_callVr (j1 := 0) (j2 := 0) (av := [.int x2]) rfl (zB_s0 hb) (zB_l0 hb) rfl rfl H i_X0_pictureOf rfl n_X0_pictureOf v_X0_pictureOf q_X0_87 (by decide) (by decide) (Nat.le_of_ble_eq_true rfl) dX0_unlikePicture_2 (fun v1 τ1 H => ?_) (fun E τ H => H)
  have hsv1 := H.1
  have hlv1 := H.2.1
  replace H := H.2.2
  refine e_astore_n (ls' := [(3, .ref (zad g v1)), (0, .ref (zad g o)), (1, .int x1), (2, .int x2)]) dX0_unlikePicture_5 rfl (by decide) rfl ?_
  refine e_aload_n dX0_unlikePicture_6 rfl 1 rfl ?_
  refine e_iload_n dX0_unlikePicture_7 rfl 3 rfl ?_
  refine e_callVr (j1 := 0) (j2 := 0) (av := [.int x2]) rfl (zB_s0 hb) (zB_l0 hb) rfl rfl H i_X0_faceOf rfl n_X0_faceOf v_X0_faceOf q_X0_91 (by decide) (by decide) (Nat.le_of_ble_eq_true rfl) dX0_unlikePicture_8 (fun v2 τ2 H => ?_) (fun E τ H => H)
  have hsv2 := H.1
  have hlv2 := H.2.1
  replace H := H.2.2
  refine e_astore (ls' := [(4, .ref (zad g v2)), (3, .ref (zad g v1)), (0, .ref (zad g o)), (1, .int x1), (2, .int x2)]) dX0_unlikePicture_11 (by decide) rfl ?_
  refine e_iconst (v := 0) dX0_unlikePicture_13 (by decide) ?_
  refine e_istore (ls' := [(5, .int 0), (4, .ref (zad g v2)), (3, .ref (zad g v1)), (0, .ref (zad g o)), (1, .int x1), (2, .int x2)]) dX0_unlikePicture_14 (by decide) rfl ?_
  refine e_aload_n dX0_unlikePicture_16 rfl 3 rfl ?_
  refine fg_X0_22 (zB_s0 hb) (zB_l0 hb) rfl dX0_unlikePicture_17 ?_
  refine e_iload_n dX0_unlikePicture_20 rfl 4 rfl ?_
  refine e_iald (n := 10) (zB_s2 hb) (zB_l2 hb) H.1 dX0_unlikePicture_21 ?_
  replace H := H.2
  refine e_istore (ls' := [(6, .int (τ2.1 (o + 2) (Int32.toNatClampNeg x1))), (5, .int 0), (4, .ref (zad g v2)), (3, .ref (zad g v1)), (0, .ref (zad g o)), (1, .int x1), (2, .int x2)]) dX0_unlikePicture_22 (by decide) rfl ?_
  refine e_ls [4, 5, 3, 2, 1, 0] rfl ?_
  exact H
set_option maxRecDepth 20000 in
set_option maxHeartbeats 2000000 in
theorem b_X0_unlikePicture_24 {g : zG} {l : Launch} {K : Int32 → zS → Prop} {X : String → zS → Prop} {o : Nat} {y1 : Int32} {y3 : Nat} {y4 : Nat} {y5 : Int32} {y6 : Int32} {σ : zS} (hb : zB o) (hy3 : zsh y3 = .inr (0, 60)) (ly3 : y3 < 163) (hy4 : zsh y4 = .inr (0, 60)) (ly4 : y4 < 163)
    (H : (vp_in y1 10 ∧ (vp_in y1 10 ∧ ((((σ.1 (o + 2) (Int32.toNatClampNeg y1)) + (σ.1 (o + 1) (Int32.toNatClampNeg y1))) ≤ y6 → K y5 σ) ∧ (¬ ((σ.1 (o + 2) (Int32.toNatClampNeg y1)) + (σ.1 (o + 1) (Int32.toNatClampNeg y1))) ≤ y6 → (vp_in y6 60 ∧ (vp_in y6 60 ∧ CT g l M_X6_unlikeRows 0 [.int (σ.1 y4 (Int32.toNatClampNeg y6)), .int (σ.1 y3 (Int32.toNatClampNeg y6))] σ (zQi (fun v2 τ2 => L_X0_unlikePicture_24 g l K X o y1 y3 y4 (y5 + v2) (y6 + 1) τ2) (fun E τ => X E τ))))))))) :
    L_X0_unlikePicture_24 g l K X o y1 y3 y4 y5 y6 σ := by
  refine e_iload dX0_unlikePicture_24 5 rfl ?_
  refine e_aload_n dX0_unlikePicture_26 rfl 0 rfl ?_
  refine fg_X0_22 (zB_s0 hb) (zB_l0 hb) rfl dX0_unlikePicture_27 ?_
  refine e_iload_n dX0_unlikePicture_30 rfl 1 rfl ?_
  refine e_iald (n := 10) (zB_s2 hb) (zB_l2 hb) H.1 dX0_unlikePicture_31 ?_
  replace H := H.2
  refine e_aload_n dX0_unlikePicture_32 rfl 0 rfl ?_
  refine fg_X0_18 (zB_s0 hb) (zB_l0 hb) rfl dX0_unlikePicture_33 ?_
  refine e_iload_n dX0_unlikePicture_36 rfl 1 rfl ?_
  refine e_iald (n := 10) (zB_s1 hb) (zB_l1 hb) H.1 dX0_unlikePicture_37 ?_
  replace H := H.2
  refine e_iadd dX0_unlikePicture_38 ?_
  refine e_icmp_ge (tgt := 65) dX0_unlikePicture_39 (by decide) (fun h1 => ?_) (fun h1 => ?_)
  · replace H := H.1 h1
    refine e_iload dX0_unlikePicture_65 4 rfl ?_
    exact e_iret rfl dX0_unlikePicture_67 H
  · replace H := H.2 h1
    refine e_iload dX0_unlikePicture_42 4 rfl ?_
    refine e_aload dX0_unlikePicture_44 3 rfl ?_
    refine e_iload dX0_unlikePicture_46 5 rfl ?_
    refine e_iald (n := 60) hy4 ly4 H.1 dX0_unlikePicture_48 ?_
    replace H := H.2
    refine e_aload_n dX0_unlikePicture_49 rfl 2 rfl ?_
    refine e_iload dX0_unlikePicture_50 5 rfl ?_
    refine e_iald (n := 60) hy3 ly3 H.1 dX0_unlikePicture_52 ?_
    replace H := H.2
    refine e_callSNi (j1 := 0) (j2 := 0) (av := [.int (σ.1 y4 (Int32.toNatClampNeg y6)), .int (σ.1 y3 (Int32.toNatClampNeg y6))]) rfl H i_X6_unlikeRows rfl s_X6_unlikeRows nl_X0_94 (by decide) (by decide) (Nat.le_of_ble_eq_true rfl) dX0_unlikePicture_53 (fun v2 τ2 H => ?_) (fun E τ H => H)
    refine e_iadd dX0_unlikePicture_56 ?_
    refine e_istore (ls' := [(5, .int (y5 + v2)), (0, .ref (zad g o)), (1, .int y1), (3, .ref (zad g y3)), (4, .ref (zad g y4)), (6, .int y6)]) dX0_unlikePicture_57 (by decide) rfl ?_
    refine e_iinc (j := 5) (v := (y6 + 1)) (ls' := [(6, .int (y6 + 1)), (5, .int (y5 + v2)), (0, .ref (zad g o)), (1, .int y1), (3, .ref (zad g y3)), (4, .ref (zad g y4))]) dX0_unlikePicture_59 rfl rfl (by decide) rfl ?_
    refine e_goto (tgt := 24) dX0_unlikePicture_62 (by decide) ?_
    refine e_ls [2, 3, 4, 5, 1, 0] rfl ?_
    exact H
set_option maxRecDepth 20000 in
set_option maxHeartbeats 2000000 in
theorem b_X0_bearsCoat {g : zG} {l : Launch} {K : Int32 → zS → Prop} {X : String → zS → Prop} {o : Nat} {x1 : Int32} {x2 : Int32} {σ : zS} (hb : zB o)
    (H : CT g l M_X0_coatsOf 0 [.ref (zad g o), .int x2] σ (zQr g (fun v1 τ1 => zsh v1 = .inr (0, 10) ∧ v1 < 163 ∧ (vp_in x1 10 ∧ (((τ1.1 o 1) ≤ (τ1.1 v1 (Int32.toNatClampNeg x1)) → K 0 τ1) ∧ (¬ (τ1.1 o 1) ≤ (τ1.1 v1 (Int32.toNatClampNeg x1)) → K 1 τ1)))) (fun E τ => X E τ))) :
    CT g l M_X0_bearsCoat 0 [.ref (zad g o), .int x1, .int x2] σ (zQi K X) := by
  refine CT_of rfl (by decide) (Nat.le_of_ble_eq_true rfl) ?_
  change EV _ _ _ _ _ 0 [(0, .ref (zad g o)), (1, .int x1), (2, .int x2)] [] _
  refine e_aload_n dX0_bearsCoat_0 rfl 0 rfl ?_
  refine e_iload_n dX0_bearsCoat_1 rfl 2 rfl ?_
  refine e_callVr (j1 := 0) (j2 := 0) (av := [.int x2]) rfl (zB_s0 hb) (zB_l0 hb) rfl rfl H i_X0_coatsOf rfl n_X0_coatsOf v_X0_coatsOf q_X0_98 (by decide) (by decide) (Nat.le_of_ble_eq_true rfl) dX0_bearsCoat_2 (fun v1 τ1 H => ?_) (fun E τ H => H)
  have hsv1 := H.1
  have hlv1 := H.2.1
  replace H := H.2.2
  refine e_iload_n dX0_bearsCoat_5 rfl 1 rfl ?_
  refine e_iald (n := 10) hsv1 hlv1 H.1 dX0_bearsCoat_6 ?_
  replace H := H.2
  refine e_aload_n dX0_bearsCoat_7 rfl 0 rfl ?_
  refine fg_X0_15 (zB_s0 hb) (zB_l0 hb) rfl dX0_bearsCoat_8 ?_
  refine e_icmp_ge (tgt := 18) dX0_bearsCoat_11 (by decide) (fun h2 => ?_) (fun h2 => ?_)
  · replace H := H.1 h2
    refine e_iconst (v := 0) dX0_bearsCoat_18 (by decide) ?_
    exact e_zret rfl rfl dX0_bearsCoat_19 H
  · replace H := H.2 h2
    refine e_iconst (v := 1) dX0_bearsCoat_14 (by decide) ?_
    refine e_goto (tgt := 19) dX0_bearsCoat_15 (by decide) ?_
    exact e_zret rfl rfl dX0_bearsCoat_19 H
set_option maxRecDepth 20000 in
set_option maxHeartbeats 2000000 in
theorem b_X0_turnAfterPull {g : zG} {l : Launch} {K : Int32 → zS → Prop} {X : String → zS → Prop} {o : Nat} {x1 : Int32} {x2 : Int32} {σ : zS} (hb : zB o)
    (H : CT g l M_X0_isTied 0 [.ref (zad g o), .int x1] σ (zQi (fun v1 τ1 => ((v1 = 0 → (vp_in x1 10 ∧ K (zmax (-4) (zmin 4 ((τ1.1 (o + 3) (Int32.toNatClampNeg x1)) + x2))) τ1)) ∧ (¬ v1 = 0 → (vp_in x1 10 ∧ K (τ1.1 (o + 3) (Int32.toNatClampNeg x1)) τ1)))) (fun E τ => X E τ))) :
    CT g l M_X0_turnAfterPull 0 [.ref (zad g o), .int x1, .int x2] σ (zQi K X) := by
  refine CT_of rfl (by decide) (Nat.le_of_ble_eq_true rfl) ?_
  change EV _ _ _ _ _ 0 [(0, .ref (zad g o)), (1, .int x1), (2, .int x2)] [] _
  refine e_aload_n dX0_turnAfterPull_0 rfl 0 rfl ?_
  refine e_iload_n dX0_turnAfterPull_1 rfl 1 rfl ?_
  refine e_callVi (j1 := 0) (j2 := 0) (av := [.int x1]) rfl (zB_s0 hb) (zB_l0 hb) rfl rfl H i_X0_isTied rfl n_X0_isTied v_X0_isTied q_X0_101 (by decide) (by decide) (Nat.le_of_ble_eq_true rfl) dX0_turnAfterPull_2 (fun v1 τ1 H => ?_) (fun E τ H => H)
  refine e_if_eq (tgt := 15) dX0_turnAfterPull_5 (by decide) (fun h2 => ?_) (fun h2 => ?_)
  · replace H := H.1 h2
    refine e_bipush (v := (-4)) dX0_turnAfterPull_15 (by decide) ?_
    refine e_iconst (v := 4) dX0_turnAfterPull_17 (by decide) ?_
    refine e_aload_n dX0_turnAfterPull_18 rfl 0 rfl ?_
    refine fg_X0_25 (zB_s0 hb) (zB_l0 hb) rfl dX0_turnAfterPull_19 ?_
    refine e_iload_n dX0_turnAfterPull_22 rfl 1 rfl ?_
    refine e_iald (n := 10) (zB_s3 hb) (zB_l3 hb) H.1 dX0_turnAfterPull_23 ?_
    replace H := H.2
    refine e_iload_n dX0_turnAfterPull_24 rfl 2 rfl ?_
    refine e_iadd dX0_turnAfterPull_25 ?_
    refine e_mmin qm_X0_104 ms_min mi_math mc_min (by decide) (Nat.le_of_ble_eq_true rfl) dX0_turnAfterPull_26 ?_
    change EV _ _ _ _ _ _ _ (.int (zmin 4 ((τ1.1 (o + 3) (Int32.toNatClampNeg x1)) + x2)) :: _) _
    refine e_mmax qm_X0_109 ms_max mi_math mc_max (by decide) (Nat.le_of_ble_eq_true rfl) dX0_turnAfterPull_29 ?_
    change EV _ _ _ _ _ _ _ (.int (zmax (-4) (zmin 4 ((τ1.1 (o + 3) (Int32.toNatClampNeg x1)) + x2))) :: _) _
    exact e_iret rfl dX0_turnAfterPull_32 H
  · replace H := H.2 h2
    refine e_aload_n dX0_turnAfterPull_8 rfl 0 rfl ?_
    refine fg_X0_25 (zB_s0 hb) (zB_l0 hb) rfl dX0_turnAfterPull_9 ?_
    refine e_iload_n dX0_turnAfterPull_12 rfl 1 rfl ?_
    refine e_iald (n := 10) (zB_s3 hb) (zB_l3 hb) H.1 dX0_turnAfterPull_13 ?_
    replace H := H.2
    exact e_iret rfl dX0_turnAfterPull_14 H
abbrev L_X0_turnsTo_4 (g : zG) (l : Launch) (K : Int32 → zS → Prop) (X : String → zS → Prop) (o : Nat) (y1 : Int32) (y2 : Int32) (y3 : Int32) (σ : zS) : Prop :=
  EV g l M_X0_turnsTo 0 (zQi K X) 4 [(0, .ref (zad g o)), (1, .int y1), (2, .int y2), (3, .int y3)] [] σ
set_option maxRecDepth 20000 in
set_option maxHeartbeats 2000000 in
theorem b_X0_turnsTo {g : zG} {l : Launch} {K : Int32 → zS → Prop} {X : String → zS → Prop} {o : Nat} {x1 : Int32} {σ : zS} (hb : zB o)
    (H : L_X0_turnsTo_4 g l K X o x1 0 0 σ) :
    CT g l M_X0_turnsTo 0 [.ref (zad g o), .int x1] σ (zQi K X) := by
  refine CT_of rfl (by decide) (Nat.le_of_ble_eq_true rfl) ?_
  change EV _ _ _ _ _ 0 [(0, .ref (zad g o)), (1, .int x1)] [] _
  refine e_iconst (v := 0) dX0_turnsTo_0 (by decide) ?_
  refine e_istore_n (ls' := [(2, .int 0), (0, .ref (zad g o)), (1, .int x1)]) dX0_turnsTo_1 rfl (by decide) rfl ?_
  refine e_iconst (v := 0) dX0_turnsTo_2 (by decide) ?_
  refine e_istore_n (ls' := [(3, .int 0), (2, .int 0), (0, .ref (zad g o)), (1, .int x1)]) dX0_turnsTo_3 rfl (by decide) rfl ?_
  refine e_ls [2, 3, 1, 0] rfl ?_
  exact H
set_option maxRecDepth 20000 in
set_option maxHeartbeats 2000000 in
theorem b_X0_turnsTo_4 {g : zG} {l : Launch} {K : Int32 → zS → Prop} {X : String → zS → Prop} {o : Nat} {y1 : Int32} {y2 : Int32} {y3 : Int32} {σ : zS} (hb : zB o)
    (H : (((σ.1 o 2) ≤ y3 → K y2 σ) ∧ (¬ (σ.1 o 2) ≤ y3 → (vp_in y3 10 ∧ (((σ.1 (o + 3) (Int32.toNatClampNeg y3)) = y1 → (vp_in y3 10 ∧ (((σ.1 (o + 3) (Int32.toNatClampNeg y3)) = y1 → L_X0_turnsTo_4 g l K X o y1 (y2 + 0) (y3 + 1) σ) ∧ (¬ (σ.1 (o + 3) (Int32.toNatClampNeg y3)) = y1 → L_X0_turnsTo_4 g l K X o y1 (y2 + 1) (y3 + 1) σ)))) ∧ (¬ (σ.1 (o + 3) (Int32.toNatClampNeg y3)) = y1 → CT g l M_X0_isTied 0 [.ref (zad g o), .int y3] σ (zQi (fun v4 τ4 => ((v4 = 0 → (vp_in y3 10 ∧ (((τ4.1 (o + 3) (Int32.toNatClampNeg y3)) = y1 → L_X0_turnsTo_4 g l K X o y1 (y2 + 0) (y3 + 1) τ4) ∧ (¬ (τ4.1 (o + 3) (Int32.toNatClampNeg y3)) = y1 → L_X0_turnsTo_4 g l K X o y1 (y2 + 1) (y3 + 1) τ4)))) ∧ (¬ v4 = 0 → K (-1) τ4))) (fun E τ => X E τ)))))))) :
    L_X0_turnsTo_4 g l K X o y1 y2 y3 σ := by
  refine e_iload_n dX0_turnsTo_4 rfl 3 rfl ?_
  refine e_aload_n dX0_turnsTo_5 rfl 0 rfl ?_
  refine fg_X0_46 (zB_s0 hb) (zB_l0 hb) rfl dX0_turnsTo_6 ?_
  refine e_icmp_ge (tgt := 56) dX0_turnsTo_9 (by decide) (fun h1 => ?_) (fun h1 => ?_)
  · replace H := H.1 h1
    refine e_iload_n dX0_turnsTo_56 rfl 2 rfl ?_
    exact e_iret rfl dX0_turnsTo_57 H
  · replace H := H.2 h1
    refine e_aload_n dX0_turnsTo_12 rfl 0 rfl ?_
    refine fg_X0_25 (zB_s0 hb) (zB_l0 hb) rfl dX0_turnsTo_13 ?_
    refine e_iload_n dX0_turnsTo_16 rfl 3 rfl ?_
    refine e_iald (n := 10) (zB_s3 hb) (zB_l3 hb) H.1 dX0_turnsTo_17 ?_
    replace H := H.2
    refine e_iload_n dX0_turnsTo_18 rfl 1 rfl ?_
    refine e_icmp_eq (tgt := 32) dX0_turnsTo_19 (by decide) (fun h2 => ?_) (fun h2 => ?_)
    · replace H := H.1 h2
      refine e_iload_n dX0_turnsTo_32 rfl 2 rfl ?_
      refine e_aload_n dX0_turnsTo_33 rfl 0 rfl ?_
      refine fg_X0_25 (zB_s0 hb) (zB_l0 hb) rfl dX0_turnsTo_34 ?_
      refine e_iload_n dX0_turnsTo_37 rfl 3 rfl ?_
      refine e_iald (n := 10) (zB_s3 hb) (zB_l3 hb) H.1 dX0_turnsTo_38 ?_
      replace H := H.2
      refine e_iload_n dX0_turnsTo_39 rfl 1 rfl ?_
      refine e_icmp_eq (tgt := 47) dX0_turnsTo_40 (by decide) (fun h3 => ?_) (fun h3 => ?_)
      · replace H := H.1 h3
        refine e_iconst (v := 0) dX0_turnsTo_47 (by decide) ?_
        refine e_iadd dX0_turnsTo_48 ?_
        refine e_istore_n (ls' := [(2, .int (y2 + 0)), (0, .ref (zad g o)), (1, .int y1), (3, .int y3)]) dX0_turnsTo_49 rfl (by decide) rfl ?_
        refine e_iinc (j := 3) (v := (y3 + 1)) (ls' := [(3, .int (y3 + 1)), (2, .int (y2 + 0)), (0, .ref (zad g o)), (1, .int y1)]) dX0_turnsTo_50 rfl rfl (by decide) rfl ?_
        refine e_goto (tgt := 4) dX0_turnsTo_53 (by decide) ?_
        refine e_ls [2, 3, 1, 0] rfl ?_
        exact H
      · replace H := H.2 h3
        refine e_iconst (v := 1) dX0_turnsTo_43 (by decide) ?_
        refine e_goto (tgt := 48) dX0_turnsTo_44 (by decide) ?_
        refine e_iadd dX0_turnsTo_48 ?_
        refine e_istore_n (ls' := [(2, .int (y2 + 1)), (0, .ref (zad g o)), (1, .int y1), (3, .int y3)]) dX0_turnsTo_49 rfl (by decide) rfl ?_
        refine e_iinc (j := 3) (v := (y3 + 1)) (ls' := [(3, .int (y3 + 1)), (2, .int (y2 + 1)), (0, .ref (zad g o)), (1, .int y1)]) dX0_turnsTo_50 rfl rfl (by decide) rfl ?_
        refine e_goto (tgt := 4) dX0_turnsTo_53 (by decide) ?_
        refine e_ls [2, 3, 1, 0] rfl ?_
        exact H
    · replace H := H.2 h2
      refine e_aload_n dX0_turnsTo_22 rfl 0 rfl ?_
      refine e_iload_n dX0_turnsTo_23 rfl 3 rfl ?_
      refine e_callVi (j1 := 0) (j2 := 0) (av := [.int y3]) rfl (zB_s0 hb) (zB_l0 hb) rfl rfl H i_X0_isTied rfl n_X0_isTied v_X0_isTied q_X0_101 (by decide) (by decide) (Nat.le_of_ble_eq_true rfl) dX0_turnsTo_24 (fun v4 τ4 H => ?_) (fun E τ H => H)
      refine e_if_eq (tgt := 32) dX0_turnsTo_27 (by decide) (fun h5 => ?_) (fun h5 => ?_)
      · replace H := H.1 h5
        refine e_iload_n dX0_turnsTo_32 rfl 2 rfl ?_
        refine e_aload_n dX0_turnsTo_33 rfl 0 rfl ?_
        refine fg_X0_25 (zB_s0 hb) (zB_l0 hb) rfl dX0_turnsTo_34 ?_
        refine e_iload_n dX0_turnsTo_37 rfl 3 rfl ?_
        refine e_iald (n := 10) (zB_s3 hb) (zB_l3 hb) H.1 dX0_turnsTo_38 ?_
        replace H := H.2
        refine e_iload_n dX0_turnsTo_39 rfl 1 rfl ?_
        refine e_icmp_eq (tgt := 47) dX0_turnsTo_40 (by decide) (fun h6 => ?_) (fun h6 => ?_)
        · replace H := H.1 h6
          refine e_iconst (v := 0) dX0_turnsTo_47 (by decide) ?_
          refine e_iadd dX0_turnsTo_48 ?_
          refine e_istore_n (ls' := [(2, .int (y2 + 0)), (0, .ref (zad g o)), (1, .int y1), (3, .int y3)]) dX0_turnsTo_49 rfl (by decide) rfl ?_
          refine e_iinc (j := 3) (v := (y3 + 1)) (ls' := [(3, .int (y3 + 1)), (2, .int (y2 + 0)), (0, .ref (zad g o)), (1, .int y1)]) dX0_turnsTo_50 rfl rfl (by decide) rfl ?_
          refine e_goto (tgt := 4) dX0_turnsTo_53 (by decide) ?_
          refine e_ls [2, 3, 1, 0] rfl ?_
          exact H
        · replace H := H.2 h6
          refine e_iconst (v := 1) dX0_turnsTo_43 (by decide) ?_
          refine e_goto (tgt := 48) dX0_turnsTo_44 (by decide) ?_
          refine e_iadd dX0_turnsTo_48 ?_
          refine e_istore_n (ls' := [(2, .int (y2 + 1)), (0, .ref (zad g o)), (1, .int y1), (3, .int y3)]) dX0_turnsTo_49 rfl (by decide) rfl ?_
          refine e_iinc (j := 3) (v := (y3 + 1)) (ls' := [(3, .int (y3 + 1)), (2, .int (y2 + 1)), (0, .ref (zad g o)), (1, .int y1)]) dX0_turnsTo_50 rfl rfl (by decide) rfl ?_
          refine e_goto (tgt := 4) dX0_turnsTo_53 (by decide) ?_
          refine e_ls [2, 3, 1, 0] rfl ?_
          exact H
      · replace H := H.2 h5
        refine e_iconst (v := (-1)) dX0_turnsTo_30 (by decide) ?_
        exact e_iret rfl dX0_turnsTo_31 H
abbrev L_X0_pullCord_4 (g : zG) (l : Launch) (K : Int32 → zS → Prop) (X : String → zS → Prop) (o : Nat) (y1 : Int32) (y2 : Int32) (y3 : Int32) (σ : zS) : Prop :=
  EV g l M_X0_pullCord 0 (zQi K X) 4 [(0, .ref (zad g o)), (1, .int y1), (2, .int y2), (3, .int y3)] [] σ
set_option maxRecDepth 20000 in
set_option maxHeartbeats 2000000 in
theorem b_X0_pullCord {g : zG} {l : Launch} {K : Int32 → zS → Prop} {X : String → zS → Prop} {o : Nat} {x1 : Int32} {σ : zS} (hb : zB o)
    (H : L_X0_pullCord_4 g l K X o x1 0 0 σ) :
    CT g l M_X0_pullCord 0 [.ref (zad g o), .int x1] σ (zQi K X) := by
  refine CT_of rfl (by decide) (Nat.le_of_ble_eq_true rfl) ?_
  change EV _ _ _ _ _ 0 [(0, .ref (zad g o)), (1, .int x1)] [] _
  refine e_iconst (v := 0) dX0_pullCord_0 (by decide) ?_
  refine e_istore_n (ls' := [(2, .int 0), (0, .ref (zad g o)), (1, .int x1)]) dX0_pullCord_1 rfl (by decide) rfl ?_
  refine e_iconst (v := 0) dX0_pullCord_2 (by decide) ?_
  refine e_istore_n (ls' := [(3, .int 0), (2, .int 0), (0, .ref (zad g o)), (1, .int x1)]) dX0_pullCord_3 rfl (by decide) rfl ?_
  refine e_ls [2, 3, 1, 0] rfl ?_
  exact H
set_option maxRecDepth 20000 in
set_option maxHeartbeats 2000000 in
theorem b_X0_pullCord_4 {g : zG} {l : Launch} {K : Int32 → zS → Prop} {X : String → zS → Prop} {o : Nat} {y1 : Int32} {y2 : Int32} {y3 : Int32} {σ : zS} (hb : zB o)
    (H : (((σ.1 o 2) ≤ y3 → K y2 σ) ∧ (¬ (σ.1 o 2) ≤ y3 → CT g l M_X0_turnAfterPull 0 [.ref (zad g o), .int y3, .int y1] σ (zQi (fun v2 τ2 => (vp_in y3 10 ∧ ((v2 = (τ2.1 (o + 3) (Int32.toNatClampNeg y3)) → (vp_in y3 10 ∧ (∀ σ4 : zS, σ4 = zup τ2 (o + 3) (Int32.toNatClampNeg y3) v2 → L_X0_pullCord_4 g l K X o y1 (y2 + 0) (y3 + 1) σ4))) ∧ (¬ v2 = (τ2.1 (o + 3) (Int32.toNatClampNeg y3)) → (vp_in y3 10 ∧ (∀ σ5 : zS, σ5 = zup τ2 (o + 3) (Int32.toNatClampNeg y3) v2 → L_X0_pullCord_4 g l K X o y1 (y2 + 1) (y3 + 1) σ5)))))) (fun E τ => X E τ))))) :
    L_X0_pullCord_4 g l K X o y1 y2 y3 σ := by
  refine e_iload_n dX0_pullCord_4 rfl 3 rfl ?_
  refine e_aload_n dX0_pullCord_5 rfl 0 rfl ?_
  refine fg_X0_46 (zB_s0 hb) (zB_l0 hb) rfl dX0_pullCord_6 ?_
  refine e_icmp_ge (tgt := 53) dX0_pullCord_9 (by decide) (fun h1 => ?_) (fun h1 => ?_)
  · replace H := H.1 h1
    refine e_iload_n dX0_pullCord_53 rfl 2 rfl ?_
    exact e_iret rfl dX0_pullCord_54 H
  · replace H := H.2 h1
    refine e_aload_n dX0_pullCord_12 rfl 0 rfl ?_
    refine e_iload_n dX0_pullCord_13 rfl 3 rfl ?_
    refine e_iload_n dX0_pullCord_14 rfl 1 rfl ?_
    refine e_callVi (j1 := 0) (j2 := 0) (av := [.int y3, .int y1]) rfl (zB_s0 hb) (zB_l0 hb) rfl rfl H i_X0_turnAfterPull rfl n_X0_turnAfterPull v_X0_turnAfterPull q_X0_112 (by decide) (by decide) (Nat.le_of_ble_eq_true rfl) dX0_pullCord_15 (fun v2 τ2 H => ?_) (fun E τ H => H)
    refine e_istore (ls' := [(4, .int v2), (0, .ref (zad g o)), (1, .int y1), (2, .int y2), (3, .int y3)]) dX0_pullCord_18 (by decide) rfl ?_
    refine e_iload_n dX0_pullCord_20 rfl 3 rfl ?_
    refine e_iload dX0_pullCord_21 0 rfl ?_
    refine e_aload_n dX0_pullCord_23 rfl 1 rfl ?_
    refine fg_X0_25 (zB_s0 hb) (zB_l0 hb) rfl dX0_pullCord_24 ?_
    refine e_iload_n dX0_pullCord_27 rfl 4 rfl ?_
    refine e_iald (n := 10) (zB_s3 hb) (zB_l3 hb) H.1 dX0_pullCord_28 ?_
    replace H := H.2
    refine e_icmp_eq (tgt := 36) dX0_pullCord_29 (by decide) (fun h3 => ?_) (fun h3 => ?_)
    · replace H := H.1 h3
      refine e_iconst (v := 0) dX0_pullCord_36 (by decide) ?_
      refine e_iadd dX0_pullCord_37 ?_
      refine e_istore_n (ls' := [(2, .int (y2 + 0)), (4, .int v2), (0, .ref (zad g o)), (1, .int y1), (3, .int y3)]) dX0_pullCord_38 rfl (by decide) rfl ?_
      refine e_aload_n dX0_pullCord_39 rfl 2 rfl ?_
      refine fg_X0_25 (zB_s0 hb) (zB_l0 hb) rfl dX0_pullCord_40 ?_
      refine e_iload_n dX0_pullCord_43 rfl 4 rfl ?_
      refine e_iload dX0_pullCord_44 1 rfl ?_
      refine e_iast (n := 10) (zB_s3 hb) (zB_l3 hb) H.1 dX0_pullCord_46 ?_
      replace H := H.2
      replace H := H _ rfl
      generalize zup τ2 (o + 3) (Int32.toNatClampNeg y3) v2 = σ4 at H ⊢
      refine e_iinc (j := 4) (v := (y3 + 1)) (ls' := [(3, .int (y3 + 1)), (2, .int (y2 + 0)), (4, .int v2), (0, .ref (zad g o)), (1, .int y1)]) dX0_pullCord_47 rfl rfl (by decide) rfl ?_
      refine e_goto (tgt := 4) dX0_pullCord_50 (by decide) ?_
      refine e_ls [3, 4, 1, 0] rfl ?_
      exact H
    · replace H := H.2 h3
      refine e_iconst (v := 1) dX0_pullCord_32 (by decide) ?_
      refine e_goto (tgt := 37) dX0_pullCord_33 (by decide) ?_
      refine e_iadd dX0_pullCord_37 ?_
      refine e_istore_n (ls' := [(2, .int (y2 + 1)), (4, .int v2), (0, .ref (zad g o)), (1, .int y1), (3, .int y3)]) dX0_pullCord_38 rfl (by decide) rfl ?_
      refine e_aload_n dX0_pullCord_39 rfl 2 rfl ?_
      refine fg_X0_25 (zB_s0 hb) (zB_l0 hb) rfl dX0_pullCord_40 ?_
      refine e_iload_n dX0_pullCord_43 rfl 4 rfl ?_
      refine e_iload dX0_pullCord_44 1 rfl ?_
      refine e_iast (n := 10) (zB_s3 hb) (zB_l3 hb) H.1 dX0_pullCord_46 ?_
      replace H := H.2
      replace H := H _ rfl
      generalize zup τ2 (o + 3) (Int32.toNatClampNeg y3) v2 = σ5 at H ⊢
      refine e_iinc (j := 4) (v := (y3 + 1)) (ls' := [(3, .int (y3 + 1)), (2, .int (y2 + 1)), (4, .int v2), (0, .ref (zad g o)), (1, .int y1)]) dX0_pullCord_47 rfl rfl (by decide) rfl ?_
      refine e_goto (tgt := 4) dX0_pullCord_50 (by decide) ?_
      refine e_ls [3, 4, 1, 0] rfl ?_
      exact H
set_option maxRecDepth 20000 in
set_option maxHeartbeats 2000000 in
theorem b_X0_paintFace {g : zG} {l : Launch} {K : Int32 → zS → Prop} {X : String → zS → Prop} {o : Nat} {x1 : Int32} {x2 : Int32} {σ : zS} (hb : zB o)
    (H : CT g l M_X0_unlikePicture 0 [.ref (zad g o), .int x1, .int x2] σ (zQi (fun v1 τ1 => (vp_in x1 10 ∧ CT g l M_X0_pictureOf 0 [.ref (zad g o), .int x2] τ1 (zQr g (fun v2 τ2 => zsh v2 = .inr (0, 60) ∧ v2 < 163 ∧ CT g l M_X0_faceOf 0 [.ref (zad g o), .int x2] τ2 (zQr g (fun v3 τ3 => zsh v3 = .inr (0, 60) ∧ v3 < 163 ∧ (vp_in x1 10 ∧ ((¬ (τ1.1 (o + 2) (Int32.toNatClampNeg x1)) < 0 ∧ ¬ (τ1.1 (o + 2) (Int32.toNatClampNeg x1)) < 0 ∧ ¬ (τ3.1 (o + 1) (Int32.toNatClampNeg x1)) < 0 ∧ Int32.toNatClampNeg (τ1.1 (o + 2) (Int32.toNatClampNeg x1)) + Int32.toNatClampNeg (τ3.1 (o + 1) (Int32.toNatClampNeg x1)) ≤ 60 ∧ Int32.toNatClampNeg (τ1.1 (o + 2) (Int32.toNatClampNeg x1)) + Int32.toNatClampNeg (τ3.1 (o + 1) (Int32.toNatClampNeg x1)) ≤ 60) ∧ (∀ σ4 : zS, σ4 = zpt τ3 v3 (va_cpy (τ3.1 v2) (τ3.1 v3) (Int32.toNatClampNeg (τ1.1 (o + 2) (Int32.toNatClampNeg x1))) (Int32.toNatClampNeg (τ1.1 (o + 2) (Int32.toNatClampNeg x1))) (Int32.toNatClampNeg (τ3.1 (o + 1) (Int32.toNatClampNeg x1)))) → CT g l M_X0_coatsOf 0 [.ref (zad g o), .int x2] σ4 (zQr g (fun v5 τ5 => zsh v5 = .inr (0, 10) ∧ v5 < 163 ∧ (vp_in x1 10 ∧ (vp_in x1 10 ∧ (∀ σ6 : zS, σ6 = zup τ5 v5 (Int32.toNatClampNeg x1) ((τ5.1 v5 (Int32.toNatClampNeg x1)) + 1) → K v1 σ6)))) (fun E τ => X E τ)))))) (fun E τ => X E τ))) (fun E τ => X E τ)))) (fun E τ => X E τ))) :
    CT g l M_X0_paintFace 0 [.ref (zad g o), .int x1, .int x2] σ (zQi K X) := by
  refine CT_of rfl (by decide) (Nat.le_of_ble_eq_true rfl) ?_
  change EV _ _ _ _ _ 0 [(0, .ref (zad g o)), (1, .int x1), (2, .int x2)] [] _
  refine e_aload_n dX0_paintFace_0 rfl 0 rfl ?_
  refine e_iload_n dX0_paintFace_1 rfl 1 rfl ?_
  refine e_iload_n dX0_paintFace_2 rfl 2 rfl ?_
  refine e_callVi (j1 := 0) (j2 := 0) (av := [.int x1, .int x2]) rfl (zB_s0 hb) (zB_l0 hb) rfl rfl H i_X0_unlikePicture rfl n_X0_unlikePicture v_X0_unlikePicture q_X0_115 (by decide) (by decide) (Nat.le_of_ble_eq_true rfl) dX0_paintFace_3 (fun v1 τ1 H => ?_) (fun E τ H => H)
  refine e_istore_n (ls' := [(3, .int v1), (0, .ref (zad g o)), (1, .int x1), (2, .int x2)]) dX0_paintFace_6 rfl (by decide) rfl ?_
  refine e_aload_n dX0_paintFace_7 rfl 1 rfl ?_
  refine fg_X0_22 (zB_s0 hb) (zB_l0 hb) rfl dX0_paintFace_8 ?_
  refine e_iload_n dX0_paintFace_11 rfl 2 rfl ?_
  refine e_iald (n := 10) (zB_s2 hb) (zB_l2 hb) H.1 dX0_paintFace_12 ?_
  replace H := H.2
  refine e_istore (ls' := [(4, .int (τ1.1 (o + 2) (Int32.toNatClampNeg x1))), (3, .int v1), (0, .ref (zad g o)), (1, .int x1), (2, .int x2)]) dX0_paintFace_13 (by decide) rfl ?_
  refine e_aload_n dX0_paintFace_15 rfl 2 rfl ?_
  refine e_iload_n dX0_paintFace_16 rfl 4 rfl ?_
  refine e_callVr (j1 := 0) (j2 := 0) (av := [.int x2]) rfl (zB_s0 hb) (zB_l0 hb) rfl rfl H i_X0_pictureOf rfl n_X0_pictureOf v_X0_pictureOf q_X0_87 (by decide) (by decide) (Nat.le_of_ble_eq_true rfl) dX0_paintFace_17 (fun v2 τ2 H => ?_) (fun E τ H => H)
  have hsv2 := H.1
  have hlv2 := H.2.1
  replace H := H.2.2
  refine e_iload dX0_paintFace_20 0 rfl ?_
  refine e_aload_n dX0_paintFace_22 rfl 2 rfl ?_
  refine e_iload_n dX0_paintFace_23 rfl 4 rfl ?_
  refine e_callVr (j1 := 0) (j2 := 0) (av := [.int x2]) rfl (zB_s0 hb) (zB_l0 hb) rfl rfl H i_X0_faceOf rfl n_X0_faceOf v_X0_faceOf q_X0_91 (by decide) (by decide) (Nat.le_of_ble_eq_true rfl) dX0_paintFace_24 (fun v3 τ3 H => ?_) (fun E τ H => H)
  have hsv3 := H.1
  have hlv3 := H.2.1
  replace H := H.2.2
  refine e_iload dX0_paintFace_27 0 rfl ?_
  refine e_aload_n dX0_paintFace_29 rfl 2 rfl ?_
  refine fg_X0_18 (zB_s0 hb) (zB_l0 hb) rfl dX0_paintFace_30 ?_
  refine e_iload_n dX0_paintFace_33 rfl 3 rfl ?_
  refine e_iald (n := 10) (zB_s1 hb) (zB_l1 hb) H.1 dX0_paintFace_34 ?_
  replace H := H.2
  refine e_copy hsv2 hsv3 hlv2 hlv3 q_X0_67 mn_copy ms_copy mi_system H.1.1 H.1.2.1 H.1.2.2.1 H.1.2.2.2.1 H.1.2.2.2.2 (by decide) (Nat.le_of_ble_eq_true rfl) dX0_paintFace_35 ?_
  replace H := H.2
  replace H := H _ rfl
  generalize zpt τ3 v3 (va_cpy (τ3.1 v2) (τ3.1 v3) (Int32.toNatClampNeg (τ1.1 (o + 2) (Int32.toNatClampNeg x1))) (Int32.toNatClampNeg (τ1.1 (o + 2) (Int32.toNatClampNeg x1))) (Int32.toNatClampNeg (τ3.1 (o + 1) (Int32.toNatClampNeg x1)))) = σ4 at H ⊢
  refine e_aload_n dX0_paintFace_38 rfl 2 rfl ?_
  refine e_iload_n dX0_paintFace_39 rfl 4 rfl ?_
  refine e_callVr (j1 := 0) (j2 := 0) (av := [.int x2]) rfl (zB_s0 hb) (zB_l0 hb) rfl rfl H i_X0_coatsOf rfl n_X0_coatsOf v_X0_coatsOf q_X0_98 (by decide) (by decide) (Nat.le_of_ble_eq_true rfl) dX0_paintFace_40 (fun v5 τ5 H => ?_) (fun E τ H => H)
  have hsv5 := H.1
  have hlv5 := H.2.1
  replace H := H.2.2
  refine e_iload_n dX0_paintFace_43 rfl 3 rfl ?_
  refine e_dup2_11 dX0_paintFace_44 rfl rfl ?_
  refine e_iald (n := 10) hsv5 hlv5 H.1 dX0_paintFace_45 ?_
  replace H := H.2
  refine e_iconst (v := 1) dX0_paintFace_46 (by decide) ?_
  refine e_iadd dX0_paintFace_47 ?_
  refine e_iast (n := 10) hsv5 hlv5 H.1 dX0_paintFace_48 ?_
  replace H := H.2
  replace H := H _ rfl
  generalize zup τ5 v5 (Int32.toNatClampNeg x1) ((τ5.1 v5 (Int32.toNatClampNeg x1)) + 1) = σ6 at H ⊢
  refine e_iload_n dX0_paintFace_49 rfl 1 rfl ?_
  exact e_iret rfl dX0_paintFace_50 H
set_option maxRecDepth 20000 in
set_option maxHeartbeats 2000000 in
theorem b_X0_dabCell {g : zG} {l : Launch} {K : Int32 → zS → Prop} {X : String → zS → Prop} {o : Nat} {x1 : Int32} {x2 : Int32} {x3 : Int32} {x4 : Int32} {x5 : Int32} {σ : zS} (hb : zB o)
    (H : CT g l M_X0_faceOf 0 [.ref (zad g o), .int x2] σ (zQr g (fun v1 τ1 => zsh v1 = .inr (0, 60) ∧ v1 < 163 ∧ (vp_in x1 10 ∧ (vp_in ((τ1.1 (o + 2) (Int32.toNatClampNeg x1)) + x3) 60 ∧ CT g l M_X6_colourIn 0 [.int (τ1.1 v1 (Int32.toNatClampNeg ((τ1.1 (o + 2) (Int32.toNatClampNeg x1)) + x3))), .int x4] τ1 (zQi (fun v2 τ2 => (vp_in ((τ1.1 (o + 2) (Int32.toNatClampNeg x1)) + x3) 60 ∧ CT g l M_X6_withColour 0 [.int (τ2.1 v1 (Int32.toNatClampNeg ((τ1.1 (o + 2) (Int32.toNatClampNeg x1)) + x3))), .int x4, .int x5] τ2 (zQi (fun v3 τ3 => (vp_in ((τ1.1 (o + 2) (Int32.toNatClampNeg x1)) + x3) 60 ∧ (∀ σ4 : zS, σ4 = zup τ3 v1 (Int32.toNatClampNeg ((τ1.1 (o + 2) (Int32.toNatClampNeg x1)) + x3)) v3 → K v2 σ4))) (fun E τ => X E τ)))) (fun E τ => X E τ))))) (fun E τ => X E τ))) :
    CT g l M_X0_dabCell 0 [.ref (zad g o), .int x1, .int x2, .int x3, .int x4, .int x5] σ (zQi K X) := by
  refine CT_of rfl (by decide) (Nat.le_of_ble_eq_true rfl) ?_
  change EV _ _ _ _ _ 0 [(0, .ref (zad g o)), (1, .int x1), (2, .int x2), (3, .int x3), (4, .int x4), (5, .int x5)] [] _
  refine e_aload_n dX0_dabCell_0 rfl 0 rfl ?_
  refine e_iload_n dX0_dabCell_1 rfl 2 rfl ?_
  refine e_callVr (j1 := 0) (j2 := 0) (av := [.int x2]) rfl (zB_s0 hb) (zB_l0 hb) rfl rfl H i_X0_faceOf rfl n_X0_faceOf v_X0_faceOf q_X0_91 (by decide) (by decide) (Nat.le_of_ble_eq_true rfl) dX0_dabCell_2 (fun v1 τ1 H => ?_) (fun E τ H => H)
  have hsv1 := H.1
  have hlv1 := H.2.1
  replace H := H.2.2
  refine e_astore (ls' := [(6, .ref (zad g v1)), (0, .ref (zad g o)), (1, .int x1), (2, .int x2), (3, .int x3), (4, .int x4), (5, .int x5)]) dX0_dabCell_5 (by decide) rfl ?_
  refine e_aload_n dX0_dabCell_7 rfl 1 rfl ?_
  refine fg_X0_22 (zB_s0 hb) (zB_l0 hb) rfl dX0_dabCell_8 ?_
  refine e_iload_n dX0_dabCell_11 rfl 2 rfl ?_
  refine e_iald (n := 10) (zB_s2 hb) (zB_l2 hb) H.1 dX0_dabCell_12 ?_
  replace H := H.2
  refine e_iload_n dX0_dabCell_13 rfl 4 rfl ?_
  refine e_iadd dX0_dabCell_14 ?_
  refine e_istore (ls' := [(7, .int ((τ1.1 (o + 2) (Int32.toNatClampNeg x1)) + x3)), (6, .ref (zad g v1)), (0, .ref (zad g o)), (1, .int x1), (2, .int x2), (3, .int x3), (4, .int x4), (5, .int x5)]) dX0_dabCell_15 (by decide) rfl ?_
  refine e_aload dX0_dabCell_17 1 rfl ?_
  refine e_iload dX0_dabCell_19 0 rfl ?_
  refine e_iald (n := 60) hsv1 hlv1 H.1 dX0_dabCell_21 ?_
  replace H := H.2
  refine e_iload dX0_dabCell_22 6 rfl ?_
  refine e_callSNi (j1 := 0) (j2 := 0) (av := [.int (τ1.1 v1 (Int32.toNatClampNeg ((τ1.1 (o + 2) (Int32.toNatClampNeg x1)) + x3))), .int x4]) rfl H i_X6_colourIn rfl s_X6_colourIn nl_X0_119 (by decide) (by decide) (Nat.le_of_ble_eq_true rfl) dX0_dabCell_24 (fun v2 τ2 H => ?_) (fun E τ H => H)
  refine e_istore (ls' := [(8, .int v2), (7, .int ((τ1.1 (o + 2) (Int32.toNatClampNeg x1)) + x3)), (6, .ref (zad g v1)), (0, .ref (zad g o)), (1, .int x1), (2, .int x2), (3, .int x3), (4, .int x4), (5, .int x5)]) dX0_dabCell_27 (by decide) rfl ?_
  refine e_aload dX0_dabCell_29 2 rfl ?_
  refine e_iload dX0_dabCell_31 1 rfl ?_
  refine e_aload dX0_dabCell_33 2 rfl ?_
  refine e_iload dX0_dabCell_35 1 rfl ?_
  refine e_iald (n := 60) hsv1 hlv1 H.1 dX0_dabCell_37 ?_
  replace H := H.2
  refine e_iload dX0_dabCell_38 7 rfl ?_
  refine e_iload dX0_dabCell_40 8 rfl ?_
  refine e_callSNi (j1 := 0) (j2 := 0) (av := [.int (τ2.1 v1 (Int32.toNatClampNeg ((τ1.1 (o + 2) (Int32.toNatClampNeg x1)) + x3))), .int x4, .int x5]) rfl H i_X6_withColour rfl s_X6_withColour nl_X0_122 (by decide) (by decide) (Nat.le_of_ble_eq_true rfl) dX0_dabCell_42 (fun v3 τ3 H => ?_) (fun E τ H => H)
  refine e_iast (n := 60) hsv1 hlv1 H.1 dX0_dabCell_45 ?_
  replace H := H.2
  replace H := H _ rfl
  generalize zup τ3 v1 (Int32.toNatClampNeg ((τ1.1 (o + 2) (Int32.toNatClampNeg x1)) + x3)) v3 = σ4 at H ⊢
  refine e_iload dX0_dabCell_46 0 rfl ?_
  exact e_iret rfl dX0_dabCell_48 H
abbrev L_X0_swapFaces_9 (g : zG) (l : Launch) (K : Int32 → zS → Prop) (X : String → zS → Prop) (o : Nat) (y1 : Int32) (y2 : Int32) (y3 : Int32) (σ : zS) : Prop :=
  EV g l M_X0_swapFaces 0 (zQi K X) 9 [(0, .ref (zad g o)), (1, .int y1), (2, .int y2), (3, .int y3)] [] σ
set_option maxRecDepth 20000 in
set_option maxHeartbeats 2000000 in
theorem b_X0_swapFaces {g : zG} {l : Launch} {K : Int32 → zS → Prop} {X : String → zS → Prop} {o : Nat} {x1 : Int32} {σ : zS} (hb : zB o)
    (H : (vp_in x1 10 ∧ L_X0_swapFaces_9 g l K X o x1 0 (σ.1 (o + 2) (Int32.toNatClampNeg x1)) σ)) :
    CT g l M_X0_swapFaces 0 [.ref (zad g o), .int x1] σ (zQi K X) := by
  refine CT_of rfl (by decide) (Nat.le_of_ble_eq_true rfl) ?_
  change EV _ _ _ _ _ 0 [(0, .ref (zad g o)), (1, .int x1)] [] _
  refine e_iconst (v := 0) dX0_swapFaces_0 (by decide) ?_
  refine e_istore_n (ls' := [(2, .int 0), (0, .ref (zad g o)), (1, .int x1)]) dX0_swapFaces_1 rfl (by decide) rfl ?_
  refine e_aload_n dX0_swapFaces_2 rfl 1 rfl ?_
  refine fg_X0_22 (zB_s0 hb) (zB_l0 hb) rfl dX0_swapFaces_3 ?_
  refine e_iload_n dX0_swapFaces_6 rfl 2 rfl ?_
  refine e_iald (n := 10) (zB_s2 hb) (zB_l2 hb) H.1 dX0_swapFaces_7 ?_
  replace H := H.2
  refine e_istore_n (ls' := [(3, .int (σ.1 (o + 2) (Int32.toNatClampNeg x1))), (2, .int 0), (0, .ref (zad g o)), (1, .int x1)]) dX0_swapFaces_8 rfl (by decide) rfl ?_
  refine e_ls [2, 3, 1, 0] rfl ?_
  exact H
set_option maxRecDepth 20000 in
set_option maxHeartbeats 2000000 in
theorem b_X0_swapFaces_9 {g : zG} {l : Launch} {K : Int32 → zS → Prop} {X : String → zS → Prop} {o : Nat} {y1 : Int32} {y2 : Int32} {y3 : Int32} {σ : zS} (hb : zB o)
    (H : (vp_in y1 10 ∧ (vp_in y1 10 ∧ ((((σ.1 (o + 2) (Int32.toNatClampNeg y1)) + (σ.1 (o + 1) (Int32.toNatClampNeg y1))) ≤ y3 → (vp_in y1 10 ∧ (vp_in y1 10 ∧ (vp_in y1 10 ∧ (∀ σ2 : zS, σ2 = zup σ (o + 4) (Int32.toNatClampNeg y1) (σ.1 (o + 5) (Int32.toNatClampNeg y1)) → (vp_in y1 10 ∧ (∀ σ3 : zS, σ3 = zup σ2 (o + 5) (Int32.toNatClampNeg y1) (σ.1 (o + 4) (Int32.toNatClampNeg y1)) → K y2 σ3))))))) ∧ (¬ ((σ.1 (o + 2) (Int32.toNatClampNeg y1)) + (σ.1 (o + 1) (Int32.toNatClampNeg y1))) ≤ y3 → (vp_in y3 60 ∧ (vp_in y3 60 ∧ CT g l M_X6_unlikeRows 0 [.int (σ.1 (o + 8) (Int32.toNatClampNeg y3)), .int (σ.1 (o + 9) (Int32.toNatClampNeg y3))] σ (zQi (fun v4 τ4 => (vp_in y3 60 ∧ (vp_in y3 60 ∧ (vp_in y3 60 ∧ (∀ σ5 : zS, σ5 = zup τ4 (o + 8) (Int32.toNatClampNeg y3) (τ4.1 (o + 9) (Int32.toNatClampNeg y3)) → (vp_in y3 60 ∧ (∀ σ6 : zS, σ6 = zup σ5 (o + 9) (Int32.toNatClampNeg y3) (τ4.1 (o + 8) (Int32.toNatClampNeg y3)) → L_X0_swapFaces_9 g l K X o y1 (y2 + v4) (y3 + 1) σ6))))))) (fun E τ => X E τ))))))))) :
    L_X0_swapFaces_9 g l K X o y1 y2 y3 σ := by
  refine e_iload_n dX0_swapFaces_9 rfl 3 rfl ?_
  refine e_aload_n dX0_swapFaces_10 rfl 0 rfl ?_
  refine fg_X0_22 (zB_s0 hb) (zB_l0 hb) rfl dX0_swapFaces_11 ?_
  refine e_iload_n dX0_swapFaces_14 rfl 1 rfl ?_
  refine e_iald (n := 10) (zB_s2 hb) (zB_l2 hb) H.1 dX0_swapFaces_15 ?_
  replace H := H.2
  refine e_aload_n dX0_swapFaces_16 rfl 0 rfl ?_
  refine fg_X0_18 (zB_s0 hb) (zB_l0 hb) rfl dX0_swapFaces_17 ?_
  refine e_iload_n dX0_swapFaces_20 rfl 1 rfl ?_
  refine e_iald (n := 10) (zB_s1 hb) (zB_l1 hb) H.1 dX0_swapFaces_21 ?_
  replace H := H.2
  refine e_iadd dX0_swapFaces_22 ?_
  refine e_icmp_ge (tgt := 78) dX0_swapFaces_23 (by decide) (fun h1 => ?_) (fun h1 => ?_)
  · replace H := H.1 h1
    refine e_aload_n dX0_swapFaces_78 rfl 0 rfl ?_
    refine fg_X0_28 (zB_s0 hb) (zB_l0 hb) rfl dX0_swapFaces_79 ?_
    refine e_iload_n dX0_swapFaces_82 rfl 1 rfl ?_
    refine e_iald (n := 10) (zB_s4 hb) (zB_l4 hb) H.1 dX0_swapFaces_83 ?_
    replace H := H.2
    refine e_istore_n (ls' := [(3, .int (σ.1 (o + 4) (Int32.toNatClampNeg y1))), (0, .ref (zad g o)), (1, .int y1), (2, .int y2)]) dX0_swapFaces_84 rfl (by decide) rfl ?_
    refine e_aload_n dX0_swapFaces_85 rfl 1 rfl ?_
    refine fg_X0_28 (zB_s0 hb) (zB_l0 hb) rfl dX0_swapFaces_86 ?_
    refine e_iload_n dX0_swapFaces_89 rfl 2 rfl ?_
    refine e_aload_n dX0_swapFaces_90 rfl 1 rfl ?_
    refine fg_X0_31 (zB_s0 hb) (zB_l0 hb) rfl dX0_swapFaces_91 ?_
    refine e_iload_n dX0_swapFaces_94 rfl 2 rfl ?_
    refine e_iald (n := 10) (zB_s5 hb) (zB_l5 hb) H.1 dX0_swapFaces_95 ?_
    replace H := H.2
    refine e_iast (n := 10) (zB_s4 hb) (zB_l4 hb) H.1 dX0_swapFaces_96 ?_
    replace H := H.2
    replace H := H _ rfl
    generalize zup σ (o + 4) (Int32.toNatClampNeg y1) (σ.1 (o + 5) (Int32.toNatClampNeg y1)) = σ2 at H ⊢
    refine e_aload_n dX0_swapFaces_97 rfl 1 rfl ?_
    refine fg_X0_31 (zB_s0 hb) (zB_l0 hb) rfl dX0_swapFaces_98 ?_
    refine e_iload_n dX0_swapFaces_101 rfl 2 rfl ?_
    refine e_iload_n dX0_swapFaces_102 rfl 0 rfl ?_
    refine e_iast (n := 10) (zB_s5 hb) (zB_l5 hb) H.1 dX0_swapFaces_103 ?_
    replace H := H.2
    replace H := H _ rfl
    generalize zup σ2 (o + 5) (Int32.toNatClampNeg y1) (σ.1 (o + 4) (Int32.toNatClampNeg y1)) = σ3 at H ⊢
    refine e_iload_n dX0_swapFaces_104 rfl 3 rfl ?_
    exact e_iret rfl dX0_swapFaces_105 H
  · replace H := H.2 h1
    refine e_iload_n dX0_swapFaces_26 rfl 2 rfl ?_
    refine e_aload_n dX0_swapFaces_27 rfl 0 rfl ?_
    refine fg_X0_40 (zB_s0 hb) (zB_l0 hb) rfl dX0_swapFaces_28 ?_
    refine e_iload_n dX0_swapFaces_31 rfl 3 rfl ?_
    refine e_iald (n := 60) (zB_s8 hb) (zB_l8 hb) H.1 dX0_swapFaces_32 ?_
    replace H := H.2
    refine e_aload_n dX0_swapFaces_33 rfl 0 rfl ?_
    refine fg_X0_43 (zB_s0 hb) (zB_l0 hb) rfl dX0_swapFaces_34 ?_
    refine e_iload_n dX0_swapFaces_37 rfl 3 rfl ?_
    refine e_iald (n := 60) (zB_s9 hb) (zB_l9 hb) H.1 dX0_swapFaces_38 ?_
    replace H := H.2
    refine e_callSNi (j1 := 0) (j2 := 0) (av := [.int (σ.1 (o + 8) (Int32.toNatClampNeg y3)), .int (σ.1 (o + 9) (Int32.toNatClampNeg y3))]) rfl H i_X6_unlikeRows rfl s_X6_unlikeRows nl_X0_94 (by decide) (by decide) (Nat.le_of_ble_eq_true rfl) dX0_swapFaces_39 (fun v4 τ4 H => ?_) (fun E τ H => H)
    refine e_iadd dX0_swapFaces_42 ?_
    refine e_istore_n (ls' := [(2, .int (y2 + v4)), (0, .ref (zad g o)), (1, .int y1), (3, .int y3)]) dX0_swapFaces_43 rfl (by decide) rfl ?_
    refine e_aload_n dX0_swapFaces_44 rfl 1 rfl ?_
    refine fg_X0_40 (zB_s0 hb) (zB_l0 hb) rfl dX0_swapFaces_45 ?_
    refine e_iload_n dX0_swapFaces_48 rfl 3 rfl ?_
    refine e_iald (n := 60) (zB_s8 hb) (zB_l8 hb) H.1 dX0_swapFaces_49 ?_
    replace H := H.2
    refine e_istore (ls' := [(4, .int (τ4.1 (o + 8) (Int32.toNatClampNeg y3))), (2, .int (y2 + v4)), (0, .ref (zad g o)), (1, .int y1), (3, .int y3)]) dX0_swapFaces_50 (by decide) rfl ?_
    refine e_aload_n dX0_swapFaces_52 rfl 2 rfl ?_
    refine fg_X0_40 (zB_s0 hb) (zB_l0 hb) rfl dX0_swapFaces_53 ?_
    refine e_iload_n dX0_swapFaces_56 rfl 4 rfl ?_
    refine e_aload_n dX0_swapFaces_57 rfl 2 rfl ?_
    refine fg_X0_43 (zB_s0 hb) (zB_l0 hb) rfl dX0_swapFaces_58 ?_
    refine e_iload_n dX0_swapFaces_61 rfl 4 rfl ?_
    refine e_iald (n := 60) (zB_s9 hb) (zB_l9 hb) H.1 dX0_swapFaces_62 ?_
    replace H := H.2
    refine e_iast (n := 60) (zB_s8 hb) (zB_l8 hb) H.1 dX0_swapFaces_63 ?_
    replace H := H.2
    replace H := H _ rfl
    generalize zup τ4 (o + 8) (Int32.toNatClampNeg y3) (τ4.1 (o + 9) (Int32.toNatClampNeg y3)) = σ5 at H ⊢
    refine e_aload_n dX0_swapFaces_64 rfl 2 rfl ?_
    refine fg_X0_43 (zB_s0 hb) (zB_l0 hb) rfl dX0_swapFaces_65 ?_
    refine e_iload_n dX0_swapFaces_68 rfl 4 rfl ?_
    refine e_iload dX0_swapFaces_69 0 rfl ?_
    refine e_iast (n := 60) (zB_s9 hb) (zB_l9 hb) H.1 dX0_swapFaces_71 ?_
    replace H := H.2
    replace H := H _ rfl
    generalize zup σ5 (o + 9) (Int32.toNatClampNeg y3) (τ4.1 (o + 8) (Int32.toNatClampNeg y3)) = σ6 at H ⊢
    refine e_iinc (j := 4) (v := (y3 + 1)) (ls' := [(3, .int (y3 + 1)), (4, .int (τ4.1 (o + 8) (Int32.toNatClampNeg y3))), (2, .int (y2 + v4)), (0, .ref (zad g o)), (1, .int y1)]) dX0_swapFaces_72 rfl rfl (by decide) rfl ?_
    refine e_goto (tgt := 9) dX0_swapFaces_75 (by decide) ?_
    refine e_ls [3, 4, 2, 0] rfl ?_
    exact H
set_option maxRecDepth 20000 in
set_option maxHeartbeats 2000000 in
theorem b_X0_addSpot {g : zG} {l : Launch} {K : Int32 → zS → Prop} {X : String → zS → Prop} {o : Nat} {x1 : Int32} {x2 : Int32} {x3 : Int32} {x4 : Int32} {σ : zS} (hb : zB o)
    (H : CT g l M_X0_pictureOf 0 [.ref (zad g o), .int x1] σ (zQr g (fun v1 τ1 => zsh v1 = .inr (0, 60) ∧ v1 < 163 ∧ (vp_in x2 60 ∧ CT g l M_X6_withColour 0 [.int (τ1.1 v1 (Int32.toNatClampNeg x2)), .int x3, .int x4] τ1 (zQi (fun v2 τ2 => (vp_in x2 60 ∧ (∀ σ3 : zS, σ3 = zup τ2 v1 (Int32.toNatClampNeg x2) v2 → CT g l M_X0_countBox 0 [.ref (zad g o), .int x1] σ3 (zQv (fun τ4 => K ((τ4.1 o 4) + (τ4.1 o 5)) τ4) (fun E τ => X E τ))))) (fun E τ => X E τ)))) (fun E τ => X E τ))) :
    CT g l M_X0_addSpot 0 [.ref (zad g o), .int x1, .int x2, .int x3, .int x4] σ (zQi K X) := by
  refine CT_of rfl (by decide) (Nat.le_of_ble_eq_true rfl) ?_
  change EV _ _ _ _ _ 0 [(0, .ref (zad g o)), (1, .int x1), (2, .int x2), (3, .int x3), (4, .int x4)] [] _
  refine e_aload_n dX0_addSpot_0 rfl 0 rfl ?_
  refine e_iload_n dX0_addSpot_1 rfl 1 rfl ?_
  refine e_callVr (j1 := 0) (j2 := 0) (av := [.int x1]) rfl (zB_s0 hb) (zB_l0 hb) rfl rfl H i_X0_pictureOf rfl n_X0_pictureOf v_X0_pictureOf q_X0_87 (by decide) (by decide) (Nat.le_of_ble_eq_true rfl) dX0_addSpot_2 (fun v1 τ1 H => ?_) (fun E τ H => H)
  have hsv1 := H.1
  have hlv1 := H.2.1
  replace H := H.2.2
  refine e_astore (ls' := [(5, .ref (zad g v1)), (0, .ref (zad g o)), (1, .int x1), (2, .int x2), (3, .int x3), (4, .int x4)]) dX0_addSpot_5 (by decide) rfl ?_
  refine e_aload dX0_addSpot_7 0 rfl ?_
  refine e_iload_n dX0_addSpot_9 rfl 3 rfl ?_
  refine e_aload dX0_addSpot_10 0 rfl ?_
  refine e_iload_n dX0_addSpot_12 rfl 3 rfl ?_
  refine e_iald (n := 60) hsv1 hlv1 H.1 dX0_addSpot_13 ?_
  replace H := H.2
  refine e_iload_n dX0_addSpot_14 rfl 4 rfl ?_
  refine e_iload dX0_addSpot_15 5 rfl ?_
  refine e_callSNi (j1 := 0) (j2 := 0) (av := [.int (τ1.1 v1 (Int32.toNatClampNeg x2)), .int x3, .int x4]) rfl H i_X6_withColour rfl s_X6_withColour nl_X0_122 (by decide) (by decide) (Nat.le_of_ble_eq_true rfl) dX0_addSpot_17 (fun v2 τ2 H => ?_) (fun E τ H => H)
  refine e_iast (n := 60) hsv1 hlv1 H.1 dX0_addSpot_20 ?_
  replace H := H.2
  replace H := H _ rfl
  generalize zup τ2 v1 (Int32.toNatClampNeg x2) v2 = σ3 at H ⊢
  refine e_aload_n dX0_addSpot_21 rfl 1 rfl ?_
  refine e_iload_n dX0_addSpot_22 rfl 2 rfl ?_
  refine e_callVv (j1 := 0) (j2 := 0) (av := [.int x1]) rfl (zB_s0 hb) (zB_l0 hb) rfl rfl H i_X0_countBox rfl n_X0_countBox v_X0_countBox q_X0_126 (by decide) (by decide) (Nat.le_of_ble_eq_true rfl) dX0_addSpot_23 (fun τ4 H => ?_) (fun E τ H => H)
  refine e_aload_n dX0_addSpot_26 rfl 1 rfl ?_
  refine fg_X0_52 (zB_s0 hb) (zB_l0 hb) rfl dX0_addSpot_27 ?_
  refine e_aload_n dX0_addSpot_30 rfl 1 rfl ?_
  refine fg_X0_55 (zB_s0 hb) (zB_l0 hb) rfl dX0_addSpot_31 ?_
  refine e_iadd dX0_addSpot_34 ?_
  exact e_iret rfl dX0_addSpot_35 H
