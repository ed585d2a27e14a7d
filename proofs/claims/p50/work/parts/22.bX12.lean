set_option maxRecDepth 20000 in
set_option maxHeartbeats 2000000 in
theorem b_X1_keep {g : zG} {l : Launch} {K : zS → Prop} {X : String → zS → Prop} {o2 : Nat} {σ : zS} (hb2 : zB o2)
    (H : (vp_in (σ.1 16 2) 6 ∧ CT g l M_X0_copyFrom 0 [.ref (zad g (103 + 10 * Int32.toNatClampNeg (σ.1 16 2))), .ref (zad g o2)] σ (zQv (fun τ2 => (∀ σ3 : zS, σ3 = zup τ2 16 2 (((τ2.1 16 2) + 1) - ((τ2.1 16 2) + 1) / 6 * 6) → (∀ σ4 : zS, σ4 = zup σ3 16 1 (zmin 6 ((σ3.1 16 1) + 1)) → K σ4))) (fun E τ => X E τ)))) :
    CT g l M_X1_keep 0 [.ref (zad g 16), .ref (zad g o2)] σ (zQv K X) := by
  refine CT_of rfl (by decide) (Nat.le_of_ble_eq_true rfl) ?_
  change EV _ _ _ _ _ 0 [(0, .ref (zad g 16)), (1, .ref (zad g o2))] [] _
  refine e_aload_n dX1_keep_0 rfl 0 rfl ?_
  refine fg_X1_11 rfl dX1_keep_1 ?_
  refine e_aload_n dX1_keep_4 rfl 0 rfl ?_
  refine fg_X1_16 rfl dX1_keep_5 ?_
  have hi1 := H.1
  replace H := H.2
  refine e_aaldK hi1 dX1_keep_8 ?_
  refine e_aload_n dX1_keep_9 rfl 1 rfl ?_
  refine e_callVv (j1 := 0) (j2 := 0) (av := [.ref (zad g o2)]) rfl (zB_s0 (zB_k hi1)) (zB_l0 (zB_k hi1)) rfl rfl H i_X0_copyFrom rfl n_X0_copyFrom v_X0_copyFrom q_X1_20 (by decide) (by decide) (Nat.le_of_ble_eq_true rfl) dX1_keep_10 (fun τ2 H => ?_) (fun E τ H => H)
  refine e_aload_n dX1_keep_13 rfl 0 rfl ?_
  refine e_aload_n dX1_keep_14 rfl 0 rfl ?_
  refine fg_X1_16 rfl dX1_keep_15 ?_
  refine e_iconst (v := 1) dX1_keep_18 (by decide) ?_
  refine e_iadd dX1_keep_19 ?_
  refine e_bipush (v := 6) dX1_keep_20 (by decide) ?_
  refine e_irem dX1_keep_22 (by decide) ?_
  refine fp_X1_16 rfl dX1_keep_23 ?_
  replace H := H _ rfl
  generalize zup τ2 16 2 (((τ2.1 16 2) + 1) - ((τ2.1 16 2) + 1) / 6 * 6) = σ3 at H ⊢
  refine e_aload_n dX1_keep_26 rfl 0 rfl ?_
  refine e_bipush (v := 6) dX1_keep_27 (by decide) ?_
  refine e_aload_n dX1_keep_29 rfl 0 rfl ?_
  refine fg_X1_24 rfl dX1_keep_30 ?_
  refine e_iconst (v := 1) dX1_keep_33 (by decide) ?_
  refine e_iadd dX1_keep_34 ?_
  refine e_mmin qm_X1_27 ms_min mi_math mc_min (by decide) (Nat.le_of_ble_eq_true rfl) dX1_keep_35 ?_
  change EV _ _ _ _ _ _ _ (.int (zmin 6 ((σ3.1 16 1) + 1)) :: _) _
  refine fp_X1_24 rfl dX1_keep_38 ?_
  replace H := H _ rfl
  generalize zup σ3 16 1 (zmin 6 ((σ3.1 16 1) + 1)) = σ4 at H ⊢
  exact e_vret rfl dX1_keep_41 H
set_option maxRecDepth 20000 in
set_option maxHeartbeats 2000000 in
theorem b_X1_takeBack {g : zG} {l : Launch} {K : Int32 → zS → Prop} {X : String → zS → Prop} {o2 : Nat} {σ : zS} (hb2 : zB o2)
    (H : ((¬ (σ.1 16 1) = 0 → (∀ σ2 : zS, σ2 = zup σ 16 2 ((((σ.1 16 2) + 6) - 1) - (((σ.1 16 2) + 6) - 1) / 6 * 6) → (∀ σ3 : zS, σ3 = zup σ2 16 1 ((σ2.1 16 1) - 1) → (vp_in (σ3.1 16 2) 6 ∧ CT g l M_X0_copyFrom 0 [.ref (zad g o2), .ref (zad g (103 + 10 * Int32.toNatClampNeg (σ3.1 16 2)))] σ3 (zQv (fun τ5 => K 1 τ5) (fun E τ => X E τ)))))) ∧ ((σ.1 16 1) = 0 → K 0 σ))) :
    CT g l M_X1_takeBack 0 [.ref (zad g 16), .ref (zad g o2)] σ (zQi K X) := by
  refine CT_of rfl (by decide) (Nat.le_of_ble_eq_true rfl) ?_
  change EV _ _ _ _ _ 0 [(0, .ref (zad g 16)), (1, .ref (zad g o2))] [] _
  refine e_aload_n dX1_takeBack_0 rfl 0 rfl ?_
  refine fg_X1_24 rfl dX1_takeBack_1 ?_
  refine e_if_ne (tgt := 9) dX1_takeBack_4 (by decide) (fun h1 => ?_) (fun h1 => ?_)
  · replace H := H.1 h1
    refine e_aload_n dX1_takeBack_9 rfl 0 rfl ?_
    refine e_aload_n dX1_takeBack_10 rfl 0 rfl ?_
    refine fg_X1_16 rfl dX1_takeBack_11 ?_
    refine e_bipush (v := 6) dX1_takeBack_14 (by decide) ?_
    refine e_iadd dX1_takeBack_16 ?_
    refine e_iconst (v := 1) dX1_takeBack_17 (by decide) ?_
    refine e_isub dX1_takeBack_18 ?_
    refine e_bipush (v := 6) dX1_takeBack_19 (by decide) ?_
    refine e_irem dX1_takeBack_21 (by decide) ?_
    refine fp_X1_16 rfl dX1_takeBack_22 ?_
    replace H := H _ rfl
    generalize zup σ 16 2 ((((σ.1 16 2) + 6) - 1) - (((σ.1 16 2) + 6) - 1) / 6 * 6) = σ2 at H ⊢
    refine e_aload_n dX1_takeBack_25 rfl 0 rfl ?_
    refine e_dup dX1_takeBack_26 rfl ?_
    refine fg_X1_24 rfl dX1_takeBack_27 ?_
    refine e_iconst (v := 1) dX1_takeBack_30 (by decide) ?_
    refine e_isub dX1_takeBack_31 ?_
    refine fp_X1_24 rfl dX1_takeBack_32 ?_
    replace H := H _ rfl
    generalize zup σ2 16 1 ((σ2.1 16 1) - 1) = σ3 at H ⊢
    refine e_aload_n dX1_takeBack_35 rfl 1 rfl ?_
    refine e_aload_n dX1_takeBack_36 rfl 0 rfl ?_
    refine fg_X1_11 rfl dX1_takeBack_37 ?_
    refine e_aload_n dX1_takeBack_40 rfl 0 rfl ?_
    refine fg_X1_16 rfl dX1_takeBack_41 ?_
    have hi4 := H.1
    replace H := H.2
    refine e_aaldK hi4 dX1_takeBack_44 ?_
    refine e_callVv (j1 := 0) (j2 := 0) (av := [.ref (zad g (103 + 10 * Int32.toNatClampNeg (σ3.1 16 2)))]) rfl (zB_s0 hb2) (zB_l0 hb2) rfl rfl H i_X0_copyFrom rfl n_X0_copyFrom v_X0_copyFrom q_X1_20 (by decide) (by decide) (Nat.le_of_ble_eq_true rfl) dX1_takeBack_45 (fun τ5 H => ?_) (fun E τ H => H)
    refine e_iconst (v := 1) dX1_takeBack_48 (by decide) ?_
    exact e_zret rfl rfl dX1_takeBack_49 H
  · replace H := H.2 h1
    refine e_iconst (v := 0) dX1_takeBack_7 (by decide) ?_
    exact e_zret rfl rfl dX1_takeBack_8 H
set_option maxRecDepth 20000 in
set_option maxHeartbeats 2000000 in
theorem b_X1_forget {g : zG} {l : Launch} {K : zS → Prop} {X : String → zS → Prop} {σ : zS}
    (H : (∀ σ1 : zS, σ1 = zup σ 16 1 0 → K σ1)) :
    CT g l M_X1_forget 0 [.ref (zad g 16)] σ (zQv K X) := by
  refine CT_of rfl (by decide) (Nat.le_of_ble_eq_true rfl) ?_
  change EV _ _ _ _ _ 0 [(0, .ref (zad g 16))] [] _
  refine e_aload_n dX1_forget_0 rfl 0 rfl ?_
  refine e_iconst (v := 0) dX1_forget_1 (by decide) ?_
  refine fp_X1_24 rfl dX1_forget_2 ?_
  replace H := H _ rfl
  generalize zup σ 16 1 0 = σ1 at H ⊢
  exact e_vret rfl dX1_forget_5 H
