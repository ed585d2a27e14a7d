abbrev L_X3_append_3 (g : zG) (l : Launch) (K : zS → Prop) (X : String → zS → Prop) (y1 : Int32) (y2 : Int32) (σ : zS) : Prop :=
  EV g l M_X3_append 0 (zQv K X) 3 [(0, .ref (zad g 1)), (1, .int y1), (2, .int y2)] [] σ
set_option maxRecDepth 20000 in
set_option maxHeartbeats 2000000 in
theorem b_X3_append {g : zG} {l : Launch} {K : zS → Prop} {X : String → zS → Prop} {x1 : Int32} {σ : zS}
    (H : L_X3_append_3 g l K X x1 24 σ) :
    CT g l M_X3_append 0 [.ref (zad g 1), .int x1] σ (zQv K X) := by
  refine CT_of rfl (by decide) (Nat.le_of_ble_eq_true rfl) ?_
  change EV _ _ _ _ _ 0 [(0, .ref (zad g 1)), (1, .int x1)] [] _
  refine e_bipush (v := 24) dX3_append_0 (by decide) ?_
  refine e_istore_n (ls' := [(2, .int 24), (0, .ref (zad g 1)), (1, .int x1)]) dX3_append_2 rfl (by decide) rfl ?_
  refine e_ls [1, 2, 0] rfl ?_
  exact H
set_option maxRecDepth 20000 in
set_option maxHeartbeats 2000000 in
theorem b_X3_append_3 {g : zG} {l : Launch} {K : zS → Prop} {X : String → zS → Prop} {y1 : Int32} {y2 : Int32} {σ : zS}
    (H : ((y2 < 0 → K σ) ∧ (¬ y2 < 0 → ((600 ≤ (σ.1 1 1) → K σ) ∧ (¬ 600 ≤ (σ.1 1 1) → (vp_in (σ.1 1 1) 600 ∧ (∀ σ3 : zS, σ3 = zup σ 2 (Int32.toNatClampNeg (σ.1 1 1)) (vp_nar .byte (zi2b (zushr y1 y2))) → (∀ σ4 : zS, σ4 = zup σ3 1 1 ((σ3.1 1 1) + 1) → L_X3_append_3 g l K X y1 (y2 + (-8)) σ4)))))))) :
    L_X3_append_3 g l K X y1 y2 σ := by
  refine e_iload_n dX3_append_3 rfl 2 rfl ?_
  refine e_if_lt (tgt := 46) dX3_append_4 (by decide) (fun h1 => ?_) (fun h1 => ?_)
  · replace H := H.1 h1
    exact e_vret rfl dX3_append_46 H
  · replace H := H.2 h1
    refine e_aload_n dX3_append_7 rfl 0 rfl ?_
    refine fg_X3_19 rfl dX3_append_8 ?_
    refine e_sipush (v := 600) dX3_append_11 (by decide) ?_
    refine e_icmp_ge (tgt := 46) dX3_append_14 (by decide) (fun h2 => ?_) (fun h2 => ?_)
    · replace H := H.1 h2
      exact e_vret rfl dX3_append_46 H
    · replace H := H.2 h2
      refine e_aload_n dX3_append_17 rfl 0 rfl ?_
      refine fg_X3_9 rfl dX3_append_18 ?_
      refine e_aload_n dX3_append_21 rfl 0 rfl ?_
      refine fg_X3_19 rfl dX3_append_22 ?_
      refine e_iload_n dX3_append_25 rfl 1 rfl ?_
      refine e_iload_n dX3_append_26 rfl 2 rfl ?_
      refine e_iushr (v := (zushr y1 y2)) dX3_append_27 rfl ?_
      refine e_i2b (v := zi2b (zushr y1 y2)) dX3_append_28 rfl ?_
      refine e_bast (n := 600) rfl (Nat.le_of_ble_eq_true rfl) H.1 dX3_append_29 ?_
      replace H := H.2
      replace H := H _ rfl
      generalize zup σ 2 (Int32.toNatClampNeg (σ.1 1 1)) (vp_nar .byte (zi2b (zushr y1 y2))) = σ3 at H ⊢
      refine e_aload_n dX3_append_30 rfl 0 rfl ?_
      refine e_dup dX3_append_31 rfl ?_
      refine fg_X3_19 rfl dX3_append_32 ?_
      refine e_iconst (v := 1) dX3_append_35 (by decide) ?_
      refine e_iadd dX3_append_36 ?_
      refine fp_X3_19 rfl dX3_append_37 ?_
      replace H := H _ rfl
      generalize zup σ3 1 1 ((σ3.1 1 1) + 1) = σ4 at H ⊢
      refine e_iinc (j := 2) (v := (y2 + (-8))) (ls' := [(2, .int (y2 + (-8))), (0, .ref (zad g 1)), (1, .int y1)]) dX3_append_40 rfl rfl (by decide) rfl ?_
      refine e_goto (tgt := 3) dX3_append_43 (by decide) ?_
      refine e_ls [1, 2, 0] rfl ?_
      exact H
set_option maxRecDepth 20000 in
set_option maxHeartbeats 2000000 in
theorem b_X3_begin {g : zG} {l : Launch} {K : zS → Prop} {X : String → zS → Prop} {σ : zS}
    (H : (∀ σ1 : zS, σ1 = zup σ 1 6 0 → (∀ σ2 : zS, σ2 = zup σ1 1 7 (-1) → (∀ σ3 : zS, σ3 = zup σ2 1 4 0 → CT g l M_X3_advance 0 [.ref (zad g 1)] σ3 (zQv (fun τ4 => K τ4) (fun E τ => X E τ)))))) :
    CT g l M_X3_begin 0 [.ref (zad g 1)] σ (zQv K X) := by
  refine CT_of rfl (by decide) (Nat.le_of_ble_eq_true rfl) ?_
  change EV _ _ _ _ _ 0 [(0, .ref (zad g 1))] [] _
  refine e_aload_n dX3_begin_0 rfl 0 rfl ?_
  refine e_iconst (v := 0) dX3_begin_1 (by decide) ?_
  refine fp_X3_22 rfl dX3_begin_2 ?_
  replace H := H _ rfl
  generalize zup σ 1 6 0 = σ1 at H ⊢
  refine e_aload_n dX3_begin_5 rfl 0 rfl ?_
  refine e_iconst (v := (-1)) dX3_begin_6 (by decide) ?_
  refine fp_X3_15 rfl dX3_begin_7 ?_
  replace H := H _ rfl
  generalize zup σ1 1 7 (-1) = σ2 at H ⊢
  refine e_aload_n dX3_begin_10 rfl 0 rfl ?_
  refine e_iconst (v := 0) dX3_begin_11 (by decide) ?_
  refine fp_X3_25 rfl dX3_begin_12 ?_
  replace H := H _ rfl
  generalize zup σ2 1 4 0 = σ3 at H ⊢
  refine e_aload_n dX3_begin_15 rfl 0 rfl ?_
  refine e_callVv (j1 := 0) (j2 := 0) (av := []) rfl rfl (Nat.le_of_ble_eq_true rfl) rfl rfl H i_X3_advance rfl n_X3_advance v_X3_advance q_X3_28 (by decide) (by decide) (Nat.le_of_ble_eq_true rfl) dX3_begin_16 (fun τ4 H => ?_) (fun E τ H => H)
  exact e_vret rfl dX3_begin_19 H
abbrev L_X3_advance_8 (g : zG) (l : Launch) (K : zS → Prop) (X : String → zS → Prop) (σ : zS) : Prop :=
  EV g l M_X3_advance 0 (zQv K X) 8 [(0, .ref (zad g 1))] [] σ
abbrev L_X3_advance_47 (g : zG) (l : Launch) (K : zS → Prop) (X : String → zS → Prop) (σ : zS) : Prop :=
  EV g l M_X3_advance 0 (zQv K X) 47 [(0, .ref (zad g 1))] [] σ
abbrev L_X3_advance_60 (g : zG) (l : Launch) (K : zS → Prop) (X : String → zS → Prop) (σ : zS) : Prop :=
  EV g l M_X3_advance 0 (zQv K X) 60 [(0, .ref (zad g 1))] [] σ
abbrev L_X3_advance_138 (g : zG) (l : Launch) (K : zS → Prop) (X : String → zS → Prop) (z0 : Int32) (σ : zS) : Prop :=
  EV g l M_X3_advance 0 (zQv K X) 138 [] [.int z0, .ref (zad g 1)] σ
abbrev L_X3_advance_176 (g : zG) (l : Launch) (K : zS → Prop) (X : String → zS → Prop) (z0 : Int32) (σ : zS) : Prop :=
  EV g l M_X3_advance 0 (zQv K X) 176 [(0, .ref (zad g 1))] [.int z0, .ref (zad g 1)] σ
abbrev L_X3_advance_196 (g : zG) (l : Launch) (K : zS → Prop) (X : String → zS → Prop) (z0 : Int32) (σ : zS) : Prop :=
  EV g l M_X3_advance 0 (zQv K X) 196 [] [.int z0, .ref (zad g 1)] σ
abbrev L_X3_advance_241 (g : zG) (l : Launch) (K : zS → Prop) (X : String → zS → Prop) (z0 : Int32) (σ : zS) : Prop :=
  EV g l M_X3_advance 0 (zQv K X) 241 [] [.int z0, .ref (zad g 1)] σ
abbrev L_X3_advance_244 (g : zG) (l : Launch) (K : zS → Prop) (X : String → zS → Prop) (σ : zS) : Prop :=
  EV g l M_X3_advance 0 (zQv K X) 244 [] [] σ
set_option maxRecDepth 20000 in
set_option maxHeartbeats 2000000 in
theorem b_X3_advance {g : zG} {l : Launch} {K : zS → Prop} {X : String → zS → Prop} {σ : zS}
    (H : (∀ σ1 : zS, σ1 = zup σ 1 3 (σ.1 1 4) → L_X3_advance_8 g l K X  σ1)) :
    CT g l M_X3_advance 0 [.ref (zad g 1)] σ (zQv K X) := by
  refine CT_of rfl (by decide) (Nat.le_of_ble_eq_true rfl) ?_
  change EV _ _ _ _ _ 0 [(0, .ref (zad g 1))] [] _
  refine e_aload_n dX3_advance_0 rfl 0 rfl ?_
  refine e_aload_n dX3_advance_1 rfl 0 rfl ?_
  refine fg_X3_25 rfl dX3_advance_2 ?_
  refine fp_X3_31 rfl dX3_advance_5 ?_
  replace H := H _ rfl
  generalize zup σ 1 3 (σ.1 1 4) = σ1 at H ⊢
  refine e_ls [0] rfl ?_
  exact H
set_option maxRecDepth 20000 in
set_option maxHeartbeats 2000000 in
theorem b_X3_advance_8 {g : zG} {l : Launch} {K : zS → Prop} {X : String → zS → Prop} {σ : zS}
    (H : (((σ.1 1 1) ≤ (σ.1 1 3) → L_X3_advance_60 g l K X  σ) ∧ (¬ (σ.1 1 1) ≤ (σ.1 1 3) → (vp_in (σ.1 1 3) 600 ∧ (((σ.1 2 (Int32.toNatClampNeg (σ.1 1 3))) = 32 → L_X3_advance_47 g l K X  σ) ∧ (¬ (σ.1 2 (Int32.toNatClampNeg (σ.1 1 3))) = 32 → (vp_in (σ.1 1 3) 600 ∧ ((¬ (σ.1 2 (Int32.toNatClampNeg (σ.1 1 3))) = 10 → L_X3_advance_60 g l K X  σ) ∧ ((σ.1 2 (Int32.toNatClampNeg (σ.1 1 3))) = 10 → L_X3_advance_47 g l K X  σ))))))))) :
    L_X3_advance_8 g l K X σ := by
  refine e_aload_n dX3_advance_8 rfl 0 rfl ?_
  refine fg_X3_31 rfl dX3_advance_9 ?_
  refine e_aload_n dX3_advance_12 rfl 0 rfl ?_
  refine fg_X3_19 rfl dX3_advance_13 ?_
  refine e_icmp_ge (tgt := 60) dX3_advance_16 (by decide) (fun h1 => ?_) (fun h1 => ?_)
  · replace H := H.1 h1
    refine e_ls [0] rfl ?_
    exact H
  · replace H := H.2 h1
    refine e_aload_n dX3_advance_19 rfl 0 rfl ?_
    refine fg_X3_9 rfl dX3_advance_20 ?_
    refine e_aload_n dX3_advance_23 rfl 0 rfl ?_
    refine fg_X3_31 rfl dX3_advance_24 ?_
    refine e_bald (n := 600) rfl (Nat.le_of_ble_eq_true rfl) H.1 dX3_advance_27 ?_
    replace H := H.2
    refine e_bipush (v := 32) dX3_advance_28 (by decide) ?_
    refine e_icmp_eq (tgt := 47) dX3_advance_30 (by decide) (fun h2 => ?_) (fun h2 => ?_)
    · replace H := H.1 h2
      refine e_ls [0] rfl ?_
      exact H
    · replace H := H.2 h2
      refine e_aload_n dX3_advance_33 rfl 0 rfl ?_
      refine fg_X3_9 rfl dX3_advance_34 ?_
      refine e_aload_n dX3_advance_37 rfl 0 rfl ?_
      refine fg_X3_31 rfl dX3_advance_38 ?_
      refine e_bald (n := 600) rfl (Nat.le_of_ble_eq_true rfl) H.1 dX3_advance_41 ?_
      replace H := H.2
      refine e_bipush (v := 10) dX3_advance_42 (by decide) ?_
      refine e_icmp_ne (tgt := 60) dX3_advance_44 (by decide) (fun h3 => ?_) (fun h3 => ?_)
      · replace H := H.1 h3
        refine e_ls [0] rfl ?_
        exact H
      · replace H := H.2 h3
        refine e_ls [0] rfl ?_
        exact H
set_option maxRecDepth 20000 in
set_option maxHeartbeats 2000000 in
theorem b_X3_advance_47 {g : zG} {l : Launch} {K : zS → Prop} {X : String → zS → Prop} {σ : zS}
    (H : (∀ σ1 : zS, σ1 = zup σ 1 3 ((σ.1 1 3) + 1) → L_X3_advance_8 g l K X  σ1)) :
    L_X3_advance_47 g l K X σ := by
  refine e_aload_n dX3_advance_47 rfl 0 rfl ?_
  refine e_dup dX3_advance_48 rfl ?_
  refine fg_X3_31 rfl dX3_advance_49 ?_
  refine e_iconst (v := 1) dX3_advance_52 (by decide) ?_
  refine e_iadd dX3_advance_53 ?_
  refine fp_X3_31 rfl dX3_advance_54 ?_
  replace H := H _ rfl
  generalize zup σ 1 3 ((σ.1 1 3) + 1) = σ1 at H ⊢
  refine e_goto (tgt := 8) dX3_advance_57 (by decide) ?_
  refine e_ls [0] rfl ?_
  exact H
set_option maxRecDepth 20000 in
set_option maxHeartbeats 2000000 in
theorem b_X3_advance_60 {g : zG} {l : Launch} {K : zS → Prop} {X : String → zS → Prop} {σ : zS}
    (H : CT g l M_X3_endOfRun 0 [.ref (zad g 1), .int 97, .int 122] σ (zQi (fun v1 τ1 => CT g l M_X3_endOfRun 0 [.ref (zad g 1), .int 48, .int 57] τ1 (zQi (fun v2 τ2 => (((τ2.1 1 3) < (τ2.1 1 1) → ((v1 ≤ (τ2.1 1 3) → ((v2 ≤ (τ2.1 1 3) → (∀ σ6 : zS, σ6 = zup τ2 1 4 ((τ2.1 1 3) + 1) → (vp_in (σ6.1 1 3) 600 ∧ CT g l M_X3_isSign 0 [.int (σ6.1 2 (Int32.toNatClampNeg (σ6.1 1 3)))] σ6 (zQi (fun v7 τ7 => ((v7 = 0 → L_X3_advance_241 g l K X 1 τ7) ∧ (¬ v7 = 0 → (vp_in (τ7.1 1 3) 600 ∧ L_X3_advance_241 g l K X (τ7.1 2 (Int32.toNatClampNeg (τ7.1 1 3))) τ7)))) (fun E τ => X E τ))))) ∧ (¬ v2 ≤ (τ2.1 1 3) → (∀ σ9 : zS, σ9 = zup τ2 1 4 v2 → ((3 < ((σ9.1 1 4) - (σ9.1 1 3)) → L_X3_advance_176 g l K X 1 σ9) ∧ (¬ 3 < ((σ9.1 1 4) - (σ9.1 1 3)) → L_X3_advance_176 g l K X 3 σ9)))))) ∧ (¬ v1 ≤ (τ2.1 1 3) → (∀ σ11 : zS, σ11 = zup τ2 1 4 v1 → ((8 < ((σ11.1 1 4) - (σ11.1 1 3)) → L_X3_advance_138 g l K X 1 σ11) ∧ (¬ 8 < ((σ11.1 1 4) - (σ11.1 1 3)) → L_X3_advance_138 g l K X 2 σ11)))))) ∧ (¬ (τ2.1 1 3) < (τ2.1 1 1) → (∀ σ13 : zS, σ13 = zup τ2 1 4 (τ2.1 1 3) → (∀ σ14 : zS, σ14 = zup σ13 1 2 0 → L_X3_advance_244 g l K X  σ14))))) (fun E τ => X E τ))) (fun E τ => X E τ))) :
    L_X3_advance_60 g l K X σ := by
  refine e_aload_n dX3_advance_60 rfl 0 rfl ?_
  refine e_bipush (v := 97) dX3_advance_61 (by decide) ?_
  refine e_bipush (v := 122) dX3_advance_63 (by decide) ?_
  refine e_callVi (j1 := 0) (j2 := 0) (av := [.int 97, .int 122]) rfl rfl (Nat.le_of_ble_eq_true rfl) rfl rfl H i_X3_endOfRun rfl n_X3_endOfRun v_X3_endOfRun q_X3_34 (by decide) (by decide) (Nat.le_of_ble_eq_true rfl) dX3_advance_65 (fun v1 τ1 H => ?_) (fun E τ H => H)
  refine e_istore_n (ls' := [(1, .int v1), (0, .ref (zad g 1))]) dX3_advance_68 rfl (by decide) rfl ?_
  refine e_aload_n dX3_advance_69 rfl 1 rfl ?_
  refine e_bipush (v := 48) dX3_advance_70 (by decide) ?_
  refine e_bipush (v := 57) dX3_advance_72 (by decide) ?_
  refine e_callVi (j1 := 0) (j2 := 0) (av := [.int 48, .int 57]) rfl rfl (Nat.le_of_ble_eq_true rfl) rfl rfl H i_X3_endOfRun rfl n_X3_endOfRun v_X3_endOfRun q_X3_34 (by decide) (by decide) (Nat.le_of_ble_eq_true rfl) dX3_advance_74 (fun v2 τ2 H => ?_) (fun E τ H => H)
  refine e_istore_n (ls' := [(2, .int v2), (1, .int v1), (0, .ref (zad g 1))]) dX3_advance_77 rfl (by decide) rfl ?_
  refine e_aload_n dX3_advance_78 rfl 2 rfl ?_
  refine fg_X3_31 rfl dX3_advance_79 ?_
  refine e_aload_n dX3_advance_82 rfl 2 rfl ?_
  refine fg_X3_19 rfl dX3_advance_83 ?_
  refine e_icmp_lt (tgt := 105) dX3_advance_86 (by decide) (fun h3 => ?_) (fun h3 => ?_)
  · replace H := H.1 h3
    refine e_iload_n dX3_advance_105 rfl 1 rfl ?_
    refine e_aload_n dX3_advance_106 rfl 2 rfl ?_
    refine fg_X3_31 rfl dX3_advance_107 ?_
    refine e_icmp_le (tgt := 144) dX3_advance_110 (by decide) (fun h4 => ?_) (fun h4 => ?_)
    · replace H := H.1 h4
      refine e_iload_n dX3_advance_144 rfl 0 rfl ?_
      refine e_aload_n dX3_advance_145 rfl 2 rfl ?_
      refine fg_X3_31 rfl dX3_advance_146 ?_
      refine e_icmp_le (tgt := 202) dX3_advance_149 (by decide) (fun h5 => ?_) (fun h5 => ?_)
      · replace H := H.1 h5
        refine e_aload_n dX3_advance_202 rfl 2 rfl ?_
        refine e_aload_n dX3_advance_203 rfl 2 rfl ?_
        refine fg_X3_31 rfl dX3_advance_204 ?_
        refine e_iconst (v := 1) dX3_advance_207 (by decide) ?_
        refine e_iadd dX3_advance_208 ?_
        refine fp_X3_25 rfl dX3_advance_209 ?_
        replace H := H _ rfl
        generalize zup τ2 1 4 ((τ2.1 1 3) + 1) = σ6 at H ⊢
        refine e_aload_n dX3_advance_212 rfl 2 rfl ?_
        refine e_aload_n dX3_advance_213 rfl 2 rfl ?_
        refine fg_X3_9 rfl dX3_advance_214 ?_
        refine e_aload_n dX3_advance_217 rfl 2 rfl ?_
        refine fg_X3_31 rfl dX3_advance_218 ?_
        refine e_bald (n := 600) rfl (Nat.le_of_ble_eq_true rfl) H.1 dX3_advance_221 ?_
        replace H := H.2
        refine e_callSi (j1 := 0) (j2 := 0) (av := [.int (σ6.1 2 (Int32.toNatClampNeg (σ6.1 1 3)))]) rfl H i_X3_isSign rfl s_X3_isSign q_X3_48 (by decide) (by decide) (Nat.le_of_ble_eq_true rfl) dX3_advance_222 (fun v7 τ7 H => ?_) (fun E τ H => H)
        refine e_if_eq (tgt := 240) dX3_advance_225 (by decide) (fun h8 => ?_) (fun h8 => ?_)
        · replace H := H.1 h8
          refine e_iconst (v := 1) dX3_advance_240 (by decide) ?_
          refine e_ls [] rfl ?_
          exact H
        · replace H := H.2 h8
          refine e_aload_n dX3_advance_228 rfl 2 rfl ?_
          refine fg_X3_9 rfl dX3_advance_229 ?_
          refine e_aload_n dX3_advance_232 rfl 2 rfl ?_
          refine fg_X3_31 rfl dX3_advance_233 ?_
          refine e_bald (n := 600) rfl (Nat.le_of_ble_eq_true rfl) H.1 dX3_advance_236 ?_
          replace H := H.2
          refine e_goto (tgt := 241) dX3_advance_237 (by decide) ?_
          refine e_ls [] rfl ?_
          exact H
      · replace H := H.2 h5
        refine e_aload_n dX3_advance_152 rfl 2 rfl ?_
        refine e_iload_n dX3_advance_153 rfl 0 rfl ?_
        refine fp_X3_25 rfl dX3_advance_154 ?_
        replace H := H _ rfl
        generalize zup τ2 1 4 v2 = σ9 at H ⊢
        refine e_aload_n dX3_advance_157 rfl 2 rfl ?_
        refine e_aload_n dX3_advance_158 rfl 2 rfl ?_
        refine fg_X3_25 rfl dX3_advance_159 ?_
        refine e_aload_n dX3_advance_162 rfl 2 rfl ?_
        refine fg_X3_31 rfl dX3_advance_163 ?_
        refine e_isub dX3_advance_166 ?_
        refine e_iconst (v := 3) dX3_advance_167 (by decide) ?_
        refine e_icmp_gt (tgt := 175) dX3_advance_168 (by decide) (fun h10 => ?_) (fun h10 => ?_)
        · replace H := H.1 h10
          refine e_iconst (v := 1) dX3_advance_175 (by decide) ?_
          refine e_ls [2] rfl ?_
          exact H
        · replace H := H.2 h10
          refine e_iconst (v := 3) dX3_advance_171 (by decide) ?_
          refine e_goto (tgt := 176) dX3_advance_172 (by decide) ?_
          refine e_ls [2] rfl ?_
          exact H
    · replace H := H.2 h4
      refine e_aload_n dX3_advance_113 rfl 2 rfl ?_
      refine e_iload_n dX3_advance_114 rfl 1 rfl ?_
      refine fp_X3_25 rfl dX3_advance_115 ?_
      replace H := H _ rfl
      generalize zup τ2 1 4 v1 = σ11 at H ⊢
      refine e_aload_n dX3_advance_118 rfl 2 rfl ?_
      refine e_aload_n dX3_advance_119 rfl 2 rfl ?_
      refine fg_X3_25 rfl dX3_advance_120 ?_
      refine e_aload_n dX3_advance_123 rfl 2 rfl ?_
      refine fg_X3_31 rfl dX3_advance_124 ?_
      refine e_isub dX3_advance_127 ?_
      refine e_bipush (v := 8) dX3_advance_128 (by decide) ?_
      refine e_icmp_gt (tgt := 137) dX3_advance_130 (by decide) (fun h12 => ?_) (fun h12 => ?_)
      · replace H := H.1 h12
        refine e_iconst (v := 1) dX3_advance_137 (by decide) ?_
        refine e_ls [] rfl ?_
        exact H
      · replace H := H.2 h12
        refine e_iconst (v := 2) dX3_advance_133 (by decide) ?_
        refine e_goto (tgt := 138) dX3_advance_134 (by decide) ?_
        refine e_ls [] rfl ?_
        exact H
  · replace H := H.2 h3
    refine e_aload_n dX3_advance_89 rfl 2 rfl ?_
    refine e_aload_n dX3_advance_90 rfl 2 rfl ?_
    refine fg_X3_31 rfl dX3_advance_91 ?_
    refine fp_X3_25 rfl dX3_advance_94 ?_
    replace H := H _ rfl
    generalize zup τ2 1 4 (τ2.1 1 3) = σ13 at H ⊢
    refine e_aload_n dX3_advance_97 rfl 2 rfl ?_
    refine e_iconst (v := 0) dX3_advance_98 (by decide) ?_
    refine fp_X3_38 rfl dX3_advance_99 ?_
    replace H := H _ rfl
    generalize zup σ13 1 2 0 = σ14 at H ⊢
    refine e_goto (tgt := 244) dX3_advance_102 (by decide) ?_
    refine e_ls [] rfl ?_
    exact H
set_option maxRecDepth 20000 in
set_option maxHeartbeats 2000000 in
theorem b_X3_advance_138 {g : zG} {l : Launch} {K : zS → Prop} {X : String → zS → Prop} {z0 : Int32} {σ : zS}
    (H : (∀ σ1 : zS, σ1 = zup σ 1 2 z0 → L_X3_advance_244 g l K X  σ1)) :
    L_X3_advance_138 g l K X z0 σ := by
  refine fp_X3_38 rfl dX3_advance_138 ?_
  replace H := H _ rfl
  generalize zup σ 1 2 z0 = σ1 at H ⊢
  refine e_goto (tgt := 244) dX3_advance_141 (by decide) ?_
  refine e_ls [] rfl ?_
  exact H
set_option maxRecDepth 20000 in
set_option maxHeartbeats 2000000 in
theorem b_X3_advance_176 {g : zG} {l : Launch} {K : zS → Prop} {X : String → zS → Prop} {z0 : Int32} {σ : zS}
    (H : (∀ σ1 : zS, σ1 = zup σ 1 2 z0 → ((¬ (σ1.1 1 2) = 3 → L_X3_advance_196 g l K X 0 σ1) ∧ ((σ1.1 1 2) = 3 → CT g l M_X3_numberHere 0 [.ref (zad g 1)] σ1 (zQi (fun v3 τ3 => L_X3_advance_196 g l K X v3 τ3) (fun E τ => X E τ)))))) :
    L_X3_advance_176 g l K X z0 σ := by
  refine fp_X3_38 rfl dX3_advance_176 ?_
  replace H := H _ rfl
  generalize zup σ 1 2 z0 = σ1 at H ⊢
  refine e_aload_n dX3_advance_179 rfl 0 rfl ?_
  refine e_aload_n dX3_advance_180 rfl 0 rfl ?_
  refine fg_X3_38 rfl dX3_advance_181 ?_
  refine e_iconst (v := 3) dX3_advance_184 (by decide) ?_
  refine e_icmp_ne (tgt := 195) dX3_advance_185 (by decide) (fun h2 => ?_) (fun h2 => ?_)
  · replace H := H.1 h2
    refine e_iconst (v := 0) dX3_advance_195 (by decide) ?_
    refine e_ls [] rfl ?_
    exact H
  · replace H := H.2 h2
    refine e_aload_n dX3_advance_188 rfl 0 rfl ?_
    refine e_callVi (j1 := 0) (j2 := 0) (av := []) rfl rfl (Nat.le_of_ble_eq_true rfl) rfl rfl H i_X3_numberHere rfl n_X3_numberHere v_X3_numberHere q_X3_41 (by decide) (by decide) (Nat.le_of_ble_eq_true rfl) dX3_advance_189 (fun v3 τ3 H => ?_) (fun E τ H => H)
    refine e_goto (tgt := 196) dX3_advance_192 (by decide) ?_
    refine e_ls [] rfl ?_
    exact H
set_option maxRecDepth 20000 in
set_option maxHeartbeats 2000000 in
theorem b_X3_advance_196 {g : zG} {l : Launch} {K : zS → Prop} {X : String → zS → Prop} {z0 : Int32} {σ : zS}
    (H : (∀ σ1 : zS, σ1 = zup σ 1 5 z0 → L_X3_advance_244 g l K X  σ1)) :
    L_X3_advance_196 g l K X z0 σ := by
  refine fp_X3_45 rfl dX3_advance_196 ?_
  replace H := H _ rfl
  generalize zup σ 1 5 z0 = σ1 at H ⊢
  refine e_goto (tgt := 244) dX3_advance_199 (by decide) ?_
  refine e_ls [] rfl ?_
  exact H
set_option maxRecDepth 20000 in
set_option maxHeartbeats 2000000 in
theorem b_X3_advance_241 {g : zG} {l : Launch} {K : zS → Prop} {X : String → zS → Prop} {z0 : Int32} {σ : zS}
    (H : (∀ σ1 : zS, σ1 = zup σ 1 2 z0 → L_X3_advance_244 g l K X  σ1)) :
    L_X3_advance_241 g l K X z0 σ := by
  refine fp_X3_38 rfl dX3_advance_241 ?_
  replace H := H _ rfl
  generalize zup σ 1 2 z0 = σ1 at H ⊢
  refine e_ls [] rfl ?_
  exact H
set_option maxRecDepth 20000 in
set_option maxHeartbeats 2000000 in
theorem b_X3_advance_244 {g : zG} {l : Launch} {K : zS → Prop} {X : String → zS → Prop} {σ : zS}
    (H : K σ) :
    L_X3_advance_244 g l K X σ := by
  exact e_vret rfl dX3_advance_244 H
set_option maxRecDepth 20000 in
set_option maxHeartbeats 2000000 in
theorem b_X3_isSign {g : zG} {l : Launch} {K : Int32 → zS → Prop} {X : String → zS → Prop} {x0 : Int32} {σ : zS}
    (H : ((x0 = 59 → K 1 σ) ∧ (¬ x0 = 59 → ((x0 = 40 → K 1 σ) ∧ (¬ x0 = 40 → ((¬ x0 = 41 → K 0 σ) ∧ (x0 = 41 → K 1 σ))))))) :
    CT g l M_X3_isSign 0 [.int x0] σ (zQi K X) := by
  refine CT_of rfl (by decide) (Nat.le_of_ble_eq_true rfl) ?_
  change EV _ _ _ _ _ 0 [(0, .int x0)] [] _
  refine e_iload_n dX3_isSign_0 rfl 0 rfl ?_
  refine e_bipush (v := 59) dX3_isSign_1 (by decide) ?_
  refine e_icmp_eq (tgt := 18) dX3_isSign_3 (by decide) (fun h1 => ?_) (fun h1 => ?_)
  · replace H := H.1 h1
    refine e_iconst (v := 1) dX3_isSign_18 (by decide) ?_
    refine e_goto (tgt := 23) dX3_isSign_19 (by decide) ?_
    exact e_zret rfl rfl dX3_isSign_23 H
  · replace H := H.2 h1
    refine e_iload_n dX3_isSign_6 rfl 0 rfl ?_
    refine e_bipush (v := 40) dX3_isSign_7 (by decide) ?_
    refine e_icmp_eq (tgt := 18) dX3_isSign_9 (by decide) (fun h2 => ?_) (fun h2 => ?_)
    · replace H := H.1 h2
      refine e_iconst (v := 1) dX3_isSign_18 (by decide) ?_
      refine e_goto (tgt := 23) dX3_isSign_19 (by decide) ?_
      exact e_zret rfl rfl dX3_isSign_23 H
    · replace H := H.2 h2
      refine e_iload_n dX3_isSign_12 rfl 0 rfl ?_
      refine e_bipush (v := 41) dX3_isSign_13 (by decide) ?_
      refine e_icmp_ne (tgt := 22) dX3_isSign_15 (by decide) (fun h3 => ?_) (fun h3 => ?_)
      · replace H := H.1 h3
        refine e_iconst (v := 0) dX3_isSign_22 (by decide) ?_
        exact e_zret rfl rfl dX3_isSign_23 H
      · replace H := H.2 h3
        refine e_iconst (v := 1) dX3_isSign_18 (by decide) ?_
        refine e_goto (tgt := 23) dX3_isSign_19 (by decide) ?_
        exact e_zret rfl rfl dX3_isSign_23 H
abbrev L_X3_endOfRun_5 (g : zG) (l : Launch) (K : Int32 → zS → Prop) (X : String → zS → Prop) (y1 : Int32) (y2 : Int32) (y3 : Int32) (σ : zS) : Prop :=
  EV g l M_X3_endOfRun 0 (zQi K X) 5 [(0, .ref (zad g 1)), (1, .int y1), (2, .int y2), (3, .int y3)] [] σ
set_option maxRecDepth 20000 in
set_option maxHeartbeats 2000000 in
theorem b_X3_endOfRun {g : zG} {l : Launch} {K : Int32 → zS → Prop} {X : String → zS → Prop} {x1 : Int32} {x2 : Int32} {σ : zS}
    (H : L_X3_endOfRun_5 g l K X x1 x2 (σ.1 1 3) σ) :
    CT g l M_X3_endOfRun 0 [.ref (zad g 1), .int x1, .int x2] σ (zQi K X) := by
  refine CT_of rfl (by decide) (Nat.le_of_ble_eq_true rfl) ?_
  change EV _ _ _ _ _ 0 [(0, .ref (zad g 1)), (1, .int x1), (2, .int x2)] [] _
  refine e_aload_n dX3_endOfRun_0 rfl 0 rfl ?_
  refine fg_X3_31 rfl dX3_endOfRun_1 ?_
  refine e_istore_n (ls' := [(3, .int (σ.1 1 3)), (0, .ref (zad g 1)), (1, .int x1), (2, .int x2)]) dX3_endOfRun_4 rfl (by decide) rfl ?_
  refine e_ls [1, 2, 3, 0] rfl ?_
  exact H
set_option maxRecDepth 20000 in
set_option maxHeartbeats 2000000 in
theorem b_X3_endOfRun_5 {g : zG} {l : Launch} {K : Int32 → zS → Prop} {X : String → zS → Prop} {y1 : Int32} {y2 : Int32} {y3 : Int32} {σ : zS}
    (H : (((σ.1 1 1) ≤ y3 → K y3 σ) ∧ (¬ (σ.1 1 1) ≤ y3 → (vp_in y3 600 ∧ (((σ.1 2 (Int32.toNatClampNeg y3)) < y1 → K y3 σ) ∧ (¬ (σ.1 2 (Int32.toNatClampNeg y3)) < y1 → (vp_in y3 600 ∧ ((y2 < (σ.1 2 (Int32.toNatClampNeg y3)) → K y3 σ) ∧ (¬ y2 < (σ.1 2 (Int32.toNatClampNeg y3)) → L_X3_endOfRun_5 g l K X y1 y2 (y3 + 1) σ))))))))) :
    L_X3_endOfRun_5 g l K X y1 y2 y3 σ := by
  refine e_iload_n dX3_endOfRun_5 rfl 3 rfl ?_
  refine e_aload_n dX3_endOfRun_6 rfl 0 rfl ?_
  refine fg_X3_19 rfl dX3_endOfRun_7 ?_
  refine e_icmp_ge (tgt := 39) dX3_endOfRun_10 (by decide) (fun h1 => ?_) (fun h1 => ?_)
  · replace H := H.1 h1
    refine e_iload_n dX3_endOfRun_39 rfl 3 rfl ?_
    exact e_iret rfl dX3_endOfRun_40 H
  · replace H := H.2 h1
    refine e_aload_n dX3_endOfRun_13 rfl 0 rfl ?_
    refine fg_X3_9 rfl dX3_endOfRun_14 ?_
    refine e_iload_n dX3_endOfRun_17 rfl 3 rfl ?_
    refine e_bald (n := 600) rfl (Nat.le_of_ble_eq_true rfl) H.1 dX3_endOfRun_18 ?_
    replace H := H.2
    refine e_iload_n dX3_endOfRun_19 rfl 1 rfl ?_
    refine e_icmp_lt (tgt := 39) dX3_endOfRun_20 (by decide) (fun h2 => ?_) (fun h2 => ?_)
    · replace H := H.1 h2
      refine e_iload_n dX3_endOfRun_39 rfl 3 rfl ?_
      exact e_iret rfl dX3_endOfRun_40 H
    · replace H := H.2 h2
      refine e_aload_n dX3_endOfRun_23 rfl 0 rfl ?_
      refine fg_X3_9 rfl dX3_endOfRun_24 ?_
      refine e_iload_n dX3_endOfRun_27 rfl 3 rfl ?_
      refine e_bald (n := 600) rfl (Nat.le_of_ble_eq_true rfl) H.1 dX3_endOfRun_28 ?_
      replace H := H.2
      refine e_iload_n dX3_endOfRun_29 rfl 2 rfl ?_
      refine e_icmp_gt (tgt := 39) dX3_endOfRun_30 (by decide) (fun h3 => ?_) (fun h3 => ?_)
      · replace H := H.1 h3
        refine e_iload_n dX3_endOfRun_39 rfl 3 rfl ?_
        exact e_iret rfl dX3_endOfRun_40 H
      · replace H := H.2 h3
        refine e_iinc (j := 3) (v := (y3 + 1)) (ls' := [(3, .int (y3 + 1)), (0, .ref (zad g 1)), (1, .int y1), (2, .int y2)]) dX3_endOfRun_33 rfl rfl (by decide) rfl ?_
        refine e_goto (tgt := 5) dX3_endOfRun_36 (by decide) ?_
        refine e_ls [1, 2, 3, 0] rfl ?_
        exact H
abbrev L_X3_numberHere_7 (g : zG) (l : Launch) (K : Int32 → zS → Prop) (X : String → zS → Prop) (y1 : Int32) (y2 : Int32) (σ : zS) : Prop :=
  EV g l M_X3_numberHere 0 (zQi K X) 7 [(0, .ref (zad g 1)), (1, .int y1), (2, .int y2)] [] σ
set_option maxRecDepth 20000 in
set_option maxHeartbeats 2000000 in
theorem b_X3_numberHere {g : zG} {l : Launch} {K : Int32 → zS → Prop} {X : String → zS → Prop} {σ : zS}
    (H : L_X3_numberHere_7 g l K X 0 (σ.1 1 3) σ) :
    CT g l M_X3_numberHere 0 [.ref (zad g 1)] σ (zQi K X) := by
  refine CT_of rfl (by decide) (Nat.le_of_ble_eq_true rfl) ?_
  change EV _ _ _ _ _ 0 [(0, .ref (zad g 1))] [] _
  refine e_iconst (v := 0) dX3_numberHere_0 (by decide) ?_
  refine e_istore_n (ls' := [(1, .int 0), (0, .ref (zad g 1))]) dX3_numberHere_1 rfl (by decide) rfl ?_
  refine e_aload_n dX3_numberHere_2 rfl 1 rfl ?_
  refine fg_X3_31 rfl dX3_numberHere_3 ?_
  refine e_istore_n (ls' := [(2, .int (σ.1 1 3)), (1, .int 0), (0, .ref (zad g 1))]) dX3_numberHere_6 rfl (by decide) rfl ?_
  refine e_ls [2, 1, 0] rfl ?_
  exact H
set_option maxRecDepth 20000 in
set_option maxHeartbeats 2000000 in
theorem b_X3_numberHere_7 {g : zG} {l : Launch} {K : Int32 → zS → Prop} {X : String → zS → Prop} {y1 : Int32} {y2 : Int32} {σ : zS}
    (H : (((σ.1 1 4) ≤ y2 → K y1 σ) ∧ (¬ (σ.1 1 4) ≤ y2 → (vp_in y2 600 ∧ L_X3_numberHere_7 g l K X (((10 * y1) + (σ.1 2 (Int32.toNatClampNeg y2))) - 48) (y2 + 1) σ)))) :
    L_X3_numberHere_7 g l K X y1 y2 σ := by
  refine e_iload_n dX3_numberHere_7 rfl 2 rfl ?_
  refine e_aload_n dX3_numberHere_8 rfl 0 rfl ?_
  refine fg_X3_25 rfl dX3_numberHere_9 ?_
  refine e_icmp_ge (tgt := 36) dX3_numberHere_12 (by decide) (fun h1 => ?_) (fun h1 => ?_)
  · replace H := H.1 h1
    refine e_iload_n dX3_numberHere_36 rfl 1 rfl ?_
    exact e_iret rfl dX3_numberHere_37 H
  · replace H := H.2 h1
    refine e_bipush (v := 10) dX3_numberHere_15 (by decide) ?_
    refine e_iload_n dX3_numberHere_17 rfl 1 rfl ?_
    refine e_imul dX3_numberHere_18 ?_
    refine e_aload_n dX3_numberHere_19 rfl 0 rfl ?_
    refine fg_X3_9 rfl dX3_numberHere_20 ?_
    refine e_iload_n dX3_numberHere_23 rfl 2 rfl ?_
    refine e_bald (n := 600) rfl (Nat.le_of_ble_eq_true rfl) H.1 dX3_numberHere_24 ?_
    replace H := H.2
    refine e_iadd dX3_numberHere_25 ?_
    refine e_bipush (v := 48) dX3_numberHere_26 (by decide) ?_
    refine e_isub dX3_numberHere_28 ?_
    refine e_istore_n (ls' := [(1, .int (((10 * y1) + (σ.1 2 (Int32.toNatClampNeg y2))) - 48)), (0, .ref (zad g 1)), (2, .int y2)]) dX3_numberHere_29 rfl (by decide) rfl ?_
    refine e_iinc (j := 2) (v := (y2 + 1)) (ls' := [(2, .int (y2 + 1)), (1, .int (((10 * y1) + (σ.1 2 (Int32.toNatClampNeg y2))) - 48)), (0, .ref (zad g 1))]) dX3_numberHere_30 rfl rfl (by decide) rfl ?_
    refine e_goto (tgt := 7) dX3_numberHere_33 (by decide) ?_
    refine e_ls [2, 1, 0] rfl ?_
    exact H
set_option maxRecDepth 20000 in
set_option maxHeartbeats 2000000 in
theorem b_X3_isAtEnd {g : zG} {l : Launch} {K : Int32 → zS → Prop} {X : String → zS → Prop} {σ : zS}
    (H : ((¬ (σ.1 1 2) = 0 → K 0 σ) ∧ ((σ.1 1 2) = 0 → K 1 σ))) :
    CT g l M_X3_isAtEnd 0 [.ref (zad g 1)] σ (zQi K X) := by
  refine CT_of rfl (by decide) (Nat.le_of_ble_eq_true rfl) ?_
  change EV _ _ _ _ _ 0 [(0, .ref (zad g 1))] [] _
  refine e_aload_n dX3_isAtEnd_0 rfl 0 rfl ?_
  refine fg_X3_38 rfl dX3_isAtEnd_1 ?_
  refine e_if_ne (tgt := 11) dX3_isAtEnd_4 (by decide) (fun h1 => ?_) (fun h1 => ?_)
  · replace H := H.1 h1
    refine e_iconst (v := 0) dX3_isAtEnd_11 (by decide) ?_
    exact e_zret rfl rfl dX3_isAtEnd_12 H
  · replace H := H.2 h1
    refine e_iconst (v := 1) dX3_isAtEnd_7 (by decide) ?_
    refine e_goto (tgt := 12) dX3_isAtEnd_8 (by decide) ?_
    exact e_zret rfl rfl dX3_isAtEnd_12 H
set_option maxRecDepth 20000 in
set_option maxHeartbeats 2000000 in
theorem b_X3_isAtSign {g : zG} {l : Launch} {K : Int32 → zS → Prop} {X : String → zS → Prop} {x1 : Int32} {σ : zS}
    (H : ((¬ (σ.1 1 2) = x1 → K 0 σ) ∧ ((σ.1 1 2) = x1 → K 1 σ))) :
    CT g l M_X3_isAtSign 0 [.ref (zad g 1), .int x1] σ (zQi K X) := by
  refine CT_of rfl (by decide) (Nat.le_of_ble_eq_true rfl) ?_
  change EV _ _ _ _ _ 0 [(0, .ref (zad g 1)), (1, .int x1)] [] _
  refine e_aload_n dX3_isAtSign_0 rfl 0 rfl ?_
  refine fg_X3_38 rfl dX3_isAtSign_1 ?_
  refine e_iload_n dX3_isAtSign_4 rfl 1 rfl ?_
  refine e_icmp_ne (tgt := 12) dX3_isAtSign_5 (by decide) (fun h1 => ?_) (fun h1 => ?_)
  · replace H := H.1 h1
    refine e_iconst (v := 0) dX3_isAtSign_12 (by decide) ?_
    exact e_zret rfl rfl dX3_isAtSign_13 H
  · replace H := H.2 h1
    refine e_iconst (v := 1) dX3_isAtSign_8 (by decide) ?_
    refine e_goto (tgt := 13) dX3_isAtSign_9 (by decide) ?_
    exact e_zret rfl rfl dX3_isAtSign_13 H
abbrev L_X3_isAtWord_28 (g : zG) (l : Launch) (K : Int32 → zS → Prop) (X : String → zS → Prop) (w : Nat) (y2 : Int32) (σ : zS) : Prop :=
  EV g l M_X3_isAtWord 0 (zQi K X) 28 [(0, .ref (zad g 1)), (1, .ref (g.2.2.2.2.1 w)), (2, .int y2)] [] σ
set_option maxRecDepth 20000 in
set_option maxHeartbeats 2000000 in
theorem b_X3_isAtWord {g : zG} {l : Launch} {K : Int32 → zS → Prop} {X : String → zS → Prop} {w : Nat} {σ : zS} (hw : w < 15)
    (H : ((¬ (σ.1 1 2) = 2 → K 0 σ) ∧ ((σ.1 1 2) = 2 → ((((σ.1 1 4) - (σ.1 1 3)) = (nI (zLen.getD w 0)) → L_X3_isAtWord_28 g l K X w 0 σ) ∧ (¬ ((σ.1 1 4) - (σ.1 1 3)) = (nI (zLen.getD w 0)) → K 0 σ))))) :
    CT g l M_X3_isAtWord 0 [.ref (zad g 1), .ref (g.2.2.2.2.1 w)] σ (zQi K X) := by
  refine CT_of rfl (by decide) (Nat.le_of_ble_eq_true rfl) ?_
  change EV _ _ _ _ _ 0 [(0, .ref (zad g 1)), (1, .ref (g.2.2.2.2.1 w))] [] _
  refine e_aload_n dX3_isAtWord_0 rfl 0 rfl ?_
  refine fg_X3_38 rfl dX3_isAtWord_1 ?_
  refine e_iconst (v := 2) dX3_isAtWord_4 (by decide) ?_
  refine e_icmp_ne (tgt := 24) dX3_isAtWord_5 (by decide) (fun h1 => ?_) (fun h1 => ?_)
  · replace H := H.1 h1
    refine e_iconst (v := 0) dX3_isAtWord_24 (by decide) ?_
    exact e_zret rfl rfl dX3_isAtWord_25 H
  · replace H := H.2 h1
    refine e_aload_n dX3_isAtWord_8 rfl 0 rfl ?_
    refine fg_X3_25 rfl dX3_isAtWord_9 ?_
    refine e_aload_n dX3_isAtWord_12 rfl 0 rfl ?_
    refine fg_X3_31 rfl dX3_isAtWord_13 ?_
    refine e_isub dX3_isAtWord_16 ?_
    refine e_aload_n dX3_isAtWord_17 rfl 1 rfl ?_
    refine e_strlen hw q_X3_52 (by decide) (Nat.le_of_ble_eq_true rfl) dX3_isAtWord_18 ?_
    refine e_icmp_eq (tgt := 26) dX3_isAtWord_21 (by decide) (fun h2 => ?_) (fun h2 => ?_)
    · replace H := H.1 h2
      refine e_iconst (v := 0) dX3_isAtWord_26 (by decide) ?_
      refine e_istore_n (ls' := [(2, .int 0), (0, .ref (zad g 1)), (1, .ref (g.2.2.2.2.1 w))]) dX3_isAtWord_27 rfl (by decide) rfl ?_
      refine e_ls [1, 2, 0] rfl ?_
      exact H
    · replace H := H.2 h2
      refine e_iconst (v := 0) dX3_isAtWord_24 (by decide) ?_
      exact e_zret rfl rfl dX3_isAtWord_25 H
set_option maxRecDepth 20000 in
set_option maxHeartbeats 2000000 in
theorem b_X3_isAtWord_28 {g : zG} {l : Launch} {K : Int32 → zS → Prop} {X : String → zS → Prop} {w : Nat} {y2 : Int32} {σ : zS} (hw : w < 15)
    (H : (((nI (zLen.getD w 0)) ≤ y2 → K 1 σ) ∧ (¬ (nI (zLen.getD w 0)) ≤ y2 → (vp_in ((σ.1 1 3) + y2) 600 ∧ (vp_in y2 (zLen.getD w 0) ∧ (((σ.1 2 (Int32.toNatClampNeg ((σ.1 1 3) + y2))) = ((zByt.getD w []).getD (Int32.toNatClampNeg y2) 0) → L_X3_isAtWord_28 g l K X w (y2 + 1) σ) ∧ (¬ (σ.1 2 (Int32.toNatClampNeg ((σ.1 1 3) + y2))) = ((zByt.getD w []).getD (Int32.toNatClampNeg y2) 0) → K 0 σ))))))) :
    L_X3_isAtWord_28 g l K X w y2 σ := by
  refine e_iload_n dX3_isAtWord_28 rfl 2 rfl ?_
  refine e_aload_n dX3_isAtWord_29 rfl 1 rfl ?_
  refine e_strlen hw q_X3_52 (by decide) (Nat.le_of_ble_eq_true rfl) dX3_isAtWord_30 ?_
  refine e_icmp_ge (tgt := 63) dX3_isAtWord_33 (by decide) (fun h1 => ?_) (fun h1 => ?_)
  · replace H := H.1 h1
    refine e_iconst (v := 1) dX3_isAtWord_63 (by decide) ?_
    exact e_zret rfl rfl dX3_isAtWord_64 H
  · replace H := H.2 h1
    refine e_aload_n dX3_isAtWord_36 rfl 0 rfl ?_
    refine fg_X3_9 rfl dX3_isAtWord_37 ?_
    refine e_aload_n dX3_isAtWord_40 rfl 0 rfl ?_
    refine fg_X3_31 rfl dX3_isAtWord_41 ?_
    refine e_iload_n dX3_isAtWord_44 rfl 2 rfl ?_
    refine e_iadd dX3_isAtWord_45 ?_
    refine e_bald (n := 600) rfl (Nat.le_of_ble_eq_true rfl) H.1 dX3_isAtWord_46 ?_
    replace H := H.2
    refine e_aload_n dX3_isAtWord_47 rfl 1 rfl ?_
    refine e_iload_n dX3_isAtWord_48 rfl 2 rfl ?_
    refine e_charAt hw H.1 q_X3_56 (by decide) (Nat.le_of_ble_eq_true rfl) dX3_isAtWord_49 ?_
    replace H := H.2
    refine e_icmp_eq (tgt := 57) dX3_isAtWord_52 (by decide) (fun h2 => ?_) (fun h2 => ?_)
    · replace H := H.1 h2
      refine e_iinc (j := 2) (v := (y2 + 1)) (ls' := [(2, .int (y2 + 1)), (0, .ref (zad g 1)), (1, .ref (g.2.2.2.2.1 w))]) dX3_isAtWord_57 rfl rfl (by decide) rfl ?_
      refine e_goto (tgt := 28) dX3_isAtWord_60 (by decide) ?_
      refine e_ls [1, 2, 0] rfl ?_
      exact H
    · replace H := H.2 h2
      refine e_iconst (v := 0) dX3_isAtWord_55 (by decide) ?_
      exact e_zret rfl rfl dX3_isAtWord_56 H
set_option maxRecDepth 20000 in
set_option maxHeartbeats 2000000 in
theorem b_X3_fail {g : zG} {l : Launch} {K : Int32 → zS → Prop} {X : String → zS → Prop} {x1 : Int32} {σ : zS}
    (H : (∀ σ1 : zS, σ1 = zup σ 1 6 x1 → (∀ σ2 : zS, σ2 = zup σ1 1 7 (σ1.1 1 3) → K 0 σ2))) :
    CT g l M_X3_fail 0 [.ref (zad g 1), .int x1] σ (zQi K X) := by
  refine CT_of rfl (by decide) (Nat.le_of_ble_eq_true rfl) ?_
  change EV _ _ _ _ _ 0 [(0, .ref (zad g 1)), (1, .int x1)] [] _
  refine e_aload_n dX3_fail_0 rfl 0 rfl ?_
  refine e_iload_n dX3_fail_1 rfl 1 rfl ?_
  refine fp_X3_22 rfl dX3_fail_2 ?_
  replace H := H _ rfl
  generalize zup σ 1 6 x1 = σ1 at H ⊢
  refine e_aload_n dX3_fail_5 rfl 0 rfl ?_
  refine e_aload_n dX3_fail_6 rfl 0 rfl ?_
  refine fg_X3_31 rfl dX3_fail_7 ?_
  refine fp_X3_15 rfl dX3_fail_10 ?_
  replace H := H _ rfl
  generalize zup σ1 1 7 (σ1.1 1 3) = σ2 at H ⊢
  refine e_iconst (v := 0) dX3_fail_13 (by decide) ?_
  exact e_zret rfl rfl dX3_fail_14 H
set_option maxRecDepth 20000 in
set_option maxHeartbeats 2000000 in
theorem b_X3_takeSign {g : zG} {l : Launch} {K : Int32 → zS → Prop} {X : String → zS → Prop} {x1 : Int32} {σ : zS}
    (H : CT g l M_X3_isAtSign 0 [.ref (zad g 1), .int x1] σ (zQi (fun v1 τ1 => ((¬ v1 = 0 → CT g l M_X3_advance 0 [.ref (zad g 1)] τ1 (zQv (fun τ3 => K 1 τ3) (fun E τ => X E τ))) ∧ (v1 = 0 → CT g l M_X3_fail 0 [.ref (zad g 1), .int 1] τ1 (zQi (fun v4 τ4 => (zbl v4 ∧ K v4 τ4)) (fun E τ => X E τ))))) (fun E τ => X E τ))) :
    CT g l M_X3_takeSign 0 [.ref (zad g 1), .int x1] σ (zQi K X) := by
  refine CT_of rfl (by decide) (Nat.le_of_ble_eq_true rfl) ?_
  change EV _ _ _ _ _ 0 [(0, .ref (zad g 1)), (1, .int x1)] [] _
  refine e_aload_n dX3_takeSign_0 rfl 0 rfl ?_
  refine e_iload_n dX3_takeSign_1 rfl 1 rfl ?_
  refine e_callVi (j1 := 0) (j2 := 0) (av := [.int x1]) rfl rfl (Nat.le_of_ble_eq_true rfl) rfl rfl H i_X3_isAtSign rfl n_X3_isAtSign v_X3_isAtSign q_X3_60 (by decide) (by decide) (Nat.le_of_ble_eq_true rfl) dX3_takeSign_2 (fun v1 τ1 H => ?_) (fun E τ H => H)
  refine e_if_ne (tgt := 14) dX3_takeSign_5 (by decide) (fun h2 => ?_) (fun h2 => ?_)
  · replace H := H.1 h2
    refine e_aload_n dX3_takeSign_14 rfl 0 rfl ?_
    refine e_callVv (j1 := 0) (j2 := 0) (av := []) rfl rfl (Nat.le_of_ble_eq_true rfl) rfl rfl H i_X3_advance rfl n_X3_advance v_X3_advance q_X3_28 (by decide) (by decide) (Nat.le_of_ble_eq_true rfl) dX3_takeSign_15 (fun τ3 H => ?_) (fun E τ H => H)
    refine e_iconst (v := 1) dX3_takeSign_18 (by decide) ?_
    exact e_zret rfl rfl dX3_takeSign_19 H
  · replace H := H.2 h2
    refine e_aload_n dX3_takeSign_8 rfl 0 rfl ?_
    refine e_iconst (v := 1) dX3_takeSign_9 (by decide) ?_
    refine e_callVi (j1 := 0) (j2 := 0) (av := [.int 1]) rfl rfl (Nat.le_of_ble_eq_true rfl) rfl rfl H i_X3_fail rfl n_X3_fail v_X3_fail q_X3_64 (by decide) (by decide) (Nat.le_of_ble_eq_true rfl) dX3_takeSign_10 (fun v4 τ4 H => ?_) (fun E τ H => H)
    exact e_zret rfl (zbl_n H.1) dX3_takeSign_13 H.2
set_option maxRecDepth 20000 in
set_option maxHeartbeats 2000000 in
theorem b_X3_takeNumber {g : zG} {l : Launch} {K : Int32 → zS → Prop} {X : String → zS → Prop} {x1 : Int32} {x2 : Int32} {σ : zS}
    (H : (((σ.1 1 2) = 3 → (((σ.1 1 5) < x1 → CT g l M_X3_fail 0 [.ref (zad g 1), .int 2] σ (zQi (fun v3 τ3 => K (-1) τ3) (fun E τ => X E τ))) ∧ (¬ (σ.1 1 5) < x1 → (((σ.1 1 5) ≤ x2 → CT g l M_X3_advance 0 [.ref (zad g 1)] σ (zQv (fun τ5 => K (σ.1 1 5) τ5) (fun E τ => X E τ))) ∧ (¬ (σ.1 1 5) ≤ x2 → CT g l M_X3_fail 0 [.ref (zad g 1), .int 2] σ (zQi (fun v6 τ6 => K (-1) τ6) (fun E τ => X E τ))))))) ∧ (¬ (σ.1 1 2) = 3 → CT g l M_X3_fail 0 [.ref (zad g 1), .int 1] σ (zQi (fun v7 τ7 => K (-1) τ7) (fun E τ => X E τ))))) :
    CT g l M_X3_takeNumber 0 [.ref (zad g 1), .int x1, .int x2] σ (zQi K X) := by
  refine CT_of rfl (by decide) (Nat.le_of_ble_eq_true rfl) ?_
  change EV _ _ _ _ _ 0 [(0, .ref (zad g 1)), (1, .int x1), (2, .int x2)] [] _
  refine e_aload_n dX3_takeNumber_0 rfl 0 rfl ?_
  refine fg_X3_38 rfl dX3_takeNumber_1 ?_
  refine e_iconst (v := 3) dX3_takeNumber_4 (by decide) ?_
  refine e_icmp_eq (tgt := 16) dX3_takeNumber_5 (by decide) (fun h1 => ?_) (fun h1 => ?_)
  · replace H := H.1 h1
    refine e_aload_n dX3_takeNumber_16 rfl 0 rfl ?_
    refine fg_X3_45 rfl dX3_takeNumber_17 ?_
    refine e_iload_n dX3_takeNumber_20 rfl 1 rfl ?_
    refine e_icmp_lt (tgt := 32) dX3_takeNumber_21 (by decide) (fun h2 => ?_) (fun h2 => ?_)
    · replace H := H.1 h2
      refine e_aload_n dX3_takeNumber_32 rfl 0 rfl ?_
      refine e_iconst (v := 2) dX3_takeNumber_33 (by decide) ?_
      refine e_callVi (j1 := 0) (j2 := 0) (av := [.int 2]) rfl rfl (Nat.le_of_ble_eq_true rfl) rfl rfl H i_X3_fail rfl n_X3_fail v_X3_fail q_X3_64 (by decide) (by decide) (Nat.le_of_ble_eq_true rfl) dX3_takeNumber_34 (fun v3 τ3 H => ?_) (fun E τ H => H)
      refine e_pop dX3_takeNumber_37 rfl ?_
      refine e_iconst (v := (-1)) dX3_takeNumber_38 (by decide) ?_
      exact e_iret rfl dX3_takeNumber_39 H
    · replace H := H.2 h2
      refine e_aload_n dX3_takeNumber_24 rfl 0 rfl ?_
      refine fg_X3_45 rfl dX3_takeNumber_25 ?_
      refine e_iload_n dX3_takeNumber_28 rfl 2 rfl ?_
      refine e_icmp_le (tgt := 40) dX3_takeNumber_29 (by decide) (fun h4 => ?_) (fun h4 => ?_)
      · replace H := H.1 h4
        refine e_aload_n dX3_takeNumber_40 rfl 0 rfl ?_
        refine fg_X3_45 rfl dX3_takeNumber_41 ?_
        refine e_istore_n (ls' := [(3, .int (σ.1 1 5)), (0, .ref (zad g 1)), (1, .int x1), (2, .int x2)]) dX3_takeNumber_44 rfl (by decide) rfl ?_
        refine e_aload_n dX3_takeNumber_45 rfl 1 rfl ?_
        refine e_callVv (j1 := 0) (j2 := 0) (av := []) rfl rfl (Nat.le_of_ble_eq_true rfl) rfl rfl H i_X3_advance rfl n_X3_advance v_X3_advance q_X3_28 (by decide) (by decide) (Nat.le_of_ble_eq_true rfl) dX3_takeNumber_46 (fun τ5 H => ?_) (fun E τ H => H)
        refine e_iload_n dX3_takeNumber_49 rfl 0 rfl ?_
        exact e_iret rfl dX3_takeNumber_50 H
      · replace H := H.2 h4
        refine e_aload_n dX3_takeNumber_32 rfl 0 rfl ?_
        refine e_iconst (v := 2) dX3_takeNumber_33 (by decide) ?_
        refine e_callVi (j1 := 0) (j2 := 0) (av := [.int 2]) rfl rfl (Nat.le_of_ble_eq_true rfl) rfl rfl H i_X3_fail rfl n_X3_fail v_X3_fail q_X3_64 (by decide) (by decide) (Nat.le_of_ble_eq_true rfl) dX3_takeNumber_34 (fun v6 τ6 H => ?_) (fun E τ H => H)
        refine e_pop dX3_takeNumber_37 rfl ?_
        refine e_iconst (v := (-1)) dX3_takeNumber_38 (by decide) ?_
        exact e_iret rfl dX3_takeNumber_39 H
  · replace H := H.2 h1
    refine e_aload_n dX3_takeNumber_8 rfl 0 rfl ?_
    refine e_iconst (v := 1) dX3_takeNumber_9 (by decide) ?_
    refine e_callVi (j1 := 0) (j2 := 0) (av := [.int 1]) rfl rfl (Nat.le_of_ble_eq_true rfl) rfl rfl H i_X3_fail rfl n_X3_fail v_X3_fail q_X3_64 (by decide) (by decide) (Nat.le_of_ble_eq_true rfl) dX3_takeNumber_10 (fun v7 τ7 H => ?_) (fun E τ H => H)
    refine e_pop dX3_takeNumber_13 rfl ?_
    refine e_iconst (v := (-1)) dX3_takeNumber_14 (by decide) ?_
    exact e_iret rfl dX3_takeNumber_15 H
set_option maxRecDepth 20000 in
set_option maxHeartbeats 2000000 in
theorem b_X3_takeSide {g : zG} {l : Launch} {K : Int32 → zS → Prop} {X : String → zS → Prop} {σ : zS}
    (H : CT g l M_X3_isAtWord 0 [.ref (zad g 1), .ref (g.2.2.2.2.1 4)] σ (zQi (fun v1 τ1 => ((¬ v1 = 0 → CT g l M_X3_advance 0 [.ref (zad g 1)] τ1 (zQv (fun τ3 => ((v1 = 0 → K 0 τ3) ∧ (¬ v1 = 0 → K 1 τ3))) (fun E τ => X E τ))) ∧ (v1 = 0 → CT g l M_X3_isAtWord 0 [.ref (zad g 1), .ref (g.2.2.2.2.1 5)] τ1 (zQi (fun v5 τ5 => ((¬ v5 = 0 → CT g l M_X3_advance 0 [.ref (zad g 1)] τ5 (zQv (fun τ7 => ((v1 = 0 → K 0 τ7) ∧ (¬ v1 = 0 → K 1 τ7))) (fun E τ => X E τ))) ∧ (v5 = 0 → CT g l M_X3_fail 0 [.ref (zad g 1), .int 1] τ5 (zQi (fun v9 τ9 => K (-1) τ9) (fun E τ => X E τ))))) (fun E τ => X E τ))))) (fun E τ => X E τ))) :
    CT g l M_X3_takeSide 0 [.ref (zad g 1)] σ (zQi K X) := by
  refine CT_of rfl (by decide) (Nat.le_of_ble_eq_true rfl) ?_
  change EV _ _ _ _ _ 0 [(0, .ref (zad g 1))] [] _
  refine e_aload_n dX3_takeSide_0 rfl 0 rfl ?_
  refine e_ldcS (i := 4) rfl dX3_takeSide_1 ?_
  refine e_callVi (j1 := 0) (j2 := 0) (av := [.ref (g.2.2.2.2.1 4)]) rfl rfl (Nat.le_of_ble_eq_true rfl) rfl rfl H i_X3_isAtWord rfl n_X3_isAtWord v_X3_isAtWord q_X3_69 (by decide) (by decide) (Nat.le_of_ble_eq_true rfl) dX3_takeSide_3 (fun v1 τ1 H => ?_) (fun E τ H => H)
  refine e_istore_n (ls' := [(1, .int v1), (0, .ref (zad g 1))]) dX3_takeSide_6 rfl (by decide) rfl ?_
  refine e_iload_n dX3_takeSide_7 rfl 0 rfl ?_
  refine e_if_ne (tgt := 28) dX3_takeSide_8 (by decide) (fun h2 => ?_) (fun h2 => ?_)
  · replace H := H.1 h2
    refine e_aload_n dX3_takeSide_28 rfl 1 rfl ?_
    refine e_callVv (j1 := 0) (j2 := 0) (av := []) rfl rfl (Nat.le_of_ble_eq_true rfl) rfl rfl H i_X3_advance rfl n_X3_advance v_X3_advance q_X3_28 (by decide) (by decide) (Nat.le_of_ble_eq_true rfl) dX3_takeSide_29 (fun τ3 H => ?_) (fun E τ H => H)
    refine e_iload_n dX3_takeSide_32 rfl 0 rfl ?_
    refine e_if_eq (tgt := 40) dX3_takeSide_33 (by decide) (fun h4 => ?_) (fun h4 => ?_)
    · replace H := H.1 h4
      refine e_iconst (v := 0) dX3_takeSide_40 (by decide) ?_
      exact e_iret rfl dX3_takeSide_41 H
    · replace H := H.2 h4
      refine e_iconst (v := 1) dX3_takeSide_36 (by decide) ?_
      refine e_goto (tgt := 41) dX3_takeSide_37 (by decide) ?_
      exact e_iret rfl dX3_takeSide_41 H
  · replace H := H.2 h2
    refine e_aload_n dX3_takeSide_11 rfl 1 rfl ?_
    refine e_ldcS (i := 5) rfl dX3_takeSide_12 ?_
    refine e_callVi (j1 := 0) (j2 := 0) (av := [.ref (g.2.2.2.2.1 5)]) rfl rfl (Nat.le_of_ble_eq_true rfl) rfl rfl H i_X3_isAtWord rfl n_X3_isAtWord v_X3_isAtWord q_X3_69 (by decide) (by decide) (Nat.le_of_ble_eq_true rfl) dX3_takeSide_14 (fun v5 τ5 H => ?_) (fun E τ H => H)
    refine e_if_ne (tgt := 28) dX3_takeSide_17 (by decide) (fun h6 => ?_) (fun h6 => ?_)
    · replace H := H.1 h6
      refine e_aload_n dX3_takeSide_28 rfl 1 rfl ?_
      refine e_callVv (j1 := 0) (j2 := 0) (av := []) rfl rfl (Nat.le_of_ble_eq_true rfl) rfl rfl H i_X3_advance rfl n_X3_advance v_X3_advance q_X3_28 (by decide) (by decide) (Nat.le_of_ble_eq_true rfl) dX3_takeSide_29 (fun τ7 H => ?_) (fun E τ H => H)
      refine e_iload_n dX3_takeSide_32 rfl 0 rfl ?_
      refine e_if_eq (tgt := 40) dX3_takeSide_33 (by decide) (fun h8 => ?_) (fun h8 => ?_)
      · replace H := H.1 h8
        refine e_iconst (v := 0) dX3_takeSide_40 (by decide) ?_
        exact e_iret rfl dX3_takeSide_41 H
      · replace H := H.2 h8
        refine e_iconst (v := 1) dX3_takeSide_36 (by decide) ?_
        refine e_goto (tgt := 41) dX3_takeSide_37 (by decide) ?_
        exact e_iret rfl dX3_takeSide_41 H
    · replace H := H.2 h6
      refine e_aload_n dX3_takeSide_20 rfl 1 rfl ?_
      refine e_iconst (v := 1) dX3_takeSide_21 (by decide) ?_
      refine e_callVi (j1 := 0) (j2 := 0) (av := [.int 1]) rfl rfl (Nat.le_of_ble_eq_true rfl) rfl rfl H i_X3_fail rfl n_X3_fail v_X3_fail q_X3_64 (by decide) (by decide) (Nat.le_of_ble_eq_true rfl) dX3_takeSide_22 (fun v9 τ9 H => ?_) (fun E τ H => H)
      refine e_pop dX3_takeSide_25 rfl ?_
      refine e_iconst (v := (-1)) dX3_takeSide_26 (by decide) ?_
      exact e_iret rfl dX3_takeSide_27 H
set_option maxRecDepth 20000 in
set_option maxHeartbeats 2000000 in
theorem b_J6_bitCount_0f7a4 {g : zG} {l : Launch} {K : Int32 → zS → Prop} {X : String → zS → Prop} {x0 : Int32} {σ : zS}
    (H : K ((((((((x0 - ((zushr x0 1) &&& 1431655765)) &&& 858993459) + ((zushr (x0 - ((zushr x0 1) &&& 1431655765)) 2) &&& 858993459)) + (zushr (((x0 - ((zushr x0 1) &&& 1431655765)) &&& 858993459) + ((zushr (x0 - ((zushr x0 1) &&& 1431655765)) 2) &&& 858993459)) 4)) &&& 252645135) + (zushr (((((x0 - ((zushr x0 1) &&& 1431655765)) &&& 858993459) + ((zushr (x0 - ((zushr x0 1) &&& 1431655765)) 2) &&& 858993459)) + (zushr (((x0 - ((zushr x0 1) &&& 1431655765)) &&& 858993459) + ((zushr (x0 - ((zushr x0 1) &&& 1431655765)) 2) &&& 858993459)) 4)) &&& 252645135) 8)) + (zushr ((((((x0 - ((zushr x0 1) &&& 1431655765)) &&& 858993459) + ((zushr (x0 - ((zushr x0 1) &&& 1431655765)) 2) &&& 858993459)) + (zushr (((x0 - ((zushr x0 1) &&& 1431655765)) &&& 858993459) + ((zushr (x0 - ((zushr x0 1) &&& 1431655765)) 2) &&& 858993459)) 4)) &&& 252645135) + (zushr (((((x0 - ((zushr x0 1) &&& 1431655765)) &&& 858993459) + ((zushr (x0 - ((zushr x0 1) &&& 1431655765)) 2) &&& 858993459)) + (zushr (((x0 - ((zushr x0 1) &&& 1431655765)) &&& 858993459) + ((zushr (x0 - ((zushr x0 1) &&& 1431655765)) 2) &&& 858993459)) 4)) &&& 252645135) 8)) 16)) &&& 63) σ) :
    CT g l M_J6_bitCount_0f7a4 0 [.int x0] σ (zQi K X) := by
  refine CT_of rfl (by decide) (Nat.le_of_ble_eq_true rfl) ?_
  change EV _ _ _ _ _ 0 [(0, .int x0)] [] _
  refine e_iload_n dJ6_bitCount_0f7a4_0 rfl 0 rfl ?_
  refine e_iload_n dJ6_bitCount_0f7a4_1 rfl 0 rfl ?_
  refine e_iconst (v := 1) dJ6_bitCount_0f7a4_2 (by decide) ?_
  refine e_iushr (v := (zushr x0 1)) dJ6_bitCount_0f7a4_3 rfl ?_
  refine e_ldcw k_J6_265 dJ6_bitCount_0f7a4_4 ?_
  refine e_iand dJ6_bitCount_0f7a4_7 ?_
  refine e_isub dJ6_bitCount_0f7a4_8 ?_
  refine e_istore_n (ls' := [(0, .int (x0 - ((zushr x0 1) &&& 1431655765)))]) dJ6_bitCount_0f7a4_9 rfl (by decide) rfl ?_
  refine e_iload_n dJ6_bitCount_0f7a4_10 rfl 0 rfl ?_
  refine e_ldcw k_J6_266 dJ6_bitCount_0f7a4_11 ?_
  refine e_iand dJ6_bitCount_0f7a4_14 ?_
  refine e_iload_n dJ6_bitCount_0f7a4_15 rfl 0 rfl ?_
  refine e_iconst (v := 2) dJ6_bitCount_0f7a4_16 (by decide) ?_
  refine e_iushr (v := (zushr (x0 - ((zushr x0 1) &&& 1431655765)) 2)) dJ6_bitCount_0f7a4_17 rfl ?_
  refine e_ldcw k_J6_266 dJ6_bitCount_0f7a4_18 ?_
  refine e_iand dJ6_bitCount_0f7a4_21 ?_
  refine e_iadd dJ6_bitCount_0f7a4_22 ?_
  refine e_istore_n (ls' := [(0, .int (((x0 - ((zushr x0 1) &&& 1431655765)) &&& 858993459) + ((zushr (x0 - ((zushr x0 1) &&& 1431655765)) 2) &&& 858993459)))]) dJ6_bitCount_0f7a4_23 rfl (by decide) rfl ?_
  refine e_iload_n dJ6_bitCount_0f7a4_24 rfl 0 rfl ?_
  refine e_iload_n dJ6_bitCount_0f7a4_25 rfl 0 rfl ?_
  refine e_iconst (v := 4) dJ6_bitCount_0f7a4_26 (by decide) ?_
  refine e_iushr (v := (zushr (((x0 - ((zushr x0 1) &&& 1431655765)) &&& 858993459) + ((zushr (x0 - ((zushr x0 1) &&& 1431655765)) 2) &&& 858993459)) 4)) dJ6_bitCount_0f7a4_27 rfl ?_
  refine e_iadd dJ6_bitCount_0f7a4_28 ?_
  refine e_ldcw k_J6_267 dJ6_bitCount_0f7a4_29 ?_
  refine e_iand dJ6_bitCount_0f7a4_32 ?_
  refine e_istore_n (ls' := [(0, .int (((((x0 - ((zushr x0 1) &&& 1431655765)) &&& 858993459) + ((zushr (x0 - ((zushr x0 1) &&& 1431655765)) 2) &&& 858993459)) + (zushr (((x0 - ((zushr x0 1) &&& 1431655765)) &&& 858993459) + ((zushr (x0 - ((zushr x0 1) &&& 1431655765)) 2) &&& 858993459)) 4)) &&& 252645135))]) dJ6_bitCount_0f7a4_33 rfl (by decide) rfl ?_
  refine e_iload_n dJ6_bitCount_0f7a4_34 rfl 0 rfl ?_
  refine e_iload_n dJ6_bitCount_0f7a4_35 rfl 0 rfl ?_
  refine e_bipush (v := 8) dJ6_bitCount_0f7a4_36 (by decide) ?_
  refine e_iushr (v := (zushr (((((x0 - ((zushr x0 1) &&& 1431655765)) &&& 858993459) + ((zushr (x0 - ((zushr x0 1) &&& 1431655765)) 2) &&& 858993459)) + (zushr (((x0 - ((zushr x0 1) &&& 1431655765)) &&& 858993459) + ((zushr (x0 - ((zushr x0 1) &&& 1431655765)) 2) &&& 858993459)) 4)) &&& 252645135) 8)) dJ6_bitCount_0f7a4_38 rfl ?_
  refine e_iadd dJ6_bitCount_0f7a4_39 ?_
  refine e_istore_n (ls' := [(0, .int ((((((x0 - ((zushr x0 1) &&& 1431655765)) &&& 858993459) + ((zushr (x0 - ((zushr x0 1) &&& 1431655765)) 2) &&& 858993459)) + (zushr (((x0 - ((zushr x0 1) &&& 1431655765)) &&& 858993459) + ((zushr (x0 - ((zushr x0 1) &&& 1431655765)) 2) &&& 858993459)) 4)) &&& 252645135) + (zushr (((((x0 - ((zushr x0 1) &&& 1431655765)) &&& 858993459) + ((zushr (x0 - ((zushr x0 1) &&& 1431655765)) 2) &&& 858993459)) + (zushr (((x0 - ((zushr x0 1) &&& 1431655765)) &&& 858993459) + ((zushr (x0 - ((zushr x0 1) &&& 1431655765)) 2) &&& 858993459)) 4)) &&& 252645135) 8)))]) dJ6_bitCount_0f7a4_40 rfl (by decide) rfl ?_
  refine e_iload_n dJ6_bitCount_0f7a4_41 rfl 0 rfl ?_
  refine e_iload_n dJ6_bitCount_0f7a4_42 rfl 0 rfl ?_
  refine e_bipush (v := 16) dJ6_bitCount_0f7a4_43 (by decide) ?_
  refine e_iushr (v := (zushr ((((((x0 - ((zushr x0 1) &&& 1431655765)) &&& 858993459) + ((zushr (x0 - ((zushr x0 1) &&& 1431655765)) 2) &&& 858993459)) + (zushr (((x0 - ((zushr x0 1) &&& 1431655765)) &&& 858993459) + ((zushr (x0 - ((zushr x0 1) &&& 1431655765)) 2) &&& 858993459)) 4)) &&& 252645135) + (zushr (((((x0 - ((zushr x0 1) &&& 1431655765)) &&& 858993459) + ((zushr (x0 - ((zushr x0 1) &&& 1431655765)) 2) &&& 858993459)) + (zushr (((x0 - ((zushr x0 1) &&& 1431655765)) &&& 858993459) + ((zushr (x0 - ((zushr x0 1) &&& 1431655765)) 2) &&& 858993459)) 4)) &&& 252645135) 8)) 16)) dJ6_bitCount_0f7a4_45 rfl ?_
  refine e_iadd dJ6_bitCount_0f7a4_46 ?_
  refine e_istore_n (ls' := [(0, .int (((((((x0 - ((zushr x0 1) &&& 1431655765)) &&& 858993459) + ((zushr (x0 - ((zushr x0 1) &&& 1431655765)) 2) &&& 858993459)) + (zushr (((x0 - ((zushr x0 1) &&& 1431655765)) &&& 858993459) + ((zushr (x0 - ((zushr x0 1) &&& 1431655765)) 2) &&& 858993459)) 4)) &&& 252645135) + (zushr (((((x0 - ((zushr x0 1) &&& 1431655765)) &&& 858993459) + ((zushr (x0 - ((zushr x0 1) &&& 1431655765)) 2) &&& 858993459)) + (zushr (((x0 - ((zushr x0 1) &&& 1431655765)) &&& 858993459) + ((zushr (x0 - ((zushr x0 1) &&& 1431655765)) 2) &&& 858993459)) 4)) &&& 252645135) 8)) + (zushr ((((((x0 - ((zushr x0 1) &&& 1431655765)) &&& 858993459) + ((zushr (x0 - ((zushr x0 1) &&& 1431655765)) 2) &&& 858993459)) + (zushr (((x0 - ((zushr x0 1) &&& 1431655765)) &&& 858993459) + ((zushr (x0 - ((zushr x0 1) &&& 1431655765)) 2) &&& 858993459)) 4)) &&& 252645135) + (zushr (((((x0 - ((zushr x0 1) &&& 1431655765)) &&& 858993459) + ((zushr (x0 - ((zushr x0 1) &&& 1431655765)) 2) &&& 858993459)) + (zushr (((x0 - ((zushr x0 1) &&& 1431655765)) &&& 858993459) + ((zushr (x0 - ((zushr x0 1) &&& 1431655765)) 2) &&& 858993459)) 4)) &&& 252645135) 8)) 16)))]) dJ6_bitCount_0f7a4_47 rfl (by decide) rfl ?_
  refine e_iload_n dJ6_bitCount_0f7a4_48 rfl 0 rfl ?_
  refine e_bipush (v := 63) dJ6_bitCount_0f7a4_49 (by decide) ?_
  refine e_iand dJ6_bitCount_0f7a4_51 ?_
  exact e_iret rfl dJ6_bitCount_0f7a4_52 H
abbrev L_J7_fill_53178_5 (g : zG) (l : Launch) (K : zS → Prop) (X : String → zS → Prop) (t : Nat) (y1 : Int32) (y2 : Int32) (y3 : Int32) (σ : zS) : Prop :=
  EV g l M_J7_fill_53178 0 (zQv K X) 5 [(0, .ref (zad g t)), (1, .int y1), (2, .int y2), (3, .int y3)] [] σ
set_option maxRecDepth 20000 in
set_option maxHeartbeats 2000000 in
theorem b_J7_fill_53178 {g : zG} {l : Launch} {K : zS → Prop} {X : String → zS → Prop} {t : Nat} {N : Nat} {x1 : Int32} {σ : zS} (ht : zsh t = .inr (0, N)) (lt : t < 163)
    (H : L_J7_fill_53178_5 g l K X t x1 0 (nI N) σ) :
    CT g l M_J7_fill_53178 0 [.ref (zad g t), .int x1] σ (zQv K X) := by
  refine CT_of rfl (by decide) (Nat.le_of_ble_eq_true rfl) ?_
  change EV _ _ _ _ _ 0 [(0, .ref (zad g t)), (1, .int x1)] [] _
  refine e_iconst (v := 0) dJ7_fill_53178_0 (by decide) ?_
  refine e_istore_n (ls' := [(2, .int 0), (0, .ref (zad g t)), (1, .int x1)]) dJ7_fill_53178_1 rfl (by decide) rfl ?_
  refine e_aload_n dJ7_fill_53178_2 rfl 1 rfl ?_
  refine e_alen (n := N) (v := nI N) ht lt rfl dJ7_fill_53178_3 ?_
  refine e_istore_n (ls' := [(3, .int (nI N)), (2, .int 0), (0, .ref (zad g t)), (1, .int x1)]) dJ7_fill_53178_4 rfl (by decide) rfl ?_
  refine e_ls [2, 3, 1, 0] rfl ?_
  exact H
set_option maxRecDepth 20000 in
set_option maxHeartbeats 2000000 in
theorem b_J7_fill_53178_5 {g : zG} {l : Launch} {K : zS → Prop} {X : String → zS → Prop} {t : Nat} {N : Nat} {y1 : Int32} {y2 : Int32} {y3 : Int32} {σ : zS} (ht : zsh t = .inr (0, N)) (lt : t < 163)
    (H : ((y3 ≤ y2 → K σ) ∧ (¬ y3 ≤ y2 → (vp_in y2 N ∧ (∀ σ2 : zS, σ2 = zup σ t (Int32.toNatClampNeg y2) y1 → L_J7_fill_53178_5 g l K X t y1 (y2 + 1) y3 σ2))))) :
    L_J7_fill_53178_5 g l K X t y1 y2 y3 σ := by
  refine e_iload_n dJ7_fill_53178_5 rfl 2 rfl ?_
  refine e_iload_n dJ7_fill_53178_6 rfl 3 rfl ?_
  refine e_icmp_ge (tgt := 20) dJ7_fill_53178_7 (by decide) (fun h1 => ?_) (fun h1 => ?_)
  · replace H := H.1 h1
    exact e_vret rfl dJ7_fill_53178_20 H
  · replace H := H.2 h1
    refine e_aload_n dJ7_fill_53178_10 rfl 0 rfl ?_
    refine e_iload_n dJ7_fill_53178_11 rfl 2 rfl ?_
    refine e_iload_n dJ7_fill_53178_12 rfl 1 rfl ?_
    refine e_iast (n := N) ht lt H.1 dJ7_fill_53178_13 ?_
    replace H := H.2
    replace H := H _ rfl
    generalize zup σ t (Int32.toNatClampNeg y2) y1 = σ2 at H ⊢
    refine e_iinc (j := 2) (v := (y2 + 1)) (ls' := [(2, .int (y2 + 1)), (0, .ref (zad g t)), (1, .int y1), (3, .int y3)]) dJ7_fill_53178_14 rfl rfl (by decide) rfl ?_
    refine e_goto (tgt := 5) dJ7_fill_53178_17 (by decide) ?_
    refine e_ls [1, 2, 0, 3] rfl ?_
    exact H
