abbrev L_X5_look_2 (g : zG) (l : Launch) (K : zS → Prop) (X : String → zS → Prop) (t : Nat) (y2 : Int32) (y3 : Int32) (σ : zS) : Prop :=
  EV g l M_X5_look 0 (zQv K X) 2 [(0, .ref (zad g 18)), (1, .ref (zad g t)), (2, .int y2), (3, .int y3)] [] σ
set_option maxRecDepth 20000 in
set_option maxHeartbeats 2000000 in
theorem b_X5_look {g : zG} {l : Launch} {K : zS → Prop} {X : String → zS → Prop} {t : Nat} {x2 : Int32} {σ : zS} (ht : zsh t = .inr (0, 10)) (lt : t < 163)
    (H : L_X5_look_2 g l K X t x2 0 σ) :
    CT g l M_X5_look 0 [.ref (zad g 18), .ref (zad g t), .int x2] σ (zQv K X) := by
  refine CT_of rfl (by decide) (Nat.le_of_ble_eq_true rfl) ?_
  change EV _ _ _ _ _ 0 [(0, .ref (zad g 18)), (1, .ref (zad g t)), (2, .int x2)] [] _
  refine e_iconst (v := 0) dX5_look_0 (by decide) ?_
  refine e_istore_n (ls' := [(3, .int 0), (0, .ref (zad g 18)), (1, .ref (zad g t)), (2, .int x2)]) dX5_look_1 rfl (by decide) rfl ?_
  refine e_ls [1, 2, 3, 0] rfl ?_
  exact H
set_option maxRecDepth 20000 in
set_option maxHeartbeats 2000000 in
theorem b_X5_look_2 {g : zG} {l : Launch} {K : zS → Prop} {X : String → zS → Prop} {t : Nat} {y2 : Int32} {y3 : Int32} {σ : zS} (ht : zsh t = .inr (0, 10)) (lt : t < 163)
    (H : (((σ.1 73 2) ≤ y3 → K σ) ∧ (¬ (σ.1 73 2) ≤ y3 → (((nI 10) ≤ y3 → K σ) ∧ (¬ (nI 10) ≤ y3 → (vp_in y3 10 ∧ ((y3 ≤ 0 → ((((σ.1 73 2) - 1) ≤ y3 → CT g l M_X5_lookAtSlat 0 [.ref (zad g 18), .int y3, .int (zmax (-6) (zmin 6 (y2 - (σ.1 t (Int32.toNatClampNeg y3))))), .int 0, .int 0] σ (zQv (fun τ5 => L_X5_look_2 g l K X t y2 (y3 + 1) τ5) (fun E τ => X E τ))) ∧ (¬ ((σ.1 73 2) - 1) ≤ y3 → (vp_in (y3 + 1) 10 ∧ (vp_in y3 10 ∧ CT g l M_X5_lookAtSlat 0 [.ref (zad g 18), .int y3, .int (zmax (-6) (zmin 6 (y2 - (σ.1 t (Int32.toNatClampNeg y3))))), .int 0, .int ((σ.1 t (Int32.toNatClampNeg (y3 + 1))) - (σ.1 t (Int32.toNatClampNeg y3)))] σ (zQv (fun τ6 => L_X5_look_2 g l K X t y2 (y3 + 1) τ6) (fun E τ => X E τ))))))) ∧ (¬ y3 ≤ 0 → (vp_in (y3 - 1) 10 ∧ (vp_in y3 10 ∧ ((((σ.1 73 2) - 1) ≤ y3 → CT g l M_X5_lookAtSlat 0 [.ref (zad g 18), .int y3, .int (zmax (-6) (zmin 6 (y2 - (σ.1 t (Int32.toNatClampNeg y3))))), .int ((σ.1 t (Int32.toNatClampNeg (y3 - 1))) - (σ.1 t (Int32.toNatClampNeg y3))), .int 0] σ (zQv (fun τ8 => L_X5_look_2 g l K X t y2 (y3 + 1) τ8) (fun E τ => X E τ))) ∧ (¬ ((σ.1 73 2) - 1) ≤ y3 → (vp_in (y3 + 1) 10 ∧ (vp_in y3 10 ∧ CT g l M_X5_lookAtSlat 0 [.ref (zad g 18), .int y3, .int (zmax (-6) (zmin 6 (y2 - (σ.1 t (Int32.toNatClampNeg y3))))), .int ((σ.1 t (Int32.toNatClampNeg (y3 - 1))) - (σ.1 t (Int32.toNatClampNeg y3))), .int ((σ.1 t (Int32.toNatClampNeg (y3 + 1))) - (σ.1 t (Int32.toNatClampNeg y3)))] σ (zQv (fun τ9 => L_X5_look_2 g l K X t y2 (y3 + 1) τ9) (fun E τ => X E τ)))))))))))))))) :
    L_X5_look_2 g l K X t y2 y3 σ := by
  refine e_iload_n dX5_look_2 rfl 3 rfl ?_
  refine e_aload_n dX5_look_3 rfl 0 rfl ?_
  refine fg_X5_22 rfl dX5_look_4 ?_
  refine fg_X5_26 (zB_s0 zB_73) (zB_l0 zB_73) rfl dX5_look_7 ?_
  refine e_icmp_ge (tgt := 100) dX5_look_10 (by decide) (fun h1 => ?_) (fun h1 => ?_)
  · replace H := H.1 h1
    exact e_vret rfl dX5_look_100 H
  · replace H := H.2 h1
    refine e_iload_n dX5_look_13 rfl 3 rfl ?_
    refine e_aload_n dX5_look_14 rfl 1 rfl ?_
    refine e_alen (n := 10) (v := nI 10) ht lt rfl dX5_look_15 ?_
    refine e_icmp_ge (tgt := 100) dX5_look_16 (by decide) (fun h2 => ?_) (fun h2 => ?_)
    · replace H := H.1 h2
      exact e_vret rfl dX5_look_100 H
    · replace H := H.2 h2
      refine e_bipush (v := (-6)) dX5_look_19 (by decide) ?_
      refine e_bipush (v := 6) dX5_look_21 (by decide) ?_
      refine e_iload_n dX5_look_23 rfl 2 rfl ?_
      refine e_aload_n dX5_look_24 rfl 1 rfl ?_
      refine e_iload_n dX5_look_25 rfl 3 rfl ?_
      refine e_iald (n := 10) ht lt H.1 dX5_look_26 ?_
      replace H := H.2
      refine e_isub dX5_look_27 ?_
      refine e_mmin qm_X5_32 ms_min mi_math mc_min (by decide) (Nat.le_of_ble_eq_true rfl) dX5_look_28 ?_
      change EV _ _ _ _ _ _ _ (.int (zmin 6 (y2 - (σ.1 t (Int32.toNatClampNeg y3)))) :: _) _
      refine e_mmax qm_X5_38 ms_max mi_math mc_max (by decide) (Nat.le_of_ble_eq_true rfl) dX5_look_31 ?_
      change EV _ _ _ _ _ _ _ (.int (zmax (-6) (zmin 6 (y2 - (σ.1 t (Int32.toNatClampNeg y3))))) :: _) _
      refine e_istore (ls' := [(4, .int (zmax (-6) (zmin 6 (y2 - (σ.1 t (Int32.toNatClampNeg y3)))))), (0, .ref (zad g 18)), (1, .ref (zad g t)), (2, .int y2), (3, .int y3)]) dX5_look_34 (by decide) rfl ?_
      refine e_iload_n dX5_look_36 rfl 4 rfl ?_
      refine e_if_le (tgt := 52) dX5_look_37 (by decide) (fun h3 => ?_) (fun h3 => ?_)
      · replace H := H.1 h3
        refine e_iconst (v := 0) dX5_look_52 (by decide) ?_
        refine e_istore (ls' := [(5, .int 0), (4, .int (zmax (-6) (zmin 6 (y2 - (σ.1 t (Int32.toNatClampNeg y3)))))), (0, .ref (zad g 18)), (1, .ref (zad g t)), (2, .int y2), (3, .int y3)]) dX5_look_53 (by decide) rfl ?_
        refine e_iload_n dX5_look_55 rfl 5 rfl ?_
        refine e_aload_n dX5_look_56 rfl 2 rfl ?_
        refine fg_X5_22 rfl dX5_look_57 ?_
        refine fg_X5_26 (zB_s0 zB_73) (zB_l0 zB_73) rfl dX5_look_60 ?_
        refine e_iconst (v := 1) dX5_look_63 (by decide) ?_
        refine e_isub dX5_look_64 ?_
        refine e_icmp_ge (tgt := 80) dX5_look_65 (by decide) (fun h4 => ?_) (fun h4 => ?_)
        · replace H := H.1 h4
          refine e_iconst (v := 0) dX5_look_80 (by decide) ?_
          refine e_istore (ls' := [(6, .int 0), (5, .int 0), (4, .int (zmax (-6) (zmin 6 (y2 - (σ.1 t (Int32.toNatClampNeg y3)))))), (0, .ref (zad g 18)), (1, .ref (zad g t)), (2, .int y2), (3, .int y3)]) dX5_look_81 (by decide) rfl ?_
          refine e_aload_n dX5_look_83 rfl 3 rfl ?_
          refine e_iload_n dX5_look_84 rfl 6 rfl ?_
          refine e_iload dX5_look_85 2 rfl ?_
          refine e_iload dX5_look_87 1 rfl ?_
          refine e_iload dX5_look_89 0 rfl ?_
          refine e_callVv (j1 := 0) (j2 := 0) (av := [.int y3, .int (zmax (-6) (zmin 6 (y2 - (σ.1 t (Int32.toNatClampNeg y3))))), .int 0, .int 0]) rfl rfl (Nat.le_of_ble_eq_true rfl) rfl rfl H i_X5_lookAtSlat rfl n_X5_lookAtSlat v_X5_lookAtSlat q_X5_41 (by decide) (by decide) (Nat.le_of_ble_eq_true rfl) dX5_look_91 (fun τ5 H => ?_) (fun E τ H => H)
          refine e_iinc (j := 6) (v := (y3 + 1)) (ls' := [(3, .int (y3 + 1)), (6, .int 0), (5, .int 0), (4, .int (zmax (-6) (zmin 6 (y2 - (σ.1 t (Int32.toNatClampNeg y3)))))), (0, .ref (zad g 18)), (1, .ref (zad g t)), (2, .int y2)]) dX5_look_94 rfl rfl (by decide) rfl ?_
          refine e_goto (tgt := 2) dX5_look_97 (by decide) ?_
          refine e_ls [4, 5, 6, 0] rfl ?_
          exact H
        · replace H := H.2 h4
          refine e_aload_n dX5_look_68 rfl 3 rfl ?_
          refine e_iload_n dX5_look_69 rfl 5 rfl ?_
          refine e_iconst (v := 1) dX5_look_70 (by decide) ?_
          refine e_iadd dX5_look_71 ?_
          refine e_iald (n := 10) ht lt H.1 dX5_look_72 ?_
          replace H := H.2
          refine e_aload_n dX5_look_73 rfl 3 rfl ?_
          refine e_iload_n dX5_look_74 rfl 5 rfl ?_
          refine e_iald (n := 10) ht lt H.1 dX5_look_75 ?_
          replace H := H.2
          refine e_isub dX5_look_76 ?_
          refine e_goto (tgt := 81) dX5_look_77 (by decide) ?_
          refine e_istore (ls' := [(6, .int ((σ.1 t (Int32.toNatClampNeg (y3 + 1))) - (σ.1 t (Int32.toNatClampNeg y3)))), (5, .int 0), (4, .int (zmax (-6) (zmin 6 (y2 - (σ.1 t (Int32.toNatClampNeg y3)))))), (0, .ref (zad g 18)), (1, .ref (zad g t)), (2, .int y2), (3, .int y3)]) dX5_look_81 (by decide) rfl ?_
          refine e_aload_n dX5_look_83 rfl 3 rfl ?_
          refine e_iload_n dX5_look_84 rfl 6 rfl ?_
          refine e_iload dX5_look_85 2 rfl ?_
          refine e_iload dX5_look_87 1 rfl ?_
          refine e_iload dX5_look_89 0 rfl ?_
          refine e_callVv (j1 := 0) (j2 := 0) (av := [.int y3, .int (zmax (-6) (zmin 6 (y2 - (σ.1 t (Int32.toNatClampNeg y3))))), .int 0, .int ((σ.1 t (Int32.toNatClampNeg (y3 + 1))) - (σ.1 t (Int32.toNatClampNeg y3)))]) rfl rfl (Nat.le_of_ble_eq_true rfl) rfl rfl H i_X5_lookAtSlat rfl n_X5_lookAtSlat v_X5_lookAtSlat q_X5_41 (by decide) (by decide) (Nat.le_of_ble_eq_true rfl) dX5_look_91 (fun τ6 H => ?_) (fun E τ H => H)
          refine e_iinc (j := 6) (v := (y3 + 1)) (ls' := [(3, .int (y3 + 1)), (6, .int ((σ.1 t (Int32.toNatClampNeg (y3 + 1))) - (σ.1 t (Int32.toNatClampNeg y3)))), (5, .int 0), (4, .int (zmax (-6) (zmin 6 (y2 - (σ.1 t (Int32.toNatClampNeg y3)))))), (0, .ref (zad g 18)), (1, .ref (zad g t)), (2, .int y2)]) dX5_look_94 rfl rfl (by decide) rfl ?_
          refine e_goto (tgt := 2) dX5_look_97 (by decide) ?_
          refine e_ls [4, 5, 6, 0] rfl ?_
          exact H
      · replace H := H.2 h3
        refine e_aload_n dX5_look_40 rfl 2 rfl ?_
        refine e_iload_n dX5_look_41 rfl 4 rfl ?_
        refine e_iconst (v := 1) dX5_look_42 (by decide) ?_
        refine e_isub dX5_look_43 ?_
        refine e_iald (n := 10) ht lt H.1 dX5_look_44 ?_
        replace H := H.2
        refine e_aload_n dX5_look_45 rfl 2 rfl ?_
        refine e_iload_n dX5_look_46 rfl 4 rfl ?_
        refine e_iald (n := 10) ht lt H.1 dX5_look_47 ?_
        replace H := H.2
        refine e_isub dX5_look_48 ?_
        refine e_goto (tgt := 53) dX5_look_49 (by decide) ?_
        refine e_istore (ls' := [(5, .int ((σ.1 t (Int32.toNatClampNeg (y3 - 1))) - (σ.1 t (Int32.toNatClampNeg y3)))), (4, .int (zmax (-6) (zmin 6 (y2 - (σ.1 t (Int32.toNatClampNeg y3)))))), (0, .ref (zad g 18)), (1, .ref (zad g t)), (2, .int y2), (3, .int y3)]) dX5_look_53 (by decide) rfl ?_
        refine e_iload_n dX5_look_55 rfl 5 rfl ?_
        refine e_aload_n dX5_look_56 rfl 2 rfl ?_
        refine fg_X5_22 rfl dX5_look_57 ?_
        refine fg_X5_26 (zB_s0 zB_73) (zB_l0 zB_73) rfl dX5_look_60 ?_
        refine e_iconst (v := 1) dX5_look_63 (by decide) ?_
        refine e_isub dX5_look_64 ?_
        refine e_icmp_ge (tgt := 80) dX5_look_65 (by decide) (fun h7 => ?_) (fun h7 => ?_)
        · replace H := H.1 h7
          refine e_iconst (v := 0) dX5_look_80 (by decide) ?_
          refine e_istore (ls' := [(6, .int 0), (5, .int ((σ.1 t (Int32.toNatClampNeg (y3 - 1))) - (σ.1 t (Int32.toNatClampNeg y3)))), (4, .int (zmax (-6) (zmin 6 (y2 - (σ.1 t (Int32.toNatClampNeg y3)))))), (0, .ref (zad g 18)), (1, .ref (zad g t)), (2, .int y2), (3, .int y3)]) dX5_look_81 (by decide) rfl ?_
          refine e_aload_n dX5_look_83 rfl 3 rfl ?_
          refine e_iload_n dX5_look_84 rfl 6 rfl ?_
          refine e_iload dX5_look_85 2 rfl ?_
          refine e_iload dX5_look_87 1 rfl ?_
          refine e_iload dX5_look_89 0 rfl ?_
          refine e_callVv (j1 := 0) (j2 := 0) (av := [.int y3, .int (zmax (-6) (zmin 6 (y2 - (σ.1 t (Int32.toNatClampNeg y3))))), .int ((σ.1 t (Int32.toNatClampNeg (y3 - 1))) - (σ.1 t (Int32.toNatClampNeg y3))), .int 0]) rfl rfl (Nat.le_of_ble_eq_true rfl) rfl rfl H i_X5_lookAtSlat rfl n_X5_lookAtSlat v_X5_lookAtSlat q_X5_41 (by decide) (by decide) (Nat.le_of_ble_eq_true rfl) dX5_look_91 (fun τ8 H => ?_) (fun E τ H => H)
          refine e_iinc (j := 6) (v := (y3 + 1)) (ls' := [(3, .int (y3 + 1)), (6, .int 0), (5, .int ((σ.1 t (Int32.toNatClampNeg (y3 - 1))) - (σ.1 t (Int32.toNatClampNeg y3)))), (4, .int (zmax (-6) (zmin 6 (y2 - (σ.1 t (Int32.toNatClampNeg y3)))))), (0, .ref (zad g 18)), (1, .ref (zad g t)), (2, .int y2)]) dX5_look_94 rfl rfl (by decide) rfl ?_
          refine e_goto (tgt := 2) dX5_look_97 (by decide) ?_
          refine e_ls [4, 5, 6, 0] rfl ?_
          exact H
        · replace H := H.2 h7
          refine e_aload_n dX5_look_68 rfl 3 rfl ?_
          refine e_iload_n dX5_look_69 rfl 5 rfl ?_
          refine e_iconst (v := 1) dX5_look_70 (by decide) ?_
          refine e_iadd dX5_look_71 ?_
          refine e_iald (n := 10) ht lt H.1 dX5_look_72 ?_
          replace H := H.2
          refine e_aload_n dX5_look_73 rfl 3 rfl ?_
          refine e_iload_n dX5_look_74 rfl 5 rfl ?_
          refine e_iald (n := 10) ht lt H.1 dX5_look_75 ?_
          replace H := H.2
          refine e_isub dX5_look_76 ?_
          refine e_goto (tgt := 81) dX5_look_77 (by decide) ?_
          refine e_istore (ls' := [(6, .int ((σ.1 t (Int32.toNatClampNeg (y3 + 1))) - (σ.1 t (Int32.toNatClampNeg y3)))), (5, .int ((σ.1 t (Int32.toNatClampNeg (y3 - 1))) - (σ.1 t (Int32.toNatClampNeg y3)))), (4, .int (zmax (-6) (zmin 6 (y2 - (σ.1 t (Int32.toNatClampNeg y3)))))), (0, .ref (zad g 18)), (1, .ref (zad g t)), (2, .int y2), (3, .int y3)]) dX5_look_81 (by decide) rfl ?_
          refine e_aload_n dX5_look_83 rfl 3 rfl ?_
          refine e_iload_n dX5_look_84 rfl 6 rfl ?_
          refine e_iload dX5_look_85 2 rfl ?_
          refine e_iload dX5_look_87 1 rfl ?_
          refine e_iload dX5_look_89 0 rfl ?_
          refine e_callVv (j1 := 0) (j2 := 0) (av := [.int y3, .int (zmax (-6) (zmin 6 (y2 - (σ.1 t (Int32.toNatClampNeg y3))))), .int ((σ.1 t (Int32.toNatClampNeg (y3 - 1))) - (σ.1 t (Int32.toNatClampNeg y3))), .int ((σ.1 t (Int32.toNatClampNeg (y3 + 1))) - (σ.1 t (Int32.toNatClampNeg y3)))]) rfl rfl (Nat.le_of_ble_eq_true rfl) rfl rfl H i_X5_lookAtSlat rfl n_X5_lookAtSlat v_X5_lookAtSlat q_X5_41 (by decide) (by decide) (Nat.le_of_ble_eq_true rfl) dX5_look_91 (fun τ9 H => ?_) (fun E τ H => H)
          refine e_iinc (j := 6) (v := (y3 + 1)) (ls' := [(3, .int (y3 + 1)), (6, .int ((σ.1 t (Int32.toNatClampNeg (y3 + 1))) - (σ.1 t (Int32.toNatClampNeg y3)))), (5, .int ((σ.1 t (Int32.toNatClampNeg (y3 - 1))) - (σ.1 t (Int32.toNatClampNeg y3)))), (4, .int (zmax (-6) (zmin 6 (y2 - (σ.1 t (Int32.toNatClampNeg y3)))))), (0, .ref (zad g 18)), (1, .ref (zad g t)), (2, .int y2)]) dX5_look_94 rfl rfl (by decide) rfl ?_
          refine e_goto (tgt := 2) dX5_look_97 (by decide) ?_
          refine e_ls [4, 5, 6, 0] rfl ?_
          exact H
abbrev L_X5_lookAtSlat_38 (g : zG) (l : Launch) (K : zS → Prop) (X : String → zS → Prop) (y1 : Int32) (y2 : Int32) (y3 : Int32) (y4 : Int32) (y5 : Int32) (y6 : Int32) (z0 : Int32) (σ : zS) : Prop :=
  EV g l M_X5_lookAtSlat 0 (zQv K X) 38 [(0, .ref (zad g 18)), (1, .int y1), (2, .int y2), (3, .int y3), (4, .int y4), (5, .int y5), (6, .int y6)] [.int z0, .ref (zad g 73)] σ
abbrev L_X5_lookAtSlat_46 (g : zG) (l : Launch) (K : zS → Prop) (X : String → zS → Prop) (y1 : Int32) (y2 : Int32) (y3 : Int32) (y4 : Int32) (y5 : Int32) (y6 : Int32) (y7 : Nat) (y8 : Int32) (σ : zS) : Prop :=
  EV g l M_X5_lookAtSlat 0 (zQv K X) 46 [(0, .ref (zad g 18)), (1, .int y1), (2, .int y2), (3, .int y3), (4, .int y4), (5, .int y5), (6, .int y6), (7, .ref (zad g y7)), (8, .int y8)] [] σ
abbrev L_X5_lookAtSlat_101 (g : zG) (l : Launch) (K : zS → Prop) (X : String → zS → Prop) (y1 : Int32) (y2 : Int32) (y3 : Int32) (y4 : Int32) (y5 : Int32) (y6 : Int32) (y7 : Nat) (y8 : Int32) (y9 : Int32) (z0 : Int32) (σ : zS) : Prop :=
  EV g l M_X5_lookAtSlat 0 (zQv K X) 101 [(0, .ref (zad g 18)), (1, .int y1), (2, .int y2), (3, .int y3), (4, .int y4), (5, .int y5), (6, .int y6), (7, .ref (zad g y7)), (8, .int y8), (9, .int y9)] [.int z0] σ
abbrev L_X5_lookAtSlat_157 (g : zG) (l : Launch) (K : zS → Prop) (X : String → zS → Prop) (y1 : Int32) (y2 : Int32) (y3 : Int32) (y4 : Int32) (y5 : Int32) (y6 : Int32) (y7 : Nat) (y8 : Int32) (y9 : Int32) (z0 : Int32) (z1 : Int32) (σ : zS) : Prop :=
  EV g l M_X5_lookAtSlat 0 (zQv K X) 157 [(0, .ref (zad g 18)), (1, .int y1), (2, .int y2), (3, .int y3), (4, .int y4), (5, .int y5), (6, .int y6), (7, .ref (zad g y7)), (8, .int y8), (9, .int y9)] [.int z0, .int z1, .ref (zad g 19)] σ
abbrev L_X5_lookAtSlat_158 (g : zG) (l : Launch) (K : zS → Prop) (X : String → zS → Prop) (y1 : Int32) (y2 : Int32) (y3 : Int32) (y4 : Int32) (y5 : Int32) (y6 : Int32) (y7 : Nat) (y8 : Int32) (y9 : Int32) (σ : zS) : Prop :=
  EV g l M_X5_lookAtSlat 0 (zQv K X) 158 [(0, .ref (zad g 18)), (1, .int y1), (2, .int y2), (3, .int y3), (4, .int y4), (5, .int y5), (6, .int y6), (7, .ref (zad g y7)), (8, .int y8), (9, .int y9)] [] σ
abbrev L_X5_lookAtSlat_185 (g : zG) (l : Launch) (K : zS → Prop) (X : String → zS → Prop) (y1 : Int32) (y2 : Int32) (y3 : Int32) (y4 : Int32) (y5 : Int32) (y6 : Int32) (y7 : Nat) (y8 : Int32) (z0 : Int32) (z1 : Int32) (σ : zS) : Prop :=
  EV g l M_X5_lookAtSlat 0 (zQv K X) 185 [(0, .ref (zad g 18)), (1, .int y1), (2, .int y2), (3, .int y3), (4, .int y4), (5, .int y5), (6, .int y6), (7, .ref (zad g y7)), (8, .int y8)] [.int z0, .int z1, .ref (zad g 21)] σ
set_option maxRecDepth 20000 in
set_option maxHeartbeats 2000000 in
theorem b_X5_lookAtSlat {g : zG} {l : Launch} {K : zS → Prop} {X : String → zS → Prop} {x1 : Int32} {x2 : Int32} {x3 : Int32} {x4 : Int32} {σ : zS}
    (H : (vp_in x1 10 ∧ ((x2 ≤ 0 → L_X5_lookAtSlat_38 g l K X x1 x2 x3 x4 (σ.1 (73 + 1) (Int32.toNatClampNeg x1)) ((((σ.1 (73 + 1) (Int32.toNatClampNeg x1)) * (zabs x2)) + 5) / 6) 0 σ) ∧ (¬ x2 ≤ 0 → L_X5_lookAtSlat_38 g l K X x1 x2 x3 x4 (σ.1 (73 + 1) (Int32.toNatClampNeg x1)) ((((σ.1 (73 + 1) (Int32.toNatClampNeg x1)) * (zabs x2)) + 5) / 6) 1 σ)))) :
    CT g l M_X5_lookAtSlat 0 [.ref (zad g 18), .int x1, .int x2, .int x3, .int x4] σ (zQv K X) := by
  refine CT_of rfl (by decide) (Nat.le_of_ble_eq_true rfl) ?_
  change EV _ _ _ _ _ 0 [(0, .ref (zad g 18)), (1, .int x1), (2, .int x2), (3, .int x3), (4, .int x4)] [] _
  refine e_aload_n dX5_lookAtSlat_0 rfl 0 rfl ?_
  refine fg_X5_22 rfl dX5_lookAtSlat_1 ?_
  refine fg_X5_45 (zB_s0 zB_73) (zB_l0 zB_73) rfl dX5_lookAtSlat_4 ?_
  refine e_iload_n dX5_lookAtSlat_7 rfl 1 rfl ?_
  refine e_iald (n := 10) (zB_s1 zB_73) (zB_l1 zB_73) H.1 dX5_lookAtSlat_8 ?_
  replace H := H.2
  refine e_istore (ls' := [(5, .int (σ.1 (73 + 1) (Int32.toNatClampNeg x1))), (0, .ref (zad g 18)), (1, .int x1), (2, .int x2), (3, .int x3), (4, .int x4)]) dX5_lookAtSlat_9 (by decide) rfl ?_
  refine e_iload dX5_lookAtSlat_11 0 rfl ?_
  refine e_iload_n dX5_lookAtSlat_13 rfl 3 rfl ?_
  refine e_mabs qm_X5_48 ms_abs mi_math mc_abs (by decide) (Nat.le_of_ble_eq_true rfl) dX5_lookAtSlat_14 ?_
  change EV _ _ _ _ _ _ _ (.int (zabs x2) :: _) _
  refine e_imul dX5_lookAtSlat_17 ?_
  refine e_iconst (v := 5) dX5_lookAtSlat_18 (by decide) ?_
  refine e_iadd dX5_lookAtSlat_19 ?_
  refine e_bipush (v := 6) dX5_lookAtSlat_20 (by decide) ?_
  refine e_idiv dX5_lookAtSlat_22 (by decide) ?_
  refine e_istore (ls' := [(6, .int ((((σ.1 (73 + 1) (Int32.toNatClampNeg x1)) * (zabs x2)) + 5) / 6)), (5, .int (σ.1 (73 + 1) (Int32.toNatClampNeg x1))), (0, .ref (zad g 18)), (1, .int x1), (2, .int x2), (3, .int x3), (4, .int x4)]) dX5_lookAtSlat_23 (by decide) rfl ?_
  refine e_aload_n dX5_lookAtSlat_25 rfl 2 rfl ?_
  refine fg_X5_22 rfl dX5_lookAtSlat_26 ?_
  refine e_iload_n dX5_lookAtSlat_29 rfl 4 rfl ?_
  refine e_if_le (tgt := 37) dX5_lookAtSlat_30 (by decide) (fun h1 => ?_) (fun h1 => ?_)
  · replace H := H.1 h1
    refine e_iconst (v := 0) dX5_lookAtSlat_37 (by decide) ?_
    refine e_ls [2, 3, 4, 5, 6, 1, 0] rfl ?_
    exact H
  · replace H := H.2 h1
    refine e_iconst (v := 1) dX5_lookAtSlat_33 (by decide) ?_
    refine e_goto (tgt := 38) dX5_lookAtSlat_34 (by decide) ?_
    refine e_ls [2, 3, 4, 5, 6, 1, 0] rfl ?_
    exact H
set_option maxRecDepth 20000 in
set_option maxHeartbeats 2000000 in
theorem b_X5_lookAtSlat_38 {g : zG} {l : Launch} {K : zS → Prop} {X : String → zS → Prop} {y1 : Int32} {y2 : Int32} {y3 : Int32} {y4 : Int32} {y5 : Int32} {y6 : Int32} {z0 : Int32} {σ : zS}
    (H : CT g l M_X0_faceOf 0 [.ref (zad g 73), .int z0] σ (zQr g (fun v1 τ1 => zsh v1 = .inr (0, 60) ∧ v1 < 163 ∧ L_X5_lookAtSlat_46 g l K X y1 y2 y3 y4 y5 y6 v1 0 τ1) (fun E τ => X E τ))) :
    L_X5_lookAtSlat_38 g l K X y1 y2 y3 y4 y5 y6 z0 σ := by
  refine e_callVr (j1 := 0) (j2 := 0) (av := [.int z0]) rfl (zB_s0 zB_73) (zB_l0 zB_73) rfl rfl H i_X0_faceOf rfl n_X0_faceOf v_X0_faceOf q_X5_52 (by decide) (by decide) (Nat.le_of_ble_eq_true rfl) dX5_lookAtSlat_38 (fun v1 τ1 H => ?_) (fun E τ H => H)
  have hsv1 := H.1
  have hlv1 := H.2.1
  replace H := H.2.2
  refine e_astore (ls' := [(7, .ref (zad g v1)), (0, .ref (zad g 18)), (1, .int y1), (2, .int y2), (3, .int y3), (4, .int y4), (5, .int y5), (6, .int y6)]) dX5_lookAtSlat_41 (by decide) rfl ?_
  refine e_iconst (v := 0) dX5_lookAtSlat_43 (by decide) ?_
  refine e_istore (ls' := [(8, .int 0), (7, .ref (zad g v1)), (0, .ref (zad g 18)), (1, .int y1), (2, .int y2), (3, .int y3), (4, .int y4), (5, .int y5), (6, .int y6)]) dX5_lookAtSlat_44 (by decide) rfl ?_
  refine e_ls [2, 3, 4, 5, 6, 7, 8, 1, 0] rfl ?_
  exact H
set_option maxRecDepth 20000 in
set_option maxHeartbeats 2000000 in
theorem b_X5_lookAtSlat_46 {g : zG} {l : Launch} {K : zS → Prop} {X : String → zS → Prop} {y1 : Int32} {y2 : Int32} {y3 : Int32} {y4 : Int32} {y5 : Int32} {y6 : Int32} {y7 : Nat} {y8 : Int32} {σ : zS} (hy7 : zsh y7 = .inr (0, 60)) (ly7 : y7 < 163)
    (H : ((y5 ≤ y8 → K σ) ∧ (¬ y5 ≤ y8 → (vp_in y1 10 ∧ ((y2 ≤ 0 → ((y8 < y6 → L_X5_lookAtSlat_101 g l K X y1 y2 y3 y4 y5 y6 y7 y8 ((σ.1 (73 + 2) (Int32.toNatClampNeg y1)) + y8) 0 σ) ∧ (¬ y8 < y6 → L_X5_lookAtSlat_101 g l K X y1 y2 y3 y4 y5 y6 y7 y8 ((σ.1 (73 + 2) (Int32.toNatClampNeg y1)) + y8) 1 σ))) ∧ (¬ y2 ≤ 0 → (((y5 - y6) ≤ y8 → L_X5_lookAtSlat_101 g l K X y1 y2 y3 y4 y5 y6 y7 y8 ((σ.1 (73 + 2) (Int32.toNatClampNeg y1)) + y8) 0 σ) ∧ (¬ (y5 - y6) ≤ y8 → L_X5_lookAtSlat_101 g l K X y1 y2 y3 y4 y5 y6 y7 y8 ((σ.1 (73 + 2) (Int32.toNatClampNeg y1)) + y8) 1 σ)))))))) :
    L_X5_lookAtSlat_46 g l K X y1 y2 y3 y4 y5 y6 y7 y8 σ := by
  refine e_iload dX5_lookAtSlat_46 8 rfl ?_
  refine e_iload dX5_lookAtSlat_48 5 rfl ?_
  refine e_icmp_ge (tgt := 192) dX5_lookAtSlat_50 (by decide) (fun h1 => ?_) (fun h1 => ?_)
  · replace H := H.1 h1
    exact e_vret rfl dX5_lookAtSlat_192 H
  · replace H := H.2 h1
    refine e_aload_n dX5_lookAtSlat_53 rfl 0 rfl ?_
    refine fg_X5_22 rfl dX5_lookAtSlat_54 ?_
    refine fg_X5_56 (zB_s0 zB_73) (zB_l0 zB_73) rfl dX5_lookAtSlat_57 ?_
    refine e_iload_n dX5_lookAtSlat_60 rfl 1 rfl ?_
    refine e_iald (n := 10) (zB_s2 zB_73) (zB_l2 zB_73) H.1 dX5_lookAtSlat_61 ?_
    replace H := H.2
    refine e_iload dX5_lookAtSlat_62 8 rfl ?_
    refine e_iadd dX5_lookAtSlat_64 ?_
    refine e_istore (ls' := [(9, .int ((σ.1 (73 + 2) (Int32.toNatClampNeg y1)) + y8)), (0, .ref (zad g 18)), (1, .int y1), (2, .int y2), (3, .int y3), (4, .int y4), (5, .int y5), (6, .int y6), (7, .ref (zad g y7)), (8, .int y8)]) dX5_lookAtSlat_65 (by decide) rfl ?_
    refine e_iload_n dX5_lookAtSlat_67 rfl 3 rfl ?_
    refine e_if_le (tgt := 89) dX5_lookAtSlat_68 (by decide) (fun h2 => ?_) (fun h2 => ?_)
    · replace H := H.1 h2
      refine e_iload dX5_lookAtSlat_89 9 rfl ?_
      refine e_iload dX5_lookAtSlat_91 7 rfl ?_
      refine e_icmp_lt (tgt := 100) dX5_lookAtSlat_93 (by decide) (fun h3 => ?_) (fun h3 => ?_)
      · replace H := H.1 h3
        refine e_iconst (v := 0) dX5_lookAtSlat_100 (by decide) ?_
        refine e_ls [1, 2, 3, 4, 5, 6, 7, 8, 9, 0] rfl ?_
        exact H
      · replace H := H.2 h3
        refine e_iconst (v := 1) dX5_lookAtSlat_96 (by decide) ?_
        refine e_goto (tgt := 101) dX5_lookAtSlat_97 (by decide) ?_
        refine e_ls [1, 2, 3, 4, 5, 6, 7, 8, 9, 0] rfl ?_
        exact H
    · replace H := H.2 h2
      refine e_iload dX5_lookAtSlat_71 9 rfl ?_
      refine e_iload dX5_lookAtSlat_73 6 rfl ?_
      refine e_iload dX5_lookAtSlat_75 7 rfl ?_
      refine e_isub dX5_lookAtSlat_77 ?_
      refine e_icmp_ge (tgt := 85) dX5_lookAtSlat_78 (by decide) (fun h4 => ?_) (fun h4 => ?_)
      · replace H := H.1 h4
        refine e_iconst (v := 0) dX5_lookAtSlat_85 (by decide) ?_
        refine e_goto (tgt := 101) dX5_lookAtSlat_86 (by decide) ?_
        refine e_ls [1, 2, 3, 4, 5, 6, 7, 8, 9, 0] rfl ?_
        exact H
      · replace H := H.2 h4
        refine e_iconst (v := 1) dX5_lookAtSlat_81 (by decide) ?_
        refine e_goto (tgt := 101) dX5_lookAtSlat_82 (by decide) ?_
        refine e_ls [1, 2, 3, 4, 5, 6, 7, 8, 9, 0] rfl ?_
        exact H
set_option maxRecDepth 20000 in
set_option maxHeartbeats 2000000 in
theorem b_X5_lookAtSlat_101 {g : zG} {l : Launch} {K : zS → Prop} {X : String → zS → Prop} {y1 : Int32} {y2 : Int32} {y3 : Int32} {y4 : Int32} {y5 : Int32} {y6 : Int32} {y7 : Nat} {y8 : Int32} {y9 : Int32} {z0 : Int32} {σ : zS} (hy7 : zsh y7 = .inr (0, 60)) (ly7 : y7 < 163)
    (H : ((y3 ≤ y8 → ((y8 < (y5 - y4) → ((z0 = 0 → L_X5_lookAtSlat_157 g l K X y1 y2 y3 y4 y5 y6 y7 y8 y9 0 y9 σ) ∧ (¬ z0 = 0 → L_X5_lookAtSlat_157 g l K X y1 y2 y3 y4 y5 y6 y7 y8 y9 3 y9 σ))) ∧ (¬ y8 < (y5 - y4) → (vp_in y9 60 ∧ (∀ σ4 : zS, σ4 = zup σ 19 (Int32.toNatClampNeg y9) 2 → L_X5_lookAtSlat_158 g l K X y1 y2 y3 y4 y5 y6 y7 y8 y9 σ4))))) ∧ (¬ y3 ≤ y8 → (vp_in y9 60 ∧ (∀ σ5 : zS, σ5 = zup σ 19 (Int32.toNatClampNeg y9) 1 → L_X5_lookAtSlat_158 g l K X y1 y2 y3 y4 y5 y6 y7 y8 y9 σ5))))) :
    L_X5_lookAtSlat_101 g l K X y1 y2 y3 y4 y5 y6 y7 y8 y9 z0 σ := by
  refine e_istore (ls' := [(10, .int z0), (0, .ref (zad g 18)), (1, .int y1), (2, .int y2), (3, .int y3), (4, .int y4), (5, .int y5), (6, .int y6), (7, .ref (zad g y7)), (8, .int y8), (9, .int y9)]) dX5_lookAtSlat_101 (by decide) rfl ?_
  refine e_iload dX5_lookAtSlat_103 9 rfl ?_
  refine e_iload_n dX5_lookAtSlat_105 rfl 4 rfl ?_
  refine e_icmp_ge (tgt := 120) dX5_lookAtSlat_106 (by decide) (fun h1 => ?_) (fun h1 => ?_)
  · replace H := H.1 h1
    refine e_iload dX5_lookAtSlat_120 9 rfl ?_
    refine e_iload dX5_lookAtSlat_122 6 rfl ?_
    refine e_iload dX5_lookAtSlat_124 5 rfl ?_
    refine e_isub dX5_lookAtSlat_126 ?_
    refine e_icmp_lt (tgt := 141) dX5_lookAtSlat_127 (by decide) (fun h2 => ?_) (fun h2 => ?_)
    · replace H := H.1 h2
      refine e_aload_n dX5_lookAtSlat_141 rfl 1 rfl ?_
      refine fg_X5_9 rfl dX5_lookAtSlat_142 ?_
      refine e_iload dX5_lookAtSlat_145 10 rfl ?_
      refine e_iload dX5_lookAtSlat_147 0 rfl ?_
      refine e_if_eq (tgt := 156) dX5_lookAtSlat_149 (by decide) (fun h3 => ?_) (fun h3 => ?_)
      · replace H := H.1 h3
        refine e_iconst (v := 0) dX5_lookAtSlat_156 (by decide) ?_
        refine e_ls [1, 2, 3, 4, 5, 6, 7, 8, 9, 10] rfl ?_
        exact H
      · replace H := H.2 h3
        refine e_iconst (v := 3) dX5_lookAtSlat_152 (by decide) ?_
        refine e_goto (tgt := 157) dX5_lookAtSlat_153 (by decide) ?_
        refine e_ls [1, 2, 3, 4, 5, 6, 7, 8, 9, 10] rfl ?_
        exact H
    · replace H := H.2 h2
      refine e_aload_n dX5_lookAtSlat_130 rfl 1 rfl ?_
      refine fg_X5_9 rfl dX5_lookAtSlat_131 ?_
      refine e_iload dX5_lookAtSlat_134 10 rfl ?_
      refine e_iconst (v := 2) dX5_lookAtSlat_136 (by decide) ?_
      refine e_iast (n := 60) rfl (Nat.le_of_ble_eq_true rfl) H.1 dX5_lookAtSlat_137 ?_
      replace H := H.2
      replace H := H _ rfl
      generalize zup σ 19 (Int32.toNatClampNeg y9) 2 = σ4 at H ⊢
      refine e_goto (tgt := 158) dX5_lookAtSlat_138 (by decide) ?_
      refine e_ls [1, 2, 3, 4, 5, 6, 7, 8, 9, 10] rfl ?_
      exact H
  · replace H := H.2 h1
    refine e_aload_n dX5_lookAtSlat_109 rfl 1 rfl ?_
    refine fg_X5_9 rfl dX5_lookAtSlat_110 ?_
    refine e_iload dX5_lookAtSlat_113 10 rfl ?_
    refine e_iconst (v := 1) dX5_lookAtSlat_115 (by decide) ?_
    refine e_iast (n := 60) rfl (Nat.le_of_ble_eq_true rfl) H.1 dX5_lookAtSlat_116 ?_
    replace H := H.2
    replace H := H _ rfl
    generalize zup σ 19 (Int32.toNatClampNeg y9) 1 = σ5 at H ⊢
    refine e_goto (tgt := 158) dX5_lookAtSlat_117 (by decide) ?_
    refine e_ls [1, 2, 3, 4, 5, 6, 7, 8, 9, 10] rfl ?_
    exact H
set_option maxRecDepth 20000 in
set_option maxHeartbeats 2000000 in
theorem b_X5_lookAtSlat_157 {g : zG} {l : Launch} {K : zS → Prop} {X : String → zS → Prop} {y1 : Int32} {y2 : Int32} {y3 : Int32} {y4 : Int32} {y5 : Int32} {y6 : Int32} {y7 : Nat} {y8 : Int32} {y9 : Int32} {z0 : Int32} {z1 : Int32} {σ : zS} (hy7 : zsh y7 = .inr (0, 60)) (ly7 : y7 < 163)
    (H : (vp_in z1 60 ∧ (∀ σ1 : zS, σ1 = zup σ 19 (Int32.toNatClampNeg z1) z0 → L_X5_lookAtSlat_158 g l K X y1 y2 y3 y4 y5 y6 y7 y8 y9 σ1))) :
    L_X5_lookAtSlat_157 g l K X y1 y2 y3 y4 y5 y6 y7 y8 y9 z0 z1 σ := by
  refine e_iast (n := 60) rfl (Nat.le_of_ble_eq_true rfl) H.1 dX5_lookAtSlat_157 ?_
  replace H := H.2
  replace H := H _ rfl
  generalize zup σ 19 (Int32.toNatClampNeg z1) z0 = σ1 at H ⊢
  refine e_ls [0, 1, 2, 3, 4, 5, 6, 7, 8, 9] rfl ?_
  exact H
set_option maxRecDepth 20000 in
set_option maxHeartbeats 2000000 in
theorem b_X5_lookAtSlat_158 {g : zG} {l : Launch} {K : zS → Prop} {X : String → zS → Prop} {y1 : Int32} {y2 : Int32} {y3 : Int32} {y4 : Int32} {y5 : Int32} {y6 : Int32} {y7 : Nat} {y8 : Int32} {y9 : Int32} {σ : zS} (hy7 : zsh y7 = .inr (0, 60)) (ly7 : y7 < 163)
    (H : (vp_in y9 60 ∧ (vp_in y9 60 ∧ (∀ σ1 : zS, σ1 = zup σ 20 (Int32.toNatClampNeg y9) (σ.1 y7 (Int32.toNatClampNeg y9)) → ((y2 ≤ 0 → L_X5_lookAtSlat_185 g l K X y1 y2 y3 y4 y5 y6 y7 y8 0 y9 σ1) ∧ (¬ y2 ≤ 0 → L_X5_lookAtSlat_185 g l K X y1 y2 y3 y4 y5 y6 y7 y8 1 y9 σ1)))))) :
    L_X5_lookAtSlat_158 g l K X y1 y2 y3 y4 y5 y6 y7 y8 y9 σ := by
  refine e_aload_n dX5_lookAtSlat_158 rfl 0 rfl ?_
  refine fg_X5_15 rfl dX5_lookAtSlat_159 ?_
  refine e_iload dX5_lookAtSlat_162 9 rfl ?_
  refine e_aload dX5_lookAtSlat_164 7 rfl ?_
  refine e_iload dX5_lookAtSlat_166 9 rfl ?_
  refine e_iald (n := 60) hy7 ly7 H.1 dX5_lookAtSlat_168 ?_
  replace H := H.2
  refine e_iast (n := 60) rfl (Nat.le_of_ble_eq_true rfl) H.1 dX5_lookAtSlat_169 ?_
  replace H := H.2
  replace H := H _ rfl
  generalize zup σ 20 (Int32.toNatClampNeg y9) (σ.1 y7 (Int32.toNatClampNeg y9)) = σ1 at H ⊢
  refine e_aload_n dX5_lookAtSlat_170 rfl 0 rfl ?_
  refine fg_X5_18 rfl dX5_lookAtSlat_171 ?_
  refine e_iload dX5_lookAtSlat_174 9 rfl ?_
  refine e_iload_n dX5_lookAtSlat_176 rfl 2 rfl ?_
  refine e_if_le (tgt := 184) dX5_lookAtSlat_177 (by decide) (fun h2 => ?_) (fun h2 => ?_)
  · replace H := H.1 h2
    refine e_iconst (v := 0) dX5_lookAtSlat_184 (by decide) ?_
    refine e_ls [0, 1, 2, 3, 4, 5, 6, 7, 8] rfl ?_
    exact H
  · replace H := H.2 h2
    refine e_iconst (v := 1) dX5_lookAtSlat_180 (by decide) ?_
    refine e_goto (tgt := 185) dX5_lookAtSlat_181 (by decide) ?_
    refine e_ls [0, 1, 2, 3, 4, 5, 6, 7, 8] rfl ?_
    exact H
set_option maxRecDepth 20000 in
set_option maxHeartbeats 2000000 in
theorem b_X5_lookAtSlat_185 {g : zG} {l : Launch} {K : zS → Prop} {X : String → zS → Prop} {y1 : Int32} {y2 : Int32} {y3 : Int32} {y4 : Int32} {y5 : Int32} {y6 : Int32} {y7 : Nat} {y8 : Int32} {z0 : Int32} {z1 : Int32} {σ : zS} (hy7 : zsh y7 = .inr (0, 60)) (ly7 : y7 < 163)
    (H : (vp_in z1 60 ∧ (∀ σ1 : zS, σ1 = zup σ 21 (Int32.toNatClampNeg z1) (vp_nar .boolean z0) → L_X5_lookAtSlat_46 g l K X y1 y2 y3 y4 y5 y6 y7 (y8 + 1) σ1))) :
    L_X5_lookAtSlat_185 g l K X y1 y2 y3 y4 y5 y6 y7 y8 z0 z1 σ := by
  refine e_zast (n := 60) rfl (Nat.le_of_ble_eq_true rfl) H.1 dX5_lookAtSlat_185 ?_
  replace H := H.2
  replace H := H _ rfl
  generalize zup σ 21 (Int32.toNatClampNeg z1) (vp_nar .boolean z0) = σ1 at H ⊢
  refine e_iinc (j := 8) (v := (y8 + 1)) (ls' := [(8, .int (y8 + 1)), (0, .ref (zad g 18)), (1, .int y1), (2, .int y2), (3, .int y3), (4, .int y4), (5, .int y5), (6, .int y6), (7, .ref (zad g y7))]) dX5_lookAtSlat_186 rfl rfl (by decide) rfl ?_
  refine e_goto (tgt := 46) dX5_lookAtSlat_189 (by decide) ?_
  refine e_ls [1, 2, 3, 4, 5, 6, 7, 8, 0] rfl ?_
  exact H
set_option maxRecDepth 20000 in
set_option maxHeartbeats 2000000 in
theorem b_X5_isShown {g : zG} {l : Launch} {K : Int32 → zS → Prop} {X : String → zS → Prop} {x1 : Int32} {σ : zS}
    (H : (vp_in x1 60 ∧ ((¬ (σ.1 19 (Int32.toNatClampNeg x1)) = 0 → K 0 σ) ∧ ((σ.1 19 (Int32.toNatClampNeg x1)) = 0 → K 1 σ)))) :
    CT g l M_X5_isShown 0 [.ref (zad g 18), .int x1] σ (zQi K X) := by
  refine CT_of rfl (by decide) (Nat.le_of_ble_eq_true rfl) ?_
  change EV _ _ _ _ _ 0 [(0, .ref (zad g 18)), (1, .int x1)] [] _
  refine e_aload_n dX5_isShown_0 rfl 0 rfl ?_
  refine fg_X5_9 rfl dX5_isShown_1 ?_
  refine e_iload_n dX5_isShown_4 rfl 1 rfl ?_
  refine e_iald (n := 60) rfl (Nat.le_of_ble_eq_true rfl) H.1 dX5_isShown_5 ?_
  replace H := H.2
  refine e_if_ne (tgt := 13) dX5_isShown_6 (by decide) (fun h1 => ?_) (fun h1 => ?_)
  · replace H := H.1 h1
    refine e_iconst (v := 0) dX5_isShown_13 (by decide) ?_
    exact e_zret rfl rfl dX5_isShown_14 H
  · replace H := H.2 h1
    refine e_iconst (v := 1) dX5_isShown_9 (by decide) ?_
    refine e_goto (tgt := 14) dX5_isShown_10 (by decide) ?_
    exact e_zret rfl rfl dX5_isShown_14 H
set_option maxRecDepth 20000 in
set_option maxHeartbeats 2000000 in
theorem b_X5_seenAt {g : zG} {l : Launch} {K : Int32 → zS → Prop} {X : String → zS → Prop} {x1 : Int32} {x2 : Int32} {σ : zS}
    (H : CT g l M_X5_isShown 0 [.ref (zad g 18), .int x1] σ (zQi (fun v1 τ1 => ((v1 = 0 → (vp_in x1 60 ∧ ((¬ (τ1.1 19 (Int32.toNatClampNeg x1)) = 1 → K (-1) τ1) ∧ ((τ1.1 19 (Int32.toNatClampNeg x1)) = 1 → K (-2) τ1)))) ∧ (¬ v1 = 0 → (vp_in x1 60 ∧ CT g l M_X6_colourIn 0 [.int (τ1.1 20 (Int32.toNatClampNeg x1)), .int x2] τ1 (zQi (fun v4 τ4 => K v4 τ4) (fun E τ => X E τ)))))) (fun E τ => X E τ))) :
    CT g l M_X5_seenAt 0 [.ref (zad g 18), .int x1, .int x2] σ (zQi K X) := by
  refine CT_of rfl (by decide) (Nat.le_of_ble_eq_true rfl) ?_
  change EV _ _ _ _ _ 0 [(0, .ref (zad g 18)), (1, .int x1), (2, .int x2)] [] _
  refine e_aload_n dX5_seenAt_0 rfl 0 rfl ?_
  refine e_iload_n dX5_seenAt_1 rfl 1 rfl ?_
  refine e_callVi (j1 := 0) (j2 := 0) (av := [.int x1]) rfl rfl (Nat.le_of_ble_eq_true rfl) rfl rfl H i_X5_isShown rfl n_X5_isShown v_X5_isShown q_X5_59 (by decide) (by decide) (Nat.le_of_ble_eq_true rfl) dX5_seenAt_2 (fun v1 τ1 H => ?_) (fun E τ H => H)
  refine e_if_eq (tgt := 19) dX5_seenAt_5 (by decide) (fun h2 => ?_) (fun h2 => ?_)
  · replace H := H.1 h2
    refine e_aload_n dX5_seenAt_19 rfl 0 rfl ?_
    refine fg_X5_9 rfl dX5_seenAt_20 ?_
    refine e_iload_n dX5_seenAt_23 rfl 1 rfl ?_
    refine e_iald (n := 60) rfl (Nat.le_of_ble_eq_true rfl) H.1 dX5_seenAt_24 ?_
    replace H := H.2
    refine e_iconst (v := 1) dX5_seenAt_25 (by decide) ?_
    refine e_icmp_ne (tgt := 34) dX5_seenAt_26 (by decide) (fun h3 => ?_) (fun h3 => ?_)
    · replace H := H.1 h3
      refine e_iconst (v := (-1)) dX5_seenAt_34 (by decide) ?_
      exact e_iret rfl dX5_seenAt_35 H
    · replace H := H.2 h3
      refine e_bipush (v := (-2)) dX5_seenAt_29 (by decide) ?_
      refine e_goto (tgt := 35) dX5_seenAt_31 (by decide) ?_
      exact e_iret rfl dX5_seenAt_35 H
  · replace H := H.2 h2
    refine e_aload_n dX5_seenAt_8 rfl 0 rfl ?_
    refine fg_X5_15 rfl dX5_seenAt_9 ?_
    refine e_iload_n dX5_seenAt_12 rfl 1 rfl ?_
    refine e_iald (n := 60) rfl (Nat.le_of_ble_eq_true rfl) H.1 dX5_seenAt_13 ?_
    replace H := H.2
    refine e_iload_n dX5_seenAt_14 rfl 2 rfl ?_
    refine e_callSNi (j1 := 0) (j2 := 0) (av := [.int (τ1.1 20 (Int32.toNatClampNeg x1)), .int x2]) rfl H i_X6_colourIn rfl s_X6_colourIn nl_X5_63 (by decide) (by decide) (Nat.le_of_ble_eq_true rfl) dX5_seenAt_15 (fun v4 τ4 H => ?_) (fun E τ H => H)
    exact e_iret rfl dX5_seenAt_18 H
set_option maxRecDepth 20000 in
set_option maxHeartbeats 2000000 in
theorem b_X5_whyNotRight {g : zG} {l : Launch} {K : Int32 → zS → Prop} {X : String → zS → Prop} {x1 : Int32} {x2 : Int32} {x3 : Int32} {σ : zS}
    (H : CT g l M_X5_isShown 0 [.ref (zad g 18), .int x2] σ (zQi (fun v1 τ1 => ((v1 = 0 → (vp_in x2 60 ∧ K (τ1.1 19 (Int32.toNatClampNeg x2)) τ1)) ∧ (¬ v1 = 0 → CT g l M_X5_isSeenRight 0 [.ref (zad g 18), .int x1, .int x2, .int x3] τ1 (zQi (fun v3 τ3 => ((v3 = 0 → (vp_in x2 60 ∧ ((¬ (τ3.1 21 (Int32.toNatClampNeg x2)) = x1 → K 4 τ3) ∧ ((τ3.1 21 (Int32.toNatClampNeg x2)) = x1 → K 5 τ3)))) ∧ (¬ v3 = 0 → (vp_in x2 60 ∧ K (τ3.1 19 (Int32.toNatClampNeg x2)) τ3)))) (fun E τ => X E τ))))) (fun E τ => X E τ))) :
    CT g l M_X5_whyNotRight 0 [.ref (zad g 18), .int x1, .int x2, .int x3] σ (zQi K X) := by
  refine CT_of rfl (by decide) (Nat.le_of_ble_eq_true rfl) ?_
  change EV _ _ _ _ _ 0 [(0, .ref (zad g 18)), (1, .int x1), (2, .int x2), (3, .int x3)] [] _
  refine e_aload_n dX5_whyNotRight_0 rfl 0 rfl ?_
  refine e_iload_n dX5_whyNotRight_1 rfl 2 rfl ?_
  refine e_callVi (j1 := 0) (j2 := 0) (av := [.int x2]) rfl rfl (Nat.le_of_ble_eq_true rfl) rfl rfl H i_X5_isShown rfl n_X5_isShown v_X5_isShown q_X5_59 (by decide) (by decide) (Nat.le_of_ble_eq_true rfl) dX5_whyNotRight_2 (fun v1 τ1 H => ?_) (fun E τ H => H)
  refine e_if_eq (tgt := 18) dX5_whyNotRight_5 (by decide) (fun h2 => ?_) (fun h2 => ?_)
  · replace H := H.1 h2
    refine e_aload_n dX5_whyNotRight_18 rfl 0 rfl ?_
    refine fg_X5_9 rfl dX5_whyNotRight_19 ?_
    refine e_iload_n dX5_whyNotRight_22 rfl 2 rfl ?_
    refine e_iald (n := 60) rfl (Nat.le_of_ble_eq_true rfl) H.1 dX5_whyNotRight_23 ?_
    replace H := H.2
    exact e_iret rfl dX5_whyNotRight_24 H
  · replace H := H.2 h2
    refine e_aload_n dX5_whyNotRight_8 rfl 0 rfl ?_
    refine e_iload_n dX5_whyNotRight_9 rfl 1 rfl ?_
    refine e_iload_n dX5_whyNotRight_10 rfl 2 rfl ?_
    refine e_iload_n dX5_whyNotRight_11 rfl 3 rfl ?_
    refine e_callVi (j1 := 0) (j2 := 0) (av := [.int x1, .int x2, .int x3]) rfl rfl (Nat.le_of_ble_eq_true rfl) rfl rfl H i_X5_isSeenRight rfl n_X5_isSeenRight v_X5_isSeenRight q_X5_66 (by decide) (by decide) (Nat.le_of_ble_eq_true rfl) dX5_whyNotRight_12 (fun v3 τ3 H => ?_) (fun E τ H => H)
    refine e_if_eq (tgt := 25) dX5_whyNotRight_15 (by decide) (fun h4 => ?_) (fun h4 => ?_)
    · replace H := H.1 h4
      refine e_aload_n dX5_whyNotRight_25 rfl 0 rfl ?_
      refine fg_X5_18 rfl dX5_whyNotRight_26 ?_
      refine e_iload_n dX5_whyNotRight_29 rfl 2 rfl ?_
      refine e_zald (n := 60) rfl (Nat.le_of_ble_eq_true rfl) H.1 dX5_whyNotRight_30 ?_
      replace H := H.2
      refine e_iload_n dX5_whyNotRight_31 rfl 1 rfl ?_
      refine e_icmp_ne (tgt := 39) dX5_whyNotRight_32 (by decide) (fun h5 => ?_) (fun h5 => ?_)
      · replace H := H.1 h5
        refine e_iconst (v := 4) dX5_whyNotRight_39 (by decide) ?_
        exact e_iret rfl dX5_whyNotRight_40 H
      · replace H := H.2 h5
        refine e_iconst (v := 5) dX5_whyNotRight_35 (by decide) ?_
        refine e_goto (tgt := 40) dX5_whyNotRight_36 (by decide) ?_
        exact e_iret rfl dX5_whyNotRight_40 H
    · replace H := H.2 h4
      refine e_aload_n dX5_whyNotRight_18 rfl 0 rfl ?_
      refine fg_X5_9 rfl dX5_whyNotRight_19 ?_
      refine e_iload_n dX5_whyNotRight_22 rfl 2 rfl ?_
      refine e_iald (n := 60) rfl (Nat.le_of_ble_eq_true rfl) H.1 dX5_whyNotRight_23 ?_
      replace H := H.2
      exact e_iret rfl dX5_whyNotRight_24 H
set_option maxRecDepth 20000 in
set_option maxHeartbeats 2000000 in
theorem b_X5_isSeenRight {g : zG} {l : Launch} {K : Int32 → zS → Prop} {X : String → zS → Prop} {x1 : Int32} {x2 : Int32} {x3 : Int32} {σ : zS}
    (H : CT g l M_X0_pictureOf 0 [.ref (zad g 73), .int x1] σ (zQr g (fun v1 τ1 => zsh v1 = .inr (0, 60) ∧ v1 < 163 ∧ (vp_in x2 60 ∧ CT g l M_X6_colourIn 0 [.int (τ1.1 v1 (Int32.toNatClampNeg x2)), .int x3] τ1 (zQi (fun v2 τ2 => CT g l M_X5_isShown 0 [.ref (zad g 18), .int x2] τ2 (zQi (fun v3 τ3 => ((v3 = 0 → K 0 τ3) ∧ (¬ v3 = 0 → (vp_in x2 60 ∧ CT g l M_X6_colourIn 0 [.int (τ3.1 20 (Int32.toNatClampNeg x2)), .int x3] τ3 (zQi (fun v5 τ5 => ((¬ v5 = v2 → K 0 τ5) ∧ (v5 = v2 → K 1 τ5))) (fun E τ => X E τ)))))) (fun E τ => X E τ))) (fun E τ => X E τ)))) (fun E τ => X E τ))) :
    CT g l M_X5_isSeenRight 0 [.ref (zad g 18), .int x1, .int x2, .int x3] σ (zQi K X) := by
  refine CT_of rfl (by decide) (Nat.le_of_ble_eq_true rfl) ?_
  change EV _ _ _ _ _ 0 [(0, .ref (zad g 18)), (1, .int x1), (2, .int x2), (3, .int x3)] [] _
  refine e_aload_n dX5_isSeenRight_0 rfl 0 rfl ?_
  refine fg_X5_22 rfl dX5_isSeenRight_1 ?_
  refine e_iload_n dX5_isSeenRight_4 rfl 1 rfl ?_
  refine e_callVr (j1 := 0) (j2 := 0) (av := [.int x1]) rfl (zB_s0 zB_73) (zB_l0 zB_73) rfl rfl H i_X0_pictureOf rfl n_X0_pictureOf v_X0_pictureOf q_X5_70 (by decide) (by decide) (Nat.le_of_ble_eq_true rfl) dX5_isSeenRight_5 (fun v1 τ1 H => ?_) (fun E τ H => H)
  have hsv1 := H.1
  have hlv1 := H.2.1
  replace H := H.2.2
  refine e_iload_n dX5_isSeenRight_8 rfl 2 rfl ?_
  refine e_iald (n := 60) hsv1 hlv1 H.1 dX5_isSeenRight_9 ?_
  replace H := H.2
  refine e_iload_n dX5_isSeenRight_10 rfl 3 rfl ?_
  refine e_callSNi (j1 := 0) (j2 := 0) (av := [.int (τ1.1 v1 (Int32.toNatClampNeg x2)), .int x3]) rfl H i_X6_colourIn rfl s_X6_colourIn nl_X5_63 (by decide) (by decide) (Nat.le_of_ble_eq_true rfl) dX5_isSeenRight_11 (fun v2 τ2 H => ?_) (fun E τ H => H)
  refine e_istore (ls' := [(4, .int v2), (0, .ref (zad g 18)), (1, .int x1), (2, .int x2), (3, .int x3)]) dX5_isSeenRight_14 (by decide) rfl ?_
  refine e_aload_n dX5_isSeenRight_16 rfl 1 rfl ?_
  refine e_iload_n dX5_isSeenRight_17 rfl 3 rfl ?_
  refine e_callVi (j1 := 0) (j2 := 0) (av := [.int x2]) rfl rfl (Nat.le_of_ble_eq_true rfl) rfl rfl H i_X5_isShown rfl n_X5_isShown v_X5_isShown q_X5_59 (by decide) (by decide) (Nat.le_of_ble_eq_true rfl) dX5_isSeenRight_18 (fun v3 τ3 H => ?_) (fun E τ H => H)
  refine e_if_eq (tgt := 43) dX5_isSeenRight_21 (by decide) (fun h4 => ?_) (fun h4 => ?_)
  · replace H := H.1 h4
    refine e_iconst (v := 0) dX5_isSeenRight_43 (by decide) ?_
    exact e_zret rfl rfl dX5_isSeenRight_44 H
  · replace H := H.2 h4
    refine e_aload_n dX5_isSeenRight_24 rfl 1 rfl ?_
    refine fg_X5_15 rfl dX5_isSeenRight_25 ?_
    refine e_iload_n dX5_isSeenRight_28 rfl 3 rfl ?_
    refine e_iald (n := 60) rfl (Nat.le_of_ble_eq_true rfl) H.1 dX5_isSeenRight_29 ?_
    replace H := H.2
    refine e_iload_n dX5_isSeenRight_30 rfl 4 rfl ?_
    refine e_callSNi (j1 := 0) (j2 := 0) (av := [.int (τ3.1 20 (Int32.toNatClampNeg x2)), .int x3]) rfl H i_X6_colourIn rfl s_X6_colourIn nl_X5_63 (by decide) (by decide) (Nat.le_of_ble_eq_true rfl) dX5_isSeenRight_31 (fun v5 τ5 H => ?_) (fun E τ H => H)
    refine e_iload dX5_isSeenRight_34 0 rfl ?_
    refine e_icmp_ne (tgt := 43) dX5_isSeenRight_36 (by decide) (fun h6 => ?_) (fun h6 => ?_)
    · replace H := H.1 h6
      refine e_iconst (v := 0) dX5_isSeenRight_43 (by decide) ?_
      exact e_zret rfl rfl dX5_isSeenRight_44 H
    · replace H := H.2 h6
      refine e_iconst (v := 1) dX5_isSeenRight_39 (by decide) ?_
      refine e_goto (tgt := 44) dX5_isSeenRight_40 (by decide) ?_
      exact e_zret rfl rfl dX5_isSeenRight_44 H
abbrev L_X5_columnsWith_4 (g : zG) (l : Launch) (K : Int32 → zS → Prop) (X : String → zS → Prop) (y1 : Int32) (y2 : Int32) (y3 : Int32) (σ : zS) : Prop :=
  EV g l M_X5_columnsWith 0 (zQi K X) 4 [(0, .ref (zad g 18)), (1, .int y1), (2, .int y2), (3, .int y3)] [] σ
set_option maxRecDepth 20000 in
set_option maxHeartbeats 2000000 in
theorem b_X5_columnsWith {g : zG} {l : Launch} {K : Int32 → zS → Prop} {X : String → zS → Prop} {x1 : Int32} {σ : zS}
    (H : L_X5_columnsWith_4 g l K X x1 0 0 σ) :
    CT g l M_X5_columnsWith 0 [.ref (zad g 18), .int x1] σ (zQi K X) := by
  refine CT_of rfl (by decide) (Nat.le_of_ble_eq_true rfl) ?_
  change EV _ _ _ _ _ 0 [(0, .ref (zad g 18)), (1, .int x1)] [] _
  refine e_iconst (v := 0) dX5_columnsWith_0 (by decide) ?_
  refine e_istore_n (ls' := [(2, .int 0), (0, .ref (zad g 18)), (1, .int x1)]) dX5_columnsWith_1 rfl (by decide) rfl ?_
  refine e_iconst (v := 0) dX5_columnsWith_2 (by decide) ?_
  refine e_istore_n (ls' := [(3, .int 0), (2, .int 0), (0, .ref (zad g 18)), (1, .int x1)]) dX5_columnsWith_3 rfl (by decide) rfl ?_
  refine e_ls [2, 3, 1, 0] rfl ?_
  exact H
set_option maxRecDepth 20000 in
set_option maxHeartbeats 2000000 in
theorem b_X5_columnsWith_4 {g : zG} {l : Launch} {K : Int32 → zS → Prop} {X : String → zS → Prop} {y1 : Int32} {y2 : Int32} {y3 : Int32} {σ : zS}
    (H : (((σ.1 73 3) ≤ y3 → K y2 σ) ∧ (¬ (σ.1 73 3) ≤ y3 → (vp_in y3 60 ∧ ((¬ (σ.1 19 (Int32.toNatClampNeg y3)) = y1 → L_X5_columnsWith_4 g l K X y1 (y2 + 0) (y3 + 1) σ) ∧ ((σ.1 19 (Int32.toNatClampNeg y3)) = y1 → L_X5_columnsWith_4 g l K X y1 (y2 + 1) (y3 + 1) σ)))))) :
    L_X5_columnsWith_4 g l K X y1 y2 y3 σ := by
  refine e_iload_n dX5_columnsWith_4 rfl 3 rfl ?_
  refine e_aload_n dX5_columnsWith_5 rfl 0 rfl ?_
  refine fg_X5_22 rfl dX5_columnsWith_6 ?_
  refine fg_X5_73 (zB_s0 zB_73) (zB_l0 zB_73) rfl dX5_columnsWith_9 ?_
  refine e_icmp_ge (tgt := 39) dX5_columnsWith_12 (by decide) (fun h1 => ?_) (fun h1 => ?_)
  · replace H := H.1 h1
    refine e_iload_n dX5_columnsWith_39 rfl 2 rfl ?_
    exact e_iret rfl dX5_columnsWith_40 H
  · replace H := H.2 h1
    refine e_iload_n dX5_columnsWith_15 rfl 2 rfl ?_
    refine e_aload_n dX5_columnsWith_16 rfl 0 rfl ?_
    refine fg_X5_9 rfl dX5_columnsWith_17 ?_
    refine e_iload_n dX5_columnsWith_20 rfl 3 rfl ?_
    refine e_iald (n := 60) rfl (Nat.le_of_ble_eq_true rfl) H.1 dX5_columnsWith_21 ?_
    replace H := H.2
    refine e_iload_n dX5_columnsWith_22 rfl 1 rfl ?_
    refine e_icmp_ne (tgt := 30) dX5_columnsWith_23 (by decide) (fun h2 => ?_) (fun h2 => ?_)
    · replace H := H.1 h2
      refine e_iconst (v := 0) dX5_columnsWith_30 (by decide) ?_
      refine e_iadd dX5_columnsWith_31 ?_
      refine e_istore_n (ls' := [(2, .int (y2 + 0)), (0, .ref (zad g 18)), (1, .int y1), (3, .int y3)]) dX5_columnsWith_32 rfl (by decide) rfl ?_
      refine e_iinc (j := 3) (v := (y3 + 1)) (ls' := [(3, .int (y3 + 1)), (2, .int (y2 + 0)), (0, .ref (zad g 18)), (1, .int y1)]) dX5_columnsWith_33 rfl rfl (by decide) rfl ?_
      refine e_goto (tgt := 4) dX5_columnsWith_36 (by decide) ?_
      refine e_ls [2, 3, 1, 0] rfl ?_
      exact H
    · replace H := H.2 h2
      refine e_iconst (v := 1) dX5_columnsWith_26 (by decide) ?_
      refine e_goto (tgt := 31) dX5_columnsWith_27 (by decide) ?_
      refine e_iadd dX5_columnsWith_31 ?_
      refine e_istore_n (ls' := [(2, .int (y2 + 1)), (0, .ref (zad g 18)), (1, .int y1), (3, .int y3)]) dX5_columnsWith_32 rfl (by decide) rfl ?_
      refine e_iinc (j := 3) (v := (y3 + 1)) (ls' := [(3, .int (y3 + 1)), (2, .int (y2 + 1)), (0, .ref (zad g 18)), (1, .int y1)]) dX5_columnsWith_33 rfl rfl (by decide) rfl ?_
      refine e_goto (tgt := 4) dX5_columnsWith_36 (by decide) ?_
      refine e_ls [2, 3, 1, 0] rfl ?_
      exact H
abbrev L_X5_rightCells_16 (g : zG) (l : Launch) (K : Int32 → zS → Prop) (X : String → zS → Prop) (y3 : Int32) (y4 : Nat) (y5 : Int32) (y6 : Int32) (σ : zS) : Prop :=
  EV g l M_X5_rightCells 0 (zQi K X) 16 [(0, .ref (zad g 18)), (3, .int y3), (4, .ref (zad g y4)), (5, .int y5), (6, .int y6)] [] σ
set_option maxRecDepth 20000 in
set_option maxHeartbeats 2000000 in
theorem b_X5_rightCells {g : zG} {l : Launch} {K : Int32 → zS → Prop} {X : String → zS → Prop} {x1 : Int32} {x2 : Int32} {x3 : Int32} {σ : zS}
    (H : CT g l M_X0_pictureOf 0 [.ref (zad g 73), .int x1] σ (zQr g (fun v1 τ1 => zsh v1 = .inr (0, 60) ∧ v1 < 163 ∧ L_X5_rightCells_16 g l K X x3 v1 0 x2 τ1) (fun E τ => X E τ))) :
    CT g l M_X5_rightCells 0 [.ref (zad g 18), .int x1, .int x2, .int x3] σ (zQi K X) := by
  refine CT_of rfl (by decide) (Nat.le_of_ble_eq_true rfl) ?_
  change EV _ _ _ _ _ 0 [(0, .ref (zad g 18)), (1, .int x1), (2, .int x2), (3, .int x3)] [] _
  refine e_aload_n dX5_rightCells_0 rfl 0 rfl ?_
  refine fg_X5_22 rfl dX5_rightCells_1 ?_
  refine e_iload_n dX5_rightCells_4 rfl 1 rfl ?_
  refine e_callVr (j1 := 0) (j2 := 0) (av := [.int x1]) rfl (zB_s0 zB_73) (zB_l0 zB_73) rfl rfl H i_X0_pictureOf rfl n_X0_pictureOf v_X0_pictureOf q_X5_70 (by decide) (by decide) (Nat.le_of_ble_eq_true rfl) dX5_rightCells_5 (fun v1 τ1 H => ?_) (fun E τ H => H)
  have hsv1 := H.1
  have hlv1 := H.2.1
  replace H := H.2.2
  refine e_astore (ls' := [(4, .ref (zad g v1)), (0, .ref (zad g 18)), (1, .int x1), (2, .int x2), (3, .int x3)]) dX5_rightCells_8 (by decide) rfl ?_
  refine e_iconst (v := 0) dX5_rightCells_10 (by decide) ?_
  refine e_istore (ls' := [(5, .int 0), (4, .ref (zad g v1)), (0, .ref (zad g 18)), (1, .int x1), (2, .int x2), (3, .int x3)]) dX5_rightCells_11 (by decide) rfl ?_
  refine e_iload_n dX5_rightCells_13 rfl 4 rfl ?_
  refine e_istore (ls' := [(6, .int x2), (5, .int 0), (4, .ref (zad g v1)), (0, .ref (zad g 18)), (1, .int x1), (2, .int x2), (3, .int x3)]) dX5_rightCells_14 (by decide) rfl ?_
  refine e_ls [3, 6, 2, 1, 0] rfl ?_
  exact H
set_option maxRecDepth 20000 in
set_option maxHeartbeats 2000000 in
theorem b_X5_rightCells_16 {g : zG} {l : Launch} {K : Int32 → zS → Prop} {X : String → zS → Prop} {y3 : Int32} {y4 : Nat} {y5 : Int32} {y6 : Int32} {σ : zS} (hy4 : zsh y4 = .inr (0, 60)) (ly4 : y4 < 163)
    (H : ((y3 ≤ y6 → K y5 σ) ∧ (¬ y3 ≤ y6 → CT g l M_X5_isShown 0 [.ref (zad g 18), .int y6] σ (zQi (fun v2 τ2 => ((v2 = 0 → L_X5_rightCells_16 g l K X y3 y4 y5 (y6 + 1) τ2) ∧ (¬ v2 = 0 → (vp_in y6 60 ∧ (vp_in y6 60 ∧ CT g l M_X6_unlikeRows 0 [.int (τ2.1 20 (Int32.toNatClampNeg y6)), .int (τ2.1 y4 (Int32.toNatClampNeg y6))] τ2 (zQi (fun v4 τ4 => L_X5_rightCells_16 g l K X y3 y4 (y5 + ((τ2.1 73 0) - v4)) (y6 + 1) τ4) (fun E τ => X E τ))))))) (fun E τ => X E τ))))) :
    L_X5_rightCells_16 g l K X y3 y4 y5 y6 σ := by
  refine e_iload dX5_rightCells_16 4 rfl ?_
  refine e_iload_n dX5_rightCells_18 rfl 1 rfl ?_
  refine e_icmp_ge (tgt := 65) dX5_rightCells_19 (by decide) (fun h1 => ?_) (fun h1 => ?_)
  · replace H := H.1 h1
    refine e_iload dX5_rightCells_65 3 rfl ?_
    exact e_iret rfl dX5_rightCells_67 H
  · replace H := H.2 h1
    refine e_aload_n dX5_rightCells_22 rfl 0 rfl ?_
    refine e_iload dX5_rightCells_23 4 rfl ?_
    refine e_callVi (j1 := 0) (j2 := 0) (av := [.int y6]) rfl rfl (Nat.le_of_ble_eq_true rfl) rfl rfl H i_X5_isShown rfl n_X5_isShown v_X5_isShown q_X5_59 (by decide) (by decide) (Nat.le_of_ble_eq_true rfl) dX5_rightCells_25 (fun v2 τ2 H => ?_) (fun E τ H => H)
    refine e_if_eq (tgt := 59) dX5_rightCells_28 (by decide) (fun h3 => ?_) (fun h3 => ?_)
    · replace H := H.1 h3
      refine e_iinc (j := 4) (v := (y6 + 1)) (ls' := [(6, .int (y6 + 1)), (0, .ref (zad g 18)), (3, .int y3), (4, .ref (zad g y4)), (5, .int y5)]) dX5_rightCells_59 rfl rfl (by decide) rfl ?_
      refine e_goto (tgt := 16) dX5_rightCells_62 (by decide) ?_
      refine e_ls [1, 2, 3, 4, 0] rfl ?_
      exact H
    · replace H := H.2 h3
      refine e_iload dX5_rightCells_31 3 rfl ?_
      refine e_aload_n dX5_rightCells_33 rfl 0 rfl ?_
      refine fg_X5_22 rfl dX5_rightCells_34 ?_
      refine fg_X5_76 (zB_s0 zB_73) (zB_l0 zB_73) rfl dX5_rightCells_37 ?_
      refine e_aload_n dX5_rightCells_40 rfl 0 rfl ?_
      refine fg_X5_15 rfl dX5_rightCells_41 ?_
      refine e_iload dX5_rightCells_44 4 rfl ?_
      refine e_iald (n := 60) rfl (Nat.le_of_ble_eq_true rfl) H.1 dX5_rightCells_46 ?_
      replace H := H.2
      refine e_aload dX5_rightCells_47 2 rfl ?_
      refine e_iload dX5_rightCells_49 4 rfl ?_
      refine e_iald (n := 60) hy4 ly4 H.1 dX5_rightCells_51 ?_
      replace H := H.2
      refine e_callSNi (j1 := 0) (j2 := 0) (av := [.int (τ2.1 20 (Int32.toNatClampNeg y6)), .int (τ2.1 y4 (Int32.toNatClampNeg y6))]) rfl H i_X6_unlikeRows rfl s_X6_unlikeRows nl_X5_79 (by decide) (by decide) (Nat.le_of_ble_eq_true rfl) dX5_rightCells_52 (fun v4 τ4 H => ?_) (fun E τ H => H)
      refine e_isub dX5_rightCells_55 ?_
      refine e_iadd dX5_rightCells_56 ?_
      refine e_istore (ls' := [(5, .int (y5 + ((τ2.1 73 0) - v4))), (0, .ref (zad g 18)), (3, .int y3), (4, .ref (zad g y4)), (6, .int y6)]) dX5_rightCells_57 (by decide) rfl ?_
      refine e_iinc (j := 4) (v := (y6 + 1)) (ls' := [(6, .int (y6 + 1)), (5, .int (y5 + ((τ2.1 73 0) - v4))), (0, .ref (zad g 18)), (3, .int y3), (4, .ref (zad g y4))]) dX5_rightCells_59 rfl rfl (by decide) rfl ?_
      refine e_goto (tgt := 16) dX5_rightCells_62 (by decide) ?_
      refine e_ls [2, 3, 4, 1, 0] rfl ?_
      exact H
set_option maxRecDepth 20000 in
set_option maxHeartbeats 2000000 in
theorem b_X5_isWhole {g : zG} {l : Launch} {K : Int32 → zS → Prop} {X : String → zS → Prop} {x1 : Int32} {σ : zS}
    (H : CT g l M_X5_rightCells 0 [.ref (zad g 18), .int x1, .int 0, .int (σ.1 73 3)] σ (zQi (fun v1 τ1 => CT g l M_X0_cells 0 [.ref (zad g 73)] τ1 (zQi (fun v2 τ2 => ((¬ v1 = v2 → (((τ2.1 73 3) ≤ 0 → K 0 τ2) ∧ (¬ (τ2.1 73 3) ≤ 0 → K 0 τ2))) ∧ (v1 = v2 → (((τ2.1 73 3) ≤ 0 → K 0 τ2) ∧ (¬ (τ2.1 73 3) ≤ 0 → K 1 τ2))))) (fun E τ => X E τ))) (fun E τ => X E τ))) :
    CT g l M_X5_isWhole 0 [.ref (zad g 18), .int x1] σ (zQi K X) := by
  refine CT_of rfl (by decide) (Nat.le_of_ble_eq_true rfl) ?_
  change EV _ _ _ _ _ 0 [(0, .ref (zad g 18)), (1, .int x1)] [] _
  refine e_aload_n dX5_isWhole_0 rfl 0 rfl ?_
  refine e_iload_n dX5_isWhole_1 rfl 1 rfl ?_
  refine e_iconst (v := 0) dX5_isWhole_2 (by decide) ?_
  refine e_aload_n dX5_isWhole_3 rfl 0 rfl ?_
  refine fg_X5_22 rfl dX5_isWhole_4 ?_
  refine fg_X5_73 (zB_s0 zB_73) (zB_l0 zB_73) rfl dX5_isWhole_7 ?_
  refine e_callVi (j1 := 0) (j2 := 0) (av := [.int x1, .int 0, .int (σ.1 73 3)]) rfl rfl (Nat.le_of_ble_eq_true rfl) rfl rfl H i_X5_rightCells rfl n_X5_rightCells v_X5_rightCells q_X5_82 (by decide) (by decide) (Nat.le_of_ble_eq_true rfl) dX5_isWhole_10 (fun v1 τ1 H => ?_) (fun E τ H => H)
  refine e_aload_n dX5_isWhole_13 rfl 0 rfl ?_
  refine fg_X5_22 rfl dX5_isWhole_14 ?_
  refine e_callVi (j1 := 0) (j2 := 0) (av := []) rfl (zB_s0 zB_73) (zB_l0 zB_73) rfl rfl H i_X0_cells rfl n_X0_cells v_X0_cells q_X5_86 (by decide) (by decide) (Nat.le_of_ble_eq_true rfl) dX5_isWhole_17 (fun v2 τ2 H => ?_) (fun E τ H => H)
  refine e_icmp_ne (tgt := 27) dX5_isWhole_20 (by decide) (fun h3 => ?_) (fun h3 => ?_)
  · replace H := H.1 h3
    refine e_iconst (v := 0) dX5_isWhole_27 (by decide) ?_
    refine e_istore_n (ls' := [(2, .int 0), (0, .ref (zad g 18)), (1, .int x1)]) dX5_isWhole_28 rfl (by decide) rfl ?_
    refine e_aload_n dX5_isWhole_29 rfl 1 rfl ?_
    refine fg_X5_22 rfl dX5_isWhole_30 ?_
    refine fg_X5_73 (zB_s0 zB_73) (zB_l0 zB_73) rfl dX5_isWhole_33 ?_
    refine e_if_le (tgt := 47) dX5_isWhole_36 (by decide) (fun h4 => ?_) (fun h4 => ?_)
    · replace H := H.1 h4
      refine e_iconst (v := 0) dX5_isWhole_47 (by decide) ?_
      exact e_zret rfl rfl dX5_isWhole_48 H
    · replace H := H.2 h4
      refine e_iload_n dX5_isWhole_39 rfl 0 rfl ?_
      refine e_if_eq (tgt := 47) dX5_isWhole_40 (by decide) (fun h5 => ?_) (fun h5 => ?_)
      · refine e_iconst (v := 0) dX5_isWhole_47 (by decide) ?_
        exact e_zret rfl rfl dX5_isWhole_48 H
      · exact absurd h5 (by decide)
  · replace H := H.2 h3
    refine e_iconst (v := 1) dX5_isWhole_23 (by decide) ?_
    refine e_goto (tgt := 28) dX5_isWhole_24 (by decide) ?_
    refine e_istore_n (ls' := [(2, .int 1), (0, .ref (zad g 18)), (1, .int x1)]) dX5_isWhole_28 rfl (by decide) rfl ?_
    refine e_aload_n dX5_isWhole_29 rfl 1 rfl ?_
    refine fg_X5_22 rfl dX5_isWhole_30 ?_
    refine fg_X5_73 (zB_s0 zB_73) (zB_l0 zB_73) rfl dX5_isWhole_33 ?_
    refine e_if_le (tgt := 47) dX5_isWhole_36 (by decide) (fun h6 => ?_) (fun h6 => ?_)
    · replace H := H.1 h6
      refine e_iconst (v := 0) dX5_isWhole_47 (by decide) ?_
      exact e_zret rfl rfl dX5_isWhole_48 H
    · replace H := H.2 h6
      refine e_iload_n dX5_isWhole_39 rfl 0 rfl ?_
      refine e_if_eq (tgt := 47) dX5_isWhole_40 (by decide) (fun h7 => ?_) (fun h7 => ?_)
      · exact absurd h7 (by decide)
      · refine e_iconst (v := 1) dX5_isWhole_43 (by decide) ?_
        refine e_goto (tgt := 48) dX5_isWhole_44 (by decide) ?_
        exact e_zret rfl rfl dX5_isWhole_48 H
abbrev L_X5_firstNotRight_2 (g : zG) (l : Launch) (K : Int32 → zS → Prop) (X : String → zS → Prop) (y1 : Int32) (y2 : Int32) (σ : zS) : Prop :=
  EV g l M_X5_firstNotRight 0 (zQi K X) 2 [(0, .ref (zad g 18)), (1, .int y1), (2, .int y2)] [] σ
abbrev L_X5_firstNotRight_15 (g : zG) (l : Launch) (K : Int32 → zS → Prop) (X : String → zS → Prop) (y1 : Int32) (y2 : Int32) (y3 : Int32) (σ : zS) : Prop :=
  EV g l M_X5_firstNotRight 0 (zQi K X) 15 [(0, .ref (zad g 18)), (1, .int y1), (2, .int y2), (3, .int y3)] [] σ
set_option maxRecDepth 20000 in
set_option maxHeartbeats 2000000 in
theorem b_X5_firstNotRight {g : zG} {l : Launch} {K : Int32 → zS → Prop} {X : String → zS → Prop} {x1 : Int32} {σ : zS}
    (H : L_X5_firstNotRight_2 g l K X x1 0 σ) :
    CT g l M_X5_firstNotRight 0 [.ref (zad g 18), .int x1] σ (zQi K X) := by
  refine CT_of rfl (by decide) (Nat.le_of_ble_eq_true rfl) ?_
  change EV _ _ _ _ _ 0 [(0, .ref (zad g 18)), (1, .int x1)] [] _
  refine e_iconst (v := 0) dX5_firstNotRight_0 (by decide) ?_
  refine e_istore_n (ls' := [(2, .int 0), (0, .ref (zad g 18)), (1, .int x1)]) dX5_firstNotRight_1 rfl (by decide) rfl ?_
  refine e_ls [1, 2, 0] rfl ?_
  exact H
set_option maxRecDepth 20000 in
set_option maxHeartbeats 2000000 in
theorem b_X5_firstNotRight_2 {g : zG} {l : Launch} {K : Int32 → zS → Prop} {X : String → zS → Prop} {y1 : Int32} {y2 : Int32} {σ : zS}
    (H : (((σ.1 73 0) ≤ y2 → K (-1) σ) ∧ (¬ (σ.1 73 0) ≤ y2 → L_X5_firstNotRight_15 g l K X y1 y2 0 σ))) :
    L_X5_firstNotRight_2 g l K X y1 y2 σ := by
  refine e_iload_n dX5_firstNotRight_2 rfl 2 rfl ?_
  refine e_aload_n dX5_firstNotRight_3 rfl 0 rfl ?_
  refine fg_X5_22 rfl dX5_firstNotRight_4 ?_
  refine fg_X5_76 (zB_s0 zB_73) (zB_l0 zB_73) rfl dX5_firstNotRight_7 ?_
  refine e_icmp_ge (tgt := 60) dX5_firstNotRight_10 (by decide) (fun h1 => ?_) (fun h1 => ?_)
  · replace H := H.1 h1
    refine e_iconst (v := (-1)) dX5_firstNotRight_60 (by decide) ?_
    exact e_iret rfl dX5_firstNotRight_61 H
  · replace H := H.2 h1
    refine e_iconst (v := 0) dX5_firstNotRight_13 (by decide) ?_
    refine e_istore_n (ls' := [(3, .int 0), (0, .ref (zad g 18)), (1, .int y1), (2, .int y2)]) dX5_firstNotRight_14 rfl (by decide) rfl ?_
    refine e_ls [1, 2, 3, 0] rfl ?_
    exact H
set_option maxRecDepth 20000 in
set_option maxHeartbeats 2000000 in
theorem b_X5_firstNotRight_15 {g : zG} {l : Launch} {K : Int32 → zS → Prop} {X : String → zS → Prop} {y1 : Int32} {y2 : Int32} {y3 : Int32} {σ : zS}
    (H : (((σ.1 73 3) ≤ y3 → L_X5_firstNotRight_2 g l K X y1 (y2 + 1) σ) ∧ (¬ (σ.1 73 3) ≤ y3 → CT g l M_X5_isSeenRight 0 [.ref (zad g 18), .int y1, .int y3, .int y2] σ (zQi (fun v2 τ2 => ((¬ v2 = 0 → L_X5_firstNotRight_15 g l K X y1 y2 (y3 + 1) τ2) ∧ (v2 = 0 → K ((y2 * (τ2.1 73 3)) + y3) τ2))) (fun E τ => X E τ))))) :
    L_X5_firstNotRight_15 g l K X y1 y2 y3 σ := by
  refine e_iload_n dX5_firstNotRight_15 rfl 3 rfl ?_
  refine e_aload_n dX5_firstNotRight_16 rfl 0 rfl ?_
  refine fg_X5_22 rfl dX5_firstNotRight_17 ?_
  refine fg_X5_73 (zB_s0 zB_73) (zB_l0 zB_73) rfl dX5_firstNotRight_20 ?_
  refine e_icmp_ge (tgt := 54) dX5_firstNotRight_23 (by decide) (fun h1 => ?_) (fun h1 => ?_)
  · replace H := H.1 h1
    refine e_iinc (j := 2) (v := (y2 + 1)) (ls' := [(2, .int (y2 + 1)), (0, .ref (zad g 18)), (1, .int y1), (3, .int y3)]) dX5_firstNotRight_54 rfl rfl (by decide) rfl ?_
    refine e_goto (tgt := 2) dX5_firstNotRight_57 (by decide) ?_
    refine e_ls [1, 2, 0] rfl ?_
    exact H
  · replace H := H.2 h1
    refine e_aload_n dX5_firstNotRight_26 rfl 0 rfl ?_
    refine e_iload_n dX5_firstNotRight_27 rfl 1 rfl ?_
    refine e_iload_n dX5_firstNotRight_28 rfl 3 rfl ?_
    refine e_iload_n dX5_firstNotRight_29 rfl 2 rfl ?_
    refine e_callVi (j1 := 0) (j2 := 0) (av := [.int y1, .int y3, .int y2]) rfl rfl (Nat.le_of_ble_eq_true rfl) rfl rfl H i_X5_isSeenRight rfl n_X5_isSeenRight v_X5_isSeenRight q_X5_66 (by decide) (by decide) (Nat.le_of_ble_eq_true rfl) dX5_firstNotRight_30 (fun v2 τ2 H => ?_) (fun E τ H => H)
    refine e_if_ne (tgt := 48) dX5_firstNotRight_33 (by decide) (fun h3 => ?_) (fun h3 => ?_)
    · replace H := H.1 h3
      refine e_iinc (j := 3) (v := (y3 + 1)) (ls' := [(3, .int (y3 + 1)), (0, .ref (zad g 18)), (1, .int y1), (2, .int y2)]) dX5_firstNotRight_48 rfl rfl (by decide) rfl ?_
      refine e_goto (tgt := 15) dX5_firstNotRight_51 (by decide) ?_
      refine e_ls [1, 2, 3, 0] rfl ?_
      exact H
    · replace H := H.2 h3
      refine e_iload_n dX5_firstNotRight_36 rfl 2 rfl ?_
      refine e_aload_n dX5_firstNotRight_37 rfl 0 rfl ?_
      refine fg_X5_22 rfl dX5_firstNotRight_38 ?_
      refine fg_X5_73 (zB_s0 zB_73) (zB_l0 zB_73) rfl dX5_firstNotRight_41 ?_
      refine e_imul dX5_firstNotRight_44 ?_
      refine e_iload_n dX5_firstNotRight_45 rfl 3 rfl ?_
      refine e_iadd dX5_firstNotRight_46 ?_
      exact e_iret rfl dX5_firstNotRight_47 H
abbrev L_X5_mostShownTogether_6 (g : zG) (l : Launch) (K : Int32 → zS → Prop) (X : String → zS → Prop) (y1 : Int32) (y2 : Int32) (y3 : Int32) (σ : zS) : Prop :=
  EV g l M_X5_mostShownTogether 0 (zQi K X) 6 [(0, .ref (zad g 18)), (1, .int y1), (2, .int y2), (3, .int y3)] [] σ
set_option maxRecDepth 20000 in
set_option maxHeartbeats 2000000 in
theorem b_X5_mostShownTogether {g : zG} {l : Launch} {K : Int32 → zS → Prop} {X : String → zS → Prop} {σ : zS}
    (H : L_X5_mostShownTogether_6 g l K X 0 0 0 σ) :
    CT g l M_X5_mostShownTogether 0 [.ref (zad g 18)] σ (zQi K X) := by
  refine CT_of rfl (by decide) (Nat.le_of_ble_eq_true rfl) ?_
  change EV _ _ _ _ _ 0 [(0, .ref (zad g 18))] [] _
  refine e_iconst (v := 0) dX5_mostShownTogether_0 (by decide) ?_
  refine e_istore_n (ls' := [(1, .int 0), (0, .ref (zad g 18))]) dX5_mostShownTogether_1 rfl (by decide) rfl ?_
  refine e_iconst (v := 0) dX5_mostShownTogether_2 (by decide) ?_
  refine e_istore_n (ls' := [(2, .int 0), (1, .int 0), (0, .ref (zad g 18))]) dX5_mostShownTogether_3 rfl (by decide) rfl ?_
  refine e_iconst (v := 0) dX5_mostShownTogether_4 (by decide) ?_
  refine e_istore_n (ls' := [(3, .int 0), (2, .int 0), (1, .int 0), (0, .ref (zad g 18))]) dX5_mostShownTogether_5 rfl (by decide) rfl ?_
  refine e_ls [3, 2, 1, 0] rfl ?_
  exact H
set_option maxRecDepth 20000 in
set_option maxHeartbeats 2000000 in
theorem b_X5_mostShownTogether_6 {g : zG} {l : Launch} {K : Int32 → zS → Prop} {X : String → zS → Prop} {y1 : Int32} {y2 : Int32} {y3 : Int32} {σ : zS}
    (H : (((σ.1 73 3) ≤ y3 → K y1 σ) ∧ (¬ (σ.1 73 3) ≤ y3 → CT g l M_X5_isShown 0 [.ref (zad g 18), .int y3] σ (zQi (fun v2 τ2 => ((v2 = 0 → L_X5_mostShownTogether_6 g l K X (zmax y1 0) 0 (y3 + 1) τ2) ∧ (¬ v2 = 0 → L_X5_mostShownTogether_6 g l K X (zmax y1 (y2 + 1)) (y2 + 1) (y3 + 1) τ2))) (fun E τ => X E τ))))) :
    L_X5_mostShownTogether_6 g l K X y1 y2 y3 σ := by
  refine e_iload_n dX5_mostShownTogether_6 rfl 3 rfl ?_
  refine e_aload_n dX5_mostShownTogether_7 rfl 0 rfl ?_
  refine fg_X5_22 rfl dX5_mostShownTogether_8 ?_
  refine fg_X5_73 (zB_s0 zB_73) (zB_l0 zB_73) rfl dX5_mostShownTogether_11 ?_
  refine e_icmp_ge (tgt := 45) dX5_mostShownTogether_14 (by decide) (fun h1 => ?_) (fun h1 => ?_)
  · replace H := H.1 h1
    refine e_iload_n dX5_mostShownTogether_45 rfl 1 rfl ?_
    exact e_iret rfl dX5_mostShownTogether_46 H
  · replace H := H.2 h1
    refine e_aload_n dX5_mostShownTogether_17 rfl 0 rfl ?_
    refine e_iload_n dX5_mostShownTogether_18 rfl 3 rfl ?_
    refine e_callVi (j1 := 0) (j2 := 0) (av := [.int y3]) rfl rfl (Nat.le_of_ble_eq_true rfl) rfl rfl H i_X5_isShown rfl n_X5_isShown v_X5_isShown q_X5_59 (by decide) (by decide) (Nat.le_of_ble_eq_true rfl) dX5_mostShownTogether_19 (fun v2 τ2 H => ?_) (fun E τ H => H)
    refine e_if_eq (tgt := 31) dX5_mostShownTogether_22 (by decide) (fun h3 => ?_) (fun h3 => ?_)
    · replace H := H.1 h3
      refine e_iconst (v := 0) dX5_mostShownTogether_31 (by decide) ?_
      refine e_istore_n (ls' := [(2, .int 0), (0, .ref (zad g 18)), (1, .int y1), (3, .int y3)]) dX5_mostShownTogether_32 rfl (by decide) rfl ?_
      refine e_iload_n dX5_mostShownTogether_33 rfl 2 rfl ?_
      refine e_iload_n dX5_mostShownTogether_34 rfl 0 rfl ?_
      refine e_mmax qm_X5_38 ms_max mi_math mc_max (by decide) (Nat.le_of_ble_eq_true rfl) dX5_mostShownTogether_35 ?_
      change EV _ _ _ _ _ _ _ (.int (zmax y1 0) :: _) _
      refine e_istore_n (ls' := [(1, .int (zmax y1 0)), (2, .int 0), (0, .ref (zad g 18)), (3, .int y3)]) dX5_mostShownTogether_38 rfl (by decide) rfl ?_
      refine e_iinc (j := 3) (v := (y3 + 1)) (ls' := [(3, .int (y3 + 1)), (1, .int (zmax y1 0)), (2, .int 0), (0, .ref (zad g 18))]) dX5_mostShownTogether_39 rfl rfl (by decide) rfl ?_
      refine e_goto (tgt := 6) dX5_mostShownTogether_42 (by decide) ?_
      refine e_ls [3, 1, 2, 0] rfl ?_
      exact H
    · replace H := H.2 h3
      refine e_iload_n dX5_mostShownTogether_25 rfl 2 rfl ?_
      refine e_iconst (v := 1) dX5_mostShownTogether_26 (by decide) ?_
      refine e_iadd dX5_mostShownTogether_27 ?_
      refine e_goto (tgt := 32) dX5_mostShownTogether_28 (by decide) ?_
      refine e_istore_n (ls' := [(2, .int (y2 + 1)), (0, .ref (zad g 18)), (1, .int y1), (3, .int y3)]) dX5_mostShownTogether_32 rfl (by decide) rfl ?_
      refine e_iload_n dX5_mostShownTogether_33 rfl 2 rfl ?_
      refine e_iload_n dX5_mostShownTogether_34 rfl 0 rfl ?_
      refine e_mmax qm_X5_38 ms_max mi_math mc_max (by decide) (Nat.le_of_ble_eq_true rfl) dX5_mostShownTogether_35 ?_
      change EV _ _ _ _ _ _ _ (.int (zmax y1 (y2 + 1)) :: _) _
      refine e_istore_n (ls' := [(1, .int (zmax y1 (y2 + 1))), (2, .int (y2 + 1)), (0, .ref (zad g 18)), (3, .int y3)]) dX5_mostShownTogether_38 rfl (by decide) rfl ?_
      refine e_iinc (j := 3) (v := (y3 + 1)) (ls' := [(3, .int (y3 + 1)), (1, .int (zmax y1 (y2 + 1))), (2, .int (y2 + 1)), (0, .ref (zad g 18))]) dX5_mostShownTogether_39 rfl rfl (by decide) rfl ?_
      refine e_goto (tgt := 6) dX5_mostShownTogether_42 (by decide) ?_
      refine e_ls [3, 1, 2, 0] rfl ?_
      exact H
abbrev L_X5_ghostCells_32 (g : zG) (l : Launch) (K : Int32 → zS → Prop) (X : String → zS → Prop) (y2 : Nat) (y3 : Nat) (y4 : Int32) (y5 : Int32) (σ : zS) : Prop :=
  EV g l M_X5_ghostCells 0 (zQi K X) 32 [(0, .ref (zad g 18)), (2, .ref (zad g y2)), (3, .ref (zad g y3)), (4, .int y4), (5, .int y5)] [] σ
set_option maxRecDepth 20000 in
set_option maxHeartbeats 2000000 in
theorem b_X5_ghostCells {g : zG} {l : Launch} {K : Int32 → zS → Prop} {X : String → zS → Prop} {x1 : Int32} {σ : zS}
    (H : CT g l M_X0_pictureOf 0 [.ref (zad g 73), .int x1] σ (zQr g (fun v1 τ1 => zsh v1 = .inr (0, 60) ∧ v1 < 163 ∧ ((¬ x1 = 0 → CT g l M_X0_pictureOf 0 [.ref (zad g 73), .int 0] τ1 (zQr g (fun v3 τ3 => zsh v3 = .inr (0, 60) ∧ v3 < 163 ∧ L_X5_ghostCells_32 g l K X v1 v3 0 0 τ3) (fun E τ => X E τ))) ∧ (x1 = 0 → CT g l M_X0_pictureOf 0 [.ref (zad g 73), .int 1] τ1 (zQr g (fun v4 τ4 => zsh v4 = .inr (0, 60) ∧ v4 < 163 ∧ L_X5_ghostCells_32 g l K X v1 v4 0 0 τ4) (fun E τ => X E τ))))) (fun E τ => X E τ))) :
    CT g l M_X5_ghostCells 0 [.ref (zad g 18), .int x1] σ (zQi K X) := by
  refine CT_of rfl (by decide) (Nat.le_of_ble_eq_true rfl) ?_
  change EV _ _ _ _ _ 0 [(0, .ref (zad g 18)), (1, .int x1)] [] _
  refine e_aload_n dX5_ghostCells_0 rfl 0 rfl ?_
  refine fg_X5_22 rfl dX5_ghostCells_1 ?_
  refine e_iload_n dX5_ghostCells_4 rfl 1 rfl ?_
  refine e_callVr (j1 := 0) (j2 := 0) (av := [.int x1]) rfl (zB_s0 zB_73) (zB_l0 zB_73) rfl rfl H i_X0_pictureOf rfl n_X0_pictureOf v_X0_pictureOf q_X5_70 (by decide) (by decide) (Nat.le_of_ble_eq_true rfl) dX5_ghostCells_5 (fun v1 τ1 H => ?_) (fun E τ H => H)
  have hsv1 := H.1
  have hlv1 := H.2.1
  replace H := H.2.2
  refine e_astore_n (ls' := [(2, .ref (zad g v1)), (0, .ref (zad g 18)), (1, .int x1)]) dX5_ghostCells_8 rfl (by decide) rfl ?_
  refine e_aload_n dX5_ghostCells_9 rfl 1 rfl ?_
  refine fg_X5_22 rfl dX5_ghostCells_10 ?_
  refine e_iload_n dX5_ghostCells_13 rfl 2 rfl ?_
  refine e_if_ne (tgt := 21) dX5_ghostCells_14 (by decide) (fun h2 => ?_) (fun h2 => ?_)
  · replace H := H.1 h2
    refine e_iconst (v := 0) dX5_ghostCells_21 (by decide) ?_
    refine e_callVr (j1 := 0) (j2 := 0) (av := [.int 0]) rfl (zB_s0 zB_73) (zB_l0 zB_73) rfl rfl H i_X0_pictureOf rfl n_X0_pictureOf v_X0_pictureOf q_X5_70 (by decide) (by decide) (Nat.le_of_ble_eq_true rfl) dX5_ghostCells_22 (fun v3 τ3 H => ?_) (fun E τ H => H)
    have hsv3 := H.1
    have hlv3 := H.2.1
    replace H := H.2.2
    refine e_astore_n (ls' := [(3, .ref (zad g v3)), (2, .ref (zad g v1)), (0, .ref (zad g 18)), (1, .int x1)]) dX5_ghostCells_25 rfl (by decide) rfl ?_
    refine e_iconst (v := 0) dX5_ghostCells_26 (by decide) ?_
    refine e_istore (ls' := [(4, .int 0), (3, .ref (zad g v3)), (2, .ref (zad g v1)), (0, .ref (zad g 18)), (1, .int x1)]) dX5_ghostCells_27 (by decide) rfl ?_
    refine e_iconst (v := 0) dX5_ghostCells_29 (by decide) ?_
    refine e_istore (ls' := [(5, .int 0), (4, .int 0), (3, .ref (zad g v3)), (2, .ref (zad g v1)), (0, .ref (zad g 18)), (1, .int x1)]) dX5_ghostCells_30 (by decide) rfl ?_
    refine e_ls [4, 3, 2, 1, 0] rfl ?_
    exact H
  · replace H := H.2 h2
    refine e_iconst (v := 1) dX5_ghostCells_17 (by decide) ?_
    refine e_goto (tgt := 22) dX5_ghostCells_18 (by decide) ?_
    refine e_callVr (j1 := 0) (j2 := 0) (av := [.int 1]) rfl (zB_s0 zB_73) (zB_l0 zB_73) rfl rfl H i_X0_pictureOf rfl n_X0_pictureOf v_X0_pictureOf q_X5_70 (by decide) (by decide) (Nat.le_of_ble_eq_true rfl) dX5_ghostCells_22 (fun v4 τ4 H => ?_) (fun E τ H => H)
    have hsv4 := H.1
    have hlv4 := H.2.1
    replace H := H.2.2
    refine e_astore_n (ls' := [(3, .ref (zad g v4)), (2, .ref (zad g v1)), (0, .ref (zad g 18)), (1, .int x1)]) dX5_ghostCells_25 rfl (by decide) rfl ?_
    refine e_iconst (v := 0) dX5_ghostCells_26 (by decide) ?_
    refine e_istore (ls' := [(4, .int 0), (3, .ref (zad g v4)), (2, .ref (zad g v1)), (0, .ref (zad g 18)), (1, .int x1)]) dX5_ghostCells_27 (by decide) rfl ?_
    refine e_iconst (v := 0) dX5_ghostCells_29 (by decide) ?_
    refine e_istore (ls' := [(5, .int 0), (4, .int 0), (3, .ref (zad g v4)), (2, .ref (zad g v1)), (0, .ref (zad g 18)), (1, .int x1)]) dX5_ghostCells_30 (by decide) rfl ?_
    refine e_ls [4, 3, 2, 1, 0] rfl ?_
    exact H
set_option maxRecDepth 20000 in
set_option maxHeartbeats 2000000 in
theorem b_X5_ghostCells_32 {g : zG} {l : Launch} {K : Int32 → zS → Prop} {X : String → zS → Prop} {y2 : Nat} {y3 : Nat} {y4 : Int32} {y5 : Int32} {σ : zS} (hy2 : zsh y2 = .inr (0, 60)) (ly2 : y2 < 163) (hy3 : zsh y3 = .inr (0, 60)) (ly3 : y3 < 163)
    (H : (((σ.1 73 3) ≤ y5 → K y4 σ) ∧ (¬ (σ.1 73 3) ≤ y5 → (vp_in y5 60 ∧ (vp_in y5 60 ∧ CT g l M_X6_unlikeBits 0 [.int (σ.1 20 (Int32.toNatClampNeg y5)), .int (σ.1 y2 (Int32.toNatClampNeg y5))] σ (zQi (fun v2 τ2 => (vp_in y5 60 ∧ (vp_in y5 60 ∧ CT g l M_X6_unlikeBits 0 [.int (τ2.1 20 (Int32.toNatClampNeg y5)), .int (τ2.1 y3 (Int32.toNatClampNeg y5))] τ2 (zQi (fun v3 τ3 => CT g l M_X5_isShown 0 [.ref (zad g 18), .int y5] τ3 (zQi (fun v4 τ4 => ((v4 = 0 → L_X5_ghostCells_32 g l K X y2 y3 (y4 + 0) (y5 + 1) τ4) ∧ (¬ v4 = 0 → CT g l M_J6_bitCount_0f7a4 0 [.int (v2 &&& (v3 ^^^ (-1)))] τ4 (zQi (fun v6 τ6 => L_X5_ghostCells_32 g l K X y2 y3 (y4 + v6) (y5 + 1) τ6) (fun E τ => X E τ))))) (fun E τ => X E τ))) (fun E τ => X E τ))))) (fun E τ => X E τ))))))) :
    L_X5_ghostCells_32 g l K X y2 y3 y4 y5 σ := by
  refine e_iload dX5_ghostCells_32 4 rfl ?_
  refine e_aload_n dX5_ghostCells_34 rfl 0 rfl ?_
  refine fg_X5_22 rfl dX5_ghostCells_35 ?_
  refine fg_X5_73 (zB_s0 zB_73) (zB_l0 zB_73) rfl dX5_ghostCells_38 ?_
  refine e_icmp_ge (tgt := 110) dX5_ghostCells_41 (by decide) (fun h1 => ?_) (fun h1 => ?_)
  · replace H := H.1 h1
    refine e_iload dX5_ghostCells_110 3 rfl ?_
    exact e_iret rfl dX5_ghostCells_112 H
  · replace H := H.2 h1
    refine e_aload_n dX5_ghostCells_44 rfl 0 rfl ?_
    refine fg_X5_15 rfl dX5_ghostCells_45 ?_
    refine e_iload dX5_ghostCells_48 4 rfl ?_
    refine e_iald (n := 60) rfl (Nat.le_of_ble_eq_true rfl) H.1 dX5_ghostCells_50 ?_
    replace H := H.2
    refine e_aload_n dX5_ghostCells_51 rfl 1 rfl ?_
    refine e_iload dX5_ghostCells_52 4 rfl ?_
    refine e_iald (n := 60) hy2 ly2 H.1 dX5_ghostCells_54 ?_
    replace H := H.2
    refine e_callSNi (j1 := 0) (j2 := 0) (av := [.int (σ.1 20 (Int32.toNatClampNeg y5)), .int (σ.1 y2 (Int32.toNatClampNeg y5))]) rfl H i_X6_unlikeBits rfl s_X6_unlikeBits nl_X5_90 (by decide) (by decide) (Nat.le_of_ble_eq_true rfl) dX5_ghostCells_55 (fun v2 τ2 H => ?_) (fun E τ H => H)
    refine e_istore (ls' := [(6, .int v2), (0, .ref (zad g 18)), (2, .ref (zad g y2)), (3, .ref (zad g y3)), (4, .int y4), (5, .int y5)]) dX5_ghostCells_58 (by decide) rfl ?_
    refine e_aload_n dX5_ghostCells_60 rfl 1 rfl ?_
    refine fg_X5_15 rfl dX5_ghostCells_61 ?_
    refine e_iload dX5_ghostCells_64 5 rfl ?_
    refine e_iald (n := 60) rfl (Nat.le_of_ble_eq_true rfl) H.1 dX5_ghostCells_66 ?_
    replace H := H.2
    refine e_aload_n dX5_ghostCells_67 rfl 3 rfl ?_
    refine e_iload dX5_ghostCells_68 5 rfl ?_
    refine e_iald (n := 60) hy3 ly3 H.1 dX5_ghostCells_70 ?_
    replace H := H.2
    refine e_callSNi (j1 := 0) (j2 := 0) (av := [.int (τ2.1 20 (Int32.toNatClampNeg y5)), .int (τ2.1 y3 (Int32.toNatClampNeg y5))]) rfl H i_X6_unlikeBits rfl s_X6_unlikeBits nl_X5_90 (by decide) (by decide) (Nat.le_of_ble_eq_true rfl) dX5_ghostCells_71 (fun v3 τ3 H => ?_) (fun E τ H => H)
    refine e_istore (ls' := [(7, .int v3), (6, .int v2), (0, .ref (zad g 18)), (2, .ref (zad g y2)), (3, .ref (zad g y3)), (4, .int y4), (5, .int y5)]) dX5_ghostCells_74 (by decide) rfl ?_
    refine e_iload dX5_ghostCells_76 5 rfl ?_
    refine e_aload_n dX5_ghostCells_78 rfl 2 rfl ?_
    refine e_iload dX5_ghostCells_79 6 rfl ?_
    refine e_callVi (j1 := 0) (j2 := 0) (av := [.int y5]) rfl rfl (Nat.le_of_ble_eq_true rfl) rfl rfl H i_X5_isShown rfl n_X5_isShown v_X5_isShown q_X5_59 (by decide) (by decide) (Nat.le_of_ble_eq_true rfl) dX5_ghostCells_81 (fun v4 τ4 H => ?_) (fun E τ H => H)
    refine e_if_eq (tgt := 100) dX5_ghostCells_84 (by decide) (fun h5 => ?_) (fun h5 => ?_)
    · replace H := H.1 h5
      refine e_iconst (v := 0) dX5_ghostCells_100 (by decide) ?_
      refine e_iadd dX5_ghostCells_101 ?_
      refine e_istore (ls' := [(4, .int (y4 + 0)), (7, .int v3), (6, .int v2), (0, .ref (zad g 18)), (2, .ref (zad g y2)), (3, .ref (zad g y3)), (5, .int y5)]) dX5_ghostCells_102 (by decide) rfl ?_
      refine e_iinc (j := 6) (v := (y5 + 1)) (ls' := [(5, .int (y5 + 1)), (4, .int (y4 + 0)), (7, .int v3), (6, .int v2), (0, .ref (zad g 18)), (2, .ref (zad g y2)), (3, .ref (zad g y3))]) dX5_ghostCells_104 rfl rfl (by decide) rfl ?_
      refine e_goto (tgt := 32) dX5_ghostCells_107 (by decide) ?_
      refine e_ls [4, 5, 6, 1, 0] rfl ?_
      exact H
    · replace H := H.2 h5
      refine e_iload dX5_ghostCells_87 1 rfl ?_
      refine e_iload dX5_ghostCells_89 0 rfl ?_
      refine e_iconst (v := (-1)) dX5_ghostCells_91 (by decide) ?_
      refine e_ixor dX5_ghostCells_92 ?_
      refine e_iand dX5_ghostCells_93 ?_
      refine e_callSi (j1 := 0) (j2 := 0) (av := [.int (v2 &&& (v3 ^^^ (-1)))]) rfl H i_J6_bitCount_0f7a4 rfl s_J6_bitCount_0f7a4 q_X5_93 (by decide) (by decide) (Nat.le_of_ble_eq_true rfl) dX5_ghostCells_94 (fun v6 τ6 H => ?_) (fun E τ H => H)
      refine e_goto (tgt := 101) dX5_ghostCells_97 (by decide) ?_
      refine e_iadd dX5_ghostCells_101 ?_
      refine e_istore (ls' := [(4, .int (y4 + v6)), (7, .int v3), (6, .int v2), (0, .ref (zad g 18)), (2, .ref (zad g y2)), (3, .ref (zad g y3)), (5, .int y5)]) dX5_ghostCells_102 (by decide) rfl ?_
      refine e_iinc (j := 6) (v := (y5 + 1)) (ls' := [(5, .int (y5 + 1)), (4, .int (y4 + v6)), (7, .int v3), (6, .int v2), (0, .ref (zad g 18)), (2, .ref (zad g y2)), (3, .ref (zad g y3))]) dX5_ghostCells_104 rfl rfl (by decide) rfl ?_
      refine e_goto (tgt := 32) dX5_ghostCells_107 (by decide) ?_
      refine e_ls [4, 5, 6, 1, 0] rfl ?_
      exact H
