set_option maxRecDepth 20000 in
set_option maxHeartbeats 2000000 in
theorem b_X7_init {G : fG} {l : Launch} {K : Option zS → fW → Prop} {r0 : Nat} {o : Option zS} {ω : fW} {kb : Nat}
    (H : (∃ fs1 : List Value, ω r0 = some (.inr (11, fs1)) ∧ 0 < fs1.length ∧ (∀ ω2 : fW, ω2 = fup ω r0 (.inr (11, fs1.set 0 (.int 4))) → (∃ fs3 : List Value, ω2 r0 = some (.inr (11, fs3)) ∧ 1 < fs3.length ∧ (∀ ω4 : fW, ω4 = fup ω2 r0 (.inr (11, fs3.set 1 (.int 9))) → (1 ≤ kb ∧ ∀ (q5 : Nat) (ω6 : fW), ω4 q5 = none → ω6 = fup ω4 q5 (.inr (3, [.int 0, .null, .int 0])) → (0 ≤ (kb - 1) ∧ FC G l M_Jx4a65c_init_da8c8 0 [.ref q5] (o, ω6) (fQv (fun o8 ω9 => (∃ fs10 : List Value, ω9 r0 = some (.inr (11, fs10)) ∧ 2 < fs10.length ∧ (∀ ω11 : fW, ω11 = fup ω9 r0 (.inr (11, fs10.set 2 (.ref q5))) → (1 ≤ (kb - 1) ∧ ∀ (q12 : Nat) (ω13 : fW), ω11 q12 = none → ω13 = fup ω11 q12 (.inr (3, [.int 0, .null, .int 0])) → (0 ≤ ((kb - 1) - 1) ∧ FC G l M_Jx4a65c_init_da8c8 0 [.ref q12] (o8, ω13) (fQv (fun o15 ω16 => (∃ fs17 : List Value, ω16 r0 = some (.inr (11, fs17)) ∧ 3 < fs17.length ∧ (∀ ω18 : fW, ω18 = fup ω16 r0 (.inr (11, fs17.set 3 (.ref q12))) → (131 ≤ ((kb - 1) - 1) ∧ ∀ (q19 : Nat) (ω20 : fW), (∀ d, d < 131 → ω18 (q19 + d) = none) → ω20 = fwF G ω18 q19 → (∃ fs21 : List Value, ω20 r0 = some (.inr (11, fs21)) ∧ 4 < fs21.length ∧ (∀ ω22 : fW, ω22 = fup ω20 r0 (.inr (11, fs21.set 4 (.ref q19))) → (∃ fs23 : List Value, ω22 r0 = some (.inr (11, fs23)) ∧ 5 < fs23.length ∧ (∀ ω24 : fW, ω24 = fup ω22 r0 (.inr (11, fs23.set 5 (.ref (G.1.2.2.2.2.1 6)))) → K o15 ω24)))))))))))))))))))))) :
    FC G l M_X7_init kb [.ref r0] (o, ω) (fQv K) := by
  refine FC_of (by decide) (Nat.le_of_ble_eq_true rfl) ?_
  change FV _ _ _ _ _ 0 [(0, .ref r0)] [] _
  refine f_aload_n dX7_init_0 rfl 0 rfl ?_
  refine f_obj qo_X7_1 qi_obj qc_obj (by decide) (Nat.le_of_ble_eq_true rfl) dX7_init_1 ?_
  refine f_aload_n dX7_init_4 rfl 0 rfl ?_
  refine f_iconst (v := 4) dX7_init_5 (by decide) ?_
  obtain ⟨fs1, hfs1, gfs1, H⟩ := H
  refine pf_X7_7 rfl hfs1 gfs1 dX7_init_6 ?_
  replace H := H _ rfl
  generalize fup ω r0 (.inr (11, fs1.set 0 (.int 4))) = ω2 at H ⊢
  refine f_aload_n dX7_init_9 rfl 0 rfl ?_
  refine f_bipush (v := 9) dX7_init_10 (by decide) ?_
  obtain ⟨fs3, hfs3, gfs3, H⟩ := H
  refine pf_X7_13 rfl hfs3 gfs3 dX7_init_12 ?_
  replace H := H _ rfl
  generalize fup ω2 r0 (.inr (11, fs3.set 1 (.int 9))) = ω4 at H ⊢
  refine f_aload_n dX7_init_15 rfl 0 rfl ?_
  refine f_new3 cl_X7_16 (f_ks H.1) dX7_init_16 (fun q5 hq5 => ?_)
  replace H := H.2 q5 _ hq5 rfl
  generalize fup ω4 q5 (.inr (3, [.int 0, .null, .int 0])) = ω6 at H ⊢
  refine f_dup dX7_init_19 rfl ?_
  refine f_callIv (j1 := 0) (j2 := (kb - 1)) (av := []) rfl H.2 i_Jx4a65c_init_da8c8 rfl rfl rfl n_Jx4a65c_init_da8c8 q_X7_18 (by decide) (f_kj H.1) (Nat.le_of_ble_eq_true rfl) dX7_init_20 (fun o8 ω9 H => ?_)
  obtain ⟨fs10, hfs10, gfs10, H⟩ := H
  refine pf_X7_19 rfl hfs10 gfs10 dX7_init_23 ?_
  replace H := H _ rfl
  generalize fup ω9 r0 (.inr (11, fs10.set 2 (.ref q5))) = ω11 at H ⊢
  refine f_aload_n dX7_init_26 rfl 0 rfl ?_
  refine f_new3 cl_X7_16 (f_ks H.1) dX7_init_27 (fun q12 hq12 => ?_)
  replace H := H.2 q12 _ hq12 rfl
  generalize fup ω11 q12 (.inr (3, [.int 0, .null, .int 0])) = ω13 at H ⊢
  refine f_dup dX7_init_30 rfl ?_
  refine f_callIv (j1 := 0) (j2 := ((kb - 1) - 1)) (av := []) rfl H.2 i_Jx4a65c_init_da8c8 rfl rfl rfl n_Jx4a65c_init_da8c8 q_X7_18 (by decide) (f_kj H.1) (Nat.le_of_ble_eq_true rfl) dX7_init_31 (fun o15 ω16 H => ?_)
  obtain ⟨fs17, hfs17, gfs17, H⟩ := H
  refine pf_X7_23 rfl hfs17 gfs17 dX7_init_34 ?_
  replace H := H _ rfl
  generalize fup ω16 r0 (.inr (11, fs17.set 3 (.ref q12))) = ω18 at H ⊢
  refine f_aload_n dX7_init_37 rfl 0 rfl ?_
  refine f_iconst (v := 2) dX7_init_38 (by decide) ?_
  refine f_bipush (v := 64) dX7_init_39 (by decide) ?_
  refine f_bipush (v := 8) dX7_init_41 (by decide) ?_
  refine f_mna3 cl_X7_26 (f_ks H.1) dX7_init_43 (fun q19 hq19 => ?_)
  replace H := H.2 q19 _ hq19 rfl
  generalize fwF G ω18 q19 = ω20 at H ⊢
  obtain ⟨fs21, hfs21, gfs21, H⟩ := H
  refine pf_X7_28 rfl hfs21 gfs21 dX7_init_47 ?_
  replace H := H _ rfl
  generalize fup ω20 r0 (.inr (11, fs21.set 4 (.ref q19))) = ω22 at H ⊢
  refine f_aload_n dX7_init_50 rfl 0 rfl ?_
  refine f_ldcS (i := 6) rfl dX7_init_51 ?_
  obtain ⟨fs23, hfs23, gfs23, H⟩ := H
  refine pf_X7_33 rfl hfs23 gfs23 dX7_init_53 ?_
  replace H := H _ rfl
  generalize fup ω22 r0 (.inr (11, fs23.set 5 (.ref (G.1.2.2.2.2.1 6)))) = ω24 at H ⊢
  exact f_vret rfl dX7_init_56 ⟨rfl, H⟩
abbrev L_X7_grown_66 (G : fG) (l : Launch) (K : Nat → Option zS → fW → Prop) (y1 : Nat) (y2 : Nat) (y3 : Int32) (y4 : Int32) (o : Option zS) (ω : fW) (kb : Nat) : Prop :=
  FV G l M_X7_grown kb (fQr K) 66 [(0, .ref G.2.1), (1, .ref y1), (2, .ref y2), (3, .int y3), (4, .int y4)] [] (o, ω)
abbrev L_X7_grown_207 (G : fG) (l : Launch) (K : Nat → Option zS → fW → Prop) (y1 : Nat) (y2 : Nat) (y4 : Int32) (o : Option zS) (ω : fW) (kb : Nat) : Prop :=
  FV G l M_X7_grown kb (fQr K) 207 [(0, .ref G.2.1), (1, .ref y1), (2, .ref y2), (4, .int y4)] [] (o, ω)
abbrev L_X7_grown_338 (G : fG) (l : Launch) (K : Nat → Option zS → fW → Prop) (y1 : Nat) (y2 : Nat) (y4 : Int32) (y5 : Nat) (y6 : Int32) (o : Option zS) (ω : fW) (kb : Nat) : Prop :=
  FV G l M_X7_grown kb (fQr K) 338 [(0, .ref G.2.1), (1, .ref y1), (2, .ref y2), (4, .int y4), (5, .ref y5), (6, .int y6)] [] (o, ω)
abbrev L_X7_grown_435 (G : fG) (l : Launch) (K : Nat → Option zS → fW → Prop) (y1 : Nat) (y2 : Nat) (y4 : Int32) (o : Option zS) (ω : fW) (kb : Nat) : Prop :=
  FV G l M_X7_grown kb (fQr K) 435 [(1, .ref y1), (2, .ref y2), (4, .int y4)] [] (o, ω)
abbrev L_X7_grown_444 (G : fG) (l : Launch) (K : Nat → Option zS → fW → Prop) (y1 : Nat) (y2 : Nat) (y4 : Int32) (y5 : Int32) (o : Option zS) (ω : fW) (kb : Nat) : Prop :=
  FV G l M_X7_grown kb (fQr K) 444 [(1, .ref y1), (2, .ref y2), (4, .int y4), (5, .int y5)] [] (o, ω)
abbrev L_X7_grown_456 (G : fG) (l : Launch) (K : Nat → Option zS → fW → Prop) (y1 : Nat) (y2 : Nat) (y4 : Int32) (y5 : Int32) (y6 : Int32) (o : Option zS) (ω : fW) (kb : Nat) : Prop :=
  FV G l M_X7_grown kb (fQr K) 456 [(1, .ref y1), (2, .ref y2), (4, .int y4), (5, .int y5), (6, .int y6)] [] (o, ω)
set_option maxRecDepth 20000 in
set_option maxHeartbeats 2000000 in
theorem b_X7_grown {G : fG} {l : Launch} {K : Nat → Option zS → fW → Prop} {o : Option zS} {ω : fW} {kb : Nat}
    (H : (1 ≤ kb ∧ ∀ (q1 : Nat) (ω2 : fW), ω q1 = none → ω2 = fup ω q1 (.inr (11, [.int 0, .int 0, .null, .null, .null, .null])) → (140 ≤ (kb - 1) ∧ FC G l M_X7_init 140 [.ref q1] (o, ω2) (fQv (fun o4 ω5 => (1 ≤ ((kb - 1) - 140) ∧ ∀ (q6 : Nat) (ω7 : fW), ω5 q6 = none → ω7 = fup ω5 q6 (.inr (1, [.null, .int 0, .int 0, .int 0])) → (2 ≤ (((kb - 1) - 140) - 1) ∧ FC G l M_J4_init_da8c8 2 [.ref q6] (o4, ω7) (fQv (fun o9 ω10 => (0 ≤ ((((kb - 1) - 140) - 1) - 2) ∧ FC G l M_L_pick 0 [.ref G.2.1, .int 1, .int 2] (o9, ω10) (fQi (fun v11 o12 ω13 => ((¬ v11 = 0 → (0 ≤ ((((kb - 1) - 140) - 1) - 2) ∧ FC G l M_L_pick 0 [.ref G.2.1, .int 3, .int 5] (o12, ω13) (fQi (fun v15 o16 ω17 => L_X7_grown_66 G l K q1 q6 v15 0 o16 ω17 ((((kb - 1) - 140) - 1) - 2))))) ∧ (v11 = 0 → (0 ≤ ((((kb - 1) - 140) - 1) - 2) ∧ FC G l M_L_pick 0 [.ref G.2.1, .int 2, .int 4] (o12, ω13) (fQi (fun v18 o19 ω20 => (∃ fs21 : List Value, ω20 q1 = some (.inr (11, fs21)) ∧ 0 < fs21.length ∧ (∀ ω22 : fW, ω22 = fup ω20 q1 (.inr (11, fs21.set 0 (.int (1 + v18)))) → (60 ≤ ((((kb - 1) - 140) - 1) - 2) ∧ ∃ fs39 : List Value, ω22 q6 = some (.inr (1, fs39)) ∧ FC G l M_J4_append_15ec4 60 [.ref q6, .ref (G.1.2.2.2.2.1 7)] (o19, ω22) (fQr (fun v23 o24 ω25 => (∃ (fs26 : List Value) (w27 : Int32), ω25 q1 = some (.inr (11, fs26)) ∧ fs26[0]? = some (.int w27) ∧ (60 ≤ (((((kb - 1) - 140) - 1) - 2) - 60) ∧ ∃ fs38 : List Value, ω25 v23 = some (.inr (1, fs38)) ∧ FC G l M_J4_append_bf812 60 [.ref v23, .int w27] (o24, ω25) (fQr (fun v28 o29 ω30 => (60 ≤ ((((((kb - 1) - 140) - 1) - 2) - 60) - 60) ∧ ∃ fs37 : List Value, ω30 v28 = some (.inr (1, fs37)) ∧ FC G l M_J4_append_15ec4 60 [.ref v28, .ref (G.1.2.2.2.2.1 8)] (o29, ω30) (fQr (fun v31 o32 ω33 => (0 ≤ (((((((kb - 1) - 140) - 1) - 2) - 60) - 60) - 60) ∧ FC G l M_L_pick 0 [.ref G.2.1, .int 3, .int 5] (o32, ω33) (fQi (fun v34 o35 ω36 => L_X7_grown_66 G l K q1 q6 v34 0 o35 ω36 (((((((kb - 1) - 140) - 1) - 2) - 60) - 60) - 60))))))))))))))))))))))))))))))))) :
    FC G l M_X7_grown kb [.ref G.2.1] (o, ω) (fQr K) := by
  refine FC_of (by decide) (Nat.le_of_ble_eq_true rfl) ?_
  change FV _ _ _ _ _ 0 [(0, .ref G.2.1)] [] _
  refine f_new11 cl_X7_8 (f_ks H.1) dX7_grown_0 (fun q1 hq1 => ?_)
  replace H := H.2 q1 _ hq1 rfl
  generalize fup ω q1 (.inr (11, [.int 0, .int 0, .null, .null, .null, .null])) = ω2 at H ⊢
  refine f_dup dX7_grown_3 rfl ?_
  refine f_callIv (j1 := 140) (j2 := ((kb - 1) - 140)) (av := []) rfl H.2 i_X7_init rfl rfl rfl n_X7_init q_X7_37 (by decide) (f_kj H.1) (Nat.le_of_ble_eq_true rfl) dX7_grown_4 (fun o4 ω5 H => ?_)
  refine f_astore_n (ls' := [(1, .ref q1), (0, .ref G.2.1)]) dX7_grown_7 rfl (by decide) rfl ?_
  refine f_new1 cl_X7_38 (f_ks H.1) dX7_grown_8 (fun q6 hq6 => ?_)
  replace H := H.2 q6 _ hq6 rfl
  generalize fup ω5 q6 (.inr (1, [.null, .int 0, .int 0, .int 0])) = ω7 at H ⊢
  refine f_dup dX7_grown_11 rfl ?_
  refine f_callIv (j1 := 2) (j2 := ((((kb - 1) - 140) - 1) - 2)) (av := []) rfl H.2 i_J4_init_da8c8 rfl rfl rfl n_J4_init_da8c8 q_X7_40 (by decide) (f_kj H.1) (Nat.le_of_ble_eq_true rfl) dX7_grown_12 (fun o9 ω10 H => ?_)
  refine f_astore_n (ls' := [(2, .ref q6), (1, .ref q1), (0, .ref G.2.1)]) dX7_grown_15 rfl (by decide) rfl ?_
  refine f_aload_n dX7_grown_16 rfl 2 rfl ?_
  refine f_iconst (v := 1) dX7_grown_17 (by decide) ?_
  refine f_iconst (v := 2) dX7_grown_18 (by decide) ?_
  refine f_callSNi (j1 := 0) (j2 := ((((kb - 1) - 140) - 1) - 2)) (av := [.ref G.2.1, .int 1, .int 2]) rfl H.2 i_L_pick rfl s_L_pick nl_X7_41 (by decide) (f_kj H.1) (Nat.le_of_ble_eq_true rfl) dX7_grown_19 (fun v11 o12 ω13 H => ?_)
  refine f_if_ne (tgt := 56) dX7_grown_22 (by decide) (fun h14 => ?_) (fun h14 => ?_)
  · replace H := H.1 h14
    refine f_aload_n dX7_grown_56 rfl 2 rfl ?_
    refine f_iconst (v := 3) dX7_grown_57 (by decide) ?_
    refine f_iconst (v := 5) dX7_grown_58 (by decide) ?_
    refine f_callSNi (j1 := 0) (j2 := ((((kb - 1) - 140) - 1) - 2)) (av := [.ref G.2.1, .int 3, .int 5]) rfl H.2 i_L_pick rfl s_L_pick nl_X7_41 (by decide) (f_kj H.1) (Nat.le_of_ble_eq_true rfl) dX7_grown_59 (fun v15 o16 ω17 H => ?_)
    refine f_istore_n (ls' := [(3, .int v15), (2, .ref q6), (1, .ref q1), (0, .ref G.2.1)]) dX7_grown_62 rfl (by decide) rfl ?_
    refine f_iconst (v := 0) dX7_grown_63 (by decide) ?_
    refine f_istore (ls' := [(4, .int 0), (3, .int v15), (2, .ref q6), (1, .ref q1), (0, .ref G.2.1)]) dX7_grown_64 (by decide) rfl ?_
    refine f_ls [4, 3, 2, 1, 0] rfl ?_
    exact H
  · replace H := H.2 h14
    refine f_aload_n dX7_grown_25 rfl 1 rfl ?_
    refine f_iconst (v := 1) dX7_grown_26 (by decide) ?_
    refine f_aload_n dX7_grown_27 rfl 2 rfl ?_
    refine f_iconst (v := 2) dX7_grown_28 (by decide) ?_
    refine f_iconst (v := 4) dX7_grown_29 (by decide) ?_
    refine f_callSNi (j1 := 0) (j2 := ((((kb - 1) - 140) - 1) - 2)) (av := [.ref G.2.1, .int 2, .int 4]) rfl H.2 i_L_pick rfl s_L_pick nl_X7_41 (by decide) (f_kj H.1) (Nat.le_of_ble_eq_true rfl) dX7_grown_30 (fun v18 o19 ω20 H => ?_)
    refine f_iadd dX7_grown_33 ?_
    obtain ⟨fs21, hfs21, gfs21, H⟩ := H
    refine pf_X7_7 rfl hfs21 gfs21 dX7_grown_34 ?_
    replace H := H _ rfl
    generalize fup ω20 q1 (.inr (11, fs21.set 0 (.int (1 + v18)))) = ω22 at H ⊢
    refine f_aload_n dX7_grown_37 rfl 0 rfl ?_
    refine f_ldcS (i := 7) rfl dX7_grown_38 ?_
    have hkfs39 := H.1
    obtain ⟨fs39, hfs39, H⟩ := H.2
    refine f_callVr (C := RJ4) (j1 := 60) (j2 := (((((kb - 1) - 140) - 1) - 2) - 60)) (av := [.ref (G.1.2.2.2.2.1 7)]) rfl hfs39 rfl rfl H i_J4_append_15ec4 rfl n_J4_append_15ec4 v_J4_append_15ec4 q_X7_49 (by decide) (f_kj hkfs39) (Nat.le_of_ble_eq_true rfl) dX7_grown_40 (fun v23 o24 ω25 H => ?_)
    refine f_aload_n dX7_grown_43 rfl 1 rfl ?_
    obtain ⟨fs26, w27, hfs26, gfs26, H⟩ := H
    refine gf_X7_7 rfl hfs26 gfs26 dX7_grown_44 ?_
    have hkfs38 := H.1
    obtain ⟨fs38, hfs38, H⟩ := H.2
    refine f_callVr (C := RJ4) (j1 := 60) (j2 := ((((((kb - 1) - 140) - 1) - 2) - 60) - 60)) (av := [.int w27]) rfl hfs38 rfl rfl H i_J4_append_bf812 rfl n_J4_append_bf812 v_J4_append_bf812 q_X7_53 (by decide) (f_kj hkfs38) (Nat.le_of_ble_eq_true rfl) dX7_grown_47 (fun v28 o29 ω30 H => ?_)
    refine f_ldcS (i := 8) rfl dX7_grown_50 ?_
    have hkfs37 := H.1
    obtain ⟨fs37, hfs37, H⟩ := H.2
    refine f_callVr (C := RJ4) (j1 := 60) (j2 := (((((((kb - 1) - 140) - 1) - 2) - 60) - 60) - 60)) (av := [.ref (G.1.2.2.2.2.1 8)]) rfl hfs37 rfl rfl H i_J4_append_15ec4 rfl n_J4_append_15ec4 v_J4_append_15ec4 q_X7_49 (by decide) (f_kj hkfs37) (Nat.le_of_ble_eq_true rfl) dX7_grown_52 (fun v31 o32 ω33 H => ?_)
    refine f_pop dX7_grown_55 rfl ?_
    refine f_aload_n dX7_grown_56 rfl 2 rfl ?_
    refine f_iconst (v := 3) dX7_grown_57 (by decide) ?_
    refine f_iconst (v := 5) dX7_grown_58 (by decide) ?_
    refine f_callSNi (j1 := 0) (j2 := (((((((kb - 1) - 140) - 1) - 2) - 60) - 60) - 60)) (av := [.ref G.2.1, .int 3, .int 5]) rfl H.2 i_L_pick rfl s_L_pick nl_X7_41 (by decide) (f_kj H.1) (Nat.le_of_ble_eq_true rfl) dX7_grown_59 (fun v34 o35 ω36 H => ?_)
    refine f_istore_n (ls' := [(3, .int v34), (2, .ref q6), (1, .ref q1), (0, .ref G.2.1)]) dX7_grown_62 rfl (by decide) rfl ?_
    refine f_iconst (v := 0) dX7_grown_63 (by decide) ?_
    refine f_istore (ls' := [(4, .int 0), (3, .int v34), (2, .ref q6), (1, .ref q1), (0, .ref G.2.1)]) dX7_grown_64 (by decide) rfl ?_
    refine f_ls [4, 3, 2, 1, 0] rfl ?_
    exact H
set_option maxRecDepth 20000 in
set_option maxHeartbeats 2000000 in
theorem b_X7_grown_66 {G : fG} {l : Launch} {K : Nat → Option zS → fW → Prop} {y1 : Nat} {y2 : Nat} {y3 : Int32} {y4 : Int32} {o : Option zS} {ω : fW} {kb : Nat}
    (H : ((y3 ≤ y4 → L_X7_grown_207 G l K y1 y2 0 o ω kb) ∧ (¬ y3 ≤ y4 → (0 ≤ kb ∧ FC G l M_L_pick 0 [.ref G.2.1, .int (10 + y4), .int 3] (o, ω) (fQi (fun v2 o3 ω4 => ((¬ v2 = 0 → (∃ (fs6 : List Value) (w7 : Nat), ω4 y1 = some (.inr (11, fs6)) ∧ fs6[2]? = some (.ref w7) ∧ (1 ≤ kb ∧ ∀ (q8 : Nat) (ω9 : fW), ω4 q8 = none → ω9 = fup ω4 q8 (.inl (G.1.2.1 0, 5, .inl (fun _ => 0))) → (0 ≤ (kb - 1) ∧ FC G l M_L_pick 0 [.ref G.2.1, .int (30 + y4), .int 6] (o3, ω9) (fQi (fun v10 o11 ω12 => (∃ (n13 : Nat) (f14 : Nat → Int32), ω12 q8 = some (.inl (G.1.2.1 0, n13, .inl f14)) ∧ vp_in 0 n13 ∧ (∀ ω15 : fW, ω15 = fup ω12 q8 (.inl (G.1.2.1 0, n13, .inl (upd f14 (Int32.toNatClampNeg 0) (1 + v10)))) → (∃ (n16 : Nat) (f17 : Nat → Int32), ω15 q8 = some (.inl (G.1.2.1 0, n16, .inl f17)) ∧ vp_in 1 n16 ∧ (∀ ω18 : fW, ω18 = fup ω15 q8 (.inl (G.1.2.1 0, n16, .inl (upd f17 (Int32.toNatClampNeg 1) 0))) → (∃ (n19 : Nat) (f20 : Nat → Int32), ω18 q8 = some (.inl (G.1.2.1 0, n19, .inl f20)) ∧ vp_in 2 n19 ∧ (∀ ω21 : fW, ω21 = fup ω18 q8 (.inl (G.1.2.1 0, n19, .inl (upd f20 (Int32.toNatClampNeg 2) 0))) → (∃ (n22 : Nat) (f23 : Nat → Int32), ω21 q8 = some (.inl (G.1.2.1 0, n22, .inl f23)) ∧ vp_in 3 n22 ∧ (∀ ω24 : fW, ω24 = fup ω21 q8 (.inl (G.1.2.1 0, n22, .inl (upd f23 (Int32.toNatClampNeg 3) 1))) → (∃ (n25 : Nat) (f26 : Nat → Int32), ω24 q8 = some (.inl (G.1.2.1 0, n25, .inl f26)) ∧ vp_in 4 n25 ∧ (∀ ω27 : fW, ω27 = fup ω24 q8 (.inl (G.1.2.1 0, n25, .inl (upd f26 (Int32.toNatClampNeg 4) 1))) → (3 ≤ (kb - 1) ∧ ∃ fs53 : List Value, ω27 w7 = some (.inr (3, fs53)) ∧ FC G l M_Jx4a65c_add_9ea2d 3 [.ref w7, .ref q8] (o11, ω27) (fQi (fun v28 o29 ω30 => (60 ≤ ((kb - 1) - 3) ∧ ∃ fs52 : List Value, ω30 y2 = some (.inr (1, fs52)) ∧ FC G l M_J4_append_15ec4 60 [.ref y2, .ref (G.1.2.2.2.2.1 9)] (o29, ω30) (fQr (fun v31 o32 ω33 => (∃ (fs34 : List Value) (w35 : Nat), ω33 y1 = some (.inr (11, fs34)) ∧ fs34[2]? = some (.ref w35) ∧ (0 ≤ (((kb - 1) - 3) - 60) ∧ ∃ fs51 : List Value, ω33 w35 = some (.inr (3, fs51)) ∧ FC G l M_Jx4a65c_get_915e3 0 [.ref w35, .int y4] (o32, ω33) (fQr (fun v36 o37 ω38 => (∃ y39 : vp_A, ω38 v36 = some (.inl (G.1.2.1 0, y39)) ∧ (∃ (n40 : Nat) (f41 : Nat → Int32), ω38 v36 = some (.inl (G.1.2.1 0, n40, .inl f41)) ∧ vp_in 0 n40 ∧ (60 ≤ (((kb - 1) - 3) - 60) ∧ ∃ fs50 : List Value, ω38 v31 = some (.inr (1, fs50)) ∧ FC G l M_J4_append_bf812 60 [.ref v31, .int (f41 (Int32.toNatClampNeg 0))] (o37, ω38) (fQr (fun v42 o43 ω44 => (60 ≤ ((((kb - 1) - 3) - 60) - 60) ∧ ∃ fs49 : List Value, ω44 y2 = some (.inr (1, fs49)) ∧ FC G l M_J4_append_15ec4 60 [.ref y2, .ref (G.1.2.2.2.2.1 12)] (o43, ω44) (fQr (fun v46 o47 ω48 => L_X7_grown_66 G l K y1 y2 y3 (y4 + 1) o47 ω48 (((((kb - 1) - 3) - 60) - 60) - 60))))))))))))))))))))))))))))))))))) ∧ (v2 = 0 → (0 ≤ kb ∧ FC G l M_L_pick 0 [.ref G.2.1, .int (20 + y4), .int 9] (o3, ω4) (fQi (fun v54 o55 ω56 => (∃ (fs57 : List Value) (w58 : Nat), ω56 y1 = some (.inr (11, fs57)) ∧ fs57[2]? = some (.ref w58) ∧ (1 ≤ kb ∧ ∀ (q59 : Nat) (ω60 : fW), ω56 q59 = none → ω60 = fup ω56 q59 (.inl (G.1.2.1 0, 5, .inl (fun _ => 0))) → (0 ≤ (kb - 1) ∧ FC G l M_L_pick 0 [.ref G.2.1, .int (30 + y4), .int 6] (o55, ω60) (fQi (fun v61 o62 ω63 => (∃ (n64 : Nat) (f65 : Nat → Int32), ω63 q59 = some (.inl (G.1.2.1 0, n64, .inl f65)) ∧ vp_in 0 n64 ∧ (∀ ω66 : fW, ω66 = fup ω63 q59 (.inl (G.1.2.1 0, n64, .inl (upd f65 (Int32.toNatClampNeg 0) (1 + v61)))) → (∃ (n67 : Nat) (f68 : Nat → Int32), ω66 q59 = some (.inl (G.1.2.1 0, n67, .inl f68)) ∧ vp_in 1 n67 ∧ (∀ ω69 : fW, ω69 = fup ω66 q59 (.inl (G.1.2.1 0, n67, .inl (upd f68 (Int32.toNatClampNeg 1) (v54 - 4)))) → (∃ (n70 : Nat) (f71 : Nat → Int32), ω69 q59 = some (.inl (G.1.2.1 0, n70, .inl f71)) ∧ vp_in 2 n70 ∧ (∀ ω72 : fW, ω72 = fup ω69 q59 (.inl (G.1.2.1 0, n70, .inl (upd f71 (Int32.toNatClampNeg 2) 0))) → (∃ (n73 : Nat) (f74 : Nat → Int32), ω72 q59 = some (.inl (G.1.2.1 0, n73, .inl f74)) ∧ vp_in 3 n73 ∧ (∀ ω75 : fW, ω75 = fup ω72 q59 (.inl (G.1.2.1 0, n73, .inl (upd f74 (Int32.toNatClampNeg 3) 1))) → (∃ (n76 : Nat) (f77 : Nat → Int32), ω75 q59 = some (.inl (G.1.2.1 0, n76, .inl f77)) ∧ vp_in 4 n76 ∧ (∀ ω78 : fW, ω78 = fup ω75 q59 (.inl (G.1.2.1 0, n76, .inl (upd f77 (Int32.toNatClampNeg 4) 1))) → (3 ≤ (kb - 1) ∧ ∃ fs115 : List Value, ω78 w58 = some (.inr (3, fs115)) ∧ FC G l M_Jx4a65c_add_9ea2d 3 [.ref w58, .ref q59] (o62, ω78) (fQi (fun v79 o80 ω81 => (60 ≤ ((kb - 1) - 3) ∧ ∃ fs114 : List Value, ω81 y2 = some (.inr (1, fs114)) ∧ FC G l M_J4_append_15ec4 60 [.ref y2, .ref (G.1.2.2.2.2.1 9)] (o80, ω81) (fQr (fun v82 o83 ω84 => (∃ (fs85 : List Value) (w86 : Nat), ω84 y1 = some (.inr (11, fs85)) ∧ fs85[2]? = some (.ref w86) ∧ (0 ≤ (((kb - 1) - 3) - 60) ∧ ∃ fs113 : List Value, ω84 w86 = some (.inr (3, fs113)) ∧ FC G l M_Jx4a65c_get_915e3 0 [.ref w86, .int y4] (o83, ω84) (fQr (fun v87 o88 ω89 => (∃ y90 : vp_A, ω89 v87 = some (.inl (G.1.2.1 0, y90)) ∧ (∃ (n91 : Nat) (f92 : Nat → Int32), ω89 v87 = some (.inl (G.1.2.1 0, n91, .inl f92)) ∧ vp_in 0 n91 ∧ (60 ≤ (((kb - 1) - 3) - 60) ∧ ∃ fs112 : List Value, ω89 v82 = some (.inr (1, fs112)) ∧ FC G l M_J4_append_bf812 60 [.ref v82, .int (f92 (Int32.toNatClampNeg 0))] (o88, ω89) (fQr (fun v93 o94 ω95 => (((v54 - 4) = 0 → (60 ≤ ((((kb - 1) - 3) - 60) - 60) ∧ ∃ fs100 : List Value, ω95 y2 = some (.inr (1, fs100)) ∧ FC G l M_J4_append_15ec4 60 [.ref y2, .ref (G.1.2.2.2.2.1 12)] (o94, ω95) (fQr (fun v97 o98 ω99 => L_X7_grown_66 G l K y1 y2 y3 (y4 + 1) o98 ω99 (((((kb - 1) - 3) - 60) - 60) - 60))))) ∧ (¬ (v54 - 4) = 0 → (200 ≤ ((((kb - 1) - 3) - 60) - 60) ∧ FC G l M_L_told 200 [.int (v54 - 4)] (o94, ω95) (fQr (fun v101 o102 ω103 => (60 ≤ (((((kb - 1) - 3) - 60) - 60) - 200) ∧ ∃ fs111 : List Value, ω103 y2 = some (.inr (1, fs111)) ∧ FC G l M_J4_append_15ec4 60 [.ref y2, .ref v101] (o102, ω103) (fQr (fun v104 o105 ω106 => (60 ≤ ((((((kb - 1) - 3) - 60) - 60) - 200) - 60) ∧ ∃ fs110 : List Value, ω106 y2 = some (.inr (1, fs110)) ∧ FC G l M_J4_append_15ec4 60 [.ref y2, .ref (G.1.2.2.2.2.1 12)] (o105, ω106) (fQr (fun v107 o108 ω109 => L_X7_grown_66 G l K y1 y2 y3 (y4 + 1) o108 ω109 (((((((kb - 1) - 3) - 60) - 60) - 200) - 60) - 60))))))))))))))))))))))))))))))))))))))))))))))))))))) :
    L_X7_grown_66 G l K y1 y2 y3 y4 o ω kb := by
  refine f_iload dX7_grown_66 4 rfl ?_
  refine f_iload_n dX7_grown_68 rfl 3 rfl ?_
  refine f_icmp_ge (tgt := 204) dX7_grown_69 (by decide) (fun h1 => ?_) (fun h1 => ?_)
  · replace H := H.1 h1
    refine f_iconst (v := 0) dX7_grown_204 (by decide) ?_
    refine f_istore (ls' := [(4, .int 0), (0, .ref G.2.1), (1, .ref y1), (2, .ref y2), (3, .int y3)]) dX7_grown_205 (by decide) rfl ?_
    refine f_ls [1, 2, 3, 0] rfl ?_
    exact H
  · replace H := H.2 h1
    refine f_aload_n dX7_grown_72 rfl 0 rfl ?_
    refine f_bipush (v := 10) dX7_grown_73 (by decide) ?_
    refine f_iload dX7_grown_75 4 rfl ?_
    refine f_iadd dX7_grown_77 ?_
    refine f_iconst (v := 3) dX7_grown_78 (by decide) ?_
    refine f_callSNi (j1 := 0) (j2 := kb) (av := [.ref G.2.1, .int (10 + y4), .int 3]) rfl H.2 i_L_pick rfl s_L_pick nl_X7_41 (by decide) (f_kj H.1) (Nat.le_of_ble_eq_true rfl) dX7_grown_79 (fun v2 o3 ω4 H => ?_)
    refine f_if_ne (tgt := 101) dX7_grown_82 (by decide) (fun h5 => ?_) (fun h5 => ?_)
    · replace H := H.1 h5
      refine f_iconst (v := 0) dX7_grown_101 (by decide) ?_
      refine f_istore (ls' := [(5, .int 0), (0, .ref G.2.1), (1, .ref y1), (2, .ref y2), (3, .int y3), (4, .int y4)]) dX7_grown_102 (by decide) rfl ?_
      refine f_aload_n dX7_grown_104 rfl 2 rfl ?_
      obtain ⟨fs6, w7, hfs6, gfs6, H⟩ := H
      refine gf_X7_19 rfl hfs6 gfs6 dX7_grown_105 ?_
      refine f_iconst (v := 5) dX7_grown_108 (by decide) ?_
      refine f_newa0 (N := 5) (u := 1) (by decide) (by decide) (Nat.le_of_ble_eq_true rfl) (f_ks H.1) ⟨by decide, by decide⟩ dX7_grown_109 (fun q8 hq8 => ?_)
      replace H := H.2 q8 _ hq8 rfl
      generalize fup ω4 q8 (.inl (G.1.2.1 0, 5, .inl (fun _ => 0))) = ω9 at H ⊢
      refine f_dup dX7_grown_111 rfl ?_
      refine f_iconst (v := 0) dX7_grown_112 (by decide) ?_
      refine f_iconst (v := 1) dX7_grown_113 (by decide) ?_
      refine f_aload_n dX7_grown_114 rfl 1 rfl ?_
      refine f_bipush (v := 30) dX7_grown_115 (by decide) ?_
      refine f_iload dX7_grown_117 5 rfl ?_
      refine f_iadd dX7_grown_119 ?_
      refine f_bipush (v := 6) dX7_grown_120 (by decide) ?_
      refine f_callSNi (j1 := 0) (j2 := (kb - 1)) (av := [.ref G.2.1, .int (30 + y4), .int 6]) rfl H.2 i_L_pick rfl s_L_pick nl_X7_41 (by decide) (f_kj H.1) (Nat.le_of_ble_eq_true rfl) dX7_grown_122 (fun v10 o11 ω12 H => ?_)
      refine f_iadd dX7_grown_125 ?_
      obtain ⟨n13, f14, hn13, gn13, H⟩ := H
      refine f_iast hn13 gn13 dX7_grown_126 ?_
      replace H := H _ rfl
      generalize fup ω12 q8 (.inl (G.1.2.1 0, n13, .inl (upd f14 (Int32.toNatClampNeg 0) (1 + v10)))) = ω15 at H ⊢
      refine f_dup dX7_grown_127 rfl ?_
      refine f_iconst (v := 1) dX7_grown_128 (by decide) ?_
      refine f_iload dX7_grown_129 0 rfl ?_
      obtain ⟨n16, f17, hn16, gn16, H⟩ := H
      refine f_iast hn16 gn16 dX7_grown_131 ?_
      replace H := H _ rfl
      generalize fup ω15 q8 (.inl (G.1.2.1 0, n16, .inl (upd f17 (Int32.toNatClampNeg 1) 0))) = ω18 at H ⊢
      refine f_dup dX7_grown_132 rfl ?_
      refine f_iconst (v := 2) dX7_grown_133 (by decide) ?_
      refine f_iconst (v := 0) dX7_grown_134 (by decide) ?_
      obtain ⟨n19, f20, hn19, gn19, H⟩ := H
      refine f_iast hn19 gn19 dX7_grown_135 ?_
      replace H := H _ rfl
      generalize fup ω18 q8 (.inl (G.1.2.1 0, n19, .inl (upd f20 (Int32.toNatClampNeg 2) 0))) = ω21 at H ⊢
      refine f_dup dX7_grown_136 rfl ?_
      refine f_iconst (v := 3) dX7_grown_137 (by decide) ?_
      refine f_iconst (v := 1) dX7_grown_138 (by decide) ?_
      obtain ⟨n22, f23, hn22, gn22, H⟩ := H
      refine f_iast hn22 gn22 dX7_grown_139 ?_
      replace H := H _ rfl
      generalize fup ω21 q8 (.inl (G.1.2.1 0, n22, .inl (upd f23 (Int32.toNatClampNeg 3) 1))) = ω24 at H ⊢
      refine f_dup dX7_grown_140 rfl ?_
      refine f_iconst (v := 4) dX7_grown_141 (by decide) ?_
      refine f_iconst (v := 1) dX7_grown_142 (by decide) ?_
      obtain ⟨n25, f26, hn25, gn25, H⟩ := H
      refine f_iast hn25 gn25 dX7_grown_143 ?_
      replace H := H _ rfl
      generalize fup ω24 q8 (.inl (G.1.2.1 0, n25, .inl (upd f26 (Int32.toNatClampNeg 4) 1))) = ω27 at H ⊢
      have hkfs53 := H.1
      obtain ⟨fs53, hfs53, H⟩ := H.2
      refine f_callFi (j1 := 3) (j2 := ((kb - 1) - 3)) (av := [.ref q8]) rfl hfs53 rfl rfl H i_Jx4a65c_add_9ea2d rfl (by decide +kernel) (by decide +kernel) n_Jx4a65c_add_9ea2d vi_Jx4a65c_add_9ea2d q_X7_58 (by decide) (f_kj hkfs53) (Nat.le_of_ble_eq_true rfl) dX7_grown_144 (fun v28 o29 ω30 H => ?_)
      refine f_pop dX7_grown_149 rfl ?_
      refine f_aload_n dX7_grown_150 rfl 3 rfl ?_
      refine f_ldcS (i := 9) rfl dX7_grown_151 ?_
      have hkfs52 := H.1
      obtain ⟨fs52, hfs52, H⟩ := H.2
      refine f_callVr (C := RJ4) (j1 := 60) (j2 := (((kb - 1) - 3) - 60)) (av := [.ref (G.1.2.2.2.2.1 9)]) rfl hfs52 rfl rfl H i_J4_append_15ec4 rfl n_J4_append_15ec4 v_J4_append_15ec4 q_X7_49 (by decide) (f_kj hkfs52) (Nat.le_of_ble_eq_true rfl) dX7_grown_153 (fun v31 o32 ω33 H => ?_)
      refine f_aload_n dX7_grown_156 rfl 2 rfl ?_
      obtain ⟨fs34, w35, hfs34, gfs34, H⟩ := H
      refine gf_X7_19 rfl hfs34 gfs34 dX7_grown_157 ?_
      refine f_iload dX7_grown_160 5 rfl ?_
      have hkfs51 := H.1
      obtain ⟨fs51, hfs51, H⟩ := H.2
      refine f_callFr (j1 := 0) (j2 := (((kb - 1) - 3) - 60)) (av := [.int y4]) rfl hfs51 rfl rfl H i_Jx4a65c_get_915e3 rfl (by decide +kernel) (by decide +kernel) n_Jx4a65c_get_915e3 vi_Jx4a65c_get_915e3 q_X7_66 (by decide) (f_kj hkfs51) (Nat.le_of_ble_eq_true rfl) dX7_grown_162 (fun v36 o37 ω38 H => ?_)
      obtain ⟨y39, hy39, H⟩ := H
      refine f_cast0 cl_X7_70 hy39 dX7_grown_167 ?_
      refine f_iconst (v := 0) dX7_grown_170 (by decide) ?_
      obtain ⟨n40, f41, hn40, gn40, H⟩ := H
      refine f_iald hn40 gn40 dX7_grown_171 ?_
      have hkfs50 := H.1
      obtain ⟨fs50, hfs50, H⟩ := H.2
      refine f_callVr (C := RJ4) (j1 := 60) (j2 := ((((kb - 1) - 3) - 60) - 60)) (av := [.int (f41 (Int32.toNatClampNeg 0))]) rfl hfs50 rfl rfl H i_J4_append_bf812 rfl n_J4_append_bf812 v_J4_append_bf812 q_X7_53 (by decide) (f_kj hkfs50) (Nat.le_of_ble_eq_true rfl) dX7_grown_172 (fun v42 o43 ω44 H => ?_)
      refine f_pop dX7_grown_175 rfl ?_
      refine f_iload dX7_grown_176 0 rfl ?_
      refine f_if_eq (tgt := 191) dX7_grown_178 (by decide) (fun h45 => ?_) (fun h45 => ?_)
      · refine f_aload_n dX7_grown_191 rfl 3 rfl ?_
        refine f_ldcS (i := 12) rfl dX7_grown_192 ?_
        have hkfs49 := H.1
        obtain ⟨fs49, hfs49, H⟩ := H.2
        refine f_callVr (C := RJ4) (j1 := 60) (j2 := (((((kb - 1) - 3) - 60) - 60) - 60)) (av := [.ref (G.1.2.2.2.2.1 12)]) rfl hfs49 rfl rfl H i_J4_append_15ec4 rfl n_J4_append_15ec4 v_J4_append_15ec4 q_X7_49 (by decide) (f_kj hkfs49) (Nat.le_of_ble_eq_true rfl) dX7_grown_194 (fun v46 o47 ω48 H => ?_)
        refine f_pop dX7_grown_197 rfl ?_
        refine f_iinc (j := 5) (v := (y4 + 1)) (ls' := [(4, .int (y4 + 1)), (5, .int 0), (0, .ref G.2.1), (1, .ref y1), (2, .ref y2), (3, .int y3)]) dX7_grown_198 rfl rfl (by decide) rfl ?_
        refine f_goto (tgt := 66) dX7_grown_201 (by decide) ?_
        refine f_ls [2, 3, 4, 5, 0] rfl ?_
        exact H
      · exact absurd h45 (by decide)
    · replace H := H.2 h5
      refine f_aload_n dX7_grown_85 rfl 0 rfl ?_
      refine f_bipush (v := 20) dX7_grown_86 (by decide) ?_
      refine f_iload dX7_grown_88 4 rfl ?_
      refine f_iadd dX7_grown_90 ?_
      refine f_bipush (v := 9) dX7_grown_91 (by decide) ?_
      refine f_callSNi (j1 := 0) (j2 := kb) (av := [.ref G.2.1, .int (20 + y4), .int 9]) rfl H.2 i_L_pick rfl s_L_pick nl_X7_41 (by decide) (f_kj H.1) (Nat.le_of_ble_eq_true rfl) dX7_grown_93 (fun v54 o55 ω56 H => ?_)
      refine f_iconst (v := 4) dX7_grown_96 (by decide) ?_
      refine f_isub dX7_grown_97 ?_
      refine f_goto (tgt := 102) dX7_grown_98 (by decide) ?_
      refine f_istore (ls' := [(5, .int (v54 - 4)), (0, .ref G.2.1), (1, .ref y1), (2, .ref y2), (3, .int y3), (4, .int y4)]) dX7_grown_102 (by decide) rfl ?_
      refine f_aload_n dX7_grown_104 rfl 2 rfl ?_
      obtain ⟨fs57, w58, hfs57, gfs57, H⟩ := H
      refine gf_X7_19 rfl hfs57 gfs57 dX7_grown_105 ?_
      refine f_iconst (v := 5) dX7_grown_108 (by decide) ?_
      refine f_newa0 (N := 5) (u := 1) (by decide) (by decide) (Nat.le_of_ble_eq_true rfl) (f_ks H.1) ⟨by decide, by decide⟩ dX7_grown_109 (fun q59 hq59 => ?_)
      replace H := H.2 q59 _ hq59 rfl
      generalize fup ω56 q59 (.inl (G.1.2.1 0, 5, .inl (fun _ => 0))) = ω60 at H ⊢
      refine f_dup dX7_grown_111 rfl ?_
      refine f_iconst (v := 0) dX7_grown_112 (by decide) ?_
      refine f_iconst (v := 1) dX7_grown_113 (by decide) ?_
      refine f_aload_n dX7_grown_114 rfl 1 rfl ?_
      refine f_bipush (v := 30) dX7_grown_115 (by decide) ?_
      refine f_iload dX7_grown_117 5 rfl ?_
      refine f_iadd dX7_grown_119 ?_
      refine f_bipush (v := 6) dX7_grown_120 (by decide) ?_
      refine f_callSNi (j1 := 0) (j2 := (kb - 1)) (av := [.ref G.2.1, .int (30 + y4), .int 6]) rfl H.2 i_L_pick rfl s_L_pick nl_X7_41 (by decide) (f_kj H.1) (Nat.le_of_ble_eq_true rfl) dX7_grown_122 (fun v61 o62 ω63 H => ?_)
      refine f_iadd dX7_grown_125 ?_
      obtain ⟨n64, f65, hn64, gn64, H⟩ := H
      refine f_iast hn64 gn64 dX7_grown_126 ?_
      replace H := H _ rfl
      generalize fup ω63 q59 (.inl (G.1.2.1 0, n64, .inl (upd f65 (Int32.toNatClampNeg 0) (1 + v61)))) = ω66 at H ⊢
      refine f_dup dX7_grown_127 rfl ?_
      refine f_iconst (v := 1) dX7_grown_128 (by decide) ?_
      refine f_iload dX7_grown_129 0 rfl ?_
      obtain ⟨n67, f68, hn67, gn67, H⟩ := H
      refine f_iast hn67 gn67 dX7_grown_131 ?_
      replace H := H _ rfl
      generalize fup ω66 q59 (.inl (G.1.2.1 0, n67, .inl (upd f68 (Int32.toNatClampNeg 1) (v54 - 4)))) = ω69 at H ⊢
      refine f_dup dX7_grown_132 rfl ?_
      refine f_iconst (v := 2) dX7_grown_133 (by decide) ?_
      refine f_iconst (v := 0) dX7_grown_134 (by decide) ?_
      obtain ⟨n70, f71, hn70, gn70, H⟩ := H
      refine f_iast hn70 gn70 dX7_grown_135 ?_
      replace H := H _ rfl
      generalize fup ω69 q59 (.inl (G.1.2.1 0, n70, .inl (upd f71 (Int32.toNatClampNeg 2) 0))) = ω72 at H ⊢
      refine f_dup dX7_grown_136 rfl ?_
      refine f_iconst (v := 3) dX7_grown_137 (by decide) ?_
      refine f_iconst (v := 1) dX7_grown_138 (by decide) ?_
      obtain ⟨n73, f74, hn73, gn73, H⟩ := H
      refine f_iast hn73 gn73 dX7_grown_139 ?_
      replace H := H _ rfl
      generalize fup ω72 q59 (.inl (G.1.2.1 0, n73, .inl (upd f74 (Int32.toNatClampNeg 3) 1))) = ω75 at H ⊢
      refine f_dup dX7_grown_140 rfl ?_
      refine f_iconst (v := 4) dX7_grown_141 (by decide) ?_
      refine f_iconst (v := 1) dX7_grown_142 (by decide) ?_
      obtain ⟨n76, f77, hn76, gn76, H⟩ := H
      refine f_iast hn76 gn76 dX7_grown_143 ?_
      replace H := H _ rfl
      generalize fup ω75 q59 (.inl (G.1.2.1 0, n76, .inl (upd f77 (Int32.toNatClampNeg 4) 1))) = ω78 at H ⊢
      have hkfs115 := H.1
      obtain ⟨fs115, hfs115, H⟩ := H.2
      refine f_callFi (j1 := 3) (j2 := ((kb - 1) - 3)) (av := [.ref q59]) rfl hfs115 rfl rfl H i_Jx4a65c_add_9ea2d rfl (by decide +kernel) (by decide +kernel) n_Jx4a65c_add_9ea2d vi_Jx4a65c_add_9ea2d q_X7_58 (by decide) (f_kj hkfs115) (Nat.le_of_ble_eq_true rfl) dX7_grown_144 (fun v79 o80 ω81 H => ?_)
      refine f_pop dX7_grown_149 rfl ?_
      refine f_aload_n dX7_grown_150 rfl 3 rfl ?_
      refine f_ldcS (i := 9) rfl dX7_grown_151 ?_
      have hkfs114 := H.1
      obtain ⟨fs114, hfs114, H⟩ := H.2
      refine f_callVr (C := RJ4) (j1 := 60) (j2 := (((kb - 1) - 3) - 60)) (av := [.ref (G.1.2.2.2.2.1 9)]) rfl hfs114 rfl rfl H i_J4_append_15ec4 rfl n_J4_append_15ec4 v_J4_append_15ec4 q_X7_49 (by decide) (f_kj hkfs114) (Nat.le_of_ble_eq_true rfl) dX7_grown_153 (fun v82 o83 ω84 H => ?_)
      refine f_aload_n dX7_grown_156 rfl 2 rfl ?_
      obtain ⟨fs85, w86, hfs85, gfs85, H⟩ := H
      refine gf_X7_19 rfl hfs85 gfs85 dX7_grown_157 ?_
      refine f_iload dX7_grown_160 5 rfl ?_
      have hkfs113 := H.1
      obtain ⟨fs113, hfs113, H⟩ := H.2
      refine f_callFr (j1 := 0) (j2 := (((kb - 1) - 3) - 60)) (av := [.int y4]) rfl hfs113 rfl rfl H i_Jx4a65c_get_915e3 rfl (by decide +kernel) (by decide +kernel) n_Jx4a65c_get_915e3 vi_Jx4a65c_get_915e3 q_X7_66 (by decide) (f_kj hkfs113) (Nat.le_of_ble_eq_true rfl) dX7_grown_162 (fun v87 o88 ω89 H => ?_)
      obtain ⟨y90, hy90, H⟩ := H
      refine f_cast0 cl_X7_70 hy90 dX7_grown_167 ?_
      refine f_iconst (v := 0) dX7_grown_170 (by decide) ?_
      obtain ⟨n91, f92, hn91, gn91, H⟩ := H
      refine f_iald hn91 gn91 dX7_grown_171 ?_
      have hkfs112 := H.1
      obtain ⟨fs112, hfs112, H⟩ := H.2
      refine f_callVr (C := RJ4) (j1 := 60) (j2 := ((((kb - 1) - 3) - 60) - 60)) (av := [.int (f92 (Int32.toNatClampNeg 0))]) rfl hfs112 rfl rfl H i_J4_append_bf812 rfl n_J4_append_bf812 v_J4_append_bf812 q_X7_53 (by decide) (f_kj hkfs112) (Nat.le_of_ble_eq_true rfl) dX7_grown_172 (fun v93 o94 ω95 H => ?_)
      refine f_pop dX7_grown_175 rfl ?_
      refine f_iload dX7_grown_176 0 rfl ?_
      refine f_if_eq (tgt := 191) dX7_grown_178 (by decide) (fun h96 => ?_) (fun h96 => ?_)
      · replace H := H.1 h96
        refine f_aload_n dX7_grown_191 rfl 3 rfl ?_
        refine f_ldcS (i := 12) rfl dX7_grown_192 ?_
        have hkfs100 := H.1
        obtain ⟨fs100, hfs100, H⟩ := H.2
        refine f_callVr (C := RJ4) (j1 := 60) (j2 := (((((kb - 1) - 3) - 60) - 60) - 60)) (av := [.ref (G.1.2.2.2.2.1 12)]) rfl hfs100 rfl rfl H i_J4_append_15ec4 rfl n_J4_append_15ec4 v_J4_append_15ec4 q_X7_49 (by decide) (f_kj hkfs100) (Nat.le_of_ble_eq_true rfl) dX7_grown_194 (fun v97 o98 ω99 H => ?_)
        refine f_pop dX7_grown_197 rfl ?_
        refine f_iinc (j := 5) (v := (y4 + 1)) (ls' := [(4, .int (y4 + 1)), (5, .int (v54 - 4)), (0, .ref G.2.1), (1, .ref y1), (2, .ref y2), (3, .int y3)]) dX7_grown_198 rfl rfl (by decide) rfl ?_
        refine f_goto (tgt := 66) dX7_grown_201 (by decide) ?_
        refine f_ls [2, 3, 4, 5, 0] rfl ?_
        exact H
      · replace H := H.2 h96
        refine f_aload_n dX7_grown_181 rfl 3 rfl ?_
        refine f_iload dX7_grown_182 0 rfl ?_
        refine f_callSNr (j1 := 200) (j2 := (((((kb - 1) - 3) - 60) - 60) - 200)) (av := [.int (v54 - 4)]) rfl H.2 i_L_told rfl s_L_told nl_X7_72 (by decide) (f_kj H.1) (Nat.le_of_ble_eq_true rfl) dX7_grown_184 (fun v101 o102 ω103 H => ?_)
        have hkfs111 := H.1
        obtain ⟨fs111, hfs111, H⟩ := H.2
        refine f_callVr (C := RJ4) (j1 := 60) (j2 := ((((((kb - 1) - 3) - 60) - 60) - 200) - 60)) (av := [.ref v101]) rfl hfs111 rfl rfl H i_J4_append_15ec4 rfl n_J4_append_15ec4 v_J4_append_15ec4 q_X7_49 (by decide) (f_kj hkfs111) (Nat.le_of_ble_eq_true rfl) dX7_grown_187 (fun v104 o105 ω106 H => ?_)
        refine f_pop dX7_grown_190 rfl ?_
        refine f_aload_n dX7_grown_191 rfl 3 rfl ?_
        refine f_ldcS (i := 12) rfl dX7_grown_192 ?_
        have hkfs110 := H.1
        obtain ⟨fs110, hfs110, H⟩ := H.2
        refine f_callVr (C := RJ4) (j1 := 60) (j2 := (((((((kb - 1) - 3) - 60) - 60) - 200) - 60) - 60)) (av := [.ref (G.1.2.2.2.2.1 12)]) rfl hfs110 rfl rfl H i_J4_append_15ec4 rfl n_J4_append_15ec4 v_J4_append_15ec4 q_X7_49 (by decide) (f_kj hkfs110) (Nat.le_of_ble_eq_true rfl) dX7_grown_194 (fun v107 o108 ω109 H => ?_)
        refine f_pop dX7_grown_197 rfl ?_
        refine f_iinc (j := 5) (v := (y4 + 1)) (ls' := [(4, .int (y4 + 1)), (5, .int (v54 - 4)), (0, .ref G.2.1), (1, .ref y1), (2, .ref y2), (3, .int y3)]) dX7_grown_198 rfl rfl (by decide) rfl ?_
        refine f_goto (tgt := 66) dX7_grown_201 (by decide) ?_
        refine f_ls [2, 3, 4, 5, 0] rfl ?_
        exact H
set_option maxRecDepth 20000 in
set_option maxHeartbeats 2000000 in
theorem b_X7_grown_207 {G : fG} {l : Launch} {K : Nat → Option zS → fW → Prop} {y1 : Nat} {y2 : Nat} {y4 : Int32} {o : Option zS} {ω : fW} {kb : Nat}
    (H : (0 ≤ kb ∧ FC G l M_L_pick 0 [.ref G.2.1, .int 4, .int 8] (o, ω) (fQi (fun v1 o2 ω3 => ((v1 ≤ y4 → (0 ≤ kb ∧ FC G l M_L_pick 0 [.ref G.2.1, .int 5, .int 2] (o2, ω3) (fQi (fun v5 o6 ω7 => ((¬ v5 = 0 → L_X7_grown_435 G l K y1 y2 0 o6 ω7 kb) ∧ (v5 = 0 → (0 ≤ kb ∧ FC G l M_L_pick 0 [.ref G.2.1, .int 6, .int 4] (o6, ω7) (fQi (fun v9 o10 ω11 => (∃ fs12 : List Value, ω11 y1 = some (.inr (11, fs12)) ∧ 1 < fs12.length ∧ (∀ ω13 : fW, ω13 = fup ω11 y1 (.inr (11, fs12.set 1 (.int (1 + v9)))) → (60 ≤ kb ∧ ∃ fs27 : List Value, ω13 y2 = some (.inr (1, fs27)) ∧ FC G l M_J4_append_15ec4 60 [.ref y2, .ref (G.1.2.2.2.2.1 17)] (o10, ω13) (fQr (fun v14 o15 ω16 => (∃ (fs17 : List Value) (w18 : Int32), ω16 y1 = some (.inr (11, fs17)) ∧ fs17[1]? = some (.int w18) ∧ (60 ≤ (kb - 60) ∧ ∃ fs26 : List Value, ω16 v14 = some (.inr (1, fs26)) ∧ FC G l M_J4_append_bf812 60 [.ref v14, .int w18] (o15, ω16) (fQr (fun v19 o20 ω21 => (60 ≤ ((kb - 60) - 60) ∧ ∃ fs25 : List Value, ω21 v19 = some (.inr (1, fs25)) ∧ FC G l M_J4_append_15ec4 60 [.ref v19, .ref (G.1.2.2.2.2.1 8)] (o20, ω21) (fQr (fun v22 o23 ω24 => L_X7_grown_435 G l K y1 y2 0 o23 ω24 (((kb - 60) - 60) - 60)))))))))))))))))))))) ∧ (¬ v1 ≤ y4 → (1 ≤ kb ∧ ∀ (q28 : Nat) (ω29 : fW), ω3 q28 = none → ω29 = fup ω3 q28 (.inl (G.1.2.1 0, 6, .inl (fun _ => 0))) → (0 ≤ (kb - 1) ∧ FC G l M_L_pick 0 [.ref G.2.1, .int (40 + y4), .int 2] (o2, ω29) (fQi (fun v30 o31 ω32 => (∃ (n33 : Nat) (f34 : Nat → Int32), ω32 q28 = some (.inl (G.1.2.1 0, n33, .inl f34)) ∧ vp_in 0 n33 ∧ (∀ ω35 : fW, ω35 = fup ω32 q28 (.inl (G.1.2.1 0, n33, .inl (upd f34 (Int32.toNatClampNeg 0) v30))) → (0 ≤ (kb - 1) ∧ FC G l M_L_pick 0 [.ref G.2.1, .int (50 + y4), .int 12] (o31, ω35) (fQi (fun v36 o37 ω38 => (∃ (n39 : Nat) (f40 : Nat → Int32), ω38 q28 = some (.inl (G.1.2.1 0, n39, .inl f40)) ∧ vp_in 1 n39 ∧ (∀ ω41 : fW, ω41 = fup ω38 q28 (.inl (G.1.2.1 0, n39, .inl (upd f40 (Int32.toNatClampNeg 1) v36))) → (0 ≤ (kb - 1) ∧ FC G l M_L_pick 0 [.ref G.2.1, .int (60 + y4), .int 5] (o37, ω41) (fQi (fun v42 o43 ω44 => (∃ (n45 : Nat) (f46 : Nat → Int32), ω44 q28 = some (.inl (G.1.2.1 0, n45, .inl f46)) ∧ vp_in 2 n45 ∧ (∀ ω47 : fW, ω47 = fup ω44 q28 (.inl (G.1.2.1 0, n45, .inl (upd f46 (Int32.toNatClampNeg 2) v42))) → (0 ≤ (kb - 1) ∧ FC G l M_L_pick 0 [.ref G.2.1, .int (70 + y4), .int 20] (o43, ω47) (fQi (fun v48 o49 ω50 => (∃ (n51 : Nat) (f52 : Nat → Int32), ω50 q28 = some (.inl (G.1.2.1 0, n51, .inl f52)) ∧ vp_in 3 n51 ∧ (∀ ω53 : fW, ω53 = fup ω50 q28 (.inl (G.1.2.1 0, n51, .inl (upd f52 (Int32.toNatClampNeg 3) (1 + v48)))) → (0 ≤ (kb - 1) ∧ FC G l M_L_pick 0 [.ref G.2.1, .int (80 + y4), .int 4] (o49, ω53) (fQi (fun v54 o55 ω56 => (∃ (n57 : Nat) (f58 : Nat → Int32), ω56 q28 = some (.inl (G.1.2.1 0, n57, .inl f58)) ∧ vp_in 4 n57 ∧ (∀ ω59 : fW, ω59 = fup ω56 q28 (.inl (G.1.2.1 0, n57, .inl (upd f58 (Int32.toNatClampNeg 4) (1 + v54)))) → (0 ≤ (kb - 1) ∧ FC G l M_L_pick 0 [.ref G.2.1, .int (90 + y4), .int 3] (o55, ω59) (fQi (fun v60 o61 ω62 => (∃ (n63 : Nat) (f64 : Nat → Int32), ω62 q28 = some (.inl (G.1.2.1 0, n63, .inl f64)) ∧ vp_in 5 n63 ∧ (∀ ω65 : fW, ω65 = fup ω62 q28 (.inl (G.1.2.1 0, n63, .inl (upd f64 (Int32.toNatClampNeg 5) (1 + v60)))) → (60 ≤ (kb - 1) ∧ ∃ fs80 : List Value, ω65 y2 = some (.inr (1, fs80)) ∧ FC G l M_J4_append_15ec4 60 [.ref y2, .ref (G.1.2.2.2.2.1 13)] (o61, ω65) (fQr (fun v66 o67 ω68 => (∃ (n69 : Nat) (f70 : Nat → Int32), ω68 q28 = some (.inl (G.1.2.1 0, n69, .inl f70)) ∧ vp_in 0 n69 ∧ ((¬ (f70 (Int32.toNatClampNeg 0)) = 0 → (60 ≤ ((kb - 1) - 60) ∧ ∃ fs75 : List Value, ω68 v66 = some (.inr (1, fs75)) ∧ FC G l M_J4_append_15ec4 60 [.ref v66, .ref (G.1.2.2.2.2.1 16)] (o67, ω68) (fQr (fun v72 o73 ω74 => L_X7_grown_338 G l K y1 y2 y4 q28 1 o73 ω74 (((kb - 1) - 60) - 60))))) ∧ ((f70 (Int32.toNatClampNeg 0)) = 0 → (60 ≤ ((kb - 1) - 60) ∧ ∃ fs79 : List Value, ω68 v66 = some (.inr (1, fs79)) ∧ FC G l M_J4_append_15ec4 60 [.ref v66, .ref (G.1.2.2.2.2.1 15)] (o67, ω68) (fQr (fun v76 o77 ω78 => L_X7_grown_338 G l K y1 y2 y4 q28 1 o77 ω78 (((kb - 1) - 60) - 60))))))))))))))))))))))))))))))))))))))))))))))) :
    L_X7_grown_207 G l K y1 y2 y4 o ω kb := by
  refine f_iload dX7_grown_207 3 rfl ?_
  refine f_aload_n dX7_grown_209 rfl 0 rfl ?_
  refine f_iconst (v := 4) dX7_grown_210 (by decide) ?_
  refine f_bipush (v := 8) dX7_grown_211 (by decide) ?_
  refine f_callSNi (j1 := 0) (j2 := kb) (av := [.ref G.2.1, .int 4, .int 8]) rfl H.2 i_L_pick rfl s_L_pick nl_X7_41 (by decide) (f_kj H.1) (Nat.le_of_ble_eq_true rfl) dX7_grown_213 (fun v1 o2 ω3 H => ?_)
  refine f_icmp_ge (tgt := 391) dX7_grown_216 (by decide) (fun h4 => ?_) (fun h4 => ?_)
  · replace H := H.1 h4
    refine f_aload_n dX7_grown_391 rfl 0 rfl ?_
    refine f_iconst (v := 5) dX7_grown_392 (by decide) ?_
    refine f_iconst (v := 2) dX7_grown_393 (by decide) ?_
    refine f_callSNi (j1 := 0) (j2 := kb) (av := [.ref G.2.1, .int 5, .int 2]) rfl H.2 i_L_pick rfl s_L_pick nl_X7_41 (by decide) (f_kj H.1) (Nat.le_of_ble_eq_true rfl) dX7_grown_394 (fun v5 o6 ω7 H => ?_)
    refine f_if_ne (tgt := 432) dX7_grown_397 (by decide) (fun h8 => ?_) (fun h8 => ?_)
    · replace H := H.1 h8
      refine f_iconst (v := 0) dX7_grown_432 (by decide) ?_
      refine f_istore (ls' := [(4, .int 0), (0, .ref G.2.1), (1, .ref y1), (2, .ref y2)]) dX7_grown_433 (by decide) rfl ?_
      refine f_ls [2, 3, 0] rfl ?_
      exact H
    · replace H := H.2 h8
      refine f_aload_n dX7_grown_400 rfl 1 rfl ?_
      refine f_iconst (v := 1) dX7_grown_401 (by decide) ?_
      refine f_aload_n dX7_grown_402 rfl 0 rfl ?_
      refine f_bipush (v := 6) dX7_grown_403 (by decide) ?_
      refine f_iconst (v := 4) dX7_grown_405 (by decide) ?_
      refine f_callSNi (j1 := 0) (j2 := kb) (av := [.ref G.2.1, .int 6, .int 4]) rfl H.2 i_L_pick rfl s_L_pick nl_X7_41 (by decide) (f_kj H.1) (Nat.le_of_ble_eq_true rfl) dX7_grown_406 (fun v9 o10 ω11 H => ?_)
      refine f_iadd dX7_grown_409 ?_
      obtain ⟨fs12, hfs12, gfs12, H⟩ := H
      refine pf_X7_13 rfl hfs12 gfs12 dX7_grown_410 ?_
      replace H := H _ rfl
      generalize fup ω11 y1 (.inr (11, fs12.set 1 (.int (1 + v9)))) = ω13 at H ⊢
      refine f_aload_n dX7_grown_413 rfl 2 rfl ?_
      refine f_ldcS (i := 17) rfl dX7_grown_414 ?_
      have hkfs27 := H.1
      obtain ⟨fs27, hfs27, H⟩ := H.2
      refine f_callVr (C := RJ4) (j1 := 60) (j2 := (kb - 60)) (av := [.ref (G.1.2.2.2.2.1 17)]) rfl hfs27 rfl rfl H i_J4_append_15ec4 rfl n_J4_append_15ec4 v_J4_append_15ec4 q_X7_49 (by decide) (f_kj hkfs27) (Nat.le_of_ble_eq_true rfl) dX7_grown_416 (fun v14 o15 ω16 H => ?_)
      refine f_aload_n dX7_grown_419 rfl 1 rfl ?_
      obtain ⟨fs17, w18, hfs17, gfs17, H⟩ := H
      refine gf_X7_13 rfl hfs17 gfs17 dX7_grown_420 ?_
      have hkfs26 := H.1
      obtain ⟨fs26, hfs26, H⟩ := H.2
      refine f_callVr (C := RJ4) (j1 := 60) (j2 := ((kb - 60) - 60)) (av := [.int w18]) rfl hfs26 rfl rfl H i_J4_append_bf812 rfl n_J4_append_bf812 v_J4_append_bf812 q_X7_53 (by decide) (f_kj hkfs26) (Nat.le_of_ble_eq_true rfl) dX7_grown_423 (fun v19 o20 ω21 H => ?_)
      refine f_ldcS (i := 8) rfl dX7_grown_426 ?_
      have hkfs25 := H.1
      obtain ⟨fs25, hfs25, H⟩ := H.2
      refine f_callVr (C := RJ4) (j1 := 60) (j2 := (((kb - 60) - 60) - 60)) (av := [.ref (G.1.2.2.2.2.1 8)]) rfl hfs25 rfl rfl H i_J4_append_15ec4 rfl n_J4_append_15ec4 v_J4_append_15ec4 q_X7_49 (by decide) (f_kj hkfs25) (Nat.le_of_ble_eq_true rfl) dX7_grown_428 (fun v22 o23 ω24 H => ?_)
      refine f_pop dX7_grown_431 rfl ?_
      refine f_iconst (v := 0) dX7_grown_432 (by decide) ?_
      refine f_istore (ls' := [(4, .int 0), (0, .ref G.2.1), (1, .ref y1), (2, .ref y2)]) dX7_grown_433 (by decide) rfl ?_
      refine f_ls [2, 3, 0] rfl ?_
      exact H
  · replace H := H.2 h4
    refine f_bipush (v := 6) dX7_grown_219 (by decide) ?_
    refine f_newa0 (N := 6) (u := 1) (by decide) (by decide) (Nat.le_of_ble_eq_true rfl) (f_ks H.1) ⟨by decide, by decide⟩ dX7_grown_221 (fun q28 hq28 => ?_)
    replace H := H.2 q28 _ hq28 rfl
    generalize fup ω3 q28 (.inl (G.1.2.1 0, 6, .inl (fun _ => 0))) = ω29 at H ⊢
    refine f_dup dX7_grown_223 rfl ?_
    refine f_iconst (v := 0) dX7_grown_224 (by decide) ?_
    refine f_aload_n dX7_grown_225 rfl 0 rfl ?_
    refine f_bipush (v := 40) dX7_grown_226 (by decide) ?_
    refine f_iload dX7_grown_228 3 rfl ?_
    refine f_iadd dX7_grown_230 ?_
    refine f_iconst (v := 2) dX7_grown_231 (by decide) ?_
    refine f_callSNi (j1 := 0) (j2 := (kb - 1)) (av := [.ref G.2.1, .int (40 + y4), .int 2]) rfl H.2 i_L_pick rfl s_L_pick nl_X7_41 (by decide) (f_kj H.1) (Nat.le_of_ble_eq_true rfl) dX7_grown_232 (fun v30 o31 ω32 H => ?_)
    obtain ⟨n33, f34, hn33, gn33, H⟩ := H
    refine f_iast hn33 gn33 dX7_grown_235 ?_
    replace H := H _ rfl
    generalize fup ω32 q28 (.inl (G.1.2.1 0, n33, .inl (upd f34 (Int32.toNatClampNeg 0) v30))) = ω35 at H ⊢
    refine f_dup dX7_grown_236 rfl ?_
    refine f_iconst (v := 1) dX7_grown_237 (by decide) ?_
    refine f_aload_n dX7_grown_238 rfl 0 rfl ?_
    refine f_bipush (v := 50) dX7_grown_239 (by decide) ?_
    refine f_iload dX7_grown_241 3 rfl ?_
    refine f_iadd dX7_grown_243 ?_
    refine f_bipush (v := 12) dX7_grown_244 (by decide) ?_
    refine f_callSNi (j1 := 0) (j2 := (kb - 1)) (av := [.ref G.2.1, .int (50 + y4), .int 12]) rfl H.2 i_L_pick rfl s_L_pick nl_X7_41 (by decide) (f_kj H.1) (Nat.le_of_ble_eq_true rfl) dX7_grown_246 (fun v36 o37 ω38 H => ?_)
    obtain ⟨n39, f40, hn39, gn39, H⟩ := H
    refine f_iast hn39 gn39 dX7_grown_249 ?_
    replace H := H _ rfl
    generalize fup ω38 q28 (.inl (G.1.2.1 0, n39, .inl (upd f40 (Int32.toNatClampNeg 1) v36))) = ω41 at H ⊢
    refine f_dup dX7_grown_250 rfl ?_
    refine f_iconst (v := 2) dX7_grown_251 (by decide) ?_
    refine f_aload_n dX7_grown_252 rfl 0 rfl ?_
    refine f_bipush (v := 60) dX7_grown_253 (by decide) ?_
    refine f_iload dX7_grown_255 3 rfl ?_
    refine f_iadd dX7_grown_257 ?_
    refine f_iconst (v := 5) dX7_grown_258 (by decide) ?_
    refine f_callSNi (j1 := 0) (j2 := (kb - 1)) (av := [.ref G.2.1, .int (60 + y4), .int 5]) rfl H.2 i_L_pick rfl s_L_pick nl_X7_41 (by decide) (f_kj H.1) (Nat.le_of_ble_eq_true rfl) dX7_grown_259 (fun v42 o43 ω44 H => ?_)
    obtain ⟨n45, f46, hn45, gn45, H⟩ := H
    refine f_iast hn45 gn45 dX7_grown_262 ?_
    replace H := H _ rfl
    generalize fup ω44 q28 (.inl (G.1.2.1 0, n45, .inl (upd f46 (Int32.toNatClampNeg 2) v42))) = ω47 at H ⊢
    refine f_dup dX7_grown_263 rfl ?_
    refine f_iconst (v := 3) dX7_grown_264 (by decide) ?_
    refine f_iconst (v := 1) dX7_grown_265 (by decide) ?_
    refine f_aload_n dX7_grown_266 rfl 0 rfl ?_
    refine f_bipush (v := 70) dX7_grown_267 (by decide) ?_
    refine f_iload dX7_grown_269 3 rfl ?_
    refine f_iadd dX7_grown_271 ?_
    refine f_bipush (v := 20) dX7_grown_272 (by decide) ?_
    refine f_callSNi (j1 := 0) (j2 := (kb - 1)) (av := [.ref G.2.1, .int (70 + y4), .int 20]) rfl H.2 i_L_pick rfl s_L_pick nl_X7_41 (by decide) (f_kj H.1) (Nat.le_of_ble_eq_true rfl) dX7_grown_274 (fun v48 o49 ω50 H => ?_)
    refine f_iadd dX7_grown_277 ?_
    obtain ⟨n51, f52, hn51, gn51, H⟩ := H
    refine f_iast hn51 gn51 dX7_grown_278 ?_
    replace H := H _ rfl
    generalize fup ω50 q28 (.inl (G.1.2.1 0, n51, .inl (upd f52 (Int32.toNatClampNeg 3) (1 + v48)))) = ω53 at H ⊢
    refine f_dup dX7_grown_279 rfl ?_
    refine f_iconst (v := 4) dX7_grown_280 (by decide) ?_
    refine f_iconst (v := 1) dX7_grown_281 (by decide) ?_
    refine f_aload_n dX7_grown_282 rfl 0 rfl ?_
    refine f_bipush (v := 80) dX7_grown_283 (by decide) ?_
    refine f_iload dX7_grown_285 3 rfl ?_
    refine f_iadd dX7_grown_287 ?_
    refine f_iconst (v := 4) dX7_grown_288 (by decide) ?_
    refine f_callSNi (j1 := 0) (j2 := (kb - 1)) (av := [.ref G.2.1, .int (80 + y4), .int 4]) rfl H.2 i_L_pick rfl s_L_pick nl_X7_41 (by decide) (f_kj H.1) (Nat.le_of_ble_eq_true rfl) dX7_grown_289 (fun v54 o55 ω56 H => ?_)
    refine f_iadd dX7_grown_292 ?_
    obtain ⟨n57, f58, hn57, gn57, H⟩ := H
    refine f_iast hn57 gn57 dX7_grown_293 ?_
    replace H := H _ rfl
    generalize fup ω56 q28 (.inl (G.1.2.1 0, n57, .inl (upd f58 (Int32.toNatClampNeg 4) (1 + v54)))) = ω59 at H ⊢
    refine f_dup dX7_grown_294 rfl ?_
    refine f_iconst (v := 5) dX7_grown_295 (by decide) ?_
    refine f_iconst (v := 1) dX7_grown_296 (by decide) ?_
    refine f_aload_n dX7_grown_297 rfl 0 rfl ?_
    refine f_bipush (v := 90) dX7_grown_298 (by decide) ?_
    refine f_iload dX7_grown_300 3 rfl ?_
    refine f_iadd dX7_grown_302 ?_
    refine f_iconst (v := 3) dX7_grown_303 (by decide) ?_
    refine f_callSNi (j1 := 0) (j2 := (kb - 1)) (av := [.ref G.2.1, .int (90 + y4), .int 3]) rfl H.2 i_L_pick rfl s_L_pick nl_X7_41 (by decide) (f_kj H.1) (Nat.le_of_ble_eq_true rfl) dX7_grown_304 (fun v60 o61 ω62 H => ?_)
    refine f_iadd dX7_grown_307 ?_
    obtain ⟨n63, f64, hn63, gn63, H⟩ := H
    refine f_iast hn63 gn63 dX7_grown_308 ?_
    replace H := H _ rfl
    generalize fup ω62 q28 (.inl (G.1.2.1 0, n63, .inl (upd f64 (Int32.toNatClampNeg 5) (1 + v60)))) = ω65 at H ⊢
    refine f_astore (ls' := [(5, .ref q28), (0, .ref G.2.1), (1, .ref y1), (2, .ref y2), (4, .int y4)]) dX7_grown_309 (by decide) rfl ?_
    refine f_aload_n dX7_grown_311 rfl 3 rfl ?_
    refine f_ldcS (i := 13) rfl dX7_grown_312 ?_
    have hkfs80 := H.1
    obtain ⟨fs80, hfs80, H⟩ := H.2
    refine f_callVr (C := RJ4) (j1 := 60) (j2 := ((kb - 1) - 60)) (av := [.ref (G.1.2.2.2.2.1 13)]) rfl hfs80 rfl rfl H i_J4_append_15ec4 rfl n_J4_append_15ec4 v_J4_append_15ec4 q_X7_49 (by decide) (f_kj hkfs80) (Nat.le_of_ble_eq_true rfl) dX7_grown_314 (fun v66 o67 ω68 H => ?_)
    refine f_aload dX7_grown_317 0 rfl ?_
    refine f_iconst (v := 0) dX7_grown_319 (by decide) ?_
    obtain ⟨n69, f70, hn69, gn69, H⟩ := H
    refine f_iald hn69 gn69 dX7_grown_320 ?_
    refine f_if_ne (tgt := 329) dX7_grown_321 (by decide) (fun h71 => ?_) (fun h71 => ?_)
    · replace H := H.1 h71
      refine f_ldcS (i := 16) rfl dX7_grown_329 ?_
      have hkfs75 := H.1
      obtain ⟨fs75, hfs75, H⟩ := H.2
      refine f_callVr (C := RJ4) (j1 := 60) (j2 := (((kb - 1) - 60) - 60)) (av := [.ref (G.1.2.2.2.2.1 16)]) rfl hfs75 rfl rfl H i_J4_append_15ec4 rfl n_J4_append_15ec4 v_J4_append_15ec4 q_X7_49 (by decide) (f_kj hkfs75) (Nat.le_of_ble_eq_true rfl) dX7_grown_331 (fun v72 o73 ω74 H => ?_)
      refine f_pop dX7_grown_334 rfl ?_
      refine f_iconst (v := 1) dX7_grown_335 (by decide) ?_
      refine f_istore (ls' := [(6, .int 1), (5, .ref q28), (0, .ref G.2.1), (1, .ref y1), (2, .ref y2), (4, .int y4)]) dX7_grown_336 (by decide) rfl ?_
      refine f_ls [2, 3, 4, 5, 1, 0] rfl ?_
      exact H
    · replace H := H.2 h71
      refine f_ldcS (i := 15) rfl dX7_grown_324 ?_
      refine f_goto (tgt := 331) dX7_grown_326 (by decide) ?_
      have hkfs79 := H.1
      obtain ⟨fs79, hfs79, H⟩ := H.2
      refine f_callVr (C := RJ4) (j1 := 60) (j2 := (((kb - 1) - 60) - 60)) (av := [.ref (G.1.2.2.2.2.1 15)]) rfl hfs79 rfl rfl H i_J4_append_15ec4 rfl n_J4_append_15ec4 v_J4_append_15ec4 q_X7_49 (by decide) (f_kj hkfs79) (Nat.le_of_ble_eq_true rfl) dX7_grown_331 (fun v76 o77 ω78 H => ?_)
      refine f_pop dX7_grown_334 rfl ?_
      refine f_iconst (v := 1) dX7_grown_335 (by decide) ?_
      refine f_istore (ls' := [(6, .int 1), (5, .ref q28), (0, .ref G.2.1), (1, .ref y1), (2, .ref y2), (4, .int y4)]) dX7_grown_336 (by decide) rfl ?_
      refine f_ls [2, 3, 4, 5, 1, 0] rfl ?_
      exact H
set_option maxRecDepth 20000 in
set_option maxHeartbeats 2000000 in
theorem b_X7_grown_338 {G : fG} {l : Launch} {K : Nat → Option zS → fW → Prop} {y1 : Nat} {y2 : Nat} {y4 : Int32} {y5 : Nat} {y6 : Int32} {o : Option zS} {ω : fW} {kb : Nat}
    (H : ((6 ≤ y6 → (60 ≤ kb ∧ ∃ fs11 : List Value, ω y2 = some (.inr (1, fs11)) ∧ FC G l M_J4_append_15ec4 60 [.ref y2, .ref (G.1.2.2.2.2.1 8)] (o, ω) (fQr (fun v2 o3 ω4 => (∃ (fs5 : List Value) (w6 : Nat), ω4 y1 = some (.inr (11, fs5)) ∧ fs5[3]? = some (.ref w6) ∧ (3 ≤ (kb - 60) ∧ ∃ fs10 : List Value, ω4 w6 = some (.inr (3, fs10)) ∧ FC G l M_Jx4a65c_add_9ea2d 3 [.ref w6, .ref y5] (o3, ω4) (fQi (fun v7 o8 ω9 => L_X7_grown_207 G l K y1 y2 (y4 + 1) o8 ω9 ((kb - 60) - 3))))))))) ∧ (¬ 6 ≤ y6 → (60 ≤ kb ∧ ∃ fs21 : List Value, ω y2 = some (.inr (1, fs21)) ∧ FC G l M_J4_append_15ec4 60 [.ref y2, .ref (G.1.2.2.2.2.1 14)] (o, ω) (fQr (fun v12 o13 ω14 => (∃ (n15 : Nat) (f16 : Nat → Int32), ω14 y5 = some (.inl (G.1.2.1 0, n15, .inl f16)) ∧ vp_in y6 n15 ∧ (60 ≤ (kb - 60) ∧ ∃ fs20 : List Value, ω14 v12 = some (.inr (1, fs20)) ∧ FC G l M_J4_append_bf812 60 [.ref v12, .int (f16 (Int32.toNatClampNeg y6))] (o13, ω14) (fQr (fun v17 o18 ω19 => L_X7_grown_338 G l K y1 y2 y4 y5 (y6 + 1) o18 ω19 ((kb - 60) - 60))))))))))) :
    L_X7_grown_338 G l K y1 y2 y4 y5 y6 o ω kb := by
  refine f_iload dX7_grown_338 5 rfl ?_
  refine f_bipush (v := 6) dX7_grown_340 (by decide) ?_
  refine f_icmp_ge (tgt := 366) dX7_grown_342 (by decide) (fun h1 => ?_) (fun h1 => ?_)
  · replace H := H.1 h1
    refine f_aload_n dX7_grown_366 rfl 2 rfl ?_
    refine f_ldcS (i := 8) rfl dX7_grown_367 ?_
    have hkfs11 := H.1
    obtain ⟨fs11, hfs11, H⟩ := H.2
    refine f_callVr (C := RJ4) (j1 := 60) (j2 := (kb - 60)) (av := [.ref (G.1.2.2.2.2.1 8)]) rfl hfs11 rfl rfl H i_J4_append_15ec4 rfl n_J4_append_15ec4 v_J4_append_15ec4 q_X7_49 (by decide) (f_kj hkfs11) (Nat.le_of_ble_eq_true rfl) dX7_grown_369 (fun v2 o3 ω4 H => ?_)
    refine f_pop dX7_grown_372 rfl ?_
    refine f_aload_n dX7_grown_373 rfl 1 rfl ?_
    obtain ⟨fs5, w6, hfs5, gfs5, H⟩ := H
    refine gf_X7_23 rfl hfs5 gfs5 dX7_grown_374 ?_
    refine f_aload dX7_grown_377 4 rfl ?_
    have hkfs10 := H.1
    obtain ⟨fs10, hfs10, H⟩ := H.2
    refine f_callFi (j1 := 3) (j2 := ((kb - 60) - 3)) (av := [.ref y5]) rfl hfs10 rfl rfl H i_Jx4a65c_add_9ea2d rfl (by decide +kernel) (by decide +kernel) n_Jx4a65c_add_9ea2d vi_Jx4a65c_add_9ea2d q_X7_58 (by decide) (f_kj hkfs10) (Nat.le_of_ble_eq_true rfl) dX7_grown_379 (fun v7 o8 ω9 H => ?_)
    refine f_pop dX7_grown_384 rfl ?_
    refine f_iinc (j := 3) (v := (y4 + 1)) (ls' := [(4, .int (y4 + 1)), (0, .ref G.2.1), (1, .ref y1), (2, .ref y2), (5, .ref y5), (6, .int y6)]) dX7_grown_385 rfl rfl (by decide) rfl ?_
    refine f_goto (tgt := 207) dX7_grown_388 (by decide) ?_
    refine f_ls [1, 2, 3, 0] rfl ?_
    exact H
  · replace H := H.2 h1
    refine f_aload_n dX7_grown_345 rfl 2 rfl ?_
    refine f_ldcS (i := 14) rfl dX7_grown_346 ?_
    have hkfs21 := H.1
    obtain ⟨fs21, hfs21, H⟩ := H.2
    refine f_callVr (C := RJ4) (j1 := 60) (j2 := (kb - 60)) (av := [.ref (G.1.2.2.2.2.1 14)]) rfl hfs21 rfl rfl H i_J4_append_15ec4 rfl n_J4_append_15ec4 v_J4_append_15ec4 q_X7_49 (by decide) (f_kj hkfs21) (Nat.le_of_ble_eq_true rfl) dX7_grown_348 (fun v12 o13 ω14 H => ?_)
    refine f_aload dX7_grown_351 4 rfl ?_
    refine f_iload dX7_grown_353 5 rfl ?_
    obtain ⟨n15, f16, hn15, gn15, H⟩ := H
    refine f_iald hn15 gn15 dX7_grown_355 ?_
    have hkfs20 := H.1
    obtain ⟨fs20, hfs20, H⟩ := H.2
    refine f_callVr (C := RJ4) (j1 := 60) (j2 := ((kb - 60) - 60)) (av := [.int (f16 (Int32.toNatClampNeg y6))]) rfl hfs20 rfl rfl H i_J4_append_bf812 rfl n_J4_append_bf812 v_J4_append_bf812 q_X7_53 (by decide) (f_kj hkfs20) (Nat.le_of_ble_eq_true rfl) dX7_grown_356 (fun v17 o18 ω19 H => ?_)
    refine f_pop dX7_grown_359 rfl ?_
    refine f_iinc (j := 5) (v := (y6 + 1)) (ls' := [(6, .int (y6 + 1)), (0, .ref G.2.1), (1, .ref y1), (2, .ref y2), (4, .int y4), (5, .ref y5)]) dX7_grown_360 rfl rfl (by decide) rfl ?_
    refine f_goto (tgt := 338) dX7_grown_363 (by decide) ?_
    refine f_ls [1, 2, 3, 4, 5, 0] rfl ?_
    exact H
set_option maxRecDepth 20000 in
set_option maxHeartbeats 2000000 in
theorem b_X7_grown_435 {G : fG} {l : Launch} {K : Nat → Option zS → fW → Prop} {y1 : Nat} {y2 : Nat} {y4 : Int32} {o : Option zS} {ω : fW} {kb : Nat}
    (H : ((2 ≤ y4 → (61 ≤ kb ∧ ∃ fs7 : List Value, ω y2 = some (.inr (1, fs7)) ∧ FC G l M_J4_toString_0e30d 61 [.ref y2] (o, ω) (fQr (fun v2 o3 ω4 => (∃ fs5 : List Value, ω4 y1 = some (.inr (11, fs5)) ∧ 5 < fs5.length ∧ (∀ ω6 : fW, ω6 = fup ω4 y1 (.inr (11, fs5.set 5 (.ref v2))) → K y1 o3 ω6)))))) ∧ (¬ 2 ≤ y4 → L_X7_grown_444 G l K y1 y2 y4 0 o ω kb))) :
    L_X7_grown_435 G l K y1 y2 y4 o ω kb := by
  refine f_iload dX7_grown_435 2 rfl ?_
  refine f_iconst (v := 2) dX7_grown_437 (by decide) ?_
  refine f_icmp_ge (tgt := 506) dX7_grown_438 (by decide) (fun h1 => ?_) (fun h1 => ?_)
  · replace H := H.1 h1
    refine f_aload_n dX7_grown_506 rfl 0 rfl ?_
    refine f_aload_n dX7_grown_507 rfl 1 rfl ?_
    have hkfs7 := H.1
    obtain ⟨fs7, hfs7, H⟩ := H.2
    refine f_callVr (C := RJ4) (j1 := 61) (j2 := (kb - 61)) (av := []) rfl hfs7 rfl rfl H i_J4_toString_0e30d rfl n_J4_toString_0e30d v_J4_toString_0e30d q_X7_95 (by decide) (f_kj hkfs7) (Nat.le_of_ble_eq_true rfl) dX7_grown_508 (fun v2 o3 ω4 H => ?_)
    obtain ⟨fs5, hfs5, gfs5, H⟩ := H
    refine pf_X7_33 rfl hfs5 gfs5 dX7_grown_511 ?_
    replace H := H _ rfl
    generalize fup ω4 y1 (.inr (11, fs5.set 5 (.ref v2))) = ω6 at H ⊢
    refine f_aload_n dX7_grown_514 rfl 0 rfl ?_
    exact f_aret rfl (Or.inl ⟨_, rfl⟩) dX7_grown_515 ⟨_, rfl, H⟩
  · replace H := H.2 h1
    refine f_iconst (v := 0) dX7_grown_441 (by decide) ?_
    refine f_istore (ls' := [(5, .int 0), (1, .ref y1), (2, .ref y2), (4, .int y4)]) dX7_grown_442 (by decide) rfl ?_
    refine f_ls [1, 2, 3, 0] rfl ?_
    exact H
set_option maxRecDepth 20000 in
set_option maxHeartbeats 2000000 in
theorem b_X7_grown_444 {G : fG} {l : Launch} {K : Nat → Option zS → fW → Prop} {y1 : Nat} {y2 : Nat} {y4 : Int32} {y5 : Int32} {o : Option zS} {ω : fW} {kb : Nat}
    (H : (0 ≤ kb ∧ ∃ fs5 : List Value, ω y1 = some (.inr (11, fs5)) ∧ FC G l M_X7_columns 0 [.ref y1] (o, ω) (fQi (fun v1 o2 ω3 => ((v1 ≤ y5 → L_X7_grown_435 G l K y1 y2 (y4 + 1) o2 ω3 kb) ∧ (¬ v1 ≤ y5 → L_X7_grown_456 G l K y1 y2 y4 y5 0 o2 ω3 kb)))))) :
    L_X7_grown_444 G l K y1 y2 y4 y5 o ω kb := by
  refine f_iload dX7_grown_444 3 rfl ?_
  refine f_aload_n dX7_grown_446 rfl 0 rfl ?_
  have hkfs5 := H.1
  obtain ⟨fs5, hfs5, H⟩ := H.2
  refine f_callVi (C := RX7) (j1 := 0) (j2 := kb) (av := []) rfl hfs5 rfl rfl H i_X7_columns rfl n_X7_columns v_X7_columns q_X7_87 (by decide) (f_kj hkfs5) (Nat.le_of_ble_eq_true rfl) dX7_grown_447 (fun v1 o2 ω3 H => ?_)
  refine f_icmp_ge (tgt := 500) dX7_grown_450 (by decide) (fun h4 => ?_) (fun h4 => ?_)
  · replace H := H.1 h4
    refine f_iinc (j := 2) (v := (y4 + 1)) (ls' := [(4, .int (y4 + 1)), (1, .ref y1), (2, .ref y2), (5, .int y5)]) dX7_grown_500 rfl rfl (by decide) rfl ?_
    refine f_goto (tgt := 435) dX7_grown_503 (by decide) ?_
    refine f_ls [1, 2, 0] rfl ?_
    exact H
  · replace H := H.2 h4
    refine f_iconst (v := 0) dX7_grown_453 (by decide) ?_
    refine f_istore (ls' := [(6, .int 0), (1, .ref y1), (2, .ref y2), (4, .int y4), (5, .int y5)]) dX7_grown_454 (by decide) rfl ?_
    refine f_ls [1, 2, 3, 4, 0] rfl ?_
    exact H
set_option maxRecDepth 20000 in
set_option maxHeartbeats 2000000 in
theorem b_X7_grown_456 {G : fG} {l : Launch} {K : Nat → Option zS → fW → Prop} {y1 : Nat} {y2 : Nat} {y4 : Int32} {y5 : Int32} {y6 : Int32} {o : Option zS} {ω : fW} {kb : Nat}
    (H : (∃ (fs1 : List Value) (w2 : Int32), ω y1 = some (.inr (11, fs1)) ∧ fs1[0]? = some (.int w2) ∧ ((w2 ≤ y6 → L_X7_grown_444 G l K y1 y2 y4 (y5 + 1) o ω kb) ∧ (¬ w2 ≤ y6 → (∃ (fs4 : List Value) (w5 : Nat), ω y1 = some (.inr (11, fs4)) ∧ fs4[4]? = some (.ref w5) ∧ (∃ (n6 : Nat) (f7 : Nat → Option Nat) (w8 : Nat), ω w5 = some (.inl (G.1.2.1 6, n6, .inr (.inr (.inr (.inr f7))))) ∧ vp_in y4 n6 ∧ f7 (Int32.toNatClampNeg y4) = some w8 ∧ (∃ (n9 : Nat) (f10 : Nat → Option Nat) (w11 : Nat), ω w8 = some (.inl (G.1.2.1 4, n9, .inr (.inr (.inr (.inr f10))))) ∧ vp_in y5 n9 ∧ f10 (Int32.toNatClampNeg y5) = some w11 ∧ (0 ≤ kb ∧ ∃ fs18 : List Value, ω y1 = some (.inr (11, fs18)) ∧ FC G l M_X7_picture 0 [.ref y1, .int y4, .int y5, .int y6] (o, ω) (fQi (fun v12 o13 ω14 => (∃ (n15 : Nat) (f16 : Nat → Int32), ω14 w11 = some (.inl (G.1.2.1 0, n15, .inl f16)) ∧ vp_in y6 n15 ∧ (∀ ω17 : fW, ω17 = fup ω14 w11 (.inl (G.1.2.1 0, n15, .inl (upd f16 (Int32.toNatClampNeg y6) v12))) → L_X7_grown_456 G l K y1 y2 y4 y5 (y6 + 1) o13 ω17 kb)))))))))))) :
    L_X7_grown_456 G l K y1 y2 y4 y5 y6 o ω kb := by
  refine f_iload dX7_grown_456 4 rfl ?_
  refine f_aload_n dX7_grown_458 rfl 0 rfl ?_
  obtain ⟨fs1, w2, hfs1, gfs1, H⟩ := H
  refine gf_X7_7 rfl hfs1 gfs1 dX7_grown_459 ?_
  refine f_icmp_ge (tgt := 494) dX7_grown_462 (by decide) (fun h3 => ?_) (fun h3 => ?_)
  · replace H := H.1 h3
    refine f_iinc (j := 3) (v := (y5 + 1)) (ls' := [(5, .int (y5 + 1)), (1, .ref y1), (2, .ref y2), (4, .int y4), (6, .int y6)]) dX7_grown_494 rfl rfl (by decide) rfl ?_
    refine f_goto (tgt := 444) dX7_grown_497 (by decide) ?_
    refine f_ls [1, 2, 3, 0] rfl ?_
    exact H
  · replace H := H.2 h3
    refine f_aload_n dX7_grown_465 rfl 0 rfl ?_
    obtain ⟨fs4, w5, hfs4, gfs4, H⟩ := H
    refine gf_X7_28 rfl hfs4 gfs4 dX7_grown_466 ?_
    refine f_iload dX7_grown_469 2 rfl ?_
    obtain ⟨n6, f7, w8, hn6, gn6, en6, H⟩ := H
    refine f_aald6 hn6 gn6 en6 dX7_grown_471 ?_
    refine f_iload dX7_grown_472 3 rfl ?_
    obtain ⟨n9, f10, w11, hn9, gn9, en9, H⟩ := H
    refine f_aald4 hn9 gn9 en9 dX7_grown_474 ?_
    refine f_iload dX7_grown_475 4 rfl ?_
    refine f_aload_n dX7_grown_477 rfl 0 rfl ?_
    refine f_iload dX7_grown_478 2 rfl ?_
    refine f_iload dX7_grown_480 3 rfl ?_
    refine f_iload dX7_grown_482 4 rfl ?_
    have hkfs18 := H.1
    obtain ⟨fs18, hfs18, H⟩ := H.2
    refine f_callVi (C := RX7) (j1 := 0) (j2 := kb) (av := [.int y4, .int y5, .int y6]) rfl hfs18 rfl rfl H i_X7_picture rfl n_X7_picture v_X7_picture q_X7_91 (by decide) (f_kj hkfs18) (Nat.le_of_ble_eq_true rfl) dX7_grown_484 (fun v12 o13 ω14 H => ?_)
    obtain ⟨n15, f16, hn15, gn15, H⟩ := H
    refine f_iast hn15 gn15 dX7_grown_487 ?_
    replace H := H _ rfl
    generalize fup ω14 w11 (.inl (G.1.2.1 0, n15, .inl (upd f16 (Int32.toNatClampNeg y6) v12))) = ω17 at H ⊢
    refine f_iinc (j := 4) (v := (y6 + 1)) (ls' := [(6, .int (y6 + 1)), (1, .ref y1), (2, .ref y2), (4, .int y4), (5, .int y5)]) dX7_grown_488 rfl rfl (by decide) rfl ?_
    refine f_goto (tgt := 456) dX7_grown_491 (by decide) ?_
    refine f_ls [1, 2, 3, 4, 0] rfl ?_
    exact H
abbrev L_X7_first_4 (G : fG) (l : Launch) (K : Int32 → Option zS → fW → Prop) (r0 : Nat) (y1 : Int32) (y2 : Int32) (y3 : Int32) (o : Option zS) (ω : fW) (kb : Nat) : Prop :=
  FV G l M_X7_first kb (fQi K) 4 [(0, .ref r0), (1, .int y1), (2, .int y2), (3, .int y3)] [] (o, ω)
set_option maxRecDepth 20000 in
set_option maxHeartbeats 2000000 in
theorem b_X7_first {G : fG} {l : Launch} {K : Int32 → Option zS → fW → Prop} {r0 : Nat} {x1 : Int32} {o : Option zS} {ω : fW} {kb : Nat}
    (H : L_X7_first_4 G l K r0 x1 0 0 o ω kb) :
    FC G l M_X7_first kb [.ref r0, .int x1] (o, ω) (fQi K) := by
  refine FC_of (by decide) (Nat.le_of_ble_eq_true rfl) ?_
  change FV _ _ _ _ _ 0 [(0, .ref r0), (1, .int x1)] [] _
  refine f_iconst (v := 0) dX7_first_0 (by decide) ?_
  refine f_istore_n (ls' := [(2, .int 0), (0, .ref r0), (1, .int x1)]) dX7_first_1 rfl (by decide) rfl ?_
  refine f_iconst (v := 0) dX7_first_2 (by decide) ?_
  refine f_istore_n (ls' := [(3, .int 0), (2, .int 0), (0, .ref r0), (1, .int x1)]) dX7_first_3 rfl (by decide) rfl ?_
  refine f_ls [2, 3, 1, 0] rfl ?_
  exact H
set_option maxRecDepth 20000 in
set_option maxHeartbeats 2000000 in
theorem b_X7_first_4 {G : fG} {l : Launch} {K : Int32 → Option zS → fW → Prop} {r0 : Nat} {y1 : Int32} {y2 : Int32} {y3 : Int32} {o : Option zS} {ω : fW} {kb : Nat}
    (H : ((y1 ≤ y3 → K y2 o ω) ∧ (¬ y1 ≤ y3 → (∃ (fs2 : List Value) (w3 : Nat), ω r0 = some (.inr (11, fs2)) ∧ fs2[2]? = some (.ref w3) ∧ (0 ≤ kb ∧ ∃ fs10 : List Value, ω w3 = some (.inr (3, fs10)) ∧ FC G l M_Jx4a65c_get_915e3 0 [.ref w3, .int y3] (o, ω) (fQr (fun v4 o5 ω6 => (∃ y7 : vp_A, ω6 v4 = some (.inl (G.1.2.1 0, y7)) ∧ (∃ (n8 : Nat) (f9 : Nat → Int32), ω6 v4 = some (.inl (G.1.2.1 0, n8, .inl f9)) ∧ vp_in 0 n8 ∧ L_X7_first_4 G l K r0 y1 (y2 + (f9 (Int32.toNatClampNeg 0))) (y3 + 1) o5 ω6 kb))))))))) :
    L_X7_first_4 G l K r0 y1 y2 y3 o ω kb := by
  refine f_iload_n dX7_first_4 rfl 3 rfl ?_
  refine f_iload_n dX7_first_5 rfl 1 rfl ?_
  refine f_icmp_ge (tgt := 33) dX7_first_6 (by decide) (fun h1 => ?_) (fun h1 => ?_)
  · replace H := H.1 h1
    refine f_iload_n dX7_first_33 rfl 2 rfl ?_
    exact f_iret rfl dX7_first_34 ⟨_, rfl, H⟩
  · replace H := H.2 h1
    refine f_iload_n dX7_first_9 rfl 2 rfl ?_
    refine f_aload_n dX7_first_10 rfl 0 rfl ?_
    obtain ⟨fs2, w3, hfs2, gfs2, H⟩ := H
    refine gf_X7_19 rfl hfs2 gfs2 dX7_first_11 ?_
    refine f_iload_n dX7_first_14 rfl 3 rfl ?_
    have hkfs10 := H.1
    obtain ⟨fs10, hfs10, H⟩ := H.2
    refine f_callFr (j1 := 0) (j2 := kb) (av := [.int y3]) rfl hfs10 rfl rfl H i_Jx4a65c_get_915e3 rfl (by decide +kernel) (by decide +kernel) n_Jx4a65c_get_915e3 vi_Jx4a65c_get_915e3 q_X7_66 (by decide) (f_kj hkfs10) (Nat.le_of_ble_eq_true rfl) dX7_first_15 (fun v4 o5 ω6 H => ?_)
    obtain ⟨y7, hy7, H⟩ := H
    refine f_cast0 cl_X7_70 hy7 dX7_first_20 ?_
    refine f_iconst (v := 0) dX7_first_23 (by decide) ?_
    obtain ⟨n8, f9, hn8, gn8, H⟩ := H
    refine f_iald hn8 gn8 dX7_first_24 ?_
    refine f_iadd dX7_first_25 ?_
    refine f_istore_n (ls' := [(2, .int (y2 + (f9 (Int32.toNatClampNeg 0)))), (0, .ref r0), (1, .int y1), (3, .int y3)]) dX7_first_26 rfl (by decide) rfl ?_
    refine f_iinc (j := 3) (v := (y3 + 1)) (ls' := [(3, .int (y3 + 1)), (2, .int (y2 + (f9 (Int32.toNatClampNeg 0)))), (0, .ref r0), (1, .int y1)]) dX7_first_27 rfl rfl (by decide) rfl ?_
    refine f_goto (tgt := 4) dX7_first_30 (by decide) ?_
    refine f_ls [2, 3, 1, 0] rfl ?_
    exact H
set_option maxRecDepth 20000 in
set_option maxHeartbeats 2000000 in
theorem b_X7_columns {G : fG} {l : Launch} {K : Int32 → Option zS → fW → Prop} {r0 : Nat} {o : Option zS} {ω : fW} {kb : Nat}
    (H : (∃ (fs1 : List Value) (w2 : Nat), ω r0 = some (.inr (11, fs1)) ∧ fs1[2]? = some (.ref w2) ∧ (0 ≤ kb ∧ ∃ fs10 : List Value, ω w2 = some (.inr (3, fs10)) ∧ FC G l M_Jx4a65c_size_8abf5 0 [.ref w2] (o, ω) (fQi (fun v3 o4 ω5 => (0 ≤ kb ∧ ∃ fs9 : List Value, ω5 r0 = some (.inr (11, fs9)) ∧ FC G l M_X7_first 0 [.ref r0, .int v3] (o4, ω5) (fQi (fun v6 o7 ω8 => K v6 o7 ω8)))))))) :
    FC G l M_X7_columns kb [.ref r0] (o, ω) (fQi K) := by
  refine FC_of (by decide) (Nat.le_of_ble_eq_true rfl) ?_
  change FV _ _ _ _ _ 0 [(0, .ref r0)] [] _
  refine f_aload_n dX7_columns_0 rfl 0 rfl ?_
  refine f_aload_n dX7_columns_1 rfl 0 rfl ?_
  obtain ⟨fs1, w2, hfs1, gfs1, H⟩ := H
  refine gf_X7_19 rfl hfs1 gfs1 dX7_columns_2 ?_
  have hkfs10 := H.1
  obtain ⟨fs10, hfs10, H⟩ := H.2
  refine f_callFi (j1 := 0) (j2 := kb) (av := []) rfl hfs10 rfl rfl H i_Jx4a65c_size_8abf5 rfl (by decide +kernel) (by decide +kernel) n_Jx4a65c_size_8abf5 vi_Jx4a65c_size_8abf5 q_X7_116 (by decide) (f_kj hkfs10) (Nat.le_of_ble_eq_true rfl) dX7_columns_5 (fun v3 o4 ω5 H => ?_)
  have hkfs9 := H.1
  obtain ⟨fs9, hfs9, H⟩ := H.2
  refine f_callVi (C := RX7) (j1 := 0) (j2 := kb) (av := [.int v3]) rfl hfs9 rfl rfl H i_X7_first rfl n_X7_first v_X7_first q_X7_119 (by decide) (f_kj hkfs9) (Nat.le_of_ble_eq_true rfl) dX7_columns_10 (fun v6 o7 ω8 H => ?_)
  exact f_iret rfl dX7_columns_13 ⟨_, rfl, H⟩
abbrev L_X7_picture_13 (G : fG) (l : Launch) (K : Int32 → Option zS → fW → Prop) (r0 : Nat) (y1 : Int32) (y2 : Int32) (y3 : Int32) (y4 : Int32) (o : Option zS) (ω : fW) (kb : Nat) : Prop :=
  FV G l M_X7_picture kb (fQi K) 13 [(0, .ref r0), (1, .int y1), (2, .int y2), (3, .int y3), (4, .int y4)] [] (o, ω)
set_option maxRecDepth 20000 in
set_option maxHeartbeats 2000000 in
theorem b_X7_picture {G : fG} {l : Launch} {K : Int32 → Option zS → fW → Prop} {r0 : Nat} {x1 : Int32} {x2 : Int32} {x3 : Int32} {o : Option zS} {ω : fW} {kb : Nat}
    (H : (∃ (fs1 : List Value) (w2 : Nat), ω r0 = some (.inr (11, fs1)) ∧ fs1[3]? = some (.ref w2) ∧ (0 ≤ kb ∧ ∃ fs6 : List Value, ω w2 = some (.inr (3, fs6)) ∧ FC G l M_Jx4a65c_size_8abf5 0 [.ref w2] (o, ω) (fQi (fun v3 o4 ω5 => L_X7_picture_13 G l K r0 x1 x2 x3 (v3 - 1) o4 ω5 kb))))) :
    FC G l M_X7_picture kb [.ref r0, .int x1, .int x2, .int x3] (o, ω) (fQi K) := by
  refine FC_of (by decide) (Nat.le_of_ble_eq_true rfl) ?_
  change FV _ _ _ _ _ 0 [(0, .ref r0), (1, .int x1), (2, .int x2), (3, .int x3)] [] _
  refine f_aload_n dX7_picture_0 rfl 0 rfl ?_
  obtain ⟨fs1, w2, hfs1, gfs1, H⟩ := H
  refine gf_X7_23 rfl hfs1 gfs1 dX7_picture_1 ?_
  have hkfs6 := H.1
  obtain ⟨fs6, hfs6, H⟩ := H.2
  refine f_callFi (j1 := 0) (j2 := kb) (av := []) rfl hfs6 rfl rfl H i_Jx4a65c_size_8abf5 rfl (by decide +kernel) (by decide +kernel) n_Jx4a65c_size_8abf5 vi_Jx4a65c_size_8abf5 q_X7_116 (by decide) (f_kj hkfs6) (Nat.le_of_ble_eq_true rfl) dX7_picture_4 (fun v3 o4 ω5 H => ?_)
  refine f_iconst (v := 1) dX7_picture_9 (by decide) ?_
  refine f_isub dX7_picture_10 ?_
  refine f_istore (ls' := [(4, .int (v3 - 1)), (0, .ref r0), (1, .int x1), (2, .int x2), (3, .int x3)]) dX7_picture_11 (by decide) rfl ?_
  refine f_ls [1, 2, 3, 4, 0] rfl ?_
  exact H
set_option maxRecDepth 20000 in
set_option maxHeartbeats 2000000 in
theorem b_X7_picture_13 {G : fG} {l : Launch} {K : Int32 → Option zS → fW → Prop} {r0 : Nat} {y1 : Int32} {y2 : Int32} {y3 : Int32} {y4 : Int32} {o : Option zS} {ω : fW} {kb : Nat}
    (H : ((y4 < 0 → K 0 o ω) ∧ (¬ y4 < 0 → (∃ (fs2 : List Value) (w3 : Nat), ω r0 = some (.inr (11, fs2)) ∧ fs2[3]? = some (.ref w3) ∧ (0 ≤ kb ∧ ∃ fs29 : List Value, ω w3 = some (.inr (3, fs29)) ∧ FC G l M_Jx4a65c_get_915e3 0 [.ref w3, .int y4] (o, ω) (fQr (fun v4 o5 ω6 => (∃ y7 : vp_A, ω6 v4 = some (.inl (G.1.2.1 0, y7)) ∧ (∃ (n8 : Nat) (f9 : Nat → Int32), ω6 v4 = some (.inl (G.1.2.1 0, n8, .inl f9)) ∧ vp_in 0 n8 ∧ ((¬ (f9 (Int32.toNatClampNeg 0)) = y1 → L_X7_picture_13 G l K r0 y1 y2 y3 (y4 + (-1)) o5 ω6 kb) ∧ ((f9 (Int32.toNatClampNeg 0)) = y1 → (∃ (n11 : Nat) (f12 : Nat → Int32), ω6 v4 = some (.inl (G.1.2.1 0, n11, .inl f12)) ∧ vp_in 1 n11 ∧ ((y2 < (f12 (Int32.toNatClampNeg 1)) → L_X7_picture_13 G l K r0 y1 y2 y3 (y4 + (-1)) o5 ω6 kb) ∧ (¬ y2 < (f12 (Int32.toNatClampNeg 1)) → (∃ (n14 : Nat) (f15 : Nat → Int32), ω6 v4 = some (.inl (G.1.2.1 0, n14, .inl f15)) ∧ vp_in 1 n14 ∧ (∃ (n16 : Nat) (f17 : Nat → Int32), ω6 v4 = some (.inl (G.1.2.1 0, n16, .inl f17)) ∧ vp_in 3 n16 ∧ ((((f15 (Int32.toNatClampNeg 1)) + (f17 (Int32.toNatClampNeg 3))) ≤ y2 → L_X7_picture_13 G l K r0 y1 y2 y3 (y4 + (-1)) o5 ω6 kb) ∧ (¬ ((f15 (Int32.toNatClampNeg 1)) + (f17 (Int32.toNatClampNeg 3))) ≤ y2 → (∃ (n19 : Nat) (f20 : Nat → Int32), ω6 v4 = some (.inl (G.1.2.1 0, n19, .inl f20)) ∧ vp_in 2 n19 ∧ ((y3 < (f20 (Int32.toNatClampNeg 2)) → L_X7_picture_13 G l K r0 y1 y2 y3 (y4 + (-1)) o5 ω6 kb) ∧ (¬ y3 < (f20 (Int32.toNatClampNeg 2)) → (∃ (n22 : Nat) (f23 : Nat → Int32), ω6 v4 = some (.inl (G.1.2.1 0, n22, .inl f23)) ∧ vp_in 2 n22 ∧ (∃ (n24 : Nat) (f25 : Nat → Int32), ω6 v4 = some (.inl (G.1.2.1 0, n24, .inl f25)) ∧ vp_in 4 n24 ∧ ((((f23 (Int32.toNatClampNeg 2)) + (f25 (Int32.toNatClampNeg 4))) ≤ y3 → L_X7_picture_13 G l K r0 y1 y2 y3 (y4 + (-1)) o5 ω6 kb) ∧ (¬ ((f23 (Int32.toNatClampNeg 2)) + (f25 (Int32.toNatClampNeg 4))) ≤ y3 → (∃ (n27 : Nat) (f28 : Nat → Int32), ω6 v4 = some (.inl (G.1.2.1 0, n27, .inl f28)) ∧ vp_in 5 n27 ∧ K (f28 (Int32.toNatClampNeg 5)) o5 ω6)))))))))))))))))))))))))) :
    L_X7_picture_13 G l K r0 y1 y2 y3 y4 o ω kb := by
  refine f_iload dX7_picture_13 4 rfl ?_
  refine f_if_lt (tgt := 95) dX7_picture_15 (by decide) (fun h1 => ?_) (fun h1 => ?_)
  · replace H := H.1 h1
    refine f_iconst (v := 0) dX7_picture_95 (by decide) ?_
    exact f_iret rfl dX7_picture_96 ⟨_, rfl, H⟩
  · replace H := H.2 h1
    refine f_aload_n dX7_picture_18 rfl 0 rfl ?_
    obtain ⟨fs2, w3, hfs2, gfs2, H⟩ := H
    refine gf_X7_23 rfl hfs2 gfs2 dX7_picture_19 ?_
    refine f_iload dX7_picture_22 4 rfl ?_
    have hkfs29 := H.1
    obtain ⟨fs29, hfs29, H⟩ := H.2
    refine f_callFr (j1 := 0) (j2 := kb) (av := [.int y4]) rfl hfs29 rfl rfl H i_Jx4a65c_get_915e3 rfl (by decide +kernel) (by decide +kernel) n_Jx4a65c_get_915e3 vi_Jx4a65c_get_915e3 q_X7_66 (by decide) (f_kj hkfs29) (Nat.le_of_ble_eq_true rfl) dX7_picture_24 (fun v4 o5 ω6 H => ?_)
    obtain ⟨y7, hy7, H⟩ := H
    refine f_cast0 cl_X7_70 hy7 dX7_picture_29 ?_
    refine f_astore (ls' := [(5, .ref v4), (0, .ref r0), (1, .int y1), (2, .int y2), (3, .int y3), (4, .int y4)]) dX7_picture_32 (by decide) rfl ?_
    refine f_aload dX7_picture_34 0 rfl ?_
    refine f_iconst (v := 0) dX7_picture_36 (by decide) ?_
    obtain ⟨n8, f9, hn8, gn8, H⟩ := H
    refine f_iald hn8 gn8 dX7_picture_37 ?_
    refine f_iload_n dX7_picture_38 rfl 2 rfl ?_
    refine f_icmp_ne (tgt := 89) dX7_picture_39 (by decide) (fun h10 => ?_) (fun h10 => ?_)
    · replace H := H.1 h10
      refine f_iinc (j := 5) (v := (y4 + (-1))) (ls' := [(4, .int (y4 + (-1))), (5, .ref v4), (0, .ref r0), (1, .int y1), (2, .int y2), (3, .int y3)]) dX7_picture_89 rfl rfl (by decide) rfl ?_
      refine f_goto (tgt := 13) dX7_picture_92 (by decide) ?_
      refine f_ls [2, 3, 4, 5, 0] rfl ?_
      exact H
    · replace H := H.2 h10
      refine f_iload_n dX7_picture_42 rfl 3 rfl ?_
      refine f_aload dX7_picture_43 0 rfl ?_
      refine f_iconst (v := 1) dX7_picture_45 (by decide) ?_
      obtain ⟨n11, f12, hn11, gn11, H⟩ := H
      refine f_iald hn11 gn11 dX7_picture_46 ?_
      refine f_icmp_lt (tgt := 89) dX7_picture_47 (by decide) (fun h13 => ?_) (fun h13 => ?_)
      · replace H := H.1 h13
        refine f_iinc (j := 5) (v := (y4 + (-1))) (ls' := [(4, .int (y4 + (-1))), (5, .ref v4), (0, .ref r0), (1, .int y1), (2, .int y2), (3, .int y3)]) dX7_picture_89 rfl rfl (by decide) rfl ?_
        refine f_goto (tgt := 13) dX7_picture_92 (by decide) ?_
        refine f_ls [2, 3, 4, 5, 0] rfl ?_
        exact H
      · replace H := H.2 h13
        refine f_iload_n dX7_picture_50 rfl 3 rfl ?_
        refine f_aload dX7_picture_51 0 rfl ?_
        refine f_iconst (v := 1) dX7_picture_53 (by decide) ?_
        obtain ⟨n14, f15, hn14, gn14, H⟩ := H
        refine f_iald hn14 gn14 dX7_picture_54 ?_
        refine f_aload dX7_picture_55 0 rfl ?_
        refine f_iconst (v := 3) dX7_picture_57 (by decide) ?_
        obtain ⟨n16, f17, hn16, gn16, H⟩ := H
        refine f_iald hn16 gn16 dX7_picture_58 ?_
        refine f_iadd dX7_picture_59 ?_
        refine f_icmp_ge (tgt := 89) dX7_picture_60 (by decide) (fun h18 => ?_) (fun h18 => ?_)
        · replace H := H.1 h18
          refine f_iinc (j := 5) (v := (y4 + (-1))) (ls' := [(4, .int (y4 + (-1))), (5, .ref v4), (0, .ref r0), (1, .int y1), (2, .int y2), (3, .int y3)]) dX7_picture_89 rfl rfl (by decide) rfl ?_
          refine f_goto (tgt := 13) dX7_picture_92 (by decide) ?_
          refine f_ls [2, 3, 4, 5, 0] rfl ?_
          exact H
        · replace H := H.2 h18
          refine f_iload_n dX7_picture_63 rfl 4 rfl ?_
          refine f_aload dX7_picture_64 0 rfl ?_
          refine f_iconst (v := 2) dX7_picture_66 (by decide) ?_
          obtain ⟨n19, f20, hn19, gn19, H⟩ := H
          refine f_iald hn19 gn19 dX7_picture_67 ?_
          refine f_icmp_lt (tgt := 89) dX7_picture_68 (by decide) (fun h21 => ?_) (fun h21 => ?_)
          · replace H := H.1 h21
            refine f_iinc (j := 5) (v := (y4 + (-1))) (ls' := [(4, .int (y4 + (-1))), (5, .ref v4), (0, .ref r0), (1, .int y1), (2, .int y2), (3, .int y3)]) dX7_picture_89 rfl rfl (by decide) rfl ?_
            refine f_goto (tgt := 13) dX7_picture_92 (by decide) ?_
            refine f_ls [2, 3, 4, 5, 0] rfl ?_
            exact H
          · replace H := H.2 h21
            refine f_iload_n dX7_picture_71 rfl 4 rfl ?_
            refine f_aload dX7_picture_72 0 rfl ?_
            refine f_iconst (v := 2) dX7_picture_74 (by decide) ?_
            obtain ⟨n22, f23, hn22, gn22, H⟩ := H
            refine f_iald hn22 gn22 dX7_picture_75 ?_
            refine f_aload dX7_picture_76 0 rfl ?_
            refine f_iconst (v := 4) dX7_picture_78 (by decide) ?_
            obtain ⟨n24, f25, hn24, gn24, H⟩ := H
            refine f_iald hn24 gn24 dX7_picture_79 ?_
            refine f_iadd dX7_picture_80 ?_
            refine f_icmp_ge (tgt := 89) dX7_picture_81 (by decide) (fun h26 => ?_) (fun h26 => ?_)
            · replace H := H.1 h26
              refine f_iinc (j := 5) (v := (y4 + (-1))) (ls' := [(4, .int (y4 + (-1))), (5, .ref v4), (0, .ref r0), (1, .int y1), (2, .int y2), (3, .int y3)]) dX7_picture_89 rfl rfl (by decide) rfl ?_
              refine f_goto (tgt := 13) dX7_picture_92 (by decide) ?_
              refine f_ls [2, 3, 4, 5, 0] rfl ?_
              exact H
            · replace H := H.2 h26
              refine f_aload dX7_picture_84 0 rfl ?_
              refine f_iconst (v := 5) dX7_picture_86 (by decide) ?_
              obtain ⟨n27, f28, hn27, gn27, H⟩ := H
              refine f_iald hn27 gn27 dX7_picture_87 ?_
              exact f_iret rfl dX7_picture_88 ⟨_, rfl, H⟩
set_option maxRecDepth 20000 in
set_option maxHeartbeats 2000000 in
theorem b_X7_seam {G : fG} {l : Launch} {K : Int32 → Option zS → fW → Prop} {r0 : Nat} {x1 : Int32} {o : Option zS} {ω : fW} {kb : Nat}
    (H : (∃ (fs1 : List Value) (w2 : Nat), ω r0 = some (.inr (11, fs1)) ∧ fs1[2]? = some (.ref w2) ∧ (0 ≤ kb ∧ ∃ fs25 : List Value, ω w2 = some (.inr (3, fs25)) ∧ FC G l M_Jx4a65c_size_8abf5 0 [.ref w2] (o, ω) (fQi (fun v3 o4 ω5 => ((v3 ≤ (x1 + 1) → K 0 o4 ω5) ∧ (¬ v3 ≤ (x1 + 1) → (∃ (fs7 : List Value) (w8 : Nat), ω5 r0 = some (.inr (11, fs7)) ∧ fs7[2]? = some (.ref w8) ∧ (0 ≤ kb ∧ ∃ fs24 : List Value, ω5 w8 = some (.inr (3, fs24)) ∧ FC G l M_Jx4a65c_get_915e3 0 [.ref w8, .int x1] (o4, ω5) (fQr (fun v9 o10 ω11 => (∃ y12 : vp_A, ω11 v9 = some (.inl (G.1.2.1 0, y12)) ∧ (∃ (n13 : Nat) (f14 : Nat → Int32), ω11 v9 = some (.inl (G.1.2.1 0, n13, .inl f14)) ∧ vp_in 1 n13 ∧ (∃ (fs15 : List Value) (w16 : Nat), ω11 r0 = some (.inr (11, fs15)) ∧ fs15[2]? = some (.ref w16) ∧ (0 ≤ kb ∧ ∃ fs23 : List Value, ω11 w16 = some (.inr (3, fs23)) ∧ FC G l M_Jx4a65c_get_915e3 0 [.ref w16, .int (x1 + 1)] (o10, ω11) (fQr (fun v17 o18 ω19 => (∃ y20 : vp_A, ω19 v17 = some (.inl (G.1.2.1 0, y20)) ∧ (∃ (n21 : Nat) (f22 : Nat → Int32), ω19 v17 = some (.inl (G.1.2.1 0, n21, .inl f22)) ∧ vp_in 1 n21 ∧ K ((f14 (Int32.toNatClampNeg 1)) - (f22 (Int32.toNatClampNeg 1))) o18 ω19))))))))))))))))))) :
    FC G l M_X7_seam kb [.ref r0, .int x1] (o, ω) (fQi K) := by
  refine FC_of (by decide) (Nat.le_of_ble_eq_true rfl) ?_
  change FV _ _ _ _ _ 0 [(0, .ref r0), (1, .int x1)] [] _
  refine f_iload_n dX7_seam_0 rfl 1 rfl ?_
  refine f_iconst (v := 1) dX7_seam_1 (by decide) ?_
  refine f_iadd dX7_seam_2 ?_
  refine f_aload_n dX7_seam_3 rfl 0 rfl ?_
  obtain ⟨fs1, w2, hfs1, gfs1, H⟩ := H
  refine gf_X7_19 rfl hfs1 gfs1 dX7_seam_4 ?_
  have hkfs25 := H.1
  obtain ⟨fs25, hfs25, H⟩ := H.2
  refine f_callFi (j1 := 0) (j2 := kb) (av := []) rfl hfs25 rfl rfl H i_Jx4a65c_size_8abf5 rfl (by decide +kernel) (by decide +kernel) n_Jx4a65c_size_8abf5 vi_Jx4a65c_size_8abf5 q_X7_116 (by decide) (f_kj hkfs25) (Nat.le_of_ble_eq_true rfl) dX7_seam_7 (fun v3 o4 ω5 H => ?_)
  refine f_icmp_ge (tgt := 51) dX7_seam_12 (by decide) (fun h6 => ?_) (fun h6 => ?_)
  · replace H := H.1 h6
    refine f_iconst (v := 0) dX7_seam_51 (by decide) ?_
    exact f_iret rfl dX7_seam_52 ⟨_, rfl, H⟩
  · replace H := H.2 h6
    refine f_aload_n dX7_seam_15 rfl 0 rfl ?_
    obtain ⟨fs7, w8, hfs7, gfs7, H⟩ := H
    refine gf_X7_19 rfl hfs7 gfs7 dX7_seam_16 ?_
    refine f_iload_n dX7_seam_19 rfl 1 rfl ?_
    have hkfs24 := H.1
    obtain ⟨fs24, hfs24, H⟩ := H.2
    refine f_callFr (j1 := 0) (j2 := kb) (av := [.int x1]) rfl hfs24 rfl rfl H i_Jx4a65c_get_915e3 rfl (by decide +kernel) (by decide +kernel) n_Jx4a65c_get_915e3 vi_Jx4a65c_get_915e3 q_X7_66 (by decide) (f_kj hkfs24) (Nat.le_of_ble_eq_true rfl) dX7_seam_20 (fun v9 o10 ω11 H => ?_)
    obtain ⟨y12, hy12, H⟩ := H
    refine f_cast0 cl_X7_70 hy12 dX7_seam_25 ?_
    refine f_iconst (v := 1) dX7_seam_28 (by decide) ?_
    obtain ⟨n13, f14, hn13, gn13, H⟩ := H
    refine f_iald hn13 gn13 dX7_seam_29 ?_
    refine f_aload_n dX7_seam_30 rfl 0 rfl ?_
    obtain ⟨fs15, w16, hfs15, gfs15, H⟩ := H
    refine gf_X7_19 rfl hfs15 gfs15 dX7_seam_31 ?_
    refine f_iload_n dX7_seam_34 rfl 1 rfl ?_
    refine f_iconst (v := 1) dX7_seam_35 (by decide) ?_
    refine f_iadd dX7_seam_36 ?_
    have hkfs23 := H.1
    obtain ⟨fs23, hfs23, H⟩ := H.2
    refine f_callFr (j1 := 0) (j2 := kb) (av := [.int (x1 + 1)]) rfl hfs23 rfl rfl H i_Jx4a65c_get_915e3 rfl (by decide +kernel) (by decide +kernel) n_Jx4a65c_get_915e3 vi_Jx4a65c_get_915e3 q_X7_66 (by decide) (f_kj hkfs23) (Nat.le_of_ble_eq_true rfl) dX7_seam_37 (fun v17 o18 ω19 H => ?_)
    obtain ⟨y20, hy20, H⟩ := H
    refine f_cast0 cl_X7_70 hy20 dX7_seam_42 ?_
    refine f_iconst (v := 1) dX7_seam_45 (by decide) ?_
    obtain ⟨n21, f22, hn21, gn21, H⟩ := H
    refine f_iald hn21 gn21 dX7_seam_46 ?_
    refine f_isub dX7_seam_47 ?_
    refine f_goto (tgt := 52) dX7_seam_48 (by decide) ?_
    exact f_iret rfl dX7_seam_52 ⟨_, rfl, H⟩
abbrev L_X7_unlike_9 (G : fG) (l : Launch) (K : Int32 → Option zS → fW → Prop) (r0 : Nat) (y1 : Int32) (y2 : Int32) (y3 : Int32) (y4 : Int32) (o : Option zS) (ω : fW) (kb : Nat) : Prop :=
  FV G l M_X7_unlike kb (fQi K) 9 [(0, .ref r0), (1, .int y1), (2, .int y2), (3, .int y3), (4, .int y4)] [] (o, ω)
abbrev L_X7_unlike_24 (G : fG) (l : Launch) (K : Int32 → Option zS → fW → Prop) (r0 : Nat) (y1 : Int32) (y2 : Int32) (y3 : Int32) (y4 : Int32) (y5 : Int32) (o : Option zS) (ω : fW) (kb : Nat) : Prop :=
  FV G l M_X7_unlike kb (fQi K) 24 [(0, .ref r0), (1, .int y1), (2, .int y2), (3, .int y3), (4, .int y4), (5, .int y5)] [] (o, ω)
set_option maxRecDepth 20000 in
set_option maxHeartbeats 2000000 in
theorem b_X7_unlike {G : fG} {l : Launch} {K : Int32 → Option zS → fW → Prop} {r0 : Nat} {x1 : Int32} {x2 : Int32} {o : Option zS} {ω : fW} {kb : Nat}
    (H : (0 ≤ kb ∧ ∃ fs4 : List Value, ω r0 = some (.inr (11, fs4)) ∧ FC G l M_X7_first 0 [.ref r0, .int x1] (o, ω) (fQi (fun v1 o2 ω3 => L_X7_unlike_9 G l K r0 x1 x2 0 v1 o2 ω3 kb)))) :
    FC G l M_X7_unlike kb [.ref r0, .int x1, .int x2] (o, ω) (fQi K) := by
  refine FC_of (by decide) (Nat.le_of_ble_eq_true rfl) ?_
  change FV _ _ _ _ _ 0 [(0, .ref r0), (1, .int x1), (2, .int x2)] [] _
  refine f_iconst (v := 0) dX7_unlike_0 (by decide) ?_
  refine f_istore_n (ls' := [(3, .int 0), (0, .ref r0), (1, .int x1), (2, .int x2)]) dX7_unlike_1 rfl (by decide) rfl ?_
  refine f_aload_n dX7_unlike_2 rfl 1 rfl ?_
  refine f_iload_n dX7_unlike_3 rfl 2 rfl ?_
  have hkfs4 := H.1
  obtain ⟨fs4, hfs4, H⟩ := H.2
  refine f_callVi (C := RX7) (j1 := 0) (j2 := kb) (av := [.int x1]) rfl hfs4 rfl rfl H i_X7_first rfl n_X7_first v_X7_first q_X7_119 (by decide) (f_kj hkfs4) (Nat.le_of_ble_eq_true rfl) dX7_unlike_4 (fun v1 o2 ω3 H => ?_)
  refine f_istore (ls' := [(4, .int v1), (3, .int 0), (0, .ref r0), (1, .int x1), (2, .int x2)]) dX7_unlike_7 (by decide) rfl ?_
  refine f_ls [2, 3, 4, 1, 0] rfl ?_
  exact H
set_option maxRecDepth 20000 in
set_option maxHeartbeats 2000000 in
theorem b_X7_unlike_9 {G : fG} {l : Launch} {K : Int32 → Option zS → fW → Prop} {r0 : Nat} {y1 : Int32} {y2 : Int32} {y3 : Int32} {y4 : Int32} {o : Option zS} {ω : fW} {kb : Nat}
    (H : (0 ≤ kb ∧ ∃ fs5 : List Value, ω r0 = some (.inr (11, fs5)) ∧ FC G l M_X7_first 0 [.ref r0, .int (y1 + 1)] (o, ω) (fQi (fun v1 o2 ω3 => ((v1 ≤ y4 → K y3 o2 ω3) ∧ (¬ v1 ≤ y4 → L_X7_unlike_24 G l K r0 y1 y2 y3 y4 0 o2 ω3 kb)))))) :
    L_X7_unlike_9 G l K r0 y1 y2 y3 y4 o ω kb := by
  refine f_iload dX7_unlike_9 4 rfl ?_
  refine f_aload_n dX7_unlike_11 rfl 0 rfl ?_
  refine f_iload_n dX7_unlike_12 rfl 1 rfl ?_
  refine f_iconst (v := 1) dX7_unlike_13 (by decide) ?_
  refine f_iadd dX7_unlike_14 ?_
  have hkfs5 := H.1
  obtain ⟨fs5, hfs5, H⟩ := H.2
  refine f_callVi (C := RX7) (j1 := 0) (j2 := kb) (av := [.int (y1 + 1)]) rfl hfs5 rfl rfl H i_X7_first rfl n_X7_first v_X7_first q_X7_119 (by decide) (f_kj hkfs5) (Nat.le_of_ble_eq_true rfl) dX7_unlike_15 (fun v1 o2 ω3 H => ?_)
  refine f_icmp_ge (tgt := 77) dX7_unlike_18 (by decide) (fun h4 => ?_) (fun h4 => ?_)
  · replace H := H.1 h4
    refine f_iload_n dX7_unlike_77 rfl 3 rfl ?_
    exact f_iret rfl dX7_unlike_78 ⟨_, rfl, H⟩
  · replace H := H.2 h4
    refine f_iconst (v := 0) dX7_unlike_21 (by decide) ?_
    refine f_istore (ls' := [(5, .int 0), (0, .ref r0), (1, .int y1), (2, .int y2), (3, .int y3), (4, .int y4)]) dX7_unlike_22 (by decide) rfl ?_
    refine f_ls [1, 2, 3, 4, 5, 0] rfl ?_
    exact H
set_option maxRecDepth 20000 in
set_option maxHeartbeats 2000000 in
theorem b_X7_unlike_24 {G : fG} {l : Launch} {K : Int32 → Option zS → fW → Prop} {r0 : Nat} {y1 : Int32} {y2 : Int32} {y3 : Int32} {y4 : Int32} {y5 : Int32} {o : Option zS} {ω : fW} {kb : Nat}
    (H : (∃ (fs1 : List Value) (w2 : Int32), ω r0 = some (.inr (11, fs1)) ∧ fs1[0]? = some (.int w2) ∧ ((w2 ≤ y5 → L_X7_unlike_9 G l K r0 y1 y2 y3 (y4 + 1) o ω kb) ∧ (¬ w2 ≤ y5 → (∃ (fs4 : List Value) (w5 : Nat), ω r0 = some (.inr (11, fs4)) ∧ fs4[4]? = some (.ref w5) ∧ (∃ (n6 : Nat) (f7 : Nat → Option Nat) (w8 : Nat), ω w5 = some (.inl (G.1.2.1 6, n6, .inr (.inr (.inr (.inr f7))))) ∧ vp_in y2 n6 ∧ f7 (Int32.toNatClampNeg y2) = some w8 ∧ (∃ (n9 : Nat) (f10 : Nat → Option Nat) (w11 : Nat), ω w8 = some (.inl (G.1.2.1 4, n9, .inr (.inr (.inr (.inr f10))))) ∧ vp_in y4 n9 ∧ f10 (Int32.toNatClampNeg y4) = some w11 ∧ (∃ (n12 : Nat) (f13 : Nat → Int32), ω w11 = some (.inl (G.1.2.1 0, n12, .inl f13)) ∧ vp_in y5 n12 ∧ (0 ≤ kb ∧ ∃ fs18 : List Value, ω r0 = some (.inr (11, fs18)) ∧ FC G l M_X7_picture 0 [.ref r0, .int y2, .int y4, .int y5] (o, ω) (fQi (fun v14 o15 ω16 => ((¬ (f13 (Int32.toNatClampNeg y5)) = v14 → L_X7_unlike_24 G l K r0 y1 y2 (y3 + 1) y4 (y5 + 1) o15 ω16 kb) ∧ ((f13 (Int32.toNatClampNeg y5)) = v14 → L_X7_unlike_24 G l K r0 y1 y2 (y3 + 0) y4 (y5 + 1) o15 ω16 kb))))))))))))) :
    L_X7_unlike_24 G l K r0 y1 y2 y3 y4 y5 o ω kb := by
  refine f_iload dX7_unlike_24 5 rfl ?_
  refine f_aload_n dX7_unlike_26 rfl 0 rfl ?_
  obtain ⟨fs1, w2, hfs1, gfs1, H⟩ := H
  refine gf_X7_7 rfl hfs1 gfs1 dX7_unlike_27 ?_
  refine f_icmp_ge (tgt := 71) dX7_unlike_30 (by decide) (fun h3 => ?_) (fun h3 => ?_)
  · replace H := H.1 h3
    refine f_iinc (j := 4) (v := (y4 + 1)) (ls' := [(4, .int (y4 + 1)), (0, .ref r0), (1, .int y1), (2, .int y2), (3, .int y3), (5, .int y5)]) dX7_unlike_71 rfl rfl (by decide) rfl ?_
    refine f_goto (tgt := 9) dX7_unlike_74 (by decide) ?_
    refine f_ls [1, 2, 3, 4, 0] rfl ?_
    exact H
  · replace H := H.2 h3
    refine f_iload_n dX7_unlike_33 rfl 3 rfl ?_
    refine f_aload_n dX7_unlike_34 rfl 0 rfl ?_
    obtain ⟨fs4, w5, hfs4, gfs4, H⟩ := H
    refine gf_X7_28 rfl hfs4 gfs4 dX7_unlike_35 ?_
    refine f_iload_n dX7_unlike_38 rfl 2 rfl ?_
    obtain ⟨n6, f7, w8, hn6, gn6, en6, H⟩ := H
    refine f_aald6 hn6 gn6 en6 dX7_unlike_39 ?_
    refine f_iload dX7_unlike_40 4 rfl ?_
    obtain ⟨n9, f10, w11, hn9, gn9, en9, H⟩ := H
    refine f_aald4 hn9 gn9 en9 dX7_unlike_42 ?_
    refine f_iload dX7_unlike_43 5 rfl ?_
    obtain ⟨n12, f13, hn12, gn12, H⟩ := H
    refine f_iald hn12 gn12 dX7_unlike_45 ?_
    refine f_aload_n dX7_unlike_46 rfl 0 rfl ?_
    refine f_iload_n dX7_unlike_47 rfl 2 rfl ?_
    refine f_iload dX7_unlike_48 4 rfl ?_
    refine f_iload dX7_unlike_50 5 rfl ?_
    have hkfs18 := H.1
    obtain ⟨fs18, hfs18, H⟩ := H.2
    refine f_callVi (C := RX7) (j1 := 0) (j2 := kb) (av := [.int y2, .int y4, .int y5]) rfl hfs18 rfl rfl H i_X7_picture rfl n_X7_picture v_X7_picture q_X7_91 (by decide) (f_kj hkfs18) (Nat.le_of_ble_eq_true rfl) dX7_unlike_52 (fun v14 o15 ω16 H => ?_)
    refine f_icmp_ne (tgt := 62) dX7_unlike_55 (by decide) (fun h17 => ?_) (fun h17 => ?_)
    · replace H := H.1 h17
      refine f_iconst (v := 1) dX7_unlike_62 (by decide) ?_
      refine f_iadd dX7_unlike_63 ?_
      refine f_istore_n (ls' := [(3, .int (y3 + 1)), (0, .ref r0), (1, .int y1), (2, .int y2), (4, .int y4), (5, .int y5)]) dX7_unlike_64 rfl (by decide) rfl ?_
      refine f_iinc (j := 5) (v := (y5 + 1)) (ls' := [(5, .int (y5 + 1)), (3, .int (y3 + 1)), (0, .ref r0), (1, .int y1), (2, .int y2), (4, .int y4)]) dX7_unlike_65 rfl rfl (by decide) rfl ?_
      refine f_goto (tgt := 24) dX7_unlike_68 (by decide) ?_
      refine f_ls [2, 3, 4, 1, 5, 0] rfl ?_
      exact H
    · replace H := H.2 h17
      refine f_iconst (v := 0) dX7_unlike_58 (by decide) ?_
      refine f_goto (tgt := 63) dX7_unlike_59 (by decide) ?_
      refine f_iadd dX7_unlike_63 ?_
      refine f_istore_n (ls' := [(3, .int (y3 + 0)), (0, .ref r0), (1, .int y1), (2, .int y2), (4, .int y4), (5, .int y5)]) dX7_unlike_64 rfl (by decide) rfl ?_
      refine f_iinc (j := 5) (v := (y5 + 1)) (ls' := [(5, .int (y5 + 1)), (3, .int (y3 + 0)), (0, .ref r0), (1, .int y1), (2, .int y2), (4, .int y4)]) dX7_unlike_65 rfl rfl (by decide) rfl ?_
      refine f_goto (tgt := 24) dX7_unlike_68 (by decide) ?_
      refine f_ls [2, 3, 4, 1, 5, 0] rfl ?_
      exact H
abbrev L_X7_pull_12 (G : fG) (l : Launch) (K : Int32 → Option zS → fW → Prop) (y1 : Int32) (y2 : Int32) (y3 : Nat) (o : Option zS) (ω : fW) (kb : Nat) : Prop :=
  FV G l M_X7_pull kb (fQi K) 12 [(1, .int y1), (2, .int y2), (3, .ref y3)] [] (o, ω)
set_option maxRecDepth 20000 in
set_option maxHeartbeats 2000000 in
theorem b_X7_pull {G : fG} {l : Launch} {K : Int32 → Option zS → fW → Prop} {r0 : Nat} {x1 : Int32} {o : Option zS} {ω : fW} {kb : Nat}
    (H : (∃ (fs1 : List Value) (w2 : Nat), ω r0 = some (.inr (11, fs1)) ∧ fs1[2]? = some (.ref w2) ∧ (1 ≤ kb ∧ ∃ fs6 : List Value, ω w2 = some (.inr (3, fs6)) ∧ FC G l M_Jx4a65c_iterator_32c93 1 [.ref w2] (o, ω) (fQr (fun v3 o4 ω5 => L_X7_pull_12 G l K x1 0 v3 o4 ω5 (kb - 1)))))) :
    FC G l M_X7_pull kb [.ref r0, .int x1] (o, ω) (fQi K) := by
  refine FC_of (by decide) (Nat.le_of_ble_eq_true rfl) ?_
  change FV _ _ _ _ _ 0 [(0, .ref r0), (1, .int x1)] [] _
  refine f_iconst (v := 0) dX7_pull_0 (by decide) ?_
  refine f_istore_n (ls' := [(2, .int 0), (0, .ref r0), (1, .int x1)]) dX7_pull_1 rfl (by decide) rfl ?_
  refine f_aload_n dX7_pull_2 rfl 1 rfl ?_
  obtain ⟨fs1, w2, hfs1, gfs1, H⟩ := H
  refine gf_X7_19 rfl hfs1 gfs1 dX7_pull_3 ?_
  have hkfs6 := H.1
  obtain ⟨fs6, hfs6, H⟩ := H.2
  refine f_callFr (j1 := 1) (j2 := (kb - 1)) (av := []) rfl hfs6 rfl rfl H i_Jx4a65c_iterator_32c93 rfl (by decide +kernel) (by decide +kernel) n_Jx4a65c_iterator_32c93 vi_Jx4a65c_iterator_32c93 q_X7_99 (by decide) (f_kj hkfs6) (Nat.le_of_ble_eq_true rfl) dX7_pull_6 (fun v3 o4 ω5 H => ?_)
  refine f_astore_n (ls' := [(3, .ref v3), (2, .int 0), (0, .ref r0), (1, .int x1)]) dX7_pull_11 rfl (by decide) rfl ?_
  refine f_ls [3, 1, 0] rfl ?_
  exact H
set_option maxRecDepth 20000 in
set_option maxHeartbeats 2000000 in
theorem b_X7_pull_12 {G : fG} {l : Launch} {K : Int32 → Option zS → fW → Prop} {y1 : Int32} {y2 : Int32} {y3 : Nat} {o : Option zS} {ω : fW} {kb : Nat}
    (H : (0 ≤ kb ∧ ∃ fs27 : List Value, ω y3 = some (.inr (2, fs27)) ∧ FC G l M_Jx35411_hasNext_aae02 0 [.ref y3] (o, ω) (fQi (fun v1 o2 ω3 => ((v1 = 0 → K y2 o2 ω3) ∧ (¬ v1 = 0 → (0 ≤ kb ∧ ∃ fs26 : List Value, ω3 y3 = some (.inr (2, fs26)) ∧ FC G l M_Jx35411_next_0502b 0 [.ref y3] (o2, ω3) (fQr (fun v5 o6 ω7 => (∃ y8 : vp_A, ω7 v5 = some (.inl (G.1.2.1 0, y8)) ∧ (∃ (n9 : Nat) (f10 : Nat → Int32), ω7 v5 = some (.inl (G.1.2.1 0, n9, .inl f10)) ∧ vp_in 1 n9 ∧ (∃ (n11 : Nat) (f12 : Nat → Int32), ω7 v5 = some (.inl (G.1.2.1 0, n11, .inl f12)) ∧ vp_in 2 n11 ∧ ((¬ (f12 (Int32.toNatClampNeg 2)) = 1 → (∃ (n14 : Nat) (f15 : Nat → Int32), ω7 v5 = some (.inl (G.1.2.1 0, n14, .inl f15)) ∧ vp_in 1 n14 ∧ (∀ ω16 : fW, ω16 = fup ω7 v5 (.inl (G.1.2.1 0, n14, .inl (upd f15 (Int32.toNatClampNeg 1) (zmax (-4) (zmin 4 ((f10 (Int32.toNatClampNeg 1)) + y1)))))) → (∃ (n17 : Nat) (f18 : Nat → Int32), ω16 v5 = some (.inl (G.1.2.1 0, n17, .inl f18)) ∧ vp_in 1 n17 ∧ ((¬ (f18 (Int32.toNatClampNeg 1)) = (f10 (Int32.toNatClampNeg 1)) → L_X7_pull_12 G l K y1 (y2 + 1) y3 o6 ω16 kb) ∧ ((f18 (Int32.toNatClampNeg 1)) = (f10 (Int32.toNatClampNeg 1)) → L_X7_pull_12 G l K y1 (y2 + 0) y3 o6 ω16 kb)))))) ∧ ((f12 (Int32.toNatClampNeg 2)) = 1 → (∃ (n20 : Nat) (f21 : Nat → Int32), ω7 v5 = some (.inl (G.1.2.1 0, n20, .inl f21)) ∧ vp_in 1 n20 ∧ (∀ ω22 : fW, ω22 = fup ω7 v5 (.inl (G.1.2.1 0, n20, .inl (upd f21 (Int32.toNatClampNeg 1) (f10 (Int32.toNatClampNeg 1))))) → (∃ (n23 : Nat) (f24 : Nat → Int32), ω22 v5 = some (.inl (G.1.2.1 0, n23, .inl f24)) ∧ vp_in 1 n23 ∧ ((¬ (f24 (Int32.toNatClampNeg 1)) = (f10 (Int32.toNatClampNeg 1)) → L_X7_pull_12 G l K y1 (y2 + 1) y3 o6 ω22 kb) ∧ ((f24 (Int32.toNatClampNeg 1)) = (f10 (Int32.toNatClampNeg 1)) → L_X7_pull_12 G l K y1 (y2 + 0) y3 o6 ω22 kb))))))))))))))))))) :
    L_X7_pull_12 G l K y1 y2 y3 o ω kb := by
  refine f_aload_n dX7_pull_12 rfl 2 rfl ?_
  have hkfs27 := H.1
  obtain ⟨fs27, hfs27, H⟩ := H.2
  refine f_callFi (j1 := 0) (j2 := kb) (av := []) rfl hfs27 rfl rfl H i_Jx35411_hasNext_aae02 rfl (by decide +kernel) (by decide +kernel) n_Jx35411_hasNext_aae02 vi_Jx35411_hasNext_aae02 q_X7_103 (by decide) (f_kj hkfs27) (Nat.le_of_ble_eq_true rfl) dX7_pull_13 (fun v1 o2 ω3 H => ?_)
  refine f_if_eq (tgt := 88) dX7_pull_18 (by decide) (fun h4 => ?_) (fun h4 => ?_)
  · replace H := H.1 h4
    refine f_iload_n dX7_pull_88 rfl 1 rfl ?_
    exact f_iret rfl dX7_pull_89 ⟨_, rfl, H⟩
  · replace H := H.2 h4
    refine f_aload_n dX7_pull_21 rfl 2 rfl ?_
    have hkfs26 := H.1
    obtain ⟨fs26, hfs26, H⟩ := H.2
    refine f_callFr (j1 := 0) (j2 := kb) (av := []) rfl hfs26 rfl rfl H i_Jx35411_next_0502b rfl (by decide +kernel) (by decide +kernel) n_Jx35411_next_0502b vi_Jx35411_next_0502b q_X7_109 (by decide) (f_kj hkfs26) (Nat.le_of_ble_eq_true rfl) dX7_pull_22 (fun v5 o6 ω7 H => ?_)
    obtain ⟨y8, hy8, H⟩ := H
    refine f_cast0 cl_X7_70 hy8 dX7_pull_27 ?_
    refine f_astore (ls' := [(4, .ref v5), (1, .int y1), (2, .int y2), (3, .ref y3)]) dX7_pull_30 (by decide) rfl ?_
    refine f_aload dX7_pull_32 0 rfl ?_
    refine f_iconst (v := 1) dX7_pull_34 (by decide) ?_
    obtain ⟨n9, f10, hn9, gn9, H⟩ := H
    refine f_iald hn9 gn9 dX7_pull_35 ?_
    refine f_istore (ls' := [(5, .int (f10 (Int32.toNatClampNeg 1))), (4, .ref v5), (1, .int y1), (2, .int y2), (3, .ref y3)]) dX7_pull_36 (by decide) rfl ?_
    refine f_aload dX7_pull_38 1 rfl ?_
    refine f_iconst (v := 1) dX7_pull_40 (by decide) ?_
    refine f_aload dX7_pull_41 1 rfl ?_
    refine f_iconst (v := 2) dX7_pull_43 (by decide) ?_
    obtain ⟨n11, f12, hn11, gn11, H⟩ := H
    refine f_iald hn11 gn11 dX7_pull_44 ?_
    refine f_iconst (v := 1) dX7_pull_45 (by decide) ?_
    refine f_icmp_ne (tgt := 54) dX7_pull_46 (by decide) (fun h13 => ?_) (fun h13 => ?_)
    · replace H := H.1 h13
      refine f_bipush (v := (-4)) dX7_pull_54 (by decide) ?_
      refine f_iconst (v := 4) dX7_pull_56 (by decide) ?_
      refine f_iload dX7_pull_57 0 rfl ?_
      refine f_iload_n dX7_pull_59 rfl 2 rfl ?_
      refine f_iadd dX7_pull_60 ?_
      refine f_mmin qm_X7_123 ms_min mi_math mc_min (by decide) (Nat.le_of_ble_eq_true rfl) dX7_pull_61 ?_
      change FV _ _ _ _ _ _ _ (.int (zmin 4 ((f10 (Int32.toNatClampNeg 1)) + y1)) :: _) _
      refine f_mmax qm_X7_129 ms_max mi_math mc_max (by decide) (Nat.le_of_ble_eq_true rfl) dX7_pull_64 ?_
      change FV _ _ _ _ _ _ _ (.int (zmax (-4) (zmin 4 ((f10 (Int32.toNatClampNeg 1)) + y1))) :: _) _
      obtain ⟨n14, f15, hn14, gn14, H⟩ := H
      refine f_iast hn14 gn14 dX7_pull_67 ?_
      replace H := H _ rfl
      generalize fup ω7 v5 (.inl (G.1.2.1 0, n14, .inl (upd f15 (Int32.toNatClampNeg 1) (zmax (-4) (zmin 4 ((f10 (Int32.toNatClampNeg 1)) + y1)))))) = ω16 at H ⊢
      refine f_iload_n dX7_pull_68 rfl 3 rfl ?_
      refine f_aload dX7_pull_69 1 rfl ?_
      refine f_iconst (v := 1) dX7_pull_71 (by decide) ?_
      obtain ⟨n17, f18, hn17, gn17, H⟩ := H
      refine f_iald hn17 gn17 dX7_pull_72 ?_
      refine f_iload dX7_pull_73 0 rfl ?_
      refine f_icmp_ne (tgt := 82) dX7_pull_75 (by decide) (fun h19 => ?_) (fun h19 => ?_)
      · replace H := H.1 h19
        refine f_iconst (v := 1) dX7_pull_82 (by decide) ?_
        refine f_iadd dX7_pull_83 ?_
        refine f_istore_n (ls' := [(2, .int (y2 + 1)), (5, .int (f10 (Int32.toNatClampNeg 1))), (4, .ref v5), (1, .int y1), (3, .ref y3)]) dX7_pull_84 rfl (by decide) rfl ?_
        refine f_goto (tgt := 12) dX7_pull_85 (by decide) ?_
        refine f_ls [3, 0, 4] rfl ?_
        exact H
      · replace H := H.2 h19
        refine f_iconst (v := 0) dX7_pull_78 (by decide) ?_
        refine f_goto (tgt := 83) dX7_pull_79 (by decide) ?_
        refine f_iadd dX7_pull_83 ?_
        refine f_istore_n (ls' := [(2, .int (y2 + 0)), (5, .int (f10 (Int32.toNatClampNeg 1))), (4, .ref v5), (1, .int y1), (3, .ref y3)]) dX7_pull_84 rfl (by decide) rfl ?_
        refine f_goto (tgt := 12) dX7_pull_85 (by decide) ?_
        refine f_ls [3, 0, 4] rfl ?_
        exact H
    · replace H := H.2 h13
      refine f_iload dX7_pull_49 0 rfl ?_
      refine f_goto (tgt := 67) dX7_pull_51 (by decide) ?_
      obtain ⟨n20, f21, hn20, gn20, H⟩ := H
      refine f_iast hn20 gn20 dX7_pull_67 ?_
      replace H := H _ rfl
      generalize fup ω7 v5 (.inl (G.1.2.1 0, n20, .inl (upd f21 (Int32.toNatClampNeg 1) (f10 (Int32.toNatClampNeg 1))))) = ω22 at H ⊢
      refine f_iload_n dX7_pull_68 rfl 3 rfl ?_
      refine f_aload dX7_pull_69 1 rfl ?_
      refine f_iconst (v := 1) dX7_pull_71 (by decide) ?_
      obtain ⟨n23, f24, hn23, gn23, H⟩ := H
      refine f_iald hn23 gn23 dX7_pull_72 ?_
      refine f_iload dX7_pull_73 0 rfl ?_
      refine f_icmp_ne (tgt := 82) dX7_pull_75 (by decide) (fun h25 => ?_) (fun h25 => ?_)
      · replace H := H.1 h25
        refine f_iconst (v := 1) dX7_pull_82 (by decide) ?_
        refine f_iadd dX7_pull_83 ?_
        refine f_istore_n (ls' := [(2, .int (y2 + 1)), (5, .int (f10 (Int32.toNatClampNeg 1))), (4, .ref v5), (1, .int y1), (3, .ref y3)]) dX7_pull_84 rfl (by decide) rfl ?_
        refine f_goto (tgt := 12) dX7_pull_85 (by decide) ?_
        refine f_ls [3, 0, 4] rfl ?_
        exact H
      · replace H := H.2 h25
        refine f_iconst (v := 0) dX7_pull_78 (by decide) ?_
        refine f_goto (tgt := 83) dX7_pull_79 (by decide) ?_
        refine f_iadd dX7_pull_83 ?_
        refine f_istore_n (ls' := [(2, .int (y2 + 0)), (5, .int (f10 (Int32.toNatClampNeg 1))), (4, .ref v5), (1, .int y1), (3, .ref y3)]) dX7_pull_84 rfl (by decide) rfl ?_
        refine f_goto (tgt := 12) dX7_pull_85 (by decide) ?_
        refine f_ls [3, 0, 4] rfl ?_
        exact H
