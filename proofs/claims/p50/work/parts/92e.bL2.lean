abbrev L_L_alike_23 (G : fG) (l : Launch) (K : Int32 → Option zS → fW → Prop) (r1 : Nat) (y2 : Int32) (y3 : Int32) (y4 : Int32) (y5 : Nat) (y6 : Nat) (o : Option zS) (ω : fW) (kb : Nat) : Prop :=
  FV G l M_L_alike kb (fQi K) 23 [(0, .ref (zad G.1 0)), (1, .ref r1), (2, .int y2), (3, .int y3), (4, .int y4), (5, .ref y5), (6, .ref y6)] [] (o, ω)
abbrev L_L_alike_62 (G : fG) (l : Launch) (K : Int32 → Option zS → fW → Prop) (r1 : Nat) (y2 : Int32) (y3 : Int32) (y4 : Int32) (y5 : Nat) (y6 : Int32) (o : Option zS) (ω : fW) (kb : Nat) : Prop :=
  FV G l M_L_alike kb (fQi K) 62 [(0, .ref (zad G.1 0)), (1, .ref r1), (2, .int y2), (3, .int y3), (4, .int y4), (5, .ref y5), (6, .int y6)] [] (o, ω)
abbrev L_L_alike_114 (G : fG) (l : Launch) (K : Int32 → Option zS → fW → Prop) (r1 : Nat) (y2 : Int32) (y4 : Int32) (y5 : Nat) (y6 : Int32) (y7 : Nat) (z0 : Int32) (z1 : Int32) (o : Option zS) (ω : fW) (kb : Nat) : Prop :=
  FV G l M_L_alike kb (fQi K) 114 [(0, .ref (zad G.1 0)), (1, .ref r1), (2, .int y2), (4, .int y4), (5, .ref y5), (6, .int y6), (7, .ref y7)] [.int z0, .int z1] (o, ω)
abbrev L_L_alike_132 (G : fG) (l : Launch) (K : Int32 → Option zS → fW → Prop) (r1 : Nat) (y2 : Int32) (y3 : Int32) (y5 : Nat) (y6 : Int32) (y7 : Nat) (z0 : Int32) (z1 : Int32) (o : Option zS) (ω : fW) (kb : Nat) : Prop :=
  FV G l M_L_alike kb (fQi K) 132 [(0, .ref (zad G.1 0)), (1, .ref r1), (2, .int y2), (3, .int y3), (5, .ref y5), (6, .int y6), (7, .ref y7)] [.int z0, .int z1] (o, ω)
abbrev L_L_alike_210 (G : fG) (l : Launch) (K : Int32 → Option zS → fW → Prop) (r1 : Nat) (y2 : Int32) (y3 : Int32) (y4 : Int32) (y5 : Nat) (y6 : Int32) (y7 : Nat) (y8 : Nat) (y9 : Int32) (o : Option zS) (ω : fW) (kb : Nat) : Prop :=
  FV G l M_L_alike kb (fQi K) 210 [(0, .ref (zad G.1 0)), (1, .ref r1), (2, .int y2), (3, .int y3), (4, .int y4), (5, .ref y5), (6, .int y6), (7, .ref y7), (8, .ref y8), (9, .int y9)] [] (o, ω)
abbrev L_L_alike_261 (G : fG) (l : Launch) (K : Int32 → Option zS → fW → Prop) (r1 : Nat) (y2 : Int32) (y3 : Int32) (y4 : Int32) (y5 : Nat) (y6 : Int32) (y7 : Nat) (y9 : Int32) (o : Option zS) (ω : fW) (kb : Nat) : Prop :=
  FV G l M_L_alike kb (fQi K) 261 [(0, .ref (zad G.1 0)), (1, .ref r1), (2, .int y2), (3, .int y3), (4, .int y4), (5, .ref y5), (6, .int y6), (7, .ref y7), (9, .int y9)] [] (o, ω)
abbrev L_L_alike_293 (G : fG) (l : Launch) (K : Int32 → Option zS → fW → Prop) (r1 : Nat) (y2 : Int32) (y3 : Int32) (y4 : Int32) (y5 : Nat) (y6 : Int32) (y7 : Nat) (y9 : Int32) (y10 : Int32) (o : Option zS) (ω : fW) (kb : Nat) : Prop :=
  FV G l M_L_alike kb (fQi K) 293 [(0, .ref (zad G.1 0)), (1, .ref r1), (2, .int y2), (3, .int y3), (4, .int y4), (5, .ref y5), (6, .int y6), (7, .ref y7), (9, .int y9), (10, .int y10)] [] (o, ω)
abbrev L_L_alike_368 (G : fG) (l : Launch) (K : Int32 → Option zS → fW → Prop) (r1 : Nat) (o : Option zS) (ω : fW) (kb : Nat) : Prop :=
  FV G l M_L_alike kb (fQi K) 368 [] [] (o, ω)
abbrev L_L_alike_460 (G : fG) (l : Launch) (K : Int32 → Option zS → fW → Prop) (r1 : Nat) (y6 : Nat) (y7 : Int32) (o : Option zS) (ω : fW) (kb : Nat) : Prop :=
  FV G l M_L_alike kb (fQi K) 460 [(0, .ref (zad G.1 0)), (6, .ref y6), (7, .int y7)] [] (o, ω)
set_option maxRecDepth 20000 in
set_option maxHeartbeats 2000000 in
theorem b_L_alike {G : fG} {l : Launch} {K : Int32 → Option zS → fW → Prop} {r1 : Nat} {σ : zS} {ω : fW} {kb : Nat}
    (H : (1 ≤ kb ∧ ∀ (q1 : Nat) (ω2 : fW), ω q1 = none → ω2 = fup ω q1 (.inl (G.1.2.1 0, 2, .inl (fun _ => 0))) → (∃ (fs3 : List Value) (w4 : Nat), ω2 r1 = some (.inr (11, fs3)) ∧ fs3[3]? = some (.ref w4) ∧ (1 ≤ (kb - 1) ∧ ∃ fs8 : List Value, ω2 w4 = some (.inr (3, fs8)) ∧ FC G l M_Jx4a65c_iterator_32c93 1 [.ref w4] ((some σ), ω2) (fQr (fun v5 o6 ω7 => L_L_alike_23 G l K r1 0 0 0 q1 v5 o6 ω7 ((kb - 1) - 1))))))) :
    FC G l M_L_alike kb [.ref (zad G.1 0), .ref r1] ((some σ), ω) (fQi K) := by
  refine FC_of (by decide) (Nat.le_of_ble_eq_true rfl) ?_
  change FV _ _ _ _ _ 0 [(0, .ref (zad G.1 0)), (1, .ref r1)] [] _
  refine f_iconst (v := 0) dL_alike_0 (by decide) ?_
  refine f_istore_n (ls' := [(2, .int 0), (0, .ref (zad G.1 0)), (1, .ref r1)]) dL_alike_1 rfl (by decide) rfl ?_
  refine f_iconst (v := 0) dL_alike_2 (by decide) ?_
  refine f_istore_n (ls' := [(3, .int 0), (2, .int 0), (0, .ref (zad G.1 0)), (1, .ref r1)]) dL_alike_3 rfl (by decide) rfl ?_
  refine f_iconst (v := 0) dL_alike_4 (by decide) ?_
  refine f_istore (ls' := [(4, .int 0), (3, .int 0), (2, .int 0), (0, .ref (zad G.1 0)), (1, .ref r1)]) dL_alike_5 (by decide) rfl ?_
  refine f_iconst (v := 2) dL_alike_7 (by decide) ?_
  refine f_newa0 (N := 2) (u := 1) (by decide) (by decide) (Nat.le_of_ble_eq_true rfl) (f_ks H.1) ⟨by decide, by decide⟩ dL_alike_8 (fun q1 hq1 => ?_)
  replace H := H.2 q1 _ hq1 rfl
  generalize fup ω q1 (.inl (G.1.2.1 0, 2, .inl (fun _ => 0))) = ω2 at H ⊢
  refine f_astore (ls' := [(5, .ref q1), (4, .int 0), (3, .int 0), (2, .int 0), (0, .ref (zad G.1 0)), (1, .ref r1)]) dL_alike_10 (by decide) rfl ?_
  refine f_aload_n dL_alike_12 rfl 5 rfl ?_
  obtain ⟨fs3, w4, hfs3, gfs3, H⟩ := H
  refine gf_L_63 rfl hfs3 gfs3 dL_alike_13 ?_
  have hkfs8 := H.1
  obtain ⟨fs8, hfs8, H⟩ := H.2
  refine f_callFr (j1 := 1) (j2 := ((kb - 1) - 1)) (av := []) rfl hfs8 rfl rfl H i_Jx4a65c_iterator_32c93 rfl (by decide +kernel) (by decide +kernel) n_Jx4a65c_iterator_32c93 vi_Jx4a65c_iterator_32c93 q_L_69 (by decide) (f_kj hkfs8) (Nat.le_of_ble_eq_true rfl) dL_alike_16 (fun v5 o6 ω7 H => ?_)
  refine f_astore (ls' := [(6, .ref v5), (5, .ref q1), (4, .int 0), (3, .int 0), (2, .int 0), (0, .ref (zad G.1 0)), (1, .ref r1)]) dL_alike_21 (by decide) rfl ?_
  refine f_ls [5, 6, 4, 3, 2, 1, 0] rfl ?_
  exact H
set_option maxRecDepth 20000 in
set_option maxHeartbeats 2000000 in
theorem b_L_alike_23 {G : fG} {l : Launch} {K : Int32 → Option zS → fW → Prop} {r1 : Nat} {y2 : Int32} {y3 : Int32} {y4 : Int32} {y5 : Nat} {y6 : Nat} {o : Option zS} {ω : fW} {kb : Nat}
    (H : (0 ≤ kb ∧ ∃ fs17 : List Value, ω y6 = some (.inr (2, fs17)) ∧ FC G l M_Jx35411_hasNext_aae02 0 [.ref y6] (o, ω) (fQi (fun v1 o2 ω3 => ((v1 = 0 → L_L_alike_62 G l K r1 y2 y3 y4 y5 0 o2 ω3 kb) ∧ (¬ v1 = 0 → (0 ≤ kb ∧ ∃ fs16 : List Value, ω3 y6 = some (.inr (2, fs16)) ∧ FC G l M_Jx35411_next_0502b 0 [.ref y6] (o2, ω3) (fQr (fun v5 o6 ω7 => (∃ y8 : vp_A, ω7 v5 = some (.inl (G.1.2.1 0, y8)) ∧ (∃ (n9 : Nat) (f10 : Nat → Int32), ω7 v5 = some (.inl (G.1.2.1 0, n9, .inl f10)) ∧ vp_in 0 n9 ∧ (∃ (n11 : Nat) (f12 : Nat → Int32), ω7 y5 = some (.inl (G.1.2.1 0, n11, .inl f12)) ∧ vp_in (f10 (Int32.toNatClampNeg 0)) n11 ∧ (∃ (n13 : Nat) (f14 : Nat → Int32), ω7 y5 = some (.inl (G.1.2.1 0, n13, .inl f14)) ∧ vp_in (f10 (Int32.toNatClampNeg 0)) n13 ∧ (∀ ω15 : fW, ω15 = fup ω7 y5 (.inl (G.1.2.1 0, n13, .inl (upd f14 (Int32.toNatClampNeg (f10 (Int32.toNatClampNeg 0))) ((f12 (Int32.toNatClampNeg (f10 (Int32.toNatClampNeg 0)))) + 1)))) → L_L_alike_23 G l K r1 y2 y3 y4 y5 y6 o6 ω15 kb)))))))))))))) :
    L_L_alike_23 G l K r1 y2 y3 y4 y5 y6 o ω kb := by
  refine f_aload dL_alike_23 6 rfl ?_
  have hkfs17 := H.1
  obtain ⟨fs17, hfs17, H⟩ := H.2
  refine f_callFi (j1 := 0) (j2 := kb) (av := []) rfl hfs17 rfl rfl H i_Jx35411_hasNext_aae02 rfl (by decide +kernel) (by decide +kernel) n_Jx35411_hasNext_aae02 vi_Jx35411_hasNext_aae02 q_L_75 (by decide) (f_kj hkfs17) (Nat.le_of_ble_eq_true rfl) dL_alike_25 (fun v1 o2 ω3 H => ?_)
  refine f_if_eq (tgt := 59) dL_alike_30 (by decide) (fun h4 => ?_) (fun h4 => ?_)
  · replace H := H.1 h4
    refine f_iconst (v := 0) dL_alike_59 (by decide) ?_
    refine f_istore (ls' := [(6, .int 0), (0, .ref (zad G.1 0)), (1, .ref r1), (2, .int y2), (3, .int y3), (4, .int y4), (5, .ref y5)]) dL_alike_60 (by decide) rfl ?_
    refine f_ls [1, 2, 3, 4, 5, 6, 0] rfl ?_
    exact H
  · replace H := H.2 h4
    refine f_aload dL_alike_33 6 rfl ?_
    have hkfs16 := H.1
    obtain ⟨fs16, hfs16, H⟩ := H.2
    refine f_callFr (j1 := 0) (j2 := kb) (av := []) rfl hfs16 rfl rfl H i_Jx35411_next_0502b rfl (by decide +kernel) (by decide +kernel) n_Jx35411_next_0502b vi_Jx35411_next_0502b q_L_80 (by decide) (f_kj hkfs16) (Nat.le_of_ble_eq_true rfl) dL_alike_35 (fun v5 o6 ω7 H => ?_)
    obtain ⟨y8, hy8, H⟩ := H
    refine f_cast0 cl_L_84 hy8 dL_alike_40 ?_
    refine f_astore (ls' := [(7, .ref v5), (0, .ref (zad G.1 0)), (1, .ref r1), (2, .int y2), (3, .int y3), (4, .int y4), (5, .ref y5), (6, .ref y6)]) dL_alike_43 (by decide) rfl ?_
    refine f_aload dL_alike_45 6 rfl ?_
    refine f_aload dL_alike_47 0 rfl ?_
    refine f_iconst (v := 0) dL_alike_49 (by decide) ?_
    obtain ⟨n9, f10, hn9, gn9, H⟩ := H
    refine f_iald hn9 gn9 dL_alike_50 ?_
    refine f_dup2_11 dL_alike_51 rfl rfl ?_
    obtain ⟨n11, f12, hn11, gn11, H⟩ := H
    refine f_iald hn11 gn11 dL_alike_52 ?_
    refine f_iconst (v := 1) dL_alike_53 (by decide) ?_
    refine f_iadd dL_alike_54 ?_
    obtain ⟨n13, f14, hn13, gn13, H⟩ := H
    refine f_iast hn13 gn13 dL_alike_55 ?_
    replace H := H _ rfl
    generalize fup ω7 y5 (.inl (G.1.2.1 0, n13, .inl (upd f14 (Int32.toNatClampNeg (f10 (Int32.toNatClampNeg 0))) ((f12 (Int32.toNatClampNeg (f10 (Int32.toNatClampNeg 0)))) + 1)))) = ω15 at H ⊢
    refine f_goto (tgt := 23) dL_alike_56 (by decide) ?_
    refine f_ls [1, 2, 3, 4, 5, 6, 7] rfl ?_
    exact H
set_option maxRecDepth 20000 in
set_option maxHeartbeats 2000000 in
theorem b_L_alike_62 {G : fG} {l : Launch} {K : Int32 → Option zS → fW → Prop} {r1 : Nat} {y2 : Int32} {y3 : Int32} {y4 : Int32} {y5 : Nat} {y6 : Int32} {o : Option zS} {ω : fW} {kb : Nat}
    (H : (∃ (fs1 : List Value) (w2 : Nat), ω r1 = some (.inr (11, fs1)) ∧ fs1[2]? = some (.ref w2) ∧ (0 ≤ kb ∧ ∃ fs68 : List Value, ω w2 = some (.inr (3, fs68)) ∧ FC G l M_Jx4a65c_size_8abf5 0 [.ref w2] (o, ω) (fQi (fun v3 o4 ω5 => ((v3 ≤ y6 → (1 ≤ kb ∧ ∀ (q7 : Nat) (ω8 : fW), ω5 q7 = none → ω8 = fup ω5 q7 (.inl (G.1.2.1 0, 9, .inl (fun _ => 0))) → (∃ (fs9 : List Value) (w10 : Nat), ω8 r1 = some (.inr (11, fs9)) ∧ fs9[2]? = some (.ref w10) ∧ (0 ≤ (kb - 1) ∧ ∃ fs53 : List Value, ω8 w10 = some (.inr (3, fs53)) ∧ FC G l M_Jx4a65c_size_8abf5 0 [.ref w10] (o4, ω8) (fQi (fun v11 o12 ω13 => (∃ (n14 : Nat) (f15 : Nat → Int32), ω13 q7 = some (.inl (G.1.2.1 0, n14, .inl f15)) ∧ vp_in 0 n14 ∧ (∀ ω16 : fW, ω16 = fup ω13 q7 (.inl (G.1.2.1 0, n14, .inl (upd f15 (Int32.toNatClampNeg 0) v11))) → (∃ (fs17 : List Value) (w18 : Int32), ω16 r1 = some (.inr (11, fs17)) ∧ fs17[0]? = some (.int w18) ∧ (∃ (n19 : Nat) (f20 : Nat → Int32), ω16 q7 = some (.inl (G.1.2.1 0, n19, .inl f20)) ∧ vp_in 1 n19 ∧ (∀ ω21 : fW, ω21 = fup ω16 q7 (.inl (G.1.2.1 0, n19, .inl (upd f20 (Int32.toNatClampNeg 1) w18))) → (0 ≤ (kb - 1) ∧ ∃ fs52 : List Value, ω21 r1 = some (.inr (11, fs52)) ∧ FC G l M_X7_columns 0 [.ref r1] (o12, ω21) (fQi (fun v22 o23 ω24 => (∃ (n25 : Nat) (f26 : Nat → Int32), ω24 q7 = some (.inl (G.1.2.1 0, n25, .inl f26)) ∧ vp_in 2 n25 ∧ (∀ ω27 : fW, ω27 = fup ω24 q7 (.inl (G.1.2.1 0, n25, .inl (upd f26 (Int32.toNatClampNeg 2) v22))) → (∃ (n28 : Nat) (f29 : Nat → Int32), ω27 y5 = some (.inl (G.1.2.1 0, n28, .inl f29)) ∧ vp_in 0 n28 ∧ (∃ (n30 : Nat) (f31 : Nat → Int32), ω27 q7 = some (.inl (G.1.2.1 0, n30, .inl f31)) ∧ vp_in 3 n30 ∧ (∀ ω32 : fW, ω32 = fup ω27 q7 (.inl (G.1.2.1 0, n30, .inl (upd f31 (Int32.toNatClampNeg 3) (f29 (Int32.toNatClampNeg 0))))) → (∃ (n33 : Nat) (f34 : Nat → Int32), ω32 y5 = some (.inl (G.1.2.1 0, n33, .inl f34)) ∧ vp_in 1 n33 ∧ (∃ (n35 : Nat) (f36 : Nat → Int32), ω32 q7 = some (.inl (G.1.2.1 0, n35, .inl f36)) ∧ vp_in 4 n35 ∧ (∀ ω37 : fW, ω37 = fup ω32 q7 (.inl (G.1.2.1 0, n35, .inl (upd f36 (Int32.toNatClampNeg 4) (f34 (Int32.toNatClampNeg 1))))) → (∃ (fs38 : List Value) (w39 : Int32), ω37 r1 = some (.inr (11, fs38)) ∧ fs38[1]? = some (.int w39) ∧ (∃ (n40 : Nat) (f41 : Nat → Int32), ω37 q7 = some (.inl (G.1.2.1 0, n40, .inl f41)) ∧ vp_in 5 n40 ∧ (∀ ω42 : fW, ω42 = fup ω37 q7 (.inl (G.1.2.1 0, n40, .inl (upd f41 (Int32.toNatClampNeg 5) w39))) → (∃ (n43 : Nat) (f44 : Nat → Int32), ω42 q7 = some (.inl (G.1.2.1 0, n43, .inl f44)) ∧ vp_in 6 n43 ∧ (∀ ω45 : fW, ω45 = fup ω42 q7 (.inl (G.1.2.1 0, n43, .inl (upd f44 (Int32.toNatClampNeg 6) y2))) → (∃ (n46 : Nat) (f47 : Nat → Int32), ω45 q7 = some (.inl (G.1.2.1 0, n46, .inl f47)) ∧ vp_in 7 n46 ∧ (∀ ω48 : fW, ω48 = fup ω45 q7 (.inl (G.1.2.1 0, n46, .inl (upd f47 (Int32.toNatClampNeg 7) y3))) → (∃ (n49 : Nat) (f50 : Nat → Int32), ω48 q7 = some (.inl (G.1.2.1 0, n49, .inl f50)) ∧ vp_in 8 n49 ∧ (∀ ω51 : fW, ω51 = fup ω48 q7 (.inl (G.1.2.1 0, n49, .inl (upd f50 (Int32.toNatClampNeg 8) y4))) → L_L_alike_460 G l K r1 q7 0 o23 ω51 (kb - 1)))))))))))))))))))))))))))))))) ∧ (¬ v3 ≤ y6 → (∃ (fs54 : List Value) (w55 : Nat), ω5 r1 = some (.inr (11, fs54)) ∧ fs54[2]? = some (.ref w55) ∧ (0 ≤ kb ∧ ∃ fs67 : List Value, ω5 w55 = some (.inr (3, fs67)) ∧ FC G l M_Jx4a65c_get_915e3 0 [.ref w55, .int y6] (o4, ω5) (fQr (fun v56 o57 ω58 => (∃ y59 : vp_A, ω58 v56 = some (.inl (G.1.2.1 0, y59)) ∧ (∃ (n60 : Nat) (f61 : Nat → Int32), ω58 v56 = some (.inl (G.1.2.1 0, n60, .inl f61)) ∧ vp_in 2 n60 ∧ (0 ≤ kb ∧ ∃ fs66 : List Value, ω58 r1 = some (.inr (11, fs66)) ∧ FC G l M_X7_seam 0 [.ref r1, .int y6] (o57, ω58) (fQi (fun v62 o63 ω64 => ((v62 ≤ 0 → L_L_alike_114 G l K r1 (y2 + (f61 (Int32.toNatClampNeg 2))) y4 y5 y6 v56 0 y3 o63 ω64 kb) ∧ (¬ v62 ≤ 0 → L_L_alike_114 G l K r1 (y2 + (f61 (Int32.toNatClampNeg 2))) y4 y5 y6 v56 1 y3 o63 ω64 kb)))))))))))))))))) :
    L_L_alike_62 G l K r1 y2 y3 y4 y5 y6 o ω kb := by
  refine f_iload dL_alike_62 6 rfl ?_
  refine f_aload_n dL_alike_64 rfl 1 rfl ?_
  obtain ⟨fs1, w2, hfs1, gfs1, H⟩ := H
  refine gf_L_86 rfl hfs1 gfs1 dL_alike_65 ?_
  have hkfs68 := H.1
  obtain ⟨fs68, hfs68, H⟩ := H.2
  refine f_callFi (j1 := 0) (j2 := kb) (av := []) rfl hfs68 rfl rfl H i_Jx4a65c_size_8abf5 rfl (by decide +kernel) (by decide +kernel) n_Jx4a65c_size_8abf5 vi_Jx4a65c_size_8abf5 q_L_89 (by decide) (f_kj hkfs68) (Nat.le_of_ble_eq_true rfl) dL_alike_68 (fun v3 o4 ω5 H => ?_)
  refine f_icmp_ge (tgt := 388) dL_alike_73 (by decide) (fun h6 => ?_) (fun h6 => ?_)
  · replace H := H.1 h6
    refine f_bipush (v := 9) dL_alike_388 (by decide) ?_
    refine f_newa0 (N := 9) (u := 1) (by decide) (by decide) (Nat.le_of_ble_eq_true rfl) (f_ks H.1) ⟨by decide, by decide⟩ dL_alike_390 (fun q7 hq7 => ?_)
    replace H := H.2 q7 _ hq7 rfl
    generalize fup ω5 q7 (.inl (G.1.2.1 0, 9, .inl (fun _ => 0))) = ω8 at H ⊢
    refine f_dup dL_alike_392 rfl ?_
    refine f_iconst (v := 0) dL_alike_393 (by decide) ?_
    refine f_aload_n dL_alike_394 rfl 1 rfl ?_
    obtain ⟨fs9, w10, hfs9, gfs9, H⟩ := H
    refine gf_L_86 rfl hfs9 gfs9 dL_alike_395 ?_
    have hkfs53 := H.1
    obtain ⟨fs53, hfs53, H⟩ := H.2
    refine f_callFi (j1 := 0) (j2 := (kb - 1)) (av := []) rfl hfs53 rfl rfl H i_Jx4a65c_size_8abf5 rfl (by decide +kernel) (by decide +kernel) n_Jx4a65c_size_8abf5 vi_Jx4a65c_size_8abf5 q_L_89 (by decide) (f_kj hkfs53) (Nat.le_of_ble_eq_true rfl) dL_alike_398 (fun v11 o12 ω13 H => ?_)
    obtain ⟨n14, f15, hn14, gn14, H⟩ := H
    refine f_iast hn14 gn14 dL_alike_403 ?_
    replace H := H _ rfl
    generalize fup ω13 q7 (.inl (G.1.2.1 0, n14, .inl (upd f15 (Int32.toNatClampNeg 0) v11))) = ω16 at H ⊢
    refine f_dup dL_alike_404 rfl ?_
    refine f_iconst (v := 1) dL_alike_405 (by decide) ?_
    refine f_aload_n dL_alike_406 rfl 1 rfl ?_
    obtain ⟨fs17, w18, hfs17, gfs17, H⟩ := H
    refine gf_L_113 rfl hfs17 gfs17 dL_alike_407 ?_
    obtain ⟨n19, f20, hn19, gn19, H⟩ := H
    refine f_iast hn19 gn19 dL_alike_410 ?_
    replace H := H _ rfl
    generalize fup ω16 q7 (.inl (G.1.2.1 0, n19, .inl (upd f20 (Int32.toNatClampNeg 1) w18))) = ω21 at H ⊢
    refine f_dup dL_alike_411 rfl ?_
    refine f_iconst (v := 2) dL_alike_412 (by decide) ?_
    refine f_aload_n dL_alike_413 rfl 1 rfl ?_
    have hkfs52 := H.1
    obtain ⟨fs52, hfs52, H⟩ := H.2
    refine f_callVi (C := RX7) (j1 := 0) (j2 := (kb - 1)) (av := []) rfl hfs52 rfl rfl H i_X7_columns rfl n_X7_columns v_X7_columns q_L_125 (by decide) (f_kj hkfs52) (Nat.le_of_ble_eq_true rfl) dL_alike_414 (fun v22 o23 ω24 H => ?_)
    obtain ⟨n25, f26, hn25, gn25, H⟩ := H
    refine f_iast hn25 gn25 dL_alike_417 ?_
    replace H := H _ rfl
    generalize fup ω24 q7 (.inl (G.1.2.1 0, n25, .inl (upd f26 (Int32.toNatClampNeg 2) v22))) = ω27 at H ⊢
    refine f_dup dL_alike_418 rfl ?_
    refine f_iconst (v := 3) dL_alike_419 (by decide) ?_
    refine f_aload dL_alike_420 5 rfl ?_
    refine f_iconst (v := 0) dL_alike_422 (by decide) ?_
    obtain ⟨n28, f29, hn28, gn28, H⟩ := H
    refine f_iald hn28 gn28 dL_alike_423 ?_
    obtain ⟨n30, f31, hn30, gn30, H⟩ := H
    refine f_iast hn30 gn30 dL_alike_424 ?_
    replace H := H _ rfl
    generalize fup ω27 q7 (.inl (G.1.2.1 0, n30, .inl (upd f31 (Int32.toNatClampNeg 3) (f29 (Int32.toNatClampNeg 0))))) = ω32 at H ⊢
    refine f_dup dL_alike_425 rfl ?_
    refine f_iconst (v := 4) dL_alike_426 (by decide) ?_
    refine f_aload dL_alike_427 5 rfl ?_
    refine f_iconst (v := 1) dL_alike_429 (by decide) ?_
    obtain ⟨n33, f34, hn33, gn33, H⟩ := H
    refine f_iald hn33 gn33 dL_alike_430 ?_
    obtain ⟨n35, f36, hn35, gn35, H⟩ := H
    refine f_iast hn35 gn35 dL_alike_431 ?_
    replace H := H _ rfl
    generalize fup ω32 q7 (.inl (G.1.2.1 0, n35, .inl (upd f36 (Int32.toNatClampNeg 4) (f34 (Int32.toNatClampNeg 1))))) = ω37 at H ⊢
    refine f_dup dL_alike_432 rfl ?_
    refine f_iconst (v := 5) dL_alike_433 (by decide) ?_
    refine f_aload_n dL_alike_434 rfl 1 rfl ?_
    obtain ⟨fs38, w39, hfs38, gfs38, H⟩ := H
    refine gf_L_128 rfl hfs38 gfs38 dL_alike_435 ?_
    obtain ⟨n40, f41, hn40, gn40, H⟩ := H
    refine f_iast hn40 gn40 dL_alike_438 ?_
    replace H := H _ rfl
    generalize fup ω37 q7 (.inl (G.1.2.1 0, n40, .inl (upd f41 (Int32.toNatClampNeg 5) w39))) = ω42 at H ⊢
    refine f_dup dL_alike_439 rfl ?_
    refine f_bipush (v := 6) dL_alike_440 (by decide) ?_
    refine f_iload_n dL_alike_442 rfl 2 rfl ?_
    obtain ⟨n43, f44, hn43, gn43, H⟩ := H
    refine f_iast hn43 gn43 dL_alike_443 ?_
    replace H := H _ rfl
    generalize fup ω42 q7 (.inl (G.1.2.1 0, n43, .inl (upd f44 (Int32.toNatClampNeg 6) y2))) = ω45 at H ⊢
    refine f_dup dL_alike_444 rfl ?_
    refine f_bipush (v := 7) dL_alike_445 (by decide) ?_
    refine f_iload_n dL_alike_447 rfl 3 rfl ?_
    obtain ⟨n46, f47, hn46, gn46, H⟩ := H
    refine f_iast hn46 gn46 dL_alike_448 ?_
    replace H := H _ rfl
    generalize fup ω45 q7 (.inl (G.1.2.1 0, n46, .inl (upd f47 (Int32.toNatClampNeg 7) y3))) = ω48 at H ⊢
    refine f_dup dL_alike_449 rfl ?_
    refine f_bipush (v := 8) dL_alike_450 (by decide) ?_
    refine f_iload dL_alike_452 4 rfl ?_
    obtain ⟨n49, f50, hn49, gn49, H⟩ := H
    refine f_iast hn49 gn49 dL_alike_454 ?_
    replace H := H _ rfl
    generalize fup ω48 q7 (.inl (G.1.2.1 0, n49, .inl (upd f50 (Int32.toNatClampNeg 8) y4))) = ω51 at H ⊢
    refine f_astore (ls' := [(6, .ref q7), (0, .ref (zad G.1 0)), (1, .ref r1), (2, .int y2), (3, .int y3), (4, .int y4), (5, .ref y5)]) dL_alike_455 (by decide) rfl ?_
    refine f_iconst (v := 0) dL_alike_457 (by decide) ?_
    refine f_istore (ls' := [(7, .int 0), (6, .ref q7), (0, .ref (zad G.1 0)), (1, .ref r1), (2, .int y2), (3, .int y3), (4, .int y4), (5, .ref y5)]) dL_alike_458 (by decide) rfl ?_
    refine f_ls [2, 1, 0] rfl ?_
    exact H
  · replace H := H.2 h6
    refine f_aload_n dL_alike_76 rfl 1 rfl ?_
    obtain ⟨fs54, w55, hfs54, gfs54, H⟩ := H
    refine gf_L_86 rfl hfs54 gfs54 dL_alike_77 ?_
    refine f_iload dL_alike_80 6 rfl ?_
    have hkfs67 := H.1
    obtain ⟨fs67, hfs67, H⟩ := H.2
    refine f_callFr (j1 := 0) (j2 := kb) (av := [.int y6]) rfl hfs67 rfl rfl H i_Jx4a65c_get_915e3 rfl (by decide +kernel) (by decide +kernel) n_Jx4a65c_get_915e3 vi_Jx4a65c_get_915e3 q_L_92 (by decide) (f_kj hkfs67) (Nat.le_of_ble_eq_true rfl) dL_alike_82 (fun v56 o57 ω58 H => ?_)
    obtain ⟨y59, hy59, H⟩ := H
    refine f_cast0 cl_L_84 hy59 dL_alike_87 ?_
    refine f_astore (ls' := [(7, .ref v56), (0, .ref (zad G.1 0)), (1, .ref r1), (2, .int y2), (3, .int y3), (4, .int y4), (5, .ref y5), (6, .int y6)]) dL_alike_90 (by decide) rfl ?_
    refine f_iload_n dL_alike_92 rfl 3 rfl ?_
    refine f_aload dL_alike_93 0 rfl ?_
    refine f_iconst (v := 2) dL_alike_95 (by decide) ?_
    obtain ⟨n60, f61, hn60, gn60, H⟩ := H
    refine f_iald hn60 gn60 dL_alike_96 ?_
    refine f_iadd dL_alike_97 ?_
    refine f_istore_n (ls' := [(2, .int (y2 + (f61 (Int32.toNatClampNeg 2)))), (7, .ref v56), (0, .ref (zad G.1 0)), (1, .ref r1), (3, .int y3), (4, .int y4), (5, .ref y5), (6, .int y6)]) dL_alike_98 rfl (by decide) rfl ?_
    refine f_iload_n dL_alike_99 rfl 4 rfl ?_
    refine f_aload_n dL_alike_100 rfl 3 rfl ?_
    refine f_iload dL_alike_101 7 rfl ?_
    have hkfs66 := H.1
    obtain ⟨fs66, hfs66, H⟩ := H.2
    refine f_callVi (C := RX7) (j1 := 0) (j2 := kb) (av := [.int y6]) rfl hfs66 rfl rfl H i_X7_seam rfl n_X7_seam v_X7_seam q_L_96 (by decide) (f_kj hkfs66) (Nat.le_of_ble_eq_true rfl) dL_alike_103 (fun v62 o63 ω64 H => ?_)
    refine f_if_le (tgt := 113) dL_alike_106 (by decide) (fun h65 => ?_) (fun h65 => ?_)
    · replace H := H.1 h65
      refine f_iconst (v := 0) dL_alike_113 (by decide) ?_
      refine f_ls [2, 3, 0, 5, 6, 7, 1] rfl ?_
      exact H
    · replace H := H.2 h65
      refine f_iconst (v := 1) dL_alike_109 (by decide) ?_
      refine f_goto (tgt := 114) dL_alike_110 (by decide) ?_
      refine f_ls [2, 3, 0, 5, 6, 7, 1] rfl ?_
      exact H
set_option maxRecDepth 20000 in
set_option maxHeartbeats 2000000 in
theorem b_L_alike_114 {G : fG} {l : Launch} {K : Int32 → Option zS → fW → Prop} {r1 : Nat} {y2 : Int32} {y4 : Int32} {y5 : Nat} {y6 : Int32} {y7 : Nat} {z0 : Int32} {z1 : Int32} {o : Option zS} {ω : fW} {kb : Nat}
    (H : (0 ≤ kb ∧ ∃ fs5 : List Value, ω r1 = some (.inr (11, fs5)) ∧ FC G l M_X7_seam 0 [.ref r1, .int y6] (o, ω) (fQi (fun v1 o2 ω3 => ((0 ≤ v1 → L_L_alike_132 G l K r1 y2 (z1 + z0) y5 y6 y7 0 y4 o2 ω3 kb) ∧ (¬ 0 ≤ v1 → L_L_alike_132 G l K r1 y2 (z1 + z0) y5 y6 y7 1 y4 o2 ω3 kb)))))) :
    L_L_alike_114 G l K r1 y2 y4 y5 y6 y7 z0 z1 o ω kb := by
  refine f_iadd dL_alike_114 ?_
  refine f_istore_n (ls' := [(3, .int (z1 + z0)), (0, .ref (zad G.1 0)), (1, .ref r1), (2, .int y2), (4, .int y4), (5, .ref y5), (6, .int y6), (7, .ref y7)]) dL_alike_115 rfl (by decide) rfl ?_
  refine f_iload dL_alike_116 4 rfl ?_
  refine f_aload_n dL_alike_118 rfl 2 rfl ?_
  refine f_iload dL_alike_119 6 rfl ?_
  have hkfs5 := H.1
  obtain ⟨fs5, hfs5, H⟩ := H.2
  refine f_callVi (C := RX7) (j1 := 0) (j2 := kb) (av := [.int y6]) rfl hfs5 rfl rfl H i_X7_seam rfl n_X7_seam v_X7_seam q_L_96 (by decide) (f_kj hkfs5) (Nat.le_of_ble_eq_true rfl) dL_alike_121 (fun v1 o2 ω3 H => ?_)
  refine f_if_ge (tgt := 131) dL_alike_124 (by decide) (fun h4 => ?_) (fun h4 => ?_)
  · replace H := H.1 h4
    refine f_iconst (v := 0) dL_alike_131 (by decide) ?_
    refine f_ls [1, 2, 3, 0, 5, 6, 7] rfl ?_
    exact H
  · replace H := H.2 h4
    refine f_iconst (v := 1) dL_alike_127 (by decide) ?_
    refine f_goto (tgt := 132) dL_alike_128 (by decide) ?_
    refine f_ls [1, 2, 3, 0, 5, 6, 7] rfl ?_
    exact H
set_option maxRecDepth 20000 in
set_option maxHeartbeats 2000000 in
theorem b_L_alike_132 {G : fG} {l : Launch} {K : Int32 → Option zS → fW → Prop} {r1 : Nat} {y2 : Int32} {y3 : Int32} {y5 : Nat} {y6 : Int32} {y7 : Nat} {z0 : Int32} {z1 : Int32} {o : Option zS} {ω : fW} {kb : Nat}
    (H : (1 ≤ kb ∧ ∀ (q1 : Nat) (ω2 : fW), ω q1 = none → ω2 = fup ω q1 (.inl (G.1.2.1 0, 8, .inl (fun _ => 0))) → (∃ (n3 : Nat) (f4 : Nat → Int32), ω2 y7 = some (.inl (G.1.2.1 0, n3, .inl f4)) ∧ vp_in 0 n3 ∧ (∃ (n5 : Nat) (f6 : Nat → Int32), ω2 q1 = some (.inl (G.1.2.1 0, n5, .inl f6)) ∧ vp_in 0 n5 ∧ (∀ ω7 : fW, ω7 = fup ω2 q1 (.inl (G.1.2.1 0, n5, .inl (upd f6 (Int32.toNatClampNeg 0) (f4 (Int32.toNatClampNeg 0))))) → (0 ≤ (kb - 1) ∧ ∃ fs48 : List Value, ω7 r1 = some (.inr (11, fs48)) ∧ FC G l M_X7_first 0 [.ref r1, .int y6] (o, ω7) (fQi (fun v8 o9 ω10 => (∃ (n11 : Nat) (f12 : Nat → Int32), ω10 q1 = some (.inl (G.1.2.1 0, n11, .inl f12)) ∧ vp_in 1 n11 ∧ (∀ ω13 : fW, ω13 = fup ω10 q1 (.inl (G.1.2.1 0, n11, .inl (upd f12 (Int32.toNatClampNeg 1) v8))) → (∃ (n14 : Nat) (f15 : Nat → Int32), ω13 y7 = some (.inl (G.1.2.1 0, n14, .inl f15)) ∧ vp_in 1 n14 ∧ (∃ (n16 : Nat) (f17 : Nat → Int32), ω13 q1 = some (.inl (G.1.2.1 0, n16, .inl f17)) ∧ vp_in 2 n16 ∧ (∀ ω18 : fW, ω18 = fup ω13 q1 (.inl (G.1.2.1 0, n16, .inl (upd f17 (Int32.toNatClampNeg 2) (f15 (Int32.toNatClampNeg 1))))) → (∃ (n19 : Nat) (f20 : Nat → Int32), ω18 y7 = some (.inl (G.1.2.1 0, n19, .inl f20)) ∧ vp_in 2 n19 ∧ (∃ (n21 : Nat) (f22 : Nat → Int32), ω18 q1 = some (.inl (G.1.2.1 0, n21, .inl f22)) ∧ vp_in 3 n21 ∧ (∀ ω23 : fW, ω23 = fup ω18 q1 (.inl (G.1.2.1 0, n21, .inl (upd f22 (Int32.toNatClampNeg 3) (f20 (Int32.toNatClampNeg 2))))) → (∃ (n24 : Nat) (f25 : Nat → Int32), ω23 y7 = some (.inl (G.1.2.1 0, n24, .inl f25)) ∧ vp_in 3 n24 ∧ (∃ (n26 : Nat) (f27 : Nat → Int32), ω23 q1 = some (.inl (G.1.2.1 0, n26, .inl f27)) ∧ vp_in 4 n26 ∧ (∀ ω28 : fW, ω28 = fup ω23 q1 (.inl (G.1.2.1 0, n26, .inl (upd f27 (Int32.toNatClampNeg 4) (f25 (Int32.toNatClampNeg 3))))) → (∃ (n29 : Nat) (f30 : Nat → Int32), ω28 y7 = some (.inl (G.1.2.1 0, n29, .inl f30)) ∧ vp_in 4 n29 ∧ (∃ (n31 : Nat) (f32 : Nat → Int32), ω28 q1 = some (.inl (G.1.2.1 0, n31, .inl f32)) ∧ vp_in 5 n31 ∧ (∀ ω33 : fW, ω33 = fup ω28 q1 (.inl (G.1.2.1 0, n31, .inl (upd f32 (Int32.toNatClampNeg 5) (f30 (Int32.toNatClampNeg 4))))) → (0 ≤ (kb - 1) ∧ ∃ fs47 : List Value, ω33 r1 = some (.inr (11, fs47)) ∧ FC G l M_X7_unlike 0 [.ref r1, .int y6, .int 0] (o9, ω33) (fQi (fun v34 o35 ω36 => (∃ (n37 : Nat) (f38 : Nat → Int32), ω36 q1 = some (.inl (G.1.2.1 0, n37, .inl f38)) ∧ vp_in 6 n37 ∧ (∀ ω39 : fW, ω39 = fup ω36 q1 (.inl (G.1.2.1 0, n37, .inl (upd f38 (Int32.toNatClampNeg 6) v34))) → (0 ≤ (kb - 1) ∧ ∃ fs46 : List Value, ω39 r1 = some (.inr (11, fs46)) ∧ FC G l M_X7_unlike 0 [.ref r1, .int y6, .int 1] (o35, ω39) (fQi (fun v40 o41 ω42 => (∃ (n43 : Nat) (f44 : Nat → Int32), ω42 q1 = some (.inl (G.1.2.1 0, n43, .inl f44)) ∧ vp_in 7 n43 ∧ (∀ ω45 : fW, ω45 = fup ω42 q1 (.inl (G.1.2.1 0, n43, .inl (upd f44 (Int32.toNatClampNeg 7) v40))) → L_L_alike_210 G l K r1 y2 y3 (z1 + z0) y5 y6 y7 q1 0 o41 ω45 (kb - 1))))))))))))))))))))))))))))))))) :
    L_L_alike_132 G l K r1 y2 y3 y5 y6 y7 z0 z1 o ω kb := by
  refine f_iadd dL_alike_132 ?_
  refine f_istore (ls' := [(4, .int (z1 + z0)), (0, .ref (zad G.1 0)), (1, .ref r1), (2, .int y2), (3, .int y3), (5, .ref y5), (6, .int y6), (7, .ref y7)]) dL_alike_133 (by decide) rfl ?_
  refine f_bipush (v := 8) dL_alike_135 (by decide) ?_
  refine f_newa0 (N := 8) (u := 1) (by decide) (by decide) (Nat.le_of_ble_eq_true rfl) (f_ks H.1) ⟨by decide, by decide⟩ dL_alike_137 (fun q1 hq1 => ?_)
  replace H := H.2 q1 _ hq1 rfl
  generalize fup ω q1 (.inl (G.1.2.1 0, 8, .inl (fun _ => 0))) = ω2 at H ⊢
  refine f_dup dL_alike_139 rfl ?_
  refine f_iconst (v := 0) dL_alike_140 (by decide) ?_
  refine f_aload dL_alike_141 7 rfl ?_
  refine f_iconst (v := 0) dL_alike_143 (by decide) ?_
  obtain ⟨n3, f4, hn3, gn3, H⟩ := H
  refine f_iald hn3 gn3 dL_alike_144 ?_
  obtain ⟨n5, f6, hn5, gn5, H⟩ := H
  refine f_iast hn5 gn5 dL_alike_145 ?_
  replace H := H _ rfl
  generalize fup ω2 q1 (.inl (G.1.2.1 0, n5, .inl (upd f6 (Int32.toNatClampNeg 0) (f4 (Int32.toNatClampNeg 0))))) = ω7 at H ⊢
  refine f_dup dL_alike_146 rfl ?_
  refine f_iconst (v := 1) dL_alike_147 (by decide) ?_
  refine f_aload_n dL_alike_148 rfl 2 rfl ?_
  refine f_iload dL_alike_149 6 rfl ?_
  have hkfs48 := H.1
  obtain ⟨fs48, hfs48, H⟩ := H.2
  refine f_callVi (C := RX7) (j1 := 0) (j2 := (kb - 1)) (av := [.int y6]) rfl hfs48 rfl rfl H i_X7_first rfl n_X7_first v_X7_first q_L_99 (by decide) (f_kj hkfs48) (Nat.le_of_ble_eq_true rfl) dL_alike_151 (fun v8 o9 ω10 H => ?_)
  obtain ⟨n11, f12, hn11, gn11, H⟩ := H
  refine f_iast hn11 gn11 dL_alike_154 ?_
  replace H := H _ rfl
  generalize fup ω10 q1 (.inl (G.1.2.1 0, n11, .inl (upd f12 (Int32.toNatClampNeg 1) v8))) = ω13 at H ⊢
  refine f_dup dL_alike_155 rfl ?_
  refine f_iconst (v := 2) dL_alike_156 (by decide) ?_
  refine f_aload dL_alike_157 7 rfl ?_
  refine f_iconst (v := 1) dL_alike_159 (by decide) ?_
  obtain ⟨n14, f15, hn14, gn14, H⟩ := H
  refine f_iald hn14 gn14 dL_alike_160 ?_
  obtain ⟨n16, f17, hn16, gn16, H⟩ := H
  refine f_iast hn16 gn16 dL_alike_161 ?_
  replace H := H _ rfl
  generalize fup ω13 q1 (.inl (G.1.2.1 0, n16, .inl (upd f17 (Int32.toNatClampNeg 2) (f15 (Int32.toNatClampNeg 1))))) = ω18 at H ⊢
  refine f_dup dL_alike_162 rfl ?_
  refine f_iconst (v := 3) dL_alike_163 (by decide) ?_
  refine f_aload dL_alike_164 7 rfl ?_
  refine f_iconst (v := 2) dL_alike_166 (by decide) ?_
  obtain ⟨n19, f20, hn19, gn19, H⟩ := H
  refine f_iald hn19 gn19 dL_alike_167 ?_
  obtain ⟨n21, f22, hn21, gn21, H⟩ := H
  refine f_iast hn21 gn21 dL_alike_168 ?_
  replace H := H _ rfl
  generalize fup ω18 q1 (.inl (G.1.2.1 0, n21, .inl (upd f22 (Int32.toNatClampNeg 3) (f20 (Int32.toNatClampNeg 2))))) = ω23 at H ⊢
  refine f_dup dL_alike_169 rfl ?_
  refine f_iconst (v := 4) dL_alike_170 (by decide) ?_
  refine f_aload dL_alike_171 7 rfl ?_
  refine f_iconst (v := 3) dL_alike_173 (by decide) ?_
  obtain ⟨n24, f25, hn24, gn24, H⟩ := H
  refine f_iald hn24 gn24 dL_alike_174 ?_
  obtain ⟨n26, f27, hn26, gn26, H⟩ := H
  refine f_iast hn26 gn26 dL_alike_175 ?_
  replace H := H _ rfl
  generalize fup ω23 q1 (.inl (G.1.2.1 0, n26, .inl (upd f27 (Int32.toNatClampNeg 4) (f25 (Int32.toNatClampNeg 3))))) = ω28 at H ⊢
  refine f_dup dL_alike_176 rfl ?_
  refine f_iconst (v := 5) dL_alike_177 (by decide) ?_
  refine f_aload dL_alike_178 7 rfl ?_
  refine f_iconst (v := 4) dL_alike_180 (by decide) ?_
  obtain ⟨n29, f30, hn29, gn29, H⟩ := H
  refine f_iald hn29 gn29 dL_alike_181 ?_
  obtain ⟨n31, f32, hn31, gn31, H⟩ := H
  refine f_iast hn31 gn31 dL_alike_182 ?_
  replace H := H _ rfl
  generalize fup ω28 q1 (.inl (G.1.2.1 0, n31, .inl (upd f32 (Int32.toNatClampNeg 5) (f30 (Int32.toNatClampNeg 4))))) = ω33 at H ⊢
  refine f_dup dL_alike_183 rfl ?_
  refine f_bipush (v := 6) dL_alike_184 (by decide) ?_
  refine f_aload_n dL_alike_186 rfl 2 rfl ?_
  refine f_iload dL_alike_187 6 rfl ?_
  refine f_iconst (v := 0) dL_alike_189 (by decide) ?_
  have hkfs47 := H.1
  obtain ⟨fs47, hfs47, H⟩ := H.2
  refine f_callVi (C := RX7) (j1 := 0) (j2 := (kb - 1)) (av := [.int y6, .int 0]) rfl hfs47 rfl rfl H i_X7_unlike rfl n_X7_unlike v_X7_unlike q_L_102 (by decide) (f_kj hkfs47) (Nat.le_of_ble_eq_true rfl) dL_alike_190 (fun v34 o35 ω36 H => ?_)
  obtain ⟨n37, f38, hn37, gn37, H⟩ := H
  refine f_iast hn37 gn37 dL_alike_193 ?_
  replace H := H _ rfl
  generalize fup ω36 q1 (.inl (G.1.2.1 0, n37, .inl (upd f38 (Int32.toNatClampNeg 6) v34))) = ω39 at H ⊢
  refine f_dup dL_alike_194 rfl ?_
  refine f_bipush (v := 7) dL_alike_195 (by decide) ?_
  refine f_aload_n dL_alike_197 rfl 2 rfl ?_
  refine f_iload dL_alike_198 6 rfl ?_
  refine f_iconst (v := 1) dL_alike_200 (by decide) ?_
  have hkfs46 := H.1
  obtain ⟨fs46, hfs46, H⟩ := H.2
  refine f_callVi (C := RX7) (j1 := 0) (j2 := (kb - 1)) (av := [.int y6, .int 1]) rfl hfs46 rfl rfl H i_X7_unlike rfl n_X7_unlike v_X7_unlike q_L_102 (by decide) (f_kj hkfs46) (Nat.le_of_ble_eq_true rfl) dL_alike_201 (fun v40 o41 ω42 H => ?_)
  obtain ⟨n43, f44, hn43, gn43, H⟩ := H
  refine f_iast hn43 gn43 dL_alike_204 ?_
  replace H := H _ rfl
  generalize fup ω42 q1 (.inl (G.1.2.1 0, n43, .inl (upd f44 (Int32.toNatClampNeg 7) v40))) = ω45 at H ⊢
  refine f_astore (ls' := [(8, .ref q1), (4, .int (z1 + z0)), (0, .ref (zad G.1 0)), (1, .ref r1), (2, .int y2), (3, .int y3), (5, .ref y5), (6, .int y6), (7, .ref y7)]) dL_alike_205 (by decide) rfl ?_
  refine f_iconst (v := 0) dL_alike_207 (by decide) ?_
  refine f_istore (ls' := [(9, .int 0), (8, .ref q1), (4, .int (z1 + z0)), (0, .ref (zad G.1 0)), (1, .ref r1), (2, .int y2), (3, .int y3), (5, .ref y5), (6, .int y6), (7, .ref y7)]) dL_alike_208 (by decide) rfl ?_
  refine f_ls [3, 4, 5, 6, 2, 7, 8, 9, 1, 0] rfl ?_
  exact H
set_option maxRecDepth 20000 in
set_option maxHeartbeats 2000000 in
theorem b_L_alike_210 {G : fG} {l : Launch} {K : Int32 → Option zS → fW → Prop} {r1 : Nat} {y2 : Int32} {y3 : Int32} {y4 : Int32} {y5 : Nat} {y6 : Int32} {y7 : Nat} {y8 : Nat} {y9 : Int32} {o : Option zS} {ω : fW} {kb : Nat}
    (H : ((8 ≤ y9 → (∃ σ9 : zS, o = some σ9 ∧ (1 ≤ kb ∧ ∀ n : Nat, CT (gB G.1 n) l M_X6_seam 1 [.ref (zad G.1 0), .int y6] σ9 (zQi (fun v2 σ3 => (0 ≤ (kb - 1) ∧ ∃ fs8 : List Value, ω r1 = some (.inr (11, fs8)) ∧ FC G l M_X7_seam 0 [.ref r1, .int y6] ((some σ3), ω) (fQi (fun v4 o5 ω6 => ((v2 = v4 → L_L_alike_261 G l K r1 y2 y3 y4 y5 y6 y7 0 o5 ω6 (kb - 1)) ∧ (¬ v2 = v4 → K 0 o5 ω6)))))) (fun _ _ => False))))) ∧ (¬ 8 ≤ y9 → (∃ σ15 : zS, o = some σ15 ∧ (2 ≤ kb ∧ ∀ n : Nat, CT (gB G.1 n) l M_X6_slat 2 [.ref (zad G.1 0), .int y6, .int y9] σ15 (zQi (fun v10 σ11 => (∃ (n12 : Nat) (f13 : Nat → Int32), ω y8 = some (.inl (G.1.2.1 0, n12, .inl f13)) ∧ vp_in y9 n12 ∧ ((v10 = (f13 (Int32.toNatClampNeg y9)) → L_L_alike_210 G l K r1 y2 y3 y4 y5 y6 y7 y8 (y9 + 1) (some σ11) ω (kb - 2)) ∧ (¬ v10 = (f13 (Int32.toNatClampNeg y9)) → K 0 (some σ11) ω)))) (fun _ _ => False))))))) :
    L_L_alike_210 G l K r1 y2 y3 y4 y5 y6 y7 y8 y9 o ω kb := by
  refine f_iload dL_alike_210 9 rfl ?_
  refine f_bipush (v := 8) dL_alike_212 (by decide) ?_
  refine f_icmp_ge (tgt := 241) dL_alike_214 (by decide) (fun h1 => ?_) (fun h1 => ?_)
  · replace H := H.1 h1
    refine f_aload_n dL_alike_241 rfl 0 rfl ?_
    refine f_iload dL_alike_242 6 rfl ?_
    obtain ⟨σ9, he, H⟩ := H
    subst he
    refine f_callCi (oo := 0) (j1 := 1) (j2 := (kb - 1)) (av := [.int y6]) rfl rfl (by decide) rfl rfl H.2 i_X6_seam rfl n_X6_seam v_X6_seam q_L_109 (by decide) (f_kj H.1) (Nat.le_of_ble_eq_true rfl) dL_alike_244 (fun v2 σ3 H => ?_)
    refine f_aload_n dL_alike_247 rfl 1 rfl ?_
    refine f_iload dL_alike_248 6 rfl ?_
    have hkfs8 := H.1
    obtain ⟨fs8, hfs8, H⟩ := H.2
    refine f_callVi (C := RX7) (j1 := 0) (j2 := (kb - 1)) (av := [.int y6]) rfl hfs8 rfl rfl H i_X7_seam rfl n_X7_seam v_X7_seam q_L_96 (by decide) (f_kj hkfs8) (Nat.le_of_ble_eq_true rfl) dL_alike_250 (fun v4 o5 ω6 H => ?_)
    refine f_icmp_eq (tgt := 258) dL_alike_253 (by decide) (fun h7 => ?_) (fun h7 => ?_)
    · replace H := H.1 h7
      refine f_iconst (v := 0) dL_alike_258 (by decide) ?_
      refine f_istore (ls' := [(9, .int 0), (0, .ref (zad G.1 0)), (1, .ref r1), (2, .int y2), (3, .int y3), (4, .int y4), (5, .ref y5), (6, .int y6), (7, .ref y7), (8, .ref y8)]) dL_alike_259 (by decide) rfl ?_
      refine f_ls [1, 2, 3, 4, 5, 6, 7, 8, 0] rfl ?_
      exact H
    · replace H := H.2 h7
      refine f_iconst (v := 0) dL_alike_256 (by decide) ?_
      exact f_zret rfl rfl dL_alike_257 ⟨_, rfl, H⟩
  · replace H := H.2 h1
    refine f_aload_n dL_alike_217 rfl 0 rfl ?_
    refine f_iload dL_alike_218 6 rfl ?_
    refine f_iload dL_alike_220 9 rfl ?_
    obtain ⟨σ15, he, H⟩ := H
    subst he
    refine f_callCi (oo := 0) (j1 := 2) (j2 := (kb - 2)) (av := [.int y6, .int y9]) rfl rfl (by decide) rfl rfl H.2 i_X6_slat rfl n_X6_slat v_X6_slat q_L_106 (by decide) (f_kj H.1) (Nat.le_of_ble_eq_true rfl) dL_alike_222 (fun v10 σ11 H => ?_)
    refine f_aload dL_alike_225 8 rfl ?_
    refine f_iload dL_alike_227 9 rfl ?_
    obtain ⟨n12, f13, hn12, gn12, H⟩ := H
    refine f_iald hn12 gn12 dL_alike_229 ?_
    refine f_icmp_eq (tgt := 235) dL_alike_230 (by decide) (fun h14 => ?_) (fun h14 => ?_)
    · replace H := H.1 h14
      refine f_iinc (j := 9) (v := (y9 + 1)) (ls' := [(9, .int (y9 + 1)), (0, .ref (zad G.1 0)), (1, .ref r1), (2, .int y2), (3, .int y3), (4, .int y4), (5, .ref y5), (6, .int y6), (7, .ref y7), (8, .ref y8)]) dL_alike_235 rfl rfl (by decide) rfl ?_
      refine f_goto (tgt := 210) dL_alike_238 (by decide) ?_
      refine f_ls [1, 2, 3, 4, 5, 6, 7, 8, 9, 0] rfl ?_
      exact H
    · replace H := H.2 h14
      refine f_iconst (v := 0) dL_alike_233 (by decide) ?_
      exact f_zret rfl rfl dL_alike_234 ⟨_, rfl, H⟩
set_option maxRecDepth 20000 in
set_option maxHeartbeats 2000000 in
theorem b_L_alike_261 {G : fG} {l : Launch} {K : Int32 → Option zS → fW → Prop} {r1 : Nat} {y2 : Int32} {y3 : Int32} {y4 : Int32} {y5 : Nat} {y6 : Int32} {y7 : Nat} {y9 : Int32} {o : Option zS} {ω : fW} {kb : Nat}
    (H : (∃ (n1 : Nat) (f2 : Nat → Int32), ω y7 = some (.inl (G.1.2.1 0, n1, .inl f2)) ∧ vp_in 0 n1 ∧ (((f2 (Int32.toNatClampNeg 0)) ≤ y9 → L_L_alike_62 G l K r1 y2 y3 y4 y5 (y6 + 1) o ω kb) ∧ (¬ (f2 (Int32.toNatClampNeg 0)) ≤ y9 → (0 ≤ kb ∧ ∃ fs11 : List Value, ω r1 = some (.inr (11, fs11)) ∧ FC G l M_X7_first 0 [.ref r1, .int y6] (o, ω) (fQi (fun v4 o5 ω6 => (∃ σ10 : zS, o5 = some σ10 ∧ (1 ≤ kb ∧ ∀ n : Nat, CT (gB G.1 n) l M_X6_slatAt 1 [.ref (zad G.1 0), .int (v4 + y9)] σ10 (zQi (fun v7 σ8 => ((v7 = y6 → L_L_alike_293 G l K r1 y2 y3 y4 y5 y6 y7 y9 0 (some σ8) ω6 (kb - 1)) ∧ (¬ v7 = y6 → K 0 (some σ8) ω6))) (fun _ _ => False))))))))))) :
    L_L_alike_261 G l K r1 y2 y3 y4 y5 y6 y7 y9 o ω kb := by
  refine f_iload dL_alike_261 8 rfl ?_
  refine f_aload dL_alike_263 7 rfl ?_
  refine f_iconst (v := 0) dL_alike_265 (by decide) ?_
  obtain ⟨n1, f2, hn1, gn1, H⟩ := H
  refine f_iald hn1 gn1 dL_alike_266 ?_
  refine f_icmp_ge (tgt := 382) dL_alike_267 (by decide) (fun h3 => ?_) (fun h3 => ?_)
  · replace H := H.1 h3
    refine f_iinc (j := 6) (v := (y6 + 1)) (ls' := [(6, .int (y6 + 1)), (0, .ref (zad G.1 0)), (1, .ref r1), (2, .int y2), (3, .int y3), (4, .int y4), (5, .ref y5), (7, .ref y7), (9, .int y9)]) dL_alike_382 rfl rfl (by decide) rfl ?_
    refine f_goto (tgt := 62) dL_alike_385 (by decide) ?_
    refine f_ls [1, 2, 3, 4, 5, 6, 0] rfl ?_
    exact H
  · replace H := H.2 h3
    refine f_aload_n dL_alike_270 rfl 0 rfl ?_
    refine f_aload_n dL_alike_271 rfl 1 rfl ?_
    refine f_iload dL_alike_272 6 rfl ?_
    have hkfs11 := H.1
    obtain ⟨fs11, hfs11, H⟩ := H.2
    refine f_callVi (C := RX7) (j1 := 0) (j2 := kb) (av := [.int y6]) rfl hfs11 rfl rfl H i_X7_first rfl n_X7_first v_X7_first q_L_99 (by decide) (f_kj hkfs11) (Nat.le_of_ble_eq_true rfl) dL_alike_274 (fun v4 o5 ω6 H => ?_)
    refine f_iload dL_alike_277 8 rfl ?_
    refine f_iadd dL_alike_279 ?_
    obtain ⟨σ10, he, H⟩ := H
    subst he
    refine f_callCi (oo := 0) (j1 := 1) (j2 := (kb - 1)) (av := [.int (v4 + y9)]) rfl rfl (by decide) rfl rfl H.2 i_X6_slatAt rfl n_X6_slatAt v_X6_slatAt q_L_110 (by decide) (f_kj H.1) (Nat.le_of_ble_eq_true rfl) dL_alike_280 (fun v7 σ8 H => ?_)
    refine f_iload dL_alike_283 6 rfl ?_
    refine f_icmp_eq (tgt := 290) dL_alike_285 (by decide) (fun h9 => ?_) (fun h9 => ?_)
    · replace H := H.1 h9
      refine f_iconst (v := 0) dL_alike_290 (by decide) ?_
      refine f_istore (ls' := [(10, .int 0), (0, .ref (zad G.1 0)), (1, .ref r1), (2, .int y2), (3, .int y3), (4, .int y4), (5, .ref y5), (6, .int y6), (7, .ref y7), (9, .int y9)]) dL_alike_291 (by decide) rfl ?_
      refine f_ls [1, 2, 3, 4, 5, 6, 7, 8, 9, 0] rfl ?_
      exact H
    · replace H := H.2 h9
      refine f_iconst (v := 0) dL_alike_288 (by decide) ?_
      exact f_zret rfl rfl dL_alike_289 ⟨_, rfl, H⟩
set_option maxRecDepth 20000 in
set_option maxHeartbeats 2000000 in
theorem b_L_alike_293 {G : fG} {l : Launch} {K : Int32 → Option zS → fW → Prop} {r1 : Nat} {y2 : Int32} {y3 : Int32} {y4 : Int32} {y5 : Nat} {y6 : Int32} {y7 : Nat} {y9 : Int32} {y10 : Int32} {o : Option zS} {ω : fW} {kb : Nat}
    (H : (∃ (fs1 : List Value) (w2 : Int32), ω r1 = some (.inr (11, fs1)) ∧ fs1[0]? = some (.int w2) ∧ ((w2 ≤ y10 → L_L_alike_261 G l K r1 y2 y3 y4 y5 y6 y7 (y9 + 1) o ω kb) ∧ (¬ w2 ≤ y10 → (∃ σ39 : zS, o = some σ39 ∧ (1 ≤ kb ∧ ∀ n : Nat, CT (gB G.1 n) l M_X6_face 1 [.ref (zad G.1 0), .int y6, .int 0, .int y9, .int y10] σ39 (zQi (fun v4 σ5 => (∃ (fs6 : List Value) (w7 : Nat), ω r1 = some (.inr (11, fs6)) ∧ fs6[4]? = some (.ref w7) ∧ (∃ (n8 : Nat) (f9 : Nat → Option Nat) (w10 : Nat), ω w7 = some (.inl (G.1.2.1 6, n8, .inr (.inr (.inr (.inr f9))))) ∧ vp_in 0 n8 ∧ f9 (Int32.toNatClampNeg 0) = some w10 ∧ (0 ≤ (kb - 1) ∧ ∃ fs38 : List Value, ω r1 = some (.inr (11, fs38)) ∧ FC G l M_X7_first 0 [.ref r1, .int y6] ((some σ5), ω) (fQi (fun v11 o12 ω13 => (∃ (n14 : Nat) (f15 : Nat → Option Nat) (w16 : Nat), ω13 w10 = some (.inl (G.1.2.1 4, n14, .inr (.inr (.inr (.inr f15))))) ∧ vp_in (v11 + y9) n14 ∧ f15 (Int32.toNatClampNeg (v11 + y9)) = some w16 ∧ (∃ (n17 : Nat) (f18 : Nat → Int32), ω13 w16 = some (.inl (G.1.2.1 0, n17, .inl f18)) ∧ vp_in y10 n17 ∧ ((¬ v4 = (f18 (Int32.toNatClampNeg y10)) → L_L_alike_368 G l K r1 o12 ω13 (kb - 1)) ∧ (v4 = (f18 (Int32.toNatClampNeg y10)) → (∃ σ37 : zS, o12 = some σ37 ∧ (1 ≤ (kb - 1) ∧ ∀ n : Nat, CT (gB G.1 n) l M_X6_face 1 [.ref (zad G.1 0), .int y6, .int 1, .int y9, .int y10] σ37 (zQi (fun v20 σ21 => (∃ (fs22 : List Value) (w23 : Nat), ω13 r1 = some (.inr (11, fs22)) ∧ fs22[4]? = some (.ref w23) ∧ (∃ (n24 : Nat) (f25 : Nat → Option Nat) (w26 : Nat), ω13 w23 = some (.inl (G.1.2.1 6, n24, .inr (.inr (.inr (.inr f25))))) ∧ vp_in 1 n24 ∧ f25 (Int32.toNatClampNeg 1) = some w26 ∧ (0 ≤ ((kb - 1) - 1) ∧ ∃ fs36 : List Value, ω13 r1 = some (.inr (11, fs36)) ∧ FC G l M_X7_first 0 [.ref r1, .int y6] ((some σ21), ω13) (fQi (fun v27 o28 ω29 => (∃ (n30 : Nat) (f31 : Nat → Option Nat) (w32 : Nat), ω29 w26 = some (.inl (G.1.2.1 4, n30, .inr (.inr (.inr (.inr f31))))) ∧ vp_in (v27 + y9) n30 ∧ f31 (Int32.toNatClampNeg (v27 + y9)) = some w32 ∧ (∃ (n33 : Nat) (f34 : Nat → Int32), ω29 w32 = some (.inl (G.1.2.1 0, n33, .inl f34)) ∧ vp_in y10 n33 ∧ ((v20 = (f34 (Int32.toNatClampNeg y10)) → L_L_alike_293 G l K r1 y2 y3 y4 y5 y6 y7 y9 (y10 + 1) o28 ω29 ((kb - 1) - 1)) ∧ (¬ v20 = (f34 (Int32.toNatClampNeg y10)) → L_L_alike_368 G l K r1 o28 ω29 ((kb - 1) - 1))))))))))) (fun _ _ => False)))))))))))))) (fun _ _ => False)))))))) :
    L_L_alike_293 G l K r1 y2 y3 y4 y5 y6 y7 y9 y10 o ω kb := by
  refine f_iload dL_alike_293 9 rfl ?_
  refine f_aload_n dL_alike_295 rfl 1 rfl ?_
  obtain ⟨fs1, w2, hfs1, gfs1, H⟩ := H
  refine gf_L_113 rfl hfs1 gfs1 dL_alike_296 ?_
  refine f_icmp_ge (tgt := 376) dL_alike_299 (by decide) (fun h3 => ?_) (fun h3 => ?_)
  · replace H := H.1 h3
    refine f_iinc (j := 8) (v := (y9 + 1)) (ls' := [(9, .int (y9 + 1)), (0, .ref (zad G.1 0)), (1, .ref r1), (2, .int y2), (3, .int y3), (4, .int y4), (5, .ref y5), (6, .int y6), (7, .ref y7), (10, .int y10)]) dL_alike_376 rfl rfl (by decide) rfl ?_
    refine f_goto (tgt := 261) dL_alike_379 (by decide) ?_
    refine f_ls [1, 2, 3, 4, 5, 6, 7, 8, 0] rfl ?_
    exact H
  · replace H := H.2 h3
    refine f_aload_n dL_alike_302 rfl 0 rfl ?_
    refine f_iload dL_alike_303 6 rfl ?_
    refine f_iconst (v := 0) dL_alike_305 (by decide) ?_
    refine f_iload dL_alike_306 8 rfl ?_
    refine f_iload dL_alike_308 9 rfl ?_
    obtain ⟨σ39, he, H⟩ := H
    subst he
    refine f_callCi (oo := 0) (j1 := 1) (j2 := (kb - 1)) (av := [.int y6, .int 0, .int y9, .int y10]) rfl rfl (by decide) rfl rfl H.2 i_X6_face rfl n_X6_face v_X6_face q_L_117 (by decide) (f_kj H.1) (Nat.le_of_ble_eq_true rfl) dL_alike_310 (fun v4 σ5 H => ?_)
    refine f_aload_n dL_alike_313 rfl 1 rfl ?_
    obtain ⟨fs6, w7, hfs6, gfs6, H⟩ := H
    refine gf_L_121 rfl hfs6 gfs6 dL_alike_314 ?_
    refine f_iconst (v := 0) dL_alike_317 (by decide) ?_
    obtain ⟨n8, f9, w10, hn8, gn8, en8, H⟩ := H
    refine f_aald6 hn8 gn8 en8 dL_alike_318 ?_
    refine f_aload_n dL_alike_319 rfl 1 rfl ?_
    refine f_iload dL_alike_320 6 rfl ?_
    have hkfs38 := H.1
    obtain ⟨fs38, hfs38, H⟩ := H.2
    refine f_callVi (C := RX7) (j1 := 0) (j2 := (kb - 1)) (av := [.int y6]) rfl hfs38 rfl rfl H i_X7_first rfl n_X7_first v_X7_first q_L_99 (by decide) (f_kj hkfs38) (Nat.le_of_ble_eq_true rfl) dL_alike_322 (fun v11 o12 ω13 H => ?_)
    refine f_iload dL_alike_325 8 rfl ?_
    refine f_iadd dL_alike_327 ?_
    obtain ⟨n14, f15, w16, hn14, gn14, en14, H⟩ := H
    refine f_aald4 hn14 gn14 en14 dL_alike_328 ?_
    refine f_iload dL_alike_329 9 rfl ?_
    obtain ⟨n17, f18, hn17, gn17, H⟩ := H
    refine f_iald hn17 gn17 dL_alike_331 ?_
    refine f_icmp_ne (tgt := 368) dL_alike_332 (by decide) (fun h19 => ?_) (fun h19 => ?_)
    · replace H := H.1 h19
      refine f_ls [] rfl ?_
      exact H
    · replace H := H.2 h19
      refine f_aload_n dL_alike_335 rfl 0 rfl ?_
      refine f_iload dL_alike_336 6 rfl ?_
      refine f_iconst (v := 1) dL_alike_338 (by decide) ?_
      refine f_iload dL_alike_339 8 rfl ?_
      refine f_iload dL_alike_341 9 rfl ?_
      obtain ⟨σ37, he, H⟩ := H
      subst he
      refine f_callCi (oo := 0) (j1 := 1) (j2 := ((kb - 1) - 1)) (av := [.int y6, .int 1, .int y9, .int y10]) rfl rfl (by decide) rfl rfl H.2 i_X6_face rfl n_X6_face v_X6_face q_L_117 (by decide) (f_kj H.1) (Nat.le_of_ble_eq_true rfl) dL_alike_343 (fun v20 σ21 H => ?_)
      refine f_aload_n dL_alike_346 rfl 1 rfl ?_
      obtain ⟨fs22, w23, hfs22, gfs22, H⟩ := H
      refine gf_L_121 rfl hfs22 gfs22 dL_alike_347 ?_
      refine f_iconst (v := 1) dL_alike_350 (by decide) ?_
      obtain ⟨n24, f25, w26, hn24, gn24, en24, H⟩ := H
      refine f_aald6 hn24 gn24 en24 dL_alike_351 ?_
      refine f_aload_n dL_alike_352 rfl 1 rfl ?_
      refine f_iload dL_alike_353 6 rfl ?_
      have hkfs36 := H.1
      obtain ⟨fs36, hfs36, H⟩ := H.2
      refine f_callVi (C := RX7) (j1 := 0) (j2 := ((kb - 1) - 1)) (av := [.int y6]) rfl hfs36 rfl rfl H i_X7_first rfl n_X7_first v_X7_first q_L_99 (by decide) (f_kj hkfs36) (Nat.le_of_ble_eq_true rfl) dL_alike_355 (fun v27 o28 ω29 H => ?_)
      refine f_iload dL_alike_358 8 rfl ?_
      refine f_iadd dL_alike_360 ?_
      obtain ⟨n30, f31, w32, hn30, gn30, en30, H⟩ := H
      refine f_aald4 hn30 gn30 en30 dL_alike_361 ?_
      refine f_iload dL_alike_362 9 rfl ?_
      obtain ⟨n33, f34, hn33, gn33, H⟩ := H
      refine f_iald hn33 gn33 dL_alike_364 ?_
      refine f_icmp_eq (tgt := 370) dL_alike_365 (by decide) (fun h35 => ?_) (fun h35 => ?_)
      · replace H := H.1 h35
        refine f_iinc (j := 9) (v := (y10 + 1)) (ls' := [(10, .int (y10 + 1)), (0, .ref (zad G.1 0)), (1, .ref r1), (2, .int y2), (3, .int y3), (4, .int y4), (5, .ref y5), (6, .int y6), (7, .ref y7), (9, .int y9)]) dL_alike_370 rfl rfl (by decide) rfl ?_
        refine f_goto (tgt := 293) dL_alike_373 (by decide) ?_
        refine f_ls [1, 2, 3, 4, 5, 6, 7, 8, 9, 0] rfl ?_
        exact H
      · replace H := H.2 h35
        refine f_ls [] rfl ?_
        exact H
set_option maxRecDepth 20000 in
set_option maxHeartbeats 2000000 in
theorem b_L_alike_368 {G : fG} {l : Launch} {K : Int32 → Option zS → fW → Prop} {r1 : Nat} {o : Option zS} {ω : fW} {kb : Nat}
    (H : K 0 o ω) :
    L_L_alike_368 G l K r1 o ω kb := by
  refine f_iconst (v := 0) dL_alike_368 (by decide) ?_
  exact f_zret rfl rfl dL_alike_369 ⟨_, rfl, H⟩
set_option maxRecDepth 20000 in
set_option maxHeartbeats 2000000 in
theorem b_L_alike_460 {G : fG} {l : Launch} {K : Int32 → Option zS → fW → Prop} {r1 : Nat} {y6 : Nat} {y7 : Int32} {o : Option zS} {ω : fW} {kb : Nat}
    (H : ((9 ≤ y7 → K 1 o ω) ∧ (¬ 9 ≤ y7 → (∃ σ7 : zS, o = some σ7 ∧ (1 ≤ kb ∧ ∀ n : Nat, CT (gB G.1 n) l M_X6_setting 1 [.ref (zad G.1 0), .int y7] σ7 (zQi (fun v2 σ3 => (∃ (n4 : Nat) (f5 : Nat → Int32), ω y6 = some (.inl (G.1.2.1 0, n4, .inl f5)) ∧ vp_in y7 n4 ∧ ((v2 = (f5 (Int32.toNatClampNeg y7)) → L_L_alike_460 G l K r1 y6 (y7 + 1) (some σ3) ω (kb - 1)) ∧ (¬ v2 = (f5 (Int32.toNatClampNeg y7)) → K 0 (some σ3) ω)))) (fun _ _ => False))))))) :
    L_L_alike_460 G l K r1 y6 y7 o ω kb := by
  refine f_iload dL_alike_460 2 rfl ?_
  refine f_bipush (v := 9) dL_alike_462 (by decide) ?_
  refine f_icmp_ge (tgt := 489) dL_alike_464 (by decide) (fun h1 => ?_) (fun h1 => ?_)
  · replace H := H.1 h1
    refine f_iconst (v := 1) dL_alike_489 (by decide) ?_
    exact f_zret rfl rfl dL_alike_490 ⟨_, rfl, H⟩
  · replace H := H.2 h1
    refine f_aload_n dL_alike_467 rfl 0 rfl ?_
    refine f_iload dL_alike_468 2 rfl ?_
    obtain ⟨σ7, he, H⟩ := H
    subst he
    refine f_callCi (oo := 0) (j1 := 1) (j2 := (kb - 1)) (av := [.int y7]) rfl rfl (by decide) rfl rfl H.2 i_X6_setting rfl n_X6_setting v_X6_setting q_L_131 (by decide) (f_kj H.1) (Nat.le_of_ble_eq_true rfl) dL_alike_470 (fun v2 σ3 H => ?_)
    refine f_aload dL_alike_473 1 rfl ?_
    refine f_iload dL_alike_475 2 rfl ?_
    obtain ⟨n4, f5, hn4, gn4, H⟩ := H
    refine f_iald hn4 gn4 dL_alike_477 ?_
    refine f_icmp_eq (tgt := 483) dL_alike_478 (by decide) (fun h6 => ?_) (fun h6 => ?_)
    · replace H := H.1 h6
      refine f_iinc (j := 2) (v := (y7 + 1)) (ls' := [(7, .int (y7 + 1)), (0, .ref (zad G.1 0)), (6, .ref y6)]) dL_alike_483 rfl rfl (by decide) rfl ?_
      refine f_goto (tgt := 460) dL_alike_486 (by decide) ?_
      refine f_ls [1, 2, 0] rfl ?_
      exact H
    · replace H := H.2 h6
      refine f_iconst (v := 0) dL_alike_481 (by decide) ?_
      exact f_zret rfl rfl dL_alike_482 ⟨_, rfl, H⟩
