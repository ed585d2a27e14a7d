set_option maxRecDepth 20000 in
set_option maxHeartbeats 2000000 in
theorem b_Jxa1e45_init_da8c8 {G : fG} {l : Launch} {K : Option zS → fW → Prop} {r0 : Nat} {o : Option zS} {ω : fW} {kb : Nat}
    (H : K o ω) :
    FC G l M_Jxa1e45_init_da8c8 kb [.ref r0] (o, ω) (fQv K) := by
  refine FC_of (by decide) (Nat.le_of_ble_eq_true rfl) ?_
  change FV _ _ _ _ _ 0 [(0, .ref r0)] [] _
  refine f_aload_n dJxa1e45_init_da8c8_0 rfl 0 rfl ?_
  refine f_obj qo_Jxa1e45_1 qi_obj qc_obj (by decide) (Nat.le_of_ble_eq_true rfl) dJxa1e45_init_da8c8_1 ?_
  exact f_vret rfl dJxa1e45_init_da8c8_4 ⟨rfl, H⟩
set_option maxRecDepth 20000 in
set_option maxHeartbeats 2000000 in
theorem b_Jxc12de_init_da8c8 {G : fG} {l : Launch} {K : Option zS → fW → Prop} {r0 : Nat} {o : Option zS} {ω : fW} {kb : Nat}
    (H : (0 ≤ kb ∧ FC G l M_Jxa1e45_init_da8c8 0 [.ref r0] (o, ω) (fQv (fun o2 ω3 => (∃ fs4 : List Value, ω3 r0 = some (.inr (3, fs4)) ∧ 0 < fs4.length ∧ (∀ ω5 : fW, ω5 = fup ω3 r0 (.inr (3, fs4.set 0 (.int 0))) → K o2 ω5)))))) :
    FC G l M_Jxc12de_init_da8c8 kb [.ref r0] (o, ω) (fQv K) := by
  refine FC_of (by decide) (Nat.le_of_ble_eq_true rfl) ?_
  change FV _ _ _ _ _ 0 [(0, .ref r0)] [] _
  refine f_aload_n dJxc12de_init_da8c8_0 rfl 0 rfl ?_
  refine f_callIv (j1 := 0) (j2 := kb) (av := []) rfl H.2 i_Jxa1e45_init_da8c8 rfl rfl rfl n_Jxa1e45_init_da8c8 q_Jxc12de_1 (by decide) (f_kj H.1) (Nat.le_of_ble_eq_true rfl) dJxc12de_init_da8c8_1 (fun o2 ω3 H => ?_)
  refine f_aload_n dJxc12de_init_da8c8_4 rfl 0 rfl ?_
  refine f_iconst (v := 0) dJxc12de_init_da8c8_5 (by decide) ?_
  obtain ⟨fs4, hfs4, gfs4, H⟩ := H
  refine pf_Jxc12de_7 rfl hfs4 gfs4 dJxc12de_init_da8c8_6 ?_
  replace H := H _ rfl
  generalize fup ω3 r0 (.inr (3, fs4.set 0 (.int 0))) = ω5 at H ⊢
  exact f_vret rfl dJxc12de_init_da8c8_9 ⟨rfl, H⟩
set_option maxRecDepth 20000 in
set_option maxHeartbeats 2000000 in
theorem b_Jx4a65c_init_da8c8 {G : fG} {l : Launch} {K : Option zS → fW → Prop} {r0 : Nat} {o : Option zS} {ω : fW} {kb : Nat}
    (H : (0 ≤ kb ∧ FC G l M_Jxc12de_init_da8c8 0 [.ref r0] (o, ω) (fQv (fun o2 ω3 => (∃ fs4 : List Value, ω3 r0 = some (.inr (3, fs4)) ∧ 1 < fs4.length ∧ (∀ ω5 : fW, ω5 = fup ω3 r0 (.inr (3, fs4.set 1 (.ref (G.1.2.2.2.2.2 100)))) → K o2 ω5)))))) :
    FC G l M_Jx4a65c_init_da8c8 kb [.ref r0] (o, ω) (fQv K) := by
  refine FC_of (by decide) (Nat.le_of_ble_eq_true rfl) ?_
  change FV _ _ _ _ _ 0 [(0, .ref r0)] [] _
  refine f_aload_n dJx4a65c_init_da8c8_0 rfl 0 rfl ?_
  refine f_callIv (j1 := 0) (j2 := kb) (av := []) rfl H.2 i_Jxc12de_init_da8c8 rfl rfl rfl n_Jxc12de_init_da8c8 q_Jx4a65c_1 (by decide) (f_kj H.1) (Nat.le_of_ble_eq_true rfl) dJx4a65c_init_da8c8_1 (fun o2 ω3 H => ?_)
  refine f_aload_n dJx4a65c_init_da8c8_4 rfl 0 rfl ?_
  refine f_sdef qs_Jx4a65c_39 dJx4a65c_init_da8c8_5 ?_
  obtain ⟨fs4, hfs4, gfs4, H⟩ := H
  refine pf_Jx4a65c_9 rfl hfs4 gfs4 dJx4a65c_init_da8c8_8 ?_
  replace H := H _ rfl
  generalize fup ω3 r0 (.inr (3, fs4.set 1 (.ref (G.1.2.2.2.2.2 100)))) = ω5 at H ⊢
  exact f_vret rfl dJx4a65c_init_da8c8_11 ⟨rfl, H⟩
set_option maxRecDepth 20000 in
set_option maxHeartbeats 2000000 in
theorem b_J8_newLength_cabcc {G : fG} {l : Launch} {K : Int32 → Option zS → fW → Prop} {x0 : Int32} {x1 : Int32} {x2 : Int32} {o : Option zS} {ω : fW} {kb : Nat}
    (H : (((x0 + (zmax x1 x2)) ≤ 0 → False) ∧ (¬ (x0 + (zmax x1 x2)) ≤ 0 → ((2147483639 < (x0 + (zmax x1 x2)) → False) ∧ (¬ 2147483639 < (x0 + (zmax x1 x2)) → K (x0 + (zmax x1 x2)) o ω))))) :
    FC G l M_J8_newLength_cabcc kb [.int x0, .int x1, .int x2] (o, ω) (fQi K) := by
  refine FC_of (by decide) (Nat.le_of_ble_eq_true rfl) ?_
  change FV _ _ _ _ _ 0 [(0, .int x0), (1, .int x1), (2, .int x2)] [] _
  refine f_iload_n dJ8_newLength_cabcc_0 rfl 0 rfl ?_
  refine f_iload_n dJ8_newLength_cabcc_1 rfl 1 rfl ?_
  refine f_iload_n dJ8_newLength_cabcc_2 rfl 2 rfl ?_
  refine f_mmax qm_J8_194 ms_max mi_math mc_max (by decide) (Nat.le_of_ble_eq_true rfl) dJ8_newLength_cabcc_3 ?_
  change FV _ _ _ _ _ _ _ (.int (zmax x1 x2) :: _) _
  refine f_iadd dJ8_newLength_cabcc_6 ?_
  refine f_istore_n (ls' := [(3, .int (x0 + (zmax x1 x2))), (0, .int x0), (1, .int x1), (2, .int x2)]) dJ8_newLength_cabcc_7 rfl (by decide) rfl ?_
  refine f_iconst (v := 0) dJ8_newLength_cabcc_8 (by decide) ?_
  refine f_iload_n dJ8_newLength_cabcc_9 rfl 0 rfl ?_
  refine f_icmp_ge (tgt := 21) dJ8_newLength_cabcc_10 (by decide) (fun h1 => ?_) (fun h1 => ?_)
  · replace H := H.1 h1
    refine f_iload_n dJ8_newLength_cabcc_21 rfl 1 rfl ?_
    refine f_iload_n dJ8_newLength_cabcc_22 rfl 2 rfl ?_
    exact H.elim
  · replace H := H.2 h1
    refine f_iload_n dJ8_newLength_cabcc_13 rfl 0 rfl ?_
    refine f_ldc k_J8_200 dJ8_newLength_cabcc_14 ?_
    refine f_icmp_gt (tgt := 21) dJ8_newLength_cabcc_16 (by decide) (fun h2 => ?_) (fun h2 => ?_)
    · replace H := H.1 h2
      refine f_iload_n dJ8_newLength_cabcc_21 rfl 1 rfl ?_
      refine f_iload_n dJ8_newLength_cabcc_22 rfl 2 rfl ?_
      exact H.elim
    · replace H := H.2 h2
      refine f_iload_n dJ8_newLength_cabcc_19 rfl 0 rfl ?_
      exact f_iret rfl dJ8_newLength_cabcc_20 ⟨_, rfl, H⟩
set_option maxRecDepth 20000 in
set_option maxHeartbeats 2000000 in
theorem b_Jx35411_init_45d68 {G : fG} {l : Launch} {K : Option zS → fW → Prop} {r0 : Nat} {r1 : Nat} {o : Option zS} {ω : fW} {kb : Nat}
    (H : (∃ fs1 : List Value, ω r0 = some (.inr (2, fs1)) ∧ 3 < fs1.length ∧ (∀ ω2 : fW, ω2 = fup ω r0 (.inr (2, fs1.set 3 (.ref r1))) → (∃ fs3 : List Value, ω2 r0 = some (.inr (2, fs3)) ∧ 1 < fs3.length ∧ (∀ ω4 : fW, ω4 = fup ω2 r0 (.inr (2, fs3.set 1 (.int (-1)))) → (∃ (fs5 : List Value) (w6 : Nat), ω4 r0 = some (.inr (2, fs5)) ∧ fs5[3]? = some (.ref w6) ∧ (∃ (fs7 : List Value) (w8 : Int32), ω4 w6 = some (.inr (3, fs7)) ∧ fs7[0]? = some (.int w8) ∧ (∃ fs9 : List Value, ω4 r0 = some (.inr (2, fs9)) ∧ 2 < fs9.length ∧ (∀ ω10 : fW, ω10 = fup ω4 r0 (.inr (2, fs9.set 2 (.int w8))) → K o ω10))))))))) :
    FC G l M_Jx35411_init_45d68 kb [.ref r0, .ref r1] (o, ω) (fQv K) := by
  refine FC_of (by decide) (Nat.le_of_ble_eq_true rfl) ?_
  change FV _ _ _ _ _ 0 [(0, .ref r0), (1, .ref r1)] [] _
  refine f_aload_n dJx35411_init_45d68_0 rfl 0 rfl ?_
  refine f_aload_n dJx35411_init_45d68_1 rfl 1 rfl ?_
  obtain ⟨fs1, hfs1, gfs1, H⟩ := H
  refine pf_Jx35411_1 rfl rfl hfs1 gfs1 dJx35411_init_45d68_2 ?_
  replace H := H _ rfl
  generalize fup ω r0 (.inr (2, fs1.set 3 (.ref r1))) = ω2 at H ⊢
  refine f_aload_n dJx35411_init_45d68_5 rfl 0 rfl ?_
  refine f_obj qo_Jx35411_7 qi_obj qc_obj (by decide) (Nat.le_of_ble_eq_true rfl) dJx35411_init_45d68_6 ?_
  refine f_aload_n dJx35411_init_45d68_9 rfl 0 rfl ?_
  refine f_iconst (v := (-1)) dJx35411_init_45d68_10 (by decide) ?_
  obtain ⟨fs3, hfs3, gfs3, H⟩ := H
  refine pf_Jx35411_13 rfl hfs3 gfs3 dJx35411_init_45d68_11 ?_
  replace H := H _ rfl
  generalize fup ω2 r0 (.inr (2, fs3.set 1 (.int (-1)))) = ω4 at H ⊢
  refine f_aload_n dJx35411_init_45d68_14 rfl 0 rfl ?_
  refine f_aload_n dJx35411_init_45d68_15 rfl 0 rfl ?_
  obtain ⟨fs5, w6, hfs5, gfs5, H⟩ := H
  refine gf_Jx35411_1 rfl hfs5 gfs5 dJx35411_init_45d68_16 ?_
  obtain ⟨fs7, w8, hfs7, gfs7, H⟩ := H
  refine gf_Jx35411_17 rfl hfs7 gfs7 dJx35411_init_45d68_19 ?_
  obtain ⟨fs9, hfs9, gfs9, H⟩ := H
  refine pf_Jx35411_22 rfl hfs9 gfs9 dJx35411_init_45d68_22 ?_
  replace H := H _ rfl
  generalize fup ω4 r0 (.inr (2, fs9.set 2 (.int w8))) = ω10 at H ⊢
  exact f_vret rfl dJx35411_init_45d68_25 ⟨rfl, H⟩
set_option maxRecDepth 20000 in
set_option maxHeartbeats 2000000 in
theorem b_Jx35411_hasNext_aae02 {G : fG} {l : Launch} {K : Int32 → Option zS → fW → Prop} {r0 : Nat} {o : Option zS} {ω : fW} {kb : Nat}
    (H : (∃ (fs1 : List Value) (w2 : Int32), ω r0 = some (.inr (2, fs1)) ∧ fs1[0]? = some (.int w2) ∧ (∃ (fs3 : List Value) (w4 : Nat), ω r0 = some (.inr (2, fs3)) ∧ fs3[3]? = some (.ref w4) ∧ (∃ (fs5 : List Value) (w6 : Int32), ω w4 = some (.inr (3, fs5)) ∧ fs5[2]? = some (.int w6) ∧ ((w2 = w6 → K 0 o ω) ∧ (¬ w2 = w6 → K 1 o ω)))))) :
    FC G l M_Jx35411_hasNext_aae02 kb [.ref r0] (o, ω) (fQi K) := by
  refine FC_of (by decide) (Nat.le_of_ble_eq_true rfl) ?_
  change FV _ _ _ _ _ 0 [(0, .ref r0)] [] _
  refine f_aload_n dJx35411_hasNext_aae02_0 rfl 0 rfl ?_
  obtain ⟨fs1, w2, hfs1, gfs1, H⟩ := H
  refine gf_Jx35411_25 rfl hfs1 gfs1 dJx35411_hasNext_aae02_1 ?_
  refine f_aload_n dJx35411_hasNext_aae02_4 rfl 0 rfl ?_
  obtain ⟨fs3, w4, hfs3, gfs3, H⟩ := H
  refine gf_Jx35411_1 rfl hfs3 gfs3 dJx35411_hasNext_aae02_5 ?_
  obtain ⟨fs5, w6, hfs5, gfs5, H⟩ := H
  refine gf_Jx35411_28 rfl hfs5 gfs5 dJx35411_hasNext_aae02_8 ?_
  refine f_icmp_eq (tgt := 18) dJx35411_hasNext_aae02_11 (by decide) (fun h7 => ?_) (fun h7 => ?_)
  · replace H := H.1 h7
    refine f_iconst (v := 0) dJx35411_hasNext_aae02_18 (by decide) ?_
    exact f_zret rfl rfl dJx35411_hasNext_aae02_19 ⟨_, rfl, H⟩
  · replace H := H.2 h7
    refine f_iconst (v := 1) dJx35411_hasNext_aae02_14 (by decide) ?_
    refine f_goto (tgt := 19) dJx35411_hasNext_aae02_15 (by decide) ?_
    exact f_zret rfl rfl dJx35411_hasNext_aae02_19 ⟨_, rfl, H⟩
set_option maxRecDepth 20000 in
set_option maxHeartbeats 2000000 in
theorem b_Jx35411_next_0502b {G : fG} {l : Launch} {K : Nat → Option zS → fW → Prop} {r0 : Nat} {o : Option zS} {ω : fW} {kb : Nat}
    (H : (0 ≤ kb ∧ ∃ fs33 : List Value, ω r0 = some (.inr (2, fs33)) ∧ FC G l M_Jx35411_checkForComodification_da8c8 0 [.ref r0] (o, ω) (fQv (fun o2 ω3 => (∃ (fs4 : List Value) (w5 : Int32), ω3 r0 = some (.inr (2, fs4)) ∧ fs4[0]? = some (.int w5) ∧ (∃ (fs6 : List Value) (w7 : Nat), ω3 r0 = some (.inr (2, fs6)) ∧ fs6[3]? = some (.ref w7) ∧ (∃ (fs8 : List Value) (w9 : Int32), ω3 w7 = some (.inr (3, fs8)) ∧ fs8[2]? = some (.int w9) ∧ ((w5 < w9 → (∃ (fs11 : List Value) (w12 : Nat), ω3 r0 = some (.inr (2, fs11)) ∧ fs11[3]? = some (.ref w12) ∧ (∃ (fs13 : List Value) (w14 : Nat), ω3 w12 = some (.inr (3, fs13)) ∧ fs13[1]? = some (.ref w14) ∧ (∃ z24 : Nat, ((w14 = G.1.2.2.2.2.2 100 ∧ z24 = 0) ∨ ∃ f : Nat → Option Nat, ω3 w14 = some (.inl (G.1.2.1 5, z24, .inr (.inr (.inr (.inr f)))))) ∧ ((w5 < (nI z24) → (∃ fs26 : List Value, ω3 r0 = some (.inr (2, fs26)) ∧ 0 < fs26.length ∧ (∀ ω27 : fW, ω27 = fup ω3 r0 (.inr (2, fs26.set 0 (.int (w5 + 1)))) → (∃ fs28 : List Value, ω27 r0 = some (.inr (2, fs28)) ∧ 1 < fs28.length ∧ (∀ ω29 : fW, ω29 = fup ω27 r0 (.inr (2, fs28.set 1 (.int w5))) → (∃ (n30 : Nat) (f31 : Nat → Option Nat) (w32 : Nat), ω29 w14 = some (.inl (G.1.2.1 5, n30, .inr (.inr (.inr (.inr f31))))) ∧ vp_in w5 n30 ∧ f31 (Int32.toNatClampNeg w5) = some w32 ∧ K w32 o2 ω29)))))) ∧ (¬ w5 < (nI z24) → False)))))) ∧ (¬ w5 < w9 → False))))))))) :
    FC G l M_Jx35411_next_0502b kb [.ref r0] (o, ω) (fQr K) := by
  refine FC_of (by decide) (Nat.le_of_ble_eq_true rfl) ?_
  change FV _ _ _ _ _ 0 [(0, .ref r0)] [] _
  refine f_aload_n dJx35411_next_0502b_0 rfl 0 rfl ?_
  have hkfs33 := H.1
  obtain ⟨fs33, hfs33, H⟩ := H.2
  refine f_callVv (C := RJx35411) (j1 := 0) (j2 := kb) (av := []) rfl hfs33 rfl rfl H i_Jx35411_checkForComodification_da8c8 rfl n_Jx35411_checkForComodification_da8c8 v_Jx35411_checkForComodification_da8c8 q_Jx35411_31 (by decide) (f_kj hkfs33) (Nat.le_of_ble_eq_true rfl) dJx35411_next_0502b_1 (fun o2 ω3 H => ?_)
  refine f_aload_n dJx35411_next_0502b_4 rfl 0 rfl ?_
  obtain ⟨fs4, w5, hfs4, gfs4, H⟩ := H
  refine gf_Jx35411_25 rfl hfs4 gfs4 dJx35411_next_0502b_5 ?_
  refine f_istore_n (ls' := [(1, .int w5), (0, .ref r0)]) dJx35411_next_0502b_8 rfl (by decide) rfl ?_
  refine f_iload_n dJx35411_next_0502b_9 rfl 0 rfl ?_
  refine f_aload_n dJx35411_next_0502b_10 rfl 1 rfl ?_
  obtain ⟨fs6, w7, hfs6, gfs6, H⟩ := H
  refine gf_Jx35411_1 rfl hfs6 gfs6 dJx35411_next_0502b_11 ?_
  obtain ⟨fs8, w9, hfs8, gfs8, H⟩ := H
  refine gf_Jx35411_28 rfl hfs8 gfs8 dJx35411_next_0502b_14 ?_
  refine f_icmp_lt (tgt := 28) dJx35411_next_0502b_17 (by decide) (fun h10 => ?_) (fun h10 => ?_)
  · replace H := H.1 h10
    refine f_aload_n dJx35411_next_0502b_28 rfl 1 rfl ?_
    obtain ⟨fs11, w12, hfs11, gfs11, H⟩ := H
    refine gf_Jx35411_1 rfl hfs11 gfs11 dJx35411_next_0502b_29 ?_
    obtain ⟨fs13, w14, hfs13, gfs13, H⟩ := H
    refine gf_Jx35411_37 rfl hfs13 gfs13 dJx35411_next_0502b_32 ?_
    refine f_astore_n (ls' := [(2, .ref w14), (1, .int w5), (0, .ref r0)]) dJx35411_next_0502b_35 rfl (by decide) rfl ?_
    refine f_iload_n dJx35411_next_0502b_36 rfl 1 rfl ?_
    refine f_aload_n dJx35411_next_0502b_37 rfl 0 rfl ?_
    obtain ⟨z24, hz24, H⟩ := H
    refine f_qlen hz24 dJx35411_next_0502b_38 ?_
    refine f_icmp_lt (tgt := 50) dJx35411_next_0502b_39 (by decide) (fun h25 => ?_) (fun h25 => ?_)
    · replace H := H.1 h25
      refine f_aload_n dJx35411_next_0502b_50 rfl 2 rfl ?_
      refine f_iload_n dJx35411_next_0502b_51 rfl 1 rfl ?_
      refine f_iconst (v := 1) dJx35411_next_0502b_52 (by decide) ?_
      refine f_iadd dJx35411_next_0502b_53 ?_
      obtain ⟨fs26, hfs26, gfs26, H⟩ := H
      refine pf_Jx35411_25 rfl hfs26 gfs26 dJx35411_next_0502b_54 ?_
      replace H := H _ rfl
      generalize fup ω3 r0 (.inr (2, fs26.set 0 (.int (w5 + 1)))) = ω27 at H ⊢
      refine f_aload_n dJx35411_next_0502b_57 rfl 0 rfl ?_
      refine f_aload_n dJx35411_next_0502b_58 rfl 2 rfl ?_
      refine f_iload_n dJx35411_next_0502b_59 rfl 1 rfl ?_
      refine f_dup_x1 dJx35411_next_0502b_60 rfl rfl ?_
      obtain ⟨fs28, hfs28, gfs28, H⟩ := H
      refine pf_Jx35411_13 rfl hfs28 gfs28 dJx35411_next_0502b_61 ?_
      replace H := H _ rfl
      generalize fup ω27 r0 (.inr (2, fs28.set 1 (.int w5))) = ω29 at H ⊢
      obtain ⟨n30, f31, w32, hn30, gn30, en30, H⟩ := H
      refine f_aald5 hn30 gn30 en30 dJx35411_next_0502b_64 ?_
      exact f_aret rfl (Or.inl ⟨_, rfl⟩) dJx35411_next_0502b_65 ⟨_, rfl, H⟩
    · replace H := H.2 h25
      exact H.elim
  · replace H := H.2 h10
    exact H.elim
set_option maxRecDepth 20000 in
set_option maxHeartbeats 2000000 in
theorem b_Jx35411_checkForComodification_da8c8 {G : fG} {l : Launch} {K : Option zS → fW → Prop} {r0 : Nat} {o : Option zS} {ω : fW} {kb : Nat}
    (H : (∃ (fs1 : List Value) (w2 : Nat), ω r0 = some (.inr (2, fs1)) ∧ fs1[3]? = some (.ref w2) ∧ (∃ (fs3 : List Value) (w4 : Int32), ω w2 = some (.inr (3, fs3)) ∧ fs3[0]? = some (.int w4) ∧ (∃ (fs5 : List Value) (w6 : Int32), ω r0 = some (.inr (2, fs5)) ∧ fs5[2]? = some (.int w6) ∧ ((w4 = w6 → K o ω) ∧ (¬ w4 = w6 → False)))))) :
    FC G l M_Jx35411_checkForComodification_da8c8 kb [.ref r0] (o, ω) (fQv K) := by
  refine FC_of (by decide) (Nat.le_of_ble_eq_true rfl) ?_
  change FV _ _ _ _ _ 0 [(0, .ref r0)] [] _
  refine f_aload_n dJx35411_checkForComodification_da8c8_0 rfl 0 rfl ?_
  obtain ⟨fs1, w2, hfs1, gfs1, H⟩ := H
  refine gf_Jx35411_1 rfl hfs1 gfs1 dJx35411_checkForComodification_da8c8_1 ?_
  obtain ⟨fs3, w4, hfs3, gfs3, H⟩ := H
  refine gf_Jx35411_17 rfl hfs3 gfs3 dJx35411_checkForComodification_da8c8_4 ?_
  refine f_aload_n dJx35411_checkForComodification_da8c8_7 rfl 0 rfl ?_
  obtain ⟨fs5, w6, hfs5, gfs5, H⟩ := H
  refine gf_Jx35411_22 rfl hfs5 gfs5 dJx35411_checkForComodification_da8c8_8 ?_
  refine f_icmp_eq (tgt := 22) dJx35411_checkForComodification_da8c8_11 (by decide) (fun h7 => ?_) (fun h7 => ?_)
  · replace H := H.1 h7
    exact f_vret rfl dJx35411_checkForComodification_da8c8_22 ⟨rfl, H⟩
  · replace H := H.2 h7
    exact H.elim
set_option maxRecDepth 20000 in
set_option maxHeartbeats 2000000 in
theorem b_Jx4a65c_grow_92f84 {G : fG} {l : Launch} {K : Nat → Option zS → fW → Prop} {r0 : Nat} {x1 : Int32} {o : Option zS} {ω : fW} {kb : Nat}
    (H : (∃ (fs1 : List Value) (w2 : Nat), ω r0 = some (.inr (3, fs1)) ∧ fs1[1]? = some (.ref w2) ∧ (∃ z34 : Nat, ((w2 = G.1.2.2.2.2.2 100 ∧ z34 = 0) ∨ ∃ f : Nat → Option Nat, ω w2 = some (.inl (G.1.2.1 5, z34, .inr (.inr (.inr (.inr f)))))) ∧ ((0 < (nI z34) → (0 ≤ kb ∧ FC G l M_J8_newLength_cabcc 0 [.int (nI z34), .int (x1 - (nI z34)), .int ((nI z34) >>> (1 &&& 31))] (o, ω) (fQi (fun v36 o37 ω38 => (∃ (fs39 : List Value) (w40 : Nat), ω38 r0 = some (.inr (3, fs39)) ∧ fs39[1]? = some (.ref w40) ∧ (3 ≤ kb ∧ FC G l M_J7_copyOf_1904c 3 [.ref w40, .int v36] (o37, ω38) (fQr (fun v41 o42 ω43 => (∃ fs44 : List Value, ω43 r0 = some (.inr (3, fs44)) ∧ 1 < fs44.length ∧ (∀ ω45 : fW, ω45 = fup ω43 r0 (.inr (3, fs44.set 1 (.ref v41))) → K v41 o42 ω45)))))))))) ∧ (¬ 0 < (nI z34) → (∃ (fs46 : List Value) (w47 : Nat), ω r0 = some (.inr (3, fs46)) ∧ fs46[1]? = some (.ref w47) ∧ ((w47 = (G.1.2.2.2.2.2 100) → (∃ N51 u52 : Nat, (zmax 10 x1) = nI N51 ∧ N51 ≤ 40000 ∧ 1 ≤ u52 ∧ N51 ≤ 12 * u52 ∧ u52 ≤ kb ∧ ∀ (q49 : Nat) (ω50 : fW), ω q49 = none → ω50 = fup ω q49 (.inl (G.1.2.1 5, N51, .inr (.inr (.inr (.inr (fun _ => none)))))) → (∃ fs53 : List Value, ω50 r0 = some (.inr (3, fs53)) ∧ 1 < fs53.length ∧ (∀ ω54 : fW, ω54 = fup ω50 r0 (.inr (3, fs53.set 1 (.ref q49))) → K q49 o ω54)))) ∧ (¬ w47 = (G.1.2.2.2.2.2 100) → (0 ≤ kb ∧ FC G l M_J8_newLength_cabcc 0 [.int (nI z34), .int (x1 - (nI z34)), .int ((nI z34) >>> (1 &&& 31))] (o, ω) (fQi (fun v55 o56 ω57 => (∃ (fs58 : List Value) (w59 : Nat), ω57 r0 = some (.inr (3, fs58)) ∧ fs58[1]? = some (.ref w59) ∧ (3 ≤ kb ∧ FC G l M_J7_copyOf_1904c 3 [.ref w59, .int v55] (o56, ω57) (fQr (fun v60 o61 ω62 => (∃ fs63 : List Value, ω62 r0 = some (.inr (3, fs63)) ∧ 1 < fs63.length ∧ (∀ ω64 : fW, ω64 = fup ω62 r0 (.inr (3, fs63.set 1 (.ref v60))) → K v60 o61 ω64))))))))))))))))) :
    FC G l M_Jx4a65c_grow_92f84 kb [.ref r0, .int x1] (o, ω) (fQr K) := by
  refine FC_of (by decide) (Nat.le_of_ble_eq_true rfl) ?_
  change FV _ _ _ _ _ 0 [(0, .ref r0), (1, .int x1)] [] _
  refine f_aload_n dJx4a65c_grow_92f84_0 rfl 0 rfl ?_
  obtain ⟨fs1, w2, hfs1, gfs1, H⟩ := H
  refine gf_Jx4a65c_9 rfl hfs1 gfs1 dJx4a65c_grow_92f84_1 ?_
  obtain ⟨z34, hz34, H⟩ := H
  refine f_qlen hz34 dJx4a65c_grow_92f84_4 ?_
  refine f_istore_n (ls' := [(2, .int (nI z34)), (0, .ref r0), (1, .int x1)]) dJx4a65c_grow_92f84_5 rfl (by decide) rfl ?_
  refine f_iload_n dJx4a65c_grow_92f84_6 rfl 0 rfl ?_
  refine f_if_gt (tgt := 20) dJx4a65c_grow_92f84_7 (by decide) (fun h35 => ?_) (fun h35 => ?_)
  · replace H := H.1 h35
    refine f_iload_n dJx4a65c_grow_92f84_20 rfl 0 rfl ?_
    refine f_iload_n dJx4a65c_grow_92f84_21 rfl 2 rfl ?_
    refine f_iload_n dJx4a65c_grow_92f84_22 rfl 0 rfl ?_
    refine f_isub dJx4a65c_grow_92f84_23 ?_
    refine f_iload_n dJx4a65c_grow_92f84_24 rfl 0 rfl ?_
    refine f_iconst (v := 1) dJx4a65c_grow_92f84_25 (by decide) ?_
    refine f_ishr dJx4a65c_grow_92f84_26 ?_
    refine f_callSi (j1 := 0) (j2 := kb) (av := [.int (nI z34), .int (x1 - (nI z34)), .int ((nI z34) >>> (1 &&& 31))]) rfl H.2 i_J8_newLength_cabcc rfl s_J8_newLength_cabcc q_Jx4a65c_73 (by decide) (f_kj H.1) (Nat.le_of_ble_eq_true rfl) dJx4a65c_grow_92f84_27 (fun v36 o37 ω38 H => ?_)
    refine f_istore_n (ls' := [(3, .int v36), (2, .int (nI z34)), (0, .ref r0), (1, .int x1)]) dJx4a65c_grow_92f84_30 rfl (by decide) rfl ?_
    refine f_aload_n dJx4a65c_grow_92f84_31 rfl 2 rfl ?_
    refine f_aload_n dJx4a65c_grow_92f84_32 rfl 2 rfl ?_
    obtain ⟨fs39, w40, hfs39, gfs39, H⟩ := H
    refine gf_Jx4a65c_9 rfl hfs39 gfs39 dJx4a65c_grow_92f84_33 ?_
    refine f_iload_n dJx4a65c_grow_92f84_36 rfl 0 rfl ?_
    refine f_callSr (j1 := 3) (j2 := (kb - 3)) (av := [.ref w40, .int v36]) rfl H.2 i_J7_copyOf_1904c rfl s_J7_copyOf_1904c q_Jx4a65c_66 (by decide) (f_kj H.1) (Nat.le_of_ble_eq_true rfl) dJx4a65c_grow_92f84_37 (fun v41 o42 ω43 H => ?_)
    refine f_dup_x1 dJx4a65c_grow_92f84_40 rfl rfl ?_
    obtain ⟨fs44, hfs44, gfs44, H⟩ := H
    refine pf_Jx4a65c_9 rfl hfs44 gfs44 dJx4a65c_grow_92f84_41 ?_
    replace H := H _ rfl
    generalize fup ω43 r0 (.inr (3, fs44.set 1 (.ref v41))) = ω45 at H ⊢
    exact f_aret rfl (Or.inr ⟨_, rfl⟩) dJx4a65c_grow_92f84_44 ⟨_, rfl, H⟩
  · replace H := H.2 h35
    refine f_aload_n dJx4a65c_grow_92f84_10 rfl 1 rfl ?_
    obtain ⟨fs46, w47, hfs46, gfs46, H⟩ := H
    refine gf_Jx4a65c_9 rfl hfs46 gfs46 dJx4a65c_grow_92f84_11 ?_
    refine f_sdef qs_Jx4a65c_39 dJx4a65c_grow_92f84_14 ?_
    refine f_acmpR_eq (tgt := 45) dJx4a65c_grow_92f84_17 (by decide) (fun h48 => ?_) (fun h48 => ?_)
    · replace H := H.1 h48
      refine f_aload_n dJx4a65c_grow_92f84_45 rfl 1 rfl ?_
      refine f_bipush (v := 10) dJx4a65c_grow_92f84_46 (by decide) ?_
      refine f_iload_n dJx4a65c_grow_92f84_48 rfl 2 rfl ?_
      refine f_mmax qm_Jx4a65c_79 ms_max mi_math mc_max (by decide) (Nat.le_of_ble_eq_true rfl) dJx4a65c_grow_92f84_49 ?_
      change FV _ _ _ _ _ _ _ (.int (zmax 10 x1) :: _) _
      obtain ⟨N51, u52, eN51, aN51, bN51, cN51, dN51, H⟩ := H
      refine f_newq (N := N51) (u := u52) cl_Jx4a65c_7 (by rw [eN51]; exact nI_pos (by omega)) (by rw [eN51]; exact nI_clamp (by omega)) (by omega) (f_ks dN51) ⟨bN51, cN51⟩ dJx4a65c_grow_92f84_52 (fun q49 hq49 => ?_)
      replace H := H q49 _ hq49 rfl
      generalize fup ω q49 (.inl (G.1.2.1 5, N51, .inr (.inr (.inr (.inr (fun _ => none)))))) = ω50 at H ⊢
      refine f_dup_x1 dJx4a65c_grow_92f84_55 rfl rfl ?_
      obtain ⟨fs53, hfs53, gfs53, H⟩ := H
      refine pf_Jx4a65c_9 rfl hfs53 gfs53 dJx4a65c_grow_92f84_56 ?_
      replace H := H _ rfl
      generalize fup ω50 r0 (.inr (3, fs53.set 1 (.ref q49))) = ω54 at H ⊢
      exact f_aret rfl (Or.inr ⟨_, rfl⟩) dJx4a65c_grow_92f84_59 ⟨_, rfl, H⟩
    · replace H := H.2 h48
      refine f_iload_n dJx4a65c_grow_92f84_20 rfl 0 rfl ?_
      refine f_iload_n dJx4a65c_grow_92f84_21 rfl 2 rfl ?_
      refine f_iload_n dJx4a65c_grow_92f84_22 rfl 0 rfl ?_
      refine f_isub dJx4a65c_grow_92f84_23 ?_
      refine f_iload_n dJx4a65c_grow_92f84_24 rfl 0 rfl ?_
      refine f_iconst (v := 1) dJx4a65c_grow_92f84_25 (by decide) ?_
      refine f_ishr dJx4a65c_grow_92f84_26 ?_
      refine f_callSi (j1 := 0) (j2 := kb) (av := [.int (nI z34), .int (x1 - (nI z34)), .int ((nI z34) >>> (1 &&& 31))]) rfl H.2 i_J8_newLength_cabcc rfl s_J8_newLength_cabcc q_Jx4a65c_73 (by decide) (f_kj H.1) (Nat.le_of_ble_eq_true rfl) dJx4a65c_grow_92f84_27 (fun v55 o56 ω57 H => ?_)
      refine f_istore_n (ls' := [(3, .int v55), (2, .int (nI z34)), (0, .ref r0), (1, .int x1)]) dJx4a65c_grow_92f84_30 rfl (by decide) rfl ?_
      refine f_aload_n dJx4a65c_grow_92f84_31 rfl 2 rfl ?_
      refine f_aload_n dJx4a65c_grow_92f84_32 rfl 2 rfl ?_
      obtain ⟨fs58, w59, hfs58, gfs58, H⟩ := H
      refine gf_Jx4a65c_9 rfl hfs58 gfs58 dJx4a65c_grow_92f84_33 ?_
      refine f_iload_n dJx4a65c_grow_92f84_36 rfl 0 rfl ?_
      refine f_callSr (j1 := 3) (j2 := (kb - 3)) (av := [.ref w59, .int v55]) rfl H.2 i_J7_copyOf_1904c rfl s_J7_copyOf_1904c q_Jx4a65c_66 (by decide) (f_kj H.1) (Nat.le_of_ble_eq_true rfl) dJx4a65c_grow_92f84_37 (fun v60 o61 ω62 H => ?_)
      refine f_dup_x1 dJx4a65c_grow_92f84_40 rfl rfl ?_
      obtain ⟨fs63, hfs63, gfs63, H⟩ := H
      refine pf_Jx4a65c_9 rfl hfs63 gfs63 dJx4a65c_grow_92f84_41 ?_
      replace H := H _ rfl
      generalize fup ω62 r0 (.inr (3, fs63.set 1 (.ref v60))) = ω64 at H ⊢
      exact f_aret rfl (Or.inr ⟨_, rfl⟩) dJx4a65c_grow_92f84_44 ⟨_, rfl, H⟩
set_option maxRecDepth 20000 in
set_option maxHeartbeats 2000000 in
theorem b_Jx4a65c_grow_d5877 {G : fG} {l : Launch} {K : Nat → Option zS → fW → Prop} {r0 : Nat} {o : Option zS} {ω : fW} {kb : Nat}
    (H : (∃ (fs1 : List Value) (w2 : Int32), ω r0 = some (.inr (3, fs1)) ∧ fs1[2]? = some (.int w2) ∧ (3 ≤ kb ∧ ∃ fs6 : List Value, ω r0 = some (.inr (3, fs6)) ∧ FC G l M_Jx4a65c_grow_92f84 3 [.ref r0, .int (w2 + 1)] (o, ω) (fQr (fun v3 o4 ω5 => K v3 o4 ω5))))) :
    FC G l M_Jx4a65c_grow_d5877 kb [.ref r0] (o, ω) (fQr K) := by
  refine FC_of (by decide) (Nat.le_of_ble_eq_true rfl) ?_
  change FV _ _ _ _ _ 0 [(0, .ref r0)] [] _
  refine f_aload_n dJx4a65c_grow_d5877_0 rfl 0 rfl ?_
  refine f_aload_n dJx4a65c_grow_d5877_1 rfl 0 rfl ?_
  obtain ⟨fs1, w2, hfs1, gfs1, H⟩ := H
  refine gf_Jx4a65c_48 rfl hfs1 gfs1 dJx4a65c_grow_d5877_2 ?_
  refine f_iconst (v := 1) dJx4a65c_grow_d5877_5 (by decide) ?_
  refine f_iadd dJx4a65c_grow_d5877_6 ?_
  have hkfs6 := H.1
  obtain ⟨fs6, hfs6, H⟩ := H.2
  refine f_callVr (C := RJx4a65c) (j1 := 3) (j2 := (kb - 3)) (av := [.int (w2 + 1)]) rfl hfs6 rfl rfl H i_Jx4a65c_grow_92f84 rfl n_Jx4a65c_grow_92f84 v_Jx4a65c_grow_92f84 q_Jx4a65c_69 (by decide) (f_kj hkfs6) (Nat.le_of_ble_eq_true rfl) dJx4a65c_grow_d5877_7 (fun v3 o4 ω5 H => ?_)
  exact f_aret rfl (Or.inr ⟨_, rfl⟩) dJx4a65c_grow_d5877_10 ⟨_, rfl, H⟩
set_option maxRecDepth 20000 in
set_option maxHeartbeats 2000000 in
theorem b_Jx4a65c_size_8abf5 {G : fG} {l : Launch} {K : Int32 → Option zS → fW → Prop} {r0 : Nat} {o : Option zS} {ω : fW} {kb : Nat}
    (H : (∃ (fs1 : List Value) (w2 : Int32), ω r0 = some (.inr (3, fs1)) ∧ fs1[2]? = some (.int w2) ∧ K w2 o ω)) :
    FC G l M_Jx4a65c_size_8abf5 kb [.ref r0] (o, ω) (fQi K) := by
  refine FC_of (by decide) (Nat.le_of_ble_eq_true rfl) ?_
  change FV _ _ _ _ _ 0 [(0, .ref r0)] [] _
  refine f_aload_n dJx4a65c_size_8abf5_0 rfl 0 rfl ?_
  obtain ⟨fs1, w2, hfs1, gfs1, H⟩ := H
  refine gf_Jx4a65c_48 rfl hfs1 gfs1 dJx4a65c_size_8abf5_1 ?_
  exact f_iret rfl dJx4a65c_size_8abf5_4 ⟨_, rfl, H⟩
set_option maxRecDepth 20000 in
set_option maxHeartbeats 2000000 in
theorem b_Jx4a65c_isEmpty_aae02 {G : fG} {l : Launch} {K : Int32 → Option zS → fW → Prop} {r0 : Nat} {o : Option zS} {ω : fW} {kb : Nat}
    (H : (∃ (fs1 : List Value) (w2 : Int32), ω r0 = some (.inr (3, fs1)) ∧ fs1[2]? = some (.int w2) ∧ ((¬ w2 = 0 → K 0 o ω) ∧ (w2 = 0 → K 1 o ω)))) :
    FC G l M_Jx4a65c_isEmpty_aae02 kb [.ref r0] (o, ω) (fQi K) := by
  refine FC_of (by decide) (Nat.le_of_ble_eq_true rfl) ?_
  change FV _ _ _ _ _ 0 [(0, .ref r0)] [] _
  refine f_aload_n dJx4a65c_isEmpty_aae02_0 rfl 0 rfl ?_
  obtain ⟨fs1, w2, hfs1, gfs1, H⟩ := H
  refine gf_Jx4a65c_48 rfl hfs1 gfs1 dJx4a65c_isEmpty_aae02_1 ?_
  refine f_if_ne (tgt := 11) dJx4a65c_isEmpty_aae02_4 (by decide) (fun h3 => ?_) (fun h3 => ?_)
  · replace H := H.1 h3
    refine f_iconst (v := 0) dJx4a65c_isEmpty_aae02_11 (by decide) ?_
    exact f_zret rfl rfl dJx4a65c_isEmpty_aae02_12 ⟨_, rfl, H⟩
  · replace H := H.2 h3
    refine f_iconst (v := 1) dJx4a65c_isEmpty_aae02_7 (by decide) ?_
    refine f_goto (tgt := 12) dJx4a65c_isEmpty_aae02_8 (by decide) ?_
    exact f_zret rfl rfl dJx4a65c_isEmpty_aae02_12 ⟨_, rfl, H⟩
set_option maxRecDepth 20000 in
set_option maxHeartbeats 2000000 in
theorem b_Jx4a65c_elementData_915e3 {G : fG} {l : Launch} {K : Nat → Option zS → fW → Prop} {r0 : Nat} {x1 : Int32} {o : Option zS} {ω : fW} {kb : Nat}
    (H : (∃ (fs1 : List Value) (w2 : Nat), ω r0 = some (.inr (3, fs1)) ∧ fs1[1]? = some (.ref w2) ∧ (∃ (n3 : Nat) (f4 : Nat → Option Nat) (w5 : Nat), ω w2 = some (.inl (G.1.2.1 5, n3, .inr (.inr (.inr (.inr f4))))) ∧ vp_in x1 n3 ∧ f4 (Int32.toNatClampNeg x1) = some w5 ∧ K w5 o ω))) :
    FC G l M_Jx4a65c_elementData_915e3 kb [.ref r0, .int x1] (o, ω) (fQr K) := by
  refine FC_of (by decide) (Nat.le_of_ble_eq_true rfl) ?_
  change FV _ _ _ _ _ 0 [(0, .ref r0), (1, .int x1)] [] _
  refine f_aload_n dJx4a65c_elementData_915e3_0 rfl 0 rfl ?_
  obtain ⟨fs1, w2, hfs1, gfs1, H⟩ := H
  refine gf_Jx4a65c_9 rfl hfs1 gfs1 dJx4a65c_elementData_915e3_1 ?_
  refine f_iload_n dJx4a65c_elementData_915e3_4 rfl 1 rfl ?_
  obtain ⟨n3, f4, w5, hn3, gn3, en3, H⟩ := H
  refine f_aald5 hn3 gn3 en3 dJx4a65c_elementData_915e3_5 ?_
  exact f_aret rfl (Or.inl ⟨_, rfl⟩) dJx4a65c_elementData_915e3_6 ⟨_, rfl, H⟩
set_option maxRecDepth 20000 in
set_option maxHeartbeats 2000000 in
theorem b_Jx4a65c_get_915e3 {G : fG} {l : Launch} {K : Nat → Option zS → fW → Prop} {r0 : Nat} {x1 : Int32} {o : Option zS} {ω : fW} {kb : Nat}
    (H : (∃ (fs1 : List Value) (w2 : Int32), ω r0 = some (.inr (3, fs1)) ∧ fs1[2]? = some (.int w2) ∧ (0 ≤ kb ∧ FC G l M_J15_checkIndex_7cf53 0 [.int x1, .int w2] (o, ω) (fQi (fun v3 o4 ω5 => (0 ≤ kb ∧ ∃ fs9 : List Value, ω5 r0 = some (.inr (3, fs9)) ∧ FC G l M_Jx4a65c_elementData_915e3 0 [.ref r0, .int x1] (o4, ω5) (fQr (fun v6 o7 ω8 => K v6 o7 ω8)))))))) :
    FC G l M_Jx4a65c_get_915e3 kb [.ref r0, .int x1] (o, ω) (fQr K) := by
  refine FC_of (by decide) (Nat.le_of_ble_eq_true rfl) ?_
  change FV _ _ _ _ _ 0 [(0, .ref r0), (1, .int x1)] [] _
  refine f_iload_n dJx4a65c_get_915e3_0 rfl 1 rfl ?_
  refine f_aload_n dJx4a65c_get_915e3_1 rfl 0 rfl ?_
  obtain ⟨fs1, w2, hfs1, gfs1, H⟩ := H
  refine gf_Jx4a65c_48 rfl hfs1 gfs1 dJx4a65c_get_915e3_2 ?_
  refine f_callSi (j1 := 0) (j2 := kb) (av := [.int x1, .int w2]) rfl H.2 i_J15_checkIndex_7cf53 rfl s_J15_checkIndex_7cf53 q_Jx4a65c_118 (by decide) (f_kj H.1) (Nat.le_of_ble_eq_true rfl) dJx4a65c_get_915e3_5 (fun v3 o4 ω5 H => ?_)
  refine f_pop dJx4a65c_get_915e3_8 rfl ?_
  refine f_aload_n dJx4a65c_get_915e3_9 rfl 0 rfl ?_
  refine f_iload_n dJx4a65c_get_915e3_10 rfl 1 rfl ?_
  have hkfs9 := H.1
  obtain ⟨fs9, hfs9, H⟩ := H.2
  refine f_callVr (C := RJx4a65c) (j1 := 0) (j2 := kb) (av := [.int x1]) rfl hfs9 rfl rfl H i_Jx4a65c_elementData_915e3 rfl n_Jx4a65c_elementData_915e3 v_Jx4a65c_elementData_915e3 q_Jx4a65c_123 (by decide) (f_kj hkfs9) (Nat.le_of_ble_eq_true rfl) dJx4a65c_get_915e3_11 (fun v6 o7 ω8 H => ?_)
  exact f_aret rfl (Or.inl ⟨_, rfl⟩) dJx4a65c_get_915e3_14 ⟨_, rfl, H⟩
set_option maxRecDepth 20000 in
set_option maxHeartbeats 2000000 in
theorem b_Jx4a65c_add_72be8 {G : fG} {l : Launch} {K : Option zS → fW → Prop} {r0 : Nat} {r1 : Nat} {r2 : Nat} {x3 : Int32} {o : Option zS} {ω : fW} {kb : Nat}
    (H : (∃ z21 : Nat, ((r2 = G.1.2.2.2.2.2 100 ∧ z21 = 0) ∨ ∃ f : Nat → Option Nat, ω r2 = some (.inl (G.1.2.1 5, z21, .inr (.inr (.inr (.inr f)))))) ∧ ((¬ x3 = (nI z21) → (∃ (n23 : Nat) (f24 : Nat → Option Nat) (y26 : vp_A), ω r2 = some (.inl (G.1.2.1 5, n23, .inr (.inr (.inr (.inr f24))))) ∧ ω r1 = some (.inl (G.1.2.1 0, y26)) ∧ vp_in x3 n23 ∧ (∀ ω27 : fW, ω27 = fup ω r2 (.inl (G.1.2.1 5, n23, .inr (.inr (.inr (.inr (va_up f24 (Int32.toNatClampNeg x3) (some r1))))))) → (∃ fs28 : List Value, ω27 r0 = some (.inr (3, fs28)) ∧ 2 < fs28.length ∧ (∀ ω29 : fW, ω29 = fup ω27 r0 (.inr (3, fs28.set 2 (.int (x3 + 1)))) → K o ω29))))) ∧ (x3 = (nI z21) → (3 ≤ kb ∧ ∃ fs40 : List Value, ω r0 = some (.inr (3, fs40)) ∧ FC G l M_Jx4a65c_grow_d5877 3 [.ref r0] (o, ω) (fQr (fun v30 o31 ω32 => (∃ (n33 : Nat) (f34 : Nat → Option Nat) (y36 : vp_A), ω32 v30 = some (.inl (G.1.2.1 5, n33, .inr (.inr (.inr (.inr f34))))) ∧ ω32 r1 = some (.inl (G.1.2.1 0, y36)) ∧ vp_in x3 n33 ∧ (∀ ω37 : fW, ω37 = fup ω32 v30 (.inl (G.1.2.1 5, n33, .inr (.inr (.inr (.inr (va_up f34 (Int32.toNatClampNeg x3) (some r1))))))) → (∃ fs38 : List Value, ω37 r0 = some (.inr (3, fs38)) ∧ 2 < fs38.length ∧ (∀ ω39 : fW, ω39 = fup ω37 r0 (.inr (3, fs38.set 2 (.int (x3 + 1)))) → K o31 ω39))))))))))) :
    FC G l M_Jx4a65c_add_72be8 kb [.ref r0, .ref r1, .ref r2, .int x3] (o, ω) (fQv K) := by
  refine FC_of (by decide) (Nat.le_of_ble_eq_true rfl) ?_
  change FV _ _ _ _ _ 0 [(0, .ref r0), (1, .ref r1), (2, .ref r2), (3, .int x3)] [] _
  refine f_iload_n dJx4a65c_add_72be8_0 rfl 3 rfl ?_
  refine f_aload_n dJx4a65c_add_72be8_1 rfl 2 rfl ?_
  obtain ⟨z21, hz21, H⟩ := H
  refine f_qlen hz21 dJx4a65c_add_72be8_2 ?_
  refine f_icmp_ne (tgt := 11) dJx4a65c_add_72be8_3 (by decide) (fun h22 => ?_) (fun h22 => ?_)
  · replace H := H.1 h22
    refine f_aload_n dJx4a65c_add_72be8_11 rfl 2 rfl ?_
    refine f_iload_n dJx4a65c_add_72be8_12 rfl 3 rfl ?_
    refine f_aload_n dJx4a65c_add_72be8_13 rfl 1 rfl ?_
    obtain ⟨n23, f24, y26, hn23, gn23, en23, H⟩ := H
    refine f_aast5 hn23 en23 gn23 dJx4a65c_add_72be8_14 ?_
    replace H := H _ rfl
    generalize fup ω r2 (.inl (G.1.2.1 5, n23, .inr (.inr (.inr (.inr (va_up f24 (Int32.toNatClampNeg x3) (some r1))))))) = ω27 at H ⊢
    refine f_aload_n dJx4a65c_add_72be8_15 rfl 0 rfl ?_
    refine f_iload_n dJx4a65c_add_72be8_16 rfl 3 rfl ?_
    refine f_iconst (v := 1) dJx4a65c_add_72be8_17 (by decide) ?_
    refine f_iadd dJx4a65c_add_72be8_18 ?_
    obtain ⟨fs28, hfs28, gfs28, H⟩ := H
    refine pf_Jx4a65c_48 rfl hfs28 gfs28 dJx4a65c_add_72be8_19 ?_
    replace H := H _ rfl
    generalize fup ω27 r0 (.inr (3, fs28.set 2 (.int (x3 + 1)))) = ω29 at H ⊢
    exact f_vret rfl dJx4a65c_add_72be8_22 ⟨rfl, H⟩
  · replace H := H.2 h22
    refine f_aload_n dJx4a65c_add_72be8_6 rfl 0 rfl ?_
    have hkfs40 := H.1
    obtain ⟨fs40, hfs40, H⟩ := H.2
    refine f_callVr (C := RJx4a65c) (j1 := 3) (j2 := (kb - 3)) (av := []) rfl hfs40 rfl rfl H i_Jx4a65c_grow_d5877 rfl n_Jx4a65c_grow_d5877 v_Jx4a65c_grow_d5877 q_Jx4a65c_129 (by decide) (f_kj hkfs40) (Nat.le_of_ble_eq_true rfl) dJx4a65c_add_72be8_7 (fun v30 o31 ω32 H => ?_)
    refine f_astore_n (ls' := [(2, .ref v30), (0, .ref r0), (1, .ref r1), (3, .int x3)]) dJx4a65c_add_72be8_10 rfl (by decide) rfl ?_
    refine f_aload_n dJx4a65c_add_72be8_11 rfl 0 rfl ?_
    refine f_iload_n dJx4a65c_add_72be8_12 rfl 3 rfl ?_
    refine f_aload_n dJx4a65c_add_72be8_13 rfl 2 rfl ?_
    obtain ⟨n33, f34, y36, hn33, gn33, en33, H⟩ := H
    refine f_aast5 hn33 en33 gn33 dJx4a65c_add_72be8_14 ?_
    replace H := H _ rfl
    generalize fup ω32 v30 (.inl (G.1.2.1 5, n33, .inr (.inr (.inr (.inr (va_up f34 (Int32.toNatClampNeg x3) (some r1))))))) = ω37 at H ⊢
    refine f_aload_n dJx4a65c_add_72be8_15 rfl 1 rfl ?_
    refine f_iload_n dJx4a65c_add_72be8_16 rfl 3 rfl ?_
    refine f_iconst (v := 1) dJx4a65c_add_72be8_17 (by decide) ?_
    refine f_iadd dJx4a65c_add_72be8_18 ?_
    obtain ⟨fs38, hfs38, gfs38, H⟩ := H
    refine pf_Jx4a65c_48 rfl hfs38 gfs38 dJx4a65c_add_72be8_19 ?_
    replace H := H _ rfl
    generalize fup ω37 r0 (.inr (3, fs38.set 2 (.int (x3 + 1)))) = ω39 at H ⊢
    exact f_vret rfl dJx4a65c_add_72be8_22 ⟨rfl, H⟩
set_option maxRecDepth 20000 in
set_option maxHeartbeats 2000000 in
theorem b_Jx4a65c_add_9ea2d {G : fG} {l : Launch} {K : Int32 → Option zS → fW → Prop} {r0 : Nat} {r1 : Nat} {o : Option zS} {ω : fW} {kb : Nat}
    (H : (∃ (fs1 : List Value) (w2 : Int32), ω r0 = some (.inr (3, fs1)) ∧ fs1[0]? = some (.int w2) ∧ (∃ fs3 : List Value, ω r0 = some (.inr (3, fs3)) ∧ 0 < fs3.length ∧ (∀ ω4 : fW, ω4 = fup ω r0 (.inr (3, fs3.set 0 (.int (w2 + 1)))) → (∃ (fs5 : List Value) (w6 : Nat), ω4 r0 = some (.inr (3, fs5)) ∧ fs5[1]? = some (.ref w6) ∧ (∃ (fs7 : List Value) (w8 : Int32), ω4 r0 = some (.inr (3, fs7)) ∧ fs7[2]? = some (.int w8) ∧ (3 ≤ kb ∧ ∃ fs12 : List Value, ω4 r0 = some (.inr (3, fs12)) ∧ FC G l M_Jx4a65c_add_72be8 3 [.ref r0, .ref r1, .ref w6, .int w8] (o, ω4) (fQv (fun o10 ω11 => K 1 o10 ω11))))))))) :
    FC G l M_Jx4a65c_add_9ea2d kb [.ref r0, .ref r1] (o, ω) (fQi K) := by
  refine FC_of (by decide) (Nat.le_of_ble_eq_true rfl) ?_
  change FV _ _ _ _ _ 0 [(0, .ref r0), (1, .ref r1)] [] _
  refine f_aload_n dJx4a65c_add_9ea2d_0 rfl 0 rfl ?_
  refine f_dup dJx4a65c_add_9ea2d_1 rfl ?_
  obtain ⟨fs1, w2, hfs1, gfs1, H⟩ := H
  refine gf_Jx4a65c_63 rfl hfs1 gfs1 dJx4a65c_add_9ea2d_2 ?_
  refine f_iconst (v := 1) dJx4a65c_add_9ea2d_5 (by decide) ?_
  refine f_iadd dJx4a65c_add_9ea2d_6 ?_
  obtain ⟨fs3, hfs3, gfs3, H⟩ := H
  refine pf_Jx4a65c_63 rfl hfs3 gfs3 dJx4a65c_add_9ea2d_7 ?_
  replace H := H _ rfl
  generalize fup ω r0 (.inr (3, fs3.set 0 (.int (w2 + 1)))) = ω4 at H ⊢
  refine f_aload_n dJx4a65c_add_9ea2d_10 rfl 0 rfl ?_
  refine f_aload_n dJx4a65c_add_9ea2d_11 rfl 1 rfl ?_
  refine f_aload_n dJx4a65c_add_9ea2d_12 rfl 0 rfl ?_
  obtain ⟨fs5, w6, hfs5, gfs5, H⟩ := H
  refine gf_Jx4a65c_9 rfl hfs5 gfs5 dJx4a65c_add_9ea2d_13 ?_
  refine f_aload_n dJx4a65c_add_9ea2d_16 rfl 0 rfl ?_
  obtain ⟨fs7, w8, hfs7, gfs7, H⟩ := H
  refine gf_Jx4a65c_48 rfl hfs7 gfs7 dJx4a65c_add_9ea2d_17 ?_
  have hkfs12 := H.1
  obtain ⟨fs12, hfs12, H⟩ := H.2
  refine f_callVv (C := RJx4a65c) (j1 := 3) (j2 := (kb - 3)) (av := [.ref r1, .ref w6, .int w8]) rfl hfs12 rfl rfl H i_Jx4a65c_add_72be8 rfl n_Jx4a65c_add_72be8 v_Jx4a65c_add_72be8 q_Jx4a65c_131 (by decide) (f_kj hkfs12) (Nat.le_of_ble_eq_true rfl) dJx4a65c_add_9ea2d_20 (fun o10 ω11 H => ?_)
  refine f_iconst (v := 1) dJx4a65c_add_9ea2d_23 (by decide) ?_
  exact f_zret rfl rfl dJx4a65c_add_9ea2d_24 ⟨_, rfl, H⟩
set_option maxRecDepth 20000 in
set_option maxHeartbeats 2000000 in
theorem b_Jx4a65c_iterator_32c93 {G : fG} {l : Launch} {K : Nat → Option zS → fW → Prop} {r0 : Nat} {o : Option zS} {ω : fW} {kb : Nat}
    (H : (1 ≤ kb ∧ ∀ (q1 : Nat) (ω2 : fW), ω q1 = none → ω2 = fup ω q1 (.inr (2, [.int 0, .int 0, .int 0, .null])) → (0 ≤ (kb - 1) ∧ FC G l M_Jx35411_init_45d68 0 [.ref q1, .ref r0] (o, ω2) (fQv (fun o4 ω5 => K q1 o4 ω5))))) :
    FC G l M_Jx4a65c_iterator_32c93 kb [.ref r0] (o, ω) (fQr K) := by
  refine FC_of (by decide) (Nat.le_of_ble_eq_true rfl) ?_
  change FV _ _ _ _ _ 0 [(0, .ref r0)] [] _
  refine f_new2 cl_Jx4a65c_267 (f_ks H.1) dJx4a65c_iterator_32c93_0 (fun q1 hq1 => ?_)
  replace H := H.2 q1 _ hq1 rfl
  generalize fup ω q1 (.inr (2, [.int 0, .int 0, .int 0, .null])) = ω2 at H ⊢
  refine f_dup dJx4a65c_iterator_32c93_3 rfl ?_
  refine f_aload_n dJx4a65c_iterator_32c93_4 rfl 0 rfl ?_
  refine f_callIv (j1 := 0) (j2 := (kb - 1)) (av := [.ref r0]) rfl H.2 i_Jx35411_init_45d68 rfl rfl rfl n_Jx35411_init_45d68 q_Jx4a65c_269 (by decide) (f_kj H.1) (Nat.le_of_ble_eq_true rfl) dJx4a65c_iterator_32c93_5 (fun o4 ω5 H => ?_)
  exact f_aret rfl (Or.inl ⟨_, rfl⟩) dJx4a65c_iterator_32c93_8 ⟨_, rfl, H⟩
set_option maxRecDepth 20000 in
set_option maxHeartbeats 2000000 in
theorem b_J7_copyOf_1904c {G : fG} {l : Launch} {K : Nat → Option zS → fW → Prop} {r0 : Nat} {x1 : Int32} {o : Option zS} {ω : fW} {kb : Nat}
    (H : (∃ (n1 : Nat) (f2 : Nat → Option Nat), ω r0 = some (.inl (G.1.2.1 5, n1, .inr (.inr (.inr (.inr f2))))) ∧ (3 ≤ kb ∧ FC G l M_J7_copyOf_6403c 3 [.ref r0, .int x1, .ref (G.1.2.2.2.2.2 103)] (o, ω) (fQr (fun v3 o4 ω5 => K v3 o4 ω5))))) :
    FC G l M_J7_copyOf_1904c kb [.ref r0, .int x1] (o, ω) (fQr K) := by
  refine FC_of (by decide) (Nat.le_of_ble_eq_true rfl) ?_
  change FV _ _ _ _ _ 0 [(0, .ref r0), (1, .int x1)] [] _
  refine f_aload_n dJ7_copyOf_1904c_0 rfl 0 rfl ?_
  refine f_iload_n dJ7_copyOf_1904c_1 rfl 1 rfl ?_
  refine f_aload_n dJ7_copyOf_1904c_2 rfl 0 rfl ?_
  obtain ⟨n1, f2, hn1, H⟩ := H
  refine f_getC hn1 q_J7_86 ve_getClass ie_getClass ne_getClass (by decide) (Nat.le_of_ble_eq_true rfl) dJ7_copyOf_1904c_3 ?_
  refine f_callSr (j1 := 3) (j2 := (kb - 3)) (av := [.ref r0, .int x1, .ref (G.1.2.2.2.2.2 103)]) rfl H.2 i_J7_copyOf_6403c rfl s_J7_copyOf_6403c q_J7_300 (by decide) (f_kj H.1) (Nat.le_of_ble_eq_true rfl) dJ7_copyOf_1904c_6 (fun v3 o4 ω5 H => ?_)
  exact f_aret rfl (Or.inr ⟨_, rfl⟩) dJ7_copyOf_1904c_9 ⟨_, rfl, H⟩
set_option maxRecDepth 20000 in
set_option maxHeartbeats 2000000 in
theorem b_J7_copyOf_6403c {G : fG} {l : Launch} {K : Nat → Option zS → fW → Prop} {r0 : Nat} {x1 : Int32} {r2 : Nat} {o : Option zS} {ω : fW} {kb : Nat}
    (H : ((¬ r2 = (G.1.2.2.2.2.2 103) → False) ∧ (r2 = (G.1.2.2.2.2.2 103) → (∃ N4 u5 : Nat, x1 = nI N4 ∧ N4 ≤ 40000 ∧ 1 ≤ u5 ∧ N4 ≤ 12 * u5 ∧ u5 ≤ kb ∧ ∀ (q2 : Nat) (ω3 : fW), ω q2 = none → ω3 = fup ω q2 (.inl (G.1.2.1 5, N4, .inr (.inr (.inr (.inr (fun _ => none)))))) → (∃ z12 : Nat, ((r0 = G.1.2.2.2.2.2 100 ∧ z12 = 0) ∨ ∃ f : Nat → Option Nat, ω3 r0 = some (.inl (G.1.2.1 5, z12, .inr (.inr (.inr (.inr f)))))) ∧ (∃ (n14 n15 : Nat) (f16 g17 : Nat → Option Nat), ω3 r0 = some (.inl (G.1.2.1 5, n14, .inr (.inr (.inr (.inr f16))))) ∧ ω3 q2 = some (.inl (G.1.2.1 5, n15, .inr (.inr (.inr (.inr g17))))) ∧ (¬ (0 : Int32) < 0 ∧ ¬ (0 : Int32) < 0 ∧ ¬ ((zmin (nI z12) x1) : Int32) < 0 ∧ Int32.toNatClampNeg 0 + Int32.toNatClampNeg (zmin (nI z12) x1) ≤ n14 ∧ Int32.toNatClampNeg 0 + Int32.toNatClampNeg (zmin (nI z12) x1) ≤ n15) ∧ (∀ i : Nat, i < Int32.toNatClampNeg (zmin (nI z12) x1) → ∀ y : Nat, f16 (Int32.toNatClampNeg 0 + i) = some y → ∃ x, ω3 y = some (.inl (G.1.2.1 0, x))) ∧ (∀ ω13 : fW, ω13 = fup ω3 q2 (.inl (G.1.2.1 5, n15, .inr (.inr (.inr (.inr (va_cpy f16 g17 (Int32.toNatClampNeg 0) (Int32.toNatClampNeg 0) (Int32.toNatClampNeg (zmin (nI z12) x1)))))))) → K q2 o ω13))))))) :
    FC G l M_J7_copyOf_6403c kb [.ref r0, .int x1, .ref r2] (o, ω) (fQr K) := by
  refine FC_of (by decide) (Nat.le_of_ble_eq_true rfl) ?_
  change FV _ _ _ _ _ 0 [(0, .ref r0), (1, .int x1), (2, .ref r2)] [] _
  refine f_aload_n dJ7_copyOf_6403c_0 rfl 2 rfl ?_
  refine f_ldcM cl_J7_110 dJ7_copyOf_6403c_1 ?_
  refine f_acmpR_ne (tgt := 13) dJ7_copyOf_6403c_3 (by decide) (fun h1 => ?_) (fun h1 => ?_)
  · replace H := H.1 h1
    refine f_aload_n dJ7_copyOf_6403c_13 rfl 2 rfl ?_
    exact H.elim
  · replace H := H.2 h1
    refine f_iload_n dJ7_copyOf_6403c_6 rfl 1 rfl ?_
    obtain ⟨N4, u5, eN4, aN4, bN4, cN4, dN4, H⟩ := H
    refine f_newq (N := N4) (u := u5) cl_J7_2 (by rw [eN4]; exact nI_pos (by omega)) (by rw [eN4]; exact nI_clamp (by omega)) (by omega) (f_ks dN4) ⟨bN4, cN4⟩ dJ7_copyOf_6403c_7 (fun q2 hq2 => ?_)
    replace H := H q2 _ hq2 rfl
    generalize fup ω q2 (.inl (G.1.2.1 5, N4, .inr (.inr (.inr (.inr (fun _ => none)))))) = ω3 at H ⊢
    refine f_goto (tgt := 24) dJ7_copyOf_6403c_10 (by decide) ?_
    refine f_astore_n (ls' := [(3, .ref q2), (0, .ref r0), (1, .int x1), (2, .ref r2)]) dJ7_copyOf_6403c_24 rfl (by decide) rfl ?_
    refine f_aload_n dJ7_copyOf_6403c_25 rfl 1 rfl ?_
    refine f_iconst (v := 0) dJ7_copyOf_6403c_26 (by decide) ?_
    refine f_aload_n dJ7_copyOf_6403c_27 rfl 0 rfl ?_
    refine f_iconst (v := 0) dJ7_copyOf_6403c_28 (by decide) ?_
    refine f_aload_n dJ7_copyOf_6403c_29 rfl 1 rfl ?_
    obtain ⟨z12, hz12, H⟩ := H
    refine f_qlen hz12 dJ7_copyOf_6403c_30 ?_
    refine f_iload_n dJ7_copyOf_6403c_31 rfl 2 rfl ?_
    refine f_mmin qm_J7_304 ms_min mi_math mc_min (by decide) (Nat.le_of_ble_eq_true rfl) dJ7_copyOf_6403c_32 ?_
    change FV _ _ _ _ _ _ _ (.int (zmin (nI z12) x1) :: _) _
    obtain ⟨n14, n15, f16, g17, hn14, gn14, ⟨an14, bn14, cn14, dn14, en14⟩, un14, H⟩ := H
    refine f_copyQ hn14 gn14 q_J7_150 an14 bn14 cn14 dn14 en14 un14 (by decide) (Nat.le_of_ble_eq_true rfl) dJ7_copyOf_6403c_35 ?_
    replace H := H _ rfl
    generalize fup ω3 q2 (.inl (G.1.2.1 5, n15, .inr (.inr (.inr (.inr (va_cpy f16 g17 (Int32.toNatClampNeg 0) (Int32.toNatClampNeg 0) (Int32.toNatClampNeg (zmin (nI z12) x1)))))))) = ω13 at H ⊢
    refine f_aload_n dJ7_copyOf_6403c_38 rfl 0 rfl ?_
    exact f_aret rfl (Or.inr ⟨_, rfl⟩) dJ7_copyOf_6403c_39 ⟨_, rfl, H⟩
set_option maxRecDepth 20000 in
set_option maxHeartbeats 2000000 in
theorem b_J15_checkIndex_7cf53 {G : fG} {l : Launch} {K : Int32 → Option zS → fW → Prop} {x0 : Int32} {x1 : Int32} {o : Option zS} {ω : fW} {kb : Nat}
    (H : (0 ≤ kb ∧ FC G l M_J3_checkIndex_8e157 0 [.int x0, .int x1, .null] (o, ω) (fQi (fun v1 o2 ω3 => K v1 o2 ω3)))) :
    FC G l M_J15_checkIndex_7cf53 kb [.int x0, .int x1] (o, ω) (fQi K) := by
  refine FC_of (by decide) (Nat.le_of_ble_eq_true rfl) ?_
  change FV _ _ _ _ _ 0 [(0, .int x0), (1, .int x1)] [] _
  refine f_iload_n dJ15_checkIndex_7cf53_0 rfl 0 rfl ?_
  refine f_iload_n dJ15_checkIndex_7cf53_1 rfl 1 rfl ?_
  refine f_null dJ15_checkIndex_7cf53_2 ?_
  refine f_callSi (j1 := 0) (j2 := kb) (av := [.int x0, .int x1, .null]) rfl H.2 i_J3_checkIndex_8e157 rfl s_J3_checkIndex_8e157 q_J15_105 (by decide) (f_kj H.1) (Nat.le_of_ble_eq_true rfl) dJ15_checkIndex_7cf53_3 (fun v1 o2 ω3 H => ?_)
  exact f_iret rfl dJ15_checkIndex_7cf53_6 ⟨_, rfl, H⟩
