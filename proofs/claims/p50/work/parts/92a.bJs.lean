set_option maxRecDepth 20000 in
set_option maxHeartbeats 2000000 in
theorem b_J5_init_d00df {G : fG} {l : Launch} {K : Option zS → fW → Prop} {r0 : Nat} {x1 : Int32} {o : Option zS} {ω : fW} {kb : Nat}
    (H : (∃ N4 u5 : Nat, x1 = nI N4 ∧ N4 ≤ 40000 ∧ 1 ≤ u5 ∧ N4 ≤ 12 * u5 ∧ u5 ≤ kb ∧ ∀ (q2 : Nat) (ω3 : fW), ω q2 = none → ω3 = fup ω q2 (.inl (G.1.2.1 1, N4, .inl (fun _ => 0))) → (∃ fs6 : List Value, ω3 r0 = some (.inr (1, fs6)) ∧ 0 < fs6.length ∧ (∀ ω7 : fW, ω7 = fup ω3 r0 (.inr (1, fs6.set 0 (.ref q2))) → (∃ fs8 : List Value, ω7 r0 = some (.inr (1, fs8)) ∧ 1 < fs8.length ∧ (∀ ω9 : fW, ω9 = fup ω7 r0 (.inr (1, fs8.set 1 (.int 0))) → K o ω9)))))) :
    FC G l M_J5_init_d00df kb [.ref r0, .int x1] (o, ω) (fQv K) := by
  refine FC_of (by decide) (Nat.le_of_ble_eq_true rfl) ?_
  change FV _ _ _ _ _ 0 [(0, .ref r0), (1, .int x1)] [] _
  refine f_aload_n dJ5_init_d00df_0 rfl 0 rfl ?_
  refine f_obj qo_J5_3 qi_obj qc_obj (by decide) (Nat.le_of_ble_eq_true rfl) dJ5_init_d00df_1 ?_
  refine f_scmp qs_J5_18 dJ5_init_d00df_4 ?_
  refine f_if_eq (tgt := 25) dJ5_init_d00df_7 (by decide) (fun h1 => ?_) (fun h1 => ?_)
  · exact absurd h1 (by decide)
  · refine f_aload_n dJ5_init_d00df_10 rfl 0 rfl ?_
    refine f_iload_n dJ5_init_d00df_11 rfl 1 rfl ?_
    obtain ⟨N4, u5, eN4, aN4, bN4, cN4, dN4, H⟩ := H
    refine f_newa1 (N := N4) (u := u5) (by rw [eN4]; exact nI_pos (by omega)) (by rw [eN4]; exact nI_clamp (by omega)) (by omega) (f_ks dN4) ⟨bN4, cN4⟩ dJ5_init_d00df_12 (fun q2 hq2 => ?_)
    replace H := H q2 _ hq2 rfl
    generalize fup ω q2 (.inl (G.1.2.1 1, N4, .inl (fun _ => 0))) = ω3 at H ⊢
    obtain ⟨fs6, hfs6, gfs6, H⟩ := H
    refine pf_J5_15 rfl hfs6 gfs6 dJ5_init_d00df_14 ?_
    replace H := H _ rfl
    generalize fup ω3 r0 (.inr (1, fs6.set 0 (.ref q2))) = ω7 at H ⊢
    refine f_aload_n dJ5_init_d00df_17 rfl 0 rfl ?_
    refine f_iconst (v := 0) dJ5_init_d00df_18 (by decide) ?_
    obtain ⟨fs8, hfs8, gfs8, H⟩ := H
    refine pf_J5_22 rfl hfs8 gfs8 rfl rfl dJ5_init_d00df_19 ?_
    replace H := H _ rfl
    generalize fup ω7 r0 (.inr (1, fs8.set 1 (.int 0))) = ω9 at H ⊢
    refine f_goto (tgt := 38) dJ5_init_d00df_22 (by decide) ?_
    exact f_vret rfl dJ5_init_d00df_38 ⟨rfl, H⟩
set_option maxRecDepth 20000 in
set_option maxHeartbeats 2000000 in
theorem b_J5_ensureCapacityInternal_d00df {G : fG} {l : Launch} {K : Option zS → fW → Prop} {r0 : Nat} {x1 : Int32} {o : Option zS} {ω : fW} {kb : Nat}
    (H : (∃ (fs1 : List Value) (w2 : Nat), ω r0 = some (.inr (1, fs1)) ∧ fs1[0]? = some (.ref w2) ∧ (∃ y3 : vp_A, ω w2 = some (.inl (G.1.2.1 1, y3)) ∧ (∃ (fs4 : List Value) (w5 : Int32), ω r0 = some (.inr (1, fs4)) ∧ fs4[1]? = some (.int w5) ∧ (((x1 - ((nI y3.1) >>> (w5 &&& 31))) ≤ 0 → K o ω) ∧ (¬ (x1 - ((nI y3.1) >>> (w5 &&& 31))) ≤ 0 → (∃ (fs7 : List Value) (w8 : Nat), ω r0 = some (.inr (1, fs7)) ∧ fs7[0]? = some (.ref w8) ∧ (0 ≤ kb ∧ ∃ fs19 : List Value, ω r0 = some (.inr (1, fs19)) ∧ FC G l M_J5_newCapacity_0f7a4 0 [.ref r0, .int x1] (o, ω) (fQi (fun v9 o10 ω11 => (∃ (fs12 : List Value) (w13 : Int32), ω11 r0 = some (.inr (1, fs12)) ∧ fs12[1]? = some (.int w13) ∧ (60 ≤ kb ∧ FC G l M_J7_copyOf_9075b 60 [.ref w8, .int (v9 <<< (w13 &&& 31))] (o10, ω11) (fQr (fun v14 o15 ω16 => (∃ fs17 : List Value, ω16 r0 = some (.inr (1, fs17)) ∧ 0 < fs17.length ∧ (∀ ω18 : fW, ω18 = fup ω16 r0 (.inr (1, fs17.set 0 (.ref v14))) → K o15 ω18)))))))))))))))) :
    FC G l M_J5_ensureCapacityInternal_d00df kb [.ref r0, .int x1] (o, ω) (fQv K) := by
  refine FC_of (by decide) (Nat.le_of_ble_eq_true rfl) ?_
  change FV _ _ _ _ _ 0 [(0, .ref r0), (1, .int x1)] [] _
  refine f_aload_n dJ5_ensureCapacityInternal_d00df_0 rfl 0 rfl ?_
  obtain ⟨fs1, w2, hfs1, gfs1, H⟩ := H
  refine gf_J5_15 rfl hfs1 gfs1 dJ5_ensureCapacityInternal_d00df_1 ?_
  obtain ⟨y3, hy3, H⟩ := H
  refine f_alen (t := 1) rfl hy3 rfl dJ5_ensureCapacityInternal_d00df_4 ?_
  refine f_aload_n dJ5_ensureCapacityInternal_d00df_5 rfl 0 rfl ?_
  obtain ⟨fs4, w5, hfs4, gfs4, H⟩ := H
  refine gf_J5_22 rfl hfs4 gfs4 dJ5_ensureCapacityInternal_d00df_6 ?_
  refine f_ishr dJ5_ensureCapacityInternal_d00df_9 ?_
  refine f_istore_n (ls' := [(2, .int ((nI y3.1) >>> (w5 &&& 31))), (0, .ref r0), (1, .int x1)]) dJ5_ensureCapacityInternal_d00df_10 rfl (by decide) rfl ?_
  refine f_iload_n dJ5_ensureCapacityInternal_d00df_11 rfl 2 rfl ?_
  refine f_iload_n dJ5_ensureCapacityInternal_d00df_12 rfl 0 rfl ?_
  refine f_isub dJ5_ensureCapacityInternal_d00df_13 ?_
  refine f_if_le (tgt := 38) dJ5_ensureCapacityInternal_d00df_14 (by decide) (fun h6 => ?_) (fun h6 => ?_)
  · replace H := H.1 h6
    exact f_vret rfl dJ5_ensureCapacityInternal_d00df_38 ⟨rfl, H⟩
  · replace H := H.2 h6
    refine f_aload_n dJ5_ensureCapacityInternal_d00df_17 rfl 1 rfl ?_
    refine f_aload_n dJ5_ensureCapacityInternal_d00df_18 rfl 1 rfl ?_
    obtain ⟨fs7, w8, hfs7, gfs7, H⟩ := H
    refine gf_J5_15 rfl hfs7 gfs7 dJ5_ensureCapacityInternal_d00df_19 ?_
    refine f_aload_n dJ5_ensureCapacityInternal_d00df_22 rfl 1 rfl ?_
    refine f_iload_n dJ5_ensureCapacityInternal_d00df_23 rfl 2 rfl ?_
    have hkfs19 := H.1
    obtain ⟨fs19, hfs19, H⟩ := H.2
    refine f_callVi (C := RJ4) (j1 := 0) (j2 := kb) (av := [.int x1]) rfl hfs19 rfl rfl H i_J5_newCapacity_0f7a4 rfl n_J5_newCapacity_0f7a4 vs_J5_newCapacity_0f7a4 q_J5_104 (by decide) (f_kj hkfs19) (Nat.le_of_ble_eq_true rfl) dJ5_ensureCapacityInternal_d00df_24 (fun v9 o10 ω11 H => ?_)
    refine f_aload_n dJ5_ensureCapacityInternal_d00df_27 rfl 1 rfl ?_
    obtain ⟨fs12, w13, hfs12, gfs12, H⟩ := H
    refine gf_J5_22 rfl hfs12 gfs12 dJ5_ensureCapacityInternal_d00df_28 ?_
    refine f_ishl dJ5_ensureCapacityInternal_d00df_31 ?_
    refine f_callSr (j1 := 60) (j2 := (kb - 60)) (av := [.ref w8, .int (v9 <<< (w13 &&& 31))]) rfl H.2 i_J7_copyOf_9075b rfl s_J7_copyOf_9075b q_J5_108 (by decide) (f_kj H.1) (Nat.le_of_ble_eq_true rfl) dJ5_ensureCapacityInternal_d00df_32 (fun v14 o15 ω16 H => ?_)
    obtain ⟨fs17, hfs17, gfs17, H⟩ := H
    refine pf_J5_15 rfl hfs17 gfs17 dJ5_ensureCapacityInternal_d00df_35 ?_
    replace H := H _ rfl
    generalize fup ω16 r0 (.inr (1, fs17.set 0 (.ref v14))) = ω18 at H ⊢
    exact f_vret rfl dJ5_ensureCapacityInternal_d00df_38 ⟨rfl, H⟩
set_option maxRecDepth 20000 in
set_option maxHeartbeats 2000000 in
theorem b_J5_getValue_6d5f1 {G : fG} {l : Launch} {K : Nat → Option zS → fW → Prop} {r0 : Nat} {o : Option zS} {ω : fW} {kb : Nat}
    (H : (∃ (fs1 : List Value) (w2 : Nat), ω r0 = some (.inr (1, fs1)) ∧ fs1[0]? = some (.ref w2) ∧ K w2 o ω)) :
    FC G l M_J5_getValue_6d5f1 kb [.ref r0] (o, ω) (fQr K) := by
  refine FC_of (by decide) (Nat.le_of_ble_eq_true rfl) ?_
  change FV _ _ _ _ _ 0 [(0, .ref r0)] [] _
  refine f_aload_n dJ5_getValue_6d5f1_0 rfl 0 rfl ?_
  obtain ⟨fs1, w2, hfs1, gfs1, H⟩ := H
  refine gf_J5_15 rfl hfs1 gfs1 dJ5_getValue_6d5f1_1 ?_
  exact f_aret rfl (Or.inr ⟨_, rfl⟩) dJ5_getValue_6d5f1_4 ⟨_, rfl, H⟩
set_option maxRecDepth 20000 in
set_option maxHeartbeats 2000000 in
theorem b_J5_inflateIfNeededFor_a7421 {G : fG} {l : Launch} {K : Option zS → fW → Prop} {r0 : Nat} {r1 : Nat} {o : Option zS} {ω : fW} {kb : Nat}
    (H : (∃ (fs2 : List Value) (w3 : Int32), ω r0 = some (.inr (1, fs2)) ∧ fs2[1]? = some (.int w3) ∧ (0 ≤ kb ∧ ∃ (a8 t9 : Nat) (f10 : Nat → Int32), tA G ω r1 a8 t9 f10 ∧ FC G l M_J0_coder_7d493 0 [.ref r1] (o, ω) (fQi (fun v4 o5 ω6 => ((w3 = v4 → K o5 ω6) ∧ (¬ w3 = v4 → False))))))) :
    FC G l M_J5_inflateIfNeededFor_a7421 kb [.ref r0, .ref r1] (o, ω) (fQv K) := by
  refine FC_of (by decide) (Nat.le_of_ble_eq_true rfl) ?_
  change FV _ _ _ _ _ 0 [(0, .ref r0), (1, .ref r1)] [] _
  refine f_scmp qs_J5_18 dJ5_inflateIfNeededFor_a7421_0 ?_
  refine f_if_eq (tgt := 21) dJ5_inflateIfNeededFor_a7421_3 (by decide) (fun h1 => ?_) (fun h1 => ?_)
  · exact absurd h1 (by decide)
  · refine f_aload_n dJ5_inflateIfNeededFor_a7421_6 rfl 0 rfl ?_
    obtain ⟨fs2, w3, hfs2, gfs2, H⟩ := H
    refine gf_J5_22 rfl hfs2 gfs2 dJ5_inflateIfNeededFor_a7421_7 ?_
    refine f_aload_n dJ5_inflateIfNeededFor_a7421_10 rfl 1 rfl ?_
    have hka8 := H.1
    obtain ⟨a8, t9, f10, ha8, H⟩ := H.2
    refine f_callTi (j1 := 0) (j2 := kb) (av := []) rfl ha8 rfl H i_J0_coder_7d493 rfl n_J0_coder_7d493 v_J0_coder_7d493 q_J5_40 (by decide) (f_kj hka8) (Nat.le_of_ble_eq_true rfl) dJ5_inflateIfNeededFor_a7421_11 (fun v4 o5 ω6 H => ?_)
    refine f_icmp_eq (tgt := 21) dJ5_inflateIfNeededFor_a7421_14 (by decide) (fun h7 => ?_) (fun h7 => ?_)
    · replace H := H.1 h7
      exact f_vret rfl dJ5_inflateIfNeededFor_a7421_21 ⟨rfl, H⟩
    · replace H := H.2 h7
      refine f_aload_n dJ5_inflateIfNeededFor_a7421_17 rfl 0 rfl ?_
      exact H.elim
set_option maxRecDepth 20000 in
set_option maxHeartbeats 2000000 in
theorem b_J5_isLatin1_aae02 {G : fG} {l : Launch} {K : Int32 → Option zS → fW → Prop} {r0 : Nat} {o : Option zS} {ω : fW} {kb : Nat}
    (H : (∃ (fs2 : List Value) (w3 : Int32), ω r0 = some (.inr (1, fs2)) ∧ fs2[1]? = some (.int w3) ∧ ((¬ w3 = 0 → K 0 o ω) ∧ (w3 = 0 → K 1 o ω)))) :
    FC G l M_J5_isLatin1_aae02 kb [.ref r0] (o, ω) (fQi K) := by
  refine FC_of (by decide) (Nat.le_of_ble_eq_true rfl) ?_
  change FV _ _ _ _ _ 0 [(0, .ref r0)] [] _
  refine f_scmp qs_J5_18 dJ5_isLatin1_aae02_0 ?_
  refine f_if_eq (tgt := 17) dJ5_isLatin1_aae02_3 (by decide) (fun h1 => ?_) (fun h1 => ?_)
  · exact absurd h1 (by decide)
  · refine f_aload_n dJ5_isLatin1_aae02_6 rfl 0 rfl ?_
    obtain ⟨fs2, w3, hfs2, gfs2, H⟩ := H
    refine gf_J5_22 rfl hfs2 gfs2 dJ5_isLatin1_aae02_7 ?_
    refine f_if_ne (tgt := 17) dJ5_isLatin1_aae02_10 (by decide) (fun h4 => ?_) (fun h4 => ?_)
    · replace H := H.1 h4
      refine f_iconst (v := 0) dJ5_isLatin1_aae02_17 (by decide) ?_
      exact f_zret rfl rfl dJ5_isLatin1_aae02_18 ⟨_, rfl, H⟩
    · replace H := H.2 h4
      refine f_iconst (v := 1) dJ5_isLatin1_aae02_13 (by decide) ?_
      refine f_goto (tgt := 18) dJ5_isLatin1_aae02_14 (by decide) ?_
      exact f_zret rfl rfl dJ5_isLatin1_aae02_18 ⟨_, rfl, H⟩
set_option maxRecDepth 20000 in
set_option maxHeartbeats 2000000 in
theorem b_J5_length_8abf5 {G : fG} {l : Launch} {K : Int32 → Option zS → fW → Prop} {r0 : Nat} {o : Option zS} {ω : fW} {kb : Nat}
    (H : (∃ (fs1 : List Value) (w2 : Int32), ω r0 = some (.inr (1, fs1)) ∧ fs1[3]? = some (.int w2) ∧ K w2 o ω)) :
    FC G l M_J5_length_8abf5 kb [.ref r0] (o, ω) (fQi K) := by
  refine FC_of (by decide) (Nat.le_of_ble_eq_true rfl) ?_
  change FV _ _ _ _ _ 0 [(0, .ref r0)] [] _
  refine f_aload_n dJ5_length_8abf5_0 rfl 0 rfl ?_
  obtain ⟨fs1, w2, hfs1, gfs1, H⟩ := H
  refine gf_J5_79 rfl hfs1 gfs1 dJ5_length_8abf5_1 ?_
  exact f_iret rfl dJ5_length_8abf5_4 ⟨_, rfl, H⟩
set_option maxRecDepth 20000 in
set_option maxHeartbeats 2000000 in
theorem b_J5_newCapacity_0f7a4 {G : fG} {l : Launch} {K : Int32 → Option zS → fW → Prop} {r0 : Nat} {x1 : Int32} {o : Option zS} {ω : fW} {kb : Nat}
    (H : (∃ (fs1 : List Value) (w2 : Nat), ω r0 = some (.inr (1, fs1)) ∧ fs1[0]? = some (.ref w2) ∧ (∃ y3 : vp_A, ω w2 = some (.inl (G.1.2.1 1, y3)) ∧ (∃ (fs4 : List Value) (w5 : Int32), ω r0 = some (.inr (1, fs4)) ∧ fs4[1]? = some (.int w5) ∧ (∃ (fs6 : List Value) (w7 : Int32), ω r0 = some (.inr (1, fs6)) ∧ fs6[1]? = some (.int w7) ∧ (0 ≤ kb ∧ FC G l M_J8_newLength_cabcc 0 [.int (nI y3.1), .int ((x1 <<< (w5 &&& 31)) - (nI y3.1)), .int ((nI y3.1) + (2 <<< (w7 &&& 31)))] (o, ω) (fQi (fun v8 o9 ω10 => ((¬ v8 = 2147483647 → (∃ (fs12 : List Value) (w13 : Int32), ω10 r0 = some (.inr (1, fs12)) ∧ fs12[1]? = some (.int w13) ∧ K (v8 >>> (w13 &&& 31)) o9 ω10)) ∧ (v8 = 2147483647 → False)))))))))) :
    FC G l M_J5_newCapacity_0f7a4 kb [.ref r0, .int x1] (o, ω) (fQi K) := by
  refine FC_of (by decide) (Nat.le_of_ble_eq_true rfl) ?_
  change FV _ _ _ _ _ 0 [(0, .ref r0), (1, .int x1)] [] _
  refine f_aload_n dJ5_newCapacity_0f7a4_0 rfl 0 rfl ?_
  obtain ⟨fs1, w2, hfs1, gfs1, H⟩ := H
  refine gf_J5_15 rfl hfs1 gfs1 dJ5_newCapacity_0f7a4_1 ?_
  obtain ⟨y3, hy3, H⟩ := H
  refine f_alen (t := 1) rfl hy3 rfl dJ5_newCapacity_0f7a4_4 ?_
  refine f_istore_n (ls' := [(2, .int (nI y3.1)), (0, .ref r0), (1, .int x1)]) dJ5_newCapacity_0f7a4_5 rfl (by decide) rfl ?_
  refine f_iload_n dJ5_newCapacity_0f7a4_6 rfl 2 rfl ?_
  refine f_aload_n dJ5_newCapacity_0f7a4_7 rfl 1 rfl ?_
  obtain ⟨fs4, w5, hfs4, gfs4, H⟩ := H
  refine gf_J5_22 rfl hfs4 gfs4 dJ5_newCapacity_0f7a4_8 ?_
  refine f_ishl dJ5_newCapacity_0f7a4_11 ?_
  refine f_istore_n (ls' := [(3, .int (x1 <<< (w5 &&& 31))), (2, .int (nI y3.1)), (0, .ref r0), (1, .int x1)]) dJ5_newCapacity_0f7a4_12 rfl (by decide) rfl ?_
  refine f_iload_n dJ5_newCapacity_0f7a4_13 rfl 0 rfl ?_
  refine f_iload_n dJ5_newCapacity_0f7a4_14 rfl 1 rfl ?_
  refine f_isub dJ5_newCapacity_0f7a4_15 ?_
  refine f_istore (ls' := [(4, .int ((x1 <<< (w5 &&& 31)) - (nI y3.1))), (3, .int (x1 <<< (w5 &&& 31))), (2, .int (nI y3.1)), (0, .ref r0), (1, .int x1)]) dJ5_newCapacity_0f7a4_16 (by decide) rfl ?_
  refine f_iload_n dJ5_newCapacity_0f7a4_18 rfl 2 rfl ?_
  refine f_iload dJ5_newCapacity_0f7a4_19 0 rfl ?_
  refine f_iload_n dJ5_newCapacity_0f7a4_21 rfl 2 rfl ?_
  refine f_iconst (v := 2) dJ5_newCapacity_0f7a4_22 (by decide) ?_
  refine f_aload_n dJ5_newCapacity_0f7a4_23 rfl 3 rfl ?_
  obtain ⟨fs6, w7, hfs6, gfs6, H⟩ := H
  refine gf_J5_22 rfl hfs6 gfs6 dJ5_newCapacity_0f7a4_24 ?_
  refine f_ishl dJ5_newCapacity_0f7a4_27 ?_
  refine f_iadd dJ5_newCapacity_0f7a4_28 ?_
  refine f_callSi (j1 := 0) (j2 := kb) (av := [.int (nI y3.1), .int ((x1 <<< (w5 &&& 31)) - (nI y3.1)), .int ((nI y3.1) + (2 <<< (w7 &&& 31)))]) rfl H.2 i_J8_newLength_cabcc rfl s_J8_newLength_cabcc q_J5_114 (by decide) (f_kj H.1) (Nat.le_of_ble_eq_true rfl) dJ5_newCapacity_0f7a4_29 (fun v8 o9 ω10 H => ?_)
  refine f_istore (ls' := [(5, .int v8), (4, .int ((x1 <<< (w5 &&& 31)) - (nI y3.1))), (3, .int (x1 <<< (w5 &&& 31))), (2, .int (nI y3.1)), (0, .ref r0), (1, .int x1)]) dJ5_newCapacity_0f7a4_32 (by decide) rfl ?_
  refine f_iload dJ5_newCapacity_0f7a4_34 0 rfl ?_
  refine f_ldc k_J5_39 dJ5_newCapacity_0f7a4_36 ?_
  refine f_icmp_ne (tgt := 51) dJ5_newCapacity_0f7a4_38 (by decide) (fun h11 => ?_) (fun h11 => ?_)
  · replace H := H.1 h11
    refine f_iload dJ5_newCapacity_0f7a4_51 0 rfl ?_
    refine f_aload_n dJ5_newCapacity_0f7a4_53 rfl 4 rfl ?_
    obtain ⟨fs12, w13, hfs12, gfs12, H⟩ := H
    refine gf_J5_22 rfl hfs12 gfs12 dJ5_newCapacity_0f7a4_54 ?_
    refine f_ishr dJ5_newCapacity_0f7a4_57 ?_
    exact f_iret rfl dJ5_newCapacity_0f7a4_58 ⟨_, rfl, H⟩
  · replace H := H.2 h11
    exact H.elim
set_option maxRecDepth 20000 in
set_option maxHeartbeats 2000000 in
theorem b_J5_putStringAt_47b60 {G : fG} {l : Launch} {K : Option zS → fW → Prop} {r0 : Nat} {x1 : Int32} {r2 : Nat} {o : Option zS} {ω : fW} {kb : Nat}
    (H : (0 ≤ kb ∧ ∃ fs14 : List Value, ω r0 = some (.inr (1, fs14)) ∧ FC G l M_J5_inflateIfNeededFor_a7421 0 [.ref r0, .ref r2] (o, ω) (fQv (fun o2 ω3 => (∃ (fs4 : List Value) (w5 : Nat), ω3 r0 = some (.inr (1, fs4)) ∧ fs4[0]? = some (.ref w5) ∧ (∃ (fs6 : List Value) (w7 : Int32), ω3 r0 = some (.inr (1, fs6)) ∧ fs6[1]? = some (.int w7) ∧ (0 ≤ kb ∧ ∃ (a11 t12 : Nat) (f13 : Nat → Int32), tA G ω3 r2 a11 t12 f13 ∧ FC G l M_J0_getBytes_840e7 0 [.ref r2, .ref w5, .int x1, .int w7] (o2, ω3) (fQv (fun o9 ω10 => K o9 ω10))))))))) :
    FC G l M_J5_putStringAt_47b60 kb [.ref r0, .int x1, .ref r2] (o, ω) (fQv K) := by
  refine FC_of (by decide) (Nat.le_of_ble_eq_true rfl) ?_
  change FV _ _ _ _ _ 0 [(0, .ref r0), (1, .int x1), (2, .ref r2)] [] _
  refine f_aload_n dJ5_putStringAt_47b60_0 rfl 0 rfl ?_
  refine f_aload_n dJ5_putStringAt_47b60_1 rfl 2 rfl ?_
  have hkfs14 := H.1
  obtain ⟨fs14, hfs14, H⟩ := H.2
  refine f_callVv (C := RJ4) (j1 := 0) (j2 := kb) (av := [.ref r2]) rfl hfs14 rfl rfl H i_J5_inflateIfNeededFor_a7421 rfl n_J5_inflateIfNeededFor_a7421 vs_J5_inflateIfNeededFor_a7421 q_J5_397 (by decide) (f_kj hkfs14) (Nat.le_of_ble_eq_true rfl) dJ5_putStringAt_47b60_2 (fun o2 ω3 H => ?_)
  refine f_aload_n dJ5_putStringAt_47b60_5 rfl 2 rfl ?_
  refine f_aload_n dJ5_putStringAt_47b60_6 rfl 0 rfl ?_
  obtain ⟨fs4, w5, hfs4, gfs4, H⟩ := H
  refine gf_J5_15 rfl hfs4 gfs4 dJ5_putStringAt_47b60_7 ?_
  refine f_iload_n dJ5_putStringAt_47b60_10 rfl 1 rfl ?_
  refine f_aload_n dJ5_putStringAt_47b60_11 rfl 0 rfl ?_
  obtain ⟨fs6, w7, hfs6, gfs6, H⟩ := H
  refine gf_J5_22 rfl hfs6 gfs6 dJ5_putStringAt_47b60_12 ?_
  have hka11 := H.1
  obtain ⟨a11, t12, f13, ha11, H⟩ := H.2
  refine f_callTv (j1 := 0) (j2 := kb) (av := [.ref w5, .int x1, .int w7]) rfl ha11 rfl H i_J0_getBytes_840e7 rfl n_J0_getBytes_840e7 v_J0_getBytes_840e7 q_J5_399 (by decide) (f_kj hka11) (Nat.le_of_ble_eq_true rfl) dJ5_putStringAt_47b60_15 (fun o9 ω10 H => ?_)
  exact f_vret rfl dJ5_putStringAt_47b60_18 ⟨rfl, H⟩
abbrev L_J6_getChars_ba4f3_22 (G : fG) (l : Launch) (K : Int32 → Option zS → fW → Prop) (r2 : Nat) (y0 : Int32) (y5 : Int32) (y6 : Int32) (o : Option zS) (ω : fW) (kb : Nat) : Prop :=
  FV G l M_J6_getChars_ba4f3 kb (fQi K) 22 [(0, .int y0), (2, .ref r2), (5, .int y5), (6, .int y6)] [] (o, ω)
set_option maxRecDepth 20000 in
set_option maxHeartbeats 2000000 in
theorem b_J6_getChars_ba4f3 {G : fG} {l : Launch} {K : Int32 → Option zS → fW → Prop} {x0 : Int32} {x1 : Int32} {r2 : Nat} {o : Option zS} {ω : fW} {kb : Nat}
    (H : ((0 ≤ x0 → L_J6_getChars_ba4f3_22 G l K r2 (-x0) x1 0 o ω kb) ∧ (¬ 0 ≤ x0 → L_J6_getChars_ba4f3_22 G l K r2 x0 x1 1 o ω kb))) :
    FC G l M_J6_getChars_ba4f3 kb [.int x0, .int x1, .ref r2] (o, ω) (fQi K) := by
  refine FC_of (by decide) (Nat.le_of_ble_eq_true rfl) ?_
  change FV _ _ _ _ _ 0 [(0, .int x0), (1, .int x1), (2, .ref r2)] [] _
  refine f_iload_n dJ6_getChars_ba4f3_0 rfl 1 rfl ?_
  refine f_istore (ls' := [(5, .int x1), (0, .int x0), (1, .int x1), (2, .ref r2)]) dJ6_getChars_ba4f3_1 (by decide) rfl ?_
  refine f_iload_n dJ6_getChars_ba4f3_3 rfl 1 rfl ?_
  refine f_if_ge (tgt := 11) dJ6_getChars_ba4f3_4 (by decide) (fun h1 => ?_) (fun h1 => ?_)
  · replace H := H.1 h1
    refine f_iconst (v := 0) dJ6_getChars_ba4f3_11 (by decide) ?_
    refine f_istore (ls' := [(6, .int 0), (5, .int x1), (0, .int x0), (1, .int x1), (2, .ref r2)]) dJ6_getChars_ba4f3_12 (by decide) rfl ?_
    refine f_iload dJ6_getChars_ba4f3_14 0 rfl ?_
    refine f_if_ne (tgt := 22) dJ6_getChars_ba4f3_16 (by decide) (fun h2 => ?_) (fun h2 => ?_)
    · exact absurd h2 (by decide)
    · refine f_iload_n dJ6_getChars_ba4f3_19 rfl 2 rfl ?_
      refine f_ineg dJ6_getChars_ba4f3_20 ?_
      refine f_istore_n (ls' := [(0, .int (-x0)), (6, .int 0), (5, .int x1), (1, .int x1), (2, .ref r2)]) dJ6_getChars_ba4f3_21 rfl (by decide) rfl ?_
      refine f_ls [0, 4, 2, 1] rfl ?_
      exact H
  · replace H := H.2 h1
    refine f_iconst (v := 1) dJ6_getChars_ba4f3_7 (by decide) ?_
    refine f_goto (tgt := 12) dJ6_getChars_ba4f3_8 (by decide) ?_
    refine f_istore (ls' := [(6, .int 1), (5, .int x1), (0, .int x0), (1, .int x1), (2, .ref r2)]) dJ6_getChars_ba4f3_12 (by decide) rfl ?_
    refine f_iload dJ6_getChars_ba4f3_14 0 rfl ?_
    refine f_if_ne (tgt := 22) dJ6_getChars_ba4f3_16 (by decide) (fun h3 => ?_) (fun h3 => ?_)
    · refine f_ls [2, 4, 1, 0] rfl ?_
      exact H
    · exact absurd h3 (by decide)
set_option maxRecDepth 20000 in
set_option maxHeartbeats 2000000 in
theorem b_J6_getChars_ba4f3_22 {G : fG} {l : Launch} {K : Int32 → Option zS → fW → Prop} {r2 : Nat} {y0 : Int32} {y5 : Int32} {y6 : Int32} {o : Option zS} {ω : fW} {kb : Nat}
    (H : (((-100) < y0 → (vp_in (-y0) 100 ∧ (∃ (n2 : Nat) (f3 : Nat → Int32), ω r2 = some (.inl (G.1.2.1 1, n2, .inl f3)) ∧ vp_in (y5 + (-1)) n2 ∧ (∀ ω4 : fW, ω4 = fup ω r2 (.inl (G.1.2.1 1, n2, .inl (upd f3 (Int32.toNatClampNeg (y5 + (-1))) (vp_nar .byte (nI (48 + Int32.toNatClampNeg (-y0) % 10)))))) → (((-9) ≤ y0 → ((y6 = 0 → K (y5 + (-1)) o ω4) ∧ (¬ y6 = 0 → (∃ (n7 : Nat) (f8 : Nat → Int32), ω4 r2 = some (.inl (G.1.2.1 1, n7, .inl f8)) ∧ vp_in ((y5 + (-1)) + (-1)) n7 ∧ (∀ ω9 : fW, ω9 = fup ω4 r2 (.inl (G.1.2.1 1, n7, .inl (upd f8 (Int32.toNatClampNeg ((y5 + (-1)) + (-1))) (vp_nar .byte 45)))) → K ((y5 + (-1)) + (-1)) o ω9))))) ∧ (¬ (-9) ≤ y0 → (vp_in (-y0) 100 ∧ (∃ (n10 : Nat) (f11 : Nat → Int32), ω4 r2 = some (.inl (G.1.2.1 1, n10, .inl f11)) ∧ vp_in ((y5 + (-1)) + (-1)) n10 ∧ (∀ ω12 : fW, ω12 = fup ω4 r2 (.inl (G.1.2.1 1, n10, .inl (upd f11 (Int32.toNatClampNeg ((y5 + (-1)) + (-1))) (vp_nar .byte (nI (48 + Int32.toNatClampNeg (-y0) / 10)))))) → ((y6 = 0 → K ((y5 + (-1)) + (-1)) o ω12) ∧ (¬ y6 = 0 → (∃ (n14 : Nat) (f15 : Nat → Int32), ω12 r2 = some (.inl (G.1.2.1 1, n14, .inl f15)) ∧ vp_in (((y5 + (-1)) + (-1)) + (-1)) n14 ∧ (∀ ω16 : fW, ω16 = fup ω12 r2 (.inl (G.1.2.1 1, n14, .inl (upd f15 (Int32.toNatClampNeg (((y5 + (-1)) + (-1)) + (-1))) (vp_nar .byte 45)))) → K (((y5 + (-1)) + (-1)) + (-1)) o ω16))))))))))))) ∧ (¬ (-100) < y0 → (vp_in (((y0 / 100) * 100) - y0) 100 ∧ (∃ (n17 : Nat) (f18 : Nat → Int32), ω r2 = some (.inl (G.1.2.1 1, n17, .inl f18)) ∧ vp_in (y5 + (-1)) n17 ∧ (∀ ω19 : fW, ω19 = fup ω r2 (.inl (G.1.2.1 1, n17, .inl (upd f18 (Int32.toNatClampNeg (y5 + (-1))) (vp_nar .byte (nI (48 + Int32.toNatClampNeg (((y0 / 100) * 100) - y0) % 10)))))) → (vp_in (((y0 / 100) * 100) - y0) 100 ∧ (∃ (n20 : Nat) (f21 : Nat → Int32), ω19 r2 = some (.inl (G.1.2.1 1, n20, .inl f21)) ∧ vp_in ((y5 + (-1)) + (-1)) n20 ∧ (∀ ω22 : fW, ω22 = fup ω19 r2 (.inl (G.1.2.1 1, n20, .inl (upd f21 (Int32.toNatClampNeg ((y5 + (-1)) + (-1))) (vp_nar .byte (nI (48 + Int32.toNatClampNeg (((y0 / 100) * 100) - y0) / 10)))))) → L_J6_getChars_ba4f3_22 G l K r2 (y0 / 100) ((y5 + (-1)) + (-1)) y6 o ω22 kb))))))))) :
    L_J6_getChars_ba4f3_22 G l K r2 y0 y5 y6 o ω kb := by
  refine f_iload_n dJ6_getChars_ba4f3_22 rfl 0 rfl ?_
  refine f_bipush (v := (-100)) dJ6_getChars_ba4f3_23 (by decide) ?_
  refine f_icmp_gt (tgt := 72) dJ6_getChars_ba4f3_25 (by decide) (fun h1 => ?_) (fun h1 => ?_)
  · replace H := H.1 h1
    refine f_aload_n dJ6_getChars_ba4f3_72 rfl 1 rfl ?_
    refine f_iinc (j := 2) (v := (y5 + (-1))) (ls' := [(5, .int (y5 + (-1))), (0, .int y0), (2, .ref r2), (6, .int y6)]) dJ6_getChars_ba4f3_73 rfl rfl (by decide) rfl ?_
    refine f_iload dJ6_getChars_ba4f3_76 0 rfl ?_
    refine f_sDigitOnes qs_J6_83 dJ6_getChars_ba4f3_78 ?_
    refine f_iload_n dJ6_getChars_ba4f3_81 rfl 1 rfl ?_
    refine f_ineg dJ6_getChars_ba4f3_82 ?_
    refine f_bDigitOnes H.1 dJ6_getChars_ba4f3_83 ?_
    replace H := H.2
    obtain ⟨n2, f3, hn2, gn2, H⟩ := H
    refine f_bast hn2 gn2 dJ6_getChars_ba4f3_84 ?_
    replace H := H _ rfl
    generalize fup ω r2 (.inl (G.1.2.1 1, n2, .inl (upd f3 (Int32.toNatClampNeg (y5 + (-1))) (vp_nar .byte (nI (48 + Int32.toNatClampNeg (-y0) % 10)))))) = ω4 at H ⊢
    refine f_iload_n dJ6_getChars_ba4f3_85 rfl 1 rfl ?_
    refine f_bipush (v := (-9)) dJ6_getChars_ba4f3_86 (by decide) ?_
    refine f_icmp_ge (tgt := 104) dJ6_getChars_ba4f3_88 (by decide) (fun h5 => ?_) (fun h5 => ?_)
    · replace H := H.1 h5
      refine f_iload dJ6_getChars_ba4f3_104 3 rfl ?_
      refine f_if_eq (tgt := 118) dJ6_getChars_ba4f3_106 (by decide) (fun h6 => ?_) (fun h6 => ?_)
      · replace H := H.1 h6
        refine f_iload dJ6_getChars_ba4f3_118 0 rfl ?_
        exact f_iret rfl dJ6_getChars_ba4f3_120 ⟨_, rfl, H⟩
      · replace H := H.2 h6
        refine f_aload_n dJ6_getChars_ba4f3_109 rfl 2 rfl ?_
        refine f_iinc (j := 0) (v := ((y5 + (-1)) + (-1))) (ls' := [(5, .int ((y5 + (-1)) + (-1))), (0, .int y0), (2, .ref r2), (6, .int y6)]) dJ6_getChars_ba4f3_110 rfl rfl (by decide) rfl ?_
        refine f_iload dJ6_getChars_ba4f3_113 0 rfl ?_
        refine f_bipush (v := 45) dJ6_getChars_ba4f3_115 (by decide) ?_
        obtain ⟨n7, f8, hn7, gn7, H⟩ := H
        refine f_bast hn7 gn7 dJ6_getChars_ba4f3_117 ?_
        replace H := H _ rfl
        generalize fup ω4 r2 (.inl (G.1.2.1 1, n7, .inl (upd f8 (Int32.toNatClampNeg ((y5 + (-1)) + (-1))) (vp_nar .byte 45)))) = ω9 at H ⊢
        refine f_iload dJ6_getChars_ba4f3_118 0 rfl ?_
        exact f_iret rfl dJ6_getChars_ba4f3_120 ⟨_, rfl, H⟩
    · replace H := H.2 h5
      refine f_aload_n dJ6_getChars_ba4f3_91 rfl 2 rfl ?_
      refine f_iinc (j := 0) (v := ((y5 + (-1)) + (-1))) (ls' := [(5, .int ((y5 + (-1)) + (-1))), (0, .int y0), (2, .ref r2), (6, .int y6)]) dJ6_getChars_ba4f3_92 rfl rfl (by decide) rfl ?_
      refine f_iload dJ6_getChars_ba4f3_95 0 rfl ?_
      refine f_sDigitTens qs_J6_87 dJ6_getChars_ba4f3_97 ?_
      refine f_iload_n dJ6_getChars_ba4f3_100 rfl 1 rfl ?_
      refine f_ineg dJ6_getChars_ba4f3_101 ?_
      refine f_bDigitTens H.1 dJ6_getChars_ba4f3_102 ?_
      replace H := H.2
      obtain ⟨n10, f11, hn10, gn10, H⟩ := H
      refine f_bast hn10 gn10 dJ6_getChars_ba4f3_103 ?_
      replace H := H _ rfl
      generalize fup ω4 r2 (.inl (G.1.2.1 1, n10, .inl (upd f11 (Int32.toNatClampNeg ((y5 + (-1)) + (-1))) (vp_nar .byte (nI (48 + Int32.toNatClampNeg (-y0) / 10)))))) = ω12 at H ⊢
      refine f_iload dJ6_getChars_ba4f3_104 3 rfl ?_
      refine f_if_eq (tgt := 118) dJ6_getChars_ba4f3_106 (by decide) (fun h13 => ?_) (fun h13 => ?_)
      · replace H := H.1 h13
        refine f_iload dJ6_getChars_ba4f3_118 0 rfl ?_
        exact f_iret rfl dJ6_getChars_ba4f3_120 ⟨_, rfl, H⟩
      · replace H := H.2 h13
        refine f_aload_n dJ6_getChars_ba4f3_109 rfl 2 rfl ?_
        refine f_iinc (j := 0) (v := (((y5 + (-1)) + (-1)) + (-1))) (ls' := [(5, .int (((y5 + (-1)) + (-1)) + (-1))), (0, .int y0), (2, .ref r2), (6, .int y6)]) dJ6_getChars_ba4f3_110 rfl rfl (by decide) rfl ?_
        refine f_iload dJ6_getChars_ba4f3_113 0 rfl ?_
        refine f_bipush (v := 45) dJ6_getChars_ba4f3_115 (by decide) ?_
        obtain ⟨n14, f15, hn14, gn14, H⟩ := H
        refine f_bast hn14 gn14 dJ6_getChars_ba4f3_117 ?_
        replace H := H _ rfl
        generalize fup ω12 r2 (.inl (G.1.2.1 1, n14, .inl (upd f15 (Int32.toNatClampNeg (((y5 + (-1)) + (-1)) + (-1))) (vp_nar .byte 45)))) = ω16 at H ⊢
        refine f_iload dJ6_getChars_ba4f3_118 0 rfl ?_
        exact f_iret rfl dJ6_getChars_ba4f3_120 ⟨_, rfl, H⟩
  · replace H := H.2 h1
    refine f_iload_n dJ6_getChars_ba4f3_28 rfl 0 rfl ?_
    refine f_bipush (v := 100) dJ6_getChars_ba4f3_29 (by decide) ?_
    refine f_idiv dJ6_getChars_ba4f3_31 (by decide) ?_
    refine f_istore_n (ls' := [(3, .int (y0 / 100)), (0, .int y0), (2, .ref r2), (5, .int y5), (6, .int y6)]) dJ6_getChars_ba4f3_32 rfl (by decide) rfl ?_
    refine f_iload_n dJ6_getChars_ba4f3_33 rfl 0 rfl ?_
    refine f_bipush (v := 100) dJ6_getChars_ba4f3_34 (by decide) ?_
    refine f_imul dJ6_getChars_ba4f3_36 ?_
    refine f_iload_n dJ6_getChars_ba4f3_37 rfl 1 rfl ?_
    refine f_isub dJ6_getChars_ba4f3_38 ?_
    refine f_istore (ls' := [(4, .int (((y0 / 100) * 100) - y0)), (3, .int (y0 / 100)), (0, .int y0), (2, .ref r2), (5, .int y5), (6, .int y6)]) dJ6_getChars_ba4f3_39 (by decide) rfl ?_
    refine f_iload_n dJ6_getChars_ba4f3_41 rfl 1 rfl ?_
    refine f_istore_n (ls' := [(0, .int (y0 / 100)), (4, .int (((y0 / 100) * 100) - y0)), (3, .int (y0 / 100)), (2, .ref r2), (5, .int y5), (6, .int y6)]) dJ6_getChars_ba4f3_42 rfl (by decide) rfl ?_
    refine f_aload_n dJ6_getChars_ba4f3_43 rfl 3 rfl ?_
    refine f_iinc (j := 4) (v := (y5 + (-1))) (ls' := [(5, .int (y5 + (-1))), (0, .int (y0 / 100)), (4, .int (((y0 / 100) * 100) - y0)), (3, .int (y0 / 100)), (2, .ref r2), (6, .int y6)]) dJ6_getChars_ba4f3_44 rfl rfl (by decide) rfl ?_
    refine f_iload dJ6_getChars_ba4f3_47 0 rfl ?_
    refine f_sDigitOnes qs_J6_83 dJ6_getChars_ba4f3_49 ?_
    refine f_iload dJ6_getChars_ba4f3_52 2 rfl ?_
    refine f_bDigitOnes H.1 dJ6_getChars_ba4f3_54 ?_
    replace H := H.2
    obtain ⟨n17, f18, hn17, gn17, H⟩ := H
    refine f_bast hn17 gn17 dJ6_getChars_ba4f3_55 ?_
    replace H := H _ rfl
    generalize fup ω r2 (.inl (G.1.2.1 1, n17, .inl (upd f18 (Int32.toNatClampNeg (y5 + (-1))) (vp_nar .byte (nI (48 + Int32.toNatClampNeg (((y0 / 100) * 100) - y0) % 10)))))) = ω19 at H ⊢
    refine f_aload_n dJ6_getChars_ba4f3_56 rfl 4 rfl ?_
    refine f_iinc (j := 0) (v := ((y5 + (-1)) + (-1))) (ls' := [(5, .int ((y5 + (-1)) + (-1))), (0, .int (y0 / 100)), (4, .int (((y0 / 100) * 100) - y0)), (3, .int (y0 / 100)), (2, .ref r2), (6, .int y6)]) dJ6_getChars_ba4f3_57 rfl rfl (by decide) rfl ?_
    refine f_iload dJ6_getChars_ba4f3_60 0 rfl ?_
    refine f_sDigitTens qs_J6_87 dJ6_getChars_ba4f3_62 ?_
    refine f_iload dJ6_getChars_ba4f3_65 2 rfl ?_
    refine f_bDigitTens H.1 dJ6_getChars_ba4f3_67 ?_
    replace H := H.2
    obtain ⟨n20, f21, hn20, gn20, H⟩ := H
    refine f_bast hn20 gn20 dJ6_getChars_ba4f3_68 ?_
    replace H := H _ rfl
    generalize fup ω19 r2 (.inl (G.1.2.1 1, n20, .inl (upd f21 (Int32.toNatClampNeg ((y5 + (-1)) + (-1))) (vp_nar .byte (nI (48 + Int32.toNatClampNeg (((y0 / 100) * 100) - y0) / 10)))))) = ω22 at H ⊢
    refine f_goto (tgt := 22) dJ6_getChars_ba4f3_69 (by decide) ?_
    refine f_ls [1, 4, 0, 5] rfl ?_
    exact H
abbrev L_J6_stringSize_0f7a4_16 (G : fG) (l : Launch) (K : Int32 → Option zS → fW → Prop) (y0 : Int32) (y1 : Int32) (y2 : Int32) (y3 : Int32) (o : Option zS) (ω : fW) (kb : Nat) : Prop :=
  FV G l M_J6_stringSize_0f7a4 kb (fQi K) 16 [(0, .int y0), (1, .int y1), (2, .int y2), (3, .int y3)] [] (o, ω)
set_option maxRecDepth 20000 in
set_option maxHeartbeats 2000000 in
theorem b_J6_stringSize_0f7a4 {G : fG} {l : Launch} {K : Int32 → Option zS → fW → Prop} {x0 : Int32} {o : Option zS} {ω : fW} {kb : Nat}
    (H : ((x0 < 0 → L_J6_stringSize_0f7a4_16 G l K x0 1 (-10) 1 o ω kb) ∧ (¬ x0 < 0 → L_J6_stringSize_0f7a4_16 G l K (-x0) 0 (-10) 1 o ω kb))) :
    FC G l M_J6_stringSize_0f7a4 kb [.int x0] (o, ω) (fQi K) := by
  refine FC_of (by decide) (Nat.le_of_ble_eq_true rfl) ?_
  change FV _ _ _ _ _ 0 [(0, .int x0)] [] _
  refine f_iconst (v := 1) dJ6_stringSize_0f7a4_0 (by decide) ?_
  refine f_istore_n (ls' := [(1, .int 1), (0, .int x0)]) dJ6_stringSize_0f7a4_1 rfl (by decide) rfl ?_
  refine f_iload_n dJ6_stringSize_0f7a4_2 rfl 1 rfl ?_
  refine f_if_lt (tgt := 11) dJ6_stringSize_0f7a4_3 (by decide) (fun h1 => ?_) (fun h1 => ?_)
  · replace H := H.1 h1
    refine f_bipush (v := (-10)) dJ6_stringSize_0f7a4_11 (by decide) ?_
    refine f_istore_n (ls' := [(2, .int (-10)), (1, .int 1), (0, .int x0)]) dJ6_stringSize_0f7a4_13 rfl (by decide) rfl ?_
    refine f_iconst (v := 1) dJ6_stringSize_0f7a4_14 (by decide) ?_
    refine f_istore_n (ls' := [(3, .int 1), (2, .int (-10)), (1, .int 1), (0, .int x0)]) dJ6_stringSize_0f7a4_15 rfl (by decide) rfl ?_
    refine f_ls [3, 2, 1, 0] rfl ?_
    exact H
  · replace H := H.2 h1
    refine f_iconst (v := 0) dJ6_stringSize_0f7a4_6 (by decide) ?_
    refine f_istore_n (ls' := [(1, .int 0), (0, .int x0)]) dJ6_stringSize_0f7a4_7 rfl (by decide) rfl ?_
    refine f_iload_n dJ6_stringSize_0f7a4_8 rfl 1 rfl ?_
    refine f_ineg dJ6_stringSize_0f7a4_9 ?_
    refine f_istore_n (ls' := [(0, .int (-x0)), (1, .int 0)]) dJ6_stringSize_0f7a4_10 rfl (by decide) rfl ?_
    refine f_bipush (v := (-10)) dJ6_stringSize_0f7a4_11 (by decide) ?_
    refine f_istore_n (ls' := [(2, .int (-10)), (0, .int (-x0)), (1, .int 0)]) dJ6_stringSize_0f7a4_13 rfl (by decide) rfl ?_
    refine f_iconst (v := 1) dJ6_stringSize_0f7a4_14 (by decide) ?_
    refine f_istore_n (ls' := [(3, .int 1), (2, .int (-10)), (0, .int (-x0)), (1, .int 0)]) dJ6_stringSize_0f7a4_15 rfl (by decide) rfl ?_
    refine f_ls [2, 3, 1, 0] rfl ?_
    exact H
set_option maxRecDepth 20000 in
set_option maxHeartbeats 2000000 in
theorem b_J6_stringSize_0f7a4_16 {G : fG} {l : Launch} {K : Int32 → Option zS → fW → Prop} {y0 : Int32} {y1 : Int32} {y2 : Int32} {y3 : Int32} {o : Option zS} {ω : fW} {kb : Nat}
    (H : ((10 ≤ y3 → K (10 + y1) o ω) ∧ (¬ 10 ≤ y3 → ((y0 ≤ y2 → L_J6_stringSize_0f7a4_16 G l K y0 y1 (10 * y2) (y3 + 1) o ω kb) ∧ (¬ y0 ≤ y2 → K (y3 + y1) o ω))))) :
    L_J6_stringSize_0f7a4_16 G l K y0 y1 y2 y3 o ω kb := by
  refine f_iload_n dJ6_stringSize_0f7a4_16 rfl 3 rfl ?_
  refine f_bipush (v := 10) dJ6_stringSize_0f7a4_17 (by decide) ?_
  refine f_icmp_ge (tgt := 42) dJ6_stringSize_0f7a4_19 (by decide) (fun h1 => ?_) (fun h1 => ?_)
  · replace H := H.1 h1
    refine f_bipush (v := 10) dJ6_stringSize_0f7a4_42 (by decide) ?_
    refine f_iload_n dJ6_stringSize_0f7a4_44 rfl 1 rfl ?_
    refine f_iadd dJ6_stringSize_0f7a4_45 ?_
    exact f_iret rfl dJ6_stringSize_0f7a4_46 ⟨_, rfl, H⟩
  · replace H := H.2 h1
    refine f_iload_n dJ6_stringSize_0f7a4_22 rfl 0 rfl ?_
    refine f_iload_n dJ6_stringSize_0f7a4_23 rfl 2 rfl ?_
    refine f_icmp_le (tgt := 31) dJ6_stringSize_0f7a4_24 (by decide) (fun h2 => ?_) (fun h2 => ?_)
    · replace H := H.1 h2
      refine f_bipush (v := 10) dJ6_stringSize_0f7a4_31 (by decide) ?_
      refine f_iload_n dJ6_stringSize_0f7a4_33 rfl 2 rfl ?_
      refine f_imul dJ6_stringSize_0f7a4_34 ?_
      refine f_istore_n (ls' := [(2, .int (10 * y2)), (0, .int y0), (1, .int y1), (3, .int y3)]) dJ6_stringSize_0f7a4_35 rfl (by decide) rfl ?_
      refine f_iinc (j := 3) (v := (y3 + 1)) (ls' := [(3, .int (y3 + 1)), (2, .int (10 * y2)), (0, .int y0), (1, .int y1)]) dJ6_stringSize_0f7a4_36 rfl rfl (by decide) rfl ?_
      refine f_goto (tgt := 16) dJ6_stringSize_0f7a4_39 (by decide) ?_
      refine f_ls [2, 3, 1, 0] rfl ?_
      exact H
    · replace H := H.2 h2
      refine f_iload_n dJ6_stringSize_0f7a4_27 rfl 3 rfl ?_
      refine f_iload_n dJ6_stringSize_0f7a4_28 rfl 1 rfl ?_
      refine f_iadd dJ6_stringSize_0f7a4_29 ?_
      exact f_iret rfl dJ6_stringSize_0f7a4_30 ⟨_, rfl, H⟩
set_option maxRecDepth 20000 in
set_option maxHeartbeats 2000000 in
theorem b_J0_init_db425 {G : fG} {l : Launch} {K : Option zS → fW → Prop} {r0 : Nat} {r1 : Nat} {o : Option zS} {ω : fW} {kb : Nat}
    (H : (0 ≤ kb ∧ ∃ fs31 : List Value, ω r1 = some (.inr (1, fs31)) ∧ FC G l M_J5_getValue_6d5f1 0 [.ref r1] (o, ω) (fQr (fun v1 o2 ω3 => (0 ≤ kb ∧ ∃ fs30 : List Value, ω3 r1 = some (.inr (1, fs30)) ∧ FC G l M_J4_length_8abf5 0 [.ref r1] (o2, ω3) (fQi (fun v4 o5 ω6 => (0 ≤ kb ∧ ∃ fs29 : List Value, ω6 r1 = some (.inr (1, fs29)) ∧ FC G l M_J5_isLatin1_aae02 0 [.ref r1] (o5, ω6) (fQi (fun v7 o8 ω9 => ((v7 = 0 → (∃ (fs12 : List Value) (w13 : Int32), ω9 r1 = some (.inr (1, fs12)) ∧ fs12[2]? = some (.int w13) ∧ ((w13 = 0 → (∃ fs15 : List Value, ω9 r0 = some (.inr (0, fs15)) ∧ 1 < fs15.length ∧ (∀ ω16 : fW, ω16 = fup ω9 r0 (.inr (0, fs15.set 1 (.int 1))) → (60 ≤ kb ∧ FC G l M_J7_copyOfRange_39247 60 [.ref v1, .int 0, .int (v4 <<< (1 &&& 31))] (o8, ω16) (fQr (fun v17 o18 ω19 => (∃ fs20 : List Value, ω19 r0 = some (.inr (0, fs20)) ∧ 0 < fs20.length ∧ (∀ ω21 : fW, ω21 = fup ω19 r0 (.inr (0, fs20.set 0 (.ref v17))) → K o18 ω21)))))))) ∧ (¬ w13 = 0 → False)))) ∧ (¬ v7 = 0 → (∃ fs22 : List Value, ω9 r0 = some (.inr (0, fs22)) ∧ 1 < fs22.length ∧ (∀ ω23 : fW, ω23 = fup ω9 r0 (.inr (0, fs22.set 1 (.int 0))) → (60 ≤ kb ∧ FC G l M_J7_copyOfRange_39247 60 [.ref v1, .int 0, .int v4] (o8, ω23) (fQr (fun v24 o25 ω26 => (∃ fs27 : List Value, ω26 r0 = some (.inr (0, fs27)) ∧ 0 < fs27.length ∧ (∀ ω28 : fW, ω28 = fup ω26 r0 (.inr (0, fs27.set 0 (.ref v24))) → K o25 ω28))))))))))))))))))) :
    FC G l M_J0_init_db425 kb [.ref r0, .ref r1, .null] (o, ω) (fQv K) := by
  refine FC_of (by decide) (Nat.le_of_ble_eq_true rfl) ?_
  change FV _ _ _ _ _ 0 [(0, .ref r0), (1, .ref r1), (2, .null)] [] _
  refine f_aload_n dJ0_init_db425_0 rfl 0 rfl ?_
  refine f_obj qo_J0_1 qi_obj qc_obj (by decide) (Nat.le_of_ble_eq_true rfl) dJ0_init_db425_1 ?_
  refine f_aload_n dJ0_init_db425_4 rfl 1 rfl ?_
  have hkfs31 := H.1
  obtain ⟨fs31, hfs31, H⟩ := H.2
  refine f_callVr (C := RJ4) (j1 := 0) (j2 := kb) (av := []) rfl hfs31 rfl rfl H i_J5_getValue_6d5f1 rfl n_J5_getValue_6d5f1 vs_J5_getValue_6d5f1 q_J0_552 (by decide) (f_kj hkfs31) (Nat.le_of_ble_eq_true rfl) dJ0_init_db425_5 (fun v1 o2 ω3 H => ?_)
  refine f_astore_n (ls' := [(3, .ref v1), (0, .ref r0), (1, .ref r1), (2, .null)]) dJ0_init_db425_8 rfl (by decide) rfl ?_
  refine f_aload_n dJ0_init_db425_9 rfl 2 rfl ?_
  have hkfs30 := H.1
  obtain ⟨fs30, hfs30, H⟩ := H.2
  refine f_callOi (x := ⟨RJ5, "length", "()I"⟩) (owner := RJ5) (j1 := 0) (j2 := kb) (av := []) rfl hfs30 rfl rfl H i_J4_length_8abf5 rfl qc_J5_length ⟨by decide, by decide, by decide +kernel⟩ sm_J5_length n_J5_length_8abf5 n_J4_length_8abf5 vo_J4_length_8abf5 q_J0_549 (by decide) (f_kj hkfs30) (Nat.le_of_ble_eq_true rfl) dJ0_init_db425_10 (fun v4 o5 ω6 H => ?_)
  refine f_istore (ls' := [(4, .int v4), (3, .ref v1), (0, .ref r0), (1, .ref r1), (2, .null)]) dJ0_init_db425_13 (by decide) rfl ?_
  refine f_aload_n dJ0_init_db425_15 rfl 3 rfl ?_
  have hkfs29 := H.1
  obtain ⟨fs29, hfs29, H⟩ := H.2
  refine f_callVi (C := RJ4) (j1 := 0) (j2 := kb) (av := []) rfl hfs29 rfl rfl H i_J5_isLatin1_aae02 rfl n_J5_isLatin1_aae02 vs_J5_isLatin1_aae02 q_J0_1047 (by decide) (f_kj hkfs29) (Nat.le_of_ble_eq_true rfl) dJ0_init_db425_16 (fun v7 o8 ω9 H => ?_)
  refine f_if_eq (tgt := 41) dJ0_init_db425_19 (by decide) (fun h10 => ?_) (fun h10 => ?_)
  · replace H := H.1 h10
    refine f_scmp qs_J0_38 dJ0_init_db425_41 ?_
    refine f_if_eq (tgt := 79) dJ0_init_db425_44 (by decide) (fun h11 => ?_) (fun h11 => ?_)
    · exact absurd h11 (by decide)
    · refine f_aload_n dJ0_init_db425_47 rfl 3 rfl ?_
      obtain ⟨fs12, w13, hfs12, gfs12, H⟩ := H
      refine gf_J0_1048 rfl hfs12 gfs12 dJ0_init_db425_48 ?_
      refine f_if_eq (tgt := 79) dJ0_init_db425_51 (by decide) (fun h14 => ?_) (fun h14 => ?_)
      · replace H := H.1 h14
        refine f_aload_n dJ0_init_db425_79 rfl 2 rfl ?_
        refine f_iconst (v := 1) dJ0_init_db425_80 (by decide) ?_
        obtain ⟨fs15, hfs15, gfs15, H⟩ := H
        refine pf_J0_15 rfl rfl hfs15 gfs15 rfl rfl dJ0_init_db425_81 ?_
        replace H := H _ rfl
        generalize fup ω9 r0 (.inr (0, fs15.set 1 (.int 1))) = ω16 at H ⊢
        refine f_aload_n dJ0_init_db425_84 rfl 2 rfl ?_
        refine f_aload_n dJ0_init_db425_85 rfl 1 rfl ?_
        refine f_iconst (v := 0) dJ0_init_db425_86 (by decide) ?_
        refine f_iload dJ0_init_db425_87 0 rfl ?_
        refine f_iconst (v := 1) dJ0_init_db425_89 (by decide) ?_
        refine f_ishl dJ0_init_db425_90 ?_
        refine f_callSr (j1 := 60) (j2 := (kb - 60)) (av := [.ref v1, .int 0, .int (v4 <<< (1 &&& 31))]) rfl H.2 i_J7_copyOfRange_39247 rfl s_J7_copyOfRange_39247 q_J0_54 (by decide) (f_kj H.1) (Nat.le_of_ble_eq_true rfl) dJ0_init_db425_91 (fun v17 o18 ω19 H => ?_)
        obtain ⟨fs20, hfs20, gfs20, H⟩ := H
        refine pf_J0_9 rfl rfl hfs20 gfs20 dJ0_init_db425_94 ?_
        replace H := H _ rfl
        generalize fup ω19 r0 (.inr (0, fs20.set 0 (.ref v17))) = ω21 at H ⊢
        exact f_vret rfl dJ0_init_db425_97 ⟨rfl, H⟩
      · replace H := H.2 h14
        refine f_aload_n dJ0_init_db425_54 rfl 2 rfl ?_
        refine f_aload_n dJ0_init_db425_55 rfl 1 rfl ?_
        refine f_iconst (v := 0) dJ0_init_db425_56 (by decide) ?_
        refine f_iload dJ0_init_db425_57 0 rfl ?_
        exact H.elim
  · replace H := H.2 h10
    refine f_aload_n dJ0_init_db425_22 rfl 2 rfl ?_
    refine f_iconst (v := 0) dJ0_init_db425_23 (by decide) ?_
    obtain ⟨fs22, hfs22, gfs22, H⟩ := H
    refine pf_J0_15 rfl rfl hfs22 gfs22 rfl rfl dJ0_init_db425_24 ?_
    replace H := H _ rfl
    generalize fup ω9 r0 (.inr (0, fs22.set 1 (.int 0))) = ω23 at H ⊢
    refine f_aload_n dJ0_init_db425_27 rfl 2 rfl ?_
    refine f_aload_n dJ0_init_db425_28 rfl 1 rfl ?_
    refine f_iconst (v := 0) dJ0_init_db425_29 (by decide) ?_
    refine f_iload dJ0_init_db425_30 0 rfl ?_
    refine f_callSr (j1 := 60) (j2 := (kb - 60)) (av := [.ref v1, .int 0, .int v4]) rfl H.2 i_J7_copyOfRange_39247 rfl s_J7_copyOfRange_39247 q_J0_54 (by decide) (f_kj H.1) (Nat.le_of_ble_eq_true rfl) dJ0_init_db425_32 (fun v24 o25 ω26 H => ?_)
    obtain ⟨fs27, hfs27, gfs27, H⟩ := H
    refine pf_J0_9 rfl rfl hfs27 gfs27 dJ0_init_db425_35 ?_
    replace H := H _ rfl
    generalize fup ω26 r0 (.inr (0, fs27.set 0 (.ref v24))) = ω28 at H ⊢
    refine f_goto (tgt := 97) dJ0_init_db425_38 (by decide) ?_
    exact f_vret rfl dJ0_init_db425_97 ⟨rfl, H⟩
set_option maxRecDepth 20000 in
set_option maxHeartbeats 2000000 in
theorem b_J0_init_81219 {G : fG} {l : Launch} {K : Option zS → fW → Prop} {r0 : Nat} {r1 : Nat} {o : Option zS} {ω : fW} {kb : Nat}
    (H : (60 ≤ kb ∧ FC G l M_J0_init_db425 60 [.ref r0, .ref r1, .null] (o, ω) (fQv (fun o2 ω3 => K o2 ω3)))) :
    FC G l M_J0_init_81219 kb [.ref r0, .ref r1] (o, ω) (fQv K) := by
  refine FC_of (by decide) (Nat.le_of_ble_eq_true rfl) ?_
  change FV _ _ _ _ _ 0 [(0, .ref r0), (1, .ref r1)] [] _
  refine f_aload_n dJ0_init_81219_0 rfl 0 rfl ?_
  refine f_aload_n dJ0_init_81219_1 rfl 1 rfl ?_
  refine f_null dJ0_init_81219_2 ?_
  refine f_callIv (j1 := 60) (j2 := (kb - 60)) (av := [.ref r1, .null]) rfl H.2 i_J0_init_db425 rfl rfl rfl n_J0_init_db425 q_J0_489 (by decide) (f_kj H.1) (Nat.le_of_ble_eq_true rfl) dJ0_init_81219_3 (fun o2 ω3 H => ?_)
  exact f_vret rfl dJ0_init_81219_6 ⟨rfl, H⟩
set_option maxRecDepth 20000 in
set_option maxHeartbeats 2000000 in
theorem b_J0_charAt_5068e {G : fG} {l : Launch} {K : Int32 → Option zS → fW → Prop} {r0 : Nat} {x1 : Int32} {o : Option zS} {ω : fW} {kb : Nat}
    (H : (0 ≤ kb ∧ ∃ (a14 t15 : Nat) (f16 : Nat → Int32), tA G ω r0 a14 t15 f16 ∧ FC G l M_J0_isLatin1_aae02 0 [.ref r0] (o, ω) (fQi (fun v1 o2 ω3 => ((v1 = 0 → (∃ (a5 t6 : Nat) (f7 : Nat → Int32), tA G ω3 r0 a5 t6 f7 ∧ False)) ∧ (¬ v1 = 0 → (∃ (a8 t9 : Nat) (f10 : Nat → Int32), tA G ω3 r0 a8 t9 f10 ∧ (0 ≤ kb ∧ FC G l M_J1_charAt_3b067 0 [.ref a8, .int x1] (o2, ω3) (fQi (fun v11 o12 ω13 => (narrow .char (.int v11) = .int v11 ∧ K v11 o12 ω13))))))))))) :
    FC G l M_J0_charAt_5068e kb [.ref r0, .int x1] (o, ω) (fQi K) := by
  refine FC_of (by decide) (Nat.le_of_ble_eq_true rfl) ?_
  change FV _ _ _ _ _ 0 [(0, .ref r0), (1, .int x1)] [] _
  refine f_aload_n dJ0_charAt_5068e_0 rfl 0 rfl ?_
  have hka14 := H.1
  obtain ⟨a14, t15, f16, ha14, H⟩ := H.2
  refine f_callTi (j1 := 0) (j2 := kb) (av := []) rfl ha14 rfl H i_J0_isLatin1_aae02 rfl n_J0_isLatin1_aae02 v_J0_isLatin1_aae02 q_J0_492 (by decide) (f_kj hka14) (Nat.le_of_ble_eq_true rfl) dJ0_charAt_5068e_1 (fun v1 o2 ω3 H => ?_)
  refine f_if_eq (tgt := 16) dJ0_charAt_5068e_4 (by decide) (fun h4 => ?_) (fun h4 => ?_)
  · replace H := H.1 h4
    refine f_aload_n dJ0_charAt_5068e_16 rfl 0 rfl ?_
    obtain ⟨a5, t6, f7, ha5, H⟩ := H
    refine f_tval ha5 rfl dJ0_charAt_5068e_17 ?_
    refine f_iload_n dJ0_charAt_5068e_20 rfl 1 rfl ?_
    exact H.elim
  · replace H := H.2 h4
    refine f_aload_n dJ0_charAt_5068e_7 rfl 0 rfl ?_
    obtain ⟨a8, t9, f10, ha8, H⟩ := H
    refine f_tval ha8 rfl dJ0_charAt_5068e_8 ?_
    refine f_iload_n dJ0_charAt_5068e_11 rfl 1 rfl ?_
    refine f_callSi (j1 := 0) (j2 := kb) (av := [.ref a8, .int x1]) rfl H.2 i_J1_charAt_3b067 rfl s_J1_charAt_3b067 q_J0_495 (by decide) (f_kj H.1) (Nat.le_of_ble_eq_true rfl) dJ0_charAt_5068e_12 (fun v11 o12 ω13 H => ?_)
    exact f_zret rfl H.1 dJ0_charAt_5068e_15 ⟨_, rfl, H.2⟩
set_option maxRecDepth 20000 in
set_option maxHeartbeats 2000000 in
theorem b_J0_checkIndex_df160 {G : fG} {l : Launch} {K : Option zS → fW → Prop} {x0 : Int32} {x1 : Int32} {o : Option zS} {ω : fW} {kb : Nat}
    (H : (∀ u1 : Value, (u1 = .null ∨ ∃ t : Nat, u1 = .ref t) → (0 ≤ kb ∧ FC G l M_J3_checkIndex_8e157 0 [.int x0, .int x1, u1] (o, ω) (fQi (fun v2 o3 ω4 => K o3 ω4))))) :
    FC G l M_J0_checkIndex_df160 kb [.int x0, .int x1] (o, ω) (fQv K) := by
  refine FC_of (by decide) (Nat.le_of_ble_eq_true rfl) ?_
  change FV _ _ _ _ _ 0 [(0, .int x0), (1, .int x1)] [] _
  refine f_iload_n dJ0_checkIndex_df160_0 rfl 0 rfl ?_
  refine f_iload_n dJ0_checkIndex_df160_1 rfl 1 rfl ?_
  refine f_sfmt qs_J0_1053 dJ0_checkIndex_df160_2 (fun u1 hu1 => ?_)
  replace H := H u1 hu1
  refine f_callSi (j1 := 0) (j2 := kb) (av := [.int x0, .int x1, u1]) rfl H.2 i_J3_checkIndex_8e157 rfl s_J3_checkIndex_8e157 q_J0_1059 (by decide) (f_kj H.1) (Nat.le_of_ble_eq_true rfl) dJ0_checkIndex_df160_5 (fun v2 o3 ω4 H => ?_)
  refine f_pop dJ0_checkIndex_df160_8 rfl ?_
  exact f_vret rfl dJ0_checkIndex_df160_9 ⟨rfl, H⟩
set_option maxRecDepth 20000 in
set_option maxHeartbeats 2000000 in
theorem b_J0_coder_7d493 {G : fG} {l : Launch} {K : Int32 → Option zS → fW → Prop} {r0 : Nat} {o : Option zS} {ω : fW} {kb : Nat}
    (H : (∃ (a2 t3 : Nat) (f4 : Nat → Int32), tA G ω r0 a2 t3 f4 ∧ K 0 o ω)) :
    FC G l M_J0_coder_7d493 kb [.ref r0] (o, ω) (fQi K) := by
  refine FC_of (by decide) (Nat.le_of_ble_eq_true rfl) ?_
  change FV _ _ _ _ _ 0 [(0, .ref r0)] [] _
  refine f_scmp qs_J0_38 dJ0_coder_7d493_0 ?_
  refine f_if_eq (tgt := 13) dJ0_coder_7d493_3 (by decide) (fun h1 => ?_) (fun h1 => ?_)
  · exact absurd h1 (by decide)
  · refine f_aload_n dJ0_coder_7d493_6 rfl 0 rfl ?_
    obtain ⟨a2, t3, f4, ha2, H⟩ := H
    refine f_tcod ha2 rfl dJ0_coder_7d493_7 ?_
    refine f_goto (tgt := 14) dJ0_coder_7d493_10 (by decide) ?_
    exact f_zret rfl rfl dJ0_coder_7d493_14 ⟨_, rfl, H⟩
set_option maxRecDepth 20000 in
set_option maxHeartbeats 2000000 in
theorem b_J0_getBytes_840e7 {G : fG} {l : Launch} {K : Option zS → fW → Prop} {r0 : Nat} {r1 : Nat} {x2 : Int32} {x3 : Int32} {o : Option zS} {ω : fW} {kb : Nat}
    (H : (0 ≤ kb ∧ ∃ (a29 t30 : Nat) (f31 : Nat → Int32), tA G ω r0 a29 t30 f31 ∧ FC G l M_J0_coder_7d493 0 [.ref r0] (o, ω) (fQi (fun v1 o2 ω3 => ((¬ v1 = x3 → (∃ (a5 t6 : Nat) (f7 : Nat → Int32), tA G ω3 r0 a5 t6 f7 ∧ (∃ (a8 t9 : Nat) (f10 : Nat → Int32), tA G ω3 r0 a8 t9 f10 ∧ (∃ (b11 t12 : Nat) (f13 : Nat → Int32), tA G ω3 b11 a8 t12 f13 ∧ False)))) ∧ (v1 = x3 → (∃ (a14 t15 : Nat) (f16 : Nat → Int32), tA G ω3 r0 a14 t15 f16 ∧ (∃ (a17 t18 : Nat) (f19 : Nat → Int32), tA G ω3 r0 a17 t18 f19 ∧ (∃ (b20 t21 : Nat) (f22 : Nat → Int32), tA G ω3 b20 a17 t21 f22 ∧ (∃ (n24 n25 b28 : Nat) (f26 g27 : Nat → Int32), tA G ω3 b28 a14 n24 f26 ∧ ω3 r1 = some (.inl (G.1.2.1 1, n25, .inl g27)) ∧ (¬ (0 : Int32) < 0 ∧ ¬ ((x2 <<< (x3 &&& 31)) : Int32) < 0 ∧ ¬ ((nI t21) : Int32) < 0 ∧ Int32.toNatClampNeg 0 + Int32.toNatClampNeg (nI t21) ≤ n24 ∧ Int32.toNatClampNeg (x2 <<< (x3 &&& 31)) + Int32.toNatClampNeg (nI t21) ≤ n25) ∧ (∀ i : Nat, i < Int32.toNatClampNeg (nI t21) → fits .byte (.int (f26 (Int32.toNatClampNeg 0 + i))) = true) ∧ (∀ ω23 : fW, ω23 = fup ω3 r1 (.inl (G.1.2.1 1, n25, .inl (va_cpy f26 g27 (Int32.toNatClampNeg 0) (Int32.toNatClampNeg (x2 <<< (x3 &&& 31))) (Int32.toNatClampNeg (nI t21))))) → K o2 ω23))))))))))) :
    FC G l M_J0_getBytes_840e7 kb [.ref r0, .ref r1, .int x2, .int x3] (o, ω) (fQv K) := by
  refine FC_of (by decide) (Nat.le_of_ble_eq_true rfl) ?_
  change FV _ _ _ _ _ 0 [(0, .ref r0), (1, .ref r1), (2, .int x2), (3, .int x3)] [] _
  refine f_aload_n dJ0_getBytes_840e7_0 rfl 0 rfl ?_
  have hka29 := H.1
  obtain ⟨a29, t30, f31, ha29, H⟩ := H.2
  refine f_callTi (j1 := 0) (j2 := kb) (av := []) rfl ha29 rfl H i_J0_coder_7d493 rfl n_J0_coder_7d493 v_J0_coder_7d493 q_J0_335 (by decide) (f_kj hka29) (Nat.le_of_ble_eq_true rfl) dJ0_getBytes_840e7_1 (fun v1 o2 ω3 H => ?_)
  refine f_iload_n dJ0_getBytes_840e7_4 rfl 3 rfl ?_
  refine f_icmp_ne (tgt := 28) dJ0_getBytes_840e7_5 (by decide) (fun h4 => ?_) (fun h4 => ?_)
  · replace H := H.1 h4
    refine f_aload_n dJ0_getBytes_840e7_28 rfl 0 rfl ?_
    obtain ⟨a5, t6, f7, ha5, H⟩ := H
    refine f_tval ha5 rfl dJ0_getBytes_840e7_29 ?_
    refine f_iconst (v := 0) dJ0_getBytes_840e7_32 (by decide) ?_
    refine f_aload_n dJ0_getBytes_840e7_33 rfl 1 rfl ?_
    refine f_iload_n dJ0_getBytes_840e7_34 rfl 2 rfl ?_
    refine f_aload_n dJ0_getBytes_840e7_35 rfl 0 rfl ?_
    obtain ⟨a8, t9, f10, ha8, H⟩ := H
    refine f_tval ha8 rfl dJ0_getBytes_840e7_36 ?_
    obtain ⟨b11, t12, f13, hb11, H⟩ := H
    refine f_tlen hb11 dJ0_getBytes_840e7_39 ?_
    exact H.elim
  · replace H := H.2 h4
    refine f_aload_n dJ0_getBytes_840e7_8 rfl 0 rfl ?_
    obtain ⟨a14, t15, f16, ha14, H⟩ := H
    refine f_tval ha14 rfl dJ0_getBytes_840e7_9 ?_
    refine f_iconst (v := 0) dJ0_getBytes_840e7_12 (by decide) ?_
    refine f_aload_n dJ0_getBytes_840e7_13 rfl 1 rfl ?_
    refine f_iload_n dJ0_getBytes_840e7_14 rfl 2 rfl ?_
    refine f_iload_n dJ0_getBytes_840e7_15 rfl 3 rfl ?_
    refine f_ishl dJ0_getBytes_840e7_16 ?_
    refine f_aload_n dJ0_getBytes_840e7_17 rfl 0 rfl ?_
    obtain ⟨a17, t18, f19, ha17, H⟩ := H
    refine f_tval ha17 rfl dJ0_getBytes_840e7_18 ?_
    obtain ⟨b20, t21, f22, hb20, H⟩ := H
    refine f_tlen hb20 dJ0_getBytes_840e7_21 ?_
    obtain ⟨n24, n25, b28, f26, g27, hn24, gn24, ⟨an24, bn24, cn24, dn24, en24⟩, un24, H⟩ := H
    refine f_tcopy hn24 gn24 q_J0_212 an24 bn24 cn24 dn24 en24 un24 (by decide) (Nat.le_of_ble_eq_true rfl) dJ0_getBytes_840e7_22 ?_
    replace H := H _ rfl
    generalize fup ω3 r1 (.inl (G.1.2.1 1, n25, .inl (va_cpy f26 g27 (Int32.toNatClampNeg 0) (Int32.toNatClampNeg (x2 <<< (x3 &&& 31))) (Int32.toNatClampNeg (nI t21))))) = ω23 at H ⊢
    refine f_goto (tgt := 43) dJ0_getBytes_840e7_25 (by decide) ?_
    exact f_vret rfl dJ0_getBytes_840e7_43 ⟨rfl, H⟩
set_option maxRecDepth 20000 in
set_option maxHeartbeats 2000000 in
theorem b_J0_isEmpty_aae02 {G : fG} {l : Launch} {K : Int32 → Option zS → fW → Prop} {r0 : Nat} {o : Option zS} {ω : fW} {kb : Nat}
    (H : (∃ (a1 t2 : Nat) (f3 : Nat → Int32), tA G ω r0 a1 t2 f3 ∧ (∃ (b4 t5 : Nat) (f6 : Nat → Int32), tA G ω b4 a1 t5 f6 ∧ ((¬ (nI t5) = 0 → K 0 o ω) ∧ ((nI t5) = 0 → K 1 o ω))))) :
    FC G l M_J0_isEmpty_aae02 kb [.ref r0] (o, ω) (fQi K) := by
  refine FC_of (by decide) (Nat.le_of_ble_eq_true rfl) ?_
  change FV _ _ _ _ _ 0 [(0, .ref r0)] [] _
  refine f_aload_n dJ0_isEmpty_aae02_0 rfl 0 rfl ?_
  obtain ⟨a1, t2, f3, ha1, H⟩ := H
  refine f_tval ha1 rfl dJ0_isEmpty_aae02_1 ?_
  obtain ⟨b4, t5, f6, hb4, H⟩ := H
  refine f_tlen hb4 dJ0_isEmpty_aae02_4 ?_
  refine f_if_ne (tgt := 12) dJ0_isEmpty_aae02_5 (by decide) (fun h7 => ?_) (fun h7 => ?_)
  · replace H := H.1 h7
    refine f_iconst (v := 0) dJ0_isEmpty_aae02_12 (by decide) ?_
    exact f_zret rfl rfl dJ0_isEmpty_aae02_13 ⟨_, rfl, H⟩
  · replace H := H.2 h7
    refine f_iconst (v := 1) dJ0_isEmpty_aae02_8 (by decide) ?_
    refine f_goto (tgt := 13) dJ0_isEmpty_aae02_9 (by decide) ?_
    exact f_zret rfl rfl dJ0_isEmpty_aae02_13 ⟨_, rfl, H⟩
set_option maxRecDepth 20000 in
set_option maxHeartbeats 2000000 in
theorem b_J0_isLatin1_aae02 {G : fG} {l : Launch} {K : Int32 → Option zS → fW → Prop} {r0 : Nat} {o : Option zS} {ω : fW} {kb : Nat}
    (H : (∃ (a2 t3 : Nat) (f4 : Nat → Int32), tA G ω r0 a2 t3 f4 ∧ K 1 o ω)) :
    FC G l M_J0_isLatin1_aae02 kb [.ref r0] (o, ω) (fQi K) := by
  refine FC_of (by decide) (Nat.le_of_ble_eq_true rfl) ?_
  change FV _ _ _ _ _ 0 [(0, .ref r0)] [] _
  refine f_scmp qs_J0_38 dJ0_isLatin1_aae02_0 ?_
  refine f_if_eq (tgt := 17) dJ0_isLatin1_aae02_3 (by decide) (fun h1 => ?_) (fun h1 => ?_)
  · exact absurd h1 (by decide)
  · refine f_aload_n dJ0_isLatin1_aae02_6 rfl 0 rfl ?_
    obtain ⟨a2, t3, f4, ha2, H⟩ := H
    refine f_tcod ha2 rfl dJ0_isLatin1_aae02_7 ?_
    refine f_if_ne (tgt := 17) dJ0_isLatin1_aae02_10 (by decide) (fun h5 => ?_) (fun h5 => ?_)
    · exact absurd h5 (by decide)
    · refine f_iconst (v := 1) dJ0_isLatin1_aae02_13 (by decide) ?_
      refine f_goto (tgt := 18) dJ0_isLatin1_aae02_14 (by decide) ?_
      exact f_zret rfl rfl dJ0_isLatin1_aae02_18 ⟨_, rfl, H⟩
set_option maxRecDepth 20000 in
set_option maxHeartbeats 2000000 in
theorem b_J0_length_8abf5 {G : fG} {l : Launch} {K : Int32 → Option zS → fW → Prop} {r0 : Nat} {o : Option zS} {ω : fW} {kb : Nat}
    (H : (∃ (a1 t2 : Nat) (f3 : Nat → Int32), tA G ω r0 a1 t2 f3 ∧ (∃ (b4 t5 : Nat) (f6 : Nat → Int32), tA G ω b4 a1 t5 f6 ∧ (0 ≤ kb ∧ ∃ (a10 t11 : Nat) (f12 : Nat → Int32), tA G ω r0 a10 t11 f12 ∧ FC G l M_J0_coder_7d493 0 [.ref r0] (o, ω) (fQi (fun v7 o8 ω9 => K ((nI t5) >>> (v7 &&& 31)) o8 ω9)))))) :
    FC G l M_J0_length_8abf5 kb [.ref r0] (o, ω) (fQi K) := by
  refine FC_of (by decide) (Nat.le_of_ble_eq_true rfl) ?_
  change FV _ _ _ _ _ 0 [(0, .ref r0)] [] _
  refine f_aload_n dJ0_length_8abf5_0 rfl 0 rfl ?_
  obtain ⟨a1, t2, f3, ha1, H⟩ := H
  refine f_tval ha1 rfl dJ0_length_8abf5_1 ?_
  obtain ⟨b4, t5, f6, hb4, H⟩ := H
  refine f_tlen hb4 dJ0_length_8abf5_4 ?_
  refine f_aload_n dJ0_length_8abf5_5 rfl 0 rfl ?_
  have hka10 := H.1
  obtain ⟨a10, t11, f12, ha10, H⟩ := H.2
  refine f_callTi (j1 := 0) (j2 := kb) (av := []) rfl ha10 rfl H i_J0_coder_7d493 rfl n_J0_coder_7d493 v_J0_coder_7d493 q_J0_335 (by decide) (f_kj hka10) (Nat.le_of_ble_eq_true rfl) dJ0_length_8abf5_6 (fun v7 o8 ω9 H => ?_)
  refine f_ishr dJ0_length_8abf5_9 ?_
  exact f_iret rfl dJ0_length_8abf5_10 ⟨_, rfl, H⟩
set_option maxRecDepth 20000 in
set_option maxHeartbeats 2000000 in
theorem b_J4_init_da8c8 {G : fG} {l : Launch} {K : Option zS → fW → Prop} {r0 : Nat} {o : Option zS} {ω : fW} {kb : Nat}
    (H : (2 ≤ kb ∧ FC G l M_J5_init_d00df 2 [.ref r0, .int 16] (o, ω) (fQv (fun o2 ω3 => K o2 ω3)))) :
    FC G l M_J4_init_da8c8 kb [.ref r0] (o, ω) (fQv K) := by
  refine FC_of (by decide) (Nat.le_of_ble_eq_true rfl) ?_
  change FV _ _ _ _ _ 0 [(0, .ref r0)] [] _
  refine f_aload_n dJ4_init_da8c8_0 rfl 0 rfl ?_
  refine f_bipush (v := 16) dJ4_init_da8c8_1 (by decide) ?_
  refine f_callIv (j1 := 2) (j2 := (kb - 2)) (av := [.int 16]) rfl H.2 i_J5_init_d00df rfl rfl rfl n_J5_init_d00df q_J4_1 (by decide) (f_kj H.1) (Nat.le_of_ble_eq_true rfl) dJ4_init_da8c8_3 (fun o2 ω3 H => ?_)
  exact f_vret rfl dJ4_init_da8c8_6 ⟨rfl, H⟩
set_option maxRecDepth 20000 in
set_option maxHeartbeats 2000000 in
theorem b_J4_toString_0e30d {G : fG} {l : Launch} {K : Nat → Option zS → fW → Prop} {r0 : Nat} {o : Option zS} {ω : fW} {kb : Nat}
    (H : (1 ≤ kb ∧ ∀ (q1 : Nat) (ω2 : fW), ω q1 = none → ω2 = fup ω q1 (.inr (0, [.null, .int 0, .int 0, .int 0])) → (60 ≤ (kb - 1) ∧ FC G l M_J0_init_81219 60 [.ref q1, .ref r0] (o, ω2) (fQv (fun o4 ω5 => K q1 o4 ω5))))) :
    FC G l M_J4_toString_0e30d kb [.ref r0] (o, ω) (fQr K) := by
  refine FC_of (by decide) (Nat.le_of_ble_eq_true rfl) ?_
  change FV _ _ _ _ _ 0 [(0, .ref r0)] [] _
  refine f_new0 cl_J4_18 (f_ks H.1) dJ4_toString_0e30d_0 (fun q1 hq1 => ?_)
  replace H := H.2 q1 _ hq1 rfl
  generalize fup ω q1 (.inr (0, [.null, .int 0, .int 0, .int 0])) = ω2 at H ⊢
  refine f_dup dJ4_toString_0e30d_3 rfl ?_
  refine f_aload_n dJ4_toString_0e30d_4 rfl 0 rfl ?_
  refine f_callIv (j1 := 60) (j2 := ((kb - 1) - 60)) (av := [.ref r0]) rfl H.2 i_J0_init_81219 rfl rfl rfl n_J0_init_81219 q_J4_137 (by decide) (f_kj H.1) (Nat.le_of_ble_eq_true rfl) dJ4_toString_0e30d_5 (fun o4 ω5 H => ?_)
  exact f_aret rfl (Or.inl ⟨_, rfl⟩) dJ4_toString_0e30d_8 ⟨_, rfl, H⟩
set_option maxRecDepth 20000 in
set_option maxHeartbeats 2000000 in
theorem b_J1_charAt_3b067 {G : fG} {l : Launch} {K : Int32 → Option zS → fW → Prop} {r0 : Nat} {x1 : Int32} {o : Option zS} {ω : fW} {kb : Nat}
    (H : (∃ (b1 t2 : Nat) (f3 : Nat → Int32), tA G ω b1 r0 t2 f3 ∧ (0 ≤ kb ∧ FC G l M_J0_checkIndex_df160 0 [.int x1, .int (nI t2)] (o, ω) (fQv (fun o5 ω6 => (∃ (b7 t8 : Nat) (f9 : Nat → Int32), tA G ω6 b7 r0 t8 f9 ∧ vp_in x1 t8 ∧ (narrow .char (.int (zi2c ((f9 (Int32.toNatClampNeg x1)) &&& 255))) = .int (zi2c ((f9 (Int32.toNatClampNeg x1)) &&& 255)) ∧ K (zi2c ((f9 (Int32.toNatClampNeg x1)) &&& 255)) o5 ω6))))))) :
    FC G l M_J1_charAt_3b067 kb [.ref r0, .int x1] (o, ω) (fQi K) := by
  refine FC_of (by decide) (Nat.le_of_ble_eq_true rfl) ?_
  change FV _ _ _ _ _ 0 [(0, .ref r0), (1, .int x1)] [] _
  refine f_iload_n dJ1_charAt_3b067_0 rfl 1 rfl ?_
  refine f_aload_n dJ1_charAt_3b067_1 rfl 0 rfl ?_
  obtain ⟨b1, t2, f3, hb1, H⟩ := H
  refine f_tlen hb1 dJ1_charAt_3b067_2 ?_
  refine f_callSv (j1 := 0) (j2 := kb) (av := [.int x1, .int (nI t2)]) rfl H.2 i_J0_checkIndex_df160 rfl s_J0_checkIndex_df160 q_J1_9 (by decide) (f_kj H.1) (Nat.le_of_ble_eq_true rfl) dJ1_charAt_3b067_3 (fun o5 ω6 H => ?_)
  refine f_aload_n dJ1_charAt_3b067_6 rfl 0 rfl ?_
  refine f_iload_n dJ1_charAt_3b067_7 rfl 1 rfl ?_
  obtain ⟨b7, t8, f9, hb7, gb7, H⟩ := H
  refine f_tbald hb7 gb7 dJ1_charAt_3b067_8 ?_
  refine f_sipush (v := 255) dJ1_charAt_3b067_9 (by decide) ?_
  refine f_iand dJ1_charAt_3b067_12 ?_
  refine f_i2c (v := zi2c ((f9 (Int32.toNatClampNeg x1)) &&& 255)) dJ1_charAt_3b067_13 rfl ?_
  exact f_zret rfl H.1 dJ1_charAt_3b067_14 ⟨_, rfl, H.2⟩
set_option maxRecDepth 20000 in
set_option maxHeartbeats 2000000 in
theorem b_J7_checkLength_df160 {G : fG} {l : Launch} {K : Option zS → fW → Prop} {x0 : Int32} {x1 : Int32} {o : Option zS} {ω : fW} {kb : Nat}
    (H : ((x0 ≤ x1 → K o ω) ∧ (¬ x0 ≤ x1 → False))) :
    FC G l M_J7_checkLength_df160 kb [.int x0, .int x1] (o, ω) (fQv K) := by
  refine FC_of (by decide) (Nat.le_of_ble_eq_true rfl) ?_
  change FV _ _ _ _ _ 0 [(0, .int x0), (1, .int x1)] [] _
  refine f_iload_n dJ7_checkLength_df160_0 rfl 1 rfl ?_
  refine f_iload_n dJ7_checkLength_df160_1 rfl 0 rfl ?_
  refine f_icmp_ge (tgt := 37) dJ7_checkLength_df160_2 (by decide) (fun h1 => ?_) (fun h1 => ?_)
  · replace H := H.1 h1
    exact f_vret rfl dJ7_checkLength_df160_37 ⟨rfl, H⟩
  · replace H := H.2 h1
    exact H.elim
set_option maxRecDepth 20000 in
set_option maxHeartbeats 2000000 in
theorem b_J7_copyOfRange_39247 {G : fG} {l : Launch} {K : Nat → Option zS → fW → Prop} {r0 : Nat} {x1 : Int32} {x2 : Int32} {o : Option zS} {ω : fW} {kb : Nat}
    (H : ((¬ x1 = 0 → (60 ≤ kb ∧ FC G l M_J7_copyOfRangeByte_39247 60 [.ref r0, .int x1, .int x2] (o, ω) (fQr (fun v2 o3 ω4 => K v2 o3 ω4)))) ∧ (x1 = 0 → (∃ y5 : vp_A, ω r0 = some (.inl (G.1.2.1 1, y5)) ∧ ((x2 = (nI y5.1) → (∃ (n7 u11 : Nat) (f8 : Nat → Int32), ω r0 = some (.inl (G.1.2.1 1, n7, .inl f8)) ∧ (∀ i, i < n7 → fits .byte (.int (f8 i)) = true) ∧ 1 ≤ u11 ∧ n7 ≤ 12 * u11 ∧ u11 ≤ kb ∧ ∀ (q9 : Nat) (ω10 : fW), ω q9 = none → ω10 = fup ω q9 (.inl (G.1.2.1 1, n7, .inl f8)) → (∃ y12 : vp_A, ω10 q9 = some (.inl (G.1.2.1 1, y12)) ∧ K q9 o ω10))) ∧ (¬ x2 = (nI y5.1) → (60 ≤ kb ∧ FC G l M_J7_copyOfRangeByte_39247 60 [.ref r0, .int x1, .int x2] (o, ω) (fQr (fun v13 o14 ω15 => K v13 o14 ω15))))))))) :
    FC G l M_J7_copyOfRange_39247 kb [.ref r0, .int x1, .int x2] (o, ω) (fQr K) := by
  refine FC_of (by decide) (Nat.le_of_ble_eq_true rfl) ?_
  change FV _ _ _ _ _ 0 [(0, .ref r0), (1, .int x1), (2, .int x2)] [] _
  refine f_iload_n dJ7_copyOfRange_39247_0 rfl 1 rfl ?_
  refine f_if_ne (tgt := 10) dJ7_copyOfRange_39247_1 (by decide) (fun h1 => ?_) (fun h1 => ?_)
  · replace H := H.1 h1
    refine f_aload_n dJ7_copyOfRange_39247_10 rfl 0 rfl ?_
    refine f_iload_n dJ7_copyOfRange_39247_11 rfl 1 rfl ?_
    refine f_iload_n dJ7_copyOfRange_39247_12 rfl 2 rfl ?_
    refine f_callSr (j1 := 60) (j2 := (kb - 60)) (av := [.ref r0, .int x1, .int x2]) rfl H.2 i_J7_copyOfRangeByte_39247 rfl s_J7_copyOfRangeByte_39247 q_J7_339 (by decide) (f_kj H.1) (Nat.le_of_ble_eq_true rfl) dJ7_copyOfRange_39247_13 (fun v2 o3 ω4 H => ?_)
    exact f_aret rfl (Or.inr ⟨_, rfl⟩) dJ7_copyOfRange_39247_16 ⟨_, rfl, H⟩
  · replace H := H.2 h1
    refine f_iload_n dJ7_copyOfRange_39247_4 rfl 2 rfl ?_
    refine f_aload_n dJ7_copyOfRange_39247_5 rfl 0 rfl ?_
    obtain ⟨y5, hy5, H⟩ := H
    refine f_alen (t := 1) rfl hy5 rfl dJ7_copyOfRange_39247_6 ?_
    refine f_icmp_eq (tgt := 17) dJ7_copyOfRange_39247_7 (by decide) (fun h6 => ?_) (fun h6 => ?_)
    · replace H := H.1 h6
      refine f_aload_n dJ7_copyOfRange_39247_17 rfl 0 rfl ?_
      obtain ⟨n7, u11, f8, hn7, an7, bn7, cn7, dn7, H⟩ := H
      refine f_cloneB (u := u11) hn7 an7 q_J7_310 sm_clone ne_clone ie_clone ve_clone (by decide) (Nat.le_of_ble_eq_true rfl) (f_ks dn7) ⟨bn7, cn7⟩ dJ7_copyOfRange_39247_18 (fun q9 hq9 => ?_)
      replace H := H q9 _ hq9 rfl
      generalize fup ω q9 (.inl (G.1.2.1 1, n7, .inl f8)) = ω10 at H ⊢
      obtain ⟨y12, hy12, H⟩ := H
      refine f_cast1 cl_J7_311 hy12 dJ7_copyOfRange_39247_21 ?_
      exact f_aret rfl (Or.inr ⟨_, rfl⟩) dJ7_copyOfRange_39247_24 ⟨_, rfl, H⟩
    · replace H := H.2 h6
      refine f_aload_n dJ7_copyOfRange_39247_10 rfl 0 rfl ?_
      refine f_iload_n dJ7_copyOfRange_39247_11 rfl 1 rfl ?_
      refine f_iload_n dJ7_copyOfRange_39247_12 rfl 2 rfl ?_
      refine f_callSr (j1 := 60) (j2 := (kb - 60)) (av := [.ref r0, .int x1, .int x2]) rfl H.2 i_J7_copyOfRangeByte_39247 rfl s_J7_copyOfRangeByte_39247 q_J7_339 (by decide) (f_kj H.1) (Nat.le_of_ble_eq_true rfl) dJ7_copyOfRange_39247_13 (fun v13 o14 ω15 H => ?_)
      exact f_aret rfl (Or.inr ⟨_, rfl⟩) dJ7_copyOfRange_39247_16 ⟨_, rfl, H⟩
set_option maxRecDepth 20000 in
set_option maxHeartbeats 2000000 in
theorem b_J7_copyOfRangeByte_39247 {G : fG} {l : Launch} {K : Nat → Option zS → fW → Prop} {r0 : Nat} {x1 : Int32} {x2 : Int32} {o : Option zS} {ω : fW} {kb : Nat}
    (H : (0 ≤ kb ∧ FC G l M_J7_checkLength_df160 0 [.int x1, .int x2] (o, ω) (fQv (fun o2 ω3 => (∃ N6 u7 : Nat, (x2 - x1) = nI N6 ∧ N6 ≤ 40000 ∧ 1 ≤ u7 ∧ N6 ≤ 12 * u7 ∧ u7 ≤ kb ∧ ∀ (q4 : Nat) (ω5 : fW), ω3 q4 = none → ω5 = fup ω3 q4 (.inl (G.1.2.1 1, N6, .inl (fun _ => 0))) → (∃ y8 : vp_A, ω5 r0 = some (.inl (G.1.2.1 1, y8)) ∧ (∃ (n10 n11 : Nat) (f12 g13 : Nat → Int32), ω5 r0 = some (.inl (G.1.2.1 1, n10, .inl f12)) ∧ ω5 q4 = some (.inl (G.1.2.1 1, n11, .inl g13)) ∧ (¬ (x1 : Int32) < 0 ∧ ¬ (0 : Int32) < 0 ∧ ¬ ((zmin ((nI y8.1) - x1) (x2 - x1)) : Int32) < 0 ∧ Int32.toNatClampNeg x1 + Int32.toNatClampNeg (zmin ((nI y8.1) - x1) (x2 - x1)) ≤ n10 ∧ Int32.toNatClampNeg 0 + Int32.toNatClampNeg (zmin ((nI y8.1) - x1) (x2 - x1)) ≤ n11) ∧ (∀ i : Nat, i < Int32.toNatClampNeg (zmin ((nI y8.1) - x1) (x2 - x1)) → fits .byte (.int (f12 (Int32.toNatClampNeg x1 + i))) = true) ∧ (∀ ω9 : fW, ω9 = fup ω5 q4 (.inl (G.1.2.1 1, n11, .inl (va_cpy f12 g13 (Int32.toNatClampNeg x1) (Int32.toNatClampNeg 0) (Int32.toNatClampNeg (zmin ((nI y8.1) - x1) (x2 - x1)))))) → K q4 o2 ω9)))))))) :
    FC G l M_J7_copyOfRangeByte_39247 kb [.ref r0, .int x1, .int x2] (o, ω) (fQr K) := by
  refine FC_of (by decide) (Nat.le_of_ble_eq_true rfl) ?_
  change FV _ _ _ _ _ 0 [(0, .ref r0), (1, .int x1), (2, .int x2)] [] _
  refine f_iload_n dJ7_copyOfRangeByte_39247_0 rfl 1 rfl ?_
  refine f_iload_n dJ7_copyOfRangeByte_39247_1 rfl 2 rfl ?_
  refine f_callSv (j1 := 0) (j2 := kb) (av := [.int x1, .int x2]) rfl H.2 i_J7_checkLength_df160 rfl s_J7_checkLength_df160 q_J7_343 (by decide) (f_kj H.1) (Nat.le_of_ble_eq_true rfl) dJ7_copyOfRangeByte_39247_2 (fun o2 ω3 H => ?_)
  refine f_iload_n dJ7_copyOfRangeByte_39247_5 rfl 2 rfl ?_
  refine f_iload_n dJ7_copyOfRangeByte_39247_6 rfl 1 rfl ?_
  refine f_isub dJ7_copyOfRangeByte_39247_7 ?_
  refine f_istore_n (ls' := [(3, .int (x2 - x1)), (0, .ref r0), (1, .int x1), (2, .int x2)]) dJ7_copyOfRangeByte_39247_8 rfl (by decide) rfl ?_
  refine f_iload_n dJ7_copyOfRangeByte_39247_9 rfl 0 rfl ?_
  obtain ⟨N6, u7, eN6, aN6, bN6, cN6, dN6, H⟩ := H
  refine f_newa1 (N := N6) (u := u7) (by rw [eN6]; exact nI_pos (by omega)) (by rw [eN6]; exact nI_clamp (by omega)) (by omega) (f_ks dN6) ⟨bN6, cN6⟩ dJ7_copyOfRangeByte_39247_10 (fun q4 hq4 => ?_)
  replace H := H q4 _ hq4 rfl
  generalize fup ω3 q4 (.inl (G.1.2.1 1, N6, .inl (fun _ => 0))) = ω5 at H ⊢
  refine f_astore (ls' := [(4, .ref q4), (3, .int (x2 - x1)), (0, .ref r0), (1, .int x1), (2, .int x2)]) dJ7_copyOfRangeByte_39247_12 (by decide) rfl ?_
  refine f_aload_n dJ7_copyOfRangeByte_39247_14 rfl 2 rfl ?_
  refine f_iload_n dJ7_copyOfRangeByte_39247_15 rfl 3 rfl ?_
  refine f_aload dJ7_copyOfRangeByte_39247_16 0 rfl ?_
  refine f_iconst (v := 0) dJ7_copyOfRangeByte_39247_18 (by decide) ?_
  refine f_aload_n dJ7_copyOfRangeByte_39247_19 rfl 2 rfl ?_
  obtain ⟨y8, hy8, H⟩ := H
  refine f_alen (t := 1) rfl hy8 rfl dJ7_copyOfRangeByte_39247_20 ?_
  refine f_iload_n dJ7_copyOfRangeByte_39247_21 rfl 3 rfl ?_
  refine f_isub dJ7_copyOfRangeByte_39247_22 ?_
  refine f_iload_n dJ7_copyOfRangeByte_39247_23 rfl 1 rfl ?_
  refine f_mmin qm_J7_304 ms_min mi_math mc_min (by decide) (Nat.le_of_ble_eq_true rfl) dJ7_copyOfRangeByte_39247_24 ?_
  change FV _ _ _ _ _ _ _ (.int (zmin ((nI y8.1) - x1) (x2 - x1)) :: _) _
  obtain ⟨n10, n11, f12, g13, hn10, gn10, ⟨an10, bn10, cn10, dn10, en10⟩, un10, H⟩ := H
  refine f_copyB hn10 gn10 q_J7_150 an10 bn10 cn10 dn10 en10 un10 (by decide) (Nat.le_of_ble_eq_true rfl) dJ7_copyOfRangeByte_39247_27 ?_
  replace H := H _ rfl
  generalize fup ω5 q4 (.inl (G.1.2.1 1, n11, .inl (va_cpy f12 g13 (Int32.toNatClampNeg x1) (Int32.toNatClampNeg 0) (Int32.toNatClampNeg (zmin ((nI y8.1) - x1) (x2 - x1)))))) = ω9 at H ⊢
  refine f_aload dJ7_copyOfRangeByte_39247_30 0 rfl ?_
  exact f_aret rfl (Or.inr ⟨_, rfl⟩) dJ7_copyOfRangeByte_39247_32 ⟨_, rfl, H⟩
set_option maxRecDepth 20000 in
set_option maxHeartbeats 2000000 in
theorem b_J5_append_cf1ce {G : fG} {l : Launch} {K : Nat → Option zS → fW → Prop} {r0 : Nat} {r1 : Nat} {o : Option zS} {ω : fW} {kb : Nat}
    (H : (0 ≤ kb ∧ ∃ (a20 t21 : Nat) (f22 : Nat → Int32), tA G ω r1 a20 t21 f22 ∧ FC G l M_J0_length_8abf5 0 [.ref r1] (o, ω) (fQi (fun v1 o2 ω3 => (∃ (fs4 : List Value) (w5 : Int32), ω3 r0 = some (.inr (1, fs4)) ∧ fs4[3]? = some (.int w5) ∧ (60 ≤ kb ∧ ∃ fs19 : List Value, ω3 r0 = some (.inr (1, fs19)) ∧ FC G l M_J5_ensureCapacityInternal_d00df 60 [.ref r0, .int (w5 + v1)] (o2, ω3) (fQv (fun o7 ω8 => (∃ (fs9 : List Value) (w10 : Int32), ω8 r0 = some (.inr (1, fs9)) ∧ fs9[3]? = some (.int w10) ∧ (0 ≤ (kb - 60) ∧ ∃ fs18 : List Value, ω8 r0 = some (.inr (1, fs18)) ∧ FC G l M_J5_putStringAt_47b60 0 [.ref r0, .int w10, .ref r1] (o7, ω8) (fQv (fun o12 ω13 => (∃ (fs14 : List Value) (w15 : Int32), ω13 r0 = some (.inr (1, fs14)) ∧ fs14[3]? = some (.int w15) ∧ (∃ fs16 : List Value, ω13 r0 = some (.inr (1, fs16)) ∧ 3 < fs16.length ∧ (∀ ω17 : fW, ω17 = fup ω13 r0 (.inr (1, fs16.set 3 (.int (w15 + v1)))) → K r0 o12 ω17))))))))))))))) :
    FC G l M_J5_append_cf1ce kb [.ref r0, .ref r1] (o, ω) (fQr K) := by
  refine FC_of (by decide) (Nat.le_of_ble_eq_true rfl) ?_
  change FV _ _ _ _ _ 0 [(0, .ref r0), (1, .ref r1)] [] _
  refine f_aload_n dJ5_append_cf1ce_0 rfl 1 rfl ?_
  refine f_ifnonnull (tgt := 9) dJ5_append_cf1ce_1 (by decide) ?_
  refine f_aload_n dJ5_append_cf1ce_9 rfl 1 rfl ?_
  have hka20 := H.1
  obtain ⟨a20, t21, f22, ha20, H⟩ := H.2
  refine f_callTi (j1 := 0) (j2 := kb) (av := []) rfl ha20 rfl H i_J0_length_8abf5 rfl n_J0_length_8abf5 v_J0_length_8abf5 q_J5_32 (by decide) (f_kj hka20) (Nat.le_of_ble_eq_true rfl) dJ5_append_cf1ce_10 (fun v1 o2 ω3 H => ?_)
  refine f_istore_n (ls' := [(2, .int v1), (0, .ref r0), (1, .ref r1)]) dJ5_append_cf1ce_13 rfl (by decide) rfl ?_
  refine f_aload_n dJ5_append_cf1ce_14 rfl 1 rfl ?_
  refine f_aload_n dJ5_append_cf1ce_15 rfl 1 rfl ?_
  obtain ⟨fs4, w5, hfs4, gfs4, H⟩ := H
  refine gf_J5_79 rfl hfs4 gfs4 dJ5_append_cf1ce_16 ?_
  refine f_iload_n dJ5_append_cf1ce_19 rfl 0 rfl ?_
  refine f_iadd dJ5_append_cf1ce_20 ?_
  have hkfs19 := H.1
  obtain ⟨fs19, hfs19, H⟩ := H.2
  refine f_callVv (C := RJ4) (j1 := 60) (j2 := (kb - 60)) (av := [.int (w5 + v1)]) rfl hfs19 rfl rfl H i_J5_ensureCapacityInternal_d00df rfl n_J5_ensureCapacityInternal_d00df vs_J5_ensureCapacityInternal_d00df q_J5_100 (by decide) (f_kj hkfs19) (Nat.le_of_ble_eq_true rfl) dJ5_append_cf1ce_21 (fun o7 ω8 H => ?_)
  refine f_aload_n dJ5_append_cf1ce_24 rfl 1 rfl ?_
  refine f_aload_n dJ5_append_cf1ce_25 rfl 1 rfl ?_
  obtain ⟨fs9, w10, hfs9, gfs9, H⟩ := H
  refine gf_J5_79 rfl hfs9 gfs9 dJ5_append_cf1ce_26 ?_
  refine f_aload_n dJ5_append_cf1ce_29 rfl 2 rfl ?_
  have hkfs18 := H.1
  obtain ⟨fs18, hfs18, H⟩ := H.2
  refine f_callVv (C := RJ4) (j1 := 0) (j2 := (kb - 60)) (av := [.int w10, .ref r1]) rfl hfs18 rfl rfl H i_J5_putStringAt_47b60 rfl n_J5_putStringAt_47b60 vs_J5_putStringAt_47b60 q_J5_208 (by decide) (f_kj hkfs18) (Nat.le_of_ble_eq_true rfl) dJ5_append_cf1ce_30 (fun o12 ω13 H => ?_)
  refine f_aload_n dJ5_append_cf1ce_33 rfl 1 rfl ?_
  refine f_dup dJ5_append_cf1ce_34 rfl ?_
  obtain ⟨fs14, w15, hfs14, gfs14, H⟩ := H
  refine gf_J5_79 rfl hfs14 gfs14 dJ5_append_cf1ce_35 ?_
  refine f_iload_n dJ5_append_cf1ce_38 rfl 0 rfl ?_
  refine f_iadd dJ5_append_cf1ce_39 ?_
  obtain ⟨fs16, hfs16, gfs16, H⟩ := H
  refine pf_J5_79 rfl hfs16 gfs16 dJ5_append_cf1ce_40 ?_
  replace H := H _ rfl
  generalize fup ω13 r0 (.inr (1, fs16.set 3 (.int (w15 + v1)))) = ω17 at H ⊢
  refine f_aload_n dJ5_append_cf1ce_43 rfl 1 rfl ?_
  exact f_aret rfl (Or.inl ⟨_, rfl⟩) dJ5_append_cf1ce_44 ⟨_, rfl, H⟩
set_option maxRecDepth 20000 in
set_option maxHeartbeats 2000000 in
theorem b_J5_append_c97b9 {G : fG} {l : Launch} {K : Nat → Option zS → fW → Prop} {r0 : Nat} {x1 : Int32} {o : Option zS} {ω : fW} {kb : Nat}
    (H : (∃ (fs1 : List Value) (w2 : Int32), ω r0 = some (.inr (1, fs1)) ∧ fs1[3]? = some (.int w2) ∧ (0 ≤ kb ∧ FC G l M_J6_stringSize_0f7a4 0 [.int x1] (o, ω) (fQi (fun v3 o4 ω5 => (60 ≤ kb ∧ ∃ fs23 : List Value, ω5 r0 = some (.inr (1, fs23)) ∧ FC G l M_J5_ensureCapacityInternal_d00df 60 [.ref r0, .int (w2 + v3)] (o4, ω5) (fQv (fun o7 ω8 => (0 ≤ (kb - 60) ∧ ∃ fs22 : List Value, ω8 r0 = some (.inr (1, fs22)) ∧ FC G l M_J5_isLatin1_aae02 0 [.ref r0] (o7, ω8) (fQi (fun v9 o10 ω11 => ((v9 = 0 → (∃ (fs13 : List Value) (w14 : Nat), ω11 r0 = some (.inr (1, fs13)) ∧ fs13[0]? = some (.ref w14) ∧ False)) ∧ (¬ v9 = 0 → (∃ (fs15 : List Value) (w16 : Nat), ω11 r0 = some (.inr (1, fs15)) ∧ fs15[0]? = some (.ref w16) ∧ (0 ≤ (kb - 60) ∧ FC G l M_J6_getChars_ba4f3 0 [.int x1, .int (w2 + v3), .ref w16] (o10, ω11) (fQi (fun v17 o18 ω19 => (∃ fs20 : List Value, ω19 r0 = some (.inr (1, fs20)) ∧ 3 < fs20.length ∧ (∀ ω21 : fW, ω21 = fup ω19 r0 (.inr (1, fs20.set 3 (.int (w2 + v3)))) → K r0 o18 ω21))))))))))))))))))) :
    FC G l M_J5_append_c97b9 kb [.ref r0, .int x1] (o, ω) (fQr K) := by
  refine FC_of (by decide) (Nat.le_of_ble_eq_true rfl) ?_
  change FV _ _ _ _ _ 0 [(0, .ref r0), (1, .int x1)] [] _
  refine f_aload_n dJ5_append_c97b9_0 rfl 0 rfl ?_
  obtain ⟨fs1, w2, hfs1, gfs1, H⟩ := H
  refine gf_J5_79 rfl hfs1 gfs1 dJ5_append_c97b9_1 ?_
  refine f_istore_n (ls' := [(2, .int w2), (0, .ref r0), (1, .int x1)]) dJ5_append_c97b9_4 rfl (by decide) rfl ?_
  refine f_iload_n dJ5_append_c97b9_5 rfl 0 rfl ?_
  refine f_iload_n dJ5_append_c97b9_6 rfl 2 rfl ?_
  refine f_callSi (j1 := 0) (j2 := kb) (av := [.int x1]) rfl H.2 i_J6_stringSize_0f7a4 rfl s_J6_stringSize_0f7a4 q_J5_245 (by decide) (f_kj H.1) (Nat.le_of_ble_eq_true rfl) dJ5_append_c97b9_7 (fun v3 o4 ω5 H => ?_)
  refine f_iadd dJ5_append_c97b9_10 ?_
  refine f_istore_n (ls' := [(3, .int (w2 + v3)), (2, .int w2), (0, .ref r0), (1, .int x1)]) dJ5_append_c97b9_11 rfl (by decide) rfl ?_
  refine f_aload_n dJ5_append_c97b9_12 rfl 2 rfl ?_
  refine f_iload_n dJ5_append_c97b9_13 rfl 0 rfl ?_
  have hkfs23 := H.1
  obtain ⟨fs23, hfs23, H⟩ := H.2
  refine f_callVv (C := RJ4) (j1 := 60) (j2 := (kb - 60)) (av := [.int (w2 + v3)]) rfl hfs23 rfl rfl H i_J5_ensureCapacityInternal_d00df rfl n_J5_ensureCapacityInternal_d00df vs_J5_ensureCapacityInternal_d00df q_J5_100 (by decide) (f_kj hkfs23) (Nat.le_of_ble_eq_true rfl) dJ5_append_c97b9_14 (fun o7 ω8 H => ?_)
  refine f_aload_n dJ5_append_c97b9_17 rfl 2 rfl ?_
  have hkfs22 := H.1
  obtain ⟨fs22, hfs22, H⟩ := H.2
  refine f_callVi (C := RJ4) (j1 := 0) (j2 := (kb - 60)) (av := []) rfl hfs22 rfl rfl H i_J5_isLatin1_aae02 rfl n_J5_isLatin1_aae02 vs_J5_isLatin1_aae02 q_J5_83 (by decide) (f_kj hkfs22) (Nat.le_of_ble_eq_true rfl) dJ5_append_c97b9_18 (fun v9 o10 ω11 H => ?_)
  refine f_if_eq (tgt := 37) dJ5_append_c97b9_21 (by decide) (fun h12 => ?_) (fun h12 => ?_)
  · replace H := H.1 h12
    refine f_iload_n dJ5_append_c97b9_37 rfl 3 rfl ?_
    refine f_iload_n dJ5_append_c97b9_38 rfl 1 rfl ?_
    refine f_iload_n dJ5_append_c97b9_39 rfl 0 rfl ?_
    refine f_aload_n dJ5_append_c97b9_40 rfl 2 rfl ?_
    obtain ⟨fs13, w14, hfs13, gfs13, H⟩ := H
    refine gf_J5_15 rfl hfs13 gfs13 dJ5_append_c97b9_41 ?_
    exact H.elim
  · replace H := H.2 h12
    refine f_iload_n dJ5_append_c97b9_24 rfl 3 rfl ?_
    refine f_iload_n dJ5_append_c97b9_25 rfl 0 rfl ?_
    refine f_aload_n dJ5_append_c97b9_26 rfl 2 rfl ?_
    obtain ⟨fs15, w16, hfs15, gfs15, H⟩ := H
    refine gf_J5_15 rfl hfs15 gfs15 dJ5_append_c97b9_27 ?_
    refine f_callSi (j1 := 0) (j2 := (kb - 60)) (av := [.int x1, .int (w2 + v3), .ref w16]) rfl H.2 i_J6_getChars_ba4f3 rfl s_J6_getChars_ba4f3 q_J5_248 (by decide) (f_kj H.1) (Nat.le_of_ble_eq_true rfl) dJ5_append_c97b9_30 (fun v17 o18 ω19 H => ?_)
    refine f_pop dJ5_append_c97b9_33 rfl ?_
    refine f_goto (tgt := 48) dJ5_append_c97b9_34 (by decide) ?_
    refine f_aload_n dJ5_append_c97b9_48 rfl 2 rfl ?_
    refine f_iload_n dJ5_append_c97b9_49 rfl 0 rfl ?_
    obtain ⟨fs20, hfs20, gfs20, H⟩ := H
    refine pf_J5_79 rfl hfs20 gfs20 dJ5_append_c97b9_50 ?_
    replace H := H _ rfl
    generalize fup ω19 r0 (.inr (1, fs20.set 3 (.int (w2 + v3)))) = ω21 at H ⊢
    refine f_aload_n dJ5_append_c97b9_53 rfl 2 rfl ?_
    exact f_aret rfl (Or.inl ⟨_, rfl⟩) dJ5_append_c97b9_54 ⟨_, rfl, H⟩
set_option maxRecDepth 20000 in
set_option maxHeartbeats 2000000 in
theorem b_J4_append_15ec4 {G : fG} {l : Launch} {K : Nat → Option zS → fW → Prop} {r0 : Nat} {r1 : Nat} {o : Option zS} {ω : fW} {kb : Nat}
    (H : (60 ≤ kb ∧ ∃ fs4 : List Value, ω r0 = some (.inr (1, fs4)) ∧ FC G l M_J5_append_cf1ce 60 [.ref r0, .ref r1] (o, ω) (fQr (fun v1 o2 ω3 => K r0 o2 ω3)))) :
    FC G l M_J4_append_15ec4 kb [.ref r0, .ref r1] (o, ω) (fQr K) := by
  refine FC_of (by decide) (Nat.le_of_ble_eq_true rfl) ?_
  change FV _ _ _ _ _ 0 [(0, .ref r0), (1, .ref r1)] [] _
  refine f_aload_n dJ4_append_15ec4_0 rfl 0 rfl ?_
  refine f_aload_n dJ4_append_15ec4_1 rfl 1 rfl ?_
  have hkfs4 := H.1
  obtain ⟨fs4, hfs4, H⟩ := H.2
  refine f_callPr (j1 := 60) (j2 := (kb - 60)) (av := [.ref r1]) rfl hfs4 rfl H i_J5_append_cf1ce rfl (by decide) n_J5_append_cf1ce sm_J5_append_cf1ce su_J4_J5 q_J4_29 (by decide) (f_kj hkfs4) (Nat.le_of_ble_eq_true rfl) dJ4_append_15ec4_2 (fun v1 o2 ω3 H => ?_)
  refine f_pop dJ4_append_15ec4_5 rfl ?_
  refine f_aload_n dJ4_append_15ec4_6 rfl 0 rfl ?_
  exact f_aret rfl (Or.inl ⟨_, rfl⟩) dJ4_append_15ec4_7 ⟨_, rfl, H⟩
set_option maxRecDepth 20000 in
set_option maxHeartbeats 2000000 in
theorem b_J4_append_bf812 {G : fG} {l : Launch} {K : Nat → Option zS → fW → Prop} {r0 : Nat} {x1 : Int32} {o : Option zS} {ω : fW} {kb : Nat}
    (H : (60 ≤ kb ∧ ∃ fs4 : List Value, ω r0 = some (.inr (1, fs4)) ∧ FC G l M_J5_append_c97b9 60 [.ref r0, .int x1] (o, ω) (fQr (fun v1 o2 ω3 => K r0 o2 ω3)))) :
    FC G l M_J4_append_bf812 kb [.ref r0, .int x1] (o, ω) (fQr K) := by
  refine FC_of (by decide) (Nat.le_of_ble_eq_true rfl) ?_
  change FV _ _ _ _ _ 0 [(0, .ref r0), (1, .int x1)] [] _
  refine f_aload_n dJ4_append_bf812_0 rfl 0 rfl ?_
  refine f_iload_n dJ4_append_bf812_1 rfl 1 rfl ?_
  have hkfs4 := H.1
  obtain ⟨fs4, hfs4, H⟩ := H.2
  refine f_callPr (j1 := 60) (j2 := (kb - 60)) (av := [.int x1]) rfl hfs4 rfl H i_J5_append_c97b9 rfl (by decide) n_J5_append_c97b9 sm_J5_append_c97b9 su_J4_J5 q_J4_53 (by decide) (f_kj hkfs4) (Nat.le_of_ble_eq_true rfl) dJ4_append_bf812_2 (fun v1 o2 ω3 H => ?_)
  refine f_pop dJ4_append_bf812_5 rfl ?_
  refine f_aload_n dJ4_append_bf812_6 rfl 0 rfl ?_
  exact f_aret rfl (Or.inl ⟨_, rfl⟩) dJ4_append_bf812_7 ⟨_, rfl, H⟩
set_option maxRecDepth 20000 in
set_option maxHeartbeats 2000000 in
theorem b_J4_length_8abf5 {G : fG} {l : Launch} {K : Int32 → Option zS → fW → Prop} {r0 : Nat} {o : Option zS} {ω : fW} {kb : Nat}
    (H : (0 ≤ kb ∧ ∃ fs4 : List Value, ω r0 = some (.inr (1, fs4)) ∧ FC G l M_J5_length_8abf5 0 [.ref r0] (o, ω) (fQi (fun v1 o2 ω3 => K v1 o2 ω3)))) :
    FC G l M_J4_length_8abf5 kb [.ref r0] (o, ω) (fQi K) := by
  refine FC_of (by decide) (Nat.le_of_ble_eq_true rfl) ?_
  change FV _ _ _ _ _ 0 [(0, .ref r0)] [] _
  refine f_aload_n dJ4_length_8abf5_0 rfl 0 rfl ?_
  have hkfs4 := H.1
  obtain ⟨fs4, hfs4, H⟩ := H.2
  refine f_callPi (j1 := 0) (j2 := kb) (av := []) rfl hfs4 rfl H i_J5_length_8abf5 rfl (by decide) n_J5_length_8abf5 sm_J5_length_8abf5 su_J4_J5 q_J4_343 (by decide) (f_kj hkfs4) (Nat.le_of_ble_eq_true rfl) dJ4_length_8abf5_1 (fun v1 o2 ω3 H => ?_)
  exact f_iret rfl dJ4_length_8abf5_4 ⟨_, rfl, H⟩
set_option maxRecDepth 20000 in
set_option maxHeartbeats 2000000 in
theorem b_J7_copyOf_9075b {G : fG} {l : Launch} {K : Nat → Option zS → fW → Prop} {r0 : Nat} {x1 : Int32} {o : Option zS} {ω : fW} {kb : Nat}
    (H : (∃ y1 : vp_A, ω r0 = some (.inl (G.1.2.1 1, y1)) ∧ ((¬ x1 = (nI y1.1) → (∃ N5 u6 : Nat, x1 = nI N5 ∧ N5 ≤ 40000 ∧ 1 ≤ u6 ∧ N5 ≤ 12 * u6 ∧ u6 ≤ kb ∧ ∀ (q3 : Nat) (ω4 : fW), ω q3 = none → ω4 = fup ω q3 (.inl (G.1.2.1 1, N5, .inl (fun _ => 0))) → (∃ y7 : vp_A, ω4 r0 = some (.inl (G.1.2.1 1, y7)) ∧ (∃ (n9 n10 : Nat) (f11 g12 : Nat → Int32), ω4 r0 = some (.inl (G.1.2.1 1, n9, .inl f11)) ∧ ω4 q3 = some (.inl (G.1.2.1 1, n10, .inl g12)) ∧ (¬ (0 : Int32) < 0 ∧ ¬ (0 : Int32) < 0 ∧ ¬ ((zmin (nI y7.1) x1) : Int32) < 0 ∧ Int32.toNatClampNeg 0 + Int32.toNatClampNeg (zmin (nI y7.1) x1) ≤ n9 ∧ Int32.toNatClampNeg 0 + Int32.toNatClampNeg (zmin (nI y7.1) x1) ≤ n10) ∧ (∀ i : Nat, i < Int32.toNatClampNeg (zmin (nI y7.1) x1) → fits .byte (.int (f11 (Int32.toNatClampNeg 0 + i))) = true) ∧ (∀ ω8 : fW, ω8 = fup ω4 q3 (.inl (G.1.2.1 1, n10, .inl (va_cpy f11 g12 (Int32.toNatClampNeg 0) (Int32.toNatClampNeg 0) (Int32.toNatClampNeg (zmin (nI y7.1) x1))))) → K q3 o ω8))))) ∧ (x1 = (nI y1.1) → (∃ (n13 u17 : Nat) (f14 : Nat → Int32), ω r0 = some (.inl (G.1.2.1 1, n13, .inl f14)) ∧ (∀ i, i < n13 → fits .byte (.int (f14 i)) = true) ∧ 1 ≤ u17 ∧ n13 ≤ 12 * u17 ∧ u17 ≤ kb ∧ ∀ (q15 : Nat) (ω16 : fW), ω q15 = none → ω16 = fup ω q15 (.inl (G.1.2.1 1, n13, .inl f14)) → (∃ y18 : vp_A, ω16 q15 = some (.inl (G.1.2.1 1, y18)) ∧ K q15 o ω16)))))) :
    FC G l M_J7_copyOf_9075b kb [.ref r0, .int x1] (o, ω) (fQr K) := by
  refine FC_of (by decide) (Nat.le_of_ble_eq_true rfl) ?_
  change FV _ _ _ _ _ 0 [(0, .ref r0), (1, .int x1)] [] _
  refine f_iload_n dJ7_copyOf_9075b_0 rfl 1 rfl ?_
  refine f_aload_n dJ7_copyOf_9075b_1 rfl 0 rfl ?_
  obtain ⟨y1, hy1, H⟩ := H
  refine f_alen (t := 1) rfl hy1 rfl dJ7_copyOf_9075b_2 ?_
  refine f_icmp_ne (tgt := 14) dJ7_copyOf_9075b_3 (by decide) (fun h2 => ?_) (fun h2 => ?_)
  · replace H := H.1 h2
    refine f_iload_n dJ7_copyOf_9075b_14 rfl 1 rfl ?_
    obtain ⟨N5, u6, eN5, aN5, bN5, cN5, dN5, H⟩ := H
    refine f_newa1 (N := N5) (u := u6) (by rw [eN5]; exact nI_pos (by omega)) (by rw [eN5]; exact nI_clamp (by omega)) (by omega) (f_ks dN5) ⟨bN5, cN5⟩ dJ7_copyOf_9075b_15 (fun q3 hq3 => ?_)
    replace H := H q3 _ hq3 rfl
    generalize fup ω q3 (.inl (G.1.2.1 1, N5, .inl (fun _ => 0))) = ω4 at H ⊢
    refine f_astore_n (ls' := [(2, .ref q3), (0, .ref r0), (1, .int x1)]) dJ7_copyOf_9075b_17 rfl (by decide) rfl ?_
    refine f_aload_n dJ7_copyOf_9075b_18 rfl 1 rfl ?_
    refine f_iconst (v := 0) dJ7_copyOf_9075b_19 (by decide) ?_
    refine f_aload_n dJ7_copyOf_9075b_20 rfl 0 rfl ?_
    refine f_iconst (v := 0) dJ7_copyOf_9075b_21 (by decide) ?_
    refine f_aload_n dJ7_copyOf_9075b_22 rfl 1 rfl ?_
    obtain ⟨y7, hy7, H⟩ := H
    refine f_alen (t := 1) rfl hy7 rfl dJ7_copyOf_9075b_23 ?_
    refine f_iload_n dJ7_copyOf_9075b_24 rfl 2 rfl ?_
    refine f_mmin qm_J7_304 ms_min mi_math mc_min (by decide) (Nat.le_of_ble_eq_true rfl) dJ7_copyOf_9075b_25 ?_
    change FV _ _ _ _ _ _ _ (.int (zmin (nI y7.1) x1) :: _) _
    obtain ⟨n9, n10, f11, g12, hn9, gn9, ⟨an9, bn9, cn9, dn9, en9⟩, un9, H⟩ := H
    refine f_copyB hn9 gn9 q_J7_150 an9 bn9 cn9 dn9 en9 un9 (by decide) (Nat.le_of_ble_eq_true rfl) dJ7_copyOf_9075b_28 ?_
    replace H := H _ rfl
    generalize fup ω4 q3 (.inl (G.1.2.1 1, n10, .inl (va_cpy f11 g12 (Int32.toNatClampNeg 0) (Int32.toNatClampNeg 0) (Int32.toNatClampNeg (zmin (nI y7.1) x1))))) = ω8 at H ⊢
    refine f_aload_n dJ7_copyOf_9075b_31 rfl 0 rfl ?_
    exact f_aret rfl (Or.inr ⟨_, rfl⟩) dJ7_copyOf_9075b_32 ⟨_, rfl, H⟩
  · replace H := H.2 h2
    refine f_aload_n dJ7_copyOf_9075b_6 rfl 0 rfl ?_
    obtain ⟨n13, u17, f14, hn13, an13, bn13, cn13, dn13, H⟩ := H
    refine f_cloneB (u := u17) hn13 an13 q_J7_310 sm_clone ne_clone ie_clone ve_clone (by decide) (Nat.le_of_ble_eq_true rfl) (f_ks dn13) ⟨bn13, cn13⟩ dJ7_copyOf_9075b_7 (fun q15 hq15 => ?_)
    replace H := H q15 _ hq15 rfl
    generalize fup ω q15 (.inl (G.1.2.1 1, n13, .inl f14)) = ω16 at H ⊢
    obtain ⟨y18, hy18, H⟩ := H
    refine f_cast1 cl_J7_311 hy18 dJ7_copyOf_9075b_10 ?_
    exact f_aret rfl (Or.inr ⟨_, rfl⟩) dJ7_copyOf_9075b_13 ⟨_, rfl, H⟩
set_option maxRecDepth 20000 in
set_option maxHeartbeats 2000000 in
theorem b_J3_checkIndex_8e157 {G : fG} {l : Launch} {K : Int32 → Option zS → fW → Prop} {x0 : Int32} {x1 : Int32} {v2 : Value} {o : Option zS} {ω : fW} {kb : Nat}
    (hu : v2 = .null ∨ ∃ t : Nat, v2 = .ref t) (H : ((x0 < 0 → False) ∧ (¬ x0 < 0 → ((x0 < x1 → K x0 o ω) ∧ (¬ x0 < x1 → False))))) :
    FC G l M_J3_checkIndex_8e157 kb [.int x0, .int x1, v2] (o, ω) (fQi K) := by
  rcases hu with rfl | ⟨t, rfl⟩
  · refine FC_of (by decide) (Nat.le_of_ble_eq_true rfl) ?_
    change FV _ _ _ _ _ 0 [(0, .int x0), (1, .int x1), (2, .null)] [] _
    refine f_iload_n dJ3_checkIndex_8e157_0 rfl 0 rfl ?_
    refine f_if_lt (tgt := 9) dJ3_checkIndex_8e157_1 (by decide) (fun h1 => ?_) (fun h1 => ?_)
    · replace H := H.1 h1
      exact H.elim
    · replace H := H.2 h1
      refine f_iload_n dJ3_checkIndex_8e157_4 rfl 0 rfl ?_
      refine f_iload_n dJ3_checkIndex_8e157_5 rfl 1 rfl ?_
      refine f_icmp_lt (tgt := 16) dJ3_checkIndex_8e157_6 (by decide) (fun h2 => ?_) (fun h2 => ?_)
      · replace H := H.1 h2
        refine f_iload_n dJ3_checkIndex_8e157_16 rfl 0 rfl ?_
        exact f_iret rfl dJ3_checkIndex_8e157_17 ⟨_, rfl, H⟩
      · replace H := H.2 h2
        exact H.elim
  · refine FC_of (by decide) (Nat.le_of_ble_eq_true rfl) ?_
    change FV _ _ _ _ _ 0 [(0, .int x0), (1, .int x1), (2, (.ref t))] [] _
    refine f_iload_n dJ3_checkIndex_8e157_0 rfl 0 rfl ?_
    refine f_if_lt (tgt := 9) dJ3_checkIndex_8e157_1 (by decide) (fun h1 => ?_) (fun h1 => ?_)
    · replace H := H.1 h1
      exact H.elim
    · replace H := H.2 h1
      refine f_iload_n dJ3_checkIndex_8e157_4 rfl 0 rfl ?_
      refine f_iload_n dJ3_checkIndex_8e157_5 rfl 1 rfl ?_
      refine f_icmp_lt (tgt := 16) dJ3_checkIndex_8e157_6 (by decide) (fun h2 => ?_) (fun h2 => ?_)
      · replace H := H.1 h2
        refine f_iload_n dJ3_checkIndex_8e157_16 rfl 0 rfl ?_
        exact f_iret rfl dJ3_checkIndex_8e157_17 ⟨_, rfl, H⟩
      · replace H := H.2 h2
        exact H.elim
