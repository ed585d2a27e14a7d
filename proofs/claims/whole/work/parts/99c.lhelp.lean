/-! the law's other helpers (made by lgen.py) -/
section ZLh
variable {g : zG} {l : Launch} {K : Int32 → zS → Prop} {σ : zS}
theorem k_L_13 : Cond.classLink RL 13 xS' ∈ zT := zT_in 565 (by decide +kernel) (by decide +kernel)
theorem k_L_35 : Cond.classLink RL 35 xI ∈ zT := zT_in 1027 (by decide +kernel) (by decide +kernel)
abbrev M_L_feed : zM := (yL_feed, cL_feed, 8, (some FieldType.int), 8, [(0, 16, 19, 13)])
theorem i_L_feed : zInW M_L_feed 7 := ⟨zT_in 564 (by decide +kernel) (by decide +kernel), zT_in 121 (by decide +kernel) (by decide +kernel), ⟨by decide, by decide⟩, by decide +kernel, by decide⟩
theorem b_L_feed {x1 x2 x3 x4 x5 : Int32} (H : CT g l M_X6_feed 1 [.ref (zad g 0), .int x1, .int x2, .int x3, .int x4, .int x5] σ (zQi (fun v τ => K 0 (zupJ τ 1 v.toInt64)) (fun E τ => (E = xS' ∧ K 1 τ)))) : CTW g l M_L_feed 1 [.ref (zad g 0), .int x1, .int x2, .int x3, .int x4, .int x5, .ref (zad g 41)] σ (zQi K (fun _ _ => False)) := by
  refine CTW_of rfl (Nat.le_of_ble_eq_true rfl) ?_
  change EV _ _ _ _ _ 0 [(0, .ref (zad g 0)), (1, .int x1), (2, .int x2), (3, .int x3), (4, .int x4), (5, .int x5), (6, .ref (zad g 41))] [] _
  refine e_aload dL_feed_0 6 rfl ?_
  refine e_iconst (v := 0) dL_feed_2 rfl ?_
  refine e_aload_n dL_feed_3 rfl 0 rfl ?_
  refine e_iload_n dL_feed_4 rfl 1 rfl ?_
  refine e_iload_n dL_feed_5 rfl 2 rfl ?_
  refine e_iload_n dL_feed_6 rfl 3 rfl ?_
  refine e_iload dL_feed_7 4 rfl ?_
  refine e_iload dL_feed_9 5 rfl ?_
  refine e_callVH (N := M_X6_feed) (n := 5) (j1 := 1) (j2 := 0) (av := [.int x1, .int x2, .int x3, .int x4, .int x5]) rfl rfl (Nat.le_of_ble_eq_true rfl) rfl rfl H i_X6_feed rfl n_X6_feed v_X6_feed q_L_7 (by decide) (by decide) (Nat.le_of_ble_eq_true rfl) dL_feed_11 (fun v τ h => ?_) (fun E τ h => ?_)
  · match v, h with
    | some (.int y), h =>
      refine e_i2l dL_feed_14 rfl ?_
      refine e_last dL_feed_15 ?_
      refine e_goto dL_feed_16 (tgt := 23) rfl ?_
      refine e_iconst (v := 0) dL_feed_23 rfl ?_
      exact e_iret rfl dL_feed_24 h
  · rcases h with ⟨rfl, h⟩
    · refine ⟨19, ⟨[], _, [], rfl, fun z hz => ?_, by decide, by decide, k_L_13, by decide, rfl⟩, fun q => ?_⟩
      · exact absurd hz List.not_mem_nil
      · refine e_astore (ls' := (7, .ref q) :: [(0, .ref (zad g 0)), (1, .int x1), (2, .int x2), (3, .int x3), (4, .int x4), (5, .int x5), (6, .ref (zad g 41))]) dL_feed_19 (by decide) rfl ?_
        refine e_iconst (v := 1) dL_feed_21 rfl ?_
        exact e_iret rfl dL_feed_22 h
abbrev M_L_truncate : zM := (yL_truncate, cL_truncate, 4, (some FieldType.int), 8, [(0, 9, 12, 19)])
theorem i_L_truncate : zInW M_L_truncate 3 := ⟨zT_in 643 (by decide +kernel) (by decide +kernel), zT_in 121 (by decide +kernel) (by decide +kernel), ⟨by decide, by decide⟩, by decide +kernel, by decide⟩
theorem b_L_truncate {x1 : Int32} (H : CT g l M_X6_truncate 1 [.ref (zad g 0), .int x1] σ (zQi (fun v τ => K 0 (zupJ τ 1 v.toInt64)) (fun E τ => (E = xA ∧ K 1 τ)))) : CTW g l M_L_truncate 1 [.ref (zad g 0), .int x1, .ref (zad g 41)] σ (zQi K (fun _ _ => False)) := by
  refine CTW_of rfl (Nat.le_of_ble_eq_true rfl) ?_
  change EV _ _ _ _ _ 0 [(0, .ref (zad g 0)), (1, .int x1), (2, .ref (zad g 41))] [] _
  refine e_aload_n dL_truncate_0 rfl 2 rfl ?_
  refine e_iconst (v := 0) dL_truncate_1 rfl ?_
  refine e_aload_n dL_truncate_2 rfl 0 rfl ?_
  refine e_iload_n dL_truncate_3 rfl 1 rfl ?_
  refine e_callVH (N := M_X6_truncate) (n := 1) (j1 := 1) (j2 := 0) (av := [.int x1]) rfl rfl (Nat.le_of_ble_eq_true rfl) rfl rfl H i_X6_truncate rfl n_X6_truncate v_X6_truncate q_L_15 (by decide) (by decide) (Nat.le_of_ble_eq_true rfl) dL_truncate_4 (fun v τ h => ?_) (fun E τ h => ?_)
  · match v, h with
    | some (.int y), h =>
      refine e_i2l dL_truncate_7 rfl ?_
      refine e_last dL_truncate_8 ?_
      refine e_goto dL_truncate_9 (tgt := 15) rfl ?_
      refine e_iconst (v := 0) dL_truncate_15 rfl ?_
      exact e_iret rfl dL_truncate_16 h
  · rcases h with ⟨rfl, h⟩
    · refine ⟨12, ⟨[], _, [], rfl, fun z hz => ?_, by decide, by decide, k_L_19, by decide, rfl⟩, fun q => ?_⟩
      · exact absurd hz List.not_mem_nil
      · refine e_astore_n (ls' := (3, .ref q) :: [(0, .ref (zad g 0)), (1, .int x1), (2, .ref (zad g 41))]) dL_truncate_12 rfl (by decide) rfl ?_
        refine e_iconst (v := 1) dL_truncate_13 rfl ?_
        exact e_iret rfl dL_truncate_14 h
abbrev M_L_readText : zM := (yL_readText, cL_readText, 3, (some FieldType.int), 16, [(0, 8, 11, 19)])
theorem i_L_readText : zInW M_L_readText 2 := ⟨zT_in 667 (by decide +kernel) (by decide +kernel), zT_in 121 (by decide +kernel) (by decide +kernel), ⟨by decide, by decide⟩, by decide +kernel, by decide⟩
theorem b_L_readText (H : CT g l M_X6_readText 1 [.ref (zad g 0)] σ (zQi (fun v τ => K 0 (zupJ τ 1 v.toInt64)) (fun E τ => (E = xA ∧ K 1 τ)))) : CTW g l M_L_readText 1 [.ref (zad g 0), .ref (zad g 41)] σ (zQi K (fun _ _ => False)) := by
  refine CTW_of rfl (Nat.le_of_ble_eq_true rfl) ?_
  change EV _ _ _ _ _ 0 [(0, .ref (zad g 0)), (1, .ref (zad g 41))] [] _
  refine e_aload_n dL_readText_0 rfl 1 rfl ?_
  refine e_iconst (v := 0) dL_readText_1 rfl ?_
  refine e_aload_n dL_readText_2 rfl 0 rfl ?_
  refine e_callVH (N := M_X6_readText) (n := 0) (j1 := 1) (j2 := 0) (av := []) rfl rfl (Nat.le_of_ble_eq_true rfl) rfl rfl H i_X6_readText rfl n_X6_readText v_X6_readText q_L_21 (by decide) (by decide) (Nat.le_of_ble_eq_true rfl) dL_readText_3 (fun v τ h => ?_) (fun E τ h => ?_)
  · match v, h with
    | some (.int y), h =>
      refine e_i2l dL_readText_6 rfl ?_
      refine e_last dL_readText_7 ?_
      refine e_goto dL_readText_8 (tgt := 14) rfl ?_
      refine e_iconst (v := 0) dL_readText_14 rfl ?_
      exact e_iret rfl dL_readText_15 h
  · rcases h with ⟨rfl, h⟩
    · refine ⟨11, ⟨[], _, [], rfl, fun z hz => ?_, by decide, by decide, k_L_19, by decide, rfl⟩, fun q => ?_⟩
      · exact absurd hz List.not_mem_nil
      · refine e_astore_n (ls' := (2, .ref q) :: [(0, .ref (zad g 0)), (1, .ref (zad g 41))]) dL_readText_11 rfl (by decide) rfl ?_
        refine e_iconst (v := 1) dL_readText_12 rfl ?_
        exact e_iret rfl dL_readText_13 h
abbrev M_L_runScript : zM := (yL_runScript, cL_runScript, 3, (some FieldType.int), 16, [(0, 8, 11, 19)])
theorem i_L_runScript : zInW M_L_runScript 2 := ⟨zT_in 847 (by decide +kernel) (by decide +kernel), zT_in 121 (by decide +kernel) (by decide +kernel), ⟨by decide, by decide⟩, by decide +kernel, by decide⟩
theorem b_L_runScript (H : CT g l M_X6_runScript 1 [.ref (zad g 0)] σ (zQi (fun v τ => K 0 (zupJ τ 1 v.toInt64)) (fun E τ => (E = xA ∧ K 1 τ)))) : CTW g l M_L_runScript 1 [.ref (zad g 0), .ref (zad g 41)] σ (zQi K (fun _ _ => False)) := by
  refine CTW_of rfl (Nat.le_of_ble_eq_true rfl) ?_
  change EV _ _ _ _ _ 0 [(0, .ref (zad g 0)), (1, .ref (zad g 41))] [] _
  refine e_aload_n dL_runScript_0 rfl 1 rfl ?_
  refine e_iconst (v := 0) dL_runScript_1 rfl ?_
  refine e_aload_n dL_runScript_2 rfl 0 rfl ?_
  refine e_callVH (N := M_X6_runScript) (n := 0) (j1 := 1) (j2 := 0) (av := []) rfl rfl (Nat.le_of_ble_eq_true rfl) rfl rfl H i_X6_runScript rfl n_X6_runScript v_X6_runScript q_L_25 (by decide) (by decide) (Nat.le_of_ble_eq_true rfl) dL_runScript_3 (fun v τ h => ?_) (fun E τ h => ?_)
  · match v, h with
    | some (.int y), h =>
      refine e_i2l dL_runScript_6 rfl ?_
      refine e_last dL_runScript_7 ?_
      refine e_goto dL_runScript_8 (tgt := 14) rfl ?_
      refine e_iconst (v := 0) dL_runScript_14 rfl ?_
      exact e_iret rfl dL_runScript_15 h
  · rcases h with ⟨rfl, h⟩
    · refine ⟨11, ⟨[], _, [], rfl, fun z hz => ?_, by decide, by decide, k_L_19, by decide, rfl⟩, fun q => ?_⟩
      · exact absurd hz List.not_mem_nil
      · refine e_astore_n (ls' := (2, .ref q) :: [(0, .ref (zad g 0)), (1, .ref (zad g 41))]) dL_runScript_11 rfl (by decide) rfl ?_
        refine e_iconst (v := 1) dL_runScript_12 rfl ?_
        exact e_iret rfl dL_runScript_13 h
abbrev M_L_setting : zM := (yL_setting, cL_setting, 4, (some FieldType.int), 8, [(0, 9, 12, 19)])
theorem i_L_setting : zInW M_L_setting 3 := ⟨zT_in 1006 (by decide +kernel) (by decide +kernel), zT_in 121 (by decide +kernel) (by decide +kernel), ⟨by decide, by decide⟩, by decide +kernel, by decide⟩
theorem b_L_setting {x1 : Int32} (H : CT g l M_X6_setting 1 [.ref (zad g 0), .int x1] σ (zQi (fun v τ => K 0 (zupJ τ 1 v.toInt64)) (fun E τ => (E = xA ∧ K 1 τ)))) : CTW g l M_L_setting 1 [.ref (zad g 0), .int x1, .ref (zad g 41)] σ (zQi K (fun _ _ => False)) := by
  refine CTW_of rfl (Nat.le_of_ble_eq_true rfl) ?_
  change EV _ _ _ _ _ 0 [(0, .ref (zad g 0)), (1, .int x1), (2, .ref (zad g 41))] [] _
  refine e_aload_n dL_setting_0 rfl 2 rfl ?_
  refine e_iconst (v := 0) dL_setting_1 rfl ?_
  refine e_aload_n dL_setting_2 rfl 0 rfl ?_
  refine e_iload_n dL_setting_3 rfl 1 rfl ?_
  refine e_callVH (N := M_X6_setting) (n := 1) (j1 := 1) (j2 := 0) (av := [.int x1]) rfl rfl (Nat.le_of_ble_eq_true rfl) rfl rfl H i_X6_setting rfl n_X6_setting v_X6_setting q_L_28 (by decide) (by decide) (Nat.le_of_ble_eq_true rfl) dL_setting_4 (fun v τ h => ?_) (fun E τ h => ?_)
  · match v, h with
    | some (.int y), h =>
      refine e_i2l dL_setting_7 rfl ?_
      refine e_last dL_setting_8 ?_
      refine e_goto dL_setting_9 (tgt := 15) rfl ?_
      refine e_iconst (v := 0) dL_setting_15 rfl ?_
      exact e_iret rfl dL_setting_16 h
  · rcases h with ⟨rfl, h⟩
    · refine ⟨12, ⟨[], _, [], rfl, fun z hz => ?_, by decide, by decide, k_L_19, by decide, rfl⟩, fun q => ?_⟩
      · exact absurd hz List.not_mem_nil
      · refine e_astore_n (ls' := (3, .ref q) :: [(0, .ref (zad g 0)), (1, .int x1), (2, .ref (zad g 41))]) dL_setting_12 rfl (by decide) rfl ?_
        refine e_iconst (v := 1) dL_setting_13 rfl ?_
        exact e_iret rfl dL_setting_14 h
abbrev M_L_slat : zM := (yL_slat, cL_slat, 5, (some FieldType.int), 9, [(0, 10, 13, 35), (0, 10, 17, 19)])
theorem i_L_slat : zInW M_L_slat 4 := ⟨zT_in 1026 (by decide +kernel) (by decide +kernel), zT_in 121 (by decide +kernel) (by decide +kernel), ⟨by decide, by decide⟩, by decide +kernel, by decide⟩
theorem b_L_slat {x1 x2 : Int32} (H : CT g l M_X6_slat 2 [.ref (zad g 0), .int x1, .int x2] σ (zQi (fun v τ => K 0 (zupJ τ 1 v.toInt64)) (fun E τ => (E = xI ∧ K 1 τ) ∨ (E = xA ∧ K 2 τ)))) : CTW g l M_L_slat 2 [.ref (zad g 0), .int x1, .int x2, .ref (zad g 41)] σ (zQi K (fun _ _ => False)) := by
  refine CTW_of rfl (Nat.le_of_ble_eq_true rfl) ?_
  change EV _ _ _ _ _ 0 [(0, .ref (zad g 0)), (1, .int x1), (2, .int x2), (3, .ref (zad g 41))] [] _
  refine e_aload_n dL_slat_0 rfl 3 rfl ?_
  refine e_iconst (v := 0) dL_slat_1 rfl ?_
  refine e_aload_n dL_slat_2 rfl 0 rfl ?_
  refine e_iload_n dL_slat_3 rfl 1 rfl ?_
  refine e_iload_n dL_slat_4 rfl 2 rfl ?_
  refine e_callVH (N := M_X6_slat) (n := 2) (j1 := 2) (j2 := 0) (av := [.int x1, .int x2]) rfl rfl (Nat.le_of_ble_eq_true rfl) rfl rfl H i_X6_slat rfl n_X6_slat v_X6_slat q_L_31 (by decide) (by decide) (Nat.le_of_ble_eq_true rfl) dL_slat_5 (fun v τ h => ?_) (fun E τ h => ?_)
  · match v, h with
    | some (.int y), h =>
      refine e_i2l dL_slat_8 rfl ?_
      refine e_last dL_slat_9 ?_
      refine e_goto dL_slat_10 (tgt := 21) rfl ?_
      refine e_iconst (v := 0) dL_slat_21 rfl ?_
      exact e_iret rfl dL_slat_22 h
  · rcases h with ⟨rfl, h⟩ | ⟨rfl, h⟩
    · refine ⟨13, ⟨[], _, [_], rfl, fun z hz => ?_, by decide, by decide, k_L_35, by decide, rfl⟩, fun q => ?_⟩
      · exact absurd hz List.not_mem_nil
      · refine e_astore (ls' := (4, .ref q) :: [(0, .ref (zad g 0)), (1, .int x1), (2, .int x2), (3, .ref (zad g 41))]) dL_slat_13 (by decide) rfl ?_
        refine e_iconst (v := 1) dL_slat_15 rfl ?_
        exact e_iret rfl dL_slat_16 h
    · refine ⟨17, ⟨[_], _, [], rfl, fun z hz => ?_, by decide, by decide, k_L_19, by decide, rfl⟩, fun q => ?_⟩
      · simp only [List.mem_cons, List.not_mem_nil, or_false] at hz
        rcases hz with rfl
        · exact Or.inr ⟨by decide, _, k_L_35, by decide⟩
      · refine e_astore (ls' := (4, .ref q) :: [(0, .ref (zad g 0)), (1, .int x1), (2, .int x2), (3, .ref (zad g 41))]) dL_slat_17 (by decide) rfl ?_
        refine e_iconst (v := 2) dL_slat_19 rfl ?_
        exact e_iret rfl dL_slat_20 h
abbrev M_L_slatAt : zM := (yL_slatAt, cL_slatAt, 4, (some FieldType.int), 9, [(0, 9, 12, 35)])
theorem i_L_slatAt : zInW M_L_slatAt 3 := ⟨zT_in 1056 (by decide +kernel) (by decide +kernel), zT_in 121 (by decide +kernel) (by decide +kernel), ⟨by decide, by decide⟩, by decide +kernel, by decide⟩
theorem b_L_slatAt {x1 : Int32} (H : CT g l M_X6_slatAt 1 [.ref (zad g 0), .int x1] σ (zQi (fun v τ => K 0 (zupJ τ 1 v.toInt64)) (fun E τ => (E = xI ∧ K 1 τ)))) : CTW g l M_L_slatAt 1 [.ref (zad g 0), .int x1, .ref (zad g 41)] σ (zQi K (fun _ _ => False)) := by
  refine CTW_of rfl (Nat.le_of_ble_eq_true rfl) ?_
  change EV _ _ _ _ _ 0 [(0, .ref (zad g 0)), (1, .int x1), (2, .ref (zad g 41))] [] _
  refine e_aload_n dL_slatAt_0 rfl 2 rfl ?_
  refine e_iconst (v := 0) dL_slatAt_1 rfl ?_
  refine e_aload_n dL_slatAt_2 rfl 0 rfl ?_
  refine e_iload_n dL_slatAt_3 rfl 1 rfl ?_
  refine e_callVH (N := M_X6_slatAt) (n := 1) (j1 := 1) (j2 := 0) (av := [.int x1]) rfl rfl (Nat.le_of_ble_eq_true rfl) rfl rfl H i_X6_slatAt rfl n_X6_slatAt v_X6_slatAt q_L_37 (by decide) (by decide) (Nat.le_of_ble_eq_true rfl) dL_slatAt_4 (fun v τ h => ?_) (fun E τ h => ?_)
  · match v, h with
    | some (.int y), h =>
      refine e_i2l dL_slatAt_7 rfl ?_
      refine e_last dL_slatAt_8 ?_
      refine e_goto dL_slatAt_9 (tgt := 15) rfl ?_
      refine e_iconst (v := 0) dL_slatAt_15 rfl ?_
      exact e_iret rfl dL_slatAt_16 h
  · rcases h with ⟨rfl, h⟩
    · refine ⟨12, ⟨[], _, [], rfl, fun z hz => ?_, by decide, by decide, k_L_35, by decide, rfl⟩, fun q => ?_⟩
      · exact absurd hz List.not_mem_nil
      · refine e_astore_n (ls' := (3, .ref q) :: [(0, .ref (zad g 0)), (1, .int x1), (2, .ref (zad g 41))]) dL_slatAt_12 rfl (by decide) rfl ?_
        refine e_iconst (v := 1) dL_slatAt_13 rfl ?_
        exact e_iret rfl dL_slatAt_14 h
abbrev M_L_picture : zM := (yL_picture, cL_picture, 6, (some FieldType.int), 9, [(0, 12, 15, 35)])
theorem i_L_picture : zInW M_L_picture 5 := ⟨zT_in 1071 (by decide +kernel) (by decide +kernel), zT_in 121 (by decide +kernel) (by decide +kernel), ⟨by decide, by decide⟩, by decide +kernel, by decide⟩
theorem b_L_picture {x1 x2 x3 : Int32} (H : CT g l M_X6_picture 1 [.ref (zad g 0), .int x1, .int x2, .int x3] σ (zQi (fun v τ => K 0 (zupJ τ 1 v.toInt64)) (fun E τ => (E = xI ∧ K 1 τ)))) : CTW g l M_L_picture 1 [.ref (zad g 0), .int x1, .int x2, .int x3, .ref (zad g 41)] σ (zQi K (fun _ _ => False)) := by
  refine CTW_of rfl (Nat.le_of_ble_eq_true rfl) ?_
  change EV _ _ _ _ _ 0 [(0, .ref (zad g 0)), (1, .int x1), (2, .int x2), (3, .int x3), (4, .ref (zad g 41))] [] _
  refine e_aload dL_picture_0 4 rfl ?_
  refine e_iconst (v := 0) dL_picture_2 rfl ?_
  refine e_aload_n dL_picture_3 rfl 0 rfl ?_
  refine e_iload_n dL_picture_4 rfl 1 rfl ?_
  refine e_iload_n dL_picture_5 rfl 2 rfl ?_
  refine e_iload_n dL_picture_6 rfl 3 rfl ?_
  refine e_callVH (N := M_X6_picture) (n := 3) (j1 := 1) (j2 := 0) (av := [.int x1, .int x2, .int x3]) rfl rfl (Nat.le_of_ble_eq_true rfl) rfl rfl H i_X6_picture rfl n_X6_picture v_X6_picture q_L_40 (by decide) (by decide) (Nat.le_of_ble_eq_true rfl) dL_picture_7 (fun v τ h => ?_) (fun E τ h => ?_)
  · match v, h with
    | some (.int y), h =>
      refine e_i2l dL_picture_10 rfl ?_
      refine e_last dL_picture_11 ?_
      refine e_goto dL_picture_12 (tgt := 19) rfl ?_
      refine e_iconst (v := 0) dL_picture_19 rfl ?_
      exact e_iret rfl dL_picture_20 h
  · rcases h with ⟨rfl, h⟩
    · refine ⟨15, ⟨[], _, [], rfl, fun z hz => ?_, by decide, by decide, k_L_35, by decide, rfl⟩, fun q => ?_⟩
      · exact absurd hz List.not_mem_nil
      · refine e_astore (ls' := (5, .ref q) :: [(0, .ref (zad g 0)), (1, .int x1), (2, .int x2), (3, .int x3), (4, .ref (zad g 41))]) dL_picture_15 (by decide) rfl ?_
        refine e_iconst (v := 1) dL_picture_17 rfl ?_
        exact e_iret rfl dL_picture_18 h
abbrev M_L_face : zM := (yL_face, cL_face, 7, (some FieldType.int), 9, [(0, 14, 17, 35)])
theorem i_L_face : zInW M_L_face 6 := ⟨zT_in 1085 (by decide +kernel) (by decide +kernel), zT_in 121 (by decide +kernel) (by decide +kernel), ⟨by decide, by decide⟩, by decide +kernel, by decide⟩
theorem b_L_face {x1 x2 x3 x4 : Int32} (H : CT g l M_X6_face 1 [.ref (zad g 0), .int x1, .int x2, .int x3, .int x4] σ (zQi (fun v τ => K 0 (zupJ τ 1 v.toInt64)) (fun E τ => (E = xI ∧ K 1 τ)))) : CTW g l M_L_face 1 [.ref (zad g 0), .int x1, .int x2, .int x3, .int x4, .ref (zad g 41)] σ (zQi K (fun _ _ => False)) := by
  refine CTW_of rfl (Nat.le_of_ble_eq_true rfl) ?_
  change EV _ _ _ _ _ 0 [(0, .ref (zad g 0)), (1, .int x1), (2, .int x2), (3, .int x3), (4, .int x4), (5, .ref (zad g 41))] [] _
  refine e_aload dL_face_0 5 rfl ?_
  refine e_iconst (v := 0) dL_face_2 rfl ?_
  refine e_aload_n dL_face_3 rfl 0 rfl ?_
  refine e_iload_n dL_face_4 rfl 1 rfl ?_
  refine e_iload_n dL_face_5 rfl 2 rfl ?_
  refine e_iload_n dL_face_6 rfl 3 rfl ?_
  refine e_iload dL_face_7 4 rfl ?_
  refine e_callVH (N := M_X6_face) (n := 4) (j1 := 1) (j2 := 0) (av := [.int x1, .int x2, .int x3, .int x4]) rfl rfl (Nat.le_of_ble_eq_true rfl) rfl rfl H i_X6_face rfl n_X6_face v_X6_face q_L_44 (by decide) (by decide) (Nat.le_of_ble_eq_true rfl) dL_face_9 (fun v τ h => ?_) (fun E τ h => ?_)
  · match v, h with
    | some (.int y), h =>
      refine e_i2l dL_face_12 rfl ?_
      refine e_last dL_face_13 ?_
      refine e_goto dL_face_14 (tgt := 21) rfl ?_
      refine e_iconst (v := 0) dL_face_21 rfl ?_
      exact e_iret rfl dL_face_22 h
  · rcases h with ⟨rfl, h⟩
    · refine ⟨17, ⟨[], _, [], rfl, fun z hz => ?_, by decide, by decide, k_L_35, by decide, rfl⟩, fun q => ?_⟩
      · exact absurd hz List.not_mem_nil
      · refine e_astore (ls' := (6, .ref q) :: [(0, .ref (zad g 0)), (1, .int x1), (2, .int x2), (3, .int x3), (4, .int x4), (5, .ref (zad g 41))]) dL_face_17 (by decide) rfl ?_
        refine e_iconst (v := 1) dL_face_19 rfl ?_
        exact e_iret rfl dL_face_20 h
abbrev M_L_seen : zM := (yL_seen, cL_seen, 6, (some FieldType.int), 9, [(0, 12, 15, 35), (0, 12, 19, 19)])
theorem i_L_seen : zInW M_L_seen 5 := ⟨zT_in 1093 (by decide +kernel) (by decide +kernel), zT_in 121 (by decide +kernel) (by decide +kernel), ⟨by decide, by decide⟩, by decide +kernel, by decide⟩
theorem b_L_seen {x1 x2 x3 : Int32} (H : CT g l M_X6_seen 1 [.ref (zad g 0), .int x1, .int x2, .int x3] σ (zQi (fun v τ => K 0 (zupJ τ 1 v.toInt64)) (fun E τ => (E = xI ∧ K 1 τ) ∨ (E = xA ∧ K 2 τ)))) : CTW g l M_L_seen 1 [.ref (zad g 0), .int x1, .int x2, .int x3, .ref (zad g 41)] σ (zQi K (fun _ _ => False)) := by
  refine CTW_of rfl (Nat.le_of_ble_eq_true rfl) ?_
  change EV _ _ _ _ _ 0 [(0, .ref (zad g 0)), (1, .int x1), (2, .int x2), (3, .int x3), (4, .ref (zad g 41))] [] _
  refine e_aload dL_seen_0 4 rfl ?_
  refine e_iconst (v := 0) dL_seen_2 rfl ?_
  refine e_aload_n dL_seen_3 rfl 0 rfl ?_
  refine e_iload_n dL_seen_4 rfl 1 rfl ?_
  refine e_iload_n dL_seen_5 rfl 2 rfl ?_
  refine e_iload_n dL_seen_6 rfl 3 rfl ?_
  refine e_callVH (N := M_X6_seen) (n := 3) (j1 := 1) (j2 := 0) (av := [.int x1, .int x2, .int x3]) rfl rfl (Nat.le_of_ble_eq_true rfl) rfl rfl H i_X6_seen rfl n_X6_seen v_X6_seen q_L_48 (by decide) (by decide) (Nat.le_of_ble_eq_true rfl) dL_seen_7 (fun v τ h => ?_) (fun E τ h => ?_)
  · match v, h with
    | some (.int y), h =>
      refine e_i2l dL_seen_10 rfl ?_
      refine e_last dL_seen_11 ?_
      refine e_goto dL_seen_12 (tgt := 23) rfl ?_
      refine e_iconst (v := 0) dL_seen_23 rfl ?_
      exact e_iret rfl dL_seen_24 h
  · rcases h with ⟨rfl, h⟩ | ⟨rfl, h⟩
    · refine ⟨15, ⟨[], _, [_], rfl, fun z hz => ?_, by decide, by decide, k_L_35, by decide, rfl⟩, fun q => ?_⟩
      · exact absurd hz List.not_mem_nil
      · refine e_astore (ls' := (5, .ref q) :: [(0, .ref (zad g 0)), (1, .int x1), (2, .int x2), (3, .int x3), (4, .ref (zad g 41))]) dL_seen_15 (by decide) rfl ?_
        refine e_iconst (v := 1) dL_seen_17 rfl ?_
        exact e_iret rfl dL_seen_18 h
    · refine ⟨19, ⟨[_], _, [], rfl, fun z hz => ?_, by decide, by decide, k_L_19, by decide, rfl⟩, fun q => ?_⟩
      · simp only [List.mem_cons, List.not_mem_nil, or_false] at hz
        rcases hz with rfl
        · exact Or.inr ⟨by decide, _, k_L_35, by decide⟩
      · refine e_astore (ls' := (5, .ref q) :: [(0, .ref (zad g 0)), (1, .int x1), (2, .int x2), (3, .int x3), (4, .ref (zad g 41))]) dL_seen_19 (by decide) rfl ?_
        refine e_iconst (v := 2) dL_seen_21 rfl ?_
        exact e_iret rfl dL_seen_22 h
abbrev M_L_why : zM := (yL_why, cL_why, 7, (some FieldType.int), 9, [(0, 14, 17, 35), (0, 14, 21, 19)])
theorem i_L_why : zInW M_L_why 6 := ⟨zT_in 1108 (by decide +kernel) (by decide +kernel), zT_in 121 (by decide +kernel) (by decide +kernel), ⟨by decide, by decide⟩, by decide +kernel, by decide⟩
theorem b_L_why {x1 x2 x3 x4 : Int32} (H : CT g l M_X6_why 1 [.ref (zad g 0), .int x1, .int x2, .int x3, .int x4] σ (zQi (fun v τ => K 0 (zupJ τ 1 v.toInt64)) (fun E τ => (E = xI ∧ K 1 τ) ∨ (E = xA ∧ K 2 τ)))) : CTW g l M_L_why 1 [.ref (zad g 0), .int x1, .int x2, .int x3, .int x4, .ref (zad g 41)] σ (zQi K (fun _ _ => False)) := by
  refine CTW_of rfl (Nat.le_of_ble_eq_true rfl) ?_
  change EV _ _ _ _ _ 0 [(0, .ref (zad g 0)), (1, .int x1), (2, .int x2), (3, .int x3), (4, .int x4), (5, .ref (zad g 41))] [] _
  refine e_aload dL_why_0 5 rfl ?_
  refine e_iconst (v := 0) dL_why_2 rfl ?_
  refine e_aload_n dL_why_3 rfl 0 rfl ?_
  refine e_iload_n dL_why_4 rfl 1 rfl ?_
  refine e_iload_n dL_why_5 rfl 2 rfl ?_
  refine e_iload_n dL_why_6 rfl 3 rfl ?_
  refine e_iload dL_why_7 4 rfl ?_
  refine e_callVH (N := M_X6_why) (n := 4) (j1 := 1) (j2 := 0) (av := [.int x1, .int x2, .int x3, .int x4]) rfl rfl (Nat.le_of_ble_eq_true rfl) rfl rfl H i_X6_why rfl n_X6_why v_X6_why q_L_52 (by decide) (by decide) (Nat.le_of_ble_eq_true rfl) dL_why_9 (fun v τ h => ?_) (fun E τ h => ?_)
  · match v, h with
    | some (.int y), h =>
      refine e_i2l dL_why_12 rfl ?_
      refine e_last dL_why_13 ?_
      refine e_goto dL_why_14 (tgt := 25) rfl ?_
      refine e_iconst (v := 0) dL_why_25 rfl ?_
      exact e_iret rfl dL_why_26 h
  · rcases h with ⟨rfl, h⟩ | ⟨rfl, h⟩
    · refine ⟨17, ⟨[], _, [_], rfl, fun z hz => ?_, by decide, by decide, k_L_35, by decide, rfl⟩, fun q => ?_⟩
      · exact absurd hz List.not_mem_nil
      · refine e_astore (ls' := (6, .ref q) :: [(0, .ref (zad g 0)), (1, .int x1), (2, .int x2), (3, .int x3), (4, .int x4), (5, .ref (zad g 41))]) dL_why_17 (by decide) rfl ?_
        refine e_iconst (v := 1) dL_why_19 rfl ?_
        exact e_iret rfl dL_why_20 h
    · refine ⟨21, ⟨[_], _, [], rfl, fun z hz => ?_, by decide, by decide, k_L_19, by decide, rfl⟩, fun q => ?_⟩
      · simp only [List.mem_cons, List.not_mem_nil, or_false] at hz
        rcases hz with rfl
        · exact Or.inr ⟨by decide, _, k_L_35, by decide⟩
      · refine e_astore (ls' := (6, .ref q) :: [(0, .ref (zad g 0)), (1, .int x1), (2, .int x2), (3, .int x3), (4, .int x4), (5, .ref (zad g 41))]) dL_why_21 (by decide) rfl ?_
        refine e_iconst (v := 2) dL_why_23 rfl ?_
        exact e_iret rfl dL_why_24 h
abbrev M_L_right : zM := (yL_right, cL_right, 5, (some FieldType.int), 9, [(0, 10, 13, 19)])
theorem i_L_right : zInW M_L_right 4 := ⟨zT_in 1123 (by decide +kernel) (by decide +kernel), zT_in 121 (by decide +kernel) (by decide +kernel), ⟨by decide, by decide⟩, by decide +kernel, by decide⟩
theorem b_L_right {x1 x2 : Int32} (H : CT g l M_X6_right 1 [.ref (zad g 0), .int x1, .int x2] σ (zQi (fun v τ => K 0 (zupJ τ 1 v.toInt64)) (fun E τ => (E = xA ∧ K 1 τ)))) : CTW g l M_L_right 1 [.ref (zad g 0), .int x1, .int x2, .ref (zad g 41)] σ (zQi K (fun _ _ => False)) := by
  refine CTW_of rfl (Nat.le_of_ble_eq_true rfl) ?_
  change EV _ _ _ _ _ 0 [(0, .ref (zad g 0)), (1, .int x1), (2, .int x2), (3, .ref (zad g 41))] [] _
  refine e_aload_n dL_right_0 rfl 3 rfl ?_
  refine e_iconst (v := 0) dL_right_1 rfl ?_
  refine e_aload_n dL_right_2 rfl 0 rfl ?_
  refine e_iload_n dL_right_3 rfl 1 rfl ?_
  refine e_iload_n dL_right_4 rfl 2 rfl ?_
  refine e_callVH (N := M_X6_right) (n := 2) (j1 := 1) (j2 := 0) (av := [.int x1, .int x2]) rfl rfl (Nat.le_of_ble_eq_true rfl) rfl rfl H i_X6_right rfl n_X6_right v_X6_right q_L_55 (by decide) (by decide) (Nat.le_of_ble_eq_true rfl) dL_right_5 (fun v τ h => ?_) (fun E τ h => ?_)
  · match v, h with
    | some (.int y), h =>
      refine e_i2l dL_right_8 rfl ?_
      refine e_last dL_right_9 ?_
      refine e_goto dL_right_10 (tgt := 17) rfl ?_
      refine e_iconst (v := 0) dL_right_17 rfl ?_
      exact e_iret rfl dL_right_18 h
  · rcases h with ⟨rfl, h⟩
    · refine ⟨13, ⟨[], _, [], rfl, fun z hz => ?_, by decide, by decide, k_L_19, by decide, rfl⟩, fun q => ?_⟩
      · exact absurd hz List.not_mem_nil
      · refine e_astore (ls' := (4, .ref q) :: [(0, .ref (zad g 0)), (1, .int x1), (2, .int x2), (3, .ref (zad g 41))]) dL_right_13 (by decide) rfl ?_
        refine e_iconst (v := 1) dL_right_15 rfl ?_
        exact e_iret rfl dL_right_16 h
abbrev M_L_open : zM := (yL_open, cL_open, 4, (some FieldType.int), 9, [(0, 9, 12, 19)])
theorem i_L_open : zInW M_L_open 3 := ⟨zT_in 1130 (by decide +kernel) (by decide +kernel), zT_in 121 (by decide +kernel) (by decide +kernel), ⟨by decide, by decide⟩, by decide +kernel, by decide⟩
theorem b_L_open {x1 : Int32} (H : CT g l M_X6_open 1 [.ref (zad g 0), .int x1] σ (zQi (fun v τ => K 0 (zupJ τ 1 v.toInt64)) (fun E τ => (E = xA ∧ K 1 τ)))) : CTW g l M_L_open 1 [.ref (zad g 0), .int x1, .ref (zad g 41)] σ (zQi K (fun _ _ => False)) := by
  refine CTW_of rfl (Nat.le_of_ble_eq_true rfl) ?_
  change EV _ _ _ _ _ 0 [(0, .ref (zad g 0)), (1, .int x1), (2, .ref (zad g 41))] [] _
  refine e_aload_n dL_open_0 rfl 2 rfl ?_
  refine e_iconst (v := 0) dL_open_1 rfl ?_
  refine e_aload_n dL_open_2 rfl 0 rfl ?_
  refine e_iload_n dL_open_3 rfl 1 rfl ?_
  refine e_callVH (N := M_X6_open) (n := 1) (j1 := 1) (j2 := 0) (av := [.int x1]) rfl rfl (Nat.le_of_ble_eq_true rfl) rfl rfl H i_X6_open rfl n_X6_open v_X6_open q_L_59 (by decide) (by decide) (Nat.le_of_ble_eq_true rfl) dL_open_4 (fun v τ h => ?_) (fun E τ h => ?_)
  · match v, h with
    | some (.int y), h =>
      refine e_i2l dL_open_7 rfl ?_
      refine e_last dL_open_8 ?_
      refine e_goto dL_open_9 (tgt := 15) rfl ?_
      refine e_iconst (v := 0) dL_open_15 rfl ?_
      exact e_iret rfl dL_open_16 h
  · rcases h with ⟨rfl, h⟩
    · refine ⟨12, ⟨[], _, [], rfl, fun z hz => ?_, by decide, by decide, k_L_19, by decide, rfl⟩, fun q => ?_⟩
      · exact absurd hz List.not_mem_nil
      · refine e_astore_n (ls' := (3, .ref q) :: [(0, .ref (zad g 0)), (1, .int x1), (2, .ref (zad g 41))]) dL_open_12 rfl (by decide) rfl ?_
        refine e_iconst (v := 1) dL_open_13 rfl ?_
        exact e_iret rfl dL_open_14 h
abbrev M_L_covered : zM := (yL_covered, cL_covered, 4, (some FieldType.int), 9, [(0, 9, 12, 19)])
theorem i_L_covered : zInW M_L_covered 3 := ⟨zT_in 1137 (by decide +kernel) (by decide +kernel), zT_in 121 (by decide +kernel) (by decide +kernel), ⟨by decide, by decide⟩, by decide +kernel, by decide⟩
theorem b_L_covered {x1 : Int32} (H : CT g l M_X6_covered 1 [.ref (zad g 0), .int x1] σ (zQi (fun v τ => K 0 (zupJ τ 1 v.toInt64)) (fun E τ => (E = xA ∧ K 1 τ)))) : CTW g l M_L_covered 1 [.ref (zad g 0), .int x1, .ref (zad g 41)] σ (zQi K (fun _ _ => False)) := by
  refine CTW_of rfl (Nat.le_of_ble_eq_true rfl) ?_
  change EV _ _ _ _ _ 0 [(0, .ref (zad g 0)), (1, .int x1), (2, .ref (zad g 41))] [] _
  refine e_aload_n dL_covered_0 rfl 2 rfl ?_
  refine e_iconst (v := 0) dL_covered_1 rfl ?_
  refine e_aload_n dL_covered_2 rfl 0 rfl ?_
  refine e_iload_n dL_covered_3 rfl 1 rfl ?_
  refine e_callVH (N := M_X6_covered) (n := 1) (j1 := 1) (j2 := 0) (av := [.int x1]) rfl rfl (Nat.le_of_ble_eq_true rfl) rfl rfl H i_X6_covered rfl n_X6_covered v_X6_covered q_L_62 (by decide) (by decide) (Nat.le_of_ble_eq_true rfl) dL_covered_4 (fun v τ h => ?_) (fun E τ h => ?_)
  · match v, h with
    | some (.int y), h =>
      refine e_i2l dL_covered_7 rfl ?_
      refine e_last dL_covered_8 ?_
      refine e_goto dL_covered_9 (tgt := 15) rfl ?_
      refine e_iconst (v := 0) dL_covered_15 rfl ?_
      exact e_iret rfl dL_covered_16 h
  · rcases h with ⟨rfl, h⟩
    · refine ⟨12, ⟨[], _, [], rfl, fun z hz => ?_, by decide, by decide, k_L_19, by decide, rfl⟩, fun q => ?_⟩
      · exact absurd hz List.not_mem_nil
      · refine e_astore_n (ls' := (3, .ref q) :: [(0, .ref (zad g 0)), (1, .int x1), (2, .ref (zad g 41))]) dL_covered_12 rfl (by decide) rfl ?_
        refine e_iconst (v := 1) dL_covered_13 rfl ?_
        exact e_iret rfl dL_covered_14 h
abbrev M_L_whole : zM := (yL_whole, cL_whole, 4, (some FieldType.int), 9, [(0, 9, 12, 19)])
theorem i_L_whole : zInW M_L_whole 3 := ⟨zT_in 1144 (by decide +kernel) (by decide +kernel), zT_in 121 (by decide +kernel) (by decide +kernel), ⟨by decide, by decide⟩, by decide +kernel, by decide⟩
theorem b_L_whole {x1 : Int32} (H : CT g l M_X6_whole 1 [.ref (zad g 0), .int x1] σ (zQi (fun v τ => K 0 (zupJ τ 1 v.toInt64)) (fun E τ => (E = xA ∧ K 1 τ)))) : CTW g l M_L_whole 1 [.ref (zad g 0), .int x1, .ref (zad g 41)] σ (zQi K (fun _ _ => False)) := by
  refine CTW_of rfl (Nat.le_of_ble_eq_true rfl) ?_
  change EV _ _ _ _ _ 0 [(0, .ref (zad g 0)), (1, .int x1), (2, .ref (zad g 41))] [] _
  refine e_aload_n dL_whole_0 rfl 2 rfl ?_
  refine e_iconst (v := 0) dL_whole_1 rfl ?_
  refine e_aload_n dL_whole_2 rfl 0 rfl ?_
  refine e_iload_n dL_whole_3 rfl 1 rfl ?_
  refine e_callVH (N := M_X6_whole) (n := 1) (j1 := 1) (j2 := 0) (av := [.int x1]) rfl rfl (Nat.le_of_ble_eq_true rfl) rfl rfl H i_X6_whole rfl n_X6_whole v_X6_whole q_L_65 (by decide) (by decide) (Nat.le_of_ble_eq_true rfl) dL_whole_4 (fun v τ h => ?_) (fun E τ h => ?_)
  · match v, h with
    | some (.int y), h =>
      refine e_i2l dL_whole_7 rfl ?_
      refine e_last dL_whole_8 ?_
      refine e_goto dL_whole_9 (tgt := 15) rfl ?_
      refine e_iconst (v := 0) dL_whole_15 rfl ?_
      exact e_iret rfl dL_whole_16 h
  · rcases h with ⟨rfl, h⟩
    · refine ⟨12, ⟨[], _, [], rfl, fun z hz => ?_, by decide, by decide, k_L_19, by decide, rfl⟩, fun q => ?_⟩
      · exact absurd hz List.not_mem_nil
      · refine e_astore_n (ls' := (3, .ref q) :: [(0, .ref (zad g 0)), (1, .int x1), (2, .ref (zad g 41))]) dL_whole_12 rfl (by decide) rfl ?_
        refine e_iconst (v := 1) dL_whole_13 rfl ?_
        exact e_iret rfl dL_whole_14 h
abbrev M_L_firstWrong : zM := (yL_firstWrong, cL_firstWrong, 5, (some FieldType.int), 9, [(0, 10, 13, 19)])
theorem i_L_firstWrong : zInW M_L_firstWrong 4 := ⟨zT_in 1151 (by decide +kernel) (by decide +kernel), zT_in 121 (by decide +kernel) (by decide +kernel), ⟨by decide, by decide⟩, by decide +kernel, by decide⟩
theorem b_L_firstWrong {x1 x2 : Int32} (H : CT g l M_X6_firstWrong 1 [.ref (zad g 0), .int x1, .int x2] σ (zQi (fun v τ => K 0 (zupJ τ 1 v.toInt64)) (fun E τ => (E = xA ∧ K 1 τ)))) : CTW g l M_L_firstWrong 1 [.ref (zad g 0), .int x1, .int x2, .ref (zad g 41)] σ (zQi K (fun _ _ => False)) := by
  refine CTW_of rfl (Nat.le_of_ble_eq_true rfl) ?_
  change EV _ _ _ _ _ 0 [(0, .ref (zad g 0)), (1, .int x1), (2, .int x2), (3, .ref (zad g 41))] [] _
  refine e_aload_n dL_firstWrong_0 rfl 3 rfl ?_
  refine e_iconst (v := 0) dL_firstWrong_1 rfl ?_
  refine e_aload_n dL_firstWrong_2 rfl 0 rfl ?_
  refine e_iload_n dL_firstWrong_3 rfl 1 rfl ?_
  refine e_iload_n dL_firstWrong_4 rfl 2 rfl ?_
  refine e_callVH (N := M_X6_firstWrong) (n := 2) (j1 := 1) (j2 := 0) (av := [.int x1, .int x2]) rfl rfl (Nat.le_of_ble_eq_true rfl) rfl rfl H i_X6_firstWrong rfl n_X6_firstWrong v_X6_firstWrong q_L_68 (by decide) (by decide) (Nat.le_of_ble_eq_true rfl) dL_firstWrong_5 (fun v τ h => ?_) (fun E τ h => ?_)
  · match v, h with
    | some (.int y), h =>
      refine e_i2l dL_firstWrong_8 rfl ?_
      refine e_last dL_firstWrong_9 ?_
      refine e_goto dL_firstWrong_10 (tgt := 17) rfl ?_
      refine e_iconst (v := 0) dL_firstWrong_17 rfl ?_
      exact e_iret rfl dL_firstWrong_18 h
  · rcases h with ⟨rfl, h⟩
    · refine ⟨13, ⟨[], _, [], rfl, fun z hz => ?_, by decide, by decide, k_L_19, by decide, rfl⟩, fun q => ?_⟩
      · exact absurd hz List.not_mem_nil
      · refine e_astore (ls' := (4, .ref q) :: [(0, .ref (zad g 0)), (1, .int x1), (2, .int x2), (3, .ref (zad g 41))]) dL_firstWrong_13 (by decide) rfl ?_
        refine e_iconst (v := 1) dL_firstWrong_15 rfl ?_
        exact e_iret rfl dL_firstWrong_16 h
abbrev M_L_shownFrom : zM := (yL_shownFrom, cL_shownFrom, 4, (some FieldType.int), 9, [(0, 9, 12, 35)])
theorem i_L_shownFrom : zInW M_L_shownFrom 3 := ⟨zT_in 1162 (by decide +kernel) (by decide +kernel), zT_in 121 (by decide +kernel) (by decide +kernel), ⟨by decide, by decide⟩, by decide +kernel, by decide⟩
theorem b_L_shownFrom {x1 : Int32} (H : CT g l M_X6_shownFrom 1 [.ref (zad g 0), .int x1] σ (zQi (fun v τ => K 0 (zupJ τ 1 v.toInt64)) (fun E τ => (E = xI ∧ K 1 τ)))) : CTW g l M_L_shownFrom 1 [.ref (zad g 0), .int x1, .ref (zad g 41)] σ (zQi K (fun _ _ => False)) := by
  refine CTW_of rfl (Nat.le_of_ble_eq_true rfl) ?_
  change EV _ _ _ _ _ 0 [(0, .ref (zad g 0)), (1, .int x1), (2, .ref (zad g 41))] [] _
  refine e_aload_n dL_shownFrom_0 rfl 2 rfl ?_
  refine e_iconst (v := 0) dL_shownFrom_1 rfl ?_
  refine e_aload_n dL_shownFrom_2 rfl 0 rfl ?_
  refine e_iload_n dL_shownFrom_3 rfl 1 rfl ?_
  refine e_callVH (N := M_X6_shownFrom) (n := 1) (j1 := 1) (j2 := 0) (av := [.int x1]) rfl rfl (Nat.le_of_ble_eq_true rfl) rfl rfl H i_X6_shownFrom rfl n_X6_shownFrom v_X6_shownFrom q_L_71 (by decide) (by decide) (Nat.le_of_ble_eq_true rfl) dL_shownFrom_4 (fun v τ h => ?_) (fun E τ h => ?_)
  · match v, h with
    | some (.int y), h =>
      refine e_i2l dL_shownFrom_7 rfl ?_
      refine e_last dL_shownFrom_8 ?_
      refine e_goto dL_shownFrom_9 (tgt := 15) rfl ?_
      refine e_iconst (v := 0) dL_shownFrom_15 rfl ?_
      exact e_iret rfl dL_shownFrom_16 h
  · rcases h with ⟨rfl, h⟩
    · refine ⟨12, ⟨[], _, [], rfl, fun z hz => ?_, by decide, by decide, k_L_35, by decide, rfl⟩, fun q => ?_⟩
      · exact absurd hz List.not_mem_nil
      · refine e_astore_n (ls' := (3, .ref q) :: [(0, .ref (zad g 0)), (1, .int x1), (2, .ref (zad g 41))]) dL_shownFrom_12 rfl (by decide) rfl ?_
        refine e_iconst (v := 1) dL_shownFrom_13 rfl ?_
        exact e_iret rfl dL_shownFrom_14 h
abbrev M_L_seam : zM := (yL_seam, cL_seam, 4, (some FieldType.int), 9, [(0, 9, 12, 35)])
theorem i_L_seam : zInW M_L_seam 3 := ⟨zT_in 1170 (by decide +kernel) (by decide +kernel), zT_in 121 (by decide +kernel) (by decide +kernel), ⟨by decide, by decide⟩, by decide +kernel, by decide⟩
theorem b_L_seam {x1 : Int32} (H : CT g l M_X6_seam 1 [.ref (zad g 0), .int x1] σ (zQi (fun v τ => K 0 (zupJ τ 1 v.toInt64)) (fun E τ => (E = xI ∧ K 1 τ)))) : CTW g l M_L_seam 1 [.ref (zad g 0), .int x1, .ref (zad g 41)] σ (zQi K (fun _ _ => False)) := by
  refine CTW_of rfl (Nat.le_of_ble_eq_true rfl) ?_
  change EV _ _ _ _ _ 0 [(0, .ref (zad g 0)), (1, .int x1), (2, .ref (zad g 41))] [] _
  refine e_aload_n dL_seam_0 rfl 2 rfl ?_
  refine e_iconst (v := 0) dL_seam_1 rfl ?_
  refine e_aload_n dL_seam_2 rfl 0 rfl ?_
  refine e_iload_n dL_seam_3 rfl 1 rfl ?_
  refine e_callVH (N := M_X6_seam) (n := 1) (j1 := 1) (j2 := 0) (av := [.int x1]) rfl rfl (Nat.le_of_ble_eq_true rfl) rfl rfl H i_X6_seam rfl n_X6_seam v_X6_seam q_L_74 (by decide) (by decide) (Nat.le_of_ble_eq_true rfl) dL_seam_4 (fun v τ h => ?_) (fun E τ h => ?_)
  · match v, h with
    | some (.int y), h =>
      refine e_i2l dL_seam_7 rfl ?_
      refine e_last dL_seam_8 ?_
      refine e_goto dL_seam_9 (tgt := 15) rfl ?_
      refine e_iconst (v := 0) dL_seam_15 rfl ?_
      exact e_iret rfl dL_seam_16 h
  · rcases h with ⟨rfl, h⟩
    · refine ⟨12, ⟨[], _, [], rfl, fun z hz => ?_, by decide, by decide, k_L_35, by decide, rfl⟩, fun q => ?_⟩
      · exact absurd hz List.not_mem_nil
      · refine e_astore_n (ls' := (3, .ref q) :: [(0, .ref (zad g 0)), (1, .int x1), (2, .ref (zad g 41))]) dL_seam_12 rfl (by decide) rfl ?_
        refine e_iconst (v := 1) dL_seam_13 rfl ?_
        exact e_iret rfl dL_seam_14 h
abbrev M_L_run : zM := (yL_run, cL_run, 4, (some FieldType.int), 9, [(0, 9, 12, 19)])
theorem i_L_run : zInW M_L_run 3 := ⟨zT_in 1178 (by decide +kernel) (by decide +kernel), zT_in 121 (by decide +kernel) (by decide +kernel), ⟨by decide, by decide⟩, by decide +kernel, by decide⟩
theorem b_L_run {x1 : Int32} (H : CT g l M_X6_run 1 [.ref (zad g 0), .int x1] σ (zQi (fun v τ => K 0 (zupJ τ 1 v.toInt64)) (fun E τ => (E = xA ∧ K 1 τ)))) : CTW g l M_L_run 1 [.ref (zad g 0), .int x1, .ref (zad g 41)] σ (zQi K (fun _ _ => False)) := by
  refine CTW_of rfl (Nat.le_of_ble_eq_true rfl) ?_
  change EV _ _ _ _ _ 0 [(0, .ref (zad g 0)), (1, .int x1), (2, .ref (zad g 41))] [] _
  refine e_aload_n dL_run_0 rfl 2 rfl ?_
  refine e_iconst (v := 0) dL_run_1 rfl ?_
  refine e_aload_n dL_run_2 rfl 0 rfl ?_
  refine e_iload_n dL_run_3 rfl 1 rfl ?_
  refine e_callVH (N := M_X6_run) (n := 1) (j1 := 1) (j2 := 0) (av := [.int x1]) rfl rfl (Nat.le_of_ble_eq_true rfl) rfl rfl H i_X6_run rfl n_X6_run v_X6_run q_L_77 (by decide) (by decide) (Nat.le_of_ble_eq_true rfl) dL_run_4 (fun v τ h => ?_) (fun E τ h => ?_)
  · match v, h with
    | some (.int y), h =>
      refine e_i2l dL_run_7 rfl ?_
      refine e_last dL_run_8 ?_
      refine e_goto dL_run_9 (tgt := 15) rfl ?_
      refine e_iconst (v := 0) dL_run_15 rfl ?_
      exact e_iret rfl dL_run_16 h
  · rcases h with ⟨rfl, h⟩
    · refine ⟨12, ⟨[], _, [], rfl, fun z hz => ?_, by decide, by decide, k_L_19, by decide, rfl⟩, fun q => ?_⟩
      · exact absurd hz List.not_mem_nil
      · refine e_astore_n (ls' := (3, .ref q) :: [(0, .ref (zad g 0)), (1, .int x1), (2, .ref (zad g 41))]) dL_run_12 rfl (by decide) rfl ?_
        refine e_iconst (v := 1) dL_run_13 rfl ?_
        exact e_iret rfl dL_run_14 h
abbrev M_L_worstSlat : zM := (yL_worstSlat, cL_worstSlat, 5, (some FieldType.int), 9, [(0, 10, 13, 19)])
theorem i_L_worstSlat : zInW M_L_worstSlat 4 := ⟨zT_in 1189 (by decide +kernel) (by decide +kernel), zT_in 121 (by decide +kernel) (by decide +kernel), ⟨by decide, by decide⟩, by decide +kernel, by decide⟩
theorem b_L_worstSlat {x1 x2 : Int32} (H : CT g l M_X6_worstSlat 1 [.ref (zad g 0), .int x1, .int x2] σ (zQi (fun v τ => K 0 (zupJ τ 1 v.toInt64)) (fun E τ => (E = xA ∧ K 1 τ)))) : CTW g l M_L_worstSlat 1 [.ref (zad g 0), .int x1, .int x2, .ref (zad g 41)] σ (zQi K (fun _ _ => False)) := by
  refine CTW_of rfl (Nat.le_of_ble_eq_true rfl) ?_
  change EV _ _ _ _ _ 0 [(0, .ref (zad g 0)), (1, .int x1), (2, .int x2), (3, .ref (zad g 41))] [] _
  refine e_aload_n dL_worstSlat_0 rfl 3 rfl ?_
  refine e_iconst (v := 0) dL_worstSlat_1 rfl ?_
  refine e_aload_n dL_worstSlat_2 rfl 0 rfl ?_
  refine e_iload_n dL_worstSlat_3 rfl 1 rfl ?_
  refine e_iload_n dL_worstSlat_4 rfl 2 rfl ?_
  refine e_callVH (N := M_X6_worstSlat) (n := 2) (j1 := 1) (j2 := 0) (av := [.int x1, .int x2]) rfl rfl (Nat.le_of_ble_eq_true rfl) rfl rfl H i_X6_worstSlat rfl n_X6_worstSlat v_X6_worstSlat q_L_80 (by decide) (by decide) (Nat.le_of_ble_eq_true rfl) dL_worstSlat_5 (fun v τ h => ?_) (fun E τ h => ?_)
  · match v, h with
    | some (.int y), h =>
      refine e_i2l dL_worstSlat_8 rfl ?_
      refine e_last dL_worstSlat_9 ?_
      refine e_goto dL_worstSlat_10 (tgt := 17) rfl ?_
      refine e_iconst (v := 0) dL_worstSlat_17 rfl ?_
      exact e_iret rfl dL_worstSlat_18 h
  · rcases h with ⟨rfl, h⟩
    · refine ⟨13, ⟨[], _, [], rfl, fun z hz => ?_, by decide, by decide, k_L_19, by decide, rfl⟩, fun q => ?_⟩
      · exact absurd hz List.not_mem_nil
      · refine e_astore (ls' := (4, .ref q) :: [(0, .ref (zad g 0)), (1, .int x1), (2, .int x2), (3, .ref (zad g 41))]) dL_worstSlat_13 (by decide) rfl ?_
        refine e_iconst (v := 1) dL_worstSlat_15 rfl ?_
        exact e_iret rfl dL_worstSlat_16 h
abbrev M_L_ghosts : zM := (yL_ghosts, cL_ghosts, 5, (some FieldType.int), 9, [(0, 10, 13, 19)])
theorem i_L_ghosts : zInW M_L_ghosts 4 := ⟨zT_in 1200 (by decide +kernel) (by decide +kernel), zT_in 121 (by decide +kernel) (by decide +kernel), ⟨by decide, by decide⟩, by decide +kernel, by decide⟩
theorem b_L_ghosts {x1 x2 : Int32} (H : CT g l M_X6_ghosts 1 [.ref (zad g 0), .int x1, .int x2] σ (zQi (fun v τ => K 0 (zupJ τ 1 v.toInt64)) (fun E τ => (E = xA ∧ K 1 τ)))) : CTW g l M_L_ghosts 1 [.ref (zad g 0), .int x1, .int x2, .ref (zad g 41)] σ (zQi K (fun _ _ => False)) := by
  refine CTW_of rfl (Nat.le_of_ble_eq_true rfl) ?_
  change EV _ _ _ _ _ 0 [(0, .ref (zad g 0)), (1, .int x1), (2, .int x2), (3, .ref (zad g 41))] [] _
  refine e_aload_n dL_ghosts_0 rfl 3 rfl ?_
  refine e_iconst (v := 0) dL_ghosts_1 rfl ?_
  refine e_aload_n dL_ghosts_2 rfl 0 rfl ?_
  refine e_iload_n dL_ghosts_3 rfl 1 rfl ?_
  refine e_iload_n dL_ghosts_4 rfl 2 rfl ?_
  refine e_callVH (N := M_X6_ghosts) (n := 2) (j1 := 1) (j2 := 0) (av := [.int x1, .int x2]) rfl rfl (Nat.le_of_ble_eq_true rfl) rfl rfl H i_X6_ghosts rfl n_X6_ghosts v_X6_ghosts q_L_83 (by decide) (by decide) (Nat.le_of_ble_eq_true rfl) dL_ghosts_5 (fun v τ h => ?_) (fun E τ h => ?_)
  · match v, h with
    | some (.int y), h =>
      refine e_i2l dL_ghosts_8 rfl ?_
      refine e_last dL_ghosts_9 ?_
      refine e_goto dL_ghosts_10 (tgt := 17) rfl ?_
      refine e_iconst (v := 0) dL_ghosts_17 rfl ?_
      exact e_iret rfl dL_ghosts_18 h
  · rcases h with ⟨rfl, h⟩
    · refine ⟨13, ⟨[], _, [], rfl, fun z hz => ?_, by decide, by decide, k_L_19, by decide, rfl⟩, fun q => ?_⟩
      · exact absurd hz List.not_mem_nil
      · refine e_astore (ls' := (4, .ref q) :: [(0, .ref (zad g 0)), (1, .int x1), (2, .int x2), (3, .ref (zad g 41))]) dL_ghosts_13 (by decide) rfl ?_
        refine e_iconst (v := 1) dL_ghosts_15 rfl ?_
        exact e_iret rfl dL_ghosts_16 h
abbrev M_L_bestTurn : zM := (yL_bestTurn, cL_bestTurn, 6, (some FieldType.int), 9, [(0, 12, 15, 35), (0, 12, 19, 19)])
theorem i_L_bestTurn : zInW M_L_bestTurn 5 := ⟨zT_in 1220 (by decide +kernel) (by decide +kernel), zT_in 121 (by decide +kernel) (by decide +kernel), ⟨by decide, by decide⟩, by decide +kernel, by decide⟩
theorem b_L_bestTurn {x1 x2 x3 : Int32} (H : CT g l M_X6_bestTurn 1 [.ref (zad g 0), .int x1, .int x2, .int x3] σ (zQi (fun v τ => K 0 (zupJ τ 1 v.toInt64)) (fun E τ => (E = xI ∧ K 1 τ) ∨ (E = xA ∧ K 2 τ)))) : CTW g l M_L_bestTurn 1 [.ref (zad g 0), .int x1, .int x2, .int x3, .ref (zad g 41)] σ (zQi K (fun _ _ => False)) := by
  refine CTW_of rfl (Nat.le_of_ble_eq_true rfl) ?_
  change EV _ _ _ _ _ 0 [(0, .ref (zad g 0)), (1, .int x1), (2, .int x2), (3, .int x3), (4, .ref (zad g 41))] [] _
  refine e_aload dL_bestTurn_0 4 rfl ?_
  refine e_iconst (v := 0) dL_bestTurn_2 rfl ?_
  refine e_aload_n dL_bestTurn_3 rfl 0 rfl ?_
  refine e_iload_n dL_bestTurn_4 rfl 1 rfl ?_
  refine e_iload_n dL_bestTurn_5 rfl 2 rfl ?_
  refine e_iload_n dL_bestTurn_6 rfl 3 rfl ?_
  refine e_callVH (N := M_X6_bestTurn) (n := 3) (j1 := 1) (j2 := 0) (av := [.int x1, .int x2, .int x3]) rfl rfl (Nat.le_of_ble_eq_true rfl) rfl rfl H i_X6_bestTurn rfl n_X6_bestTurn v_X6_bestTurn q_L_90 (by decide) (by decide) (Nat.le_of_ble_eq_true rfl) dL_bestTurn_7 (fun v τ h => ?_) (fun E τ h => ?_)
  · match v, h with
    | some (.int y), h =>
      refine e_i2l dL_bestTurn_10 rfl ?_
      refine e_last dL_bestTurn_11 ?_
      refine e_goto dL_bestTurn_12 (tgt := 23) rfl ?_
      refine e_iconst (v := 0) dL_bestTurn_23 rfl ?_
      exact e_iret rfl dL_bestTurn_24 h
  · rcases h with ⟨rfl, h⟩ | ⟨rfl, h⟩
    · refine ⟨15, ⟨[], _, [_], rfl, fun z hz => ?_, by decide, by decide, k_L_35, by decide, rfl⟩, fun q => ?_⟩
      · exact absurd hz List.not_mem_nil
      · refine e_astore (ls' := (5, .ref q) :: [(0, .ref (zad g 0)), (1, .int x1), (2, .int x2), (3, .int x3), (4, .ref (zad g 41))]) dL_bestTurn_15 (by decide) rfl ?_
        refine e_iconst (v := 1) dL_bestTurn_17 rfl ?_
        exact e_iret rfl dL_bestTurn_18 h
    · refine ⟨19, ⟨[_], _, [], rfl, fun z hz => ?_, by decide, by decide, k_L_19, by decide, rfl⟩, fun q => ?_⟩
      · simp only [List.mem_cons, List.not_mem_nil, or_false] at hz
        rcases hz with rfl
        · exact Or.inr ⟨by decide, _, k_L_35, by decide⟩
      · refine e_astore (ls' := (5, .ref q) :: [(0, .ref (zad g 0)), (1, .int x1), (2, .int x2), (3, .int x3), (4, .ref (zad g 41))]) dL_bestTurn_19 (by decide) rfl ?_
        refine e_iconst (v := 2) dL_bestTurn_21 rfl ?_
        exact e_iret rfl dL_bestTurn_22 h
abbrev M_L_bestPull : zM := (yL_bestPull, cL_bestPull, 5, (some FieldType.int), 9, [(0, 10, 13, 19)])
theorem i_L_bestPull : zInW M_L_bestPull 4 := ⟨zT_in 1232 (by decide +kernel) (by decide +kernel), zT_in 121 (by decide +kernel) (by decide +kernel), ⟨by decide, by decide⟩, by decide +kernel, by decide⟩
theorem b_L_bestPull {x1 x2 : Int32} (H : CT g l M_X6_bestPull 1 [.ref (zad g 0), .int x1, .int x2] σ (zQi (fun v τ => K 0 (zupJ τ 1 v.toInt64)) (fun E τ => (E = xA ∧ K 1 τ)))) : CTW g l M_L_bestPull 1 [.ref (zad g 0), .int x1, .int x2, .ref (zad g 41)] σ (zQi K (fun _ _ => False)) := by
  refine CTW_of rfl (Nat.le_of_ble_eq_true rfl) ?_
  change EV _ _ _ _ _ 0 [(0, .ref (zad g 0)), (1, .int x1), (2, .int x2), (3, .ref (zad g 41))] [] _
  refine e_aload_n dL_bestPull_0 rfl 3 rfl ?_
  refine e_iconst (v := 0) dL_bestPull_1 rfl ?_
  refine e_aload_n dL_bestPull_2 rfl 0 rfl ?_
  refine e_iload_n dL_bestPull_3 rfl 1 rfl ?_
  refine e_iload_n dL_bestPull_4 rfl 2 rfl ?_
  refine e_callVH (N := M_X6_bestPull) (n := 2) (j1 := 1) (j2 := 0) (av := [.int x1, .int x2]) rfl rfl (Nat.le_of_ble_eq_true rfl) rfl rfl H i_X6_bestPull rfl n_X6_bestPull v_X6_bestPull q_L_94 (by decide) (by decide) (Nat.le_of_ble_eq_true rfl) dL_bestPull_5 (fun v τ h => ?_) (fun E τ h => ?_)
  · match v, h with
    | some (.int y), h =>
      refine e_i2l dL_bestPull_8 rfl ?_
      refine e_last dL_bestPull_9 ?_
      refine e_goto dL_bestPull_10 (tgt := 17) rfl ?_
      refine e_iconst (v := 0) dL_bestPull_17 rfl ?_
      exact e_iret rfl dL_bestPull_18 h
  · rcases h with ⟨rfl, h⟩
    · refine ⟨13, ⟨[], _, [], rfl, fun z hz => ?_, by decide, by decide, k_L_19, by decide, rfl⟩, fun q => ?_⟩
      · exact absurd hz List.not_mem_nil
      · refine e_astore (ls' := (4, .ref q) :: [(0, .ref (zad g 0)), (1, .int x1), (2, .int x2), (3, .ref (zad g 41))]) dL_bestPull_13 (by decide) rfl ?_
        refine e_iconst (v := 1) dL_bestPull_15 rfl ?_
        exact e_iret rfl dL_bestPull_16 h
abbrev M_L_dabs : zM := (yL_dabs, cL_dabs, 5, (some FieldType.int), 9, [(0, 10, 13, 19)])
theorem i_L_dabs : zInW M_L_dabs 4 := ⟨zT_in 1244 (by decide +kernel) (by decide +kernel), zT_in 121 (by decide +kernel) (by decide +kernel), ⟨by decide, by decide⟩, by decide +kernel, by decide⟩
theorem b_L_dabs {x1 x2 : Int32} (H : CT g l M_X6_dabs 1 [.ref (zad g 0), .int x1, .int x2] σ (zQi (fun v τ => K 0 (zupJ τ 1 v.toInt64)) (fun E τ => (E = xA ∧ K 1 τ)))) : CTW g l M_L_dabs 1 [.ref (zad g 0), .int x1, .int x2, .ref (zad g 41)] σ (zQi K (fun _ _ => False)) := by
  refine CTW_of rfl (Nat.le_of_ble_eq_true rfl) ?_
  change EV _ _ _ _ _ 0 [(0, .ref (zad g 0)), (1, .int x1), (2, .int x2), (3, .ref (zad g 41))] [] _
  refine e_aload_n dL_dabs_0 rfl 3 rfl ?_
  refine e_iconst (v := 0) dL_dabs_1 rfl ?_
  refine e_aload_n dL_dabs_2 rfl 0 rfl ?_
  refine e_iload_n dL_dabs_3 rfl 1 rfl ?_
  refine e_iload_n dL_dabs_4 rfl 2 rfl ?_
  refine e_callVH (N := M_X6_dabs) (n := 2) (j1 := 1) (j2 := 0) (av := [.int x1, .int x2]) rfl rfl (Nat.le_of_ble_eq_true rfl) rfl rfl H i_X6_dabs rfl n_X6_dabs v_X6_dabs q_L_97 (by decide) (by decide) (Nat.le_of_ble_eq_true rfl) dL_dabs_5 (fun v τ h => ?_) (fun E τ h => ?_)
  · match v, h with
    | some (.int y), h =>
      refine e_i2l dL_dabs_8 rfl ?_
      refine e_last dL_dabs_9 ?_
      refine e_goto dL_dabs_10 (tgt := 17) rfl ?_
      refine e_iconst (v := 0) dL_dabs_17 rfl ?_
      exact e_iret rfl dL_dabs_18 h
  · rcases h with ⟨rfl, h⟩
    · refine ⟨13, ⟨[], _, [], rfl, fun z hz => ?_, by decide, by decide, k_L_19, by decide, rfl⟩, fun q => ?_⟩
      · exact absurd hz List.not_mem_nil
      · refine e_astore (ls' := (4, .ref q) :: [(0, .ref (zad g 0)), (1, .int x1), (2, .int x2), (3, .ref (zad g 41))]) dL_dabs_13 (by decide) rfl ?_
        refine e_iconst (v := 1) dL_dabs_15 rfl ?_
        exact e_iret rfl dL_dabs_16 h
abbrev M_L_turnsNeeded : zM := (yL_turnsNeeded, cL_turnsNeeded, 5, (some FieldType.int), 9, [(0, 10, 13, 19)])
theorem i_L_turnsNeeded : zInW M_L_turnsNeeded 4 := ⟨zT_in 1251 (by decide +kernel) (by decide +kernel), zT_in 121 (by decide +kernel) (by decide +kernel), ⟨by decide, by decide⟩, by decide +kernel, by decide⟩
theorem b_L_turnsNeeded {x1 x2 : Int32} (H : CT g l M_X6_turnsNeeded 1 [.ref (zad g 0), .int x1, .int x2] σ (zQi (fun v τ => K 0 (zupJ τ 1 v.toInt64)) (fun E τ => (E = xA ∧ K 1 τ)))) : CTW g l M_L_turnsNeeded 1 [.ref (zad g 0), .int x1, .int x2, .ref (zad g 41)] σ (zQi K (fun _ _ => False)) := by
  refine CTW_of rfl (Nat.le_of_ble_eq_true rfl) ?_
  change EV _ _ _ _ _ 0 [(0, .ref (zad g 0)), (1, .int x1), (2, .int x2), (3, .ref (zad g 41))] [] _
  refine e_aload_n dL_turnsNeeded_0 rfl 3 rfl ?_
  refine e_iconst (v := 0) dL_turnsNeeded_1 rfl ?_
  refine e_aload_n dL_turnsNeeded_2 rfl 0 rfl ?_
  refine e_iload_n dL_turnsNeeded_3 rfl 1 rfl ?_
  refine e_iload_n dL_turnsNeeded_4 rfl 2 rfl ?_
  refine e_callVH (N := M_X6_turnsNeeded) (n := 2) (j1 := 1) (j2 := 0) (av := [.int x1, .int x2]) rfl rfl (Nat.le_of_ble_eq_true rfl) rfl rfl H i_X6_turnsNeeded rfl n_X6_turnsNeeded v_X6_turnsNeeded q_L_100 (by decide) (by decide) (Nat.le_of_ble_eq_true rfl) dL_turnsNeeded_5 (fun v τ h => ?_) (fun E τ h => ?_)
  · match v, h with
    | some (.int y), h =>
      refine e_i2l dL_turnsNeeded_8 rfl ?_
      refine e_last dL_turnsNeeded_9 ?_
      refine e_goto dL_turnsNeeded_10 (tgt := 17) rfl ?_
      refine e_iconst (v := 0) dL_turnsNeeded_17 rfl ?_
      exact e_iret rfl dL_turnsNeeded_18 h
  · rcases h with ⟨rfl, h⟩
    · refine ⟨13, ⟨[], _, [], rfl, fun z hz => ?_, by decide, by decide, k_L_19, by decide, rfl⟩, fun q => ?_⟩
      · exact absurd hz List.not_mem_nil
      · refine e_astore (ls' := (4, .ref q) :: [(0, .ref (zad g 0)), (1, .int x1), (2, .int x2), (3, .ref (zad g 41))]) dL_turnsNeeded_13 (by decide) rfl ?_
        refine e_iconst (v := 1) dL_turnsNeeded_15 rfl ?_
        exact e_iret rfl dL_turnsNeeded_16 h
abbrev M_L_fairest : zM := (yL_fairest, cL_fairest, 4, (some FieldType.int), 9, [(0, 9, 12, 19)])
theorem i_L_fairest : zInW M_L_fairest 3 := ⟨zT_in 1263 (by decide +kernel) (by decide +kernel), zT_in 121 (by decide +kernel) (by decide +kernel), ⟨by decide, by decide⟩, by decide +kernel, by decide⟩
theorem b_L_fairest {x1 : Int32} (H : CT g l M_X6_fairest 1 [.ref (zad g 0), .int x1] σ (zQi (fun v τ => K 0 (zupJ τ 1 v.toInt64)) (fun E τ => (E = xA ∧ K 1 τ)))) : CTW g l M_L_fairest 1 [.ref (zad g 0), .int x1, .ref (zad g 41)] σ (zQi K (fun _ _ => False)) := by
  refine CTW_of rfl (Nat.le_of_ble_eq_true rfl) ?_
  change EV _ _ _ _ _ 0 [(0, .ref (zad g 0)), (1, .int x1), (2, .ref (zad g 41))] [] _
  refine e_aload_n dL_fairest_0 rfl 2 rfl ?_
  refine e_iconst (v := 0) dL_fairest_1 rfl ?_
  refine e_aload_n dL_fairest_2 rfl 0 rfl ?_
  refine e_iload_n dL_fairest_3 rfl 1 rfl ?_
  refine e_callVH (N := M_X6_fairest) (n := 1) (j1 := 1) (j2 := 0) (av := [.int x1]) rfl rfl (Nat.le_of_ble_eq_true rfl) rfl rfl H i_X6_fairest rfl n_X6_fairest v_X6_fairest q_L_103 (by decide) (by decide) (Nat.le_of_ble_eq_true rfl) dL_fairest_4 (fun v τ h => ?_) (fun E τ h => ?_)
  · match v, h with
    | some (.int y), h =>
      refine e_i2l dL_fairest_7 rfl ?_
      refine e_last dL_fairest_8 ?_
      refine e_goto dL_fairest_9 (tgt := 15) rfl ?_
      refine e_iconst (v := 0) dL_fairest_15 rfl ?_
      exact e_iret rfl dL_fairest_16 h
  · rcases h with ⟨rfl, h⟩
    · refine ⟨12, ⟨[], _, [], rfl, fun z hz => ?_, by decide, by decide, k_L_19, by decide, rfl⟩, fun q => ?_⟩
      · exact absurd hz List.not_mem_nil
      · refine e_astore_n (ls' := (3, .ref q) :: [(0, .ref (zad g 0)), (1, .int x1), (2, .ref (zad g 41))]) dL_fairest_12 rfl (by decide) rfl ?_
        refine e_iconst (v := 1) dL_fairest_13 rfl ?_
        exact e_iret rfl dL_fairest_14 h
abbrev M_L_turn : zM := (yL_turn, cL_turn, 5, (some FieldType.int), 9, [(0, 10, 13, 35), (0, 10, 17, 19), (0, 10, 21, 13)])
theorem i_L_turn : zInW M_L_turn 4 := ⟨zT_in 1277 (by decide +kernel) (by decide +kernel), zT_in 121 (by decide +kernel) (by decide +kernel), ⟨by decide, by decide⟩, by decide +kernel, by decide⟩
theorem b_L_turn {x1 x2 : Int32} (H : CT g l M_X6_turn 1 [.ref (zad g 0), .int x1, .int x2] σ (zQi (fun v τ => K 0 (zupJ τ 1 v.toInt64)) (fun E τ => (E = xI ∧ K 1 τ) ∨ (E = xA ∧ K 2 τ) ∨ (E = xS' ∧ K 3 τ)))) : CTW g l M_L_turn 1 [.ref (zad g 0), .int x1, .int x2, .ref (zad g 41)] σ (zQi K (fun _ _ => False)) := by
  refine CTW_of rfl (Nat.le_of_ble_eq_true rfl) ?_
  change EV _ _ _ _ _ 0 [(0, .ref (zad g 0)), (1, .int x1), (2, .int x2), (3, .ref (zad g 41))] [] _
  refine e_aload_n dL_turn_0 rfl 3 rfl ?_
  refine e_iconst (v := 0) dL_turn_1 rfl ?_
  refine e_aload_n dL_turn_2 rfl 0 rfl ?_
  refine e_iload_n dL_turn_3 rfl 1 rfl ?_
  refine e_iload_n dL_turn_4 rfl 2 rfl ?_
  refine e_callVH (N := M_X6_turn) (n := 2) (j1 := 1) (j2 := 0) (av := [.int x1, .int x2]) rfl rfl (Nat.le_of_ble_eq_true rfl) rfl rfl H i_X6_turn rfl n_X6_turn v_X6_turn q_L_109 (by decide) (by decide) (Nat.le_of_ble_eq_true rfl) dL_turn_5 (fun v τ h => ?_) (fun E τ h => ?_)
  · match v, h with
    | some (.int y), h =>
      refine e_i2l dL_turn_8 rfl ?_
      refine e_last dL_turn_9 ?_
      refine e_goto dL_turn_10 (tgt := 25) rfl ?_
      refine e_iconst (v := 0) dL_turn_25 rfl ?_
      exact e_iret rfl dL_turn_26 h
  · rcases h with ⟨rfl, h⟩ | ⟨rfl, h⟩ | ⟨rfl, h⟩
    · refine ⟨13, ⟨[], _, [_, _], rfl, fun z hz => ?_, by decide, by decide, k_L_35, by decide, rfl⟩, fun q => ?_⟩
      · exact absurd hz List.not_mem_nil
      · refine e_astore (ls' := (4, .ref q) :: [(0, .ref (zad g 0)), (1, .int x1), (2, .int x2), (3, .ref (zad g 41))]) dL_turn_13 (by decide) rfl ?_
        refine e_iconst (v := 1) dL_turn_15 rfl ?_
        exact e_iret rfl dL_turn_16 h
    · refine ⟨17, ⟨[_], _, [_], rfl, fun z hz => ?_, by decide, by decide, k_L_19, by decide, rfl⟩, fun q => ?_⟩
      · simp only [List.mem_cons, List.not_mem_nil, or_false] at hz
        rcases hz with rfl
        · exact Or.inr ⟨by decide, _, k_L_35, by decide⟩
      · refine e_astore (ls' := (4, .ref q) :: [(0, .ref (zad g 0)), (1, .int x1), (2, .int x2), (3, .ref (zad g 41))]) dL_turn_17 (by decide) rfl ?_
        refine e_iconst (v := 2) dL_turn_19 rfl ?_
        exact e_iret rfl dL_turn_20 h
    · refine ⟨21, ⟨[_, _], _, [], rfl, fun z hz => ?_, by decide, by decide, k_L_13, by decide, rfl⟩, fun q => ?_⟩
      · simp only [List.mem_cons, List.not_mem_nil, or_false] at hz
        rcases hz with rfl | rfl
        · exact Or.inr ⟨by decide, _, k_L_35, by decide⟩
        · exact Or.inr ⟨by decide, _, k_L_19, by decide⟩
      · refine e_astore (ls' := (4, .ref q) :: [(0, .ref (zad g 0)), (1, .int x1), (2, .int x2), (3, .ref (zad g 41))]) dL_turn_21 (by decide) rfl ?_
        refine e_iconst (v := 3) dL_turn_23 rfl ?_
        exact e_iret rfl dL_turn_24 h
abbrev M_L_paint : zM := (yL_paint, cL_paint, 5, (some FieldType.int), 9, [(0, 10, 13, 35), (0, 10, 17, 13)])
theorem i_L_paint : zInW M_L_paint 4 := ⟨zT_in 1291 (by decide +kernel) (by decide +kernel), zT_in 121 (by decide +kernel) (by decide +kernel), ⟨by decide, by decide⟩, by decide +kernel, by decide⟩
theorem b_L_paint {x1 x2 : Int32} (H : CT g l M_X6_paint 1 [.ref (zad g 0), .int x1, .int x2] σ (zQi (fun v τ => K 0 (zupJ τ 1 v.toInt64)) (fun E τ => (E = xI ∧ K 1 τ) ∨ (E = xS' ∧ K 2 τ)))) : CTW g l M_L_paint 1 [.ref (zad g 0), .int x1, .int x2, .ref (zad g 41)] σ (zQi K (fun _ _ => False)) := by
  refine CTW_of rfl (Nat.le_of_ble_eq_true rfl) ?_
  change EV _ _ _ _ _ 0 [(0, .ref (zad g 0)), (1, .int x1), (2, .int x2), (3, .ref (zad g 41))] [] _
  refine e_aload_n dL_paint_0 rfl 3 rfl ?_
  refine e_iconst (v := 0) dL_paint_1 rfl ?_
  refine e_aload_n dL_paint_2 rfl 0 rfl ?_
  refine e_iload_n dL_paint_3 rfl 1 rfl ?_
  refine e_iload_n dL_paint_4 rfl 2 rfl ?_
  refine e_callVH (N := M_X6_paint) (n := 2) (j1 := 1) (j2 := 0) (av := [.int x1, .int x2]) rfl rfl (Nat.le_of_ble_eq_true rfl) rfl rfl H i_X6_paint rfl n_X6_paint v_X6_paint q_L_116 (by decide) (by decide) (Nat.le_of_ble_eq_true rfl) dL_paint_5 (fun v τ h => ?_) (fun E τ h => ?_)
  · match v, h with
    | some (.int y), h =>
      refine e_i2l dL_paint_8 rfl ?_
      refine e_last dL_paint_9 ?_
      refine e_goto dL_paint_10 (tgt := 21) rfl ?_
      refine e_iconst (v := 0) dL_paint_21 rfl ?_
      exact e_iret rfl dL_paint_22 h
  · rcases h with ⟨rfl, h⟩ | ⟨rfl, h⟩
    · refine ⟨13, ⟨[], _, [_], rfl, fun z hz => ?_, by decide, by decide, k_L_35, by decide, rfl⟩, fun q => ?_⟩
      · exact absurd hz List.not_mem_nil
      · refine e_astore (ls' := (4, .ref q) :: [(0, .ref (zad g 0)), (1, .int x1), (2, .int x2), (3, .ref (zad g 41))]) dL_paint_13 (by decide) rfl ?_
        refine e_iconst (v := 1) dL_paint_15 rfl ?_
        exact e_iret rfl dL_paint_16 h
    · refine ⟨17, ⟨[_], _, [], rfl, fun z hz => ?_, by decide, by decide, k_L_13, by decide, rfl⟩, fun q => ?_⟩
      · simp only [List.mem_cons, List.not_mem_nil, or_false] at hz
        rcases hz with rfl
        · exact Or.inr ⟨by decide, _, k_L_35, by decide⟩
      · refine e_astore (ls' := (4, .ref q) :: [(0, .ref (zad g 0)), (1, .int x1), (2, .int x2), (3, .ref (zad g 41))]) dL_paint_17 (by decide) rfl ?_
        refine e_iconst (v := 2) dL_paint_19 rfl ?_
        exact e_iret rfl dL_paint_20 h
abbrev M_L_dab : zM := (yL_dab, cL_dab, 8, (some FieldType.int), 9, [(0, 16, 19, 35), (0, 16, 23, 19)])
theorem i_L_dab : zInW M_L_dab 7 := ⟨zT_in 1298 (by decide +kernel) (by decide +kernel), zT_in 121 (by decide +kernel) (by decide +kernel), ⟨by decide, by decide⟩, by decide +kernel, by decide⟩
theorem b_L_dab {x1 x2 x3 x4 x5 : Int32} (H : CT g l M_X6_dab 1 [.ref (zad g 0), .int x1, .int x2, .int x3, .int x4, .int x5] σ (zQi (fun v τ => K 0 (zupJ τ 1 v.toInt64)) (fun E τ => (E = xI ∧ K 1 τ) ∨ (E = xA ∧ K 2 τ)))) : CTW g l M_L_dab 1 [.ref (zad g 0), .int x1, .int x2, .int x3, .int x4, .int x5, .ref (zad g 41)] σ (zQi K (fun _ _ => False)) := by
  refine CTW_of rfl (Nat.le_of_ble_eq_true rfl) ?_
  change EV _ _ _ _ _ 0 [(0, .ref (zad g 0)), (1, .int x1), (2, .int x2), (3, .int x3), (4, .int x4), (5, .int x5), (6, .ref (zad g 41))] [] _
  refine e_aload dL_dab_0 6 rfl ?_
  refine e_iconst (v := 0) dL_dab_2 rfl ?_
  refine e_aload_n dL_dab_3 rfl 0 rfl ?_
  refine e_iload_n dL_dab_4 rfl 1 rfl ?_
  refine e_iload_n dL_dab_5 rfl 2 rfl ?_
  refine e_iload_n dL_dab_6 rfl 3 rfl ?_
  refine e_iload dL_dab_7 4 rfl ?_
  refine e_iload dL_dab_9 5 rfl ?_
  refine e_callVH (N := M_X6_dab) (n := 5) (j1 := 1) (j2 := 0) (av := [.int x1, .int x2, .int x3, .int x4, .int x5]) rfl rfl (Nat.le_of_ble_eq_true rfl) rfl rfl H i_X6_dab rfl n_X6_dab v_X6_dab q_L_119 (by decide) (by decide) (Nat.le_of_ble_eq_true rfl) dL_dab_11 (fun v τ h => ?_) (fun E τ h => ?_)
  · match v, h with
    | some (.int y), h =>
      refine e_i2l dL_dab_14 rfl ?_
      refine e_last dL_dab_15 ?_
      refine e_goto dL_dab_16 (tgt := 27) rfl ?_
      refine e_iconst (v := 0) dL_dab_27 rfl ?_
      exact e_iret rfl dL_dab_28 h
  · rcases h with ⟨rfl, h⟩ | ⟨rfl, h⟩
    · refine ⟨19, ⟨[], _, [_], rfl, fun z hz => ?_, by decide, by decide, k_L_35, by decide, rfl⟩, fun q => ?_⟩
      · exact absurd hz List.not_mem_nil
      · refine e_astore (ls' := (7, .ref q) :: [(0, .ref (zad g 0)), (1, .int x1), (2, .int x2), (3, .int x3), (4, .int x4), (5, .int x5), (6, .ref (zad g 41))]) dL_dab_19 (by decide) rfl ?_
        refine e_iconst (v := 1) dL_dab_21 rfl ?_
        exact e_iret rfl dL_dab_22 h
    · refine ⟨23, ⟨[_], _, [], rfl, fun z hz => ?_, by decide, by decide, k_L_19, by decide, rfl⟩, fun q => ?_⟩
      · simp only [List.mem_cons, List.not_mem_nil, or_false] at hz
        rcases hz with rfl
        · exact Or.inr ⟨by decide, _, k_L_35, by decide⟩
      · refine e_astore (ls' := (7, .ref q) :: [(0, .ref (zad g 0)), (1, .int x1), (2, .int x2), (3, .int x3), (4, .int x4), (5, .int x5), (6, .ref (zad g 41))]) dL_dab_23 (by decide) rfl ?_
        refine e_iconst (v := 2) dL_dab_25 rfl ?_
        exact e_iret rfl dL_dab_26 h
abbrev M_L_swap : zM := (yL_swap, cL_swap, 4, (some FieldType.int), 9, [(0, 9, 12, 35)])
theorem i_L_swap : zInW M_L_swap 3 := ⟨zT_in 1305 (by decide +kernel) (by decide +kernel), zT_in 121 (by decide +kernel) (by decide +kernel), ⟨by decide, by decide⟩, by decide +kernel, by decide⟩
theorem b_L_swap {x1 : Int32} (H : CT g l M_X6_swap 1 [.ref (zad g 0), .int x1] σ (zQi (fun v τ => K 0 (zupJ τ 1 v.toInt64)) (fun E τ => (E = xI ∧ K 1 τ)))) : CTW g l M_L_swap 1 [.ref (zad g 0), .int x1, .ref (zad g 41)] σ (zQi K (fun _ _ => False)) := by
  refine CTW_of rfl (Nat.le_of_ble_eq_true rfl) ?_
  change EV _ _ _ _ _ 0 [(0, .ref (zad g 0)), (1, .int x1), (2, .ref (zad g 41))] [] _
  refine e_aload_n dL_swap_0 rfl 2 rfl ?_
  refine e_iconst (v := 0) dL_swap_1 rfl ?_
  refine e_aload_n dL_swap_2 rfl 0 rfl ?_
  refine e_iload_n dL_swap_3 rfl 1 rfl ?_
  refine e_callVH (N := M_X6_swap) (n := 1) (j1 := 1) (j2 := 0) (av := [.int x1]) rfl rfl (Nat.le_of_ble_eq_true rfl) rfl rfl H i_X6_swap rfl n_X6_swap v_X6_swap q_L_123 (by decide) (by decide) (Nat.le_of_ble_eq_true rfl) dL_swap_4 (fun v τ h => ?_) (fun E τ h => ?_)
  · match v, h with
    | some (.int y), h =>
      refine e_i2l dL_swap_7 rfl ?_
      refine e_last dL_swap_8 ?_
      refine e_goto dL_swap_9 (tgt := 15) rfl ?_
      refine e_iconst (v := 0) dL_swap_15 rfl ?_
      exact e_iret rfl dL_swap_16 h
  · rcases h with ⟨rfl, h⟩
    · refine ⟨12, ⟨[], _, [], rfl, fun z hz => ?_, by decide, by decide, k_L_35, by decide, rfl⟩, fun q => ?_⟩
      · exact absurd hz List.not_mem_nil
      · refine e_astore_n (ls' := (3, .ref q) :: [(0, .ref (zad g 0)), (1, .int x1), (2, .ref (zad g 41))]) dL_swap_12 rfl (by decide) rfl ?_
        refine e_iconst (v := 1) dL_swap_13 rfl ?_
        exact e_iret rfl dL_swap_14 h
abbrev M_L_spot : zM := (yL_spot, cL_spot, 7, (some FieldType.int), 9, [(0, 14, 17, 35), (0, 14, 21, 19), (0, 14, 25, 13)])
theorem i_L_spot : zInW M_L_spot 6 := ⟨zT_in 1312 (by decide +kernel) (by decide +kernel), zT_in 121 (by decide +kernel) (by decide +kernel), ⟨by decide, by decide⟩, by decide +kernel, by decide⟩
theorem b_L_spot {x1 x2 x3 x4 : Int32} (H : CT g l M_X6_spot 1 [.ref (zad g 0), .int x1, .int x2, .int x3, .int x4] σ (zQi (fun v τ => K 0 (zupJ τ 1 v.toInt64)) (fun E τ => (E = xI ∧ K 1 τ) ∨ (E = xA ∧ K 2 τ) ∨ (E = xS' ∧ K 3 τ)))) : CTW g l M_L_spot 1 [.ref (zad g 0), .int x1, .int x2, .int x3, .int x4, .ref (zad g 41)] σ (zQi K (fun _ _ => False)) := by
  refine CTW_of rfl (Nat.le_of_ble_eq_true rfl) ?_
  change EV _ _ _ _ _ 0 [(0, .ref (zad g 0)), (1, .int x1), (2, .int x2), (3, .int x3), (4, .int x4), (5, .ref (zad g 41))] [] _
  refine e_aload dL_spot_0 5 rfl ?_
  refine e_iconst (v := 0) dL_spot_2 rfl ?_
  refine e_aload_n dL_spot_3 rfl 0 rfl ?_
  refine e_iload_n dL_spot_4 rfl 1 rfl ?_
  refine e_iload_n dL_spot_5 rfl 2 rfl ?_
  refine e_iload_n dL_spot_6 rfl 3 rfl ?_
  refine e_iload dL_spot_7 4 rfl ?_
  refine e_callVH (N := M_X6_spot) (n := 4) (j1 := 1) (j2 := 0) (av := [.int x1, .int x2, .int x3, .int x4]) rfl rfl (Nat.le_of_ble_eq_true rfl) rfl rfl H i_X6_spot rfl n_X6_spot v_X6_spot q_L_126 (by decide) (by decide) (Nat.le_of_ble_eq_true rfl) dL_spot_9 (fun v τ h => ?_) (fun E τ h => ?_)
  · match v, h with
    | some (.int y), h =>
      refine e_i2l dL_spot_12 rfl ?_
      refine e_last dL_spot_13 ?_
      refine e_goto dL_spot_14 (tgt := 29) rfl ?_
      refine e_iconst (v := 0) dL_spot_29 rfl ?_
      exact e_iret rfl dL_spot_30 h
  · rcases h with ⟨rfl, h⟩ | ⟨rfl, h⟩ | ⟨rfl, h⟩
    · refine ⟨17, ⟨[], _, [_, _], rfl, fun z hz => ?_, by decide, by decide, k_L_35, by decide, rfl⟩, fun q => ?_⟩
      · exact absurd hz List.not_mem_nil
      · refine e_astore (ls' := (6, .ref q) :: [(0, .ref (zad g 0)), (1, .int x1), (2, .int x2), (3, .int x3), (4, .int x4), (5, .ref (zad g 41))]) dL_spot_17 (by decide) rfl ?_
        refine e_iconst (v := 1) dL_spot_19 rfl ?_
        exact e_iret rfl dL_spot_20 h
    · refine ⟨21, ⟨[_], _, [_], rfl, fun z hz => ?_, by decide, by decide, k_L_19, by decide, rfl⟩, fun q => ?_⟩
      · simp only [List.mem_cons, List.not_mem_nil, or_false] at hz
        rcases hz with rfl
        · exact Or.inr ⟨by decide, _, k_L_35, by decide⟩
      · refine e_astore (ls' := (6, .ref q) :: [(0, .ref (zad g 0)), (1, .int x1), (2, .int x2), (3, .int x3), (4, .int x4), (5, .ref (zad g 41))]) dL_spot_21 (by decide) rfl ?_
        refine e_iconst (v := 2) dL_spot_23 rfl ?_
        exact e_iret rfl dL_spot_24 h
    · refine ⟨25, ⟨[_, _], _, [], rfl, fun z hz => ?_, by decide, by decide, k_L_13, by decide, rfl⟩, fun q => ?_⟩
      · simp only [List.mem_cons, List.not_mem_nil, or_false] at hz
        rcases hz with rfl | rfl
        · exact Or.inr ⟨by decide, _, k_L_35, by decide⟩
        · exact Or.inr ⟨by decide, _, k_L_19, by decide⟩
      · refine e_astore (ls' := (6, .ref q) :: [(0, .ref (zad g 0)), (1, .int x1), (2, .int x2), (3, .int x3), (4, .int x4), (5, .ref (zad g 41))]) dL_spot_25 (by decide) rfl ?_
        refine e_iconst (v := 3) dL_spot_27 rfl ?_
        exact e_iret rfl dL_spot_28 h
abbrev M_L_report : zM := (yL_report, cL_report, 4, (some FieldType.int), 9, [(0, 9, 12, 19)])
theorem i_L_report : zInW M_L_report 3 := ⟨zT_in 1328 (by decide +kernel) (by decide +kernel), zT_in 121 (by decide +kernel) (by decide +kernel), ⟨by decide, by decide⟩, by decide +kernel, by decide⟩
theorem b_L_report {x1 : Int32} (H : CT g l M_X6_report 1 [.ref (zad g 0), .int x1] σ (zQi (fun v τ => K 0 (zupJ τ 1 v.toInt64)) (fun E τ => (E = xA ∧ K 1 τ)))) : CTW g l M_L_report 1 [.ref (zad g 0), .int x1, .ref (zad g 41)] σ (zQi K (fun _ _ => False)) := by
  refine CTW_of rfl (Nat.le_of_ble_eq_true rfl) ?_
  change EV _ _ _ _ _ 0 [(0, .ref (zad g 0)), (1, .int x1), (2, .ref (zad g 41))] [] _
  refine e_aload_n dL_report_0 rfl 2 rfl ?_
  refine e_iconst (v := 0) dL_report_1 rfl ?_
  refine e_aload_n dL_report_2 rfl 0 rfl ?_
  refine e_iload_n dL_report_3 rfl 1 rfl ?_
  refine e_callVH (N := M_X6_report) (n := 1) (j1 := 1) (j2 := 0) (av := [.int x1]) rfl rfl (Nat.le_of_ble_eq_true rfl) rfl rfl H i_X6_report rfl n_X6_report v_X6_report q_L_130 (by decide) (by decide) (Nat.le_of_ble_eq_true rfl) dL_report_4 (fun v τ h => ?_) (fun E τ h => ?_)
  · match v, h with
    | some (.int y), h =>
      refine e_i2l dL_report_7 rfl ?_
      refine e_last dL_report_8 ?_
      refine e_goto dL_report_9 (tgt := 15) rfl ?_
      refine e_iconst (v := 0) dL_report_15 rfl ?_
      exact e_iret rfl dL_report_16 h
  · rcases h with ⟨rfl, h⟩
    · refine ⟨12, ⟨[], _, [], rfl, fun z hz => ?_, by decide, by decide, k_L_19, by decide, rfl⟩, fun q => ?_⟩
      · exact absurd hz List.not_mem_nil
      · refine e_astore_n (ls' := (3, .ref q) :: [(0, .ref (zad g 0)), (1, .int x1), (2, .ref (zad g 41))]) dL_report_12 rfl (by decide) rfl ?_
        refine e_iconst (v := 1) dL_report_13 rfl ?_
        exact e_iret rfl dL_report_14 h
abbrev M_L_reportByte : zM := (yL_reportByte, cL_reportByte, 4, (some FieldType.int), 8, [(0, 9, 12, 35)])
theorem i_L_reportByte : zInW M_L_reportByte 3 := ⟨zT_in 1342 (by decide +kernel) (by decide +kernel), zT_in 121 (by decide +kernel) (by decide +kernel), ⟨by decide, by decide⟩, by decide +kernel, by decide⟩
theorem b_L_reportByte {x1 : Int32} (H : CT g l M_X6_reportByte 1 [.ref (zad g 0), .int x1] σ (zQi (fun v τ => K 0 (zupJ τ 1 v.toInt64)) (fun E τ => (E = xI ∧ K 1 τ)))) : CTW g l M_L_reportByte 1 [.ref (zad g 0), .int x1, .ref (zad g 41)] σ (zQi K (fun _ _ => False)) := by
  refine CTW_of rfl (Nat.le_of_ble_eq_true rfl) ?_
  change EV _ _ _ _ _ 0 [(0, .ref (zad g 0)), (1, .int x1), (2, .ref (zad g 41))] [] _
  refine e_aload_n dL_reportByte_0 rfl 2 rfl ?_
  refine e_iconst (v := 0) dL_reportByte_1 rfl ?_
  refine e_aload_n dL_reportByte_2 rfl 0 rfl ?_
  refine e_iload_n dL_reportByte_3 rfl 1 rfl ?_
  refine e_callVH (N := M_X6_reportByte) (n := 1) (j1 := 1) (j2 := 0) (av := [.int x1]) rfl rfl (Nat.le_of_ble_eq_true rfl) rfl rfl H i_X6_reportByte rfl n_X6_reportByte v_X6_reportByte q_L_133 (by decide) (by decide) (Nat.le_of_ble_eq_true rfl) dL_reportByte_4 (fun v τ h => ?_) (fun E τ h => ?_)
  · match v, h with
    | some (.int y), h =>
      refine e_i2l dL_reportByte_7 rfl ?_
      refine e_last dL_reportByte_8 ?_
      refine e_goto dL_reportByte_9 (tgt := 15) rfl ?_
      refine e_iconst (v := 0) dL_reportByte_15 rfl ?_
      exact e_iret rfl dL_reportByte_16 h
  · rcases h with ⟨rfl, h⟩
    · refine ⟨12, ⟨[], _, [], rfl, fun z hz => ?_, by decide, by decide, k_L_35, by decide, rfl⟩, fun q => ?_⟩
      · exact absurd hz List.not_mem_nil
      · refine e_astore_n (ls' := (3, .ref q) :: [(0, .ref (zad g 0)), (1, .int x1), (2, .ref (zad g 41))]) dL_reportByte_12 rfl (by decide) rfl ?_
        refine e_iconst (v := 1) dL_reportByte_13 rfl ?_
        exact e_iret rfl dL_reportByte_14 h
abbrev M_L_restore : zM := (yL_restore, cL_restore, 3, (some FieldType.int), 8, [(0, 8, 11, 13)])
theorem i_L_restore : zInW M_L_restore 2 := ⟨zT_in 1350 (by decide +kernel) (by decide +kernel), zT_in 121 (by decide +kernel) (by decide +kernel), ⟨by decide, by decide⟩, by decide +kernel, by decide⟩
theorem b_L_restore (H : CT g l M_X6_restore 1 [.ref (zad g 0)] σ (zQi (fun v τ => K 0 (zupJ τ 1 v.toInt64)) (fun E τ => (E = xS' ∧ K 1 τ)))) : CTW g l M_L_restore 1 [.ref (zad g 0), .ref (zad g 41)] σ (zQi K (fun _ _ => False)) := by
  refine CTW_of rfl (Nat.le_of_ble_eq_true rfl) ?_
  change EV _ _ _ _ _ 0 [(0, .ref (zad g 0)), (1, .ref (zad g 41))] [] _
  refine e_aload_n dL_restore_0 rfl 1 rfl ?_
  refine e_iconst (v := 0) dL_restore_1 rfl ?_
  refine e_aload_n dL_restore_2 rfl 0 rfl ?_
  refine e_callVH (N := M_X6_restore) (n := 0) (j1 := 1) (j2 := 0) (av := []) rfl rfl (Nat.le_of_ble_eq_true rfl) rfl rfl H i_X6_restore rfl n_X6_restore v_X6_restore q_L_136 (by decide) (by decide) (Nat.le_of_ble_eq_true rfl) dL_restore_3 (fun v τ h => ?_) (fun E τ h => ?_)
  · match v, h with
    | some (.int y), h =>
      refine e_i2l dL_restore_6 rfl ?_
      refine e_last dL_restore_7 ?_
      refine e_goto dL_restore_8 (tgt := 14) rfl ?_
      refine e_iconst (v := 0) dL_restore_14 rfl ?_
      exact e_iret rfl dL_restore_15 h
  · rcases h with ⟨rfl, h⟩
    · refine ⟨11, ⟨[], _, [], rfl, fun z hz => ?_, by decide, by decide, k_L_13, by decide, rfl⟩, fun q => ?_⟩
      · exact absurd hz List.not_mem_nil
      · refine e_astore_n (ls' := (2, .ref q) :: [(0, .ref (zad g 0)), (1, .ref (zad g 41))]) dL_restore_11 rfl (by decide) rfl ?_
        refine e_iconst (v := 1) dL_restore_12 rfl ?_
        exact e_iret rfl dL_restore_13 h
end ZLh
