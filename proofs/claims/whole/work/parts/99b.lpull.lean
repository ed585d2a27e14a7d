/-! the law's helper of pull(): a sample of its kind -/
section ZLp
variable {g : zG} {l : Launch} {K : Int32 → zS → Prop} {X : String → zS → Prop} {σ : zS}
abbrev M_L_pull : zM := (yL_pull, cL_pull, 4, (some FieldType.int), 9, [(0, 9, 12, 19)])
theorem k_L_19 : Cond.classLink RL 19 xA ∈ zT := zT_in 644 (by decide +kernel) (by decide +kernel)
theorem i_L_pull : zInW M_L_pull 3 := ⟨zT_in 1270 (by decide +kernel) (by decide +kernel), zT_in 121 (by decide +kernel) (by decide +kernel), ⟨by decide, by decide⟩, by decide +kernel, by decide⟩
theorem b_L_pull {x : Int32} (H : CT g l M_X6_pull 1 [.ref (zad g 0), .int x] σ (zQi (fun v τ => K 0 (zupJ τ 1 v.toInt64)) (fun E τ => E = xA ∧ K 1 τ))) : CTW g l M_L_pull 1 [.ref (zad g 0), .int x, .ref (zad g 41)] σ (zQi K X) := by
  refine CTW_of rfl (Nat.le_of_ble_eq_true rfl) ?_
  change EV _ _ _ _ _ 0 [(0, .ref (zad g 0)), (1, .int x), (2, .ref (zad g 41))] [] _
  refine e_aload_n dL_pull_0 rfl 2 rfl ?_
  refine e_iconst (v := 0) dL_pull_1 rfl ?_
  refine e_aload_n dL_pull_2 rfl 0 rfl ?_
  refine e_iload_n dL_pull_3 rfl 1 rfl ?_
  refine e_callVH (N := M_X6_pull) (n := 1) (j1 := 1) (j2 := 0) (av := [.int x]) rfl rfl (Nat.le_of_ble_eq_true rfl) rfl rfl H i_X6_pull rfl n_X6_pull v_X6_pull q_L_106 (by decide) (by decide) (Nat.le_of_ble_eq_true rfl) dL_pull_4 (fun v τ h => ?_) (fun E τ h => ?_)
  · match v, h with
    | some (.int y), h =>
      refine e_i2l dL_pull_7 rfl ?_
      refine e_last dL_pull_8 ?_
      refine e_goto dL_pull_9 (tgt := 15) rfl ?_
      refine e_iconst (v := 0) dL_pull_15 rfl ?_
      exact e_iret rfl dL_pull_16 h
  · obtain ⟨rfl, h⟩ := h
    refine ⟨12, ⟨[], _, [], rfl, fun z hz => absurd hz List.not_mem_nil, by decide, by decide, k_L_19, by decide, rfl⟩, fun q => ?_⟩
    refine e_astore_n (ls' := [(3, .ref q), (0, .ref (zad g 0)), (1, .int x), (2, .ref (zad g 41))]) dL_pull_12 rfl (by decide) rfl ?_
    refine e_iconst (v := 1) dL_pull_13 rfl ?_
    exact e_iret rfl dL_pull_14 h
end ZLp
