/-! the law's helper of light(): a float answer, kept as a double -/
section ZLl
variable {g : zG} {l : Launch} {K : Int32 → zS → Prop} {σ : zS}
abbrev M_L_light : zM := (yL_light, cL_light, 4, (some FieldType.int), 9, [(0, 9, 12, 19)])
theorem i_L_light : zInW M_L_light 3 := ⟨zT_in 1213 (by decide +kernel) (by decide +kernel), zT_in 121 (by decide +kernel) (by decide +kernel), ⟨by decide, by decide⟩, by decide +kernel, by decide⟩
theorem b_L_light {x : Int32} (H : CT g l M_X6_light 1 [.ref (zad g 0), .int x] σ (zQf (fun v τ => vf_n64 (FP.f2d v) ∧ K 0 (zupD τ (FP.f2d v))) (fun E τ => E = xA ∧ K 1 τ))) : CTW g l M_L_light 1 [.ref (zad g 0), .int x, .ref (zad g 42)] σ (zQi K (fun _ _ => False)) := by
  refine CTW_of rfl (Nat.le_of_ble_eq_true rfl) ?_
  change EV _ _ _ _ _ 0 [(0, .ref (zad g 0)), (1, .int x), (2, .ref (zad g 42))] [] _
  refine e_aload_n dL_light_0 rfl 2 rfl ?_
  refine e_iconst (v := 0) dL_light_1 rfl ?_
  refine e_aload_n dL_light_2 rfl 0 rfl ?_
  refine e_iload_n dL_light_3 rfl 1 rfl ?_
  refine e_callVH (N := M_X6_light) (n := 1) (j1 := 1) (j2 := 0) (av := [.int x]) rfl rfl (Nat.le_of_ble_eq_true rfl) rfl rfl H i_X6_light rfl n_X6_light v_X6_light q_L_86 (by decide) (by decide) (Nat.le_of_ble_eq_true rfl) dL_light_4 (fun v τ h => ?_) (fun E τ h => ?_)
  · match v, h with
    | some (.float y), h =>
      refine e_f2d dL_light_7 h.1 ?_
      refine e_dast dL_light_8 ?_
      refine e_goto dL_light_9 (tgt := 15) rfl ?_
      refine e_iconst (v := 0) dL_light_15 rfl ?_
      exact e_iret rfl dL_light_16 h.2
  · obtain ⟨rfl, h⟩ := h
    refine ⟨12, ⟨[], _, [], rfl, fun z hz => absurd hz List.not_mem_nil, by decide, by decide, k_L_19, by decide, rfl⟩, fun q => ?_⟩
    refine e_astore_n (ls' := [(3, .ref q), (0, .ref (zad g 0)), (1, .int x), (2, .ref (zad g 42))]) dL_light_12 rfl (by decide) rfl ?_
    refine e_iconst (v := 1) dL_light_13 rfl ?_
    exact e_iret rfl dL_light_14 h
end ZLl
