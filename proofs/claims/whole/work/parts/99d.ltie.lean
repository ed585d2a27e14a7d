/-! the law's helper of tie(): a boolean answer -/
section ZLt
variable {g : zG} {l : Launch} {K : Int32 → zS → Prop} {σ : zS}
abbrev M_L_tie : zM := (yL_tie, cL_tie, 5, (some FieldType.int), 9, [(0, 17, 20, 35)])
theorem i_L_tie : zInW M_L_tie 4 := ⟨zT_in 1284 (by decide +kernel) (by decide +kernel), zT_in 121 (by decide +kernel) (by decide +kernel), ⟨by decide, by decide⟩, by decide +kernel, by decide⟩
theorem b_L_tie {x1 x2 : Int32} (H : CT g l M_X6_tie 1 [.ref (zad g 0), .int x1, .int x2] σ (zQi (fun v τ => (v = 0 → K 0 (zupJ τ 1 0)) ∧ (¬ v = 0 → K 0 (zupJ τ 1 1))) (fun E τ => (E = xI ∧ K 1 τ)))) : CTW g l M_L_tie 1 [.ref (zad g 0), .int x1, .int x2, .ref (zad g 41)] σ (zQi K (fun _ _ => False)) := by
  refine CTW_of rfl (Nat.le_of_ble_eq_true rfl) ?_
  change EV _ _ _ _ _ 0 [(0, .ref (zad g 0)), (1, .int x1), (2, .int x2), (3, .ref (zad g 41))] [] _
  refine e_aload_n dL_tie_0 rfl 3 rfl ?_
  refine e_iconst (v := 0) dL_tie_1 rfl ?_
  refine e_aload_n dL_tie_2 rfl 0 rfl ?_
  refine e_iload_n dL_tie_3 rfl 1 rfl ?_
  refine e_iload_n dL_tie_4 rfl 2 rfl ?_
  refine e_callVH (N := M_X6_tie) (n := 2) (j1 := 1) (j2 := 0) (av := [.int x1, .int x2]) rfl rfl (Nat.le_of_ble_eq_true rfl) rfl rfl H i_X6_tie rfl n_X6_tie v_X6_tie q_L_112 (by decide) (by decide) (Nat.le_of_ble_eq_true rfl) dL_tie_5 (fun v τ h => ?_) (fun E τ h => ?_)
  · match v, h with
    | some (.int y), h =>
      refine e_if_eq (tgt := 15) dL_tie_8 rfl (fun e => ?_) (fun e => ?_)
      · refine e_lconst (v := 0) dL_tie_15 rfl ?_
        refine e_last dL_tie_16 ?_
        refine e_goto dL_tie_17 (tgt := 24) rfl ?_
        refine e_iconst (v := 0) dL_tie_24 rfl ?_
        exact e_iret rfl dL_tie_25 (h.1 e)
      · refine e_lconst (v := 1) dL_tie_11 rfl ?_
        refine e_goto dL_tie_12 (tgt := 16) rfl ?_
        refine e_last dL_tie_16 ?_
        refine e_goto dL_tie_17 (tgt := 24) rfl ?_
        refine e_iconst (v := 0) dL_tie_24 rfl ?_
        exact e_iret rfl dL_tie_25 (h.2 e)
  · obtain ⟨rfl, h⟩ := h
    refine ⟨20, ⟨[], _, [], rfl, fun z hz => absurd hz List.not_mem_nil, by decide, by decide, k_L_35, by decide, rfl⟩, fun q => ?_⟩
    refine e_astore (ls' := [(4, .ref q), (0, .ref (zad g 0)), (1, .int x1), (2, .int x2), (3, .ref (zad g 41))]) dL_tie_20 (by decide) rfl ?_
    refine e_iconst (v := 1) dL_tie_22 rfl ?_
    exact e_iret rfl dL_tie_23 h
end ZLt
