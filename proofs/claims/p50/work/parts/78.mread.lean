/-! the reference: what comes of a text -/
section ZMR
variable {g : zG} {l : Launch} {K : Int32 → zS → Prop} {X : String → zS → Prop} {σ : zS} {f : Nat → Nat} {n p : Nat} {m : Nat → Int32}
theorem wF_wF (F G : Nat → Nat → Nat → Nat) : wF (wF m F) G = wF m G := by
  funext q
  unfold wF
  by_cases h : 150 ≤ q ∧ q < 1110
  · rw [if_pos h, if_pos h]
  · rw [if_neg h, if_neg h, if_neg h]
noncomputable def paF (m : Nat → Int32) (x0 x1 : Nat) : Nat → Nat → Nat → Nat := fun s c r => if c < (if s = 0 then x0 else x1) ∧ r < nH m then pic m s c r else fc m s c r
theorem paF_9 (hw : WF m) (x0 x1 : Nat) : ∀ s c r, s < 2 → c < 60 → r < 8 → paF m x0 x1 s c r ≤ 9 := fun s c r h1 h2 h3 => by
  have a := pic_le hw s c r
  have b := wf_f9 hw h1 h2 h3
  unfold paF; (repeat' split) <;> omega
theorem pa_rp (hw : WF m) {x0 x1 k s : Nat} (hk : k < nS m) (hs : s < 2) (hx : (if s = 0 then x0 else x1) = fst m k) : wF (wF m (paF m x0 x1)) (rpF (wF m (paF m x0 x1)) k s) = wF m (paF m (if s = 0 then fst m (k + 1) else x0) (if s = 0 then x1 else fst m (k + 1))) := by
  have hwb := wf_b hw
  have hb := wF_b (m := m) (paF m x0 x1)
  rw [wF_wF]
  refine wF_cong (fun s' c r h1 h2 h3 => ?_)
  unfold rpF
  rw [hb.1.e_fst (by omega), hb.1.e_wd (by omega), hb.1.e_nH, hb.2.e_pic hw, wF_fc h1 h2 h3 (paF_9 hw x0 x1 s' c r h1 h2 h3), fst_succ]
  unfold paF
  rcases (by omega : s = 0 ∨ s = 1) with e | e <;> rcases (by omega : s' = 0 ∨ s' = 1) with e' | e' <;> subst e <;> subst e'
  all_goals
    revert hx
    repeat' split
    all_goals intro hx
    all_goals first | rfl | (exfalso; omega)
/-- the row once all is painted -/
noncomputable def mEnd (m : Nat → Int32) : Nat → Int32 := wF m (paF m (cols m) (cols m))
theorem paF_0 (hw : WF m) : wF m (paF m 0 0) = m := by
  refine (wF_cong (fun s c r _ _ _ => ?_)).trans (wF_id hw)
  unfold paF
  rw [if_neg (by split <;> omega)]
abbrev FT : List Nat := [0, 2, 3, 4, 5, 6, 7, 8, 9, 10, 11, 18, 20]
end ZMR

