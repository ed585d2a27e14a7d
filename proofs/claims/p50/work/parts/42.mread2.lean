/-! what the reference's reading methods answer: what is seen -/
section ZMS
variable {g : zG} {l : Launch} {K : Int32 → zS → Prop} {X : String → zS → Prop} {σ : zS} {m : Nat → Int32}
theorem lean_b (m : Nat → Int32) (k : Nat) (a : Int) : -6 ≤ lean m k a ∧ lean m k a ≤ 6 := by
  unfold lean; omega
theorem seam_b (hw : WF m) {k : Nat} (hk : k < nS m) : -8 ≤ seamB m k ∧ seamB m k ≤ 8 := by
  have h1 := wf_s hw hk
  unfold seamB
  split
  · omega
  · have h2 := wf_s hw (k := k + 1) (by omega)
    omega
theorem shw_le {w : Nat} {le : Int} (h1 : -6 ≤ le) (h2 : le ≤ 6) : shw w le ≤ w := by
  unfold shw
  have h : w * le.natAbs ≤ w * 6 := Nat.mul_le_mul_left w (by omega)
  omega
theorem shw_i {w : Nat} {le : Int} (hw : w ≤ 6) (h1 : -6 ≤ le) (h2 : le ≤ 6) : (iI w * iI (max le (-le)) + iI 5) / iI 6 = iI (shw w le) := by
  have e : (w : Int) * max le (-le) = ((w * le.natAbs : Nat) : Int) := by
    rw [show max le (-le) = (le.natAbs : Int) by omega]; simp
  have h : w * le.natAbs ≤ 6 * 6 := Nat.mul_le_mul hw (by omega)
  rw [iI_mul, iI_add, e, iI_div (by omega) (by omega) (by omega) (by omega)]
  congr 1
theorem stt_le (m : Nat → Int32) (a : Int) (c : Nat) : stt m a c ≤ 3 := by
  unfold stt
  split
  · omega
  · split
    · omega
    · split <;> omega
theorem sdS_lt (m : Nat → Int32) (a : Int) (c : Nat) : sdS m a c < 2 := by
  unfold sdS; split <;> omega
theorem picN_le (hw : WF m) (s c r : Nat) : ∀ n, n ≤ nB m → picN m s c r n ≤ 9
  | 0, _ => Nat.zero_le _
  | n + 1, h => by
    have := picN_le hw s c r n (by omega)
    have := wf_x hw (b := n) (by omega)
    unfold picN; split <;> omega
theorem pic_le (hw : WF m) (s c r : Nat) : pic m s c r ≤ 9 := picN_le hw s c r _ (Nat.le_refl _)
theorem why_le (m : Nat → Int32) (a : Int) (s c r : Nat) : whyN m a s c r ≤ 5 := by
  have := stt_le m a c
  unfold whyN
  split
  · omega
  · split
    · omega
    · split <;> omega
theorem ctd (p : Nat → Bool) (n : Nat) (h : p n = true) : ((fb_ct p n : Int) + 1) = ((fb_ct p (n + 1) : Nat) : Int) := by
  rw [fb_ct_succ, if_pos h]; rfl
theorem ctn (p : Nat → Bool) (n : Nat) (h : ¬ p n = true) : ((fb_ct p n : Int) + 0) = ((fb_ct p (n + 1) : Nat) : Int) := by
  rw [fb_ct_succ, if_neg h]; rfl
end ZMS

