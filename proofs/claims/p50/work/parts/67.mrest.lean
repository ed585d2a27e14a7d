/-! the reference: spot, undo, save, restore, report, feed, truncate -/
section ZMZ
variable {g : zG} {l : Launch} {K : Int32 → zS → Prop} {X : String → zS → Prop} {m : Nat → Int32} {σ : zS}
/-- a row that is nothing behind its end -/
def Ct (m : Nat → Int32) : Prop := ∀ k, 1110 ≤ k → m k = 0
theorem put_row {f p a : Nat → Int32} {b : Nat} (hf : ∀ k, 1110 ≤ k → f k = 0) (ha : Ct a) (hp : ∀ k, k < 1110 → p (b + k) = a k) : fb_put f (fun k => p (b + k)) 0 1110 = a := by
  funext k
  by_cases e : k < 1110
  · rw [fb_put_in (by omega) (by omega), Nat.sub_zero]; exact hp k e
  · rw [fb_put_out (by omega), hf k (by omega), ha k (by omega)]
/-- a report's bytes -/
def sgN (v : Int) : Nat := if v = -2 then 124 else if v = -1 then 46 else (48 + v).toNat
def rpB (m : Nat → Int32) (a : Int) (i : Nat) : Nat := if i % (cols m + 1) < cols m then sgN (snN m a (i % (cols m + 1)) (i / (cols m + 1))) else 10
theorem sn_b (hw : WF m) {c r : Nat} (hc : c < cols m) (hr : r < 8) (a : Int) : -2 ≤ snN m a c r ∧ snN m a c r ≤ 9 := by
  have hcl := cols_le hw
  have hfl : cS m a c r ≤ 9 := wf_f9 hw (sdS_lt m a c) (c := c) (r := r) (by omega) hr
  unfold snN
  split
  · omega
  · split <;> omega
/-- a byte of an int -/
def tbv (v : Int32) (k : Nat) : Nat := v.toBitVec.toNat / 2 ^ k % 2 ^ 8
theorem tbv_lt (v : Int32) (k : Nat) : tbv v k < 256 := Nat.mod_lt _ (by decide)
theorem tbv_bit (v : Int32) (k i : Nat) : (tbv v k).testBit i = (decide (i < 8) && bt v (k + i)) := by
  unfold tbv bt
  rw [Nat.testBit_mod_two_pow, Nat.testBit_div_two_pow, BitVec.getLsbD, Nat.add_comm i]
theorem tbv_s {v : Int32} {k : Nat} (hk : k ≤ 24) : (v >>> (iI (k : Int) &&& 31)) &&& 255 = iI (tbv v k) := by
  apply b_ext
  intro i hi
  rw [b_and, b_255, show iI (k : Int) = nI k from rfl, b_sshr k (by omega) v hi, show iI (tbv v k : Int) = nI (tbv v k) from rfl, bt_nI _ _ hi, tbv_bit]
  by_cases h : i < 8
  · rw [if_pos (by omega)]; simp [h]
  · simp [h]
/-- four bytes more -/
def app (f : Nat → Nat) (n : Nat) (v : Int32) : Nat → Nat := fun i => if i < n then f i else tbv v (24 - 8 * (i - n))
def app5 (f : Nat → Nat) (n : Nat) (a b c d e : Int32) : Nat → Nat := app (app (app (app (app f n a) (n + 4) b) (n + 8) c) (n + 12) d) (n + 16) e
end ZMZ

