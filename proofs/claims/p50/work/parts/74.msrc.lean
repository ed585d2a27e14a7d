/-! the reference: its tokens -/
theorem li_57b : (57 : Int32) = iI 57 := rfl
section ZMS
variable {g : zG} {l : Launch} {X : String → zS → Prop} {σ : zS} {f : Nat → Nat} {n p : Nat}
def mK (k : Nat) : Nat := if k = 0 then 0 else if k = 1 then 4 else if k = 2 then 1 else if k = 3 then 2 else 3
theorem hQ_step {s k : Nat} (hk : k < 8) (hl : ∀ i, i < k + 1 → isL (f (s + i))) : (lN (hQ f s k) <<< (iL 5 &&& 63)) ||| Int32.toInt64 (iI (f (s + k)) - iI 97 + iI 1) = lN (hQ f s (k + 1)) := by
  rw [iI_sub, iI_add]
  have h1 := hQ_lt (f := f) (s := s) (k := k) (fun i hi => hl i (by omega))
  have h2 := hl k (by omega)
  have h3 : (32 : Nat) ^ k ≤ 32 ^ 7 := Nat.pow_le_pow_right (by decide) (by omega)
  have h4 : hQ f s k < 2 ^ 35 := Nat.lt_of_lt_of_le h1 (Nat.le_trans h3 (by decide))
  unfold isL at h2
  have e1 : lN (hQ f s k) <<< (iL 5 &&& 63) = lN (hQ f s k * 2 ^ 5) := wb_shl _ (k := 5) (by decide)
  have e2 : Int32.toInt64 (iI ((f (s + k) : Int) - 97 + 1)) = lN (f (s + k) - 96) := by
    rw [iI_L (by omega) (by omega)]
    show iL _ = iL ((f (s + k) - 96 : Nat) : Int)
    congr 1
    omega
  rw [e1, e2, wb_or (by omega) (by omega), ← Nat.shiftLeft_eq, ← Nat.shiftLeft_add_eq_or_of_lt (by omega), Nat.shiftLeft_eq]
  congr 1
  show _ = 32 * hQ f s k + (f (s + k) - 96)
  omega
end ZMS

