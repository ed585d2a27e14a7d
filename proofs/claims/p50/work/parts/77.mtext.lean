/-! the reference: a text -/
section ZMT
variable {g : zG} {l : Launch} {X : String → zS → Prop} {σ : zS} {f : Nat → Nat} {n p : Nat} {m : Nat → Int32}
abbrev F7 : List Nat := [4, 5, 6, 7, 8, 9, 20]
abbrev F6 : List Nat := [4, 5, 6, 7, 8, 9]
theorem hc_bit {hi co : Nat} (h1 : hi < 2) (h2 : co < 2) : ((hi + 2 * co).testBit 0 = true ↔ hi = 1) ∧ ((hi + 2 * co).testBit 1 = true ↔ co = 1) := by
  rcases (by omega : hi = 0 ∨ hi = 1) with a | a <;> rcases (by omega : co = 0 ∨ co = 1) with b | b <;> subst a <;> subst b <;> decide
theorem hc_or0 {hi co : Nat} (h1 : hi < 2) (h2 : co < 2) : (iI ((hi : Int) + 2 * co) ||| (1 <<< (iI 0 &&& 31))) = iI ((1 : Int) + 2 * co) := by
  rcases (by omega : hi = 0 ∨ hi = 1) with a | a <;> rcases (by omega : co = 0 ∨ co = 1) with b | b <;> subst a <;> subst b <;> decide
theorem hc_or1 {hi co : Nat} (h1 : hi < 2) (h2 : co < 2) : (iI ((hi : Int) + 2 * co) ||| (1 <<< (iI 1 &&& 31))) = iI ((hi : Int) + 2 * (1 : Nat)) := by
  rcases (by omega : hi = 0 ∨ hi = 1) with a | a <;> rcases (by omega : co = 0 ∨ co = 1) with b | b <;> subst a <;> subst b <;> decide
end ZMT

