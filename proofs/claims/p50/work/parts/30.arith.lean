/-! ints as integers: every int is iI of an integer; the machine's operations are the integers' own -/
def iI (z : Int) : Int32 := Int32.ofInt z
theorem iI_of (x : Int32) : iI x.toInt = x := fb_asI x
theorem iI_ti {z : Int} (h1 : -2147483648 ≤ z) (h2 : z < 2147483648) : (iI z).toInt = z := fb_ofI h1 h2
theorem iI_add (a b : Int) : iI a + iI b = iI (a + b) := (Int32.ofInt_add a b).symm
theorem iI_sub (a b : Int) : iI a - iI b = iI (a - b) := (Int32.ofInt_sub a b).symm
theorem iI_mul (a b : Int) : iI a * iI b = iI (a * b) := (Int32.ofInt_mul a b).symm
theorem iI_neg (a : Int) : -iI a = iI (-a) := (Int32.ofInt_neg a).symm
theorem iI_n (n : Nat) : nI n = iI n := rfl
theorem iI_lit (n : Nat) : (OfNat.ofNat n : Int32) = iI (n : Int) := rfl
theorem iI_m1 : (-1 : Int32) = iI (-1) := rfl
theorem iI_lt {a b : Int} (h1 : -2147483648 ≤ a) (h2 : a < 2147483648) (h3 : -2147483648 ≤ b) (h4 : b < 2147483648) : iI a < iI b ↔ a < b := by
  rw [fa_lt, iI_ti h1 h2, iI_ti h3 h4]
theorem iI_le {a b : Int} (h1 : -2147483648 ≤ a) (h2 : a < 2147483648) (h3 : -2147483648 ≤ b) (h4 : b < 2147483648) : iI a ≤ iI b ↔ a ≤ b := by
  rw [fa_le, iI_ti h1 h2, iI_ti h3 h4]
theorem iI_eq {a b : Int} (h1 : -2147483648 ≤ a) (h2 : a < 2147483648) (h3 : -2147483648 ≤ b) (h4 : b < 2147483648) : iI a = iI b ↔ a = b := by
  rw [fa_eq, iI_ti h1 h2, iI_ti h3 h4]
theorem iI_tn {z : Int} (h1 : 0 ≤ z) (h2 : z < 2147483648) : (iI z).toNatClampNeg = z.toNat := by
  show (iI z).toInt.toNat = _
  rw [iI_ti (by omega) h2]
theorem iI_in {z : Int} {n : Nat} (h1 : 0 ≤ z) (h2 : z < n) (h3 : z < 2147483648) : vp_in (iI z) n := by
  rw [vp_in_iff, iI_ti (by omega) h3]
  exact ⟨h1, h2⟩
theorem vp_in_0 {x : Int32} {n : Nat} (h : vp_in x n) : 0 ≤ x.toInt := (vp_in_iff.mp h).1
theorem iI_max {a b : Int} (h1 : -2147483648 ≤ a) (h2 : a < 2147483648) (h3 : -2147483648 ≤ b) (h4 : b < 2147483648) : zmax (iI a) (iI b) = iI (max a b) := by
  unfold zmax
  by_cases h : a < b
  · rw [if_pos ((iI_lt h1 h2 h3 h4).mpr h), show max a b = b by omega]
  · rw [if_neg (fun q => h ((iI_lt h1 h2 h3 h4).mp q)), show max a b = a by omega]
theorem iI_min {a b : Int} (h1 : -2147483648 ≤ a) (h2 : a < 2147483648) (h3 : -2147483648 ≤ b) (h4 : b < 2147483648) : zmin (iI a) (iI b) = iI (min a b) := by
  unfold zmin
  by_cases h : b < a
  · rw [if_pos ((iI_lt h3 h4 h1 h2).mpr h), show min a b = b by omega]
  · rw [if_neg (fun q => h ((iI_lt h3 h4 h1 h2).mp q)), show min a b = a by omega]
theorem iI_abs {a : Int} (h1 : -2147483648 < a) (h2 : a < 2147483648) : zabs (iI a) = iI (if 0 ≤ a then a else -a) := by
  show (if iI 0 ≤ iI a then iI a else iI 0 - iI a) = _
  by_cases h : 0 ≤ a
  · rw [if_pos ((iI_le (a := 0) (by omega) (by omega) (by omega) h2).mpr h), if_pos h]
  · rw [if_neg (fun q => h ((iI_le (a := 0) (by omega) (by omega) (by omega) h2).mp q)), if_neg h]
    rw [iI_sub]; congr 1; omega
theorem iI_div {a b : Int} (h1 : 0 ≤ a) (h2 : a < 2147483648) (h3 : 0 < b) (h4 : b < 2147483648) : iI a / iI b = iI (a / b) := by
  obtain ⟨m, rfl⟩ := Int.eq_ofNat_of_zero_le h1
  obtain ⟨n, rfl⟩ := Int.eq_ofNat_of_zero_le (Int.le_of_lt h3)
  rw [← iI_n, ← iI_n, pk_div (by omega) (by omega) (by omega), iI_n]
  rfl
theorem iI_rem {a b : Int} (h1 : 0 ≤ a) (h2 : a < 2147483648) (h3 : 0 < b) (h4 : b < 2147483648) : iI a - iI a / iI b * iI b = iI (a % b) := by
  rw [iI_div h1 h2 h3 h4, iI_mul, iI_sub]
  congr 1
  rw [Int.emod_def, Int.mul_comm]
/-- what a boolean answer is -/
def bI (p : Prop) [Decidable p] : Int32 := if p then 1 else 0

