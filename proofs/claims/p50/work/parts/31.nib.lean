/-! colours of a column: eight places of four bits -/
def nib (x : Int32) (r : Nat) : Nat := x.toBitVec.toNat / 2 ^ (4 * r) % 2 ^ 4
theorem nib_lt (x : Int32) (r : Nat) : nib x r < 16 := Nat.mod_lt _ (by decide)
theorem nib_bit (x : Int32) (r i : Nat) : (nib x r).testBit i = (decide (i < 4) && bt x (4 * r + i)) := by
  unfold nib bt
  rw [Nat.testBit_mod_two_pow, Nat.testBit_div_two_pow, BitVec.getLsbD, Nat.add_comm i]
theorem nib_ext {x y : Int32} (h : ∀ r, r < 8 → nib x r = nib y r) : x = y := by
  apply b_ext
  intro i hi
  have h1 := congrArg (fun n => n.testBit (i % 4)) (h (i / 4) (by omega))
  simp only [nib_bit] at h1
  rw [show 4 * (i / 4) + i % 4 = i by omega] at h1
  simpa [Nat.mod_lt] using h1
theorem sh4 {r : Nat} (hr : r < 8) : (4 : Int32) * nI r = nI (4 * r) := by
  rw [show (4 : Int32) = nI 4 from rfl, pk_mul]
theorem nib_get {x : Int32} {r : Nat} (hr : r < 8) : (zushr x (4 * nI r)) &&& 15 = nI (nib x r) := by
  rw [sh4 hr, pk_and _ 4 (by decide +kernel)]
  congr 1
  rw [pk_ushr x _ (4 * r) (s_u (4 * r) (by omega))]
  rfl
theorem bt_nI (n i : Nat) (hi : i < 32) : bt (nI n) i = n.testBit i := by
  unfold bt nI
  show (BitVec.ofNat 32 n).getLsbD i = _
  rw [BitVec.getLsbD_ofNat]; simp [hi]
theorem nib_set {x : Int32} {r v : Nat} (hr : r < 8) (hv : v < 16) (j : Nat) (hj : j < 8) :
    nib ((x &&& ((15 <<< ((4 * nI r) &&& 31)) ^^^ (-1))) ||| (nI v <<< ((4 * nI r) &&& 31))) j = if j = r then v else nib x j := by
  rw [sh4 hr]
  apply Nat.eq_of_testBit_eq
  intro i
  rw [nib_bit, b_or, b_and, b_xor]
  by_cases hi : i < 4
  · rw [b_m1 _ (by omega), b_shl (4 * r) (by omega) 15 (by omega), b_shl (4 * r) (by omega) (nI v) (by omega)]
    rw [show (15 : Int32) = nI 15 from rfl, bt_nI _ _ (by omega), bt_nI _ _ (by omega)]
    by_cases h : j = r
    · subst h
      rw [if_pos rfl]
      have e : 4 * j + i - 4 * j = i := by omega
      rw [e]
      have h15 : (15 : Nat).testBit i = true := (by decide +kernel : ∀ i, i < 4 → (15 : Nat).testBit i = true) i hi
      simp [hi, h15]
    · rw [if_neg h, nib_bit]
      rcases Nat.lt_or_ge j r with q | q
      · have e : decide (4 * r ≤ 4 * j + i) = false := by simp; omega
        simp [hi, e]
      · have e1 : (15 : Nat).testBit (4 * j + i - 4 * r) = false := Nat.testBit_lt_two_pow (Nat.lt_of_lt_of_le (show 15 < 2 ^ 4 by decide) (Nat.pow_le_pow_right (by decide) (by omega)))
        have e2 : v.testBit (4 * j + i - 4 * r) = false := Nat.testBit_lt_two_pow (Nat.lt_of_lt_of_le (show v < 2 ^ 4 by omega) (Nat.pow_le_pow_right (by decide) (by omega)))
        simp [hi, e1, e2]
  · have e : ∀ m : Nat, m < 16 → m.testBit i = false := fun m hm => Nat.testBit_lt_two_pow (Nat.lt_of_lt_of_le (show m < 2 ^ 4 by omega) (Nat.pow_le_pow_right (by decide) (by omega)))
    simp only [hi, decide_false, Bool.false_and]
    split
    · exact (e v hv).symm
    · exact (e _ (nib_lt x j)).symm
theorem nib_0 (r : Nat) : nib 0 r = 0 := by
  show 0 / 2 ^ (4 * r) % 2 ^ 4 = 0
  simp
/-- the lowest bit of each place in which two columns differ -/
def unF (x y : Int32) : Int32 := ((((x ^^^ y) ||| (zushr (x ^^^ y) 1)) ||| (zushr (x ^^^ y) 2)) ||| (zushr (x ^^^ y) 3)) &&& 286331153
theorem bt_ushr {x : Int32} {n : Nat} (hn : n < 32) (i : Nat) : bt (zushr x (nI n)) i = bt x (n + i) := b_ushr n hn x i
theorem unF_mask : ∀ i, i < 32 → bt 286331153 i = decide (i % 4 = 0) := by decide +kernel
theorem unF_bt {x y : Int32} {i : Nat} (hi : i < 32) : bt (unF x y) i = (decide (i % 4 = 0) && decide (nib x (i / 4) ≠ nib y (i / 4))) := by
  unfold unF
  rw [b_and, unF_mask i hi, Bool.and_comm]
  by_cases h : i % 4 = 0
  · simp only [h, decide_true, Bool.true_and]
    rw [b_or, b_or, b_or, show (1 : Int32) = nI 1 from rfl, show (2 : Int32) = nI 2 from rfl, show (3 : Int32) = nI 3 from rfl, bt_ushr (by omega), bt_ushr (by omega), bt_ushr (by omega)]
    simp only [b_xor]
    have key : (nib x (i / 4) = nib y (i / 4)) ↔ ∀ j, j < 4 → bt x (i + j) = bt y (i + j) := by
      constructor
      · intro e j hj
        have h1 := congrArg (fun n => n.testBit j) e
        simp only [nib_bit, hj, decide_true, Bool.true_and] at h1
        rw [show 4 * (i / 4) = i by omega] at h1
        exact h1
      · intro e
        apply Nat.eq_of_testBit_eq
        intro j
        rw [nib_bit, nib_bit]
        by_cases hj : j < 4
        · rw [show 4 * (i / 4) = i by omega, e j hj]
        · simp [hj]
    have h0 := fun q => key.mp q 0 (by omega)
    by_cases e : nib x (i / 4) = nib y (i / 4)
    · have f := key.mp e
      have f0 := f 0 (by omega); have f1 := f 1 (by omega); have f2 := f 2 (by omega); have f3 := f 3 (by omega)
      simp only [Nat.add_zero] at f0
      simp [e, f0, Nat.add_comm 1 i, Nat.add_comm 2 i, Nat.add_comm 3 i, f1, f2, f3]
    · simp only [ne_eq, e, not_false_eq_true, decide_true]
      cases hb : ((bt x i ^^ bt y i) || (bt x (1 + i) ^^ bt y (1 + i)) || (bt x (2 + i) ^^ bt y (2 + i)) || (bt x (3 + i) ^^ bt y (3 + i))) with
      | true => rfl
      | false =>
        exfalso
        apply e
        apply key.mpr
        simp only [Bool.or_eq_false_iff, bne_eq_false_iff_eq] at hb
        intro j hj
        match j, hj with
        | 0, _ => exact hb.1.1.1
        | 1, _ => rw [Nat.add_comm]; exact hb.1.1.2
        | 2, _ => rw [Nat.add_comm]; exact hb.1.2
        | 3, _ => rw [Nat.add_comm]; exact hb.2
  · simp [h]
/-- Integer.bitCount's own steps -/
def bcA (x : Int32) : Int32 := x - ((zushr x 1) &&& 1431655765)
def bcB (x : Int32) : Int32 := (x &&& 858993459) + ((zushr x 2) &&& 858993459)
def bcC (x : Int32) : Int32 := (x + (zushr x 4)) &&& 252645135
def bcD (x : Int32) : Int32 := x + (zushr x 8)
def bcE (x : Int32) : Int32 := x + (zushr x 16)
def bcF (x : Int32) : Int32 := bcE (bcD (bcC (bcB (bcA x)))) &&& 63
def sp8 (b0 b1 b2 b3 b4 b5 b6 b7 : Bool) : Int32 := nI (b0.toNat + 16 * b1.toNat + 256 * b2.toNat + 4096 * b3.toNat + 65536 * b4.toNat + 1048576 * b5.toNat + 16777216 * b6.toNat + 268435456 * b7.toNat)
theorem sp8_bt : ∀ b0 b1 b2 b3 b4 b5 b6 b7 : Bool, ∀ i, i < 32 → bt (sp8 b0 b1 b2 b3 b4 b5 b6 b7) i = (decide (i % 4 = 0) && [b0, b1, b2, b3, b4, b5, b6, b7].getD (i / 4) false) := by decide +kernel
theorem sp8_bc : ∀ b0 b1 b2 b3 b4 b5 b6 b7 : Bool, bcF (sp8 b0 b1 b2 b3 b4 b5 b6 b7) = nI (b0.toNat + b1.toNat + b2.toNat + b3.toNat + b4.toNat + b5.toNat + b6.toNat + b7.toNat) := by decide +kernel
/-- how many of eight -/
def cn8 (p : Nat → Bool) : Nat := (p 0).toNat + (p 1).toNat + (p 2).toNat + (p 3).toNat + (p 4).toNat + (p 5).toNat + (p 6).toNat + (p 7).toNat
theorem bc_mask {x : Int32} {p : Nat → Bool} (h : ∀ i, i < 32 → bt x i = (decide (i % 4 = 0) && p (i / 4))) : bcF x = nI (cn8 p) := by
  have e : x = sp8 (p 0) (p 1) (p 2) (p 3) (p 4) (p 5) (p 6) (p 7) := by
    apply b_ext
    intro i hi
    rw [h i hi, sp8_bt _ _ _ _ _ _ _ _ i hi]
    congr 1
    have hj : i / 4 < 8 := by omega
    generalize i / 4 = j at hj
    match j, hj with
    | 0, _ => rfl
    | 1, _ => rfl
    | 2, _ => rfl
    | 3, _ => rfl
    | 4, _ => rfl
    | 5, _ => rfl
    | 6, _ => rfl
    | 7, _ => rfl
  rw [e, sp8_bc]
  rfl
theorem unR {x y : Int32} : bcF (unF x y) = nI (cn8 (fun r => decide (nib x r ≠ nib y r))) := bc_mask (fun i hi => unF_bt hi)

