/-! what the script's numbers make: the row and its text, told by the picks P -/
def gNH (P : Nat → Nat → Nat) : Nat := if P 1 2 = 0 then 1 + P 2 4 else 4
def gNS (P : Nat → Nat → Nat) : Nat := P 3 5
def gNB (P : Nat → Nat → Nat) : Nat := P 4 8
def gNC (P : Nat → Nat → Nat) : Nat := if P 5 2 = 0 then 1 + P 6 4 else 9
def gTurn (P : Nat → Nat → Nat) (k : Nat) : Int := if P (10 + k) 3 = 0 then (P (20 + k) 9 : Int) - 4 else 0
def gSl (P : Nat → Nat → Nat) (k j : Nat) : Int32 := if j = 0 then nI (1 + P (30 + k) 6) else if j = 1 then iI (gTurn P k) else if j = 2 then 0 else 1
def gBn (P : Nat → Nat → Nat) (b j : Nat) : Nat := if j = 0 then P (40 + b) 2 else if j = 1 then P (50 + b) 12 else if j = 2 then P (60 + b) 5 else if j = 3 then 1 + P (70 + b) 20 else if j = 4 then 1 + P (80 + b) 4 else 1 + P (90 + b) 3
def gRow (P : Nat → Nat → Nat) : Nat → Int32 := fun q => if q < 4 then (if q = 0 then nI (gNH P) else if q = 1 then nI (gNS P) else if q = 2 then nI (gNC P) else nI (gNB P)) else if q < 54 then gSl P ((q - 4) / 5) ((q - 4) % 5) else if q < 150 then nI (gBn P ((q - 54) / 6) ((q - 54) % 6)) else 0
def toldT (z : Int) : List Nat := (if 0 ≤ z then zC 11 else zC 10) ++ digs z.natAbs
def slT (P : Nat → Nat → Nat) (k : Nat) : List Nat := zC 9 ++ digs (1 + P (30 + k) 6) ++ (if gTurn P k = 0 then [] else toldT (gTurn P k)) ++ zC 12
def slsT (P : Nat → Nat → Nat) : Nat → List Nat
  | 0 => []
  | k + 1 => slsT P k ++ slT P k
def bfT (P : Nat → Nat → Nat) (b : Nat) : Nat → List Nat
  | 0 => []
  | j + 1 => bfT P b j ++ (zC 14 ++ digs (gBn P b (j + 1)))
def boT (P : Nat → Nat → Nat) (b : Nat) : List Nat := zC 13 ++ (if P (40 + b) 2 = 0 then zC 5 else zC 4) ++ bfT P b 5 ++ zC 8
def bxsT (P : Nat → Nat → Nat) : Nat → List Nat
  | 0 => []
  | b + 1 => bxsT P b ++ boT P b
def hiT (P : Nat → Nat → Nat) : List Nat := if P 1 2 = 0 then zC 7 ++ digs (gNH P) ++ zC 8 else []
def coT (P : Nat → Nat → Nat) : List Nat := if P 5 2 = 0 then zC 3 ++ digs (gNC P) ++ zC 8 else []
def gText (P : Nat → Nat → Nat) : List Nat := hiT P ++ slsT P (gNS P) ++ bxsT P (gNB P) ++ coT P
section GRw
variable {P : Nat → Nat → Nat}
abbrev pOk (P : Nat → Nat → Nat) : Prop := ∀ k n, 0 < n → P k n < n
theorem gRow_s {k j : Nat} (hk : k < 10) (hj : j < 5) : gRow P (4 + 5 * k + j) = gSl P k j := by
  unfold gRow
  rw [if_neg (by omega), if_pos (by omega), show (4 + 5 * k + j - 4) / 5 = k by omega, show (4 + 5 * k + j - 4) % 5 = j by omega]
theorem gRow_b {b j : Nat} (hb : b < 16) (hj : j < 6) : gRow P (54 + 6 * b + j) = nI (gBn P b j) := by
  unfold gRow
  rw [if_neg (by omega), if_neg (by omega), if_pos (by omega), show (54 + 6 * b + j - 54) / 6 = b by omega, show (54 + 6 * b + j - 54) % 6 = j by omega]
theorem gH_b (hP : pOk P) : 1 ≤ gNH P ∧ gNH P ≤ 4 := by
  have := hP 2 4 (by omega)
  unfold gNH
  split <;> omega
theorem gC_b (hP : pOk P) : 1 ≤ gNC P ∧ gNC P ≤ 9 := by
  have := hP 6 4 (by omega)
  unfold gNC
  split <;> omega
theorem gTurn_b (hP : pOk P) (k : Nat) : -4 ≤ gTurn P k ∧ gTurn P k ≤ 4 := by
  have := hP (20 + k) 9 (by omega)
  unfold gTurn
  split <;> omega
theorem gBn_b (hP : pOk P) (b j : Nat) : gBn P b j ≤ 20 ∧ (j = 0 → gBn P b j ≤ 1) ∧ (j = 1 → gBn P b j ≤ 11) ∧ (j = 2 → gBn P b j ≤ 4) ∧ (j = 3 → 1 ≤ gBn P b j ∧ gBn P b j ≤ 20) ∧ (j = 4 → 1 ≤ gBn P b j ∧ gBn P b j ≤ 4) ∧ (j = 5 → 1 ≤ gBn P b j ∧ gBn P b j ≤ 3) := by
  have h0 := hP (40 + b) 2 (by omega)
  have h1 := hP (50 + b) 12 (by omega)
  have h2 := hP (60 + b) 5 (by omega)
  have h3 := hP (70 + b) 20 (by omega)
  have h4 := hP (80 + b) 4 (by omega)
  have h5 := hP (90 + b) 3 (by omega)
  unfold gBn
  split
  · omega
  · split
    · omega
    · split
      · omega
      · split
        · omega
        · split <;> omega
theorem gRow_nH (hP : pOk P) : nH (gRow P) = gNH P := by
  have := gH_b hP
  show (nI (gNH P)).toInt.toNat = _
  rw [nI_toInt (by omega)]
  rfl
theorem gRow_nS (hP : pOk P) : nS (gRow P) = gNS P := by
  have := hP 3 5 (by omega)
  show (nI (gNS P)).toInt.toNat = _
  rw [nI_toInt (by unfold gNS; omega)]
  rfl
theorem gRow_nC (hP : pOk P) : nC (gRow P) = gNC P := by
  have := gC_b hP
  show (nI (gNC P)).toInt.toNat = _
  rw [nI_toInt (by omega)]
  rfl
theorem gRow_nB (hP : pOk P) : nB (gRow P) = gNB P := by
  have := hP 4 8 (by omega)
  show (nI (gNB P)).toInt.toNat = _
  rw [nI_toInt (by unfold gNB; omega)]
  rfl
theorem gRow_WF (hP : pOk P) : WF (gRow P) := by
  have h1 := gH_b hP
  have h2 := hP 3 5 (by omega)
  have h3 := gC_b hP
  have h4 := hP 4 8 (by omega)
  have e0 : qv (gRow P) 0 = gNH P := nI_toInt (by omega)
  have e1 : qv (gRow P) 1 = gNS P := nI_toInt (by unfold gNS; omega)
  have e2 : qv (gRow P) 2 = gNC P := nI_toInt (by omega)
  have e3 : qv (gRow P) 3 = gNB P := nI_toInt (by unfold gNB; omega)
  refine ⟨by omega, by unfold gNS at e1; omega, by omega, by unfold gNB at e3; omega, fun k hk => ?_, fun b hb => ?_, fun q q1 q2 => ?_⟩
  · rw [gRow_nS hP] at hk
    unfold gNS at hk
    have hw := hP (30 + k) 6 (by omega)
    have ht := gTurn_b hP k
    have z0 : qv (gRow P) (4 + 5 * k) = (1 + P (30 + k) 6 : Nat) := by
      have : gRow P (4 + 5 * k) = gSl P k 0 := gRow_s (j := 0) (by omega) (by omega)
      unfold qv
      rw [this]
      exact nI_toInt (by omega)
    have z1 : qv (gRow P) (5 + 5 * k) = gTurn P k := by
      have : gRow P (5 + 5 * k) = gSl P k 1 := by rw [show 5 + 5 * k = 4 + 5 * k + 1 by omega]; exact gRow_s (j := 1) (by omega) (by omega)
      unfold qv
      rw [this]
      exact iI_ti (by omega) (by omega)
    have z2 : qv (gRow P) (6 + 5 * k) = 0 := by
      have : gRow P (6 + 5 * k) = gSl P k 2 := by rw [show 6 + 5 * k = 4 + 5 * k + 2 by omega]; exact gRow_s (j := 2) (by omega) (by omega)
      unfold qv
      rw [this]
      rfl
    have z3 : qv (gRow P) (7 + 5 * k) = 1 := by
      have : gRow P (7 + 5 * k) = gSl P k 3 := by rw [show 7 + 5 * k = 4 + 5 * k + 3 by omega]; exact gRow_s (j := 3) (by omega) (by omega)
      unfold qv
      rw [this]
      rfl
    have z4 : qv (gRow P) (8 + 5 * k) = 1 := by
      have : gRow P (8 + 5 * k) = gSl P k 4 := by rw [show 8 + 5 * k = 4 + 5 * k + 4 by omega]; exact gRow_s (j := 4) (by omega) (by omega)
      unfold qv
      rw [this]
      rfl
    rw [z0, z1, z2, z3, z4]
    omega
  · rw [gRow_nB hP] at hb
    unfold gNB at hb
    have z : ∀ j, j < 6 → qv (gRow P) (54 + j + 6 * b) = gBn P b j := fun j hj => by
      have : gRow P (54 + j + 6 * b) = nI (gBn P b j) := by rw [show 54 + j + 6 * b = 54 + 6 * b + j by omega]; exact gRow_b (by omega) hj
      unfold qv
      rw [this]
      exact nI_toInt (by have := (gBn_b hP b j).1; omega)
    have b0 := (gBn_b hP b 0).2.1 rfl
    have b1 := (gBn_b hP b 1).2.2.1 rfl
    have b2 := (gBn_b hP b 2).2.2.2.1 rfl
    have b3 := (gBn_b hP b 3).2.2.2.2.1 rfl
    have b4 := (gBn_b hP b 4).2.2.2.2.2.1 rfl
    have b5 := (gBn_b hP b 5).2.2.2.2.2.2 rfl
    have z0 : qv (gRow P) (54 + 6 * b) = _ := z 0 (by omega)
    have z1 : qv (gRow P) (55 + 6 * b) = _ := z 1 (by omega)
    have z2 : qv (gRow P) (56 + 6 * b) = _ := z 2 (by omega)
    have z3 : qv (gRow P) (57 + 6 * b) = _ := z 3 (by omega)
    have z4 : qv (gRow P) (58 + 6 * b) = _ := z 4 (by omega)
    have z5 : qv (gRow P) (59 + 6 * b) = _ := z 5 (by omega)
    rw [z0, z1, z2, z3, z4, z5]
    clear z z0 z1 z2 z3 z4 z5 e0 e1 e2 e3
    omega
  · have : gRow P q = 0 := by
      unfold gRow
      rw [if_neg (by omega), if_neg (by omega), if_neg (by omega)]
    unfold qv
    rw [this]
    exact ⟨by decide, by decide⟩
theorem zC_l : ∀ i : Nat, i < 15 → (zC i).length = zLen.getD i 0 := fun i h => (zC_ok i h).1
theorem toldT_l (z : Int) (h : -4 ≤ z ∧ z ≤ 4) : (toldT z).length ≤ 8 := by
  unfold toldT
  have hz : z.natAbs < 10 := by omega
  rw [List.length_append, digs_l, if_pos hz]
  split
  · have := (zC_ok 11 (by omega)).2.1; omega
  · have := (zC_ok 10 (by omega)).2.1; omega
theorem digs_l2 (n : Nat) : (digs n).length ≤ 2 := by rw [digs_l]; split <;> omega
theorem slT_l (hP : pOk P) (k : Nat) : (slT P k).length ≤ 17 := by
  have h := hP (30 + k) 6 (by omega)
  have h1 : (zC 9).length = 5 := by decide
  have h2 : (zC 12).length = 3 := by decide
  have h3 := toldT_l _ (gTurn_b hP k)
  unfold slT
  rw [List.length_append, List.length_append, List.length_append, digs_l, if_pos (by omega), h1, h2]
  split
  · rw [List.length_nil]; omega
  · omega
theorem slsT_l (hP : pOk P) : ∀ k, (slsT P k).length ≤ 17 * k
  | 0 => Nat.le_refl 0
  | k + 1 => by
    have := slsT_l hP k
    have h := slT_l hP k
    show (slsT P k ++ slT P k).length ≤ _
    rw [List.length_append]
    omega
theorem bfT_l (b : Nat) : ∀ j, (bfT P b j).length ≤ 3 * j
  | 0 => Nat.le_refl 0
  | j + 1 => by
    have := bfT_l b j
    have h := digs_l2 (gBn P b (j + 1))
    have h1 : (zC 14).length = 1 := by decide
    show (bfT P b j ++ (zC 14 ++ digs (gBn P b (j + 1)))).length ≤ _
    rw [List.length_append, List.length_append, h1]
    omega
theorem boH_l (b : Nat) : (zC 13 ++ (if P (40 + b) 2 = 0 then zC 5 else zC 4)).length ≤ 9 := by
  have h1 : (zC 13).length = 4 := by decide
  have h2 : (zC 5).length = 4 := by decide
  have h3 : (zC 4).length = 5 := by decide
  rw [List.length_append, h1]
  split <;> omega
theorem boT_l (b : Nat) : (boT P b).length ≤ 25 := by
  have h1 := boH_l (P := P) b
  have h2 := bfT_l (P := P) b 5
  have h3 : (zC 8).length = 1 := by decide
  unfold boT
  rw [List.length_append, List.length_append, h3]
  omega
theorem bxsT_l : ∀ b, (bxsT P b).length ≤ 25 * b
  | 0 => Nat.le_refl 0
  | b + 1 => by
    have := bxsT_l b
    have h := boT_l (P := P) b
    show (bxsT P b ++ boT P b).length ≤ _
    rw [List.length_append]
    omega
theorem hiT_l : (hiT P).length ≤ 8 := by
  have h1 : (zC 7).length = 5 := by decide
  have h2 : (zC 8).length = 1 := by decide
  have h3 := digs_l2 (gNH P)
  unfold hiT
  split
  · rw [List.length_append, List.length_append, h1, h2]; omega
  · exact Nat.zero_le _
theorem coT_l : (coT P).length ≤ 8 := by
  have h1 : (zC 3).length = 5 := by decide
  have h2 : (zC 8).length = 1 := by decide
  have h3 := digs_l2 (gNC P)
  unfold coT
  split
  · rw [List.length_append, List.length_append, h1, h2]; omega
  · exact Nat.zero_le _
theorem zC_c {i : Nat} (h : i < 15) : ∀ c ∈ zC i, c < 128 := (zC_ok i h).2.2.2
abbrev asc (ts : List Nat) : Prop := ∀ c ∈ ts, c < 128
theorem asc_app {a b : List Nat} (ha : asc a) (hb : asc b) : asc (a ++ b) := fun c h => (List.mem_append.mp h).elim (ha c) (hb c)
theorem asc_nil : asc [] := fun c h => absurd h List.not_mem_nil
theorem asc_if {p : Prop} [Decidable p] {a b : List Nat} (ha : asc a) (hb : asc b) : asc (if p then a else b) := by split <;> assumption
theorem toldT_c (z : Int) (h : -4 ≤ z ∧ z ≤ 4) : asc (toldT z) := asc_app (asc_if (zC_c (by omega)) (zC_c (by omega))) (digs_c _ (by omega))
theorem slT_c (hP : pOk P) (k : Nat) : asc (slT P k) := by
  have h := hP (30 + k) 6 (by omega)
  exact asc_app (asc_app (asc_app (zC_c (by omega)) (digs_c _ (by omega))) (asc_if asc_nil (toldT_c _ (gTurn_b hP k)))) (zC_c (by omega))
theorem slsT_c (hP : pOk P) : ∀ k, asc (slsT P k)
  | 0 => asc_nil
  | k + 1 => asc_app (slsT_c hP k) (slT_c hP k)
theorem bfT_c (hP : pOk P) (b : Nat) : ∀ j, asc (bfT P b j)
  | 0 => asc_nil
  | j + 1 => asc_app (bfT_c hP b j) (asc_app (zC_c (by omega)) (digs_c _ (by have := (gBn_b hP b (j + 1)).1; omega)))
theorem boT_c (hP : pOk P) (b : Nat) : asc (boT P b) := asc_app (asc_app (asc_app (zC_c (by omega)) (asc_if (zC_c (by omega)) (zC_c (by omega)))) (bfT_c hP b 5)) (zC_c (by omega))
theorem bxsT_c (hP : pOk P) : ∀ b, asc (bxsT P b)
  | 0 => asc_nil
  | b + 1 => asc_app (bxsT_c hP b) (boT_c hP b)
theorem gText_c (hP : pOk P) : asc (gText P) := by
  have h1 := gH_b hP
  have h2 := gC_b hP
  exact asc_app (asc_app (asc_app (asc_if (asc_app (asc_app (zC_c (by omega)) (digs_c _ (by omega))) (zC_c (by omega))) asc_nil) (slsT_c hP _)) (bxsT_c hP _)) (asc_if (asc_app (asc_app (zC_c (by omega)) (digs_c _ (by omega))) (zC_c (by omega))) asc_nil)
theorem gText_l (hP : pOk P) : (gText P).length ≤ 264 := by
  have h1 := hiT_l (P := P)
  have h2 := slsT_l hP (gNS P)
  have h3 := bxsT_l (P := P) (gNB P)
  have h4 := coT_l (P := P)
  have h5 := hP 3 5 (by omega)
  have h6 := hP 4 8 (by omega)
  unfold gText
  rw [List.length_append, List.length_append, List.length_append]
  unfold gNS gNB at *
  omega
end GRw
