/-! the tokens of a text: pure -/
abbrev isL (v : Nat) : Prop := 97 ≤ v ∧ v ≤ 122
abbrev isD (v : Nat) : Prop := 48 ≤ v ∧ v ≤ 57
abbrev isB (v : Nat) : Prop := v = 32 ∨ v = 10
/-- where the run from q ends -/
def runQ (P : Nat → Prop) [DecidablePred P] (f : Nat → Nat) (n q : Nat) : Nat := if q < n ∧ P (f q) then runQ P f n (q + 1) else q
termination_by n - q
theorem runQ_y {P : Nat → Prop} [DecidablePred P] {f : Nat → Nat} {n q : Nat} (h : q < n) (h' : P (f q)) : runQ P f n q = runQ P f n (q + 1) := by
  rw [runQ, if_pos ⟨h, h'⟩]
theorem runQ_n {P : Nat → Prop} [DecidablePred P] {f : Nat → Nat} {n q : Nat} (h : ¬ (q < n ∧ P (f q))) : runQ P f n q = q := by
  rw [runQ, if_neg h]
theorem runQ_le (P : Nat → Prop) [DecidablePred P] (f : Nat → Nat) (n q : Nat) : q ≤ runQ P f n q := by
  by_cases h : q < n ∧ P (f q)
  · rw [runQ_y h.1 h.2]
    have := runQ_le P f n (q + 1)
    omega
  · rw [runQ_n h]; exact Nat.le_refl _
termination_by n - q
theorem runQ_hi (P : Nat → Prop) [DecidablePred P] (f : Nat → Nat) (n q : Nat) (hq : q ≤ n) : runQ P f n q ≤ n := by
  by_cases h : q < n ∧ P (f q)
  · rw [runQ_y h.1 h.2]
    exact runQ_hi P f n (q + 1) (by omega)
  · rw [runQ_n h]; exact hq
termination_by n - q
theorem runQ_in (P : Nat → Prop) [DecidablePred P] (f : Nat → Nat) (n q i : Nat) (h1 : q ≤ i) (h2 : i < runQ P f n q) : P (f i) := by
  by_cases h : q < n ∧ P (f q)
  · rw [runQ_y h.1 h.2] at h2
    by_cases e : q = i
    · exact e ▸ h.2
    · exact runQ_in P f n (q + 1) i (by omega) h2
  · rw [runQ_n h] at h2; omega
termination_by n - q
theorem runQ_out (P : Nat → Prop) [DecidablePred P] (f : Nat → Nat) (n q : Nat) (h2 : runQ P f n q < n) : ¬ P (f (runQ P f n q)) := by
  by_cases h : q < n ∧ P (f q)
  · rw [runQ_y h.1 h.2] at h2 ⊢
    exact runQ_out P f n (q + 1) h2
  · rw [runQ_n h] at h2 ⊢
    exact fun q => h ⟨h2, q⟩
termination_by n - q
theorem runQ_to {P : Nat → Prop} [DecidablePred P] {f : Nat → Nat} {n q : Nat} (i : Nat) (h1 : q ≤ i) (h2 : i < runQ P f n q) : i < n := by
  by_cases h : q ≤ n
  · have := runQ_hi P f n q h; omega
  · rw [runQ_n (by omega)] at h2; omega
def ztS (f : Nat → Nat) (n p : Nat) : Nat := runQ isB f n p
def ztL (f : Nat → Nat) (n p : Nat) : Nat := runQ isL f n (ztS f n p)
def ztD (f : Nat → Nat) (n p : Nat) : Nat := runQ isD f n (ztS f n p)
abbrev isG (v : Nat) : Prop := v = 59 ∨ v = 40 ∨ v = 41
def ztE (f : Nat → Nat) (n p : Nat) : Nat :=
  if n ≤ ztS f n p then ztS f n p else if ztS f n p < ztL f n p then ztL f n p else if ztS f n p < ztD f n p then ztD f n p else ztS f n p + 1
/-- 0 the end, 1 none, 2 a word, 3 a number, or the sign itself -/
def ztK (f : Nat → Nat) (n p : Nat) : Nat :=
  if n ≤ ztS f n p then 0 else if ztS f n p < ztL f n p then (if ztL f n p - ztS f n p ≤ 8 then 2 else 1)
  else if ztS f n p < ztD f n p then (if ztD f n p - ztS f n p ≤ 3 then 3 else 1) else if isG (f (ztS f n p)) then f (ztS f n p) else 1
/-- the number that the digits from q up to e tell -/
def vQ (f : Nat → Nat) (s : Nat) : Nat → Nat
  | 0 => 0
  | k + 1 => 10 * vQ f s k + (f (s + k) - 48)
def ztV (f : Nat → Nat) (n p : Nat) : Nat := vQ f (ztS f n p) (ztE f n p - ztS f n p)
/-- the letters, in base 32 -/
def hQ (f : Nat → Nat) (s : Nat) : Nat → Nat
  | 0 => 0
  | k + 1 => 32 * hQ f s k + (f (s + k) - 96)
section ZTk
variable {f : Nat → Nat} {n p : Nat}
theorem ztS_le : p ≤ ztS f n p := runQ_le _ _ _ _
theorem ztS_hi (h : p ≤ n) : ztS f n p ≤ n := runQ_hi _ _ _ _ h
theorem ztE_hi (h : p ≤ n) : ztE f n p ≤ n := by
  have h1 := ztS_hi (f := f) h
  unfold ztE
  by_cases e : n ≤ ztS f n p
  · rw [if_pos e]; exact h1
  · rw [if_neg e]
    have h2 : ztL f n p ≤ n := runQ_hi _ _ _ _ h1
    have h3 : ztD f n p ≤ n := runQ_hi _ _ _ _ h1
    split
    · exact h2
    · split
      · exact h3
      · omega
theorem ztK_0 : ztK f n p = 0 ↔ n ≤ ztS f n p := by
  unfold ztK
  by_cases e : n ≤ ztS f n p
  · rw [if_pos e]; exact ⟨fun _ => e, fun _ => rfl⟩
  · rw [if_neg e]
    refine ⟨fun q => ?_, fun q => absurd q e⟩
    revert q
    unfold isG
    repeat' split
    all_goals omega
theorem ztE_gt (h : ztK f n p ≠ 0) : p < ztE f n p := by
  have h1 : ¬ n ≤ ztS f n p := fun e => h (ztK_0.mpr e)
  have h2 := ztS_le (f := f) (n := n) (p := p)
  unfold ztE
  rw [if_neg h1]
  split
  · omega
  · split <;> omega
theorem vQ_lt {s : Nat} : ∀ {k : Nat}, k ≤ 3 → (∀ i, i < k → isD (f (s + i))) → vQ f s k < 10 ^ k
  | 0, _, _ => Nat.one_pos
  | k + 1, h, h' => by
    have := vQ_lt (k := k) (by omega) (fun i hi => h' i (by omega))
    have h1 := h' k (by omega)
    unfold isD at h1
    rw [Nat.pow_succ]
    show 10 * vQ f s k + (f (s + k) - 48) < _
    omega
theorem hQ_lt {s : Nat} : ∀ {k : Nat}, (∀ i, i < k → isL (f (s + i))) → hQ f s k < 32 ^ k
  | 0, _ => Nat.one_pos
  | k + 1, h' => by
    have := hQ_lt (k := k) (fun i hi => h' i (by omega))
    have h1 := h' k (by omega)
    unfold isL at h1
    rw [Nat.pow_succ]
    show 32 * hQ f s k + (f (s + k) - 96) < _
    omega
theorem hQ_inj {a : Nat → Nat} {s : Nat} : ∀ {k j : Nat}, (∀ i, i < k → isL (f (s + i))) → (∀ i, i < j → isL (a (0 + i))) → hQ f s k = hQ a 0 j → k = j ∧ ∀ i, i < k → f (s + i) = a i
  | 0, 0, _, _, _ => ⟨rfl, fun i hi => absurd hi (Nat.not_lt_zero i)⟩
  | 0, j + 1, _, h2, e => by
    have h := h2 j (by omega)
    unfold isL at h
    have e' : 0 = 32 * hQ a 0 j + (a (0 + j) - 96) := e
    omega
  | k + 1, 0, h1, _, e => by
    have h := h1 k (by omega)
    unfold isL at h
    have e' : 32 * hQ f s k + (f (s + k) - 96) = 0 := e
    omega
  | k + 1, j + 1, h1, h2, e => by
    have h := h1 k (by omega)
    have h' := h2 j (by omega)
    unfold isL at h h'
    have e' : 32 * hQ f s k + (f (s + k) - 96) = 32 * hQ a 0 j + (a (0 + j) - 96) := e
    have e1 : hQ f s k = hQ a 0 j := by omega
    have e2 : f (s + k) = a (0 + j) := by omega
    obtain ⟨r, r'⟩ := hQ_inj (k := k) (j := j) (fun i hi => h1 i (by omega)) (fun i hi => h2 i (by omega)) e1
    refine ⟨by omega, fun i hi => ?_⟩
    by_cases q : i = k
    · subst q; rw [e2]; congr 1; omega
    · exact r' i (by omega)
theorem hQ_cong {a b : Nat → Nat} {s t : Nat} : ∀ {k : Nat}, (∀ i, i < k → a (s + i) = b (t + i)) → hQ a s k = hQ b t k
  | 0, _ => rfl
  | k + 1, h => by
    show 32 * hQ a s k + (a (s + k) - 96) = 32 * hQ b t k + (b (t + k) - 96)
    rw [hQ_cong (fun i hi => h i (by omega)), h k (by omega)]
/-- the words -/
def wBy : List (List Nat) := [[104, 105, 103, 104], [115, 108, 97, 116], [98, 111, 120], [99, 111, 97, 116, 115], [114, 105, 103, 104, 116], [108, 101, 102, 116], [112, 117, 108, 108], [116, 117, 114, 110], [116, 105, 101], [102, 114, 101, 101], [112, 97, 105, 110, 116], [100, 97, 98], [115, 119, 97, 112], [114, 101, 112, 101, 97, 116]]
def wL (w : Nat) : Nat := (wBy.getD w []).length
def wB (w i : Nat) : Nat := (wBy.getD w []).getD i 0
def wH (w : Nat) : Nat := hQ (wB w) 0 (wL w)
/-- the token is the word -/
def isWd (f : Nat → Nat) (n p w : Nat) : Prop := ztK f n p = 2 ∧ ztE f n p - ztS f n p = wL w ∧ ∀ i, i < wL w → f (ztS f n p + i) = wB w i
theorem wB_L : ∀ w, w < 14 → ∀ i, i < wL w → isL (wB w (0 + i)) := by decide +kernel
theorem wL_8 : ∀ w, w < 14 → wL w ≤ 8 := by decide +kernel
theorem ztK_2 (h : ztK f n p = 2) : ztS f n p < ztE f n p ∧ ztE f n p ≤ ztS f n p + 8 ∧ ztE f n p = ztL f n p ∧ ztE f n p ≤ n ∧ ∀ i, i < ztE f n p - ztS f n p → isL (f (ztS f n p + i)) := by
  have key : ¬ n ≤ ztS f n p ∧ ztS f n p < ztL f n p ∧ ztL f n p - ztS f n p ≤ 8 := by
    revert h
    unfold ztK isG
    repeat' split
    all_goals omega
  obtain ⟨h1, h2, h3⟩ := key
  have e : ztE f n p = ztL f n p := by unfold ztE; rw [if_neg h1, if_pos h2]
  rw [e]
  refine ⟨h2, by omega, rfl, ?_, fun i hi => runQ_in isL f n (ztS f n p) _ (by omega) (by show _ < ztL f n p; omega)⟩
  exact runQ_hi _ _ _ _ (by omega)
theorem ztK_3 (h : ztK f n p = 3) : ztS f n p < ztE f n p ∧ ztE f n p ≤ ztS f n p + 3 ∧ ztE f n p = ztD f n p ∧ ztE f n p ≤ n ∧ ∀ i, i < ztE f n p - ztS f n p → isD (f (ztS f n p + i)) := by
  have key : ¬ n ≤ ztS f n p ∧ ¬ ztS f n p < ztL f n p ∧ ztS f n p < ztD f n p ∧ ztD f n p - ztS f n p ≤ 3 := by
    revert h
    unfold ztK isG
    repeat' split
    all_goals omega
  obtain ⟨h1, h4, h2, h3⟩ := key
  have e : ztE f n p = ztD f n p := by unfold ztE; rw [if_neg h1, if_neg h4, if_pos h2]
  rw [e]
  refine ⟨h2, by omega, rfl, ?_, fun i hi => runQ_in isD f n (ztS f n p) _ (by omega) (by show _ < ztD f n p; omega)⟩
  exact runQ_hi _ _ _ _ (by omega)
theorem ztV_lt (h : ztK f n p = 3) : ztV f n p < 1000 := by
  obtain ⟨_, h2, _, _, h3⟩ := ztK_3 h
  have := vQ_lt (f := f) (s := ztS f n p) (k := ztE f n p - ztS f n p) (by omega) h3
  refine Nat.lt_of_lt_of_le this (Nat.le_trans (Nat.pow_le_pow_right (by decide) (show _ ≤ 3 by omega)) (by decide))
theorem ztK_256 (hf : ∀ i, i < n → f i < 256) : ztK f n p < 256 := by
  by_cases e : n ≤ ztS f n p
  · rw [ztK_0.mpr e]; decide
  · have := hf (ztS f n p) (by omega)
    unfold ztK
    repeat' split
    all_goals omega
theorem isWd_H {w : Nat} (hw : w < 14) : isWd f n p w ↔ ztK f n p = 2 ∧ hQ f (ztS f n p) (ztE f n p - ztS f n p) = wH w := by
  constructor
  · intro h
    refine ⟨h.1, ?_⟩
    rw [h.2.1]
    exact hQ_cong (fun i hi => by rw [h.2.2 i hi]; congr 1; omega)
  · intro h
    obtain ⟨_, _, _, _, h3⟩ := ztK_2 h.1
    obtain ⟨a, b⟩ := hQ_inj h3 (wB_L w hw) h.2
    exact ⟨h.1, a, fun i hi => b i (by omega)⟩
/-- a word is one of them at most -/
theorem wH_inj : ∀ w, w < 14 → ∀ v, v < 14 → wH w = wH v → w = v := by decide +kernel
theorem isWd_1 {w v : Nat} (hw : w < 14) (hv : v < 14) (h : isWd f n p w) (h' : isWd f n p v) : w = v :=
  wH_inj w hw v hv (((isWd_H hw).mp h).2.symm.trans ((isWd_H hv).mp h').2)
end ZTk
/-- a byte as a signed number -/
def sv (v : Nat) : Int := if v < 128 then v else v - 256
theorem sv_all : ∀ v : Nat, v < 256 → (iI (v : Int)).toInt8.toInt32 = iI (if v < 128 then (v : Int) else v - 256) := by decide +kernel
theorem sv_eq {v : Nat} (h : v < 256) : sbN v = iI (sv v) := by
  unfold sbN sv
  exact sv_all v h
theorem sv_c {v : Nat} (h : v < 256) : (v < 128 ∧ sv v = v) ∨ (128 ≤ v ∧ sv v = v - 256) := by
  unfold sv
  by_cases e : v < 128
  · rw [if_pos e]; omega
  · rw [if_neg e]; omega

