/-! the reference: turnsNeeded() -/
section ZMN
variable {g : zG} {l : Launch} {K : Int32 → zS → Prop} {X : String → zS → Prop} {m : Nat → Int32} {σ : zS}
/-- a set of bits as a number -/
def bN (p : Nat → Bool) : Nat → Nat
  | 0 => 0
  | n + 1 => if p n then bN p n + 2 ^ n else bN p n
theorem bN_lt (p : Nat → Bool) : ∀ n, bN p n < 2 ^ n
  | 0 => by show 0 < 1; decide
  | n + 1 => by
    have := bN_lt p n
    have e : 2 ^ (n + 1) = 2 ^ n + 2 ^ n := by rw [Nat.pow_succ]; omega
    unfold bN; split <;> omega
theorem bN_add {x n j : Nat} (h : x < 2 ^ n) : (2 ^ n + x).testBit j = (decide (j = n) || x.testBit j) := by
  rw [show 2 ^ n + x = 2 ^ n ||| x by
    have := Nat.two_pow_add_eq_or_of_lt h 1
    rw [Nat.mul_one] at this
    exact this, Nat.testBit_or, Nat.testBit_two_pow]
  by_cases e : n = j
  · subst e; simp
  · simp [e, show ¬ j = n from fun q => e q.symm]
theorem bN_bt (p : Nat → Bool) : ∀ n j, (bN p n).testBit j = (decide (j < n) && p j)
  | 0, j => by simp [bN]
  | n + 1, j => by
    have ih := bN_bt p n
    have hl := bN_lt p n
    unfold bN
    by_cases h : p n = true
    · rw [if_pos h, Nat.add_comm, bN_add hl, ih]
      by_cases e : j = n
      · subst e; simp [h]
      · by_cases q : j < n
        · simp [e, q, show j < n + 1 by omega]
        · simp [e, q, show ¬ j < n + 1 by omega]
    · rw [if_neg h, ih]
      by_cases e : j = n
      · subst e; simp [h]
      · by_cases q : j < n
        · simp [q, show j < n + 1 by omega]
        · simp [q, show ¬ j < n + 1 by omega]
theorem bN_or {p : Nat → Bool} {k : Nat} (hk : k < 31) : nI (bN p k) ||| (iI 1 <<< (iI (k : Int) &&& iI 31)) = nI (bN p k + 2 ^ k) := by
  apply b_ext
  intro i hi
  have hs : bt (iI 1 <<< (iI (k : Int) &&& iI 31)) i = decide (i = k) := by
    show bt ((1 : Int32) <<< (nI k &&& 31)) i = _
    rw [b_shl k (by omega) 1 hi]
    have h1 : ∀ j, bt 1 j = decide (j = 0) := by
      intro j
      by_cases hj : j < 32
      · show bt (nI 1) j = _
        rw [bt_nI _ _ hj]
        exact (by decide +kernel : ∀ i, i < 32 → (1 : Nat).testBit i = decide (i = 0)) j hj
      · rw [b_big (by omega)]; simp; omega
    rw [h1]
    by_cases e : i = k
    · subst e; simp
    · simp [e]; omega
  rw [b_or, hs, bt_nI _ _ hi, bt_nI _ _ hi, Nat.add_comm, bN_add (bN_lt p k), Bool.or_comm]
def otP (m : Nat → Int32) (t : Int) (k : Nat) : Bool := decide (td m k = 0 ∧ tu m k ≠ t)
def pc (N : Nat) : Nat := fb_ct (fun j => N.testBit j) 10
theorem pc_le (N : Nat) : pc N ≤ 10 := fb_ct_le _ _
abbrev L31 : List Nat := [31]
/-- the turns with a set of slats turned -/
def tS (m : Nat → Int32) (S : Nat) (t : Int) (k : Nat) : Int := if S.testBit k = true then t else tu m k
theorem zup_sw {w x : Nat → Int32} {k : Nat} {v : Int32} : zup (zpt (zpt σ 31 w) 26 x) 31 k v = zpt (zpt σ 31 (upd w k v)) 26 x := by
  show zpt (zpt (zpt σ 31 w) 26 x) 31 (upd ((zpt (zpt σ 31 w) 26 x).1 31) k v) = _
  rw [zpt_ne (by decide), zpt_at, zpt_sw (zpt σ 31 w) (by decide), zpt_zpt]
/-- one turn for all that is in reach: no tied slat has another one, and the picture is whole then -/
noncomputable def gdT (m : Nat → Int32) (a : Int) (s : Nat) (t : Int) : Nat := if fb_ct (fun k => decide (tu m k ≠ t ∧ td m k ≠ 0)) (nS m) = 0 then wN (wT m (fun _ => t)) a s else 0
def cnT (m : Nat → Int32) (t : Int) : Nat := fb_ct (fun k => decide (tu m k ≠ t)) (nS m)
theorem by_set (hw : WF m) {a : Int} {s S : Nat} {t : Int} (ht : -4 ≤ t ∧ t ≤ 4) (hsub : ∀ j, S.testBit j = true → (bN (otP m t) (nS m)).testBit j = true) (h0 : S ≠ 0) (h1 : wN (wT m (tS m S t)) a s = 1) : gdT m a s t = 1 ∧ S = bN (otP m t) (nS m) ∧ pc S = cnT m t ∧ 0 < cnT m t := by
  have hb := wf_b hw
  have htS : ∀ j, j < nS m → -4 ≤ tS m S t j ∧ tS m S t j ≤ 4 := fun j hj => by
    have := wf_s hw hj
    unfold tS
    split <;> omega
  have hw' : WF (wT m (tS m S t)) := wT_wf hw htS
  have hal := whole_turns hw' h1
  rw [wT_nS] at hal
  have hO : ∀ j, S.testBit j = true → j < nS m ∧ td m j = 0 ∧ tu m j ≠ t := fun j hj => by
    have := hsub j hj
    rw [bN_bt] at this
    simp only [Bool.and_eq_true, decide_eq_true_eq, otP] at this
    exact ⟨this.1, this.2⟩
  obtain ⟨j0, hj0⟩ := Nat.exists_testBit_of_ne_zero h0
  have hj0' := (hO j0 hj0).1
  have all : ∀ k, k < nS m → tS m S t k = t := fun k hk => by
    have e1 := hal k hk
    have e2 := hal j0 hj0'
    rw [wT_tu hk (htS k hk), wT_tu (by omega) (htS 0 (by omega))] at e1
    rw [wT_tu hj0' (htS j0 hj0'), wT_tu (by omega) (htS 0 (by omega))] at e2
    have e3 : tS m S t j0 = t := if_pos hj0
    rw [e1, ← e2, e3]
  have hin : ∀ k, k < nS m → (S.testBit k = true ↔ tu m k ≠ t) := fun k hk => by
    refine ⟨fun q => (hO k q).2.2, fun q => ?_⟩
    have := all k hk
    unfold tS at this
    by_cases e : S.testBit k = true
    · exact e
    · rw [if_neg e] at this; exact absurd this q
  have hwe : wT m (tS m S t) = wT m (fun _ => t) := wT_cong all
  refine ⟨?_, ?_, ?_, ?_⟩
  · unfold gdT
    rw [if_pos ?_]
    · rw [← hwe]; exact h1
    · rw [fb_ct_zero]
      intro k hk
      simp only [decide_eq_false_iff_not]
      intro q
      exact q.2 (hO k ((hin k hk).mpr q.1)).2.1
  · apply Nat.eq_of_testBit_eq
    intro j
    rw [bN_bt]
    by_cases hj : j < nS m
    · simp only [hj, decide_true, Bool.true_and, otP]
      by_cases e : S.testBit j = true
      · rw [e]; exact (decide_eq_true (hO j e).2).symm
      · rw [Bool.not_eq_true] at e
        rw [e]
        refine (decide_eq_false (fun q => ?_)).symm
        have := (hin j hj).mpr q.2
        rw [e] at this; exact absurd this (by decide)
    · simp only [hj, decide_false, Bool.false_and]
      cases e : S.testBit j
      · rfl
      · exact absurd (hO j e).1 hj
  · unfold pc cnT
    have e := fb_ct_split (fun j => S.testBit j) (nS m) (10 - nS m)
    rw [show nS m + (10 - nS m) = 10 by omega, (fb_ct_zero (p := fun k => S.testBit (nS m + k)) (n := 10 - nS m)).mpr (fun k _ => by
      cases e : S.testBit (nS m + k)
      · rfl
      · have := (hO _ e).1; omega)] at e
    rw [e, Nat.add_zero]
    refine fb_ct_cong (fun k hk => ?_)
    by_cases q : S.testBit k = true
    · rw [q]; exact (decide_eq_true ((hin k hk).mp q)).symm
    · rw [Bool.not_eq_true] at q
      rw [q]
      refine (decide_eq_false (fun x => ?_)).symm
      have := (hin k hk).mpr x
      rw [q] at this; exact absurd this (by decide)
  · unfold cnT
    rw [fb_ct_pos]
    exact ⟨j0, hj0', decide_eq_true (hO j0 hj0).2.2⟩
theorem by_all (hw : WF m) {a : Int} {s : Nat} {t : Int} (ht : -4 ≤ t ∧ t ≤ 4) (h1 : gdT m a s t = 1) : wN (wT m (tS m (bN (otP m t) (nS m)) t)) a s = 1 := by
  unfold gdT at h1
  by_cases q : fb_ct (fun k => decide (tu m k ≠ t ∧ td m k ≠ 0)) (nS m) = 0
  · rw [if_pos q] at h1
    rw [wT_cong (m := m) (t := tS m (bN (otP m t) (nS m)) t) (t' := fun _ => t) (fun k hk => ?_)]
    · exact h1
    · unfold tS
      rw [bN_bt]
      have := fb_ct_zero.mp q k hk
      simp only [decide_eq_false_iff_not] at this
      simp only [hk, decide_true, Bool.true_and, otP, decide_eq_true_eq]
      by_cases e : tu m k = t
      · split
        · rfl
        · exact e
      · rw [if_pos ⟨Decidable.not_not.mp (fun x => this ⟨e, x⟩), e⟩]
  · rw [if_neg q] at h1; omega
theorem pc_O (hw : WF m) {t : Int} (h0 : fb_ct (fun k => decide (tu m k ≠ t ∧ td m k ≠ 0)) (nS m) = 0) : pc (bN (otP m t) (nS m)) = cnT m t := by
  have hb := wf_b hw
  unfold pc cnT
  have e := fb_ct_split (fun j => (bN (otP m t) (nS m)).testBit j) (nS m) (10 - nS m)
  rw [show nS m + (10 - nS m) = 10 by omega, (fb_ct_zero (p := fun k => (bN (otP m t) (nS m)).testBit (nS m + k)) (n := 10 - nS m)).mpr (fun k _ => by
    rw [bN_bt, decide_eq_false (by omega : ¬ nS m + k < nS m), Bool.false_and])] at e
  rw [e, Nat.add_zero]
  refine fb_ct_cong (fun k hk => ?_)
  have := fb_ct_zero.mp h0 k hk
  simp only [decide_eq_false_iff_not] at this
  rw [bN_bt]
  simp only [hk, decide_true, Bool.true_and, otP]
  by_cases e : tu m k = t
  · simp [e]
  · rw [decide_eq_true e, decide_eq_true ⟨Decidable.not_not.mp (fun x => this ⟨e, x⟩), e⟩]
theorem cn_O {t : Int} (h : 0 < cnT m t) (h0 : fb_ct (fun k => decide (tu m k ≠ t ∧ td m k ≠ 0)) (nS m) = 0) : bN (otP m t) (nS m) ≠ 0 := by
  unfold cnT at h
  obtain ⟨k, hk, hp⟩ := fb_ct_pos.mp h
  simp only [decide_eq_true_eq] at hp
  have := fb_ct_zero.mp h0 k hk
  simp only [decide_eq_false_iff_not] at this
  intro e
  have hb := bN_bt (otP m t) (nS m) k
  rw [e, Nat.zero_testBit] at hb
  simp only [hk, decide_true, Bool.true_and, otP] at hb
  exact of_decide_eq_false hb.symm ⟨Decidable.not_not.mp (fun x => this ⟨hp, x⟩), hp⟩
/-- the least number of slats so far -/
noncomputable def lsN (m : Nat → Int32) (a : Int) (s : Nat) : Nat → Nat
  | 0 => 11
  | n + 1 => if gdT m a s (-4 + (n : Int)) = 1 ∧ 0 < cnT m (-4 + (n : Int)) ∧ cnT m (-4 + (n : Int)) < lsN m a s n then cnT m (-4 + (n : Int)) else lsN m a s n
theorem lsN_le (m : Nat → Int32) (a : Int) (s : Nat) : ∀ n, lsN m a s n ≤ 11
  | 0 => Nat.le_refl _
  | n + 1 => by
    have := lsN_le m a s n
    unfold lsN; split <;> omega
theorem and_sub {S O j : Nat} (h : (S &&& O).testBit j = true) : O.testBit j = true := by
  rw [Nat.testBit_and, Bool.and_eq_true] at h
  exact h.2
noncomputable def tnN (m : Nat → Int32) (a : Int) (s : Nat) : Int := if wN m a s = 1 then 0 else if lsN m a s 9 ≤ 10 then (lsN m a s 9 : Int) else -1
end ZMN

