/-! what the questions rest on: sums, bits, floats, the first of the best -/
section HMt
variable {m : Nat → Int32}
theorem ct_three {p q r : Nat → Bool} : ∀ {n : Nat}, (∀ k, k < n → (if p k then 1 else 0 : Nat) + (if q k then 1 else 0 : Nat) + (if r k then 1 else 0 : Nat) = 1) → fb_ct p n + fb_ct q n + fb_ct r n = n
  | 0, _ => rfl
  | n + 1, h => by
    have ih := ct_three (p := p) (q := q) (r := r) (n := n) (fun k hk => h k (by omega))
    have h1 := h n (by omega)
    rw [fb_ct_succ, fb_ct_succ, fb_ct_succ]
    omega
theorem ct_sm {f : Nat → Nat} {p : Nat → Bool} {h : Nat} : ∀ {n : Nat}, (∀ k, k < n → f k ≤ if p k then h else 0) → fb_sm f n ≤ h * fb_ct p n
  | 0, _ => Nat.zero_le _
  | n + 1, H => by
    have ih := ct_sm (f := f) (p := p) (h := h) (n := n) (fun k hk => H k (by omega))
    have h1 := H n (by omega)
    rw [fb_sm_succ, fb_ct_succ, Nat.mul_add]
    by_cases q : p n = true
    · rw [if_pos q] at h1 ⊢
      rw [Nat.mul_one]
      omega
    · rw [if_neg q] at h1 ⊢
      omega
def shC (m : Nat → Int32) (a : Int) (n : Nat) : Nat := fb_ct (fun c => decide (stt m a c = 0)) n
noncomputable def rgC (m : Nat → Int32) (a : Int) (s c n : Nat) : Nat := fb_ct (fun r => decide (whyN m a s c r = 0)) n
theorem rgC_sm (a : Int) (s : Nat) : rgt m a s = fb_sm (fun c => rgC m a s c (nH m)) (cols m) := rfl
theorem sh_all (m : Nat → Int32) (a : Int) : nH m * shC m a (cols m) + opN m a + nH m * colsAs m a 1 1 = cols m * nH m := by
  have h := ct_three (p := fun c => decide (stt m a c = 0)) (q := fun c => decide (2 ≤ stt m a c ∧ stt m a c ≤ 3)) (r := fun c => decide (1 ≤ stt m a c ∧ stt m a c ≤ 1)) (n := cols m) (fun k _ => by
    have h3 := stt_le m a k
    show (if decide (stt m a k = 0) = true then 1 else 0 : Nat) + (if decide (2 ≤ stt m a k ∧ stt m a k ≤ 3) = true then 1 else 0 : Nat) + (if decide (1 ≤ stt m a k ∧ stt m a k ≤ 1) = true then 1 else 0 : Nat) = 1
    revert h3
    generalize stt m a k = t
    intro h3
    match t, h3 with
    | 0, _ => rfl
    | 1, _ => rfl
    | 2, _ => rfl
    | 3, _ => rfl
    | n + 4, h => omega)
  unfold shC opN colsAs
  rw [← Nat.mul_add, ← Nat.mul_add, h, Nat.mul_comm]
theorem why_of (a : Int) (s c r : Nat) : (stt m a c ≠ 0 ∧ whyN m a s c r = stt m a c) ∨ (stt m a c = 0 ∧ ((whyN m a s c r = 0 ∧ cS m a c r = pic m s c r) ∨ ((whyN m a s c r = 4 ∨ whyN m a s c r = 5) ∧ cS m a c r ≠ pic m s c r))) := by
  by_cases h : stt m a c ≠ 0
  · exact Or.inl ⟨h, by unfold whyN; rw [if_pos h]⟩
  · refine Or.inr ⟨by omega, ?_⟩
    by_cases e : cS m a c r = pic m s c r
    · exact Or.inl ⟨by unfold whyN; rw [if_neg h, if_pos e], e⟩
    · refine Or.inr ⟨?_, e⟩
      unfold whyN
      rw [if_neg h, if_neg e]
      split
      · exact Or.inl rfl
      · exact Or.inr rfl
theorem gh_le (m : Nat → Int32) (a : Int) (s : Nat) : rgt m a s + fb_sm (ghC m a s) (cols m) ≤ nH m * shC m a (cols m) := by
  rw [rgC_sm, ← fb_sm_add]
  refine ct_sm (fun c _ => ?_)
  by_cases h : stt m a c = 0
  · rw [if_pos (decide_eq_true h)]
    unfold rgC ghC
    rw [if_neg (by omega), ← fb_ct_or (fun r _ z => ?_)]
    · exact fb_ct_le _ _
    · have z1 := of_decide_eq_true z.1
      have z2 := of_decide_eq_true z.2
      rcases why_of (m := m) a s c r with w | ⟨-, w | w⟩
      · exact w.1 h
      · exact z2.1 w.2
      · omega
  · rw [if_neg (by rw [decide_eq_true_iff]; exact h)]
    have e1 : rgC m a s c (nH m) = 0 := fb_ct_zero.mpr (fun r _ => decide_eq_false (by
      rcases why_of (m := m) a s c r with w | w
      · omega
      · exact absurd w.1 h))
    have e2 : ghC m a s c = 0 := by unfold ghC; rw [if_pos h]
    show rgC m a s c (nH m) + ghC m a s c ≤ 0
    omega
theorem sh_le (m : Nat → Int32) (a : Int) (n : Nat) : shC m a n ≤ n := fb_ct_le _ _
/-- the first of the best is as good as any -/
theorem bst_max {f v : Nat → Int} {b0 m0 : Int} : ∀ n, m0 ≤ (bst f v b0 m0 n).2 ∧ (∀ i, i < n → f i ≤ (bst f v b0 m0 n).2) ∧ (bst f v b0 m0 n = (b0, m0) ∨ ∃ j, j < n ∧ bst f v b0 m0 n = (v j, f j) ∧ m0 < f j)
  | 0 => ⟨Int.le_refl _, fun i hi => by omega, Or.inl rfl⟩
  | n + 1 => by
    obtain ⟨h1, h2, h3⟩ := bst_max (f := f) (v := v) (b0 := b0) (m0 := m0) n
    by_cases h : (bst f v b0 m0 n).2 < f n
    · rw [bst_y h]
      refine ⟨by show m0 ≤ f n; omega, fun i hi => ?_, Or.inr ⟨n, by omega, rfl, by omega⟩⟩
      show f i ≤ f n
      by_cases e : i = n
      · rw [e]; exact Int.le_refl _
      · have := h2 i (by omega)
        omega
    · rw [bst_n h]
      refine ⟨h1, fun i hi => ?_, h3.imp id (fun ⟨j, x, y⟩ => ⟨j, by omega, y⟩)⟩
      by_cases e : i = n
      · rw [e]; omega
      · exact h2 i (by omega)
theorem bst_pos {f v : Nat → Int} {b0 : Int} {n : Nat} (hn : 0 < n) (hf : ∀ i, i < n → 0 ≤ f i) : ∃ j, j < n ∧ (bst f v b0 (-1) n).1 = v j ∧ ∀ i, i < n → f i ≤ f j := by
  obtain ⟨h1, h2, h3⟩ := bst_max (f := f) (v := v) (b0 := b0) (m0 := -1) n
  rcases h3 with h3 | ⟨j, j1, j2, j3⟩
  · have := h2 0 hn
    have := hf 0 hn
    rw [h3] at h2
    have := h2 0 hn
    simp only at this
    omega
  · refine ⟨j, j1, by rw [j2], fun i hi => ?_⟩
    have := h2 i hi
    rw [j2] at this
    exact this
theorem ba_ok (m : Nat → Int32) (s : Nat) : ∃ j : Nat, j < 13 ∧ (baN m s 13).1 = -6 + (j : Int) ∧ ∀ a : Int, -6 ≤ a → a ≤ 6 → rgt m a s ≤ rgt m (-6 + (j : Int)) s := by
  obtain ⟨j, h1, h2, h3⟩ := bst_pos (f := fun j => (rgt m (-6 + (j : Int)) s : Int)) (v := fun j => -6 + (j : Int)) (b0 := -99) (n := 13) (by decide) (fun i _ => by show (0 : Int) ≤ (rgt m (-6 + (i : Int)) s : Int); omega)
  refine ⟨j, h1, h2, fun a a1 a2 => ?_⟩
  have := h3 (a + 6).toNat (by omega)
  have e : (-6 + (((a + 6).toNat : Nat) : Int)) = a := by omega
  simp only [e] at this
  omega
theorem li_ok (m : Nat → Int32) : ∃ j : Nat, j < 13 ∧ (liN m 13).1 = -6 + (j : Int) ∧ ∀ a : Int, -6 ≤ a → a ≤ 6 → opN m a ≤ opN m (-6 + (j : Int)) := by
  obtain ⟨j, h1, h2, h3⟩ := bst_pos (f := fun j => (opN m (-6 + (j : Int)) : Int)) (v := fun j => -6 + (j : Int)) (b0 := -99) (n := 13) (by decide) (fun i _ => by show (0 : Int) ≤ (opN m (-6 + (i : Int)) : Int); omega)
  refine ⟨j, h1, h2, fun a a1 a2 => ?_⟩
  have := h3 (a + 6).toNat (by omega)
  have e : (-6 + (((a + 6).toNat : Nat) : Int)) = a := by omega
  simp only [e] at this
  omega
theorem bt_ok (hw : WF m) {k : Nat} (hk : k < nS m) (a : Int) (s : Nat) : ∃ j : Nat, j < 9 ∧ (btN m k a s 0 9).1 = -4 + (j : Int) ∧ rgt m a s ≤ rgt (mTurn m k (-4 + (j : Int))) a s := by
  obtain ⟨j, h1, h2, h3⟩ := bst_pos (f := btF m k a s) (v := fun j => -4 + (j : Int)) (b0 := 0) (n := 9) (by decide) (fun i hi => (btF_b hw a s hi).1)
  refine ⟨j, h1, h2, ?_⟩
  have hs := wf_s hw hk
  have := h3 (tu m k + 4).toNat (by omega)
  have e : (-4 + (((tu m k + 4).toNat : Nat) : Int)) = tu m k := by omega
  unfold btF at this
  simp only [e] at this
  rw [wT_id (t := fun i => if i = k then tu m k else tu m i) (fun i _ => by show (if i = k then tu m k else tu m i) = tu m i; split; · rename_i q; rw [q]
                                                                            · rfl)] at this
  unfold mTurn
  omega
theorem byN_b : ∀ j, j < 16 → (-8 ≤ byN j ∧ byN j ≤ 8) ∧ byN j ≠ 0 := by decide +kernel
theorem bp_ok (m : Nat → Int32) (a : Int) (s : Nat) (h : (bpN m a s 16).1 ≠ 0) : ∃ z : Int, (bpN m a s 16).1 = z ∧ ((-8 ≤ z ∧ z ≤ 8) ∧ z ≠ 0) ∧ rgt m a s < rgt (wT m (plT m z)) a s := by
  obtain ⟨h1, h2, h3⟩ := bst_max (f := fun j => (rgt (wT m (plT m (byN j))) a s : Int)) (v := byN) (b0 := 0) (m0 := (rgt m a s : Int)) 16
  rcases h3 with h3 | ⟨j, j1, j2, j3⟩
  · refine absurd ?_ h
    unfold bpN
    rw [h3]
  · refine ⟨byN j, ?_, byN_b j j1, ?_⟩
    · unfold bpN
      rw [j2]
    · have : (rgt m a s : Int) < (rgt (wT m (plT m (byN j))) a s : Int) := j3
      omega
/-- a pull that brings more turns a slat -/
theorem pl_some {a : Int} {s : Nat} {z : Int} (h : rgt m a s < rgt (wT m (plT m z)) a s) : 1 ≤ fb_ct (fun j => decide (plT m z j ≠ tu m j)) (nS m) := by
  rcases Nat.eq_zero_or_pos (fb_ct (fun j => decide (plT m z j ≠ tu m j)) (nS m)) with e | e
  · have e' := fb_ct_zero.mp e
    rw [wT_id (t := plT m z) (fun k hk => by
      have := of_decide_eq_false (e' k hk)
      exact Decidable.not_not.mp this)] at h
    omega
  · exact e
/-- a painted face is as its picture -/
theorem unl_paint (hw : WF m) {k s : Nat} (hk : k < nS m) (hs : s < 2) : unl (mPaint m k s) k s = 0 := by
  have pb := mPaint_b hw hk hs
  have hb := wf_b hw
  have hs' := wf_s hw hk
  have hcl := cols_le hw
  have hm := fst_mono m (j := k + 1) (k := nS m) hk
  rw [fst_succ] at hm
  unfold cols at hcl
  unfold unl
  rw [pb.1.e_nH, pb.1.e_wd (by omega), pb.1.e_fst (by omega), fb_sm_cong (g := fun _ => 0) (fun j hj => fb_ct_zero.mpr (fun r hr => decide_eq_false (Decidable.not_not.mpr ?_))), fb_sm_const, Nat.mul_zero]
  rw [pb.2.e_pic hw]
  have e : fc (mPaint m k s) s (fst m k + j) r = rpF m k s s (fst m k + j) r := wF_fc hs (by omega) (by omega) (rpF_9 hw k s s _ r hs (by omega) (by omega))
  rw [e]
  unfold rpF
  rw [if_pos ⟨rfl, ⟨by omega, by omega⟩, hr⟩]
/-! bits -/
theorem bset_bt (p : Nat → Bool) : ∀ (n : Nat), n ≤ 32 → ∀ i, i < 32 → bt (bset p n) i = (decide (i < n) && p i)
  | 0, _, i, _ => by
    show bt 0 i = _
    rw [b_0]
    simp
  | n + 1, hn, i, hi => by
    have ih := bset_bt p n (by omega) i hi
    show bt (if p n then bset p n ||| (iI 1 <<< (iI (n : Nat) &&& iI 31)) else bset p n) i = _
    have e : bt (iI 1 <<< (iI (n : Nat) &&& iI 31)) i = decide (i = n) := bt_sh (by omega) hi
    by_cases h : p n = true
    · rw [if_pos h, b_or, ih, e]
      by_cases q : i = n
      · subst q
        rw [h, decide_eq_true (rfl : i = i), decide_eq_true (show i < i + 1 by omega)]
        simp
      · rw [decide_eq_false q, Bool.or_false, show decide (i < n + 1) = decide (i < n) from decide_eq_decide.mpr (by omega)]
    · rw [if_neg h, ih]
      by_cases q : i = n
      · subst q
        rw [show p i = false from Bool.eq_false_iff.mpr h]
        simp
      · rw [show decide (i < n + 1) = decide (i < n) from decide_eq_decide.mpr (by omega)]
theorem bit_v {x : Int32} {n : Nat} (hn : n < 31) : ((x >>> (nI n &&& 31)) &&& 1) = nI (if bt x n = true then 1 else 0) := by
  refine b_ext (fun i hi => ?_)
  have h1 : bt 1 i = decide (i = 0) := by
    show bt (nI 1) i = _
    rw [bt_nI _ _ hi]
    exact (by decide +kernel : ∀ i, i < 32 → (1 : Nat).testBit i = decide (i = 0)) i hi
  rw [b_and, b_sshr n (by omega) x hi, h1]
  by_cases e : i = 0
  · subst e
    rw [if_pos (by omega), Nat.add_zero, decide_eq_true rfl, Bool.and_true]
    by_cases h : bt x n = true
    · rw [if_pos h, h]; decide +kernel
    · rw [if_neg h, show bt x n = false from Bool.eq_false_iff.mpr h]; decide +kernel
  · rw [decide_eq_false e, Bool.and_false]
    by_cases h : bt x n = true
    · rw [if_pos h, bt_nI _ _ hi]
      exact ((by decide +kernel : ∀ i, i < 32 → i ≠ 0 → (1 : Nat).testBit i = false) i hi e).symm
    · rw [if_neg h, bt_nI _ _ hi]
      exact (Nat.zero_testBit i).symm
theorem whole_bit : ∀ w0, w0 < 2 → ∀ w1, w1 < 2 → ∀ s, s < 2 → ((nI (w0 + 2 * w1) >>> (nI s &&& 31)) &&& 1) = nI (if s = 0 then w0 else w1) := by decide +kernel
theorem sfN_bt {c j : Nat} (hj : j < 13) : bt (sfN m c) j = true ↔ stt m (-6 + (j : Int)) c = 0 := by
  unfold sfN
  rw [bset_bt _ 13 (by omega) j (by omega), decide_eq_true hj, Bool.true_and, decide_eq_true_iff]
theorem paN_bt {s n k : Nat} (hn : n ≤ 32) (hk : k < n) : bt (paN m s n) k = true ↔ (ct m k s < nC m ∧ 0 < unl m k s) := by
  unfold paN
  rw [bset_bt _ n hn k (by omega), decide_eq_true hk, Bool.true_and, decide_eq_true_iff]
/-! floats -/
def qoF (x c : Nat) : UInt32 := FP.fdiv (FP.i2f (iI (x : Nat))) (FP.i2f (iI (c : Nat)))
theorem qo_tab : ∀ c, c < 96 → ∀ x, x < 97 → (qoF x (c + 1)).toNat ≤ (qoF (x + 1) (c + 1)).toNat ∧ (qoF x (c + 1)).toNat < 2147483648 ∧ Jvm.FP.Core.fIsNaN (qoF x (c + 1)) = false := by decide +kernel
theorem qo_mono {c x : Nat} (hc : c < 96) : ∀ d, x + d < 97 → (qoF x (c + 1)).toNat ≤ (qoF (x + d) (c + 1)).toNat
  | 0, _ => Nat.le_refl _
  | d + 1, h => Nat.le_trans (qo_mono hc d (by omega)) (qo_tab c hc (x + d) (by omega)).1
theorem qo_ge {c x y : Nat} (hc : 0 < c ∧ c < 97) (hxy : x ≤ y) (hy : y < 97) : ¬ (Op.cmpValue (FP.fcmp (qoF y c) (qoF x c)) .l) < 0 := by
  obtain ⟨d, rfl⟩ : ∃ d, c = d + 1 := ⟨c - 1, by omega⟩
  have h1 := qo_tab d (by omega) x (by omega)
  have h2 := qo_tab d (by omega) y hy
  have h3 := qo_mono (c := d) (x := x) (by omega) (y - x) (by omega)
  rw [show x + (y - x) = y by omega] at h3
  have k := Jvm.FP.Core.fcmp_key ((Jvm.FP.Core.notNaN_iff32 _).mp h2.2.2) ((Jvm.FP.Core.notNaN_iff32 _).mp h1.2.2)
  have e1 : Jvm.FP.Core.fkey (qoF y (d + 1)) = ((qoF y (d + 1)).toNat : Int) := if_neg (by omega)
  have e2 : Jvm.FP.Core.fkey (qoF x (d + 1)) = ((qoF x (d + 1)).toNat : Int) := if_neg (by omega)
  rw [e1, e2] at k
  have k' : FP.fcmp (qoF y (d + 1)) (qoF x (d + 1)) = some (compare ((qoF y (d + 1)).toNat : Int) ((qoF x (d + 1)).toNat : Int)) := k
  rw [k']
  rcases Int.lt_or_eq_of_le (show ((qoF x (d + 1)).toNat : Int) ≤ ((qoF y (d + 1)).toNat : Int) by omega) with z | z
  · rw [show compare ((qoF y (d + 1)).toNat : Int) ((qoF x (d + 1)).toNat : Int) = .gt from Int.compare_eq_gt.mpr z]
    decide
  · rw [z, show compare ((qoF y (d + 1)).toNat : Int) ((qoF y (d + 1)).toNat : Int) = .eq from Int.compare_eq_eq.mpr rfl]
    decide
end HMt
