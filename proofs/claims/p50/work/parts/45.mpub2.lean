/-! the reference: public reading methods with loops over angles or slats -/
section ZMQ
variable {g : zG} {l : Launch} {K : Int32 → zS → Prop} {X : String → zS → Prop} {σ : zS} {m : Nat → Int32}
theorem or0 (x : Int32) : x ||| iI 0 = x := by
  apply b_ext
  intro i hi
  rw [b_or]
  have : bt (iI 0) i = false := by
    show bt (nI 0) i = false
    rw [bt_nI _ _ hi]; simp
  rw [this, Bool.or_false]
theorem bst_b {f v : Nat → Int} {b0 m0 lo hi : Int} (h0 : lo ≤ m0 ∧ m0 ≤ hi) : ∀ {n : Nat}, (∀ k, k < n → lo ≤ f k ∧ f k ≤ hi) → lo ≤ (bst f v b0 m0 n).2 ∧ (bst f v b0 m0 n).2 ≤ hi
  | 0, _ => h0
  | n + 1, h => by
    have ih := bst_b (f := f) (v := v) (b0 := b0) (m0 := m0) h0 (n := n) (fun k hk => h k (by omega))
    have h1 := h n (by omega)
    unfold bst
    split
    · exact h1
    · exact ih
theorem bst_y {f v : Nat → Int} {b0 m0 : Int} {n : Nat} (h : (bst f v b0 m0 n).2 < f n) : bst f v b0 m0 (n + 1) = (v n, f n) := by
  rw [bst, if_pos h]
theorem bst_n {f v : Nat → Int} {b0 m0 : Int} {n : Nat} (h : ¬ (bst f v b0 m0 n).2 < f n) : bst f v b0 m0 (n + 1) = bst f v b0 m0 n := by
  rw [bst, if_neg h]
theorem rgt_le (hw : WF m) (a : Int) (s : Nat) : rgt m a s ≤ 480 := by
  have h1 := fb_sm_bound (f := fun c => fb_ct (fun r => decide (whyN m a s c r = 0)) (nH m)) (c := nH m) (n := cols m) (fun k _ => fb_ct_le _ _)
  have h2 := cells_le hw
  exact Nat.le_trans h1 h2
theorem opN_le (hw : WF m) (a : Int) : opN m a ≤ 480 := by
  have h1 : colsAs m a 2 3 ≤ cols m := fb_ct_le _ _
  have h2 := cells_le hw
  unfold opN
  rw [Nat.mul_comm]
  exact Nat.le_trans (Nat.mul_le_mul_right _ h1) h2
def sfN (m : Nat → Int32) (c : Nat) : Int32 := bset (fun j => decide (stt m (-6 + (j : Int)) c = 0)) 13
noncomputable def baN (m : Nat → Int32) (s : Nat) (n : Nat) : Int × Int := bst (fun j => (rgt m (-6 + (j : Int)) s : Int)) (fun j => -6 + (j : Int)) (-99) (-1) n
theorem baN_b (hw : WF m) (s n : Nat) : -1 ≤ (baN m s n).2 ∧ (baN m s n).2 ≤ 480 :=
  bst_b (by omega) (fun k _ => by have := rgt_le hw (-6 + (k : Int)) s; omega)
def liN (m : Nat → Int32) (n : Nat) : Int × Int := bst (fun j => (opN m (-6 + (j : Int)) : Int)) (fun j => -6 + (j : Int)) (-99) (-1) n
theorem liN_b (hw : WF m) (n : Nat) : -1 ≤ (liN m n).2 ∧ (liN m n).2 ≤ 480 :=
  bst_b (by omega) (fun k _ => by have := opN_le hw (-6 + (k : Int)); omega)
theorem rnn_b (p : Nat → Bool) : ∀ n, (rnn p n).1 ≤ n ∧ (rnn p n).2 ≤ n
  | 0 => ⟨Nat.le_refl _, Nat.le_refl _⟩
  | n + 1 => by
    have ih := rnn_b p n
    unfold rnn
    simp only
    split <;> omega
def ruN (m : Nat → Int32) (a : Int) (n : Nat) : Nat × Nat := rnn (fun c => decide (stt m a c = 0)) n
noncomputable def spN (m : Nat → Int32) (s : Nat) (n : Nat) : Nat × Nat := rnn (fun j => decide (wN m (-6 + (j : Int)) s = 1)) n
theorem wrongN_le (hw : WF m) {k : Nat} (hk : k < nS m) (a : Int) (s : Nat) : wrongN m k a s ≤ 48 := by
  have h1 := fb_sm_bound (f := fun j => fb_ct (fun r => decide (whyN m a s (fst m k + j) r ≠ 0)) (nH m)) (c := nH m) (n := wd m k) (fun k _ => fb_ct_le _ _)
  have h2 := wf_s hw hk
  have h3 := wf_b hw
  have h4 : wd m k * nH m ≤ 6 * 8 := Nat.mul_le_mul h2.2.1 h3.2.1
  exact Nat.le_trans h1 h4
noncomputable def woN (m : Nat → Int32) (a : Int) (s n : Nat) : Int × Int := bst (fun k => (wrongN m k a s : Int)) (fun k => (k : Int)) (-1) 0 n
theorem woN_b (hw : WF m) (a : Int) (s : Nat) {n : Nat} (hn : n ≤ nS m) : 0 ≤ (woN m a s n).2 ∧ (woN m a s n).2 ≤ 480 :=
  bst_b (by omega) (fun k hk => by have := wrongN_le hw (k := k) (by omega) a s; omega)
noncomputable def ghC (m : Nat → Int32) (a : Int) (s c : Nat) : Nat := if stt m a c ≠ 0 then 0 else fb_ct (fun r => decide (cS m a c r ≠ pic m s c r ∧ cS m a c r = pic m (1 - s) c r)) (nH m)
theorem unl_le (hw : WF m) {k : Nat} (hk : k < nS m) (s : Nat) : unl m k s ≤ 48 := by
  have h1 := fb_sm_bound (f := fun j => fb_ct (fun r => decide (fc m s (fst m k + j) r ≠ pic m s (fst m k + j) r)) (nH m)) (c := nH m) (n := wd m k) (fun k _ => fb_ct_le _ _)
  have h2 := wf_s hw hk
  have h3 := wf_b hw
  have h4 : wd m k * nH m ≤ 6 * 8 := Nat.mul_le_mul h2.2.1 h3.2.1
  exact Nat.le_trans h1 h4
noncomputable def paN (m : Nat → Int32) (s : Nat) (n : Nat) : Int32 := bset (fun k => decide (ct m k s < nC m ∧ 0 < unl m k s)) n
end ZMQ

