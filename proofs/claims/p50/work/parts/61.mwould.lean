/-! the reference: what would be -/
section ZMW
variable {g : zG} {l : Launch} {K : Int32 → zS → Prop} {X : String → zS → Prop} {m : Nat → Int32} {σ : zS}
abbrev L29 : List Nat := [29]
theorem wT_far (t : Nat → Int) (hw : WF m) {k : Nat} (hk : 1110 ≤ k) : wT m t k = m k := by
  have := wf_b hw
  exact wT_q (by omega)
noncomputable def btF (m : Nat → Int32) (k : Nat) (a : Int) (s : Nat) (j : Nat) : Int := (rgt (wT m (fun i => if i = k then -4 + (j : Int) else tu m i)) a s : Int)
noncomputable def btN (m : Nat → Int32) (k : Nat) (a : Int) (s : Nat) (b0 : Int) (n : Nat) : Int × Int := bst (btF m k a s) (fun j => -4 + (j : Int)) b0 (-1) n
theorem btF_b (hw : WF m) {k : Nat} (a : Int) (s : Nat) {j : Nat} (hj : j < 9) : 0 ≤ btF m k a s j ∧ btF m k a s j ≤ 480 := by
  have hw' : WF (wT m (fun i => if i = k then -4 + (j : Int) else tu m i)) := wT_wf hw (fun i hi => by
    have := wf_s hw hi
    (try simp only); split <;> omega)
  have := rgt_le hw' a s
  unfold btF; omega
theorem btN_b (hw : WF m) (k : Nat) (a : Int) (s : Nat) (b0 : Int) {n : Nat} (hn : n ≤ 9) : -1 ≤ (btN m k a s b0 n).2 ∧ (btN m k a s b0 n).2 ≤ 480 :=
  bst_b (by omega) (fun j hj => by have := btF_b hw (k := k) a s (j := j) (by omega); omega)
theorem bst_0 {f v : Nat → Int} {b0 b1 m0 : Int} (h : m0 < f 0) : ∀ n, 0 < n → bst f v b0 m0 n = bst f v b1 m0 n
  | 0, h0 => absurd h0 (Nat.lt_irrefl _)
  | 1, _ => by rw [bst_y (n := 0) (b0 := b0) h, bst_y (n := 0) (b0 := b1) h]
  | n + 2, _ => by
    have ih := bst_0 (v := v) (b0 := b0) (b1 := b1) h (n + 1) (by omega)
    rw [bst, ih]
    conv => rhs; rw [bst]
/-- the turns after a pull -/
def plT (m : Nat → Int32) (by' : Int) (k : Nat) : Int := if td m k = 0 then max (-4) (min 4 (tu m k + by')) else tu m k
theorem plT_b (hw : WF m) (by' : Int) {k : Nat} (hk : k < nS m) : -4 ≤ plT m by' k ∧ plT m by' k ≤ 4 := by
  have := wf_s hw hk
  unfold plT
  split <;> omega
/-- the numbers that bestPull tries, in their order -/
def byN (n : Nat) : Int := if n % 2 = 0 then -((n / 2 + 1 : Nat) : Int) else ((n / 2 + 1 : Nat) : Int)
noncomputable def bpN (m : Nat → Int32) (a : Int) (s n : Nat) : Int × Int := bst (fun j => (rgt (wT m (plT m (byN j))) a s : Int)) byN 0 (rgt m a s) n
theorem bpN_b (hw : WF m) (a : Int) (s n : Nat) : 0 ≤ (bpN m a s n).2 ∧ (bpN m a s n).2 ≤ 480 := by
  have := rgt_le hw a s
  exact bst_b (by omega) (fun j _ => by
    have := rgt_le (wT_wf (t := plT m (byN j)) hw (fun k hk => plT_b hw (byN j) hk)) a s
    omega)
noncomputable def daN (m : Nat → Int32) (a : Int) (s : Nat) : Int := if nS m = 0 ∨ 0 < colsAs m a 1 3 then -1 else ((cols m * nH m : Nat) : Int) - (rgt m a s : Int)
noncomputable def faF (m : Nat → Int32) (a : Int) (j : Nat) : Int := (rgt (wT m (fun _ => -4 + (j : Int))) a 0 + rgt (wT m (fun _ => -4 + (j : Int))) (-a) 1 : Nat)
noncomputable def faN (m : Nat → Int32) (a : Int) (b0 : Int) (n : Nat) : Int × Int := bst (faF m a) (fun j => -4 + (j : Int)) b0 (-1) n
theorem faF_b (hw : WF m) (a : Int) {j : Nat} (hj : j < 9) : 0 ≤ faF m a j ∧ faF m a j ≤ 960 := by
  have hw' : WF (wT m (fun _ => -4 + (j : Int))) := wT_wf hw (fun i hi => by omega)
  have := rgt_le hw' a 0
  have := rgt_le hw' (-a) 1
  unfold faF; omega
theorem faN_b (hw : WF m) (a : Int) (b0 : Int) {n : Nat} (hn : n ≤ 9) : -1 ≤ (faN m a b0 n).2 ∧ (faN m a b0 n).2 ≤ 960 :=
  bst_b (by omega) (fun j hj => by have := faF_b hw a (j := j) (by omega); omega)
end ZMW

