/-! the reference: tests ahead of a call, counts -/
section ZMT
variable {g : zG} {l : Launch} {K : Int32 → zS → Prop} {X : String → zS → Prop} {σ : zS} {m : Nat → Int32}
theorem zpt_zpt (σ : zS) (o : Nat) (f h : Nat → Int32) : zpt (zpt σ o f) o h = zpt σ o h := by
  have : ∀ a, (zpt (zpt σ o f) o h).1 a = (zpt σ o h).1 a := by
    intro a
    by_cases e : a = o
    · subst e; rw [zpt_at, zpt_at]
    · rw [zpt_ne e, zpt_ne e, zpt_ne e]
  exact Prod.ext (funext this) rfl
theorem zpt_id (σ : zS) (o : Nat) : zpt σ o (σ.1 o) = σ := by
  have : ∀ a, (zpt σ o (σ.1 o)).1 a = σ.1 a := by
    intro a
    by_cases e : a = o
    · subst e; rw [zpt_at]
    · rw [zpt_ne e]
  exact Prod.ext (funext this) rfl
theorem zpt_sw (σ : zS) {o a : Nat} (h : o ≠ a) (f k : Nat → Int32) : zpt (zpt σ o f) a k = zpt (zpt σ a k) o f := by
  have : ∀ b, (zpt (zpt σ o f) a k).1 b = (zpt (zpt σ a k) o f).1 b := by
    intro b
    by_cases e : b = o
    · subst e; rw [zpt_ne h, zpt_at, zpt_at]
    · by_cases e' : b = a
      · subst e'; rw [zpt_at, zpt_ne e, zpt_at]
      · rw [zpt_ne e', zpt_ne e, zpt_ne e, zpt_ne e']
  exact Prod.ext (funext this) rfl
/-- how a call of the reference was left: its code -/
abbrev cd (σ : zS) (c : Int) : zS := zup σ 24 0 (iI c)
theorem cd_cd (σ : zS) (a b : Int) : cd (cd σ a) b = cd σ b := by
  unfold cd zup
  rw [zpt_zpt, zpt_at, fa_upd_twice]
theorem nat_of {z : Int} {n : Nat} (h : 0 ≤ z ∧ z < n) : ∃ k : Nat, z = k ∧ k < n := ⟨z.toNat, by omega, by omega⟩
theorem fstN_le (m : Nat → Int32) (a : Int) (s : Nat) : fstN m a s ≤ cols m * nH m := fa_first_le _ _
/-- the first cell that is not seen right as it is answered -/
noncomputable def fwN (m : Nat → Int32) (a : Int) (s : Nat) : Int := if fstN m a s = cols m * nH m then -1 else fstN m a s
theorem cells_le (hw : WF m) : cols m * nH m ≤ 480 := by
  have h1 := cols_le hw
  have h2 := wf_b hw
  exact Nat.mul_le_mul h1.1 h2.2.1
theorem isW_dec (m : Nat → Int32) (a : Int) (s : Nat) : isW m a s ∨ ¬ isW m a s := Classical.em _
noncomputable def wN (m : Nat → Int32) (a : Int) (s : Nat) : Nat := if 0 < nS m ∧ fstN m a s = cols m * nH m then 1 else 0
theorem wN_1 (m : Nat → Int32) (a : Int) (s : Nat) : wN m a s = 1 ↔ isW m a s := by
  unfold wN isW
  split
  · exact ⟨fun _ => by assumption, fun _ => rfl⟩
  · exact ⟨fun h => absurd h (by decide), fun h => by contradiction⟩
theorem wN_le (m : Nat → Int32) (a : Int) (s : Nat) : wN m a s < 2 := by
  unfold wN; split <;> omega
theorem fst_col (hw : WF m) {k j : Nat} (hk : k < nS m) (hj : j < wd m k) : fst m k + j < cols m := by
  have := fst_mono m (show k + 1 ≤ nS m from hk)
  rw [fst_succ] at this
  unfold cols; omega
end ZMT

