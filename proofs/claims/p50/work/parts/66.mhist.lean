/-! the reference: swaps, boxes, what is kept, its changing methods -/
section ZMH
variable {g : zG} {l : Launch} {K : Int32 → zS → Prop} {X : String → zS → Prop} {m : Nat → Int32} {σ : zS}
def mSwap (m : Nat → Int32) (k : Nat) : Nat → Int32 := wF (mCoat (mCoat m k 0 (ct m k 1)) k 1 (ct m k 0)) (swF m k)
theorem mSw_c (hw : WF m) {k : Nat} (hk : k < nS m) : WF (mCoat (mCoat m k 0 (ct m k 1)) k 1 (ct m k 0)) ∧ Sb m (mCoat (mCoat m k 0 (ct m k 1)) k 1 (ct m k 0)) ∧ Sx m (mCoat (mCoat m k 0 (ct m k 1)) k 1 (ct m k 0)) := by
  have hb := wf_b hw
  have hs := wf_s hw hk
  have b1 := mCoat_b (m := m) (v := ct m k 1) (show k < 10 by omega) (show 0 < 2 by decide)
  have w1 := mCoat_wf hw hk (show 0 < 2 by decide) (v := ct m k 1) (by omega)
  have b2 := mCoat_b (m := mCoat m k 0 (ct m k 1)) (v := ct m k 0) (show k < 10 by omega) (show 1 < 2 by decide)
  have w2 := mCoat_wf w1 (k := k) (by rw [b1.1.e_nS]; exact hk) (show 1 < 2 by decide) (v := ct m k 0) (by omega)
  refine ⟨w2, ⟨b2.1.1.trans b1.1.1, b2.1.2.1.trans b1.1.2.1, b2.1.2.2.1.trans b1.1.2.2.1, fun j hj => (b2.1.2.2.2 j hj).trans (b1.1.2.2.2 j hj)⟩, ⟨b2.2.1.trans b1.2.1, fun q h1 h2 => (b2.2.2 q h1 h2).trans (b1.2.2 q h1 h2)⟩⟩
/-- a box more, its colour left out -/
def mBox5 (m : Nat → Int32) (s c r w d : Nat) : Nat → Int32 := upd (upd (upd (upd (upd (upd m (54 + 6 * nB m) (iI s)) (54 + 6 * nB m + 1) (iI c)) (54 + 6 * nB m + 2) (iI r)) (54 + 6 * nB m + 3) (iI w)) (54 + 6 * nB m + 4) (iI d)) 3 (iI ((nB m : Int) + 1))
def mBox (m : Nat → Int32) (s c r w d v : Nat) : Nat → Int32 := upd (mBox5 m s c r w d) (54 + 6 * nB m + 5) (iI v)
def hpush (a : Nat → Int32) (h : Nat → Nat → Int32) : Nat → Nat → Int32 := fun i => if i = 0 then a else h (i - 1)
end ZMH

