/-! the reference: what its changes do to the row -/
section ZMC
variable {g : zG} {l : Launch} {K : Int32 → zS → Prop} {X : String → zS → Prop} {m : Nat → Int32} {σ : zS}
def mTurn (m : Nat → Int32) (k : Nat) (t : Int) : Nat → Int32 := wT m (fun j => if j = k then t else tu m j)
/-- a slat's face as its picture, up to a cell -/
noncomputable def rpU (m : Nat → Int32) (k s j r : Nat) (s' c r' : Nat) : Nat := if s' = s ∧ (fst m k ≤ c ∧ (c < fst m k + j ∨ (c = fst m k + j ∧ r' < r))) ∧ r' < nH m then pic m s c r' else fc m s' c r'
noncomputable def rpF (m : Nat → Int32) (k s : Nat) (s' c r' : Nat) : Nat := if s' = s ∧ (fst m k ≤ c ∧ c < fst m k + wd m k) ∧ r' < nH m then pic m s c r' else fc m s' c r'
theorem rpU_9 (hw : WF m) (k s j r : Nat) : ∀ s' c r', s' < 2 → c < 60 → r' < 8 → rpU m k s j r s' c r' ≤ 9 := fun s' c r' h1 h2 h3 => by
  have := pic_le hw s c r'
  have := wf_f9 hw h1 h2 h3
  unfold rpU; split <;> omega
theorem rpF_9 (hw : WF m) (k s : Nat) : ∀ s' c r', s' < 2 → c < 60 → r' < 8 → rpF m k s s' c r' ≤ 9 := fun s' c r' h1 h2 h3 => by
  have := pic_le hw s c r'
  have := wf_f9 hw h1 h2 h3
  unfold rpF; split <;> omega
/-- a face painted anew -/
noncomputable def mPaint (m : Nat → Int32) (k s : Nat) : Nat → Int32 := wF (mCoat m k s (ct m k s + 1)) (rpF m k s)
theorem mCoat_fc {k s v : Nat} (hk : k < 10) (hs : s < 2) : fc (mCoat m k s v) = fc m := by
  funext s' c r
  unfold fc qv mCoat
  rw [pk_un (by omega)]
theorem mCoat_rpF (hw : WF m) {k s v : Nat} (hk : k < nS m) (hs : s < 2) : rpF (mCoat m k s v) k s = rpF m k s := by
  have hb := wf_b hw
  have h := mCoat_b (m := m) (v := v) (show k < 10 by omega) hs
  funext s' c r'
  unfold rpF
  rw [h.1.e_fst (by omega), h.1.e_wd (by omega), h.1.e_nH, h.2.e_pic hw, mCoat_fc (by omega) hs]
theorem unl_same {m' : Nat → Int32} (hw : WF m) (hb : Sb m m') (hx : Sx m m') (hf : fc m' = fc m) {k : Nat} (hk : k < nS m) (s : Nat) : unl m' k s = unl m k s := by
  have hwb := wf_b hw
  unfold unl
  rw [hb.e_wd (by omega), hb.e_nH, hf, hb.e_fst (by omega)]
  exact fb_sm_cong (fun j _ => fb_ct_cong (fun r _ => by rw [hx.e_pic hw]))
/-- a cell dabbed -/
def mDab (m : Nat → Int32) (k s c r v : Nat) : Nat → Int32 := wF m (fun s' c' r' => if s' = s ∧ c' = fst m k + c ∧ r' = r then v else fc m s' c' r')
/-- the faces of a slat in each other's place, up to a cell -/
def swU (m : Nat → Int32) (k j r : Nat) (s' c r' : Nat) : Nat := if (fst m k ≤ c ∧ (c < fst m k + j ∨ (c = fst m k + j ∧ r' < r))) ∧ r' < nH m then fc m (1 - s') c r' else fc m s' c r'
def swF (m : Nat → Int32) (k : Nat) (s' c r' : Nat) : Nat := if (fst m k ≤ c ∧ c < fst m k + wd m k) ∧ r' < nH m then fc m (1 - s') c r' else fc m s' c r'
theorem swU_9 (hw : WF m) (k j r : Nat) : ∀ s' c r', s' < 2 → c < 60 → r' < 8 → swU m k j r s' c r' ≤ 9 := fun s' c r' h1 h2 h3 => by
  have := wf_f9 hw (show 1 - s' < 2 by omega) h2 h3
  have := wf_f9 hw h1 h2 h3
  unfold swU; split <;> omega
theorem swF_9 (hw : WF m) (k : Nat) : ∀ s' c r', s' < 2 → c < 60 → r' < 8 → swF m k s' c r' ≤ 9 := fun s' c r' h1 h2 h3 => by
  have := wf_f9 hw (show 1 - s' < 2 by omega) h2 h3
  have := wf_f9 hw h1 h2 h3
  unfold swF; split <;> omega
def swN (m : Nat → Int32) (k : Nat) : Nat := fb_sm (fun j => fb_ct (fun r => decide (fc m 1 (fst m k + j) r ≠ fc m 0 (fst m k + j) r)) (nH m)) (wd m k)
end ZMC

