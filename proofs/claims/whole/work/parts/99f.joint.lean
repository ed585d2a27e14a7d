/-! the joint invariant, and what is left of it behind each kind of call -/
section ZJt
variable {g : zG} {l : Launch} {σ τ υ : zS}
variable {m m' : Nat → Int32} {u : Nat} {h : Nat → Nat → Int32} {sv : Nat} {a : Nat → Int32} {rn : Nat} {rf : Nat → Nat} {n n' : Nat} {f f' : Nat → Nat} {ec ep ec' ep' : Int}
def JP (σ : zS) (m : Nat → Int32) (u : Nat) (h : Nat → Nat → Int32) (sv : Nat) (a : Nat → Int32) (rn : Nat) (rf : Nat → Nat) (n : Nat) (f : Nat → Nat) (ec ep : Int) : Prop :=
  CI σ m u h sv a rn rf n f ec ep ∧ MI σ m u h sv a rn rf n f ec ep ∧ GI m u h sv a ∧ ∀ i, i < n → f i < 256
def JI (σ : zS) : Prop := ∃ m u h sv a rn rf n f ec ep, JP σ m u h sv a rn rf n f ec ep
theorem JP.I (H : JP σ m u h sv a rn rf n f ec ep) : JI σ := ⟨m, u, h, sv, a, rn, rf, n, f, ec, ep, H⟩
theorem CI_J (v : Int64) (H : CI σ m u h sv a rn rf n f ec ep) : CI (zupJ σ 1 v) m u h sv a rn rf n f ec ep := CI_fr H ⟨rfl, rfl⟩ (fun _ _ => rfl)
theorem MI_J (v : Int64) (H : MI σ m u h sv a rn rf n f ec ep) : MI (zupJ σ 1 v) m u h sv a rn rf n f ec ep := MI_fr H (fun _ _ => rfl) (fun _ _ => rfl)
theorem CI_D (v : UInt64) (H : CI σ m u h sv a rn rf n f ec ep) : CI (zupD σ v) m u h sv a rn rf n f ec ep := CI_fr H ⟨rfl, rfl⟩ (fun _ _ => rfl)
theorem MI_D (v : UInt64) (H : MI σ m u h sv a rn rf n f ec ep) : MI (zupD σ v) m u h sv a rn rf n f ec ep := MI_fr H (fun _ _ => rfl) (fun _ _ => rfl)
theorem JP.J (v : Int64) (H : JP σ m u h sv a rn rf n f ec ep) : JP (zupJ σ 1 v) m u h sv a rn rf n f ec ep := ⟨CI_J v H.1, MI_J v H.2.1, H.2.2⟩
theorem JP.D (v : UInt64) (H : JP σ m u h sv a rn rf n f ec ep) : JP (zupD σ v) m u h sv a rn rf n f ec ep := ⟨CI_D v H.1, MI_D v H.2.1, H.2.2⟩
theorem JP.cd (c : Int) (H : JP σ m u h sv a rn rf n f ec ep) : JP (cd σ c) m u h sv a rn rf n f ec ep := ⟨CI_cd c H.1, MI_cd c H.2.1, H.2.2⟩
/-- behind the class's looking -/
theorem JP.lk {L : List Nat} (hF : FrL L σ τ) (hL : ∀ b, b ∈ L → 19 ≤ b ∧ b ≤ 22) (H : JP σ m u h sv a rn rf n f ec ep) : JP τ m u h sv a rn rf n f ec ep := by
  have e : ∀ b, ¬ (19 ≤ b ∧ b ≤ 22) → τ.1 b = σ.1 b := fun b hb => hF.1 b (fun q => hb (hL b q))
  exact ⟨CI_fr H.1 ⟨by rw [e 0 (by omega)], by rw [e 0 (by omega)]⟩ (fun b hb => e b (by omega)), MI_fr H.2.1 (fun k _ => by rw [e 24 (by omega)]) (fun b hb => e b (by omega)), H.2.2⟩
/-- behind the reference's looking -/
theorem JP.lm {L : List Nat} (hF : FrL L σ τ) (hL : ∀ b, b ∈ L → 28 ≤ b ∧ b ≤ 39 ∧ b ≠ 30) (H : JP σ m u h sv a rn rf n f ec ep) : JP τ m u h sv a rn rf n f ec ep := by
  have e : ∀ b, ¬ (28 ≤ b ∧ b ≤ 39 ∧ b ≠ 30) → τ.1 b = σ.1 b := fun b hb => hF.1 b (fun q => hb (hL b q))
  exact ⟨CI_fr H.1 ⟨by rw [e 0 (by omega)], by rw [e 0 (by omega)]⟩ (fun b hb => e b (by omega)), MI_fr H.2.1 (fun k _ => by rw [e 24 (by omega)]) (fun b hb => e b (by omega)), H.2.2⟩
theorem LV_r : ∀ b, b ∈ LV → 19 ≤ b ∧ b ≤ 22 := by intro b hb; simp at hb; omega
theorem LW_r : ∀ b, b ∈ LW → 19 ≤ b ∧ b ≤ 22 := by intro b hb; simp at hb; omega
theorem L29_r : ∀ b, b ∈ L29 → 28 ≤ b ∧ b ≤ 39 ∧ b ≠ 30 := by intro b hb; simp at hb; omega
theorem L31_r : ∀ b, b ∈ L31 → 28 ≤ b ∧ b ≤ 39 ∧ b ≠ 30 := by intro b hb; simp at hb; omega
/-- the post of a pair: k is the helper's code, b the reference's answer -/
def PO (k : Int32) : Int32 → zS → Prop := fun b υ => JI υ ∧ υ.1 24 0 = k ∧ (k = 0 → υ.2.1 1 = b.toInt64)
abbrev NX : String → zS → Prop := fun _ _ => False
/-- the law's helper, then the reference, with the arguments av -/
def PH (g : zG) (l : Launch) (N R : zM) (kb : Nat) (av : List Value) (PP : Int32 → Int32 → zS → Prop) (σ : zS) : Prop :=
  CTW g l N kb (.ref (zad g 0) :: (av ++ [.ref (zad g 41)])) σ (zQi (fun k τ => CT g l R 0 (.ref (zad g 24) :: av) τ (zQi (PP k) NX)) NX)
/-- the class's method, then the reference's -/
def PC (g : zG) (l : Launch) (N R : zM) (av : List Value) (σ : zS) : Prop :=
  CT g l N 0 (.ref (zad g 0) :: av) σ (zQi (fun v τ => CT g l R 0 (.ref (zad g 24) :: av) τ (zQi (fun b υ => JI υ ∧ v = b) NX)) NX)
theorem pj_1 {v : Int64} : (zupJ σ 1 v).2.1 1 = v := by simp [vp_updL]
theorem cd_0 {c : Int} : (cd σ c).1 24 0 = iI c := by rw [zpt_at]; exact pk_us
theorem po_0 {v : Int32} (H : JI (cd (zupJ τ 1 v.toInt64) 0)) : PO 0 v (cd (zupJ τ 1 v.toInt64) 0) := ⟨H, cd_0, fun _ => pj_1⟩
theorem po_1 {b : Int32} (H : JI (cd σ 1)) : PO 1 b (cd σ 1) := ⟨H, cd_0, fun e => absurd e (by decide)⟩
theorem po_2 {b : Int32} (H : JI (cd σ 2)) : PO 2 b (cd σ 2) := ⟨H, cd_0, fun e => absurd e (by decide)⟩
theorem po_3 {b : Int32} (H : JI (cd σ 3)) : PO 3 b (cd σ 3) := ⟨H, cd_0, fun e => absurd e (by decide)⟩
theorem po_e {b : Int32} (H : JI σ) (h0 : σ.1 24 0 = iI 1) : PO 1 b σ := ⟨H, h0, fun e => absurd e (by decide)⟩
theorem po_m {v : Int32} (H : JI υ) (h0 : υ.1 24 0 = iI 0) (h2 : υ.2.1 1 = (zupJ τ 1 v.toInt64).2.1 1) : PO 0 v υ := ⟨H, h0, fun _ => h2.trans pj_1⟩
theorem fm_1 {L F : List Nat} (hF : FM L F σ τ) : τ.2.1 1 = σ.2.1 1 := by rw [hF.2.2]
theorem fn_1 {L F : List Nat} (hF : FN L F σ τ) : τ.2.1 1 = σ.2.1 1 := hF.2.2.1 1 (by decide)
theorem fl_1 {L : List Nat} (hF : FrL L σ τ) : τ.2.1 1 = σ.2.1 1 := by rw [hF.2]
theorem fl_0 {L : List Nat} {c : Int} (hF : FrL L (cd σ c) τ) (hL : ∀ b, b ∈ L → 28 ≤ b ∧ b ≤ 39 ∧ b ≠ 30) : τ.1 24 0 = iI c := by
  rw [hF.1 24 (fun q => by have := hL _ q; omega)]; exact cd_0
/-- the word of a script as a number -/
theorem i32_ex (x : Int32) : ∃ z : Int, I32 z ∧ x = iI z := ⟨x.toInt, by have h1 := Int32.le_toInt x; have h2 := Int32.toInt_lt x; constructor <;> omega, (iI_of x).symm⟩
/-! good rows after a change -/
theorem GI_chg (hg : GI m u h sv a) (hu : u ≤ 6) (h1 : WF m') (h2 : Ct m') : GI m' (min 6 (u + 1)) (hpush m h) sv a := by
  refine ⟨h1, h2, fun i hi => ?_, hg.2.2.2⟩
  unfold hpush
  by_cases e : i = 0
  · rw [if_pos e]; exact ⟨hg.1, hg.2.1⟩
  · rw [if_neg e]; exact hg.2.2.1 (i - 1) (by omega)
theorem pl_gd (hw : WF m) (hc : Ct m) (z : Int) : WF (wT m (plT m z)) ∧ Ct (wT m (plT m z)) := by
  refine ⟨wT_wf hw (fun k hk => ?_), ct_wT hc (wf_b hw).2.2.1⟩
  have := wf_s hw hk
  unfold plT
  split <;> omega
theorem tr_gd (hw : WF m) (hc : Ct m) {k : Nat} {z : Int} (hz : -4 ≤ z ∧ z ≤ 4) : WF (mTurn m k z) ∧ Ct (mTurn m k z) := by
  refine ⟨wT_wf hw (fun j hj => ?_), ct_wT hc (wf_b hw).2.2.1⟩
  have := wf_s hw hj
  split <;> omega
theorem ti_gd (hw : WF m) (hc : Ct m) {k s : Nat} (hk : k < nS m) (hs : s < 2) : WF (mTie m k s) ∧ Ct (mTie m k s) :=
  ⟨mTie_wf hw hk hs, ct_up hc (by have := wf_b hw; omega)⟩
theorem pt_gd (hw : WF m) (hc : Ct m) {k s : Nat} (hk : k < nS m) (hs : s < 2) (h : ct m k s < nC m) : WF (mPaint m k s) ∧ Ct (mPaint m k s) := by
  have hb := wf_b hw
  have hA : gA 4 s k 0 0 0 := ⟨by omega, hs, by omega, by omega, by omega, by omega⟩
  have hg : gC 4 s k 0 0 0 m := ⟨hk, h⟩
  exact ⟨dC_wf hw hA hg, dC_Ct hc hw hA hg⟩
theorem db_gd (hw : WF m) (hc : Ct m) {k s x y w : Nat} (hk : k < nS m) (hs : s < 2) (hx : x < wd m k) (hy : y < nH m) (hw9 : w ≤ 9) : WF (mDab m k s x y w) ∧ Ct (mDab m k s x y w) := by
  have hb := wf_b hw
  have hb' := wf_s hw hk
  have hA : gA 5 s k x y w := ⟨by omega, hs, by omega, by omega, by omega, by omega⟩
  have hg : gC 5 s k x y w m := ⟨hk, hx, hy, hw9⟩
  exact ⟨dC_wf hw hA hg, dC_Ct hc hw hA hg⟩
theorem sw_gd (hw : WF m) (hc : Ct m) {k : Nat} (hk : k < nS m) : WF (mSwap m k) ∧ Ct (mSwap m k) := by
  have hb := wf_b hw
  have hA : gA 6 0 k 0 0 0 := ⟨by omega, by omega, by omega, by omega, by omega, by omega⟩
  have hg : gC 6 0 k 0 0 0 m := hk
  exact ⟨dC_wf hw hA hg, dC_Ct hc hw hA hg⟩
theorem bx_gd (hw : WF m) (hc : Ct m) {s x y w : Nat} (hs : s < 2) (hx : x < cols m) (hy : y < nH m) (hw9 : w ≤ 9) (hn : nB m < 16) : WF (mBox m s x y 1 1 w) ∧ Ct (mBox m s x y 1 1 w) := by
  have hb := wf_b hw
  have hcl := cols_le hw
  exact ⟨mBox_wf hw (by omega) hs (by omega) (by omega) (by omega) (by omega) hw9, fun k hk => by rw [mBox_q (by omega) (by omega)]; exact hc k hk⟩
theorem en_gd (hR : Rd m) : WF (mEnd m) ∧ Ct (mEnd m) := ⟨wF_wf hR.1 (paF_9 hR.1 _ _), ct_wF hR.2.1⟩
/-- behind a change on both sides -/
theorem JP.chg {v : Int64} (hC : ChC σ u h m m' τ) (hM : Chg (zupJ τ 1 v) u h m m' υ) (hg : WF m' ∧ Ct m') (H : JP σ m u h sv a rn rf n f ec ep) : JP υ m' (min 6 (u + 1)) (hpush m h) sv a rn rf n f ec ep := by
  have h1 := CI_chg hC H.1
  have h2 := MI_J v (MI_P hC.1 (by intro b hb; unfold pC at hb; omega) H.2.1)
  refine ⟨CI_N hM.1.N (by intro b hb; simp at hb; omega) (CI_J v h1), MI_chg hM h2, GI_chg H.2.2.1 H.1.2.1.choose_spec.2.1 hg.1 hg.2, H.2.2.2⟩
/-- the reference's side behind the class's change -/
theorem JP.mc {v : Int64} (hC : ChC σ u h m m' τ) (H : JP σ m u h sv a rn rf n f ec ep) : MI (zupJ τ 1 v) m u h sv a rn rf n f ec ep :=
  MI_J v (MI_P hC.1 (by intro b hb; unfold pC at hb; omega) H.2.1)
end ZJt
