/-! other turns: what they leave as it was; rows copied -/
section ZWT
variable {g : zG} {l : Launch} {X : String → zS → Prop} {m : Nat → Int32} {σ : zS} {t : Nat → Int}
theorem zup_zpt (σ : zS) (o k : Nat) (f : Nat → Int32) (v : Int32) : zup (zpt σ o f) o k v = zpt σ o (upd f k v) := by
  show zpt (zpt σ o f) o (upd ((zpt σ o f).1 o) k v) = _
  rw [zpt_at, zpt_zpt]
theorem wT_q {q : Nat} (h : ¬ (4 ≤ q ∧ q < 4 + 5 * nS m ∧ q % 5 = 0)) : wT m t q = m q := if_neg h
theorem wT_t {k : Nat} (hk : k < nS m) : wT m t (5 + 5 * k) = iI (t k) := by
  unfold wT
  rw [if_pos (by omega), show (5 + 5 * k) / 5 - 1 = k by omega]
theorem wT_qv {q : Nat} (h : ¬ (4 ≤ q ∧ q < 4 + 5 * nS m ∧ q % 5 = 0)) : qv (wT m t) q = qv m q := by
  unfold qv; rw [wT_q h]
theorem wT_nH : nH (wT m t) = nH m := by unfold nH; rw [wT_qv (by omega)]
theorem wT_nS : nS (wT m t) = nS m := by unfold nS; rw [wT_qv (by omega)]
theorem wT_nC : nC (wT m t) = nC m := by unfold nC; rw [wT_qv (by omega)]
theorem wT_nB : nB (wT m t) = nB m := by unfold nB; rw [wT_qv (by omega)]
theorem wT_wd : wd (wT m t) = wd m := by funext k; unfold wd; rw [wT_qv (by omega)]
theorem wT_td : td (wT m t) = td m := by funext k; unfold td; rw [wT_qv (by omega)]
theorem wT_ct {k s : Nat} (hs : s < 2) : ct (wT m t) k s = ct m k s := by unfold ct; rw [wT_qv (by omega)]
theorem wT_fst : fst (wT m t) = fst m := by funext k; unfold fst; rw [wT_wd]
theorem wT_cols : cols (wT m t) = cols m := by unfold cols; rw [wT_fst, wT_nS]
theorem wT_slat : slatOf (wT m t) = slatOf m := by funext c; unfold slatOf; rw [wT_fst, wT_nS]
section ZW2
variable (hw : WF m)
theorem wT_x {q : Nat} (hw : WF m) (h : 54 ≤ q) : qv (wT m t) q = qv m q := by
  have := wf_b hw
  exact wT_qv (by omega)
theorem wT_xS (hw : WF m) : xS (wT m t) = xS m := by funext k; unfold xS; rw [wT_x hw (by omega)]
theorem wT_xX (hw : WF m) : xX (wT m t) = xX m := by funext k; unfold xX; rw [wT_x hw (by omega)]
theorem wT_xY (hw : WF m) : xY (wT m t) = xY m := by funext k; unfold xY; rw [wT_x hw (by omega)]
theorem wT_xW (hw : WF m) : xW (wT m t) = xW m := by funext k; unfold xW; rw [wT_x hw (by omega)]
theorem wT_xD (hw : WF m) : xD (wT m t) = xD m := by funext k; unfold xD; rw [wT_x hw (by omega)]
theorem wT_xC (hw : WF m) : xC (wT m t) = xC m := by funext k; unfold xC; rw [wT_x hw (by omega)]
theorem wT_fc (hw : WF m) : fc (wT m t) = fc m := by funext s c r; unfold fc; rw [wT_x hw (by omega)]
theorem wT_picN (hw : WF m) (s c r : Nat) : ∀ n, picN (wT m t) s c r n = picN m s c r n
  | 0 => rfl
  | n + 1 => by
    unfold picN
    rw [wT_picN hw s c r n, wT_xS hw, wT_xX hw, wT_xY hw, wT_xW hw, wT_xD hw, wT_xC hw]
theorem wT_pic (hw : WF m) : pic (wT m t) = pic m := by
  funext s c r
  unfold pic
  rw [wT_picN hw, wT_nB]
theorem wT_boxes (hw : WF m) : boxesOf (wT m t) = boxesOf m := by
  funext s; unfold boxesOf; rw [wT_xS hw, wT_nB]
end ZW2
theorem wT_tu {k : Nat} (hk : k < nS m) (ht : -4 ≤ t k ∧ t k ≤ 4) : tu (wT m t) k = t k := by
  unfold tu qv
  rw [wT_t hk, iI_ti (by omega) (by omega)]
theorem wT_wf (hw : WF m) (ht : ∀ k, k < nS m → -4 ≤ t k ∧ t k ≤ 4) : WF (wT m t) := by
  obtain ⟨h0, h1, h2, h3, h4, h5, h6⟩ := hw
  have hb : nS m ≤ 10 := by unfold nS; omega
  refine ⟨by rw [wT_qv (by omega)]; exact h0, by rw [wT_qv (by omega)]; exact h1, by rw [wT_qv (by omega)]; exact h2, by rw [wT_qv (by omega)]; exact h3, fun k hk => ?_, fun b hb' => ?_, fun q hq hq' => ?_⟩
  · rw [wT_nS] at hk
    obtain ⟨a1, a2, a3, a4, a5⟩ := h4 k hk
    have := ht k hk
    rw [wT_qv (q := 4 + 5 * k) (by omega), wT_qv (q := 6 + 5 * k) (by omega), wT_qv (q := 7 + 5 * k) (by omega), wT_qv (q := 8 + 5 * k) (by omega)]
    refine ⟨a1, ?_, a3, a4, a5⟩
    have := wT_tu hk this
    unfold tu at this
    rw [this]; omega
  · rw [wT_nB] at hb'
    rw [wT_qv (q := 54 + 6 * b) (by omega), wT_qv (q := 55 + 6 * b) (by omega), wT_qv (q := 56 + 6 * b) (by omega), wT_qv (q := 57 + 6 * b) (by omega), wT_qv (q := 58 + 6 * b) (by omega), wT_qv (q := 59 + 6 * b) (by omega)]
    exact h5 b hb'
  · rw [wT_qv (by omega)]
    exact h6 q hq hq'
theorem wT_cong {t' : Nat → Int} (h : ∀ k, k < nS m → t k = t' k) : wT m t = wT m t' := by
  funext q
  unfold wT
  by_cases e : 4 ≤ q ∧ q < 4 + 5 * nS m ∧ q % 5 = 0
  · rw [if_pos e, if_pos e, h _ (by omega)]
  · rw [if_neg e, if_neg e]
theorem wT_tu_id : wT m (tu m) = m := by
  funext q
  unfold wT
  by_cases e : 4 ≤ q ∧ q < 4 + 5 * nS m ∧ q % 5 = 0
  · rw [if_pos e]
    unfold tu
    rw [show 5 + 5 * (q / 5 - 1) = q by omega]
    exact (qv_int q).symm
  · rw [if_neg e]
theorem wT_id (h : ∀ k, k < nS m → t k = tu m k) : wT m t = m := by rw [wT_cong h, wT_tu_id]
theorem wT_up {k : Nat} (hk : k < nS m) (v : Int) : upd (wT m t) (5 + 5 * k) (iI v) = wT m (fun j => if j = k then v else t j) := by
  funext q
  by_cases e : q = 5 + 5 * k
  · subst e
    rw [pk_us, wT_t hk, if_pos rfl]
  · rw [pk_un e]
    unfold wT
    by_cases h : 4 ≤ q ∧ q < 4 + 5 * nS m ∧ q % 5 = 0
    · rw [if_pos h, if_pos h]
      show _ = iI (if q / 5 - 1 = k then v else t (q / 5 - 1))
      rw [if_neg (by omega)]
    · rw [if_neg h, if_neg h]
theorem up_wT {k : Nat} (hk : k < nS m) (v : Int) : upd m (5 + 5 * k) (iI v) = wT m (fun j => if j = k then v else tu m j) := by
  have := wT_up (t := tu m) hk v
  rw [wT_tu_id] at this
  exact this
theorem wT_wT (t' : Nat → Int) : wT (wT m t) t' = wT m t' := by
  funext q
  have e : nS (wT m t) = nS m := wT_nS
  show (if 4 ≤ q ∧ q < 4 + 5 * nS (wT m t) ∧ q % 5 = 0 then iI (t' (q / 5 - 1)) else wT m t q) = _
  rw [e]
  unfold wT
  by_cases h : 4 ≤ q ∧ q < 4 + 5 * nS m ∧ q % 5 = 0
  · rw [if_pos h, if_pos h]
  · rw [if_neg h, if_neg h, if_neg h]
theorem R0.wT {o : Nat} (hw : WF m) (h : R0 σ o m) : R0 σ o (wT m t) := by
  unfold R0
  rw [wT_nH, wT_nC, wT_nS, wT_cols, wT_boxes hw, wT_td, wT_wd, wT_fst, wT_pic hw, wT_fc hw]
  refine ⟨h.1, h.2.1, h.2.2.1, h.2.2.2.1, h.2.2.2.2.1, h.2.2.2.2.2.1, h.2.2.2.2.2.2.1, fun k hk => ?_, h.2.2.2.2.2.2.2.2⟩
  obtain ⟨a, b, c⟩ := h.2.2.2.2.2.2.2.1 k hk
  exact ⟨a, b, fun s hs => by rw [wT_ct hs]; exact c s hs⟩
theorem RT.wT {a : Nat} (ht : ∀ k, k < nS m → -4 ≤ t k ∧ t k ≤ 4) (h : ∀ k, k < nS m → σ.1 a k = iI (t k)) : RT σ a (wT m t) := fun k hk => by
  rw [wT_nS] at hk
  rw [wT_tu hk (ht k hk)]
  exact h k hk
/-- a picture is seen whole only where all turns are one -/
theorem whole_turns (hw : WF m) {a : Int} {s : Nat} (h : wN m a s = 1) : ∀ k, k < nS m → tu m k = tu m 0 := by
  have h1 := (wN_1 m a s).mp h
  have h2 := (fstN_full s).mp h1.2
  have hb := wf_b hw
  have step : ∀ k, k + 1 < nS m → tu m k = tu m (k + 1) := by
    intro k hk
    have hs := wf_s hw (k := k) (by omega)
    have hs2 := wf_s hw hk
    have hq : seamB m k = tu m k - tu m (k + 1) := if_neg (by omega)
    rcases Int.lt_trichotomy (tu m k) (tu m (k + 1)) with q | q | q
    · exfalso
      have hc := fst_col hw (k := k) (j := wd m k - 1) (by omega) (by omega)
      have hso : slatOf m (fst m k + (wd m k - 1)) = k := slat_eq (by omega) (by omega) (by rw [fst_succ]; omega)
      have h3 := ((why0 m a s _ _).mp (h2 _ hc 0 (by omega))).1
      unfold stt at h3
      rw [hso] at h3
      split at h3
      · omega
      · rw [if_pos (by omega)] at h3; omega
    · exact q
    · exfalso
      have hc := fst_col hw (k := k + 1) (j := 0) hk (by omega)
      have hso : slatOf m (fst m (k + 1) + 0) = k + 1 := slat_eq hk (by omega) (by rw [fst_succ m (k + 1)]; omega)
      have h3 := ((why0 m a s _ _).mp (h2 _ hc 0 (by omega))).1
      unfold stt at h3
      rw [hso, if_pos (by rw [show k + 1 - 1 = k by omega]; omega)] at h3
      omega
  intro k
  induction k with
  | zero => intro _; rfl
  | succ k ih =>
    intro hk
    rw [← step k hk]
    exact ih (by omega)
end ZWT

