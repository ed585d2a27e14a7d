/-! rows changed: ties, coats, faces, a box more -/
section ZRW
variable {m m' : Nat → Int32}
/-- sizes and widths are the same -/
def Sb (m m' : Nat → Int32) : Prop := m' 0 = m 0 ∧ m' 1 = m 1 ∧ m' 2 = m 2 ∧ ∀ k, k < 10 → m' (4 + 5 * k) = m (4 + 5 * k)
/-- boxes are the same -/
def Sx (m m' : Nat → Int32) : Prop := m' 3 = m 3 ∧ ∀ q, 54 ≤ q → q < 150 → m' q = m q
theorem Sb.e_nH (h : Sb m m') : nH m' = nH m := by unfold nH qv; rw [h.1]
theorem Sb.e_nS (h : Sb m m') : nS m' = nS m := by unfold nS qv; rw [h.2.1]
theorem Sb.e_nC (h : Sb m m') : nC m' = nC m := by unfold nC qv; rw [h.2.2.1]
theorem Sb.e_wd (h : Sb m m') {k : Nat} (hk : k < 10) : wd m' k = wd m k := by unfold wd qv; rw [h.2.2.2 k hk]
theorem Sb.e_fst (h : Sb m m') {k : Nat} (hk : k ≤ 10) : fst m' k = fst m k := by
  induction k with
  | zero => rw [fst_0, fst_0]
  | succ k ih => rw [fst_succ, fst_succ, ih (by omega), h.e_wd (by omega)]
theorem Sb.e_cols (h : Sb m m') (hw : WF m) : cols m' = cols m := by
  have := wf_b hw
  unfold cols
  rw [h.e_nS, h.e_fst (by omega)]
theorem fa_first_cong {p q : Nat → Bool} : ∀ {n : Nat}, (∀ k, k < n → p k = q k) → fa_first p n = fa_first q n
  | 0, _ => rfl
  | n + 1, h => by
    unfold fa_first
    rw [fa_first_cong (n := n) (fun k hk => h k (by omega)), h n (by omega)]
theorem Sb.e_slat (h : Sb m m') (hw : WF m) (c : Nat) : slatOf m' c = slatOf m c := by
  have := wf_b hw
  unfold slatOf
  rw [h.e_nS]
  exact fa_first_cong (fun k hk => by rw [h.e_fst (by omega)])
theorem Sx.e_nB (h : Sx m m') : nB m' = nB m := by unfold nB qv; rw [h.1]
theorem Sx.e_box (h : Sx m m') {q : Nat} (h1 : 54 ≤ q) (h2 : q < 150) : qv m' q = qv m q := by unfold qv; rw [h.2 q h1 h2]
theorem Sx.e_picN (h : Sx m m') (s c r : Nat) {n : Nat} (hn : n ≤ 16) : picN m' s c r n = picN m s c r n := by
  induction n with
  | zero => rfl
  | succ n ih =>
    unfold picN xS xX xY xW xD xC
    rw [ih (by omega), h.e_box (q := 54 + 6 * n) (by omega) (by omega), h.e_box (q := 55 + 6 * n) (by omega) (by omega), h.e_box (q := 56 + 6 * n) (by omega) (by omega), h.e_box (q := 57 + 6 * n) (by omega) (by omega), h.e_box (q := 58 + 6 * n) (by omega) (by omega), h.e_box (q := 59 + 6 * n) (by omega) (by omega)]
theorem Sx.e_pic (h : Sx m m') (hw : WF m) (s c r : Nat) : pic m' s c r = pic m s c r := by
  have := wf_b hw
  unfold pic
  rw [h.e_nB, h.e_picN s c r (by omega)]
theorem Sx.e_boxes (h : Sx m m') (hw : WF m) (s : Nat) : boxesOf m' s = boxesOf m s := by
  have := wf_b hw
  unfold boxesOf
  rw [h.e_nB]
  exact fb_ct_cong (fun b hb => by unfold xS; rw [h.e_box (by omega) (by omega)])
theorem WF.mk2 (hw : WF m) (hb : Sb m m') (hx : Sx m m') (ht : ∀ k, k < nS m → -4 ≤ qv m' (5 + 5 * k) ∧ qv m' (5 + 5 * k) ≤ 4) (hd : ∀ k, k < nS m → 0 ≤ qv m' (6 + 5 * k) ∧ qv m' (6 + 5 * k) ≤ 1) (hc : ∀ k, k < nS m → ∀ s, s < 2 → 0 ≤ qv m' (7 + 5 * k + s) ∧ qv m' (7 + 5 * k + s) ≤ 99) (hf : ∀ q, 150 ≤ q → q < 1110 → 0 ≤ qv m' q ∧ qv m' q ≤ 9) : WF m' := by
  have hwb := wf_b hw
  obtain ⟨h0, h1, h2, h3, h4, h5, h6⟩ := hw
  refine ⟨by unfold qv; rw [hb.1]; exact h0, by unfold qv; rw [hb.2.1]; exact h1, by unfold qv; rw [hb.2.2.1]; exact h2, by unfold qv; rw [hx.1]; exact h3, fun k hk => ?_, fun b hb' => ?_, hf⟩
  · rw [hb.e_nS] at hk
    have e : qv m' (4 + 5 * k) = qv m (4 + 5 * k) := by unfold qv; rw [hb.2.2.2 k (by omega)]
    rw [e]
    have c0 := hc k hk 0 (by decide)
    have c1 := hc k hk 1 (by decide)
    rw [show 7 + 5 * k + 0 = 7 + 5 * k by omega] at c0
    rw [show 7 + 5 * k + 1 = 8 + 5 * k by omega] at c1
    exact ⟨(h4 k hk).1, ht k hk, hd k hk, c0, c1⟩
  · rw [hx.e_nB] at hb'
    rw [hx.e_box (q := 54 + 6 * b) (by omega) (by omega), hx.e_box (q := 55 + 6 * b) (by omega) (by omega), hx.e_box (q := 56 + 6 * b) (by omega) (by omega), hx.e_box (q := 57 + 6 * b) (by omega) (by omega), hx.e_box (q := 58 + 6 * b) (by omega) (by omega), hx.e_box (q := 59 + 6 * b) (by omega) (by omega)]
    exact h5 b hb'
theorem wf_tq (hw : WF m) {k : Nat} (hk : k < nS m) : -4 ≤ qv m (5 + 5 * k) ∧ qv m (5 + 5 * k) ≤ 4 := (hw.2.2.2.2.1 k hk).2.1
theorem wf_dq (hw : WF m) {k : Nat} (hk : k < nS m) : 0 ≤ qv m (6 + 5 * k) ∧ qv m (6 + 5 * k) ≤ 1 := (hw.2.2.2.2.1 k hk).2.2.1
theorem wf_cq (hw : WF m) {k : Nat} (hk : k < nS m) {s : Nat} (hs : s < 2) : 0 ≤ qv m (7 + 5 * k + s) ∧ qv m (7 + 5 * k + s) ≤ 99 := by
  have := (hw.2.2.2.2.1 k hk).2.2.2
  match s, hs with
  | 0, _ => exact this.1
  | 1, _ => rw [show 7 + 5 * k + 1 = 8 + 5 * k by omega]; exact this.2
theorem wf_fq (hw : WF m) {q : Nat} (h1 : 150 ≤ q) (h2 : q < 1110) : 0 ≤ qv m q ∧ qv m q ≤ 9 := hw.2.2.2.2.2.2 q h1 h2
theorem qv_up {q p : Nat} {v : Int} (hv : -1000 ≤ v ∧ v ≤ 1000) : qv (upd m p (iI v)) q = if q = p then v else qv m q := by
  unfold qv
  by_cases e : q = p
  · subst e; rw [pk_us, if_pos rfl, iI_ti (by omega) (by omega)]
  · rw [pk_un e, if_neg e]
/-- the tie of a slat -/
def mTie (m : Nat → Int32) (k v : Nat) : Nat → Int32 := upd m (6 + 5 * k) (iI v)
theorem mTie_b {k v : Nat} (hk : k < 10) : Sb m (mTie m k v) ∧ Sx m (mTie m k v) :=
  ⟨⟨pk_un (by omega), pk_un (by omega), pk_un (by omega), fun j _ => pk_un (by omega)⟩, ⟨pk_un (by omega), fun q _ _ => pk_un (by omega)⟩⟩
theorem mTie_wf (hw : WF m) {k v : Nat} (hk : k < nS m) (hv : v < 2) : WF (mTie m k v) := by
  have hwb := wf_b hw
  have hb := mTie_b (m := m) (k := k) (v := v) (by omega)
  have e : ∀ q, qv (mTie m k v) q = if q = 6 + 5 * k then (v : Int) else qv m q := fun q => qv_up (by omega)
  refine hw.mk2 hb.1 hb.2 (fun j hj => ?_) (fun j hj => ?_) (fun j hj s hs => ?_) (fun q h1 h2 => ?_)
  · rw [e, if_neg (by omega)]; exact wf_tq hw hj
  · rw [e]; split
    · omega
    · exact wf_dq hw hj
  · rw [e, if_neg (by omega)]; exact wf_cq hw hj hs
  · rw [e, if_neg (by omega)]; exact wf_fq hw h1 h2
/-- the coats of a face -/
def mCoat (m : Nat → Int32) (k s v : Nat) : Nat → Int32 := upd m (7 + 5 * k + s) (iI v)
theorem mCoat_b {k s v : Nat} (hk : k < 10) (hs : s < 2) : Sb m (mCoat m k s v) ∧ Sx m (mCoat m k s v) :=
  ⟨⟨pk_un (by omega), pk_un (by omega), pk_un (by omega), fun j _ => pk_un (by omega)⟩, ⟨pk_un (by omega), fun q _ _ => pk_un (by omega)⟩⟩
theorem mCoat_qv {k s v : Nat} (hv : v ≤ 99) (q : Nat) : qv (mCoat m k s v) q = if q = 7 + 5 * k + s then (v : Int) else qv m q := qv_up (by omega)
theorem mCoat_wf (hw : WF m) {k s v : Nat} (hk : k < nS m) (hs : s < 2) (hv : v ≤ 99) : WF (mCoat m k s v) := by
  have hwb := wf_b hw
  have hb := mCoat_b (m := m) (k := k) (v := v) (by omega) hs
  refine hw.mk2 hb.1 hb.2 (fun j hj => ?_) (fun j hj => ?_) (fun j hj s' hs' => ?_) (fun q h1 h2 => ?_)
  · rw [mCoat_qv hv, if_neg (by omega)]; exact wf_tq hw hj
  · rw [mCoat_qv hv, if_neg (by omega)]; exact wf_dq hw hj
  · rw [mCoat_qv hv]; split
    · omega
    · exact wf_cq hw hj hs'
  · rw [mCoat_qv hv, if_neg (by omega)]; exact wf_fq hw h1 h2
theorem mCoat_ct {k s v : Nat} (hs : s < 2) (hv : v ≤ 99) {j s' : Nat} (hs' : s' < 2) : ct (mCoat m k s v) j s' = if j = k ∧ s' = s then v else ct m j s' := by
  unfold ct
  rw [mCoat_qv hv]
  by_cases e : j = k ∧ s' = s
  · rw [if_pos (by omega), if_pos e]; omega
  · rw [if_neg (by omega), if_neg e]
/-- the faces anew -/
def wF (m : Nat → Int32) (f : Nat → Nat → Nat → Nat) : Nat → Int32 := fun q => if 150 ≤ q ∧ q < 1110 then iI (f ((q - 150) / 480) ((q - 150) % 480 / 8) ((q - 150) % 8) : Nat) else m q
theorem wF_q {f : Nat → Nat → Nat → Nat} {q : Nat} (h : q < 150 ∨ 1110 ≤ q) : wF m f q = m q := if_neg (by omega)
theorem wF_f {f : Nat → Nat → Nat → Nat} {s c r : Nat} (hs : s < 2) (hc : c < 60) (hr : r < 8) : wF m f (150 + 480 * s + 8 * c + r) = iI (f s c r : Nat) := by
  unfold wF
  rw [if_pos (by omega), show (150 + 480 * s + 8 * c + r - 150) / 480 = s by omega, show (150 + 480 * s + 8 * c + r - 150) % 480 / 8 = c by omega, show (150 + 480 * s + 8 * c + r - 150) % 8 = r by omega]
theorem wF_cong {f f' : Nat → Nat → Nat → Nat} (h : ∀ s c r, s < 2 → c < 60 → r < 8 → f s c r = f' s c r) : wF m f = wF m f' := by
  funext q
  unfold wF
  by_cases e : 150 ≤ q ∧ q < 1110
  · rw [if_pos e, if_pos e, h _ _ _ (by omega) (by omega) (by omega)]
  · rw [if_neg e, if_neg e]
theorem wF_id (hw : WF m) : wF m (fc m) = m := by
  funext q
  unfold wF
  by_cases e : 150 ≤ q ∧ q < 1110
  · rw [if_pos e]
    unfold fc
    rw [show 150 + 480 * ((q - 150) / 480) + 8 * ((q - 150) % 480 / 8) + (q - 150) % 8 = q by omega]
    exact (qv_nat (wf_fq hw e.1 e.2).1).symm
  · rw [if_neg e]
theorem wF_up {f : Nat → Nat → Nat → Nat} {s c r v : Nat} (hs : s < 2) (hc : c < 60) (hr : r < 8) : upd (wF m f) (150 + 480 * s + 8 * c + r) (iI (v : Nat)) = wF m (fun s' c' r' => if s' = s ∧ c' = c ∧ r' = r then v else f s' c' r') := by
  funext q
  by_cases e : q = 150 + 480 * s + 8 * c + r
  · subst e
    rw [pk_us, wF_f hs hc hr, if_pos ⟨rfl, rfl, rfl⟩]
  · rw [pk_un e]
    unfold wF
    by_cases h : 150 ≤ q ∧ q < 1110
    · rw [if_pos h, if_pos h]
      show _ = iI ((if (q - 150) / 480 = s ∧ (q - 150) % 480 / 8 = c ∧ (q - 150) % 8 = r then v else f ((q - 150) / 480) ((q - 150) % 480 / 8) ((q - 150) % 8) : Nat) : Int)
      rw [if_neg (by omega)]
    · rw [if_neg h, if_neg h]
theorem wF_b (f : Nat → Nat → Nat → Nat) : Sb m (wF m f) ∧ Sx m (wF m f) :=
  ⟨⟨wF_q (by omega), wF_q (by omega), wF_q (by omega), fun j _ => wF_q (by omega)⟩, ⟨wF_q (by omega), fun q _ _ => wF_q (by omega)⟩⟩
theorem wF_qv {f : Nat → Nat → Nat → Nat} {q : Nat} (h : q < 150) : qv (wF m f) q = qv m q := by unfold qv; rw [wF_q (Or.inl h)]
theorem wF_wf (hw : WF m) {f : Nat → Nat → Nat → Nat} (hf : ∀ s c r, s < 2 → c < 60 → r < 8 → f s c r ≤ 9) : WF (wF m f) := by
  have hwb := wf_b hw
  have hb := wF_b (m := m) f
  refine hw.mk2 hb.1 hb.2 (fun j hj => ?_) (fun j hj => ?_) (fun j hj s' hs' => ?_) (fun q h1 h2 => ?_)
  · rw [wF_qv (by omega)]; exact wf_tq hw hj
  · rw [wF_qv (by omega)]; exact wf_dq hw hj
  · rw [wF_qv (by omega)]; exact wf_cq hw hj hs'
  · have := hf ((q - 150) / 480) ((q - 150) % 480 / 8) ((q - 150) % 8) (by omega) (by omega) (by omega)
    unfold qv wF
    rw [if_pos ⟨h1, h2⟩, iI_ti (by omega) (by omega)]
    omega
theorem wF_fc {f : Nat → Nat → Nat → Nat} {s c r : Nat} (hs : s < 2) (hc : c < 60) (hr : r < 8) (hf : f s c r ≤ 9) : fc (wF m f) s c r = f s c r := by
  unfold fc qv
  rw [wF_f hs hc hr, iI_ti (by omega) (by omega)]
  omega
theorem wF_tu {f : Nat → Nat → Nat → Nat} {k : Nat} (hk : k < 10) : tu (wF m f) k = tu m k := wF_qv (by omega)
theorem wF_td {f : Nat → Nat → Nat → Nat} {k : Nat} (hk : k < 10) : td (wF m f) k = td m k := by unfold td; rw [wF_qv (by omega)]
theorem wF_ct {f : Nat → Nat → Nat → Nat} {k s : Nat} (hk : k < 10) (hs : s < 2) : ct (wF m f) k s = ct m k s := by unfold ct; rw [wF_qv (by omega)]
theorem fc_9 (hw : WF m) : ∀ s c r, s < 2 → c < 60 → r < 8 → fc m s c r ≤ 9 := fun _ _ _ hs hc hr => wf_f9 hw hs hc hr
end ZRW

