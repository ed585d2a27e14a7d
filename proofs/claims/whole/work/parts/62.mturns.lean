/-! the reference: turnsNeeded() -/
section ZMN
variable {g : zG} {l : Launch} {K : Int32 → zS → Prop} {X : String → zS → Prop} {m : Nat → Int32} {σ : zS}
/-- a set of bits as a number -/
def bN (p : Nat → Bool) : Nat → Nat
  | 0 => 0
  | n + 1 => if p n then bN p n + 2 ^ n else bN p n
theorem bN_lt (p : Nat → Bool) : ∀ n, bN p n < 2 ^ n
  | 0 => by show 0 < 1; decide
  | n + 1 => by
    have := bN_lt p n
    have e : 2 ^ (n + 1) = 2 ^ n + 2 ^ n := by rw [Nat.pow_succ]; omega
    unfold bN; split <;> omega
theorem bN_add {x n j : Nat} (h : x < 2 ^ n) : (2 ^ n + x).testBit j = (decide (j = n) || x.testBit j) := by
  rw [show 2 ^ n + x = 2 ^ n ||| x by
    have := Nat.two_pow_add_eq_or_of_lt h 1
    rw [Nat.mul_one] at this
    exact this, Nat.testBit_or, Nat.testBit_two_pow]
  by_cases e : n = j
  · subst e; simp
  · simp [e, show ¬ j = n from fun q => e q.symm]
theorem bN_bt (p : Nat → Bool) : ∀ n j, (bN p n).testBit j = (decide (j < n) && p j)
  | 0, j => by simp [bN]
  | n + 1, j => by
    have ih := bN_bt p n
    have hl := bN_lt p n
    unfold bN
    by_cases h : p n = true
    · rw [if_pos h, Nat.add_comm, bN_add hl, ih]
      by_cases e : j = n
      · subst e; simp [h]
      · by_cases q : j < n
        · simp [e, q, show j < n + 1 by omega]
        · simp [e, q, show ¬ j < n + 1 by omega]
    · rw [if_neg h, ih]
      by_cases e : j = n
      · subst e; simp [h]
      · by_cases q : j < n
        · simp [q, show j < n + 1 by omega]
        · simp [q, show ¬ j < n + 1 by omega]
theorem bN_or {p : Nat → Bool} {k : Nat} (hk : k < 31) : nI (bN p k) ||| (iI 1 <<< (iI (k : Int) &&& iI 31)) = nI (bN p k + 2 ^ k) := by
  apply b_ext
  intro i hi
  have hs : bt (iI 1 <<< (iI (k : Int) &&& iI 31)) i = decide (i = k) := by
    show bt ((1 : Int32) <<< (nI k &&& 31)) i = _
    rw [b_shl k (by omega) 1 hi]
    have h1 : ∀ j, bt 1 j = decide (j = 0) := by
      intro j
      by_cases hj : j < 32
      · show bt (nI 1) j = _
        rw [bt_nI _ _ hj]
        exact (by decide +kernel : ∀ i, i < 32 → (1 : Nat).testBit i = decide (i = 0)) j hj
      · rw [b_big (by omega)]; simp; omega
    rw [h1]
    by_cases e : i = k
    · subst e; simp
    · simp [e]; omega
  rw [b_or, hs, bt_nI _ _ hi, bt_nI _ _ hi, Nat.add_comm, bN_add (bN_lt p k), Bool.or_comm]
def otP (m : Nat → Int32) (t : Int) (k : Nat) : Bool := decide (td m k = 0 ∧ tu m k ≠ t)
theorem s_others_4 (hm : σ.1 26 = m) (hw : WF m) {t : Int} (ht : -4 ≤ t ∧ t ≤ 4) (H : K (nI (bN (otP m t) (nS m))) σ) (k : Nat) (hk : k ≤ nS m) : L_X7_othersThan_4 g l K X (iI t) (nI (bN (otP m t) k)) (iI k) σ := by
  have hb := wf_b hw
  have ih := fun h => s_others_4 hm hw ht H (k + 1) h
  refine b_X7_othersThan_4 ?_
  rw [show (Int32.toNatClampNeg 1) = 1 from rfl, hm, wf_1 hw]
  simp (disch := omega) only [iI_le, iI_add, li_1, li_2, li_0, li_31, or0]
  refine ⟨fun h => ?_, fun h => ?_⟩
  · obtain rfl : k = nS m := by omega
    exact H
  · have hk' : k < nS m := by omega
    have hs := wf_s hw hk'
    replace ih := ih hk'
    rw [show bN (otP m t) (k + 1) = if otP m t k then bN (otP m t) k + 2 ^ k else bN (otP m t) k from rfl] at ih
    refine s_ofD hm hw hk' ?_
    simp (disch := omega) only [iI_eq, or0]
    refine ⟨fun h2 => ?_, fun h2 => s_ofT hm hw hk' ?_⟩
    · rw [if_neg (by unfold otP; simp; omega)] at ih
      exact ih
    · simp (disch := omega) only [iI_eq, or0]
      refine ⟨fun h3 => ?_, fun h3 => ?_⟩
      · rw [if_neg (by unfold otP; simp [h3])] at ih
        exact ih
      · rw [if_pos (by unfold otP; simp; omega)] at ih
        rw [bN_or (by omega)]
        exact ih
termination_by nS m - k
theorem s_others (hm : σ.1 26 = m) (hw : WF m) {t : Int} (ht : -4 ≤ t ∧ t ≤ 4) (H : K (nI (bN (otP m t) (nS m))) σ) : CT g l M_X7_othersThan 0 [.ref (zad g 24), .int (iI t)] σ (zQi K X) :=
  b_X7_othersThan (s_others_4 hm hw ht H 0 (Nat.zero_le _))
def pc (N : Nat) : Nat := fb_ct (fun j => N.testBit j) 10
theorem pc_le (N : Nat) : pc N ≤ 10 := fb_ct_le _ _
theorem s_bits_4 {N : Nat} (hN : N < 1024) (H : K (iI (pc N)) σ) (j : Nat) (hj : j ≤ 10) : L_X7_bits_4 g l K X (iI (fb_ct (fun j => N.testBit j) j)) (nI (N / 2 ^ j)) σ := by
  have hb : N / 2 ^ j ≤ N := Nat.div_le_self _ _
  have hc := fb_ct_le (fun j => N.testBit j) j
  have ih := fun h => s_bits_4 hN H (j + 1) h
  have ht : N.testBit j = decide (N / 2 ^ j % 2 = 1) := Nat.testBit_eq_decide_div_mod_eq
  have hz : N / 2 ^ j = 0 → pc N = fb_ct (fun j => N.testBit j) j := fun h0 => by
    have hlt : N < 2 ^ j := by
      rcases Nat.lt_or_ge N (2 ^ j) with q | q
      · exact q
      · have := Nat.div_pos q (Nat.two_pow_pos j); omega
    have e := fb_ct_split (fun j => N.testBit j) j (10 - j)
    rw [show j + (10 - j) = 10 by omega, (fb_ct_zero (p := fun k => N.testBit (j + k)) (n := 10 - j)).mpr (fun k _ => Nat.testBit_lt_two_pow (Nat.lt_of_lt_of_le hlt (Nat.pow_le_pow_right (by decide) (by omega))))] at e
    exact e
  have h10 : j = 10 → N / 2 ^ j = 0 := fun e => by rw [e]; exact Nat.div_eq_of_lt hN
  rw [fb_ct_succ, Nat.pow_succ, ← Nat.div_div_eq_div_mul, ht] at ih
  generalize N / 2 ^ j = q at *
  refine b_X7_bits_4 ?_
  rw [show (1 : Int32) &&& 31 = nI 1 &&& 31 from rfl, pk_shrN (by omega) (nI 1 &&& 31) 1 (s_l 1 (by decide)), show (nI q) &&& 1 = nI (q % 2) from fa_mask q 1]
  rw [show (2 : Nat) ^ 1 = 2 from rfl]
  simp (disch := omega) only [iI_le, li_0, iI_add, iI_n] at ih ⊢
  refine ⟨fun h => ?_, fun h => ?_⟩
  · rw [hz (by omega)] at H; exact H
  · replace ih := ih (by omega)
    by_cases e : q % 2 = 1
    · rw [if_pos (decide_eq_true e)] at ih
      rw [e]
      exact ih
    · rw [if_neg (by simp [e])] at ih
      rw [show q % 2 = 0 by omega]
      exact ih
termination_by 10 - j
theorem s_bits {N : Nat} (hN : N < 1024) (H : K (iI (pc N)) σ) : CT g l M_X7_bits 0 [.int (nI N)] σ (zQi K X) := by
  have := s_bits_4 (g := g) (l := l) (X := X) hN H 0 (by decide)
  rw [Nat.pow_zero, Nat.div_one] at this
  exact b_X7_bits this
theorem s_has {N k : Nat} (hN : N < 1024) (hk : k < 32) (H : K (bI (N.testBit k = true)) σ) : CT g l M_X7_has 0 [.int (nI N), .int (iI k)] σ (zQi K X) := by
  refine b_X7_has ?_
  have e : (nI N >>> (iI (k : Int) &&& 31)) &&& 1 = iI ((N / 2 ^ k % 2 : Nat) : Int) := by
    rw [show iI (k : Int) = nI k from rfl, pk_shrN (by omega) (nI k &&& 31) k (s_l k hk), ← iI_n]
    exact fa_mask (N / 2 ^ k) 1
  have ht : N.testBit k = decide (N / 2 ^ k % 2 = 1) := Nat.testBit_eq_decide_div_mod_eq
  have hq : N / 2 ^ k % 2 < 2 := Nat.mod_lt _ (by decide)
  rw [e]
  rw [ht] at H
  generalize N / 2 ^ k % 2 = q at *
  try simp (disch := omega) only [iI_add, iI_sub, iI_mul, iI_neg, iI_n, iI_lt, iI_le, iI_eq, iI_tn, iI_ti, bI_0, bI_1, iI_L, iL_0, Decidable.not_not, Int.toNat_natCast, zpt_at, zpt_ne, pk_us, pk_un, forall_eq, tn_0, tn_1, tn_2, tn_3, tn_4, tn_5, ni_1, ni_2, ni_3, ni_4, ni_5, not_false_eq_true, not_true_eq_false, true_implies, false_implies, and_true, true_and, iL_6, iL_m6, iL_7, iL_8, iL_9, iL_4, iL_m4, iL_m8, li_0, li_1, li_2, li_3, li_4, li_5, li_6, li_7, li_8, li_9, li_10, li_11, li_12, li_13, li_15, li_16, li_18, li_20, li_24, li_31, li_32, li_40, li_46, li_48, li_57, li_59, li_60, li_61, li_63, li_64, li_97, li_99, li_122, li_124, li_150, li_255, li_480, li_488, li_600, li_999, li_1110, li_54]
  refine ⟨fun h => ?_, fun h => ?_⟩
  · rw [bI_F (by simp; omega)] at H; exact H
  · rw [bI_T (by simp; omega)] at H; exact H
abbrev L31 : List Nat := [31]
/-- the turns with a set of slats turned -/
def tS (m : Nat → Int32) (S : Nat) (t : Int) (k : Nat) : Int := if S.testBit k = true then t else tu m k
theorem zup_sw {w x : Nat → Int32} {k : Nat} {v : Int32} : zup (zpt (zpt σ 31 w) 26 x) 31 k v = zpt (zpt σ 31 (upd w k v)) 26 x := by
  show zpt (zpt (zpt σ 31 w) 26 x) 31 (upd ((zpt (zpt σ 31 w) 26 x).1 31) k v) = _
  rw [zpt_ne (by decide), zpt_at, zpt_sw (zpt σ 31 w) (by decide), zpt_zpt]
theorem s_wholeBy_63 (hm : σ.1 26 = m) (hw : WF m) {S : Nat} {t : Int} (ht : -4 ≤ t ∧ t ≤ 4) {v : Nat} (hv : v < 2) {w : Nat → Int32} (hws : ∀ j, j < nS m → w j = iI (tu m j)) (H : ∀ τ, FrL L31 σ τ → K (iI v) τ) (k : Nat) (hk : k ≤ nS m) : L_X7_isWholeBy_63 g l K X (iI v) (iI k) (zpt (zpt σ 31 w) 26 (wT m (fun j => if j < k then tu m j else tS m S t j))) := by
  have hb := wf_b hw
  have htS : ∀ j, j < nS m → -4 ≤ (if j < k then tu m j else tS m S t j) ∧ (if j < k then tu m j else tS m S t j) ≤ 4 := fun j hj => by
    have := wf_s hw hj
    unfold tS
    split
    · omega
    · split <;> omega
  have hw' : WF (wT m (fun j => if j < k then tu m j else tS m S t j)) := wT_wf hw htS
  have ih := fun h => s_wholeBy_63 (S := S) hm hw ht hv hws H (k + 1) h
  refine b_X7_isWholeBy_63 ?_
  rw [show (Int32.toNatClampNeg 1) = 1 from rfl, zpt_at, wf_1 hw', wT_nS]
  try simp (disch := omega) only [iI_add, iI_sub, iI_mul, iI_neg, iI_n, iI_lt, iI_le, iI_eq, iI_tn, iI_ti, bI_0, bI_1, iI_L, iL_0, Decidable.not_not, Int.toNat_natCast, zpt_at, zpt_ne, pk_us, pk_un, forall_eq, tn_0, tn_1, tn_2, tn_3, tn_4, tn_5, ni_1, ni_2, ni_3, ni_4, ni_5, not_false_eq_true, not_true_eq_false, true_implies, false_implies, and_true, true_and, iL_6, iL_m6, iL_7, iL_8, iL_9, iL_4, iL_m4, iL_m8, li_0, li_1, li_2, li_3, li_4, li_5, li_6, li_7, li_8, li_9, li_10, li_11, li_12, li_13, li_15, li_16, li_18, li_20, li_24, li_31, li_32, li_40, li_46, li_48, li_57, li_59, li_60, li_61, li_63, li_64, li_97, li_99, li_122, li_124, li_150, li_255, li_480, li_488, li_600, li_999, li_1110, li_54]
  refine ⟨fun h => ⟨?_, ?_⟩, fun h => ⟨in10 (n := nS m) (by omega) hb.2.2.1, ?_⟩⟩
  · match v, hv with
    | 0, _ => exact zbl_0
    | 1, _ => exact zbl_1
  · refine H _ ⟨fun b hb' => ?_, rfl⟩
    by_cases e : b = 26
    · subst e
      rw [zpt_at, hm]
      exact wT_id (fun j hj => if_pos (by omega))
    · rw [zpt_ne e, zpt_ne (fun q => hb' (by rw [q]; decide))]
  · have hk' : k < nS m := by omega
    rw [hws k hk']
    refine s_setsT (f := m) hw hk' ?_
    replace ih := ih hk'
    rw [wT_cong (m := m) (t := fun j => if j < k + 1 then tu m j else tS m S t j) (t' := fun j => if j = k then tu m k else if j < k then tu m j else tS m S t j) (fun j hj => by
        by_cases q : j = k
        · subst q; simp
        · (try simp only)
          rw [if_neg q]
          by_cases q2 : j < k
          · rw [if_pos (by omega), if_pos q2]
          · rw [if_neg (by omega), if_neg q2])] at ih
    exact ih
termination_by nS m - k
theorem s_wholeBy_3 (hm : σ.1 26 = m) (hw : WF m) {S s : Nat} (hS : S < 1024) (hs : s < 2) {t a : Int} (ht : -4 ≤ t ∧ t ≤ 4) (ha : -6 ≤ a ∧ a ≤ 6) (H : ∀ τ, FrL L31 σ τ → K (iI (wN (wT m (tS m S t)) a s)) τ) (k : Nat) (hk : k ≤ nS m) (w : Nat → Int32) (hws : ∀ j, j < k → w j = iI (tu m j)) : L_X7_isWholeBy_3 g l K X (nI S) (iI t) (iI a) (iI s) (iI k) (zpt (zpt σ 31 w) 26 (wT m (fun j => if j < k then tS m S t j else tu m j))) := by
  have hb := wf_b hw
  have htS : ∀ j, j < nS m → -4 ≤ (if j < k then tS m S t j else tu m j) ∧ (if j < k then tS m S t j else tu m j) ≤ 4 := fun j hj => by
    have := wf_s hw hj
    unfold tS
    split
    · split <;> omega
    · omega
  have hw' : WF (wT m (fun j => if j < k then tS m S t j else tu m j)) := wT_wf hw htS
  have ih := fun h w h' => s_wholeBy_3 hm hw hS hs ht ha H (k + 1) h w h'
  refine b_X7_isWholeBy_3 ?_
  rw [show (Int32.toNatClampNeg 1) = 1 from rfl, zpt_at, wf_1 hw', wT_nS]
  try simp (disch := omega) only [iI_add, iI_sub, iI_mul, iI_neg, iI_n, iI_lt, iI_le, iI_eq, iI_tn, iI_ti, bI_0, bI_1, iI_L, iL_0, Decidable.not_not, Int.toNat_natCast, zpt_at, zpt_ne, pk_us, pk_un, forall_eq, tn_0, tn_1, tn_2, tn_3, tn_4, tn_5, ni_1, ni_2, ni_3, ni_4, ni_5, not_false_eq_true, not_true_eq_false, true_implies, false_implies, and_true, true_and, iL_6, iL_m6, iL_7, iL_8, iL_9, iL_4, iL_m4, iL_m8, li_0, li_1, li_2, li_3, li_4, li_5, li_6, li_7, li_8, li_9, li_10, li_11, li_12, li_13, li_15, li_16, li_18, li_20, li_24, li_31, li_32, li_40, li_46, li_48, li_57, li_59, li_60, li_61, li_63, li_64, li_97, li_99, li_122, li_124, li_150, li_255, li_480, li_488, li_600, li_999, li_1110, li_54]
  refine ⟨fun h => ?_, fun h => ?_⟩
  · obtain rfl : k = nS m := by omega
    refine s_isWhole (zpt_at _ _ _) hw' hs ha ?_
    rw [wT_cong (m := m) (t := fun j => if j < nS m then tS m S t j else tu m j) (t' := tS m S t) (fun j hj => if_pos hj)]
    have := s_wholeBy_63 (g := g) (l := l) (X := X) (S := S) hm hw ht (wN_le _ _ _) hws H 0 (Nat.zero_le _)
    rw [wT_cong (m := m) (t := fun j => if j < 0 then tu m j else tS m S t j) (t' := tS m S t) (fun j hj => if_neg (Nat.not_lt_zero j))] at this
    exact this
  · have hk' : k < nS m := by omega
    have ht1 : tu (wT m (fun j => if j < k then tS m S t j else tu m j)) k = tu m k := by
      rw [wT_tu hk' (htS k hk'), if_neg (Nat.lt_irrefl k)]
    have hkT : k < nS (wT m (fun j => if j < k then tS m S t j else tu m j)) := by rw [wT_nS]; exact hk'
    refine s_ofT (zpt_at _ _ _) hw' hkT ?_
    rw [ht1, zup_sw]
    refine ⟨in10 hk' hb.2.2.1, s_has hS (by omega) ?_⟩
    have ih := ih hk' (upd w k (iI (tu m k))) (fun j hj => by
      by_cases e : j = k
      · subst e; rw [pk_us]
      · rw [pk_un e]; exact hws j (by omega))
    try simp (disch := omega) only [iI_add, iI_sub, iI_mul, iI_neg, iI_n, iI_lt, iI_le, iI_eq, iI_tn, iI_ti, bI_0, bI_1, iI_L, iL_0, Decidable.not_not, Int.toNat_natCast, zpt_at, zpt_ne, pk_us, pk_un, forall_eq, tn_0, tn_1, tn_2, tn_3, tn_4, tn_5, ni_1, ni_2, ni_3, ni_4, ni_5, not_false_eq_true, not_true_eq_false, true_implies, false_implies, and_true, true_and, iL_6, iL_m6, iL_7, iL_8, iL_9, iL_4, iL_m4, iL_m8, li_0, li_1, li_2, li_3, li_4, li_5, li_6, li_7, li_8, li_9, li_10, li_11, li_12, li_13, li_15, li_16, li_18, li_20, li_24, li_31, li_32, li_40, li_46, li_48, li_57, li_59, li_60, li_61, li_63, li_64, li_97, li_99, li_122, li_124, li_150, li_255, li_480, li_488, li_600, li_999, li_1110, li_54]
    refine ⟨fun h2 => ?_, fun h2 => s_setsT (f := m) hw hk' ?_⟩
    · rw [wT_cong (m := m) (t := fun j => if j < k + 1 then tS m S t j else tu m j) (t' := fun j => if j < k then tS m S t j else tu m j) (fun j hj => by
        by_cases q : j = k
        · subst q; simp [tS, h2]
        · (try simp only)
          by_cases q2 : j < k
          · rw [if_pos (by omega), if_pos q2]
          · rw [if_neg (by omega), if_neg q2])] at ih
      exact ih
    · rw [wT_cong (m := m) (t := fun j => if j < k + 1 then tS m S t j else tu m j) (t' := fun j => if j = k then t else if j < k then tS m S t j else tu m j) (fun j hj => by
        by_cases q : j = k
        · subst q; simp [tS, h2]
        · (try simp only)
          rw [if_neg q]
          by_cases q2 : j < k
          · rw [if_pos (by omega), if_pos q2]
          · rw [if_neg (by omega), if_neg q2])] at ih
      exact ih
termination_by nS m - k
theorem s_wholeBy (hm : σ.1 26 = m) (hw : WF m) {S s : Nat} (hS : S < 1024) (hs : s < 2) {t a : Int} (ht : -4 ≤ t ∧ t ≤ 4) (ha : -6 ≤ a ∧ a ≤ 6) (H : ∀ τ, FrL L31 σ τ → K (iI (wN (wT m (tS m S t)) a s)) τ) : CT g l M_X7_isWholeBy 0 [.ref (zad g 24), .int (nI S), .int (iI t), .int (iI a), .int (iI s)] σ (zQi K X) := by
  have := s_wholeBy_3 (g := g) (l := l) (X := X) hm hw hS hs ht ha H 0 (Nat.zero_le _) (σ.1 31) (fun j hj => absurd hj (Nat.not_lt_zero j))
  rw [wT_id (fun j _ => if_neg (Nat.not_lt_zero j)), zpt_id, ← hm, zpt_id] at this
  exact b_X7_isWholeBy this
/-- one turn for all that is in reach: no tied slat has another one, and the picture is whole then -/
noncomputable def gdT (m : Nat → Int32) (a : Int) (s : Nat) (t : Int) : Nat := if fb_ct (fun k => decide (tu m k ≠ t ∧ td m k ≠ 0)) (nS m) = 0 then wN (wT m (fun _ => t)) a s else 0
def cnT (m : Nat → Int32) (t : Int) : Nat := fb_ct (fun k => decide (tu m k ≠ t)) (nS m)
theorem by_set (hw : WF m) {a : Int} {s S : Nat} {t : Int} (ht : -4 ≤ t ∧ t ≤ 4) (hsub : ∀ j, S.testBit j = true → (bN (otP m t) (nS m)).testBit j = true) (h0 : S ≠ 0) (h1 : wN (wT m (tS m S t)) a s = 1) : gdT m a s t = 1 ∧ S = bN (otP m t) (nS m) ∧ pc S = cnT m t ∧ 0 < cnT m t := by
  have hb := wf_b hw
  have htS : ∀ j, j < nS m → -4 ≤ tS m S t j ∧ tS m S t j ≤ 4 := fun j hj => by
    have := wf_s hw hj
    unfold tS
    split <;> omega
  have hw' : WF (wT m (tS m S t)) := wT_wf hw htS
  have hal := whole_turns hw' h1
  rw [wT_nS] at hal
  have hO : ∀ j, S.testBit j = true → j < nS m ∧ td m j = 0 ∧ tu m j ≠ t := fun j hj => by
    have := hsub j hj
    rw [bN_bt] at this
    simp only [Bool.and_eq_true, decide_eq_true_eq, otP] at this
    exact ⟨this.1, this.2⟩
  obtain ⟨j0, hj0⟩ := Nat.exists_testBit_of_ne_zero h0
  have hj0' := (hO j0 hj0).1
  have all : ∀ k, k < nS m → tS m S t k = t := fun k hk => by
    have e1 := hal k hk
    have e2 := hal j0 hj0'
    rw [wT_tu hk (htS k hk), wT_tu (by omega) (htS 0 (by omega))] at e1
    rw [wT_tu hj0' (htS j0 hj0'), wT_tu (by omega) (htS 0 (by omega))] at e2
    have e3 : tS m S t j0 = t := if_pos hj0
    rw [e1, ← e2, e3]
  have hin : ∀ k, k < nS m → (S.testBit k = true ↔ tu m k ≠ t) := fun k hk => by
    refine ⟨fun q => (hO k q).2.2, fun q => ?_⟩
    have := all k hk
    unfold tS at this
    by_cases e : S.testBit k = true
    · exact e
    · rw [if_neg e] at this; exact absurd this q
  have hwe : wT m (tS m S t) = wT m (fun _ => t) := wT_cong all
  refine ⟨?_, ?_, ?_, ?_⟩
  · unfold gdT
    rw [if_pos ?_]
    · rw [← hwe]; exact h1
    · rw [fb_ct_zero]
      intro k hk
      simp only [decide_eq_false_iff_not]
      intro q
      exact q.2 (hO k ((hin k hk).mpr q.1)).2.1
  · apply Nat.eq_of_testBit_eq
    intro j
    rw [bN_bt]
    by_cases hj : j < nS m
    · simp only [hj, decide_true, Bool.true_and, otP]
      by_cases e : S.testBit j = true
      · rw [e]; exact (decide_eq_true (hO j e).2).symm
      · rw [Bool.not_eq_true] at e
        rw [e]
        refine (decide_eq_false (fun q => ?_)).symm
        have := (hin j hj).mpr q.2
        rw [e] at this; exact absurd this (by decide)
    · simp only [hj, decide_false, Bool.false_and]
      cases e : S.testBit j
      · rfl
      · exact absurd (hO j e).1 hj
  · unfold pc cnT
    have e := fb_ct_split (fun j => S.testBit j) (nS m) (10 - nS m)
    rw [show nS m + (10 - nS m) = 10 by omega, (fb_ct_zero (p := fun k => S.testBit (nS m + k)) (n := 10 - nS m)).mpr (fun k _ => by
      cases e : S.testBit (nS m + k)
      · rfl
      · have := (hO _ e).1; omega)] at e
    rw [e, Nat.add_zero]
    refine fb_ct_cong (fun k hk => ?_)
    by_cases q : S.testBit k = true
    · rw [q]; exact (decide_eq_true ((hin k hk).mp q)).symm
    · rw [Bool.not_eq_true] at q
      rw [q]
      refine (decide_eq_false (fun x => ?_)).symm
      have := (hin k hk).mpr x
      rw [q] at this; exact absurd this (by decide)
  · unfold cnT
    rw [fb_ct_pos]
    exact ⟨j0, hj0', decide_eq_true (hO j0 hj0).2.2⟩
theorem by_all (hw : WF m) {a : Int} {s : Nat} {t : Int} (ht : -4 ≤ t ∧ t ≤ 4) (h1 : gdT m a s t = 1) : wN (wT m (tS m (bN (otP m t) (nS m)) t)) a s = 1 := by
  unfold gdT at h1
  by_cases q : fb_ct (fun k => decide (tu m k ≠ t ∧ td m k ≠ 0)) (nS m) = 0
  · rw [if_pos q] at h1
    rw [wT_cong (m := m) (t := tS m (bN (otP m t) (nS m)) t) (t' := fun _ => t) (fun k hk => ?_)]
    · exact h1
    · unfold tS
      rw [bN_bt]
      have := fb_ct_zero.mp q k hk
      simp only [decide_eq_false_iff_not] at this
      simp only [hk, decide_true, Bool.true_and, otP, decide_eq_true_eq]
      by_cases e : tu m k = t
      · split
        · rfl
        · exact e
      · rw [if_pos ⟨Decidable.not_not.mp (fun x => this ⟨e, x⟩), e⟩]
  · rw [if_neg q] at h1; omega
theorem pc_O (hw : WF m) {t : Int} (h0 : fb_ct (fun k => decide (tu m k ≠ t ∧ td m k ≠ 0)) (nS m) = 0) : pc (bN (otP m t) (nS m)) = cnT m t := by
  have hb := wf_b hw
  unfold pc cnT
  have e := fb_ct_split (fun j => (bN (otP m t) (nS m)).testBit j) (nS m) (10 - nS m)
  rw [show nS m + (10 - nS m) = 10 by omega, (fb_ct_zero (p := fun k => (bN (otP m t) (nS m)).testBit (nS m + k)) (n := 10 - nS m)).mpr (fun k _ => by
    rw [bN_bt, decide_eq_false (by omega : ¬ nS m + k < nS m), Bool.false_and])] at e
  rw [e, Nat.add_zero]
  refine fb_ct_cong (fun k hk => ?_)
  have := fb_ct_zero.mp h0 k hk
  simp only [decide_eq_false_iff_not] at this
  rw [bN_bt]
  simp only [hk, decide_true, Bool.true_and, otP]
  by_cases e : tu m k = t
  · simp [e]
  · rw [decide_eq_true e, decide_eq_true ⟨Decidable.not_not.mp (fun x => this ⟨e, x⟩), e⟩]
theorem cn_O {t : Int} (h : 0 < cnT m t) (h0 : fb_ct (fun k => decide (tu m k ≠ t ∧ td m k ≠ 0)) (nS m) = 0) : bN (otP m t) (nS m) ≠ 0 := by
  unfold cnT at h
  obtain ⟨k, hk, hp⟩ := fb_ct_pos.mp h
  simp only [decide_eq_true_eq] at hp
  have := fb_ct_zero.mp h0 k hk
  simp only [decide_eq_false_iff_not] at this
  intro e
  have hb := bN_bt (otP m t) (nS m) k
  rw [e, Nat.zero_testBit] at hb
  simp only [hk, decide_true, Bool.true_and, otP] at hb
  exact of_decide_eq_false hb.symm ⟨Decidable.not_not.mp (fun x => this ⟨hp, x⟩), hp⟩
/-- the least number of slats so far -/
noncomputable def lsN (m : Nat → Int32) (a : Int) (s : Nat) : Nat → Nat
  | 0 => 11
  | n + 1 => if gdT m a s (-4 + (n : Int)) = 1 ∧ 0 < cnT m (-4 + (n : Int)) ∧ cnT m (-4 + (n : Int)) < lsN m a s n then cnT m (-4 + (n : Int)) else lsN m a s n
theorem lsN_le (m : Nat → Int32) (a : Int) (s : Nat) : ∀ n, lsN m a s n ≤ 11
  | 0 => Nat.le_refl _
  | n + 1 => by
    have := lsN_le m a s n
    unfold lsN; split <;> omega
theorem s_tn_rest {σ0 : zS} (hm : σ0.1 26 = m) (hw : WF m) {s : Nat} (hs : s < 2) {t a : Int} (ht : -4 ≤ t ∧ t ≤ 4) (ha : -6 ≤ a ∧ a ≤ 6) {L : Nat} (hL : L ≤ 11) (H : ∀ τ, FrL L31 σ0 τ → L_X7_turnsNeeded_37 g l K X (iI a) (iI s) (iI L) (iI (t + 1)) τ) (S : Nat) (hS : S < bN (otP m t) (nS m) ∨ S = 0) (hsub : ∀ j, S.testBit j = true → (bN (otP m t) (nS m)).testBit j = true) (σ : zS) (hF : FrL L31 σ0 σ) : L_X7_turnsNeeded_55 g l K X (iI a) (iI s) (iI L) (iI t) (nI (bN (otP m t) (nS m))) (nI S) σ := by
  have hb := wf_b hw
  have hO : bN (otP m t) (nS m) < 1024 := Nat.lt_of_lt_of_le (bN_lt _ _) (Nat.pow_le_pow_right (n := 2) (by decide) hb.2.2.1 : 2 ^ nS m ≤ 2 ^ 10)
  have hSl : S < 1024 := by omega
  have hp := pc_le S
  have ih := fun (h0 : S ≠ 0) => s_tn_rest hm hw hs ht ha hL H ((S - 1) &&& bN (otP m t) (nS m)) (by
    have h1 : (S - 1) &&& bN (otP m t) (nS m) ≤ S - 1 := Nat.and_le_left
    omega) (fun j hj => by
    rw [Nat.testBit_and, Bool.and_eq_true] at hj
    exact hj.2)
  refine b_X7_turnsNeeded_55 ?_
  have e1 : (nI S - 1) &&& nI (bN (otP m t) (nS m)) = if S = 0 then (nI S - 1) &&& nI (bN (otP m t) (nS m)) else nI ((S - 1) &&& bN (otP m t) (nS m)) := by
    by_cases h : S = 0
    · rw [if_pos h]
    · rw [if_neg h, ← fa_and]
      congr 1
      rw [show (1 : Int32) = iI 1 from rfl, iI_n, iI_n, iI_sub]
      congr 1
      omega
  rw [e1]
  have e0 : nI S ≤ 0 ↔ S = 0 := by
    rw [show (0 : Int32) = iI 0 from rfl, iI_n, iI_le (by omega) (by omega) (by omega) (by omega)]
    omega
  have e5 : iI t + 1 = iI (t + 1) := iI_add t 1
  rw [e0, e5]
  refine ⟨fun h => ?_, fun h => ?_⟩
  · exact H σ hF
  · rw [if_neg h]
    have hm' := (hF.1 26 (by decide)).trans hm
    refine s_bits hSl ?_
    try simp (disch := omega) only [iI_add, iI_sub, iI_mul, iI_neg, iI_n, iI_lt, iI_le, iI_eq, iI_tn, iI_ti, bI_0, bI_1, iI_L, iL_0, Decidable.not_not, Int.toNat_natCast, zpt_at, zpt_ne, pk_us, pk_un, forall_eq, tn_0, tn_1, tn_2, tn_3, tn_4, tn_5, ni_1, ni_2, ni_3, ni_4, ni_5, not_false_eq_true, not_true_eq_false, true_implies, false_implies, and_true, true_and, iL_6, iL_m6, iL_7, iL_8, iL_9, iL_4, iL_m4, iL_m8, li_0, li_1, li_2, li_3, li_4, li_5, li_6, li_7, li_8, li_9, li_10, li_11, li_12, li_13, li_15, li_16, li_18, li_20, li_24, li_31, li_32, li_40, li_46, li_48, li_57, li_59, li_60, li_61, li_63, li_64, li_97, li_99, li_122, li_124, li_150, li_255, li_480, li_488, li_600, li_999, li_1110, li_54]
    refine ⟨fun h2 => ih h σ hF, fun h2 => s_wholeBy hm' hw hSl hs ht ha (fun τ hF' => ?_)⟩
    have hwl := wN_le (wT m (tS m S t)) a s
    try simp (disch := omega) only [iI_add, iI_sub, iI_mul, iI_neg, iI_n, iI_lt, iI_le, iI_eq, iI_tn, iI_ti, bI_0, bI_1, iI_L, iL_0, Decidable.not_not, Int.toNat_natCast, zpt_at, zpt_ne, pk_us, pk_un, forall_eq, tn_0, tn_1, tn_2, tn_3, tn_4, tn_5, ni_1, ni_2, ni_3, ni_4, ni_5, not_false_eq_true, not_true_eq_false, true_implies, false_implies, and_true, true_and, iL_6, iL_m6, iL_7, iL_8, iL_9, iL_4, iL_m4, iL_m8, li_0, li_1, li_2, li_3, li_4, li_5, li_6, li_7, li_8, li_9, li_10, li_11, li_12, li_13, li_15, li_16, li_18, li_20, li_24, li_31, li_32, li_40, li_46, li_48, li_57, li_59, li_60, li_61, li_63, li_64, li_97, li_99, li_122, li_124, li_150, li_255, li_480, li_488, li_600, li_999, li_1110, li_54]
    refine ⟨fun h3 => ih h τ (hF.tr hF'), fun h3 => ?_⟩
    exfalso
    have := by_set hw ht hsub h (by omega : wN (wT m (tS m S t)) a s = 1)
    omega
termination_by S
decreasing_by
  have h1 : (S - 1) &&& bN (otP m t) (nS m) ≤ S - 1 := Nat.and_le_left
  omega
theorem and_sub {S O j : Nat} (h : (S &&& O).testBit j = true) : O.testBit j = true := by
  rw [Nat.testBit_and, Bool.and_eq_true] at h
  exact h.2
theorem s_tn_37 {σ0 : zS} (hm : σ0.1 26 = m) (hw : WF m) {s : Nat} (hs : s < 2) {a : Int} (ha : -6 ≤ a ∧ a ≤ 6) (H : ∀ τ, FrL L31 σ0 τ → K (iI (if lsN m a s 9 ≤ 10 then (lsN m a s 9 : Int) else -1)) τ) (j : Nat) (hj : j ≤ 9) (σ : zS) (hF : FrL L31 σ0 σ) : L_X7_turnsNeeded_37 g l K X (iI a) (iI s) (iI (lsN m a s j)) (iI (-4 + (j : Int))) σ := by
  have hb := wf_b hw
  have hl := lsN_le m a s j
  have ih := fun h σ hF => s_tn_37 hm hw hs ha H (j + 1) h σ hF
  refine b_X7_turnsNeeded_37 ?_
  try simp (disch := omega) only [iI_add, iI_sub, iI_mul, iI_neg, iI_n, iI_lt, iI_le, iI_eq, iI_tn, iI_ti, bI_0, bI_1, iI_L, iL_0, Decidable.not_not, Int.toNat_natCast, zpt_at, zpt_ne, pk_us, pk_un, forall_eq, tn_0, tn_1, tn_2, tn_3, tn_4, tn_5, ni_1, ni_2, ni_3, ni_4, ni_5, not_false_eq_true, not_true_eq_false, true_implies, false_implies, and_true, true_and, iL_6, iL_m6, iL_7, iL_8, iL_9, iL_4, iL_m4, iL_m8, li_0, li_1, li_2, li_3, li_4, li_5, li_6, li_7, li_8, li_9, li_10, li_11, li_12, li_13, li_15, li_16, li_18, li_20, li_24, li_31, li_32, li_40, li_46, li_48, li_57, li_59, li_60, li_61, li_63, li_64, li_97, li_99, li_122, li_124, li_150, li_255, li_480, li_488, li_600, li_999, li_1110, li_54]
  refine ⟨fun h => ?_, fun h => ?_⟩
  · obtain rfl : j = 9 := by omega
    have := H σ hF
    refine ⟨fun h2 => ?_, fun h2 => ?_⟩
    · rw [if_pos (by omega)] at this; exact this
    · rw [if_neg (by omega)] at this; exact this
  · replace ih := ih (by omega)
    rw [show ((-4 : Int) + ((j + 1 : Nat) : Int)) = -4 + (j : Int) + 1 by omega, show lsN m a s (j + 1) = if gdT m a s (-4 + (j : Int)) = 1 ∧ 0 < cnT m (-4 + (j : Int)) ∧ cnT m (-4 + (j : Int)) < lsN m a s j then cnT m (-4 + (j : Int)) else lsN m a s j from rfl] at ih
    have ht : -4 ≤ -4 + (j : Int) ∧ -4 + (j : Int) ≤ 4 := by omega
    generalize -4 + (j : Int) = t at *
    have hm' := (hF.1 26 (by decide)).trans hm
    refine s_others hm' hw ht ?_
    have hO : bN (otP m t) (nS m) < 1024 := Nat.lt_of_lt_of_le (bN_lt _ _) (Nat.pow_le_pow_right (n := 2) (by decide) hb.2.2.1 : 2 ^ nS m ≤ 2 ^ 10)
    have hgd : gdT m a s t = 1 → fb_ct (fun k => decide (tu m k ≠ t ∧ td m k ≠ 0)) (nS m) = 0 := fun q => by
      unfold gdT at q
      by_cases e : fb_ct (fun k => decide (tu m k ≠ t ∧ td m k ≠ 0)) (nS m) = 0
      · exact e
      · rw [if_neg e] at q; omega
    have hpcO := pc_le (bN (otP m t) (nS m))
    refine b_X7_turnsNeeded_55 ?_
    have e1 : bN (otP m t) (nS m) ≠ 0 → (nI (bN (otP m t) (nS m)) - 1) &&& nI (bN (otP m t) (nS m)) = nI ((bN (otP m t) (nS m) - 1) &&& bN (otP m t) (nS m)) := fun h => by
      rw [← fa_and]
      congr 1
      rw [show (1 : Int32) = iI 1 from rfl, iI_n, iI_n, iI_sub]
      congr 1
      omega
    have e0 : nI (bN (otP m t) (nS m)) ≤ 0 ↔ bN (otP m t) (nS m) = 0 := by
      rw [show (0 : Int32) = iI 0 from rfl, iI_n, iI_le (by omega) (by omega) (by omega) (by omega)]
      omega
    have e5 : iI t + 1 = iI (t + 1) := iI_add t 1
    have hsub2 : bN (otP m t) (nS m) ≠ 0 → ((bN (otP m t) (nS m) - 1) &&& bN (otP m t) (nS m) < bN (otP m t) (nS m) ∨ (bN (otP m t) (nS m) - 1) &&& bN (otP m t) (nS m) = 0) := fun h => by
      have h1 : (bN (otP m t) (nS m) - 1) &&& bN (otP m t) (nS m) ≤ bN (otP m t) (nS m) - 1 := Nat.and_le_left
      omega
    rw [e0, e5]
    refine ⟨fun h2 => ?_, fun h2 => ?_⟩
    · rw [if_neg (fun q => cn_O q.2.1 (hgd q.1) h2)] at ih
      exact ih σ hF
    · rw [e1 h2]
      refine s_bits hO ?_
      try simp (disch := omega) only [iI_add, iI_sub, iI_mul, iI_neg, iI_n, iI_lt, iI_le, iI_eq, iI_tn, iI_ti, bI_0, bI_1, iI_L, iL_0, Decidable.not_not, Int.toNat_natCast, zpt_at, zpt_ne, pk_us, pk_un, forall_eq, tn_0, tn_1, tn_2, tn_3, tn_4, tn_5, ni_1, ni_2, ni_3, ni_4, ni_5, not_false_eq_true, not_true_eq_false, true_implies, false_implies, and_true, true_and, iL_6, iL_m6, iL_7, iL_8, iL_9, iL_4, iL_m4, iL_m8, li_0, li_1, li_2, li_3, li_4, li_5, li_6, li_7, li_8, li_9, li_10, li_11, li_12, li_13, li_15, li_16, li_18, li_20, li_24, li_31, li_32, li_40, li_46, li_48, li_57, li_59, li_60, li_61, li_63, li_64, li_97, li_99, li_122, li_124, li_150, li_255, li_480, li_488, li_600, li_999, li_1110, li_54]
      refine ⟨fun h3 => ?_, fun h3 => s_wholeBy hm' hw hO hs ht ha (fun τ hF' => ?_)⟩
      · rw [if_neg (fun q => by have := pc_O hw (hgd q.1); omega)] at ih
        exact s_tn_rest (σ0 := σ) hm' hw hs ht ha hl (fun τ h => ih τ (hF.tr h)) _ (hsub2 h2) (fun j => and_sub) σ (FrL.rf _ _)
      · have hwl := wN_le (wT m (tS m (bN (otP m t) (nS m)) t)) a s
        try simp (disch := omega) only [iI_add, iI_sub, iI_mul, iI_neg, iI_n, iI_lt, iI_le, iI_eq, iI_tn, iI_ti, bI_0, bI_1, iI_L, iL_0, Decidable.not_not, Int.toNat_natCast, zpt_at, zpt_ne, pk_us, pk_un, forall_eq, tn_0, tn_1, tn_2, tn_3, tn_4, tn_5, ni_1, ni_2, ni_3, ni_4, ni_5, not_false_eq_true, not_true_eq_false, true_implies, false_implies, and_true, true_and, iL_6, iL_m6, iL_7, iL_8, iL_9, iL_4, iL_m4, iL_m8, li_0, li_1, li_2, li_3, li_4, li_5, li_6, li_7, li_8, li_9, li_10, li_11, li_12, li_13, li_15, li_16, li_18, li_20, li_24, li_31, li_32, li_40, li_46, li_48, li_57, li_59, li_60, li_61, li_63, li_64, li_97, li_99, li_122, li_124, li_150, li_255, li_480, li_488, li_600, li_999, li_1110, li_54]
        refine ⟨fun h4 => ?_, fun h4 => s_bits hO ?_⟩
        · rw [if_neg (fun q => by have := by_all hw ht q.1; omega)] at ih
          exact s_tn_rest (σ0 := σ) hm' hw hs ht ha hl (fun τ h => ih τ (hF.tr h)) _ (hsub2 h2) (fun j => and_sub) τ hF'
        · obtain ⟨g1, g2, g3, g4⟩ := by_set hw ht (fun j hj => hj) h2 (by omega : wN (wT m (tS m (bN (otP m t) (nS m)) t)) a s = 1)
          rw [if_pos ⟨g1, g4, by omega⟩, ← g3] at ih
          exact s_tn_rest (σ0 := σ) hm' hw hs ht ha (by omega) (fun τ h => ih τ (hF.tr h)) _ (hsub2 h2) (fun j => and_sub) τ hF'
termination_by 9 - j
noncomputable def tnN (m : Nat → Int32) (a : Int) (s : Nat) : Int := if wN m a s = 1 then 0 else if lsN m a s 9 ≤ 10 then (lsN m a s 9 : Int) else -1
theorem s_turnsNeeded (hm : σ.1 26 = m) (hw : WF m) {a : Int} (ha : I32 a) {s : Nat} (hs : s < 2) (H0 : (-6 ≤ a ∧ a ≤ 6) → ∀ τ, FrL L31 (cd σ 0) τ → K (iI (tnN m a s)) τ) (H1 : ¬ (-6 ≤ a ∧ a ≤ 6) → K (iI 0) (cd σ 1)) : CT g l M_X7_turnsNeeded 0 [.ref (zad g 24), .int (iI a), .int (iI s)] σ (zQi K X) := by
  refine b_X7_turnsNeeded (s_isAngle ha (s_goes (fun h => ?_) (fun h => ?_)))
  · have hwl := wN_le m a s
    replace H0 := H0 h
    unfold tnN at H0
    try simp (disch := omega) only [iI_add, iI_sub, iI_mul, iI_neg, iI_n, iI_lt, iI_le, iI_eq, iI_tn, iI_ti, bI_0, bI_1, iI_L, iL_0, Decidable.not_not, Int.toNat_natCast, zpt_at, zpt_ne, pk_us, pk_un, forall_eq, tn_0, tn_1, tn_2, tn_3, tn_4, tn_5, ni_1, ni_2, ni_3, ni_4, ni_5, not_false_eq_true, not_true_eq_false, true_implies, false_implies, and_true, true_and, iL_6, iL_m6, iL_7, iL_8, iL_9, iL_4, iL_m4, iL_m8, li_0, li_1, li_2, li_3, li_4, li_5, li_6, li_7, li_8, li_9, li_10, li_11, li_12, li_13, li_15, li_16, li_18, li_20, li_24, li_31, li_32, li_40, li_46, li_48, li_57, li_59, li_60, li_61, li_63, li_64, li_97, li_99, li_122, li_124, li_150, li_255, li_480, li_488, li_600, li_999, li_1110, li_54]
    refine s_truthS hs (s_isWhole (cd_m hm 0) hw hs h ?_)
    try simp (disch := omega) only [iI_add, iI_sub, iI_mul, iI_neg, iI_n, iI_lt, iI_le, iI_eq, iI_tn, iI_ti, bI_0, bI_1, iI_L, iL_0, Decidable.not_not, Int.toNat_natCast, zpt_at, zpt_ne, pk_us, pk_un, forall_eq, tn_0, tn_1, tn_2, tn_3, tn_4, tn_5, ni_1, ni_2, ni_3, ni_4, ni_5, not_false_eq_true, not_true_eq_false, true_implies, false_implies, and_true, true_and, iL_6, iL_m6, iL_7, iL_8, iL_9, iL_4, iL_m4, iL_m8, li_0, li_1, li_2, li_3, li_4, li_5, li_6, li_7, li_8, li_9, li_10, li_11, li_12, li_13, li_15, li_16, li_18, li_20, li_24, li_31, li_32, li_40, li_46, li_48, li_57, li_59, li_60, li_61, li_63, li_64, li_97, li_99, li_122, li_124, li_150, li_255, li_480, li_488, li_600, li_999, li_1110, li_54]
    refine ⟨fun h2 => ?_, fun h2 => ?_⟩
    · rw [if_neg (by omega)] at H0
      exact s_tn_37 (cd_m hm 0) hw hs h H0 0 (by omega) _ (FrL.rf _ _)
    · rw [if_pos (by omega)] at H0
      exact H0 _ (FrL.rf _ _)
  · try simp (disch := omega) only [iI_add, iI_sub, iI_mul, iI_neg, iI_n, iI_lt, iI_le, iI_eq, iI_tn, iI_ti, bI_0, bI_1, iI_L, iL_0, Decidable.not_not, Int.toNat_natCast, zpt_at, zpt_ne, pk_us, pk_un, forall_eq, tn_0, tn_1, tn_2, tn_3, tn_4, tn_5, ni_1, ni_2, ni_3, ni_4, ni_5, not_false_eq_true, not_true_eq_false, true_implies, false_implies, and_true, true_and, iL_6, iL_m6, iL_7, iL_8, iL_9, iL_4, iL_m4, iL_m8, li_0, li_1, li_2, li_3, li_4, li_5, li_6, li_7, li_8, li_9, li_10, li_11, li_12, li_13, li_15, li_16, li_18, li_20, li_24, li_31, li_32, li_40, li_46, li_48, li_57, li_59, li_60, li_61, li_63, li_64, li_97, li_99, li_122, li_124, li_150, li_255, li_480, li_488, li_600, li_999, li_1110, li_54]
    exact H1 h
end ZMN
