section PBx
variable {f : Nat → Nat} {n p : Nat} {α : Type} {kE : Nat → Nat → α} {kO : Nat → (Nat → Int32) → Nat → Nat → α} {m : Nat → Int32} {hi co : Nat} {bl rest : List Nat}
theorem st_box {s c r w d v : Nat} (hs : s < 2) (hc : c ≤ 11) (hr : r ≤ 11) (hw : 1 ≤ w ∧ w ≤ 20) (hd : 1 ≤ d ∧ d ≤ 20) (hv : 1 ≤ v ∧ v ≤ 9) (h : Tl f n p (bl ++ (zC 13 ++ (if s = 0 then zC 5 else zC 4) ++ (zC 14 ++ digs c) ++ (zC 14 ++ digs r) ++ (zC 14 ++ digs w) ++ (zC 14 ++ digs d) ++ (zC 14 ++ digs v) ++ zC 8 ++ rest))) (hbl : ∀ c ∈ bl, isB c) (hB : nB m ≠ 16) : ∃ q, ztK f n p ≠ 0 ∧ Tl f n q rest ∧ pStat f n p m hi co kE kO = kO q (mBox m s c r w d v) hi co := by
  have e : zC 13 ++ (if s = 0 then zC 5 else zC 4) ++ (zC 14 ++ digs c) ++ (zC 14 ++ digs r) ++ (zC 14 ++ digs w) ++ (zC 14 ++ digs d) ++ (zC 14 ++ digs v) ++ zC 8 ++ rest = wBy.getD 2 [] ++ ([32] ++ (wBy.getD (5 - s) [] ++ ([32] ++ (digs c ++ ([32] ++ (digs r ++ ([32] ++ (digs w ++ ([32] ++ (digs d ++ ([32] ++ (digs v ++ ([] ++ (59 :: rest)))))))))))))) := by
    rw [zC_13, zC_14, zC_8]
    match s, hs with
    | 0, _ => rw [if_pos rfl, zC_5]; simp only [List.append_assoc]; rfl
    | 1, _ => rw [if_neg (by decide), zC_4]; simp only [List.append_assoc]; rfl
  rw [e] at h
  obtain ⟨z1, z2⟩ := zs_bl h hbl (wBy_h (by omega) _)
  obtain ⟨k1, k2, k3⟩ := tk_isWd (w := 2) (by omega) z1 z2 (noH_c (by decide))
  obtain ⟨q1, t1, e1⟩ := pSide_t (kE := kE) (kO := fun s p1 => pNum f n p1 0 63 kE (fun c p2 => pNum f n p2 0 63 kE (fun r p3 => pNum f n p3 1 64 kE (fun w p4 => pNum f n p4 1 64 kE (fun d p5 => pNum f n p5 1 9 kE (fun v p6 => pSign f n p6 59 kE (fun p7 => kO p7 (mBox m s c r w d v) hi co))))))) hs k3 bl_s (noH_c (by decide))
  obtain ⟨q2, t2, e2⟩ := pNum_t (kE := kE) (kO := fun c p2 => pNum f n p2 0 63 kE (fun r p3 => pNum f n p3 1 64 kE (fun w p4 => pNum f n p4 1 64 kE (fun d p5 => pNum f n p5 1 9 kE (fun v p6 => pSign f n p6 59 kE (fun p7 => kO p7 (mBox m s c r w d v) hi co)))))) (lo := 0) (hi := 63) (by omega) (by omega) (by omega) t1 bl_s (noH_c (by decide))
  obtain ⟨q3, t3, e3⟩ := pNum_t (kE := kE) (kO := fun r p3 => pNum f n p3 1 64 kE (fun w p4 => pNum f n p4 1 64 kE (fun d p5 => pNum f n p5 1 9 kE (fun v p6 => pSign f n p6 59 kE (fun p7 => kO p7 (mBox m s c r w d v) hi co))))) (lo := 0) (hi := 63) (by omega) (by omega) (by omega) t2 bl_s (noH_c (by decide))
  obtain ⟨q4, t4, e4⟩ := pNum_t (kE := kE) (kO := fun w p4 => pNum f n p4 1 64 kE (fun d p5 => pNum f n p5 1 9 kE (fun v p6 => pSign f n p6 59 kE (fun p7 => kO p7 (mBox m s c r w d v) hi co)))) (lo := 1) (hi := 64) (by omega) (by omega) (by omega) t3 bl_s (noH_c (by decide))
  obtain ⟨q5, t5, e5⟩ := pNum_t (kE := kE) (kO := fun d p5 => pNum f n p5 1 9 kE (fun v p6 => pSign f n p6 59 kE (fun p7 => kO p7 (mBox m s c r w d v) hi co))) (lo := 1) (hi := 64) (by omega) (by omega) (by omega) t4 bl_s (noH_c (by decide))
  obtain ⟨q6, t6, e6⟩ := pNum_t (kE := kE) (kO := fun v p6 => pSign f n p6 59 kE (fun p7 => kO p7 (mBox m s c r w d v) hi co)) (lo := 1) (hi := 9) (by omega) (by omega) (by omega) t5 bl_s (noH_c (by decide))
  obtain ⟨q7, t7, e7⟩ := pSign_t (kE := kE) (kO := fun p7 => kO p7 (mBox m s c r w d v) hi co) t6 bl_0
  refine ⟨q7, (by rw [k1.1]; decide), t7, ?_⟩
  unfold pStat pBox
  rw [if_neg (tk_not (w := 2) (by omega) (by omega) (by omega) k1), if_neg (tk_not (w := 2) (by omega) (by omega) (by omega) k1), if_pos k1, if_neg hB, k2, e1, e2, e3, e4, e5, e6, e7]
end PBx
/-! the whole text -/
section PAl
variable {f : Nat → Nat} {n : Nat} {α : Type} {kE : Nat → Nat → α} {kO : (Nat → Int32) → α} {P : Nat → Nat → Nat}
def Ag (P : Nat → Nat → Nat) (m : Nat → Int32) (H C S B : Nat) : Prop := m 0 = iI H ∧ m 2 = iI C ∧ nS m = S ∧ nB m = B ∧ (∀ k, k < 10 → m (6 + 5 * k) = 0) ∧ (∀ k, k < S → ∀ j, j < 5 → m (4 + 5 * k + j) = gRow P (4 + 5 * k + j)) ∧ ∀ b, b < B → ∀ j, j < 6 → m (54 + 6 * b + j) = gRow P (54 + 6 * b + j)
theorem Ag.slat {m : Nat → Int32} {H C S B : Nat} (h : Ag P m H C S B) (hS : S < 10) : Ag P (mSlat m (1 + P (30 + S) 6) (gTurn P S)) H C (S + 1) B := by
  obtain ⟨h1, h2, h3, h4, h5, h6, h7⟩ := h
  have q : ∀ q, q ≠ 1 → (q < 4 + 5 * S ∨ 4 + 5 * S + 5 ≤ q ∨ q = 6 + 5 * S) → mSlat m (1 + P (30 + S) 6) (gTurn P S) q = m q := fun q a b => mSlat_q a (by rw [h3]; exact b)
  refine ⟨by rw [q 0 (by omega) (by omega)]; exact h1, by rw [q 2 (by omega) (by omega)]; exact h2, by rw [mSlat_nS (by omega), h3], ?_, fun k hk => ?_, fun k hk j hj => ?_, fun b hb j hj => ?_⟩
  · show (qv _ 3).toNat = B
    rw [mSlat_qv (by omega) (by omega)]
    exact h4
  · by_cases e : k = S
    · rw [e, q _ (by omega) (by omega)]; exact h5 S hS
    · by_cases e2 : k < S
      · rw [q _ (by omega) (by omega)]; exact h5 k hk
      · rw [q _ (by omega) (by omega)]; exact h5 k hk
  · by_cases e : k = S
    · subst e
      rw [gRow_s hS hj]
      match j, hj with
      | 0, _ => rw [← h3]; exact mSlat_w
      | 1, _ => rw [← h3, show 4 + 5 * nS m + 1 = 5 + 5 * nS m by omega]; exact mSlat_t
      | 2, _ => rw [show 4 + 5 * k + 2 = 6 + 5 * k by omega, q _ (by omega) (by omega)]; exact h5 k hS
      | 3, _ => rw [← h3, show 4 + 5 * nS m + 3 = 7 + 5 * nS m + 0 by omega]; exact mSlat_c (by omega)
      | 4, _ => rw [← h3, show 4 + 5 * nS m + 4 = 7 + 5 * nS m + 1 by omega]; exact mSlat_c (by omega)
    · rw [q _ (by omega) (by omega)]; exact h6 k (by omega) j hj
  · rw [q _ (by omega) (by omega)]; exact h7 b hb j hj
theorem Ag.box {m : Nat → Int32} {H C S B : Nat} (h : Ag P m H C S B) (hB : B < 16) (hS : S ≤ 10) : Ag P (mBox m (gBn P B 0) (gBn P B 1) (gBn P B 2) (gBn P B 3) (gBn P B 4) (gBn P B 5)) H C S (B + 1) := by
  obtain ⟨h1, h2, h3, h4, h5, h6, h7⟩ := h
  have q : ∀ q, q ≠ 3 → (q < 54 + 6 * B ∨ 54 + 6 * B + 6 ≤ q) → mBox m (gBn P B 0) (gBn P B 1) (gBn P B 2) (gBn P B 3) (gBn P B 4) (gBn P B 5) q = m q := fun q a b => by
    unfold mBox mBox5
    rw [h4, pk_un (by omega), pk_un (by omega), pk_un (by omega), pk_un (by omega), pk_un (by omega), pk_un (by omega), pk_un (by omega)]
  refine ⟨by rw [q 0 (by omega) (by omega)]; exact h1, by rw [q 2 (by omega) (by omega)]; exact h2, ?_, ?_, fun k hk => by rw [q _ (by omega) (by omega)]; exact h5 k hk, fun k hk j hj => by rw [q _ (by omega) (by omega)]; exact h6 k hk j hj, fun b hb j hj => ?_⟩
  · show (qv _ 1).toNat = S
    have : qv (mBox m (gBn P B 0) (gBn P B 1) (gBn P B 2) (gBn P B 3) (gBn P B 4) (gBn P B 5)) 1 = qv m 1 := by unfold qv; rw [q 1 (by omega) (by omega)]
    rw [this]
    exact h3
  · have e3 : mBox m (gBn P B 0) (gBn P B 1) (gBn P B 2) (gBn P B 3) (gBn P B 4) (gBn P B 5) 3 = iI ((B : Int) + 1) := by
      unfold mBox mBox5
      rw [h4, pk_un (by omega), pk_us]
    show (qv _ 3).toNat = B + 1
    unfold qv
    rw [e3, iI_ti (by omega) (by omega)]
    omega
  · by_cases e : b = B
    · subst e
      rw [gRow_b hB hj]
      unfold mBox mBox5
      rw [h4]
      match j, hj with
      | 0, _ => rw [pk_un (by omega), pk_un (by omega), pk_un (by omega), pk_un (by omega), pk_un (by omega), pk_un (by omega), Nat.add_zero, pk_us]; rfl
      | 1, _ => rw [pk_un (by omega), pk_un (by omega), pk_un (by omega), pk_un (by omega), pk_un (by omega), pk_us]; rfl
      | 2, _ => rw [pk_un (by omega), pk_un (by omega), pk_un (by omega), pk_un (by omega), pk_us]; rfl
      | 3, _ => rw [pk_un (by omega), pk_un (by omega), pk_un (by omega), pk_us]; rfl
      | 4, _ => rw [pk_un (by omega), pk_un (by omega), pk_us]; rfl
      | 5, _ => rw [pk_us]; rfl
    · rw [q _ (by omega) (by omega)]; exact h7 b (by omega) j hj
def slsF (P : Nat → Nat → Nat) : Nat → Nat → List Nat
  | _, 0 => []
  | k, d + 1 => slT P k ++ slsF P (k + 1) d
theorem slsF_T (P : Nat → Nat → Nat) : ∀ d k, slsT P k ++ slsF P k d = slsT P (k + d)
  | 0, k => List.append_nil _
  | d + 1, k => by
    show slsT P k ++ (slT P k ++ slsF P (k + 1) d) = _
    rw [← List.append_assoc, show k + (d + 1) = k + 1 + d by omega, ← slsF_T P d (k + 1)]
    rfl
def bxsF (P : Nat → Nat → Nat) : Nat → Nat → List Nat
  | _, 0 => []
  | k, d + 1 => boT P k ++ bxsF P (k + 1) d
theorem bxsF_T (P : Nat → Nat → Nat) : ∀ d k, bxsT P k ++ bxsF P k d = bxsT P (k + d)
  | 0, k => List.append_nil _
  | d + 1, k => by
    show bxsT P k ++ (boT P k ++ bxsF P (k + 1) d) = _
    rw [← List.append_assoc, show k + (d + 1) = k + 1 + d by omega, ← bxsF_T P d (k + 1)]
    rfl
theorem all_sl' (hP : pOk P) {H C B S hi co : Nat} (hS : S ≤ 10) {rest : List Nat} {fu : Nat} {R : α → Prop} (H2 : ∀ (q : Nat) (bl : List Nat) (m : Nat → Int32), (∀ c ∈ bl, isB c) → Tl f n q (bl ++ rest) → Ag P m H C S B → R (pAll f n kE kO fu q m hi co)) : ∀ (d k p : Nat) (bl : List Nat) (m : Nat → Int32), k + d = S → (∀ c ∈ bl, isB c) → Tl f n p (bl ++ (slsF P k d ++ rest)) → Ag P m H C k B → R (pAll f n kE kO (fu + d) p m hi co)
  | 0, k, p, bl, m, hk, hb, h, ha => by
    have : k = S := by omega
    subst this
    exact H2 p bl m hb h ha
  | d + 1, k, p, bl, m, hk, hb, h, ha => by
    have hw := hP (30 + k) 6 (by omega)
    have e : slsF P k (d + 1) ++ rest = zC 9 ++ digs (1 + P (30 + k) 6) ++ (if gTurn P k = 0 then [] else toldT (gTurn P k)) ++ zC 12 ++ (slsF P (k + 1) d ++ rest) := by
      show slT P k ++ slsF P (k + 1) d ++ rest = _
      unfold slT
      rw [List.append_assoc]
    rw [e] at h
    have hn : nS m = k := ha.2.2.1
    obtain ⟨q, z0, z1, z2⟩ := st_slat (m := m) (hi := hi) (co := co) (kE := kE) (kO := fun p' m' hi' co' => pAll f n kE kO (fu + d) p' m' hi' co') (by omega) (by omega) (gTurn_b hP k) h hb (by omega)
    have e2 : pAll f n kE kO (fu + (d + 1)) p m hi co = if ztK f n p = 0 then kO m else pStat f n p m hi co kE (fun p' m' hi' co' => pAll f n kE kO (fu + d) p' m' hi' co') := rfl
    rw [e2, if_neg z0, z2]
    exact all_sl' hP hS H2 d (k + 1) q [10] _ (by omega) (fun c hc => Or.inr (List.mem_singleton.mp hc)) z1 (ha.slat (by omega))
theorem all_bx (hP : pOk P) {H C B S hi co : Nat} (hS : S ≤ 10) (hB : B ≤ 16) {rest : List Nat} {fu : Nat} {R : α → Prop} (H2 : ∀ (q : Nat) (bl : List Nat) (m : Nat → Int32), (∀ c ∈ bl, isB c) → Tl f n q (bl ++ rest) → Ag P m H C S B → R (pAll f n kE kO fu q m hi co)) : ∀ (d k p : Nat) (bl : List Nat) (m : Nat → Int32), k + d = B → (∀ c ∈ bl, isB c) → Tl f n p (bl ++ (bxsF P k d ++ rest)) → Ag P m H C S k → R (pAll f n kE kO (fu + d) p m hi co)
  | 0, k, p, bl, m, hk, hb, h, ha => by
    have : k = B := by omega
    subst this
    exact H2 p bl m hb h ha
  | d + 1, k, p, bl, m, hk, hb, h, ha => by
    have b0 := (gBn_b hP k 0).2.1 rfl
    have b1 := (gBn_b hP k 1).2.2.1 rfl
    have b2 := (gBn_b hP k 2).2.2.2.1 rfl
    have b3 := (gBn_b hP k 3).2.2.2.2.1 rfl
    have b4 := (gBn_b hP k 4).2.2.2.2.2.1 rfl
    have b5 := (gBn_b hP k 5).2.2.2.2.2.2 rfl
    have e : bxsF P k (d + 1) ++ rest = zC 13 ++ (if gBn P k 0 = 0 then zC 5 else zC 4) ++ (zC 14 ++ digs (gBn P k 1)) ++ (zC 14 ++ digs (gBn P k 2)) ++ (zC 14 ++ digs (gBn P k 3)) ++ (zC 14 ++ digs (gBn P k 4)) ++ (zC 14 ++ digs (gBn P k 5)) ++ zC 8 ++ (bxsF P (k + 1) d ++ rest) := by
      show boT P k ++ bxsF P (k + 1) d ++ rest = _
      have eb : bfT P k 5 = [] ++ (zC 14 ++ digs (gBn P k 1)) ++ (zC 14 ++ digs (gBn P k 2)) ++ (zC 14 ++ digs (gBn P k 3)) ++ (zC 14 ++ digs (gBn P k 4)) ++ (zC 14 ++ digs (gBn P k 5)) := rfl
      have eg : gBn P k 0 = P (40 + k) 2 := rfl
      unfold boT
      rw [eb, List.nil_append, eg]
      simp only [List.append_assoc]
    rw [e] at h
    have hn : nB m = k := ha.2.2.2.1
    obtain ⟨q, z0, z1, z2⟩ := st_box (m := m) (hi := hi) (co := co) (kE := kE) (kO := fun p' m' hi' co' => pAll f n kE kO (fu + d) p' m' hi' co') (by omega) b1 (by omega) b3 (by omega) (by omega) h hb (by omega)
    have e2 : pAll f n kE kO (fu + (d + 1)) p m hi co = if ztK f n p = 0 then kO m else pStat f n p m hi co kE (fun p' m' hi' co' => pAll f n kE kO (fu + d) p' m' hi' co') := rfl
    rw [e2, if_neg z0, z2]
    exact all_bx hP hS hB H2 d (k + 1) q [] _ (by omega) bl_0 z1 (ha.box (by omega) hS)
end PAl
