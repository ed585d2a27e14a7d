/-! the statements of the grown text -/
theorem noH_c {P : Nat → Prop} {x : Nat} {b : List Nat} (h : ¬ P x) : noH P (x :: b) := fun c hc => by
  have : x = c := Option.some.inj hc
  exact this ▸ h
theorem bl_s : ∀ c ∈ [32], isB c := fun c hc => Or.inl (List.mem_singleton.mp hc)
theorem bl_0 : ∀ c ∈ ([] : List Nat), isB c := fun c hc => absurd hc List.not_mem_nil
theorem zC_3 : zC 3 = wBy.getD 3 [] := by decide
theorem zC_4 : zC 4 = wBy.getD 4 [] := by decide
theorem zC_5 : zC 5 = wBy.getD 5 [] := by decide
theorem zC_7 : zC 7 = wBy.getD 0 [] ++ [32] := by decide
theorem zC_8 : zC 8 = [59] := by decide
theorem zC_9 : zC 9 = wBy.getD 1 [] ++ [32] := by decide
theorem zC_10 : zC 10 = [32] ++ (wBy.getD 5 [] ++ [32]) := by decide
theorem zC_11 : zC 11 = [32] ++ (wBy.getD 4 [] ++ [32]) := by decide
theorem zC_12 : zC 12 = [32] ++ [59, 10] := by decide
theorem zC_13 : zC 13 = wBy.getD 2 [] ++ [32] := by decide
theorem zC_14 : zC 14 = [32] := by decide
section PSt
variable {f : Nat → Nat} {n p : Nat} {α : Type} {kE : Nat → Nat → α} {kO : Nat → (Nat → Int32) → Nat → Nat → α} {m : Nat → Int32} {hi co : Nat} {bl rest : List Nat}
theorem digs_h {P : Nat → Prop} [DecidablePred P] (h : ∀ x, 48 ≤ x → x ≤ 57 → ¬ P x) {v : Nat} (hv : v < 100) (b : List Nat) : noH P (digs v ++ b) := fun c hc => by
  unfold digs at hc
  by_cases q : v < 10
  · rw [if_pos q] at hc
    have : 48 + v = c := Option.some.inj hc
    exact h c (by omega) (by omega)
  · rw [if_neg q] at hc
    have : 48 + v / 10 = c := Option.some.inj hc
    exact h c (by omega) (by omega)
theorem st_high {v : Nat} (h1 : 1 ≤ v) (h2 : v ≤ 8) (h : Tl f n p (bl ++ (zC 7 ++ digs v ++ zC 8 ++ rest))) (hbl : ∀ c ∈ bl, isB c) (hhi : hi ≠ 1) : ∃ q, ztK f n p ≠ 0 ∧ Tl f n q rest ∧ pStat f n p m hi co kE kO = kO q (upd m 0 (iI v)) 1 co := by
  have e : zC 7 ++ digs v ++ zC 8 ++ rest = wBy.getD 0 [] ++ ([32] ++ (digs v ++ ([] ++ (59 :: rest)))) := by
    rw [zC_7, zC_8]; simp only [List.append_assoc]; rfl
  rw [e] at h
  obtain ⟨z1, z2⟩ := zs_bl h hbl (wBy_h (by omega) _)
  obtain ⟨k1, k2, k3⟩ := tk_isWd (w := 0) (by omega) z1 z2 (noH_c (by decide))
  obtain ⟨q1, t1, e1⟩ := pNum_t (kE := kE) (kO := fun v p2 => pSign f n p2 59 kE (fun p3 => kO p3 (upd m 0 (iI v)) 1 co)) (lo := 1) (hi := 8) (by omega) h1 h2 k3 bl_s (noH_c (by decide))
  obtain ⟨q2, t2, e2⟩ := pSign_t (kE := kE) (kO := fun p3 => kO p3 (upd m 0 (iI v)) 1 co) t1 bl_0
  refine ⟨q2, (by rw [k1.1]; decide), t2, ?_⟩
  unfold pStat pHigh
  rw [if_pos k1, if_neg hhi, k2, e1, e2]
theorem st_coat {v : Nat} (h1 : 1 ≤ v) (h2 : v ≤ 9) (h : Tl f n p (bl ++ (zC 3 ++ digs v ++ zC 8 ++ rest))) (hbl : ∀ c ∈ bl, isB c) (hco : co ≠ 1) : ∃ q, ztK f n p ≠ 0 ∧ Tl f n q rest ∧ pStat f n p m hi co kE kO = kO q (upd m 2 (iI v)) hi 1 := by
  have e : zC 3 ++ digs v ++ zC 8 ++ rest = wBy.getD 3 [] ++ ([] ++ (digs v ++ ([] ++ (59 :: rest)))) := by
    rw [zC_3, zC_8]; simp only [List.append_assoc]; rfl
  rw [e] at h
  obtain ⟨z1, z2⟩ := zs_bl h hbl (wBy_h (by omega) _)
  obtain ⟨k1, k2, k3⟩ := tk_isWd (w := 3) (by omega) z1 z2 (digs_h (fun x a b => by unfold isL; omega) (by omega) _)
  obtain ⟨q1, t1, e1⟩ := pNum_t (kE := kE) (kO := fun v p2 => pSign f n p2 59 kE (fun p3 => kO p3 (upd m 2 (iI v)) hi 1)) (lo := 1) (hi := 99) (by omega) h1 (by omega) k3 bl_0 (noH_c (by decide))
  obtain ⟨q2, t2, e2⟩ := pSign_t (kE := kE) (kO := fun p3 => kO p3 (upd m 2 (iI v)) hi 1) t1 bl_0
  refine ⟨q2, (by rw [k1.1]; decide), t2, ?_⟩
  unfold pStat pCoat
  rw [if_neg (tk_not (w := 3) (by omega) (by omega) (by omega) k1), if_neg (tk_not (w := 3) (by omega) (by omega) (by omega) k1), if_neg (tk_not (w := 3) (by omega) (by omega) (by omega) k1), if_pos k1, if_neg hco, k2, e1, e2]
theorem st_slat {w : Nat} {t : Int} (h1 : 1 ≤ w) (h2 : w ≤ 6) (ht : -4 ≤ t ∧ t ≤ 4) (h : Tl f n p (bl ++ (zC 9 ++ digs w ++ (if t = 0 then [] else toldT t) ++ zC 12 ++ rest))) (hbl : ∀ c ∈ bl, isB c) (hS : nS m ≠ 10) : ∃ q, ztK f n p ≠ 0 ∧ Tl f n q (10 :: rest) ∧ pStat f n p m hi co kE kO = kO q (mSlat m w t) hi co := by
  by_cases q0 : t = 0
  · have e : zC 9 ++ digs w ++ (if t = 0 then [] else toldT t) ++ zC 12 ++ rest = wBy.getD 1 [] ++ ([32] ++ (digs w ++ (32 :: 59 :: 10 :: rest))) := by
      rw [zC_9, zC_12, if_pos q0, List.append_nil]; simp only [List.append_assoc]; rfl
    rw [e] at h
    obtain ⟨z1, z2⟩ := zs_bl h hbl (wBy_h (by omega) _)
    obtain ⟨k1, k2, k3⟩ := tk_isWd (w := 1) (by omega) z1 z2 (noH_c (by decide))
    obtain ⟨q1, t1, e1⟩ := pNum_t (kE := kE) (kO := fun w p2 => if ztK f n p2 = 59 then kO (ztE f n p2) (mSlat m w 0) hi co
    else pSide f n p2 kE (fun s p3 => pNum f n p3 0 4 kE (fun v p4 => pSign f n p4 59 kE (fun p5 => kO p5 (mSlat m w (if s = 1 then (v : Int) else -v)) hi co)))) (lo := 1) (hi := 6) (by omega) h1 h2 k3 bl_s (noH_c (by decide))
    have t1' : Tl f n q1 ([32] ++ (59 :: 10 :: rest)) := t1
    obtain ⟨y1, y2⟩ := zs_bl t1' bl_s (noH_c (by decide))
    obtain ⟨x1, x2, x3⟩ := tk_semi y1 y2
    refine ⟨_, (by rw [k1.1]; decide), x3, ?_⟩
    unfold pStat pSlat
    rw [if_neg (tk_not (w := 1) (by omega) (by omega) (by omega) k1), if_pos k1, if_neg hS, k2, e1, if_pos x1, x2, q0]
  · have hz : t.natAbs < 100 := by omega
    have e : zC 9 ++ digs w ++ (if t = 0 then [] else toldT t) ++ zC 12 ++ rest = wBy.getD 1 [] ++ ([32] ++ (digs w ++ ([32] ++ (wBy.getD (5 - (if 0 ≤ t then 1 else 0)) [] ++ ([32] ++ (digs t.natAbs ++ ([32] ++ (59 :: 10 :: rest)))))))) := by
      rw [zC_9, zC_12, if_neg q0]
      unfold toldT
      by_cases q1 : 0 ≤ t
      · rw [if_pos q1, if_pos q1, zC_11]; simp only [List.append_assoc]; rfl
      · rw [if_neg q1, if_neg q1, zC_10]; simp only [List.append_assoc]; rfl
    rw [e] at h
    obtain ⟨z1, z2⟩ := zs_bl h hbl (wBy_h (by omega) _)
    obtain ⟨k1, k2, k3⟩ := tk_isWd (w := 1) (by omega) z1 z2 (noH_c (by decide))
    obtain ⟨q1, t1, e1⟩ := pNum_t (kE := kE) (kO := fun w p2 => if ztK f n p2 = 59 then kO (ztE f n p2) (mSlat m w 0) hi co
    else pSide f n p2 kE (fun s p3 => pNum f n p3 0 4 kE (fun v p4 => pSign f n p4 59 kE (fun p5 => kO p5 (mSlat m w (if s = 1 then (v : Int) else -v)) hi co)))) (lo := 1) (hi := 6) (by omega) h1 h2 k3 bl_s (noH_c (by decide))
    have hsd : (if 0 ≤ t then 1 else 0) < 2 := by split <;> omega
    have hn59 : ztK f n q1 ≠ 59 := fun z => by
      obtain ⟨y1, y2⟩ := zs_bl t1 bl_s (wBy_h (by omega) _)
      obtain ⟨x1, -⟩ := tk_isWd (by omega) y1 y2 (noH_c (by decide))
      rw [x1.1] at z
      exact absurd z (by decide)
    obtain ⟨q2, t2, e2⟩ := pSide_t (kE := kE) (kO := fun s p3 => pNum f n p3 0 4 kE (fun v p4 => pSign f n p4 59 kE (fun p5 => kO p5 (mSlat m w (if s = 1 then (v : Int) else -v)) hi co))) hsd t1 bl_s (noH_c (by decide))
    obtain ⟨q3, t3, e3⟩ := pNum_t (kE := kE) (kO := fun v p4 => pSign f n p4 59 kE (fun p5 => kO p5 (mSlat m w (if (if 0 ≤ t then 1 else 0) = 1 then (v : Int) else -v)) hi co)) (lo := 0) (hi := 4) hz (Nat.zero_le _) (by omega) t2 bl_s (noH_c (by decide))
    obtain ⟨q4, t4, e4⟩ := pSign_t (kE := kE) (kO := fun p5 => kO p5 (mSlat m w (if (if 0 ≤ t then 1 else 0) = 1 then (t.natAbs : Int) else -t.natAbs)) hi co) t3 bl_s
    refine ⟨q4, (by rw [k1.1]; decide), t4, ?_⟩
    unfold pStat pSlat
    rw [if_neg (tk_not (w := 1) (by omega) (by omega) (by omega) k1), if_pos k1, if_neg hS, k2, e1, if_neg hn59, e2, e3, e4]
    congr 2
    by_cases q5 : 0 ≤ t
    · rw [if_pos q5, if_pos rfl]; omega
    · rw [if_neg q5, if_neg (by decide)]; omega
end PSt
