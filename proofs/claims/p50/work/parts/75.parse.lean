/-! what is read of a text, number by number: pure, with two ways on -/
abbrev isWq (f : Nat → Nat) (n p w : Nat) : Prop := ztK f n p = 2 ∧ hQ f (ztS f n p) (ztE f n p - ztS f n p) = wH w
def pNum {α : Type} (f : Nat → Nat) (n p lo hi : Nat) (kE : Nat → Nat → α) (kO : Nat → Nat → α) : α :=
  if ztK f n p = 3 then (if lo ≤ ztV f n p ∧ ztV f n p ≤ hi then kO (ztV f n p) (ztE f n p) else kE 2 (ztS f n p)) else kE 1 (ztS f n p)
def pSign {α : Type} (f : Nat → Nat) (n p s : Nat) (kE : Nat → Nat → α) (kO : Nat → α) : α :=
  if ztK f n p = s then kO (ztE f n p) else kE 1 (ztS f n p)
def pSide {α : Type} (f : Nat → Nat) (n p : Nat) (kE : Nat → Nat → α) (kO : Nat → Nat → α) : α :=
  if isWq f n p 4 then kO 1 (ztE f n p) else if isWq f n p 5 then kO 0 (ztE f n p) else kE 1 (ztS f n p)
section ZPm
variable {f : Nat → Nat} {n p : Nat} {α β : Type}
theorem pNum_m {lo hi : Nat} {kE kE' : Nat → Nat → Prop} {kO kO' : Nat → Nat → Prop} (h : pNum f n p lo hi kE kO) (hE : ∀ c q, kE c q → kE' c q) (hO : ∀ v, ztK f n p = 3 → lo ≤ v → v ≤ hi → v < 1000 → kO v (ztE f n p) → kO' v (ztE f n p)) : pNum f n p lo hi kE' kO' := by
  unfold pNum at h ⊢
  by_cases a : ztK f n p = 3
  · rw [if_pos a] at h ⊢
    by_cases b : lo ≤ ztV f n p ∧ ztV f n p ≤ hi
    · rw [if_pos b] at h ⊢; exact hO _ a b.1 b.2 (ztV_lt a) h
    · rw [if_neg b] at h ⊢; exact hE _ _ h
  · rw [if_neg a] at h ⊢; exact hE _ _ h
theorem pSign_m {s : Nat} {kE kE' : Nat → Nat → Prop} {kO kO' : Nat → Prop} (h : pSign f n p s kE kO) (hE : ∀ c q, kE c q → kE' c q) (hO : ztK f n p = s → kO (ztE f n p) → kO' (ztE f n p)) : pSign f n p s kE' kO' := by
  unfold pSign at h ⊢
  by_cases a : ztK f n p = s
  · rw [if_pos a] at h ⊢; exact hO a h
  · rw [if_neg a] at h ⊢; exact hE _ _ h
theorem pSide_m {kE kE' : Nat → Nat → Prop} {kO kO' : Nat → Nat → Prop} (h : pSide f n p kE kO) (hE : ∀ c q, kE c q → kE' c q) (hO : ∀ v, v < 2 → ztK f n p = 2 → kO v (ztE f n p) → kO' v (ztE f n p)) : pSide f n p kE' kO' := by
  unfold pSide at h ⊢
  by_cases a : isWq f n p 4
  · rw [if_pos a] at h ⊢; exact hO 1 (by decide) a.1 h
  · rw [if_neg a] at h ⊢
    by_cases b : isWq f n p 5
    · rw [if_pos b] at h ⊢; exact hO 0 (by decide) b.1 h
    · rw [if_neg b] at h ⊢; exact hE _ _ h
theorem pNum_n {lo hi : Nat} (φ : α → β) (kE : Nat → Nat → α) (kO : Nat → Nat → α) : φ (pNum f n p lo hi kE kO) = pNum f n p lo hi (fun c q => φ (kE c q)) (fun v q => φ (kO v q)) := by
  unfold pNum; split
  · split <;> rfl
  · rfl
theorem pSign_n {s : Nat} (φ : α → β) (kE : Nat → Nat → α) (kO : Nat → α) : φ (pSign f n p s kE kO) = pSign f n p s (fun c q => φ (kE c q)) (fun q => φ (kO q)) := by
  unfold pSign; split <;> rfl
theorem pSide_n (φ : α → β) (kE : Nat → Nat → α) (kO : Nat → Nat → α) : φ (pSide f n p kE kO) = pSide f n p (fun c q => φ (kE c q)) (fun v q => φ (kO v q)) := by
  unfold pSide; split
  · rfl
  · split <;> rfl
end ZPm
/-! both sides' small steps -/
section ZPs
variable {g : zG} {l : Launch} {X : String → zS → Prop} {σ : zS} {f : Nat → Nat} {n p : Nat}
def pE (b : Nat) : Prop := b = 1
theorem c_takeSign {K : Int32 → zS → Prop} (hS : SrC σ f n p) {s : Nat} (hs : s < 256) (H : pSign f n p s (fun c q => ∀ τ, FrP pE σ τ → τ.1 1 1 = iI n → ErC τ c q → K (iI 0) τ) (fun q => ∀ τ, FrP pE σ τ → SrC τ f n q → K (iI 1) τ)) : CT g l M_X3_takeSign 0 [.ref (zad g 1), .int (iI s)] σ (zQi K X) := by
  unfold pSign at H
  refine b_X3_takeSign (c_isAtSign hS hs (fun h => ?_) (fun h => ?_))
  · rw [if_neg h] at H
    refine ⟨fun q => absurd rfl q, fun _ => c_fail hS (c := 1) (fun τ a b c => ⟨Or.inl rfl, H τ a b c⟩)⟩
  · rw [if_pos h] at H
    exact ⟨fun _ => c_adv hS H, fun q => absurd q (by decide)⟩
theorem c_takeNumber {K : Int32 → zS → Prop} (hS : SrC σ f n p) {lo hi : Nat} (hl : lo < 2000) (hh : hi < 2000) (H : pNum f n p lo hi (fun c q => ∀ τ, FrP pE σ τ → τ.1 1 1 = iI n → ErC τ c q → K (iI (-1)) τ) (fun v q => ∀ τ, FrP pE σ τ → SrC τ f n q → K (iI v) τ)) : CT g l M_X3_takeNumber 0 [.ref (zad g 1), .int (iI lo), .int (iI hi)] σ (zQi K X) := by
  unfold pNum at H
  have hk := ztK_b hS
  refine b_X3_takeNumber ?_
  rw [hS.2.2.2.2.1]
  try simp (disch := omega) only [iI_add, iI_sub, iI_mul, iI_neg, iI_n, iI_lt, iI_le, iI_eq, iI_tn, iI_ti, bI_0, bI_1, iI_L, iL_0, Decidable.not_not, Int.toNat_natCast, zpt_at, zpt_ne, pk_us, pk_un, forall_eq, tn_0, tn_1, tn_2, tn_3, tn_4, tn_5, ni_1, ni_2, ni_3, ni_4, ni_5, not_false_eq_true, not_true_eq_false, true_implies, false_implies, and_true, true_and, iL_6, iL_m6, iL_7, iL_8, iL_9, iL_4, iL_m4, iL_m8, li_0, li_1, li_2, li_3, li_4, li_5, li_6, li_7, li_8, li_9, li_10, li_11, li_12, li_13, li_15, li_16, li_18, li_20, li_24, li_31, li_32, li_40, li_46, li_48, li_57, li_59, li_60, li_61, li_63, li_64, li_97, li_99, li_122, li_124, li_150, li_255, li_480, li_488, li_600, li_999, li_1110, li_54]
  refine ⟨fun h => ?_, fun h => ?_⟩
  · have h3 : ztK f n p = 3 := by omega
    have hv := ztV_lt h3
    rw [hS.2.2.2.2.2 h3]
    rw [if_pos h3] at H
    try simp (disch := omega) only [iI_add, iI_sub, iI_mul, iI_neg, iI_n, iI_lt, iI_le, iI_eq, iI_tn, iI_ti, bI_0, bI_1, iI_L, iL_0, Decidable.not_not, Int.toNat_natCast, zpt_at, zpt_ne, pk_us, pk_un, forall_eq, tn_0, tn_1, tn_2, tn_3, tn_4, tn_5, ni_1, ni_2, ni_3, ni_4, ni_5, not_false_eq_true, not_true_eq_false, true_implies, false_implies, and_true, true_and, iL_6, iL_m6, iL_7, iL_8, iL_9, iL_4, iL_m4, iL_m8, li_0, li_1, li_2, li_3, li_4, li_5, li_6, li_7, li_8, li_9, li_10, li_11, li_12, li_13, li_15, li_16, li_18, li_20, li_24, li_31, li_32, li_40, li_46, li_48, li_57, li_59, li_60, li_61, li_63, li_64, li_97, li_99, li_122, li_124, li_150, li_255, li_480, li_488, li_600, li_999, li_1110, li_54]
    refine ⟨fun a => ?_, fun a => ⟨fun b => ?_, fun b => ?_⟩⟩
    · rw [if_neg (by omega)] at H; exact c_fail hS (c := 2) H
    · rw [if_pos (by omega)] at H; exact c_adv hS H
    · rw [if_neg (by omega)] at H; exact c_fail hS (c := 2) H
  · rw [if_neg (by omega)] at H; exact c_fail hS (c := 1) H
theorem isWd_q {w : Nat} (hw : w < 14) : isWd f n p w ↔ isWq f n p w := isWd_H hw
theorem c_takeSide {K : Int32 → zS → Prop} (hS : SrC σ f n p) (H : pSide f n p (fun c q => ∀ τ, FrP pE σ τ → τ.1 1 1 = iI n → ErC τ c q → K (iI (-1)) τ) (fun v q => ∀ τ, FrP pE σ τ → SrC τ f n q → K (iI v) τ)) : CT g l M_X3_takeSide 0 [.ref (zad g 1)] σ (zQi K X) := by
  unfold pSide at H
  refine b_X3_takeSide (c_isAtWord hS (by decide) (fun h => ?_) (fun h => ?_))
  · rw [if_neg (fun q => h ((isWd_q (by decide)).mpr q))] at H
    refine ⟨fun q => absurd rfl q, fun _ => c_isAtWord hS (by decide) (fun h2 => ?_) (fun h2 => ?_)⟩
    · rw [if_neg (fun q => h2 ((isWd_q (by decide)).mpr q))] at H
      exact ⟨fun q => absurd rfl q, fun _ => c_fail hS (c := 1) H⟩
    · rw [if_pos ((isWd_q (by decide)).mp h2)] at H
      exact ⟨fun _ => c_adv hS (fun τ a b => ⟨fun _ => H τ a b, fun q => absurd rfl q⟩), fun q => absurd q (by decide)⟩
  · rw [if_pos ((isWd_q (by decide)).mp h)] at H
    exact ⟨fun _ => c_adv hS (fun τ a b => ⟨fun q => absurd q (by decide), fun _ => H τ a b⟩), fun q => absurd q (by decide)⟩
/-- the reference after an error -/
def ErM (σ : zS) (c q : Nat) : Prop := σ.1 24 8 = iI c ∧ σ.1 24 9 = iI q ∧ 1 ≤ c ∧ c ≤ 9
theorem mK_4 {k : Nat} : mK k = 4 ↔ k = 1 := by
  unfold mK
  repeat' split
  all_goals omega
theorem mK_1 {k : Nat} : mK k = 1 ↔ k = 2 := by
  unfold mK
  repeat' split
  all_goals omega
theorem mK_2 {k : Nat} : mK k = 2 ↔ k = 3 := by
  unfold mK
  repeat' split
  all_goals omega
theorem mK_0 {k : Nat} : mK k = 0 ↔ k = 0 := by
  unfold mK
  repeat' split
  all_goals omega
theorem mK_3 {k : Nat} : mK k = 3 ↔ 3 < k := by
  unfold mK
  repeat' split
  all_goals omega
theorem mK_b (k : Nat) : mK k ≤ 4 := by
  unfold mK
  repeat' split
  all_goals omega
theorem ztK_g : ztK f n p ≤ 3 ∨ isG (ztK f n p) := by
  unfold ztK
  repeat' split
  all_goals first | (left; omega) | (right; assumption)
theorem lg_0 {a b : Nat} (ha : a < 2 ^ 62) (hb : b < 2 ^ 62) : lg_cmp (lN a) (lN b) = iI 0 ↔ a = b := by
  have h := lg_ti (lN a) (lN b)
  rw [show lN a = iL a from rfl, show lN b = iL b from rfl, iL_ti (by omega) (by omega), iL_ti (by omega) (by omega)] at h
  have h1 := h.1
  have h2 := h.2
  constructor
  · intro e
    rw [show lN a = iL a from rfl, show lN b = iL b from rfl] at e
    rw [e] at h1 h2
    have h3 : ¬ (iI 0 < iI 0) := by decide
    have h4 : ¬ ((a : Int) < b) := fun q => h3 (h1.mpr q)
    have h5 : ¬ ((b : Int) < a) := fun q => h3 (h2.mpr q)
    omega
  · intro e
    subst e
    unfold lg_cmp
    rw [if_neg (by intro q; exact absurd (Int64.lt_iff_toInt_lt.mp q) (by omega))]
    rw [if_pos (by rfl)]
    rfl
theorem wH_b : ∀ w, w < 14 → wH w < 2 ^ 40 := by decide +kernel
theorem hQ_b (h : ztK f n p = 2) : hQ f (ztS f n p) (ztE f n p - ztS f n p) < 2 ^ 40 := by
  obtain ⟨_, h2, _, _, h5⟩ := ztK_2 h
  exact Nat.lt_of_lt_of_le (hQ_lt h5) (Nat.le_trans (Nat.pow_le_pow_right (by decide) (show _ ≤ 8 by omega)) (by decide))
end ZPs

