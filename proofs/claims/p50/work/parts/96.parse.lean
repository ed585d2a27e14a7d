/-! the grown text is read: pure -/
def Tl (f : Nat → Nat) (n p : Nat) (u : List Nat) : Prop := p + u.length = n ∧ ∀ i, i < u.length → f (p + i) = u.getD i 0
section PTx
variable {f : Nat → Nat} {n p s : Nat} {u a b : List Nat} {c : Nat}
theorem Tl.hd (h : Tl f n p (c :: u)) : p < n ∧ f p = c := by
  have h1 := h.1
  rw [List.length_cons] at h1
  exact ⟨by omega, h.2 0 (by rw [List.length_cons]; omega)⟩
theorem Tl.tl (h : Tl f n p (c :: u)) : Tl f n (p + 1) u := by
  have h1 := h.1
  rw [List.length_cons] at h1
  refine ⟨by omega, fun i hi => ?_⟩
  have := h.2 (i + 1) (by rw [List.length_cons]; omega)
  rw [show p + 1 + i = p + (i + 1) by omega, this]
  rfl
theorem Tl.app : ∀ {a : List Nat} {p : Nat}, Tl f n p (a ++ b) → Tl f n (p + a.length) b
  | [], _, h => h
  | c :: a, p, h => by
    have := Tl.app (a := a) (p := p + 1) h.tl
    rw [List.length_cons, show p + (a.length + 1) = p + 1 + a.length by omega]
    exact this
theorem Tl.at (h : Tl f n p (a ++ b)) {i : Nat} (hi : i < a.length) : f (p + i) = a.getD i 0 := by
  rw [h.2 i (by rw [List.length_append]; omega), List.getD_eq_getElem?_getD, List.getD_eq_getElem?_getD, List.getElem?_append_left hi]
abbrev noH (P : Nat → Prop) (b : List Nat) : Prop := ∀ c, b.head? = some c → ¬ P c
theorem runQ_l {P : Nat → Prop} [DecidablePred P] : ∀ {a : List Nat} {p : Nat}, Tl f n p (a ++ b) → (∀ c ∈ a, P c) → noH P b → runQ P f n p = p + a.length
  | [], p, h, _, hb => by
    refine runQ_n (fun z => ?_)
    match b, h, hb with
    | [], h, _ => have := h.1; simp at this; omega
    | c :: b, h, hb => exact hb c rfl (h.hd.2 ▸ z.2)
  | c :: a, p, h, ha, hb => by
    have h0 : Tl f n p (c :: (a ++ b)) := h
    rw [runQ_y h0.hd.1 (by rw [h0.hd.2]; exact ha c (List.mem_cons_self ..)), runQ_l h0.tl (fun x hx => ha x (List.mem_cons_of_mem _ hx)) hb, List.length_cons]
    omega
theorem zs_bl {bl : List Nat} (h : Tl f n p (bl ++ u)) (hb : ∀ c ∈ bl, isB c) (hu : noH isB u) : ztS f n p = p + bl.length ∧ Tl f n (p + bl.length) u := ⟨runQ_l h hb hu, h.app⟩
/-- a word -/
theorem tk_word (hS : ztS f n p = s) (h : Tl f n s (a ++ b)) (ha : ∀ c ∈ a, isL c) (h1 : 0 < a.length) (h8 : a.length ≤ 8) (hb : noH isL b) : ztK f n p = 2 ∧ ztE f n p = s + a.length := by
  have e : ztL f n p = s + a.length := by unfold ztL; rw [hS]; exact runQ_l h ha hb
  have hn := h.1
  rw [List.length_append] at hn
  constructor
  · unfold ztK; rw [e, hS, if_neg (by omega), if_pos (by omega), if_pos (by omega)]
  · unfold ztE; rw [e, hS, if_neg (by omega), if_pos (by omega)]
theorem tk_isWd {w : Nat} (hw : w < 14) (hS : ztS f n p = s) (h : Tl f n s (wBy.getD w [] ++ b)) (hb : noH isL b) : isWq f n p w ∧ ztE f n p = s + wL w ∧ Tl f n (s + wL w) b := by
  have hl8 := wL_8 w hw
  have hL : ∀ w, w < 14 → 0 < wL w ∧ ∀ c ∈ wBy.getD w [], isL c := by decide +kernel
  obtain ⟨k, e⟩ := tk_word hS h (hL w hw).2 (hL w hw).1 hl8 hb
  refine ⟨(isWd_H hw).mp ⟨k, by rw [e, hS]; exact Nat.add_sub_cancel_left _ _, fun i hi => ?_⟩, e, h.app⟩
  rw [hS]
  exact h.at hi
theorem tk_not {w v : Nat} (hw : w < 14) (hv : v < 14) (hne : v ≠ w) (h : isWq f n p w) : ¬ isWq f n p v := fun h' => hne (wH_inj v hv w hw (h'.2.symm.trans h.2))
/-- a number -/
theorem tk_num {v : Nat} (hv : v < 100) (hS : ztS f n p = s) (h : Tl f n s (digs v ++ b)) (hb : noH isD b) : ztK f n p = 3 ∧ ztE f n p = s + (digs v).length ∧ ztV f n p = v ∧ Tl f n (s + (digs v).length) b := by
  have hd : ∀ v : Nat, v < 100 → (∀ c ∈ digs v, isD c) ∧ noH isL (digs v) ∧ 0 < (digs v).length := fun v hv => by
    unfold digs
    by_cases q : v < 10
    · rw [if_pos q]
      refine ⟨fun c hc => ?_, fun c hc => ?_, by simp⟩
      · have := List.mem_singleton.mp hc; unfold isD; omega
      · have : 48 + v = c := Option.some.inj hc
        unfold isL; omega
    · rw [if_neg q]
      refine ⟨fun c hc => ?_, fun c hc => ?_, by simp⟩
      · rcases List.mem_cons.mp hc with hc | hc
        · unfold isD; omega
        · have := List.mem_singleton.mp hc; unfold isD; omega
      · have : 48 + v / 10 = c := Option.some.inj hc
        unfold isL; omega
  obtain ⟨d1, d2, d3⟩ := hd v hv
  have e : ztD f n p = s + (digs v).length := by unfold ztD; rw [hS]; exact runQ_l h d1 hb
  have el : ztL f n p = s := by
    unfold ztL
    rw [hS]
    refine runQ_n (fun z => ?_)
    have h0 := h.at d3
    rw [Nat.add_zero] at h0
    rw [h0] at z
    refine d2 _ ?_ z.2
    cases hx : digs v with
    | nil => rw [hx] at d3; exact absurd d3 (Nat.lt_irrefl 0)
    | cons x y => rfl
  have hn := h.1
  have d4 := digs_l2 v
  rw [List.length_append] at hn
  have eE : ztE f n p = s + (digs v).length := by unfold ztE; rw [e, hS, el, if_neg (by omega), if_neg (by omega), if_pos (by omega)]
  refine ⟨?_, eE, ?_, h.app⟩
  · unfold ztK; rw [e, hS, el, if_neg (by omega), if_neg (by omega), if_pos (by omega), if_pos (by omega)]
  · unfold ztV
    rw [eE, hS, Nat.add_sub_cancel_left]
    have h0 : ∀ i, i < (digs v).length → f (s + i) = (digs v).getD i 0 := fun i hi => h.at hi
    rw [digs_l]
    unfold digs at h0
    by_cases q : v < 10
    · rw [if_pos q] at h0 ⊢
      have z := h0 0 (by simp)
      show 10 * 0 + (f (s + 0) - 48) = v
      rw [z]
      show 10 * 0 + (48 + v - 48) = v
      omega
    · rw [if_neg q] at h0 ⊢
      have z := h0 0 (by simp)
      have z1 := h0 1 (by simp)
      show 10 * (10 * 0 + (f (s + 0) - 48)) + (f (s + 1) - 48) = v
      rw [z, z1]
      show 10 * (10 * 0 + (48 + v / 10 - 48)) + (48 + v % 10 - 48) = v
      omega
theorem tk_semi (hS : ztS f n p = s) (h : Tl f n s (59 :: b)) : ztK f n p = 59 ∧ ztE f n p = s + 1 ∧ Tl f n (s + 1) b := by
  obtain ⟨h1, h2⟩ := h.hd
  have el : ztL f n p = s := by unfold ztL; rw [hS]; exact runQ_n (fun z => by rw [h2] at z; exact absurd z.2 (by decide))
  have ed : ztD f n p = s := by unfold ztD; rw [hS]; exact runQ_n (fun z => by rw [h2] at z; exact absurd z.2 (by decide))
  refine ⟨?_, ?_, h.tl⟩
  · unfold ztK; rw [hS, el, ed, if_neg (by omega), if_neg (by omega), if_neg (by omega), h2, if_pos (by decide)]
  · unfold ztE; rw [hS, el, ed, if_neg (by omega), if_neg (by omega), if_neg (by omega)]
variable {α : Type} {kE : Nat → Nat → α}
theorem pNum_t {v lo hi : Nat} {kO : Nat → Nat → α} {bl : List Nat} (hv : v < 100) (h1 : lo ≤ v) (h2 : v ≤ hi) (h : Tl f n p (bl ++ (digs v ++ b))) (hbl : ∀ c ∈ bl, isB c) (hb : noH isD b) : ∃ q, Tl f n q b ∧ pNum f n p lo hi kE kO = kO v q := by
  have hd : noH isB (digs v ++ b) := fun c hc => by
    have : ∀ v, v < 100 → ∀ c, (digs v).head? = some c → ¬ isB c := by decide +kernel
    refine this v hv c ?_
    have hl := digs_l v
    cases hx : digs v with
    | nil => rw [hx] at hl; exact absurd hl (by split <;> decide)
    | cons x y => rw [hx] at hc; exact hc
  obtain ⟨z1, z2⟩ := zs_bl h hbl hd
  obtain ⟨k1, k2, k3, k4⟩ := tk_num hv z1 z2 hb
  refine ⟨_, k4, ?_⟩
  unfold pNum
  rw [k1, if_pos rfl, k3, if_pos ⟨h1, h2⟩, k2]
theorem pSign_t {kO : Nat → α} {bl : List Nat} (h : Tl f n p (bl ++ (59 :: b))) (hbl : ∀ c ∈ bl, isB c) : ∃ q, Tl f n q b ∧ pSign f n p 59 kE kO = kO q := by
  obtain ⟨z1, z2⟩ := zs_bl h hbl (fun c hc => by cases hc; decide)
  obtain ⟨k1, k2, k3⟩ := tk_semi z1 z2
  exact ⟨_, k3, by unfold pSign; rw [if_pos k1, k2]⟩
theorem wBy_B : ∀ w, w < 14 → ∀ c, (wBy.getD w []).head? = some c → ¬ isB c := by decide +kernel
theorem wBy_h {w : Nat} (hw : w < 14) (b : List Nat) : noH isB (wBy.getD w [] ++ b) := fun c hc => by
  refine wBy_B w hw c ?_
  have hl : ∀ w, w < 14 → 0 < (wBy.getD w []).length := by decide +kernel
  have hl := hl w hw
  cases hx : wBy.getD w [] with
  | nil => rw [hx] at hl; exact absurd hl (Nat.lt_irrefl 0)
  | cons x y => rw [hx] at hc; exact hc
theorem pSide_t {sd : Nat} {kO : Nat → Nat → α} {bl : List Nat} (hs : sd < 2) (h : Tl f n p (bl ++ (wBy.getD (5 - sd) [] ++ b))) (hbl : ∀ c ∈ bl, isB c) (hb : noH isL b) : ∃ q, Tl f n q b ∧ pSide f n p kE kO = kO sd q := by
  obtain ⟨z1, z2⟩ := zs_bl h hbl (wBy_h (by omega) b)
  obtain ⟨k1, k2, k3⟩ := tk_isWd (w := 5 - sd) (by omega) z1 z2 hb
  refine ⟨_, k3, ?_⟩
  unfold pSide
  match sd, hs with
  | 0, _ => rw [if_neg (tk_not (w := 5) (by omega) (by omega) (by omega) k1), if_pos k1, k2]
  | 1, _ => rw [if_pos k1, k2]
end PTx
