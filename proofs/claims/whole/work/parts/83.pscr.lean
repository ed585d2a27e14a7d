/-! a script: pure -/
/-- what a part of a script does: the row, how many commands were done, whether it goes on -/
abbrev Den : Type := (Nat → Int32) → Nat → (Nat → Int32) × Nat × Bool
def nilD : Den := fun m k => (m, k, true)
def seqD (P Q : Den) : Den := fun m k => if (P m k).2.2 = true then Q (P m k).1 (P m k).2.1 else P m k
def repD (P : Den) : Nat → Den
  | 0 => nilD
  | n + 1 => seqD P (repD P n)
def sdZ (s x : Nat) : Int := if s = 1 then (x : Int) else -(x : Int)
/-- whether a command may be done, and what it does -/
def gC (v s x y z w : Nat) (m : Nat → Int32) : Prop :=
  if v = 0 then (-8 ≤ sdZ s x ∧ sdZ s x ≤ 8) ∧ sdZ s x ≠ 0
  else if v = 1 then x < nS m ∧ (-4 ≤ sdZ s y ∧ sdZ s y ≤ 4) ∧ td m x = 0
  else if v = 2 then x < nS m ∧ td m x = 0
  else if v = 3 then x < nS m ∧ td m x ≠ 0
  else if v = 4 then x < nS m ∧ ct m x s < nC m
  else if v = 5 then x < nS m ∧ y < wd m x ∧ z < nH m ∧ w ≤ 9
  else x < nS m
noncomputable def dC (v s x y z w : Nat) (m : Nat → Int32) : Nat → Int32 :=
  if v = 0 then wT m (plT m (sdZ s x)) else if v = 1 then mTurn m x (sdZ s y) else if v = 2 then mTie m x 1 else if v = 3 then mTie m x 0
  else if v = 4 then mPaint m x s else if v = 5 then mDab m x s y z w else mSwap m x
noncomputable def eC (v s x y z w : Nat) : Den := fun m k => @ite _ (gC v s x y z w m) (Classical.propDecidable _) (dC v s x y z w m, k + 1, decide (k + 1 < 40)) (m, k, false)
abbrev Pg : Type := Den
/-- an outer script: what was read of it, and where its "repeat" stands on both sides -/
abbrev Fr : Type := Nat × Pg × Nat × Nat
section ZPS
variable {α β : Type} (f : Nat → Nat) (n : Nat)
def pV (p : Nat) : Nat := if isWq f n p 6 then 0 else if isWq f n p 7 then 1 else if isWq f n p 8 then 2 else if isWq f n p 9 then 3 else if isWq f n p 10 then 4 else if isWq f n p 11 then 5 else if isWq f n p 12 then 6 else if isWq f n p 13 then 7 else 8
def pArg (p v : Nat) (kE : Nat → Nat → α) (kO : Nat → Nat → Nat → Nat → Nat → Nat → α) : α :=
  if v = 0 then pSide f n p kE (fun s p1 => pNum f n p1 0 999 kE (fun x p2 => kO s x 0 0 0 p2))
  else if v = 1 then pNum f n p 0 999 kE (fun x p1 => pSide f n p1 kE (fun s p2 => pNum f n p2 0 999 kE (fun y p3 => kO s x y 0 0 p3)))
  else if v = 4 then pNum f n p 0 999 kE (fun x p1 => pSide f n p1 kE (fun s p2 => kO s x 0 0 0 p2))
  else if v = 5 then pNum f n p 0 999 kE (fun x p1 => pSide f n p1 kE (fun s p2 => pNum f n p2 0 999 kE (fun y p3 => pNum f n p3 0 999 kE (fun z p4 => pNum f n p4 0 999 kE (fun w p5 => kO s x y z w p5)))))
  else pNum f n p 0 999 kE (fun x p1 => kO 0 x 0 0 0 p1)
noncomputable def pCmd (p : Nat) (P : Pg) (st : List Fr) (k L : Nat) (kE : Nat → Nat → α) (kO : Nat → Pg → List Fr → Nat → Nat → α) : α :=
  if pV f n p = 8 then kE 1 (ztS f n p) else if pV f n p = 7 ∧ st.length = 2 then kE 3 (ztS f n p) else if k = 30 then kE 5 (ztS f n p)
  else if pV f n p = 7 then pNum f n (ztE f n p) 1 20 kE (fun t p1 => pSign f n p1 40 kE (fun p2 => kO p2 nilD ((t, P, k, L) :: st) (k + 1) (L + 1)))
  else pArg f n (ztE f n p) (pV f n p) kE (fun s x y z w p1 => pSign f n p1 59 kE (fun p2 => kO p2 (seqD P (eC (pV f n p) s x y z w)) st (k + 1) (L + 1)))
noncomputable def pItem (p : Nat) (P : Pg) (st : List Fr) (k L : Nat) (kE : Nat → Nat → α) (kO : Nat → Pg → List Fr → Nat → Nat → α) : α :=
  match st with
  | [] => pCmd f n p P [] k L kE kO
  | (t, Q, kq, Lq) :: rest => if ztK f n p = 41 then pSign f n (ztE f n p) 59 kE (fun p2 => kO p2 (seqD Q (repD P t)) rest k (L + 1)) else pCmd f n p P ((t, Q, kq, Lq) :: rest) k L kE kO
noncomputable def pScr (kE : Nat → Nat → α) (kO : Pg → Nat → Nat → α) : Nat → Nat → Pg → List Fr → Nat → Nat → α
  | 0, _, P, _, k, L => kO P k L
  | u + 1, p, P, st, k, L => if ztK f n p = 0 ∧ st.length = 0 then kO P k L else pItem f n p P st k L kE (fun p' P' st' k' L' => pScr kE kO u p' P' st' k' L')
end ZPS
section ZPS2
variable {f : Nat → Nat} {n : Nat}
theorem pV_b (p : Nat) : pV f n p ≤ 8 := by
  unfold pV
  repeat' split
  all_goals omega
theorem pV_2 {p : Nat} (h : pV f n p ≠ 8) : ztK f n p = 2 := by
  unfold pV at h
  by_cases h0 : isWq f n p 6; · exact h0.1
  rw [if_neg h0] at h
  by_cases h1 : isWq f n p 7; · exact h1.1
  rw [if_neg h1] at h
  by_cases h2 : isWq f n p 8; · exact h2.1
  rw [if_neg h2] at h
  by_cases h3 : isWq f n p 9; · exact h3.1
  rw [if_neg h3] at h
  by_cases h4 : isWq f n p 10; · exact h4.1
  rw [if_neg h4] at h
  by_cases h5 : isWq f n p 11; · exact h5.1
  rw [if_neg h5] at h
  by_cases h6 : isWq f n p 12; · exact h6.1
  rw [if_neg h6] at h
  by_cases h7 : isWq f n p 13; · exact h7.1
  rw [if_neg h7] at h
  exact absurd rfl h
section ZSm
variable {p : Nat} {kE kE' : Nat → Nat → Prop}
theorem pArg_m {v : Nat} {kO kO' : Nat → Nat → Nat → Nat → Nat → Nat → Prop} (h : pArg f n p v kE kO) (hE : ∀ c q, kE c q → kE' c q) (hO : ∀ s x y z w p', p < p' → s < 2 → x ≤ 999 → y ≤ 999 → z ≤ 999 → w ≤ 999 → kO s x y z w p' → kO' s x y z w p') : pArg f n p v kE' kO' := by
  have g := fun {q : Nat} (h : ztK f n q ≠ 0) => ztE_gt h
  unfold pArg at h ⊢
  by_cases e0 : v = 0
  · rw [if_pos e0] at h ⊢
    exact pSide_m h hE (fun s hs k1 h => pNum_m h hE (fun x k2 _ a _ h => hO _ _ _ _ _ _ (by have := g (q := p) (by omega); have := g (q := ztE f n p) (by omega); omega) hs a (by decide) (by decide) (by decide) h))
  rw [if_neg e0] at h ⊢
  by_cases e1 : v = 1
  · rw [if_pos e1] at h ⊢
    exact pNum_m h hE (fun x k1 _ a _ h => pSide_m h hE (fun s hs k2 h => pNum_m h hE (fun y k3 _ b _ h => hO _ _ _ _ _ _ (by have := g (q := p) (by omega); have := g (q := ztE f n p) (by omega); have := g (q := ztE f n (ztE f n p)) (by omega); omega) hs a b (by decide) (by decide) h)))
  rw [if_neg e1] at h ⊢
  by_cases e4 : v = 4
  · rw [if_pos e4] at h ⊢
    exact pNum_m h hE (fun x k1 _ a _ h => pSide_m h hE (fun s hs k2 h => hO _ _ _ _ _ _ (by have := g (q := p) (by omega); have := g (q := ztE f n p) (by omega); omega) hs a (by decide) (by decide) (by decide) h))
  rw [if_neg e4] at h ⊢
  by_cases e5 : v = 5
  · rw [if_pos e5] at h ⊢
    exact pNum_m h hE (fun x k1 _ a _ h => pSide_m h hE (fun s hs k2 h => pNum_m h hE (fun y k3 _ b _ h => pNum_m h hE (fun z k4 _ c _ h => pNum_m h hE (fun w k5 _ d _ h => hO _ _ _ _ _ _ (by have := g (q := p) (by omega); have := g (q := ztE f n p) (by omega); have := g (q := ztE f n (ztE f n p)) (by omega); have := g (q := ztE f n (ztE f n (ztE f n p))) (by omega); have := g (q := ztE f n (ztE f n (ztE f n (ztE f n p)))) (by omega); omega) hs a b c d h)))))
  rw [if_neg e5] at h ⊢
  exact pNum_m h hE (fun x k1 _ a _ h => hO _ _ _ _ _ _ (g (by omega)) (by decide) a (by decide) (by decide) (by decide) h)
theorem pCmd_m {P : Pg} {st : List Fr} {k L : Nat} {kO kO' : Nat → Pg → List Fr → Nat → Nat → Prop} (hk : k ≤ 30) (hst : st.length ≤ 2) (hL : L + st.length ≤ 2 * k) (h : pCmd f n p P st k L kE kO) (hE : ∀ c q, kE c q → kE' c q) (hO : ∀ p' P' st' k' L', p + 2 ≤ p' → k' ≤ 30 → st'.length ≤ 2 → L' + st'.length ≤ 2 * k' → kO p' P' st' k' L' → kO' p' P' st' k' L') : pCmd f n p P st k L kE' kO' := by
  have g := fun {q : Nat} (h : ztK f n q ≠ 0) => ztE_gt h
  unfold pCmd at h ⊢
  by_cases e8 : pV f n p = 8
  · rw [if_pos e8] at h ⊢; exact hE _ _ h
  rw [if_neg e8] at h ⊢
  have k2 := pV_2 e8
  by_cases e3 : pV f n p = 7 ∧ st.length = 2
  · rw [if_pos e3] at h ⊢; exact hE _ _ h
  rw [if_neg e3] at h ⊢
  by_cases e5 : k = 30
  · rw [if_pos e5] at h ⊢; exact hE _ _ h
  rw [if_neg e5] at h ⊢
  by_cases e7 : pV f n p = 7
  · rw [if_pos e7] at h ⊢
    refine pNum_m h hE (fun t k3 _ _ _ h => pSign_m h hE (fun k4 h => hO _ _ _ _ _ ?_ (by omega) ?_ ?_ h))
    · have := g (q := p) (by omega)
      have := g (q := ztE f n p) (by omega)
      have := g (q := ztE f n (ztE f n p)) (by omega)
      omega
    · show st.length + 1 ≤ 2; omega
    · show L + 1 + (st.length + 1) ≤ _; omega
  · rw [if_neg e7] at h ⊢
    refine pArg_m h hE (fun s x y z w p' hp _ _ _ _ _ h => pSign_m h hE (fun k4 h => hO _ _ _ _ _ ?_ (by omega) hst (by omega) h))
    have := g (q := p) (by omega)
    have := g (q := p') (by omega)
    omega
theorem pItem_m {P : Pg} {st : List Fr} {k L : Nat} {kO kO' : Nat → Pg → List Fr → Nat → Nat → Prop} (hk : k ≤ 30) (hst : st.length ≤ 2) (hL : L + st.length ≤ 2 * k) (h : pItem f n p P st k L kE kO) (hE : ∀ c q, kE c q → kE' c q) (hO : ∀ p' P' st' k' L', p + 2 ≤ p' → k' ≤ 30 → st'.length ≤ 2 → L' + st'.length ≤ 2 * k' → kO p' P' st' k' L' → kO' p' P' st' k' L') : pItem f n p P st k L kE' kO' := by
  have g := fun {q : Nat} (h : ztK f n q ≠ 0) => ztE_gt h
  match st, hst, hL, h with
  | [], hst, hL, h => exact pCmd_m hk hst hL h hE hO
  | (t, Q, kq, Lq) :: rest, hst, hL, h =>
    have hst2 : rest.length + 1 ≤ 2 := hst
    have hL2 : L + (rest.length + 1) ≤ 2 * k := hL
    unfold pItem at h ⊢
    by_cases e : ztK f n p = 41
    · simp only [if_pos e] at h ⊢
      refine pSign_m h hE (fun k4 h => hO _ _ _ _ _ ?_ hk (by omega) (by omega) h)
      have := g (q := p) (by omega)
      have := g (q := ztE f n p) (by omega)
      omega
    · simp only [if_neg e] at h ⊢
      exact pCmd_m hk hst hL h hE hO
end ZSm
section ZSn
variable {α β : Type} {p : Nat}
theorem pArg_n {v : Nat} (φ : α → β) (kE : Nat → Nat → α) (kO : Nat → Nat → Nat → Nat → Nat → Nat → α) : φ (pArg f n p v kE kO) = pArg f n p v (fun c q => φ (kE c q)) (fun s x y z w q => φ (kO s x y z w q)) := by
  unfold pArg
  split
  · rw [pSide_n φ]; congr 1; funext v q; rw [pNum_n φ]
  · split
    · rw [pNum_n φ]; congr 1; funext v q; rw [pSide_n φ]; congr 1; funext v q; rw [pNum_n φ]
    · split
      · rw [pNum_n φ]; congr 1; funext v q; rw [pSide_n φ]
      · split
        · rw [pNum_n φ]; congr 1; funext v q; rw [pSide_n φ]; congr 1; funext v q; rw [pNum_n φ]; congr 1; funext v q; rw [pNum_n φ]; congr 1; funext v q; rw [pNum_n φ]
        · rw [pNum_n φ]
theorem pCmd_n {P : Pg} {st : List Fr} {k L : Nat} (φ : α → β) (kE : Nat → Nat → α) (kO : Nat → Pg → List Fr → Nat → Nat → α) : φ (pCmd f n p P st k L kE kO) = pCmd f n p P st k L (fun c q => φ (kE c q)) (fun a b c d e => φ (kO a b c d e)) := by
  unfold pCmd
  split
  · rfl
  · split
    · rfl
    · split
      · rfl
      · split
        · rw [pNum_n φ]; congr 1; funext v q; rw [pSign_n φ]
        · rw [pArg_n φ]; congr 1; funext s x y z w q; rw [pSign_n φ]
theorem pItem_n {P : Pg} {st : List Fr} {k L : Nat} (φ : α → β) (kE : Nat → Nat → α) (kO : Nat → Pg → List Fr → Nat → Nat → α) : φ (pItem f n p P st k L kE kO) = pItem f n p P st k L (fun c q => φ (kE c q)) (fun a b c d e => φ (kO a b c d e)) := by
  match st with
  | [] => exact pCmd_n φ kE kO
  | (t, Q, kq, Lq) :: rest =>
    unfold pItem
    by_cases e : ztK f n p = 41
    · simp only [if_pos e]; rw [pSign_n φ]
    · simp only [if_neg e]; rw [pCmd_n φ]
theorem pScr_n (φ : α → β) (kE : Nat → Nat → α) (kO : Pg → Nat → Nat → α) : ∀ (u p : Nat) (P : Pg) (st : List Fr) (k L : Nat), φ (pScr f n kE kO u p P st k L) = pScr f n (fun c q => φ (kE c q)) (fun a b c => φ (kO a b c)) u p P st k L
  | 0, _, _, _, _, _ => rfl
  | u + 1, p, P, st, k, L => by
    unfold pScr
    split
    · rfl
    · rw [pItem_n φ]; congr 1; funext a b c d e; exact pScr_n φ kE kO u a b c d e
end ZSn
/-- what comes of a script's reading -/
noncomputable def rScr (f : Nat → Nat) (n : Nat) : (Nat × Nat) ⊕ (Pg × Nat × Nat) := pScr f n (fun c q => .inl (c, q)) (fun P k L => .inr (P, k, L)) 600 0 nilD [] 0 0
theorem rScr_of {kE : Nat → Nat → Prop} {kO : Pg → Nat → Nat → Prop} (h1 : ∀ c q, rScr f n = .inl (c, q) → kE c q) (h2 : ∀ P k L, rScr f n = .inr (P, k, L) → kO P k L) : pScr f n kE kO 600 0 nilD [] 0 0 := by
  have e := pScr_n (f := f) (n := n) (fun x : (Nat × Nat) ⊕ (Pg × Nat × Nat) => match x with | .inl a => kE a.1 a.2 | .inr a => kO a.1 a.2.1 a.2.2) (fun c q => .inl (c, q)) (fun P k L => .inr (P, k, L)) 600 0 nilD [] 0 0
  show pScr f n (fun c q => kE c q) (fun P k L => kO P k L) 600 0 nilD [] 0 0
  refine cast e ?_
  show (match rScr f n with | .inl a => kE a.1 a.2 | .inr a => kO a.1 a.2.1 a.2.2)
  match h : rScr f n with
  | .inl a => exact h1 a.1 a.2 h
  | .inr a => exact h2 a.1 a.2.1 a.2.2 h
end ZPS2
