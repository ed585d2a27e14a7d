/-! a world begun, and what is added to it -/
section WAd
variable {G : fG} {l : Launch} {o : Option zS} {ω : fW} {kb ax : Nat} {p : Nat → Nat} {H C S B : Nat} {m : Nat → Int32} {fa : Nat → Nat → Nat → Int32}
/-- neither a list nor its row -/
def nL (G : fG) (c : va_E) : Prop := (∀ fs, c ≠ .inr (3, fs)) ∧ ∀ y, c ≠ .inl (G.1.2.1 5, y)
theorem nL_row (hd : dist G) {t : Nat} (ht : t < 7) (h5 : t ≠ 5) (x : vp_A) : nL G (.inl (G.1.2.1 t, x)) := ⟨fun fs e => (by cases e), fun y e => h5 (hd t 5 ht (by omega) (congrArg (fun q : va_E => match q with | .inl (a, _) => a | .inr _ => G.1.2.1 t) e))⟩
theorem nL_obj {i : Nat} (h : i ≠ 3) (fs : List Value) : nL G (.inr (i, fs)) := ⟨fun fs e => (by cases e; exact h rfl), fun y e => (by cases e)⟩
theorem SbA.fr {ω' : fW} {a v n : Nat} {ts : List Nat} (hd : dist G) (h : SbA G ω a v n ts) (hf : ∀ q c, ω q = some c → nL G c → ω' q = some c) : SbA G ω' a v n ts := by
  obtain ⟨⟨ml, h1⟩, ⟨f, h2, h3⟩, h4⟩ := h
  exact ⟨⟨ml, hf _ _ h1 (nL_obj (by omega) _)⟩, ⟨f, hf _ _ h2 (nL_row hd (by omega) (by omega) _), h3⟩, h4⟩
theorem LsA.el' {a c n e : Nat} {mc : Int32} {el el' : Nat → Nat} (h : LsA G ω a mc c n e el) (he : ∀ i, i < c → el i = el' i) : LsA G ω a mc c n e el' := by
  have : fE c el = fE c el' := funext fun i => by
    unfold fE
    by_cases q : i < c
    · rw [if_pos q, if_pos q, he i q]
    · rw [if_neg q, if_neg q]
  unfold LsA at h ⊢
  rw [← this]
  exact h
/-- a slat or a box comes: i0 its place, the other list stays -/
theorem w_add {K : Int32 → Option zS → fW → Prop} {a e n1 c : Nat} {mc : Int32} {el : Nat → Nat} {v : Nat} {y : vp_A} (hd : dist G) (l1 : LsA G ω a mc c n1 e el) (hc : c ≤ 20) (hn : n1 ≤ 36) (hkb : 3 ≤ kb) (hv : ω v = some (.inl (G.1.2.1 0, y))) (hel : ∀ i, i < c → ∃ x, ω (el i) = some (.inl (G.1.2.1 0, x)))
    (HK : ∀ (mc' : Int32) (n' e' : Nat) (ω' : fW), LsA G ω' a mc' (c + 1) n' e' (fun i => if i = c then v else el i) → n' ≤ 36 → ((e' = e ∧ n' = n1 ∧ 0 < n1) ∨ ω e' = none) → (∀ q cq, ω q = some cq → nL G cq → ω' q = some cq) → (∀ (a2 c2 n2 e2 : Nat) (mc2 : Int32) (el2 : Nat → Nat), LsA G ω a2 mc2 c2 n2 e2 el2 → a2 ≠ a → (n1 = 0 ∨ n2 = 0 ∨ e ≠ e2) → LsA G ω' a2 mc2 c2 n2 e2 el2) → K 1 o ω') : FC G l M_Jx4a65c_add_9ea2d kb [.ref a, .ref v] (o, ω) (fQi K) := by
  refine s_add l1 hc hn hkb hv hel (fun mc' n' e' ω' L' hn' he' hfr => HK mc' n' e' ω' L' hn' he' (fun q cq hq hcq => ?_) (fun a2 c2 n2 e2 mc2 el2 L2 ha2 hne => ?_))
  · refine hfr q cq hq (fun z => ?_) ?_
    · rw [z, l1.1] at hq
      cases hq
      exact hcq.1 _ rfl
    · rcases Nat.eq_zero_or_pos n1 with h0 | h0
      · exact Or.inr h0
      · refine Or.inl (fun z => ?_)
        have h1 : ω e = some (.inl (G.1.2.1 5, n1, .inr (.inr (.inr (.inr (fE c el)))))) := l1.2.1.elim (fun w => by omega) (fun w => w.2)
        rw [z, h1] at hq
        cases hq
        exact hcq.2 _ rfl
  · have hnoe : ∀ fs, ω a2 = some (.inr (3, fs)) → a2 ≠ e ∨ n1 = 0 := fun fs hq => by
      rcases Nat.eq_zero_or_pos n1 with h0 | h0
      · exact Or.inr h0
      · refine Or.inl (fun z => ?_)
        have h1 : ω e = some (.inl (G.1.2.1 5, n1, .inr (.inr (.inr (.inr (fE c el)))))) := l1.2.1.elim (fun w => by omega) (fun w => w.2)
        rw [z, h1] at hq
        cases hq
    refine ⟨hfr _ _ L2.1 ha2 (hnoe _ L2.1), L2.2.1.imp id (fun w => ⟨w.1, hfr _ _ w.2 (fun z => ?_) ?_⟩), L2.2.2⟩
    · rw [z, l1.1] at w
      cases w.2
    · rcases hne with h0 | h0 | h0
      · exact Or.inr h0
      · omega
      · exact Or.inl (fun z => h0 z.symm)
theorem w_addS (h : WQ G ω ax p H C S B m fa) {K : Int32 → Option zS → fW → Prop} {v : Nat} {f : Nat → Int32} (hv : ω v = some (.inl (G.1.2.1 0, 5, .inl f))) (hf : ∀ j, j < 5 → f j = m (4 + 5 * S + j)) (hnew : ∀ i, wv S B i → p i ≠ v) (hS : S < 10) (hkb : 3 ≤ kb)
    (HK : ∀ (p' : Nat → Nat) (ω' : fW), WQ G ω' ax p' H C (S + 1) B m fa → (∀ q cq, ω q = some cq → nL G cq → ω' q = some cq) → p' 167 = p 167 → K 1 o ω') : FC G l M_Jx4a65c_add_9ea2d kb [.ref (p 160), .ref v] (o, ω) (fQi K) := by
  have h0 := h
  obtain ⟨hd, h1, ⟨mc1, mc2, n1, n2, l1, l2, l3, l4, l5⟩, h3, h4, h5, h6, h7, h8, h9, h10, h11, h12⟩ := id h
  refine w_add hd l1 (by omega) l3 hkb hv (fun i hi => h.row (Or.inl hi)) (fun mc' n' e' ω' L' hn' he' hfr hls => ?_)
  refine HK (fun i => if i = S then v else if i = 165 then e' else p i) ω' ?_ hfr ((if_neg (by omega)).trans (if_neg (by omega)))
  have hp : ∀ i, i ≠ S → i ≠ 165 → (fun i => if i = S then v else if i = 165 then e' else p i) i = p i := fun i a b => (if_neg a).trans (if_neg b)
  have hpS : (fun i => if i = S then v else if i = 165 then e' else p i) S = v := if_pos rfl
  have hpe : (fun i => if i = S then v else if i = 165 then e' else p i) 165 = e' := (if_neg (by omega)).trans (if_pos rfl)
  generalize (fun i => if i = S then v else if i = 165 then e' else p i) = p' at hp hpS hpe
  have hrow : ∀ (i N : Nat) (g : Nat → Int32), i ≠ S → i ≠ 165 → rwI G ω (p i) N g → rwI G ω' (p' i) N g := fun i N g a b hr => by
    obtain ⟨f0, z1, z2⟩ := hr
    exact ⟨f0, by rw [hp i a b]; exact hfr _ _ z1 (nL_row hd (by omega) (by omega) _), z2⟩
  refine ⟨hd, ?_, ⟨mc', mc2, n', n2, ?_, ?_, hn', l4, ?_⟩, ?_, fun s hs => ?_, fun k hk => ?_, fun b hb => ?_, fun s c hs hc => ?_, fun i j hi hj hij => ?_, ?_, ?_, by omega, h12⟩
  · rw [hp 160 (by omega) (by omega), hp 161 (by omega) (by omega), hp 162 (by omega) (by omega), hp 167 (by omega) (by omega)]
    exact hfr _ _ h1 (nL_obj (by omega) _)
  · rw [hp 160 (by omega) (by omega), hpe]
    refine L'.el' (fun i hi => ?_)
    by_cases q : i = S
    · rw [if_pos q, q, hpS]
    · rw [if_neg q, hp i q (by omega)]
  · rw [hp 161 (by omega) (by omega), hp 166 (by omega) (by omega)]
    exact (hls _ _ _ _ _ _ l2 (fun z => h9 z.symm) l5).el' (fun b hb => (hp _ (by omega) (by omega)).symm)
  · rw [hpe, hp 166 (by omega) (by omega)]
    rcases he' with ⟨rfl, rfl, hpos⟩ | he'
    · exact l5
    · rcases Nat.eq_zero_or_pos n2 with q | q
      · exact Or.inr (Or.inl q)
      · refine Or.inr (Or.inr (fun z => ?_))
        have w : ω (p 166) = some (.inl (G.1.2.1 5, n2, .inr (.inr (.inr (.inr (fE B (fun b => p (16 + b)))))))) := l2.2.1.elim (fun w => by omega) (fun w => w.2)
        rw [← z, he'] at w
        cases w
  · obtain ⟨F, z1, z2⟩ := h3
    exact ⟨F, by rw [hp 162 (by omega) (by omega)]; exact hfr _ _ z1 (nL_row hd (by omega) (by omega) _), fun j hj => by rw [z2 j hj]; exact congrArg some (hp _ (by omega) (by omega)).symm⟩
  · obtain ⟨F, z1, z2⟩ := h4 s hs
    exact ⟨F, by rw [hp (163 + s) (by omega) (by omega)]; exact hfr _ _ z1 (nL_row hd (by omega) (by omega) _), fun j hj => by rw [z2 j hj]; exact congrArg some (hp _ (by omega) (by omega)).symm⟩
  · by_cases q : k = S
    · subst q
      exact ⟨f, by rw [hpS]; exact hfr _ _ hv (nL_row hd (by omega) (by omega) _), hf⟩
    · exact hrow k 5 _ q (by omega) (h5 k (by omega))
  · exact hrow (16 + b) 6 _ (by omega) (by omega) (h6 b hb)
  · exact hrow (32 + 64 * s + c) 8 _ (by omega) (by omega) (h7 s c hs hc)
  · have cs : ∀ i, wv (S + 1) B i → i = S ∨ (i ≠ S ∧ i ≠ 165 ∧ wv S B i) := fun i hi => by
      unfold wv at hi ⊢
      omega
    rcases cs i hi with a | ⟨a1, a2, a3⟩ <;> rcases cs j hj with b | ⟨b1, b2, b3⟩
    · omega
    · rw [a, hpS, hp j b1 b2] at hij
      exact absurd hij.symm (hnew j b3)
    · rw [b, hpS, hp i a1 a2] at hij
      exact absurd hij (hnew i a3)
    · rw [hp i a1 a2, hp j b1 b2] at hij
      exact h8 i j a3 b3 hij
  · rw [hp 160 (by omega) (by omega), hp 161 (by omega) (by omega)]; exact h9
  · rw [hp 163 (by omega) (by omega), hp 164 (by omega) (by omega)]; exact h10
theorem w_addB (h : WQ G ω ax p H C S B m fa) {K : Int32 → Option zS → fW → Prop} {v : Nat} {f : Nat → Int32} (hv : ω v = some (.inl (G.1.2.1 0, 6, .inl f))) (hf : ∀ j, j < 6 → f j = m (54 + 6 * B + j)) (hnew : ∀ i, wv S B i → p i ≠ v) (hB : B < 16) (hkb : 3 ≤ kb)
    (HK : ∀ (p' : Nat → Nat) (ω' : fW), WQ G ω' ax p' H C S (B + 1) m fa → (∀ q cq, ω q = some cq → nL G cq → ω' q = some cq) → p' 167 = p 167 → K 1 o ω') : FC G l M_Jx4a65c_add_9ea2d kb [.ref (p 161), .ref v] (o, ω) (fQi K) := by
  have h0 := h
  obtain ⟨hd, h1, ⟨mc1, mc2, n1, n2, l1, l2, l3, l4, l5⟩, h3, h4, h5, h6, h7, h8, h9, h10, h11, h12⟩ := id h
  refine w_add hd l2 (by omega) l4 hkb hv (fun i hi => h.row (Or.inr (Or.inl ⟨by omega, by omega⟩))) (fun mc' n' e' ω' L' hn' he' hfr hls => ?_)
  refine HK (fun i => if i = 16 + B then v else if i = 166 then e' else p i) ω' ?_ hfr ((if_neg (by omega)).trans (if_neg (by omega)))
  have hp : ∀ i, i ≠ 16 + B → i ≠ 166 → (fun i => if i = 16 + B then v else if i = 166 then e' else p i) i = p i := fun i a b => (if_neg a).trans (if_neg b)
  have hpS : (fun i => if i = 16 + B then v else if i = 166 then e' else p i) (16 + B) = v := if_pos rfl
  have hpe : (fun i => if i = 16 + B then v else if i = 166 then e' else p i) 166 = e' := (if_neg (by omega)).trans (if_pos rfl)
  generalize (fun i => if i = 16 + B then v else if i = 166 then e' else p i) = p' at hp hpS hpe
  have hrow : ∀ (i N : Nat) (g : Nat → Int32), i ≠ 16 + B → i ≠ 166 → rwI G ω (p i) N g → rwI G ω' (p' i) N g := fun i N g a b hr => by
    obtain ⟨f0, z1, z2⟩ := hr
    exact ⟨f0, by rw [hp i a b]; exact hfr _ _ z1 (nL_row hd (by omega) (by omega) _), z2⟩
  refine ⟨hd, ?_, ⟨mc1, mc', n1, n', ?_, ?_, l3, hn', ?_⟩, ?_, fun s hs => ?_, fun k hk => ?_, fun b hb => ?_, fun s c hs hc => ?_, fun i j hi hj hij => ?_, ?_, ?_, h11, by omega⟩
  · rw [hp 160 (by omega) (by omega), hp 161 (by omega) (by omega), hp 162 (by omega) (by omega), hp 167 (by omega) (by omega)]
    exact hfr _ _ h1 (nL_obj (by omega) _)
  · rw [hp 160 (by omega) (by omega), hp 165 (by omega) (by omega)]
    exact (hls _ _ _ _ _ _ l1 h9 (l5.elim (fun z => Or.inr (Or.inl z)) (fun z => z.elim Or.inl (fun z => Or.inr (Or.inr (fun y => z y.symm)))))).el' (fun b hb => (hp _ (by omega) (by omega)).symm)
  · rw [hp 161 (by omega) (by omega), hpe]
    refine L'.el' (fun i hi => ?_)
    by_cases q : i = B
    · rw [if_pos q, q, hpS]
    · rw [if_neg q, hp (16 + i) (by omega) (by omega)]
  · rw [hpe, hp 165 (by omega) (by omega)]
    rcases he' with ⟨rfl, rfl, hpos⟩ | he'
    · exact l5
    · rcases Nat.eq_zero_or_pos n1 with q | q
      · exact Or.inl q
      · refine Or.inr (Or.inr (fun z => ?_))
        have w : ω (p 165) = some (.inl (G.1.2.1 5, n1, .inr (.inr (.inr (.inr (fE S p)))))) := l1.2.1.elim (fun w => by omega) (fun w => w.2)
        rw [z, he'] at w
        cases w
  · obtain ⟨F, z1, z2⟩ := h3
    exact ⟨F, by rw [hp 162 (by omega) (by omega)]; exact hfr _ _ z1 (nL_row hd (by omega) (by omega) _), fun j hj => by rw [z2 j hj]; exact congrArg some (hp _ (by omega) (by omega)).symm⟩
  · obtain ⟨F, z1, z2⟩ := h4 s hs
    exact ⟨F, by rw [hp (163 + s) (by omega) (by omega)]; exact hfr _ _ z1 (nL_row hd (by omega) (by omega) _), fun j hj => by rw [z2 j hj]; exact congrArg some (hp _ (by omega) (by omega)).symm⟩
  · exact hrow k 5 _ (by omega) (by omega) (h5 k hk)
  · by_cases q : b = B
    · subst q
      exact ⟨f, by rw [hpS]; exact hfr _ _ hv (nL_row hd (by omega) (by omega) _), hf⟩
    · exact hrow (16 + b) 6 _ (by omega) (by omega) (h6 b (by omega))
  · exact hrow (32 + 64 * s + c) 8 _ (by omega) (by omega) (h7 s c hs hc)
  · have cs : ∀ i, wv S (B + 1) i → i = 16 + B ∨ (i ≠ 16 + B ∧ i ≠ 166 ∧ wv S B i) := fun i hi => by
      unfold wv at hi ⊢
      omega
    rcases cs i hi with a | ⟨a1, a2, a3⟩ <;> rcases cs j hj with b | ⟨b1, b2, b3⟩
    · omega
    · rw [a, hpS, hp j b1 b2] at hij
      exact absurd hij.symm (hnew j b3)
    · rw [b, hpS, hp i a1 a2] at hij
      exact absurd hij (hnew i a3)
    · rw [hp i a1 a2, hp j b1 b2] at hij
      exact h8 i j a3 b3 hij
  · rw [hp 160 (by omega) (by omega), hp 161 (by omega) (by omega)]; exact h9
  · rw [hp 163 (by omega) (by omega), hp 164 (by omega) (by omega)]; exact h10
end WAd
