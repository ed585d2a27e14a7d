section ASw
variable {G : fG} {l : Launch} {K : Int32 → Option zS → fW → Prop} {ax : Nat} {m : Nat → Int32} {σ : zS} {ω : fW}
/-- two columns of the faces change places -/
theorem WQ.swap {p : Nat → Nat} {H C S B : Nat} {fa : Nat → Nat → Nat → Int32} (W : WQ G ω ax p H C S B m fa) {c : Nat} (hc : c < 64) {R0 R1 : Nat → Option Nat} (h0 : ω (p 163) = some (.inl (G.1.2.1 4, 64, .inr (.inr (.inr (.inr R0)))))) (h1 : ω (p 164) = some (.inl (G.1.2.1 4, 64, .inr (.inr (.inr (.inr R1)))))) :
    ∃ p' : Nat → Nat, (∀ i, i < 32 → p' i = p i) ∧ WQ G (fup (fup ω (p 163) (.inl (G.1.2.1 4, 64, .inr (.inr (.inr (.inr (va_up R0 c (some (p (96 + c)))))))))) (p 164) (.inl (G.1.2.1 4, 64, .inr (.inr (.inr (.inr (va_up R1 c (some (p (32 + c)))))))))) ax p' H C S B m (fun s c' r => if c' = c then fa (1 - s) c' r else fa s c' r) := by
  obtain ⟨hd, w1, ⟨mc1, mc2, n1, n2, l1, l2, l3, l4, l5⟩, w3, w4, w5, w6, w7, w8, w9, w10, w11, w12⟩ := id W
  have hp0 : ∀ i, i ≠ 32 + c → i ≠ 96 + c → (fun i => if i = 32 + c then p (96 + c) else if i = 96 + c then p (32 + c) else p i) i = p i := fun i a b => (if_neg a).trans (if_neg b)
  have hp1 : (fun i => if i = 32 + c then p (96 + c) else if i = 96 + c then p (32 + c) else p i) (32 + c) = p (96 + c) := if_pos rfl
  have hp2 : (fun i => if i = 32 + c then p (96 + c) else if i = 96 + c then p (32 + c) else p i) (96 + c) = p (32 + c) := (if_neg (by omega)).trans (if_pos rfl)
  refine ⟨fun i => if i = 32 + c then p (96 + c) else if i = 96 + c then p (32 + c) else p i, fun i hi => hp0 i (by omega) (by omega), ?_⟩
  generalize (fun i => if i = 32 + c then p (96 + c) else if i = 96 + c then p (32 + c) else p i) = p' at hp0 hp1 hp2 ⊢
  generalize hω : (fup (fup ω (p 163) (.inl (G.1.2.1 4, 64, .inr (.inr (.inr (.inr (va_up R0 c (some (p (96 + c)))))))))) (p 164) (.inl (G.1.2.1 4, 64, .inr (.inr (.inr (.inr (va_up R1 c (some (p (32 + c)))))))))) = ω'
  have hk : ∀ q e, ω q = some e → (∀ x, e ≠ .inl (G.1.2.1 4, x)) → ω' q = some e := by
    intro q e hq he
    rw [← hω, fup_ne (fun z => by rw [z, h1] at hq; cases hq; exact he _ rfl), fup_ne (fun z => by rw [z, h0] at hq; cases hq; exact he _ rfl)]
    exact hq
  have ne4 : ∀ {t : Nat}, t < 7 → t ≠ 4 → ∀ {x y : vp_A}, (Sum.inl (G.1.2.1 t, x) : va_E) ≠ .inl (G.1.2.1 4, y) := fun {t} ht h4 {x y} z => h4 (hd t 4 ht (by omega) (congrArg (fun q : va_E => match q with | .inl (a, _) => a | .inr _ => G.1.2.1 t) z))
  have harr : ∀ q t x, ω q = some (.inl (G.1.2.1 t, x)) → t < 7 → t ≠ 4 → ω' q = some (.inl (G.1.2.1 t, x)) := fun q t x hq t1 t2 => hk q _ hq (fun y => ne4 t1 t2)
  have hls : ∀ {a c n0 e : Nat} {mc : Int32} {el el' : Nat → Nat}, (∀ i, i < c → el i = el' i) → LsA G ω a mc c n0 e el → LsA G ω' a mc c n0 e el' := fun he l => LsA.el' ⟨hk _ _ l.1 (fun fs e => by cases e), l.2.1.imp id (fun z => ⟨z.1, harr _ _ _ z.2 (by omega) (by omega)⟩), l.2.2⟩ he
  have hrw : ∀ {i N : Nat} {g : Nat → Int32}, i ≠ 32 + c → i ≠ 96 + c → rwI G ω (p i) N g → rwI G ω' (p' i) N g := fun hi hj hr => by
    obtain ⟨f0, z1, z2⟩ := hr
    exact ⟨f0, by rw [hp0 _ hi hj]; exact harr _ _ _ z1 (by omega) (by omega), z2⟩
  have e163 : ω' (p 163) = some (.inl (G.1.2.1 4, 64, .inr (.inr (.inr (.inr (va_up R0 c (some (p (96 + c))))))))) := by rw [← hω, fup_ne w10]; exact fup_at _ _ _
  have e164 : ω' (p 164) = some (.inl (G.1.2.1 4, 64, .inr (.inr (.inr (.inr (va_up R1 c (some (p (32 + c))))))))) := by rw [← hω]; exact fup_at _ _ _
  refine ⟨hd, ?_, ⟨mc1, mc2, n1, n2, ?_, ?_, l3, l4, ?_⟩, ?_, fun s hs => ?_, fun k hk => hrw (by omega) (by omega) (w5 k hk), fun b hb => hrw (by omega) (by omega) (w6 b hb), fun s c' hs hc' => ?_, fun i j hi hj hij => ?_, ?_, ?_, w11, w12⟩
  · rw [hp0 160 (by omega) (by omega), hp0 161 (by omega) (by omega), hp0 162 (by omega) (by omega), hp0 167 (by omega) (by omega)]
    exact hk _ _ w1 (fun x e => by cases e)
  · rw [hp0 160 (by omega) (by omega), hp0 165 (by omega) (by omega)]
    exact hls (fun i hi => (hp0 i (by omega) (by omega)).symm) l1
  · rw [hp0 161 (by omega) (by omega), hp0 166 (by omega) (by omega)]
    exact hls (fun i hi => (hp0 (16 + i) (by omega) (by omega)).symm) l2
  · rw [hp0 165 (by omega) (by omega), hp0 166 (by omega) (by omega)]; exact l5
  · obtain ⟨F, z1, z2⟩ := w3
    exact ⟨F, by rw [hp0 162 (by omega) (by omega)]; exact harr _ _ _ z1 (by omega) (by omega), fun j hj => by rw [z2 j hj]; exact congrArg some (hp0 _ (by omega) (by omega)).symm⟩
  · obtain ⟨F0, y1, y2⟩ := w4 0 (by omega)
    obtain ⟨F1, x1, x2⟩ := w4 1 (by omega)
    rw [h0] at y1
    rw [h1] at x1
    cases y1
    cases x1
    match s, hs with
    | 0, _ =>
      refine ⟨_, by rw [hp0 (163 + 0) (by omega) (by omega)]; exact e163, fun j hj => ?_⟩
      show (if j = c then some (p (96 + c)) else R0 j) = some (p' (32 + 64 * 0 + j))
      by_cases q : j = c
      · rw [if_pos q, q, show 32 + 64 * 0 + c = 32 + c by omega, hp1]
      · rw [if_neg q, y2 j hj, hp0 _ (by omega) (by omega)]
    | 1, _ =>
      refine ⟨_, by rw [hp0 (163 + 1) (by omega) (by omega)]; exact e164, fun j hj => ?_⟩
      show (if j = c then some (p (32 + c)) else R1 j) = some (p' (32 + 64 * 1 + j))
      by_cases q : j = c
      · rw [if_pos q, q, show 32 + 64 * 1 + c = 96 + c by omega, hp2]
      · rw [if_neg q, x2 j hj, hp0 _ (by omega) (by omega)]
  · by_cases q : c' = c
    · subst q
      obtain ⟨f, z1, z2⟩ := w7 (1 - s) c' (by omega) hc
      match s, hs with
      | 0, _ =>
        refine ⟨f, ?_, fun j hj => (z2 j hj).trans (if_pos rfl).symm⟩
        rw [show 32 + 64 * 0 + c' = 32 + c' by omega, hp1, show 96 + c' = 32 + 64 * (1 - 0) + c' by omega]
        exact harr _ _ _ z1 (by omega) (by omega)
      | 1, _ =>
        refine ⟨f, ?_, fun j hj => (z2 j hj).trans (if_pos rfl).symm⟩
        rw [show 32 + 64 * 1 + c' = 96 + c' by omega, hp2, show 32 + c' = 32 + 64 * (1 - 1) + c' by omega]
        exact harr _ _ _ z1 (by omega) (by omega)
    · obtain ⟨f, z1, z2⟩ := hrw (i := 32 + 64 * s + c') (by omega) (by omega) (w7 s c' hs hc')
      exact ⟨f, z1, fun j hj => (z2 j hj).trans (if_neg q).symm⟩
  · have cs : ∀ i, wv S B i → ∃ i', wv S B i' ∧ p' i = p i' ∧ (i' = if i = 32 + c then 96 + c else if i = 96 + c then 32 + c else i) := fun i hi => by
      by_cases a : i = 32 + c
      · exact ⟨96 + c, Or.inr (Or.inr ⟨by omega, by omega⟩), by rw [a]; exact hp1, by rw [if_pos a]⟩
      · by_cases b : i = 96 + c
        · exact ⟨32 + c, Or.inr (Or.inr ⟨by omega, by omega⟩), by rw [b]; exact hp2, by rw [if_neg a, if_pos b]⟩
        · exact ⟨i, hi, hp0 i a b, by rw [if_neg a, if_neg b]⟩
    obtain ⟨i', hi', ei, di⟩ := cs i hi
    obtain ⟨j', hj', ej, dj⟩ := cs j hj
    rw [ei, ej] at hij
    have := w8 i' j' hi' hj' hij
    rw [di, dj] at this
    revert this
    repeat' split
    all_goals intro this
    all_goals omega
  · rw [hp0 160 (by omega) (by omega), hp0 161 (by omega) (by omega)]; exact w9
  · rw [hp0 163 (by omega) (by omega), hp0 164 (by omega) (by omega)]; exact w10
end ASw
