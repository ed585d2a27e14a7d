/-! the world of the law: its numbers lie at the addresses p -/
def dist (G : fG) : Prop := ∀ i j, i < 7 → j < 7 → G.1.2.1 i = G.1.2.1 j → i = j
def wv (S B i : Nat) : Prop := i < S ∨ (16 ≤ i ∧ i < 16 + B) ∨ (32 ≤ i ∧ i < 160)
/-- neither a builder, nor bytes, nor an iterator -/
def wk (G : fG) (c : va_E) : Prop := (∃ i fs, c = .inr (i, fs) ∧ i ≠ 1 ∧ i ≠ 2) ∨ (∃ i x, c = .inl (G.1.2.1 i, x) ∧ i < 7 ∧ i ≠ 1)
def rwI (G : fG) (ω : fW) (a n : Nat) (g : Nat → Int32) : Prop := ∃ f : Nat → Int32, ω a = some (.inl (G.1.2.1 0, n, .inl f)) ∧ ∀ j, j < n → f j = g j
def rwR (G : fG) (ω : fW) (a t n : Nat) (g : Nat → Nat) : Prop := ∃ F : Nat → Option Nat, ω a = some (.inl (G.1.2.1 t, n, .inr (.inr (.inr (.inr F))))) ∧ ∀ j, j < n → F j = some (g j)
def wLs (G : fG) (ω : fW) (p : Nat → Nat) (S B : Nat) : Prop := ∃ (mc1 mc2 : Int32) (n1 n2 : Nat), LsA G ω (p 160) mc1 S n1 (p 165) p ∧ LsA G ω (p 161) mc2 B n2 (p 166) (fun b => p (16 + b)) ∧ n1 ≤ 36 ∧ n2 ≤ 36 ∧ (n1 = 0 ∨ n2 = 0 ∨ p 165 ≠ p 166)
def WQ (G : fG) (ω : fW) (ax : Nat) (p : Nat → Nat) (H C S B : Nat) (m : Nat → Int32) (fa : Nat → Nat → Nat → Int32) : Prop :=
  dist G ∧ ω ax = some (.inr (11, [.int (nI H), .int (nI C), .ref (p 160), .ref (p 161), .ref (p 162), .ref (p 167)])) ∧ wLs G ω p S B ∧ rwR G ω (p 162) 6 2 (fun s => p (163 + s)) ∧ (∀ s, s < 2 → rwR G ω (p (163 + s)) 4 64 (fun c => p (32 + 64 * s + c))) ∧
  (∀ k, k < S → rwI G ω (p k) 5 (fun j => m (4 + 5 * k + j))) ∧ (∀ b, b < B → rwI G ω (p (16 + b)) 6 (fun j => m (54 + 6 * b + j))) ∧ (∀ s c, s < 2 → c < 64 → rwI G ω (p (32 + 64 * s + c)) 8 (fa s c)) ∧
  (∀ i j, wv S B i → wv S B j → p i = p j → i = j) ∧ p 160 ≠ p 161 ∧ p 163 ≠ p 164 ∧ S ≤ 10 ∧ B ≤ 16
section WQs
variable {G : fG} {ω ω' : fW} {ax : Nat} {p : Nat → Nat} {H C S B : Nat} {m : Nat → Int32} {fa : Nat → Nat → Nat → Int32}
theorem WQ.ne0 (h : WQ G ω ax p H C S B m fa) {t : Nat} (ht : t < 7) (h0 : t ≠ 0) {x y : vp_A} : (Sum.inl (G.1.2.1 t, x) : va_E) ≠ .inl (G.1.2.1 0, y) := fun z => h0 (h.1 t 0 ht (by omega) (congrArg (fun q : va_E => match q with | .inl (a, _) => a | .inr _ => G.1.2.1 t) z))
/-- what keeps the world's cells keeps the world -/
theorem WQ.fr (h : WQ G ω ax p H C S B m fa) (hf : ∀ q c, ω q = some c → wk G c → (∀ y : vp_A, c = .inl (G.1.2.1 0, y) → ∃ i, wv S B i ∧ q = p i) → ω' q = some c) : WQ G ω' ax p H C S B m fa := by
  obtain ⟨hd, h1, ⟨mc1, mc2, n1, n2, l1, l2, l3⟩, h3, h4, h5, h6, h7, h8⟩ := id h
  have hobj : ∀ q i fs, ω q = some (.inr (i, fs)) → i ≠ 1 → i ≠ 2 → ω' q = some (.inr (i, fs)) := fun q i fs hq i1 i2 => hf q _ hq (Or.inl ⟨i, fs, rfl, i1, i2⟩) (fun y e => by cases e)
  have harr : ∀ q t x, ω q = some (.inl (G.1.2.1 t, x)) → t < 7 → t ≠ 0 → t ≠ 1 → ω' q = some (.inl (G.1.2.1 t, x)) := fun q t x hq t1 t2 t3 => hf q _ hq (Or.inr ⟨t, x, rfl, t1, t3⟩) (fun y e => absurd e (h.ne0 t1 t2))
  have hrow : ∀ i x, wv S B i → ω (p i) = some (.inl (G.1.2.1 0, x)) → ω' (p i) = some (.inl (G.1.2.1 0, x)) := fun i x hi hq => hf _ _ hq (Or.inr ⟨0, x, rfl, by omega, by omega⟩) (fun _ _ => ⟨i, hi, rfl⟩)
  have hls : ∀ {a c n e : Nat} {mc : Int32} {el : Nat → Nat}, LsA G ω a mc c n e el → LsA G ω' a mc c n e el := fun l => ⟨hobj _ _ _ l.1 (by omega) (by omega), l.2.1.imp id (fun z => ⟨z.1, harr _ _ _ z.2 (by omega) (by omega) (by omega)⟩), l.2.2⟩
  refine ⟨hd, hobj _ _ _ h1 (by omega) (by omega), ⟨mc1, mc2, n1, n2, hls l1, hls l2, l3⟩, ?_, fun s hs => ?_, fun k hk => ?_, fun b hb => ?_, fun s c hs hc => ?_, h8⟩
  · obtain ⟨F, z1, z2⟩ := h3
    exact ⟨F, harr _ _ _ z1 (by omega) (by omega) (by omega), z2⟩
  · obtain ⟨F, z1, z2⟩ := h4 s hs
    exact ⟨F, harr _ _ _ z1 (by omega) (by omega) (by omega), z2⟩
  · obtain ⟨f, z1, z2⟩ := h5 k hk
    exact ⟨f, hrow _ _ (Or.inl hk) z1, z2⟩
  · obtain ⟨f, z1, z2⟩ := h6 b hb
    exact ⟨f, hrow _ _ (Or.inr (Or.inl ⟨by omega, by omega⟩)) z1, z2⟩
  · obtain ⟨f, z1, z2⟩ := h7 s c hs hc
    exact ⟨f, hrow _ _ (Or.inr (Or.inr ⟨by omega, by omega⟩)) z1, z2⟩
theorem WQ.le (h : WQ G ω ax p H C S B m fa) (hl : fle ω ω') : WQ G ω' ax p H C S B m fa := h.fr (fun q c hq _ _ => hl q c hq)
theorem WQ.row (h : WQ G ω ax p H C S B m fa) {i : Nat} (hi : wv S B i) : ∃ x : vp_A, ω (p i) = some (.inl (G.1.2.1 0, x)) := by
  obtain ⟨hd, h1, _, h3, h4, h5, h6, h7, h8⟩ := h
  rcases hi with hi | hi | hi
  · obtain ⟨f, z, _⟩ := h5 i hi; exact ⟨_, z⟩
  · obtain ⟨f, z, _⟩ := h6 (i - 16) (by omega)
    rw [show 16 + (i - 16) = i by omega] at z
    exact ⟨_, z⟩
  · by_cases q : i < 96
    · obtain ⟨f, z, _⟩ := h7 0 (i - 32) (by omega) (by omega)
      rw [show 32 + 64 * 0 + (i - 32) = i by omega] at z
      exact ⟨_, z⟩
    · obtain ⟨f, z, _⟩ := h7 1 (i - 96) (by omega) (by omega)
      rw [show 32 + 64 * 1 + (i - 96) = i by omega] at z
      exact ⟨_, z⟩
theorem WQ.new (h : WQ G ω ax p H C S B m fa) {a : Nat} (ha : ω a = none) : ∀ i, wv S B i → p i ≠ a := fun i hi z => by
  obtain ⟨x, hx⟩ := h.row hi
  rw [z, ha] at hx
  cases hx
/-- a row of ints that is not the world's is written -/
theorem WQ.off (h : WQ G ω ax p H C S B m fa) {a : Nat} {x y : vp_A} (ha : ω a = some (.inl (G.1.2.1 0, x))) (hn : ∀ i, wv S B i → p i ≠ a) : WQ G (fup ω a (.inl (G.1.2.1 0, y))) ax p H C S B m fa := h.fr (fun q c hq _ hz => by
  by_cases e : q = a
  · subst e
    rw [ha] at hq
    cases hq
    obtain ⟨i, hi, e⟩ := hz _ rfl
    exact absurd e.symm (hn i hi)
  · rw [fup_ne e]; exact hq)
/-- an iterator moves -/
theorem WQ.it (h : WQ G ω ax p H C S B m fa) {a : Nat} {fs : List Value} {y : va_E} (ha : ω a = some (.inr (2, fs))) : WQ G (fup ω a y) ax p H C S B m fa := h.fr (fun q c hq hw _ => by
  by_cases e : q = a
  · subst e
    rw [ha] at hq
    cases hq
    rcases hw with ⟨i, fs', e, h1, h2⟩ | ⟨i, x, e, _⟩
    · cases e; exact absurd rfl h2
    · cases e
  · rw [fup_ne e]; exact hq)
/-- a builder is written -/
theorem WQ.sb (h : WQ G ω ax p H C S B m fa) {a v n : Nat} {ts : List Nat} (hs : SbA G ω a v n ts) (hf : ∀ x c, ω x = some c → x ≠ a → x ≠ v → ω' x = some c) : WQ G ω' ax p H C S B m fa := h.fr (fun q c hq hw _ => by
  obtain ⟨⟨ml, h1⟩, ⟨f, h2, -⟩, -⟩ := hs
  refine hf q c hq (fun e => ?_) (fun e => ?_)
  · rw [e, h1] at hq
    cases hq
    rcases hw with ⟨i, fs', e, h1, h2⟩ | ⟨i, x, e, _⟩
    · cases e; exact absurd rfl h1
    · cases e
  · rw [e, h2] at hq
    cases hq
    rcases hw with ⟨i, fs', e, h1, h2⟩ | ⟨i, x, e, h3, h4⟩
    · cases e
    · exact h4 (h.1 i 1 h3 (by omega) (congrArg (fun q : va_E => match q with | .inl (a, _) => a | .inr _ => G.1.2.1 i) e.symm)))
/-- a row of the world is written -/
theorem WQ.wr (h : WQ G ω ax p H C S B m fa) {i n : Nat} {f : Nat → Int32} {x : vp_A} {m' : Nat → Int32} {fa' : Nat → Nat → Nat → Int32} (hi : wv S B i) (ha : ω (p i) = some (.inl (G.1.2.1 0, x)))
    (hS : ∀ k, k < S → (k ≠ i → ∀ j, j < 5 → m' (4 + 5 * k + j) = m (4 + 5 * k + j)) ∧ (k = i → n = 5 ∧ ∀ j, j < 5 → f j = m' (4 + 5 * k + j)))
    (hB : ∀ b, b < B → (16 + b ≠ i → ∀ j, j < 6 → m' (54 + 6 * b + j) = m (54 + 6 * b + j)) ∧ (16 + b = i → n = 6 ∧ ∀ j, j < 6 → f j = m' (54 + 6 * b + j)))
    (hF : ∀ s c, s < 2 → c < 64 → (32 + 64 * s + c ≠ i → ∀ j, j < 8 → fa' s c j = fa s c j) ∧ (32 + 64 * s + c = i → n = 8 ∧ ∀ j, j < 8 → f j = fa' s c j)) : WQ G (fup ω (p i) (.inl (G.1.2.1 0, n, .inl f))) ax p H C S B m' fa' := by
  have hd := h.1
  obtain ⟨-, h1, ⟨mc1, mc2, n1, n2, l1, l2, l3⟩, h3, h4, h5, h6, h7, h8⟩ := id h
  have hobj : ∀ q j fs, ω q = some (.inr (j, fs)) → (fup ω (p i) (.inl (G.1.2.1 0, n, .inl f))) q = some (.inr (j, fs)) := fun q j fs hq => by
    rw [fup_ne (fun z => by rw [z, ha] at hq; cases hq)]; exact hq
  have harr : ∀ q t x, ω q = some (.inl (G.1.2.1 t, x)) → t < 7 → t ≠ 0 → (fup ω (p i) (.inl (G.1.2.1 0, n, .inl f))) q = some (.inl (G.1.2.1 t, x)) := fun q t x hq t1 t2 => by
    rw [fup_ne (fun z => by
      rw [z, ha] at hq
      exact absurd (Option.some.inj hq).symm (h.ne0 t1 t2))]
    exact hq
  have hls : ∀ {a c n0 e : Nat} {mc : Int32} {el : Nat → Nat}, LsA G ω a mc c n0 e el → LsA G (fup ω (p i) (.inl (G.1.2.1 0, n, .inl f))) a mc c n0 e el := fun l => ⟨hobj _ _ _ l.1, l.2.1.imp id (fun z => ⟨z.1, harr _ _ _ z.2 (by omega) (by omega)⟩), l.2.2⟩
  have hrow : ∀ (k N : Nat) (g g' : Nat → Int32), wv S B k → rwI G ω (p k) N g → (k ≠ i → ∀ j, j < N → g' j = g j) → (k = i → n = N ∧ ∀ j, j < N → f j = g' j) → rwI G (fup ω (p i) (.inl (G.1.2.1 0, n, .inl f))) (p k) N g' := fun k N g g' hk hr e1 e2 => by
    by_cases q : k = i
    · subst q
      obtain ⟨rfl, e3⟩ := e2 rfl
      exact ⟨f, fup_at _ _ _, e3⟩
    · obtain ⟨f0, z1, z2⟩ := hr
      exact ⟨f0, by rw [fup_ne (fun z => q (h8.1 k i hk hi z))]; exact z1, fun j hj => (z2 j hj).trans (e1 q j hj).symm⟩
  refine ⟨hd, hobj _ _ _ h1, ⟨mc1, mc2, n1, n2, hls l1, hls l2, l3⟩, ?_, fun s hs => ?_, fun k hk => ?_, fun b hb => ?_, fun s c hs hc => ?_, h8⟩
  · obtain ⟨F, z1, z2⟩ := h3
    exact ⟨F, harr _ _ _ z1 (by omega) (by omega), z2⟩
  · obtain ⟨F, z1, z2⟩ := h4 s hs
    exact ⟨F, harr _ _ _ z1 (by omega) (by omega), z2⟩
  · exact hrow k 5 _ _ (Or.inl hk) (h5 k hk) (hS k hk).1 (hS k hk).2
  · exact hrow (16 + b) 6 _ _ (Or.inr (Or.inl ⟨by omega, by omega⟩)) (h6 b hb) (hB b hb).1 (hB b hb).2
  · exact hrow (32 + 64 * s + c) 8 _ _ (Or.inr (Or.inr ⟨by omega, by omega⟩)) (h7 s c hs hc) (hF s c hs hc).1 (hF s c hs hc).2
end WQs
