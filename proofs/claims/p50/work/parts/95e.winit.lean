/-! the world's beginning; the script's numbers -/
section WIn
variable {G : fG} {l : Launch} {o : Option zS} {ω : fW} {kb ax : Nat} {m : Nat → Int32}
theorem w_init {K : Option zS → fW → Prop} (hd : dist G) (h : ω ax = some (.inr (11, [.int 0, .int 0, .null, .null, .null, .null]))) (hkb : 140 ≤ kb)
    (HK : ∀ (p : Nat → Nat) (ω' : fW), WQ G ω' ax p 4 9 0 0 m (fun _ _ _ => 0) → p 167 = G.1.2.2.2.2.1 6 → (∀ q c, ω q = some c → q ≠ ax → ω' q = some c) → K o ω') : FC G l M_X7_init kb [.ref ax] (o, ω) (fQv K) := by
  refine b_X7_init ⟨_, h, by simp, fun ω2 e2 => ?_⟩
  have a2 : ω2 ax = some (.inr (11, [.int 4, .int 0, .null, .null, .null, .null])) := by rw [e2]; exact fup_at _ _ _
  refine ⟨_, a2, by simp, fun ω4 e4 => ⟨by omega, fun q5 ω6 h5 e6 => ⟨Nat.zero_le _, ?_⟩⟩⟩
  have a4 : ω4 ax = some (.inr (11, [.int 4, .int 9, .null, .null, .null, .null])) := by rw [e4]; exact fup_at _ _ _
  have n5 : ax ≠ q5 := fun z => by rw [← z, a4] at h5; cases h5
  have a6 : ω6 ax = some (.inr (11, [.int 4, .int 9, .null, .null, .null, .null])) := by rw [e6, fup_ne n5]; exact a4
  have b6 : ω6 q5 = some (.inr (3, [.int 0, .null, .int 0])) := by rw [e6]; exact fup_at _ _ _
  refine s_newList (el := fun _ => 0) b6 (fun ω9 e9 L9 => ?_)
  have a9 : ω9 ax = some (.inr (11, [.int 4, .int 9, .null, .null, .null, .null])) := by rw [e9, fup_ne n5]; exact a6
  refine ⟨_, a9, by simp, fun ω11 e11 => ⟨by omega, fun q12 ω13 h12 e13 => ⟨Nat.zero_le _, ?_⟩⟩⟩
  have a11 : ω11 ax = some (.inr (11, [.int 4, .int 9, .ref q5, .null, .null, .null])) := by rw [e11]; exact fup_at _ _ _
  have b11 : ω11 q5 = some (.inr (3, [.int 0, .ref (G.1.2.2.2.2.2 100), .int 0])) := by rw [e11, fup_ne (fun z => n5 z.symm)]; exact L9.1
  have n12 : ax ≠ q12 := fun z => by rw [← z, a11] at h12; cases h12
  have m12 : q5 ≠ q12 := fun z => by rw [← z, b11] at h12; cases h12
  have a13 : ω13 ax = some (.inr (11, [.int 4, .int 9, .ref q5, .null, .null, .null])) := by rw [e13, fup_ne n12]; exact a11
  have b13 : ω13 q12 = some (.inr (3, [.int 0, .null, .int 0])) := by rw [e13]; exact fup_at _ _ _
  refine s_newList (el := fun _ => 0) b13 (fun ω16 e16 L16 => ?_)
  have a16 : ω16 ax = some (.inr (11, [.int 4, .int 9, .ref q5, .null, .null, .null])) := by rw [e16, fup_ne n12]; exact a13
  refine ⟨_, a16, by simp, fun ω18 e18 => ⟨by omega, fun hh ω20 hh20 e20 => ?_⟩⟩
  have a18 : ω18 ax = some (.inr (11, [.int 4, .int 9, .ref q5, .ref q12, .null, .null])) := by rw [e18]; exact fup_at _ _ _
  have b18 : ω18 q5 = some (.inr (3, [.int 0, .ref (G.1.2.2.2.2.2 100), .int 0])) := by rw [e18, fup_ne (fun z => n5 z.symm), e16, fup_ne m12, e13, fup_ne m12]; exact b11
  have c18 : ω18 q12 = some (.inr (3, [.int 0, .ref (G.1.2.2.2.2.2 100), .int 0])) := by rw [e18, fup_ne (fun z => n12 z.symm)]; exact L16.1
  have hl : fle ω18 ω20 := by rw [e20]; exact fwF_le _ _ _
  have nh : ∀ d, d < 131 → hh + d ≠ ax := fun d hd z => by have := hh20 d hd; rw [z, a18] at this; cases this
  refine ⟨_, hl _ _ a18, by simp, fun ω22 e22 => ?_⟩
  have a22 : ω22 ax = some (.inr (11, [.int 4, .int 9, .ref q5, .ref q12, .ref hh, .null])) := by rw [e22]; exact fup_at _ _ _
  refine ⟨_, a22, by simp, fun ω24 e24 => ?_⟩
  have a24 : ω24 ax = some (.inr (11, [.int 4, .int 9, .ref q5, .ref q12, .ref hh, .ref (G.1.2.2.2.2.1 6)])) := by rw [e24]; exact fup_at _ _ _
  have k24 : ∀ q c, ω18 q = some c → q ≠ ax → ω24 q = some c := fun q c hq hn => by rw [e24, fup_ne hn, e22, fup_ne hn]; exact hl _ _ hq
  have g24 : ∀ d, d < 131 → ω24 (hh + d) = some (fcF G hh d) := fun d hd => by rw [e24, fup_ne (nh d hd), e22, fup_ne (nh d hd), e20]; exact fwF_at (hh20 d hd) hd
  refine HK (fun i => if i = 160 then q5 else if i = 161 then q12 else if i = 162 then hh else if i = 163 then hh + 1 else if i = 164 then hh + 66 else if i = 165 ∨ i = 166 then G.1.2.2.2.2.2 100 else if i = 167 then G.1.2.2.2.2.1 6 else if i < 96 then hh + 2 + (i - 32) else hh + 67 + (i - 96)) ω24 ?_ ?_ (fun q c hq hn => ?_)
  · have p0 : (fun i => if i = 160 then q5 else if i = 161 then q12 else if i = 162 then hh else if i = 163 then hh + 1 else if i = 164 then hh + 66 else if i = 165 ∨ i = 166 then G.1.2.2.2.2.2 100 else if i = 167 then G.1.2.2.2.2.1 6 else if i < 96 then hh + 2 + (i - 32) else hh + 67 + (i - 96)) 160 = q5 := if_pos rfl
    have p1 : (fun i => if i = 160 then q5 else if i = 161 then q12 else if i = 162 then hh else if i = 163 then hh + 1 else if i = 164 then hh + 66 else if i = 165 ∨ i = 166 then G.1.2.2.2.2.2 100 else if i = 167 then G.1.2.2.2.2.1 6 else if i < 96 then hh + 2 + (i - 32) else hh + 67 + (i - 96)) 161 = q12 := by simp
    have p2 : (fun i => if i = 160 then q5 else if i = 161 then q12 else if i = 162 then hh else if i = 163 then hh + 1 else if i = 164 then hh + 66 else if i = 165 ∨ i = 166 then G.1.2.2.2.2.2 100 else if i = 167 then G.1.2.2.2.2.1 6 else if i < 96 then hh + 2 + (i - 32) else hh + 67 + (i - 96)) 162 = hh := by simp
    have p3 : (fun i => if i = 160 then q5 else if i = 161 then q12 else if i = 162 then hh else if i = 163 then hh + 1 else if i = 164 then hh + 66 else if i = 165 ∨ i = 166 then G.1.2.2.2.2.2 100 else if i = 167 then G.1.2.2.2.2.1 6 else if i < 96 then hh + 2 + (i - 32) else hh + 67 + (i - 96)) 163 = hh + 1 := by simp
    have p4 : (fun i => if i = 160 then q5 else if i = 161 then q12 else if i = 162 then hh else if i = 163 then hh + 1 else if i = 164 then hh + 66 else if i = 165 ∨ i = 166 then G.1.2.2.2.2.2 100 else if i = 167 then G.1.2.2.2.2.1 6 else if i < 96 then hh + 2 + (i - 32) else hh + 67 + (i - 96)) 164 = hh + 66 := by simp
    have p5 : (fun i => if i = 160 then q5 else if i = 161 then q12 else if i = 162 then hh else if i = 163 then hh + 1 else if i = 164 then hh + 66 else if i = 165 ∨ i = 166 then G.1.2.2.2.2.2 100 else if i = 167 then G.1.2.2.2.2.1 6 else if i < 96 then hh + 2 + (i - 32) else hh + 67 + (i - 96)) 165 = G.1.2.2.2.2.2 100 := by simp
    have p6 : (fun i => if i = 160 then q5 else if i = 161 then q12 else if i = 162 then hh else if i = 163 then hh + 1 else if i = 164 then hh + 66 else if i = 165 ∨ i = 166 then G.1.2.2.2.2.2 100 else if i = 167 then G.1.2.2.2.2.1 6 else if i < 96 then hh + 2 + (i - 32) else hh + 67 + (i - 96)) 166 = G.1.2.2.2.2.2 100 := by simp
    have p7 : (fun i => if i = 160 then q5 else if i = 161 then q12 else if i = 162 then hh else if i = 163 then hh + 1 else if i = 164 then hh + 66 else if i = 165 ∨ i = 166 then G.1.2.2.2.2.2 100 else if i = 167 then G.1.2.2.2.2.1 6 else if i < 96 then hh + 2 + (i - 32) else hh + 67 + (i - 96)) 167 = G.1.2.2.2.2.1 6 := by simp
    have p8 : ∀ s c, s < 2 → c < 64 → (fun i => if i = 160 then q5 else if i = 161 then q12 else if i = 162 then hh else if i = 163 then hh + 1 else if i = 164 then hh + 66 else if i = 165 ∨ i = 166 then G.1.2.2.2.2.2 100 else if i = 167 then G.1.2.2.2.2.1 6 else if i < 96 then hh + 2 + (i - 32) else hh + 67 + (i - 96)) (32 + 64 * s + c) = hh + (2 + 65 * s + c) := fun s c hs hc => by
      simp only
      rw [if_neg (by omega), if_neg (by omega), if_neg (by omega), if_neg (by omega), if_neg (by omega), if_neg (by omega), if_neg (by omega)]
      split <;> omega
    generalize (fun i => if i = 160 then q5 else if i = 161 then q12 else if i = 162 then hh else if i = 163 then hh + 1 else if i = 164 then hh + 66 else if i = 165 ∨ i = 166 then G.1.2.2.2.2.2 100 else if i = 167 then G.1.2.2.2.2.1 6 else if i < 96 then hh + 2 + (i - 32) else hh + 67 + (i - 96)) = p at p0 p1 p2 p3 p4 p5 p6 p7 p8
    have hsp : ∀ s, s < 2 → p (163 + s) = hh + (1 + 65 * s) := fun s hs => by
      match s, hs with
      | 0, _ => exact p3
      | 1, _ => exact p4
    refine ⟨hd, by rw [p0, p1, p2, p7]; exact a24, ⟨0, 0, 0, 0, ?_, ?_, by omega, by omega, Or.inl rfl⟩, ?_, fun s hs => ?_, fun k hk => absurd hk (Nat.not_lt_zero k), fun k hk => absurd hk (Nat.not_lt_zero k), fun s c hs hc => ?_, fun i j hi hj hij => ?_, by rw [p0, p1]; exact m12, by rw [p3, p4]; omega, by omega, by omega⟩
    · rw [p0, p5]
      exact ⟨k24 _ _ b18 (fun z => n5 z.symm), Or.inl ⟨rfl, rfl, rfl⟩, Nat.le_refl 0, by omega⟩
    · rw [p1, p6]
      exact ⟨k24 _ _ c18 (fun z => n12 z.symm), Or.inl ⟨rfl, rfl, rfl⟩, Nat.le_refl 0, by omega⟩
    · rw [p2]
      refine ⟨_, g24 0 (by omega), fun s hs => ?_⟩
      show _ = some (p (163 + s))
      rw [hsp s hs]
      exact (if_pos hs).trans (by congr 1; omega)
    · rw [hsp s hs]
      have e := g24 (1 + 65 * s) (by omega)
      unfold fcF at e
      rw [if_neg (by omega), if_pos (by omega)] at e
      refine ⟨_, e, fun c hc => ?_⟩
      show _ = some (p (32 + 64 * s + c))
      rw [p8 s c hs hc]
      exact (if_pos hc).trans (by congr 1; omega)
    · rw [p8 s c hs hc]
      have e := g24 (2 + 65 * s + c) (by omega)
      unfold fcF at e
      rw [if_neg (by omega), if_neg (by omega)] at e
      exact ⟨_, e, fun _ _ => rfl⟩
    · have hi' : 32 ≤ i ∧ i < 160 := by unfold wv at hi; omega
      have hj' : 32 ≤ j ∧ j < 160 := by unfold wv at hj; omega
      have q : ∀ i, 32 ≤ i ∧ i < 160 → p i = hh + (2 + 65 * ((i - 32) / 64) + (i - 32) % 64) := fun i hi => by
        rw [← p8 _ _ (by omega) (by omega)]
        congr 1
        omega
      rw [q i hi', q j hj'] at hij
      omega
  · simp
  · have h1 : q ≠ q5 := fun z => by rw [e4, fup_ne (fun y => n5 y.symm), e2, fup_ne (fun y => n5 y.symm), ← z, hq] at h5; cases h5
    have h11 : ω11 q = some c := by rw [e11, fup_ne hn, e9, fup_ne h1, e6, fup_ne h1, e4, fup_ne hn, e2, fup_ne hn]; exact hq
    have h2 : q ≠ q12 := fun z => by rw [z, h12] at h11; cases h11
    exact k24 _ _ (by rw [e18, fup_ne hn, e16, fup_ne h2, e13, fup_ne h2]; exact h11) hn
def ck (G : fG) (k : Nat) : Int32 := if nI G.2.2.1 ≤ nI k then 1664525 * nI k + 40409 else G.2.2.2 k
def pkN (G : fG) (k n : Nat) : Nat := (ck G k).toBitVec.toNat % 2 ^ 31 % n
theorem pkN_lt (k : Nat) {n : Nat} (hn : 0 < n) : pkN G k n < n := Nat.mod_lt _ hn
theorem s_pick {K : Int32 → Option zS → fW → Prop} (hL : G.2.2.1 < 2 ^ 31) {k n : Nat} (hk : k < 2 ^ 31) (hn : 0 < n) (hn2 : n < 2 ^ 31) (H : K (nI (pkN G k n)) o ω) : FC G l M_L_pick kb [.ref G.2.1, .int (nI k), .int (nI n)] (o, ω) (fQi K) := by
  have fin : ∀ v : Int32, v = ck G k → (¬ nI n = 0 ∧ K ((v &&& 2147483647) - (v &&& 2147483647) / nI n * nI n) o ω) := fun v e => by
    refine ⟨nI_ne0 hn hn2, ?_⟩
    rw [e, pk_and (ck G k) 31 (by decide), pk_rem (Nat.mod_lt _ (by decide)) hn hn2]
    exact H
  refine b_L_pick ⟨Nat.zero_le _, b_L_cell ⟨fun q => fin _ (if_pos q).symm, fun q => ⟨nI_in ?_ hL, fin _ ?_⟩⟩⟩
  · exact Nat.lt_of_not_le (fun z => q (nI_le z hk))
  · rw [nI_clamp hk]; exact (if_neg q).symm
end WIn
