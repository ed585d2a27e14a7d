/-! ArrayList and its iterator, of int rows -/
def fE (c : Nat) (el : Nat → Nat) : Nat → Option Nat := fun i => if i < c then some (el i) else none
def LsA (G : fG) (ω : fW) (a : Nat) (mc : Int32) (c n e : Nat) (el : Nat → Nat) : Prop :=
  ω a = some (.inr (3, [.int mc, .ref e, .int (nI c)])) ∧ ((c = 0 ∧ n = 0 ∧ e = G.1.2.2.2.2.2 100) ∨ (0 < n ∧ ω e = some (.inl (G.1.2.1 5, n, .inr (.inr (.inr (.inr (fE c el)))))))) ∧ c ≤ n ∧ n ≤ 100
theorem LsA.arr {G : fG} {ω : fW} {a c n e : Nat} {mc : Int32} {el : Nat → Nat} (h : LsA G ω a mc c n e el) (hc : 0 < n) : ω e = some (.inl (G.1.2.1 5, n, .inr (.inr (.inr (.inr (fE c el)))))) := by
  rcases h.2.1 with ⟨_, h1, _⟩ | h
  · omega
  · exact h.2
theorem LsA.fr {G : fG} {ω ω' : fW} {a c n e : Nat} {mc : Int32} {el : Nat → Nat} (h : LsA G ω a mc c n e el) (ha : ω' a = ω a) (he : ω e ≠ none → ω' e = ω e) : LsA G ω' a mc c n e el :=
  ⟨by rw [ha]; exact h.1, h.2.1.imp id (fun h1 => ⟨h1.1, by rw [he (by rw [h1.2]; exact fun z => by cases z)]; exact h1.2⟩), h.2.2⟩
theorem LsA.le {G : fG} {ω ω' : fW} {a c n e : Nat} {mc : Int32} {el : Nat → Nat} (hl : fle ω ω') (h : LsA G ω a mc c n e el) : LsA G ω' a mc c n e el :=
  ⟨hl _ _ h.1, h.2.1.imp id (fun h1 => ⟨h1.1, hl _ _ h1.2⟩), h.2.2⟩
section FL
variable {G : fG} {l : Launch} {o : Option zS} {ω : fW} {kb a c n e : Nat} {mc : Int32} {el : Nat → Nat}
theorem s_size {K : Int32 → Option zS → fW → Prop} (h : LsA G ω a mc c n e el) (H : K (nI c) o ω) : FC G l M_Jx4a65c_size_8abf5 kb [.ref a] (o, ω) (fQi K) := b_Jx4a65c_size_8abf5 ⟨_, _, h.1, rfl, H⟩
theorem s_isEmpty {K : Int32 → Option zS → fW → Prop} (h : LsA G ω a mc c n e el) (H0 : c = 0 → K 1 o ω) (H1 : 0 < c → K 0 o ω) : FC G l M_Jx4a65c_isEmpty_aae02 kb [.ref a] (o, ω) (fQi K) :=
  b_Jx4a65c_isEmpty_aae02 ⟨_, _, h.1, rfl, fun q => H1 (by
    rcases Nat.eq_zero_or_pos c with h0 | h0
    · subst h0; exact absurd rfl q
    · exact h0), fun q => H0 (by
    have hc : c < 2 ^ 31 := by have := h.2.2; omega
    rcases Nat.eq_zero_or_pos c with h0 | h0
    · exact h0
    · exact absurd q (nI_ne0 h0 hc))⟩
theorem s_check3 {K : Int32 → Option zS → fW → Prop} {i c : Nat} {u : Value} (hu : u = .null ∨ ∃ t : Nat, u = .ref t) (hi : i < c) (hc : c < 2 ^ 31) (H : K (nI i) o ω) : FC G l M_J3_checkIndex_8e157 kb [.int (nI i), .int (nI c), u] (o, ω) (fQi K) := by
  refine b_J3_checkIndex_8e157 hu ?_
  have h1 := nI_pos (n := i) (by omega)
  have h2 := nI_lt hi hc
  first
    | exact ⟨fun q => absurd q h1, fun _ => ⟨fun q => absurd h2 (by simpa using q), fun _ => H⟩⟩
    | exact ⟨fun q => absurd q h1, fun _ => ⟨fun _ => H, fun q => absurd h2 q⟩⟩
theorem s_get {K : Nat → Option zS → fW → Prop} {i : Nat} (h : LsA G ω a mc c n e el) (hi : i < c) (H : K (el i) o ω) : FC G l M_Jx4a65c_get_915e3 kb [.ref a, .int (nI i)] (o, ω) (fQr K) := by
  have h1 := h.arr (by have := h.2.2; omega)
  have hn := h.2.2
  refine b_Jx4a65c_get_915e3 ⟨_, _, h.1, rfl, Nat.zero_le _, b_J15_checkIndex_7cf53 ⟨Nat.zero_le _, s_check3 (Or.inl rfl) hi (by omega) ⟨Nat.zero_le _, _, h.1, ?_⟩⟩⟩
  refine b_Jx4a65c_elementData_915e3 ⟨_, _, h.1, rfl, n, _, el i, h1, nI_in (by omega) (by omega), ?_, H⟩
  rw [nI_clamp (by omega)]
  exact if_pos hi
theorem s_newLength {K : Int32 → Option zS → fW → Prop} {x y z : Nat} (h0 : 0 < x + max y z) (h1 : x + max y z ≤ 40000) (H : K (nI (x + max y z)) o ω) : FC G l M_J8_newLength_cabcc kb [.int (nI x), .int (nI y), .int (nI z)] (o, ω) (fQi K) := by
  have e : nI x + zmax (nI y) (nI z) = nI (x + max y z) := by
    unfold zmax
    by_cases q : y < z
    · rw [if_pos (nI_lt q (by omega)), nI_add, Nat.max_eq_right (by omega)]
    · rw [if_neg (nI_nlt (by omega) (by omega)), nI_add, Nat.max_eq_left (by omega)]
  refine b_J8_newLength_cabcc ?_
  rw [e]
  exact ⟨fun q => absurd q (nI_nle h0 (by omega)), fun _ => ⟨fun q => absurd q (nI_nlt (a := 2147483639) (b := x + max y z) (by omega) (by decide)), fun _ => H⟩⟩
/-- the row behind a list grows -/
theorem s_copyOf {K : Nat → Option zS → fW → Prop} {n m : Nat} {e : Nat} {f : Nat → Option Nat} (h1 : ω e = some (.inl (G.1.2.1 5, n, .inr (.inr (.inr (.inr f)))))) (hnm : n ≤ m) (hm : m ≤ 36) (hkb : 3 ≤ kb) (hel : ∀ i, i < n → ∀ y, f i = some y → ∃ x, ω y = some (.inl (G.1.2.1 0, x)))
    (H : ∀ q : Nat, ω q = none → K q o (fup ω q (.inl (G.1.2.1 5, m, .inr (.inr (.inr (.inr (fun i => if i < n then f i else none)))))))) : FC G l M_J7_copyOf_1904c kb [.ref e, .int (nI m)] (o, ω) (fQr K) := by
  refine b_J7_copyOf_1904c ⟨n, f, h1, hkb, b_J7_copyOf_6403c ⟨fun q => absurd rfl q, fun _ => ⟨m, 3, rfl, by omega, by omega, by omega, Nat.le_refl 3, fun q ω3 hq e3 => ?_⟩⟩⟩
  subst e3
  have hl : fle ω (fup ω q (.inl (G.1.2.1 5, m, .inr (.inr (.inr (.inr (fun _ => none))))))) := fle.up hq
  have emin : zmin (nI n) (nI m) = nI n := by
    unfold zmin
    rw [if_neg (nI_nlt hnm (by omega))]
  refine ⟨n, Or.inr ⟨f, hl _ _ h1⟩, n, m, f, (fun _ => none), hl _ _ h1, fup_at _ _ _, ?_, ?_, ?_⟩
  · rw [emin, nI_clamp (by omega)]
    exact ⟨by decide, by decide, nI_pos (by omega), by show 0 + n ≤ n; omega, by show 0 + n ≤ m; omega⟩
  · rw [emin, nI_clamp (by omega)]
    intro i hi y hy
    have hy : f (0 + i) = some y := hy
    rw [Nat.zero_add] at hy
    obtain ⟨x, hx⟩ := hel i hi y hy
    exact ⟨x, hl _ _ hx⟩
  · intro ω13 e13
    subst e13
    have e4 : fup (fup ω q (.inl (G.1.2.1 5, m, .inr (.inr (.inr (.inr (fun _ => none))))))) q (.inl (G.1.2.1 5, m, .inr (.inr (.inr (.inr (va_cpy f (fun _ => none) (Int32.toNatClampNeg 0) (Int32.toNatClampNeg 0) (Int32.toNatClampNeg (zmin (nI n) (nI m))))))))) = fup ω q (.inl (G.1.2.1 5, m, .inr (.inr (.inr (.inr (va_cpy f (fun _ => none) (Int32.toNatClampNeg 0) (Int32.toNatClampNeg 0) (Int32.toNatClampNeg (zmin (nI n) (nI m))))))))) := by
      funext x
      by_cases hx : x = q
      · subst hx; rw [fup_at, fup_at]
      · rw [fup_ne hx, fup_ne hx, fup_ne hx]
    have eg : va_cpy f (fun _ => none) (Int32.toNatClampNeg 0) (Int32.toNatClampNeg 0) (Int32.toNatClampNeg (zmin (nI n) (nI m))) = fun i => if i < n then f i else none := by
      rw [emin, nI_clamp (by omega)]
      funext i
      show va_cpy f (fun _ => none) 0 0 n i = _
      by_cases hi : i < n
      · rw [if_pos hi, pk_cpy_in (by omega) (by omega)]
        congr 1
        omega
      · rw [if_neg hi, pk_cpy_out (by omega)]
    rw [e4, eg]
    exact H q hq
theorem fE_self (c : Nat) (el : Nat → Nat) : (fun i => if i < c then fE c el i else none) = fE c el := by
  funext i
  unfold fE
  by_cases h : i < c
  · rw [if_pos h]
  · rw [if_neg h, if_neg h]
theorem fE_up (c : Nat) (el : Nat → Nat) (v : Nat) : va_up (fE c el) c (some v) = fE (c + 1) (fun i => if i = c then v else el i) := by
  funext i
  unfold va_up fE
  by_cases h : i = c
  · subst h; simp
  · simp only [h, if_false]
    by_cases h2 : i < c
    · rw [if_pos h2, if_pos (by omega)]
    · rw [if_neg h2, if_neg (by omega)]
theorem s_grow {K : Nat → Option zS → fW → Prop} (h : LsA G ω a mc c c e el) (hc : c ≤ 20) (hkb : 3 ≤ kb) (hel : ∀ i, i < c → ∃ x, ω (el i) = some (.inl (G.1.2.1 0, x)))
    (H : ∀ (q n' : Nat) (ω' : fW), c + 1 ≤ n' → n' ≤ 36 → ω q = none → ω' = fup (fup ω q (.inl (G.1.2.1 5, n', .inr (.inr (.inr (.inr (fE c el))))))) a (.inr (3, [.int mc, .ref q, .int (nI c)])) → K q o ω') : FC G l M_Jx4a65c_grow_d5877 kb [.ref a] (o, ω) (fQr K) := by
  refine b_Jx4a65c_grow_d5877 ⟨_, _, h.1, rfl, hkb, _, h.1, ?_⟩
  rw [nI_1]
  have hw : ∀ (q : Nat) (x : va_E), ω q = none → (fup ω q x) a = some (.inr (3, [.int mc, .ref e, .int (nI c)])) := fun q x hq => by
    have hqa : a ≠ q := fun z => by rw [← z, h.1] at hq; cases hq
    rw [fup_ne hqa]; exact h.1
  rcases Nat.eq_zero_or_pos c with h0 | h0
  · subst h0
    have he : e = G.1.2.2.2.2.2 100 := h.2.1.elim (fun q => q.2.2) (fun q => absurd q.1 (Nat.lt_irrefl 0))
    refine b_Jx4a65c_grow_92f84 ⟨_, _, h.1, rfl, 0, Or.inl ⟨he, rfl⟩, fun q => absurd q (by decide), fun _ => ⟨_, _, h.1, rfl, fun _ => ⟨10, 1, by decide, by omega, by omega, by omega, by omega, fun q ω50 hq e50 => ?_⟩, fun hne => absurd he hne⟩⟩
    subst e50
    refine ⟨_, hw q _ hq, by simp, fun ω54 e54 => ?_⟩
    refine H q 10 ω54 (by omega) (by omega) hq ?_
    rw [e54]
    have : fE 0 el = fun _ => none := funext fun i => if_neg (Nat.not_lt_zero i)
    rw [this]
    rfl
  · have h1 := h.arr h0
    refine b_Jx4a65c_grow_92f84 ⟨_, _, h.1, rfl, c, Or.inr ⟨_, h1⟩, fun _ => ⟨Nat.zero_le _, ?_⟩, fun q => absurd (nI_lt h0 (by omega) : nI 0 < nI c) q⟩
    have e1 : nI (c + 1) - nI c = nI 1 := by rw [pk_sub (by omega)]; congr 1; omega
    have e2 : nI c >>> ((1 : Int32) &&& 31) = nI (c / 2) := by
      have k := pk_shrN (n := c) (by omega) ((1 : Int32) &&& 31) 1 (by decide)
      rw [Nat.pow_one] at k
      exact k
    rw [e1, e2]
    refine s_newLength (by omega) (by omega) ⟨_, _, h.1, rfl, Nat.le_refl 3, ?_⟩
    refine s_copyOf (n := c) (m := c + max 1 (c / 2)) h1 (by omega) (by omega) (Nat.le_refl 3) (fun i hi y hy => ?_) (fun q hq => ?_)
    · have hy : (if i < c then some (el i) else none) = some y := hy
      rw [if_pos hi] at hy
      cases hy
      exact hel i hi
    · refine ⟨_, hw q _ hq, by simp, fun ω45 e45 => ?_⟩
      refine H q (c + max 1 (c / 2)) ω45 (by omega) (by omega) hq ?_
      rw [e45, fE_self]
      rfl
theorem s_add {K : Int32 → Option zS → fW → Prop} {v : Nat} {y : vp_A} (h : LsA G ω a mc c n e el) (hc : c ≤ 20) (hn : n ≤ 36) (hkb : 3 ≤ kb) (hv : ω v = some (.inl (G.1.2.1 0, y))) (hel : ∀ i, i < c → ∃ x, ω (el i) = some (.inl (G.1.2.1 0, x)))
    (H : ∀ (mc' : Int32) (n' e' : Nat) (ω' : fW), LsA G ω' a mc' (c + 1) n' e' (fun i => if i = c then v else el i) → n' ≤ 36 → ((e' = e ∧ n' = n ∧ 0 < n) ∨ ω e' = none) → (∀ q cq, ω q = some cq → q ≠ a → (q ≠ e ∨ n = 0) → ω' q = some cq) → K 1 o ω') : FC G l M_Jx4a65c_add_9ea2d kb [.ref a, .ref v] (o, ω) (fQi K) := by
  refine b_Jx4a65c_add_9ea2d ⟨_, _, h.1, rfl, _, h.1, by simp, fun ω4 e4 => ?_⟩
  have hva : v ≠ a := fun z => by rw [z, h.1] at hv; cases hv
  have hea : e ≠ a ∨ n = 0 := by
    rcases h.2.1 with q | q
    · exact Or.inr q.2.1
    · exact Or.inl (fun z => by rw [z, h.1] at q; cases q.2)
  have e4' : ω4 = fup ω a (.inr (3, [.int (mc + 1), .ref e, .int (nI c)])) := e4
  have a4 : ω4 a = some (.inr (3, [.int (mc + 1), .ref e, .int (nI c)])) := by rw [e4']; exact fup_at _ _ _
  have f4 : ∀ q, q ≠ a → ω4 q = ω q := fun q hq => by rw [e4']; exact fup_ne hq
  have L4 : LsA G ω4 a (mc + 1) c n e el := ⟨a4, h.2.1.imp id (fun q => ⟨q.1, by
    rw [f4 e (fun z => by rw [z, h.1] at q; cases q.2)]; exact q.2⟩), h.2.2⟩
  refine ⟨_, _, a4, rfl, _, _, a4, rfl, hkb, _, a4, ?_⟩
  by_cases hcn : c = n
  · -- full
    subst hcn
    have hz : (e = G.1.2.2.2.2.2 100 ∧ c = 0) ∨ ∃ f : Nat → Option Nat, ω4 e = some (.inl (G.1.2.1 5, c, .inr (.inr (.inr (.inr f))))) := L4.2.1.imp (fun q => ⟨q.2.2, q.1⟩) (fun q => ⟨_, q.2⟩)
    refine b_Jx4a65c_add_72be8 ⟨c, hz, fun q => absurd rfl q, fun _ => ⟨Nat.le_refl 3, _, a4, ?_⟩⟩
    refine s_grow L4 hc (Nat.le_refl 3) (fun i hi => ?_) (fun q n' ω' hn1 hn2 hq e' => ?_)
    · obtain ⟨x, hx⟩ := hel i hi
      exact ⟨x, by rw [f4 _ (fun z => by rw [z, h.1] at hx; cases hx)]; exact hx⟩
    · have hqa : q ≠ a := fun z => by rw [z, a4] at hq; cases hq
      have hqv : q ≠ v := fun z => by rw [z, f4 v hva, hv] at hq; cases hq
      have hωq : ω q = none := by rw [← f4 q hqa]; exact hq
      have b1 : ω' q = some (.inl (G.1.2.1 5, n', .inr (.inr (.inr (.inr (fE c el)))))) := by rw [e', fup_ne hqa, fup_at]
      have b2 : ω' v = some (.inl (G.1.2.1 0, y)) := by rw [e', fup_ne hva, fup_ne (fun z => hqv z.symm), f4 v hva]; exact hv
      have b3 : ω' a = some (.inr (3, [.int (mc + 1), .ref q, .int (nI c)])) := by rw [e']; exact fup_at _ _ _
      refine ⟨n', _, y, b1, b2, nI_in (by omega) (by omega), fun ω37 e37 => ?_⟩
      have c1 : ω37 a = some (.inr (3, [.int (mc + 1), .ref q, .int (nI c)])) := by rw [e37, fup_ne (fun z => hqa z.symm)]; exact b3
      refine ⟨_, c1, by simp, fun ω39 e39 => ?_⟩
      rw [nI_1] at e39
      have d1 : ω39 = fup ω37 a (.inr (3, [.int (mc + 1), .ref q, .int (nI (c + 1))])) := e39
      refine H (mc + 1) n' q ω39 ⟨by rw [d1]; exact fup_at _ _ _, Or.inr ⟨by omega, ?_⟩, by omega, by omega⟩ hn2 (Or.inr hωq) (fun x cx hx h1 h2 => ?_)
      · rw [d1, fup_ne hqa, e37, fup_at, nI_clamp (by omega), fE_up]
      · have hxq : x ≠ q := fun z => by rw [z, hωq] at hx; cases hx
        rw [d1, fup_ne h1, e37, fup_ne hxq, e', fup_ne h1, fup_ne hxq, f4 x h1]
        exact hx
  · -- room is there
    have hlt : c < n := by have := h.2.2; omega
    have h1 := L4.arr (by omega)
    have hea' : e ≠ a := hea.resolve_right (by omega)
    refine b_Jx4a65c_add_72be8 ⟨n, Or.inr ⟨_, h1⟩, fun _ => ⟨n, _, y, h1, by rw [f4 v hva]; exact hv, nI_in hlt (by omega), fun ω27 e27 => ?_⟩, fun q => absurd ((nI_eq (by omega) (by omega)).mp q) hcn⟩
    have c1 : ω27 a = some (.inr (3, [.int (mc + 1), .ref e, .int (nI c)])) := by rw [e27, fup_ne (fun z => hea' z.symm)]; exact a4
    refine ⟨_, c1, by simp, fun ω29 e29 => ?_⟩
    rw [nI_1] at e29
    have d1 : ω29 = fup ω27 a (.inr (3, [.int (mc + 1), .ref e, .int (nI (c + 1))])) := e29
    refine H (mc + 1) n e ω29 ⟨by rw [d1]; exact fup_at _ _ _, Or.inr ⟨by omega, ?_⟩, by omega, h.2.2.2⟩ hn (Or.inl ⟨rfl, rfl, by omega⟩) (fun x cx hx h1 h2 => ?_)
    · rw [d1, fup_ne hea', e27, fup_at, nI_clamp (by omega), fE_up]
    · rw [d1, fup_ne h1, e27, fup_ne (h2.resolve_right (by omega)), f4 x h1]
      exact hx
/-- the iterator -/
def ItA (ω : fW) (it a : Nat) (mc : Int32) (cur : Nat) : Prop := ∃ lr : Int32, ω it = some (.inr (2, [.int (nI cur), .int lr, .int mc, .ref a]))
theorem s_iterator {K : Nat → Option zS → fW → Prop} (h : LsA G ω a mc c n e el) (hkb : 1 ≤ kb) (H : ∀ (it : Nat) (x : va_E), ω it = none → ItA (fup ω it x) it a mc 0 → K it o (fup ω it x)) : FC G l M_Jx4a65c_iterator_32c93 kb [.ref a] (o, ω) (fQr K) := by
  refine b_Jx4a65c_iterator_32c93 ⟨hkb, fun q ω2 hq e2 => ⟨Nat.zero_le _, ?_⟩⟩
  have hqa : a ≠ q := fun z => by rw [← z, h.1] at hq; cases hq
  have a2 : ω2 q = some (.inr (2, [.int 0, .int 0, .int 0, .null])) := by rw [e2]; exact fup_at _ _ _
  refine b_Jx35411_init_45d68 ⟨_, a2, by simp, fun ω3 e3 => ?_⟩
  have a3 : ω3 q = some (.inr (2, [.int 0, .int 0, .int 0, .ref a])) := by rw [e3]; exact fup_at _ _ _
  refine ⟨_, a3, by simp, fun ω4 e4 => ?_⟩
  have a4 : ω4 q = some (.inr (2, [.int 0, .int (-1), .int 0, .ref a])) := by rw [e4]; exact fup_at _ _ _
  have b4 : ω4 a = some (.inr (3, [.int mc, .ref e, .int (nI c)])) := by rw [e4, fup_ne hqa, e3, fup_ne hqa, e2, fup_ne hqa]; exact h.1
  refine ⟨_, _, a4, rfl, _, _, b4, rfl, _, a4, by simp, fun ω5 e5 => ?_⟩
  have e6 : ω5 = fup ω q (.inr (2, [.int 0, .int (-1), .int mc, .ref a])) := by
    rw [e5]
    funext x
    by_cases hx : x = q
    · subst hx; rw [fup_at, fup_at]; rfl
    · rw [fup_ne hx, e4, fup_ne hx, e3, fup_ne hx, e2, fup_ne hx, fup_ne hx]
  rw [e6]
  exact H q _ hq ⟨-1, by rw [fup_at]; rfl⟩
theorem s_hasNext {K : Int32 → Option zS → fW → Prop} {it cur : Nat} (h : LsA G ω a mc c n e el) (hi : ItA ω it a mc cur) (hcur : cur ≤ c) (H0 : cur = c → K 0 o ω) (H1 : cur < c → K 1 o ω) : FC G l M_Jx35411_hasNext_aae02 kb [.ref it] (o, ω) (fQi K) := by
  obtain ⟨lr, hi⟩ := hi
  have hb := h.2.2
  refine b_Jx35411_hasNext_aae02 ⟨_, _, hi, rfl, _, _, hi, rfl, _, _, h.1, rfl, fun q => H0 ((nI_eq (by omega) (by omega)).mp q), fun q => H1 ?_⟩
  rcases Nat.lt_or_ge cur c with h1 | h1
  · exact h1
  · exact absurd (by rw [show cur = c by omega]) q
theorem s_next {K : Nat → Option zS → fW → Prop} {it cur : Nat} (h : LsA G ω a mc c n e el) (hi : ItA ω it a mc cur) (hcur : cur < c) (H : ∀ x : va_E, ItA (fup ω it x) it a mc (cur + 1) → K (el cur) o (fup ω it x)) : FC G l M_Jx35411_next_0502b kb [.ref it] (o, ω) (fQr K) := by
  obtain ⟨lr, hi⟩ := hi
  have hb := h.2.2
  have h1 := h.arr (by omega)
  have hea : e ≠ it := fun z => by rw [z, hi] at h1; cases h1
  refine b_Jx35411_next_0502b ⟨Nat.zero_le _, _, hi, b_Jx35411_checkForComodification_da8c8 ⟨_, _, hi, rfl, _, _, h.1, rfl, _, _, hi, rfl, fun _ => ?_, fun q => absurd rfl q⟩⟩
  refine ⟨_, _, hi, rfl, _, _, hi, rfl, _, _, h.1, rfl, fun _ => ⟨_, _, hi, rfl, _, _, h.1, rfl, n, Or.inr ⟨_, h1⟩, fun _ => ⟨_, hi, by simp, fun ω27 e27 => ?_⟩, fun q => absurd (nI_lt (by omega) (by omega)) q⟩, fun q => absurd (nI_lt hcur (by omega)) q⟩
  rw [nI_1] at e27
  have a27 : ω27 it = some (.inr (2, [.int (nI (cur + 1)), .int lr, .int mc, .ref a])) := by rw [e27]; exact fup_at _ _ _
  refine ⟨_, a27, by simp, fun ω29 e29 => ?_⟩
  have e30 : ω29 = fup ω it (.inr (2, [.int (nI (cur + 1)), .int (nI cur), .int mc, .ref a])) := by
    rw [e29]
    funext x
    by_cases hx : x = it
    · subst hx; rw [fup_at, fup_at]; rfl
    · rw [fup_ne hx, e27, fup_ne hx, fup_ne hx]
  rw [e30]
  refine ⟨n, _, el cur, by rw [fup_ne hea]; exact h1, nI_in (by omega) (by omega), ?_, H _ ⟨nI cur, by rw [fup_at]⟩⟩
  rw [nI_clamp (by omega)]
  exact if_pos hcur
theorem s_newList {K : Option zS → fW → Prop} (h : ω a = some (.inr (3, [.int 0, .null, .int 0]))) (H : ∀ ω', ω' = fup ω a (.inr (3, [.int 0, .ref (G.1.2.2.2.2.2 100), .int 0])) → LsA G ω' a 0 0 0 (G.1.2.2.2.2.2 100) el → K o ω') : FC G l M_Jx4a65c_init_da8c8 kb [.ref a] (o, ω) (fQv K) := by
  refine b_Jx4a65c_init_da8c8 ⟨Nat.zero_le _, b_Jxc12de_init_da8c8 ⟨Nat.zero_le _, b_Jxa1e45_init_da8c8 ⟨_, h, by simp, fun ω5 e5 => ?_⟩⟩⟩
  have a5 : ω5 a = some (.inr (3, [.int 0, .null, .int 0])) := by rw [e5]; exact fup_at _ _ _
  refine ⟨_, a5, by simp, fun ω6 e6 => ?_⟩
  have e7 : ω6 = fup ω a (.inr (3, [.int 0, .ref (G.1.2.2.2.2.2 100), .int 0])) := by
    rw [e6]
    funext x
    by_cases hx : x = a
    · subst hx; rw [fup_at, fup_at]; rfl
    · rw [fup_ne hx, e5, fup_ne hx, fup_ne hx]
  exact H ω6 e7 ⟨by rw [e7]; exact fup_at _ _ _, Or.inl ⟨rfl, rfl, rfl⟩, Nat.le_refl 0, by omega⟩
end FL
