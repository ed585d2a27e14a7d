/-! strings and the builder of strings -/
def fB (ts : List Nat) : Nat → Int32 := fun j => nI (ts.getD j 0)
def tT (G : fG) (ω : fW) (a : Nat) (ts : List Nat) : Prop := ∃ (va : Nat) (f : Nat → Int32), tA G ω a va ts.length f ∧ (∀ j, j < ts.length → f j = fB ts j) ∧ (∀ c ∈ ts, c < 128)
theorem tT.le {G : fG} {ω ω' : fW} {a : Nat} {ts : List Nat} (hl : fle ω ω') (h : tT G ω a ts) : tT G ω' a ts := by
  obtain ⟨va, f, h1, h2⟩ := h
  exact ⟨va, f, h1.le hl, h2⟩
theorem fits_c : ∀ c : Nat, c < 128 → fits .byte (.int (nI c)) = true := by decide +kernel
theorem nar_c : ∀ c : Nat, c < 128 → vp_nar .byte (nI c) = nI c := by decide +kernel
theorem fB_c {ts : List Nat} (h : ∀ c ∈ ts, c < 128) (j : Nat) : ts.getD j 0 < 128 := by
  by_cases hj : j < ts.length
  · rw [List.getD_eq_getElem?_getD, List.getElem?_eq_getElem hj]
    exact h _ (List.getElem_mem hj)
  · rw [List.getD_eq_getElem?_getD, List.getElem?_eq_none (by omega)]
    show (0 : Nat) < 128
    omega
theorem sh0 (n : Nat) (h : n < 2 ^ 31) : nI n >>> ((0 : Int32) &&& 31) = nI n := by
  have k := pk_shrN (n := n) h ((0 : Int32) &&& 31) 0 (by decide)
  rwa [Nat.pow_zero, Nat.div_one] at k
theorem sl0 (n : Nat) (h : n < 2 ^ 31) : nI n <<< ((0 : Int32) &&& 31) = nI n := by
  have k := pk_shlN (n := n) ((0 : Int32) &&& 31) 0 (by decide) (by omega)
  rwa [Nat.pow_zero, Nat.mul_one] at k
/-- a builder holding the text ts in m bytes at v -/
def SbA (G : fG) (ω : fW) (a v m : Nat) (ts : List Nat) : Prop :=
  (∃ ml : Int32, ω a = some (.inr (1, [.ref v, .int 0, .int ml, .int (nI ts.length)]))) ∧ (∃ f : Nat → Int32, ω v = some (.inl (G.1.2.1 1, m, .inl f)) ∧ (∀ j, j < ts.length → f j = fB ts j) ∧ (∀ j, j < m → fits .byte (.int (f j)) = true)) ∧ ts.length ≤ m ∧ m ≤ 600
theorem SbA.ob {G : fG} {ω : fW} {a v m : Nat} {ts : List Nat} (h : SbA G ω a v m ts) : ∃ fs : List Value, ω a = some (.inr (1, fs)) := h.1.elim fun _ z => ⟨_, z⟩
section FTx
variable {G : fG} {l : Launch} {o : Option zS} {ω : fW} {kb a : Nat} {ts : List Nat}
theorem s_coder {K : Int32 → Option zS → fW → Prop} {va n : Nat} {f : Nat → Int32} (h : tA G ω a va n f) (H : K 0 o ω) : FC G l M_J0_coder_7d493 kb [.ref a] (o, ω) (fQi K) := b_J0_coder_7d493 ⟨_, _, _, h, H⟩
theorem s_latin {K : Int32 → Option zS → fW → Prop} {va n : Nat} {f : Nat → Int32} (h : tA G ω a va n f) (H : K 1 o ω) : FC G l M_J0_isLatin1_aae02 kb [.ref a] (o, ω) (fQi K) := b_J0_isLatin1_aae02 ⟨_, _, _, h, H⟩
theorem s_tlen {K : Int32 → Option zS → fW → Prop} {va n : Nat} {f : Nat → Int32} (h : tA G ω a va n f) (hn : n < 2 ^ 31) (H : K (nI n) o ω) : FC G l M_J0_length_8abf5 kb [.ref a] (o, ω) (fQi K) := by
  refine b_J0_length_8abf5 ⟨_, _, _, h, _, _, _, h, Nat.zero_le _, _, _, _, h, s_coder h ?_⟩
  rw [sh0 n hn]
  exact H
theorem s_tempty {K : Int32 → Option zS → fW → Prop} {va n : Nat} {f : Nat → Int32} (h : tA G ω a va n f) (hn : n < 2 ^ 31) (H0 : n = 0 → K 1 o ω) (H1 : 0 < n → K 0 o ω) : FC G l M_J0_isEmpty_aae02 kb [.ref a] (o, ω) (fQi K) := by
  refine b_J0_isEmpty_aae02 ⟨_, _, _, h, _, _, _, h, fun q => H1 ?_, fun q => H0 ?_⟩
  · rcases Nat.eq_zero_or_pos n with h0 | h0
    · subst h0; exact absurd rfl q
    · exact h0
  · rcases Nat.eq_zero_or_pos n with h0 | h0
    · exact h0
    · exact absurd q (nI_ne0 h0 hn)
theorem zc_c : ∀ c : Nat, c < 128 → zi2c ((nI c) &&& 255) = nI c ∧ narrow .char (.int (nI c)) = .int (nI c) := by decide +kernel
theorem s_charAt {K : Int32 → Option zS → fW → Prop} {i : Nat} (h : tT G ω a ts) (hi : i < ts.length) (hn : ts.length < 2 ^ 31) (H : K (fB ts i) o ω) : FC G l M_J0_charAt_5068e kb [.ref a, .int (nI i)] (o, ω) (fQi K) := by
  obtain ⟨va, f, h1, h2, h3⟩ := h
  refine b_J0_charAt_5068e ⟨Nat.zero_le _, _, _, _, h1, s_latin h1 ⟨fun q => absurd q (by decide), fun _ => ⟨_, _, _, h1, Nat.zero_le _, ?_⟩⟩⟩
  refine b_J1_charAt_3b067 ⟨_, _, _, h1, Nat.zero_le _, b_J0_checkIndex_df160 (fun u hu => ⟨Nat.zero_le _, s_check3 hu hi hn ?_⟩)⟩
  have e : zi2c ((f (Int32.toNatClampNeg (nI i))) &&& 255) = fB ts i ∧ narrow .char (.int (fB ts i)) = .int (fB ts i) := by
    rw [nI_clamp (by omega), h2 i hi]
    exact zc_c _ (fB_c h3 i)
  refine ⟨_, _, _, h1, nI_in hi hn, ?_⟩
  rw [e.1]
  exact ⟨e.2, e.2, H⟩
theorem s_sbinit {K : Option zS → fW → Prop} {q : Nat} (h : ω q = some (.inr (1, [.null, .int 0, .int 0, .int 0]))) (hkb : 2 ≤ kb) (H : ∀ (v : Nat) (ω' : fW), ω v = none → SbA G ω' q v 16 [] → (∀ x c, ω x = some c → x ≠ q → ω' x = some c) → K o ω') : FC G l M_J4_init_da8c8 kb [.ref q] (o, ω) (fQv K) := by
  refine b_J4_init_da8c8 ⟨hkb, b_J5_init_d00df ⟨16, 2, rfl, by omega, by omega, by omega, Nat.le_refl 2, fun v ω3 hv e3 => ?_⟩⟩
  have hqv : q ≠ v := fun z => by rw [← z, h] at hv; cases hv
  have a3 : ω3 q = some (.inr (1, [.null, .int 0, .int 0, .int 0])) := by rw [e3, fup_ne hqv]; exact h
  refine ⟨_, a3, by simp, fun ω7 e7 => ?_⟩
  have a7 : ω7 q = some (.inr (1, [.ref v, .int 0, .int 0, .int 0])) := by rw [e7]; exact fup_at _ _ _
  refine ⟨_, a7, by simp, fun ω9 e9 => H v ω9 hv ⟨⟨0, by rw [e9]; exact fup_at _ _ _⟩, ⟨fun _ => 0, ?_, fun j hj => absurd hj (Nat.not_lt_zero j), fun _ _ => rfl⟩, by simp, by omega⟩ (fun x c hx hxq => ?_)⟩
  · rw [e9, fup_ne (fun z => hqv z.symm), e7, fup_ne (fun z => hqv z.symm), e3, fup_at]
  · have hxv : x ≠ v := fun z => by rw [z, hv] at hx; cases hx
    rw [e9, fup_ne hxq, e7, fup_ne hxq, e3, fup_ne hxv]
    exact hx
theorem s_sblen {K : Int32 → Option zS → fW → Prop} {v m : Nat} (h : SbA G ω a v m ts) (H : K (nI ts.length) o ω) : FC G l M_J4_length_8abf5 kb [.ref a] (o, ω) (fQi K) := by
  obtain ⟨⟨ml, h1⟩, -⟩ := h
  exact b_J4_length_8abf5 ⟨Nat.zero_le _, _, h1, b_J5_length_8abf5 ⟨_, _, h1, rfl, H⟩⟩
theorem s_newcap {K : Int32 → Option zS → fW → Prop} {v m q : Nat} (h : SbA G ω a v m ts) (hq : m < q) (hq2 : q ≤ 20000) (H : K (nI (m + max (q - m) (m + 2))) o ω) : FC G l M_J5_newCapacity_0f7a4 kb [.ref a, .int (nI q)] (o, ω) (fQi K) := by
  obtain ⟨⟨ml, h1⟩, ⟨f, h2, -⟩, h3, h4⟩ := h
  refine b_J5_newCapacity_0f7a4 ⟨_, _, h1, rfl, _, h2, _, _, h1, rfl, _, _, h1, rfl, Nat.zero_le _, ?_⟩
  have e2 : (2 : Int32) <<< ((0 : Int32) &&& 31) = nI 2 := by decide
  rw [sl0 q (by omega), e2]
  show FC G l M_J8_newLength_cabcc 0 [.int (nI m), .int (nI q - nI m), .int (nI m + nI 2)] _ _
  rw [pk_sub (by omega), nI_add]
  refine s_newLength (by omega) (by omega) ⟨fun _ => ⟨_, _, h1, rfl, ?_⟩, fun e => absurd e ?_⟩
  · rw [sh0 _ (by omega)]
    exact H
  · exact fun z => absurd ((nI_eq (a := m + max (q - m) (m + 2)) (b := 2147483647) (by omega) (by decide)).mp z) (by omega)
theorem s_ensure {K : Option zS → fW → Prop} {v m q : Nat} (h : SbA G ω a v m ts) (hq : q ≤ 280) (hkb : 60 ≤ kb) (H : ∀ (v' m' : Nat) (ω' : fW), SbA G ω' a v' m' ts → q ≤ m' → (v' = v ∨ ω v' = none) → (∀ x c, ω x = some c → x ≠ a → ω' x = some c) → K o ω') : FC G l M_J5_ensureCapacityInternal_d00df kb [.ref a, .int (nI q)] (o, ω) (fQv K) := by
  have h0 := h
  obtain ⟨⟨ml, h1⟩, ⟨f, h2, h2b, h2c⟩, h3, h4⟩ := h
  refine b_J5_ensureCapacityInternal_d00df ⟨_, _, h1, rfl, _, h2, _, _, h1, rfl, ?_⟩
  show (nI q - nI m >>> ((0 : Int32) &&& 31) ≤ 0 → _) ∧ (¬ nI q - nI m >>> ((0 : Int32) &&& 31) ≤ 0 → _)
  rw [sh0 m (by omega)]
  have hle : nI q - nI m ≤ 0 ↔ q ≤ m := by
    rw [fa_le, pk_sub_toInt (by omega) (by omega)]
    show _ ≤ (0 : Int) ↔ _
    omega
  refine ⟨fun z => H v m ω h0 (hle.mp z) (Or.inl rfl) (fun _ _ hx _ => hx), fun z => ⟨_, _, h1, rfl, Nat.zero_le _, _, h1, ?_⟩⟩
  have hmq : m < q := Nat.lt_of_not_le (fun y => z (hle.mpr y))
  refine s_newcap h0 hmq (by omega) ⟨_, _, h1, rfl, hkb, ?_⟩
  have hM : m + max (q - m) (m + 2) ≤ 560 := by omega
  have hM2 : q ≤ m + max (q - m) (m + 2) := by omega
  have hM3 : m < m + max (q - m) (m + 2) := by omega
  generalize m + max (q - m) (m + 2) = M at hM hM2 hM3 ⊢
  rw [sl0 M (by omega)]
  have emin : zmin (nI m) (nI M) = nI m := by
    unfold zmin
    rw [if_neg (nI_nlt (by omega) (by omega))]
  refine b_J7_copyOf_9075b ⟨_, h2, fun _ => ⟨M, 60, rfl, by omega, by omega, by omega, Nat.le_refl 60, fun p ω4 hp e4 => ?_⟩, fun z2 => absurd ((nI_eq (by omega) (by omega)).mp z2) (by show M ≠ m; omega)⟩
  have hvp : v ≠ p := fun z => by rw [← z, h2] at hp; cases hp
  have hap : a ≠ p := fun z => by rw [← z, h1] at hp; cases hp
  have b4 : ω4 v = some (.inl (G.1.2.1 1, m, .inl f)) := by rw [e4, fup_ne hvp]; exact h2
  have c4 : ω4 p = some (.inl (G.1.2.1 1, M, .inl (fun _ => 0))) := by rw [e4]; exact fup_at _ _ _
  refine ⟨_, b4, _, _, _, _, b4, c4, ?_, ?_, fun ω8 e8 => ?_⟩
  · show _ ∧ _ ∧ ¬ zmin (nI m) (nI M) < 0 ∧ _ + Int32.toNatClampNeg (zmin (nI m) (nI M)) ≤ m ∧ _ + Int32.toNatClampNeg (zmin (nI m) (nI M)) ≤ M
    rw [emin, nI_clamp (by omega)]
    exact ⟨by decide, by decide, nI_pos (by omega), by show 0 + m ≤ m; omega, by show 0 + m ≤ M; omega⟩
  · show ∀ i, i < Int32.toNatClampNeg (zmin (nI m) (nI M)) → _
    rw [emin, nI_clamp (by omega)]
    intro i hi
    show fits .byte (.int (f (0 + i))) = true
    rw [Nat.zero_add]
    exact h2c i hi
  · replace e8 : ω8 = fup ω4 p (.inl (G.1.2.1 1, M, .inl (va_cpy f (fun _ => 0) (Int32.toNatClampNeg 0) (Int32.toNatClampNeg 0) (Int32.toNatClampNeg (zmin (nI m) (nI M)))))) := e8
    rw [emin, nI_clamp (by omega)] at e8
    have a8 : ω8 a = some (.inr (1, [.ref v, .int 0, .int ml, .int (nI ts.length)])) := by rw [e8, fup_ne hap, e4, fup_ne hap]; exact h1
    refine ⟨_, a8, by simp, fun ω18 e18 => H p M ω18 ⟨⟨ml, by rw [e18]; exact fup_at _ _ _⟩, ⟨va_cpy f (fun _ => 0) 0 0 m, by rw [e18, fup_ne (fun z => hap z.symm), e8]; exact fup_at _ _ _, fun j hj => ?_, fun j hj => ?_⟩, by omega, by omega⟩ hM2 (Or.inr hp) (fun x c hx hxa => ?_)⟩
    · show va_cpy f (fun _ => 0) 0 0 m j = _
      rw [pk_cpy_in (by omega) (by omega), show 0 + (j - 0) = j by omega]
      exact h2b j hj
    · show fits .byte (.int (va_cpy f (fun _ => 0) 0 0 m j)) = true
      by_cases hj2 : j < m
      · rw [pk_cpy_in (by omega) (by omega), show 0 + (j - 0) = j by omega]
        exact h2c j hj2
      · rw [pk_cpy_out (by omega)]
        rfl
    · have hxp : x ≠ p := fun z => by rw [z, hp] at hx; cases hx
      rw [e18, fup_ne hxa, e8, fup_ne hxp, e4, fup_ne hxp]
      exact hx
theorem fB_app {ts us : List Nat} (j : Nat) : fB (ts ++ us) j = if j < ts.length then fB ts j else fB us (j - ts.length) := by
  unfold fB
  by_cases h : j < ts.length
  · rw [if_pos h, List.getD_eq_getElem?_getD, List.getD_eq_getElem?_getD, List.getElem?_append_left h]
  · rw [if_neg h, List.getD_eq_getElem?_getD, List.getD_eq_getElem?_getD, List.getElem?_append_right (by omega)]
/-- a string's bytes go into the builder's, at its end -/
theorem s_put {K : Option zS → fW → Prop} {v m r : Nat} {us : List Nat} (h : SbA G ω a v m ts) (hu : tT G ω r us) (hm : ts.length + us.length ≤ m) (H : ∀ ω' : fW, (∃ ml : Int32, ω' a = some (.inr (1, [.ref v, .int 0, .int ml, .int (nI ts.length)]))) → (∃ f : Nat → Int32, ω' v = some (.inl (G.1.2.1 1, m, .inl f)) ∧ (∀ j, j < (ts ++ us).length → f j = fB (ts ++ us) j) ∧ (∀ j, j < m → fits .byte (.int (f j)) = true)) → (∀ x c, ω x = some c → x ≠ v → ω' x = some c) → K o ω') : FC G l M_J5_putStringAt_47b60 kb [.ref a, .int (nI ts.length), .ref r] (o, ω) (fQv K) := by
  obtain ⟨⟨ml, h1⟩, ⟨f, h2, h2b, h2c⟩, h3, h4⟩ := h
  obtain ⟨va, g, t1, t2, t3⟩ := hu
  have hav : a ≠ v := fun z => by rw [z, h2] at h1; cases h1
  refine b_J5_putStringAt_47b60 ⟨Nat.zero_le _, _, h1, b_J5_inflateIfNeededFor_a7421 ⟨_, _, h1, rfl, Nat.zero_le _, _, _, _, t1, s_coder t1 ⟨fun _ => ⟨_, _, h1, rfl, _, _, h1, rfl, Nat.zero_le _, _, _, _, t1, ?_⟩, fun z => absurd rfl z⟩⟩⟩
  refine b_J0_getBytes_840e7 ⟨Nat.zero_le _, _, _, _, t1, s_coder t1 ⟨fun z => absurd rfl z, fun _ => ⟨_, _, _, t1, _, _, _, t1, _, _, _, t1, _, _, _, _, _, t1, h2, ?_, ?_, fun ω23 e23 => ?_⟩⟩⟩
  · rw [sl0 _ (by omega), nI_clamp (by omega), nI_clamp (by omega)]
    exact ⟨by decide, nI_pos (by omega), nI_pos (by omega), by show 0 + us.length ≤ us.length; omega, hm⟩
  · rw [nI_clamp (by omega)]
    intro i hi
    show fits .byte (.int (g (0 + i))) = true
    rw [Nat.zero_add, t2 i hi]
    exact fits_c _ (fB_c t3 i)
  · rw [sl0 _ (by omega), nI_clamp (by omega), nI_clamp (by omega)] at e23
    replace e23 : ω23 = fup ω v (.inl (G.1.2.1 1, m, .inl (va_cpy g f 0 ts.length us.length))) := e23
    refine H ω23 ⟨ml, by rw [e23, fup_ne hav]; exact h1⟩ ⟨_, by rw [e23]; exact fup_at _ _ _, fun j hj => ?_, fun j hj => ?_⟩ (fun x c hx hxv => by rw [e23, fup_ne hxv]; exact hx)
    · rw [List.length_append] at hj
      rw [fB_app]
      by_cases q : j < ts.length
      · rw [if_pos q, pk_cpy_out (by omega)]
        exact h2b j q
      · rw [if_neg q, pk_cpy_in (by omega) (by omega), Nat.zero_add]
        exact t2 _ (by omega)
    · by_cases q : ts.length ≤ j ∧ j < ts.length + us.length
      · rw [pk_cpy_in q.1 q.2, Nat.zero_add, t2 _ (by omega)]
        exact fits_c _ (fB_c t3 _)
      · rw [pk_cpy_out (by omega)]
        exact h2c j hj
theorem s_app {K : Nat → Option zS → fW → Prop} {v m r : Nat} {us : List Nat} (h : SbA G ω a v m ts) (hu : tT G ω r us) (hm : ts.length + us.length ≤ 280) (hkb : 60 ≤ kb) (H : ∀ (v' m' : Nat) (ω' : fW), SbA G ω' a v' m' (ts ++ us) → (v' = v ∨ ω v' = none) → (∀ x c, ω x = some c → x ≠ a → x ≠ v → ω' x = some c) → K a o ω') : FC G l M_J4_append_15ec4 kb [.ref a, .ref r] (o, ω) (fQr K) := by
  have h0 := h
  obtain ⟨⟨ml, h1⟩, ⟨f, h2, h2b, h2c⟩, h3, h4⟩ := h
  have hu0 := hu
  obtain ⟨va, g, t1, t2, t3⟩ := hu
  refine b_J4_append_15ec4 ⟨hkb, _, h1, b_J5_append_cf1ce ⟨Nat.zero_le _, _, _, _, t1, s_tlen t1 (by omega) ⟨_, _, h1, rfl, Nat.le_refl 60, _, h1, ?_⟩⟩⟩
  rw [nI_add]
  refine s_ensure h0 hm (Nat.le_refl 60) (fun v' m' ω' h' hm' hv' hfr => ?_)
  have t1' : tT G ω' r us := by
    rcases t1 with ⟨x, z, e1, e2⟩ | e
    · have hr : r ≠ a := fun z => by rw [z, h1] at e1; cases e1
      have hva : va ≠ a := fun z => by rw [z, h1] at e2; cases e2
      exact ⟨va, g, Or.inl ⟨x, z, hfr _ _ e1 hr, hfr _ _ e2 hva⟩, t2, t3⟩
    · exact ⟨va, g, Or.inr e, t2, t3⟩
  obtain ⟨⟨ml', h1'⟩, -⟩ := id h'
  refine ⟨_, _, h1', rfl, Nat.zero_le _, _, h1', s_put h' t1' (by omega) (fun ω2 ha2 hb2 hfr2 => ?_)⟩
  obtain ⟨ml2, ha2⟩ := ha2
  refine ⟨_, _, ha2, rfl, _, ha2, by simp, fun ω3 e3 => ?_⟩
  rw [nI_add] at e3
  replace e3 : ω3 = fup ω2 a (.inr (1, [.ref v', .int 0, .int ml2, .int (nI (ts.length + us.length))])) := e3
  have hav' : v' ≠ a := fun z => by
    obtain ⟨f2, hb2, -⟩ := hb2
    rw [z, ha2] at hb2; cases hb2
  refine H v' m' ω3 ⟨⟨ml2, by rw [e3, List.length_append]; exact fup_at _ _ _⟩, ?_, by rw [List.length_append]; omega, h'.2.2.2⟩ hv' (fun x c hx hxa hxv => ?_)
  · obtain ⟨f2, hb2, hb3⟩ := hb2
    exact ⟨f2, by rw [e3, fup_ne hav']; exact hb2, hb3⟩
  · have hxv' : x ≠ v' := by
      rcases hv' with e | e
      · rw [e]; exact hxv
      · exact fun z => by rw [z, e] at hx; cases hx
    rw [e3, fup_ne hxa]
    exact hfr2 _ _ (hfr _ _ hx hxa) hxv'
end FTx
def zC (i : Nat) : List Nat := (zByt.getD i []).map Int32.toNatClampNeg
theorem zC_ok : ∀ i : Nat, i < 15 → (zC i).length = zLen.getD i 0 ∧ (zC i).length ≤ 7 ∧ (∀ j : Nat, j < 7 → (zByt.getD i []).getD j 0 = nI ((zC i).getD j 0)) ∧ ∀ c ∈ zC i, c < 128 := by decide +kernel
theorem tT_k {G : fG} {ω : fW} {i : Nat} (hi : i < 15) : tT G ω (G.1.2.2.2.2.1 i) (zC i) := by
  obtain ⟨h1, h2, h3, h4⟩ := zC_ok i hi
  exact ⟨G.1.2.2.2.2.2 i, _, Or.inr ⟨i, hi, rfl, rfl, h1, rfl⟩, fun j hj => h3 j (by omega), h4⟩
/-- a number below 100, as it is written -/
def digs (n : Nat) : List Nat := if n < 10 then [48 + n] else [48 + n / 10, 48 + n % 10]
theorem digs_c : ∀ n : Nat, n < 100 → ∀ c ∈ digs n, c < 128 := by decide +kernel
theorem digs_l (n : Nat) : (digs n).length = if n < 10 then 1 else 2 := by
  unfold digs
  by_cases h : n < 10
  · rw [if_pos h, if_pos h]; rfl
  · rw [if_neg h, if_neg h]; rfl
theorem dg_1 : ∀ n : Nat, n < 100 → (0 : Int32) ≤ nI n ∧ (-nI n ≤ (-10) ↔ 10 ≤ n) ∧ ¬ (-nI n ≤ 10 * (-10)) ∧ (-100) < -nI n ∧ ((-9) ≤ -nI n ↔ n < 10) ∧ -(-nI n) = nI n ∧ vp_nar .byte (nI (48 + n % 10)) = nI (48 + n % 10) ∧ vp_nar .byte (nI (48 + n / 10)) = nI (48 + n / 10) := by decide +kernel
section FTy
variable {G : fG} {l : Launch} {o : Option zS} {ω : fW} {kb a : Nat} {ts : List Nat}
theorem s_ssize {K : Int32 → Option zS → fW → Prop} {n : Nat} (hn : n < 100) (H : K (nI (digs n).length) o ω) : FC G l M_J6_stringSize_0f7a4 kb [.int (nI n)] (o, ω) (fQi K) := by
  obtain ⟨d1, d2, d3, -⟩ := dg_1 n hn
  rw [digs_l] at H
  refine b_J6_stringSize_0f7a4 ⟨fun q => absurd q (nI_pos (by omega)), fun _ => b_J6_stringSize_0f7a4_16 ⟨fun q => absurd q (by decide), fun _ => ⟨fun q => ?_, fun q => ?_⟩⟩⟩
  · rw [if_neg (by have := d2.mp q; omega)] at H
    exact b_J6_stringSize_0f7a4_16 ⟨fun q => absurd q (by decide), fun _ => ⟨fun q => absurd q d3, fun _ => H⟩⟩
  · rw [if_pos (by
      rcases Nat.lt_or_ge n 10 with h | h
      · exact h
      · exact absurd (d2.mpr h) q)] at H
    exact H
theorem s_getChars {K : Int32 → Option zS → fW → Prop} {n p v m : Nat} {f : Nat → Int32} (hn : n < 100) (h : ω v = some (.inl (G.1.2.1 1, m, .inl f))) (hp : p + (digs n).length ≤ m) (hm : m < 2 ^ 30)
    (H : ∀ (r : Int32) (ω' : fW) (g : Nat → Int32), ω' v = some (.inl (G.1.2.1 1, m, .inl g)) → (∀ x, x ≠ v → ω' x = ω x) → (∀ i, i < (digs n).length → g (p + i) = fB (digs n) i) → (∀ j, (j < p ∨ p + (digs n).length ≤ j) → g j = f j) → K r o ω') : FC G l M_J6_getChars_ba4f3 kb [.int (nI n), .int (nI (p + (digs n).length)), .ref v] (o, ω) (fQi K) := by
  obtain ⟨d1, d2, d3, d4, d5, d6, d7, d8⟩ := dg_1 n hn
  have hc : Int32.toNatClampNeg (-(-nI n)) = n := by rw [d6]; exact nI_clamp (by omega)
  have hv : vp_in (-(-nI n)) 100 := by rw [d6]; exact nI_in hn (by decide)
  refine b_J6_getChars_ba4f3 ⟨fun _ => ?_, fun q => absurd d1 q⟩
  refine b_J6_getChars_ba4f3_22 ⟨fun _ => ⟨hv, ?_⟩, fun q => absurd d4 q⟩
  rw [hc, d7]
  rcases Nat.lt_or_ge n 10 with h10 | h10
  · have hd : digs n = [48 + n] := if_pos h10
    rw [hd] at hp H ⊢
    replace hp : p + 1 ≤ m := hp
    have e1 : nI (p + [48 + n].length) + (-1) = nI p := pk_m1 p
    rw [e1, nI_clamp (n := p) (by omega)]
    refine ⟨_, _, h, nI_in (by omega) (by omega), fun ω4 e4 => ⟨fun _ => ⟨fun _ => ?_, fun q => absurd rfl q⟩, fun q => absurd (d5.mpr h10) q⟩⟩
    refine H _ ω4 (upd f p (nI (48 + n % 10))) (by rw [e4]; exact fup_at _ _ _) (fun x hx => by rw [e4]; exact fup_ne hx) (fun i hi => ?_) (fun j hj => pk_un ?_)
    · have hi : i < 1 := hi
      have : i = 0 := by omega
      subst this
      rw [Nat.add_zero, pk_us, Nat.mod_eq_of_lt h10]
      rfl
    · replace hj : j < p ∨ p + 1 ≤ j := hj
      omega
  · have hd : digs n = [48 + n / 10, 48 + n % 10] := if_neg (by omega)
    rw [hd] at hp H ⊢
    replace hp : p + 2 ≤ m := hp
    have e1 : nI (p + [48 + n / 10, 48 + n % 10].length) + (-1) = nI (p + 1) := pk_m1 (p + 1)
    rw [e1, nI_clamp (n := p + 1) (by omega)]
    refine ⟨_, _, h, nI_in (by omega) (by omega), fun ω4 e4 => ⟨fun q => absurd (d5.mp q) (by omega), fun _ => ⟨hv, ?_⟩⟩⟩
    rw [d8]
    have e2 : nI (p + 1) + (-1) = nI p := pk_m1 p
    rw [e2, nI_clamp (n := p) (by omega)]
    refine ⟨_, _, by rw [e4]; exact fup_at _ _ _, nI_in (by omega) (by omega), fun ω12 e12 => ⟨fun _ => ?_, fun q => absurd rfl q⟩⟩
    refine H _ ω12 (upd (upd f (p + 1) (nI (48 + n % 10))) p (nI (48 + n / 10))) (by rw [e12]; exact fup_at _ _ _) (fun x hx => by rw [e12, fup_ne hx, e4]; exact fup_ne hx) (fun i hi => ?_) (fun j hj => ?_)
    · have hi : i < 2 := hi
      match i, hi with
      | 0, _ => exact pk_us
      | 1, _ => rw [pk_un (by omega), pk_us]; rfl
    · replace hj : j < p ∨ p + 2 ≤ j := hj
      rw [pk_un (by omega), pk_un (by omega)]
theorem s_appI {K : Nat → Option zS → fW → Prop} {v m n : Nat} (h : SbA G ω a v m ts) (hn : n < 100) (hm : ts.length + (digs n).length ≤ 280) (hkb : 60 ≤ kb) (H : ∀ (v' m' : Nat) (ω' : fW), SbA G ω' a v' m' (ts ++ digs n) → (v' = v ∨ ω v' = none) → (∀ x c, ω x = some c → x ≠ a → x ≠ v → ω' x = some c) → K a o ω') : FC G l M_J4_append_bf812 kb [.ref a, .int (nI n)] (o, ω) (fQr K) := by
  have h0 := h
  obtain ⟨⟨ml, h1⟩, ⟨f, h2, h2b, h2c⟩, h3, h4⟩ := h
  refine b_J4_append_bf812 ⟨hkb, _, h1, b_J5_append_c97b9 ⟨_, _, h1, rfl, Nat.zero_le _, s_ssize hn ⟨Nat.le_refl 60, _, h1, ?_⟩⟩⟩
  rw [nI_add]
  refine s_ensure h0 hm (Nat.le_refl 60) (fun v' m' ω' h' hm' hv' hfr => ?_)
  obtain ⟨⟨ml', h1'⟩, ⟨f', h2', h2b', h2c'⟩, h3', h4'⟩ := id h'
  have hav : a ≠ v' := fun z => by rw [z, h2'] at h1'; cases h1'
  refine ⟨Nat.zero_le _, _, h1', b_J5_isLatin1_aae02 ⟨_, _, h1', rfl, fun q => absurd rfl q, fun _ => ⟨fun q => absurd q (by decide), fun _ => ⟨_, _, h1', rfl, Nat.zero_le _, ?_⟩⟩⟩⟩
  refine s_getChars hn h2' hm' (by omega) (fun r ω2 g g1 g2 g3 g4 => ?_)
  have a2 : ω2 a = some (.inr (1, [.ref v', .int 0, .int ml', .int (nI ts.length)])) := by rw [g2 a hav]; exact h1'
  refine ⟨_, a2, by simp, fun ω3 e3 => ?_⟩
  replace e3 : ω3 = fup ω2 a (.inr (1, [.ref v', .int 0, .int ml', .int (nI (ts.length + (digs n).length))])) := e3
  refine H v' m' ω3 ⟨⟨ml', by rw [e3, List.length_append]; exact fup_at _ _ _⟩, ⟨g, by rw [e3, fup_ne (fun z => hav z.symm)]; exact g1, fun j hj => ?_, fun j hj => ?_⟩, by rw [List.length_append]; omega, h4'⟩ hv' (fun x c hx hxa hxv => ?_)
  · rw [List.length_append] at hj
    rw [fB_app]
    by_cases q : j < ts.length
    · rw [if_pos q, g4 j (Or.inl q)]
      exact h2b' j q
    · rw [if_neg q, ← g3 _ (by omega)]
      congr 1
      omega
  · by_cases q : ts.length ≤ j ∧ j < ts.length + (digs n).length
    · have := g3 (j - ts.length) (by omega)
      rw [show ts.length + (j - ts.length) = j by omega] at this
      rw [this]
      exact fits_c _ (fB_c (digs_c n hn) _)
    · rw [g4 j (by omega)]
      exact h2c' j hj
  · have hxv' : x ≠ v' := by
      rcases hv' with e | e
      · rw [e]; exact hxv
      · exact fun z => by rw [z, e] at hx; cases hx
    rw [e3, fup_ne hxa, g2 x hxv']
    exact hfr _ _ hx hxa
/-- bytes copied in part -/
theorem s_corb {K : Nat → Option zS → fW → Prop} {v m n : Nat} {f : Nat → Int32} (h : ω v = some (.inl (G.1.2.1 1, m, .inl f))) (hf : ∀ j, j < m → fits .byte (.int (f j)) = true) (hn : n ≤ m) (hm : m ≤ 600) (hkb : 60 ≤ kb)
    (H : ∀ (q : Nat) (ω' : fW) (g : Nat → Int32), ω q = none → ω' q = some (.inl (G.1.2.1 1, n, .inl g)) → (∀ x, x ≠ q → ω' x = ω x) → (∀ j, j < n → g j = f j) → K q o ω') : FC G l M_J7_copyOfRange_39247 kb [.ref v, .int 0, .int (nI n)] (o, ω) (fQr K) := by
  refine b_J7_copyOfRange_39247 ⟨fun q => absurd rfl q, fun _ => ⟨_, h, fun e => ?_, fun e => ⟨hkb, ?_⟩⟩⟩
  · have : n = m := (nI_eq (by omega) (by omega)).mp e
    subst this
    exact ⟨n, 60, f, h, hf, by omega, by omega, hkb, fun q ω10 hq e10 => ⟨(n, .inl f), by rw [e10]; exact fup_at _ _ _, H q ω10 f hq (by rw [e10]; exact fup_at _ _ _) (fun x hx => by rw [e10]; exact fup_ne hx) (fun _ _ => rfl)⟩⟩
  · refine b_J7_copyOfRangeByte_39247 ⟨Nat.zero_le _, b_J7_checkLength_df160 ⟨fun _ => ?_, fun q => absurd (nI_pos' (by omega)) q⟩⟩
    have e0 : nI n - 0 = nI n := by rw [← nI_0, pk_sub (Nat.zero_le _)]; rfl
    have e1 : nI m - 0 = nI m := by rw [← nI_0, pk_sub (Nat.zero_le _)]; rfl
    rw [e0]
    refine ⟨n, 60, rfl, by omega, by omega, by omega, Nat.le_refl 60, fun q ω5 hq e5 => ?_⟩
    have hvq : v ≠ q := fun z => by rw [← z, h] at hq; cases hq
    have b5 : ω5 v = some (.inl (G.1.2.1 1, m, .inl f)) := by rw [e5, fup_ne hvq]; exact h
    have c5 : ω5 q = some (.inl (G.1.2.1 1, n, .inl (fun _ => 0))) := by rw [e5]; exact fup_at _ _ _
    have emin : zmin (nI m - 0) (nI n) = nI n := by
      unfold zmin
      rw [e1]
      by_cases y : n < m
      · rw [if_pos (nI_lt y (by omega))]
      · have : n = m := by omega
        subst this
        by_cases y2 : nI n < nI n
        · rw [if_pos y2]
        · rw [if_neg y2]
    refine ⟨_, b5, _, _, _, _, b5, c5, ?_, ?_, fun ω9 e9 => ?_⟩
    · show _ ∧ _ ∧ ¬ zmin (nI m - 0) (nI n) < 0 ∧ _ + Int32.toNatClampNeg (zmin (nI m - 0) (nI n)) ≤ m ∧ _ + Int32.toNatClampNeg (zmin (nI m - 0) (nI n)) ≤ n
      rw [emin, nI_clamp (by omega)]
      exact ⟨by decide, by decide, nI_pos (by omega), by show 0 + n ≤ m; omega, by show 0 + n ≤ n; omega⟩
    · show ∀ i, i < Int32.toNatClampNeg (zmin (nI m - 0) (nI n)) → _
      rw [emin, nI_clamp (by omega)]
      intro i hi
      show fits .byte (.int (f (0 + i))) = true
      rw [Nat.zero_add]
      exact hf i (by omega)
    · replace e9 : ω9 = fup ω5 q (.inl (G.1.2.1 1, n, .inl (va_cpy f (fun _ => 0) 0 0 (Int32.toNatClampNeg (zmin (nI m - 0) (nI n)))))) := e9
      rw [emin, nI_clamp (by omega)] at e9
      refine H q ω9 (va_cpy f (fun _ => 0) 0 0 n) hq (by rw [e9]; exact fup_at _ _ _) (fun x hx => by rw [e9, fup_ne hx, e5, fup_ne hx]) (fun j hj => ?_)
      rw [pk_cpy_in (by omega) (by omega), show 0 + (j - 0) = j by omega]
theorem s_toString {K : Nat → Option zS → fW → Prop} {v m : Nat} (h : SbA G ω a v m ts) (hts : ∀ c ∈ ts, c < 128) (hkb : 61 ≤ kb) (H : ∀ (q : Nat) (ω' : fW), ω q = none → tT G ω' q ts → fle ω ω' → K q o ω') : FC G l M_J4_toString_0e30d kb [.ref a] (o, ω) (fQr K) := by
  obtain ⟨⟨ml, h1⟩, ⟨f, h2, h2b, h2c⟩, h3, h4⟩ := h
  refine b_J4_toString_0e30d ⟨by omega, fun q ω2 hq e2 => ⟨by omega, b_J0_init_81219 ⟨Nat.le_refl 60, ?_⟩⟩⟩
  have hl2 : fle ω ω2 := by rw [e2]; exact fle.up hq
  have a2 := hl2 _ _ h1
  have b2 := hl2 _ _ h2
  have c2 : ω2 q = some (.inr (0, [.null, .int 0, .int 0, .int 0])) := by rw [e2]; exact fup_at _ _ _
  have hqv : v ≠ q := fun z => by rw [← z, h2] at hq; cases hq
  refine b_J0_init_db425 ⟨Nat.zero_le _, _, a2, b_J5_getValue_6d5f1 ⟨_, _, a2, rfl, Nat.zero_le _, _, a2, b_J4_length_8abf5 ⟨Nat.zero_le _, _, a2, b_J5_length_8abf5 ⟨_, _, a2, rfl, Nat.zero_le _, _, a2, b_J5_isLatin1_aae02 ⟨_, _, a2, rfl, fun y => absurd rfl y, fun _ => ⟨fun y => absurd y (by decide), fun _ => ⟨_, c2, by simp, fun ω23 e23 => ⟨Nat.le_refl 60, ?_⟩⟩⟩⟩⟩⟩⟩⟩
  have c23 : ω23 q = some (.inr (0, [.null, .int 0, .int 0, .int 0])) := by rw [e23]; exact fup_at _ _ _
  have b23 : ω23 v = some (.inl (G.1.2.1 1, m, .inl f)) := by rw [e23, fup_ne hqv]; exact b2
  refine s_corb b23 h2c h3 h4 (Nat.le_refl 60) (fun p ω26 g hp g1 g2 g3 => ?_)
  have hqp : q ≠ p := fun z => by rw [← z, c23] at hp; cases hp
  have c26 : ω26 q = some (.inr (0, [.null, .int 0, .int 0, .int 0])) := by rw [g2 q hqp]; exact c23
  refine ⟨_, c26, by simp, fun ω28 e28 => H q ω28 hq ⟨p, g, Or.inl ⟨0, 0, by rw [e28]; exact fup_at _ _ _, by rw [e28, fup_ne (fun z => hqp z.symm)]; exact g1⟩, fun j hj => by rw [g3 j hj]; exact h2b j hj, hts⟩ (fun x c hx => ?_)⟩
  have hxq : x ≠ q := fun z => by rw [z, hq] at hx; cases hx
  have hxp : x ≠ p := fun z => by
    rw [z] at hx
    rw [e23, fup_ne (fun y => hqp y.symm), hl2 _ _ hx] at hp
    cases hp
  rw [e28, fup_ne hxq, g2 x hxp, e23, fup_ne hxq]
  exact hl2 _ _ hx
theorem s_told {K : Nat → Option zS → fW → Prop} {z : Int} (h1 : -4 ≤ z) (h2 : z ≤ 4) (hkb : 200 ≤ kb) (H : ∀ (q : Nat) (ω' : fW), ω q = none → tT G ω' q ((if 0 ≤ z then zC 11 else zC 10) ++ digs z.natAbs) → fle ω ω' → K q o ω') : FC G l M_L_told kb [.int (iI z)] (o, ω) (fQr K) := by
  have ez : zabs (iI z) = nI z.natAbs := by
    rw [iI_abs (by omega) (by omega), iI_n]
    congr 1
    split <;> omega
  have hlt : 0 ≤ iI z ↔ 0 ≤ z := iI_le (a := 0) (by omega) (by omega) (by omega) (by omega)
  have hd := digs_l z.natAbs
  rw [if_pos (by omega)] at hd
  refine b_L_told ⟨by omega, fun q ω2 hq e2 => ⟨by omega, ?_⟩⟩
  have hl2 : fle ω ω2 := by rw [e2]; exact fle.up hq
  have c2 : ω2 q = some (.inr (1, [.null, .int 0, .int 0, .int 0])) := by rw [e2]; exact fup_at _ _ _
  refine s_sbinit c2 (Nat.le_refl 2) (fun v ω5 hv S5 f5 => ?_)
  have key : ∀ (i : Nat) (K' : Nat → Option zS → fW → Prop) (k5 : Nat), i < 15 → 181 ≤ k5 → (∀ (q' : Nat) (ω' : fW), ω q' = none → tT G ω' q' (zC i ++ digs z.natAbs) → fle ω ω' → K' q' o ω') → (60 ≤ k5 ∧ ∃ fs18 : List Value, ω5 q = some (.inr (1, fs18)) ∧ FC G l M_J4_append_15ec4 60 [.ref q, .ref (G.1.2.2.2.2.1 i)] (o, ω5) (fQr (fun v7 o8 ω9 => (60 ≤ (k5 - 60) ∧ ∃ fs17 : List Value, ω9 v7 = some (.inr (1, fs17)) ∧ FC G l M_J4_append_bf812 60 [.ref v7, .int (zabs (iI z))] (o8, ω9) (fQr (fun v10 o11 ω12 => (61 ≤ ((k5 - 60) - 60) ∧ ∃ fs16 : List Value, ω12 v10 = some (.inr (1, fs16)) ∧ FC G l M_J4_toString_0e30d 61 [.ref v10] (o11, ω12) (fQr (fun v13 o14 ω15 => K' v13 o14 ω15))))))))) := by
    intro i K' k5 hi hk HK
    obtain ⟨z1, z2, z3, z4⟩ := zC_ok i hi
    obtain ⟨fs5, b5⟩ := S5.ob
    refine ⟨by omega, fs5, b5, s_app S5 (tT_k hi) (by rw [List.length_nil]; omega) (Nat.le_refl 60) (fun v9 m9 ω9 S9 hv9 f9 => ?_)⟩
    rw [List.nil_append] at S9
    rw [ez]
    obtain ⟨fs9, b9⟩ := S9.ob
    refine ⟨by omega, fs9, b9, s_appI S9 (by omega) (by rw [hd]; omega) (Nat.le_refl 60) (fun v12 m12 ω12 S12 hv12 f12 => ?_)⟩
    have hfl : fle ω ω12 := fun x c hx => by
      have hxq : x ≠ q := fun y => by rw [y, hq] at hx; cases hx
      have hx2 := hl2 _ _ hx
      have hxv : x ≠ v := fun y => by rw [y, hv] at hx2; cases hx2
      have hx5 := f5 _ _ hx2 hxq
      have hx9 := f9 _ _ hx5 hxq hxv
      refine f12 _ _ hx9 hxq ?_
      rcases hv9 with e | e
      · rw [e]; exact hxv
      · exact fun y => by rw [y, e] at hx5; cases hx5
    obtain ⟨fs12, b12⟩ := S12.ob
    refine ⟨by omega, fs12, b12, s_toString S12 (fun c hc => ?_) (Nat.le_refl 61) (fun p ω15 hp t15 f15 => ?_)⟩
    · rcases List.mem_append.mp hc with h | h
      · exact z4 c h
      · exact digs_c _ (by omega) c h
    · refine HK p ω15 ?_ t15 (fun x c hx => f15 _ _ (hfl _ _ hx))
      cases hw : ω p with
      | none => rfl
      | some c => rw [hfl _ _ hw] at hp; cases hp
  refine ⟨fun y => key 11 K _ (by omega) (by omega) (fun q' ω' a1 a2 a3 => H q' ω' a1 ?_ a3), fun y => key 10 K _ (by omega) (by omega) (fun q' ω' a1 a2 a3 => H q' ω' a1 ?_ a3)⟩
  · rw [if_pos (hlt.mp y)]; exact a2
  · rw [if_neg (fun w => y (hlt.mpr w))]; exact a2
end FTy
