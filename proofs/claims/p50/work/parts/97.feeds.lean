/-! the text goes into the class -/
/-- the number that bytes make -/
def vB (c : Nat → Nat) (s : Nat) : Nat → Nat
  | 0 => 0
  | k + 1 => vB c s k * 256 + c (s + k)
theorem vB_lt {c : Nat → Nat} (hc : ∀ i, c i < 128) (s : Nat) : ∀ k, vB c s k < 256 ^ k
  | 0 => Nat.one_pos
  | k + 1 => by
    have := vB_lt hc s k
    have h := hc (s + k)
    show vB c s k * 256 + c (s + k) < _
    rw [Nat.pow_succ]
    omega
theorem or_c {a c : Nat} (ha : a < 2 ^ 24) (hc : c < 256) : (nI a <<< ((8 : Int32) &&& 31)) ||| nI c = nI (a * 256 + c) := by
  have e1 : nI a <<< ((8 : Int32) &&& 31) = nI (a * 2 ^ 8) := pk_shlN _ 8 (by decide) (by omega)
  have e2 : a * 256 + c = a * 2 ^ 8 ||| c := by
    have := Nat.two_pow_add_eq_or_of_lt (b := c) (i := 8) (by omega) a
    rw [Nat.mul_comm a (2 ^ 8), ← this]
    omega
  rw [e1, e2]
  apply b_ext
  intro i hi
  rw [b_or, bt_nI _ _ hi, bt_nI _ _ hi, bt_nI _ _ hi, Nat.testBit_or]
theorem tbv_v {c : Nat → Nat} (hc : ∀ i, c i < 128) (s : Nat) {j : Nat} (hj : j < 4) : tbv (nI (vB c s 4)) (24 - 8 * j) = c (s + j) := by
  have h4 := vB_lt hc s 4
  have h0 := hc s
  have h1 := hc (s + 1)
  have h2 := hc (s + 2)
  have h3 := hc (s + 3)
  have e : vB c s 4 = ((c s * 256 + c (s + 1)) * 256 + c (s + 2)) * 256 + c (s + 3) := by
    show (((0 * 256 + c (s + 0)) * 256 + c (s + 1)) * 256 + c (s + 2)) * 256 + c (s + 3) = _
    rw [Nat.zero_mul, Nat.zero_add, Nat.add_zero]
  unfold tbv
  rw [pk_tn (by omega), e]
  match j, hj with
  | 0, _ => show _ / 2 ^ 24 % 2 ^ 8 = c s; omega
  | 1, _ => show _ / 2 ^ 16 % 2 ^ 8 = c (s + 1); omega
  | 2, _ => show _ / 2 ^ 8 % 2 ^ 8 = c (s + 2); omega
  | 3, _ => show _ / 2 ^ 0 % 2 ^ 8 = c (s + 3); omega
theorem app5_v {f c : Nat → Nat} (hc : ∀ i, c i < 128) (n : Nat) (hf : ∀ i, i < n → f i = c i) : ∀ i, i < n + 20 → app5 f n (nI (vB c n 4)) (nI (vB c (n + 4) 4)) (nI (vB c (n + 8) 4)) (nI (vB c (n + 12) 4)) (nI (vB c (n + 16) 4)) i = c i := fun i hi => by
  unfold app5 app
  by_cases h1 : i < n + 16
  · rw [if_pos h1]
    by_cases h2 : i < n + 12
    · rw [if_pos h2]
      by_cases h3 : i < n + 8
      · rw [if_pos h3]
        by_cases h4 : i < n + 4
        · rw [if_pos h4]
          by_cases h5 : i < n
          · rw [if_pos h5]; exact hf i h5
          · rw [if_neg h5, tbv_v hc n (show i - n < 4 by omega)]; congr 1; omega
        · rw [if_neg h4, tbv_v hc (n + 4) (show i - (n + 4) < 4 by omega)]; congr 1; omega
      · rw [if_neg h3, tbv_v hc (n + 8) (show i - (n + 8) < 4 by omega)]; congr 1; omega
    · rw [if_neg h2, tbv_v hc (n + 12) (show i - (n + 12) < 4 by omega)]; congr 1; omega
  · rw [if_neg h1, tbv_v hc (n + 16) (show i - (n + 16) < 4 by omega)]; congr 1; omega
/-- the text's bytes, blanks behind it -/
def pcT (T : List Nat) : Nat → Nat := fun i => if i < T.length then T.getD i 0 else 32
theorem pcT_lt {T : List Nat} (hT : asc T) (i : Nat) : pcT T i < 128 := by
  unfold pcT
  split
  · exact fB_c hT i
  · omega
theorem fle.new {ω0 ω : fW} {q : Nat} {x : va_E} (h : fle ω0 ω) (hq : ω0 q = none) : fle ω0 (fup ω q x) := fun a c ha => by
  rw [fup_ne (fun z => by rw [z, hq] at ha; cases ha)]
  exact h a c ha
theorem fle.none {ω0 ω : fW} {q : Nat} (h : fle ω0 ω) (hq : ω q = none) : ω0 q = none := by
  cases e : ω0 q with
  | none => rfl
  | some c => rw [h q c e] at hq; cases hq
section FDs
variable {G : fG} {l : Launch} {K : Int32 → Option zS → fW → Prop} {r : Nat} {T : List Nat} {ω0 : fW}
/-- the word j once i bytes of the twenty at k are in -/
def wJ (T : List Nat) (k j i : Nat) : Nat := vB (pcT T) (k + 4 * j) (min (i - 4 * j) 4)
theorem f_20 (hT : asc T) (hl : T.length ≤ 264) (ht : tT G ω0 r T) {k : Nat} (hk : k ≤ 264) {q kb : Nat} (hq0 : ω0 q = none) {o : Option zS} (H2 : ∀ (ω : fW) (g : Nat → Int32), fle ω0 ω → ω q = some (.inl (G.1.2.1 0, 5, .inl g)) → (∀ j, j < 5 → g j = nI (wJ T k j 20)) → L_L_feeds_20 G l K r (nI k) q (nI 20) o ω kb) : ∀ (d i : Nat) (ω : fW) (g : Nat → Int32), i + d = 20 → fle ω0 ω → ω q = some (.inl (G.1.2.1 0, 5, .inl g)) → (∀ j, j < 5 → g j = nI (wJ T k j i)) → L_L_feeds_20 G l K r (nI k) q (nI i) o ω kb
  | 0, i, ω, g, hi, hle, hq, hg => by
    have : i = 20 := by omega
    subst this
    exact H2 ω g hle hq hg
  | d + 1, i, ω, g, hi, hle, hq, hg => by
    have t1 := ht.le hle
    obtain ⟨va, f, a1, a2, a3⟩ := id t1
    have e4 : nI i / 4 = nI (i / 4) := pk_div (d := 4) (by omega) (by omega) (by omega)
    have hlt := vB_lt (c := pcT T) (pcT_lt hT)
    have h3 := hlt (k + 4 * (i / 4)) (i % 4)
    have h24 : vB (pcT T) (k + 4 * (i / 4)) (i % 4) < 2 ^ 24 := Nat.lt_of_lt_of_le h3 (Nat.le_trans (Nat.pow_le_pow_right (by decide) (show i % 4 ≤ 3 by omega)) (by decide))
    have hold : g (i / 4) = nI (vB (pcT T) (k + 4 * (i / 4)) (i % 4)) := by
      rw [hg (i / 4) (by omega)]
      unfold wJ
      congr 2
      omega
    have hnew : ∀ j, j < 5 → upd g (i / 4) (nI (vB (pcT T) (k + 4 * (i / 4)) (i % 4) * 256 + pcT T (k + i))) j = nI (wJ T k j (i + 1)) := fun j hj => by
      by_cases e : j = i / 4
      · subst e
        rw [pk_us]
        unfold wJ
        rw [show min (i + 1 - 4 * (i / 4)) 4 = i % 4 + 1 by omega]
        show _ = nI (vB (pcT T) (k + 4 * (i / 4)) (i % 4) * 256 + pcT T (k + 4 * (i / 4) + i % 4))
        rw [show k + 4 * (i / 4) + i % 4 = k + i by omega]
      · rw [pk_un e, hg j hj]
        unfold wJ
        congr 2
        omega
    refine b_L_feeds_20 ⟨fun y => absurd y (nI_ge (b := 20) (by omega) (by decide)), fun _ => ?_⟩
    rw [e4]
    refine ⟨_, _, hq, nI_in (by omega) (by omega), Nat.zero_le _, _, _, _, a1, s_tlen a1 (by omega) ?_⟩
    rw [nI_add, nI_clamp (by omega), hold]
    refine ⟨fun y => ⟨_, _, hq, nI_in (by omega) (by omega), fun ω2 e2 => ?_⟩, fun y => ⟨Nat.zero_le _, _, _, _, a1, s_charAt t1 (Nat.lt_of_not_le (fun z => y (nI_le z (by omega)))) (by omega) ⟨_, _, hq, nI_in (by omega) (by omega), fun ω2 e2 => ?_⟩⟩⟩
    · have hge : T.length ≤ k + i := (nI_leI (by omega) (by omega)).mp y
      have e32 : (nI (vB (pcT T) (k + 4 * (i / 4)) (i % 4)) <<< ((8 : Int32) &&& 31)) ||| 32 = nI (vB (pcT T) (k + 4 * (i / 4)) (i % 4) * 256 + pcT T (k + i)) := by
        have : pcT T (k + i) = 32 := if_neg (by omega)
        rw [this]
        exact or_c h24 (c := 32) (by omega)
      rw [e32] at e2
      rw [nI_1, e2]
      exact f_20 hT hl ht hk hq0 H2 d (i + 1) _ _ (by omega) (hle.new hq0) (fup_at _ _ _) hnew
    · have hlt2 : k + i < T.length := Nat.lt_of_not_le (fun z => y (nI_le z (by omega)))
      have ec : (nI (vB (pcT T) (k + 4 * (i / 4)) (i % 4)) <<< ((8 : Int32) &&& 31)) ||| fB T (k + i) = nI (vB (pcT T) (k + 4 * (i / 4)) (i % 4) * 256 + pcT T (k + i)) := by
        have : pcT T (k + i) = T.getD (k + i) 0 := if_pos hlt2
        rw [this]
        exact or_c h24 (by have := fB_c hT (k + i); omega)
      rw [ec] at e2
      rw [nI_1, e2]
      exact f_20 hT hl ht hk hq0 H2 d (i + 1) _ _ (by omega) (hle.new hq0) (fup_at _ _ _) hnew
theorem f_4 (hT : asc T) (hl : T.length ≤ 264) (ht : tT G ω0 r T) {σ0 : zS} (HK : ∀ (τ : zS) (ω : fW) (f : Nat → Nat), fle ω0 ω → FrP pT σ0 τ → (∀ k, k ≠ 1 → τ.1 1 k = σ0.1 1 k) → TxC τ T.length f → (∀ i, i < T.length → f i = T.getD i 0) → K 1 (some τ) ω) : ∀ (d j : Nat) (kb : Nat) (σ : zS) (ω : fW) (f : Nat → Nat), j + d = 15 → 2 * d + 1 ≤ kb → 20 * j < T.length + 20 → fle ω0 ω → FrP pT σ0 σ → (∀ k, k ≠ 1 → σ.1 1 k = σ0.1 1 k) → TxC σ (20 * j) f → (∀ i, i < 20 * j → f i = pcT T i) → L_L_feeds_4 G l K r (nI (20 * j)) (nI (20 * j)) (some σ) ω kb := by
  intro d
  induction d with
  | zero =>
    intro j kb σ ω f hj hkb hjl hle hF h1 hX hf
    have t1 := ht.le hle
    obtain ⟨va, g, a1, a2, a3⟩ := id t1
    exact absurd hjl (by omega)
  | succ d ih =>
    intro j kb σ ω f hj hkb hjl hle hF h1 hX hf
    have t1 := ht.le hle
    obtain ⟨va, g, a1, a2, a3⟩ := id t1
    refine b_L_feeds_4 ⟨Nat.zero_le _, _, _, _, a1, s_tlen a1 (by omega) ⟨fun y => ⟨Nat.zero_le _, _, _, _, a1, s_tempty a1 (by omega) (fun h0 => ⟨fun _ => ?_, fun z => absurd z (by decide)⟩) (fun h0 => ⟨fun z => absurd rfl z, fun _ => ⟨Nat.zero_le _, _, _, _, a1, s_tlen a1 (by omega) ⟨fun z => ?_, fun _ => ⟨Nat.zero_le _, _, _, _, a1, s_tlen a1 (by omega) ⟨σ, rfl, by omega, fun n => ?_⟩⟩⟩⟩⟩)⟩, fun y => ⟨by omega, fun q ω2 hq e2 => ?_⟩⟩⟩
    · have hge : T.length ≤ 20 * j := (nI_leI (by omega) (by omega)).mp y
      have hj0 : j = 0 := by omega
      subst hj0
      refine HK σ ω f hle hF h1 ?_ (fun i hi => by omega)
      rw [h0]
      exact hX
    · have hge : T.length ≤ 20 * j := (nI_leI (by omega) (by omega)).mp y
      exact absurd z (nI_nlt hge (by omega))
    · have hge : T.length ≤ 20 * j := (nI_leI (by omega) (by omega)).mp y
      rw [iI_n]
      refine c_truncate (f := f) hX (by unfold I32; omega) (fun i hi hin τ f1 f2 f3 => ⟨Nat.zero_le _, _, _, _, a1, s_tlen a1 (by omega) ⟨fun z => absurd ?_ z, fun _ => ?_⟩⟩) (fun z => z (by omega))
      · rw [iI_n, hi]
      · have hi' : i = T.length := by omega
        subst hi'
        exact HK τ ω f hle (hF.tr f1) (fun k hk => (f2 k hk).trans (h1 k hk)) f3 (fun i hi => by
          rw [hf i (by omega)]
          exact if_pos hi)
    · have hlt : 20 * j < T.length := Nat.lt_of_not_le (fun z => y (nI_le z (by omega)))
      have hq0 := hle.none hq
      have hle2 : fle ω0 ω2 := by rw [e2]; exact hle.new hq0
      have hq2 : ω2 q = some (.inl (G.1.2.1 0, 5, .inl (fun _ => 0))) := by rw [e2]; exact fup_at _ _ _
      refine f_20 (k := 20 * j) hT hl ht (by omega) hq0 (fun ω3 g3 hle3 hq3 hg3 => ?_) 20 0 ω2 (fun _ => 0) (by omega) hle2 hq2 (fun i hi => by
        unfold wJ
        rw [show min (0 - 4 * i) 4 = 0 by omega]
        rfl)
      have w : ∀ i, i < 5 → g3 i = nI (vB (pcT T) (20 * j + 4 * i) 4) := fun i hi => by
        rw [hg3 i hi]
        unfold wJ
        rw [show min (20 - 4 * i) 4 = 4 by omega]
      refine b_L_feeds_20 ⟨fun _ => ⟨_, _, hq3, vi (i := 0) (by omega) (by omega), _, _, hq3, vi (i := 1) (by omega) (by omega), _, _, hq3, vi (i := 2) (by omega) (by omega), _, _, hq3, vi (i := 3) (by omega) (by omega), _, _, hq3, vi (i := 4) (by omega) (by omega), σ, rfl, by omega, fun n => ?_⟩, fun z => absurd (show (20 : Int32) ≤ nI 20 by decide) z⟩
      rw [tc_0, tc_1, tc_2, tc_3, tc_4, w 0 (by omega), w 1 (by omega), w 2 (by omega), w 3 (by omega), w 4 (by omega)]
      refine c_feed (f := f) hX (fun _ τ f1 f2 f3 => ?_) (fun z => z (by omega))
      have e20 : nI (20 * j) + 20 = nI (20 * (j + 1)) := nI_add (20 * j) 20
      rw [e20, ← iI_n]
      exact ih (j + 1) _ τ ω3 _ (by omega) (by omega) (by omega) hle3 (hF.tr f1) (fun k hk => (f2 k hk).trans (h1 k hk)) f3 (app5_v (pcT_lt hT) (20 * j) hf)
theorem s_feeds (hT : asc T) (hl : T.length ≤ 264) {ω : fW} (ht : tT G ω r T) {kb : Nat} (hkb : 100 ≤ kb) {σ : zS} {f : Nat → Nat} (hX : TxC σ 0 f) (HK : ∀ (τ : zS) (ω' : fW) (f : Nat → Nat), fle ω ω' → FrP pT σ τ → (∀ k, k ≠ 1 → τ.1 1 k = σ.1 1 k) → TxC τ T.length f → (∀ i, i < T.length → f i = T.getD i 0) → K 1 (some τ) ω') : FC G l M_L_feeds kb [.ref (zad G.1 0), .ref r] (some σ, ω) (fQi K) :=
  b_L_feeds (f_4 hT hl ht HK 15 0 kb σ ω f (by omega) (by omega) (by omega) (fle.rf ω) (FrP.rf _ _) (fun _ _ => rfl) hX (fun i hi => by omega))
end FDs
