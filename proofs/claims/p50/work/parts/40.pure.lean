/-! the state that the reference holds in one row of numbers, read as numbers -/
def iL (z : Int) : Int64 := Int64.ofInt z
theorem bI_0 {p : Prop} [Decidable p] : bI p = iI 0 ↔ ¬ p := by
  unfold bI
  by_cases h : p
  · rw [if_pos h]; exact ⟨fun e => absurd e (by decide), fun q => absurd h q⟩
  · rw [if_neg h]; exact ⟨fun _ => h, fun _ => rfl⟩
theorem bI_1 {p : Prop} [Decidable p] : bI p = iI 1 ↔ p := by
  unfold bI
  by_cases h : p
  · rw [if_pos h]; exact ⟨fun _ => h, fun _ => rfl⟩
  · rw [if_neg h]; exact ⟨fun e => absurd e (by decide), fun q => absurd q h⟩
theorem bI_T {p : Prop} [Decidable p] (h : p) : bI p = iI 1 := bI_1.mpr h
theorem bI_F {p : Prop} [Decidable p] (h : ¬ p) : bI p = iI 0 := bI_0.mpr h
theorem bI_iff {p q : Prop} [Decidable p] [Decidable q] (h : p ↔ q) : bI p = bI q := by
  unfold bI
  by_cases hp : p
  · rw [if_pos hp, if_pos (h.mp hp)]
  · rw [if_neg hp, if_neg (fun x => hp (h.mpr x))]
theorem iL_0 : (0 : Int64) = iL 0 := rfl
theorem iL_4 : (4 : Int64) = iL 4 := rfl
theorem iL_6 : (6 : Int64) = iL 6 := rfl
theorem iL_7 : (7 : Int64) = iL 7 := rfl
theorem iL_8 : (8 : Int64) = iL 8 := rfl
theorem iL_9 : (9 : Int64) = iL 9 := rfl
theorem iL_m4 : -iL 4 = iL (-4) := rfl
theorem iL_m6 : -iL 6 = iL (-6) := rfl
theorem iL_m8 : -iL 8 = iL (-8) := rfl
theorem iI_L {z : Int} (h1 : -2147483648 ≤ z) (h2 : z < 2147483648) : Int32.toInt64 (iI z) = iL z := by
  rw [fa_eq64, Int32.toInt_toInt64, iI_ti h1 h2]
  unfold iL
  rw [Int64.toInt_ofInt]
  exact (fb_bmodL (by omega) (by omega)).symm
theorem iL_ti {z : Int} (h1 : -9223372036854775808 ≤ z) (h2 : z < 9223372036854775808) : (iL z).toInt = z := by
  unfold iL
  rw [Int64.toInt_ofInt]
  exact fb_bmodL h1 h2
theorem li_0 : (0 : Int32) = iI 0 := rfl
theorem li_1 : (1 : Int32) = iI 1 := rfl
theorem li_2 : (2 : Int32) = iI 2 := rfl
theorem li_3 : (3 : Int32) = iI 3 := rfl
theorem li_4 : (4 : Int32) = iI 4 := rfl
theorem li_5 : (5 : Int32) = iI 5 := rfl
theorem li_6 : (6 : Int32) = iI 6 := rfl
theorem li_7 : (7 : Int32) = iI 7 := rfl
theorem li_8 : (8 : Int32) = iI 8 := rfl
theorem li_9 : (9 : Int32) = iI 9 := rfl
theorem li_10 : (10 : Int32) = iI 10 := rfl
theorem li_11 : (11 : Int32) = iI 11 := rfl
theorem li_12 : (12 : Int32) = iI 12 := rfl
theorem li_13 : (13 : Int32) = iI 13 := rfl
theorem li_15 : (15 : Int32) = iI 15 := rfl
theorem li_16 : (16 : Int32) = iI 16 := rfl
theorem li_18 : (18 : Int32) = iI 18 := rfl
theorem li_20 : (20 : Int32) = iI 20 := rfl
theorem li_24 : (24 : Int32) = iI 24 := rfl
theorem li_31 : (31 : Int32) = iI 31 := rfl
theorem li_32 : (32 : Int32) = iI 32 := rfl
theorem li_40 : (40 : Int32) = iI 40 := rfl
theorem li_46 : (46 : Int32) = iI 46 := rfl
theorem li_48 : (48 : Int32) = iI 48 := rfl
theorem li_54 : (54 : Int32) = iI 54 := rfl
theorem li_57 : (57 : Int32) = iI 57 := rfl
theorem li_59 : (59 : Int32) = iI 59 := rfl
theorem li_60 : (60 : Int32) = iI 60 := rfl
theorem li_61 : (61 : Int32) = iI 61 := rfl
theorem li_63 : (63 : Int32) = iI 63 := rfl
theorem li_64 : (64 : Int32) = iI 64 := rfl
theorem li_97 : (97 : Int32) = iI 97 := rfl
theorem li_99 : (99 : Int32) = iI 99 := rfl
theorem li_122 : (122 : Int32) = iI 122 := rfl
theorem li_124 : (124 : Int32) = iI 124 := rfl
theorem li_150 : (150 : Int32) = iI 150 := rfl
theorem li_255 : (255 : Int32) = iI 255 := rfl
theorem li_480 : (480 : Int32) = iI 480 := rfl
theorem li_488 : (488 : Int32) = iI 488 := rfl
theorem li_600 : (600 : Int32) = iI 600 := rfl
theorem li_999 : (999 : Int32) = iI 999 := rfl
theorem li_1110 : (1110 : Int32) = iI 1110 := rfl
theorem tn_0 : Int.toNat 0 = 0 := rfl
theorem tn_1 : Int.toNat 1 = 1 := rfl
theorem tn_2 : Int.toNat 2 = 2 := rfl
theorem tn_3 : Int.toNat 3 = 3 := rfl
theorem tn_4 : Int.toNat 4 = 4 := rfl
theorem tn_5 : Int.toNat 5 = 5 := rfl
theorem ni_1 : ((1 : Int) = 0) = False := eq_false (by decide)
theorem ni_2 : ((2 : Int) = 0) = False := eq_false (by decide)
theorem ni_3 : ((3 : Int) = 0) = False := eq_false (by decide)
theorem ni_4 : ((4 : Int) = 0) = False := eq_false (by decide)
theorem ni_5 : ((5 : Int) = 0) = False := eq_false (by decide)
def qv (m : Nat → Int32) (k : Nat) : Int := (m k).toInt
def nH (m : Nat → Int32) : Nat := (qv m 0).toNat
def nS (m : Nat → Int32) : Nat := (qv m 1).toNat
def nC (m : Nat → Int32) : Nat := (qv m 2).toNat
def nB (m : Nat → Int32) : Nat := (qv m 3).toNat
def wd (m : Nat → Int32) (k : Nat) : Nat := (qv m (4 + 5 * k)).toNat
def tu (m : Nat → Int32) (k : Nat) : Int := qv m (5 + 5 * k)
def td (m : Nat → Int32) (k : Nat) : Nat := (qv m (6 + 5 * k)).toNat
def ct (m : Nat → Int32) (k s : Nat) : Nat := (qv m (7 + 5 * k + s)).toNat
def xS (m : Nat → Int32) (b : Nat) : Nat := (qv m (54 + 6 * b)).toNat
def xX (m : Nat → Int32) (b : Nat) : Nat := (qv m (55 + 6 * b)).toNat
def xY (m : Nat → Int32) (b : Nat) : Nat := (qv m (56 + 6 * b)).toNat
def xW (m : Nat → Int32) (b : Nat) : Nat := (qv m (57 + 6 * b)).toNat
def xD (m : Nat → Int32) (b : Nat) : Nat := (qv m (58 + 6 * b)).toNat
def xC (m : Nat → Int32) (b : Nat) : Nat := (qv m (59 + 6 * b)).toNat
def fc (m : Nat → Int32) (s c r : Nat) : Nat := (qv m (150 + 480 * s + 8 * c + r)).toNat
def WF (m : Nat → Int32) : Prop :=
  (1 ≤ qv m 0 ∧ qv m 0 ≤ 8) ∧ (0 ≤ qv m 1 ∧ qv m 1 ≤ 10) ∧ (1 ≤ qv m 2 ∧ qv m 2 ≤ 99) ∧ (0 ≤ qv m 3 ∧ qv m 3 ≤ 16) ∧
  (∀ k, k < nS m → (1 ≤ qv m (4 + 5 * k) ∧ qv m (4 + 5 * k) ≤ 6) ∧ (-4 ≤ qv m (5 + 5 * k) ∧ qv m (5 + 5 * k) ≤ 4) ∧ (0 ≤ qv m (6 + 5 * k) ∧ qv m (6 + 5 * k) ≤ 1) ∧ (0 ≤ qv m (7 + 5 * k) ∧ qv m (7 + 5 * k) ≤ 99) ∧ (0 ≤ qv m (8 + 5 * k) ∧ qv m (8 + 5 * k) ≤ 99)) ∧
  (∀ b, b < nB m → (0 ≤ qv m (54 + 6 * b) ∧ qv m (54 + 6 * b) ≤ 1) ∧ (0 ≤ qv m (55 + 6 * b) ∧ qv m (55 + 6 * b) ≤ 63) ∧ (0 ≤ qv m (56 + 6 * b) ∧ qv m (56 + 6 * b) ≤ 63) ∧ (1 ≤ qv m (57 + 6 * b) ∧ qv m (57 + 6 * b) ≤ 64) ∧ (1 ≤ qv m (58 + 6 * b) ∧ qv m (58 + 6 * b) ≤ 64) ∧ (0 ≤ qv m (59 + 6 * b) ∧ qv m (59 + 6 * b) ≤ 9)) ∧
  (∀ q, 150 ≤ q → q < 1110 → 0 ≤ qv m q ∧ qv m q ≤ 9)
section ZPu
variable {m : Nat → Int32}
theorem qv_nat {k : Nat} (h : 0 ≤ qv m k) : m k = iI ((qv m k).toNat : Nat) := by
  rw [Int.toNat_of_nonneg h]; exact (iI_of (m k)).symm
theorem qv_int (k : Nat) : m k = iI (qv m k) := (iI_of (m k)).symm
theorem wf_b (h : WF m) : 1 ≤ nH m ∧ nH m ≤ 8 ∧ nS m ≤ 10 ∧ 1 ≤ nC m ∧ nC m ≤ 99 ∧ nB m ≤ 16 := by
  obtain ⟨h0, h1, h2, h3, _⟩ := h
  unfold nH nS nC nB
  omega
theorem wf_0 (h : WF m) : m 0 = iI (nH m) := qv_nat (by have := h.1; omega)
theorem wf_1 (h : WF m) : m 1 = iI (nS m) := qv_nat (by have := h.2.1; omega)
theorem wf_2 (h : WF m) : m 2 = iI (nC m) := qv_nat (by have := h.2.2.1; omega)
theorem wf_3 (h : WF m) : m 3 = iI (nB m) := qv_nat (by have := h.2.2.2.1; omega)
theorem wf_s (h : WF m) {k : Nat} (hk : k < nS m) : 1 ≤ wd m k ∧ wd m k ≤ 6 ∧ -4 ≤ tu m k ∧ tu m k ≤ 4 ∧ td m k ≤ 1 ∧ ct m k 0 ≤ 99 ∧ ct m k 1 ≤ 99 := by
  have := h.2.2.2.2.1 k hk
  unfold wd tu td ct
  rw [show 7 + 5 * k + 0 = 7 + 5 * k by omega, show 7 + 5 * k + 1 = 8 + 5 * k by omega]
  omega
theorem wf_w (h : WF m) {k : Nat} (hk : k < nS m) : m (4 + 5 * k) = iI (wd m k) := qv_nat (by have := (h.2.2.2.2.1 k hk).1; omega)
theorem wf_t (k : Nat) : m (5 + 5 * k) = iI (tu m k) := qv_int _
theorem wf_d (h : WF m) {k : Nat} (hk : k < nS m) : m (6 + 5 * k) = iI (td m k) := qv_nat (by have := (h.2.2.2.2.1 k hk).2.2.1; omega)
theorem wf_c (h : WF m) {k s : Nat} (hk : k < nS m) (hs : s < 2) : m (7 + 5 * k + s) = iI (ct m k s) := by
  have h2 := (h.2.2.2.2.1 k hk).2.2.2
  refine qv_nat ?_
  match s, hs with
  | 0, _ => rw [show 7 + 5 * k + 0 = 7 + 5 * k by omega]; omega
  | 1, _ => rw [show 7 + 5 * k + 1 = 8 + 5 * k by omega]; omega
theorem wf_x (h : WF m) {b : Nat} (hb : b < nB m) : xS m b ≤ 1 ∧ xX m b ≤ 63 ∧ xY m b ≤ 63 ∧ 1 ≤ xW m b ∧ xW m b ≤ 64 ∧ 1 ≤ xD m b ∧ xD m b ≤ 64 ∧ xC m b ≤ 9 := by
  have := h.2.2.2.2.2.1 b hb
  unfold xS xX xY xW xD xC
  omega
theorem wf_x0 (h : WF m) {b : Nat} (hb : b < nB m) : m (54 + 6 * b) = iI (xS m b) := qv_nat (by have := h.2.2.2.2.2.1 b hb; omega)
theorem wf_x1 (h : WF m) {b : Nat} (hb : b < nB m) : m (55 + 6 * b) = iI (xX m b) := qv_nat (by have := h.2.2.2.2.2.1 b hb; omega)
theorem wf_x2 (h : WF m) {b : Nat} (hb : b < nB m) : m (56 + 6 * b) = iI (xY m b) := qv_nat (by have := h.2.2.2.2.2.1 b hb; omega)
theorem wf_x3 (h : WF m) {b : Nat} (hb : b < nB m) : m (57 + 6 * b) = iI (xW m b) := qv_nat (by have := h.2.2.2.2.2.1 b hb; omega)
theorem wf_x4 (h : WF m) {b : Nat} (hb : b < nB m) : m (58 + 6 * b) = iI (xD m b) := qv_nat (by have := h.2.2.2.2.2.1 b hb; omega)
theorem wf_x5 (h : WF m) {b : Nat} (hb : b < nB m) : m (59 + 6 * b) = iI (xC m b) := qv_nat (by have := h.2.2.2.2.2.1 b hb; omega)
theorem wf_f (h : WF m) {s c r : Nat} (hs : s < 2) (hc : c < 60) (hr : r < 8) : m (150 + 480 * s + 8 * c + r) = iI (fc m s c r) := qv_nat (by have := h.2.2.2.2.2.2 (150 + 480 * s + 8 * c + r) (by omega) (by omega); omega)
theorem wf_f9 (h : WF m) {s c r : Nat} (hs : s < 2) (hc : c < 60) (hr : r < 8) : fc m s c r ≤ 9 := by
  have := h.2.2.2.2.2.2 (150 + 480 * s + 8 * c + r) (by omega) (by omega)
  unfold fc; omega
end ZPu
/-! slats and pictures -/
def fst (m : Nat → Int32) (k : Nat) : Nat := fb_sm (wd m) k
def cols (m : Nat → Int32) : Nat := fst m (nS m)
def slatOf (m : Nat → Int32) (c : Nat) : Nat := fa_first (fun k => decide (c < fst m (k + 1))) (nS m)
def boxHas (m : Nat → Int32) (b s c r : Nat) : Prop := xS m b = s ∧ (xX m b ≤ c ∧ c < xX m b + xW m b) ∧ (xY m b ≤ r ∧ r < xY m b + xD m b)
theorem boxHas_dec (m : Nat → Int32) (b s c r : Nat) : boxHas m b s c r ∨ ¬ boxHas m b s c r := Classical.em _
noncomputable def picN (m : Nat → Int32) (s c r : Nat) : Nat → Nat
  | 0 => 0
  | b + 1 => if xS m b = s ∧ (xX m b ≤ c ∧ c < xX m b + xW m b) ∧ (xY m b ≤ r ∧ r < xY m b + xD m b) then xC m b else picN m s c r b
noncomputable def pic (m : Nat → Int32) (s c r : Nat) : Nat := picN m s c r (nB m)
def boxesOf (m : Nat → Int32) (s : Nat) : Nat := fb_ct (fun b => decide (xS m b = s)) (nB m)
def tiedMany (m : Nat → Int32) : Nat := fb_sm (td m) (nS m)
def seamB (m : Nat → Int32) (k : Nat) : Int := if k + 1 = nS m then 0 else tu m k - tu m (k + 1)
def seamsN (m : Nat → Int32) (sg : Int) : Nat := fb_ct (fun k => decide (0 < sg * seamB m k)) (nS m)
noncomputable def unl (m : Nat → Int32) (k s : Nat) : Nat := fb_sm (fun j => fb_ct (fun r => decide (fc m s (fst m k + j) r ≠ pic m s (fst m k + j) r)) (nH m)) (wd m k)
noncomputable def commonN (m : Nat → Int32) : Nat := fb_sm (fun c => fb_ct (fun r => decide (pic m 0 c r = pic m 1 c r)) (nH m)) (cols m)
/-! what is seen -/
def lean (m : Nat → Int32) (k : Nat) (a : Int) : Int := max (-6) (min 6 (a - tu m k))
def shw (w : Nat) (le : Int) : Nat := (w * le.natAbs + 5) / 6
def hid (w p : Nat) (le : Int) : Prop := (0 < le ∧ (p : Int) < (w : Int) - (shw w le : Int)) ∨ (le ≤ 0 ∧ shw w le ≤ p)
def stt (m : Nat → Int32) (a : Int) (c : Nat) : Nat :=
  if 0 < slatOf m c ∧ ((c - fst m (slatOf m c) : Nat) : Int) < seamB m (slatOf m c - 1) then 1
  else if (wd m (slatOf m c) : Int) + seamB m (slatOf m c) ≤ ((c - fst m (slatOf m c) : Nat) : Int) then 2
  else if (0 < lean m (slatOf m c) a ∧ ((c - fst m (slatOf m c) : Nat) : Int) < (wd m (slatOf m c) : Int) - (shw (wd m (slatOf m c)) (lean m (slatOf m c) a) : Int)) ∨ (lean m (slatOf m c) a ≤ 0 ∧ shw (wd m (slatOf m c)) (lean m (slatOf m c) a) ≤ c - fst m (slatOf m c)) then 3 else 0
def sdS (m : Nat → Int32) (a : Int) (c : Nat) : Nat := if 0 < lean m (slatOf m c) a then 1 else 0
def cS (m : Nat → Int32) (a : Int) (c r : Nat) : Nat := fc m (sdS m a c) c r
noncomputable def whyN (m : Nat → Int32) (a : Int) (s c r : Nat) : Nat := if stt m a c ≠ 0 then stt m a c else if cS m a c r = pic m s c r then 0 else if sdS m a c ≠ s then 4 else 5
noncomputable def rgt (m : Nat → Int32) (a : Int) (s : Nat) : Nat := fb_sm (fun c => fb_ct (fun r => decide (whyN m a s c r = 0)) (nH m)) (cols m)
def colsAs (m : Nat → Int32) (a : Int) (lo hi : Nat) : Nat := fb_ct (fun c => decide (lo ≤ stt m a c ∧ stt m a c ≤ hi)) (cols m)
noncomputable def fstN (m : Nat → Int32) (a : Int) (s : Nat) : Nat := fa_first (fun i => decide (whyN m a s (i % cols m) (i / cols m) ≠ 0)) (cols m * nH m)
def isW (m : Nat → Int32) (a : Int) (s : Nat) : Prop := 0 < nS m ∧ fstN m a s = cols m * nH m
noncomputable def wrongN (m : Nat → Int32) (k : Nat) (a : Int) (s : Nat) : Nat := fb_sm (fun j => fb_ct (fun r => decide (whyN m a s (fst m k + j) r ≠ 0)) (nH m)) (wd m k)
noncomputable def ghostN (m : Nat → Int32) (a : Int) (s : Nat) : Nat := fb_sm (fun c => if stt m a c ≠ 0 then 0 else fb_ct (fun r => decide (cS m a c r ≠ pic m s c r ∧ cS m a c r = pic m (1 - s) c r)) (nH m)) (cols m)
/-- the turns of all slats anew -/
def wT (m : Nat → Int32) (t : Nat → Int) : Nat → Int32 := fun q => if 4 ≤ q ∧ q < 4 + 5 * nS m ∧ q % 5 = 0 then iI (t (q / 5 - 1)) else m q
/-- the first of the best, and how good it is -/
def bst (f : Nat → Int) (v : Nat → Int) (b0 m0 : Int) : Nat → Int × Int
  | 0 => (b0, m0)
  | n + 1 => if (bst f v b0 m0 n).2 < f n then (v n, f n) else bst f v b0 m0 n
/-- how many side by side: up to here, and the most -/
def rnn (p : Nat → Bool) : Nat → Nat × Nat
  | 0 => (0, 0)
  | n + 1 => ((if p n then (rnn p n).1 + 1 else 0), max (rnn p n).2 (if p n then (rnn p n).1 + 1 else 0))
/-- a set of bits -/
def bset (p : Nat → Bool) : Nat → Int32
  | 0 => 0
  | n + 1 => if p n then bset p n ||| (iI 1 <<< (iI (n : Nat) &&& iI 31)) else bset p n

