/-! the class: undo, save, restore, report, feed, truncate -/
section ZCU
variable {g : zG} {l : Launch} {K : Int32 → zS → Prop} {X : String → zS → Prop} {m m' : Nat → Int32} {σ : zS}
theorem c_undo {u : Nat} {h : Nat → Nat → Int32} (hH : HsC σ u h) (hhw : ∀ i, i < u → WF (h i)) (H0 : u = 0 → K (iI (-1)) σ) (H1 : 0 < u → ∀ τ, FrP pU σ τ → Nw τ (h 0) → HsC τ (u - 1) (fun i => h (i + 1)) → K (iI (u - 1 : Nat)) τ) : CT g l M_X6_undo 0 [.ref (zad g 0)] σ (zQi K X) := by
  refine b_X6_undo (c_takeBack hH hhw (fun e => ?_) (fun e τ hF hN hH' => ?_))
  · exact ⟨fun _ => H0 e, fun q => absurd rfl q⟩
  · refine ⟨fun q => absurd q (by decide), fun _ => ?_⟩
    obtain ⟨nx, _, _, h1, _⟩ := id hH'
    rw [h1]
    exact H1 e τ hF hN hH'
/-- what the class has saved -/
def SvC (σ : zS) (sv : Nat) (a : Nat → Int32) : Prop := sv < 2 ∧ σ.1 0 11 = iI sv ∧ (sv = 1 → Nb σ 83 a)
theorem SvC.fr {sv : Nat} {a : Nat → Int32} {τ : zS} (H : SvC σ sv a) (h1 : τ.1 0 11 = σ.1 0 11) (h2 : ∀ b, 83 ≤ b → b < 93 → τ.1 b = σ.1 b) : SvC τ sv a :=
  ⟨H.1, h1.trans H.2.1, fun e => (H.2.2 e).fr (fun b h3 h4 => h2 b h3 (by omega))⟩
/-- the class's report -/
def RpC (σ : zS) (n : Nat) (f : Nat → Nat) : Prop := n ≤ 488 ∧ σ.1 0 9 = iI n ∧ ∀ i, i < n → σ.1 23 i = iI (f i)
theorem RpC.fr {n : Nat} {f : Nat → Nat} {τ : zS} (H : RpC σ n f) (h1 : τ.1 0 9 = σ.1 0 9) (h2 : τ.1 23 = σ.1 23) : RpC τ n f := ⟨H.1, h1.trans H.2.1, fun i hi => by rw [h2]; exact H.2.2 i hi⟩
def pR (b : Nat) : Prop := b = 0 ∨ b = 23
theorem sg_ok : ∀ v, v < 10 → zi2c (48 + nI v) = nI (48 + v) ∧ narrow .char (.int (nI (48 + v))) = .int (nI (48 + v)) := by decide +kernel
theorem sgN_lt {v : Int} (h1 : -2 ≤ v) (h2 : v ≤ 9) : sgN v < 128 := by
  unfold sgN; split
  · omega
  · split <;> omega
def pRV (b : Nat) : Prop := b = 0 ∨ b = 23 ∨ b = 19 ∨ b = 20 ∨ b = 21
/-- a byte as the class holds it -/
def sbN (v : Nat) : Int32 := (iI (v : Int)).toInt8.toInt32
theorem tbv_c {v : Int32} {k : Nat} (hk : k ≤ 24) : vp_nar .byte (zi2b (zushr v (iI (k : Int)))) = sbN (tbv v k) := by
  rw [vp_nar_byte]
  show (zushr v (iI (k : Int))).toInt8.toInt32.toInt8.toInt32 = _
  rw [fb_byte_twice]
  unfold sbN
  congr 1
  rw [← fa_byte_low (zushr v (iI (k : Int)))]
  congr 1
  apply b_ext
  intro i hi
  rw [b_and, b_255, show iI (k : Int) = nI k from rfl, bt_ushr (by omega), show iI (tbv v k : Int) = nI (tbv v k) from rfl, bt_nI _ _ hi, tbv_bit]
  by_cases h : i < 8 <;> simp [h]
def TxC (σ : zS) (n : Nat) (f : Nat → Nat) : Prop := n ≤ 600 ∧ σ.1 1 1 = iI n ∧ ∀ i, i < n → σ.1 2 i = sbN (f i)
theorem TxC.fr {n : Nat} {f : Nat → Nat} {τ : zS} (H : TxC σ n f) (h1 : τ.1 1 1 = σ.1 1 1) (h2 : τ.1 2 = σ.1 2) : TxC τ n f := ⟨H.1, h1.trans H.2.1, fun i hi => by rw [h2]; exact H.2.2 i hi⟩
def pT (b : Nat) : Prop := b = 1 ∨ b = 2
theorem c_append_3 {K : zS → Prop} {σ0 : zS} {n : Nat} {f : Nat → Nat} {v : Int32} (hn : n + 4 ≤ 600) (H : ∀ τ, FrP pT σ0 τ → (∀ k, k ≠ 1 → τ.1 1 k = σ0.1 1 k) → TxC τ (n + 4) (app f n v) → K τ) (j : Nat) (hj : j ≤ 4) (σ : zS) (hF : FrP pT σ0 σ) (h1 : ∀ k, k ≠ 1 → σ.1 1 k = σ0.1 1 k) (hT : TxC σ (n + j) (app f n v)) : L_X3_append_3 g l K X v (iI (24 - 8 * (j : Int))) σ := by
  have ih := fun h σ a b c => c_append_3 hn H (j + 1) h σ a b c
  refine b_X3_append_3 ?_
  rw [hT.2.1]
  simp (disch := omega) only [li_0, li_8, li_600, iI_lt, iI_le, iI_neg, iI_add]
  refine ⟨fun h => ?_, fun h => ⟨fun h2 => by omega, fun h2 => ⟨iI_in (by omega) (by omega) (by omega), ?_⟩⟩⟩
  · obtain rfl : j = 4 := by omega
    exact H σ hF h1 hT
  · intro σ3 e3 σ4 e4
    rw [show (24 - 8 * (j : Int)) = ((24 - 8 * j : Nat) : Int) by omega, tbv_c (by omega), show (Int32.toNatClampNeg (iI ((n + j : Nat) : Int))) = n + j by rw [iI_tn (by omega) (by omega)]; rfl] at e3
    have z1 : σ4.1 1 = upd (σ.1 1) 1 (iI (n + j + 1 : Nat)) := by
      rw [e4, e3, zpt_at, zpt_ne (by decide), hT.2.1, li_1, iI_add]; rfl
    have z2 : σ4.1 2 = upd (σ.1 2) (n + j) (sbN (tbv v (24 - 8 * j))) := by rw [e4, zpt_ne (by decide), e3, zpt_at]
    have f4 : FrP pT σ σ4 := by
      rw [e4, e3]
      exact ((FrP.rf pT σ).up (Or.inr rfl) _).up (Or.inl rfl) _
    rw [show (24 - 8 * (j : Int)) + -8 = 24 - 8 * ((j + 1 : Nat) : Int) by omega]
    refine ih (by omega) σ4 (hF.tr f4) (fun k hk => by rw [z1, pk_un hk]; exact h1 k hk) ⟨by omega, by rw [z1, pk_us]; rfl, fun i hi => ?_⟩
    rw [z2]
    by_cases e2 : i = n + j
    · subst e2
      rw [pk_us]
      unfold app
      rw [if_neg (by omega), show n + j - n = j by omega]
    · rw [pk_un e2]; exact hT.2.2 i (by omega)
termination_by 4 - j
theorem c_append {K : zS → Prop} {n : Nat} {f : Nat → Nat} {v : Int32} (hT : TxC σ n f) (hn : n + 4 ≤ 600) (H : ∀ τ, FrP pT σ τ → (∀ k, k ≠ 1 → τ.1 1 k = σ.1 1 k) → TxC τ (n + 4) (app f n v) → K τ) : CT g l M_X3_append 0 [.ref (zad g 1), .int v] σ (zQv K X) :=
  b_X3_append (c_append_3 hn H 0 (by omega) σ (FrP.rf _ _) (fun _ _ => rfl) ⟨hT.1, hT.2.1, fun i hi => by
    unfold app
    rw [if_pos (show i < n by omega)]
    exact hT.2.2 i hi⟩)
theorem c_feed {n : Nat} {f : Nat → Nat} {a b c d e : Int32} (hT : TxC σ n f) (H0 : n + 20 ≤ 600 → ∀ τ, FrP pT σ τ → (∀ k, k ≠ 1 → τ.1 1 k = σ.1 1 k) → TxC τ (n + 20) (app5 f n a b c d e) → K (iI (n + 20 : Nat)) τ) (H1 : ¬ n + 20 ≤ 600 → X xS' σ) : CT g l M_X6_feed 1 [.ref (zad g 0), .int a, .int b, .int c, .int d, .int e] σ (zQi K X) := by
  have hn := hT.1
  refine b_X6_feed ?_
  rw [hT.2.1]
  try simp (disch := omega) only [iI_add, iI_sub, iI_mul, iI_neg, iI_n, iI_lt, iI_le, iI_eq, iI_tn, iI_ti, bI_0, bI_1, iI_L, iL_0, Decidable.not_not, Int.toNat_natCast, zpt_at, zpt_ne, pk_us, pk_un, forall_eq, tn_0, tn_1, tn_2, tn_3, tn_4, tn_5, ni_1, ni_2, ni_3, ni_4, ni_5, not_false_eq_true, not_true_eq_false, true_implies, false_implies, and_true, true_and, iL_6, iL_m6, iL_7, iL_8, iL_9, iL_4, iL_m4, iL_m8, li_0, li_1, li_2, li_3, li_4, li_5, li_6, li_7, li_8, li_9, li_10, li_11, li_12, li_13, li_15, li_16, li_18, li_20, li_24, li_31, li_32, li_40, li_46, li_48, li_57, li_59, li_60, li_61, li_63, li_64, li_97, li_99, li_122, li_124, li_150, li_255, li_480, li_488, li_600, li_999, li_1110, li_54]
  refine ⟨fun h => ?_, fun h => H1 (by omega)⟩
  refine c_append hT (by omega) (fun τ1 f1 k1 t1 => c_append t1 (by omega) (fun τ2 f2 k2 t2 => c_append t2 (by omega) (fun τ3 f3 k3 t3 => c_append t3 (by omega) (fun τ4 f4 k4 t4 => c_append t4 (by omega) (fun τ5 f5 k5 t5 => ?_)))))
  rw [t5.2.1]
  exact H0 (by omega) τ5 ((((f1.tr f2).tr f3).tr f4).tr f5) (fun k hk => (k5 k hk).trans ((k4 k hk).trans ((k3 k hk).trans ((k2 k hk).trans (k1 k hk))))) t5
theorem c_truncate {n : Nat} {f : Nat → Nat} (hT : TxC σ n f) {x : Int} (hx : I32 x) (H0 : ∀ i : Nat, x = i → i ≤ n → ∀ τ, FrP pT σ τ → (∀ k, k ≠ 1 → τ.1 1 k = σ.1 1 k) → TxC τ i f → K (iI i) τ) (H1 : ¬ (0 ≤ x ∧ x ≤ n) → X xA σ) : CT g l M_X6_truncate 1 [.ref (zad g 0), .int (iI x)] σ (zQi K X) := by
  have hn := hT.1
  refine b_X6_truncate ?_
  rw [hT.2.1]
  simp (disch := omega) only [li_0, iI_lt, iI_le]
  refine ⟨fun h => H1 (by omega), fun h => ⟨fun h2 σ3 e3 => ?_, fun h2 => H1 (by omega)⟩⟩
  obtain ⟨i, rfl, hi⟩ := nat_of (n := n + 1) (show 0 ≤ x ∧ x < ((n + 1 : Nat) : Int) by omega)
  have z1 : σ3.1 1 = upd (σ.1 1) 1 (iI i) := by rw [e3, zpt_at]
  have f3 : FrP pT σ σ3 := by
    rw [e3]
    exact (FrP.rf pT σ).up (Or.inl rfl) _
  refine H0 i rfl (by omega) σ3 f3 (fun k hk => by rw [z1, pk_un hk]) ⟨by omega, by rw [z1, pk_us], fun j hj => ?_⟩
  rw [e3, zpt_ne (by decide)]
  exact hT.2.2 j (by omega)
end ZCU

