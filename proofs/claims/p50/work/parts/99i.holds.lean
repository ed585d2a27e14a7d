/-! what must hold behind each change -/
section HLd
variable {G : fG} {l : Launch} {K : Int32 → Option zS → fW → Prop} {ax : Nat} {m : Nat → Int32} {ω : fW}
theorem cell_f (hw : WF m) {a : Int} {s c r : Nat} (hc : c < cols m) (hr : r < nH m) : (-2 ≤ snN m a c r ∧ snN m a c r ≤ 9) ∧ whyN m a s c r ≤ 5 ∧ (0 ≤ snN m a c r ↔ stt m a c = 0) ∧ (whyN m a s c r = 1 ↔ snN m a c r = -2) ∧ ((whyN m a s c r = 2 ∨ whyN m a s c r = 3) ↔ snN m a c r = -1) ∧ (whyN m a s c r = 0 → snN m a c r = pic m s c r) := by
  have h3 := stt_le m a c
  have hb := wf_b hw
  have hcl := cols_le hw
  have h9 : cS m a c r ≤ 9 := by
    unfold cS
    refine wf_f9 hw ?_ (by omega) (by omega)
    unfold sdS
    split <;> omega
  unfold snN
  rcases why_of (m := m) a s c r with ⟨w1, w2⟩ | ⟨w1, w2⟩
  · rw [w2, if_neg w1]
    by_cases e : stt m a c = 1
    · rw [if_pos e]; omega
    · rw [if_neg e]; omega
  · rw [if_pos w1]
    rcases w2 with ⟨w2, w3⟩ | ⟨w2, w3⟩
    · rw [w2]; omega
    · omega
theorem ho_100 {σ : zS} (J : JW G ax m σ ω) {a : Int} {s c r is A B kb : Nat} {y3 y4 y7 : Int32} (hs : s < 2) (hc : c < cols m) (hr : r < nH m) (his : is = if stt m a c = 0 then 1 else 0) (hkb : 1 ≤ kb)
    (H2 : ∀ kb', kb ≤ kb' + 1 → L_L_holds_58 G l K (iI a) (nI s) y3 y4 (nI (A + is)) (nI (B + if whyN m a s c r = 0 then 1 else 0)) y7 (nI c) (nI is) (nI (r + 1)) (some σ) ω kb') : L_L_holds_100 G l K (iI a) (nI s) y3 y4 (nI B) y7 (nI c) (nI is) (nI r) (iI (snN m a c r)) (nI (whyN m a s c r)) (nI is) (nI A) (some σ) ω kb := by
  have hw := J.2.1
  obtain ⟨f1, f2, f3, f4, f5, f6⟩ := cell_f hw (a := a) (s := s) hc hr
  have gp : ∀ {Kz : Int32 → zS → Prop} {n : Nat}, Kz (nI (pic m s c r)) σ → CT (gB G.1 n) l M_X6_picture 1 [.ref (zad G.1 0), .int (nI s), .int (nI c), .int (nI r)] σ (zQi Kz (fun _ _ => False)) := fun H => g_pic J.1 hw hs hc hr H
  have p9 := pic_le hw s c r
  have is2 : is < 2 := by rw [his]; split <;> omega
  have is1 : 0 ≤ snN m a c r ↔ is = 1 := by
    rw [f3, his]
    by_cases e : stt m a c = 0
    · rw [if_pos e]; omega
    · rw [if_neg e]; omega
  generalize snN m a c r = sn at f1 f2 f3 f4 f5 f6 is1 ⊢
  generalize whyN m a s c r = wy at f1 f2 f3 f4 f5 f6 H2 ⊢
  have d0 : iI sn < 0 ↔ sn < 0 := iI_lt (b := 0) (by omega) (by omega) (by omega) (by omega)
  have d1 : iI sn = -2 ↔ sn = -2 := iI_eq (b := -2) (by omega) (by omega) (by omega) (by omega)
  have d2 : iI sn = -1 ↔ sn = -1 := iI_eq (b := -1) (by omega) (by omega) (by omega) (by omega)
  have w0 : nI wy = 0 ↔ wy = 0 := nI_eq (b := 0) (by omega) (by omega)
  have w1 : nI wy = 1 ↔ wy = 1 := nI_eq (b := 1) (by omega) (by omega)
  have w2 : nI wy = 2 ↔ wy = 2 := nI_eq (b := 2) (by omega) (by omega)
  have w3 : nI wy = 3 ↔ wy = 3 := nI_eq (b := 3) (by omega) (by omega)
  have k187 : ∀ (A' B' t : Nat), (A' = A + is ∧ B' = B + if wy = 0 then 1 else 0) → L_L_holds_187 G l K (iI a) (nI s) y3 y4 (nI A') (nI B') y7 (nI c) (nI is) (nI r) (iI sn) (nI wy) (nI t) (nI t) (some σ) ω kb := by
    intro A' B' t hAB
    rw [hAB.1, hAB.2]
    have go : ∀ kb', kb ≤ kb' + 1 → L_L_holds_213 G l K (iI a) (nI s) y3 y4 (nI (A + is)) (nI (B + if wy = 0 then 1 else 0)) y7 (nI c) (nI is) (nI r) (some σ) ω kb' := fun kb' hk => b_L_holds_213 (by rw [nI_1]; exact H2 kb' hk)
    refine b_L_holds_187 ⟨fun _ => ⟨fun _ => go kb (by omega), fun y => ⟨σ, rfl, hkb, fun n => gp ⟨fun _ => go (kb - 1) (by omega), fun z => absurd ?_ z⟩⟩⟩, fun z => absurd rfl z⟩
    rw [f6 (w0.mp y), iI_n]
  have k176 : ∀ (A' B' t : Nat), (A' = A + is ∧ B' = B + if wy = 0 then 1 else 0) → ((wy = 2 ∨ wy = 3) ↔ t = 1) → t < 2 → L_L_holds_176 G l K (iI a) (nI s) y3 y4 (nI A') (nI B') y7 (nI c) (nI is) (nI r) (iI sn) (nI wy) (nI t) (some σ) ω kb := by
    intro A' B' t hAB ht ht2
    refine b_L_holds_176 ⟨fun y => ?_, fun y => ?_⟩
    · have : t = 0 := by
        have : ¬ sn = -1 := fun z => y (d2.mpr z)
        omega
      subst this
      exact k187 A' B' 0 hAB
    · have : t = 1 := ht.mp (f5.mpr (d2.mp y))
      subst this
      exact k187 A' B' 1 hAB
  have k156 : ∀ (A' B' t : Nat), (A' = A + is ∧ B' = B + if wy = 0 then 1 else 0) → L_L_holds_156 G l K (iI a) (nI s) y3 y4 (nI A') (nI B') y7 (nI c) (nI is) (nI r) (iI sn) (nI wy) (nI t) (nI t) (some σ) ω kb := by
    intro A' B' t hAB
    refine b_L_holds_156 ⟨fun z => absurd rfl z, fun _ => ⟨fun y => b_L_holds_171 (k176 A' B' 1 hAB ⟨fun _ => rfl, fun _ => Or.inl (w2.mp y)⟩ (by omega)), fun y2 => ⟨fun y3 => k176 A' B' 0 hAB ⟨fun z => absurd z (fun z => z.elim (fun z => y2 (w2.mpr z)) (fun z => y3 (w3.mpr z))), fun z => by omega⟩ (by omega), fun y => b_L_holds_171 (k176 A' B' 1 hAB ⟨fun _ => rfl, fun _ => Or.inr (w3.mp y)⟩ (by omega))⟩⟩⟩
  have k144 : ∀ (A' B' t : Nat), (A' = A + is ∧ B' = B + if wy = 0 then 1 else 0) → (wy = 1 ↔ t = 1) → t < 2 → L_L_holds_144 G l K (iI a) (nI s) y3 y4 (nI A') (nI B') y7 (nI c) (nI is) (nI r) (iI sn) (nI wy) (nI t) (some σ) ω kb := by
    intro A' B' t hAB ht ht2
    refine b_L_holds_144 ⟨fun y => ?_, fun y => ?_⟩
    · have : t = 0 := by
        have : ¬ sn = -2 := fun z => y (d1.mpr z)
        omega
      subst this
      exact k156 A' B' 0 hAB
    · have : t = 1 := ht.mp (f4.mpr (d1.mp y))
      subst this
      exact k156 A' B' 1 hAB
  have k128 : ∀ (A' B' : Nat), (A' = A + is ∧ B' = B + if wy = 0 then 1 else 0) → L_L_holds_128 G l K (iI a) (nI s) y3 y4 (nI A') (nI B') y7 (nI c) (nI is) (nI r) (iI sn) (nI wy) (nI is) (some σ) ω kb := by
    intro A' B' hAB
    exact b_L_holds_128 ⟨fun z => absurd rfl z, fun _ => ⟨fun y => k144 A' B' 0 hAB ⟨fun z => absurd (w1.mpr z) y, fun z => by omega⟩ (by omega), fun y => k144 A' B' 1 hAB ⟨fun _ => rfl, fun _ => w1.mp y⟩ (by omega)⟩⟩
  have k115 : ∀ (A' t : Nat), A' = A + is → t = (if wy = 0 then 1 else 0) → L_L_holds_115 G l K (iI a) (nI s) y3 y4 (nI A') y7 (nI c) (nI is) (nI r) (iI sn) (nI wy) (nI t) (nI B) (some σ) ω kb := by
    intro A' t hA ht
    refine b_L_holds_115 ⟨fun y => ?_, fun y => ?_⟩
    · have e : is = 0 := by
        have := d0.mp y
        omega
      have := k128 A' (B + t) ⟨hA, by rw [ht]⟩
      rw [nI_add]
      rw [e] at this ⊢
      exact this
    · have e : is = 1 := by
        have : ¬ sn < 0 := fun z => y (d0.mpr z)
        omega
      have := k128 A' (B + t) ⟨hA, by rw [ht]⟩
      rw [nI_add]
      rw [e] at this ⊢
      exact this
  refine b_L_holds_100 ⟨fun y => ?_, fun y => ?_⟩
  · rw [nI_add]
    exact k115 _ 0 rfl (by rw [if_neg (fun z => y (w0.mpr z))])
  · rw [nI_add]
    exact k115 _ 1 rfl (by rw [if_pos (w0.mp y)])
theorem rgC_s (a : Int) (s c r : Nat) : rgC m a s c (r + 1) = rgC m a s c r + (if whyN m a s c r = 0 then 1 else 0) := by
  show fb_ct _ r + (if decide (whyN m a s c r = 0) = true then 1 else 0) = _
  congr 1
  by_cases h : whyN m a s c r = 0
  · rw [if_pos h, if_pos (decide_eq_true h)]
  · rw [if_neg h, if_neg (by rw [decide_eq_true_iff]; exact h)]
theorem shC_s (a : Int) (c : Nat) : shC m a (c + 1) = shC m a c + (if stt m a c = 0 then 1 else 0) := by
  show fb_ct _ c + (if decide (stt m a c = 0) = true then 1 else 0) = _
  congr 1
  by_cases h : stt m a c = 0
  · rw [if_pos h, if_pos (decide_eq_true h)]
  · rw [if_neg h, if_neg (by rw [decide_eq_true_iff]; exact h)]
theorem ho_58 (hw : WF m) {a : Int} (ha : -6 ≤ a ∧ a ≤ 6) {s c is A B X : Nat} {y3 y7 : Int32} (hs : s < 2) (hc : c < cols m) (his : is = if stt m a c = 0 then 1 else 0) (H2 : ∀ τ kb, JW G ax m τ ω → X ≤ kb → L_L_holds_25 G l K (iI a) (nI s) y3 (nI (nH m)) (nI (A + is * nH m)) (nI (B + rgC m a s c (nH m))) y7 (nI (c + 1)) (some τ) ω kb) : ∀ (d r kb : Nat) (σ : zS), r + d = nH m → X + 3 * d ≤ kb → JW G ax m σ ω → L_L_holds_58 G l K (iI a) (nI s) y3 (nI (nH m)) (nI (A + is * r)) (nI (B + rgC m a s c r)) y7 (nI c) (nI is) (nI r) (some σ) ω kb
  | 0, r, kb, σ, hr, hkb, J => by
    have hb := wf_b hw
    have hr : r = nH m := by omega
    subst hr
    refine b_L_holds_58 ⟨fun _ => ?_, fun z => absurd (nI_le (Nat.le_refl _) (by omega)) z⟩
    rw [nI_1]
    exact H2 σ kb J (by omega)
  | d + 1, r, kb, σ, hr, hkb, J => by
    have hb := wf_b hw
    have hrr : r < nH m := by omega
    have his2 : is * (r + 1) = is * r + is := by rw [Nat.mul_add, Nat.mul_one]
    refine b_L_holds_58 ⟨fun z => absurd z (nI_ge hrr (by omega)), fun _ => ⟨σ, rfl, by omega, fun n => g_seen J.1 hw ha hc hrr (fun τ hF => ⟨by omega, fun n => g_why (J.look hF).1 hw ha hs hc hrr (fun τ2 hF2 => ?_)⟩)⟩⟩
    have J2 := (J.look hF).look hF2
    have key : L_L_holds_100 G l K (iI a) (nI s) y3 (nI (nH m)) (nI (B + rgC m a s c r)) y7 (nI c) (nI is) (nI r) (iI (snN m a c r)) (nI (whyN m a s c r)) (nI is) (nI (A + is * r)) (some τ2) ω (kb - 1 - 1) := by
      refine ho_100 J2 hs hc hrr his (by omega) (fun kb' hk' => ?_)
      have := ho_58 hw ha hs hc his H2 d (r + 1) kb' τ2 (by omega) (by omega) J2
      rw [rgC_s, his2, ← Nat.add_assoc, ← Nat.add_assoc] at this
      exact this
    have f3 := (cell_f hw (a := a) (s := s) hc hrr).2.2.1
    have f1 := (cell_f hw (a := a) (s := s) hc hrr).1
    have d0 : iI (snN m a c r) < 0 ↔ snN m a c r < 0 := iI_lt (b := 0) (by omega) (by omega) (by omega) (by omega)
    refine ⟨fun y => ?_, fun y => ?_⟩
    · have e : is = 0 := by
        rw [his, if_neg]
        have := d0.mp y
        omega
      rw [e] at key ⊢
      exact key
    · have e : is = 1 := by
        rw [his, if_pos]
        have : ¬ snN m a c r < 0 := fun z => y (d0.mpr z)
        exact f3.mp (by omega)
      rw [e] at key ⊢
      exact key
theorem ho_25 (hw : WF m) {a : Int} (ha : -6 ≤ a ∧ a ≤ 6) {s X : Nat} (hs : s < 2) (H2 : ∀ τ kb, JW G ax m τ ω → X ≤ kb → L_L_holds_228 G l K (iI a) (nI s) (nI (cols m)) (nI (nH m)) (nI (nH m * shC m a (cols m))) (nI (rgt m a s)) 0 0 (some τ) ω kb) : ∀ (d c kb : Nat) (σ : zS), c + d = cols m → X + (1 + 3 * nH m) * d ≤ kb → JW G ax m σ ω → L_L_holds_25 G l K (iI a) (nI s) (nI (cols m)) (nI (nH m)) (nI (nH m * shC m a c)) (nI (fb_sm (fun c => rgC m a s c (nH m)) c)) 0 (nI c) (some σ) ω kb
  | 0, c, kb, σ, hc, hkb, J => by
    have hcl := cols_le hw
    have hc : c = cols m := by omega
    subst hc
    exact b_L_holds_25 ⟨fun _ => H2 σ kb J (by omega), fun z => absurd (nI_le (Nat.le_refl _) (by omega)) z⟩
  | d + 1, c, kb, σ, hc, hkb, J => by
    have hcl := cols_le hw
    have hcc : c < cols m := by omega
    rw [Nat.mul_succ] at hkb
    have ej : iI a + 6 = nI (a + 6).toNat := by
      rw [show (6 : Int32) = iI 6 from rfl, iI_add, iI_n]
      congr 1
      omega
    have eb : (-6 + (((a + 6).toNat : Nat) : Int)) = a := by omega
    have hbt := sfN_bt (m := m) (c := c) (j := (a + 6).toNat) (by omega)
    rw [eb] at hbt
    have go : ∀ (is : Nat) (τ : zS), JW G ax m τ ω → is = (if stt m a c = 0 then 1 else 0) → L_L_holds_53 G l K (iI a) (nI s) (nI (cols m)) (nI (nH m)) (nI (nH m * shC m a c)) (nI (fb_sm (fun c => rgC m a s c (nH m)) c)) 0 (nI c) (nI is) (some τ) ω (kb - 1) := fun is τ J2 his => by
      refine b_L_holds_53 ?_
      have := ho_58 (K := K) (l := l) hw ha (A := nH m * shC m a c) (B := fb_sm (fun c => rgC m a s c (nH m)) c) (y3 := nI (cols m)) (y7 := 0) hs hcc his (X := X + (1 + 3 * nH m) * d) (fun τ2 kb2 J3 hk2 => by
        have := ho_25 hw ha hs H2 d (c + 1) kb2 τ2 (by omega) hk2 J3
        rw [shC_s, ← his, Nat.mul_add, Nat.mul_comm (nH m) is] at this
        exact this) (nH m) 0 (kb - 1) τ (by omega) (by omega) J2
      rw [Nat.mul_zero, Nat.add_zero] at this
      exact this
    refine b_L_holds_25 ⟨fun z => absurd z (nI_ge hcc (by omega)), fun _ => ⟨σ, rfl, by omega, fun n => g_shown J.1 hw hcc (fun τ hF => ?_)⟩⟩
    rw [ej, bit_v (by omega)]
    by_cases h : stt m a c = 0
    · rw [if_pos (hbt.mpr h)]
      exact ⟨fun z => absurd rfl z, fun _ => go 1 τ (J.look hF) (by rw [if_pos h])⟩
    · rw [if_neg (fun z => h (hbt.mp z))]
      exact ⟨fun _ => go 0 τ (J.look hF) (by rw [if_neg h]), fun z => absurd z (by decide)⟩
theorem cols24 (hw : WF m) (hS : nS m ≤ 4) : cols m ≤ 24 := by
  have := (fst_le hw (Nat.le_refl (nS m))).1
  unfold cols
  omega
theorem cells96 (hw : WF m) (hS : nS m ≤ 4) (hH : nH m ≤ 4) : cols m * nH m ≤ 96 := Nat.le_trans (Nat.mul_le_mul (cols24 hw hS) hH) (by decide)
theorem ho_443 {σ : zS} (J : JW G ax m σ ω) {a : Int} (ha : -6 ≤ a ∧ a ≤ 6) {s kb : Nat} (hs : s < 2) (hkb : 4 ≤ kb) (HK : ∀ τ, JW G ax m τ ω → K 1 (some τ) ω) : L_L_holds_443 G l K (iI a) (nI s) (nI (cols m)) (nI (rgt m a s)) (some σ) ω kb := by
  have hw := J.2.1
  have h4 := J.2.2.1.1
  have hb := wf_b hw
  have hcl := cols_le hw
  have h96 := cells96 hw h4.1 h4.2
  have fin : ∀ τ kb, JW G ax m τ ω → L_L_holds_479 G l K (some τ) ω kb := fun τ kb J2 => b_L_holds_479 (b_L_holds_484 ⟨zbl_1, HK τ J2⟩)
  refine b_L_holds_443 ⟨fun _ => fin σ kb J, fun y => ?_⟩
  have h0 : cols m ≠ 0 := fun z => y (by rw [z]; rfl)
  have hS0 : nS m ≠ 0 := fun z => by
    have := (fst_le hw (Nat.le_refl (nS m))).1
    unfold cols at h0
    omega
  have hpos : 0 < cols m * nH m := Nat.mul_pos (by omega) (by omega)
  obtain ⟨j, j1, j2, j3⟩ := ba_ok m s
  obtain ⟨i, i1, i2, i3⟩ := li_ok m
  have hop : ∀ b, opN m b ≤ cols m * nH m := fun b => by have := sh_all m b; omega
  have r1 := rgt_le hw a s
  have r2 := rgt_le hw (-6 + (j : Int)) s
  refine ⟨σ, rfl, Nat.zero_le _, fun n => g_best J.1 hw hS0 hs (fun τ hF => ?_)⟩
  have J1 := J.look hF
  rw [j2]
  refine ⟨by omega, fun n => g_right J1.1 hw (by omega) hs (fun τ2 hF2 => ⟨fun z => absurd z (nI_nlt (j3 a ha.1 ha.2) (by omega)), fun _ => ⟨Nat.zero_le _, fun n => g_lightest (J1.look hF2).1 hw hS0 (fun τ3 hF3 => ?_)⟩⟩)⟩
  have J3 := (J1.look hF2).look hF3
  rw [i2]
  refine ⟨by omega, fun n => g_light J3.1 hw h0 (by omega) (fun τ4 hF4 => ⟨by omega, fun n => g_light (J3.look hF4).1 hw h0 ha (fun τ5 hF5 => ⟨fun z => absurd z (qo_ge ⟨hpos, by omega⟩ (i3 a ha.1 ha.2) ?_), fun _ => fin τ5 _ ((J3.look hF4).look hF5)⟩)⟩)⟩
  have := hop (-6 + (i : Int))
  omega
theorem ho_388 {σ : zS} (J : JW G ax m σ ω) {a : Int} (ha : -6 ≤ a ∧ a ≤ 6) {s kb : Nat} (hs : s < 2) (hkb : 6 ≤ kb) (HK : ∀ τ, JW G ax m τ ω → K 1 (some τ) ω) : L_L_holds_388 G l K (iI a) (nI s) (nI (cols m)) (nI (rgt m a s)) (nI s) (nI (wN m a 0 + 2 * wN m a 1)) (some σ) ω kb := by
  have hw := J.2.1
  have hcl := cols_le hw
  have hb := wf_b hw
  have eb : ((nI (wN m a 0 + 2 * wN m a 1) >>> (nI s &&& 31)) &&& 1) = nI (wN m a s) := by
    rw [whole_bit _ (wN_le m a 0) _ (wN_le m a 1) s hs]
    by_cases e : s = 0
    · rw [if_pos e, e]
    · rw [if_neg e, show s = 1 by omega]
  have w2 := wN_le m a s
  have ew : nI (wN m a s) = 1 ↔ wN m a s = 1 := nI_eq (b := 1) (by omega) (by omega)
  have k426 : ∀ (τ : zS) (kb' : Nat), JW G ax m τ ω → 5 ≤ kb' → L_L_holds_426 G l K (iI a) (nI s) (nI (cols m)) (nI (rgt m a s)) (nI (wN m a s)) (some τ) ω kb' := fun τ kb' J2 hk' => by
    refine b_L_holds_426 ⟨fun _ => ho_443 J2 ha hs (by omega) HK, fun y => ⟨τ, rfl, by omega, fun n => g_need J2.1 hw ha hs (fun τ2 hF => ⟨fun _ => ho_443 (J2.lookW hF) ha hs (by omega) HK, fun z => absurd ?_ z⟩)⟩⟩
    unfold tnN
    rw [if_pos (ew.mp y)]
    rfl
  refine b_L_holds_388 ?_
  rw [eb]
  refine ⟨fun _ => k426 σ kb J (by omega), fun y => ?_⟩
  have h0 : cols m ≠ 0 := fun z => y (by rw [z]; exact nI_le (b := 0) (Nat.le_refl 0) (by omega))
  have hS0 : 0 < nS m := by
    have := (fst_le hw (Nat.le_refl (nS m))).1
    unfold cols at h0
    omega
  have hcells := cells_le hw
  have k408 : ∀ t : Nat, (wN m a s = 1 ↔ t = 1) → t < 2 → L_L_holds_408 G l K (iI a) (nI s) (nI (cols m)) (nI (rgt m a s)) (nI (wN m a s)) (nI t) (some σ) ω kb := fun t ht t2 => by
    have hfw : fwN m a s = -1 ↔ wN m a s = 1 := by
      rw [wN_1]
      unfold fwN isW
      by_cases e : fstN m a s = cols m * nH m
      · rw [if_pos e]
        exact ⟨fun _ => ⟨hS0, e⟩, fun _ => rfl⟩
      · rw [if_neg e]
        exact ⟨fun z => by omega, fun z => absurd z.2 e⟩
    have hfb : -1 ≤ fwN m a s ∧ fwN m a s ≤ 480 := by
      have := fa_first_le (fun i => decide (whyN m a s (i % cols m) (i / cols m) ≠ 0)) (cols m * nH m)
      unfold fwN
      split
      · omega
      · unfold fstN; omega
    have hfi : iI (fwN m a s) = -1 ↔ fwN m a s = -1 := iI_eq (b := -1) (by omega) (by omega) (by omega) (by omega)
    refine b_L_holds_408 ⟨σ, rfl, by omega, fun n => g_first J.1 hw ha hs (fun τ hF => ⟨fun z => ?_, fun z => ?_⟩)⟩
    · have : t = 0 := by
        have : ¬ wN m a s = 1 := fun w => z (hfi.mpr (hfw.mpr w))
        omega
      subst this
      exact b_L_holds_423 ⟨fun z => absurd rfl z, fun _ => k426 τ _ (J.look hF) (by omega)⟩
    · have : t = 1 := ht.mp (hfw.mp (hfi.mp z))
      subst this
      exact b_L_holds_423 ⟨fun z => absurd rfl z, fun _ => k426 τ _ (J.look hF) (by omega)⟩
  refine ⟨fun z => k408 0 ⟨fun w => absurd (ew.mpr w) z, fun w => by omega⟩ (by omega), fun z => k408 1 ⟨fun _ => rfl, fun _ => ew.mp z⟩ (by omega)⟩
theorem ho_228 (hw : WF m) {a : Int} (ha : -6 ≤ a ∧ a ≤ 6) {s : Nat} (hs : s < 2) (HK : ∀ τ, JW G ax m τ ω → K 1 (some τ) ω) : ∀ (d k kb : Nat) (σ : zS), k + d = nS m → 14 + 13 * d ≤ kb → JW G ax m σ ω → L_L_holds_228 G l K (iI a) (nI s) (nI (cols m)) (nI (nH m)) (nI (nH m * shC m a (cols m))) (nI (rgt m a s)) (nI (fst m k)) (nI k) (some σ) ω kb
  | 0, k, kb, σ, hk, hkb, J => by
    have hb := wf_b hw
    have hcl := cols_le hw
    have hk : k = nS m := by omega
    subst hk
    have hsum := sh_all m a
    have hcells := cells_le hw
    have hgl := gh_le m a s
    have hr := (rnn_b (fun c => decide (stt m a c = 0)) (cols m)).2
    refine b_L_holds_228 ⟨σ, rfl, by omega, fun n => g_set (z := 0) J (by omega) (fun _ => rfl) ⟨fun _ => ⟨fun z => absurd rfl z, fun _ => ⟨by omega, fun n => g_open J.1 hw ha (fun τ hF => ⟨by omega, fun n => g_cov (J.look hF).1 hw ha (fun τ2 hF2 => ?_)⟩)⟩⟩, fun z => absurd ?_ z⟩⟩
    · have J2 := (J.look hF).look hF2
      rw [nI_add, nI_add, hsum, iI_n (cols m), iI_n (nH m), iI_mul, ← Int.natCast_mul, ← iI_n]
      refine ⟨fun z => absurd rfl z, fun _ => ⟨by omega, fun n => g_right J2.1 hw ha hs (fun τ3 hF3 => ⟨fun z => absurd rfl z, fun _ => ⟨by omega, fun n => g_ghost (J2.look hF3).1 hw ha hs (fun τ4 hF4 => ?_)⟩⟩)⟩⟩
      have J4 := (J2.look hF3).look hF4
      rw [nI_add]
      refine ⟨fun z => absurd z (nI_nlt hgl (by omega)), fun _ => ⟨by omega, fun n => g_run J4.1 hw ha (fun τ5 hF5 => ⟨fun _ => ⟨by omega, fun n => g_whole (J4.look hF5).1 hw ha (fun τ6 hF6 => ?_)⟩, fun z => absurd (nI_le hr (by omega)) z⟩)⟩⟩
      have J6 := (J4.look hF5).look hF6
      have key := fun kb' hk' => ho_388 (l := l) (kb := kb') J6 ha hs hk' HK
      refine ⟨fun z => ?_, fun z => ?_⟩
      · have : s = 0 := (nI_eq (b := 0) (by omega) (by omega)).mp z
        subst this
        exact key _ (by omega)
      · have : s = 1 := by
          have : s ≠ 0 := fun w => z (by rw [w]; rfl)
          omega
        subst this
        exact key _ (by omega)
    · exact nI_le (Nat.le_refl _) (by omega)
  | d + 1, k, kb, σ, hk, hkb, J => by
    have hb := wf_b hw
    have hkS : k < nS m := by omega
    have hs' := wf_s hw hkS
    have c0 := J.2.2.1.2 k 0 hkS (by omega)
    have c1 := J.2.2.1.2 k 1 hkS (by omega)
    have et : iI (tu m k) < -4 ↔ tu m k < -4 := iI_lt (b := -4) (by omega) (by omega) (by omega) (by omega)
    have et2 : iI (tu m k) ≤ 4 ↔ tu m k ≤ 4 := iI_le (b := 4) (by omega) (by omega) (by omega) (by omega)
    refine b_L_holds_228 ⟨σ, rfl, by omega, fun n => g_set (z := 0) J (by omega) (fun _ => rfl) ⟨fun z => absurd z (nI_ge hkS (by omega)), fun _ => ⟨by omega, fun n => g_slat (z := 0) J.1 hw hkS (by omega) ⟨by omega, fun n => g_slat (z := 4) J.1 hw hkS (by omega) ⟨by omega, fun n => g_set (z := 5) J (by omega) (fun _ => rfl) ⟨fun z => absurd z (nI_nlt c0 (by omega)), fun _ => ⟨by omega, fun n => g_slat (z := 5) J.1 hw hkS (by omega) ⟨by omega, fun n => g_set (z := 5) J (by omega) (fun _ => rfl) ⟨fun z => absurd z (nI_nlt c1 (by omega)), fun _ => ⟨by omega, fun n => g_slat (z := 2) J.1 hw hkS (by omega) ⟨fun z => absurd (et.mp z) (by omega), fun _ => ⟨by omega, fun n => g_slat (z := 2) J.1 hw hkS (by omega) ⟨fun _ => ?_, fun z => absurd (et2.mpr (by omega)) z⟩⟩⟩⟩⟩⟩⟩⟩⟩⟩⟩⟩⟩
    have := ho_228 hw ha hs HK d (k + 1) ((((((((kb - 1) - 2) - 2) - 1) - 2) - 1) - 2) - 2) σ (by omega) (by omega) J
    rw [nI_1]
    rw [fst_succ, ← nI_add] at this
    exact this
theorem s_holds {σ : zS} (J : JW G ax m σ ω) {a : Int} (ha : -6 ≤ a ∧ a ≤ 6) {s kb : Nat} (hs : s < 2) (hkb : 400 ≤ kb) (HK : ∀ τ, JW G ax m τ ω → K 1 (some τ) ω) : FC G l M_L_holds kb [.ref (zad G.1 0), .int (iI a), .int (nI s)] (some σ, ω) (fQi K) := by
  have hw := J.2.1
  have h4 := J.2.2.1.1
  have h24 := cols24 hw h4.1
  have e1 : (1 + 3 * nH m) * cols m ≤ (1 + 3 * 4) * 24 := Nat.mul_le_mul (by omega) h24
  refine b_L_holds ⟨by omega, fun n => g_set (z := 2) J (by omega) (fun _ => rfl) ⟨by omega, fun n => g_set (z := 1) J (by omega) (fun _ => rfl) ?_⟩⟩
  exact ho_25 (X := 14 + 13 * nS m) hw ha hs (fun τ kb' J2 hk' => ho_228 hw ha hs HK (nS m) 0 kb' τ (by omega) (by omega) J2) (cols m) 0 _ σ (by omega) (by omega) J
end HLd
