/-! the class and the world are alike -/
section ALk
variable {G : fG} {l : Launch} {K : Int32 → Option zS → fW → Prop} {ax : Nat} {p : Nat → Nat} {m : Nat → Int32} {fa : Nat → Nat → Nat → Int32} {σ : zS} {u : Int} {ω0 : fW}
theorem al_460 (hN : Nw σ m) (hw : WF m) (hu : σ.1 16 1 = iI u) (hu2 : I32 u) {q : Nat} {g : Nat → Int32} (hg : ∀ j, j < 9 → g j = iI (setN m u (j : Nat))) {ω : fW} (hq : ω q = some (.inl (G.1.2.1 0, 9, .inl g))) (HK : K 1 (some σ) ω) : ∀ (d i kb : Nat), i + d = 9 → d ≤ kb → L_L_alike_460 G l K ax q (nI i) (some σ) ω kb
  | 0, i, kb, hi, hk => by
    have : i = 9 := by omega
    subst this
    exact b_L_alike_460 ⟨fun _ => HK, fun z => absurd (show (9 : Int32) ≤ nI 9 by decide) z⟩
  | d + 1, i, kb, hi, hk => by
    refine b_L_alike_460 ⟨fun z => absurd z (nI_ge (b := 9) (by omega) (by decide)), fun _ => ⟨σ, rfl, by omega, fun n => ?_⟩⟩
    rw [iI_n]
    refine c_setting hN hw (by unfold I32; omega) hu (fun hz => ?_) (fun hz => hz (by omega))
    rw [← iI_n]
    refine ⟨_, _, hq, nI_in (by omega) (by omega), fun _ => ?_, fun y => absurd ?_ y⟩
    · rw [nI_1]
      exact al_460 hN hw hu hu2 hg hq HK d (i + 1) (kb - 1) (by omega) (by omega)
    · rw [nI_clamp (by omega), hg i (by omega)]
theorem al_293 (hN : Nw σ m) (hw : WF m) (W0 : WR G ω0 ax p m fa) (hfo : fOk m fa) {ω : fW} (hle : fle ω0 ω) {k c : Nat} (hk : k < nS m) (hc : c < wd m k) {t2 t3 t4 : Int32} {q5 X : Nat} (H2 : ∀ kb, X ≤ kb → L_L_alike_261 G l K ax t2 t3 t4 q5 (nI k) (p k) (nI (c + 1)) (some σ) ω kb) : ∀ (d r kb : Nat), r + d = nH m → X + 2 * d ≤ kb → L_L_alike_293 G l K ax t2 t3 t4 q5 (nI k) (p k) (nI c) (nI r) (some σ) ω kb
  | 0, r, kb, hr, hkb => by
    have hb := wf_b hw
    have W := W0.le hle
    have : r = nH m := by omega
    subst this
    refine b_L_alike_293 ⟨_, _, W.2.1, rfl, fun _ => ?_, fun z => absurd (nI_le (Nat.le_refl _) (by omega)) z⟩
    rw [nI_1]
    exact H2 kb (by omega)
  | d + 1, r, kb, hr, hkb => by
    have hb := wf_b hw
    have hs := wf_s hw hk
    have W := W0.le hle
    have hcol := fst_col hw hk hc
    have hcl := cols_le hw
    have hr8 : r < 8 := by omega
    obtain ⟨F, R, f, a1, a2, b1, b2, c1, c2⟩ := W.face (s := 0) (c := fst m k + c) (by omega) (by omega)
    obtain ⟨F', R', f', a1', a2', b1', b2', c1', c2'⟩ := W.face (s := 1) (c := fst m k + c) (by omega) (by omega)
    refine b_L_alike_293 ⟨_, _, W.2.1, rfl, fun z => absurd z (nI_ge (by omega) (by omega)), fun _ => ⟨σ, rfl, by omega, fun n => ?_⟩⟩
    have h0 : (0 : Int32) = iI (0 : Nat) := rfl
    have h1 : (1 : Int32) = iI (1 : Nat) := rfl
    rw [iI_n k, iI_n c, iI_n r]
    refine c_face (s := 0) hN hw (by omega) (by unfold I32; omega) (by unfold I32; omega) (by unfold I32; omega) (fun q' c' r' e1 e2 e3 h1' h2' h3' => ?_) (fun z => z ⟨by omega, by rw [Int.toNat_natCast]; omega, by omega⟩)
    have e1 : q' = k := by omega
    have e2 : c' = c := by omega
    have e3 : r' = r := by omega
    subst e1 e2 e3
    rw [← iI_n q', ← iI_n c', ← iI_n r']
    have a2z : F (Int32.toNatClampNeg 0) = some (p 163) := by rw [tc_0]; exact a2
    refine ⟨_, _, W.2.1, rfl, _, _, _, a1, vi (i := 0) (by omega) (by omega), a2z, Nat.zero_le _, _, W.2.1, w_first W hw (by omega) ?_⟩
    rw [nI_add]
    refine ⟨_, _, _, b1, nI_in (by omega) (by omega), ?_, _, _, c1, nI_in (by omega) (by omega), fun z => absurd ?_ z, fun _ => ⟨σ, rfl, by omega, fun n => ?_⟩⟩
    · rw [nI_clamp (by omega)]; exact b2
    · rw [nI_clamp (by omega), c2 _ hr8, hfo 0 _ _ (by omega) hcol (by omega), iI_n]
    rw [iI_n q', iI_n c', iI_n r']
    refine c_face (s := 1) hN hw (by omega) (by unfold I32; omega) (by unfold I32; omega) (by unfold I32; omega) (fun q2 cc2 r2 e1 e2 e3 h1' h2' h3' => ?_) (fun z => z ⟨by omega, by rw [Int.toNat_natCast]; omega, by omega⟩)
    have e1 : q2 = q' := by omega
    have e2 : cc2 = c' := by omega
    have e3 : r2 = r' := by omega
    subst e1 e2 e3
    rw [← iI_n q2, ← iI_n cc2, ← iI_n r2]
    have a2z' : F' (Int32.toNatClampNeg 1) = some (p 164) := by rw [tc_1]; exact a2'
    refine ⟨_, _, W.2.1, rfl, _, _, _, a1', vi (i := 1) (by omega) (by omega), a2z', Nat.zero_le _, _, W.2.1, w_first W hw (by omega) ?_⟩
    rw [nI_add]
    refine ⟨_, _, _, b1', nI_in (by omega) (by omega), ?_, _, _, c1', nI_in (by omega) (by omega), fun _ => ?_, fun z => absurd ?_ z⟩
    · rw [nI_clamp (by omega)]; exact b2'
    · rw [nI_1]
      exact al_293 hN hw W0 hfo hle hk hc H2 d (r2 + 1) _ (by omega) (by omega)
    · rw [nI_clamp (by omega), c2' _ hr8, hfo 1 _ _ (by omega) hcol (by omega), iI_n]
theorem al_261 (hN : Nw σ m) (hw : WF m) (W0 : WR G ω0 ax p m fa) (hfo : fOk m fa) {ω : fW} (hle : fle ω0 ω) {k : Nat} (hk : k < nS m) {t2 t3 t4 : Int32} {q5 X : Nat} (H2 : ∀ kb, X ≤ kb → L_L_alike_62 G l K ax t2 t3 t4 q5 (nI (k + 1)) (some σ) ω kb) : ∀ (d c kb : Nat), c + d = wd m k → X + (1 + 2 * nH m) * d ≤ kb → L_L_alike_261 G l K ax t2 t3 t4 q5 (nI k) (p k) (nI c) (some σ) ω kb
  | 0, c, kb, hc, hkb => by
    have hs := wf_s hw hk
    have W := W0.le hle
    obtain ⟨f, f1, f2, f3⟩ := WR.slat W hk
    refine b_L_alike_261 ⟨_, _, f1, vi (i := 0) (by omega) (by omega), ?_⟩
    rw [f2.1, wf_w hw hk, ← iI_n]
    refine ⟨fun _ => ?_, fun z => absurd (nI_le (by omega) (by omega)) z⟩
    rw [nI_1]
    exact H2 kb (by omega)
  | d + 1, c, kb, hc, hkb => by
    have hs := wf_s hw hk
    have hb := wf_b hw
    have W := W0.le hle
    have hcol := fst_col hw hk (j := c) (by omega)
    have hcl := cols_le hw
    obtain ⟨f, f1, f2, f3⟩ := WR.slat W hk
    rw [Nat.mul_succ] at hkb
    refine b_L_alike_261 ⟨_, _, f1, vi (i := 0) (by omega) (by omega), ?_⟩
    rw [f2.1, wf_w hw hk, ← iI_n]
    refine ⟨fun z => absurd z (nI_ge (by omega) (by omega)), fun _ => ⟨Nat.zero_le _, _, W.2.1, w_first W hw (by omega) ⟨σ, rfl, by omega, fun n => ?_⟩⟩⟩
    rw [nI_add, iI_n (fst m k + c)]
    refine c_slatAt hN hw (by unfold I32; omega) (fun q e1 e2 => ?_) (fun z => z (by omega))
    have e1 : q = fst m k + c := by omega
    subst e1
    have es : slatOf m (fst m k + c) = k := slat_eq hk (by omega) (by rw [fst_succ]; omega)
    rw [es, ← iI_n]
    refine ⟨fun _ => ?_, fun z => absurd rfl z⟩
    exact al_293 hN hw W0 hfo hle hk (by omega) (X := X + (1 + 2 * nH m) * d) (fun kb2 hk2 => al_261 hN hw W0 hfo hle hk H2 d (c + 1) kb2 (by omega) hk2) (nH m) 0 (kb - 1) (by omega) (by omega)
theorem al_210 (hN : Nw σ m) (hw : WF m) (W0 : WR G ω0 ax p m fa) (hfo : fOk m fa) {ω : fW} (hle : fle ω0 ω) {k : Nat} (hk : k < nS m) {t2 t3 t4 : Int32} {q5 q8 X : Nat} {g : Nat → Int32} (hq : ω q8 = some (.inl (G.1.2.1 0, 8, .inl g))) (hg : ∀ j, j < 8 → g j = iI (slN m k (j : Nat))) (H2 : ∀ kb, X ≤ kb → L_L_alike_62 G l K ax t2 t3 t4 q5 (nI (k + 1)) (some σ) ω kb) : ∀ (d i kb : Nat), i + d = 8 → X + (1 + 2 * nH m) * wd m k + 1 + 2 * d ≤ kb → L_L_alike_210 G l K ax t2 t3 t4 q5 (nI k) (p k) q8 (nI i) (some σ) ω kb
  | 0, i, kb, hi, hkb => by
    have hb := wf_b hw
    have W := W0.le hle
    have : i = 8 := by omega
    subst this
    refine b_L_alike_210 ⟨fun _ => ⟨σ, rfl, by omega, fun n => ?_⟩, fun z => absurd (show (8 : Int32) ≤ nI 8 by decide) z⟩
    rw [iI_n k]
    refine c_seam hN hw (by unfold I32; omega) (fun q e1 e2 => ?_) (fun z => z (by omega))
    have e1 : q = k := by omega
    subst e1
    rw [← iI_n q]
    refine ⟨Nat.zero_le _, _, W.2.1, w_seam W hw hk ⟨fun _ => ?_, fun z => absurd rfl z⟩⟩
    exact al_261 hN hw W0 hfo hle hk H2 (wd m q) 0 (kb - 1) (by omega) (by omega)
  | d + 1, i, kb, hi, hkb => by
    have hb := wf_b hw
    refine b_L_alike_210 ⟨fun z => absurd z (nI_ge (b := 8) (by omega) (by decide)), fun _ => ⟨σ, rfl, by omega, fun n => ?_⟩⟩
    rw [iI_n k, iI_n i]
    refine c_slat hN hw (by unfold I32; omega) (by unfold I32; omega) (fun q e1 e2 e3 => ?_) (fun z => z (by omega)) (fun _ z => z (by omega))
    have e1 : q = k := by omega
    subst e1
    rw [← iI_n q, ← iI_n i]
    refine ⟨_, _, hq, nI_in (by omega) (by omega), fun _ => ?_, fun z => absurd ?_ z⟩
    · rw [nI_1]
      exact al_210 hN hw W0 hfo hle hk hq hg H2 d (i + 1) (kb - 2) (by omega) (by omega)
    · rw [nI_clamp (by omega), hg i (by omega)]
end ALk
