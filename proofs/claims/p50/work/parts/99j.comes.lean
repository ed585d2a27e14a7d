/-! what pulls, turns and paint bring -/
section CMs
variable {G : fG} {l : Launch} {K : Int32 → Option zS → fW → Prop} {ax : Nat} {m : Nat → Int32} {ω : fW}
theorem JW.le {σ : zS} {ω' : fW} (J : JW G ax m σ ω) (h : fle ω ω') : JW G ax m σ ω' := by
  obtain ⟨h1, h2, h3, h4, p, fa, W, hf⟩ := J
  exact ⟨h1, h2, h3, h4, p, fa, W.le h, hf⟩
theorem co_146 (hw : WF m) {s : Nat} (hs : s < 2) (HK : ∀ τ ω', JW G ax m τ ω' → K 1 (some τ) ω') : ∀ (d k kb : Nat) (σ : zS), k + d = nS m → 510 + 8 * d ≤ kb → JW G ax m σ ω → L_L_comes_146 G l K ax (nI s) (paN m s (nS m)) (nI k) (some σ) ω kb
  | 0, k, kb, σ, hk, hkb, J => by
    have hb := wf_b hw
    have hk : k = nS m := by omega
    subst hk
    refine b_L_comes_146 ⟨σ, rfl, by omega, fun n => g_set (z := 0) J (by omega) (fun _ => rfl) ⟨fun _ => ⟨by omega, ?_⟩, fun z => absurd (nI_le (Nat.le_refl _) (by omega)) z⟩⟩
    obtain ⟨hN, -, ⟨h4, -⟩, ⟨u, h, hH, hh⟩, p, fa, W, hf⟩ := id J
    obtain ⟨nx, -, hu, h1, -⟩ := id hH
    exact s_alike (u := u) hN hw h1 (by unfold I32; omega) W hf h4.1 h4.2 (Nat.le_refl _) (fun ω' hl => ⟨zbl_1, HK σ ω' (J.le hl)⟩)
  | d + 1, k, kb, σ, hk, hkb, J => by
    have hb := wf_b hw
    have hkS : k < nS m := by omega
    have hbt := paN_bt (m := m) (s := s) (n := nS m) (k := k) (by omega) hkS
    have nx : ∀ (τ : zS) (kb' : Nat), JW G ax m τ ω → 510 + 8 * d ≤ kb' → L_L_comes_146 G l K ax (nI s) (paN m s (nS m)) (nI k + 1) (some τ) ω kb' := fun τ kb' J2 hk' => by
      rw [nI_1]
      exact co_146 hw hs HK d (k + 1) kb' τ (by omega) hk' J2
    refine b_L_comes_146 ⟨σ, rfl, by omega, fun n => g_set (z := 0) J (by omega) (fun _ => rfl) ⟨fun z => absurd z (nI_ge hkS (by omega)), fun _ => ?_⟩⟩
    rw [bit_v (by omega)]
    by_cases hbb : bt (paN m s (nS m)) k = true
    · rw [if_pos hbb]
      obtain ⟨hc, -⟩ := hbt.mp hbb
      refine ⟨fun _ => ?_, fun z => absurd z (by decide)⟩
      have pb := mPaint_b hw hkS hs
      have hu0 := unl_paint hw hkS hs
      have fin : ∀ (τ : zS) (kb' : Nat), JD G ax m (mPaint m k s) τ ω → 510 + 8 * d ≤ kb' → (0 ≤ kb' ∧ ∀ n : Nat, CT (gB G.1 n) l M_X6_undo 0 [.ref (zad G.1 0)] τ (zQi (fun v18 σ19 => ((0 ≤ v18 → L_L_comes_146 G l K ax (nI s) (paN m s (nS m)) (nI k + 1) (some σ19) ω (kb' - 0)) ∧ (¬ 0 ≤ v18 → K 0 (some σ19) ω))) (fun _ _ => False))) := fun τ kb' JD hk' => ⟨Nat.zero_le _, fun n => g_undo JD (fun τ2 u hu J2 => ⟨fun _ => nx τ2 _ J2 (by omega), fun z => absurd (nI_pos' (by omega)) z⟩)⟩
      by_cases e : s = 0
      · subst e
        refine ⟨fun _ => ⟨by omega, fun n => g_slat (z := 6) J.1 hw hkS (by omega) ⟨by omega, fun n => g_paint J hkS (by omega) hc (fun τ JD => ⟨fun z => absurd rfl z, fun _ => ⟨fun _ => ⟨by omega, fun n => g_slat (z := 6) JD.1 JD.2.1 (by rw [pb.1.e_nS]; exact hkS) (by omega) ?_⟩, fun z => absurd rfl z⟩⟩)⟩⟩, fun z => absurd rfl z⟩
        rw [show slN (mPaint m k 0) k 6 = (unl (mPaint m k 0) k 0 : Int) from rfl, hu0]
        exact ⟨fun z => absurd rfl z, fun _ => fin τ _ JD (by omega)⟩
      · have : s = 1 := by omega
        subst this
        refine ⟨fun z => absurd z (by decide), fun _ => ⟨by omega, fun n => g_slat (z := 7) J.1 hw hkS (by omega) ⟨by omega, fun n => g_paint J hkS (by omega) hc (fun τ JD => ⟨fun z => absurd rfl z, fun _ => ⟨fun z => absurd z (by decide), fun _ => ⟨by omega, fun n => g_slat (z := 7) JD.1 JD.2.1 (by rw [pb.1.e_nS]; exact hkS) (by omega) ?_⟩⟩⟩)⟩⟩⟩
        rw [show slN (mPaint m k 1) k 7 = (unl (mPaint m k 1) k 1 : Int) from rfl, hu0]
        exact ⟨fun z => absurd rfl z, fun _ => fin τ _ JD (by omega)⟩
    · rw [if_neg hbb]
      exact ⟨fun z => absurd rfl z, fun _ => nx σ _ J (by omega)⟩
theorem co_54 (hw : WF m) {a : Int} (ha : -6 ≤ a ∧ a ≤ 6) {s : Nat} (hs : s < 2) (HK : ∀ τ ω', JW G ax m τ ω' → K 1 (some τ) ω') : ∀ (d k kb : Nat) (σ : zS), k + d = nS m → 520 + 8 * nS m + 10 * d ≤ kb → JW G ax m σ ω → L_L_comes_54 G l K ax (iI a) (nI s) (nI (rgt m a s)) (nI k) (some σ) ω kb
  | 0, k, kb, σ, hk, hkb, J => by
    have hb := wf_b hw
    have hk : k = nS m := by omega
    subst hk
    refine b_L_comes_54 ⟨σ, rfl, by omega, fun n => g_set (z := 0) J (by omega) (fun _ => rfl) ⟨fun _ => ⟨by omega, fun n => g_pable J.1 hw hs ?_⟩, fun z => absurd (nI_le (Nat.le_refl _) (by omega)) z⟩⟩
    exact co_146 hw hs HK (nS m) 0 _ σ (by omega) (by omega) J
  | d + 1, k, kb, σ, hk, hkb, J => by
    have hb := wf_b hw
    have hkS : k < nS m := by omega
    have hs' := wf_s hw hkS
    have nx : ∀ (τ : zS) (kb' : Nat), JW G ax m τ ω → 520 + 8 * nS m + 10 * d ≤ kb' → L_L_comes_54 G l K ax (iI a) (nI s) (nI (rgt m a s)) (nI k + 1) (some τ) ω kb' := fun τ kb' J2 hk' => by
      rw [nI_1]
      exact co_54 hw ha hs HK d (k + 1) kb' τ (by omega) hk' J2
    have e3 : iI (slN m k 3) = nI (td m k) := rfl
    have etd : nI (td m k) = 1 ↔ td m k = 1 := nI_eq (b := 1) (by omega) (by omega)
    refine b_L_comes_54 ⟨σ, rfl, by omega, fun n => g_set (z := 0) J (by omega) (fun _ => rfl) ⟨fun z => absurd z (nI_ge hkS (by omega)), fun _ => ⟨by omega, fun n => g_slat (z := 3) J.1 hw hkS (by omega) ?_⟩⟩⟩
    rw [e3, etd]
    refine ⟨fun y => ⟨by omega, fun n => g_bturn J.1 hw ha hs hkS (fun τ hF => ?_)⟩, fun _ => nx σ _ J (by omega)⟩
    have J1 := J.lookW hF
    obtain ⟨j, j1, j2, j3⟩ := bt_ok hw hkS a s
    have r1 := rgt_le hw a s
    rw [j2]
    refine ⟨by omega, fun n => g_slat (z := 2) J1.1 hw hkS (by omega) ⟨by omega, fun n => g_turn J1 hkS (by omega) (by omega) (fun τ2 JD => ⟨fun z => absurd rfl z, fun _ => ⟨by omega, fun n => g_right JD.1 JD.2.1 ha hs (fun τ3 hF3 => ⟨fun z => absurd z (nI_nlt j3 ?_), fun _ => ⟨Nat.zero_le _, fun n => g_undo (JD.look hF3) (fun τ4 u hu J4 => ⟨fun _ => nx τ4 _ J4 (by omega), fun z => absurd (nI_pos' (by omega)) z⟩)⟩⟩)⟩⟩)⟩⟩
    have := rgt_le JD.2.1 a s
    omega
theorem s_comes {σ : zS} (J : JW G ax m σ ω) {a : Int} (ha : -6 ≤ a ∧ a ≤ 6) {s kb : Nat} (hs : s < 2) (hkb : 600 ≤ kb) (HK : ∀ τ ω', JW G ax m τ ω' → K 1 (some τ) ω') : FC G l M_L_comes kb [.ref (zad G.1 0), .ref ax, .int (iI a), .int (nI s)] (some σ, ω) (fQi K) := by
  have hw := J.2.1
  have h4 := J.2.2.1.1
  have r1 := rgt_le hw a s
  refine b_L_comes ⟨by omega, fun n => g_right J.1 hw ha hs (fun τ hF => ⟨by omega, fun n => g_bpull (J.look hF).1 hw ha hs (fun τ2 hF2 => ?_)⟩)⟩
  have J2 := (J.look hF).lookW hF2
  have nx : ∀ (τ : zS) (kb' : Nat), JW G ax m τ ω → 592 ≤ kb' → L_L_comes_54 G l K ax (iI a) (nI s) (nI (rgt m a s)) 0 (some τ) ω kb' := fun τ kb' J3 hk' => co_54 hw ha hs HK (nS m) 0 kb' τ (by omega) (by omega) J3
  by_cases e : (bpN m a s 16).1 = 0
  · rw [e]
    exact ⟨fun _ => nx τ2 _ J2 (by omega), fun z => absurd rfl z⟩
  · obtain ⟨z, z1, z2, z3⟩ := bp_ok m a s e
    have hp := pl_some z3
    have hct := fb_ct_le (fun j => decide (plT m z j ≠ tu m j)) (nS m)
    have hwp : WF (wT m (plT m z)) := wT_wf hw (fun k hk => plT_b hw z hk)
    have r2 := rgt_le hwp a s
    have ez : iI z = 0 ↔ z = 0 := iI_eq (b := 0) (by omega) (by omega) (by omega) (by omega)
    rw [z1]
    refine ⟨fun y => absurd (ez.mp y) z2.2, fun _ => ⟨by omega, fun n => g_pull J2 z2 (fun τ3 JD => ⟨fun y => absurd y (nI_nlt (b := 1) hp (by omega)), fun _ => ⟨by omega, fun n => g_right JD.1 hwp ha hs (fun τ4 hF4 => ⟨fun y => absurd y (nI_ge z3 (by omega)), fun _ => ⟨Nat.zero_le _, fun n => g_undo (JD.look hF4) (fun τ5 u hu J5 => ⟨fun _ => nx τ5 _ J5 (by omega), fun y => absurd (nI_pos' (by omega)) y⟩)⟩⟩)⟩⟩)⟩⟩
end CMs
