section AAc
variable {G : fG} {l : Launch} {K : Int32 → Option zS → fW → Prop} {ax : Nat} {m : Nat → Int32} {σ : zS} {ω : fW}
theorem s_acts (hL : G.2.2.1 < 2 ^ 31) (J : JW G ax m σ ω) {i : Nat} (hi : i < 16) {kb : Nat} (hkb : 12 ≤ kb) (HK : ∀ τ ω' m', JW G ax m' τ ω' → K 1 (some τ) ω') : FC G l M_L_acts kb [.ref (zad G.1 0), .ref ax, .ref G.2.1, .int (nI i)] (some σ, ω) (fQi K) := by
  obtain ⟨hN, hw, h4, hist, p, fa, W, hf⟩ := id J
  have hwb := wf_b hw
  have hV : pkN G (340 + i) 400000 < 400000 := pkN_lt _ (by omega)
  refine b_L_acts ⟨Nat.zero_le _, ?_⟩
  rw [show (340 : Int32) + nI i = nI (340 + i) from nI_add 340 i, show (300 : Int32) + nI i = nI (300 + i) from nI_add 300 i]
  refine s_pick (n := 400000) hL (by omega) (by omega) (by omega) ⟨Nat.zero_le _, s_pick (n := 11) hL (by omega) (by omega) (by omega) ?_⟩
  generalize pkN G (340 + i) 400000 = V at hV ⊢
  generalize pkN G (300 + i) 11 = w
  refine ⟨fun y0 => ?_, fun y0 => ?_⟩
  · obtain ⟨mc1, mc2, n1, n2, l1, l2, l3⟩ := W.2.2.1
    refine ⟨_, _, W.2.1, rfl, Nat.zero_le _, _, l1.1, s_isEmpty l1 (fun _ => ⟨fun z => absurd z (by decide), fun _ => HK σ ω m J⟩) (fun hS => ⟨fun _ => ⟨_, _, W.2.1, rfl, Nat.zero_le _, _, l1.1, s_size l1 ?_⟩, fun z => absurd rfl z⟩)⟩
    have hk : V % nS m < nS m := Nat.mod_lt _ hS
    rw [show nI V - nI V / nI (nS m) * nI (nS m) = nI (V % nS m) from pk_rem (by omega) hS (by omega)]
    generalize V % nS m = k at hk ⊢
    obtain ⟨f, f1, ⟨f2, -, -, -, -⟩, -⟩ := WR.slat W hk
    have hs' := wf_s hw hk
    refine ⟨nI_ne0 hS (by omega), _, _, W.2.1, rfl, Nat.zero_le _, _, l1.1, s_get l1 hk ⟨_, f1, Nat.zero_le _, _, W.2.1, w_first W hw (by omega) ?_⟩⟩
    have hs : V / 8 % 2 < 2 := Nat.mod_lt _ (by omega)
    have hv : V / 2048 % 10 < 10 := Nat.mod_lt _ (by omega)
    have ht : V / 16 % 9 < 9 := Nat.mod_lt _ (by omega)
    have hb : V / 16 % 2 < 2 := Nat.mod_lt _ (by omega)
    have hc : V / 32 % wd m k < wd m k := Nat.mod_lt _ (by omega)
    have hr : V / 256 % nH m < nH m := Nat.mod_lt _ (by omega)
    rw [show nI V / 8 - nI V / 8 / 2 * 2 = nI (V / 8 % 2) from e_div (d := 8) (q := 2) (by omega) (by omega) (by omega) (by omega) (by omega)]
    rw [show nI V / 16 - nI V / 16 / 2 * 2 = nI (V / 16 % 2) from e_div (d := 16) (q := 2) (by omega) (by omega) (by omega) (by omega) (by omega)]
    rw [show nI V / 16 - nI V / 16 / 9 * 9 = nI (V / 16 % 9) from e_div (d := 16) (q := 9) (by omega) (by omega) (by omega) (by omega) (by omega)]
    rw [show nI V / 2048 - nI V / 2048 / 10 * 10 = nI (V / 2048 % 10) from e_div (d := 2048) (q := 10) (by omega) (by omega) (by omega) (by omega) (by omega)]
    have ec : nI V / 32 - nI V / 32 / nI (wd m k) * nI (wd m k) = nI (V / 32 % wd m k) := e_div (d := 32) (q := wd m k) (by omega) (by omega) (by omega) (by omega) (by omega)
    have er : nI V / 256 - nI V / 256 / nI (nH m) * nI (nH m) = nI (V / 256 % nH m) := e_div (d := 256) (q := nH m) (by omega) (by omega) (by omega) (by omega) (by omega)
    generalize V / 8 % 2 = s at hs ⊢
    generalize V / 2048 % 10 = v at hv ⊢
    generalize V / 16 % 9 = t at ht ⊢
    generalize V / 16 % 2 = b at hb ⊢
    generalize V / 32 % wd m k = c at hc ec ⊢
    generalize V / 256 % nH m = r at hr er ⊢
    refine ⟨fun _ => ⟨fun _ => ⟨fun _ => ⟨_, _, f1, vi (i := 0) (by omega) (by omega), ?_⟩, fun _ => ?_⟩, fun _ => ⟨fun _ => ?_, fun _ => ?_⟩⟩, fun _ => ?_⟩
    · rw [f2, wf_w hw hk, ← iI_n, ec]
      refine ⟨nI_ne0 (by omega) (by omega), _, _, W.2.1, rfl, nI_ne0 (by omega) (by omega), ?_⟩
      rw [er, nI_add]
      refine ⟨fun _ => ⟨fun _ => ?_, fun _ => ?_⟩, fun _ => ?_⟩
      · exact ac_spot J W hf hk hs hc hr (by omega) (by omega) HK
      · exact ac_swap J W hf hk (by omega) HK
      · exact ac_dab J W hf hk hs hc hr (by omega) (by omega) HK
    · rw [show (3 : Int32) + nI s = nI (3 + s) from nI_add 3 s]
      exact ac_paint J W hf hk hs (by omega) HK
    · exact ac_220 (v := 0) J W hf hk (by omega) (by omega) HK
    · exact ac_220 (v := 1) J W hf hk (by omega) (by omega) HK
    · rw [show nI t - 4 = iI ((t : Int) - 4) from by rw [iI_n, show (4 : Int32) = iI 4 from rfl, iI_sub]]
      exact ac_turn J W hf hk (by omega) (by omega) HK
  · have h8 : V % 8 < 8 := Nat.mod_lt _ (by omega)
    rw [show nI V - nI V / 8 * 8 = nI (V % 8) from pk_rem (d := 8) (by omega) (by omega) (by omega)]
    generalize V % 8 = z at h8 ⊢
    rw [show nI z - 4 = iI ((z : Int) - 4) from by rw [iI_n, show (4 : Int32) = iI 4 from rfl, iI_sub], show nI z - 3 = iI ((z : Int) - 3) from by rw [iI_n, show (3 : Int32) = iI 3 from rfl, iI_sub]]
    have e0 : (0 : Int32) ≤ iI ((z : Int) - 4) ↔ 0 ≤ (z : Int) - 4 := iI_le (a := 0) (by omega) (by omega) (by omega) (by omega)
    rw [e0]
    refine ⟨fun y => ac_58 J (by omega) (by omega) HK, fun y => ac_58 J (by omega) (by omega) HK⟩
end AAc
