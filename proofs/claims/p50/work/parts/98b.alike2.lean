section ALm
variable {G : fG} {l : Launch} {K : Int32 → Option zS → fW → Prop} {ax : Nat} {p : Nat → Nat} {m : Nat → Int32} {fa : Nat → Nat → Nat → Int32} {σ : zS} {u : Int} {ω0 : fW}
theorem al_132 (hN : Nw σ m) (hw : WF m) (W0 : WR G ω0 ax p m fa) (hfo : fOk m fa) {ω : fW} (hle : fle ω0 ω) {k : Nat} (hk : k < nS m) {t2 t3 z0 z1 : Int32} {q5 X kb : Nat} (H2 : ∀ kb ω, fle ω0 ω → X ≤ kb → L_L_alike_62 G l K ax t2 t3 (z1 + z0) q5 (nI (k + 1)) (some σ) ω kb) (hkb : X + (1 + 2 * nH m) * wd m k + 18 ≤ kb) : L_L_alike_132 G l K ax t2 t3 q5 (nI k) (p k) z0 z1 (some σ) ω kb := by
  refine b_L_alike_132 ⟨by omega, fun q ω2 hq e2 => ?_⟩
  have hq0 := hle.none hq
  have h2 : fle ω0 ω2 := by rw [e2]; exact hle.new hq0
  have c2 := (congrFun e2 q).trans (fup_at _ _ _)
  obtain ⟨f, f1, ⟨f2, -⟩, -⟩ := WR.slat (W0.le h2) hk
  refine ⟨_, _, f1, vi (i := 0) (by omega) (by omega), _, _, c2, vi (i := 0) (by omega) (by omega), fun ω7 e7 => ⟨Nat.zero_le _, ?_⟩⟩
  rw [f2, wf_w hw hk, tc_0] at e7
  have h7 : fle ω0 ω7 := by rw [e7]; exact h2.new hq0
  have c7 := (congrFun e7 q).trans (fup_at _ _ _)
  refine ⟨_, (W0.le h7).2.1, w_first (W0.le h7) hw (by omega) ⟨_, _, c7, vi (i := 1) (by omega) (by omega), fun ω13 e13 => ?_⟩⟩
  rw [tc_1] at e13
  have h13 : fle ω0 ω13 := by rw [e13]; exact h7.new hq0
  have c13 := (congrFun e13 q).trans (fup_at _ _ _)
  obtain ⟨f, f1, ⟨-, f2, -⟩, -⟩ := WR.slat (W0.le h13) hk
  refine ⟨_, _, f1, vi (i := 1) (by omega) (by omega), _, _, c13, vi (i := 2) (by omega) (by omega), fun ω18 e18 => ?_⟩
  rw [f2, wf_t (m := m) k, tc_2] at e18
  have h18 : fle ω0 ω18 := by rw [e18]; exact h13.new hq0
  have c18 := (congrFun e18 q).trans (fup_at _ _ _)
  obtain ⟨f, f1, ⟨-, -, f2, -⟩, -⟩ := WR.slat (W0.le h18) hk
  refine ⟨_, _, f1, vi (i := 2) (by omega) (by omega), _, _, c18, vi (i := 3) (by omega) (by omega), fun ω23 e23 => ?_⟩
  rw [f2, wf_d hw hk, tc_3] at e23
  have h23 : fle ω0 ω23 := by rw [e23]; exact h18.new hq0
  have c23 := (congrFun e23 q).trans (fup_at _ _ _)
  obtain ⟨f, f1, ⟨-, -, -, f2, -⟩, -⟩ := WR.slat (W0.le h23) hk
  refine ⟨_, _, f1, vi (i := 3) (by omega) (by omega), _, _, c23, vi (i := 4) (by omega) (by omega), fun ω28 e28 => ?_⟩
  rw [f2, wf_c hw hk (by omega), tc_4] at e28
  have h28 : fle ω0 ω28 := by rw [e28]; exact h23.new hq0
  have c28 := (congrFun e28 q).trans (fup_at _ _ _)
  obtain ⟨f, f1, ⟨-, -, -, -, f2⟩, -⟩ := WR.slat (W0.le h28) hk
  refine ⟨_, _, f1, vi (i := 4) (by omega) (by omega), _, _, c28, vi (i := 5) (by omega) (by omega), fun ω33 e33 => ⟨Nat.zero_le _, ?_⟩⟩
  rw [f2, wf_c hw hk (by omega), tc_5] at e33
  have h33 : fle ω0 ω33 := by rw [e33]; exact h28.new hq0
  have c33 := (congrFun e33 q).trans (fup_at _ _ _)
  refine ⟨_, (W0.le h33).2.1, w_unlike (s := 0) (W0.le h33) hw hk (by omega) ⟨_, _, c33, vi (i := 6) (by omega) (by omega), fun ω39 e39 => ⟨Nat.zero_le _, ?_⟩⟩⟩
  have tc_6 : Int32.toNatClampNeg 6 = 6 := by decide
  have tc_7 : Int32.toNatClampNeg 7 = 7 := by decide
  rw [tc_6, ulF_unl hw hfo hk (by omega)] at e39
  have h39 : fle ω0 ω39 := by rw [e39]; exact h33.new hq0
  have c39 := (congrFun e39 q).trans (fup_at _ _ _)
  refine ⟨_, (W0.le h39).2.1, w_unlike (s := 1) (W0.le h39) hw hk (by omega) ⟨_, _, c39, vi (i := 7) (by omega) (by omega), fun ω45 e45 => ?_⟩⟩
  rw [tc_7, ulF_unl hw hfo hk (by omega)] at e45
  have h45 : fle ω0 ω45 := by rw [e45]; exact h39.new hq0
  have c45 := (congrFun e45 q).trans (fup_at _ _ _)
  refine al_210 hN hw W0 hfo h45 hk c45 (fun j hj => ?_) (fun kb2 hk2 => H2 kb2 ω45 h45 hk2) 8 0 _ (by omega) (by omega)
  match j, hj with
  | 0, _ => rfl
  | 1, _ => rfl
  | 2, _ => rfl
  | 3, _ => rfl
  | 4, _ => rfl
  | 5, _ => rfl
  | 6, _ => rfl
  | 7, _ => rfl
/-- the sums over the slats so far -/
def sgK (m : Nat → Int32) (sg : Int) (k : Nat) : Nat := fb_ct (fun k => decide (0 < sg * seamB m k)) k
theorem sgK_step (m : Nat → Int32) (sg : Int) (k : Nat) : sgK m sg (k + 1) = sgK m sg k + (if 0 < sg * seamB m k then 1 else 0) := by
  show fb_ct _ k + (if decide (0 < sg * seamB m k) = true then 1 else 0) = _
  congr 1
  by_cases h : 0 < sg * seamB m k
  · rw [if_pos h, if_pos (decide_eq_true h)]
  · rw [if_neg h, if_neg (by rw [decide_eq_true_iff]; exact h)]
theorem seam_8 (hw : WF m) {k : Nat} (hk : k < nS m) : -8 ≤ seamB m k ∧ seamB m k ≤ 8 := by
  have h1 := wf_s hw hk
  unfold seamB
  by_cases e : k + 1 = nS m
  · rw [if_pos e]; omega
  · rw [if_neg e]
    have h2 := wf_s hw (k := k + 1) (by omega)
    omega
theorem al_62 (hN : Nw σ m) (hw : WF m) (hu : σ.1 16 1 = iI u) (hu2 : I32 u) (W0 : WR G ω0 ax p m fa) (hfo : fOk m fa) {q5 : Nat} {gb : Nat → Int32} (hq5 : ω0 q5 = some (.inl (G.1.2.1 0, 2, .inl gb))) (hgb : ∀ s, s < 2 → gb s = nI (boxesOf m s)) (HK : ∀ ω, fle ω0 ω → K 1 (some σ) ω) : ∀ (d k kb : Nat) (ω : fW), k + d = nS m → 10 + (18 + 6 * (1 + 2 * nH m)) * d ≤ kb → fle ω0 ω → L_L_alike_62 G l K ax (nI (fb_sm (td m) k)) (nI (sgK m 1 k)) (nI (sgK m (-1) k)) q5 (nI k) (some σ) ω kb
  | 0, k, kb, ω, hk, hkb, hle => by
    have hb := wf_b hw
    have hkS : k = nS m := by omega
    subst hkS
    have W := W0.le hle
    obtain ⟨mc1, mc2, n1, n2, l1, l2, l3⟩ := W.2.2.1
    refine b_L_alike_62 ⟨_, _, W.2.1, rfl, Nat.zero_le _, _, l1.1, s_size l1 ⟨fun _ => ⟨by omega, fun q ω8 hq e8 => ?_⟩, fun z => absurd (nI_le (Nat.le_refl _) (by omega)) z⟩⟩
    have hq0 := hle.none hq
    have h8 : fle ω0 ω8 := by rw [e8]; exact hle.new hq0
    have c8 := (congrFun e8 q).trans (fup_at _ _ _)
    have W8 := W0.le h8
    obtain ⟨mc3, mc4, n3, n4, l4, l5, l6⟩ := W8.2.2.1
    refine ⟨_, _, W8.2.1, rfl, Nat.zero_le _, _, l4.1, s_size l4 ⟨_, _, c8, vi (i := 0) (by omega) (by omega), fun ω16 e16 => ?_⟩⟩
    rw [tc_0] at e16
    have h16 : fle ω0 ω16 := by rw [e16]; exact h8.new hq0
    have c16 := (congrFun e16 q).trans (fup_at _ _ _)
    refine ⟨_, _, (W0.le h16).2.1, rfl, _, _, c16, vi (i := 1) (by omega) (by omega), fun ω21 e21 => ⟨Nat.zero_le _, ?_⟩⟩
    rw [tc_1] at e21
    have h21 : fle ω0 ω21 := by rw [e21]; exact h16.new hq0
    have c21 := (congrFun e21 q).trans (fup_at _ _ _)
    refine ⟨_, (W0.le h21).2.1, w_columns (W0.le h21) hw ⟨_, _, c21, vi (i := 2) (by omega) (by omega), fun ω27 e27 => ?_⟩⟩
    rw [tc_2] at e27
    have h27 : fle ω0 ω27 := by rw [e27]; exact h21.new hq0
    have c27 := (congrFun e27 q).trans (fup_at _ _ _)
    refine ⟨_, _, h27 _ _ hq5, vi (i := 0) (by omega) (by omega), _, _, c27, vi (i := 3) (by omega) (by omega), fun ω32 e32 => ?_⟩
    rw [tc_3, tc_0, hgb 0 (by omega)] at e32
    have h32 : fle ω0 ω32 := by rw [e32]; exact h27.new hq0
    have c32 := (congrFun e32 q).trans (fup_at _ _ _)
    refine ⟨_, _, h32 _ _ hq5, vi (i := 1) (by omega) (by omega), _, _, c32, vi (i := 4) (by omega) (by omega), fun ω37 e37 => ?_⟩
    rw [tc_4, tc_1, hgb 1 (by omega)] at e37
    have h37 : fle ω0 ω37 := by rw [e37]; exact h32.new hq0
    have c37 := (congrFun e37 q).trans (fup_at _ _ _)
    refine ⟨_, _, (W0.le h37).2.1, rfl, _, _, c37, vi (i := 5) (by omega) (by omega), fun ω42 e42 => ?_⟩
    rw [tc_5] at e42
    have h42 : fle ω0 ω42 := by rw [e42]; exact h37.new hq0
    have c42 := (congrFun e42 q).trans (fup_at _ _ _)
    have tc_6 : Int32.toNatClampNeg 6 = 6 := by decide
    have tc_7 : Int32.toNatClampNeg 7 = 7 := by decide
    have tc_8 : Int32.toNatClampNeg 8 = 8 := by decide
    refine ⟨_, _, c42, vi (i := 6) (by omega) (by omega), fun ω45 e45 => ?_⟩
    rw [tc_6] at e45
    have h45 : fle ω0 ω45 := by rw [e45]; exact h42.new hq0
    have c45 := (congrFun e45 q).trans (fup_at _ _ _)
    refine ⟨_, _, c45, vi (i := 7) (by omega) (by omega), fun ω48 e48 => ?_⟩
    rw [tc_7] at e48
    have h48 : fle ω0 ω48 := by rw [e48]; exact h45.new hq0
    have c48 := (congrFun e48 q).trans (fup_at _ _ _)
    refine ⟨_, _, c48, vi (i := 8) (by omega) (by omega), fun ω51 e51 => ?_⟩
    rw [tc_8] at e51
    have h51 : fle ω0 ω51 := by rw [e51]; exact h48.new hq0
    have c51 := (congrFun e51 q).trans (fup_at _ _ _)
    refine al_460 hN hw hu hu2 (fun j hj => ?_) c51 (HK ω51 h51) 9 0 _ (by omega) (by omega)
    match j, hj with
    | 0, _ => rfl
    | 1, _ => rfl
    | 2, _ => rfl
    | 3, _ => rfl
    | 4, _ => rfl
    | 5, _ => rfl
    | 6, _ => rfl
    | 7, _ => rfl
    | 8, _ => rfl
  | d + 1, k, kb, ω, hk, hkb, hle => by
    have hb := wf_b hw
    have hkS : k < nS m := by omega
    have hs := wf_s hw hkS
    have hsm := seam_8 hw hkS
    have W := W0.le hle
    obtain ⟨mc1, mc2, n1, n2, l1, l2, l3⟩ := W.2.2.1
    obtain ⟨f, f1, ⟨-, -, f2, -⟩, -⟩ := WR.slat W hkS
    have hwd : (1 + 2 * nH m) * wd m k ≤ 6 * (1 + 2 * nH m) := by
      rw [Nat.mul_comm 6]
      exact Nat.mul_le_mul_left _ hs.2.1
    rw [Nat.mul_succ] at hkb
    have l0 : (0 : Int32) = iI 0 := rfl
    have fin : ∀ (z0 z0' : Int32) (kb' : Nat), kb' = kb → z0 = nI (if 0 < 1 * seamB m k then 1 else 0) → L_L_alike_114 G l K ax (nI (fb_sm (td m) k) + iI (td m k)) (nI (sgK m (-1) k)) q5 (nI k) (p k) z0 (nI (sgK m 1 k)) (some σ) ω kb' := by
      intro z0 z0' kb' ek ez
      subst ek
      have et : nI (fb_sm (td m) k) + iI (td m k) = nI (fb_sm (td m) (k + 1)) := by rw [← iI_n, nI_add]; rfl
      have e1 : nI (sgK m 1 k) + z0 = nI (sgK m 1 (k + 1)) := by rw [ez, nI_add, sgK_step]
      rw [et]
      have go : ∀ z3 : Int32, z3 = nI (if 0 < -1 * seamB m k then 1 else 0) → L_L_alike_132 G l K ax (nI (fb_sm (td m) (k + 1))) (nI (sgK m 1 k) + z0) q5 (nI k) (p k) z3 (nI (sgK m (-1) k)) (some σ) ω kb' := fun z3 e3 => by
        have e2 : nI (sgK m (-1) k) + z3 = nI (sgK m (-1) (k + 1)) := by rw [e3, nI_add, sgK_step]
        rw [e1]
        refine al_132 hN hw W0 hfo hle hkS (X := 10 + (18 + 6 * (1 + 2 * nH m)) * d) (fun kb2 ω2 h2 hk2 => ?_) (by omega)
        rw [e2]
        exact al_62 hN hw hu hu2 W0 hfo hq5 hgb HK d (k + 1) kb2 ω2 (by omega) hk2 h2
      refine b_L_alike_114 ⟨Nat.zero_le _, _, W.2.1, w_seam W hw hkS ⟨fun y => go 0 ?_, fun y => go 1 ?_⟩⟩
      · have : 0 ≤ seamB m k := (iI_le (a := 0) (by omega) (by omega) (by omega) (by omega)).mp y
        rw [if_neg (by omega)]; rfl
      · have : ¬ 0 ≤ seamB m k := fun w => y ((iI_le (a := 0) (by omega) (by omega) (by omega) (by omega)).mpr w)
        rw [if_pos (by omega)]; rfl
    refine b_L_alike_62 ⟨_, _, W.2.1, rfl, Nat.zero_le _, _, l1.1, s_size l1 ⟨fun z => absurd z (nI_ge (by omega) (by omega)), fun _ => ⟨_, _, W.2.1, rfl, Nat.zero_le _, _, l1.1, s_get l1 hkS ⟨_, f1, _, _, f1, vi (i := 2) (by omega) (by omega), Nat.zero_le _, _, W.2.1, w_seam W hw hkS ?_⟩⟩⟩⟩
    rw [f2, wf_d hw hkS]
    refine ⟨fun y => fin 0 0 kb rfl ?_, fun y => fin 1 0 kb rfl ?_⟩
    · have : seamB m k ≤ 0 := (iI_le (b := 0) (by omega) (by omega) (by omega) (by omega)).mp y
      rw [if_neg (by omega)]; rfl
    · have : ¬ seamB m k ≤ 0 := fun w => y ((iI_le (b := 0) (by omega) (by omega) (by omega) (by omega)).mpr w)
      rw [if_pos (by omega)]; rfl
theorem al_23 (hw : WF m) (W0 : WR G ω0 ax p m fa) {q5 it : Nat} {mc : Int32} (hq0 : ω0 q5 = none) (hi0 : ω0 it = none) {o : Option zS} {kb : Nat} (H2 : ∀ (ω : fW) (gb : Nat → Int32), fle ω0 ω → ω q5 = some (.inl (G.1.2.1 0, 2, .inl gb)) → (∀ s, s < 2 → gb s = nI (boxesOf m s)) → L_L_alike_62 G l K ax 0 0 0 q5 0 o ω kb) : ∀ (d b : Nat) (ω : fW) (gb : Nat → Int32), b + d = nB m → fle ω0 ω → (∃ n1 : Nat, LsA G ω (p 161) mc (nB m) n1 (p 166) (fun b => p (16 + b))) → ItA ω it (p 161) mc b → ω q5 = some (.inl (G.1.2.1 0, 2, .inl gb)) → (∀ s, s < 2 → gb s = nI (fb_ct (fun b => decide (xS m b = s)) b)) → L_L_alike_23 G l K ax 0 0 0 q5 it o ω kb
  | 0, b, ω, gb, hb, hle, ⟨n1, l1⟩, hi, hq, hg => by
    have hbB : b = nB m := by omega
    subst hbB
    obtain ⟨lr, hit⟩ := id hi
    exact b_L_alike_23 ⟨Nat.zero_le _, _, hit, s_hasNext l1 hi (Nat.le_refl _) (fun _ => ⟨fun _ => H2 ω gb hle hq hg, fun z => absurd rfl z⟩) (fun z => absurd z (Nat.lt_irrefl _))⟩
  | d + 1, b, ω, gb, hb, hle, ⟨n1, l1⟩, hi, hq, hg => by
    have hbB : b < nB m := by omega
    have hwb := wf_b hw
    have hx := wf_x hw hbB
    obtain ⟨lr, hit⟩ := id hi
    refine b_L_alike_23 ⟨Nat.zero_le _, _, hit, s_hasNext l1 hi (by omega) (fun z => by omega) (fun _ => ⟨fun z => absurd z (by decide), fun _ => ⟨Nat.zero_le _, _, hit, s_next l1 hi hbB (fun x hi' => ?_)⟩⟩)⟩
    have h2 : fle ω0 (fup ω it x) := hle.new hi0
    have hq5it : q5 ≠ it := fun z => by rw [z, hit] at hq; cases hq
    have l2 : LsA G (fup ω it x) (p 161) mc (nB m) n1 (p 166) (fun b => p (16 + b)) := l1.fr (fup_ne (fun y => by rw [← y, l1.1] at hit; cases hit)) (fun he => fup_ne (fun y => by
      have := l1.arr (by have := l1.2.2; omega)
      rw [y, hit] at this; cases this))
    have hq2 : (fup ω it x) q5 = some (.inl (G.1.2.1 0, 2, .inl gb)) := by rw [fup_ne hq5it]; exact hq
    generalize fup ω it x = ω2 at h2 l2 hi' hq2
    obtain ⟨f, f1, f2, -⟩ := WR.box (W0.le h2) hbB
    refine ⟨_, f1, _, _, f1, vi (i := 0) (by omega) (by omega), ?_⟩
    rw [f2, wf_x0 hw hbB, ← iI_n]
    refine ⟨_, _, hq2, nI_in (by omega) (by omega), _, _, hq2, nI_in (by omega) (by omega), fun ω15 e15 => ?_⟩
    rw [nI_clamp (by omega), hg (xS m b) (by omega), nI_1] at e15
    have hd := W0.1
    refine al_23 (mc := mc) hw W0 hq0 hi0 H2 d (b + 1) ω15 _ (by omega) (by rw [e15]; exact h2.new hq0) ⟨n1, ?_⟩ ?_ ((congrFun e15 q5).trans (fup_at _ _ _)) (fun s hs => ?_)
    · rw [e15]
      exact l2.fr (fup_ne (fun y => by
        have := l2.1
        rw [y, hq2] at this; cases this)) (fun he => fup_ne (fun y => by
        have := l2.arr (by have := l2.2.2; omega)
        rw [y, hq2] at this
        exact (W0.ne0 (t := 5) (by omega) (by omega)) (Option.some.inj this).symm))
    · obtain ⟨lr2, hi2⟩ := hi'
      exact ⟨lr2, by rw [e15, fup_ne (fun z => hq5it z.symm)]; exact hi2⟩
    · by_cases q : s = xS m b
      · rw [q, pk_us]
        congr 1
        show _ = fb_ct _ b + (if decide (xS m b = xS m b) = true then 1 else 0)
        rw [if_pos (decide_eq_true rfl)]
      · have e : fb_ct (fun b => decide (xS m b = s)) (b + 1) = fb_ct (fun b => decide (xS m b = s)) b := by
          show fb_ct _ b + (if decide (xS m b = s) = true then 1 else 0) = _
          rw [if_neg (by rw [decide_eq_true_iff]; exact fun z => q z.symm)]
          rfl
        rw [pk_un q, hg s hs, e]
theorem s_alike (hN : Nw σ m) (hw : WF m) (hu : σ.1 16 1 = iI u) (hu2 : I32 u) {ω : fW} (W : WR G ω ax p m fa) (hfo : fOk m fa) (hS : nS m ≤ 4) (hH : nH m ≤ 4) {kb : Nat} (hkb : 500 ≤ kb) (HK : ∀ ω', fle ω ω' → K 1 (some σ) ω') : FC G l M_L_alike kb [.ref (zad G.1 0), .ref ax] (some σ, ω) (fQi K) := by
  refine b_L_alike ⟨by omega, fun q5 ω2 hq e2 => ?_⟩
  have h2 : fle ω ω2 := by rw [e2]; exact fle.up hq
  have c2 := (congrFun e2 q5).trans (fup_at _ _ _)
  have W2 := W.le h2
  obtain ⟨mc1, mc2, n1, n2, l1, l2, l3⟩ := W2.2.2.1
  refine ⟨_, _, W2.2.1, rfl, by omega, _, l2.1, s_iterator l2 (Nat.le_refl 1) (fun it x hit hi => ?_)⟩
  have hi0 := h2.none hit
  have h3 : fle ω (fup ω2 it x) := h2.new hi0
  have hne : q5 ≠ it := fun z => by rw [← z, c2] at hit; cases hit
  refine al_23 hw W hq hi0 (fun ω4 gb h4 hq4 hg4 => ?_) (nB m) 0 (fup ω2 it x) (fun _ => 0) (by omega) h3 ⟨n2, l2.le (fle.up hit)⟩ hi (by rw [fup_ne hne]; exact c2) (fun s hs => rfl)
  refine al_62 hN hw hu hu2 (W.le h4) hfo hq4 hg4 (fun ω5 h5 => HK ω5 (h4.tr h5)) (nS m) 0 _ ω4 (by omega) ?_ (fle.rf _)
  have e1 : (18 + 6 * (1 + 2 * nH m)) * nS m ≤ (18 + 6 * (1 + 2 * 4)) * 4 := Nat.mul_le_mul (by omega) hS
  omega
end ALm
