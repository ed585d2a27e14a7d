/-! the class: boxes of a text -/
section ZCX
variable {g : zG} {l : Launch} {K : Int32 → zS → Prop} {X : String → zS → Prop} {σ : zS} {f : Nat → Nat} {n p : Nat} {m m' : Nat → Int32}
theorem bx_xS {s c r w d v : Nat} (hn : nB m ≤ 15) (hs : s < 2) (hc : c < 1000) (hr : r < 1000) (hw : w < 1000) (hd : d < 1000) (hv : v < 1000) : xS (mBox m s c r w d v) (nB m) = s ∧ xX (mBox m s c r w d v) (nB m) = c ∧ xY (mBox m s c r w d v) (nB m) = r ∧ xW (mBox m s c r w d v) (nB m) = w ∧ xD (mBox m s c r w d v) (nB m) = d ∧ xC (mBox m s c r w d v) (nB m) = v := by
  unfold xS xX xY xW xD xC
  rw [qv_of mBox_0 (by omega), qv_of mBox_1 hc, qv_of mBox_2 hr, qv_of mBox_w hw, qv_of mBox_d hd, qv_of mBox_v hv]
  exact ⟨rfl, rfl, rfl, rfl, rfl, rfl⟩
theorem bx_old {s c r w d v b : Nat} (hb : b < nB m) : xS (mBox m s c r w d v) b = xS m b ∧ xX (mBox m s c r w d v) b = xX m b ∧ xY (mBox m s c r w d v) b = xY m b ∧ xW (mBox m s c r w d v) b = xW m b ∧ xD (mBox m s c r w d v) b = xD m b ∧ xC (mBox m s c r w d v) b = xC m b := by
  have o := fun i hi => mBox_old (m := m) (s := s) (c := c) (r := r) (w := w) (d := d) (v := v) (b := b) (i := i) hb hi
  unfold xS xX xY xW xD xC
  rw [o 0 (by decide), o 1 (by decide), o 2 (by decide), o 3 (by decide), o 4 (by decide), o 5 (by decide)]
  exact ⟨rfl, rfl, rfl, rfl, rfl, rfl⟩
theorem bx_row {s c r w d v : Nat} (hn : nB m ≤ 15) (hnS : nS m ≤ 10) : nH (mBox m s c r w d v) = nH m ∧ nC (mBox m s c r w d v) = nC m ∧ nS (mBox m s c r w d v) = nS m ∧ (∀ k, k < 10 → wd (mBox m s c r w d v) k = wd m k ∧ tu (mBox m s c r w d v) k = tu m k ∧ ct (mBox m s c r w d v) k 0 = ct m k 0 ∧ ct (mBox m s c r w d v) k 1 = ct m k 1) ∧ (∀ k, k ≤ 10 → fst (mBox m s c r w d v) k = fst m k) ∧ cols (mBox m s c r w d v) = cols m := by
  have e : ∀ q, q ≠ 3 → q < 54 → qv (mBox m s c r w d v) q = qv m q := fun q a b => by unfold qv; rw [mBox_q a (by omega)]
  have e3 : nS (mBox m s c r w d v) = nS m := by unfold nS; rw [e _ (by omega) (by omega)]
  have e4 : ∀ k, k < 10 → wd (mBox m s c r w d v) k = wd m k ∧ tu (mBox m s c r w d v) k = tu m k ∧ ct (mBox m s c r w d v) k 0 = ct m k 0 ∧ ct (mBox m s c r w d v) k 1 = ct m k 1 := fun k hk => by
    unfold wd tu ct
    rw [e _ (by omega) (by omega), e _ (by omega) (by omega), e _ (by omega) (by omega), e _ (by omega) (by omega)]
    exact ⟨rfl, rfl, rfl, rfl⟩
  have e5 : ∀ k, k ≤ 10 → fst (mBox m s c r w d v) k = fst m k := fun k hk => fb_sm_cong (fun j hj => (e4 j (by omega)).1)
  refine ⟨by unfold nH; rw [e _ (by omega) (by omega)], by unfold nC; rw [e _ (by omega) (by omega)], e3, e4, e5, ?_⟩
  unfold cols
  rw [e3, e5 _ hnS]
theorem c_boxRest {σ0 : zS} {hi co b s : Nat} {v : Int32} (hv : v = iI s) (hs : s < 2) (hS : SrC σ f n p) (hR : Rd m) (hn : nB m ≤ 15) (hb : b = nB m) (h1 : TRb σ m) (h2 : TRx σ m) (hx : σ.1 3 4 = iI (nB m)) (hxs : σ.1 4 (nB m) = iI s) (h3 : TRf σ hi co) (hF : FrP pD σ0 σ) (H : pNum f n p 0 63 (CTe K σ0 n) (fun c p2 => pNum f n p2 0 63 (CTe K σ0 n) (fun r p3 => pNum f n p3 1 64 (CTe K σ0 n) (fun w p4 => pNum f n p4 1 64 (CTe K σ0 n) (fun d p5 => pNum f n p5 1 9 (CTe K σ0 n) (fun v p6 => pSign f n p6 59 (CTe K σ0 n) (fun p7 => CTo K σ0 f n p7 (mBox m s c r w d v) hi co))))))) :
    CT g l M_X4_readInto 0 [.ref (zad g 3), .ref (zad g 5), .int 0, .int 63] σ (zQi (fun v7 τ7 => ((v7 = 0 → K 0 τ7) ∧ (¬ v7 = 0 → CT g l M_X4_readInto 0 [.ref (zad g 3), .ref (zad g 6), .int 0, .int 63] τ7 (zQi (fun v10 τ10 => ((v10 = 0 → K 0 τ10) ∧ (¬ v10 = 0 → CT g l M_X4_readInto 0 [.ref (zad g 3), .ref (zad g 7), .int 1, .int 64] τ10 (zQi (fun v13 τ13 => ((v13 = 0 → K 0 τ13) ∧ (¬ v13 = 0 → CT g l M_X4_readInto 0 [.ref (zad g 3), .ref (zad g 8), .int 1, .int 64] τ13 (zQi (fun v16 τ16 => ((v16 = 0 → K 0 τ16) ∧ (¬ v16 = 0 → CT g l M_X4_readInto 0 [.ref (zad g 3), .ref (zad g 9), .int 1, .int 9] τ16 (zQi (fun v19 τ19 => ((v19 = 0 → K 0 τ19) ∧ (¬ v19 = 0 → (∀ σ23 : zS, σ23 = zup τ19 3 4 ((τ19.1 3 4) + 1) → ((¬ v = 1 → CT g l M_X0_countBox 0 [.ref (zad g 93), .int 0] σ23 (zQv (fun τ25 => CT g l M_X3_takeSign 0 [.ref (zad g 1), .int 59] τ25 (zQi (fun v26 τ26 => (zbl v26 ∧ K v26 τ26)) (fun E τ => X E τ))) (fun E τ => X E τ))) ∧ (v = 1 → CT g l M_X0_countBox 0 [.ref (zad g 93), .int 1] σ23 (zQv (fun τ27 => CT g l M_X3_takeSign 0 [.ref (zad g 1), .int 59] τ27 (zQi (fun v28 τ28 => (zbl v28 ∧ K v28 τ28)) (fun E τ => X E τ))) (fun E τ => X E τ)))))))) (fun E τ => X E τ))))) (fun E τ => X E τ))))) (fun E τ => X E τ))))) (fun E τ => X E τ))))) (fun E τ => X E τ)) := by
  subst hb
  subst hv
  have hwb := wf_b hR.1
  have pT : ∀ {t : Nat} {τ υ : zS}, 5 ≤ t ∧ t ≤ 9 → FrP (fun b => b = 1 ∨ b = t) τ υ → FrP pD τ υ := fun h k => k.sub (fun b hb => by unfold pD; omega)
  have D5 : ∀ {t : Nat} {τ υ : zS}, 5 ≤ t ∧ t ≤ 9 → FrP (fun b => b = 1 ∨ b = t) τ υ → υ.1 3 = τ.1 3 := fun h k => k.1 3 (by omega)
  refine c_readInto (t := 5) (by decide) hS (b := nB m) (by omega) hx (lo := 0) (hi := 63) (by decide) (by decide) (pNum_m H (fun c q hE τ f1 a e => ⟨fun _ => hE τ (hF.tr (pE_D f1)) a e, fun h => absurd rfl h⟩) (fun cc _ _ c2 _ H τ5 f5 S5 z5 => ⟨fun h => absurd h (by decide), fun _ => ?_⟩))
  have g5 : FrP pD σ0 τ5 := hF.tr (pT (by decide) f5)
  have x5 : τ5.1 3 = σ.1 3 := D5 (by decide) f5
  refine c_readInto (t := 6) (by decide) S5 (b := nB m) (by omega) (by rw [x5, hx]) (lo := 0) (hi := 63) (by decide) (by decide) (pNum_m H (fun c q hE τ f1 a e => ⟨fun _ => hE τ (g5.tr (pE_D f1)) a e, fun h => absurd rfl h⟩) (fun rr _ _ r2 _ H τ6 f6 S6 z6 => ⟨fun h => absurd h (by decide), fun _ => ?_⟩))
  have g6 : FrP pD σ0 τ6 := g5.tr (pT (by decide) f6)
  have x6 : τ6.1 3 = σ.1 3 := (D5 (by decide) f6).trans x5
  refine c_readInto (t := 7) (by decide) S6 (b := nB m) (by omega) (by rw [x6, hx]) (lo := 1) (hi := 64) (by decide) (by decide) (pNum_m H (fun c q hE τ f1 a e => ⟨fun _ => hE τ (g6.tr (pE_D f1)) a e, fun h => absurd rfl h⟩) (fun ww _ w1 w2 _ H τ7 f7 S7 z7 => ⟨fun h => absurd h (by decide), fun _ => ?_⟩))
  have g7 : FrP pD σ0 τ7 := g6.tr (pT (by decide) f7)
  have x7 : τ7.1 3 = σ.1 3 := (D5 (by decide) f7).trans x6
  refine c_readInto (t := 8) (by decide) S7 (b := nB m) (by omega) (by rw [x7, hx]) (lo := 1) (hi := 64) (by decide) (by decide) (pNum_m H (fun c q hE τ f1 a e => ⟨fun _ => hE τ (g7.tr (pE_D f1)) a e, fun h => absurd rfl h⟩) (fun dd _ d1 d2 _ H τ8 f8 S8 z8 => ⟨fun h => absurd h (by decide), fun _ => ?_⟩))
  have g8 : FrP pD σ0 τ8 := g7.tr (pT (by decide) f8)
  have x8 : τ8.1 3 = σ.1 3 := (D5 (by decide) f8).trans x7
  refine c_readInto (t := 9) (by decide) S8 (b := nB m) (by omega) (by rw [x8, hx]) (lo := 1) (hi := 9) (by decide) (by decide) (pNum_m H (fun c q hE τ f1 a e => ⟨fun _ => hE τ (g8.tr (pE_D f1)) a e, fun h => absurd rfl h⟩) (fun vv _ v1 v2 _ H τ9 f9 S9 z9 => ⟨fun h => absurd h (by decide), fun _ => ?_⟩))
  have g9 : FrP pD σ0 τ9 := g8.tr (pT (by decide) f9)
  have x9 : τ9.1 3 = σ.1 3 := (D5 (by decide) f9).trans x8
  rw [x9, hx]
  intro σ23 e23
  have F23 : ∀ b, b ≠ 1 → ¬ (5 ≤ b ∧ b ≤ 9) → b ≠ 3 → σ23.1 b = σ.1 b := fun b q1 q2 q3 => by
    rw [e23, zpt_ne q3, f9.1 b (by omega), f8.1 b (by omega), f7.1 b (by omega), f6.1 b (by omega), f5.1 b (by omega)]
  have y5 : σ23.1 5 = upd (σ.1 5) (nB m) (iI cc) := by rw [e23, zpt_ne (by decide), f9.1 5 (by omega), f8.1 5 (by omega), f7.1 5 (by omega), f6.1 5 (by omega), z5]
  have y6 : σ23.1 6 = upd (σ.1 6) (nB m) (iI rr) := by rw [e23, zpt_ne (by decide), f9.1 6 (by omega), f8.1 6 (by omega), f7.1 6 (by omega), z6, f5.1 6 (by omega)]
  have y7 : σ23.1 7 = upd (σ.1 7) (nB m) (iI ww) := by rw [e23, zpt_ne (by decide), f9.1 7 (by omega), f8.1 7 (by omega), z7, f6.1 7 (by omega), f5.1 7 (by omega)]
  have y8 : σ23.1 8 = upd (σ.1 8) (nB m) (iI dd) := by rw [e23, zpt_ne (by decide), f9.1 8 (by omega), z8, f7.1 8 (by omega), f6.1 8 (by omega), f5.1 8 (by omega)]
  have y9 : σ23.1 9 = upd (σ.1 9) (nB m) (iI vv) := by rw [e23, zpt_ne (by decide), z9, f8.1 9 (by omega), f7.1 9 (by omega), f6.1 9 (by omega), f5.1 9 (by omega)]
  have y3 : ∀ k, k ≠ 4 → σ23.1 3 k = σ.1 3 k := fun k hk => by rw [e23, zpt_at, pk_un hk, x9]
  have y34 : σ23.1 3 4 = iI (nB m + 1 : Nat) := by rw [e23, zpt_at, pk_us, show (1 : Int32) = iI 1 from rfl, iI_add]; rfl
  have g23 : FrP pD σ0 σ23 := by rw [e23]; exact g9.up (Or.inr (Or.inl (by decide))) _
  have S23 : SrC σ23 f n _ := S9.fr (by rw [e23, zpt_ne (by decide)]) (by rw [e23, zpt_ne (by decide)])
  obtain ⟨a0, a1, a2, a3, a4, a5, a6, a7, a8⟩ := h1
  obtain ⟨q0, q1, q2, q3, q4, q5⟩ := bx_row (m := m) (s := s) (c := cc) (r := rr) (w := ww) (d := dd) (v := vv) hn hwb.2.2.1
  have hbx := fun s' => mBox_boxes (m := m) (c := cc) (r := rr) (w := ww) (d := dd) (v := vv) hn (show s < 1000 by omega) s'
  have fin : ∀ τ, FrP (fun b => b = 93) σ23 τ → (∀ k, k ≠ 4 → k ≠ 5 → τ.1 93 k = σ.1 93 k) → τ.1 93 4 = iI (boxesOf m 0 + if s = 0 then 1 else 0 : Nat) → τ.1 93 5 = iI (boxesOf m 1 + if s = 1 then 1 else 0 : Nat) → CT g l M_X3_takeSign 0 [.ref (zad g 1), .int 59] τ (zQi (fun v26 τ26 => (zbl v26 ∧ K v26 τ26)) (fun E τ => X E τ)) := fun τ fr t0 t4 t5 => by
    refine c_lastSign (m := mBox m s cc rr ww dd vv) (hi := hi) (co := co) (S23.fr (fr.1 1 (by omega)) (fr.1 2 (by omega))) ⟨?_, ?_, ?_, ?_, ?_, ?_, ?_, fun k hk => ?_, fun c hc => ?_⟩ ⟨?_, fun b hb => ?_⟩ ⟨?_, ?_⟩ (g23.tr (fr.sub (fun b hb => by unfold pD; omega))) H
    · rw [t0 0 (by decide) (by decide), q0]; exact a0
    · rw [t0 1 (by decide) (by decide), q1]; exact a1
    · rw [t0 2 (by decide) (by decide), q2]; exact a2
    · rw [t0 3 (by decide) (by decide), q5]; exact a3
    · rw [t4, hbx 0]
    · rw [t5, hbx 1]
    · rw [t0 6 (by decide) (by decide)]; exact a6
    · rw [q2] at hk
      obtain ⟨k1, k2, k3, k4⟩ := q3 k (by omega)
      rw [k1, k2, k3, k4, q4 k (by omega), fr.1 94 (by omega), fr.1 95 (by omega), fr.1 96 (by omega), fr.1 97 (by omega), fr.1 98 (by omega), F23 94 (by omega) (by omega) (by omega), F23 95 (by omega) (by omega) (by omega), F23 96 (by omega) (by omega) (by omega), F23 97 (by omega) (by omega) (by omega), F23 98 (by omega) (by omega) (by omega)]
      exact a7 k hk
    · rw [fr.1 99 (by omega), fr.1 100 (by omega), F23 99 (by omega) (by omega) (by omega), F23 100 (by omega) (by omega) (by omega)]
      exact a8 c hc
    · rw [fr.1 3 (by omega), y34, mBox_nB hn]
    · rw [mBox_nB hn] at hb
      rw [fr.1 4 (by omega), fr.1 5 (by omega), fr.1 6 (by omega), fr.1 7 (by omega), fr.1 8 (by omega), fr.1 9 (by omega), F23 4 (by omega) (by omega) (by omega), y5, y6, y7, y8, y9]
      by_cases e : b = nB m
      · subst e
        obtain ⟨o0, o1, o2, o3, o4, o5⟩ := bx_xS (m := m) (s := s) (c := cc) (r := rr) (w := ww) (d := dd) (v := vv) hn hs (by omega) (by omega) (by omega) (by omega) (by omega)
        rw [o0, o1, o2, o3, o4, o5, hxs, pk_us, pk_us, pk_us, pk_us, pk_us]
        exact ⟨rfl, rfl, rfl, rfl, rfl, rfl⟩
      · obtain ⟨o0, o1, o2, o3, o4, o5⟩ := bx_old (m := m) (s := s) (c := cc) (r := rr) (w := ww) (d := dd) (v := vv) (b := b) (by omega)
        rw [o0, o1, o2, o3, o4, o5, pk_un e, pk_un e, pk_un e, pk_un e, pk_un e]
        exact h2.2 b (by omega)
    · rw [fr.1 3 (by omega), y3 2 (by decide)]; exact h3.1
    · rw [fr.1 3 (by omega), y3 3 (by decide)]; exact h3.2
  have c93 : σ23.1 93 = σ.1 93 := F23 93 (by omega) (by omega) (by omega)
  rw [show (1 : Int32) = iI 1 from rfl, iI_eq (by omega) (by omega) (by omega) (by omega)]
  refine ⟨fun hs1 => b_X0_countBox zB_93 ⟨fun _ => ?_, fun h => absurd rfl h⟩, fun hs1 => b_X0_countBox zB_93 ⟨fun h => absurd h (by decide), fun _ => ?_⟩⟩
  · have e : s = 0 := by omega
    intro τ eτ
    refine fin τ (by rw [eτ]; exact (FrP.rf (fun b => b = 93) σ23).up rfl _) (fun k k4 k5 => by rw [eτ, zpt_at, pk_un k4, c93]) ?_ ?_
    · rw [eτ, zpt_at, pk_us, c93, a4, if_pos e, show (1 : Int32) = iI 1 from rfl, iI_add]; rfl
    · rw [eτ, zpt_at, pk_un (by decide), c93, a5, if_neg (by omega)]; rfl
  · have e : s = 1 := by omega
    intro τ eτ
    refine fin τ (by rw [eτ]; exact (FrP.rf (fun b => b = 93) σ23).up rfl _) (fun k k4 k5 => by rw [eτ, zpt_at, pk_un k5, c93]) ?_ ?_
    · rw [eτ, zpt_at, pk_un (by decide), c93, a4, if_neg (by omega)]; rfl
    · rw [eτ, zpt_at, pk_us, c93, a5, if_pos e, show (1 : Int32) = iI 1 from rfl, iI_add]; rfl
end ZCX

