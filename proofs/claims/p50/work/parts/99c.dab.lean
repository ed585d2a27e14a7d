section ADb
variable {G : fG} {l : Launch} {K : Int32 → Option zS → fW → Prop} {ax : Nat} {m : Nat → Int32} {σ : zS} {ω : fW}
theorem mDab_Sb {k s c r v : Nat} : Sb m (mDab m k s c r v) := ⟨wF_q (by omega), wF_q (by omega), wF_q (by omega), fun k hk => wF_q (by omega)⟩
theorem ac_dab (J : JW G ax m σ ω) {p : Nat → Nat} {fa : Nat → Nat → Nat → Int32} (W : WR G ω ax p m fa) (hf : fOk m fa) {k s c r v : Nat} (hk : k < nS m) (hs : s < 2) (hc : c < wd m k) (hr : r < nH m) (hv : v ≤ 9) {kb : Nat} (hkb : 2 ≤ kb) (HK : ∀ τ ω' m', JW G ax m' τ ω' → K 1 (some τ) ω') :
    (∃ (fs71 : List Value) (w72 : Nat), ω ax = some (.inr (11, fs71)) ∧ fs71[4]? = some (.ref w72) ∧ (∃ (n73 : Nat) (f74 : Nat → Option Nat) (w75 : Nat), ω w72 = some (.inl (G.1.2.1 6, n73, .inr (.inr (.inr (.inr f74))))) ∧ vp_in (nI s) n73 ∧ f74 (Int32.toNatClampNeg (nI s)) = some w75 ∧ (∃ (n76 : Nat) (f77 : Nat → Option Nat) (w78 : Nat), ω w75 = some (.inl (G.1.2.1 4, n76, .inr (.inr (.inr (.inr f77))))) ∧ vp_in (nI (fst m k + c)) n76 ∧ f77 (Int32.toNatClampNeg (nI (fst m k + c))) = some w78 ∧ (∃ (n79 : Nat) (f80 : Nat → Int32), ω w78 = some (.inl (G.1.2.1 0, n79, .inl f80)) ∧ vp_in (nI r) n79 ∧ (∃ (fs81 : List Value) (w82 : Nat), ω ax = some (.inr (11, fs81)) ∧ fs81[4]? = some (.ref w82) ∧ (∃ (n83 : Nat) (f84 : Nat → Option Nat) (w85 : Nat), ω w82 = some (.inl (G.1.2.1 6, n83, .inr (.inr (.inr (.inr f84))))) ∧ vp_in (nI s) n83 ∧ f84 (Int32.toNatClampNeg (nI s)) = some w85 ∧ (∃ (n86 : Nat) (f87 : Nat → Option Nat) (w88 : Nat), ω w85 = some (.inl (G.1.2.1 4, n86, .inr (.inr (.inr (.inr f87))))) ∧ vp_in (nI (fst m k + c)) n86 ∧ f87 (Int32.toNatClampNeg (nI (fst m k + c))) = some w88 ∧ (∃ (n89 : Nat) (f90 : Nat → Int32), ω w88 = some (.inl (G.1.2.1 0, n89, .inl f90)) ∧ vp_in (nI r) n89 ∧ (∀ ω91 : fW, ω91 = fup ω w88 (.inl (G.1.2.1 0, n89, .inl (upd f90 (Int32.toNatClampNeg (nI r)) (nI v)))) → ((¬ nI s = 1 → L_L_acts_512 G l K ax (nI c) (nI r) (nI v) (f80 (Int32.toNatClampNeg (nI r))) 0 (nI k) (some σ) ω91 kb) ∧ (nI s = 1 → L_L_acts_512 G l K ax (nI c) (nI r) (nI v) (f80 (Int32.toNatClampNeg (nI r))) 1 (nI k) (some σ) ω91 kb))))))))))) := by
  obtain ⟨hN, hw, h4, ⟨u, h, hH, hh⟩, -⟩ := id J
  have hs' := wf_s hw hk
  have hwb := wf_b hw
  have hcol := fst_col hw hk hc
  have hcl := cols_le hw
  obtain ⟨F, R, f, a1, a2, b1, b2, c1, c2⟩ := W.face hs (show fst m k + c < 64 by omega)
  have a2' : F (Int32.toNatClampNeg (nI s)) = some (p (163 + s)) := by rw [nI_clamp (by omega)]; exact a2
  have b2' : R (Int32.toNatClampNeg (nI (fst m k + c))) = some (p (32 + 64 * s + (fst m k + c))) := by rw [nI_clamp (by omega)]; exact b2
  refine ⟨_, _, W.2.1, rfl, _, _, _, a1, nI_in hs (by omega), a2', _, _, _, b1, nI_in (by omega) (by omega), b2', _, _, c1, nI_in (by omega) (by omega), _, _, W.2.1, rfl, _, _, _, a1, nI_in hs (by omega), a2', _, _, _, b1, nI_in (by omega) (by omega), b2', _, _, c1, nI_in (by omega) (by omega), fun ω2 e2 => ?_⟩
  rw [nI_clamp (by omega)] at e2
  have fv : f (Int32.toNatClampNeg (nI r)) = iI (fc m s (fst m k + c) r) := by rw [nI_clamp (by omega), c2 r (by omega), hf s _ r hs hcol hr, iI_n]
  rw [fv]
  have W2 := W.fset hs (show fst m k + c < 64 by omega) (show r < 8 by omega) c1 c2 (nI v)
  rw [← e2] at W2
  have fin : ∀ z0 : Int32, z0 = iI (s : Nat) → L_L_acts_512 G l K ax (nI c) (nI r) (nI v) (iI (fc m s (fst m k + c) r)) z0 (nI k) (some σ) ω2 kb := by
    intro z0 ez
    subst ez
    refine b_L_acts_512 ⟨σ, rfl, by omega, fun n => ?_⟩
    rw [iI_n k, iI_n c, iI_n r, iI_n v]
    refine c_dab hN hw hH hh (by unfold I32; omega) (by unfold I32; omega) (by unfold I32; omega) (by unfold I32; omega) hs (fun q c' r' w e1 e3 e4 e5 _ _ _ _ τ hC => ?_) (fun z => z ⟨by omega, by rw [Int.toNat_natCast]; omega, by omega⟩) (fun _ z => z (by omega))
    have e1 : q = k := by omega
    have e3 : c' = c := by omega
    have e4 : r' = r := by omega
    have e5 : w = v := by omega
    subst e1 e3 e4 e5
    refine ⟨fun z => absurd rfl z, fun _ => b_L_acts_531 ⟨zbl_1, HK τ ω2 (mDab m q s c' r' w) ?_⟩⟩
    have hw2 : WF (mDab m q s c' r' w) := wF_wf hw (fun s' c2 r2 h1 h2 h3 => by
      have := wf_f9 hw h1 h2 h3
      split <;> omega)
    refine J.chg hh hC hw2 mDab_Sb (fun k s hk hs => nle_eq (congrArg (fun z : Int32 => z.toInt.toNat) (wF_q (Or.inl (by omega)))) (J.2.2.1.2 k s hk hs)) (p := p) (fa := fset fa s (fst m q + c') r' (nI w)) (WR.of (W2.cong (fun k' hk' j hj => wF_q (by omega)) (fun b hb j hj => wF_q (by omega))) mDab_Sb (wF_b _).2.e_nB) ?_
    intro s2 c2' r2 h1 h2 h3
    rw [(mDab_Sb (m := m)).e_cols hw] at h2
    rw [(mDab_Sb (m := m)).e_nH] at h3
    rw [mDab_fc hw hv h1 (by omega) (by omega)]
    unfold fset
    by_cases z : s2 = s ∧ c2' = fst m q + c' ∧ r2 = r'
    · rw [if_pos z, if_pos z]
    · rw [if_neg z, if_neg z]
      exact hf s2 c2' r2 h1 h2 h3
  refine ⟨fun z => fin 0 ?_, fun z => fin 1 ?_⟩
  · have : s ≠ 1 := fun w => z (by rw [w]; rfl)
    rw [show s = 0 by omega]; rfl
  · exact z.symm
theorem WQ.congB {p : Nat → Nat} {H C S B : Nat} {m' : Nat → Int32} {fa : Nat → Nat → Nat → Int32} (h : WQ G ω ax p H C S B m fa) (hq : ∀ q, q < 54 + 6 * B → 4 ≤ q → m' q = m q) (hS : S ≤ 10) : WQ G ω ax p H C S B m' fa := h.cong (fun k hk j hj => hq _ (by omega) (by omega)) (fun b hb j hj => hq _ (by omega) (by omega))
theorem ac_spot (J : JW G ax m σ ω) {p : Nat → Nat} {fa : Nat → Nat → Nat → Int32} (W : WR G ω ax p m fa) (hf : fOk m fa) {k s c r v : Nat} (hk : k < nS m) (hs : s < 2) (hc : c < wd m k) (hr : r < nH m) (hv : v ≤ 9) {kb : Nat} (hkb : 10 ≤ kb) (HK : ∀ τ ω' m', JW G ax m' τ ω' → K 1 (some τ) ω') :
    (∃ (fs37 : List Value) (w38 : Nat), ω ax = some (.inr (11, fs37)) ∧ fs37[3]? = some (.ref w38) ∧ (0 ≤ kb ∧ ∃ fs70 : List Value, ω w38 = some (.inr (3, fs70)) ∧ FC G l M_Jx4a65c_size_8abf5 0 [.ref w38] (some σ, ω) (fQi (fun v39 o40 ω41 => ((¬ v39 = 16 → (∃ (fs43 : List Value) (w44 : Nat), ω41 ax = some (.inr (11, fs43)) ∧ fs43[3]? = some (.ref w44) ∧ (1 ≤ kb ∧ ∀ (q45 : Nat) (ω46 : fW), ω41 q45 = none → ω46 = fup ω41 q45 (.inl (G.1.2.1 0, 6, .inl (fun _ => 0))) → (∃ (n47 : Nat) (f48 : Nat → Int32), ω46 q45 = some (.inl (G.1.2.1 0, n47, .inl f48)) ∧ vp_in 0 n47 ∧ (∀ ω49 : fW, ω49 = fup ω46 q45 (.inl (G.1.2.1 0, n47, .inl (upd f48 (Int32.toNatClampNeg 0) (nI s)))) → (∃ (n50 : Nat) (f51 : Nat → Int32), ω49 q45 = some (.inl (G.1.2.1 0, n50, .inl f51)) ∧ vp_in 1 n50 ∧ (∀ ω52 : fW, ω52 = fup ω49 q45 (.inl (G.1.2.1 0, n50, .inl (upd f51 (Int32.toNatClampNeg 1) (nI (fst m k + c))))) → (∃ (n53 : Nat) (f54 : Nat → Int32), ω52 q45 = some (.inl (G.1.2.1 0, n53, .inl f54)) ∧ vp_in 2 n53 ∧ (∀ ω55 : fW, ω55 = fup ω52 q45 (.inl (G.1.2.1 0, n53, .inl (upd f54 (Int32.toNatClampNeg 2) (nI r)))) → (∃ (n56 : Nat) (f57 : Nat → Int32), ω55 q45 = some (.inl (G.1.2.1 0, n56, .inl f57)) ∧ vp_in 3 n56 ∧ (∀ ω58 : fW, ω58 = fup ω55 q45 (.inl (G.1.2.1 0, n56, .inl (upd f57 (Int32.toNatClampNeg 3) 1))) → (∃ (n59 : Nat) (f60 : Nat → Int32), ω58 q45 = some (.inl (G.1.2.1 0, n59, .inl f60)) ∧ vp_in 4 n59 ∧ (∀ ω61 : fW, ω61 = fup ω58 q45 (.inl (G.1.2.1 0, n59, .inl (upd f60 (Int32.toNatClampNeg 4) 1))) → (∃ (n62 : Nat) (f63 : Nat → Int32), ω61 q45 = some (.inl (G.1.2.1 0, n62, .inl f63)) ∧ vp_in 5 n62 ∧ (∀ ω64 : fW, ω64 = fup ω61 q45 (.inl (G.1.2.1 0, n62, .inl (upd f63 (Int32.toNatClampNeg 5) (nI v)))) → (3 ≤ (kb - 1) ∧ ∃ fs69 : List Value, ω64 w44 = some (.inr (3, fs69)) ∧ FC G l M_Jx4a65c_add_9ea2d 3 [.ref w44, .ref q45] (o40, ω64) (fQi (fun v65 o66 ω67 => ((¬ nI s = 1 → L_L_acts_769 G l K ax (nI (fst m k)) (nI c) (nI r) (nI v) 0 o66 ω67 ((kb - 1) - 3)) ∧ (nI s = 1 → L_L_acts_769 G l K ax (nI (fst m k)) (nI c) (nI r) (nI v) 1 o66 ω67 ((kb - 1) - 3))))))))))))))))))))) ∧ (v39 = 16 → K 1 o40 ω41)))))) := by
  obtain ⟨hN, hw, h4, ⟨u, h, hH, hh⟩, -⟩ := id J
  have hs' := wf_s hw hk
  have hwb := wf_b hw
  have hcol := fst_col hw hk hc
  have hcl := cols_le hw
  obtain ⟨mc1, mc2, n1, n2, l1, l2, l3⟩ := W.2.2.1
  refine ⟨_, _, W.2.1, rfl, Nat.zero_le _, _, l2.1, s_size l2 ⟨fun y => ⟨_, _, W.2.1, rfl, by omega, fun q ω1 hq e1 => ?_⟩, fun _ => HK σ ω m J⟩⟩
  have hnB : nB m ≤ 15 := by
    have : nB m ≠ 16 := fun z => y (by rw [z]; rfl)
    omega
  have hn := W.new hq
  have W1 : WR G ω1 ax p m fa := by rw [e1]; exact W.le (fle.up hq)
  have k1 := (congrFun e1 q).trans (fup_at _ _ _)
  refine ⟨_, _, k1, vi (i := 0) (by omega) (by omega), fun ω2 e2 => ?_⟩
  have W2 : WR G ω2 ax p m fa := by rw [e2]; exact W1.off k1 hn
  have k2 := (congrFun e2 q).trans (fup_at _ _ _)
  refine ⟨_, _, k2, vi (i := 1) (by omega) (by omega), fun ω3 e3 => ?_⟩
  have W3 : WR G ω3 ax p m fa := by rw [e3]; exact W2.off k2 hn
  have k3 := (congrFun e3 q).trans (fup_at _ _ _)
  refine ⟨_, _, k3, vi (i := 2) (by omega) (by omega), fun ω4 e4 => ?_⟩
  have W4 : WR G ω4 ax p m fa := by rw [e4]; exact W3.off k3 hn
  have k4 := (congrFun e4 q).trans (fup_at _ _ _)
  refine ⟨_, _, k4, vi (i := 3) (by omega) (by omega), fun ω5 e5 => ?_⟩
  have W5 : WR G ω5 ax p m fa := by rw [e5]; exact W4.off k4 hn
  have k5 := (congrFun e5 q).trans (fup_at _ _ _)
  refine ⟨_, _, k5, vi (i := 4) (by omega) (by omega), fun ω6 e6 => ?_⟩
  have W6 : WR G ω6 ax p m fa := by rw [e6]; exact W5.off k5 hn
  have k6 := (congrFun e6 q).trans (fup_at _ _ _)
  refine ⟨_, _, k6, vi (i := 5) (by omega) (by omega), fun ω7 e7 => ?_⟩
  have W7 : WR G ω7 ax p m fa := by rw [e7]; exact W6.off k6 hn
  have k7 := (congrFun e7 q).trans (fup_at _ _ _)
  obtain ⟨mc3, mc4, n3, n4, l4, l5, l6⟩ := W7.2.2.1
  have W8 : WQ G ω7 ax p (nH m) (nC m) (nS m) (nB m) (mBox m s (fst m k + c) r 1 1 v) fa := W7.congB (fun q h1 h2 => mBox_q (by omega) (by omega)) (by omega)
  refine ⟨by omega, _, l5.1, w_addB W8 k7 (fun j hj => ?_) hn (by omega) (Nat.le_refl 3) (fun p' ω8 W9 _ _ => ?_)⟩
  · rw [tc_0, tc_1, tc_2, tc_3, tc_4, tc_5]
    match j, hj with
    | 0, _ => exact mBox_0.symm
    | 1, _ => rw [show 54 + 6 * nB m + 1 = 55 + 6 * nB m by omega]; exact mBox_1.symm
    | 2, _ => rw [show 54 + 6 * nB m + 2 = 56 + 6 * nB m by omega]; exact mBox_2.symm
    | 3, _ => rw [show 54 + 6 * nB m + 3 = 57 + 6 * nB m by omega]; exact mBox_w.symm
    | 4, _ => rw [show 54 + 6 * nB m + 4 = 58 + 6 * nB m by omega]; exact mBox_d.symm
    | 5, _ => rw [show 54 + 6 * nB m + 5 = 59 + 6 * nB m by omega]; exact mBox_v.symm
  have hSb : Sb m (mBox m s (fst m k + c) r 1 1 v) := mBox_Sb hnB
  have fin : ∀ z0 : Int32, z0 = iI (s : Nat) → L_L_acts_769 G l K ax (nI (fst m k)) (nI c) (nI r) (nI v) z0 (some σ) ω8 ((kb - 1) - 3) := by
    intro z0 ez
    subst ez
    refine b_L_acts_769 ⟨σ, rfl, by omega, fun n => ?_⟩
    rw [nI_add, iI_n (fst m k + c), iI_n r, iI_n v]
    refine c_spot hN hw hH hh (by unfold I32; omega) (by unfold I32; omega) (by unfold I32; omega) hs (fun c' r' w e1 e2 e3 _ _ _ _ τ hC => ?_) (fun z => z (by omega)) (fun _ z => z (by omega)) (fun _ _ z => z (by omega))
    have e1 : c' = fst m k + c := by omega
    have e2 : r' = r := by omega
    have e3 : w = v := by omega
    subst e1 e2 e3
    obtain ⟨mc5, mc6, n5, n6, l7, l8, l9⟩ := W9.2.2.1
    refine ⟨_, _, W9.2.1, rfl, Nat.zero_le _, _, l8.1, s_size l8 ⟨fun z => absurd ?_ z, fun _ => b_L_acts_798 ⟨zbl_1, HK τ ω8 (mBox m s (fst m k + c) r' 1 1 w) ?_⟩⟩⟩
    · rw [iI_n]
    · refine J.chg hh hC (mBox_wf hw hnB hs (by omega) (by omega) (by omega) (by omega) hv) hSb (fun k s hk hs => nle_eq (congrArg (fun z : Int32 => z.toInt.toNat) (mBox_q (by omega) (by omega))) (J.2.2.1.2 k s hk hs)) (p := p') (fa := fa) ?_ (hf.of hw hSb (fun s2 c2 r2 h1 h2 h3 => by unfold fc qv; rw [mBox_q (by omega) (by omega)]))
      show WQ G ω8 ax p' (nH (mBox m s (fst m k + c) r' 1 1 w)) (nC (mBox m s (fst m k + c) r' 1 1 w)) (nS (mBox m s (fst m k + c) r' 1 1 w)) (nB (mBox m s (fst m k + c) r' 1 1 w)) _ fa
      rw [hSb.e_nH, hSb.e_nC, hSb.e_nS, mBox_nB hnB]
      exact W9
  refine ⟨fun z => fin 0 ?_, fun z => fin 1 ?_⟩
  · have : s ≠ 1 := fun w => z (by rw [w]; rfl)
    rw [show s = 0 by omega]; rfl
  · exact z.symm
end ADb
