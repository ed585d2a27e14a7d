/-! the reference: runScript -/
section ZMRn
variable {g : zG} {l : Launch} {K : Int32 → zS → Prop} {X : String → zS → Prop} {σ : zS} {f : Nat → Nat} {n p : Nat} {m : Nat → Int32} {P : Den} {st : List Fr} {k L : Nat}
def FINT (g : zG) (l : Launch) (K : Int32 → zS → Prop) (X : String → zS → Prop) (τ : zS) : Prop := CT g l M_X7_endsText 0 [.ref (zad g 24)] τ (zQi (fun v5 τ5 => ((¬ v5 = 0 → CT g l M_X7_laysAside 0 [.ref (zad g 24)] τ5 (zQv (fun τ7 => CT g l M_X7_doesAll 0 [.ref (zad g 24)] τ7 (zQi (fun v8 τ8 => CT g l M_X7_keeps 0 [.ref (zad g 24)] τ8 (zQv (fun τ9 => K v8 τ9) (fun E τ => X E τ))) (fun E τ => X E τ))) (fun E τ => X E τ))) ∧ (v5 = 0 → K 0 τ5))) (fun E τ => X E τ))
def SkE (g : zG) (l : Launch) (K : Int32 → zS → Prop) (X : String → zS → Prop) (σ0 : zS) : Nat → Nat → Prop := fun c q => ∀ τ, FN L6S F9S σ0 τ → ErM τ c q → FINT g l K X τ
def SkO (g : zG) (l : Launch) (K : Int32 → zS → Prop) (X : String → zS → Prop) (σ0 : zS) (f : Nat → Nat) (n : Nat) : Den → Nat → Nat → Prop := fun P k L => ∀ τ, FN L6S F9S σ0 τ → SrN τ f n → MS g l τ P [] k L → FINT g l K X τ
theorem s_19E {c q : Nat} (hE : ErM σ c q) (h : FINT g l K X σ) : L_X7_runScript_19 g l K X σ :=
  b_X7_runScript_19 (s_isGoodE hE ⟨fun _ => s_isGoodE hE ⟨fun _ => h, fun k => absurd rfl k⟩, fun k => absurd rfl k⟩)
theorem s_closesE {K : zS → Prop} {c q : Nat} (hE : ErM σ c q) (h : K σ) : CT g l M_X7_closes 0 [.ref (zad g 24)] σ (zQv K X) :=
  b_X7_closes (b_X7_closes_0 ⟨fun _ => h, fun _ => s_isSignE hE ⟨fun _ => h, fun k => absurd rfl k⟩⟩)
theorem s_head {σ0 : zS} (u : Nat) (ih : ∀ (p : Nat) (P : Den) (st : List Fr) (k L : Nat) (σ : zS), 2 * (600 - u) ≤ p → FN L6S F9S σ0 σ → SrM σ f n p → MS g l σ P st k L → pScr f n (SkE g l K X σ0) (SkO g l K X σ0 f n) u p P st k L → L_X7_closes_0 g l (fun τ => L_X7_runScript_19 g l K X τ) X σ)
    (hp : 2 * (600 - (u + 1)) ≤ p) (hF : FN L6S F9S σ0 σ) (hS : SrM σ f n p) (hM : MS g l σ P st k L) (hst : st.length = 0 ∨ ztK f n p ≠ 41) (H : pScr f n (SkE g l K X σ0) (SkO g l K X σ0 f n) (u + 1) p P st k L) : L_X7_runScript_19 g l K X σ := by
  obtain ⟨a31, a30, a32, hk, hs2, hL, hP, hSt⟩ := id hM
  have hmk := mK_b (ztK f n p)
  unfold pScr at H
  refine b_X7_runScript_19 (s_isGood hS.1 ⟨fun h => absurd h (by decide), fun _ => ?_⟩)
  rw [hS.2.2.2.2.1, a32, show (0 : Int32) = iI 0 from rfl, iI_eq (by omega) (by omega) (by omega) (by omega)]
  refine ⟨fun h0 => s_isGood hS.1 ⟨fun h => absurd h (by decide), fun _ => ?_⟩, fun h0 => ?_⟩
  rw [a32, iI_le (by omega) (by omega) (by omega) (by omega)]
  refine ⟨fun hd => ?_, fun hd => ?_⟩
  · have z0 : ztK f n p = 0 := mK_0.mp (by omega)
    have hz : st = [] := by
      match st, hd with
      | [], _ => rfl
      | x :: rest, hd => exact absurd hd (by show ¬ ((rest.length + 1 : Nat) : Int) ≤ 0; omega)
    subst hz
    rw [if_pos ⟨z0, rfl⟩] at H
    exact H σ hF hS.1 hM
  · have z0 : ztK f n p = 0 := mK_0.mp (by omega)
    rw [if_neg (fun h => by have := h.2; omega)] at H
    have hv : pV f n p = 8 := by
      by_cases e : pV f n p = 8
      · exact e
      · have := pV_2 e; omega
    have H2 : SkE g l K X σ0 1 (ztS f n p) := by
      match st, hd, H with
      | [], hd, _ => exact absurd (Int.le_refl _) hd
      | (t, Q, kq, Lq) :: rest, _, H =>
        unfold pItem at H
        simp only [if_neg (show ¬ ztK f n p = 41 by omega)] at H
        unfold pCmd at H
        rw [if_pos hv] at H
        exact H
    exact s_wrong hS (c := 1) (by decide) (by decide) (fun _ => rfl) (fun τ fr e => H2 τ (hF.tr (fr.sub (by intro b hb; exact absurd hb (by simp)) (by decide))) e)
  · have z0 : ztK f n p ≠ 0 := fun h => h0 (by rw [mK_0.mpr h]; rfl)
    rw [if_neg (fun h => z0 h.1)] at H
    have H2 : pCmd f n p P st k L (SkE g l K X σ0) (fun p' P' st' k' L' => pScr f n (SkE g l K X σ0) (SkO g l K X σ0 f n) u p' P' st' k' L') := by
      match st, hst, H with
      | [], _, H => exact H
      | (t, Q, kq, Lq) :: rest, hst, H =>
        have h41 : ztK f n p ≠ 41 := hst.resolve_left (by show ¬ rest.length + 1 = 0; omega)
        unfold pItem at H
        simp only [if_neg h41] at H
        exact H
    refine s_cmd (KC := fun τ => CT g l M_X7_closes 0 [.ref (zad g 24)] τ (zQv (fun τ44 => L_X7_runScript_19 g l K X τ44) (fun E τ => X E τ))) hS hM (fun τ h hc => ⟨fun _ => hc, fun q => absurd (q.trans a32.symm) h⟩) (fun τ h hc => ⟨fun q => absurd (h.trans a32) q, fun _ => hc⟩) (pCmd_m hk hs2 hL H2 (fun c q h τ fr e => s_closesE e (s_19E e (h τ (hF.tr fr) e))) (fun p' P' st' k' L' hp' _ _ _ h τ fr S M => b_X7_closes (ih p' P' st' k' L' τ (by omega) (hF.tr fr) S M h)))
theorem s_scrA {σ0 : zS} (u : Nat) (hu : u ≤ 600) (p : Nat) (P : Den) (st : List Fr) (k L : Nat) (σ : zS) (hp : 2 * (600 - u) ≤ p) (hF : FN L6S F9S σ0 σ) (hS : SrM σ f n p) (hM : MS g l σ P st k L) (H : pScr f n (SkE g l K X σ0) (SkO g l K X σ0 f n) u p P st k L) : L_X7_closes_0 g l (fun τ => L_X7_runScript_19 g l K X τ) X σ := by
  have hn := hS.1.1
  have hpn := hS.2.1
  obtain ⟨a31, a30, a32, hk, hs2, hL, hP, hSt⟩ := id hM
  obtain ⟨u', rfl⟩ : ∃ u', u = u' + 1 := ⟨u - 1, by omega⟩
  have ih : ∀ (p : Nat) (P : Den) (st : List Fr) (k L : Nat) (σ : zS), 2 * (600 - u') ≤ p → FN L6S F9S σ0 σ → SrM σ f n p → MS g l σ P st k L → pScr f n (SkE g l K X σ0) (SkO g l K X σ0 f n) u' p P st k L → L_X7_closes_0 g l (fun τ => L_X7_runScript_19 g l K X τ) X σ := fun p P st k L σ a b c d e => s_scrA u' (by omega) p P st k L σ a b c d e
  refine b_X7_closes_0 ?_
  rw [a32, show (0 : Int32) = iI 0 from rfl, iI_le (by omega) (by omega) (by omega) (by omega)]
  refine ⟨fun hd => s_head u' ih hp hF hS hM (Or.inl (by omega)) H, fun hd => s_isSign hS (s := 41) (by unfold isG; omega) (fun h41 => ⟨fun _ => s_head u' ih hp hF hS hM (Or.inr h41) H, fun q => absurd rfl q⟩) (fun h41 => ⟨fun q => absurd q (by decide), fun _ => ?_⟩)⟩
  unfold pScr at H
  rw [if_neg (fun h => by omega)] at H
  match st, hd, hM, H with
  | [], hd, _, _ => exact absurd (Int.le_refl _) hd
  | (t, Q, kq, Lq) :: rest, _, hM, H =>
    obtain ⟨a31, a30, a32, hk, hs2, hL, hP, hSt⟩ := hM
    obtain ⟨s1, s2, s3, s4, s5, s6, s7⟩ := hSt
    have hs3 : rest.length + 1 ≤ 2 := hs2
    have hL3 : L + (rest.length + 1) ≤ 2 * k := hL
    have a33 : σ.1 24 32 = iI (rest.length + 1 : Nat) := a32
    have hP3 : mP g l σ P (Lq + 1) L (rest.length + 1) := hP
    unfold pItem at H
    simp only [if_pos h41] at H
    rw [a33, show (1 : Int32) = iI 1 from rfl, iI_sub, show (8 : Int32) = iI 8 from rfl]
    intro σ4 e4
    have l30 : σ4.1 24 30 = iI L := by rw [e4, zpt_at, pk_un (by decide), a30]
    rw [l30, iI_tn (by omega) (by omega), Int.toNat_natCast]
    refine ⟨in60 (show L < 60 by omega) (Nat.le_refl 60), ?_⟩
    intro σ5 e5
    have m30 : σ5.1 24 30 = iI L := by rw [e5, zpt_ne (by decide), l30]
    rw [m30, iI_add]
    intro σ6 e6
    have S6 : SrM σ6 f n p := by rw [e6, e5, e4]; exact ((hS.fl (by omega)).pt (by decide) (by decide)).fl (by omega)
    have F6' : FN L6S F9S σ0 σ6 := by rw [e6, e5, e4]; exact ((hF.fl (by decide) _).pt (by decide) (by decide) _).fl (by decide) _
    have o32 : σ6.1 32 = upd (σ.1 32) L (iI 8) := by rw [e6, zpt_ne (by decide), e5, zpt_at, e4, zpt_ne (by decide)]
    have oo : ∀ b, b ≠ 24 → b ≠ 32 → σ6.1 b = σ.1 b := fun b x y => by rw [e6, zpt_ne x, e5, zpt_ne y, e4, zpt_ne x]
    have ag : agM σ6 σ 0 L := fun i _ hi o o1 o2 => by
      by_cases q : o = 32
      · subst q; rw [o32, pk_un (by omega)]
      · rw [oo o (by omega) q]
    have z31 : σ6.1 24 31 = iI k := by rw [e6, zpt_at, pk_un (by decide), e5, zpt_ne (by decide), e4, zpt_at, pk_un (by decide), a31]
    have z30 : σ6.1 24 30 = iI (L + 1 : Nat) := by rw [e6, zpt_at, pk_us]; rfl
    have z32 : σ6.1 24 32 = iI rest.length := by rw [e6, zpt_at, pk_un (by decide), e5, zpt_ne (by decide), e4, zpt_at, pk_us]; congr 1; omega
    have M6 : MS g l σ6 (seqD Q (repD P t)) rest k (L + 1) := by
      refine ⟨z31, z30, z32, hk, by omega, by omega, ?_, mSt_mono (mSt_fr s7 (ag.sub (Nat.le_refl _) (by omega))) (by omega)⟩
      refine mP_seq (s6.fr (ag.sub (Nat.zero_le _) (by omega))) (mP_rp s2 s3 (by omega) (hP3.fr (ag.sub (Nat.zero_le _) (Nat.le_refl _))) ?_ ?_ ?_)
      · rw [o32, pk_un (by omega)]; exact s4
      · rw [oo 33 (by decide) (by decide)]; exact s5
      · rw [o32, pk_us]
    refine s_goOn S6 (fun τ7 f7 S7 => ?_)
    have F7' : FN L6S F9S σ0 τ7 := F6'.tr (f7.sub (by intro b hb; exact absurd hb (by simp)) (by decide))
    have M7 : MS g l τ7 (seqD Q (repD P t)) rest k (L + 1) := MS_fr M6 (f7.sub (by intro b hb; exact absurd hb (by simp)) (by decide))
    have gt1 : p < ztE f n p := ztE_gt (by omega)
    refine s_mustSign S7 (s := 59) (by unfold isG; omega) (pSign_m H (fun c q h τ fr e => ?_) (fun k59 h τ fr S8 => ?_))
    · have l19 := s_19E e (h τ (F7'.tr (fn6_S fr)) e)
      exact b_X7_closes_0 ⟨fun _ => l19, fun _ => s_isSignE e ⟨fun _ => l19, fun k => absurd rfl k⟩⟩
    · have gt2 : ztE f n p < ztE f n (ztE f n p) := ztE_gt (by omega)
      exact ih _ _ _ _ _ τ (by omega) (F7'.tr (fn6_S fr)) S8 (MS_fr M7 fr) h
termination_by u
end ZMRn
