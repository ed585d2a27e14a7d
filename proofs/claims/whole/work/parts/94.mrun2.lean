/-! the reference: runScript as a whole -/
section ZMRs
variable {g : zG} {l : Launch} {K : Int32 → zS → Prop} {X : String → zS → Prop} {σ : zS} {f : Nat → Nat} {n : Nat} {m : Nat → Int32}
abbrev LR : List Nat := [26, 28, 30, 32, 33, 34, 35, 36, 37, 38, 39]
abbrev FR : List Nat := [0, 2, 3, 4, 5, 6, 7, 8, 9, 10, 11, 18, 30, 31, 32]
theorem fnS_R {τ : zS} (h : FN L6S F9S σ τ) : FN LR FR σ τ := h.sub (by decide) (by decide)
theorem s_runScript {u : Nat} {h : Nat → Nat → Int32} (hT : TxM σ n f) (hm : σ.1 26 = m) (hw : WF m) (hc : Ct m) (hH : HsM σ u h)
    (H0 : ∀ c q : Nat, rScr f n = .inl (c, q) → ∀ τ, FN LR FR σ τ → τ.1 26 = m → τ.1 30 = σ.1 30 → τ.1 24 18 = σ.1 24 18 → τ.1 24 2 = iI 0 → τ.1 24 0 = iI 1 → τ.1 24 10 = iI c → τ.1 24 11 = iI q → K (iI 0) τ)
    (H1 : ∀ P k L, rScr f n = .inr (P, k, L) → ∀ τ, FN LR FR σ τ → τ.1 26 = (P m 0).1 → WF (P m 0).1 → Ct (P m 0).1 → HsM τ (min 6 (u + 1)) (hpush m h) → τ.1 24 2 = iI 0 → τ.1 24 0 = iI 0 → τ.1 24 10 = iI 0 → τ.1 24 11 = iI (-1) → (P m 0).2.1 ≤ 40 → K (iI (P m 0).2.1) τ) : CT g l M_X7_runScript 0 [.ref (zad g 24)] σ (zQi K X) := by
  have hn := hT.1
  refine b_X7_runScript (s_begins hT (fun τ1 f1 S1 h2 => ?_))
  intro σ2 e2 σ3 e3 σ4 e4
  have F4 : FN LR FR σ σ4 := by
    rw [e4, e3, e2]
    exact (((f1.sub (by intro b hb; exact absurd hb (by simp)) (by decide)).fl (by decide) _).fl (by decide) _).fl (by decide) _
  have S4 : SrM σ4 f n 0 := by rw [e4, e3, e2]; exact ((S1.fl (by omega)).fl (by omega)).fl (by omega)
  have o4 : ∀ b, b ≠ 24 → σ4.1 b = σ.1 b := fun b hb => by rw [e4, zpt_ne hb, e3, zpt_ne hb, e2, zpt_ne hb, f1.1 b (by simp) hb]
  have a2 : σ4.1 24 2 = iI 0 := by rw [e4, zpt_at, pk_un (by decide), e3, zpt_at, pk_un (by decide), e2, zpt_at, pk_un (by decide), h2]
  have a18 : σ4.1 24 18 = σ.1 24 18 := by rw [e4, zpt_at, pk_un (by decide), e3, zpt_at, pk_un (by decide), e2, zpt_at, pk_un (by decide), f1.2.1 18 (by decide)]
  have M4 : MS g l σ4 nilD [] 0 0 := by
    refine ⟨?_, ?_, ?_, by decide, by decide, by decide, mP_nil _ _, True.intro⟩
    · rw [e4, zpt_at, pk_un (by decide), e3, zpt_at, pk_us]; rfl
    · rw [e4, zpt_at, pk_un (by decide), e3, zpt_at, pk_un (by decide), e2, zpt_at, pk_us]; rfl
    · rw [e4, zpt_at, pk_us]; rfl
  refine s_head (σ0 := σ4) 599 (fun p P st k L τ a b c d e => s_scrA 599 (by decide) p P st k L τ a b c d e) (by decide) (FN.rf _ _ _) S4 M4 (Or.inl rfl) (rScr_of (fun c q e => ?_) (fun P k L e => ?_))
  · intro τ fr er
    refine s_endsE er (fun τ2 f2 b0 b10 b11 => ⟨fun q => absurd rfl q, fun _ => H0 c q e τ2 ?_ ?_ ?_ ?_ ?_ b0 b10 b11⟩)
    · exact (F4.tr (fnS_R fr)).tr (f2.sub (by intro b hb; exact absurd hb (by simp)) (by decide))
    · rw [f2.1 26 (by simp) (by decide), fr.1 26 (by decide) (by decide), o4 26 (by decide), hm]
    · rw [f2.1 30 (by simp) (by decide), fr.1 30 (by decide) (by decide), o4 30 (by decide)]
    · rw [f2.2.1 18 (by decide), fr.2.1 18 (by decide), a18]
    · rw [f2.2.1 2 (by decide), fr.2.1 2 (by decide), a2]
  · intro τ fr hB hM
    refine s_ends hB (fun τ2 f2 b0 b10 b11 => ⟨fun _ => s_laysAside (fun F hF => ?_), fun q => absurd q (by decide)⟩)
    obtain ⟨a31, a30, a32, hk, hst, hL, hP, hSt⟩ := hM
    have hL2 : L + 0 ≤ 2 * k := hL
    have t26 : τ2.1 26 = m := by rw [f2.1 26 (by simp) (by decide), fr.1 26 (by decide) (by decide), o4 26 (by decide), hm]
    have F7 : FN LR FR σ (zpt τ2 28 F) := ((F4.tr (fnS_R fr)).tr (f2.sub (by intro b hb; exact absurd hb (by simp)) (by decide))).pt (by decide) (by decide) _
    have done : ∀ υ, exM (zpt τ2 28 F) υ m 0 0 P → CT g l M_X7_keeps 0 [.ref (zad g 24)] υ (zQv (fun τ9 => K (iI (P m 0).2.1) τ9) (fun E τ => X E τ)) := fun υ ex => by
      obtain ⟨x1, x2, x3, x4, x5, x6⟩ := ex
      have o30 : υ.1 30 = σ.1 30 := by rw [x1.1 30 (by decide) (by decide), zpt_ne (by decide), f2.1 30 (by simp) (by decide), fr.1 30 (by decide) (by decide), o4 30 (by decide)]
      have o18 : υ.1 24 18 = σ.1 24 18 := by rw [x1.2.1 18 (by simp), zpt_ne (by decide), f2.2.1 18 (by decide), fr.2.1 18 (by decide), a18]
      refine s_keeps (a := m) (hH.fr o18 o30) (fun j hj => ?_) (fun τ9 f9 hH9 => H1 P k L e τ9 ?_ ?_ x4 x5 hH9 ?_ ?_ ?_ ?_ x6)
      · rw [x1.1 28 (by decide) (by decide), zpt_at, hF j hj, t26]
      · exact (F7.tr (x1.N.sub (by decide) (by intro b hb; exact absurd hb (by simp)))).tr (f9.N.sub (by decide) (by decide))
      · rw [f9.1 26 (by decide) (by decide), x3]
      · rw [f9.2.1 2 (by decide), x1.2.1 2 (by simp), zpt_ne (by decide), f2.2.1 2 (by decide), fr.2.1 2 (by decide), a2]
      · rw [f9.2.1 0 (by decide), x1.2.1 0 (by simp), zpt_ne (by decide), b0]
      · rw [f9.2.1 10 (by decide), x1.2.1 10 (by simp), zpt_ne (by decide), b10]
      · rw [f9.2.1 11 (by decide), x1.2.1 11 (by simp), zpt_ne (by decide), b11]
    refine b_X7_doesAll ?_
    refine hP.2 _ X (zpt τ2 28 F) m 0 L (fun i _ _ o o1 o2 => by rw [zpt_ne (by omega), f2.1 o (by simp) (by omega)]) ?_ (Nat.le_refl _) (by omega) ?_ hw hc (by decide) (fun υ ex ht hd => ?_) (fun υ ex _ => done υ ex)
    · rw [zpt_ne (by decide), f2.2.1 30 (by decide), a30]
    · rw [zpt_ne (by decide), t26]
    · refine b_X7_doesAll_9 ⟨fun q => absurd q (by decide), fun _ => ⟨fun _ => done υ ex, fun q => absurd ?_ q⟩⟩
      have : υ.1 24 30 = iI L := by rw [ex.1.2.1 30 (by simp), zpt_ne (by decide), f2.2.1 30 (by decide), a30]
      rw [this]
      exact (iI_le (by omega) (by omega) (by omega) (by omega)).mpr (Int.le_refl _)
end ZMRs
