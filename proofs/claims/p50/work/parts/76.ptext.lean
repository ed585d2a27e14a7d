/-! what is read of a text: pure -/
def mSlat (m : Nat → Int32) (w : Nat) (t : Int) : Nat → Int32 := upd (upd (upd (upd (upd m (4 + 5 * nS m) (iI w)) (5 + 5 * nS m) (iI t)) (7 + 5 * nS m) (iI 1)) (8 + 5 * nS m) (iI 1)) 1 (iI (nS m + 1 : Nat))
section ZPt
variable {α β : Type} (f : Nat → Nat) (n : Nat)
def pHigh (p : Nat) (m : Nat → Int32) (hi co : Nat) (kE : Nat → Nat → α) (kO : Nat → (Nat → Int32) → Nat → Nat → α) : α :=
  if hi = 1 then kE 3 (ztS f n p) else pNum f n (ztE f n p) 1 8 kE (fun v p2 => pSign f n p2 59 kE (fun p3 => kO p3 (upd m 0 (iI v)) 1 co))
def pCoat (p : Nat) (m : Nat → Int32) (hi co : Nat) (kE : Nat → Nat → α) (kO : Nat → (Nat → Int32) → Nat → Nat → α) : α :=
  if co = 1 then kE 3 (ztS f n p) else pNum f n (ztE f n p) 1 99 kE (fun v p2 => pSign f n p2 59 kE (fun p3 => kO p3 (upd m 2 (iI v)) hi 1))
def pSlat (p : Nat) (m : Nat → Int32) (hi co : Nat) (kE : Nat → Nat → α) (kO : Nat → (Nat → Int32) → Nat → Nat → α) : α :=
  if nS m = 10 then kE 5 (ztS f n p) else pNum f n (ztE f n p) 1 6 kE (fun w p2 =>
    if ztK f n p2 = 59 then kO (ztE f n p2) (mSlat m w 0) hi co
    else pSide f n p2 kE (fun s p3 => pNum f n p3 0 4 kE (fun v p4 => pSign f n p4 59 kE (fun p5 => kO p5 (mSlat m w (if s = 1 then (v : Int) else -v)) hi co))))
def pBox (p : Nat) (m : Nat → Int32) (hi co : Nat) (kE : Nat → Nat → α) (kO : Nat → (Nat → Int32) → Nat → Nat → α) : α :=
  if nB m = 16 then kE 5 (ztS f n p) else pSide f n (ztE f n p) kE (fun s p1 => pNum f n p1 0 63 kE (fun c p2 => pNum f n p2 0 63 kE (fun r p3 => pNum f n p3 1 64 kE (fun w p4 => pNum f n p4 1 64 kE (fun d p5 => pNum f n p5 1 9 kE (fun v p6 => pSign f n p6 59 kE (fun p7 => kO p7 (mBox m s c r w d v) hi co)))))))
def pStat (p : Nat) (m : Nat → Int32) (hi co : Nat) (kE : Nat → Nat → α) (kO : Nat → (Nat → Int32) → Nat → Nat → α) : α :=
  if isWq f n p 0 then pHigh f n p m hi co kE kO else if isWq f n p 1 then pSlat f n p m hi co kE kO else if isWq f n p 2 then pBox f n p m hi co kE kO
  else if isWq f n p 3 then pCoat f n p m hi co kE kO else kE 1 (ztS f n p)
/-- statements up to the end -/
def pAll (kE : Nat → Nat → α) (kO : (Nat → Int32) → α) : Nat → Nat → (Nat → Int32) → Nat → Nat → α
  | 0, _, m, _, _ => kO m
  | k + 1, p, m, hi, co => if ztK f n p = 0 then kO m else pStat f n p m hi co kE (fun p' m' hi' co' => pAll kE kO k p' m' hi' co')
end ZPt
section ZPu2
variable {f : Nat → Nat} {n : Nat} {m : Nat → Int32}
theorem qv_o2 {q k : Nat} {v : Int32} (h : q ≠ k) : qv (upd m k v) q = qv m q := by unfold qv; rw [pk_un h]
theorem qv_s2 {k : Nat} {v : Int} (h1 : -2147483648 ≤ v) (h2 : v < 2147483648) : qv (upd m k (iI v)) k = v := by unfold qv; rw [pk_us, iI_ti h1 h2]
theorem nS_up {k : Nat} {v : Int32} (h : 1 ≠ k) : nS (upd m k v) = nS m := by unfold nS; rw [qv_o2 h]
theorem nB_up {k : Nat} {v : Int32} (h : 3 ≠ k) : nB (upd m k v) = nB m := by unfold nB; rw [qv_o2 h]
theorem wf_high (hw : WF m) {v : Nat} (h1 : 1 ≤ v) (h2 : v ≤ 8) : WF (upd m 0 (iI v)) := by
  obtain ⟨h0, a1, a2, a3, a4, a5, a6⟩ := hw
  refine ⟨?_, ?_, ?_, ?_, ?_, ?_, ?_⟩
  · rw [qv_s2 (by omega) (by omega)]; omega
  · rw [qv_o2 (by decide)]; exact a1
  · rw [qv_o2 (by decide)]; exact a2
  · rw [qv_o2 (by decide)]; exact a3
  · rw [nS_up (by decide)]; intro k hk; rw [qv_o2 (by omega), qv_o2 (by omega), qv_o2 (by omega), qv_o2 (by omega), qv_o2 (by omega)]; exact a4 k hk
  · rw [nB_up (by decide)]; intro k hk; rw [qv_o2 (by omega), qv_o2 (by omega), qv_o2 (by omega), qv_o2 (by omega), qv_o2 (by omega), qv_o2 (by omega)]; exact a5 k hk
  · intro q q1 q2; rw [qv_o2 (by omega)]; exact a6 q q1 q2
theorem wf_coat (hw : WF m) {v : Nat} (h1 : 1 ≤ v) (h2 : v ≤ 99) : WF (upd m 2 (iI v)) := by
  obtain ⟨h0, a1, a2, a3, a4, a5, a6⟩ := hw
  refine ⟨?_, ?_, ?_, ?_, ?_, ?_, ?_⟩
  · rw [qv_o2 (by decide)]; exact h0
  · rw [qv_o2 (by decide)]; exact a1
  · rw [qv_s2 (by omega) (by omega)]; omega
  · rw [qv_o2 (by decide)]; exact a3
  · rw [nS_up (by decide)]; intro k hk; rw [qv_o2 (by omega), qv_o2 (by omega), qv_o2 (by omega), qv_o2 (by omega), qv_o2 (by omega)]; exact a4 k hk
  · rw [nB_up (by decide)]; intro k hk; rw [qv_o2 (by omega), qv_o2 (by omega), qv_o2 (by omega), qv_o2 (by omega), qv_o2 (by omega), qv_o2 (by omega)]; exact a5 k hk
  · intro q q1 q2; rw [qv_o2 (by omega)]; exact a6 q q1 q2
theorem mSlat_q {w : Nat} {t : Int} {q : Nat} (h1 : q ≠ 1) (h : q < 4 + 5 * nS m ∨ 4 + 5 * nS m + 5 ≤ q ∨ q = 6 + 5 * nS m) : mSlat m w t q = m q := by
  unfold mSlat
  rw [pk_un h1, pk_un (by omega), pk_un (by omega), pk_un (by omega), pk_un (by omega)]
theorem mSlat_1 {w : Nat} {t : Int} : mSlat m w t 1 = iI (nS m + 1 : Nat) := by unfold mSlat; rw [pk_us]
theorem mSlat_w {w : Nat} {t : Int} : mSlat m w t (4 + 5 * nS m) = iI w := by unfold mSlat; rw [pk_un (by omega), pk_un (by omega), pk_un (by omega), pk_un (by omega), pk_us]
theorem mSlat_t {w : Nat} {t : Int} : mSlat m w t (5 + 5 * nS m) = iI t := by unfold mSlat; rw [pk_un (by omega), pk_un (by omega), pk_un (by omega), pk_us]
theorem mSlat_c {w : Nat} {t : Int} {s : Nat} (hs : s < 2) : mSlat m w t (7 + 5 * nS m + s) = iI 1 := by
  unfold mSlat
  rcases (by omega : s = 0 ∨ s = 1) with e | e
  · subst e; rw [pk_un (by omega), pk_un (by omega), show 7 + 5 * nS m + 0 = 7 + 5 * nS m from rfl, pk_us]
  · subst e; rw [pk_un (by omega), show 7 + 5 * nS m + 1 = 8 + 5 * nS m by omega, pk_us]
theorem mSlat_nS {w : Nat} {t : Int} (hn : nS m ≤ 9) : nS (mSlat m w t) = nS m + 1 := by
  unfold nS qv; rw [mSlat_1, iI_ti (by omega) (by omega)]; rfl
theorem mSlat_qv {w : Nat} {t : Int} {q : Nat} (h1 : q ≠ 1) (h : q < 4 + 5 * nS m ∨ 4 + 5 * nS m + 5 ≤ q ∨ q = 6 + 5 * nS m) : qv (mSlat m w t) q = qv m q := by unfold qv; rw [mSlat_q h1 h]
/-- what the row holds while a text is read: what no slat has used is 0 -/
def Rd (m : Nat → Int32) : Prop := WF m ∧ (∀ k, 1110 ≤ k → m k = 0) ∧ (∀ k, k < 10 → m (6 + 5 * k) = 0) ∧ (∀ q, 150 ≤ q → q < 1110 → m q = 0)
theorem rd_slat (h : Rd m) (hn : nS m ≤ 9) {w : Nat} {t : Int} (hw1 : 1 ≤ w) (hw2 : w ≤ 6) (ht1 : -4 ≤ t) (ht2 : t ≤ 4) : Rd (mSlat m w t) := by
  obtain ⟨hw, hc, hd, hf⟩ := h
  have hwb := wf_b hw
  refine ⟨?_, fun k hk => by rw [mSlat_q (by omega) (by omega)]; exact hc k hk, fun k hk => by rw [mSlat_q (by omega) (by omega)]; exact hd k hk, fun q h1 h2 => by rw [mSlat_q (by omega) (by omega)]; exact hf q h1 h2⟩
  obtain ⟨h0, a1, a2, a3, a4, a5, a6⟩ := hw
  refine ⟨?_, ?_, ?_, ?_, ?_, ?_, ?_⟩
  · rw [mSlat_qv (by decide) (by omega)]; exact h0
  · unfold qv; rw [mSlat_1, iI_ti (by omega) (by omega)]; omega
  · rw [mSlat_qv (by decide) (by omega)]; exact a2
  · rw [mSlat_qv (by decide) (by omega)]; exact a3
  · rw [mSlat_nS hn]
    intro k hk
    by_cases e : k = nS m
    · subst e
      unfold qv
      rw [mSlat_w, mSlat_t, mSlat_q (q := 6 + 5 * nS m) (by omega) (by omega), show 7 + 5 * nS m = 7 + 5 * nS m + 0 from rfl, mSlat_c (by decide), show 8 + 5 * nS m = 7 + 5 * nS m + 1 by omega, mSlat_c (by decide), hd _ (by omega), iI_ti (by omega) (by omega), iI_ti (by omega) (by omega), iI_ti (by omega) (by omega), show Int32.toInt 0 = 0 from rfl]
      omega
    · rw [mSlat_qv (by omega) (by omega), mSlat_qv (by omega) (by omega), mSlat_qv (by omega) (by omega), mSlat_qv (by omega) (by omega), mSlat_qv (by omega) (by omega)]
      exact a4 k (by omega)
  · rw [show nB (mSlat m w t) = nB m by unfold nB; rw [mSlat_qv (by decide) (by omega)]]
    intro k hk
    rw [mSlat_qv (by omega) (by omega), mSlat_qv (by omega) (by omega), mSlat_qv (by omega) (by omega), mSlat_qv (by omega) (by omega), mSlat_qv (by omega) (by omega), mSlat_qv (by omega) (by omega)]
    exact a5 k hk
  · intro q q1 q2; rw [mSlat_qv (by omega) (by omega)]; exact a6 q q1 q2
theorem rd_high (h : Rd m) {v : Nat} (h1 : 1 ≤ v) (h2 : v ≤ 8) : Rd (upd m 0 (iI v)) :=
  ⟨wf_high h.1 h1 h2, fun k hk => by rw [pk_un (by omega)]; exact h.2.1 k hk, fun k hk => by rw [pk_un (by omega)]; exact h.2.2.1 k hk, fun k hk hk' => by rw [pk_un (by omega)]; exact h.2.2.2 k hk hk'⟩
theorem rd_coat (h : Rd m) {v : Nat} (h1 : 1 ≤ v) (h2 : v ≤ 99) : Rd (upd m 2 (iI v)) :=
  ⟨wf_coat h.1 h1 h2, fun k hk => by rw [pk_un (by omega)]; exact h.2.1 k hk, fun k hk => by rw [pk_un (by omega)]; exact h.2.2.1 k hk, fun k hk hk' => by rw [pk_un (by omega)]; exact h.2.2.2 k hk hk'⟩
theorem rd_box (h : Rd m) (hn : nB m ≤ 15) {s c r w d v : Nat} (hs : s < 2) (hc : c ≤ 63) (hr : r ≤ 63) (hww : 1 ≤ w ∧ w ≤ 64) (hd : 1 ≤ d ∧ d ≤ 64) (hv : v ≤ 9) : Rd (mBox m s c r w d v) := by
  have hwb := wf_b h.1
  exact ⟨mBox_wf h.1 hn hs hc hr hww hd hv, fun k hk => by rw [mBox_q (by omega) (by omega)]; exact h.2.1 k hk, fun k hk => by rw [mBox_q (by omega) (by omega)]; exact h.2.2.1 k hk, fun k hk hk' => by rw [mBox_q (by omega) (by omega)]; exact h.2.2.2 k hk hk'⟩
section ZMo
variable {p hi co : Nat} {kE kE' : Nat → Nat → Prop} {kO kO' : Nat → (Nat → Int32) → Nat → Nat → Prop}
theorem pStat_m (hR : Rd m) (hhi : hi < 2) (hco : co < 2) (h : pStat f n p m hi co kE kO) (hE : ∀ c q, kE c q → kE' c q) (hO : ∀ p' m' hi' co', p < p' → Rd m' → hi' < 2 → co' < 2 → kO p' m' hi' co' → kO' p' m' hi' co') : pStat f n p m hi co kE' kO' := by
  have hwb := wf_b hR.1
  have g := fun {q : Nat} (h : ztK f n q ≠ 0) => ztE_gt h
  unfold pStat at h ⊢
  by_cases h0 : isWq f n p 0
  · rw [if_pos h0] at h ⊢
    unfold pHigh at h ⊢
    by_cases e : hi = 1
    · rw [if_pos e] at h ⊢; exact hE _ _ h
    · rw [if_neg e] at h ⊢
      exact pNum_m h hE (fun v k3 a b _ h => pSign_m h hE (fun k4 h => hO _ _ _ _ (by have := g (q := p) (by omega); have := g (q := ztE f n p) (by omega); have := g (q := ztE f n (ztE f n p)) (by omega); omega) (rd_high hR a b) (by decide) hco h))
  · rw [if_neg h0] at h ⊢
    by_cases h1 : isWq f n p 1
    · rw [if_pos h1] at h ⊢
      unfold pSlat at h ⊢
      by_cases e : nS m = 10
      · rw [if_pos e] at h ⊢; exact hE _ _ h
      · rw [if_neg e] at h ⊢
        refine pNum_m h hE (fun w k3 a b _ h => ?_)
        have g1 := g (q := p) (by omega)
        have g2 := g (q := ztE f n p) (by omega)
        by_cases e2 : ztK f n (ztE f n (ztE f n p)) = 59
        · rw [if_pos e2] at h ⊢
          have g3 := g (q := ztE f n (ztE f n p)) (by omega)
          exact hO _ _ _ _ (by omega) (rd_slat hR (by omega) a b (by decide) (by decide)) hhi hco h
        · rw [if_neg e2] at h ⊢
          refine pSide_m h hE (fun s hs k2 h => pNum_m h hE (fun v k3' a' b' _ h => pSign_m h hE (fun k4 h => hO _ _ _ _ ?_ (rd_slat hR (by omega) a b ?_ ?_) hhi hco h)))
          · have g3 := g (q := ztE f n (ztE f n p)) (by omega)
            have g4 := g (q := ztE f n (ztE f n (ztE f n p))) (by omega)
            have g5 := g (q := ztE f n (ztE f n (ztE f n (ztE f n p)))) (by omega)
            omega
          · split <;> omega
          · split <;> omega
    · rw [if_neg h1] at h ⊢
      by_cases h2 : isWq f n p 2
      · rw [if_pos h2] at h ⊢
        unfold pBox at h ⊢
        by_cases e : nB m = 16
        · rw [if_pos e] at h ⊢; exact hE _ _ h
        · rw [if_neg e] at h ⊢
          refine pSide_m h hE (fun s hs k0 h => pNum_m h hE (fun c k1 _ c2 _ h => pNum_m h hE (fun r k2 _ r2 _ h => pNum_m h hE (fun w k3 w1 w2 _ h => pNum_m h hE (fun d k4 d1 d2 _ h => pNum_m h hE (fun v k5 v1 v2 _ h => pSign_m h hE (fun k6 h => ?_)))))))
          refine hO _ _ _ _ ?_ (rd_box hR (by omega) hs (by omega) (by omega) ⟨w1, w2⟩ ⟨d1, d2⟩ (by omega)) hhi hco h
          have g0 := g (q := p) (by omega)
          have := g (q := ztE f n p) (by omega)
          have := g (q := ztE f n (ztE f n p)) (by omega)
          have := g (q := ztE f n (ztE f n (ztE f n p))) (by omega)
          have := g (q := ztE f n (ztE f n (ztE f n (ztE f n p)))) (by omega)
          have := g (q := ztE f n (ztE f n (ztE f n (ztE f n (ztE f n p))))) (by omega)
          have := g (q := ztE f n (ztE f n (ztE f n (ztE f n (ztE f n (ztE f n p)))))) (by omega)
          have := g (q := ztE f n (ztE f n (ztE f n (ztE f n (ztE f n (ztE f n (ztE f n p))))))) (by omega)
          omega
      · rw [if_neg h2] at h ⊢
        by_cases h3 : isWq f n p 3
        · rw [if_pos h3] at h ⊢
          unfold pCoat at h ⊢
          by_cases e : co = 1
          · rw [if_pos e] at h ⊢; exact hE _ _ h
          · rw [if_neg e] at h ⊢
            exact pNum_m h hE (fun v k3 a b _ h => pSign_m h hE (fun k4 h => hO _ _ _ _ (by have := g (q := p) (by omega); have := g (q := ztE f n p) (by omega); have := g (q := ztE f n (ztE f n p)) (by omega); omega) (rd_coat hR a b) hhi (by decide) h))
        · rw [if_neg h3] at h ⊢; exact hE _ _ h
end ZMo
section ZNa
variable {α β : Type} {p hi co : Nat}
theorem pStat_n (φ : α → β) (kE : Nat → Nat → α) (kO : Nat → (Nat → Int32) → Nat → Nat → α) : φ (pStat f n p m hi co kE kO) = pStat f n p m hi co (fun c q => φ (kE c q)) (fun p m a b => φ (kO p m a b)) := by
  unfold pStat
  split
  · unfold pHigh; split
    · rfl
    · rw [pNum_n φ]; congr 1; funext v q; rw [pSign_n φ]
  · split
    · unfold pSlat; split
      · rfl
      · rw [pNum_n φ]; congr 1; funext v q; split
        · rfl
        · rw [pSide_n φ]; congr 1; funext v q; rw [pNum_n φ]; congr 1; funext v q; rw [pSign_n φ]
    · split
      · unfold pBox; split
        · rfl
        · rw [pSide_n φ]; congr 1; funext v q; rw [pNum_n φ]; congr 1; funext v q; rw [pNum_n φ]; congr 1; funext v q; rw [pNum_n φ]; congr 1; funext v q; rw [pNum_n φ]; congr 1; funext v q; rw [pNum_n φ]; congr 1; funext v q; rw [pSign_n φ]
      · split
        · unfold pCoat; split
          · rfl
          · rw [pNum_n φ]; congr 1; funext v q; rw [pSign_n φ]
        · rfl
theorem pAll_n (φ : α → β) (kE : Nat → Nat → α) (kO : (Nat → Int32) → α) : ∀ (k p : Nat) (m : Nat → Int32) (hi co : Nat), φ (pAll f n kE kO k p m hi co) = pAll f n (fun c q => φ (kE c q)) (fun m => φ (kO m)) k p m hi co
  | 0, _, _, _, _ => rfl
  | k + 1, p, m, hi, co => by
    unfold pAll
    split
    · rfl
    · rw [pStat_n φ]; congr 1; funext p' m' hi' co'; exact pAll_n φ kE kO k p' m' hi' co'
end ZNa
/-- the row before anything is read -/
def mNew : Nat → Int32 := upd (upd (fun _ => 0) 0 (iI 4)) 2 (iI 9)
/-- what comes of a text: an error and where, or a row -/
def rText (f : Nat → Nat) (n : Nat) : (Nat × Nat) ⊕ (Nat → Int32) := pAll f n (fun c q => .inl (c, q)) (fun m => .inr m) 600 0 mNew 0 0
theorem rText_of {kE : Nat → Nat → Prop} {kO : (Nat → Int32) → Prop} (h1 : ∀ c q, rText f n = .inl (c, q) → kE c q) (h2 : ∀ m, rText f n = .inr m → kO m) : pAll f n kE kO 600 0 mNew 0 0 := by
  have e := pAll_n (f := f) (n := n) (fun x : (Nat × Nat) ⊕ (Nat → Int32) => match x with | .inl a => kE a.1 a.2 | .inr m => kO m) (fun c q => .inl (c, q)) (fun m => .inr m) 600 0 mNew 0 0
  show pAll f n (fun c q => kE c q) (fun m => kO m) 600 0 mNew 0 0
  refine cast e ?_
  show (match rText f n with | .inl a => kE a.1 a.2 | .inr m => kO m)
  match h : rText f n with
  | .inl a => exact h1 a.1 a.2 h
  | .inr m => exact h2 m h
theorem rd_new : Rd mNew := by
  have e : ∀ q, q ≠ 0 → q ≠ 2 → mNew q = 0 := fun q a b => by unfold mNew; rw [pk_un b, pk_un a]
  have e0 : qv mNew 0 = 4 := rfl
  have e2 : qv mNew 2 = 9 := rfl
  have e1 : qv mNew 1 = 0 := rfl
  have e3 : qv mNew 3 = 0 := rfl
  refine ⟨⟨by omega, by omega, by omega, by omega, fun k hk => absurd hk (by show ¬ k < (qv mNew 1).toNat; omega), fun k hk => absurd hk (by show ¬ k < (qv mNew 3).toNat; omega), fun q h1 h2 => ?_⟩, fun k hk => e k (by omega) (by omega), fun k hk => e _ (by omega) (by omega), fun q h1 h2 => e q (by omega) (by omega)⟩
  unfold qv
  rw [e q (by omega) (by omega)]
  decide
end ZPu2

