/-! the view: what look() lays down, and what is read of it -/
section ZVW
variable {g : zG} {l : Launch} {X : String → zS → Prop} {m : Nat → Int32}
def VwU (σ : zS) (m : Nat → Int32) (a : Int) (n : Nat) : Prop := ∀ c, c < n → σ.1 19 c = iI (stt m a c) ∧ Cl (σ.1 20 c) (nH m) (cS m a c) ∧ σ.1 21 c = iI (sdS m a c)
theorem VwU.push {σ υ : zS} {a : Int} {c : Nat} (h : VwU σ m a c) {x y z : Int32} (h1 : υ.1 19 = upd (σ.1 19) c x) (h2 : υ.1 20 = upd (σ.1 20) c y) (h3 : υ.1 21 = upd (σ.1 21) c z) (e1 : x = iI (stt m a c)) (e2 : Cl y (nH m) (cS m a c)) (e3 : z = iI (sdS m a c)) : VwU υ m a (c + 1) := fun d hd => by
  rw [h1, h2, h3]
  by_cases e : d = c
  · subst e
    rw [pk_us, pk_us, pk_us]
    exact ⟨e1, e2, e3⟩
  · rw [pk_un e, pk_un e, pk_un e]
    exact h d (by omega)
theorem FrL.R0 {L : List Nat} {σ τ : zS} (h : FrL L σ τ) {o : Nat} (hL : ∀ b, b ∈ L → b < o ∨ o + 10 ≤ b) (hR : R0 σ o m) : R0 τ o m :=
  hR.fr (fun j hj => h.1 (o + j) (fun q => by have := hL _ q; omega))
theorem FrL.RT {L : List Nat} {σ τ : zS} (h : FrL L σ τ) {o : Nat} (hL : ¬ o ∈ L) (hT : RT σ o m) : RT τ o m := fun k hk => by
  rw [h.1 o hL]; exact hT k hk
abbrev LV : List Nat := [19, 20, 21]
theorem sd_fc {σ : zS} (hR : R0 σ 73 m) {c : Nat} (hc : c < cols m) {a : Int} {s : Nat} (hs : s < 2) (e : sdS m a c = s) : Cl (σ.1 (73 + 8 + s) c) (nH m) (cS m a c) := by
  have := (hR.2.2.2.2.2.2.2.2 c hc s hs).2
  unfold cS
  rw [e]
  exact this
theorem c_las_46 {K : zS → Prop} {σ0 : zS} (hR : R0 σ0 73 m) (hw : WF m) {a : Int} {k s : Nat} {le cv op : Int} (hk : k < nS m) (hle : le = lean m k a) (hs : s = if 0 < le then 1 else 0) (hcv : cv = if 0 < k then seamB m (k - 1) else 0) (hop : op = - seamB m k)
    (H : ∀ τ, FrL LV σ0 τ → VwU τ m a (fst m (k + 1)) → K τ) (j : Nat) (hj : j ≤ wd m k) (σ : zS) (hF : FrL LV σ0 σ) (hV : VwU σ m a (fst m k + j)) :
    L_X5_lookAtSlat_46 g l K X (iI k) (iI le) (iI cv) (iI op) (iI (wd m k)) (iI (shw (wd m k) le)) (73 + 8 + s) (iI j) σ := by
  have hb := wf_b hw
  have hcl := cols_le hw
  have hsl := wf_s hw hk
  have hfl := fst_le hw (k := k) (by omega)
  have hlb := lean_b m k a
  have hsh := shw_le (w := wd m k) (le := le) (by omega) (by omega)
  have hs2 : s < 2 := by rw [hs]; split <;> omega
  have hsb := seam_b hw hk
  have hcb : -8 ≤ cv ∧ cv ≤ 8 := by
    rw [hcv]; split
    · exact seam_b hw (by omega)
    · omega
  have ih := fun h => c_las_46 hR hw hk hle hs hcv hop H (j + 1) h
  have hR' := hF.R0 (o := 73) (by decide) hR
  have hr := hR'.2.2.2.2.2.2.2.1 k hk
  have hf := zB_f zB_73 hs2
  refine b_X5_lookAtSlat_46 hf.1 hf.2 ?_
  try simp (disch := omega) only [iI_add, iI_sub, iI_mul, iI_neg, iI_n, iI_lt, iI_le, iI_eq, iI_tn, iI_ti, bI_0, bI_1, iI_L, iL_0, Decidable.not_not, Int.toNat_natCast, zpt_at, zpt_ne, pk_us, pk_un, forall_eq, tn_0, tn_1, tn_2, tn_3, tn_4, tn_5, ni_1, ni_2, ni_3, ni_4, ni_5, not_false_eq_true, not_true_eq_false, true_implies, false_implies, and_true, true_and, iL_6, iL_m6, iL_7, iL_8, iL_9, iL_4, iL_m4, iL_m8, li_0, li_1, li_2, li_3, li_4, li_5, li_6, li_7, li_8, li_9, li_10, li_11, li_12, li_13, li_15, li_16, li_18, li_20, li_24, li_31, li_32, li_40, li_46, li_48, li_57, li_59, li_60, li_61, li_63, li_64, li_97, li_99, li_122, li_124, li_150, li_255, li_480, li_488, li_600, li_999, li_1110, li_54]
  rw [hr.2.1]
  try simp (disch := omega) only [iI_add, iI_sub, iI_mul, iI_neg, iI_n, iI_lt, iI_le, iI_eq, iI_tn, iI_ti, bI_0, bI_1, iI_L, iL_0, Decidable.not_not, Int.toNat_natCast, zpt_at, zpt_ne, pk_us, pk_un, forall_eq, tn_0, tn_1, tn_2, tn_3, tn_4, tn_5, ni_1, ni_2, ni_3, ni_4, ni_5, not_false_eq_true, not_true_eq_false, true_implies, false_implies, and_true, true_and, iL_6, iL_m6, iL_7, iL_8, iL_9, iL_4, iL_m4, iL_m8, li_0, li_1, li_2, li_3, li_4, li_5, li_6, li_7, li_8, li_9, li_10, li_11, li_12, li_13, li_15, li_16, li_18, li_20, li_24, li_31, li_32, li_40, li_46, li_48, li_57, li_59, li_60, li_61, li_63, li_64, li_97, li_99, li_122, li_124, li_150, li_255, li_480, li_488, li_600, li_999, li_1110, li_54]
  refine ⟨fun h => ?_, fun h => ?_⟩
  · obtain rfl : j = wd m k := by omega
    exact H σ hF hV
  · have hcc := fst_col hw hk (j := j) (by omega)
    have hso : slatOf m (fst m k + j) = k := slat_eq hk (by omega) (by rw [fst_succ]; omega)
    have hp : fst m k + j - fst m k = j := by omega
    have hsd : sdS m a (fst m k + j) = s := by unfold sdS; rw [hso, ← hle, hs]
    have h60 : vp_in (iI ((fst m k : Int) + (j : Int))) 60 := iI_in (by omega) (by omega) (by omega)
    have htn : ((fst m k : Int) + (j : Int)).toNat = fst m k + j := by omega
    have k1 : ∀ x : Int32, x = iI (stt m a (fst m k + j)) → L_X5_lookAtSlat_158 g l K X (iI k) (iI le) (iI cv) (iI op) (iI (wd m k)) (iI (shw (wd m k) le)) (73 + 8 + s) (iI j) (iI ((fst m k : Int) + (j : Int))) (zup σ 19 (fst m k + j) x) := by
      intro x hx
      refine b_X5_lookAtSlat_158 hf.1 hf.2 ⟨h60, h60, ?_⟩
      try simp (disch := omega) only [iI_add, iI_sub, iI_mul, iI_neg, iI_n, iI_lt, iI_le, iI_eq, iI_tn, iI_ti, bI_0, bI_1, iI_L, iL_0, Decidable.not_not, Int.toNat_natCast, zpt_at, zpt_ne, pk_us, pk_un, forall_eq, tn_0, tn_1, tn_2, tn_3, tn_4, tn_5, ni_1, ni_2, ni_3, ni_4, ni_5, not_false_eq_true, not_true_eq_false, true_implies, false_implies, and_true, true_and, iL_6, iL_m6, iL_7, iL_8, iL_9, iL_4, iL_m4, iL_m8, li_0, li_1, li_2, li_3, li_4, li_5, li_6, li_7, li_8, li_9, li_10, li_11, li_12, li_13, li_15, li_16, li_18, li_20, li_24, li_31, li_32, li_40, li_46, li_48, li_57, li_59, li_60, li_61, li_63, li_64, li_97, li_99, li_122, li_124, li_150, li_255, li_480, li_488, li_600, li_999, li_1110, li_54, htn]
      have k2 : ∀ z : Nat, z = s → L_X5_lookAtSlat_185 g l K X (iI k) (iI le) (iI cv) (iI op) (iI (wd m k)) (iI (shw (wd m k) le)) (73 + 8 + s) (iI j) (iI z) (iI ((fst m k : Int) + (j : Int))) (zup (zup σ 19 (fst m k + j) x) 20 (fst m k + j) (σ.1 (73 + 8 + s) (fst m k + j))) := by
        intro z hz
        subst hz
        refine b_X5_lookAtSlat_185 hf.1 hf.2 ⟨h60, ?_⟩
        have hn : vp_nar .boolean (iI (z : Int)) = iI (z : Int) := by
          match z, hs2 with
          | 0, _ => rfl
          | 1, _ => rfl
        try simp (disch := omega) only [iI_add, iI_sub, iI_mul, iI_neg, iI_n, iI_lt, iI_le, iI_eq, iI_tn, iI_ti, bI_0, bI_1, iI_L, iL_0, Decidable.not_not, Int.toNat_natCast, zpt_at, zpt_ne, pk_us, pk_un, forall_eq, tn_0, tn_1, tn_2, tn_3, tn_4, tn_5, ni_1, ni_2, ni_3, ni_4, ni_5, not_false_eq_true, not_true_eq_false, true_implies, false_implies, and_true, true_and, iL_6, iL_m6, iL_7, iL_8, iL_9, iL_4, iL_m4, iL_m8, li_0, li_1, li_2, li_3, li_4, li_5, li_6, li_7, li_8, li_9, li_10, li_11, li_12, li_13, li_15, li_16, li_18, li_20, li_24, li_31, li_32, li_40, li_46, li_48, li_57, li_59, li_60, li_61, li_63, li_64, li_97, li_99, li_122, li_124, li_150, li_255, li_480, li_488, li_600, li_999, li_1110, li_54, htn, hn]
        refine ih (by omega) _ (((hF.up (by decide) _).up (by decide) _).up (by decide) _) ?_
        rw [← Nat.add_assoc]
        refine hV.push (x := x) (y := σ.1 (73 + 8 + z) (fst m k + j)) (z := iI (z : Int)) ?_ ?_ ?_ hx (sd_fc hR' hcc hs2 hsd) (by rw [hsd])
        · try simp (disch := omega) only [iI_add, iI_sub, iI_mul, iI_neg, iI_n, iI_lt, iI_le, iI_eq, iI_tn, iI_ti, bI_0, bI_1, iI_L, iL_0, Decidable.not_not, Int.toNat_natCast, zpt_at, zpt_ne, pk_us, pk_un, forall_eq, tn_0, tn_1, tn_2, tn_3, tn_4, tn_5, ni_1, ni_2, ni_3, ni_4, ni_5, not_false_eq_true, not_true_eq_false, true_implies, false_implies, and_true, true_and, iL_6, iL_m6, iL_7, iL_8, iL_9, iL_4, iL_m4, iL_m8, li_0, li_1, li_2, li_3, li_4, li_5, li_6, li_7, li_8, li_9, li_10, li_11, li_12, li_13, li_15, li_16, li_18, li_20, li_24, li_31, li_32, li_40, li_46, li_48, li_57, li_59, li_60, li_61, li_63, li_64, li_97, li_99, li_122, li_124, li_150, li_255, li_480, li_488, li_600, li_999, li_1110, li_54]
        · try simp (disch := omega) only [iI_add, iI_sub, iI_mul, iI_neg, iI_n, iI_lt, iI_le, iI_eq, iI_tn, iI_ti, bI_0, bI_1, iI_L, iL_0, Decidable.not_not, Int.toNat_natCast, zpt_at, zpt_ne, pk_us, pk_un, forall_eq, tn_0, tn_1, tn_2, tn_3, tn_4, tn_5, ni_1, ni_2, ni_3, ni_4, ni_5, not_false_eq_true, not_true_eq_false, true_implies, false_implies, and_true, true_and, iL_6, iL_m6, iL_7, iL_8, iL_9, iL_4, iL_m4, iL_m8, li_0, li_1, li_2, li_3, li_4, li_5, li_6, li_7, li_8, li_9, li_10, li_11, li_12, li_13, li_15, li_16, li_18, li_20, li_24, li_31, li_32, li_40, li_46, li_48, li_57, li_59, li_60, li_61, li_63, li_64, li_97, li_99, li_122, li_124, li_150, li_255, li_480, li_488, li_600, li_999, li_1110, li_54]
        · try simp (disch := omega) only [iI_add, iI_sub, iI_mul, iI_neg, iI_n, iI_lt, iI_le, iI_eq, iI_tn, iI_ti, bI_0, bI_1, iI_L, iL_0, Decidable.not_not, Int.toNat_natCast, zpt_at, zpt_ne, pk_us, pk_un, forall_eq, tn_0, tn_1, tn_2, tn_3, tn_4, tn_5, ni_1, ni_2, ni_3, ni_4, ni_5, not_false_eq_true, not_true_eq_false, true_implies, false_implies, and_true, true_and, iL_6, iL_m6, iL_7, iL_8, iL_9, iL_4, iL_m4, iL_m8, li_0, li_1, li_2, li_3, li_4, li_5, li_6, li_7, li_8, li_9, li_10, li_11, li_12, li_13, li_15, li_16, li_18, li_20, li_24, li_31, li_32, li_40, li_46, li_48, li_57, li_59, li_60, li_61, li_63, li_64, li_97, li_99, li_122, li_124, li_150, li_255, li_480, li_488, li_600, li_999, li_1110, li_54]
      refine ⟨fun h2 => k2 0 (by rw [hs, if_neg (by omega)]), fun h2 => k2 1 (by rw [hs, if_pos (by omega)])⟩
    have k3 : ∀ q : Nat, (q = 0 ∨ q = 1) → (q = 1 ↔ ((0 < le ∧ (j : Int) < (wd m k : Int) - (shw (wd m k) le : Int)) ∨ (le ≤ 0 ∧ shw (wd m k) le ≤ j))) → L_X5_lookAtSlat_101 g l K X (iI k) (iI le) (iI cv) (iI op) (iI (wd m k)) (iI (shw (wd m k) le)) (73 + 8 + s) (iI j) (iI ((fst m k : Int) + (j : Int))) (iI q) σ := by
      intro q hq01 hq
      have hst : stt m a (fst m k + j) = if 0 < k ∧ (j : Int) < seamB m (k - 1) then 1 else if (wd m k : Int) + seamB m k ≤ (j : Int) then 2 else if ((0 < le ∧ (j : Int) < (wd m k : Int) - (shw (wd m k) le : Int)) ∨ (le ≤ 0 ∧ shw (wd m k) le ≤ j)) then 3 else 0 := by
        unfold stt
        rw [hso, hp, ← hle]
      have hc1 : (0 < k ∧ (j : Int) < seamB m (k - 1)) ↔ (j : Int) < cv := by
        rw [hcv]
        by_cases h0 : 0 < k
        · rw [if_pos h0]; exact ⟨fun x => x.2, fun x => ⟨h0, x⟩⟩
        · rw [if_neg h0]; exact ⟨fun x => absurd x.1 h0, fun x => by omega⟩
      refine b_X5_lookAtSlat_101 hf.1 hf.2 ?_
      try simp (disch := omega) only [iI_add, iI_sub, iI_mul, iI_neg, iI_n, iI_lt, iI_le, iI_eq, iI_tn, iI_ti, bI_0, bI_1, iI_L, iL_0, Decidable.not_not, Int.toNat_natCast, zpt_at, zpt_ne, pk_us, pk_un, forall_eq, tn_0, tn_1, tn_2, tn_3, tn_4, tn_5, ni_1, ni_2, ni_3, ni_4, ni_5, not_false_eq_true, not_true_eq_false, true_implies, false_implies, and_true, true_and, iL_6, iL_m6, iL_7, iL_8, iL_9, iL_4, iL_m4, iL_m8, li_0, li_1, li_2, li_3, li_4, li_5, li_6, li_7, li_8, li_9, li_10, li_11, li_12, li_13, li_15, li_16, li_18, li_20, li_24, li_31, li_32, li_40, li_46, li_48, li_57, li_59, li_60, li_61, li_63, li_64, li_97, li_99, li_122, li_124, li_150, li_255, li_480, li_488, li_600, li_999, li_1110, li_54, htn]
      refine ⟨fun h2 => ⟨fun h3 => ⟨fun h4 => ?_, fun h4 => ?_⟩, fun h3 => ⟨h60, ?_⟩⟩, fun h2 => ⟨h60, ?_⟩⟩
      · refine b_X5_lookAtSlat_157 hf.1 hf.2 ⟨h60, ?_⟩
        try simp (disch := omega) only [iI_add, iI_sub, iI_mul, iI_neg, iI_n, iI_lt, iI_le, iI_eq, iI_tn, iI_ti, bI_0, bI_1, iI_L, iL_0, Decidable.not_not, Int.toNat_natCast, zpt_at, zpt_ne, pk_us, pk_un, forall_eq, tn_0, tn_1, tn_2, tn_3, tn_4, tn_5, ni_1, ni_2, ni_3, ni_4, ni_5, not_false_eq_true, not_true_eq_false, true_implies, false_implies, and_true, true_and, iL_6, iL_m6, iL_7, iL_8, iL_9, iL_4, iL_m4, iL_m8, li_0, li_1, li_2, li_3, li_4, li_5, li_6, li_7, li_8, li_9, li_10, li_11, li_12, li_13, li_15, li_16, li_18, li_20, li_24, li_31, li_32, li_40, li_46, li_48, li_57, li_59, li_60, li_61, li_63, li_64, li_97, li_99, li_122, li_124, li_150, li_255, li_480, li_488, li_600, li_999, li_1110, li_54, htn]
        refine k1 _ ?_
        rw [hst, if_neg (by rw [hc1]; omega), if_neg (by omega), if_neg (by rw [← hq]; omega)]; rfl
      · refine b_X5_lookAtSlat_157 hf.1 hf.2 ⟨h60, ?_⟩
        try simp (disch := omega) only [iI_add, iI_sub, iI_mul, iI_neg, iI_n, iI_lt, iI_le, iI_eq, iI_tn, iI_ti, bI_0, bI_1, iI_L, iL_0, Decidable.not_not, Int.toNat_natCast, zpt_at, zpt_ne, pk_us, pk_un, forall_eq, tn_0, tn_1, tn_2, tn_3, tn_4, tn_5, ni_1, ni_2, ni_3, ni_4, ni_5, not_false_eq_true, not_true_eq_false, true_implies, false_implies, and_true, true_and, iL_6, iL_m6, iL_7, iL_8, iL_9, iL_4, iL_m4, iL_m8, li_0, li_1, li_2, li_3, li_4, li_5, li_6, li_7, li_8, li_9, li_10, li_11, li_12, li_13, li_15, li_16, li_18, li_20, li_24, li_31, li_32, li_40, li_46, li_48, li_57, li_59, li_60, li_61, li_63, li_64, li_97, li_99, li_122, li_124, li_150, li_255, li_480, li_488, li_600, li_999, li_1110, li_54, htn]
        refine k1 _ ?_
        rw [hst, if_neg (by rw [hc1]; omega), if_neg (by omega), if_pos (by rw [← hq]; omega)]; rfl
      · refine k1 _ ?_
        rw [hst, if_neg (by rw [hc1]; omega), if_pos (by omega)]; rfl
      · refine k1 _ ?_
        rw [hst, if_pos (by rw [hc1]; omega)]; rfl
    refine ⟨in10 hk hb.2.2.1, fun h2 => ⟨fun h3 => k3 0 (Or.inl rfl) (by omega), fun h3 => k3 1 (Or.inr rfl) (by omega)⟩, fun h2 => ⟨fun h3 => k3 0 (Or.inl rfl) (by omega), fun h3 => k3 1 (Or.inr rfl) (by omega)⟩⟩
termination_by wd m k - j
theorem c_lookAtSlat {K : zS → Prop} {σ0 σ : zS} (hR : R0 σ0 73 m) (hw : WF m) {a : Int} {k : Nat} {le cv op : Int} (hk : k < nS m) (hle : le = lean m k a) (hcv : cv = if 0 < k then seamB m (k - 1) else 0) (hop : op = - seamB m k)
    (hF : FrL LV σ0 σ) (hV : VwU σ m a (fst m k)) (H : ∀ τ, FrL LV σ0 τ → VwU τ m a (fst m (k + 1)) → K τ) :
    CT g l M_X5_lookAtSlat 0 [.ref (zad g 18), .int (iI k), .int (iI le), .int (iI cv), .int (iI op)] σ (zQv K X) := by
  have hb := wf_b hw
  have hsl := wf_s hw hk
  have hlb := lean_b m k a
  have hR' := hF.R0 (o := 73) (by decide) hR
  have hr := hR'.2.2.2.2.2.2.2.1 k hk
  have hsw : (iI (wd m k : Int) * zabs (iI le) + 5) / 6 = iI (shw (wd m k) le) := by
    rw [iI_abs (by omega) (by omega), show (if 0 ≤ le then le else -le) = max le (-le) by split <;> omega]
    exact shw_i hsl.2.1 (by omega) (by omega)
  refine b_X5_lookAtSlat ?_
  rw [show (Int32.toNatClampNeg (iI (k : Int))) = k by rw [iI_tn (by omega) (by omega)]; rfl, hr.1, hsw]
  try simp (disch := omega) only [iI_add, iI_sub, iI_mul, iI_neg, iI_n, iI_lt, iI_le, iI_eq, iI_tn, iI_ti, bI_0, bI_1, iI_L, iL_0, Decidable.not_not, Int.toNat_natCast, zpt_at, zpt_ne, pk_us, pk_un, forall_eq, tn_0, tn_1, tn_2, tn_3, tn_4, tn_5, ni_1, ni_2, ni_3, ni_4, ni_5, not_false_eq_true, not_true_eq_false, true_implies, false_implies, and_true, true_and, iL_6, iL_m6, iL_7, iL_8, iL_9, iL_4, iL_m4, iL_m8, li_0, li_1, li_2, li_3, li_4, li_5, li_6, li_7, li_8, li_9, li_10, li_11, li_12, li_13, li_15, li_16, li_18, li_20, li_24, li_31, li_32, li_40, li_46, li_48, li_57, li_59, li_60, li_61, li_63, li_64, li_97, li_99, li_122, li_124, li_150, li_255, li_480, li_488, li_600, li_999, li_1110, li_54]
  refine ⟨in10 hk hb.2.2.1, fun h => ?_, fun h => ?_⟩
  · refine b_X5_lookAtSlat_38 (c_faceOf (s := 0) zB_73 (by decide) ⟨(zB_f zB_73 (s := 0) (by decide)).1, (zB_f zB_73 (s := 0) (by decide)).2, ?_⟩)
    exact c_las_46 hR hw hk hle (by rw [if_neg (by omega)]) hcv hop H 0 (Nat.zero_le _) σ hF hV
  · refine b_X5_lookAtSlat_38 (c_faceOf (s := 1) zB_73 (by decide) ⟨(zB_f zB_73 (s := 1) (by decide)).1, (zB_f zB_73 (s := 1) (by decide)).2, ?_⟩)
    exact c_las_46 hR hw hk hle (by rw [if_pos (by omega)]) hcv hop H 0 (Nat.zero_le _) σ hF hV
theorem c_look_2 {K : zS → Prop} {σ0 : zS} {t : Nat} (ht : zsh t = .inr (0, 10)) (lt : t < 163) (htL : ¬ t ∈ LV) (hR : R0 σ0 73 m) (hT : RT σ0 t m) (hw : WF m) {a : Int} (ha : -6 ≤ a ∧ a ≤ 6)
    (H : ∀ τ, FrL LV σ0 τ → Vw τ m a → K τ) (k : Nat) (hk : k ≤ nS m) (σ : zS) (hF : FrL LV σ0 σ) (hV : VwU σ m a (fst m k)) :
    L_X5_look_2 g l K X t (iI a) (iI k) σ := by
  have hb := wf_b hw
  have hR' := hF.R0 (o := 73) (by decide) hR
  have hT' := hF.RT htL hT
  have ih := fun h => c_look_2 ht lt htL hR hT hw ha H (k + 1) h
  have htn : (Int32.toNatClampNeg (iI (k : Int))) = k := by rw [iI_tn (by omega) (by omega)]; rfl
  refine b_X5_look_2 ht lt ?_
  rw [hR'.2.2.1, htn]
  try simp (disch := omega) only [iI_add, iI_sub, iI_mul, iI_neg, iI_n, iI_lt, iI_le, iI_eq, iI_tn, iI_ti, bI_0, bI_1, iI_L, iL_0, Decidable.not_not, Int.toNat_natCast, zpt_at, zpt_ne, pk_us, pk_un, forall_eq, tn_0, tn_1, tn_2, tn_3, tn_4, tn_5, ni_1, ni_2, ni_3, ni_4, ni_5, not_false_eq_true, not_true_eq_false, true_implies, false_implies, and_true, true_and, iL_6, iL_m6, iL_7, iL_8, iL_9, iL_4, iL_m4, iL_m8, li_0, li_1, li_2, li_3, li_4, li_5, li_6, li_7, li_8, li_9, li_10, li_11, li_12, li_13, li_15, li_16, li_18, li_20, li_24, li_31, li_32, li_40, li_46, li_48, li_57, li_59, li_60, li_61, li_63, li_64, li_97, li_99, li_122, li_124, li_150, li_255, li_480, li_488, li_600, li_999, li_1110, li_54]
  refine ⟨fun h => ?_, fun h => ⟨fun h => by omega, fun _ => ?_⟩⟩
  · obtain rfl : k = nS m := by omega
    exact H σ hF hV
  · have hk' : k < nS m := by omega
    have hsl := wf_s hw hk'
    have hle : zmax (iI (-6)) (zmin (iI 6) (iI (a - tu m k))) = iI (lean m k a) := by
      rw [iI_min (by omega) (by omega) (by omega) (by omega), iI_max (by omega) (by omega) (by omega) (by omega)]
      rfl
    have nx : ((k : Int) + 1).toNat = k + 1 := by omega
    have pv : ¬ (k : Int) ≤ 0 → (iI ((k : Int) - 1)).toNatClampNeg = k - 1 := fun h => by rw [iI_tn (by omega) (by omega)]; omega
    rw [hT' k hk']
    refine ⟨in10 hk' hb.2.2.1, fun h1 => ⟨fun h2 => ?_, fun h2 => ⟨in10 (k := k + 1) (by omega) hb.2.2.1, in10 hk' hb.2.2.1, ?_⟩⟩, fun h1 => ⟨?_, in10 hk' hb.2.2.1, fun h2 => ?_, fun h2 => ⟨in10 (k := k + 1) (by omega) hb.2.2.1, in10 hk' hb.2.2.1, ?_⟩⟩⟩
    · try simp (disch := omega) only [iI_add, iI_sub, iI_mul, iI_neg, iI_n, iI_lt, iI_le, iI_eq, iI_tn, iI_ti, bI_0, bI_1, iI_L, iL_0, Decidable.not_not, Int.toNat_natCast, zpt_at, zpt_ne, pk_us, pk_un, forall_eq, tn_0, tn_1, tn_2, tn_3, tn_4, tn_5, ni_1, ni_2, ni_3, ni_4, ni_5, not_false_eq_true, not_true_eq_false, true_implies, false_implies, and_true, true_and, iL_6, iL_m6, iL_7, iL_8, iL_9, iL_4, iL_m4, iL_m8, li_0, li_1, li_2, li_3, li_4, li_5, li_6, li_7, li_8, li_9, li_10, li_11, li_12, li_13, li_15, li_16, li_18, li_20, li_24, li_31, li_32, li_40, li_46, li_48, li_57, li_59, li_60, li_61, li_63, li_64, li_97, li_99, li_122, li_124, li_150, li_255, li_480, li_488, li_600, li_999, li_1110, li_54, hle]
      exact c_lookAtSlat hR hw hk' rfl (by rw [if_neg (by omega)]) (by unfold seamB; rw [if_pos (by omega)]; rfl) hF hV (fun τ h3 h4 => ih (by omega) τ h3 h4)
    · rw [nx, hT' (k + 1) (by omega)]
      try simp (disch := omega) only [iI_add, iI_sub, iI_mul, iI_neg, iI_n, iI_lt, iI_le, iI_eq, iI_tn, iI_ti, bI_0, bI_1, iI_L, iL_0, Decidable.not_not, Int.toNat_natCast, zpt_at, zpt_ne, pk_us, pk_un, forall_eq, tn_0, tn_1, tn_2, tn_3, tn_4, tn_5, ni_1, ni_2, ni_3, ni_4, ni_5, not_false_eq_true, not_true_eq_false, true_implies, false_implies, and_true, true_and, iL_6, iL_m6, iL_7, iL_8, iL_9, iL_4, iL_m4, iL_m8, li_0, li_1, li_2, li_3, li_4, li_5, li_6, li_7, li_8, li_9, li_10, li_11, li_12, li_13, li_15, li_16, li_18, li_20, li_24, li_31, li_32, li_40, li_46, li_48, li_57, li_59, li_60, li_61, li_63, li_64, li_97, li_99, li_122, li_124, li_150, li_255, li_480, li_488, li_600, li_999, li_1110, li_54, hle]
      exact c_lookAtSlat hR hw hk' rfl (by rw [if_neg (by omega)]) (by unfold seamB; rw [if_neg (by omega)]; omega) hF hV (fun τ h3 h4 => ih (by omega) τ h3 h4)
    · exact iI_in (by omega) (by omega) (by omega)
    · rw [pv h1, hT' (k - 1) (by omega)]
      try simp (disch := omega) only [iI_add, iI_sub, iI_mul, iI_neg, iI_n, iI_lt, iI_le, iI_eq, iI_tn, iI_ti, bI_0, bI_1, iI_L, iL_0, Decidable.not_not, Int.toNat_natCast, zpt_at, zpt_ne, pk_us, pk_un, forall_eq, tn_0, tn_1, tn_2, tn_3, tn_4, tn_5, ni_1, ni_2, ni_3, ni_4, ni_5, not_false_eq_true, not_true_eq_false, true_implies, false_implies, and_true, true_and, iL_6, iL_m6, iL_7, iL_8, iL_9, iL_4, iL_m4, iL_m8, li_0, li_1, li_2, li_3, li_4, li_5, li_6, li_7, li_8, li_9, li_10, li_11, li_12, li_13, li_15, li_16, li_18, li_20, li_24, li_31, li_32, li_40, li_46, li_48, li_57, li_59, li_60, li_61, li_63, li_64, li_97, li_99, li_122, li_124, li_150, li_255, li_480, li_488, li_600, li_999, li_1110, li_54, hle]
      exact c_lookAtSlat hR hw hk' rfl (by rw [if_pos (by omega)]; unfold seamB; rw [if_neg (by omega), show k - 1 + 1 = k by omega]) (by unfold seamB; rw [if_pos (by omega)]; rfl) hF hV (fun τ h3 h4 => ih (by omega) τ h3 h4)
    · rw [nx, pv h1, hT' (k - 1) (by omega), hT' (k + 1) (by omega)]
      try simp (disch := omega) only [iI_add, iI_sub, iI_mul, iI_neg, iI_n, iI_lt, iI_le, iI_eq, iI_tn, iI_ti, bI_0, bI_1, iI_L, iL_0, Decidable.not_not, Int.toNat_natCast, zpt_at, zpt_ne, pk_us, pk_un, forall_eq, tn_0, tn_1, tn_2, tn_3, tn_4, tn_5, ni_1, ni_2, ni_3, ni_4, ni_5, not_false_eq_true, not_true_eq_false, true_implies, false_implies, and_true, true_and, iL_6, iL_m6, iL_7, iL_8, iL_9, iL_4, iL_m4, iL_m8, li_0, li_1, li_2, li_3, li_4, li_5, li_6, li_7, li_8, li_9, li_10, li_11, li_12, li_13, li_15, li_16, li_18, li_20, li_24, li_31, li_32, li_40, li_46, li_48, li_57, li_59, li_60, li_61, li_63, li_64, li_97, li_99, li_122, li_124, li_150, li_255, li_480, li_488, li_600, li_999, li_1110, li_54, hle]
      exact c_lookAtSlat hR hw hk' rfl (by rw [if_pos (by omega)]; unfold seamB; rw [if_neg (by omega), show k - 1 + 1 = k by omega]) (by unfold seamB; rw [if_neg (by omega)]; omega) hF hV (fun τ h3 h4 => ih (by omega) τ h3 h4)
termination_by nS m - k
theorem c_look {K : zS → Prop} {σ : zS} {t : Nat} (ht : zsh t = .inr (0, 10)) (lt : t < 163) (htL : ¬ t ∈ LV) (hR : R0 σ 73 m) (hT : RT σ t m) (hw : WF m) {a : Int} (ha : -6 ≤ a ∧ a ≤ 6)
    (H : ∀ τ, FrL LV σ τ → Vw τ m a → K τ) : CT g l M_X5_look 0 [.ref (zad g 18), .ref (zad g t), .int (iI a)] σ (zQv K X) :=
  b_X5_look ht lt (c_look_2 ht lt htL hR hT hw ha H 0 (Nat.zero_le _) σ (FrL.rf _ _) (fun c hc => by rw [fst_0] at hc; omega))
end ZVW

