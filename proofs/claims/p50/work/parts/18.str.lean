/-! the JDK's own text methods, on the text constants -/
section ZS
variable {g : zG} {l : Launch} {mn : MethodName} {cc : ByteArray} {nL : Nat} {rt : Option FieldType} {dp : Nat} {kb : Nat} {Q : zR → zS → Prop} {pc : Nat} {ls : List (Nat × Value)} {rest : List Value} {σ : zS}
abbrev zaK (g : zG) : Nat → Nat := g.2.2.2.2.1
abbrev zaV (g : zG) : Nat → Nat := g.2.2.2.2.2
theorem ql_J0_9 : Cond.fieldLink RJ0 9 "java/lang/String" "value" "[B" ∈ zT := zT_in 938 (by decide +kernel) (by decide +kernel)
theorem ql_J0_15 : Cond.fieldLink RJ0 15 "java/lang/String" "coder" "B" ∈ zT := zT_in 939 (by decide +kernel) (by decide +kernel)
theorem ql_J0_38 : Cond.fieldLink RJ0 38 "java/lang/String" "COMPACT_STRINGS" "Z" ∈ zT := zT_in 379 (by decide +kernel) (by decide +kernel)
theorem ql_J0_1053 : Cond.fieldLink RJ0 1053 "jdk/internal/util/Preconditions" "SIOOBE_FORMATTER" "Ljava/util/function/BiFunction;" ∈ zT := zT_in 395 (by decide +kernel) (by decide +kernel)
theorem e_sval {i : Nat} (hi : i < 15) (hm : mn.cls = RJ0) (hdg : decode cc pc = .ok (.getfield 9, 3)) (z : EV g l (mn, cc, nL, rt, dp, []) kb Q (pc + 3) ls (.ref (zaV g i) :: rest) σ) : EV g l (mn, cc, nL, rt, dp, []) kb Q pc ls (.ref (zaK g i) :: rest) σ := fun z1 z2 p e s m args below meth c R H locs cells slots la C0 hP hS hc0 hs hl =>
  vk_getf C0.1 C0.2.1 ((C0.2.2.2.2.2.2.2.2.2.2.2.2.2.2.2.2.2.2.1.1 i hi).2.2.1) hS C0.2.2.2.2.1 (C0.2.2.2.2.2.1 _ (by rw [show (mn, cc, nL, rt, dp, ([] : List (Nat × Nat × Nat × Nat))).1.cls = RJ0 from hm]; exact ql_J0_9)) (fun _ h => h) hdg (z z1 z2 p e s m args below meth c R H locs cells slots la C0 hP hS hc0 hs hl)
theorem e_scod {i : Nat} (hi : i < 15) (hm : mn.cls = RJ0) (hdg : decode cc pc = .ok (.getfield 15, 3)) (z : EV g l (mn, cc, nL, rt, dp, []) kb Q (pc + 3) ls (.int 0 :: rest) σ) : EV g l (mn, cc, nL, rt, dp, []) kb Q pc ls (.ref (zaK g i) :: rest) σ := fun z1 z2 p e s m args below meth c R H locs cells slots la C0 hP hS hc0 hs hl =>
  vk_getf C0.1 C0.2.1 ((C0.2.2.2.2.2.2.2.2.2.2.2.2.2.2.2.2.2.2.1.1 i hi).2.1) hS C0.2.2.2.2.1 (C0.2.2.2.2.2.1 _ (by rw [show (mn, cc, nL, rt, dp, ([] : List (Nat × Nat × Nat × Nat))).1.cls = RJ0 from hm]; exact ql_J0_15)) (fun _ h => h) hdg (z z1 z2 p e s m args below meth c R H locs cells slots la C0 hP hS hc0 hs hl)
theorem e_scmp (hm : mn.cls = RJ0) (hdg : decode cc pc = .ok (.getstatic 38, 3)) (z : EV g l (mn, cc, nL, rt, dp, []) kb Q (pc + 3) ls (.int 1 :: rest) σ) : EV g l (mn, cc, nL, rt, dp, []) kb Q pc ls rest σ := fun z1 z2 p e s m args below meth c R H locs cells slots la C0 hP hS hc0 hs hl =>
  va_gets C0.1 C0.2.1 C0.2.2.2.2.2.2.2.2.2.2.2.2.2.2.2.2.2.2.2.1 hS C0.2.2.2.2.1 (C0.2.2.2.2.2.1 _ (by rw [show (mn, cc, nL, rt, dp, ([] : List (Nat × Nat × Nat × Nat))).1.cls = RJ0 from hm]; exact ql_J0_38)) (fun _ h => h) hdg (z z1 z2 p e s m args below meth c R H locs cells slots la C0 hP hS hc0 hs hl)
theorem e_sfmt (hm : mn.cls = RJ0) (hdg : decode cc pc = .ok (.getstatic 1053, 3)) (z : ∀ v : Value, v.category = 1 → EV g l (mn, cc, nL, rt, dp, []) kb Q (pc + 3) ls (v :: rest) σ) : EV g l (mn, cc, nL, rt, dp, []) kb Q pc ls rest σ := fun z1 z2 p e s m args below meth c R H locs cells slots la C0 hP hS hc0 hs hl => by
  have hq := C0.2.2.2.2.2.1 _ (show Cond.fieldLink (mn, cc, nL, rt, dp, ([] : List (Nat × Nat × Nat × Nat))).1.cls 1053 "jdk/internal/util/Preconditions" "SIOOBE_FORMATTER" "Ljava/util/function/BiFunction;" ∈ zT by rw [show (mn, cc, nL, rt, dp, ([] : List (Nat × Nat × Nat × Nat))).1.cls = RJ0 from hm]; exact ql_J0_1053)
  rcases C0.2.2.2.2.2.2.2.2.2.2.2.2.2.2.2.2.2.2.2.2.1 with h | ⟨t, h⟩
  · exact va_gets C0.1 C0.2.1 h hS C0.2.2.2.2.1 hq (fun _ h => h) hdg (z .null rfl z1 z2 p e s m args below meth c R H locs cells slots la C0 hP hS hc0 hs hl)
  · exact va_gets C0.1 C0.2.1 h hS C0.2.2.2.2.1 hq (fun _ h => h) hdg (z (.ref t) rfl z1 z2 p e s m args below meth c R H locs cells slots la C0 hP hS hc0 hs hl)
theorem e_stl {i : Nat} (hi : i < 15) (hdg : decode cc pc = .ok (.arraylength, 1)) (z : EV g l (mn, cc, nL, rt, dp, []) kb Q (pc + 1) ls (.int (nI (zLen.getD i 0)) :: rest) σ) : EV g l (mn, cc, nL, rt, dp, []) kb Q pc ls (.ref (zaV g i) :: rest) σ := fun z1 z2 p e s m args below meth c R H locs cells slots la C0 hP hS hc0 hs hl =>
  va_tlen C0.1 C0.2.1 ((C0.2.2.2.2.2.2.2.2.2.2.2.2.2.2.2.2.2.2.1.1 i hi).2.2.2) hS rfl hdg (z z1 z2 p e s m args below meth c R H locs cells slots la C0 hP hS hc0 hs hl)
theorem e_stb {i : Nat} {x : Int32} (hi : i < 15) (hin : vp_in x (zLen.getD i 0)) (hdg : decode cc pc = .ok (.baload, 1)) (z : EV g l (mn, cc, nL, rt, dp, []) kb Q (pc + 1) ls (.int ((zByt.getD i []).getD x.toNatClampNeg 0) :: rest) σ) : EV g l (mn, cc, nL, rt, dp, []) kb Q pc ls (.int x :: .ref (zaV g i) :: rest) σ := fun z1 z2 p e s m args below meth c R H locs cells slots la C0 hP hS hc0 hs hl =>
  va_tb C0.1 C0.2.1 ((C0.2.2.2.2.2.2.2.2.2.2.2.2.2.2.2.2.2.2.1.1 i hi).2.2.2) hS hin rfl hdg (z z1 z2 p e s m args below meth c R H locs cells slots la C0 hP hS hc0 hs hl)
/-- a call on a text constant -/
theorem e_callT {N : zM} {j1 j2 n idx i : Nat} {av : List Value} {K : Int32 → zS → Prop} {X : String → zS → Prop} {st : List Value} (hst : st = av.reverse ++ .ref (zaK g i) :: rest) (hs0 : i < 15) (hq : N.1.cls = "java/lang/String") (hct : CT g l N j1 (.ref (zaK g i) :: av) σ (zQi K X)) (hi : zIn N n) (hn : av.length = n)
    (hinst : Cond.instanceMethod N.1 ∈ zT) (hsel : Cond.selects N.1.cls N.1 N.1 ∈ zT) (hlink : Cond.methodLink mn.cls idx N.1 ∈ zT)
    (hd : N.2.2.2.2.1 + 1 ≤ dp) (hj : j1 + j2 ≤ kb) (hW : (rest.map fun v => v.category).sum ≤ 8) (hdg : decode cc pc = .ok (.invokevirtual idx, 3))
    (kk : ∀ (v : Int32) (τ : zS), K v τ → EV g l (mn, cc, nL, rt, dp, []) j2 Q (pc + 3) ls (.int v :: rest) τ) (kx : ∀ (E : String) (τ : zS), X E τ → Q (.inr E) τ) :
    EV g l (mn, cc, nL, rt, dp, []) kb Q pc ls st σ := fun z1 z2 p e s m args below meth c R H locs cells slots la C0 hP hS hc0 hs hl => by
  subst hst
  have hr := zc_room (M := (mn, cc, nL, rt, dp, [])) (j := j1) C0.2.2.2.2.2.2.2.2.1 C0.2.2.2.2.2.2.2.2.2.1 hi hd
  have cb := callB_of (R := R) (own := mn.cls) (index := idx) (mc := j1) (ms := 6 * j1) (rm := zRm N j1) n C0.2.2.2.2.2.1 (zT_goodIn hi.1) rfl rfl rfl (C0.2.2.2.2.2.1 _ hi.2.1) (C0.2.2.2.2.2.1 _ hlink) ⟨hi.2.2.1.1, hi.2.2.1.2, hi.2.2.2.1⟩ hr
  have hrecv := vk_recv C0.2.2.2.2.2.2.2.2.2.2.2.2.2.2.2.2.2.2.1 hs0 hS
  rw [← hq] at hrecv
  exact zc_run z1 z2 C0 rfl hS hj hc0 hs hl (vx_runV (g := F0 m pc la (av.reverse ++ .ref (zaK g i) :: rest)) (rest := rest) (As := av) (b := zaK g i) (C := N.1.cls) ⟨C0.1, C0.2.1, C0.2.2.2.1, C0.2.2.2.2.1, C0.2.2.2.2.2.1⟩ (hct z1 z2) ⟨cb, C0.2.2.2.2.2.1 _ hinst, C0.2.2.2.2.2.1 _ hsel⟩ ⟨zPc_blind, hrecv, zc_pre C0 hP hS⟩ rfl hn hl.1 rfl (lv_room hW) hdg ⟨by omega, by omega⟩) (fun E τ h => kx E τ h) (fun r τ h => by
    obtain ⟨v, rfl, h'⟩ := zQi_inl h
    exact kk v τ h')
abbrev N_J0_check : zM := (yJ0_checkIndex_df160, cJ0_checkIndex_df160, 2, none, 2, [])
abbrev N_J1_char : zM := (yJ1_charAt_3b067, cJ1_charAt_3b067, 2, (some FieldType.char), 3, [])
abbrev N_J0_char : zM := (yJ0_charAt_5068e, cJ0_charAt_5068e, 2, (some FieldType.char), 5, [])
variable {K : Int32 → zS → Prop} {X : String → zS → Prop}
theorem ct_coder {i : Nat} (hi : i < 15) (H : K 0 σ) : CT g l M_J0_coder_7d493 0 [.ref (zaK g i)] σ (zQi K X) := by
  refine CT_of rfl (by decide) (Nat.le_of_ble_eq_true rfl) ?_
  change EV _ _ _ _ _ 0 [(0, .ref (zaK g i))] [] _
  refine e_scmp rfl dJ0_coder_7d493_0 ?_
  refine e_if_eq (tgt := 13) dJ0_coder_7d493_3 (by decide) (fun h => absurd h (by decide)) (fun h => ?_)
  refine e_aload_n dJ0_coder_7d493_6 rfl 0 rfl ?_
  refine e_scod hi rfl dJ0_coder_7d493_7 ?_
  refine e_goto (tgt := 14) dJ0_coder_7d493_10 (by decide) ?_
  exact e_zret rfl rfl dJ0_coder_7d493_14 H
theorem ct_isLatin1 {i : Nat} (hi : i < 15) (H : K 1 σ) : CT g l M_J0_isLatin1_aae02 0 [.ref (zaK g i)] σ (zQi K X) := by
  refine CT_of rfl (by decide) (Nat.le_of_ble_eq_true rfl) ?_
  change EV _ _ _ _ _ 0 [(0, .ref (zaK g i))] [] _
  refine e_scmp rfl dJ0_isLatin1_aae02_0 ?_
  refine e_if_eq (tgt := 17) dJ0_isLatin1_aae02_3 (by decide) (fun h => absurd h (by decide)) (fun h => ?_)
  refine e_aload_n dJ0_isLatin1_aae02_6 rfl 0 rfl ?_
  refine e_scod hi rfl dJ0_isLatin1_aae02_7 ?_
  refine e_if_ne (tgt := 17) dJ0_isLatin1_aae02_10 (by decide) (fun h => absurd rfl h) (fun h => ?_)
  refine e_iconst (v := 1) dJ0_isLatin1_aae02_13 (by decide) ?_
  refine e_goto (tgt := 18) dJ0_isLatin1_aae02_14 (by decide) ?_
  exact e_zret rfl rfl dJ0_isLatin1_aae02_18 H
theorem zLen_small : ∀ i, i < 15 → zLen.getD i 0 < 10 := by decide +kernel
theorem zByt_ok : ∀ i, i < 15 → ∀ j, j < 10 → j < zLen.getD i 0 → zi2c (((zByt.getD i []).getD j 0) &&& 255) = (zByt.getD i []).getD j 0 ∧ narrow .char (.int ((zByt.getD i []).getD j 0)) = .int ((zByt.getD i []).getD j 0) := by decide +kernel
theorem ct_strlen {i : Nat} (hi : i < 15) (H : K (nI (zLen.getD i 0)) σ) : CT g l M_J0_length_8abf5 0 [.ref (zaK g i)] σ (zQi K X) := by
  refine CT_of rfl (by decide) (Nat.le_of_ble_eq_true rfl) ?_
  change EV _ _ _ _ _ 0 [(0, .ref (zaK g i))] [] _
  refine e_aload_n dJ0_length_8abf5_0 rfl 0 rfl ?_
  refine e_sval hi rfl dJ0_length_8abf5_1 ?_
  refine e_stl hi dJ0_length_8abf5_4 ?_
  refine e_aload_n dJ0_length_8abf5_5 rfl 0 rfl ?_
  refine e_callT (j1 := 0) (j2 := 0) (i := i) (av := []) rfl hi rfl (ct_coder (K := fun v τ => v = 0 ∧ σ = τ) (X := fun _ _ => False) hi ⟨rfl, rfl⟩) i_J0_coder_7d493 rfl n_J0_coder_7d493 v_J0_coder_7d493 q_J0_335 (by decide) (by decide) (Nat.le_of_ble_eq_true rfl) dJ0_length_8abf5_6 (fun v τ h => ?_) (fun E τ h => h.elim)
  obtain ⟨rfl, rfl⟩ := h
  refine e_ishr dJ0_length_8abf5_9 ?_
  rw [show nI (zLen.getD i 0) >>> ((0 : Int32) &&& 31) = nI (zLen.getD i 0) by
    rw [pk_shrN (k := 0) (by have := zLen_small i hi; omega) _ (by decide +kernel)]; simp]
  exact e_iret rfl dJ0_length_8abf5_10 H
theorem ct_check3 {x y : Int32} {v : Value} (hv : v.category = 1) (h1 : ¬ x < 0) (h2 : x < y) (H : K x σ) : CT g l M_J3_checkIndex_8e157 0 [.int x, .int y, v] σ (zQi K X) := by
  have hlen : (lg_sl [.int x, .int y, v]).length = 3 := by
    cases v <;> first | rfl | cases hv
  refine CT_of rfl (by decide) (by rw [hlen]; exact Nat.le_of_ble_eq_true rfl) ?_
  change EV _ _ _ _ _ 0 [(0, .int x), (1, .int y), (2, v)] [] _
  refine e_iload_n dJ3_checkIndex_8e157_0 rfl 0 rfl ?_
  refine e_if_lt (tgt := 9) dJ3_checkIndex_8e157_1 (by decide) (fun h => absurd h h1) (fun h => ?_)
  refine e_iload_n dJ3_checkIndex_8e157_4 rfl 0 rfl ?_
  refine e_iload_n dJ3_checkIndex_8e157_5 rfl 1 rfl ?_
  refine e_icmp_lt (tgt := 16) dJ3_checkIndex_8e157_6 (by decide) (fun h => ?_) (fun h => absurd h2 h)
  refine e_iload_n dJ3_checkIndex_8e157_16 rfl 0 rfl ?_
  exact e_iret rfl dJ3_checkIndex_8e157_17 H
theorem ct_check0 {K : zS → Prop} {x y : Int32} (h1 : ¬ x < 0) (h2 : x < y) (H : K σ) : CT g l N_J0_check 0 [.int x, .int y] σ (zQv K X) := by
  refine CT_of rfl (by decide) (Nat.le_of_ble_eq_true rfl) ?_
  change EV _ _ _ _ _ 0 [(0, .int x), (1, .int y)] [] _
  refine e_iload_n dJ0_checkIndex_df160_0 rfl 0 rfl ?_
  refine e_iload_n dJ0_checkIndex_df160_1 rfl 1 rfl ?_
  refine e_sfmt rfl dJ0_checkIndex_df160_2 (fun v hv => ?_)
  refine e_callSi (j1 := 0) (j2 := 0) (av := [.int x, .int y, v]) rfl (ct_check3 (K := fun _ τ => σ = τ) (X := fun _ _ => False) hv h1 h2 rfl) i_J3_checkIndex_8e157 rfl s_J3_checkIndex_8e157 q_J0_1059 (by decide) (by decide) (Nat.le_of_ble_eq_true rfl) dJ0_checkIndex_df160_5 (fun v τ h => ?_) (fun E τ h => h.elim)
  subst h
  refine e_pop dJ0_checkIndex_df160_8 rfl ?_
  exact e_vret rfl dJ0_checkIndex_df160_9 H
theorem ct_char1 {i : Nat} {x : Int32} (hi : i < 15) (hin : vp_in x (zLen.getD i 0)) (H : K ((zByt.getD i []).getD x.toNatClampNeg 0) σ) : CT g l N_J1_char 0 [.ref (zaV g i), .int x] σ (zQi K X) := by
  have hl := zLen_small i hi
  obtain ⟨j, hj, rfl⟩ := vp_in_of hin (by omega)
  have hc := nI_clamp (n := j) (by omega)
  rw [hc] at H
  obtain ⟨e1, e2⟩ := zByt_ok i hi j (by omega) hj
  refine CT_of rfl (by decide) (Nat.le_of_ble_eq_true rfl) ?_
  change EV _ _ _ _ _ 0 [(0, .ref (zaV g i)), (1, .int (nI j))] [] _
  refine e_iload_n dJ1_charAt_3b067_0 rfl 1 rfl ?_
  refine e_aload_n dJ1_charAt_3b067_1 rfl 0 rfl ?_
  refine e_stl hi dJ1_charAt_3b067_2 ?_
  refine e_callSv (j1 := 0) (j2 := 0) (av := [.int (nI j), .int (nI (zLen.getD i 0))]) rfl (ct_check0 (K := fun τ => σ = τ) (X := fun _ _ => False) (nI_nlt (b := 0) (a := j) (by omega) (by omega)) (nI_lt hj (by omega)) rfl) i_J0_checkIndex_df160 rfl s_J0_checkIndex_df160 q_J1_9 (by decide) (by decide) (Nat.le_of_ble_eq_true rfl) dJ1_charAt_3b067_3 (fun τ h => ?_) (fun E τ h => h.elim)
  subst h
  refine e_aload_n dJ1_charAt_3b067_6 rfl 0 rfl ?_
  refine e_iload_n dJ1_charAt_3b067_7 rfl 1 rfl ?_
  refine e_stb hi hin dJ1_charAt_3b067_8 ?_
  refine e_sipush (v := 255) dJ1_charAt_3b067_9 (by decide) ?_
  refine e_iand dJ1_charAt_3b067_12 ?_
  rw [hc]
  refine e_i2c (v := (zByt.getD i []).getD j 0) dJ1_charAt_3b067_13 e1 ?_
  exact e_zret rfl e2 dJ1_charAt_3b067_14 H
theorem ct_charAt {i : Nat} {x : Int32} (hi : i < 15) (hin : vp_in x (zLen.getD i 0)) (H : K ((zByt.getD i []).getD x.toNatClampNeg 0) σ) : CT g l N_J0_char 0 [.ref (zaK g i), .int x] σ (zQi K X) := by
  have hl := zLen_small i hi
  have hn : narrow .char (.int ((zByt.getD i []).getD x.toNatClampNeg 0)) = .int ((zByt.getD i []).getD x.toNatClampNeg 0) := by
    obtain ⟨j, hj, rfl⟩ := vp_in_of hin (by omega)
    rw [nI_clamp (n := j) (by omega)]
    exact (zByt_ok i hi j (by omega) hj).2
  refine CT_of rfl (by decide) (Nat.le_of_ble_eq_true rfl) ?_
  change EV _ _ _ _ _ 0 [(0, .ref (zaK g i)), (1, .int x)] [] _
  refine e_aload_n dJ0_charAt_5068e_0 rfl 0 rfl ?_
  refine e_callT (j1 := 0) (j2 := 0) (i := i) (av := []) rfl hi rfl (ct_isLatin1 (K := fun v τ => v = 1 ∧ σ = τ) (X := fun _ _ => False) hi ⟨rfl, rfl⟩) i_J0_isLatin1_aae02 rfl n_J0_isLatin1_aae02 v_J0_isLatin1_aae02 q_J0_492 (by decide) (by decide) (Nat.le_of_ble_eq_true rfl) dJ0_charAt_5068e_1 (fun v τ h => ?_) (fun E τ h => h.elim)
  obtain ⟨rfl, rfl⟩ := h
  refine e_if_eq (tgt := 16) dJ0_charAt_5068e_4 (by decide) (fun h => absurd h (by decide)) (fun h => ?_)
  refine e_aload_n dJ0_charAt_5068e_7 rfl 0 rfl ?_
  refine e_sval hi rfl dJ0_charAt_5068e_8 ?_
  refine e_iload_n dJ0_charAt_5068e_11 rfl 1 rfl ?_
  refine e_callSi (j1 := 0) (j2 := 0) (av := [.ref (zaV g i), .int x]) rfl (ct_char1 (K := fun v t => v = (zByt.getD i []).getD x.toNatClampNeg 0 ∧ σ = t) (X := fun _ _ => False) hi hin ⟨rfl, rfl⟩) i_J1_charAt_3b067 rfl s_J1_charAt_3b067 q_J0_495 (by decide) (by decide) (Nat.le_of_ble_eq_true rfl) dJ0_charAt_5068e_12 (fun v τ h => ?_) (fun E τ h => h.elim)
  obtain ⟨rfl, rfl⟩ := h
  exact e_zret rfl hn dJ0_charAt_5068e_15 H
theorem e_strlen {i idx : Nat} (hi : i < 15) (hlink : Cond.methodLink mn.cls idx yJ0_length_8abf5 ∈ zT) (hd : 7 ≤ dp) (hW : (rest.map fun v => v.category).sum ≤ 8) (hdg : decode cc pc = .ok (.invokevirtual idx, 3)) (z : EV g l (mn, cc, nL, rt, dp, []) kb Q (pc + 3) ls (.int (nI (zLen.getD i 0)) :: rest) σ) : EV g l (mn, cc, nL, rt, dp, []) kb Q pc ls (.ref (zaK g i) :: rest) σ :=
  e_callT (j1 := 0) (j2 := kb) (i := i) (av := []) rfl hi rfl (ct_strlen (K := fun v τ => v = nI (zLen.getD i 0) ∧ σ = τ) (X := fun _ _ => False) hi ⟨rfl, rfl⟩) i_J0_length_8abf5 rfl n_J0_length_8abf5 v_J0_length_8abf5 hlink (Nat.le_trans (by decide) hd) (by omega) hW hdg (fun v τ h => by obtain ⟨rfl, rfl⟩ := h; exact z) (fun E τ h => h.elim)
theorem e_charAt {i idx : Nat} {x : Int32} (hi : i < 15) (hin : vp_in x (zLen.getD i 0)) (hlink : Cond.methodLink mn.cls idx yJ0_charAt_5068e ∈ zT) (hd : 7 ≤ dp) (hW : (rest.map fun v => v.category).sum ≤ 8) (hdg : decode cc pc = .ok (.invokevirtual idx, 3)) (z : EV g l (mn, cc, nL, rt, dp, []) kb Q (pc + 3) ls (.int ((zByt.getD i []).getD x.toNatClampNeg 0) :: rest) σ) : EV g l (mn, cc, nL, rt, dp, []) kb Q pc ls (.int x :: .ref (zaK g i) :: rest) σ :=
  e_callT (j1 := 0) (j2 := kb) (i := i) (av := [.int x]) rfl hi rfl (ct_charAt (K := fun v τ => v = (zByt.getD i []).getD x.toNatClampNeg 0 ∧ σ = τ) (X := fun _ _ => False) hi hin ⟨rfl, rfl⟩) i_J0_charAt_5068e rfl n_J0_charAt_5068e v_J0_charAt_5068e hlink (Nat.le_trans (by decide) hd) (by omega) hW hdg (fun v τ h => by obtain ⟨rfl, rfl⟩ := h; exact z) (fun E τ h => h.elim)
end ZS
