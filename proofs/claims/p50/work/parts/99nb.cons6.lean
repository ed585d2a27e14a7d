/-! the class (made by cons.py) -/
section ZKc99nb
variable {G : fG} {l : Launch} {w0 : va_W}
def X6w (G : fG) (a : Nat) (r rr : Nat → Nat) : va_W := ((a, .inr (10, [.ref (r 0), .ref (r 2), .ref (r 19), .ref (r 25), .ref (r 35), .ref (r 45), .ref (r 107), .ref (r 111), .ref (r 112), .int 0, .int 0, .int 0])) :: ((((((((X3w G (r 0) (fun i => r (i + 1)) ++ X4w G (r 2) (r 0) (fun i => r (i + 3))) ++ X2w G (r 19) (r 0) (fun i => r (i + 20)) rr) ++ X0w G (r 25) (fun i => r (i + 26))) ++ X0w G (r 35) (fun i => r (i + 36))) ++ X1w G (r 45) (fun i => r (i + 46))) ++ X5w G (r 107) (r 25) (fun i => r (i + 108))) ++ [((r 111), .inl (G.1.2.1 0, 10, .inl (fun _ => 0)))]) ++ [((r 112), .inl (G.1.2.1 1, 488, .inl (fun _ => 0)))]))
abbrev M_X6_init : zM := (yX6_init, cX6_init, 1, none, 4, [])
theorem i_X6_init : zIn M_X6_init 0 := ⟨zT_in 62 (by decide +kernel) (by decide +kernel), kin_6, ⟨by decide, by decide⟩, by decide +kernel, by decide⟩
set_option maxRecDepth 20000 in
theorem c_X6_init {a : Nat} : KC G l M_X6_init 143 4410 [.ref a] (w0 ++ [(a, .inr (10, [.null, .null, .null, .null, .null, .null, .null, .null, .null, .int 0, .int 0, .int 0]))]) (fun w => ∃ r rr : Nat → Nat, w = w0 ++ X6w G a r rr) := by
  refine KC_of rfl (Nat.le_of_ble_eq_true rfl) ?_
  intro p e s m args below meth c R hnm C
  change KV _ _ _ _ _ _ _ _ _ _ _ _ _ _ _ _ [(0, .ref a)] _ _
  refine k_aload_n C dX6_init_0 rfl 0 rfl ?_
  refine k_obj C (zT_in 63 (by decide +kernel) (by decide +kernel)) koi_i koi_c (by decide) (Nat.le_of_ble_eq_true rfl) dX6_init_1 ?_
  refine k_aload_n C dX6_init_4 rfl 0 rfl ?_
  refine k_new (ci := 7) (T := TX3) (kc' := 142) (ks' := 4402) C zin_3 tyX3 tyX3_ok (zT_in 66 (by decide +kernel) (by decide +kernel)) kmk_3 kin_3 rfl kdf_3 (Nat.le_of_ble_eq_true rfl) (Nat.le_of_ble_eq_true rfl) dX6_init_5 (fun q1 => ?_)
  change KV G l p e s m args below meth c R _ _ _ _ _ _ _ (w0 ++ ((a, .inr (10, [.null, .null, .null, .null, .null, .null, .null, .null, .null, .int 0, .int 0, .int 0])) :: [(q1, .inr (7, [.null, .int 0, .int 0, .int 0, .int 0, .int 0, .int 0, .int 0]))]))
  refine k_dup C dX6_init_8 rfl ?_
  refine k_as (wr := ((a, .inr (10, [.null, .null, .null, .null, .null, .null, .null, .null, .null, .int 0, .int 0, .int 0])) :: [])) (x := [(q1, .inr (7, [.null, .int 0, .int 0, .int 0, .int 0, .int 0, .int 0, .int 0]))]) ?_
  refine k_callIN C (N := M_X3_init) (n := 0) (jc := 1) (js := 600) (kc' := 141) (ks' := 3802) (host := "BambooBlind") (av := []) (F := _) rfl (c_X3_init) i_X3_init rfl rfl rfl kii_3 (by decide +kernel) (by decide) (Nat.le_of_ble_eq_true rfl) (Nat.le_of_ble_eq_true rfl) (Nat.le_of_ble_eq_true rfl) dX6_init_9 (fun w hw => ?_)
  obtain ⟨r2, rfl⟩ := hw
  refine k_sa ?_
  change KV G l p e s m args below meth c R _ _ _ _ _ _ _ (w0 ++ ((a, .inr (10, [.null, .null, .null, .null, .null, .null, .null, .null, .null, .int 0, .int 0, .int 0])) :: X3w G q1 r2))
  refine k_putF (a := a) (ci := 10) (fs := [.null, .null, .null, .null, .null, .null, .null, .null, .null, .int 0, .int 0, .int 0]) (v := .ref q1) (j := 0) (k := 0) (T := TX6) C zin_6 tyX6 tyX6_ok nmX6 (by rfl) rfl (by decide) (zT_in 290 (by decide +kernel) (by decide +kernel)) rfl rfl hnm rfl rfl rfl rfl (Nat.le_of_ble_eq_true rfl) dX6_init_12 ?_
  change KV G l p e s m args below meth c R _ _ _ _ _ _ _ (w0 ++ ((a, .inr (10, [.ref q1, .null, .null, .null, .null, .null, .null, .null, .null, .int 0, .int 0, .int 0])) :: X3w G q1 r2))
  refine k_aload_n C dX6_init_15 rfl 0 rfl ?_
  refine k_new (ci := 8) (T := TX4) (kc' := 140) (ks' := 3791) C zin_4 tyX4 tyX4_ok (zT_in 99 (by decide +kernel) (by decide +kernel)) kmk_4 kin_4 rfl kdf_4 (Nat.le_of_ble_eq_true rfl) (Nat.le_of_ble_eq_true rfl) dX6_init_16 (fun q3 => ?_)
  change KV G l p e s m args below meth c R _ _ _ _ _ _ _ (w0 ++ ((a, .inr (10, [.ref q1, .null, .null, .null, .null, .null, .null, .null, .null, .int 0, .int 0, .int 0])) :: (X3w G q1 r2 ++ [(q3, .inr (8, [.null, .null, .int 0, .int 0, .int 0, .null, .null, .null, .null, .null, .null]))])))
  refine k_dup C dX6_init_19 rfl ?_
  refine k_aload_n C dX6_init_20 rfl 0 rfl ?_
  refine k_get (a := a) (ci := 10) (fs := [.ref q1, .null, .null, .null, .null, .null, .null, .null, .null, .int 0, .int 0, .int 0]) (j := 0) (k := 0) (T := TX6) C zin_6 (by rfl) rfl (by decide) (zT_in 290 (by decide +kernel) (by decide +kernel)) rfl rfl dX6_init_21 ?_
  refine k_as (wr := ((a, .inr (10, [.ref q1, .null, .null, .null, .null, .null, .null, .null, .null, .int 0, .int 0, .int 0])) :: X3w G q1 r2)) (x := [(q3, .inr (8, [.null, .null, .int 0, .int 0, .int 0, .null, .null, .null, .null, .null, .null]))]) ?_
  refine k_callI C (N := M_X4_init) (n := 1) (jc := 16) (js := 402) (kc' := 124) (ks' := 3389) (av := [.ref q1]) (F := _) rfl (c_X4_init) i_X4_init rfl rfl rfl kii_4 (zT_in 101 (by decide +kernel) (by decide +kernel)) (by decide) (Nat.le_of_ble_eq_true rfl) (Nat.le_of_ble_eq_true rfl) (Nat.le_of_ble_eq_true rfl) dX6_init_24 (fun w hw => ?_)
  obtain ⟨r4, rfl⟩ := hw
  refine k_sa ?_
  change KV G l p e s m args below meth c R _ _ _ _ _ _ _ (w0 ++ ((a, .inr (10, [.ref q1, .null, .null, .null, .null, .null, .null, .null, .null, .int 0, .int 0, .int 0])) :: (X3w G q1 r2 ++ X4w G q3 q1 r4)))
  refine k_putF (a := a) (ci := 10) (fs := [.ref q1, .null, .null, .null, .null, .null, .null, .null, .null, .int 0, .int 0, .int 0]) (v := .ref q3) (j := 0) (k := 1) (T := TX6) C zin_6 tyX6 tyX6_ok nmX6 (by rfl) rfl (by decide) (zT_in 291 (by decide +kernel) (by decide +kernel)) rfl rfl hnm rfl rfl rfl rfl (Nat.le_of_ble_eq_true rfl) dX6_init_27 ?_
  change KV G l p e s m args below meth c R _ _ _ _ _ _ _ (w0 ++ ((a, .inr (10, [.ref q1, .ref q3, .null, .null, .null, .null, .null, .null, .null, .int 0, .int 0, .int 0])) :: (X3w G q1 r2 ++ X4w G q3 q1 r4)))
  refine k_aload_n C dX6_init_30 rfl 0 rfl ?_
  refine k_new (ci := 6) (T := TX2) (kc' := 123) (ks' := 3381) C zin_2 tyX2 tyX2_ok (zT_in 218 (by decide +kernel) (by decide +kernel)) kmk_2 kin_2 rfl kdf_2 (Nat.le_of_ble_eq_true rfl) (Nat.le_of_ble_eq_true rfl) dX6_init_31 (fun q5 => ?_)
  change KV G l p e s m args below meth c R _ _ _ _ _ _ _ (w0 ++ ((a, .inr (10, [.ref q1, .ref q3, .null, .null, .null, .null, .null, .null, .null, .int 0, .int 0, .int 0])) :: ((X3w G q1 r2 ++ X4w G q3 q1 r4) ++ [(q5, .inr (6, [.null, .int 0, .null, .null, .null, .null, .null, .int 0]))])))
  refine k_dup C dX6_init_34 rfl ?_
  refine k_aload_n C dX6_init_35 rfl 0 rfl ?_
  refine k_get (a := a) (ci := 10) (fs := [.ref q1, .ref q3, .null, .null, .null, .null, .null, .null, .null, .int 0, .int 0, .int 0]) (j := 0) (k := 0) (T := TX6) C zin_6 (by rfl) rfl (by decide) (zT_in 290 (by decide +kernel) (by decide +kernel)) rfl rfl dX6_init_36 ?_
  refine k_as (wr := ((a, .inr (10, [.ref q1, .ref q3, .null, .null, .null, .null, .null, .null, .null, .int 0, .int 0, .int 0])) :: (X3w G q1 r2 ++ X4w G q3 q1 r4))) (x := [(q5, .inr (6, [.null, .int 0, .null, .null, .null, .null, .null, .int 0]))]) ?_
  refine k_callI C (N := M_X2_init) (n := 1) (jc := 35) (js := 242) (kc' := 88) (ks' := 3139) (av := [.ref q1]) (F := _) rfl (c_X2_init) i_X2_init rfl rfl rfl kii_2 (zT_in 220 (by decide +kernel) (by decide +kernel)) (by decide) (Nat.le_of_ble_eq_true rfl) (Nat.le_of_ble_eq_true rfl) (Nat.le_of_ble_eq_true rfl) dX6_init_39 (fun w hw => ?_)
  obtain ⟨r6, rr, rfl⟩ := hw
  refine k_sa ?_
  change KV G l p e s m args below meth c R _ _ _ _ _ _ _ (w0 ++ ((a, .inr (10, [.ref q1, .ref q3, .null, .null, .null, .null, .null, .null, .null, .int 0, .int 0, .int 0])) :: ((X3w G q1 r2 ++ X4w G q3 q1 r4) ++ X2w G q5 q1 r6 rr)))
  refine k_putF (a := a) (ci := 10) (fs := [.ref q1, .ref q3, .null, .null, .null, .null, .null, .null, .null, .int 0, .int 0, .int 0]) (v := .ref q5) (j := 0) (k := 2) (T := TX6) C zin_6 tyX6 tyX6_ok nmX6 (by rfl) rfl (by decide) (zT_in 292 (by decide +kernel) (by decide +kernel)) rfl rfl hnm rfl rfl rfl rfl (Nat.le_of_ble_eq_true rfl) dX6_init_42 ?_
  change KV G l p e s m args below meth c R _ _ _ _ _ _ _ (w0 ++ ((a, .inr (10, [.ref q1, .ref q3, .ref q5, .null, .null, .null, .null, .null, .null, .int 0, .int 0, .int 0])) :: ((X3w G q1 r2 ++ X4w G q3 q1 r4) ++ X2w G q5 q1 r6 rr)))
  refine k_aload_n C dX6_init_45 rfl 0 rfl ?_
  refine k_new (ci := 4) (T := TX0) (kc' := 87) (ks' := 3123) C zin_0 tyX0 tyX0_ok (zT_in 249 (by decide +kernel) (by decide +kernel)) kmk_0 kin_0 rfl kdf_0 (Nat.le_of_ble_eq_true rfl) (Nat.le_of_ble_eq_true rfl) dX6_init_46 (fun q7 => ?_)
  change KV G l p e s m args below meth c R _ _ _ _ _ _ _ (w0 ++ ((a, .inr (10, [.ref q1, .ref q3, .ref q5, .null, .null, .null, .null, .null, .null, .int 0, .int 0, .int 0])) :: (((X3w G q1 r2 ++ X4w G q3 q1 r4) ++ X2w G q5 q1 r6 rr) ++ [(q7, .inr (4, [.int 0, .int 0, .int 0, .int 0, .int 0, .int 0, .int 0, .null, .null, .null, .null, .null, .null, .null, .null, .null]))])))
  refine k_dup C dX6_init_49 rfl ?_
  refine k_as (wr := ((a, .inr (10, [.ref q1, .ref q3, .ref q5, .null, .null, .null, .null, .null, .null, .int 0, .int 0, .int 0])) :: ((X3w G q1 r2 ++ X4w G q3 q1 r4) ++ X2w G q5 q1 r6 rr))) (x := [(q7, .inr (4, [.int 0, .int 0, .int 0, .int 0, .int 0, .int 0, .int 0, .null, .null, .null, .null, .null, .null, .null, .null, .null]))]) ?_
  refine k_callIN C (N := M_X0_init) (n := 0) (jc := 9) (js := 290) (kc' := 78) (ks' := 2833) (host := "BambooBlind") (av := []) (F := _) rfl (c_X0_init) i_X0_init rfl rfl rfl kii_0 (by decide +kernel) (by decide) (Nat.le_of_ble_eq_true rfl) (Nat.le_of_ble_eq_true rfl) (Nat.le_of_ble_eq_true rfl) dX6_init_50 (fun w hw => ?_)
  obtain ⟨r8, rfl⟩ := hw
  refine k_sa ?_
  change KV G l p e s m args below meth c R _ _ _ _ _ _ _ (w0 ++ ((a, .inr (10, [.ref q1, .ref q3, .ref q5, .null, .null, .null, .null, .null, .null, .int 0, .int 0, .int 0])) :: (((X3w G q1 r2 ++ X4w G q3 q1 r4) ++ X2w G q5 q1 r6 rr) ++ X0w G q7 r8)))
  refine k_putF (a := a) (ci := 10) (fs := [.ref q1, .ref q3, .ref q5, .null, .null, .null, .null, .null, .null, .int 0, .int 0, .int 0]) (v := .ref q7) (j := 0) (k := 3) (T := TX6) C zin_6 tyX6 tyX6_ok nmX6 (by rfl) rfl (by decide) (zT_in 293 (by decide +kernel) (by decide +kernel)) rfl rfl hnm rfl rfl rfl rfl (Nat.le_of_ble_eq_true rfl) dX6_init_53 ?_
  change KV G l p e s m args below meth c R _ _ _ _ _ _ _ (w0 ++ ((a, .inr (10, [.ref q1, .ref q3, .ref q5, .ref q7, .null, .null, .null, .null, .null, .int 0, .int 0, .int 0])) :: (((X3w G q1 r2 ++ X4w G q3 q1 r4) ++ X2w G q5 q1 r6 rr) ++ X0w G q7 r8)))
  refine k_aload_n C dX6_init_56 rfl 0 rfl ?_
  refine k_new (ci := 4) (T := TX0) (kc' := 77) (ks' := 2817) C zin_0 tyX0 tyX0_ok (zT_in 249 (by decide +kernel) (by decide +kernel)) kmk_0 kin_0 rfl kdf_0 (Nat.le_of_ble_eq_true rfl) (Nat.le_of_ble_eq_true rfl) dX6_init_57 (fun q9 => ?_)
  change KV G l p e s m args below meth c R _ _ _ _ _ _ _ (w0 ++ ((a, .inr (10, [.ref q1, .ref q3, .ref q5, .ref q7, .null, .null, .null, .null, .null, .int 0, .int 0, .int 0])) :: ((((X3w G q1 r2 ++ X4w G q3 q1 r4) ++ X2w G q5 q1 r6 rr) ++ X0w G q7 r8) ++ [(q9, .inr (4, [.int 0, .int 0, .int 0, .int 0, .int 0, .int 0, .int 0, .null, .null, .null, .null, .null, .null, .null, .null, .null]))])))
  refine k_dup C dX6_init_60 rfl ?_
  refine k_as (wr := ((a, .inr (10, [.ref q1, .ref q3, .ref q5, .ref q7, .null, .null, .null, .null, .null, .int 0, .int 0, .int 0])) :: (((X3w G q1 r2 ++ X4w G q3 q1 r4) ++ X2w G q5 q1 r6 rr) ++ X0w G q7 r8))) (x := [(q9, .inr (4, [.int 0, .int 0, .int 0, .int 0, .int 0, .int 0, .int 0, .null, .null, .null, .null, .null, .null, .null, .null, .null]))]) ?_
  refine k_callIN C (N := M_X0_init) (n := 0) (jc := 9) (js := 290) (kc' := 68) (ks' := 2527) (host := "BambooBlind") (av := []) (F := _) rfl (c_X0_init) i_X0_init rfl rfl rfl kii_0 (by decide +kernel) (by decide) (Nat.le_of_ble_eq_true rfl) (Nat.le_of_ble_eq_true rfl) (Nat.le_of_ble_eq_true rfl) dX6_init_61 (fun w hw => ?_)
  obtain ⟨r10, rfl⟩ := hw
  refine k_sa ?_
  change KV G l p e s m args below meth c R _ _ _ _ _ _ _ (w0 ++ ((a, .inr (10, [.ref q1, .ref q3, .ref q5, .ref q7, .null, .null, .null, .null, .null, .int 0, .int 0, .int 0])) :: ((((X3w G q1 r2 ++ X4w G q3 q1 r4) ++ X2w G q5 q1 r6 rr) ++ X0w G q7 r8) ++ X0w G q9 r10)))
  refine k_putF (a := a) (ci := 10) (fs := [.ref q1, .ref q3, .ref q5, .ref q7, .null, .null, .null, .null, .null, .int 0, .int 0, .int 0]) (v := .ref q9) (j := 0) (k := 4) (T := TX6) C zin_6 tyX6 tyX6_ok nmX6 (by rfl) rfl (by decide) (zT_in 294 (by decide +kernel) (by decide +kernel)) rfl rfl hnm rfl rfl rfl rfl (Nat.le_of_ble_eq_true rfl) dX6_init_64 ?_
  change KV G l p e s m args below meth c R _ _ _ _ _ _ _ (w0 ++ ((a, .inr (10, [.ref q1, .ref q3, .ref q5, .ref q7, .ref q9, .null, .null, .null, .null, .int 0, .int 0, .int 0])) :: ((((X3w G q1 r2 ++ X4w G q3 q1 r4) ++ X2w G q5 q1 r6 rr) ++ X0w G q7 r8) ++ X0w G q9 r10)))
  refine k_aload_n C dX6_init_67 rfl 0 rfl ?_
  refine k_new (ci := 5) (T := TX1) (kc' := 67) (ks' := 2524) C zin_1 tyX1 tyX1_ok (zT_in 251 (by decide +kernel) (by decide +kernel)) kmk_1 kin_1 rfl kdf_1 (Nat.le_of_ble_eq_true rfl) (Nat.le_of_ble_eq_true rfl) dX6_init_68 (fun q11 => ?_)
  change KV G l p e s m args below meth c R _ _ _ _ _ _ _ (w0 ++ ((a, .inr (10, [.ref q1, .ref q3, .ref q5, .ref q7, .ref q9, .null, .null, .null, .null, .int 0, .int 0, .int 0])) :: (((((X3w G q1 r2 ++ X4w G q3 q1 r4) ++ X2w G q5 q1 r6 rr) ++ X0w G q7 r8) ++ X0w G q9 r10) ++ [(q11, .inr (5, [.null, .int 0, .int 0]))])))
  refine k_dup C dX6_init_71 rfl ?_
  refine k_as (wr := ((a, .inr (10, [.ref q1, .ref q3, .ref q5, .ref q7, .ref q9, .null, .null, .null, .null, .int 0, .int 0, .int 0])) :: ((((X3w G q1 r2 ++ X4w G q3 q1 r4) ++ X2w G q5 q1 r6 rr) ++ X0w G q7 r8) ++ X0w G q9 r10))) (x := [(q11, .inr (5, [.null, .int 0, .int 0]))]) ?_
  refine k_callI C (N := M_X1_init) (n := 0) (jc := 61) (js := 1842) (kc' := 6) (ks' := 682) (av := []) (F := _) rfl (c_X1_init) i_X1_init rfl rfl rfl kii_1 (zT_in 253 (by decide +kernel) (by decide +kernel)) (by decide) (Nat.le_of_ble_eq_true rfl) (Nat.le_of_ble_eq_true rfl) (Nat.le_of_ble_eq_true rfl) dX6_init_72 (fun w hw => ?_)
  obtain ⟨r12, rfl⟩ := hw
  refine k_sa ?_
  change KV G l p e s m args below meth c R _ _ _ _ _ _ _ (w0 ++ ((a, .inr (10, [.ref q1, .ref q3, .ref q5, .ref q7, .ref q9, .null, .null, .null, .null, .int 0, .int 0, .int 0])) :: (((((X3w G q1 r2 ++ X4w G q3 q1 r4) ++ X2w G q5 q1 r6 rr) ++ X0w G q7 r8) ++ X0w G q9 r10) ++ X1w G q11 r12)))
  refine k_putF (a := a) (ci := 10) (fs := [.ref q1, .ref q3, .ref q5, .ref q7, .ref q9, .null, .null, .null, .null, .int 0, .int 0, .int 0]) (v := .ref q11) (j := 0) (k := 5) (T := TX6) C zin_6 tyX6 tyX6_ok nmX6 (by rfl) rfl (by decide) (zT_in 295 (by decide +kernel) (by decide +kernel)) rfl rfl hnm rfl rfl rfl rfl (Nat.le_of_ble_eq_true rfl) dX6_init_75 ?_
  change KV G l p e s m args below meth c R _ _ _ _ _ _ _ (w0 ++ ((a, .inr (10, [.ref q1, .ref q3, .ref q5, .ref q7, .ref q9, .ref q11, .null, .null, .null, .int 0, .int 0, .int 0])) :: (((((X3w G q1 r2 ++ X4w G q3 q1 r4) ++ X2w G q5 q1 r6 rr) ++ X0w G q7 r8) ++ X0w G q9 r10) ++ X1w G q11 r12)))
  refine k_aload_n C dX6_init_78 rfl 0 rfl ?_
  refine k_new (ci := 9) (T := TX5) (kc' := 5) (ks' := 678) C zin_5 tyX5 tyX5_ok (zT_in 271 (by decide +kernel) (by decide +kernel)) kmk_5 kin_5 rfl kdf_5 (Nat.le_of_ble_eq_true rfl) (Nat.le_of_ble_eq_true rfl) dX6_init_79 (fun q13 => ?_)
  change KV G l p e s m args below meth c R _ _ _ _ _ _ _ (w0 ++ ((a, .inr (10, [.ref q1, .ref q3, .ref q5, .ref q7, .ref q9, .ref q11, .null, .null, .null, .int 0, .int 0, .int 0])) :: ((((((X3w G q1 r2 ++ X4w G q3 q1 r4) ++ X2w G q5 q1 r6 rr) ++ X0w G q7 r8) ++ X0w G q9 r10) ++ X1w G q11 r12) ++ [(q13, .inr (9, [.null, .null, .null, .null]))])))
  refine k_dup C dX6_init_82 rfl ?_
  refine k_aload_n C dX6_init_83 rfl 0 rfl ?_
  refine k_get (a := a) (ci := 10) (fs := [.ref q1, .ref q3, .ref q5, .ref q7, .ref q9, .ref q11, .null, .null, .null, .int 0, .int 0, .int 0]) (j := 0) (k := 3) (T := TX6) C zin_6 (by rfl) rfl (by decide) (zT_in 293 (by decide +kernel) (by decide +kernel)) rfl rfl dX6_init_84 ?_
  refine k_as (wr := ((a, .inr (10, [.ref q1, .ref q3, .ref q5, .ref q7, .ref q9, .ref q11, .null, .null, .null, .int 0, .int 0, .int 0])) :: (((((X3w G q1 r2 ++ X4w G q3 q1 r4) ++ X2w G q5 q1 r6 rr) ++ X0w G q7 r8) ++ X0w G q9 r10) ++ X1w G q11 r12))) (x := [(q13, .inr (9, [.null, .null, .null, .null]))]) ?_
  refine k_callI C (N := M_X5_init) (n := 1) (jc := 3) (js := 180) (kc' := 2) (ks' := 498) (av := [.ref q7]) (F := _) rfl (c_X5_init) i_X5_init rfl rfl rfl kii_5 (zT_in 273 (by decide +kernel) (by decide +kernel)) (by decide) (Nat.le_of_ble_eq_true rfl) (Nat.le_of_ble_eq_true rfl) (Nat.le_of_ble_eq_true rfl) dX6_init_87 (fun w hw => ?_)
  obtain ⟨r14, rfl⟩ := hw
  refine k_sa ?_
  change KV G l p e s m args below meth c R _ _ _ _ _ _ _ (w0 ++ ((a, .inr (10, [.ref q1, .ref q3, .ref q5, .ref q7, .ref q9, .ref q11, .null, .null, .null, .int 0, .int 0, .int 0])) :: ((((((X3w G q1 r2 ++ X4w G q3 q1 r4) ++ X2w G q5 q1 r6 rr) ++ X0w G q7 r8) ++ X0w G q9 r10) ++ X1w G q11 r12) ++ X5w G q13 q7 r14)))
  refine k_putF (a := a) (ci := 10) (fs := [.ref q1, .ref q3, .ref q5, .ref q7, .ref q9, .ref q11, .null, .null, .null, .int 0, .int 0, .int 0]) (v := .ref q13) (j := 0) (k := 6) (T := TX6) C zin_6 tyX6 tyX6_ok nmX6 (by rfl) rfl (by decide) (zT_in 296 (by decide +kernel) (by decide +kernel)) rfl rfl hnm rfl rfl rfl rfl (Nat.le_of_ble_eq_true rfl) dX6_init_90 ?_
  change KV G l p e s m args below meth c R _ _ _ _ _ _ _ (w0 ++ ((a, .inr (10, [.ref q1, .ref q3, .ref q5, .ref q7, .ref q9, .ref q11, .ref q13, .null, .null, .int 0, .int 0, .int 0])) :: ((((((X3w G q1 r2 ++ X4w G q3 q1 r4) ++ X2w G q5 q1 r6 rr) ++ X0w G q7 r8) ++ X0w G q9 r10) ++ X1w G q11 r12) ++ X5w G q13 q7 r14)))
  refine k_aload_n C dX6_init_93 rfl 0 rfl ?_
  refine k_bipush C (v := 10) dX6_init_94 (by decide) ?_
  refine k_newa (atype := .int) (t := 0) (N := 10) (a0 := (10, .inl (fun _ => 0))) (kc' := 1) (ks' := 488) C kc_int rfl rfl (fun _ _ h => h) (fun _ => rfl) (by decide) (by decide) (by decide +kernel) (by decide +kernel) (by decide +kernel) dX6_init_96 (fun q15 => ?_)
  change KV G l p e s m args below meth c R _ _ _ _ _ _ _ (w0 ++ ((a, .inr (10, [.ref q1, .ref q3, .ref q5, .ref q7, .ref q9, .ref q11, .ref q13, .null, .null, .int 0, .int 0, .int 0])) :: (((((((X3w G q1 r2 ++ X4w G q3 q1 r4) ++ X2w G q5 q1 r6 rr) ++ X0w G q7 r8) ++ X0w G q9 r10) ++ X1w G q11 r12) ++ X5w G q13 q7 r14) ++ [(q15, .inl (G.1.2.1 0, 10, .inl (fun _ => 0)))])))
  refine k_putF (a := a) (ci := 10) (fs := [.ref q1, .ref q3, .ref q5, .ref q7, .ref q9, .ref q11, .ref q13, .null, .null, .int 0, .int 0, .int 0]) (v := .ref q15) (j := 0) (k := 7) (T := TX6) C zin_6 tyX6 tyX6_ok nmX6 (by rfl) rfl (by decide) (zT_in 297 (by decide +kernel) (by decide +kernel)) rfl rfl hnm rfl rfl rfl rfl (Nat.le_of_ble_eq_true rfl) dX6_init_98 ?_
  change KV G l p e s m args below meth c R _ _ _ _ _ _ _ (w0 ++ ((a, .inr (10, [.ref q1, .ref q3, .ref q5, .ref q7, .ref q9, .ref q11, .ref q13, .ref q15, .null, .int 0, .int 0, .int 0])) :: (((((((X3w G q1 r2 ++ X4w G q3 q1 r4) ++ X2w G q5 q1 r6 rr) ++ X0w G q7 r8) ++ X0w G q9 r10) ++ X1w G q11 r12) ++ X5w G q13 q7 r14) ++ [(q15, .inl (G.1.2.1 0, 10, .inl (fun _ => 0)))])))
  refine k_aload_n C dX6_init_101 rfl 0 rfl ?_
  refine k_sipush C (v := 488) dX6_init_102 (by decide) ?_
  refine k_newa (atype := .byte) (t := 1) (N := 488) (a0 := (488, .inl (fun _ => 0))) (kc' := 0) (ks' := 0) C kc_byte rfl rfl (fun _ _ h => h) (fun _ => rfl) (by decide) (by decide) (by decide +kernel) (by decide +kernel) (by decide +kernel) dX6_init_105 (fun q16 => ?_)
  change KV G l p e s m args below meth c R _ _ _ _ _ _ _ (w0 ++ ((a, .inr (10, [.ref q1, .ref q3, .ref q5, .ref q7, .ref q9, .ref q11, .ref q13, .ref q15, .null, .int 0, .int 0, .int 0])) :: ((((((((X3w G q1 r2 ++ X4w G q3 q1 r4) ++ X2w G q5 q1 r6 rr) ++ X0w G q7 r8) ++ X0w G q9 r10) ++ X1w G q11 r12) ++ X5w G q13 q7 r14) ++ [(q15, .inl (G.1.2.1 0, 10, .inl (fun _ => 0)))]) ++ [(q16, .inl (G.1.2.1 1, 488, .inl (fun _ => 0)))])))
  refine k_putF (a := a) (ci := 10) (fs := [.ref q1, .ref q3, .ref q5, .ref q7, .ref q9, .ref q11, .ref q13, .ref q15, .null, .int 0, .int 0, .int 0]) (v := .ref q16) (j := 0) (k := 8) (T := TX6) C zin_6 tyX6 tyX6_ok nmX6 (by rfl) rfl (by decide) (zT_in 298 (by decide +kernel) (by decide +kernel)) rfl rfl hnm rfl rfl rfl rfl (Nat.le_of_ble_eq_true rfl) dX6_init_107 ?_
  change KV G l p e s m args below meth c R _ _ _ _ _ _ _ (w0 ++ ((a, .inr (10, [.ref q1, .ref q3, .ref q5, .ref q7, .ref q9, .ref q11, .ref q13, .ref q15, .ref q16, .int 0, .int 0, .int 0])) :: ((((((((X3w G q1 r2 ++ X4w G q3 q1 r4) ++ X2w G q5 q1 r6 rr) ++ X0w G q7 r8) ++ X0w G q9 r10) ++ X1w G q11 r12) ++ X5w G q13 q7 r14) ++ [(q15, .inl (G.1.2.1 0, 10, .inl (fun _ => 0)))]) ++ [(q16, .inl (G.1.2.1 1, 488, .inl (fun _ => 0)))])))
  refine k_ret C dX6_init_110 ⟨fun i => List.getD [q1, (r2 0), q3, (r4 0), (r4 1), (r4 2), (r4 3), (r4 4), (r4 5), (r4 6), (r4 7), (r4 8), (r4 9), (r4 10), (r4 11), (r4 12), (r4 13), (r4 14), (r4 15), q5, (r6 0), (r6 1), (r6 2), (r6 3), (r6 4), q7, (r8 0), (r8 1), (r8 2), (r8 3), (r8 4), (r8 5), (r8 6), (r8 7), (r8 8), q9, (r10 0), (r10 1), (r10 2), (r10 3), (r10 4), (r10 5), (r10 6), (r10 7), (r10 8), q11, (r12 0), (r12 1), (r12 2), (r12 3), (r12 4), (r12 5), (r12 6), (r12 7), (r12 8), (r12 9), (r12 10), (r12 11), (r12 12), (r12 13), (r12 14), (r12 15), (r12 16), (r12 17), (r12 18), (r12 19), (r12 20), (r12 21), (r12 22), (r12 23), (r12 24), (r12 25), (r12 26), (r12 27), (r12 28), (r12 29), (r12 30), (r12 31), (r12 32), (r12 33), (r12 34), (r12 35), (r12 36), (r12 37), (r12 38), (r12 39), (r12 40), (r12 41), (r12 42), (r12 43), (r12 44), (r12 45), (r12 46), (r12 47), (r12 48), (r12 49), (r12 50), (r12 51), (r12 52), (r12 53), (r12 54), (r12 55), (r12 56), (r12 57), (r12 58), (r12 59), (r12 60), q13, (r14 0), (r14 1), (r14 2), q15, q16] i 0, rr, ?_⟩
  exact congrArg (fun z => w0 ++ z) rfl
end ZKc99nb
