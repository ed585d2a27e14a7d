/-! the history (made by cons.py) -/
section ZKc99na
variable {G : fG} {l : Launch} {w0 : va_W}
def X1w (G : fG) (a : Nat) (r : Nat → Nat) : va_W := ((a, .inr (5, [.ref (r 0), .int 0, .int 0])) :: (((((([((r 0), .inl (G.1.2.1 3, 6, .inr (.inr (.inr (.inr (va_up (va_up (va_up (va_up (va_up (va_up (fun _ => none) 0 (some (r 1))) 1 (some (r 11))) 2 (some (r 21))) 3 (some (r 31))) 4 (some (r 41))) 5 (some (r 51))))))))] ++ X0w G (r 1) (fun i => r (i + 2))) ++ X0w G (r 11) (fun i => r (i + 12))) ++ X0w G (r 21) (fun i => r (i + 22))) ++ X0w G (r 31) (fun i => r (i + 32))) ++ X0w G (r 41) (fun i => r (i + 42))) ++ X0w G (r 51) (fun i => r (i + 52))))
abbrev M_X1_init : zM := (yX1_init, cX1_init, 2, none, 3, [])
theorem i_X1_init : zIn M_X1_init 0 := ⟨zT_in 255 (by decide +kernel) (by decide +kernel), kin_1, ⟨by decide, by decide⟩, by decide +kernel, by decide⟩
set_option maxRecDepth 20000 in
theorem c_X1_init {a : Nat} : KC G l M_X1_init 61 1842 [.ref a] (w0 ++ [(a, .inr (5, [.null, .int 0, .int 0]))]) (fun w => ∃ r : Nat → Nat, w = w0 ++ X1w G a r) := by
  refine KC_of rfl (Nat.le_of_ble_eq_true rfl) ?_
  intro p e s m args below meth c R hnm C
  change KV _ _ _ _ _ _ _ _ _ _ _ _ _ _ _ _ [(0, .ref a)] _ _
  refine k_aload_n C dX1_init_0 rfl 0 rfl ?_
  refine k_obj C (zT_in 256 (by decide +kernel) (by decide +kernel)) koi_i koi_c (by decide) (Nat.le_of_ble_eq_true rfl) dX1_init_1 ?_
  refine k_aload_n C dX1_init_4 rfl 0 rfl ?_
  refine k_bipush C (v := 6) dX1_init_5 (by decide) ?_
  refine k_newq (N := 6) (kc' := 60) (ks' := 1836) C (zT_in 257 (by decide +kernel) (by decide +kernel)) (by decide) (by decide) (Nat.le_of_ble_eq_true rfl) (Nat.le_of_ble_eq_true rfl) (Nat.le_of_ble_eq_true rfl) dX1_init_7 (fun q1 => ?_)
  change KV G l p e s m args below meth c R _ _ _ _ _ _ _ (w0 ++ ((a, .inr (5, [.null, .int 0, .int 0])) :: [(q1, .inl (G.1.2.1 3, 6, .inr (.inr (.inr (.inr (fun _ => none))))))]))
  refine k_putF (a := a) (ci := 5) (fs := [.null, .int 0, .int 0]) (v := .ref q1) (j := 0) (k := 0) (T := TX1) C zin_1 tyX1 tyX1_ok nmX1 (by rfl) rfl (by decide) (zT_in 260 (by decide +kernel) (by decide +kernel)) rfl rfl hnm rfl rfl rfl rfl (Nat.le_of_ble_eq_true rfl) dX1_init_10 ?_
  change KV G l p e s m args below meth c R _ _ _ _ _ _ _ (w0 ++ ((a, .inr (5, [.ref q1, .int 0, .int 0])) :: [(q1, .inl (G.1.2.1 3, 6, .inr (.inr (.inr (.inr (fun _ => none))))))]))
  refine k_iconst C (v := 0) dX1_init_13 rfl ?_
  refine k_istore_n C (ls' := [(1, .int 0), (0, .ref a)]) dX1_init_14 rfl (by decide) rfl ?_
  refine k_iload_n C dX1_init_15 rfl 0 rfl ?_
  refine k_bipush C (v := 6) dX1_init_16 (by decide) ?_
  refine k_icmp_ge C (tgt := 40) dX1_init_18 (by decide) (fun h => absurd h (by decide)) (fun _ => ?_)
  refine k_aload_n C dX1_init_21 rfl 1 rfl ?_
  refine k_get (a := a) (ci := 5) (fs := [.ref q1, .int 0, .int 0]) (j := 0) (k := 0) (T := TX1) C zin_1 (by rfl) rfl (by decide) (zT_in 260 (by decide +kernel) (by decide +kernel)) rfl rfl dX1_init_22 ?_
  refine k_iload_n C dX1_init_25 rfl 0 rfl ?_
  refine k_new (ci := 4) (T := TX0) (kc' := 59) (ks' := 1820) C zin_0 tyX0 tyX0_ok (zT_in 257 (by decide +kernel) (by decide +kernel)) kmk_0 kin_0 rfl kdf_0 (Nat.le_of_ble_eq_true rfl) (Nat.le_of_ble_eq_true rfl) dX1_init_26 (fun q2 => ?_)
  change KV G l p e s m args below meth c R _ _ _ _ _ _ _ (w0 ++ ((a, .inr (5, [.ref q1, .int 0, .int 0])) :: ([(q1, .inl (G.1.2.1 3, 6, .inr (.inr (.inr (.inr (fun _ => none))))))] ++ [(q2, .inr (4, [.int 0, .int 0, .int 0, .int 0, .int 0, .int 0, .int 0, .null, .null, .null, .null, .null, .null, .null, .null, .null]))])))
  refine k_dup C dX1_init_29 rfl ?_
  refine k_as (wr := ((a, .inr (5, [.ref q1, .int 0, .int 0])) :: [(q1, .inl (G.1.2.1 3, 6, .inr (.inr (.inr (.inr (fun _ => none))))))])) (x := [(q2, .inr (4, [.int 0, .int 0, .int 0, .int 0, .int 0, .int 0, .int 0, .null, .null, .null, .null, .null, .null, .null, .null, .null]))]) ?_
  refine k_callIN C (N := M_X0_init) (n := 0) (jc := 9) (js := 290) (kc' := 50) (ks' := 1530) (host := "BambooBlind") (av := []) (F := _) rfl (c_X0_init) i_X0_init rfl rfl rfl kii_0 (by decide +kernel) (by decide) (Nat.le_of_ble_eq_true rfl) (Nat.le_of_ble_eq_true rfl) (Nat.le_of_ble_eq_true rfl) dX1_init_30 (fun w hw => ?_)
  obtain ⟨r3, rfl⟩ := hw
  refine k_sa ?_
  change KV G l p e s m args below meth c R _ _ _ _ _ _ _ (w0 ++ ((a, .inr (5, [.ref q1, .int 0, .int 0])) :: ([(q1, .inl (G.1.2.1 3, 6, .inr (.inr (.inr (.inr (fun _ => none))))))] ++ X0w G q2 r3)))
  refine k_aast (f := (fun _ => none)) (a := q1) (n := 6) (v := q2) (j := 1) (q := 2) (i := 0) C (by rfl) (by rfl) (by exact iI_in (z := 0) (by omega) (by omega) (by omega)) dX1_init_33 ?_
  change KV G l p e s m args below meth c R _ _ _ _ _ _ _ (w0 ++ ((a, .inr (5, [.ref q1, .int 0, .int 0])) :: ([(q1, .inl (G.1.2.1 3, 6, .inr (.inr (.inr (.inr (va_up (fun _ => none) 0 (some q2)))))))] ++ X0w G q2 r3)))
  refine k_iinc C (j := 0) (v := 1) (ls' := [(1, .int 1), (0, .ref a)]) dX1_init_34 rfl (by decide) (by decide) rfl ?_
  refine k_goto C (tgt := 15) dX1_init_37 (by decide) ?_
  refine k_iload_n C dX1_init_15 rfl 0 rfl ?_
  refine k_bipush C (v := 6) dX1_init_16 (by decide) ?_
  refine k_icmp_ge C (tgt := 40) dX1_init_18 (by decide) (fun h => absurd h (by decide)) (fun _ => ?_)
  refine k_aload_n C dX1_init_21 rfl 1 rfl ?_
  refine k_get (a := a) (ci := 5) (fs := [.ref q1, .int 0, .int 0]) (j := 0) (k := 0) (T := TX1) C zin_1 (by rfl) rfl (by decide) (zT_in 260 (by decide +kernel) (by decide +kernel)) rfl rfl dX1_init_22 ?_
  refine k_iload_n C dX1_init_25 rfl 0 rfl ?_
  refine k_new (ci := 4) (T := TX0) (kc' := 49) (ks' := 1514) C zin_0 tyX0 tyX0_ok (zT_in 257 (by decide +kernel) (by decide +kernel)) kmk_0 kin_0 rfl kdf_0 (Nat.le_of_ble_eq_true rfl) (Nat.le_of_ble_eq_true rfl) dX1_init_26 (fun q4 => ?_)
  change KV G l p e s m args below meth c R _ _ _ _ _ _ _ (w0 ++ ((a, .inr (5, [.ref q1, .int 0, .int 0])) :: (([(q1, .inl (G.1.2.1 3, 6, .inr (.inr (.inr (.inr (va_up (fun _ => none) 0 (some q2)))))))] ++ X0w G q2 r3) ++ [(q4, .inr (4, [.int 0, .int 0, .int 0, .int 0, .int 0, .int 0, .int 0, .null, .null, .null, .null, .null, .null, .null, .null, .null]))])))
  refine k_dup C dX1_init_29 rfl ?_
  refine k_as (wr := ((a, .inr (5, [.ref q1, .int 0, .int 0])) :: ([(q1, .inl (G.1.2.1 3, 6, .inr (.inr (.inr (.inr (va_up (fun _ => none) 0 (some q2)))))))] ++ X0w G q2 r3))) (x := [(q4, .inr (4, [.int 0, .int 0, .int 0, .int 0, .int 0, .int 0, .int 0, .null, .null, .null, .null, .null, .null, .null, .null, .null]))]) ?_
  refine k_callIN C (N := M_X0_init) (n := 0) (jc := 9) (js := 290) (kc' := 40) (ks' := 1224) (host := "BambooBlind") (av := []) (F := _) rfl (c_X0_init) i_X0_init rfl rfl rfl kii_0 (by decide +kernel) (by decide) (Nat.le_of_ble_eq_true rfl) (Nat.le_of_ble_eq_true rfl) (Nat.le_of_ble_eq_true rfl) dX1_init_30 (fun w hw => ?_)
  obtain ⟨r5, rfl⟩ := hw
  refine k_sa ?_
  change KV G l p e s m args below meth c R _ _ _ _ _ _ _ (w0 ++ ((a, .inr (5, [.ref q1, .int 0, .int 0])) :: (([(q1, .inl (G.1.2.1 3, 6, .inr (.inr (.inr (.inr (va_up (fun _ => none) 0 (some q2)))))))] ++ X0w G q2 r3) ++ X0w G q4 r5)))
  refine k_aast (f := (va_up (fun _ => none) 0 (some q2))) (a := q1) (n := 6) (v := q4) (j := 1) (q := 12) (i := 1) C (by rfl) (by rfl) (by exact iI_in (z := 1) (by omega) (by omega) (by omega)) dX1_init_33 ?_
  change KV G l p e s m args below meth c R _ _ _ _ _ _ _ (w0 ++ ((a, .inr (5, [.ref q1, .int 0, .int 0])) :: (([(q1, .inl (G.1.2.1 3, 6, .inr (.inr (.inr (.inr (va_up (va_up (fun _ => none) 0 (some q2)) 1 (some q4)))))))] ++ X0w G q2 r3) ++ X0w G q4 r5)))
  refine k_iinc C (j := 0) (v := 2) (ls' := [(1, .int 2), (0, .ref a)]) dX1_init_34 rfl (by decide) (by decide) rfl ?_
  refine k_goto C (tgt := 15) dX1_init_37 (by decide) ?_
  refine k_iload_n C dX1_init_15 rfl 0 rfl ?_
  refine k_bipush C (v := 6) dX1_init_16 (by decide) ?_
  refine k_icmp_ge C (tgt := 40) dX1_init_18 (by decide) (fun h => absurd h (by decide)) (fun _ => ?_)
  refine k_aload_n C dX1_init_21 rfl 1 rfl ?_
  refine k_get (a := a) (ci := 5) (fs := [.ref q1, .int 0, .int 0]) (j := 0) (k := 0) (T := TX1) C zin_1 (by rfl) rfl (by decide) (zT_in 260 (by decide +kernel) (by decide +kernel)) rfl rfl dX1_init_22 ?_
  refine k_iload_n C dX1_init_25 rfl 0 rfl ?_
  refine k_new (ci := 4) (T := TX0) (kc' := 39) (ks' := 1208) C zin_0 tyX0 tyX0_ok (zT_in 257 (by decide +kernel) (by decide +kernel)) kmk_0 kin_0 rfl kdf_0 (Nat.le_of_ble_eq_true rfl) (Nat.le_of_ble_eq_true rfl) dX1_init_26 (fun q6 => ?_)
  change KV G l p e s m args below meth c R _ _ _ _ _ _ _ (w0 ++ ((a, .inr (5, [.ref q1, .int 0, .int 0])) :: ((([(q1, .inl (G.1.2.1 3, 6, .inr (.inr (.inr (.inr (va_up (va_up (fun _ => none) 0 (some q2)) 1 (some q4)))))))] ++ X0w G q2 r3) ++ X0w G q4 r5) ++ [(q6, .inr (4, [.int 0, .int 0, .int 0, .int 0, .int 0, .int 0, .int 0, .null, .null, .null, .null, .null, .null, .null, .null, .null]))])))
  refine k_dup C dX1_init_29 rfl ?_
  refine k_as (wr := ((a, .inr (5, [.ref q1, .int 0, .int 0])) :: (([(q1, .inl (G.1.2.1 3, 6, .inr (.inr (.inr (.inr (va_up (va_up (fun _ => none) 0 (some q2)) 1 (some q4)))))))] ++ X0w G q2 r3) ++ X0w G q4 r5))) (x := [(q6, .inr (4, [.int 0, .int 0, .int 0, .int 0, .int 0, .int 0, .int 0, .null, .null, .null, .null, .null, .null, .null, .null, .null]))]) ?_
  refine k_callIN C (N := M_X0_init) (n := 0) (jc := 9) (js := 290) (kc' := 30) (ks' := 918) (host := "BambooBlind") (av := []) (F := _) rfl (c_X0_init) i_X0_init rfl rfl rfl kii_0 (by decide +kernel) (by decide) (Nat.le_of_ble_eq_true rfl) (Nat.le_of_ble_eq_true rfl) (Nat.le_of_ble_eq_true rfl) dX1_init_30 (fun w hw => ?_)
  obtain ⟨r7, rfl⟩ := hw
  refine k_sa ?_
  change KV G l p e s m args below meth c R _ _ _ _ _ _ _ (w0 ++ ((a, .inr (5, [.ref q1, .int 0, .int 0])) :: ((([(q1, .inl (G.1.2.1 3, 6, .inr (.inr (.inr (.inr (va_up (va_up (fun _ => none) 0 (some q2)) 1 (some q4)))))))] ++ X0w G q2 r3) ++ X0w G q4 r5) ++ X0w G q6 r7)))
  refine k_aast (f := (va_up (va_up (fun _ => none) 0 (some q2)) 1 (some q4))) (a := q1) (n := 6) (v := q6) (j := 1) (q := 22) (i := 2) C (by rfl) (by rfl) (by exact iI_in (z := 2) (by omega) (by omega) (by omega)) dX1_init_33 ?_
  change KV G l p e s m args below meth c R _ _ _ _ _ _ _ (w0 ++ ((a, .inr (5, [.ref q1, .int 0, .int 0])) :: ((([(q1, .inl (G.1.2.1 3, 6, .inr (.inr (.inr (.inr (va_up (va_up (va_up (fun _ => none) 0 (some q2)) 1 (some q4)) 2 (some q6)))))))] ++ X0w G q2 r3) ++ X0w G q4 r5) ++ X0w G q6 r7)))
  refine k_iinc C (j := 0) (v := 3) (ls' := [(1, .int 3), (0, .ref a)]) dX1_init_34 rfl (by decide) (by decide) rfl ?_
  refine k_goto C (tgt := 15) dX1_init_37 (by decide) ?_
  refine k_iload_n C dX1_init_15 rfl 0 rfl ?_
  refine k_bipush C (v := 6) dX1_init_16 (by decide) ?_
  refine k_icmp_ge C (tgt := 40) dX1_init_18 (by decide) (fun h => absurd h (by decide)) (fun _ => ?_)
  refine k_aload_n C dX1_init_21 rfl 1 rfl ?_
  refine k_get (a := a) (ci := 5) (fs := [.ref q1, .int 0, .int 0]) (j := 0) (k := 0) (T := TX1) C zin_1 (by rfl) rfl (by decide) (zT_in 260 (by decide +kernel) (by decide +kernel)) rfl rfl dX1_init_22 ?_
  refine k_iload_n C dX1_init_25 rfl 0 rfl ?_
  refine k_new (ci := 4) (T := TX0) (kc' := 29) (ks' := 902) C zin_0 tyX0 tyX0_ok (zT_in 257 (by decide +kernel) (by decide +kernel)) kmk_0 kin_0 rfl kdf_0 (Nat.le_of_ble_eq_true rfl) (Nat.le_of_ble_eq_true rfl) dX1_init_26 (fun q8 => ?_)
  change KV G l p e s m args below meth c R _ _ _ _ _ _ _ (w0 ++ ((a, .inr (5, [.ref q1, .int 0, .int 0])) :: (((([(q1, .inl (G.1.2.1 3, 6, .inr (.inr (.inr (.inr (va_up (va_up (va_up (fun _ => none) 0 (some q2)) 1 (some q4)) 2 (some q6)))))))] ++ X0w G q2 r3) ++ X0w G q4 r5) ++ X0w G q6 r7) ++ [(q8, .inr (4, [.int 0, .int 0, .int 0, .int 0, .int 0, .int 0, .int 0, .null, .null, .null, .null, .null, .null, .null, .null, .null]))])))
  refine k_dup C dX1_init_29 rfl ?_
  refine k_as (wr := ((a, .inr (5, [.ref q1, .int 0, .int 0])) :: ((([(q1, .inl (G.1.2.1 3, 6, .inr (.inr (.inr (.inr (va_up (va_up (va_up (fun _ => none) 0 (some q2)) 1 (some q4)) 2 (some q6)))))))] ++ X0w G q2 r3) ++ X0w G q4 r5) ++ X0w G q6 r7))) (x := [(q8, .inr (4, [.int 0, .int 0, .int 0, .int 0, .int 0, .int 0, .int 0, .null, .null, .null, .null, .null, .null, .null, .null, .null]))]) ?_
  refine k_callIN C (N := M_X0_init) (n := 0) (jc := 9) (js := 290) (kc' := 20) (ks' := 612) (host := "BambooBlind") (av := []) (F := _) rfl (c_X0_init) i_X0_init rfl rfl rfl kii_0 (by decide +kernel) (by decide) (Nat.le_of_ble_eq_true rfl) (Nat.le_of_ble_eq_true rfl) (Nat.le_of_ble_eq_true rfl) dX1_init_30 (fun w hw => ?_)
  obtain ⟨r9, rfl⟩ := hw
  refine k_sa ?_
  change KV G l p e s m args below meth c R _ _ _ _ _ _ _ (w0 ++ ((a, .inr (5, [.ref q1, .int 0, .int 0])) :: (((([(q1, .inl (G.1.2.1 3, 6, .inr (.inr (.inr (.inr (va_up (va_up (va_up (fun _ => none) 0 (some q2)) 1 (some q4)) 2 (some q6)))))))] ++ X0w G q2 r3) ++ X0w G q4 r5) ++ X0w G q6 r7) ++ X0w G q8 r9)))
  refine k_aast (f := (va_up (va_up (va_up (fun _ => none) 0 (some q2)) 1 (some q4)) 2 (some q6))) (a := q1) (n := 6) (v := q8) (j := 1) (q := 32) (i := 3) C (by rfl) (by rfl) (by exact iI_in (z := 3) (by omega) (by omega) (by omega)) dX1_init_33 ?_
  change KV G l p e s m args below meth c R _ _ _ _ _ _ _ (w0 ++ ((a, .inr (5, [.ref q1, .int 0, .int 0])) :: (((([(q1, .inl (G.1.2.1 3, 6, .inr (.inr (.inr (.inr (va_up (va_up (va_up (va_up (fun _ => none) 0 (some q2)) 1 (some q4)) 2 (some q6)) 3 (some q8)))))))] ++ X0w G q2 r3) ++ X0w G q4 r5) ++ X0w G q6 r7) ++ X0w G q8 r9)))
  refine k_iinc C (j := 0) (v := 4) (ls' := [(1, .int 4), (0, .ref a)]) dX1_init_34 rfl (by decide) (by decide) rfl ?_
  refine k_goto C (tgt := 15) dX1_init_37 (by decide) ?_
  refine k_iload_n C dX1_init_15 rfl 0 rfl ?_
  refine k_bipush C (v := 6) dX1_init_16 (by decide) ?_
  refine k_icmp_ge C (tgt := 40) dX1_init_18 (by decide) (fun h => absurd h (by decide)) (fun _ => ?_)
  refine k_aload_n C dX1_init_21 rfl 1 rfl ?_
  refine k_get (a := a) (ci := 5) (fs := [.ref q1, .int 0, .int 0]) (j := 0) (k := 0) (T := TX1) C zin_1 (by rfl) rfl (by decide) (zT_in 260 (by decide +kernel) (by decide +kernel)) rfl rfl dX1_init_22 ?_
  refine k_iload_n C dX1_init_25 rfl 0 rfl ?_
  refine k_new (ci := 4) (T := TX0) (kc' := 19) (ks' := 596) C zin_0 tyX0 tyX0_ok (zT_in 257 (by decide +kernel) (by decide +kernel)) kmk_0 kin_0 rfl kdf_0 (Nat.le_of_ble_eq_true rfl) (Nat.le_of_ble_eq_true rfl) dX1_init_26 (fun q10 => ?_)
  change KV G l p e s m args below meth c R _ _ _ _ _ _ _ (w0 ++ ((a, .inr (5, [.ref q1, .int 0, .int 0])) :: ((((([(q1, .inl (G.1.2.1 3, 6, .inr (.inr (.inr (.inr (va_up (va_up (va_up (va_up (fun _ => none) 0 (some q2)) 1 (some q4)) 2 (some q6)) 3 (some q8)))))))] ++ X0w G q2 r3) ++ X0w G q4 r5) ++ X0w G q6 r7) ++ X0w G q8 r9) ++ [(q10, .inr (4, [.int 0, .int 0, .int 0, .int 0, .int 0, .int 0, .int 0, .null, .null, .null, .null, .null, .null, .null, .null, .null]))])))
  refine k_dup C dX1_init_29 rfl ?_
  refine k_as (wr := ((a, .inr (5, [.ref q1, .int 0, .int 0])) :: (((([(q1, .inl (G.1.2.1 3, 6, .inr (.inr (.inr (.inr (va_up (va_up (va_up (va_up (fun _ => none) 0 (some q2)) 1 (some q4)) 2 (some q6)) 3 (some q8)))))))] ++ X0w G q2 r3) ++ X0w G q4 r5) ++ X0w G q6 r7) ++ X0w G q8 r9))) (x := [(q10, .inr (4, [.int 0, .int 0, .int 0, .int 0, .int 0, .int 0, .int 0, .null, .null, .null, .null, .null, .null, .null, .null, .null]))]) ?_
  refine k_callIN C (N := M_X0_init) (n := 0) (jc := 9) (js := 290) (kc' := 10) (ks' := 306) (host := "BambooBlind") (av := []) (F := _) rfl (c_X0_init) i_X0_init rfl rfl rfl kii_0 (by decide +kernel) (by decide) (Nat.le_of_ble_eq_true rfl) (Nat.le_of_ble_eq_true rfl) (Nat.le_of_ble_eq_true rfl) dX1_init_30 (fun w hw => ?_)
  obtain ⟨r11, rfl⟩ := hw
  refine k_sa ?_
  change KV G l p e s m args below meth c R _ _ _ _ _ _ _ (w0 ++ ((a, .inr (5, [.ref q1, .int 0, .int 0])) :: ((((([(q1, .inl (G.1.2.1 3, 6, .inr (.inr (.inr (.inr (va_up (va_up (va_up (va_up (fun _ => none) 0 (some q2)) 1 (some q4)) 2 (some q6)) 3 (some q8)))))))] ++ X0w G q2 r3) ++ X0w G q4 r5) ++ X0w G q6 r7) ++ X0w G q8 r9) ++ X0w G q10 r11)))
  refine k_aast (f := (va_up (va_up (va_up (va_up (fun _ => none) 0 (some q2)) 1 (some q4)) 2 (some q6)) 3 (some q8))) (a := q1) (n := 6) (v := q10) (j := 1) (q := 42) (i := 4) C (by rfl) (by rfl) (by exact iI_in (z := 4) (by omega) (by omega) (by omega)) dX1_init_33 ?_
  change KV G l p e s m args below meth c R _ _ _ _ _ _ _ (w0 ++ ((a, .inr (5, [.ref q1, .int 0, .int 0])) :: ((((([(q1, .inl (G.1.2.1 3, 6, .inr (.inr (.inr (.inr (va_up (va_up (va_up (va_up (va_up (fun _ => none) 0 (some q2)) 1 (some q4)) 2 (some q6)) 3 (some q8)) 4 (some q10)))))))] ++ X0w G q2 r3) ++ X0w G q4 r5) ++ X0w G q6 r7) ++ X0w G q8 r9) ++ X0w G q10 r11)))
  refine k_iinc C (j := 0) (v := 5) (ls' := [(1, .int 5), (0, .ref a)]) dX1_init_34 rfl (by decide) (by decide) rfl ?_
  refine k_goto C (tgt := 15) dX1_init_37 (by decide) ?_
  refine k_iload_n C dX1_init_15 rfl 0 rfl ?_
  refine k_bipush C (v := 6) dX1_init_16 (by decide) ?_
  refine k_icmp_ge C (tgt := 40) dX1_init_18 (by decide) (fun h => absurd h (by decide)) (fun _ => ?_)
  refine k_aload_n C dX1_init_21 rfl 1 rfl ?_
  refine k_get (a := a) (ci := 5) (fs := [.ref q1, .int 0, .int 0]) (j := 0) (k := 0) (T := TX1) C zin_1 (by rfl) rfl (by decide) (zT_in 260 (by decide +kernel) (by decide +kernel)) rfl rfl dX1_init_22 ?_
  refine k_iload_n C dX1_init_25 rfl 0 rfl ?_
  refine k_new (ci := 4) (T := TX0) (kc' := 9) (ks' := 290) C zin_0 tyX0 tyX0_ok (zT_in 257 (by decide +kernel) (by decide +kernel)) kmk_0 kin_0 rfl kdf_0 (Nat.le_of_ble_eq_true rfl) (Nat.le_of_ble_eq_true rfl) dX1_init_26 (fun q12 => ?_)
  change KV G l p e s m args below meth c R _ _ _ _ _ _ _ (w0 ++ ((a, .inr (5, [.ref q1, .int 0, .int 0])) :: (((((([(q1, .inl (G.1.2.1 3, 6, .inr (.inr (.inr (.inr (va_up (va_up (va_up (va_up (va_up (fun _ => none) 0 (some q2)) 1 (some q4)) 2 (some q6)) 3 (some q8)) 4 (some q10)))))))] ++ X0w G q2 r3) ++ X0w G q4 r5) ++ X0w G q6 r7) ++ X0w G q8 r9) ++ X0w G q10 r11) ++ [(q12, .inr (4, [.int 0, .int 0, .int 0, .int 0, .int 0, .int 0, .int 0, .null, .null, .null, .null, .null, .null, .null, .null, .null]))])))
  refine k_dup C dX1_init_29 rfl ?_
  refine k_as (wr := ((a, .inr (5, [.ref q1, .int 0, .int 0])) :: ((((([(q1, .inl (G.1.2.1 3, 6, .inr (.inr (.inr (.inr (va_up (va_up (va_up (va_up (va_up (fun _ => none) 0 (some q2)) 1 (some q4)) 2 (some q6)) 3 (some q8)) 4 (some q10)))))))] ++ X0w G q2 r3) ++ X0w G q4 r5) ++ X0w G q6 r7) ++ X0w G q8 r9) ++ X0w G q10 r11))) (x := [(q12, .inr (4, [.int 0, .int 0, .int 0, .int 0, .int 0, .int 0, .int 0, .null, .null, .null, .null, .null, .null, .null, .null, .null]))]) ?_
  refine k_callIN C (N := M_X0_init) (n := 0) (jc := 9) (js := 290) (kc' := 0) (ks' := 0) (host := "BambooBlind") (av := []) (F := _) rfl (c_X0_init) i_X0_init rfl rfl rfl kii_0 (by decide +kernel) (by decide) (Nat.le_of_ble_eq_true rfl) (Nat.le_of_ble_eq_true rfl) (Nat.le_of_ble_eq_true rfl) dX1_init_30 (fun w hw => ?_)
  obtain ⟨r13, rfl⟩ := hw
  refine k_sa ?_
  change KV G l p e s m args below meth c R _ _ _ _ _ _ _ (w0 ++ ((a, .inr (5, [.ref q1, .int 0, .int 0])) :: (((((([(q1, .inl (G.1.2.1 3, 6, .inr (.inr (.inr (.inr (va_up (va_up (va_up (va_up (va_up (fun _ => none) 0 (some q2)) 1 (some q4)) 2 (some q6)) 3 (some q8)) 4 (some q10)))))))] ++ X0w G q2 r3) ++ X0w G q4 r5) ++ X0w G q6 r7) ++ X0w G q8 r9) ++ X0w G q10 r11) ++ X0w G q12 r13)))
  refine k_aast (f := (va_up (va_up (va_up (va_up (va_up (fun _ => none) 0 (some q2)) 1 (some q4)) 2 (some q6)) 3 (some q8)) 4 (some q10))) (a := q1) (n := 6) (v := q12) (j := 1) (q := 52) (i := 5) C (by rfl) (by rfl) (by exact iI_in (z := 5) (by omega) (by omega) (by omega)) dX1_init_33 ?_
  change KV G l p e s m args below meth c R _ _ _ _ _ _ _ (w0 ++ ((a, .inr (5, [.ref q1, .int 0, .int 0])) :: (((((([(q1, .inl (G.1.2.1 3, 6, .inr (.inr (.inr (.inr (va_up (va_up (va_up (va_up (va_up (va_up (fun _ => none) 0 (some q2)) 1 (some q4)) 2 (some q6)) 3 (some q8)) 4 (some q10)) 5 (some q12)))))))] ++ X0w G q2 r3) ++ X0w G q4 r5) ++ X0w G q6 r7) ++ X0w G q8 r9) ++ X0w G q10 r11) ++ X0w G q12 r13)))
  refine k_iinc C (j := 0) (v := 6) (ls' := [(1, .int 6), (0, .ref a)]) dX1_init_34 rfl (by decide) (by decide) rfl ?_
  refine k_goto C (tgt := 15) dX1_init_37 (by decide) ?_
  refine k_iload_n C dX1_init_15 rfl 0 rfl ?_
  refine k_bipush C (v := 6) dX1_init_16 (by decide) ?_
  refine k_icmp_ge C (tgt := 40) dX1_init_18 (by decide) (fun _ => ?_) (fun h => absurd (by decide) h)
  refine k_ret C dX1_init_40 ⟨fun i => List.getD [q1, q2, (r3 0), (r3 1), (r3 2), (r3 3), (r3 4), (r3 5), (r3 6), (r3 7), (r3 8), q4, (r5 0), (r5 1), (r5 2), (r5 3), (r5 4), (r5 5), (r5 6), (r5 7), (r5 8), q6, (r7 0), (r7 1), (r7 2), (r7 3), (r7 4), (r7 5), (r7 6), (r7 7), (r7 8), q8, (r9 0), (r9 1), (r9 2), (r9 3), (r9 4), (r9 5), (r9 6), (r9 7), (r9 8), q10, (r11 0), (r11 1), (r11 2), (r11 3), (r11 4), (r11 5), (r11 6), (r11 7), (r11 8), q12, (r13 0), (r13 1), (r13 2), (r13 3), (r13 4), (r13 5), (r13 6), (r13 7), (r13 8)] i 0, ?_⟩
  exact congrArg (fun z => w0 ++ z) rfl
end ZKc99na
