/-! the constructors (made by cons.py) -/
section ZKc
variable {G : fG} {l : Launch} {w0 : va_W}
theorem koi_i : Cond.instanceMethod Lib.objectInit ∈ zT := zT_in 64 (by decide +kernel) (by decide +kernel)
theorem koi_c : Cond.code Lib.objectInit ⟨#[0xb1]⟩ 1 none ∈ zT := zT_in 65 (by decide +kernel) (by decide +kernel)
theorem kc_int : Cond.arrayClass .int ∈ zT := zT_in 181 (by decide +kernel) (by decide +kernel)
theorem kc_byte : Cond.arrayClass .byte ∈ zT := zT_in 98 (by decide +kernel) (by decide +kernel)
theorem kc_boolean : Cond.arrayClass .boolean ∈ zT := zT_in 217 (by decide +kernel) (by decide +kernel)
theorem kdf_0 : ∀ j, j < 16 → defaultValue (tyX0 j) = vp_V [.int 0, .int 0, .int 0, .int 0, .int 0, .int 0, .int 0, .null, .null, .null, .null, .null, .null, .null, .null, .null] j := fun j hj => match j, hj with
  | 0, _ => rfl
  | 1, _ => rfl
  | 2, _ => rfl
  | 3, _ => rfl
  | 4, _ => rfl
  | 5, _ => rfl
  | 6, _ => rfl
  | 7, _ => rfl
  | 8, _ => rfl
  | 9, _ => rfl
  | 10, _ => rfl
  | 11, _ => rfl
  | 12, _ => rfl
  | 13, _ => rfl
  | 14, _ => rfl
  | 15, _ => rfl
  | j + 16, h => absurd h (by omega)
theorem kin_0 : Cond.initialized RX0 ∈ zT := zT_in 47 (by decide +kernel) (by decide +kernel)
theorem kmk_0 : Cond.instantiable RX0 16 ∈ zT := zT_in 106 (by decide +kernel) (by decide +kernel)
theorem kii_0 : Cond.instanceMethod yX0_init ∈ zT := zT_in 108 (by decide +kernel) (by decide +kernel)
theorem kdf_1 : ∀ j, j < 3 → defaultValue (tyX1 j) = vp_V [.null, .int 0, .int 0] j := fun j hj => match j, hj with
  | 0, _ => rfl
  | 1, _ => rfl
  | 2, _ => rfl
  | j + 3, h => absurd h (by omega)
theorem kin_1 : Cond.initialized RX1 ∈ zT := zT_in 49 (by decide +kernel) (by decide +kernel)
theorem kmk_1 : Cond.instantiable RX1 3 ∈ zT := zT_in 252 (by decide +kernel) (by decide +kernel)
theorem kii_1 : Cond.instanceMethod yX1_init ∈ zT := zT_in 254 (by decide +kernel) (by decide +kernel)
theorem kdf_2 : ∀ j, j < 8 → defaultValue (tyX2 j) = vp_V [.null, .int 0, .null, .null, .null, .null, .null, .int 0] j := fun j hj => match j, hj with
  | 0, _ => rfl
  | 1, _ => rfl
  | 2, _ => rfl
  | 3, _ => rfl
  | 4, _ => rfl
  | 5, _ => rfl
  | 6, _ => rfl
  | 7, _ => rfl
  | j + 8, h => absurd h (by omega)
theorem kin_2 : Cond.initialized RX2 ∈ zT := zT_in 48 (by decide +kernel) (by decide +kernel)
theorem kmk_2 : Cond.instantiable RX2 8 ∈ zT := zT_in 219 (by decide +kernel) (by decide +kernel)
theorem kii_2 : Cond.instanceMethod yX2_init ∈ zT := zT_in 221 (by decide +kernel) (by decide +kernel)
theorem kdf_3 : ∀ j, j < 8 → defaultValue (tyX3 j) = vp_V [.null, .int 0, .int 0, .int 0, .int 0, .int 0, .int 0, .int 0] j := fun j hj => match j, hj with
  | 0, _ => rfl
  | 1, _ => rfl
  | 2, _ => rfl
  | 3, _ => rfl
  | 4, _ => rfl
  | 5, _ => rfl
  | 6, _ => rfl
  | 7, _ => rfl
  | j + 8, h => absurd h (by omega)
theorem kin_3 : Cond.initialized RX3 ∈ zT := zT_in 45 (by decide +kernel) (by decide +kernel)
theorem kmk_3 : Cond.instantiable RX3 8 ∈ zT := zT_in 67 (by decide +kernel) (by decide +kernel)
theorem kii_3 : Cond.instanceMethod yX3_init ∈ zT := zT_in 69 (by decide +kernel) (by decide +kernel)
theorem kdf_4 : ∀ j, j < 11 → defaultValue (tyX4 j) = vp_V [.null, .null, .int 0, .int 0, .int 0, .null, .null, .null, .null, .null, .null] j := fun j hj => match j, hj with
  | 0, _ => rfl
  | 1, _ => rfl
  | 2, _ => rfl
  | 3, _ => rfl
  | 4, _ => rfl
  | 5, _ => rfl
  | 6, _ => rfl
  | 7, _ => rfl
  | 8, _ => rfl
  | 9, _ => rfl
  | 10, _ => rfl
  | j + 11, h => absurd h (by omega)
theorem kin_4 : Cond.initialized RX4 ∈ zT := zT_in 46 (by decide +kernel) (by decide +kernel)
theorem kmk_4 : Cond.instantiable RX4 11 ∈ zT := zT_in 100 (by decide +kernel) (by decide +kernel)
theorem kii_4 : Cond.instanceMethod yX4_init ∈ zT := zT_in 102 (by decide +kernel) (by decide +kernel)
theorem kdf_5 : ∀ j, j < 4 → defaultValue (tyX5 j) = vp_V [.null, .null, .null, .null] j := fun j hj => match j, hj with
  | 0, _ => rfl
  | 1, _ => rfl
  | 2, _ => rfl
  | 3, _ => rfl
  | j + 4, h => absurd h (by omega)
theorem kin_5 : Cond.initialized RX5 ∈ zT := zT_in 50 (by decide +kernel) (by decide +kernel)
theorem kmk_5 : Cond.instantiable RX5 4 ∈ zT := zT_in 272 (by decide +kernel) (by decide +kernel)
theorem kii_5 : Cond.instanceMethod yX5_init ∈ zT := zT_in 274 (by decide +kernel) (by decide +kernel)
theorem kdf_6 : ∀ j, j < 12 → defaultValue (tyX6 j) = vp_V [.null, .null, .null, .null, .null, .null, .null, .null, .null, .int 0, .int 0, .int 0] j := fun j hj => match j, hj with
  | 0, _ => rfl
  | 1, _ => rfl
  | 2, _ => rfl
  | 3, _ => rfl
  | 4, _ => rfl
  | 5, _ => rfl
  | 6, _ => rfl
  | 7, _ => rfl
  | 8, _ => rfl
  | 9, _ => rfl
  | 10, _ => rfl
  | 11, _ => rfl
  | j + 12, h => absurd h (by omega)
theorem kin_6 : Cond.initialized RX6 ∈ zT := zT_in 44 (by decide +kernel) (by decide +kernel)
theorem kmk_6 : Cond.instantiable RX6 12 ∈ zT := zT_in 59 (by decide +kernel) (by decide +kernel)
theorem kii_6 : Cond.instanceMethod yX6_init ∈ zT := zT_in 61 (by decide +kernel) (by decide +kernel)
theorem k_as {p : Program} {e : Env} {s : State} {m : MethodId} {args : Array Value} {below : List Frame} {meth : Method} {c : Code} {R : Room} {Z : State → Prop} {nL kc ks pc : Nat} {ls : List (Nat × Value)} {st : List Value} {wr x : va_W} (z : KV G l p e s m args below meth c R Z nL kc ks pc ls st ((w0 ++ wr) ++ x)) : KV G l p e s m args below meth c R Z nL kc ks pc ls st (w0 ++ (wr ++ x)) := by
  rw [← List.append_assoc]; exact z
theorem k_sa {p : Program} {e : Env} {s : State} {m : MethodId} {args : Array Value} {below : List Frame} {meth : Method} {c : Code} {R : Room} {Z : State → Prop} {nL kc ks pc : Nat} {ls : List (Nat × Value)} {st : List Value} {wr x : va_W} (z : KV G l p e s m args below meth c R Z nL kc ks pc ls st (w0 ++ (wr ++ x))) : KV G l p e s m args below meth c R Z nL kc ks pc ls st ((w0 ++ wr) ++ x) := by
  rw [List.append_assoc]; exact z
theorem k_cons {p : Program} {e : Env} {s : State} {m : MethodId} {args : Array Value} {below : List Frame} {meth : Method} {c : Code} {R : Room} {Z : State → Prop} {nL kc ks pc : Nat} {ls : List (Nat × Value)} {st : List Value} {wr x : va_W} {y : Nat × va_E} (z : KV G l p e s m args below meth c R Z nL kc ks pc ls st (w0 ++ ((wr ++ [y]) ++ x))) : KV G l p e s m args below meth c R Z nL kc ks pc ls st (w0 ++ (wr ++ (y :: x))) := by
  rw [List.append_assoc] at z; exact z
def X0w (G : fG) (a : Nat) (r : Nat → Nat) : va_W := ((a, .inr (4, [.int 4, .int 9, .int 0, .int 0, .int 0, .int 0, .int 0, .ref (r 0), .ref (r 1), .ref (r 2), .ref (r 3), .ref (r 4), .ref (r 5), .ref (r 6), .ref (r 7), .ref (r 8)])) :: (((((((([((r 0), .inl (G.1.2.1 0, 10, .inl (fun _ => 0)))] ++ [((r 1), .inl (G.1.2.1 0, 10, .inl (fun _ => 0)))]) ++ [((r 2), .inl (G.1.2.1 0, 10, .inl (fun _ => 0)))]) ++ [((r 3), .inl (G.1.2.1 0, 10, .inl (fun _ => 0)))]) ++ [((r 4), .inl (G.1.2.1 0, 10, .inl (fun _ => 0)))]) ++ [((r 5), .inl (G.1.2.1 0, 60, .inl (fun _ => 0)))]) ++ [((r 6), .inl (G.1.2.1 0, 60, .inl (fun _ => 0)))]) ++ [((r 7), .inl (G.1.2.1 0, 60, .inl (fun _ => 0)))]) ++ [((r 8), .inl (G.1.2.1 0, 60, .inl (fun _ => 0)))]))
abbrev M_X0_init : zM := (yX0_init, cX0_init, 1, none, 2, [])
theorem i_X0_init : zIn M_X0_init 0 := ⟨zT_in 109 (by decide +kernel) (by decide +kernel), kin_0, ⟨by decide, by decide⟩, by decide +kernel, by decide⟩
set_option maxRecDepth 20000 in
theorem c_X0_init {a : Nat} : KC G l M_X0_init 9 290 [.ref a] (w0 ++ [(a, .inr (4, [.int 0, .int 0, .int 0, .int 0, .int 0, .int 0, .int 0, .null, .null, .null, .null, .null, .null, .null, .null, .null]))]) (fun w => ∃ r : Nat → Nat, w = w0 ++ X0w G a r) := by
  refine KC_of rfl (Nat.le_of_ble_eq_true rfl) ?_
  intro p e s m args below meth c R hnm C
  change KV _ _ _ _ _ _ _ _ _ _ _ _ _ _ _ _ [(0, .ref a)] _ _
  refine k_aload_n C dX0_init_0 rfl 0 rfl ?_
  refine k_obj C (zT_in 110 (by decide +kernel) (by decide +kernel)) koi_i koi_c (by decide) (Nat.le_of_ble_eq_true rfl) dX0_init_1 ?_
  refine k_aload_n C dX0_init_4 rfl 0 rfl ?_
  refine k_iconst C (v := 4) dX0_init_5 rfl ?_
  refine k_put (a := a) (ci := 4) (fs := [.int 0, .int 0, .int 0, .int 0, .int 0, .int 0, .int 0, .null, .null, .null, .null, .null, .null, .null, .null, .null]) (v := .int 4) (j := 0) (k := 0) (T := TX0) C zin_0 tyX0 tyX0_ok nmX0 (by rfl) rfl (by decide) (zT_in 111 (by decide +kernel) (by decide +kernel)) rfl rfl rfl rfl rfl (Nat.le_of_ble_eq_true rfl) dX0_init_6 ?_
  change KV G l p e s m args below meth c R _ _ _ _ _ _ _ (w0 ++ ((a, .inr (4, [.int 4, .int 0, .int 0, .int 0, .int 0, .int 0, .int 0, .null, .null, .null, .null, .null, .null, .null, .null, .null])) :: []))
  refine k_aload_n C dX0_init_9 rfl 0 rfl ?_
  refine k_bipush C (v := 9) dX0_init_10 (by decide) ?_
  refine k_put (a := a) (ci := 4) (fs := [.int 4, .int 0, .int 0, .int 0, .int 0, .int 0, .int 0, .null, .null, .null, .null, .null, .null, .null, .null, .null]) (v := .int 9) (j := 0) (k := 1) (T := TX0) C zin_0 tyX0 tyX0_ok nmX0 (by rfl) rfl (by decide) (zT_in 115 (by decide +kernel) (by decide +kernel)) rfl rfl rfl rfl rfl (Nat.le_of_ble_eq_true rfl) dX0_init_12 ?_
  change KV G l p e s m args below meth c R _ _ _ _ _ _ _ (w0 ++ ((a, .inr (4, [.int 4, .int 9, .int 0, .int 0, .int 0, .int 0, .int 0, .null, .null, .null, .null, .null, .null, .null, .null, .null])) :: []))
  refine k_aload_n C dX0_init_15 rfl 0 rfl ?_
  refine k_bipush C (v := 10) dX0_init_16 (by decide) ?_
  refine k_newa (atype := .int) (t := 0) (N := 10) (a0 := (10, .inl (fun _ => 0))) (kc' := 8) (ks' := 280) C kc_int rfl rfl (fun _ _ h => h) (fun _ => rfl) (by decide) (by decide) (by decide +kernel) (by decide +kernel) (by decide +kernel) dX0_init_18 (fun q1 => ?_)
  change KV G l p e s m args below meth c R _ _ _ _ _ _ _ (w0 ++ ((a, .inr (4, [.int 4, .int 9, .int 0, .int 0, .int 0, .int 0, .int 0, .null, .null, .null, .null, .null, .null, .null, .null, .null])) :: [(q1, .inl (G.1.2.1 0, 10, .inl (fun _ => 0)))]))
  refine k_putF (a := a) (ci := 4) (fs := [.int 4, .int 9, .int 0, .int 0, .int 0, .int 0, .int 0, .null, .null, .null, .null, .null, .null, .null, .null, .null]) (v := .ref q1) (j := 0) (k := 7) (T := TX0) C zin_0 tyX0 tyX0_ok nmX0 (by rfl) rfl (by decide) (zT_in 132 (by decide +kernel) (by decide +kernel)) rfl rfl hnm rfl rfl rfl rfl (Nat.le_of_ble_eq_true rfl) dX0_init_20 ?_
  change KV G l p e s m args below meth c R _ _ _ _ _ _ _ (w0 ++ ((a, .inr (4, [.int 4, .int 9, .int 0, .int 0, .int 0, .int 0, .int 0, .ref q1, .null, .null, .null, .null, .null, .null, .null, .null])) :: [(q1, .inl (G.1.2.1 0, 10, .inl (fun _ => 0)))]))
  refine k_aload_n C dX0_init_23 rfl 0 rfl ?_
  refine k_bipush C (v := 10) dX0_init_24 (by decide) ?_
  refine k_newa (atype := .int) (t := 0) (N := 10) (a0 := (10, .inl (fun _ => 0))) (kc' := 7) (ks' := 270) C kc_int rfl rfl (fun _ _ h => h) (fun _ => rfl) (by decide) (by decide) (by decide +kernel) (by decide +kernel) (by decide +kernel) dX0_init_26 (fun q2 => ?_)
  change KV G l p e s m args below meth c R _ _ _ _ _ _ _ (w0 ++ ((a, .inr (4, [.int 4, .int 9, .int 0, .int 0, .int 0, .int 0, .int 0, .ref q1, .null, .null, .null, .null, .null, .null, .null, .null])) :: ([(q1, .inl (G.1.2.1 0, 10, .inl (fun _ => 0)))] ++ [(q2, .inl (G.1.2.1 0, 10, .inl (fun _ => 0)))])))
  refine k_putF (a := a) (ci := 4) (fs := [.int 4, .int 9, .int 0, .int 0, .int 0, .int 0, .int 0, .ref q1, .null, .null, .null, .null, .null, .null, .null, .null]) (v := .ref q2) (j := 0) (k := 8) (T := TX0) C zin_0 tyX0 tyX0_ok nmX0 (by rfl) rfl (by decide) (zT_in 135 (by decide +kernel) (by decide +kernel)) rfl rfl hnm rfl rfl rfl rfl (Nat.le_of_ble_eq_true rfl) dX0_init_28 ?_
  change KV G l p e s m args below meth c R _ _ _ _ _ _ _ (w0 ++ ((a, .inr (4, [.int 4, .int 9, .int 0, .int 0, .int 0, .int 0, .int 0, .ref q1, .ref q2, .null, .null, .null, .null, .null, .null, .null])) :: ([(q1, .inl (G.1.2.1 0, 10, .inl (fun _ => 0)))] ++ [(q2, .inl (G.1.2.1 0, 10, .inl (fun _ => 0)))])))
  refine k_aload_n C dX0_init_31 rfl 0 rfl ?_
  refine k_bipush C (v := 10) dX0_init_32 (by decide) ?_
  refine k_newa (atype := .int) (t := 0) (N := 10) (a0 := (10, .inl (fun _ => 0))) (kc' := 6) (ks' := 260) C kc_int rfl rfl (fun _ _ h => h) (fun _ => rfl) (by decide) (by decide) (by decide +kernel) (by decide +kernel) (by decide +kernel) dX0_init_34 (fun q3 => ?_)
  change KV G l p e s m args below meth c R _ _ _ _ _ _ _ (w0 ++ ((a, .inr (4, [.int 4, .int 9, .int 0, .int 0, .int 0, .int 0, .int 0, .ref q1, .ref q2, .null, .null, .null, .null, .null, .null, .null])) :: (([(q1, .inl (G.1.2.1 0, 10, .inl (fun _ => 0)))] ++ [(q2, .inl (G.1.2.1 0, 10, .inl (fun _ => 0)))]) ++ [(q3, .inl (G.1.2.1 0, 10, .inl (fun _ => 0)))])))
  refine k_putF (a := a) (ci := 4) (fs := [.int 4, .int 9, .int 0, .int 0, .int 0, .int 0, .int 0, .ref q1, .ref q2, .null, .null, .null, .null, .null, .null, .null]) (v := .ref q3) (j := 0) (k := 9) (T := TX0) C zin_0 tyX0 tyX0_ok nmX0 (by rfl) rfl (by decide) (zT_in 138 (by decide +kernel) (by decide +kernel)) rfl rfl hnm rfl rfl rfl rfl (Nat.le_of_ble_eq_true rfl) dX0_init_36 ?_
  change KV G l p e s m args below meth c R _ _ _ _ _ _ _ (w0 ++ ((a, .inr (4, [.int 4, .int 9, .int 0, .int 0, .int 0, .int 0, .int 0, .ref q1, .ref q2, .ref q3, .null, .null, .null, .null, .null, .null])) :: (([(q1, .inl (G.1.2.1 0, 10, .inl (fun _ => 0)))] ++ [(q2, .inl (G.1.2.1 0, 10, .inl (fun _ => 0)))]) ++ [(q3, .inl (G.1.2.1 0, 10, .inl (fun _ => 0)))])))
  refine k_aload_n C dX0_init_39 rfl 0 rfl ?_
  refine k_bipush C (v := 10) dX0_init_40 (by decide) ?_
  refine k_newa (atype := .int) (t := 0) (N := 10) (a0 := (10, .inl (fun _ => 0))) (kc' := 5) (ks' := 250) C kc_int rfl rfl (fun _ _ h => h) (fun _ => rfl) (by decide) (by decide) (by decide +kernel) (by decide +kernel) (by decide +kernel) dX0_init_42 (fun q4 => ?_)
  change KV G l p e s m args below meth c R _ _ _ _ _ _ _ (w0 ++ ((a, .inr (4, [.int 4, .int 9, .int 0, .int 0, .int 0, .int 0, .int 0, .ref q1, .ref q2, .ref q3, .null, .null, .null, .null, .null, .null])) :: ((([(q1, .inl (G.1.2.1 0, 10, .inl (fun _ => 0)))] ++ [(q2, .inl (G.1.2.1 0, 10, .inl (fun _ => 0)))]) ++ [(q3, .inl (G.1.2.1 0, 10, .inl (fun _ => 0)))]) ++ [(q4, .inl (G.1.2.1 0, 10, .inl (fun _ => 0)))])))
  refine k_putF (a := a) (ci := 4) (fs := [.int 4, .int 9, .int 0, .int 0, .int 0, .int 0, .int 0, .ref q1, .ref q2, .ref q3, .null, .null, .null, .null, .null, .null]) (v := .ref q4) (j := 0) (k := 10) (T := TX0) C zin_0 tyX0 tyX0_ok nmX0 (by rfl) rfl (by decide) (zT_in 140 (by decide +kernel) (by decide +kernel)) rfl rfl hnm rfl rfl rfl rfl (Nat.le_of_ble_eq_true rfl) dX0_init_44 ?_
  change KV G l p e s m args below meth c R _ _ _ _ _ _ _ (w0 ++ ((a, .inr (4, [.int 4, .int 9, .int 0, .int 0, .int 0, .int 0, .int 0, .ref q1, .ref q2, .ref q3, .ref q4, .null, .null, .null, .null, .null])) :: ((([(q1, .inl (G.1.2.1 0, 10, .inl (fun _ => 0)))] ++ [(q2, .inl (G.1.2.1 0, 10, .inl (fun _ => 0)))]) ++ [(q3, .inl (G.1.2.1 0, 10, .inl (fun _ => 0)))]) ++ [(q4, .inl (G.1.2.1 0, 10, .inl (fun _ => 0)))])))
  refine k_aload_n C dX0_init_47 rfl 0 rfl ?_
  refine k_bipush C (v := 10) dX0_init_48 (by decide) ?_
  refine k_newa (atype := .int) (t := 0) (N := 10) (a0 := (10, .inl (fun _ => 0))) (kc' := 4) (ks' := 240) C kc_int rfl rfl (fun _ _ h => h) (fun _ => rfl) (by decide) (by decide) (by decide +kernel) (by decide +kernel) (by decide +kernel) dX0_init_50 (fun q5 => ?_)
  change KV G l p e s m args below meth c R _ _ _ _ _ _ _ (w0 ++ ((a, .inr (4, [.int 4, .int 9, .int 0, .int 0, .int 0, .int 0, .int 0, .ref q1, .ref q2, .ref q3, .ref q4, .null, .null, .null, .null, .null])) :: (((([(q1, .inl (G.1.2.1 0, 10, .inl (fun _ => 0)))] ++ [(q2, .inl (G.1.2.1 0, 10, .inl (fun _ => 0)))]) ++ [(q3, .inl (G.1.2.1 0, 10, .inl (fun _ => 0)))]) ++ [(q4, .inl (G.1.2.1 0, 10, .inl (fun _ => 0)))]) ++ [(q5, .inl (G.1.2.1 0, 10, .inl (fun _ => 0)))])))
  refine k_putF (a := a) (ci := 4) (fs := [.int 4, .int 9, .int 0, .int 0, .int 0, .int 0, .int 0, .ref q1, .ref q2, .ref q3, .ref q4, .null, .null, .null, .null, .null]) (v := .ref q5) (j := 0) (k := 11) (T := TX0) C zin_0 tyX0 tyX0_ok nmX0 (by rfl) rfl (by decide) (zT_in 142 (by decide +kernel) (by decide +kernel)) rfl rfl hnm rfl rfl rfl rfl (Nat.le_of_ble_eq_true rfl) dX0_init_52 ?_
  change KV G l p e s m args below meth c R _ _ _ _ _ _ _ (w0 ++ ((a, .inr (4, [.int 4, .int 9, .int 0, .int 0, .int 0, .int 0, .int 0, .ref q1, .ref q2, .ref q3, .ref q4, .ref q5, .null, .null, .null, .null])) :: (((([(q1, .inl (G.1.2.1 0, 10, .inl (fun _ => 0)))] ++ [(q2, .inl (G.1.2.1 0, 10, .inl (fun _ => 0)))]) ++ [(q3, .inl (G.1.2.1 0, 10, .inl (fun _ => 0)))]) ++ [(q4, .inl (G.1.2.1 0, 10, .inl (fun _ => 0)))]) ++ [(q5, .inl (G.1.2.1 0, 10, .inl (fun _ => 0)))])))
  refine k_aload_n C dX0_init_55 rfl 0 rfl ?_
  refine k_bipush C (v := 60) dX0_init_56 (by decide) ?_
  refine k_newa (atype := .int) (t := 0) (N := 60) (a0 := (60, .inl (fun _ => 0))) (kc' := 3) (ks' := 180) C kc_int rfl rfl (fun _ _ h => h) (fun _ => rfl) (by decide) (by decide) (by decide +kernel) (by decide +kernel) (by decide +kernel) dX0_init_58 (fun q6 => ?_)
  change KV G l p e s m args below meth c R _ _ _ _ _ _ _ (w0 ++ ((a, .inr (4, [.int 4, .int 9, .int 0, .int 0, .int 0, .int 0, .int 0, .ref q1, .ref q2, .ref q3, .ref q4, .ref q5, .null, .null, .null, .null])) :: ((((([(q1, .inl (G.1.2.1 0, 10, .inl (fun _ => 0)))] ++ [(q2, .inl (G.1.2.1 0, 10, .inl (fun _ => 0)))]) ++ [(q3, .inl (G.1.2.1 0, 10, .inl (fun _ => 0)))]) ++ [(q4, .inl (G.1.2.1 0, 10, .inl (fun _ => 0)))]) ++ [(q5, .inl (G.1.2.1 0, 10, .inl (fun _ => 0)))]) ++ [(q6, .inl (G.1.2.1 0, 60, .inl (fun _ => 0)))])))
  refine k_putF (a := a) (ci := 4) (fs := [.int 4, .int 9, .int 0, .int 0, .int 0, .int 0, .int 0, .ref q1, .ref q2, .ref q3, .ref q4, .ref q5, .null, .null, .null, .null]) (v := .ref q6) (j := 0) (k := 12) (T := TX0) C zin_0 tyX0 tyX0_ok nmX0 (by rfl) rfl (by decide) (zT_in 144 (by decide +kernel) (by decide +kernel)) rfl rfl hnm rfl rfl rfl rfl (Nat.le_of_ble_eq_true rfl) dX0_init_60 ?_
  change KV G l p e s m args below meth c R _ _ _ _ _ _ _ (w0 ++ ((a, .inr (4, [.int 4, .int 9, .int 0, .int 0, .int 0, .int 0, .int 0, .ref q1, .ref q2, .ref q3, .ref q4, .ref q5, .ref q6, .null, .null, .null])) :: ((((([(q1, .inl (G.1.2.1 0, 10, .inl (fun _ => 0)))] ++ [(q2, .inl (G.1.2.1 0, 10, .inl (fun _ => 0)))]) ++ [(q3, .inl (G.1.2.1 0, 10, .inl (fun _ => 0)))]) ++ [(q4, .inl (G.1.2.1 0, 10, .inl (fun _ => 0)))]) ++ [(q5, .inl (G.1.2.1 0, 10, .inl (fun _ => 0)))]) ++ [(q6, .inl (G.1.2.1 0, 60, .inl (fun _ => 0)))])))
  refine k_aload_n C dX0_init_63 rfl 0 rfl ?_
  refine k_bipush C (v := 60) dX0_init_64 (by decide) ?_
  refine k_newa (atype := .int) (t := 0) (N := 60) (a0 := (60, .inl (fun _ => 0))) (kc' := 2) (ks' := 120) C kc_int rfl rfl (fun _ _ h => h) (fun _ => rfl) (by decide) (by decide) (by decide +kernel) (by decide +kernel) (by decide +kernel) dX0_init_66 (fun q7 => ?_)
  change KV G l p e s m args below meth c R _ _ _ _ _ _ _ (w0 ++ ((a, .inr (4, [.int 4, .int 9, .int 0, .int 0, .int 0, .int 0, .int 0, .ref q1, .ref q2, .ref q3, .ref q4, .ref q5, .ref q6, .null, .null, .null])) :: (((((([(q1, .inl (G.1.2.1 0, 10, .inl (fun _ => 0)))] ++ [(q2, .inl (G.1.2.1 0, 10, .inl (fun _ => 0)))]) ++ [(q3, .inl (G.1.2.1 0, 10, .inl (fun _ => 0)))]) ++ [(q4, .inl (G.1.2.1 0, 10, .inl (fun _ => 0)))]) ++ [(q5, .inl (G.1.2.1 0, 10, .inl (fun _ => 0)))]) ++ [(q6, .inl (G.1.2.1 0, 60, .inl (fun _ => 0)))]) ++ [(q7, .inl (G.1.2.1 0, 60, .inl (fun _ => 0)))])))
  refine k_putF (a := a) (ci := 4) (fs := [.int 4, .int 9, .int 0, .int 0, .int 0, .int 0, .int 0, .ref q1, .ref q2, .ref q3, .ref q4, .ref q5, .ref q6, .null, .null, .null]) (v := .ref q7) (j := 0) (k := 13) (T := TX0) C zin_0 tyX0 tyX0_ok nmX0 (by rfl) rfl (by decide) (zT_in 145 (by decide +kernel) (by decide +kernel)) rfl rfl hnm rfl rfl rfl rfl (Nat.le_of_ble_eq_true rfl) dX0_init_68 ?_
  change KV G l p e s m args below meth c R _ _ _ _ _ _ _ (w0 ++ ((a, .inr (4, [.int 4, .int 9, .int 0, .int 0, .int 0, .int 0, .int 0, .ref q1, .ref q2, .ref q3, .ref q4, .ref q5, .ref q6, .ref q7, .null, .null])) :: (((((([(q1, .inl (G.1.2.1 0, 10, .inl (fun _ => 0)))] ++ [(q2, .inl (G.1.2.1 0, 10, .inl (fun _ => 0)))]) ++ [(q3, .inl (G.1.2.1 0, 10, .inl (fun _ => 0)))]) ++ [(q4, .inl (G.1.2.1 0, 10, .inl (fun _ => 0)))]) ++ [(q5, .inl (G.1.2.1 0, 10, .inl (fun _ => 0)))]) ++ [(q6, .inl (G.1.2.1 0, 60, .inl (fun _ => 0)))]) ++ [(q7, .inl (G.1.2.1 0, 60, .inl (fun _ => 0)))])))
  refine k_aload_n C dX0_init_71 rfl 0 rfl ?_
  refine k_bipush C (v := 60) dX0_init_72 (by decide) ?_
  refine k_newa (atype := .int) (t := 0) (N := 60) (a0 := (60, .inl (fun _ => 0))) (kc' := 1) (ks' := 60) C kc_int rfl rfl (fun _ _ h => h) (fun _ => rfl) (by decide) (by decide) (by decide +kernel) (by decide +kernel) (by decide +kernel) dX0_init_74 (fun q8 => ?_)
  change KV G l p e s m args below meth c R _ _ _ _ _ _ _ (w0 ++ ((a, .inr (4, [.int 4, .int 9, .int 0, .int 0, .int 0, .int 0, .int 0, .ref q1, .ref q2, .ref q3, .ref q4, .ref q5, .ref q6, .ref q7, .null, .null])) :: ((((((([(q1, .inl (G.1.2.1 0, 10, .inl (fun _ => 0)))] ++ [(q2, .inl (G.1.2.1 0, 10, .inl (fun _ => 0)))]) ++ [(q3, .inl (G.1.2.1 0, 10, .inl (fun _ => 0)))]) ++ [(q4, .inl (G.1.2.1 0, 10, .inl (fun _ => 0)))]) ++ [(q5, .inl (G.1.2.1 0, 10, .inl (fun _ => 0)))]) ++ [(q6, .inl (G.1.2.1 0, 60, .inl (fun _ => 0)))]) ++ [(q7, .inl (G.1.2.1 0, 60, .inl (fun _ => 0)))]) ++ [(q8, .inl (G.1.2.1 0, 60, .inl (fun _ => 0)))])))
  refine k_putF (a := a) (ci := 4) (fs := [.int 4, .int 9, .int 0, .int 0, .int 0, .int 0, .int 0, .ref q1, .ref q2, .ref q3, .ref q4, .ref q5, .ref q6, .ref q7, .null, .null]) (v := .ref q8) (j := 0) (k := 14) (T := TX0) C zin_0 tyX0 tyX0_ok nmX0 (by rfl) rfl (by decide) (zT_in 146 (by decide +kernel) (by decide +kernel)) rfl rfl hnm rfl rfl rfl rfl (Nat.le_of_ble_eq_true rfl) dX0_init_76 ?_
  change KV G l p e s m args below meth c R _ _ _ _ _ _ _ (w0 ++ ((a, .inr (4, [.int 4, .int 9, .int 0, .int 0, .int 0, .int 0, .int 0, .ref q1, .ref q2, .ref q3, .ref q4, .ref q5, .ref q6, .ref q7, .ref q8, .null])) :: ((((((([(q1, .inl (G.1.2.1 0, 10, .inl (fun _ => 0)))] ++ [(q2, .inl (G.1.2.1 0, 10, .inl (fun _ => 0)))]) ++ [(q3, .inl (G.1.2.1 0, 10, .inl (fun _ => 0)))]) ++ [(q4, .inl (G.1.2.1 0, 10, .inl (fun _ => 0)))]) ++ [(q5, .inl (G.1.2.1 0, 10, .inl (fun _ => 0)))]) ++ [(q6, .inl (G.1.2.1 0, 60, .inl (fun _ => 0)))]) ++ [(q7, .inl (G.1.2.1 0, 60, .inl (fun _ => 0)))]) ++ [(q8, .inl (G.1.2.1 0, 60, .inl (fun _ => 0)))])))
  refine k_aload_n C dX0_init_79 rfl 0 rfl ?_
  refine k_bipush C (v := 60) dX0_init_80 (by decide) ?_
  refine k_newa (atype := .int) (t := 0) (N := 60) (a0 := (60, .inl (fun _ => 0))) (kc' := 0) (ks' := 0) C kc_int rfl rfl (fun _ _ h => h) (fun _ => rfl) (by decide) (by decide) (by decide +kernel) (by decide +kernel) (by decide +kernel) dX0_init_82 (fun q9 => ?_)
  change KV G l p e s m args below meth c R _ _ _ _ _ _ _ (w0 ++ ((a, .inr (4, [.int 4, .int 9, .int 0, .int 0, .int 0, .int 0, .int 0, .ref q1, .ref q2, .ref q3, .ref q4, .ref q5, .ref q6, .ref q7, .ref q8, .null])) :: (((((((([(q1, .inl (G.1.2.1 0, 10, .inl (fun _ => 0)))] ++ [(q2, .inl (G.1.2.1 0, 10, .inl (fun _ => 0)))]) ++ [(q3, .inl (G.1.2.1 0, 10, .inl (fun _ => 0)))]) ++ [(q4, .inl (G.1.2.1 0, 10, .inl (fun _ => 0)))]) ++ [(q5, .inl (G.1.2.1 0, 10, .inl (fun _ => 0)))]) ++ [(q6, .inl (G.1.2.1 0, 60, .inl (fun _ => 0)))]) ++ [(q7, .inl (G.1.2.1 0, 60, .inl (fun _ => 0)))]) ++ [(q8, .inl (G.1.2.1 0, 60, .inl (fun _ => 0)))]) ++ [(q9, .inl (G.1.2.1 0, 60, .inl (fun _ => 0)))])))
  refine k_putF (a := a) (ci := 4) (fs := [.int 4, .int 9, .int 0, .int 0, .int 0, .int 0, .int 0, .ref q1, .ref q2, .ref q3, .ref q4, .ref q5, .ref q6, .ref q7, .ref q8, .null]) (v := .ref q9) (j := 0) (k := 15) (T := TX0) C zin_0 tyX0 tyX0_ok nmX0 (by rfl) rfl (by decide) (zT_in 147 (by decide +kernel) (by decide +kernel)) rfl rfl hnm rfl rfl rfl rfl (Nat.le_of_ble_eq_true rfl) dX0_init_84 ?_
  change KV G l p e s m args below meth c R _ _ _ _ _ _ _ (w0 ++ ((a, .inr (4, [.int 4, .int 9, .int 0, .int 0, .int 0, .int 0, .int 0, .ref q1, .ref q2, .ref q3, .ref q4, .ref q5, .ref q6, .ref q7, .ref q8, .ref q9])) :: (((((((([(q1, .inl (G.1.2.1 0, 10, .inl (fun _ => 0)))] ++ [(q2, .inl (G.1.2.1 0, 10, .inl (fun _ => 0)))]) ++ [(q3, .inl (G.1.2.1 0, 10, .inl (fun _ => 0)))]) ++ [(q4, .inl (G.1.2.1 0, 10, .inl (fun _ => 0)))]) ++ [(q5, .inl (G.1.2.1 0, 10, .inl (fun _ => 0)))]) ++ [(q6, .inl (G.1.2.1 0, 60, .inl (fun _ => 0)))]) ++ [(q7, .inl (G.1.2.1 0, 60, .inl (fun _ => 0)))]) ++ [(q8, .inl (G.1.2.1 0, 60, .inl (fun _ => 0)))]) ++ [(q9, .inl (G.1.2.1 0, 60, .inl (fun _ => 0)))])))
  refine k_ret C dX0_init_87 ⟨fun i => List.getD [q1, q2, q3, q4, q5, q6, q7, q8, q9] i 0, ?_⟩
  exact congrArg (fun z => w0 ++ z) rfl
def X3w (G : fG) (a : Nat) (r : Nat → Nat) : va_W := ((a, .inr (7, [.ref (r 0), .int 0, .int 0, .int 0, .int 0, .int 0, .int 0, .int (-1)])) :: [((r 0), .inl (G.1.2.1 1, 600, .inl (fun _ => 0)))])
abbrev M_X3_init : zM := (yX3_init, cX3_init, 1, none, 2, [])
theorem i_X3_init : zIn M_X3_init 0 := ⟨zT_in 70 (by decide +kernel) (by decide +kernel), kin_3, ⟨by decide, by decide⟩, by decide +kernel, by decide⟩
set_option maxRecDepth 20000 in
theorem c_X3_init {a : Nat} : KC G l M_X3_init 1 600 [.ref a] (w0 ++ [(a, .inr (7, [.null, .int 0, .int 0, .int 0, .int 0, .int 0, .int 0, .int 0]))]) (fun w => ∃ r : Nat → Nat, w = w0 ++ X3w G a r) := by
  refine KC_of rfl (Nat.le_of_ble_eq_true rfl) ?_
  intro p e s m args below meth c R hnm C
  change KV _ _ _ _ _ _ _ _ _ _ _ _ _ _ _ _ [(0, .ref a)] _ _
  refine k_aload_n C dX3_init_0 rfl 0 rfl ?_
  refine k_obj C (zT_in 71 (by decide +kernel) (by decide +kernel)) koi_i koi_c (by decide) (Nat.le_of_ble_eq_true rfl) dX3_init_1 ?_
  refine k_aload_n C dX3_init_4 rfl 0 rfl ?_
  refine k_sipush C (v := 600) dX3_init_5 (by decide) ?_
  refine k_newa (atype := .byte) (t := 1) (N := 600) (a0 := (600, .inl (fun _ => 0))) (kc' := 0) (ks' := 0) C kc_byte rfl rfl (fun _ _ h => h) (fun _ => rfl) (by decide) (by decide) (by decide +kernel) (by decide +kernel) (by decide +kernel) dX3_init_8 (fun q1 => ?_)
  change KV G l p e s m args below meth c R _ _ _ _ _ _ _ (w0 ++ ((a, .inr (7, [.null, .int 0, .int 0, .int 0, .int 0, .int 0, .int 0, .int 0])) :: [(q1, .inl (G.1.2.1 1, 600, .inl (fun _ => 0)))]))
  refine k_putF (a := a) (ci := 7) (fs := [.null, .int 0, .int 0, .int 0, .int 0, .int 0, .int 0, .int 0]) (v := .ref q1) (j := 0) (k := 0) (T := TX3) C zin_3 tyX3 tyX3_ok nmX3 (by rfl) rfl (by decide) (zT_in 72 (by decide +kernel) (by decide +kernel)) rfl rfl hnm rfl rfl rfl rfl (Nat.le_of_ble_eq_true rfl) dX3_init_10 ?_
  change KV G l p e s m args below meth c R _ _ _ _ _ _ _ (w0 ++ ((a, .inr (7, [.ref q1, .int 0, .int 0, .int 0, .int 0, .int 0, .int 0, .int 0])) :: [(q1, .inl (G.1.2.1 1, 600, .inl (fun _ => 0)))]))
  refine k_aload_n C dX3_init_13 rfl 0 rfl ?_
  refine k_iconst C (v := (-1)) dX3_init_14 rfl ?_
  refine k_put (a := a) (ci := 7) (fs := [.ref q1, .int 0, .int 0, .int 0, .int 0, .int 0, .int 0, .int 0]) (v := .int (-1)) (j := 0) (k := 7) (T := TX3) C zin_3 tyX3 tyX3_ok nmX3 (by rfl) rfl (by decide) (zT_in 80 (by decide +kernel) (by decide +kernel)) rfl rfl rfl rfl rfl (Nat.le_of_ble_eq_true rfl) dX3_init_15 ?_
  change KV G l p e s m args below meth c R _ _ _ _ _ _ _ (w0 ++ ((a, .inr (7, [.ref q1, .int 0, .int 0, .int 0, .int 0, .int 0, .int 0, .int (-1)])) :: [(q1, .inl (G.1.2.1 1, 600, .inl (fun _ => 0)))]))
  refine k_ret C dX3_init_18 ⟨fun i => List.getD [q1] i 0, ?_⟩
  exact congrArg (fun z => w0 ++ z) rfl
def X2w (G : fG) (a : Nat) (b : Nat) (r rr : Nat → Nat) : va_W := ((a, .inr (6, [.ref b, .int 0, .ref (r 0), .ref (r 1), .ref (r 2), .ref (r 3), .ref (r 4), .int 0])) :: ((((([((r 0), .inl (G.1.2.1 0, 30, .inl (fun _ => 0)))] ++ [((r 1), .inl (G.1.2.1 2, 30, .inl (fun _ => 0)))]) ++ [((r 2), .inl (G.1.2.1 4, 30, .inr (.inr (.inr (.inr (fun i => if i < 30 then some (rr i) else none))))))]) ++ rwL G rr 30 4) ++ [((r 3), .inl (G.1.2.1 0, 30, .inl (fun _ => 0)))]) ++ [((r 4), .inl (G.1.2.1 0, 2, .inl (fun _ => 0)))]))
abbrev M_X2_init : zM := (yX2_init, cX2_init, 2, none, 2, [])
theorem i_X2_init : zIn M_X2_init 1 := ⟨zT_in 222 (by decide +kernel) (by decide +kernel), kin_2, ⟨by decide, by decide⟩, by decide +kernel, by decide⟩
set_option maxRecDepth 20000 in
theorem c_X2_init {a b : Nat} : KC G l M_X2_init 35 242 [.ref a, .ref b] (w0 ++ [(a, .inr (6, [.null, .int 0, .null, .null, .null, .null, .null, .int 0]))]) (fun w => ∃ r rr : Nat → Nat, w = w0 ++ X2w G a b r rr) := by
  refine KC_of rfl (Nat.le_of_ble_eq_true rfl) ?_
  intro p e s m args below meth c R hnm C
  change KV _ _ _ _ _ _ _ _ _ _ _ _ _ _ _ _ [(0, .ref a), (1, .ref b)] _ _
  refine k_aload_n C dX2_init_0 rfl 0 rfl ?_
  refine k_obj C (zT_in 223 (by decide +kernel) (by decide +kernel)) koi_i koi_c (by decide) (Nat.le_of_ble_eq_true rfl) dX2_init_1 ?_
  refine k_aload_n C dX2_init_4 rfl 0 rfl ?_
  refine k_bipush C (v := 30) dX2_init_5 (by decide) ?_
  refine k_newa (atype := .int) (t := 0) (N := 30) (a0 := (30, .inl (fun _ => 0))) (kc' := 34) (ks' := 212) C kc_int rfl rfl (fun _ _ h => h) (fun _ => rfl) (by decide) (by decide) (by decide +kernel) (by decide +kernel) (by decide +kernel) dX2_init_7 (fun q1 => ?_)
  change KV G l p e s m args below meth c R _ _ _ _ _ _ _ (w0 ++ ((a, .inr (6, [.null, .int 0, .null, .null, .null, .null, .null, .int 0])) :: [(q1, .inl (G.1.2.1 0, 30, .inl (fun _ => 0)))]))
  refine k_putF (a := a) (ci := 6) (fs := [.null, .int 0, .null, .null, .null, .null, .null, .int 0]) (v := .ref q1) (j := 0) (k := 2) (T := TX2) C zin_2 tyX2 tyX2_ok nmX2 (by rfl) rfl (by decide) (zT_in 227 (by decide +kernel) (by decide +kernel)) rfl rfl hnm rfl rfl rfl rfl (Nat.le_of_ble_eq_true rfl) dX2_init_9 ?_
  change KV G l p e s m args below meth c R _ _ _ _ _ _ _ (w0 ++ ((a, .inr (6, [.null, .int 0, .ref q1, .null, .null, .null, .null, .int 0])) :: [(q1, .inl (G.1.2.1 0, 30, .inl (fun _ => 0)))]))
  refine k_aload_n C dX2_init_12 rfl 0 rfl ?_
  refine k_bipush C (v := 30) dX2_init_13 (by decide) ?_
  refine k_newa (atype := .boolean) (t := 2) (N := 30) (a0 := (30, .inl (fun _ => 0))) (kc' := 33) (ks' := 182) C kc_boolean rfl rfl (fun _ _ h => h) (fun _ => rfl) (by decide) (by decide) (by decide +kernel) (by decide +kernel) (by decide +kernel) dX2_init_15 (fun q2 => ?_)
  change KV G l p e s m args below meth c R _ _ _ _ _ _ _ (w0 ++ ((a, .inr (6, [.null, .int 0, .ref q1, .null, .null, .null, .null, .int 0])) :: ([(q1, .inl (G.1.2.1 0, 30, .inl (fun _ => 0)))] ++ [(q2, .inl (G.1.2.1 2, 30, .inl (fun _ => 0)))])))
  refine k_putF (a := a) (ci := 6) (fs := [.null, .int 0, .ref q1, .null, .null, .null, .null, .int 0]) (v := .ref q2) (j := 0) (k := 3) (T := TX2) C zin_2 tyX2 tyX2_ok nmX2 (by rfl) rfl (by decide) (zT_in 228 (by decide +kernel) (by decide +kernel)) rfl rfl hnm rfl rfl rfl rfl (Nat.le_of_ble_eq_true rfl) dX2_init_17 ?_
  change KV G l p e s m args below meth c R _ _ _ _ _ _ _ (w0 ++ ((a, .inr (6, [.null, .int 0, .ref q1, .ref q2, .null, .null, .null, .int 0])) :: ([(q1, .inl (G.1.2.1 0, 30, .inl (fun _ => 0)))] ++ [(q2, .inl (G.1.2.1 2, 30, .inl (fun _ => 0)))])))
  refine k_aload_n C dX2_init_20 rfl 0 rfl ?_
  refine k_bipush C (v := 30) dX2_init_21 (by decide) ?_
  refine k_iconst C (v := 4) dX2_init_23 rfl ?_
  refine k_mna (N := 30) (K := 4) (kc' := 2) (ks' := 32) C (zT_in 224 (by decide +kernel) (by decide +kernel)) kc_int (by decide) (by decide) (by decide) (by decide) (Nat.le_of_ble_eq_true rfl) (Nat.le_of_ble_eq_true rfl) (Nat.le_of_ble_eq_true rfl) (Nat.le_of_ble_eq_true rfl) (Nat.le_of_ble_eq_true rfl) dX2_init_24 (fun q3 rr => ?_)
  refine k_cons ?_
  change KV G l p e s m args below meth c R _ _ _ _ _ _ _ (w0 ++ ((a, .inr (6, [.null, .int 0, .ref q1, .ref q2, .null, .null, .null, .int 0])) :: ((([(q1, .inl (G.1.2.1 0, 30, .inl (fun _ => 0)))] ++ [(q2, .inl (G.1.2.1 2, 30, .inl (fun _ => 0)))]) ++ [(q3, .inl (G.1.2.1 4, 30, .inr (.inr (.inr (.inr (fun i => if i < 30 then some (rr i) else none))))))]) ++ rwL G rr 30 4)))
  refine k_putF (a := a) (ci := 6) (fs := [.null, .int 0, .ref q1, .ref q2, .null, .null, .null, .int 0]) (v := .ref q3) (j := 0) (k := 4) (T := TX2) C zin_2 tyX2 tyX2_ok nmX2 (by rfl) rfl (by decide) (zT_in 229 (by decide +kernel) (by decide +kernel)) rfl rfl hnm rfl rfl rfl rfl (Nat.le_of_ble_eq_true rfl) dX2_init_28 ?_
  change KV G l p e s m args below meth c R _ _ _ _ _ _ _ (w0 ++ ((a, .inr (6, [.null, .int 0, .ref q1, .ref q2, .ref q3, .null, .null, .int 0])) :: ((([(q1, .inl (G.1.2.1 0, 30, .inl (fun _ => 0)))] ++ [(q2, .inl (G.1.2.1 2, 30, .inl (fun _ => 0)))]) ++ [(q3, .inl (G.1.2.1 4, 30, .inr (.inr (.inr (.inr (fun i => if i < 30 then some (rr i) else none))))))]) ++ rwL G rr 30 4)))
  refine k_aload_n C dX2_init_31 rfl 0 rfl ?_
  refine k_bipush C (v := 30) dX2_init_32 (by decide) ?_
  refine k_newa (atype := .int) (t := 0) (N := 30) (a0 := (30, .inl (fun _ => 0))) (kc' := 1) (ks' := 2) C kc_int rfl rfl (fun _ _ h => h) (fun _ => rfl) (by decide) (by decide) (by decide +kernel) (by decide +kernel) (by decide +kernel) dX2_init_34 (fun q4 => ?_)
  change KV G l p e s m args below meth c R _ _ _ _ _ _ _ (w0 ++ ((a, .inr (6, [.null, .int 0, .ref q1, .ref q2, .ref q3, .null, .null, .int 0])) :: (((([(q1, .inl (G.1.2.1 0, 30, .inl (fun _ => 0)))] ++ [(q2, .inl (G.1.2.1 2, 30, .inl (fun _ => 0)))]) ++ [(q3, .inl (G.1.2.1 4, 30, .inr (.inr (.inr (.inr (fun i => if i < 30 then some (rr i) else none))))))]) ++ rwL G rr 30 4) ++ [(q4, .inl (G.1.2.1 0, 30, .inl (fun _ => 0)))])))
  refine k_putF (a := a) (ci := 6) (fs := [.null, .int 0, .ref q1, .ref q2, .ref q3, .null, .null, .int 0]) (v := .ref q4) (j := 0) (k := 5) (T := TX2) C zin_2 tyX2 tyX2_ok nmX2 (by rfl) rfl (by decide) (zT_in 230 (by decide +kernel) (by decide +kernel)) rfl rfl hnm rfl rfl rfl rfl (Nat.le_of_ble_eq_true rfl) dX2_init_36 ?_
  change KV G l p e s m args below meth c R _ _ _ _ _ _ _ (w0 ++ ((a, .inr (6, [.null, .int 0, .ref q1, .ref q2, .ref q3, .ref q4, .null, .int 0])) :: (((([(q1, .inl (G.1.2.1 0, 30, .inl (fun _ => 0)))] ++ [(q2, .inl (G.1.2.1 2, 30, .inl (fun _ => 0)))]) ++ [(q3, .inl (G.1.2.1 4, 30, .inr (.inr (.inr (.inr (fun i => if i < 30 then some (rr i) else none))))))]) ++ rwL G rr 30 4) ++ [(q4, .inl (G.1.2.1 0, 30, .inl (fun _ => 0)))])))
  refine k_aload_n C dX2_init_39 rfl 0 rfl ?_
  refine k_iconst C (v := 2) dX2_init_40 rfl ?_
  refine k_newa (atype := .int) (t := 0) (N := 2) (a0 := (2, .inl (fun _ => 0))) (kc' := 0) (ks' := 0) C kc_int rfl rfl (fun _ _ h => h) (fun _ => rfl) (by decide) (by decide) (by decide +kernel) (by decide +kernel) (by decide +kernel) dX2_init_41 (fun q5 => ?_)
  change KV G l p e s m args below meth c R _ _ _ _ _ _ _ (w0 ++ ((a, .inr (6, [.null, .int 0, .ref q1, .ref q2, .ref q3, .ref q4, .null, .int 0])) :: ((((([(q1, .inl (G.1.2.1 0, 30, .inl (fun _ => 0)))] ++ [(q2, .inl (G.1.2.1 2, 30, .inl (fun _ => 0)))]) ++ [(q3, .inl (G.1.2.1 4, 30, .inr (.inr (.inr (.inr (fun i => if i < 30 then some (rr i) else none))))))]) ++ rwL G rr 30 4) ++ [(q4, .inl (G.1.2.1 0, 30, .inl (fun _ => 0)))]) ++ [(q5, .inl (G.1.2.1 0, 2, .inl (fun _ => 0)))])))
  refine k_putF (a := a) (ci := 6) (fs := [.null, .int 0, .ref q1, .ref q2, .ref q3, .ref q4, .null, .int 0]) (v := .ref q5) (j := 0) (k := 6) (T := TX2) C zin_2 tyX2 tyX2_ok nmX2 (by rfl) rfl (by decide) (zT_in 231 (by decide +kernel) (by decide +kernel)) rfl rfl hnm rfl rfl rfl rfl (Nat.le_of_ble_eq_true rfl) dX2_init_43 ?_
  change KV G l p e s m args below meth c R _ _ _ _ _ _ _ (w0 ++ ((a, .inr (6, [.null, .int 0, .ref q1, .ref q2, .ref q3, .ref q4, .ref q5, .int 0])) :: ((((([(q1, .inl (G.1.2.1 0, 30, .inl (fun _ => 0)))] ++ [(q2, .inl (G.1.2.1 2, 30, .inl (fun _ => 0)))]) ++ [(q3, .inl (G.1.2.1 4, 30, .inr (.inr (.inr (.inr (fun i => if i < 30 then some (rr i) else none))))))]) ++ rwL G rr 30 4) ++ [(q4, .inl (G.1.2.1 0, 30, .inl (fun _ => 0)))]) ++ [(q5, .inl (G.1.2.1 0, 2, .inl (fun _ => 0)))])))
  refine k_aload_n C dX2_init_46 rfl 0 rfl ?_
  refine k_aload_n C dX2_init_47 rfl 1 rfl ?_
  refine k_putF (a := a) (ci := 6) (fs := [.null, .int 0, .ref q1, .ref q2, .ref q3, .ref q4, .ref q5, .int 0]) (v := .ref b) (j := 0) (k := 0) (T := TX2) C zin_2 tyX2 tyX2_ok nmX2 (by rfl) rfl (by decide) (zT_in 226 (by decide +kernel) (by decide +kernel)) rfl rfl hnm rfl rfl rfl rfl (Nat.le_of_ble_eq_true rfl) dX2_init_48 ?_
  change KV G l p e s m args below meth c R _ _ _ _ _ _ _ (w0 ++ ((a, .inr (6, [.ref b, .int 0, .ref q1, .ref q2, .ref q3, .ref q4, .ref q5, .int 0])) :: ((((([(q1, .inl (G.1.2.1 0, 30, .inl (fun _ => 0)))] ++ [(q2, .inl (G.1.2.1 2, 30, .inl (fun _ => 0)))]) ++ [(q3, .inl (G.1.2.1 4, 30, .inr (.inr (.inr (.inr (fun i => if i < 30 then some (rr i) else none))))))]) ++ rwL G rr 30 4) ++ [(q4, .inl (G.1.2.1 0, 30, .inl (fun _ => 0)))]) ++ [(q5, .inl (G.1.2.1 0, 2, .inl (fun _ => 0)))])))
  refine k_ret C dX2_init_51 ⟨fun i => List.getD [q1, q2, q3, q4, q5] i 0, rr, ?_⟩
  exact congrArg (fun z => w0 ++ z) rfl
def X4w (G : fG) (a : Nat) (b : Nat) (r : Nat → Nat) : va_W := ((a, .inr (8, [.ref b, .ref (r 0), .int 0, .int 0, .int 0, .ref (r 10), .ref (r 11), .ref (r 12), .ref (r 13), .ref (r 14), .ref (r 15)])) :: ((((((X0w G (r 0) (fun i => r (i + 1)) ++ [((r 10), .inl (G.1.2.1 2, 16, .inl (fun _ => 0)))]) ++ [((r 11), .inl (G.1.2.1 0, 16, .inl (fun _ => 0)))]) ++ [((r 12), .inl (G.1.2.1 0, 16, .inl (fun _ => 0)))]) ++ [((r 13), .inl (G.1.2.1 0, 16, .inl (fun _ => 0)))]) ++ [((r 14), .inl (G.1.2.1 0, 16, .inl (fun _ => 0)))]) ++ [((r 15), .inl (G.1.2.1 0, 16, .inl (fun _ => 0)))]))
abbrev M_X4_init : zM := (yX4_init, cX4_init, 2, none, 3, [])
theorem i_X4_init : zIn M_X4_init 1 := ⟨zT_in 103 (by decide +kernel) (by decide +kernel), kin_4, ⟨by decide, by decide⟩, by decide +kernel, by decide⟩
set_option maxRecDepth 20000 in
theorem c_X4_init {a b : Nat} : KC G l M_X4_init 16 402 [.ref a, .ref b] (w0 ++ [(a, .inr (8, [.null, .null, .int 0, .int 0, .int 0, .null, .null, .null, .null, .null, .null]))]) (fun w => ∃ r : Nat → Nat, w = w0 ++ X4w G a b r) := by
  refine KC_of rfl (Nat.le_of_ble_eq_true rfl) ?_
  intro p e s m args below meth c R hnm C
  change KV _ _ _ _ _ _ _ _ _ _ _ _ _ _ _ _ [(0, .ref a), (1, .ref b)] _ _
  refine k_aload_n C dX4_init_0 rfl 0 rfl ?_
  refine k_obj C (zT_in 104 (by decide +kernel) (by decide +kernel)) koi_i koi_c (by decide) (Nat.le_of_ble_eq_true rfl) dX4_init_1 ?_
  refine k_aload_n C dX4_init_4 rfl 0 rfl ?_
  refine k_new (ci := 4) (T := TX0) (kc' := 15) (ks' := 386) C zin_0 tyX0 tyX0_ok (zT_in 105 (by decide +kernel) (by decide +kernel)) kmk_0 kin_0 rfl kdf_0 (Nat.le_of_ble_eq_true rfl) (Nat.le_of_ble_eq_true rfl) dX4_init_5 (fun q1 => ?_)
  change KV G l p e s m args below meth c R _ _ _ _ _ _ _ (w0 ++ ((a, .inr (8, [.null, .null, .int 0, .int 0, .int 0, .null, .null, .null, .null, .null, .null])) :: [(q1, .inr (4, [.int 0, .int 0, .int 0, .int 0, .int 0, .int 0, .int 0, .null, .null, .null, .null, .null, .null, .null, .null, .null]))]))
  refine k_dup C dX4_init_8 rfl ?_
  refine k_as (wr := ((a, .inr (8, [.null, .null, .int 0, .int 0, .int 0, .null, .null, .null, .null, .null, .null])) :: [])) (x := [(q1, .inr (4, [.int 0, .int 0, .int 0, .int 0, .int 0, .int 0, .int 0, .null, .null, .null, .null, .null, .null, .null, .null, .null]))]) ?_
  refine k_callIN C (N := M_X0_init) (n := 0) (jc := 9) (js := 290) (kc' := 6) (ks' := 96) (host := "BambooBlind") (av := []) (F := _) rfl (c_X0_init) i_X0_init rfl rfl rfl kii_0 (by decide +kernel) (by decide) (Nat.le_of_ble_eq_true rfl) (Nat.le_of_ble_eq_true rfl) (Nat.le_of_ble_eq_true rfl) dX4_init_9 (fun w hw => ?_)
  obtain ⟨r2, rfl⟩ := hw
  refine k_sa ?_
  change KV G l p e s m args below meth c R _ _ _ _ _ _ _ (w0 ++ ((a, .inr (8, [.null, .null, .int 0, .int 0, .int 0, .null, .null, .null, .null, .null, .null])) :: X0w G q1 r2))
  refine k_putF (a := a) (ci := 8) (fs := [.null, .null, .int 0, .int 0, .int 0, .null, .null, .null, .null, .null, .null]) (v := .ref q1) (j := 0) (k := 1) (T := TX4) C zin_4 tyX4 tyX4_ok nmX4 (by rfl) rfl (by decide) (zT_in 183 (by decide +kernel) (by decide +kernel)) rfl rfl hnm rfl rfl rfl rfl (Nat.le_of_ble_eq_true rfl) dX4_init_12 ?_
  change KV G l p e s m args below meth c R _ _ _ _ _ _ _ (w0 ++ ((a, .inr (8, [.null, .ref q1, .int 0, .int 0, .int 0, .null, .null, .null, .null, .null, .null])) :: X0w G q1 r2))
  refine k_aload_n C dX4_init_15 rfl 0 rfl ?_
  refine k_bipush C (v := 16) dX4_init_16 (by decide) ?_
  refine k_newa (atype := .boolean) (t := 2) (N := 16) (a0 := (16, .inl (fun _ => 0))) (kc' := 5) (ks' := 80) C kc_boolean rfl rfl (fun _ _ h => h) (fun _ => rfl) (by decide) (by decide) (by decide +kernel) (by decide +kernel) (by decide +kernel) dX4_init_18 (fun q3 => ?_)
  change KV G l p e s m args below meth c R _ _ _ _ _ _ _ (w0 ++ ((a, .inr (8, [.null, .ref q1, .int 0, .int 0, .int 0, .null, .null, .null, .null, .null, .null])) :: (X0w G q1 r2 ++ [(q3, .inl (G.1.2.1 2, 16, .inl (fun _ => 0)))])))
  refine k_putF (a := a) (ci := 8) (fs := [.null, .ref q1, .int 0, .int 0, .int 0, .null, .null, .null, .null, .null, .null]) (v := .ref q3) (j := 0) (k := 5) (T := TX4) C zin_4 tyX4 tyX4_ok nmX4 (by rfl) rfl (by decide) (zT_in 188 (by decide +kernel) (by decide +kernel)) rfl rfl hnm rfl rfl rfl rfl (Nat.le_of_ble_eq_true rfl) dX4_init_20 ?_
  change KV G l p e s m args below meth c R _ _ _ _ _ _ _ (w0 ++ ((a, .inr (8, [.null, .ref q1, .int 0, .int 0, .int 0, .ref q3, .null, .null, .null, .null, .null])) :: (X0w G q1 r2 ++ [(q3, .inl (G.1.2.1 2, 16, .inl (fun _ => 0)))])))
  refine k_aload_n C dX4_init_23 rfl 0 rfl ?_
  refine k_bipush C (v := 16) dX4_init_24 (by decide) ?_
  refine k_newa (atype := .int) (t := 0) (N := 16) (a0 := (16, .inl (fun _ => 0))) (kc' := 4) (ks' := 64) C kc_int rfl rfl (fun _ _ h => h) (fun _ => rfl) (by decide) (by decide) (by decide +kernel) (by decide +kernel) (by decide +kernel) dX4_init_26 (fun q4 => ?_)
  change KV G l p e s m args below meth c R _ _ _ _ _ _ _ (w0 ++ ((a, .inr (8, [.null, .ref q1, .int 0, .int 0, .int 0, .ref q3, .null, .null, .null, .null, .null])) :: ((X0w G q1 r2 ++ [(q3, .inl (G.1.2.1 2, 16, .inl (fun _ => 0)))]) ++ [(q4, .inl (G.1.2.1 0, 16, .inl (fun _ => 0)))])))
  refine k_putF (a := a) (ci := 8) (fs := [.null, .ref q1, .int 0, .int 0, .int 0, .ref q3, .null, .null, .null, .null, .null]) (v := .ref q4) (j := 0) (k := 6) (T := TX4) C zin_4 tyX4 tyX4_ok nmX4 (by rfl) rfl (by decide) (zT_in 189 (by decide +kernel) (by decide +kernel)) rfl rfl hnm rfl rfl rfl rfl (Nat.le_of_ble_eq_true rfl) dX4_init_28 ?_
  change KV G l p e s m args below meth c R _ _ _ _ _ _ _ (w0 ++ ((a, .inr (8, [.null, .ref q1, .int 0, .int 0, .int 0, .ref q3, .ref q4, .null, .null, .null, .null])) :: ((X0w G q1 r2 ++ [(q3, .inl (G.1.2.1 2, 16, .inl (fun _ => 0)))]) ++ [(q4, .inl (G.1.2.1 0, 16, .inl (fun _ => 0)))])))
  refine k_aload_n C dX4_init_31 rfl 0 rfl ?_
  refine k_bipush C (v := 16) dX4_init_32 (by decide) ?_
  refine k_newa (atype := .int) (t := 0) (N := 16) (a0 := (16, .inl (fun _ => 0))) (kc' := 3) (ks' := 48) C kc_int rfl rfl (fun _ _ h => h) (fun _ => rfl) (by decide) (by decide) (by decide +kernel) (by decide +kernel) (by decide +kernel) dX4_init_34 (fun q5 => ?_)
  change KV G l p e s m args below meth c R _ _ _ _ _ _ _ (w0 ++ ((a, .inr (8, [.null, .ref q1, .int 0, .int 0, .int 0, .ref q3, .ref q4, .null, .null, .null, .null])) :: (((X0w G q1 r2 ++ [(q3, .inl (G.1.2.1 2, 16, .inl (fun _ => 0)))]) ++ [(q4, .inl (G.1.2.1 0, 16, .inl (fun _ => 0)))]) ++ [(q5, .inl (G.1.2.1 0, 16, .inl (fun _ => 0)))])))
  refine k_putF (a := a) (ci := 8) (fs := [.null, .ref q1, .int 0, .int 0, .int 0, .ref q3, .ref q4, .null, .null, .null, .null]) (v := .ref q5) (j := 0) (k := 7) (T := TX4) C zin_4 tyX4 tyX4_ok nmX4 (by rfl) rfl (by decide) (zT_in 190 (by decide +kernel) (by decide +kernel)) rfl rfl hnm rfl rfl rfl rfl (Nat.le_of_ble_eq_true rfl) dX4_init_36 ?_
  change KV G l p e s m args below meth c R _ _ _ _ _ _ _ (w0 ++ ((a, .inr (8, [.null, .ref q1, .int 0, .int 0, .int 0, .ref q3, .ref q4, .ref q5, .null, .null, .null])) :: (((X0w G q1 r2 ++ [(q3, .inl (G.1.2.1 2, 16, .inl (fun _ => 0)))]) ++ [(q4, .inl (G.1.2.1 0, 16, .inl (fun _ => 0)))]) ++ [(q5, .inl (G.1.2.1 0, 16, .inl (fun _ => 0)))])))
  refine k_aload_n C dX4_init_39 rfl 0 rfl ?_
  refine k_bipush C (v := 16) dX4_init_40 (by decide) ?_
  refine k_newa (atype := .int) (t := 0) (N := 16) (a0 := (16, .inl (fun _ => 0))) (kc' := 2) (ks' := 32) C kc_int rfl rfl (fun _ _ h => h) (fun _ => rfl) (by decide) (by decide) (by decide +kernel) (by decide +kernel) (by decide +kernel) dX4_init_42 (fun q6 => ?_)
  change KV G l p e s m args below meth c R _ _ _ _ _ _ _ (w0 ++ ((a, .inr (8, [.null, .ref q1, .int 0, .int 0, .int 0, .ref q3, .ref q4, .ref q5, .null, .null, .null])) :: ((((X0w G q1 r2 ++ [(q3, .inl (G.1.2.1 2, 16, .inl (fun _ => 0)))]) ++ [(q4, .inl (G.1.2.1 0, 16, .inl (fun _ => 0)))]) ++ [(q5, .inl (G.1.2.1 0, 16, .inl (fun _ => 0)))]) ++ [(q6, .inl (G.1.2.1 0, 16, .inl (fun _ => 0)))])))
  refine k_putF (a := a) (ci := 8) (fs := [.null, .ref q1, .int 0, .int 0, .int 0, .ref q3, .ref q4, .ref q5, .null, .null, .null]) (v := .ref q6) (j := 0) (k := 8) (T := TX4) C zin_4 tyX4 tyX4_ok nmX4 (by rfl) rfl (by decide) (zT_in 191 (by decide +kernel) (by decide +kernel)) rfl rfl hnm rfl rfl rfl rfl (Nat.le_of_ble_eq_true rfl) dX4_init_44 ?_
  change KV G l p e s m args below meth c R _ _ _ _ _ _ _ (w0 ++ ((a, .inr (8, [.null, .ref q1, .int 0, .int 0, .int 0, .ref q3, .ref q4, .ref q5, .ref q6, .null, .null])) :: ((((X0w G q1 r2 ++ [(q3, .inl (G.1.2.1 2, 16, .inl (fun _ => 0)))]) ++ [(q4, .inl (G.1.2.1 0, 16, .inl (fun _ => 0)))]) ++ [(q5, .inl (G.1.2.1 0, 16, .inl (fun _ => 0)))]) ++ [(q6, .inl (G.1.2.1 0, 16, .inl (fun _ => 0)))])))
  refine k_aload_n C dX4_init_47 rfl 0 rfl ?_
  refine k_bipush C (v := 16) dX4_init_48 (by decide) ?_
  refine k_newa (atype := .int) (t := 0) (N := 16) (a0 := (16, .inl (fun _ => 0))) (kc' := 1) (ks' := 16) C kc_int rfl rfl (fun _ _ h => h) (fun _ => rfl) (by decide) (by decide) (by decide +kernel) (by decide +kernel) (by decide +kernel) dX4_init_50 (fun q7 => ?_)
  change KV G l p e s m args below meth c R _ _ _ _ _ _ _ (w0 ++ ((a, .inr (8, [.null, .ref q1, .int 0, .int 0, .int 0, .ref q3, .ref q4, .ref q5, .ref q6, .null, .null])) :: (((((X0w G q1 r2 ++ [(q3, .inl (G.1.2.1 2, 16, .inl (fun _ => 0)))]) ++ [(q4, .inl (G.1.2.1 0, 16, .inl (fun _ => 0)))]) ++ [(q5, .inl (G.1.2.1 0, 16, .inl (fun _ => 0)))]) ++ [(q6, .inl (G.1.2.1 0, 16, .inl (fun _ => 0)))]) ++ [(q7, .inl (G.1.2.1 0, 16, .inl (fun _ => 0)))])))
  refine k_putF (a := a) (ci := 8) (fs := [.null, .ref q1, .int 0, .int 0, .int 0, .ref q3, .ref q4, .ref q5, .ref q6, .null, .null]) (v := .ref q7) (j := 0) (k := 9) (T := TX4) C zin_4 tyX4 tyX4_ok nmX4 (by rfl) rfl (by decide) (zT_in 192 (by decide +kernel) (by decide +kernel)) rfl rfl hnm rfl rfl rfl rfl (Nat.le_of_ble_eq_true rfl) dX4_init_52 ?_
  change KV G l p e s m args below meth c R _ _ _ _ _ _ _ (w0 ++ ((a, .inr (8, [.null, .ref q1, .int 0, .int 0, .int 0, .ref q3, .ref q4, .ref q5, .ref q6, .ref q7, .null])) :: (((((X0w G q1 r2 ++ [(q3, .inl (G.1.2.1 2, 16, .inl (fun _ => 0)))]) ++ [(q4, .inl (G.1.2.1 0, 16, .inl (fun _ => 0)))]) ++ [(q5, .inl (G.1.2.1 0, 16, .inl (fun _ => 0)))]) ++ [(q6, .inl (G.1.2.1 0, 16, .inl (fun _ => 0)))]) ++ [(q7, .inl (G.1.2.1 0, 16, .inl (fun _ => 0)))])))
  refine k_aload_n C dX4_init_55 rfl 0 rfl ?_
  refine k_bipush C (v := 16) dX4_init_56 (by decide) ?_
  refine k_newa (atype := .int) (t := 0) (N := 16) (a0 := (16, .inl (fun _ => 0))) (kc' := 0) (ks' := 0) C kc_int rfl rfl (fun _ _ h => h) (fun _ => rfl) (by decide) (by decide) (by decide +kernel) (by decide +kernel) (by decide +kernel) dX4_init_58 (fun q8 => ?_)
  change KV G l p e s m args below meth c R _ _ _ _ _ _ _ (w0 ++ ((a, .inr (8, [.null, .ref q1, .int 0, .int 0, .int 0, .ref q3, .ref q4, .ref q5, .ref q6, .ref q7, .null])) :: ((((((X0w G q1 r2 ++ [(q3, .inl (G.1.2.1 2, 16, .inl (fun _ => 0)))]) ++ [(q4, .inl (G.1.2.1 0, 16, .inl (fun _ => 0)))]) ++ [(q5, .inl (G.1.2.1 0, 16, .inl (fun _ => 0)))]) ++ [(q6, .inl (G.1.2.1 0, 16, .inl (fun _ => 0)))]) ++ [(q7, .inl (G.1.2.1 0, 16, .inl (fun _ => 0)))]) ++ [(q8, .inl (G.1.2.1 0, 16, .inl (fun _ => 0)))])))
  refine k_putF (a := a) (ci := 8) (fs := [.null, .ref q1, .int 0, .int 0, .int 0, .ref q3, .ref q4, .ref q5, .ref q6, .ref q7, .null]) (v := .ref q8) (j := 0) (k := 10) (T := TX4) C zin_4 tyX4 tyX4_ok nmX4 (by rfl) rfl (by decide) (zT_in 193 (by decide +kernel) (by decide +kernel)) rfl rfl hnm rfl rfl rfl rfl (Nat.le_of_ble_eq_true rfl) dX4_init_60 ?_
  change KV G l p e s m args below meth c R _ _ _ _ _ _ _ (w0 ++ ((a, .inr (8, [.null, .ref q1, .int 0, .int 0, .int 0, .ref q3, .ref q4, .ref q5, .ref q6, .ref q7, .ref q8])) :: ((((((X0w G q1 r2 ++ [(q3, .inl (G.1.2.1 2, 16, .inl (fun _ => 0)))]) ++ [(q4, .inl (G.1.2.1 0, 16, .inl (fun _ => 0)))]) ++ [(q5, .inl (G.1.2.1 0, 16, .inl (fun _ => 0)))]) ++ [(q6, .inl (G.1.2.1 0, 16, .inl (fun _ => 0)))]) ++ [(q7, .inl (G.1.2.1 0, 16, .inl (fun _ => 0)))]) ++ [(q8, .inl (G.1.2.1 0, 16, .inl (fun _ => 0)))])))
  refine k_aload_n C dX4_init_63 rfl 0 rfl ?_
  refine k_aload_n C dX4_init_64 rfl 1 rfl ?_
  refine k_putF (a := a) (ci := 8) (fs := [.null, .ref q1, .int 0, .int 0, .int 0, .ref q3, .ref q4, .ref q5, .ref q6, .ref q7, .ref q8]) (v := .ref b) (j := 0) (k := 0) (T := TX4) C zin_4 tyX4 tyX4_ok nmX4 (by rfl) rfl (by decide) (zT_in 182 (by decide +kernel) (by decide +kernel)) rfl rfl hnm rfl rfl rfl rfl (Nat.le_of_ble_eq_true rfl) dX4_init_65 ?_
  change KV G l p e s m args below meth c R _ _ _ _ _ _ _ (w0 ++ ((a, .inr (8, [.ref b, .ref q1, .int 0, .int 0, .int 0, .ref q3, .ref q4, .ref q5, .ref q6, .ref q7, .ref q8])) :: ((((((X0w G q1 r2 ++ [(q3, .inl (G.1.2.1 2, 16, .inl (fun _ => 0)))]) ++ [(q4, .inl (G.1.2.1 0, 16, .inl (fun _ => 0)))]) ++ [(q5, .inl (G.1.2.1 0, 16, .inl (fun _ => 0)))]) ++ [(q6, .inl (G.1.2.1 0, 16, .inl (fun _ => 0)))]) ++ [(q7, .inl (G.1.2.1 0, 16, .inl (fun _ => 0)))]) ++ [(q8, .inl (G.1.2.1 0, 16, .inl (fun _ => 0)))])))
  refine k_ret C dX4_init_68 ⟨fun i => List.getD [q1, (r2 0), (r2 1), (r2 2), (r2 3), (r2 4), (r2 5), (r2 6), (r2 7), (r2 8), q3, q4, q5, q6, q7, q8] i 0, ?_⟩
  exact congrArg (fun z => w0 ++ z) rfl
def X5w (G : fG) (a : Nat) (b : Nat) (r : Nat → Nat) : va_W := ((a, .inr (9, [.ref b, .ref (r 0), .ref (r 1), .ref (r 2)])) :: (([((r 0), .inl (G.1.2.1 0, 60, .inl (fun _ => 0)))] ++ [((r 1), .inl (G.1.2.1 0, 60, .inl (fun _ => 0)))]) ++ [((r 2), .inl (G.1.2.1 2, 60, .inl (fun _ => 0)))]))
abbrev M_X5_init : zM := (yX5_init, cX5_init, 2, none, 2, [])
theorem i_X5_init : zIn M_X5_init 1 := ⟨zT_in 275 (by decide +kernel) (by decide +kernel), kin_5, ⟨by decide, by decide⟩, by decide +kernel, by decide⟩
set_option maxRecDepth 20000 in
theorem c_X5_init {a b : Nat} : KC G l M_X5_init 3 180 [.ref a, .ref b] (w0 ++ [(a, .inr (9, [.null, .null, .null, .null]))]) (fun w => ∃ r : Nat → Nat, w = w0 ++ X5w G a b r) := by
  refine KC_of rfl (Nat.le_of_ble_eq_true rfl) ?_
  intro p e s m args below meth c R hnm C
  change KV _ _ _ _ _ _ _ _ _ _ _ _ _ _ _ _ [(0, .ref a), (1, .ref b)] _ _
  refine k_aload_n C dX5_init_0 rfl 0 rfl ?_
  refine k_obj C (zT_in 276 (by decide +kernel) (by decide +kernel)) koi_i koi_c (by decide) (Nat.le_of_ble_eq_true rfl) dX5_init_1 ?_
  refine k_aload_n C dX5_init_4 rfl 0 rfl ?_
  refine k_bipush C (v := 60) dX5_init_5 (by decide) ?_
  refine k_newa (atype := .int) (t := 0) (N := 60) (a0 := (60, .inl (fun _ => 0))) (kc' := 2) (ks' := 120) C kc_int rfl rfl (fun _ _ h => h) (fun _ => rfl) (by decide) (by decide) (by decide +kernel) (by decide +kernel) (by decide +kernel) dX5_init_7 (fun q1 => ?_)
  change KV G l p e s m args below meth c R _ _ _ _ _ _ _ (w0 ++ ((a, .inr (9, [.null, .null, .null, .null])) :: [(q1, .inl (G.1.2.1 0, 60, .inl (fun _ => 0)))]))
  refine k_putF (a := a) (ci := 9) (fs := [.null, .null, .null, .null]) (v := .ref q1) (j := 0) (k := 1) (T := TX5) C zin_5 tyX5 tyX5_ok nmX5 (by rfl) rfl (by decide) (zT_in 278 (by decide +kernel) (by decide +kernel)) rfl rfl hnm rfl rfl rfl rfl (Nat.le_of_ble_eq_true rfl) dX5_init_9 ?_
  change KV G l p e s m args below meth c R _ _ _ _ _ _ _ (w0 ++ ((a, .inr (9, [.null, .ref q1, .null, .null])) :: [(q1, .inl (G.1.2.1 0, 60, .inl (fun _ => 0)))]))
  refine k_aload_n C dX5_init_12 rfl 0 rfl ?_
  refine k_bipush C (v := 60) dX5_init_13 (by decide) ?_
  refine k_newa (atype := .int) (t := 0) (N := 60) (a0 := (60, .inl (fun _ => 0))) (kc' := 1) (ks' := 60) C kc_int rfl rfl (fun _ _ h => h) (fun _ => rfl) (by decide) (by decide) (by decide +kernel) (by decide +kernel) (by decide +kernel) dX5_init_15 (fun q2 => ?_)
  change KV G l p e s m args below meth c R _ _ _ _ _ _ _ (w0 ++ ((a, .inr (9, [.null, .ref q1, .null, .null])) :: ([(q1, .inl (G.1.2.1 0, 60, .inl (fun _ => 0)))] ++ [(q2, .inl (G.1.2.1 0, 60, .inl (fun _ => 0)))])))
  refine k_putF (a := a) (ci := 9) (fs := [.null, .ref q1, .null, .null]) (v := .ref q2) (j := 0) (k := 2) (T := TX5) C zin_5 tyX5 tyX5_ok nmX5 (by rfl) rfl (by decide) (zT_in 279 (by decide +kernel) (by decide +kernel)) rfl rfl hnm rfl rfl rfl rfl (Nat.le_of_ble_eq_true rfl) dX5_init_17 ?_
  change KV G l p e s m args below meth c R _ _ _ _ _ _ _ (w0 ++ ((a, .inr (9, [.null, .ref q1, .ref q2, .null])) :: ([(q1, .inl (G.1.2.1 0, 60, .inl (fun _ => 0)))] ++ [(q2, .inl (G.1.2.1 0, 60, .inl (fun _ => 0)))])))
  refine k_aload_n C dX5_init_20 rfl 0 rfl ?_
  refine k_bipush C (v := 60) dX5_init_21 (by decide) ?_
  refine k_newa (atype := .boolean) (t := 2) (N := 60) (a0 := (60, .inl (fun _ => 0))) (kc' := 0) (ks' := 0) C kc_boolean rfl rfl (fun _ _ h => h) (fun _ => rfl) (by decide) (by decide) (by decide +kernel) (by decide +kernel) (by decide +kernel) dX5_init_23 (fun q3 => ?_)
  change KV G l p e s m args below meth c R _ _ _ _ _ _ _ (w0 ++ ((a, .inr (9, [.null, .ref q1, .ref q2, .null])) :: (([(q1, .inl (G.1.2.1 0, 60, .inl (fun _ => 0)))] ++ [(q2, .inl (G.1.2.1 0, 60, .inl (fun _ => 0)))]) ++ [(q3, .inl (G.1.2.1 2, 60, .inl (fun _ => 0)))])))
  refine k_putF (a := a) (ci := 9) (fs := [.null, .ref q1, .ref q2, .null]) (v := .ref q3) (j := 0) (k := 3) (T := TX5) C zin_5 tyX5 tyX5_ok nmX5 (by rfl) rfl (by decide) (zT_in 280 (by decide +kernel) (by decide +kernel)) rfl rfl hnm rfl rfl rfl rfl (Nat.le_of_ble_eq_true rfl) dX5_init_25 ?_
  change KV G l p e s m args below meth c R _ _ _ _ _ _ _ (w0 ++ ((a, .inr (9, [.null, .ref q1, .ref q2, .ref q3])) :: (([(q1, .inl (G.1.2.1 0, 60, .inl (fun _ => 0)))] ++ [(q2, .inl (G.1.2.1 0, 60, .inl (fun _ => 0)))]) ++ [(q3, .inl (G.1.2.1 2, 60, .inl (fun _ => 0)))])))
  refine k_aload_n C dX5_init_28 rfl 0 rfl ?_
  refine k_aload_n C dX5_init_29 rfl 1 rfl ?_
  refine k_putF (a := a) (ci := 9) (fs := [.null, .ref q1, .ref q2, .ref q3]) (v := .ref b) (j := 0) (k := 0) (T := TX5) C zin_5 tyX5 tyX5_ok nmX5 (by rfl) rfl (by decide) (zT_in 277 (by decide +kernel) (by decide +kernel)) rfl rfl hnm rfl rfl rfl rfl (Nat.le_of_ble_eq_true rfl) dX5_init_30 ?_
  change KV G l p e s m args below meth c R _ _ _ _ _ _ _ (w0 ++ ((a, .inr (9, [.ref b, .ref q1, .ref q2, .ref q3])) :: (([(q1, .inl (G.1.2.1 0, 60, .inl (fun _ => 0)))] ++ [(q2, .inl (G.1.2.1 0, 60, .inl (fun _ => 0)))]) ++ [(q3, .inl (G.1.2.1 2, 60, .inl (fun _ => 0)))])))
  refine k_ret C dX5_init_33 ⟨fun i => List.getD [q1, q2, q3] i 0, ?_⟩
  exact congrArg (fun z => w0 ++ z) rfl
end ZKc
