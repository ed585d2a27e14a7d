/-! the constructors (made by cons.py) -/
section ZKc
variable {g : zG} {l : Launch} {w0 : va_W}
theorem oi_i : Cond.instanceMethod Lib.objectInit ∈ zT := zT_in 150 (by decide +kernel) (by decide +kernel)
theorem oi_c : Cond.code Lib.objectInit ⟨#[0xb1]⟩ 1 none ∈ zT := zT_in 151 (by decide +kernel) (by decide +kernel)
theorem ac_int : Cond.arrayClass .int ∈ zT := zT_in 271 (by decide +kernel) (by decide +kernel)
theorem ac_byte : Cond.arrayClass .byte ∈ zT := zT_in 186 (by decide +kernel) (by decide +kernel)
theorem ac_boolean : Cond.arrayClass .boolean ∈ zT := zT_in 307 (by decide +kernel) (by decide +kernel)
theorem ac_long : Cond.arrayClass .long ∈ zT := zT_in 2083 (by decide +kernel) (by decide +kernel)
theorem ac_double : Cond.arrayClass .double ∈ zT := zT_in 2084 (by decide +kernel) (by decide +kernel)
theorem df_0 : ∀ j, j < 16 → defaultValue (tyX0 j) = vp_V [.int 0, .int 0, .int 0, .int 0, .int 0, .int 0, .int 0, .null, .null, .null, .null, .null, .null, .null, .null, .null] j := fun j hj => match j, hj with
  | 0, _ => rfl
  | 1, _ => rfl
  | 2, _ => rfl
  | 3, _ => rfl
  | 4, _ => rfl
  | 5, _ => rfl
  | 6, _ => rfl
  | 7, _ => rfl
  | 8, _ => rfl
  | 9, _ => rfl
  | 10, _ => rfl
  | 11, _ => rfl
  | 12, _ => rfl
  | 13, _ => rfl
  | 14, _ => rfl
  | 15, _ => rfl
  | j + 16, h => absurd h (by omega)
theorem in_0 : Cond.initialized RX0 ∈ zT := zT_in 125 (by decide +kernel) (by decide +kernel)
theorem mk_0 : Cond.instantiable RX0 16 ∈ zT := zT_in 194 (by decide +kernel) (by decide +kernel)
theorem ii_0 : Cond.instanceMethod yX0_init ∈ zT := zT_in 196 (by decide +kernel) (by decide +kernel)
theorem df_1 : ∀ j, j < 3 → defaultValue (tyX1 j) = vp_V [.null, .int 0, .int 0] j := fun j hj => match j, hj with
  | 0, _ => rfl
  | 1, _ => rfl
  | 2, _ => rfl
  | j + 3, h => absurd h (by omega)
theorem in_1 : Cond.initialized RX1 ∈ zT := zT_in 127 (by decide +kernel) (by decide +kernel)
theorem mk_1 : Cond.instantiable RX1 3 ∈ zT := zT_in 349 (by decide +kernel) (by decide +kernel)
theorem ii_1 : Cond.instanceMethod yX1_init ∈ zT := zT_in 351 (by decide +kernel) (by decide +kernel)
theorem df_2 : ∀ j, j < 8 → defaultValue (tyX2 j) = vp_V [.null, .int 0, .null, .null, .null, .null, .null, .int 0] j := fun j hj => match j, hj with
  | 0, _ => rfl
  | 1, _ => rfl
  | 2, _ => rfl
  | 3, _ => rfl
  | 4, _ => rfl
  | 5, _ => rfl
  | 6, _ => rfl
  | 7, _ => rfl
  | j + 8, h => absurd h (by omega)
theorem in_2 : Cond.initialized RX2 ∈ zT := zT_in 126 (by decide +kernel) (by decide +kernel)
theorem mk_2 : Cond.instantiable RX2 8 ∈ zT := zT_in 309 (by decide +kernel) (by decide +kernel)
theorem ii_2 : Cond.instanceMethod yX2_init ∈ zT := zT_in 311 (by decide +kernel) (by decide +kernel)
theorem df_3 : ∀ j, j < 8 → defaultValue (tyX3 j) = vp_V [.null, .int 0, .int 0, .int 0, .int 0, .int 0, .int 0, .int 0] j := fun j hj => match j, hj with
  | 0, _ => rfl
  | 1, _ => rfl
  | 2, _ => rfl
  | 3, _ => rfl
  | 4, _ => rfl
  | 5, _ => rfl
  | 6, _ => rfl
  | 7, _ => rfl
  | j + 8, h => absurd h (by omega)
theorem in_3 : Cond.initialized RX3 ∈ zT := zT_in 123 (by decide +kernel) (by decide +kernel)
theorem mk_3 : Cond.instantiable RX3 8 ∈ zT := zT_in 153 (by decide +kernel) (by decide +kernel)
theorem ii_3 : Cond.instanceMethod yX3_init ∈ zT := zT_in 155 (by decide +kernel) (by decide +kernel)
theorem df_4 : ∀ j, j < 11 → defaultValue (tyX4 j) = vp_V [.null, .null, .int 0, .int 0, .int 0, .null, .null, .null, .null, .null, .null] j := fun j hj => match j, hj with
  | 0, _ => rfl
  | 1, _ => rfl
  | 2, _ => rfl
  | 3, _ => rfl
  | 4, _ => rfl
  | 5, _ => rfl
  | 6, _ => rfl
  | 7, _ => rfl
  | 8, _ => rfl
  | 9, _ => rfl
  | 10, _ => rfl
  | j + 11, h => absurd h (by omega)
theorem in_4 : Cond.initialized RX4 ∈ zT := zT_in 124 (by decide +kernel) (by decide +kernel)
theorem mk_4 : Cond.instantiable RX4 11 ∈ zT := zT_in 188 (by decide +kernel) (by decide +kernel)
theorem ii_4 : Cond.instanceMethod yX4_init ∈ zT := zT_in 190 (by decide +kernel) (by decide +kernel)
theorem df_5 : ∀ j, j < 4 → defaultValue (tyX5 j) = vp_V [.null, .null, .null, .null] j := fun j hj => match j, hj with
  | 0, _ => rfl
  | 1, _ => rfl
  | 2, _ => rfl
  | 3, _ => rfl
  | j + 4, h => absurd h (by omega)
theorem in_5 : Cond.initialized RX5 ∈ zT := zT_in 128 (by decide +kernel) (by decide +kernel)
theorem mk_5 : Cond.instantiable RX5 4 ∈ zT := zT_in 369 (by decide +kernel) (by decide +kernel)
theorem ii_5 : Cond.instanceMethod yX5_init ∈ zT := zT_in 371 (by decide +kernel) (by decide +kernel)
theorem df_6 : ∀ j, j < 12 → defaultValue (tyX6 j) = vp_V [.null, .null, .null, .null, .null, .null, .null, .null, .null, .int 0, .int 0, .int 0] j := fun j hj => match j, hj with
  | 0, _ => rfl
  | 1, _ => rfl
  | 2, _ => rfl
  | 3, _ => rfl
  | 4, _ => rfl
  | 5, _ => rfl
  | 6, _ => rfl
  | 7, _ => rfl
  | 8, _ => rfl
  | 9, _ => rfl
  | 10, _ => rfl
  | 11, _ => rfl
  | j + 12, h => absurd h (by omega)
theorem in_6 : Cond.initialized RX6 ∈ zT := zT_in 122 (by decide +kernel) (by decide +kernel)
theorem mk_6 : Cond.instantiable RX6 12 ∈ zT := zT_in 145 (by decide +kernel) (by decide +kernel)
theorem ii_6 : Cond.instanceMethod yX6_init ∈ zT := zT_in 147 (by decide +kernel) (by decide +kernel)
theorem df_7 : ∀ j, j < 36 → defaultValue (tyX7 j) = vp_V [.int 0, .null, .int 0, .int 0, .int 0, .int 0, .int 0, .int 0, .int 0, .int 0, .int 0, .int 0, .long 0, .null, .null, .null, .null, .null, .int 0, .int 0, .int 0, .null, .null, .null, .null, .null, .null, .null, .null, .null, .int 0, .int 0, .int 0, .null, .int 0, .int 0] j := fun j hj => match j, hj with
  | 0, _ => rfl
  | 1, _ => rfl
  | 2, _ => rfl
  | 3, _ => rfl
  | 4, _ => rfl
  | 5, _ => rfl
  | 6, _ => rfl
  | 7, _ => rfl
  | 8, _ => rfl
  | 9, _ => rfl
  | 10, _ => rfl
  | 11, _ => rfl
  | 12, _ => rfl
  | 13, _ => rfl
  | 14, _ => rfl
  | 15, _ => rfl
  | 16, _ => rfl
  | 17, _ => rfl
  | 18, _ => rfl
  | 19, _ => rfl
  | 20, _ => rfl
  | 21, _ => rfl
  | 22, _ => rfl
  | 23, _ => rfl
  | 24, _ => rfl
  | 25, _ => rfl
  | 26, _ => rfl
  | 27, _ => rfl
  | 28, _ => rfl
  | 29, _ => rfl
  | 30, _ => rfl
  | 31, _ => rfl
  | 32, _ => rfl
  | 33, _ => rfl
  | 34, _ => rfl
  | 35, _ => rfl
  | j + 36, h => absurd h (by omega)
theorem in_7 : Cond.initialized RX7 ∈ zT := zT_in 129 (by decide +kernel) (by decide +kernel)
theorem mk_7 : Cond.instantiable RX7 36 ∈ zT := zT_in 1357 (by decide +kernel) (by decide +kernel)
theorem ii_7 : Cond.instanceMethod yX7_init ∈ zT := zT_in 1359 (by decide +kernel) (by decide +kernel)
theorem k_as {p : Program} {e : Env} {s : State} {m : MethodId} {args : Array Value} {below : List Frame} {meth : Method} {c : Code} {R : Room} {Z : State → Prop} {nL kc ks pc : Nat} {ls : List (Nat × Value)} {st : List Value} {wr x : va_W} (z : KV g l p e s m args below meth c R Z nL kc ks pc ls st ((w0 ++ wr) ++ x)) : KV g l p e s m args below meth c R Z nL kc ks pc ls st (w0 ++ (wr ++ x)) := by
  rw [← List.append_assoc]; exact z
theorem k_sa {p : Program} {e : Env} {s : State} {m : MethodId} {args : Array Value} {below : List Frame} {meth : Method} {c : Code} {R : Room} {Z : State → Prop} {nL kc ks pc : Nat} {ls : List (Nat × Value)} {st : List Value} {wr x : va_W} (z : KV g l p e s m args below meth c R Z nL kc ks pc ls st (w0 ++ (wr ++ x))) : KV g l p e s m args below meth c R Z nL kc ks pc ls st ((w0 ++ wr) ++ x) := by
  rw [List.append_assoc]; exact z
theorem k_cons {p : Program} {e : Env} {s : State} {m : MethodId} {args : Array Value} {below : List Frame} {meth : Method} {c : Code} {R : Room} {Z : State → Prop} {nL kc ks pc : Nat} {ls : List (Nat × Value)} {st : List Value} {wr x : va_W} {y : Nat × va_E} (z : KV g l p e s m args below meth c R Z nL kc ks pc ls st (w0 ++ ((wr ++ [y]) ++ x))) : KV g l p e s m args below meth c R Z nL kc ks pc ls st (w0 ++ (wr ++ (y :: x))) := by
  rw [List.append_assoc] at z; exact z
def X0w (g : zG) (a : Nat) (r : Nat → Nat) : va_W := ((a, .inr (0, [.int 4, .int 9, .int 0, .int 0, .int 0, .int 0, .int 0, .ref (r 0), .ref (r 1), .ref (r 2), .ref (r 3), .ref (r 4), .ref (r 5), .ref (r 6), .ref (r 7), .ref (r 8)])) :: (((((((([((r 0), .inl (g.2.1 0, 10, .inl (fun _ => 0)))] ++ [((r 1), .inl (g.2.1 0, 10, .inl (fun _ => 0)))]) ++ [((r 2), .inl (g.2.1 0, 10, .inl (fun _ => 0)))]) ++ [((r 3), .inl (g.2.1 0, 10, .inl (fun _ => 0)))]) ++ [((r 4), .inl (g.2.1 0, 10, .inl (fun _ => 0)))]) ++ [((r 5), .inl (g.2.1 0, 60, .inl (fun _ => 0)))]) ++ [((r 6), .inl (g.2.1 0, 60, .inl (fun _ => 0)))]) ++ [((r 7), .inl (g.2.1 0, 60, .inl (fun _ => 0)))]) ++ [((r 8), .inl (g.2.1 0, 60, .inl (fun _ => 0)))]))
abbrev M_X0_init : zM := (yX0_init, cX0_init, 1, none, 2, [])
theorem i_X0_init : zIn M_X0_init 0 := ⟨zT_in 197 (by decide +kernel) (by decide +kernel), in_0, ⟨by decide, by decide⟩, by decide +kernel, by decide⟩
set_option maxRecDepth 20000 in
theorem c_X0_init {a : Nat} : KC g l M_X0_init 9 290 [.ref a] (w0 ++ [(a, .inr (0, [.int 0, .int 0, .int 0, .int 0, .int 0, .int 0, .int 0, .null, .null, .null, .null, .null, .null, .null, .null, .null]))]) (fun w => ∃ r : Nat → Nat, w = w0 ++ X0w g a r) := by
  refine KC_of rfl (Nat.le_of_ble_eq_true rfl) ?_
  intro p e s m args below meth c R hnm C
  change KV _ _ _ _ _ _ _ _ _ _ _ _ _ _ _ _ [(0, .ref a)] _ _
  refine k_aload_n C dX0_init_0 rfl 0 rfl ?_
  refine k_obj C (zT_in 198 (by decide +kernel) (by decide +kernel)) oi_i oi_c (by decide) (Nat.le_of_ble_eq_true rfl) dX0_init_1 ?_
  refine k_aload_n C dX0_init_4 rfl 0 rfl ?_
  refine k_iconst C (v := 4) dX0_init_5 (by decide) ?_
  refine k_put (a := a) (ci := 0) (fs := [.int 0, .int 0, .int 0, .int 0, .int 0, .int 0, .int 0, .null, .null, .null, .null, .null, .null, .null, .null, .null]) (v := .int 4) (j := 0) (k := 0) (T := TX0) C zin_0 tyX0 tyX0_ok nmX0 (by rfl) rfl (by decide) (zT_in 199 (by decide +kernel) (by decide +kernel)) rfl rfl rfl rfl rfl (Nat.le_of_ble_eq_true rfl) dX0_init_6 ?_
  change KV g l p e s m args below meth c R _ _ _ _ _ _ _ (w0 ++ ((a, .inr (0, [.int 4, .int 0, .int 0, .int 0, .int 0, .int 0, .int 0, .null, .null, .null, .null, .null, .null, .null, .null, .null])) :: []))
  refine k_aload_n C dX0_init_9 rfl 0 rfl ?_
  refine k_bipush C (v := 9) dX0_init_10 (by decide) ?_
  refine k_put (a := a) (ci := 0) (fs := [.int 4, .int 0, .int 0, .int 0, .int 0, .int 0, .int 0, .null, .null, .null, .null, .null, .null, .null, .null, .null]) (v := .int 9) (j := 0) (k := 1) (T := TX0) C zin_0 tyX0 tyX0_ok nmX0 (by rfl) rfl (by decide) (zT_in 203 (by decide +kernel) (by decide +kernel)) rfl rfl rfl rfl rfl (Nat.le_of_ble_eq_true rfl) dX0_init_12 ?_
  change KV g l p e s m args below meth c R _ _ _ _ _ _ _ (w0 ++ ((a, .inr (0, [.int 4, .int 9, .int 0, .int 0, .int 0, .int 0, .int 0, .null, .null, .null, .null, .null, .null, .null, .null, .null])) :: []))
  refine k_aload_n C dX0_init_15 rfl 0 rfl ?_
  refine k_bipush C (v := 10) dX0_init_16 (by decide) ?_
  refine k_newa (atype := .int) (t := 0) (N := 10) (a0 := (10, .inl (fun _ => 0))) (kc' := 8) (ks' := 280) C ac_int rfl rfl (fun _ _ h => h) (fun _ => rfl) (by decide) (by decide) (Nat.le_of_ble_eq_true rfl) (Nat.le_of_ble_eq_true rfl) (Nat.le_of_ble_eq_true rfl) dX0_init_18 (fun q1 => ?_)
  change KV g l p e s m args below meth c R _ _ _ _ _ _ _ (w0 ++ ((a, .inr (0, [.int 4, .int 9, .int 0, .int 0, .int 0, .int 0, .int 0, .null, .null, .null, .null, .null, .null, .null, .null, .null])) :: [(q1, .inl (g.2.1 0, 10, .inl (fun _ => 0)))]))
  refine k_putF (a := a) (ci := 0) (fs := [.int 4, .int 9, .int 0, .int 0, .int 0, .int 0, .int 0, .null, .null, .null, .null, .null, .null, .null, .null, .null]) (v := .ref q1) (j := 0) (k := 7) (T := TX0) C zin_0 tyX0 tyX0_ok nmX0 (by rfl) rfl (by decide) (zT_in 220 (by decide +kernel) (by decide +kernel)) rfl rfl hnm rfl rfl rfl rfl (Nat.le_of_ble_eq_true rfl) dX0_init_20 ?_
  change KV g l p e s m args below meth c R _ _ _ _ _ _ _ (w0 ++ ((a, .inr (0, [.int 4, .int 9, .int 0, .int 0, .int 0, .int 0, .int 0, .ref q1, .null, .null, .null, .null, .null, .null, .null, .null])) :: [(q1, .inl (g.2.1 0, 10, .inl (fun _ => 0)))]))
  refine k_aload_n C dX0_init_23 rfl 0 rfl ?_
  refine k_bipush C (v := 10) dX0_init_24 (by decide) ?_
  refine k_newa (atype := .int) (t := 0) (N := 10) (a0 := (10, .inl (fun _ => 0))) (kc' := 7) (ks' := 270) C ac_int rfl rfl (fun _ _ h => h) (fun _ => rfl) (by decide) (by decide) (Nat.le_of_ble_eq_true rfl) (Nat.le_of_ble_eq_true rfl) (Nat.le_of_ble_eq_true rfl) dX0_init_26 (fun q2 => ?_)
  change KV g l p e s m args below meth c R _ _ _ _ _ _ _ (w0 ++ ((a, .inr (0, [.int 4, .int 9, .int 0, .int 0, .int 0, .int 0, .int 0, .ref q1, .null, .null, .null, .null, .null, .null, .null, .null])) :: ([(q1, .inl (g.2.1 0, 10, .inl (fun _ => 0)))] ++ [(q2, .inl (g.2.1 0, 10, .inl (fun _ => 0)))])))
  refine k_putF (a := a) (ci := 0) (fs := [.int 4, .int 9, .int 0, .int 0, .int 0, .int 0, .int 0, .ref q1, .null, .null, .null, .null, .null, .null, .null, .null]) (v := .ref q2) (j := 0) (k := 8) (T := TX0) C zin_0 tyX0 tyX0_ok nmX0 (by rfl) rfl (by decide) (zT_in 223 (by decide +kernel) (by decide +kernel)) rfl rfl hnm rfl rfl rfl rfl (Nat.le_of_ble_eq_true rfl) dX0_init_28 ?_
  change KV g l p e s m args below meth c R _ _ _ _ _ _ _ (w0 ++ ((a, .inr (0, [.int 4, .int 9, .int 0, .int 0, .int 0, .int 0, .int 0, .ref q1, .ref q2, .null, .null, .null, .null, .null, .null, .null])) :: ([(q1, .inl (g.2.1 0, 10, .inl (fun _ => 0)))] ++ [(q2, .inl (g.2.1 0, 10, .inl (fun _ => 0)))])))
  refine k_aload_n C dX0_init_31 rfl 0 rfl ?_
  refine k_bipush C (v := 10) dX0_init_32 (by decide) ?_
  refine k_newa (atype := .int) (t := 0) (N := 10) (a0 := (10, .inl (fun _ => 0))) (kc' := 6) (ks' := 260) C ac_int rfl rfl (fun _ _ h => h) (fun _ => rfl) (by decide) (by decide) (Nat.le_of_ble_eq_true rfl) (Nat.le_of_ble_eq_true rfl) (Nat.le_of_ble_eq_true rfl) dX0_init_34 (fun q3 => ?_)
  change KV g l p e s m args below meth c R _ _ _ _ _ _ _ (w0 ++ ((a, .inr (0, [.int 4, .int 9, .int 0, .int 0, .int 0, .int 0, .int 0, .ref q1, .ref q2, .null, .null, .null, .null, .null, .null, .null])) :: (([(q1, .inl (g.2.1 0, 10, .inl (fun _ => 0)))] ++ [(q2, .inl (g.2.1 0, 10, .inl (fun _ => 0)))]) ++ [(q3, .inl (g.2.1 0, 10, .inl (fun _ => 0)))])))
  refine k_putF (a := a) (ci := 0) (fs := [.int 4, .int 9, .int 0, .int 0, .int 0, .int 0, .int 0, .ref q1, .ref q2, .null, .null, .null, .null, .null, .null, .null]) (v := .ref q3) (j := 0) (k := 9) (T := TX0) C zin_0 tyX0 tyX0_ok nmX0 (by rfl) rfl (by decide) (zT_in 226 (by decide +kernel) (by decide +kernel)) rfl rfl hnm rfl rfl rfl rfl (Nat.le_of_ble_eq_true rfl) dX0_init_36 ?_
  change KV g l p e s m args below meth c R _ _ _ _ _ _ _ (w0 ++ ((a, .inr (0, [.int 4, .int 9, .int 0, .int 0, .int 0, .int 0, .int 0, .ref q1, .ref q2, .ref q3, .null, .null, .null, .null, .null, .null])) :: (([(q1, .inl (g.2.1 0, 10, .inl (fun _ => 0)))] ++ [(q2, .inl (g.2.1 0, 10, .inl (fun _ => 0)))]) ++ [(q3, .inl (g.2.1 0, 10, .inl (fun _ => 0)))])))
  refine k_aload_n C dX0_init_39 rfl 0 rfl ?_
  refine k_bipush C (v := 10) dX0_init_40 (by decide) ?_
  refine k_newa (atype := .int) (t := 0) (N := 10) (a0 := (10, .inl (fun _ => 0))) (kc' := 5) (ks' := 250) C ac_int rfl rfl (fun _ _ h => h) (fun _ => rfl) (by decide) (by decide) (Nat.le_of_ble_eq_true rfl) (Nat.le_of_ble_eq_true rfl) (Nat.le_of_ble_eq_true rfl) dX0_init_42 (fun q4 => ?_)
  change KV g l p e s m args below meth c R _ _ _ _ _ _ _ (w0 ++ ((a, .inr (0, [.int 4, .int 9, .int 0, .int 0, .int 0, .int 0, .int 0, .ref q1, .ref q2, .ref q3, .null, .null, .null, .null, .null, .null])) :: ((([(q1, .inl (g.2.1 0, 10, .inl (fun _ => 0)))] ++ [(q2, .inl (g.2.1 0, 10, .inl (fun _ => 0)))]) ++ [(q3, .inl (g.2.1 0, 10, .inl (fun _ => 0)))]) ++ [(q4, .inl (g.2.1 0, 10, .inl (fun _ => 0)))])))
  refine k_putF (a := a) (ci := 0) (fs := [.int 4, .int 9, .int 0, .int 0, .int 0, .int 0, .int 0, .ref q1, .ref q2, .ref q3, .null, .null, .null, .null, .null, .null]) (v := .ref q4) (j := 0) (k := 10) (T := TX0) C zin_0 tyX0 tyX0_ok nmX0 (by rfl) rfl (by decide) (zT_in 228 (by decide +kernel) (by decide +kernel)) rfl rfl hnm rfl rfl rfl rfl (Nat.le_of_ble_eq_true rfl) dX0_init_44 ?_
  change KV g l p e s m args below meth c R _ _ _ _ _ _ _ (w0 ++ ((a, .inr (0, [.int 4, .int 9, .int 0, .int 0, .int 0, .int 0, .int 0, .ref q1, .ref q2, .ref q3, .ref q4, .null, .null, .null, .null, .null])) :: ((([(q1, .inl (g.2.1 0, 10, .inl (fun _ => 0)))] ++ [(q2, .inl (g.2.1 0, 10, .inl (fun _ => 0)))]) ++ [(q3, .inl (g.2.1 0, 10, .inl (fun _ => 0)))]) ++ [(q4, .inl (g.2.1 0, 10, .inl (fun _ => 0)))])))
  refine k_aload_n C dX0_init_47 rfl 0 rfl ?_
  refine k_bipush C (v := 10) dX0_init_48 (by decide) ?_
  refine k_newa (atype := .int) (t := 0) (N := 10) (a0 := (10, .inl (fun _ => 0))) (kc' := 4) (ks' := 240) C ac_int rfl rfl (fun _ _ h => h) (fun _ => rfl) (by decide) (by decide) (Nat.le_of_ble_eq_true rfl) (Nat.le_of_ble_eq_true rfl) (Nat.le_of_ble_eq_true rfl) dX0_init_50 (fun q5 => ?_)
  change KV g l p e s m args below meth c R _ _ _ _ _ _ _ (w0 ++ ((a, .inr (0, [.int 4, .int 9, .int 0, .int 0, .int 0, .int 0, .int 0, .ref q1, .ref q2, .ref q3, .ref q4, .null, .null, .null, .null, .null])) :: (((([(q1, .inl (g.2.1 0, 10, .inl (fun _ => 0)))] ++ [(q2, .inl (g.2.1 0, 10, .inl (fun _ => 0)))]) ++ [(q3, .inl (g.2.1 0, 10, .inl (fun _ => 0)))]) ++ [(q4, .inl (g.2.1 0, 10, .inl (fun _ => 0)))]) ++ [(q5, .inl (g.2.1 0, 10, .inl (fun _ => 0)))])))
  refine k_putF (a := a) (ci := 0) (fs := [.int 4, .int 9, .int 0, .int 0, .int 0, .int 0, .int 0, .ref q1, .ref q2, .ref q3, .ref q4, .null, .null, .null, .null, .null]) (v := .ref q5) (j := 0) (k := 11) (T := TX0) C zin_0 tyX0 tyX0_ok nmX0 (by rfl) rfl (by decide) (zT_in 230 (by decide +kernel) (by decide +kernel)) rfl rfl hnm rfl rfl rfl rfl (Nat.le_of_ble_eq_true rfl) dX0_init_52 ?_
  change KV g l p e s m args below meth c R _ _ _ _ _ _ _ (w0 ++ ((a, .inr (0, [.int 4, .int 9, .int 0, .int 0, .int 0, .int 0, .int 0, .ref q1, .ref q2, .ref q3, .ref q4, .ref q5, .null, .null, .null, .null])) :: (((([(q1, .inl (g.2.1 0, 10, .inl (fun _ => 0)))] ++ [(q2, .inl (g.2.1 0, 10, .inl (fun _ => 0)))]) ++ [(q3, .inl (g.2.1 0, 10, .inl (fun _ => 0)))]) ++ [(q4, .inl (g.2.1 0, 10, .inl (fun _ => 0)))]) ++ [(q5, .inl (g.2.1 0, 10, .inl (fun _ => 0)))])))
  refine k_aload_n C dX0_init_55 rfl 0 rfl ?_
  refine k_bipush C (v := 60) dX0_init_56 (by decide) ?_
  refine k_newa (atype := .int) (t := 0) (N := 60) (a0 := (60, .inl (fun _ => 0))) (kc' := 3) (ks' := 180) C ac_int rfl rfl (fun _ _ h => h) (fun _ => rfl) (by decide) (by decide) (Nat.le_of_ble_eq_true rfl) (Nat.le_of_ble_eq_true rfl) (Nat.le_of_ble_eq_true rfl) dX0_init_58 (fun q6 => ?_)
  change KV g l p e s m args below meth c R _ _ _ _ _ _ _ (w0 ++ ((a, .inr (0, [.int 4, .int 9, .int 0, .int 0, .int 0, .int 0, .int 0, .ref q1, .ref q2, .ref q3, .ref q4, .ref q5, .null, .null, .null, .null])) :: ((((([(q1, .inl (g.2.1 0, 10, .inl (fun _ => 0)))] ++ [(q2, .inl (g.2.1 0, 10, .inl (fun _ => 0)))]) ++ [(q3, .inl (g.2.1 0, 10, .inl (fun _ => 0)))]) ++ [(q4, .inl (g.2.1 0, 10, .inl (fun _ => 0)))]) ++ [(q5, .inl (g.2.1 0, 10, .inl (fun _ => 0)))]) ++ [(q6, .inl (g.2.1 0, 60, .inl (fun _ => 0)))])))
  refine k_putF (a := a) (ci := 0) (fs := [.int 4, .int 9, .int 0, .int 0, .int 0, .int 0, .int 0, .ref q1, .ref q2, .ref q3, .ref q4, .ref q5, .null, .null, .null, .null]) (v := .ref q6) (j := 0) (k := 12) (T := TX0) C zin_0 tyX0 tyX0_ok nmX0 (by rfl) rfl (by decide) (zT_in 232 (by decide +kernel) (by decide +kernel)) rfl rfl hnm rfl rfl rfl rfl (Nat.le_of_ble_eq_true rfl) dX0_init_60 ?_
  change KV g l p e s m args below meth c R _ _ _ _ _ _ _ (w0 ++ ((a, .inr (0, [.int 4, .int 9, .int 0, .int 0, .int 0, .int 0, .int 0, .ref q1, .ref q2, .ref q3, .ref q4, .ref q5, .ref q6, .null, .null, .null])) :: ((((([(q1, .inl (g.2.1 0, 10, .inl (fun _ => 0)))] ++ [(q2, .inl (g.2.1 0, 10, .inl (fun _ => 0)))]) ++ [(q3, .inl (g.2.1 0, 10, .inl (fun _ => 0)))]) ++ [(q4, .inl (g.2.1 0, 10, .inl (fun _ => 0)))]) ++ [(q5, .inl (g.2.1 0, 10, .inl (fun _ => 0)))]) ++ [(q6, .inl (g.2.1 0, 60, .inl (fun _ => 0)))])))
  refine k_aload_n C dX0_init_63 rfl 0 rfl ?_
  refine k_bipush C (v := 60) dX0_init_64 (by decide) ?_
  refine k_newa (atype := .int) (t := 0) (N := 60) (a0 := (60, .inl (fun _ => 0))) (kc' := 2) (ks' := 120) C ac_int rfl rfl (fun _ _ h => h) (fun _ => rfl) (by decide) (by decide) (Nat.le_of_ble_eq_true rfl) (Nat.le_of_ble_eq_true rfl) (Nat.le_of_ble_eq_true rfl) dX0_init_66 (fun q7 => ?_)
  change KV g l p e s m args below meth c R _ _ _ _ _ _ _ (w0 ++ ((a, .inr (0, [.int 4, .int 9, .int 0, .int 0, .int 0, .int 0, .int 0, .ref q1, .ref q2, .ref q3, .ref q4, .ref q5, .ref q6, .null, .null, .null])) :: (((((([(q1, .inl (g.2.1 0, 10, .inl (fun _ => 0)))] ++ [(q2, .inl (g.2.1 0, 10, .inl (fun _ => 0)))]) ++ [(q3, .inl (g.2.1 0, 10, .inl (fun _ => 0)))]) ++ [(q4, .inl (g.2.1 0, 10, .inl (fun _ => 0)))]) ++ [(q5, .inl (g.2.1 0, 10, .inl (fun _ => 0)))]) ++ [(q6, .inl (g.2.1 0, 60, .inl (fun _ => 0)))]) ++ [(q7, .inl (g.2.1 0, 60, .inl (fun _ => 0)))])))
  refine k_putF (a := a) (ci := 0) (fs := [.int 4, .int 9, .int 0, .int 0, .int 0, .int 0, .int 0, .ref q1, .ref q2, .ref q3, .ref q4, .ref q5, .ref q6, .null, .null, .null]) (v := .ref q7) (j := 0) (k := 13) (T := TX0) C zin_0 tyX0 tyX0_ok nmX0 (by rfl) rfl (by decide) (zT_in 234 (by decide +kernel) (by decide +kernel)) rfl rfl hnm rfl rfl rfl rfl (Nat.le_of_ble_eq_true rfl) dX0_init_68 ?_
  change KV g l p e s m args below meth c R _ _ _ _ _ _ _ (w0 ++ ((a, .inr (0, [.int 4, .int 9, .int 0, .int 0, .int 0, .int 0, .int 0, .ref q1, .ref q2, .ref q3, .ref q4, .ref q5, .ref q6, .ref q7, .null, .null])) :: (((((([(q1, .inl (g.2.1 0, 10, .inl (fun _ => 0)))] ++ [(q2, .inl (g.2.1 0, 10, .inl (fun _ => 0)))]) ++ [(q3, .inl (g.2.1 0, 10, .inl (fun _ => 0)))]) ++ [(q4, .inl (g.2.1 0, 10, .inl (fun _ => 0)))]) ++ [(q5, .inl (g.2.1 0, 10, .inl (fun _ => 0)))]) ++ [(q6, .inl (g.2.1 0, 60, .inl (fun _ => 0)))]) ++ [(q7, .inl (g.2.1 0, 60, .inl (fun _ => 0)))])))
  refine k_aload_n C dX0_init_71 rfl 0 rfl ?_
  refine k_bipush C (v := 60) dX0_init_72 (by decide) ?_
  refine k_newa (atype := .int) (t := 0) (N := 60) (a0 := (60, .inl (fun _ => 0))) (kc' := 1) (ks' := 60) C ac_int rfl rfl (fun _ _ h => h) (fun _ => rfl) (by decide) (by decide) (Nat.le_of_ble_eq_true rfl) (Nat.le_of_ble_eq_true rfl) (Nat.le_of_ble_eq_true rfl) dX0_init_74 (fun q8 => ?_)
  change KV g l p e s m args below meth c R _ _ _ _ _ _ _ (w0 ++ ((a, .inr (0, [.int 4, .int 9, .int 0, .int 0, .int 0, .int 0, .int 0, .ref q1, .ref q2, .ref q3, .ref q4, .ref q5, .ref q6, .ref q7, .null, .null])) :: ((((((([(q1, .inl (g.2.1 0, 10, .inl (fun _ => 0)))] ++ [(q2, .inl (g.2.1 0, 10, .inl (fun _ => 0)))]) ++ [(q3, .inl (g.2.1 0, 10, .inl (fun _ => 0)))]) ++ [(q4, .inl (g.2.1 0, 10, .inl (fun _ => 0)))]) ++ [(q5, .inl (g.2.1 0, 10, .inl (fun _ => 0)))]) ++ [(q6, .inl (g.2.1 0, 60, .inl (fun _ => 0)))]) ++ [(q7, .inl (g.2.1 0, 60, .inl (fun _ => 0)))]) ++ [(q8, .inl (g.2.1 0, 60, .inl (fun _ => 0)))])))
  refine k_putF (a := a) (ci := 0) (fs := [.int 4, .int 9, .int 0, .int 0, .int 0, .int 0, .int 0, .ref q1, .ref q2, .ref q3, .ref q4, .ref q5, .ref q6, .ref q7, .null, .null]) (v := .ref q8) (j := 0) (k := 14) (T := TX0) C zin_0 tyX0 tyX0_ok nmX0 (by rfl) rfl (by decide) (zT_in 236 (by decide +kernel) (by decide +kernel)) rfl rfl hnm rfl rfl rfl rfl (Nat.le_of_ble_eq_true rfl) dX0_init_76 ?_
  change KV g l p e s m args below meth c R _ _ _ _ _ _ _ (w0 ++ ((a, .inr (0, [.int 4, .int 9, .int 0, .int 0, .int 0, .int 0, .int 0, .ref q1, .ref q2, .ref q3, .ref q4, .ref q5, .ref q6, .ref q7, .ref q8, .null])) :: ((((((([(q1, .inl (g.2.1 0, 10, .inl (fun _ => 0)))] ++ [(q2, .inl (g.2.1 0, 10, .inl (fun _ => 0)))]) ++ [(q3, .inl (g.2.1 0, 10, .inl (fun _ => 0)))]) ++ [(q4, .inl (g.2.1 0, 10, .inl (fun _ => 0)))]) ++ [(q5, .inl (g.2.1 0, 10, .inl (fun _ => 0)))]) ++ [(q6, .inl (g.2.1 0, 60, .inl (fun _ => 0)))]) ++ [(q7, .inl (g.2.1 0, 60, .inl (fun _ => 0)))]) ++ [(q8, .inl (g.2.1 0, 60, .inl (fun _ => 0)))])))
  refine k_aload_n C dX0_init_79 rfl 0 rfl ?_
  refine k_bipush C (v := 60) dX0_init_80 (by decide) ?_
  refine k_newa (atype := .int) (t := 0) (N := 60) (a0 := (60, .inl (fun _ => 0))) (kc' := 0) (ks' := 0) C ac_int rfl rfl (fun _ _ h => h) (fun _ => rfl) (by decide) (by decide) (Nat.le_of_ble_eq_true rfl) (Nat.le_of_ble_eq_true rfl) (Nat.le_of_ble_eq_true rfl) dX0_init_82 (fun q9 => ?_)
  change KV g l p e s m args below meth c R _ _ _ _ _ _ _ (w0 ++ ((a, .inr (0, [.int 4, .int 9, .int 0, .int 0, .int 0, .int 0, .int 0, .ref q1, .ref q2, .ref q3, .ref q4, .ref q5, .ref q6, .ref q7, .ref q8, .null])) :: (((((((([(q1, .inl (g.2.1 0, 10, .inl (fun _ => 0)))] ++ [(q2, .inl (g.2.1 0, 10, .inl (fun _ => 0)))]) ++ [(q3, .inl (g.2.1 0, 10, .inl (fun _ => 0)))]) ++ [(q4, .inl (g.2.1 0, 10, .inl (fun _ => 0)))]) ++ [(q5, .inl (g.2.1 0, 10, .inl (fun _ => 0)))]) ++ [(q6, .inl (g.2.1 0, 60, .inl (fun _ => 0)))]) ++ [(q7, .inl (g.2.1 0, 60, .inl (fun _ => 0)))]) ++ [(q8, .inl (g.2.1 0, 60, .inl (fun _ => 0)))]) ++ [(q9, .inl (g.2.1 0, 60, .inl (fun _ => 0)))])))
  refine k_putF (a := a) (ci := 0) (fs := [.int 4, .int 9, .int 0, .int 0, .int 0, .int 0, .int 0, .ref q1, .ref q2, .ref q3, .ref q4, .ref q5, .ref q6, .ref q7, .ref q8, .null]) (v := .ref q9) (j := 0) (k := 15) (T := TX0) C zin_0 tyX0 tyX0_ok nmX0 (by rfl) rfl (by decide) (zT_in 237 (by decide +kernel) (by decide +kernel)) rfl rfl hnm rfl rfl rfl rfl (Nat.le_of_ble_eq_true rfl) dX0_init_84 ?_
  change KV g l p e s m args below meth c R _ _ _ _ _ _ _ (w0 ++ ((a, .inr (0, [.int 4, .int 9, .int 0, .int 0, .int 0, .int 0, .int 0, .ref q1, .ref q2, .ref q3, .ref q4, .ref q5, .ref q6, .ref q7, .ref q8, .ref q9])) :: (((((((([(q1, .inl (g.2.1 0, 10, .inl (fun _ => 0)))] ++ [(q2, .inl (g.2.1 0, 10, .inl (fun _ => 0)))]) ++ [(q3, .inl (g.2.1 0, 10, .inl (fun _ => 0)))]) ++ [(q4, .inl (g.2.1 0, 10, .inl (fun _ => 0)))]) ++ [(q5, .inl (g.2.1 0, 10, .inl (fun _ => 0)))]) ++ [(q6, .inl (g.2.1 0, 60, .inl (fun _ => 0)))]) ++ [(q7, .inl (g.2.1 0, 60, .inl (fun _ => 0)))]) ++ [(q8, .inl (g.2.1 0, 60, .inl (fun _ => 0)))]) ++ [(q9, .inl (g.2.1 0, 60, .inl (fun _ => 0)))])))
  refine k_ret C dX0_init_87 ⟨fun i => List.getD [q1, q2, q3, q4, q5, q6, q7, q8, q9] i 0, ?_⟩
  exact congrArg (fun z => w0 ++ z) rfl
def X3w (g : zG) (a : Nat) (r : Nat → Nat) : va_W := ((a, .inr (3, [.ref (r 0), .int 0, .int 0, .int 0, .int 0, .int 0, .int 0, .int (-1)])) :: [((r 0), .inl (g.2.1 1, 600, .inl (fun _ => 0)))])
abbrev M_X3_init : zM := (yX3_init, cX3_init, 1, none, 2, [])
theorem i_X3_init : zIn M_X3_init 0 := ⟨zT_in 156 (by decide +kernel) (by decide +kernel), in_3, ⟨by decide, by decide⟩, by decide +kernel, by decide⟩
set_option maxRecDepth 20000 in
theorem c_X3_init {a : Nat} : KC g l M_X3_init 1 600 [.ref a] (w0 ++ [(a, .inr (3, [.null, .int 0, .int 0, .int 0, .int 0, .int 0, .int 0, .int 0]))]) (fun w => ∃ r : Nat → Nat, w = w0 ++ X3w g a r) := by
  refine KC_of rfl (Nat.le_of_ble_eq_true rfl) ?_
  intro p e s m args below meth c R hnm C
  change KV _ _ _ _ _ _ _ _ _ _ _ _ _ _ _ _ [(0, .ref a)] _ _
  refine k_aload_n C dX3_init_0 rfl 0 rfl ?_
  refine k_obj C (zT_in 157 (by decide +kernel) (by decide +kernel)) oi_i oi_c (by decide) (Nat.le_of_ble_eq_true rfl) dX3_init_1 ?_
  refine k_aload_n C dX3_init_4 rfl 0 rfl ?_
  refine k_sipush C (v := 600) dX3_init_5 (by decide) ?_
  refine k_newa (atype := .byte) (t := 1) (N := 600) (a0 := (600, .inl (fun _ => 0))) (kc' := 0) (ks' := 0) C ac_byte rfl rfl (fun _ _ h => h) (fun _ => rfl) (by decide) (by decide) (Nat.le_of_ble_eq_true rfl) (Nat.le_of_ble_eq_true rfl) (Nat.le_of_ble_eq_true rfl) dX3_init_8 (fun q1 => ?_)
  change KV g l p e s m args below meth c R _ _ _ _ _ _ _ (w0 ++ ((a, .inr (3, [.null, .int 0, .int 0, .int 0, .int 0, .int 0, .int 0, .int 0])) :: [(q1, .inl (g.2.1 1, 600, .inl (fun _ => 0)))]))
  refine k_putF (a := a) (ci := 3) (fs := [.null, .int 0, .int 0, .int 0, .int 0, .int 0, .int 0, .int 0]) (v := .ref q1) (j := 0) (k := 0) (T := TX3) C zin_3 tyX3 tyX3_ok nmX3 (by rfl) rfl (by decide) (zT_in 158 (by decide +kernel) (by decide +kernel)) rfl rfl hnm rfl rfl rfl rfl (Nat.le_of_ble_eq_true rfl) dX3_init_10 ?_
  change KV g l p e s m args below meth c R _ _ _ _ _ _ _ (w0 ++ ((a, .inr (3, [.ref q1, .int 0, .int 0, .int 0, .int 0, .int 0, .int 0, .int 0])) :: [(q1, .inl (g.2.1 1, 600, .inl (fun _ => 0)))]))
  refine k_aload_n C dX3_init_13 rfl 0 rfl ?_
  refine k_iconst C (v := (-1)) dX3_init_14 (by decide) ?_
  refine k_put (a := a) (ci := 3) (fs := [.ref q1, .int 0, .int 0, .int 0, .int 0, .int 0, .int 0, .int 0]) (v := .int (-1)) (j := 0) (k := 7) (T := TX3) C zin_3 tyX3 tyX3_ok nmX3 (by rfl) rfl (by decide) (zT_in 167 (by decide +kernel) (by decide +kernel)) rfl rfl rfl rfl rfl (Nat.le_of_ble_eq_true rfl) dX3_init_15 ?_
  change KV g l p e s m args below meth c R _ _ _ _ _ _ _ (w0 ++ ((a, .inr (3, [.ref q1, .int 0, .int 0, .int 0, .int 0, .int 0, .int 0, .int (-1)])) :: [(q1, .inl (g.2.1 1, 600, .inl (fun _ => 0)))]))
  refine k_ret C dX3_init_18 ⟨fun i => List.getD [q1] i 0, ?_⟩
  exact congrArg (fun z => w0 ++ z) rfl
def X2w (g : zG) (a : Nat) (b : Nat) (r rr : Nat → Nat) : va_W := ((a, .inr (2, [.ref b, .int 0, .ref (r 0), .ref (r 1), .ref (r 2), .ref (r 3), .ref (r 4), .int 0])) :: ((((([((r 0), .inl (g.2.1 0, 30, .inl (fun _ => 0)))] ++ [((r 1), .inl (g.2.1 2, 30, .inl (fun _ => 0)))]) ++ [((r 2), .inl (g.2.1 4, 30, .inr (.inr (.inr (.inr (fun i => if i < 30 then some (rr i) else none))))))]) ++ rwL g rr 30 4) ++ [((r 3), .inl (g.2.1 0, 30, .inl (fun _ => 0)))]) ++ [((r 4), .inl (g.2.1 0, 2, .inl (fun _ => 0)))]))
abbrev M_X2_init : zM := (yX2_init, cX2_init, 2, none, 2, [])
theorem i_X2_init : zIn M_X2_init 1 := ⟨zT_in 312 (by decide +kernel) (by decide +kernel), in_2, ⟨by decide, by decide⟩, by decide +kernel, by decide⟩
set_option maxRecDepth 20000 in
theorem c_X2_init {a b : Nat} : KC g l M_X2_init 35 242 [.ref a, .ref b] (w0 ++ [(a, .inr (2, [.null, .int 0, .null, .null, .null, .null, .null, .int 0]))]) (fun w => ∃ r rr : Nat → Nat, w = w0 ++ X2w g a b r rr) := by
  refine KC_of rfl (Nat.le_of_ble_eq_true rfl) ?_
  intro p e s m args below meth c R hnm C
  change KV _ _ _ _ _ _ _ _ _ _ _ _ _ _ _ _ [(0, .ref a), (1, .ref b)] _ _
  refine k_aload_n C dX2_init_0 rfl 0 rfl ?_
  refine k_obj C (zT_in 313 (by decide +kernel) (by decide +kernel)) oi_i oi_c (by decide) (Nat.le_of_ble_eq_true rfl) dX2_init_1 ?_
  refine k_aload_n C dX2_init_4 rfl 0 rfl ?_
  refine k_bipush C (v := 30) dX2_init_5 (by decide) ?_
  refine k_newa (atype := .int) (t := 0) (N := 30) (a0 := (30, .inl (fun _ => 0))) (kc' := 34) (ks' := 212) C ac_int rfl rfl (fun _ _ h => h) (fun _ => rfl) (by decide) (by decide) (Nat.le_of_ble_eq_true rfl) (Nat.le_of_ble_eq_true rfl) (Nat.le_of_ble_eq_true rfl) dX2_init_7 (fun q1 => ?_)
  change KV g l p e s m args below meth c R _ _ _ _ _ _ _ (w0 ++ ((a, .inr (2, [.null, .int 0, .null, .null, .null, .null, .null, .int 0])) :: [(q1, .inl (g.2.1 0, 30, .inl (fun _ => 0)))]))
  refine k_putF (a := a) (ci := 2) (fs := [.null, .int 0, .null, .null, .null, .null, .null, .int 0]) (v := .ref q1) (j := 0) (k := 2) (T := TX2) C zin_2 tyX2 tyX2_ok nmX2 (by rfl) rfl (by decide) (zT_in 319 (by decide +kernel) (by decide +kernel)) rfl rfl hnm rfl rfl rfl rfl (Nat.le_of_ble_eq_true rfl) dX2_init_9 ?_
  change KV g l p e s m args below meth c R _ _ _ _ _ _ _ (w0 ++ ((a, .inr (2, [.null, .int 0, .ref q1, .null, .null, .null, .null, .int 0])) :: [(q1, .inl (g.2.1 0, 30, .inl (fun _ => 0)))]))
  refine k_aload_n C dX2_init_12 rfl 0 rfl ?_
  refine k_bipush C (v := 30) dX2_init_13 (by decide) ?_
  refine k_newa (atype := .boolean) (t := 2) (N := 30) (a0 := (30, .inl (fun _ => 0))) (kc' := 33) (ks' := 182) C ac_boolean rfl rfl (fun _ _ h => h) (fun _ => rfl) (by decide) (by decide) (Nat.le_of_ble_eq_true rfl) (Nat.le_of_ble_eq_true rfl) (Nat.le_of_ble_eq_true rfl) dX2_init_15 (fun q2 => ?_)
  change KV g l p e s m args below meth c R _ _ _ _ _ _ _ (w0 ++ ((a, .inr (2, [.null, .int 0, .ref q1, .null, .null, .null, .null, .int 0])) :: ([(q1, .inl (g.2.1 0, 30, .inl (fun _ => 0)))] ++ [(q2, .inl (g.2.1 2, 30, .inl (fun _ => 0)))])))
  refine k_putF (a := a) (ci := 2) (fs := [.null, .int 0, .ref q1, .null, .null, .null, .null, .int 0]) (v := .ref q2) (j := 0) (k := 3) (T := TX2) C zin_2 tyX2 tyX2_ok nmX2 (by rfl) rfl (by decide) (zT_in 321 (by decide +kernel) (by decide +kernel)) rfl rfl hnm rfl rfl rfl rfl (Nat.le_of_ble_eq_true rfl) dX2_init_17 ?_
  change KV g l p e s m args below meth c R _ _ _ _ _ _ _ (w0 ++ ((a, .inr (2, [.null, .int 0, .ref q1, .ref q2, .null, .null, .null, .int 0])) :: ([(q1, .inl (g.2.1 0, 30, .inl (fun _ => 0)))] ++ [(q2, .inl (g.2.1 2, 30, .inl (fun _ => 0)))])))
  refine k_aload_n C dX2_init_20 rfl 0 rfl ?_
  refine k_bipush C (v := 30) dX2_init_21 (by decide) ?_
  refine k_iconst C (v := 4) dX2_init_23 (by decide) ?_
  refine k_mna (N := 30) (K := 4) (kc' := 2) (ks' := 32) C (zT_in 314 (by decide +kernel) (by decide +kernel)) ac_int (by decide) (by decide) (by decide) (by decide) (Nat.le_of_ble_eq_true rfl) (Nat.le_of_ble_eq_true rfl) (Nat.le_of_ble_eq_true rfl) (Nat.le_of_ble_eq_true rfl) (Nat.le_of_ble_eq_true rfl) dX2_init_24 (fun q3 rr => ?_)
  refine k_cons ?_
  change KV g l p e s m args below meth c R _ _ _ _ _ _ _ (w0 ++ ((a, .inr (2, [.null, .int 0, .ref q1, .ref q2, .null, .null, .null, .int 0])) :: ((([(q1, .inl (g.2.1 0, 30, .inl (fun _ => 0)))] ++ [(q2, .inl (g.2.1 2, 30, .inl (fun _ => 0)))]) ++ [(q3, .inl (g.2.1 4, 30, .inr (.inr (.inr (.inr (fun i => if i < 30 then some (rr i) else none))))))]) ++ rwL g rr 30 4)))
  refine k_putF (a := a) (ci := 2) (fs := [.null, .int 0, .ref q1, .ref q2, .null, .null, .null, .int 0]) (v := .ref q3) (j := 0) (k := 4) (T := TX2) C zin_2 tyX2 tyX2_ok nmX2 (by rfl) rfl (by decide) (zT_in 323 (by decide +kernel) (by decide +kernel)) rfl rfl hnm rfl rfl rfl rfl (Nat.le_of_ble_eq_true rfl) dX2_init_28 ?_
  change KV g l p e s m args below meth c R _ _ _ _ _ _ _ (w0 ++ ((a, .inr (2, [.null, .int 0, .ref q1, .ref q2, .ref q3, .null, .null, .int 0])) :: ((([(q1, .inl (g.2.1 0, 30, .inl (fun _ => 0)))] ++ [(q2, .inl (g.2.1 2, 30, .inl (fun _ => 0)))]) ++ [(q3, .inl (g.2.1 4, 30, .inr (.inr (.inr (.inr (fun i => if i < 30 then some (rr i) else none))))))]) ++ rwL g rr 30 4)))
  refine k_aload_n C dX2_init_31 rfl 0 rfl ?_
  refine k_bipush C (v := 30) dX2_init_32 (by decide) ?_
  refine k_newa (atype := .int) (t := 0) (N := 30) (a0 := (30, .inl (fun _ => 0))) (kc' := 1) (ks' := 2) C ac_int rfl rfl (fun _ _ h => h) (fun _ => rfl) (by decide) (by decide) (Nat.le_of_ble_eq_true rfl) (Nat.le_of_ble_eq_true rfl) (Nat.le_of_ble_eq_true rfl) dX2_init_34 (fun q4 => ?_)
  change KV g l p e s m args below meth c R _ _ _ _ _ _ _ (w0 ++ ((a, .inr (2, [.null, .int 0, .ref q1, .ref q2, .ref q3, .null, .null, .int 0])) :: (((([(q1, .inl (g.2.1 0, 30, .inl (fun _ => 0)))] ++ [(q2, .inl (g.2.1 2, 30, .inl (fun _ => 0)))]) ++ [(q3, .inl (g.2.1 4, 30, .inr (.inr (.inr (.inr (fun i => if i < 30 then some (rr i) else none))))))]) ++ rwL g rr 30 4) ++ [(q4, .inl (g.2.1 0, 30, .inl (fun _ => 0)))])))
  refine k_putF (a := a) (ci := 2) (fs := [.null, .int 0, .ref q1, .ref q2, .ref q3, .null, .null, .int 0]) (v := .ref q4) (j := 0) (k := 5) (T := TX2) C zin_2 tyX2 tyX2_ok nmX2 (by rfl) rfl (by decide) (zT_in 325 (by decide +kernel) (by decide +kernel)) rfl rfl hnm rfl rfl rfl rfl (Nat.le_of_ble_eq_true rfl) dX2_init_36 ?_
  change KV g l p e s m args below meth c R _ _ _ _ _ _ _ (w0 ++ ((a, .inr (2, [.null, .int 0, .ref q1, .ref q2, .ref q3, .ref q4, .null, .int 0])) :: (((([(q1, .inl (g.2.1 0, 30, .inl (fun _ => 0)))] ++ [(q2, .inl (g.2.1 2, 30, .inl (fun _ => 0)))]) ++ [(q3, .inl (g.2.1 4, 30, .inr (.inr (.inr (.inr (fun i => if i < 30 then some (rr i) else none))))))]) ++ rwL g rr 30 4) ++ [(q4, .inl (g.2.1 0, 30, .inl (fun _ => 0)))])))
  refine k_aload_n C dX2_init_39 rfl 0 rfl ?_
  refine k_iconst C (v := 2) dX2_init_40 (by decide) ?_
  refine k_newa (atype := .int) (t := 0) (N := 2) (a0 := (2, .inl (fun _ => 0))) (kc' := 0) (ks' := 0) C ac_int rfl rfl (fun _ _ h => h) (fun _ => rfl) (by decide) (by decide) (Nat.le_of_ble_eq_true rfl) (Nat.le_of_ble_eq_true rfl) (Nat.le_of_ble_eq_true rfl) dX2_init_41 (fun q5 => ?_)
  change KV g l p e s m args below meth c R _ _ _ _ _ _ _ (w0 ++ ((a, .inr (2, [.null, .int 0, .ref q1, .ref q2, .ref q3, .ref q4, .null, .int 0])) :: ((((([(q1, .inl (g.2.1 0, 30, .inl (fun _ => 0)))] ++ [(q2, .inl (g.2.1 2, 30, .inl (fun _ => 0)))]) ++ [(q3, .inl (g.2.1 4, 30, .inr (.inr (.inr (.inr (fun i => if i < 30 then some (rr i) else none))))))]) ++ rwL g rr 30 4) ++ [(q4, .inl (g.2.1 0, 30, .inl (fun _ => 0)))]) ++ [(q5, .inl (g.2.1 0, 2, .inl (fun _ => 0)))])))
  refine k_putF (a := a) (ci := 2) (fs := [.null, .int 0, .ref q1, .ref q2, .ref q3, .ref q4, .null, .int 0]) (v := .ref q5) (j := 0) (k := 6) (T := TX2) C zin_2 tyX2 tyX2_ok nmX2 (by rfl) rfl (by decide) (zT_in 327 (by decide +kernel) (by decide +kernel)) rfl rfl hnm rfl rfl rfl rfl (Nat.le_of_ble_eq_true rfl) dX2_init_43 ?_
  change KV g l p e s m args below meth c R _ _ _ _ _ _ _ (w0 ++ ((a, .inr (2, [.null, .int 0, .ref q1, .ref q2, .ref q3, .ref q4, .ref q5, .int 0])) :: ((((([(q1, .inl (g.2.1 0, 30, .inl (fun _ => 0)))] ++ [(q2, .inl (g.2.1 2, 30, .inl (fun _ => 0)))]) ++ [(q3, .inl (g.2.1 4, 30, .inr (.inr (.inr (.inr (fun i => if i < 30 then some (rr i) else none))))))]) ++ rwL g rr 30 4) ++ [(q4, .inl (g.2.1 0, 30, .inl (fun _ => 0)))]) ++ [(q5, .inl (g.2.1 0, 2, .inl (fun _ => 0)))])))
  refine k_aload_n C dX2_init_46 rfl 0 rfl ?_
  refine k_aload_n C dX2_init_47 rfl 1 rfl ?_
  refine k_putF (a := a) (ci := 2) (fs := [.null, .int 0, .ref q1, .ref q2, .ref q3, .ref q4, .ref q5, .int 0]) (v := .ref b) (j := 0) (k := 0) (T := TX2) C zin_2 tyX2 tyX2_ok nmX2 (by rfl) rfl (by decide) (zT_in 316 (by decide +kernel) (by decide +kernel)) rfl rfl hnm rfl rfl rfl rfl (Nat.le_of_ble_eq_true rfl) dX2_init_48 ?_
  change KV g l p e s m args below meth c R _ _ _ _ _ _ _ (w0 ++ ((a, .inr (2, [.ref b, .int 0, .ref q1, .ref q2, .ref q3, .ref q4, .ref q5, .int 0])) :: ((((([(q1, .inl (g.2.1 0, 30, .inl (fun _ => 0)))] ++ [(q2, .inl (g.2.1 2, 30, .inl (fun _ => 0)))]) ++ [(q3, .inl (g.2.1 4, 30, .inr (.inr (.inr (.inr (fun i => if i < 30 then some (rr i) else none))))))]) ++ rwL g rr 30 4) ++ [(q4, .inl (g.2.1 0, 30, .inl (fun _ => 0)))]) ++ [(q5, .inl (g.2.1 0, 2, .inl (fun _ => 0)))])))
  refine k_ret C dX2_init_51 ⟨fun i => List.getD [q1, q2, q3, q4, q5] i 0, rr, ?_⟩
  exact congrArg (fun z => w0 ++ z) rfl
def X4w (g : zG) (a : Nat) (b : Nat) (r : Nat → Nat) : va_W := ((a, .inr (4, [.ref b, .ref (r 0), .int 0, .int 0, .int 0, .ref (r 10), .ref (r 11), .ref (r 12), .ref (r 13), .ref (r 14), .ref (r 15)])) :: ((((((X0w g (r 0) (fun i => r (i + 1)) ++ [((r 10), .inl (g.2.1 2, 16, .inl (fun _ => 0)))]) ++ [((r 11), .inl (g.2.1 0, 16, .inl (fun _ => 0)))]) ++ [((r 12), .inl (g.2.1 0, 16, .inl (fun _ => 0)))]) ++ [((r 13), .inl (g.2.1 0, 16, .inl (fun _ => 0)))]) ++ [((r 14), .inl (g.2.1 0, 16, .inl (fun _ => 0)))]) ++ [((r 15), .inl (g.2.1 0, 16, .inl (fun _ => 0)))]))
abbrev M_X4_init : zM := (yX4_init, cX4_init, 2, none, 3, [])
theorem i_X4_init : zIn M_X4_init 1 := ⟨zT_in 191 (by decide +kernel) (by decide +kernel), in_4, ⟨by decide, by decide⟩, by decide +kernel, by decide⟩
set_option maxRecDepth 20000 in
theorem c_X4_init {a b : Nat} : KC g l M_X4_init 16 402 [.ref a, .ref b] (w0 ++ [(a, .inr (4, [.null, .null, .int 0, .int 0, .int 0, .null, .null, .null, .null, .null, .null]))]) (fun w => ∃ r : Nat → Nat, w = w0 ++ X4w g a b r) := by
  refine KC_of rfl (Nat.le_of_ble_eq_true rfl) ?_
  intro p e s m args below meth c R hnm C
  change KV _ _ _ _ _ _ _ _ _ _ _ _ _ _ _ _ [(0, .ref a), (1, .ref b)] _ _
  refine k_aload_n C dX4_init_0 rfl 0 rfl ?_
  refine k_obj C (zT_in 192 (by decide +kernel) (by decide +kernel)) oi_i oi_c (by decide) (Nat.le_of_ble_eq_true rfl) dX4_init_1 ?_
  refine k_aload_n C dX4_init_4 rfl 0 rfl ?_
  refine k_new (ci := 0) (T := TX0) (kc' := 15) (ks' := 386) C zin_0 tyX0 tyX0_ok (zT_in 193 (by decide +kernel) (by decide +kernel)) mk_0 in_0 rfl df_0 (Nat.le_of_ble_eq_true rfl) (Nat.le_of_ble_eq_true rfl) dX4_init_5 (fun q1 => ?_)
  change KV g l p e s m args below meth c R _ _ _ _ _ _ _ (w0 ++ ((a, .inr (4, [.null, .null, .int 0, .int 0, .int 0, .null, .null, .null, .null, .null, .null])) :: [(q1, .inr (0, [.int 0, .int 0, .int 0, .int 0, .int 0, .int 0, .int 0, .null, .null, .null, .null, .null, .null, .null, .null, .null]))]))
  refine k_dup C dX4_init_8 rfl ?_
  refine k_as (wr := ((a, .inr (4, [.null, .null, .int 0, .int 0, .int 0, .null, .null, .null, .null, .null, .null])) :: [])) (x := [(q1, .inr (0, [.int 0, .int 0, .int 0, .int 0, .int 0, .int 0, .int 0, .null, .null, .null, .null, .null, .null, .null, .null, .null]))]) ?_
  refine k_callIN C (N := M_X0_init) (n := 0) (jc := 9) (js := 290) (kc' := 6) (ks' := 96) (host := "BambooBlind") (av := []) (F := _) rfl (c_X0_init) i_X0_init rfl rfl rfl ii_0 (by decide +kernel) (by decide) (Nat.le_of_ble_eq_true rfl) (Nat.le_of_ble_eq_true rfl) (Nat.le_of_ble_eq_true rfl) dX4_init_9 (fun w hw => ?_)
  obtain ⟨r2, rfl⟩ := hw
  refine k_sa ?_
  change KV g l p e s m args below meth c R _ _ _ _ _ _ _ (w0 ++ ((a, .inr (4, [.null, .null, .int 0, .int 0, .int 0, .null, .null, .null, .null, .null, .null])) :: X0w g q1 r2))
  refine k_putF (a := a) (ci := 4) (fs := [.null, .null, .int 0, .int 0, .int 0, .null, .null, .null, .null, .null, .null]) (v := .ref q1) (j := 0) (k := 1) (T := TX4) C zin_4 tyX4 tyX4_ok nmX4 (by rfl) rfl (by decide) (zT_in 273 (by decide +kernel) (by decide +kernel)) rfl rfl hnm rfl rfl rfl rfl (Nat.le_of_ble_eq_true rfl) dX4_init_12 ?_
  change KV g l p e s m args below meth c R _ _ _ _ _ _ _ (w0 ++ ((a, .inr (4, [.null, .ref q1, .int 0, .int 0, .int 0, .null, .null, .null, .null, .null, .null])) :: X0w g q1 r2))
  refine k_aload_n C dX4_init_15 rfl 0 rfl ?_
  refine k_bipush C (v := 16) dX4_init_16 (by decide) ?_
  refine k_newa (atype := .boolean) (t := 2) (N := 16) (a0 := (16, .inl (fun _ => 0))) (kc' := 5) (ks' := 80) C ac_boolean rfl rfl (fun _ _ h => h) (fun _ => rfl) (by decide) (by decide) (Nat.le_of_ble_eq_true rfl) (Nat.le_of_ble_eq_true rfl) (Nat.le_of_ble_eq_true rfl) dX4_init_18 (fun q3 => ?_)
  change KV g l p e s m args below meth c R _ _ _ _ _ _ _ (w0 ++ ((a, .inr (4, [.null, .ref q1, .int 0, .int 0, .int 0, .null, .null, .null, .null, .null, .null])) :: (X0w g q1 r2 ++ [(q3, .inl (g.2.1 2, 16, .inl (fun _ => 0)))])))
  refine k_putF (a := a) (ci := 4) (fs := [.null, .ref q1, .int 0, .int 0, .int 0, .null, .null, .null, .null, .null, .null]) (v := .ref q3) (j := 0) (k := 5) (T := TX4) C zin_4 tyX4 tyX4_ok nmX4 (by rfl) rfl (by decide) (zT_in 278 (by decide +kernel) (by decide +kernel)) rfl rfl hnm rfl rfl rfl rfl (Nat.le_of_ble_eq_true rfl) dX4_init_20 ?_
  change KV g l p e s m args below meth c R _ _ _ _ _ _ _ (w0 ++ ((a, .inr (4, [.null, .ref q1, .int 0, .int 0, .int 0, .ref q3, .null, .null, .null, .null, .null])) :: (X0w g q1 r2 ++ [(q3, .inl (g.2.1 2, 16, .inl (fun _ => 0)))])))
  refine k_aload_n C dX4_init_23 rfl 0 rfl ?_
  refine k_bipush C (v := 16) dX4_init_24 (by decide) ?_
  refine k_newa (atype := .int) (t := 0) (N := 16) (a0 := (16, .inl (fun _ => 0))) (kc' := 4) (ks' := 64) C ac_int rfl rfl (fun _ _ h => h) (fun _ => rfl) (by decide) (by decide) (Nat.le_of_ble_eq_true rfl) (Nat.le_of_ble_eq_true rfl) (Nat.le_of_ble_eq_true rfl) dX4_init_26 (fun q4 => ?_)
  change KV g l p e s m args below meth c R _ _ _ _ _ _ _ (w0 ++ ((a, .inr (4, [.null, .ref q1, .int 0, .int 0, .int 0, .ref q3, .null, .null, .null, .null, .null])) :: ((X0w g q1 r2 ++ [(q3, .inl (g.2.1 2, 16, .inl (fun _ => 0)))]) ++ [(q4, .inl (g.2.1 0, 16, .inl (fun _ => 0)))])))
  refine k_putF (a := a) (ci := 4) (fs := [.null, .ref q1, .int 0, .int 0, .int 0, .ref q3, .null, .null, .null, .null, .null]) (v := .ref q4) (j := 0) (k := 6) (T := TX4) C zin_4 tyX4 tyX4_ok nmX4 (by rfl) rfl (by decide) (zT_in 279 (by decide +kernel) (by decide +kernel)) rfl rfl hnm rfl rfl rfl rfl (Nat.le_of_ble_eq_true rfl) dX4_init_28 ?_
  change KV g l p e s m args below meth c R _ _ _ _ _ _ _ (w0 ++ ((a, .inr (4, [.null, .ref q1, .int 0, .int 0, .int 0, .ref q3, .ref q4, .null, .null, .null, .null])) :: ((X0w g q1 r2 ++ [(q3, .inl (g.2.1 2, 16, .inl (fun _ => 0)))]) ++ [(q4, .inl (g.2.1 0, 16, .inl (fun _ => 0)))])))
  refine k_aload_n C dX4_init_31 rfl 0 rfl ?_
  refine k_bipush C (v := 16) dX4_init_32 (by decide) ?_
  refine k_newa (atype := .int) (t := 0) (N := 16) (a0 := (16, .inl (fun _ => 0))) (kc' := 3) (ks' := 48) C ac_int rfl rfl (fun _ _ h => h) (fun _ => rfl) (by decide) (by decide) (Nat.le_of_ble_eq_true rfl) (Nat.le_of_ble_eq_true rfl) (Nat.le_of_ble_eq_true rfl) dX4_init_34 (fun q5 => ?_)
  change KV g l p e s m args below meth c R _ _ _ _ _ _ _ (w0 ++ ((a, .inr (4, [.null, .ref q1, .int 0, .int 0, .int 0, .ref q3, .ref q4, .null, .null, .null, .null])) :: (((X0w g q1 r2 ++ [(q3, .inl (g.2.1 2, 16, .inl (fun _ => 0)))]) ++ [(q4, .inl (g.2.1 0, 16, .inl (fun _ => 0)))]) ++ [(q5, .inl (g.2.1 0, 16, .inl (fun _ => 0)))])))
  refine k_putF (a := a) (ci := 4) (fs := [.null, .ref q1, .int 0, .int 0, .int 0, .ref q3, .ref q4, .null, .null, .null, .null]) (v := .ref q5) (j := 0) (k := 7) (T := TX4) C zin_4 tyX4 tyX4_ok nmX4 (by rfl) rfl (by decide) (zT_in 280 (by decide +kernel) (by decide +kernel)) rfl rfl hnm rfl rfl rfl rfl (Nat.le_of_ble_eq_true rfl) dX4_init_36 ?_
  change KV g l p e s m args below meth c R _ _ _ _ _ _ _ (w0 ++ ((a, .inr (4, [.null, .ref q1, .int 0, .int 0, .int 0, .ref q3, .ref q4, .ref q5, .null, .null, .null])) :: (((X0w g q1 r2 ++ [(q3, .inl (g.2.1 2, 16, .inl (fun _ => 0)))]) ++ [(q4, .inl (g.2.1 0, 16, .inl (fun _ => 0)))]) ++ [(q5, .inl (g.2.1 0, 16, .inl (fun _ => 0)))])))
  refine k_aload_n C dX4_init_39 rfl 0 rfl ?_
  refine k_bipush C (v := 16) dX4_init_40 (by decide) ?_
  refine k_newa (atype := .int) (t := 0) (N := 16) (a0 := (16, .inl (fun _ => 0))) (kc' := 2) (ks' := 32) C ac_int rfl rfl (fun _ _ h => h) (fun _ => rfl) (by decide) (by decide) (Nat.le_of_ble_eq_true rfl) (Nat.le_of_ble_eq_true rfl) (Nat.le_of_ble_eq_true rfl) dX4_init_42 (fun q6 => ?_)
  change KV g l p e s m args below meth c R _ _ _ _ _ _ _ (w0 ++ ((a, .inr (4, [.null, .ref q1, .int 0, .int 0, .int 0, .ref q3, .ref q4, .ref q5, .null, .null, .null])) :: ((((X0w g q1 r2 ++ [(q3, .inl (g.2.1 2, 16, .inl (fun _ => 0)))]) ++ [(q4, .inl (g.2.1 0, 16, .inl (fun _ => 0)))]) ++ [(q5, .inl (g.2.1 0, 16, .inl (fun _ => 0)))]) ++ [(q6, .inl (g.2.1 0, 16, .inl (fun _ => 0)))])))
  refine k_putF (a := a) (ci := 4) (fs := [.null, .ref q1, .int 0, .int 0, .int 0, .ref q3, .ref q4, .ref q5, .null, .null, .null]) (v := .ref q6) (j := 0) (k := 8) (T := TX4) C zin_4 tyX4 tyX4_ok nmX4 (by rfl) rfl (by decide) (zT_in 281 (by decide +kernel) (by decide +kernel)) rfl rfl hnm rfl rfl rfl rfl (Nat.le_of_ble_eq_true rfl) dX4_init_44 ?_
  change KV g l p e s m args below meth c R _ _ _ _ _ _ _ (w0 ++ ((a, .inr (4, [.null, .ref q1, .int 0, .int 0, .int 0, .ref q3, .ref q4, .ref q5, .ref q6, .null, .null])) :: ((((X0w g q1 r2 ++ [(q3, .inl (g.2.1 2, 16, .inl (fun _ => 0)))]) ++ [(q4, .inl (g.2.1 0, 16, .inl (fun _ => 0)))]) ++ [(q5, .inl (g.2.1 0, 16, .inl (fun _ => 0)))]) ++ [(q6, .inl (g.2.1 0, 16, .inl (fun _ => 0)))])))
  refine k_aload_n C dX4_init_47 rfl 0 rfl ?_
  refine k_bipush C (v := 16) dX4_init_48 (by decide) ?_
  refine k_newa (atype := .int) (t := 0) (N := 16) (a0 := (16, .inl (fun _ => 0))) (kc' := 1) (ks' := 16) C ac_int rfl rfl (fun _ _ h => h) (fun _ => rfl) (by decide) (by decide) (Nat.le_of_ble_eq_true rfl) (Nat.le_of_ble_eq_true rfl) (Nat.le_of_ble_eq_true rfl) dX4_init_50 (fun q7 => ?_)
  change KV g l p e s m args below meth c R _ _ _ _ _ _ _ (w0 ++ ((a, .inr (4, [.null, .ref q1, .int 0, .int 0, .int 0, .ref q3, .ref q4, .ref q5, .ref q6, .null, .null])) :: (((((X0w g q1 r2 ++ [(q3, .inl (g.2.1 2, 16, .inl (fun _ => 0)))]) ++ [(q4, .inl (g.2.1 0, 16, .inl (fun _ => 0)))]) ++ [(q5, .inl (g.2.1 0, 16, .inl (fun _ => 0)))]) ++ [(q6, .inl (g.2.1 0, 16, .inl (fun _ => 0)))]) ++ [(q7, .inl (g.2.1 0, 16, .inl (fun _ => 0)))])))
  refine k_putF (a := a) (ci := 4) (fs := [.null, .ref q1, .int 0, .int 0, .int 0, .ref q3, .ref q4, .ref q5, .ref q6, .null, .null]) (v := .ref q7) (j := 0) (k := 9) (T := TX4) C zin_4 tyX4 tyX4_ok nmX4 (by rfl) rfl (by decide) (zT_in 282 (by decide +kernel) (by decide +kernel)) rfl rfl hnm rfl rfl rfl rfl (Nat.le_of_ble_eq_true rfl) dX4_init_52 ?_
  change KV g l p e s m args below meth c R _ _ _ _ _ _ _ (w0 ++ ((a, .inr (4, [.null, .ref q1, .int 0, .int 0, .int 0, .ref q3, .ref q4, .ref q5, .ref q6, .ref q7, .null])) :: (((((X0w g q1 r2 ++ [(q3, .inl (g.2.1 2, 16, .inl (fun _ => 0)))]) ++ [(q4, .inl (g.2.1 0, 16, .inl (fun _ => 0)))]) ++ [(q5, .inl (g.2.1 0, 16, .inl (fun _ => 0)))]) ++ [(q6, .inl (g.2.1 0, 16, .inl (fun _ => 0)))]) ++ [(q7, .inl (g.2.1 0, 16, .inl (fun _ => 0)))])))
  refine k_aload_n C dX4_init_55 rfl 0 rfl ?_
  refine k_bipush C (v := 16) dX4_init_56 (by decide) ?_
  refine k_newa (atype := .int) (t := 0) (N := 16) (a0 := (16, .inl (fun _ => 0))) (kc' := 0) (ks' := 0) C ac_int rfl rfl (fun _ _ h => h) (fun _ => rfl) (by decide) (by decide) (Nat.le_of_ble_eq_true rfl) (Nat.le_of_ble_eq_true rfl) (Nat.le_of_ble_eq_true rfl) dX4_init_58 (fun q8 => ?_)
  change KV g l p e s m args below meth c R _ _ _ _ _ _ _ (w0 ++ ((a, .inr (4, [.null, .ref q1, .int 0, .int 0, .int 0, .ref q3, .ref q4, .ref q5, .ref q6, .ref q7, .null])) :: ((((((X0w g q1 r2 ++ [(q3, .inl (g.2.1 2, 16, .inl (fun _ => 0)))]) ++ [(q4, .inl (g.2.1 0, 16, .inl (fun _ => 0)))]) ++ [(q5, .inl (g.2.1 0, 16, .inl (fun _ => 0)))]) ++ [(q6, .inl (g.2.1 0, 16, .inl (fun _ => 0)))]) ++ [(q7, .inl (g.2.1 0, 16, .inl (fun _ => 0)))]) ++ [(q8, .inl (g.2.1 0, 16, .inl (fun _ => 0)))])))
  refine k_putF (a := a) (ci := 4) (fs := [.null, .ref q1, .int 0, .int 0, .int 0, .ref q3, .ref q4, .ref q5, .ref q6, .ref q7, .null]) (v := .ref q8) (j := 0) (k := 10) (T := TX4) C zin_4 tyX4 tyX4_ok nmX4 (by rfl) rfl (by decide) (zT_in 283 (by decide +kernel) (by decide +kernel)) rfl rfl hnm rfl rfl rfl rfl (Nat.le_of_ble_eq_true rfl) dX4_init_60 ?_
  change KV g l p e s m args below meth c R _ _ _ _ _ _ _ (w0 ++ ((a, .inr (4, [.null, .ref q1, .int 0, .int 0, .int 0, .ref q3, .ref q4, .ref q5, .ref q6, .ref q7, .ref q8])) :: ((((((X0w g q1 r2 ++ [(q3, .inl (g.2.1 2, 16, .inl (fun _ => 0)))]) ++ [(q4, .inl (g.2.1 0, 16, .inl (fun _ => 0)))]) ++ [(q5, .inl (g.2.1 0, 16, .inl (fun _ => 0)))]) ++ [(q6, .inl (g.2.1 0, 16, .inl (fun _ => 0)))]) ++ [(q7, .inl (g.2.1 0, 16, .inl (fun _ => 0)))]) ++ [(q8, .inl (g.2.1 0, 16, .inl (fun _ => 0)))])))
  refine k_aload_n C dX4_init_63 rfl 0 rfl ?_
  refine k_aload_n C dX4_init_64 rfl 1 rfl ?_
  refine k_putF (a := a) (ci := 4) (fs := [.null, .ref q1, .int 0, .int 0, .int 0, .ref q3, .ref q4, .ref q5, .ref q6, .ref q7, .ref q8]) (v := .ref b) (j := 0) (k := 0) (T := TX4) C zin_4 tyX4 tyX4_ok nmX4 (by rfl) rfl (by decide) (zT_in 272 (by decide +kernel) (by decide +kernel)) rfl rfl hnm rfl rfl rfl rfl (Nat.le_of_ble_eq_true rfl) dX4_init_65 ?_
  change KV g l p e s m args below meth c R _ _ _ _ _ _ _ (w0 ++ ((a, .inr (4, [.ref b, .ref q1, .int 0, .int 0, .int 0, .ref q3, .ref q4, .ref q5, .ref q6, .ref q7, .ref q8])) :: ((((((X0w g q1 r2 ++ [(q3, .inl (g.2.1 2, 16, .inl (fun _ => 0)))]) ++ [(q4, .inl (g.2.1 0, 16, .inl (fun _ => 0)))]) ++ [(q5, .inl (g.2.1 0, 16, .inl (fun _ => 0)))]) ++ [(q6, .inl (g.2.1 0, 16, .inl (fun _ => 0)))]) ++ [(q7, .inl (g.2.1 0, 16, .inl (fun _ => 0)))]) ++ [(q8, .inl (g.2.1 0, 16, .inl (fun _ => 0)))])))
  refine k_ret C dX4_init_68 ⟨fun i => List.getD [q1, (r2 0), (r2 1), (r2 2), (r2 3), (r2 4), (r2 5), (r2 6), (r2 7), (r2 8), q3, q4, q5, q6, q7, q8] i 0, ?_⟩
  exact congrArg (fun z => w0 ++ z) rfl
def X5w (g : zG) (a : Nat) (b : Nat) (r : Nat → Nat) : va_W := ((a, .inr (5, [.ref b, .ref (r 0), .ref (r 1), .ref (r 2)])) :: (([((r 0), .inl (g.2.1 0, 60, .inl (fun _ => 0)))] ++ [((r 1), .inl (g.2.1 0, 60, .inl (fun _ => 0)))]) ++ [((r 2), .inl (g.2.1 2, 60, .inl (fun _ => 0)))]))
abbrev M_X5_init : zM := (yX5_init, cX5_init, 2, none, 2, [])
theorem i_X5_init : zIn M_X5_init 1 := ⟨zT_in 372 (by decide +kernel) (by decide +kernel), in_5, ⟨by decide, by decide⟩, by decide +kernel, by decide⟩
set_option maxRecDepth 20000 in
theorem c_X5_init {a b : Nat} : KC g l M_X5_init 3 180 [.ref a, .ref b] (w0 ++ [(a, .inr (5, [.null, .null, .null, .null]))]) (fun w => ∃ r : Nat → Nat, w = w0 ++ X5w g a b r) := by
  refine KC_of rfl (Nat.le_of_ble_eq_true rfl) ?_
  intro p e s m args below meth c R hnm C
  change KV _ _ _ _ _ _ _ _ _ _ _ _ _ _ _ _ [(0, .ref a), (1, .ref b)] _ _
  refine k_aload_n C dX5_init_0 rfl 0 rfl ?_
  refine k_obj C (zT_in 373 (by decide +kernel) (by decide +kernel)) oi_i oi_c (by decide) (Nat.le_of_ble_eq_true rfl) dX5_init_1 ?_
  refine k_aload_n C dX5_init_4 rfl 0 rfl ?_
  refine k_bipush C (v := 60) dX5_init_5 (by decide) ?_
  refine k_newa (atype := .int) (t := 0) (N := 60) (a0 := (60, .inl (fun _ => 0))) (kc' := 2) (ks' := 120) C ac_int rfl rfl (fun _ _ h => h) (fun _ => rfl) (by decide) (by decide) (Nat.le_of_ble_eq_true rfl) (Nat.le_of_ble_eq_true rfl) (Nat.le_of_ble_eq_true rfl) dX5_init_7 (fun q1 => ?_)
  change KV g l p e s m args below meth c R _ _ _ _ _ _ _ (w0 ++ ((a, .inr (5, [.null, .null, .null, .null])) :: [(q1, .inl (g.2.1 0, 60, .inl (fun _ => 0)))]))
  refine k_putF (a := a) (ci := 5) (fs := [.null, .null, .null, .null]) (v := .ref q1) (j := 0) (k := 1) (T := TX5) C zin_5 tyX5 tyX5_ok nmX5 (by rfl) rfl (by decide) (zT_in 375 (by decide +kernel) (by decide +kernel)) rfl rfl hnm rfl rfl rfl rfl (Nat.le_of_ble_eq_true rfl) dX5_init_9 ?_
  change KV g l p e s m args below meth c R _ _ _ _ _ _ _ (w0 ++ ((a, .inr (5, [.null, .ref q1, .null, .null])) :: [(q1, .inl (g.2.1 0, 60, .inl (fun _ => 0)))]))
  refine k_aload_n C dX5_init_12 rfl 0 rfl ?_
  refine k_bipush C (v := 60) dX5_init_13 (by decide) ?_
  refine k_newa (atype := .int) (t := 0) (N := 60) (a0 := (60, .inl (fun _ => 0))) (kc' := 1) (ks' := 60) C ac_int rfl rfl (fun _ _ h => h) (fun _ => rfl) (by decide) (by decide) (Nat.le_of_ble_eq_true rfl) (Nat.le_of_ble_eq_true rfl) (Nat.le_of_ble_eq_true rfl) dX5_init_15 (fun q2 => ?_)
  change KV g l p e s m args below meth c R _ _ _ _ _ _ _ (w0 ++ ((a, .inr (5, [.null, .ref q1, .null, .null])) :: ([(q1, .inl (g.2.1 0, 60, .inl (fun _ => 0)))] ++ [(q2, .inl (g.2.1 0, 60, .inl (fun _ => 0)))])))
  refine k_putF (a := a) (ci := 5) (fs := [.null, .ref q1, .null, .null]) (v := .ref q2) (j := 0) (k := 2) (T := TX5) C zin_5 tyX5 tyX5_ok nmX5 (by rfl) rfl (by decide) (zT_in 376 (by decide +kernel) (by decide +kernel)) rfl rfl hnm rfl rfl rfl rfl (Nat.le_of_ble_eq_true rfl) dX5_init_17 ?_
  change KV g l p e s m args below meth c R _ _ _ _ _ _ _ (w0 ++ ((a, .inr (5, [.null, .ref q1, .ref q2, .null])) :: ([(q1, .inl (g.2.1 0, 60, .inl (fun _ => 0)))] ++ [(q2, .inl (g.2.1 0, 60, .inl (fun _ => 0)))])))
  refine k_aload_n C dX5_init_20 rfl 0 rfl ?_
  refine k_bipush C (v := 60) dX5_init_21 (by decide) ?_
  refine k_newa (atype := .boolean) (t := 2) (N := 60) (a0 := (60, .inl (fun _ => 0))) (kc' := 0) (ks' := 0) C ac_boolean rfl rfl (fun _ _ h => h) (fun _ => rfl) (by decide) (by decide) (Nat.le_of_ble_eq_true rfl) (Nat.le_of_ble_eq_true rfl) (Nat.le_of_ble_eq_true rfl) dX5_init_23 (fun q3 => ?_)
  change KV g l p e s m args below meth c R _ _ _ _ _ _ _ (w0 ++ ((a, .inr (5, [.null, .ref q1, .ref q2, .null])) :: (([(q1, .inl (g.2.1 0, 60, .inl (fun _ => 0)))] ++ [(q2, .inl (g.2.1 0, 60, .inl (fun _ => 0)))]) ++ [(q3, .inl (g.2.1 2, 60, .inl (fun _ => 0)))])))
  refine k_putF (a := a) (ci := 5) (fs := [.null, .ref q1, .ref q2, .null]) (v := .ref q3) (j := 0) (k := 3) (T := TX5) C zin_5 tyX5 tyX5_ok nmX5 (by rfl) rfl (by decide) (zT_in 377 (by decide +kernel) (by decide +kernel)) rfl rfl hnm rfl rfl rfl rfl (Nat.le_of_ble_eq_true rfl) dX5_init_25 ?_
  change KV g l p e s m args below meth c R _ _ _ _ _ _ _ (w0 ++ ((a, .inr (5, [.null, .ref q1, .ref q2, .ref q3])) :: (([(q1, .inl (g.2.1 0, 60, .inl (fun _ => 0)))] ++ [(q2, .inl (g.2.1 0, 60, .inl (fun _ => 0)))]) ++ [(q3, .inl (g.2.1 2, 60, .inl (fun _ => 0)))])))
  refine k_aload_n C dX5_init_28 rfl 0 rfl ?_
  refine k_aload_n C dX5_init_29 rfl 1 rfl ?_
  refine k_putF (a := a) (ci := 5) (fs := [.null, .ref q1, .ref q2, .ref q3]) (v := .ref b) (j := 0) (k := 0) (T := TX5) C zin_5 tyX5 tyX5_ok nmX5 (by rfl) rfl (by decide) (zT_in 374 (by decide +kernel) (by decide +kernel)) rfl rfl hnm rfl rfl rfl rfl (Nat.le_of_ble_eq_true rfl) dX5_init_30 ?_
  change KV g l p e s m args below meth c R _ _ _ _ _ _ _ (w0 ++ ((a, .inr (5, [.ref b, .ref q1, .ref q2, .ref q3])) :: (([(q1, .inl (g.2.1 0, 60, .inl (fun _ => 0)))] ++ [(q2, .inl (g.2.1 0, 60, .inl (fun _ => 0)))]) ++ [(q3, .inl (g.2.1 2, 60, .inl (fun _ => 0)))])))
  refine k_ret C dX5_init_33 ⟨fun i => List.getD [q1, q2, q3] i 0, ?_⟩
  exact congrArg (fun z => w0 ++ z) rfl
end ZKc
