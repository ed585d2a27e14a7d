/-! the reference (made by cons.py) -/
section ZKc99nc
variable {g : zG} {l : Launch} {w0 : va_W}
/-- the reference's row anew -/
def clF : Nat → Int32 := upd (upd (fun _ => 0) 0 4) 2 9
theorem cl_0 (f : Nat → Int32) (hf : ∀ i, f i = 0) (i : Nat) : upd f i 0 = f := by
  funext j
  unfold upd
  split
  · rw [hf]
  · rfl
theorem fl_cl : Cond.fieldLink RX7 20 "BambooBlindModel" "s" "[I" ∈ zT := zT_in 1379 (by decide +kernel) (by decide +kernel)
theorem c_cl2 {a sa : Nat} {fs : List Value} {b0 : Nat × va_E} {tl : va_W} {p : Program} {e : Env} {s : State} {m : MethodId} {args : Array Value} {below : List Frame} {meth : Method} {c : Code} {R : Room} {dp : Nat} (hf : fs[13]? = some (.ref sa)) (C : KX g (yX7_clears, cX7_clears, 2, none, dp, []) p s m args meth c R) :
    ∀ (n i : Nat), i + n = 1110 → KV g l p e s m args below meth c R (MQ below (kQc g (fun w => w = w0 ++ ((a, .inr (7, fs)) :: (b0 :: ((sa, .inl (g.2.1 0, 1110, .inl clF)) :: tl))))) args s R.cells R.slots (zA g)) 2 0 0 2 [(1, .int (iI i)), (0, .ref a)] [] (w0 ++ ((a, .inr (7, fs)) :: (b0 :: ((sa, .inl (g.2.1 0, 1110, .inl (fun _ => 0))) :: tl)))) := by
  intro n
  induction n with
  | zero =>
    intro i hi
    refine k_iload_n C dX7_clears_2 rfl 0 rfl ?_
    refine k_sipush C (v := iI 1110) dX7_clears_3 (by decide) ?_
    refine k_icmp_ge C (tgt := 22) dX7_clears_6 (by decide) (fun _ => ?_) (fun q => ?_)
    · refine k_aload_n C dX7_clears_22 rfl 1 rfl ?_
      refine k_get (j := 0) (k := 13) (T := TX7) C zin_7 rfl rfl (by decide) fl_cl rfl hf dX7_clears_23 ?_
      refine k_iconst C (v := 0) dX7_clears_26 (by decide) ?_
      refine k_iconst C (v := 4) dX7_clears_27 (by decide) ?_
      refine k_iast (wr := ((a, .inr (7, fs)) :: (b0 :: ((sa, .inl (g.2.1 0, 1110, .inl (fun _ => 0))) :: tl)))) (j := 2) C rfl (by exact iI_in (z := 0) (by omega) (by omega) (by omega)) dX7_clears_28 ?_
      refine k_aload_n C dX7_clears_29 rfl 1 rfl ?_
      refine k_get (wr := ((a, .inr (7, fs)) :: (b0 :: ((sa, .inl (g.2.1 0, 1110, .inl (upd (fun _ => 0) 0 4))) :: tl)))) (j := 0) (k := 13) (T := TX7) C zin_7 rfl rfl (by decide) fl_cl rfl hf dX7_clears_30 ?_
      refine k_iconst C (v := 2) dX7_clears_33 (by decide) ?_
      refine k_bipush C (v := 9) dX7_clears_34 (by decide) ?_
      refine k_iast (wr := ((a, .inr (7, fs)) :: (b0 :: ((sa, .inl (g.2.1 0, 1110, .inl (upd (fun _ => 0) 0 4))) :: tl)))) (j := 2) C rfl (by exact iI_in (z := 2) (by omega) (by omega) (by omega)) dX7_clears_36 ?_
      exact k_ret C dX7_clears_37 rfl
    · exfalso
      rw [iI_le (by omega) (by omega) (by omega) (by omega)] at q
      omega
  | succ n ih =>
    intro i hi
    refine k_iload_n C dX7_clears_2 rfl 0 rfl ?_
    refine k_sipush C (v := iI 1110) dX7_clears_3 (by decide) ?_
    refine k_icmp_ge C (tgt := 22) dX7_clears_6 (by decide) (fun q => ?_) (fun _ => ?_)
    · exfalso
      rw [iI_le (by omega) (by omega) (by omega) (by omega)] at q
      omega
    · refine k_aload_n C dX7_clears_9 rfl 1 rfl ?_
      refine k_get (j := 0) (k := 13) (T := TX7) C zin_7 rfl rfl (by decide) fl_cl rfl hf dX7_clears_10 ?_
      refine k_iload_n C dX7_clears_13 rfl 0 rfl ?_
      refine k_iconst C (v := 0) dX7_clears_14 (by decide) ?_
      refine k_iast (wr := ((a, .inr (7, fs)) :: (b0 :: ((sa, .inl (g.2.1 0, 1110, .inl (fun _ => 0))) :: tl)))) (j := 2) C rfl (iI_in (by omega) (by omega) (by omega)) dX7_clears_15 ?_
      rw [cl_0 (fun _ => 0) (fun _ => rfl)]
      refine k_iinc C (j := 0) (x := iI i) (v := iI ((i + 1 : Nat) : Int)) (ls' := [(1, .int (iI ((i + 1 : Nat) : Int))), (0, .ref a)]) dX7_clears_16 rfl (by rw [show Int32.ofInt 1 = iI 1 from rfl, iI_add]; rfl) (by decide) rfl ?_
      exact k_goto C (tgt := 2) dX7_clears_19 (by decide) (ih (i + 1) (by omega))
theorem c_X7_clears {a sa : Nat} {fs : List Value} {b0 : Nat × va_E} {tl wr : va_W} (hw : wr = (a, .inr (7, fs)) :: (b0 :: ((sa, .inl (g.2.1 0, 1110, .inl (fun _ => 0))) :: tl))) (hf : fs[13]? = some (.ref sa)) : KC g l M_X7_clears 0 0 [.ref a] (w0 ++ wr) (fun w => w = w0 ++ ((a, .inr (7, fs)) :: (b0 :: ((sa, .inl (g.2.1 0, 1110, .inl clF)) :: tl)))) := by
  subst hw
  refine KC_of rfl (Nat.le_of_ble_eq_true rfl) ?_
  intro p e s m args below meth c R hnm C
  change KV _ _ _ _ _ _ _ _ _ _ _ _ _ _ _ _ [(0, .ref a)] _ _
  refine k_iconst C (v := 0) dX7_clears_0 (by decide) ?_
  refine k_istore_n C (ls' := [(1, .int (iI (0 : Nat))), (0, .ref a)]) dX7_clears_1 rfl (by decide) rfl ?_
  exact c_cl2 hf C 1110 0 rfl
end ZKc99nc
