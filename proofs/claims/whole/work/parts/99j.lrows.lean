/-! the judgement of the law's own walk: one start s, one end Z; the script is below the world -/
abbrev M_law : zM := (yL_law, cL_law, 10, (some FieldType.boolean), 64, [])
def LC (g : zG) (p : Program) (s : State) (m : MethodId) (args : Array Value) (meth : Method) (c : Code) (R : Room) : Prop :=
  p.tables.exec = Jvm.exec ∧ c.code = cL_law ∧ meth.sig.returnType = some FieldType.boolean ∧ c.maxLocals = 10 ∧ s.vm.findClass RL = some m.cls ∧ (∀ w ∈ zT, w.before args s = true) ∧ meth.locks = false ∧
  64 ≤ R.frames ∧ 40 * 64 ≤ R.locals ∧ g.2.2.2.1 ≤ s.heap.size ∧ va_K g.1 vwCl (ztys g) s ∧ zX g s s.heap
def LX (g : zG) (l : Launch) (p : Program) (s : State) (m : MethodId) (args : Array Value) (meth : Method) (c : Code) (R : Room) (b L : Nat) (xs : Nat → Int32) : Prop :=
  l.stackTraces = false ∧ zD g ∧ LC g p s m args meth c R ∧ va_X b L xs s s.heap ∧ b < g.2.2.2.1 ∧ L ≤ 3072
def LJ (g : zG) (l : Launch) (p : Program) (e : Env) (s : State) (m : MethodId) (args : Array Value) (below : List Frame) (meth : Method) (c : Code) (R : Room) (Z : State → Prop) (kb : Nat) (pc : Nat) (ls : List (Nat × Value)) (st : List Value) (σ : zS) : Prop :=
  ∀ (H : Heap) (locs : List Loc) (cells slots : Nat) (la : Array Slot), va_P g.1 vwCl (zws g σ) H → va_S (zA g) s.heap H locs → cells + kb ≤ R.cells → slots + 6 * kb ≤ R.slots → lv_has la 10 ls →
    W p l e R s m args below meth c H locs cells slots Z (F0 m pc la st)
section ZLw
variable {g : zG} {l : Launch} {p : Program} {e : Env} {s : State} {m : MethodId} {args : Array Value} {below : List Frame} {meth : Method} {c : Code} {R : Room} {Z : State → Prop} {kb : Nat} {pc : Nat} {ls : List (Nat × Value)} {rest : List Value} {σ : zS} {b L : Nat} {xs : Nat → Int32}
theorem l_km {j : Nat} {st : List Value} (h : j ≤ kb) (kk : LJ g l p e s m args below meth c R Z j pc ls st σ) : LJ g l p e s m args below meth c R Z kb pc ls st σ :=
  fun H locs cells slots la hP hS hc hs hl => kk H locs cells slots la hP hS (by omega) (by omega) hl
theorem l_ls {st : List Value} {ls' : List (Nat × Value)} (ks : List Nat) (h : lv_pick ls ks = ls') (kk : LJ g l p e s m args below meth c R Z kb pc ls' st σ) : LJ g l p e s m args below meth c R Z kb pc ls st σ :=
  fun H locs cells slots la hP hS hc hs hl => kk H locs cells slots la hP hS hc hs (lv_sub hl ks h)
theorem l_iconst {n : Int} {v : Int32} (C : LX g l p s m args meth c R b L xs) (hdg : decode cL_law pc = .ok (.iconst n, 1)) (hv : Int32.ofInt n = v) (z : LJ g l p e s m args below meth c R Z kb (pc + 1) ls (.int v :: rest) σ) : LJ g l p e s m args below meth c R Z kb pc ls (rest) σ := fun H locs cells slots la hP hS hc hs hl => lv_iconst C.2.2.1.1 C.2.2.1.2.1 hdg hv (z H locs cells slots la hP hS hc hs hl)
theorem l_lconst {n : Fin 2} {v : Int64} (C : LX g l p s m args meth c R b L xs) (hdg : decode cL_law pc = .ok (.lconst n, 1)) (hv : Int64.ofNat (n : Nat) = v) (z : LJ g l p e s m args below meth c R Z kb (pc + 1) ls (.long v :: rest) σ) : LJ g l p e s m args below meth c R Z kb pc ls (rest) σ := fun H locs cells slots la hP hS hc hs hl => lv_lconst C.2.2.1.1 C.2.2.1.2.1 hdg hv (z H locs cells slots la hP hS hc hs hl)
theorem l_bipush {n : Int} {v : Int32} (C : LX g l p s m args meth c R b L xs) (hdg : decode cL_law pc = .ok (.bipush n, 2)) (hv : (Int8.ofInt n).toInt32 = v) (z : LJ g l p e s m args below meth c R Z kb (pc + 2) ls (.int v :: rest) σ) : LJ g l p e s m args below meth c R Z kb pc ls (rest) σ := fun H locs cells slots la hP hS hc hs hl => lv_bipush C.2.2.1.1 C.2.2.1.2.1 hdg hv (z H locs cells slots la hP hS hc hs hl)
theorem l_iload {i : Nat} {x : Int32} (C : LX g l p s m args meth c R b L xs) (hdg : decode cL_law pc = .ok (.iload i, 2)) (j : Nat) (hj : ls[j]? = some (i, .int x)) (z : LJ g l p e s m args below meth c R Z kb (pc + 2) ls (.int x :: rest) σ) : LJ g l p e s m args below meth c R Z kb pc ls (rest) σ := fun H locs cells slots la hP hS hc hs hl => lv_iload C.2.2.1.1 C.2.2.1.2.1 hdg (lv_at hl j hj) (z H locs cells slots la hP hS hc hs hl)
theorem l_aload_n {k4 : Fin 4} {i : Nat} {x : Nat} (C : LX g l p s m args meth c R b L xs) (hdg : decode cL_law pc = .ok (.aload_n k4, 1)) (hi : (k4 : Nat) = i) (j : Nat) (hj : ls[j]? = some (i, .ref x)) (z : LJ g l p e s m args below meth c R Z kb (pc + 1) ls (.ref x :: rest) σ) : LJ g l p e s m args below meth c R Z kb pc ls (rest) σ := fun H locs cells slots la hP hS hc hs hl => lv_aload_n C.2.2.1.1 C.2.2.1.2.1 hdg hi (lv_at hl j hj) (z H locs cells slots la hP hS hc hs hl)
theorem l_aload {i : Nat} {x : Nat} (C : LX g l p s m args meth c R b L xs) (hdg : decode cL_law pc = .ok (.aload i, 2)) (j : Nat) (hj : ls[j]? = some (i, .ref x)) (z : LJ g l p e s m args below meth c R Z kb (pc + 2) ls (.ref x :: rest) σ) : LJ g l p e s m args below meth c R Z kb pc ls (rest) σ := fun H locs cells slots la hP hS hc hs hl => lv_aload C.2.2.1.1 C.2.2.1.2.1 hdg (lv_at hl j hj) (z H locs cells slots la hP hS hc hs hl)
theorem l_fload {i : Nat} {x : UInt32} (C : LX g l p s m args meth c R b L xs) (hdg : decode cL_law pc = .ok (.fload i, 2)) (j : Nat) (hj : ls[j]? = some (i, .float x)) (z : LJ g l p e s m args below meth c R Z kb (pc + 2) ls (.float x :: rest) σ) : LJ g l p e s m args below meth c R Z kb pc ls (rest) σ := fun H locs cells slots la hP hS hc hs hl => lv_fload C.2.2.1.1 C.2.2.1.2.1 hdg (lv_at hl j hj) (z H locs cells slots la hP hS hc hs hl)
theorem l_dload {i : Nat} {x : UInt64} (C : LX g l p s m args meth c R b L xs) (hdg : decode cL_law pc = .ok (.dload i, 2)) (j : Nat) (hj : ls[j]? = some (i, .double x)) (z : LJ g l p e s m args below meth c R Z kb (pc + 2) ls (.double x :: rest) σ) : LJ g l p e s m args below meth c R Z kb pc ls (rest) σ := fun H locs cells slots la hP hS hc hs hl => lv_dload C.2.2.1.1 C.2.2.1.2.1 hdg (lv_at hl j hj) (z H locs cells slots la hP hS hc hs hl)
theorem l_iadd {x y : Int32} (C : LX g l p s m args meth c R b L xs) (hdg : decode cL_law pc = .ok (.iadd, 1)) (z : LJ g l p e s m args below meth c R Z kb (pc + 1) ls (.int (x + y) :: rest) σ) : LJ g l p e s m args below meth c R Z kb pc ls (.int y :: .int x :: rest) σ := fun H locs cells slots la hP hS hc hs hl => lv_iadd C.2.2.1.1 C.2.2.1.2.1 hdg (z H locs cells slots la hP hS hc hs hl)
theorem l_isub {x y : Int32} (C : LX g l p s m args meth c R b L xs) (hdg : decode cL_law pc = .ok (.isub, 1)) (z : LJ g l p e s m args below meth c R Z kb (pc + 1) ls (.int (x - y) :: rest) σ) : LJ g l p e s m args below meth c R Z kb pc ls (.int y :: .int x :: rest) σ := fun H locs cells slots la hP hS hc hs hl => lv_isub C.2.2.1.1 C.2.2.1.2.1 hdg (z H locs cells slots la hP hS hc hs hl)
theorem l_iand {x y : Int32} (C : LX g l p s m args meth c R b L xs) (hdg : decode cL_law pc = .ok (.iand, 1)) (z : LJ g l p e s m args below meth c R Z kb (pc + 1) ls (.int (x &&& y) :: rest) σ) : LJ g l p e s m args below meth c R Z kb pc ls (.int y :: .int x :: rest) σ := fun H locs cells slots la hP hS hc hs hl => lv_iand C.2.2.1.1 C.2.2.1.2.1 hdg (z H locs cells slots la hP hS hc hs hl)
theorem l_i2l {x : Int32} {v : Int64} (C : LX g l p s m args meth c R b L xs) (hdg : decode cL_law pc = .ok (.i2l, 1)) (hv : x.toInt64 = v) (z : LJ g l p e s m args below meth c R Z kb (pc + 1) ls (.long v :: rest) σ) : LJ g l p e s m args below meth c R Z kb pc ls (.int x :: rest) σ := fun H locs cells slots la hP hS hc hs hl => lv_i2l C.2.2.1.1 C.2.2.1.2.1 hdg hv (z H locs cells slots la hP hS hc hs hl)
theorem l_lcmp {x y : Int64} (C : LX g l p s m args meth c R b L xs) (hdg : decode cL_law pc = .ok (.lcmp, 1)) (z : LJ g l p e s m args below meth c R Z kb (pc + 1) ls (.int (lg_cmp x y) :: rest) σ) : LJ g l p e s m args below meth c R Z kb pc ls (.long y :: .long x :: rest) σ := fun H locs cells slots la hP hS hc hs hl => W.lcmp C.2.2.1.1 C.2.2.1.2.1 hdg (z H locs cells slots la hP hS hc hs hl)
theorem l_f2d {x : UInt32} (C : LX g l p s m args meth c R b L xs) (hdg : decode cL_law pc = .ok (.f2d, 1)) (hne : vf_n64 (FP.f2d x)) (z : LJ g l p e s m args below meth c R Z kb (pc + 1) ls (.double (FP.f2d x) :: rest) σ) : LJ g l p e s m args below meth c R Z kb pc ls (.float x :: rest) σ := fun H locs cells slots la hP hS hc hs hl => lv_f2d C.2.2.1.1 C.2.2.1.2.1 hdg hne (z H locs cells slots la hP hS hc hs hl)
theorem l_fcmp {x y : UInt32} {op : CmpOp} (C : LX g l p s m args meth c R b L xs) (hdg : decode cL_law pc = .ok (.fcmp op, 1)) (z : LJ g l p e s m args below meth c R Z kb (pc + 1) ls (.int (Op.cmpValue (FP.fcmp x y) op) :: rest) σ) : LJ g l p e s m args below meth c R Z kb pc ls (.float y :: .float x :: rest) σ := fun H locs cells slots la hP hS hc hs hl => lv_fcmp C.2.2.1.1 C.2.2.1.2.1 hdg (z H locs cells slots la hP hS hc hs hl)
theorem l_dcmp {x y : UInt64} {op : CmpOp} (C : LX g l p s m args meth c R b L xs) (hdg : decode cL_law pc = .ok (.dcmp op, 1)) (z : LJ g l p e s m args below meth c R Z kb (pc + 1) ls (.int (Op.cmpValue (FP.dcmp x y) op) :: rest) σ) : LJ g l p e s m args below meth c R Z kb pc ls (.double y :: .double x :: rest) σ := fun H locs cells slots la hP hS hc hs hl => lv_dcmp C.2.2.1.1 C.2.2.1.2.1 hdg (z H locs cells slots la hP hS hc hs hl)
theorem l_goto {off : Int} {tgt : Nat} (C : LX g l p s m args meth c R b L xs) (hdg : decode cL_law pc = .ok (.goto off, 3)) (ht : (pc : Int) + off = (tgt : Int)) (z : LJ g l p e s m args below meth c R Z kb tgt ls rest σ) : LJ g l p e s m args below meth c R Z kb pc ls rest σ := fun H locs cells slots la hP hS hc hs hl => lv_goto C.2.2.1.1 C.2.2.1.2.1 hdg ht (z H locs cells slots la hP hS hc hs hl)
theorem l_if_eq {x : Int32} {off : Int} {tgt : Nat} (C : LX g l p s m args meth c R b L xs) (hdg : decode cL_law pc = .ok (.ifCond .eq off, 3)) (ht : (pc : Int) + off = (tgt : Int)) (kt : x = 0 → LJ g l p e s m args below meth c R Z kb tgt ls rest σ) (kf : ¬ x = 0 → LJ g l p e s m args below meth c R Z kb (pc + 3) ls rest σ) : LJ g l p e s m args below meth c R Z kb pc ls (.int x :: rest) σ := fun H locs cells slots la hP hS hc hs hl => lv_if_eq C.2.2.1.1 C.2.2.1.2.1 hdg ht (fun q => kt q H locs cells slots la hP hS hc hs hl) (fun q => kf q H locs cells slots la hP hS hc hs hl)
theorem l_if_ne {x : Int32} {off : Int} {tgt : Nat} (C : LX g l p s m args meth c R b L xs) (hdg : decode cL_law pc = .ok (.ifCond .ne off, 3)) (ht : (pc : Int) + off = (tgt : Int)) (kt : ¬ x = 0 → LJ g l p e s m args below meth c R Z kb tgt ls rest σ) (kf : x = 0 → LJ g l p e s m args below meth c R Z kb (pc + 3) ls rest σ) : LJ g l p e s m args below meth c R Z kb pc ls (.int x :: rest) σ := fun H locs cells slots la hP hS hc hs hl => lv_if_ne C.2.2.1.1 C.2.2.1.2.1 hdg ht (fun q => kt q H locs cells slots la hP hS hc hs hl) (fun q => kf q H locs cells slots la hP hS hc hs hl)
theorem l_icmp_eq {x y : Int32} {off : Int} {tgt : Nat} (C : LX g l p s m args meth c R b L xs) (hdg : decode cL_law pc = .ok (.if_icmp .eq off, 3)) (ht : (pc : Int) + off = (tgt : Int)) (kt : x = y → LJ g l p e s m args below meth c R Z kb tgt ls rest σ) (kf : ¬ x = y → LJ g l p e s m args below meth c R Z kb (pc + 3) ls rest σ) : LJ g l p e s m args below meth c R Z kb pc ls (.int y :: .int x :: rest) σ := fun H locs cells slots la hP hS hc hs hl => lv_icmp_eq C.2.2.1.1 C.2.2.1.2.1 hdg ht (fun q => kt q H locs cells slots la hP hS hc hs hl) (fun q => kf q H locs cells slots la hP hS hc hs hl)
theorem l_icmp_gt {x y : Int32} {off : Int} {tgt : Nat} (C : LX g l p s m args meth c R b L xs) (hdg : decode cL_law pc = .ok (.if_icmp .gt off, 3)) (ht : (pc : Int) + off = (tgt : Int)) (kt : y < x → LJ g l p e s m args below meth c R Z kb tgt ls rest σ) (kf : ¬ y < x → LJ g l p e s m args below meth c R Z kb (pc + 3) ls rest σ) : LJ g l p e s m args below meth c R Z kb pc ls (.int y :: .int x :: rest) σ := fun H locs cells slots la hP hS hc hs hl => lv_icmp_gt C.2.2.1.1 C.2.2.1.2.1 hdg ht (fun q => kt q H locs cells slots la hP hS hc hs hl) (fun q => kf q H locs cells slots la hP hS hc hs hl)
theorem l_tableIn {dflt lo hi : Int} {offs : Array Int} {len : Nat} {x : Int32} {off : Int} {tgt : Nat} (C : LX g l p s m args meth c R b L xs) (hdg : decode cL_law pc = .ok (.tableswitch dflt lo hi offs, len)) (h1 : ¬ x.toInt < lo) (h2 : ¬ hi < x.toInt) (ho : offs[(x.toInt - lo).toNat]? = some off) (ht : (pc : Int) + off = (tgt : Int)) (z : LJ g l p e s m args below meth c R Z kb tgt ls rest σ) : LJ g l p e s m args below meth c R Z kb pc ls (.int x :: rest) σ := fun H locs cells slots la hP hS hc hs hl => lv_tableIn C.2.2.1.1 C.2.2.1.2.1 hdg h1 h2 ho ht (z H locs cells slots la hP hS hc hs hl)
theorem l_tableOut {dflt lo hi : Int} {offs : Array Int} {len : Nat} {x : Int32} {tgt : Nat} (C : LX g l p s m args meth c R b L xs) (hdg : decode cL_law pc = .ok (.tableswitch dflt lo hi offs, len)) (h : x.toInt < lo ∨ hi < x.toInt) (ht : (pc : Int) + dflt = (tgt : Int)) (z : LJ g l p e s m args below meth c R Z kb tgt ls rest σ) : LJ g l p e s m args below meth c R Z kb pc ls (.int x :: rest) σ := fun H locs cells slots la hP hS hc hs hl => lv_tableOut C.2.2.1.1 C.2.2.1.2.1 hdg h ht (z H locs cells slots la hP hS hc hs hl)
theorem l_istore {i : Nat} {x : Int32} {ls' : List (Nat × Value)} (C : LX g l p s m args meth c R b L xs) (hdg : decode cL_law pc = .ok (.istore i, 2)) (hn : i < 10) (hq : (i, Value.int x) :: ls.filter (fun q => !(q.1 == i) && !(q.1 + 1 == i && q.2.category == 2)) = ls') (z : LJ g l p e s m args below meth c R Z kb (pc + 2) ls' rest σ) : LJ g l p e s m args below meth c R Z kb pc ls (.int x :: rest) σ := fun H locs cells slots la hP hS hc hs hl => lv_istore C.2.2.1.1 C.2.2.1.2.1 hdg hl hn hq (fun la hl => z H locs cells slots la hP hS hc hs hl)
theorem l_fstore {i : Nat} {x : UInt32} {ls' : List (Nat × Value)} (C : LX g l p s m args meth c R b L xs) (hdg : decode cL_law pc = .ok (.fstore i, 2)) (hn : i < 10) (hq : (i, Value.float x) :: ls.filter (fun q => !(q.1 == i) && !(q.1 + 1 == i && q.2.category == 2)) = ls') (z : LJ g l p e s m args below meth c R Z kb (pc + 2) ls' rest σ) : LJ g l p e s m args below meth c R Z kb pc ls (.float x :: rest) σ := fun H locs cells slots la hP hS hc hs hl => lv_fstore C.2.2.1.1 C.2.2.1.2.1 hdg hl hn hq (fun la hl => z H locs cells slots la hP hS hc hs hl)
theorem l_dstore {i : Nat} {x : UInt64} {ls' : List (Nat × Value)} (C : LX g l p s m args meth c R b L xs) (hdg : decode cL_law pc = .ok (.dstore i, 2)) (hn : i + 1 < 10) (hq : (i, Value.double x) :: ls.filter (fun q => !(q.1 == i) && (!(q.1 == i + 1) && !(q.1 + 1 == i && q.2.category == 2))) = ls') (z : LJ g l p e s m args below meth c R Z kb (pc + 2) ls' rest σ) : LJ g l p e s m args below meth c R Z kb pc ls (.double x :: rest) σ := fun H locs cells slots la hP hS hc hs hl => lv_dstore C.2.2.1.1 C.2.2.1.2.1 hdg hl hn hq (fun la hl => z H locs cells slots la hP hS hc hs hl)
theorem l_iinc {i j : Nat} {n : Int} {x v : Int32} {ls' : List (Nat × Value)} (C : LX g l p s m args meth c R b L xs) (hdg : decode cL_law pc = .ok (.iinc i n, 3)) (hk : ls[j]? = some (i, .int x)) (hv : x + Int32.ofInt n = v) (hn : i < 10) (hq : (i, Value.int v) :: ls.filter (fun q => !(q.1 == i) && !(q.1 + 1 == i && q.2.category == 2)) = ls') (z : LJ g l p e s m args below meth c R Z kb (pc + 3) ls' rest σ) : LJ g l p e s m args below meth c R Z kb pc ls rest σ := fun H locs cells slots la hP hS hc hs hl => lv_iinc C.2.2.1.1 C.2.2.1.2.1 hdg hl hk hv hn hq (fun la hl => z H locs cells slots la hP hS hc hs hl)
theorem LX.ba (C : LX g l p s m args meth c R b L xs) : b < s.heap.size ∧ ¬ zA g b := by
  obtain ⟨_, _, h3, _, h5, _⟩ := C
  have h : g.2.2.2.1 ≤ s.heap.size := h3.2.2.2.2.2.2.2.2.2.1
  exact ⟨by omega, fun q => absurd q (by show ¬ g.2.2.2.1 ≤ b; omega)⟩
theorem l_slen (C : LX g l p s m args meth c R b L xs) (hdg : decode cL_law pc = .ok (.arraylength, 1)) (z : LJ g l p e s m args below meth c R Z kb (pc + 1) ls (.int (iI L) :: rest) σ) : LJ g l p e s m args below meth c R Z kb pc ls (.ref b :: rest) σ :=
  fun H locs cells slots la hP hS hc hs hl => va_slen C.2.2.1.1 C.2.2.1.2.1 C.2.2.2.1 C.ba.1 C.ba.2 hS hdg (z H locs cells slots la hP hS hc hs hl)
theorem l_sld (C : LX g l p s m args meth c R b L xs) {j : Nat} (hj : j < L) (hdg : decode cL_law pc = .ok (.iaload, 1)) (z : LJ g l p e s m args below meth c R Z kb (pc + 1) ls (.int (xs j) :: rest) σ) : LJ g l p e s m args below meth c R Z kb pc ls (.int (iI j) :: .ref b :: rest) σ :=
  fun H locs cells slots la hP hS hc hs hl => by
    have hL := C.2.2.2.2.2
    refine va_sld C.2.2.1.1 C.2.2.1.2.1 C.2.2.2.1 C.ba.1 C.ba.2 hS (iI_in (by omega) (by omega) (by omega)) hdg ?_
    rw [iI_tn (by omega) (by omega), Int.toNat_natCast]
    exact z H locs cells slots la hP hS hc hs hl
theorem l_lald (C : LX g l p s m args meth c R b L xs) (hdg : decode cL_law pc = .ok (.laload, 1)) (z : LJ g l p e s m args below meth c R Z kb (pc + 1) ls (.long (σ.2.1 1) :: rest) σ) : LJ g l p e s m args below meth c R Z kb pc ls (.int 0 :: .ref (zad g 41) :: rest) σ :=
  fun H locs cells slots la hP hS hc hs hl => va_lald C.2.2.1.1 C.2.2.1.2.1 C.2.2.1.2.2.2.2.2.2.2.2.2.2.1 hP 41 5 zws_41 rfl (by exact iI_in (z := 0) (by omega) (by omega) (by omega)) hdg (z H locs cells slots la hP hS hc hs hl)
theorem l_dald (C : LX g l p s m args meth c R b L xs) (hdg : decode cL_law pc = .ok (.daload, 1)) (z : LJ g l p e s m args below meth c R Z kb (pc + 1) ls (.double (σ.2.2 0) :: rest) σ) : LJ g l p e s m args below meth c R Z kb pc ls (.int 0 :: .ref (zad g 42) :: rest) σ :=
  fun H locs cells slots la hP hS hc hs hl => va_dald C.2.2.1.1 C.2.2.1.2.1 C.2.2.1.2.2.2.2.2.2.2.2.2.2.1 hP 42 6 zws_42 rfl (by exact iI_in (z := 0) (by omega) (by omega) (by omega)) hdg (z H locs cells slots la hP hS hc hs hl)
theorem l_pre {H : Heap} {locs : List Loc} {av : List Value} (C0 : LC g p s m args meth c R) (hP : va_P g.1 vwCl (zws g σ) H) (hS : va_S (zA g) s.heap H locs) :
    ∀ U : State, U.heap = H → s.WarmedH U.vm → zPc g av σ av.toArray U := fun U hU hW =>
  ⟨rfl, by rw [hU]; exact Nat.le_trans C0.2.2.2.2.2.2.2.2.2.1 hS.1, by rw [hU]; exact hP, va_K.moved hW.alike C0.2.2.2.2.2.2.2.2.2.2.1, by rw [hU]; exact zX_move hW hS.2.1 C0.2.2.2.2.2.2.2.2.2.2.2⟩
/-- behind a call that does not throw -/
theorem lc_run {j1 j2 : Nat} {st0 : List Value} {Qc : zR → zS → Prop} {H : Heap} {locs : List Loc} {cells slots : Nat} {la : Array Slot} {a : Array Value}
    (C : LX g l p s m args meth c R b L xs) (hS : va_S (zA g) s.heap H locs) (hj : j1 + j2 ≤ kb) (hc : cells + kb ≤ R.cells) (hs : slots + 6 * kb ≤ R.slots) (hl : lv_has la 10 ls)
    (hrun : vx_Run p l e R s m args below meth c H locs cells slots j1 (6 * j1) (F0 m pc la st0) rest (zQc g Qc a) (zXc g Qc) (zA g))
    (kx : ∀ (E : String) (σ' : zS), ¬ Qc (.inr E) σ')
    (kk : ∀ (v : Option Value) (σ' : zS), Qc (.inl v) σ' → LJ g l p e s m args below meth c R Z j2 (pc + 3) ls (v.toList ++ rest) σ') :
    W p l e R s m args below meth c H locs cells slots Z (F0 m pc la st0) := by
  intro T hT X
  rcases hrun T hT X with ⟨v, st₀, t, T', L, h0, X', hL, e1, e2, ⟨⟨v', σ', hv, hq, hP'⟩, hF⟩, st⟩ | ⟨q, st₀, t, T', L, E, ce, h0, X', hL, e1, e2, ⟨⟨σ', hq, hP'⟩, hF⟩, hce, hcv, hcl, st⟩
  · obtain ⟨k1, k2, k3⟩ := vx_keep h0 e1 hS (fun _ _ h => h) (fun _ h => h) hL hF
    cases hv
    obtain ⟨t2, a1, b1⟩ := kk v σ' hq T'.heap (locs ++ L) (cells + j1) (slots + 6 * j1) la (by rw [e1]; exact hP') k3 (by omega) (by omega) hl T' rfl X'
    exact ⟨t2, st t2 a1, b1⟩
  · exact absurd hq (kx E σ')
theorem l_callSW {N : zM} {j1 j2 n idx : Nat} {av : List Value} {Qc : zR → zS → Prop} {st : List Value} (C : LX g l p s m args meth c R b L xs) (hst : st = av.reverse ++ rest) (hct : CTW g l N j1 av σ Qc) (hi : zInW N n) (hn : av.length = n) (hstat : Cond.static N.1 ∈ zT) (hlink : Cond.methodLink RL idx N.1 ∈ zT)
    (hd : N.2.2.2.2.1 + 1 ≤ 64) (hj : j1 + j2 ≤ kb) (hW : (rest.map fun v => v.category).sum ≤ 8) (hdg : decode cL_law pc = .ok (.invokestatic idx, 3)) (kx : ∀ (E : String) (σ' : zS), ¬ Qc (.inr E) σ')
    (kk : ∀ (v : Option Value) (σ' : zS), Qc (.inl v) σ' → LJ g l p e s m args below meth c R Z j2 (pc + 3) ls (v.toList ++ rest) σ') :
    LJ g l p e s m args below meth c R Z kb pc ls st σ := fun H locs cells slots la hP hS hc0 hs hl => by
  subst hst
  have C0 := C.2.2.1
  have h1 := hi.2.2.2.2
  have f1 : 64 ≤ R.frames := C0.2.2.2.2.2.2.2.1
  have f2 : 40 * 64 ≤ R.locals := C0.2.2.2.2.2.2.2.2.1
  have hr : (zRm N j1).frames + 1 ≤ R.frames ∧ 8 + (N.2.2.1 + 11) + (zRm N j1).locals ≤ R.locals := by
    simp only [zRm]
    omega
  have hg : GoodIn zT (va_wsS RL idx N.1 (Cond.codeWith N.1 N.2.1 N.2.2.1 N.2.2.2.1 N.2.2.2.2.2 :: zT)) := fun w hw => by
    have hm : w ∈ zT := by
      simp only [va_wsS, List.mem_append, List.mem_cons, List.not_mem_nil, or_false] at hw
      rcases hw with hw | hw
      · rcases hw with rfl | rfl | rfl
        all_goals first | exact hi.2.1 | exact hlink | exact hstat
      · rcases hw with rfl | hw
        · exact hi.1
        · exact hw
    exact ⟨hm, zT_good hm⟩
  have cb := vx_cwSW (R := R) (own := RL) (index := idx) (mc := j1) (ms := 6 * j1) (rm := zRm N j1) n C0.2.2.2.2.2.1 hg rfl rfl rfl ⟨hi.2.2.1.1, hi.2.2.1.2, hi.2.2.2.1⟩ hr
  exact lc_run C hS hj hc0 hs hl (vx_runSX (g := F0 m pc la (av.reverse ++ rest)) (rest := rest) (As := av) ⟨C0.1, C0.2.1, C0.2.2.2.1, C0.2.2.2.2.1, C0.2.2.2.2.2.1⟩ (hct C.1 C.2.1) cb ⟨zPc_blind, l_pre C0 hP hS⟩ rfl hn hl.1 rfl (lv_room hW) hdg ⟨by omega, by omega⟩) kx kk
theorem l_callV {N : zM} {j1 j2 n idx o ci : Nat} {sl : List zK} {q : vw_C} {av : List Value} {Qc : zR → zS → Prop} {st : List Value} (C : LX g l p s m args meth c R b L xs) (hst : st = av.reverse ++ .ref (zad g o) :: rest) (hsh : zsh o = .inl (ci, sl)) (ho : o < 163) (hcl : vwCl[ci]? = some q) (hq : q.1 = N.1.cls) (hct : CT g l N j1 (.ref (zad g o) :: av) σ Qc) (hi : zIn N n) (hn : av.length = n)
    (hinst : Cond.instanceMethod N.1 ∈ zT) (hsel : Cond.selects N.1.cls N.1 N.1 ∈ zT) (hlink : Cond.methodLink RL idx N.1 ∈ zT)
    (hd : N.2.2.2.2.1 + 1 ≤ 64) (hj : j1 + j2 ≤ kb) (hW : (rest.map fun v => v.category).sum ≤ 8) (hdg : decode cL_law pc = .ok (.invokevirtual idx, 3)) (kx : ∀ (E : String) (σ' : zS), ¬ Qc (.inr E) σ')
    (kk : ∀ (v : Option Value) (σ' : zS), Qc (.inl v) σ' → LJ g l p e s m args below meth c R Z j2 (pc + 3) ls (v.toList ++ rest) σ') :
    LJ g l p e s m args below meth c R Z kb pc ls st σ := fun H locs cells slots la hP hS hc0 hs hl => by
  subst hst
  have C0 := C.2.2.1
  have hr := zc_room (M := M_law) (j := j1) C0.2.2.2.2.2.2.2.1 C0.2.2.2.2.2.2.2.2.1 hi hd
  have cb := callB_of (R := R) (own := RL) (index := idx) (mc := j1) (ms := 6 * j1) (rm := zRm N j1) n C0.2.2.2.2.2.1 (zT_goodIn hi.1) rfl rfl rfl (C0.2.2.2.2.2.1 _ hi.2.1) (C0.2.2.2.2.2.1 _ hlink) ⟨hi.2.2.1.1, hi.2.2.1.2, hi.2.2.2.1⟩ hr
  have hrecv := va_recv C0.2.2.2.2.2.2.2.2.2.2.1 hP hcl (zws_o ho hsh)
  rw [hq] at hrecv
  exact lc_run C hS hj hc0 hs hl (vx_runV (g := F0 m pc la (av.reverse ++ .ref (zad g o) :: rest)) (rest := rest) (As := av) (b := zad g o) (C := N.1.cls) ⟨C0.1, C0.2.1, C0.2.2.2.1, C0.2.2.2.2.1, C0.2.2.2.2.2.1⟩ (hct C.1 C.2.1) ⟨cb, C0.2.2.2.2.2.1 _ hinst, C0.2.2.2.2.2.1 _ hsel⟩ ⟨zPc_blind, hrecv, l_pre C0 hP hS⟩ rfl hn hl.1 rfl (lv_room hW) hdg ⟨by omega, by omega⟩) kx kk
/-- the law's locals at the head of its loop -/
def lb (g : zG) (b i : Nat) : List (Nat × Value) := [(0, .ref b), (1, .ref (zad g 0)), (2, .ref (zad g 24)), (3, .ref (zad g 41)), (4, .ref (zad g 42)), (5, .int (iI i))]
/-- script[i + j] -/
theorem l_arg (C : LX g l p s m args meth c R b L xs) {i j : Nat} {n : Int} (q0 q5 : Nat) (h0 : ls[q0]? = some (0, .ref b)) (h5 : ls[q5]? = some (5, .int (iI i))) (hn : Int32.ofInt n = iI j) (hi : i + j < L)
    (d0 : decode cL_law pc = .ok (.aload_n 0, 1)) (d1 : decode cL_law (pc + 1) = .ok (.iload 5, 2)) (d2 : decode cL_law (pc + 3) = .ok (.iconst n, 1)) (d3 : decode cL_law (pc + 4) = .ok (.iadd, 1)) (d4 : decode cL_law (pc + 5) = .ok (.iaload, 1))
    (z : LJ g l p e s m args below meth c R Z kb (pc + 6) ls (.int (xs (i + j)) :: rest) σ) : LJ g l p e s m args below meth c R Z kb pc ls rest σ := by
  refine l_aload_n C d0 rfl q0 h0 ?_
  refine l_iload C d1 q5 h5 ?_
  refine l_iconst C d2 hn ?_
  refine l_iadd C d3 ?_
  rw [iI_add, show ((i : Int) + (j : Int)) = ((i + j : Nat) : Int) from rfl]
  exact l_sld C (j := i + j) hi d4 z
def tb (x : Int32) : Nat := if x = 0 then 0 else 1
theorem tb_lt (x : Int32) : tb x < 2 := by unfold tb; split <;> omega
/-- x != 0 as an argument -/
theorem l_bool (C : LX g l p s m args meth c R b L xs) {x : Int32} (d0 : decode cL_law pc = .ok (.ifCond .eq 7, 3)) (d1 : decode cL_law (pc + 3) = .ok (.iconst 1, 1)) (d2 : decode cL_law (pc + 4) = .ok (.goto 4, 3)) (d3 : decode cL_law (pc + 7) = .ok (.iconst 0, 1))
    (z : LJ g l p e s m args below meth c R Z kb (pc + 8) ls (.int (iI (tb x)) :: rest) σ) : LJ g l p e s m args below meth c R Z kb pc ls (.int x :: rest) σ := by
  refine l_if_eq C (tgt := pc + 7) d0 (by omega) (fun q => ?_) (fun q => ?_)
  · rw [show tb x = 0 from if_pos q] at z
    exact l_iconst C d3 (v := iI (0 : Nat)) (by decide) z
  · rw [show tb x = 1 from if_neg q] at z
    exact l_iconst C d1 (v := iI (1 : Nat)) (by decide) (l_goto C (tgt := pc + 8) d2 (by omega) z)
/-- behind both calls: what was thrown, then the answers -/
theorem l_thr (C : LX g l p s m args meth c R b L xs) {k : Int32} {i q2 q6 : Nat} {υ : zS} (h2 : ls[q2]? = some (2, .ref (zad g 24))) (h6 : ls[q6]? = some (6, .int k)) (hk : υ.1 24 0 = k)
    (d0 : decode cL_law pc = .ok (.aload_n 2, 1)) (d1 : decode cL_law (pc + 1) = .ok (.invokevirtual 149, 3)) (d2 : decode cL_law (pc + 4) = .ok (.iload 6, 2)) (d3 : decode cL_law (pc + 6) = .ok (.if_icmp .eq 5, 3))
    (z : LJ g l p e s m args below meth c R Z kb (pc + 11) ls [] υ) : LJ g l p e s m args below meth c R Z kb pc ls [] υ := by
  refine l_aload_n C d0 rfl q2 h2 ?_
  refine l_callV C (N := M_X7_thrown) (n := 0) (j1 := 0) (j2 := kb) (av := []) (rest := []) (o := 24) rfl rfl (Nat.le_of_ble_eq_true rfl) rfl rfl (b_X7_thrown (K := fun v τ => τ = υ ∧ v = k) (X := NX) ⟨rfl, hk⟩) i_X7_thrown rfl n_X7_thrown v_X7_thrown q_L_149 (by decide) (by omega) (Nat.le_of_ble_eq_true rfl) d1 (fun _ _ h => h) (fun v τ h => ?_)
  obtain ⟨v, rfl, rfl, rfl⟩ := zQi_inl h
  refine l_iload C d2 q6 h6 ?_
  exact l_icmp_eq C (tgt := pc + 11) d3 (by omega) (fun _ => z) (fun q => absurd rfl q)
theorem l_tail (C : LX g l p s m args meth c R b L xs) {k x : Int32} {i : Nat} {υ : zS} (hk : PO k x υ)
    (d0 : decode cL_law pc = .ok (.aload_n 2, 1)) (d1 : decode cL_law (pc + 1) = .ok (.invokevirtual 149, 3)) (d2 : decode cL_law (pc + 4) = .ok (.iload 6, 2)) (d3 : decode cL_law (pc + 6) = .ok (.if_icmp .eq 5, 3))
    (d4 : decode cL_law (pc + 11) = .ok (.iload 6, 2)) (d5 : decode cL_law (pc + 13) = .ok (.ifCond .ne 15, 3)) (d6 : decode cL_law (pc + 16) = .ok (.aload_n 3, 1)) (d7 : decode cL_law (pc + 17) = .ok (.iconst 0, 1)) (d8 : decode cL_law (pc + 18) = .ok (.laload, 1)) (d9 : decode cL_law (pc + 19) = .ok (.iload 7, 2)) (d10 : decode cL_law (pc + 21) = .ok (.i2l, 1)) (d11 : decode cL_law (pc + 22) = .ok (.lcmp, 1)) (d12 : decode cL_law (pc + 23) = .ok (.ifCond .eq 5, 3)) {off : Int} (d13 : decode cL_law (pc + 28) = .ok (.goto off, 3)) (ho : ((pc + 28 : Nat) : Int) + off = 3231)
    (kn : ∀ υ, JI υ → LJ g l p e s m args below meth c R Z kb 3231 (lb g b i) [] υ) : LJ g l p e s m args below meth c R Z kb pc ((7, .int x) :: (6, .int k) :: lb g b i) [] υ := by
  have fin : LJ g l p e s m args below meth c R Z kb (pc + 28) ((7, .int x) :: (6, .int k) :: lb g b i) [] υ :=
    l_goto C (tgt := 3231) d13 ho (l_ls [2, 3, 4, 5, 6, 7] rfl (kn υ hk.1))
  refine l_thr C (i := i) (q2 := 4) (q6 := 1) rfl rfl hk.2.1 d0 d1 d2 d3 ?_
  refine l_iload C d4 1 rfl ?_
  refine l_if_ne C (tgt := pc + 28) d5 (by omega) (fun _ => fin) (fun q => ?_)
  refine l_aload_n C d6 rfl 5 rfl ?_
  refine l_iconst C d7 (v := 0) rfl ?_
  refine l_lald C d8 ?_
  refine l_iload C d9 0 rfl ?_
  refine l_i2l C d10 rfl ?_
  refine l_lcmp C d11 ?_
  refine l_if_eq C (tgt := pc + 28) d12 (by omega) (fun _ => fin) (fun q2 => absurd ((lg_cmp_eq _ _).mpr (hk.2.2 q)) q2)
end ZLw
