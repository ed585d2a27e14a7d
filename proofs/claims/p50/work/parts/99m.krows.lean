/-! constructors: worlds that grow, w0 ++ wr; an address is what it comes to be -/
def KV (G : fG) (l : Launch) (p : Program) (e : Env) (s : State) (m : MethodId) (args : Array Value) (below : List Frame) (meth : Method) (c : Code) (R : Room) (Z : State → Prop) (nL kc ks : Nat) (pc : Nat) (ls : List (Nat × Value)) (st : List Value) (ws : va_W) : Prop :=
  ∀ (H : Heap) (locs : List Loc) (cells slots : Nat) (la : Array Slot), va_P G.1.1 vwCl ws H → va_D (fA G) ws → va_S (fA G) s.heap H locs → cells + kc ≤ R.cells → slots + ks ≤ R.slots → lv_has la nL ls →
    W p l e R s m args below meth c H locs cells slots Z (F0 m pc la st)
section ZKr
variable {G : fG} {l : Launch} {p : Program} {e : Env} {s : State} {m : MethodId} {args : Array Value} {below : List Frame} {meth : Method} {c : Code} {R : Room} {Z : State → Prop} {mn : MethodName} {cc : ByteArray} {nL : Nat} {rt : Option FieldType} {dp : Nat} {kc ks kc' ks' : Nat} {pc : Nat} {ls : List (Nat × Value)} {rest : List Value} {w0 wr ws : va_W}
theorem FCx.kA (C : FCx G (mn, cc, nL, rt, dp, []) p s m args meth c R) : ∀ q, s.heap.size ≤ q → fA G q := fun q h => Nat.le_trans C.2.2.2.2.2.2.2.2.2.2.1 h
theorem FCx.kW (C : FCx G (mn, cc, nL, rt, dp, []) p s m args meth c R) : ∀ w ∈ zT, w.before args s = true := C.2.2.2.2.2.1
theorem FCx.kK (C : FCx G (mn, cc, nL, rt, dp, []) p s m args meth c R) : va_K G.1.1 vwCl (ztys G.1) s := (fK C)
theorem FCx.kO (C : FCx G (mn, cc, nL, rt, dp, []) p s m args meth c R) : s.vm.findClass mn.cls = some m.cls := C.2.2.2.2.1
theorem k_iconst {n : Int} {v : Int32} (C : FCx G (mn, cc, nL, rt, dp, []) p s m args meth c R) (hdg : decode cc pc = .ok (.iconst n, 1)) (hv : Int32.ofInt n = v) (z : KV G l p e s m args below meth c R Z nL kc ks (pc + 1) ls (.int v :: rest) ws) : KV G l p e s m args below meth c R Z nL kc ks pc ls (rest) ws := fun H locs cells slots la hP hD hS hc hs hl => lv_iconst C.1 C.2.1 hdg hv (z H locs cells slots la hP hD hS hc hs hl)
theorem k_bipush {n : Int} {v : Int32} (C : FCx G (mn, cc, nL, rt, dp, []) p s m args meth c R) (hdg : decode cc pc = .ok (.bipush n, 2)) (hv : (Int8.ofInt n).toInt32 = v) (z : KV G l p e s m args below meth c R Z nL kc ks (pc + 2) ls (.int v :: rest) ws) : KV G l p e s m args below meth c R Z nL kc ks pc ls (rest) ws := fun H locs cells slots la hP hD hS hc hs hl => lv_bipush C.1 C.2.1 hdg hv (z H locs cells slots la hP hD hS hc hs hl)
theorem k_sipush {n : Int} {v : Int32} (C : FCx G (mn, cc, nL, rt, dp, []) p s m args meth c R) (hdg : decode cc pc = .ok (.sipush n, 3)) (hv : (Int16.ofInt n).toInt32 = v) (z : KV G l p e s m args below meth c R Z nL kc ks (pc + 3) ls (.int v :: rest) ws) : KV G l p e s m args below meth c R Z nL kc ks pc ls (rest) ws := fun H locs cells slots la hP hD hS hc hs hl => lv_sipush C.1 C.2.1 hdg hv (z H locs cells slots la hP hD hS hc hs hl)
theorem k_iload_n {k4 : Fin 4} {i : Nat} {x : Int32} (C : FCx G (mn, cc, nL, rt, dp, []) p s m args meth c R) (hdg : decode cc pc = .ok (.iload_n k4, 1)) (hi : (k4 : Nat) = i) (j : Nat) (hj : ls[j]? = some (i, .int x)) (z : KV G l p e s m args below meth c R Z nL kc ks (pc + 1) ls (.int x :: rest) ws) : KV G l p e s m args below meth c R Z nL kc ks pc ls (rest) ws := fun H locs cells slots la hP hD hS hc hs hl => lv_iload_n C.1 C.2.1 hdg hi (lv_at hl j hj) (z H locs cells slots la hP hD hS hc hs hl)
theorem k_aload_n {k4 : Fin 4} {i : Nat} {x : Nat} (C : FCx G (mn, cc, nL, rt, dp, []) p s m args meth c R) (hdg : decode cc pc = .ok (.aload_n k4, 1)) (hi : (k4 : Nat) = i) (j : Nat) (hj : ls[j]? = some (i, .ref x)) (z : KV G l p e s m args below meth c R Z nL kc ks (pc + 1) ls (.ref x :: rest) ws) : KV G l p e s m args below meth c R Z nL kc ks pc ls (rest) ws := fun H locs cells slots la hP hD hS hc hs hl => lv_aload_n C.1 C.2.1 hdg hi (lv_at hl j hj) (z H locs cells slots la hP hD hS hc hs hl)
theorem k_dup {va : Value} (C : FCx G (mn, cc, nL, rt, dp, []) p s m args meth c R) (hdg : decode cc pc = .ok (.dup, 1)) (hva : va.category = 1) (z : KV G l p e s m args below meth c R Z nL kc ks (pc + 1) ls (va :: va :: rest) ws) : KV G l p e s m args below meth c R Z nL kc ks pc ls (va :: rest) ws := fun H locs cells slots la hP hD hS hc hs hl => lv_dup C.1 C.2.1 hdg hva (z H locs cells slots la hP hD hS hc hs hl)
theorem k_goto {off : Int} {tgt : Nat} (C : FCx G (mn, cc, nL, rt, dp, []) p s m args meth c R) (hdg : decode cc pc = .ok (.goto off, 3)) (ht : (pc : Int) + off = (tgt : Int)) (z : KV G l p e s m args below meth c R Z nL kc ks tgt ls rest ws) : KV G l p e s m args below meth c R Z nL kc ks pc ls rest ws := fun H locs cells slots la hP hD hS hc hs hl => lv_goto C.1 C.2.1 hdg ht (z H locs cells slots la hP hD hS hc hs hl)
theorem k_icmp_ge {x y : Int32} {off : Int} {tgt : Nat} (C : FCx G (mn, cc, nL, rt, dp, []) p s m args meth c R) (hdg : decode cc pc = .ok (.if_icmp .ge off, 3)) (ht : (pc : Int) + off = (tgt : Int)) (kt : y ≤ x → KV G l p e s m args below meth c R Z nL kc ks tgt ls rest ws) (kf : ¬ y ≤ x → KV G l p e s m args below meth c R Z nL kc ks (pc + 3) ls rest ws) : KV G l p e s m args below meth c R Z nL kc ks pc ls (.int y :: .int x :: rest) ws := fun H locs cells slots la hP hD hS hc hs hl => lv_icmp_ge C.1 C.2.1 hdg ht (fun q => kt q H locs cells slots la hP hD hS hc hs hl) (fun q => kf q H locs cells slots la hP hD hS hc hs hl)
theorem k_iinc {i j : Nat} {n : Int} {x v : Int32} {ls' : List (Nat × Value)} (C : FCx G (mn, cc, nL, rt, dp, []) p s m args meth c R) (hdg : decode cc pc = .ok (.iinc i n, 3)) (hk : ls[j]? = some (i, .int x)) (hv : x + Int32.ofInt n = v) (hn : i < nL) (hq : (i, Value.int v) :: ls.filter (fun q => !(q.1 == i) && !(q.1 + 1 == i && q.2.category == 2)) = ls') (z : KV G l p e s m args below meth c R Z nL kc ks (pc + 3) ls' rest ws) : KV G l p e s m args below meth c R Z nL kc ks pc ls rest ws := fun H locs cells slots la hP hD hS hc hs hl => lv_iinc C.1 C.2.1 hdg hl hk hv hn hq (fun la hl => z H locs cells slots la hP hD hS hc hs hl)
theorem k_istore_n {k4 : Fin 4} {i : Nat} {x : Int32} {ls' : List (Nat × Value)} (C : FCx G (mn, cc, nL, rt, dp, []) p s m args meth c R) (hdg : decode cc pc = .ok (.istore_n k4, 1)) (hi : (k4 : Nat) = i) (hn : i < nL) (hq : (i, Value.int x) :: ls.filter (fun q => !(q.1 == i) && !(q.1 + 1 == i && q.2.category == 2)) = ls') (z : KV G l p e s m args below meth c R Z nL kc ks (pc + 1) ls' rest ws) : KV G l p e s m args below meth c R Z nL kc ks pc ls (.int x :: rest) ws := fun H locs cells slots la hP hD hS hc hs hl => lv_istore_n C.1 C.2.1 hdg hi hl hn hq (fun la hl => z H locs cells slots la hP hD hS hc hs hl)
theorem k_istore {i : Nat} {x : Int32} {ls' : List (Nat × Value)} (C : FCx G (mn, cc, nL, rt, dp, []) p s m args meth c R) (hdg : decode cc pc = .ok (.istore i, 2)) (hn : i < nL) (hq : (i, Value.int x) :: ls.filter (fun q => !(q.1 == i) && !(q.1 + 1 == i && q.2.category == 2)) = ls') (z : KV G l p e s m args below meth c R Z nL kc ks (pc + 2) ls' rest ws) : KV G l p e s m args below meth c R Z nL kc ks pc ls (.int x :: rest) ws := fun H locs cells slots la hP hD hS hc hs hl => lv_istore C.1 C.2.1 hdg hl hn hq (fun la hl => z H locs cells slots la hP hD hS hc hs hl)
theorem k_astore_n {k4 : Fin 4} {i : Nat} {x : Nat} {ls' : List (Nat × Value)} (C : FCx G (mn, cc, nL, rt, dp, []) p s m args meth c R) (hdg : decode cc pc = .ok (.astore_n k4, 1)) (hi : (k4 : Nat) = i) (hn : i < nL) (hq : (i, Value.ref x) :: ls.filter (fun q => !(q.1 == i) && !(q.1 + 1 == i && q.2.category == 2)) = ls') (z : KV G l p e s m args below meth c R Z nL kc ks (pc + 1) ls' rest ws) : KV G l p e s m args below meth c R Z nL kc ks pc ls (.ref x :: rest) ws := fun H locs cells slots la hP hD hS hc hs hl => lv_astore_n C.1 C.2.1 hdg hi hl hn hq (fun la hl => z H locs cells slots la hP hD hS hc hs hl)
theorem k_astore {i : Nat} {x : Nat} {ls' : List (Nat × Value)} (C : FCx G (mn, cc, nL, rt, dp, []) p s m args meth c R) (hdg : decode cc pc = .ok (.astore i, 2)) (hn : i < nL) (hq : (i, Value.ref x) :: ls.filter (fun q => !(q.1 == i) && !(q.1 + 1 == i && q.2.category == 2)) = ls') (z : KV G l p e s m args below meth c R Z nL kc ks (pc + 2) ls' rest ws) : KV G l p e s m args below meth c R Z nL kc ks pc ls (.ref x :: rest) ws := fun H locs cells slots la hP hD hS hc hs hl => lv_astore C.1 C.2.1 hdg hl hn hq (fun la hl => z H locs cells slots la hP hD hS hc hs hl)
theorem k_obj {idx : Nat} {a : Nat} (C : FCx G (mn, cc, nL, rt, dp, []) p s m args meth c R) (hlink : Cond.methodLink mn.cls idx Lib.objectInit ∈ zT) (hinst : Cond.instanceMethod Lib.objectInit ∈ zT) (hcode : Cond.code Lib.objectInit ⟨#[0xb1]⟩ 1 none ∈ zT) (hd1 : 1 ≤ dp) (hW : (rest.map fun v => v.category).sum ≤ 8) (hdg : decode cc pc = .ok (.invokespecial idx, 3))
    (z : KV G l p e s m args below meth c R Z nL kc ks (pc + 3) ls rest ws) : KV G l p e s m args below meth c R Z nL kc ks pc ls (.ref a :: rest) ws := fun H locs cells slots la hP hD hS hc hs hl => by
  have f1 : dp ≤ R.frames := C.2.2.2.2.2.2.2.2.1
  have f2 : 40 * dp ≤ R.locals := C.2.2.2.2.2.2.2.2.2.1
  have hml : c.maxLocals = nL := C.2.2.2.1
  have h8 : 2 * (F0 m pc la (.ref a :: rest)).monitorRoom + (rest.map fun v => v.category).sum ≤ 8 := lv_room hW
  refine W.objInit C.1 C.2.1 C.kO (C.kW _ hlink) (C.kW _ hinst) (C.kW _ hcode) rfl (by rw [hml]; exact hl.1) rfl hdg (by omega) (by omega) ?_
  exact W.eq (g2 := F0 m (pc + 3) la rest) rfl (z H locs cells slots la hP hD hS hc hs hl)
theorem k_new {N ci index : Nat} {cn : String} {T : u_T} {fs : List Value} (C : FCx G (mn, cc, nL, rt, dp, []) p s m args meth c R) (hin : ∀ w ∈ u_ws cn T N, w ∈ zT) (ty : Nat → FieldType) (hty : ∀ k, k < N → parseFieldDescriptor (T k).2.2.1 = some (ty k)) (hcl : Cond.classLink mn.cls index cn ∈ zT) (hinst : Cond.instantiable cn N ∈ zT) (hini : Cond.initialized cn ∈ zT)
    (hci : vwCl[ci]? = some (cn, T, N)) (hfs : ∀ j, j < N → defaultValue (ty j) = vp_V fs j) (hk : kc' + 1 ≤ kc) (hs0 : ks' + N ≤ ks) (hdg : decode cc pc = .ok (.new index, 3))
    (z : ∀ q : Nat, KV G l p e s m args below meth c R Z nL kc' ks' (pc + 3) ls (.ref q :: rest) (w0 ++ (wr ++ [(q, .inr (ci, fs))]))) : KV G l p e s m args below meth c R Z nL kc ks pc ls rest (w0 ++ wr) := fun H locs cells slots la hP hD hS hc hs hl =>
  va_new C.1 C.2.1 C.kW hin ty hty C.kO (C.kW _ hcl) (C.kW _ hinst) (C.kW _ hini) C.kK hP hD hS C.kA hci hfs (by omega) (by omega) hdg (fun q H1 hP1 hD1 hS1 => z q H1 locs (cells + 1) (slots + N) la (by rw [← List.append_assoc]; exact hP1) (by rw [← List.append_assoc]; exact hD1) hS1 (by omega) (by omega) hl)
theorem k_newa {atype : ArrayType} {ty : FieldType} {n : Int32} {N t : Nat} {a0 : vp_A} (C : FCx G (mn, cc, nL, rt, dp, []) p s m args meth c R) (harr : Cond.arrayClass (newarray.typeOf atype) ∈ zT) (hty : newarray.typeOf atype = ty) (ht : (ztys G.1)[t]? = some (G.1.2.1 t, ty)) (hR : ∀ (U : State) (cA : ClassId), va_RA U cA ty → U.vm.findClass ("[" ++ ty.toString) = some cA)
    (ha : ∀ cA : ClassId, vp_cell cA a0 = arrV cA N (fun _ => defaultValue ty)) (hn : ¬ n < 0) (hN : n.toNatClampNeg = N) (hbytes : N * componentBytes ty ≤ 536870912) (hk : kc' + 1 ≤ kc) (hs0 : ks' + N ≤ ks) (hdg : decode cc pc = .ok (.newarray atype, 2))
    (z : ∀ q : Nat, KV G l p e s m args below meth c R Z nL kc' ks' (pc + 2) ls (.ref q :: rest) (w0 ++ (wr ++ [(q, .inl (G.1.2.1 t, a0))]))) : KV G l p e s m args below meth c R Z nL kc ks pc ls (.int n :: rest) (w0 ++ wr) := fun H locs cells slots la hP hD hS hc hs hl =>
  va_newa C.1 C.2.1 (C.kW _ harr) hty C.kK hP hD hS C.kA ha hn hN hbytes (by omega) (by omega) hdg (fun q cA H1 hK1 hP1 hD1 hS1 => by
    have e1 := hR _ _ (hK1.2 7 (cA, ty) rfl).2
    have e2 := hR _ _ (C.kK.2 t _ ht).2
    have e : cA = G.1.2.1 t := Option.some.inj (e1.symm.trans e2)
    subst e
    exact z q H1 locs (cells + 1) (slots + N) la (by rw [← List.append_assoc]; exact hP1) (by rw [← List.append_assoc]; exact hD1) hS1 (by omega) (by omega) hl)
theorem k_newq {index : Nat} {n : Int32} {N : Nat} (C : FCx G (mn, cc, nL, rt, dp, []) p s m args meth c R) (hclink : Cond.classLink mn.cls index "BambooBlind$Blind" ∈ zT) (hn : ¬ n < 0) (hN : n.toNatClampNeg = N) (hbytes : N * 4 ≤ 536870912) (hk : kc' + 1 ≤ kc) (hs0 : ks' + N ≤ ks) (hdg : decode cc pc = .ok (.anewarray index, 3))
    (z : ∀ q : Nat, KV G l p e s m args below meth c R Z nL kc' ks' (pc + 3) ls (.ref q :: rest) (w0 ++ (wr ++ [(q, .inl (G.1.2.1 3, N, .inr (.inr (.inr (.inr (fun _ => none))))))]))) : KV G l p e s m args below meth c R Z nL kc ks pc ls (.int n :: rest) (w0 ++ wr) := fun H locs cells slots la hP hD hS hc hs hl =>
  va_newq C.1 C.2.1 C.kO (C.kW _ hclink) (fXs C).2.1.1 C.kK hP hD hS C.kA hn hN hbytes (by omega) (by omega) hdg (fun q cA H1 hK1 hP1 hD1 hS1 => by
    obtain ⟨_, _, _, _, _, e1⟩ := (hK1.2 7 (cA, .object "BambooBlind$Blind") rfl).2
    obtain ⟨_, _, _, _, _, e2⟩ := (C.kK.2 3 (G.1.2.1 3, .object "BambooBlind$Blind") rfl).2
    have e : cA = G.1.2.1 3 := Option.some.inj (e1.symm.trans e2)
    subst e
    exact z q H1 locs (cells + 1) (slots + N) la (by rw [← List.append_assoc]; exact hP1) (by rw [← List.append_assoc]; exact hD1) hS1 (by omega) (by omega) hl)
/-- the rows of an int[][] -/
def rwL (G : fG) (r : Nat → Nat) (N K : Nat) : va_W := (List.range N).map (fun i => (r i, .inl (G.1.2.1 0, K, .inl (fun _ => 0))))
theorem k_mna {index : Nat} {n k : Int32} {N K : Nat} (C : FCx G (mn, cc, nL, rt, dp, []) p s m args meth c R) (hclink : Cond.classLink mn.cls index "[[I" ∈ zT) (harr : Cond.arrayClass .int ∈ zT) (hn : ¬ n < 0) (hk0 : ¬ k < 0) (hN : n.toNatClampNeg = N) (hK : k.toNatClampNeg = K) (hb1 : N * 4 ≤ 536870912) (hb2 : K * componentBytes .int ≤ 536870912) (hb3 : K ≤ 536870912) (hk : kc' + (1 + N) ≤ kc) (hs0 : ks' + (N + N * K) ≤ ks) (hdg : decode cc pc = .ok (.multianewarray index 2, 4))
    (z : ∀ (q : Nat) (r : Nat → Nat), KV G l p e s m args below meth c R Z nL kc' ks' (pc + 4) ls (.ref q :: rest) (w0 ++ (wr ++ ((q, .inl (G.1.2.1 4, N, .inr (.inr (.inr (.inr (fun i => if i < N then some (r i) else none)))))) :: rwL G r N K)))) : KV G l p e s m args below meth c R Z nL kc ks pc ls (.int k :: .int n :: rest) (w0 ++ wr) := fun H locs cells slots la hP hD hS hc hs hl => by
  have hw : w0 ++ wr = (w0 ++ wr) ++ va_pl [] (fun _ => .inl (G.1.2.1 0, K, .inl (fun _ => 0))) := by simp [va_pl]
  rw [hw] at hP hD
  refine va_mna (ty := .int) (z := (K, .inl (fun _ => 0))) C.1 C.2.1 C.kO (C.kW _ hclink) (fXs C).2.1.2.1 (C.kW _ harr) (cy := G.1.2.1 0) (C.kK.2 0 (G.1.2.1 0, .int) rfl).2 C.kK hP hD hS C.kA hn hk0 hN hK hb1 hb2 hb3 rfl rfl (by omega) (by omega) (fun c1 => arrV_new c1 K (.int 0)) hdg (fun q r cA H1 _ _ hK1 hP1 hD1 hS1 => ?_)
  have e1 := (hK1.2 7 (cA, .array .int) rfl).2
  have e2 := (C.kK.2 4 (G.1.2.1 4, .array .int) rfl).2
  have e : cA = G.1.2.1 4 := Option.some.inj (e1.symm.trans e2)
  subst e
  have hr : va_pl ([] ++ (List.range N).map r) (vr_up (fun _ => .inl (G.1.2.1 0, K, .inl (fun _ => 0))) ((List.range N).map r) (.inl (G.1.2.1 0, K, .inl (fun _ => 0)))) = rwL G r N K := by
    unfold va_pl rwL
    rw [List.nil_append, List.map_map]
    apply List.map_congr_left
    intro i _
    show (r i, vr_up _ _ _ (r i)) = _
    unfold vr_up
    split <;> rfl
  rw [hr, List.append_assoc, List.append_assoc] at hP1 hD1
  exact z q r H1 locs (cells + 1 + N) (slots + N + N * K) la hP1 hD1 hS1 (by omega) (by omega) hl
theorem k_putF {j k N ci index a : Nat} {cn ref : String} {T : u_T} {fs : List Value} {ty : FieldType} {v : Value} (C : FCx G (mn, cc, nL, rt, dp, []) p s m args meth c R) (hin : ∀ w ∈ u_ws cn T N, w ∈ zT) (ty0 : Nat → FieldType) (hty : ∀ k, k < N → parseFieldDescriptor (T k).2.2.1 = some (ty0 k)) (hnm : ∀ a, a < N → ∀ b, b < N → a ≠ b → (T a).2.1 ≠ (T b).2.1) (he : wr[j]? = some (a, .inr (ci, fs))) (hci : vwCl[ci]? = some (cn, T, N)) (hk : k < N)
    (hlink : Cond.fieldLink mn.cls index ref (T k).2.1 (T k).2.2.1 ∈ zT) (hr : (T k).1 = ref) (hfin : (T k).2.2.2 = true) (hmn : meth.name = "<init>") (hdecl : (T k).1 = mn.cls) (htk : ty0 k = ty) (hn : narrow ty v = v) (hfit : fits ty v = true) (hl0 : k < fs.length) (hdg : decode cc pc = .ok (.putfield index, 3))
    (z : KV G l p e s m args below meth c R Z nL kc ks (pc + 3) ls rest (w0 ++ wr.set j (a, .inr (ci, fs.set k v)))) : KV G l p e s m args below meth c R Z nL kc ks pc ls (v :: .ref a :: rest) (w0 ++ wr) := fun H locs cells slots la hP hD hS hc hs hl => by
  subst htk
  refine va_putF C.1 C.2.1 C.kW hin ty0 hty hnm C.kO C.kK hP hD hS (w0.length + j) ((wl_get w0 wr j).trans he) hci k hk (C.kW _ hlink) (fun q h => by rw [hr] at h; exact h) hfin hmn hdecl (hty k hk) hn hfit hl0 hdg (fun H1 locs1 hP1 hD1 hS1 => ?_)
  rw [wl_set] at hP1 hD1
  exact z H1 locs1 cells slots la hP1 hD1 hS1 hc hs hl
theorem k_put {j k N ci index a : Nat} {cn ref : String} {T : u_T} {fs : List Value} {ty : FieldType} {v : Value} (C : FCx G (mn, cc, nL, rt, dp, []) p s m args meth c R) (hin : ∀ w ∈ u_ws cn T N, w ∈ zT) (ty0 : Nat → FieldType) (hty : ∀ k, k < N → parseFieldDescriptor (T k).2.2.1 = some (ty0 k)) (hnm : ∀ a, a < N → ∀ b, b < N → a ≠ b → (T a).2.1 ≠ (T b).2.1) (he : wr[j]? = some (a, .inr (ci, fs))) (hci : vwCl[ci]? = some (cn, T, N)) (hk : k < N)
    (hlink : Cond.fieldLink mn.cls index ref (T k).2.1 (T k).2.2.1 ∈ zT) (hr : (T k).1 = ref) (hfin : (T k).2.2.2 = false) (htk : ty0 k = ty) (hn : narrow ty v = v) (hfit : fits ty v = true) (hl0 : k < fs.length) (hdg : decode cc pc = .ok (.putfield index, 3))
    (z : KV G l p e s m args below meth c R Z nL kc ks (pc + 3) ls rest (w0 ++ wr.set j (a, .inr (ci, fs.set k v)))) : KV G l p e s m args below meth c R Z nL kc ks pc ls (v :: .ref a :: rest) (w0 ++ wr) := fun H locs cells slots la hP hD hS hc hs hl => by
  subst htk
  refine va_put C.1 C.2.1 C.kW hin ty0 hty hnm C.kO C.kK hP hD hS (w0.length + j) ((wl_get w0 wr j).trans he) hci k hk (C.kW _ hlink) (fun q h => by rw [hr] at h; exact h) hfin (hty k hk) hn hfit hl0 hdg (fun H1 locs1 hP1 hD1 hS1 => ?_)
  rw [wl_set] at hP1 hD1
  exact z H1 locs1 cells slots la hP1 hD1 hS1 hc hs hl
theorem k_get {j k N ci index a : Nat} {cn ref : String} {T : u_T} {fs : List Value} {v : Value} (C : FCx G (mn, cc, nL, rt, dp, []) p s m args meth c R) (hin : ∀ w ∈ u_ws cn T N, w ∈ zT) (he : wr[j]? = some (a, .inr (ci, fs))) (hci : vwCl[ci]? = some (cn, T, N)) (hk : k < N) (hlink : Cond.fieldLink mn.cls index ref (T k).2.1 (T k).2.2.1 ∈ zT) (hr : (T k).1 = ref) (hv : fs[k]? = some v) (hdg : decode cc pc = .ok (.getfield index, 3))
    (z : KV G l p e s m args below meth c R Z nL kc ks (pc + 3) ls (v :: rest) (w0 ++ wr)) : KV G l p e s m args below meth c R Z nL kc ks pc ls (.ref a :: rest) (w0 ++ wr) := fun H locs cells slots la hP hD hS hc hs hl =>
  va_get C.1 C.2.1 C.kW hin C.kO C.kK hP (w0.length + j) ((wl_get w0 wr j).trans he) hci k hk (C.kW _ hlink) (fun q h => by rw [hr] at h; exact h) hv hdg (z H locs cells slots la hP hD hS hc hs hl)
theorem k_iast {j a n : Nat} {f : Nat → Int32} {i x : Int32} (C : FCx G (mn, cc, nL, rt, dp, []) p s m args meth c R) (he : wr[j]? = some (a, .inl (G.1.2.1 0, n, .inl f))) (hin : vp_in i n) (hdg : decode cc pc = .ok (.iastore, 1))
    (z : KV G l p e s m args below meth c R Z nL kc ks (pc + 1) ls rest (w0 ++ wr.set j (a, .inl (G.1.2.1 0, n, .inl (upd f i.toNatClampNeg x))))) : KV G l p e s m args below meth c R Z nL kc ks pc ls (.int x :: .int i :: .ref a :: rest) (w0 ++ wr) := fun H locs cells slots la hP hD hS hc hs hl =>
  va_iast C.1 C.2.1 C.kK hP hD hS (w0.length + j) 0 ((wl_get w0 wr j).trans he) rfl hin hdg (fun H1 locs1 hP1 hD1 hS1 => by
    rw [wl_set] at hP1 hD1
    exact z H1 locs1 cells slots la hP1 hD1 hS1 hc hs hl)
theorem k_aast {j q a n v : Nat} {vs : List Value} {f : Nat → Option Nat} {i : Int32} (C : FCx G (mn, cc, nL, rt, dp, []) p s m args meth c R) (he : wr[j]? = some (a, .inl (G.1.2.1 3, n, .inr (.inr (.inr (.inr f)))))) (hv : wr[q]? = some (v, .inr (4, vs))) (hin : vp_in i n) (hdg : decode cc pc = .ok (.aastore, 1))
    (z : KV G l p e s m args below meth c R Z nL kc ks (pc + 1) ls rest (w0 ++ wr.set j (a, .inl (G.1.2.1 3, n, .inr (.inr (.inr (.inr (va_up f i.toNatClampNeg (some v))))))))) : KV G l p e s m args below meth c R Z nL kc ks pc ls (.ref v :: .int i :: .ref a :: rest) (w0 ++ wr) := fun H locs cells slots la hP hD hS hc hs hl =>
  va_astq C.1 C.2.1 C.kK hP hD hS (w0.length + j) 3 (w0.length + q) 4 ((wl_get w0 wr j).trans he) rfl ((wl_get w0 wr q).trans hv) rfl hin hdg (fun H1 locs1 hP1 hD1 hS1 => by
    rw [wl_set] at hP1 hD1
    exact z H1 locs1 cells slots la hP1 hD1 hS1 hc hs hl)
/-! contracts -/
def kPc (G : fG) (av : List Value) (ws : va_W) : Array Value → State → Prop := fun v U => v = av.toArray ∧ G.1.2.2.2.1 ≤ U.heap.size ∧ va_P G.1.1 vwCl ws U.heap ∧ va_D (fA G) ws ∧ va_K G.1.1 vwCl (ztys G.1) U ∧ fX G U U.heap
def kQc (G : fG) (F : va_W → Prop) : Array Value → State → Outcome → State → Prop := va_Qv F (fun ws t => va_P G.1.1 vwCl ws t.heap ∧ va_D (fA G) ws) (fA G)
def kRm (M : zM) (kc ks : Nat) : Room := { frames := M.2.2.2.2.1, cells := kc, slots := ks, locals := 40 * M.2.2.2.2.1 }
def KC (G : fG) (l : Launch) (M : zM) (kc ks : Nat) (av : List Value) (ws : va_W) (F : va_W → Prop) : Prop :=
  Met l M.1 (Cond.code M.1 M.2.1 M.2.2.1 M.2.2.2.1 :: zT) (kRm M kc ks) (kPc G av ws) (kQc G F) kc ks (fA G)
theorem kPc_blind {av : List Value} : FrameBlind (kPc G av ws) := fun a U g' mk ⟨h1, h2, h3, h4, h5, h6⟩ => ⟨h1, h2, h3, h4, va_K.moved (u := U) (U := U.calling g' mk a) (Vm.Alike.refl U.vm) h5, fX_move (s := U) (U := U.calling g' mk a) (State.WarmedH.refl U) (Nat.le_refl _) (fun _ _ _ => rfl) h6⟩
theorem k_ret {F : va_W → Prop} (C : FCx G (mn, cc, nL, none, dp, []) p s m args meth c R) (hdg : decode cc pc = .ok (.return_, 1)) (z : F ws) : KV G l p e s m args below meth c R (MQ below (kQc G F) args s R.cells R.slots (fA G)) nL kc ks pc ls [] ws := fun H locs cells slots la hP hD hS hc hs hl =>
  W.widen (by omega) (by omega) (W.vret C.1 C.2.1 C.2.2.1 (fun t ht hw => ⟨⟨ws, rfl, z, by rw [ht]; exact hP, hD⟩, hS.F ht⟩) hS.2.2 hdg C.2.2.2.2.2.2.1)
theorem KC_of {F : va_W → Prop} {av : List Value} (hy : plainName mn.cls = true) (hlen : (lg_sl av).length ≤ nL)
    (h : ∀ (p : Program) (e : Env) (s : State) (m : MethodId) (args : Array Value) (below : List Frame) (meth : Method) (c : Code) (R : Room), meth.name = mn.name → FCx G (mn, cc, nL, rt, dp, []) p s m args meth c R → KV G l p e s m args below meth c R (MQ below (kQc G F) args s R.cells R.slots (fA G)) nL kc ks 0 (lv_args 0 av) [] ws) : KC G l (mn, cc, nL, rt, dp, []) kc ks av ws F := by
  refine Met.ofW (cc := cc) (maxL := nL) (ret := rt) hy rfl ?_
  intro p e s m args below meth c s₁ B hml hv
  obtain ⟨rfl, hB, hP, hD, hK, hX⟩ := hv
  have hts := atoms_spec (ws := Cond.code mn cc nL rt :: zT) B.pre
  have C0 : FCx G (mn, cc, nL, rt, dp, []) p s m av.toArray meth c (headSpec (Cond.code mn cc nL rt :: zT) (kRm (mn, cc, nL, rt, dp, []) kc ks)).room :=
    ⟨B.exec, B.bytes, B.returns, hml, findClass_of_methodNamed B.named, fun w hw => hts w (List.mem_cons_of_mem _ hw), B.notSynchronized, (name_of_methodNamed B.named B.method).1, Nat.le_refl _, Nat.le_refl _, hB, hK, hX⟩
  have hl := lv_entry av (n := nL) hlen
  rw [lg_entry_eq]
  exact h p e s m av.toArray below meth c _ (name_of_methodNamed B.named B.method).1 C0 s.heap [] 0 0 _ hP hD va_S.rf (by simp [headSpec, kRm]) (by simp [headSpec, kRm]) hl
theorem k_pre {H : Heap} {locs : List Loc} {av : List Value} (C : FCx G (mn, cc, nL, rt, dp, []) p s m args meth c R) (hP : va_P G.1.1 vwCl ws H) (hD : va_D (fA G) ws) (hS : va_S (fA G) s.heap H locs) : ∀ U : State, U.heap = H → s.WarmedH U.vm → kPc G av ws av.toArray U := fun U hU hW =>
  ⟨rfl, by rw [hU]; exact Nat.le_trans C.2.2.2.2.2.2.2.2.2.2.1 hS.1, by rw [hU]; exact hP, hD, va_K.moved hW.alike C.kK, by rw [hU]; exact fX_move hW hS.1 hS.2.1 (fXs C)⟩
theorem k_run {jc js : Nat} {st0 : List Value} {F : va_W → Prop} {H : Heap} {locs : List Loc} {cells slots : Nat} {la : Array Slot} {a : Array Value} (hS : va_S (fA G) s.heap H locs) (hk : kc' + jc ≤ kc) (hs0 : ks' + js ≤ ks) (hc : cells + kc ≤ R.cells) (hs : slots + ks ≤ R.slots) (hl : lv_has la nL ls)
    (hrun : va_Run p l e R s m args below meth c H locs cells slots jc js (F0 m pc la st0) rest (kQc G F a) (fA G)) (z : ∀ w, F w → KV G l p e s m args below meth c R Z nL kc' ks' (pc + 3) ls rest w) : W p l e R s m args below meth c H locs cells slots Z (F0 m pc la st0) :=
  va_callv hrun hS (fun _ _ h => h) (fun _ h => h) (fun w t H1 locs1 ht _ hw hB _ _ hS1 => z w hw H1 locs1 (cells + jc) (slots + js) la (by rw [← ht]; exact hB.1) hB.2 hS1 (by omega) (by omega) hl)
theorem k_room {N : zM} {n jc js : Nat} (C : FCx G (mn, cc, nL, rt, dp, []) p s m args meth c R) (hi : zIn N n) (hd : N.2.2.2.2.1 + 1 ≤ dp) : (kRm N jc js).frames + 1 ≤ R.frames ∧ 8 + (N.2.2.1 + 11) + (kRm N jc js).locals ≤ R.locals := by
  have h1 := hi.2.2.2.2
  have f1 : dp ≤ R.frames := C.2.2.2.2.2.2.2.2.1
  have f2 : 40 * dp ≤ R.locals := C.2.2.2.2.2.2.2.2.2.1
  simp only [kRm]
  omega
/-- a constructor is called; its object is the world's last cell -/
theorem k_callI {N : zM} {n idx jc js b : Nat} {av st : List Value} {F : va_W → Prop} (C : FCx G (mn, cc, nL, rt, dp, []) p s m args meth c R) (hst : st = av.reverse ++ .ref b :: rest) (hct : KC G l N jc js (.ref b :: av) ws F) (hi : zIn N n) (hn : av.length = n) (hret : N.2.2.2.1 = none) (hnm : N.1.name = "<init>") (hinst : Cond.instanceMethod N.1 ∈ zT) (hlink : Cond.methodLink mn.cls idx N.1 ∈ zT) (hd : N.2.2.2.2.1 + 1 ≤ dp) (hk : kc' + jc ≤ kc) (hs0 : ks' + js ≤ ks) (hW : (rest.map fun v => v.category).sum ≤ 8) (hdg : decode cc pc = .ok (.invokespecial idx, 3))
    (z : ∀ w, F w → KV G l p e s m args below meth c R Z nL kc' ks' (pc + 3) ls rest w) : KV G l p e s m args below meth c R Z nL kc ks pc ls st ws := fun H locs cells slots la hP hD hS hc hs hl => by
  subst hst
  obtain ⟨y, ycc, yn, yr, yd, yh⟩ := N
  simp only at hret hnm
  subst hret
  have hr := k_room (jc := jc) (js := js) C hi hd
  have cb := cwI (R := R) (own := mn.cls) (index := idx) (mc := jc) (ms := js) (rm := kRm (y, ycc, yn, none, yd, yh) jc js) n C.kW (zT_goodIn (N := (y, ycc, yn, none, yd, yh)) hi.1) rfl rfl rfl (C.kW _ hi.2.1) (C.kW _ hlink) (C.kW _ hinst) hnm ⟨hi.2.2.1.1, hi.2.2.1.2, hi.2.2.2.1⟩ hr
  exact k_run hS hk hs0 hc hs hl (va_runI (g := F0 m pc la (av.reverse ++ .ref b :: rest)) (rest := rest) (As := av) ⟨C.1, C.2.1, C.2.2.2.1, C.kO, C.kW⟩ hct cb ⟨kPc_blind, k_pre C hP hD hS⟩ rfl hn hl.1 rfl (lv_room hW) hdg ⟨by omega, by omega⟩) z
theorem k_callIN {N : zM} {n idx jc js b : Nat} {host : String} {av st : List Value} {F : va_W → Prop} (C : FCx G (mn, cc, nL, rt, dp, []) p s m args meth c R) (hst : st = av.reverse ++ .ref b :: rest) (hct : KC G l N jc js (.ref b :: av) ws F) (hi : zIn N n) (hn : av.length = n) (hret : N.2.2.2.1 = none) (hnm : N.1.name = "<init>") (hinst : Cond.instanceMethod N.1 ∈ zT) (hlink : (mn.cls, idx, N.1, host) ∈ zNestL) (hd : N.2.2.2.2.1 + 1 ≤ dp) (hk : kc' + jc ≤ kc) (hs0 : ks' + js ≤ ks) (hW : (rest.map fun v => v.category).sum ≤ 8) (hdg : decode cc pc = .ok (.invokespecial idx, 3))
    (z : ∀ w, F w → KV G l p e s m args below meth c R Z nL kc' ks' (pc + 3) ls rest w) : KV G l p e s m args below meth c R Z nL kc ks pc ls st ws := fun H locs cells slots la hP hD hS hc hs hl => by
  subst hst
  obtain ⟨y, ycc, yn, yr, yd, yh⟩ := N
  simp only at hret hnm
  subst hret
  have hr := k_room (jc := jc) (js := js) C hi hd
  have hX := (fXs C)
  have cb := va_cnB (R := R) (own := mn.cls) (index := idx) (mc := jc) (ms := js) (rm := kRm (y, ycc, yn, none, yd, yh) jc js) (host := host) n C.kW (zT_goodIn (N := (y, ycc, yn, none, yd, yh)) hi.1) rfl rfl rfl (hX.1.1 _ hlink) (C.kW _ hi.2.1) ⟨hi.2.2.1.1, hi.2.2.1.2, hi.2.2.2.1⟩ hr
  exact k_run hS hk hs0 hc hs hl (va_runIN (g := F0 m pc la (av.reverse ++ .ref b :: rest)) (rest := rest) (As := av) ⟨C.1, C.2.1, C.2.2.2.1, C.kO, C.kW⟩ hct ⟨cb, hnm, C.kW _ hinst⟩ ⟨kPc_blind, k_pre C hP hD hS⟩ rfl hn hl.1 rfl (lv_room hW) hdg ⟨by omega, by omega⟩) z
/-- a call of a method without an answer, on an object of the world -/
theorem k_callV {N : zM} {n idx jc js b j ci : Nat} {q : vw_C} {fs : List Value} {av st : List Value} {F : va_W → Prop} (C : FCx G (mn, cc, nL, rt, dp, []) p s m args meth c R) (hst : st = av.reverse ++ .ref b :: rest) (he : wr[j]? = some (b, .inr (ci, fs))) (hcl : vwCl[ci]? = some q) (hq : q.1 = N.1.cls) (hct : KC G l N jc js (.ref b :: av) (w0 ++ wr) F) (hi : zIn N n) (hn : av.length = n) (hinst : Cond.instanceMethod N.1 ∈ zT) (hsel : Cond.selects N.1.cls N.1 N.1 ∈ zT) (hlink : Cond.methodLink mn.cls idx N.1 ∈ zT) (hd : N.2.2.2.2.1 + 1 ≤ dp) (hk : kc' + jc ≤ kc) (hs0 : ks' + js ≤ ks) (hW : (rest.map fun v => v.category).sum ≤ 8) (hdg : decode cc pc = .ok (.invokevirtual idx, 3))
    (z : ∀ w, F w → KV G l p e s m args below meth c R Z nL kc' ks' (pc + 3) ls rest w) : KV G l p e s m args below meth c R Z nL kc ks pc ls st (w0 ++ wr) := fun H locs cells slots la hP hD hS hc hs hl => by
  subst hst
  have hr := k_room (jc := jc) (js := js) C hi hd
  have cb := callB_of (R := R) (own := mn.cls) (index := idx) (mc := jc) (ms := js) (rm := kRm N jc js) n C.kW (zT_goodIn hi.1) rfl rfl rfl (C.kW _ hi.2.1) (C.kW _ hlink) ⟨hi.2.2.1.1, hi.2.2.1.2, hi.2.2.2.1⟩ hr
  have hrecv := va_recv C.kK hP hcl ((wl_get w0 wr j).trans he)
  rw [hq] at hrecv
  exact k_run hS hk hs0 hc hs hl (va_runV (g := F0 m pc la (av.reverse ++ .ref b :: rest)) (rest := rest) (As := av) (b := b) (C := N.1.cls) ⟨C.1, C.2.1, C.2.2.2.1, C.kO, C.kW⟩ hct ⟨cb, C.kW _ hinst, C.kW _ hsel⟩ ⟨kPc_blind, hrecv, k_pre C hP hD hS⟩ rfl hn hl.1 rfl (lv_room hW) hdg ⟨by omega, by omega⟩) z
end ZKr
