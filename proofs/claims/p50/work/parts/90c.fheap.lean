/-! the law's side: fields, arrays, what is new, ends -/
section FH
variable {G : fG} {l : Launch} {mn : MethodName} {cc : ByteArray} {nL : Nat} {rt : Option FieldType} {dp : Nat} {hh : List (Nat × Nat × Nat × Nat)} {kb kb' : Nat} {Q : Option Value → fS → Prop} {pc : Nat} {ls : List (Nat × Value)} {rest : List Value} {o : Option zS} {ω : fW}
theorem fK {p : Program} {s : State} {m : MethodId} {args : Array Value} {meth : Method} {c : Code} {R : Room} {M : zM} (C : FCx G M p s m args meth c R) : va_K G.1.1 vwCl (ztys G.1) s := C.2.2.2.2.2.2.2.2.2.2.2.1
theorem fXs {p : Program} {s : State} {m : MethodId} {args : Array Value} {meth : Method} {c : Code} {R : Room} {M : zM} (C : FCx G M p s m args meth c R) : fX G s s.heap := C.2.2.2.2.2.2.2.2.2.2.2.2
theorem fAn {p : Program} {s : State} {m : MethodId} {args : Array Value} {meth : Method} {c : Code} {R : Room} {M : zM} (C : FCx G M p s m args meth c R) : ∀ q, s.heap.size ≤ q → fA G q := fun q h => Nat.le_trans C.2.2.2.2.2.2.2.2.2.2.1 h
theorem fRo {p : Program} {s : State} {m : MethodId} {args : Array Value} {meth : Method} {c : Code} {R : Room} (C : FCx G (mn, cc, nL, rt, dp, hh) p s m args meth c R) : dp ≤ R.frames ∧ 40 * dp ≤ R.locals := ⟨C.2.2.2.2.2.2.2.2.1, C.2.2.2.2.2.2.2.2.2.1⟩
theorem f_get {a ci kx N idx : Nat} {C ref : String} {T : u_T} {fs : List Value} {v : Value} (hc : vwCl[ci]? = some (C, T, N)) (hk : kx < N) (hin : ∀ w ∈ u_ws C T N, w ∈ zT) (hlink : Cond.fieldLink mn.cls idx ref (T kx).2.1 (T kx).2.2.1 ∈ zT)
    (hr : ∀ (s : State) (args : Array Value), (∀ w ∈ zT, w.before args s = true) → ∀ x, s.fieldFound? (T kx).1 (T kx).2.1 (T kx).2.2.1 = some x → s.fieldFound? ref (T kx).2.1 (T kx).2.2.1 = some x)
    (ha : ω a = some (.inr (ci, fs))) (hv : fs[kx]? = some v) (hdg : decode cc pc = .ok (.getfield idx, 3)) (z : FV G l (mn, cc, nL, rt, dp, hh) kb Q (pc + 3) ls (v :: rest) (o, ω)) :
    FV G l (mn, cc, nL, rt, dp, hh) kb Q pc ls (.ref a :: rest) (o, ω) := fun z1 p e s m args below meth c R H locs cells slots la C0 hP hS hc0 hs hl => by
  obtain ⟨ws, h1, h2, h3⟩ := id hP
  obtain ⟨k, hk1, -⟩ := fP.get (S := (o, ω)) h3 ha
  exact va_get C0.1 C0.2.1 C0.2.2.2.2.2.1 hin C0.2.2.2.2.1 (fK C0) h1 _ hk1 hc kx hk (C0.2.2.2.2.2.1 _ hlink) (hr s args C0.2.2.2.2.2.1) hv hdg (z z1 p e s m args below meth c R H locs cells slots la C0 hP hS hc0 hs hl)
theorem f_put {a ci kx N idx : Nat} {C ref : String} {T : u_T} {ty0 : Nat → FieldType} {fs : List Value} {v : Value} (hc : vwCl[ci]? = some (C, T, N)) (hk : kx < N) (hin : ∀ w ∈ u_ws C T N, w ∈ zT)
    (hty : ∀ k, k < N → parseFieldDescriptor (T k).2.2.1 = some (ty0 k)) (hnm : ∀ a, a < N → ∀ b, b < N → a ≠ b → (T a).2.1 ≠ (T b).2.1) (hfin : (T kx).2.2.2 = false) (hn : narrow (ty0 kx) v = v) (hfit : fits (ty0 kx) v = true)
    (hlink : Cond.fieldLink mn.cls idx ref (T kx).2.1 (T kx).2.2.1 ∈ zT) (hr : ∀ (s : State) (args : Array Value), (∀ w ∈ zT, w.before args s = true) → ∀ x, s.fieldFound? (T kx).1 (T kx).2.1 (T kx).2.2.1 = some x → s.fieldFound? ref (T kx).2.1 (T kx).2.2.1 = some x)
    (ha : ω a = some (.inr (ci, fs))) (hlen : kx < fs.length) (hdg : decode cc pc = .ok (.putfield idx, 3)) (z : FV G l (mn, cc, nL, rt, dp, hh) kb Q (pc + 3) ls rest (o, fup ω a (.inr (ci, fs.set kx v)))) :
    FV G l (mn, cc, nL, rt, dp, hh) kb Q pc ls (v :: .ref a :: rest) (o, ω) := fun z1 p e s m args below meth c R H locs cells slots la C0 hP hS hc0 hs hl => by
  obtain ⟨ws, h1, h2, h3⟩ := hP
  obtain ⟨k, hk1, hk2⟩ := fP.get (S := (o, ω)) h3 ha
  exact va_put C0.1 C0.2.1 C0.2.2.2.2.2.1 hin ty0 hty hnm C0.2.2.2.2.1 (fK C0) h1 h2 hS _ hk1 hc kx hk (C0.2.2.2.2.2.1 _ hlink) (hr s args C0.2.2.2.2.2.1) hfin (hty kx hk) hn hfit hlen hdg (fun H1 locs1 hP1 hD1 hS1 => z z1 p e s m args below meth c R H1 locs1 cells slots la C0 (fP.set h2 h3 hk2 hP1 hD1) hS1 hc0 hs hl)
theorem f_putF {a ci kx N idx : Nat} {C ref : String} {T : u_T} {ty0 : Nat → FieldType} {fs : List Value} {v : Value} (hc : vwCl[ci]? = some (C, T, N)) (hk : kx < N) (hin : ∀ w ∈ u_ws C T N, w ∈ zT)
    (hty : ∀ k, k < N → parseFieldDescriptor (T k).2.2.1 = some (ty0 k)) (hnm : ∀ a, a < N → ∀ b, b < N → a ≠ b → (T a).2.1 ≠ (T b).2.1) (hfin : (T kx).2.2.2 = true) (hmn : mn.name = "<init>") (hdecl : ∀ c : String, mn.cls = c → (T kx).1 = c) (hn : narrow (ty0 kx) v = v) (hfit : fits (ty0 kx) v = true)
    (hlink : Cond.fieldLink mn.cls idx ref (T kx).2.1 (T kx).2.2.1 ∈ zT) (hr : (T kx).1 = ref)
    (ha : ω a = some (.inr (ci, fs))) (hlen : kx < fs.length) (hdg : decode cc pc = .ok (.putfield idx, 3)) (z : FV G l (mn, cc, nL, rt, dp, hh) kb Q (pc + 3) ls rest (o, fup ω a (.inr (ci, fs.set kx v)))) :
    FV G l (mn, cc, nL, rt, dp, hh) kb Q pc ls (v :: .ref a :: rest) (o, ω) := fun z1 p e s m args below meth c R H locs cells slots la C0 hP hS hc0 hs hl => by
  obtain ⟨ws, h1, h2, h3⟩ := hP
  obtain ⟨k, hk1, hk2⟩ := fP.get (S := (o, ω)) h3 ha
  exact va_putF C0.1 C0.2.1 C0.2.2.2.2.2.1 hin ty0 hty hnm C0.2.2.2.2.1 (fK C0) h1 h2 hS _ hk1 hc kx hk (C0.2.2.2.2.2.1 _ hlink) (fun q h => by rw [hr] at h; exact h) hfin (C0.2.2.2.2.2.2.2.1.trans hmn) (hdecl _ rfl) (hty kx hk) hn hfit hlen hdg (fun H1 locs1 hP1 hD1 hS1 => z z1 p e s m args below meth c R H1 locs1 cells slots la C0 (fP.set h2 h3 hk2 hP1 hD1) hS1 hc0 hs hl)
theorem f_iald {a n : Nat} {f : Nat → Int32} {i : Int32} (ha : ω a = some (.inl (G.1.2.1 0, n, .inl f))) (hin : vp_in i n) (hdg : decode cc pc = .ok (.iaload, 1)) (z : FV G l (mn, cc, nL, rt, dp, hh) kb Q (pc + 1) ls (.int (f i.toNatClampNeg) :: rest) (o, ω)) :
    FV G l (mn, cc, nL, rt, dp, hh) kb Q pc ls (.int i :: .ref a :: rest) (o, ω) := fun z1 p e s m args below meth c R H locs cells slots la C0 hP hS hc0 hs hl => by
  obtain ⟨ws, h1, h2, h3⟩ := id hP
  obtain ⟨k, hk1, -⟩ := fP.get (S := (o, ω)) h3 ha
  exact va_iald C0.1 C0.2.1 (fK C0) h1 _ 0 hk1 rfl hin hdg (z z1 p e s m args below meth c R H locs cells slots la C0 hP hS hc0 hs hl)
theorem f_bald {a n : Nat} {f : Nat → Int32} {i : Int32} (ha : ω a = some (.inl (G.1.2.1 1, n, .inl f))) (hin : vp_in i n) (hdg : decode cc pc = .ok (.baload, 1)) (z : FV G l (mn, cc, nL, rt, dp, hh) kb Q (pc + 1) ls (.int (f i.toNatClampNeg) :: rest) (o, ω)) :
    FV G l (mn, cc, nL, rt, dp, hh) kb Q pc ls (.int i :: .ref a :: rest) (o, ω) := fun z1 p e s m args below meth c R H locs cells slots la C0 hP hS hc0 hs hl => by
  obtain ⟨ws, h1, h2, h3⟩ := id hP
  obtain ⟨k, hk1, -⟩ := fP.get (S := (o, ω)) h3 ha
  exact va_bald C0.1 C0.2.1 (fK C0) h1 _ 1 hk1 rfl hin hdg (z z1 p e s m args below meth c R H locs cells slots la C0 hP hS hc0 hs hl)
theorem f_iast {a n : Nat} {f : Nat → Int32} {i v : Int32} (ha : ω a = some (.inl (G.1.2.1 0, n, .inl f))) (hin : vp_in i n) (hdg : decode cc pc = .ok (.iastore, 1)) (z : FV G l (mn, cc, nL, rt, dp, hh) kb Q (pc + 1) ls rest (o, fup ω a (.inl (G.1.2.1 0, n, .inl (upd f i.toNatClampNeg v))))) :
    FV G l (mn, cc, nL, rt, dp, hh) kb Q pc ls (.int v :: .int i :: .ref a :: rest) (o, ω) := fun z1 p e s m args below meth c R H locs cells slots la C0 hP hS hc0 hs hl => by
  obtain ⟨ws, h1, h2, h3⟩ := hP
  obtain ⟨k, hk1, hk2⟩ := fP.get (S := (o, ω)) h3 ha
  exact va_iast C0.1 C0.2.1 (fK C0) h1 h2 hS _ 0 hk1 rfl hin hdg (fun H1 locs1 hP1 hD1 hS1 => z z1 p e s m args below meth c R H1 locs1 cells slots la C0 (fP.set h2 h3 hk2 hP1 hD1) hS1 hc0 hs hl)
theorem f_bast {a n : Nat} {f : Nat → Int32} {i v : Int32} (ha : ω a = some (.inl (G.1.2.1 1, n, .inl f))) (hin : vp_in i n) (hdg : decode cc pc = .ok (.bastore, 1)) (z : FV G l (mn, cc, nL, rt, dp, hh) kb Q (pc + 1) ls rest (o, fup ω a (.inl (G.1.2.1 1, n, .inl (upd f i.toNatClampNeg (vp_nar .byte v)))))) :
    FV G l (mn, cc, nL, rt, dp, hh) kb Q pc ls (.int v :: .int i :: .ref a :: rest) (o, ω) := fun z1 p e s m args below meth c R H locs cells slots la C0 hP hS hc0 hs hl => by
  obtain ⟨ws, h1, h2, h3⟩ := hP
  obtain ⟨k, hk1, hk2⟩ := fP.get (S := (o, ω)) h3 ha
  exact va_bast C0.1 C0.2.1 (fK C0) h1 h2 hS _ 1 hk1 rfl hin hdg (fun H1 locs1 hP1 hD1 hS1 => z z1 p e s m args below meth c R H1 locs1 cells slots la C0 (fP.set h2 h3 hk2 hP1 hD1) hS1 hc0 hs hl)
theorem f_alen {a t : Nat} {ty : FieldType} {x : vp_A} {v : Int32} (ht : (ztys G.1)[t]? = some (G.1.2.1 t, ty)) (ha : ω a = some (.inl (G.1.2.1 t, x))) (hv : Int32.ofNat x.1 = v) (hdg : decode cc pc = .ok (.arraylength, 1)) (z : FV G l (mn, cc, nL, rt, dp, hh) kb Q (pc + 1) ls (.int v :: rest) (o, ω)) :
    FV G l (mn, cc, nL, rt, dp, hh) kb Q pc ls (.ref a :: rest) (o, ω) := fun z1 p e s m args below meth c R H locs cells slots la C0 hP hS hc0 hs hl => by
  obtain ⟨ws, h1, h2, h3⟩ := id hP
  obtain ⟨k, hk1, -⟩ := fP.get (S := (o, ω)) h3 ha
  exact va_alen C0.1 C0.2.1 (fK C0) h1 _ t hk1 ht hv hdg (z z1 p e s m args below meth c R H locs cells slots la C0 hP hS hc0 hs hl)
/-- an element of a row of references -/
theorem f_aald {a n t : Nat} {ty : FieldType} {f : Nat → Option Nat} {i : Int32} {x : Nat} (ht : (ztys G.1)[t]? = some (G.1.2.1 t, ty)) (hty : ty.isReference = true) (hof : ∀ (s : State), va_K G.1.1 vwCl (ztys G.1) s → s.isArrayOf (arrV (G.1.2.1 t) n (fun j => va_rf (f j))) ty)
    (ha : ω a = some (.inl (G.1.2.1 t, n, .inr (.inr (.inr (.inr f)))))) (hin : vp_in i n) (hx : f i.toNatClampNeg = some x) (hdg : decode cc pc = .ok (.aaload, 1)) (z : FV G l (mn, cc, nL, rt, dp, hh) kb Q (pc + 1) ls (.ref x :: rest) (o, ω)) :
    FV G l (mn, cc, nL, rt, dp, hh) kb Q pc ls (.int i :: .ref a :: rest) (o, ω) := fun z1 p e s m args below meth c R H locs cells slots la C0 hP hS hc0 hs hl => by
  obtain ⟨ws, h1, h2, h3⟩ := id hP
  obtain ⟨k, hk1, -⟩ := fP.get (S := (o, ω)) h3 ha
  have hlt : i.toNatClampNeg < n := Nat.not_le.mp fun q => hin (Or.inr q)
  have hcell : H[a]? = some (arrV (G.1.2.1 t) n (fun j => va_rf (f j))) := h1 _ _ hk1
  refine W.aald (v := .ref x) (ty := ty) C0.1 C0.2.1 hcell (hof s (fK C0)) hty (fun q => by cases q) ?_ ?_ rfl rfl hdg (z z1 p e s m args below meth c R H locs cells slots la C0 hP hS hc0 hs hl)
  · rw [arrV_size]; exact hin
  · rw [arrV_read _ _ hlt, hx]; rfl
theorem fof4 {n : Nat} {f : Nat → Value} (s : State) (hK : va_K G.1.1 vwCl (ztys G.1) s) : s.isArrayOf (arrV (G.1.2.1 4) n f) (.array .int) := (hK.2 4 (G.1.2.1 4, .array .int) rfl).1 n _
theorem fof6 {n : Nat} {f : Nat → Value} (s : State) (hK : va_K G.1.1 vwCl (ztys G.1) s) : s.isArrayOf (arrV (G.1.2.1 6) n f) (.array (.array .int)) := (hK.2 6 (G.1.2.1 6, .array (.array .int)) rfl).1 n _
theorem fof5 {n : Nat} {f : Nat → Value} (s : State) (hK : va_K G.1.1 vwCl (ztys G.1) s) : s.isArrayOf (arrV (G.1.2.1 5) n f) (.object fOE) := (hK.2 5 (G.1.2.1 5, .object fOE) rfl).1 n _
/-- the script -/
theorem f_sld {i : Int32} (hin : vp_in i G.2.2.1) (hdg : decode cc pc = .ok (.iaload, 1)) (z : FV G l (mn, cc, nL, rt, dp, hh) kb Q (pc + 1) ls (.int (G.2.2.2 i.toNatClampNeg) :: rest) (o, ω)) :
    FV G l (mn, cc, nL, rt, dp, hh) kb Q pc ls (.int i :: .ref G.2.1 :: rest) (o, ω) := fun z1 p e s m args below meth c R H locs cells slots la C0 hP hS hc0 hs hl =>
  va_sld C0.1 C0.2.1 (fXs C0).2.2.2.2.2.2.2.2.1 (fXs C0).2.2.2.2.2.2.2.2.2.1 (fXs C0).2.2.2.2.2.2.2.2.2.2 hS hin hdg (z z1 p e s m args below meth c R H locs cells slots la C0 hP hS hc0 hs hl)
theorem f_slen (hdg : decode cc pc = .ok (.arraylength, 1)) (z : FV G l (mn, cc, nL, rt, dp, hh) kb Q (pc + 1) ls (.int (nI G.2.2.1) :: rest) (o, ω)) :
    FV G l (mn, cc, nL, rt, dp, hh) kb Q pc ls (.ref G.2.1 :: rest) (o, ω) := fun z1 p e s m args below meth c R H locs cells slots la C0 hP hS hc0 hs hl =>
  va_slen C0.1 C0.2.1 (fXs C0).2.2.2.2.2.2.2.2.1 (fXs C0).2.2.2.2.2.2.2.2.2.1 (fXs C0).2.2.2.2.2.2.2.2.2.2 hS hdg (z z1 p e s m args below meth c R H locs cells slots la C0 hP hS hc0 hs hl)
theorem f_ldcS {idx i : Nat} {tx : String} (hi : zStrL[i]? = some (mn.cls, idx, tx)) (hdg : decode cc pc = .ok (.ldc idx, 2)) (z : FV G l (mn, cc, nL, rt, dp, hh) kb Q (pc + 2) ls (.ref (G.1.2.2.2.2.1 i) :: rest) (o, ω)) : FV G l (mn, cc, nL, rt, dp, hh) kb Q pc ls rest (o, ω) := fun z1 p e s m args below meth c R H locs cells slots la C0 hP hS hc0 hs hl =>
  va_ldcS C0.1 C0.2.1 C0.2.2.2.2.1 ((fXs C0).1.2.2.2.1 i _ hi) hdg (z z1 p e s m args below meth c R H locs cells slots la C0 hP hS hc0 hs hl)
/-- new objects and arrays -/
theorem f_new {N ci index : Nat} {cn : String} {T : u_T} {fs : List Value} (hin : ∀ w ∈ u_ws cn T N, w ∈ zT) (ty : Nat → FieldType) (hty : ∀ k, k < N → parseFieldDescriptor (T k).2.2.1 = some (ty k)) (hcl : Cond.classLink mn.cls index cn ∈ zT) (hinst : Cond.instantiable cn N ∈ zT) (hini : Cond.initialized cn ∈ zT)
    (hci : vwCl[ci]? = some (cn, T, N)) (hfs : ∀ j, j < N → defaultValue (ty j) = vp_V fs j) (hN : N ≤ 12) (hk : kb' + 1 ≤ kb) (hdg : decode cc pc = .ok (.new index, 3))
    (z : ∀ q : Nat, ω q = none → FV G l (mn, cc, nL, rt, dp, hh) kb' Q (pc + 3) ls (.ref q :: rest) (o, fup ω q (.inr (ci, fs)))) : FV G l (mn, cc, nL, rt, dp, hh) kb Q pc ls rest (o, ω) := fun z1 p e s m args below meth c R H locs cells slots la C0 hP hS hc0 hs hl => by
  obtain ⟨ws, h1, h2, h3⟩ := hP
  refine va_new C0.1 C0.2.1 C0.2.2.2.2.2.1 hin ty hty C0.2.2.2.2.1 (C0.2.2.2.2.2.1 _ hcl) (C0.2.2.2.2.2.1 _ hinst) (C0.2.2.2.2.2.1 _ hini) (fK C0) h1 h2 hS (fAn C0) hci hfs (by omega) (by omega) hdg (fun q H1 hP1 hD1 hS1 => ?_)
  obtain ⟨hn, hP2⟩ := fP.new h3 hP1 hD1
  exact z q hn z1 p e s m args below meth c R H1 locs (cells + 1) (slots + N) la C0 hP2 hS1 (by omega) (by omega) hl
theorem f_newa {atype : ArrayType} {ty : FieldType} {n : Int32} {N t u : Nat} {a0 : vp_A} (harr : Cond.arrayClass (newarray.typeOf atype) ∈ zT) (hty : newarray.typeOf atype = ty) (ht : (ztys G.1)[t]? = some (G.1.2.1 t, ty)) (hR : ∀ (U : State) (cA : ClassId), va_RA U cA ty → U.vm.findClass ("[" ++ ty.toString) = some cA)
    (ha : ∀ cA : ClassId, vp_cell cA a0 = arrV cA N (fun _ => defaultValue ty)) (hn : ¬ n < 0) (hN : n.toNatClampNeg = N) (hbytes : N * componentBytes ty ≤ 536870912) (hk : kb' + u ≤ kb) (hu : 1 ≤ u ∧ N ≤ 12 * u) (hdg : decode cc pc = .ok (.newarray atype, 2))
    (z : ∀ q : Nat, ω q = none → FV G l (mn, cc, nL, rt, dp, hh) kb' Q (pc + 2) ls (.ref q :: rest) (o, fup ω q (.inl (G.1.2.1 t, a0)))) : FV G l (mn, cc, nL, rt, dp, hh) kb Q pc ls (.int n :: rest) (o, ω) := fun z1 p e s m args below meth c R H locs cells slots la C0 hP hS hc0 hs hl => by
  obtain ⟨ws, h1, h2, h3⟩ := hP
  refine va_newa C0.1 C0.2.1 (C0.2.2.2.2.2.1 _ harr) hty (fK C0) h1 h2 hS (fAn C0) ha hn hN hbytes (by omega) (by omega) hdg (fun q cA H1 hK1 hP1 hD1 hS1 => ?_)
  have e1 : s.vm.findClass ("[" ++ ty.toString) = some cA := hR s cA (hK1.2 (ztys G.1).length (cA, ty) (by simp)).2
  have e2 : s.vm.findClass ("[" ++ ty.toString) = some (G.1.2.1 t) := hR s _ ((fK C0).2 t _ ht).2
  have e3 : cA = G.1.2.1 t := Option.some.inj (e1.symm.trans e2)
  subst e3
  obtain ⟨hn', hP2⟩ := fP.new h3 hP1 hD1
  exact z q hn' z1 p e s m args below meth c R H1 locs (cells + 1) (slots + N) la C0 hP2 hS1 (by omega) (by omega) hl
theorem f_newq {n : Int32} {N u index : Nat} (hclink : Cond.classLink mn.cls index fOE ∈ zT) (hn : ¬ n < 0) (hN : n.toNatClampNeg = N) (hbytes : N * 4 ≤ 536870912) (hk : kb' + u ≤ kb) (hu : 1 ≤ u ∧ N ≤ 12 * u) (hdg : decode cc pc = .ok (.anewarray index, 3))
    (z : ∀ q : Nat, ω q = none → FV G l (mn, cc, nL, rt, dp, hh) kb' Q (pc + 3) ls (.ref q :: rest) (o, fup ω q (.inl (G.1.2.1 5, N, .inr (.inr (.inr (.inr (fun _ => none)))))))) : FV G l (mn, cc, nL, rt, dp, hh) kb Q pc ls (.int n :: rest) (o, ω) := fun z1 p e s m args below meth c R H locs cells slots la C0 hP hS hc0 hs hl => by
  obtain ⟨ws, h1, h2, h3⟩ := hP
  refine va_newq C0.1 C0.2.1 C0.2.2.2.2.1 (C0.2.2.2.2.2.1 _ hclink) (fXs C0).2.1.2.2.1 (fK C0) h1 h2 hS (fAn C0) hn hN hbytes (by omega) (by omega) hdg (fun q cA H1 hK1 hP1 hD1 hS1 => ?_)
  obtain ⟨_, _, _, _, _, e1⟩ := (hK1.2 (ztys G.1).length (cA, .object fOE) (by simp)).2
  obtain ⟨_, _, _, _, _, e2⟩ := ((fK C0).2 5 _ (rfl : (ztys G.1)[5]? = some (G.1.2.1 5, .object fOE))).2
  have e3 : cA = G.1.2.1 5 := Option.some.inj (e1.symm.trans e2)
  subst e3
  obtain ⟨hn', hP2⟩ := fP.new h3 hP1 hD1
  exact z q hn' z1 p e s m args below meth c R H1 locs (cells + 1) (slots + N) la C0 hP2 hS1 (by omega) (by omega) hl
/-- a cast to a class of arrays -/
theorem f_castA {a t index : Nat} {ty : FieldType} {x : vp_A} {nm : String} (hlink : Cond.classLink mn.cls index nm ∈ zT) (ht : (ztys G.1)[t]? = some (G.1.2.1 t, ty)) (hR : ∀ (U : State) (cA : ClassId), va_RA U cA ty → U.vm.findClass nm = some cA) (ha : ω a = some (.inl (G.1.2.1 t, x))) (hdg : decode cc pc = .ok (.checkcast index, 3))
    (z : FV G l (mn, cc, nL, rt, dp, hh) kb Q (pc + 3) ls (.ref a :: rest) (o, ω)) : FV G l (mn, cc, nL, rt, dp, hh) kb Q pc ls (.ref a :: rest) (o, ω) := fun z1 p e s m args below meth c R H locs cells slots la C0 hP hS hc0 hs hl => by
  obtain ⟨ws, h1, h2, h3⟩ := id hP
  obtain ⟨k, hk1, -⟩ := fP.get (S := (o, ω)) h3 ha
  exact va_castA C0.1 C0.2.1 C0.2.2.2.2.1 (C0.2.2.2.2.2.1 _ hlink) h1 _ hk1 (hR s _ ((fK C0).2 t _ ht).2) hdg (z z1 p e s m args below meth c R H locs cells slots la C0 hP hS hc0 hs hl)
/-! ends -/
theorem f_iret {v : Int32} (hrt : rt = some .int) (hdg : decode cc pc = .ok (.ireturn, 1)) (z : Q (some (.int v)) (o, ω)) : FV G l (mn, cc, nL, rt, dp, hh) kb Q pc ls [.int v] (o, ω) := fun z1 p e s m args below meth c R H locs cells slots la C0 hP hS hc0 hs hl =>
  W.widen (by omega) (by omega) (W.iret C0.1 C0.2.1 (C0.2.2.1.trans hrt) (fun t ht hw => ⟨⟨some (.int v), _, rfl, z, by rw [ht]; exact hP⟩, hS.F ht⟩) hS.2.2 hdg C0.2.2.2.2.2.2.1)
theorem f_zret {v : Int32} {ty : FieldType} (hrt : rt = some ty) (hn : narrow ty (.int v) = .int v) (hdg : decode cc pc = .ok (.ireturn, 1)) (z : Q (some (.int v)) (o, ω)) : FV G l (mn, cc, nL, rt, dp, hh) kb Q pc ls [.int v] (o, ω) := fun z1 p e s m args below meth c R H locs cells slots la C0 hP hS hc0 hs hl =>
  W.widen (by omega) (by omega) (W.zret C0.1 C0.2.1 (C0.2.2.1.trans hrt) hn (fun t ht hw => ⟨⟨some (.int v), _, rfl, z, by rw [ht]; exact hP⟩, hS.F ht⟩) hS.2.2 hdg C0.2.2.2.2.2.2.1)
theorem f_vret (hrt : rt = none) (hdg : decode cc pc = .ok (.return_, 1)) (z : Q none (o, ω)) : FV G l (mn, cc, nL, rt, dp, hh) kb Q pc ls [] (o, ω) := fun z1 p e s m args below meth c R H locs cells slots la C0 hP hS hc0 hs hl =>
  W.widen (by omega) (by omega) (W.vret C0.1 C0.2.1 (C0.2.2.1.trans hrt) (fun t ht hw => ⟨⟨none, _, rfl, z, by rw [ht]; exact hP⟩, hS.F ht⟩) hS.2.2 hdg C0.2.2.2.2.2.2.1)
theorem f_aret {a : Nat} {ty : FieldType} (hrt : rt = some ty) (hty : (∃ n, ty = .object n) ∨ ∃ t, ty = .array t) (hdg : decode cc pc = .ok (.areturn, 1)) (z : Q (some (.ref a)) (o, ω)) : FV G l (mn, cc, nL, rt, dp, hh) kb Q pc ls [.ref a] (o, ω) := fun z1 p e s m args below meth c R H locs cells slots la C0 hP hS hc0 hs hl =>
  W.widen (by omega) (by omega) (W.aret C0.1 C0.2.1 (C0.2.2.1.trans hrt) hty (Or.inr ⟨a, rfl⟩) (fun t ht hw => ⟨⟨some (.ref a), _, rfl, z, by rw [ht]; exact hP⟩, hS.F ht⟩) hS.2.2 hdg C0.2.2.2.2.2.2.1)
end FH
