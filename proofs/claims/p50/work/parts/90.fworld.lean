/-! the law's side: the class's world beside cells by address (what is there may be more), and what it takes of the start -/
theorem ao_spec {args : Array Value} {first s : State} {o : Option Outcome} {idx : List Nat} {t : FieldType} (h : (Cond.arrayOver (.array t)).holds args first o s idx = true) :
    ∃ (comp c : ClassId) (k : Class), s.vm.findClass (FieldType.array t).toString = some comp ∧ (s.vm.classes.findIdx? fun (x : Class) => match x.kind with | .array component _ => component == comp | _ => false) = some c ∧ s.vm.classes[c]? = some k ∧ k.kind = .array comp (.array t) ∧ s.vm.findClass ("[" ++ (FieldType.array t).toString) = some c := by
  simp only [Cond.holds, Cond.value, beq_iff_eq] at h
  cases hc : s.vm.findClass (FieldType.array t).toString with
  | none => simp [hc] at h
  | some comp =>
    simp only [hc, Option.bind_some, Option.bind_eq_some_iff, Option.map_eq_some_iff] at h
    obtain ⟨c, hi, k, hk, hb⟩ := h
    obtain ⟨hlt, hp, -⟩ := Array.findIdx?_eq_some_iff_getElem.mp hi
    have hkk : s.vm.classes[c] = k := (Array.getElem?_eq_some_iff.mp hk).2
    rw [hkk] at hp
    cases hkind : k.kind with
    | array component ty =>
      rw [hkind] at hb hp
      simp at hb hp
      exact ⟨comp, c, k, rfl, hi, hk, by rw [hkind, hp, hb.1], hb.2⟩
    | _ => rw [hkind] at hb; simp at hb
theorem va_AOA.moved {t : FieldType} {u U : State} (hvm : u.vm.Alike U.vm) (h : va_AOA t u) : va_AOA t U := by
  obtain ⟨comp, c, k, h1, h2, h3, h4, h5⟩ := ao_spec h
  obtain ⟨k', hk', he⟩ := hvm.2.2 _ _ h3
  have hi : (U.vm.classes.findIdx? fun (x : Class) => match x.kind with | .array component _ => component == comp | _ => false) = some c := by
    have hb : U.vm.bare = u.vm.bare := by first | exact hvm.bare_eq | exact hvm.bare_eq.symm
    have e1 := va_idx_bare U.vm comp
    rw [hb, va_idx_bare] at e1
    exact e1.symm.trans h2
  have hkind : k'.kind = .array comp (.array t) := by rw [he]; exact h4
  have f1 : U.vm.findClass (FieldType.array t).toString = some comp := by rw [hvm.findClass]; exact h1
  have f2 : U.vm.findClass ("[" ++ (FieldType.array t).toString) = some c := by rw [hvm.findClass]; exact h5
  unfold va_AOA Cond.before Cond.holds
  simp only [Cond.value]
  rw [f1, Option.bind_some]
  refine (congrArg (fun o : Option Nat => (o.bind (fun c => (U.vm.classes[c]?).map fun (k : Class) => match k.kind with | .array _ ty => decide (ty = FieldType.array t) && decide (U.vm.findClass ("[" ++ (FieldType.array t).toString) = some c) | _ => false) == some true)) hi).trans ?_
  simp [hk', hkind, f2]
theorem wl_get : ∀ (w0 wr : va_W) (j : Nat), (w0 ++ wr)[w0.length + j]? = wr[j]?
  | [], wr, j => by simp
  | x :: w, wr, j => by rw [List.cons_append, List.length_cons, show w.length + 1 + j = (w.length + j) + 1 by omega, List.getElem?_cons_succ]; exact wl_get w wr j
theorem wl_set : ∀ (w0 wr : va_W) (j : Nat) (x : Nat × va_E), (w0 ++ wr).set (w0.length + j) x = w0 ++ wr.set j x
  | [], wr, j, x => by simp
  | y :: w, wr, j, x => by rw [List.cons_append, List.length_cons, show w.length + 1 + j = (w.length + j) + 1 by omega, List.set_cons_succ, wl_set w wr j x, List.cons_append]
abbrev fW : Type := Nat → Option va_E
abbrev fS : Type := Option zS × fW
abbrev fG : Type := zG × Nat × Nat × (Nat → Int32)
def fA (G : fG) : Nat → Prop := fun q => G.1.2.2.2.1 ≤ q
def fbs (G : fG) : Option zS → va_W
  | none => []
  | some σ => zws G.1 σ
def fP (G : fG) (S : fS) (H : Heap) : Prop := ∃ ws : va_W, va_P G.1.1 vwCl (fbs G S.1 ++ ws) H ∧ va_D (fA G) (fbs G S.1 ++ ws) ∧ ∀ a c, S.2 a = some c → ∃ k : Nat, ws[k]? = some (a, c)
def fup (ω : fW) (a : Nat) (c : va_E) : fW := fun q => if q = a then some c else ω q
theorem fup_at (ω : fW) (a : Nat) (c : va_E) : fup ω a c a = some c := if_pos rfl
theorem fup_ne {ω : fW} {a q : Nat} {c : va_E} (h : q ≠ a) : fup ω a c q = ω q := if_neg h
def fle (ω ω' : fW) : Prop := ∀ a c, ω a = some c → ω' a = some c
theorem fle.rf (ω : fW) : fle ω ω := fun _ _ h => h
theorem fle.up {ω : fW} {a : Nat} {c : va_E} (h : ω a = none) : fle ω (fup ω a c) := fun q e hq => by
  by_cases hqa : q = a
  · subst hqa; rw [h] at hq; cases hq
  · rw [fup_ne hqa]; exact hq
theorem fle.tr {ω ω' ω'' : fW} (h1 : fle ω ω') (h2 : fle ω' ω'') : fle ω ω'' := fun a c h => h2 a c (h1 a c h)
theorem fP.le {G : fG} {o : Option zS} {ω ω' : fW} {H : Heap} (h : fle ω ω') (hP : fP G (o, ω') H) : fP G (o, ω) H := by
  obtain ⟨ws, h1, h2, h3⟩ := hP
  exact ⟨ws, h1, h2, fun a c q => h3 a c (h a c q)⟩
theorem fP.kept {G : fG} {S : fS} {H H1 : Heap} (hP : fP G S H) (hq : ∀ q : Nat, q < H.size → H1[q]? = H[q]?) : fP G S H1 := by
  obtain ⟨ws, h1, h2, h3⟩ := hP
  exact ⟨ws, h1.kept (fun k q hk => hq q.1 (h1 k q hk).lt), h2, h3⟩
/-- the list behind it, the cell's place in the whole -/
theorem fP.get {G : fG} {S : fS} {ws : va_W} {a : Nat} {c : va_E} (h3 : ∀ a c, S.2 a = some c → ∃ k : Nat, ws[k]? = some (a, c)) (h : S.2 a = some c) : ∃ k : Nat, (fbs G S.1 ++ ws)[(fbs G S.1).length + k]? = some (a, c) ∧ ws[k]? = some (a, c) := by
  obtain ⟨k, hk⟩ := h3 a c h
  exact ⟨k, (wl_get _ ws k).trans hk, hk⟩
theorem fP.set {G : fG} {o : Option zS} {ω : fW} {ws : va_W} {H1 : Heap} {k a : Nat} {c0 c : va_E} (h2 : va_D (fA G) (fbs G o ++ ws)) (h3 : ∀ a c, ω a = some c → ∃ k : Nat, ws[k]? = some (a, c)) (hk : ws[k]? = some (a, c0))
    (hP1 : va_P G.1.1 vwCl ((fbs G o ++ ws).set ((fbs G o).length + k) (a, c)) H1) (hD1 : va_D (fA G) ((fbs G o ++ ws).set ((fbs G o).length + k) (a, c))) : fP G (o, fup ω a c) H1 := by
  rw [wl_set] at hP1 hD1
  refine ⟨_, hP1, hD1, fun q e hq => ?_⟩
  replace hq : fup ω a c q = some e := hq
  by_cases hqa : q = a
  · subst hqa
    rw [fup_at] at hq
    cases hq
    exact ⟨k, by rw [List.getElem?_set_self (List.getElem?_eq_some_iff.mp hk).1]⟩
  · rw [fup_ne hqa] at hq
    obtain ⟨j, hj⟩ := h3 q e hq
    have hjk : k ≠ j := fun h => by
      subst h
      rw [hk] at hj
      cases hj
      exact hqa rfl
    exact ⟨j, by rw [List.getElem?_set_ne hjk]; exact hj⟩
theorem fP.new {G : fG} {o : Option zS} {ω : fW} {ws : va_W} {H1 : Heap} {a : Nat} {c : va_E} (h3 : ∀ a c, ω a = some c → ∃ k : Nat, ws[k]? = some (a, c))
    (hP1 : va_P G.1.1 vwCl ((fbs G o ++ ws) ++ [(a, c)]) H1) (hD1 : va_D (fA G) ((fbs G o ++ ws) ++ [(a, c)])) : ω a = none ∧ fP G (o, fup ω a c) H1 := by
  have hn : ω a = none := by
    cases h : ω a with
    | none => rfl
    | some e =>
      obtain ⟨k, hk⟩ := h3 a e h
      have hl : k < ws.length := (List.getElem?_eq_some_iff.mp hk).1
      have h1 : ((fbs G o ++ ws) ++ [(a, c)])[(fbs G o).length + k]? = some (a, e) := by rw [List.append_assoc, wl_get, List.getElem?_append_left hl]; exact hk
      have h2 : ((fbs G o ++ ws) ++ [(a, c)])[(fbs G o ++ ws).length]? = some (a, c) := by simp
      have := hD1.1 _ _ _ _ h1 h2 rfl
      rw [List.length_append] at this
      omega
  rw [List.append_assoc] at hP1 hD1
  refine ⟨hn, _, hP1, hD1, fun q e hq => ?_⟩
  replace hq : fup ω a c q = some e := hq
  by_cases hqa : q = a
  · subst hqa
    rw [fup_at] at hq
    cases hq
    exact ⟨ws.length, by simp⟩
  · rw [fup_ne hqa] at hq
    obtain ⟨j, hj⟩ := h3 q e hq
    exact ⟨j, by rw [List.getElem?_append_left (List.getElem?_eq_some_iff.mp hj).1]; exact hj⟩
/-! what stays the same below the first address -/
def zXA (A : Nat → Prop) (g : zG) (U : State) (H : Heap) : Prop :=
  (∀ q ∈ zNestL, va_Nw (.methodLinkNest q.1 q.2.1 q.2.2.1 q.2.2.2) U) ∧ (∀ q ∈ zCastL, va_Nw (.castable q q) U) ∧ (∀ q ∈ zNcL, va_Nc q.1 q.2 U) ∧
  (∀ (i : Nat) (q : String × Nat × String), zStrL[i]? = some q → vk_R q.1 q.2.1 q.2.2 (g.2.2.2.2.1 i) U) ∧
  vx_Zq Bundle.tN "UNASSIGNED_STACK" Bundle.steD A U H ∧ vx_Zq Bundle.tN "SUPPRESSED_SENTINEL" Bundle.listD A U H ∧
  vk_S 15 zLen zByt g.2.2.2.2.1 g.2.2.2.2.2 A U H ∧ va_Z "java/lang/String" "COMPACT_STRINGS" "Z" (.int 1) A U H ∧ va_Zq "jdk/internal/util/Preconditions" "SIOOBE_FORMATTER" "Ljava/util/function/BiFunction;" A U H ∧ (∀ q ∈ zDecL, va_Nw (.declares q) U)
theorem zXA_z {A : Nat → Prop} {g g' : zG} {U : State} {H : Heap} (h : zXA A g U H) (hk : g'.2.2.2.2.1 = g.2.2.2.2.1) (hv : g'.2.2.2.2.2 = g.2.2.2.2.2) (hA : ∀ q, zA g' q → A q) : zX g' U H := by
  obtain ⟨h1, h2, h3, h4, h5, h6, h7, h8, h9, h10⟩ := h
  exact ⟨h1, h2, h3, by rw [hk]; exact h4, h5.narrow hA, h6.narrow hA, by rw [hk, hv]; exact h7.narrow hA, h8.narrow hA, h9.narrow hA, h10⟩
/-- the interfaces' calls: the receiver's class, the interface's method, the class's own -/
def fFwL : List (String × MethodName × MethodName) := [(RJx4a65c, ⟨RJxbd725, "add", "(Ljava/lang/Object;)Z"⟩, yJx4a65c_add_9ea2d), (RJx4a65c, ⟨RJxbd725, "get", "(I)Ljava/lang/Object;"⟩, yJx4a65c_get_915e3), (RJx4a65c, ⟨RJxbd725, "size", "()I"⟩, yJx4a65c_size_8abf5),
  (RJx4a65c, ⟨RJxbd725, "isEmpty", "()Z"⟩, yJx4a65c_isEmpty_aae02), (RJx4a65c, ⟨RJxbd725, "iterator", "()Ljava/util/Iterator;"⟩, yJx4a65c_iterator_32c93), (RJx35411, ⟨RJx4d0d8, "hasNext", "()Z"⟩, yJx35411_hasNext_aae02), (RJx35411, ⟨RJx4d0d8, "next", "()Ljava/lang/Object;"⟩, yJx35411_next_0502b)]
theorem fFw_mh : ∀ q ∈ fFwL, q.2.1.cls ≠ "java/lang/invoke/MethodHandle" ∧ q.2.1.cls ≠ "java/lang/invoke/VarHandle" := by decide +kernel
abbrev fOE : String := "java/lang/Object"
def fX (G : fG) (U : State) (H : Heap) : Prop :=
  zXA (fA G) G.1 U H ∧ (va_AO "BambooBlind$Blind" U ∧ va_AOA .int U ∧ va_AO fOE U ∧ va_AOA (.array .int) U) ∧
  (va_Z RJx4a65c "DEFAULTCAPACITY_EMPTY_ELEMENTDATA" "[Ljava/lang/Object;" (.ref (G.1.2.2.2.2.2 100)) (fA G) U H ∧ va_T (.object fOE) (G.1.2.2.2.2.2 100) 0 (fun _ => .null) (fA G) U H) ∧
  (va_Z RJ6 "DigitOnes" "[B" (.ref (G.1.2.2.2.2.2 101)) (fA G) U H ∧ va_T .byte (G.1.2.2.2.2.2 101) 100 (fun j => .int (nI (48 + j % 10))) (fA G) U H) ∧
  (va_Z RJ6 "DigitTens" "[B" (.ref (G.1.2.2.2.2.2 102)) (fA G) U H ∧ va_T .byte (G.1.2.2.2.2.2 102) 100 (fun j => .int (nI (48 + j / 10))) (fA G) U H) ∧
  va_Mi "[Ljava/lang/Object;" (G.1.2.2.2.2.2 103) U ∧ (∀ q ∈ fFwL, va_Fw q.1 q.2.1 q.2.2 U) ∧ (va_Nw (.castable "[I" fOE) U ∧ va_Nw (.fieldLinkNest RJx35411 28 RJx4a65c "size" "I" RJx4a65c) U ∧ va_Nw (.castable "[B" "java/lang/Cloneable") U ∧ va_Nw (.declares ⟨fOE, "getClass", "()Ljava/lang/Class;"⟩) U) ∧
  (va_X G.2.1 G.2.2.1 G.2.2.2 U H ∧ G.2.1 < H.size ∧ ¬ fA G G.2.1)
theorem fX_move {G : fG} {s U : State} {H H1 : Heap} (hW : s.WarmedH U.vm) (hz : H.size ≤ H1.size) (hq : ∀ a : Nat, a < H.size → ¬ fA G a → H1[a]? = H[a]?) (h : fX G s H) : fX G U H1 := by
  obtain ⟨⟨h1, h2, h3, h4, h5, h6, h7, h8, h9, h10⟩, ⟨a1, a2, a3, a4⟩, ⟨b1, b2⟩, ⟨c1, c2⟩, ⟨d1, d2⟩, e1, f1, ⟨i1, i2, i3, i4⟩, ⟨x1, x2, x3⟩⟩ := h
  refine ⟨⟨fun q hm => va_Nw.warmM hW (h1 q hm), fun q hm => va_Nw.warmC hW (h2 q hm), fun q hm => va_Nc.moved hW.alike (h3 q hm), fun i q hm => vk_R.warm hW (h4 i q hm),
    (h5.moved hW.alike).kept hq, (h6.moved hW.alike).kept hq, (h7.moved hW.alike).kept hq, (h8.moved hW.alike).kept hq, (h9.moved hW.alike).kept hq, fun q hm => va_Nw.warmD hW (h10 q hm)⟩,
    ⟨va_AO.moved hW.alike a1, va_AOA.moved hW.alike a2, va_AO.moved hW.alike a3, va_AOA.moved hW.alike a4⟩, ⟨(b1.moved hW.alike).kept hq, (b2.moved hW.alike).kept hq⟩, ⟨(c1.moved hW.alike).kept hq, (c2.moved hW.alike).kept hq⟩, ⟨(d1.moved hW.alike).kept hq, (d2.moved hW.alike).kept hq⟩,
    va_Mi.moved hW.alike e1, fun q hm => (f1 q hm).moved (fFw_mh q hm) hW.alike, ⟨va_Nw.warmC hW i1, va_Nw.warmF hW i2, va_Nw.warmC hW i3, va_Nw.warmD hW i4⟩, ⟨(va_X.moved hW.alike x1).kept (hq _ x2 x3), Nat.lt_of_lt_of_le x2 hz, x3⟩⟩
def fRm (M : zM) (k : Nat) : Room := { frames := M.2.2.2.2.1, cells := k, slots := 12 * k, locals := 40 * M.2.2.2.2.1 }
def fPc (G : fG) (av : List Value) (S : fS) : Array Value → State → Prop := fun v U => v = av.toArray ∧ G.1.2.2.2.1 ≤ U.heap.size ∧ fP G S U.heap ∧ va_K G.1.1 vwCl (ztys G.1) U ∧ fX G U U.heap
def fQc (G : fG) (Q : Option Value → fS → Prop) : Array Value → State → Outcome → State → Prop := fun _ st oc t => (∃ (v : Option Value) (S' : fS), oc = .returned v ∧ Q v S' ∧ fP G S' t.heap) ∧ va_F (fA G) st t
/-- a contract of the law's side: from the world S with the arguments av it returns, Q says what; k units of room (a cell and twelve slots each) -/
def FC (G : fG) (l : Launch) (M : zM) (k : Nat) (av : List Value) (S : fS) (Q : Option Value → fS → Prop) : Prop :=
  l.stackTraces = false → Met l M.1 (Cond.code M.1 M.2.1 M.2.2.1 M.2.2.2.1 :: zT) (fRm M k) (fPc G av S) (fQc G Q) k (12 * k) (fA G)
def FCx (G : fG) (M : zM) (p : Program) (s : State) (m : MethodId) (args : Array Value) (meth : Method) (c : Code) (R : Room) : Prop :=
  p.tables.exec = Jvm.exec ∧ c.code = M.2.1 ∧ meth.sig.returnType = M.2.2.2.1 ∧ c.maxLocals = M.2.2.1 ∧ s.vm.findClass M.1.cls = some m.cls ∧ (∀ w ∈ zT, w.before args s = true) ∧ meth.locks = false ∧ meth.name = M.1.name ∧
  M.2.2.2.2.1 ≤ R.frames ∧ 40 * M.2.2.2.2.1 ≤ R.locals ∧ G.1.2.2.2.1 ≤ s.heap.size ∧ va_K G.1.1 vwCl (ztys G.1) s ∧ fX G s s.heap
def FV (G : fG) (l : Launch) (M : zM) (k : Nat) (Q : Option Value → fS → Prop) (pc : Nat) (ls : List (Nat × Value)) (st : List Value) (S : fS) : Prop :=
  l.stackTraces = false → ∀ (p : Program) (e : Env) (s : State) (m : MethodId) (args : Array Value) (below : List Frame) (meth : Method) (c : Code) (R : Room) (H : Heap) (locs : List Loc) (cells slots : Nat) (la : Array Slot),
    FCx G M p s m args meth c R → fP G S H → va_S (fA G) s.heap H locs → cells + k ≤ R.cells → slots + 12 * k ≤ R.slots → lv_has la M.2.2.1 ls →
    W p l e R s m args below meth c H locs cells slots (MQ below (fQc G Q) args s R.cells R.slots (fA G)) (F0 m pc la st)
theorem FC_of {G : fG} {l : Launch} {Q : Option Value → fS → Prop} {S : fS} {M : zM} {k : Nat} {av : List Value} (hy : plainName M.1.cls = true) (hlen : (lg_sl av).length ≤ M.2.2.1) (h : FV G l M k Q 0 (lv_args 0 av) [] S) : FC G l M k av S Q := fun z1 => by
  refine Met.ofW (cc := M.2.1) (maxL := M.2.2.1) (ret := M.2.2.2.1) hy rfl ?_
  intro p e s m args below meth c s₁ B hml hv
  obtain ⟨rfl, hB, hP, hK, hX⟩ := hv
  have hts := atoms_spec (ws := Cond.code M.1 M.2.1 M.2.2.1 M.2.2.2.1 :: zT) B.pre
  have C0 : FCx G M p s m av.toArray meth c (headSpec (Cond.code M.1 M.2.1 M.2.2.1 M.2.2.2.1 :: zT) (fRm M k)).room :=
    ⟨B.exec, B.bytes, B.returns, hml, findClass_of_methodNamed B.named, fun w hw => hts w (List.mem_cons_of_mem _ hw), B.notSynchronized, (name_of_methodNamed B.named B.method).1, Nat.le_refl _, Nat.le_refl _, hB, hK, hX⟩
  have hl := lv_entry av (n := M.2.2.1) hlen
  rw [lg_entry_eq]
  exact h z1 p e s m av.toArray below meth c _ s.heap [] 0 0 _ C0 hP va_S.rf (by simp [headSpec, fRm]) (by simp [headSpec, fRm]) hl
