/-! new T[n][m][k]: as the library does it for two dimensions (Shelf42/MA1, MA2), with one more -/
section VM3
def vm_outer (c : ClassId) (N h0 st : Nat) : Nat → Cell
  | 0 => { cls := c, slots := Array.replicate N .null, vm := .none }
  | i + 1 => (vm_outer c N h0 st i).setSlot i (.ref (h0 + 1 + i * st))
def vm_fill (s : State) (c c2 c3 : ClassId) (N M K : Nat) (dv : Value) : Nat → State
  | 0 => s.pushCell (vm_outer c N s.heap.size (1 + M) 0)
  | i + 1 => (Jvm.Free.Multi.fill (vm_fill s c c2 c3 N M K dv i) c2 c3 M K dv M).setCell s.heap.size (vm_outer c N s.heap.size (1 + M) (i + 1))
theorem vm_outer_facts (c : ClassId) (N h0 st : Nat) : ∀ i, (vm_outer c N h0 st i).cls = c ∧ (vm_outer c N h0 st i).vm = .none ∧ (vm_outer c N h0 st i).slots.size = N
  | 0 => ⟨rfl, rfl, by simp [vm_outer]⟩
  | i + 1 => by
    obtain ⟨a, b, d⟩ := vm_outer_facts c N h0 st i
    exact ⟨by simp [vm_outer, Cell.setSlot, a], by simp [vm_outer, Cell.setSlot, b], by simp [vm_outer, Cell.setSlot, d]⟩
theorem vm_sm (i M : Nat) : (i + 1) * (1 + M) = i * (1 + M) + (1 + M) := Nat.succ_mul _ _
theorem vm_facts (s : State) (c c2 c3 : ClassId) (N M K : Nat) (dv : Value) : ∀ i, (vm_fill s c c2 c3 N M K dv i).heap.size = s.heap.size + 1 + i * (1 + M) ∧ (vm_fill s c c2 c3 N M K dv i).heap[s.heap.size]? = some (vm_outer c N s.heap.size (1 + M) i) ∧
    (vm_fill s c c2 c3 N M K dv i).vm = s.vm ∧ (vm_fill s c c2 c3 N M K dv i).slotsUsed = s.slotsUsed + N + i * (M + M * K)
  | 0 => ⟨by simp [vm_fill], by simp [vm_fill], rfl, by simp [vm_fill, vm_outer]⟩
  | i + 1 => by
    obtain ⟨a, b, d, u⟩ := vm_facts s c c2 c3 N M K dv i
    obtain ⟨a2, b2, d2, u2⟩ := Jvm.Free.Multi.fill_facts (vm_fill s c c2 c3 N M K dv i) c2 c3 M K dv M
    have hlt : s.heap.size < (vm_fill s c c2 c3 N M K dv i).heap.size := by omega
    have hb' : (Jvm.Free.Multi.fill (vm_fill s c c2 c3 N M K dv i) c2 c3 M K dv M).heap[s.heap.size]? = some (vm_outer c N s.heap.size (1 + M) i) := by rw [Jvm.Free.Multi.fill_old _ _ _ _ _ _ hlt]; exact b
    refine ⟨?_, State.heap_setCell_self hb', by simp [vm_fill, d2, d], ?_⟩
    · have := vm_sm i M
      simp [vm_fill, State.setCell, a2, a]; omega
    · have : (i + 1) * (M + M * K) = i * (M + M * K) + (M + M * K) := Nat.succ_mul _ _
      simp [vm_fill, u2, u]; omega
theorem vm_setTop (s : State) (f : JFrame) (c c2 c3 : ClassId) (N M K : Nat) (dv : Value) : ∀ i, vm_fill (s.setTop f) c c2 c3 N M K dv i = (vm_fill s c c2 c3 N M K dv i).setTop f
  | 0 => rfl
  | i + 1 => by simp only [vm_fill, vm_setTop s f c c2 c3 N M K dv i, Jvm.Free.Multi.fill_setTop, State.heap_setTop, State.setCell_setTop]
theorem vm_old (s : State) (c c2 c3 : ClassId) (N M K : Nat) (dv : Value) {a : Addr} (ha : a < s.heap.size) : ∀ i, (vm_fill s c c2 c3 N M K dv i).heap[a]? = s.heap[a]?
  | 0 => State.heap_pushCell_of_lt _ _ ha
  | i + 1 => by
    have f1 := (vm_facts s c c2 c3 N M K dv i).1
    have hlt : a < (vm_fill s c c2 c3 N M K dv i).heap.size := Nat.lt_of_lt_of_le ha (by rw [f1]; omega)
    show ((Jvm.Free.Multi.fill (vm_fill s c c2 c3 N M K dv i) c2 c3 M K dv M).setCell s.heap.size _).heap[a]? = _
    rw [State.heap_setCell_other (Nat.ne_of_gt ha), Jvm.Free.Multi.fill_old _ _ _ _ _ _ hlt]
    exact vm_old s c c2 c3 N M K dv ha i
/-- the middle arrays and the rows -/
theorem vm_mid (s : State) (c c2 c3 : ClassId) (N M K : Nat) (dv : Value) : ∀ i k, k < i → (vm_fill s c c2 c3 N M K dv i).heap[s.heap.size + 1 + k * (1 + M)]? = some (Jvm.Free.Multi.outerC c2 M (s.heap.size + 1 + k * (1 + M)) M) ∧
    ∀ j, j < M → (vm_fill s c c2 c3 N M K dv i).heap[s.heap.size + 1 + k * (1 + M) + 1 + j]? = some (Jvm.Free.Multi.innerC c3 K dv)
  | 0, _, h => absurd h (Nat.not_lt_zero _)
  | i + 1, k, h => by
    have f1 := (vm_facts s c c2 c3 N M K dv i).1
    have e : ∀ q : Nat, q ≠ s.heap.size → (vm_fill s c c2 c3 N M K dv (i + 1)).heap[q]? = (Jvm.Free.Multi.fill (vm_fill s c c2 c3 N M K dv i) c2 c3 M K dv M).heap[q]? := fun q hq => State.heap_setCell_other (fun z => hq z.symm)
    rcases Nat.lt_or_ge k i with hk | hk
    · have hm : k * (1 + M) + (1 + M) ≤ i * (1 + M) := by rw [← vm_sm]; exact Nat.mul_le_mul_right _ hk
      obtain ⟨h1, h2⟩ := vm_mid s c c2 c3 N M K dv i k hk
      refine ⟨?_, fun j hj => ?_⟩
      · have hlt : s.heap.size + 1 + k * (1 + M) < (vm_fill s c c2 c3 N M K dv i).heap.size := by rw [f1]; omega
        rw [e _ (by omega)]; exact (Jvm.Free.Multi.fill_old (vm_fill s c c2 c3 N M K dv i) c2 c3 M K dv hlt M).trans h1
      · have hlt : s.heap.size + 1 + k * (1 + M) + 1 + j < (vm_fill s c c2 c3 N M K dv i).heap.size := by rw [f1]; omega
        rw [e _ (by omega)]; exact (Jvm.Free.Multi.fill_old (vm_fill s c c2 c3 N M K dv i) c2 c3 M K dv hlt M).trans (h2 j hj)
    · have ek : k = i := by omega
      subst ek
      obtain ⟨_, b2, _, _⟩ := Jvm.Free.Multi.fill_facts (vm_fill s c c2 c3 N M K dv k) c2 c3 M K dv M
      rw [f1] at b2
      refine ⟨?_, fun j hj => ?_⟩
      · rw [e _ (by omega)]; exact b2
      · have := Jvm.Free.Multi.fill_inner (vm_fill s c c2 c3 N M K dv k) c2 c3 M K dv M j hj
        rw [f1] at this
        rw [e _ (by omega)]; exact this
section
variable {E : CtlPost} {e : Env} {d : Bool} {acts : List Action} {s : State}
theorem wp_make3 {c c2 c3 cc : ClassId} {k k2 k3 : Class} {t0 t1 type : FieldType} {n m q : Int32} (hk : s.vm.classes[c]? = some k) (hkind : k.kind = .array c2 t0) (href : t0.isReference = true)
    (hk2 : s.vm.classes[c2]? = some k2) (hkind2 : k2.kind = .array c3 t1) (href2 : t1.isReference = true) (hk3 : s.vm.classes[c3]? = some k3) (hkind3 : k3.kind = .array cc type) (hn : ¬ n < 0) (hm : ¬ m < 0) (hq : ¬ q < 0)
    (hl1 : ¬ n.toNatClampNeg > e.platform.arrayLengthLimit) (hh1 : ¬ n.toNatClampNeg * componentBytes t0 > e.platform.maxHeapBytes)
    (hl2 : ¬ m.toNatClampNeg > e.platform.arrayLengthLimit) (hh2 : ¬ m.toNatClampNeg * componentBytes t1 > e.platform.maxHeapBytes)
    (hl3 : ¬ q.toNatClampNeg > e.platform.arrayLengthLimit) (hh3 : ¬ q.toNatClampNeg * componentBytes type > e.platform.maxHeapBytes)
    (hdf : fits type (defaultValue type) = true) (hdd : (defaultValue type).isDefault = true)
    (hc : s.heap.size + 1 + n.toNatClampNeg * (1 + m.toNatClampNeg) ≤ e.platform.maxCells) (hs : s.slotsUsed + n.toNatClampNeg + n.toNatClampNeg * (m.toNatClampNeg + m.toNatClampNeg * q.toNatClampNeg) ≤ e.platform.maxSlots)
    {Q : Addr → Pre} (hQ : ∀ d' acts', Q s.heap.size d' acts' (vm_fill s c c2 c3 n.toNatClampNeg m.toNatClampNeg q.toNatClampNeg (defaultValue type) n.toNatClampNeg)) :
    wp (Jvm.Op.multianewarray.make c [n, m, q]) Q E e d acts s := by
  have hfind : ([m, q].find? (· < 0)) = none := by simp [hm, hq]
  rw [Jvm.Op.multianewarray.make]
  simp only [Jvm.Sem.wp_bind', W.ite, hn, if_false, Jvm.Sem.wp_pure', W.theClass, hk, hkind, Option.some.injEq, exists_eq_left']
  refine Jvm.Free.Multi.wp_newArray hk hkind hl1 hh1 (Jvm.Free.Multi.refFits href _ (Or.inl rfl)) rfl (by omega) (by have := Nat.zero_le (n.toNatClampNeg * (m.toNatClampNeg + m.toNatClampNeg * q.toNatClampNeg)); omega) ?_
  simp only [hfind]
  rw [ite_self, Jvm.Sem.wp_bind', Std.Legacy.Range.forIn_eq_forIn_range']
  have hsz : ([:n.toNatClampNeg] : Std.Legacy.Range).size = n.toNatClampNeg := by simp [Std.Legacy.Range.size]
  rw [hsz]
  show wp (forIn (List.range' 0 n.toNatClampNeg 1) PUnit.unit _) _ E e d acts _
  refine Jvm.wp_forIn_inv (fun rest s' => ∃ i, i ≤ n.toNatClampNeg ∧ rest = List.range' i (n.toNatClampNeg - i) ∧ s' = vm_fill s c c2 c3 n.toNatClampNeg m.toNatClampNeg q.toNatClampNeg (defaultValue type) i) _ _ ⟨0, Nat.zero_le _, rfl, rfl⟩ ?_ ?_
  · rintro x rest s' d' acts' Q' ⟨i, hi, hl, rfl⟩ hnext
    have hlt : i < n.toNatClampNeg := by
      rcases Nat.lt_or_ge i n.toNatClampNeg with h | h
      · exact h
      · rw [show n.toNatClampNeg - i = 0 from by omega] at hl; simp at hl
    obtain ⟨rfl, hrest⟩ : x = i ∧ rest = List.range' (i + 1) (n.toNatClampNeg - (i + 1)) := by
      rw [show n.toNatClampNeg - i = (n.toNatClampNeg - (i + 1)) + 1 from by omega, List.range'_succ] at hl
      exact ⟨(List.cons.inj hl).1, (List.cons.inj hl).2⟩
    obtain ⟨f1, f2, f3, f4⟩ := vm_facts s c c2 c3 n.toNatClampNeg m.toNatClampNeg q.toNatClampNeg (defaultValue type) x
    obtain ⟨o1, o2, o3⟩ := vm_outer_facts c n.toNatClampNeg s.heap.size (1 + m.toNatClampNeg) x
    have hmul : (x + 1) * (1 + m.toNatClampNeg) ≤ n.toNatClampNeg * (1 + m.toNatClampNeg) := Nat.mul_le_mul_right _ hlt
    have hmul2 : (x + 1) * (m.toNatClampNeg + m.toNatClampNeg * q.toNatClampNeg) ≤ n.toNatClampNeg * (m.toNatClampNeg + m.toNatClampNeg * q.toNatClampNeg) := Nat.mul_le_mul_right _ hlt
    have hs1 := vm_sm x m.toNatClampNeg
    have hs2 : (x + 1) * (m.toNatClampNeg + m.toNatClampNeg * q.toNatClampNeg) = x * (m.toNatClampNeg + m.toNatClampNeg * q.toNatClampNeg) + (m.toNatClampNeg + m.toNatClampNeg * q.toNatClampNeg) := Nat.succ_mul _ _
    simp only [Jvm.Sem.wp_bind']
    refine Jvm.Free.Multi.wp_make2 (by rw [f3]; exact hk2) hkind2 href2 (by rw [f3]; exact hk3) hkind3 hm hq hl2 hh2 hl3 hh3 hdf hdd (by rw [f1]; omega) (by rw [f4]; omega) (fun d'' acts'' => ?_)
    have hlt0 : s.heap.size < (vm_fill s c c2 c3 n.toNatClampNeg m.toNatClampNeg q.toNatClampNeg (defaultValue type) x).heap.size := by rw [f1]; omega
    obtain ⟨_, _, g3, _⟩ := Jvm.Free.Multi.fill_facts (vm_fill s c c2 c3 n.toNatClampNeg m.toNatClampNeg q.toNatClampNeg (defaultValue type) x) c2 c3 m.toNatClampNeg q.toNatClampNeg (defaultValue type) m.toNatClampNeg
    simp only [Jvm.Sem.wp_bind', W.writeLoc, Jvm.Sem.wp_pure']
    refine ⟨vm_outer c n.toNatClampNeg s.heap.size (1 + m.toNatClampNeg) x, by rw [Jvm.Free.Multi.fill_old _ _ _ _ _ _ hlt0]; exact f2, by rw [o2]; simp, by rw [o3]; exact hlt, ?_, hnext _ _ _ ⟨x + 1, hlt, hrest, ?_⟩⟩
    · rw [o1, o2]
      simp [State.fitsSlot, State.slotType?, g3, f3, hk, hkind, Jvm.Free.Multi.refFits href _ (Or.inr ⟨_, rfl⟩)]
    · rw [f1]; rfl
  · rintro s' d' acts' ⟨i, hi, hl, rfl⟩
    have hiN : i = n.toNatClampNeg := by
      rcases Nat.lt_or_ge i n.toNatClampNeg with h | h
      · rw [show n.toNatClampNeg - i = (n.toNatClampNeg - (i + 1)) + 1 from by omega, List.range'_succ] at hl; cases hl
      · omega
    subst hiN
    simp only [Jvm.Sem.wp_pure']
    exact hQ _ _
end
variable {p : Program} {l : Launch} {e : Env} {R : Room} {s : State} {m : MethodId} {args : Array Value} {below : List Frame} {meth : Method} {c : Code} {T : State} {locs : List Loc} {cells slots : Nat}
theorem vm_filled (X : Stand p l e R s m args below meth c T locs cells slots) (c1 c2 c3 : ClassId) (N M K : Nat) (dv : Value) :
    ∀ i, ∃ L : List Loc, (∀ z ∈ L, T.heap.size ≤ z.base) ∧ Stand p l e R s m args below meth c (vm_fill T c1 c2 c3 N M K dv i) (locs ++ L) (cells + 1 + i * (1 + M)) (slots + N + i * (M + M * K))
  | 0 => by
    have h := X.pushed (vm_outer c1 N T.heap.size (1 + M) 0)
    rw [(vm_outer_facts c1 N T.heap.size (1 + M) 0).2.2] at h
    exact ⟨[], (fun z hz => nomatch hz), by simpa [vm_fill] using h⟩
  | i + 1 => by
    obtain ⟨L, hL, Xi⟩ := vm_filled X c1 c2 c3 N M K dv i
    obtain ⟨f1, f2, f3, f4⟩ := vm_facts T c1 c2 c3 N M K dv i
    have hlt0 : T.heap.size < (vm_fill T c1 c2 c3 N M K dv i).heap.size := by rw [f1]; omega
    have hcell : (Jvm.Free.Multi.fill (vm_fill T c1 c2 c3 N M K dv i) c2 c3 M K dv M).heap[T.heap.size]? = some (vm_outer c1 N T.heap.size (1 + M) i) := by rw [Jvm.Free.Multi.fill_old _ _ _ _ _ _ hlt0]; exact f2
    have h := (Xi.filled c2 c3 M K dv M).stored hcell i (.ref (T.heap.size + 1 + i * (1 + M)))
    have e3 : cells + 1 + (i + 1) * (1 + M) = cells + 1 + i * (1 + M) + 1 + M := by rw [Nat.succ_mul]; omega
    have e4 : slots + N + (i + 1) * (M + M * K) = slots + N + i * (M + M * K) + M + M * K := by rw [Nat.succ_mul]; omega
    rw [e3, e4]
    refine ⟨L ++ ((List.range M).map fun j => (⟨(vm_fill T c1 c2 c3 N M K dv i).heap.size, j⟩ : Loc)) ++ [⟨T.heap.size, i⟩], fun z hz => ?_, ?_⟩
    · rcases List.mem_append.mp hz with hz | hz
      · rcases List.mem_append.mp hz with hz | hz
        · exact hL z hz
        · obtain ⟨j, _, rfl⟩ := List.mem_map.mp hz
          exact Nat.le_of_lt hlt0
      · rw [List.mem_singleton.mp hz]
        exact Nat.le_refl _
    · rw [← List.append_assoc, ← List.append_assoc]
      exact h
theorem mna3 (X : Stand p l e R s m args below meth c T locs cells slots) (hexec : p.tables.exec = Jvm.exec) {own : String} {index : Nat}
    (hown : s.vm.findClass own = some m.cls) (hclink : (Cond.classLink own index ("[" ++ (FieldType.array (.array .int)).toString)).before args s = true)
    (hover : (Cond.arrayOver (.array (.array .int))).before args s = true) (hover2 : (Cond.arrayOver (.array .int)).before args s = true) (harr : (Cond.arrayClass .int).before args s = true)
    {g : JFrame} (hg : g.method = m) (hdg : decode c.code g.pc = .ok (.multianewarray index 3, 4)) {n k q : Int32} {rest : List Value} (hstack : g.stack = .int q :: .int k :: .int n :: rest)
    (hn : ¬ n < 0) (hk : ¬ k < 0) (hq : ¬ q < 0) (hb1 : n.toNatClampNeg * 4 ≤ 536870912) (hb2 : k.toNatClampNeg * 4 ≤ 536870912) (hb3 : q.toNatClampNeg * 4 ≤ 536870912)
    (hcells : cells + (1 + n.toNatClampNeg * (1 + k.toNatClampNeg)) ≤ R.cells) (hslots : slots + (n.toNatClampNeg + n.toNatClampNeg * (k.toNatClampNeg + k.toNatClampNeg * q.toNatClampNeg)) ≤ R.slots) :
    ∃ (vm₁ : Vm) (cA cB cC : ClassId) (L : List Loc), s.WarmedH vm₁ ∧ s.vm.findClass ("[" ++ (FieldType.array (.array .int)).toString) = some cA ∧ s.vm.findClass ("[" ++ (FieldType.array .int).toString) = some cB ∧ s.vm.findClass (FieldType.array .int).toString = some cC ∧ (∀ z ∈ L, T.heap.size ≤ z.base) ∧
      Stand p l e R s m args below meth c (vm_fill (T.setVm vm₁) cA cB cC n.toNatClampNeg k.toNatClampNeg q.toNatClampNeg (defaultValue .int) n.toNatClampNeg) (locs ++ L) (cells + 1 + n.toNatClampNeg * (1 + k.toNatClampNeg)) (slots + n.toNatClampNeg + n.toNatClampNeg * (k.toNatClampNeg + k.toNatClampNeg * q.toNatClampNeg)) ∧
      ∀ target, Steps p.tables e below ((vm_fill (T.setVm vm₁) cA cB cC n.toNatClampNeg k.toNatClampNeg q.toNatClampNeg (defaultValue .int) n.toNatClampNeg).setTop { g with pc := g.pc + 4, stack := .ref T.heap.size :: rest }) target →
        Steps p.tables e below (T.setTop g) target := by
  subst hg
  have hpl : e.platform.magicAccessors = ({} : Platform).magicAccessors := by rw [X.admits.platform]
  obtain ⟨cB, cA, kA, hB, hiA, hkA, hkindA, hnameA⟩ := ao_spec hover
  obtain ⟨cC, cB', kB, hC, hiB, hkB, hkindB, hnameB⟩ := ao_spec hover2
  obtain ⟨cC', kC, cc, hC', hkC, hkindC⟩ := Cond.arrayClass_spec harr
  have eB : cB' = cB := by
    have h1 : s.vm.findClass (FieldType.array (.array .int)).toString = some cB' := hnameB
    exact Option.some.inj (h1.symm.trans hB)
  subst eB
  have eC : cC' = cC := Option.some.inj (hC'.symm.trans hC)
  subst eC
  obtain ⟨c0, hfc0, hcl⟩ := Cond.classLink_spec hown hclink e.platform hpl
  cases hnameA.symm.trans hfc0
  obtain ⟨hg₁, hwarm₁, hready₁⟩ := State.classEntry (e := e) X.warmed hcl
  generalize T.vm.noted g.method.cls index (.cls cA) = vm₁ at hg₁ hwarm₁ hready₁
  have hal : s.vm.Alike vm₁ := hwarm₁.alike
  obtain ⟨kA₁, hkA₁, heA⟩ := hal.2.2 _ _ hkA
  obtain ⟨kB₁, hkB₁, heB⟩ := hal.2.2 _ _ hkB
  obtain ⟨kC₁, hkC₁, heC⟩ := hal.2.2 _ _ hkC
  have hkindA₁ : kA₁.kind = .array cB' (.array (.array .int)) := by rw [heA]; exact hkindA
  have hkindB₁ : kB₁.kind = .array cC' (.array .int) := by rw [heB]; exact hkindB
  have hkindC₁ : kC₁.kind = .array cc .int := by rw [heC]; exact hkindC
  have X₁ := X.noted hwarm₁
  obtain ⟨hr1, hr2⟩ := X.roomAbove hcells hslots
  obtain ⟨L, hL, XF⟩ := vm_filled X₁ cA cB' cC' n.toNatClampNeg k.toNatClampNeg q.toNatClampNeg (defaultValue .int) n.toNatClampNeg
  refine ⟨vm₁, cA, cB', cC', L, hwarm₁, hnameA, hnameB, hC, hL, XF, fun target hrest => ?_⟩
  have lim : ∀ z : Nat, z * 4 ≤ 536870912 → ¬ z > e.platform.arrayLengthLimit := fun z hz => by rw [Launch.admits_arrayLengthLimit X.admits]; omega
  have hp : ∀ z : Nat, z * 4 ≤ 536870912 → ¬ z * 4 > e.platform.maxHeapBytes := fun z hz => by rw [Launch.admits_maxHeapBytes X.admits]; omega
  jvm_step X.here [hexec, hdg]
  simp only [Jvm.Op.multianewarray.sem, Jvm.Sem.wp_bind', W.resolveClassAt_links (State.method?_setTop g X.here.top) hg₁]
  rw [W.popN, if_neg (by decide)]
  refine ⟨g, State.topJava?_setTop' (s := T.setVm vm₁) g X.here.top, [.int n, .int k, .int q], rest, rfl, hstack, ?_⟩
  simp only [List.mapM_cons, List.mapM_nil, Jvm.Sem.wp_bind', Jvm.Sem.wp_pure']
  refine wp_make3 (k := kA₁) (k2 := kB₁) (k3 := kC₁) (c2 := cB') (c3 := cC') (cc := cc) (t0 := .array (.array .int)) (t1 := .array .int) (type := .int) hkA₁ hkindA₁ rfl hkB₁ hkindB₁ rfl hkC₁ hkindC₁ hn hk hq (lim _ hb1) (hp _ hb1) (lim _ hb2) (hp _ hb2) (lim _ hb3) (hp _ hb3) rfl rfl
    (by show T.heap.size + 1 + _ ≤ _; omega) (by show T.slotsUsed + _ + _ ≤ _; omega) (fun d' acts' => ?_)
  have eS : ((T.setTop g).setVm vm₁).setTop { g with stack := rest } = (T.setVm vm₁).setTop { g with stack := rest } := by
    show ((T.setVm vm₁).setTop g).setTop _ = _
    rw [State.setTop_setTop]
  rw [eS, vm_setTop]
  simp only [Jvm.Sem.wp_bind', W.mark, W.pushRef, State.topJava?_setTop' _ XF.here.top, Option.some.injEq, exists_eq_left', State.setTop_setTop, State.heap_setTop]
  simp [jvm, XF.here.top]
  exact hrest
end VM3
