/-! the world: every object and array that the two constructors (and the law) make, by number; refs among them never change; what changes are numbers: I (ints by object and place), J (longs), U (double bits) -/
abbrev zK : Type := Option (Nat ⊕ Nat)
abbrev zSh : Type := (Nat × List zK) ⊕ (Nat × Nat)
abbrev zG : Type := va_G × (Nat → ClassId) × (Nat → Nat) × Nat × (Nat → Nat) × (Nat → Nat)
abbrev zS : Type := (Nat → Nat → Int32) × (Nat → Int64) × (Nat → UInt64)
abbrev zM : Type := MethodName × ByteArray × Nat × Option FieldType × Nat × List (Nat × Nat × Nat × Nat)
abbrev zR : Type := (Option Value) ⊕ String
abbrev zad (g : zG) : Nat → Nat := g.2.2.1
def zi : zK := none
def zf (o : Nat) : zK := some (.inl o)
def zj (j : Nat) : zK := some (.inr j)
def zkB (o : Nat) : List zK := [none, none, none, none, none, none, none, some (.inl (o + 1)), some (.inl (o + 2)), some (.inl (o + 3)), some (.inl (o + 4)), some (.inl (o + 5)), some (.inl (o + 6)), some (.inl (o + 7)), some (.inl (o + 8)), some (.inl (o + 9))]
def zk_B : List zK := [zf 1, zf 3, zf 10, zf 73, zf 83, zf 16, zf 18, zf 22, zf 23, zi, zi, zi]
def zk_S : List zK := [zf 2, zi, zi, zi, zi, zi, zi, zi]
def zk_T : List zK := [zf 1, zf 93, zi, zi, zi, zf 4, zf 5, zf 6, zf 7, zf 8, zf 9]
def zk_C : List zK := [zf 1, zi, zf 11, zf 12, zf 13, zf 14, zf 15, zi]
def zk_H : List zK := [zf 17, zi, zi]
def zk_V : List zK := [zf 73, zf 19, zf 20, zf 21]
def zshL : List zSh := [.inl (10, zk_B), .inl (7, zk_S), .inr (1, 600), .inl (8, zk_T), .inr (2, 16), .inr (0, 16), .inr (0, 16), .inr (0, 16), .inr (0, 16), .inr (0, 16),
  .inl (6, zk_C), .inr (0, 30), .inr (2, 30), .inr (4, 30), .inr (0, 30), .inr (0, 2), .inl (5, zk_H), .inr (3, 6), .inl (9, zk_V), .inr (0, 60), .inr (0, 60), .inr (2, 60), .inr (0, 10), .inr (1, 488)]
def zsh (i : Nat) : zSh := if i < 24 then zshL.getD i (.inr (99, 0)) else if i < 43 then .inr (99, 0) else if i < 73 then .inr (0, 4) else if (i - 73) % 10 = 0 then .inl (4, zkB i) else if (i - 73) % 10 ≤ 5 then .inr (0, 10) else .inr (0, 60)
/-- the numbers of the class's objects, and where they stand in the world's list -/
def zV (i : Nat) : Prop := i < 24 ∨ (43 ≤ i ∧ i < 163)
def zid (i : Nat) : Nat := if i < 24 then i else i + 19
def zpo (i : Nat) : Nat := if i < 24 then i else i - 19
theorem zid_V {i : Nat} (h : i < 144) : zV (zid i) := by
  unfold zV zid
  split <;> omega
theorem zpo_id {i : Nat} (h : i < 144) : zpo (zid i) = i := by
  unfold zpo zid
  by_cases h1 : i < 24
  · rw [if_pos h1, if_pos h1]
  · rw [if_neg h1, if_neg (by omega)]; omega
theorem zid_po {i : Nat} (h : zV i) : zid (zpo i) = i := by
  unfold zV at h
  unfold zpo zid
  by_cases h1 : i < 24
  · rw [if_pos h1, if_pos h1]
  · rw [if_neg h1, if_neg (by omega)]; omega
theorem zpo_lt {i : Nat} (h : zV i) : zpo i < 144 := by
  unfold zV at h
  unfold zpo
  split <;> omega
theorem zV_sh {i : Nat} (h : i < 163) (hs : zsh i ≠ .inr (99, 0)) : zV i := by
  unfold zV
  by_cases h1 : i < 24
  · exact Or.inl h1
  · by_cases h2 : i < 43
    · exact absurd (by unfold zsh; rw [if_neg h1, if_pos h2]) hs
    · exact Or.inr ⟨by omega, h⟩
theorem zV_o {i : Nat} {q : Nat × List zK} (h : i < 163) (hs : zsh i = .inl q) : zV i := zV_sh h (by rw [hs]; intro e; cases e)
theorem zV_a {i t n : Nat} (h : i < 163) (hs : zsh i = .inr (t, n)) (ht : t < 9) : zV i := zV_sh h (by rw [hs]; intro e; injection e with e; injection e with e; omega)
/-- what a call of the class may write: its own objects, and what is new -/
def zA (g : zG) : Nat → Prop := fun q => (∃ i, zV i ∧ zad g i = q) ∨ g.2.2.2.1 ≤ q
theorem zA_new {g : zG} {q : Nat} (h : g.2.2.2.1 ≤ q) : zA g q := Or.inr h
def zkv (g : zG) (σ : zS) (o k : Nat) : zK → Value
  | none => .int (σ.1 o k)
  | some (.inl r) => .ref (zad g r)
  | some (.inr j) => .long (σ.2.1 j)
def zfs (g : zG) (σ : zS) (o : Nat) : Nat → List zK → List Value
  | _, [] => []
  | k, x :: r => zkv g σ o k x :: zfs g σ o (k + 1) r
def zarr (g : zG) (σ : zS) (o t n : Nat) : vp_A :=
  if t = 3 then (n, .inr (.inr (.inr (.inr (fun k => some (zad g (103 + 10 * k)))))))
  else if t = 4 then (n, .inr (.inr (.inr (.inr (fun k => some (zad g (43 + k)))))))
  else (n, .inl (σ.1 o))
def zcell (g : zG) (σ : zS) (o : Nat) : va_E := match zsh o with
  | .inl q => .inr (q.1, zfs g σ o 0 q.2)
  | .inr q => .inl (g.2.1 q.1, zarr g σ o q.1 q.2)
def zws (g : zG) (σ : zS) : va_W := (List.range 144).map (fun i => (zad g (zid i), zcell g σ (zid i)))
/-- the ints of one object or array anew -/
def zpt (σ : zS) (o : Nat) (f : Nat → Int32) : zS := (fun a => if a = o then f else σ.1 a, σ.2)
abbrev zup (σ : zS) (o k : Nat) (v : Int32) : zS := zpt σ o (upd (σ.1 o) k v)
abbrev zupJ (σ : zS) (j : Nat) (v : Int64) : zS := (σ.1, vp_updL σ.2.1 j v, σ.2.2)
abbrev zupU (σ : zS) (k : Nat) (v : UInt64) : zS := (σ.1, σ.2.1, vf_upd σ.2.2 k v)
theorem zpt_at (σ : zS) (o : Nat) (f : Nat → Int32) : (zpt σ o f).1 o = f := if_pos rfl
theorem zpt_ne {σ : zS} {o a : Nat} {f : Nat → Int32} (h : a ≠ o) : (zpt σ o f).1 a = σ.1 a := if_neg h
theorem zfs_get {g : zG} {σ : zS} {o : Nat} : ∀ (l : List zK) (b k : Nat) (x : zK), l[k]? = some x → (zfs g σ o b l)[k]? = some (zkv g σ o (b + k) x)
  | [], _, _, _, h => by simp at h
  | y :: r, b, 0, x, h => by
    simp only [List.getElem?_cons_zero, Option.some.injEq] at h
    subst h; rfl
  | y :: r, b, k + 1, x, h => by
    simp only [List.getElem?_cons_succ] at h
    have := zfs_get (g := g) (σ := σ) (o := o) r (b + 1) k x h
    simp only [zfs, List.getElem?_cons_succ]
    rw [this, show b + 1 + k = b + (k + 1) by omega]
theorem zfs_len {g : zG} {σ : zS} {o : Nat} : ∀ (l : List zK) (b : Nat), (zfs g σ o b l).length = l.length
  | [], _ => rfl
  | _ :: r, b => by simp [zfs, zfs_len r (b + 1)]
theorem zfs_congr {g : zG} {σ τ : zS} {o : Nat} (h2 : σ.2 = τ.2) : ∀ (l : List zK) (b : Nat), (∀ j, b ≤ j → σ.1 o j = τ.1 o j) → zfs g σ o b l = zfs g τ o b l
  | [], _, _ => rfl
  | x :: r, b, h => by
    simp only [zfs]
    rw [zfs_congr h2 r (b + 1) (fun j hj => h j (by omega))]
    congr 1
    match x with
    | none => simp [zkv, h b (Nat.le_refl b)]
    | some (.inl _) => rfl
    | some (.inr j) => simp [zkv, h2]
theorem zfs_set {g : zG} {σ : zS} {o : Nat} {v : Int32} : ∀ (l : List zK) (b k : Nat), l[k]? = some none → (zfs g σ o b l).set k (.int v) = zfs g (zup σ o (b + k) v) o b l
  | [], _, _, h => by simp at h
  | y :: r, b, 0, h => by
    simp only [List.getElem?_cons_zero, Option.some.injEq] at h
    subst h
    simp only [zfs, List.set_cons_zero, Nat.add_zero]
    congr 1
    · simp [zkv, zpt_at, upd]
    · refine zfs_congr (g := g) (σ := σ) (τ := zup σ o b v) (o := o) rfl r (b + 1) (fun j hj => ?_)
      rw [zpt_at]; simp [upd, show j ≠ b by omega]
  | y :: r, b, k + 1, h => by
    simp only [List.getElem?_cons_succ] at h
    simp only [zfs, List.set_cons_succ]
    rw [zfs_set r (b + 1) k h, show b + 1 + k = b + (k + 1) by omega]
    congr 1
    match y with
    | none => simp [zkv, zpt_at, upd, show b ≠ b + (k + 1) by omega]
    | some (.inl _) => rfl
    | some (.inr j) => rfl
theorem zcell_congr {g : zG} {σ τ : zS} {o : Nat} (h1 : σ.1 o = τ.1 o) (h2 : σ.2 = τ.2) : zcell g σ o = zcell g τ o := by
  unfold zcell
  cases zsh o with
  | inl q => simp only; rw [zfs_congr h2 q.2 0 (fun j _ => by rw [h1])]
  | inr q => simp only [zarr, h1, h2]
theorem zcell_ne {g : zG} {σ : zS} {o j : Nat} {f : Nat → Int32} (h : j ≠ o) : zcell g (zpt σ o f) j = zcell g σ j := zcell_congr (zpt_ne h) rfl
theorem zws_ix {g : zG} {σ : zS} {i : Nat} (h : i < 144) : (zws g σ)[i]? = some (zad g (zid i), zcell g σ (zid i)) := by
  unfold zws
  rw [List.getElem?_map, List.getElem?_range h]; rfl
theorem zws_at {g : zG} {σ : zS} {i : Nat} (h : zV i) : (zws g σ)[zpo i]? = some (zad g i, zcell g σ i) := by rw [zws_ix (zpo_lt h), zid_po h]
theorem zws_len (g : zG) (σ : zS) : (zws g σ).length = 144 := by simp [zws]
theorem zws_out {g : zG} {σ : zS} {i : Nat} (h : ¬ i < 144) : (zws g σ)[i]? = none := List.getElem?_eq_none (by rw [zws_len]; omega)
theorem zws_put {g : zG} {σ τ : zS} {o : Nat} {c : va_E} (ho : zV o) (hc : zcell g τ o = c) (hne : ∀ j, j ≠ o → zcell g τ j = zcell g σ j) : (zws g σ).set (zpo o) (zad g o, c) = zws g τ := by
  apply List.ext_getElem?
  intro i
  rw [List.getElem?_set, zws_len]
  by_cases h : zpo o = i
  · subst h
    rw [if_pos rfl, if_pos (zpo_lt ho), zws_at ho, hc]
  · rw [if_neg h]
    by_cases hi : i < 144
    · rw [zws_ix hi, zws_ix hi, hne (zid i) (fun q => h (by rw [← q, zpo_id hi]))]
    · rw [zws_out hi, zws_out hi]
theorem zcell_o {g : zG} {σ : zS} {o ci : Nat} {l : List zK} (h : zsh o = .inl (ci, l)) : zcell g σ o = .inr (ci, zfs g σ o 0 l) := by simp [zcell, h]
theorem zcell_a {g : zG} {σ : zS} {o t n : Nat} (h : zsh o = .inr (t, n)) : zcell g σ o = .inl (g.2.1 t, zarr g σ o t n) := by simp [zcell, h]
theorem zarr_i {g : zG} {σ : zS} {o t n : Nat} (h : t < 3) : zarr g σ o t n = (n, .inl (σ.1 o)) := by
  unfold zarr
  rw [if_neg (by omega), if_neg (by omega)]
def zD (g : zG) : Prop := ∀ i j, zV i → zV j → zad g i = zad g j → i = j
theorem zD_va {g : zG} (h : zD g) (σ : zS) : va_D (zA g) (zws g σ) := by
  have key : ∀ (i : Nat) (q : Nat × va_E), (zws g σ)[i]? = some q → i < 144 ∧ q.1 = zad g (zid i) := by
    intro i q hq
    by_cases hi : i < 144
    · rw [zws_ix hi] at hq; cases hq; exact ⟨hi, rfl⟩
    · rw [zws_out hi] at hq; cases hq
  refine ⟨fun i j p q hp hq e => ?_, fun k q hq => ?_⟩
  · obtain ⟨h1, e1⟩ := key i p hp
    obtain ⟨h2, e2⟩ := key j q hq
    have := h (zid i) (zid j) (zid_V h1) (zid_V h2) (by rw [← e1, ← e2, e])
    rw [← zpo_id h1, ← zpo_id h2, this]
  · obtain ⟨h1, e1⟩ := key k q hq
    exact Or.inl ⟨zid k, zid_V h1, e1.symm⟩
def ztys (g : zG) : List (ClassId × FieldType) := [(g.2.1 0, .int), (g.2.1 1, .byte), (g.2.1 2, .boolean), (g.2.1 3, .object "BambooBlind$Blind"), (g.2.1 4, .array .int), (g.2.1 5, .object "java/lang/Object"), (g.2.1 6, .array (.array .int))]
/-! the tables' words that any method may need -/
/-- private methods of AbstractStringBuilder, selected on a StringBuilder -/
def fsel : List Cond := [yJ5_ensureCapacityInternal_d00df, yJ5_newCapacity_0f7a4, yJ5_putStringAt_47b60, yJ5_inflateIfNeededFor_a7421].map (fun y => Cond.selects RJ4 y y)
theorem fsel_good : ∀ w ∈ fsel, goodWord w = true := by decide +kernel
def zT : List Cond := lw_tbl.filter goodWord ++ fsel
theorem zT_in {w : Cond} (i : Nat) (h : lw_tbl[i]? = some w) (hg : goodWord w = true) : w ∈ zT := List.mem_append_left _ (List.mem_filter.mpr ⟨List.mem_of_getElem? h, hg⟩)
theorem zT_good {w : Cond} (h : w ∈ zT) : (w.onTables && w.keeps) = true ∨ ∃ ty, w = .arrayClass ty := (List.mem_append.mp h).elim (fun h => good_of_word (List.mem_filter.mp h).2) (fun h => good_of_word (fsel_good w h))
/-- the words of a callee -/
def zIn (N : zM) (n : Nat) : Prop := Cond.code N.1 N.2.1 N.2.2.1 N.2.2.2.1 ∈ zT ∧ Cond.initialized N.1.cls ∈ zT ∧ (N.1.cls ≠ "java/lang/invoke/MethodHandle" ∧ N.1.cls ≠ "java/lang/invoke/VarHandle") ∧ (parseMethodDescriptor N.1.desc).map (fun d => d.parameters.length) = some n ∧ N.2.2.1 ≤ 21
