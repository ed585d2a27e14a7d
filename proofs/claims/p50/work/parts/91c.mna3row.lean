/-! new int[2][64][8] in the law's world: 131 addresses in a row -/
def fcF (G : fG) (h d : Nat) : va_E := if d = 0 then .inl (G.1.2.1 6, 2, .inr (.inr (.inr (.inr (fun i => if i < 2 then some (h + 1 + i * 65) else none))))) else if (d - 1) % 65 = 0 then .inl (G.1.2.1 4, 64, .inr (.inr (.inr (.inr (fun j => if j < 64 then some (h + d + 1 + j) else none))))) else .inl (G.1.2.1 0, 8, .inl (fun _ => 0))
def fwF (G : fG) (ω : fW) (h : Nat) : fW := fun a => match ω a with
  | some c => some c
  | none => if h ≤ a ∧ a < h + 131 then some (fcF G h (a - h)) else none
theorem fwF_le (G : fG) (ω : fW) (h : Nat) : fle ω (fwF G ω h) := fun a c e => by
  unfold fwF
  rw [e]
theorem fwF_at {G : fG} {ω : fW} {h d : Nat} (hn : ω (h + d) = none) (hd : d < 131) : fwF G ω h (h + d) = some (fcF G h d) := by
  unfold fwF
  rw [hn]
  simp only
  rw [if_pos (by omega), Nat.add_sub_cancel_left]
theorem vm_outer_arr (c : ClassId) (N h0 st : Nat) : ∀ i : Nat, vm_outer c N h0 st i = arrV c N (fun j => va_rf (if j < i then some (h0 + 1 + j * st) else none))
  | 0 => by
    show ({ cls := c, slots := Array.replicate N .null, vm := .none } : Cell) = _
    rw [arrV_new]
    refine congrArg (arrV c N) (funext fun j => ?_)
    simp [va_rf]
  | i + 1 => by
    show (vm_outer c N h0 st i).setSlot i (.ref (h0 + 1 + i * st)) = _
    rw [vm_outer_arr c N h0 st i, arrV_store]
    refine congrArg (arrV c N) (funext fun j => ?_)
    by_cases e : j = i
    · subst e
      simp [updV, va_rf]
    · by_cases h : j < i
      · simp [updV, e, h, Nat.lt_succ_of_lt h]
      · simp [updV, e, h, show ¬ j < i + 1 by omega]
theorem fnm_3 : "[" ++ (FieldType.array (.array .int)).toString = "[[[I" := by decide +kernel
section FM3
variable {G : fG} {l : Launch} {mn : MethodName} {cc : ByteArray} {nL : Nat} {rt : Option FieldType} {dp : Nat} {hh : List (Nat × Nat × Nat × Nat)} {kb : Nat} {Q : Option Value → fS → Prop} {pc : Nat} {ls : List (Nat × Value)} {rest : List Value} {o : Option zS} {ω : fW}
theorem f_mna3 {index kb' : Nat} (hcl : Cond.classLink mn.cls index "[[[I" ∈ zT) (hk : kb' + 131 ≤ kb) (hdg : decode cc pc = .ok (.multianewarray index 3, 4))
    (z : ∀ h : Nat, (∀ d, d < 131 → ω (h + d) = none) → FV G l (mn, cc, nL, rt, dp, hh) kb' Q (pc + 4) ls (.ref h :: rest) (o, fwF G ω h)) : FV G l (mn, cc, nL, rt, dp, hh) kb Q pc ls (.int 8 :: .int 64 :: .int 2 :: rest) (o, ω) := fun z1 p e s m args below meth c R H locs cells slots la C0 hP hS hc0 hs hl => by
  intro T hT X
  obtain ⟨ws, h1, h2, h3⟩ := hP
  have n2 : (2 : Int32).toNatClampNeg = 2 := by decide
  have n64 : (64 : Int32).toNatClampNeg = 64 := by decide
  have n8 : (8 : Int32).toNatClampNeg = 8 := by decide
  obtain ⟨vm₁, cA, cB, cC, L, hw, fA', fB, fC, hL, X', step⟩ := mna3 X C0.1 (own := mn.cls) (index := index) C0.2.2.2.2.1 (by rw [fnm_3]; exact C0.2.2.2.2.2.1 _ hcl) (va_AOA.use (fXs C0).2.1.2.2.2) (va_AOA.use (fXs C0).2.1.2.1) (C0.2.2.2.2.2.1 _ ac_int) (g := F0 m pc la (.int 8 :: .int 64 :: .int 2 :: rest)) rfl (by rw [C0.2.1]; exact hdg) rfl (by decide) (by decide) (by decide) (by decide) (by decide) (by decide) (by rw [n2, n64]; omega) (by rw [n2, n64, n8]; omega)
  rw [n2, n64, n8] at X' step
  have eA : cA = G.1.2.1 6 := Option.some.inj (fA'.symm.trans ((fK C0).2 6 (G.1.2.1 6, .array (.array .int)) rfl).2)
  have eB : cB = G.1.2.1 4 := Option.some.inj (fB.symm.trans ((fK C0).2 4 (G.1.2.1 4, .array .int) rfl).2)
  have eC : cC = G.1.2.1 0 := Option.some.inj (fC.symm.trans ((fK C0).2 0 (G.1.2.1 0, .int) rfl).2)
  subst eA eB eC
  have hTh : (T.setVm vm₁).heap = H := hT
  obtain ⟨k1, k2, -, -⟩ := vm_facts (T.setVm vm₁) (G.1.2.1 6) (G.1.2.1 4) (G.1.2.1 0) 2 64 8 (defaultValue .int) 2
  have kold := fun a (ha : a < (T.setVm vm₁).heap.size) => vm_old (T.setVm vm₁) (G.1.2.1 6) (G.1.2.1 4) (G.1.2.1 0) 2 64 8 (defaultValue .int) ha 2
  have kmid := vm_mid (T.setVm vm₁) (G.1.2.1 6) (G.1.2.1 4) (G.1.2.1 0) 2 64 8 (defaultValue .int) 2
  generalize hF : vm_fill (T.setVm vm₁) (G.1.2.1 6) (G.1.2.1 4) (G.1.2.1 0) 2 64 8 (defaultValue .int) 2 = F at X' step k1 k2 kold kmid
  rw [hTh] at k1 k2 kold kmid
  have hlt : ∀ (k : Nat) (q : Nat × va_E), (fbs G o ++ ws)[k]? = some q → q.1 < H.size := fun k q hk => (h1 k q hk).lt
  have hnone : ∀ d, ω (H.size + d) = none := fun d => by
    cases h : ω (H.size + d) with
    | none => rfl
    | some c =>
      obtain ⟨k, hk1, -⟩ := fP.get (S := (o, ω)) h3 h
      have := hlt _ _ hk1
      simp only at this
      omega
  have hcell : ∀ d, d < 131 → va_at G.1.1 vwCl (H.size + d, fcF G H.size d) F.heap := fun d hd => by
    unfold fcF
    by_cases h0 : d = 0
    · rw [if_pos h0]
      subst h0
      show F.heap[H.size + 0]? = some (vp_cell _ _)
      rw [Nat.add_zero, k2, vm_outer_arr, vp_cell_q]
    · rw [if_neg h0]
      have hk : (d - 1) / 65 < 2 := by omega
      obtain ⟨m1, m2⟩ := kmid ((d - 1) / 65) hk
      by_cases h1 : (d - 1) % 65 = 0
      · rw [if_pos h1]
        show F.heap[H.size + d]? = some (vp_cell _ _)
        rw [show H.size + d = H.size + 1 + (d - 1) / 65 * (1 + 64) by omega, m1, vr_outer, vp_cell_q]
      · rw [if_neg h1]
        show F.heap[H.size + d]? = some (vp_cell _ _)
        have := m2 ((d - 1) % 65 - 1) (by omega)
        rw [show H.size + 1 + (d - 1) / 65 * (1 + 64) + 1 + ((d - 1) % 65 - 1) = H.size + d by omega] at this
        rw [this]
        show some ({ cls := G.1.2.1 0, slots := Array.replicate 8 (.int 0), vm := .none } : Cell) = _
        rw [arrV_new]
        rfl
  have hnew : ∀ (k : Nat) (q : Nat × va_E), ((List.range 131).map (fun d => (H.size + d, fcF G H.size d)))[k]? = some q → k < 131 ∧ q = (H.size + k, fcF G H.size k) := fun k q hk => by
    rw [List.getElem?_map] at hk
    by_cases hk2 : k < 131
    · rw [List.getElem?_range hk2] at hk
      cases hk
      exact ⟨hk2, rfl⟩
    · have : (List.range 131)[k]? = none := List.getElem?_eq_none (by rw [List.length_range]; omega)
      rw [this] at hk
      cases hk
  have hP2 : va_P G.1.1 vwCl ((fbs G o ++ ws) ++ (List.range 131).map (fun d => (H.size + d, fcF G H.size d))) F.heap :=
    va_P.app (h1.kept (fun k q hk => kold q.1 (hlt k q hk))) (fun k q hk => by
      obtain ⟨hk2, rfl⟩ := hnew k q hk
      exact hcell k hk2)
  have hD2 : va_D (fA G) ((fbs G o ++ ws) ++ (List.range 131).map (fun d => (H.size + d, fcF G H.size d))) := by
    refine va_D.app h2 ⟨fun i j x y hi hj hxy => ?_, fun k q hk => ?_⟩ (fun i j x y hi hj hxy => ?_)
    · obtain ⟨_, rfl⟩ := hnew i x hi
      obtain ⟨_, rfl⟩ := hnew j y hj
      simp only at hxy
      omega
    · obtain ⟨_, rfl⟩ := hnew k q hk
      exact fAn C0 _ (Nat.le_trans hS.1 (Nat.le_add_right _ _))
    · obtain ⟨_, rfl⟩ := hnew j y hj
      have := hlt i x hi
      simp only at hxy
      omega
  rw [List.append_assoc] at hP2 hD2
  have hPF : fP G (o, fwF G ω H.size) F.heap := ⟨_, hP2, hD2, fun a c ha => by
    have ha : fwF G ω H.size a = some c := ha
    unfold fwF at ha
    cases hω : ω a with
    | some c' =>
      rw [hω] at ha
      cases ha
      obtain ⟨k, hk⟩ := h3 a c hω
      exact ⟨k, by rw [List.getElem?_append_left (List.getElem?_eq_some_iff.mp hk).1]; exact hk⟩
    | none =>
      rw [hω] at ha
      simp only at ha
      by_cases hr : H.size ≤ a ∧ a < H.size + 131
      · rw [if_pos hr] at ha
        cases ha
        refine ⟨ws.length + (a - H.size), ?_⟩
        rw [List.getElem?_append_right (by omega), Nat.add_sub_cancel_left, List.getElem?_map, List.getElem?_range (by omega)]
        simp only [Option.map_some]
        rw [show H.size + (a - H.size) = a by omega]
      · rw [if_neg hr] at ha
        cases ha⟩
  have hSF : va_S (fA G) s.heap F.heap (locs ++ L) := ⟨by rw [k1]; have := hS.1; omega, fun q q1 q2 => (kold q (Nat.lt_of_lt_of_le q1 hS.1)).trans (hS.2.1 q q1 q2), fun q hq => by
    rcases List.mem_append.mp hq with h | h
    · exact hS.2.2 q h
    · exact fAn C0 _ (Nat.le_trans hS.1 (by have := hL q h; rw [hT] at this; exact this))⟩
  obtain ⟨t, a1, b1⟩ := z H.size (fun d _ => hnone d) z1 p e s m args below meth c R F.heap (locs ++ L) (cells + 1 + 2 * (1 + 64)) (slots + 2 + 2 * (64 + 64 * 8)) la C0 hPF hSF (by omega) (by omega) hl F rfl X'
  refine ⟨t, step t ?_, b1⟩
  have e : T.heap.size = H.size := by rw [hT]
  rw [e]
  exact a1
end FM3
