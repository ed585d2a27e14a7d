/-! posts by the kind of the answer; calls by it -/
def zQi (K : Int32 → zS → Prop) (X : String → zS → Prop) : zR → zS → Prop := fun r τ => match r with
  | .inl (some (.int v)) => K v τ
  | .inr E => X E τ
  | _ => False
theorem zQi_inl {K : Int32 → zS → Prop} {X : String → zS → Prop} {r : Option Value} {τ : zS} (h : zQi K X (.inl r) τ) : ∃ v : Int32, r = some (.int v) ∧ K v τ := by
  match r, h with
  | some (.int v), h => exact ⟨v, rfl, h⟩
def zQf (K : UInt32 → zS → Prop) (X : String → zS → Prop) : zR → zS → Prop := fun r τ => match r with
  | .inl (some (.float v)) => K v τ
  | .inr E => X E τ
  | _ => False
theorem zQf_inl {K : UInt32 → zS → Prop} {X : String → zS → Prop} {r : Option Value} {τ : zS} (h : zQf K X (.inl r) τ) : ∃ v : UInt32, r = some (.float v) ∧ K v τ := by
  match r, h with
  | some (.float v), h => exact ⟨v, rfl, h⟩
def zQd (K : UInt64 → zS → Prop) (X : String → zS → Prop) : zR → zS → Prop := fun r τ => match r with
  | .inl (some (.double v)) => K v τ
  | .inr E => X E τ
  | _ => False
theorem zQd_inl {K : UInt64 → zS → Prop} {X : String → zS → Prop} {r : Option Value} {τ : zS} (h : zQd K X (.inl r) τ) : ∃ v : UInt64, r = some (.double v) ∧ K v τ := by
  match r, h with
  | some (.double v), h => exact ⟨v, rfl, h⟩
def zQv (K : zS → Prop) (X : String → zS → Prop) : zR → zS → Prop := fun r τ => match r with
  | .inl none => K τ
  | .inr E => X E τ
  | _ => False
theorem zQv_inl {K : zS → Prop} {X : String → zS → Prop} {r : Option Value} {τ : zS} (h : zQv K X (.inl r) τ) : r = none ∧ K τ := by
  match r, h with
  | none, h => exact ⟨rfl, h⟩
section ZP
variable {g : zG}
def zQr (g : zG) (K : Nat → zS → Prop) (X : String → zS → Prop) : zR → zS → Prop := fun r τ => match r with
  | .inl (some (.ref a)) => ∃ v, a = zad g v ∧ K v τ
  | .inr E => X E τ
  | _ => False
theorem zQr_inl {K : Nat → zS → Prop} {X : String → zS → Prop} {r : Option Value} {τ : zS} (h : zQr g K X (.inl r) τ) : ∃ v : Nat, r = some (.ref (zad g v)) ∧ K v τ := by
  match r, h with
  | some (.ref a), h => obtain ⟨v, rfl, h⟩ := h; exact ⟨v, rfl, h⟩
def zQs (g : zG) (K : Nat → zS → Prop) (X : String → zS → Prop) : zR → zS → Prop := fun r τ => match r with
  | .inl (some (.ref a)) => ∃ v, a = g.2.2.2.2.1 v ∧ K v τ
  | .inr E => X E τ
  | _ => False
theorem zQs_inl {K : Nat → zS → Prop} {X : String → zS → Prop} {r : Option Value} {τ : zS} (h : zQs g K X (.inl r) τ) : ∃ v : Nat, r = some (.ref (g.2.2.2.2.1 v)) ∧ K v τ := by
  match r, h with
  | some (.ref a), h => obtain ⟨v, rfl, h⟩ := h; exact ⟨v, rfl, h⟩
theorem e_callSi {l : Launch} {mn : MethodName} {cc : ByteArray} {nL : Nat} {rt : Option FieldType} {dp : Nat} {kb : Nat} {Q : zR → zS → Prop} {pc : Nat} {ls : List (Nat × Value)} {rest : List Value} {σ : zS} {N : zM} {j1 j2 n idx : Nat} {av : List Value} {K : Int32 → zS → Prop} {X : String → zS → Prop} {st : List Value} (hst : st = av.reverse ++ rest) (hct : CT g l N j1 av σ (zQi K X)) (hi : zIn N n) (hn : av.length = n) (hstat : Cond.static N.1 ∈ zT) (hlink : Cond.methodLink mn.cls idx N.1 ∈ zT) (hd : N.2.2.2.2.1 + 1 ≤ dp) (hj : j1 + j2 ≤ kb) (hW : (rest.map fun v => v.category).sum ≤ 8) (hdg : decode cc pc = .ok (.invokestatic idx, 3))
    (kk : ∀ (v : Int32) (τ : zS), K v τ → EV g l (mn, cc, nL, rt, dp, []) j2 Q (pc + 3) ls (.int v :: rest) τ) (kx : ∀ (E : String) (τ : zS), X E τ → Q (.inr E) τ) : EV g l (mn, cc, nL, rt, dp, []) kb Q pc ls st σ :=
  e_callS hst hct hi hn hstat hlink hd hj hW hdg (fun r τ h => by
    obtain ⟨v, e, h'⟩ := zQi_inl h; subst e; exact kk v τ h') (fun E τ h => kx E τ h)
theorem e_callSf {l : Launch} {mn : MethodName} {cc : ByteArray} {nL : Nat} {rt : Option FieldType} {dp : Nat} {kb : Nat} {Q : zR → zS → Prop} {pc : Nat} {ls : List (Nat × Value)} {rest : List Value} {σ : zS} {N : zM} {j1 j2 n idx : Nat} {av : List Value} {K : UInt32 → zS → Prop} {X : String → zS → Prop} {st : List Value} (hst : st = av.reverse ++ rest) (hct : CT g l N j1 av σ (zQf K X)) (hi : zIn N n) (hn : av.length = n) (hstat : Cond.static N.1 ∈ zT) (hlink : Cond.methodLink mn.cls idx N.1 ∈ zT) (hd : N.2.2.2.2.1 + 1 ≤ dp) (hj : j1 + j2 ≤ kb) (hW : (rest.map fun v => v.category).sum ≤ 8) (hdg : decode cc pc = .ok (.invokestatic idx, 3))
    (kk : ∀ (v : UInt32) (τ : zS), K v τ → EV g l (mn, cc, nL, rt, dp, []) j2 Q (pc + 3) ls (.float v :: rest) τ) (kx : ∀ (E : String) (τ : zS), X E τ → Q (.inr E) τ) : EV g l (mn, cc, nL, rt, dp, []) kb Q pc ls st σ :=
  e_callS hst hct hi hn hstat hlink hd hj hW hdg (fun r τ h => by
    obtain ⟨v, e, h'⟩ := zQf_inl h; subst e; exact kk v τ h') (fun E τ h => kx E τ h)
theorem e_callSd {l : Launch} {mn : MethodName} {cc : ByteArray} {nL : Nat} {rt : Option FieldType} {dp : Nat} {kb : Nat} {Q : zR → zS → Prop} {pc : Nat} {ls : List (Nat × Value)} {rest : List Value} {σ : zS} {N : zM} {j1 j2 n idx : Nat} {av : List Value} {K : UInt64 → zS → Prop} {X : String → zS → Prop} {st : List Value} (hst : st = av.reverse ++ rest) (hct : CT g l N j1 av σ (zQd K X)) (hi : zIn N n) (hn : av.length = n) (hstat : Cond.static N.1 ∈ zT) (hlink : Cond.methodLink mn.cls idx N.1 ∈ zT) (hd : N.2.2.2.2.1 + 1 ≤ dp) (hj : j1 + j2 ≤ kb) (hW : (rest.map fun v => v.category).sum ≤ 8) (hdg : decode cc pc = .ok (.invokestatic idx, 3))
    (kk : ∀ (v : UInt64) (τ : zS), K v τ → EV g l (mn, cc, nL, rt, dp, []) j2 Q (pc + 3) ls (.double v :: rest) τ) (kx : ∀ (E : String) (τ : zS), X E τ → Q (.inr E) τ) : EV g l (mn, cc, nL, rt, dp, []) kb Q pc ls st σ :=
  e_callS hst hct hi hn hstat hlink hd hj hW hdg (fun r τ h => by
    obtain ⟨v, e, h'⟩ := zQd_inl h; subst e; exact kk v τ h') (fun E τ h => kx E τ h)
theorem e_callSv {l : Launch} {mn : MethodName} {cc : ByteArray} {nL : Nat} {rt : Option FieldType} {dp : Nat} {kb : Nat} {Q : zR → zS → Prop} {pc : Nat} {ls : List (Nat × Value)} {rest : List Value} {σ : zS} {N : zM} {j1 j2 n idx : Nat} {av : List Value} {K : zS → Prop} {X : String → zS → Prop} {st : List Value} (hst : st = av.reverse ++ rest) (hct : CT g l N j1 av σ (zQv K X)) (hi : zIn N n) (hn : av.length = n) (hstat : Cond.static N.1 ∈ zT) (hlink : Cond.methodLink mn.cls idx N.1 ∈ zT) (hd : N.2.2.2.2.1 + 1 ≤ dp) (hj : j1 + j2 ≤ kb) (hW : (rest.map fun v => v.category).sum ≤ 8) (hdg : decode cc pc = .ok (.invokestatic idx, 3))
    (kk : ∀ τ : zS, K τ → EV g l (mn, cc, nL, rt, dp, []) j2 Q (pc + 3) ls (rest) τ) (kx : ∀ (E : String) (τ : zS), X E τ → Q (.inr E) τ) : EV g l (mn, cc, nL, rt, dp, []) kb Q pc ls st σ :=
  e_callS hst hct hi hn hstat hlink hd hj hW hdg (fun r τ h => by
    obtain ⟨rfl, h⟩ := zQv_inl h; exact kk τ h) (fun E τ h => kx E τ h)
theorem e_callSr {l : Launch} {mn : MethodName} {cc : ByteArray} {nL : Nat} {rt : Option FieldType} {dp : Nat} {kb : Nat} {Q : zR → zS → Prop} {pc : Nat} {ls : List (Nat × Value)} {rest : List Value} {σ : zS} {N : zM} {j1 j2 n idx : Nat} {av : List Value} {K : Nat → zS → Prop} {X : String → zS → Prop} {st : List Value} (hst : st = av.reverse ++ rest) (hct : CT g l N j1 av σ (zQr g K X)) (hi : zIn N n) (hn : av.length = n) (hstat : Cond.static N.1 ∈ zT) (hlink : Cond.methodLink mn.cls idx N.1 ∈ zT) (hd : N.2.2.2.2.1 + 1 ≤ dp) (hj : j1 + j2 ≤ kb) (hW : (rest.map fun v => v.category).sum ≤ 8) (hdg : decode cc pc = .ok (.invokestatic idx, 3))
    (kk : ∀ (v : Nat) (τ : zS), K v τ → EV g l (mn, cc, nL, rt, dp, []) j2 Q (pc + 3) ls (.ref (zad g v) :: rest) τ) (kx : ∀ (E : String) (τ : zS), X E τ → Q (.inr E) τ) : EV g l (mn, cc, nL, rt, dp, []) kb Q pc ls st σ :=
  e_callS hst hct hi hn hstat hlink hd hj hW hdg (fun r τ h => by
    obtain ⟨v, e, h'⟩ := zQr_inl h; subst e; exact kk v τ h') (fun E τ h => kx E τ h)
theorem e_callSs {l : Launch} {mn : MethodName} {cc : ByteArray} {nL : Nat} {rt : Option FieldType} {dp : Nat} {kb : Nat} {Q : zR → zS → Prop} {pc : Nat} {ls : List (Nat × Value)} {rest : List Value} {σ : zS} {N : zM} {j1 j2 n idx : Nat} {av : List Value} {K : Nat → zS → Prop} {X : String → zS → Prop} {st : List Value} (hst : st = av.reverse ++ rest) (hct : CT g l N j1 av σ (zQs g K X)) (hi : zIn N n) (hn : av.length = n) (hstat : Cond.static N.1 ∈ zT) (hlink : Cond.methodLink mn.cls idx N.1 ∈ zT) (hd : N.2.2.2.2.1 + 1 ≤ dp) (hj : j1 + j2 ≤ kb) (hW : (rest.map fun v => v.category).sum ≤ 8) (hdg : decode cc pc = .ok (.invokestatic idx, 3))
    (kk : ∀ (v : Nat) (τ : zS), K v τ → EV g l (mn, cc, nL, rt, dp, []) j2 Q (pc + 3) ls (.ref (g.2.2.2.2.1 v) :: rest) τ) (kx : ∀ (E : String) (τ : zS), X E τ → Q (.inr E) τ) : EV g l (mn, cc, nL, rt, dp, []) kb Q pc ls st σ :=
  e_callS hst hct hi hn hstat hlink hd hj hW hdg (fun r τ h => by
    obtain ⟨v, e, h'⟩ := zQs_inl h; subst e; exact kk v τ h') (fun E τ h => kx E τ h)
theorem e_callSNi {l : Launch} {mn : MethodName} {cc : ByteArray} {nL : Nat} {rt : Option FieldType} {dp : Nat} {kb : Nat} {Q : zR → zS → Prop} {pc : Nat} {ls : List (Nat × Value)} {rest : List Value} {σ : zS} {N : zM} {j1 j2 n idx : Nat} {host : String} {av : List Value} {K : Int32 → zS → Prop} {X : String → zS → Prop} {st : List Value} (hst : st = av.reverse ++ rest) (hct : CT g l N j1 av σ (zQi K X)) (hi : zIn N n) (hn : av.length = n) (hstat : Cond.static N.1 ∈ zT) (hlink : (mn.cls, idx, N.1, host) ∈ zNestL) (hd : N.2.2.2.2.1 + 1 ≤ dp) (hj : j1 + j2 ≤ kb) (hW : (rest.map fun v => v.category).sum ≤ 8) (hdg : decode cc pc = .ok (.invokestatic idx, 3))
    (kk : ∀ (v : Int32) (τ : zS), K v τ → EV g l (mn, cc, nL, rt, dp, []) j2 Q (pc + 3) ls (.int v :: rest) τ) (kx : ∀ (E : String) (τ : zS), X E τ → Q (.inr E) τ) : EV g l (mn, cc, nL, rt, dp, []) kb Q pc ls st σ :=
  e_callSN hst hct hi hn hstat hlink hd hj hW hdg (fun r τ h => by
    obtain ⟨v, e, h'⟩ := zQi_inl h; subst e; exact kk v τ h') (fun E τ h => kx E τ h)
theorem e_callSNf {l : Launch} {mn : MethodName} {cc : ByteArray} {nL : Nat} {rt : Option FieldType} {dp : Nat} {kb : Nat} {Q : zR → zS → Prop} {pc : Nat} {ls : List (Nat × Value)} {rest : List Value} {σ : zS} {N : zM} {j1 j2 n idx : Nat} {host : String} {av : List Value} {K : UInt32 → zS → Prop} {X : String → zS → Prop} {st : List Value} (hst : st = av.reverse ++ rest) (hct : CT g l N j1 av σ (zQf K X)) (hi : zIn N n) (hn : av.length = n) (hstat : Cond.static N.1 ∈ zT) (hlink : (mn.cls, idx, N.1, host) ∈ zNestL) (hd : N.2.2.2.2.1 + 1 ≤ dp) (hj : j1 + j2 ≤ kb) (hW : (rest.map fun v => v.category).sum ≤ 8) (hdg : decode cc pc = .ok (.invokestatic idx, 3))
    (kk : ∀ (v : UInt32) (τ : zS), K v τ → EV g l (mn, cc, nL, rt, dp, []) j2 Q (pc + 3) ls (.float v :: rest) τ) (kx : ∀ (E : String) (τ : zS), X E τ → Q (.inr E) τ) : EV g l (mn, cc, nL, rt, dp, []) kb Q pc ls st σ :=
  e_callSN hst hct hi hn hstat hlink hd hj hW hdg (fun r τ h => by
    obtain ⟨v, e, h'⟩ := zQf_inl h; subst e; exact kk v τ h') (fun E τ h => kx E τ h)
theorem e_callSNd {l : Launch} {mn : MethodName} {cc : ByteArray} {nL : Nat} {rt : Option FieldType} {dp : Nat} {kb : Nat} {Q : zR → zS → Prop} {pc : Nat} {ls : List (Nat × Value)} {rest : List Value} {σ : zS} {N : zM} {j1 j2 n idx : Nat} {host : String} {av : List Value} {K : UInt64 → zS → Prop} {X : String → zS → Prop} {st : List Value} (hst : st = av.reverse ++ rest) (hct : CT g l N j1 av σ (zQd K X)) (hi : zIn N n) (hn : av.length = n) (hstat : Cond.static N.1 ∈ zT) (hlink : (mn.cls, idx, N.1, host) ∈ zNestL) (hd : N.2.2.2.2.1 + 1 ≤ dp) (hj : j1 + j2 ≤ kb) (hW : (rest.map fun v => v.category).sum ≤ 8) (hdg : decode cc pc = .ok (.invokestatic idx, 3))
    (kk : ∀ (v : UInt64) (τ : zS), K v τ → EV g l (mn, cc, nL, rt, dp, []) j2 Q (pc + 3) ls (.double v :: rest) τ) (kx : ∀ (E : String) (τ : zS), X E τ → Q (.inr E) τ) : EV g l (mn, cc, nL, rt, dp, []) kb Q pc ls st σ :=
  e_callSN hst hct hi hn hstat hlink hd hj hW hdg (fun r τ h => by
    obtain ⟨v, e, h'⟩ := zQd_inl h; subst e; exact kk v τ h') (fun E τ h => kx E τ h)
theorem e_callSNv {l : Launch} {mn : MethodName} {cc : ByteArray} {nL : Nat} {rt : Option FieldType} {dp : Nat} {kb : Nat} {Q : zR → zS → Prop} {pc : Nat} {ls : List (Nat × Value)} {rest : List Value} {σ : zS} {N : zM} {j1 j2 n idx : Nat} {host : String} {av : List Value} {K : zS → Prop} {X : String → zS → Prop} {st : List Value} (hst : st = av.reverse ++ rest) (hct : CT g l N j1 av σ (zQv K X)) (hi : zIn N n) (hn : av.length = n) (hstat : Cond.static N.1 ∈ zT) (hlink : (mn.cls, idx, N.1, host) ∈ zNestL) (hd : N.2.2.2.2.1 + 1 ≤ dp) (hj : j1 + j2 ≤ kb) (hW : (rest.map fun v => v.category).sum ≤ 8) (hdg : decode cc pc = .ok (.invokestatic idx, 3))
    (kk : ∀ τ : zS, K τ → EV g l (mn, cc, nL, rt, dp, []) j2 Q (pc + 3) ls (rest) τ) (kx : ∀ (E : String) (τ : zS), X E τ → Q (.inr E) τ) : EV g l (mn, cc, nL, rt, dp, []) kb Q pc ls st σ :=
  e_callSN hst hct hi hn hstat hlink hd hj hW hdg (fun r τ h => by
    obtain ⟨rfl, h⟩ := zQv_inl h; exact kk τ h) (fun E τ h => kx E τ h)
theorem e_callSNr {l : Launch} {mn : MethodName} {cc : ByteArray} {nL : Nat} {rt : Option FieldType} {dp : Nat} {kb : Nat} {Q : zR → zS → Prop} {pc : Nat} {ls : List (Nat × Value)} {rest : List Value} {σ : zS} {N : zM} {j1 j2 n idx : Nat} {host : String} {av : List Value} {K : Nat → zS → Prop} {X : String → zS → Prop} {st : List Value} (hst : st = av.reverse ++ rest) (hct : CT g l N j1 av σ (zQr g K X)) (hi : zIn N n) (hn : av.length = n) (hstat : Cond.static N.1 ∈ zT) (hlink : (mn.cls, idx, N.1, host) ∈ zNestL) (hd : N.2.2.2.2.1 + 1 ≤ dp) (hj : j1 + j2 ≤ kb) (hW : (rest.map fun v => v.category).sum ≤ 8) (hdg : decode cc pc = .ok (.invokestatic idx, 3))
    (kk : ∀ (v : Nat) (τ : zS), K v τ → EV g l (mn, cc, nL, rt, dp, []) j2 Q (pc + 3) ls (.ref (zad g v) :: rest) τ) (kx : ∀ (E : String) (τ : zS), X E τ → Q (.inr E) τ) : EV g l (mn, cc, nL, rt, dp, []) kb Q pc ls st σ :=
  e_callSN hst hct hi hn hstat hlink hd hj hW hdg (fun r τ h => by
    obtain ⟨v, e, h'⟩ := zQr_inl h; subst e; exact kk v τ h') (fun E τ h => kx E τ h)
theorem e_callSNs {l : Launch} {mn : MethodName} {cc : ByteArray} {nL : Nat} {rt : Option FieldType} {dp : Nat} {kb : Nat} {Q : zR → zS → Prop} {pc : Nat} {ls : List (Nat × Value)} {rest : List Value} {σ : zS} {N : zM} {j1 j2 n idx : Nat} {host : String} {av : List Value} {K : Nat → zS → Prop} {X : String → zS → Prop} {st : List Value} (hst : st = av.reverse ++ rest) (hct : CT g l N j1 av σ (zQs g K X)) (hi : zIn N n) (hn : av.length = n) (hstat : Cond.static N.1 ∈ zT) (hlink : (mn.cls, idx, N.1, host) ∈ zNestL) (hd : N.2.2.2.2.1 + 1 ≤ dp) (hj : j1 + j2 ≤ kb) (hW : (rest.map fun v => v.category).sum ≤ 8) (hdg : decode cc pc = .ok (.invokestatic idx, 3))
    (kk : ∀ (v : Nat) (τ : zS), K v τ → EV g l (mn, cc, nL, rt, dp, []) j2 Q (pc + 3) ls (.ref (g.2.2.2.2.1 v) :: rest) τ) (kx : ∀ (E : String) (τ : zS), X E τ → Q (.inr E) τ) : EV g l (mn, cc, nL, rt, dp, []) kb Q pc ls st σ :=
  e_callSN hst hct hi hn hstat hlink hd hj hW hdg (fun r τ h => by
    obtain ⟨v, e, h'⟩ := zQs_inl h; subst e; exact kk v τ h') (fun E τ h => kx E τ h)
theorem e_callVi {l : Launch} {mn : MethodName} {cc : ByteArray} {nL : Nat} {rt : Option FieldType} {dp : Nat} {kb : Nat} {Q : zR → zS → Prop} {pc : Nat} {ls : List (Nat × Value)} {rest : List Value} {σ : zS} {N : zM} {j1 j2 n idx : Nat} {o ci : Nat} {sl : List zK} {q : vw_C} {av : List Value} {K : Int32 → zS → Prop} {X : String → zS → Prop} {st : List Value} (hst : st = av.reverse ++ .ref (zad g o) :: rest) (hsh : zsh o = .inl (ci, sl)) (ho : o < 163) (hcl : vwCl[ci]? = some q) (hq : q.1 = N.1.cls) (hct : CT g l N j1 (.ref (zad g o) :: av) σ (zQi K X)) (hi : zIn N n) (hn : av.length = n) (hinst : Cond.instanceMethod N.1 ∈ zT) (hsel : Cond.selects N.1.cls N.1 N.1 ∈ zT) (hlink : Cond.methodLink mn.cls idx N.1 ∈ zT) (hd : N.2.2.2.2.1 + 1 ≤ dp) (hj : j1 + j2 ≤ kb) (hW : (rest.map fun v => v.category).sum ≤ 8) (hdg : decode cc pc = .ok (.invokevirtual idx, 3))
    (kk : ∀ (v : Int32) (τ : zS), K v τ → EV g l (mn, cc, nL, rt, dp, []) j2 Q (pc + 3) ls (.int v :: rest) τ) (kx : ∀ (E : String) (τ : zS), X E τ → Q (.inr E) τ) : EV g l (mn, cc, nL, rt, dp, []) kb Q pc ls st σ :=
  e_callV hst hsh ho hcl hq hct hi hn hinst hsel hlink hd hj hW hdg (fun r τ h => by
    obtain ⟨v, e, h'⟩ := zQi_inl h; subst e; exact kk v τ h') (fun E τ h => kx E τ h)
theorem e_callVf {l : Launch} {mn : MethodName} {cc : ByteArray} {nL : Nat} {rt : Option FieldType} {dp : Nat} {kb : Nat} {Q : zR → zS → Prop} {pc : Nat} {ls : List (Nat × Value)} {rest : List Value} {σ : zS} {N : zM} {j1 j2 n idx : Nat} {o ci : Nat} {sl : List zK} {q : vw_C} {av : List Value} {K : UInt32 → zS → Prop} {X : String → zS → Prop} {st : List Value} (hst : st = av.reverse ++ .ref (zad g o) :: rest) (hsh : zsh o = .inl (ci, sl)) (ho : o < 163) (hcl : vwCl[ci]? = some q) (hq : q.1 = N.1.cls) (hct : CT g l N j1 (.ref (zad g o) :: av) σ (zQf K X)) (hi : zIn N n) (hn : av.length = n) (hinst : Cond.instanceMethod N.1 ∈ zT) (hsel : Cond.selects N.1.cls N.1 N.1 ∈ zT) (hlink : Cond.methodLink mn.cls idx N.1 ∈ zT) (hd : N.2.2.2.2.1 + 1 ≤ dp) (hj : j1 + j2 ≤ kb) (hW : (rest.map fun v => v.category).sum ≤ 8) (hdg : decode cc pc = .ok (.invokevirtual idx, 3))
    (kk : ∀ (v : UInt32) (τ : zS), K v τ → EV g l (mn, cc, nL, rt, dp, []) j2 Q (pc + 3) ls (.float v :: rest) τ) (kx : ∀ (E : String) (τ : zS), X E τ → Q (.inr E) τ) : EV g l (mn, cc, nL, rt, dp, []) kb Q pc ls st σ :=
  e_callV hst hsh ho hcl hq hct hi hn hinst hsel hlink hd hj hW hdg (fun r τ h => by
    obtain ⟨v, e, h'⟩ := zQf_inl h; subst e; exact kk v τ h') (fun E τ h => kx E τ h)
theorem e_callVd {l : Launch} {mn : MethodName} {cc : ByteArray} {nL : Nat} {rt : Option FieldType} {dp : Nat} {kb : Nat} {Q : zR → zS → Prop} {pc : Nat} {ls : List (Nat × Value)} {rest : List Value} {σ : zS} {N : zM} {j1 j2 n idx : Nat} {o ci : Nat} {sl : List zK} {q : vw_C} {av : List Value} {K : UInt64 → zS → Prop} {X : String → zS → Prop} {st : List Value} (hst : st = av.reverse ++ .ref (zad g o) :: rest) (hsh : zsh o = .inl (ci, sl)) (ho : o < 163) (hcl : vwCl[ci]? = some q) (hq : q.1 = N.1.cls) (hct : CT g l N j1 (.ref (zad g o) :: av) σ (zQd K X)) (hi : zIn N n) (hn : av.length = n) (hinst : Cond.instanceMethod N.1 ∈ zT) (hsel : Cond.selects N.1.cls N.1 N.1 ∈ zT) (hlink : Cond.methodLink mn.cls idx N.1 ∈ zT) (hd : N.2.2.2.2.1 + 1 ≤ dp) (hj : j1 + j2 ≤ kb) (hW : (rest.map fun v => v.category).sum ≤ 8) (hdg : decode cc pc = .ok (.invokevirtual idx, 3))
    (kk : ∀ (v : UInt64) (τ : zS), K v τ → EV g l (mn, cc, nL, rt, dp, []) j2 Q (pc + 3) ls (.double v :: rest) τ) (kx : ∀ (E : String) (τ : zS), X E τ → Q (.inr E) τ) : EV g l (mn, cc, nL, rt, dp, []) kb Q pc ls st σ :=
  e_callV hst hsh ho hcl hq hct hi hn hinst hsel hlink hd hj hW hdg (fun r τ h => by
    obtain ⟨v, e, h'⟩ := zQd_inl h; subst e; exact kk v τ h') (fun E τ h => kx E τ h)
theorem e_callVv {l : Launch} {mn : MethodName} {cc : ByteArray} {nL : Nat} {rt : Option FieldType} {dp : Nat} {kb : Nat} {Q : zR → zS → Prop} {pc : Nat} {ls : List (Nat × Value)} {rest : List Value} {σ : zS} {N : zM} {j1 j2 n idx : Nat} {o ci : Nat} {sl : List zK} {q : vw_C} {av : List Value} {K : zS → Prop} {X : String → zS → Prop} {st : List Value} (hst : st = av.reverse ++ .ref (zad g o) :: rest) (hsh : zsh o = .inl (ci, sl)) (ho : o < 163) (hcl : vwCl[ci]? = some q) (hq : q.1 = N.1.cls) (hct : CT g l N j1 (.ref (zad g o) :: av) σ (zQv K X)) (hi : zIn N n) (hn : av.length = n) (hinst : Cond.instanceMethod N.1 ∈ zT) (hsel : Cond.selects N.1.cls N.1 N.1 ∈ zT) (hlink : Cond.methodLink mn.cls idx N.1 ∈ zT) (hd : N.2.2.2.2.1 + 1 ≤ dp) (hj : j1 + j2 ≤ kb) (hW : (rest.map fun v => v.category).sum ≤ 8) (hdg : decode cc pc = .ok (.invokevirtual idx, 3))
    (kk : ∀ τ : zS, K τ → EV g l (mn, cc, nL, rt, dp, []) j2 Q (pc + 3) ls (rest) τ) (kx : ∀ (E : String) (τ : zS), X E τ → Q (.inr E) τ) : EV g l (mn, cc, nL, rt, dp, []) kb Q pc ls st σ :=
  e_callV hst hsh ho hcl hq hct hi hn hinst hsel hlink hd hj hW hdg (fun r τ h => by
    obtain ⟨rfl, h⟩ := zQv_inl h; exact kk τ h) (fun E τ h => kx E τ h)
theorem e_callVr {l : Launch} {mn : MethodName} {cc : ByteArray} {nL : Nat} {rt : Option FieldType} {dp : Nat} {kb : Nat} {Q : zR → zS → Prop} {pc : Nat} {ls : List (Nat × Value)} {rest : List Value} {σ : zS} {N : zM} {j1 j2 n idx : Nat} {o ci : Nat} {sl : List zK} {q : vw_C} {av : List Value} {K : Nat → zS → Prop} {X : String → zS → Prop} {st : List Value} (hst : st = av.reverse ++ .ref (zad g o) :: rest) (hsh : zsh o = .inl (ci, sl)) (ho : o < 163) (hcl : vwCl[ci]? = some q) (hq : q.1 = N.1.cls) (hct : CT g l N j1 (.ref (zad g o) :: av) σ (zQr g K X)) (hi : zIn N n) (hn : av.length = n) (hinst : Cond.instanceMethod N.1 ∈ zT) (hsel : Cond.selects N.1.cls N.1 N.1 ∈ zT) (hlink : Cond.methodLink mn.cls idx N.1 ∈ zT) (hd : N.2.2.2.2.1 + 1 ≤ dp) (hj : j1 + j2 ≤ kb) (hW : (rest.map fun v => v.category).sum ≤ 8) (hdg : decode cc pc = .ok (.invokevirtual idx, 3))
    (kk : ∀ (v : Nat) (τ : zS), K v τ → EV g l (mn, cc, nL, rt, dp, []) j2 Q (pc + 3) ls (.ref (zad g v) :: rest) τ) (kx : ∀ (E : String) (τ : zS), X E τ → Q (.inr E) τ) : EV g l (mn, cc, nL, rt, dp, []) kb Q pc ls st σ :=
  e_callV hst hsh ho hcl hq hct hi hn hinst hsel hlink hd hj hW hdg (fun r τ h => by
    obtain ⟨v, e, h'⟩ := zQr_inl h; subst e; exact kk v τ h') (fun E τ h => kx E τ h)
theorem e_callVs {l : Launch} {mn : MethodName} {cc : ByteArray} {nL : Nat} {rt : Option FieldType} {dp : Nat} {kb : Nat} {Q : zR → zS → Prop} {pc : Nat} {ls : List (Nat × Value)} {rest : List Value} {σ : zS} {N : zM} {j1 j2 n idx : Nat} {o ci : Nat} {sl : List zK} {q : vw_C} {av : List Value} {K : Nat → zS → Prop} {X : String → zS → Prop} {st : List Value} (hst : st = av.reverse ++ .ref (zad g o) :: rest) (hsh : zsh o = .inl (ci, sl)) (ho : o < 163) (hcl : vwCl[ci]? = some q) (hq : q.1 = N.1.cls) (hct : CT g l N j1 (.ref (zad g o) :: av) σ (zQs g K X)) (hi : zIn N n) (hn : av.length = n) (hinst : Cond.instanceMethod N.1 ∈ zT) (hsel : Cond.selects N.1.cls N.1 N.1 ∈ zT) (hlink : Cond.methodLink mn.cls idx N.1 ∈ zT) (hd : N.2.2.2.2.1 + 1 ≤ dp) (hj : j1 + j2 ≤ kb) (hW : (rest.map fun v => v.category).sum ≤ 8) (hdg : decode cc pc = .ok (.invokevirtual idx, 3))
    (kk : ∀ (v : Nat) (τ : zS), K v τ → EV g l (mn, cc, nL, rt, dp, []) j2 Q (pc + 3) ls (.ref (g.2.2.2.2.1 v) :: rest) τ) (kx : ∀ (E : String) (τ : zS), X E τ → Q (.inr E) τ) : EV g l (mn, cc, nL, rt, dp, []) kb Q pc ls st σ :=
  e_callV hst hsh ho hcl hq hct hi hn hinst hsel hlink hd hj hW hdg (fun r τ h => by
    obtain ⟨v, e, h'⟩ := zQs_inl h; subst e; exact kk v τ h') (fun E τ h => kx E τ h)
end ZP
def zB (o : Nat) : Prop := zsh o = .inl (4, zkB o) ∧ o + 9 < 163 ∧ (∀ j, 1 ≤ j → j ≤ 5 → zsh (o + j) = .inr (0, 10)) ∧ (∀ j, 6 ≤ j → j ≤ 9 → zsh (o + j) = .inr (0, 60))
theorem zB_s0 {o : Nat} (h : zB o) : zsh o = .inl (4, zkB o) := h.1
theorem zB_l0 {o : Nat} (h : zB o) : o < 163 := by have := h.2.1; omega
theorem zB_s1 {o : Nat} (h : zB o) : zsh (o + 1) = .inr (0, 10) := h.2.2.1 1 (by omega) (by omega)
theorem zB_l1 {o : Nat} (h : zB o) : o + 1 < 163 := by have := h.2.1; omega
theorem zB_s2 {o : Nat} (h : zB o) : zsh (o + 2) = .inr (0, 10) := h.2.2.1 2 (by omega) (by omega)
theorem zB_l2 {o : Nat} (h : zB o) : o + 2 < 163 := by have := h.2.1; omega
theorem zB_s3 {o : Nat} (h : zB o) : zsh (o + 3) = .inr (0, 10) := h.2.2.1 3 (by omega) (by omega)
theorem zB_l3 {o : Nat} (h : zB o) : o + 3 < 163 := by have := h.2.1; omega
theorem zB_s4 {o : Nat} (h : zB o) : zsh (o + 4) = .inr (0, 10) := h.2.2.1 4 (by omega) (by omega)
theorem zB_l4 {o : Nat} (h : zB o) : o + 4 < 163 := by have := h.2.1; omega
theorem zB_s5 {o : Nat} (h : zB o) : zsh (o + 5) = .inr (0, 10) := h.2.2.1 5 (by omega) (by omega)
theorem zB_l5 {o : Nat} (h : zB o) : o + 5 < 163 := by have := h.2.1; omega
theorem zB_s6 {o : Nat} (h : zB o) : zsh (o + 6) = .inr (0, 60) := h.2.2.2 6 (by omega) (by omega)
theorem zB_l6 {o : Nat} (h : zB o) : o + 6 < 163 := by have := h.2.1; omega
theorem zB_s7 {o : Nat} (h : zB o) : zsh (o + 7) = .inr (0, 60) := h.2.2.2 7 (by omega) (by omega)
theorem zB_l7 {o : Nat} (h : zB o) : o + 7 < 163 := by have := h.2.1; omega
theorem zB_s8 {o : Nat} (h : zB o) : zsh (o + 8) = .inr (0, 60) := h.2.2.2 8 (by omega) (by omega)
theorem zB_l8 {o : Nat} (h : zB o) : o + 8 < 163 := by have := h.2.1; omega
theorem zB_s9 {o : Nat} (h : zB o) : zsh (o + 9) = .inr (0, 60) := h.2.2.2 9 (by omega) (by omega)
theorem zB_l9 {o : Nat} (h : zB o) : o + 9 < 163 := by have := h.2.1; omega
theorem zB_at {b : Nat} (hb : b < 9) : zB (73 + 10 * b) := by
  have h1 : ∀ b : Nat, b < 9 → zsh (73 + 10 * b) = .inl (4, zkB (73 + 10 * b)) := by
    intro b hb
    unfold zsh
    rw [if_neg (by omega), if_neg (by omega), if_neg (by omega), if_pos (by omega)]
  refine ⟨h1 b hb, by omega, fun j h h' => ?_, fun j h h' => ?_⟩
  · unfold zsh
    rw [if_neg (by omega), if_neg (by omega), if_neg (by omega), if_neg (by omega), if_pos (by omega)]
  · unfold zsh
    rw [if_neg (by omega), if_neg (by omega), if_neg (by omega), if_neg (by omega), if_neg (by omega)]
theorem zB_73 : zB 73 := zB_at (b := 0) (by omega)
theorem zB_83 : zB 83 := zB_at (b := 1) (by omega)
theorem zB_93 : zB 93 := zB_at (b := 2) (by omega)
theorem zB_k {i : Int32} (h : vp_in i 6) : zB (103 + 10 * Int32.toNatClampNeg i) := by
  have h1 : i.toNatClampNeg < 6 := Nat.not_le.mp fun q => h (Or.inr q)
  have := zB_at (b := 3 + i.toNatClampNeg) (by omega)
  rw [show 73 + 10 * (3 + i.toNatClampNeg) = 103 + 10 * i.toNatClampNeg by omega] at this
  exact this
theorem zN_s {i : Int32} (h : vp_in i 30) : zsh (43 + Int32.toNatClampNeg i) = .inr (0, 4) := by
  have h1 : i.toNatClampNeg < 30 := Nat.not_le.mp fun q => h (Or.inr q)
  unfold zsh
  rw [if_neg (by omega), if_neg (by omega), if_pos (by omega)]
theorem zN_l {i : Int32} (h : vp_in i 30) : 43 + Int32.toNatClampNeg i < 163 := by
  have h1 : i.toNatClampNeg < 30 := Nat.not_le.mp fun q => h (Or.inr q)
  omega
abbrev zushr (x y : Int32) : Int32 := (x.toUInt32 >>> (y.toUInt32 &&& Int32.toUInt32 31)).toInt32
abbrev zi2b (x : Int32) : Int32 := x.toInt8.toInt32
abbrev zi2c (x : Int32) : Int32 := (x.toUInt32 % 65536).toInt32
abbrev zmax (x y : Int32) : Int32 := if x < y then y else x
abbrev zmin (x y : Int32) : Int32 := if y < x then y else x
abbrev zabs (x : Int32) : Int32 := if 0 ≤ x then x else 0 - x
theorem zsw (N : Nat) (x : Int32) (hN : N ≤ 100) : (x.toInt < 0 ∨ (N : Int) - 1 < x.toInt) ∨ ∃ k : Nat, k < N ∧ x = nI k := by
  by_cases h : x.toInt < 0
  · exact Or.inl (Or.inl h)
  · by_cases h2 : (N : Int) - 1 < x.toInt
    · exact Or.inl (Or.inr h2)
    · refine Or.inr ⟨x.toInt.toNat, by omega, ?_⟩
      apply Int32.toInt_inj.mp
      rw [nI_toInt (by omega)]
      omega
theorem nl_X5_79 : (RX5, 79, yX6_unlikeRows, "BambooBlind") ∈ zNestL := by decide +kernel
theorem nl_X0_94 : (RX0, 94, yX6_unlikeRows, "BambooBlind") ∈ zNestL := by decide +kernel
theorem nl_X4_132 : (RX4, 132, yX6_toSide, "BambooBlind") ∈ zNestL := by decide +kernel
theorem nl_X4_158 : (RX4, 158, yX6_withColour, "BambooBlind") ∈ zNestL := by decide +kernel
theorem nl_X0_119 : (RX0, 119, yX6_colourIn, "BambooBlind") ∈ zNestL := by decide +kernel
theorem nl_X0_122 : (RX0, 122, yX6_withColour, "BambooBlind") ∈ zNestL := by decide +kernel
theorem nl_X5_63 : (RX5, 63, yX6_colourIn, "BambooBlind") ∈ zNestL := by decide +kernel
theorem nl_X5_90 : (RX5, 90, yX6_unlikeBits, "BambooBlind") ∈ zNestL := by decide +kernel
theorem thb_X6_74 : ∀ w ∈ vx_atS RX6 74 "java/lang/IllegalStateException" zNm, (w ∈ lw_tbl ∧ goodWord w = true) ∨ w = Cond.castable "java/lang/IllegalStateException" "java/lang/IllegalStateException" ∨ ∃ q ∈ zDecL, w = Cond.declares q := by decide +kernel
theorem tha_X6_74 : ∀ w ∈ vx_atS RX6 74 "java/lang/IllegalStateException" zNm, w ∈ zT ∨ w = Cond.castable "java/lang/IllegalStateException" "java/lang/IllegalStateException" ∨ ∃ q ∈ zDecL, w = Cond.declares q := fun w h => (thb_X6_74 w h).imp (fun h => List.mem_append_left _ (List.mem_filter.mpr h)) id
theorem thg_X6_70_74 : ∀ w ∈ Cond.classLink RX6 70 "java/lang/IllegalStateException" :: Cond.initialized "java/lang/IllegalStateException" :: vx_atS RX6 74 "java/lang/IllegalStateException" zNm, vx_ot w = true := by decide +kernel
theorem thb_X6_85 : ∀ w ∈ vx_atS RX6 85 "java/lang/IllegalArgumentException" zNm, (w ∈ lw_tbl ∧ goodWord w = true) ∨ w = Cond.castable "java/lang/IllegalArgumentException" "java/lang/IllegalArgumentException" ∨ ∃ q ∈ zDecL, w = Cond.declares q := by decide +kernel
theorem tha_X6_85 : ∀ w ∈ vx_atS RX6 85 "java/lang/IllegalArgumentException" zNm, w ∈ zT ∨ w = Cond.castable "java/lang/IllegalArgumentException" "java/lang/IllegalArgumentException" ∨ ∃ q ∈ zDecL, w = Cond.declares q := fun w h => (thb_X6_85 w h).imp (fun h => List.mem_append_left _ (List.mem_filter.mpr h)) id
theorem thg_X6_81_85 : ∀ w ∈ Cond.classLink RX6 81 "java/lang/IllegalArgumentException" :: Cond.initialized "java/lang/IllegalArgumentException" :: vx_atS RX6 85 "java/lang/IllegalArgumentException" zNm, vx_ot w = true := by decide +kernel
theorem thb_X6_369 : ∀ w ∈ vx_atS RX6 369 "java/lang/IndexOutOfBoundsException" zNm, (w ∈ lw_tbl ∧ goodWord w = true) ∨ w = Cond.castable "java/lang/IndexOutOfBoundsException" "java/lang/IndexOutOfBoundsException" ∨ ∃ q ∈ zDecL, w = Cond.declares q := by decide +kernel
theorem tha_X6_369 : ∀ w ∈ vx_atS RX6 369 "java/lang/IndexOutOfBoundsException" zNm, w ∈ zT ∨ w = Cond.castable "java/lang/IndexOutOfBoundsException" "java/lang/IndexOutOfBoundsException" ∨ ∃ q ∈ zDecL, w = Cond.declares q := fun w h => (thb_X6_369 w h).imp (fun h => List.mem_append_left _ (List.mem_filter.mpr h)) id
theorem thg_X6_365_369 : ∀ w ∈ Cond.classLink RX6 365 "java/lang/IndexOutOfBoundsException" :: Cond.initialized "java/lang/IndexOutOfBoundsException" :: vx_atS RX6 369 "java/lang/IndexOutOfBoundsException" zNm, vx_ot w = true := by decide +kernel
