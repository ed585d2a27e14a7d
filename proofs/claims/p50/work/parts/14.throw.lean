section ZX
variable {g : zG} {l : Launch} {mn : MethodName} {cc : ByteArray} {nL : Nat} {rt : Option FieldType} {dp : Nat} {kb : Nat} {Q : zR → zS → Prop} {pc : Nat} {ls : List (Nat × Value)} {rest : List Value} {σ : zS}
def zNm : List String := ["java/lang/RuntimeException", "java/lang/Exception"]
/-- throw new E("text") -/
theorem e_throw {cls tx : String} {ik is ic i : Nat} (hcls : Bundle.fit cls = true) (hC : cls ∈ zCastL) (hk : Cond.classLink mn.cls ik cls ∈ zT) (hini : Cond.initialized cls ∈ zT) (hi : zStrL[i]? = some (mn.cls, is, tx)) (hat : ∀ w ∈ vx_atS mn.cls ic cls zNm, w ∈ zT ∨ w = Cond.castable cls cls ∨ ∃ q ∈ zDecL, w = Cond.declares q)
    (hgood : ∀ w ∈ Cond.classLink mn.cls ik cls :: Cond.initialized cls :: vx_atS mn.cls ic cls zNm, vx_ot w = true) (hd : 7 ≤ dp) (hkb : 1 ≤ kb) (hW : (rest.map fun v => v.category).sum ≤ 8)
    (d0 : decode cc pc = .ok (.new ik, 3)) (d3 : decode cc (pc + 3) = .ok (.dup, 1)) (d4 : decode cc (pc + 4) = .ok (.ldc is, 2)) (d6 : decode cc (pc + 6) = .ok (.invokespecial ic, 3)) (d9 : decode cc (pc + 9) = .ok (.athrow, 1))
    (z : Q (.inr cls) σ) : EV g l (mn, cc, nL, rt, dp, []) kb Q pc ls rest σ := fun z1 z2 p e s m args below meth c R H locs cells slots la C0 hP hS hc0 hs hl => by
  have hf : dp ≤ R.frames := C0.2.2.2.2.2.2.2.2.1
  have hlo : 40 * dp ≤ R.locals := C0.2.2.2.2.2.2.2.2.2.1
  have hX := C0.2.2.2.2.2.2.2.2.2.2.2.2
  have hout : ∀ x ∈ c.exceptionTable.toList, covers x (pc + 9) = false := fun x hx => by
    rw [C0.2.2.2.2.2.2.2.1] at hx
    cases hx
  refine vx_throwS (names := zNm) C0.1 C0.2.1 z1 C0.2.2.2.2.1 hcls (by decide +kernel) (C0.2.2.2.2.2.1 _ hk) (C0.2.2.2.2.2.1 _ hini) (hX.2.2.2.1 i _ hi) (fun w hw => ?_) hgood hX.2.2.2.2.1 hX.2.2.2.2.2.1 hS (hl.1.trans C0.2.2.2.1.symm) d0 d3 d4 d6 d9 hout (by simp only [zNm, List.length]; omega) (by simp only [zNm, List.length]; omega) (by omega) (by omega) C0.2.2.2.2.2.2.1 (fun t hA hz hq => ?_) hS.2.2 (by omega) (by omega)
  · rcases hat w hw with h | h | ⟨q, h, h'⟩
    · exact C0.2.2.2.2.2.1 _ h
    · rw [h]; exact va_Nw.use rfl (hX.2.1 _ hC)
    · rw [h']; exact va_Nw.use rfl (hX.2.2.2.2.2.2.2.2.2 _ h)
  · exact ⟨⟨σ, z, hP.kept (fun k q hk => hq q.1 (hP k q hk).lt)⟩, ⟨Nat.le_trans hS.1 hz, fun q h1 h2 => (hq q (Nat.lt_of_lt_of_le h1 hS.1)).trans (hS.2.1 q h1 h2)⟩⟩
/-- the same, the text by a wide index -/
theorem e_throwW {cls tx : String} {ik is ic i : Nat} (hcls : Bundle.fit cls = true) (hC : cls ∈ zCastL) (hk : Cond.classLink mn.cls ik cls ∈ zT) (hini : Cond.initialized cls ∈ zT) (hi : zStrL[i]? = some (mn.cls, is, tx)) (hat : ∀ w ∈ vx_atS mn.cls ic cls zNm, w ∈ zT ∨ w = Cond.castable cls cls ∨ ∃ q ∈ zDecL, w = Cond.declares q)
    (hgood : ∀ w ∈ Cond.classLink mn.cls ik cls :: Cond.initialized cls :: vx_atS mn.cls ic cls zNm, vx_ot w = true) (hd : 7 ≤ dp) (hkb : 1 ≤ kb) (hW : (rest.map fun v => v.category).sum ≤ 8)
    (d0 : decode cc pc = .ok (.new ik, 3)) (d3 : decode cc (pc + 3) = .ok (.dup, 1)) (d4 : decode cc (pc + 4) = .ok (.ldc_w is, 3)) (d6 : decode cc (pc + 7) = .ok (.invokespecial ic, 3)) (d9 : decode cc (pc + 10) = .ok (.athrow, 1))
    (z : Q (.inr cls) σ) : EV g l (mn, cc, nL, rt, dp, []) kb Q pc ls rest σ := fun z1 z2 p e s m args below meth c R H locs cells slots la C0 hP hS hc0 hs hl => by
  have hf : dp ≤ R.frames := C0.2.2.2.2.2.2.2.2.1
  have hlo : 40 * dp ≤ R.locals := C0.2.2.2.2.2.2.2.2.2.1
  have hX := C0.2.2.2.2.2.2.2.2.2.2.2.2
  have hout : ∀ x ∈ c.exceptionTable.toList, covers x (pc + 10) = false := fun x hx => by
    rw [C0.2.2.2.2.2.2.2.1] at hx
    cases hx
  refine vx_throwSW (names := zNm) C0.1 C0.2.1 z1 C0.2.2.2.2.1 hcls (by decide +kernel) (C0.2.2.2.2.2.1 _ hk) (C0.2.2.2.2.2.1 _ hini) (hX.2.2.2.1 i _ hi) (fun w hw => ?_) hgood hX.2.2.2.2.1 hX.2.2.2.2.2.1 hS (hl.1.trans C0.2.2.2.1.symm) d0 d3 d4 d6 d9 hout (by simp only [zNm, List.length]; omega) (by simp only [zNm, List.length]; omega) (by omega) (by omega) C0.2.2.2.2.2.2.1 (fun t hA hz hq => ?_) hS.2.2 (by omega) (by omega)
  · rcases hat w hw with h | h | ⟨q, h, h'⟩
    · exact C0.2.2.2.2.2.1 _ h
    · rw [h]; exact va_Nw.use rfl (hX.2.1 _ hC)
    · rw [h']; exact va_Nw.use rfl (hX.2.2.2.2.2.2.2.2.2 _ h)
  · exact ⟨⟨σ, z, hP.kept (fun k q hk => hq q.1 (hP k q hk).lt)⟩, ⟨Nat.le_trans hS.1 hz, fun q h1 h2 => (hq q (Nat.lt_of_lt_of_le h1 hS.1)).trans (hS.2.1 q h1 h2)⟩⟩
end ZX
