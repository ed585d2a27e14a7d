/-! what the law's entry gives of the start -/
section ZFa
variable {args : Array Value} {s : State} {A : Nat → Prop}
abbrev pre0 : Cond := Jvm.Cond.and given_1 narrow_1
theorem pf (hgv : pre0.before args s = true) {w : Cond} (k : Nat) (h : (flatC pre0)[k]? = some w) : w.before args s = true := flat_of_before _ hgv _ (List.mem_of_getElem? h)
theorem sx_0 (hgv : pre0.before args s = true) (hA : ∀ a : Nat, a < s.heap.size → ¬ A a) : ∃ adK adV : Nat → Nat, vk_S 1 [4] [[104, 105, 103, 104]] adK adV A s s.heap ∧ ∀ i : Nat, i < 1 → (Term.string "BambooBlind$TextReader" 74).eval args s none [] s = some (.ref (adK i)) := by
  have hel : ∀ j, j < 4 → (flatC pre0)[241 + j]? = some (Cond.eq (.elem (.field (.string "BambooBlind$TextReader" 74) "java/lang/String" "value" "[B") (.int (Int32.ofNat j))) (.int (([104, 105, 103, 104] : List Int32).getD j 0))) := by decide +kernel
  refine vk_Sof (tm := fun _ => (.string "BambooBlind$TextReader" 74)) (fun i hi => ?_) (fun i hi => ?_) (fun i hi => ?_) (fun i hi => ?_) (fun i hi => ?_) (fun i hi j hj => ?_) (fun i j hi hj e => absurd (by omega) e) hA
  all_goals obtain rfl : i = 0 := by omega
  · decide
  · exact pf hgv 237 (by decide +kernel)
  · exact pf hgv 238 (by decide +kernel)
  · exact pf hgv 239 (by decide +kernel)
  · exact pf hgv 240 (by decide +kernel)
  · exact pf hgv _ (hel j hj)
theorem sx_1 (hgv : pre0.before args s = true) (hA : ∀ a : Nat, a < s.heap.size → ¬ A a) : ∃ adK adV : Nat → Nat, vk_S 1 [4] [[115, 108, 97, 116]] adK adV A s s.heap ∧ ∀ i : Nat, i < 1 → (Term.string "BambooBlind$TextReader" 83).eval args s none [] s = some (.ref (adK i)) := by
  have hel : ∀ j, j < 4 → (flatC pre0)[249 + j]? = some (Cond.eq (.elem (.field (.string "BambooBlind$TextReader" 83) "java/lang/String" "value" "[B") (.int (Int32.ofNat j))) (.int (([115, 108, 97, 116] : List Int32).getD j 0))) := by decide +kernel
  refine vk_Sof (tm := fun _ => (.string "BambooBlind$TextReader" 83)) (fun i hi => ?_) (fun i hi => ?_) (fun i hi => ?_) (fun i hi => ?_) (fun i hi => ?_) (fun i hi j hj => ?_) (fun i j hi hj e => absurd (by omega) e) hA
  all_goals obtain rfl : i = 0 := by omega
  · decide
  · exact pf hgv 245 (by decide +kernel)
  · exact pf hgv 246 (by decide +kernel)
  · exact pf hgv 247 (by decide +kernel)
  · exact pf hgv 248 (by decide +kernel)
  · exact pf hgv _ (hel j hj)
theorem sx_2 (hgv : pre0.before args s = true) (hA : ∀ a : Nat, a < s.heap.size → ¬ A a) : ∃ adK adV : Nat → Nat, vk_S 1 [3] [[98, 111, 120]] adK adV A s s.heap ∧ ∀ i : Nat, i < 1 → (Term.string "BambooBlind$TextReader" 88).eval args s none [] s = some (.ref (adK i)) := by
  have hel : ∀ j, j < 3 → (flatC pre0)[274 + j]? = some (Cond.eq (.elem (.field (.string "BambooBlind$TextReader" 88) "java/lang/String" "value" "[B") (.int (Int32.ofNat j))) (.int (([98, 111, 120] : List Int32).getD j 0))) := by decide +kernel
  refine vk_Sof (tm := fun _ => (.string "BambooBlind$TextReader" 88)) (fun i hi => ?_) (fun i hi => ?_) (fun i hi => ?_) (fun i hi => ?_) (fun i hi => ?_) (fun i hi j hj => ?_) (fun i j hi hj e => absurd (by omega) e) hA
  all_goals obtain rfl : i = 0 := by omega
  · decide
  · exact pf hgv 270 (by decide +kernel)
  · exact pf hgv 271 (by decide +kernel)
  · exact pf hgv 272 (by decide +kernel)
  · exact pf hgv 273 (by decide +kernel)
  · exact pf hgv _ (hel j hj)
theorem sx_3 (hgv : pre0.before args s = true) (hA : ∀ a : Nat, a < s.heap.size → ¬ A a) : ∃ adK adV : Nat → Nat, vk_S 1 [5] [[99, 111, 97, 116, 115]] adK adV A s s.heap ∧ ∀ i : Nat, i < 1 → (Term.string "BambooBlind$TextReader" 93).eval args s none [] s = some (.ref (adK i)) := by
  have hel : ∀ j, j < 5 → (flatC pre0)[281 + j]? = some (Cond.eq (.elem (.field (.string "BambooBlind$TextReader" 93) "java/lang/String" "value" "[B") (.int (Int32.ofNat j))) (.int (([99, 111, 97, 116, 115] : List Int32).getD j 0))) := by decide +kernel
  refine vk_Sof (tm := fun _ => (.string "BambooBlind$TextReader" 93)) (fun i hi => ?_) (fun i hi => ?_) (fun i hi => ?_) (fun i hi => ?_) (fun i hi => ?_) (fun i hi j hj => ?_) (fun i j hi hj e => absurd (by omega) e) hA
  all_goals obtain rfl : i = 0 := by omega
  · decide
  · exact pf hgv 277 (by decide +kernel)
  · exact pf hgv 278 (by decide +kernel)
  · exact pf hgv 279 (by decide +kernel)
  · exact pf hgv 280 (by decide +kernel)
  · exact pf hgv _ (hel j hj)
theorem sx_4 (hgv : pre0.before args s = true) (hA : ∀ a : Nat, a < s.heap.size → ¬ A a) : ∃ adK adV : Nat → Nat, vk_S 1 [5] [[114, 105, 103, 104, 116]] adK adV A s s.heap ∧ ∀ i : Nat, i < 1 → (Term.string "BambooBlind$Source" 67).eval args s none [] s = some (.ref (adK i)) := by
  have hel : ∀ j, j < 5 → (flatC pre0)[257 + j]? = some (Cond.eq (.elem (.field (.string "BambooBlind$Source" 67) "java/lang/String" "value" "[B") (.int (Int32.ofNat j))) (.int (([114, 105, 103, 104, 116] : List Int32).getD j 0))) := by decide +kernel
  refine vk_Sof (tm := fun _ => (.string "BambooBlind$Source" 67)) (fun i hi => ?_) (fun i hi => ?_) (fun i hi => ?_) (fun i hi => ?_) (fun i hi => ?_) (fun i hi j hj => ?_) (fun i j hi hj e => absurd (by omega) e) hA
  all_goals obtain rfl : i = 0 := by omega
  · decide
  · exact pf hgv 253 (by decide +kernel)
  · exact pf hgv 254 (by decide +kernel)
  · exact pf hgv 255 (by decide +kernel)
  · exact pf hgv 256 (by decide +kernel)
  · exact pf hgv _ (hel j hj)
theorem sx_5 (hgv : pre0.before args s = true) (hA : ∀ a : Nat, a < s.heap.size → ¬ A a) : ∃ adK adV : Nat → Nat, vk_S 1 [4] [[108, 101, 102, 116]] adK adV A s s.heap ∧ ∀ i : Nat, i < 1 → (Term.string "BambooBlind$Source" 73).eval args s none [] s = some (.ref (adK i)) := by
  have hel : ∀ j, j < 4 → (flatC pre0)[266 + j]? = some (Cond.eq (.elem (.field (.string "BambooBlind$Source" 73) "java/lang/String" "value" "[B") (.int (Int32.ofNat j))) (.int (([108, 101, 102, 116] : List Int32).getD j 0))) := by decide +kernel
  refine vk_Sof (tm := fun _ => (.string "BambooBlind$Source" 73)) (fun i hi => ?_) (fun i hi => ?_) (fun i hi => ?_) (fun i hi => ?_) (fun i hi => ?_) (fun i hi j hj => ?_) (fun i j hi hj e => absurd (by omega) e) hA
  all_goals obtain rfl : i = 0 := by omega
  · decide
  · exact pf hgv 262 (by decide +kernel)
  · exact pf hgv 263 (by decide +kernel)
  · exact pf hgv 264 (by decide +kernel)
  · exact pf hgv 265 (by decide +kernel)
  · exact pf hgv _ (hel j hj)
theorem sx_6 (hgv : pre0.before args s = true) (hA : ∀ a : Nat, a < s.heap.size → ¬ A a) : ∃ adK adV : Nat → Nat, vk_S 1 [0] [[]] adK adV A s s.heap ∧ ∀ i : Nat, i < 1 → (Term.string "BambooBlindLaw$World" 31).eval args s none [] s = some (.ref (adK i)) := by
  have hel : ∀ j, j < 0 → (flatC pre0)[315 + j]? = some (Cond.eq (.elem (.field (.string "BambooBlindLaw$World" 31) "java/lang/String" "value" "[B") (.int (Int32.ofNat j))) (.int (([] : List Int32).getD j 0))) := by decide +kernel
  refine vk_Sof (tm := fun _ => (.string "BambooBlindLaw$World" 31)) (fun i hi => ?_) (fun i hi => ?_) (fun i hi => ?_) (fun i hi => ?_) (fun i hi => ?_) (fun i hi j hj => ?_) (fun i j hi hj e => absurd (by omega) e) hA
  all_goals obtain rfl : i = 0 := by omega
  · decide
  · exact pf hgv 311 (by decide +kernel)
  · exact pf hgv 312 (by decide +kernel)
  · exact pf hgv 313 (by decide +kernel)
  · exact pf hgv 314 (by decide +kernel)
  · exact pf hgv _ (hel j hj)
theorem sx_7 (hgv : pre0.before args s = true) (hA : ∀ a : Nat, a < s.heap.size → ¬ A a) : ∃ adK adV : Nat → Nat, vk_S 1 [5] [[104, 105, 103, 104, 32]] adK adV A s s.heap ∧ ∀ i : Nat, i < 1 → (Term.string "BambooBlindLaw$World" 47).eval args s none [] s = some (.ref (adK i)) := by
  have hel : ∀ j, j < 5 → (flatC pre0)[319 + j]? = some (Cond.eq (.elem (.field (.string "BambooBlindLaw$World" 47) "java/lang/String" "value" "[B") (.int (Int32.ofNat j))) (.int (([104, 105, 103, 104, 32] : List Int32).getD j 0))) := by decide +kernel
  refine vk_Sof (tm := fun _ => (.string "BambooBlindLaw$World" 47)) (fun i hi => ?_) (fun i hi => ?_) (fun i hi => ?_) (fun i hi => ?_) (fun i hi => ?_) (fun i hi j hj => ?_) (fun i j hi hj e => absurd (by omega) e) hA
  all_goals obtain rfl : i = 0 := by omega
  · decide
  · exact pf hgv 315 (by decide +kernel)
  · exact pf hgv 316 (by decide +kernel)
  · exact pf hgv 317 (by decide +kernel)
  · exact pf hgv 318 (by decide +kernel)
  · exact pf hgv _ (hel j hj)
theorem sx_8 (hgv : pre0.before args s = true) (hA : ∀ a : Nat, a < s.heap.size → ¬ A a) : ∃ adK adV : Nat → Nat, vk_S 1 [1] [[59]] adK adV A s s.heap ∧ ∀ i : Nat, i < 1 → (Term.string "BambooBlindLaw$World" 56).eval args s none [] s = some (.ref (adK i)) := by
  have hel : ∀ j, j < 1 → (flatC pre0)[328 + j]? = some (Cond.eq (.elem (.field (.string "BambooBlindLaw$World" 56) "java/lang/String" "value" "[B") (.int (Int32.ofNat j))) (.int (([59] : List Int32).getD j 0))) := by decide +kernel
  refine vk_Sof (tm := fun _ => (.string "BambooBlindLaw$World" 56)) (fun i hi => ?_) (fun i hi => ?_) (fun i hi => ?_) (fun i hi => ?_) (fun i hi => ?_) (fun i hi j hj => ?_) (fun i j hi hj e => absurd (by omega) e) hA
  all_goals obtain rfl : i = 0 := by omega
  · decide
  · exact pf hgv 324 (by decide +kernel)
  · exact pf hgv 325 (by decide +kernel)
  · exact pf hgv 326 (by decide +kernel)
  · exact pf hgv 327 (by decide +kernel)
  · exact pf hgv _ (hel j hj)
theorem sx_9 (hgv : pre0.before args s = true) (hA : ∀ a : Nat, a < s.heap.size → ¬ A a) : ∃ adK adV : Nat → Nat, vk_S 1 [5] [[115, 108, 97, 116, 32]] adK adV A s s.heap ∧ ∀ i : Nat, i < 1 → (Term.string "BambooBlindLaw$World" 64).eval args s none [] s = some (.ref (adK i)) := by
  have hel : ∀ j, j < 5 → (flatC pre0)[333 + j]? = some (Cond.eq (.elem (.field (.string "BambooBlindLaw$World" 64) "java/lang/String" "value" "[B") (.int (Int32.ofNat j))) (.int (([115, 108, 97, 116, 32] : List Int32).getD j 0))) := by decide +kernel
  refine vk_Sof (tm := fun _ => (.string "BambooBlindLaw$World" 64)) (fun i hi => ?_) (fun i hi => ?_) (fun i hi => ?_) (fun i hi => ?_) (fun i hi => ?_) (fun i hi j hj => ?_) (fun i j hi hj e => absurd (by omega) e) hA
  all_goals obtain rfl : i = 0 := by omega
  · decide
  · exact pf hgv 329 (by decide +kernel)
  · exact pf hgv 330 (by decide +kernel)
  · exact pf hgv 331 (by decide +kernel)
  · exact pf hgv 332 (by decide +kernel)
  · exact pf hgv _ (hel j hj)
theorem sx_10 (hgv : pre0.before args s = true) (hA : ∀ a : Nat, a < s.heap.size → ¬ A a) : ∃ adK adV : Nat → Nat, vk_S 1 [6] [[32, 108, 101, 102, 116, 32]] adK adV A s s.heap ∧ ∀ i : Nat, i < 1 → (Term.string "BambooBlindLaw" 43).eval args s none [] s = some (.ref (adK i)) := by
  have hel : ∀ j, j < 6 → (flatC pre0)[342 + j]? = some (Cond.eq (.elem (.field (.string "BambooBlindLaw" 43) "java/lang/String" "value" "[B") (.int (Int32.ofNat j))) (.int (([32, 108, 101, 102, 116, 32] : List Int32).getD j 0))) := by decide +kernel
  refine vk_Sof (tm := fun _ => (.string "BambooBlindLaw" 43)) (fun i hi => ?_) (fun i hi => ?_) (fun i hi => ?_) (fun i hi => ?_) (fun i hi => ?_) (fun i hi j hj => ?_) (fun i j hi hj e => absurd (by omega) e) hA
  all_goals obtain rfl : i = 0 := by omega
  · decide
  · exact pf hgv 338 (by decide +kernel)
  · exact pf hgv 339 (by decide +kernel)
  · exact pf hgv 340 (by decide +kernel)
  · exact pf hgv 341 (by decide +kernel)
  · exact pf hgv _ (hel j hj)
theorem sx_11 (hgv : pre0.before args s = true) (hA : ∀ a : Nat, a < s.heap.size → ¬ A a) : ∃ adK adV : Nat → Nat, vk_S 1 [7] [[32, 114, 105, 103, 104, 116, 32]] adK adV A s s.heap ∧ ∀ i : Nat, i < 1 → (Term.string "BambooBlindLaw" 45).eval args s none [] s = some (.ref (adK i)) := by
  have hel : ∀ j, j < 7 → (flatC pre0)[352 + j]? = some (Cond.eq (.elem (.field (.string "BambooBlindLaw" 45) "java/lang/String" "value" "[B") (.int (Int32.ofNat j))) (.int (([32, 114, 105, 103, 104, 116, 32] : List Int32).getD j 0))) := by decide +kernel
  refine vk_Sof (tm := fun _ => (.string "BambooBlindLaw" 45)) (fun i hi => ?_) (fun i hi => ?_) (fun i hi => ?_) (fun i hi => ?_) (fun i hi => ?_) (fun i hi j hj => ?_) (fun i j hi hj e => absurd (by omega) e) hA
  all_goals obtain rfl : i = 0 := by omega
  · decide
  · exact pf hgv 348 (by decide +kernel)
  · exact pf hgv 349 (by decide +kernel)
  · exact pf hgv 350 (by decide +kernel)
  · exact pf hgv 351 (by decide +kernel)
  · exact pf hgv _ (hel j hj)
theorem sx_12 (hgv : pre0.before args s = true) (hA : ∀ a : Nat, a < s.heap.size → ¬ A a) : ∃ adK adV : Nat → Nat, vk_S 1 [3] [[32, 59, 10]] adK adV A s s.heap ∧ ∀ i : Nat, i < 1 → (Term.string "BambooBlindLaw$World" 76).eval args s none [] s = some (.ref (adK i)) := by
  have hel : ∀ j, j < 3 → (flatC pre0)[363 + j]? = some (Cond.eq (.elem (.field (.string "BambooBlindLaw$World" 76) "java/lang/String" "value" "[B") (.int (Int32.ofNat j))) (.int (([32, 59, 10] : List Int32).getD j 0))) := by decide +kernel
  refine vk_Sof (tm := fun _ => (.string "BambooBlindLaw$World" 76)) (fun i hi => ?_) (fun i hi => ?_) (fun i hi => ?_) (fun i hi => ?_) (fun i hi => ?_) (fun i hi j hj => ?_) (fun i j hi hj e => absurd (by omega) e) hA
  all_goals obtain rfl : i = 0 := by omega
  · decide
  · exact pf hgv 359 (by decide +kernel)
  · exact pf hgv 360 (by decide +kernel)
  · exact pf hgv 361 (by decide +kernel)
  · exact pf hgv 362 (by decide +kernel)
  · exact pf hgv _ (hel j hj)
theorem sx_13 (hgv : pre0.before args s = true) (hA : ∀ a : Nat, a < s.heap.size → ¬ A a) : ∃ adK adV : Nat → Nat, vk_S 1 [4] [[98, 111, 120, 32]] adK adV A s s.heap ∧ ∀ i : Nat, i < 1 → (Term.string "BambooBlindLaw$World" 78).eval args s none [] s = some (.ref (adK i)) := by
  have hel : ∀ j, j < 4 → (flatC pre0)[370 + j]? = some (Cond.eq (.elem (.field (.string "BambooBlindLaw$World" 78) "java/lang/String" "value" "[B") (.int (Int32.ofNat j))) (.int (([98, 111, 120, 32] : List Int32).getD j 0))) := by decide +kernel
  refine vk_Sof (tm := fun _ => (.string "BambooBlindLaw$World" 78)) (fun i hi => ?_) (fun i hi => ?_) (fun i hi => ?_) (fun i hi => ?_) (fun i hi => ?_) (fun i hi j hj => ?_) (fun i j hi hj e => absurd (by omega) e) hA
  all_goals obtain rfl : i = 0 := by omega
  · decide
  · exact pf hgv 366 (by decide +kernel)
  · exact pf hgv 367 (by decide +kernel)
  · exact pf hgv 368 (by decide +kernel)
  · exact pf hgv 369 (by decide +kernel)
  · exact pf hgv _ (hel j hj)
theorem sx_14 (hgv : pre0.before args s = true) (hA : ∀ a : Nat, a < s.heap.size → ¬ A a) : ∃ adK adV : Nat → Nat, vk_S 1 [1] [[32]] adK adV A s s.heap ∧ ∀ i : Nat, i < 1 → (Term.string "BambooBlindLaw$World" 84).eval args s none [] s = some (.ref (adK i)) := by
  have hel : ∀ j, j < 1 → (flatC pre0)[397 + j]? = some (Cond.eq (.elem (.field (.string "BambooBlindLaw$World" 84) "java/lang/String" "value" "[B") (.int (Int32.ofNat j))) (.int (([32] : List Int32).getD j 0))) := by decide +kernel
  refine vk_Sof (tm := fun _ => (.string "BambooBlindLaw$World" 84)) (fun i hi => ?_) (fun i hi => ?_) (fun i hi => ?_) (fun i hi => ?_) (fun i hi => ?_) (fun i hi j hj => ?_) (fun i j hi hj e => absurd (by omega) e) hA
  all_goals obtain rfl : i = 0 := by omega
  · decide
  · exact pf hgv 393 (by decide +kernel)
  · exact pf hgv 394 (by decide +kernel)
  · exact pf hgv 395 (by decide +kernel)
  · exact pf hgv 396 (by decide +kernel)
  · exact pf hgv _ (hel j hj)
theorem sx_15 (hgv : pre0.before args s = true) : ∃ a : Nat, (Term.string "BambooBlindLaw$World" 80).eval args s none [] s = some (.ref a) := by
  obtain ⟨a, _, _, _, h, _⟩ := Cond.exactly_spec (args := args) (first := s) (o := none) (s := s) (idx := []) (pf hgv 374 (w := .exactly (.string "BambooBlindLaw$World" 80) "java/lang/String") (by decide +kernel))
  exact ⟨a, h⟩
theorem sx_16 (hgv : pre0.before args s = true) : ∃ a : Nat, (Term.string "BambooBlindLaw$World" 82).eval args s none [] s = some (.ref a) := by
  obtain ⟨a, _, _, _, h, _⟩ := Cond.exactly_spec (args := args) (first := s) (o := none) (s := s) (idx := []) (pf hgv 383 (w := .exactly (.string "BambooBlindLaw$World" 82) "java/lang/String") (by decide +kernel))
  exact ⟨a, h⟩
theorem sx_17 (hgv : pre0.before args s = true) : ∃ a : Nat, (Term.string "BambooBlindLaw$World" 86).eval args s none [] s = some (.ref a) := by
  obtain ⟨a, _, _, _, h, _⟩ := Cond.exactly_spec (args := args) (first := s) (o := none) (s := s) (idx := []) (pf hgv 398 (w := .exactly (.string "BambooBlindLaw$World" 86) "java/lang/String") (by decide +kernel))
  exact ⟨a, h⟩
theorem sx_18 (hgv : pre0.before args s = true) : ∃ a : Nat, (Term.string "BambooBlind" 72).eval args s none [] s = some (.ref a) := by
  obtain ⟨a, _, _, _, h, _⟩ := Cond.exactly_spec (args := args) (first := s) (o := none) (s := s) (idx := []) (pf hgv 408 (w := .exactly (.string "BambooBlind" 72) "java/lang/String") (by decide +kernel))
  exact ⟨a, h⟩
theorem sx_19 (hgv : pre0.before args s = true) : ∃ a : Nat, (Term.string "BambooBlind" 83).eval args s none [] s = some (.ref a) := by
  obtain ⟨a, _, _, _, h, _⟩ := Cond.exactly_spec (args := args) (first := s) (o := none) (s := s) (idx := []) (pf hgv 445 (w := .exactly (.string "BambooBlind" 83) "java/lang/String") (by decide +kernel))
  exact ⟨a, h⟩
theorem sx_20 (hgv : pre0.before args s = true) : ∃ a : Nat, (Term.string "BambooBlind" 90).eval args s none [] s = some (.ref a) := by
  obtain ⟨a, _, _, _, h, _⟩ := Cond.exactly_spec (args := args) (first := s) (o := none) (s := s) (idx := []) (pf hgv 286 (w := .exactly (.string "BambooBlind" 90) "java/lang/String") (by decide +kernel))
  exact ⟨a, h⟩
theorem sx_21 (hgv : pre0.before args s = true) : ∃ a : Nat, (Term.string "BambooBlind" 160).eval args s none [] s = some (.ref a) := by
  obtain ⟨a, _, _, _, h, _⟩ := Cond.exactly_spec (args := args) (first := s) (o := none) (s := s) (idx := []) (pf hgv 545 (w := .exactly (.string "BambooBlind" 160) "java/lang/String") (by decide +kernel))
  exact ⟨a, h⟩
theorem sx_22 (hgv : pre0.before args s = true) : ∃ a : Nat, (Term.string "BambooBlind" 380).eval args s none [] s = some (.ref a) := by
  obtain ⟨a, _, _, _, h, _⟩ := Cond.exactly_spec (args := args) (first := s) (o := none) (s := s) (idx := []) (pf hgv 477 (w := .exactly (.string "BambooBlind" 380) "java/lang/String") (by decide +kernel))
  exact ⟨a, h⟩
theorem sx_23 (hgv : pre0.before args s = true) : ∃ a : Nat, (Term.string "BambooBlind" 382).eval args s none [] s = some (.ref a) := by
  obtain ⟨a, _, _, _, h, _⟩ := Cond.exactly_spec (args := args) (first := s) (o := none) (s := s) (idx := []) (pf hgv 508 (w := .exactly (.string "BambooBlind" 382) "java/lang/String") (by decide +kernel))
  exact ⟨a, h⟩
theorem sx_24 (hgv : pre0.before args s = true) : ∃ a : Nat, (Term.string "BambooBlind" 384).eval args s none [] s = some (.ref a) := by
  obtain ⟨a, _, _, _, h, _⟩ := Cond.exactly_spec (args := args) (first := s) (o := none) (s := s) (idx := []) (pf hgv 524 (w := .exactly (.string "BambooBlind" 384) "java/lang/String") (by decide +kernel))
  exact ⟨a, h⟩
theorem sx_25 (hgv : pre0.before args s = true) : ∃ a : Nat, (Term.string "BambooBlind" 191).eval args s none [] s = some (.ref a) := by
  obtain ⟨a, _, _, _, h, _⟩ := Cond.exactly_spec (args := args) (first := s) (o := none) (s := s) (idx := []) (pf hgv 564 (w := .exactly (.string "BambooBlind" 191) "java/lang/String") (by decide +kernel))
  exact ⟨a, h⟩
theorem str_eq {a b : Term} {x y : Nat} (h : (Cond.eq a b).before args s = true) (ha : a.eval args s none [] s = some (.ref x)) (hb : b.eval args s none [] s = some (.ref y)) : y = x := by
  have h1 := Cond.eq_refs h hb rfl
  have h2 : (some (Value.ref x) : Option Value) = some (.ref y) := by
    first
      | exact ha.symm.trans h1
      | exact ha.symm.trans h1.1
      | (rw [ha] at h1; exact h1)
  cases h2
  rfl
theorem st_inj : ∀ i, i < 15 → ∀ j, j < 15 → zLen.getD i 0 = zLen.getD j 0 → (∀ k, k < 7 → k < zLen.getD i 0 → (zByt.getD i []).getD k 0 = (zByt.getD j []).getD k 0) → i = j := by decide +kernel
theorem st_le : ∀ i, i < 15 → zLen.getD i 0 < 8 := by decide +kernel
theorem st_sw : ∀ (i : Nat) (q : String × Nat × String), zStrL[i]? = some q → Cond.stringRef q.1 q.2.1 q.2.2 ∈ lw_tbl := by
  have h : ∀ q ∈ zStrL, Cond.stringRef q.1 q.2.1 q.2.2 ∈ lw_tbl := by decide +kernel
  exact fun i q hq => h q (List.mem_of_getElem? hq)
/-- one text's cells tell which it is -/
theorem st_same {adK adV : Nat → Nat} (h : ∀ i : Nat, i < 15 → va_O "java/lang/String" (adK i) A s s.heap ∧ va_OF "java/lang/String" "coder" "B" (.int 0) (adK i) A s s.heap ∧ va_OF "java/lang/String" "value" "[B" (.ref (adV i)) (adK i) A s s.heap ∧ va_T .byte (adV i) (zLen.getD i 0) (fun j => .int ((zByt.getD i []).getD j 0)) A s s.heap) :
    ∀ i j : Nat, i < 15 → j < 15 → adK i = adK j → i = j := by
  intro i j hi hj e
  obtain ⟨_, _, ⟨cf, k, fi, f, cell, f1, f2, f3, f4, f5, _⟩, ⟨cl, g1, _, _, _, g5, g6, _⟩⟩ := h i hi
  obtain ⟨_, _, ⟨cf', k', fi', f', cell', f1', f2', f3', f4', f5', _⟩, ⟨cl', g1', _, _, _, g5', g6', _⟩⟩ := h j hj
  rw [f1] at f1'
  cases f1'
  rw [← e, f3] at f3'
  cases f3'
  rw [f5] at f5'
  have ev : adV i = adV j := by injection f5' with q; injection q
  rw [← ev, g1] at g1'
  cases g1'
  have l1 := st_le i hi
  have l2 := st_le j hj
  have el : zLen.getD i 0 = zLen.getD j 0 := by
    rw [g5] at g5'
    have q1 : (Int32.ofNat (zLen.getD i 0)).toNatClampNeg = zLen.getD i 0 := by rw [show Int32.ofNat (zLen.getD i 0) = iI (zLen.getD i 0 : Nat) from rfl, iI_tn (by omega) (by omega), Int.toNat_natCast]
    have q2 : (Int32.ofNat (zLen.getD j 0)).toNatClampNeg = zLen.getD j 0 := by rw [show Int32.ofNat (zLen.getD j 0) = iI (zLen.getD j 0 : Nat) from rfl, iI_tn (by omega) (by omega), Int.toNat_natCast]
    rw [← q1, ← q2, g5']
  refine st_inj i hi j hj el (fun k _ hk => ?_)
  have a1 := g6 k hk
  have a2 := g6' k (by omega)
  rw [a1] at a2
  injection a2 with q
  injection q
theorem st_S (hgv : pre0.before args s = true) (hts : ∀ w ∈ lw_tbl, w.before args s = true) (hA : ∀ a : Nat, a < s.heap.size → ¬ A a) (u0 u1 u2 u3 : Nat) : ∃ adK adV : Nat → Nat, vk_S 15 zLen zByt adK adV A s s.heap ∧ (∀ (i : Nat) (q : String × Nat × String), zStrL[i]? = some q → vk_R q.1 q.2.1 q.2.2 (adK i) s) ∧ (adV 100 = u0 ∧ adV 101 = u1 ∧ adV 102 = u2 ∧ adV 103 = u3) ∧ (adK 15 = adK 5 ∧ adK 16 = adK 4 ∧ adK 17 = adK 3) := by
  obtain ⟨k0, v0, h0, e0⟩ := sx_0 hgv hA
  obtain ⟨k1, v1, h1, e1⟩ := sx_1 hgv hA
  obtain ⟨k2, v2, h2, e2⟩ := sx_2 hgv hA
  obtain ⟨k3, v3, h3, e3⟩ := sx_3 hgv hA
  obtain ⟨k4, v4, h4, e4⟩ := sx_4 hgv hA
  obtain ⟨k5, v5, h5, e5⟩ := sx_5 hgv hA
  obtain ⟨k6, v6, h6, e6⟩ := sx_6 hgv hA
  obtain ⟨k7, v7, h7, e7⟩ := sx_7 hgv hA
  obtain ⟨k8, v8, h8, e8⟩ := sx_8 hgv hA
  obtain ⟨k9, v9, h9, e9⟩ := sx_9 hgv hA
  obtain ⟨k10, v10, h10, e10⟩ := sx_10 hgv hA
  obtain ⟨k11, v11, h11, e11⟩ := sx_11 hgv hA
  obtain ⟨k12, v12, h12, e12⟩ := sx_12 hgv hA
  obtain ⟨k13, v13, h13, e13⟩ := sx_13 hgv hA
  obtain ⟨k14, v14, h14, e14⟩ := sx_14 hgv hA
  obtain ⟨m15, e15⟩ := sx_15 hgv
  obtain ⟨m16, e16⟩ := sx_16 hgv
  obtain ⟨m17, e17⟩ := sx_17 hgv
  obtain ⟨m18, e18⟩ := sx_18 hgv
  obtain ⟨m19, e19⟩ := sx_19 hgv
  obtain ⟨m20, e20⟩ := sx_20 hgv
  obtain ⟨m21, e21⟩ := sx_21 hgv
  obtain ⟨m22, e22⟩ := sx_22 hgv
  obtain ⟨m23, e23⟩ := sx_23 hgv
  obtain ⟨m24, e24⟩ := sx_24 hgv
  obtain ⟨m25, e25⟩ := sx_25 hgv
  have hc : ∀ i : Nat, i < 15 → va_O "java/lang/String" (List.getD [k0 0, k1 0, k2 0, k3 0, k4 0, k5 0, k6 0, k7 0, k8 0, k9 0, k10 0, k11 0, k12 0, k13 0, k14 0, m15, m16, m17, m18, m19, m20, m21, m22, m23, m24, m25] i 0) A s s.heap ∧ va_OF "java/lang/String" "coder" "B" (.int 0) (List.getD [k0 0, k1 0, k2 0, k3 0, k4 0, k5 0, k6 0, k7 0, k8 0, k9 0, k10 0, k11 0, k12 0, k13 0, k14 0, m15, m16, m17, m18, m19, m20, m21, m22, m23, m24, m25] i 0) A s s.heap ∧ va_OF "java/lang/String" "value" "[B" (.ref (if i = 100 then u0 else if i = 101 then u1 else if i = 102 then u2 else if i = 103 then u3 else List.getD [v0 0, v1 0, v2 0, v3 0, v4 0, v5 0, v6 0, v7 0, v8 0, v9 0, v10 0, v11 0, v12 0, v13 0, v14 0] i 0)) (List.getD [k0 0, k1 0, k2 0, k3 0, k4 0, k5 0, k6 0, k7 0, k8 0, k9 0, k10 0, k11 0, k12 0, k13 0, k14 0, m15, m16, m17, m18, m19, m20, m21, m22, m23, m24, m25] i 0) A s s.heap ∧ va_T .byte (if i = 100 then u0 else if i = 101 then u1 else if i = 102 then u2 else if i = 103 then u3 else List.getD [v0 0, v1 0, v2 0, v3 0, v4 0, v5 0, v6 0, v7 0, v8 0, v9 0, v10 0, v11 0, v12 0, v13 0, v14 0] i 0) (zLen.getD i 0) (fun j => .int ((zByt.getD i []).getD j 0)) A s s.heap := fun i hi => match i, hi with
    | 0, _ => h0.1 0 (by decide)
    | 1, _ => h1.1 0 (by decide)
    | 2, _ => h2.1 0 (by decide)
    | 3, _ => h3.1 0 (by decide)
    | 4, _ => h4.1 0 (by decide)
    | 5, _ => h5.1 0 (by decide)
    | 6, _ => h6.1 0 (by decide)
    | 7, _ => h7.1 0 (by decide)
    | 8, _ => h8.1 0 (by decide)
    | 9, _ => h9.1 0 (by decide)
    | 10, _ => h10.1 0 (by decide)
    | 11, _ => h11.1 0 (by decide)
    | 12, _ => h12.1 0 (by decide)
    | 13, _ => h13.1 0 (by decide)
    | 14, _ => h14.1 0 (by decide)
    | i + 15, h => absurd h (by omega)
  have d0 : m15 = k5 0 := str_eq (pf hgv 382 (w := .eq (.string "BambooBlind$Source" 73) (.string "BambooBlindLaw$World" 80)) (by decide +kernel)) (e5 0 (by decide)) e15
  have d1 : m16 = k4 0 := str_eq (pf hgv 392 (w := .eq (.string "BambooBlind$Source" 67) (.string "BambooBlindLaw$World" 82)) (by decide +kernel)) (e4 0 (by decide)) e16
  have d2 : m17 = k3 0 := str_eq (pf hgv 407 (w := .eq (.string "BambooBlind$TextReader" 93) (.string "BambooBlindLaw$World" 86)) (by decide +kernel)) (e3 0 (by decide)) e17
  refine ⟨fun i => List.getD [k0 0, k1 0, k2 0, k3 0, k4 0, k5 0, k6 0, k7 0, k8 0, k9 0, k10 0, k11 0, k12 0, k13 0, k14 0, m15, m16, m17, m18, m19, m20, m21, m22, m23, m24, m25] i 0, fun i => (if i = 100 then u0 else if i = 101 then u1 else if i = 102 then u2 else if i = 103 then u3 else List.getD [v0 0, v1 0, v2 0, v3 0, v4 0, v5 0, v6 0, v7 0, v8 0, v9 0, v10 0, v11 0, v12 0, v13 0, v14 0] i 0), ⟨hc, st_same hc⟩, fun i q hq => vk_R.of (A := args) (hts _ (st_sw i q hq)) ?_, ⟨rfl, rfl, rfl, rfl⟩, ⟨d0, d1, d2⟩⟩
  have hl : i < 26 := (List.getElem?_eq_some_iff.mp hq).1
  match i, hl, hq with
  | 0, _, hq => obtain rfl := Option.some.inj hq; exact e0 0 (by decide)
  | 1, _, hq => obtain rfl := Option.some.inj hq; exact e1 0 (by decide)
  | 2, _, hq => obtain rfl := Option.some.inj hq; exact e2 0 (by decide)
  | 3, _, hq => obtain rfl := Option.some.inj hq; exact e3 0 (by decide)
  | 4, _, hq => obtain rfl := Option.some.inj hq; exact e4 0 (by decide)
  | 5, _, hq => obtain rfl := Option.some.inj hq; exact e5 0 (by decide)
  | 6, _, hq => obtain rfl := Option.some.inj hq; exact e6 0 (by decide)
  | 7, _, hq => obtain rfl := Option.some.inj hq; exact e7 0 (by decide)
  | 8, _, hq => obtain rfl := Option.some.inj hq; exact e8 0 (by decide)
  | 9, _, hq => obtain rfl := Option.some.inj hq; exact e9 0 (by decide)
  | 10, _, hq => obtain rfl := Option.some.inj hq; exact e10 0 (by decide)
  | 11, _, hq => obtain rfl := Option.some.inj hq; exact e11 0 (by decide)
  | 12, _, hq => obtain rfl := Option.some.inj hq; exact e12 0 (by decide)
  | 13, _, hq => obtain rfl := Option.some.inj hq; exact e13 0 (by decide)
  | 14, _, hq => obtain rfl := Option.some.inj hq; exact e14 0 (by decide)
  | 15, _, hq => obtain rfl := Option.some.inj hq; exact e15
  | 16, _, hq => obtain rfl := Option.some.inj hq; exact e16
  | 17, _, hq => obtain rfl := Option.some.inj hq; exact e17
  | 18, _, hq => obtain rfl := Option.some.inj hq; exact e18
  | 19, _, hq => obtain rfl := Option.some.inj hq; exact e19
  | 20, _, hq => obtain rfl := Option.some.inj hq; exact e20
  | 21, _, hq => obtain rfl := Option.some.inj hq; exact e21
  | 22, _, hq => obtain rfl := Option.some.inj hq; exact e22
  | 23, _, hq => obtain rfl := Option.some.inj hq; exact e23
  | 24, _, hq => obtain rfl := Option.some.inj hq; exact e24
  | 25, _, hq => obtain rfl := Option.some.inj hq; exact e25
  | i + 26, h, _ => exact absurd h (by omega)
theorem st_any (hts : ∀ w ∈ lw_tbl, w.before args s = true) {mk : MethodId} (hcls : s.vm.findClass RJ5 = some mk.cls) : Option.any (fun x => !x.isInterface) s.vm.classes[mk.cls]? = true := by
  have h0 : (Cond.selects RJ4 ⟨RJ5, "isLatin1", "()Z"⟩ ⟨RJ5, "isLatin1", "()Z"⟩).before args s = true := hts _ (by decide +kernel)
  obtain ⟨m0, methM0, hn0, -⟩ := Cond.instanceMethod_spec (hts (.instanceMethod ⟨RJ5, "isLatin1", "()Z"⟩) (by decide +kernel))
  have e : mk.cls = m0.cls := Option.some.inj (hcls.symm.trans (findClass_of_methodNamed hn0))
  rw [e]
  have hf : s.methodFound? RJ5 "isLatin1" "()Z" = some m0 := State.methodFound?_of_named hn0 ⟨by decide, by decide⟩
  simp only [Cond.before, Cond.holds, Cond.value] at h0
  cases hc : s.vm.findClass RJ4 with
  | none => simp [hc] at h0
  | some c =>
    simp only [hc, hf, hn0] at h0
    cases hs : selectMethod {} s.vm c m0 <;> simp [hs] at h0
    exact h0.2
theorem st_fsel (hts : ∀ w ∈ lw_tbl, w.before args s = true) {y : MethodName} (hy : y.cls ≠ "java/lang/invoke/MethodHandle" ∧ y.cls ≠ "java/lang/invoke/VarHandle") (hy5 : y.cls = RJ5) (h1 : Cond.privateMethod y ∈ lw_tbl) (h2 : Cond.instanceMethod y ∈ lw_tbl) : (Cond.selects RJ4 y y).before args s = true := by
  have hins := hts (.instantiable RJ4 4) (by decide +kernel)
  obtain ⟨c, k, hc, hk, -, hniab, -, -⟩ := Cond.instantiable_spec hins
  have hni : k.isInterface = false := (Bool.or_eq_false_iff.mp hniab).1
  obtain ⟨mk, methM, hnamed, hmethM, -, -⟩ := Cond.instanceMethod_spec (hts _ h2)
  have hfound : s.methodFound? y.cls y.name y.desc = some mk := State.methodFound?_of_named hnamed hy
  have hsel : selectMethod {} s.vm c mk = .method mk := selectMethod_private hmethM (Cond.privateMethod_at (hts _ h1) mk methM hnamed hmethM)
  simp only [Cond.before, Cond.holds, Cond.value, hc, hfound, hnamed, hsel, hk]
  simp
  exact st_any hts (by rw [← hy5]; exact findClass_of_methodNamed hnamed)
theorem st_tb (hts : ∀ w ∈ lw_tbl, w.before args s = true) : ∀ w ∈ zT, w.before args s = true := fun w hw => (List.mem_append.mp hw).elim (fun h => hts w (List.mem_filter.mp h).1) (fun h => by
  simp only [fsel, List.map_cons, List.map_nil, List.mem_cons, List.not_mem_nil, or_false] at h
  rcases h with rfl | rfl | rfl | rfl
  all_goals exact st_fsel hts (by decide) rfl (by decide +kernel) (by decide +kernel))
theorem st_ar {ty : FieldType} (h : (Cond.arrayClass ty).before args s = true) : ∃ cA : ClassId, ArrOfT s cA ty ∧ s.vm.findClass ("[" ++ ty.toString) = some cA := by
  obtain ⟨c, k, comp, h1, h2, h3⟩ := Cond.arrayClass_spec h
  exact ⟨c, fun n z => ⟨(fun k h => by cases h), k, h2, comp, h3⟩, h1⟩
theorem st_K (hts : ∀ w ∈ lw_tbl, w.before args s = true) : ∃ (D : va_G) (dA : Nat → ClassId), ∀ (ad : Nat → Nat) (base : Nat) (aK aV : Nat → Nat), va_K D vwCl (ztys (D, dA, ad, base, aK, aV)) s := by
  have hz := st_tb hts
  obtain ⟨c0, i0, h0⟩ := u_known (C := RJ0) (T := TJ0) (N := 4) hz zinf_0 (hz _ mk_RJ0)
  obtain ⟨c1, i1, h1⟩ := u_known (C := RJ4) (T := TJ4) (N := 4) hz zinf_1 (hz _ mk_RJ4)
  obtain ⟨c2, i2, h2⟩ := u_known (C := RJx35411) (T := TJx35411) (N := 4) hz zinf_2 (hz _ mk_RJx35411)
  obtain ⟨c3, i3, h3⟩ := u_known (C := RJx4a65c) (T := TJx4a65c) (N := 3) hz zinf_3 (hz _ mk_RJx4a65c)
  obtain ⟨c4, i4, h4⟩ := u_known (C := RX0) (T := TX0) (N := 16) hz zin_0 (hz _ kmk_0)
  obtain ⟨c5, i5, h5⟩ := u_known (C := RX1) (T := TX1) (N := 3) hz zin_1 (hz _ kmk_1)
  obtain ⟨c6, i6, h6⟩ := u_known (C := RX2) (T := TX2) (N := 8) hz zin_2 (hz _ kmk_2)
  obtain ⟨c7, i7, h7⟩ := u_known (C := RX3) (T := TX3) (N := 8) hz zin_3 (hz _ kmk_3)
  obtain ⟨c8, i8, h8⟩ := u_known (C := RX4) (T := TX4) (N := 11) hz zin_4 (hz _ kmk_4)
  obtain ⟨c9, i9, h9⟩ := u_known (C := RX5) (T := TX5) (N := 4) hz zin_5 (hz _ kmk_5)
  obtain ⟨c10, i10, h10⟩ := u_known (C := RX6) (T := TX6) (N := 12) hz zin_6 (hz _ kmk_6)
  obtain ⟨c11, i11, h11⟩ := u_known (C := RX7) (T := TX7) (N := 6) hz zinf_11 (hz _ mk_RX7)
  obtain ⟨a0, b0, d0⟩ := st_ar (hz _ kc_int)
  obtain ⟨a1, b1, d1⟩ := st_ar (hz _ kc_byte)
  obtain ⟨a2, b2, d2⟩ := st_ar (hz _ kc_boolean)
  obtain ⟨p3, a3, k3, x31, x32, x33, x34, x35⟩ := Cond.arrayOver_spec (args := args) (first := s) (o := none) (idx := []) (hts (.arrayOver (.object "BambooBlind$Blind")) (by decide +kernel))
  obtain ⟨p5, a5, k5, x51, x52, x53, x54, x55⟩ := Cond.arrayOver_spec (args := args) (first := s) (o := none) (idx := []) (hts (.arrayOver (.object "java/lang/Object")) (by decide +kernel))
  obtain ⟨p4, a4, k4, y41, y42, y43, y44, y45⟩ := ao_spec (args := args) (first := s) (o := none) (idx := []) (hts (.arrayOver (.array .int)) (by decide +kernel))
  obtain ⟨p6, a6, k6, y61, y62, y63, y64, y65⟩ := ao_spec (args := args) (first := s) (o := none) (idx := []) (hts (.arrayOver (.array (.array .int))) (by decide +kernel))
  refine ⟨(fun k => List.getD [c0, c1, c2, c3, c4, c5, c6, c7, c8, c9, c10, c11] k c0, fun k => List.getD [i0, i1, i2, i3, i4, i5, i6, i7, i8, i9, i10, i11] k i0), fun k => List.getD [a0, a1, a2, a3, a4, a5, a6] k a0, fun ad base aK aV => ⟨fun k q hq => ?_, fun k q hq => ?_⟩⟩
  · have hl : k < 12 := (List.getElem?_eq_some_iff.mp hq).1
    match k, hl, hq with
    | 0, _, hq => obtain rfl := Option.some.inj hq; exact h0
    | 1, _, hq => obtain rfl := Option.some.inj hq; exact h1
    | 2, _, hq => obtain rfl := Option.some.inj hq; exact h2
    | 3, _, hq => obtain rfl := Option.some.inj hq; exact h3
    | 4, _, hq => obtain rfl := Option.some.inj hq; exact h4
    | 5, _, hq => obtain rfl := Option.some.inj hq; exact h5
    | 6, _, hq => obtain rfl := Option.some.inj hq; exact h6
    | 7, _, hq => obtain rfl := Option.some.inj hq; exact h7
    | 8, _, hq => obtain rfl := Option.some.inj hq; exact h8
    | 9, _, hq => obtain rfl := Option.some.inj hq; exact h9
    | 10, _, hq => obtain rfl := Option.some.inj hq; exact h10
    | 11, _, hq => obtain rfl := Option.some.inj hq; exact h11
    | k + 12, h, _ => exact absurd h (by omega)
  · have hl : k < 7 := (List.getElem?_eq_some_iff.mp hq).1
    match k, hl, hq with
    | 0, _, hq => obtain rfl := Option.some.inj hq; exact ⟨b0, d0⟩
    | 1, _, hq => obtain rfl := Option.some.inj hq; exact ⟨b1, d1⟩
    | 2, _, hq => obtain rfl := Option.some.inj hq; exact ⟨b2, d2⟩
    | 3, _, hq => obtain rfl := Option.some.inj hq; exact ⟨fun n z => ⟨(fun k h => by cases h), k3, x33, p3, x34⟩, k3, p3, x33, x34, x31, x35⟩
    | 4, _, hq => obtain rfl := Option.some.inj hq; exact ⟨fun n z => ⟨(fun k h => by cases h), k4, y43, p4, y44⟩, y45⟩
    | 5, _, hq => obtain rfl := Option.some.inj hq; exact ⟨fun n z => ⟨(fun k h => by cases h), k5, x53, p5, x54⟩, k5, p5, x53, x54, x51, x55⟩
    | 6, _, hq => obtain rfl := Option.some.inj hq; exact ⟨fun n z => ⟨(fun k h => by cases h), k6, y63, p6, y64⟩, y65⟩
    | k + 7, h, _ => exact absurd h (by omega)
abbrev tyL : List FieldType := [.int, .byte, .boolean, .object "BambooBlind$Blind", .array .int, .object "java/lang/Object", .array (.array .int)]
theorem tyL_d : ∀ i, i < 7 → ∀ j, j < 7 → tyL.getD i .int = tyL.getD j .int → i = j := by decide +kernel
theorem tyL_z (G : fG) : ∀ i, i < 7 → (ztys G.1)[i]? = some (G.1.2.1 i, tyL.getD i .int) := fun i hi => match i, hi with
  | 0, _ => rfl
  | 1, _ => rfl
  | 2, _ => rfl
  | 3, _ => rfl
  | 4, _ => rfl
  | 5, _ => rfl
  | 6, _ => rfl
  | i + 7, h => absurd h (by omega)
theorem arr_ty {cA : ClassId} {t1 t2 : FieldType} (h1 : ArrOfT s cA t1) (h2 : ArrOfT s cA t2) : t1 = t2 := by
  obtain ⟨_, k, a1, c1, a2⟩ := h1 0 (fun _ => .null)
  obtain ⟨_, k', b1, c2, b2⟩ := h2 0 (fun _ => .null)
  have e : some k = some k' := a1.symm.trans b1
  cases e
  rw [a2] at b2
  injection b2
theorem st_dist {G : fG} (hK : va_K G.1.1 vwCl (ztys G.1) s) : dist G := fun i j hi hj e => by
  have h1 := (hK.2 i _ (tyL_z G i hi)).1
  have h2 := (hK.2 j _ (tyL_z G j hj)).1
  have e : G.1.2.1 i = G.1.2.1 j := e
  simp only at h1 h2
  rw [e] at h1
  exact tyL_d i hi j hj (arr_ty h1 h2)
theorem st_n1 : ∀ q ∈ zNestL, Cond.methodLinkNest q.1 q.2.1 q.2.2.1 q.2.2.2 ∈ lw_tbl := by decide +kernel
theorem st_n2 : ∀ q ∈ zCastL, Cond.castable q q ∈ lw_tbl := by decide +kernel
theorem st_n4 : ∀ q ∈ zDecL, Cond.declares q ∈ lw_tbl := by decide +kernel
theorem st_fw : ∀ q ∈ fFwL, Cond.declares q.2.1 ∈ lw_tbl ∧ Cond.interfaceMethod q.2.1.cls q.2.1.cls q.2.1.name q.2.1.desc ∈ lw_tbl ∧ Cond.publicMethod q.2.2 ∈ lw_tbl ∧ Cond.unhidden q.1 q.2.1.name q.2.1.desc ∈ lw_tbl ∧ Cond.castable q.1 q.2.1.cls ∈ lw_tbl := by decide +kernel
theorem st_l1 : Cond.laysStatic Bundle.tN "UNASSIGNED_STACK" Bundle.steD ∈ lw_tbl := by decide +kernel
theorem st_l2 : Cond.laysStatic Bundle.tN "SUPPRESSED_SENTINEL" Bundle.listD ∈ lw_tbl := by decide +kernel
theorem st_l3 : Cond.laysStatic "java/lang/String" "COMPACT_STRINGS" "Z" ∈ lw_tbl := by decide +kernel
theorem st_l4 : Cond.laysStatic "jdk/internal/util/Preconditions" "SIOOBE_FORMATTER" "Ljava/util/function/BiFunction;" ∈ lw_tbl := by decide +kernel
theorem st_l5 : Cond.laysStatic RJx4a65c "DEFAULTCAPACITY_EMPTY_ELEMENTDATA" "[Ljava/lang/Object;" ∈ lw_tbl := by decide +kernel
theorem st_l6 : Cond.laysStatic RJ6 "DigitOnes" "[B" ∈ lw_tbl := by decide +kernel
theorem st_l7 : Cond.laysStatic RJ6 "DigitTens" "[B" ∈ lw_tbl := by decide +kernel
theorem st_i1 : Cond.initialized Bundle.tN ∈ lw_tbl := by decide +kernel
theorem st_i2 : Cond.initialized "java/lang/String" ∈ lw_tbl := by decide +kernel
theorem st_i3 : Cond.initialized "jdk/internal/util/Preconditions" ∈ lw_tbl := by decide +kernel
theorem st_i5 : Cond.initialized RJx4a65c ∈ lw_tbl := by decide +kernel
theorem st_i6 : Cond.initialized RJ6 ∈ lw_tbl := by decide +kernel
theorem eq_evi {a : Term} {z : Int32} (h : (Cond.eq a (.int z)).before args s = true) : a.eval args s none [] s = some (.int z) := by
  cases hv : a.eval args s none [] s with
  | none => simp [Cond.before, Cond.holds, Cond.value, hv] at h
  | some w =>
    have hz : (Term.int z).eval args s none [] s = some (.int z) := rfl
    simp only [Cond.before, Cond.holds, Cond.value, hv, hz] at h
    cases w <;> simp_all
theorem st_def (hgv : pre0.before args s = true) (hts : ∀ w ∈ lw_tbl, w.before args s = true) (hA : ∀ a : Nat, a < s.heap.size → ¬ A a) : ∃ t : Nat, va_Z RJx4a65c "DEFAULTCAPACITY_EMPTY_ELEMENTDATA" "[Ljava/lang/Object;" (.ref t) A s s.heap ∧ va_T (.object fOE) t 0 (fun _ => .null) A s s.heap := by
  obtain ⟨t, h1, h2⟩ := va_Tof (tm := .static RJx4a65c "DEFAULTCAPACITY_EMPTY_ELEMENTDATA" "[Ljava/lang/Object;") (ty := .object fOE) (N := 0) (f := fun _ => .null) (by decide) (pf hgv 12 (by decide +kernel)) (eq_evi (pf hgv 14 (by decide +kernel))) (fun j hj => absurd hj (by omega)) hA
  exact ⟨t, va_Zref (hts _ st_l5) (hts _ st_i5) h1 hA, h2⟩
theorem st_one (hgv : pre0.before args s = true) (hts : ∀ w ∈ lw_tbl, w.before args s = true) (hA : ∀ a : Nat, a < s.heap.size → ¬ A a) : ∃ t : Nat, va_Z RJ6 "DigitOnes" "[B" (.ref t) A s s.heap ∧ va_T .byte t 100 (fun j => .int (nI (48 + j % 10))) A s s.heap := by
  have hel : ∀ j, j < 100 → (flatC pre0)[18 + j]? = some (Cond.eq (.elem (.static RJ6 "DigitOnes" "[B") (.int (Int32.ofNat j))) (.int (nI (48 + j % 10)))) := by decide +kernel
  obtain ⟨t, h1, h2⟩ := va_Tof (tm := .static RJ6 "DigitOnes" "[B") (ty := .byte) (N := 100) (f := fun j => .int (nI (48 + j % 10))) (by decide) (pf hgv 16 (by decide +kernel)) (eq_evi (pf hgv 17 (by decide +kernel))) (fun j hj => eq_evi (pf hgv _ (hel j hj))) hA
  exact ⟨t, va_Zref (hts _ st_l6) (hts _ st_i6) h1 hA, h2⟩
theorem st_ten (hgv : pre0.before args s = true) (hts : ∀ w ∈ lw_tbl, w.before args s = true) (hA : ∀ a : Nat, a < s.heap.size → ¬ A a) : ∃ t : Nat, va_Z RJ6 "DigitTens" "[B" (.ref t) A s s.heap ∧ va_T .byte t 100 (fun j => .int (nI (48 + j / 10))) A s s.heap := by
  have hel : ∀ j, j < 100 → (flatC pre0)[121 + j]? = some (Cond.eq (.elem (.static RJ6 "DigitTens" "[B") (.int (Int32.ofNat j))) (.int (nI (48 + j / 10)))) := by decide +kernel
  obtain ⟨t, h1, h2⟩ := va_Tof (tm := .static RJ6 "DigitTens" "[B") (ty := .byte) (N := 100) (f := fun j => .int (nI (48 + j / 10))) (by decide) (pf hgv 119 (by decide +kernel)) (eq_evi (pf hgv 120 (by decide +kernel))) (fun j hj => eq_evi (pf hgv _ (hel j hj))) hA
  exact ⟨t, va_Zref (hts _ st_l7) (hts _ st_i6) h1 hA, h2⟩
theorem st_X (hgv : pre0.before args s = true) (hts : ∀ w ∈ lw_tbl, w.before args s = true) {b L : Nat} {xs : Nat → Int32} (hx : va_X b L xs s s.heap) (hbl : b < s.heap.size) : ∃ aK aV : Nat → Nat, ∀ (D : va_G) (dA : Nat → ClassId) (ad : Nat → Nat), fX ((D, dA, ad, s.heap.size, aK, aV), b, L, xs) s s.heap ∧ dup ((D, dA, ad, s.heap.size, aK, aV), b, L, xs) := by
  have hA : ∀ a : Nat, a < s.heap.size → ¬ (fun q : Nat => s.heap.size ≤ q) a := fun a h q => by
    have q : s.heap.size ≤ a := q
    omega
  obtain ⟨u0, z0, t0⟩ := st_def hgv hts hA
  obtain ⟨u1, z1, t1⟩ := st_one hgv hts hA
  obtain ⟨u2, z2, t2⟩ := st_ten hgv hts hA
  obtain ⟨u3, z3⟩ := va_Mi.of (pf hgv 236 (w := .isRef (.mirror "[Ljava/lang/Object;")) (by decide +kernel))
  obtain ⟨aK, aV, h1, h2, ⟨e0, e1, e2, e3⟩, hd⟩ := st_S hgv hts hA u0 u1 u2 u3
  subst e0 e1 e2 e3
  refine ⟨aK, aV, fun D dA ad => ⟨⟨⟨fun q hq => va_Nw.of (A := args) rfl (hts _ (st_n1 q hq)), fun q hq => va_Nw.of (A := args) rfl (hts _ (st_n2 q hq)), fun q hq => absurd hq List.not_mem_nil, h2, ?_, ?_, h1, ?_, ?_, fun q hq => va_Nw.of (A := args) rfl (hts _ (st_n4 q hq))⟩, ⟨va_AO.of (hts (.arrayOver (.object "BambooBlind$Blind")) (by decide +kernel)), hts (.arrayOver (.array .int)) (by decide +kernel), va_AO.of (hts (.arrayOver (.object fOE)) (by decide +kernel)), hts (.arrayOver (.array (.array .int))) (by decide +kernel)⟩, ⟨z0, t0⟩, ⟨z1, t1⟩, ⟨z2, t2⟩, z3, fun q hq => ?_, ⟨va_Nw.of (A := args) rfl (hts _ (by decide +kernel)), va_Nw.of (A := args) rfl (hts _ (by decide +kernel)), va_Nw.of (A := args) rfl (hts _ (by decide +kernel)), va_Nw.of (A := args) rfl (hts _ (by decide +kernel))⟩, ⟨hx, hbl, hA b hbl⟩⟩, hd⟩⟩
  · exact vx_Zqof (hts _ st_l1) (hts _ st_i1) (pf hgv 9 (by decide +kernel)) hA
  · exact vx_Zqof (hts _ st_l2) (hts _ st_i1) (pf hgv 10 (by decide +kernel)) hA
  · exact va_Zof (hts _ st_l3) (hts _ st_i2) (va_eqi (pf hgv 4 (by decide +kernel))) hA
  · exact va_Zqof (hts _ st_l4) (hts _ st_i3) (pf hgv 5 (by decide +kernel)) hA
  · obtain ⟨f1, f2, f3, f4, f5⟩ := st_fw q hq
    exact va_Fw.of (A := args) (hts _ f1) (hts _ f2) (hts _ f3) (hts _ f4) (hts _ f5)
end ZFa
