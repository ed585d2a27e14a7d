/-! what the law's entry gives of the start -/
section ZFa
variable {args : Array Value} {s : State} {A : Nat → Prop}
abbrev pre0 : Cond := Jvm.Cond.and given_1 narrow_1
theorem pf (hgv : pre0.before args s = true) {w : Cond} (k : Nat) (h : (flatC pre0)[k]? = some w) : w.before args s = true := flat_of_before _ hgv _ (List.mem_of_getElem? h)
theorem sx_0 (hgv : pre0.before args s = true) (hA : ∀ a : Nat, a < s.heap.size → ¬ A a) : ∃ adK adV : Nat → Nat, vk_S 1 [4] [[104, 105, 103, 104]] adK adV A s s.heap ∧ ∀ i : Nat, i < 1 → (Term.string "BambooBlind$TextReader" 74).eval args s none [] s = some (.ref (adK i)) := by
  have hel : ∀ j, j < 4 → (flatC pre0)[114 + j]? = some (Cond.eq (.elem (.field (.string "BambooBlind$TextReader" 74) "java/lang/String" "value" "[B") (.int (Int32.ofNat j))) (.int (([104, 105, 103, 104] : List Int32).getD j 0))) := by decide +kernel
  refine vk_Sof (tm := fun _ => (.string "BambooBlind$TextReader" 74)) (fun i hi => ?_) (fun i hi => ?_) (fun i hi => ?_) (fun i hi => ?_) (fun i hi => ?_) (fun i hi j hj => ?_) (fun i j hi hj e => absurd (by omega) e) hA
  all_goals obtain rfl : i = 0 := by omega
  · decide
  · exact pf hgv 110 (by decide +kernel)
  · exact pf hgv 111 (by decide +kernel)
  · exact pf hgv 112 (by decide +kernel)
  · exact pf hgv 113 (by decide +kernel)
  · exact pf hgv _ (hel j hj)
theorem sx_1 (hgv : pre0.before args s = true) (hA : ∀ a : Nat, a < s.heap.size → ¬ A a) : ∃ adK adV : Nat → Nat, vk_S 1 [4] [[115, 108, 97, 116]] adK adV A s s.heap ∧ ∀ i : Nat, i < 1 → (Term.string "BambooBlind$TextReader" 83).eval args s none [] s = some (.ref (adK i)) := by
  have hel : ∀ j, j < 4 → (flatC pre0)[122 + j]? = some (Cond.eq (.elem (.field (.string "BambooBlind$TextReader" 83) "java/lang/String" "value" "[B") (.int (Int32.ofNat j))) (.int (([115, 108, 97, 116] : List Int32).getD j 0))) := by decide +kernel
  refine vk_Sof (tm := fun _ => (.string "BambooBlind$TextReader" 83)) (fun i hi => ?_) (fun i hi => ?_) (fun i hi => ?_) (fun i hi => ?_) (fun i hi => ?_) (fun i hi j hj => ?_) (fun i j hi hj e => absurd (by omega) e) hA
  all_goals obtain rfl : i = 0 := by omega
  · decide
  · exact pf hgv 118 (by decide +kernel)
  · exact pf hgv 119 (by decide +kernel)
  · exact pf hgv 120 (by decide +kernel)
  · exact pf hgv 121 (by decide +kernel)
  · exact pf hgv _ (hel j hj)
theorem sx_2 (hgv : pre0.before args s = true) (hA : ∀ a : Nat, a < s.heap.size → ¬ A a) : ∃ adK adV : Nat → Nat, vk_S 1 [3] [[98, 111, 120]] adK adV A s s.heap ∧ ∀ i : Nat, i < 1 → (Term.string "BambooBlind$TextReader" 88).eval args s none [] s = some (.ref (adK i)) := by
  have hel : ∀ j, j < 3 → (flatC pre0)[147 + j]? = some (Cond.eq (.elem (.field (.string "BambooBlind$TextReader" 88) "java/lang/String" "value" "[B") (.int (Int32.ofNat j))) (.int (([98, 111, 120] : List Int32).getD j 0))) := by decide +kernel
  refine vk_Sof (tm := fun _ => (.string "BambooBlind$TextReader" 88)) (fun i hi => ?_) (fun i hi => ?_) (fun i hi => ?_) (fun i hi => ?_) (fun i hi => ?_) (fun i hi j hj => ?_) (fun i j hi hj e => absurd (by omega) e) hA
  all_goals obtain rfl : i = 0 := by omega
  · decide
  · exact pf hgv 143 (by decide +kernel)
  · exact pf hgv 144 (by decide +kernel)
  · exact pf hgv 145 (by decide +kernel)
  · exact pf hgv 146 (by decide +kernel)
  · exact pf hgv _ (hel j hj)
theorem sx_3 (hgv : pre0.before args s = true) (hA : ∀ a : Nat, a < s.heap.size → ¬ A a) : ∃ adK adV : Nat → Nat, vk_S 1 [5] [[99, 111, 97, 116, 115]] adK adV A s s.heap ∧ ∀ i : Nat, i < 1 → (Term.string "BambooBlind$TextReader" 93).eval args s none [] s = some (.ref (adK i)) := by
  have hel : ∀ j, j < 5 → (flatC pre0)[154 + j]? = some (Cond.eq (.elem (.field (.string "BambooBlind$TextReader" 93) "java/lang/String" "value" "[B") (.int (Int32.ofNat j))) (.int (([99, 111, 97, 116, 115] : List Int32).getD j 0))) := by decide +kernel
  refine vk_Sof (tm := fun _ => (.string "BambooBlind$TextReader" 93)) (fun i hi => ?_) (fun i hi => ?_) (fun i hi => ?_) (fun i hi => ?_) (fun i hi => ?_) (fun i hi j hj => ?_) (fun i j hi hj e => absurd (by omega) e) hA
  all_goals obtain rfl : i = 0 := by omega
  · decide
  · exact pf hgv 150 (by decide +kernel)
  · exact pf hgv 151 (by decide +kernel)
  · exact pf hgv 152 (by decide +kernel)
  · exact pf hgv 153 (by decide +kernel)
  · exact pf hgv _ (hel j hj)
theorem sx_4 (hgv : pre0.before args s = true) (hA : ∀ a : Nat, a < s.heap.size → ¬ A a) : ∃ adK adV : Nat → Nat, vk_S 1 [5] [[114, 105, 103, 104, 116]] adK adV A s s.heap ∧ ∀ i : Nat, i < 1 → (Term.string "BambooBlind$Source" 67).eval args s none [] s = some (.ref (adK i)) := by
  have hel : ∀ j, j < 5 → (flatC pre0)[130 + j]? = some (Cond.eq (.elem (.field (.string "BambooBlind$Source" 67) "java/lang/String" "value" "[B") (.int (Int32.ofNat j))) (.int (([114, 105, 103, 104, 116] : List Int32).getD j 0))) := by decide +kernel
  refine vk_Sof (tm := fun _ => (.string "BambooBlind$Source" 67)) (fun i hi => ?_) (fun i hi => ?_) (fun i hi => ?_) (fun i hi => ?_) (fun i hi => ?_) (fun i hi j hj => ?_) (fun i j hi hj e => absurd (by omega) e) hA
  all_goals obtain rfl : i = 0 := by omega
  · decide
  · exact pf hgv 126 (by decide +kernel)
  · exact pf hgv 127 (by decide +kernel)
  · exact pf hgv 128 (by decide +kernel)
  · exact pf hgv 129 (by decide +kernel)
  · exact pf hgv _ (hel j hj)
theorem sx_5 (hgv : pre0.before args s = true) (hA : ∀ a : Nat, a < s.heap.size → ¬ A a) : ∃ adK adV : Nat → Nat, vk_S 1 [4] [[108, 101, 102, 116]] adK adV A s s.heap ∧ ∀ i : Nat, i < 1 → (Term.string "BambooBlind$Source" 73).eval args s none [] s = some (.ref (adK i)) := by
  have hel : ∀ j, j < 4 → (flatC pre0)[139 + j]? = some (Cond.eq (.elem (.field (.string "BambooBlind$Source" 73) "java/lang/String" "value" "[B") (.int (Int32.ofNat j))) (.int (([108, 101, 102, 116] : List Int32).getD j 0))) := by decide +kernel
  refine vk_Sof (tm := fun _ => (.string "BambooBlind$Source" 73)) (fun i hi => ?_) (fun i hi => ?_) (fun i hi => ?_) (fun i hi => ?_) (fun i hi => ?_) (fun i hi j hj => ?_) (fun i j hi hj e => absurd (by omega) e) hA
  all_goals obtain rfl : i = 0 := by omega
  · decide
  · exact pf hgv 135 (by decide +kernel)
  · exact pf hgv 136 (by decide +kernel)
  · exact pf hgv 137 (by decide +kernel)
  · exact pf hgv 138 (by decide +kernel)
  · exact pf hgv _ (hel j hj)
theorem sx_6 (hgv : pre0.before args s = true) (hA : ∀ a : Nat, a < s.heap.size → ¬ A a) : ∃ adK adV : Nat → Nat, vk_S 1 [4] [[112, 117, 108, 108]] adK adV A s s.heap ∧ ∀ i : Nat, i < 1 → (Term.string "BambooBlind$Script" 92).eval args s none [] s = some (.ref (adK i)) := by
  have hel : ∀ j, j < 4 → (flatC pre0)[188 + j]? = some (Cond.eq (.elem (.field (.string "BambooBlind$Script" 92) "java/lang/String" "value" "[B") (.int (Int32.ofNat j))) (.int (([112, 117, 108, 108] : List Int32).getD j 0))) := by decide +kernel
  refine vk_Sof (tm := fun _ => (.string "BambooBlind$Script" 92)) (fun i hi => ?_) (fun i hi => ?_) (fun i hi => ?_) (fun i hi => ?_) (fun i hi => ?_) (fun i hi j hj => ?_) (fun i j hi hj e => absurd (by omega) e) hA
  all_goals obtain rfl : i = 0 := by omega
  · decide
  · exact pf hgv 184 (by decide +kernel)
  · exact pf hgv 185 (by decide +kernel)
  · exact pf hgv 186 (by decide +kernel)
  · exact pf hgv 187 (by decide +kernel)
  · exact pf hgv _ (hel j hj)
theorem sx_7 (hgv : pre0.before args s = true) (hA : ∀ a : Nat, a < s.heap.size → ¬ A a) : ∃ adK adV : Nat → Nat, vk_S 1 [4] [[116, 117, 114, 110]] adK adV A s s.heap ∧ ∀ i : Nat, i < 1 → (Term.string "BambooBlind$Script" 94).eval args s none [] s = some (.ref (adK i)) := by
  have hel : ∀ j, j < 4 → (flatC pre0)[196 + j]? = some (Cond.eq (.elem (.field (.string "BambooBlind$Script" 94) "java/lang/String" "value" "[B") (.int (Int32.ofNat j))) (.int (([116, 117, 114, 110] : List Int32).getD j 0))) := by decide +kernel
  refine vk_Sof (tm := fun _ => (.string "BambooBlind$Script" 94)) (fun i hi => ?_) (fun i hi => ?_) (fun i hi => ?_) (fun i hi => ?_) (fun i hi => ?_) (fun i hi j hj => ?_) (fun i j hi hj e => absurd (by omega) e) hA
  all_goals obtain rfl : i = 0 := by omega
  · decide
  · exact pf hgv 192 (by decide +kernel)
  · exact pf hgv 193 (by decide +kernel)
  · exact pf hgv 194 (by decide +kernel)
  · exact pf hgv 195 (by decide +kernel)
  · exact pf hgv _ (hel j hj)
theorem sx_8 (hgv : pre0.before args s = true) (hA : ∀ a : Nat, a < s.heap.size → ¬ A a) : ∃ adK adV : Nat → Nat, vk_S 1 [3] [[116, 105, 101]] adK adV A s s.heap ∧ ∀ i : Nat, i < 1 → (Term.string "BambooBlind$Script" 96).eval args s none [] s = some (.ref (adK i)) := by
  have hel : ∀ j, j < 3 → (flatC pre0)[204 + j]? = some (Cond.eq (.elem (.field (.string "BambooBlind$Script" 96) "java/lang/String" "value" "[B") (.int (Int32.ofNat j))) (.int (([116, 105, 101] : List Int32).getD j 0))) := by decide +kernel
  refine vk_Sof (tm := fun _ => (.string "BambooBlind$Script" 96)) (fun i hi => ?_) (fun i hi => ?_) (fun i hi => ?_) (fun i hi => ?_) (fun i hi => ?_) (fun i hi j hj => ?_) (fun i j hi hj e => absurd (by omega) e) hA
  all_goals obtain rfl : i = 0 := by omega
  · decide
  · exact pf hgv 200 (by decide +kernel)
  · exact pf hgv 201 (by decide +kernel)
  · exact pf hgv 202 (by decide +kernel)
  · exact pf hgv 203 (by decide +kernel)
  · exact pf hgv _ (hel j hj)
theorem sx_9 (hgv : pre0.before args s = true) (hA : ∀ a : Nat, a < s.heap.size → ¬ A a) : ∃ adK adV : Nat → Nat, vk_S 1 [4] [[102, 114, 101, 101]] adK adV A s s.heap ∧ ∀ i : Nat, i < 1 → (Term.string "BambooBlind$Script" 98).eval args s none [] s = some (.ref (adK i)) := by
  have hel : ∀ j, j < 4 → (flatC pre0)[211 + j]? = some (Cond.eq (.elem (.field (.string "BambooBlind$Script" 98) "java/lang/String" "value" "[B") (.int (Int32.ofNat j))) (.int (([102, 114, 101, 101] : List Int32).getD j 0))) := by decide +kernel
  refine vk_Sof (tm := fun _ => (.string "BambooBlind$Script" 98)) (fun i hi => ?_) (fun i hi => ?_) (fun i hi => ?_) (fun i hi => ?_) (fun i hi => ?_) (fun i hi j hj => ?_) (fun i j hi hj e => absurd (by omega) e) hA
  all_goals obtain rfl : i = 0 := by omega
  · decide
  · exact pf hgv 207 (by decide +kernel)
  · exact pf hgv 208 (by decide +kernel)
  · exact pf hgv 209 (by decide +kernel)
  · exact pf hgv 210 (by decide +kernel)
  · exact pf hgv _ (hel j hj)
theorem sx_10 (hgv : pre0.before args s = true) (hA : ∀ a : Nat, a < s.heap.size → ¬ A a) : ∃ adK adV : Nat → Nat, vk_S 1 [5] [[112, 97, 105, 110, 116]] adK adV A s s.heap ∧ ∀ i : Nat, i < 1 → (Term.string "BambooBlind$Script" 100).eval args s none [] s = some (.ref (adK i)) := by
  have hel : ∀ j, j < 5 → (flatC pre0)[219 + j]? = some (Cond.eq (.elem (.field (.string "BambooBlind$Script" 100) "java/lang/String" "value" "[B") (.int (Int32.ofNat j))) (.int (([112, 97, 105, 110, 116] : List Int32).getD j 0))) := by decide +kernel
  refine vk_Sof (tm := fun _ => (.string "BambooBlind$Script" 100)) (fun i hi => ?_) (fun i hi => ?_) (fun i hi => ?_) (fun i hi => ?_) (fun i hi => ?_) (fun i hi j hj => ?_) (fun i j hi hj e => absurd (by omega) e) hA
  all_goals obtain rfl : i = 0 := by omega
  · decide
  · exact pf hgv 215 (by decide +kernel)
  · exact pf hgv 216 (by decide +kernel)
  · exact pf hgv 217 (by decide +kernel)
  · exact pf hgv 218 (by decide +kernel)
  · exact pf hgv _ (hel j hj)
theorem sx_11 (hgv : pre0.before args s = true) (hA : ∀ a : Nat, a < s.heap.size → ¬ A a) : ∃ adK adV : Nat → Nat, vk_S 1 [3] [[100, 97, 98]] adK adV A s s.heap ∧ ∀ i : Nat, i < 1 → (Term.string "BambooBlind$Script" 102).eval args s none [] s = some (.ref (adK i)) := by
  have hel : ∀ j, j < 3 → (flatC pre0)[228 + j]? = some (Cond.eq (.elem (.field (.string "BambooBlind$Script" 102) "java/lang/String" "value" "[B") (.int (Int32.ofNat j))) (.int (([100, 97, 98] : List Int32).getD j 0))) := by decide +kernel
  refine vk_Sof (tm := fun _ => (.string "BambooBlind$Script" 102)) (fun i hi => ?_) (fun i hi => ?_) (fun i hi => ?_) (fun i hi => ?_) (fun i hi => ?_) (fun i hi j hj => ?_) (fun i j hi hj e => absurd (by omega) e) hA
  all_goals obtain rfl : i = 0 := by omega
  · decide
  · exact pf hgv 224 (by decide +kernel)
  · exact pf hgv 225 (by decide +kernel)
  · exact pf hgv 226 (by decide +kernel)
  · exact pf hgv 227 (by decide +kernel)
  · exact pf hgv _ (hel j hj)
theorem sx_12 (hgv : pre0.before args s = true) (hA : ∀ a : Nat, a < s.heap.size → ¬ A a) : ∃ adK adV : Nat → Nat, vk_S 1 [4] [[115, 119, 97, 112]] adK adV A s s.heap ∧ ∀ i : Nat, i < 1 → (Term.string "BambooBlind$Script" 104).eval args s none [] s = some (.ref (adK i)) := by
  have hel : ∀ j, j < 4 → (flatC pre0)[235 + j]? = some (Cond.eq (.elem (.field (.string "BambooBlind$Script" 104) "java/lang/String" "value" "[B") (.int (Int32.ofNat j))) (.int (([115, 119, 97, 112] : List Int32).getD j 0))) := by decide +kernel
  refine vk_Sof (tm := fun _ => (.string "BambooBlind$Script" 104)) (fun i hi => ?_) (fun i hi => ?_) (fun i hi => ?_) (fun i hi => ?_) (fun i hi => ?_) (fun i hi j hj => ?_) (fun i j hi hj e => absurd (by omega) e) hA
  all_goals obtain rfl : i = 0 := by omega
  · decide
  · exact pf hgv 231 (by decide +kernel)
  · exact pf hgv 232 (by decide +kernel)
  · exact pf hgv 233 (by decide +kernel)
  · exact pf hgv 234 (by decide +kernel)
  · exact pf hgv _ (hel j hj)
theorem sx_13 (hgv : pre0.before args s = true) (hA : ∀ a : Nat, a < s.heap.size → ¬ A a) : ∃ adK adV : Nat → Nat, vk_S 1 [6] [[114, 101, 112, 101, 97, 116]] adK adV A s s.heap ∧ ∀ i : Nat, i < 1 → (Term.string "BambooBlind$Script" 106).eval args s none [] s = some (.ref (adK i)) := by
  have hel : ∀ j, j < 6 → (flatC pre0)[243 + j]? = some (Cond.eq (.elem (.field (.string "BambooBlind$Script" 106) "java/lang/String" "value" "[B") (.int (Int32.ofNat j))) (.int (([114, 101, 112, 101, 97, 116] : List Int32).getD j 0))) := by decide +kernel
  refine vk_Sof (tm := fun _ => (.string "BambooBlind$Script" 106)) (fun i hi => ?_) (fun i hi => ?_) (fun i hi => ?_) (fun i hi => ?_) (fun i hi => ?_) (fun i hi j hj => ?_) (fun i j hi hj e => absurd (by omega) e) hA
  all_goals obtain rfl : i = 0 := by omega
  · decide
  · exact pf hgv 239 (by decide +kernel)
  · exact pf hgv 240 (by decide +kernel)
  · exact pf hgv 241 (by decide +kernel)
  · exact pf hgv 242 (by decide +kernel)
  · exact pf hgv _ (hel j hj)
theorem sx_14 (hgv : pre0.before args s = true) (hA : ∀ a : Nat, a < s.heap.size → ¬ A a) : ∃ adK adV : Nat → Nat, vk_S 1 [2] [[83, 78]] adK adV A s s.heap ∧ ∀ i : Nat, i < 1 → (Term.string "BambooBlind$Script" 108).eval args s none [] s = some (.ref (adK i)) := by
  have hel : ∀ j, j < 2 → (flatC pre0)[253 + j]? = some (Cond.eq (.elem (.field (.string "BambooBlind$Script" 108) "java/lang/String" "value" "[B") (.int (Int32.ofNat j))) (.int (([83, 78] : List Int32).getD j 0))) := by decide +kernel
  refine vk_Sof (tm := fun _ => (.string "BambooBlind$Script" 108)) (fun i hi => ?_) (fun i hi => ?_) (fun i hi => ?_) (fun i hi => ?_) (fun i hi => ?_) (fun i hi j hj => ?_) (fun i j hi hj e => absurd (by omega) e) hA
  all_goals obtain rfl : i = 0 := by omega
  · decide
  · exact pf hgv 249 (by decide +kernel)
  · exact pf hgv 250 (by decide +kernel)
  · exact pf hgv 251 (by decide +kernel)
  · exact pf hgv 252 (by decide +kernel)
  · exact pf hgv _ (hel j hj)
theorem sx_15 (hgv : pre0.before args s = true) (hA : ∀ a : Nat, a < s.heap.size → ¬ A a) : ∃ adK adV : Nat → Nat, vk_S 1 [3] [[78, 83, 78]] adK adV A s s.heap ∧ ∀ i : Nat, i < 1 → (Term.string "BambooBlind$Script" 110).eval args s none [] s = some (.ref (adK i)) := by
  have hel : ∀ j, j < 3 → (flatC pre0)[259 + j]? = some (Cond.eq (.elem (.field (.string "BambooBlind$Script" 110) "java/lang/String" "value" "[B") (.int (Int32.ofNat j))) (.int (([78, 83, 78] : List Int32).getD j 0))) := by decide +kernel
  refine vk_Sof (tm := fun _ => (.string "BambooBlind$Script" 110)) (fun i hi => ?_) (fun i hi => ?_) (fun i hi => ?_) (fun i hi => ?_) (fun i hi => ?_) (fun i hi j hj => ?_) (fun i j hi hj e => absurd (by omega) e) hA
  all_goals obtain rfl : i = 0 := by omega
  · decide
  · exact pf hgv 255 (by decide +kernel)
  · exact pf hgv 256 (by decide +kernel)
  · exact pf hgv 257 (by decide +kernel)
  · exact pf hgv 258 (by decide +kernel)
  · exact pf hgv _ (hel j hj)
theorem sx_16 (hgv : pre0.before args s = true) (hA : ∀ a : Nat, a < s.heap.size → ¬ A a) : ∃ adK adV : Nat → Nat, vk_S 1 [2] [[78, 83]] adK adV A s s.heap ∧ ∀ i : Nat, i < 1 → (Term.string "BambooBlind$Script" 112).eval args s none [] s = some (.ref (adK i)) := by
  have hel : ∀ j, j < 2 → (flatC pre0)[266 + j]? = some (Cond.eq (.elem (.field (.string "BambooBlind$Script" 112) "java/lang/String" "value" "[B") (.int (Int32.ofNat j))) (.int (([78, 83] : List Int32).getD j 0))) := by decide +kernel
  refine vk_Sof (tm := fun _ => (.string "BambooBlind$Script" 112)) (fun i hi => ?_) (fun i hi => ?_) (fun i hi => ?_) (fun i hi => ?_) (fun i hi => ?_) (fun i hi j hj => ?_) (fun i j hi hj e => absurd (by omega) e) hA
  all_goals obtain rfl : i = 0 := by omega
  · decide
  · exact pf hgv 262 (by decide +kernel)
  · exact pf hgv 263 (by decide +kernel)
  · exact pf hgv 264 (by decide +kernel)
  · exact pf hgv 265 (by decide +kernel)
  · exact pf hgv _ (hel j hj)
theorem sx_17 (hgv : pre0.before args s = true) (hA : ∀ a : Nat, a < s.heap.size → ¬ A a) : ∃ adK adV : Nat → Nat, vk_S 1 [5] [[78, 83, 78, 78, 78]] adK adV A s s.heap ∧ ∀ i : Nat, i < 1 → (Term.string "BambooBlind$Script" 114).eval args s none [] s = some (.ref (adK i)) := by
  have hel : ∀ j, j < 5 → (flatC pre0)[272 + j]? = some (Cond.eq (.elem (.field (.string "BambooBlind$Script" 114) "java/lang/String" "value" "[B") (.int (Int32.ofNat j))) (.int (([78, 83, 78, 78, 78] : List Int32).getD j 0))) := by decide +kernel
  refine vk_Sof (tm := fun _ => (.string "BambooBlind$Script" 114)) (fun i hi => ?_) (fun i hi => ?_) (fun i hi => ?_) (fun i hi => ?_) (fun i hi => ?_) (fun i hi j hj => ?_) (fun i j hi hj e => absurd (by omega) e) hA
  all_goals obtain rfl : i = 0 := by omega
  · decide
  · exact pf hgv 268 (by decide +kernel)
  · exact pf hgv 269 (by decide +kernel)
  · exact pf hgv 270 (by decide +kernel)
  · exact pf hgv 271 (by decide +kernel)
  · exact pf hgv _ (hel j hj)
theorem sx_18 (hgv : pre0.before args s = true) (hA : ∀ a : Nat, a < s.heap.size → ¬ A a) : ∃ adK adV : Nat → Nat, vk_S 1 [1] [[78]] adK adV A s s.heap ∧ ∀ i : Nat, i < 1 → (Term.string "BambooBlind$Script" 116).eval args s none [] s = some (.ref (adK i)) := by
  have hel : ∀ j, j < 1 → (flatC pre0)[281 + j]? = some (Cond.eq (.elem (.field (.string "BambooBlind$Script" 116) "java/lang/String" "value" "[B") (.int (Int32.ofNat j))) (.int (([78] : List Int32).getD j 0))) := by decide +kernel
  refine vk_Sof (tm := fun _ => (.string "BambooBlind$Script" 116)) (fun i hi => ?_) (fun i hi => ?_) (fun i hi => ?_) (fun i hi => ?_) (fun i hi => ?_) (fun i hi j hj => ?_) (fun i j hi hj e => absurd (by omega) e) hA
  all_goals obtain rfl : i = 0 := by omega
  · decide
  · exact pf hgv 277 (by decide +kernel)
  · exact pf hgv 278 (by decide +kernel)
  · exact pf hgv 279 (by decide +kernel)
  · exact pf hgv 280 (by decide +kernel)
  · exact pf hgv _ (hel j hj)
theorem sx_19 (hgv : pre0.before args s = true) : ∃ a : Nat, (Term.string "BambooBlind" 72).eval args s none [] s = some (.ref a) := by
  obtain ⟨a, _, _, _, h, _⟩ := Cond.exactly_spec (args := args) (first := s) (o := none) (s := s) (idx := []) (pf hgv 41 (w := .exactly (.string "BambooBlind" 72) "java/lang/String") (by decide +kernel))
  exact ⟨a, h⟩
theorem sx_20 (hgv : pre0.before args s = true) : ∃ a : Nat, (Term.string "BambooBlind" 83).eval args s none [] s = some (.ref a) := by
  obtain ⟨a, _, _, _, h, _⟩ := Cond.exactly_spec (args := args) (first := s) (o := none) (s := s) (idx := []) (pf hgv 78 (w := .exactly (.string "BambooBlind" 83) "java/lang/String") (by decide +kernel))
  exact ⟨a, h⟩
theorem sx_21 (hgv : pre0.before args s = true) : ∃ a : Nat, (Term.string "BambooBlind" 90).eval args s none [] s = some (.ref a) := by
  obtain ⟨a, _, _, _, h, _⟩ := Cond.exactly_spec (args := args) (first := s) (o := none) (s := s) (idx := []) (pf hgv 159 (w := .exactly (.string "BambooBlind" 90) "java/lang/String") (by decide +kernel))
  exact ⟨a, h⟩
theorem sx_22 (hgv : pre0.before args s = true) : ∃ a : Nat, (Term.string "BambooBlind" 105).eval args s none [] s = some (.ref a) := by
  obtain ⟨a, _, _, _, h, _⟩ := Cond.exactly_spec (args := args) (first := s) (o := none) (s := s) (idx := []) (pf hgv 282 (w := .exactly (.string "BambooBlind" 105) "java/lang/String") (by decide +kernel))
  exact ⟨a, h⟩
theorem sx_23 (hgv : pre0.before args s = true) : ∃ a : Nat, (Term.string "BambooBlind" 160).eval args s none [] s = some (.ref a) := by
  obtain ⟨a, _, _, _, h, _⟩ := Cond.exactly_spec (args := args) (first := s) (o := none) (s := s) (idx := []) (pf hgv 309 (w := .exactly (.string "BambooBlind" 160) "java/lang/String") (by decide +kernel))
  exact ⟨a, h⟩
theorem sx_24 (hgv : pre0.before args s = true) : ∃ a : Nat, (Term.string "BambooBlind" 380).eval args s none [] s = some (.ref a) := by
  obtain ⟨a, _, _, _, h, _⟩ := Cond.exactly_spec (args := args) (first := s) (o := none) (s := s) (idx := []) (pf hgv 328 (w := .exactly (.string "BambooBlind" 380) "java/lang/String") (by decide +kernel))
  exact ⟨a, h⟩
theorem sx_25 (hgv : pre0.before args s = true) : ∃ a : Nat, (Term.string "BambooBlind" 382).eval args s none [] s = some (.ref a) := by
  obtain ⟨a, _, _, _, h, _⟩ := Cond.exactly_spec (args := args) (first := s) (o := none) (s := s) (idx := []) (pf hgv 359 (w := .exactly (.string "BambooBlind" 382) "java/lang/String") (by decide +kernel))
  exact ⟨a, h⟩
theorem sx_26 (hgv : pre0.before args s = true) : ∃ a : Nat, (Term.string "BambooBlind" 384).eval args s none [] s = some (.ref a) := by
  obtain ⟨a, _, _, _, h, _⟩ := Cond.exactly_spec (args := args) (first := s) (o := none) (s := s) (idx := []) (pf hgv 375 (w := .exactly (.string "BambooBlind" 384) "java/lang/String") (by decide +kernel))
  exact ⟨a, h⟩
theorem sx_27 (hgv : pre0.before args s = true) : ∃ a : Nat, (Term.string "BambooBlind" 191).eval args s none [] s = some (.ref a) := by
  obtain ⟨a, _, _, _, h, _⟩ := Cond.exactly_spec (args := args) (first := s) (o := none) (s := s) (idx := []) (pf hgv 396 (w := .exactly (.string "BambooBlind" 191) "java/lang/String") (by decide +kernel))
  exact ⟨a, h⟩
theorem sx_28 (hgv : pre0.before args s = true) : ∃ a : Nat, (Term.string "BambooBlind" 367).eval args s none [] s = some (.ref a) := by
  obtain ⟨a, _, _, _, h, _⟩ := Cond.exactly_spec (args := args) (first := s) (o := none) (s := s) (idx := []) (pf hgv 424 (w := .exactly (.string "BambooBlind" 367) "java/lang/String") (by decide +kernel))
  exact ⟨a, h⟩
theorem sx_29 (hgv : pre0.before args s = true) : ∃ a : Nat, (Term.string "BambooBlind" 378).eval args s none [] s = some (.ref a) := by
  obtain ⟨a, _, _, _, h, _⟩ := Cond.exactly_spec (args := args) (first := s) (o := none) (s := s) (idx := []) (pf hgv 454 (w := .exactly (.string "BambooBlind" 378) "java/lang/String") (by decide +kernel))
  exact ⟨a, h⟩
theorem st_inj : ∀ i, i < 19 → ∀ j, j < 19 → zLen.getD i 0 = zLen.getD j 0 → (∀ k, k < 6 → k < zLen.getD i 0 → (zByt.getD i []).getD k 0 = (zByt.getD j []).getD k 0) → i = j := by decide +kernel
theorem st_le : ∀ i, i < 19 → zLen.getD i 0 < 7 := by decide +kernel
theorem st_sw : ∀ (i : Nat) (q : String × Nat × String), zStrL[i]? = some q → Cond.stringRef q.1 q.2.1 q.2.2 ∈ lw_tbl := by
  have h : ∀ q ∈ zStrL, Cond.stringRef q.1 q.2.1 q.2.2 ∈ lw_tbl := by decide +kernel
  exact fun i q hq => h q (List.mem_of_getElem? hq)
/-- one text's cells tell which it is -/
theorem st_same {adK adV : Nat → Nat} (h : ∀ i : Nat, i < 19 → va_O "java/lang/String" (adK i) A s s.heap ∧ va_OF "java/lang/String" "coder" "B" (.int 0) (adK i) A s s.heap ∧ va_OF "java/lang/String" "value" "[B" (.ref (adV i)) (adK i) A s s.heap ∧ va_T .byte (adV i) (zLen.getD i 0) (fun j => .int ((zByt.getD i []).getD j 0)) A s s.heap) :
    ∀ i j : Nat, i < 19 → j < 19 → adK i = adK j → i = j := by
  intro i j hi hj e
  obtain ⟨_, _, ⟨cf, k, fi, f, cell, f1, f2, f3, f4, f5, _⟩, ⟨cl, g1, _, _, _, g5, g6, _⟩⟩ := h i hi
  obtain ⟨_, _, ⟨cf', k', fi', f', cell', f1', f2', f3', f4', f5', _⟩, ⟨cl', g1', _, _, _, g5', g6', _⟩⟩ := h j hj
  rw [f1] at f1'
  cases f1'
  rw [← e, f3] at f3'
  cases f3'
  rw [f5] at f5'
  have ev : adV i = adV j := by injection f5' with q; injection q
  rw [← ev, g1] at g1'
  cases g1'
  have l1 := st_le i hi
  have l2 := st_le j hj
  have el : zLen.getD i 0 = zLen.getD j 0 := by
    rw [g5] at g5'
    have q1 : (Int32.ofNat (zLen.getD i 0)).toNatClampNeg = zLen.getD i 0 := by rw [show Int32.ofNat (zLen.getD i 0) = iI (zLen.getD i 0 : Nat) from rfl, iI_tn (by omega) (by omega), Int.toNat_natCast]
    have q2 : (Int32.ofNat (zLen.getD j 0)).toNatClampNeg = zLen.getD j 0 := by rw [show Int32.ofNat (zLen.getD j 0) = iI (zLen.getD j 0 : Nat) from rfl, iI_tn (by omega) (by omega), Int.toNat_natCast]
    rw [← q1, ← q2, g5']
  refine st_inj i hi j hj el (fun k _ hk => ?_)
  have a1 := g6 k hk
  have a2 := g6' k (by omega)
  rw [a1] at a2
  injection a2 with q
  injection q
theorem st_S (hgv : pre0.before args s = true) (hts : ∀ w ∈ lw_tbl, w.before args s = true) (hA : ∀ a : Nat, a < s.heap.size → ¬ A a) : ∃ adK adV : Nat → Nat, vk_S 19 zLen zByt adK adV A s s.heap ∧ ∀ (i : Nat) (q : String × Nat × String), zStrL[i]? = some q → vk_R q.1 q.2.1 q.2.2 (adK i) s := by
  obtain ⟨k0, v0, h0, e0⟩ := sx_0 hgv hA
  obtain ⟨k1, v1, h1, e1⟩ := sx_1 hgv hA
  obtain ⟨k2, v2, h2, e2⟩ := sx_2 hgv hA
  obtain ⟨k3, v3, h3, e3⟩ := sx_3 hgv hA
  obtain ⟨k4, v4, h4, e4⟩ := sx_4 hgv hA
  obtain ⟨k5, v5, h5, e5⟩ := sx_5 hgv hA
  obtain ⟨k6, v6, h6, e6⟩ := sx_6 hgv hA
  obtain ⟨k7, v7, h7, e7⟩ := sx_7 hgv hA
  obtain ⟨k8, v8, h8, e8⟩ := sx_8 hgv hA
  obtain ⟨k9, v9, h9, e9⟩ := sx_9 hgv hA
  obtain ⟨k10, v10, h10, e10⟩ := sx_10 hgv hA
  obtain ⟨k11, v11, h11, e11⟩ := sx_11 hgv hA
  obtain ⟨k12, v12, h12, e12⟩ := sx_12 hgv hA
  obtain ⟨k13, v13, h13, e13⟩ := sx_13 hgv hA
  obtain ⟨k14, v14, h14, e14⟩ := sx_14 hgv hA
  obtain ⟨k15, v15, h15, e15⟩ := sx_15 hgv hA
  obtain ⟨k16, v16, h16, e16⟩ := sx_16 hgv hA
  obtain ⟨k17, v17, h17, e17⟩ := sx_17 hgv hA
  obtain ⟨k18, v18, h18, e18⟩ := sx_18 hgv hA
  obtain ⟨m19, e19⟩ := sx_19 hgv
  obtain ⟨m20, e20⟩ := sx_20 hgv
  obtain ⟨m21, e21⟩ := sx_21 hgv
  obtain ⟨m22, e22⟩ := sx_22 hgv
  obtain ⟨m23, e23⟩ := sx_23 hgv
  obtain ⟨m24, e24⟩ := sx_24 hgv
  obtain ⟨m25, e25⟩ := sx_25 hgv
  obtain ⟨m26, e26⟩ := sx_26 hgv
  obtain ⟨m27, e27⟩ := sx_27 hgv
  obtain ⟨m28, e28⟩ := sx_28 hgv
  obtain ⟨m29, e29⟩ := sx_29 hgv
  have hc : ∀ i : Nat, i < 19 → va_O "java/lang/String" (List.getD [k0 0, k1 0, k2 0, k3 0, k4 0, k5 0, k6 0, k7 0, k8 0, k9 0, k10 0, k11 0, k12 0, k13 0, k14 0, k15 0, k16 0, k17 0, k18 0, m19, m20, m21, m22, m23, m24, m25, m26, m27, m28, m29] i 0) A s s.heap ∧ va_OF "java/lang/String" "coder" "B" (.int 0) (List.getD [k0 0, k1 0, k2 0, k3 0, k4 0, k5 0, k6 0, k7 0, k8 0, k9 0, k10 0, k11 0, k12 0, k13 0, k14 0, k15 0, k16 0, k17 0, k18 0, m19, m20, m21, m22, m23, m24, m25, m26, m27, m28, m29] i 0) A s s.heap ∧ va_OF "java/lang/String" "value" "[B" (.ref (List.getD [v0 0, v1 0, v2 0, v3 0, v4 0, v5 0, v6 0, v7 0, v8 0, v9 0, v10 0, v11 0, v12 0, v13 0, v14 0, v15 0, v16 0, v17 0, v18 0] i 0)) (List.getD [k0 0, k1 0, k2 0, k3 0, k4 0, k5 0, k6 0, k7 0, k8 0, k9 0, k10 0, k11 0, k12 0, k13 0, k14 0, k15 0, k16 0, k17 0, k18 0, m19, m20, m21, m22, m23, m24, m25, m26, m27, m28, m29] i 0) A s s.heap ∧ va_T .byte (List.getD [v0 0, v1 0, v2 0, v3 0, v4 0, v5 0, v6 0, v7 0, v8 0, v9 0, v10 0, v11 0, v12 0, v13 0, v14 0, v15 0, v16 0, v17 0, v18 0] i 0) (zLen.getD i 0) (fun j => .int ((zByt.getD i []).getD j 0)) A s s.heap := fun i hi => match i, hi with
    | 0, _ => h0.1 0 (by decide)
    | 1, _ => h1.1 0 (by decide)
    | 2, _ => h2.1 0 (by decide)
    | 3, _ => h3.1 0 (by decide)
    | 4, _ => h4.1 0 (by decide)
    | 5, _ => h5.1 0 (by decide)
    | 6, _ => h6.1 0 (by decide)
    | 7, _ => h7.1 0 (by decide)
    | 8, _ => h8.1 0 (by decide)
    | 9, _ => h9.1 0 (by decide)
    | 10, _ => h10.1 0 (by decide)
    | 11, _ => h11.1 0 (by decide)
    | 12, _ => h12.1 0 (by decide)
    | 13, _ => h13.1 0 (by decide)
    | 14, _ => h14.1 0 (by decide)
    | 15, _ => h15.1 0 (by decide)
    | 16, _ => h16.1 0 (by decide)
    | 17, _ => h17.1 0 (by decide)
    | 18, _ => h18.1 0 (by decide)
    | i + 19, h => absurd h (by omega)
  refine ⟨fun i => List.getD [k0 0, k1 0, k2 0, k3 0, k4 0, k5 0, k6 0, k7 0, k8 0, k9 0, k10 0, k11 0, k12 0, k13 0, k14 0, k15 0, k16 0, k17 0, k18 0, m19, m20, m21, m22, m23, m24, m25, m26, m27, m28, m29] i 0, fun i => List.getD [v0 0, v1 0, v2 0, v3 0, v4 0, v5 0, v6 0, v7 0, v8 0, v9 0, v10 0, v11 0, v12 0, v13 0, v14 0, v15 0, v16 0, v17 0, v18 0] i 0, ⟨hc, st_same hc⟩, fun i q hq => vk_R.of (A := args) (hts _ (st_sw i q hq)) ?_⟩
  have hl : i < 30 := (List.getElem?_eq_some_iff.mp hq).1
  match i, hl, hq with
  | 0, _, hq => obtain rfl := Option.some.inj hq; exact e0 0 (by decide)
  | 1, _, hq => obtain rfl := Option.some.inj hq; exact e1 0 (by decide)
  | 2, _, hq => obtain rfl := Option.some.inj hq; exact e2 0 (by decide)
  | 3, _, hq => obtain rfl := Option.some.inj hq; exact e3 0 (by decide)
  | 4, _, hq => obtain rfl := Option.some.inj hq; exact e4 0 (by decide)
  | 5, _, hq => obtain rfl := Option.some.inj hq; exact e5 0 (by decide)
  | 6, _, hq => obtain rfl := Option.some.inj hq; exact e6 0 (by decide)
  | 7, _, hq => obtain rfl := Option.some.inj hq; exact e7 0 (by decide)
  | 8, _, hq => obtain rfl := Option.some.inj hq; exact e8 0 (by decide)
  | 9, _, hq => obtain rfl := Option.some.inj hq; exact e9 0 (by decide)
  | 10, _, hq => obtain rfl := Option.some.inj hq; exact e10 0 (by decide)
  | 11, _, hq => obtain rfl := Option.some.inj hq; exact e11 0 (by decide)
  | 12, _, hq => obtain rfl := Option.some.inj hq; exact e12 0 (by decide)
  | 13, _, hq => obtain rfl := Option.some.inj hq; exact e13 0 (by decide)
  | 14, _, hq => obtain rfl := Option.some.inj hq; exact e14 0 (by decide)
  | 15, _, hq => obtain rfl := Option.some.inj hq; exact e15 0 (by decide)
  | 16, _, hq => obtain rfl := Option.some.inj hq; exact e16 0 (by decide)
  | 17, _, hq => obtain rfl := Option.some.inj hq; exact e17 0 (by decide)
  | 18, _, hq => obtain rfl := Option.some.inj hq; exact e18 0 (by decide)
  | 19, _, hq => obtain rfl := Option.some.inj hq; exact e19
  | 20, _, hq => obtain rfl := Option.some.inj hq; exact e20
  | 21, _, hq => obtain rfl := Option.some.inj hq; exact e21
  | 22, _, hq => obtain rfl := Option.some.inj hq; exact e22
  | 23, _, hq => obtain rfl := Option.some.inj hq; exact e23
  | 24, _, hq => obtain rfl := Option.some.inj hq; exact e24
  | 25, _, hq => obtain rfl := Option.some.inj hq; exact e25
  | 26, _, hq => obtain rfl := Option.some.inj hq; exact e26
  | 27, _, hq => obtain rfl := Option.some.inj hq; exact e27
  | 28, _, hq => obtain rfl := Option.some.inj hq; exact e28
  | 29, _, hq => obtain rfl := Option.some.inj hq; exact e29
  | i + 30, h, _ => exact absurd h (by omega)
theorem st_tb (hts : ∀ w ∈ lw_tbl, w.before args s = true) : ∀ w ∈ zT, w.before args s = true := fun w hw => hts w (List.mem_filter.mp hw).1
theorem st_ar {ty : FieldType} (h : (Cond.arrayClass ty).before args s = true) : ∃ cA : ClassId, ArrOfT s cA ty ∧ s.vm.findClass ("[" ++ ty.toString) = some cA := by
  obtain ⟨c, k, comp, h1, h2, h3⟩ := Cond.arrayClass_spec h
  exact ⟨c, fun n z => ⟨(fun k h => by cases h), k, h2, comp, h3⟩, h1⟩
theorem st_K (hts : ∀ w ∈ lw_tbl, w.before args s = true) : ∃ (D : va_G) (dA : Nat → ClassId), ∀ (ad : Nat → Nat) (base : Nat) (aK aV : Nat → Nat), va_K D vwCl (ztys (D, dA, ad, base, aK, aV)) s := by
  have hz := st_tb hts
  obtain ⟨c0, i0, h0⟩ := u_known (C := RX0) (T := TX0) (N := 16) hz zin_0 (hz _ mk_0)
  obtain ⟨c1, i1, h1⟩ := u_known (C := RX1) (T := TX1) (N := 3) hz zin_1 (hz _ mk_1)
  obtain ⟨c2, i2, h2⟩ := u_known (C := RX2) (T := TX2) (N := 8) hz zin_2 (hz _ mk_2)
  obtain ⟨c3, i3, h3⟩ := u_known (C := RX3) (T := TX3) (N := 8) hz zin_3 (hz _ mk_3)
  obtain ⟨c4, i4, h4⟩ := u_known (C := RX4) (T := TX4) (N := 11) hz zin_4 (hz _ mk_4)
  obtain ⟨c5, i5, h5⟩ := u_known (C := RX5) (T := TX5) (N := 4) hz zin_5 (hz _ mk_5)
  obtain ⟨c6, i6, h6⟩ := u_known (C := RX6) (T := TX6) (N := 12) hz zin_6 (hz _ mk_6)
  obtain ⟨c7, i7, h7⟩ := u_known (C := RX7) (T := TX7) (N := 36) hz zin_7 (hz _ mk_7)
  obtain ⟨a0, b0, d0⟩ := st_ar (hz _ ac_int)
  obtain ⟨a1, b1, d1⟩ := st_ar (hz _ ac_byte)
  obtain ⟨a2, b2, d2⟩ := st_ar (hz _ ac_boolean)
  obtain ⟨a5, b5, d5⟩ := st_ar (hz _ ac_long)
  obtain ⟨a6, b6, d6⟩ := st_ar (hz _ ac_double)
  obtain ⟨p3, a3, k3, x1, x2, x3, x4, x5⟩ := Cond.arrayOver_spec (args := args) (first := s) (o := none) (idx := []) (hts (.arrayOver (.object "BambooBlind$Blind")) (by decide +kernel))
  obtain ⟨p4, a4, k4, y1, y2, y3, y4, y5⟩ := ao_spec (args := args) (first := s) (o := none) (idx := []) (hts (.arrayOver (.array .int)) (by decide +kernel))
  refine ⟨(fun k => List.getD [c0, c1, c2, c3, c4, c5, c6, c7] k c0, fun k => List.getD [i0, i1, i2, i3, i4, i5, i6, i7] k i0), fun k => List.getD [a0, a1, a2, a3, a4, a5, a6] k a0, fun ad base aK aV => ⟨fun k q hq => ?_, fun k q hq => ?_⟩⟩
  · have hl : k < 8 := (List.getElem?_eq_some_iff.mp hq).1
    match k, hl, hq with
    | 0, _, hq => obtain rfl := Option.some.inj hq; exact h0
    | 1, _, hq => obtain rfl := Option.some.inj hq; exact h1
    | 2, _, hq => obtain rfl := Option.some.inj hq; exact h2
    | 3, _, hq => obtain rfl := Option.some.inj hq; exact h3
    | 4, _, hq => obtain rfl := Option.some.inj hq; exact h4
    | 5, _, hq => obtain rfl := Option.some.inj hq; exact h5
    | 6, _, hq => obtain rfl := Option.some.inj hq; exact h6
    | 7, _, hq => obtain rfl := Option.some.inj hq; exact h7
    | k + 8, h, _ => exact absurd h (by omega)
  · have hl : k < 7 := (List.getElem?_eq_some_iff.mp hq).1
    match k, hl, hq with
    | 0, _, hq => obtain rfl := Option.some.inj hq; exact ⟨b0, d0⟩
    | 1, _, hq => obtain rfl := Option.some.inj hq; exact ⟨b1, d1⟩
    | 2, _, hq => obtain rfl := Option.some.inj hq; exact ⟨b2, d2⟩
    | 3, _, hq => obtain rfl := Option.some.inj hq; exact ⟨fun n z => ⟨(fun k h => by cases h), k3, x3, p3, x4⟩, k3, p3, x3, x4, x1, x5⟩
    | 4, _, hq => obtain rfl := Option.some.inj hq; exact ⟨fun n z => ⟨(fun k h => by cases h), k4, y3, p4, y4⟩, y5⟩
    | 5, _, hq => obtain rfl := Option.some.inj hq; exact ⟨b5, d5⟩
    | 6, _, hq => obtain rfl := Option.some.inj hq; exact ⟨b6, d6⟩
    | k + 7, h, _ => exact absurd h (by omega)
theorem st_n1 : ∀ q ∈ zNestL, Cond.methodLinkNest q.1 q.2.1 q.2.2.1 q.2.2.2 ∈ lw_tbl := by decide +kernel
theorem st_n2 : ∀ q ∈ zCastL, Cond.castable q q ∈ lw_tbl := by decide +kernel
theorem st_n3 : ∀ q ∈ zNcL, Cond.not (Cond.castable q.1 q.2) ∈ flatC pre0 := by decide +kernel
theorem st_n4 : ∀ q ∈ zDecL, Cond.declares q ∈ lw_tbl := by decide +kernel
theorem st_l1 : Cond.laysStatic Bundle.tN "UNASSIGNED_STACK" Bundle.steD ∈ lw_tbl := by decide +kernel
theorem st_l2 : Cond.laysStatic Bundle.tN "SUPPRESSED_SENTINEL" Bundle.listD ∈ lw_tbl := by decide +kernel
theorem st_l3 : Cond.laysStatic "java/lang/String" "COMPACT_STRINGS" "Z" ∈ lw_tbl := by decide +kernel
theorem st_l4 : Cond.laysStatic "jdk/internal/util/Preconditions" "SIOOBE_FORMATTER" "Ljava/util/function/BiFunction;" ∈ lw_tbl := by decide +kernel
theorem st_i1 : Cond.initialized Bundle.tN ∈ lw_tbl := by decide +kernel
theorem st_i2 : Cond.initialized "java/lang/String" ∈ lw_tbl := by decide +kernel
theorem st_i3 : Cond.initialized "jdk/internal/util/Preconditions" ∈ lw_tbl := by decide +kernel
theorem st_X (hgv : pre0.before args s = true) (hts : ∀ w ∈ lw_tbl, w.before args s = true) : ∃ aK aV : Nat → Nat, ∀ (D : va_G) (dA : Nat → ClassId) (ad : Nat → Nat), zX (D, dA, ad, s.heap.size, aK, aV) s s.heap := by
  have hA : ∀ a : Nat, a < s.heap.size → ¬ (fun q : Nat => s.heap.size ≤ q) a := fun a h q => by
    have q : s.heap.size ≤ a := q
    omega
  obtain ⟨aK, aV, h1, h2⟩ := st_S hgv hts hA
  refine ⟨aK, aV, fun D dA ad => ⟨fun q hq => va_Nw.of (A := args) rfl (hts _ (st_n1 q hq)), fun q hq => va_Nw.of (A := args) rfl (hts _ (st_n2 q hq)), fun q hq => va_Nc.of (flat_of_before _ hgv _ (st_n3 q hq)), h2, ?_, ?_, h1, ?_, ?_, fun q hq => va_Nw.of (A := args) rfl (hts _ (st_n4 q hq))⟩⟩
  · exact vx_Zqof (hts _ st_l1) (hts _ st_i1) (pf hgv 4 (by decide +kernel)) hA
  · exact vx_Zqof (hts _ st_l2) (hts _ st_i1) (pf hgv 5 (by decide +kernel)) hA
  · exact va_Zof (hts _ st_l3) (hts _ st_i2) (va_eqi (pf hgv 6 (by decide +kernel))) hA
  · exact va_Zqof (hts _ st_l4) (hts _ st_i3) (pf hgv 7 (by decide +kernel)) hA
end ZFa
