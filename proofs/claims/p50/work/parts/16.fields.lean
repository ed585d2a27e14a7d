def zbl (v : Int32) : Prop := v = 0 ∨ v = 1
theorem zbl_n {v : Int32} (h : zbl v) : narrow .boolean (.int v) = .int v := by rcases h with rfl | rfl <;> rfl
theorem zbl_f {v : Int32} (h : zbl v) : fits .boolean (.int v) = true := by rcases h with rfl | rfl <;> rfl
theorem zbl_0 : zbl 0 := Or.inl rfl
theorem zbl_1 : zbl 1 := Or.inr rfl
section ZF
variable {g : zG} {l : Launch} {mn : MethodName} {cc : ByteArray} {nL : Nat} {rt : Option FieldType} {dp : Nat} {hh : List (Nat × Nat × Nat × Nat)} {kb : Nat} {Q : zR → zS → Prop} {pc : Nat} {ls : List (Nat × Value)} {rest : List Value} {σ : zS}
theorem zin_0 : ∀ w ∈ u_ws RX0 TX0 16, w ∈ zT := fun w hw => by
  obtain ⟨k, hk, rfl⟩ := List.mem_map.mp hw
  have hk := List.mem_range.mp hk
  match k, hk with
  | 0, _ => exact zT_in 148 (by decide +kernel) (by decide +kernel)
  | 1, _ => exact zT_in 150 (by decide +kernel) (by decide +kernel)
  | 2, _ => exact zT_in 152 (by decide +kernel) (by decide +kernel)
  | 3, _ => exact zT_in 154 (by decide +kernel) (by decide +kernel)
  | 4, _ => exact zT_in 156 (by decide +kernel) (by decide +kernel)
  | 5, _ => exact zT_in 158 (by decide +kernel) (by decide +kernel)
  | 6, _ => exact zT_in 160 (by decide +kernel) (by decide +kernel)
  | 7, _ => exact zT_in 162 (by decide +kernel) (by decide +kernel)
  | 8, _ => exact zT_in 164 (by decide +kernel) (by decide +kernel)
  | 9, _ => exact zT_in 166 (by decide +kernel) (by decide +kernel)
  | 10, _ => exact zT_in 168 (by decide +kernel) (by decide +kernel)
  | 11, _ => exact zT_in 170 (by decide +kernel) (by decide +kernel)
  | 12, _ => exact zT_in 172 (by decide +kernel) (by decide +kernel)
  | 13, _ => exact zT_in 174 (by decide +kernel) (by decide +kernel)
  | 14, _ => exact zT_in 176 (by decide +kernel) (by decide +kernel)
  | 15, _ => exact zT_in 178 (by decide +kernel) (by decide +kernel)
  | n + 16, h => exact absurd h (by omega)
theorem zin_1 : ∀ w ∈ u_ws RX1 TX1 3, w ∈ zT := fun w hw => by
  obtain ⟨k, hk, rfl⟩ := List.mem_map.mp hw
  have hk := List.mem_range.mp hk
  match k, hk with
  | 0, _ => exact zT_in 264 (by decide +kernel) (by decide +kernel)
  | 1, _ => exact zT_in 266 (by decide +kernel) (by decide +kernel)
  | 2, _ => exact zT_in 268 (by decide +kernel) (by decide +kernel)
  | n + 3, h => exact absurd h (by omega)
theorem zin_2 : ∀ w ∈ u_ws RX2 TX2 8, w ∈ zT := fun w hw => by
  obtain ⟨k, hk, rfl⟩ := List.mem_map.mp hw
  have hk := List.mem_range.mp hk
  match k, hk with
  | 0, _ => exact zT_in 232 (by decide +kernel) (by decide +kernel)
  | 1, _ => exact zT_in 234 (by decide +kernel) (by decide +kernel)
  | 2, _ => exact zT_in 236 (by decide +kernel) (by decide +kernel)
  | 3, _ => exact zT_in 238 (by decide +kernel) (by decide +kernel)
  | 4, _ => exact zT_in 240 (by decide +kernel) (by decide +kernel)
  | 5, _ => exact zT_in 242 (by decide +kernel) (by decide +kernel)
  | 6, _ => exact zT_in 244 (by decide +kernel) (by decide +kernel)
  | 7, _ => exact zT_in 246 (by decide +kernel) (by decide +kernel)
  | n + 8, h => exact absurd h (by omega)
theorem zin_3 : ∀ w ∈ u_ws RX3 TX3 8, w ∈ zT := fun w hw => by
  obtain ⟨k, hk, rfl⟩ := List.mem_map.mp hw
  have hk := List.mem_range.mp hk
  match k, hk with
  | 0, _ => exact zT_in 81 (by decide +kernel) (by decide +kernel)
  | 1, _ => exact zT_in 83 (by decide +kernel) (by decide +kernel)
  | 2, _ => exact zT_in 85 (by decide +kernel) (by decide +kernel)
  | 3, _ => exact zT_in 87 (by decide +kernel) (by decide +kernel)
  | 4, _ => exact zT_in 89 (by decide +kernel) (by decide +kernel)
  | 5, _ => exact zT_in 91 (by decide +kernel) (by decide +kernel)
  | 6, _ => exact zT_in 93 (by decide +kernel) (by decide +kernel)
  | 7, _ => exact zT_in 95 (by decide +kernel) (by decide +kernel)
  | n + 8, h => exact absurd h (by omega)
theorem zin_4 : ∀ w ∈ u_ws RX4 TX4 11, w ∈ zT := fun w hw => by
  obtain ⟨k, hk, rfl⟩ := List.mem_map.mp hw
  have hk := List.mem_range.mp hk
  match k, hk with
  | 0, _ => exact zT_in 194 (by decide +kernel) (by decide +kernel)
  | 1, _ => exact zT_in 196 (by decide +kernel) (by decide +kernel)
  | 2, _ => exact zT_in 198 (by decide +kernel) (by decide +kernel)
  | 3, _ => exact zT_in 200 (by decide +kernel) (by decide +kernel)
  | 4, _ => exact zT_in 202 (by decide +kernel) (by decide +kernel)
  | 5, _ => exact zT_in 204 (by decide +kernel) (by decide +kernel)
  | 6, _ => exact zT_in 206 (by decide +kernel) (by decide +kernel)
  | 7, _ => exact zT_in 208 (by decide +kernel) (by decide +kernel)
  | 8, _ => exact zT_in 210 (by decide +kernel) (by decide +kernel)
  | 9, _ => exact zT_in 212 (by decide +kernel) (by decide +kernel)
  | 10, _ => exact zT_in 214 (by decide +kernel) (by decide +kernel)
  | n + 11, h => exact absurd h (by omega)
theorem zin_5 : ∀ w ∈ u_ws RX5 TX5 4, w ∈ zT := fun w hw => by
  obtain ⟨k, hk, rfl⟩ := List.mem_map.mp hw
  have hk := List.mem_range.mp hk
  match k, hk with
  | 0, _ => exact zT_in 281 (by decide +kernel) (by decide +kernel)
  | 1, _ => exact zT_in 283 (by decide +kernel) (by decide +kernel)
  | 2, _ => exact zT_in 285 (by decide +kernel) (by decide +kernel)
  | 3, _ => exact zT_in 287 (by decide +kernel) (by decide +kernel)
  | n + 4, h => exact absurd h (by omega)
theorem zin_6 : ∀ w ∈ u_ws RX6 TX6 12, w ∈ zT := fun w hw => by
  obtain ⟨k, hk, rfl⟩ := List.mem_map.mp hw
  have hk := List.mem_range.mp hk
  match k, hk with
  | 0, _ => exact zT_in 299 (by decide +kernel) (by decide +kernel)
  | 1, _ => exact zT_in 301 (by decide +kernel) (by decide +kernel)
  | 2, _ => exact zT_in 303 (by decide +kernel) (by decide +kernel)
  | 3, _ => exact zT_in 305 (by decide +kernel) (by decide +kernel)
  | 4, _ => exact zT_in 307 (by decide +kernel) (by decide +kernel)
  | 5, _ => exact zT_in 309 (by decide +kernel) (by decide +kernel)
  | 6, _ => exact zT_in 311 (by decide +kernel) (by decide +kernel)
  | 7, _ => exact zT_in 313 (by decide +kernel) (by decide +kernel)
  | 8, _ => exact zT_in 315 (by decide +kernel) (by decide +kernel)
  | 9, _ => exact zT_in 317 (by decide +kernel) (by decide +kernel)
  | 10, _ => exact zT_in 319 (by decide +kernel) (by decide +kernel)
  | 11, _ => exact zT_in 321 (by decide +kernel) (by decide +kernel)
  | n + 12, h => exact absurd h (by omega)
theorem ql_X3_9 : Cond.fieldLink RX3 9 RX3 (TX3 0).2.1 (TX3 0).2.2.1 ∈ zT := zT_in 72 (by decide +kernel) (by decide +kernel)
theorem fg_X3_9  (hm : mn.cls = RX3) (hdg : decode cc pc = .ok (.getfield 9, 3)) (z : EV g l (mn, cc, nL, rt, dp, hh) kb Q (pc + 3) ls (.ref (zad g 2) :: rest) σ) : EV g l (mn, cc, nL, rt, dp, hh) kb Q pc ls (.ref (zad g 1) :: rest) σ :=
  e_get (ci := 7) (kx := 0) (N := 8) (C := RX3) (ref := RX3) (T := TX3) (sl := zk_S) (x := some (.inl (2))) (o := 1) rfl (Nat.le_of_ble_eq_true rfl) rfl (by decide) rfl zin_3 (by rw [hm]; exact ql_X3_9) rfl hdg z
theorem ql_X6_66 : Cond.fieldLink RX6 66 RX3 (TX3 1).2.1 (TX3 1).2.2.1 ∈ zT := zT_in 73 (by decide +kernel) (by decide +kernel)
theorem fg_X6_66  (hm : mn.cls = RX6) (hdg : decode cc pc = .ok (.getfield 66, 3)) (z : EV g l (mn, cc, nL, rt, dp, hh) kb Q (pc + 3) ls (.int (σ.1 1 1) :: rest) σ) : EV g l (mn, cc, nL, rt, dp, hh) kb Q pc ls (.ref (zad g 1) :: rest) σ :=
  e_get (ci := 7) (kx := 1) (N := 8) (C := RX3) (ref := RX3) (T := TX3) (sl := zk_S) (x := none) (o := 1) rfl (Nat.le_of_ble_eq_true rfl) rfl (by decide) rfl zin_3 (by rw [hm]; exact ql_X6_66) rfl hdg z
theorem fp_X6_66  {v : Int32} (hm : mn.cls = RX6) (hdg : decode cc pc = .ok (.putfield 66, 3)) (z : EV g l (mn, cc, nL, rt, dp, hh) kb Q (pc + 3) ls rest (zup σ 1 1 v)) : EV g l (mn, cc, nL, rt, dp, hh) kb Q pc ls (.int v :: .ref (zad g 1) :: rest) σ :=
  e_put (ci := 7) (kx := 1) (N := 8) (C := RX3) (ref := RX3) (T := TX3) (ty0 := tyX3) (sl := zk_S) (o := 1) rfl (Nat.le_of_ble_eq_true rfl) rfl (by decide) rfl zin_3 tyX3_ok nmX3 rfl rfl rfl (by rw [hm]; exact ql_X6_66) rfl hdg z
theorem ql_X3_19 : Cond.fieldLink RX3 19 RX3 (TX3 1).2.1 (TX3 1).2.2.1 ∈ zT := zT_in 74 (by decide +kernel) (by decide +kernel)
theorem fg_X3_19  (hm : mn.cls = RX3) (hdg : decode cc pc = .ok (.getfield 19, 3)) (z : EV g l (mn, cc, nL, rt, dp, hh) kb Q (pc + 3) ls (.int (σ.1 1 1) :: rest) σ) : EV g l (mn, cc, nL, rt, dp, hh) kb Q pc ls (.ref (zad g 1) :: rest) σ :=
  e_get (ci := 7) (kx := 1) (N := 8) (C := RX3) (ref := RX3) (T := TX3) (sl := zk_S) (x := none) (o := 1) rfl (Nat.le_of_ble_eq_true rfl) rfl (by decide) rfl zin_3 (by rw [hm]; exact ql_X3_19) rfl hdg z
theorem fp_X3_19  {v : Int32} (hm : mn.cls = RX3) (hdg : decode cc pc = .ok (.putfield 19, 3)) (z : EV g l (mn, cc, nL, rt, dp, hh) kb Q (pc + 3) ls rest (zup σ 1 1 v)) : EV g l (mn, cc, nL, rt, dp, hh) kb Q pc ls (.int v :: .ref (zad g 1) :: rest) σ :=
  e_put (ci := 7) (kx := 1) (N := 8) (C := RX3) (ref := RX3) (T := TX3) (ty0 := tyX3) (sl := zk_S) (o := 1) rfl (Nat.le_of_ble_eq_true rfl) rfl (by decide) rfl zin_3 tyX3_ok nmX3 rfl rfl rfl (by rw [hm]; exact ql_X3_19) rfl hdg z
theorem ql_X3_38 : Cond.fieldLink RX3 38 RX3 (TX3 2).2.1 (TX3 2).2.2.1 ∈ zT := zT_in 75 (by decide +kernel) (by decide +kernel)
theorem fg_X3_38  (hm : mn.cls = RX3) (hdg : decode cc pc = .ok (.getfield 38, 3)) (z : EV g l (mn, cc, nL, rt, dp, hh) kb Q (pc + 3) ls (.int (σ.1 1 2) :: rest) σ) : EV g l (mn, cc, nL, rt, dp, hh) kb Q pc ls (.ref (zad g 1) :: rest) σ :=
  e_get (ci := 7) (kx := 2) (N := 8) (C := RX3) (ref := RX3) (T := TX3) (sl := zk_S) (x := none) (o := 1) rfl (Nat.le_of_ble_eq_true rfl) rfl (by decide) rfl zin_3 (by rw [hm]; exact ql_X3_38) rfl hdg z
theorem fp_X3_38  {v : Int32} (hm : mn.cls = RX3) (hdg : decode cc pc = .ok (.putfield 38, 3)) (z : EV g l (mn, cc, nL, rt, dp, hh) kb Q (pc + 3) ls rest (zup σ 1 2 v)) : EV g l (mn, cc, nL, rt, dp, hh) kb Q pc ls (.int v :: .ref (zad g 1) :: rest) σ :=
  e_put (ci := 7) (kx := 2) (N := 8) (C := RX3) (ref := RX3) (T := TX3) (ty0 := tyX3) (sl := zk_S) (o := 1) rfl (Nat.le_of_ble_eq_true rfl) rfl (by decide) rfl zin_3 tyX3_ok nmX3 rfl rfl rfl (by rw [hm]; exact ql_X3_38) rfl hdg z
theorem ql_X3_31 : Cond.fieldLink RX3 31 RX3 (TX3 3).2.1 (TX3 3).2.2.1 ∈ zT := zT_in 76 (by decide +kernel) (by decide +kernel)
theorem fg_X3_31  (hm : mn.cls = RX3) (hdg : decode cc pc = .ok (.getfield 31, 3)) (z : EV g l (mn, cc, nL, rt, dp, hh) kb Q (pc + 3) ls (.int (σ.1 1 3) :: rest) σ) : EV g l (mn, cc, nL, rt, dp, hh) kb Q pc ls (.ref (zad g 1) :: rest) σ :=
  e_get (ci := 7) (kx := 3) (N := 8) (C := RX3) (ref := RX3) (T := TX3) (sl := zk_S) (x := none) (o := 1) rfl (Nat.le_of_ble_eq_true rfl) rfl (by decide) rfl zin_3 (by rw [hm]; exact ql_X3_31) rfl hdg z
theorem fp_X3_31  {v : Int32} (hm : mn.cls = RX3) (hdg : decode cc pc = .ok (.putfield 31, 3)) (z : EV g l (mn, cc, nL, rt, dp, hh) kb Q (pc + 3) ls rest (zup σ 1 3 v)) : EV g l (mn, cc, nL, rt, dp, hh) kb Q pc ls (.int v :: .ref (zad g 1) :: rest) σ :=
  e_put (ci := 7) (kx := 3) (N := 8) (C := RX3) (ref := RX3) (T := TX3) (ty0 := tyX3) (sl := zk_S) (o := 1) rfl (Nat.le_of_ble_eq_true rfl) rfl (by decide) rfl zin_3 tyX3_ok nmX3 rfl rfl rfl (by rw [hm]; exact ql_X3_31) rfl hdg z
theorem ql_X3_25 : Cond.fieldLink RX3 25 RX3 (TX3 4).2.1 (TX3 4).2.2.1 ∈ zT := zT_in 77 (by decide +kernel) (by decide +kernel)
theorem fg_X3_25  (hm : mn.cls = RX3) (hdg : decode cc pc = .ok (.getfield 25, 3)) (z : EV g l (mn, cc, nL, rt, dp, hh) kb Q (pc + 3) ls (.int (σ.1 1 4) :: rest) σ) : EV g l (mn, cc, nL, rt, dp, hh) kb Q pc ls (.ref (zad g 1) :: rest) σ :=
  e_get (ci := 7) (kx := 4) (N := 8) (C := RX3) (ref := RX3) (T := TX3) (sl := zk_S) (x := none) (o := 1) rfl (Nat.le_of_ble_eq_true rfl) rfl (by decide) rfl zin_3 (by rw [hm]; exact ql_X3_25) rfl hdg z
theorem fp_X3_25  {v : Int32} (hm : mn.cls = RX3) (hdg : decode cc pc = .ok (.putfield 25, 3)) (z : EV g l (mn, cc, nL, rt, dp, hh) kb Q (pc + 3) ls rest (zup σ 1 4 v)) : EV g l (mn, cc, nL, rt, dp, hh) kb Q pc ls (.int v :: .ref (zad g 1) :: rest) σ :=
  e_put (ci := 7) (kx := 4) (N := 8) (C := RX3) (ref := RX3) (T := TX3) (ty0 := tyX3) (sl := zk_S) (o := 1) rfl (Nat.le_of_ble_eq_true rfl) rfl (by decide) rfl zin_3 tyX3_ok nmX3 rfl rfl rfl (by rw [hm]; exact ql_X3_25) rfl hdg z
theorem ql_X3_45 : Cond.fieldLink RX3 45 RX3 (TX3 5).2.1 (TX3 5).2.2.1 ∈ zT := zT_in 78 (by decide +kernel) (by decide +kernel)
theorem fg_X3_45  (hm : mn.cls = RX3) (hdg : decode cc pc = .ok (.getfield 45, 3)) (z : EV g l (mn, cc, nL, rt, dp, hh) kb Q (pc + 3) ls (.int (σ.1 1 5) :: rest) σ) : EV g l (mn, cc, nL, rt, dp, hh) kb Q pc ls (.ref (zad g 1) :: rest) σ :=
  e_get (ci := 7) (kx := 5) (N := 8) (C := RX3) (ref := RX3) (T := TX3) (sl := zk_S) (x := none) (o := 1) rfl (Nat.le_of_ble_eq_true rfl) rfl (by decide) rfl zin_3 (by rw [hm]; exact ql_X3_45) rfl hdg z
theorem fp_X3_45  {v : Int32} (hm : mn.cls = RX3) (hdg : decode cc pc = .ok (.putfield 45, 3)) (z : EV g l (mn, cc, nL, rt, dp, hh) kb Q (pc + 3) ls rest (zup σ 1 5 v)) : EV g l (mn, cc, nL, rt, dp, hh) kb Q pc ls (.int v :: .ref (zad g 1) :: rest) σ :=
  e_put (ci := 7) (kx := 5) (N := 8) (C := RX3) (ref := RX3) (T := TX3) (ty0 := tyX3) (sl := zk_S) (o := 1) rfl (Nat.le_of_ble_eq_true rfl) rfl (by decide) rfl zin_3 tyX3_ok nmX3 rfl rfl rfl (by rw [hm]; exact ql_X3_45) rfl hdg z
theorem ql_X3_22 : Cond.fieldLink RX3 22 RX3 (TX3 6).2.1 (TX3 6).2.2.1 ∈ zT := zT_in 79 (by decide +kernel) (by decide +kernel)
theorem fg_X3_22  (hm : mn.cls = RX3) (hdg : decode cc pc = .ok (.getfield 22, 3)) (z : EV g l (mn, cc, nL, rt, dp, hh) kb Q (pc + 3) ls (.int (σ.1 1 6) :: rest) σ) : EV g l (mn, cc, nL, rt, dp, hh) kb Q pc ls (.ref (zad g 1) :: rest) σ :=
  e_get (ci := 7) (kx := 6) (N := 8) (C := RX3) (ref := RX3) (T := TX3) (sl := zk_S) (x := none) (o := 1) rfl (Nat.le_of_ble_eq_true rfl) rfl (by decide) rfl zin_3 (by rw [hm]; exact ql_X3_22) rfl hdg z
theorem fp_X3_22  {v : Int32} (hm : mn.cls = RX3) (hdg : decode cc pc = .ok (.putfield 22, 3)) (z : EV g l (mn, cc, nL, rt, dp, hh) kb Q (pc + 3) ls rest (zup σ 1 6 v)) : EV g l (mn, cc, nL, rt, dp, hh) kb Q pc ls (.int v :: .ref (zad g 1) :: rest) σ :=
  e_put (ci := 7) (kx := 6) (N := 8) (C := RX3) (ref := RX3) (T := TX3) (ty0 := tyX3) (sl := zk_S) (o := 1) rfl (Nat.le_of_ble_eq_true rfl) rfl (by decide) rfl zin_3 tyX3_ok nmX3 rfl rfl rfl (by rw [hm]; exact ql_X3_22) rfl hdg z
theorem ql_X3_15 : Cond.fieldLink RX3 15 RX3 (TX3 7).2.1 (TX3 7).2.2.1 ∈ zT := zT_in 80 (by decide +kernel) (by decide +kernel)
theorem fg_X3_15  (hm : mn.cls = RX3) (hdg : decode cc pc = .ok (.getfield 15, 3)) (z : EV g l (mn, cc, nL, rt, dp, hh) kb Q (pc + 3) ls (.int (σ.1 1 7) :: rest) σ) : EV g l (mn, cc, nL, rt, dp, hh) kb Q pc ls (.ref (zad g 1) :: rest) σ :=
  e_get (ci := 7) (kx := 7) (N := 8) (C := RX3) (ref := RX3) (T := TX3) (sl := zk_S) (x := none) (o := 1) rfl (Nat.le_of_ble_eq_true rfl) rfl (by decide) rfl zin_3 (by rw [hm]; exact ql_X3_15) rfl hdg z
theorem fp_X3_15  {v : Int32} (hm : mn.cls = RX3) (hdg : decode cc pc = .ok (.putfield 15, 3)) (z : EV g l (mn, cc, nL, rt, dp, hh) kb Q (pc + 3) ls rest (zup σ 1 7 v)) : EV g l (mn, cc, nL, rt, dp, hh) kb Q pc ls (.int v :: .ref (zad g 1) :: rest) σ :=
  e_put (ci := 7) (kx := 7) (N := 8) (C := RX3) (ref := RX3) (T := TX3) (ty0 := tyX3) (sl := zk_S) (o := 1) rfl (Nat.le_of_ble_eq_true rfl) rfl (by decide) rfl zin_3 tyX3_ok nmX3 rfl rfl rfl (by rw [hm]; exact ql_X3_15) rfl hdg z
theorem ql_X0_11 : Cond.fieldLink RX0 11 RX0 (TX0 0).2.1 (TX0 0).2.2.1 ∈ zT := zT_in 111 (by decide +kernel) (by decide +kernel)
theorem fg_X0_11 {o : Nat} (hsh : zsh o = .inl (4, zkB o)) (ho : o < 163) (hm : mn.cls = RX0) (hdg : decode cc pc = .ok (.getfield 11, 3)) (z : EV g l (mn, cc, nL, rt, dp, hh) kb Q (pc + 3) ls (.int (σ.1 o 0) :: rest) σ) : EV g l (mn, cc, nL, rt, dp, hh) kb Q pc ls (.ref (zad g o) :: rest) σ :=
  e_get (ci := 4) (kx := 0) (N := 16) (C := RX0) (ref := RX0) (T := TX0) (sl := zkB o) (x := none) hsh ho rfl (by decide) rfl zin_0 (by rw [hm]; exact ql_X0_11) rfl hdg z
theorem fp_X0_11 {o : Nat} (hsh : zsh o = .inl (4, zkB o)) (ho : o < 163) {v : Int32} (hm : mn.cls = RX0) (hdg : decode cc pc = .ok (.putfield 11, 3)) (z : EV g l (mn, cc, nL, rt, dp, hh) kb Q (pc + 3) ls rest (zup σ o 0 v)) : EV g l (mn, cc, nL, rt, dp, hh) kb Q pc ls (.int v :: .ref (zad g o) :: rest) σ :=
  e_put (ci := 4) (kx := 0) (N := 16) (C := RX0) (ref := RX0) (T := TX0) (ty0 := tyX0) (sl := zkB o) hsh ho rfl (by decide) rfl zin_0 tyX0_ok nmX0 rfl rfl rfl (by rw [hm]; exact ql_X0_11) rfl hdg z
theorem ql_X4_109 : Cond.fieldLink RX4 109 RX0 (TX0 0).2.1 (TX0 0).2.2.1 ∈ zT := zT_in 112 (by decide +kernel) (by decide +kernel)
theorem fg_X4_109 {o : Nat} (hsh : zsh o = .inl (4, zkB o)) (ho : o < 163) (hm : mn.cls = RX4) (hdg : decode cc pc = .ok (.getfield 109, 3)) (z : EV g l (mn, cc, nL, rt, dp, hh) kb Q (pc + 3) ls (.int (σ.1 o 0) :: rest) σ) : EV g l (mn, cc, nL, rt, dp, hh) kb Q pc ls (.ref (zad g o) :: rest) σ :=
  e_get (ci := 4) (kx := 0) (N := 16) (C := RX0) (ref := RX0) (T := TX0) (sl := zkB o) (x := none) hsh ho rfl (by decide) rfl zin_0 (by rw [hm]; exact ql_X4_109) rfl hdg z
theorem fp_X4_109 {o : Nat} (hsh : zsh o = .inl (4, zkB o)) (ho : o < 163) {v : Int32} (hm : mn.cls = RX4) (hdg : decode cc pc = .ok (.putfield 109, 3)) (z : EV g l (mn, cc, nL, rt, dp, hh) kb Q (pc + 3) ls rest (zup σ o 0 v)) : EV g l (mn, cc, nL, rt, dp, hh) kb Q pc ls (.int v :: .ref (zad g o) :: rest) σ :=
  e_put (ci := 4) (kx := 0) (N := 16) (C := RX0) (ref := RX0) (T := TX0) (ty0 := tyX0) (sl := zkB o) hsh ho rfl (by decide) rfl zin_0 tyX0_ok nmX0 rfl rfl rfl (by rw [hm]; exact ql_X4_109) rfl hdg z
theorem ql_X6_126 : Cond.fieldLink RX6 126 RX0 (TX0 0).2.1 (TX0 0).2.2.1 ∈ zT := zT_in 113 (by decide +kernel) (by decide +kernel)
theorem fg_X6_126 {o : Nat} (hsh : zsh o = .inl (4, zkB o)) (ho : o < 163) (hm : mn.cls = RX6) (hdg : decode cc pc = .ok (.getfield 126, 3)) (z : EV g l (mn, cc, nL, rt, dp, hh) kb Q (pc + 3) ls (.int (σ.1 o 0) :: rest) σ) : EV g l (mn, cc, nL, rt, dp, hh) kb Q pc ls (.ref (zad g o) :: rest) σ :=
  e_get (ci := 4) (kx := 0) (N := 16) (C := RX0) (ref := RX0) (T := TX0) (sl := zkB o) (x := none) hsh ho rfl (by decide) rfl zin_0 (by rw [hm]; exact ql_X6_126) rfl hdg z
theorem fp_X6_126 {o : Nat} (hsh : zsh o = .inl (4, zkB o)) (ho : o < 163) {v : Int32} (hm : mn.cls = RX6) (hdg : decode cc pc = .ok (.putfield 126, 3)) (z : EV g l (mn, cc, nL, rt, dp, hh) kb Q (pc + 3) ls rest (zup σ o 0 v)) : EV g l (mn, cc, nL, rt, dp, hh) kb Q pc ls (.int v :: .ref (zad g o) :: rest) σ :=
  e_put (ci := 4) (kx := 0) (N := 16) (C := RX0) (ref := RX0) (T := TX0) (ty0 := tyX0) (sl := zkB o) hsh ho rfl (by decide) rfl zin_0 tyX0_ok nmX0 rfl rfl rfl (by rw [hm]; exact ql_X6_126) rfl hdg z
theorem ql_X5_76 : Cond.fieldLink RX5 76 RX0 (TX0 0).2.1 (TX0 0).2.2.1 ∈ zT := zT_in 114 (by decide +kernel) (by decide +kernel)
theorem fg_X5_76 {o : Nat} (hsh : zsh o = .inl (4, zkB o)) (ho : o < 163) (hm : mn.cls = RX5) (hdg : decode cc pc = .ok (.getfield 76, 3)) (z : EV g l (mn, cc, nL, rt, dp, hh) kb Q (pc + 3) ls (.int (σ.1 o 0) :: rest) σ) : EV g l (mn, cc, nL, rt, dp, hh) kb Q pc ls (.ref (zad g o) :: rest) σ :=
  e_get (ci := 4) (kx := 0) (N := 16) (C := RX0) (ref := RX0) (T := TX0) (sl := zkB o) (x := none) hsh ho rfl (by decide) rfl zin_0 (by rw [hm]; exact ql_X5_76) rfl hdg z
theorem fp_X5_76 {o : Nat} (hsh : zsh o = .inl (4, zkB o)) (ho : o < 163) {v : Int32} (hm : mn.cls = RX5) (hdg : decode cc pc = .ok (.putfield 76, 3)) (z : EV g l (mn, cc, nL, rt, dp, hh) kb Q (pc + 3) ls rest (zup σ o 0 v)) : EV g l (mn, cc, nL, rt, dp, hh) kb Q pc ls (.int v :: .ref (zad g o) :: rest) σ :=
  e_put (ci := 4) (kx := 0) (N := 16) (C := RX0) (ref := RX0) (T := TX0) (ty0 := tyX0) (sl := zkB o) hsh ho rfl (by decide) rfl zin_0 tyX0_ok nmX0 rfl rfl rfl (by rw [hm]; exact ql_X5_76) rfl hdg z
theorem ql_X0_15 : Cond.fieldLink RX0 15 RX0 (TX0 1).2.1 (TX0 1).2.2.1 ∈ zT := zT_in 115 (by decide +kernel) (by decide +kernel)
theorem fg_X0_15 {o : Nat} (hsh : zsh o = .inl (4, zkB o)) (ho : o < 163) (hm : mn.cls = RX0) (hdg : decode cc pc = .ok (.getfield 15, 3)) (z : EV g l (mn, cc, nL, rt, dp, hh) kb Q (pc + 3) ls (.int (σ.1 o 1) :: rest) σ) : EV g l (mn, cc, nL, rt, dp, hh) kb Q pc ls (.ref (zad g o) :: rest) σ :=
  e_get (ci := 4) (kx := 1) (N := 16) (C := RX0) (ref := RX0) (T := TX0) (sl := zkB o) (x := none) hsh ho rfl (by decide) rfl zin_0 (by rw [hm]; exact ql_X0_15) rfl hdg z
theorem fp_X0_15 {o : Nat} (hsh : zsh o = .inl (4, zkB o)) (ho : o < 163) {v : Int32} (hm : mn.cls = RX0) (hdg : decode cc pc = .ok (.putfield 15, 3)) (z : EV g l (mn, cc, nL, rt, dp, hh) kb Q (pc + 3) ls rest (zup σ o 1 v)) : EV g l (mn, cc, nL, rt, dp, hh) kb Q pc ls (.int v :: .ref (zad g o) :: rest) σ :=
  e_put (ci := 4) (kx := 1) (N := 16) (C := RX0) (ref := RX0) (T := TX0) (ty0 := tyX0) (sl := zkB o) hsh ho rfl (by decide) rfl zin_0 tyX0_ok nmX0 rfl rfl rfl (by rw [hm]; exact ql_X0_15) rfl hdg z
theorem ql_X4_115 : Cond.fieldLink RX4 115 RX0 (TX0 1).2.1 (TX0 1).2.2.1 ∈ zT := zT_in 116 (by decide +kernel) (by decide +kernel)
theorem fg_X4_115 {o : Nat} (hsh : zsh o = .inl (4, zkB o)) (ho : o < 163) (hm : mn.cls = RX4) (hdg : decode cc pc = .ok (.getfield 115, 3)) (z : EV g l (mn, cc, nL, rt, dp, hh) kb Q (pc + 3) ls (.int (σ.1 o 1) :: rest) σ) : EV g l (mn, cc, nL, rt, dp, hh) kb Q pc ls (.ref (zad g o) :: rest) σ :=
  e_get (ci := 4) (kx := 1) (N := 16) (C := RX0) (ref := RX0) (T := TX0) (sl := zkB o) (x := none) hsh ho rfl (by decide) rfl zin_0 (by rw [hm]; exact ql_X4_115) rfl hdg z
theorem fp_X4_115 {o : Nat} (hsh : zsh o = .inl (4, zkB o)) (ho : o < 163) {v : Int32} (hm : mn.cls = RX4) (hdg : decode cc pc = .ok (.putfield 115, 3)) (z : EV g l (mn, cc, nL, rt, dp, hh) kb Q (pc + 3) ls rest (zup σ o 1 v)) : EV g l (mn, cc, nL, rt, dp, hh) kb Q pc ls (.int v :: .ref (zad g o) :: rest) σ :=
  e_put (ci := 4) (kx := 1) (N := 16) (C := RX0) (ref := RX0) (T := TX0) (ty0 := tyX0) (sl := zkB o) hsh ho rfl (by decide) rfl zin_0 tyX0_ok nmX0 rfl rfl rfl (by rw [hm]; exact ql_X4_115) rfl hdg z
theorem ql_X6_138 : Cond.fieldLink RX6 138 RX0 (TX0 1).2.1 (TX0 1).2.2.1 ∈ zT := zT_in 117 (by decide +kernel) (by decide +kernel)
theorem fg_X6_138 {o : Nat} (hsh : zsh o = .inl (4, zkB o)) (ho : o < 163) (hm : mn.cls = RX6) (hdg : decode cc pc = .ok (.getfield 138, 3)) (z : EV g l (mn, cc, nL, rt, dp, hh) kb Q (pc + 3) ls (.int (σ.1 o 1) :: rest) σ) : EV g l (mn, cc, nL, rt, dp, hh) kb Q pc ls (.ref (zad g o) :: rest) σ :=
  e_get (ci := 4) (kx := 1) (N := 16) (C := RX0) (ref := RX0) (T := TX0) (sl := zkB o) (x := none) hsh ho rfl (by decide) rfl zin_0 (by rw [hm]; exact ql_X6_138) rfl hdg z
theorem fp_X6_138 {o : Nat} (hsh : zsh o = .inl (4, zkB o)) (ho : o < 163) {v : Int32} (hm : mn.cls = RX6) (hdg : decode cc pc = .ok (.putfield 138, 3)) (z : EV g l (mn, cc, nL, rt, dp, hh) kb Q (pc + 3) ls rest (zup σ o 1 v)) : EV g l (mn, cc, nL, rt, dp, hh) kb Q pc ls (.int v :: .ref (zad g o) :: rest) σ :=
  e_put (ci := 4) (kx := 1) (N := 16) (C := RX0) (ref := RX0) (T := TX0) (ty0 := tyX0) (sl := zkB o) hsh ho rfl (by decide) rfl zin_0 tyX0_ok nmX0 rfl rfl rfl (by rw [hm]; exact ql_X6_138) rfl hdg z
theorem ql_X5_26 : Cond.fieldLink RX5 26 RX0 (TX0 2).2.1 (TX0 2).2.2.1 ∈ zT := zT_in 118 (by decide +kernel) (by decide +kernel)
theorem fg_X5_26 {o : Nat} (hsh : zsh o = .inl (4, zkB o)) (ho : o < 163) (hm : mn.cls = RX5) (hdg : decode cc pc = .ok (.getfield 26, 3)) (z : EV g l (mn, cc, nL, rt, dp, hh) kb Q (pc + 3) ls (.int (σ.1 o 2) :: rest) σ) : EV g l (mn, cc, nL, rt, dp, hh) kb Q pc ls (.ref (zad g o) :: rest) σ :=
  e_get (ci := 4) (kx := 2) (N := 16) (C := RX0) (ref := RX0) (T := TX0) (sl := zkB o) (x := none) hsh ho rfl (by decide) rfl zin_0 (by rw [hm]; exact ql_X5_26) rfl hdg z
theorem fp_X5_26 {o : Nat} (hsh : zsh o = .inl (4, zkB o)) (ho : o < 163) {v : Int32} (hm : mn.cls = RX5) (hdg : decode cc pc = .ok (.putfield 26, 3)) (z : EV g l (mn, cc, nL, rt, dp, hh) kb Q (pc + 3) ls rest (zup σ o 2 v)) : EV g l (mn, cc, nL, rt, dp, hh) kb Q pc ls (.int v :: .ref (zad g o) :: rest) σ :=
  e_put (ci := 4) (kx := 2) (N := 16) (C := RX0) (ref := RX0) (T := TX0) (ty0 := tyX0) (sl := zkB o) hsh ho rfl (by decide) rfl zin_0 tyX0_ok nmX0 rfl rfl rfl (by rw [hm]; exact ql_X5_26) rfl hdg z
theorem ql_X0_46 : Cond.fieldLink RX0 46 RX0 (TX0 2).2.1 (TX0 2).2.2.1 ∈ zT := zT_in 119 (by decide +kernel) (by decide +kernel)
theorem fg_X0_46 {o : Nat} (hsh : zsh o = .inl (4, zkB o)) (ho : o < 163) (hm : mn.cls = RX0) (hdg : decode cc pc = .ok (.getfield 46, 3)) (z : EV g l (mn, cc, nL, rt, dp, hh) kb Q (pc + 3) ls (.int (σ.1 o 2) :: rest) σ) : EV g l (mn, cc, nL, rt, dp, hh) kb Q pc ls (.ref (zad g o) :: rest) σ :=
  e_get (ci := 4) (kx := 2) (N := 16) (C := RX0) (ref := RX0) (T := TX0) (sl := zkB o) (x := none) hsh ho rfl (by decide) rfl zin_0 (by rw [hm]; exact ql_X0_46) rfl hdg z
theorem fp_X0_46 {o : Nat} (hsh : zsh o = .inl (4, zkB o)) (ho : o < 163) {v : Int32} (hm : mn.cls = RX0) (hdg : decode cc pc = .ok (.putfield 46, 3)) (z : EV g l (mn, cc, nL, rt, dp, hh) kb Q (pc + 3) ls rest (zup σ o 2 v)) : EV g l (mn, cc, nL, rt, dp, hh) kb Q pc ls (.int v :: .ref (zad g o) :: rest) σ :=
  e_put (ci := 4) (kx := 2) (N := 16) (C := RX0) (ref := RX0) (T := TX0) (ty0 := tyX0) (sl := zkB o) hsh ho rfl (by decide) rfl zin_0 tyX0_ok nmX0 rfl rfl rfl (by rw [hm]; exact ql_X0_46) rfl hdg z
theorem ql_X6_101 : Cond.fieldLink RX6 101 RX0 (TX0 2).2.1 (TX0 2).2.2.1 ∈ zT := zT_in 120 (by decide +kernel) (by decide +kernel)
theorem fg_X6_101 {o : Nat} (hsh : zsh o = .inl (4, zkB o)) (ho : o < 163) (hm : mn.cls = RX6) (hdg : decode cc pc = .ok (.getfield 101, 3)) (z : EV g l (mn, cc, nL, rt, dp, hh) kb Q (pc + 3) ls (.int (σ.1 o 2) :: rest) σ) : EV g l (mn, cc, nL, rt, dp, hh) kb Q pc ls (.ref (zad g o) :: rest) σ :=
  e_get (ci := 4) (kx := 2) (N := 16) (C := RX0) (ref := RX0) (T := TX0) (sl := zkB o) (x := none) hsh ho rfl (by decide) rfl zin_0 (by rw [hm]; exact ql_X6_101) rfl hdg z
theorem fp_X6_101 {o : Nat} (hsh : zsh o = .inl (4, zkB o)) (ho : o < 163) {v : Int32} (hm : mn.cls = RX6) (hdg : decode cc pc = .ok (.putfield 101, 3)) (z : EV g l (mn, cc, nL, rt, dp, hh) kb Q (pc + 3) ls rest (zup σ o 2 v)) : EV g l (mn, cc, nL, rt, dp, hh) kb Q pc ls (.int v :: .ref (zad g o) :: rest) σ :=
  e_put (ci := 4) (kx := 2) (N := 16) (C := RX0) (ref := RX0) (T := TX0) (ty0 := tyX0) (sl := zkB o) hsh ho rfl (by decide) rfl zin_0 tyX0_ok nmX0 rfl rfl rfl (by rw [hm]; exact ql_X6_101) rfl hdg z
theorem ql_X4_118 : Cond.fieldLink RX4 118 RX0 (TX0 2).2.1 (TX0 2).2.2.1 ∈ zT := zT_in 121 (by decide +kernel) (by decide +kernel)
theorem fg_X4_118 {o : Nat} (hsh : zsh o = .inl (4, zkB o)) (ho : o < 163) (hm : mn.cls = RX4) (hdg : decode cc pc = .ok (.getfield 118, 3)) (z : EV g l (mn, cc, nL, rt, dp, hh) kb Q (pc + 3) ls (.int (σ.1 o 2) :: rest) σ) : EV g l (mn, cc, nL, rt, dp, hh) kb Q pc ls (.ref (zad g o) :: rest) σ :=
  e_get (ci := 4) (kx := 2) (N := 16) (C := RX0) (ref := RX0) (T := TX0) (sl := zkB o) (x := none) hsh ho rfl (by decide) rfl zin_0 (by rw [hm]; exact ql_X4_118) rfl hdg z
theorem fp_X4_118 {o : Nat} (hsh : zsh o = .inl (4, zkB o)) (ho : o < 163) {v : Int32} (hm : mn.cls = RX4) (hdg : decode cc pc = .ok (.putfield 118, 3)) (z : EV g l (mn, cc, nL, rt, dp, hh) kb Q (pc + 3) ls rest (zup σ o 2 v)) : EV g l (mn, cc, nL, rt, dp, hh) kb Q pc ls (.int v :: .ref (zad g o) :: rest) σ :=
  e_put (ci := 4) (kx := 2) (N := 16) (C := RX0) (ref := RX0) (T := TX0) (ty0 := tyX0) (sl := zkB o) hsh ho rfl (by decide) rfl zin_0 tyX0_ok nmX0 rfl rfl rfl (by rw [hm]; exact ql_X4_118) rfl hdg z
theorem ql_X0_49 : Cond.fieldLink RX0 49 RX0 (TX0 3).2.1 (TX0 3).2.2.1 ∈ zT := zT_in 122 (by decide +kernel) (by decide +kernel)
theorem fg_X0_49 {o : Nat} (hsh : zsh o = .inl (4, zkB o)) (ho : o < 163) (hm : mn.cls = RX0) (hdg : decode cc pc = .ok (.getfield 49, 3)) (z : EV g l (mn, cc, nL, rt, dp, hh) kb Q (pc + 3) ls (.int (σ.1 o 3) :: rest) σ) : EV g l (mn, cc, nL, rt, dp, hh) kb Q pc ls (.ref (zad g o) :: rest) σ :=
  e_get (ci := 4) (kx := 3) (N := 16) (C := RX0) (ref := RX0) (T := TX0) (sl := zkB o) (x := none) hsh ho rfl (by decide) rfl zin_0 (by rw [hm]; exact ql_X0_49) rfl hdg z
theorem fp_X0_49 {o : Nat} (hsh : zsh o = .inl (4, zkB o)) (ho : o < 163) {v : Int32} (hm : mn.cls = RX0) (hdg : decode cc pc = .ok (.putfield 49, 3)) (z : EV g l (mn, cc, nL, rt, dp, hh) kb Q (pc + 3) ls rest (zup σ o 3 v)) : EV g l (mn, cc, nL, rt, dp, hh) kb Q pc ls (.int v :: .ref (zad g o) :: rest) σ :=
  e_put (ci := 4) (kx := 3) (N := 16) (C := RX0) (ref := RX0) (T := TX0) (ty0 := tyX0) (sl := zkB o) hsh ho rfl (by decide) rfl zin_0 tyX0_ok nmX0 rfl rfl rfl (by rw [hm]; exact ql_X0_49) rfl hdg z
theorem ql_X5_73 : Cond.fieldLink RX5 73 RX0 (TX0 3).2.1 (TX0 3).2.2.1 ∈ zT := zT_in 123 (by decide +kernel) (by decide +kernel)
theorem fg_X5_73 {o : Nat} (hsh : zsh o = .inl (4, zkB o)) (ho : o < 163) (hm : mn.cls = RX5) (hdg : decode cc pc = .ok (.getfield 73, 3)) (z : EV g l (mn, cc, nL, rt, dp, hh) kb Q (pc + 3) ls (.int (σ.1 o 3) :: rest) σ) : EV g l (mn, cc, nL, rt, dp, hh) kb Q pc ls (.ref (zad g o) :: rest) σ :=
  e_get (ci := 4) (kx := 3) (N := 16) (C := RX0) (ref := RX0) (T := TX0) (sl := zkB o) (x := none) hsh ho rfl (by decide) rfl zin_0 (by rw [hm]; exact ql_X5_73) rfl hdg z
theorem fp_X5_73 {o : Nat} (hsh : zsh o = .inl (4, zkB o)) (ho : o < 163) {v : Int32} (hm : mn.cls = RX5) (hdg : decode cc pc = .ok (.putfield 73, 3)) (z : EV g l (mn, cc, nL, rt, dp, hh) kb Q (pc + 3) ls rest (zup σ o 3 v)) : EV g l (mn, cc, nL, rt, dp, hh) kb Q pc ls (.int v :: .ref (zad g o) :: rest) σ :=
  e_put (ci := 4) (kx := 3) (N := 16) (C := RX0) (ref := RX0) (T := TX0) (ty0 := tyX0) (sl := zkB o) hsh ho rfl (by decide) rfl zin_0 tyX0_ok nmX0 rfl rfl rfl (by rw [hm]; exact ql_X5_73) rfl hdg z
theorem ql_X6_129 : Cond.fieldLink RX6 129 RX0 (TX0 3).2.1 (TX0 3).2.2.1 ∈ zT := zT_in 124 (by decide +kernel) (by decide +kernel)
theorem fg_X6_129 {o : Nat} (hsh : zsh o = .inl (4, zkB o)) (ho : o < 163) (hm : mn.cls = RX6) (hdg : decode cc pc = .ok (.getfield 129, 3)) (z : EV g l (mn, cc, nL, rt, dp, hh) kb Q (pc + 3) ls (.int (σ.1 o 3) :: rest) σ) : EV g l (mn, cc, nL, rt, dp, hh) kb Q pc ls (.ref (zad g o) :: rest) σ :=
  e_get (ci := 4) (kx := 3) (N := 16) (C := RX0) (ref := RX0) (T := TX0) (sl := zkB o) (x := none) hsh ho rfl (by decide) rfl zin_0 (by rw [hm]; exact ql_X6_129) rfl hdg z
theorem fp_X6_129 {o : Nat} (hsh : zsh o = .inl (4, zkB o)) (ho : o < 163) {v : Int32} (hm : mn.cls = RX6) (hdg : decode cc pc = .ok (.putfield 129, 3)) (z : EV g l (mn, cc, nL, rt, dp, hh) kb Q (pc + 3) ls rest (zup σ o 3 v)) : EV g l (mn, cc, nL, rt, dp, hh) kb Q pc ls (.int v :: .ref (zad g o) :: rest) σ :=
  e_put (ci := 4) (kx := 3) (N := 16) (C := RX0) (ref := RX0) (T := TX0) (ty0 := tyX0) (sl := zkB o) hsh ho rfl (by decide) rfl zin_0 tyX0_ok nmX0 rfl rfl rfl (by rw [hm]; exact ql_X6_129) rfl hdg z
theorem ql_X4_148 : Cond.fieldLink RX4 148 RX0 (TX0 3).2.1 (TX0 3).2.2.1 ∈ zT := zT_in 125 (by decide +kernel) (by decide +kernel)
theorem fg_X4_148 {o : Nat} (hsh : zsh o = .inl (4, zkB o)) (ho : o < 163) (hm : mn.cls = RX4) (hdg : decode cc pc = .ok (.getfield 148, 3)) (z : EV g l (mn, cc, nL, rt, dp, hh) kb Q (pc + 3) ls (.int (σ.1 o 3) :: rest) σ) : EV g l (mn, cc, nL, rt, dp, hh) kb Q pc ls (.ref (zad g o) :: rest) σ :=
  e_get (ci := 4) (kx := 3) (N := 16) (C := RX0) (ref := RX0) (T := TX0) (sl := zkB o) (x := none) hsh ho rfl (by decide) rfl zin_0 (by rw [hm]; exact ql_X4_148) rfl hdg z
theorem fp_X4_148 {o : Nat} (hsh : zsh o = .inl (4, zkB o)) (ho : o < 163) {v : Int32} (hm : mn.cls = RX4) (hdg : decode cc pc = .ok (.putfield 148, 3)) (z : EV g l (mn, cc, nL, rt, dp, hh) kb Q (pc + 3) ls rest (zup σ o 3 v)) : EV g l (mn, cc, nL, rt, dp, hh) kb Q pc ls (.int v :: .ref (zad g o) :: rest) σ :=
  e_put (ci := 4) (kx := 3) (N := 16) (C := RX0) (ref := RX0) (T := TX0) (ty0 := tyX0) (sl := zkB o) hsh ho rfl (by decide) rfl zin_0 tyX0_ok nmX0 rfl rfl rfl (by rw [hm]; exact ql_X4_148) rfl hdg z
theorem ql_X0_52 : Cond.fieldLink RX0 52 RX0 (TX0 4).2.1 (TX0 4).2.2.1 ∈ zT := zT_in 126 (by decide +kernel) (by decide +kernel)
theorem fg_X0_52 {o : Nat} (hsh : zsh o = .inl (4, zkB o)) (ho : o < 163) (hm : mn.cls = RX0) (hdg : decode cc pc = .ok (.getfield 52, 3)) (z : EV g l (mn, cc, nL, rt, dp, hh) kb Q (pc + 3) ls (.int (σ.1 o 4) :: rest) σ) : EV g l (mn, cc, nL, rt, dp, hh) kb Q pc ls (.ref (zad g o) :: rest) σ :=
  e_get (ci := 4) (kx := 4) (N := 16) (C := RX0) (ref := RX0) (T := TX0) (sl := zkB o) (x := none) hsh ho rfl (by decide) rfl zin_0 (by rw [hm]; exact ql_X0_52) rfl hdg z
theorem fp_X0_52 {o : Nat} (hsh : zsh o = .inl (4, zkB o)) (ho : o < 163) {v : Int32} (hm : mn.cls = RX0) (hdg : decode cc pc = .ok (.putfield 52, 3)) (z : EV g l (mn, cc, nL, rt, dp, hh) kb Q (pc + 3) ls rest (zup σ o 4 v)) : EV g l (mn, cc, nL, rt, dp, hh) kb Q pc ls (.int v :: .ref (zad g o) :: rest) σ :=
  e_put (ci := 4) (kx := 4) (N := 16) (C := RX0) (ref := RX0) (T := TX0) (ty0 := tyX0) (sl := zkB o) hsh ho rfl (by decide) rfl zin_0 tyX0_ok nmX0 rfl rfl rfl (by rw [hm]; exact ql_X0_52) rfl hdg z
theorem ql_X6_132 : Cond.fieldLink RX6 132 RX0 (TX0 4).2.1 (TX0 4).2.2.1 ∈ zT := zT_in 127 (by decide +kernel) (by decide +kernel)
theorem fg_X6_132 {o : Nat} (hsh : zsh o = .inl (4, zkB o)) (ho : o < 163) (hm : mn.cls = RX6) (hdg : decode cc pc = .ok (.getfield 132, 3)) (z : EV g l (mn, cc, nL, rt, dp, hh) kb Q (pc + 3) ls (.int (σ.1 o 4) :: rest) σ) : EV g l (mn, cc, nL, rt, dp, hh) kb Q pc ls (.ref (zad g o) :: rest) σ :=
  e_get (ci := 4) (kx := 4) (N := 16) (C := RX0) (ref := RX0) (T := TX0) (sl := zkB o) (x := none) hsh ho rfl (by decide) rfl zin_0 (by rw [hm]; exact ql_X6_132) rfl hdg z
theorem fp_X6_132 {o : Nat} (hsh : zsh o = .inl (4, zkB o)) (ho : o < 163) {v : Int32} (hm : mn.cls = RX6) (hdg : decode cc pc = .ok (.putfield 132, 3)) (z : EV g l (mn, cc, nL, rt, dp, hh) kb Q (pc + 3) ls rest (zup σ o 4 v)) : EV g l (mn, cc, nL, rt, dp, hh) kb Q pc ls (.int v :: .ref (zad g o) :: rest) σ :=
  e_put (ci := 4) (kx := 4) (N := 16) (C := RX0) (ref := RX0) (T := TX0) (ty0 := tyX0) (sl := zkB o) hsh ho rfl (by decide) rfl zin_0 tyX0_ok nmX0 rfl rfl rfl (by rw [hm]; exact ql_X6_132) rfl hdg z
theorem ql_X0_55 : Cond.fieldLink RX0 55 RX0 (TX0 5).2.1 (TX0 5).2.2.1 ∈ zT := zT_in 128 (by decide +kernel) (by decide +kernel)
theorem fg_X0_55 {o : Nat} (hsh : zsh o = .inl (4, zkB o)) (ho : o < 163) (hm : mn.cls = RX0) (hdg : decode cc pc = .ok (.getfield 55, 3)) (z : EV g l (mn, cc, nL, rt, dp, hh) kb Q (pc + 3) ls (.int (σ.1 o 5) :: rest) σ) : EV g l (mn, cc, nL, rt, dp, hh) kb Q pc ls (.ref (zad g o) :: rest) σ :=
  e_get (ci := 4) (kx := 5) (N := 16) (C := RX0) (ref := RX0) (T := TX0) (sl := zkB o) (x := none) hsh ho rfl (by decide) rfl zin_0 (by rw [hm]; exact ql_X0_55) rfl hdg z
theorem fp_X0_55 {o : Nat} (hsh : zsh o = .inl (4, zkB o)) (ho : o < 163) {v : Int32} (hm : mn.cls = RX0) (hdg : decode cc pc = .ok (.putfield 55, 3)) (z : EV g l (mn, cc, nL, rt, dp, hh) kb Q (pc + 3) ls rest (zup σ o 5 v)) : EV g l (mn, cc, nL, rt, dp, hh) kb Q pc ls (.int v :: .ref (zad g o) :: rest) σ :=
  e_put (ci := 4) (kx := 5) (N := 16) (C := RX0) (ref := RX0) (T := TX0) (ty0 := tyX0) (sl := zkB o) hsh ho rfl (by decide) rfl zin_0 tyX0_ok nmX0 rfl rfl rfl (by rw [hm]; exact ql_X0_55) rfl hdg z
theorem ql_X6_135 : Cond.fieldLink RX6 135 RX0 (TX0 5).2.1 (TX0 5).2.2.1 ∈ zT := zT_in 129 (by decide +kernel) (by decide +kernel)
theorem fg_X6_135 {o : Nat} (hsh : zsh o = .inl (4, zkB o)) (ho : o < 163) (hm : mn.cls = RX6) (hdg : decode cc pc = .ok (.getfield 135, 3)) (z : EV g l (mn, cc, nL, rt, dp, hh) kb Q (pc + 3) ls (.int (σ.1 o 5) :: rest) σ) : EV g l (mn, cc, nL, rt, dp, hh) kb Q pc ls (.ref (zad g o) :: rest) σ :=
  e_get (ci := 4) (kx := 5) (N := 16) (C := RX0) (ref := RX0) (T := TX0) (sl := zkB o) (x := none) hsh ho rfl (by decide) rfl zin_0 (by rw [hm]; exact ql_X6_135) rfl hdg z
theorem fp_X6_135 {o : Nat} (hsh : zsh o = .inl (4, zkB o)) (ho : o < 163) {v : Int32} (hm : mn.cls = RX6) (hdg : decode cc pc = .ok (.putfield 135, 3)) (z : EV g l (mn, cc, nL, rt, dp, hh) kb Q (pc + 3) ls rest (zup σ o 5 v)) : EV g l (mn, cc, nL, rt, dp, hh) kb Q pc ls (.int v :: .ref (zad g o) :: rest) σ :=
  e_put (ci := 4) (kx := 5) (N := 16) (C := RX0) (ref := RX0) (T := TX0) (ty0 := tyX0) (sl := zkB o) hsh ho rfl (by decide) rfl zin_0 tyX0_ok nmX0 rfl rfl rfl (by rw [hm]; exact ql_X6_135) rfl hdg z
theorem ql_X0_58 : Cond.fieldLink RX0 58 RX0 (TX0 6).2.1 (TX0 6).2.2.1 ∈ zT := zT_in 130 (by decide +kernel) (by decide +kernel)
theorem fg_X0_58 {o : Nat} (hsh : zsh o = .inl (4, zkB o)) (ho : o < 163) (hm : mn.cls = RX0) (hdg : decode cc pc = .ok (.getfield 58, 3)) (z : EV g l (mn, cc, nL, rt, dp, hh) kb Q (pc + 3) ls (.int (σ.1 o 6) :: rest) σ) : EV g l (mn, cc, nL, rt, dp, hh) kb Q pc ls (.ref (zad g o) :: rest) σ :=
  e_get (ci := 4) (kx := 6) (N := 16) (C := RX0) (ref := RX0) (T := TX0) (sl := zkB o) (x := none) hsh ho rfl (by decide) rfl zin_0 (by rw [hm]; exact ql_X0_58) rfl hdg z
theorem fp_X0_58 {o : Nat} (hsh : zsh o = .inl (4, zkB o)) (ho : o < 163) {v : Int32} (hm : mn.cls = RX0) (hdg : decode cc pc = .ok (.putfield 58, 3)) (z : EV g l (mn, cc, nL, rt, dp, hh) kb Q (pc + 3) ls rest (zup σ o 6 v)) : EV g l (mn, cc, nL, rt, dp, hh) kb Q pc ls (.int v :: .ref (zad g o) :: rest) σ :=
  e_put (ci := 4) (kx := 6) (N := 16) (C := RX0) (ref := RX0) (T := TX0) (ty0 := tyX0) (sl := zkB o) hsh ho rfl (by decide) rfl zin_0 tyX0_ok nmX0 rfl rfl rfl (by rw [hm]; exact ql_X0_58) rfl hdg z
theorem ql_X6_141 : Cond.fieldLink RX6 141 RX0 (TX0 6).2.1 (TX0 6).2.2.1 ∈ zT := zT_in 131 (by decide +kernel) (by decide +kernel)
theorem fg_X6_141 {o : Nat} (hsh : zsh o = .inl (4, zkB o)) (ho : o < 163) (hm : mn.cls = RX6) (hdg : decode cc pc = .ok (.getfield 141, 3)) (z : EV g l (mn, cc, nL, rt, dp, hh) kb Q (pc + 3) ls (.int (σ.1 o 6) :: rest) σ) : EV g l (mn, cc, nL, rt, dp, hh) kb Q pc ls (.ref (zad g o) :: rest) σ :=
  e_get (ci := 4) (kx := 6) (N := 16) (C := RX0) (ref := RX0) (T := TX0) (sl := zkB o) (x := none) hsh ho rfl (by decide) rfl zin_0 (by rw [hm]; exact ql_X6_141) rfl hdg z
theorem fp_X6_141 {o : Nat} (hsh : zsh o = .inl (4, zkB o)) (ho : o < 163) {v : Int32} (hm : mn.cls = RX6) (hdg : decode cc pc = .ok (.putfield 141, 3)) (z : EV g l (mn, cc, nL, rt, dp, hh) kb Q (pc + 3) ls rest (zup σ o 6 v)) : EV g l (mn, cc, nL, rt, dp, hh) kb Q pc ls (.int v :: .ref (zad g o) :: rest) σ :=
  e_put (ci := 4) (kx := 6) (N := 16) (C := RX0) (ref := RX0) (T := TX0) (ty0 := tyX0) (sl := zkB o) hsh ho rfl (by decide) rfl zin_0 tyX0_ok nmX0 rfl rfl rfl (by rw [hm]; exact ql_X6_141) rfl hdg z
theorem ql_X0_18 : Cond.fieldLink RX0 18 RX0 (TX0 7).2.1 (TX0 7).2.2.1 ∈ zT := zT_in 132 (by decide +kernel) (by decide +kernel)
theorem fg_X0_18 {o : Nat} (hsh : zsh o = .inl (4, zkB o)) (ho : o < 163) (hm : mn.cls = RX0) (hdg : decode cc pc = .ok (.getfield 18, 3)) (z : EV g l (mn, cc, nL, rt, dp, hh) kb Q (pc + 3) ls (.ref (zad g (o + 1)) :: rest) σ) : EV g l (mn, cc, nL, rt, dp, hh) kb Q pc ls (.ref (zad g o) :: rest) σ :=
  e_get (ci := 4) (kx := 7) (N := 16) (C := RX0) (ref := RX0) (T := TX0) (sl := zkB o) (x := some (.inl (o + 1))) hsh ho rfl (by decide) rfl zin_0 (by rw [hm]; exact ql_X0_18) rfl hdg z
theorem ql_X5_45 : Cond.fieldLink RX5 45 RX0 (TX0 7).2.1 (TX0 7).2.2.1 ∈ zT := zT_in 133 (by decide +kernel) (by decide +kernel)
theorem fg_X5_45 {o : Nat} (hsh : zsh o = .inl (4, zkB o)) (ho : o < 163) (hm : mn.cls = RX5) (hdg : decode cc pc = .ok (.getfield 45, 3)) (z : EV g l (mn, cc, nL, rt, dp, hh) kb Q (pc + 3) ls (.ref (zad g (o + 1)) :: rest) σ) : EV g l (mn, cc, nL, rt, dp, hh) kb Q pc ls (.ref (zad g o) :: rest) σ :=
  e_get (ci := 4) (kx := 7) (N := 16) (C := RX0) (ref := RX0) (T := TX0) (sl := zkB o) (x := some (.inl (o + 1))) hsh ho rfl (by decide) rfl zin_0 (by rw [hm]; exact ql_X5_45) rfl hdg z
theorem ql_X6_169 : Cond.fieldLink RX6 169 RX0 (TX0 7).2.1 (TX0 7).2.2.1 ∈ zT := zT_in 134 (by decide +kernel) (by decide +kernel)
theorem fg_X6_169 {o : Nat} (hsh : zsh o = .inl (4, zkB o)) (ho : o < 163) (hm : mn.cls = RX6) (hdg : decode cc pc = .ok (.getfield 169, 3)) (z : EV g l (mn, cc, nL, rt, dp, hh) kb Q (pc + 3) ls (.ref (zad g (o + 1)) :: rest) σ) : EV g l (mn, cc, nL, rt, dp, hh) kb Q pc ls (.ref (zad g o) :: rest) σ :=
  e_get (ci := 4) (kx := 7) (N := 16) (C := RX0) (ref := RX0) (T := TX0) (sl := zkB o) (x := some (.inl (o + 1))) hsh ho rfl (by decide) rfl zin_0 (by rw [hm]; exact ql_X6_169) rfl hdg z
theorem ql_X0_22 : Cond.fieldLink RX0 22 RX0 (TX0 8).2.1 (TX0 8).2.2.1 ∈ zT := zT_in 135 (by decide +kernel) (by decide +kernel)
theorem fg_X0_22 {o : Nat} (hsh : zsh o = .inl (4, zkB o)) (ho : o < 163) (hm : mn.cls = RX0) (hdg : decode cc pc = .ok (.getfield 22, 3)) (z : EV g l (mn, cc, nL, rt, dp, hh) kb Q (pc + 3) ls (.ref (zad g (o + 2)) :: rest) σ) : EV g l (mn, cc, nL, rt, dp, hh) kb Q pc ls (.ref (zad g o) :: rest) σ :=
  e_get (ci := 4) (kx := 8) (N := 16) (C := RX0) (ref := RX0) (T := TX0) (sl := zkB o) (x := some (.inl (o + 2))) hsh ho rfl (by decide) rfl zin_0 (by rw [hm]; exact ql_X0_22) rfl hdg z
theorem ql_X5_56 : Cond.fieldLink RX5 56 RX0 (TX0 8).2.1 (TX0 8).2.2.1 ∈ zT := zT_in 136 (by decide +kernel) (by decide +kernel)
theorem fg_X5_56 {o : Nat} (hsh : zsh o = .inl (4, zkB o)) (ho : o < 163) (hm : mn.cls = RX5) (hdg : decode cc pc = .ok (.getfield 56, 3)) (z : EV g l (mn, cc, nL, rt, dp, hh) kb Q (pc + 3) ls (.ref (zad g (o + 2)) :: rest) σ) : EV g l (mn, cc, nL, rt, dp, hh) kb Q pc ls (.ref (zad g o) :: rest) σ :=
  e_get (ci := 4) (kx := 8) (N := 16) (C := RX0) (ref := RX0) (T := TX0) (sl := zkB o) (x := some (.inl (o + 2))) hsh ho rfl (by decide) rfl zin_0 (by rw [hm]; exact ql_X5_56) rfl hdg z
theorem ql_X6_172 : Cond.fieldLink RX6 172 RX0 (TX0 8).2.1 (TX0 8).2.2.1 ∈ zT := zT_in 137 (by decide +kernel) (by decide +kernel)
theorem fg_X6_172 {o : Nat} (hsh : zsh o = .inl (4, zkB o)) (ho : o < 163) (hm : mn.cls = RX6) (hdg : decode cc pc = .ok (.getfield 172, 3)) (z : EV g l (mn, cc, nL, rt, dp, hh) kb Q (pc + 3) ls (.ref (zad g (o + 2)) :: rest) σ) : EV g l (mn, cc, nL, rt, dp, hh) kb Q pc ls (.ref (zad g o) :: rest) σ :=
  e_get (ci := 4) (kx := 8) (N := 16) (C := RX0) (ref := RX0) (T := TX0) (sl := zkB o) (x := some (.inl (o + 2))) hsh ho rfl (by decide) rfl zin_0 (by rw [hm]; exact ql_X6_172) rfl hdg z
theorem ql_X0_25 : Cond.fieldLink RX0 25 RX0 (TX0 9).2.1 (TX0 9).2.2.1 ∈ zT := zT_in 138 (by decide +kernel) (by decide +kernel)
theorem fg_X0_25 {o : Nat} (hsh : zsh o = .inl (4, zkB o)) (ho : o < 163) (hm : mn.cls = RX0) (hdg : decode cc pc = .ok (.getfield 25, 3)) (z : EV g l (mn, cc, nL, rt, dp, hh) kb Q (pc + 3) ls (.ref (zad g (o + 3)) :: rest) σ) : EV g l (mn, cc, nL, rt, dp, hh) kb Q pc ls (.ref (zad g o) :: rest) σ :=
  e_get (ci := 4) (kx := 9) (N := 16) (C := RX0) (ref := RX0) (T := TX0) (sl := zkB o) (x := some (.inl (o + 3))) hsh ho rfl (by decide) rfl zin_0 (by rw [hm]; exact ql_X0_25) rfl hdg z
theorem ql_X6_175 : Cond.fieldLink RX6 175 RX0 (TX0 9).2.1 (TX0 9).2.2.1 ∈ zT := zT_in 139 (by decide +kernel) (by decide +kernel)
theorem fg_X6_175 {o : Nat} (hsh : zsh o = .inl (4, zkB o)) (ho : o < 163) (hm : mn.cls = RX6) (hdg : decode cc pc = .ok (.getfield 175, 3)) (z : EV g l (mn, cc, nL, rt, dp, hh) kb Q (pc + 3) ls (.ref (zad g (o + 3)) :: rest) σ) : EV g l (mn, cc, nL, rt, dp, hh) kb Q pc ls (.ref (zad g o) :: rest) σ :=
  e_get (ci := 4) (kx := 9) (N := 16) (C := RX0) (ref := RX0) (T := TX0) (sl := zkB o) (x := some (.inl (o + 3))) hsh ho rfl (by decide) rfl zin_0 (by rw [hm]; exact ql_X6_175) rfl hdg z
theorem ql_X0_28 : Cond.fieldLink RX0 28 RX0 (TX0 10).2.1 (TX0 10).2.2.1 ∈ zT := zT_in 140 (by decide +kernel) (by decide +kernel)
theorem fg_X0_28 {o : Nat} (hsh : zsh o = .inl (4, zkB o)) (ho : o < 163) (hm : mn.cls = RX0) (hdg : decode cc pc = .ok (.getfield 28, 3)) (z : EV g l (mn, cc, nL, rt, dp, hh) kb Q (pc + 3) ls (.ref (zad g (o + 4)) :: rest) σ) : EV g l (mn, cc, nL, rt, dp, hh) kb Q pc ls (.ref (zad g o) :: rest) σ :=
  e_get (ci := 4) (kx := 10) (N := 16) (C := RX0) (ref := RX0) (T := TX0) (sl := zkB o) (x := some (.inl (o + 4))) hsh ho rfl (by decide) rfl zin_0 (by rw [hm]; exact ql_X0_28) rfl hdg z
theorem ql_X6_181 : Cond.fieldLink RX6 181 RX0 (TX0 10).2.1 (TX0 10).2.2.1 ∈ zT := zT_in 141 (by decide +kernel) (by decide +kernel)
theorem fg_X6_181 {o : Nat} (hsh : zsh o = .inl (4, zkB o)) (ho : o < 163) (hm : mn.cls = RX6) (hdg : decode cc pc = .ok (.getfield 181, 3)) (z : EV g l (mn, cc, nL, rt, dp, hh) kb Q (pc + 3) ls (.ref (zad g (o + 4)) :: rest) σ) : EV g l (mn, cc, nL, rt, dp, hh) kb Q pc ls (.ref (zad g o) :: rest) σ :=
  e_get (ci := 4) (kx := 10) (N := 16) (C := RX0) (ref := RX0) (T := TX0) (sl := zkB o) (x := some (.inl (o + 4))) hsh ho rfl (by decide) rfl zin_0 (by rw [hm]; exact ql_X6_181) rfl hdg z
theorem ql_X0_31 : Cond.fieldLink RX0 31 RX0 (TX0 11).2.1 (TX0 11).2.2.1 ∈ zT := zT_in 142 (by decide +kernel) (by decide +kernel)
theorem fg_X0_31 {o : Nat} (hsh : zsh o = .inl (4, zkB o)) (ho : o < 163) (hm : mn.cls = RX0) (hdg : decode cc pc = .ok (.getfield 31, 3)) (z : EV g l (mn, cc, nL, rt, dp, hh) kb Q (pc + 3) ls (.ref (zad g (o + 5)) :: rest) σ) : EV g l (mn, cc, nL, rt, dp, hh) kb Q pc ls (.ref (zad g o) :: rest) σ :=
  e_get (ci := 4) (kx := 11) (N := 16) (C := RX0) (ref := RX0) (T := TX0) (sl := zkB o) (x := some (.inl (o + 5))) hsh ho rfl (by decide) rfl zin_0 (by rw [hm]; exact ql_X0_31) rfl hdg z
theorem ql_X6_184 : Cond.fieldLink RX6 184 RX0 (TX0 11).2.1 (TX0 11).2.2.1 ∈ zT := zT_in 143 (by decide +kernel) (by decide +kernel)
theorem fg_X6_184 {o : Nat} (hsh : zsh o = .inl (4, zkB o)) (ho : o < 163) (hm : mn.cls = RX6) (hdg : decode cc pc = .ok (.getfield 184, 3)) (z : EV g l (mn, cc, nL, rt, dp, hh) kb Q (pc + 3) ls (.ref (zad g (o + 5)) :: rest) σ) : EV g l (mn, cc, nL, rt, dp, hh) kb Q pc ls (.ref (zad g o) :: rest) σ :=
  e_get (ci := 4) (kx := 11) (N := 16) (C := RX0) (ref := RX0) (T := TX0) (sl := zkB o) (x := some (.inl (o + 5))) hsh ho rfl (by decide) rfl zin_0 (by rw [hm]; exact ql_X6_184) rfl hdg z
theorem ql_X0_34 : Cond.fieldLink RX0 34 RX0 (TX0 12).2.1 (TX0 12).2.2.1 ∈ zT := zT_in 144 (by decide +kernel) (by decide +kernel)
theorem fg_X0_34 {o : Nat} (hsh : zsh o = .inl (4, zkB o)) (ho : o < 163) (hm : mn.cls = RX0) (hdg : decode cc pc = .ok (.getfield 34, 3)) (z : EV g l (mn, cc, nL, rt, dp, hh) kb Q (pc + 3) ls (.ref (zad g (o + 6)) :: rest) σ) : EV g l (mn, cc, nL, rt, dp, hh) kb Q pc ls (.ref (zad g o) :: rest) σ :=
  e_get (ci := 4) (kx := 12) (N := 16) (C := RX0) (ref := RX0) (T := TX0) (sl := zkB o) (x := some (.inl (o + 6))) hsh ho rfl (by decide) rfl zin_0 (by rw [hm]; exact ql_X0_34) rfl hdg z
theorem ql_X0_37 : Cond.fieldLink RX0 37 RX0 (TX0 13).2.1 (TX0 13).2.2.1 ∈ zT := zT_in 145 (by decide +kernel) (by decide +kernel)
theorem fg_X0_37 {o : Nat} (hsh : zsh o = .inl (4, zkB o)) (ho : o < 163) (hm : mn.cls = RX0) (hdg : decode cc pc = .ok (.getfield 37, 3)) (z : EV g l (mn, cc, nL, rt, dp, hh) kb Q (pc + 3) ls (.ref (zad g (o + 7)) :: rest) σ) : EV g l (mn, cc, nL, rt, dp, hh) kb Q pc ls (.ref (zad g o) :: rest) σ :=
  e_get (ci := 4) (kx := 13) (N := 16) (C := RX0) (ref := RX0) (T := TX0) (sl := zkB o) (x := some (.inl (o + 7))) hsh ho rfl (by decide) rfl zin_0 (by rw [hm]; exact ql_X0_37) rfl hdg z
theorem ql_X0_40 : Cond.fieldLink RX0 40 RX0 (TX0 14).2.1 (TX0 14).2.2.1 ∈ zT := zT_in 146 (by decide +kernel) (by decide +kernel)
theorem fg_X0_40 {o : Nat} (hsh : zsh o = .inl (4, zkB o)) (ho : o < 163) (hm : mn.cls = RX0) (hdg : decode cc pc = .ok (.getfield 40, 3)) (z : EV g l (mn, cc, nL, rt, dp, hh) kb Q (pc + 3) ls (.ref (zad g (o + 8)) :: rest) σ) : EV g l (mn, cc, nL, rt, dp, hh) kb Q pc ls (.ref (zad g o) :: rest) σ :=
  e_get (ci := 4) (kx := 14) (N := 16) (C := RX0) (ref := RX0) (T := TX0) (sl := zkB o) (x := some (.inl (o + 8))) hsh ho rfl (by decide) rfl zin_0 (by rw [hm]; exact ql_X0_40) rfl hdg z
theorem ql_X0_43 : Cond.fieldLink RX0 43 RX0 (TX0 15).2.1 (TX0 15).2.2.1 ∈ zT := zT_in 147 (by decide +kernel) (by decide +kernel)
theorem fg_X0_43 {o : Nat} (hsh : zsh o = .inl (4, zkB o)) (ho : o < 163) (hm : mn.cls = RX0) (hdg : decode cc pc = .ok (.getfield 43, 3)) (z : EV g l (mn, cc, nL, rt, dp, hh) kb Q (pc + 3) ls (.ref (zad g (o + 9)) :: rest) σ) : EV g l (mn, cc, nL, rt, dp, hh) kb Q pc ls (.ref (zad g o) :: rest) σ :=
  e_get (ci := 4) (kx := 15) (N := 16) (C := RX0) (ref := RX0) (T := TX0) (sl := zkB o) (x := some (.inl (o + 9))) hsh ho rfl (by decide) rfl zin_0 (by rw [hm]; exact ql_X0_43) rfl hdg z
theorem ql_X4_38 : Cond.fieldLink RX4 38 RX4 (TX4 0).2.1 (TX4 0).2.2.1 ∈ zT := zT_in 182 (by decide +kernel) (by decide +kernel)
theorem fg_X4_38  (hm : mn.cls = RX4) (hdg : decode cc pc = .ok (.getfield 38, 3)) (z : EV g l (mn, cc, nL, rt, dp, hh) kb Q (pc + 3) ls (.ref (zad g 1) :: rest) σ) : EV g l (mn, cc, nL, rt, dp, hh) kb Q pc ls (.ref (zad g 3) :: rest) σ :=
  e_get (ci := 8) (kx := 0) (N := 11) (C := RX4) (ref := RX4) (T := TX4) (sl := zk_T) (x := some (.inl (1))) (o := 3) rfl (Nat.le_of_ble_eq_true rfl) rfl (by decide) rfl zin_4 (by rw [hm]; exact ql_X4_38) rfl hdg z
theorem ql_X4_12 : Cond.fieldLink RX4 12 RX4 (TX4 1).2.1 (TX4 1).2.2.1 ∈ zT := zT_in 183 (by decide +kernel) (by decide +kernel)
theorem fg_X4_12  (hm : mn.cls = RX4) (hdg : decode cc pc = .ok (.getfield 12, 3)) (z : EV g l (mn, cc, nL, rt, dp, hh) kb Q (pc + 3) ls (.ref (zad g 93) :: rest) σ) : EV g l (mn, cc, nL, rt, dp, hh) kb Q pc ls (.ref (zad g 3) :: rest) σ :=
  e_get (ci := 8) (kx := 1) (N := 11) (C := RX4) (ref := RX4) (T := TX4) (sl := zk_T) (x := some (.inl (93))) (o := 3) rfl (Nat.le_of_ble_eq_true rfl) rfl (by decide) rfl zin_4 (by rw [hm]; exact ql_X4_12) rfl hdg z
theorem ql_X6_92 : Cond.fieldLink RX6 92 RX4 (TX4 1).2.1 (TX4 1).2.2.1 ∈ zT := zT_in 184 (by decide +kernel) (by decide +kernel)
theorem fg_X6_92  (hm : mn.cls = RX6) (hdg : decode cc pc = .ok (.getfield 92, 3)) (z : EV g l (mn, cc, nL, rt, dp, hh) kb Q (pc + 3) ls (.ref (zad g 93) :: rest) σ) : EV g l (mn, cc, nL, rt, dp, hh) kb Q pc ls (.ref (zad g 3) :: rest) σ :=
  e_get (ci := 8) (kx := 1) (N := 11) (C := RX4) (ref := RX4) (T := TX4) (sl := zk_T) (x := some (.inl (93))) (o := 3) rfl (Nat.le_of_ble_eq_true rfl) rfl (by decide) rfl zin_4 (by rw [hm]; exact ql_X6_92) rfl hdg z
theorem ql_X4_45 : Cond.fieldLink RX4 45 RX4 (TX4 2).2.1 (TX4 2).2.2.1 ∈ zT := zT_in 185 (by decide +kernel) (by decide +kernel)
theorem fg_X4_45  (hm : mn.cls = RX4) (hdg : decode cc pc = .ok (.getfield 45, 3)) (z : EV g l (mn, cc, nL, rt, dp, hh) kb Q (pc + 3) ls (.int (σ.1 3 2) :: rest) σ) : EV g l (mn, cc, nL, rt, dp, hh) kb Q pc ls (.ref (zad g 3) :: rest) σ :=
  e_get (ci := 8) (kx := 2) (N := 11) (C := RX4) (ref := RX4) (T := TX4) (sl := zk_T) (x := none) (o := 3) rfl (Nat.le_of_ble_eq_true rfl) rfl (by decide) rfl zin_4 (by rw [hm]; exact ql_X4_45) rfl hdg z
theorem fp_X4_45  {v : Int32} (hn : zbl v) (hm : mn.cls = RX4) (hdg : decode cc pc = .ok (.putfield 45, 3)) (z : EV g l (mn, cc, nL, rt, dp, hh) kb Q (pc + 3) ls rest (zup σ 3 2 v)) : EV g l (mn, cc, nL, rt, dp, hh) kb Q pc ls (.int v :: .ref (zad g 3) :: rest) σ :=
  e_put (ci := 8) (kx := 2) (N := 11) (C := RX4) (ref := RX4) (T := TX4) (ty0 := tyX4) (sl := zk_T) (o := 3) rfl (Nat.le_of_ble_eq_true rfl) rfl (by decide) rfl zin_4 tyX4_ok nmX4 rfl (zbl_n hn) (zbl_f hn) (by rw [hm]; exact ql_X4_45) rfl hdg z
theorem ql_X4_49 : Cond.fieldLink RX4 49 RX4 (TX4 3).2.1 (TX4 3).2.2.1 ∈ zT := zT_in 186 (by decide +kernel) (by decide +kernel)
theorem fg_X4_49  (hm : mn.cls = RX4) (hdg : decode cc pc = .ok (.getfield 49, 3)) (z : EV g l (mn, cc, nL, rt, dp, hh) kb Q (pc + 3) ls (.int (σ.1 3 3) :: rest) σ) : EV g l (mn, cc, nL, rt, dp, hh) kb Q pc ls (.ref (zad g 3) :: rest) σ :=
  e_get (ci := 8) (kx := 3) (N := 11) (C := RX4) (ref := RX4) (T := TX4) (sl := zk_T) (x := none) (o := 3) rfl (Nat.le_of_ble_eq_true rfl) rfl (by decide) rfl zin_4 (by rw [hm]; exact ql_X4_49) rfl hdg z
theorem fp_X4_49  {v : Int32} (hn : zbl v) (hm : mn.cls = RX4) (hdg : decode cc pc = .ok (.putfield 49, 3)) (z : EV g l (mn, cc, nL, rt, dp, hh) kb Q (pc + 3) ls rest (zup σ 3 3 v)) : EV g l (mn, cc, nL, rt, dp, hh) kb Q pc ls (.int v :: .ref (zad g 3) :: rest) σ :=
  e_put (ci := 8) (kx := 3) (N := 11) (C := RX4) (ref := RX4) (T := TX4) (ty0 := tyX4) (sl := zk_T) (o := 3) rfl (Nat.le_of_ble_eq_true rfl) rfl (by decide) rfl zin_4 tyX4_ok nmX4 rfl (zbl_n hn) (zbl_f hn) (by rw [hm]; exact ql_X4_49) rfl hdg z
theorem ql_X4_52 : Cond.fieldLink RX4 52 RX4 (TX4 4).2.1 (TX4 4).2.2.1 ∈ zT := zT_in 187 (by decide +kernel) (by decide +kernel)
theorem fg_X4_52  (hm : mn.cls = RX4) (hdg : decode cc pc = .ok (.getfield 52, 3)) (z : EV g l (mn, cc, nL, rt, dp, hh) kb Q (pc + 3) ls (.int (σ.1 3 4) :: rest) σ) : EV g l (mn, cc, nL, rt, dp, hh) kb Q pc ls (.ref (zad g 3) :: rest) σ :=
  e_get (ci := 8) (kx := 4) (N := 11) (C := RX4) (ref := RX4) (T := TX4) (sl := zk_T) (x := none) (o := 3) rfl (Nat.le_of_ble_eq_true rfl) rfl (by decide) rfl zin_4 (by rw [hm]; exact ql_X4_52) rfl hdg z
theorem fp_X4_52  {v : Int32} (hm : mn.cls = RX4) (hdg : decode cc pc = .ok (.putfield 52, 3)) (z : EV g l (mn, cc, nL, rt, dp, hh) kb Q (pc + 3) ls rest (zup σ 3 4 v)) : EV g l (mn, cc, nL, rt, dp, hh) kb Q pc ls (.int v :: .ref (zad g 3) :: rest) σ :=
  e_put (ci := 8) (kx := 4) (N := 11) (C := RX4) (ref := RX4) (T := TX4) (ty0 := tyX4) (sl := zk_T) (o := 3) rfl (Nat.le_of_ble_eq_true rfl) rfl (by decide) rfl zin_4 tyX4_ok nmX4 rfl rfl rfl (by rw [hm]; exact ql_X4_52) rfl hdg z
theorem ql_X4_18 : Cond.fieldLink RX4 18 RX4 (TX4 5).2.1 (TX4 5).2.2.1 ∈ zT := zT_in 188 (by decide +kernel) (by decide +kernel)
theorem fg_X4_18  (hm : mn.cls = RX4) (hdg : decode cc pc = .ok (.getfield 18, 3)) (z : EV g l (mn, cc, nL, rt, dp, hh) kb Q (pc + 3) ls (.ref (zad g 4) :: rest) σ) : EV g l (mn, cc, nL, rt, dp, hh) kb Q pc ls (.ref (zad g 3) :: rest) σ :=
  e_get (ci := 8) (kx := 5) (N := 11) (C := RX4) (ref := RX4) (T := TX4) (sl := zk_T) (x := some (.inl (4))) (o := 3) rfl (Nat.le_of_ble_eq_true rfl) rfl (by decide) rfl zin_4 (by rw [hm]; exact ql_X4_18) rfl hdg z
theorem ql_X4_22 : Cond.fieldLink RX4 22 RX4 (TX4 6).2.1 (TX4 6).2.2.1 ∈ zT := zT_in 189 (by decide +kernel) (by decide +kernel)
theorem fg_X4_22  (hm : mn.cls = RX4) (hdg : decode cc pc = .ok (.getfield 22, 3)) (z : EV g l (mn, cc, nL, rt, dp, hh) kb Q (pc + 3) ls (.ref (zad g 5) :: rest) σ) : EV g l (mn, cc, nL, rt, dp, hh) kb Q pc ls (.ref (zad g 3) :: rest) σ :=
  e_get (ci := 8) (kx := 6) (N := 11) (C := RX4) (ref := RX4) (T := TX4) (sl := zk_T) (x := some (.inl (5))) (o := 3) rfl (Nat.le_of_ble_eq_true rfl) rfl (by decide) rfl zin_4 (by rw [hm]; exact ql_X4_22) rfl hdg z
theorem ql_X4_26 : Cond.fieldLink RX4 26 RX4 (TX4 7).2.1 (TX4 7).2.2.1 ∈ zT := zT_in 190 (by decide +kernel) (by decide +kernel)
theorem fg_X4_26  (hm : mn.cls = RX4) (hdg : decode cc pc = .ok (.getfield 26, 3)) (z : EV g l (mn, cc, nL, rt, dp, hh) kb Q (pc + 3) ls (.ref (zad g 6) :: rest) σ) : EV g l (mn, cc, nL, rt, dp, hh) kb Q pc ls (.ref (zad g 3) :: rest) σ :=
  e_get (ci := 8) (kx := 7) (N := 11) (C := RX4) (ref := RX4) (T := TX4) (sl := zk_T) (x := some (.inl (6))) (o := 3) rfl (Nat.le_of_ble_eq_true rfl) rfl (by decide) rfl zin_4 (by rw [hm]; exact ql_X4_26) rfl hdg z
theorem ql_X4_29 : Cond.fieldLink RX4 29 RX4 (TX4 8).2.1 (TX4 8).2.2.1 ∈ zT := zT_in 191 (by decide +kernel) (by decide +kernel)
theorem fg_X4_29  (hm : mn.cls = RX4) (hdg : decode cc pc = .ok (.getfield 29, 3)) (z : EV g l (mn, cc, nL, rt, dp, hh) kb Q (pc + 3) ls (.ref (zad g 7) :: rest) σ) : EV g l (mn, cc, nL, rt, dp, hh) kb Q pc ls (.ref (zad g 3) :: rest) σ :=
  e_get (ci := 8) (kx := 8) (N := 11) (C := RX4) (ref := RX4) (T := TX4) (sl := zk_T) (x := some (.inl (7))) (o := 3) rfl (Nat.le_of_ble_eq_true rfl) rfl (by decide) rfl zin_4 (by rw [hm]; exact ql_X4_29) rfl hdg z
theorem ql_X4_32 : Cond.fieldLink RX4 32 RX4 (TX4 9).2.1 (TX4 9).2.2.1 ∈ zT := zT_in 192 (by decide +kernel) (by decide +kernel)
theorem fg_X4_32  (hm : mn.cls = RX4) (hdg : decode cc pc = .ok (.getfield 32, 3)) (z : EV g l (mn, cc, nL, rt, dp, hh) kb Q (pc + 3) ls (.ref (zad g 8) :: rest) σ) : EV g l (mn, cc, nL, rt, dp, hh) kb Q pc ls (.ref (zad g 3) :: rest) σ :=
  e_get (ci := 8) (kx := 9) (N := 11) (C := RX4) (ref := RX4) (T := TX4) (sl := zk_T) (x := some (.inl (8))) (o := 3) rfl (Nat.le_of_ble_eq_true rfl) rfl (by decide) rfl zin_4 (by rw [hm]; exact ql_X4_32) rfl hdg z
theorem ql_X4_35 : Cond.fieldLink RX4 35 RX4 (TX4 10).2.1 (TX4 10).2.2.1 ∈ zT := zT_in 193 (by decide +kernel) (by decide +kernel)
theorem fg_X4_35  (hm : mn.cls = RX4) (hdg : decode cc pc = .ok (.getfield 35, 3)) (z : EV g l (mn, cc, nL, rt, dp, hh) kb Q (pc + 3) ls (.ref (zad g 9) :: rest) σ) : EV g l (mn, cc, nL, rt, dp, hh) kb Q pc ls (.ref (zad g 3) :: rest) σ :=
  e_get (ci := 8) (kx := 10) (N := 11) (C := RX4) (ref := RX4) (T := TX4) (sl := zk_T) (x := some (.inl (9))) (o := 3) rfl (Nat.le_of_ble_eq_true rfl) rfl (by decide) rfl zin_4 (by rw [hm]; exact ql_X4_35) rfl hdg z
theorem ql_X2_30 : Cond.fieldLink RX2 30 RX2 (TX2 0).2.1 (TX2 0).2.2.1 ∈ zT := zT_in 226 (by decide +kernel) (by decide +kernel)
theorem fg_X2_30  (hm : mn.cls = RX2) (hdg : decode cc pc = .ok (.getfield 30, 3)) (z : EV g l (mn, cc, nL, rt, dp, hh) kb Q (pc + 3) ls (.ref (zad g 1) :: rest) σ) : EV g l (mn, cc, nL, rt, dp, hh) kb Q pc ls (.ref (zad g 10) :: rest) σ :=
  e_get (ci := 6) (kx := 0) (N := 8) (C := RX2) (ref := RX2) (T := TX2) (sl := zk_C) (x := some (.inl (1))) (o := 10) rfl (Nat.le_of_ble_eq_true rfl) rfl (by decide) rfl zin_2 (by rw [hm]; exact ql_X2_30) rfl hdg z
theorem ql_X2_11 : Cond.fieldLink RX2 11 RX2 (TX2 2).2.1 (TX2 2).2.2.1 ∈ zT := zT_in 227 (by decide +kernel) (by decide +kernel)
theorem fg_X2_11  (hm : mn.cls = RX2) (hdg : decode cc pc = .ok (.getfield 11, 3)) (z : EV g l (mn, cc, nL, rt, dp, hh) kb Q (pc + 3) ls (.ref (zad g 11) :: rest) σ) : EV g l (mn, cc, nL, rt, dp, hh) kb Q pc ls (.ref (zad g 10) :: rest) σ :=
  e_get (ci := 6) (kx := 2) (N := 8) (C := RX2) (ref := RX2) (T := TX2) (sl := zk_C) (x := some (.inl (11))) (o := 10) rfl (Nat.le_of_ble_eq_true rfl) rfl (by decide) rfl zin_2 (by rw [hm]; exact ql_X2_11) rfl hdg z
theorem ql_X2_15 : Cond.fieldLink RX2 15 RX2 (TX2 3).2.1 (TX2 3).2.2.1 ∈ zT := zT_in 228 (by decide +kernel) (by decide +kernel)
theorem fg_X2_15  (hm : mn.cls = RX2) (hdg : decode cc pc = .ok (.getfield 15, 3)) (z : EV g l (mn, cc, nL, rt, dp, hh) kb Q (pc + 3) ls (.ref (zad g 12) :: rest) σ) : EV g l (mn, cc, nL, rt, dp, hh) kb Q pc ls (.ref (zad g 10) :: rest) σ :=
  e_get (ci := 6) (kx := 3) (N := 8) (C := RX2) (ref := RX2) (T := TX2) (sl := zk_C) (x := some (.inl (12))) (o := 10) rfl (Nat.le_of_ble_eq_true rfl) rfl (by decide) rfl zin_2 (by rw [hm]; exact ql_X2_15) rfl hdg z
theorem ql_X2_21 : Cond.fieldLink RX2 21 RX2 (TX2 4).2.1 (TX2 4).2.2.1 ∈ zT := zT_in 229 (by decide +kernel) (by decide +kernel)
theorem fg_X2_21  (hm : mn.cls = RX2) (hdg : decode cc pc = .ok (.getfield 21, 3)) (z : EV g l (mn, cc, nL, rt, dp, hh) kb Q (pc + 3) ls (.ref (zad g 13) :: rest) σ) : EV g l (mn, cc, nL, rt, dp, hh) kb Q pc ls (.ref (zad g 10) :: rest) σ :=
  e_get (ci := 6) (kx := 4) (N := 8) (C := RX2) (ref := RX2) (T := TX2) (sl := zk_C) (x := some (.inl (13))) (o := 10) rfl (Nat.le_of_ble_eq_true rfl) rfl (by decide) rfl zin_2 (by rw [hm]; exact ql_X2_21) rfl hdg z
theorem ql_X2_24 : Cond.fieldLink RX2 24 RX2 (TX2 5).2.1 (TX2 5).2.2.1 ∈ zT := zT_in 230 (by decide +kernel) (by decide +kernel)
theorem fg_X2_24  (hm : mn.cls = RX2) (hdg : decode cc pc = .ok (.getfield 24, 3)) (z : EV g l (mn, cc, nL, rt, dp, hh) kb Q (pc + 3) ls (.ref (zad g 14) :: rest) σ) : EV g l (mn, cc, nL, rt, dp, hh) kb Q pc ls (.ref (zad g 10) :: rest) σ :=
  e_get (ci := 6) (kx := 5) (N := 8) (C := RX2) (ref := RX2) (T := TX2) (sl := zk_C) (x := some (.inl (14))) (o := 10) rfl (Nat.le_of_ble_eq_true rfl) rfl (by decide) rfl zin_2 (by rw [hm]; exact ql_X2_24) rfl hdg z
theorem ql_X2_27 : Cond.fieldLink RX2 27 RX2 (TX2 6).2.1 (TX2 6).2.2.1 ∈ zT := zT_in 231 (by decide +kernel) (by decide +kernel)
theorem fg_X2_27  (hm : mn.cls = RX2) (hdg : decode cc pc = .ok (.getfield 27, 3)) (z : EV g l (mn, cc, nL, rt, dp, hh) kb Q (pc + 3) ls (.ref (zad g 15) :: rest) σ) : EV g l (mn, cc, nL, rt, dp, hh) kb Q pc ls (.ref (zad g 10) :: rest) σ :=
  e_get (ci := 6) (kx := 6) (N := 8) (C := RX2) (ref := RX2) (T := TX2) (sl := zk_C) (x := some (.inl (15))) (o := 10) rfl (Nat.le_of_ble_eq_true rfl) rfl (by decide) rfl zin_2 (by rw [hm]; exact ql_X2_27) rfl hdg z
theorem ql_X1_11 : Cond.fieldLink RX1 11 RX1 (TX1 0).2.1 (TX1 0).2.2.1 ∈ zT := zT_in 260 (by decide +kernel) (by decide +kernel)
theorem fg_X1_11  (hm : mn.cls = RX1) (hdg : decode cc pc = .ok (.getfield 11, 3)) (z : EV g l (mn, cc, nL, rt, dp, hh) kb Q (pc + 3) ls (.ref (zad g 17) :: rest) σ) : EV g l (mn, cc, nL, rt, dp, hh) kb Q pc ls (.ref (zad g 16) :: rest) σ :=
  e_get (ci := 5) (kx := 0) (N := 3) (C := RX1) (ref := RX1) (T := TX1) (sl := zk_H) (x := some (.inl (17))) (o := 16) rfl (Nat.le_of_ble_eq_true rfl) rfl (by decide) rfl zin_1 (by rw [hm]; exact ql_X1_11) rfl hdg z
theorem ql_X1_24 : Cond.fieldLink RX1 24 RX1 (TX1 1).2.1 (TX1 1).2.2.1 ∈ zT := zT_in 261 (by decide +kernel) (by decide +kernel)
theorem fg_X1_24  (hm : mn.cls = RX1) (hdg : decode cc pc = .ok (.getfield 24, 3)) (z : EV g l (mn, cc, nL, rt, dp, hh) kb Q (pc + 3) ls (.int (σ.1 16 1) :: rest) σ) : EV g l (mn, cc, nL, rt, dp, hh) kb Q pc ls (.ref (zad g 16) :: rest) σ :=
  e_get (ci := 5) (kx := 1) (N := 3) (C := RX1) (ref := RX1) (T := TX1) (sl := zk_H) (x := none) (o := 16) rfl (Nat.le_of_ble_eq_true rfl) rfl (by decide) rfl zin_1 (by rw [hm]; exact ql_X1_24) rfl hdg z
theorem fp_X1_24  {v : Int32} (hm : mn.cls = RX1) (hdg : decode cc pc = .ok (.putfield 24, 3)) (z : EV g l (mn, cc, nL, rt, dp, hh) kb Q (pc + 3) ls rest (zup σ 16 1 v)) : EV g l (mn, cc, nL, rt, dp, hh) kb Q pc ls (.int v :: .ref (zad g 16) :: rest) σ :=
  e_put (ci := 5) (kx := 1) (N := 3) (C := RX1) (ref := RX1) (T := TX1) (ty0 := tyX1) (sl := zk_H) (o := 16) rfl (Nat.le_of_ble_eq_true rfl) rfl (by decide) rfl zin_1 tyX1_ok nmX1 rfl rfl rfl (by rw [hm]; exact ql_X1_24) rfl hdg z
theorem ql_X6_157 : Cond.fieldLink RX6 157 RX1 (TX1 1).2.1 (TX1 1).2.2.1 ∈ zT := zT_in 262 (by decide +kernel) (by decide +kernel)
theorem fg_X6_157  (hm : mn.cls = RX6) (hdg : decode cc pc = .ok (.getfield 157, 3)) (z : EV g l (mn, cc, nL, rt, dp, hh) kb Q (pc + 3) ls (.int (σ.1 16 1) :: rest) σ) : EV g l (mn, cc, nL, rt, dp, hh) kb Q pc ls (.ref (zad g 16) :: rest) σ :=
  e_get (ci := 5) (kx := 1) (N := 3) (C := RX1) (ref := RX1) (T := TX1) (sl := zk_H) (x := none) (o := 16) rfl (Nat.le_of_ble_eq_true rfl) rfl (by decide) rfl zin_1 (by rw [hm]; exact ql_X6_157) rfl hdg z
theorem fp_X6_157  {v : Int32} (hm : mn.cls = RX6) (hdg : decode cc pc = .ok (.putfield 157, 3)) (z : EV g l (mn, cc, nL, rt, dp, hh) kb Q (pc + 3) ls rest (zup σ 16 1 v)) : EV g l (mn, cc, nL, rt, dp, hh) kb Q pc ls (.int v :: .ref (zad g 16) :: rest) σ :=
  e_put (ci := 5) (kx := 1) (N := 3) (C := RX1) (ref := RX1) (T := TX1) (ty0 := tyX1) (sl := zk_H) (o := 16) rfl (Nat.le_of_ble_eq_true rfl) rfl (by decide) rfl zin_1 tyX1_ok nmX1 rfl rfl rfl (by rw [hm]; exact ql_X6_157) rfl hdg z
theorem ql_X1_16 : Cond.fieldLink RX1 16 RX1 (TX1 2).2.1 (TX1 2).2.2.1 ∈ zT := zT_in 263 (by decide +kernel) (by decide +kernel)
theorem fg_X1_16  (hm : mn.cls = RX1) (hdg : decode cc pc = .ok (.getfield 16, 3)) (z : EV g l (mn, cc, nL, rt, dp, hh) kb Q (pc + 3) ls (.int (σ.1 16 2) :: rest) σ) : EV g l (mn, cc, nL, rt, dp, hh) kb Q pc ls (.ref (zad g 16) :: rest) σ :=
  e_get (ci := 5) (kx := 2) (N := 3) (C := RX1) (ref := RX1) (T := TX1) (sl := zk_H) (x := none) (o := 16) rfl (Nat.le_of_ble_eq_true rfl) rfl (by decide) rfl zin_1 (by rw [hm]; exact ql_X1_16) rfl hdg z
theorem fp_X1_16  {v : Int32} (hm : mn.cls = RX1) (hdg : decode cc pc = .ok (.putfield 16, 3)) (z : EV g l (mn, cc, nL, rt, dp, hh) kb Q (pc + 3) ls rest (zup σ 16 2 v)) : EV g l (mn, cc, nL, rt, dp, hh) kb Q pc ls (.int v :: .ref (zad g 16) :: rest) σ :=
  e_put (ci := 5) (kx := 2) (N := 3) (C := RX1) (ref := RX1) (T := TX1) (ty0 := tyX1) (sl := zk_H) (o := 16) rfl (Nat.le_of_ble_eq_true rfl) rfl (by decide) rfl zin_1 tyX1_ok nmX1 rfl rfl rfl (by rw [hm]; exact ql_X1_16) rfl hdg z
theorem ql_X5_22 : Cond.fieldLink RX5 22 RX5 (TX5 0).2.1 (TX5 0).2.2.1 ∈ zT := zT_in 277 (by decide +kernel) (by decide +kernel)
theorem fg_X5_22  (hm : mn.cls = RX5) (hdg : decode cc pc = .ok (.getfield 22, 3)) (z : EV g l (mn, cc, nL, rt, dp, hh) kb Q (pc + 3) ls (.ref (zad g 73) :: rest) σ) : EV g l (mn, cc, nL, rt, dp, hh) kb Q pc ls (.ref (zad g 18) :: rest) σ :=
  e_get (ci := 9) (kx := 0) (N := 4) (C := RX5) (ref := RX5) (T := TX5) (sl := zk_V) (x := some (.inl (73))) (o := 18) rfl (Nat.le_of_ble_eq_true rfl) rfl (by decide) rfl zin_5 (by rw [hm]; exact ql_X5_22) rfl hdg z
theorem ql_X5_9 : Cond.fieldLink RX5 9 RX5 (TX5 1).2.1 (TX5 1).2.2.1 ∈ zT := zT_in 278 (by decide +kernel) (by decide +kernel)
theorem fg_X5_9  (hm : mn.cls = RX5) (hdg : decode cc pc = .ok (.getfield 9, 3)) (z : EV g l (mn, cc, nL, rt, dp, hh) kb Q (pc + 3) ls (.ref (zad g 19) :: rest) σ) : EV g l (mn, cc, nL, rt, dp, hh) kb Q pc ls (.ref (zad g 18) :: rest) σ :=
  e_get (ci := 9) (kx := 1) (N := 4) (C := RX5) (ref := RX5) (T := TX5) (sl := zk_V) (x := some (.inl (19))) (o := 18) rfl (Nat.le_of_ble_eq_true rfl) rfl (by decide) rfl zin_5 (by rw [hm]; exact ql_X5_9) rfl hdg z
theorem ql_X5_15 : Cond.fieldLink RX5 15 RX5 (TX5 2).2.1 (TX5 2).2.2.1 ∈ zT := zT_in 279 (by decide +kernel) (by decide +kernel)
theorem fg_X5_15  (hm : mn.cls = RX5) (hdg : decode cc pc = .ok (.getfield 15, 3)) (z : EV g l (mn, cc, nL, rt, dp, hh) kb Q (pc + 3) ls (.ref (zad g 20) :: rest) σ) : EV g l (mn, cc, nL, rt, dp, hh) kb Q pc ls (.ref (zad g 18) :: rest) σ :=
  e_get (ci := 9) (kx := 2) (N := 4) (C := RX5) (ref := RX5) (T := TX5) (sl := zk_V) (x := some (.inl (20))) (o := 18) rfl (Nat.le_of_ble_eq_true rfl) rfl (by decide) rfl zin_5 (by rw [hm]; exact ql_X5_15) rfl hdg z
theorem ql_X5_18 : Cond.fieldLink RX5 18 RX5 (TX5 3).2.1 (TX5 3).2.2.1 ∈ zT := zT_in 280 (by decide +kernel) (by decide +kernel)
theorem fg_X5_18  (hm : mn.cls = RX5) (hdg : decode cc pc = .ok (.getfield 18, 3)) (z : EV g l (mn, cc, nL, rt, dp, hh) kb Q (pc + 3) ls (.ref (zad g 21) :: rest) σ) : EV g l (mn, cc, nL, rt, dp, hh) kb Q pc ls (.ref (zad g 18) :: rest) σ :=
  e_get (ci := 9) (kx := 3) (N := 4) (C := RX5) (ref := RX5) (T := TX5) (sl := zk_V) (x := some (.inl (21))) (o := 18) rfl (Nat.le_of_ble_eq_true rfl) rfl (by decide) rfl zin_5 (by rw [hm]; exact ql_X5_18) rfl hdg z
theorem ql_X6_12 : Cond.fieldLink RX6 12 RX6 (TX6 0).2.1 (TX6 0).2.2.1 ∈ zT := zT_in 290 (by decide +kernel) (by decide +kernel)
theorem fg_X6_12  (hm : mn.cls = RX6) (hdg : decode cc pc = .ok (.getfield 12, 3)) (z : EV g l (mn, cc, nL, rt, dp, hh) kb Q (pc + 3) ls (.ref (zad g 1) :: rest) σ) : EV g l (mn, cc, nL, rt, dp, hh) kb Q pc ls (.ref (zad g 0) :: rest) σ :=
  e_get (ci := 10) (kx := 0) (N := 12) (C := RX6) (ref := RX6) (T := TX6) (sl := zk_B) (x := some (.inl (1))) (o := 0) rfl (Nat.le_of_ble_eq_true rfl) rfl (by decide) rfl zin_6 (by rw [hm]; exact ql_X6_12) rfl hdg z
theorem ql_X6_21 : Cond.fieldLink RX6 21 RX6 (TX6 1).2.1 (TX6 1).2.2.1 ∈ zT := zT_in 291 (by decide +kernel) (by decide +kernel)
theorem fg_X6_21  (hm : mn.cls = RX6) (hdg : decode cc pc = .ok (.getfield 21, 3)) (z : EV g l (mn, cc, nL, rt, dp, hh) kb Q (pc + 3) ls (.ref (zad g 3) :: rest) σ) : EV g l (mn, cc, nL, rt, dp, hh) kb Q pc ls (.ref (zad g 0) :: rest) σ :=
  e_get (ci := 10) (kx := 1) (N := 12) (C := RX6) (ref := RX6) (T := TX6) (sl := zk_B) (x := some (.inl (3))) (o := 0) rfl (Nat.le_of_ble_eq_true rfl) rfl (by decide) rfl zin_6 (by rw [hm]; exact ql_X6_21) rfl hdg z
theorem ql_X6_28 : Cond.fieldLink RX6 28 RX6 (TX6 2).2.1 (TX6 2).2.2.1 ∈ zT := zT_in 292 (by decide +kernel) (by decide +kernel)
theorem fg_X6_28  (hm : mn.cls = RX6) (hdg : decode cc pc = .ok (.getfield 28, 3)) (z : EV g l (mn, cc, nL, rt, dp, hh) kb Q (pc + 3) ls (.ref (zad g 10) :: rest) σ) : EV g l (mn, cc, nL, rt, dp, hh) kb Q pc ls (.ref (zad g 0) :: rest) σ :=
  e_get (ci := 10) (kx := 2) (N := 12) (C := RX6) (ref := RX6) (T := TX6) (sl := zk_B) (x := some (.inl (10))) (o := 0) rfl (Nat.le_of_ble_eq_true rfl) rfl (by decide) rfl zin_6 (by rw [hm]; exact ql_X6_28) rfl hdg z
theorem ql_X6_35 : Cond.fieldLink RX6 35 RX6 (TX6 3).2.1 (TX6 3).2.2.1 ∈ zT := zT_in 293 (by decide +kernel) (by decide +kernel)
theorem fg_X6_35  (hm : mn.cls = RX6) (hdg : decode cc pc = .ok (.getfield 35, 3)) (z : EV g l (mn, cc, nL, rt, dp, hh) kb Q (pc + 3) ls (.ref (zad g 73) :: rest) σ) : EV g l (mn, cc, nL, rt, dp, hh) kb Q pc ls (.ref (zad g 0) :: rest) σ :=
  e_get (ci := 10) (kx := 3) (N := 12) (C := RX6) (ref := RX6) (T := TX6) (sl := zk_B) (x := some (.inl (73))) (o := 0) rfl (Nat.le_of_ble_eq_true rfl) rfl (by decide) rfl zin_6 (by rw [hm]; exact ql_X6_35) rfl hdg z
theorem ql_X6_39 : Cond.fieldLink RX6 39 RX6 (TX6 4).2.1 (TX6 4).2.2.1 ∈ zT := zT_in 294 (by decide +kernel) (by decide +kernel)
theorem fg_X6_39  (hm : mn.cls = RX6) (hdg : decode cc pc = .ok (.getfield 39, 3)) (z : EV g l (mn, cc, nL, rt, dp, hh) kb Q (pc + 3) ls (.ref (zad g 83) :: rest) σ) : EV g l (mn, cc, nL, rt, dp, hh) kb Q pc ls (.ref (zad g 0) :: rest) σ :=
  e_get (ci := 10) (kx := 4) (N := 12) (C := RX6) (ref := RX6) (T := TX6) (sl := zk_B) (x := some (.inl (83))) (o := 0) rfl (Nat.le_of_ble_eq_true rfl) rfl (by decide) rfl zin_6 (by rw [hm]; exact ql_X6_39) rfl hdg z
theorem ql_X6_45 : Cond.fieldLink RX6 45 RX6 (TX6 5).2.1 (TX6 5).2.2.1 ∈ zT := zT_in 295 (by decide +kernel) (by decide +kernel)
theorem fg_X6_45  (hm : mn.cls = RX6) (hdg : decode cc pc = .ok (.getfield 45, 3)) (z : EV g l (mn, cc, nL, rt, dp, hh) kb Q (pc + 3) ls (.ref (zad g 16) :: rest) σ) : EV g l (mn, cc, nL, rt, dp, hh) kb Q pc ls (.ref (zad g 0) :: rest) σ :=
  e_get (ci := 10) (kx := 5) (N := 12) (C := RX6) (ref := RX6) (T := TX6) (sl := zk_B) (x := some (.inl (16))) (o := 0) rfl (Nat.le_of_ble_eq_true rfl) rfl (by decide) rfl zin_6 (by rw [hm]; exact ql_X6_45) rfl hdg z
theorem ql_X6_54 : Cond.fieldLink RX6 54 RX6 (TX6 6).2.1 (TX6 6).2.2.1 ∈ zT := zT_in 296 (by decide +kernel) (by decide +kernel)
theorem fg_X6_54  (hm : mn.cls = RX6) (hdg : decode cc pc = .ok (.getfield 54, 3)) (z : EV g l (mn, cc, nL, rt, dp, hh) kb Q (pc + 3) ls (.ref (zad g 18) :: rest) σ) : EV g l (mn, cc, nL, rt, dp, hh) kb Q pc ls (.ref (zad g 0) :: rest) σ :=
  e_get (ci := 10) (kx := 6) (N := 12) (C := RX6) (ref := RX6) (T := TX6) (sl := zk_B) (x := some (.inl (18))) (o := 0) rfl (Nat.le_of_ble_eq_true rfl) rfl (by decide) rfl zin_6 (by rw [hm]; exact ql_X6_54) rfl hdg z
theorem ql_X6_58 : Cond.fieldLink RX6 58 RX6 (TX6 7).2.1 (TX6 7).2.2.1 ∈ zT := zT_in 297 (by decide +kernel) (by decide +kernel)
theorem fg_X6_58  (hm : mn.cls = RX6) (hdg : decode cc pc = .ok (.getfield 58, 3)) (z : EV g l (mn, cc, nL, rt, dp, hh) kb Q (pc + 3) ls (.ref (zad g 22) :: rest) σ) : EV g l (mn, cc, nL, rt, dp, hh) kb Q pc ls (.ref (zad g 0) :: rest) σ :=
  e_get (ci := 10) (kx := 7) (N := 12) (C := RX6) (ref := RX6) (T := TX6) (sl := zk_B) (x := some (.inl (22))) (o := 0) rfl (Nat.le_of_ble_eq_true rfl) rfl (by decide) rfl zin_6 (by rw [hm]; exact ql_X6_58) rfl hdg z
theorem ql_X6_62 : Cond.fieldLink RX6 62 RX6 (TX6 8).2.1 (TX6 8).2.2.1 ∈ zT := zT_in 298 (by decide +kernel) (by decide +kernel)
theorem fg_X6_62  (hm : mn.cls = RX6) (hdg : decode cc pc = .ok (.getfield 62, 3)) (z : EV g l (mn, cc, nL, rt, dp, hh) kb Q (pc + 3) ls (.ref (zad g 23) :: rest) σ) : EV g l (mn, cc, nL, rt, dp, hh) kb Q pc ls (.ref (zad g 0) :: rest) σ :=
  e_get (ci := 10) (kx := 8) (N := 12) (C := RX6) (ref := RX6) (T := TX6) (sl := zk_B) (x := some (.inl (23))) (o := 0) rfl (Nat.le_of_ble_eq_true rfl) rfl (by decide) rfl zin_6 (by rw [hm]; exact ql_X6_62) rfl hdg z
end ZF
