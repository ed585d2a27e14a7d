def zbl (v : Int32) : Prop := v = 0 ∨ v = 1
theorem zbl_n {v : Int32} (h : zbl v) : narrow .boolean (.int v) = .int v := by rcases h with rfl | rfl <;> rfl
theorem zbl_f {v : Int32} (h : zbl v) : fits .boolean (.int v) = true := by rcases h with rfl | rfl <;> rfl
theorem zbl_0 : zbl 0 := Or.inl rfl
theorem zbl_1 : zbl 1 := Or.inr rfl
section ZF
variable {g : zG} {l : Launch} {mn : MethodName} {cc : ByteArray} {nL : Nat} {rt : Option FieldType} {dp : Nat} {hh : List (Nat × Nat × Nat × Nat)} {kb : Nat} {Q : zR → zS → Prop} {pc : Nat} {ls : List (Nat × Value)} {rest : List Value} {σ : zS}
theorem zin_0 : ∀ w ∈ u_ws RX0 TX0 16, w ∈ zT := fun w hw => by
  obtain ⟨k, hk, rfl⟩ := List.mem_map.mp hw
  have hk := List.mem_range.mp hk
  match k, hk with
  | 0, _ => exact zT_in 238 (by decide +kernel) (by decide +kernel)
  | 1, _ => exact zT_in 240 (by decide +kernel) (by decide +kernel)
  | 2, _ => exact zT_in 242 (by decide +kernel) (by decide +kernel)
  | 3, _ => exact zT_in 244 (by decide +kernel) (by decide +kernel)
  | 4, _ => exact zT_in 246 (by decide +kernel) (by decide +kernel)
  | 5, _ => exact zT_in 248 (by decide +kernel) (by decide +kernel)
  | 6, _ => exact zT_in 250 (by decide +kernel) (by decide +kernel)
  | 7, _ => exact zT_in 252 (by decide +kernel) (by decide +kernel)
  | 8, _ => exact zT_in 254 (by decide +kernel) (by decide +kernel)
  | 9, _ => exact zT_in 256 (by decide +kernel) (by decide +kernel)
  | 10, _ => exact zT_in 258 (by decide +kernel) (by decide +kernel)
  | 11, _ => exact zT_in 260 (by decide +kernel) (by decide +kernel)
  | 12, _ => exact zT_in 262 (by decide +kernel) (by decide +kernel)
  | 13, _ => exact zT_in 264 (by decide +kernel) (by decide +kernel)
  | 14, _ => exact zT_in 266 (by decide +kernel) (by decide +kernel)
  | 15, _ => exact zT_in 268 (by decide +kernel) (by decide +kernel)
  | n + 16, h => exact absurd h (by omega)
theorem zin_1 : ∀ w ∈ u_ws RX1 TX1 3, w ∈ zT := fun w hw => by
  obtain ⟨k, hk, rfl⟩ := List.mem_map.mp hw
  have hk := List.mem_range.mp hk
  match k, hk with
  | 0, _ => exact zT_in 361 (by decide +kernel) (by decide +kernel)
  | 1, _ => exact zT_in 363 (by decide +kernel) (by decide +kernel)
  | 2, _ => exact zT_in 365 (by decide +kernel) (by decide +kernel)
  | n + 3, h => exact absurd h (by omega)
theorem zin_2 : ∀ w ∈ u_ws RX2 TX2 8, w ∈ zT := fun w hw => by
  obtain ⟨k, hk, rfl⟩ := List.mem_map.mp hw
  have hk := List.mem_range.mp hk
  match k, hk with
  | 0, _ => exact zT_in 329 (by decide +kernel) (by decide +kernel)
  | 1, _ => exact zT_in 331 (by decide +kernel) (by decide +kernel)
  | 2, _ => exact zT_in 333 (by decide +kernel) (by decide +kernel)
  | 3, _ => exact zT_in 335 (by decide +kernel) (by decide +kernel)
  | 4, _ => exact zT_in 337 (by decide +kernel) (by decide +kernel)
  | 5, _ => exact zT_in 339 (by decide +kernel) (by decide +kernel)
  | 6, _ => exact zT_in 341 (by decide +kernel) (by decide +kernel)
  | 7, _ => exact zT_in 343 (by decide +kernel) (by decide +kernel)
  | n + 8, h => exact absurd h (by omega)
theorem zin_3 : ∀ w ∈ u_ws RX3 TX3 8, w ∈ zT := fun w hw => by
  obtain ⟨k, hk, rfl⟩ := List.mem_map.mp hw
  have hk := List.mem_range.mp hk
  match k, hk with
  | 0, _ => exact zT_in 169 (by decide +kernel) (by decide +kernel)
  | 1, _ => exact zT_in 171 (by decide +kernel) (by decide +kernel)
  | 2, _ => exact zT_in 173 (by decide +kernel) (by decide +kernel)
  | 3, _ => exact zT_in 175 (by decide +kernel) (by decide +kernel)
  | 4, _ => exact zT_in 177 (by decide +kernel) (by decide +kernel)
  | 5, _ => exact zT_in 179 (by decide +kernel) (by decide +kernel)
  | 6, _ => exact zT_in 181 (by decide +kernel) (by decide +kernel)
  | 7, _ => exact zT_in 183 (by decide +kernel) (by decide +kernel)
  | n + 8, h => exact absurd h (by omega)
theorem zin_4 : ∀ w ∈ u_ws RX4 TX4 11, w ∈ zT := fun w hw => by
  obtain ⟨k, hk, rfl⟩ := List.mem_map.mp hw
  have hk := List.mem_range.mp hk
  match k, hk with
  | 0, _ => exact zT_in 284 (by decide +kernel) (by decide +kernel)
  | 1, _ => exact zT_in 286 (by decide +kernel) (by decide +kernel)
  | 2, _ => exact zT_in 288 (by decide +kernel) (by decide +kernel)
  | 3, _ => exact zT_in 290 (by decide +kernel) (by decide +kernel)
  | 4, _ => exact zT_in 292 (by decide +kernel) (by decide +kernel)
  | 5, _ => exact zT_in 294 (by decide +kernel) (by decide +kernel)
  | 6, _ => exact zT_in 296 (by decide +kernel) (by decide +kernel)
  | 7, _ => exact zT_in 298 (by decide +kernel) (by decide +kernel)
  | 8, _ => exact zT_in 300 (by decide +kernel) (by decide +kernel)
  | 9, _ => exact zT_in 302 (by decide +kernel) (by decide +kernel)
  | 10, _ => exact zT_in 304 (by decide +kernel) (by decide +kernel)
  | n + 11, h => exact absurd h (by omega)
theorem zin_5 : ∀ w ∈ u_ws RX5 TX5 4, w ∈ zT := fun w hw => by
  obtain ⟨k, hk, rfl⟩ := List.mem_map.mp hw
  have hk := List.mem_range.mp hk
  match k, hk with
  | 0, _ => exact zT_in 378 (by decide +kernel) (by decide +kernel)
  | 1, _ => exact zT_in 380 (by decide +kernel) (by decide +kernel)
  | 2, _ => exact zT_in 382 (by decide +kernel) (by decide +kernel)
  | 3, _ => exact zT_in 384 (by decide +kernel) (by decide +kernel)
  | n + 4, h => exact absurd h (by omega)
theorem zin_6 : ∀ w ∈ u_ws RX6 TX6 12, w ∈ zT := fun w hw => by
  obtain ⟨k, hk, rfl⟩ := List.mem_map.mp hw
  have hk := List.mem_range.mp hk
  match k, hk with
  | 0, _ => exact zT_in 399 (by decide +kernel) (by decide +kernel)
  | 1, _ => exact zT_in 401 (by decide +kernel) (by decide +kernel)
  | 2, _ => exact zT_in 403 (by decide +kernel) (by decide +kernel)
  | 3, _ => exact zT_in 405 (by decide +kernel) (by decide +kernel)
  | 4, _ => exact zT_in 407 (by decide +kernel) (by decide +kernel)
  | 5, _ => exact zT_in 409 (by decide +kernel) (by decide +kernel)
  | 6, _ => exact zT_in 411 (by decide +kernel) (by decide +kernel)
  | 7, _ => exact zT_in 413 (by decide +kernel) (by decide +kernel)
  | 8, _ => exact zT_in 415 (by decide +kernel) (by decide +kernel)
  | 9, _ => exact zT_in 417 (by decide +kernel) (by decide +kernel)
  | 10, _ => exact zT_in 419 (by decide +kernel) (by decide +kernel)
  | 11, _ => exact zT_in 421 (by decide +kernel) (by decide +kernel)
  | n + 12, h => exact absurd h (by omega)
theorem zin_7 : ∀ w ∈ u_ws RX7 TX7 36, w ∈ zT := fun w hw => by
  obtain ⟨k, hk, rfl⟩ := List.mem_map.mp hw
  have hk := List.mem_range.mp hk
  match k, hk with
  | 0, _ => exact zT_in 1402 (by decide +kernel) (by decide +kernel)
  | 1, _ => exact zT_in 1404 (by decide +kernel) (by decide +kernel)
  | 2, _ => exact zT_in 1406 (by decide +kernel) (by decide +kernel)
  | 3, _ => exact zT_in 1408 (by decide +kernel) (by decide +kernel)
  | 4, _ => exact zT_in 1410 (by decide +kernel) (by decide +kernel)
  | 5, _ => exact zT_in 1412 (by decide +kernel) (by decide +kernel)
  | 6, _ => exact zT_in 1414 (by decide +kernel) (by decide +kernel)
  | 7, _ => exact zT_in 1416 (by decide +kernel) (by decide +kernel)
  | 8, _ => exact zT_in 1418 (by decide +kernel) (by decide +kernel)
  | 9, _ => exact zT_in 1420 (by decide +kernel) (by decide +kernel)
  | 10, _ => exact zT_in 1422 (by decide +kernel) (by decide +kernel)
  | 11, _ => exact zT_in 1424 (by decide +kernel) (by decide +kernel)
  | 12, _ => exact zT_in 1426 (by decide +kernel) (by decide +kernel)
  | 13, _ => exact zT_in 1428 (by decide +kernel) (by decide +kernel)
  | 14, _ => exact zT_in 1430 (by decide +kernel) (by decide +kernel)
  | 15, _ => exact zT_in 1432 (by decide +kernel) (by decide +kernel)
  | 16, _ => exact zT_in 1434 (by decide +kernel) (by decide +kernel)
  | 17, _ => exact zT_in 1436 (by decide +kernel) (by decide +kernel)
  | 18, _ => exact zT_in 1438 (by decide +kernel) (by decide +kernel)
  | 19, _ => exact zT_in 1440 (by decide +kernel) (by decide +kernel)
  | 20, _ => exact zT_in 1442 (by decide +kernel) (by decide +kernel)
  | 21, _ => exact zT_in 1444 (by decide +kernel) (by decide +kernel)
  | 22, _ => exact zT_in 1446 (by decide +kernel) (by decide +kernel)
  | 23, _ => exact zT_in 1448 (by decide +kernel) (by decide +kernel)
  | 24, _ => exact zT_in 1450 (by decide +kernel) (by decide +kernel)
  | 25, _ => exact zT_in 1452 (by decide +kernel) (by decide +kernel)
  | 26, _ => exact zT_in 1454 (by decide +kernel) (by decide +kernel)
  | 27, _ => exact zT_in 1456 (by decide +kernel) (by decide +kernel)
  | 28, _ => exact zT_in 1458 (by decide +kernel) (by decide +kernel)
  | 29, _ => exact zT_in 1460 (by decide +kernel) (by decide +kernel)
  | 30, _ => exact zT_in 1462 (by decide +kernel) (by decide +kernel)
  | 31, _ => exact zT_in 1464 (by decide +kernel) (by decide +kernel)
  | 32, _ => exact zT_in 1466 (by decide +kernel) (by decide +kernel)
  | 33, _ => exact zT_in 1468 (by decide +kernel) (by decide +kernel)
  | 34, _ => exact zT_in 1470 (by decide +kernel) (by decide +kernel)
  | 35, _ => exact zT_in 1472 (by decide +kernel) (by decide +kernel)
  | n + 36, h => exact absurd h (by omega)
theorem ql_X3_9 : Cond.fieldLink RX3 9 RX3 (TX3 0).2.1 (TX3 0).2.2.1 ∈ zT := zT_in 158 (by decide +kernel) (by decide +kernel)
theorem fg_X3_9  (hm : mn.cls = RX3) (hdg : decode cc pc = .ok (.getfield 9, 3)) (z : EV g l (mn, cc, nL, rt, dp, hh) kb Q (pc + 3) ls (.ref (zad g 2) :: rest) σ) : EV g l (mn, cc, nL, rt, dp, hh) kb Q pc ls (.ref (zad g 1) :: rest) σ :=
  e_get (ci := 3) (kx := 0) (N := 8) (C := RX3) (ref := RX3) (T := TX3) (sl := zk_S) (x := some (.inl (2))) (o := 1) rfl (Nat.le_of_ble_eq_true rfl) rfl (by decide) rfl zin_3 (by rw [hm]; exact ql_X3_9) rfl hdg z
theorem ql_X6_66 : Cond.fieldLink RX6 66 RX3 (TX3 1).2.1 (TX3 1).2.2.1 ∈ zT := zT_in 159 (by decide +kernel) (by decide +kernel)
theorem fg_X6_66  (hm : mn.cls = RX6) (hdg : decode cc pc = .ok (.getfield 66, 3)) (z : EV g l (mn, cc, nL, rt, dp, hh) kb Q (pc + 3) ls (.int (σ.1 1 1) :: rest) σ) : EV g l (mn, cc, nL, rt, dp, hh) kb Q pc ls (.ref (zad g 1) :: rest) σ :=
  e_get (ci := 3) (kx := 1) (N := 8) (C := RX3) (ref := RX3) (T := TX3) (sl := zk_S) (x := none) (o := 1) rfl (Nat.le_of_ble_eq_true rfl) rfl (by decide) rfl zin_3 (by rw [hm]; exact ql_X6_66) rfl hdg z
theorem fp_X6_66  {v : Int32} (hm : mn.cls = RX6) (hdg : decode cc pc = .ok (.putfield 66, 3)) (z : EV g l (mn, cc, nL, rt, dp, hh) kb Q (pc + 3) ls rest (zup σ 1 1 v)) : EV g l (mn, cc, nL, rt, dp, hh) kb Q pc ls (.int v :: .ref (zad g 1) :: rest) σ :=
  e_put (ci := 3) (kx := 1) (N := 8) (C := RX3) (ref := RX3) (T := TX3) (ty0 := tyX3) (sl := zk_S) (o := 1) rfl (Nat.le_of_ble_eq_true rfl) rfl (by decide) rfl zin_3 tyX3_ok nmX3 rfl rfl rfl (by rw [hm]; exact ql_X6_66) rfl hdg z
theorem ql_X3_19 : Cond.fieldLink RX3 19 RX3 (TX3 1).2.1 (TX3 1).2.2.1 ∈ zT := zT_in 160 (by decide +kernel) (by decide +kernel)
theorem fg_X3_19  (hm : mn.cls = RX3) (hdg : decode cc pc = .ok (.getfield 19, 3)) (z : EV g l (mn, cc, nL, rt, dp, hh) kb Q (pc + 3) ls (.int (σ.1 1 1) :: rest) σ) : EV g l (mn, cc, nL, rt, dp, hh) kb Q pc ls (.ref (zad g 1) :: rest) σ :=
  e_get (ci := 3) (kx := 1) (N := 8) (C := RX3) (ref := RX3) (T := TX3) (sl := zk_S) (x := none) (o := 1) rfl (Nat.le_of_ble_eq_true rfl) rfl (by decide) rfl zin_3 (by rw [hm]; exact ql_X3_19) rfl hdg z
theorem fp_X3_19  {v : Int32} (hm : mn.cls = RX3) (hdg : decode cc pc = .ok (.putfield 19, 3)) (z : EV g l (mn, cc, nL, rt, dp, hh) kb Q (pc + 3) ls rest (zup σ 1 1 v)) : EV g l (mn, cc, nL, rt, dp, hh) kb Q pc ls (.int v :: .ref (zad g 1) :: rest) σ :=
  e_put (ci := 3) (kx := 1) (N := 8) (C := RX3) (ref := RX3) (T := TX3) (ty0 := tyX3) (sl := zk_S) (o := 1) rfl (Nat.le_of_ble_eq_true rfl) rfl (by decide) rfl zin_3 tyX3_ok nmX3 rfl rfl rfl (by rw [hm]; exact ql_X3_19) rfl hdg z
theorem ql_X3_38 : Cond.fieldLink RX3 38 RX3 (TX3 2).2.1 (TX3 2).2.2.1 ∈ zT := zT_in 161 (by decide +kernel) (by decide +kernel)
theorem fg_X3_38  (hm : mn.cls = RX3) (hdg : decode cc pc = .ok (.getfield 38, 3)) (z : EV g l (mn, cc, nL, rt, dp, hh) kb Q (pc + 3) ls (.int (σ.1 1 2) :: rest) σ) : EV g l (mn, cc, nL, rt, dp, hh) kb Q pc ls (.ref (zad g 1) :: rest) σ :=
  e_get (ci := 3) (kx := 2) (N := 8) (C := RX3) (ref := RX3) (T := TX3) (sl := zk_S) (x := none) (o := 1) rfl (Nat.le_of_ble_eq_true rfl) rfl (by decide) rfl zin_3 (by rw [hm]; exact ql_X3_38) rfl hdg z
theorem fp_X3_38  {v : Int32} (hm : mn.cls = RX3) (hdg : decode cc pc = .ok (.putfield 38, 3)) (z : EV g l (mn, cc, nL, rt, dp, hh) kb Q (pc + 3) ls rest (zup σ 1 2 v)) : EV g l (mn, cc, nL, rt, dp, hh) kb Q pc ls (.int v :: .ref (zad g 1) :: rest) σ :=
  e_put (ci := 3) (kx := 2) (N := 8) (C := RX3) (ref := RX3) (T := TX3) (ty0 := tyX3) (sl := zk_S) (o := 1) rfl (Nat.le_of_ble_eq_true rfl) rfl (by decide) rfl zin_3 tyX3_ok nmX3 rfl rfl rfl (by rw [hm]; exact ql_X3_38) rfl hdg z
theorem ql_X3_31 : Cond.fieldLink RX3 31 RX3 (TX3 3).2.1 (TX3 3).2.2.1 ∈ zT := zT_in 162 (by decide +kernel) (by decide +kernel)
theorem fg_X3_31  (hm : mn.cls = RX3) (hdg : decode cc pc = .ok (.getfield 31, 3)) (z : EV g l (mn, cc, nL, rt, dp, hh) kb Q (pc + 3) ls (.int (σ.1 1 3) :: rest) σ) : EV g l (mn, cc, nL, rt, dp, hh) kb Q pc ls (.ref (zad g 1) :: rest) σ :=
  e_get (ci := 3) (kx := 3) (N := 8) (C := RX3) (ref := RX3) (T := TX3) (sl := zk_S) (x := none) (o := 1) rfl (Nat.le_of_ble_eq_true rfl) rfl (by decide) rfl zin_3 (by rw [hm]; exact ql_X3_31) rfl hdg z
theorem fp_X3_31  {v : Int32} (hm : mn.cls = RX3) (hdg : decode cc pc = .ok (.putfield 31, 3)) (z : EV g l (mn, cc, nL, rt, dp, hh) kb Q (pc + 3) ls rest (zup σ 1 3 v)) : EV g l (mn, cc, nL, rt, dp, hh) kb Q pc ls (.int v :: .ref (zad g 1) :: rest) σ :=
  e_put (ci := 3) (kx := 3) (N := 8) (C := RX3) (ref := RX3) (T := TX3) (ty0 := tyX3) (sl := zk_S) (o := 1) rfl (Nat.le_of_ble_eq_true rfl) rfl (by decide) rfl zin_3 tyX3_ok nmX3 rfl rfl rfl (by rw [hm]; exact ql_X3_31) rfl hdg z
theorem ql_X3_25 : Cond.fieldLink RX3 25 RX3 (TX3 4).2.1 (TX3 4).2.2.1 ∈ zT := zT_in 163 (by decide +kernel) (by decide +kernel)
theorem fg_X3_25  (hm : mn.cls = RX3) (hdg : decode cc pc = .ok (.getfield 25, 3)) (z : EV g l (mn, cc, nL, rt, dp, hh) kb Q (pc + 3) ls (.int (σ.1 1 4) :: rest) σ) : EV g l (mn, cc, nL, rt, dp, hh) kb Q pc ls (.ref (zad g 1) :: rest) σ :=
  e_get (ci := 3) (kx := 4) (N := 8) (C := RX3) (ref := RX3) (T := TX3) (sl := zk_S) (x := none) (o := 1) rfl (Nat.le_of_ble_eq_true rfl) rfl (by decide) rfl zin_3 (by rw [hm]; exact ql_X3_25) rfl hdg z
theorem fp_X3_25  {v : Int32} (hm : mn.cls = RX3) (hdg : decode cc pc = .ok (.putfield 25, 3)) (z : EV g l (mn, cc, nL, rt, dp, hh) kb Q (pc + 3) ls rest (zup σ 1 4 v)) : EV g l (mn, cc, nL, rt, dp, hh) kb Q pc ls (.int v :: .ref (zad g 1) :: rest) σ :=
  e_put (ci := 3) (kx := 4) (N := 8) (C := RX3) (ref := RX3) (T := TX3) (ty0 := tyX3) (sl := zk_S) (o := 1) rfl (Nat.le_of_ble_eq_true rfl) rfl (by decide) rfl zin_3 tyX3_ok nmX3 rfl rfl rfl (by rw [hm]; exact ql_X3_25) rfl hdg z
theorem ql_X3_45 : Cond.fieldLink RX3 45 RX3 (TX3 5).2.1 (TX3 5).2.2.1 ∈ zT := zT_in 164 (by decide +kernel) (by decide +kernel)
theorem fg_X3_45  (hm : mn.cls = RX3) (hdg : decode cc pc = .ok (.getfield 45, 3)) (z : EV g l (mn, cc, nL, rt, dp, hh) kb Q (pc + 3) ls (.int (σ.1 1 5) :: rest) σ) : EV g l (mn, cc, nL, rt, dp, hh) kb Q pc ls (.ref (zad g 1) :: rest) σ :=
  e_get (ci := 3) (kx := 5) (N := 8) (C := RX3) (ref := RX3) (T := TX3) (sl := zk_S) (x := none) (o := 1) rfl (Nat.le_of_ble_eq_true rfl) rfl (by decide) rfl zin_3 (by rw [hm]; exact ql_X3_45) rfl hdg z
theorem fp_X3_45  {v : Int32} (hm : mn.cls = RX3) (hdg : decode cc pc = .ok (.putfield 45, 3)) (z : EV g l (mn, cc, nL, rt, dp, hh) kb Q (pc + 3) ls rest (zup σ 1 5 v)) : EV g l (mn, cc, nL, rt, dp, hh) kb Q pc ls (.int v :: .ref (zad g 1) :: rest) σ :=
  e_put (ci := 3) (kx := 5) (N := 8) (C := RX3) (ref := RX3) (T := TX3) (ty0 := tyX3) (sl := zk_S) (o := 1) rfl (Nat.le_of_ble_eq_true rfl) rfl (by decide) rfl zin_3 tyX3_ok nmX3 rfl rfl rfl (by rw [hm]; exact ql_X3_45) rfl hdg z
theorem ql_X3_22 : Cond.fieldLink RX3 22 RX3 (TX3 6).2.1 (TX3 6).2.2.1 ∈ zT := zT_in 165 (by decide +kernel) (by decide +kernel)
theorem fg_X3_22  (hm : mn.cls = RX3) (hdg : decode cc pc = .ok (.getfield 22, 3)) (z : EV g l (mn, cc, nL, rt, dp, hh) kb Q (pc + 3) ls (.int (σ.1 1 6) :: rest) σ) : EV g l (mn, cc, nL, rt, dp, hh) kb Q pc ls (.ref (zad g 1) :: rest) σ :=
  e_get (ci := 3) (kx := 6) (N := 8) (C := RX3) (ref := RX3) (T := TX3) (sl := zk_S) (x := none) (o := 1) rfl (Nat.le_of_ble_eq_true rfl) rfl (by decide) rfl zin_3 (by rw [hm]; exact ql_X3_22) rfl hdg z
theorem fp_X3_22  {v : Int32} (hm : mn.cls = RX3) (hdg : decode cc pc = .ok (.putfield 22, 3)) (z : EV g l (mn, cc, nL, rt, dp, hh) kb Q (pc + 3) ls rest (zup σ 1 6 v)) : EV g l (mn, cc, nL, rt, dp, hh) kb Q pc ls (.int v :: .ref (zad g 1) :: rest) σ :=
  e_put (ci := 3) (kx := 6) (N := 8) (C := RX3) (ref := RX3) (T := TX3) (ty0 := tyX3) (sl := zk_S) (o := 1) rfl (Nat.le_of_ble_eq_true rfl) rfl (by decide) rfl zin_3 tyX3_ok nmX3 rfl rfl rfl (by rw [hm]; exact ql_X3_22) rfl hdg z
theorem ql_X6_120 : Cond.fieldLink RX6 120 RX3 (TX3 6).2.1 (TX3 6).2.2.1 ∈ zT := zT_in 166 (by decide +kernel) (by decide +kernel)
theorem fg_X6_120  (hm : mn.cls = RX6) (hdg : decode cc pc = .ok (.getfield 120, 3)) (z : EV g l (mn, cc, nL, rt, dp, hh) kb Q (pc + 3) ls (.int (σ.1 1 6) :: rest) σ) : EV g l (mn, cc, nL, rt, dp, hh) kb Q pc ls (.ref (zad g 1) :: rest) σ :=
  e_get (ci := 3) (kx := 6) (N := 8) (C := RX3) (ref := RX3) (T := TX3) (sl := zk_S) (x := none) (o := 1) rfl (Nat.le_of_ble_eq_true rfl) rfl (by decide) rfl zin_3 (by rw [hm]; exact ql_X6_120) rfl hdg z
theorem fp_X6_120  {v : Int32} (hm : mn.cls = RX6) (hdg : decode cc pc = .ok (.putfield 120, 3)) (z : EV g l (mn, cc, nL, rt, dp, hh) kb Q (pc + 3) ls rest (zup σ 1 6 v)) : EV g l (mn, cc, nL, rt, dp, hh) kb Q pc ls (.int v :: .ref (zad g 1) :: rest) σ :=
  e_put (ci := 3) (kx := 6) (N := 8) (C := RX3) (ref := RX3) (T := TX3) (ty0 := tyX3) (sl := zk_S) (o := 1) rfl (Nat.le_of_ble_eq_true rfl) rfl (by decide) rfl zin_3 tyX3_ok nmX3 rfl rfl rfl (by rw [hm]; exact ql_X6_120) rfl hdg z
theorem ql_X3_15 : Cond.fieldLink RX3 15 RX3 (TX3 7).2.1 (TX3 7).2.2.1 ∈ zT := zT_in 167 (by decide +kernel) (by decide +kernel)
theorem fg_X3_15  (hm : mn.cls = RX3) (hdg : decode cc pc = .ok (.getfield 15, 3)) (z : EV g l (mn, cc, nL, rt, dp, hh) kb Q (pc + 3) ls (.int (σ.1 1 7) :: rest) σ) : EV g l (mn, cc, nL, rt, dp, hh) kb Q pc ls (.ref (zad g 1) :: rest) σ :=
  e_get (ci := 3) (kx := 7) (N := 8) (C := RX3) (ref := RX3) (T := TX3) (sl := zk_S) (x := none) (o := 1) rfl (Nat.le_of_ble_eq_true rfl) rfl (by decide) rfl zin_3 (by rw [hm]; exact ql_X3_15) rfl hdg z
theorem fp_X3_15  {v : Int32} (hm : mn.cls = RX3) (hdg : decode cc pc = .ok (.putfield 15, 3)) (z : EV g l (mn, cc, nL, rt, dp, hh) kb Q (pc + 3) ls rest (zup σ 1 7 v)) : EV g l (mn, cc, nL, rt, dp, hh) kb Q pc ls (.int v :: .ref (zad g 1) :: rest) σ :=
  e_put (ci := 3) (kx := 7) (N := 8) (C := RX3) (ref := RX3) (T := TX3) (ty0 := tyX3) (sl := zk_S) (o := 1) rfl (Nat.le_of_ble_eq_true rfl) rfl (by decide) rfl zin_3 tyX3_ok nmX3 rfl rfl rfl (by rw [hm]; exact ql_X3_15) rfl hdg z
theorem ql_X6_123 : Cond.fieldLink RX6 123 RX3 (TX3 7).2.1 (TX3 7).2.2.1 ∈ zT := zT_in 168 (by decide +kernel) (by decide +kernel)
theorem fg_X6_123  (hm : mn.cls = RX6) (hdg : decode cc pc = .ok (.getfield 123, 3)) (z : EV g l (mn, cc, nL, rt, dp, hh) kb Q (pc + 3) ls (.int (σ.1 1 7) :: rest) σ) : EV g l (mn, cc, nL, rt, dp, hh) kb Q pc ls (.ref (zad g 1) :: rest) σ :=
  e_get (ci := 3) (kx := 7) (N := 8) (C := RX3) (ref := RX3) (T := TX3) (sl := zk_S) (x := none) (o := 1) rfl (Nat.le_of_ble_eq_true rfl) rfl (by decide) rfl zin_3 (by rw [hm]; exact ql_X6_123) rfl hdg z
theorem fp_X6_123  {v : Int32} (hm : mn.cls = RX6) (hdg : decode cc pc = .ok (.putfield 123, 3)) (z : EV g l (mn, cc, nL, rt, dp, hh) kb Q (pc + 3) ls rest (zup σ 1 7 v)) : EV g l (mn, cc, nL, rt, dp, hh) kb Q pc ls (.int v :: .ref (zad g 1) :: rest) σ :=
  e_put (ci := 3) (kx := 7) (N := 8) (C := RX3) (ref := RX3) (T := TX3) (ty0 := tyX3) (sl := zk_S) (o := 1) rfl (Nat.le_of_ble_eq_true rfl) rfl (by decide) rfl zin_3 tyX3_ok nmX3 rfl rfl rfl (by rw [hm]; exact ql_X6_123) rfl hdg z
theorem ql_X0_11 : Cond.fieldLink RX0 11 RX0 (TX0 0).2.1 (TX0 0).2.2.1 ∈ zT := zT_in 199 (by decide +kernel) (by decide +kernel)
theorem fg_X0_11 {o : Nat} (hsh : zsh o = .inl (0, zkB o)) (ho : o < 163) (hm : mn.cls = RX0) (hdg : decode cc pc = .ok (.getfield 11, 3)) (z : EV g l (mn, cc, nL, rt, dp, hh) kb Q (pc + 3) ls (.int (σ.1 o 0) :: rest) σ) : EV g l (mn, cc, nL, rt, dp, hh) kb Q pc ls (.ref (zad g o) :: rest) σ :=
  e_get (ci := 0) (kx := 0) (N := 16) (C := RX0) (ref := RX0) (T := TX0) (sl := zkB o) (x := none) hsh ho rfl (by decide) rfl zin_0 (by rw [hm]; exact ql_X0_11) rfl hdg z
theorem fp_X0_11 {o : Nat} (hsh : zsh o = .inl (0, zkB o)) (ho : o < 163) {v : Int32} (hm : mn.cls = RX0) (hdg : decode cc pc = .ok (.putfield 11, 3)) (z : EV g l (mn, cc, nL, rt, dp, hh) kb Q (pc + 3) ls rest (zup σ o 0 v)) : EV g l (mn, cc, nL, rt, dp, hh) kb Q pc ls (.int v :: .ref (zad g o) :: rest) σ :=
  e_put (ci := 0) (kx := 0) (N := 16) (C := RX0) (ref := RX0) (T := TX0) (ty0 := tyX0) (sl := zkB o) hsh ho rfl (by decide) rfl zin_0 tyX0_ok nmX0 rfl rfl rfl (by rw [hm]; exact ql_X0_11) rfl hdg z
theorem ql_X4_109 : Cond.fieldLink RX4 109 RX0 (TX0 0).2.1 (TX0 0).2.2.1 ∈ zT := zT_in 200 (by decide +kernel) (by decide +kernel)
theorem fg_X4_109 {o : Nat} (hsh : zsh o = .inl (0, zkB o)) (ho : o < 163) (hm : mn.cls = RX4) (hdg : decode cc pc = .ok (.getfield 109, 3)) (z : EV g l (mn, cc, nL, rt, dp, hh) kb Q (pc + 3) ls (.int (σ.1 o 0) :: rest) σ) : EV g l (mn, cc, nL, rt, dp, hh) kb Q pc ls (.ref (zad g o) :: rest) σ :=
  e_get (ci := 0) (kx := 0) (N := 16) (C := RX0) (ref := RX0) (T := TX0) (sl := zkB o) (x := none) hsh ho rfl (by decide) rfl zin_0 (by rw [hm]; exact ql_X4_109) rfl hdg z
theorem fp_X4_109 {o : Nat} (hsh : zsh o = .inl (0, zkB o)) (ho : o < 163) {v : Int32} (hm : mn.cls = RX4) (hdg : decode cc pc = .ok (.putfield 109, 3)) (z : EV g l (mn, cc, nL, rt, dp, hh) kb Q (pc + 3) ls rest (zup σ o 0 v)) : EV g l (mn, cc, nL, rt, dp, hh) kb Q pc ls (.int v :: .ref (zad g o) :: rest) σ :=
  e_put (ci := 0) (kx := 0) (N := 16) (C := RX0) (ref := RX0) (T := TX0) (ty0 := tyX0) (sl := zkB o) hsh ho rfl (by decide) rfl zin_0 tyX0_ok nmX0 rfl rfl rfl (by rw [hm]; exact ql_X4_109) rfl hdg z
theorem ql_X6_126 : Cond.fieldLink RX6 126 RX0 (TX0 0).2.1 (TX0 0).2.2.1 ∈ zT := zT_in 201 (by decide +kernel) (by decide +kernel)
theorem fg_X6_126 {o : Nat} (hsh : zsh o = .inl (0, zkB o)) (ho : o < 163) (hm : mn.cls = RX6) (hdg : decode cc pc = .ok (.getfield 126, 3)) (z : EV g l (mn, cc, nL, rt, dp, hh) kb Q (pc + 3) ls (.int (σ.1 o 0) :: rest) σ) : EV g l (mn, cc, nL, rt, dp, hh) kb Q pc ls (.ref (zad g o) :: rest) σ :=
  e_get (ci := 0) (kx := 0) (N := 16) (C := RX0) (ref := RX0) (T := TX0) (sl := zkB o) (x := none) hsh ho rfl (by decide) rfl zin_0 (by rw [hm]; exact ql_X6_126) rfl hdg z
theorem fp_X6_126 {o : Nat} (hsh : zsh o = .inl (0, zkB o)) (ho : o < 163) {v : Int32} (hm : mn.cls = RX6) (hdg : decode cc pc = .ok (.putfield 126, 3)) (z : EV g l (mn, cc, nL, rt, dp, hh) kb Q (pc + 3) ls rest (zup σ o 0 v)) : EV g l (mn, cc, nL, rt, dp, hh) kb Q pc ls (.int v :: .ref (zad g o) :: rest) σ :=
  e_put (ci := 0) (kx := 0) (N := 16) (C := RX0) (ref := RX0) (T := TX0) (ty0 := tyX0) (sl := zkB o) hsh ho rfl (by decide) rfl zin_0 tyX0_ok nmX0 rfl rfl rfl (by rw [hm]; exact ql_X6_126) rfl hdg z
theorem ql_X5_76 : Cond.fieldLink RX5 76 RX0 (TX0 0).2.1 (TX0 0).2.2.1 ∈ zT := zT_in 202 (by decide +kernel) (by decide +kernel)
theorem fg_X5_76 {o : Nat} (hsh : zsh o = .inl (0, zkB o)) (ho : o < 163) (hm : mn.cls = RX5) (hdg : decode cc pc = .ok (.getfield 76, 3)) (z : EV g l (mn, cc, nL, rt, dp, hh) kb Q (pc + 3) ls (.int (σ.1 o 0) :: rest) σ) : EV g l (mn, cc, nL, rt, dp, hh) kb Q pc ls (.ref (zad g o) :: rest) σ :=
  e_get (ci := 0) (kx := 0) (N := 16) (C := RX0) (ref := RX0) (T := TX0) (sl := zkB o) (x := none) hsh ho rfl (by decide) rfl zin_0 (by rw [hm]; exact ql_X5_76) rfl hdg z
theorem fp_X5_76 {o : Nat} (hsh : zsh o = .inl (0, zkB o)) (ho : o < 163) {v : Int32} (hm : mn.cls = RX5) (hdg : decode cc pc = .ok (.putfield 76, 3)) (z : EV g l (mn, cc, nL, rt, dp, hh) kb Q (pc + 3) ls rest (zup σ o 0 v)) : EV g l (mn, cc, nL, rt, dp, hh) kb Q pc ls (.int v :: .ref (zad g o) :: rest) σ :=
  e_put (ci := 0) (kx := 0) (N := 16) (C := RX0) (ref := RX0) (T := TX0) (ty0 := tyX0) (sl := zkB o) hsh ho rfl (by decide) rfl zin_0 tyX0_ok nmX0 rfl rfl rfl (by rw [hm]; exact ql_X5_76) rfl hdg z
theorem ql_X0_15 : Cond.fieldLink RX0 15 RX0 (TX0 1).2.1 (TX0 1).2.2.1 ∈ zT := zT_in 203 (by decide +kernel) (by decide +kernel)
theorem fg_X0_15 {o : Nat} (hsh : zsh o = .inl (0, zkB o)) (ho : o < 163) (hm : mn.cls = RX0) (hdg : decode cc pc = .ok (.getfield 15, 3)) (z : EV g l (mn, cc, nL, rt, dp, hh) kb Q (pc + 3) ls (.int (σ.1 o 1) :: rest) σ) : EV g l (mn, cc, nL, rt, dp, hh) kb Q pc ls (.ref (zad g o) :: rest) σ :=
  e_get (ci := 0) (kx := 1) (N := 16) (C := RX0) (ref := RX0) (T := TX0) (sl := zkB o) (x := none) hsh ho rfl (by decide) rfl zin_0 (by rw [hm]; exact ql_X0_15) rfl hdg z
theorem fp_X0_15 {o : Nat} (hsh : zsh o = .inl (0, zkB o)) (ho : o < 163) {v : Int32} (hm : mn.cls = RX0) (hdg : decode cc pc = .ok (.putfield 15, 3)) (z : EV g l (mn, cc, nL, rt, dp, hh) kb Q (pc + 3) ls rest (zup σ o 1 v)) : EV g l (mn, cc, nL, rt, dp, hh) kb Q pc ls (.int v :: .ref (zad g o) :: rest) σ :=
  e_put (ci := 0) (kx := 1) (N := 16) (C := RX0) (ref := RX0) (T := TX0) (ty0 := tyX0) (sl := zkB o) hsh ho rfl (by decide) rfl zin_0 tyX0_ok nmX0 rfl rfl rfl (by rw [hm]; exact ql_X0_15) rfl hdg z
theorem ql_X4_115 : Cond.fieldLink RX4 115 RX0 (TX0 1).2.1 (TX0 1).2.2.1 ∈ zT := zT_in 204 (by decide +kernel) (by decide +kernel)
theorem fg_X4_115 {o : Nat} (hsh : zsh o = .inl (0, zkB o)) (ho : o < 163) (hm : mn.cls = RX4) (hdg : decode cc pc = .ok (.getfield 115, 3)) (z : EV g l (mn, cc, nL, rt, dp, hh) kb Q (pc + 3) ls (.int (σ.1 o 1) :: rest) σ) : EV g l (mn, cc, nL, rt, dp, hh) kb Q pc ls (.ref (zad g o) :: rest) σ :=
  e_get (ci := 0) (kx := 1) (N := 16) (C := RX0) (ref := RX0) (T := TX0) (sl := zkB o) (x := none) hsh ho rfl (by decide) rfl zin_0 (by rw [hm]; exact ql_X4_115) rfl hdg z
theorem fp_X4_115 {o : Nat} (hsh : zsh o = .inl (0, zkB o)) (ho : o < 163) {v : Int32} (hm : mn.cls = RX4) (hdg : decode cc pc = .ok (.putfield 115, 3)) (z : EV g l (mn, cc, nL, rt, dp, hh) kb Q (pc + 3) ls rest (zup σ o 1 v)) : EV g l (mn, cc, nL, rt, dp, hh) kb Q pc ls (.int v :: .ref (zad g o) :: rest) σ :=
  e_put (ci := 0) (kx := 1) (N := 16) (C := RX0) (ref := RX0) (T := TX0) (ty0 := tyX0) (sl := zkB o) hsh ho rfl (by decide) rfl zin_0 tyX0_ok nmX0 rfl rfl rfl (by rw [hm]; exact ql_X4_115) rfl hdg z
theorem ql_X6_138 : Cond.fieldLink RX6 138 RX0 (TX0 1).2.1 (TX0 1).2.2.1 ∈ zT := zT_in 205 (by decide +kernel) (by decide +kernel)
theorem fg_X6_138 {o : Nat} (hsh : zsh o = .inl (0, zkB o)) (ho : o < 163) (hm : mn.cls = RX6) (hdg : decode cc pc = .ok (.getfield 138, 3)) (z : EV g l (mn, cc, nL, rt, dp, hh) kb Q (pc + 3) ls (.int (σ.1 o 1) :: rest) σ) : EV g l (mn, cc, nL, rt, dp, hh) kb Q pc ls (.ref (zad g o) :: rest) σ :=
  e_get (ci := 0) (kx := 1) (N := 16) (C := RX0) (ref := RX0) (T := TX0) (sl := zkB o) (x := none) hsh ho rfl (by decide) rfl zin_0 (by rw [hm]; exact ql_X6_138) rfl hdg z
theorem fp_X6_138 {o : Nat} (hsh : zsh o = .inl (0, zkB o)) (ho : o < 163) {v : Int32} (hm : mn.cls = RX6) (hdg : decode cc pc = .ok (.putfield 138, 3)) (z : EV g l (mn, cc, nL, rt, dp, hh) kb Q (pc + 3) ls rest (zup σ o 1 v)) : EV g l (mn, cc, nL, rt, dp, hh) kb Q pc ls (.int v :: .ref (zad g o) :: rest) σ :=
  e_put (ci := 0) (kx := 1) (N := 16) (C := RX0) (ref := RX0) (T := TX0) (ty0 := tyX0) (sl := zkB o) hsh ho rfl (by decide) rfl zin_0 tyX0_ok nmX0 rfl rfl rfl (by rw [hm]; exact ql_X6_138) rfl hdg z
theorem ql_X5_26 : Cond.fieldLink RX5 26 RX0 (TX0 2).2.1 (TX0 2).2.2.1 ∈ zT := zT_in 206 (by decide +kernel) (by decide +kernel)
theorem fg_X5_26 {o : Nat} (hsh : zsh o = .inl (0, zkB o)) (ho : o < 163) (hm : mn.cls = RX5) (hdg : decode cc pc = .ok (.getfield 26, 3)) (z : EV g l (mn, cc, nL, rt, dp, hh) kb Q (pc + 3) ls (.int (σ.1 o 2) :: rest) σ) : EV g l (mn, cc, nL, rt, dp, hh) kb Q pc ls (.ref (zad g o) :: rest) σ :=
  e_get (ci := 0) (kx := 2) (N := 16) (C := RX0) (ref := RX0) (T := TX0) (sl := zkB o) (x := none) hsh ho rfl (by decide) rfl zin_0 (by rw [hm]; exact ql_X5_26) rfl hdg z
theorem fp_X5_26 {o : Nat} (hsh : zsh o = .inl (0, zkB o)) (ho : o < 163) {v : Int32} (hm : mn.cls = RX5) (hdg : decode cc pc = .ok (.putfield 26, 3)) (z : EV g l (mn, cc, nL, rt, dp, hh) kb Q (pc + 3) ls rest (zup σ o 2 v)) : EV g l (mn, cc, nL, rt, dp, hh) kb Q pc ls (.int v :: .ref (zad g o) :: rest) σ :=
  e_put (ci := 0) (kx := 2) (N := 16) (C := RX0) (ref := RX0) (T := TX0) (ty0 := tyX0) (sl := zkB o) hsh ho rfl (by decide) rfl zin_0 tyX0_ok nmX0 rfl rfl rfl (by rw [hm]; exact ql_X5_26) rfl hdg z
theorem ql_X0_46 : Cond.fieldLink RX0 46 RX0 (TX0 2).2.1 (TX0 2).2.2.1 ∈ zT := zT_in 207 (by decide +kernel) (by decide +kernel)
theorem fg_X0_46 {o : Nat} (hsh : zsh o = .inl (0, zkB o)) (ho : o < 163) (hm : mn.cls = RX0) (hdg : decode cc pc = .ok (.getfield 46, 3)) (z : EV g l (mn, cc, nL, rt, dp, hh) kb Q (pc + 3) ls (.int (σ.1 o 2) :: rest) σ) : EV g l (mn, cc, nL, rt, dp, hh) kb Q pc ls (.ref (zad g o) :: rest) σ :=
  e_get (ci := 0) (kx := 2) (N := 16) (C := RX0) (ref := RX0) (T := TX0) (sl := zkB o) (x := none) hsh ho rfl (by decide) rfl zin_0 (by rw [hm]; exact ql_X0_46) rfl hdg z
theorem fp_X0_46 {o : Nat} (hsh : zsh o = .inl (0, zkB o)) (ho : o < 163) {v : Int32} (hm : mn.cls = RX0) (hdg : decode cc pc = .ok (.putfield 46, 3)) (z : EV g l (mn, cc, nL, rt, dp, hh) kb Q (pc + 3) ls rest (zup σ o 2 v)) : EV g l (mn, cc, nL, rt, dp, hh) kb Q pc ls (.int v :: .ref (zad g o) :: rest) σ :=
  e_put (ci := 0) (kx := 2) (N := 16) (C := RX0) (ref := RX0) (T := TX0) (ty0 := tyX0) (sl := zkB o) hsh ho rfl (by decide) rfl zin_0 tyX0_ok nmX0 rfl rfl rfl (by rw [hm]; exact ql_X0_46) rfl hdg z
theorem ql_X6_101 : Cond.fieldLink RX6 101 RX0 (TX0 2).2.1 (TX0 2).2.2.1 ∈ zT := zT_in 208 (by decide +kernel) (by decide +kernel)
theorem fg_X6_101 {o : Nat} (hsh : zsh o = .inl (0, zkB o)) (ho : o < 163) (hm : mn.cls = RX6) (hdg : decode cc pc = .ok (.getfield 101, 3)) (z : EV g l (mn, cc, nL, rt, dp, hh) kb Q (pc + 3) ls (.int (σ.1 o 2) :: rest) σ) : EV g l (mn, cc, nL, rt, dp, hh) kb Q pc ls (.ref (zad g o) :: rest) σ :=
  e_get (ci := 0) (kx := 2) (N := 16) (C := RX0) (ref := RX0) (T := TX0) (sl := zkB o) (x := none) hsh ho rfl (by decide) rfl zin_0 (by rw [hm]; exact ql_X6_101) rfl hdg z
theorem fp_X6_101 {o : Nat} (hsh : zsh o = .inl (0, zkB o)) (ho : o < 163) {v : Int32} (hm : mn.cls = RX6) (hdg : decode cc pc = .ok (.putfield 101, 3)) (z : EV g l (mn, cc, nL, rt, dp, hh) kb Q (pc + 3) ls rest (zup σ o 2 v)) : EV g l (mn, cc, nL, rt, dp, hh) kb Q pc ls (.int v :: .ref (zad g o) :: rest) σ :=
  e_put (ci := 0) (kx := 2) (N := 16) (C := RX0) (ref := RX0) (T := TX0) (ty0 := tyX0) (sl := zkB o) hsh ho rfl (by decide) rfl zin_0 tyX0_ok nmX0 rfl rfl rfl (by rw [hm]; exact ql_X6_101) rfl hdg z
theorem ql_X4_118 : Cond.fieldLink RX4 118 RX0 (TX0 2).2.1 (TX0 2).2.2.1 ∈ zT := zT_in 209 (by decide +kernel) (by decide +kernel)
theorem fg_X4_118 {o : Nat} (hsh : zsh o = .inl (0, zkB o)) (ho : o < 163) (hm : mn.cls = RX4) (hdg : decode cc pc = .ok (.getfield 118, 3)) (z : EV g l (mn, cc, nL, rt, dp, hh) kb Q (pc + 3) ls (.int (σ.1 o 2) :: rest) σ) : EV g l (mn, cc, nL, rt, dp, hh) kb Q pc ls (.ref (zad g o) :: rest) σ :=
  e_get (ci := 0) (kx := 2) (N := 16) (C := RX0) (ref := RX0) (T := TX0) (sl := zkB o) (x := none) hsh ho rfl (by decide) rfl zin_0 (by rw [hm]; exact ql_X4_118) rfl hdg z
theorem fp_X4_118 {o : Nat} (hsh : zsh o = .inl (0, zkB o)) (ho : o < 163) {v : Int32} (hm : mn.cls = RX4) (hdg : decode cc pc = .ok (.putfield 118, 3)) (z : EV g l (mn, cc, nL, rt, dp, hh) kb Q (pc + 3) ls rest (zup σ o 2 v)) : EV g l (mn, cc, nL, rt, dp, hh) kb Q pc ls (.int v :: .ref (zad g o) :: rest) σ :=
  e_put (ci := 0) (kx := 2) (N := 16) (C := RX0) (ref := RX0) (T := TX0) (ty0 := tyX0) (sl := zkB o) hsh ho rfl (by decide) rfl zin_0 tyX0_ok nmX0 rfl rfl rfl (by rw [hm]; exact ql_X4_118) rfl hdg z
theorem ql_X0_49 : Cond.fieldLink RX0 49 RX0 (TX0 3).2.1 (TX0 3).2.2.1 ∈ zT := zT_in 210 (by decide +kernel) (by decide +kernel)
theorem fg_X0_49 {o : Nat} (hsh : zsh o = .inl (0, zkB o)) (ho : o < 163) (hm : mn.cls = RX0) (hdg : decode cc pc = .ok (.getfield 49, 3)) (z : EV g l (mn, cc, nL, rt, dp, hh) kb Q (pc + 3) ls (.int (σ.1 o 3) :: rest) σ) : EV g l (mn, cc, nL, rt, dp, hh) kb Q pc ls (.ref (zad g o) :: rest) σ :=
  e_get (ci := 0) (kx := 3) (N := 16) (C := RX0) (ref := RX0) (T := TX0) (sl := zkB o) (x := none) hsh ho rfl (by decide) rfl zin_0 (by rw [hm]; exact ql_X0_49) rfl hdg z
theorem fp_X0_49 {o : Nat} (hsh : zsh o = .inl (0, zkB o)) (ho : o < 163) {v : Int32} (hm : mn.cls = RX0) (hdg : decode cc pc = .ok (.putfield 49, 3)) (z : EV g l (mn, cc, nL, rt, dp, hh) kb Q (pc + 3) ls rest (zup σ o 3 v)) : EV g l (mn, cc, nL, rt, dp, hh) kb Q pc ls (.int v :: .ref (zad g o) :: rest) σ :=
  e_put (ci := 0) (kx := 3) (N := 16) (C := RX0) (ref := RX0) (T := TX0) (ty0 := tyX0) (sl := zkB o) hsh ho rfl (by decide) rfl zin_0 tyX0_ok nmX0 rfl rfl rfl (by rw [hm]; exact ql_X0_49) rfl hdg z
theorem ql_X5_73 : Cond.fieldLink RX5 73 RX0 (TX0 3).2.1 (TX0 3).2.2.1 ∈ zT := zT_in 211 (by decide +kernel) (by decide +kernel)
theorem fg_X5_73 {o : Nat} (hsh : zsh o = .inl (0, zkB o)) (ho : o < 163) (hm : mn.cls = RX5) (hdg : decode cc pc = .ok (.getfield 73, 3)) (z : EV g l (mn, cc, nL, rt, dp, hh) kb Q (pc + 3) ls (.int (σ.1 o 3) :: rest) σ) : EV g l (mn, cc, nL, rt, dp, hh) kb Q pc ls (.ref (zad g o) :: rest) σ :=
  e_get (ci := 0) (kx := 3) (N := 16) (C := RX0) (ref := RX0) (T := TX0) (sl := zkB o) (x := none) hsh ho rfl (by decide) rfl zin_0 (by rw [hm]; exact ql_X5_73) rfl hdg z
theorem fp_X5_73 {o : Nat} (hsh : zsh o = .inl (0, zkB o)) (ho : o < 163) {v : Int32} (hm : mn.cls = RX5) (hdg : decode cc pc = .ok (.putfield 73, 3)) (z : EV g l (mn, cc, nL, rt, dp, hh) kb Q (pc + 3) ls rest (zup σ o 3 v)) : EV g l (mn, cc, nL, rt, dp, hh) kb Q pc ls (.int v :: .ref (zad g o) :: rest) σ :=
  e_put (ci := 0) (kx := 3) (N := 16) (C := RX0) (ref := RX0) (T := TX0) (ty0 := tyX0) (sl := zkB o) hsh ho rfl (by decide) rfl zin_0 tyX0_ok nmX0 rfl rfl rfl (by rw [hm]; exact ql_X5_73) rfl hdg z
theorem ql_X6_129 : Cond.fieldLink RX6 129 RX0 (TX0 3).2.1 (TX0 3).2.2.1 ∈ zT := zT_in 212 (by decide +kernel) (by decide +kernel)
theorem fg_X6_129 {o : Nat} (hsh : zsh o = .inl (0, zkB o)) (ho : o < 163) (hm : mn.cls = RX6) (hdg : decode cc pc = .ok (.getfield 129, 3)) (z : EV g l (mn, cc, nL, rt, dp, hh) kb Q (pc + 3) ls (.int (σ.1 o 3) :: rest) σ) : EV g l (mn, cc, nL, rt, dp, hh) kb Q pc ls (.ref (zad g o) :: rest) σ :=
  e_get (ci := 0) (kx := 3) (N := 16) (C := RX0) (ref := RX0) (T := TX0) (sl := zkB o) (x := none) hsh ho rfl (by decide) rfl zin_0 (by rw [hm]; exact ql_X6_129) rfl hdg z
theorem fp_X6_129 {o : Nat} (hsh : zsh o = .inl (0, zkB o)) (ho : o < 163) {v : Int32} (hm : mn.cls = RX6) (hdg : decode cc pc = .ok (.putfield 129, 3)) (z : EV g l (mn, cc, nL, rt, dp, hh) kb Q (pc + 3) ls rest (zup σ o 3 v)) : EV g l (mn, cc, nL, rt, dp, hh) kb Q pc ls (.int v :: .ref (zad g o) :: rest) σ :=
  e_put (ci := 0) (kx := 3) (N := 16) (C := RX0) (ref := RX0) (T := TX0) (ty0 := tyX0) (sl := zkB o) hsh ho rfl (by decide) rfl zin_0 tyX0_ok nmX0 rfl rfl rfl (by rw [hm]; exact ql_X6_129) rfl hdg z
theorem ql_X4_148 : Cond.fieldLink RX4 148 RX0 (TX0 3).2.1 (TX0 3).2.2.1 ∈ zT := zT_in 213 (by decide +kernel) (by decide +kernel)
theorem fg_X4_148 {o : Nat} (hsh : zsh o = .inl (0, zkB o)) (ho : o < 163) (hm : mn.cls = RX4) (hdg : decode cc pc = .ok (.getfield 148, 3)) (z : EV g l (mn, cc, nL, rt, dp, hh) kb Q (pc + 3) ls (.int (σ.1 o 3) :: rest) σ) : EV g l (mn, cc, nL, rt, dp, hh) kb Q pc ls (.ref (zad g o) :: rest) σ :=
  e_get (ci := 0) (kx := 3) (N := 16) (C := RX0) (ref := RX0) (T := TX0) (sl := zkB o) (x := none) hsh ho rfl (by decide) rfl zin_0 (by rw [hm]; exact ql_X4_148) rfl hdg z
theorem fp_X4_148 {o : Nat} (hsh : zsh o = .inl (0, zkB o)) (ho : o < 163) {v : Int32} (hm : mn.cls = RX4) (hdg : decode cc pc = .ok (.putfield 148, 3)) (z : EV g l (mn, cc, nL, rt, dp, hh) kb Q (pc + 3) ls rest (zup σ o 3 v)) : EV g l (mn, cc, nL, rt, dp, hh) kb Q pc ls (.int v :: .ref (zad g o) :: rest) σ :=
  e_put (ci := 0) (kx := 3) (N := 16) (C := RX0) (ref := RX0) (T := TX0) (ty0 := tyX0) (sl := zkB o) hsh ho rfl (by decide) rfl zin_0 tyX0_ok nmX0 rfl rfl rfl (by rw [hm]; exact ql_X4_148) rfl hdg z
theorem ql_X0_52 : Cond.fieldLink RX0 52 RX0 (TX0 4).2.1 (TX0 4).2.2.1 ∈ zT := zT_in 214 (by decide +kernel) (by decide +kernel)
theorem fg_X0_52 {o : Nat} (hsh : zsh o = .inl (0, zkB o)) (ho : o < 163) (hm : mn.cls = RX0) (hdg : decode cc pc = .ok (.getfield 52, 3)) (z : EV g l (mn, cc, nL, rt, dp, hh) kb Q (pc + 3) ls (.int (σ.1 o 4) :: rest) σ) : EV g l (mn, cc, nL, rt, dp, hh) kb Q pc ls (.ref (zad g o) :: rest) σ :=
  e_get (ci := 0) (kx := 4) (N := 16) (C := RX0) (ref := RX0) (T := TX0) (sl := zkB o) (x := none) hsh ho rfl (by decide) rfl zin_0 (by rw [hm]; exact ql_X0_52) rfl hdg z
theorem fp_X0_52 {o : Nat} (hsh : zsh o = .inl (0, zkB o)) (ho : o < 163) {v : Int32} (hm : mn.cls = RX0) (hdg : decode cc pc = .ok (.putfield 52, 3)) (z : EV g l (mn, cc, nL, rt, dp, hh) kb Q (pc + 3) ls rest (zup σ o 4 v)) : EV g l (mn, cc, nL, rt, dp, hh) kb Q pc ls (.int v :: .ref (zad g o) :: rest) σ :=
  e_put (ci := 0) (kx := 4) (N := 16) (C := RX0) (ref := RX0) (T := TX0) (ty0 := tyX0) (sl := zkB o) hsh ho rfl (by decide) rfl zin_0 tyX0_ok nmX0 rfl rfl rfl (by rw [hm]; exact ql_X0_52) rfl hdg z
theorem ql_X6_132 : Cond.fieldLink RX6 132 RX0 (TX0 4).2.1 (TX0 4).2.2.1 ∈ zT := zT_in 215 (by decide +kernel) (by decide +kernel)
theorem fg_X6_132 {o : Nat} (hsh : zsh o = .inl (0, zkB o)) (ho : o < 163) (hm : mn.cls = RX6) (hdg : decode cc pc = .ok (.getfield 132, 3)) (z : EV g l (mn, cc, nL, rt, dp, hh) kb Q (pc + 3) ls (.int (σ.1 o 4) :: rest) σ) : EV g l (mn, cc, nL, rt, dp, hh) kb Q pc ls (.ref (zad g o) :: rest) σ :=
  e_get (ci := 0) (kx := 4) (N := 16) (C := RX0) (ref := RX0) (T := TX0) (sl := zkB o) (x := none) hsh ho rfl (by decide) rfl zin_0 (by rw [hm]; exact ql_X6_132) rfl hdg z
theorem fp_X6_132 {o : Nat} (hsh : zsh o = .inl (0, zkB o)) (ho : o < 163) {v : Int32} (hm : mn.cls = RX6) (hdg : decode cc pc = .ok (.putfield 132, 3)) (z : EV g l (mn, cc, nL, rt, dp, hh) kb Q (pc + 3) ls rest (zup σ o 4 v)) : EV g l (mn, cc, nL, rt, dp, hh) kb Q pc ls (.int v :: .ref (zad g o) :: rest) σ :=
  e_put (ci := 0) (kx := 4) (N := 16) (C := RX0) (ref := RX0) (T := TX0) (ty0 := tyX0) (sl := zkB o) hsh ho rfl (by decide) rfl zin_0 tyX0_ok nmX0 rfl rfl rfl (by rw [hm]; exact ql_X6_132) rfl hdg z
theorem ql_X0_55 : Cond.fieldLink RX0 55 RX0 (TX0 5).2.1 (TX0 5).2.2.1 ∈ zT := zT_in 216 (by decide +kernel) (by decide +kernel)
theorem fg_X0_55 {o : Nat} (hsh : zsh o = .inl (0, zkB o)) (ho : o < 163) (hm : mn.cls = RX0) (hdg : decode cc pc = .ok (.getfield 55, 3)) (z : EV g l (mn, cc, nL, rt, dp, hh) kb Q (pc + 3) ls (.int (σ.1 o 5) :: rest) σ) : EV g l (mn, cc, nL, rt, dp, hh) kb Q pc ls (.ref (zad g o) :: rest) σ :=
  e_get (ci := 0) (kx := 5) (N := 16) (C := RX0) (ref := RX0) (T := TX0) (sl := zkB o) (x := none) hsh ho rfl (by decide) rfl zin_0 (by rw [hm]; exact ql_X0_55) rfl hdg z
theorem fp_X0_55 {o : Nat} (hsh : zsh o = .inl (0, zkB o)) (ho : o < 163) {v : Int32} (hm : mn.cls = RX0) (hdg : decode cc pc = .ok (.putfield 55, 3)) (z : EV g l (mn, cc, nL, rt, dp, hh) kb Q (pc + 3) ls rest (zup σ o 5 v)) : EV g l (mn, cc, nL, rt, dp, hh) kb Q pc ls (.int v :: .ref (zad g o) :: rest) σ :=
  e_put (ci := 0) (kx := 5) (N := 16) (C := RX0) (ref := RX0) (T := TX0) (ty0 := tyX0) (sl := zkB o) hsh ho rfl (by decide) rfl zin_0 tyX0_ok nmX0 rfl rfl rfl (by rw [hm]; exact ql_X0_55) rfl hdg z
theorem ql_X6_135 : Cond.fieldLink RX6 135 RX0 (TX0 5).2.1 (TX0 5).2.2.1 ∈ zT := zT_in 217 (by decide +kernel) (by decide +kernel)
theorem fg_X6_135 {o : Nat} (hsh : zsh o = .inl (0, zkB o)) (ho : o < 163) (hm : mn.cls = RX6) (hdg : decode cc pc = .ok (.getfield 135, 3)) (z : EV g l (mn, cc, nL, rt, dp, hh) kb Q (pc + 3) ls (.int (σ.1 o 5) :: rest) σ) : EV g l (mn, cc, nL, rt, dp, hh) kb Q pc ls (.ref (zad g o) :: rest) σ :=
  e_get (ci := 0) (kx := 5) (N := 16) (C := RX0) (ref := RX0) (T := TX0) (sl := zkB o) (x := none) hsh ho rfl (by decide) rfl zin_0 (by rw [hm]; exact ql_X6_135) rfl hdg z
theorem fp_X6_135 {o : Nat} (hsh : zsh o = .inl (0, zkB o)) (ho : o < 163) {v : Int32} (hm : mn.cls = RX6) (hdg : decode cc pc = .ok (.putfield 135, 3)) (z : EV g l (mn, cc, nL, rt, dp, hh) kb Q (pc + 3) ls rest (zup σ o 5 v)) : EV g l (mn, cc, nL, rt, dp, hh) kb Q pc ls (.int v :: .ref (zad g o) :: rest) σ :=
  e_put (ci := 0) (kx := 5) (N := 16) (C := RX0) (ref := RX0) (T := TX0) (ty0 := tyX0) (sl := zkB o) hsh ho rfl (by decide) rfl zin_0 tyX0_ok nmX0 rfl rfl rfl (by rw [hm]; exact ql_X6_135) rfl hdg z
theorem ql_X0_58 : Cond.fieldLink RX0 58 RX0 (TX0 6).2.1 (TX0 6).2.2.1 ∈ zT := zT_in 218 (by decide +kernel) (by decide +kernel)
theorem fg_X0_58 {o : Nat} (hsh : zsh o = .inl (0, zkB o)) (ho : o < 163) (hm : mn.cls = RX0) (hdg : decode cc pc = .ok (.getfield 58, 3)) (z : EV g l (mn, cc, nL, rt, dp, hh) kb Q (pc + 3) ls (.int (σ.1 o 6) :: rest) σ) : EV g l (mn, cc, nL, rt, dp, hh) kb Q pc ls (.ref (zad g o) :: rest) σ :=
  e_get (ci := 0) (kx := 6) (N := 16) (C := RX0) (ref := RX0) (T := TX0) (sl := zkB o) (x := none) hsh ho rfl (by decide) rfl zin_0 (by rw [hm]; exact ql_X0_58) rfl hdg z
theorem fp_X0_58 {o : Nat} (hsh : zsh o = .inl (0, zkB o)) (ho : o < 163) {v : Int32} (hm : mn.cls = RX0) (hdg : decode cc pc = .ok (.putfield 58, 3)) (z : EV g l (mn, cc, nL, rt, dp, hh) kb Q (pc + 3) ls rest (zup σ o 6 v)) : EV g l (mn, cc, nL, rt, dp, hh) kb Q pc ls (.int v :: .ref (zad g o) :: rest) σ :=
  e_put (ci := 0) (kx := 6) (N := 16) (C := RX0) (ref := RX0) (T := TX0) (ty0 := tyX0) (sl := zkB o) hsh ho rfl (by decide) rfl zin_0 tyX0_ok nmX0 rfl rfl rfl (by rw [hm]; exact ql_X0_58) rfl hdg z
theorem ql_X6_141 : Cond.fieldLink RX6 141 RX0 (TX0 6).2.1 (TX0 6).2.2.1 ∈ zT := zT_in 219 (by decide +kernel) (by decide +kernel)
theorem fg_X6_141 {o : Nat} (hsh : zsh o = .inl (0, zkB o)) (ho : o < 163) (hm : mn.cls = RX6) (hdg : decode cc pc = .ok (.getfield 141, 3)) (z : EV g l (mn, cc, nL, rt, dp, hh) kb Q (pc + 3) ls (.int (σ.1 o 6) :: rest) σ) : EV g l (mn, cc, nL, rt, dp, hh) kb Q pc ls (.ref (zad g o) :: rest) σ :=
  e_get (ci := 0) (kx := 6) (N := 16) (C := RX0) (ref := RX0) (T := TX0) (sl := zkB o) (x := none) hsh ho rfl (by decide) rfl zin_0 (by rw [hm]; exact ql_X6_141) rfl hdg z
theorem fp_X6_141 {o : Nat} (hsh : zsh o = .inl (0, zkB o)) (ho : o < 163) {v : Int32} (hm : mn.cls = RX6) (hdg : decode cc pc = .ok (.putfield 141, 3)) (z : EV g l (mn, cc, nL, rt, dp, hh) kb Q (pc + 3) ls rest (zup σ o 6 v)) : EV g l (mn, cc, nL, rt, dp, hh) kb Q pc ls (.int v :: .ref (zad g o) :: rest) σ :=
  e_put (ci := 0) (kx := 6) (N := 16) (C := RX0) (ref := RX0) (T := TX0) (ty0 := tyX0) (sl := zkB o) hsh ho rfl (by decide) rfl zin_0 tyX0_ok nmX0 rfl rfl rfl (by rw [hm]; exact ql_X6_141) rfl hdg z
theorem ql_X0_18 : Cond.fieldLink RX0 18 RX0 (TX0 7).2.1 (TX0 7).2.2.1 ∈ zT := zT_in 220 (by decide +kernel) (by decide +kernel)
theorem fg_X0_18 {o : Nat} (hsh : zsh o = .inl (0, zkB o)) (ho : o < 163) (hm : mn.cls = RX0) (hdg : decode cc pc = .ok (.getfield 18, 3)) (z : EV g l (mn, cc, nL, rt, dp, hh) kb Q (pc + 3) ls (.ref (zad g (o + 1)) :: rest) σ) : EV g l (mn, cc, nL, rt, dp, hh) kb Q pc ls (.ref (zad g o) :: rest) σ :=
  e_get (ci := 0) (kx := 7) (N := 16) (C := RX0) (ref := RX0) (T := TX0) (sl := zkB o) (x := some (.inl (o + 1))) hsh ho rfl (by decide) rfl zin_0 (by rw [hm]; exact ql_X0_18) rfl hdg z
theorem ql_X5_45 : Cond.fieldLink RX5 45 RX0 (TX0 7).2.1 (TX0 7).2.2.1 ∈ zT := zT_in 221 (by decide +kernel) (by decide +kernel)
theorem fg_X5_45 {o : Nat} (hsh : zsh o = .inl (0, zkB o)) (ho : o < 163) (hm : mn.cls = RX5) (hdg : decode cc pc = .ok (.getfield 45, 3)) (z : EV g l (mn, cc, nL, rt, dp, hh) kb Q (pc + 3) ls (.ref (zad g (o + 1)) :: rest) σ) : EV g l (mn, cc, nL, rt, dp, hh) kb Q pc ls (.ref (zad g o) :: rest) σ :=
  e_get (ci := 0) (kx := 7) (N := 16) (C := RX0) (ref := RX0) (T := TX0) (sl := zkB o) (x := some (.inl (o + 1))) hsh ho rfl (by decide) rfl zin_0 (by rw [hm]; exact ql_X5_45) rfl hdg z
theorem ql_X6_169 : Cond.fieldLink RX6 169 RX0 (TX0 7).2.1 (TX0 7).2.2.1 ∈ zT := zT_in 222 (by decide +kernel) (by decide +kernel)
theorem fg_X6_169 {o : Nat} (hsh : zsh o = .inl (0, zkB o)) (ho : o < 163) (hm : mn.cls = RX6) (hdg : decode cc pc = .ok (.getfield 169, 3)) (z : EV g l (mn, cc, nL, rt, dp, hh) kb Q (pc + 3) ls (.ref (zad g (o + 1)) :: rest) σ) : EV g l (mn, cc, nL, rt, dp, hh) kb Q pc ls (.ref (zad g o) :: rest) σ :=
  e_get (ci := 0) (kx := 7) (N := 16) (C := RX0) (ref := RX0) (T := TX0) (sl := zkB o) (x := some (.inl (o + 1))) hsh ho rfl (by decide) rfl zin_0 (by rw [hm]; exact ql_X6_169) rfl hdg z
theorem ql_X0_22 : Cond.fieldLink RX0 22 RX0 (TX0 8).2.1 (TX0 8).2.2.1 ∈ zT := zT_in 223 (by decide +kernel) (by decide +kernel)
theorem fg_X0_22 {o : Nat} (hsh : zsh o = .inl (0, zkB o)) (ho : o < 163) (hm : mn.cls = RX0) (hdg : decode cc pc = .ok (.getfield 22, 3)) (z : EV g l (mn, cc, nL, rt, dp, hh) kb Q (pc + 3) ls (.ref (zad g (o + 2)) :: rest) σ) : EV g l (mn, cc, nL, rt, dp, hh) kb Q pc ls (.ref (zad g o) :: rest) σ :=
  e_get (ci := 0) (kx := 8) (N := 16) (C := RX0) (ref := RX0) (T := TX0) (sl := zkB o) (x := some (.inl (o + 2))) hsh ho rfl (by decide) rfl zin_0 (by rw [hm]; exact ql_X0_22) rfl hdg z
theorem ql_X5_56 : Cond.fieldLink RX5 56 RX0 (TX0 8).2.1 (TX0 8).2.2.1 ∈ zT := zT_in 224 (by decide +kernel) (by decide +kernel)
theorem fg_X5_56 {o : Nat} (hsh : zsh o = .inl (0, zkB o)) (ho : o < 163) (hm : mn.cls = RX5) (hdg : decode cc pc = .ok (.getfield 56, 3)) (z : EV g l (mn, cc, nL, rt, dp, hh) kb Q (pc + 3) ls (.ref (zad g (o + 2)) :: rest) σ) : EV g l (mn, cc, nL, rt, dp, hh) kb Q pc ls (.ref (zad g o) :: rest) σ :=
  e_get (ci := 0) (kx := 8) (N := 16) (C := RX0) (ref := RX0) (T := TX0) (sl := zkB o) (x := some (.inl (o + 2))) hsh ho rfl (by decide) rfl zin_0 (by rw [hm]; exact ql_X5_56) rfl hdg z
theorem ql_X6_172 : Cond.fieldLink RX6 172 RX0 (TX0 8).2.1 (TX0 8).2.2.1 ∈ zT := zT_in 225 (by decide +kernel) (by decide +kernel)
theorem fg_X6_172 {o : Nat} (hsh : zsh o = .inl (0, zkB o)) (ho : o < 163) (hm : mn.cls = RX6) (hdg : decode cc pc = .ok (.getfield 172, 3)) (z : EV g l (mn, cc, nL, rt, dp, hh) kb Q (pc + 3) ls (.ref (zad g (o + 2)) :: rest) σ) : EV g l (mn, cc, nL, rt, dp, hh) kb Q pc ls (.ref (zad g o) :: rest) σ :=
  e_get (ci := 0) (kx := 8) (N := 16) (C := RX0) (ref := RX0) (T := TX0) (sl := zkB o) (x := some (.inl (o + 2))) hsh ho rfl (by decide) rfl zin_0 (by rw [hm]; exact ql_X6_172) rfl hdg z
theorem ql_X0_25 : Cond.fieldLink RX0 25 RX0 (TX0 9).2.1 (TX0 9).2.2.1 ∈ zT := zT_in 226 (by decide +kernel) (by decide +kernel)
theorem fg_X0_25 {o : Nat} (hsh : zsh o = .inl (0, zkB o)) (ho : o < 163) (hm : mn.cls = RX0) (hdg : decode cc pc = .ok (.getfield 25, 3)) (z : EV g l (mn, cc, nL, rt, dp, hh) kb Q (pc + 3) ls (.ref (zad g (o + 3)) :: rest) σ) : EV g l (mn, cc, nL, rt, dp, hh) kb Q pc ls (.ref (zad g o) :: rest) σ :=
  e_get (ci := 0) (kx := 9) (N := 16) (C := RX0) (ref := RX0) (T := TX0) (sl := zkB o) (x := some (.inl (o + 3))) hsh ho rfl (by decide) rfl zin_0 (by rw [hm]; exact ql_X0_25) rfl hdg z
theorem ql_X6_175 : Cond.fieldLink RX6 175 RX0 (TX0 9).2.1 (TX0 9).2.2.1 ∈ zT := zT_in 227 (by decide +kernel) (by decide +kernel)
theorem fg_X6_175 {o : Nat} (hsh : zsh o = .inl (0, zkB o)) (ho : o < 163) (hm : mn.cls = RX6) (hdg : decode cc pc = .ok (.getfield 175, 3)) (z : EV g l (mn, cc, nL, rt, dp, hh) kb Q (pc + 3) ls (.ref (zad g (o + 3)) :: rest) σ) : EV g l (mn, cc, nL, rt, dp, hh) kb Q pc ls (.ref (zad g o) :: rest) σ :=
  e_get (ci := 0) (kx := 9) (N := 16) (C := RX0) (ref := RX0) (T := TX0) (sl := zkB o) (x := some (.inl (o + 3))) hsh ho rfl (by decide) rfl zin_0 (by rw [hm]; exact ql_X6_175) rfl hdg z
theorem ql_X0_28 : Cond.fieldLink RX0 28 RX0 (TX0 10).2.1 (TX0 10).2.2.1 ∈ zT := zT_in 228 (by decide +kernel) (by decide +kernel)
theorem fg_X0_28 {o : Nat} (hsh : zsh o = .inl (0, zkB o)) (ho : o < 163) (hm : mn.cls = RX0) (hdg : decode cc pc = .ok (.getfield 28, 3)) (z : EV g l (mn, cc, nL, rt, dp, hh) kb Q (pc + 3) ls (.ref (zad g (o + 4)) :: rest) σ) : EV g l (mn, cc, nL, rt, dp, hh) kb Q pc ls (.ref (zad g o) :: rest) σ :=
  e_get (ci := 0) (kx := 10) (N := 16) (C := RX0) (ref := RX0) (T := TX0) (sl := zkB o) (x := some (.inl (o + 4))) hsh ho rfl (by decide) rfl zin_0 (by rw [hm]; exact ql_X0_28) rfl hdg z
theorem ql_X6_181 : Cond.fieldLink RX6 181 RX0 (TX0 10).2.1 (TX0 10).2.2.1 ∈ zT := zT_in 229 (by decide +kernel) (by decide +kernel)
theorem fg_X6_181 {o : Nat} (hsh : zsh o = .inl (0, zkB o)) (ho : o < 163) (hm : mn.cls = RX6) (hdg : decode cc pc = .ok (.getfield 181, 3)) (z : EV g l (mn, cc, nL, rt, dp, hh) kb Q (pc + 3) ls (.ref (zad g (o + 4)) :: rest) σ) : EV g l (mn, cc, nL, rt, dp, hh) kb Q pc ls (.ref (zad g o) :: rest) σ :=
  e_get (ci := 0) (kx := 10) (N := 16) (C := RX0) (ref := RX0) (T := TX0) (sl := zkB o) (x := some (.inl (o + 4))) hsh ho rfl (by decide) rfl zin_0 (by rw [hm]; exact ql_X6_181) rfl hdg z
theorem ql_X0_31 : Cond.fieldLink RX0 31 RX0 (TX0 11).2.1 (TX0 11).2.2.1 ∈ zT := zT_in 230 (by decide +kernel) (by decide +kernel)
theorem fg_X0_31 {o : Nat} (hsh : zsh o = .inl (0, zkB o)) (ho : o < 163) (hm : mn.cls = RX0) (hdg : decode cc pc = .ok (.getfield 31, 3)) (z : EV g l (mn, cc, nL, rt, dp, hh) kb Q (pc + 3) ls (.ref (zad g (o + 5)) :: rest) σ) : EV g l (mn, cc, nL, rt, dp, hh) kb Q pc ls (.ref (zad g o) :: rest) σ :=
  e_get (ci := 0) (kx := 11) (N := 16) (C := RX0) (ref := RX0) (T := TX0) (sl := zkB o) (x := some (.inl (o + 5))) hsh ho rfl (by decide) rfl zin_0 (by rw [hm]; exact ql_X0_31) rfl hdg z
theorem ql_X6_184 : Cond.fieldLink RX6 184 RX0 (TX0 11).2.1 (TX0 11).2.2.1 ∈ zT := zT_in 231 (by decide +kernel) (by decide +kernel)
theorem fg_X6_184 {o : Nat} (hsh : zsh o = .inl (0, zkB o)) (ho : o < 163) (hm : mn.cls = RX6) (hdg : decode cc pc = .ok (.getfield 184, 3)) (z : EV g l (mn, cc, nL, rt, dp, hh) kb Q (pc + 3) ls (.ref (zad g (o + 5)) :: rest) σ) : EV g l (mn, cc, nL, rt, dp, hh) kb Q pc ls (.ref (zad g o) :: rest) σ :=
  e_get (ci := 0) (kx := 11) (N := 16) (C := RX0) (ref := RX0) (T := TX0) (sl := zkB o) (x := some (.inl (o + 5))) hsh ho rfl (by decide) rfl zin_0 (by rw [hm]; exact ql_X6_184) rfl hdg z
theorem ql_X0_34 : Cond.fieldLink RX0 34 RX0 (TX0 12).2.1 (TX0 12).2.2.1 ∈ zT := zT_in 232 (by decide +kernel) (by decide +kernel)
theorem fg_X0_34 {o : Nat} (hsh : zsh o = .inl (0, zkB o)) (ho : o < 163) (hm : mn.cls = RX0) (hdg : decode cc pc = .ok (.getfield 34, 3)) (z : EV g l (mn, cc, nL, rt, dp, hh) kb Q (pc + 3) ls (.ref (zad g (o + 6)) :: rest) σ) : EV g l (mn, cc, nL, rt, dp, hh) kb Q pc ls (.ref (zad g o) :: rest) σ :=
  e_get (ci := 0) (kx := 12) (N := 16) (C := RX0) (ref := RX0) (T := TX0) (sl := zkB o) (x := some (.inl (o + 6))) hsh ho rfl (by decide) rfl zin_0 (by rw [hm]; exact ql_X0_34) rfl hdg z
theorem ql_X6_220 : Cond.fieldLink RX6 220 RX0 (TX0 12).2.1 (TX0 12).2.2.1 ∈ zT := zT_in 233 (by decide +kernel) (by decide +kernel)
theorem fg_X6_220 {o : Nat} (hsh : zsh o = .inl (0, zkB o)) (ho : o < 163) (hm : mn.cls = RX6) (hdg : decode cc pc = .ok (.getfield 220, 3)) (z : EV g l (mn, cc, nL, rt, dp, hh) kb Q (pc + 3) ls (.ref (zad g (o + 6)) :: rest) σ) : EV g l (mn, cc, nL, rt, dp, hh) kb Q pc ls (.ref (zad g o) :: rest) σ :=
  e_get (ci := 0) (kx := 12) (N := 16) (C := RX0) (ref := RX0) (T := TX0) (sl := zkB o) (x := some (.inl (o + 6))) hsh ho rfl (by decide) rfl zin_0 (by rw [hm]; exact ql_X6_220) rfl hdg z
theorem ql_X0_37 : Cond.fieldLink RX0 37 RX0 (TX0 13).2.1 (TX0 13).2.2.1 ∈ zT := zT_in 234 (by decide +kernel) (by decide +kernel)
theorem fg_X0_37 {o : Nat} (hsh : zsh o = .inl (0, zkB o)) (ho : o < 163) (hm : mn.cls = RX0) (hdg : decode cc pc = .ok (.getfield 37, 3)) (z : EV g l (mn, cc, nL, rt, dp, hh) kb Q (pc + 3) ls (.ref (zad g (o + 7)) :: rest) σ) : EV g l (mn, cc, nL, rt, dp, hh) kb Q pc ls (.ref (zad g o) :: rest) σ :=
  e_get (ci := 0) (kx := 13) (N := 16) (C := RX0) (ref := RX0) (T := TX0) (sl := zkB o) (x := some (.inl (o + 7))) hsh ho rfl (by decide) rfl zin_0 (by rw [hm]; exact ql_X0_37) rfl hdg z
theorem ql_X6_223 : Cond.fieldLink RX6 223 RX0 (TX0 13).2.1 (TX0 13).2.2.1 ∈ zT := zT_in 235 (by decide +kernel) (by decide +kernel)
theorem fg_X6_223 {o : Nat} (hsh : zsh o = .inl (0, zkB o)) (ho : o < 163) (hm : mn.cls = RX6) (hdg : decode cc pc = .ok (.getfield 223, 3)) (z : EV g l (mn, cc, nL, rt, dp, hh) kb Q (pc + 3) ls (.ref (zad g (o + 7)) :: rest) σ) : EV g l (mn, cc, nL, rt, dp, hh) kb Q pc ls (.ref (zad g o) :: rest) σ :=
  e_get (ci := 0) (kx := 13) (N := 16) (C := RX0) (ref := RX0) (T := TX0) (sl := zkB o) (x := some (.inl (o + 7))) hsh ho rfl (by decide) rfl zin_0 (by rw [hm]; exact ql_X6_223) rfl hdg z
theorem ql_X0_40 : Cond.fieldLink RX0 40 RX0 (TX0 14).2.1 (TX0 14).2.2.1 ∈ zT := zT_in 236 (by decide +kernel) (by decide +kernel)
theorem fg_X0_40 {o : Nat} (hsh : zsh o = .inl (0, zkB o)) (ho : o < 163) (hm : mn.cls = RX0) (hdg : decode cc pc = .ok (.getfield 40, 3)) (z : EV g l (mn, cc, nL, rt, dp, hh) kb Q (pc + 3) ls (.ref (zad g (o + 8)) :: rest) σ) : EV g l (mn, cc, nL, rt, dp, hh) kb Q pc ls (.ref (zad g o) :: rest) σ :=
  e_get (ci := 0) (kx := 14) (N := 16) (C := RX0) (ref := RX0) (T := TX0) (sl := zkB o) (x := some (.inl (o + 8))) hsh ho rfl (by decide) rfl zin_0 (by rw [hm]; exact ql_X0_40) rfl hdg z
theorem ql_X0_43 : Cond.fieldLink RX0 43 RX0 (TX0 15).2.1 (TX0 15).2.2.1 ∈ zT := zT_in 237 (by decide +kernel) (by decide +kernel)
theorem fg_X0_43 {o : Nat} (hsh : zsh o = .inl (0, zkB o)) (ho : o < 163) (hm : mn.cls = RX0) (hdg : decode cc pc = .ok (.getfield 43, 3)) (z : EV g l (mn, cc, nL, rt, dp, hh) kb Q (pc + 3) ls (.ref (zad g (o + 9)) :: rest) σ) : EV g l (mn, cc, nL, rt, dp, hh) kb Q pc ls (.ref (zad g o) :: rest) σ :=
  e_get (ci := 0) (kx := 15) (N := 16) (C := RX0) (ref := RX0) (T := TX0) (sl := zkB o) (x := some (.inl (o + 9))) hsh ho rfl (by decide) rfl zin_0 (by rw [hm]; exact ql_X0_43) rfl hdg z
theorem ql_X4_38 : Cond.fieldLink RX4 38 RX4 (TX4 0).2.1 (TX4 0).2.2.1 ∈ zT := zT_in 272 (by decide +kernel) (by decide +kernel)
theorem fg_X4_38  (hm : mn.cls = RX4) (hdg : decode cc pc = .ok (.getfield 38, 3)) (z : EV g l (mn, cc, nL, rt, dp, hh) kb Q (pc + 3) ls (.ref (zad g 1) :: rest) σ) : EV g l (mn, cc, nL, rt, dp, hh) kb Q pc ls (.ref (zad g 3) :: rest) σ :=
  e_get (ci := 4) (kx := 0) (N := 11) (C := RX4) (ref := RX4) (T := TX4) (sl := zk_T) (x := some (.inl (1))) (o := 3) rfl (Nat.le_of_ble_eq_true rfl) rfl (by decide) rfl zin_4 (by rw [hm]; exact ql_X4_38) rfl hdg z
theorem ql_X4_12 : Cond.fieldLink RX4 12 RX4 (TX4 1).2.1 (TX4 1).2.2.1 ∈ zT := zT_in 273 (by decide +kernel) (by decide +kernel)
theorem fg_X4_12  (hm : mn.cls = RX4) (hdg : decode cc pc = .ok (.getfield 12, 3)) (z : EV g l (mn, cc, nL, rt, dp, hh) kb Q (pc + 3) ls (.ref (zad g 93) :: rest) σ) : EV g l (mn, cc, nL, rt, dp, hh) kb Q pc ls (.ref (zad g 3) :: rest) σ :=
  e_get (ci := 4) (kx := 1) (N := 11) (C := RX4) (ref := RX4) (T := TX4) (sl := zk_T) (x := some (.inl (93))) (o := 3) rfl (Nat.le_of_ble_eq_true rfl) rfl (by decide) rfl zin_4 (by rw [hm]; exact ql_X4_12) rfl hdg z
theorem ql_X6_92 : Cond.fieldLink RX6 92 RX4 (TX4 1).2.1 (TX4 1).2.2.1 ∈ zT := zT_in 274 (by decide +kernel) (by decide +kernel)
theorem fg_X6_92  (hm : mn.cls = RX6) (hdg : decode cc pc = .ok (.getfield 92, 3)) (z : EV g l (mn, cc, nL, rt, dp, hh) kb Q (pc + 3) ls (.ref (zad g 93) :: rest) σ) : EV g l (mn, cc, nL, rt, dp, hh) kb Q pc ls (.ref (zad g 3) :: rest) σ :=
  e_get (ci := 4) (kx := 1) (N := 11) (C := RX4) (ref := RX4) (T := TX4) (sl := zk_T) (x := some (.inl (93))) (o := 3) rfl (Nat.le_of_ble_eq_true rfl) rfl (by decide) rfl zin_4 (by rw [hm]; exact ql_X6_92) rfl hdg z
theorem ql_X4_45 : Cond.fieldLink RX4 45 RX4 (TX4 2).2.1 (TX4 2).2.2.1 ∈ zT := zT_in 275 (by decide +kernel) (by decide +kernel)
theorem fg_X4_45  (hm : mn.cls = RX4) (hdg : decode cc pc = .ok (.getfield 45, 3)) (z : EV g l (mn, cc, nL, rt, dp, hh) kb Q (pc + 3) ls (.int (σ.1 3 2) :: rest) σ) : EV g l (mn, cc, nL, rt, dp, hh) kb Q pc ls (.ref (zad g 3) :: rest) σ :=
  e_get (ci := 4) (kx := 2) (N := 11) (C := RX4) (ref := RX4) (T := TX4) (sl := zk_T) (x := none) (o := 3) rfl (Nat.le_of_ble_eq_true rfl) rfl (by decide) rfl zin_4 (by rw [hm]; exact ql_X4_45) rfl hdg z
theorem fp_X4_45  {v : Int32} (hn : zbl v) (hm : mn.cls = RX4) (hdg : decode cc pc = .ok (.putfield 45, 3)) (z : EV g l (mn, cc, nL, rt, dp, hh) kb Q (pc + 3) ls rest (zup σ 3 2 v)) : EV g l (mn, cc, nL, rt, dp, hh) kb Q pc ls (.int v :: .ref (zad g 3) :: rest) σ :=
  e_put (ci := 4) (kx := 2) (N := 11) (C := RX4) (ref := RX4) (T := TX4) (ty0 := tyX4) (sl := zk_T) (o := 3) rfl (Nat.le_of_ble_eq_true rfl) rfl (by decide) rfl zin_4 tyX4_ok nmX4 rfl (zbl_n hn) (zbl_f hn) (by rw [hm]; exact ql_X4_45) rfl hdg z
theorem ql_X4_49 : Cond.fieldLink RX4 49 RX4 (TX4 3).2.1 (TX4 3).2.2.1 ∈ zT := zT_in 276 (by decide +kernel) (by decide +kernel)
theorem fg_X4_49  (hm : mn.cls = RX4) (hdg : decode cc pc = .ok (.getfield 49, 3)) (z : EV g l (mn, cc, nL, rt, dp, hh) kb Q (pc + 3) ls (.int (σ.1 3 3) :: rest) σ) : EV g l (mn, cc, nL, rt, dp, hh) kb Q pc ls (.ref (zad g 3) :: rest) σ :=
  e_get (ci := 4) (kx := 3) (N := 11) (C := RX4) (ref := RX4) (T := TX4) (sl := zk_T) (x := none) (o := 3) rfl (Nat.le_of_ble_eq_true rfl) rfl (by decide) rfl zin_4 (by rw [hm]; exact ql_X4_49) rfl hdg z
theorem fp_X4_49  {v : Int32} (hn : zbl v) (hm : mn.cls = RX4) (hdg : decode cc pc = .ok (.putfield 49, 3)) (z : EV g l (mn, cc, nL, rt, dp, hh) kb Q (pc + 3) ls rest (zup σ 3 3 v)) : EV g l (mn, cc, nL, rt, dp, hh) kb Q pc ls (.int v :: .ref (zad g 3) :: rest) σ :=
  e_put (ci := 4) (kx := 3) (N := 11) (C := RX4) (ref := RX4) (T := TX4) (ty0 := tyX4) (sl := zk_T) (o := 3) rfl (Nat.le_of_ble_eq_true rfl) rfl (by decide) rfl zin_4 tyX4_ok nmX4 rfl (zbl_n hn) (zbl_f hn) (by rw [hm]; exact ql_X4_49) rfl hdg z
theorem ql_X4_52 : Cond.fieldLink RX4 52 RX4 (TX4 4).2.1 (TX4 4).2.2.1 ∈ zT := zT_in 277 (by decide +kernel) (by decide +kernel)
theorem fg_X4_52  (hm : mn.cls = RX4) (hdg : decode cc pc = .ok (.getfield 52, 3)) (z : EV g l (mn, cc, nL, rt, dp, hh) kb Q (pc + 3) ls (.int (σ.1 3 4) :: rest) σ) : EV g l (mn, cc, nL, rt, dp, hh) kb Q pc ls (.ref (zad g 3) :: rest) σ :=
  e_get (ci := 4) (kx := 4) (N := 11) (C := RX4) (ref := RX4) (T := TX4) (sl := zk_T) (x := none) (o := 3) rfl (Nat.le_of_ble_eq_true rfl) rfl (by decide) rfl zin_4 (by rw [hm]; exact ql_X4_52) rfl hdg z
theorem fp_X4_52  {v : Int32} (hm : mn.cls = RX4) (hdg : decode cc pc = .ok (.putfield 52, 3)) (z : EV g l (mn, cc, nL, rt, dp, hh) kb Q (pc + 3) ls rest (zup σ 3 4 v)) : EV g l (mn, cc, nL, rt, dp, hh) kb Q pc ls (.int v :: .ref (zad g 3) :: rest) σ :=
  e_put (ci := 4) (kx := 4) (N := 11) (C := RX4) (ref := RX4) (T := TX4) (ty0 := tyX4) (sl := zk_T) (o := 3) rfl (Nat.le_of_ble_eq_true rfl) rfl (by decide) rfl zin_4 tyX4_ok nmX4 rfl rfl rfl (by rw [hm]; exact ql_X4_52) rfl hdg z
theorem ql_X4_18 : Cond.fieldLink RX4 18 RX4 (TX4 5).2.1 (TX4 5).2.2.1 ∈ zT := zT_in 278 (by decide +kernel) (by decide +kernel)
theorem fg_X4_18  (hm : mn.cls = RX4) (hdg : decode cc pc = .ok (.getfield 18, 3)) (z : EV g l (mn, cc, nL, rt, dp, hh) kb Q (pc + 3) ls (.ref (zad g 4) :: rest) σ) : EV g l (mn, cc, nL, rt, dp, hh) kb Q pc ls (.ref (zad g 3) :: rest) σ :=
  e_get (ci := 4) (kx := 5) (N := 11) (C := RX4) (ref := RX4) (T := TX4) (sl := zk_T) (x := some (.inl (4))) (o := 3) rfl (Nat.le_of_ble_eq_true rfl) rfl (by decide) rfl zin_4 (by rw [hm]; exact ql_X4_18) rfl hdg z
theorem ql_X4_22 : Cond.fieldLink RX4 22 RX4 (TX4 6).2.1 (TX4 6).2.2.1 ∈ zT := zT_in 279 (by decide +kernel) (by decide +kernel)
theorem fg_X4_22  (hm : mn.cls = RX4) (hdg : decode cc pc = .ok (.getfield 22, 3)) (z : EV g l (mn, cc, nL, rt, dp, hh) kb Q (pc + 3) ls (.ref (zad g 5) :: rest) σ) : EV g l (mn, cc, nL, rt, dp, hh) kb Q pc ls (.ref (zad g 3) :: rest) σ :=
  e_get (ci := 4) (kx := 6) (N := 11) (C := RX4) (ref := RX4) (T := TX4) (sl := zk_T) (x := some (.inl (5))) (o := 3) rfl (Nat.le_of_ble_eq_true rfl) rfl (by decide) rfl zin_4 (by rw [hm]; exact ql_X4_22) rfl hdg z
theorem ql_X4_26 : Cond.fieldLink RX4 26 RX4 (TX4 7).2.1 (TX4 7).2.2.1 ∈ zT := zT_in 280 (by decide +kernel) (by decide +kernel)
theorem fg_X4_26  (hm : mn.cls = RX4) (hdg : decode cc pc = .ok (.getfield 26, 3)) (z : EV g l (mn, cc, nL, rt, dp, hh) kb Q (pc + 3) ls (.ref (zad g 6) :: rest) σ) : EV g l (mn, cc, nL, rt, dp, hh) kb Q pc ls (.ref (zad g 3) :: rest) σ :=
  e_get (ci := 4) (kx := 7) (N := 11) (C := RX4) (ref := RX4) (T := TX4) (sl := zk_T) (x := some (.inl (6))) (o := 3) rfl (Nat.le_of_ble_eq_true rfl) rfl (by decide) rfl zin_4 (by rw [hm]; exact ql_X4_26) rfl hdg z
theorem ql_X4_29 : Cond.fieldLink RX4 29 RX4 (TX4 8).2.1 (TX4 8).2.2.1 ∈ zT := zT_in 281 (by decide +kernel) (by decide +kernel)
theorem fg_X4_29  (hm : mn.cls = RX4) (hdg : decode cc pc = .ok (.getfield 29, 3)) (z : EV g l (mn, cc, nL, rt, dp, hh) kb Q (pc + 3) ls (.ref (zad g 7) :: rest) σ) : EV g l (mn, cc, nL, rt, dp, hh) kb Q pc ls (.ref (zad g 3) :: rest) σ :=
  e_get (ci := 4) (kx := 8) (N := 11) (C := RX4) (ref := RX4) (T := TX4) (sl := zk_T) (x := some (.inl (7))) (o := 3) rfl (Nat.le_of_ble_eq_true rfl) rfl (by decide) rfl zin_4 (by rw [hm]; exact ql_X4_29) rfl hdg z
theorem ql_X4_32 : Cond.fieldLink RX4 32 RX4 (TX4 9).2.1 (TX4 9).2.2.1 ∈ zT := zT_in 282 (by decide +kernel) (by decide +kernel)
theorem fg_X4_32  (hm : mn.cls = RX4) (hdg : decode cc pc = .ok (.getfield 32, 3)) (z : EV g l (mn, cc, nL, rt, dp, hh) kb Q (pc + 3) ls (.ref (zad g 8) :: rest) σ) : EV g l (mn, cc, nL, rt, dp, hh) kb Q pc ls (.ref (zad g 3) :: rest) σ :=
  e_get (ci := 4) (kx := 9) (N := 11) (C := RX4) (ref := RX4) (T := TX4) (sl := zk_T) (x := some (.inl (8))) (o := 3) rfl (Nat.le_of_ble_eq_true rfl) rfl (by decide) rfl zin_4 (by rw [hm]; exact ql_X4_32) rfl hdg z
theorem ql_X4_35 : Cond.fieldLink RX4 35 RX4 (TX4 10).2.1 (TX4 10).2.2.1 ∈ zT := zT_in 283 (by decide +kernel) (by decide +kernel)
theorem fg_X4_35  (hm : mn.cls = RX4) (hdg : decode cc pc = .ok (.getfield 35, 3)) (z : EV g l (mn, cc, nL, rt, dp, hh) kb Q (pc + 3) ls (.ref (zad g 9) :: rest) σ) : EV g l (mn, cc, nL, rt, dp, hh) kb Q pc ls (.ref (zad g 3) :: rest) σ :=
  e_get (ci := 4) (kx := 10) (N := 11) (C := RX4) (ref := RX4) (T := TX4) (sl := zk_T) (x := some (.inl (9))) (o := 3) rfl (Nat.le_of_ble_eq_true rfl) rfl (by decide) rfl zin_4 (by rw [hm]; exact ql_X4_35) rfl hdg z
theorem ql_X2_30 : Cond.fieldLink RX2 30 RX2 (TX2 0).2.1 (TX2 0).2.2.1 ∈ zT := zT_in 316 (by decide +kernel) (by decide +kernel)
theorem fg_X2_30  (hm : mn.cls = RX2) (hdg : decode cc pc = .ok (.getfield 30, 3)) (z : EV g l (mn, cc, nL, rt, dp, hh) kb Q (pc + 3) ls (.ref (zad g 1) :: rest) σ) : EV g l (mn, cc, nL, rt, dp, hh) kb Q pc ls (.ref (zad g 10) :: rest) σ :=
  e_get (ci := 2) (kx := 0) (N := 8) (C := RX2) (ref := RX2) (T := TX2) (sl := zk_C) (x := some (.inl (1))) (o := 10) rfl (Nat.le_of_ble_eq_true rfl) rfl (by decide) rfl zin_2 (by rw [hm]; exact ql_X2_30) rfl hdg z
theorem ql_X2_34 : Cond.fieldLink RX2 34 RX2 (TX2 1).2.1 (TX2 1).2.2.1 ∈ zT := zT_in 317 (by decide +kernel) (by decide +kernel)
theorem fg_X2_34  (hm : mn.cls = RX2) (hdg : decode cc pc = .ok (.getfield 34, 3)) (z : EV g l (mn, cc, nL, rt, dp, hh) kb Q (pc + 3) ls (.int (σ.1 10 1) :: rest) σ) : EV g l (mn, cc, nL, rt, dp, hh) kb Q pc ls (.ref (zad g 10) :: rest) σ :=
  e_get (ci := 2) (kx := 1) (N := 8) (C := RX2) (ref := RX2) (T := TX2) (sl := zk_C) (x := none) (o := 10) rfl (Nat.le_of_ble_eq_true rfl) rfl (by decide) rfl zin_2 (by rw [hm]; exact ql_X2_34) rfl hdg z
theorem fp_X2_34  {v : Int32} (hm : mn.cls = RX2) (hdg : decode cc pc = .ok (.putfield 34, 3)) (z : EV g l (mn, cc, nL, rt, dp, hh) kb Q (pc + 3) ls rest (zup σ 10 1 v)) : EV g l (mn, cc, nL, rt, dp, hh) kb Q pc ls (.int v :: .ref (zad g 10) :: rest) σ :=
  e_put (ci := 2) (kx := 1) (N := 8) (C := RX2) (ref := RX2) (T := TX2) (ty0 := tyX2) (sl := zk_C) (o := 10) rfl (Nat.le_of_ble_eq_true rfl) rfl (by decide) rfl zin_2 tyX2_ok nmX2 rfl rfl rfl (by rw [hm]; exact ql_X2_34) rfl hdg z
theorem ql_X6_113 : Cond.fieldLink RX6 113 RX2 (TX2 1).2.1 (TX2 1).2.2.1 ∈ zT := zT_in 318 (by decide +kernel) (by decide +kernel)
theorem fg_X6_113  (hm : mn.cls = RX6) (hdg : decode cc pc = .ok (.getfield 113, 3)) (z : EV g l (mn, cc, nL, rt, dp, hh) kb Q (pc + 3) ls (.int (σ.1 10 1) :: rest) σ) : EV g l (mn, cc, nL, rt, dp, hh) kb Q pc ls (.ref (zad g 10) :: rest) σ :=
  e_get (ci := 2) (kx := 1) (N := 8) (C := RX2) (ref := RX2) (T := TX2) (sl := zk_C) (x := none) (o := 10) rfl (Nat.le_of_ble_eq_true rfl) rfl (by decide) rfl zin_2 (by rw [hm]; exact ql_X6_113) rfl hdg z
theorem fp_X6_113  {v : Int32} (hm : mn.cls = RX6) (hdg : decode cc pc = .ok (.putfield 113, 3)) (z : EV g l (mn, cc, nL, rt, dp, hh) kb Q (pc + 3) ls rest (zup σ 10 1 v)) : EV g l (mn, cc, nL, rt, dp, hh) kb Q pc ls (.int v :: .ref (zad g 10) :: rest) σ :=
  e_put (ci := 2) (kx := 1) (N := 8) (C := RX2) (ref := RX2) (T := TX2) (ty0 := tyX2) (sl := zk_C) (o := 10) rfl (Nat.le_of_ble_eq_true rfl) rfl (by decide) rfl zin_2 tyX2_ok nmX2 rfl rfl rfl (by rw [hm]; exact ql_X6_113) rfl hdg z
theorem ql_X2_11 : Cond.fieldLink RX2 11 RX2 (TX2 2).2.1 (TX2 2).2.2.1 ∈ zT := zT_in 319 (by decide +kernel) (by decide +kernel)
theorem fg_X2_11  (hm : mn.cls = RX2) (hdg : decode cc pc = .ok (.getfield 11, 3)) (z : EV g l (mn, cc, nL, rt, dp, hh) kb Q (pc + 3) ls (.ref (zad g 11) :: rest) σ) : EV g l (mn, cc, nL, rt, dp, hh) kb Q pc ls (.ref (zad g 10) :: rest) σ :=
  e_get (ci := 2) (kx := 2) (N := 8) (C := RX2) (ref := RX2) (T := TX2) (sl := zk_C) (x := some (.inl (11))) (o := 10) rfl (Nat.le_of_ble_eq_true rfl) rfl (by decide) rfl zin_2 (by rw [hm]; exact ql_X2_11) rfl hdg z
theorem ql_X6_389 : Cond.fieldLink RX6 389 RX2 (TX2 2).2.1 (TX2 2).2.2.1 ∈ zT := zT_in 320 (by decide +kernel) (by decide +kernel)
theorem fg_X6_389  (hm : mn.cls = RX6) (hdg : decode cc pc = .ok (.getfield 389, 3)) (z : EV g l (mn, cc, nL, rt, dp, hh) kb Q (pc + 3) ls (.ref (zad g 11) :: rest) σ) : EV g l (mn, cc, nL, rt, dp, hh) kb Q pc ls (.ref (zad g 10) :: rest) σ :=
  e_get (ci := 2) (kx := 2) (N := 8) (C := RX2) (ref := RX2) (T := TX2) (sl := zk_C) (x := some (.inl (11))) (o := 10) rfl (Nat.le_of_ble_eq_true rfl) rfl (by decide) rfl zin_2 (by rw [hm]; exact ql_X6_389) rfl hdg z
theorem ql_X2_15 : Cond.fieldLink RX2 15 RX2 (TX2 3).2.1 (TX2 3).2.2.1 ∈ zT := zT_in 321 (by decide +kernel) (by decide +kernel)
theorem fg_X2_15  (hm : mn.cls = RX2) (hdg : decode cc pc = .ok (.getfield 15, 3)) (z : EV g l (mn, cc, nL, rt, dp, hh) kb Q (pc + 3) ls (.ref (zad g 12) :: rest) σ) : EV g l (mn, cc, nL, rt, dp, hh) kb Q pc ls (.ref (zad g 10) :: rest) σ :=
  e_get (ci := 2) (kx := 3) (N := 8) (C := RX2) (ref := RX2) (T := TX2) (sl := zk_C) (x := some (.inl (12))) (o := 10) rfl (Nat.le_of_ble_eq_true rfl) rfl (by decide) rfl zin_2 (by rw [hm]; exact ql_X2_15) rfl hdg z
theorem ql_X6_405 : Cond.fieldLink RX6 405 RX2 (TX2 3).2.1 (TX2 3).2.2.1 ∈ zT := zT_in 322 (by decide +kernel) (by decide +kernel)
theorem fg_X6_405  (hm : mn.cls = RX6) (hdg : decode cc pc = .ok (.getfield 405, 3)) (z : EV g l (mn, cc, nL, rt, dp, hh) kb Q (pc + 3) ls (.ref (zad g 12) :: rest) σ) : EV g l (mn, cc, nL, rt, dp, hh) kb Q pc ls (.ref (zad g 10) :: rest) σ :=
  e_get (ci := 2) (kx := 3) (N := 8) (C := RX2) (ref := RX2) (T := TX2) (sl := zk_C) (x := some (.inl (12))) (o := 10) rfl (Nat.le_of_ble_eq_true rfl) rfl (by decide) rfl zin_2 (by rw [hm]; exact ql_X6_405) rfl hdg z
theorem ql_X2_21 : Cond.fieldLink RX2 21 RX2 (TX2 4).2.1 (TX2 4).2.2.1 ∈ zT := zT_in 323 (by decide +kernel) (by decide +kernel)
theorem fg_X2_21  (hm : mn.cls = RX2) (hdg : decode cc pc = .ok (.getfield 21, 3)) (z : EV g l (mn, cc, nL, rt, dp, hh) kb Q (pc + 3) ls (.ref (zad g 13) :: rest) σ) : EV g l (mn, cc, nL, rt, dp, hh) kb Q pc ls (.ref (zad g 10) :: rest) σ :=
  e_get (ci := 2) (kx := 4) (N := 8) (C := RX2) (ref := RX2) (T := TX2) (sl := zk_C) (x := some (.inl (13))) (o := 10) rfl (Nat.le_of_ble_eq_true rfl) rfl (by decide) rfl zin_2 (by rw [hm]; exact ql_X2_21) rfl hdg z
theorem ql_X6_401 : Cond.fieldLink RX6 401 RX2 (TX2 4).2.1 (TX2 4).2.2.1 ∈ zT := zT_in 324 (by decide +kernel) (by decide +kernel)
theorem fg_X6_401  (hm : mn.cls = RX6) (hdg : decode cc pc = .ok (.getfield 401, 3)) (z : EV g l (mn, cc, nL, rt, dp, hh) kb Q (pc + 3) ls (.ref (zad g 13) :: rest) σ) : EV g l (mn, cc, nL, rt, dp, hh) kb Q pc ls (.ref (zad g 10) :: rest) σ :=
  e_get (ci := 2) (kx := 4) (N := 8) (C := RX2) (ref := RX2) (T := TX2) (sl := zk_C) (x := some (.inl (13))) (o := 10) rfl (Nat.le_of_ble_eq_true rfl) rfl (by decide) rfl zin_2 (by rw [hm]; exact ql_X6_401) rfl hdg z
theorem ql_X2_24 : Cond.fieldLink RX2 24 RX2 (TX2 5).2.1 (TX2 5).2.2.1 ∈ zT := zT_in 325 (by decide +kernel) (by decide +kernel)
theorem fg_X2_24  (hm : mn.cls = RX2) (hdg : decode cc pc = .ok (.getfield 24, 3)) (z : EV g l (mn, cc, nL, rt, dp, hh) kb Q (pc + 3) ls (.ref (zad g 14) :: rest) σ) : EV g l (mn, cc, nL, rt, dp, hh) kb Q pc ls (.ref (zad g 10) :: rest) σ :=
  e_get (ci := 2) (kx := 5) (N := 8) (C := RX2) (ref := RX2) (T := TX2) (sl := zk_C) (x := some (.inl (14))) (o := 10) rfl (Nat.le_of_ble_eq_true rfl) rfl (by decide) rfl zin_2 (by rw [hm]; exact ql_X2_24) rfl hdg z
theorem ql_X6_395 : Cond.fieldLink RX6 395 RX2 (TX2 5).2.1 (TX2 5).2.2.1 ∈ zT := zT_in 326 (by decide +kernel) (by decide +kernel)
theorem fg_X6_395  (hm : mn.cls = RX6) (hdg : decode cc pc = .ok (.getfield 395, 3)) (z : EV g l (mn, cc, nL, rt, dp, hh) kb Q (pc + 3) ls (.ref (zad g 14) :: rest) σ) : EV g l (mn, cc, nL, rt, dp, hh) kb Q pc ls (.ref (zad g 10) :: rest) σ :=
  e_get (ci := 2) (kx := 5) (N := 8) (C := RX2) (ref := RX2) (T := TX2) (sl := zk_C) (x := some (.inl (14))) (o := 10) rfl (Nat.le_of_ble_eq_true rfl) rfl (by decide) rfl zin_2 (by rw [hm]; exact ql_X6_395) rfl hdg z
theorem ql_X2_27 : Cond.fieldLink RX2 27 RX2 (TX2 6).2.1 (TX2 6).2.2.1 ∈ zT := zT_in 327 (by decide +kernel) (by decide +kernel)
theorem fg_X2_27  (hm : mn.cls = RX2) (hdg : decode cc pc = .ok (.getfield 27, 3)) (z : EV g l (mn, cc, nL, rt, dp, hh) kb Q (pc + 3) ls (.ref (zad g 15) :: rest) σ) : EV g l (mn, cc, nL, rt, dp, hh) kb Q pc ls (.ref (zad g 10) :: rest) σ :=
  e_get (ci := 2) (kx := 6) (N := 8) (C := RX2) (ref := RX2) (T := TX2) (sl := zk_C) (x := some (.inl (15))) (o := 10) rfl (Nat.le_of_ble_eq_true rfl) rfl (by decide) rfl zin_2 (by rw [hm]; exact ql_X2_27) rfl hdg z
theorem ql_X2_38 : Cond.fieldLink RX2 38 RX2 (TX2 7).2.1 (TX2 7).2.2.1 ∈ zT := zT_in 328 (by decide +kernel) (by decide +kernel)
theorem fg_X2_38  (hm : mn.cls = RX2) (hdg : decode cc pc = .ok (.getfield 38, 3)) (z : EV g l (mn, cc, nL, rt, dp, hh) kb Q (pc + 3) ls (.int (σ.1 10 7) :: rest) σ) : EV g l (mn, cc, nL, rt, dp, hh) kb Q pc ls (.ref (zad g 10) :: rest) σ :=
  e_get (ci := 2) (kx := 7) (N := 8) (C := RX2) (ref := RX2) (T := TX2) (sl := zk_C) (x := none) (o := 10) rfl (Nat.le_of_ble_eq_true rfl) rfl (by decide) rfl zin_2 (by rw [hm]; exact ql_X2_38) rfl hdg z
theorem fp_X2_38  {v : Int32} (hm : mn.cls = RX2) (hdg : decode cc pc = .ok (.putfield 38, 3)) (z : EV g l (mn, cc, nL, rt, dp, hh) kb Q (pc + 3) ls rest (zup σ 10 7 v)) : EV g l (mn, cc, nL, rt, dp, hh) kb Q pc ls (.int v :: .ref (zad g 10) :: rest) σ :=
  e_put (ci := 2) (kx := 7) (N := 8) (C := RX2) (ref := RX2) (T := TX2) (ty0 := tyX2) (sl := zk_C) (o := 10) rfl (Nat.le_of_ble_eq_true rfl) rfl (by decide) rfl zin_2 tyX2_ok nmX2 rfl rfl rfl (by rw [hm]; exact ql_X2_38) rfl hdg z
theorem ql_X1_11 : Cond.fieldLink RX1 11 RX1 (TX1 0).2.1 (TX1 0).2.2.1 ∈ zT := zT_in 357 (by decide +kernel) (by decide +kernel)
theorem fg_X1_11  (hm : mn.cls = RX1) (hdg : decode cc pc = .ok (.getfield 11, 3)) (z : EV g l (mn, cc, nL, rt, dp, hh) kb Q (pc + 3) ls (.ref (zad g 17) :: rest) σ) : EV g l (mn, cc, nL, rt, dp, hh) kb Q pc ls (.ref (zad g 16) :: rest) σ :=
  e_get (ci := 1) (kx := 0) (N := 3) (C := RX1) (ref := RX1) (T := TX1) (sl := zk_H) (x := some (.inl (17))) (o := 16) rfl (Nat.le_of_ble_eq_true rfl) rfl (by decide) rfl zin_1 (by rw [hm]; exact ql_X1_11) rfl hdg z
theorem ql_X1_24 : Cond.fieldLink RX1 24 RX1 (TX1 1).2.1 (TX1 1).2.2.1 ∈ zT := zT_in 358 (by decide +kernel) (by decide +kernel)
theorem fg_X1_24  (hm : mn.cls = RX1) (hdg : decode cc pc = .ok (.getfield 24, 3)) (z : EV g l (mn, cc, nL, rt, dp, hh) kb Q (pc + 3) ls (.int (σ.1 16 1) :: rest) σ) : EV g l (mn, cc, nL, rt, dp, hh) kb Q pc ls (.ref (zad g 16) :: rest) σ :=
  e_get (ci := 1) (kx := 1) (N := 3) (C := RX1) (ref := RX1) (T := TX1) (sl := zk_H) (x := none) (o := 16) rfl (Nat.le_of_ble_eq_true rfl) rfl (by decide) rfl zin_1 (by rw [hm]; exact ql_X1_24) rfl hdg z
theorem fp_X1_24  {v : Int32} (hm : mn.cls = RX1) (hdg : decode cc pc = .ok (.putfield 24, 3)) (z : EV g l (mn, cc, nL, rt, dp, hh) kb Q (pc + 3) ls rest (zup σ 16 1 v)) : EV g l (mn, cc, nL, rt, dp, hh) kb Q pc ls (.int v :: .ref (zad g 16) :: rest) σ :=
  e_put (ci := 1) (kx := 1) (N := 3) (C := RX1) (ref := RX1) (T := TX1) (ty0 := tyX1) (sl := zk_H) (o := 16) rfl (Nat.le_of_ble_eq_true rfl) rfl (by decide) rfl zin_1 tyX1_ok nmX1 rfl rfl rfl (by rw [hm]; exact ql_X1_24) rfl hdg z
theorem ql_X6_157 : Cond.fieldLink RX6 157 RX1 (TX1 1).2.1 (TX1 1).2.2.1 ∈ zT := zT_in 359 (by decide +kernel) (by decide +kernel)
theorem fg_X6_157  (hm : mn.cls = RX6) (hdg : decode cc pc = .ok (.getfield 157, 3)) (z : EV g l (mn, cc, nL, rt, dp, hh) kb Q (pc + 3) ls (.int (σ.1 16 1) :: rest) σ) : EV g l (mn, cc, nL, rt, dp, hh) kb Q pc ls (.ref (zad g 16) :: rest) σ :=
  e_get (ci := 1) (kx := 1) (N := 3) (C := RX1) (ref := RX1) (T := TX1) (sl := zk_H) (x := none) (o := 16) rfl (Nat.le_of_ble_eq_true rfl) rfl (by decide) rfl zin_1 (by rw [hm]; exact ql_X6_157) rfl hdg z
theorem fp_X6_157  {v : Int32} (hm : mn.cls = RX6) (hdg : decode cc pc = .ok (.putfield 157, 3)) (z : EV g l (mn, cc, nL, rt, dp, hh) kb Q (pc + 3) ls rest (zup σ 16 1 v)) : EV g l (mn, cc, nL, rt, dp, hh) kb Q pc ls (.int v :: .ref (zad g 16) :: rest) σ :=
  e_put (ci := 1) (kx := 1) (N := 3) (C := RX1) (ref := RX1) (T := TX1) (ty0 := tyX1) (sl := zk_H) (o := 16) rfl (Nat.le_of_ble_eq_true rfl) rfl (by decide) rfl zin_1 tyX1_ok nmX1 rfl rfl rfl (by rw [hm]; exact ql_X6_157) rfl hdg z
theorem ql_X1_16 : Cond.fieldLink RX1 16 RX1 (TX1 2).2.1 (TX1 2).2.2.1 ∈ zT := zT_in 360 (by decide +kernel) (by decide +kernel)
theorem fg_X1_16  (hm : mn.cls = RX1) (hdg : decode cc pc = .ok (.getfield 16, 3)) (z : EV g l (mn, cc, nL, rt, dp, hh) kb Q (pc + 3) ls (.int (σ.1 16 2) :: rest) σ) : EV g l (mn, cc, nL, rt, dp, hh) kb Q pc ls (.ref (zad g 16) :: rest) σ :=
  e_get (ci := 1) (kx := 2) (N := 3) (C := RX1) (ref := RX1) (T := TX1) (sl := zk_H) (x := none) (o := 16) rfl (Nat.le_of_ble_eq_true rfl) rfl (by decide) rfl zin_1 (by rw [hm]; exact ql_X1_16) rfl hdg z
theorem fp_X1_16  {v : Int32} (hm : mn.cls = RX1) (hdg : decode cc pc = .ok (.putfield 16, 3)) (z : EV g l (mn, cc, nL, rt, dp, hh) kb Q (pc + 3) ls rest (zup σ 16 2 v)) : EV g l (mn, cc, nL, rt, dp, hh) kb Q pc ls (.int v :: .ref (zad g 16) :: rest) σ :=
  e_put (ci := 1) (kx := 2) (N := 3) (C := RX1) (ref := RX1) (T := TX1) (ty0 := tyX1) (sl := zk_H) (o := 16) rfl (Nat.le_of_ble_eq_true rfl) rfl (by decide) rfl zin_1 tyX1_ok nmX1 rfl rfl rfl (by rw [hm]; exact ql_X1_16) rfl hdg z
theorem ql_X5_22 : Cond.fieldLink RX5 22 RX5 (TX5 0).2.1 (TX5 0).2.2.1 ∈ zT := zT_in 374 (by decide +kernel) (by decide +kernel)
theorem fg_X5_22  (hm : mn.cls = RX5) (hdg : decode cc pc = .ok (.getfield 22, 3)) (z : EV g l (mn, cc, nL, rt, dp, hh) kb Q (pc + 3) ls (.ref (zad g 73) :: rest) σ) : EV g l (mn, cc, nL, rt, dp, hh) kb Q pc ls (.ref (zad g 18) :: rest) σ :=
  e_get (ci := 5) (kx := 0) (N := 4) (C := RX5) (ref := RX5) (T := TX5) (sl := zk_V) (x := some (.inl (73))) (o := 18) rfl (Nat.le_of_ble_eq_true rfl) rfl (by decide) rfl zin_5 (by rw [hm]; exact ql_X5_22) rfl hdg z
theorem ql_X5_9 : Cond.fieldLink RX5 9 RX5 (TX5 1).2.1 (TX5 1).2.2.1 ∈ zT := zT_in 375 (by decide +kernel) (by decide +kernel)
theorem fg_X5_9  (hm : mn.cls = RX5) (hdg : decode cc pc = .ok (.getfield 9, 3)) (z : EV g l (mn, cc, nL, rt, dp, hh) kb Q (pc + 3) ls (.ref (zad g 19) :: rest) σ) : EV g l (mn, cc, nL, rt, dp, hh) kb Q pc ls (.ref (zad g 18) :: rest) σ :=
  e_get (ci := 5) (kx := 1) (N := 4) (C := RX5) (ref := RX5) (T := TX5) (sl := zk_V) (x := some (.inl (19))) (o := 18) rfl (Nat.le_of_ble_eq_true rfl) rfl (by decide) rfl zin_5 (by rw [hm]; exact ql_X5_9) rfl hdg z
theorem ql_X5_15 : Cond.fieldLink RX5 15 RX5 (TX5 2).2.1 (TX5 2).2.2.1 ∈ zT := zT_in 376 (by decide +kernel) (by decide +kernel)
theorem fg_X5_15  (hm : mn.cls = RX5) (hdg : decode cc pc = .ok (.getfield 15, 3)) (z : EV g l (mn, cc, nL, rt, dp, hh) kb Q (pc + 3) ls (.ref (zad g 20) :: rest) σ) : EV g l (mn, cc, nL, rt, dp, hh) kb Q pc ls (.ref (zad g 18) :: rest) σ :=
  e_get (ci := 5) (kx := 2) (N := 4) (C := RX5) (ref := RX5) (T := TX5) (sl := zk_V) (x := some (.inl (20))) (o := 18) rfl (Nat.le_of_ble_eq_true rfl) rfl (by decide) rfl zin_5 (by rw [hm]; exact ql_X5_15) rfl hdg z
theorem ql_X5_18 : Cond.fieldLink RX5 18 RX5 (TX5 3).2.1 (TX5 3).2.2.1 ∈ zT := zT_in 377 (by decide +kernel) (by decide +kernel)
theorem fg_X5_18  (hm : mn.cls = RX5) (hdg : decode cc pc = .ok (.getfield 18, 3)) (z : EV g l (mn, cc, nL, rt, dp, hh) kb Q (pc + 3) ls (.ref (zad g 21) :: rest) σ) : EV g l (mn, cc, nL, rt, dp, hh) kb Q pc ls (.ref (zad g 18) :: rest) σ :=
  e_get (ci := 5) (kx := 3) (N := 4) (C := RX5) (ref := RX5) (T := TX5) (sl := zk_V) (x := some (.inl (21))) (o := 18) rfl (Nat.le_of_ble_eq_true rfl) rfl (by decide) rfl zin_5 (by rw [hm]; exact ql_X5_18) rfl hdg z
theorem ql_X6_12 : Cond.fieldLink RX6 12 RX6 (TX6 0).2.1 (TX6 0).2.2.1 ∈ zT := zT_in 387 (by decide +kernel) (by decide +kernel)
theorem fg_X6_12  (hm : mn.cls = RX6) (hdg : decode cc pc = .ok (.getfield 12, 3)) (z : EV g l (mn, cc, nL, rt, dp, hh) kb Q (pc + 3) ls (.ref (zad g 1) :: rest) σ) : EV g l (mn, cc, nL, rt, dp, hh) kb Q pc ls (.ref (zad g 0) :: rest) σ :=
  e_get (ci := 6) (kx := 0) (N := 12) (C := RX6) (ref := RX6) (T := TX6) (sl := zk_B) (x := some (.inl (1))) (o := 0) rfl (Nat.le_of_ble_eq_true rfl) rfl (by decide) rfl zin_6 (by rw [hm]; exact ql_X6_12) rfl hdg z
theorem ql_X6_21 : Cond.fieldLink RX6 21 RX6 (TX6 1).2.1 (TX6 1).2.2.1 ∈ zT := zT_in 388 (by decide +kernel) (by decide +kernel)
theorem fg_X6_21  (hm : mn.cls = RX6) (hdg : decode cc pc = .ok (.getfield 21, 3)) (z : EV g l (mn, cc, nL, rt, dp, hh) kb Q (pc + 3) ls (.ref (zad g 3) :: rest) σ) : EV g l (mn, cc, nL, rt, dp, hh) kb Q pc ls (.ref (zad g 0) :: rest) σ :=
  e_get (ci := 6) (kx := 1) (N := 12) (C := RX6) (ref := RX6) (T := TX6) (sl := zk_B) (x := some (.inl (3))) (o := 0) rfl (Nat.le_of_ble_eq_true rfl) rfl (by decide) rfl zin_6 (by rw [hm]; exact ql_X6_21) rfl hdg z
theorem ql_X6_28 : Cond.fieldLink RX6 28 RX6 (TX6 2).2.1 (TX6 2).2.2.1 ∈ zT := zT_in 389 (by decide +kernel) (by decide +kernel)
theorem fg_X6_28  (hm : mn.cls = RX6) (hdg : decode cc pc = .ok (.getfield 28, 3)) (z : EV g l (mn, cc, nL, rt, dp, hh) kb Q (pc + 3) ls (.ref (zad g 10) :: rest) σ) : EV g l (mn, cc, nL, rt, dp, hh) kb Q pc ls (.ref (zad g 0) :: rest) σ :=
  e_get (ci := 6) (kx := 2) (N := 12) (C := RX6) (ref := RX6) (T := TX6) (sl := zk_B) (x := some (.inl (10))) (o := 0) rfl (Nat.le_of_ble_eq_true rfl) rfl (by decide) rfl zin_6 (by rw [hm]; exact ql_X6_28) rfl hdg z
theorem ql_X6_35 : Cond.fieldLink RX6 35 RX6 (TX6 3).2.1 (TX6 3).2.2.1 ∈ zT := zT_in 390 (by decide +kernel) (by decide +kernel)
theorem fg_X6_35  (hm : mn.cls = RX6) (hdg : decode cc pc = .ok (.getfield 35, 3)) (z : EV g l (mn, cc, nL, rt, dp, hh) kb Q (pc + 3) ls (.ref (zad g 73) :: rest) σ) : EV g l (mn, cc, nL, rt, dp, hh) kb Q pc ls (.ref (zad g 0) :: rest) σ :=
  e_get (ci := 6) (kx := 3) (N := 12) (C := RX6) (ref := RX6) (T := TX6) (sl := zk_B) (x := some (.inl (73))) (o := 0) rfl (Nat.le_of_ble_eq_true rfl) rfl (by decide) rfl zin_6 (by rw [hm]; exact ql_X6_35) rfl hdg z
theorem ql_X6_39 : Cond.fieldLink RX6 39 RX6 (TX6 4).2.1 (TX6 4).2.2.1 ∈ zT := zT_in 391 (by decide +kernel) (by decide +kernel)
theorem fg_X6_39  (hm : mn.cls = RX6) (hdg : decode cc pc = .ok (.getfield 39, 3)) (z : EV g l (mn, cc, nL, rt, dp, hh) kb Q (pc + 3) ls (.ref (zad g 83) :: rest) σ) : EV g l (mn, cc, nL, rt, dp, hh) kb Q pc ls (.ref (zad g 0) :: rest) σ :=
  e_get (ci := 6) (kx := 4) (N := 12) (C := RX6) (ref := RX6) (T := TX6) (sl := zk_B) (x := some (.inl (83))) (o := 0) rfl (Nat.le_of_ble_eq_true rfl) rfl (by decide) rfl zin_6 (by rw [hm]; exact ql_X6_39) rfl hdg z
theorem ql_X6_45 : Cond.fieldLink RX6 45 RX6 (TX6 5).2.1 (TX6 5).2.2.1 ∈ zT := zT_in 392 (by decide +kernel) (by decide +kernel)
theorem fg_X6_45  (hm : mn.cls = RX6) (hdg : decode cc pc = .ok (.getfield 45, 3)) (z : EV g l (mn, cc, nL, rt, dp, hh) kb Q (pc + 3) ls (.ref (zad g 16) :: rest) σ) : EV g l (mn, cc, nL, rt, dp, hh) kb Q pc ls (.ref (zad g 0) :: rest) σ :=
  e_get (ci := 6) (kx := 5) (N := 12) (C := RX6) (ref := RX6) (T := TX6) (sl := zk_B) (x := some (.inl (16))) (o := 0) rfl (Nat.le_of_ble_eq_true rfl) rfl (by decide) rfl zin_6 (by rw [hm]; exact ql_X6_45) rfl hdg z
theorem ql_X6_54 : Cond.fieldLink RX6 54 RX6 (TX6 6).2.1 (TX6 6).2.2.1 ∈ zT := zT_in 393 (by decide +kernel) (by decide +kernel)
theorem fg_X6_54  (hm : mn.cls = RX6) (hdg : decode cc pc = .ok (.getfield 54, 3)) (z : EV g l (mn, cc, nL, rt, dp, hh) kb Q (pc + 3) ls (.ref (zad g 18) :: rest) σ) : EV g l (mn, cc, nL, rt, dp, hh) kb Q pc ls (.ref (zad g 0) :: rest) σ :=
  e_get (ci := 6) (kx := 6) (N := 12) (C := RX6) (ref := RX6) (T := TX6) (sl := zk_B) (x := some (.inl (18))) (o := 0) rfl (Nat.le_of_ble_eq_true rfl) rfl (by decide) rfl zin_6 (by rw [hm]; exact ql_X6_54) rfl hdg z
theorem ql_X6_58 : Cond.fieldLink RX6 58 RX6 (TX6 7).2.1 (TX6 7).2.2.1 ∈ zT := zT_in 394 (by decide +kernel) (by decide +kernel)
theorem fg_X6_58  (hm : mn.cls = RX6) (hdg : decode cc pc = .ok (.getfield 58, 3)) (z : EV g l (mn, cc, nL, rt, dp, hh) kb Q (pc + 3) ls (.ref (zad g 22) :: rest) σ) : EV g l (mn, cc, nL, rt, dp, hh) kb Q pc ls (.ref (zad g 0) :: rest) σ :=
  e_get (ci := 6) (kx := 7) (N := 12) (C := RX6) (ref := RX6) (T := TX6) (sl := zk_B) (x := some (.inl (22))) (o := 0) rfl (Nat.le_of_ble_eq_true rfl) rfl (by decide) rfl zin_6 (by rw [hm]; exact ql_X6_58) rfl hdg z
theorem ql_X6_62 : Cond.fieldLink RX6 62 RX6 (TX6 8).2.1 (TX6 8).2.2.1 ∈ zT := zT_in 395 (by decide +kernel) (by decide +kernel)
theorem fg_X6_62  (hm : mn.cls = RX6) (hdg : decode cc pc = .ok (.getfield 62, 3)) (z : EV g l (mn, cc, nL, rt, dp, hh) kb Q (pc + 3) ls (.ref (zad g 23) :: rest) σ) : EV g l (mn, cc, nL, rt, dp, hh) kb Q pc ls (.ref (zad g 0) :: rest) σ :=
  e_get (ci := 6) (kx := 8) (N := 12) (C := RX6) (ref := RX6) (T := TX6) (sl := zk_B) (x := some (.inl (23))) (o := 0) rfl (Nat.le_of_ble_eq_true rfl) rfl (by decide) rfl zin_6 (by rw [hm]; exact ql_X6_62) rfl hdg z
theorem ql_X6_354 : Cond.fieldLink RX6 354 RX6 (TX6 9).2.1 (TX6 9).2.2.1 ∈ zT := zT_in 396 (by decide +kernel) (by decide +kernel)
theorem fg_X6_354  (hm : mn.cls = RX6) (hdg : decode cc pc = .ok (.getfield 354, 3)) (z : EV g l (mn, cc, nL, rt, dp, hh) kb Q (pc + 3) ls (.int (σ.1 0 9) :: rest) σ) : EV g l (mn, cc, nL, rt, dp, hh) kb Q pc ls (.ref (zad g 0) :: rest) σ :=
  e_get (ci := 6) (kx := 9) (N := 12) (C := RX6) (ref := RX6) (T := TX6) (sl := zk_B) (x := none) (o := 0) rfl (Nat.le_of_ble_eq_true rfl) rfl (by decide) rfl zin_6 (by rw [hm]; exact ql_X6_354) rfl hdg z
theorem fp_X6_354  {v : Int32} (hm : mn.cls = RX6) (hdg : decode cc pc = .ok (.putfield 354, 3)) (z : EV g l (mn, cc, nL, rt, dp, hh) kb Q (pc + 3) ls rest (zup σ 0 9 v)) : EV g l (mn, cc, nL, rt, dp, hh) kb Q pc ls (.int v :: .ref (zad g 0) :: rest) σ :=
  e_put (ci := 6) (kx := 9) (N := 12) (C := RX6) (ref := RX6) (T := TX6) (ty0 := tyX6) (sl := zk_B) (o := 0) rfl (Nat.le_of_ble_eq_true rfl) rfl (by decide) rfl zin_6 tyX6_ok nmX6 rfl rfl rfl (by rw [hm]; exact ql_X6_354) rfl hdg z
theorem ql_X6_110 : Cond.fieldLink RX6 110 RX6 (TX6 10).2.1 (TX6 10).2.2.1 ∈ zT := zT_in 397 (by decide +kernel) (by decide +kernel)
theorem fg_X6_110  (hm : mn.cls = RX6) (hdg : decode cc pc = .ok (.getfield 110, 3)) (z : EV g l (mn, cc, nL, rt, dp, hh) kb Q (pc + 3) ls (.int (σ.1 0 10) :: rest) σ) : EV g l (mn, cc, nL, rt, dp, hh) kb Q pc ls (.ref (zad g 0) :: rest) σ :=
  e_get (ci := 6) (kx := 10) (N := 12) (C := RX6) (ref := RX6) (T := TX6) (sl := zk_B) (x := none) (o := 0) rfl (Nat.le_of_ble_eq_true rfl) rfl (by decide) rfl zin_6 (by rw [hm]; exact ql_X6_110) rfl hdg z
theorem fp_X6_110  {v : Int32} (hm : mn.cls = RX6) (hdg : decode cc pc = .ok (.putfield 110, 3)) (z : EV g l (mn, cc, nL, rt, dp, hh) kb Q (pc + 3) ls rest (zup σ 0 10 v)) : EV g l (mn, cc, nL, rt, dp, hh) kb Q pc ls (.int v :: .ref (zad g 0) :: rest) σ :=
  e_put (ci := 6) (kx := 10) (N := 12) (C := RX6) (ref := RX6) (T := TX6) (ty0 := tyX6) (sl := zk_B) (o := 0) rfl (Nat.le_of_ble_eq_true rfl) rfl (by decide) rfl zin_6 tyX6_ok nmX6 rfl rfl rfl (by rw [hm]; exact ql_X6_110) rfl hdg z
theorem ql_X6_374 : Cond.fieldLink RX6 374 RX6 (TX6 11).2.1 (TX6 11).2.2.1 ∈ zT := zT_in 398 (by decide +kernel) (by decide +kernel)
theorem fg_X6_374  (hm : mn.cls = RX6) (hdg : decode cc pc = .ok (.getfield 374, 3)) (z : EV g l (mn, cc, nL, rt, dp, hh) kb Q (pc + 3) ls (.int (σ.1 0 11) :: rest) σ) : EV g l (mn, cc, nL, rt, dp, hh) kb Q pc ls (.ref (zad g 0) :: rest) σ :=
  e_get (ci := 6) (kx := 11) (N := 12) (C := RX6) (ref := RX6) (T := TX6) (sl := zk_B) (x := none) (o := 0) rfl (Nat.le_of_ble_eq_true rfl) rfl (by decide) rfl zin_6 (by rw [hm]; exact ql_X6_374) rfl hdg z
theorem fp_X6_374  {v : Int32} (hn : zbl v) (hm : mn.cls = RX6) (hdg : decode cc pc = .ok (.putfield 374, 3)) (z : EV g l (mn, cc, nL, rt, dp, hh) kb Q (pc + 3) ls rest (zup σ 0 11 v)) : EV g l (mn, cc, nL, rt, dp, hh) kb Q pc ls (.int v :: .ref (zad g 0) :: rest) σ :=
  e_put (ci := 6) (kx := 11) (N := 12) (C := RX6) (ref := RX6) (T := TX6) (ty0 := tyX6) (sl := zk_B) (o := 0) rfl (Nat.le_of_ble_eq_true rfl) rfl (by decide) rfl zin_6 tyX6_ok nmX6 rfl (zbl_n hn) (zbl_f hn) (by rw [hm]; exact ql_X6_374) rfl hdg z
theorem ql_X7_68 : Cond.fieldLink RX7 68 RX7 (TX7 0).2.1 (TX7 0).2.2.1 ∈ zT := zT_in 1366 (by decide +kernel) (by decide +kernel)
theorem fg_X7_68  (hm : mn.cls = RX7) (hdg : decode cc pc = .ok (.getfield 68, 3)) (z : EV g l (mn, cc, nL, rt, dp, hh) kb Q (pc + 3) ls (.int (σ.1 24 0) :: rest) σ) : EV g l (mn, cc, nL, rt, dp, hh) kb Q pc ls (.ref (zad g 24) :: rest) σ :=
  e_get (ci := 7) (kx := 0) (N := 36) (C := RX7) (ref := RX7) (T := TX7) (sl := zk_M) (x := none) (o := 24) rfl (Nat.le_of_ble_eq_true rfl) rfl (by decide) rfl zin_7 (by rw [hm]; exact ql_X7_68) rfl hdg z
theorem fp_X7_68  {v : Int32} (hm : mn.cls = RX7) (hdg : decode cc pc = .ok (.putfield 68, 3)) (z : EV g l (mn, cc, nL, rt, dp, hh) kb Q (pc + 3) ls rest (zup σ 24 0 v)) : EV g l (mn, cc, nL, rt, dp, hh) kb Q pc ls (.int v :: .ref (zad g 24) :: rest) σ :=
  e_put (ci := 7) (kx := 0) (N := 36) (C := RX7) (ref := RX7) (T := TX7) (ty0 := tyX7) (sl := zk_M) (o := 24) rfl (Nat.le_of_ble_eq_true rfl) rfl (by decide) rfl zin_7 tyX7_ok nmX7 rfl rfl rfl (by rw [hm]; exact ql_X7_68) rfl hdg z
theorem ql_X7_7 : Cond.fieldLink RX7 7 RX7 (TX7 1).2.1 (TX7 1).2.2.1 ∈ zT := zT_in 1367 (by decide +kernel) (by decide +kernel)
theorem fg_X7_7  (hm : mn.cls = RX7) (hdg : decode cc pc = .ok (.getfield 7, 3)) (z : EV g l (mn, cc, nL, rt, dp, hh) kb Q (pc + 3) ls (.ref (zad g 25) :: rest) σ) : EV g l (mn, cc, nL, rt, dp, hh) kb Q pc ls (.ref (zad g 24) :: rest) σ :=
  e_get (ci := 7) (kx := 1) (N := 36) (C := RX7) (ref := RX7) (T := TX7) (sl := zk_M) (x := some (.inl (25))) (o := 24) rfl (Nat.le_of_ble_eq_true rfl) rfl (by decide) rfl zin_7 (by rw [hm]; exact ql_X7_7) rfl hdg z
theorem ql_X7_75 : Cond.fieldLink RX7 75 RX7 (TX7 2).2.1 (TX7 2).2.2.1 ∈ zT := zT_in 1368 (by decide +kernel) (by decide +kernel)
theorem fg_X7_75  (hm : mn.cls = RX7) (hdg : decode cc pc = .ok (.getfield 75, 3)) (z : EV g l (mn, cc, nL, rt, dp, hh) kb Q (pc + 3) ls (.int (σ.1 24 2) :: rest) σ) : EV g l (mn, cc, nL, rt, dp, hh) kb Q pc ls (.ref (zad g 24) :: rest) σ :=
  e_get (ci := 7) (kx := 2) (N := 36) (C := RX7) (ref := RX7) (T := TX7) (sl := zk_M) (x := none) (o := 24) rfl (Nat.le_of_ble_eq_true rfl) rfl (by decide) rfl zin_7 (by rw [hm]; exact ql_X7_75) rfl hdg z
theorem fp_X7_75  {v : Int32} (hm : mn.cls = RX7) (hdg : decode cc pc = .ok (.putfield 75, 3)) (z : EV g l (mn, cc, nL, rt, dp, hh) kb Q (pc + 3) ls rest (zup σ 24 2 v)) : EV g l (mn, cc, nL, rt, dp, hh) kb Q pc ls (.int v :: .ref (zad g 24) :: rest) σ :=
  e_put (ci := 7) (kx := 2) (N := 36) (C := RX7) (ref := RX7) (T := TX7) (ty0 := tyX7) (sl := zk_M) (o := 24) rfl (Nat.le_of_ble_eq_true rfl) rfl (by decide) rfl zin_7 tyX7_ok nmX7 rfl rfl rfl (by rw [hm]; exact ql_X7_75) rfl hdg z
theorem ql_X7_92 : Cond.fieldLink RX7 92 RX7 (TX7 3).2.1 (TX7 3).2.2.1 ∈ zT := zT_in 1369 (by decide +kernel) (by decide +kernel)
theorem fg_X7_92  (hm : mn.cls = RX7) (hdg : decode cc pc = .ok (.getfield 92, 3)) (z : EV g l (mn, cc, nL, rt, dp, hh) kb Q (pc + 3) ls (.int (σ.1 24 3) :: rest) σ) : EV g l (mn, cc, nL, rt, dp, hh) kb Q pc ls (.ref (zad g 24) :: rest) σ :=
  e_get (ci := 7) (kx := 3) (N := 36) (C := RX7) (ref := RX7) (T := TX7) (sl := zk_M) (x := none) (o := 24) rfl (Nat.le_of_ble_eq_true rfl) rfl (by decide) rfl zin_7 (by rw [hm]; exact ql_X7_92) rfl hdg z
theorem fp_X7_92  {v : Int32} (hm : mn.cls = RX7) (hdg : decode cc pc = .ok (.putfield 92, 3)) (z : EV g l (mn, cc, nL, rt, dp, hh) kb Q (pc + 3) ls rest (zup σ 24 3 v)) : EV g l (mn, cc, nL, rt, dp, hh) kb Q pc ls (.int v :: .ref (zad g 24) :: rest) σ :=
  e_put (ci := 7) (kx := 3) (N := 36) (C := RX7) (ref := RX7) (T := TX7) (ty0 := tyX7) (sl := zk_M) (o := 24) rfl (Nat.le_of_ble_eq_true rfl) rfl (by decide) rfl zin_7 tyX7_ok nmX7 rfl rfl rfl (by rw [hm]; exact ql_X7_92) rfl hdg z
theorem ql_X7_89 : Cond.fieldLink RX7 89 RX7 (TX7 4).2.1 (TX7 4).2.2.1 ∈ zT := zT_in 1370 (by decide +kernel) (by decide +kernel)
theorem fg_X7_89  (hm : mn.cls = RX7) (hdg : decode cc pc = .ok (.getfield 89, 3)) (z : EV g l (mn, cc, nL, rt, dp, hh) kb Q (pc + 3) ls (.int (σ.1 24 4) :: rest) σ) : EV g l (mn, cc, nL, rt, dp, hh) kb Q pc ls (.ref (zad g 24) :: rest) σ :=
  e_get (ci := 7) (kx := 4) (N := 36) (C := RX7) (ref := RX7) (T := TX7) (sl := zk_M) (x := none) (o := 24) rfl (Nat.le_of_ble_eq_true rfl) rfl (by decide) rfl zin_7 (by rw [hm]; exact ql_X7_89) rfl hdg z
theorem fp_X7_89  {v : Int32} (hm : mn.cls = RX7) (hdg : decode cc pc = .ok (.putfield 89, 3)) (z : EV g l (mn, cc, nL, rt, dp, hh) kb Q (pc + 3) ls rest (zup σ 24 4 v)) : EV g l (mn, cc, nL, rt, dp, hh) kb Q pc ls (.int v :: .ref (zad g 24) :: rest) σ :=
  e_put (ci := 7) (kx := 4) (N := 36) (C := RX7) (ref := RX7) (T := TX7) (ty0 := tyX7) (sl := zk_M) (o := 24) rfl (Nat.le_of_ble_eq_true rfl) rfl (by decide) rfl zin_7 tyX7_ok nmX7 rfl rfl rfl (by rw [hm]; exact ql_X7_89) rfl hdg z
theorem ql_X7_99 : Cond.fieldLink RX7 99 RX7 (TX7 5).2.1 (TX7 5).2.2.1 ∈ zT := zT_in 1371 (by decide +kernel) (by decide +kernel)
theorem fg_X7_99  (hm : mn.cls = RX7) (hdg : decode cc pc = .ok (.getfield 99, 3)) (z : EV g l (mn, cc, nL, rt, dp, hh) kb Q (pc + 3) ls (.int (σ.1 24 5) :: rest) σ) : EV g l (mn, cc, nL, rt, dp, hh) kb Q pc ls (.ref (zad g 24) :: rest) σ :=
  e_get (ci := 7) (kx := 5) (N := 36) (C := RX7) (ref := RX7) (T := TX7) (sl := zk_M) (x := none) (o := 24) rfl (Nat.le_of_ble_eq_true rfl) rfl (by decide) rfl zin_7 (by rw [hm]; exact ql_X7_99) rfl hdg z
theorem fp_X7_99  {v : Int32} (hm : mn.cls = RX7) (hdg : decode cc pc = .ok (.putfield 99, 3)) (z : EV g l (mn, cc, nL, rt, dp, hh) kb Q (pc + 3) ls rest (zup σ 24 5 v)) : EV g l (mn, cc, nL, rt, dp, hh) kb Q pc ls (.int v :: .ref (zad g 24) :: rest) σ :=
  e_put (ci := 7) (kx := 5) (N := 36) (C := RX7) (ref := RX7) (T := TX7) (ty0 := tyX7) (sl := zk_M) (o := 24) rfl (Nat.le_of_ble_eq_true rfl) rfl (by decide) rfl zin_7 tyX7_ok nmX7 rfl rfl rfl (by rw [hm]; exact ql_X7_99) rfl hdg z
theorem ql_X7_109 : Cond.fieldLink RX7 109 RX7 (TX7 6).2.1 (TX7 6).2.2.1 ∈ zT := zT_in 1372 (by decide +kernel) (by decide +kernel)
theorem fg_X7_109  (hm : mn.cls = RX7) (hdg : decode cc pc = .ok (.getfield 109, 3)) (z : EV g l (mn, cc, nL, rt, dp, hh) kb Q (pc + 3) ls (.int (σ.1 24 6) :: rest) σ) : EV g l (mn, cc, nL, rt, dp, hh) kb Q pc ls (.ref (zad g 24) :: rest) σ :=
  e_get (ci := 7) (kx := 6) (N := 36) (C := RX7) (ref := RX7) (T := TX7) (sl := zk_M) (x := none) (o := 24) rfl (Nat.le_of_ble_eq_true rfl) rfl (by decide) rfl zin_7 (by rw [hm]; exact ql_X7_109) rfl hdg z
theorem fp_X7_109  {v : Int32} (hm : mn.cls = RX7) (hdg : decode cc pc = .ok (.putfield 109, 3)) (z : EV g l (mn, cc, nL, rt, dp, hh) kb Q (pc + 3) ls rest (zup σ 24 6 v)) : EV g l (mn, cc, nL, rt, dp, hh) kb Q pc ls (.int v :: .ref (zad g 24) :: rest) σ :=
  e_put (ci := 7) (kx := 6) (N := 36) (C := RX7) (ref := RX7) (T := TX7) (ty0 := tyX7) (sl := zk_M) (o := 24) rfl (Nat.le_of_ble_eq_true rfl) rfl (by decide) rfl zin_7 tyX7_ok nmX7 rfl rfl rfl (by rw [hm]; exact ql_X7_109) rfl hdg z
theorem ql_X7_106 : Cond.fieldLink RX7 106 RX7 (TX7 7).2.1 (TX7 7).2.2.1 ∈ zT := zT_in 1373 (by decide +kernel) (by decide +kernel)
theorem fg_X7_106  (hm : mn.cls = RX7) (hdg : decode cc pc = .ok (.getfield 106, 3)) (z : EV g l (mn, cc, nL, rt, dp, hh) kb Q (pc + 3) ls (.int (σ.1 24 7) :: rest) σ) : EV g l (mn, cc, nL, rt, dp, hh) kb Q pc ls (.ref (zad g 24) :: rest) σ :=
  e_get (ci := 7) (kx := 7) (N := 36) (C := RX7) (ref := RX7) (T := TX7) (sl := zk_M) (x := none) (o := 24) rfl (Nat.le_of_ble_eq_true rfl) rfl (by decide) rfl zin_7 (by rw [hm]; exact ql_X7_106) rfl hdg z
theorem fp_X7_106  {v : Int32} (hm : mn.cls = RX7) (hdg : decode cc pc = .ok (.putfield 106, 3)) (z : EV g l (mn, cc, nL, rt, dp, hh) kb Q (pc + 3) ls rest (zup σ 24 7 v)) : EV g l (mn, cc, nL, rt, dp, hh) kb Q pc ls (.int v :: .ref (zad g 24) :: rest) σ :=
  e_put (ci := 7) (kx := 7) (N := 36) (C := RX7) (ref := RX7) (T := TX7) (ty0 := tyX7) (sl := zk_M) (o := 24) rfl (Nat.le_of_ble_eq_true rfl) rfl (by decide) rfl zin_7 tyX7_ok nmX7 rfl rfl rfl (by rw [hm]; exact ql_X7_106) rfl hdg z
theorem ql_X7_119 : Cond.fieldLink RX7 119 RX7 (TX7 8).2.1 (TX7 8).2.2.1 ∈ zT := zT_in 1374 (by decide +kernel) (by decide +kernel)
theorem fg_X7_119  (hm : mn.cls = RX7) (hdg : decode cc pc = .ok (.getfield 119, 3)) (z : EV g l (mn, cc, nL, rt, dp, hh) kb Q (pc + 3) ls (.int (σ.1 24 8) :: rest) σ) : EV g l (mn, cc, nL, rt, dp, hh) kb Q pc ls (.ref (zad g 24) :: rest) σ :=
  e_get (ci := 7) (kx := 8) (N := 36) (C := RX7) (ref := RX7) (T := TX7) (sl := zk_M) (x := none) (o := 24) rfl (Nat.le_of_ble_eq_true rfl) rfl (by decide) rfl zin_7 (by rw [hm]; exact ql_X7_119) rfl hdg z
theorem fp_X7_119  {v : Int32} (hm : mn.cls = RX7) (hdg : decode cc pc = .ok (.putfield 119, 3)) (z : EV g l (mn, cc, nL, rt, dp, hh) kb Q (pc + 3) ls rest (zup σ 24 8 v)) : EV g l (mn, cc, nL, rt, dp, hh) kb Q pc ls (.int v :: .ref (zad g 24) :: rest) σ :=
  e_put (ci := 7) (kx := 8) (N := 36) (C := RX7) (ref := RX7) (T := TX7) (ty0 := tyX7) (sl := zk_M) (o := 24) rfl (Nat.le_of_ble_eq_true rfl) rfl (by decide) rfl zin_7 tyX7_ok nmX7 rfl rfl rfl (by rw [hm]; exact ql_X7_119) rfl hdg z
theorem ql_X7_13 : Cond.fieldLink RX7 13 RX7 (TX7 9).2.1 (TX7 9).2.2.1 ∈ zT := zT_in 1375 (by decide +kernel) (by decide +kernel)
theorem fg_X7_13  (hm : mn.cls = RX7) (hdg : decode cc pc = .ok (.getfield 13, 3)) (z : EV g l (mn, cc, nL, rt, dp, hh) kb Q (pc + 3) ls (.int (σ.1 24 9) :: rest) σ) : EV g l (mn, cc, nL, rt, dp, hh) kb Q pc ls (.ref (zad g 24) :: rest) σ :=
  e_get (ci := 7) (kx := 9) (N := 36) (C := RX7) (ref := RX7) (T := TX7) (sl := zk_M) (x := none) (o := 24) rfl (Nat.le_of_ble_eq_true rfl) rfl (by decide) rfl zin_7 (by rw [hm]; exact ql_X7_13) rfl hdg z
theorem fp_X7_13  {v : Int32} (hm : mn.cls = RX7) (hdg : decode cc pc = .ok (.putfield 13, 3)) (z : EV g l (mn, cc, nL, rt, dp, hh) kb Q (pc + 3) ls rest (zup σ 24 9 v)) : EV g l (mn, cc, nL, rt, dp, hh) kb Q pc ls (.int v :: .ref (zad g 24) :: rest) σ :=
  e_put (ci := 7) (kx := 9) (N := 36) (C := RX7) (ref := RX7) (T := TX7) (ty0 := tyX7) (sl := zk_M) (o := 24) rfl (Nat.le_of_ble_eq_true rfl) rfl (by decide) rfl zin_7 tyX7_ok nmX7 rfl rfl rfl (by rw [hm]; exact ql_X7_13) rfl hdg z
theorem ql_X7_143 : Cond.fieldLink RX7 143 RX7 (TX7 10).2.1 (TX7 10).2.2.1 ∈ zT := zT_in 1376 (by decide +kernel) (by decide +kernel)
theorem fg_X7_143  (hm : mn.cls = RX7) (hdg : decode cc pc = .ok (.getfield 143, 3)) (z : EV g l (mn, cc, nL, rt, dp, hh) kb Q (pc + 3) ls (.int (σ.1 24 10) :: rest) σ) : EV g l (mn, cc, nL, rt, dp, hh) kb Q pc ls (.ref (zad g 24) :: rest) σ :=
  e_get (ci := 7) (kx := 10) (N := 36) (C := RX7) (ref := RX7) (T := TX7) (sl := zk_M) (x := none) (o := 24) rfl (Nat.le_of_ble_eq_true rfl) rfl (by decide) rfl zin_7 (by rw [hm]; exact ql_X7_143) rfl hdg z
theorem fp_X7_143  {v : Int32} (hm : mn.cls = RX7) (hdg : decode cc pc = .ok (.putfield 143, 3)) (z : EV g l (mn, cc, nL, rt, dp, hh) kb Q (pc + 3) ls rest (zup σ 24 10 v)) : EV g l (mn, cc, nL, rt, dp, hh) kb Q pc ls (.int v :: .ref (zad g 24) :: rest) σ :=
  e_put (ci := 7) (kx := 10) (N := 36) (C := RX7) (ref := RX7) (T := TX7) (ty0 := tyX7) (sl := zk_M) (o := 24) rfl (Nat.le_of_ble_eq_true rfl) rfl (by decide) rfl zin_7 tyX7_ok nmX7 rfl rfl rfl (by rw [hm]; exact ql_X7_143) rfl hdg z
theorem ql_X7_17 : Cond.fieldLink RX7 17 RX7 (TX7 11).2.1 (TX7 11).2.2.1 ∈ zT := zT_in 1377 (by decide +kernel) (by decide +kernel)
theorem fg_X7_17  (hm : mn.cls = RX7) (hdg : decode cc pc = .ok (.getfield 17, 3)) (z : EV g l (mn, cc, nL, rt, dp, hh) kb Q (pc + 3) ls (.int (σ.1 24 11) :: rest) σ) : EV g l (mn, cc, nL, rt, dp, hh) kb Q pc ls (.ref (zad g 24) :: rest) σ :=
  e_get (ci := 7) (kx := 11) (N := 36) (C := RX7) (ref := RX7) (T := TX7) (sl := zk_M) (x := none) (o := 24) rfl (Nat.le_of_ble_eq_true rfl) rfl (by decide) rfl zin_7 (by rw [hm]; exact ql_X7_17) rfl hdg z
theorem fp_X7_17  {v : Int32} (hm : mn.cls = RX7) (hdg : decode cc pc = .ok (.putfield 17, 3)) (z : EV g l (mn, cc, nL, rt, dp, hh) kb Q (pc + 3) ls rest (zup σ 24 11 v)) : EV g l (mn, cc, nL, rt, dp, hh) kb Q pc ls (.int v :: .ref (zad g 24) :: rest) σ :=
  e_put (ci := 7) (kx := 11) (N := 36) (C := RX7) (ref := RX7) (T := TX7) (ty0 := tyX7) (sl := zk_M) (o := 24) rfl (Nat.le_of_ble_eq_true rfl) rfl (by decide) rfl zin_7 tyX7_ok nmX7 rfl rfl rfl (by rw [hm]; exact ql_X7_17) rfl hdg z
theorem ql_X7_102 : Cond.fieldLink RX7 102 RX7 (TX7 12).2.1 (TX7 12).2.2.1 ∈ zT := zT_in 1378 (by decide +kernel) (by decide +kernel)
theorem fg_X7_102  (hm : mn.cls = RX7) (hdg : decode cc pc = .ok (.getfield 102, 3)) (z : EV g l (mn, cc, nL, rt, dp, hh) kb Q (pc + 3) ls (.long (σ.2.1 0) :: rest) σ) : EV g l (mn, cc, nL, rt, dp, hh) kb Q pc ls (.ref (zad g 24) :: rest) σ :=
  e_get (ci := 7) (kx := 12) (N := 36) (C := RX7) (ref := RX7) (T := TX7) (sl := zk_M) (x := some (.inr 0)) (o := 24) rfl (Nat.le_of_ble_eq_true rfl) rfl (by decide) rfl zin_7 (by rw [hm]; exact ql_X7_102) rfl hdg z
theorem ql_X7_20 : Cond.fieldLink RX7 20 RX7 (TX7 13).2.1 (TX7 13).2.2.1 ∈ zT := zT_in 1379 (by decide +kernel) (by decide +kernel)
theorem fg_X7_20  (hm : mn.cls = RX7) (hdg : decode cc pc = .ok (.getfield 20, 3)) (z : EV g l (mn, cc, nL, rt, dp, hh) kb Q (pc + 3) ls (.ref (zad g 26) :: rest) σ) : EV g l (mn, cc, nL, rt, dp, hh) kb Q pc ls (.ref (zad g 24) :: rest) σ :=
  e_get (ci := 7) (kx := 13) (N := 36) (C := RX7) (ref := RX7) (T := TX7) (sl := zk_M) (x := some (.inl (26))) (o := 24) rfl (Nat.le_of_ble_eq_true rfl) rfl (by decide) rfl zin_7 (by rw [hm]; exact ql_X7_20) rfl hdg z
theorem ql_X7_23 : Cond.fieldLink RX7 23 RX7 (TX7 14).2.1 (TX7 14).2.2.1 ∈ zT := zT_in 1380 (by decide +kernel) (by decide +kernel)
theorem fg_X7_23  (hm : mn.cls = RX7) (hdg : decode cc pc = .ok (.getfield 23, 3)) (z : EV g l (mn, cc, nL, rt, dp, hh) kb Q (pc + 3) ls (.ref (zad g 27) :: rest) σ) : EV g l (mn, cc, nL, rt, dp, hh) kb Q pc ls (.ref (zad g 24) :: rest) σ :=
  e_get (ci := 7) (kx := 14) (N := 36) (C := RX7) (ref := RX7) (T := TX7) (sl := zk_M) (x := some (.inl (27))) (o := 24) rfl (Nat.le_of_ble_eq_true rfl) rfl (by decide) rfl zin_7 (by rw [hm]; exact ql_X7_23) rfl hdg z
theorem ql_X7_26 : Cond.fieldLink RX7 26 RX7 (TX7 15).2.1 (TX7 15).2.2.1 ∈ zT := zT_in 1381 (by decide +kernel) (by decide +kernel)
theorem fg_X7_26  (hm : mn.cls = RX7) (hdg : decode cc pc = .ok (.getfield 26, 3)) (z : EV g l (mn, cc, nL, rt, dp, hh) kb Q (pc + 3) ls (.ref (zad g 28) :: rest) σ) : EV g l (mn, cc, nL, rt, dp, hh) kb Q pc ls (.ref (zad g 24) :: rest) σ :=
  e_get (ci := 7) (kx := 15) (N := 36) (C := RX7) (ref := RX7) (T := TX7) (sl := zk_M) (x := some (.inl (28))) (o := 24) rfl (Nat.le_of_ble_eq_true rfl) rfl (by decide) rfl zin_7 (by rw [hm]; exact ql_X7_26) rfl hdg z
theorem ql_X7_29 : Cond.fieldLink RX7 29 RX7 (TX7 16).2.1 (TX7 16).2.2.1 ∈ zT := zT_in 1382 (by decide +kernel) (by decide +kernel)
theorem fg_X7_29  (hm : mn.cls = RX7) (hdg : decode cc pc = .ok (.getfield 29, 3)) (z : EV g l (mn, cc, nL, rt, dp, hh) kb Q (pc + 3) ls (.ref (zad g 29) :: rest) σ) : EV g l (mn, cc, nL, rt, dp, hh) kb Q pc ls (.ref (zad g 24) :: rest) σ :=
  e_get (ci := 7) (kx := 16) (N := 36) (C := RX7) (ref := RX7) (T := TX7) (sl := zk_M) (x := some (.inl (29))) (o := 24) rfl (Nat.le_of_ble_eq_true rfl) rfl (by decide) rfl zin_7 (by rw [hm]; exact ql_X7_29) rfl hdg z
theorem ql_X7_32 : Cond.fieldLink RX7 32 RX7 (TX7 17).2.1 (TX7 17).2.2.1 ∈ zT := zT_in 1383 (by decide +kernel) (by decide +kernel)
theorem fg_X7_32  (hm : mn.cls = RX7) (hdg : decode cc pc = .ok (.getfield 32, 3)) (z : EV g l (mn, cc, nL, rt, dp, hh) kb Q (pc + 3) ls (.ref (zad g 30) :: rest) σ) : EV g l (mn, cc, nL, rt, dp, hh) kb Q pc ls (.ref (zad g 24) :: rest) σ :=
  e_get (ci := 7) (kx := 17) (N := 36) (C := RX7) (ref := RX7) (T := TX7) (sl := zk_M) (x := some (.inl (30))) (o := 24) rfl (Nat.le_of_ble_eq_true rfl) rfl (by decide) rfl zin_7 (by rw [hm]; exact ql_X7_32) rfl hdg z
theorem ql_X7_150 : Cond.fieldLink RX7 150 RX7 (TX7 18).2.1 (TX7 18).2.2.1 ∈ zT := zT_in 1384 (by decide +kernel) (by decide +kernel)
theorem fg_X7_150  (hm : mn.cls = RX7) (hdg : decode cc pc = .ok (.getfield 150, 3)) (z : EV g l (mn, cc, nL, rt, dp, hh) kb Q (pc + 3) ls (.int (σ.1 24 18) :: rest) σ) : EV g l (mn, cc, nL, rt, dp, hh) kb Q pc ls (.ref (zad g 24) :: rest) σ :=
  e_get (ci := 7) (kx := 18) (N := 36) (C := RX7) (ref := RX7) (T := TX7) (sl := zk_M) (x := none) (o := 24) rfl (Nat.le_of_ble_eq_true rfl) rfl (by decide) rfl zin_7 (by rw [hm]; exact ql_X7_150) rfl hdg z
theorem fp_X7_150  {v : Int32} (hm : mn.cls = RX7) (hdg : decode cc pc = .ok (.putfield 150, 3)) (z : EV g l (mn, cc, nL, rt, dp, hh) kb Q (pc + 3) ls rest (zup σ 24 18 v)) : EV g l (mn, cc, nL, rt, dp, hh) kb Q pc ls (.int v :: .ref (zad g 24) :: rest) σ :=
  e_put (ci := 7) (kx := 18) (N := 36) (C := RX7) (ref := RX7) (T := TX7) (ty0 := tyX7) (sl := zk_M) (o := 24) rfl (Nat.le_of_ble_eq_true rfl) rfl (by decide) rfl zin_7 tyX7_ok nmX7 rfl rfl rfl (by rw [hm]; exact ql_X7_150) rfl hdg z
theorem ql_X7_156 : Cond.fieldLink RX7 156 RX7 (TX7 19).2.1 (TX7 19).2.2.1 ∈ zT := zT_in 1385 (by decide +kernel) (by decide +kernel)
theorem fg_X7_156  (hm : mn.cls = RX7) (hdg : decode cc pc = .ok (.getfield 156, 3)) (z : EV g l (mn, cc, nL, rt, dp, hh) kb Q (pc + 3) ls (.int (σ.1 24 19) :: rest) σ) : EV g l (mn, cc, nL, rt, dp, hh) kb Q pc ls (.ref (zad g 24) :: rest) σ :=
  e_get (ci := 7) (kx := 19) (N := 36) (C := RX7) (ref := RX7) (T := TX7) (sl := zk_M) (x := none) (o := 24) rfl (Nat.le_of_ble_eq_true rfl) rfl (by decide) rfl zin_7 (by rw [hm]; exact ql_X7_156) rfl hdg z
theorem fp_X7_156  {v : Int32} (hn : zbl v) (hm : mn.cls = RX7) (hdg : decode cc pc = .ok (.putfield 156, 3)) (z : EV g l (mn, cc, nL, rt, dp, hh) kb Q (pc + 3) ls rest (zup σ 24 19 v)) : EV g l (mn, cc, nL, rt, dp, hh) kb Q pc ls (.int v :: .ref (zad g 24) :: rest) σ :=
  e_put (ci := 7) (kx := 19) (N := 36) (C := RX7) (ref := RX7) (T := TX7) (ty0 := tyX7) (sl := zk_M) (o := 24) rfl (Nat.le_of_ble_eq_true rfl) rfl (by decide) rfl zin_7 tyX7_ok nmX7 rfl (zbl_n hn) (zbl_f hn) (by rw [hm]; exact ql_X7_156) rfl hdg z
theorem ql_X7_183 : Cond.fieldLink RX7 183 RX7 (TX7 20).2.1 (TX7 20).2.2.1 ∈ zT := zT_in 1386 (by decide +kernel) (by decide +kernel)
theorem fg_X7_183  (hm : mn.cls = RX7) (hdg : decode cc pc = .ok (.getfield 183, 3)) (z : EV g l (mn, cc, nL, rt, dp, hh) kb Q (pc + 3) ls (.int (σ.1 24 20) :: rest) σ) : EV g l (mn, cc, nL, rt, dp, hh) kb Q pc ls (.ref (zad g 24) :: rest) σ :=
  e_get (ci := 7) (kx := 20) (N := 36) (C := RX7) (ref := RX7) (T := TX7) (sl := zk_M) (x := none) (o := 24) rfl (Nat.le_of_ble_eq_true rfl) rfl (by decide) rfl zin_7 (by rw [hm]; exact ql_X7_183) rfl hdg z
theorem fp_X7_183  {v : Int32} (hm : mn.cls = RX7) (hdg : decode cc pc = .ok (.putfield 183, 3)) (z : EV g l (mn, cc, nL, rt, dp, hh) kb Q (pc + 3) ls rest (zup σ 24 20 v)) : EV g l (mn, cc, nL, rt, dp, hh) kb Q pc ls (.int v :: .ref (zad g 24) :: rest) σ :=
  e_put (ci := 7) (kx := 20) (N := 36) (C := RX7) (ref := RX7) (T := TX7) (ty0 := tyX7) (sl := zk_M) (o := 24) rfl (Nat.le_of_ble_eq_true rfl) rfl (by decide) rfl zin_7 tyX7_ok nmX7 rfl rfl rfl (by rw [hm]; exact ql_X7_183) rfl hdg z
theorem ql_X7_35 : Cond.fieldLink RX7 35 RX7 (TX7 21).2.1 (TX7 21).2.2.1 ∈ zT := zT_in 1387 (by decide +kernel) (by decide +kernel)
theorem fg_X7_35  (hm : mn.cls = RX7) (hdg : decode cc pc = .ok (.getfield 35, 3)) (z : EV g l (mn, cc, nL, rt, dp, hh) kb Q (pc + 3) ls (.ref (zad g 31) :: rest) σ) : EV g l (mn, cc, nL, rt, dp, hh) kb Q pc ls (.ref (zad g 24) :: rest) σ :=
  e_get (ci := 7) (kx := 21) (N := 36) (C := RX7) (ref := RX7) (T := TX7) (sl := zk_M) (x := some (.inl (31))) (o := 24) rfl (Nat.le_of_ble_eq_true rfl) rfl (by decide) rfl zin_7 (by rw [hm]; exact ql_X7_35) rfl hdg z
theorem ql_X7_38 : Cond.fieldLink RX7 38 RX7 (TX7 22).2.1 (TX7 22).2.2.1 ∈ zT := zT_in 1388 (by decide +kernel) (by decide +kernel)
theorem fg_X7_38  (hm : mn.cls = RX7) (hdg : decode cc pc = .ok (.getfield 38, 3)) (z : EV g l (mn, cc, nL, rt, dp, hh) kb Q (pc + 3) ls (.ref (zad g 32) :: rest) σ) : EV g l (mn, cc, nL, rt, dp, hh) kb Q pc ls (.ref (zad g 24) :: rest) σ :=
  e_get (ci := 7) (kx := 22) (N := 36) (C := RX7) (ref := RX7) (T := TX7) (sl := zk_M) (x := some (.inl (32))) (o := 24) rfl (Nat.le_of_ble_eq_true rfl) rfl (by decide) rfl zin_7 (by rw [hm]; exact ql_X7_38) rfl hdg z
theorem ql_X7_41 : Cond.fieldLink RX7 41 RX7 (TX7 23).2.1 (TX7 23).2.2.1 ∈ zT := zT_in 1389 (by decide +kernel) (by decide +kernel)
theorem fg_X7_41  (hm : mn.cls = RX7) (hdg : decode cc pc = .ok (.getfield 41, 3)) (z : EV g l (mn, cc, nL, rt, dp, hh) kb Q (pc + 3) ls (.ref (zad g 33) :: rest) σ) : EV g l (mn, cc, nL, rt, dp, hh) kb Q pc ls (.ref (zad g 24) :: rest) σ :=
  e_get (ci := 7) (kx := 23) (N := 36) (C := RX7) (ref := RX7) (T := TX7) (sl := zk_M) (x := some (.inl (33))) (o := 24) rfl (Nat.le_of_ble_eq_true rfl) rfl (by decide) rfl zin_7 (by rw [hm]; exact ql_X7_41) rfl hdg z
theorem ql_X7_44 : Cond.fieldLink RX7 44 RX7 (TX7 24).2.1 (TX7 24).2.2.1 ∈ zT := zT_in 1390 (by decide +kernel) (by decide +kernel)
theorem fg_X7_44  (hm : mn.cls = RX7) (hdg : decode cc pc = .ok (.getfield 44, 3)) (z : EV g l (mn, cc, nL, rt, dp, hh) kb Q (pc + 3) ls (.ref (zad g 34) :: rest) σ) : EV g l (mn, cc, nL, rt, dp, hh) kb Q pc ls (.ref (zad g 24) :: rest) σ :=
  e_get (ci := 7) (kx := 24) (N := 36) (C := RX7) (ref := RX7) (T := TX7) (sl := zk_M) (x := some (.inl (34))) (o := 24) rfl (Nat.le_of_ble_eq_true rfl) rfl (by decide) rfl zin_7 (by rw [hm]; exact ql_X7_44) rfl hdg z
theorem ql_X7_47 : Cond.fieldLink RX7 47 RX7 (TX7 25).2.1 (TX7 25).2.2.1 ∈ zT := zT_in 1391 (by decide +kernel) (by decide +kernel)
theorem fg_X7_47  (hm : mn.cls = RX7) (hdg : decode cc pc = .ok (.getfield 47, 3)) (z : EV g l (mn, cc, nL, rt, dp, hh) kb Q (pc + 3) ls (.ref (zad g 35) :: rest) σ) : EV g l (mn, cc, nL, rt, dp, hh) kb Q pc ls (.ref (zad g 24) :: rest) σ :=
  e_get (ci := 7) (kx := 25) (N := 36) (C := RX7) (ref := RX7) (T := TX7) (sl := zk_M) (x := some (.inl (35))) (o := 24) rfl (Nat.le_of_ble_eq_true rfl) rfl (by decide) rfl zin_7 (by rw [hm]; exact ql_X7_47) rfl hdg z
theorem ql_X7_50 : Cond.fieldLink RX7 50 RX7 (TX7 26).2.1 (TX7 26).2.2.1 ∈ zT := zT_in 1392 (by decide +kernel) (by decide +kernel)
theorem fg_X7_50  (hm : mn.cls = RX7) (hdg : decode cc pc = .ok (.getfield 50, 3)) (z : EV g l (mn, cc, nL, rt, dp, hh) kb Q (pc + 3) ls (.ref (zad g 36) :: rest) σ) : EV g l (mn, cc, nL, rt, dp, hh) kb Q pc ls (.ref (zad g 24) :: rest) σ :=
  e_get (ci := 7) (kx := 26) (N := 36) (C := RX7) (ref := RX7) (T := TX7) (sl := zk_M) (x := some (.inl (36))) (o := 24) rfl (Nat.le_of_ble_eq_true rfl) rfl (by decide) rfl zin_7 (by rw [hm]; exact ql_X7_50) rfl hdg z
theorem ql_X7_53 : Cond.fieldLink RX7 53 RX7 (TX7 27).2.1 (TX7 27).2.2.1 ∈ zT := zT_in 1393 (by decide +kernel) (by decide +kernel)
theorem fg_X7_53  (hm : mn.cls = RX7) (hdg : decode cc pc = .ok (.getfield 53, 3)) (z : EV g l (mn, cc, nL, rt, dp, hh) kb Q (pc + 3) ls (.ref (zad g 37) :: rest) σ) : EV g l (mn, cc, nL, rt, dp, hh) kb Q pc ls (.ref (zad g 24) :: rest) σ :=
  e_get (ci := 7) (kx := 27) (N := 36) (C := RX7) (ref := RX7) (T := TX7) (sl := zk_M) (x := some (.inl (37))) (o := 24) rfl (Nat.le_of_ble_eq_true rfl) rfl (by decide) rfl zin_7 (by rw [hm]; exact ql_X7_53) rfl hdg z
theorem ql_X7_56 : Cond.fieldLink RX7 56 RX7 (TX7 28).2.1 (TX7 28).2.2.1 ∈ zT := zT_in 1394 (by decide +kernel) (by decide +kernel)
theorem fg_X7_56  (hm : mn.cls = RX7) (hdg : decode cc pc = .ok (.getfield 56, 3)) (z : EV g l (mn, cc, nL, rt, dp, hh) kb Q (pc + 3) ls (.ref (zad g 38) :: rest) σ) : EV g l (mn, cc, nL, rt, dp, hh) kb Q pc ls (.ref (zad g 24) :: rest) σ :=
  e_get (ci := 7) (kx := 28) (N := 36) (C := RX7) (ref := RX7) (T := TX7) (sl := zk_M) (x := some (.inl (38))) (o := 24) rfl (Nat.le_of_ble_eq_true rfl) rfl (by decide) rfl zin_7 (by rw [hm]; exact ql_X7_56) rfl hdg z
theorem ql_X7_59 : Cond.fieldLink RX7 59 RX7 (TX7 29).2.1 (TX7 29).2.2.1 ∈ zT := zT_in 1395 (by decide +kernel) (by decide +kernel)
theorem fg_X7_59  (hm : mn.cls = RX7) (hdg : decode cc pc = .ok (.getfield 59, 3)) (z : EV g l (mn, cc, nL, rt, dp, hh) kb Q (pc + 3) ls (.ref (zad g 39) :: rest) σ) : EV g l (mn, cc, nL, rt, dp, hh) kb Q pc ls (.ref (zad g 24) :: rest) σ :=
  e_get (ci := 7) (kx := 29) (N := 36) (C := RX7) (ref := RX7) (T := TX7) (sl := zk_M) (x := some (.inl (39))) (o := 24) rfl (Nat.le_of_ble_eq_true rfl) rfl (by decide) rfl zin_7 (by rw [hm]; exact ql_X7_59) rfl hdg z
theorem ql_X7_464 : Cond.fieldLink RX7 464 RX7 (TX7 30).2.1 (TX7 30).2.2.1 ∈ zT := zT_in 1396 (by decide +kernel) (by decide +kernel)
theorem fg_X7_464  (hm : mn.cls = RX7) (hdg : decode cc pc = .ok (.getfield 464, 3)) (z : EV g l (mn, cc, nL, rt, dp, hh) kb Q (pc + 3) ls (.int (σ.1 24 30) :: rest) σ) : EV g l (mn, cc, nL, rt, dp, hh) kb Q pc ls (.ref (zad g 24) :: rest) σ :=
  e_get (ci := 7) (kx := 30) (N := 36) (C := RX7) (ref := RX7) (T := TX7) (sl := zk_M) (x := none) (o := 24) rfl (Nat.le_of_ble_eq_true rfl) rfl (by decide) rfl zin_7 (by rw [hm]; exact ql_X7_464) rfl hdg z
theorem fp_X7_464  {v : Int32} (hm : mn.cls = RX7) (hdg : decode cc pc = .ok (.putfield 464, 3)) (z : EV g l (mn, cc, nL, rt, dp, hh) kb Q (pc + 3) ls rest (zup σ 24 30 v)) : EV g l (mn, cc, nL, rt, dp, hh) kb Q pc ls (.int v :: .ref (zad g 24) :: rest) σ :=
  e_put (ci := 7) (kx := 30) (N := 36) (C := RX7) (ref := RX7) (T := TX7) (ty0 := tyX7) (sl := zk_M) (o := 24) rfl (Nat.le_of_ble_eq_true rfl) rfl (by decide) rfl zin_7 tyX7_ok nmX7 rfl rfl rfl (by rw [hm]; exact ql_X7_464) rfl hdg z
theorem ql_X7_461 : Cond.fieldLink RX7 461 RX7 (TX7 31).2.1 (TX7 31).2.2.1 ∈ zT := zT_in 1397 (by decide +kernel) (by decide +kernel)
theorem fg_X7_461  (hm : mn.cls = RX7) (hdg : decode cc pc = .ok (.getfield 461, 3)) (z : EV g l (mn, cc, nL, rt, dp, hh) kb Q (pc + 3) ls (.int (σ.1 24 31) :: rest) σ) : EV g l (mn, cc, nL, rt, dp, hh) kb Q pc ls (.ref (zad g 24) :: rest) σ :=
  e_get (ci := 7) (kx := 31) (N := 36) (C := RX7) (ref := RX7) (T := TX7) (sl := zk_M) (x := none) (o := 24) rfl (Nat.le_of_ble_eq_true rfl) rfl (by decide) rfl zin_7 (by rw [hm]; exact ql_X7_461) rfl hdg z
theorem fp_X7_461  {v : Int32} (hm : mn.cls = RX7) (hdg : decode cc pc = .ok (.putfield 461, 3)) (z : EV g l (mn, cc, nL, rt, dp, hh) kb Q (pc + 3) ls rest (zup σ 24 31 v)) : EV g l (mn, cc, nL, rt, dp, hh) kb Q pc ls (.int v :: .ref (zad g 24) :: rest) σ :=
  e_put (ci := 7) (kx := 31) (N := 36) (C := RX7) (ref := RX7) (T := TX7) (ty0 := tyX7) (sl := zk_M) (o := 24) rfl (Nat.le_of_ble_eq_true rfl) rfl (by decide) rfl zin_7 tyX7_ok nmX7 rfl rfl rfl (by rw [hm]; exact ql_X7_461) rfl hdg z
theorem ql_X7_458 : Cond.fieldLink RX7 458 RX7 (TX7 32).2.1 (TX7 32).2.2.1 ∈ zT := zT_in 1398 (by decide +kernel) (by decide +kernel)
theorem fg_X7_458  (hm : mn.cls = RX7) (hdg : decode cc pc = .ok (.getfield 458, 3)) (z : EV g l (mn, cc, nL, rt, dp, hh) kb Q (pc + 3) ls (.int (σ.1 24 32) :: rest) σ) : EV g l (mn, cc, nL, rt, dp, hh) kb Q pc ls (.ref (zad g 24) :: rest) σ :=
  e_get (ci := 7) (kx := 32) (N := 36) (C := RX7) (ref := RX7) (T := TX7) (sl := zk_M) (x := none) (o := 24) rfl (Nat.le_of_ble_eq_true rfl) rfl (by decide) rfl zin_7 (by rw [hm]; exact ql_X7_458) rfl hdg z
theorem fp_X7_458  {v : Int32} (hm : mn.cls = RX7) (hdg : decode cc pc = .ok (.putfield 458, 3)) (z : EV g l (mn, cc, nL, rt, dp, hh) kb Q (pc + 3) ls rest (zup σ 24 32 v)) : EV g l (mn, cc, nL, rt, dp, hh) kb Q pc ls (.int v :: .ref (zad g 24) :: rest) σ :=
  e_put (ci := 7) (kx := 32) (N := 36) (C := RX7) (ref := RX7) (T := TX7) (ty0 := tyX7) (sl := zk_M) (o := 24) rfl (Nat.le_of_ble_eq_true rfl) rfl (by decide) rfl zin_7 tyX7_ok nmX7 rfl rfl rfl (by rw [hm]; exact ql_X7_458) rfl hdg z
theorem ql_X7_62 : Cond.fieldLink RX7 62 RX7 (TX7 33).2.1 (TX7 33).2.2.1 ∈ zT := zT_in 1399 (by decide +kernel) (by decide +kernel)
theorem fg_X7_62  (hm : mn.cls = RX7) (hdg : decode cc pc = .ok (.getfield 62, 3)) (z : EV g l (mn, cc, nL, rt, dp, hh) kb Q (pc + 3) ls (.ref (zad g 40) :: rest) σ) : EV g l (mn, cc, nL, rt, dp, hh) kb Q pc ls (.ref (zad g 24) :: rest) σ :=
  e_get (ci := 7) (kx := 33) (N := 36) (C := RX7) (ref := RX7) (T := TX7) (sl := zk_M) (x := some (.inl (40))) (o := 24) rfl (Nat.le_of_ble_eq_true rfl) rfl (by decide) rfl zin_7 (by rw [hm]; exact ql_X7_62) rfl hdg z
theorem ql_X7_489 : Cond.fieldLink RX7 489 RX7 (TX7 34).2.1 (TX7 34).2.2.1 ∈ zT := zT_in 1400 (by decide +kernel) (by decide +kernel)
theorem fg_X7_489  (hm : mn.cls = RX7) (hdg : decode cc pc = .ok (.getfield 489, 3)) (z : EV g l (mn, cc, nL, rt, dp, hh) kb Q (pc + 3) ls (.int (σ.1 24 34) :: rest) σ) : EV g l (mn, cc, nL, rt, dp, hh) kb Q pc ls (.ref (zad g 24) :: rest) σ :=
  e_get (ci := 7) (kx := 34) (N := 36) (C := RX7) (ref := RX7) (T := TX7) (sl := zk_M) (x := none) (o := 24) rfl (Nat.le_of_ble_eq_true rfl) rfl (by decide) rfl zin_7 (by rw [hm]; exact ql_X7_489) rfl hdg z
theorem fp_X7_489  {v : Int32} (hm : mn.cls = RX7) (hdg : decode cc pc = .ok (.putfield 489, 3)) (z : EV g l (mn, cc, nL, rt, dp, hh) kb Q (pc + 3) ls rest (zup σ 24 34 v)) : EV g l (mn, cc, nL, rt, dp, hh) kb Q pc ls (.int v :: .ref (zad g 24) :: rest) σ :=
  e_put (ci := 7) (kx := 34) (N := 36) (C := RX7) (ref := RX7) (T := TX7) (ty0 := tyX7) (sl := zk_M) (o := 24) rfl (Nat.le_of_ble_eq_true rfl) rfl (by decide) rfl zin_7 tyX7_ok nmX7 rfl rfl rfl (by rw [hm]; exact ql_X7_489) rfl hdg z
theorem ql_X7_492 : Cond.fieldLink RX7 492 RX7 (TX7 35).2.1 (TX7 35).2.2.1 ∈ zT := zT_in 1401 (by decide +kernel) (by decide +kernel)
theorem fg_X7_492  (hm : mn.cls = RX7) (hdg : decode cc pc = .ok (.getfield 492, 3)) (z : EV g l (mn, cc, nL, rt, dp, hh) kb Q (pc + 3) ls (.int (σ.1 24 35) :: rest) σ) : EV g l (mn, cc, nL, rt, dp, hh) kb Q pc ls (.ref (zad g 24) :: rest) σ :=
  e_get (ci := 7) (kx := 35) (N := 36) (C := RX7) (ref := RX7) (T := TX7) (sl := zk_M) (x := none) (o := 24) rfl (Nat.le_of_ble_eq_true rfl) rfl (by decide) rfl zin_7 (by rw [hm]; exact ql_X7_492) rfl hdg z
theorem fp_X7_492  {v : Int32} (hn : zbl v) (hm : mn.cls = RX7) (hdg : decode cc pc = .ok (.putfield 492, 3)) (z : EV g l (mn, cc, nL, rt, dp, hh) kb Q (pc + 3) ls rest (zup σ 24 35 v)) : EV g l (mn, cc, nL, rt, dp, hh) kb Q pc ls (.int v :: .ref (zad g 24) :: rest) σ :=
  e_put (ci := 7) (kx := 35) (N := 36) (C := RX7) (ref := RX7) (T := TX7) (ty0 := tyX7) (sl := zk_M) (o := 24) rfl (Nat.le_of_ble_eq_true rfl) rfl (by decide) rfl zin_7 tyX7_ok nmX7 rfl (zbl_n hn) (zbl_f hn) (by rw [hm]; exact ql_X7_492) rfl hdg z
end ZF
