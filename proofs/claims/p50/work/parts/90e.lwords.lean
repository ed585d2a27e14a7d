/-! the words that the law's side names, its fields, single instructions -/
theorem cl_L_27 : Cond.classLink RL 27 RX6 ∈ zT := zT_in 58 (by decide +kernel) (by decide +kernel)
theorem cl_X7_8 : Cond.classLink RX7 8 RX7 ∈ zT := zT_in 582 (by decide +kernel) (by decide +kernel)
theorem cl_X7_16 : Cond.classLink RX7 16 RJx4a65c ∈ zT := zT_in 588 (by decide +kernel) (by decide +kernel)
theorem cl_X7_26 : Cond.classLink RX7 26 "[[[I" ∈ zT := zT_in 617 (by decide +kernel) (by decide +kernel)
theorem cl_X7_38 : Cond.classLink RX7 38 RJ4 ∈ zT := zT_in 645 (by decide +kernel) (by decide +kernel)
theorem cl_J7_311 : Cond.classLink RJ7 311 "[B" ∈ zT := zT_in 724 (by decide +kernel) (by decide +kernel)
theorem cl_J7_110 : Cond.classLink RJ7 110 "[Ljava/lang/Object;" ∈ zT := zT_in 856 (by decide +kernel) (by decide +kernel)
theorem cl_J7_2 : Cond.classLink RJ7 2 "java/lang/Object" ∈ zT := zT_in 858 (by decide +kernel) (by decide +kernel)
theorem cl_Jx4a65c_7 : Cond.classLink RJx4a65c 7 "java/lang/Object" ∈ zT := zT_in 860 (by decide +kernel) (by decide +kernel)
theorem cl_X7_70 : Cond.classLink RX7 70 "[I" ∈ zT := zT_in 879 (by decide +kernel) (by decide +kernel)
theorem cl_L_40 : Cond.classLink RL 40 RJ4 ∈ zT := zT_in 883 (by decide +kernel) (by decide +kernel)
theorem cl_J4_18 : Cond.classLink RJ4 18 RJ0 ∈ zT := zT_in 896 (by decide +kernel) (by decide +kernel)
theorem cl_Jx4a65c_267 : Cond.classLink RJx4a65c 267 RJx35411 ∈ zT := zT_in 1081 (by decide +kernel) (by decide +kernel)
theorem cl_L_84 : Cond.classLink RL 84 "[I" ∈ zT := zT_in 1138 (by decide +kernel) (by decide +kernel)
theorem qo_X7_1 : Cond.methodLink RX7 1 Lib.objectInit ∈ zT := zT_in 587 (by decide +kernel) (by decide +kernel)
theorem qo_Jxa1e45_1 : Cond.methodLink RJxa1e45 1 Lib.objectInit ∈ zT := zT_in 599 (by decide +kernel) (by decide +kernel)
theorem qo_J5_3 : Cond.methodLink RJ5 3 Lib.objectInit ∈ zT := zT_in 653 (by decide +kernel) (by decide +kernel)
theorem q_J7_310 : Cond.methodLink RJ7 310 ⟨"[B", "clone", "()Ljava/lang/Object;"⟩ ∈ zT := zT_in 718 (by decide +kernel) (by decide +kernel)
theorem q_X7_58 : Cond.methodLink RX7 58 ⟨RJxbd725, "add", "(Ljava/lang/Object;)Z"⟩ ∈ zT := zT_in 809 (by decide +kernel) (by decide +kernel)
theorem q_J7_86 : Cond.methodLink RJ7 86 ⟨"java/lang/Object", "getClass", "()Ljava/lang/Class;"⟩ ∈ zT := zT_in 834 (by decide +kernel) (by decide +kernel)
theorem q_X7_66 : Cond.methodLink RX7 66 ⟨RJxbd725, "get", "(I)Ljava/lang/Object;"⟩ ∈ zT := zT_in 863 (by decide +kernel) (by decide +kernel)
theorem qo_J0_1 : Cond.methodLink RJ0 1 Lib.objectInit ∈ zT := zT_in 904 (by decide +kernel) (by decide +kernel)
theorem q_X7_116 : Cond.methodLink RX7 116 ⟨RJxbd725, "size", "()I"⟩ ∈ zT := zT_in 960 (by decide +kernel) (by decide +kernel)
theorem q_X7_99 : Cond.methodLink RX7 99 ⟨RJxbd725, "iterator", "()Ljava/util/Iterator;"⟩ ∈ zT := zT_in 1073 (by decide +kernel) (by decide +kernel)
theorem qo_Jx35411_7 : Cond.methodLink RJx35411 7 Lib.objectInit ∈ zT := zT_in 1086 (by decide +kernel) (by decide +kernel)
theorem q_X7_103 : Cond.methodLink RX7 103 ⟨RJx4d0d8, "hasNext", "()Z"⟩ ∈ zT := zT_in 1101 (by decide +kernel) (by decide +kernel)
theorem q_X7_109 : Cond.methodLink RX7 109 ⟨RJx4d0d8, "next", "()Ljava/lang/Object;"⟩ ∈ zT := zT_in 1111 (by decide +kernel) (by decide +kernel)
theorem q_L_143 : Cond.methodLink RL 143 ⟨RJxbd725, "isEmpty", "()Z"⟩ ∈ zT := zT_in 1126 (by decide +kernel) (by decide +kernel)
theorem q_L_89 : Cond.methodLink RL 89 ⟨RJxbd725, "size", "()I"⟩ ∈ zT := zT_in 1135 (by decide +kernel) (by decide +kernel)
theorem q_L_92 : Cond.methodLink RL 92 ⟨RJxbd725, "get", "(I)Ljava/lang/Object;"⟩ ∈ zT := zT_in 1137 (by decide +kernel) (by decide +kernel)
theorem q_L_166 : Cond.methodLink RL 166 ⟨RJxbd725, "add", "(Ljava/lang/Object;)Z"⟩ ∈ zT := zT_in 1253 (by decide +kernel) (by decide +kernel)
theorem q_L_69 : Cond.methodLink RL 69 ⟨RJxbd725, "iterator", "()Ljava/util/Iterator;"⟩ ∈ zT := zT_in 1481 (by decide +kernel) (by decide +kernel)
theorem q_L_75 : Cond.methodLink RL 75 ⟨RJx4d0d8, "hasNext", "()Z"⟩ ∈ zT := zT_in 1483 (by decide +kernel) (by decide +kernel)
theorem q_L_80 : Cond.methodLink RL 80 ⟨RJx4d0d8, "next", "()Ljava/lang/Object;"⟩ ∈ zT := zT_in 1485 (by decide +kernel) (by decide +kernel)
theorem qi_obj : Cond.instanceMethod Lib.objectInit ∈ zT := zT_in 64 (by decide +kernel) (by decide +kernel)
theorem qc_obj : Cond.code Lib.objectInit ⟨#[0xb1]⟩ 1 none ∈ zT := zT_in 65 (by decide +kernel) (by decide +kernel)
theorem nl_X7_41 : (RX7, 41, yL_pick, "BambooBlindLaw") ∈ zNestL := by decide +kernel
theorem nl_X7_72 : (RX7, 72, yL_told, "BambooBlindLaw") ∈ zNestL := by decide +kernel
theorem su_Jx4a65c_Jxc12de : Cond.superclass RJx4a65c RJxc12de ∈ zT := zT_in 616 (by decide +kernel) (by decide +kernel)
theorem su_J4_J5 : Cond.superclass RJ4 RJ5 ∈ zT := zT_in 674 (by decide +kernel) (by decide +kernel)
theorem sm_J5_isLatin1_aae02 : Cond.sameMethod yJ5_isLatin1_aae02.cls yJ5_isLatin1_aae02.cls yJ5_isLatin1_aae02.name yJ5_isLatin1_aae02.desc ∈ zT := zT_in 729 (by decide +kernel) (by decide +kernel)
theorem vs_J5_isLatin1_aae02 : Cond.selects RJ4 yJ5_isLatin1_aae02 yJ5_isLatin1_aae02 ∈ zT := zT_in 730 (by decide +kernel) (by decide +kernel)
theorem vi_Jx4a65c_add_9ea2d : Cond.selects RJx4a65c ⟨RJxbd725, "add", "(Ljava/lang/Object;)Z"⟩ yJx4a65c_add_9ea2d ∈ zT := zT_in 813 (by decide +kernel) (by decide +kernel)
theorem vi_Jx4a65c_get_915e3 : Cond.selects RJx4a65c ⟨RJxbd725, "get", "(I)Ljava/lang/Object;"⟩ yJx4a65c_get_915e3 ∈ zT := zT_in 866 (by decide +kernel) (by decide +kernel)
theorem sm_J5_getValue_6d5f1 : Cond.sameMethod yJ5_getValue_6d5f1.cls yJ5_getValue_6d5f1.cls yJ5_getValue_6d5f1.name yJ5_getValue_6d5f1.desc ∈ zT := zT_in 907 (by decide +kernel) (by decide +kernel)
theorem vs_J5_getValue_6d5f1 : Cond.selects RJ4 yJ5_getValue_6d5f1 yJ5_getValue_6d5f1 ∈ zT := zT_in 908 (by decide +kernel) (by decide +kernel)
theorem sm_J5_length_8abf5 : Cond.sameMethod yJ5_length_8abf5.cls yJ5_length_8abf5.cls yJ5_length_8abf5.name yJ5_length_8abf5.desc ∈ zT := zT_in 912 (by decide +kernel) (by decide +kernel)
theorem vo_J4_length_8abf5 : Cond.selects RJ4 ⟨RJ5, "length", "()I"⟩ yJ4_length_8abf5 ∈ zT := zT_in 913 (by decide +kernel) (by decide +kernel)
theorem vi_Jx4a65c_size_8abf5 : Cond.selects RJx4a65c ⟨RJxbd725, "size", "()I"⟩ yJx4a65c_size_8abf5 ∈ zT := zT_in 963 (by decide +kernel) (by decide +kernel)
theorem vi_Jx4a65c_iterator_32c93 : Cond.selects RJx4a65c ⟨RJxbd725, "iterator", "()Ljava/util/Iterator;"⟩ yJx4a65c_iterator_32c93 ∈ zT := zT_in 1076 (by decide +kernel) (by decide +kernel)
theorem vi_Jx35411_hasNext_aae02 : Cond.selects RJx35411 ⟨RJx4d0d8, "hasNext", "()Z"⟩ yJx35411_hasNext_aae02 ∈ zT := zT_in 1105 (by decide +kernel) (by decide +kernel)
theorem vi_Jx35411_next_0502b : Cond.selects RJx35411 ⟨RJx4d0d8, "next", "()Ljava/lang/Object;"⟩ yJx35411_next_0502b ∈ zT := zT_in 1114 (by decide +kernel) (by decide +kernel)
theorem vi_Jx4a65c_isEmpty_aae02 : Cond.selects RJx4a65c ⟨RJxbd725, "isEmpty", "()Z"⟩ yJx4a65c_isEmpty_aae02 ∈ zT := zT_in 1129 (by decide +kernel) (by decide +kernel)
theorem sm_J5_append_cf1ce : Cond.sameMethod yJ5_append_cf1ce.cls yJ5_append_cf1ce.cls yJ5_append_cf1ce.name yJ5_append_cf1ce.desc ∈ zT := zT_in 1510 (by decide +kernel) (by decide +kernel)
theorem sm_J5_appendNull_278bc : Cond.sameMethod yJ5_appendNull_278bc.cls yJ5_appendNull_278bc.cls yJ5_appendNull_278bc.name yJ5_appendNull_278bc.desc ∈ zT := zT_in 1511 (by decide +kernel) (by decide +kernel)
theorem sm_J5_ensureCapacityInternal_d00df : Cond.sameMethod yJ5_ensureCapacityInternal_d00df.cls yJ5_ensureCapacityInternal_d00df.cls yJ5_ensureCapacityInternal_d00df.name yJ5_ensureCapacityInternal_d00df.desc ∈ zT := zT_in 1512 (by decide +kernel) (by decide +kernel)
theorem sm_J5_newCapacity_0f7a4 : Cond.sameMethod yJ5_newCapacity_0f7a4.cls yJ5_newCapacity_0f7a4.cls yJ5_newCapacity_0f7a4.name yJ5_newCapacity_0f7a4.desc ∈ zT := zT_in 1513 (by decide +kernel) (by decide +kernel)
theorem sm_J5_putStringAt_47b60 : Cond.sameMethod yJ5_putStringAt_47b60.cls yJ5_putStringAt_47b60.cls yJ5_putStringAt_47b60.name yJ5_putStringAt_47b60.desc ∈ zT := zT_in 1514 (by decide +kernel) (by decide +kernel)
theorem sm_J5_inflateIfNeededFor_a7421 : Cond.sameMethod yJ5_inflateIfNeededFor_a7421.cls yJ5_inflateIfNeededFor_a7421.cls yJ5_inflateIfNeededFor_a7421.name yJ5_inflateIfNeededFor_a7421.desc ∈ zT := zT_in 1515 (by decide +kernel) (by decide +kernel)
theorem sm_J5_inflate_da8c8 : Cond.sameMethod yJ5_inflate_da8c8.cls yJ5_inflate_da8c8.cls yJ5_inflate_da8c8.name yJ5_inflate_da8c8.desc ∈ zT := zT_in 1516 (by decide +kernel) (by decide +kernel)
theorem sm_J5_append_c97b9 : Cond.sameMethod yJ5_append_c97b9.cls yJ5_append_c97b9.cls yJ5_append_c97b9.name yJ5_append_c97b9.desc ∈ zT := zT_in 1517 (by decide +kernel) (by decide +kernel)
theorem vs_J5_ensureCapacityInternal_d00df : Cond.selects RJ4 yJ5_ensureCapacityInternal_d00df yJ5_ensureCapacityInternal_d00df ∈ zT := List.mem_append_right _ (List.mem_of_getElem? (i := 0) rfl)
theorem vs_J5_newCapacity_0f7a4 : Cond.selects RJ4 yJ5_newCapacity_0f7a4 yJ5_newCapacity_0f7a4 ∈ zT := List.mem_append_right _ (List.mem_of_getElem? (i := 1) rfl)
theorem vs_J5_putStringAt_47b60 : Cond.selects RJ4 yJ5_putStringAt_47b60 yJ5_putStringAt_47b60 ∈ zT := List.mem_append_right _ (List.mem_of_getElem? (i := 2) rfl)
theorem vs_J5_inflateIfNeededFor_a7421 : Cond.selects RJ4 yJ5_inflateIfNeededFor_a7421 yJ5_inflateIfNeededFor_a7421 ∈ zT := List.mem_append_right _ (List.mem_of_getElem? (i := 3) rfl)
theorem qc_J5_length : Cond.code ⟨RJ5, "length", "()I"⟩ cJ5_length_8abf5 1 (some .int) ∈ zT := zT_in 917 (by decide +kernel) (by decide +kernel)
theorem sm_J5_length : Cond.sameMethod RJ5 RJ5 "length" "()I" ∈ zT := zT_in 912 (by decide +kernel) (by decide +kernel)
theorem ve_getClass : Cond.selects "[Ljava/lang/Object;" ⟨"java/lang/Object", "getClass", "()Ljava/lang/Class;"⟩ ⟨"java/lang/Object", "getClass", "()Ljava/lang/Class;"⟩ ∈ zT := zT_in 1535 (by decide +kernel) (by decide +kernel)
theorem ie_getClass : Cond.instanceMethod ⟨"java/lang/Object", "getClass", "()Ljava/lang/Class;"⟩ ∈ zT := zT_in 835 (by decide +kernel) (by decide +kernel)
theorem ne_getClass : Cond.native ⟨"java/lang/Object", "getClass", "()Ljava/lang/Class;"⟩ ∈ zT := zT_in 852 (by decide +kernel) (by decide +kernel)
theorem ve_clone : Cond.selects "[B" ⟨"[B", "clone", "()Ljava/lang/Object;"⟩ ⟨"java/lang/Object", "clone", "()Ljava/lang/Object;"⟩ ∈ zT := zT_in 722 (by decide +kernel) (by decide +kernel)
theorem ie_clone : Cond.instanceMethod ⟨"java/lang/Object", "clone", "()Ljava/lang/Object;"⟩ ∈ zT := zT_in 721 (by decide +kernel) (by decide +kernel)
theorem ne_clone : Cond.native ⟨"java/lang/Object", "clone", "()Ljava/lang/Object;"⟩ ∈ zT := zT_in 720 (by decide +kernel) (by decide +kernel)
theorem sm_clone : Cond.sameMethod "[B" "java/lang/Object" "clone" "()Ljava/lang/Object;" ∈ zT := zT_in 719 (by decide +kernel) (by decide +kernel)
theorem zinf_0 : ∀ w ∈ u_ws RJ0 TJ0 4, w ∈ zT := fun w hw => by
  obtain ⟨k, hk, rfl⟩ := List.mem_map.mp hw
  have hk := List.mem_range.mp hk
  match k, hk with
  | 0, _ => exact zT_in 940 (by decide +kernel) (by decide +kernel)
  | 1, _ => exact zT_in 942 (by decide +kernel) (by decide +kernel)
  | 2, _ => exact zT_in 944 (by decide +kernel) (by decide +kernel)
  | 3, _ => exact zT_in 946 (by decide +kernel) (by decide +kernel)
  | n + 4, h => exact absurd h (by omega)
theorem mk_RJ0 : Cond.instantiable RJ0 4 ∈ zT := zT_in 897 (by decide +kernel) (by decide +kernel)
theorem ini_RJ0 : Cond.initialized RJ0 ∈ zT := zT_in 33 (by decide +kernel) (by decide +kernel)
theorem zinf_1 : ∀ w ∈ u_ws RJ4 TJ4 4, w ∈ zT := fun w hw => by
  obtain ⟨k, hk, rfl⟩ := List.mem_map.mp hw
  have hk := List.mem_range.mp hk
  match k, hk with
  | 0, _ => exact zT_in 666 (by decide +kernel) (by decide +kernel)
  | 1, _ => exact zT_in 668 (by decide +kernel) (by decide +kernel)
  | 2, _ => exact zT_in 670 (by decide +kernel) (by decide +kernel)
  | 3, _ => exact zT_in 672 (by decide +kernel) (by decide +kernel)
  | n + 4, h => exact absurd h (by omega)
theorem mk_RJ4 : Cond.instantiable RJ4 4 ∈ zT := zT_in 646 (by decide +kernel) (by decide +kernel)
theorem ini_RJ4 : Cond.initialized RJ4 ∈ zT := zT_in 32 (by decide +kernel) (by decide +kernel)
theorem zinf_2 : ∀ w ∈ u_ws RJx35411 TJx35411 4, w ∈ zT := fun w hw => by
  obtain ⟨k, hk, rfl⟩ := List.mem_map.mp hw
  have hk := List.mem_range.mp hk
  match k, hk with
  | 0, _ => exact zT_in 1091 (by decide +kernel) (by decide +kernel)
  | 1, _ => exact zT_in 1093 (by decide +kernel) (by decide +kernel)
  | 2, _ => exact zT_in 1095 (by decide +kernel) (by decide +kernel)
  | 3, _ => exact zT_in 1097 (by decide +kernel) (by decide +kernel)
  | n + 4, h => exact absurd h (by omega)
theorem mk_RJx35411 : Cond.instantiable RJx35411 4 ∈ zT := zT_in 1082 (by decide +kernel) (by decide +kernel)
theorem ini_RJx35411 : Cond.initialized RJx35411 ∈ zT := zT_in 57 (by decide +kernel) (by decide +kernel)
theorem zinf_3 : ∀ w ∈ u_ws RJx4a65c TJx4a65c 3, w ∈ zT := fun w hw => by
  obtain ⟨k, hk, rfl⟩ := List.mem_map.mp hw
  have hk := List.mem_range.mp hk
  match k, hk with
  | 0, _ => exact zT_in 614 (by decide +kernel) (by decide +kernel)
  | 1, _ => exact zT_in 610 (by decide +kernel) (by decide +kernel)
  | 2, _ => exact zT_in 612 (by decide +kernel) (by decide +kernel)
  | n + 3, h => exact absurd h (by omega)
theorem mk_RJx4a65c : Cond.instantiable RJx4a65c 3 ∈ zT := zT_in 589 (by decide +kernel) (by decide +kernel)
theorem ini_RJx4a65c : Cond.initialized RJx4a65c ∈ zT := zT_in 30 (by decide +kernel) (by decide +kernel)
theorem zinf_11 : ∀ w ∈ u_ws RX7 TX7 6, w ∈ zT := fun w hw => by
  obtain ⟨k, hk, rfl⟩ := List.mem_map.mp hw
  have hk := List.mem_range.mp hk
  match k, hk with
  | 0, _ => exact zT_in 632 (by decide +kernel) (by decide +kernel)
  | 1, _ => exact zT_in 634 (by decide +kernel) (by decide +kernel)
  | 2, _ => exact zT_in 636 (by decide +kernel) (by decide +kernel)
  | 3, _ => exact zT_in 638 (by decide +kernel) (by decide +kernel)
  | 4, _ => exact zT_in 640 (by decide +kernel) (by decide +kernel)
  | 5, _ => exact zT_in 642 (by decide +kernel) (by decide +kernel)
  | n + 6, h => exact absurd h (by omega)
theorem mk_RX7 : Cond.instantiable RX7 6 ∈ zT := zT_in 583 (by decide +kernel) (by decide +kernel)
theorem ini_RX7 : Cond.initialized RX7 ∈ zT := zT_in 27 (by decide +kernel) (by decide +kernel)
theorem ac_int : Cond.arrayClass .int ∈ zT := zT_in 181 (by decide +kernel) (by decide +kernel)
theorem ac_byte : Cond.arrayClass .byte ∈ zT := zT_in 98 (by decide +kernel) (by decide +kernel)
theorem sf_mod : Cond.sameField "java/util/ArrayList" "java/util/AbstractList" "modCount" "I" ∈ zT := zT_in 608 (by decide +kernel) (by decide +kernel)
theorem qs_J0_38 : Cond.fieldLink RJ0 38 RJ0 "COMPACT_STRINGS" "Z" ∈ zT := zT_in 379 (by decide +kernel) (by decide +kernel)
theorem qs_J0_1053 : Cond.fieldLink RJ0 1053 RJ3 "SIOOBE_FORMATTER" "Ljava/util/function/BiFunction;" ∈ zT := zT_in 395 (by decide +kernel) (by decide +kernel)
theorem qs_Jx4a65c_39 : Cond.fieldLink RJx4a65c 39 RJx4a65c "DEFAULTCAPACITY_EMPTY_ELEMENTDATA" "[Ljava/lang/Object;" ∈ zT := zT_in 600 (by decide +kernel) (by decide +kernel)
theorem qs_J5_18 : Cond.fieldLink RJ5 18 RJ0 "COMPACT_STRINGS" "Z" ∈ zT := zT_in 654 (by decide +kernel) (by decide +kernel)
theorem qs_J6_83 : Cond.fieldLink RJ6 83 RJ6 "DigitOnes" "[B" ∈ zT := zT_in 795 (by decide +kernel) (by decide +kernel)
theorem qs_J6_87 : Cond.fieldLink RJ6 87 RJ6 "DigitTens" "[B" ∈ zT := zT_in 797 (by decide +kernel) (by decide +kernel)
theorem qs_J2_403 : Cond.fieldLink RJ2 403 RJ6 "DigitOnes" "[B" ∈ zT := zT_in 805 (by decide +kernel) (by decide +kernel)
theorem qs_J2_407 : Cond.fieldLink RJ2 407 RJ6 "DigitTens" "[B" ∈ zT := zT_in 806 (by decide +kernel) (by decide +kernel)
section FF
variable {G : fG} {l : Launch} {mn : MethodName} {cc : ByteArray} {nL : Nat} {rt : Option FieldType} {dp : Nat} {hh : List (Nat × Nat × Nat × Nat)} {kb : Nat} {Q : Option Value → fS → Prop} {pc : Nat} {ls : List (Nat × Value)} {rest : List Value} {o : Option zS} {ω : fW}
theorem ql_Jx4a65c_9 : Cond.fieldLink RJx4a65c 9 RJx4a65c (TJx4a65c 1).2.1 (TJx4a65c 1).2.2.1 ∈ zT := zT_in 602 (by decide +kernel) (by decide +kernel)
theorem gf_Jx4a65c_9 {a : Nat} {fs : List Value} {v : Value} (hm : mn.cls = RJx4a65c) (ha : ω a = some (.inr (3, fs))) (hv : fs[1]? = some v) (hdg : decode cc pc = .ok (.getfield 9, 3)) (z : FV G l (mn, cc, nL, rt, dp, hh) kb Q (pc + 3) ls (v :: rest) (o, ω)) : FV G l (mn, cc, nL, rt, dp, hh) kb Q pc ls (.ref a :: rest) (o, ω) :=
  f_get (ci := 3) (kx := 1) (N := 3) (C := RJx4a65c) (ref := RJx4a65c) (T := TJx4a65c) rfl (by decide) zinf_3 (by rw [hm]; exact ql_Jx4a65c_9) (fun _ _ _ _ h => h) ha hv hdg z
theorem pf_Jx4a65c_9 {a : Nat} {fs : List Value} {v : Nat} (hm : mn.cls = RJx4a65c) (ha : ω a = some (.inr (3, fs))) (hlen : 1 < fs.length) (hdg : decode cc pc = .ok (.putfield 9, 3)) (z : FV G l (mn, cc, nL, rt, dp, hh) kb Q (pc + 3) ls rest (o, fup ω a (.inr (3, fs.set 1 (.ref v))))) : FV G l (mn, cc, nL, rt, dp, hh) kb Q pc ls (.ref v :: .ref a :: rest) (o, ω) :=
  f_put (ci := 3) (kx := 1) (N := 3) (C := RJx4a65c) (ref := RJx4a65c) (T := TJx4a65c) (ty0 := tyJx4a65c) rfl (by decide) zinf_3 tyJx4a65c_ok nmJx4a65c rfl rfl rfl (by rw [hm]; exact ql_Jx4a65c_9) (fun _ _ _ _ h => h) ha hlen hdg z
theorem ql_Jx35411_37 : Cond.fieldLink RJx35411 37 RJx4a65c (TJx4a65c 1).2.1 (TJx4a65c 1).2.2.1 ∈ zT := zT_in 603 (by decide +kernel) (by decide +kernel)
theorem gf_Jx35411_37 {a : Nat} {fs : List Value} {v : Value} (hm : mn.cls = RJx35411) (ha : ω a = some (.inr (3, fs))) (hv : fs[1]? = some v) (hdg : decode cc pc = .ok (.getfield 37, 3)) (z : FV G l (mn, cc, nL, rt, dp, hh) kb Q (pc + 3) ls (v :: rest) (o, ω)) : FV G l (mn, cc, nL, rt, dp, hh) kb Q pc ls (.ref a :: rest) (o, ω) :=
  f_get (ci := 3) (kx := 1) (N := 3) (C := RJx4a65c) (ref := RJx4a65c) (T := TJx4a65c) rfl (by decide) zinf_3 (by rw [hm]; exact ql_Jx35411_37) (fun _ _ _ _ h => h) ha hv hdg z
theorem pf_Jx35411_37 {a : Nat} {fs : List Value} {v : Nat} (hm : mn.cls = RJx35411) (ha : ω a = some (.inr (3, fs))) (hlen : 1 < fs.length) (hdg : decode cc pc = .ok (.putfield 37, 3)) (z : FV G l (mn, cc, nL, rt, dp, hh) kb Q (pc + 3) ls rest (o, fup ω a (.inr (3, fs.set 1 (.ref v))))) : FV G l (mn, cc, nL, rt, dp, hh) kb Q pc ls (.ref v :: .ref a :: rest) (o, ω) :=
  f_put (ci := 3) (kx := 1) (N := 3) (C := RJx4a65c) (ref := RJx4a65c) (T := TJx4a65c) (ty0 := tyJx4a65c) rfl (by decide) zinf_3 tyJx4a65c_ok nmJx4a65c rfl rfl rfl (by rw [hm]; exact ql_Jx35411_37) (fun _ _ _ _ h => h) ha hlen hdg z
theorem ql_Jx4a65c_48 : Cond.fieldLink RJx4a65c 48 RJx4a65c (TJx4a65c 2).2.1 (TJx4a65c 2).2.2.1 ∈ zT := zT_in 605 (by decide +kernel) (by decide +kernel)
theorem gf_Jx4a65c_48 {a : Nat} {fs : List Value} {v : Value} (hm : mn.cls = RJx4a65c) (ha : ω a = some (.inr (3, fs))) (hv : fs[2]? = some v) (hdg : decode cc pc = .ok (.getfield 48, 3)) (z : FV G l (mn, cc, nL, rt, dp, hh) kb Q (pc + 3) ls (v :: rest) (o, ω)) : FV G l (mn, cc, nL, rt, dp, hh) kb Q pc ls (.ref a :: rest) (o, ω) :=
  f_get (ci := 3) (kx := 2) (N := 3) (C := RJx4a65c) (ref := RJx4a65c) (T := TJx4a65c) rfl (by decide) zinf_3 (by rw [hm]; exact ql_Jx4a65c_48) (fun _ _ _ _ h => h) ha hv hdg z
theorem pf_Jx4a65c_48 {a : Nat} {fs : List Value} {v : Int32} (hm : mn.cls = RJx4a65c) (ha : ω a = some (.inr (3, fs))) (hlen : 2 < fs.length) (hdg : decode cc pc = .ok (.putfield 48, 3)) (z : FV G l (mn, cc, nL, rt, dp, hh) kb Q (pc + 3) ls rest (o, fup ω a (.inr (3, fs.set 2 (.int v))))) : FV G l (mn, cc, nL, rt, dp, hh) kb Q pc ls (.int v :: .ref a :: rest) (o, ω) :=
  f_put (ci := 3) (kx := 2) (N := 3) (C := RJx4a65c) (ref := RJx4a65c) (T := TJx4a65c) (ty0 := tyJx4a65c) rfl (by decide) zinf_3 tyJx4a65c_ok nmJx4a65c rfl rfl rfl (by rw [hm]; exact ql_Jx4a65c_48) (fun _ _ _ _ h => h) ha hlen hdg z
theorem ql_Jxc12de_7 : Cond.fieldLink RJxc12de 7 RJxc12de (TJx4a65c 0).2.1 (TJx4a65c 0).2.2.1 ∈ zT := zT_in 606 (by decide +kernel) (by decide +kernel)
theorem gf_Jxc12de_7 {a : Nat} {fs : List Value} {v : Value} (hm : mn.cls = RJxc12de) (ha : ω a = some (.inr (3, fs))) (hv : fs[0]? = some v) (hdg : decode cc pc = .ok (.getfield 7, 3)) (z : FV G l (mn, cc, nL, rt, dp, hh) kb Q (pc + 3) ls (v :: rest) (o, ω)) : FV G l (mn, cc, nL, rt, dp, hh) kb Q pc ls (.ref a :: rest) (o, ω) :=
  f_get (ci := 3) (kx := 0) (N := 3) (C := RJx4a65c) (ref := RJxc12de) (T := TJx4a65c) rfl (by decide) zinf_3 (by rw [hm]; exact ql_Jxc12de_7) (fun _ _ _ _ h => h) ha hv hdg z
theorem pf_Jxc12de_7 {a : Nat} {fs : List Value} {v : Int32} (hm : mn.cls = RJxc12de) (ha : ω a = some (.inr (3, fs))) (hlen : 0 < fs.length) (hdg : decode cc pc = .ok (.putfield 7, 3)) (z : FV G l (mn, cc, nL, rt, dp, hh) kb Q (pc + 3) ls rest (o, fup ω a (.inr (3, fs.set 0 (.int v))))) : FV G l (mn, cc, nL, rt, dp, hh) kb Q pc ls (.int v :: .ref a :: rest) (o, ω) :=
  f_put (ci := 3) (kx := 0) (N := 3) (C := RJx4a65c) (ref := RJxc12de) (T := TJx4a65c) (ty0 := tyJx4a65c) rfl (by decide) zinf_3 tyJx4a65c_ok nmJx4a65c rfl rfl rfl (by rw [hm]; exact ql_Jxc12de_7) (fun _ _ _ _ h => h) ha hlen hdg z
theorem ql_Jx35411_17 : Cond.fieldLink RJx35411 17 RJx4a65c (TJx4a65c 0).2.1 (TJx4a65c 0).2.2.1 ∈ zT := zT_in 607 (by decide +kernel) (by decide +kernel)
theorem gf_Jx35411_17 {a : Nat} {fs : List Value} {v : Value} (hm : mn.cls = RJx35411) (ha : ω a = some (.inr (3, fs))) (hv : fs[0]? = some v) (hdg : decode cc pc = .ok (.getfield 17, 3)) (z : FV G l (mn, cc, nL, rt, dp, hh) kb Q (pc + 3) ls (v :: rest) (o, ω)) : FV G l (mn, cc, nL, rt, dp, hh) kb Q pc ls (.ref a :: rest) (o, ω) :=
  f_get (ci := 3) (kx := 0) (N := 3) (C := RJx4a65c) (ref := RJx4a65c) (T := TJx4a65c) rfl (by decide) zinf_3 (by rw [hm]; exact ql_Jx35411_17) (fun s args hw x h => u_same (args := args) (hw _ sf_mod) x h) ha hv hdg z
theorem pf_Jx35411_17 {a : Nat} {fs : List Value} {v : Int32} (hm : mn.cls = RJx35411) (ha : ω a = some (.inr (3, fs))) (hlen : 0 < fs.length) (hdg : decode cc pc = .ok (.putfield 17, 3)) (z : FV G l (mn, cc, nL, rt, dp, hh) kb Q (pc + 3) ls rest (o, fup ω a (.inr (3, fs.set 0 (.int v))))) : FV G l (mn, cc, nL, rt, dp, hh) kb Q pc ls (.int v :: .ref a :: rest) (o, ω) :=
  f_put (ci := 3) (kx := 0) (N := 3) (C := RJx4a65c) (ref := RJx4a65c) (T := TJx4a65c) (ty0 := tyJx4a65c) rfl (by decide) zinf_3 tyJx4a65c_ok nmJx4a65c rfl rfl rfl (by rw [hm]; exact ql_Jx35411_17) (fun s args hw x h => u_same (args := args) (hw _ sf_mod) x h) ha hlen hdg z
theorem ql_Jx4a65c_63 : Cond.fieldLink RJx4a65c 63 RJx4a65c (TJx4a65c 0).2.1 (TJx4a65c 0).2.2.1 ∈ zT := zT_in 609 (by decide +kernel) (by decide +kernel)
theorem gf_Jx4a65c_63 {a : Nat} {fs : List Value} {v : Value} (hm : mn.cls = RJx4a65c) (ha : ω a = some (.inr (3, fs))) (hv : fs[0]? = some v) (hdg : decode cc pc = .ok (.getfield 63, 3)) (z : FV G l (mn, cc, nL, rt, dp, hh) kb Q (pc + 3) ls (v :: rest) (o, ω)) : FV G l (mn, cc, nL, rt, dp, hh) kb Q pc ls (.ref a :: rest) (o, ω) :=
  f_get (ci := 3) (kx := 0) (N := 3) (C := RJx4a65c) (ref := RJx4a65c) (T := TJx4a65c) rfl (by decide) zinf_3 (by rw [hm]; exact ql_Jx4a65c_63) (fun s args hw x h => u_same (args := args) (hw _ sf_mod) x h) ha hv hdg z
theorem pf_Jx4a65c_63 {a : Nat} {fs : List Value} {v : Int32} (hm : mn.cls = RJx4a65c) (ha : ω a = some (.inr (3, fs))) (hlen : 0 < fs.length) (hdg : decode cc pc = .ok (.putfield 63, 3)) (z : FV G l (mn, cc, nL, rt, dp, hh) kb Q (pc + 3) ls rest (o, fup ω a (.inr (3, fs.set 0 (.int v))))) : FV G l (mn, cc, nL, rt, dp, hh) kb Q pc ls (.int v :: .ref a :: rest) (o, ω) :=
  f_put (ci := 3) (kx := 0) (N := 3) (C := RJx4a65c) (ref := RJx4a65c) (T := TJx4a65c) (ty0 := tyJx4a65c) rfl (by decide) zinf_3 tyJx4a65c_ok nmJx4a65c rfl rfl rfl (by rw [hm]; exact ql_Jx4a65c_63) (fun s args hw x h => u_same (args := args) (hw _ sf_mod) x h) ha hlen hdg z
theorem ql_X7_7 : Cond.fieldLink RX7 7 RX7 (TX7 0).2.1 (TX7 0).2.2.1 ∈ zT := zT_in 620 (by decide +kernel) (by decide +kernel)
theorem gf_X7_7 {a : Nat} {fs : List Value} {v : Value} (hm : mn.cls = RX7) (ha : ω a = some (.inr (11, fs))) (hv : fs[0]? = some v) (hdg : decode cc pc = .ok (.getfield 7, 3)) (z : FV G l (mn, cc, nL, rt, dp, hh) kb Q (pc + 3) ls (v :: rest) (o, ω)) : FV G l (mn, cc, nL, rt, dp, hh) kb Q pc ls (.ref a :: rest) (o, ω) :=
  f_get (ci := 11) (kx := 0) (N := 6) (C := RX7) (ref := RX7) (T := TX7) rfl (by decide) zinf_11 (by rw [hm]; exact ql_X7_7) (fun _ _ _ _ h => h) ha hv hdg z
theorem pf_X7_7 {a : Nat} {fs : List Value} {v : Int32} (hm : mn.cls = RX7) (ha : ω a = some (.inr (11, fs))) (hlen : 0 < fs.length) (hdg : decode cc pc = .ok (.putfield 7, 3)) (z : FV G l (mn, cc, nL, rt, dp, hh) kb Q (pc + 3) ls rest (o, fup ω a (.inr (11, fs.set 0 (.int v))))) : FV G l (mn, cc, nL, rt, dp, hh) kb Q pc ls (.int v :: .ref a :: rest) (o, ω) :=
  f_put (ci := 11) (kx := 0) (N := 6) (C := RX7) (ref := RX7) (T := TX7) (ty0 := tyX7) rfl (by decide) zinf_11 tyX7_ok nmX7 rfl rfl rfl (by rw [hm]; exact ql_X7_7) (fun _ _ _ _ h => h) ha hlen hdg z
theorem ql_L_113 : Cond.fieldLink RL 113 RX7 (TX7 0).2.1 (TX7 0).2.2.1 ∈ zT := zT_in 621 (by decide +kernel) (by decide +kernel)
theorem gf_L_113 {a : Nat} {fs : List Value} {v : Value} (hm : mn.cls = RL) (ha : ω a = some (.inr (11, fs))) (hv : fs[0]? = some v) (hdg : decode cc pc = .ok (.getfield 113, 3)) (z : FV G l (mn, cc, nL, rt, dp, hh) kb Q (pc + 3) ls (v :: rest) (o, ω)) : FV G l (mn, cc, nL, rt, dp, hh) kb Q pc ls (.ref a :: rest) (o, ω) :=
  f_get (ci := 11) (kx := 0) (N := 6) (C := RX7) (ref := RX7) (T := TX7) rfl (by decide) zinf_11 (by rw [hm]; exact ql_L_113) (fun _ _ _ _ h => h) ha hv hdg z
theorem pf_L_113 {a : Nat} {fs : List Value} {v : Int32} (hm : mn.cls = RL) (ha : ω a = some (.inr (11, fs))) (hlen : 0 < fs.length) (hdg : decode cc pc = .ok (.putfield 113, 3)) (z : FV G l (mn, cc, nL, rt, dp, hh) kb Q (pc + 3) ls rest (o, fup ω a (.inr (11, fs.set 0 (.int v))))) : FV G l (mn, cc, nL, rt, dp, hh) kb Q pc ls (.int v :: .ref a :: rest) (o, ω) :=
  f_put (ci := 11) (kx := 0) (N := 6) (C := RX7) (ref := RX7) (T := TX7) (ty0 := tyX7) rfl (by decide) zinf_11 tyX7_ok nmX7 rfl rfl rfl (by rw [hm]; exact ql_L_113) (fun _ _ _ _ h => h) ha hlen hdg z
theorem ql_X7_13 : Cond.fieldLink RX7 13 RX7 (TX7 1).2.1 (TX7 1).2.2.1 ∈ zT := zT_in 622 (by decide +kernel) (by decide +kernel)
theorem gf_X7_13 {a : Nat} {fs : List Value} {v : Value} (hm : mn.cls = RX7) (ha : ω a = some (.inr (11, fs))) (hv : fs[1]? = some v) (hdg : decode cc pc = .ok (.getfield 13, 3)) (z : FV G l (mn, cc, nL, rt, dp, hh) kb Q (pc + 3) ls (v :: rest) (o, ω)) : FV G l (mn, cc, nL, rt, dp, hh) kb Q pc ls (.ref a :: rest) (o, ω) :=
  f_get (ci := 11) (kx := 1) (N := 6) (C := RX7) (ref := RX7) (T := TX7) rfl (by decide) zinf_11 (by rw [hm]; exact ql_X7_13) (fun _ _ _ _ h => h) ha hv hdg z
theorem pf_X7_13 {a : Nat} {fs : List Value} {v : Int32} (hm : mn.cls = RX7) (ha : ω a = some (.inr (11, fs))) (hlen : 1 < fs.length) (hdg : decode cc pc = .ok (.putfield 13, 3)) (z : FV G l (mn, cc, nL, rt, dp, hh) kb Q (pc + 3) ls rest (o, fup ω a (.inr (11, fs.set 1 (.int v))))) : FV G l (mn, cc, nL, rt, dp, hh) kb Q pc ls (.int v :: .ref a :: rest) (o, ω) :=
  f_put (ci := 11) (kx := 1) (N := 6) (C := RX7) (ref := RX7) (T := TX7) (ty0 := tyX7) rfl (by decide) zinf_11 tyX7_ok nmX7 rfl rfl rfl (by rw [hm]; exact ql_X7_13) (fun _ _ _ _ h => h) ha hlen hdg z
theorem ql_L_128 : Cond.fieldLink RL 128 RX7 (TX7 1).2.1 (TX7 1).2.2.1 ∈ zT := zT_in 623 (by decide +kernel) (by decide +kernel)
theorem gf_L_128 {a : Nat} {fs : List Value} {v : Value} (hm : mn.cls = RL) (ha : ω a = some (.inr (11, fs))) (hv : fs[1]? = some v) (hdg : decode cc pc = .ok (.getfield 128, 3)) (z : FV G l (mn, cc, nL, rt, dp, hh) kb Q (pc + 3) ls (v :: rest) (o, ω)) : FV G l (mn, cc, nL, rt, dp, hh) kb Q pc ls (.ref a :: rest) (o, ω) :=
  f_get (ci := 11) (kx := 1) (N := 6) (C := RX7) (ref := RX7) (T := TX7) rfl (by decide) zinf_11 (by rw [hm]; exact ql_L_128) (fun _ _ _ _ h => h) ha hv hdg z
theorem pf_L_128 {a : Nat} {fs : List Value} {v : Int32} (hm : mn.cls = RL) (ha : ω a = some (.inr (11, fs))) (hlen : 1 < fs.length) (hdg : decode cc pc = .ok (.putfield 128, 3)) (z : FV G l (mn, cc, nL, rt, dp, hh) kb Q (pc + 3) ls rest (o, fup ω a (.inr (11, fs.set 1 (.int v))))) : FV G l (mn, cc, nL, rt, dp, hh) kb Q pc ls (.int v :: .ref a :: rest) (o, ω) :=
  f_put (ci := 11) (kx := 1) (N := 6) (C := RX7) (ref := RX7) (T := TX7) (ty0 := tyX7) rfl (by decide) zinf_11 tyX7_ok nmX7 rfl rfl rfl (by rw [hm]; exact ql_L_128) (fun _ _ _ _ h => h) ha hlen hdg z
theorem ql_X7_19 : Cond.fieldLink RX7 19 RX7 (TX7 2).2.1 (TX7 2).2.2.1 ∈ zT := zT_in 624 (by decide +kernel) (by decide +kernel)
theorem gf_X7_19 {a : Nat} {fs : List Value} {v : Value} (hm : mn.cls = RX7) (ha : ω a = some (.inr (11, fs))) (hv : fs[2]? = some v) (hdg : decode cc pc = .ok (.getfield 19, 3)) (z : FV G l (mn, cc, nL, rt, dp, hh) kb Q (pc + 3) ls (v :: rest) (o, ω)) : FV G l (mn, cc, nL, rt, dp, hh) kb Q pc ls (.ref a :: rest) (o, ω) :=
  f_get (ci := 11) (kx := 2) (N := 6) (C := RX7) (ref := RX7) (T := TX7) rfl (by decide) zinf_11 (by rw [hm]; exact ql_X7_19) (fun _ _ _ _ h => h) ha hv hdg z
theorem pf_X7_19 {a : Nat} {fs : List Value} {v : Nat} (hm : mn.cls = RX7) (ha : ω a = some (.inr (11, fs))) (hlen : 2 < fs.length) (hdg : decode cc pc = .ok (.putfield 19, 3)) (z : FV G l (mn, cc, nL, rt, dp, hh) kb Q (pc + 3) ls rest (o, fup ω a (.inr (11, fs.set 2 (.ref v))))) : FV G l (mn, cc, nL, rt, dp, hh) kb Q pc ls (.ref v :: .ref a :: rest) (o, ω) :=
  f_put (ci := 11) (kx := 2) (N := 6) (C := RX7) (ref := RX7) (T := TX7) (ty0 := tyX7) rfl (by decide) zinf_11 tyX7_ok nmX7 rfl rfl rfl (by rw [hm]; exact ql_X7_19) (fun _ _ _ _ h => h) ha hlen hdg z
theorem ql_L_86 : Cond.fieldLink RL 86 RX7 (TX7 2).2.1 (TX7 2).2.2.1 ∈ zT := zT_in 625 (by decide +kernel) (by decide +kernel)
theorem gf_L_86 {a : Nat} {fs : List Value} {v : Value} (hm : mn.cls = RL) (ha : ω a = some (.inr (11, fs))) (hv : fs[2]? = some v) (hdg : decode cc pc = .ok (.getfield 86, 3)) (z : FV G l (mn, cc, nL, rt, dp, hh) kb Q (pc + 3) ls (v :: rest) (o, ω)) : FV G l (mn, cc, nL, rt, dp, hh) kb Q pc ls (.ref a :: rest) (o, ω) :=
  f_get (ci := 11) (kx := 2) (N := 6) (C := RX7) (ref := RX7) (T := TX7) rfl (by decide) zinf_11 (by rw [hm]; exact ql_L_86) (fun _ _ _ _ h => h) ha hv hdg z
theorem pf_L_86 {a : Nat} {fs : List Value} {v : Nat} (hm : mn.cls = RL) (ha : ω a = some (.inr (11, fs))) (hlen : 2 < fs.length) (hdg : decode cc pc = .ok (.putfield 86, 3)) (z : FV G l (mn, cc, nL, rt, dp, hh) kb Q (pc + 3) ls rest (o, fup ω a (.inr (11, fs.set 2 (.ref v))))) : FV G l (mn, cc, nL, rt, dp, hh) kb Q pc ls (.ref v :: .ref a :: rest) (o, ω) :=
  f_put (ci := 11) (kx := 2) (N := 6) (C := RX7) (ref := RX7) (T := TX7) (ty0 := tyX7) rfl (by decide) zinf_11 tyX7_ok nmX7 rfl rfl rfl (by rw [hm]; exact ql_L_86) (fun _ _ _ _ h => h) ha hlen hdg z
theorem ql_X7_23 : Cond.fieldLink RX7 23 RX7 (TX7 3).2.1 (TX7 3).2.2.1 ∈ zT := zT_in 626 (by decide +kernel) (by decide +kernel)
theorem gf_X7_23 {a : Nat} {fs : List Value} {v : Value} (hm : mn.cls = RX7) (ha : ω a = some (.inr (11, fs))) (hv : fs[3]? = some v) (hdg : decode cc pc = .ok (.getfield 23, 3)) (z : FV G l (mn, cc, nL, rt, dp, hh) kb Q (pc + 3) ls (v :: rest) (o, ω)) : FV G l (mn, cc, nL, rt, dp, hh) kb Q pc ls (.ref a :: rest) (o, ω) :=
  f_get (ci := 11) (kx := 3) (N := 6) (C := RX7) (ref := RX7) (T := TX7) rfl (by decide) zinf_11 (by rw [hm]; exact ql_X7_23) (fun _ _ _ _ h => h) ha hv hdg z
theorem pf_X7_23 {a : Nat} {fs : List Value} {v : Nat} (hm : mn.cls = RX7) (ha : ω a = some (.inr (11, fs))) (hlen : 3 < fs.length) (hdg : decode cc pc = .ok (.putfield 23, 3)) (z : FV G l (mn, cc, nL, rt, dp, hh) kb Q (pc + 3) ls rest (o, fup ω a (.inr (11, fs.set 3 (.ref v))))) : FV G l (mn, cc, nL, rt, dp, hh) kb Q pc ls (.ref v :: .ref a :: rest) (o, ω) :=
  f_put (ci := 11) (kx := 3) (N := 6) (C := RX7) (ref := RX7) (T := TX7) (ty0 := tyX7) rfl (by decide) zinf_11 tyX7_ok nmX7 rfl rfl rfl (by rw [hm]; exact ql_X7_23) (fun _ _ _ _ h => h) ha hlen hdg z
theorem ql_L_63 : Cond.fieldLink RL 63 RX7 (TX7 3).2.1 (TX7 3).2.2.1 ∈ zT := zT_in 627 (by decide +kernel) (by decide +kernel)
theorem gf_L_63 {a : Nat} {fs : List Value} {v : Value} (hm : mn.cls = RL) (ha : ω a = some (.inr (11, fs))) (hv : fs[3]? = some v) (hdg : decode cc pc = .ok (.getfield 63, 3)) (z : FV G l (mn, cc, nL, rt, dp, hh) kb Q (pc + 3) ls (v :: rest) (o, ω)) : FV G l (mn, cc, nL, rt, dp, hh) kb Q pc ls (.ref a :: rest) (o, ω) :=
  f_get (ci := 11) (kx := 3) (N := 6) (C := RX7) (ref := RX7) (T := TX7) rfl (by decide) zinf_11 (by rw [hm]; exact ql_L_63) (fun _ _ _ _ h => h) ha hv hdg z
theorem pf_L_63 {a : Nat} {fs : List Value} {v : Nat} (hm : mn.cls = RL) (ha : ω a = some (.inr (11, fs))) (hlen : 3 < fs.length) (hdg : decode cc pc = .ok (.putfield 63, 3)) (z : FV G l (mn, cc, nL, rt, dp, hh) kb Q (pc + 3) ls rest (o, fup ω a (.inr (11, fs.set 3 (.ref v))))) : FV G l (mn, cc, nL, rt, dp, hh) kb Q pc ls (.ref v :: .ref a :: rest) (o, ω) :=
  f_put (ci := 11) (kx := 3) (N := 6) (C := RX7) (ref := RX7) (T := TX7) (ty0 := tyX7) rfl (by decide) zinf_11 tyX7_ok nmX7 rfl rfl rfl (by rw [hm]; exact ql_L_63) (fun _ _ _ _ h => h) ha hlen hdg z
theorem ql_X7_28 : Cond.fieldLink RX7 28 RX7 (TX7 4).2.1 (TX7 4).2.2.1 ∈ zT := zT_in 628 (by decide +kernel) (by decide +kernel)
theorem gf_X7_28 {a : Nat} {fs : List Value} {v : Value} (hm : mn.cls = RX7) (ha : ω a = some (.inr (11, fs))) (hv : fs[4]? = some v) (hdg : decode cc pc = .ok (.getfield 28, 3)) (z : FV G l (mn, cc, nL, rt, dp, hh) kb Q (pc + 3) ls (v :: rest) (o, ω)) : FV G l (mn, cc, nL, rt, dp, hh) kb Q pc ls (.ref a :: rest) (o, ω) :=
  f_get (ci := 11) (kx := 4) (N := 6) (C := RX7) (ref := RX7) (T := TX7) rfl (by decide) zinf_11 (by rw [hm]; exact ql_X7_28) (fun _ _ _ _ h => h) ha hv hdg z
theorem pf_X7_28 {a : Nat} {fs : List Value} {v : Nat} (hm : mn.cls = RX7) (ha : ω a = some (.inr (11, fs))) (hlen : 4 < fs.length) (hdg : decode cc pc = .ok (.putfield 28, 3)) (z : FV G l (mn, cc, nL, rt, dp, hh) kb Q (pc + 3) ls rest (o, fup ω a (.inr (11, fs.set 4 (.ref v))))) : FV G l (mn, cc, nL, rt, dp, hh) kb Q pc ls (.ref v :: .ref a :: rest) (o, ω) :=
  f_put (ci := 11) (kx := 4) (N := 6) (C := RX7) (ref := RX7) (T := TX7) (ty0 := tyX7) rfl (by decide) zinf_11 tyX7_ok nmX7 rfl rfl rfl (by rw [hm]; exact ql_X7_28) (fun _ _ _ _ h => h) ha hlen hdg z
theorem ql_L_121 : Cond.fieldLink RL 121 RX7 (TX7 4).2.1 (TX7 4).2.2.1 ∈ zT := zT_in 629 (by decide +kernel) (by decide +kernel)
theorem gf_L_121 {a : Nat} {fs : List Value} {v : Value} (hm : mn.cls = RL) (ha : ω a = some (.inr (11, fs))) (hv : fs[4]? = some v) (hdg : decode cc pc = .ok (.getfield 121, 3)) (z : FV G l (mn, cc, nL, rt, dp, hh) kb Q (pc + 3) ls (v :: rest) (o, ω)) : FV G l (mn, cc, nL, rt, dp, hh) kb Q pc ls (.ref a :: rest) (o, ω) :=
  f_get (ci := 11) (kx := 4) (N := 6) (C := RX7) (ref := RX7) (T := TX7) rfl (by decide) zinf_11 (by rw [hm]; exact ql_L_121) (fun _ _ _ _ h => h) ha hv hdg z
theorem pf_L_121 {a : Nat} {fs : List Value} {v : Nat} (hm : mn.cls = RL) (ha : ω a = some (.inr (11, fs))) (hlen : 4 < fs.length) (hdg : decode cc pc = .ok (.putfield 121, 3)) (z : FV G l (mn, cc, nL, rt, dp, hh) kb Q (pc + 3) ls rest (o, fup ω a (.inr (11, fs.set 4 (.ref v))))) : FV G l (mn, cc, nL, rt, dp, hh) kb Q pc ls (.ref v :: .ref a :: rest) (o, ω) :=
  f_put (ci := 11) (kx := 4) (N := 6) (C := RX7) (ref := RX7) (T := TX7) (ty0 := tyX7) rfl (by decide) zinf_11 tyX7_ok nmX7 rfl rfl rfl (by rw [hm]; exact ql_L_121) (fun _ _ _ _ h => h) ha hlen hdg z
theorem ql_X7_33 : Cond.fieldLink RX7 33 RX7 (TX7 5).2.1 (TX7 5).2.2.1 ∈ zT := zT_in 630 (by decide +kernel) (by decide +kernel)
theorem gf_X7_33 {a : Nat} {fs : List Value} {v : Value} (hm : mn.cls = RX7) (ha : ω a = some (.inr (11, fs))) (hv : fs[5]? = some v) (hdg : decode cc pc = .ok (.getfield 33, 3)) (z : FV G l (mn, cc, nL, rt, dp, hh) kb Q (pc + 3) ls (v :: rest) (o, ω)) : FV G l (mn, cc, nL, rt, dp, hh) kb Q pc ls (.ref a :: rest) (o, ω) :=
  f_get (ci := 11) (kx := 5) (N := 6) (C := RX7) (ref := RX7) (T := TX7) rfl (by decide) zinf_11 (by rw [hm]; exact ql_X7_33) (fun _ _ _ _ h => h) ha hv hdg z
theorem pf_X7_33 {a : Nat} {fs : List Value} {v : Nat} (hm : mn.cls = RX7) (ha : ω a = some (.inr (11, fs))) (hlen : 5 < fs.length) (hdg : decode cc pc = .ok (.putfield 33, 3)) (z : FV G l (mn, cc, nL, rt, dp, hh) kb Q (pc + 3) ls rest (o, fup ω a (.inr (11, fs.set 5 (.ref v))))) : FV G l (mn, cc, nL, rt, dp, hh) kb Q pc ls (.ref v :: .ref a :: rest) (o, ω) :=
  f_put (ci := 11) (kx := 5) (N := 6) (C := RX7) (ref := RX7) (T := TX7) (ty0 := tyX7) rfl (by decide) zinf_11 tyX7_ok nmX7 rfl rfl rfl (by rw [hm]; exact ql_X7_33) (fun _ _ _ _ h => h) ha hlen hdg z
theorem ql_L_243 : Cond.fieldLink RL 243 RX7 (TX7 5).2.1 (TX7 5).2.2.1 ∈ zT := zT_in 631 (by decide +kernel) (by decide +kernel)
theorem gf_L_243 {a : Nat} {fs : List Value} {v : Value} (hm : mn.cls = RL) (ha : ω a = some (.inr (11, fs))) (hv : fs[5]? = some v) (hdg : decode cc pc = .ok (.getfield 243, 3)) (z : FV G l (mn, cc, nL, rt, dp, hh) kb Q (pc + 3) ls (v :: rest) (o, ω)) : FV G l (mn, cc, nL, rt, dp, hh) kb Q pc ls (.ref a :: rest) (o, ω) :=
  f_get (ci := 11) (kx := 5) (N := 6) (C := RX7) (ref := RX7) (T := TX7) rfl (by decide) zinf_11 (by rw [hm]; exact ql_L_243) (fun _ _ _ _ h => h) ha hv hdg z
theorem pf_L_243 {a : Nat} {fs : List Value} {v : Nat} (hm : mn.cls = RL) (ha : ω a = some (.inr (11, fs))) (hlen : 5 < fs.length) (hdg : decode cc pc = .ok (.putfield 243, 3)) (z : FV G l (mn, cc, nL, rt, dp, hh) kb Q (pc + 3) ls rest (o, fup ω a (.inr (11, fs.set 5 (.ref v))))) : FV G l (mn, cc, nL, rt, dp, hh) kb Q pc ls (.ref v :: .ref a :: rest) (o, ω) :=
  f_put (ci := 11) (kx := 5) (N := 6) (C := RX7) (ref := RX7) (T := TX7) (ty0 := tyX7) rfl (by decide) zinf_11 tyX7_ok nmX7 rfl rfl rfl (by rw [hm]; exact ql_L_243) (fun _ _ _ _ h => h) ha hlen hdg z
theorem ql_J5_15 : Cond.fieldLink RJ5 15 RJ5 (TJ4 0).2.1 (TJ4 0).2.2.1 ∈ zT := zT_in 662 (by decide +kernel) (by decide +kernel)
theorem gf_J5_15 {a : Nat} {fs : List Value} {v : Value} (hm : mn.cls = RJ5) (ha : ω a = some (.inr (1, fs))) (hv : fs[0]? = some v) (hdg : decode cc pc = .ok (.getfield 15, 3)) (z : FV G l (mn, cc, nL, rt, dp, hh) kb Q (pc + 3) ls (v :: rest) (o, ω)) : FV G l (mn, cc, nL, rt, dp, hh) kb Q pc ls (.ref a :: rest) (o, ω) :=
  f_get (ci := 1) (kx := 0) (N := 4) (C := RJ4) (ref := RJ5) (T := TJ4) rfl (by decide) zinf_1 (by rw [hm]; exact ql_J5_15) (fun _ _ _ _ h => h) ha hv hdg z
theorem pf_J5_15 {a : Nat} {fs : List Value} {v : Nat} (hm : mn.cls = RJ5) (ha : ω a = some (.inr (1, fs))) (hlen : 0 < fs.length) (hdg : decode cc pc = .ok (.putfield 15, 3)) (z : FV G l (mn, cc, nL, rt, dp, hh) kb Q (pc + 3) ls rest (o, fup ω a (.inr (1, fs.set 0 (.ref v))))) : FV G l (mn, cc, nL, rt, dp, hh) kb Q pc ls (.ref v :: .ref a :: rest) (o, ω) :=
  f_put (ci := 1) (kx := 0) (N := 4) (C := RJ4) (ref := RJ5) (T := TJ4) (ty0 := tyJ4) rfl (by decide) zinf_1 tyJ4_ok nmJ4 rfl rfl rfl (by rw [hm]; exact ql_J5_15) (fun _ _ _ _ h => h) ha hlen hdg z
theorem ql_J5_22 : Cond.fieldLink RJ5 22 RJ5 (TJ4 1).2.1 (TJ4 1).2.2.1 ∈ zT := zT_in 663 (by decide +kernel) (by decide +kernel)
theorem gf_J5_22 {a : Nat} {fs : List Value} {v : Value} (hm : mn.cls = RJ5) (ha : ω a = some (.inr (1, fs))) (hv : fs[1]? = some v) (hdg : decode cc pc = .ok (.getfield 22, 3)) (z : FV G l (mn, cc, nL, rt, dp, hh) kb Q (pc + 3) ls (v :: rest) (o, ω)) : FV G l (mn, cc, nL, rt, dp, hh) kb Q pc ls (.ref a :: rest) (o, ω) :=
  f_get (ci := 1) (kx := 1) (N := 4) (C := RJ4) (ref := RJ5) (T := TJ4) rfl (by decide) zinf_1 (by rw [hm]; exact ql_J5_22) (fun _ _ _ _ h => h) ha hv hdg z
theorem pf_J5_22 {a : Nat} {fs : List Value} {v : Int32} (hm : mn.cls = RJ5) (ha : ω a = some (.inr (1, fs))) (hlen : 1 < fs.length) (hn1 : narrow .byte (.int v) = .int v) (hn2 : fits .byte (.int v) = true) (hdg : decode cc pc = .ok (.putfield 22, 3)) (z : FV G l (mn, cc, nL, rt, dp, hh) kb Q (pc + 3) ls rest (o, fup ω a (.inr (1, fs.set 1 (.int v))))) : FV G l (mn, cc, nL, rt, dp, hh) kb Q pc ls (.int v :: .ref a :: rest) (o, ω) :=
  f_put (ci := 1) (kx := 1) (N := 4) (C := RJ4) (ref := RJ5) (T := TJ4) (ty0 := tyJ4) rfl (by decide) zinf_1 tyJ4_ok nmJ4 rfl hn1 hn2 (by rw [hm]; exact ql_J5_22) (fun _ _ _ _ h => h) ha hlen hdg z
theorem ql_J0_1048 : Cond.fieldLink RJ0 1048 RJ5 (TJ4 2).2.1 (TJ4 2).2.2.1 ∈ zT := zT_in 664 (by decide +kernel) (by decide +kernel)
theorem gf_J0_1048 {a : Nat} {fs : List Value} {v : Value} (hm : mn.cls = RJ0) (ha : ω a = some (.inr (1, fs))) (hv : fs[2]? = some v) (hdg : decode cc pc = .ok (.getfield 1048, 3)) (z : FV G l (mn, cc, nL, rt, dp, hh) kb Q (pc + 3) ls (v :: rest) (o, ω)) : FV G l (mn, cc, nL, rt, dp, hh) kb Q pc ls (.ref a :: rest) (o, ω) :=
  f_get (ci := 1) (kx := 2) (N := 4) (C := RJ4) (ref := RJ5) (T := TJ4) rfl (by decide) zinf_1 (by rw [hm]; exact ql_J0_1048) (fun _ _ _ _ h => h) ha hv hdg z
theorem pf_J0_1048 {a : Nat} {fs : List Value} {v : Int32} (hm : mn.cls = RJ0) (ha : ω a = some (.inr (1, fs))) (hlen : 2 < fs.length) (hn : zbl v) (hdg : decode cc pc = .ok (.putfield 1048, 3)) (z : FV G l (mn, cc, nL, rt, dp, hh) kb Q (pc + 3) ls rest (o, fup ω a (.inr (1, fs.set 2 (.int v))))) : FV G l (mn, cc, nL, rt, dp, hh) kb Q pc ls (.int v :: .ref a :: rest) (o, ω) :=
  f_put (ci := 1) (kx := 2) (N := 4) (C := RJ4) (ref := RJ5) (T := TJ4) (ty0 := tyJ4) rfl (by decide) zinf_1 tyJ4_ok nmJ4 rfl (zbl_n hn) (zbl_f hn) (by rw [hm]; exact ql_J0_1048) (fun _ _ _ _ h => h) ha hlen hdg z
theorem ql_J5_79 : Cond.fieldLink RJ5 79 RJ5 (TJ4 3).2.1 (TJ4 3).2.2.1 ∈ zT := zT_in 665 (by decide +kernel) (by decide +kernel)
theorem gf_J5_79 {a : Nat} {fs : List Value} {v : Value} (hm : mn.cls = RJ5) (ha : ω a = some (.inr (1, fs))) (hv : fs[3]? = some v) (hdg : decode cc pc = .ok (.getfield 79, 3)) (z : FV G l (mn, cc, nL, rt, dp, hh) kb Q (pc + 3) ls (v :: rest) (o, ω)) : FV G l (mn, cc, nL, rt, dp, hh) kb Q pc ls (.ref a :: rest) (o, ω) :=
  f_get (ci := 1) (kx := 3) (N := 4) (C := RJ4) (ref := RJ5) (T := TJ4) rfl (by decide) zinf_1 (by rw [hm]; exact ql_J5_79) (fun _ _ _ _ h => h) ha hv hdg z
theorem pf_J5_79 {a : Nat} {fs : List Value} {v : Int32} (hm : mn.cls = RJ5) (ha : ω a = some (.inr (1, fs))) (hlen : 3 < fs.length) (hdg : decode cc pc = .ok (.putfield 79, 3)) (z : FV G l (mn, cc, nL, rt, dp, hh) kb Q (pc + 3) ls rest (o, fup ω a (.inr (1, fs.set 3 (.int v))))) : FV G l (mn, cc, nL, rt, dp, hh) kb Q pc ls (.int v :: .ref a :: rest) (o, ω) :=
  f_put (ci := 1) (kx := 3) (N := 4) (C := RJ4) (ref := RJ5) (T := TJ4) (ty0 := tyJ4) rfl (by decide) zinf_1 tyJ4_ok nmJ4 rfl rfl rfl (by rw [hm]; exact ql_J5_79) (fun _ _ _ _ h => h) ha hlen hdg z
theorem gf_J0_9 {a : Nat} {fs : List Value} {v : Value} (hm : mn.cls = RJ0) (ha : ω a = some (.inr (0, fs))) (hv : fs[0]? = some v) (hdg : decode cc pc = .ok (.getfield 9, 3)) (z : FV G l (mn, cc, nL, rt, dp, hh) kb Q (pc + 3) ls (v :: rest) (o, ω)) : FV G l (mn, cc, nL, rt, dp, hh) kb Q pc ls (.ref a :: rest) (o, ω) :=
  f_get (ci := 0) (kx := 0) (N := 4) (C := RJ0) (ref := RJ0) (T := TJ0) rfl (by decide) zinf_0 (by rw [hm]; exact (show Cond.fieldLink RJ0 9 RJ0 (TJ0 0).2.1 (TJ0 0).2.2.1 ∈ zT from ql_J0_9)) (fun _ _ _ _ h => h) ha hv hdg z
theorem pf_J0_9 {a : Nat} {fs : List Value} {v : Nat} (hm : mn.cls = RJ0) (hnm : mn.name = "<init>") (ha : ω a = some (.inr (0, fs))) (hlen : 0 < fs.length) (hdg : decode cc pc = .ok (.putfield 9, 3)) (z : FV G l (mn, cc, nL, rt, dp, hh) kb Q (pc + 3) ls rest (o, fup ω a (.inr (0, fs.set 0 (.ref v))))) : FV G l (mn, cc, nL, rt, dp, hh) kb Q pc ls (.ref v :: .ref a :: rest) (o, ω) :=
  f_putF (ci := 0) (kx := 0) (N := 4) (C := RJ0) (ref := RJ0) (T := TJ0) (ty0 := tyJ0) rfl (by decide) zinf_0 tyJ0_ok nmJ0 rfl hnm (fun c h => by rw [← h, hm]; rfl) rfl rfl (by rw [hm]; exact (show Cond.fieldLink RJ0 9 RJ0 (TJ0 0).2.1 (TJ0 0).2.2.1 ∈ zT from ql_J0_9)) rfl ha hlen hdg z
theorem gf_J0_15 {a : Nat} {fs : List Value} {v : Value} (hm : mn.cls = RJ0) (ha : ω a = some (.inr (0, fs))) (hv : fs[1]? = some v) (hdg : decode cc pc = .ok (.getfield 15, 3)) (z : FV G l (mn, cc, nL, rt, dp, hh) kb Q (pc + 3) ls (v :: rest) (o, ω)) : FV G l (mn, cc, nL, rt, dp, hh) kb Q pc ls (.ref a :: rest) (o, ω) :=
  f_get (ci := 0) (kx := 1) (N := 4) (C := RJ0) (ref := RJ0) (T := TJ0) rfl (by decide) zinf_0 (by rw [hm]; exact (show Cond.fieldLink RJ0 15 RJ0 (TJ0 1).2.1 (TJ0 1).2.2.1 ∈ zT from ql_J0_15)) (fun _ _ _ _ h => h) ha hv hdg z
theorem pf_J0_15 {a : Nat} {fs : List Value} {v : Int32} (hm : mn.cls = RJ0) (hnm : mn.name = "<init>") (ha : ω a = some (.inr (0, fs))) (hlen : 1 < fs.length) (hn1 : narrow .byte (.int v) = .int v) (hn2 : fits .byte (.int v) = true) (hdg : decode cc pc = .ok (.putfield 15, 3)) (z : FV G l (mn, cc, nL, rt, dp, hh) kb Q (pc + 3) ls rest (o, fup ω a (.inr (0, fs.set 1 (.int v))))) : FV G l (mn, cc, nL, rt, dp, hh) kb Q pc ls (.int v :: .ref a :: rest) (o, ω) :=
  f_putF (ci := 0) (kx := 1) (N := 4) (C := RJ0) (ref := RJ0) (T := TJ0) (ty0 := tyJ0) rfl (by decide) zinf_0 tyJ0_ok nmJ0 rfl hnm (fun c h => by rw [← h, hm]; rfl) hn1 hn2 (by rw [hm]; exact (show Cond.fieldLink RJ0 15 RJ0 (TJ0 1).2.1 (TJ0 1).2.2.1 ∈ zT from ql_J0_15)) rfl ha hlen hdg z
theorem ql_Jx35411_25 : Cond.fieldLink RJx35411 25 RJx35411 (TJx35411 0).2.1 (TJx35411 0).2.2.1 ∈ zT := zT_in 1087 (by decide +kernel) (by decide +kernel)
theorem gf_Jx35411_25 {a : Nat} {fs : List Value} {v : Value} (hm : mn.cls = RJx35411) (ha : ω a = some (.inr (2, fs))) (hv : fs[0]? = some v) (hdg : decode cc pc = .ok (.getfield 25, 3)) (z : FV G l (mn, cc, nL, rt, dp, hh) kb Q (pc + 3) ls (v :: rest) (o, ω)) : FV G l (mn, cc, nL, rt, dp, hh) kb Q pc ls (.ref a :: rest) (o, ω) :=
  f_get (ci := 2) (kx := 0) (N := 4) (C := RJx35411) (ref := RJx35411) (T := TJx35411) rfl (by decide) zinf_2 (by rw [hm]; exact ql_Jx35411_25) (fun _ _ _ _ h => h) ha hv hdg z
theorem pf_Jx35411_25 {a : Nat} {fs : List Value} {v : Int32} (hm : mn.cls = RJx35411) (ha : ω a = some (.inr (2, fs))) (hlen : 0 < fs.length) (hdg : decode cc pc = .ok (.putfield 25, 3)) (z : FV G l (mn, cc, nL, rt, dp, hh) kb Q (pc + 3) ls rest (o, fup ω a (.inr (2, fs.set 0 (.int v))))) : FV G l (mn, cc, nL, rt, dp, hh) kb Q pc ls (.int v :: .ref a :: rest) (o, ω) :=
  f_put (ci := 2) (kx := 0) (N := 4) (C := RJx35411) (ref := RJx35411) (T := TJx35411) (ty0 := tyJx35411) rfl (by decide) zinf_2 tyJx35411_ok nmJx35411 rfl rfl rfl (by rw [hm]; exact ql_Jx35411_25) (fun _ _ _ _ h => h) ha hlen hdg z
theorem ql_Jx35411_13 : Cond.fieldLink RJx35411 13 RJx35411 (TJx35411 1).2.1 (TJx35411 1).2.2.1 ∈ zT := zT_in 1088 (by decide +kernel) (by decide +kernel)
theorem gf_Jx35411_13 {a : Nat} {fs : List Value} {v : Value} (hm : mn.cls = RJx35411) (ha : ω a = some (.inr (2, fs))) (hv : fs[1]? = some v) (hdg : decode cc pc = .ok (.getfield 13, 3)) (z : FV G l (mn, cc, nL, rt, dp, hh) kb Q (pc + 3) ls (v :: rest) (o, ω)) : FV G l (mn, cc, nL, rt, dp, hh) kb Q pc ls (.ref a :: rest) (o, ω) :=
  f_get (ci := 2) (kx := 1) (N := 4) (C := RJx35411) (ref := RJx35411) (T := TJx35411) rfl (by decide) zinf_2 (by rw [hm]; exact ql_Jx35411_13) (fun _ _ _ _ h => h) ha hv hdg z
theorem pf_Jx35411_13 {a : Nat} {fs : List Value} {v : Int32} (hm : mn.cls = RJx35411) (ha : ω a = some (.inr (2, fs))) (hlen : 1 < fs.length) (hdg : decode cc pc = .ok (.putfield 13, 3)) (z : FV G l (mn, cc, nL, rt, dp, hh) kb Q (pc + 3) ls rest (o, fup ω a (.inr (2, fs.set 1 (.int v))))) : FV G l (mn, cc, nL, rt, dp, hh) kb Q pc ls (.int v :: .ref a :: rest) (o, ω) :=
  f_put (ci := 2) (kx := 1) (N := 4) (C := RJx35411) (ref := RJx35411) (T := TJx35411) (ty0 := tyJx35411) rfl (by decide) zinf_2 tyJx35411_ok nmJx35411 rfl rfl rfl (by rw [hm]; exact ql_Jx35411_13) (fun _ _ _ _ h => h) ha hlen hdg z
theorem ql_Jx35411_22 : Cond.fieldLink RJx35411 22 RJx35411 (TJx35411 2).2.1 (TJx35411 2).2.2.1 ∈ zT := zT_in 1089 (by decide +kernel) (by decide +kernel)
theorem gf_Jx35411_22 {a : Nat} {fs : List Value} {v : Value} (hm : mn.cls = RJx35411) (ha : ω a = some (.inr (2, fs))) (hv : fs[2]? = some v) (hdg : decode cc pc = .ok (.getfield 22, 3)) (z : FV G l (mn, cc, nL, rt, dp, hh) kb Q (pc + 3) ls (v :: rest) (o, ω)) : FV G l (mn, cc, nL, rt, dp, hh) kb Q pc ls (.ref a :: rest) (o, ω) :=
  f_get (ci := 2) (kx := 2) (N := 4) (C := RJx35411) (ref := RJx35411) (T := TJx35411) rfl (by decide) zinf_2 (by rw [hm]; exact ql_Jx35411_22) (fun _ _ _ _ h => h) ha hv hdg z
theorem pf_Jx35411_22 {a : Nat} {fs : List Value} {v : Int32} (hm : mn.cls = RJx35411) (ha : ω a = some (.inr (2, fs))) (hlen : 2 < fs.length) (hdg : decode cc pc = .ok (.putfield 22, 3)) (z : FV G l (mn, cc, nL, rt, dp, hh) kb Q (pc + 3) ls rest (o, fup ω a (.inr (2, fs.set 2 (.int v))))) : FV G l (mn, cc, nL, rt, dp, hh) kb Q pc ls (.int v :: .ref a :: rest) (o, ω) :=
  f_put (ci := 2) (kx := 2) (N := 4) (C := RJx35411) (ref := RJx35411) (T := TJx35411) (ty0 := tyJx35411) rfl (by decide) zinf_2 tyJx35411_ok nmJx35411 rfl rfl rfl (by rw [hm]; exact ql_Jx35411_22) (fun _ _ _ _ h => h) ha hlen hdg z
theorem ql_Jx35411_1 : Cond.fieldLink RJx35411 1 RJx35411 (TJx35411 3).2.1 (TJx35411 3).2.2.1 ∈ zT := zT_in 1090 (by decide +kernel) (by decide +kernel)
theorem gf_Jx35411_1 {a : Nat} {fs : List Value} {v : Value} (hm : mn.cls = RJx35411) (ha : ω a = some (.inr (2, fs))) (hv : fs[3]? = some v) (hdg : decode cc pc = .ok (.getfield 1, 3)) (z : FV G l (mn, cc, nL, rt, dp, hh) kb Q (pc + 3) ls (v :: rest) (o, ω)) : FV G l (mn, cc, nL, rt, dp, hh) kb Q pc ls (.ref a :: rest) (o, ω) :=
  f_get (ci := 2) (kx := 3) (N := 4) (C := RJx35411) (ref := RJx35411) (T := TJx35411) rfl (by decide) zinf_2 (by rw [hm]; exact ql_Jx35411_1) (fun _ _ _ _ h => h) ha hv hdg z
theorem pf_Jx35411_1 {a : Nat} {fs : List Value} {v : Nat} (hm : mn.cls = RJx35411) (hnm : mn.name = "<init>") (ha : ω a = some (.inr (2, fs))) (hlen : 3 < fs.length) (hdg : decode cc pc = .ok (.putfield 1, 3)) (z : FV G l (mn, cc, nL, rt, dp, hh) kb Q (pc + 3) ls rest (o, fup ω a (.inr (2, fs.set 3 (.ref v))))) : FV G l (mn, cc, nL, rt, dp, hh) kb Q pc ls (.ref v :: .ref a :: rest) (o, ω) :=
  f_putF (ci := 2) (kx := 3) (N := 4) (C := RJx35411) (ref := RJx35411) (T := TJx35411) (ty0 := tyJx35411) rfl (by decide) zinf_2 tyJx35411_ok nmJx35411 rfl hnm (fun c h => by rw [← h, hm]; rfl) rfl rfl (by rw [hm]; exact ql_Jx35411_1) rfl ha hlen hdg z
/-- the list's own size, seen by its iterator -/
theorem gf_Jx35411_28 {a : Nat} {fs : List Value} {v : Value} (hm : mn.cls = RJx35411) (ha : ω a = some (.inr (3, fs))) (hv : fs[2]? = some v) (hdg : decode cc pc = .ok (.getfield 28, 3)) (z : FV G l (mn, cc, nL, rt, dp, hh) kb Q (pc + 3) ls (v :: rest) (o, ω)) : FV G l (mn, cc, nL, rt, dp, hh) kb Q pc ls (.ref a :: rest) (o, ω) := fun z1 p e s m args below meth c R H locs cells slots la C0 hP hS hc0 hs hl => by
  obtain ⟨ws, h1, h2, h3⟩ := id hP
  obtain ⟨k, hk1, -⟩ := fP.get (S := (o, ω)) h3 ha
  exact va_getN C0.1 C0.2.1 C0.2.2.2.2.2.1 zinf_3 C0.2.2.2.2.1 (fK C0) h1 _ hk1 (C := RJx4a65c) (T := TJx4a65c) (N := 3) (host := RJx4a65c) (ref := RJx4a65c) rfl 2 (by decide) (by rw [show (mn, cc, nL, rt, dp, hh).1.cls = RJx35411 from hm]; exact va_Nw.use rfl (fXs C0).2.2.2.2.2.2.2.1.2.1) (fun _ h => h) hv hdg (z z1 p e s m args below meth c R H locs cells slots la C0 hP hS hc0 hs hl)
theorem f_ks {u k : Nat} (h : u ≤ k) : k - u + u ≤ k := by omega
theorem f_kj {j k : Nat} (h : j ≤ k) : j + (k - j) ≤ k := by omega
theorem f_newa0 {n : Int32} {N u kb' : Nat} (hn : ¬ n < 0) (hN : n.toNatClampNeg = N) (hb : N * 4 ≤ 536870912) (hk : kb' + u ≤ kb) (hu : 1 ≤ u ∧ N ≤ 12 * u) (hdg : decode cc pc = .ok (.newarray .int, 2))
    (z : ∀ q : Nat, ω q = none → FV G l (mn, cc, nL, rt, dp, hh) kb' Q (pc + 2) ls (.ref q :: rest) (o, fup ω q (.inl (G.1.2.1 0, N, .inl (fun _ => 0))))) : FV G l (mn, cc, nL, rt, dp, hh) kb Q pc ls (.int n :: rest) (o, ω) :=
  f_newa (atype := .int) (t := 0) (ty := .int) ac_int rfl rfl (fun _ _ h => h) (fun _ => rfl) hn hN hb hk hu hdg z
theorem f_newa1 {n : Int32} {N u kb' : Nat} (hn : ¬ n < 0) (hN : n.toNatClampNeg = N) (hb : N * 1 ≤ 536870912) (hk : kb' + u ≤ kb) (hu : 1 ≤ u ∧ N ≤ 12 * u) (hdg : decode cc pc = .ok (.newarray .byte, 2))
    (z : ∀ q : Nat, ω q = none → FV G l (mn, cc, nL, rt, dp, hh) kb' Q (pc + 2) ls (.ref q :: rest) (o, fup ω q (.inl (G.1.2.1 1, N, .inl (fun _ => 0))))) : FV G l (mn, cc, nL, rt, dp, hh) kb Q pc ls (.int n :: rest) (o, ω) :=
  f_newa (atype := .byte) (t := 1) (ty := .byte) ac_byte rfl rfl (fun _ _ h => h) (fun _ => rfl) hn hN hb hk hu hdg z
theorem f_aald4 {a n : Nat} {f : Nat → Option Nat} {i : Int32} {x : Nat} (ha : ω a = some (.inl (G.1.2.1 4, n, .inr (.inr (.inr (.inr f)))))) (hin : vp_in i n) (hx : f i.toNatClampNeg = some x) (hdg : decode cc pc = .ok (.aaload, 1)) (z : FV G l (mn, cc, nL, rt, dp, hh) kb Q (pc + 1) ls (.ref x :: rest) (o, ω)) :
    FV G l (mn, cc, nL, rt, dp, hh) kb Q pc ls (.int i :: .ref a :: rest) (o, ω) := f_aald (t := 4) (ty := .array .int) rfl rfl (fun s hK => fof4 s hK) ha hin hx hdg z
theorem f_aald6 {a n : Nat} {f : Nat → Option Nat} {i : Int32} {x : Nat} (ha : ω a = some (.inl (G.1.2.1 6, n, .inr (.inr (.inr (.inr f)))))) (hin : vp_in i n) (hx : f i.toNatClampNeg = some x) (hdg : decode cc pc = .ok (.aaload, 1)) (z : FV G l (mn, cc, nL, rt, dp, hh) kb Q (pc + 1) ls (.ref x :: rest) (o, ω)) :
    FV G l (mn, cc, nL, rt, dp, hh) kb Q pc ls (.int i :: .ref a :: rest) (o, ω) := f_aald (t := 6) (ty := .array (.array .int)) rfl rfl (fun s hK => fof6 s hK) ha hin hx hdg z
theorem f_aald5 {a n : Nat} {f : Nat → Option Nat} {i : Int32} {x : Nat} (ha : ω a = some (.inl (G.1.2.1 5, n, .inr (.inr (.inr (.inr f)))))) (hin : vp_in i n) (hx : f i.toNatClampNeg = some x) (hdg : decode cc pc = .ok (.aaload, 1)) (z : FV G l (mn, cc, nL, rt, dp, hh) kb Q (pc + 1) ls (.ref x :: rest) (o, ω)) :
    FV G l (mn, cc, nL, rt, dp, hh) kb Q pc ls (.int i :: .ref a :: rest) (o, ω) := f_aald (t := 5) (ty := .object fOE) rfl rfl (fun s hK => fof5 s hK) ha hin hx hdg z
theorem fnm_I : "[" ++ (FieldType.int).toString = "[I" := by decide +kernel
theorem f_cast0 {a index : Nat} {x : vp_A} (hlink : Cond.classLink mn.cls index "[I" ∈ zT) (ha : ω a = some (.inl (G.1.2.1 0, x))) (hdg : decode cc pc = .ok (.checkcast index, 3))
    (z : FV G l (mn, cc, nL, rt, dp, hh) kb Q (pc + 3) ls (.ref a :: rest) (o, ω)) : FV G l (mn, cc, nL, rt, dp, hh) kb Q pc ls (.ref a :: rest) (o, ω) :=
  f_castA (t := 0) (ty := .int) hlink rfl (fun U cA h => by rw [← fnm_I]; exact h) ha hdg z
theorem f_scmp {idx : Nat} (hl0 : Cond.fieldLink mn.cls idx "java/lang/String" "COMPACT_STRINGS" "Z" ∈ zT) (hdg : decode cc pc = .ok (.getstatic idx, 3)) (z : FV G l (mn, cc, nL, rt, dp, hh) kb Q (pc + 3) ls (.int 1 :: rest) (o, ω)) : FV G l (mn, cc, nL, rt, dp, hh) kb Q pc ls rest (o, ω) := fun z1 p e s m args below meth c R H locs cells slots la C0 hP hS hc0 hs hl =>
  va_gets C0.1 C0.2.1 (fXs C0).1.2.2.2.2.2.2.2.1 hS C0.2.2.2.2.1 (C0.2.2.2.2.2.1 _ hl0) (fun _ h => h) hdg (z z1 p e s m args below meth c R H locs cells slots la C0 hP hS hc0 hs hl)
theorem f_sdef {idx : Nat} (hl0 : Cond.fieldLink mn.cls idx RJx4a65c "DEFAULTCAPACITY_EMPTY_ELEMENTDATA" "[Ljava/lang/Object;" ∈ zT) (hdg : decode cc pc = .ok (.getstatic idx, 3)) (z : FV G l (mn, cc, nL, rt, dp, hh) kb Q (pc + 3) ls (.ref (G.1.2.2.2.2.2 100) :: rest) (o, ω)) : FV G l (mn, cc, nL, rt, dp, hh) kb Q pc ls rest (o, ω) := fun z1 p e s m args below meth c R H locs cells slots la C0 hP hS hc0 hs hl =>
  va_gets C0.1 C0.2.1 (fXs C0).2.2.1.1 hS C0.2.2.2.2.1 (C0.2.2.2.2.2.1 _ hl0) (fun _ h => h) hdg (z z1 p e s m args below meth c R H locs cells slots la C0 hP hS hc0 hs hl)
theorem f_sDigitOnes {idx : Nat} (hl0 : Cond.fieldLink mn.cls idx RJ6 "DigitOnes" "[B" ∈ zT) (hdg : decode cc pc = .ok (.getstatic idx, 3)) (z : FV G l (mn, cc, nL, rt, dp, hh) kb Q (pc + 3) ls (.ref (G.1.2.2.2.2.2 101) :: rest) (o, ω)) : FV G l (mn, cc, nL, rt, dp, hh) kb Q pc ls rest (o, ω) := fun z1 p e s m args below meth c R H locs cells slots la C0 hP hS hc0 hs hl =>
  va_gets C0.1 C0.2.1 (fXs C0).2.2.2.1.1 hS C0.2.2.2.2.1 (C0.2.2.2.2.2.1 _ hl0) (fun _ h => h) hdg (z z1 p e s m args below meth c R H locs cells slots la C0 hP hS hc0 hs hl)
theorem f_sDigitTens {idx : Nat} (hl0 : Cond.fieldLink mn.cls idx RJ6 "DigitTens" "[B" ∈ zT) (hdg : decode cc pc = .ok (.getstatic idx, 3)) (z : FV G l (mn, cc, nL, rt, dp, hh) kb Q (pc + 3) ls (.ref (G.1.2.2.2.2.2 102) :: rest) (o, ω)) : FV G l (mn, cc, nL, rt, dp, hh) kb Q pc ls rest (o, ω) := fun z1 p e s m args below meth c R H locs cells slots la C0 hP hS hc0 hs hl =>
  va_gets C0.1 C0.2.1 (fXs C0).2.2.2.2.1.1 hS C0.2.2.2.2.1 (C0.2.2.2.2.2.1 _ hl0) (fun _ h => h) hdg (z z1 p e s m args below meth c R H locs cells slots la C0 hP hS hc0 hs hl)
theorem f_bDigitOnes {i : Int32} (hin : vp_in i 100) (hdg : decode cc pc = .ok (.baload, 1)) (z : FV G l (mn, cc, nL, rt, dp, hh) kb Q (pc + 1) ls (.int (nI (48 + i.toNatClampNeg % 10)) :: rest) (o, ω)) : FV G l (mn, cc, nL, rt, dp, hh) kb Q pc ls (.int i :: .ref (G.1.2.2.2.2.2 101) :: rest) (o, ω) := fun z1 p e s m args below meth c R H locs cells slots la C0 hP hS hc0 hs hl =>
  va_tb C0.1 C0.2.1 (fXs C0).2.2.2.1.2 hS hin rfl hdg (z z1 p e s m args below meth c R H locs cells slots la C0 hP hS hc0 hs hl)
theorem f_bDigitTens {i : Int32} (hin : vp_in i 100) (hdg : decode cc pc = .ok (.baload, 1)) (z : FV G l (mn, cc, nL, rt, dp, hh) kb Q (pc + 1) ls (.int (nI (48 + i.toNatClampNeg / 10)) :: rest) (o, ω)) : FV G l (mn, cc, nL, rt, dp, hh) kb Q pc ls (.int i :: .ref (G.1.2.2.2.2.2 102) :: rest) (o, ω) := fun z1 p e s m args below meth c R H locs cells slots la C0 hP hS hc0 hs hl =>
  va_tb C0.1 C0.2.1 (fXs C0).2.2.2.2.1.2 hS hin rfl hdg (z z1 p e s m args below meth c R H locs cells slots la C0 hP hS hc0 hs hl)
theorem f_sfmt {idx : Nat} (hl0 : Cond.fieldLink mn.cls idx "jdk/internal/util/Preconditions" "SIOOBE_FORMATTER" "Ljava/util/function/BiFunction;" ∈ zT) (hdg : decode cc pc = .ok (.getstatic idx, 3)) (z : ∀ v : Value, (v = .null ∨ ∃ t : Nat, v = .ref t) → FV G l (mn, cc, nL, rt, dp, hh) kb Q (pc + 3) ls (v :: rest) (o, ω)) : FV G l (mn, cc, nL, rt, dp, hh) kb Q pc ls rest (o, ω) := fun z1 p e s m args below meth c R H locs cells slots la C0 hP hS hc0 hs hl => by
  rcases (fXs C0).1.2.2.2.2.2.2.2.2.1 with h | ⟨t, h⟩
  · exact va_gets C0.1 C0.2.1 h hS C0.2.2.2.2.1 (C0.2.2.2.2.2.1 _ hl0) (fun _ h => h) hdg (z .null (Or.inl rfl) z1 p e s m args below meth c R H locs cells slots la C0 hP hS hc0 hs hl)
  · exact va_gets C0.1 C0.2.1 h hS C0.2.2.2.2.1 (C0.2.2.2.2.2.1 _ hl0) (fun _ h => h) hdg (z (.ref t) (Or.inr ⟨t, rfl⟩) z1 p e s m args below meth c R H locs cells slots la C0 hP hS hc0 hs hl)
theorem f_elen (hdg : decode cc pc = .ok (.arraylength, 1)) (z : FV G l (mn, cc, nL, rt, dp, hh) kb Q (pc + 1) ls (.int 0 :: rest) (o, ω)) : FV G l (mn, cc, nL, rt, dp, hh) kb Q pc ls (.ref (G.1.2.2.2.2.2 100) :: rest) (o, ω) := fun z1 p e s m args below meth c R H locs cells slots la C0 hP hS hc0 hs hl =>
  va_tlen C0.1 C0.2.1 (fXs C0).2.2.1.2 hS rfl hdg (z z1 p e s m args below meth c R H locs cells slots la C0 hP hS hc0 hs hl)
theorem f_qlen {a n : Nat} (h : (a = G.1.2.2.2.2.2 100 ∧ n = 0) ∨ ∃ f : Nat → Option Nat, ω a = some (.inl (G.1.2.1 5, n, .inr (.inr (.inr (.inr f)))))) (hdg : decode cc pc = .ok (.arraylength, 1)) (z : FV G l (mn, cc, nL, rt, dp, hh) kb Q (pc + 1) ls (.int (nI n) :: rest) (o, ω)) : FV G l (mn, cc, nL, rt, dp, hh) kb Q pc ls (.ref a :: rest) (o, ω) := by
  rcases h with ⟨rfl, rfl⟩ | ⟨f, h⟩
  · exact f_elen hdg z
  · exact f_alen (t := 5) (ty := .object fOE) rfl h rfl hdg z
theorem f_acmpR_eq {x y : Nat} {off : Int} {tgt : Nat} (hdg : decode cc pc = .ok (.if_acmp .eq off, 3)) (ht : (pc : Int) + off = (tgt : Int)) (kt : x = y → FV G l (mn, cc, nL, rt, dp, hh) kb Q tgt ls rest (o, ω)) (kf : ¬ x = y → FV G l (mn, cc, nL, rt, dp, hh) kb Q (pc + 3) ls rest (o, ω)) : FV G l (mn, cc, nL, rt, dp, hh) kb Q pc ls (.ref y :: .ref x :: rest) (o, ω) :=
  f_acmp_eq (rx := some x) (ry := some y) hdg ht (fun h => kt (Option.some.inj h)) (fun h => kf (fun e => h (congrArg some e)))
theorem f_acmpR_ne {x y : Nat} {off : Int} {tgt : Nat} (hdg : decode cc pc = .ok (.if_acmp .ne off, 3)) (ht : (pc : Int) + off = (tgt : Int)) (kt : ¬ x = y → FV G l (mn, cc, nL, rt, dp, hh) kb Q tgt ls rest (o, ω)) (kf : x = y → FV G l (mn, cc, nL, rt, dp, hh) kb Q (pc + 3) ls rest (o, ω)) : FV G l (mn, cc, nL, rt, dp, hh) kb Q pc ls (.ref y :: .ref x :: rest) (o, ω) :=
  f_acmp_ne (rx := some x) (ry := some y) hdg ht (fun h => kt (fun e => h (congrArg some e))) (fun h => kf (Option.some.inj h))
theorem f_ldcM {idx : Nat} (hlink : Cond.classLink mn.cls idx "[Ljava/lang/Object;" ∈ zT) (hdg : decode cc pc = .ok (.ldc idx, 2)) (z : FV G l (mn, cc, nL, rt, dp, hh) kb Q (pc + 2) ls (.ref (G.1.2.2.2.2.2 103) :: rest) (o, ω)) : FV G l (mn, cc, nL, rt, dp, hh) kb Q pc ls rest (o, ω) := fun z1 p e s m args below meth c R H locs cells slots la C0 hP hS hc0 hs hl =>
  va_ldcM C0.1 C0.2.1 C0.2.2.2.2.1 (C0.2.2.2.2.2.1 _ hlink) (fXs C0).2.2.2.2.2.1 hdg (z z1 p e s m args below meth c R H locs cells slots la C0 hP hS hc0 hs hl)
theorem f_new0 {index kb' : Nat} (hcl : Cond.classLink mn.cls index RJ0 ∈ zT) (hk : kb' + 1 ≤ kb) (hdg : decode cc pc = .ok (.new index, 3)) (z : ∀ q : Nat, ω q = none → FV G l (mn, cc, nL, rt, dp, hh) kb' Q (pc + 3) ls (.ref q :: rest) (o, fup ω q (.inr (0, [.null, .int 0, .int 0, .int 0])))) : FV G l (mn, cc, nL, rt, dp, hh) kb Q pc ls rest (o, ω) :=
  f_new (N := 4) (T := TJ0) zinf_0 tyJ0 tyJ0_ok hcl mk_RJ0 ini_RJ0 rfl (fun j hj => by match j, hj with
    | 0, _ => rfl
    | 1, _ => rfl
    | 2, _ => rfl
    | 3, _ => rfl
    | n + 4, h => exact absurd h (by omega)) (by decide) hk hdg z
theorem f_new1 {index kb' : Nat} (hcl : Cond.classLink mn.cls index RJ4 ∈ zT) (hk : kb' + 1 ≤ kb) (hdg : decode cc pc = .ok (.new index, 3)) (z : ∀ q : Nat, ω q = none → FV G l (mn, cc, nL, rt, dp, hh) kb' Q (pc + 3) ls (.ref q :: rest) (o, fup ω q (.inr (1, [.null, .int 0, .int 0, .int 0])))) : FV G l (mn, cc, nL, rt, dp, hh) kb Q pc ls rest (o, ω) :=
  f_new (N := 4) (T := TJ4) zinf_1 tyJ4 tyJ4_ok hcl mk_RJ4 ini_RJ4 rfl (fun j hj => by match j, hj with
    | 0, _ => rfl
    | 1, _ => rfl
    | 2, _ => rfl
    | 3, _ => rfl
    | n + 4, h => exact absurd h (by omega)) (by decide) hk hdg z
theorem f_new2 {index kb' : Nat} (hcl : Cond.classLink mn.cls index RJx35411 ∈ zT) (hk : kb' + 1 ≤ kb) (hdg : decode cc pc = .ok (.new index, 3)) (z : ∀ q : Nat, ω q = none → FV G l (mn, cc, nL, rt, dp, hh) kb' Q (pc + 3) ls (.ref q :: rest) (o, fup ω q (.inr (2, [.int 0, .int 0, .int 0, .null])))) : FV G l (mn, cc, nL, rt, dp, hh) kb Q pc ls rest (o, ω) :=
  f_new (N := 4) (T := TJx35411) zinf_2 tyJx35411 tyJx35411_ok hcl mk_RJx35411 ini_RJx35411 rfl (fun j hj => by match j, hj with
    | 0, _ => rfl
    | 1, _ => rfl
    | 2, _ => rfl
    | 3, _ => rfl
    | n + 4, h => exact absurd h (by omega)) (by decide) hk hdg z
theorem f_new3 {index kb' : Nat} (hcl : Cond.classLink mn.cls index RJx4a65c ∈ zT) (hk : kb' + 1 ≤ kb) (hdg : decode cc pc = .ok (.new index, 3)) (z : ∀ q : Nat, ω q = none → FV G l (mn, cc, nL, rt, dp, hh) kb' Q (pc + 3) ls (.ref q :: rest) (o, fup ω q (.inr (3, [.int 0, .null, .int 0])))) : FV G l (mn, cc, nL, rt, dp, hh) kb Q pc ls rest (o, ω) :=
  f_new (N := 3) (T := TJx4a65c) zinf_3 tyJx4a65c tyJx4a65c_ok hcl mk_RJx4a65c ini_RJx4a65c rfl (fun j hj => by match j, hj with
    | 0, _ => rfl
    | 1, _ => rfl
    | 2, _ => rfl
    | n + 3, h => exact absurd h (by omega)) (by decide) hk hdg z
theorem f_new11 {index kb' : Nat} (hcl : Cond.classLink mn.cls index RX7 ∈ zT) (hk : kb' + 1 ≤ kb) (hdg : decode cc pc = .ok (.new index, 3)) (z : ∀ q : Nat, ω q = none → FV G l (mn, cc, nL, rt, dp, hh) kb' Q (pc + 3) ls (.ref q :: rest) (o, fup ω q (.inr (11, [.int 0, .int 0, .null, .null, .null, .null])))) : FV G l (mn, cc, nL, rt, dp, hh) kb Q pc ls rest (o, ω) :=
  f_new (N := 6) (T := TX7) zinf_11 tyX7 tyX7_ok hcl mk_RX7 ini_RX7 rfl (fun j hj => by match j, hj with
    | 0, _ => rfl
    | 1, _ => rfl
    | 2, _ => rfl
    | 3, _ => rfl
    | 4, _ => rfl
    | 5, _ => rfl
    | n + 6, h => exact absurd h (by omega)) (by decide) hk hdg z
end FF
