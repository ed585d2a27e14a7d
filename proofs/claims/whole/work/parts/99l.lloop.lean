/-! the law's loop -/
section ZLo
variable {g : zG} {l : Launch} {p : Program} {e : Env} {s : State} {m : MethodId} {args : Array Value} {below : List Frame} {meth : Method} {c : Code} {R : Room} {Z : State → Prop} {kb : Nat} {σ : zS} {b L : Nat} {xs : Nat → Int32} {i : Nat}
theorem and63 (x : Int32) : ∃ n : Nat, n < 64 ∧ x &&& 63 = iI n := by
  refine ⟨(x &&& 63).toBitVec.toNat, ?_, ?_⟩
  · have h : (x &&& 63).toBitVec = x.toBitVec &&& 63#32 := rfl
    rw [h, BitVec.toNat_and]
    exact Nat.lt_of_le_of_lt Nat.and_le_right (by decide)
  · apply Int32.toBitVec_inj.mp
    show _ = BitVec.ofInt 32 (((x &&& 63).toBitVec.toNat : Nat) : Int)
    rw [BitVec.ofInt_natCast, BitVec.ofNat_toNat, BitVec.setWidth_eq]
theorem w_loop (C : LX g l p s m args meth c R b L xs) (kz : ∀ (i : Nat) (σ : zS), LJ g l p e s m args below meth c R Z 0 3237 (lb g b i) [] σ) :
    ∀ (n i : Nat) (σ : zS), L < i + 6 * n + 6 → i ≤ 4000 → JI σ → LJ g l p e s m args below meth c R Z (2 * n) 28 (lb g b i) [] σ := by
  intro n
  have hL := C.2.2.2.2.2
  induction n with
  | zero =>
    intro i σ hi hi4 hJ
    refine l_iload C dL_law_28 5 rfl ?_
    refine l_aload_n C dL_law_30 rfl 0 rfl ?_
    refine l_slen C dL_law_31 ?_
    refine l_bipush C dL_law_32 (v := iI 6) rfl ?_
    refine l_isub C dL_law_34 ?_
    rw [iI_sub]
    refine l_icmp_gt C (tgt := 3237) dL_law_35 (by decide) (fun _ => kz i σ) (fun q => ?_)
    rw [iI_lt (by omega) (by omega) (by omega) (by omega)] at q
    exfalso; omega
  | succ n ih =>
    intro i σ hi hi4 hJ
    refine l_iload C dL_law_28 5 rfl ?_
    refine l_aload_n C dL_law_30 rfl 0 rfl ?_
    refine l_slen C dL_law_31 ?_
    refine l_bipush C dL_law_32 (v := iI 6) rfl ?_
    refine l_isub C dL_law_34 ?_
    rw [iI_sub]
    refine l_icmp_gt C (tgt := 3237) dL_law_35 (by decide) (fun _ => l_km (Nat.zero_le _) (kz i σ)) (fun q => ?_)
    rw [iI_lt (by omega) (by omega) (by omega) (by omega)] at q
    have hi6 : i + 6 ≤ L := by omega
    have kn : ∀ υ, JI υ → LJ g l p e s m args below meth c R Z (2 * n) 3231 (lb g b i) [] υ := fun υ hυ => by
      refine l_iinc C (j := 5) (x := iI i) (v := iI ((i + 6 : Nat) : Int)) (ls' := [(5, .int (iI ((i + 6 : Nat) : Int))), (0, .ref b), (1, .ref (zad g 0)), (2, .ref (zad g 24)), (3, .ref (zad g 41)), (4, .ref (zad g 42))]) dL_law_3231 rfl (by rw [show Int32.ofInt 6 = iI 6 from rfl, iI_add]; rfl) (by decide) rfl ?_
      refine l_goto C (tgt := 28) dL_law_3234 (by decide) ?_
      exact l_ls [1, 2, 3, 4, 5, 0] rfl (ih (i + 6) υ (by omega) (by omega) hυ)
    refine l_aload_n C dL_law_38 rfl 0 rfl ?_
    refine l_iload C dL_law_39 5 rfl ?_
    refine l_sld C (j := i) (by omega) dL_law_41 ?_
    refine l_bipush C dL_law_42 (v := 63) rfl ?_
    refine l_iand C dL_law_44 ?_
    obtain ⟨k, hk, he⟩ := and63 (xs i)
    rw [he]
    by_cases h47 : k < 47
    · refine l_tableIn C (tgt := tg.getD k 0) dL_law_45 ?_ ?_ (by rw [iI_ti (by omega) (by omega), Int.sub_zero, Int.toNat_natCast]; exact tg_off k h47) (by omega) (l_km (by omega) (w_all C hi6 hJ kn k h47))
      · rw [iI_ti (by omega) (by omega)]; omega
      · rw [iI_ti (by omega) (by omega)]; omega
    · refine l_tableOut C (tgt := 3231) dL_law_45 (Or.inr ?_) (by decide) (l_km (by omega) (kn σ hJ))
      rw [iI_ti (by omega) (by omega)]; omega
end ZLo
