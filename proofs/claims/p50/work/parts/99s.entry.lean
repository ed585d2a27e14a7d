/-! THE CLAIM OUT OF ONE WALK OF THE LAW'S BODY. Your part is whole_start (and what it stands on); all else here is the same for every law, but numbers. -/
def R_law : String := "BambooBlindLaw"
def lw_P (b : Addr) (xs : List Int32) (args : Array Value) (s : State) : Prop := args = #[.ref b] ∧ s.IntsAt b xs ∧ xs.length ≤ 260 ∧ (Jvm.Cond.and given_1 narrow_1).before args s = true
/-- what a walk over the start with the record d0 says of its end, said of the start itself -/
theorem lw_closed {s t : State} {o : Outcome} {d0 : Drawn} {L : List Loc} {k n : Nat} (hd0 : s.drawn.sameBut d0 lw_cs) (hv : ∃ v, o = .returned v) (hW : (s.setDrawn d0).WarmedH t.vm) (hs : (s.setDrawn d0).sameButNew ({ t with vm := s.vm } : State) L k n) : State.butDraws s t lw_cs (fun t1 => Framed s o t1 L k n) := by
  have h2 : t.drawn = d0 := congrArg State.drawn hs.1
  refine ⟨⟨hv, hW, State.sameButNew.setDrawn hs s.drawn⟩, ?_, by decide⟩
  rw [h2]
  exact hd0
def lw_Q (_ : Array Value) (s : State) (o : Outcome) (t : State) : Prop := o = .returned (some (.int 1)) ∧ State.butDraws s t lw_cs (fun t1 => Framed s o t1 [] 600086 7301442)
def lw_Z (below : List Frame) (a : Array Value) (s : State) : State → Prop := fun t => ∃ o, t.status = .running ∧ Ended t below o ∧ lw_Q a s o t
/-- the law's own end, with 1 on the stack, nothing written that was there before, its room as the claim has it; d0: the record of draws at this point (at the entry s.drawn: begin with 'refine W.base ?_' and 'have hd0 := Drawn.sameBut.refl s.drawn lw_cs') -/
theorem lw_ret {p : Program} {l : Launch} {e : Env} {s : State} {m : MethodId} {below : List Frame} {meth : Method} {c : Code} {b : Nat} {d0 : Drawn} (hd0 : s.drawn.sameBut d0 lw_cs) (hx : p.tables.exec = Jvm.exec) (hb : c.code = code) (hr : meth.sig.returnType = ret) (hlocks : meth.locks = false) {pc : Nat} {H : Heap} {ls : Array Slot} (hdg : decode code pc = .ok (.ireturn, 1)) : W p l e room_1 (s.setDrawn d0) m #[Value.ref b] below meth c H [] 600086 7301442 (lw_Z below #[Value.ref b] s) (F0 m pc ls [.int 1]) := by
  intro T hT X
  obtain ⟨fs, hret, hrun, hended, hW, hframe⟩ := X.leave (v := some (.int 1)) (hlocks := hlocks) (fun h => by rw [hr] at h; cases h)
  have hmeth' : T.vm.method? m = some meth := X.method'
  refine ⟨T.setFrames fs, ?_, .returned (some (.int 1)), hrun, hended, rfl, lw_closed hd0 ⟨_, rfl⟩ hW hframe⟩
  jvm_step X.here [X.here.top, hx, hb, hdg, hmeth', hr, ret, narrow_b1]
  (try refine ⟨rfl, ?_⟩); (try refine ⟨rfl, ?_⟩)
  first | (intro acts; rw [hret _ acts rfl rfl rfl]) | rw [hret _ _ rfl rfl rfl]
  exact Steps.refl _
/-- what holds at the law's entry: the machine, the code, the tables' words (any of lw_tbl by 'hts w (by decide +kernel)'), the script of L ints xs at the cell b, what the Statement gives of the start (any of its parts by flat_of_before) -/
def lw_At (p : Program) (s : State) (m : MethodId) (meth : Method) (c : Code) (b L : Nat) (xs : Nat → Int32) : Prop :=
  p.tables.exec = Jvm.exec ∧ c.code = code ∧ meth.sig.returnType = ret ∧ c.maxLocals = 5 ∧ s.vm.findClass R_law = some m.cls ∧ (∀ w ∈ lw_tbl, w.before #[Value.ref b] s = true) ∧ va_X b L xs s s.heap ∧ b < s.heap.size ∧ meth.locks = false ∧ (Jvm.Cond.and given_1 narrow_1).before #[Value.ref b] s = true ∧ meth.name = yL_law.name

abbrev Q0 : Option Value → fS → Prop := fun v S => v = some (.int 1) ∧ S = (none, fun _ => none)
theorem fP_nil (G : fG) (H : Heap) : fP G (none, fun _ => none) H := ⟨[], fun k q hq => by simp [fbs] at hq, ⟨fun i j p q hp => by simp [fbs] at hp, fun k q hq => by simp [fbs] at hq⟩, fun a c h => by cases h⟩
theorem s0_16 : s0.1 16 2 = iI (0 : Nat) := rfl
theorem s0_T : TxC s0 0 (fun _ => 0) := ⟨by decide, rfl, fun i hi => absurd hi (Nat.not_lt_zero i)⟩
section LWe
variable {G : fG} {l : Launch}
theorem lw_5 (hL : G.2.2.1 < 2 ^ 31) {ω : fW} {ax : Nat} {p0 : Nat → Nat} {fa : Nat → Nat → Nat → Int32} (W0 : WR G ω ax p0 (gRow (pkN G)) fa) (hd : fdone (gRow (pkN G)) fa 2 0 0) (ht : tT G ω (p0 167) (gText (pkN G))) {kb : Nat} (hkb : 22400 ≤ kb) : FV G l M_L_law kb Q0 5 [(1, .ref ax), (0, .ref G.2.1)] [] (none, ω) := by
  intro z1 p e s m args below meth c R H locs cells slots la C0 hP hS hc hs hl
  obtain ⟨ws, h1, h2, h3⟩ := hP
  suffices key : KV G l p e s m args below meth c R (MQ below (fQc G Q0) args s R.cells R.slots (fA G)) 5 kb (12 * kb) 5 [(1, .ref ax), (0, .ref G.2.1)] [] (ws ++ []) from
    key H locs cells slots la (by rw [List.append_nil]; exact h1) (by rw [List.append_nil]; exact h2) hS hc hs hl
  refine k_new (ci := 10) (T := TX6) (kc' := kb - 1) (ks' := 12 * kb - 12) C0 zin_6 tyX6 tyX6_ok cl_L_27 kmk_6 kin_6 rfl kdf_6 (by omega) (by omega) dL_law_5 (fun q1 => ?_)
  refine k_dup C0 dL_law_8 rfl ?_
  refine k_as ?_
  refine k_callI C0 (N := M_X6_init) (n := 0) (jc := 143) (js := 4410) (kc' := kb - 144) (ks' := 12 * kb - 4422) (av := []) (F := _) rfl c_X6_init i_X6_init rfl rfl rfl kii_6 q_L_242 (by decide) (by omega) (by omega) (Nat.le_of_ble_eq_true rfl) dL_law_9 (fun w hw => ?_)
  obtain ⟨r1, rr, rfl⟩ := hw
  refine k_astore_n C0 (ls' := [(2, .ref q1), (1, .ref ax), (0, .ref G.2.1)]) dL_law_12 rfl (by decide) rfl ?_
  intro H2 locs2 cells2 slots2 la2 hP2 hD2 hS2 hc2 hs2 hl2
  rw [List.append_nil, FL_eq] at hP2 hD2
  obtain ⟨hP3, hD3⟩ := fl_all hP2 hD2
  have C1 : FCx (zG1 G q1 r1 rr) M_L_law p s m args meth c R := C0
  have hfP : fP (zG1 G q1 r1 rr) (some s0, ω) H2 := ⟨ws, hP3, hD3, h3⟩
  have key2 := lw_13 (G := zG1 G q1 r1 rr) (l := l) (K := fun v _ _ => v = 1) hL (fun _ _ => rfl) s0_T s0_16 (ω := ω) (ax := ax) (p := p0) (fa := fa) W0 hd ht (kb := kb - 370) (by omega) z1 p e s m args below meth c R H2 locs2 cells2 slots2 la2 C1 hfP hS2 (by omega) (by omega) hl2
  intro T hT X
  obtain ⟨t, a1, o, b1, b2, ⟨⟨v, S', hv, ⟨x, hx, hx1⟩, -⟩, hF⟩, hL3⟩ := key2 T hT X
  refine ⟨t, a1, o, b1, b2, ⟨⟨v, (none, fun _ => none), hv, ⟨?_, rfl⟩, fP_nil G _⟩, hF⟩, hL3⟩
  rw [hx]
  have hx1 : x = 1 := hx1
  rw [hx1]
theorem lw_0 (hd : dist G) (hdup : dup G) (hL : G.2.2.1 < 2 ^ 31) {kb : Nat} (hkb : 31500 ≤ kb) : FV G l M_L_law kb Q0 0 [(0, .ref G.2.1)] [] (none, fun _ => none) := by
  refine f_aload_n dL_law_0 rfl 0 rfl ?_
  refine f_callSr (j1 := 9000) (j2 := kb - 9000) (av := [.ref G.2.1]) (K := fun ax o ω => o = none ∧ ∃ (p : Nat → Nat) (fa : Nat → Nat → Nat → Int32), WR G ω ax p (gRow (pkN G)) fa ∧ fdone (gRow (pkN G)) fa 2 0 0 ∧ tT G ω (p 167) (gText (pkN G))) rfl (s_grown hd hdup hL (Nat.le_refl _) (fun ax p ω fa W hd ht => ⟨rfl, p, fa, W, hd, ht⟩)) i_X7_grown rfl s_X7_grown q_L_238 (by decide) (by omega) (Nat.le_of_ble_eq_true rfl) dL_law_1 (fun v o ω H => ?_)
  obtain ⟨rfl, p, fa, W, hf, ht⟩ := H
  refine f_astore_n (ls' := [(1, .ref v), (0, .ref G.2.1)]) dL_law_4 rfl (by decide) rfl ?_
  exact lw_5 hL W hf ht (by omega)
end LWe
theorem whole_start {p : Program} {e : Env} {s : State} {m : MethodId} {below : List Frame} {meth : Method} {c : Code} (l : Launch) (hflags : l.flags = flags0) {b L : Nat} {xs : Nat → Int32} (hL : L ≤ 260) (C0 : lw_At p s m meth c b L xs) : W p l e room_1 s m #[Value.ref b] below meth c s.heap [] 0 0 (lw_Z below #[Value.ref b] s) (entryFrame m ([Value.ref b] : List Value).toArray 5) := by
  obtain ⟨hx, hb, hr, hml, hown, hts, hX, hbl, hlocks, hgv, hnm⟩ := C0
  have z1 : l.stackTraces = false := by unfold Launch.stackTraces; rw [hflags]; decide
  obtain ⟨D, dA, hK⟩ := st_K hts
  obtain ⟨aK, aV, hZ⟩ := st_X hgv hts hX hbl
  obtain ⟨hF0, hdup⟩ := hZ D dA (fun _ => 0)
  have hK0 := hK (fun _ => 0) s.heap.size aK aV
  have C : FCx ((D, dA, (fun _ => 0), s.heap.size, aK, aV), b, L, xs) M_L_law p s m #[Value.ref b] meth c room_1 :=
    ⟨hx, hb, hr, hml, hown, st_tb hts, hlocks, hnm, by decide, by decide, Nat.le_refl _, hK0, hF0⟩
  have hl := lv_entry ([Value.ref b]) (n := 5) (Nat.le_of_ble_eq_true rfl)
  rw [lg_entry_eq]
  intro T hT X
  obtain ⟨t, a1, o, b1, b2, ⟨⟨v, S', hv, ⟨hv1, -⟩, -⟩, -⟩, Ls, ⟨hret, hW, hsame⟩, hfree⟩ := lw_0 (G := ((D, dA, (fun _ => 0), s.heap.size, aK, aV), b, L, xs)) (l := l) (st_dist hK0) hdup (show L < 2 ^ 31 by omega) (kb := 40000) (by omega) z1 p e s m #[Value.ref b] below meth c room_1 s.heap [] 0 0 _ C (fP_nil _ _) va_S.rf (by decide) (by decide) hl T hT X
  refine ⟨t, a1, o, b1, b2, by rw [hv, hv1], lw_closed (d0 := s.drawn) (Drawn.sameBut.refl s.drawn lw_cs) hret hW ?_⟩
  exact State.sameButNew.drop_fresh (L := []) (J := Ls) hsame (fun q hq => hfree q hq)
set_option maxHeartbeats 4000000 in
theorem lw_walk (l : Launch) (hflags : l.flags = flags0) (b : Addr) (xs : List Int32) : MetFree l x (headSpec (Jvm.Cond.code x code maxLocals ret :: tables_1) room_1) (lw_P b xs) (fun _ _ _ _ _ => True) lw_Q := by
  refine MetFree.of_bodyS (code := code) (maxLocals := maxLocals) (ret := ret) (by decide) ?_ ?_
  · intro args s m h hn
    obtain ⟨meth, c, h1, h2, h3, h4, h5, h6, -, -⟩ := Cond.code_spec hn (atoms_spec (ws := Jvm.Cond.code x code maxLocals ret :: tables_1) h _ List.mem_cons_self)
    exact ⟨meth, c, h1, h2, h3, h4, h5, h6⟩
  · intro p e s m args below meth c s₁ B hml0 hP _
    obtain ⟨rfl, hx, hbd, hgv⟩ := hP
    obtain ⟨scr, harrAt, hlist, hof, hsmall⟩ := hx
    obtain ⟨hcb, hkn, -, -⟩ := State.arrayAt?_spec harrAt
    have hown : s.vm.findClass R_law = some m.cls := findClass_of_methodNamed B.named
    have hts0 : ∀ c ∈ (Jvm.Cond.code x code maxLocals ret :: tables_1), c.before #[Value.ref b] s = true := atoms_spec (ws := Jvm.Cond.code x code maxLocals ret :: tables_1) B.pre
    have hts : ∀ w ∈ lw_tbl, w.before #[Value.ref b] s = true := k2_hts_sels lw_privs (fun w hw => hts0 w (List.mem_cons_of_mem _ hw)) lw_privs_ok
    have hml : c.maxLocals = 5 := B.maxLocals_eq (hts0 _ List.mem_cons_self)
    have X₀ : Stand p l e room_1 s m #[Value.ref b] below meth c s₁ [] 0 0 := Stand.of_body B
    have hh0 : s₁.heap = s.heap := by rw [B.state]; rfl
    have hsz : scr.slots.size = xs.length := by rw [← Array.length_toList, hlist, List.length_map]
    have hval : ∀ j : Nat, j < xs.length → scr.slots[j]? = some (.int (xs.getD j 0)) := fun j hj => by
      rw [← Array.getElem?_toList, hlist]
      simp [hj]
    have hbl : b < s.heap.size := (Array.getElem?_eq_some_iff.mp hcb).1
    have hX : va_X b xs.length (fun j => xs.getD j 0) s s.heap := ⟨scr, hcb, hof, hkn, hsz, hval⟩
    have K : W p l e room_1 s m #[Value.ref b] below meth c s₁.heap [] 0 0 (lw_Z below #[Value.ref b] s) (entryFrame m ([Value.ref b] : List Value).toArray 5) := by
      rw [hh0]
      exact whole_start l hflags hbd ⟨B.exec, B.bytes, B.returns, hml, hown, hts, hX, hbl, B.notSynchronized, hgv, (name_of_methodNamed B.named B.method).1⟩
    obtain ⟨t, a1, o, b1, b2, b3⟩ := K s₁ rfl X₀
    exact ⟨t, o, a1, b1, b2, b3⟩
theorem lw_pre_spec {args : Array Value} {s : State} (h : (Jvm.Cond.and given_1 narrow_1).before args s = true) (hr : rest_1_c.before args s = true) : ∃ (b : Addr) (xs : List Int32), lw_P b xs args s := by
  have hs := flat_of_before _ h
  have hq := flat_of_before _ hr
  have hc : (Cond.count 1).before args s = true := hs _ (by decide +kernel)
  have harr : (Cond.arrayOf (.arg 0) .int).before args s = true := hs _ (by decide +kernel)
  have hle : (Cond.le (.length (.arg 0)) (.int 260)).before args s = true := hs _ (by decide +kernel)
  have hlen : (Cond.isInt (.length (.arg 0))).before args s = true := hq _ (by decide +kernel)
  have hall : (Cond.all (.arg 0) (.isInt (.elem (.arg 0) (.index 0)))).before args s = true := hq _ (by decide +kernel)
  obtain ⟨b, xs, hb, hx⟩ := State.ints_of_pre rfl harr hlen hall
  have hsm : xs.length < 2 ^ 31 := hx.choose_spec.2.2.2
  have hev : (Term.length (.arg 0)).eval args s none [] s = some (.int xs.length.toInt32) := hx.length_eval hb
  have hv := Cond.le_ints hev (show (Term.int 260).eval args s none [] s = some (.int 260) from rfl)
  have hd : xs.length.toInt32 ≤ 260 := by
    simpa [Cond.before, Cond.holds, hv] using hle
  have hN : xs.length ≤ 260 := (Int32.ofNat_le_ofNat hsm (by decide)).mp (show Int32.ofNat xs.length ≤ Int32.ofNat 260 from hd)
  exact ⟨b, xs, Cond.one_arg hc (show args[0]? = some (.ref b) from hb), hx, hN, h⟩
theorem lw_comes (l : Launch) (hflags : l.flags = flags0) : Comes l x (Jvm.Cond.code x code maxLocals ret :: tables_1) room_1 (fun tb e args s => Calls_1 tb e args s ∧ rest_1 tb e args s ∧ Pre_1 tb e args s)
    (fun _ _ args s o t => lw_Q args s o t) := by
  intro p e ha hc hk s m args below hf hfit hheap happ hpre
  obtain ⟨b, xs, hP⟩ := lw_pre_spec hpre.2.2 hpre.2.1
  obtain ⟨k, o, h1, h2, h3, hQ⟩ := lw_walk l hflags b xs p e ha hc hk s m args below hf ((Spec.applies_iff_loose hf).mp happ).1 hP trivial
  exact ⟨k, o, h1, h2, h3, hQ⟩
theorem lw_frame {s t : State} {o : Outcome} {args : Array Value} (h : State.butDraws s t lw_cs (fun t1 => Framed s o t1 [] 600086 7301442)) :
    State.butDraws s t [Jvm.Choice.named "NaN.bits"] (fun t1 => Framed s o t1 (fieldLocs frame_1_writes args s ++ arrayLocs frame_1_arrays args s ++ staticLocs frame_1_statics s) 600086 7301442) := h
theorem lw_limb (L : Cond) (hL : ∀ (args : Array Value) (s t : State), L.after args s (.returned (some (.int 1))) t = true) :
    ArmFor flags0 classFile x code maxLocals ret World_1 tables_1 room_1 Calls_1 rest_1 Pre_1
      (fun tb e a s o t => postC L tb e a s o t ∧ State.butDraws s t [Jvm.Choice.named "NaN.bits"] (fun t1 => Framed s o t1 (fieldLocs frame_1_writes a s ++ arrayLocs frame_1_arrays a s ++ staticLocs frame_1_statics s) 600086 7301442)) := by
  intro l hflags _ _ p e ha hc hk s m args below hf hfit hheap happ hpre
  obtain ⟨k, o, h1, h2, h3, rfl, hF⟩ := lw_comes l hflags p e ha hc hk s m args below hf hfit hheap happ hpre
  exact ⟨k, _, h1, h2, h3, hL args s _, lw_frame hF⟩
theorem i_vc : Claimed_1_1 ∧ Claimed_1_2 := ⟨lw_limb limb_1_1 (fun args s t => by simp [limb_1_1, Cond.after, Cond.holds, Cond.value]), lw_limb limb_1_2 (fun args s t => Cond.after_iff.mpr (by
  first | (rw [show limb_1_2 = Cond.eq .result (.int 1) from rfl, Cond.eq_ints (x := 1) (y := 1) rfl rfl]; simp; done) | (simp [limb_1_2, Cond.value, Term.eval]; done)))⟩
