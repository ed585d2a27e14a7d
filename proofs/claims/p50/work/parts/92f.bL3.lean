abbrev L_L_acts_58 (G : fG) (l : Launch) (K : Int32 → Option zS → fW → Prop) (r1 : Nat) (z0 : Int32) (o : Option zS) (ω : fW) (kb : Nat) : Prop :=
  FV G l M_L_acts kb (fQi K) 58 [(0, .ref (zad G.1 0)), (1, .ref r1)] [.int z0] (o, ω)
abbrev L_L_acts_80 (G : fG) (l : Launch) (K : Int32 → Option zS → fW → Prop) (r1 : Nat) (z0 : Int32) (o : Option zS) (ω : fW) (kb : Nat) : Prop :=
  FV G l M_L_acts kb (fQi K) 80 [] [.int z0] (o, ω)
abbrev L_L_acts_198 (G : fG) (l : Launch) (K : Int32 → Option zS → fW → Prop) (r1 : Nat) (z0 : Int32) (o : Option zS) (ω : fW) (kb : Nat) : Prop :=
  FV G l M_L_acts kb (fQi K) 198 [] [.int z0] (o, ω)
abbrev L_L_acts_220 (G : fG) (l : Launch) (K : Int32 → Option zS → fW → Prop) (r1 : Nat) (y6 : Int32) (y7 : Nat) (z0 : Int32) (o : Option zS) (ω : fW) (kb : Nat) : Prop :=
  FV G l M_L_acts kb (fQi K) 220 [(0, .ref (zad G.1 0)), (6, .int y6), (7, .ref y7)] [.int z0] (o, ω)
abbrev L_L_acts_237 (G : fG) (l : Launch) (K : Int32 → Option zS → fW → Prop) (r1 : Nat) (y6 : Int32) (y7 : Nat) (y10 : Int32) (z0 : Int32) (z1 : Int32) (o : Option zS) (ω : fW) (kb : Nat) : Prop :=
  FV G l M_L_acts kb (fQi K) 237 [(0, .ref (zad G.1 0)), (6, .int y6), (7, .ref y7), (10, .int y10)] [.int z0, .int z1] (o, ω)
abbrev L_L_acts_245 (G : fG) (l : Launch) (K : Int32 → Option zS → fW → Prop) (r1 : Nat) (y6 : Int32) (y7 : Nat) (y10 : Int32) (z0 : Int32) (o : Option zS) (ω : fW) (kb : Nat) : Prop :=
  FV G l M_L_acts kb (fQi K) 245 [(0, .ref (zad G.1 0)), (6, .int y6), (7, .ref y7), (10, .int y10)] [.int z0] (o, ω)
abbrev L_L_acts_265 (G : fG) (l : Launch) (K : Int32 → Option zS → fW → Prop) (r1 : Nat) (y6 : Int32) (y10 : Int32) (y11 : Int32) (z0 : Int32) (z1 : Int32) (z2 : Nat) (o : Option zS) (ω : fW) (kb : Nat) : Prop :=
  FV G l M_L_acts kb (fQi K) 265 [(0, .ref (zad G.1 0)), (6, .int y6), (10, .int y10), (11, .int y11)] [.int z0, .int z1, .ref z2] (o, ω)
abbrev L_L_acts_266 (G : fG) (l : Launch) (K : Int32 → Option zS → fW → Prop) (r1 : Nat) (y6 : Int32) (y10 : Int32) (y11 : Int32) (o : Option zS) (ω : fW) (kb : Nat) : Prop :=
  FV G l M_L_acts kb (fQi K) 266 [(0, .ref (zad G.1 0)), (6, .int y6), (10, .int y10), (11, .int y11)] [] (o, ω)
abbrev L_L_acts_284 (G : fG) (l : Launch) (K : Int32 → Option zS → fW → Prop) (r1 : Nat) (z0 : Int32) (o : Option zS) (ω : fW) (kb : Nat) : Prop :=
  FV G l M_L_acts kb (fQi K) 284 [] [.int z0] (o, ω)
abbrev L_L_acts_332 (G : fG) (l : Launch) (K : Int32 → Option zS → fW → Prop) (r1 : Nat) (y6 : Int32) (y7 : Nat) (y8 : Int32) (y9 : Int32) (y10 : Int32) (y11 : Int32) (o : Option zS) (ω : fW) (kb : Nat) : Prop :=
  FV G l M_L_acts kb (fQi K) 332 [(0, .ref (zad G.1 0)), (1, .ref r1), (6, .int y6), (7, .ref y7), (8, .int y8), (9, .int y9), (10, .int y10), (11, .int y11)] [] (o, ω)
abbrev L_L_acts_347 (G : fG) (l : Launch) (K : Int32 → Option zS → fW → Prop) (r1 : Nat) (y6 : Int32) (y7 : Nat) (y8 : Int32) (y9 : Int32) (y10 : Int32) (y11 : Int32) (y12 : Int32) (o : Option zS) (ω : fW) (kb : Nat) : Prop :=
  FV G l M_L_acts kb (fQi K) 347 [(0, .ref (zad G.1 0)), (1, .ref r1), (6, .int y6), (7, .ref y7), (8, .int y8), (9, .int y9), (10, .int y10), (11, .int y11), (12, .int y12)] [] (o, ω)
abbrev L_L_acts_405 (G : fG) (l : Launch) (K : Int32 → Option zS → fW → Prop) (r1 : Nat) (y10 : Int32) (z0 : Int32) (z1 : Int32) (o : Option zS) (ω : fW) (kb : Nat) : Prop :=
  FV G l M_L_acts kb (fQi K) 405 [(10, .int y10)] [.int z0, .int z1, .ref (zad G.1 0)] (o, ω)
abbrev L_L_acts_418 (G : fG) (l : Launch) (K : Int32 → Option zS → fW → Prop) (r1 : Nat) (z0 : Int32) (o : Option zS) (ω : fW) (kb : Nat) : Prop :=
  FV G l M_L_acts kb (fQi K) 418 [] [.int z0] (o, ω)
abbrev L_L_acts_512 (G : fG) (l : Launch) (K : Int32 → Option zS → fW → Prop) (r1 : Nat) (y10 : Int32) (y11 : Int32) (y12 : Int32) (y13 : Int32) (z0 : Int32) (z1 : Int32) (o : Option zS) (ω : fW) (kb : Nat) : Prop :=
  FV G l M_L_acts kb (fQi K) 512 [(10, .int y10), (11, .int y11), (12, .int y12), (13, .int y13)] [.int z0, .int z1, .ref (zad G.1 0)] (o, ω)
abbrev L_L_acts_531 (G : fG) (l : Launch) (K : Int32 → Option zS → fW → Prop) (r1 : Nat) (z0 : Int32) (o : Option zS) (ω : fW) (kb : Nat) : Prop :=
  FV G l M_L_acts kb (fQi K) 531 [] [.int z0] (o, ω)
abbrev L_L_acts_546 (G : fG) (l : Launch) (K : Int32 → Option zS → fW → Prop) (r1 : Nat) (y6 : Int32) (y7 : Nat) (y9 : Int32) (y13 : Int32) (y14 : Int32) (o : Option zS) (ω : fW) (kb : Nat) : Prop :=
  FV G l M_L_acts kb (fQi K) 546 [(0, .ref (zad G.1 0)), (1, .ref r1), (6, .int y6), (7, .ref y7), (9, .int y9), (13, .int y13), (14, .int y14)] [] (o, ω)
abbrev L_L_acts_561 (G : fG) (l : Launch) (K : Int32 → Option zS → fW → Prop) (r1 : Nat) (y6 : Int32) (y7 : Nat) (y9 : Int32) (y13 : Int32) (y14 : Int32) (y15 : Int32) (o : Option zS) (ω : fW) (kb : Nat) : Prop :=
  FV G l M_L_acts kb (fQi K) 561 [(0, .ref (zad G.1 0)), (1, .ref r1), (6, .int y6), (7, .ref y7), (9, .int y9), (13, .int y13), (14, .int y14), (15, .int y15)] [] (o, ω)
abbrev L_L_acts_604 (G : fG) (l : Launch) (K : Int32 → Option zS → fW → Prop) (r1 : Nat) (y6 : Int32) (y7 : Nat) (y9 : Int32) (y14 : Int32) (y15 : Int32) (z0 : Int32) (z1 : Int32) (o : Option zS) (ω : fW) (kb : Nat) : Prop :=
  FV G l M_L_acts kb (fQi K) 604 [(0, .ref (zad G.1 0)), (1, .ref r1), (6, .int y6), (7, .ref y7), (9, .int y9), (14, .int y14), (15, .int y15)] [.int z0, .int z1] (o, ω)
abbrev L_L_acts_695 (G : fG) (l : Launch) (K : Int32 → Option zS → fW → Prop) (r1 : Nat) (z0 : Int32) (o : Option zS) (ω : fW) (kb : Nat) : Prop :=
  FV G l M_L_acts kb (fQi K) 695 [] [.int z0] (o, ω)
abbrev L_L_acts_769 (G : fG) (l : Launch) (K : Int32 → Option zS → fW → Prop) (r1 : Nat) (y9 : Int32) (y10 : Int32) (y11 : Int32) (y12 : Int32) (z0 : Int32) (o : Option zS) (ω : fW) (kb : Nat) : Prop :=
  FV G l M_L_acts kb (fQi K) 769 [(1, .ref r1), (9, .int y9), (10, .int y10), (11, .int y11), (12, .int y12)] [.int z0, .ref (zad G.1 0)] (o, ω)
abbrev L_L_acts_798 (G : fG) (l : Launch) (K : Int32 → Option zS → fW → Prop) (r1 : Nat) (z0 : Int32) (o : Option zS) (ω : fW) (kb : Nat) : Prop :=
  FV G l M_L_acts kb (fQi K) 798 [] [.int z0] (o, ω)
set_option maxRecDepth 20000 in
set_option maxHeartbeats 2000000 in
theorem b_L_acts {G : fG} {l : Launch} {K : Int32 → Option zS → fW → Prop} {r1 : Nat} {x3 : Int32} {σ : zS} {ω : fW} {kb : Nat}
    (H : (0 ≤ kb ∧ FC G l M_L_pick 0 [.ref G.2.1, .int (340 + x3), .int 400000] ((some σ), ω) (fQi (fun v1 o2 ω3 => (0 ≤ kb ∧ FC G l M_L_pick 0 [.ref G.2.1, .int (300 + x3), .int 11] (o2, ω3) (fQi (fun v4 o5 ω6 => ((¬ v4 = 0 → (∃ (fs8 : List Value) (w9 : Nat), ω6 r1 = some (.inr (11, fs8)) ∧ fs8[2]? = some (.ref w9) ∧ (0 ≤ kb ∧ ∃ fs125 : List Value, ω6 w9 = some (.inr (3, fs125)) ∧ FC G l M_Jx4a65c_isEmpty_aae02 0 [.ref w9] (o5, ω6) (fQi (fun v10 o11 ω12 => ((v10 = 0 → (∃ (fs14 : List Value) (w15 : Nat), ω12 r1 = some (.inr (11, fs14)) ∧ fs14[2]? = some (.ref w15) ∧ (0 ≤ kb ∧ ∃ fs124 : List Value, ω12 w15 = some (.inr (3, fs124)) ∧ FC G l M_Jx4a65c_size_8abf5 0 [.ref w15] (o11, ω12) (fQi (fun v16 o17 ω18 => (¬ v16 = 0 ∧ (∃ (fs19 : List Value) (w20 : Nat), ω18 r1 = some (.inr (11, fs19)) ∧ fs19[2]? = some (.ref w20) ∧ (0 ≤ kb ∧ ∃ fs123 : List Value, ω18 w20 = some (.inr (3, fs123)) ∧ FC G l M_Jx4a65c_get_915e3 0 [.ref w20, .int (v1 - v1 / v16 * v16)] (o17, ω18) (fQr (fun v21 o22 ω23 => (∃ y24 : vp_A, ω23 v21 = some (.inl (G.1.2.1 0, y24)) ∧ (0 ≤ kb ∧ ∃ fs122 : List Value, ω23 r1 = some (.inr (11, fs122)) ∧ FC G l M_X7_first 0 [.ref r1, .int (v1 - v1 / v16 * v16)] (o22, ω23) (fQi (fun v25 o26 ω27 => ((4 ≤ v4 → ((¬ v4 = 4 → ((¬ v4 = 5 → (∃ (n31 : Nat) (f32 : Nat → Int32), ω27 v21 = some (.inl (G.1.2.1 0, n31, .inl f32)) ∧ vp_in 0 n31 ∧ (¬ (f32 (Int32.toNatClampNeg 0)) = 0 ∧ (∃ (fs33 : List Value) (w34 : Int32), ω27 r1 = some (.inr (11, fs33)) ∧ fs33[0]? = some (.int w34) ∧ (¬ w34 = 0 ∧ ((8 ≤ v4 → ((¬ v4 = 8 → (∃ (fs37 : List Value) (w38 : Nat), ω27 r1 = some (.inr (11, fs37)) ∧ fs37[3]? = some (.ref w38) ∧ (0 ≤ kb ∧ ∃ fs70 : List Value, ω27 w38 = some (.inr (3, fs70)) ∧ FC G l M_Jx4a65c_size_8abf5 0 [.ref w38] (o26, ω27) (fQi (fun v39 o40 ω41 => ((¬ v39 = 16 → (∃ (fs43 : List Value) (w44 : Nat), ω41 r1 = some (.inr (11, fs43)) ∧ fs43[3]? = some (.ref w44) ∧ (1 ≤ kb ∧ ∀ (q45 : Nat) (ω46 : fW), ω41 q45 = none → ω46 = fup ω41 q45 (.inl (G.1.2.1 0, 6, .inl (fun _ => 0))) → (∃ (n47 : Nat) (f48 : Nat → Int32), ω46 q45 = some (.inl (G.1.2.1 0, n47, .inl f48)) ∧ vp_in 0 n47 ∧ (∀ ω49 : fW, ω49 = fup ω46 q45 (.inl (G.1.2.1 0, n47, .inl (upd f48 (Int32.toNatClampNeg 0) ((v1 / 8) - (v1 / 8) / 2 * 2)))) → (∃ (n50 : Nat) (f51 : Nat → Int32), ω49 q45 = some (.inl (G.1.2.1 0, n50, .inl f51)) ∧ vp_in 1 n50 ∧ (∀ ω52 : fW, ω52 = fup ω49 q45 (.inl (G.1.2.1 0, n50, .inl (upd f51 (Int32.toNatClampNeg 1) (v25 + ((v1 / 32) - (v1 / 32) / (f32 (Int32.toNatClampNeg 0)) * (f32 (Int32.toNatClampNeg 0))))))) → (∃ (n53 : Nat) (f54 : Nat → Int32), ω52 q45 = some (.inl (G.1.2.1 0, n53, .inl f54)) ∧ vp_in 2 n53 ∧ (∀ ω55 : fW, ω55 = fup ω52 q45 (.inl (G.1.2.1 0, n53, .inl (upd f54 (Int32.toNatClampNeg 2) ((v1 / 256) - (v1 / 256) / w34 * w34)))) → (∃ (n56 : Nat) (f57 : Nat → Int32), ω55 q45 = some (.inl (G.1.2.1 0, n56, .inl f57)) ∧ vp_in 3 n56 ∧ (∀ ω58 : fW, ω58 = fup ω55 q45 (.inl (G.1.2.1 0, n56, .inl (upd f57 (Int32.toNatClampNeg 3) 1))) → (∃ (n59 : Nat) (f60 : Nat → Int32), ω58 q45 = some (.inl (G.1.2.1 0, n59, .inl f60)) ∧ vp_in 4 n59 ∧ (∀ ω61 : fW, ω61 = fup ω58 q45 (.inl (G.1.2.1 0, n59, .inl (upd f60 (Int32.toNatClampNeg 4) 1))) → (∃ (n62 : Nat) (f63 : Nat → Int32), ω61 q45 = some (.inl (G.1.2.1 0, n62, .inl f63)) ∧ vp_in 5 n62 ∧ (∀ ω64 : fW, ω64 = fup ω61 q45 (.inl (G.1.2.1 0, n62, .inl (upd f63 (Int32.toNatClampNeg 5) ((v1 / 2048) - (v1 / 2048) / 10 * 10)))) → (3 ≤ (kb - 1) ∧ ∃ fs69 : List Value, ω64 w44 = some (.inr (3, fs69)) ∧ FC G l M_Jx4a65c_add_9ea2d 3 [.ref w44, .ref q45] (o40, ω64) (fQi (fun v65 o66 ω67 => ((¬ ((v1 / 8) - (v1 / 8) / 2 * 2) = 1 → L_L_acts_769 G l K r1 v25 ((v1 / 32) - (v1 / 32) / (f32 (Int32.toNatClampNeg 0)) * (f32 (Int32.toNatClampNeg 0))) ((v1 / 256) - (v1 / 256) / w34 * w34) ((v1 / 2048) - (v1 / 2048) / 10 * 10) 0 o66 ω67 ((kb - 1) - 3)) ∧ (((v1 / 8) - (v1 / 8) / 2 * 2) = 1 → L_L_acts_769 G l K r1 v25 ((v1 / 32) - (v1 / 32) / (f32 (Int32.toNatClampNeg 0)) * (f32 (Int32.toNatClampNeg 0))) ((v1 / 256) - (v1 / 256) / w34 * w34) ((v1 / 2048) - (v1 / 2048) / 10 * 10) 1 o66 ω67 ((kb - 1) - 3))))))))))))))))))))) ∧ (v39 = 16 → K 1 o40 ω41))))))) ∧ (v4 = 8 → L_L_acts_546 G l K r1 (v1 - v1 / v16 * v16) v21 v25 0 v25 o26 ω27 kb))) ∧ (¬ 8 ≤ v4 → (∃ (fs71 : List Value) (w72 : Nat), ω27 r1 = some (.inr (11, fs71)) ∧ fs71[4]? = some (.ref w72) ∧ (∃ (n73 : Nat) (f74 : Nat → Option Nat) (w75 : Nat), ω27 w72 = some (.inl (G.1.2.1 6, n73, .inr (.inr (.inr (.inr f74))))) ∧ vp_in ((v1 / 8) - (v1 / 8) / 2 * 2) n73 ∧ f74 (Int32.toNatClampNeg ((v1 / 8) - (v1 / 8) / 2 * 2)) = some w75 ∧ (∃ (n76 : Nat) (f77 : Nat → Option Nat) (w78 : Nat), ω27 w75 = some (.inl (G.1.2.1 4, n76, .inr (.inr (.inr (.inr f77))))) ∧ vp_in (v25 + ((v1 / 32) - (v1 / 32) / (f32 (Int32.toNatClampNeg 0)) * (f32 (Int32.toNatClampNeg 0)))) n76 ∧ f77 (Int32.toNatClampNeg (v25 + ((v1 / 32) - (v1 / 32) / (f32 (Int32.toNatClampNeg 0)) * (f32 (Int32.toNatClampNeg 0))))) = some w78 ∧ (∃ (n79 : Nat) (f80 : Nat → Int32), ω27 w78 = some (.inl (G.1.2.1 0, n79, .inl f80)) ∧ vp_in ((v1 / 256) - (v1 / 256) / w34 * w34) n79 ∧ (∃ (fs81 : List Value) (w82 : Nat), ω27 r1 = some (.inr (11, fs81)) ∧ fs81[4]? = some (.ref w82) ∧ (∃ (n83 : Nat) (f84 : Nat → Option Nat) (w85 : Nat), ω27 w82 = some (.inl (G.1.2.1 6, n83, .inr (.inr (.inr (.inr f84))))) ∧ vp_in ((v1 / 8) - (v1 / 8) / 2 * 2) n83 ∧ f84 (Int32.toNatClampNeg ((v1 / 8) - (v1 / 8) / 2 * 2)) = some w85 ∧ (∃ (n86 : Nat) (f87 : Nat → Option Nat) (w88 : Nat), ω27 w85 = some (.inl (G.1.2.1 4, n86, .inr (.inr (.inr (.inr f87))))) ∧ vp_in (v25 + ((v1 / 32) - (v1 / 32) / (f32 (Int32.toNatClampNeg 0)) * (f32 (Int32.toNatClampNeg 0)))) n86 ∧ f87 (Int32.toNatClampNeg (v25 + ((v1 / 32) - (v1 / 32) / (f32 (Int32.toNatClampNeg 0)) * (f32 (Int32.toNatClampNeg 0))))) = some w88 ∧ (∃ (n89 : Nat) (f90 : Nat → Int32), ω27 w88 = some (.inl (G.1.2.1 0, n89, .inl f90)) ∧ vp_in ((v1 / 256) - (v1 / 256) / w34 * w34) n89 ∧ (∀ ω91 : fW, ω91 = fup ω27 w88 (.inl (G.1.2.1 0, n89, .inl (upd f90 (Int32.toNatClampNeg ((v1 / 256) - (v1 / 256) / w34 * w34)) ((v1 / 2048) - (v1 / 2048) / 10 * 10)))) → ((¬ ((v1 / 8) - (v1 / 8) / 2 * 2) = 1 → L_L_acts_512 G l K r1 ((v1 / 32) - (v1 / 32) / (f32 (Int32.toNatClampNeg 0)) * (f32 (Int32.toNatClampNeg 0))) ((v1 / 256) - (v1 / 256) / w34 * w34) ((v1 / 2048) - (v1 / 2048) / 10 * 10) (f80 (Int32.toNatClampNeg ((v1 / 256) - (v1 / 256) / w34 * w34))) 0 (v1 - v1 / v16 * v16) o26 ω91 kb) ∧ (((v1 / 8) - (v1 / 8) / 2 * 2) = 1 → L_L_acts_512 G l K r1 ((v1 / 32) - (v1 / 32) / (f32 (Int32.toNatClampNeg 0)) * (f32 (Int32.toNatClampNeg 0))) ((v1 / 256) - (v1 / 256) / w34 * w34) ((v1 / 2048) - (v1 / 2048) / 10 * 10) (f80 (Int32.toNatClampNeg ((v1 / 256) - (v1 / 256) / w34 * w34))) 1 (v1 - v1 / v16 * v16) o26 ω91 kb)))))))))))))))))) ∧ (v4 = 5 → (∃ (n93 : Nat) (f94 : Nat → Int32), ω27 v21 = some (.inl (G.1.2.1 0, n93, .inl f94)) ∧ vp_in (3 + ((v1 / 8) - (v1 / 8) / 2 * 2)) n93 ∧ (∃ (fs95 : List Value) (w96 : Int32), ω27 r1 = some (.inr (11, fs95)) ∧ fs95[1]? = some (.int w96) ∧ (((f94 (Int32.toNatClampNeg (3 + ((v1 / 8) - (v1 / 8) / 2 * 2)))) < w96 → (0 ≤ kb ∧ ∃ fs106 : List Value, ω27 r1 = some (.inr (11, fs106)) ∧ FC G l M_X7_unlike 0 [.ref r1, .int (v1 - v1 / v16 * v16), .int ((v1 / 8) - (v1 / 8) / 2 * 2)] (o26, ω27) (fQi (fun v98 o99 ω100 => (∃ (n101 : Nat) (f102 : Nat → Int32), ω100 v21 = some (.inl (G.1.2.1 0, n101, .inl f102)) ∧ vp_in (3 + ((v1 / 8) - (v1 / 8) / 2 * 2)) n101 ∧ (∃ (n103 : Nat) (f104 : Nat → Int32), ω100 v21 = some (.inl (G.1.2.1 0, n103, .inl f104)) ∧ vp_in (3 + ((v1 / 8) - (v1 / 8) / 2 * 2)) n103 ∧ (∀ ω105 : fW, ω105 = fup ω100 v21 (.inl (G.1.2.1 0, n103, .inl (upd f104 (Int32.toNatClampNeg (3 + ((v1 / 8) - (v1 / 8) / 2 * 2))) ((f102 (Int32.toNatClampNeg (3 + ((v1 / 8) - (v1 / 8) / 2 * 2)))) + 1)))) → L_L_acts_332 G l K r1 (v1 - v1 / v16 * v16) v21 ((v1 / 8) - (v1 / 8) / 2 * 2) v25 v98 v25 o99 ω105 kb))))))) ∧ (¬ (f94 (Int32.toNatClampNeg (3 + ((v1 / 8) - (v1 / 8) / 2 * 2)))) < w96 → K 1 o26 ω27))))))) ∧ (v4 = 4 → ((¬ ((v1 / 16) - (v1 / 16) / 2 * 2) = 0 → L_L_acts_220 G l K r1 (v1 - v1 / v16 * v16) v21 0 o26 ω27 kb) ∧ (((v1 / 16) - (v1 / 16) / 2 * 2) = 0 → L_L_acts_220 G l K r1 (v1 - v1 / v16 * v16) v21 1 o26 ω27 kb))))) ∧ (¬ 4 ≤ v4 → (∃ (n108 : Nat) (f109 : Nat → Int32), ω27 v21 = some (.inl (G.1.2.1 0, n108, .inl f109)) ∧ vp_in 2 n108 ∧ ((¬ (f109 (Int32.toNatClampNeg 2)) = 1 → (∃ (n111 : Nat) (f112 : Nat → Int32), ω27 v21 = some (.inl (G.1.2.1 0, n111, .inl f112)) ∧ vp_in 1 n111 ∧ (∃ (n113 : Nat) (f114 : Nat → Int32), ω27 v21 = some (.inl (G.1.2.1 0, n113, .inl f114)) ∧ vp_in 1 n113 ∧ (∀ ω115 : fW, ω115 = fup ω27 v21 (.inl (G.1.2.1 0, n113, .inl (upd f114 (Int32.toNatClampNeg 1) (((v1 / 16) - (v1 / 16) / 9 * 9) - 4)))) → (∃ (n116 : Nat) (f117 : Nat → Int32), ω115 v21 = some (.inl (G.1.2.1 0, n116, .inl f117)) ∧ vp_in 1 n116 ∧ (∃ σ121 : zS, o26 = some σ121 ∧ (1 ≤ kb ∧ ∀ n : Nat, CT (gB G.1 n) l M_X6_turn 1 [.ref (zad G.1 0), .int (v1 - v1 / v16 * v16), .int (f117 (Int32.toNatClampNeg 1))] σ121 (zQi (fun v118 σ119 => ((¬ v118 = (f112 (Int32.toNatClampNeg 1)) → L_L_acts_198 G l K r1 0 (some σ119) ω115 (kb - 1)) ∧ (v118 = (f112 (Int32.toNatClampNeg 1)) → L_L_acts_198 G l K r1 1 (some σ119) ω115 (kb - 1)))) (fun _ _ => False))))))))) ∧ ((f109 (Int32.toNatClampNeg 2)) = 1 → K 1 o26 ω27))))))))))))))))))) ∧ (¬ v10 = 0 → K 1 o11 ω12))))))) ∧ (v4 = 0 → ((0 ≤ ((v1 - v1 / 8 * 8) - 4) → L_L_acts_58 G l K r1 ((v1 - v1 / 8 * 8) - 3) o5 ω6 kb) ∧ (¬ 0 ≤ ((v1 - v1 / 8 * 8) - 4) → L_L_acts_58 G l K r1 ((v1 - v1 / 8 * 8) - 4) o5 ω6 kb))))))))))) :
    FC G l M_L_acts kb [.ref (zad G.1 0), .ref r1, .ref G.2.1, .int x3] ((some σ), ω) (fQi K) := by
  refine FC_of (by decide) (Nat.le_of_ble_eq_true rfl) ?_
  change FV _ _ _ _ _ 0 [(0, .ref (zad G.1 0)), (1, .ref r1), (2, .ref G.2.1), (3, .int x3)] [] _
  refine f_aload_n dL_acts_0 rfl 2 rfl ?_
  refine f_sipush (v := 340) dL_acts_1 (by decide) ?_
  refine f_iload_n dL_acts_4 rfl 3 rfl ?_
  refine f_iadd dL_acts_5 ?_
  refine f_ldc k_L_134 dL_acts_6 ?_
  refine f_callSi (j1 := 0) (j2 := kb) (av := [.ref G.2.1, .int (340 + x3), .int 400000]) rfl H.2 i_L_pick rfl s_L_pick q_L_135 (by decide) (f_kj H.1) (Nat.le_of_ble_eq_true rfl) dL_acts_8 (fun v1 o2 ω3 H => ?_)
  refine f_istore (ls' := [(4, .int v1), (0, .ref (zad G.1 0)), (1, .ref r1), (2, .ref G.2.1), (3, .int x3)]) dL_acts_11 (by decide) rfl ?_
  refine f_aload_n dL_acts_13 rfl 3 rfl ?_
  refine f_sipush (v := 300) dL_acts_14 (by decide) ?_
  refine f_iload_n dL_acts_17 rfl 4 rfl ?_
  refine f_iadd dL_acts_18 ?_
  refine f_bipush (v := 11) dL_acts_19 (by decide) ?_
  refine f_callSi (j1 := 0) (j2 := kb) (av := [.ref G.2.1, .int (300 + x3), .int 11]) rfl H.2 i_L_pick rfl s_L_pick q_L_135 (by decide) (f_kj H.1) (Nat.le_of_ble_eq_true rfl) dL_acts_21 (fun v4 o5 ω6 H => ?_)
  refine f_istore (ls' := [(5, .int v4), (4, .int v1), (0, .ref (zad G.1 0)), (1, .ref r1), (2, .ref G.2.1), (3, .int x3)]) dL_acts_24 (by decide) rfl ?_
  refine f_iload dL_acts_26 0 rfl ?_
  refine f_if_ne (tgt := 81) dL_acts_28 (by decide) (fun h7 => ?_) (fun h7 => ?_)
  · replace H := H.1 h7
    refine f_aload_n dL_acts_81 rfl 3 rfl ?_
    obtain ⟨fs8, w9, hfs8, gfs8, H⟩ := H
    refine gf_L_86 rfl hfs8 gfs8 dL_acts_82 ?_
    have hkfs125 := H.1
    obtain ⟨fs125, hfs125, H⟩ := H.2
    refine f_callFi (j1 := 0) (j2 := kb) (av := []) rfl hfs125 rfl rfl H i_Jx4a65c_isEmpty_aae02 rfl (by decide +kernel) (by decide +kernel) n_Jx4a65c_isEmpty_aae02 vi_Jx4a65c_isEmpty_aae02 q_L_143 (by decide) (f_kj hkfs125) (Nat.le_of_ble_eq_true rfl) dL_acts_85 (fun v10 o11 ω12 H => ?_)
    refine f_if_eq (tgt := 95) dL_acts_90 (by decide) (fun h13 => ?_) (fun h13 => ?_)
    · replace H := H.1 h13
      refine f_iload dL_acts_95 1 rfl ?_
      refine f_aload_n dL_acts_97 rfl 3 rfl ?_
      obtain ⟨fs14, w15, hfs14, gfs14, H⟩ := H
      refine gf_L_86 rfl hfs14 gfs14 dL_acts_98 ?_
      have hkfs124 := H.1
      obtain ⟨fs124, hfs124, H⟩ := H.2
      refine f_callFi (j1 := 0) (j2 := kb) (av := []) rfl hfs124 rfl rfl H i_Jx4a65c_size_8abf5 rfl (by decide +kernel) (by decide +kernel) n_Jx4a65c_size_8abf5 vi_Jx4a65c_size_8abf5 q_L_89 (by decide) (f_kj hkfs124) (Nat.le_of_ble_eq_true rfl) dL_acts_101 (fun v16 o17 ω18 H => ?_)
      refine f_irem dL_acts_106 H.1 ?_
      replace H := H.2
      refine f_istore (ls' := [(6, .int (v1 - v1 / v16 * v16)), (5, .int v4), (4, .int v1), (0, .ref (zad G.1 0)), (1, .ref r1), (2, .ref G.2.1), (3, .int x3)]) dL_acts_107 (by decide) rfl ?_
      refine f_aload_n dL_acts_109 rfl 4 rfl ?_
      obtain ⟨fs19, w20, hfs19, gfs19, H⟩ := H
      refine gf_L_86 rfl hfs19 gfs19 dL_acts_110 ?_
      refine f_iload dL_acts_113 0 rfl ?_
      have hkfs123 := H.1
      obtain ⟨fs123, hfs123, H⟩ := H.2
      refine f_callFr (j1 := 0) (j2 := kb) (av := [.int (v1 - v1 / v16 * v16)]) rfl hfs123 rfl rfl H i_Jx4a65c_get_915e3 rfl (by decide +kernel) (by decide +kernel) n_Jx4a65c_get_915e3 vi_Jx4a65c_get_915e3 q_L_92 (by decide) (f_kj hkfs123) (Nat.le_of_ble_eq_true rfl) dL_acts_115 (fun v21 o22 ω23 H => ?_)
      obtain ⟨y24, hy24, H⟩ := H
      refine f_cast0 cl_L_84 hy24 dL_acts_120 ?_
      refine f_astore (ls' := [(7, .ref v21), (6, .int (v1 - v1 / v16 * v16)), (5, .int v4), (4, .int v1), (0, .ref (zad G.1 0)), (1, .ref r1), (2, .ref G.2.1), (3, .int x3)]) dL_acts_123 (by decide) rfl ?_
      refine f_iload dL_acts_125 3 rfl ?_
      refine f_bipush (v := 8) dL_acts_127 (by decide) ?_
      refine f_idiv dL_acts_129 (by decide) ?_
      refine f_iconst (v := 2) dL_acts_130 (by decide) ?_
      refine f_irem dL_acts_131 (by decide) ?_
      refine f_istore (ls' := [(8, .int ((v1 / 8) - (v1 / 8) / 2 * 2)), (7, .ref v21), (6, .int (v1 - v1 / v16 * v16)), (5, .int v4), (4, .int v1), (0, .ref (zad G.1 0)), (1, .ref r1), (2, .ref G.2.1), (3, .int x3)]) dL_acts_132 (by decide) rfl ?_
      refine f_aload_n dL_acts_134 rfl 6 rfl ?_
      refine f_iload dL_acts_135 2 rfl ?_
      have hkfs122 := H.1
      obtain ⟨fs122, hfs122, H⟩ := H.2
      refine f_callVi (C := RX7) (j1 := 0) (j2 := kb) (av := [.int (v1 - v1 / v16 * v16)]) rfl hfs122 rfl rfl H i_X7_first rfl n_X7_first v_X7_first q_L_99 (by decide) (f_kj hkfs122) (Nat.le_of_ble_eq_true rfl) dL_acts_137 (fun v25 o26 ω27 H => ?_)
      refine f_istore (ls' := [(9, .int v25), (8, .int ((v1 / 8) - (v1 / 8) / 2 * 2)), (7, .ref v21), (6, .int (v1 - v1 / v16 * v16)), (5, .int v4), (4, .int v1), (0, .ref (zad G.1 0)), (1, .ref r1), (2, .ref G.2.1), (3, .int x3)]) dL_acts_140 (by decide) rfl ?_
      refine f_iload dL_acts_142 4 rfl ?_
      refine f_iconst (v := 4) dL_acts_144 (by decide) ?_
      refine f_icmp_ge (tgt := 199) dL_acts_145 (by decide) (fun h28 => ?_) (fun h28 => ?_)
      · replace H := H.1 h28
        refine f_iload dL_acts_199 4 rfl ?_
        refine f_iconst (v := 4) dL_acts_201 (by decide) ?_
        refine f_icmp_ne (tgt := 285) dL_acts_202 (by decide) (fun h29 => ?_) (fun h29 => ?_)
        · replace H := H.1 h29
          refine f_iload dL_acts_285 4 rfl ?_
          refine f_iconst (v := 5) dL_acts_287 (by decide) ?_
          refine f_icmp_ne (tgt := 419) dL_acts_288 (by decide) (fun h30 => ?_) (fun h30 => ?_)
          · replace H := H.1 h30
            refine f_iload dL_acts_419 5 rfl ?_
            refine f_bipush (v := 32) dL_acts_421 (by decide) ?_
            refine f_idiv dL_acts_423 (by decide) ?_
            refine f_aload dL_acts_424 2 rfl ?_
            refine f_iconst (v := 0) dL_acts_426 (by decide) ?_
            obtain ⟨n31, f32, hn31, gn31, H⟩ := H
            refine f_iald hn31 gn31 dL_acts_427 ?_
            refine f_irem dL_acts_428 H.1 ?_
            replace H := H.2
            refine f_istore (ls' := [(10, .int ((v1 / 32) - (v1 / 32) / (f32 (Int32.toNatClampNeg 0)) * (f32 (Int32.toNatClampNeg 0)))), (9, .int v25), (8, .int ((v1 / 8) - (v1 / 8) / 2 * 2)), (7, .ref v21), (6, .int (v1 - v1 / v16 * v16)), (5, .int v4), (4, .int v1), (0, .ref (zad G.1 0)), (1, .ref r1), (2, .ref G.2.1), (3, .int x3)]) dL_acts_429 (by decide) rfl ?_
            refine f_iload dL_acts_431 6 rfl ?_
            refine f_sipush (v := 256) dL_acts_433 (by decide) ?_
            refine f_idiv dL_acts_436 (by decide) ?_
            refine f_aload_n dL_acts_437 rfl 8 rfl ?_
            obtain ⟨fs33, w34, hfs33, gfs33, H⟩ := H
            refine gf_L_113 rfl hfs33 gfs33 dL_acts_438 ?_
            refine f_irem dL_acts_441 H.1 ?_
            replace H := H.2
            refine f_istore (ls' := [(11, .int ((v1 / 256) - (v1 / 256) / w34 * w34)), (10, .int ((v1 / 32) - (v1 / 32) / (f32 (Int32.toNatClampNeg 0)) * (f32 (Int32.toNatClampNeg 0)))), (9, .int v25), (8, .int ((v1 / 8) - (v1 / 8) / 2 * 2)), (7, .ref v21), (6, .int (v1 - v1 / v16 * v16)), (5, .int v4), (4, .int v1), (0, .ref (zad G.1 0)), (1, .ref r1), (2, .ref G.2.1), (3, .int x3)]) dL_acts_442 (by decide) rfl ?_
            refine f_iload dL_acts_444 7 rfl ?_
            refine f_sipush (v := 2048) dL_acts_446 (by decide) ?_
            refine f_idiv dL_acts_449 (by decide) ?_
            refine f_bipush (v := 10) dL_acts_450 (by decide) ?_
            refine f_irem dL_acts_452 (by decide) ?_
            refine f_istore (ls' := [(12, .int ((v1 / 2048) - (v1 / 2048) / 10 * 10)), (11, .int ((v1 / 256) - (v1 / 256) / w34 * w34)), (10, .int ((v1 / 32) - (v1 / 32) / (f32 (Int32.toNatClampNeg 0)) * (f32 (Int32.toNatClampNeg 0)))), (9, .int v25), (8, .int ((v1 / 8) - (v1 / 8) / 2 * 2)), (7, .ref v21), (6, .int (v1 - v1 / v16 * v16)), (5, .int v4), (4, .int v1), (0, .ref (zad G.1 0)), (1, .ref r1), (2, .ref G.2.1), (3, .int x3)]) dL_acts_453 (by decide) rfl ?_
            refine f_iload dL_acts_455 7 rfl ?_
            refine f_bipush (v := 8) dL_acts_457 (by decide) ?_
            refine f_icmp_ge (tgt := 532) dL_acts_459 (by decide) (fun h35 => ?_) (fun h35 => ?_)
            · replace H := H.1 h35
              refine f_iload dL_acts_532 7 rfl ?_
              refine f_bipush (v := 8) dL_acts_534 (by decide) ?_
              refine f_icmp_ne (tgt := 696) dL_acts_536 (by decide) (fun h36 => ?_) (fun h36 => ?_)
              · replace H := H.1 h36
                refine f_aload_n dL_acts_696 rfl 10 rfl ?_
                obtain ⟨fs37, w38, hfs37, gfs37, H⟩ := H
                refine gf_L_63 rfl hfs37 gfs37 dL_acts_697 ?_
                have hkfs70 := H.1
                obtain ⟨fs70, hfs70, H⟩ := H.2
                refine f_callFi (j1 := 0) (j2 := kb) (av := []) rfl hfs70 rfl rfl H i_Jx4a65c_size_8abf5 rfl (by decide +kernel) (by decide +kernel) n_Jx4a65c_size_8abf5 vi_Jx4a65c_size_8abf5 q_L_89 (by decide) (f_kj hkfs70) (Nat.le_of_ble_eq_true rfl) dL_acts_700 (fun v39 o40 ω41 H => ?_)
                refine f_bipush (v := 16) dL_acts_705 (by decide) ?_
                refine f_icmp_ne (tgt := 712) dL_acts_707 (by decide) (fun h42 => ?_) (fun h42 => ?_)
                · replace H := H.1 h42
                  refine f_aload_n dL_acts_712 rfl 10 rfl ?_
                  obtain ⟨fs43, w44, hfs43, gfs43, H⟩ := H
                  refine gf_L_63 rfl hfs43 gfs43 dL_acts_713 ?_
                  refine f_bipush (v := 6) dL_acts_716 (by decide) ?_
                  refine f_newa0 (N := 6) (u := 1) (by decide) (by decide) (Nat.le_of_ble_eq_true rfl) (f_ks H.1) ⟨by decide, by decide⟩ dL_acts_718 (fun q45 hq45 => ?_)
                  replace H := H.2 q45 _ hq45 rfl
                  generalize fup ω41 q45 (.inl (G.1.2.1 0, 6, .inl (fun _ => 0))) = ω46 at H ⊢
                  refine f_dup dL_acts_720 rfl ?_
                  refine f_iconst (v := 0) dL_acts_721 (by decide) ?_
                  refine f_iload dL_acts_722 4 rfl ?_
                  obtain ⟨n47, f48, hn47, gn47, H⟩ := H
                  refine f_iast hn47 gn47 dL_acts_724 ?_
                  replace H := H _ rfl
                  generalize fup ω46 q45 (.inl (G.1.2.1 0, n47, .inl (upd f48 (Int32.toNatClampNeg 0) ((v1 / 8) - (v1 / 8) / 2 * 2)))) = ω49 at H ⊢
                  refine f_dup dL_acts_725 rfl ?_
                  refine f_iconst (v := 1) dL_acts_726 (by decide) ?_
                  refine f_iload dL_acts_727 3 rfl ?_
                  refine f_iload dL_acts_729 2 rfl ?_
                  refine f_iadd dL_acts_731 ?_
                  obtain ⟨n50, f51, hn50, gn50, H⟩ := H
                  refine f_iast hn50 gn50 dL_acts_732 ?_
                  replace H := H _ rfl
                  generalize fup ω49 q45 (.inl (G.1.2.1 0, n50, .inl (upd f51 (Int32.toNatClampNeg 1) (v25 + ((v1 / 32) - (v1 / 32) / (f32 (Int32.toNatClampNeg 0)) * (f32 (Int32.toNatClampNeg 0))))))) = ω52 at H ⊢
                  refine f_dup dL_acts_733 rfl ?_
                  refine f_iconst (v := 2) dL_acts_734 (by decide) ?_
                  refine f_iload dL_acts_735 1 rfl ?_
                  obtain ⟨n53, f54, hn53, gn53, H⟩ := H
                  refine f_iast hn53 gn53 dL_acts_737 ?_
                  replace H := H _ rfl
                  generalize fup ω52 q45 (.inl (G.1.2.1 0, n53, .inl (upd f54 (Int32.toNatClampNeg 2) ((v1 / 256) - (v1 / 256) / w34 * w34)))) = ω55 at H ⊢
                  refine f_dup dL_acts_738 rfl ?_
                  refine f_iconst (v := 3) dL_acts_739 (by decide) ?_
                  refine f_iconst (v := 1) dL_acts_740 (by decide) ?_
                  obtain ⟨n56, f57, hn56, gn56, H⟩ := H
                  refine f_iast hn56 gn56 dL_acts_741 ?_
                  replace H := H _ rfl
                  generalize fup ω55 q45 (.inl (G.1.2.1 0, n56, .inl (upd f57 (Int32.toNatClampNeg 3) 1))) = ω58 at H ⊢
                  refine f_dup dL_acts_742 rfl ?_
                  refine f_iconst (v := 4) dL_acts_743 (by decide) ?_
                  refine f_iconst (v := 1) dL_acts_744 (by decide) ?_
                  obtain ⟨n59, f60, hn59, gn59, H⟩ := H
                  refine f_iast hn59 gn59 dL_acts_745 ?_
                  replace H := H _ rfl
                  generalize fup ω58 q45 (.inl (G.1.2.1 0, n59, .inl (upd f60 (Int32.toNatClampNeg 4) 1))) = ω61 at H ⊢
                  refine f_dup dL_acts_746 rfl ?_
                  refine f_iconst (v := 5) dL_acts_747 (by decide) ?_
                  refine f_iload dL_acts_748 0 rfl ?_
                  obtain ⟨n62, f63, hn62, gn62, H⟩ := H
                  refine f_iast hn62 gn62 dL_acts_750 ?_
                  replace H := H _ rfl
                  generalize fup ω61 q45 (.inl (G.1.2.1 0, n62, .inl (upd f63 (Int32.toNatClampNeg 5) ((v1 / 2048) - (v1 / 2048) / 10 * 10)))) = ω64 at H ⊢
                  have hkfs69 := H.1
                  obtain ⟨fs69, hfs69, H⟩ := H.2
                  refine f_callFi (j1 := 3) (j2 := ((kb - 1) - 3)) (av := [.ref q45]) rfl hfs69 rfl rfl H i_Jx4a65c_add_9ea2d rfl (by decide +kernel) (by decide +kernel) n_Jx4a65c_add_9ea2d vi_Jx4a65c_add_9ea2d q_L_166 (by decide) (f_kj hkfs69) (Nat.le_of_ble_eq_true rfl) dL_acts_751 (fun v65 o66 ω67 H => ?_)
                  refine f_pop dL_acts_756 rfl ?_
                  refine f_aload_n dL_acts_757 rfl 9 rfl ?_
                  refine f_iload dL_acts_758 4 rfl ?_
                  refine f_iconst (v := 1) dL_acts_760 (by decide) ?_
                  refine f_icmp_ne (tgt := 768) dL_acts_761 (by decide) (fun h68 => ?_) (fun h68 => ?_)
                  · replace H := H.1 h68
                    refine f_iconst (v := 0) dL_acts_768 (by decide) ?_
                    refine f_ls [10, 3, 2, 1, 0] rfl ?_
                    exact H
                  · replace H := H.2 h68
                    refine f_iconst (v := 1) dL_acts_764 (by decide) ?_
                    refine f_goto (tgt := 769) dL_acts_765 (by decide) ?_
                    refine f_ls [10, 3, 2, 1, 0] rfl ?_
                    exact H
                · replace H := H.2 h42
                  refine f_iconst (v := 1) dL_acts_710 (by decide) ?_
                  exact f_zret rfl rfl dL_acts_711 ⟨_, rfl, H⟩
              · replace H := H.2 h36
                refine f_iconst (v := 0) dL_acts_539 (by decide) ?_
                refine f_istore (ls' := [(13, .int 0), (12, .int ((v1 / 2048) - (v1 / 2048) / 10 * 10)), (11, .int ((v1 / 256) - (v1 / 256) / w34 * w34)), (10, .int ((v1 / 32) - (v1 / 32) / (f32 (Int32.toNatClampNeg 0)) * (f32 (Int32.toNatClampNeg 0)))), (9, .int v25), (8, .int ((v1 / 8) - (v1 / 8) / 2 * 2)), (7, .ref v21), (6, .int (v1 - v1 / v16 * v16)), (5, .int v4), (4, .int v1), (0, .ref (zad G.1 0)), (1, .ref r1), (2, .ref G.2.1), (3, .int x3)]) dL_acts_540 (by decide) rfl ?_
                refine f_iload dL_acts_542 4 rfl ?_
                refine f_istore (ls' := [(14, .int v25), (13, .int 0), (12, .int ((v1 / 2048) - (v1 / 2048) / 10 * 10)), (11, .int ((v1 / 256) - (v1 / 256) / w34 * w34)), (10, .int ((v1 / 32) - (v1 / 32) / (f32 (Int32.toNatClampNeg 0)) * (f32 (Int32.toNatClampNeg 0)))), (9, .int v25), (8, .int ((v1 / 8) - (v1 / 8) / 2 * 2)), (7, .ref v21), (6, .int (v1 - v1 / v16 * v16)), (5, .int v4), (4, .int v1), (0, .ref (zad G.1 0)), (1, .ref r1), (2, .ref G.2.1), (3, .int x3)]) dL_acts_544 (by decide) rfl ?_
                refine f_ls [11, 12, 8, 7, 5, 1, 0] rfl ?_
                exact H
            · replace H := H.2 h35
              refine f_aload_n dL_acts_462 rfl 10 rfl ?_
              obtain ⟨fs71, w72, hfs71, gfs71, H⟩ := H
              refine gf_L_121 rfl hfs71 gfs71 dL_acts_463 ?_
              refine f_iload dL_acts_466 4 rfl ?_
              obtain ⟨n73, f74, w75, hn73, gn73, en73, H⟩ := H
              refine f_aald6 hn73 gn73 en73 dL_acts_468 ?_
              refine f_iload dL_acts_469 3 rfl ?_
              refine f_iload dL_acts_471 2 rfl ?_
              refine f_iadd dL_acts_473 ?_
              obtain ⟨n76, f77, w78, hn76, gn76, en76, H⟩ := H
              refine f_aald4 hn76 gn76 en76 dL_acts_474 ?_
              refine f_iload dL_acts_475 1 rfl ?_
              obtain ⟨n79, f80, hn79, gn79, H⟩ := H
              refine f_iald hn79 gn79 dL_acts_477 ?_
              refine f_istore (ls' := [(13, .int (f80 (Int32.toNatClampNeg ((v1 / 256) - (v1 / 256) / w34 * w34)))), (12, .int ((v1 / 2048) - (v1 / 2048) / 10 * 10)), (11, .int ((v1 / 256) - (v1 / 256) / w34 * w34)), (10, .int ((v1 / 32) - (v1 / 32) / (f32 (Int32.toNatClampNeg 0)) * (f32 (Int32.toNatClampNeg 0)))), (9, .int v25), (8, .int ((v1 / 8) - (v1 / 8) / 2 * 2)), (7, .ref v21), (6, .int (v1 - v1 / v16 * v16)), (5, .int v4), (4, .int v1), (0, .ref (zad G.1 0)), (1, .ref r1), (2, .ref G.2.1), (3, .int x3)]) dL_acts_478 (by decide) rfl ?_
              refine f_aload_n dL_acts_480 rfl 11 rfl ?_
              obtain ⟨fs81, w82, hfs81, gfs81, H⟩ := H
              refine gf_L_121 rfl hfs81 gfs81 dL_acts_481 ?_
              refine f_iload dL_acts_484 5 rfl ?_
              obtain ⟨n83, f84, w85, hn83, gn83, en83, H⟩ := H
              refine f_aald6 hn83 gn83 en83 dL_acts_486 ?_
              refine f_iload dL_acts_487 4 rfl ?_
              refine f_iload dL_acts_489 3 rfl ?_
              refine f_iadd dL_acts_491 ?_
              obtain ⟨n86, f87, w88, hn86, gn86, en86, H⟩ := H
              refine f_aald4 hn86 gn86 en86 dL_acts_492 ?_
              refine f_iload dL_acts_493 2 rfl ?_
              refine f_iload dL_acts_495 1 rfl ?_
              obtain ⟨n89, f90, hn89, gn89, H⟩ := H
              refine f_iast hn89 gn89 dL_acts_497 ?_
              replace H := H _ rfl
              generalize fup ω27 w88 (.inl (G.1.2.1 0, n89, .inl (upd f90 (Int32.toNatClampNeg ((v1 / 256) - (v1 / 256) / w34 * w34)) ((v1 / 2048) - (v1 / 2048) / 10 * 10)))) = ω91 at H ⊢
              refine f_aload_n dL_acts_498 rfl 10 rfl ?_
              refine f_iload dL_acts_499 7 rfl ?_
              refine f_iload dL_acts_501 5 rfl ?_
              refine f_iconst (v := 1) dL_acts_503 (by decide) ?_
              refine f_icmp_ne (tgt := 511) dL_acts_504 (by decide) (fun h92 => ?_) (fun h92 => ?_)
              · replace H := H.1 h92
                refine f_iconst (v := 0) dL_acts_511 (by decide) ?_
                refine f_ls [3, 2, 1, 0] rfl ?_
                exact H
              · replace H := H.2 h92
                refine f_iconst (v := 1) dL_acts_507 (by decide) ?_
                refine f_goto (tgt := 512) dL_acts_508 (by decide) ?_
                refine f_ls [3, 2, 1, 0] rfl ?_
                exact H
          · replace H := H.2 h30
            refine f_aload dL_acts_291 2 rfl ?_
            refine f_iconst (v := 3) dL_acts_293 (by decide) ?_
            refine f_iload dL_acts_294 1 rfl ?_
            refine f_iadd dL_acts_296 ?_
            obtain ⟨n93, f94, hn93, gn93, H⟩ := H
            refine f_iald hn93 gn93 dL_acts_297 ?_
            refine f_aload_n dL_acts_298 rfl 7 rfl ?_
            obtain ⟨fs95, w96, hfs95, gfs95, H⟩ := H
            refine gf_L_128 rfl hfs95 gfs95 dL_acts_299 ?_
            refine f_icmp_lt (tgt := 307) dL_acts_302 (by decide) (fun h97 => ?_) (fun h97 => ?_)
            · replace H := H.1 h97
              refine f_aload_n dL_acts_307 rfl 7 rfl ?_
              refine f_iload dL_acts_308 3 rfl ?_
              refine f_iload dL_acts_310 1 rfl ?_
              have hkfs106 := H.1
              obtain ⟨fs106, hfs106, H⟩ := H.2
              refine f_callVi (C := RX7) (j1 := 0) (j2 := kb) (av := [.int (v1 - v1 / v16 * v16), .int ((v1 / 8) - (v1 / 8) / 2 * 2)]) rfl hfs106 rfl rfl H i_X7_unlike rfl n_X7_unlike v_X7_unlike q_L_102 (by decide) (f_kj hkfs106) (Nat.le_of_ble_eq_true rfl) dL_acts_312 (fun v98 o99 ω100 H => ?_)
              refine f_istore (ls' := [(10, .int v98), (9, .int v25), (8, .int ((v1 / 8) - (v1 / 8) / 2 * 2)), (7, .ref v21), (6, .int (v1 - v1 / v16 * v16)), (5, .int v4), (4, .int v1), (0, .ref (zad G.1 0)), (1, .ref r1), (2, .ref G.2.1), (3, .int x3)]) dL_acts_315 (by decide) rfl ?_
              refine f_aload dL_acts_317 3 rfl ?_
              refine f_iconst (v := 3) dL_acts_319 (by decide) ?_
              refine f_iload dL_acts_320 2 rfl ?_
              refine f_iadd dL_acts_322 ?_
              refine f_dup2_11 dL_acts_323 rfl rfl ?_
              obtain ⟨n101, f102, hn101, gn101, H⟩ := H
              refine f_iald hn101 gn101 dL_acts_324 ?_
              refine f_iconst (v := 1) dL_acts_325 (by decide) ?_
              refine f_iadd dL_acts_326 ?_
              obtain ⟨n103, f104, hn103, gn103, H⟩ := H
              refine f_iast hn103 gn103 dL_acts_327 ?_
              replace H := H _ rfl
              generalize fup ω100 v21 (.inl (G.1.2.1 0, n103, .inl (upd f104 (Int32.toNatClampNeg (3 + ((v1 / 8) - (v1 / 8) / 2 * 2))) ((f102 (Int32.toNatClampNeg (3 + ((v1 / 8) - (v1 / 8) / 2 * 2)))) + 1)))) = ω105 at H ⊢
              refine f_iload dL_acts_328 1 rfl ?_
              refine f_istore (ls' := [(11, .int v25), (10, .int v98), (9, .int v25), (8, .int ((v1 / 8) - (v1 / 8) / 2 * 2)), (7, .ref v21), (6, .int (v1 - v1 / v16 * v16)), (5, .int v4), (4, .int v1), (0, .ref (zad G.1 0)), (1, .ref r1), (2, .ref G.2.1), (3, .int x3)]) dL_acts_330 (by decide) rfl ?_
              refine f_ls [8, 9, 5, 4, 3, 2, 1, 0] rfl ?_
              exact H
            · replace H := H.2 h97
              refine f_iconst (v := 1) dL_acts_305 (by decide) ?_
              exact f_zret rfl rfl dL_acts_306 ⟨_, rfl, H⟩
        · replace H := H.2 h29
          refine f_iload dL_acts_205 5 rfl ?_
          refine f_bipush (v := 16) dL_acts_207 (by decide) ?_
          refine f_idiv dL_acts_209 (by decide) ?_
          refine f_iconst (v := 2) dL_acts_210 (by decide) ?_
          refine f_irem dL_acts_211 (by decide) ?_
          refine f_if_ne (tgt := 219) dL_acts_212 (by decide) (fun h107 => ?_) (fun h107 => ?_)
          · replace H := H.1 h107
            refine f_iconst (v := 0) dL_acts_219 (by decide) ?_
            refine f_ls [6, 3, 2] rfl ?_
            exact H
          · replace H := H.2 h107
            refine f_iconst (v := 1) dL_acts_215 (by decide) ?_
            refine f_goto (tgt := 220) dL_acts_216 (by decide) ?_
            refine f_ls [6, 3, 2] rfl ?_
            exact H
      · replace H := H.2 h28
        refine f_aload dL_acts_148 2 rfl ?_
        refine f_iconst (v := 2) dL_acts_150 (by decide) ?_
        obtain ⟨n108, f109, hn108, gn108, H⟩ := H
        refine f_iald hn108 gn108 dL_acts_151 ?_
        refine f_iconst (v := 1) dL_acts_152 (by decide) ?_
        refine f_icmp_ne (tgt := 158) dL_acts_153 (by decide) (fun h110 => ?_) (fun h110 => ?_)
        · replace H := H.1 h110
          refine f_aload dL_acts_158 2 rfl ?_
          refine f_iconst (v := 1) dL_acts_160 (by decide) ?_
          obtain ⟨n111, f112, hn111, gn111, H⟩ := H
          refine f_iald hn111 gn111 dL_acts_161 ?_
          refine f_istore (ls' := [(10, .int (f112 (Int32.toNatClampNeg 1))), (9, .int v25), (8, .int ((v1 / 8) - (v1 / 8) / 2 * 2)), (7, .ref v21), (6, .int (v1 - v1 / v16 * v16)), (5, .int v4), (4, .int v1), (0, .ref (zad G.1 0)), (1, .ref r1), (2, .ref G.2.1), (3, .int x3)]) dL_acts_162 (by decide) rfl ?_
          refine f_aload dL_acts_164 3 rfl ?_
          refine f_iconst (v := 1) dL_acts_166 (by decide) ?_
          refine f_iload dL_acts_167 6 rfl ?_
          refine f_bipush (v := 16) dL_acts_169 (by decide) ?_
          refine f_idiv dL_acts_171 (by decide) ?_
          refine f_bipush (v := 9) dL_acts_172 (by decide) ?_
          refine f_irem dL_acts_174 (by decide) ?_
          refine f_iconst (v := 4) dL_acts_175 (by decide) ?_
          refine f_isub dL_acts_176 ?_
          obtain ⟨n113, f114, hn113, gn113, H⟩ := H
          refine f_iast hn113 gn113 dL_acts_177 ?_
          replace H := H _ rfl
          generalize fup ω27 v21 (.inl (G.1.2.1 0, n113, .inl (upd f114 (Int32.toNatClampNeg 1) (((v1 / 16) - (v1 / 16) / 9 * 9) - 4)))) = ω115 at H ⊢
          refine f_aload_n dL_acts_178 rfl 7 rfl ?_
          refine f_iload dL_acts_179 4 rfl ?_
          refine f_aload dL_acts_181 3 rfl ?_
          refine f_iconst (v := 1) dL_acts_183 (by decide) ?_
          obtain ⟨n116, f117, hn116, gn116, H⟩ := H
          refine f_iald hn116 gn116 dL_acts_184 ?_
          obtain ⟨σ121, he, H⟩ := H
          subst he
          refine f_callCi (oo := 0) (j1 := 1) (j2 := (kb - 1)) (av := [.int (v1 - v1 / v16 * v16), .int (f117 (Int32.toNatClampNeg 1))]) rfl rfl (by decide) rfl rfl H.2 i_X6_turn rfl n_X6_turn v_X6_turn q_L_144 (by decide) (f_kj H.1) (Nat.le_of_ble_eq_true rfl) dL_acts_185 (fun v118 σ119 H => ?_)
          refine f_iload dL_acts_188 0 rfl ?_
          refine f_icmp_ne (tgt := 197) dL_acts_190 (by decide) (fun h120 => ?_) (fun h120 => ?_)
          · replace H := H.1 h120
            refine f_iconst (v := 0) dL_acts_197 (by decide) ?_
            refine f_ls [] rfl ?_
            exact H
          · replace H := H.2 h120
            refine f_iconst (v := 1) dL_acts_193 (by decide) ?_
            refine f_goto (tgt := 198) dL_acts_194 (by decide) ?_
            refine f_ls [] rfl ?_
            exact H
        · replace H := H.2 h110
          refine f_iconst (v := 1) dL_acts_156 (by decide) ?_
          exact f_zret rfl rfl dL_acts_157 ⟨_, rfl, H⟩
    · replace H := H.2 h13
      refine f_iconst (v := 1) dL_acts_93 (by decide) ?_
      exact f_zret rfl rfl dL_acts_94 ⟨_, rfl, H⟩
  · replace H := H.2 h7
    refine f_iload dL_acts_31 1 rfl ?_
    refine f_bipush (v := 8) dL_acts_33 (by decide) ?_
    refine f_irem dL_acts_35 (by decide) ?_
    refine f_iconst (v := 4) dL_acts_36 (by decide) ?_
    refine f_isub dL_acts_37 ?_
    refine f_if_ge (tgt := 51) dL_acts_38 (by decide) (fun h126 => ?_) (fun h126 => ?_)
    · replace H := H.1 h126
      refine f_iload dL_acts_51 1 rfl ?_
      refine f_bipush (v := 8) dL_acts_53 (by decide) ?_
      refine f_irem dL_acts_55 (by decide) ?_
      refine f_iconst (v := 3) dL_acts_56 (by decide) ?_
      refine f_isub dL_acts_57 ?_
      refine f_ls [2, 3] rfl ?_
      exact H
    · replace H := H.2 h126
      refine f_iload dL_acts_41 1 rfl ?_
      refine f_bipush (v := 8) dL_acts_43 (by decide) ?_
      refine f_irem dL_acts_45 (by decide) ?_
      refine f_iconst (v := 4) dL_acts_46 (by decide) ?_
      refine f_isub dL_acts_47 ?_
      refine f_goto (tgt := 58) dL_acts_48 (by decide) ?_
      refine f_ls [2, 3] rfl ?_
      exact H
set_option maxRecDepth 20000 in
set_option maxHeartbeats 2000000 in
theorem b_L_acts_58 {G : fG} {l : Launch} {K : Int32 → Option zS → fW → Prop} {r1 : Nat} {z0 : Int32} {o : Option zS} {ω : fW} {kb : Nat}
    (H : (∃ σ8 : zS, o = some σ8 ∧ (1 ≤ kb ∧ ∀ n : Nat, CT (gB G.1 n) l M_X6_pull 1 [.ref (zad G.1 0), .int z0] σ8 (zQi (fun v1 σ2 => (1 ≤ (kb - 1) ∧ ∃ fs7 : List Value, ω r1 = some (.inr (11, fs7)) ∧ FC G l M_X7_pull 1 [.ref r1, .int z0] ((some σ2), ω) (fQi (fun v3 o4 ω5 => ((¬ v1 = v3 → L_L_acts_80 G l K r1 0 o4 ω5 ((kb - 1) - 1)) ∧ (v1 = v3 → L_L_acts_80 G l K r1 1 o4 ω5 ((kb - 1) - 1))))))) (fun _ _ => False))))) :
    L_L_acts_58 G l K r1 z0 o ω kb := by
  refine f_istore (ls' := [(6, .int z0), (0, .ref (zad G.1 0)), (1, .ref r1)]) dL_acts_58 (by decide) rfl ?_
  refine f_aload_n dL_acts_60 rfl 1 rfl ?_
  refine f_iload dL_acts_61 0 rfl ?_
  obtain ⟨σ8, he, H⟩ := H
  subst he
  refine f_callCi (oo := 0) (j1 := 1) (j2 := (kb - 1)) (av := [.int z0]) rfl rfl (by decide) rfl rfl H.2 i_X6_pull rfl n_X6_pull v_X6_pull q_L_139 (by decide) (f_kj H.1) (Nat.le_of_ble_eq_true rfl) dL_acts_63 (fun v1 σ2 H => ?_)
  refine f_aload_n dL_acts_66 rfl 2 rfl ?_
  refine f_iload dL_acts_67 0 rfl ?_
  have hkfs7 := H.1
  obtain ⟨fs7, hfs7, H⟩ := H.2
  refine f_callVi (C := RX7) (j1 := 1) (j2 := ((kb - 1) - 1)) (av := [.int z0]) rfl hfs7 rfl rfl H i_X7_pull rfl n_X7_pull v_X7_pull q_L_142 (by decide) (f_kj hkfs7) (Nat.le_of_ble_eq_true rfl) dL_acts_69 (fun v3 o4 ω5 H => ?_)
  refine f_icmp_ne (tgt := 79) dL_acts_72 (by decide) (fun h6 => ?_) (fun h6 => ?_)
  · replace H := H.1 h6
    refine f_iconst (v := 0) dL_acts_79 (by decide) ?_
    refine f_ls [] rfl ?_
    exact H
  · replace H := H.2 h6
    refine f_iconst (v := 1) dL_acts_75 (by decide) ?_
    refine f_goto (tgt := 80) dL_acts_76 (by decide) ?_
    refine f_ls [] rfl ?_
    exact H
set_option maxRecDepth 20000 in
set_option maxHeartbeats 2000000 in
theorem b_L_acts_80 {G : fG} {l : Launch} {K : Int32 → Option zS → fW → Prop} {r1 : Nat} {z0 : Int32} {o : Option zS} {ω : fW} {kb : Nat}
    (H : (zbl z0 ∧ K z0 o ω)) :
    L_L_acts_80 G l K r1 z0 o ω kb := by
  exact f_zret rfl (zbl_n H.1) dL_acts_80 ⟨_, rfl, H.2⟩
set_option maxRecDepth 20000 in
set_option maxHeartbeats 2000000 in
theorem b_L_acts_198 {G : fG} {l : Launch} {K : Int32 → Option zS → fW → Prop} {r1 : Nat} {z0 : Int32} {o : Option zS} {ω : fW} {kb : Nat}
    (H : (zbl z0 ∧ K z0 o ω)) :
    L_L_acts_198 G l K r1 z0 o ω kb := by
  exact f_zret rfl (zbl_n H.1) dL_acts_198 ⟨_, rfl, H.2⟩
set_option maxRecDepth 20000 in
set_option maxHeartbeats 2000000 in
theorem b_L_acts_220 {G : fG} {l : Launch} {K : Int32 → Option zS → fW → Prop} {r1 : Nat} {y6 : Int32} {y7 : Nat} {z0 : Int32} {o : Option zS} {ω : fW} {kb : Nat}
    (H : (∃ (n1 : Nat) (f2 : Nat → Int32), ω y7 = some (.inl (G.1.2.1 0, n1, .inl f2)) ∧ vp_in 2 n1 ∧ ((¬ (f2 (Int32.toNatClampNeg 2)) = 1 → L_L_acts_237 G l K r1 y6 y7 z0 0 z0 o ω kb) ∧ ((f2 (Int32.toNatClampNeg 2)) = 1 → L_L_acts_237 G l K r1 y6 y7 z0 1 z0 o ω kb)))) :
    L_L_acts_220 G l K r1 y6 y7 z0 o ω kb := by
  refine f_istore (ls' := [(10, .int z0), (0, .ref (zad G.1 0)), (6, .int y6), (7, .ref y7)]) dL_acts_220 (by decide) rfl ?_
  refine f_iload dL_acts_222 0 rfl ?_
  refine f_aload dL_acts_224 3 rfl ?_
  refine f_iconst (v := 2) dL_acts_226 (by decide) ?_
  obtain ⟨n1, f2, hn1, gn1, H⟩ := H
  refine f_iald hn1 gn1 dL_acts_227 ?_
  refine f_iconst (v := 1) dL_acts_228 (by decide) ?_
  refine f_icmp_ne (tgt := 236) dL_acts_229 (by decide) (fun h3 => ?_) (fun h3 => ?_)
  · replace H := H.1 h3
    refine f_iconst (v := 0) dL_acts_236 (by decide) ?_
    refine f_ls [1, 2, 3, 0] rfl ?_
    exact H
  · replace H := H.2 h3
    refine f_iconst (v := 1) dL_acts_232 (by decide) ?_
    refine f_goto (tgt := 237) dL_acts_233 (by decide) ?_
    refine f_ls [1, 2, 3, 0] rfl ?_
    exact H
set_option maxRecDepth 20000 in
set_option maxHeartbeats 2000000 in
theorem b_L_acts_237 {G : fG} {l : Launch} {K : Int32 → Option zS → fW → Prop} {r1 : Nat} {y6 : Int32} {y7 : Nat} {y10 : Int32} {z0 : Int32} {z1 : Int32} {o : Option zS} {ω : fW} {kb : Nat}
    (H : ((z1 = z0 → L_L_acts_245 G l K r1 y6 y7 y10 0 o ω kb) ∧ (¬ z1 = z0 → L_L_acts_245 G l K r1 y6 y7 y10 1 o ω kb))) :
    L_L_acts_237 G l K r1 y6 y7 y10 z0 z1 o ω kb := by
  refine f_icmp_eq (tgt := 244) dL_acts_237 (by decide) (fun h1 => ?_) (fun h1 => ?_)
  · replace H := H.1 h1
    refine f_iconst (v := 0) dL_acts_244 (by decide) ?_
    refine f_ls [0, 1, 2, 3] rfl ?_
    exact H
  · replace H := H.2 h1
    refine f_iconst (v := 1) dL_acts_240 (by decide) ?_
    refine f_goto (tgt := 245) dL_acts_241 (by decide) ?_
    refine f_ls [0, 1, 2, 3] rfl ?_
    exact H
set_option maxRecDepth 20000 in
set_option maxHeartbeats 2000000 in
theorem b_L_acts_245 {G : fG} {l : Launch} {K : Int32 → Option zS → fW → Prop} {r1 : Nat} {y6 : Int32} {y7 : Nat} {y10 : Int32} {z0 : Int32} {o : Option zS} {ω : fW} {kb : Nat}
    (H : ((z0 = 0 → L_L_acts_266 G l K r1 y6 y10 z0 o ω kb) ∧ (¬ z0 = 0 → ((y10 = 0 → L_L_acts_265 G l K r1 y6 y10 z0 0 2 y7 o ω kb) ∧ (¬ y10 = 0 → L_L_acts_265 G l K r1 y6 y10 z0 1 2 y7 o ω kb))))) :
    L_L_acts_245 G l K r1 y6 y7 y10 z0 o ω kb := by
  refine f_istore (ls' := [(11, .int z0), (0, .ref (zad G.1 0)), (6, .int y6), (7, .ref y7), (10, .int y10)]) dL_acts_245 (by decide) rfl ?_
  refine f_iload dL_acts_247 0 rfl ?_
  refine f_if_eq (tgt := 266) dL_acts_249 (by decide) (fun h1 => ?_) (fun h1 => ?_)
  · replace H := H.1 h1
    refine f_ls [1, 2, 4, 0] rfl ?_
    exact H
  · replace H := H.2 h1
    refine f_aload dL_acts_252 3 rfl ?_
    refine f_iconst (v := 2) dL_acts_254 (by decide) ?_
    refine f_iload dL_acts_255 4 rfl ?_
    refine f_if_eq (tgt := 264) dL_acts_257 (by decide) (fun h2 => ?_) (fun h2 => ?_)
    · replace H := H.1 h2
      refine f_iconst (v := 0) dL_acts_264 (by decide) ?_
      refine f_ls [1, 2, 4, 0] rfl ?_
      exact H
    · replace H := H.2 h2
      refine f_iconst (v := 1) dL_acts_260 (by decide) ?_
      refine f_goto (tgt := 265) dL_acts_261 (by decide) ?_
      refine f_ls [1, 2, 4, 0] rfl ?_
      exact H
set_option maxRecDepth 20000 in
set_option maxHeartbeats 2000000 in
theorem b_L_acts_265 {G : fG} {l : Launch} {K : Int32 → Option zS → fW → Prop} {r1 : Nat} {y6 : Int32} {y10 : Int32} {y11 : Int32} {z0 : Int32} {z1 : Int32} {z2 : Nat} {o : Option zS} {ω : fW} {kb : Nat}
    (H : (∃ (n1 : Nat) (f2 : Nat → Int32), ω z2 = some (.inl (G.1.2.1 0, n1, .inl f2)) ∧ vp_in z1 n1 ∧ (∀ ω3 : fW, ω3 = fup ω z2 (.inl (G.1.2.1 0, n1, .inl (upd f2 (Int32.toNatClampNeg z1) z0))) → L_L_acts_266 G l K r1 y6 y10 y11 o ω3 kb))) :
    L_L_acts_265 G l K r1 y6 y10 y11 z0 z1 z2 o ω kb := by
  obtain ⟨n1, f2, hn1, gn1, H⟩ := H
  refine f_iast hn1 gn1 dL_acts_265 ?_
  replace H := H _ rfl
  generalize fup ω z2 (.inl (G.1.2.1 0, n1, .inl (upd f2 (Int32.toNatClampNeg z1) z0))) = ω3 at H ⊢
  refine f_ls [0, 1, 2, 3] rfl ?_
  exact H
set_option maxRecDepth 20000 in
set_option maxHeartbeats 2000000 in
theorem b_L_acts_266 {G : fG} {l : Launch} {K : Int32 → Option zS → fW → Prop} {r1 : Nat} {y6 : Int32} {y10 : Int32} {y11 : Int32} {o : Option zS} {ω : fW} {kb : Nat}
    (H : (∃ σ4 : zS, o = some σ4 ∧ (1 ≤ kb ∧ ∀ n : Nat, CT (gB G.1 n) l M_X6_tie 1 [.ref (zad G.1 0), .int y6, .int y10] σ4 (zQi (fun v1 σ2 => ((¬ v1 = y11 → L_L_acts_284 G l K r1 0 (some σ2) ω (kb - 1)) ∧ (v1 = y11 → L_L_acts_284 G l K r1 1 (some σ2) ω (kb - 1)))) (fun _ _ => False))))) :
    L_L_acts_266 G l K r1 y6 y10 y11 o ω kb := by
  refine f_aload_n dL_acts_266 rfl 0 rfl ?_
  refine f_iload dL_acts_267 1 rfl ?_
  refine f_iload dL_acts_269 2 rfl ?_
  obtain ⟨σ4, he, H⟩ := H
  subst he
  refine f_callCi (oo := 0) (j1 := 1) (j2 := (kb - 1)) (av := [.int y6, .int y10]) rfl rfl (by decide) rfl rfl H.2 i_X6_tie rfl n_X6_tie v_X6_tie q_L_147 (by decide) (f_kj H.1) (Nat.le_of_ble_eq_true rfl) dL_acts_271 (fun v1 σ2 H => ?_)
  refine f_iload dL_acts_274 3 rfl ?_
  refine f_icmp_ne (tgt := 283) dL_acts_276 (by decide) (fun h3 => ?_) (fun h3 => ?_)
  · replace H := H.1 h3
    refine f_iconst (v := 0) dL_acts_283 (by decide) ?_
    refine f_ls [] rfl ?_
    exact H
  · replace H := H.2 h3
    refine f_iconst (v := 1) dL_acts_279 (by decide) ?_
    refine f_goto (tgt := 284) dL_acts_280 (by decide) ?_
    refine f_ls [] rfl ?_
    exact H
set_option maxRecDepth 20000 in
set_option maxHeartbeats 2000000 in
theorem b_L_acts_284 {G : fG} {l : Launch} {K : Int32 → Option zS → fW → Prop} {r1 : Nat} {z0 : Int32} {o : Option zS} {ω : fW} {kb : Nat}
    (H : (zbl z0 ∧ K z0 o ω)) :
    L_L_acts_284 G l K r1 z0 o ω kb := by
  exact f_zret rfl (zbl_n H.1) dL_acts_284 ⟨_, rfl, H.2⟩
set_option maxRecDepth 20000 in
set_option maxHeartbeats 2000000 in
theorem b_L_acts_332 {G : fG} {l : Launch} {K : Int32 → Option zS → fW → Prop} {r1 : Nat} {y6 : Int32} {y7 : Nat} {y8 : Int32} {y9 : Int32} {y10 : Int32} {y11 : Int32} {o : Option zS} {ω : fW} {kb : Nat}
    (H : (∃ (n1 : Nat) (f2 : Nat → Int32), ω y7 = some (.inl (G.1.2.1 0, n1, .inl f2)) ∧ vp_in 0 n1 ∧ (((y9 + (f2 (Int32.toNatClampNeg 0))) ≤ y11 → ((¬ y8 = 1 → L_L_acts_405 G l K r1 y10 0 y6 o ω kb) ∧ (y8 = 1 → L_L_acts_405 G l K r1 y10 1 y6 o ω kb))) ∧ (¬ (y9 + (f2 (Int32.toNatClampNeg 0))) ≤ y11 → L_L_acts_347 G l K r1 y6 y7 y8 y9 y10 y11 0 o ω kb)))) :
    L_L_acts_332 G l K r1 y6 y7 y8 y9 y10 y11 o ω kb := by
  refine f_iload dL_acts_332 7 rfl ?_
  refine f_iload dL_acts_334 5 rfl ?_
  refine f_aload dL_acts_336 3 rfl ?_
  refine f_iconst (v := 0) dL_acts_338 (by decide) ?_
  obtain ⟨n1, f2, hn1, gn1, H⟩ := H
  refine f_iald hn1 gn1 dL_acts_339 ?_
  refine f_iadd dL_acts_340 ?_
  refine f_icmp_ge (tgt := 391) dL_acts_341 (by decide) (fun h3 => ?_) (fun h3 => ?_)
  · replace H := H.1 h3
    refine f_aload_n dL_acts_391 rfl 0 rfl ?_
    refine f_iload dL_acts_392 2 rfl ?_
    refine f_iload dL_acts_394 4 rfl ?_
    refine f_iconst (v := 1) dL_acts_396 (by decide) ?_
    refine f_icmp_ne (tgt := 404) dL_acts_397 (by decide) (fun h4 => ?_) (fun h4 => ?_)
    · replace H := H.1 h4
      refine f_iconst (v := 0) dL_acts_404 (by decide) ?_
      refine f_ls [6] rfl ?_
      exact H
    · replace H := H.2 h4
      refine f_iconst (v := 1) dL_acts_400 (by decide) ?_
      refine f_goto (tgt := 405) dL_acts_401 (by decide) ?_
      refine f_ls [6] rfl ?_
      exact H
  · replace H := H.2 h3
    refine f_iconst (v := 0) dL_acts_344 (by decide) ?_
    refine f_istore (ls' := [(12, .int 0), (0, .ref (zad G.1 0)), (1, .ref r1), (6, .int y6), (7, .ref y7), (8, .int y8), (9, .int y9), (10, .int y10), (11, .int y11)]) dL_acts_345 (by decide) rfl ?_
    refine f_ls [1, 2, 3, 4, 5, 6, 7, 8, 0] rfl ?_
    exact H
set_option maxRecDepth 20000 in
set_option maxHeartbeats 2000000 in
theorem b_L_acts_347 {G : fG} {l : Launch} {K : Int32 → Option zS → fW → Prop} {r1 : Nat} {y6 : Int32} {y7 : Nat} {y8 : Int32} {y9 : Int32} {y10 : Int32} {y11 : Int32} {y12 : Int32} {o : Option zS} {ω : fW} {kb : Nat}
    (H : (∃ (fs1 : List Value) (w2 : Int32), ω r1 = some (.inr (11, fs1)) ∧ fs1[0]? = some (.int w2) ∧ ((w2 ≤ y12 → L_L_acts_332 G l K r1 y6 y7 y8 y9 y10 (y11 + 1) o ω kb) ∧ (¬ w2 ≤ y12 → (∃ (fs4 : List Value) (w5 : Nat), ω r1 = some (.inr (11, fs4)) ∧ fs4[4]? = some (.ref w5) ∧ (∃ (n6 : Nat) (f7 : Nat → Option Nat) (w8 : Nat), ω w5 = some (.inl (G.1.2.1 6, n6, .inr (.inr (.inr (.inr f7))))) ∧ vp_in y8 n6 ∧ f7 (Int32.toNatClampNeg y8) = some w8 ∧ (∃ (n9 : Nat) (f10 : Nat → Option Nat) (w11 : Nat), ω w8 = some (.inl (G.1.2.1 4, n9, .inr (.inr (.inr (.inr f10))))) ∧ vp_in y11 n9 ∧ f10 (Int32.toNatClampNeg y11) = some w11 ∧ (0 ≤ kb ∧ ∃ fs18 : List Value, ω r1 = some (.inr (11, fs18)) ∧ FC G l M_X7_picture 0 [.ref r1, .int y8, .int y11, .int y12] (o, ω) (fQi (fun v12 o13 ω14 => (∃ (n15 : Nat) (f16 : Nat → Int32), ω14 w11 = some (.inl (G.1.2.1 0, n15, .inl f16)) ∧ vp_in y12 n15 ∧ (∀ ω17 : fW, ω17 = fup ω14 w11 (.inl (G.1.2.1 0, n15, .inl (upd f16 (Int32.toNatClampNeg y12) v12))) → L_L_acts_347 G l K r1 y6 y7 y8 y9 y10 y11 (y12 + 1) o13 ω17 kb)))))))))))) :
    L_L_acts_347 G l K r1 y6 y7 y8 y9 y10 y11 y12 o ω kb := by
  refine f_iload dL_acts_347 8 rfl ?_
  refine f_aload_n dL_acts_349 rfl 1 rfl ?_
  obtain ⟨fs1, w2, hfs1, gfs1, H⟩ := H
  refine gf_L_113 rfl hfs1 gfs1 dL_acts_350 ?_
  refine f_icmp_ge (tgt := 385) dL_acts_353 (by decide) (fun h3 => ?_) (fun h3 => ?_)
  · replace H := H.1 h3
    refine f_iinc (j := 7) (v := (y11 + 1)) (ls' := [(11, .int (y11 + 1)), (0, .ref (zad G.1 0)), (1, .ref r1), (6, .int y6), (7, .ref y7), (8, .int y8), (9, .int y9), (10, .int y10), (12, .int y12)]) dL_acts_385 rfl rfl (by decide) rfl ?_
    refine f_goto (tgt := 332) dL_acts_388 (by decide) ?_
    refine f_ls [1, 2, 3, 4, 5, 6, 7, 0] rfl ?_
    exact H
  · replace H := H.2 h3
    refine f_aload_n dL_acts_356 rfl 1 rfl ?_
    obtain ⟨fs4, w5, hfs4, gfs4, H⟩ := H
    refine gf_L_121 rfl hfs4 gfs4 dL_acts_357 ?_
    refine f_iload dL_acts_360 4 rfl ?_
    obtain ⟨n6, f7, w8, hn6, gn6, en6, H⟩ := H
    refine f_aald6 hn6 gn6 en6 dL_acts_362 ?_
    refine f_iload dL_acts_363 7 rfl ?_
    obtain ⟨n9, f10, w11, hn9, gn9, en9, H⟩ := H
    refine f_aald4 hn9 gn9 en9 dL_acts_365 ?_
    refine f_iload dL_acts_366 8 rfl ?_
    refine f_aload_n dL_acts_368 rfl 1 rfl ?_
    refine f_iload dL_acts_369 4 rfl ?_
    refine f_iload dL_acts_371 7 rfl ?_
    refine f_iload dL_acts_373 8 rfl ?_
    have hkfs18 := H.1
    obtain ⟨fs18, hfs18, H⟩ := H.2
    refine f_callVi (C := RX7) (j1 := 0) (j2 := kb) (av := [.int y8, .int y11, .int y12]) rfl hfs18 rfl rfl H i_X7_picture rfl n_X7_picture v_X7_picture q_L_151 (by decide) (f_kj hkfs18) (Nat.le_of_ble_eq_true rfl) dL_acts_375 (fun v12 o13 ω14 H => ?_)
    obtain ⟨n15, f16, hn15, gn15, H⟩ := H
    refine f_iast hn15 gn15 dL_acts_378 ?_
    replace H := H _ rfl
    generalize fup ω14 w11 (.inl (G.1.2.1 0, n15, .inl (upd f16 (Int32.toNatClampNeg y12) v12))) = ω17 at H ⊢
    refine f_iinc (j := 8) (v := (y12 + 1)) (ls' := [(12, .int (y12 + 1)), (0, .ref (zad G.1 0)), (1, .ref r1), (6, .int y6), (7, .ref y7), (8, .int y8), (9, .int y9), (10, .int y10), (11, .int y11)]) dL_acts_379 rfl rfl (by decide) rfl ?_
    refine f_goto (tgt := 347) dL_acts_382 (by decide) ?_
    refine f_ls [1, 2, 3, 4, 5, 6, 7, 8, 0] rfl ?_
    exact H
set_option maxRecDepth 20000 in
set_option maxHeartbeats 2000000 in
theorem b_L_acts_405 {G : fG} {l : Launch} {K : Int32 → Option zS → fW → Prop} {r1 : Nat} {y10 : Int32} {z0 : Int32} {z1 : Int32} {o : Option zS} {ω : fW} {kb : Nat}
    (H : (∃ σ4 : zS, o = some σ4 ∧ (1 ≤ kb ∧ ∀ n : Nat, CT (gB G.1 n) l M_X6_paint 1 [.ref (zad G.1 0), .int z1, .int z0] σ4 (zQi (fun v1 σ2 => ((¬ v1 = y10 → L_L_acts_418 G l K r1 0 (some σ2) ω (kb - 1)) ∧ (v1 = y10 → L_L_acts_418 G l K r1 1 (some σ2) ω (kb - 1)))) (fun _ _ => False))))) :
    L_L_acts_405 G l K r1 y10 z0 z1 o ω kb := by
  obtain ⟨σ4, he, H⟩ := H
  subst he
  refine f_callCi (oo := 0) (j1 := 1) (j2 := (kb - 1)) (av := [.int z1, .int z0]) rfl rfl (by decide) rfl rfl H.2 i_X6_paint rfl n_X6_paint v_X6_paint q_L_155 (by decide) (f_kj H.1) (Nat.le_of_ble_eq_true rfl) dL_acts_405 (fun v1 σ2 H => ?_)
  refine f_iload dL_acts_408 0 rfl ?_
  refine f_icmp_ne (tgt := 417) dL_acts_410 (by decide) (fun h3 => ?_) (fun h3 => ?_)
  · replace H := H.1 h3
    refine f_iconst (v := 0) dL_acts_417 (by decide) ?_
    refine f_ls [] rfl ?_
    exact H
  · replace H := H.2 h3
    refine f_iconst (v := 1) dL_acts_413 (by decide) ?_
    refine f_goto (tgt := 418) dL_acts_414 (by decide) ?_
    refine f_ls [] rfl ?_
    exact H
set_option maxRecDepth 20000 in
set_option maxHeartbeats 2000000 in
theorem b_L_acts_418 {G : fG} {l : Launch} {K : Int32 → Option zS → fW → Prop} {r1 : Nat} {z0 : Int32} {o : Option zS} {ω : fW} {kb : Nat}
    (H : (zbl z0 ∧ K z0 o ω)) :
    L_L_acts_418 G l K r1 z0 o ω kb := by
  exact f_zret rfl (zbl_n H.1) dL_acts_418 ⟨_, rfl, H.2⟩
set_option maxRecDepth 20000 in
set_option maxHeartbeats 2000000 in
theorem b_L_acts_512 {G : fG} {l : Launch} {K : Int32 → Option zS → fW → Prop} {r1 : Nat} {y10 : Int32} {y11 : Int32} {y12 : Int32} {y13 : Int32} {z0 : Int32} {z1 : Int32} {o : Option zS} {ω : fW} {kb : Nat}
    (H : (∃ σ4 : zS, o = some σ4 ∧ (1 ≤ kb ∧ ∀ n : Nat, CT (gB G.1 n) l M_X6_dab 1 [.ref (zad G.1 0), .int z1, .int z0, .int y10, .int y11, .int y12] σ4 (zQi (fun v1 σ2 => ((¬ v1 = y13 → L_L_acts_531 G l K r1 0 (some σ2) ω (kb - 1)) ∧ (v1 = y13 → L_L_acts_531 G l K r1 1 (some σ2) ω (kb - 1)))) (fun _ _ => False))))) :
    L_L_acts_512 G l K r1 y10 y11 y12 y13 z0 z1 o ω kb := by
  refine f_iload dL_acts_512 0 rfl ?_
  refine f_iload dL_acts_514 1 rfl ?_
  refine f_iload dL_acts_516 2 rfl ?_
  obtain ⟨σ4, he, H⟩ := H
  subst he
  refine f_callCi (oo := 0) (j1 := 1) (j2 := (kb - 1)) (av := [.int z1, .int z0, .int y10, .int y11, .int y12]) rfl rfl (by decide) rfl rfl H.2 i_X6_dab rfl n_X6_dab v_X6_dab q_L_159 (by decide) (f_kj H.1) (Nat.le_of_ble_eq_true rfl) dL_acts_518 (fun v1 σ2 H => ?_)
  refine f_iload dL_acts_521 3 rfl ?_
  refine f_icmp_ne (tgt := 530) dL_acts_523 (by decide) (fun h3 => ?_) (fun h3 => ?_)
  · replace H := H.1 h3
    refine f_iconst (v := 0) dL_acts_530 (by decide) ?_
    refine f_ls [] rfl ?_
    exact H
  · replace H := H.2 h3
    refine f_iconst (v := 1) dL_acts_526 (by decide) ?_
    refine f_goto (tgt := 531) dL_acts_527 (by decide) ?_
    refine f_ls [] rfl ?_
    exact H
set_option maxRecDepth 20000 in
set_option maxHeartbeats 2000000 in
theorem b_L_acts_531 {G : fG} {l : Launch} {K : Int32 → Option zS → fW → Prop} {r1 : Nat} {z0 : Int32} {o : Option zS} {ω : fW} {kb : Nat}
    (H : (zbl z0 ∧ K z0 o ω)) :
    L_L_acts_531 G l K r1 z0 o ω kb := by
  exact f_zret rfl (zbl_n H.1) dL_acts_531 ⟨_, rfl, H.2⟩
set_option maxRecDepth 20000 in
set_option maxHeartbeats 2000000 in
theorem b_L_acts_546 {G : fG} {l : Launch} {K : Int32 → Option zS → fW → Prop} {r1 : Nat} {y6 : Int32} {y7 : Nat} {y9 : Int32} {y13 : Int32} {y14 : Int32} {o : Option zS} {ω : fW} {kb : Nat}
    (H : (∃ (n1 : Nat) (f2 : Nat → Int32), ω y7 = some (.inl (G.1.2.1 0, n1, .inl f2)) ∧ vp_in 0 n1 ∧ (((y9 + (f2 (Int32.toNatClampNeg 0))) ≤ y14 → (∃ (n4 : Nat) (f5 : Nat → Int32), ω y7 = some (.inl (G.1.2.1 0, n4, .inl f5)) ∧ vp_in 3 n4 ∧ (∃ (n6 : Nat) (f7 : Nat → Int32), ω y7 = some (.inl (G.1.2.1 0, n6, .inl f7)) ∧ vp_in 4 n6 ∧ (∃ (n8 : Nat) (f9 : Nat → Int32), ω y7 = some (.inl (G.1.2.1 0, n8, .inl f9)) ∧ vp_in 3 n8 ∧ (∀ ω10 : fW, ω10 = fup ω y7 (.inl (G.1.2.1 0, n8, .inl (upd f9 (Int32.toNatClampNeg 3) (f7 (Int32.toNatClampNeg 4))))) → (∃ (n11 : Nat) (f12 : Nat → Int32), ω10 y7 = some (.inl (G.1.2.1 0, n11, .inl f12)) ∧ vp_in 4 n11 ∧ (∀ ω13 : fW, ω13 = fup ω10 y7 (.inl (G.1.2.1 0, n11, .inl (upd f12 (Int32.toNatClampNeg 4) (f5 (Int32.toNatClampNeg 3))))) → (∃ σ17 : zS, o = some σ17 ∧ (1 ≤ kb ∧ ∀ n : Nat, CT (gB G.1 n) l M_X6_swap 1 [.ref (zad G.1 0), .int y6] σ17 (zQi (fun v14 σ15 => ((¬ v14 = y13 → L_L_acts_695 G l K r1 0 (some σ15) ω13 (kb - 1)) ∧ (v14 = y13 → L_L_acts_695 G l K r1 1 (some σ15) ω13 (kb - 1)))) (fun _ _ => False))))))))))) ∧ (¬ (y9 + (f2 (Int32.toNatClampNeg 0))) ≤ y14 → L_L_acts_561 G l K r1 y6 y7 y9 y13 y14 0 o ω kb)))) :
    L_L_acts_546 G l K r1 y6 y7 y9 y13 y14 o ω kb := by
  refine f_iload dL_acts_546 6 rfl ?_
  refine f_iload dL_acts_548 4 rfl ?_
  refine f_aload dL_acts_550 3 rfl ?_
  refine f_iconst (v := 0) dL_acts_552 (by decide) ?_
  obtain ⟨n1, f2, hn1, gn1, H⟩ := H
  refine f_iald hn1 gn1 dL_acts_553 ?_
  refine f_iadd dL_acts_554 ?_
  refine f_icmp_ge (tgt := 659) dL_acts_555 (by decide) (fun h3 => ?_) (fun h3 => ?_)
  · replace H := H.1 h3
    refine f_aload dL_acts_659 3 rfl ?_
    refine f_iconst (v := 3) dL_acts_661 (by decide) ?_
    obtain ⟨n4, f5, hn4, gn4, H⟩ := H
    refine f_iald hn4 gn4 dL_acts_662 ?_
    refine f_istore (ls' := [(14, .int (f5 (Int32.toNatClampNeg 3))), (0, .ref (zad G.1 0)), (1, .ref r1), (6, .int y6), (7, .ref y7), (9, .int y9), (13, .int y13)]) dL_acts_663 (by decide) rfl ?_
    refine f_aload dL_acts_665 4 rfl ?_
    refine f_iconst (v := 3) dL_acts_667 (by decide) ?_
    refine f_aload dL_acts_668 4 rfl ?_
    refine f_iconst (v := 4) dL_acts_670 (by decide) ?_
    obtain ⟨n6, f7, hn6, gn6, H⟩ := H
    refine f_iald hn6 gn6 dL_acts_671 ?_
    obtain ⟨n8, f9, hn8, gn8, H⟩ := H
    refine f_iast hn8 gn8 dL_acts_672 ?_
    replace H := H _ rfl
    generalize fup ω y7 (.inl (G.1.2.1 0, n8, .inl (upd f9 (Int32.toNatClampNeg 3) (f7 (Int32.toNatClampNeg 4))))) = ω10 at H ⊢
    refine f_aload dL_acts_673 4 rfl ?_
    refine f_iconst (v := 4) dL_acts_675 (by decide) ?_
    refine f_iload dL_acts_676 0 rfl ?_
    obtain ⟨n11, f12, hn11, gn11, H⟩ := H
    refine f_iast hn11 gn11 dL_acts_678 ?_
    replace H := H _ rfl
    generalize fup ω10 y7 (.inl (G.1.2.1 0, n11, .inl (upd f12 (Int32.toNatClampNeg 4) (f5 (Int32.toNatClampNeg 3))))) = ω13 at H ⊢
    refine f_aload_n dL_acts_679 rfl 1 rfl ?_
    refine f_iload dL_acts_680 3 rfl ?_
    obtain ⟨σ17, he, H⟩ := H
    subst he
    refine f_callCi (oo := 0) (j1 := 1) (j2 := (kb - 1)) (av := [.int y6]) rfl rfl (by decide) rfl rfl H.2 i_X6_swap rfl n_X6_swap v_X6_swap q_L_163 (by decide) (f_kj H.1) (Nat.le_of_ble_eq_true rfl) dL_acts_682 (fun v14 σ15 H => ?_)
    refine f_iload dL_acts_685 6 rfl ?_
    refine f_icmp_ne (tgt := 694) dL_acts_687 (by decide) (fun h16 => ?_) (fun h16 => ?_)
    · replace H := H.1 h16
      refine f_iconst (v := 0) dL_acts_694 (by decide) ?_
      refine f_ls [] rfl ?_
      exact H
    · replace H := H.2 h16
      refine f_iconst (v := 1) dL_acts_690 (by decide) ?_
      refine f_goto (tgt := 695) dL_acts_691 (by decide) ?_
      refine f_ls [] rfl ?_
      exact H
  · replace H := H.2 h3
    refine f_iconst (v := 0) dL_acts_558 (by decide) ?_
    refine f_istore (ls' := [(15, .int 0), (0, .ref (zad G.1 0)), (1, .ref r1), (6, .int y6), (7, .ref y7), (9, .int y9), (13, .int y13), (14, .int y14)]) dL_acts_559 (by decide) rfl ?_
    refine f_ls [1, 2, 3, 4, 5, 6, 7, 0] rfl ?_
    exact H
set_option maxRecDepth 20000 in
set_option maxHeartbeats 2000000 in
theorem b_L_acts_561 {G : fG} {l : Launch} {K : Int32 → Option zS → fW → Prop} {r1 : Nat} {y6 : Int32} {y7 : Nat} {y9 : Int32} {y13 : Int32} {y14 : Int32} {y15 : Int32} {o : Option zS} {ω : fW} {kb : Nat}
    (H : (∃ (fs1 : List Value) (w2 : Int32), ω r1 = some (.inr (11, fs1)) ∧ fs1[0]? = some (.int w2) ∧ ((w2 ≤ y15 → (∃ (fs4 : List Value) (w5 : Nat), ω r1 = some (.inr (11, fs4)) ∧ fs4[4]? = some (.ref w5) ∧ (∃ (n6 : Nat) (f7 : Nat → Option Nat) (w8 : Nat), ω w5 = some (.inl (G.1.2.1 6, n6, .inr (.inr (.inr (.inr f7))))) ∧ vp_in 0 n6 ∧ f7 (Int32.toNatClampNeg 0) = some w8 ∧ (∃ (n9 : Nat) (f10 : Nat → Option Nat) (w11 : Nat), ω w8 = some (.inl (G.1.2.1 4, n9, .inr (.inr (.inr (.inr f10))))) ∧ vp_in y14 n9 ∧ f10 (Int32.toNatClampNeg y14) = some w11 ∧ (∃ (fs12 : List Value) (w13 : Nat), ω r1 = some (.inr (11, fs12)) ∧ fs12[4]? = some (.ref w13) ∧ (∃ (n14 : Nat) (f15 : Nat → Option Nat) (w16 : Nat), ω w13 = some (.inl (G.1.2.1 6, n14, .inr (.inr (.inr (.inr f15))))) ∧ vp_in 0 n14 ∧ f15 (Int32.toNatClampNeg 0) = some w16 ∧ (∃ (fs17 : List Value) (w18 : Nat), ω r1 = some (.inr (11, fs17)) ∧ fs17[4]? = some (.ref w18) ∧ (∃ (n19 : Nat) (f20 : Nat → Option Nat) (w21 : Nat), ω w18 = some (.inl (G.1.2.1 6, n19, .inr (.inr (.inr (.inr f20))))) ∧ vp_in 1 n19 ∧ f20 (Int32.toNatClampNeg 1) = some w21 ∧ (∃ (n22 : Nat) (f23 : Nat → Option Nat) (w24 : Nat), ω w21 = some (.inl (G.1.2.1 4, n22, .inr (.inr (.inr (.inr f23))))) ∧ vp_in y14 n22 ∧ f23 (Int32.toNatClampNeg y14) = some w24 ∧ (∃ (n25 : Nat) (f26 : Nat → Option Nat) (y28 : vp_A), ω w16 = some (.inl (G.1.2.1 4, n25, .inr (.inr (.inr (.inr f26))))) ∧ ω w24 = some (.inl (G.1.2.1 0, y28)) ∧ vp_in y14 n25 ∧ (∀ ω29 : fW, ω29 = fup ω w16 (.inl (G.1.2.1 4, n25, .inr (.inr (.inr (.inr (va_up f26 (Int32.toNatClampNeg y14) (some w24))))))) → (∃ (fs30 : List Value) (w31 : Nat), ω29 r1 = some (.inr (11, fs30)) ∧ fs30[4]? = some (.ref w31) ∧ (∃ (n32 : Nat) (f33 : Nat → Option Nat) (w34 : Nat), ω29 w31 = some (.inl (G.1.2.1 6, n32, .inr (.inr (.inr (.inr f33))))) ∧ vp_in 1 n32 ∧ f33 (Int32.toNatClampNeg 1) = some w34 ∧ (∃ (n35 : Nat) (f36 : Nat → Option Nat) (y38 : vp_A), ω29 w34 = some (.inl (G.1.2.1 4, n35, .inr (.inr (.inr (.inr f36))))) ∧ ω29 w11 = some (.inl (G.1.2.1 0, y38)) ∧ vp_in y14 n35 ∧ (∀ ω39 : fW, ω39 = fup ω29 w34 (.inl (G.1.2.1 4, n35, .inr (.inr (.inr (.inr (va_up f36 (Int32.toNatClampNeg y14) (some w11))))))) → L_L_acts_546 G l K r1 y6 y7 y9 y13 (y14 + 1) o ω39 kb))))))))))))))) ∧ (¬ w2 ≤ y15 → (∃ (fs40 : List Value) (w41 : Nat), ω r1 = some (.inr (11, fs40)) ∧ fs40[4]? = some (.ref w41) ∧ (∃ (n42 : Nat) (f43 : Nat → Option Nat) (w44 : Nat), ω w41 = some (.inl (G.1.2.1 6, n42, .inr (.inr (.inr (.inr f43))))) ∧ vp_in 0 n42 ∧ f43 (Int32.toNatClampNeg 0) = some w44 ∧ (∃ (n45 : Nat) (f46 : Nat → Option Nat) (w47 : Nat), ω w44 = some (.inl (G.1.2.1 4, n45, .inr (.inr (.inr (.inr f46))))) ∧ vp_in y14 n45 ∧ f46 (Int32.toNatClampNeg y14) = some w47 ∧ (∃ (n48 : Nat) (f49 : Nat → Int32), ω w47 = some (.inl (G.1.2.1 0, n48, .inl f49)) ∧ vp_in y15 n48 ∧ (∃ (fs50 : List Value) (w51 : Nat), ω r1 = some (.inr (11, fs50)) ∧ fs50[4]? = some (.ref w51) ∧ (∃ (n52 : Nat) (f53 : Nat → Option Nat) (w54 : Nat), ω w51 = some (.inl (G.1.2.1 6, n52, .inr (.inr (.inr (.inr f53))))) ∧ vp_in 1 n52 ∧ f53 (Int32.toNatClampNeg 1) = some w54 ∧ (∃ (n55 : Nat) (f56 : Nat → Option Nat) (w57 : Nat), ω w54 = some (.inl (G.1.2.1 4, n55, .inr (.inr (.inr (.inr f56))))) ∧ vp_in y14 n55 ∧ f56 (Int32.toNatClampNeg y14) = some w57 ∧ (∃ (n58 : Nat) (f59 : Nat → Int32), ω w57 = some (.inl (G.1.2.1 0, n58, .inl f59)) ∧ vp_in y15 n58 ∧ ((¬ (f49 (Int32.toNatClampNeg y15)) = (f59 (Int32.toNatClampNeg y15)) → L_L_acts_604 G l K r1 y6 y7 y9 y14 y15 1 y13 o ω kb) ∧ ((f49 (Int32.toNatClampNeg y15)) = (f59 (Int32.toNatClampNeg y15)) → L_L_acts_604 G l K r1 y6 y7 y9 y14 y15 0 y13 o ω kb)))))))))))))) :
    L_L_acts_561 G l K r1 y6 y7 y9 y13 y14 y15 o ω kb := by
  refine f_iload dL_acts_561 7 rfl ?_
  refine f_aload_n dL_acts_563 rfl 1 rfl ?_
  obtain ⟨fs1, w2, hfs1, gfs1, H⟩ := H
  refine gf_L_113 rfl hfs1 gfs1 dL_acts_564 ?_
  refine f_icmp_ge (tgt := 613) dL_acts_567 (by decide) (fun h3 => ?_) (fun h3 => ?_)
  · replace H := H.1 h3
    refine f_aload_n dL_acts_613 rfl 1 rfl ?_
    obtain ⟨fs4, w5, hfs4, gfs4, H⟩ := H
    refine gf_L_121 rfl hfs4 gfs4 dL_acts_614 ?_
    refine f_iconst (v := 0) dL_acts_617 (by decide) ?_
    obtain ⟨n6, f7, w8, hn6, gn6, en6, H⟩ := H
    refine f_aald6 hn6 gn6 en6 dL_acts_618 ?_
    refine f_iload dL_acts_619 6 rfl ?_
    obtain ⟨n9, f10, w11, hn9, gn9, en9, H⟩ := H
    refine f_aald4 hn9 gn9 en9 dL_acts_621 ?_
    refine f_astore (ls' := [(15, .ref w11), (0, .ref (zad G.1 0)), (1, .ref r1), (6, .int y6), (7, .ref y7), (9, .int y9), (13, .int y13), (14, .int y14)]) dL_acts_622 (by decide) rfl ?_
    refine f_aload_n dL_acts_624 rfl 2 rfl ?_
    obtain ⟨fs12, w13, hfs12, gfs12, H⟩ := H
    refine gf_L_121 rfl hfs12 gfs12 dL_acts_625 ?_
    refine f_iconst (v := 0) dL_acts_628 (by decide) ?_
    obtain ⟨n14, f15, w16, hn14, gn14, en14, H⟩ := H
    refine f_aald6 hn14 gn14 en14 dL_acts_629 ?_
    refine f_iload dL_acts_630 7 rfl ?_
    refine f_aload_n dL_acts_632 rfl 2 rfl ?_
    obtain ⟨fs17, w18, hfs17, gfs17, H⟩ := H
    refine gf_L_121 rfl hfs17 gfs17 dL_acts_633 ?_
    refine f_iconst (v := 1) dL_acts_636 (by decide) ?_
    obtain ⟨n19, f20, w21, hn19, gn19, en19, H⟩ := H
    refine f_aald6 hn19 gn19 en19 dL_acts_637 ?_
    refine f_iload dL_acts_638 7 rfl ?_
    obtain ⟨n22, f23, w24, hn22, gn22, en22, H⟩ := H
    refine f_aald4 hn22 gn22 en22 dL_acts_640 ?_
    obtain ⟨n25, f26, y28, hn25, gn25, en25, H⟩ := H
    refine f_aast4 hn25 en25 gn25 dL_acts_641 ?_
    replace H := H _ rfl
    generalize fup ω w16 (.inl (G.1.2.1 4, n25, .inr (.inr (.inr (.inr (va_up f26 (Int32.toNatClampNeg y14) (some w24))))))) = ω29 at H ⊢
    refine f_aload_n dL_acts_642 rfl 2 rfl ?_
    obtain ⟨fs30, w31, hfs30, gfs30, H⟩ := H
    refine gf_L_121 rfl hfs30 gfs30 dL_acts_643 ?_
    refine f_iconst (v := 1) dL_acts_646 (by decide) ?_
    obtain ⟨n32, f33, w34, hn32, gn32, en32, H⟩ := H
    refine f_aald6 hn32 gn32 en32 dL_acts_647 ?_
    refine f_iload dL_acts_648 7 rfl ?_
    refine f_aload dL_acts_650 0 rfl ?_
    obtain ⟨n35, f36, y38, hn35, gn35, en35, H⟩ := H
    refine f_aast4 hn35 en35 gn35 dL_acts_652 ?_
    replace H := H _ rfl
    generalize fup ω29 w34 (.inl (G.1.2.1 4, n35, .inr (.inr (.inr (.inr (va_up f36 (Int32.toNatClampNeg y14) (some w11))))))) = ω39 at H ⊢
    refine f_iinc (j := 7) (v := (y14 + 1)) (ls' := [(14, .int (y14 + 1)), (15, .ref w11), (0, .ref (zad G.1 0)), (1, .ref r1), (6, .int y6), (7, .ref y7), (9, .int y9), (13, .int y13)]) dL_acts_653 rfl rfl (by decide) rfl ?_
    refine f_goto (tgt := 546) dL_acts_656 (by decide) ?_
    refine f_ls [2, 3, 4, 5, 6, 7, 0] rfl ?_
    exact H
  · replace H := H.2 h3
    refine f_iload dL_acts_570 5 rfl ?_
    refine f_aload_n dL_acts_572 rfl 1 rfl ?_
    obtain ⟨fs40, w41, hfs40, gfs40, H⟩ := H
    refine gf_L_121 rfl hfs40 gfs40 dL_acts_573 ?_
    refine f_iconst (v := 0) dL_acts_576 (by decide) ?_
    obtain ⟨n42, f43, w44, hn42, gn42, en42, H⟩ := H
    refine f_aald6 hn42 gn42 en42 dL_acts_577 ?_
    refine f_iload dL_acts_578 6 rfl ?_
    obtain ⟨n45, f46, w47, hn45, gn45, en45, H⟩ := H
    refine f_aald4 hn45 gn45 en45 dL_acts_580 ?_
    refine f_iload dL_acts_581 7 rfl ?_
    obtain ⟨n48, f49, hn48, gn48, H⟩ := H
    refine f_iald hn48 gn48 dL_acts_583 ?_
    refine f_aload_n dL_acts_584 rfl 1 rfl ?_
    obtain ⟨fs50, w51, hfs50, gfs50, H⟩ := H
    refine gf_L_121 rfl hfs50 gfs50 dL_acts_585 ?_
    refine f_iconst (v := 1) dL_acts_588 (by decide) ?_
    obtain ⟨n52, f53, w54, hn52, gn52, en52, H⟩ := H
    refine f_aald6 hn52 gn52 en52 dL_acts_589 ?_
    refine f_iload dL_acts_590 6 rfl ?_
    obtain ⟨n55, f56, w57, hn55, gn55, en55, H⟩ := H
    refine f_aald4 hn55 gn55 en55 dL_acts_592 ?_
    refine f_iload dL_acts_593 7 rfl ?_
    obtain ⟨n58, f59, hn58, gn58, H⟩ := H
    refine f_iald hn58 gn58 dL_acts_595 ?_
    refine f_icmp_ne (tgt := 603) dL_acts_596 (by decide) (fun h60 => ?_) (fun h60 => ?_)
    · replace H := H.1 h60
      refine f_iconst (v := 1) dL_acts_603 (by decide) ?_
      refine f_ls [0, 1, 2, 3, 4, 6, 7] rfl ?_
      exact H
    · replace H := H.2 h60
      refine f_iconst (v := 0) dL_acts_599 (by decide) ?_
      refine f_goto (tgt := 604) dL_acts_600 (by decide) ?_
      refine f_ls [0, 1, 2, 3, 4, 6, 7] rfl ?_
      exact H
set_option maxRecDepth 20000 in
set_option maxHeartbeats 2000000 in
theorem b_L_acts_604 {G : fG} {l : Launch} {K : Int32 → Option zS → fW → Prop} {r1 : Nat} {y6 : Int32} {y7 : Nat} {y9 : Int32} {y14 : Int32} {y15 : Int32} {z0 : Int32} {z1 : Int32} {o : Option zS} {ω : fW} {kb : Nat}
    (H : L_L_acts_561 G l K r1 y6 y7 y9 (z1 + z0) y14 (y15 + 1) o ω kb) :
    L_L_acts_604 G l K r1 y6 y7 y9 y14 y15 z0 z1 o ω kb := by
  refine f_iadd dL_acts_604 ?_
  refine f_istore (ls' := [(13, .int (z1 + z0)), (0, .ref (zad G.1 0)), (1, .ref r1), (6, .int y6), (7, .ref y7), (9, .int y9), (14, .int y14), (15, .int y15)]) dL_acts_605 (by decide) rfl ?_
  refine f_iinc (j := 7) (v := (y15 + 1)) (ls' := [(15, .int (y15 + 1)), (13, .int (z1 + z0)), (0, .ref (zad G.1 0)), (1, .ref r1), (6, .int y6), (7, .ref y7), (9, .int y9), (14, .int y14)]) dL_acts_607 rfl rfl (by decide) rfl ?_
  refine f_goto (tgt := 561) dL_acts_610 (by decide) ?_
  refine f_ls [2, 3, 4, 5, 6, 1, 7, 0] rfl ?_
  exact H
set_option maxRecDepth 20000 in
set_option maxHeartbeats 2000000 in
theorem b_L_acts_695 {G : fG} {l : Launch} {K : Int32 → Option zS → fW → Prop} {r1 : Nat} {z0 : Int32} {o : Option zS} {ω : fW} {kb : Nat}
    (H : (zbl z0 ∧ K z0 o ω)) :
    L_L_acts_695 G l K r1 z0 o ω kb := by
  exact f_zret rfl (zbl_n H.1) dL_acts_695 ⟨_, rfl, H.2⟩
set_option maxRecDepth 20000 in
set_option maxHeartbeats 2000000 in
theorem b_L_acts_769 {G : fG} {l : Launch} {K : Int32 → Option zS → fW → Prop} {r1 : Nat} {y9 : Int32} {y10 : Int32} {y11 : Int32} {y12 : Int32} {z0 : Int32} {o : Option zS} {ω : fW} {kb : Nat}
    (H : (∃ σ10 : zS, o = some σ10 ∧ (1 ≤ kb ∧ ∀ n : Nat, CT (gB G.1 n) l M_X6_spot 1 [.ref (zad G.1 0), .int z0, .int (y9 + y10), .int y11, .int y12] σ10 (zQi (fun v1 σ2 => (∃ (fs3 : List Value) (w4 : Nat), ω r1 = some (.inr (11, fs3)) ∧ fs3[3]? = some (.ref w4) ∧ (0 ≤ (kb - 1) ∧ ∃ fs9 : List Value, ω w4 = some (.inr (3, fs9)) ∧ FC G l M_Jx4a65c_size_8abf5 0 [.ref w4] ((some σ2), ω) (fQi (fun v5 o6 ω7 => ((¬ v1 = v5 → L_L_acts_798 G l K r1 0 o6 ω7 (kb - 1)) ∧ (v1 = v5 → L_L_acts_798 G l K r1 1 o6 ω7 (kb - 1)))))))) (fun _ _ => False))))) :
    L_L_acts_769 G l K r1 y9 y10 y11 y12 z0 o ω kb := by
  refine f_iload dL_acts_769 1 rfl ?_
  refine f_iload dL_acts_771 2 rfl ?_
  refine f_iadd dL_acts_773 ?_
  refine f_iload dL_acts_774 3 rfl ?_
  refine f_iload dL_acts_776 4 rfl ?_
  obtain ⟨σ10, he, H⟩ := H
  subst he
  refine f_callCi (oo := 0) (j1 := 1) (j2 := (kb - 1)) (av := [.int z0, .int (y9 + y10), .int y11, .int y12]) rfl rfl (by decide) rfl rfl H.2 i_X6_spot rfl n_X6_spot v_X6_spot q_L_170 (by decide) (f_kj H.1) (Nat.le_of_ble_eq_true rfl) dL_acts_778 (fun v1 σ2 H => ?_)
  refine f_aload_n dL_acts_781 rfl 0 rfl ?_
  obtain ⟨fs3, w4, hfs3, gfs3, H⟩ := H
  refine gf_L_63 rfl hfs3 gfs3 dL_acts_782 ?_
  have hkfs9 := H.1
  obtain ⟨fs9, hfs9, H⟩ := H.2
  refine f_callFi (j1 := 0) (j2 := (kb - 1)) (av := []) rfl hfs9 rfl rfl H i_Jx4a65c_size_8abf5 rfl (by decide +kernel) (by decide +kernel) n_Jx4a65c_size_8abf5 vi_Jx4a65c_size_8abf5 q_L_89 (by decide) (f_kj hkfs9) (Nat.le_of_ble_eq_true rfl) dL_acts_785 (fun v5 o6 ω7 H => ?_)
  refine f_icmp_ne (tgt := 797) dL_acts_790 (by decide) (fun h8 => ?_) (fun h8 => ?_)
  · replace H := H.1 h8
    refine f_iconst (v := 0) dL_acts_797 (by decide) ?_
    refine f_ls [] rfl ?_
    exact H
  · replace H := H.2 h8
    refine f_iconst (v := 1) dL_acts_793 (by decide) ?_
    refine f_goto (tgt := 798) dL_acts_794 (by decide) ?_
    refine f_ls [] rfl ?_
    exact H
set_option maxRecDepth 20000 in
set_option maxHeartbeats 2000000 in
theorem b_L_acts_798 {G : fG} {l : Launch} {K : Int32 → Option zS → fW → Prop} {r1 : Nat} {z0 : Int32} {o : Option zS} {ω : fW} {kb : Nat}
    (H : (zbl z0 ∧ K z0 o ω)) :
    L_L_acts_798 G l K r1 z0 o ω kb := by
  exact f_zret rfl (zbl_n H.1) dL_acts_798 ⟨_, rfl, H.2⟩
