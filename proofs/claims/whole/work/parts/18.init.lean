theorem wa_int : Cond.arrayClass .int ∈ wT := wT_at 99 (by decide +kernel) (by decide +kernel)
theorem wa_bool : Cond.arrayClass .boolean ∈ wT := wT_at 215 (by decide +kernel) (by decide +kernel)
theorem lo_X1_3 : LkO RX1 3 := ⟨wT_at 78 (by decide +kernel) (by decide +kernel), wT_at 65 (by decide +kernel) (by decide +kernel), wT_at 66 (by decide +kernel) (by decide +kernel)⟩
theorem lk_X1_9 : LkV RX1 9 yX1_setUsual cX1_setUsual 1 none 0 := ⟨⟨wT_at 79 (by decide +kernel) (by decide +kernel), ms_X1_setUsual, mx_X1_setUsual, mi_X1_setUsual, mc_X1_setUsual⟩, md_X1_setUsual⟩
theorem lo_X3_3 : LkO RX3 3 := ⟨wT_at 132 (by decide +kernel) (by decide +kernel), wT_at 65 (by decide +kernel) (by decide +kernel), wT_at 66 (by decide +kernel) (by decide +kernel)⟩
theorem li_16 : (16 : Int32) = nI 16 := by decide
theorem lo_X2_3 : LkO RX2 3 := ⟨wT_at 72 (by decide +kernel) (by decide +kernel), wT_at 65 (by decide +kernel) (by decide +kernel), wT_at 66 (by decide +kernel) (by decide +kernel)⟩
theorem li_200 : (200 : Int32) = nI 200 := by decide
theorem lc_X2_19 : LkC RX2 19 1 RX1 TX1 5 := ⟨rfl, cwX1, wT_at 73 (by decide +kernel) (by decide +kernel), wT_at 74 (by decide +kernel) (by decide +kernel), wT_at 55 (by decide +kernel) (by decide +kernel)⟩
theorem nf_X1 : ∀ j, j < 5 → defaultValue (tyX1 j) = vp_V [.int 0, .int 0, .int 0, .int 0, .int 0] j := fun j hj => by
  rcases (show j = 0 ∨ j = 1 ∨ j = 2 ∨ j = 3 ∨ j = 4 by omega) with rfl | rfl | rfl | rfl | rfl <;> rfl
theorem mc_X1_init : Cond.code yX1_init cX1_init 1 none ∈ wT := wT_at 77 (by decide +kernel) (by decide +kernel)
theorem lk_X2_21 : LkI RX2 21 yX1_init cX1_init 1 := ⟨⟨wT_at 75 (by decide +kernel) (by decide +kernel), wT_at 76 (by decide +kernel) (by decide +kernel), wT_at 55 (by decide +kernel) (by decide +kernel), mc_X1_init⟩, rfl, by decide +kernel, by decide +kernel, by decide +kernel⟩
theorem lo_X0_3 : LkO RX0 3 := ⟨wT_at 124 (by decide +kernel) (by decide +kernel), wT_at 65 (by decide +kernel) (by decide +kernel), wT_at 66 (by decide +kernel) (by decide +kernel)⟩
theorem lc_X0_9 : LkC RX0 9 1 RX1 TX1 5 := ⟨rfl, cwX1, wT_at 125 (by decide +kernel) (by decide +kernel), wT_at 74 (by decide +kernel) (by decide +kernel), wT_at 55 (by decide +kernel) (by decide +kernel)⟩
theorem lk_X0_11 : LkI RX0 11 yX1_init cX1_init 1 := ⟨⟨wT_at 126 (by decide +kernel) (by decide +kernel), wT_at 76 (by decide +kernel) (by decide +kernel), wT_at 55 (by decide +kernel) (by decide +kernel), mc_X1_init⟩, rfl, by decide +kernel, by decide +kernel, by decide +kernel⟩
theorem lc_X0_18 : LkC RX0 18 3 RX3 TX3 5 := ⟨rfl, cwX3, wT_at 127 (by decide +kernel) (by decide +kernel), wT_at 128 (by decide +kernel) (by decide +kernel), wT_at 57 (by decide +kernel) (by decide +kernel)⟩
theorem nf_X3 : ∀ j, j < 5 → defaultValue (tyX3 j) = vp_V [.int 0, .int 0, .int 0, .int 0, .null] j := fun j hj => by
  rcases (show j = 0 ∨ j = 1 ∨ j = 2 ∨ j = 3 ∨ j = 4 by omega) with rfl | rfl | rfl | rfl | rfl <;> rfl
theorem mc_X3_init : Cond.code yX3_init cX3_init 1 none ∈ wT := wT_at 131 (by decide +kernel) (by decide +kernel)
theorem lk_X0_20 : LkI RX0 20 yX3_init cX3_init 1 := ⟨⟨wT_at 129 (by decide +kernel) (by decide +kernel), wT_at 130 (by decide +kernel) (by decide +kernel), wT_at 57 (by decide +kernel) (by decide +kernel), mc_X3_init⟩, rfl, by decide +kernel, by decide +kernel, by decide +kernel⟩
theorem li_256 : (256 : Int32) = nI 256 := by decide
theorem li_8 : (8 : Int32) = nI 8 := by decide
theorem lo_X4_1 : LkO RX4 1 := ⟨wT_at 64 (by decide +kernel) (by decide +kernel), wT_at 65 (by decide +kernel) (by decide +kernel), wT_at 66 (by decide +kernel) (by decide +kernel)⟩
theorem lc_X4_7 : LkC RX4 7 2 RX2 TX2 6 := ⟨rfl, cwX2, wT_at 67 (by decide +kernel) (by decide +kernel), wT_at 68 (by decide +kernel) (by decide +kernel), wT_at 54 (by decide +kernel) (by decide +kernel)⟩
theorem nf_X2 : ∀ j, j < 6 → defaultValue (tyX2 j) = vp_V [.null, .int 0, .null, .int 0, .int 0, .int 0] j := fun j hj => by
  rcases (show j = 0 ∨ j = 1 ∨ j = 2 ∨ j = 3 ∨ j = 4 ∨ j = 5 by omega) with rfl | rfl | rfl | rfl | rfl | rfl <;> rfl
theorem mc_X2_init : Cond.code yX2_init cX2_init 1 none ∈ wT := wT_at 71 (by decide +kernel) (by decide +kernel)
theorem lk_X4_9 : LkI RX4 9 yX2_init cX2_init 1 := ⟨⟨wT_at 69 (by decide +kernel) (by decide +kernel), wT_at 70 (by decide +kernel) (by decide +kernel), wT_at 54 (by decide +kernel) (by decide +kernel), mc_X2_init⟩, rfl, by decide +kernel, by decide +kernel, by decide +kernel⟩
theorem lc_X4_16 : LkC RX4 16 0 RX0 TX0 16 := ⟨rfl, cwX0, wT_at 119 (by decide +kernel) (by decide +kernel), wT_at 120 (by decide +kernel) (by decide +kernel), wT_at 56 (by decide +kernel) (by decide +kernel)⟩
theorem nf_X0 : ∀ j, j < 16 → defaultValue (tyX0 j) = vp_V [.null, .null, .null, .null, .int 0, .int 0, .int 0, .int 0, .int 0, .int 0, .int 0, .int 0, .int 0, .int 0, .int 0, .int 0] j := fun j hj => by
  rcases (show j = 0 ∨ j = 1 ∨ j = 2 ∨ j = 3 ∨ j = 4 ∨ j = 5 ∨ j = 6 ∨ j = 7 ∨ j = 8 ∨ j = 9 ∨ j = 10 ∨ j = 11 ∨ j = 12 ∨ j = 13 ∨ j = 14 ∨ j = 15 by omega) with rfl | rfl | rfl | rfl | rfl | rfl | rfl | rfl | rfl | rfl | rfl | rfl | rfl | rfl | rfl | rfl <;> rfl
theorem mc_X0_init : Cond.code yX0_init cX0_init 1 none ∈ wT := wT_at 123 (by decide +kernel) (by decide +kernel)
theorem lk_X4_18 : LkI RX4 18 yX0_init cX0_init 1 := ⟨⟨wT_at 121 (by decide +kernel) (by decide +kernel), wT_at 122 (by decide +kernel) (by decide +kernel), wT_at 56 (by decide +kernel) (by decide +kernel), mc_X0_init⟩, rfl, by decide +kernel, by decide +kernel, by decide +kernel⟩
theorem lo_X5_1 : LkO RX5 1 := ⟨wT_at 640 (by decide +kernel) (by decide +kernel), wT_at 65 (by decide +kernel) (by decide +kernel), wT_at 66 (by decide +kernel) (by decide +kernel)⟩
theorem li_5 : (5 : Int32) = nI 5 := by decide
theorem li_306 : (306 : Int32) = nI 306 := by decide
theorem ks_612 : (Int16.ofInt (612)).toInt32 = 612 := by decide
theorem li_612 : (612 : Int32) = nI 612 := by decide
def zX1_init : Option (Fn) := oB (zX1_setUsual zf) (fun y1 => some y1)
set_option maxHeartbeats 4000000 in
set_option maxRecDepth 100000 in
theorem mtX1_init (l : Launch) (D : va_G) (cI cZ : ClassId) (a0 : Nat) : CtrN l yX1_init cX1_init 1 1 20 0 0 D cI cZ [.ref a0] [eS a0 zf] zX1_init (fun (y : Fn) (_ : Nat → Nat) => [eS a0 y]) := by
  refine CtrN.of (by decide) (Nat.le_of_ble_eq_true rfl) ?_
  intro p e s m below meth c A hin C
  have C : CX p s m ([.ref a0] : List Value).toArray meth c cX1_init 1 RX1 D cI cZ A none := C
  refine VF.lve (lv' := [(0, .ref a0)]) rfl ?_
  refine VF.eq zX1_init.eq_1 ?_
  refine VF.aload_n C 0 dX1_init_0 rfl ?_
  refine VF.objInit C lo_X1_3 dX1_init_1 (Nat.le_of_ble_eq_true rfl) (Nat.le_of_ble_eq_true rfl) ?_
  refine VF.aload_n C 0 dX1_init_4 rfl ?_
  refine VF.callVv C (b := a0) (As := []) (rest := []) lk_X1_9 (mtX1_setUsual l D cI cZ a0 zf) (fun _ => rfl) [some 0] ⟨rfl, rfl⟩ (ws' := fun y1 => [eS a0 y1]) (fun _ => ⟨⟨rfl, rfl, rfl⟩, trivial⟩) (ci := 1) rfl rfl rfl rfl (Nat.le_of_ble_eq_true rfl) ⟨Nat.le_of_ble_eq_true rfl, Nat.le_of_ble_eq_true rfl⟩ dX1_init_5 ⟨Nat.le_of_ble_eq_true rfl, Nat.le_of_ble_eq_true rfl⟩ (fun y1 => ?_)
  exact VF.vretN C (fun i => [a0].getD i 0) rfl dX1_init_8
def zX3_init : Option (Fn × Fn) := oB (zX3_clear zf zf) (fun y1 => some (y1.1, y1.2))
set_option maxHeartbeats 4000000 in
set_option maxRecDepth 100000 in
theorem mtX3_init (l : Launch) (D : va_G) (cI cZ : ClassId) (a0 : Nat) : CtrN l yX3_init cX3_init 1 1 21 1 16 D cI cZ [.ref a0] [(a0, .inr (3, [.int (zf 0), .int (zf 1), .int (zf 2), .int (zf 3), .null]))] zX3_init (fun (y : Fn × Fn) (q : Nat → Nat) => [eW a0 (q 1) y.1, eA cI 16 (q 1) y.2]) := by
  refine CtrN.of (by decide) (Nat.le_of_ble_eq_true rfl) ?_
  intro p e s m below meth c A hin C
  have C : CX p s m ([.ref a0] : List Value).toArray meth c cX3_init 1 RX3 D cI cZ A none := C
  refine VF.lve (lv' := [(0, .ref a0)]) rfl ?_
  refine VF.eq zX3_init.eq_1 ?_
  refine VF.aload_n C 0 dX3_init_0 rfl ?_
  refine VF.objInit C lo_X3_3 dX3_init_1 (Nat.le_of_ble_eq_true rfl) (Nat.le_of_ble_eq_true rfl) ?_
  refine VF.aload_n C 0 dX3_init_4 rfl ?_
  refine VF.bipush C dX3_init_5 kb_16 ?_
  refine VF.newaI C wa_int li_16 (Nat.le_of_ble_eq_true rfl) (Nat.le_of_ble_eq_true rfl) (Nat.le_of_ble_eq_true rfl) dX3_init_7 (ws' := fun q1 => [(a0, .inr (3, [.int (zf 0), .int (zf 1), .int (zf 2), .int (zf 3), .null])), eA cI 16 q1 zf]) (fun _ => rfl) (fun q1 => ?_)
  refine VF.putF C hin fl_X3_9 tyX3 tyX3_ok nmX3 0 rfl rfl rfl rfl rfl (Nat.le_of_ble_eq_true rfl) (ws' := [eW a0 q1 zf, eA cI 16 q1 zf]) rfl dX3_init_9 ?_
  refine VF.aload_n C 0 dX3_init_12 rfl ?_
  refine VF.callVv C (b := a0) (As := []) (rest := []) lk_X3_15 (mtX3_clear l D cI cZ a0 q1 zf zf) (fun _ => rfl) [some 0, some 1] ⟨rfl, rfl⟩ (ws' := fun y1 => [eW a0 q1 y1.1, eA cI 16 q1 y1.2]) (fun _ => ⟨⟨rfl, rfl, rfl⟩, ⟨rfl, rfl, rfl⟩, trivial⟩) (ci := 3) rfl rfl rfl rfl (Nat.le_of_ble_eq_true rfl) ⟨Nat.le_of_ble_eq_true rfl, Nat.le_of_ble_eq_true rfl⟩ dX3_init_13 ⟨Nat.le_of_ble_eq_true rfl, Nat.le_of_ble_eq_true rfl⟩ (fun y1 => ?_)
  exact VF.vretN C (fun i => [a0, q1].getD i 0) rfl dX3_init_16
def zX2_init : Option (Fn × Fn × Fn) := oB zX1_init (fun y1 => some ((upd (upd (upd (upd zf 1 0) 3 0) 4 0) 5 (-4)), zf, y1))
set_option maxHeartbeats 4000000 in
set_option maxRecDepth 100000 in
theorem mtX2_init (l : Launch) (D : va_G) (cI cZ : ClassId) (a0 : Nat) : CtrN l yX2_init cX2_init 1 2 40 2 205 D cI cZ [.ref a0] [(a0, .inr (2, [.null, .int (zf 1), .null, .int (zf 3), .int (zf 4), .int (zf 5)]))] zX2_init (fun (y : Fn × Fn × Fn) (q : Nat → Nat) => [eT a0 (q 1) (q 2) y.1, eA cI 200 (q 1) y.2.1, eS (q 2) y.2.2]) := by
  refine CtrN.of (by decide) (Nat.le_of_ble_eq_true rfl) ?_
  intro p e s m below meth c A hin C
  have C : CX p s m ([.ref a0] : List Value).toArray meth c cX2_init 1 RX2 D cI cZ A none := C
  refine VF.lve (lv' := [(0, .ref a0)]) rfl ?_
  refine VF.eq zX2_init.eq_1 ?_
  refine VF.aload_n C 0 dX2_init_0 rfl ?_
  refine VF.objInit C lo_X2_3 dX2_init_1 (Nat.le_of_ble_eq_true rfl) (Nat.le_of_ble_eq_true rfl) ?_
  refine VF.aload_n C 0 dX2_init_4 rfl ?_
  refine VF.sipush C dX2_init_5 ks_200 ?_
  refine VF.newaI C wa_int li_200 (Nat.le_of_ble_eq_true rfl) (Nat.le_of_ble_eq_true rfl) (Nat.le_of_ble_eq_true rfl) dX2_init_8 (ws' := fun q1 => [(a0, .inr (2, [.null, .int (zf 1), .null, .int (zf 3), .int (zf 4), .int (zf 5)])), eA cI 200 q1 zf]) (fun _ => rfl) (fun q1 => ?_)
  refine VF.putF C hin fl_X2_9 tyX2 tyX2_ok nmX2 0 rfl rfl rfl rfl rfl (Nat.le_of_ble_eq_true rfl) (ws' := [(a0, .inr (2, [.ref q1, .int (zf 1), .null, .int (zf 3), .int (zf 4), .int (zf 5)])), eA cI 200 q1 zf]) rfl dX2_init_10 ?_
  refine VF.aload_n C 0 dX2_init_13 rfl ?_
  refine VF.iconst C dX2_init_14 kc_0 ?_
  refine VF.put C fl_X2_15 tyX2 tyX2_ok nmX2 0 rfl rfl rfl (Nat.le_of_ble_eq_true rfl) (ws' := [(a0, .inr (2, [.ref q1, .int ((upd zf 1 0) 1), .null, .int ((upd zf 1 0) 3), .int ((upd zf 1 0) 4), .int ((upd zf 1 0) 5)])), eA cI 200 q1 zf]) rfl dX2_init_15 ?_
  refine VF.aload_n C 0 dX2_init_18 rfl ?_
  refine VF.new C lc_X2_19 tyX1 tyX1_ok nf_X1 (Nat.le_of_ble_eq_true rfl) (Nat.le_of_ble_eq_true rfl) dX2_init_19 (ws' := fun q2 => [(a0, .inr (2, [.ref q1, .int ((upd zf 1 0) 1), .null, .int ((upd zf 1 0) 3), .int ((upd zf 1 0) 4), .int ((upd zf 1 0) 5)])), eA cI 200 q1 zf, eS q2 zf]) (fun _ => rfl) (fun q2 => ?_)
  refine VF.dup C dX2_init_22 rfl ?_
  refine VF.callI C lk_X2_21 (mtX1_init l D cI cZ q2) [(a0, .inr (2, [.ref q1, .int ((upd zf 1 0) 1), .null, .int ((upd zf 1 0) 3), .int ((upd zf 1 0) 4), .int ((upd zf 1 0) 5)])), eA cI 200 q1 zf] rfl (ws' := fun y1 r1 => [(a0, .inr (2, [.ref q1, .int ((upd zf 1 0) 1), .null, .int ((upd zf 1 0) 3), .int ((upd zf 1 0) 4), .int ((upd zf 1 0) 5)])), eA cI 200 q1 zf, eS q2 y1]) (fun _ _ => rfl) (Nat.le_of_ble_eq_true rfl) ⟨Nat.le_of_ble_eq_true rfl, Nat.le_of_ble_eq_true rfl⟩ dX2_init_23 ⟨Nat.le_of_ble_eq_true rfl, Nat.le_of_ble_eq_true rfl⟩ (fun y1 r1 => ?_)
  refine VF.putF C hin fl_X2_22 tyX2 tyX2_ok nmX2 0 rfl rfl rfl rfl rfl (Nat.le_of_ble_eq_true rfl) (ws' := [eT a0 q1 q2 (upd zf 1 0), eA cI 200 q1 zf, eS q2 y1]) rfl dX2_init_26 ?_
  refine VF.aload_n C 0 dX2_init_29 rfl ?_
  refine VF.iconst C dX2_init_30 kc_0 ?_
  refine VF.put C fl_X2_26 tyX2 tyX2_ok nmX2 0 rfl rfl rfl (Nat.le_of_ble_eq_true rfl) (ws' := [eT a0 q1 q2 (upd (upd zf 1 0) 3 0), eA cI 200 q1 zf, eS q2 y1]) rfl dX2_init_31 ?_
  refine VF.aload_n C 0 dX2_init_34 rfl ?_
  refine VF.iconst C dX2_init_35 kc_0 ?_
  refine VF.putbK C fl_X2_29 tyX2 tyX2_ok nmX2 0 (Or.inl rfl) rfl rfl rfl (Nat.le_of_ble_eq_true rfl) (ws' := [eT a0 q1 q2 (upd (upd (upd zf 1 0) 3 0) 4 0), eA cI 200 q1 zf, eS q2 y1]) rfl dX2_init_36 ?_
  refine VF.aload_n C 0 dX2_init_39 rfl ?_
  refine VF.bipush C dX2_init_40 kb_m4 ?_
  refine VF.put C fl_X2_33 tyX2 tyX2_ok nmX2 0 rfl rfl rfl (Nat.le_of_ble_eq_true rfl) (ws' := [eT a0 q1 q2 (upd (upd (upd (upd zf 1 0) 3 0) 4 0) 5 (-4)), eA cI 200 q1 zf, eS q2 y1]) rfl dX2_init_42 ?_
  exact VF.vretN C (fun i => [a0, q1, q2].getD i 0) rfl dX2_init_45
def zX0_init : Option (Fn × Fn × Fn × Fn × Fn × Fn) := oB zX1_init (fun y1 => oB zX3_init (fun y2 => oB (zX0_startAnew zf y2.1 y2.2 zf zf) (fun y3 => some (y3.1, y1, y3.2.1, y3.2.2.1, y3.2.2.2.1, y3.2.2.2.2))))
set_option maxHeartbeats 4000000 in
set_option maxRecDepth 100000 in
theorem mtX0_init (l : Launch) (D : va_G) (cI cZ : ClassId) (a0 : Nat) : CtrN l yX0_init cX0_init 1 3 66 5 290 D cI cZ [.ref a0] [(a0, .inr (0, [.null, .null, .null, .null, .int (zf 4), .int (zf 5), .int (zf 6), .int (zf 7), .int (zf 8), .int (zf 9), .int (zf 10), .int (zf 11), .int (zf 12), .int (zf 13), .int (zf 14), .int (zf 15)]))] zX0_init (fun (y : Fn × Fn × Fn × Fn × Fn × Fn) (q : Nat → Nat) => [eC a0 (q 1) (q 2) (q 4) (q 5) y.1, eS (q 1) y.2.1, eW (q 2) (q 3) y.2.2.1, eA cI 16 (q 3) y.2.2.2.1, eA cI 256 (q 4) y.2.2.2.2.1, eA cZ 8 (q 5) y.2.2.2.2.2]) := by
  refine CtrN.of (by decide) (Nat.le_of_ble_eq_true rfl) ?_
  intro p e s m below meth c A hin C
  have C : CX p s m ([.ref a0] : List Value).toArray meth c cX0_init 1 RX0 D cI cZ A none := C
  refine VF.lve (lv' := [(0, .ref a0)]) rfl ?_
  refine VF.eq zX0_init.eq_1 ?_
  refine VF.aload_n C 0 dX0_init_0 rfl ?_
  refine VF.objInit C lo_X0_3 dX0_init_1 (Nat.le_of_ble_eq_true rfl) (Nat.le_of_ble_eq_true rfl) ?_
  refine VF.aload_n C 0 dX0_init_4 rfl ?_
  refine VF.new C lc_X0_9 tyX1 tyX1_ok nf_X1 (Nat.le_of_ble_eq_true rfl) (Nat.le_of_ble_eq_true rfl) dX0_init_5 (ws' := fun q1 => [(a0, .inr (0, [.null, .null, .null, .null, .int (zf 4), .int (zf 5), .int (zf 6), .int (zf 7), .int (zf 8), .int (zf 9), .int (zf 10), .int (zf 11), .int (zf 12), .int (zf 13), .int (zf 14), .int (zf 15)])), eS q1 zf]) (fun _ => rfl) (fun q1 => ?_)
  refine VF.dup C dX0_init_8 rfl ?_
  refine VF.callI C lk_X0_11 (mtX1_init l D cI cZ q1) [(a0, .inr (0, [.null, .null, .null, .null, .int (zf 4), .int (zf 5), .int (zf 6), .int (zf 7), .int (zf 8), .int (zf 9), .int (zf 10), .int (zf 11), .int (zf 12), .int (zf 13), .int (zf 14), .int (zf 15)]))] rfl (ws' := fun y1 r1 => [(a0, .inr (0, [.null, .null, .null, .null, .int (zf 4), .int (zf 5), .int (zf 6), .int (zf 7), .int (zf 8), .int (zf 9), .int (zf 10), .int (zf 11), .int (zf 12), .int (zf 13), .int (zf 14), .int (zf 15)])), eS q1 y1]) (fun _ _ => rfl) (Nat.le_of_ble_eq_true rfl) ⟨Nat.le_of_ble_eq_true rfl, Nat.le_of_ble_eq_true rfl⟩ dX0_init_9 ⟨Nat.le_of_ble_eq_true rfl, Nat.le_of_ble_eq_true rfl⟩ (fun y1 r1 => ?_)
  refine VF.putF C hin fl_X0_12 tyX0 tyX0_ok nmX0 0 rfl rfl rfl rfl rfl (Nat.le_of_ble_eq_true rfl) (ws' := [(a0, .inr (0, [.ref q1, .null, .null, .null, .int (zf 4), .int (zf 5), .int (zf 6), .int (zf 7), .int (zf 8), .int (zf 9), .int (zf 10), .int (zf 11), .int (zf 12), .int (zf 13), .int (zf 14), .int (zf 15)])), eS q1 y1]) rfl dX0_init_12 ?_
  refine VF.aload_n C 0 dX0_init_15 rfl ?_
  refine VF.new C lc_X0_18 tyX3 tyX3_ok nf_X3 (Nat.le_of_ble_eq_true rfl) (Nat.le_of_ble_eq_true rfl) dX0_init_16 (ws' := fun q2 => [(a0, .inr (0, [.ref q1, .null, .null, .null, .int (zf 4), .int (zf 5), .int (zf 6), .int (zf 7), .int (zf 8), .int (zf 9), .int (zf 10), .int (zf 11), .int (zf 12), .int (zf 13), .int (zf 14), .int (zf 15)])), eS q1 y1, (q2, .inr (3, [.int (zf 0), .int (zf 1), .int (zf 2), .int (zf 3), .null]))]) (fun _ => rfl) (fun q2 => ?_)
  refine VF.dup C dX0_init_19 rfl ?_
  refine VF.callI C lk_X0_20 (mtX3_init l D cI cZ q2) [(a0, .inr (0, [.ref q1, .null, .null, .null, .int (zf 4), .int (zf 5), .int (zf 6), .int (zf 7), .int (zf 8), .int (zf 9), .int (zf 10), .int (zf 11), .int (zf 12), .int (zf 13), .int (zf 14), .int (zf 15)])), eS q1 y1] rfl (ws' := fun y2 r2 => [(a0, .inr (0, [.ref q1, .null, .null, .null, .int (zf 4), .int (zf 5), .int (zf 6), .int (zf 7), .int (zf 8), .int (zf 9), .int (zf 10), .int (zf 11), .int (zf 12), .int (zf 13), .int (zf 14), .int (zf 15)])), eS q1 y1, eW q2 (r2 1) y2.1, eA cI 16 (r2 1) y2.2]) (fun _ _ => rfl) (Nat.le_of_ble_eq_true rfl) ⟨Nat.le_of_ble_eq_true rfl, Nat.le_of_ble_eq_true rfl⟩ dX0_init_20 ⟨Nat.le_of_ble_eq_true rfl, Nat.le_of_ble_eq_true rfl⟩ (fun y2 r2 => ?_)
  refine VF.putF C hin fl_X0_21 tyX0 tyX0_ok nmX0 0 rfl rfl rfl rfl rfl (Nat.le_of_ble_eq_true rfl) (ws' := [(a0, .inr (0, [.ref q1, .ref q2, .null, .null, .int (zf 4), .int (zf 5), .int (zf 6), .int (zf 7), .int (zf 8), .int (zf 9), .int (zf 10), .int (zf 11), .int (zf 12), .int (zf 13), .int (zf 14), .int (zf 15)])), eS q1 y1, eW q2 (r2 1) y2.1, eA cI 16 (r2 1) y2.2]) rfl dX0_init_23 ?_
  refine VF.aload_n C 0 dX0_init_26 rfl ?_
  refine VF.sipush C dX0_init_27 ks_256 ?_
  refine VF.newaI C wa_int li_256 (Nat.le_of_ble_eq_true rfl) (Nat.le_of_ble_eq_true rfl) (Nat.le_of_ble_eq_true rfl) dX0_init_30 (ws' := fun q3 => [(a0, .inr (0, [.ref q1, .ref q2, .null, .null, .int (zf 4), .int (zf 5), .int (zf 6), .int (zf 7), .int (zf 8), .int (zf 9), .int (zf 10), .int (zf 11), .int (zf 12), .int (zf 13), .int (zf 14), .int (zf 15)])), eS q1 y1, eW q2 (r2 1) y2.1, eA cI 16 (r2 1) y2.2, eA cI 256 q3 zf]) (fun _ => rfl) (fun q3 => ?_)
  refine VF.putF C hin fl_X0_25 tyX0 tyX0_ok nmX0 0 rfl rfl rfl rfl rfl (Nat.le_of_ble_eq_true rfl) (ws' := [(a0, .inr (0, [.ref q1, .ref q2, .ref q3, .null, .int (zf 4), .int (zf 5), .int (zf 6), .int (zf 7), .int (zf 8), .int (zf 9), .int (zf 10), .int (zf 11), .int (zf 12), .int (zf 13), .int (zf 14), .int (zf 15)])), eS q1 y1, eW q2 (r2 1) y2.1, eA cI 16 (r2 1) y2.2, eA cI 256 q3 zf]) rfl dX0_init_32 ?_
  refine VF.aload_n C 0 dX0_init_35 rfl ?_
  refine VF.bipush C dX0_init_36 kb_8 ?_
  refine VF.newaZ C wa_bool li_8 (Nat.le_of_ble_eq_true rfl) (Nat.le_of_ble_eq_true rfl) (Nat.le_of_ble_eq_true rfl) dX0_init_38 (ws' := fun q4 => [(a0, .inr (0, [.ref q1, .ref q2, .ref q3, .null, .int (zf 4), .int (zf 5), .int (zf 6), .int (zf 7), .int (zf 8), .int (zf 9), .int (zf 10), .int (zf 11), .int (zf 12), .int (zf 13), .int (zf 14), .int (zf 15)])), eS q1 y1, eW q2 (r2 1) y2.1, eA cI 16 (r2 1) y2.2, eA cI 256 q3 zf, eA cZ 8 q4 zf]) (fun _ => rfl) (fun q4 => ?_)
  refine VF.putF C hin fl_X0_29 tyX0 tyX0_ok nmX0 0 rfl rfl rfl rfl rfl (Nat.le_of_ble_eq_true rfl) (ws' := [eC a0 q1 q2 q3 q4 zf, eS q1 y1, eW q2 (r2 1) y2.1, eA cI 16 (r2 1) y2.2, eA cI 256 q3 zf, eA cZ 8 q4 zf]) rfl dX0_init_40 ?_
  refine VF.aload_n C 0 dX0_init_43 rfl ?_
  refine VF.callVv C (b := a0) (As := []) (rest := []) lk_X0_33 (mtX0_startAnew l D cI cZ a0 q1 q2 (r2 1) q3 q4 zf y1 y2.1 y2.2 zf zf) (fun _ => rfl) [some 0, some 1, some 2, some 3, some 4, some 5] ⟨rfl, rfl⟩ (ws' := fun y3 => [eC a0 q1 q2 q3 q4 y3.1, eS q1 y1, eW q2 (r2 1) y3.2.1, eA cI 16 (r2 1) y3.2.2.1, eA cI 256 q3 y3.2.2.2.1, eA cZ 8 q4 y3.2.2.2.2]) (fun _ => ⟨⟨rfl, rfl, rfl⟩, ⟨rfl, rfl, rfl⟩, ⟨rfl, rfl, rfl⟩, ⟨rfl, rfl, rfl⟩, ⟨rfl, rfl, rfl⟩, ⟨rfl, rfl, rfl⟩, trivial⟩) (ci := 0) rfl rfl rfl rfl (Nat.le_of_ble_eq_true rfl) ⟨Nat.le_of_ble_eq_true rfl, Nat.le_of_ble_eq_true rfl⟩ dX0_init_44 ⟨Nat.le_of_ble_eq_true rfl, Nat.le_of_ble_eq_true rfl⟩ (fun y3 => ?_)
  exact VF.vretN C (fun i => [a0, q1, q2, (r2 1), q3, q4].getD i 0) rfl dX0_init_47
def zX4_init : Option (Fn × Fn × Fn × Fn × Fn × Fn × Fn × Fn × Fn × Fn × Fn × Fn × Fn × Fn × Fn × Fn × Fn × Fn × Fn × Fn × Fn × Fn) := oB zX2_init (fun y1 => oB zX0_init (fun y2 => oB zX0_init (fun y3 => oB zX0_init (fun y4 => some ((upd zf 4 0), y1.1, y1.2.1, y1.2.2, y2.1, y2.2.1, y2.2.2.1, y2.2.2.2.1, y2.2.2.2.2.1, y2.2.2.2.2.2, y3.1, y3.2.1, y3.2.2.1, y3.2.2.2.1, y3.2.2.2.2.1, y3.2.2.2.2.2, y4.1, y4.2.1, y4.2.2.1, y4.2.2.2.1, y4.2.2.2.2.1, y4.2.2.2.2.2)))))
set_option maxHeartbeats 4000000 in
set_option maxRecDepth 100000 in
theorem mtX4_init (l : Launch) (D : va_G) (cI cZ : ClassId) (a0 : Nat) : CtrN l yX4_init cX4_init 1 4 86 21 1129 D cI cZ [.ref a0] [(a0, .inr (4, [.null, .null, .null, .null, .int (zf 4)]))] zX4_init (fun (y : Fn × Fn × Fn × Fn × Fn × Fn × Fn × Fn × Fn × Fn × Fn × Fn × Fn × Fn × Fn × Fn × Fn × Fn × Fn × Fn × Fn × Fn) (q : Nat → Nat) => [eF a0 (q 1) (q 4) (q 10) (q 16) y.1, eT (q 1) (q 2) (q 3) y.2.1, eA cI 200 (q 2) y.2.2.1, eS (q 3) y.2.2.2.1, eC (q 4) (q 5) (q 6) (q 8) (q 9) y.2.2.2.2.1, eS (q 5) y.2.2.2.2.2.1, eW (q 6) (q 7) y.2.2.2.2.2.2.1, eA cI 16 (q 7) y.2.2.2.2.2.2.2.1, eA cI 256 (q 8) y.2.2.2.2.2.2.2.2.1, eA cZ 8 (q 9) y.2.2.2.2.2.2.2.2.2.1, eC (q 10) (q 11) (q 12) (q 14) (q 15) y.2.2.2.2.2.2.2.2.2.2.1, eS (q 11) y.2.2.2.2.2.2.2.2.2.2.2.1, eW (q 12) (q 13) y.2.2.2.2.2.2.2.2.2.2.2.2.1, eA cI 16 (q 13) y.2.2.2.2.2.2.2.2.2.2.2.2.2.1, eA cI 256 (q 14) y.2.2.2.2.2.2.2.2.2.2.2.2.2.2.1, eA cZ 8 (q 15) y.2.2.2.2.2.2.2.2.2.2.2.2.2.2.2.1, eC (q 16) (q 17) (q 18) (q 20) (q 21) y.2.2.2.2.2.2.2.2.2.2.2.2.2.2.2.2.1, eS (q 17) y.2.2.2.2.2.2.2.2.2.2.2.2.2.2.2.2.2.1, eW (q 18) (q 19) y.2.2.2.2.2.2.2.2.2.2.2.2.2.2.2.2.2.2.1, eA cI 16 (q 19) y.2.2.2.2.2.2.2.2.2.2.2.2.2.2.2.2.2.2.2.1, eA cI 256 (q 20) y.2.2.2.2.2.2.2.2.2.2.2.2.2.2.2.2.2.2.2.2.1, eA cZ 8 (q 21) y.2.2.2.2.2.2.2.2.2.2.2.2.2.2.2.2.2.2.2.2.2]) := by
  refine CtrN.of (by decide) (Nat.le_of_ble_eq_true rfl) ?_
  intro p e s m below meth c A hin C
  have C : CX p s m ([.ref a0] : List Value).toArray meth c cX4_init 1 RX4 D cI cZ A none := C
  refine VF.lve (lv' := [(0, .ref a0)]) rfl ?_
  refine VF.eq zX4_init.eq_1 ?_
  refine VF.aload_n C 0 dX4_init_0 rfl ?_
  refine VF.objInit C lo_X4_1 dX4_init_1 (Nat.le_of_ble_eq_true rfl) (Nat.le_of_ble_eq_true rfl) ?_
  refine VF.aload_n C 0 dX4_init_4 rfl ?_
  refine VF.new C lc_X4_7 tyX2 tyX2_ok nf_X2 (Nat.le_of_ble_eq_true rfl) (Nat.le_of_ble_eq_true rfl) dX4_init_5 (ws' := fun q1 => [(a0, .inr (4, [.null, .null, .null, .null, .int (zf 4)])), (q1, .inr (2, [.null, .int (zf 1), .null, .int (zf 3), .int (zf 4), .int (zf 5)]))]) (fun _ => rfl) (fun q1 => ?_)
  refine VF.dup C dX4_init_8 rfl ?_
  refine VF.callI C lk_X4_9 (mtX2_init l D cI cZ q1) [(a0, .inr (4, [.null, .null, .null, .null, .int (zf 4)]))] rfl (ws' := fun y1 r1 => [(a0, .inr (4, [.null, .null, .null, .null, .int (zf 4)])), eT q1 (r1 1) (r1 2) y1.1, eA cI 200 (r1 1) y1.2.1, eS (r1 2) y1.2.2]) (fun _ _ => rfl) (Nat.le_of_ble_eq_true rfl) ⟨Nat.le_of_ble_eq_true rfl, Nat.le_of_ble_eq_true rfl⟩ dX4_init_9 ⟨Nat.le_of_ble_eq_true rfl, Nat.le_of_ble_eq_true rfl⟩ (fun y1 r1 => ?_)
  refine VF.putF C hin fl_X4_10 tyX4 tyX4_ok nmX4 0 rfl rfl rfl rfl rfl (Nat.le_of_ble_eq_true rfl) (ws' := [(a0, .inr (4, [.ref q1, .null, .null, .null, .int (zf 4)])), eT q1 (r1 1) (r1 2) y1.1, eA cI 200 (r1 1) y1.2.1, eS (r1 2) y1.2.2]) rfl dX4_init_12 ?_
  refine VF.aload_n C 0 dX4_init_15 rfl ?_
  refine VF.new C lc_X4_16 tyX0 tyX0_ok nf_X0 (Nat.le_of_ble_eq_true rfl) (Nat.le_of_ble_eq_true rfl) dX4_init_16 (ws' := fun q2 => [(a0, .inr (4, [.ref q1, .null, .null, .null, .int (zf 4)])), eT q1 (r1 1) (r1 2) y1.1, eA cI 200 (r1 1) y1.2.1, eS (r1 2) y1.2.2, (q2, .inr (0, [.null, .null, .null, .null, .int (zf 4), .int (zf 5), .int (zf 6), .int (zf 7), .int (zf 8), .int (zf 9), .int (zf 10), .int (zf 11), .int (zf 12), .int (zf 13), .int (zf 14), .int (zf 15)]))]) (fun _ => rfl) (fun q2 => ?_)
  refine VF.dup C dX4_init_19 rfl ?_
  refine VF.callI C lk_X4_18 (mtX0_init l D cI cZ q2) [(a0, .inr (4, [.ref q1, .null, .null, .null, .int (zf 4)])), eT q1 (r1 1) (r1 2) y1.1, eA cI 200 (r1 1) y1.2.1, eS (r1 2) y1.2.2] rfl (ws' := fun y2 r2 => [(a0, .inr (4, [.ref q1, .null, .null, .null, .int (zf 4)])), eT q1 (r1 1) (r1 2) y1.1, eA cI 200 (r1 1) y1.2.1, eS (r1 2) y1.2.2, eC q2 (r2 1) (r2 2) (r2 4) (r2 5) y2.1, eS (r2 1) y2.2.1, eW (r2 2) (r2 3) y2.2.2.1, eA cI 16 (r2 3) y2.2.2.2.1, eA cI 256 (r2 4) y2.2.2.2.2.1, eA cZ 8 (r2 5) y2.2.2.2.2.2]) (fun _ _ => rfl) (Nat.le_of_ble_eq_true rfl) ⟨Nat.le_of_ble_eq_true rfl, Nat.le_of_ble_eq_true rfl⟩ dX4_init_20 ⟨Nat.le_of_ble_eq_true rfl, Nat.le_of_ble_eq_true rfl⟩ (fun y2 r2 => ?_)
  refine VF.putF C hin fl_X4_19 tyX4 tyX4_ok nmX4 0 rfl rfl rfl rfl rfl (Nat.le_of_ble_eq_true rfl) (ws' := [(a0, .inr (4, [.ref q1, .ref q2, .null, .null, .int (zf 4)])), eT q1 (r1 1) (r1 2) y1.1, eA cI 200 (r1 1) y1.2.1, eS (r1 2) y1.2.2, eC q2 (r2 1) (r2 2) (r2 4) (r2 5) y2.1, eS (r2 1) y2.2.1, eW (r2 2) (r2 3) y2.2.2.1, eA cI 16 (r2 3) y2.2.2.2.1, eA cI 256 (r2 4) y2.2.2.2.2.1, eA cZ 8 (r2 5) y2.2.2.2.2.2]) rfl dX4_init_23 ?_
  refine VF.aload_n C 0 dX4_init_26 rfl ?_
  refine VF.new C lc_X4_16 tyX0 tyX0_ok nf_X0 (Nat.le_of_ble_eq_true rfl) (Nat.le_of_ble_eq_true rfl) dX4_init_27 (ws' := fun q3 => [(a0, .inr (4, [.ref q1, .ref q2, .null, .null, .int (zf 4)])), eT q1 (r1 1) (r1 2) y1.1, eA cI 200 (r1 1) y1.2.1, eS (r1 2) y1.2.2, eC q2 (r2 1) (r2 2) (r2 4) (r2 5) y2.1, eS (r2 1) y2.2.1, eW (r2 2) (r2 3) y2.2.2.1, eA cI 16 (r2 3) y2.2.2.2.1, eA cI 256 (r2 4) y2.2.2.2.2.1, eA cZ 8 (r2 5) y2.2.2.2.2.2, (q3, .inr (0, [.null, .null, .null, .null, .int (zf 4), .int (zf 5), .int (zf 6), .int (zf 7), .int (zf 8), .int (zf 9), .int (zf 10), .int (zf 11), .int (zf 12), .int (zf 13), .int (zf 14), .int (zf 15)]))]) (fun _ => rfl) (fun q3 => ?_)
  refine VF.dup C dX4_init_30 rfl ?_
  refine VF.callI C lk_X4_18 (mtX0_init l D cI cZ q3) [(a0, .inr (4, [.ref q1, .ref q2, .null, .null, .int (zf 4)])), eT q1 (r1 1) (r1 2) y1.1, eA cI 200 (r1 1) y1.2.1, eS (r1 2) y1.2.2, eC q2 (r2 1) (r2 2) (r2 4) (r2 5) y2.1, eS (r2 1) y2.2.1, eW (r2 2) (r2 3) y2.2.2.1, eA cI 16 (r2 3) y2.2.2.2.1, eA cI 256 (r2 4) y2.2.2.2.2.1, eA cZ 8 (r2 5) y2.2.2.2.2.2] rfl (ws' := fun y3 r3 => [(a0, .inr (4, [.ref q1, .ref q2, .null, .null, .int (zf 4)])), eT q1 (r1 1) (r1 2) y1.1, eA cI 200 (r1 1) y1.2.1, eS (r1 2) y1.2.2, eC q2 (r2 1) (r2 2) (r2 4) (r2 5) y2.1, eS (r2 1) y2.2.1, eW (r2 2) (r2 3) y2.2.2.1, eA cI 16 (r2 3) y2.2.2.2.1, eA cI 256 (r2 4) y2.2.2.2.2.1, eA cZ 8 (r2 5) y2.2.2.2.2.2, eC q3 (r3 1) (r3 2) (r3 4) (r3 5) y3.1, eS (r3 1) y3.2.1, eW (r3 2) (r3 3) y3.2.2.1, eA cI 16 (r3 3) y3.2.2.2.1, eA cI 256 (r3 4) y3.2.2.2.2.1, eA cZ 8 (r3 5) y3.2.2.2.2.2]) (fun _ _ => rfl) (Nat.le_of_ble_eq_true rfl) ⟨Nat.le_of_ble_eq_true rfl, Nat.le_of_ble_eq_true rfl⟩ dX4_init_31 ⟨Nat.le_of_ble_eq_true rfl, Nat.le_of_ble_eq_true rfl⟩ (fun y3 r3 => ?_)
  refine VF.putF C hin fl_X4_23 tyX4 tyX4_ok nmX4 0 rfl rfl rfl rfl rfl (Nat.le_of_ble_eq_true rfl) (ws' := [(a0, .inr (4, [.ref q1, .ref q2, .ref q3, .null, .int (zf 4)])), eT q1 (r1 1) (r1 2) y1.1, eA cI 200 (r1 1) y1.2.1, eS (r1 2) y1.2.2, eC q2 (r2 1) (r2 2) (r2 4) (r2 5) y2.1, eS (r2 1) y2.2.1, eW (r2 2) (r2 3) y2.2.2.1, eA cI 16 (r2 3) y2.2.2.2.1, eA cI 256 (r2 4) y2.2.2.2.2.1, eA cZ 8 (r2 5) y2.2.2.2.2.2, eC q3 (r3 1) (r3 2) (r3 4) (r3 5) y3.1, eS (r3 1) y3.2.1, eW (r3 2) (r3 3) y3.2.2.1, eA cI 16 (r3 3) y3.2.2.2.1, eA cI 256 (r3 4) y3.2.2.2.2.1, eA cZ 8 (r3 5) y3.2.2.2.2.2]) rfl dX4_init_34 ?_
  refine VF.aload_n C 0 dX4_init_37 rfl ?_
  refine VF.new C lc_X4_16 tyX0 tyX0_ok nf_X0 (Nat.le_of_ble_eq_true rfl) (Nat.le_of_ble_eq_true rfl) dX4_init_38 (ws' := fun q4 => [(a0, .inr (4, [.ref q1, .ref q2, .ref q3, .null, .int (zf 4)])), eT q1 (r1 1) (r1 2) y1.1, eA cI 200 (r1 1) y1.2.1, eS (r1 2) y1.2.2, eC q2 (r2 1) (r2 2) (r2 4) (r2 5) y2.1, eS (r2 1) y2.2.1, eW (r2 2) (r2 3) y2.2.2.1, eA cI 16 (r2 3) y2.2.2.2.1, eA cI 256 (r2 4) y2.2.2.2.2.1, eA cZ 8 (r2 5) y2.2.2.2.2.2, eC q3 (r3 1) (r3 2) (r3 4) (r3 5) y3.1, eS (r3 1) y3.2.1, eW (r3 2) (r3 3) y3.2.2.1, eA cI 16 (r3 3) y3.2.2.2.1, eA cI 256 (r3 4) y3.2.2.2.2.1, eA cZ 8 (r3 5) y3.2.2.2.2.2, (q4, .inr (0, [.null, .null, .null, .null, .int (zf 4), .int (zf 5), .int (zf 6), .int (zf 7), .int (zf 8), .int (zf 9), .int (zf 10), .int (zf 11), .int (zf 12), .int (zf 13), .int (zf 14), .int (zf 15)]))]) (fun _ => rfl) (fun q4 => ?_)
  refine VF.dup C dX4_init_41 rfl ?_
  refine VF.callI C lk_X4_18 (mtX0_init l D cI cZ q4) [(a0, .inr (4, [.ref q1, .ref q2, .ref q3, .null, .int (zf 4)])), eT q1 (r1 1) (r1 2) y1.1, eA cI 200 (r1 1) y1.2.1, eS (r1 2) y1.2.2, eC q2 (r2 1) (r2 2) (r2 4) (r2 5) y2.1, eS (r2 1) y2.2.1, eW (r2 2) (r2 3) y2.2.2.1, eA cI 16 (r2 3) y2.2.2.2.1, eA cI 256 (r2 4) y2.2.2.2.2.1, eA cZ 8 (r2 5) y2.2.2.2.2.2, eC q3 (r3 1) (r3 2) (r3 4) (r3 5) y3.1, eS (r3 1) y3.2.1, eW (r3 2) (r3 3) y3.2.2.1, eA cI 16 (r3 3) y3.2.2.2.1, eA cI 256 (r3 4) y3.2.2.2.2.1, eA cZ 8 (r3 5) y3.2.2.2.2.2] rfl (ws' := fun y4 r4 => [(a0, .inr (4, [.ref q1, .ref q2, .ref q3, .null, .int (zf 4)])), eT q1 (r1 1) (r1 2) y1.1, eA cI 200 (r1 1) y1.2.1, eS (r1 2) y1.2.2, eC q2 (r2 1) (r2 2) (r2 4) (r2 5) y2.1, eS (r2 1) y2.2.1, eW (r2 2) (r2 3) y2.2.2.1, eA cI 16 (r2 3) y2.2.2.2.1, eA cI 256 (r2 4) y2.2.2.2.2.1, eA cZ 8 (r2 5) y2.2.2.2.2.2, eC q3 (r3 1) (r3 2) (r3 4) (r3 5) y3.1, eS (r3 1) y3.2.1, eW (r3 2) (r3 3) y3.2.2.1, eA cI 16 (r3 3) y3.2.2.2.1, eA cI 256 (r3 4) y3.2.2.2.2.1, eA cZ 8 (r3 5) y3.2.2.2.2.2, eC q4 (r4 1) (r4 2) (r4 4) (r4 5) y4.1, eS (r4 1) y4.2.1, eW (r4 2) (r4 3) y4.2.2.1, eA cI 16 (r4 3) y4.2.2.2.1, eA cI 256 (r4 4) y4.2.2.2.2.1, eA cZ 8 (r4 5) y4.2.2.2.2.2]) (fun _ _ => rfl) (Nat.le_of_ble_eq_true rfl) ⟨Nat.le_of_ble_eq_true rfl, Nat.le_of_ble_eq_true rfl⟩ dX4_init_42 ⟨Nat.le_of_ble_eq_true rfl, Nat.le_of_ble_eq_true rfl⟩ (fun y4 r4 => ?_)
  refine VF.putF C hin fl_X4_26 tyX4 tyX4_ok nmX4 0 rfl rfl rfl rfl rfl (Nat.le_of_ble_eq_true rfl) (ws' := [eF a0 q1 q2 q3 q4 zf, eT q1 (r1 1) (r1 2) y1.1, eA cI 200 (r1 1) y1.2.1, eS (r1 2) y1.2.2, eC q2 (r2 1) (r2 2) (r2 4) (r2 5) y2.1, eS (r2 1) y2.2.1, eW (r2 2) (r2 3) y2.2.2.1, eA cI 16 (r2 3) y2.2.2.2.1, eA cI 256 (r2 4) y2.2.2.2.2.1, eA cZ 8 (r2 5) y2.2.2.2.2.2, eC q3 (r3 1) (r3 2) (r3 4) (r3 5) y3.1, eS (r3 1) y3.2.1, eW (r3 2) (r3 3) y3.2.2.1, eA cI 16 (r3 3) y3.2.2.2.1, eA cI 256 (r3 4) y3.2.2.2.2.1, eA cZ 8 (r3 5) y3.2.2.2.2.2, eC q4 (r4 1) (r4 2) (r4 4) (r4 5) y4.1, eS (r4 1) y4.2.1, eW (r4 2) (r4 3) y4.2.2.1, eA cI 16 (r4 3) y4.2.2.2.1, eA cI 256 (r4 4) y4.2.2.2.2.1, eA cZ 8 (r4 5) y4.2.2.2.2.2]) rfl dX4_init_45 ?_
  refine VF.aload_n C 0 dX4_init_48 rfl ?_
  refine VF.iconst C dX4_init_49 kc_0 ?_
  refine VF.put C fl_X4_29 tyX4 tyX4_ok nmX4 0 rfl rfl rfl (Nat.le_of_ble_eq_true rfl) (ws' := [eF a0 q1 q2 q3 q4 (upd zf 4 0), eT q1 (r1 1) (r1 2) y1.1, eA cI 200 (r1 1) y1.2.1, eS (r1 2) y1.2.2, eC q2 (r2 1) (r2 2) (r2 4) (r2 5) y2.1, eS (r2 1) y2.2.1, eW (r2 2) (r2 3) y2.2.2.1, eA cI 16 (r2 3) y2.2.2.2.1, eA cI 256 (r2 4) y2.2.2.2.2.1, eA cZ 8 (r2 5) y2.2.2.2.2.2, eC q3 (r3 1) (r3 2) (r3 4) (r3 5) y3.1, eS (r3 1) y3.2.1, eW (r3 2) (r3 3) y3.2.2.1, eA cI 16 (r3 3) y3.2.2.2.1, eA cI 256 (r3 4) y3.2.2.2.2.1, eA cZ 8 (r3 5) y3.2.2.2.2.2, eC q4 (r4 1) (r4 2) (r4 4) (r4 5) y4.1, eS (r4 1) y4.2.1, eW (r4 2) (r4 3) y4.2.2.1, eA cI 16 (r4 3) y4.2.2.2.1, eA cI 256 (r4 4) y4.2.2.2.2.1, eA cZ 8 (r4 5) y4.2.2.2.2.2]) rfl dX4_init_50 ?_
  exact VF.vretN C (fun i => [a0, q1, (r1 1), (r1 2), q2, (r2 1), (r2 2), (r2 3), (r2 4), (r2 5), q3, (r3 1), (r3 2), (r3 3), (r3 4), (r3 5), q4, (r4 1), (r4 2), (r4 3), (r4 4), (r4 5)].getD i 0) rfl dX4_init_53
def zX5_init : Option (Fn × Fn × Fn × Fn × Fn × Fn) := oB (zX5_plain zf) (fun y1 => oB (zX5_anew zf zf) (fun y2 => some (y2.1, zf, y1, zf, y2.2, zf)))
set_option maxHeartbeats 4000000 in
set_option maxRecDepth 100000 in
theorem mtX5_init (l : Launch) (D : va_G) (cI cZ : ClassId) (a0 : Nat) : CtrN l yX5_init cX5_init 1 1 21 5 1128 D cI cZ [.ref a0] [(a0, .inr (5, [.int (zf 0), .null, .int (zf 2), .null, .null, .int (zf 5), .null, .null, .int (zf 8)]))] zX5_init (fun (y : Fn × Fn × Fn × Fn × Fn × Fn) (q : Nat → Nat) => [eM a0 (q 1) (q 2) (q 3) (q 4) (q 5) y.1, eA cI 200 (q 1) y.2.1, eA cI 5 (q 2) y.2.2.1, eA cI 5 (q 3) y.2.2.2.1, eA cI 306 (q 4) y.2.2.2.2.1, eA cI 612 (q 5) y.2.2.2.2.2]) := by
  refine CtrN.of (by decide) (Nat.le_of_ble_eq_true rfl) ?_
  intro p e s m below meth c A hin C
  have C : CX p s m ([.ref a0] : List Value).toArray meth c cX5_init 1 RX5 D cI cZ A none := C
  refine VF.lve (lv' := [(0, .ref a0)]) rfl ?_
  refine VF.eq zX5_init.eq_1 ?_
  refine VF.aload_n C 0 dX5_init_0 rfl ?_
  refine VF.objInit C lo_X5_1 dX5_init_1 (Nat.le_of_ble_eq_true rfl) (Nat.le_of_ble_eq_true rfl) ?_
  refine VF.aload_n C 0 dX5_init_4 rfl ?_
  refine VF.sipush C dX5_init_5 ks_200 ?_
  refine VF.newaI C wa_int li_200 (Nat.le_of_ble_eq_true rfl) (Nat.le_of_ble_eq_true rfl) (Nat.le_of_ble_eq_true rfl) dX5_init_8 (ws' := fun q1 => [(a0, .inr (5, [.int (zf 0), .null, .int (zf 2), .null, .null, .int (zf 5), .null, .null, .int (zf 8)])), eA cI 200 q1 zf]) (fun _ => rfl) (fun q1 => ?_)
  refine VF.putF C hin fl_X5_7 tyX5 tyX5_ok nmX5 0 rfl rfl rfl rfl rfl (Nat.le_of_ble_eq_true rfl) (ws' := [(a0, .inr (5, [.int (zf 0), .ref q1, .int (zf 2), .null, .null, .int (zf 5), .null, .null, .int (zf 8)])), eA cI 200 q1 zf]) rfl dX5_init_10 ?_
  refine VF.aload_n C 0 dX5_init_13 rfl ?_
  refine VF.iconst C dX5_init_14 kc_5 ?_
  refine VF.newaI C wa_int li_5 (Nat.le_of_ble_eq_true rfl) (Nat.le_of_ble_eq_true rfl) (Nat.le_of_ble_eq_true rfl) dX5_init_15 (ws' := fun q2 => [(a0, .inr (5, [.int (zf 0), .ref q1, .int (zf 2), .null, .null, .int (zf 5), .null, .null, .int (zf 8)])), eA cI 200 q1 zf, eA cI 5 q2 zf]) (fun _ => rfl) (fun q2 => ?_)
  refine VF.putF C hin fl_X5_13 tyX5 tyX5_ok nmX5 0 rfl rfl rfl rfl rfl (Nat.le_of_ble_eq_true rfl) (ws' := [(a0, .inr (5, [.int (zf 0), .ref q1, .int (zf 2), .ref q2, .null, .int (zf 5), .null, .null, .int (zf 8)])), eA cI 200 q1 zf, eA cI 5 q2 zf]) rfl dX5_init_17 ?_
  refine VF.aload_n C 0 dX5_init_20 rfl ?_
  refine VF.iconst C dX5_init_21 kc_5 ?_
  refine VF.newaI C wa_int li_5 (Nat.le_of_ble_eq_true rfl) (Nat.le_of_ble_eq_true rfl) (Nat.le_of_ble_eq_true rfl) dX5_init_22 (ws' := fun q3 => [(a0, .inr (5, [.int (zf 0), .ref q1, .int (zf 2), .ref q2, .null, .int (zf 5), .null, .null, .int (zf 8)])), eA cI 200 q1 zf, eA cI 5 q2 zf, eA cI 5 q3 zf]) (fun _ => rfl) (fun q3 => ?_)
  refine VF.putF C hin fl_X5_16 tyX5 tyX5_ok nmX5 0 rfl rfl rfl rfl rfl (Nat.le_of_ble_eq_true rfl) (ws' := [(a0, .inr (5, [.int (zf 0), .ref q1, .int (zf 2), .ref q2, .ref q3, .int (zf 5), .null, .null, .int (zf 8)])), eA cI 200 q1 zf, eA cI 5 q2 zf, eA cI 5 q3 zf]) rfl dX5_init_24 ?_
  refine VF.aload_n C 0 dX5_init_27 rfl ?_
  refine VF.sipush C dX5_init_28 ks_306 ?_
  refine VF.newaI C wa_int li_306 (Nat.le_of_ble_eq_true rfl) (Nat.le_of_ble_eq_true rfl) (Nat.le_of_ble_eq_true rfl) dX5_init_31 (ws' := fun q4 => [(a0, .inr (5, [.int (zf 0), .ref q1, .int (zf 2), .ref q2, .ref q3, .int (zf 5), .null, .null, .int (zf 8)])), eA cI 200 q1 zf, eA cI 5 q2 zf, eA cI 5 q3 zf, eA cI 306 q4 zf]) (fun _ => rfl) (fun q4 => ?_)
  refine VF.putF C hin fl_X5_19 tyX5 tyX5_ok nmX5 0 rfl rfl rfl rfl rfl (Nat.le_of_ble_eq_true rfl) (ws' := [(a0, .inr (5, [.int (zf 0), .ref q1, .int (zf 2), .ref q2, .ref q3, .int (zf 5), .ref q4, .null, .int (zf 8)])), eA cI 200 q1 zf, eA cI 5 q2 zf, eA cI 5 q3 zf, eA cI 306 q4 zf]) rfl dX5_init_33 ?_
  refine VF.aload_n C 0 dX5_init_36 rfl ?_
  refine VF.sipush C dX5_init_37 ks_612 ?_
  refine VF.newaI C wa_int li_612 (Nat.le_of_ble_eq_true rfl) (Nat.le_of_ble_eq_true rfl) (Nat.le_of_ble_eq_true rfl) dX5_init_40 (ws' := fun q5 => [(a0, .inr (5, [.int (zf 0), .ref q1, .int (zf 2), .ref q2, .ref q3, .int (zf 5), .ref q4, .null, .int (zf 8)])), eA cI 200 q1 zf, eA cI 5 q2 zf, eA cI 5 q3 zf, eA cI 306 q4 zf, eA cI 612 q5 zf]) (fun _ => rfl) (fun q5 => ?_)
  refine VF.putF C hin fl_X5_22 tyX5 tyX5_ok nmX5 0 rfl rfl rfl rfl rfl (Nat.le_of_ble_eq_true rfl) (ws' := [eM a0 q1 q2 q3 q4 q5 zf, eA cI 200 q1 zf, eA cI 5 q2 zf, eA cI 5 q3 zf, eA cI 306 q4 zf, eA cI 612 q5 zf]) rfl dX5_init_42 ?_
  refine VF.aload_n C 0 dX5_init_45 rfl ?_
  refine VF.get C fl_X5_13 0 rfl rfl dX5_init_46 ?_
  refine VF.callSv C (As := [.ref q2]) (rest := []) lk_X5_25 (mtX5_plain l D cI cZ q2 zf) (fun _ => rfl) [none, none, some 0, none, none, none] ⟨rfl, rfl⟩ (ws' := fun y1 => [eM a0 q1 q2 q3 q4 q5 zf, eA cI 200 q1 zf, eA cI 5 q2 y1, eA cI 5 q3 zf, eA cI 306 q4 zf, eA cI 612 q5 zf]) (fun _ => ⟨rfl, rfl, ⟨rfl, rfl, rfl⟩, rfl, rfl, rfl, trivial⟩) rfl rfl (Nat.le_of_ble_eq_true rfl) ⟨Nat.le_of_ble_eq_true rfl, Nat.le_of_ble_eq_true rfl⟩ dX5_init_49 ⟨Nat.le_of_ble_eq_true rfl, Nat.le_of_ble_eq_true rfl⟩ (fun y1 => ?_)
  refine VF.aload_n C 0 dX5_init_52 rfl ?_
  refine VF.callVv C (b := a0) (As := []) (rest := []) lk_X5_29 (mtX5_anew l D cI cZ a0 q1 q2 q3 q4 q5 zf zf y1 zf zf zf) (fun _ => rfl) [some 0, some 1, some 2, some 3, some 4, some 5] ⟨rfl, rfl⟩ (ws' := fun y2 => [eM a0 q1 q2 q3 q4 q5 y2.1, eA cI 200 q1 zf, eA cI 5 q2 y1, eA cI 5 q3 zf, eA cI 306 q4 y2.2, eA cI 612 q5 zf]) (fun _ => ⟨⟨rfl, rfl, rfl⟩, ⟨rfl, rfl, rfl⟩, ⟨rfl, rfl, rfl⟩, ⟨rfl, rfl, rfl⟩, ⟨rfl, rfl, rfl⟩, ⟨rfl, rfl, rfl⟩, trivial⟩) (ci := 5) rfl rfl rfl rfl (Nat.le_of_ble_eq_true rfl) ⟨Nat.le_of_ble_eq_true rfl, Nat.le_of_ble_eq_true rfl⟩ dX5_init_53 ⟨Nat.le_of_ble_eq_true rfl, Nat.le_of_ble_eq_true rfl⟩ (fun y2 => ?_)
  exact VF.vretN C (fun i => [a0, q1, q2, q3, q4, q5].getD i 0) rfl dX5_init_56
