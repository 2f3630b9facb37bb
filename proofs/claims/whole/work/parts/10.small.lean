set_option maxHeartbeats 4000000 in
set_option maxRecDepth 100000 in
theorem mtX4_remainder (l : Launch) (D : va_G) (cI cZ : ClassId) (u0 : Int32) (u1 : Int32) : Ctr l yX4_remainder cX4_remainder 2 (some .int) 0 0 D cI cZ [.int u0, .int u1] [] (zX4_remainder u0 u1) (fun y : Int32 => some (Value.int y)) (fun _ : Int32 => []) := by
  refine Ctr.of (by decide) (Nat.le_of_ble_eq_true rfl) ?_
  intro p e s m below meth c A C
  have C : CX p s m ([.int u0, .int u1] : List Value).toArray meth c cX4_remainder 2 RX4 D cI cZ A (some .int) := C
  refine VF.lve (lv' := [(0, .int u0), (1, .int u1)]) rfl ?_
  refine VF.eq (zX4_remainder.eq_1 u0 u1) ?_
  refine VF.iload_n C 1 dX4_remainder_0 rfl ?_
  refine VF.if_le C 10 dX4_remainder_1 rfl (fun h1 => ?_) (fun h1 => ?_)
  · refine VF.iconst C dX4_remainder_10 kc_0 ?_
    exact VF.iret C rfl rfl dX4_remainder_11
  · refine VF.iload_n C 0 dX4_remainder_4 rfl ?_
    refine VF.iload_n C 1 dX4_remainder_5 rfl ?_
    refine VF.irem C dX4_remainder_6 ?_
    refine VF.goto C 11 dX4_remainder_7 rfl ?_
    exact VF.iret C rfl rfl dX4_remainder_11
set_option maxHeartbeats 4000000 in
set_option maxRecDepth 100000 in
theorem mtX4_quotient (l : Launch) (D : va_G) (cI cZ : ClassId) (u0 : Int32) (u1 : Int32) : Ctr l yX4_quotient cX4_quotient 2 (some .int) 0 0 D cI cZ [.int u0, .int u1] [] (zX4_quotient u0 u1) (fun y : Int32 => some (Value.int y)) (fun _ : Int32 => []) := by
  refine Ctr.of (by decide) (Nat.le_of_ble_eq_true rfl) ?_
  intro p e s m below meth c A C
  have C : CX p s m ([.int u0, .int u1] : List Value).toArray meth c cX4_quotient 2 RX4 D cI cZ A (some .int) := C
  refine VF.lve (lv' := [(0, .int u0), (1, .int u1)]) rfl ?_
  refine VF.eq (zX4_quotient.eq_1 u0 u1) ?_
  refine VF.iload_n C 1 dX4_quotient_0 rfl ?_
  refine VF.if_le C 10 dX4_quotient_1 rfl (fun h1 => ?_) (fun h1 => ?_)
  · refine VF.iconst C dX4_quotient_10 kc_0 ?_
    exact VF.iret C rfl rfl dX4_quotient_11
  · refine VF.iload_n C 0 dX4_quotient_4 rfl ?_
    refine VF.iload_n C 1 dX4_quotient_5 rfl ?_
    refine VF.idiv C dX4_quotient_6 ?_
    refine VF.goto C 11 dX4_quotient_7 rfl ?_
    exact VF.iret C rfl rfl dX4_quotient_11
set_option maxHeartbeats 4000000 in
set_option maxRecDepth 100000 in
theorem mtX4_isByte (l : Launch) (D : va_G) (cI cZ : ClassId) (u0 : Int32) : Ctr l yX4_isByte cX4_isByte 1 (some .boolean) 0 0 D cI cZ [.int u0] [] (zX4_isByte u0) (fun y : Int32 => some (Value.int y)) (fun _ : Int32 => []) := by
  refine Ctr.of (by decide) (Nat.le_of_ble_eq_true rfl) ?_
  intro p e s m below meth c A C
  have C : CX p s m ([.int u0] : List Value).toArray meth c cX4_isByte 1 RX4 D cI cZ A (some .boolean) := C
  refine VF.lve (lv' := [(0, .int u0)]) rfl ?_
  refine VF.eq (zX4_isByte.eq_1 u0) ?_
  refine VF.iload_n C 0 dX4_isByte_0 rfl ?_
  refine VF.if_lt C 15 dX4_isByte_1 rfl (fun h1 => ?_) (fun h1 => ?_)
  · refine VF.iconst C dX4_isByte_15 kc_0 ?_
    exact VF.zretK C (Or.inl rfl) rfl rfl dX4_isByte_16
  · refine VF.iload_n C 0 dX4_isByte_4 rfl ?_
    refine VF.sipush C dX4_isByte_5 ks_255 ?_
    refine VF.icmp_gt C 15 dX4_isByte_8 rfl (fun h2 => ?_) (fun h2 => ?_)
    · refine VF.iconst C dX4_isByte_15 kc_0 ?_
      exact VF.zretK C (Or.inl rfl) rfl rfl dX4_isByte_16
    · refine VF.iconst C dX4_isByte_11 kc_1 ?_
      refine VF.goto C 16 dX4_isByte_12 rfl ?_
      exact VF.zretK C (Or.inr rfl) rfl rfl dX4_isByte_16
set_option maxHeartbeats 4000000 in
set_option maxRecDepth 100000 in
theorem mtX1_copyFrom (l : Launch) (D : va_G) (cI cZ : ClassId) (a0 a1 : Nat) (f0 f1 : Fn) : Ctr l yX1_copyFrom cX1_copyFrom 2 none 0 0 D cI cZ [.ref a0, .ref a1] [eS a0 f0, eS a1 f1] (zX1_copyFrom f0 f1) (fun _ : Fn => (none : Option Value)) (fun y : Fn => [eS a0 y, eS a1 f1]) := by
  refine Ctr.of (by decide) (Nat.le_of_ble_eq_true rfl) ?_
  intro p e s m below meth c A C
  have C : CX p s m ([.ref a0, .ref a1] : List Value).toArray meth c cX1_copyFrom 2 RX1 D cI cZ A none := C
  refine VF.lve (lv' := [(0, .ref a0), (1, .ref a1)]) rfl ?_
  refine VF.eq (zX1_copyFrom.eq_1 f0 f1) ?_
  refine VF.aload_n C 0 dX1_copyFrom_0 rfl ?_
  refine VF.aload_n C 1 dX1_copyFrom_1 rfl ?_
  refine VF.get C fl_X1_14 1 rfl rfl dX1_copyFrom_2 ?_
  refine VF.put C fl_X1_14 tyX1 tyX1_ok nmX1 0 rfl rfl rfl (Nat.le_of_ble_eq_true rfl) (ws' := [eS a0 (upd f0 0 (f1 0)), eS a1 f1]) rfl dX1_copyFrom_5 ?_
  refine VF.aload_n C 0 dX1_copyFrom_8 rfl ?_
  refine VF.aload_n C 1 dX1_copyFrom_9 rfl ?_
  refine VF.get C fl_X1_18 1 rfl rfl dX1_copyFrom_10 ?_
  refine VF.put C fl_X1_18 tyX1 tyX1_ok nmX1 0 rfl rfl rfl (Nat.le_of_ble_eq_true rfl) (ws' := [eS a0 (upd (upd f0 0 (f1 0)) 1 (f1 1)), eS a1 f1]) rfl dX1_copyFrom_13 ?_
  refine VF.aload_n C 0 dX1_copyFrom_16 rfl ?_
  refine VF.aload_n C 1 dX1_copyFrom_17 rfl ?_
  refine VF.get C fl_X1_21 1 rfl rfl dX1_copyFrom_18 ?_
  refine VF.put C fl_X1_21 tyX1 tyX1_ok nmX1 0 rfl rfl rfl (Nat.le_of_ble_eq_true rfl) (ws' := [eS a0 (upd (upd (upd f0 0 (f1 0)) 1 (f1 1)) 2 (f1 2)), eS a1 f1]) rfl dX1_copyFrom_21 ?_
  refine VF.aload_n C 0 dX1_copyFrom_24 rfl ?_
  refine VF.aload_n C 1 dX1_copyFrom_25 rfl ?_
  refine VF.get C fl_X1_24 1 rfl rfl dX1_copyFrom_26 ?_
  refine VF.put C fl_X1_24 tyX1 tyX1_ok nmX1 0 rfl rfl rfl (Nat.le_of_ble_eq_true rfl) (ws' := [eS a0 (upd (upd (upd (upd f0 0 (f1 0)) 1 (f1 1)) 2 (f1 2)) 3 (f1 3)), eS a1 f1]) rfl dX1_copyFrom_29 ?_
  refine VF.aload_n C 0 dX1_copyFrom_32 rfl ?_
  refine VF.aload_n C 1 dX1_copyFrom_33 rfl ?_
  refine VF.get C fl_X1_27 1 rfl rfl dX1_copyFrom_34 ?_
  refine VF.put C fl_X1_27 tyX1 tyX1_ok nmX1 0 rfl rfl rfl (Nat.le_of_ble_eq_true rfl) (ws' := [eS a0 (upd (upd (upd (upd (upd f0 0 (f1 0)) 1 (f1 1)) 2 (f1 2)) 3 (f1 3)) 4 (f1 4)), eS a1 f1]) rfl dX1_copyFrom_37 ?_
  exact VF.vret C rfl rfl dX1_copyFrom_40
set_option maxHeartbeats 4000000 in
set_option maxRecDepth 100000 in
theorem mtX3_clear (l : Launch) (D : va_G) (cI cZ : ClassId) (a0 a1 : Nat) (f0 f1 : Fn) : Ctr l yX3_clear cX3_clear 2 none 0 0 D cI cZ [.ref a0] [eW a0 a1 f0, eA cI 16 a1 f1] (zX3_clear f0 f1) (fun _ : Fn × Fn => (none : Option Value)) (fun y : Fn × Fn => [eW a0 a1 y.1, eA cI 16 a1 y.2]) := by
  refine Ctr.of (by decide) (Nat.le_of_ble_eq_true rfl) ?_
  intro p e s m below meth c A C
  have C : CX p s m ([.ref a0] : List Value).toArray meth c cX3_clear 2 RX3 D cI cZ A none := C
  have k22 : ∀ (n : Nat) (x1 : Int32) (f0 : Fn) (f1 : Fn), VF p l e { frames := 0, cells := 0, slots := 0, locals := 0 } s m ([.ref a0] : List Value).toArray below meth c 0 0 D A 2 (fun r => MQ below (QcX ((fun _ : Fn × Fn => (none : Option Value)) r) D ((fun y : Fn × Fn => [eW a0 a1 y.1, eA cI 16 a1 y.2]) r) A) ([.ref a0] : List Value).toArray s 0 0 A) (zX3_clear_k22 n f0 f1 x1) [eW a0 a1 f0, eA cI 16 a1 f1] 22 [(0, .ref a0), (1, .int x1)] [] := by
    intro n
    induction n with
    | zero =>
      intro x1 f0 f1
      exact VF.eq (zX3_clear_k22.eq_1 _ _ _) VF.nn
    | succ n ih =>
      intro x1 f0 f1
      refine VF.eq (zX3_clear_k22.eq_2 _ _ _ _) ?_
      refine VF.iload_n C 1 dX3_clear_22 rfl ?_
      refine VF.aload_n C 0 dX3_clear_23 rfl ?_
      refine VF.get C fl_X3_9 0 rfl rfl dX3_clear_24 ?_
      refine VF.alen C 1 rfl kl_16 dX3_clear_27 ?_
      refine VF.icmp_ge C 44 dX3_clear_28 rfl (fun h1 => ?_) (fun h1 => ?_)
      · exact VF.vret C rfl rfl dX3_clear_44
      · refine VF.aload_n C 0 dX3_clear_31 rfl ?_
        refine VF.get C fl_X3_9 0 rfl rfl dX3_clear_32 ?_
        refine VF.iload_n C 1 dX3_clear_35 rfl ?_
        refine VF.iconst C dX3_clear_36 kc_m1 ?_
        refine VF.iast C 1 rfl (ws' := [eW a0 a1 f0, eA cI 16 a1 (upd f1 (ix x1) (-1))]) rfl dX3_clear_37 ?_
        refine VF.iinc C 1 [1, 0] dX3_clear_38 rfl (v := (x1 + 1)) rfl (Nat.le_of_ble_eq_true rfl) (lv' := [(0, .ref a0), (1, .int (x1 + 1))]) rfl ?_
        refine VF.goto C 22 dX3_clear_41 rfl ?_
        exact ih (x1 + 1) f0 (upd f1 (ix x1) (-1))
  refine VF.lve (lv' := [(0, .ref a0)]) rfl ?_
  refine VF.eq (zX3_clear.eq_1 f0 f1) ?_
  refine VF.aload_n C 0 dX3_clear_0 rfl ?_
  refine VF.iconst C dX3_clear_1 kc_0 ?_
  refine VF.putbK C fl_X3_18 tyX3 tyX3_ok nmX3 0 (Or.inl rfl) rfl rfl rfl (Nat.le_of_ble_eq_true rfl) (ws' := [eW a0 a1 (upd f0 0 0), eA cI 16 a1 f1]) rfl dX3_clear_2 ?_
  refine VF.aload_n C 0 dX3_clear_5 rfl ?_
  refine VF.iconst C dX3_clear_6 kc_0 ?_
  refine VF.put C fl_X3_22 tyX3 tyX3_ok nmX3 0 rfl rfl rfl (Nat.le_of_ble_eq_true rfl) (ws' := [eW a0 a1 (upd (upd f0 0 0) 1 0), eA cI 16 a1 f1]) rfl dX3_clear_7 ?_
  refine VF.aload_n C 0 dX3_clear_10 rfl ?_
  refine VF.iconst C dX3_clear_11 kc_m1 ?_
  refine VF.put C fl_X3_26 tyX3 tyX3_ok nmX3 0 rfl rfl rfl (Nat.le_of_ble_eq_true rfl) (ws' := [eW a0 a1 (upd (upd (upd f0 0 0) 1 0) 2 (-1)), eA cI 16 a1 f1]) rfl dX3_clear_12 ?_
  refine VF.aload_n C 0 dX3_clear_15 rfl ?_
  refine VF.iconst C dX3_clear_16 kc_0 ?_
  refine VF.put C fl_X3_29 tyX3 tyX3_ok nmX3 0 rfl rfl rfl (Nat.le_of_ble_eq_true rfl) (ws' := [eW a0 a1 (upd (upd (upd (upd f0 0 0) 1 0) 2 (-1)) 3 0), eA cI 16 a1 f1]) rfl dX3_clear_17 ?_
  refine VF.iconst C dX3_clear_20 kc_0 ?_
  refine VF.istore_n C [1, 0] dX3_clear_21 rfl (Nat.le_of_ble_eq_true rfl) (lv' := [(0, .ref a0), (1, .int 0)]) rfl ?_
  exact k22 4096 0 (upd (upd (upd (upd f0 0 0) 1 0) 2 (-1)) 3 0) f1
set_option maxHeartbeats 4000000 in
set_option maxRecDepth 100000 in
theorem mtX3_copyFrom (l : Launch) (D : va_G) (cI cZ : ClassId) (a0 a1 a2 a3 : Nat) (f0 f1 f2 f3 : Fn) : Ctr l yX3_copyFrom cX3_copyFrom 3 none 0 0 D cI cZ [.ref a0, .ref a2] [eW a0 a1 f0, eA cI 16 a1 f1, eW a2 a3 f2, eA cI 16 a3 f3] (zX3_copyFrom f0 f1 f2 f3) (fun _ : Fn × Fn => (none : Option Value)) (fun y : Fn × Fn => [eW a0 a1 y.1, eA cI 16 a1 y.2, eW a2 a3 f2, eA cI 16 a3 f3]) := by
  refine Ctr.of (by decide) (Nat.le_of_ble_eq_true rfl) ?_
  intro p e s m below meth c A C
  have C : CX p s m ([.ref a0, .ref a2] : List Value).toArray meth c cX3_copyFrom 3 RX3 D cI cZ A none := C
  have k34 : ∀ (n : Nat) (x2 : Int32) (f0 : Fn) (f1 : Fn), VF p l e { frames := 0, cells := 0, slots := 0, locals := 0 } s m ([.ref a0, .ref a2] : List Value).toArray below meth c 0 0 D A 3 (fun r => MQ below (QcX ((fun _ : Fn × Fn => (none : Option Value)) r) D ((fun y : Fn × Fn => [eW a0 a1 y.1, eA cI 16 a1 y.2, eW a2 a3 f2, eA cI 16 a3 f3]) r) A) ([.ref a0, .ref a2] : List Value).toArray s 0 0 A) (zX3_copyFrom_k34 n f0 f1 f2 f3 x2) [eW a0 a1 f0, eA cI 16 a1 f1, eW a2 a3 f2, eA cI 16 a3 f3] 34 [(0, .ref a0), (1, .ref a2), (2, .int x2)] [] := by
    intro n
    induction n with
    | zero =>
      intro x2 f0 f1
      exact VF.eq (zX3_copyFrom_k34.eq_1 _ _ _ _ _) VF.nn
    | succ n ih =>
      intro x2 f0 f1
      refine VF.eq (zX3_copyFrom_k34.eq_2 _ _ _ _ _ _) ?_
      refine VF.iload_n C 2 dX3_copyFrom_34 rfl ?_
      refine VF.aload_n C 0 dX3_copyFrom_35 rfl ?_
      refine VF.get C fl_X3_9 0 rfl rfl dX3_copyFrom_36 ?_
      refine VF.alen C 1 rfl kl_16 dX3_copyFrom_39 ?_
      refine VF.icmp_ge C 70 dX3_copyFrom_40 rfl (fun h1 => ?_) (fun h1 => ?_)
      · exact VF.vret C rfl rfl dX3_copyFrom_70
      · refine VF.iload_n C 2 dX3_copyFrom_43 rfl ?_
        refine VF.aload_n C 1 dX3_copyFrom_44 rfl ?_
        refine VF.get C fl_X3_9 2 rfl rfl dX3_copyFrom_45 ?_
        refine VF.alen C 3 rfl kl_16 dX3_copyFrom_48 ?_
        refine VF.icmp_ge C 70 dX3_copyFrom_49 rfl (fun h2 => ?_) (fun h2 => ?_)
        · exact VF.vret C rfl rfl dX3_copyFrom_70
        · refine VF.aload_n C 0 dX3_copyFrom_52 rfl ?_
          refine VF.get C fl_X3_9 0 rfl rfl dX3_copyFrom_53 ?_
          refine VF.iload_n C 2 dX3_copyFrom_56 rfl ?_
          refine VF.aload_n C 1 dX3_copyFrom_57 rfl ?_
          refine VF.get C fl_X3_9 2 rfl rfl dX3_copyFrom_58 ?_
          refine VF.iload_n C 2 dX3_copyFrom_61 rfl ?_
          refine VF.iald C 3 rfl dX3_copyFrom_62 ?_
          refine VF.iast C 1 rfl (ws' := [eW a0 a1 f0, eA cI 16 a1 (upd f1 (ix x2) (f3 (ix x2))), eW a2 a3 f2, eA cI 16 a3 f3]) rfl dX3_copyFrom_63 ?_
          refine VF.iinc C 2 [1, 2, 0] dX3_copyFrom_64 rfl (v := (x2 + 1)) rfl (Nat.le_of_ble_eq_true rfl) (lv' := [(0, .ref a0), (1, .ref a2), (2, .int (x2 + 1))]) rfl ?_
          refine VF.goto C 34 dX3_copyFrom_67 rfl ?_
          exact ih (x2 + 1) f0 (upd f1 (ix x2) (f3 (ix x2)))
  refine VF.lve (lv' := [(0, .ref a0), (1, .ref a2)]) rfl ?_
  refine VF.eq (zX3_copyFrom.eq_1 f0 f1 f2 f3) ?_
  refine VF.aload_n C 0 dX3_copyFrom_0 rfl ?_
  refine VF.aload_n C 1 dX3_copyFrom_1 rfl ?_
  refine VF.get C fl_X3_18 2 rfl rfl dX3_copyFrom_2 ?_
  refine VF.putb C fl_X3_18 tyX3 tyX3_ok nmX3 0 rfl rfl rfl (Nat.le_of_ble_eq_true rfl) (ws' := [eW a0 a1 (upd f0 0 (f2 0)), eA cI 16 a1 f1, eW a2 a3 f2, eA cI 16 a3 f3]) rfl dX3_copyFrom_5 ?_
  refine VF.aload_n C 0 dX3_copyFrom_8 rfl ?_
  refine VF.aload_n C 1 dX3_copyFrom_9 rfl ?_
  refine VF.get C fl_X3_22 2 rfl rfl dX3_copyFrom_10 ?_
  refine VF.put C fl_X3_22 tyX3 tyX3_ok nmX3 0 rfl rfl rfl (Nat.le_of_ble_eq_true rfl) (ws' := [eW a0 a1 (upd (upd f0 0 (f2 0)) 1 (f2 1)), eA cI 16 a1 f1, eW a2 a3 f2, eA cI 16 a3 f3]) rfl dX3_copyFrom_13 ?_
  refine VF.aload_n C 0 dX3_copyFrom_16 rfl ?_
  refine VF.aload_n C 1 dX3_copyFrom_17 rfl ?_
  refine VF.get C fl_X3_26 2 rfl rfl dX3_copyFrom_18 ?_
  refine VF.put C fl_X3_26 tyX3 tyX3_ok nmX3 0 rfl rfl rfl (Nat.le_of_ble_eq_true rfl) (ws' := [eW a0 a1 (upd (upd (upd f0 0 (f2 0)) 1 (f2 1)) 2 (f2 2)), eA cI 16 a1 f1, eW a2 a3 f2, eA cI 16 a3 f3]) rfl dX3_copyFrom_21 ?_
  refine VF.aload_n C 0 dX3_copyFrom_24 rfl ?_
  refine VF.aload_n C 1 dX3_copyFrom_25 rfl ?_
  refine VF.get C fl_X3_29 2 rfl rfl dX3_copyFrom_26 ?_
  refine VF.put C fl_X3_29 tyX3 tyX3_ok nmX3 0 rfl rfl rfl (Nat.le_of_ble_eq_true rfl) (ws' := [eW a0 a1 (upd (upd (upd (upd f0 0 (f2 0)) 1 (f2 1)) 2 (f2 2)) 3 (f2 3)), eA cI 16 a1 f1, eW a2 a3 f2, eA cI 16 a3 f3]) rfl dX3_copyFrom_29 ?_
  refine VF.iconst C dX3_copyFrom_32 kc_0 ?_
  refine VF.istore_n C [1, 2, 0] dX3_copyFrom_33 rfl (Nat.le_of_ble_eq_true rfl) (lv' := [(0, .ref a0), (1, .ref a2), (2, .int 0)]) rfl ?_
  exact k34 4096 0 (upd (upd (upd (upd f0 0 (f2 0)) 1 (f2 1)) 2 (f2 2)) 3 (f2 3)) f1
set_option maxHeartbeats 4000000 in
set_option maxRecDepth 100000 in
theorem mtX1_all (l : Launch) (D : va_G) (cI cZ : ClassId) (a0 : Nat) (f0 : Fn) : Ctr l yX1_all cX1_all 1 (some .int) 0 0 D cI cZ [.ref a0] [eS a0 f0] (zX1_all f0) (fun y : Int32 => some (Value.int y)) (fun _ : Int32 => [eS a0 f0]) := by
  refine Ctr.of (by decide) (Nat.le_of_ble_eq_true rfl) ?_
  intro p e s m below meth c A C
  have C : CX p s m ([.ref a0] : List Value).toArray meth c cX1_all 1 RX1 D cI cZ A (some .int) := C
  refine VF.lve (lv' := [(0, .ref a0)]) rfl ?_
  refine VF.eq (zX1_all.eq_1 f0) ?_
  refine VF.aload_n C 0 dX1_all_0 rfl ?_
  refine VF.get C fl_X1_14 0 rfl rfl dX1_all_1 ?_
  refine VF.aload_n C 0 dX1_all_4 rfl ?_
  refine VF.get C fl_X1_18 0 rfl rfl dX1_all_5 ?_
  refine VF.imul C dX1_all_8 ?_
  refine VF.aload_n C 0 dX1_all_9 rfl ?_
  refine VF.get C fl_X1_21 0 rfl rfl dX1_all_10 ?_
  refine VF.imul C dX1_all_13 ?_
  exact VF.iret C rfl rfl dX1_all_14
set_option maxHeartbeats 4000000 in
set_option maxRecDepth 100000 in
theorem mtX3_puts (l : Launch) (D : va_G) (cI cZ : ClassId) (a0 a1 : Nat) (f0 f1 : Fn) : Ctr l yX3_puts cX3_puts 1 (some .int) 0 0 D cI cZ [.ref a0] [eW a0 a1 f0, eA cI 16 a1 f1] (zX3_puts f0) (fun y : Int32 => some (Value.int y)) (fun _ : Int32 => [eW a0 a1 f0, eA cI 16 a1 f1]) := by
  refine Ctr.of (by decide) (Nat.le_of_ble_eq_true rfl) ?_
  intro p e s m below meth c A C
  have C : CX p s m ([.ref a0] : List Value).toArray meth c cX3_puts 1 RX3 D cI cZ A (some .int) := C
  refine VF.lve (lv' := [(0, .ref a0)]) rfl ?_
  refine VF.eq (zX3_puts.eq_1 f0) ?_
  refine VF.aload_n C 0 dX3_puts_0 rfl ?_
  refine VF.get C fl_X3_22 0 rfl rfl dX3_puts_1 ?_
  exact VF.iret C rfl rfl dX3_puts_4
set_option maxHeartbeats 4000000 in
set_option maxRecDepth 100000 in
theorem mtX3_isSelected (l : Launch) (D : va_G) (cI cZ : ClassId) (a0 a1 : Nat) (f0 f1 : Fn) : Ctr l yX3_isSelected cX3_isSelected 1 (some .boolean) 0 0 D cI cZ [.ref a0] [eW a0 a1 f0, eA cI 16 a1 f1] (zX3_isSelected f0) (fun y : Int32 => some (Value.int y)) (fun _ : Int32 => [eW a0 a1 f0, eA cI 16 a1 f1]) := by
  refine Ctr.of (by decide) (Nat.le_of_ble_eq_true rfl) ?_
  intro p e s m below meth c A C
  have C : CX p s m ([.ref a0] : List Value).toArray meth c cX3_isSelected 1 RX3 D cI cZ A (some .boolean) := C
  refine VF.lve (lv' := [(0, .ref a0)]) rfl ?_
  refine VF.eq (zX3_isSelected.eq_1 f0) ?_
  refine VF.aload_n C 0 dX3_isSelected_0 rfl ?_
  refine VF.get C fl_X3_18 0 rfl rfl dX3_isSelected_1 ?_
  exact VF.zret C rfl rfl dX3_isSelected_4
set_option maxHeartbeats 4000000 in
set_option maxRecDepth 100000 in
theorem mtX1_sectorBytes (l : Launch) (D : va_G) (cI cZ : ClassId) (a0 : Nat) (f0 : Fn) : Ctr l yX1_sectorBytes cX1_sectorBytes 1 (some .int) 0 0 D cI cZ [.ref a0] [eS a0 f0] (zX1_sectorBytes f0) (fun y : Int32 => some (Value.int y)) (fun _ : Int32 => [eS a0 f0]) := by
  refine Ctr.of (by decide) (Nat.le_of_ble_eq_true rfl) ?_
  intro p e s m below meth c A C
  have C : CX p s m ([.ref a0] : List Value).toArray meth c cX1_sectorBytes 1 RX1 D cI cZ A (some .int) := C
  refine VF.lve (lv' := [(0, .ref a0)]) rfl ?_
  refine VF.eq (zX1_sectorBytes.eq_1 f0) ?_
  refine VF.aload_n C 0 dX1_sectorBytes_0 rfl ?_
  refine VF.get C fl_X1_14 0 rfl rfl dX1_sectorBytes_1 ?_
  refine VF.aload_n C 0 dX1_sectorBytes_4 rfl ?_
  refine VF.get C fl_X1_18 0 rfl rfl dX1_sectorBytes_5 ?_
  refine VF.imul C dX1_sectorBytes_8 ?_
  exact VF.iret C rfl rfl dX1_sectorBytes_9
set_option maxHeartbeats 4000000 in
set_option maxRecDepth 100000 in
theorem mtX1_sectors (l : Launch) (D : va_G) (cI cZ : ClassId) (a0 : Nat) (f0 : Fn) : Ctr l yX1_sectors cX1_sectors 1 (some .int) 0 0 D cI cZ [.ref a0] [eS a0 f0] (zX1_sectors f0) (fun y : Int32 => some (Value.int y)) (fun _ : Int32 => [eS a0 f0]) := by
  refine Ctr.of (by decide) (Nat.le_of_ble_eq_true rfl) ?_
  intro p e s m below meth c A C
  have C : CX p s m ([.ref a0] : List Value).toArray meth c cX1_sectors 1 RX1 D cI cZ A (some .int) := C
  refine VF.lve (lv' := [(0, .ref a0)]) rfl ?_
  refine VF.eq (zX1_sectors.eq_1 f0) ?_
  refine VF.aload_n C 0 dX1_sectors_0 rfl ?_
  refine VF.get C fl_X1_21 0 rfl rfl dX1_sectors_1 ?_
  exact VF.iret C rfl rfl dX1_sectors_4
set_option maxHeartbeats 4000000 in
set_option maxRecDepth 100000 in
theorem mtX3_open (l : Launch) (D : va_G) (cI cZ : ClassId) (a0 a1 : Nat) (f0 f1 : Fn) : Ctr l yX3_open cX3_open 1 none 1 21 D cI cZ [.ref a0] [eW a0 a1 f0, eA cI 16 a1 f1] (zX3_open f0 f1) (fun _ : Fn × Fn => (none : Option Value)) (fun y : Fn × Fn => [eW a0 a1 y.1, eA cI 16 a1 y.2]) := by
  refine Ctr.of (by decide) (Nat.le_of_ble_eq_true rfl) ?_
  intro p e s m below meth c A C
  have C : CX p s m ([.ref a0] : List Value).toArray meth c cX3_open 1 RX3 D cI cZ A none := C
  refine VF.lve (lv' := [(0, .ref a0)]) rfl ?_
  refine VF.eq (zX3_open.eq_1 f0 f1) ?_
  refine VF.aload_n C 0 dX3_open_0 rfl ?_
  refine VF.callVv C (b := a0) (As := []) (rest := []) lk_X3_15 (mtX3_clear l D cI cZ a0 a1 f0 f1) (fun _ => rfl) [some 0, some 1] ⟨rfl, rfl⟩ (ws' := fun y => [eW a0 a1 y.1, eA cI 16 a1 y.2]) (fun _ => ⟨⟨rfl, rfl, rfl⟩, ⟨rfl, rfl, rfl⟩, trivial⟩) (ci := 3) rfl rfl rfl rfl (Nat.le_of_ble_eq_true rfl) ⟨Nat.le_of_ble_eq_true rfl, Nat.le_of_ble_eq_true rfl⟩ dX3_open_1 ⟨Nat.le_refl 0, Nat.le_refl 0⟩ (fun y1 => ?_)
  refine VF.aload_n C 0 dX3_open_4 rfl ?_
  refine VF.iconst C dX3_open_5 kc_1 ?_
  refine VF.putbK C fl_X3_18 tyX3 tyX3_ok nmX3 0 (Or.inr rfl) rfl rfl rfl (Nat.le_of_ble_eq_true rfl) (ws' := [eW a0 a1 (upd y1.1 0 1), eA cI 16 a1 y1.2]) rfl dX3_open_6 ?_
  exact VF.vret C rfl rfl dX3_open_9
set_option maxHeartbeats 4000000 in
set_option maxRecDepth 100000 in
theorem mtX3_command (l : Launch) (D : va_G) (cI cZ : ClassId) (a0 a1 : Nat) (f0 f1 : Fn) : Ctr l yX3_command cX3_command 1 (some .int) 0 0 D cI cZ [.ref a0] [eW a0 a1 f0, eA cI 16 a1 f1] (zX3_command f0) (fun y : Int32 => some (Value.int y)) (fun _ : Int32 => [eW a0 a1 f0, eA cI 16 a1 f1]) := by
  refine Ctr.of (by decide) (Nat.le_of_ble_eq_true rfl) ?_
  intro p e s m below meth c A C
  have C : CX p s m ([.ref a0] : List Value).toArray meth c cX3_command 1 RX3 D cI cZ A (some .int) := C
  refine VF.lve (lv' := [(0, .ref a0)]) rfl ?_
  refine VF.eq (zX3_command.eq_1 f0) ?_
  refine VF.aload_n C 0 dX3_command_0 rfl ?_
  refine VF.get C fl_X3_26 0 rfl rfl dX3_command_1 ?_
  exact VF.iret C rfl rfl dX3_command_4
set_option maxHeartbeats 4000000 in
set_option maxRecDepth 100000 in
theorem mtX3_first (l : Launch) (D : va_G) (cI cZ : ClassId) (a0 a1 : Nat) (f0 f1 : Fn) : Ctr l yX3_first cX3_first 1 (some .int) 0 0 D cI cZ [.ref a0] [eW a0 a1 f0, eA cI 16 a1 f1] (zX3_first f0) (fun y : Int32 => some (Value.int y)) (fun _ : Int32 => [eW a0 a1 f0, eA cI 16 a1 f1]) := by
  refine Ctr.of (by decide) (Nat.le_of_ble_eq_true rfl) ?_
  intro p e s m below meth c A C
  have C : CX p s m ([.ref a0] : List Value).toArray meth c cX3_first 1 RX3 D cI cZ A (some .int) := C
  refine VF.lve (lv' := [(0, .ref a0)]) rfl ?_
  refine VF.eq (zX3_first.eq_1 f0) ?_
  refine VF.aload_n C 0 dX3_first_0 rfl ?_
  refine VF.get C fl_X3_29 0 rfl rfl dX3_first_1 ?_
  exact VF.iret C rfl rfl dX3_first_4
set_option maxHeartbeats 4000000 in
set_option maxRecDepth 100000 in
theorem mtX1_together (l : Launch) (D : va_G) (cI cZ : ClassId) (a0 : Nat) (f0 : Fn) : Ctr l yX1_together cX1_together 1 (some .int) 0 0 D cI cZ [.ref a0] [eS a0 f0] (zX1_together f0) (fun y : Int32 => some (Value.int y)) (fun _ : Int32 => [eS a0 f0]) := by
  refine Ctr.of (by decide) (Nat.le_of_ble_eq_true rfl) ?_
  intro p e s m below meth c A C
  have C : CX p s m ([.ref a0] : List Value).toArray meth c cX1_together 1 RX1 D cI cZ A (some .int) := C
  refine VF.lve (lv' := [(0, .ref a0)]) rfl ?_
  refine VF.eq (zX1_together.eq_1 f0) ?_
  refine VF.aload_n C 0 dX1_together_0 rfl ?_
  refine VF.get C fl_X1_14 0 rfl rfl dX1_together_1 ?_
  refine VF.aload_n C 0 dX1_together_4 rfl ?_
  refine VF.get C fl_X1_18 0 rfl rfl dX1_together_5 ?_
  refine VF.iadd C dX1_together_8 ?_
  refine VF.aload_n C 0 dX1_together_9 rfl ?_
  refine VF.get C fl_X1_21 0 rfl rfl dX1_together_10 ?_
  refine VF.iadd C dX1_together_13 ?_
  refine VF.aload_n C 0 dX1_together_14 rfl ?_
  refine VF.get C fl_X1_24 0 rfl rfl dX1_together_15 ?_
  refine VF.iadd C dX1_together_18 ?_
  refine VF.aload_n C 0 dX1_together_19 rfl ?_
  refine VF.get C fl_X1_27 0 rfl rfl dX1_together_20 ?_
  refine VF.iadd C dX1_together_23 ?_
  exact VF.iret C rfl rfl dX1_together_24
set_option maxHeartbeats 4000000 in
set_option maxRecDepth 100000 in
theorem mtX1_tableByte (l : Launch) (D : va_G) (cI cZ : ClassId) (a0 : Nat) (f0 : Fn) (u1 : Int32) : Ctr l yX1_tableByte cX1_tableByte 2 (some .int) 1 20 D cI cZ [.ref a0, .int u1] [eS a0 f0] (zX1_tableByte f0 u1) (fun y : Int32 => some (Value.int y)) (fun _ : Int32 => [eS a0 f0]) := by
  refine Ctr.of (by decide) (Nat.le_of_ble_eq_true rfl) ?_
  intro p e s m below meth c A C
  have C : CX p s m ([.ref a0, .int u1] : List Value).toArray meth c cX1_tableByte 2 RX1 D cI cZ A (some .int) := C
  refine VF.lve (lv' := [(0, .ref a0), (1, .int u1)]) rfl ?_
  refine VF.eq (zX1_tableByte.eq_1 f0 u1) ?_
  refine VF.iload_n C 1 dX1_tableByte_0 rfl ?_
  refine VF.ite (fun h1 => ?_) (fun h1 => ?_)
  · refine VF.tableIn (off := 47) C 48 dX1_tableByte_1 (by rw [h1]; decide) (by rw [h1]; decide) (by rw [h1]; decide) rfl ?_
    refine VF.bipush C dX1_tableByte_48 kb_83 ?_
    exact VF.iret C rfl rfl dX1_tableByte_50
  refine VF.ite (fun h2 => ?_) (fun h2 => ?_)
  · refine VF.tableIn (off := 50) C 51 dX1_tableByte_1 (by rw [h2]; decide) (by rw [h2]; decide) (by rw [h2]; decide) rfl ?_
    refine VF.bipush C dX1_tableByte_51 kb_70 ?_
    exact VF.iret C rfl rfl dX1_tableByte_53
  refine VF.ite (fun h3 => ?_) (fun h3 => ?_)
  · refine VF.tableIn (off := 53) C 54 dX1_tableByte_1 (by rw [h3]; decide) (by rw [h3]; decide) (by rw [h3]; decide) rfl ?_
    refine VF.aload_n C 0 dX1_tableByte_54 rfl ?_
    refine VF.get C fl_X1_14 0 rfl rfl dX1_tableByte_55 ?_
    exact VF.iret C rfl rfl dX1_tableByte_58
  refine VF.ite (fun h4 => ?_) (fun h4 => ?_)
  · refine VF.tableIn (off := 58) C 59 dX1_tableByte_1 (by rw [h4]; decide) (by rw [h4]; decide) (by rw [h4]; decide) rfl ?_
    refine VF.aload_n C 0 dX1_tableByte_59 rfl ?_
    refine VF.get C fl_X1_18 0 rfl rfl dX1_tableByte_60 ?_
    exact VF.iret C rfl rfl dX1_tableByte_63
  refine VF.ite (fun h5 => ?_) (fun h5 => ?_)
  · refine VF.tableIn (off := 63) C 64 dX1_tableByte_1 (by rw [h5]; decide) (by rw [h5]; decide) (by rw [h5]; decide) rfl ?_
    refine VF.aload_n C 0 dX1_tableByte_64 rfl ?_
    refine VF.get C fl_X1_21 0 rfl rfl dX1_tableByte_65 ?_
    exact VF.iret C rfl rfl dX1_tableByte_68
  refine VF.ite (fun h6 => ?_) (fun h6 => ?_)
  · refine VF.tableIn (off := 68) C 69 dX1_tableByte_1 (by rw [h6]; decide) (by rw [h6]; decide) (by rw [h6]; decide) rfl ?_
    refine VF.aload_n C 0 dX1_tableByte_69 rfl ?_
    refine VF.get C fl_X1_24 0 rfl rfl dX1_tableByte_70 ?_
    exact VF.iret C rfl rfl dX1_tableByte_73
  refine VF.ite (fun h7 => ?_) (fun h7 => ?_)
  · refine VF.tableIn (off := 73) C 74 dX1_tableByte_1 (by rw [h7]; decide) (by rw [h7]; decide) (by rw [h7]; decide) rfl ?_
    refine VF.aload_n C 0 dX1_tableByte_74 rfl ?_
    refine VF.get C fl_X1_27 0 rfl rfl dX1_tableByte_75 ?_
    exact VF.iret C rfl rfl dX1_tableByte_78
  refine VF.ite (fun h8 => ?_) (fun h8 => ?_)
  · refine VF.tableIn (off := 78) C 79 dX1_tableByte_1 (by rw [h8]; decide) (by rw [h8]; decide) (by rw [h8]; decide) rfl ?_
    refine VF.sipush C dX1_tableByte_79 ks_153 ?_
    refine VF.aload_n C 0 dX1_tableByte_82 rfl ?_
    refine VF.callVi C (b := a0) (As := []) (rest := [.int 153]) lk_X1_30 (mtX1_together l D cI cZ a0 f0) (fun y => y) (fun _ => rfl) [some 0] ⟨rfl, rfl⟩ (ws' := fun y => [eS a0 f0]) (fun _ => ⟨⟨rfl, rfl, rfl⟩, trivial⟩) (ci := 1) rfl rfl rfl rfl (Nat.le_of_ble_eq_true rfl) ⟨Nat.le_of_ble_eq_true rfl, Nat.le_of_ble_eq_true rfl⟩ dX1_tableByte_83 ⟨Nat.le_refl 0, Nat.le_refl 0⟩ (fun y1 => ?_)
    refine VF.iadd C dX1_tableByte_86 ?_
    refine VF.sipush C dX1_tableByte_87 ks_255 ?_
    refine VF.iand C dX1_tableByte_90 ?_
    exact VF.iret C rfl rfl dX1_tableByte_91
  refine VF.tableOut C 92 dX1_tableByte_1 (by have eh1 := lv_neT h1 (k := 0) (a := 0) rfl; have eh2 := lv_neT h2 (k := 1) (a := 1) rfl; have eh3 := lv_neT h3 (k := 2) (a := 2) rfl; have eh4 := lv_neT h4 (k := 3) (a := 3) rfl; have eh5 := lv_neT h5 (k := 4) (a := 4) rfl; have eh6 := lv_neT h6 (k := 5) (a := 5) rfl; have eh7 := lv_neT h7 (k := 6) (a := 6) rfl; have eh8 := lv_neT h8 (k := 7) (a := 7) rfl; omega) rfl ?_
  refine VF.sipush C dX1_tableByte_92 ks_255 ?_
  exact VF.iret C rfl rfl dX1_tableByte_95
set_option maxHeartbeats 4000000 in
set_option maxRecDepth 100000 in
theorem mtX1_pageBytes (l : Launch) (D : va_G) (cI cZ : ClassId) (a0 : Nat) (f0 : Fn) : Ctr l yX1_pageBytes cX1_pageBytes 1 (some .int) 0 0 D cI cZ [.ref a0] [eS a0 f0] (zX1_pageBytes f0) (fun y : Int32 => some (Value.int y)) (fun _ : Int32 => [eS a0 f0]) := by
  refine Ctr.of (by decide) (Nat.le_of_ble_eq_true rfl) ?_
  intro p e s m below meth c A C
  have C : CX p s m ([.ref a0] : List Value).toArray meth c cX1_pageBytes 1 RX1 D cI cZ A (some .int) := C
  refine VF.lve (lv' := [(0, .ref a0)]) rfl ?_
  refine VF.eq (zX1_pageBytes.eq_1 f0) ?_
  refine VF.aload_n C 0 dX1_pageBytes_0 rfl ?_
  refine VF.get C fl_X1_14 0 rfl rfl dX1_pageBytes_1 ?_
  exact VF.iret C rfl rfl dX1_pageBytes_4
set_option maxHeartbeats 4000000 in
set_option maxRecDepth 100000 in
theorem mtX3_setInPage (l : Launch) (D : va_G) (cI cZ : ClassId) (a0 a1 : Nat) (f0 f1 : Fn) (u1 : Int32) (u2 : Int32) : Ctr l yX3_setInPage cX3_setInPage 3 none 0 0 D cI cZ [.ref a0, .int u1, .int u2] [eW a0 a1 f0, eA cI 16 a1 f1] (zX3_setInPage f1 u1 u2) (fun _ : Fn => (none : Option Value)) (fun y : Fn => [eW a0 a1 f0, eA cI 16 a1 y]) := by
  refine Ctr.of (by decide) (Nat.le_of_ble_eq_true rfl) ?_
  intro p e s m below meth c A C
  have C : CX p s m ([.ref a0, .int u1, .int u2] : List Value).toArray meth c cX3_setInPage 3 RX3 D cI cZ A none := C
  refine VF.lve (lv' := [(0, .ref a0), (1, .int u1), (2, .int u2)]) rfl ?_
  refine VF.eq (zX3_setInPage.eq_1 f1 u1 u2) ?_
  refine VF.iload_n C 1 dX3_setInPage_0 rfl ?_
  refine VF.if_lt C 20 dX3_setInPage_1 rfl (fun h1 => ?_) (fun h1 => ?_)
  · exact VF.vret C rfl rfl dX3_setInPage_20
  · refine VF.iload_n C 1 dX3_setInPage_4 rfl ?_
    refine VF.aload_n C 0 dX3_setInPage_5 rfl ?_
    refine VF.get C fl_X3_9 0 rfl rfl dX3_setInPage_6 ?_
    refine VF.alen C 1 rfl kl_16 dX3_setInPage_9 ?_
    refine VF.icmp_ge C 20 dX3_setInPage_10 rfl (fun h2 => ?_) (fun h2 => ?_)
    · exact VF.vret C rfl rfl dX3_setInPage_20
    · refine VF.aload_n C 0 dX3_setInPage_13 rfl ?_
      refine VF.get C fl_X3_9 0 rfl rfl dX3_setInPage_14 ?_
      refine VF.iload_n C 1 dX3_setInPage_17 rfl ?_
      refine VF.iload_n C 2 dX3_setInPage_18 rfl ?_
      refine VF.iast C 1 rfl (ws' := [eW a0 a1 f0, eA cI 16 a1 (upd f1 (ix u1) u2)]) rfl dX3_setInPage_19 ?_
      exact VF.vret C rfl rfl dX3_setInPage_20
set_option maxHeartbeats 4000000 in
set_option maxRecDepth 100000 in
theorem mtX3_take (l : Launch) (D : va_G) (cI cZ : ClassId) (a0 a1 : Nat) (f0 f1 : Fn) (u1 : Int32) (u2 : Int32) : Ctr l yX3_take cX3_take 3 none 1 22 D cI cZ [.ref a0, .int u1, .int u2] [eW a0 a1 f0, eA cI 16 a1 f1] (zX3_take f0 f1 u1 u2) (fun _ : Fn × Fn => (none : Option Value)) (fun y : Fn × Fn => [eW a0 a1 y.1, eA cI 16 a1 y.2]) := by
  refine Ctr.of (by decide) (Nat.le_of_ble_eq_true rfl) ?_
  intro p e s m below meth c A C
  have C : CX p s m ([.ref a0, .int u1, .int u2] : List Value).toArray meth c cX3_take 3 RX3 D cI cZ A none := C
  have k51 : ∀ (f0 : Fn) (f1 : Fn), VF p l e { frames := 1, cells := 0, slots := 0, locals := 22 } s m ([.ref a0, .int u1, .int u2] : List Value).toArray below meth c 0 0 D A 3 (fun r => MQ below (QcX ((fun _ : Fn × Fn => (none : Option Value)) r) D ((fun y : Fn × Fn => [eW a0 a1 y.1, eA cI 16 a1 y.2]) r) A) ([.ref a0, .int u1, .int u2] : List Value).toArray s 0 0 A) (zX3_take_k51 f0 f1) [eW a0 a1 f0, eA cI 16 a1 f1] 51 [(0, .ref a0)] [] := by
    intro f0 f1
    refine VF.eq (zX3_take_k51.eq_1 f0 f1) ?_
    refine VF.aload_n C 0 dX3_take_51 rfl ?_
    refine VF.dup C dX3_take_52 rfl ?_
    refine VF.get C fl_X3_22 0 rfl rfl dX3_take_53 ?_
    refine VF.iconst C dX3_take_56 kc_1 ?_
    refine VF.iadd C dX3_take_57 ?_
    refine VF.put C fl_X3_22 tyX3 tyX3_ok nmX3 0 rfl rfl rfl (Nat.le_of_ble_eq_true rfl) (ws' := [eW a0 a1 (upd f0 1 ((f0 1) + 1)), eA cI 16 a1 f1]) rfl dX3_take_58 ?_
    exact VF.vret C rfl rfl dX3_take_61
  refine VF.lve (lv' := [(0, .ref a0), (1, .int u1), (2, .int u2)]) rfl ?_
  refine VF.eq (zX3_take.eq_1 f0 f1 u1 u2) ?_
  refine VF.aload_n C 0 dX3_take_0 rfl ?_
  refine VF.get C fl_X3_22 0 rfl rfl dX3_take_1 ?_
  refine VF.if_ne C 15 dX3_take_4 rfl (fun h1 => ?_) (fun h1 => ?_)
  · refine VF.aload_n C 0 dX3_take_15 rfl ?_
    refine VF.get C fl_X3_22 0 rfl rfl dX3_take_16 ?_
    refine VF.iconst C dX3_take_19 kc_1 ?_
    refine VF.icmp_ne C 31 dX3_take_20 rfl (fun h2 => ?_) (fun h2 => ?_)
    · refine VF.aload_n C 0 dX3_take_31 rfl ?_
      refine VF.aload_n C 0 dX3_take_32 rfl ?_
      refine VF.get C fl_X3_29 0 rfl rfl dX3_take_33 ?_
      refine VF.aload_n C 0 dX3_take_36 rfl ?_
      refine VF.get C fl_X3_22 0 rfl rfl dX3_take_37 ?_
      refine VF.iadd C dX3_take_40 ?_
      refine VF.iconst C dX3_take_41 kc_2 ?_
      refine VF.isub C dX3_take_42 ?_
      refine VF.iload_n C 2 dX3_take_43 rfl ?_
      refine VF.callNi C (As := [.int (((f0 3) + (f0 1)) - 2), .int u2]) (rest := [.ref a0]) (hnw := C.2.2.2.2.2.2.1.2.2) lkn_X4_remainder (mtX4_remainder l D cI cZ (((f0 3) + (f0 1)) - 2) u2) (fun y => y) (fun _ => rfl) [none, none] ⟨rfl, rfl⟩ (ws' := fun y => [eW a0 a1 f0, eA cI 16 a1 f1]) (fun _ => ⟨rfl, rfl, trivial⟩) rfl rfl (Nat.le_of_ble_eq_true rfl) ⟨Nat.le_of_ble_eq_true rfl, Nat.le_of_ble_eq_true rfl⟩ dX3_take_44 ⟨Nat.le_refl 0, Nat.le_refl 0⟩ (fun y1 => ?_)
      refine VF.iload_n C 1 dX3_take_47 rfl ?_
      refine VF.callVv C (b := a0) (As := [.int y1, .int u1]) (rest := []) lk_X3_36 (mtX3_setInPage l D cI cZ a0 a1 f0 f1 y1 u1) (fun _ => rfl) [some 0, some 1] ⟨rfl, rfl⟩ (ws' := fun y => [eW a0 a1 f0, eA cI 16 a1 y]) (fun _ => ⟨⟨rfl, rfl, rfl⟩, ⟨rfl, rfl, rfl⟩, trivial⟩) (ci := 3) rfl rfl rfl rfl (Nat.le_of_ble_eq_true rfl) ⟨Nat.le_of_ble_eq_true rfl, Nat.le_of_ble_eq_true rfl⟩ dX3_take_48 ⟨Nat.le_refl 0, Nat.le_refl 0⟩ (fun y2 => ?_)
      exact VF.lvs [0] rfl (k51 f0 y2)
    · refine VF.aload_n C 0 dX3_take_23 rfl ?_
      refine VF.iload_n C 1 dX3_take_24 rfl ?_
      refine VF.put C fl_X3_29 tyX3 tyX3_ok nmX3 0 rfl rfl rfl (Nat.le_of_ble_eq_true rfl) (ws' := [eW a0 a1 (upd f0 3 u1), eA cI 16 a1 f1]) rfl dX3_take_25 ?_
      refine VF.goto C 51 dX3_take_28 rfl ?_
      exact VF.lvs [0] rfl (k51 (upd f0 3 u1) f1)
  · refine VF.aload_n C 0 dX3_take_7 rfl ?_
    refine VF.iload_n C 1 dX3_take_8 rfl ?_
    refine VF.put C fl_X3_26 tyX3 tyX3_ok nmX3 0 rfl rfl rfl (Nat.le_of_ble_eq_true rfl) (ws' := [eW a0 a1 (upd f0 2 u1), eA cI 16 a1 f1]) rfl dX3_take_9 ?_
    refine VF.goto C 51 dX3_take_12 rfl ?_
    exact VF.lvs [0] rfl (k51 (upd f0 2 u1) f1)
set_option maxHeartbeats 4000000 in
set_option maxRecDepth 100000 in
theorem mtX1_eraseTicks (l : Launch) (D : va_G) (cI cZ : ClassId) (a0 : Nat) (f0 : Fn) : Ctr l yX1_eraseTicks cX1_eraseTicks 1 (some .int) 0 0 D cI cZ [.ref a0] [eS a0 f0] (zX1_eraseTicks f0) (fun y : Int32 => some (Value.int y)) (fun _ : Int32 => [eS a0 f0]) := by
  refine Ctr.of (by decide) (Nat.le_of_ble_eq_true rfl) ?_
  intro p e s m below meth c A C
  have C : CX p s m ([.ref a0] : List Value).toArray meth c cX1_eraseTicks 1 RX1 D cI cZ A (some .int) := C
  refine VF.lve (lv' := [(0, .ref a0)]) rfl ?_
  refine VF.eq (zX1_eraseTicks.eq_1 f0) ?_
  refine VF.aload_n C 0 dX1_eraseTicks_0 rfl ?_
  refine VF.get C fl_X1_27 0 rfl rfl dX1_eraseTicks_1 ?_
  exact VF.iret C rfl rfl dX1_eraseTicks_4
set_option maxHeartbeats 4000000 in
set_option maxRecDepth 100000 in
theorem mtX3_maskAt (l : Launch) (D : va_G) (cI cZ : ClassId) (a0 a1 : Nat) (f0 f1 : Fn) (u1 : Int32) : Ctr l yX3_maskAt cX3_maskAt 2 (some .int) 0 0 D cI cZ [.ref a0, .int u1] [eW a0 a1 f0, eA cI 16 a1 f1] (zX3_maskAt f1 u1) (fun y : Int32 => some (Value.int y)) (fun _ : Int32 => [eW a0 a1 f0, eA cI 16 a1 f1]) := by
  refine Ctr.of (by decide) (Nat.le_of_ble_eq_true rfl) ?_
  intro p e s m below meth c A C
  have C : CX p s m ([.ref a0, .int u1] : List Value).toArray meth c cX3_maskAt 2 RX3 D cI cZ A (some .int) := C
  refine VF.lve (lv' := [(0, .ref a0), (1, .int u1)]) rfl ?_
  refine VF.eq (zX3_maskAt.eq_1 f1 u1) ?_
  refine VF.iload_n C 1 dX3_maskAt_0 rfl ?_
  refine VF.if_lt C 23 dX3_maskAt_1 rfl (fun h1 => ?_) (fun h1 => ?_)
  · refine VF.sipush C dX3_maskAt_23 ks_255 ?_
    exact VF.iret C rfl rfl dX3_maskAt_26
  · refine VF.iload_n C 1 dX3_maskAt_4 rfl ?_
    refine VF.aload_n C 0 dX3_maskAt_5 rfl ?_
    refine VF.get C fl_X3_9 0 rfl rfl dX3_maskAt_6 ?_
    refine VF.alen C 1 rfl kl_16 dX3_maskAt_9 ?_
    refine VF.icmp_ge C 23 dX3_maskAt_10 rfl (fun h2 => ?_) (fun h2 => ?_)
    · refine VF.sipush C dX3_maskAt_23 ks_255 ?_
      exact VF.iret C rfl rfl dX3_maskAt_26
    · refine VF.aload_n C 0 dX3_maskAt_13 rfl ?_
      refine VF.get C fl_X3_9 0 rfl rfl dX3_maskAt_14 ?_
      refine VF.iload_n C 1 dX3_maskAt_17 rfl ?_
      refine VF.iald C 1 rfl dX3_maskAt_18 ?_
      refine VF.iconst C dX3_maskAt_19 kc_m1 ?_
      refine VF.icmp_ne C 27 dX3_maskAt_20 rfl (fun h3 => ?_) (fun h3 => ?_)
      · refine VF.aload_n C 0 dX3_maskAt_27 rfl ?_
        refine VF.get C fl_X3_9 0 rfl rfl dX3_maskAt_28 ?_
        refine VF.iload_n C 1 dX3_maskAt_31 rfl ?_
        refine VF.iald C 1 rfl dX3_maskAt_32 ?_
        exact VF.iret C rfl rfl dX3_maskAt_33
      · refine VF.sipush C dX3_maskAt_23 ks_255 ?_
        exact VF.iret C rfl rfl dX3_maskAt_26
set_option maxHeartbeats 4000000 in
set_option maxRecDepth 100000 in
theorem mtX1_programTicks (l : Launch) (D : va_G) (cI cZ : ClassId) (a0 : Nat) (f0 : Fn) : Ctr l yX1_programTicks cX1_programTicks 1 (some .int) 0 0 D cI cZ [.ref a0] [eS a0 f0] (zX1_programTicks f0) (fun y : Int32 => some (Value.int y)) (fun _ : Int32 => [eS a0 f0]) := by
  refine Ctr.of (by decide) (Nat.le_of_ble_eq_true rfl) ?_
  intro p e s m below meth c A C
  have C : CX p s m ([.ref a0] : List Value).toArray meth c cX1_programTicks 1 RX1 D cI cZ A (some .int) := C
  refine VF.lve (lv' := [(0, .ref a0)]) rfl ?_
  refine VF.eq (zX1_programTicks.eq_1 f0) ?_
  refine VF.aload_n C 0 dX1_programTicks_0 rfl ?_
  refine VF.get C fl_X1_24 0 rfl rfl dX1_programTicks_1 ?_
  exact VF.iret C rfl rfl dX1_programTicks_4
set_option maxHeartbeats 4000000 in
set_option maxRecDepth 100000 in
theorem mtX1_setUsual (l : Launch) (D : va_G) (cI cZ : ClassId) (a0 : Nat) (f0 : Fn) : Ctr l yX1_setUsual cX1_setUsual 1 none 0 0 D cI cZ [.ref a0] [eS a0 f0] (zX1_setUsual f0) (fun _ : Fn => (none : Option Value)) (fun y : Fn => [eS a0 y]) := by
  refine Ctr.of (by decide) (Nat.le_of_ble_eq_true rfl) ?_
  intro p e s m below meth c A C
  have C : CX p s m ([.ref a0] : List Value).toArray meth c cX1_setUsual 1 RX1 D cI cZ A none := C
  refine VF.lve (lv' := [(0, .ref a0)]) rfl ?_
  refine VF.eq (zX1_setUsual.eq_1 f0) ?_
  refine VF.aload_n C 0 dX1_setUsual_0 rfl ?_
  refine VF.bipush C dX1_setUsual_1 kb_8 ?_
  refine VF.put C fl_X1_14 tyX1 tyX1_ok nmX1 0 rfl rfl rfl (Nat.le_of_ble_eq_true rfl) (ws' := [eS a0 (upd f0 0 8)]) rfl dX1_setUsual_3 ?_
  refine VF.aload_n C 0 dX1_setUsual_6 rfl ?_
  refine VF.iconst C dX1_setUsual_7 kc_4 ?_
  refine VF.put C fl_X1_18 tyX1 tyX1_ok nmX1 0 rfl rfl rfl (Nat.le_of_ble_eq_true rfl) (ws' := [eS a0 (upd (upd f0 0 8) 1 4)]) rfl dX1_setUsual_8 ?_
  refine VF.aload_n C 0 dX1_setUsual_11 rfl ?_
  refine VF.bipush C dX1_setUsual_12 kb_8 ?_
  refine VF.put C fl_X1_21 tyX1 tyX1_ok nmX1 0 rfl rfl rfl (Nat.le_of_ble_eq_true rfl) (ws' := [eS a0 (upd (upd (upd f0 0 8) 1 4) 2 8)]) rfl dX1_setUsual_14 ?_
  refine VF.aload_n C 0 dX1_setUsual_17 rfl ?_
  refine VF.iconst C dX1_setUsual_18 kc_2 ?_
  refine VF.put C fl_X1_24 tyX1 tyX1_ok nmX1 0 rfl rfl rfl (Nat.le_of_ble_eq_true rfl) (ws' := [eS a0 (upd (upd (upd (upd f0 0 8) 1 4) 2 8) 3 2)]) rfl dX1_setUsual_19 ?_
  refine VF.aload_n C 0 dX1_setUsual_22 rfl ?_
  refine VF.iconst C dX1_setUsual_23 kc_5 ?_
  refine VF.put C fl_X1_27 tyX1 tyX1_ok nmX1 0 rfl rfl rfl (Nat.le_of_ble_eq_true rfl) (ws' := [eS a0 (upd (upd (upd (upd (upd f0 0 8) 1 4) 2 8) 3 2) 4 5)]) rfl dX1_setUsual_24 ?_
  exact VF.vret C rfl rfl dX1_setUsual_27
set_option maxHeartbeats 4000000 in
set_option maxRecDepth 100000 in
theorem mtX1_setParts (l : Launch) (D : va_G) (cI cZ : ClassId) (a0 : Nat) (f0 : Fn) (u1 : Int32) (u2 : Int32) (u3 : Int32) : Ctr l yX1_setParts cX1_setParts 7 (some .boolean) 0 0 D cI cZ [.ref a0, .int u1, .int u2, .int u3] [eS a0 f0] (zX1_setParts f0 u1 u2 u3) (fun y : Int32 × Fn => some (Value.int y.1)) (fun y : Int32 × Fn => [eS a0 y.2]) := by
  refine Ctr.of (by decide) (Nat.le_of_ble_eq_true rfl) ?_
  intro p e s m below meth c A C
  have C : CX p s m ([.ref a0, .int u1, .int u2, .int u3] : List Value).toArray meth c cX1_setParts 7 RX1 D cI cZ A (some .boolean) := C
  have k63 : ∀ (x1 : Int32) (x2 : Int32) (x3 : Int32) (x4 : Int32) (x5 : Int32) (t0 : Int32) (f0 : Fn), VF p l e { frames := 0, cells := 0, slots := 0, locals := 0 } s m ([.ref a0, .int u1, .int u2, .int u3] : List Value).toArray below meth c 0 0 D A 7 (fun r => MQ below (QcX ((fun y : Int32 × Fn => some (Value.int y.1)) r) D ((fun y : Int32 × Fn => [eS a0 y.2]) r) A) ([.ref a0, .int u1, .int u2, .int u3] : List Value).toArray s 0 0 A) (zX1_setParts_k63 f0 x1 x2 x3 x4 x5 t0) [eS a0 f0] 63 [(0, .ref a0), (1, .int x1), (2, .int x2), (3, .int x3), (4, .int x4), (5, .int x5)] [.int t0] := by
    intro x1 x2 x3 x4 x5 t0 f0
    refine VF.eq (zX1_setParts_k63.eq_1 f0 x1 x2 x3 x4 x5 t0) ?_
    refine VF.istore C [1, 2, 3, 4, 5, 6, 0] dX1_setParts_63 (Nat.le_of_ble_eq_true rfl) (lv' := [(0, .ref a0), (1, .int x1), (2, .int x2), (3, .int x3), (4, .int x4), (5, .int x5), (6, .int t0)]) rfl ?_
    refine VF.iload C 4 dX1_setParts_65 rfl ?_
    refine VF.if_eq C 91 dX1_setParts_67 rfl (fun h9 => ?_) (fun h9 => ?_)
    · refine VF.iconst C dX1_setParts_91 kc_0 ?_
      exact VF.zretK C (Or.inl rfl) rfl rfl dX1_setParts_92
    · refine VF.iload C 5 dX1_setParts_70 rfl ?_
      refine VF.if_eq C 91 dX1_setParts_72 rfl (fun h10 => ?_) (fun h10 => ?_)
      · refine VF.iconst C dX1_setParts_91 kc_0 ?_
        exact VF.zretK C (Or.inl rfl) rfl rfl dX1_setParts_92
      · refine VF.iload C 6 dX1_setParts_75 rfl ?_
        refine VF.if_eq C 91 dX1_setParts_77 rfl (fun h11 => ?_) (fun h11 => ?_)
        · refine VF.iconst C dX1_setParts_91 kc_0 ?_
          exact VF.zretK C (Or.inl rfl) rfl rfl dX1_setParts_92
        · refine VF.iload_n C 1 dX1_setParts_80 rfl ?_
          refine VF.iload_n C 2 dX1_setParts_81 rfl ?_
          refine VF.imul C dX1_setParts_82 ?_
          refine VF.iload_n C 3 dX1_setParts_83 rfl ?_
          refine VF.imul C dX1_setParts_84 ?_
          refine VF.sipush C dX1_setParts_85 ks_256 ?_
          refine VF.icmp_le C 93 dX1_setParts_88 rfl (fun h12 => ?_) (fun h12 => ?_)
          · refine VF.aload_n C 0 dX1_setParts_93 rfl ?_
            refine VF.iload_n C 1 dX1_setParts_94 rfl ?_
            refine VF.put C fl_X1_14 tyX1 tyX1_ok nmX1 0 rfl rfl rfl (Nat.le_of_ble_eq_true rfl) (ws' := [eS a0 (upd f0 0 x1)]) rfl dX1_setParts_95 ?_
            refine VF.aload_n C 0 dX1_setParts_98 rfl ?_
            refine VF.iload_n C 2 dX1_setParts_99 rfl ?_
            refine VF.put C fl_X1_18 tyX1 tyX1_ok nmX1 0 rfl rfl rfl (Nat.le_of_ble_eq_true rfl) (ws' := [eS a0 (upd (upd f0 0 x1) 1 x2)]) rfl dX1_setParts_100 ?_
            refine VF.aload_n C 0 dX1_setParts_103 rfl ?_
            refine VF.iload_n C 3 dX1_setParts_104 rfl ?_
            refine VF.put C fl_X1_21 tyX1 tyX1_ok nmX1 0 rfl rfl rfl (Nat.le_of_ble_eq_true rfl) (ws' := [eS a0 (upd (upd (upd f0 0 x1) 1 x2) 2 x3)]) rfl dX1_setParts_105 ?_
            refine VF.iconst C dX1_setParts_108 kc_1 ?_
            exact VF.zretK C (Or.inr rfl) rfl rfl dX1_setParts_109
          · refine VF.iconst C dX1_setParts_91 kc_0 ?_
            exact VF.zretK C (Or.inl rfl) rfl rfl dX1_setParts_92
  have k45 : ∀ (x1 : Int32) (x2 : Int32) (x3 : Int32) (x4 : Int32) (t0 : Int32) (f0 : Fn), VF p l e { frames := 0, cells := 0, slots := 0, locals := 0 } s m ([.ref a0, .int u1, .int u2, .int u3] : List Value).toArray below meth c 0 0 D A 7 (fun r => MQ below (QcX ((fun y : Int32 × Fn => some (Value.int y.1)) r) D ((fun y : Int32 × Fn => [eS a0 y.2]) r) A) ([.ref a0, .int u1, .int u2, .int u3] : List Value).toArray s 0 0 A) (zX1_setParts_k45 f0 x1 x2 x3 x4 t0) [eS a0 f0] 45 [(0, .ref a0), (1, .int x1), (2, .int x2), (3, .int x3), (4, .int x4)] [.int t0] := by
    intro x1 x2 x3 x4 t0 f0
    refine VF.eq (zX1_setParts_k45.eq_1 f0 x1 x2 x3 x4 t0) ?_
    refine VF.istore C [1, 2, 3, 4, 5, 0] dX1_setParts_45 (Nat.le_of_ble_eq_true rfl) (lv' := [(0, .ref a0), (1, .int x1), (2, .int x2), (3, .int x3), (4, .int x4), (5, .int t0)]) rfl ?_
    refine VF.iload_n C 3 dX1_setParts_47 rfl ?_
    refine VF.iconst C dX1_setParts_48 kc_2 ?_
    refine VF.icmp_lt C 62 dX1_setParts_49 rfl (fun h7 => ?_) (fun h7 => ?_)
    · refine VF.iconst C dX1_setParts_62 kc_0 ?_
      exact k63 x1 x2 x3 x4 t0 0 f0
    · refine VF.iload_n C 3 dX1_setParts_52 rfl ?_
      refine VF.bipush C dX1_setParts_53 kb_8 ?_
      refine VF.icmp_gt C 62 dX1_setParts_55 rfl (fun h8 => ?_) (fun h8 => ?_)
      · refine VF.iconst C dX1_setParts_62 kc_0 ?_
        exact k63 x1 x2 x3 x4 t0 0 f0
      · refine VF.iconst C dX1_setParts_58 kc_1 ?_
        refine VF.goto C 63 dX1_setParts_59 rfl ?_
        exact k63 x1 x2 x3 x4 t0 1 f0
  have k22 : ∀ (x1 : Int32) (x2 : Int32) (x3 : Int32) (t0 : Int32) (f0 : Fn), VF p l e { frames := 0, cells := 0, slots := 0, locals := 0 } s m ([.ref a0, .int u1, .int u2, .int u3] : List Value).toArray below meth c 0 0 D A 7 (fun r => MQ below (QcX ((fun y : Int32 × Fn => some (Value.int y.1)) r) D ((fun y : Int32 × Fn => [eS a0 y.2]) r) A) ([.ref a0, .int u1, .int u2, .int u3] : List Value).toArray s 0 0 A) (zX1_setParts_k22 f0 x1 x2 x3 t0) [eS a0 f0] 22 [(0, .ref a0), (1, .int x1), (2, .int x2), (3, .int x3)] [.int t0] := by
    intro x1 x2 x3 t0 f0
    refine VF.eq (zX1_setParts_k22.eq_1 f0 x1 x2 x3 t0) ?_
    refine VF.istore C [1, 2, 3, 4, 0] dX1_setParts_22 (Nat.le_of_ble_eq_true rfl) (lv' := [(0, .ref a0), (1, .int x1), (2, .int x2), (3, .int x3), (4, .int t0)]) rfl ?_
    refine VF.iload_n C 2 dX1_setParts_24 rfl ?_
    refine VF.iconst C dX1_setParts_25 kc_2 ?_
    refine VF.icmp_eq C 40 dX1_setParts_26 rfl (fun h4 => ?_) (fun h4 => ?_)
    · refine VF.iconst C dX1_setParts_40 kc_1 ?_
      refine VF.goto C 45 dX1_setParts_41 rfl ?_
      exact k45 x1 x2 x3 t0 1 f0
    · refine VF.iload_n C 2 dX1_setParts_29 rfl ?_
      refine VF.iconst C dX1_setParts_30 kc_4 ?_
      refine VF.icmp_eq C 40 dX1_setParts_31 rfl (fun h5 => ?_) (fun h5 => ?_)
      · refine VF.iconst C dX1_setParts_40 kc_1 ?_
        refine VF.goto C 45 dX1_setParts_41 rfl ?_
        exact k45 x1 x2 x3 t0 1 f0
      · refine VF.iload_n C 2 dX1_setParts_34 rfl ?_
        refine VF.bipush C dX1_setParts_35 kb_8 ?_
        refine VF.icmp_ne C 44 dX1_setParts_37 rfl (fun h6 => ?_) (fun h6 => ?_)
        · refine VF.iconst C dX1_setParts_44 kc_0 ?_
          exact k45 x1 x2 x3 t0 0 f0
        · refine VF.iconst C dX1_setParts_40 kc_1 ?_
          refine VF.goto C 45 dX1_setParts_41 rfl ?_
          exact k45 x1 x2 x3 t0 1 f0
  refine VF.lve (lv' := [(0, .ref a0), (1, .int u1), (2, .int u2), (3, .int u3)]) rfl ?_
  refine VF.eq (zX1_setParts.eq_1 f0 u1 u2 u3) ?_
  refine VF.iload_n C 1 dX1_setParts_0 rfl ?_
  refine VF.iconst C dX1_setParts_1 kc_4 ?_
  refine VF.icmp_eq C 17 dX1_setParts_2 rfl (fun h1 => ?_) (fun h1 => ?_)
  · refine VF.iconst C dX1_setParts_17 kc_1 ?_
    refine VF.goto C 22 dX1_setParts_18 rfl ?_
    exact k22 u1 u2 u3 1 f0
  · refine VF.iload_n C 1 dX1_setParts_5 rfl ?_
    refine VF.bipush C dX1_setParts_6 kb_8 ?_
    refine VF.icmp_eq C 17 dX1_setParts_8 rfl (fun h2 => ?_) (fun h2 => ?_)
    · refine VF.iconst C dX1_setParts_17 kc_1 ?_
      refine VF.goto C 22 dX1_setParts_18 rfl ?_
      exact k22 u1 u2 u3 1 f0
    · refine VF.iload_n C 1 dX1_setParts_11 rfl ?_
      refine VF.bipush C dX1_setParts_12 kb_16 ?_
      refine VF.icmp_ne C 21 dX1_setParts_14 rfl (fun h3 => ?_) (fun h3 => ?_)
      · refine VF.iconst C dX1_setParts_21 kc_0 ?_
        exact k22 u1 u2 u3 0 f0
      · refine VF.iconst C dX1_setParts_17 kc_1 ?_
        refine VF.goto C 22 dX1_setParts_18 rfl ?_
        exact k22 u1 u2 u3 1 f0
set_option maxHeartbeats 4000000 in
set_option maxRecDepth 100000 in
theorem mtX1_setTicks (l : Launch) (D : va_G) (cI cZ : ClassId) (a0 : Nat) (f0 : Fn) (u1 : Int32) (u2 : Int32) : Ctr l yX1_setTicks cX1_setTicks 3 (some .boolean) 0 0 D cI cZ [.ref a0, .int u1, .int u2] [eS a0 f0] (zX1_setTicks f0 u1 u2) (fun y : Int32 × Fn => some (Value.int y.1)) (fun y : Int32 × Fn => [eS a0 y.2]) := by
  refine Ctr.of (by decide) (Nat.le_of_ble_eq_true rfl) ?_
  intro p e s m below meth c A C
  have C : CX p s m ([.ref a0, .int u1, .int u2] : List Value).toArray meth c cX1_setTicks 3 RX1 D cI cZ A (some .boolean) := C
  refine VF.lve (lv' := [(0, .ref a0), (1, .int u1), (2, .int u2)]) rfl ?_
  refine VF.eq (zX1_setTicks.eq_1 f0 u1 u2) ?_
  refine VF.iload_n C 1 dX1_setTicks_0 rfl ?_
  refine VF.iconst C dX1_setTicks_1 kc_1 ?_
  refine VF.icmp_lt C 22 dX1_setTicks_2 rfl (fun h1 => ?_) (fun h1 => ?_)
  · refine VF.iconst C dX1_setTicks_22 kc_0 ?_
    exact VF.zretK C (Or.inl rfl) rfl rfl dX1_setTicks_23
  · refine VF.iload_n C 1 dX1_setTicks_5 rfl ?_
    refine VF.bipush C dX1_setTicks_6 kb_9 ?_
    refine VF.icmp_gt C 22 dX1_setTicks_8 rfl (fun h2 => ?_) (fun h2 => ?_)
    · refine VF.iconst C dX1_setTicks_22 kc_0 ?_
      exact VF.zretK C (Or.inl rfl) rfl rfl dX1_setTicks_23
    · refine VF.iload_n C 2 dX1_setTicks_11 rfl ?_
      refine VF.iconst C dX1_setTicks_12 kc_1 ?_
      refine VF.icmp_lt C 22 dX1_setTicks_13 rfl (fun h3 => ?_) (fun h3 => ?_)
      · refine VF.iconst C dX1_setTicks_22 kc_0 ?_
        exact VF.zretK C (Or.inl rfl) rfl rfl dX1_setTicks_23
      · refine VF.iload_n C 2 dX1_setTicks_16 rfl ?_
        refine VF.bipush C dX1_setTicks_17 kb_20 ?_
        refine VF.icmp_le C 24 dX1_setTicks_19 rfl (fun h4 => ?_) (fun h4 => ?_)
        · refine VF.aload_n C 0 dX1_setTicks_24 rfl ?_
          refine VF.iload_n C 1 dX1_setTicks_25 rfl ?_
          refine VF.put C fl_X1_24 tyX1 tyX1_ok nmX1 0 rfl rfl rfl (Nat.le_of_ble_eq_true rfl) (ws' := [eS a0 (upd f0 3 u1)]) rfl dX1_setTicks_26 ?_
          refine VF.aload_n C 0 dX1_setTicks_29 rfl ?_
          refine VF.iload_n C 2 dX1_setTicks_30 rfl ?_
          refine VF.put C fl_X1_27 tyX1 tyX1_ok nmX1 0 rfl rfl rfl (Nat.le_of_ble_eq_true rfl) (ws' := [eS a0 (upd (upd f0 3 u1) 4 u2)]) rfl dX1_setTicks_31 ?_
          refine VF.iconst C dX1_setTicks_34 kc_1 ?_
          exact VF.zretK C (Or.inr rfl) rfl rfl dX1_setTicks_35
        · refine VF.iconst C dX1_setTicks_22 kc_0 ?_
          exact VF.zretK C (Or.inl rfl) rfl rfl dX1_setTicks_23
set_option maxHeartbeats 4000000 in
set_option maxRecDepth 100000 in
theorem mtX1_sectorPages (l : Launch) (D : va_G) (cI cZ : ClassId) (a0 : Nat) (f0 : Fn) : Ctr l yX1_sectorPages cX1_sectorPages 1 (some .int) 0 0 D cI cZ [.ref a0] [eS a0 f0] (zX1_sectorPages f0) (fun y : Int32 => some (Value.int y)) (fun _ : Int32 => [eS a0 f0]) := by
  refine Ctr.of (by decide) (Nat.le_of_ble_eq_true rfl) ?_
  intro p e s m below meth c A C
  have C : CX p s m ([.ref a0] : List Value).toArray meth c cX1_sectorPages 1 RX1 D cI cZ A (some .int) := C
  refine VF.lve (lv' := [(0, .ref a0)]) rfl ?_
  refine VF.eq (zX1_sectorPages.eq_1 f0) ?_
  refine VF.aload_n C 0 dX1_sectorPages_0 rfl ?_
  refine VF.get C fl_X1_18 0 rfl rfl dX1_sectorPages_1 ?_
  exact VF.iret C rfl rfl dX1_sectorPages_4
