set_option maxHeartbeats 4000000 in
set_option maxRecDepth 100000 in
theorem mtX5_plain (l : Launch) (D : va_G) (cI cZ : ClassId) (a0 : Nat) (f0 : Fn) : Ctr l yX5_plain cX5_plain 1 none 0 0 D cI cZ [.ref a0] [eA cI 5 a0 f0] (zX5_plain f0) (fun _ : Fn => (none : Option Value)) (fun y : Fn => [eA cI 5 a0 y]) := by
  refine Ctr.of (by decide) (Nat.le_of_ble_eq_true rfl) ?_
  intro p e s m below meth c A C
  have C : CX p s m ([.ref a0] : List Value).toArray meth c cX5_plain 1 RX5 D cI cZ A none := C
  refine VF.lve (lv' := [(0, .ref a0)]) rfl ?_
  refine VF.eq (zX5_plain.eq_1 f0) ?_
  refine VF.aload_n C 0 dX5_plain_0 rfl ?_
  refine VF.iconst C dX5_plain_1 kc_0 ?_
  refine VF.bipush C dX5_plain_2 kb_8 ?_
  refine VF.iastK C 0 0 li_0 (Nat.le_of_ble_eq_true rfl) (Nat.le_of_ble_eq_true rfl) rfl (ws' := [eA cI 5 a0 (upd f0 0 8)]) rfl dX5_plain_4 ?_
  refine VF.aload_n C 0 dX5_plain_5 rfl ?_
  refine VF.iconst C dX5_plain_6 kc_1 ?_
  refine VF.iconst C dX5_plain_7 kc_4 ?_
  refine VF.iastK C 0 1 li_1 (Nat.le_of_ble_eq_true rfl) (Nat.le_of_ble_eq_true rfl) rfl (ws' := [eA cI 5 a0 (upd (upd f0 0 8) 1 4)]) rfl dX5_plain_8 ?_
  refine VF.aload_n C 0 dX5_plain_9 rfl ?_
  refine VF.iconst C dX5_plain_10 kc_2 ?_
  refine VF.bipush C dX5_plain_11 kb_8 ?_
  refine VF.iastK C 0 2 li_2 (Nat.le_of_ble_eq_true rfl) (Nat.le_of_ble_eq_true rfl) rfl (ws' := [eA cI 5 a0 (upd (upd (upd f0 0 8) 1 4) 2 8)]) rfl dX5_plain_13 ?_
  refine VF.aload_n C 0 dX5_plain_14 rfl ?_
  refine VF.iconst C dX5_plain_15 kc_3 ?_
  refine VF.iconst C dX5_plain_16 kc_2 ?_
  refine VF.iastK C 0 3 li_3 (Nat.le_of_ble_eq_true rfl) (Nat.le_of_ble_eq_true rfl) rfl (ws' := [eA cI 5 a0 (upd (upd (upd (upd f0 0 8) 1 4) 2 8) 3 2)]) rfl dX5_plain_17 ?_
  refine VF.aload_n C 0 dX5_plain_18 rfl ?_
  refine VF.iconst C dX5_plain_19 kc_4 ?_
  refine VF.iconst C dX5_plain_20 kc_5 ?_
  refine VF.iastK C 0 4 li_4 (Nat.le_of_ble_eq_true rfl) (Nat.le_of_ble_eq_true rfl) rfl (ws' := [eA cI 5 a0 (upd (upd (upd (upd (upd f0 0 8) 1 4) 2 8) 3 2) 4 5)]) rfl dX5_plain_21 ?_
  exact VF.vret C rfl rfl dX5_plain_22
set_option maxHeartbeats 4000000 in
set_option maxRecDepth 100000 in
theorem mtX5_anew (l : Launch) (D : va_G) (cI cZ : ClassId) (a0 a1 a2 a3 a4 a5 : Nat) (f0 f1 f2 f3 f4 f5 : Fn) : Ctr l yX5_anew cX5_anew 2 none 0 0 D cI cZ [.ref a0] [eM a0 a1 a2 a3 a4 a5 f0, eA cI 200 a1 f1, eA cI 5 a2 f2, eA cI 5 a3 f3, eA cI 306 a4 f4, eA cI 612 a5 f5] (zX5_anew f0 f4) (fun _ : Fn × Fn => (none : Option Value)) (fun y : Fn × Fn => [eM a0 a1 a2 a3 a4 a5 y.1, eA cI 200 a1 f1, eA cI 5 a2 f2, eA cI 5 a3 f3, eA cI 306 a4 y.2, eA cI 612 a5 f5]) := by
  refine Ctr.of (by decide) (Nat.le_of_ble_eq_true rfl) ?_
  intro p e s m below meth c A C
  have C : CX p s m ([.ref a0] : List Value).toArray meth c cX5_anew 2 RX5 D cI cZ A none := C
  have k2 : ∀ (n : Nat) (x1 : Int32) (f0 : Fn) (f4 : Fn), VF p l e { frames := 0, cells := 0, slots := 0, locals := 0 } s m ([.ref a0] : List Value).toArray below meth c 0 0 D A 2 (fun r => MQ below (QcX ((fun _ : Fn × Fn => (none : Option Value)) r) D ((fun y : Fn × Fn => [eM a0 a1 a2 a3 a4 a5 y.1, eA cI 200 a1 f1, eA cI 5 a2 f2, eA cI 5 a3 f3, eA cI 306 a4 y.2, eA cI 612 a5 f5]) r) A) ([.ref a0] : List Value).toArray s 0 0 A) (zX5_anew_k2 n f0 f4 x1) [eM a0 a1 a2 a3 a4 a5 f0, eA cI 200 a1 f1, eA cI 5 a2 f2, eA cI 5 a3 f3, eA cI 306 a4 f4, eA cI 612 a5 f5] 2 [(0, .ref a0), (1, .int x1)] [] := by
    intro n
    induction n with
    | zero =>
      intro x1 f0 f4
      exact VF.eq (zX5_anew_k2.eq_1 _ _ _) VF.nn
    | succ n ih =>
      intro x1 f0 f4
      refine VF.eq (zX5_anew_k2.eq_2 _ _ _ _) ?_
      refine VF.iload_n C 1 dX5_anew_2 rfl ?_
      refine VF.sipush C dX5_anew_3 ks_306 ?_
      refine VF.icmp_ge C 35 dX5_anew_6 rfl (fun h1 => ?_) (fun h1 => ?_)
      · refine VF.aload_n C 0 dX5_anew_35 rfl ?_
        refine VF.iconst C dX5_anew_36 kc_0 ?_
        refine VF.put C fl_X5_32 tyX5 tyX5_ok nmX5 0 rfl rfl rfl (Nat.le_of_ble_eq_true rfl) (ws' := [eM a0 a1 a2 a3 a4 a5 (upd f0 8 0), eA cI 200 a1 f1, eA cI 5 a2 f2, eA cI 5 a3 f3, eA cI 306 a4 f4, eA cI 612 a5 f5]) rfl dX5_anew_37 ?_
        exact VF.vret C rfl rfl dX5_anew_40
      · refine VF.aload_n C 0 dX5_anew_9 rfl ?_
        refine VF.get C fl_X5_19 0 rfl rfl dX5_anew_10 ?_
        refine VF.iload_n C 1 dX5_anew_13 rfl ?_
        refine VF.iload_n C 1 dX5_anew_14 rfl ?_
        refine VF.sipush C dX5_anew_15 ks_256 ?_
        refine VF.icmp_ge C 27 dX5_anew_18 rfl (fun h2 => ?_) (fun h2 => ?_)
        · refine VF.iconst C dX5_anew_27 kc_0 ?_
          refine VF.iast C 4 rfl (ws' := [eM a0 a1 a2 a3 a4 a5 f0, eA cI 200 a1 f1, eA cI 5 a2 f2, eA cI 5 a3 f3, eA cI 306 a4 (upd f4 (ix x1) 0), eA cI 612 a5 f5]) rfl dX5_anew_28 ?_
          refine VF.iinc C 1 [1, 0] dX5_anew_29 rfl (v := (x1 + 1)) rfl (Nat.le_of_ble_eq_true rfl) (lv' := [(0, .ref a0), (1, .int (x1 + 1))]) rfl ?_
          refine VF.goto C 2 dX5_anew_32 rfl ?_
          exact ih (x1 + 1) f0 (upd f4 (ix x1) 0)
        · refine VF.sipush C dX5_anew_21 ks_255 ?_
          refine VF.goto C 28 dX5_anew_24 rfl ?_
          refine VF.iast C 4 rfl (ws' := [eM a0 a1 a2 a3 a4 a5 f0, eA cI 200 a1 f1, eA cI 5 a2 f2, eA cI 5 a3 f3, eA cI 306 a4 (upd f4 (ix x1) 255), eA cI 612 a5 f5]) rfl dX5_anew_28 ?_
          refine VF.iinc C 1 [1, 0] dX5_anew_29 rfl (v := (x1 + 1)) rfl (Nat.le_of_ble_eq_true rfl) (lv' := [(0, .ref a0), (1, .int (x1 + 1))]) rfl ?_
          refine VF.goto C 2 dX5_anew_32 rfl ?_
          exact ih (x1 + 1) f0 (upd f4 (ix x1) 255)
  refine VF.lve (lv' := [(0, .ref a0)]) rfl ?_
  refine VF.eq (zX5_anew.eq_1 f0 f4) ?_
  refine VF.iconst C dX5_anew_0 kc_0 ?_
  refine VF.istore_n C [1, 0] dX5_anew_1 rfl (Nat.le_of_ble_eq_true rfl) (lv' := [(0, .ref a0), (1, .int 0)]) rfl ?_
  exact k2 4096 0 f0 f4
set_option maxHeartbeats 4000000 in
set_option maxRecDepth 100000 in
theorem mtX5_in (l : Launch) (D : va_G) (cI cZ : ClassId) (u0 : Int64) (u2 : Int64) (u4 : Int64) : Ctr l yX5_in cX5_in 6 (some .boolean) 0 0 D cI cZ [.long u0, .long u2, .long u4] [] (zX5_in u0 u2 u4) (fun y : Int32 => some (Value.int y)) (fun _ : Int32 => []) := by
  refine Ctr.of (by decide) (Nat.le_of_ble_eq_true rfl) ?_
  intro p e s m below meth c A C
  have C : CX p s m ([.long u0, .long u2, .long u4] : List Value).toArray meth c cX5_in 6 RX5 D cI cZ A (some .boolean) := C
  refine VF.lve (lv' := [(0, .long u0), (2, .long u2), (4, .long u4)]) rfl ?_
  refine VF.eq (zX5_in.eq_1 u0 u2 u4) ?_
  refine VF.lload_n C 0 dX5_in_0 rfl ?_
  refine VF.lload_n C 1 dX5_in_1 rfl ?_
  refine VF.lcmp C dX5_in_2 ?_
  refine VF.if_lt C 17 dX5_in_3 rfl (fun h1 => ?_) (fun h1 => ?_)
  · refine VF.iconst C dX5_in_17 kc_0 ?_
    exact VF.zretK C (Or.inl rfl) rfl rfl dX5_in_18
  · refine VF.lload_n C 0 dX5_in_6 rfl ?_
    refine VF.lload C 2 dX5_in_7 rfl ?_
    refine VF.lcmp C dX5_in_9 ?_
    refine VF.if_gt C 17 dX5_in_10 rfl (fun h2 => ?_) (fun h2 => ?_)
    · refine VF.iconst C dX5_in_17 kc_0 ?_
      exact VF.zretK C (Or.inl rfl) rfl rfl dX5_in_18
    · refine VF.iconst C dX5_in_13 kc_1 ?_
      refine VF.goto C 18 dX5_in_14 rfl ?_
      exact VF.zretK C (Or.inr rfl) rfl rfl dX5_in_18
set_option maxHeartbeats 4000000 in
set_option maxRecDepth 100000 in
theorem mtX5_write (l : Launch) (D : va_G) (cI cZ : ClassId) (a0 a1 a2 a3 a4 a5 : Nat) (f0 f1 f2 f3 f4 f5 : Fn) (u1 : Int32) : Ctr l yX5_write cX5_write 2 (some .int) 1 25 D cI cZ [.ref a0, .int u1] [eM a0 a1 a2 a3 a4 a5 f0, eA cI 200 a1 f1, eA cI 5 a2 f2, eA cI 5 a3 f3, eA cI 306 a4 f4, eA cI 612 a5 f5] (zX5_write f0 f1 u1) (fun y : Int32 × Fn × Fn => some (Value.int y.1)) (fun y : Int32 × Fn × Fn => [eM a0 a1 a2 a3 a4 a5 y.2.1, eA cI 200 a1 y.2.2, eA cI 5 a2 f2, eA cI 5 a3 f3, eA cI 306 a4 f4, eA cI 612 a5 f5]) := by
  refine Ctr.of (by decide) (Nat.le_of_ble_eq_true rfl) ?_
  intro p e s m below meth c A C
  have C : CX p s m ([.ref a0, .int u1] : List Value).toArray meth c cX5_write 2 RX5 D cI cZ A (some .int) := C
  refine VF.lve (lv' := [(0, .ref a0), (1, .int u1)]) rfl ?_
  refine VF.eq (zX5_write.eq_1 f0 f1 u1) ?_
  refine VF.iload_n C 1 dX5_write_0 rfl ?_
  refine VF.i2l C dX5_write_1 ?_
  refine VF.ldc2 C (v := 32) wc_X5_36 dX5_write_2 ?_
  refine VF.ldc2 C (v := 126) wc_X5_38 dX5_write_5 ?_
  refine VF.callSi C (As := [.long (Int32.toInt64 u1), .long (32 : Int64), .long (126 : Int64)]) (rest := []) lk_X5_40 (mtX5_in l D cI cZ (Int32.toInt64 u1) (32 : Int64) (126 : Int64)) (fun y => y) (fun _ => rfl) [none, none, none, none, none, none] ⟨rfl, rfl⟩ (ws' := fun y => [eM a0 a1 a2 a3 a4 a5 f0, eA cI 200 a1 f1, eA cI 5 a2 f2, eA cI 5 a3 f3, eA cI 306 a4 f4, eA cI 612 a5 f5]) (fun _ => ⟨rfl, rfl, rfl, rfl, rfl, rfl, trivial⟩) rfl rfl (Nat.le_of_ble_eq_true rfl) ⟨Nat.le_of_ble_eq_true rfl, Nat.le_of_ble_eq_true rfl⟩ dX5_write_8 ⟨Nat.le_refl 0, Nat.le_refl 0⟩ (fun y1 => ?_)
  refine VF.if_ne C 16 dX5_write_11 rfl (fun h1 => ?_) (fun h1 => ?_)
  · refine VF.aload_n C 0 dX5_write_16 rfl ?_
    refine VF.get C fl_X5_44 0 rfl rfl dX5_write_17 ?_
    refine VF.sipush C dX5_write_20 ks_200 ?_
    refine VF.icmp_ne C 29 dX5_write_23 rfl (fun h2 => ?_) (fun h2 => ?_)
    · refine VF.aload_n C 0 dX5_write_29 rfl ?_
      refine VF.get C fl_X5_7 0 rfl rfl dX5_write_30 ?_
      refine VF.aload_n C 0 dX5_write_33 rfl ?_
      refine VF.get C fl_X5_44 0 rfl rfl dX5_write_34 ?_
      refine VF.iload_n C 1 dX5_write_37 rfl ?_
      refine VF.iast C 1 rfl (ws' := [eM a0 a1 a2 a3 a4 a5 f0, eA cI 200 a1 (upd f1 (ix (f0 0)) u1), eA cI 5 a2 f2, eA cI 5 a3 f3, eA cI 306 a4 f4, eA cI 612 a5 f5]) rfl dX5_write_38 ?_
      refine VF.aload_n C 0 dX5_write_39 rfl ?_
      refine VF.dup C dX5_write_40 rfl ?_
      refine VF.get C fl_X5_44 0 rfl rfl dX5_write_41 ?_
      refine VF.iconst C dX5_write_44 kc_1 ?_
      refine VF.iadd C dX5_write_45 ?_
      refine VF.put C fl_X5_44 tyX5 tyX5_ok nmX5 0 rfl rfl rfl (Nat.le_of_ble_eq_true rfl) (ws' := [eM a0 a1 a2 a3 a4 a5 (upd f0 0 ((f0 0) + 1)), eA cI 200 a1 (upd f1 (ix (f0 0)) u1), eA cI 5 a2 f2, eA cI 5 a3 f3, eA cI 306 a4 f4, eA cI 612 a5 f5]) rfl dX5_write_46 ?_
      refine VF.aload_n C 0 dX5_write_49 rfl ?_
      refine VF.get C fl_X5_44 0 rfl rfl dX5_write_50 ?_
      exact VF.iret C rfl rfl dX5_write_53
    · refine VF.bipush C dX5_write_26 kb_m3 ?_
      exact VF.iret C rfl rfl dX5_write_28
  · refine VF.iconst C dX5_write_14 kc_m1 ?_
    exact VF.iret C rfl rfl dX5_write_15
set_option maxHeartbeats 4000000 in
set_option maxRecDepth 100000 in
theorem mtX5_wipe (l : Launch) (D : va_G) (cI cZ : ClassId) (a0 a1 a2 a3 a4 a5 : Nat) (f0 f1 f2 f3 f4 f5 : Fn) : Ctr l yX5_wipe cX5_wipe 2 (some .int) 0 0 D cI cZ [.ref a0] [eM a0 a1 a2 a3 a4 a5 f0, eA cI 200 a1 f1, eA cI 5 a2 f2, eA cI 5 a3 f3, eA cI 306 a4 f4, eA cI 612 a5 f5] (zX5_wipe f0) (fun y : Int32 × Fn => some (Value.int y.1)) (fun y : Int32 × Fn => [eM a0 a1 a2 a3 a4 a5 y.2, eA cI 200 a1 f1, eA cI 5 a2 f2, eA cI 5 a3 f3, eA cI 306 a4 f4, eA cI 612 a5 f5]) := by
  refine Ctr.of (by decide) (Nat.le_of_ble_eq_true rfl) ?_
  intro p e s m below meth c A C
  have C : CX p s m ([.ref a0] : List Value).toArray meth c cX5_wipe 2 RX5 D cI cZ A (some .int) := C
  refine VF.lve (lv' := [(0, .ref a0)]) rfl ?_
  refine VF.eq (zX5_wipe.eq_1 f0) ?_
  refine VF.aload_n C 0 dX5_wipe_0 rfl ?_
  refine VF.get C fl_X5_44 0 rfl rfl dX5_wipe_1 ?_
  refine VF.istore_n C [1, 0] dX5_wipe_4 rfl (Nat.le_of_ble_eq_true rfl) (lv' := [(0, .ref a0), (1, .int (f0 0))]) rfl ?_
  refine VF.aload_n C 0 dX5_wipe_5 rfl ?_
  refine VF.iconst C dX5_wipe_6 kc_0 ?_
  refine VF.put C fl_X5_44 tyX5 tyX5_ok nmX5 0 rfl rfl rfl (Nat.le_of_ble_eq_true rfl) (ws' := [eM a0 a1 a2 a3 a4 a5 (upd f0 0 0), eA cI 200 a1 f1, eA cI 5 a2 f2, eA cI 5 a3 f3, eA cI 306 a4 f4, eA cI 612 a5 f5]) rfl dX5_wipe_7 ?_
  refine VF.iload_n C 1 dX5_wipe_10 rfl ?_
  exact VF.iret C rfl rfl dX5_wipe_11
set_option maxHeartbeats 4000000 in
set_option maxRecDepth 100000 in
theorem mtX5_byteAt (l : Launch) (D : va_G) (cI cZ : ClassId) (a0 a1 a2 a3 a4 a5 : Nat) (f0 f1 f2 f3 f4 f5 : Fn) (u1 : Int32) : Ctr l yX5_byteAt cX5_byteAt 2 (some .int) 0 0 D cI cZ [.ref a0, .int u1] [eM a0 a1 a2 a3 a4 a5 f0, eA cI 200 a1 f1, eA cI 5 a2 f2, eA cI 5 a3 f3, eA cI 306 a4 f4, eA cI 612 a5 f5] (zX5_byteAt f0 f1 u1) (fun y : Int32 => some (Value.int y)) (fun _ : Int32 => [eM a0 a1 a2 a3 a4 a5 f0, eA cI 200 a1 f1, eA cI 5 a2 f2, eA cI 5 a3 f3, eA cI 306 a4 f4, eA cI 612 a5 f5]) := by
  refine Ctr.of (by decide) (Nat.le_of_ble_eq_true rfl) ?_
  intro p e s m below meth c A C
  have C : CX p s m ([.ref a0, .int u1] : List Value).toArray meth c cX5_byteAt 2 RX5 D cI cZ A (some .int) := C
  refine VF.lve (lv' := [(0, .ref a0), (1, .int u1)]) rfl ?_
  refine VF.eq (zX5_byteAt.eq_1 f0 f1 u1) ?_
  refine VF.iload_n C 1 dX5_byteAt_0 rfl ?_
  refine VF.aload_n C 0 dX5_byteAt_1 rfl ?_
  refine VF.get C fl_X5_44 0 rfl rfl dX5_byteAt_2 ?_
  refine VF.icmp_ge C 17 dX5_byteAt_5 rfl (fun h1 => ?_) (fun h1 => ?_)
  · refine VF.iconst C dX5_byteAt_17 kc_0 ?_
    exact VF.iret C rfl rfl dX5_byteAt_18
  · refine VF.aload_n C 0 dX5_byteAt_8 rfl ?_
    refine VF.get C fl_X5_7 0 rfl rfl dX5_byteAt_9 ?_
    refine VF.iload_n C 1 dX5_byteAt_12 rfl ?_
    refine VF.iald C 1 rfl dX5_byteAt_13 ?_
    refine VF.goto C 18 dX5_byteAt_14 rfl ?_
    exact VF.iret C rfl rfl dX5_byteAt_18
set_option maxHeartbeats 4000000 in
set_option maxRecDepth 100000 in
theorem mtX5_number (l : Launch) (D : va_G) (cI cZ : ClassId) (a0 a1 a2 a3 a4 a5 : Nat) (f0 f1 f2 f3 f4 f5 : Fn) (u1 : Int32) : Ctr l yX5_number cX5_number 5 (some .int) 1 25 D cI cZ [.ref a0, .int u1] [eM a0 a1 a2 a3 a4 a5 f0, eA cI 200 a1 f1, eA cI 5 a2 f2, eA cI 5 a3 f3, eA cI 306 a4 f4, eA cI 612 a5 f5] (zX5_number f0 f1 u1) (fun y : Int32 × Fn => some (Value.int y.1)) (fun y : Int32 × Fn => [eM a0 a1 a2 a3 a4 a5 y.2, eA cI 200 a1 f1, eA cI 5 a2 f2, eA cI 5 a3 f3, eA cI 306 a4 f4, eA cI 612 a5 f5]) := by
  refine Ctr.of (by decide) (Nat.le_of_ble_eq_true rfl) ?_
  intro p e s m below meth c A C
  have C : CX p s m ([.ref a0, .int u1] : List Value).toArray meth c cX5_number 5 RX5 D cI cZ A (some .int) := C
  have k84 : ∀ (x2 : Int32) (t0 : Int32) (f0 : Fn), VF p l e { frames := 1, cells := 0, slots := 0, locals := 25 } s m ([.ref a0, .int u1] : List Value).toArray below meth c 0 0 D A 5 (fun r => MQ below (QcX ((fun y : Int32 × Fn => some (Value.int y.1)) r) D ((fun y : Int32 × Fn => [eM a0 a1 a2 a3 a4 a5 y.2, eA cI 200 a1 f1, eA cI 5 a2 f2, eA cI 5 a3 f3, eA cI 306 a4 f4, eA cI 612 a5 f5]) r) A) ([.ref a0, .int u1] : List Value).toArray s 0 0 A) (zX5_number_k84 f0 f1 x2 t0) [eM a0 a1 a2 a3 a4 a5 f0, eA cI 200 a1 f1, eA cI 5 a2 f2, eA cI 5 a3 f3, eA cI 306 a4 f4, eA cI 612 a5 f5] 84 [(0, .ref a0), (2, .int x2)] [.int t0] := by
    intro x2 t0 f0
    refine VF.eq (zX5_number_k84.eq_1 f0 f1 x2 t0) ?_
    refine VF.istore C [1, 2, 0] dX5_number_84 (Nat.le_of_ble_eq_true rfl) (lv' := [(0, .ref a0), (2, .int x2), (4, .int t0)]) rfl ?_
    refine VF.aload_n C 0 dX5_number_86 rfl ?_
    refine VF.dup C dX5_number_87 rfl ?_
    refine VF.get C fl_X5_47 0 rfl rfl dX5_number_88 ?_
    refine VF.iconst C dX5_number_91 kc_1 ?_
    refine VF.iadd C dX5_number_92 ?_
    refine VF.put C fl_X5_47 tyX5 tyX5_ok nmX5 0 rfl rfl rfl (Nat.le_of_ble_eq_true rfl) (ws' := [eM a0 a1 a2 a3 a4 a5 (upd f0 2 ((f0 2) + 1)), eA cI 200 a1 f1, eA cI 5 a2 f2, eA cI 5 a3 f3, eA cI 306 a4 f4, eA cI 612 a5 f5]) rfl dX5_number_93 ?_
    refine VF.iload C 2 dX5_number_96 rfl ?_
    refine VF.if_eq C 105 dX5_number_98 rfl (fun h5 => ?_) (fun h5 => ?_)
    · refine VF.iconst C dX5_number_105 kc_m1 ?_
      exact VF.iret C rfl rfl dX5_number_106
    · refine VF.iload_n C 1 dX5_number_101 rfl ?_
      refine VF.goto C 106 dX5_number_102 rfl ?_
      exact VF.iret C rfl rfl dX5_number_106
  have k63 : ∀ (x1 : Int32) (x2 : Int32) (x3 : Int32) (f0 : Fn), VF p l e { frames := 1, cells := 0, slots := 0, locals := 25 } s m ([.ref a0, .int u1] : List Value).toArray below meth c 0 0 D A 5 (fun r => MQ below (QcX ((fun y : Int32 × Fn => some (Value.int y.1)) r) D ((fun y : Int32 × Fn => [eM a0 a1 a2 a3 a4 a5 y.2, eA cI 200 a1 f1, eA cI 5 a2 f2, eA cI 5 a3 f3, eA cI 306 a4 f4, eA cI 612 a5 f5]) r) A) ([.ref a0, .int u1] : List Value).toArray s 0 0 A) (zX5_number_k63 f0 f1 x1 x2 x3) [eM a0 a1 a2 a3 a4 a5 f0, eA cI 200 a1 f1, eA cI 5 a2 f2, eA cI 5 a3 f3, eA cI 306 a4 f4, eA cI 612 a5 f5] 63 [(0, .ref a0), (1, .int x1), (2, .int x2), (3, .int x3)] [] := by
    intro x1 x2 x3 f0
    refine VF.eq (zX5_number_k63.eq_1 f0 f1 x1 x2 x3) ?_
    refine VF.iload_n C 3 dX5_number_63 rfl ?_
    refine VF.if_le C 83 dX5_number_64 rfl (fun h3 => ?_) (fun h3 => ?_)
    · refine VF.iconst C dX5_number_83 kc_0 ?_
      exact VF.lvs [0, 2] rfl (k84 x2 0 f0)
    · refine VF.aload_n C 0 dX5_number_67 rfl ?_
      refine VF.aload_n C 0 dX5_number_68 rfl ?_
      refine VF.get C fl_X5_47 0 rfl rfl dX5_number_69 ?_
      refine VF.callVi C (b := a0) (As := [.int (f0 2)]) (rest := []) lk_X5_50 (mtX5_byteAt l D cI cZ a0 a1 a2 a3 a4 a5 f0 f1 f2 f3 f4 f5 (f0 2)) (fun y => y) (fun _ => rfl) [some 0, some 1, some 2, some 3, some 4, some 5] ⟨rfl, rfl⟩ (ws' := fun y => [eM a0 a1 a2 a3 a4 a5 f0, eA cI 200 a1 f1, eA cI 5 a2 f2, eA cI 5 a3 f3, eA cI 306 a4 f4, eA cI 612 a5 f5]) (fun _ => ⟨⟨rfl, rfl, rfl⟩, ⟨rfl, rfl, rfl⟩, ⟨rfl, rfl, rfl⟩, ⟨rfl, rfl, rfl⟩, ⟨rfl, rfl, rfl⟩, ⟨rfl, rfl, rfl⟩, trivial⟩) (ci := 5) rfl rfl rfl rfl (Nat.le_of_ble_eq_true rfl) ⟨Nat.le_of_ble_eq_true rfl, Nat.le_of_ble_eq_true rfl⟩ dX5_number_72 ⟨Nat.le_refl 0, Nat.le_refl 0⟩ (fun y4 => ?_)
      refine VF.iload_n C 1 dX5_number_75 rfl ?_
      refine VF.icmp_ne C 83 dX5_number_76 rfl (fun h4 => ?_) (fun h4 => ?_)
      · refine VF.iconst C dX5_number_83 kc_0 ?_
        exact VF.lvs [0, 2] rfl (k84 x2 0 f0)
      · refine VF.iconst C dX5_number_79 kc_1 ?_
        refine VF.goto C 84 dX5_number_80 rfl ?_
        exact VF.lvs [0, 2] rfl (k84 x2 1 f0)
  have k4 : ∀ (n : Nat) (x1 : Int32) (x2 : Int32) (x3 : Int32) (f0 : Fn), VF p l e { frames := 1, cells := 0, slots := 0, locals := 25 } s m ([.ref a0, .int u1] : List Value).toArray below meth c 0 0 D A 5 (fun r => MQ below (QcX ((fun y : Int32 × Fn => some (Value.int y.1)) r) D ((fun y : Int32 × Fn => [eM a0 a1 a2 a3 a4 a5 y.2, eA cI 200 a1 f1, eA cI 5 a2 f2, eA cI 5 a3 f3, eA cI 306 a4 f4, eA cI 612 a5 f5]) r) A) ([.ref a0, .int u1] : List Value).toArray s 0 0 A) (zX5_number_k4 n f0 f1 x1 x2 x3) [eM a0 a1 a2 a3 a4 a5 f0, eA cI 200 a1 f1, eA cI 5 a2 f2, eA cI 5 a3 f3, eA cI 306 a4 f4, eA cI 612 a5 f5] 4 [(0, .ref a0), (1, .int x1), (2, .int x2), (3, .int x3)] [] := by
    intro n
    induction n with
    | zero =>
      intro x1 x2 x3 f0
      exact VF.eq (zX5_number_k4.eq_1 _ _ _ _ _) VF.nn
    | succ n ih =>
      intro x1 x2 x3 f0
      refine VF.eq (zX5_number_k4.eq_2 _ _ _ _ _ _) ?_
      refine VF.iload_n C 3 dX5_number_4 rfl ?_
      refine VF.iconst C dX5_number_5 kc_2 ?_
      refine VF.icmp_ge C 63 dX5_number_6 rfl (fun h1 => ?_) (fun h1 => ?_)
      · exact k63 x1 x2 x3 f0
      · refine VF.aload_n C 0 dX5_number_9 rfl ?_
        refine VF.aload_n C 0 dX5_number_10 rfl ?_
        refine VF.get C fl_X5_47 0 rfl rfl dX5_number_11 ?_
        refine VF.callVi C (b := a0) (As := [.int (f0 2)]) (rest := []) lk_X5_50 (mtX5_byteAt l D cI cZ a0 a1 a2 a3 a4 a5 f0 f1 f2 f3 f4 f5 (f0 2)) (fun y => y) (fun _ => rfl) [some 0, some 1, some 2, some 3, some 4, some 5] ⟨rfl, rfl⟩ (ws' := fun y => [eM a0 a1 a2 a3 a4 a5 f0, eA cI 200 a1 f1, eA cI 5 a2 f2, eA cI 5 a3 f3, eA cI 306 a4 f4, eA cI 612 a5 f5]) (fun _ => ⟨⟨rfl, rfl, rfl⟩, ⟨rfl, rfl, rfl⟩, ⟨rfl, rfl, rfl⟩, ⟨rfl, rfl, rfl⟩, ⟨rfl, rfl, rfl⟩, ⟨rfl, rfl, rfl⟩, trivial⟩) (ci := 5) rfl rfl rfl rfl (Nat.le_of_ble_eq_true rfl) ⟨Nat.le_of_ble_eq_true rfl, Nat.le_of_ble_eq_true rfl⟩ dX5_number_14 ⟨Nat.le_refl 0, Nat.le_refl 0⟩ (fun y1 => ?_)
        refine VF.i2l C dX5_number_17 ?_
        refine VF.ldc2 C (v := 48) wc_X5_54 dX5_number_18 ?_
        refine VF.ldc2 C (v := 57) wc_X5_56 dX5_number_21 ?_
        refine VF.callSi C (As := [.long (Int32.toInt64 y1), .long (48 : Int64), .long (57 : Int64)]) (rest := []) lk_X5_40 (mtX5_in l D cI cZ (Int32.toInt64 y1) (48 : Int64) (57 : Int64)) (fun y => y) (fun _ => rfl) [none, none, none, none, none, none] ⟨rfl, rfl⟩ (ws' := fun y => [eM a0 a1 a2 a3 a4 a5 f0, eA cI 200 a1 f1, eA cI 5 a2 f2, eA cI 5 a3 f3, eA cI 306 a4 f4, eA cI 612 a5 f5]) (fun _ => ⟨rfl, rfl, rfl, rfl, rfl, rfl, trivial⟩) rfl rfl (Nat.le_of_ble_eq_true rfl) ⟨Nat.le_of_ble_eq_true rfl, Nat.le_of_ble_eq_true rfl⟩ dX5_number_24 ⟨Nat.le_refl 0, Nat.le_refl 0⟩ (fun y2 => ?_)
        refine VF.if_eq C 63 dX5_number_27 rfl (fun h2 => ?_) (fun h2 => ?_)
        · exact k63 x1 x2 x3 f0
        · refine VF.bipush C dX5_number_30 kb_10 ?_
          refine VF.iload_n C 2 dX5_number_32 rfl ?_
          refine VF.imul C dX5_number_33 ?_
          refine VF.aload_n C 0 dX5_number_34 rfl ?_
          refine VF.aload_n C 0 dX5_number_35 rfl ?_
          refine VF.get C fl_X5_47 0 rfl rfl dX5_number_36 ?_
          refine VF.callVi C (b := a0) (As := [.int (f0 2)]) (rest := [.int (10 * x2)]) lk_X5_50 (mtX5_byteAt l D cI cZ a0 a1 a2 a3 a4 a5 f0 f1 f2 f3 f4 f5 (f0 2)) (fun y => y) (fun _ => rfl) [some 0, some 1, some 2, some 3, some 4, some 5] ⟨rfl, rfl⟩ (ws' := fun y => [eM a0 a1 a2 a3 a4 a5 f0, eA cI 200 a1 f1, eA cI 5 a2 f2, eA cI 5 a3 f3, eA cI 306 a4 f4, eA cI 612 a5 f5]) (fun _ => ⟨⟨rfl, rfl, rfl⟩, ⟨rfl, rfl, rfl⟩, ⟨rfl, rfl, rfl⟩, ⟨rfl, rfl, rfl⟩, ⟨rfl, rfl, rfl⟩, ⟨rfl, rfl, rfl⟩, trivial⟩) (ci := 5) rfl rfl rfl rfl (Nat.le_of_ble_eq_true rfl) ⟨Nat.le_of_ble_eq_true rfl, Nat.le_of_ble_eq_true rfl⟩ dX5_number_39 ⟨Nat.le_refl 0, Nat.le_refl 0⟩ (fun y3 => ?_)
          refine VF.iadd C dX5_number_42 ?_
          refine VF.bipush C dX5_number_43 kb_48 ?_
          refine VF.isub C dX5_number_45 ?_
          refine VF.istore_n C [1, 2, 0, 3] dX5_number_46 rfl (Nat.le_of_ble_eq_true rfl) (lv' := [(0, .ref a0), (1, .int x1), (2, .int (((10 * x2) + y3) - 48)), (3, .int x3)]) rfl ?_
          refine VF.aload_n C 0 dX5_number_47 rfl ?_
          refine VF.dup C dX5_number_48 rfl ?_
          refine VF.get C fl_X5_47 0 rfl rfl dX5_number_49 ?_
          refine VF.iconst C dX5_number_52 kc_1 ?_
          refine VF.iadd C dX5_number_53 ?_
          refine VF.put C fl_X5_47 tyX5 tyX5_ok nmX5 0 rfl rfl rfl (Nat.le_of_ble_eq_true rfl) (ws' := [eM a0 a1 a2 a3 a4 a5 (upd f0 2 ((f0 2) + 1)), eA cI 200 a1 f1, eA cI 5 a2 f2, eA cI 5 a3 f3, eA cI 306 a4 f4, eA cI 612 a5 f5]) rfl dX5_number_54 ?_
          refine VF.iinc C 3 [1, 2, 3, 0] dX5_number_57 rfl (v := (x3 + 1)) rfl (Nat.le_of_ble_eq_true rfl) (lv' := [(0, .ref a0), (1, .int x1), (2, .int (((10 * x2) + y3) - 48)), (3, .int (x3 + 1))]) rfl ?_
          refine VF.goto C 4 dX5_number_60 rfl ?_
          exact ih x1 (((10 * x2) + y3) - 48) (x3 + 1) (upd f0 2 ((f0 2) + 1))
  refine VF.lve (lv' := [(0, .ref a0), (1, .int u1)]) rfl ?_
  refine VF.eq (zX5_number.eq_1 f0 f1 u1) ?_
  refine VF.iconst C dX5_number_0 kc_0 ?_
  refine VF.istore_n C [1, 2, 0] dX5_number_1 rfl (Nat.le_of_ble_eq_true rfl) (lv' := [(0, .ref a0), (1, .int u1), (2, .int 0)]) rfl ?_
  refine VF.iconst C dX5_number_2 kc_0 ?_
  refine VF.istore_n C [1, 2, 3, 0] dX5_number_3 rfl (Nat.le_of_ble_eq_true rfl) (lv' := [(0, .ref a0), (1, .int u1), (2, .int 0), (3, .int 0)]) rfl ?_
  exact k4 4096 u1 0 0 f0
set_option maxHeartbeats 4000000 in
set_option maxRecDepth 100000 in
theorem mtX5_sumOf (l : Launch) (D : va_G) (cI cZ : ClassId) (a0 : Nat) (f0 : Fn) : Ctr l yX5_sumOf cX5_sumOf 1 (some .int) 0 0 D cI cZ [.ref a0] [eA cI 5 a0 f0] (zX5_sumOf f0) (fun y : Int32 => some (Value.int y)) (fun _ : Int32 => [eA cI 5 a0 f0]) := by
  refine Ctr.of (by decide) (Nat.le_of_ble_eq_true rfl) ?_
  intro p e s m below meth c A C
  have C : CX p s m ([.ref a0] : List Value).toArray meth c cX5_sumOf 1 RX5 D cI cZ A (some .int) := C
  refine VF.lve (lv' := [(0, .ref a0)]) rfl ?_
  refine VF.eq (zX5_sumOf.eq_1 f0) ?_
  refine VF.aload_n C 0 dX5_sumOf_0 rfl ?_
  refine VF.iconst C dX5_sumOf_1 kc_0 ?_
  refine VF.ialdK C 0 0 li_0 (Nat.le_of_ble_eq_true rfl) (Nat.le_of_ble_eq_true rfl) rfl dX5_sumOf_2 ?_
  refine VF.aload_n C 0 dX5_sumOf_3 rfl ?_
  refine VF.iconst C dX5_sumOf_4 kc_1 ?_
  refine VF.ialdK C 0 1 li_1 (Nat.le_of_ble_eq_true rfl) (Nat.le_of_ble_eq_true rfl) rfl dX5_sumOf_5 ?_
  refine VF.iadd C dX5_sumOf_6 ?_
  refine VF.aload_n C 0 dX5_sumOf_7 rfl ?_
  refine VF.iconst C dX5_sumOf_8 kc_2 ?_
  refine VF.ialdK C 0 2 li_2 (Nat.le_of_ble_eq_true rfl) (Nat.le_of_ble_eq_true rfl) rfl dX5_sumOf_9 ?_
  refine VF.iadd C dX5_sumOf_10 ?_
  refine VF.aload_n C 0 dX5_sumOf_11 rfl ?_
  refine VF.iconst C dX5_sumOf_12 kc_3 ?_
  refine VF.ialdK C 0 3 li_3 (Nat.le_of_ble_eq_true rfl) (Nat.le_of_ble_eq_true rfl) rfl dX5_sumOf_13 ?_
  refine VF.iadd C dX5_sumOf_14 ?_
  refine VF.aload_n C 0 dX5_sumOf_15 rfl ?_
  refine VF.iconst C dX5_sumOf_16 kc_4 ?_
  refine VF.ialdK C 0 4 li_4 (Nat.le_of_ble_eq_true rfl) (Nat.le_of_ble_eq_true rfl) rfl dX5_sumOf_17 ?_
  refine VF.iadd C dX5_sumOf_18 ?_
  exact VF.iret C rfl rfl dX5_sumOf_19
set_option maxHeartbeats 4000000 in
set_option maxRecDepth 100000 in
theorem mtX5_sizes (l : Launch) (D : va_G) (cI cZ : ClassId) (a0 a1 a2 a3 a4 a5 : Nat) (f0 f1 f2 f3 f4 f5 : Fn) : Ctr l yX5_sizes cX5_sizes 4 (some .boolean) 2 49 D cI cZ [.ref a0] [eM a0 a1 a2 a3 a4 a5 f0, eA cI 200 a1 f1, eA cI 5 a2 f2, eA cI 5 a3 f3, eA cI 306 a4 f4, eA cI 612 a5 f5] (zX5_sizes f0 f1 f3) (fun y : Int32 × Fn × Fn => some (Value.int y.1)) (fun y : Int32 × Fn × Fn => [eM a0 a1 a2 a3 a4 a5 y.2.1, eA cI 200 a1 f1, eA cI 5 a2 f2, eA cI 5 a3 y.2.2, eA cI 306 a4 f4, eA cI 612 a5 f5]) := by
  refine Ctr.of (by decide) (Nat.le_of_ble_eq_true rfl) ?_
  intro p e s m below meth c A C
  have C : CX p s m ([.ref a0] : List Value).toArray meth c cX5_sizes 4 RX5 D cI cZ A (some .boolean) := C
  have k75 : ∀ (x1 : Int32) (x2 : Int32) (x3 : Int32) (f0 : Fn) (f3 : Fn), VF p l e { frames := 2, cells := 0, slots := 0, locals := 49 } s m ([.ref a0] : List Value).toArray below meth c 0 0 D A 4 (fun r => MQ below (QcX ((fun y : Int32 × Fn × Fn => some (Value.int y.1)) r) D ((fun y : Int32 × Fn × Fn => [eM a0 a1 a2 a3 a4 a5 y.2.1, eA cI 200 a1 f1, eA cI 5 a2 f2, eA cI 5 a3 y.2.2, eA cI 306 a4 f4, eA cI 612 a5 f5]) r) A) ([.ref a0] : List Value).toArray s 0 0 A) (zX5_sizes_k75 f0 f1 f3 x1 x2 x3) [eM a0 a1 a2 a3 a4 a5 f0, eA cI 200 a1 f1, eA cI 5 a2 f2, eA cI 5 a3 f3, eA cI 306 a4 f4, eA cI 612 a5 f5] 75 [(0, .ref a0), (1, .int x1), (2, .int x2), (3, .int x3)] [] := by
    intro x1 x2 x3 f0 f3
    refine VF.eq (zX5_sizes_k75.eq_1 f0 f1 f3 x1 x2 x3) ?_
    refine VF.iload_n C 3 dX5_sizes_75 rfl ?_
    refine VF.i2l C dX5_sizes_76 ?_
    refine VF.ldc2 C (v := 2) wc_X5_61 dX5_sizes_77 ?_
    refine VF.ldc2 C (v := 8) wc_X5_63 dX5_sizes_80 ?_
    refine VF.callSi C (As := [.long (Int32.toInt64 x3), .long (2 : Int64), .long (8 : Int64)]) (rest := []) lk_X5_40 (mtX5_in l D cI cZ (Int32.toInt64 x3) (2 : Int64) (8 : Int64)) (fun y => y) (fun _ => rfl) [none, none, none, none, none, none] ⟨rfl, rfl⟩ (ws' := fun y => [eM a0 a1 a2 a3 a4 a5 f0, eA cI 200 a1 f1, eA cI 5 a2 f2, eA cI 5 a3 f3, eA cI 306 a4 f4, eA cI 612 a5 f5]) (fun _ => ⟨rfl, rfl, rfl, rfl, rfl, rfl, trivial⟩) rfl rfl (Nat.le_of_ble_eq_true rfl) ⟨Nat.le_of_ble_eq_true rfl, Nat.le_of_ble_eq_true rfl⟩ dX5_sizes_83 ⟨Nat.le_refl 0, Nat.le_refl 0⟩ (fun y4 => ?_)
    refine VF.if_eq C 104 dX5_sizes_86 rfl (fun h7 => ?_) (fun h7 => ?_)
    · refine VF.iconst C dX5_sizes_104 kc_0 ?_
      exact VF.zretK C (Or.inl rfl) rfl rfl dX5_sizes_105
    · refine VF.iload_n C 1 dX5_sizes_89 rfl ?_
      refine VF.iload_n C 2 dX5_sizes_90 rfl ?_
      refine VF.imul C dX5_sizes_91 ?_
      refine VF.iload_n C 3 dX5_sizes_92 rfl ?_
      refine VF.imul C dX5_sizes_93 ?_
      refine VF.sipush C dX5_sizes_94 ks_256 ?_
      refine VF.icmp_gt C 104 dX5_sizes_97 rfl (fun h8 => ?_) (fun h8 => ?_)
      · refine VF.iconst C dX5_sizes_104 kc_0 ?_
        exact VF.zretK C (Or.inl rfl) rfl rfl dX5_sizes_105
      · refine VF.iconst C dX5_sizes_100 kc_1 ?_
        refine VF.goto C 105 dX5_sizes_101 rfl ?_
        exact VF.zretK C (Or.inr rfl) rfl rfl dX5_sizes_105
  have k59 : ∀ (x1 : Int32) (x2 : Int32) (x3 : Int32) (f0 : Fn) (f3 : Fn), VF p l e { frames := 2, cells := 0, slots := 0, locals := 49 } s m ([.ref a0] : List Value).toArray below meth c 0 0 D A 4 (fun r => MQ below (QcX ((fun y : Int32 × Fn × Fn => some (Value.int y.1)) r) D ((fun y : Int32 × Fn × Fn => [eM a0 a1 a2 a3 a4 a5 y.2.1, eA cI 200 a1 f1, eA cI 5 a2 f2, eA cI 5 a3 y.2.2, eA cI 306 a4 f4, eA cI 612 a5 f5]) r) A) ([.ref a0] : List Value).toArray s 0 0 A) (zX5_sizes_k59 f0 f1 f3 x1 x2 x3) [eM a0 a1 a2 a3 a4 a5 f0, eA cI 200 a1 f1, eA cI 5 a2 f2, eA cI 5 a3 f3, eA cI 306 a4 f4, eA cI 612 a5 f5] 59 [(0, .ref a0), (1, .int x1), (2, .int x2), (3, .int x3)] [] := by
    intro x1 x2 x3 f0 f3
    refine VF.eq (zX5_sizes_k59.eq_1 f0 f1 f3 x1 x2 x3) ?_
    refine VF.iload_n C 2 dX5_sizes_59 rfl ?_
    refine VF.iconst C dX5_sizes_60 kc_2 ?_
    refine VF.icmp_eq C 75 dX5_sizes_61 rfl (fun h4 => ?_) (fun h4 => ?_)
    · exact k75 x1 x2 x3 f0 f3
    · refine VF.iload_n C 2 dX5_sizes_64 rfl ?_
      refine VF.iconst C dX5_sizes_65 kc_4 ?_
      refine VF.icmp_eq C 75 dX5_sizes_66 rfl (fun h5 => ?_) (fun h5 => ?_)
      · exact k75 x1 x2 x3 f0 f3
      · refine VF.iload_n C 2 dX5_sizes_69 rfl ?_
        refine VF.bipush C dX5_sizes_70 kb_8 ?_
        refine VF.icmp_ne C 104 dX5_sizes_72 rfl (fun h6 => ?_) (fun h6 => ?_)
        · refine VF.iconst C dX5_sizes_104 kc_0 ?_
          exact VF.zretK C (Or.inl rfl) rfl rfl dX5_sizes_105
        · exact k75 x1 x2 x3 f0 f3
  refine VF.lve (lv' := [(0, .ref a0)]) rfl ?_
  refine VF.eq (zX5_sizes.eq_1 f0 f1 f3) ?_
  refine VF.aload_n C 0 dX5_sizes_0 rfl ?_
  refine VF.bipush C dX5_sizes_1 kb_44 ?_
  refine VF.callVi C (b := a0) (As := [.int 44]) (rest := []) lk_X5_58 (mtX5_number l D cI cZ a0 a1 a2 a3 a4 a5 f0 f1 f2 f3 f4 f5 44) (fun y => y.1) (fun _ => rfl) [some 0, some 1, some 2, some 3, some 4, some 5] ⟨rfl, rfl⟩ (ws' := fun y => [eM a0 a1 a2 a3 a4 a5 y.2, eA cI 200 a1 f1, eA cI 5 a2 f2, eA cI 5 a3 f3, eA cI 306 a4 f4, eA cI 612 a5 f5]) (fun _ => ⟨⟨rfl, rfl, rfl⟩, ⟨rfl, rfl, rfl⟩, ⟨rfl, rfl, rfl⟩, ⟨rfl, rfl, rfl⟩, ⟨rfl, rfl, rfl⟩, ⟨rfl, rfl, rfl⟩, trivial⟩) (ci := 5) rfl rfl rfl rfl (Nat.le_of_ble_eq_true rfl) ⟨Nat.le_of_ble_eq_true rfl, Nat.le_of_ble_eq_true rfl⟩ dX5_sizes_3 ⟨Nat.le_refl 0, Nat.le_refl 0⟩ (fun y1 => ?_)
  refine VF.istore_n C [1, 0] dX5_sizes_6 rfl (Nat.le_of_ble_eq_true rfl) (lv' := [(0, .ref a0), (1, .int y1.1)]) rfl ?_
  refine VF.aload_n C 0 dX5_sizes_7 rfl ?_
  refine VF.bipush C dX5_sizes_8 kb_44 ?_
  refine VF.callVi C (b := a0) (As := [.int 44]) (rest := []) lk_X5_58 (mtX5_number l D cI cZ a0 a1 a2 a3 a4 a5 y1.2 f1 f2 f3 f4 f5 44) (fun y => y.1) (fun _ => rfl) [some 0, some 1, some 2, some 3, some 4, some 5] ⟨rfl, rfl⟩ (ws' := fun y => [eM a0 a1 a2 a3 a4 a5 y.2, eA cI 200 a1 f1, eA cI 5 a2 f2, eA cI 5 a3 f3, eA cI 306 a4 f4, eA cI 612 a5 f5]) (fun _ => ⟨⟨rfl, rfl, rfl⟩, ⟨rfl, rfl, rfl⟩, ⟨rfl, rfl, rfl⟩, ⟨rfl, rfl, rfl⟩, ⟨rfl, rfl, rfl⟩, ⟨rfl, rfl, rfl⟩, trivial⟩) (ci := 5) rfl rfl rfl rfl (Nat.le_of_ble_eq_true rfl) ⟨Nat.le_of_ble_eq_true rfl, Nat.le_of_ble_eq_true rfl⟩ dX5_sizes_10 ⟨Nat.le_refl 0, Nat.le_refl 0⟩ (fun y2 => ?_)
  refine VF.istore_n C [1, 2, 0] dX5_sizes_13 rfl (Nat.le_of_ble_eq_true rfl) (lv' := [(0, .ref a0), (1, .int y1.1), (2, .int y2.1)]) rfl ?_
  refine VF.aload_n C 0 dX5_sizes_14 rfl ?_
  refine VF.bipush C dX5_sizes_15 kb_59 ?_
  refine VF.callVi C (b := a0) (As := [.int 59]) (rest := []) lk_X5_58 (mtX5_number l D cI cZ a0 a1 a2 a3 a4 a5 y2.2 f1 f2 f3 f4 f5 59) (fun y => y.1) (fun _ => rfl) [some 0, some 1, some 2, some 3, some 4, some 5] ⟨rfl, rfl⟩ (ws' := fun y => [eM a0 a1 a2 a3 a4 a5 y.2, eA cI 200 a1 f1, eA cI 5 a2 f2, eA cI 5 a3 f3, eA cI 306 a4 f4, eA cI 612 a5 f5]) (fun _ => ⟨⟨rfl, rfl, rfl⟩, ⟨rfl, rfl, rfl⟩, ⟨rfl, rfl, rfl⟩, ⟨rfl, rfl, rfl⟩, ⟨rfl, rfl, rfl⟩, ⟨rfl, rfl, rfl⟩, trivial⟩) (ci := 5) rfl rfl rfl rfl (Nat.le_of_ble_eq_true rfl) ⟨Nat.le_of_ble_eq_true rfl, Nat.le_of_ble_eq_true rfl⟩ dX5_sizes_17 ⟨Nat.le_refl 0, Nat.le_refl 0⟩ (fun y3 => ?_)
  refine VF.istore_n C [1, 2, 3, 0] dX5_sizes_20 rfl (Nat.le_of_ble_eq_true rfl) (lv' := [(0, .ref a0), (1, .int y1.1), (2, .int y2.1), (3, .int y3.1)]) rfl ?_
  refine VF.aload_n C 0 dX5_sizes_21 rfl ?_
  refine VF.get C fl_X5_16 0 rfl rfl dX5_sizes_22 ?_
  refine VF.iconst C dX5_sizes_25 kc_0 ?_
  refine VF.iload_n C 1 dX5_sizes_26 rfl ?_
  refine VF.iastK C 3 0 li_0 (Nat.le_of_ble_eq_true rfl) (Nat.le_of_ble_eq_true rfl) rfl (ws' := [eM a0 a1 a2 a3 a4 a5 y3.2, eA cI 200 a1 f1, eA cI 5 a2 f2, eA cI 5 a3 (upd f3 0 y1.1), eA cI 306 a4 f4, eA cI 612 a5 f5]) rfl dX5_sizes_27 ?_
  refine VF.aload_n C 0 dX5_sizes_28 rfl ?_
  refine VF.get C fl_X5_16 0 rfl rfl dX5_sizes_29 ?_
  refine VF.iconst C dX5_sizes_32 kc_1 ?_
  refine VF.iload_n C 2 dX5_sizes_33 rfl ?_
  refine VF.iastK C 3 1 li_1 (Nat.le_of_ble_eq_true rfl) (Nat.le_of_ble_eq_true rfl) rfl (ws' := [eM a0 a1 a2 a3 a4 a5 y3.2, eA cI 200 a1 f1, eA cI 5 a2 f2, eA cI 5 a3 (upd (upd f3 0 y1.1) 1 y2.1), eA cI 306 a4 f4, eA cI 612 a5 f5]) rfl dX5_sizes_34 ?_
  refine VF.aload_n C 0 dX5_sizes_35 rfl ?_
  refine VF.get C fl_X5_16 0 rfl rfl dX5_sizes_36 ?_
  refine VF.iconst C dX5_sizes_39 kc_2 ?_
  refine VF.iload_n C 3 dX5_sizes_40 rfl ?_
  refine VF.iastK C 3 2 li_2 (Nat.le_of_ble_eq_true rfl) (Nat.le_of_ble_eq_true rfl) rfl (ws' := [eM a0 a1 a2 a3 a4 a5 y3.2, eA cI 200 a1 f1, eA cI 5 a2 f2, eA cI 5 a3 (upd (upd (upd f3 0 y1.1) 1 y2.1) 2 y3.1), eA cI 306 a4 f4, eA cI 612 a5 f5]) rfl dX5_sizes_41 ?_
  refine VF.iload_n C 1 dX5_sizes_42 rfl ?_
  refine VF.iconst C dX5_sizes_43 kc_4 ?_
  refine VF.icmp_eq C 59 dX5_sizes_44 rfl (fun h1 => ?_) (fun h1 => ?_)
  · exact k59 y1.1 y2.1 y3.1 y3.2 (upd (upd (upd f3 0 y1.1) 1 y2.1) 2 y3.1)
  · refine VF.iload_n C 1 dX5_sizes_47 rfl ?_
    refine VF.bipush C dX5_sizes_48 kb_8 ?_
    refine VF.icmp_eq C 59 dX5_sizes_50 rfl (fun h2 => ?_) (fun h2 => ?_)
    · exact k59 y1.1 y2.1 y3.1 y3.2 (upd (upd (upd f3 0 y1.1) 1 y2.1) 2 y3.1)
    · refine VF.iload_n C 1 dX5_sizes_53 rfl ?_
      refine VF.bipush C dX5_sizes_54 kb_16 ?_
      refine VF.icmp_ne C 104 dX5_sizes_56 rfl (fun h3 => ?_) (fun h3 => ?_)
      · refine VF.iconst C dX5_sizes_104 kc_0 ?_
        exact VF.zretK C (Or.inl rfl) rfl rfl dX5_sizes_105
      · exact k59 y1.1 y2.1 y3.1 y3.2 (upd (upd (upd f3 0 y1.1) 1 y2.1) 2 y3.1)
set_option maxHeartbeats 4000000 in
set_option maxRecDepth 100000 in
theorem mtX5_item (l : Launch) (D : va_G) (cI cZ : ClassId) (a0 a1 a2 a3 a4 a5 : Nat) (f0 f1 f2 f3 f4 f5 : Fn) (u1 : Int32) : Ctr l yX5_item cX5_item 2 (some .boolean) 3 72 D cI cZ [.ref a0, .int u1] [eM a0 a1 a2 a3 a4 a5 f0, eA cI 200 a1 f1, eA cI 5 a2 f2, eA cI 5 a3 f3, eA cI 306 a4 f4, eA cI 612 a5 f5] (zX5_item f0 f1 f3 u1) (fun y : Int32 × Fn × Fn => some (Value.int y.1)) (fun y : Int32 × Fn × Fn => [eM a0 a1 a2 a3 a4 a5 y.2.1, eA cI 200 a1 f1, eA cI 5 a2 f2, eA cI 5 a3 y.2.2, eA cI 306 a4 f4, eA cI 612 a5 f5]) := by
  refine Ctr.of (by decide) (Nat.le_of_ble_eq_true rfl) ?_
  intro p e s m below meth c A C
  have C : CX p s m ([.ref a0, .int u1] : List Value).toArray meth c cX5_item 2 RX5 D cI cZ A (some .boolean) := C
  refine VF.lve (lv' := [(0, .ref a0), (1, .int u1)]) rfl ?_
  refine VF.eq (zX5_item.eq_1 f0 f1 f3 u1) ?_
  refine VF.aload_n C 0 dX5_item_0 rfl ?_
  refine VF.get C fl_X5_65 0 rfl rfl dX5_item_1 ?_
  refine VF.if_eq C 9 dX5_item_4 rfl (fun h1 => ?_) (fun h1 => ?_)
  · refine VF.iload_n C 1 dX5_item_9 rfl ?_
    refine VF.ite (fun h2 => ?_) (fun h2 => ?_)
    · refine VF.lookup (off := 103) C 113 dX5_item_10 (by decide) (by rw [h2]; decide) rfl ?_
      refine VF.aload_n C 0 dX5_item_113 rfl ?_
      refine VF.iconst C dX5_item_114 kc_1 ?_
      refine VF.putbK C fl_X5_65 tyX5 tyX5_ok nmX5 0 (Or.inr rfl) rfl rfl rfl (Nat.le_of_ble_eq_true rfl) (ws' := [eM a0 a1 a2 a3 a4 a5 (upd f0 5 1), eA cI 200 a1 f1, eA cI 5 a2 f2, eA cI 5 a3 f3, eA cI 306 a4 f4, eA cI 612 a5 f5]) rfl dX5_item_115 ?_
      refine VF.aload_n C 0 dX5_item_118 rfl ?_
      refine VF.bipush C dX5_item_119 kb_59 ?_
      refine VF.callVi C (b := a0) (As := [.int 59]) (rest := []) lk_X5_58 (mtX5_number l D cI cZ a0 a1 a2 a3 a4 a5 (upd f0 5 1) f1 f2 f3 f4 f5 59) (fun y => y.1) (fun _ => rfl) [some 0, some 1, some 2, some 3, some 4, some 5] ⟨rfl, rfl⟩ (ws' := fun y => [eM a0 a1 a2 a3 a4 a5 y.2, eA cI 200 a1 f1, eA cI 5 a2 f2, eA cI 5 a3 f3, eA cI 306 a4 f4, eA cI 612 a5 f5]) (fun _ => ⟨⟨rfl, rfl, rfl⟩, ⟨rfl, rfl, rfl⟩, ⟨rfl, rfl, rfl⟩, ⟨rfl, rfl, rfl⟩, ⟨rfl, rfl, rfl⟩, ⟨rfl, rfl, rfl⟩, trivial⟩) (ci := 5) rfl rfl rfl rfl (Nat.le_of_ble_eq_true rfl) ⟨Nat.le_of_ble_eq_true rfl, Nat.le_of_ble_eq_true rfl⟩ dX5_item_121 ⟨Nat.le_refl 0, Nat.le_refl 0⟩ (fun y1 => ?_)
      refine VF.aload_n C 0 dX5_item_124 rfl ?_
      refine VF.get C fl_X5_16 0 rfl rfl dX5_item_125 ?_
      refine VF.callSi C (As := [.ref a3]) (rest := [.int y1.1]) lk_X5_77 (mtX5_sumOf l D cI cZ a3 f3) (fun y => y) (fun _ => rfl) [none, none, none, some 0, none, none] ⟨rfl, rfl⟩ (ws' := fun y => [eM a0 a1 a2 a3 a4 a5 y1.2, eA cI 200 a1 f1, eA cI 5 a2 f2, eA cI 5 a3 f3, eA cI 306 a4 f4, eA cI 612 a5 f5]) (fun _ => ⟨rfl, rfl, rfl, ⟨rfl, rfl, rfl⟩, rfl, rfl, trivial⟩) rfl rfl (Nat.le_of_ble_eq_true rfl) ⟨Nat.le_of_ble_eq_true rfl, Nat.le_of_ble_eq_true rfl⟩ dX5_item_128 ⟨Nat.le_refl 0, Nat.le_refl 0⟩ (fun y2 => ?_)
      refine VF.bipush C dX5_item_131 kb_97 ?_
      refine VF.iremK C (by decide) dX5_item_133 ?_
      refine VF.icmp_ne C 141 dX5_item_134 rfl (fun h3 => ?_) (fun h3 => ?_)
      · refine VF.iconst C dX5_item_141 kc_0 ?_
        exact VF.zretK C (Or.inl rfl) rfl rfl dX5_item_142
      · refine VF.iconst C dX5_item_137 kc_1 ?_
        refine VF.goto C 142 dX5_item_138 rfl ?_
        exact VF.zretK C (Or.inr rfl) rfl rfl dX5_item_142
    refine VF.ite (fun h4 => ?_) (fun h4 => ?_)
    · refine VF.lookup (off := 34) C 44 dX5_item_10 (by decide) (by rw [h4]; decide) rfl ?_
      refine VF.aload_n C 0 dX5_item_44 rfl ?_
      refine VF.callVi C (b := a0) (As := []) (rest := []) lk_X5_69 (mtX5_sizes l D cI cZ a0 a1 a2 a3 a4 a5 f0 f1 f2 f3 f4 f5) (fun y => y.1) (fun _ => rfl) [some 0, some 1, some 2, some 3, some 4, some 5] ⟨rfl, rfl⟩ (ws' := fun y => [eM a0 a1 a2 a3 a4 a5 y.2.1, eA cI 200 a1 f1, eA cI 5 a2 f2, eA cI 5 a3 y.2.2, eA cI 306 a4 f4, eA cI 612 a5 f5]) (fun _ => ⟨⟨rfl, rfl, rfl⟩, ⟨rfl, rfl, rfl⟩, ⟨rfl, rfl, rfl⟩, ⟨rfl, rfl, rfl⟩, ⟨rfl, rfl, rfl⟩, ⟨rfl, rfl, rfl⟩, trivial⟩) (ci := 5) rfl rfl rfl rfl (Nat.le_of_ble_eq_true rfl) ⟨Nat.le_of_ble_eq_true rfl, Nat.le_of_ble_eq_true rfl⟩ dX5_item_45 ⟨Nat.le_refl 0, Nat.le_refl 0⟩ (fun y3 => ?_)
      exact VF.zret C rfl rfl dX5_item_48
    refine VF.ite (fun h5 => ?_) (fun h5 => ?_)
    · refine VF.lookup (off := 39) C 49 dX5_item_10 (by decide) (by rw [h5]; decide) rfl ?_
      refine VF.aload_n C 0 dX5_item_49 rfl ?_
      refine VF.get C fl_X5_16 0 rfl rfl dX5_item_50 ?_
      refine VF.iconst C dX5_item_53 kc_3 ?_
      refine VF.aload_n C 0 dX5_item_54 rfl ?_
      refine VF.bipush C dX5_item_55 kb_44 ?_
      refine VF.callVi C (b := a0) (As := [.int 44]) (rest := [.int 3, .ref a3]) lk_X5_58 (mtX5_number l D cI cZ a0 a1 a2 a3 a4 a5 f0 f1 f2 f3 f4 f5 44) (fun y => y.1) (fun _ => rfl) [some 0, some 1, some 2, some 3, some 4, some 5] ⟨rfl, rfl⟩ (ws' := fun y => [eM a0 a1 a2 a3 a4 a5 y.2, eA cI 200 a1 f1, eA cI 5 a2 f2, eA cI 5 a3 f3, eA cI 306 a4 f4, eA cI 612 a5 f5]) (fun _ => ⟨⟨rfl, rfl, rfl⟩, ⟨rfl, rfl, rfl⟩, ⟨rfl, rfl, rfl⟩, ⟨rfl, rfl, rfl⟩, ⟨rfl, rfl, rfl⟩, ⟨rfl, rfl, rfl⟩, trivial⟩) (ci := 5) rfl rfl rfl rfl (Nat.le_of_ble_eq_true rfl) ⟨Nat.le_of_ble_eq_true rfl, Nat.le_of_ble_eq_true rfl⟩ dX5_item_57 ⟨Nat.le_refl 0, Nat.le_refl 0⟩ (fun y4 => ?_)
      refine VF.iastK C 3 3 li_3 (Nat.le_of_ble_eq_true rfl) (Nat.le_of_ble_eq_true rfl) rfl (ws' := [eM a0 a1 a2 a3 a4 a5 y4.2, eA cI 200 a1 f1, eA cI 5 a2 f2, eA cI 5 a3 (upd f3 3 y4.1), eA cI 306 a4 f4, eA cI 612 a5 f5]) rfl dX5_item_60 ?_
      refine VF.aload_n C 0 dX5_item_61 rfl ?_
      refine VF.get C fl_X5_16 0 rfl rfl dX5_item_62 ?_
      refine VF.iconst C dX5_item_65 kc_4 ?_
      refine VF.aload_n C 0 dX5_item_66 rfl ?_
      refine VF.bipush C dX5_item_67 kb_59 ?_
      refine VF.callVi C (b := a0) (As := [.int 59]) (rest := [.int 4, .ref a3]) lk_X5_58 (mtX5_number l D cI cZ a0 a1 a2 a3 a4 a5 y4.2 f1 f2 (upd f3 3 y4.1) f4 f5 59) (fun y => y.1) (fun _ => rfl) [some 0, some 1, some 2, some 3, some 4, some 5] ⟨rfl, rfl⟩ (ws' := fun y => [eM a0 a1 a2 a3 a4 a5 y.2, eA cI 200 a1 f1, eA cI 5 a2 f2, eA cI 5 a3 (upd f3 3 y4.1), eA cI 306 a4 f4, eA cI 612 a5 f5]) (fun _ => ⟨⟨rfl, rfl, rfl⟩, ⟨rfl, rfl, rfl⟩, ⟨rfl, rfl, rfl⟩, ⟨rfl, rfl, rfl⟩, ⟨rfl, rfl, rfl⟩, ⟨rfl, rfl, rfl⟩, trivial⟩) (ci := 5) rfl rfl rfl rfl (Nat.le_of_ble_eq_true rfl) ⟨Nat.le_of_ble_eq_true rfl, Nat.le_of_ble_eq_true rfl⟩ dX5_item_69 ⟨Nat.le_refl 0, Nat.le_refl 0⟩ (fun y5 => ?_)
      refine VF.iastK C 3 4 li_4 (Nat.le_of_ble_eq_true rfl) (Nat.le_of_ble_eq_true rfl) rfl (ws' := [eM a0 a1 a2 a3 a4 a5 y5.2, eA cI 200 a1 f1, eA cI 5 a2 f2, eA cI 5 a3 (upd (upd f3 3 y4.1) 4 y5.1), eA cI 306 a4 f4, eA cI 612 a5 f5]) rfl dX5_item_72 ?_
      refine VF.aload_n C 0 dX5_item_73 rfl ?_
      refine VF.get C fl_X5_16 0 rfl rfl dX5_item_74 ?_
      refine VF.iconst C dX5_item_77 kc_3 ?_
      refine VF.ialdK C 3 3 li_3 (Nat.le_of_ble_eq_true rfl) (Nat.le_of_ble_eq_true rfl) rfl dX5_item_78 ?_
      refine VF.i2l C dX5_item_79 ?_
      refine VF.lconst (v := 1) C dX5_item_80 (by decide) ?_
      refine VF.ldc2 C (v := 9) wc_X5_73 dX5_item_81 ?_
      refine VF.callSi C (As := [.long (Int32.toInt64 ((upd (upd f3 3 y4.1) 4 y5.1) 3)), .long (1 : Int64), .long (9 : Int64)]) (rest := []) lk_X5_40 (mtX5_in l D cI cZ (Int32.toInt64 ((upd (upd f3 3 y4.1) 4 y5.1) 3)) (1 : Int64) (9 : Int64)) (fun y => y) (fun _ => rfl) [none, none, none, none, none, none] ⟨rfl, rfl⟩ (ws' := fun y => [eM a0 a1 a2 a3 a4 a5 y5.2, eA cI 200 a1 f1, eA cI 5 a2 f2, eA cI 5 a3 (upd (upd f3 3 y4.1) 4 y5.1), eA cI 306 a4 f4, eA cI 612 a5 f5]) (fun _ => ⟨rfl, rfl, rfl, rfl, rfl, rfl, trivial⟩) rfl rfl (Nat.le_of_ble_eq_true rfl) ⟨Nat.le_of_ble_eq_true rfl, Nat.le_of_ble_eq_true rfl⟩ dX5_item_84 ⟨Nat.le_refl 0, Nat.le_refl 0⟩ (fun y6 => ?_)
      refine VF.if_eq C 111 dX5_item_87 rfl (fun h6 => ?_) (fun h6 => ?_)
      · refine VF.iconst C dX5_item_111 kc_0 ?_
        exact VF.zretK C (Or.inl rfl) rfl rfl dX5_item_112
      · refine VF.aload_n C 0 dX5_item_90 rfl ?_
        refine VF.get C fl_X5_16 0 rfl rfl dX5_item_91 ?_
        refine VF.iconst C dX5_item_94 kc_4 ?_
        refine VF.ialdK C 3 4 li_4 (Nat.le_of_ble_eq_true rfl) (Nat.le_of_ble_eq_true rfl) rfl dX5_item_95 ?_
        refine VF.i2l C dX5_item_96 ?_
        refine VF.lconst (v := 1) C dX5_item_97 (by decide) ?_
        refine VF.ldc2 C (v := 20) wc_X5_75 dX5_item_98 ?_
        refine VF.callSi C (As := [.long (Int32.toInt64 ((upd (upd f3 3 y4.1) 4 y5.1) 4)), .long (1 : Int64), .long (20 : Int64)]) (rest := []) lk_X5_40 (mtX5_in l D cI cZ (Int32.toInt64 ((upd (upd f3 3 y4.1) 4 y5.1) 4)) (1 : Int64) (20 : Int64)) (fun y => y) (fun _ => rfl) [none, none, none, none, none, none] ⟨rfl, rfl⟩ (ws' := fun y => [eM a0 a1 a2 a3 a4 a5 y5.2, eA cI 200 a1 f1, eA cI 5 a2 f2, eA cI 5 a3 (upd (upd f3 3 y4.1) 4 y5.1), eA cI 306 a4 f4, eA cI 612 a5 f5]) (fun _ => ⟨rfl, rfl, rfl, rfl, rfl, rfl, trivial⟩) rfl rfl (Nat.le_of_ble_eq_true rfl) ⟨Nat.le_of_ble_eq_true rfl, Nat.le_of_ble_eq_true rfl⟩ dX5_item_101 ⟨Nat.le_refl 0, Nat.le_refl 0⟩ (fun y7 => ?_)
        refine VF.if_eq C 111 dX5_item_104 rfl (fun h7 => ?_) (fun h7 => ?_)
        · refine VF.iconst C dX5_item_111 kc_0 ?_
          exact VF.zretK C (Or.inl rfl) rfl rfl dX5_item_112
        · refine VF.iconst C dX5_item_107 kc_1 ?_
          refine VF.goto C 112 dX5_item_108 rfl ?_
          exact VF.zretK C (Or.inr rfl) rfl rfl dX5_item_112
    refine VF.lookup (off := 133) C 143 dX5_item_10 (by decide) (Eq.trans (lv_osw h2 (k := 99) rfl) (Eq.trans (lv_osw h4 (k := 103) rfl) (Eq.trans (lv_osw h5 (k := 116) rfl) (rfl)))) rfl ?_
    refine VF.iconst C dX5_item_143 kc_0 ?_
    exact VF.zretK C (Or.inl rfl) rfl rfl dX5_item_144
  · refine VF.iconst C dX5_item_7 kc_0 ?_
    exact VF.zretK C (Or.inl rfl) rfl rfl dX5_item_8
set_option maxHeartbeats 4000000 in
set_option maxRecDepth 100000 in
theorem mtX5_fault (l : Launch) (D : va_G) (cI cZ : ClassId) (a0 a1 a2 a3 a4 a5 : Nat) (f0 f1 f2 f3 f4 f5 : Fn) : Ctr l yX5_fault cX5_fault 2 (some .int) 4 93 D cI cZ [.ref a0] [eM a0 a1 a2 a3 a4 a5 f0, eA cI 200 a1 f1, eA cI 5 a2 f2, eA cI 5 a3 f3, eA cI 306 a4 f4, eA cI 612 a5 f5] (zX5_fault f0 f1 f3) (fun y : Int32 × Fn × Fn => some (Value.int y.1)) (fun y : Int32 × Fn × Fn => [eM a0 a1 a2 a3 a4 a5 y.2.1, eA cI 200 a1 f1, eA cI 5 a2 f2, eA cI 5 a3 y.2.2, eA cI 306 a4 f4, eA cI 612 a5 f5]) := by
  refine Ctr.of (by decide) (Nat.le_of_ble_eq_true rfl) ?_
  intro p e s m below meth c A C
  have C : CX p s m ([.ref a0] : List Value).toArray meth c cX5_fault 2 RX5 D cI cZ A (some .int) := C
  have k17 : ∀ (n : Nat) (f0 : Fn) (f3 : Fn), VF p l e { frames := 4, cells := 0, slots := 0, locals := 93 } s m ([.ref a0] : List Value).toArray below meth c 0 0 D A 2 (fun r => MQ below (QcX ((fun y : Int32 × Fn × Fn => some (Value.int y.1)) r) D ((fun y : Int32 × Fn × Fn => [eM a0 a1 a2 a3 a4 a5 y.2.1, eA cI 200 a1 f1, eA cI 5 a2 f2, eA cI 5 a3 y.2.2, eA cI 306 a4 f4, eA cI 612 a5 f5]) r) A) ([.ref a0] : List Value).toArray s 0 0 A) (zX5_fault_k17 n f0 f1 f3) [eM a0 a1 a2 a3 a4 a5 f0, eA cI 200 a1 f1, eA cI 5 a2 f2, eA cI 5 a3 f3, eA cI 306 a4 f4, eA cI 612 a5 f5] 17 [(0, .ref a0)] [] := by
    intro n
    induction n with
    | zero =>
      intro f0 f3
      exact VF.eq (zX5_fault_k17.eq_1 _ _ _) VF.nn
    | succ n ih =>
      intro f0 f3
      refine VF.eq (zX5_fault_k17.eq_2 _ _ _ _) ?_
      refine VF.aload_n C 0 dX5_fault_17 rfl ?_
      refine VF.get C fl_X5_47 0 rfl rfl dX5_fault_18 ?_
      refine VF.aload_n C 0 dX5_fault_21 rfl ?_
      refine VF.get C fl_X5_44 0 rfl rfl dX5_fault_22 ?_
      refine VF.icmp_ge C 61 dX5_fault_25 rfl (fun h1 => ?_) (fun h1 => ?_)
      · refine VF.bipush C dX5_fault_61 kb_m4 ?_
        exact VF.iret C rfl rfl dX5_fault_63
      · refine VF.aload_n C 0 dX5_fault_28 rfl ?_
        refine VF.get C fl_X5_47 0 rfl rfl dX5_fault_29 ?_
        refine VF.istore_n C [1, 0] dX5_fault_32 rfl (Nat.le_of_ble_eq_true rfl) (lv' := [(0, .ref a0), (1, .int (f0 2))]) rfl ?_
        refine VF.aload_n C 0 dX5_fault_33 rfl ?_
        refine VF.dup C dX5_fault_34 rfl ?_
        refine VF.get C fl_X5_47 0 rfl rfl dX5_fault_35 ?_
        refine VF.iconst C dX5_fault_38 kc_1 ?_
        refine VF.iadd C dX5_fault_39 ?_
        refine VF.put C fl_X5_47 tyX5 tyX5_ok nmX5 0 rfl rfl rfl (Nat.le_of_ble_eq_true rfl) (ws' := [eM a0 a1 a2 a3 a4 a5 (upd f0 2 ((f0 2) + 1)), eA cI 200 a1 f1, eA cI 5 a2 f2, eA cI 5 a3 f3, eA cI 306 a4 f4, eA cI 612 a5 f5]) rfl dX5_fault_40 ?_
        refine VF.aload_n C 0 dX5_fault_43 rfl ?_
        refine VF.aload_n C 0 dX5_fault_44 rfl ?_
        refine VF.get C fl_X5_7 0 rfl rfl dX5_fault_45 ?_
        refine VF.iload_n C 1 dX5_fault_48 rfl ?_
        refine VF.iald C 1 rfl dX5_fault_49 ?_
        refine VF.callVi C (b := a0) (As := [.int (f1 (ix (f0 2)))]) (rest := []) lk_X5_81 (mtX5_item l D cI cZ a0 a1 a2 a3 a4 a5 (upd f0 2 ((f0 2) + 1)) f1 f2 f3 f4 f5 (f1 (ix (f0 2)))) (fun y => y.1) (fun _ => rfl) [some 0, some 1, some 2, some 3, some 4, some 5] ⟨rfl, rfl⟩ (ws' := fun y => [eM a0 a1 a2 a3 a4 a5 y.2.1, eA cI 200 a1 f1, eA cI 5 a2 f2, eA cI 5 a3 y.2.2, eA cI 306 a4 f4, eA cI 612 a5 f5]) (fun _ => ⟨⟨rfl, rfl, rfl⟩, ⟨rfl, rfl, rfl⟩, ⟨rfl, rfl, rfl⟩, ⟨rfl, rfl, rfl⟩, ⟨rfl, rfl, rfl⟩, ⟨rfl, rfl, rfl⟩, trivial⟩) (ci := 5) rfl rfl rfl rfl (Nat.le_of_ble_eq_true rfl) ⟨Nat.le_of_ble_eq_true rfl, Nat.le_of_ble_eq_true rfl⟩ dX5_fault_50 ⟨Nat.le_refl 0, Nat.le_refl 0⟩ (fun y2 => ?_)
        refine VF.if_ne C 58 dX5_fault_53 rfl (fun h2 => ?_) (fun h2 => ?_)
        · refine VF.goto C 17 dX5_fault_58 rfl ?_
          exact VF.lvs [0] rfl (ih y2.2.1 y2.2.2)
        · refine VF.iload_n C 1 dX5_fault_56 rfl ?_
          exact VF.iret C rfl rfl dX5_fault_57
  refine VF.lve (lv' := [(0, .ref a0)]) rfl ?_
  refine VF.eq (zX5_fault.eq_1 f0 f1 f3) ?_
  refine VF.aload_n C 0 dX5_fault_0 rfl ?_
  refine VF.get C fl_X5_16 0 rfl rfl dX5_fault_1 ?_
  refine VF.callSv C (As := [.ref a3]) (rest := []) lk_X5_25 (mtX5_plain l D cI cZ a3 f3) (fun _ => rfl) [none, none, none, some 0, none, none] ⟨rfl, rfl⟩ (ws' := fun y => [eM a0 a1 a2 a3 a4 a5 f0, eA cI 200 a1 f1, eA cI 5 a2 f2, eA cI 5 a3 y, eA cI 306 a4 f4, eA cI 612 a5 f5]) (fun _ => ⟨rfl, rfl, rfl, ⟨rfl, rfl, rfl⟩, rfl, rfl, trivial⟩) rfl rfl (Nat.le_of_ble_eq_true rfl) ⟨Nat.le_of_ble_eq_true rfl, Nat.le_of_ble_eq_true rfl⟩ dX5_fault_4 ⟨Nat.le_refl 0, Nat.le_refl 0⟩ (fun y1 => ?_)
  refine VF.aload_n C 0 dX5_fault_7 rfl ?_
  refine VF.iconst C dX5_fault_8 kc_0 ?_
  refine VF.putbK C fl_X5_65 tyX5 tyX5_ok nmX5 0 (Or.inl rfl) rfl rfl rfl (Nat.le_of_ble_eq_true rfl) (ws' := [eM a0 a1 a2 a3 a4 a5 (upd f0 5 0), eA cI 200 a1 f1, eA cI 5 a2 f2, eA cI 5 a3 y1, eA cI 306 a4 f4, eA cI 612 a5 f5]) rfl dX5_fault_9 ?_
  refine VF.aload_n C 0 dX5_fault_12 rfl ?_
  refine VF.iconst C dX5_fault_13 kc_0 ?_
  refine VF.put C fl_X5_47 tyX5 tyX5_ok nmX5 0 rfl rfl rfl (Nat.le_of_ble_eq_true rfl) (ws' := [eM a0 a1 a2 a3 a4 a5 (upd (upd f0 5 0) 2 0), eA cI 200 a1 f1, eA cI 5 a2 f2, eA cI 5 a3 y1, eA cI 306 a4 f4, eA cI 612 a5 f5]) rfl dX5_fault_14 ?_
  exact k17 4096 (upd (upd f0 5 0) 2 0) y1
set_option maxHeartbeats 4000000 in
set_option maxRecDepth 100000 in
theorem mtX5_all (l : Launch) (D : va_G) (cI cZ : ClassId) (a0 a1 a2 a3 a4 a5 : Nat) (f0 f1 f2 f3 f4 f5 : Fn) : Ctr l yX5_all cX5_all 1 (some .int) 0 0 D cI cZ [.ref a0] [eM a0 a1 a2 a3 a4 a5 f0, eA cI 200 a1 f1, eA cI 5 a2 f2, eA cI 5 a3 f3, eA cI 306 a4 f4, eA cI 612 a5 f5] (zX5_all f2) (fun y : Int32 => some (Value.int y)) (fun _ : Int32 => [eM a0 a1 a2 a3 a4 a5 f0, eA cI 200 a1 f1, eA cI 5 a2 f2, eA cI 5 a3 f3, eA cI 306 a4 f4, eA cI 612 a5 f5]) := by
  refine Ctr.of (by decide) (Nat.le_of_ble_eq_true rfl) ?_
  intro p e s m below meth c A C
  have C : CX p s m ([.ref a0] : List Value).toArray meth c cX5_all 1 RX5 D cI cZ A (some .int) := C
  refine VF.lve (lv' := [(0, .ref a0)]) rfl ?_
  refine VF.eq (zX5_all.eq_1 f2) ?_
  refine VF.aload_n C 0 dX5_all_0 rfl ?_
  refine VF.get C fl_X5_13 0 rfl rfl dX5_all_1 ?_
  refine VF.iconst C dX5_all_4 kc_0 ?_
  refine VF.ialdK C 2 0 li_0 (Nat.le_of_ble_eq_true rfl) (Nat.le_of_ble_eq_true rfl) rfl dX5_all_5 ?_
  refine VF.aload_n C 0 dX5_all_6 rfl ?_
  refine VF.get C fl_X5_13 0 rfl rfl dX5_all_7 ?_
  refine VF.iconst C dX5_all_10 kc_1 ?_
  refine VF.ialdK C 2 1 li_1 (Nat.le_of_ble_eq_true rfl) (Nat.le_of_ble_eq_true rfl) rfl dX5_all_11 ?_
  refine VF.imul C dX5_all_12 ?_
  refine VF.aload_n C 0 dX5_all_13 rfl ?_
  refine VF.get C fl_X5_13 0 rfl rfl dX5_all_14 ?_
  refine VF.iconst C dX5_all_17 kc_2 ?_
  refine VF.ialdK C 2 2 li_2 (Nat.le_of_ble_eq_true rfl) (Nat.le_of_ble_eq_true rfl) rfl dX5_all_18 ?_
  refine VF.imul C dX5_all_19 ?_
  exact VF.iret C rfl rfl dX5_all_20
set_option maxHeartbeats 4000000 in
set_option maxRecDepth 100000 in
theorem mtX5_lay (l : Launch) (D : va_G) (cI cZ : ClassId) (a0 a1 a2 a3 a4 a5 : Nat) (f0 f1 f2 f3 f4 f5 : Fn) : Ctr l yX5_lay cX5_lay 2 (some .int) 5 114 D cI cZ [.ref a0] [eM a0 a1 a2 a3 a4 a5 f0, eA cI 200 a1 f1, eA cI 5 a2 f2, eA cI 5 a3 f3, eA cI 306 a4 f4, eA cI 612 a5 f5] (zX5_lay f0 f1 f2 f3 f4) (fun y : Int32 × Fn × Fn × Fn × Fn => some (Value.int y.1)) (fun y : Int32 × Fn × Fn × Fn × Fn => [eM a0 a1 a2 a3 a4 a5 y.2.1, eA cI 200 a1 f1, eA cI 5 a2 y.2.2.1, eA cI 5 a3 y.2.2.2.1, eA cI 306 a4 y.2.2.2.2, eA cI 612 a5 f5]) := by
  refine Ctr.of (by decide) (Nat.le_of_ble_eq_true rfl) ?_
  intro p e s m below meth c A C
  have C : CX p s m ([.ref a0] : List Value).toArray meth c cX5_lay 2 RX5 D cI cZ A (some .int) := C
  have k21 : ∀ (n : Nat) (x1 : Int32) (f0 : Fn) (f2 : Fn) (f3 : Fn) (f4 : Fn), VF p l e { frames := 5, cells := 0, slots := 0, locals := 114 } s m ([.ref a0] : List Value).toArray below meth c 0 0 D A 2 (fun r => MQ below (QcX ((fun y : Int32 × Fn × Fn × Fn × Fn => some (Value.int y.1)) r) D ((fun y : Int32 × Fn × Fn × Fn × Fn => [eM a0 a1 a2 a3 a4 a5 y.2.1, eA cI 200 a1 f1, eA cI 5 a2 y.2.2.1, eA cI 5 a3 y.2.2.2.1, eA cI 306 a4 y.2.2.2.2, eA cI 612 a5 f5]) r) A) ([.ref a0] : List Value).toArray s 0 0 A) (zX5_lay_k21 n f0 f1 f2 f3 f4 x1) [eM a0 a1 a2 a3 a4 a5 f0, eA cI 200 a1 f1, eA cI 5 a2 f2, eA cI 5 a3 f3, eA cI 306 a4 f4, eA cI 612 a5 f5] 21 [(0, .ref a0), (1, .int x1)] [] := by
    intro n
    induction n with
    | zero =>
      intro x1 f0 f2 f3 f4
      exact VF.eq (zX5_lay_k21.eq_1 _ _ _ _ _ _) VF.nn
    | succ n ih =>
      intro x1 f0 f2 f3 f4
      refine VF.eq (zX5_lay_k21.eq_2 _ _ _ _ _ _ _) ?_
      refine VF.iload_n C 1 dX5_lay_21 rfl ?_
      refine VF.iconst C dX5_lay_22 kc_5 ?_
      refine VF.icmp_ge C 44 dX5_lay_23 rfl (fun h3 => ?_) (fun h3 => ?_)
      · refine VF.aload_n C 0 dX5_lay_44 rfl ?_
        refine VF.callVv C (b := a0) (As := []) (rest := []) lk_X5_29 (mtX5_anew l D cI cZ a0 a1 a2 a3 a4 a5 f0 f1 f2 f3 f4 f5) (fun _ => rfl) [some 0, some 1, some 2, some 3, some 4, some 5] ⟨rfl, rfl⟩ (ws' := fun y => [eM a0 a1 a2 a3 a4 a5 y.1, eA cI 200 a1 f1, eA cI 5 a2 f2, eA cI 5 a3 f3, eA cI 306 a4 y.2, eA cI 612 a5 f5]) (fun _ => ⟨⟨rfl, rfl, rfl⟩, ⟨rfl, rfl, rfl⟩, ⟨rfl, rfl, rfl⟩, ⟨rfl, rfl, rfl⟩, ⟨rfl, rfl, rfl⟩, ⟨rfl, rfl, rfl⟩, trivial⟩) (ci := 5) rfl rfl rfl rfl (Nat.le_of_ble_eq_true rfl) ⟨Nat.le_of_ble_eq_true rfl, Nat.le_of_ble_eq_true rfl⟩ dX5_lay_45 ⟨Nat.le_refl 0, Nat.le_refl 0⟩ (fun y2 => ?_)
        refine VF.aload_n C 0 dX5_lay_48 rfl ?_
        refine VF.callVi C (b := a0) (As := []) (rest := []) lk_X5_89 (mtX5_all l D cI cZ a0 a1 a2 a3 a4 a5 y2.1 f1 f2 f3 y2.2 f5) (fun y => y) (fun _ => rfl) [some 0, some 1, some 2, some 3, some 4, some 5] ⟨rfl, rfl⟩ (ws' := fun y => [eM a0 a1 a2 a3 a4 a5 y2.1, eA cI 200 a1 f1, eA cI 5 a2 f2, eA cI 5 a3 f3, eA cI 306 a4 y2.2, eA cI 612 a5 f5]) (fun _ => ⟨⟨rfl, rfl, rfl⟩, ⟨rfl, rfl, rfl⟩, ⟨rfl, rfl, rfl⟩, ⟨rfl, rfl, rfl⟩, ⟨rfl, rfl, rfl⟩, ⟨rfl, rfl, rfl⟩, trivial⟩) (ci := 5) rfl rfl rfl rfl (Nat.le_of_ble_eq_true rfl) ⟨Nat.le_of_ble_eq_true rfl, Nat.le_of_ble_eq_true rfl⟩ dX5_lay_49 ⟨Nat.le_refl 0, Nat.le_refl 0⟩ (fun y3 => ?_)
        exact VF.iret C rfl rfl dX5_lay_52
      · refine VF.aload_n C 0 dX5_lay_26 rfl ?_
        refine VF.get C fl_X5_13 0 rfl rfl dX5_lay_27 ?_
        refine VF.iload_n C 1 dX5_lay_30 rfl ?_
        refine VF.aload_n C 0 dX5_lay_31 rfl ?_
        refine VF.get C fl_X5_16 0 rfl rfl dX5_lay_32 ?_
        refine VF.iload_n C 1 dX5_lay_35 rfl ?_
        refine VF.iald C 3 rfl dX5_lay_36 ?_
        refine VF.iast C 2 rfl (ws' := [eM a0 a1 a2 a3 a4 a5 f0, eA cI 200 a1 f1, eA cI 5 a2 (upd f2 (ix x1) (f3 (ix x1))), eA cI 5 a3 f3, eA cI 306 a4 f4, eA cI 612 a5 f5]) rfl dX5_lay_37 ?_
        refine VF.iinc C 1 [1, 0] dX5_lay_38 rfl (v := (x1 + 1)) rfl (Nat.le_of_ble_eq_true rfl) (lv' := [(0, .ref a0), (1, .int (x1 + 1))]) rfl ?_
        refine VF.goto C 21 dX5_lay_41 rfl ?_
        exact ih (x1 + 1) f0 (upd f2 (ix x1) (f3 (ix x1))) f3 f4
  refine VF.lve (lv' := [(0, .ref a0)]) rfl ?_
  refine VF.eq (zX5_lay.eq_1 f0 f1 f2 f3 f4) ?_
  refine VF.aload_n C 0 dX5_lay_0 rfl ?_
  refine VF.callVi C (b := a0) (As := []) (rest := []) lk_X5_85 (mtX5_fault l D cI cZ a0 a1 a2 a3 a4 a5 f0 f1 f2 f3 f4 f5) (fun y => y.1) (fun _ => rfl) [some 0, some 1, some 2, some 3, some 4, some 5] ⟨rfl, rfl⟩ (ws' := fun y => [eM a0 a1 a2 a3 a4 a5 y.2.1, eA cI 200 a1 f1, eA cI 5 a2 f2, eA cI 5 a3 y.2.2, eA cI 306 a4 f4, eA cI 612 a5 f5]) (fun _ => ⟨⟨rfl, rfl, rfl⟩, ⟨rfl, rfl, rfl⟩, ⟨rfl, rfl, rfl⟩, ⟨rfl, rfl, rfl⟩, ⟨rfl, rfl, rfl⟩, ⟨rfl, rfl, rfl⟩, trivial⟩) (ci := 5) rfl rfl rfl rfl (Nat.le_of_ble_eq_true rfl) ⟨Nat.le_of_ble_eq_true rfl, Nat.le_of_ble_eq_true rfl⟩ dX5_lay_1 ⟨Nat.le_refl 0, Nat.le_refl 0⟩ (fun y1 => ?_)
  refine VF.bipush C dX5_lay_4 kb_m4 ?_
  refine VF.icmp_ne C 16 dX5_lay_6 rfl (fun h1 => ?_) (fun h1 => ?_)
  · refine VF.bipush C dX5_lay_16 kb_m2 ?_
    exact VF.iret C rfl rfl dX5_lay_18
  · refine VF.aload_n C 0 dX5_lay_9 rfl ?_
    refine VF.get C fl_X5_65 0 rfl rfl dX5_lay_10 ?_
    refine VF.if_ne C 19 dX5_lay_13 rfl (fun h2 => ?_) (fun h2 => ?_)
    · refine VF.iconst C dX5_lay_19 kc_0 ?_
      refine VF.istore_n C [1, 0] dX5_lay_20 rfl (Nat.le_of_ble_eq_true rfl) (lv' := [(0, .ref a0), (1, .int 0)]) rfl ?_
      exact k21 4096 0 y1.2.1 f2 y1.2.2 f4
    · refine VF.bipush C dX5_lay_16 kb_m2 ?_
      exact VF.iret C rfl rfl dX5_lay_18
set_option maxHeartbeats 4000000 in
set_option maxRecDepth 100000 in
theorem mtX5_sectorSize (l : Launch) (D : va_G) (cI cZ : ClassId) (a0 a1 a2 a3 a4 a5 : Nat) (f0 f1 f2 f3 f4 f5 : Fn) : Ctr l yX5_sectorSize cX5_sectorSize 1 (some .int) 0 0 D cI cZ [.ref a0] [eM a0 a1 a2 a3 a4 a5 f0, eA cI 200 a1 f1, eA cI 5 a2 f2, eA cI 5 a3 f3, eA cI 306 a4 f4, eA cI 612 a5 f5] (zX5_sectorSize f2) (fun y : Int32 => some (Value.int y)) (fun _ : Int32 => [eM a0 a1 a2 a3 a4 a5 f0, eA cI 200 a1 f1, eA cI 5 a2 f2, eA cI 5 a3 f3, eA cI 306 a4 f4, eA cI 612 a5 f5]) := by
  refine Ctr.of (by decide) (Nat.le_of_ble_eq_true rfl) ?_
  intro p e s m below meth c A C
  have C : CX p s m ([.ref a0] : List Value).toArray meth c cX5_sectorSize 1 RX5 D cI cZ A (some .int) := C
  refine VF.lve (lv' := [(0, .ref a0)]) rfl ?_
  refine VF.eq (zX5_sectorSize.eq_1 f2) ?_
  refine VF.aload_n C 0 dX5_sectorSize_0 rfl ?_
  refine VF.get C fl_X5_13 0 rfl rfl dX5_sectorSize_1 ?_
  refine VF.iconst C dX5_sectorSize_4 kc_0 ?_
  refine VF.ialdK C 2 0 li_0 (Nat.le_of_ble_eq_true rfl) (Nat.le_of_ble_eq_true rfl) rfl dX5_sectorSize_5 ?_
  refine VF.aload_n C 0 dX5_sectorSize_6 rfl ?_
  refine VF.get C fl_X5_13 0 rfl rfl dX5_sectorSize_7 ?_
  refine VF.iconst C dX5_sectorSize_10 kc_1 ?_
  refine VF.ialdK C 2 1 li_1 (Nat.le_of_ble_eq_true rfl) (Nat.le_of_ble_eq_true rfl) rfl dX5_sectorSize_11 ?_
  refine VF.imul C dX5_sectorSize_12 ?_
  exact VF.iret C rfl rfl dX5_sectorSize_13
set_option maxHeartbeats 4000000 in
set_option maxRecDepth 100000 in
theorem mtX5_isGuarded (l : Launch) (D : va_G) (cI cZ : ClassId) (a0 a1 a2 a3 a4 a5 : Nat) (f0 f1 f2 f3 f4 f5 : Fn) (u1 : Int32) : Ctr l yX5_isGuarded cX5_isGuarded 2 (some .boolean) 0 0 D cI cZ [.ref a0, .int u1] [eM a0 a1 a2 a3 a4 a5 f0, eA cI 200 a1 f1, eA cI 5 a2 f2, eA cI 5 a3 f3, eA cI 306 a4 f4, eA cI 612 a5 f5] (zX5_isGuarded f2 f4 u1) (fun y : Int32 => some (Value.int y)) (fun _ : Int32 => [eM a0 a1 a2 a3 a4 a5 f0, eA cI 200 a1 f1, eA cI 5 a2 f2, eA cI 5 a3 f3, eA cI 306 a4 f4, eA cI 612 a5 f5]) := by
  refine Ctr.of (by decide) (Nat.le_of_ble_eq_true rfl) ?_
  intro p e s m below meth c A C
  have C : CX p s m ([.ref a0, .int u1] : List Value).toArray meth c cX5_isGuarded 2 RX5 D cI cZ A (some .boolean) := C
  refine VF.lve (lv' := [(0, .ref a0), (1, .int u1)]) rfl ?_
  refine VF.eq (zX5_isGuarded.eq_1 f2 f4 u1) ?_
  refine VF.aload_n C 0 dX5_isGuarded_0 rfl ?_
  refine VF.get C fl_X5_19 0 rfl rfl dX5_isGuarded_1 ?_
  refine VF.sipush C dX5_isGuarded_4 ks_288 ?_
  refine VF.ialdK C 4 288 li_288 (Nat.le_of_ble_eq_true rfl) (Nat.le_of_ble_eq_true rfl) rfl dX5_isGuarded_7 ?_
  refine VF.iload_n C 1 dX5_isGuarded_8 rfl ?_
  refine VF.ishr C dX5_isGuarded_9 ?_
  refine VF.iconst C dX5_isGuarded_10 kc_1 ?_
  refine VF.iand C dX5_isGuarded_11 ?_
  refine VF.iconst C dX5_isGuarded_12 kc_1 ?_
  refine VF.icmp_eq C 35 dX5_isGuarded_13 rfl (fun h1 => ?_) (fun h1 => ?_)
  · refine VF.iconst C dX5_isGuarded_35 kc_1 ?_
    refine VF.goto C 40 dX5_isGuarded_36 rfl ?_
    exact VF.zretK C (Or.inr rfl) rfl rfl dX5_isGuarded_40
  · refine VF.iload_n C 1 dX5_isGuarded_16 rfl ?_
    refine VF.aload_n C 0 dX5_isGuarded_17 rfl ?_
    refine VF.get C fl_X5_13 0 rfl rfl dX5_isGuarded_18 ?_
    refine VF.iconst C dX5_isGuarded_21 kc_2 ?_
    refine VF.ialdK C 2 2 li_2 (Nat.le_of_ble_eq_true rfl) (Nat.le_of_ble_eq_true rfl) rfl dX5_isGuarded_22 ?_
    refine VF.aload_n C 0 dX5_isGuarded_23 rfl ?_
    refine VF.get C fl_X5_19 0 rfl rfl dX5_isGuarded_24 ?_
    refine VF.sipush C dX5_isGuarded_27 ks_292 ?_
    refine VF.ialdK C 4 292 li_292 (Nat.le_of_ble_eq_true rfl) (Nat.le_of_ble_eq_true rfl) rfl dX5_isGuarded_30 ?_
    refine VF.isub C dX5_isGuarded_31 ?_
    refine VF.icmp_lt C 39 dX5_isGuarded_32 rfl (fun h2 => ?_) (fun h2 => ?_)
    · refine VF.iconst C dX5_isGuarded_39 kc_0 ?_
      exact VF.zretK C (Or.inl rfl) rfl rfl dX5_isGuarded_40
    · refine VF.iconst C dX5_isGuarded_35 kc_1 ?_
      refine VF.goto C 40 dX5_isGuarded_36 rfl ?_
      exact VF.zretK C (Or.inr rfl) rfl rfl dX5_isGuarded_40
set_option maxHeartbeats 4000000 in
set_option maxRecDepth 100000 in
theorem mtX5_status (l : Launch) (D : va_G) (cI cZ : ClassId) (a0 a1 a2 a3 a4 a5 : Nat) (f0 f1 f2 f3 f4 f5 : Fn) : Ctr l yX5_status cX5_status 1 (some .int) 0 0 D cI cZ [.ref a0] [eM a0 a1 a2 a3 a4 a5 f0, eA cI 200 a1 f1, eA cI 5 a2 f2, eA cI 5 a3 f3, eA cI 306 a4 f4, eA cI 612 a5 f5] (zX5_status f4) (fun y : Int32 => some (Value.int y)) (fun _ : Int32 => [eM a0 a1 a2 a3 a4 a5 f0, eA cI 200 a1 f1, eA cI 5 a2 f2, eA cI 5 a3 f3, eA cI 306 a4 f4, eA cI 612 a5 f5]) := by
  refine Ctr.of (by decide) (Nat.le_of_ble_eq_true rfl) ?_
  intro p e s m below meth c A C
  have C : CX p s m ([.ref a0] : List Value).toArray meth c cX5_status 1 RX5 D cI cZ A (some .int) := C
  have k55 : ∀ (t0 : Int32) (t1 : Int32), VF p l e { frames := 0, cells := 0, slots := 0, locals := 0 } s m ([.ref a0] : List Value).toArray below meth c 0 0 D A 1 (fun r => MQ below (QcX ((fun y : Int32 => some (Value.int y)) r) D ((fun _ : Int32 => [eM a0 a1 a2 a3 a4 a5 f0, eA cI 200 a1 f1, eA cI 5 a2 f2, eA cI 5 a3 f3, eA cI 306 a4 f4, eA cI 612 a5 f5]) r) A) ([.ref a0] : List Value).toArray s 0 0 A) (zX5_status_k55 f4 t0 t1) [eM a0 a1 a2 a3 a4 a5 f0, eA cI 200 a1 f1, eA cI 5 a2 f2, eA cI 5 a3 f3, eA cI 306 a4 f4, eA cI 612 a5 f5] 55 [(0, .ref a0)] [.int t0, .int t1] := by
    intro t0 t1
    refine VF.eq (zX5_status_k55.eq_1 f4 t0 t1) ?_
    refine VF.iadd C dX5_status_55 ?_
    refine VF.sipush C dX5_status_56 ks_128 ?_
    refine VF.aload_n C 0 dX5_status_59 rfl ?_
    refine VF.get C fl_X5_19 0 rfl rfl dX5_status_60 ?_
    refine VF.sipush C dX5_status_63 ks_291 ?_
    refine VF.ialdK C 4 291 li_291 (Nat.le_of_ble_eq_true rfl) (Nat.le_of_ble_eq_true rfl) rfl dX5_status_66 ?_
    refine VF.imul C dX5_status_67 ?_
    refine VF.iadd C dX5_status_68 ?_
    exact VF.iret C rfl rfl dX5_status_69
  have k16 : ∀ (t0 : Int32), VF p l e { frames := 0, cells := 0, slots := 0, locals := 0 } s m ([.ref a0] : List Value).toArray below meth c 0 0 D A 1 (fun r => MQ below (QcX ((fun y : Int32 => some (Value.int y)) r) D ((fun _ : Int32 => [eM a0 a1 a2 a3 a4 a5 f0, eA cI 200 a1 f1, eA cI 5 a2 f2, eA cI 5 a3 f3, eA cI 306 a4 f4, eA cI 612 a5 f5]) r) A) ([.ref a0] : List Value).toArray s 0 0 A) (zX5_status_k16 f4 t0) [eM a0 a1 a2 a3 a4 a5 f0, eA cI 200 a1 f1, eA cI 5 a2 f2, eA cI 5 a3 f3, eA cI 306 a4 f4, eA cI 612 a5 f5] 16 [(0, .ref a0)] [.int t0] := by
    intro t0
    refine VF.eq (zX5_status_k16.eq_1 f4 t0) ?_
    refine VF.iconst C dX5_status_16 kc_2 ?_
    refine VF.aload_n C 0 dX5_status_17 rfl ?_
    refine VF.get C fl_X5_19 0 rfl rfl dX5_status_18 ?_
    refine VF.sipush C dX5_status_21 ks_290 ?_
    refine VF.ialdK C 4 290 li_290 (Nat.le_of_ble_eq_true rfl) (Nat.le_of_ble_eq_true rfl) rfl dX5_status_24 ?_
    refine VF.imul C dX5_status_25 ?_
    refine VF.iadd C dX5_status_26 ?_
    refine VF.iconst C dX5_status_27 kc_4 ?_
    refine VF.aload_n C 0 dX5_status_28 rfl ?_
    refine VF.get C fl_X5_19 0 rfl rfl dX5_status_29 ?_
    refine VF.sipush C dX5_status_32 ks_292 ?_
    refine VF.ialdK C 4 292 li_292 (Nat.le_of_ble_eq_true rfl) (Nat.le_of_ble_eq_true rfl) rfl dX5_status_35 ?_
    refine VF.imul C dX5_status_36 ?_
    refine VF.iadd C dX5_status_37 ?_
    refine VF.aload_n C 0 dX5_status_38 rfl ?_
    refine VF.get C fl_X5_19 0 rfl rfl dX5_status_39 ?_
    refine VF.sipush C dX5_status_42 ks_296 ?_
    refine VF.ialdK C 4 296 li_296 (Nat.le_of_ble_eq_true rfl) (Nat.le_of_ble_eq_true rfl) rfl dX5_status_45 ?_
    refine VF.if_le C 54 dX5_status_46 rfl (fun h2 => ?_) (fun h2 => ?_)
    · refine VF.iconst C dX5_status_54 kc_0 ?_
      exact k55 0 ((t0 + (2 * (f4 290))) + (4 * (f4 292)))
    · refine VF.bipush C dX5_status_49 kb_64 ?_
      refine VF.goto C 55 dX5_status_51 rfl ?_
      exact k55 64 ((t0 + (2 * (f4 290))) + (4 * (f4 292)))
  refine VF.lve (lv' := [(0, .ref a0)]) rfl ?_
  refine VF.eq (zX5_status.eq_1 f4) ?_
  refine VF.aload_n C 0 dX5_status_0 rfl ?_
  refine VF.get C fl_X5_19 0 rfl rfl dX5_status_1 ?_
  refine VF.sipush C dX5_status_4 ks_293 ?_
  refine VF.ialdK C 4 293 li_293 (Nat.le_of_ble_eq_true rfl) (Nat.le_of_ble_eq_true rfl) rfl dX5_status_7 ?_
  refine VF.if_le C 15 dX5_status_8 rfl (fun h1 => ?_) (fun h1 => ?_)
  · refine VF.iconst C dX5_status_15 kc_0 ?_
    exact k16 0
  · refine VF.iconst C dX5_status_11 kc_1 ?_
    refine VF.goto C 16 dX5_status_12 rfl ?_
    exact k16 1
set_option maxHeartbeats 4000000 in
set_option maxRecDepth 100000 in
theorem mtX5_tableAt (l : Launch) (D : va_G) (cI cZ : ClassId) (a0 a1 a2 a3 a4 a5 : Nat) (f0 f1 f2 f3 f4 f5 : Fn) (u1 : Int32) : Ctr l yX5_tableAt cX5_tableAt 2 (some .int) 1 20 D cI cZ [.ref a0, .int u1] [eM a0 a1 a2 a3 a4 a5 f0, eA cI 200 a1 f1, eA cI 5 a2 f2, eA cI 5 a3 f3, eA cI 306 a4 f4, eA cI 612 a5 f5] (zX5_tableAt f2 u1) (fun y : Int32 => some (Value.int y)) (fun _ : Int32 => [eM a0 a1 a2 a3 a4 a5 f0, eA cI 200 a1 f1, eA cI 5 a2 f2, eA cI 5 a3 f3, eA cI 306 a4 f4, eA cI 612 a5 f5]) := by
  refine Ctr.of (by decide) (Nat.le_of_ble_eq_true rfl) ?_
  intro p e s m below meth c A C
  have C : CX p s m ([.ref a0, .int u1] : List Value).toArray meth c cX5_tableAt 2 RX5 D cI cZ A (some .int) := C
  refine VF.lve (lv' := [(0, .ref a0), (1, .int u1)]) rfl ?_
  refine VF.eq (zX5_tableAt.eq_1 f2 u1) ?_
  refine VF.iload_n C 1 dX5_tableAt_0 rfl ?_
  refine VF.if_ne C 9 dX5_tableAt_1 rfl (fun h1 => ?_) (fun h1 => ?_)
  · refine VF.iload_n C 1 dX5_tableAt_9 rfl ?_
    refine VF.iconst C dX5_tableAt_10 kc_1 ?_
    refine VF.icmp_ne C 19 dX5_tableAt_11 rfl (fun h2 => ?_) (fun h2 => ?_)
    · refine VF.iload_n C 1 dX5_tableAt_19 rfl ?_
      refine VF.bipush C dX5_tableAt_20 kb_7 ?_
      refine VF.icmp_ge C 36 dX5_tableAt_22 rfl (fun h3 => ?_) (fun h3 => ?_)
      · refine VF.sipush C dX5_tableAt_36 ks_153 ?_
        refine VF.aload_n C 0 dX5_tableAt_39 rfl ?_
        refine VF.get C fl_X5_13 0 rfl rfl dX5_tableAt_40 ?_
        refine VF.callSi C (As := [.ref a2]) (rest := [.int 153]) lk_X5_77 (mtX5_sumOf l D cI cZ a2 f2) (fun y => y) (fun _ => rfl) [none, none, some 0, none, none, none] ⟨rfl, rfl⟩ (ws' := fun y => [eM a0 a1 a2 a3 a4 a5 f0, eA cI 200 a1 f1, eA cI 5 a2 f2, eA cI 5 a3 f3, eA cI 306 a4 f4, eA cI 612 a5 f5]) (fun _ => ⟨rfl, rfl, ⟨rfl, rfl, rfl⟩, rfl, rfl, rfl, trivial⟩) rfl rfl (Nat.le_of_ble_eq_true rfl) ⟨Nat.le_of_ble_eq_true rfl, Nat.le_of_ble_eq_true rfl⟩ dX5_tableAt_43 ⟨Nat.le_refl 0, Nat.le_refl 0⟩ (fun y1 => ?_)
        refine VF.iadd C dX5_tableAt_46 ?_
        refine VF.sipush C dX5_tableAt_47 ks_256 ?_
        refine VF.iremK C (by decide) dX5_tableAt_50 ?_
        exact VF.iret C rfl rfl dX5_tableAt_51
      · refine VF.aload_n C 0 dX5_tableAt_25 rfl ?_
        refine VF.get C fl_X5_13 0 rfl rfl dX5_tableAt_26 ?_
        refine VF.iload_n C 1 dX5_tableAt_29 rfl ?_
        refine VF.iconst C dX5_tableAt_30 kc_2 ?_
        refine VF.isub C dX5_tableAt_31 ?_
        refine VF.iald C 2 rfl dX5_tableAt_32 ?_
        refine VF.goto C 51 dX5_tableAt_33 rfl ?_
        exact VF.iret C rfl rfl dX5_tableAt_51
    · refine VF.bipush C dX5_tableAt_14 kb_70 ?_
      refine VF.goto C 51 dX5_tableAt_16 rfl ?_
      exact VF.iret C rfl rfl dX5_tableAt_51
  · refine VF.bipush C dX5_tableAt_4 kb_83 ?_
    refine VF.goto C 51 dX5_tableAt_6 rfl ?_
    exact VF.iret C rfl rfl dX5_tableAt_51
set_option maxHeartbeats 4000000 in
set_option maxRecDepth 100000 in
theorem mtX5_select (l : Launch) (D : va_G) (cI cZ : ClassId) (a0 a1 a2 a3 a4 a5 : Nat) (f0 f1 f2 f3 f4 f5 : Fn) : Ctr l yX5_select cX5_select 1 (some .int) 0 0 D cI cZ [.ref a0] [eM a0 a1 a2 a3 a4 a5 f0, eA cI 200 a1 f1, eA cI 5 a2 f2, eA cI 5 a3 f3, eA cI 306 a4 f4, eA cI 612 a5 f5] (zX5_select f4) (fun y : Int32 × Fn => some (Value.int y.1)) (fun y : Int32 × Fn => [eM a0 a1 a2 a3 a4 a5 f0, eA cI 200 a1 f1, eA cI 5 a2 f2, eA cI 5 a3 f3, eA cI 306 a4 y.2, eA cI 612 a5 f5]) := by
  refine Ctr.of (by decide) (Nat.le_of_ble_eq_true rfl) ?_
  intro p e s m below meth c A C
  have C : CX p s m ([.ref a0] : List Value).toArray meth c cX5_select 1 RX5 D cI cZ A (some .int) := C
  refine VF.lve (lv' := [(0, .ref a0)]) rfl ?_
  refine VF.eq (zX5_select.eq_1 f4) ?_
  refine VF.aload_n C 0 dX5_select_0 rfl ?_
  refine VF.get C fl_X5_19 0 rfl rfl dX5_select_1 ?_
  refine VF.sipush C dX5_select_4 ks_298 ?_
  refine VF.ialdK C 4 298 li_298 (Nat.le_of_ble_eq_true rfl) (Nat.le_of_ble_eq_true rfl) rfl dX5_select_7 ?_
  refine VF.iconst C dX5_select_8 kc_1 ?_
  refine VF.icmp_ne C 15 dX5_select_9 rfl (fun h1 => ?_) (fun h1 => ?_)
  · refine VF.aload_n C 0 dX5_select_15 rfl ?_
    refine VF.get C fl_X5_19 0 rfl rfl dX5_select_16 ?_
    refine VF.sipush C dX5_select_19 ks_298 ?_
    refine VF.iconst C dX5_select_22 kc_1 ?_
    refine VF.iastK C 4 298 li_298 (Nat.le_of_ble_eq_true rfl) (Nat.le_of_ble_eq_true rfl) rfl (ws' := [eM a0 a1 a2 a3 a4 a5 f0, eA cI 200 a1 f1, eA cI 5 a2 f2, eA cI 5 a3 f3, eA cI 306 a4 (upd f4 298 1), eA cI 612 a5 f5]) rfl dX5_select_23 ?_
    refine VF.aload_n C 0 dX5_select_24 rfl ?_
    refine VF.get C fl_X5_19 0 rfl rfl dX5_select_25 ?_
    refine VF.sipush C dX5_select_28 ks_299 ?_
    refine VF.iconst C dX5_select_31 kc_0 ?_
    refine VF.iastK C 4 299 li_299 (Nat.le_of_ble_eq_true rfl) (Nat.le_of_ble_eq_true rfl) rfl (ws' := [eM a0 a1 a2 a3 a4 a5 f0, eA cI 200 a1 f1, eA cI 5 a2 f2, eA cI 5 a3 f3, eA cI 306 a4 (upd (upd f4 298 1) 299 0), eA cI 612 a5 f5]) rfl dX5_select_32 ?_
    refine VF.iconst C dX5_select_33 kc_1 ?_
    refine VF.aload_n C 0 dX5_select_34 rfl ?_
    refine VF.get C fl_X5_19 0 rfl rfl dX5_select_35 ?_
    refine VF.sipush C dX5_select_38 ks_289 ?_
    refine VF.ialdK C 4 289 li_289 (Nat.le_of_ble_eq_true rfl) (Nat.le_of_ble_eq_true rfl) rfl dX5_select_41 ?_
    refine VF.ishl C dX5_select_42 ?_
    exact VF.iret C rfl rfl dX5_select_43
  · refine VF.bipush C dX5_select_12 kb_m2 ?_
    exact VF.iret C rfl rfl dX5_select_14
set_option maxHeartbeats 4000000 in
set_option maxRecDepth 100000 in
theorem mtX5_answers (l : Launch) (D : va_G) (cI cZ : ClassId) (a0 a1 a2 a3 a4 a5 : Nat) (f0 f1 f2 f3 f4 f5 : Fn) (u1 : Int32) : Ctr l yX5_answers cX5_answers 4 (some .int) 2 41 D cI cZ [.ref a0, .int u1] [eM a0 a1 a2 a3 a4 a5 f0, eA cI 200 a1 f1, eA cI 5 a2 f2, eA cI 5 a3 f3, eA cI 306 a4 f4, eA cI 612 a5 f5] (zX5_answers f2 f4 u1) (fun y : Int32 => some (Value.int y)) (fun _ : Int32 => [eM a0 a1 a2 a3 a4 a5 f0, eA cI 200 a1 f1, eA cI 5 a2 f2, eA cI 5 a3 f3, eA cI 306 a4 f4, eA cI 612 a5 f5]) := by
  refine Ctr.of (by decide) (Nat.le_of_ble_eq_true rfl) ?_
  intro p e s m below meth c A C
  have C : CX p s m ([.ref a0, .int u1] : List Value).toArray meth c cX5_answers 4 RX5 D cI cZ A (some .int) := C
  have k109 : ∀ (x1 : Int32) (x2 : Int32), VF p l e { frames := 2, cells := 0, slots := 0, locals := 41 } s m ([.ref a0, .int u1] : List Value).toArray below meth c 0 0 D A 4 (fun r => MQ below (QcX ((fun y : Int32 => some (Value.int y)) r) D ((fun _ : Int32 => [eM a0 a1 a2 a3 a4 a5 f0, eA cI 200 a1 f1, eA cI 5 a2 f2, eA cI 5 a3 f3, eA cI 306 a4 f4, eA cI 612 a5 f5]) r) A) ([.ref a0, .int u1] : List Value).toArray s 0 0 A) (zX5_answers_k109 f2 f4 x1 x2) [eM a0 a1 a2 a3 a4 a5 f0, eA cI 200 a1 f1, eA cI 5 a2 f2, eA cI 5 a3 f3, eA cI 306 a4 f4, eA cI 612 a5 f5] 109 [(0, .ref a0), (1, .int x1), (2, .int x2)] [] := by
    intro x1 x2
    refine VF.eq (zX5_answers_k109.eq_1 f2 f4 x1 x2) ?_
    refine VF.iload_n C 2 dX5_answers_109 rfl ?_
    refine VF.bipush C dX5_answers_110 kb_90 ?_
    refine VF.icmp_ne C 156 dX5_answers_112 rfl (fun h8 => ?_) (fun h8 => ?_)
    · refine VF.sipush C dX5_answers_156 ks_255 ?_
      exact VF.iret C rfl rfl dX5_answers_159
    · refine VF.iload_n C 1 dX5_answers_115 rfl ?_
      refine VF.iconst C dX5_answers_116 kc_2 ?_
      refine VF.icmp_le C 156 dX5_answers_117 rfl (fun h9 => ?_) (fun h9 => ?_)
      · refine VF.sipush C dX5_answers_156 ks_255 ?_
        exact VF.iret C rfl rfl dX5_answers_159
      · refine VF.aload_n C 0 dX5_answers_120 rfl ?_
        refine VF.get C fl_X5_19 0 rfl rfl dX5_answers_121 ?_
        refine VF.sipush C dX5_answers_124 ks_301 ?_
        refine VF.ialdK C 4 301 li_301 (Nat.le_of_ble_eq_true rfl) (Nat.le_of_ble_eq_true rfl) rfl dX5_answers_127 ?_
        refine VF.iload_n C 1 dX5_answers_128 rfl ?_
        refine VF.iadd C dX5_answers_129 ?_
        refine VF.iconst C dX5_answers_130 kc_3 ?_
        refine VF.isub C dX5_answers_131 ?_
        refine VF.bipush C dX5_answers_132 kb_8 ?_
        refine VF.icmp_ge C 156 dX5_answers_134 rfl (fun h10 => ?_) (fun h10 => ?_)
        · refine VF.sipush C dX5_answers_156 ks_255 ?_
          exact VF.iret C rfl rfl dX5_answers_159
        · refine VF.aload_n C 0 dX5_answers_137 rfl ?_
          refine VF.aload_n C 0 dX5_answers_138 rfl ?_
          refine VF.get C fl_X5_19 0 rfl rfl dX5_answers_139 ?_
          refine VF.sipush C dX5_answers_142 ks_301 ?_
          refine VF.ialdK C 4 301 li_301 (Nat.le_of_ble_eq_true rfl) (Nat.le_of_ble_eq_true rfl) rfl dX5_answers_145 ?_
          refine VF.iload_n C 1 dX5_answers_146 rfl ?_
          refine VF.iadd C dX5_answers_147 ?_
          refine VF.iconst C dX5_answers_148 kc_3 ?_
          refine VF.isub C dX5_answers_149 ?_
          refine VF.callVi C (b := a0) (As := [.int (((f4 301) + x1) - 3)]) (rest := []) lk_X5_95 (mtX5_tableAt l D cI cZ a0 a1 a2 a3 a4 a5 f0 f1 f2 f3 f4 f5 (((f4 301) + x1) - 3)) (fun y => y) (fun _ => rfl) [some 0, some 1, some 2, some 3, some 4, some 5] ⟨rfl, rfl⟩ (ws' := fun y => [eM a0 a1 a2 a3 a4 a5 f0, eA cI 200 a1 f1, eA cI 5 a2 f2, eA cI 5 a3 f3, eA cI 306 a4 f4, eA cI 612 a5 f5]) (fun _ => ⟨⟨rfl, rfl, rfl⟩, ⟨rfl, rfl, rfl⟩, ⟨rfl, rfl, rfl⟩, ⟨rfl, rfl, rfl⟩, ⟨rfl, rfl, rfl⟩, ⟨rfl, rfl, rfl⟩, trivial⟩) (ci := 5) rfl rfl rfl rfl (Nat.le_of_ble_eq_true rfl) ⟨Nat.le_of_ble_eq_true rfl, Nat.le_of_ble_eq_true rfl⟩ dX5_answers_150 ⟨Nat.le_refl 0, Nat.le_refl 0⟩ (fun y5 => ?_)
          refine VF.goto C 159 dX5_answers_153 rfl ?_
          exact VF.iret C rfl rfl dX5_answers_159
  have k82 : ∀ (x1 : Int32) (x2 : Int32) (x3 : Int32), VF p l e { frames := 2, cells := 0, slots := 0, locals := 41 } s m ([.ref a0, .int u1] : List Value).toArray below meth c 0 0 D A 4 (fun r => MQ below (QcX ((fun y : Int32 => some (Value.int y)) r) D ((fun _ : Int32 => [eM a0 a1 a2 a3 a4 a5 f0, eA cI 200 a1 f1, eA cI 5 a2 f2, eA cI 5 a3 f3, eA cI 306 a4 f4, eA cI 612 a5 f5]) r) A) ([.ref a0, .int u1] : List Value).toArray s 0 0 A) (zX5_answers_k82 f2 f4 x1 x2 x3) [eM a0 a1 a2 a3 a4 a5 f0, eA cI 200 a1 f1, eA cI 5 a2 f2, eA cI 5 a3 f3, eA cI 306 a4 f4, eA cI 612 a5 f5] 82 [(0, .ref a0), (1, .int x1), (2, .int x2), (3, .int x3)] [] := by
    intro x1 x2 x3
    refine VF.eq (zX5_answers_k82.eq_1 f2 f4 x1 x2 x3) ?_
    refine VF.iload_n C 2 dX5_answers_82 rfl ?_
    refine VF.bipush C dX5_answers_83 kb_11 ?_
    refine VF.icmp_ne C 109 dX5_answers_85 rfl (fun h6 => ?_) (fun h6 => ?_)
    · exact VF.lvs [0, 1, 2] rfl (k109 x1 x2)
    · refine VF.iload_n C 1 dX5_answers_88 rfl ?_
      refine VF.iconst C dX5_answers_89 kc_2 ?_
      refine VF.icmp_le C 109 dX5_answers_90 rfl (fun h7 => ?_) (fun h7 => ?_)
      · exact VF.lvs [0, 1, 2] rfl (k109 x1 x2)
      · refine VF.aload_n C 0 dX5_answers_93 rfl ?_
        refine VF.get C fl_X5_19 0 rfl rfl dX5_answers_94 ?_
        refine VF.iload_n C 3 dX5_answers_97 rfl ?_
        refine VF.iload_n C 1 dX5_answers_98 rfl ?_
        refine VF.iadd C dX5_answers_99 ?_
        refine VF.iconst C dX5_answers_100 kc_3 ?_
        refine VF.isub C dX5_answers_101 ?_
        refine VF.aload_n C 0 dX5_answers_102 rfl ?_
        refine VF.callVi C (b := a0) (As := []) (rest := [.int ((x3 + x1) - 3), .ref a4]) lk_X5_89 (mtX5_all l D cI cZ a0 a1 a2 a3 a4 a5 f0 f1 f2 f3 f4 f5) (fun y => y) (fun _ => rfl) [some 0, some 1, some 2, some 3, some 4, some 5] ⟨rfl, rfl⟩ (ws' := fun y => [eM a0 a1 a2 a3 a4 a5 f0, eA cI 200 a1 f1, eA cI 5 a2 f2, eA cI 5 a3 f3, eA cI 306 a4 f4, eA cI 612 a5 f5]) (fun _ => ⟨⟨rfl, rfl, rfl⟩, ⟨rfl, rfl, rfl⟩, ⟨rfl, rfl, rfl⟩, ⟨rfl, rfl, rfl⟩, ⟨rfl, rfl, rfl⟩, ⟨rfl, rfl, rfl⟩, trivial⟩) (ci := 5) rfl rfl rfl rfl (Nat.le_of_ble_eq_true rfl) ⟨Nat.le_of_ble_eq_true rfl, Nat.le_of_ble_eq_true rfl⟩ dX5_answers_103 ⟨Nat.le_refl 0, Nat.le_refl 0⟩ (fun y4 => ?_)
        refine VF.irem C dX5_answers_106 ?_
        refine VF.iald C 4 rfl dX5_answers_107 ?_
        exact VF.iret C rfl rfl dX5_answers_108
  refine VF.lve (lv' := [(0, .ref a0), (1, .int u1)]) rfl ?_
  refine VF.eq (zX5_answers.eq_1 f2 f4 u1) ?_
  refine VF.iload_n C 1 dX5_answers_0 rfl ?_
  refine VF.if_ne C 8 dX5_answers_1 rfl (fun h1 => ?_) (fun h1 => ?_)
  · refine VF.aload_n C 0 dX5_answers_8 rfl ?_
    refine VF.get C fl_X5_19 0 rfl rfl dX5_answers_9 ?_
    refine VF.sipush C dX5_answers_12 ks_300 ?_
    refine VF.ialdK C 4 300 li_300 (Nat.le_of_ble_eq_true rfl) (Nat.le_of_ble_eq_true rfl) rfl dX5_answers_15 ?_
    refine VF.istore_n C [1, 2, 0] dX5_answers_16 rfl (Nat.le_of_ble_eq_true rfl) (lv' := [(0, .ref a0), (1, .int u1), (2, .int (f4 300))]) rfl ?_
    refine VF.iload_n C 2 dX5_answers_17 rfl ?_
    refine VF.iconst C dX5_answers_18 kc_5 ?_
    refine VF.icmp_ne C 27 dX5_answers_19 rfl (fun h2 => ?_) (fun h2 => ?_)
    · refine VF.aload_n C 0 dX5_answers_27 rfl ?_
      refine VF.get C fl_X5_19 0 rfl rfl dX5_answers_28 ?_
      refine VF.sipush C dX5_answers_31 ks_293 ?_
      refine VF.ialdK C 4 293 li_293 (Nat.le_of_ble_eq_true rfl) (Nat.le_of_ble_eq_true rfl) rfl dX5_answers_34 ?_
      refine VF.if_le C 42 dX5_answers_35 rfl (fun h3 => ?_) (fun h3 => ?_)
      · refine VF.aload_n C 0 dX5_answers_42 rfl ?_
        refine VF.get C fl_X5_19 0 rfl rfl dX5_answers_43 ?_
        refine VF.sipush C dX5_answers_46 ks_301 ?_
        refine VF.ialdK C 4 301 li_301 (Nat.le_of_ble_eq_true rfl) (Nat.le_of_ble_eq_true rfl) rfl dX5_answers_49 ?_
        refine VF.aload_n C 0 dX5_answers_50 rfl ?_
        refine VF.callVi C (b := a0) (As := []) (rest := [.int (f4 301)]) lk_X5_89 (mtX5_all l D cI cZ a0 a1 a2 a3 a4 a5 f0 f1 f2 f3 f4 f5) (fun y => y) (fun _ => rfl) [some 0, some 1, some 2, some 3, some 4, some 5] ⟨rfl, rfl⟩ (ws' := fun y => [eM a0 a1 a2 a3 a4 a5 f0, eA cI 200 a1 f1, eA cI 5 a2 f2, eA cI 5 a3 f3, eA cI 306 a4 f4, eA cI 612 a5 f5]) (fun _ => ⟨⟨rfl, rfl, rfl⟩, ⟨rfl, rfl, rfl⟩, ⟨rfl, rfl, rfl⟩, ⟨rfl, rfl, rfl⟩, ⟨rfl, rfl, rfl⟩, ⟨rfl, rfl, rfl⟩, trivial⟩) (ci := 5) rfl rfl rfl rfl (Nat.le_of_ble_eq_true rfl) ⟨Nat.le_of_ble_eq_true rfl, Nat.le_of_ble_eq_true rfl⟩ dX5_answers_51 ⟨Nat.le_refl 0, Nat.le_refl 0⟩ (fun y1 => ?_)
        refine VF.irem C dX5_answers_54 ?_
        refine VF.istore_n C [1, 2, 3, 0] dX5_answers_55 rfl (Nat.le_of_ble_eq_true rfl) (lv' := [(0, .ref a0), (1, .int u1), (2, .int (f4 300)), (3, .int (irm (f4 301) y1))]) rfl ?_
        refine VF.iload_n C 2 dX5_answers_56 rfl ?_
        refine VF.iconst C dX5_answers_57 kc_3 ?_
        refine VF.icmp_ne C 82 dX5_answers_58 rfl (fun h4 => ?_) (fun h4 => ?_)
        · exact k82 u1 (f4 300) (irm (f4 301) y1)
        · refine VF.iload_n C 1 dX5_answers_61 rfl ?_
          refine VF.iconst C dX5_answers_62 kc_1 ?_
          refine VF.icmp_le C 82 dX5_answers_63 rfl (fun h5 => ?_) (fun h5 => ?_)
          · exact k82 u1 (f4 300) (irm (f4 301) y1)
          · refine VF.aload_n C 0 dX5_answers_66 rfl ?_
            refine VF.get C fl_X5_19 0 rfl rfl dX5_answers_67 ?_
            refine VF.iload_n C 3 dX5_answers_70 rfl ?_
            refine VF.iload_n C 1 dX5_answers_71 rfl ?_
            refine VF.iadd C dX5_answers_72 ?_
            refine VF.iconst C dX5_answers_73 kc_2 ?_
            refine VF.isub C dX5_answers_74 ?_
            refine VF.aload_n C 0 dX5_answers_75 rfl ?_
            refine VF.callVi C (b := a0) (As := []) (rest := [.int (((irm (f4 301) y1) + u1) - 2), .ref a4]) lk_X5_89 (mtX5_all l D cI cZ a0 a1 a2 a3 a4 a5 f0 f1 f2 f3 f4 f5) (fun y => y) (fun _ => rfl) [some 0, some 1, some 2, some 3, some 4, some 5] ⟨rfl, rfl⟩ (ws' := fun y => [eM a0 a1 a2 a3 a4 a5 f0, eA cI 200 a1 f1, eA cI 5 a2 f2, eA cI 5 a3 f3, eA cI 306 a4 f4, eA cI 612 a5 f5]) (fun _ => ⟨⟨rfl, rfl, rfl⟩, ⟨rfl, rfl, rfl⟩, ⟨rfl, rfl, rfl⟩, ⟨rfl, rfl, rfl⟩, ⟨rfl, rfl, rfl⟩, ⟨rfl, rfl, rfl⟩, trivial⟩) (ci := 5) rfl rfl rfl rfl (Nat.le_of_ble_eq_true rfl) ⟨Nat.le_of_ble_eq_true rfl, Nat.le_of_ble_eq_true rfl⟩ dX5_answers_76 ⟨Nat.le_refl 0, Nat.le_refl 0⟩ (fun y2 => ?_)
            refine VF.irem C dX5_answers_79 ?_
            refine VF.iald C 4 rfl dX5_answers_80 ?_
            exact VF.iret C rfl rfl dX5_answers_81
      · refine VF.sipush C dX5_answers_38 ks_255 ?_
        exact VF.iret C rfl rfl dX5_answers_41
    · refine VF.aload_n C 0 dX5_answers_22 rfl ?_
      refine VF.callVi C (b := a0) (As := []) (rest := []) lk_X5_92 (mtX5_status l D cI cZ a0 a1 a2 a3 a4 a5 f0 f1 f2 f3 f4 f5) (fun y => y) (fun _ => rfl) [some 0, some 1, some 2, some 3, some 4, some 5] ⟨rfl, rfl⟩ (ws' := fun y => [eM a0 a1 a2 a3 a4 a5 f0, eA cI 200 a1 f1, eA cI 5 a2 f2, eA cI 5 a3 f3, eA cI 306 a4 f4, eA cI 612 a5 f5]) (fun _ => ⟨⟨rfl, rfl, rfl⟩, ⟨rfl, rfl, rfl⟩, ⟨rfl, rfl, rfl⟩, ⟨rfl, rfl, rfl⟩, ⟨rfl, rfl, rfl⟩, ⟨rfl, rfl, rfl⟩, trivial⟩) (ci := 5) rfl rfl rfl rfl (Nat.le_of_ble_eq_true rfl) ⟨Nat.le_of_ble_eq_true rfl, Nat.le_of_ble_eq_true rfl⟩ dX5_answers_23 ⟨Nat.le_refl 0, Nat.le_refl 0⟩ (fun y3 => ?_)
      exact VF.iret C rfl rfl dX5_answers_26
  · refine VF.sipush C dX5_answers_4 ks_255 ?_
    exact VF.iret C rfl rfl dX5_answers_7
set_option maxHeartbeats 4000000 in
set_option maxRecDepth 100000 in
theorem mtX5_puts (l : Launch) (D : va_G) (cI cZ : ClassId) (a0 a1 a2 a3 a4 a5 : Nat) (f0 f1 f2 f3 f4 f5 : Fn) (u1 : Int32) : Ctr l yX5_puts cX5_puts 4 (some .int) 3 64 D cI cZ [.ref a0, .int u1] [eM a0 a1 a2 a3 a4 a5 f0, eA cI 200 a1 f1, eA cI 5 a2 f2, eA cI 5 a3 f3, eA cI 306 a4 f4, eA cI 612 a5 f5] (zX5_puts f2 f4 u1) (fun y : Int32 × Fn => some (Value.int y.1)) (fun y : Int32 × Fn => [eM a0 a1 a2 a3 a4 a5 f0, eA cI 200 a1 f1, eA cI 5 a2 f2, eA cI 5 a3 f3, eA cI 306 a4 y.2, eA cI 612 a5 f5]) := by
  refine Ctr.of (by decide) (Nat.le_of_ble_eq_true rfl) ?_
  intro p e s m below meth c A C
  have C : CX p s m ([.ref a0, .int u1] : List Value).toArray meth c cX5_puts 4 RX5 D cI cZ A (some .int) := C
  have k155 : ∀ (x1 : Int32) (x2 : Int32) (f4 : Fn), VF p l e { frames := 3, cells := 0, slots := 0, locals := 64 } s m ([.ref a0, .int u1] : List Value).toArray below meth c 0 0 D A 4 (fun r => MQ below (QcX ((fun y : Int32 × Fn => some (Value.int y.1)) r) D ((fun y : Int32 × Fn => [eM a0 a1 a2 a3 a4 a5 f0, eA cI 200 a1 f1, eA cI 5 a2 f2, eA cI 5 a3 f3, eA cI 306 a4 y.2, eA cI 612 a5 f5]) r) A) ([.ref a0, .int u1] : List Value).toArray s 0 0 A) (zX5_puts_k155 f2 f4 x1 x2) [eM a0 a1 a2 a3 a4 a5 f0, eA cI 200 a1 f1, eA cI 5 a2 f2, eA cI 5 a3 f3, eA cI 306 a4 f4, eA cI 612 a5 f5] 155 [(0, .ref a0), (1, .int x1), (2, .int x2)] [] := by
    intro x1 x2 f4
    refine VF.eq (zX5_puts_k155.eq_1 f2 f4 x1 x2) ?_
    refine VF.aload_n C 0 dX5_puts_155 rfl ?_
    refine VF.iload_n C 2 dX5_puts_156 rfl ?_
    refine VF.callVi C (b := a0) (As := [.int x2]) (rest := []) lk_X5_99 (mtX5_answers l D cI cZ a0 a1 a2 a3 a4 a5 f0 f1 f2 f3 f4 f5 x2) (fun y => y) (fun _ => rfl) [some 0, some 1, some 2, some 3, some 4, some 5] ⟨rfl, rfl⟩ (ws' := fun y => [eM a0 a1 a2 a3 a4 a5 f0, eA cI 200 a1 f1, eA cI 5 a2 f2, eA cI 5 a3 f3, eA cI 306 a4 f4, eA cI 612 a5 f5]) (fun _ => ⟨⟨rfl, rfl, rfl⟩, ⟨rfl, rfl, rfl⟩, ⟨rfl, rfl, rfl⟩, ⟨rfl, rfl, rfl⟩, ⟨rfl, rfl, rfl⟩, ⟨rfl, rfl, rfl⟩, trivial⟩) (ci := 5) rfl rfl rfl rfl (Nat.le_of_ble_eq_true rfl) ⟨Nat.le_of_ble_eq_true rfl, Nat.le_of_ble_eq_true rfl⟩ dX5_puts_157 ⟨Nat.le_refl 0, Nat.le_refl 0⟩ (fun y2 => ?_)
    refine VF.istore_n C [1, 2, 3, 0] dX5_puts_160 rfl (Nat.le_of_ble_eq_true rfl) (lv' := [(0, .ref a0), (1, .int x1), (2, .int x2), (3, .int y2)]) rfl ?_
    refine VF.aload_n C 0 dX5_puts_161 rfl ?_
    refine VF.get C fl_X5_19 0 rfl rfl dX5_puts_162 ?_
    refine VF.sipush C dX5_puts_165 ks_302 ?_
    refine VF.iload_n C 1 dX5_puts_168 rfl ?_
    refine VF.iastK C 4 302 li_302 (Nat.le_of_ble_eq_true rfl) (Nat.le_of_ble_eq_true rfl) rfl (ws' := [eM a0 a1 a2 a3 a4 a5 f0, eA cI 200 a1 f1, eA cI 5 a2 f2, eA cI 5 a3 f3, eA cI 306 a4 (upd f4 302 x1), eA cI 612 a5 f5]) rfl dX5_puts_169 ?_
    refine VF.aload_n C 0 dX5_puts_170 rfl ?_
    refine VF.get C fl_X5_19 0 rfl rfl dX5_puts_171 ?_
    refine VF.sipush C dX5_puts_174 ks_299 ?_
    refine VF.dup2 C dX5_puts_177 rfl rfl ?_
    refine VF.ialdK C 4 299 li_299 (Nat.le_of_ble_eq_true rfl) (Nat.le_of_ble_eq_true rfl) rfl dX5_puts_178 ?_
    refine VF.iconst C dX5_puts_179 kc_1 ?_
    refine VF.iadd C dX5_puts_180 ?_
    refine VF.iastK C 4 299 li_299 (Nat.le_of_ble_eq_true rfl) (Nat.le_of_ble_eq_true rfl) rfl (ws' := [eM a0 a1 a2 a3 a4 a5 f0, eA cI 200 a1 f1, eA cI 5 a2 f2, eA cI 5 a3 f3, eA cI 306 a4 (upd (upd f4 302 x1) 299 (((upd f4 302 x1) 299) + 1)), eA cI 612 a5 f5]) rfl dX5_puts_181 ?_
    refine VF.iload_n C 3 dX5_puts_182 rfl ?_
    exact VF.iret C rfl rfl dX5_puts_183
  have k102 : ∀ (x1 : Int32) (x2 : Int32) (t0 : Int32) (t1 : Int32) (f4 : Fn), VF p l e { frames := 3, cells := 0, slots := 0, locals := 64 } s m ([.ref a0, .int u1] : List Value).toArray below meth c 0 0 D A 4 (fun r => MQ below (QcX ((fun y : Int32 × Fn => some (Value.int y.1)) r) D ((fun y : Int32 × Fn => [eM a0 a1 a2 a3 a4 a5 f0, eA cI 200 a1 f1, eA cI 5 a2 f2, eA cI 5 a3 f3, eA cI 306 a4 y.2, eA cI 612 a5 f5]) r) A) ([.ref a0, .int u1] : List Value).toArray s 0 0 A) (zX5_puts_k102 f2 f4 x1 x2 t0 t1) [eM a0 a1 a2 a3 a4 a5 f0, eA cI 200 a1 f1, eA cI 5 a2 f2, eA cI 5 a3 f3, eA cI 306 a4 f4, eA cI 612 a5 f5] 102 [(0, .ref a0), (1, .int x1), (2, .int x2)] [.int t0, .int t1, .ref a4] := by
    intro x1 x2 t0 t1 f4
    refine VF.eq (zX5_puts_k102.eq_1 f2 f4 x1 x2 t0 t1) ?_
    refine VF.iast C 4 rfl (ws' := [eM a0 a1 a2 a3 a4 a5 f0, eA cI 200 a1 f1, eA cI 5 a2 f2, eA cI 5 a3 f3, eA cI 306 a4 (upd f4 (ix t1) t0), eA cI 612 a5 f5]) rfl dX5_puts_102 ?_
    refine VF.iload_n C 2 dX5_puts_103 rfl ?_
    refine VF.iconst C dX5_puts_104 kc_1 ?_
    refine VF.icmp_le C 155 dX5_puts_105 rfl (fun h4 => ?_) (fun h4 => ?_)
    · exact k155 x1 x2 (upd f4 (ix t1) t0)
    · refine VF.aload_n C 0 dX5_puts_108 rfl ?_
      refine VF.get C fl_X5_19 0 rfl rfl dX5_puts_109 ?_
      refine VF.sipush C dX5_puts_112 ks_301 ?_
      refine VF.ialdK C 4 301 li_301 (Nat.le_of_ble_eq_true rfl) (Nat.le_of_ble_eq_true rfl) rfl dX5_puts_115 ?_
      refine VF.aload_n C 0 dX5_puts_116 rfl ?_
      refine VF.callVi C (b := a0) (As := []) (rest := [.int ((upd f4 (ix t1) t0) 301)]) lk_X5_89 (mtX5_all l D cI cZ a0 a1 a2 a3 a4 a5 f0 f1 f2 f3 (upd f4 (ix t1) t0) f5) (fun y => y) (fun _ => rfl) [some 0, some 1, some 2, some 3, some 4, some 5] ⟨rfl, rfl⟩ (ws' := fun y => [eM a0 a1 a2 a3 a4 a5 f0, eA cI 200 a1 f1, eA cI 5 a2 f2, eA cI 5 a3 f3, eA cI 306 a4 (upd f4 (ix t1) t0), eA cI 612 a5 f5]) (fun _ => ⟨⟨rfl, rfl, rfl⟩, ⟨rfl, rfl, rfl⟩, ⟨rfl, rfl, rfl⟩, ⟨rfl, rfl, rfl⟩, ⟨rfl, rfl, rfl⟩, ⟨rfl, rfl, rfl⟩, trivial⟩) (ci := 5) rfl rfl rfl rfl (Nat.le_of_ble_eq_true rfl) ⟨Nat.le_of_ble_eq_true rfl, Nat.le_of_ble_eq_true rfl⟩ dX5_puts_117 ⟨Nat.le_refl 0, Nat.le_refl 0⟩ (fun y1 => ?_)
      refine VF.irem C dX5_puts_120 ?_
      refine VF.iload_n C 2 dX5_puts_121 rfl ?_
      refine VF.iadd C dX5_puts_122 ?_
      refine VF.iconst C dX5_puts_123 kc_2 ?_
      refine VF.isub C dX5_puts_124 ?_
      refine VF.aload_n C 0 dX5_puts_125 rfl ?_
      refine VF.get C fl_X5_13 0 rfl rfl dX5_puts_126 ?_
      refine VF.iconst C dX5_puts_129 kc_0 ?_
      refine VF.ialdK C 2 0 li_0 (Nat.le_of_ble_eq_true rfl) (Nat.le_of_ble_eq_true rfl) rfl dX5_puts_130 ?_
      refine VF.irem C dX5_puts_131 ?_
      refine VF.istore_n C [1, 2, 3, 0] dX5_puts_132 rfl (Nat.le_of_ble_eq_true rfl) (lv' := [(0, .ref a0), (1, .int x1), (2, .int x2), (3, .int (irm (((irm ((upd f4 (ix t1) t0) 301) y1) + x2) - 2) (f2 0)))]) rfl ?_
      refine VF.aload_n C 0 dX5_puts_133 rfl ?_
      refine VF.get C fl_X5_19 0 rfl rfl dX5_puts_134 ?_
      refine VF.sipush C dX5_puts_137 ks_256 ?_
      refine VF.iload_n C 3 dX5_puts_140 rfl ?_
      refine VF.iadd C dX5_puts_141 ?_
      refine VF.iload_n C 1 dX5_puts_142 rfl ?_
      refine VF.iast C 4 rfl (ws' := [eM a0 a1 a2 a3 a4 a5 f0, eA cI 200 a1 f1, eA cI 5 a2 f2, eA cI 5 a3 f3, eA cI 306 a4 (upd (upd f4 (ix t1) t0) (ix (256 + (irm (((irm ((upd f4 (ix t1) t0) 301) y1) + x2) - 2) (f2 0)))) x1), eA cI 612 a5 f5]) rfl dX5_puts_143 ?_
      refine VF.aload_n C 0 dX5_puts_144 rfl ?_
      refine VF.get C fl_X5_19 0 rfl rfl dX5_puts_145 ?_
      refine VF.sipush C dX5_puts_148 ks_272 ?_
      refine VF.iload_n C 3 dX5_puts_151 rfl ?_
      refine VF.iadd C dX5_puts_152 ?_
      refine VF.iconst C dX5_puts_153 kc_1 ?_
      refine VF.iast C 4 rfl (ws' := [eM a0 a1 a2 a3 a4 a5 f0, eA cI 200 a1 f1, eA cI 5 a2 f2, eA cI 5 a3 f3, eA cI 306 a4 (upd (upd (upd f4 (ix t1) t0) (ix (256 + (irm (((irm ((upd f4 (ix t1) t0) 301) y1) + x2) - 2) (f2 0)))) x1) (ix (272 + (irm (((irm ((upd f4 (ix t1) t0) 301) y1) + x2) - 2) (f2 0)))) 1), eA cI 612 a5 f5]) rfl dX5_puts_154 ?_
      exact VF.lvs [0, 1, 2] rfl (k155 x1 x2 (upd (upd (upd f4 (ix t1) t0) (ix (256 + (irm (((irm ((upd f4 (ix t1) t0) 301) y1) + x2) - 2) (f2 0)))) x1) (ix (272 + (irm (((irm ((upd f4 (ix t1) t0) 301) y1) + x2) - 2) (f2 0)))) 1))
  have k78 : ∀ (x1 : Int32) (x2 : Int32) (f4 : Fn), VF p l e { frames := 3, cells := 0, slots := 0, locals := 64 } s m ([.ref a0, .int u1] : List Value).toArray below meth c 0 0 D A 4 (fun r => MQ below (QcX ((fun y : Int32 × Fn => some (Value.int y.1)) r) D ((fun y : Int32 × Fn => [eM a0 a1 a2 a3 a4 a5 f0, eA cI 200 a1 f1, eA cI 5 a2 f2, eA cI 5 a3 f3, eA cI 306 a4 y.2, eA cI 612 a5 f5]) r) A) ([.ref a0, .int u1] : List Value).toArray s 0 0 A) (zX5_puts_k78 f2 f4 x1 x2) [eM a0 a1 a2 a3 a4 a5 f0, eA cI 200 a1 f1, eA cI 5 a2 f2, eA cI 5 a3 f3, eA cI 306 a4 f4, eA cI 612 a5 f5] 78 [(0, .ref a0), (1, .int x1), (2, .int x2)] [] := by
    intro x1 x2 f4
    refine VF.eq (zX5_puts_k78.eq_1 f2 f4 x1 x2) ?_
    refine VF.aload_n C 0 dX5_puts_78 rfl ?_
    refine VF.get C fl_X5_19 0 rfl rfl dX5_puts_79 ?_
    refine VF.sipush C dX5_puts_82 ks_301 ?_
    refine VF.iload_n C 2 dX5_puts_85 rfl ?_
    refine VF.iconst C dX5_puts_86 kc_1 ?_
    refine VF.icmp_ne C 94 dX5_puts_87 rfl (fun h2 => ?_) (fun h2 => ?_)
    · refine VF.aload_n C 0 dX5_puts_94 rfl ?_
      refine VF.get C fl_X5_19 0 rfl rfl dX5_puts_95 ?_
      refine VF.sipush C dX5_puts_98 ks_301 ?_
      refine VF.ialdK C 4 301 li_301 (Nat.le_of_ble_eq_true rfl) (Nat.le_of_ble_eq_true rfl) rfl dX5_puts_101 ?_
      exact k102 x1 x2 (f4 301) 301 f4
    · refine VF.iload_n C 1 dX5_puts_90 rfl ?_
      refine VF.goto C 102 dX5_puts_91 rfl ?_
      exact k102 x1 x2 x1 301 f4
  have k55 : ∀ (n : Nat) (x1 : Int32) (x2 : Int32) (x3 : Int32) (f4 : Fn), VF p l e { frames := 3, cells := 0, slots := 0, locals := 64 } s m ([.ref a0, .int u1] : List Value).toArray below meth c 0 0 D A 4 (fun r => MQ below (QcX ((fun y : Int32 × Fn => some (Value.int y.1)) r) D ((fun y : Int32 × Fn => [eM a0 a1 a2 a3 a4 a5 f0, eA cI 200 a1 f1, eA cI 5 a2 f2, eA cI 5 a3 f3, eA cI 306 a4 y.2, eA cI 612 a5 f5]) r) A) ([.ref a0, .int u1] : List Value).toArray s 0 0 A) (zX5_puts_k55 n f2 f4 x1 x2 x3) [eM a0 a1 a2 a3 a4 a5 f0, eA cI 200 a1 f1, eA cI 5 a2 f2, eA cI 5 a3 f3, eA cI 306 a4 f4, eA cI 612 a5 f5] 55 [(0, .ref a0), (1, .int x1), (2, .int x2), (3, .int x3)] [] := by
    intro n
    induction n with
    | zero =>
      intro x1 x2 x3 f4
      exact VF.eq (zX5_puts_k55.eq_1 _ _ _ _ _) VF.nn
    | succ n ih =>
      intro x1 x2 x3 f4
      refine VF.eq (zX5_puts_k55.eq_2 _ _ _ _ _ _) ?_
      refine VF.iload_n C 3 dX5_puts_55 rfl ?_
      refine VF.bipush C dX5_puts_56 kb_16 ?_
      refine VF.icmp_ge C 78 dX5_puts_58 rfl (fun h3 => ?_) (fun h3 => ?_)
      · exact VF.lvs [0, 1, 2] rfl (k78 x1 x2 f4)
      · refine VF.aload_n C 0 dX5_puts_61 rfl ?_
        refine VF.get C fl_X5_19 0 rfl rfl dX5_puts_62 ?_
        refine VF.sipush C dX5_puts_65 ks_272 ?_
        refine VF.iload_n C 3 dX5_puts_68 rfl ?_
        refine VF.iadd C dX5_puts_69 ?_
        refine VF.iconst C dX5_puts_70 kc_0 ?_
        refine VF.iast C 4 rfl (ws' := [eM a0 a1 a2 a3 a4 a5 f0, eA cI 200 a1 f1, eA cI 5 a2 f2, eA cI 5 a3 f3, eA cI 306 a4 (upd f4 (ix (272 + x3)) 0), eA cI 612 a5 f5]) rfl dX5_puts_71 ?_
        refine VF.iinc C 3 [1, 2, 3, 0] dX5_puts_72 rfl (v := (x3 + 1)) rfl (Nat.le_of_ble_eq_true rfl) (lv' := [(0, .ref a0), (1, .int x1), (2, .int x2), (3, .int (x3 + 1))]) rfl ?_
        refine VF.goto C 55 dX5_puts_75 rfl ?_
        exact ih x1 x2 (x3 + 1) (upd f4 (ix (272 + x3)) 0)
  refine VF.lve (lv' := [(0, .ref a0), (1, .int u1)]) rfl ?_
  refine VF.eq (zX5_puts.eq_1 f2 f4 u1) ?_
  refine VF.aload_n C 0 dX5_puts_0 rfl ?_
  refine VF.get C fl_X5_19 0 rfl rfl dX5_puts_1 ?_
  refine VF.sipush C dX5_puts_4 ks_299 ?_
  refine VF.ialdK C 4 299 li_299 (Nat.le_of_ble_eq_true rfl) (Nat.le_of_ble_eq_true rfl) rfl dX5_puts_7 ?_
  refine VF.istore_n C [1, 2, 0] dX5_puts_8 rfl (Nat.le_of_ble_eq_true rfl) (lv' := [(0, .ref a0), (1, .int u1), (2, .int (f4 299))]) rfl ?_
  refine VF.aload_n C 0 dX5_puts_9 rfl ?_
  refine VF.get C fl_X5_19 0 rfl rfl dX5_puts_10 ?_
  refine VF.sipush C dX5_puts_13 ks_304 ?_
  refine VF.aload_n C 0 dX5_puts_16 rfl ?_
  refine VF.get C fl_X5_19 0 rfl rfl dX5_puts_17 ?_
  refine VF.sipush C dX5_puts_20 ks_304 ?_
  refine VF.ialdK C 4 304 li_304 (Nat.le_of_ble_eq_true rfl) (Nat.le_of_ble_eq_true rfl) rfl dX5_puts_23 ?_
  refine VF.bipush C dX5_puts_24 kb_8 ?_
  refine VF.aload_n C 0 dX5_puts_26 rfl ?_
  refine VF.get C fl_X5_19 0 rfl rfl dX5_puts_27 ?_
  refine VF.sipush C dX5_puts_30 ks_289 ?_
  refine VF.ialdK C 4 289 li_289 (Nat.le_of_ble_eq_true rfl) (Nat.le_of_ble_eq_true rfl) rfl dX5_puts_33 ?_
  refine VF.ishr C dX5_puts_34 ?_
  refine VF.iadd C dX5_puts_35 ?_
  refine VF.ldc C (v := 1000000) wc_X5_98 dX5_puts_36 ?_
  refine VF.iremK C (by decide) dX5_puts_38 ?_
  refine VF.iastK C 4 304 li_304 (Nat.le_of_ble_eq_true rfl) (Nat.le_of_ble_eq_true rfl) rfl (ws' := [eM a0 a1 a2 a3 a4 a5 f0, eA cI 200 a1 f1, eA cI 5 a2 f2, eA cI 5 a3 f3, eA cI 306 a4 (upd f4 304 (irm ((f4 304) + (isr 8 (f4 289))) 1000000)), eA cI 612 a5 f5]) rfl dX5_puts_39 ?_
  refine VF.iload_n C 2 dX5_puts_40 rfl ?_
  refine VF.if_ne C 78 dX5_puts_41 rfl (fun h1 => ?_) (fun h1 => ?_)
  · exact k78 u1 (f4 299) (upd f4 304 (irm ((f4 304) + (isr 8 (f4 289))) 1000000))
  · refine VF.aload_n C 0 dX5_puts_44 rfl ?_
    refine VF.get C fl_X5_19 0 rfl rfl dX5_puts_45 ?_
    refine VF.sipush C dX5_puts_48 ks_300 ?_
    refine VF.iload_n C 1 dX5_puts_51 rfl ?_
    refine VF.iastK C 4 300 li_300 (Nat.le_of_ble_eq_true rfl) (Nat.le_of_ble_eq_true rfl) rfl (ws' := [eM a0 a1 a2 a3 a4 a5 f0, eA cI 200 a1 f1, eA cI 5 a2 f2, eA cI 5 a3 f3, eA cI 306 a4 (upd (upd f4 304 (irm ((f4 304) + (isr 8 (f4 289))) 1000000)) 300 u1), eA cI 612 a5 f5]) rfl dX5_puts_52 ?_
    refine VF.iconst C dX5_puts_53 kc_0 ?_
    refine VF.istore_n C [1, 2, 3, 0] dX5_puts_54 rfl (Nat.le_of_ble_eq_true rfl) (lv' := [(0, .ref a0), (1, .int u1), (2, .int (f4 299)), (3, .int 0)]) rfl ?_
    exact k55 4096 u1 (f4 299) 0 (upd (upd f4 304 (irm ((f4 304) + (isr 8 (f4 289))) 1000000)) 300 u1)
set_option maxHeartbeats 4000000 in
set_option maxRecDepth 100000 in
theorem mtX5_put (l : Launch) (D : va_G) (cI cZ : ClassId) (a0 a1 a2 a3 a4 a5 : Nat) (f0 f1 f2 f3 f4 f5 : Fn) (u1 : Int32) : Ctr l yX5_put cX5_put 2 (some .int) 4 87 D cI cZ [.ref a0, .int u1] [eM a0 a1 a2 a3 a4 a5 f0, eA cI 200 a1 f1, eA cI 5 a2 f2, eA cI 5 a3 f3, eA cI 306 a4 f4, eA cI 612 a5 f5] (zX5_put f2 f4 u1) (fun y : Int32 × Fn => some (Value.int y.1)) (fun y : Int32 × Fn => [eM a0 a1 a2 a3 a4 a5 f0, eA cI 200 a1 f1, eA cI 5 a2 f2, eA cI 5 a3 f3, eA cI 306 a4 y.2, eA cI 612 a5 f5]) := by
  refine Ctr.of (by decide) (Nat.le_of_ble_eq_true rfl) ?_
  intro p e s m below meth c A C
  have C : CX p s m ([.ref a0, .int u1] : List Value).toArray meth c cX5_put 2 RX5 D cI cZ A (some .int) := C
  refine VF.lve (lv' := [(0, .ref a0), (1, .int u1)]) rfl ?_
  refine VF.eq (zX5_put.eq_1 f2 f4 u1) ?_
  refine VF.iload_n C 1 dX5_put_0 rfl ?_
  refine VF.i2l C dX5_put_1 ?_
  refine VF.lconst (v := 0) C dX5_put_2 (by decide) ?_
  refine VF.ldc2 C (v := 255) wc_X5_102 dX5_put_3 ?_
  refine VF.callSi C (As := [.long (Int32.toInt64 u1), .long (0 : Int64), .long (255 : Int64)]) (rest := []) lk_X5_40 (mtX5_in l D cI cZ (Int32.toInt64 u1) (0 : Int64) (255 : Int64)) (fun y => y) (fun _ => rfl) [none, none, none, none, none, none] ⟨rfl, rfl⟩ (ws' := fun y => [eM a0 a1 a2 a3 a4 a5 f0, eA cI 200 a1 f1, eA cI 5 a2 f2, eA cI 5 a3 f3, eA cI 306 a4 f4, eA cI 612 a5 f5]) (fun _ => ⟨rfl, rfl, rfl, rfl, rfl, rfl, trivial⟩) rfl rfl (Nat.le_of_ble_eq_true rfl) ⟨Nat.le_of_ble_eq_true rfl, Nat.le_of_ble_eq_true rfl⟩ dX5_put_6 ⟨Nat.le_refl 0, Nat.le_refl 0⟩ (fun y1 => ?_)
  refine VF.if_ne C 14 dX5_put_9 rfl (fun h1 => ?_) (fun h1 => ?_)
  · refine VF.aload_n C 0 dX5_put_14 rfl ?_
    refine VF.get C fl_X5_19 0 rfl rfl dX5_put_15 ?_
    refine VF.sipush C dX5_put_18 ks_298 ?_
    refine VF.ialdK C 4 298 li_298 (Nat.le_of_ble_eq_true rfl) (Nat.le_of_ble_eq_true rfl) rfl dX5_put_21 ?_
    refine VF.if_ne C 30 dX5_put_22 rfl (fun h2 => ?_) (fun h2 => ?_)
    · refine VF.aload_n C 0 dX5_put_30 rfl ?_
      refine VF.iload_n C 1 dX5_put_31 rfl ?_
      refine VF.callVi C (b := a0) (As := [.int u1]) (rest := []) lk_X5_104 (mtX5_puts l D cI cZ a0 a1 a2 a3 a4 a5 f0 f1 f2 f3 f4 f5 u1) (fun y => y.1) (fun _ => rfl) [some 0, some 1, some 2, some 3, some 4, some 5] ⟨rfl, rfl⟩ (ws' := fun y => [eM a0 a1 a2 a3 a4 a5 f0, eA cI 200 a1 f1, eA cI 5 a2 f2, eA cI 5 a3 f3, eA cI 306 a4 y.2, eA cI 612 a5 f5]) (fun _ => ⟨⟨rfl, rfl, rfl⟩, ⟨rfl, rfl, rfl⟩, ⟨rfl, rfl, rfl⟩, ⟨rfl, rfl, rfl⟩, ⟨rfl, rfl, rfl⟩, ⟨rfl, rfl, rfl⟩, trivial⟩) (ci := 5) rfl rfl rfl rfl (Nat.le_of_ble_eq_true rfl) ⟨Nat.le_of_ble_eq_true rfl, Nat.le_of_ble_eq_true rfl⟩ dX5_put_32 ⟨Nat.le_refl 0, Nat.le_refl 0⟩ (fun y2 => ?_)
      exact VF.iret C rfl rfl dX5_put_35
    · refine VF.bipush C dX5_put_25 kb_m2 ?_
      refine VF.goto C 35 dX5_put_27 rfl ?_
      exact VF.iret C rfl rfl dX5_put_35
  · refine VF.iconst C dX5_put_12 kc_m1 ?_
    exact VF.iret C rfl rfl dX5_put_13
