set_option maxHeartbeats 4000000 in
set_option maxRecDepth 100000 in
theorem mtX4_write (l : Launch) (D : va_G) (cI cZ : ClassId) (a0 a1 a2 a3 a4 a5 a6 a7 a8 a9 a10 a11 a12 a13 a14 a15 a16 a17 a18 a19 a20 a21 : Nat) (f0 f1 f2 f3 f4 f5 f6 f7 f8 f9 f10 f11 f12 f13 f14 f15 f16 f17 f18 f19 f20 f21 : Fn) (u1 : Int32) : Ctr l yX4_write cX4_write 2 (some .int) 1 21 D cI cZ [.ref a0, .int u1] [eF a0 a1 a4 a10 a16 f0, eT a1 a2 a3 f1, eA cI 200 a2 f2, eS a3 f3, eC a4 a5 a6 a8 a9 f4, eS a5 f5, eW a6 a7 f6, eA cI 16 a7 f7, eA cI 256 a8 f8, eA cZ 8 a9 f9, eC a10 a11 a12 a14 a15 f10, eS a11 f11, eW a12 a13 f12, eA cI 16 a13 f13, eA cI 256 a14 f14, eA cZ 8 a15 f15, eC a16 a17 a18 a20 a21 f16, eS a17 f17, eW a18 a19 f18, eA cI 16 a19 f19, eA cI 256 a20 f20, eA cZ 8 a21 f21] (zX4_write f1 f2 u1) (fun y : Int32 × Fn × Fn => some (Value.int y.1)) (fun y : Int32 × Fn × Fn => [eF a0 a1 a4 a10 a16 f0, eT a1 a2 a3 y.2.1, eA cI 200 a2 y.2.2, eS a3 f3, eC a4 a5 a6 a8 a9 f4, eS a5 f5, eW a6 a7 f6, eA cI 16 a7 f7, eA cI 256 a8 f8, eA cZ 8 a9 f9, eC a10 a11 a12 a14 a15 f10, eS a11 f11, eW a12 a13 f12, eA cI 16 a13 f13, eA cI 256 a14 f14, eA cZ 8 a15 f15, eC a16 a17 a18 a20 a21 f16, eS a17 f17, eW a18 a19 f18, eA cI 16 a19 f19, eA cI 256 a20 f20, eA cZ 8 a21 f21]) := by
  refine Ctr.of (by decide) (Nat.le_of_ble_eq_true rfl) ?_
  intro p e s m below meth c A C
  have C : CX p s m ([.ref a0, .int u1] : List Value).toArray meth c cX4_write 2 RX4 D cI cZ A (some .int) := C
  refine VF.lve (lv' := [(0, .ref a0), (1, .int u1)]) rfl ?_
  refine VF.eq (zX4_write.eq_1 f1 f2 u1) ?_
  refine VF.iload_n C 1 dX4_write_0 rfl ?_
  refine VF.bipush C dX4_write_1 kb_32 ?_
  refine VF.icmp_lt C 12 dX4_write_3 rfl (fun h1 => ?_) (fun h1 => ?_)
  · refine VF.iconst C dX4_write_12 kc_m1 ?_
    exact VF.iret C rfl rfl dX4_write_13
  · refine VF.iload_n C 1 dX4_write_6 rfl ?_
    refine VF.bipush C dX4_write_7 kb_126 ?_
    refine VF.icmp_le C 14 dX4_write_9 rfl (fun h2 => ?_) (fun h2 => ?_)
    · refine VF.aload_n C 0 dX4_write_14 rfl ?_
      refine VF.get C fl_X4_10 0 rfl rfl dX4_write_15 ?_
      refine VF.iload_n C 1 dX4_write_18 rfl ?_
      refine VF.callVi C (b := a1) (As := [.int u1]) (rest := []) lk_X4_33 (mtX2_append l D cI cZ a1 a2 a3 f1 f2 f3 u1) (fun y => y.1) (fun _ => rfl) [1, 2, 3] rfl rfl (fun _ => rfl) (ws' := fun y => [eF a0 a1 a4 a10 a16 f0, eT a1 a2 a3 y.2.1, eA cI 200 a2 y.2.2, eS a3 f3, eC a4 a5 a6 a8 a9 f4, eS a5 f5, eW a6 a7 f6, eA cI 16 a7 f7, eA cI 256 a8 f8, eA cZ 8 a9 f9, eC a10 a11 a12 a14 a15 f10, eS a11 f11, eW a12 a13 f12, eA cI 16 a13 f13, eA cI 256 a14 f14, eA cZ 8 a15 f15, eC a16 a17 a18 a20 a21 f16, eS a17 f17, eW a18 a19 f18, eA cI 16 a19 f19, eA cI 256 a20 f20, eA cZ 8 a21 f21]) (fun _ => rfl) (ci := 2) rfl rfl rfl rfl (Nat.le_of_ble_eq_true rfl) ⟨Nat.le_of_ble_eq_true rfl, Nat.le_of_ble_eq_true rfl⟩ dX4_write_19 ⟨Nat.le_refl 0, Nat.le_refl 0⟩ (fun y1 => ?_)
      refine VF.if_ne C 28 dX4_write_22 rfl (fun h3 => ?_) (fun h3 => ?_)
      · refine VF.aload_n C 0 dX4_write_28 rfl ?_
        refine VF.get C fl_X4_10 0 rfl rfl dX4_write_29 ?_
        refine VF.callVi C (b := a1) (As := []) (rest := []) lk_X4_37 (mtX2_length l D cI cZ a1 a2 a3 y1.2.1 y1.2.2 f3) (fun y => y) (fun _ => rfl) [1, 2, 3] rfl rfl (fun _ => rfl) (ws' := fun y => [eF a0 a1 a4 a10 a16 f0, eT a1 a2 a3 y1.2.1, eA cI 200 a2 y1.2.2, eS a3 f3, eC a4 a5 a6 a8 a9 f4, eS a5 f5, eW a6 a7 f6, eA cI 16 a7 f7, eA cI 256 a8 f8, eA cZ 8 a9 f9, eC a10 a11 a12 a14 a15 f10, eS a11 f11, eW a12 a13 f12, eA cI 16 a13 f13, eA cI 256 a14 f14, eA cZ 8 a15 f15, eC a16 a17 a18 a20 a21 f16, eS a17 f17, eW a18 a19 f18, eA cI 16 a19 f19, eA cI 256 a20 f20, eA cZ 8 a21 f21]) (fun _ => rfl) (ci := 2) rfl rfl rfl rfl (Nat.le_of_ble_eq_true rfl) ⟨Nat.le_of_ble_eq_true rfl, Nat.le_of_ble_eq_true rfl⟩ dX4_write_32 ⟨Nat.le_refl 0, Nat.le_refl 0⟩ (fun y2 => ?_)
        exact VF.iret C rfl rfl dX4_write_35
      · refine VF.bipush C dX4_write_25 kb_m3 ?_
        exact VF.iret C rfl rfl dX4_write_27
    · refine VF.iconst C dX4_write_12 kc_m1 ?_
      exact VF.iret C rfl rfl dX4_write_13
set_option maxHeartbeats 4000000 in
set_option maxRecDepth 100000 in
theorem mtX4_wipe (l : Launch) (D : va_G) (cI cZ : ClassId) (a0 a1 a2 a3 a4 a5 a6 a7 a8 a9 a10 a11 a12 a13 a14 a15 a16 a17 a18 a19 a20 a21 : Nat) (f0 f1 f2 f3 f4 f5 f6 f7 f8 f9 f10 f11 f12 f13 f14 f15 f16 f17 f18 f19 f20 f21 : Fn) : Ctr l yX4_wipe cX4_wipe 2 (some .int) 1 20 D cI cZ [.ref a0] [eF a0 a1 a4 a10 a16 f0, eT a1 a2 a3 f1, eA cI 200 a2 f2, eS a3 f3, eC a4 a5 a6 a8 a9 f4, eS a5 f5, eW a6 a7 f6, eA cI 16 a7 f7, eA cI 256 a8 f8, eA cZ 8 a9 f9, eC a10 a11 a12 a14 a15 f10, eS a11 f11, eW a12 a13 f12, eA cI 16 a13 f13, eA cI 256 a14 f14, eA cZ 8 a15 f15, eC a16 a17 a18 a20 a21 f16, eS a17 f17, eW a18 a19 f18, eA cI 16 a19 f19, eA cI 256 a20 f20, eA cZ 8 a21 f21] (zX4_wipe f1) (fun y : Int32 × Fn => some (Value.int y.1)) (fun y : Int32 × Fn => [eF a0 a1 a4 a10 a16 f0, eT a1 a2 a3 y.2, eA cI 200 a2 f2, eS a3 f3, eC a4 a5 a6 a8 a9 f4, eS a5 f5, eW a6 a7 f6, eA cI 16 a7 f7, eA cI 256 a8 f8, eA cZ 8 a9 f9, eC a10 a11 a12 a14 a15 f10, eS a11 f11, eW a12 a13 f12, eA cI 16 a13 f13, eA cI 256 a14 f14, eA cZ 8 a15 f15, eC a16 a17 a18 a20 a21 f16, eS a17 f17, eW a18 a19 f18, eA cI 16 a19 f19, eA cI 256 a20 f20, eA cZ 8 a21 f21]) := by
  refine Ctr.of (by decide) (Nat.le_of_ble_eq_true rfl) ?_
  intro p e s m below meth c A C
  have C : CX p s m ([.ref a0] : List Value).toArray meth c cX4_wipe 2 RX4 D cI cZ A (some .int) := C
  refine VF.lve (lv' := [(0, .ref a0)]) rfl ?_
  refine VF.eq (zX4_wipe.eq_1 f1) ?_
  refine VF.aload_n C 0 dX4_wipe_0 rfl ?_
  refine VF.get C fl_X4_10 0 rfl rfl dX4_wipe_1 ?_
  refine VF.callVi C (b := a1) (As := []) (rest := []) lk_X4_37 (mtX2_length l D cI cZ a1 a2 a3 f1 f2 f3) (fun y => y) (fun _ => rfl) [1, 2, 3] rfl rfl (fun _ => rfl) (ws' := fun y => [eF a0 a1 a4 a10 a16 f0, eT a1 a2 a3 f1, eA cI 200 a2 f2, eS a3 f3, eC a4 a5 a6 a8 a9 f4, eS a5 f5, eW a6 a7 f6, eA cI 16 a7 f7, eA cI 256 a8 f8, eA cZ 8 a9 f9, eC a10 a11 a12 a14 a15 f10, eS a11 f11, eW a12 a13 f12, eA cI 16 a13 f13, eA cI 256 a14 f14, eA cZ 8 a15 f15, eC a16 a17 a18 a20 a21 f16, eS a17 f17, eW a18 a19 f18, eA cI 16 a19 f19, eA cI 256 a20 f20, eA cZ 8 a21 f21]) (fun _ => rfl) (ci := 2) rfl rfl rfl rfl (Nat.le_of_ble_eq_true rfl) ⟨Nat.le_of_ble_eq_true rfl, Nat.le_of_ble_eq_true rfl⟩ dX4_wipe_4 ⟨Nat.le_refl 0, Nat.le_refl 0⟩ (fun y1 => ?_)
  refine VF.istore_n C [1, 0] dX4_wipe_7 rfl (Nat.le_of_ble_eq_true rfl) (lv' := [(0, .ref a0), (1, .int y1)]) rfl ?_
  refine VF.aload_n C 0 dX4_wipe_8 rfl ?_
  refine VF.get C fl_X4_10 0 rfl rfl dX4_wipe_9 ?_
  refine VF.callVv C (b := a1) (As := []) (rest := []) lk_X4_41 (mtX2_clear l D cI cZ a1 a2 a3 f1 f2 f3) (fun _ => rfl) [1, 2, 3] rfl rfl (fun _ => rfl) (ws' := fun y => [eF a0 a1 a4 a10 a16 f0, eT a1 a2 a3 y, eA cI 200 a2 f2, eS a3 f3, eC a4 a5 a6 a8 a9 f4, eS a5 f5, eW a6 a7 f6, eA cI 16 a7 f7, eA cI 256 a8 f8, eA cZ 8 a9 f9, eC a10 a11 a12 a14 a15 f10, eS a11 f11, eW a12 a13 f12, eA cI 16 a13 f13, eA cI 256 a14 f14, eA cZ 8 a15 f15, eC a16 a17 a18 a20 a21 f16, eS a17 f17, eW a18 a19 f18, eA cI 16 a19 f19, eA cI 256 a20 f20, eA cZ 8 a21 f21]) (fun _ => rfl) (ci := 2) rfl rfl rfl rfl (Nat.le_of_ble_eq_true rfl) ⟨Nat.le_of_ble_eq_true rfl, Nat.le_of_ble_eq_true rfl⟩ dX4_wipe_12 ⟨Nat.le_refl 0, Nat.le_refl 0⟩ (fun y2 => ?_)
  refine VF.iload_n C 1 dX4_wipe_15 rfl ?_
  exact VF.iret C rfl rfl dX4_wipe_16
set_option maxHeartbeats 4000000 in
set_option maxRecDepth 100000 in
theorem mtX4_fault (l : Launch) (D : va_G) (cI cZ : ClassId) (a0 a1 a2 a3 a4 a5 a6 a7 a8 a9 a10 a11 a12 a13 a14 a15 a16 a17 a18 a19 a20 a21 : Nat) (f0 f1 f2 f3 f4 f5 f6 f7 f8 f9 f10 f11 f12 f13 f14 f15 f16 f17 f18 f19 f20 f21 : Fn) : Ctr l yX4_fault cX4_fault 1 (some .int) 5 106 D cI cZ [.ref a0] [eF a0 a1 a4 a10 a16 f0, eT a1 a2 a3 f1, eA cI 200 a2 f2, eS a3 f3, eC a4 a5 a6 a8 a9 f4, eS a5 f5, eW a6 a7 f6, eA cI 16 a7 f7, eA cI 256 a8 f8, eA cZ 8 a9 f9, eC a10 a11 a12 a14 a15 f10, eS a11 f11, eW a12 a13 f12, eA cI 16 a13 f13, eA cI 256 a14 f14, eA cZ 8 a15 f15, eC a16 a17 a18 a20 a21 f16, eS a17 f17, eW a18 a19 f18, eA cI 16 a19 f19, eA cI 256 a20 f20, eA cZ 8 a21 f21] (zX4_fault f1 f2 f3) (fun y : Int32 × Fn × Fn => some (Value.int y.1)) (fun y : Int32 × Fn × Fn => [eF a0 a1 a4 a10 a16 f0, eT a1 a2 a3 y.2.1, eA cI 200 a2 f2, eS a3 y.2.2, eC a4 a5 a6 a8 a9 f4, eS a5 f5, eW a6 a7 f6, eA cI 16 a7 f7, eA cI 256 a8 f8, eA cZ 8 a9 f9, eC a10 a11 a12 a14 a15 f10, eS a11 f11, eW a12 a13 f12, eA cI 16 a13 f13, eA cI 256 a14 f14, eA cZ 8 a15 f15, eC a16 a17 a18 a20 a21 f16, eS a17 f17, eW a18 a19 f18, eA cI 16 a19 f19, eA cI 256 a20 f20, eA cZ 8 a21 f21]) := by
  refine Ctr.of (by decide) (Nat.le_of_ble_eq_true rfl) ?_
  intro p e s m below meth c A C
  have C : CX p s m ([.ref a0] : List Value).toArray meth c cX4_fault 1 RX4 D cI cZ A (some .int) := C
  refine VF.lve (lv' := [(0, .ref a0)]) rfl ?_
  refine VF.eq (zX4_fault.eq_1 f1 f2 f3) ?_
  refine VF.aload_n C 0 dX4_fault_0 rfl ?_
  refine VF.get C fl_X4_10 0 rfl rfl dX4_fault_1 ?_
  refine VF.callVv C (b := a1) (As := []) (rest := []) lk_X4_44 (mtX2_examine l D cI cZ a1 a2 a3 f1 f2 f3) (fun _ => rfl) [1, 2, 3] rfl rfl (fun _ => rfl) (ws' := fun y => [eF a0 a1 a4 a10 a16 f0, eT a1 a2 a3 y.1, eA cI 200 a2 f2, eS a3 y.2, eC a4 a5 a6 a8 a9 f4, eS a5 f5, eW a6 a7 f6, eA cI 16 a7 f7, eA cI 256 a8 f8, eA cZ 8 a9 f9, eC a10 a11 a12 a14 a15 f10, eS a11 f11, eW a12 a13 f12, eA cI 16 a13 f13, eA cI 256 a14 f14, eA cZ 8 a15 f15, eC a16 a17 a18 a20 a21 f16, eS a17 f17, eW a18 a19 f18, eA cI 16 a19 f19, eA cI 256 a20 f20, eA cZ 8 a21 f21]) (fun _ => rfl) (ci := 2) rfl rfl rfl rfl (Nat.le_of_ble_eq_true rfl) ⟨Nat.le_of_ble_eq_true rfl, Nat.le_of_ble_eq_true rfl⟩ dX4_fault_4 ⟨Nat.le_refl 0, Nat.le_refl 0⟩ (fun y1 => ?_)
  refine VF.aload_n C 0 dX4_fault_7 rfl ?_
  refine VF.get C fl_X4_10 0 rfl rfl dX4_fault_8 ?_
  refine VF.callVi C (b := a1) (As := []) (rest := []) lk_X4_47 (mtX2_faultPlace l D cI cZ a1 a2 a3 y1.1 f2 y1.2) (fun y => y) (fun _ => rfl) [1, 2, 3] rfl rfl (fun _ => rfl) (ws' := fun y => [eF a0 a1 a4 a10 a16 f0, eT a1 a2 a3 y1.1, eA cI 200 a2 f2, eS a3 y1.2, eC a4 a5 a6 a8 a9 f4, eS a5 f5, eW a6 a7 f6, eA cI 16 a7 f7, eA cI 256 a8 f8, eA cZ 8 a9 f9, eC a10 a11 a12 a14 a15 f10, eS a11 f11, eW a12 a13 f12, eA cI 16 a13 f13, eA cI 256 a14 f14, eA cZ 8 a15 f15, eC a16 a17 a18 a20 a21 f16, eS a17 f17, eW a18 a19 f18, eA cI 16 a19 f19, eA cI 256 a20 f20, eA cZ 8 a21 f21]) (fun _ => rfl) (ci := 2) rfl rfl rfl rfl (Nat.le_of_ble_eq_true rfl) ⟨Nat.le_of_ble_eq_true rfl, Nat.le_of_ble_eq_true rfl⟩ dX4_fault_11 ⟨Nat.le_refl 0, Nat.le_refl 0⟩ (fun y2 => ?_)
  exact VF.iret C rfl rfl dX4_fault_14
set_option maxHeartbeats 4000000 in
set_option maxRecDepth 100000 in
theorem mtX4_lay (l : Launch) (D : va_G) (cI cZ : ClassId) (a0 a1 a2 a3 a4 a5 a6 a7 a8 a9 a10 a11 a12 a13 a14 a15 a16 a17 a18 a19 a20 a21 : Nat) (f0 f1 f2 f3 f4 f5 f6 f7 f8 f9 f10 f11 f12 f13 f14 f15 f16 f17 f18 f19 f20 f21 : Fn) : Ctr l yX4_lay cX4_lay 1 (some .int) 5 106 D cI cZ [.ref a0] [eF a0 a1 a4 a10 a16 f0, eT a1 a2 a3 f1, eA cI 200 a2 f2, eS a3 f3, eC a4 a5 a6 a8 a9 f4, eS a5 f5, eW a6 a7 f6, eA cI 16 a7 f7, eA cI 256 a8 f8, eA cZ 8 a9 f9, eC a10 a11 a12 a14 a15 f10, eS a11 f11, eW a12 a13 f12, eA cI 16 a13 f13, eA cI 256 a14 f14, eA cZ 8 a15 f15, eC a16 a17 a18 a20 a21 f16, eS a17 f17, eW a18 a19 f18, eA cI 16 a19 f19, eA cI 256 a20 f20, eA cZ 8 a21 f21] (zX4_lay f0 f1 f2 f3 f4 f5 f6 f7 f8 f9) (fun y : Int32 × Fn × Fn × Fn × Fn × Fn × Fn × Fn × Fn × Fn => some (Value.int y.1)) (fun y : Int32 × Fn × Fn × Fn × Fn × Fn × Fn × Fn × Fn × Fn => [eF a0 a1 a4 a10 a16 y.2.1, eT a1 a2 a3 y.2.2.1, eA cI 200 a2 f2, eS a3 y.2.2.2.1, eC a4 a5 a6 a8 a9 y.2.2.2.2.1, eS a5 y.2.2.2.2.2.1, eW a6 a7 y.2.2.2.2.2.2.1, eA cI 16 a7 y.2.2.2.2.2.2.2.1, eA cI 256 a8 y.2.2.2.2.2.2.2.2.1, eA cZ 8 a9 y.2.2.2.2.2.2.2.2.2, eC a10 a11 a12 a14 a15 f10, eS a11 f11, eW a12 a13 f12, eA cI 16 a13 f13, eA cI 256 a14 f14, eA cZ 8 a15 f15, eC a16 a17 a18 a20 a21 f16, eS a17 f17, eW a18 a19 f18, eA cI 16 a19 f19, eA cI 256 a20 f20, eA cZ 8 a21 f21]) := by
  refine Ctr.of (by decide) (Nat.le_of_ble_eq_true rfl) ?_
  intro p e s m below meth c A C
  have C : CX p s m ([.ref a0] : List Value).toArray meth c cX4_lay 1 RX4 D cI cZ A (some .int) := C
  refine VF.lve (lv' := [(0, .ref a0)]) rfl ?_
  refine VF.eq (zX4_lay.eq_1 f0 f1 f2 f3 f4 f5 f6 f7 f8 f9) ?_
  refine VF.aload_n C 0 dX4_lay_0 rfl ?_
  refine VF.get C fl_X4_10 0 rfl rfl dX4_lay_1 ?_
  refine VF.callVv C (b := a1) (As := []) (rest := []) lk_X4_44 (mtX2_examine l D cI cZ a1 a2 a3 f1 f2 f3) (fun _ => rfl) [1, 2, 3] rfl rfl (fun _ => rfl) (ws' := fun y => [eF a0 a1 a4 a10 a16 f0, eT a1 a2 a3 y.1, eA cI 200 a2 f2, eS a3 y.2, eC a4 a5 a6 a8 a9 f4, eS a5 f5, eW a6 a7 f6, eA cI 16 a7 f7, eA cI 256 a8 f8, eA cZ 8 a9 f9, eC a10 a11 a12 a14 a15 f10, eS a11 f11, eW a12 a13 f12, eA cI 16 a13 f13, eA cI 256 a14 f14, eA cZ 8 a15 f15, eC a16 a17 a18 a20 a21 f16, eS a17 f17, eW a18 a19 f18, eA cI 16 a19 f19, eA cI 256 a20 f20, eA cZ 8 a21 f21]) (fun _ => rfl) (ci := 2) rfl rfl rfl rfl (Nat.le_of_ble_eq_true rfl) ⟨Nat.le_of_ble_eq_true rfl, Nat.le_of_ble_eq_true rfl⟩ dX4_lay_4 ⟨Nat.le_refl 0, Nat.le_refl 0⟩ (fun y1 => ?_)
  refine VF.aload_n C 0 dX4_lay_7 rfl ?_
  refine VF.get C fl_X4_10 0 rfl rfl dX4_lay_8 ?_
  refine VF.callVi C (b := a1) (As := []) (rest := []) lk_X4_50 (mtX2_isChecked l D cI cZ a1 a2 a3 y1.1 f2 y1.2) (fun y => y) (fun _ => rfl) [1, 2, 3] rfl rfl (fun _ => rfl) (ws' := fun y => [eF a0 a1 a4 a10 a16 f0, eT a1 a2 a3 y1.1, eA cI 200 a2 f2, eS a3 y1.2, eC a4 a5 a6 a8 a9 f4, eS a5 f5, eW a6 a7 f6, eA cI 16 a7 f7, eA cI 256 a8 f8, eA cZ 8 a9 f9, eC a10 a11 a12 a14 a15 f10, eS a11 f11, eW a12 a13 f12, eA cI 16 a13 f13, eA cI 256 a14 f14, eA cZ 8 a15 f15, eC a16 a17 a18 a20 a21 f16, eS a17 f17, eW a18 a19 f18, eA cI 16 a19 f19, eA cI 256 a20 f20, eA cZ 8 a21 f21]) (fun _ => rfl) (ci := 2) rfl rfl rfl rfl (Nat.le_of_ble_eq_true rfl) ⟨Nat.le_of_ble_eq_true rfl, Nat.le_of_ble_eq_true rfl⟩ dX4_lay_11 ⟨Nat.le_refl 0, Nat.le_refl 0⟩ (fun y2 => ?_)
  refine VF.if_ne C 20 dX4_lay_14 rfl (fun h1 => ?_) (fun h1 => ?_)
  · refine VF.aload_n C 0 dX4_lay_20 rfl ?_
    refine VF.get C fl_X4_19 0 rfl rfl dX4_lay_21 ?_
    refine VF.aload_n C 0 dX4_lay_24 rfl ?_
    refine VF.get C fl_X4_10 0 rfl rfl dX4_lay_25 ?_
    refine VF.callVr C (b := a1) (As := []) (rest := [.ref a4]) lk_X4_54 (mtX2_told l D cI cZ a1 a2 a3 y1.1 f2 y1.2) (fun _ => a3) (fun _ => rfl) [1, 2, 3] rfl rfl (fun _ => rfl) (ws' := fun y => [eF a0 a1 a4 a10 a16 f0, eT a1 a2 a3 y1.1, eA cI 200 a2 f2, eS a3 y1.2, eC a4 a5 a6 a8 a9 f4, eS a5 f5, eW a6 a7 f6, eA cI 16 a7 f7, eA cI 256 a8 f8, eA cZ 8 a9 f9, eC a10 a11 a12 a14 a15 f10, eS a11 f11, eW a12 a13 f12, eA cI 16 a13 f13, eA cI 256 a14 f14, eA cZ 8 a15 f15, eC a16 a17 a18 a20 a21 f16, eS a17 f17, eW a18 a19 f18, eA cI 16 a19 f19, eA cI 256 a20 f20, eA cZ 8 a21 f21]) (fun _ => rfl) (ci := 2) rfl rfl rfl rfl (Nat.le_of_ble_eq_true rfl) ⟨Nat.le_of_ble_eq_true rfl, Nat.le_of_ble_eq_true rfl⟩ dX4_lay_28 ⟨Nat.le_refl 0, Nat.le_refl 0⟩ (fun y3 => ?_)
    refine VF.callVv C (b := a4) (As := [.ref a3]) (rest := []) lk_X4_58 (mtX0_layOut l D cI cZ a4 a5 a6 a7 a8 a9 a3 f4 f5 f6 f7 f8 f9 y1.2) (fun _ => rfl) [4, 5, 6, 7, 8, 9, 3] rfl rfl (fun _ => rfl) (ws' := fun y => [eF a0 a1 a4 a10 a16 f0, eT a1 a2 a3 y1.1, eA cI 200 a2 f2, eS a3 y1.2, eC a4 a5 a6 a8 a9 y.1, eS a5 y.2.1, eW a6 a7 y.2.2.1, eA cI 16 a7 y.2.2.2.1, eA cI 256 a8 y.2.2.2.2.1, eA cZ 8 a9 y.2.2.2.2.2, eC a10 a11 a12 a14 a15 f10, eS a11 f11, eW a12 a13 f12, eA cI 16 a13 f13, eA cI 256 a14 f14, eA cZ 8 a15 f15, eC a16 a17 a18 a20 a21 f16, eS a17 f17, eW a18 a19 f18, eA cI 16 a19 f19, eA cI 256 a20 f20, eA cZ 8 a21 f21]) (fun _ => rfl) (ci := 0) rfl rfl rfl rfl (Nat.le_of_ble_eq_true rfl) ⟨Nat.le_of_ble_eq_true rfl, Nat.le_of_ble_eq_true rfl⟩ dX4_lay_31 ⟨Nat.le_refl 0, Nat.le_refl 0⟩ (fun y4 => ?_)
    refine VF.aload_n C 0 dX4_lay_34 rfl ?_
    refine VF.iconst C dX4_lay_35 kc_0 ?_
    refine VF.put C fl_X4_29 tyX4 tyX4_ok nmX4 0 rfl rfl rfl (Nat.le_of_ble_eq_true rfl) (ws' := [eF a0 a1 a4 a10 a16 (upd f0 4 0), eT a1 a2 a3 y1.1, eA cI 200 a2 f2, eS a3 y1.2, eC a4 a5 a6 a8 a9 y4.1, eS a5 y4.2.1, eW a6 a7 y4.2.2.1, eA cI 16 a7 y4.2.2.2.1, eA cI 256 a8 y4.2.2.2.2.1, eA cZ 8 a9 y4.2.2.2.2.2, eC a10 a11 a12 a14 a15 f10, eS a11 f11, eW a12 a13 f12, eA cI 16 a13 f13, eA cI 256 a14 f14, eA cZ 8 a15 f15, eC a16 a17 a18 a20 a21 f16, eS a17 f17, eW a18 a19 f18, eA cI 16 a19 f19, eA cI 256 a20 f20, eA cZ 8 a21 f21]) rfl dX4_lay_36 ?_
    refine VF.aload_n C 0 dX4_lay_39 rfl ?_
    refine VF.get C fl_X4_19 0 rfl rfl dX4_lay_40 ?_
    refine VF.callVi C (b := a4) (As := []) (rest := []) lk_X4_62 (mtX0_all l D cI cZ a4 a5 a6 a7 a8 a9 y4.1 y4.2.1 y4.2.2.1 y4.2.2.2.1 y4.2.2.2.2.1 y4.2.2.2.2.2) (fun y => y) (fun _ => rfl) [4, 5, 6, 7, 8, 9] rfl rfl (fun _ => rfl) (ws' := fun y => [eF a0 a1 a4 a10 a16 (upd f0 4 0), eT a1 a2 a3 y1.1, eA cI 200 a2 f2, eS a3 y1.2, eC a4 a5 a6 a8 a9 y4.1, eS a5 y4.2.1, eW a6 a7 y4.2.2.1, eA cI 16 a7 y4.2.2.2.1, eA cI 256 a8 y4.2.2.2.2.1, eA cZ 8 a9 y4.2.2.2.2.2, eC a10 a11 a12 a14 a15 f10, eS a11 f11, eW a12 a13 f12, eA cI 16 a13 f13, eA cI 256 a14 f14, eA cZ 8 a15 f15, eC a16 a17 a18 a20 a21 f16, eS a17 f17, eW a18 a19 f18, eA cI 16 a19 f19, eA cI 256 a20 f20, eA cZ 8 a21 f21]) (fun _ => rfl) (ci := 0) rfl rfl rfl rfl (Nat.le_of_ble_eq_true rfl) ⟨Nat.le_of_ble_eq_true rfl, Nat.le_of_ble_eq_true rfl⟩ dX4_lay_43 ⟨Nat.le_refl 0, Nat.le_refl 0⟩ (fun y5 => ?_)
    exact VF.iret C rfl rfl dX4_lay_46
  · refine VF.bipush C dX4_lay_17 kb_m2 ?_
    exact VF.iret C rfl rfl dX4_lay_19
set_option maxHeartbeats 4000000 in
set_option maxRecDepth 100000 in
theorem mtX4_select (l : Launch) (D : va_G) (cI cZ : ClassId) (a0 a1 a2 a3 a4 a5 a6 a7 a8 a9 a10 a11 a12 a13 a14 a15 a16 a17 a18 a19 a20 a21 : Nat) (f0 f1 f2 f3 f4 f5 f6 f7 f8 f9 f10 f11 f12 f13 f14 f15 f16 f17 f18 f19 f20 f21 : Fn) : Ctr l yX4_select cX4_select 1 (some .int) 3 61 D cI cZ [.ref a0] [eF a0 a1 a4 a10 a16 f0, eT a1 a2 a3 f1, eA cI 200 a2 f2, eS a3 f3, eC a4 a5 a6 a8 a9 f4, eS a5 f5, eW a6 a7 f6, eA cI 16 a7 f7, eA cI 256 a8 f8, eA cZ 8 a9 f9, eC a10 a11 a12 a14 a15 f10, eS a11 f11, eW a12 a13 f12, eA cI 16 a13 f13, eA cI 256 a14 f14, eA cZ 8 a15 f15, eC a16 a17 a18 a20 a21 f16, eS a17 f17, eW a18 a19 f18, eA cI 16 a19 f19, eA cI 256 a20 f20, eA cZ 8 a21 f21] (zX4_select f4 f6 f7) (fun y : Int32 × Fn × Fn => some (Value.int y.1)) (fun y : Int32 × Fn × Fn => [eF a0 a1 a4 a10 a16 f0, eT a1 a2 a3 f1, eA cI 200 a2 f2, eS a3 f3, eC a4 a5 a6 a8 a9 f4, eS a5 f5, eW a6 a7 y.2.1, eA cI 16 a7 y.2.2, eA cI 256 a8 f8, eA cZ 8 a9 f9, eC a10 a11 a12 a14 a15 f10, eS a11 f11, eW a12 a13 f12, eA cI 16 a13 f13, eA cI 256 a14 f14, eA cZ 8 a15 f15, eC a16 a17 a18 a20 a21 f16, eS a17 f17, eW a18 a19 f18, eA cI 16 a19 f19, eA cI 256 a20 f20, eA cZ 8 a21 f21]) := by
  refine Ctr.of (by decide) (Nat.le_of_ble_eq_true rfl) ?_
  intro p e s m below meth c A C
  have C : CX p s m ([.ref a0] : List Value).toArray meth c cX4_select 1 RX4 D cI cZ A (some .int) := C
  refine VF.lve (lv' := [(0, .ref a0)]) rfl ?_
  refine VF.eq (zX4_select.eq_1 f4 f6 f7) ?_
  refine VF.aload_n C 0 dX4_select_0 rfl ?_
  refine VF.get C fl_X4_19 0 rfl rfl dX4_select_1 ?_
  refine VF.callVi C (b := a4) (As := []) (rest := []) lk_X4_65 (mtX0_isSelected l D cI cZ a4 a5 a6 a7 a8 a9 f4 f5 f6 f7 f8 f9) (fun y => y) (fun _ => rfl) [4, 5, 6, 7, 8, 9] rfl rfl (fun _ => rfl) (ws' := fun y => [eF a0 a1 a4 a10 a16 f0, eT a1 a2 a3 f1, eA cI 200 a2 f2, eS a3 f3, eC a4 a5 a6 a8 a9 f4, eS a5 f5, eW a6 a7 f6, eA cI 16 a7 f7, eA cI 256 a8 f8, eA cZ 8 a9 f9, eC a10 a11 a12 a14 a15 f10, eS a11 f11, eW a12 a13 f12, eA cI 16 a13 f13, eA cI 256 a14 f14, eA cZ 8 a15 f15, eC a16 a17 a18 a20 a21 f16, eS a17 f17, eW a18 a19 f18, eA cI 16 a19 f19, eA cI 256 a20 f20, eA cZ 8 a21 f21]) (fun _ => rfl) (ci := 0) rfl rfl rfl rfl (Nat.le_of_ble_eq_true rfl) ⟨Nat.le_of_ble_eq_true rfl, Nat.le_of_ble_eq_true rfl⟩ dX4_select_4 ⟨Nat.le_refl 0, Nat.le_refl 0⟩ (fun y1 => ?_)
  refine VF.if_eq C 13 dX4_select_7 rfl (fun h1 => ?_) (fun h1 => ?_)
  · refine VF.aload_n C 0 dX4_select_13 rfl ?_
    refine VF.get C fl_X4_19 0 rfl rfl dX4_select_14 ?_
    refine VF.callVv C (b := a4) (As := []) (rest := []) lk_X4_68 (mtX0_open l D cI cZ a4 a5 a6 a7 a8 a9 f4 f5 f6 f7 f8 f9) (fun _ => rfl) [4, 5, 6, 7, 8, 9] rfl rfl (fun _ => rfl) (ws' := fun y => [eF a0 a1 a4 a10 a16 f0, eT a1 a2 a3 f1, eA cI 200 a2 f2, eS a3 f3, eC a4 a5 a6 a8 a9 f4, eS a5 f5, eW a6 a7 y.1, eA cI 16 a7 y.2, eA cI 256 a8 f8, eA cZ 8 a9 f9, eC a10 a11 a12 a14 a15 f10, eS a11 f11, eW a12 a13 f12, eA cI 16 a13 f13, eA cI 256 a14 f14, eA cZ 8 a15 f15, eC a16 a17 a18 a20 a21 f16, eS a17 f17, eW a18 a19 f18, eA cI 16 a19 f19, eA cI 256 a20 f20, eA cZ 8 a21 f21]) (fun _ => rfl) (ci := 0) rfl rfl rfl rfl (Nat.le_of_ble_eq_true rfl) ⟨Nat.le_of_ble_eq_true rfl, Nat.le_of_ble_eq_true rfl⟩ dX4_select_17 ⟨Nat.le_refl 0, Nat.le_refl 0⟩ (fun y2 => ?_)
    refine VF.aload_n C 0 dX4_select_20 rfl ?_
    refine VF.get C fl_X4_19 0 rfl rfl dX4_select_21 ?_
    refine VF.callVi C (b := a4) (As := []) (rest := []) lk_X4_71 (mtX0_lanes l D cI cZ a4 a5 a6 a7 a8 a9 f4 f5 y2.1 y2.2 f8 f9) (fun y => y) (fun _ => rfl) [4, 5, 6, 7, 8, 9] rfl rfl (fun _ => rfl) (ws' := fun y => [eF a0 a1 a4 a10 a16 f0, eT a1 a2 a3 f1, eA cI 200 a2 f2, eS a3 f3, eC a4 a5 a6 a8 a9 f4, eS a5 f5, eW a6 a7 y2.1, eA cI 16 a7 y2.2, eA cI 256 a8 f8, eA cZ 8 a9 f9, eC a10 a11 a12 a14 a15 f10, eS a11 f11, eW a12 a13 f12, eA cI 16 a13 f13, eA cI 256 a14 f14, eA cZ 8 a15 f15, eC a16 a17 a18 a20 a21 f16, eS a17 f17, eW a18 a19 f18, eA cI 16 a19 f19, eA cI 256 a20 f20, eA cZ 8 a21 f21]) (fun _ => rfl) (ci := 0) rfl rfl rfl rfl (Nat.le_of_ble_eq_true rfl) ⟨Nat.le_of_ble_eq_true rfl, Nat.le_of_ble_eq_true rfl⟩ dX4_select_24 ⟨Nat.le_refl 0, Nat.le_refl 0⟩ (fun y3 => ?_)
    exact VF.iret C rfl rfl dX4_select_27
  · refine VF.bipush C dX4_select_10 kb_m2 ?_
    exact VF.iret C rfl rfl dX4_select_12
set_option maxHeartbeats 4000000 in
set_option maxRecDepth 100000 in
theorem mtX4_put (l : Launch) (D : va_G) (cI cZ : ClassId) (a0 a1 a2 a3 a4 a5 a6 a7 a8 a9 a10 a11 a12 a13 a14 a15 a16 a17 a18 a19 a20 a21 : Nat) (f0 f1 f2 f3 f4 f5 f6 f7 f8 f9 f10 f11 f12 f13 f14 f15 f16 f17 f18 f19 f20 f21 : Fn) (u1 : Int32) : Ctr l yX4_put cX4_put 2 (some .int) 6 123 D cI cZ [.ref a0, .int u1] [eF a0 a1 a4 a10 a16 f0, eT a1 a2 a3 f1, eA cI 200 a2 f2, eS a3 f3, eC a4 a5 a6 a8 a9 f4, eS a5 f5, eW a6 a7 f6, eA cI 16 a7 f7, eA cI 256 a8 f8, eA cZ 8 a9 f9, eC a10 a11 a12 a14 a15 f10, eS a11 f11, eW a12 a13 f12, eA cI 16 a13 f13, eA cI 256 a14 f14, eA cZ 8 a15 f15, eC a16 a17 a18 a20 a21 f16, eS a17 f17, eW a18 a19 f18, eA cI 16 a19 f19, eA cI 256 a20 f20, eA cZ 8 a21 f21] (zX4_put f4 f5 f6 f7 f8 u1) (fun y : Int32 × Fn × Fn × Fn => some (Value.int y.1)) (fun y : Int32 × Fn × Fn × Fn => [eF a0 a1 a4 a10 a16 f0, eT a1 a2 a3 f1, eA cI 200 a2 f2, eS a3 f3, eC a4 a5 a6 a8 a9 y.2.1, eS a5 f5, eW a6 a7 y.2.2.1, eA cI 16 a7 y.2.2.2, eA cI 256 a8 f8, eA cZ 8 a9 f9, eC a10 a11 a12 a14 a15 f10, eS a11 f11, eW a12 a13 f12, eA cI 16 a13 f13, eA cI 256 a14 f14, eA cZ 8 a15 f15, eC a16 a17 a18 a20 a21 f16, eS a17 f17, eW a18 a19 f18, eA cI 16 a19 f19, eA cI 256 a20 f20, eA cZ 8 a21 f21]) := by
  refine Ctr.of (by decide) (Nat.le_of_ble_eq_true rfl) ?_
  intro p e s m below meth c A C
  have C : CX p s m ([.ref a0, .int u1] : List Value).toArray meth c cX4_put 2 RX4 D cI cZ A (some .int) := C
  refine VF.lve (lv' := [(0, .ref a0), (1, .int u1)]) rfl ?_
  refine VF.eq (zX4_put.eq_1 f4 f5 f6 f7 f8 u1) ?_
  refine VF.iload_n C 1 dX4_put_0 rfl ?_
  refine VF.callSi C (As := [.int u1]) (rest := []) lk_X4_74 (mtX4_isByte l D cI cZ u1) (fun y => y) (fun _ => rfl) [] rfl rfl (fun _ => rfl) (ws' := fun y => [eF a0 a1 a4 a10 a16 f0, eT a1 a2 a3 f1, eA cI 200 a2 f2, eS a3 f3, eC a4 a5 a6 a8 a9 f4, eS a5 f5, eW a6 a7 f6, eA cI 16 a7 f7, eA cI 256 a8 f8, eA cZ 8 a9 f9, eC a10 a11 a12 a14 a15 f10, eS a11 f11, eW a12 a13 f12, eA cI 16 a13 f13, eA cI 256 a14 f14, eA cZ 8 a15 f15, eC a16 a17 a18 a20 a21 f16, eS a17 f17, eW a18 a19 f18, eA cI 16 a19 f19, eA cI 256 a20 f20, eA cZ 8 a21 f21]) (fun _ => rfl) rfl rfl (Nat.le_of_ble_eq_true rfl) ⟨Nat.le_of_ble_eq_true rfl, Nat.le_of_ble_eq_true rfl⟩ dX4_put_1 ⟨Nat.le_refl 0, Nat.le_refl 0⟩ (fun y1 => ?_)
  refine VF.if_ne C 9 dX4_put_4 rfl (fun h1 => ?_) (fun h1 => ?_)
  · refine VF.aload_n C 0 dX4_put_9 rfl ?_
    refine VF.get C fl_X4_19 0 rfl rfl dX4_put_10 ?_
    refine VF.callVi C (b := a4) (As := []) (rest := []) lk_X4_65 (mtX0_isSelected l D cI cZ a4 a5 a6 a7 a8 a9 f4 f5 f6 f7 f8 f9) (fun y => y) (fun _ => rfl) [4, 5, 6, 7, 8, 9] rfl rfl (fun _ => rfl) (ws' := fun y => [eF a0 a1 a4 a10 a16 f0, eT a1 a2 a3 f1, eA cI 200 a2 f2, eS a3 f3, eC a4 a5 a6 a8 a9 f4, eS a5 f5, eW a6 a7 f6, eA cI 16 a7 f7, eA cI 256 a8 f8, eA cZ 8 a9 f9, eC a10 a11 a12 a14 a15 f10, eS a11 f11, eW a12 a13 f12, eA cI 16 a13 f13, eA cI 256 a14 f14, eA cZ 8 a15 f15, eC a16 a17 a18 a20 a21 f16, eS a17 f17, eW a18 a19 f18, eA cI 16 a19 f19, eA cI 256 a20 f20, eA cZ 8 a21 f21]) (fun _ => rfl) (ci := 0) rfl rfl rfl rfl (Nat.le_of_ble_eq_true rfl) ⟨Nat.le_of_ble_eq_true rfl, Nat.le_of_ble_eq_true rfl⟩ dX4_put_13 ⟨Nat.le_refl 0, Nat.le_refl 0⟩ (fun y2 => ?_)
    refine VF.if_ne C 22 dX4_put_16 rfl (fun h2 => ?_) (fun h2 => ?_)
    · refine VF.aload_n C 0 dX4_put_22 rfl ?_
      refine VF.get C fl_X4_19 0 rfl rfl dX4_put_23 ?_
      refine VF.iload_n C 1 dX4_put_26 rfl ?_
      refine VF.callVi C (b := a4) (As := [.int u1]) (rest := []) lk_X4_77 (mtX0_accept l D cI cZ a4 a5 a6 a7 a8 a9 f4 f5 f6 f7 f8 f9 u1) (fun y => y.1) (fun _ => rfl) [4, 5, 6, 7, 8, 9] rfl rfl (fun _ => rfl) (ws' := fun y => [eF a0 a1 a4 a10 a16 f0, eT a1 a2 a3 f1, eA cI 200 a2 f2, eS a3 f3, eC a4 a5 a6 a8 a9 y.2.1, eS a5 f5, eW a6 a7 y.2.2.1, eA cI 16 a7 y.2.2.2, eA cI 256 a8 f8, eA cZ 8 a9 f9, eC a10 a11 a12 a14 a15 f10, eS a11 f11, eW a12 a13 f12, eA cI 16 a13 f13, eA cI 256 a14 f14, eA cZ 8 a15 f15, eC a16 a17 a18 a20 a21 f16, eS a17 f17, eW a18 a19 f18, eA cI 16 a19 f19, eA cI 256 a20 f20, eA cZ 8 a21 f21]) (fun _ => rfl) (ci := 0) rfl rfl rfl rfl (Nat.le_of_ble_eq_true rfl) ⟨Nat.le_of_ble_eq_true rfl, Nat.le_of_ble_eq_true rfl⟩ dX4_put_27 ⟨Nat.le_refl 0, Nat.le_refl 0⟩ (fun y3 => ?_)
      exact VF.iret C rfl rfl dX4_put_30
    · refine VF.bipush C dX4_put_19 kb_m2 ?_
      exact VF.iret C rfl rfl dX4_put_21
  · refine VF.iconst C dX4_put_7 kc_m1 ?_
    exact VF.iret C rfl rfl dX4_put_8
set_option maxHeartbeats 4000000 in
set_option maxRecDepth 100000 in
theorem mtX4_release (l : Launch) (D : va_G) (cI cZ : ClassId) (a0 a1 a2 a3 a4 a5 a6 a7 a8 a9 a10 a11 a12 a13 a14 a15 a16 a17 a18 a19 a20 a21 : Nat) (f0 f1 f2 f3 f4 f5 f6 f7 f8 f9 f10 f11 f12 f13 f14 f15 f16 f17 f18 f19 f20 f21 : Fn) : Ctr l yX4_release cX4_release 1 (some .int) 6 126 D cI cZ [.ref a0] [eF a0 a1 a4 a10 a16 f0, eT a1 a2 a3 f1, eA cI 200 a2 f2, eS a3 f3, eC a4 a5 a6 a8 a9 f4, eS a5 f5, eW a6 a7 f6, eA cI 16 a7 f7, eA cI 256 a8 f8, eA cZ 8 a9 f9, eC a10 a11 a12 a14 a15 f10, eS a11 f11, eW a12 a13 f12, eA cI 16 a13 f13, eA cI 256 a14 f14, eA cZ 8 a15 f15, eC a16 a17 a18 a20 a21 f16, eS a17 f17, eW a18 a19 f18, eA cI 16 a19 f19, eA cI 256 a20 f20, eA cZ 8 a21 f21] (zX4_release f4 f5 f6 f7 f8 f9) (fun y : Int32 × Fn × Fn × Fn × Fn × Fn => some (Value.int y.1)) (fun y : Int32 × Fn × Fn × Fn × Fn × Fn => [eF a0 a1 a4 a10 a16 f0, eT a1 a2 a3 f1, eA cI 200 a2 f2, eS a3 f3, eC a4 a5 a6 a8 a9 y.2.1, eS a5 f5, eW a6 a7 y.2.2.1, eA cI 16 a7 y.2.2.2.1, eA cI 256 a8 y.2.2.2.2.1, eA cZ 8 a9 y.2.2.2.2.2, eC a10 a11 a12 a14 a15 f10, eS a11 f11, eW a12 a13 f12, eA cI 16 a13 f13, eA cI 256 a14 f14, eA cZ 8 a15 f15, eC a16 a17 a18 a20 a21 f16, eS a17 f17, eW a18 a19 f18, eA cI 16 a19 f19, eA cI 256 a20 f20, eA cZ 8 a21 f21]) := by
  refine Ctr.of (by decide) (Nat.le_of_ble_eq_true rfl) ?_
  intro p e s m below meth c A C
  have C : CX p s m ([.ref a0] : List Value).toArray meth c cX4_release 1 RX4 D cI cZ A (some .int) := C
  refine VF.lve (lv' := [(0, .ref a0)]) rfl ?_
  refine VF.eq (zX4_release.eq_1 f4 f5 f6 f7 f8 f9) ?_
  refine VF.aload_n C 0 dX4_release_0 rfl ?_
  refine VF.get C fl_X4_19 0 rfl rfl dX4_release_1 ?_
  refine VF.callVi C (b := a4) (As := []) (rest := []) lk_X4_65 (mtX0_isSelected l D cI cZ a4 a5 a6 a7 a8 a9 f4 f5 f6 f7 f8 f9) (fun y => y) (fun _ => rfl) [4, 5, 6, 7, 8, 9] rfl rfl (fun _ => rfl) (ws' := fun y => [eF a0 a1 a4 a10 a16 f0, eT a1 a2 a3 f1, eA cI 200 a2 f2, eS a3 f3, eC a4 a5 a6 a8 a9 f4, eS a5 f5, eW a6 a7 f6, eA cI 16 a7 f7, eA cI 256 a8 f8, eA cZ 8 a9 f9, eC a10 a11 a12 a14 a15 f10, eS a11 f11, eW a12 a13 f12, eA cI 16 a13 f13, eA cI 256 a14 f14, eA cZ 8 a15 f15, eC a16 a17 a18 a20 a21 f16, eS a17 f17, eW a18 a19 f18, eA cI 16 a19 f19, eA cI 256 a20 f20, eA cZ 8 a21 f21]) (fun _ => rfl) (ci := 0) rfl rfl rfl rfl (Nat.le_of_ble_eq_true rfl) ⟨Nat.le_of_ble_eq_true rfl, Nat.le_of_ble_eq_true rfl⟩ dX4_release_4 ⟨Nat.le_refl 0, Nat.le_refl 0⟩ (fun y1 => ?_)
  refine VF.if_ne C 13 dX4_release_7 rfl (fun h1 => ?_) (fun h1 => ?_)
  · refine VF.aload_n C 0 dX4_release_13 rfl ?_
    refine VF.get C fl_X4_19 0 rfl rfl dX4_release_14 ?_
    refine VF.callVv C (b := a4) (As := []) (rest := []) lk_X4_81 (mtX0_close l D cI cZ a4 a5 a6 a7 a8 a9 f4 f5 f6 f7 f8 f9) (fun _ => rfl) [4, 5, 6, 7, 8, 9] rfl rfl (fun _ => rfl) (ws' := fun y => [eF a0 a1 a4 a10 a16 f0, eT a1 a2 a3 f1, eA cI 200 a2 f2, eS a3 f3, eC a4 a5 a6 a8 a9 y.1, eS a5 f5, eW a6 a7 y.2.1, eA cI 16 a7 y.2.2.1, eA cI 256 a8 y.2.2.2.1, eA cZ 8 a9 y.2.2.2.2, eC a10 a11 a12 a14 a15 f10, eS a11 f11, eW a12 a13 f12, eA cI 16 a13 f13, eA cI 256 a14 f14, eA cZ 8 a15 f15, eC a16 a17 a18 a20 a21 f16, eS a17 f17, eW a18 a19 f18, eA cI 16 a19 f19, eA cI 256 a20 f20, eA cZ 8 a21 f21]) (fun _ => rfl) (ci := 0) rfl rfl rfl rfl (Nat.le_of_ble_eq_true rfl) ⟨Nat.le_of_ble_eq_true rfl, Nat.le_of_ble_eq_true rfl⟩ dX4_release_17 ⟨Nat.le_refl 0, Nat.le_refl 0⟩ (fun y2 => ?_)
    refine VF.aload_n C 0 dX4_release_20 rfl ?_
    refine VF.get C fl_X4_19 0 rfl rfl dX4_release_21 ?_
    refine VF.callVi C (b := a4) (As := []) (rest := []) lk_X4_84 (mtX0_status l D cI cZ a4 a5 a6 a7 a8 a9 y2.1 f5 y2.2.1 y2.2.2.1 y2.2.2.2.1 y2.2.2.2.2) (fun y => y) (fun _ => rfl) [4, 5, 6, 7, 8, 9] rfl rfl (fun _ => rfl) (ws' := fun y => [eF a0 a1 a4 a10 a16 f0, eT a1 a2 a3 f1, eA cI 200 a2 f2, eS a3 f3, eC a4 a5 a6 a8 a9 y2.1, eS a5 f5, eW a6 a7 y2.2.1, eA cI 16 a7 y2.2.2.1, eA cI 256 a8 y2.2.2.2.1, eA cZ 8 a9 y2.2.2.2.2, eC a10 a11 a12 a14 a15 f10, eS a11 f11, eW a12 a13 f12, eA cI 16 a13 f13, eA cI 256 a14 f14, eA cZ 8 a15 f15, eC a16 a17 a18 a20 a21 f16, eS a17 f17, eW a18 a19 f18, eA cI 16 a19 f19, eA cI 256 a20 f20, eA cZ 8 a21 f21]) (fun _ => rfl) (ci := 0) rfl rfl rfl rfl (Nat.le_of_ble_eq_true rfl) ⟨Nat.le_of_ble_eq_true rfl, Nat.le_of_ble_eq_true rfl⟩ dX4_release_24 ⟨Nat.le_refl 0, Nat.le_refl 0⟩ (fun y3 => ?_)
    exact VF.iret C rfl rfl dX4_release_27
  · refine VF.bipush C dX4_release_10 kb_m2 ?_
    exact VF.iret C rfl rfl dX4_release_12
set_option maxHeartbeats 4000000 in
set_option maxRecDepth 100000 in
theorem mtX4_closeBehind (l : Launch) (D : va_G) (cI cZ : ClassId) (a0 a1 a2 a3 a4 a5 a6 a7 a8 a9 a10 a11 a12 a13 a14 a15 a16 a17 a18 a19 a20 a21 : Nat) (f0 f1 f2 f3 f4 f5 f6 f7 f8 f9 f10 f11 f12 f13 f14 f15 f16 f17 f18 f19 f20 f21 : Fn) (u1 : Int32) (u2 : Int32) (u3 : Int32) : Ctr l yX4_closeBehind cX4_closeBehind 6 (some .int) 6 126 D cI cZ [.ref a0, .int u1, .int u2, .int u3] [eF a0 a1 a4 a10 a16 f0, eT a1 a2 a3 f1, eA cI 200 a2 f2, eS a3 f3, eC a4 a5 a6 a8 a9 f4, eS a5 f5, eW a6 a7 f6, eA cI 16 a7 f7, eA cI 256 a8 f8, eA cZ 8 a9 f9, eC a10 a11 a12 a14 a15 f10, eS a11 f11, eW a12 a13 f12, eA cI 16 a13 f13, eA cI 256 a14 f14, eA cZ 8 a15 f15, eC a16 a17 a18 a20 a21 f16, eS a17 f17, eW a18 a19 f18, eA cI 16 a19 f19, eA cI 256 a20 f20, eA cZ 8 a21 f21] (zX4_closeBehind f4 f5 f6 f7 f8 f9 u1 u2 u3) (fun y : Int32 × Fn × Fn × Fn × Fn × Fn => some (Value.int y.1)) (fun y : Int32 × Fn × Fn × Fn × Fn × Fn => [eF a0 a1 a4 a10 a16 f0, eT a1 a2 a3 f1, eA cI 200 a2 f2, eS a3 f3, eC a4 a5 a6 a8 a9 y.2.1, eS a5 f5, eW a6 a7 y.2.2.1, eA cI 16 a7 y.2.2.2.1, eA cI 256 a8 y.2.2.2.2.1, eA cZ 8 a9 y.2.2.2.2.2, eC a10 a11 a12 a14 a15 f10, eS a11 f11, eW a12 a13 f12, eA cI 16 a13 f13, eA cI 256 a14 f14, eA cZ 8 a15 f15, eC a16 a17 a18 a20 a21 f16, eS a17 f17, eW a18 a19 f18, eA cI 16 a19 f19, eA cI 256 a20 f20, eA cZ 8 a21 f21]) := by
  refine Ctr.of (by decide) (Nat.le_of_ble_eq_true rfl) ?_
  intro p e s m below meth c A C
  have C : CX p s m ([.ref a0, .int u1, .int u2, .int u3] : List Value).toArray meth c cX4_closeBehind 6 RX4 D cI cZ A (some .int) := C
  have k6 : ∀ (n : Nat) (x2 : Int32) (x3 : Int32) (x4 : Int32) (x5 : Int32) (f4 : Fn) (f6 : Fn) (f7 : Fn) (f8 : Fn) (f9 : Fn), VF p l e { frames := 6, cells := 0, slots := 0, locals := 126 } s m ([.ref a0, .int u1, .int u2, .int u3] : List Value).toArray below meth c 0 0 D A 6 (fun r => MQ below (QcX ((fun y : Int32 × Fn × Fn × Fn × Fn × Fn => some (Value.int y.1)) r) D ((fun y : Int32 × Fn × Fn × Fn × Fn × Fn => [eF a0 a1 a4 a10 a16 f0, eT a1 a2 a3 f1, eA cI 200 a2 f2, eS a3 f3, eC a4 a5 a6 a8 a9 y.2.1, eS a5 f5, eW a6 a7 y.2.2.1, eA cI 16 a7 y.2.2.2.1, eA cI 256 a8 y.2.2.2.2.1, eA cZ 8 a9 y.2.2.2.2.2, eC a10 a11 a12 a14 a15 f10, eS a11 f11, eW a12 a13 f12, eA cI 16 a13 f13, eA cI 256 a14 f14, eA cZ 8 a15 f15, eC a16 a17 a18 a20 a21 f16, eS a17 f17, eW a18 a19 f18, eA cI 16 a19 f19, eA cI 256 a20 f20, eA cZ 8 a21 f21]) r) A) ([.ref a0, .int u1, .int u2, .int u3] : List Value).toArray s 0 0 A) (zX4_closeBehind_k6 n f4 f5 f6 f7 f8 f9 x2 x3 x4 x5) [eF a0 a1 a4 a10 a16 f0, eT a1 a2 a3 f1, eA cI 200 a2 f2, eS a3 f3, eC a4 a5 a6 a8 a9 f4, eS a5 f5, eW a6 a7 f6, eA cI 16 a7 f7, eA cI 256 a8 f8, eA cZ 8 a9 f9, eC a10 a11 a12 a14 a15 f10, eS a11 f11, eW a12 a13 f12, eA cI 16 a13 f13, eA cI 256 a14 f14, eA cZ 8 a15 f15, eC a16 a17 a18 a20 a21 f16, eS a17 f17, eW a18 a19 f18, eA cI 16 a19 f19, eA cI 256 a20 f20, eA cZ 8 a21 f21] 6 [(0, .ref a0), (2, .int x2), (3, .int x3), (4, .int x4), (5, .int x5)] [] := by
    intro n
    induction n with
    | zero =>
      intro x2 x3 x4 x5 f4 f6 f7 f8 f9
      exact VF.eq (zX4_closeBehind_k6.eq_1 _ _ _ _ _ _ _ _ _ _) VF.nn
    | succ n ih =>
      intro x2 x3 x4 x5 f4 f6 f7 f8 f9
      refine VF.eq (zX4_closeBehind_k6.eq_2 _ _ _ _ _ _ _ _ _ _ _) ?_
      refine VF.iload C 4 dX4_closeBehind_6 rfl ?_
      refine VF.iload_n C 2 dX4_closeBehind_8 rfl ?_
      refine VF.icmp_ge C 35 dX4_closeBehind_9 rfl (fun h1 => ?_) (fun h1 => ?_)
      · refine VF.aload_n C 0 dX4_closeBehind_35 rfl ?_
        refine VF.get C fl_X4_19 0 rfl rfl dX4_closeBehind_36 ?_
        refine VF.callVv C (b := a4) (As := []) (rest := []) lk_X4_81 (mtX0_close l D cI cZ a4 a5 a6 a7 a8 a9 f4 f5 f6 f7 f8 f9) (fun _ => rfl) [4, 5, 6, 7, 8, 9] rfl rfl (fun _ => rfl) (ws' := fun y => [eF a0 a1 a4 a10 a16 f0, eT a1 a2 a3 f1, eA cI 200 a2 f2, eS a3 f3, eC a4 a5 a6 a8 a9 y.1, eS a5 f5, eW a6 a7 y.2.1, eA cI 16 a7 y.2.2.1, eA cI 256 a8 y.2.2.2.1, eA cZ 8 a9 y.2.2.2.2, eC a10 a11 a12 a14 a15 f10, eS a11 f11, eW a12 a13 f12, eA cI 16 a13 f13, eA cI 256 a14 f14, eA cZ 8 a15 f15, eC a16 a17 a18 a20 a21 f16, eS a17 f17, eW a18 a19 f18, eA cI 16 a19 f19, eA cI 256 a20 f20, eA cZ 8 a21 f21]) (fun _ => rfl) (ci := 0) rfl rfl rfl rfl (Nat.le_of_ble_eq_true rfl) ⟨Nat.le_of_ble_eq_true rfl, Nat.le_of_ble_eq_true rfl⟩ dX4_closeBehind_39 ⟨Nat.le_refl 0, Nat.le_refl 0⟩ (fun y1 => ?_)
        refine VF.iload C 3 dX4_closeBehind_42 rfl ?_
        exact VF.iret C rfl rfl dX4_closeBehind_44
      · refine VF.aload_n C 0 dX4_closeBehind_12 rfl ?_
        refine VF.get C fl_X4_19 0 rfl rfl dX4_closeBehind_13 ?_
        refine VF.iload_n C 1 dX4_closeBehind_16 rfl ?_
        refine VF.iload C 4 dX4_closeBehind_17 rfl ?_
        refine VF.iadd C dX4_closeBehind_19 ?_
        refine VF.sipush C dX4_closeBehind_20 ks_255 ?_
        refine VF.iand C dX4_closeBehind_23 ?_
        refine VF.callVi C (b := a4) (As := [.int ((x2 + x5) &&& 255)]) (rest := []) lk_X4_77 (mtX0_accept l D cI cZ a4 a5 a6 a7 a8 a9 f4 f5 f6 f7 f8 f9 ((x2 + x5) &&& 255)) (fun y => y.1) (fun _ => rfl) [4, 5, 6, 7, 8, 9] rfl rfl (fun _ => rfl) (ws' := fun y => [eF a0 a1 a4 a10 a16 f0, eT a1 a2 a3 f1, eA cI 200 a2 f2, eS a3 f3, eC a4 a5 a6 a8 a9 y.2.1, eS a5 f5, eW a6 a7 y.2.2.1, eA cI 16 a7 y.2.2.2, eA cI 256 a8 f8, eA cZ 8 a9 f9, eC a10 a11 a12 a14 a15 f10, eS a11 f11, eW a12 a13 f12, eA cI 16 a13 f13, eA cI 256 a14 f14, eA cZ 8 a15 f15, eC a16 a17 a18 a20 a21 f16, eS a17 f17, eW a18 a19 f18, eA cI 16 a19 f19, eA cI 256 a20 f20, eA cZ 8 a21 f21]) (fun _ => rfl) (ci := 0) rfl rfl rfl rfl (Nat.le_of_ble_eq_true rfl) ⟨Nat.le_of_ble_eq_true rfl, Nat.le_of_ble_eq_true rfl⟩ dX4_closeBehind_24 ⟨Nat.le_refl 0, Nat.le_refl 0⟩ (fun y2 => ?_)
        refine VF.istore C [1, 2, 3, 0, 4] dX4_closeBehind_27 (Nat.le_of_ble_eq_true rfl) (lv' := [(0, .ref a0), (2, .int x2), (3, .int x3), (4, .int y2.1), (5, .int x5)]) rfl ?_
        refine VF.iinc C 4 [1, 2, 3, 4, 0] dX4_closeBehind_29 rfl (v := (x5 + 1)) rfl (Nat.le_of_ble_eq_true rfl) (lv' := [(0, .ref a0), (2, .int x2), (3, .int x3), (4, .int y2.1), (5, .int (x5 + 1))]) rfl ?_
        refine VF.goto C 6 dX4_closeBehind_32 rfl ?_
        exact ih x2 x3 y2.1 (x5 + 1) y2.2.1 y2.2.2.1 y2.2.2.2 f8 f9
  refine VF.lve (lv' := [(0, .ref a0), (1, .int u1), (2, .int u2), (3, .int u3)]) rfl ?_
  refine VF.eq (zX4_closeBehind.eq_1 f4 f5 f6 f7 f8 f9 u1 u2 u3) ?_
  refine VF.iload_n C 1 dX4_closeBehind_0 rfl ?_
  refine VF.istore C [1, 2, 3, 4, 0] dX4_closeBehind_1 (Nat.le_of_ble_eq_true rfl) (lv' := [(0, .ref a0), (1, .int u1), (2, .int u2), (3, .int u3), (4, .int u1)]) rfl ?_
  refine VF.iconst C dX4_closeBehind_3 kc_0 ?_
  refine VF.istore C [1, 2, 3, 4, 5, 0] dX4_closeBehind_4 (Nat.le_of_ble_eq_true rfl) (lv' := [(0, .ref a0), (1, .int u1), (2, .int u2), (3, .int u3), (4, .int u1), (5, .int 0)]) rfl ?_
  exact VF.lvs [0, 2, 3, 4, 5] rfl (k6 4096 u2 u3 u1 0 f4 f6 f7 f8 f9)
set_option maxHeartbeats 4000000 in
set_option maxRecDepth 100000 in
theorem mtX4_send (l : Launch) (D : va_G) (cI cZ : ClassId) (a0 a1 a2 a3 a4 a5 a6 a7 a8 a9 a10 a11 a12 a13 a14 a15 a16 a17 a18 a19 a20 a21 : Nat) (f0 f1 f2 f3 f4 f5 f6 f7 f8 f9 f10 f11 f12 f13 f14 f15 f16 f17 f18 f19 f20 f21 : Fn) (u1 : Int32) (u2 : Int32) (u3 : Int32) (u4 : Int32) : Ctr l yX4_send cX4_send 6 (some .int) 7 151 D cI cZ [.ref a0, .int u1, .int u2, .int u3, .int u4] [eF a0 a1 a4 a10 a16 f0, eT a1 a2 a3 f1, eA cI 200 a2 f2, eS a3 f3, eC a4 a5 a6 a8 a9 f4, eS a5 f5, eW a6 a7 f6, eA cI 16 a7 f7, eA cI 256 a8 f8, eA cZ 8 a9 f9, eC a10 a11 a12 a14 a15 f10, eS a11 f11, eW a12 a13 f12, eA cI 16 a13 f13, eA cI 256 a14 f14, eA cZ 8 a15 f15, eC a16 a17 a18 a20 a21 f16, eS a17 f17, eW a18 a19 f18, eA cI 16 a19 f19, eA cI 256 a20 f20, eA cZ 8 a21 f21] (zX4_send f4 f5 f6 f7 f8 f9 u1 u2 u3 u4) (fun y : Int32 × Fn × Fn × Fn × Fn × Fn => some (Value.int y.1)) (fun y : Int32 × Fn × Fn × Fn × Fn × Fn => [eF a0 a1 a4 a10 a16 f0, eT a1 a2 a3 f1, eA cI 200 a2 f2, eS a3 f3, eC a4 a5 a6 a8 a9 y.2.1, eS a5 f5, eW a6 a7 y.2.2.1, eA cI 16 a7 y.2.2.2.1, eA cI 256 a8 y.2.2.2.2.1, eA cZ 8 a9 y.2.2.2.2.2, eC a10 a11 a12 a14 a15 f10, eS a11 f11, eW a12 a13 f12, eA cI 16 a13 f13, eA cI 256 a14 f14, eA cZ 8 a15 f15, eC a16 a17 a18 a20 a21 f16, eS a17 f17, eW a18 a19 f18, eA cI 16 a19 f19, eA cI 256 a20 f20, eA cZ 8 a21 f21]) := by
  refine Ctr.of (by decide) (Nat.le_of_ble_eq_true rfl) ?_
  intro p e s m below meth c A C
  have C : CX p s m ([.ref a0, .int u1, .int u2, .int u3, .int u4] : List Value).toArray meth c cX4_send 6 RX4 D cI cZ A (some .int) := C
  refine VF.lve (lv' := [(0, .ref a0), (1, .int u1), (2, .int u2), (3, .int u3), (4, .int u4)]) rfl ?_
  refine VF.eq (zX4_send.eq_1 f4 f5 f6 f7 f8 f9 u1 u2 u3 u4) ?_
  refine VF.iload_n C 1 dX4_send_0 rfl ?_
  refine VF.callSi C (As := [.int u1]) (rest := []) lk_X4_74 (mtX4_isByte l D cI cZ u1) (fun y => y) (fun _ => rfl) [] rfl rfl (fun _ => rfl) (ws' := fun y => [eF a0 a1 a4 a10 a16 f0, eT a1 a2 a3 f1, eA cI 200 a2 f2, eS a3 f3, eC a4 a5 a6 a8 a9 f4, eS a5 f5, eW a6 a7 f6, eA cI 16 a7 f7, eA cI 256 a8 f8, eA cZ 8 a9 f9, eC a10 a11 a12 a14 a15 f10, eS a11 f11, eW a12 a13 f12, eA cI 16 a13 f13, eA cI 256 a14 f14, eA cZ 8 a15 f15, eC a16 a17 a18 a20 a21 f16, eS a17 f17, eW a18 a19 f18, eA cI 16 a19 f19, eA cI 256 a20 f20, eA cZ 8 a21 f21]) (fun _ => rfl) rfl rfl (Nat.le_of_ble_eq_true rfl) ⟨Nat.le_of_ble_eq_true rfl, Nat.le_of_ble_eq_true rfl⟩ dX4_send_1 ⟨Nat.le_refl 0, Nat.le_refl 0⟩ (fun y1 => ?_)
  refine VF.if_eq C 33 dX4_send_4 rfl (fun h1 => ?_) (fun h1 => ?_)
  · refine VF.iconst C dX4_send_33 kc_m1 ?_
    exact VF.iret C rfl rfl dX4_send_34
  · refine VF.iload_n C 2 dX4_send_7 rfl ?_
    refine VF.callSi C (As := [.int u2]) (rest := []) lk_X4_74 (mtX4_isByte l D cI cZ u2) (fun y => y) (fun _ => rfl) [] rfl rfl (fun _ => rfl) (ws' := fun y => [eF a0 a1 a4 a10 a16 f0, eT a1 a2 a3 f1, eA cI 200 a2 f2, eS a3 f3, eC a4 a5 a6 a8 a9 f4, eS a5 f5, eW a6 a7 f6, eA cI 16 a7 f7, eA cI 256 a8 f8, eA cZ 8 a9 f9, eC a10 a11 a12 a14 a15 f10, eS a11 f11, eW a12 a13 f12, eA cI 16 a13 f13, eA cI 256 a14 f14, eA cZ 8 a15 f15, eC a16 a17 a18 a20 a21 f16, eS a17 f17, eW a18 a19 f18, eA cI 16 a19 f19, eA cI 256 a20 f20, eA cZ 8 a21 f21]) (fun _ => rfl) rfl rfl (Nat.le_of_ble_eq_true rfl) ⟨Nat.le_of_ble_eq_true rfl, Nat.le_of_ble_eq_true rfl⟩ dX4_send_8 ⟨Nat.le_refl 0, Nat.le_refl 0⟩ (fun y2 => ?_)
    refine VF.if_eq C 33 dX4_send_11 rfl (fun h2 => ?_) (fun h2 => ?_)
    · refine VF.iconst C dX4_send_33 kc_m1 ?_
      exact VF.iret C rfl rfl dX4_send_34
    · refine VF.iload_n C 3 dX4_send_14 rfl ?_
      refine VF.callSi C (As := [.int u3]) (rest := []) lk_X4_74 (mtX4_isByte l D cI cZ u3) (fun y => y) (fun _ => rfl) [] rfl rfl (fun _ => rfl) (ws' := fun y => [eF a0 a1 a4 a10 a16 f0, eT a1 a2 a3 f1, eA cI 200 a2 f2, eS a3 f3, eC a4 a5 a6 a8 a9 f4, eS a5 f5, eW a6 a7 f6, eA cI 16 a7 f7, eA cI 256 a8 f8, eA cZ 8 a9 f9, eC a10 a11 a12 a14 a15 f10, eS a11 f11, eW a12 a13 f12, eA cI 16 a13 f13, eA cI 256 a14 f14, eA cZ 8 a15 f15, eC a16 a17 a18 a20 a21 f16, eS a17 f17, eW a18 a19 f18, eA cI 16 a19 f19, eA cI 256 a20 f20, eA cZ 8 a21 f21]) (fun _ => rfl) rfl rfl (Nat.le_of_ble_eq_true rfl) ⟨Nat.le_of_ble_eq_true rfl, Nat.le_of_ble_eq_true rfl⟩ dX4_send_15 ⟨Nat.le_refl 0, Nat.le_refl 0⟩ (fun y3 => ?_)
      refine VF.if_eq C 33 dX4_send_18 rfl (fun h3 => ?_) (fun h3 => ?_)
      · refine VF.iconst C dX4_send_33 kc_m1 ?_
        exact VF.iret C rfl rfl dX4_send_34
      · refine VF.iload C 4 dX4_send_21 rfl ?_
        refine VF.if_lt C 33 dX4_send_23 rfl (fun h4 => ?_) (fun h4 => ?_)
        · refine VF.iconst C dX4_send_33 kc_m1 ?_
          exact VF.iret C rfl rfl dX4_send_34
        · refine VF.iload C 4 dX4_send_26 rfl ?_
          refine VF.bipush C dX4_send_28 kb_40 ?_
          refine VF.icmp_le C 35 dX4_send_30 rfl (fun h5 => ?_) (fun h5 => ?_)
          · refine VF.aload_n C 0 dX4_send_35 rfl ?_
            refine VF.get C fl_X4_19 0 rfl rfl dX4_send_36 ?_
            refine VF.callVi C (b := a4) (As := []) (rest := []) lk_X4_65 (mtX0_isSelected l D cI cZ a4 a5 a6 a7 a8 a9 f4 f5 f6 f7 f8 f9) (fun y => y) (fun _ => rfl) [4, 5, 6, 7, 8, 9] rfl rfl (fun _ => rfl) (ws' := fun y => [eF a0 a1 a4 a10 a16 f0, eT a1 a2 a3 f1, eA cI 200 a2 f2, eS a3 f3, eC a4 a5 a6 a8 a9 f4, eS a5 f5, eW a6 a7 f6, eA cI 16 a7 f7, eA cI 256 a8 f8, eA cZ 8 a9 f9, eC a10 a11 a12 a14 a15 f10, eS a11 f11, eW a12 a13 f12, eA cI 16 a13 f13, eA cI 256 a14 f14, eA cZ 8 a15 f15, eC a16 a17 a18 a20 a21 f16, eS a17 f17, eW a18 a19 f18, eA cI 16 a19 f19, eA cI 256 a20 f20, eA cZ 8 a21 f21]) (fun _ => rfl) (ci := 0) rfl rfl rfl rfl (Nat.le_of_ble_eq_true rfl) ⟨Nat.le_of_ble_eq_true rfl, Nat.le_of_ble_eq_true rfl⟩ dX4_send_39 ⟨Nat.le_refl 0, Nat.le_refl 0⟩ (fun y4 => ?_)
            refine VF.if_eq C 48 dX4_send_42 rfl (fun h6 => ?_) (fun h6 => ?_)
            · refine VF.aload_n C 0 dX4_send_48 rfl ?_
              refine VF.get C fl_X4_19 0 rfl rfl dX4_send_49 ?_
              refine VF.callVv C (b := a4) (As := []) (rest := []) lk_X4_68 (mtX0_open l D cI cZ a4 a5 a6 a7 a8 a9 f4 f5 f6 f7 f8 f9) (fun _ => rfl) [4, 5, 6, 7, 8, 9] rfl rfl (fun _ => rfl) (ws' := fun y => [eF a0 a1 a4 a10 a16 f0, eT a1 a2 a3 f1, eA cI 200 a2 f2, eS a3 f3, eC a4 a5 a6 a8 a9 f4, eS a5 f5, eW a6 a7 y.1, eA cI 16 a7 y.2, eA cI 256 a8 f8, eA cZ 8 a9 f9, eC a10 a11 a12 a14 a15 f10, eS a11 f11, eW a12 a13 f12, eA cI 16 a13 f13, eA cI 256 a14 f14, eA cZ 8 a15 f15, eC a16 a17 a18 a20 a21 f16, eS a17 f17, eW a18 a19 f18, eA cI 16 a19 f19, eA cI 256 a20 f20, eA cZ 8 a21 f21]) (fun _ => rfl) (ci := 0) rfl rfl rfl rfl (Nat.le_of_ble_eq_true rfl) ⟨Nat.le_of_ble_eq_true rfl, Nat.le_of_ble_eq_true rfl⟩ dX4_send_52 ⟨Nat.le_refl 0, Nat.le_refl 0⟩ (fun y5 => ?_)
              refine VF.aload_n C 0 dX4_send_55 rfl ?_
              refine VF.get C fl_X4_19 0 rfl rfl dX4_send_56 ?_
              refine VF.iload_n C 1 dX4_send_59 rfl ?_
              refine VF.callVi C (b := a4) (As := [.int u1]) (rest := []) lk_X4_77 (mtX0_accept l D cI cZ a4 a5 a6 a7 a8 a9 f4 f5 y5.1 y5.2 f8 f9 u1) (fun y => y.1) (fun _ => rfl) [4, 5, 6, 7, 8, 9] rfl rfl (fun _ => rfl) (ws' := fun y => [eF a0 a1 a4 a10 a16 f0, eT a1 a2 a3 f1, eA cI 200 a2 f2, eS a3 f3, eC a4 a5 a6 a8 a9 y.2.1, eS a5 f5, eW a6 a7 y.2.2.1, eA cI 16 a7 y.2.2.2, eA cI 256 a8 f8, eA cZ 8 a9 f9, eC a10 a11 a12 a14 a15 f10, eS a11 f11, eW a12 a13 f12, eA cI 16 a13 f13, eA cI 256 a14 f14, eA cZ 8 a15 f15, eC a16 a17 a18 a20 a21 f16, eS a17 f17, eW a18 a19 f18, eA cI 16 a19 f19, eA cI 256 a20 f20, eA cZ 8 a21 f21]) (fun _ => rfl) (ci := 0) rfl rfl rfl rfl (Nat.le_of_ble_eq_true rfl) ⟨Nat.le_of_ble_eq_true rfl, Nat.le_of_ble_eq_true rfl⟩ dX4_send_60 ⟨Nat.le_refl 0, Nat.le_refl 0⟩ (fun y6 => ?_)
              refine VF.pop C dX4_send_63 rfl ?_
              refine VF.aload_n C 0 dX4_send_64 rfl ?_
              refine VF.get C fl_X4_19 0 rfl rfl dX4_send_65 ?_
              refine VF.iload_n C 2 dX4_send_68 rfl ?_
              refine VF.callVi C (b := a4) (As := [.int u2]) (rest := []) lk_X4_77 (mtX0_accept l D cI cZ a4 a5 a6 a7 a8 a9 y6.2.1 f5 y6.2.2.1 y6.2.2.2 f8 f9 u2) (fun y => y.1) (fun _ => rfl) [4, 5, 6, 7, 8, 9] rfl rfl (fun _ => rfl) (ws' := fun y => [eF a0 a1 a4 a10 a16 f0, eT a1 a2 a3 f1, eA cI 200 a2 f2, eS a3 f3, eC a4 a5 a6 a8 a9 y.2.1, eS a5 f5, eW a6 a7 y.2.2.1, eA cI 16 a7 y.2.2.2, eA cI 256 a8 f8, eA cZ 8 a9 f9, eC a10 a11 a12 a14 a15 f10, eS a11 f11, eW a12 a13 f12, eA cI 16 a13 f13, eA cI 256 a14 f14, eA cZ 8 a15 f15, eC a16 a17 a18 a20 a21 f16, eS a17 f17, eW a18 a19 f18, eA cI 16 a19 f19, eA cI 256 a20 f20, eA cZ 8 a21 f21]) (fun _ => rfl) (ci := 0) rfl rfl rfl rfl (Nat.le_of_ble_eq_true rfl) ⟨Nat.le_of_ble_eq_true rfl, Nat.le_of_ble_eq_true rfl⟩ dX4_send_69 ⟨Nat.le_refl 0, Nat.le_refl 0⟩ (fun y7 => ?_)
              refine VF.istore C [1, 2, 3, 4, 5, 0] dX4_send_72 (Nat.le_of_ble_eq_true rfl) (lv' := [(0, .ref a0), (1, .int u1), (2, .int u2), (3, .int u3), (4, .int u4), (5, .int y7.1)]) rfl ?_
              refine VF.aload_n C 0 dX4_send_74 rfl ?_
              refine VF.iload C 5 dX4_send_75 rfl ?_
              refine VF.iload_n C 3 dX4_send_77 rfl ?_
              refine VF.iload C 4 dX4_send_78 rfl ?_
              refine VF.callVi C (b := a0) (As := [.int y7.1, .int u3, .int u4]) (rest := []) lk_X4_87 (mtX4_closeBehind l D cI cZ a0 a1 a2 a3 a4 a5 a6 a7 a8 a9 a10 a11 a12 a13 a14 a15 a16 a17 a18 a19 a20 a21 f0 f1 f2 f3 y7.2.1 f5 y7.2.2.1 y7.2.2.2 f8 f9 f10 f11 f12 f13 f14 f15 f16 f17 f18 f19 f20 f21 y7.1 u3 u4) (fun y => y.1) (fun _ => rfl) [0, 1, 2, 3, 4, 5, 6, 7, 8, 9, 10, 11, 12, 13, 14, 15, 16, 17, 18, 19, 20, 21] rfl rfl (fun _ => rfl) (ws' := fun y => [eF a0 a1 a4 a10 a16 f0, eT a1 a2 a3 f1, eA cI 200 a2 f2, eS a3 f3, eC a4 a5 a6 a8 a9 y.2.1, eS a5 f5, eW a6 a7 y.2.2.1, eA cI 16 a7 y.2.2.2.1, eA cI 256 a8 y.2.2.2.2.1, eA cZ 8 a9 y.2.2.2.2.2, eC a10 a11 a12 a14 a15 f10, eS a11 f11, eW a12 a13 f12, eA cI 16 a13 f13, eA cI 256 a14 f14, eA cZ 8 a15 f15, eC a16 a17 a18 a20 a21 f16, eS a17 f17, eW a18 a19 f18, eA cI 16 a19 f19, eA cI 256 a20 f20, eA cZ 8 a21 f21]) (fun _ => rfl) (ci := 4) rfl rfl rfl rfl (Nat.le_of_ble_eq_true rfl) ⟨Nat.le_of_ble_eq_true rfl, Nat.le_of_ble_eq_true rfl⟩ dX4_send_80 ⟨Nat.le_refl 0, Nat.le_refl 0⟩ (fun y8 => ?_)
              exact VF.iret C rfl rfl dX4_send_83
            · refine VF.bipush C dX4_send_45 kb_m2 ?_
              exact VF.iret C rfl rfl dX4_send_47
          · refine VF.iconst C dX4_send_33 kc_m1 ?_
            exact VF.iret C rfl rfl dX4_send_34
set_option maxHeartbeats 4000000 in
set_option maxRecDepth 100000 in
theorem mtX4_order (l : Launch) (D : va_G) (cI cZ : ClassId) (a0 a1 a2 a3 a4 a5 a6 a7 a8 a9 a10 a11 a12 a13 a14 a15 a16 a17 a18 a19 a20 a21 : Nat) (f0 f1 f2 f3 f4 f5 f6 f7 f8 f9 f10 f11 f12 f13 f14 f15 f16 f17 f18 f19 f20 f21 : Fn) (u1 : Int32) (u2 : Int32) (u3 : Int32) : Ctr l yX4_order cX4_order 5 (some .int) 7 151 D cI cZ [.ref a0, .int u1, .int u2, .int u3] [eF a0 a1 a4 a10 a16 f0, eT a1 a2 a3 f1, eA cI 200 a2 f2, eS a3 f3, eC a4 a5 a6 a8 a9 f4, eS a5 f5, eW a6 a7 f6, eA cI 16 a7 f7, eA cI 256 a8 f8, eA cZ 8 a9 f9, eC a10 a11 a12 a14 a15 f10, eS a11 f11, eW a12 a13 f12, eA cI 16 a13 f13, eA cI 256 a14 f14, eA cZ 8 a15 f15, eC a16 a17 a18 a20 a21 f16, eS a17 f17, eW a18 a19 f18, eA cI 16 a19 f19, eA cI 256 a20 f20, eA cZ 8 a21 f21] (zX4_order f4 f5 f6 f7 f8 f9 u1 u2 u3) (fun y : Int32 × Fn × Fn × Fn × Fn × Fn => some (Value.int y.1)) (fun y : Int32 × Fn × Fn × Fn × Fn × Fn => [eF a0 a1 a4 a10 a16 f0, eT a1 a2 a3 f1, eA cI 200 a2 f2, eS a3 f3, eC a4 a5 a6 a8 a9 y.2.1, eS a5 f5, eW a6 a7 y.2.2.1, eA cI 16 a7 y.2.2.2.1, eA cI 256 a8 y.2.2.2.2.1, eA cZ 8 a9 y.2.2.2.2.2, eC a10 a11 a12 a14 a15 f10, eS a11 f11, eW a12 a13 f12, eA cI 16 a13 f13, eA cI 256 a14 f14, eA cZ 8 a15 f15, eC a16 a17 a18 a20 a21 f16, eS a17 f17, eW a18 a19 f18, eA cI 16 a19 f19, eA cI 256 a20 f20, eA cZ 8 a21 f21]) := by
  refine Ctr.of (by decide) (Nat.le_of_ble_eq_true rfl) ?_
  intro p e s m below meth c A C
  have C : CX p s m ([.ref a0, .int u1, .int u2, .int u3] : List Value).toArray meth c cX4_order 5 RX4 D cI cZ A (some .int) := C
  refine VF.lve (lv' := [(0, .ref a0), (1, .int u1), (2, .int u2), (3, .int u3)]) rfl ?_
  refine VF.eq (zX4_order.eq_1 f4 f5 f6 f7 f8 f9 u1 u2 u3) ?_
  refine VF.iload_n C 1 dX4_order_0 rfl ?_
  refine VF.callSi C (As := [.int u1]) (rest := []) lk_X4_74 (mtX4_isByte l D cI cZ u1) (fun y => y) (fun _ => rfl) [] rfl rfl (fun _ => rfl) (ws' := fun y => [eF a0 a1 a4 a10 a16 f0, eT a1 a2 a3 f1, eA cI 200 a2 f2, eS a3 f3, eC a4 a5 a6 a8 a9 f4, eS a5 f5, eW a6 a7 f6, eA cI 16 a7 f7, eA cI 256 a8 f8, eA cZ 8 a9 f9, eC a10 a11 a12 a14 a15 f10, eS a11 f11, eW a12 a13 f12, eA cI 16 a13 f13, eA cI 256 a14 f14, eA cZ 8 a15 f15, eC a16 a17 a18 a20 a21 f16, eS a17 f17, eW a18 a19 f18, eA cI 16 a19 f19, eA cI 256 a20 f20, eA cZ 8 a21 f21]) (fun _ => rfl) rfl rfl (Nat.le_of_ble_eq_true rfl) ⟨Nat.le_of_ble_eq_true rfl, Nat.le_of_ble_eq_true rfl⟩ dX4_order_1 ⟨Nat.le_refl 0, Nat.le_refl 0⟩ (fun y1 => ?_)
  refine VF.if_eq C 24 dX4_order_4 rfl (fun h1 => ?_) (fun h1 => ?_)
  · refine VF.iconst C dX4_order_24 kc_m1 ?_
    exact VF.iret C rfl rfl dX4_order_25
  · refine VF.iload_n C 2 dX4_order_7 rfl ?_
    refine VF.callSi C (As := [.int u2]) (rest := []) lk_X4_74 (mtX4_isByte l D cI cZ u2) (fun y => y) (fun _ => rfl) [] rfl rfl (fun _ => rfl) (ws' := fun y => [eF a0 a1 a4 a10 a16 f0, eT a1 a2 a3 f1, eA cI 200 a2 f2, eS a3 f3, eC a4 a5 a6 a8 a9 f4, eS a5 f5, eW a6 a7 f6, eA cI 16 a7 f7, eA cI 256 a8 f8, eA cZ 8 a9 f9, eC a10 a11 a12 a14 a15 f10, eS a11 f11, eW a12 a13 f12, eA cI 16 a13 f13, eA cI 256 a14 f14, eA cZ 8 a15 f15, eC a16 a17 a18 a20 a21 f16, eS a17 f17, eW a18 a19 f18, eA cI 16 a19 f19, eA cI 256 a20 f20, eA cZ 8 a21 f21]) (fun _ => rfl) rfl rfl (Nat.le_of_ble_eq_true rfl) ⟨Nat.le_of_ble_eq_true rfl, Nat.le_of_ble_eq_true rfl⟩ dX4_order_8 ⟨Nat.le_refl 0, Nat.le_refl 0⟩ (fun y2 => ?_)
    refine VF.if_eq C 24 dX4_order_11 rfl (fun h2 => ?_) (fun h2 => ?_)
    · refine VF.iconst C dX4_order_24 kc_m1 ?_
      exact VF.iret C rfl rfl dX4_order_25
    · refine VF.iload_n C 3 dX4_order_14 rfl ?_
      refine VF.if_lt C 24 dX4_order_15 rfl (fun h3 => ?_) (fun h3 => ?_)
      · refine VF.iconst C dX4_order_24 kc_m1 ?_
        exact VF.iret C rfl rfl dX4_order_25
      · refine VF.iload_n C 3 dX4_order_18 rfl ?_
        refine VF.bipush C dX4_order_19 kb_40 ?_
        refine VF.icmp_le C 26 dX4_order_21 rfl (fun h4 => ?_) (fun h4 => ?_)
        · refine VF.aload_n C 0 dX4_order_26 rfl ?_
          refine VF.get C fl_X4_19 0 rfl rfl dX4_order_27 ?_
          refine VF.callVi C (b := a4) (As := []) (rest := []) lk_X4_65 (mtX0_isSelected l D cI cZ a4 a5 a6 a7 a8 a9 f4 f5 f6 f7 f8 f9) (fun y => y) (fun _ => rfl) [4, 5, 6, 7, 8, 9] rfl rfl (fun _ => rfl) (ws' := fun y => [eF a0 a1 a4 a10 a16 f0, eT a1 a2 a3 f1, eA cI 200 a2 f2, eS a3 f3, eC a4 a5 a6 a8 a9 f4, eS a5 f5, eW a6 a7 f6, eA cI 16 a7 f7, eA cI 256 a8 f8, eA cZ 8 a9 f9, eC a10 a11 a12 a14 a15 f10, eS a11 f11, eW a12 a13 f12, eA cI 16 a13 f13, eA cI 256 a14 f14, eA cZ 8 a15 f15, eC a16 a17 a18 a20 a21 f16, eS a17 f17, eW a18 a19 f18, eA cI 16 a19 f19, eA cI 256 a20 f20, eA cZ 8 a21 f21]) (fun _ => rfl) (ci := 0) rfl rfl rfl rfl (Nat.le_of_ble_eq_true rfl) ⟨Nat.le_of_ble_eq_true rfl, Nat.le_of_ble_eq_true rfl⟩ dX4_order_30 ⟨Nat.le_refl 0, Nat.le_refl 0⟩ (fun y3 => ?_)
          refine VF.if_eq C 39 dX4_order_33 rfl (fun h5 => ?_) (fun h5 => ?_)
          · refine VF.aload_n C 0 dX4_order_39 rfl ?_
            refine VF.get C fl_X4_19 0 rfl rfl dX4_order_40 ?_
            refine VF.callVv C (b := a4) (As := []) (rest := []) lk_X4_68 (mtX0_open l D cI cZ a4 a5 a6 a7 a8 a9 f4 f5 f6 f7 f8 f9) (fun _ => rfl) [4, 5, 6, 7, 8, 9] rfl rfl (fun _ => rfl) (ws' := fun y => [eF a0 a1 a4 a10 a16 f0, eT a1 a2 a3 f1, eA cI 200 a2 f2, eS a3 f3, eC a4 a5 a6 a8 a9 f4, eS a5 f5, eW a6 a7 y.1, eA cI 16 a7 y.2, eA cI 256 a8 f8, eA cZ 8 a9 f9, eC a10 a11 a12 a14 a15 f10, eS a11 f11, eW a12 a13 f12, eA cI 16 a13 f13, eA cI 256 a14 f14, eA cZ 8 a15 f15, eC a16 a17 a18 a20 a21 f16, eS a17 f17, eW a18 a19 f18, eA cI 16 a19 f19, eA cI 256 a20 f20, eA cZ 8 a21 f21]) (fun _ => rfl) (ci := 0) rfl rfl rfl rfl (Nat.le_of_ble_eq_true rfl) ⟨Nat.le_of_ble_eq_true rfl, Nat.le_of_ble_eq_true rfl⟩ dX4_order_43 ⟨Nat.le_refl 0, Nat.le_refl 0⟩ (fun y4 => ?_)
            refine VF.aload_n C 0 dX4_order_46 rfl ?_
            refine VF.get C fl_X4_19 0 rfl rfl dX4_order_47 ?_
            refine VF.iload_n C 1 dX4_order_50 rfl ?_
            refine VF.callVi C (b := a4) (As := [.int u1]) (rest := []) lk_X4_77 (mtX0_accept l D cI cZ a4 a5 a6 a7 a8 a9 f4 f5 y4.1 y4.2 f8 f9 u1) (fun y => y.1) (fun _ => rfl) [4, 5, 6, 7, 8, 9] rfl rfl (fun _ => rfl) (ws' := fun y => [eF a0 a1 a4 a10 a16 f0, eT a1 a2 a3 f1, eA cI 200 a2 f2, eS a3 f3, eC a4 a5 a6 a8 a9 y.2.1, eS a5 f5, eW a6 a7 y.2.2.1, eA cI 16 a7 y.2.2.2, eA cI 256 a8 f8, eA cZ 8 a9 f9, eC a10 a11 a12 a14 a15 f10, eS a11 f11, eW a12 a13 f12, eA cI 16 a13 f13, eA cI 256 a14 f14, eA cZ 8 a15 f15, eC a16 a17 a18 a20 a21 f16, eS a17 f17, eW a18 a19 f18, eA cI 16 a19 f19, eA cI 256 a20 f20, eA cZ 8 a21 f21]) (fun _ => rfl) (ci := 0) rfl rfl rfl rfl (Nat.le_of_ble_eq_true rfl) ⟨Nat.le_of_ble_eq_true rfl, Nat.le_of_ble_eq_true rfl⟩ dX4_order_51 ⟨Nat.le_refl 0, Nat.le_refl 0⟩ (fun y5 => ?_)
            refine VF.istore C [1, 2, 3, 4, 0] dX4_order_54 (Nat.le_of_ble_eq_true rfl) (lv' := [(0, .ref a0), (1, .int u1), (2, .int u2), (3, .int u3), (4, .int y5.1)]) rfl ?_
            refine VF.aload_n C 0 dX4_order_56 rfl ?_
            refine VF.iload C 4 dX4_order_57 rfl ?_
            refine VF.iload_n C 2 dX4_order_59 rfl ?_
            refine VF.iload_n C 3 dX4_order_60 rfl ?_
            refine VF.callVi C (b := a0) (As := [.int y5.1, .int u2, .int u3]) (rest := []) lk_X4_87 (mtX4_closeBehind l D cI cZ a0 a1 a2 a3 a4 a5 a6 a7 a8 a9 a10 a11 a12 a13 a14 a15 a16 a17 a18 a19 a20 a21 f0 f1 f2 f3 y5.2.1 f5 y5.2.2.1 y5.2.2.2 f8 f9 f10 f11 f12 f13 f14 f15 f16 f17 f18 f19 f20 f21 y5.1 u2 u3) (fun y => y.1) (fun _ => rfl) [0, 1, 2, 3, 4, 5, 6, 7, 8, 9, 10, 11, 12, 13, 14, 15, 16, 17, 18, 19, 20, 21] rfl rfl (fun _ => rfl) (ws' := fun y => [eF a0 a1 a4 a10 a16 f0, eT a1 a2 a3 f1, eA cI 200 a2 f2, eS a3 f3, eC a4 a5 a6 a8 a9 y.2.1, eS a5 f5, eW a6 a7 y.2.2.1, eA cI 16 a7 y.2.2.2.1, eA cI 256 a8 y.2.2.2.2.1, eA cZ 8 a9 y.2.2.2.2.2, eC a10 a11 a12 a14 a15 f10, eS a11 f11, eW a12 a13 f12, eA cI 16 a13 f13, eA cI 256 a14 f14, eA cZ 8 a15 f15, eC a16 a17 a18 a20 a21 f16, eS a17 f17, eW a18 a19 f18, eA cI 16 a19 f19, eA cI 256 a20 f20, eA cZ 8 a21 f21]) (fun _ => rfl) (ci := 4) rfl rfl rfl rfl (Nat.le_of_ble_eq_true rfl) ⟨Nat.le_of_ble_eq_true rfl, Nat.le_of_ble_eq_true rfl⟩ dX4_order_61 ⟨Nat.le_refl 0, Nat.le_refl 0⟩ (fun y6 => ?_)
            exact VF.iret C rfl rfl dX4_order_64
          · refine VF.bipush C dX4_order_36 kb_m2 ?_
            exact VF.iret C rfl rfl dX4_order_38
        · refine VF.iconst C dX4_order_24 kc_m1 ?_
          exact VF.iret C rfl rfl dX4_order_25
set_option maxHeartbeats 4000000 in
set_option maxRecDepth 100000 in
theorem mtX4_tick (l : Launch) (D : va_G) (cI cZ : ClassId) (a0 a1 a2 a3 a4 a5 a6 a7 a8 a9 a10 a11 a12 a13 a14 a15 a16 a17 a18 a19 a20 a21 : Nat) (f0 f1 f2 f3 f4 f5 f6 f7 f8 f9 f10 f11 f12 f13 f14 f15 f16 f17 f18 f19 f20 f21 : Fn) (u1 : Int32) : Ctr l yX4_tick cX4_tick 4 (some .int) 4 80 D cI cZ [.ref a0, .int u1] [eF a0 a1 a4 a10 a16 f0, eT a1 a2 a3 f1, eA cI 200 a2 f2, eS a3 f3, eC a4 a5 a6 a8 a9 f4, eS a5 f5, eW a6 a7 f6, eA cI 16 a7 f7, eA cI 256 a8 f8, eA cZ 8 a9 f9, eC a10 a11 a12 a14 a15 f10, eS a11 f11, eW a12 a13 f12, eA cI 16 a13 f13, eA cI 256 a14 f14, eA cZ 8 a15 f15, eC a16 a17 a18 a20 a21 f16, eS a17 f17, eW a18 a19 f18, eA cI 16 a19 f19, eA cI 256 a20 f20, eA cZ 8 a21 f21] (zX4_tick f4 f5 f8 u1) (fun y : Int32 × Fn × Fn => some (Value.int y.1)) (fun y : Int32 × Fn × Fn => [eF a0 a1 a4 a10 a16 f0, eT a1 a2 a3 f1, eA cI 200 a2 f2, eS a3 f3, eC a4 a5 a6 a8 a9 y.2.1, eS a5 f5, eW a6 a7 f6, eA cI 16 a7 f7, eA cI 256 a8 y.2.2, eA cZ 8 a9 f9, eC a10 a11 a12 a14 a15 f10, eS a11 f11, eW a12 a13 f12, eA cI 16 a13 f13, eA cI 256 a14 f14, eA cZ 8 a15 f15, eC a16 a17 a18 a20 a21 f16, eS a17 f17, eW a18 a19 f18, eA cI 16 a19 f19, eA cI 256 a20 f20, eA cZ 8 a21 f21]) := by
  refine Ctr.of (by decide) (Nat.le_of_ble_eq_true rfl) ?_
  intro p e s m below meth c A C
  have C : CX p s m ([.ref a0, .int u1] : List Value).toArray meth c cX4_tick 4 RX4 D cI cZ A (some .int) := C
  have k17 : ∀ (n : Nat) (x1 : Int32) (x2 : Int32) (x3 : Int32) (f4 : Fn) (f8 : Fn), VF p l e { frames := 4, cells := 0, slots := 0, locals := 80 } s m ([.ref a0, .int u1] : List Value).toArray below meth c 0 0 D A 4 (fun r => MQ below (QcX ((fun y : Int32 × Fn × Fn => some (Value.int y.1)) r) D ((fun y : Int32 × Fn × Fn => [eF a0 a1 a4 a10 a16 f0, eT a1 a2 a3 f1, eA cI 200 a2 f2, eS a3 f3, eC a4 a5 a6 a8 a9 y.2.1, eS a5 f5, eW a6 a7 f6, eA cI 16 a7 f7, eA cI 256 a8 y.2.2, eA cZ 8 a9 f9, eC a10 a11 a12 a14 a15 f10, eS a11 f11, eW a12 a13 f12, eA cI 16 a13 f13, eA cI 256 a14 f14, eA cZ 8 a15 f15, eC a16 a17 a18 a20 a21 f16, eS a17 f17, eW a18 a19 f18, eA cI 16 a19 f19, eA cI 256 a20 f20, eA cZ 8 a21 f21]) r) A) ([.ref a0, .int u1] : List Value).toArray s 0 0 A) (zX4_tick_k17 n f4 f5 f8 x1 x2 x3) [eF a0 a1 a4 a10 a16 f0, eT a1 a2 a3 f1, eA cI 200 a2 f2, eS a3 f3, eC a4 a5 a6 a8 a9 f4, eS a5 f5, eW a6 a7 f6, eA cI 16 a7 f7, eA cI 256 a8 f8, eA cZ 8 a9 f9, eC a10 a11 a12 a14 a15 f10, eS a11 f11, eW a12 a13 f12, eA cI 16 a13 f13, eA cI 256 a14 f14, eA cZ 8 a15 f15, eC a16 a17 a18 a20 a21 f16, eS a17 f17, eW a18 a19 f18, eA cI 16 a19 f19, eA cI 256 a20 f20, eA cZ 8 a21 f21] 17 [(0, .ref a0), (1, .int x1), (2, .int x2), (3, .int x3)] [] := by
    intro n
    induction n with
    | zero =>
      intro x1 x2 x3 f4 f8
      exact VF.eq (zX4_tick_k17.eq_1 _ _ _ _ _ _) VF.nn
    | succ n ih =>
      intro x1 x2 x3 f4 f8
      refine VF.eq (zX4_tick_k17.eq_2 _ _ _ _ _ _ _) ?_
      refine VF.iload_n C 3 dX4_tick_17 rfl ?_
      refine VF.iload_n C 1 dX4_tick_18 rfl ?_
      refine VF.icmp_ge C 48 dX4_tick_19 rfl (fun h3 => ?_) (fun h3 => ?_)
      · refine VF.iload_n C 2 dX4_tick_48 rfl ?_
        exact VF.iret C rfl rfl dX4_tick_49
      · refine VF.aload_n C 0 dX4_tick_22 rfl ?_
        refine VF.get C fl_X4_19 0 rfl rfl dX4_tick_23 ?_
        refine VF.callVi C (b := a4) (As := []) (rest := []) lk_X4_91 (mtX0_isBusy l D cI cZ a4 a5 a6 a7 a8 a9 f4 f5 f6 f7 f8 f9) (fun y => y) (fun _ => rfl) [4, 5, 6, 7, 8, 9] rfl rfl (fun _ => rfl) (ws' := fun y => [eF a0 a1 a4 a10 a16 f0, eT a1 a2 a3 f1, eA cI 200 a2 f2, eS a3 f3, eC a4 a5 a6 a8 a9 f4, eS a5 f5, eW a6 a7 f6, eA cI 16 a7 f7, eA cI 256 a8 f8, eA cZ 8 a9 f9, eC a10 a11 a12 a14 a15 f10, eS a11 f11, eW a12 a13 f12, eA cI 16 a13 f13, eA cI 256 a14 f14, eA cZ 8 a15 f15, eC a16 a17 a18 a20 a21 f16, eS a17 f17, eW a18 a19 f18, eA cI 16 a19 f19, eA cI 256 a20 f20, eA cZ 8 a21 f21]) (fun _ => rfl) (ci := 0) rfl rfl rfl rfl (Nat.le_of_ble_eq_true rfl) ⟨Nat.le_of_ble_eq_true rfl, Nat.le_of_ble_eq_true rfl⟩ dX4_tick_26 ⟨Nat.le_refl 0, Nat.le_refl 0⟩ (fun y1 => ?_)
        refine VF.if_eq C 42 dX4_tick_29 rfl (fun h4 => ?_) (fun h4 => ?_)
        · refine VF.iinc C 3 [1, 2, 3, 0] dX4_tick_42 rfl (v := (x3 + 1)) rfl (Nat.le_of_ble_eq_true rfl) (lv' := [(0, .ref a0), (1, .int x1), (2, .int x2), (3, .int (x3 + 1))]) rfl ?_
          refine VF.goto C 17 dX4_tick_45 rfl ?_
          exact ih x1 x2 (x3 + 1) f4 f8
        · refine VF.iinc C 2 [1, 2, 0, 3] dX4_tick_32 rfl (v := (x2 + 1)) rfl (Nat.le_of_ble_eq_true rfl) (lv' := [(0, .ref a0), (1, .int x1), (2, .int (x2 + 1)), (3, .int x3)]) rfl ?_
          refine VF.aload_n C 0 dX4_tick_35 rfl ?_
          refine VF.get C fl_X4_19 0 rfl rfl dX4_tick_36 ?_
          refine VF.callVv C (b := a4) (As := []) (rest := []) lk_X4_94 (mtX0_passTick l D cI cZ a4 a5 a6 a7 a8 a9 f4 f5 f6 f7 f8 f9) (fun _ => rfl) [4, 5, 6, 7, 8, 9] rfl rfl (fun _ => rfl) (ws' := fun y => [eF a0 a1 a4 a10 a16 f0, eT a1 a2 a3 f1, eA cI 200 a2 f2, eS a3 f3, eC a4 a5 a6 a8 a9 y.1, eS a5 f5, eW a6 a7 f6, eA cI 16 a7 f7, eA cI 256 a8 y.2, eA cZ 8 a9 f9, eC a10 a11 a12 a14 a15 f10, eS a11 f11, eW a12 a13 f12, eA cI 16 a13 f13, eA cI 256 a14 f14, eA cZ 8 a15 f15, eC a16 a17 a18 a20 a21 f16, eS a17 f17, eW a18 a19 f18, eA cI 16 a19 f19, eA cI 256 a20 f20, eA cZ 8 a21 f21]) (fun _ => rfl) (ci := 0) rfl rfl rfl rfl (Nat.le_of_ble_eq_true rfl) ⟨Nat.le_of_ble_eq_true rfl, Nat.le_of_ble_eq_true rfl⟩ dX4_tick_39 ⟨Nat.le_refl 0, Nat.le_refl 0⟩ (fun y2 => ?_)
          refine VF.iinc C 3 [1, 2, 3, 0] dX4_tick_42 rfl (v := (x3 + 1)) rfl (Nat.le_of_ble_eq_true rfl) (lv' := [(0, .ref a0), (1, .int x1), (2, .int (x2 + 1)), (3, .int (x3 + 1))]) rfl ?_
          refine VF.goto C 17 dX4_tick_45 rfl ?_
          exact ih x1 (x2 + 1) (x3 + 1) y2.1 y2.2
  refine VF.lve (lv' := [(0, .ref a0), (1, .int u1)]) rfl ?_
  refine VF.eq (zX4_tick.eq_1 f4 f5 f8 u1) ?_
  refine VF.iload_n C 1 dX4_tick_0 rfl ?_
  refine VF.iconst C dX4_tick_1 kc_1 ?_
  refine VF.icmp_lt C 11 dX4_tick_2 rfl (fun h1 => ?_) (fun h1 => ?_)
  · refine VF.iconst C dX4_tick_11 kc_m1 ?_
    exact VF.iret C rfl rfl dX4_tick_12
  · refine VF.iload_n C 1 dX4_tick_5 rfl ?_
    refine VF.bipush C dX4_tick_6 kb_99 ?_
    refine VF.icmp_le C 13 dX4_tick_8 rfl (fun h2 => ?_) (fun h2 => ?_)
    · refine VF.iconst C dX4_tick_13 kc_0 ?_
      refine VF.istore_n C [1, 2, 0] dX4_tick_14 rfl (Nat.le_of_ble_eq_true rfl) (lv' := [(0, .ref a0), (1, .int u1), (2, .int 0)]) rfl ?_
      refine VF.iconst C dX4_tick_15 kc_0 ?_
      refine VF.istore_n C [1, 2, 3, 0] dX4_tick_16 rfl (Nat.le_of_ble_eq_true rfl) (lv' := [(0, .ref a0), (1, .int u1), (2, .int 0), (3, .int 0)]) rfl ?_
      exact k17 4096 u1 0 0 f4 f8
    · refine VF.iconst C dX4_tick_11 kc_m1 ?_
      exact VF.iret C rfl rfl dX4_tick_12
set_option maxHeartbeats 4000000 in
set_option maxRecDepth 100000 in
theorem mtX4_at (l : Launch) (D : va_G) (cI cZ : ClassId) (a0 a1 a2 a3 a4 a5 a6 a7 a8 a9 a10 a11 a12 a13 a14 a15 a16 a17 a18 a19 a20 a21 : Nat) (f0 f1 f2 f3 f4 f5 f6 f7 f8 f9 f10 f11 f12 f13 f14 f15 f16 f17 f18 f19 f20 f21 : Fn) (u1 : Int32) : Ctr l yX4_at cX4_at 2 (some .int) 3 60 D cI cZ [.ref a0, .int u1] [eF a0 a1 a4 a10 a16 f0, eT a1 a2 a3 f1, eA cI 200 a2 f2, eS a3 f3, eC a4 a5 a6 a8 a9 f4, eS a5 f5, eW a6 a7 f6, eA cI 16 a7 f7, eA cI 256 a8 f8, eA cZ 8 a9 f9, eC a10 a11 a12 a14 a15 f10, eS a11 f11, eW a12 a13 f12, eA cI 16 a13 f13, eA cI 256 a14 f14, eA cZ 8 a15 f15, eC a16 a17 a18 a20 a21 f16, eS a17 f17, eW a18 a19 f18, eA cI 16 a19 f19, eA cI 256 a20 f20, eA cZ 8 a21 f21] (zX4_at f5 f8 u1) (fun y : Int32 => some (Value.int y)) (fun _ : Int32 => [eF a0 a1 a4 a10 a16 f0, eT a1 a2 a3 f1, eA cI 200 a2 f2, eS a3 f3, eC a4 a5 a6 a8 a9 f4, eS a5 f5, eW a6 a7 f6, eA cI 16 a7 f7, eA cI 256 a8 f8, eA cZ 8 a9 f9, eC a10 a11 a12 a14 a15 f10, eS a11 f11, eW a12 a13 f12, eA cI 16 a13 f13, eA cI 256 a14 f14, eA cZ 8 a15 f15, eC a16 a17 a18 a20 a21 f16, eS a17 f17, eW a18 a19 f18, eA cI 16 a19 f19, eA cI 256 a20 f20, eA cZ 8 a21 f21]) := by
  refine Ctr.of (by decide) (Nat.le_of_ble_eq_true rfl) ?_
  intro p e s m below meth c A C
  have C : CX p s m ([.ref a0, .int u1] : List Value).toArray meth c cX4_at 2 RX4 D cI cZ A (some .int) := C
  refine VF.lve (lv' := [(0, .ref a0), (1, .int u1)]) rfl ?_
  refine VF.eq (zX4_at.eq_1 f5 f8 u1) ?_
  refine VF.iload_n C 1 dX4_at_0 rfl ?_
  refine VF.if_lt C 15 dX4_at_1 rfl (fun h1 => ?_) (fun h1 => ?_)
  · refine VF.iconst C dX4_at_15 kc_m1 ?_
    exact VF.iret C rfl rfl dX4_at_16
  · refine VF.iload_n C 1 dX4_at_4 rfl ?_
    refine VF.aload_n C 0 dX4_at_5 rfl ?_
    refine VF.get C fl_X4_19 0 rfl rfl dX4_at_6 ?_
    refine VF.callVi C (b := a4) (As := []) (rest := [.int u1]) lk_X4_62 (mtX0_all l D cI cZ a4 a5 a6 a7 a8 a9 f4 f5 f6 f7 f8 f9) (fun y => y) (fun _ => rfl) [4, 5, 6, 7, 8, 9] rfl rfl (fun _ => rfl) (ws' := fun y => [eF a0 a1 a4 a10 a16 f0, eT a1 a2 a3 f1, eA cI 200 a2 f2, eS a3 f3, eC a4 a5 a6 a8 a9 f4, eS a5 f5, eW a6 a7 f6, eA cI 16 a7 f7, eA cI 256 a8 f8, eA cZ 8 a9 f9, eC a10 a11 a12 a14 a15 f10, eS a11 f11, eW a12 a13 f12, eA cI 16 a13 f13, eA cI 256 a14 f14, eA cZ 8 a15 f15, eC a16 a17 a18 a20 a21 f16, eS a17 f17, eW a18 a19 f18, eA cI 16 a19 f19, eA cI 256 a20 f20, eA cZ 8 a21 f21]) (fun _ => rfl) (ci := 0) rfl rfl rfl rfl (Nat.le_of_ble_eq_true rfl) ⟨Nat.le_of_ble_eq_true rfl, Nat.le_of_ble_eq_true rfl⟩ dX4_at_9 ⟨Nat.le_refl 0, Nat.le_refl 0⟩ (fun y1 => ?_)
    refine VF.icmp_lt C 17 dX4_at_12 rfl (fun h2 => ?_) (fun h2 => ?_)
    · refine VF.aload_n C 0 dX4_at_17 rfl ?_
      refine VF.get C fl_X4_19 0 rfl rfl dX4_at_18 ?_
      refine VF.iload_n C 1 dX4_at_21 rfl ?_
      refine VF.callVi C (b := a4) (As := [.int u1]) (rest := []) lk_X4_97 (mtX0_byteAt l D cI cZ a4 a5 a6 a7 a8 a9 f4 f5 f6 f7 f8 f9 u1) (fun y => y) (fun _ => rfl) [4, 5, 6, 7, 8, 9] rfl rfl (fun _ => rfl) (ws' := fun y => [eF a0 a1 a4 a10 a16 f0, eT a1 a2 a3 f1, eA cI 200 a2 f2, eS a3 f3, eC a4 a5 a6 a8 a9 f4, eS a5 f5, eW a6 a7 f6, eA cI 16 a7 f7, eA cI 256 a8 f8, eA cZ 8 a9 f9, eC a10 a11 a12 a14 a15 f10, eS a11 f11, eW a12 a13 f12, eA cI 16 a13 f13, eA cI 256 a14 f14, eA cZ 8 a15 f15, eC a16 a17 a18 a20 a21 f16, eS a17 f17, eW a18 a19 f18, eA cI 16 a19 f19, eA cI 256 a20 f20, eA cZ 8 a21 f21]) (fun _ => rfl) (ci := 0) rfl rfl rfl rfl (Nat.le_of_ble_eq_true rfl) ⟨Nat.le_of_ble_eq_true rfl, Nat.le_of_ble_eq_true rfl⟩ dX4_at_22 ⟨Nat.le_refl 0, Nat.le_refl 0⟩ (fun y2 => ?_)
      exact VF.iret C rfl rfl dX4_at_25
    · refine VF.iconst C dX4_at_15 kc_m1 ?_
      exact VF.iret C rfl rfl dX4_at_16
set_option maxHeartbeats 4000000 in
set_option maxRecDepth 100000 in
theorem mtX4_sector (l : Launch) (D : va_G) (cI cZ : ClassId) (a0 a1 a2 a3 a4 a5 a6 a7 a8 a9 a10 a11 a12 a13 a14 a15 a16 a17 a18 a19 a20 a21 : Nat) (f0 f1 f2 f3 f4 f5 f6 f7 f8 f9 f10 f11 f12 f13 f14 f15 f16 f17 f18 f19 f20 f21 : Fn) (u1 : Int32) (u2 : Int32) : Ctr l yX4_sector cX4_sector 3 (some .int) 2 45 D cI cZ [.ref a0, .int u1, .int u2] [eF a0 a1 a4 a10 a16 f0, eT a1 a2 a3 f1, eA cI 200 a2 f2, eS a3 f3, eC a4 a5 a6 a8 a9 f4, eS a5 f5, eW a6 a7 f6, eA cI 16 a7 f7, eA cI 256 a8 f8, eA cZ 8 a9 f9, eC a10 a11 a12 a14 a15 f10, eS a11 f11, eW a12 a13 f12, eA cI 16 a13 f13, eA cI 256 a14 f14, eA cZ 8 a15 f15, eC a16 a17 a18 a20 a21 f16, eS a17 f17, eW a18 a19 f18, eA cI 16 a19 f19, eA cI 256 a20 f20, eA cZ 8 a21 f21] (zX4_sector f4 f5 f8 f9 u1 u2) (fun y : Int32 => some (Value.int y)) (fun _ : Int32 => [eF a0 a1 a4 a10 a16 f0, eT a1 a2 a3 f1, eA cI 200 a2 f2, eS a3 f3, eC a4 a5 a6 a8 a9 f4, eS a5 f5, eW a6 a7 f6, eA cI 16 a7 f7, eA cI 256 a8 f8, eA cZ 8 a9 f9, eC a10 a11 a12 a14 a15 f10, eS a11 f11, eW a12 a13 f12, eA cI 16 a13 f13, eA cI 256 a14 f14, eA cZ 8 a15 f15, eC a16 a17 a18 a20 a21 f16, eS a17 f17, eW a18 a19 f18, eA cI 16 a19 f19, eA cI 256 a20 f20, eA cZ 8 a21 f21]) := by
  refine Ctr.of (by decide) (Nat.le_of_ble_eq_true rfl) ?_
  intro p e s m below meth c A C
  have C : CX p s m ([.ref a0, .int u1, .int u2] : List Value).toArray meth c cX4_sector 3 RX4 D cI cZ A (some .int) := C
  refine VF.lve (lv' := [(0, .ref a0), (1, .int u1), (2, .int u2)]) rfl ?_
  refine VF.eq (zX4_sector.eq_1 f4 f5 f8 f9 u1 u2) ?_
  refine VF.iload_n C 1 dX4_sector_0 rfl ?_
  refine VF.if_lt C 18 dX4_sector_1 rfl (fun h1 => ?_) (fun h1 => ?_)
  · refine VF.iconst C dX4_sector_18 kc_m1 ?_
    exact VF.iret C rfl rfl dX4_sector_19
  · refine VF.iload_n C 1 dX4_sector_4 rfl ?_
    refine VF.aload_n C 0 dX4_sector_5 rfl ?_
    refine VF.get C fl_X4_19 0 rfl rfl dX4_sector_6 ?_
    refine VF.callVr C (b := a4) (As := []) (rest := [.int u1]) lk_X4_100 (mtX0_shape l D cI cZ a4 a5 a6 a7 a8 a9 f4 f5 f6 f7 f8 f9) (fun _ => a5) (fun _ => rfl) [4, 5, 6, 7, 8, 9] rfl rfl (fun _ => rfl) (ws' := fun y => [eF a0 a1 a4 a10 a16 f0, eT a1 a2 a3 f1, eA cI 200 a2 f2, eS a3 f3, eC a4 a5 a6 a8 a9 f4, eS a5 f5, eW a6 a7 f6, eA cI 16 a7 f7, eA cI 256 a8 f8, eA cZ 8 a9 f9, eC a10 a11 a12 a14 a15 f10, eS a11 f11, eW a12 a13 f12, eA cI 16 a13 f13, eA cI 256 a14 f14, eA cZ 8 a15 f15, eC a16 a17 a18 a20 a21 f16, eS a17 f17, eW a18 a19 f18, eA cI 16 a19 f19, eA cI 256 a20 f20, eA cZ 8 a21 f21]) (fun _ => rfl) (ci := 0) rfl rfl rfl rfl (Nat.le_of_ble_eq_true rfl) ⟨Nat.le_of_ble_eq_true rfl, Nat.le_of_ble_eq_true rfl⟩ dX4_sector_9 ⟨Nat.le_refl 0, Nat.le_refl 0⟩ (fun y1 => ?_)
    refine VF.callVi C (b := a5) (As := []) (rest := [.int u1]) lk_X4_103 (mtX1_sectors l D cI cZ a5 f5) (fun y => y) (fun _ => rfl) [5] rfl rfl (fun _ => rfl) (ws' := fun y => [eF a0 a1 a4 a10 a16 f0, eT a1 a2 a3 f1, eA cI 200 a2 f2, eS a3 f3, eC a4 a5 a6 a8 a9 f4, eS a5 f5, eW a6 a7 f6, eA cI 16 a7 f7, eA cI 256 a8 f8, eA cZ 8 a9 f9, eC a10 a11 a12 a14 a15 f10, eS a11 f11, eW a12 a13 f12, eA cI 16 a13 f13, eA cI 256 a14 f14, eA cZ 8 a15 f15, eC a16 a17 a18 a20 a21 f16, eS a17 f17, eW a18 a19 f18, eA cI 16 a19 f19, eA cI 256 a20 f20, eA cZ 8 a21 f21]) (fun _ => rfl) (ci := 1) rfl rfl rfl rfl (Nat.le_of_ble_eq_true rfl) ⟨Nat.le_of_ble_eq_true rfl, Nat.le_of_ble_eq_true rfl⟩ dX4_sector_12 ⟨Nat.le_refl 0, Nat.le_refl 0⟩ (fun y2 => ?_)
    refine VF.icmp_lt C 20 dX4_sector_15 rfl (fun h2 => ?_) (fun h2 => ?_)
    · refine VF.iload_n C 2 dX4_sector_20 rfl ?_
      refine VF.ite (fun h3 => ?_) (fun h3 => ?_)
      · refine VF.tableIn (off := 35) C 56 dX4_sector_21 (by rw [h3]; decide) (by rw [h3]; decide) (by rw [h3]; decide) rfl ?_
        refine VF.aload_n C 0 dX4_sector_56 rfl ?_
        refine VF.get C fl_X4_19 0 rfl rfl dX4_sector_57 ?_
        refine VF.iload_n C 1 dX4_sector_60 rfl ?_
        refine VF.callVi C (b := a4) (As := [.int u1]) (rest := []) lk_X4_108 (mtX0_blanksIn l D cI cZ a4 a5 a6 a7 a8 a9 f4 f5 f6 f7 f8 f9 u1) (fun y => y) (fun _ => rfl) [4, 5, 6, 7, 8, 9] rfl rfl (fun _ => rfl) (ws' := fun y => [eF a0 a1 a4 a10 a16 f0, eT a1 a2 a3 f1, eA cI 200 a2 f2, eS a3 f3, eC a4 a5 a6 a8 a9 f4, eS a5 f5, eW a6 a7 f6, eA cI 16 a7 f7, eA cI 256 a8 f8, eA cZ 8 a9 f9, eC a10 a11 a12 a14 a15 f10, eS a11 f11, eW a12 a13 f12, eA cI 16 a13 f13, eA cI 256 a14 f14, eA cZ 8 a15 f15, eC a16 a17 a18 a20 a21 f16, eS a17 f17, eW a18 a19 f18, eA cI 16 a19 f19, eA cI 256 a20 f20, eA cZ 8 a21 f21]) (fun _ => rfl) (ci := 0) rfl rfl rfl rfl (Nat.le_of_ble_eq_true rfl) ⟨Nat.le_of_ble_eq_true rfl, Nat.le_of_ble_eq_true rfl⟩ dX4_sector_61 ⟨Nat.le_refl 0, Nat.le_refl 0⟩ (fun y3 => ?_)
        exact VF.iret C rfl rfl dX4_sector_64
      refine VF.ite (fun h4 => ?_) (fun h4 => ?_)
      · refine VF.tableIn (off := 44) C 65 dX4_sector_21 (by rw [h4]; decide) (by rw [h4]; decide) (by rw [h4]; decide) rfl ?_
        refine VF.aload_n C 0 dX4_sector_65 rfl ?_
        refine VF.get C fl_X4_19 0 rfl rfl dX4_sector_66 ?_
        refine VF.iload_n C 1 dX4_sector_69 rfl ?_
        refine VF.callVi C (b := a4) (As := [.int u1]) (rest := []) lk_X4_111 (mtX0_sumOf l D cI cZ a4 a5 a6 a7 a8 a9 f4 f5 f6 f7 f8 f9 u1) (fun y => y) (fun _ => rfl) [4, 5, 6, 7, 8, 9] rfl rfl (fun _ => rfl) (ws' := fun y => [eF a0 a1 a4 a10 a16 f0, eT a1 a2 a3 f1, eA cI 200 a2 f2, eS a3 f3, eC a4 a5 a6 a8 a9 f4, eS a5 f5, eW a6 a7 f6, eA cI 16 a7 f7, eA cI 256 a8 f8, eA cZ 8 a9 f9, eC a10 a11 a12 a14 a15 f10, eS a11 f11, eW a12 a13 f12, eA cI 16 a13 f13, eA cI 256 a14 f14, eA cZ 8 a15 f15, eC a16 a17 a18 a20 a21 f16, eS a17 f17, eW a18 a19 f18, eA cI 16 a19 f19, eA cI 256 a20 f20, eA cZ 8 a21 f21]) (fun _ => rfl) (ci := 0) rfl rfl rfl rfl (Nat.le_of_ble_eq_true rfl) ⟨Nat.le_of_ble_eq_true rfl, Nat.le_of_ble_eq_true rfl⟩ dX4_sector_70 ⟨Nat.le_refl 0, Nat.le_refl 0⟩ (fun y4 => ?_)
        exact VF.iret C rfl rfl dX4_sector_73
      refine VF.ite (fun h5 => ?_) (fun h5 => ?_)
      · refine VF.tableIn (off := 53) C 74 dX4_sector_21 (by rw [h5]; decide) (by rw [h5]; decide) (by rw [h5]; decide) rfl ?_
        refine VF.aload_n C 0 dX4_sector_74 rfl ?_
        refine VF.get C fl_X4_19 0 rfl rfl dX4_sector_75 ?_
        refine VF.iload_n C 1 dX4_sector_78 rfl ?_
        refine VF.callVi C (b := a4) (As := [.int u1]) (rest := []) lk_X4_114 (mtX0_isLocked l D cI cZ a4 a5 a6 a7 a8 a9 f4 f5 f6 f7 f8 f9 u1) (fun y => y) (fun _ => rfl) [4, 5, 6, 7, 8, 9] rfl rfl (fun _ => rfl) (ws' := fun y => [eF a0 a1 a4 a10 a16 f0, eT a1 a2 a3 f1, eA cI 200 a2 f2, eS a3 f3, eC a4 a5 a6 a8 a9 f4, eS a5 f5, eW a6 a7 f6, eA cI 16 a7 f7, eA cI 256 a8 f8, eA cZ 8 a9 f9, eC a10 a11 a12 a14 a15 f10, eS a11 f11, eW a12 a13 f12, eA cI 16 a13 f13, eA cI 256 a14 f14, eA cZ 8 a15 f15, eC a16 a17 a18 a20 a21 f16, eS a17 f17, eW a18 a19 f18, eA cI 16 a19 f19, eA cI 256 a20 f20, eA cZ 8 a21 f21]) (fun _ => rfl) (ci := 0) rfl rfl rfl rfl (Nat.le_of_ble_eq_true rfl) ⟨Nat.le_of_ble_eq_true rfl, Nat.le_of_ble_eq_true rfl⟩ dX4_sector_79 ⟨Nat.le_refl 0, Nat.le_refl 0⟩ (fun y5 => ?_)
        refine VF.if_eq C 89 dX4_sector_82 rfl (fun h6 => ?_) (fun h6 => ?_)
        · refine VF.iconst C dX4_sector_89 kc_0 ?_
          exact VF.iret C rfl rfl dX4_sector_90
        · refine VF.iconst C dX4_sector_85 kc_1 ?_
          refine VF.goto C 90 dX4_sector_86 rfl ?_
          exact VF.iret C rfl rfl dX4_sector_90
      refine VF.ite (fun h7 => ?_) (fun h7 => ?_)
      · refine VF.tableIn (off := 70) C 91 dX4_sector_21 (by rw [h7]; decide) (by rw [h7]; decide) (by rw [h7]; decide) rfl ?_
        refine VF.aload_n C 0 dX4_sector_91 rfl ?_
        refine VF.get C fl_X4_19 0 rfl rfl dX4_sector_92 ?_
        refine VF.iload_n C 1 dX4_sector_95 rfl ?_
        refine VF.callVi C (b := a4) (As := [.int u1]) (rest := []) lk_X4_117 (mtX0_isGuarded l D cI cZ a4 a5 a6 a7 a8 a9 f4 f5 f6 f7 f8 f9 u1) (fun y => y) (fun _ => rfl) [4, 5, 6, 7, 8, 9] rfl rfl (fun _ => rfl) (ws' := fun y => [eF a0 a1 a4 a10 a16 f0, eT a1 a2 a3 f1, eA cI 200 a2 f2, eS a3 f3, eC a4 a5 a6 a8 a9 f4, eS a5 f5, eW a6 a7 f6, eA cI 16 a7 f7, eA cI 256 a8 f8, eA cZ 8 a9 f9, eC a10 a11 a12 a14 a15 f10, eS a11 f11, eW a12 a13 f12, eA cI 16 a13 f13, eA cI 256 a14 f14, eA cZ 8 a15 f15, eC a16 a17 a18 a20 a21 f16, eS a17 f17, eW a18 a19 f18, eA cI 16 a19 f19, eA cI 256 a20 f20, eA cZ 8 a21 f21]) (fun _ => rfl) (ci := 0) rfl rfl rfl rfl (Nat.le_of_ble_eq_true rfl) ⟨Nat.le_of_ble_eq_true rfl, Nat.le_of_ble_eq_true rfl⟩ dX4_sector_96 ⟨Nat.le_refl 0, Nat.le_refl 0⟩ (fun y6 => ?_)
        refine VF.if_eq C 106 dX4_sector_99 rfl (fun h8 => ?_) (fun h8 => ?_)
        · refine VF.iconst C dX4_sector_106 kc_0 ?_
          exact VF.iret C rfl rfl dX4_sector_107
        · refine VF.iconst C dX4_sector_102 kc_1 ?_
          refine VF.goto C 107 dX4_sector_103 rfl ?_
          exact VF.iret C rfl rfl dX4_sector_107
      refine VF.ite (fun h9 => ?_) (fun h9 => ?_)
      · refine VF.tableIn (off := 87) C 108 dX4_sector_21 (by rw [h9]; decide) (by rw [h9]; decide) (by rw [h9]; decide) rfl ?_
        refine VF.aload_n C 0 dX4_sector_108 rfl ?_
        refine VF.get C fl_X4_19 0 rfl rfl dX4_sector_109 ?_
        refine VF.iload_n C 1 dX4_sector_112 rfl ?_
        refine VF.callVi C (b := a4) (As := [.int u1]) (rest := []) lk_X4_120 (mtX0_isBeingErased l D cI cZ a4 a5 a6 a7 a8 a9 f4 f5 f6 f7 f8 f9 u1) (fun y => y) (fun _ => rfl) [4, 5, 6, 7, 8, 9] rfl rfl (fun _ => rfl) (ws' := fun y => [eF a0 a1 a4 a10 a16 f0, eT a1 a2 a3 f1, eA cI 200 a2 f2, eS a3 f3, eC a4 a5 a6 a8 a9 f4, eS a5 f5, eW a6 a7 f6, eA cI 16 a7 f7, eA cI 256 a8 f8, eA cZ 8 a9 f9, eC a10 a11 a12 a14 a15 f10, eS a11 f11, eW a12 a13 f12, eA cI 16 a13 f13, eA cI 256 a14 f14, eA cZ 8 a15 f15, eC a16 a17 a18 a20 a21 f16, eS a17 f17, eW a18 a19 f18, eA cI 16 a19 f19, eA cI 256 a20 f20, eA cZ 8 a21 f21]) (fun _ => rfl) (ci := 0) rfl rfl rfl rfl (Nat.le_of_ble_eq_true rfl) ⟨Nat.le_of_ble_eq_true rfl, Nat.le_of_ble_eq_true rfl⟩ dX4_sector_113 ⟨Nat.le_refl 0, Nat.le_refl 0⟩ (fun y7 => ?_)
        refine VF.if_eq C 123 dX4_sector_116 rfl (fun h10 => ?_) (fun h10 => ?_)
        · refine VF.iconst C dX4_sector_123 kc_0 ?_
          exact VF.iret C rfl rfl dX4_sector_124
        · refine VF.iconst C dX4_sector_119 kc_1 ?_
          refine VF.goto C 124 dX4_sector_120 rfl ?_
          exact VF.iret C rfl rfl dX4_sector_124
      refine VF.tableOut C 125 dX4_sector_21 (by have eh3 := lv_neT h3 (k := 0) (a := 0) rfl; have eh4 := lv_neT h4 (k := 1) (a := 1) rfl; have eh5 := lv_neT h5 (k := 2) (a := 2) rfl; have eh7 := lv_neT h7 (k := 3) (a := 3) rfl; have eh9 := lv_neT h9 (k := 4) (a := 4) rfl; omega) rfl ?_
      refine VF.iconst C dX4_sector_125 kc_m1 ?_
      exact VF.iret C rfl rfl dX4_sector_126
    · refine VF.iconst C dX4_sector_18 kc_m1 ?_
      exact VF.iret C rfl rfl dX4_sector_19
set_option maxHeartbeats 4000000 in
set_option maxRecDepth 100000 in
theorem mtX4_table (l : Launch) (D : va_G) (cI cZ : ClassId) (a0 a1 a2 a3 a4 a5 a6 a7 a8 a9 a10 a11 a12 a13 a14 a15 a16 a17 a18 a19 a20 a21 : Nat) (f0 f1 f2 f3 f4 f5 f6 f7 f8 f9 f10 f11 f12 f13 f14 f15 f16 f17 f18 f19 f20 f21 : Fn) (u1 : Int32) : Ctr l yX4_table cX4_table 2 (some .int) 2 41 D cI cZ [.ref a0, .int u1] [eF a0 a1 a4 a10 a16 f0, eT a1 a2 a3 f1, eA cI 200 a2 f2, eS a3 f3, eC a4 a5 a6 a8 a9 f4, eS a5 f5, eW a6 a7 f6, eA cI 16 a7 f7, eA cI 256 a8 f8, eA cZ 8 a9 f9, eC a10 a11 a12 a14 a15 f10, eS a11 f11, eW a12 a13 f12, eA cI 16 a13 f13, eA cI 256 a14 f14, eA cZ 8 a15 f15, eC a16 a17 a18 a20 a21 f16, eS a17 f17, eW a18 a19 f18, eA cI 16 a19 f19, eA cI 256 a20 f20, eA cZ 8 a21 f21] (zX4_table f5 u1) (fun y : Int32 => some (Value.int y)) (fun _ : Int32 => [eF a0 a1 a4 a10 a16 f0, eT a1 a2 a3 f1, eA cI 200 a2 f2, eS a3 f3, eC a4 a5 a6 a8 a9 f4, eS a5 f5, eW a6 a7 f6, eA cI 16 a7 f7, eA cI 256 a8 f8, eA cZ 8 a9 f9, eC a10 a11 a12 a14 a15 f10, eS a11 f11, eW a12 a13 f12, eA cI 16 a13 f13, eA cI 256 a14 f14, eA cZ 8 a15 f15, eC a16 a17 a18 a20 a21 f16, eS a17 f17, eW a18 a19 f18, eA cI 16 a19 f19, eA cI 256 a20 f20, eA cZ 8 a21 f21]) := by
  refine Ctr.of (by decide) (Nat.le_of_ble_eq_true rfl) ?_
  intro p e s m below meth c A C
  have C : CX p s m ([.ref a0, .int u1] : List Value).toArray meth c cX4_table 2 RX4 D cI cZ A (some .int) := C
  refine VF.lve (lv' := [(0, .ref a0), (1, .int u1)]) rfl ?_
  refine VF.eq (zX4_table.eq_1 f5 u1) ?_
  refine VF.iload_n C 1 dX4_table_0 rfl ?_
  refine VF.if_lt C 10 dX4_table_1 rfl (fun h1 => ?_) (fun h1 => ?_)
  · refine VF.iconst C dX4_table_10 kc_m1 ?_
    exact VF.iret C rfl rfl dX4_table_11
  · refine VF.iload_n C 1 dX4_table_4 rfl ?_
    refine VF.bipush C dX4_table_5 kb_8 ?_
    refine VF.icmp_lt C 12 dX4_table_7 rfl (fun h2 => ?_) (fun h2 => ?_)
    · refine VF.aload_n C 0 dX4_table_12 rfl ?_
      refine VF.get C fl_X4_19 0 rfl rfl dX4_table_13 ?_
      refine VF.callVr C (b := a4) (As := []) (rest := []) lk_X4_100 (mtX0_shape l D cI cZ a4 a5 a6 a7 a8 a9 f4 f5 f6 f7 f8 f9) (fun _ => a5) (fun _ => rfl) [4, 5, 6, 7, 8, 9] rfl rfl (fun _ => rfl) (ws' := fun y => [eF a0 a1 a4 a10 a16 f0, eT a1 a2 a3 f1, eA cI 200 a2 f2, eS a3 f3, eC a4 a5 a6 a8 a9 f4, eS a5 f5, eW a6 a7 f6, eA cI 16 a7 f7, eA cI 256 a8 f8, eA cZ 8 a9 f9, eC a10 a11 a12 a14 a15 f10, eS a11 f11, eW a12 a13 f12, eA cI 16 a13 f13, eA cI 256 a14 f14, eA cZ 8 a15 f15, eC a16 a17 a18 a20 a21 f16, eS a17 f17, eW a18 a19 f18, eA cI 16 a19 f19, eA cI 256 a20 f20, eA cZ 8 a21 f21]) (fun _ => rfl) (ci := 0) rfl rfl rfl rfl (Nat.le_of_ble_eq_true rfl) ⟨Nat.le_of_ble_eq_true rfl, Nat.le_of_ble_eq_true rfl⟩ dX4_table_16 ⟨Nat.le_refl 0, Nat.le_refl 0⟩ (fun y1 => ?_)
      refine VF.iload_n C 1 dX4_table_19 rfl ?_
      refine VF.callVi C (b := a5) (As := [.int u1]) (rest := []) lk_X4_123 (mtX1_tableByte l D cI cZ a5 f5 u1) (fun y => y) (fun _ => rfl) [5] rfl rfl (fun _ => rfl) (ws' := fun y => [eF a0 a1 a4 a10 a16 f0, eT a1 a2 a3 f1, eA cI 200 a2 f2, eS a3 f3, eC a4 a5 a6 a8 a9 f4, eS a5 f5, eW a6 a7 f6, eA cI 16 a7 f7, eA cI 256 a8 f8, eA cZ 8 a9 f9, eC a10 a11 a12 a14 a15 f10, eS a11 f11, eW a12 a13 f12, eA cI 16 a13 f13, eA cI 256 a14 f14, eA cZ 8 a15 f15, eC a16 a17 a18 a20 a21 f16, eS a17 f17, eW a18 a19 f18, eA cI 16 a19 f19, eA cI 256 a20 f20, eA cZ 8 a21 f21]) (fun _ => rfl) (ci := 1) rfl rfl rfl rfl (Nat.le_of_ble_eq_true rfl) ⟨Nat.le_of_ble_eq_true rfl, Nat.le_of_ble_eq_true rfl⟩ dX4_table_20 ⟨Nat.le_refl 0, Nat.le_refl 0⟩ (fun y2 => ?_)
      exact VF.iret C rfl rfl dX4_table_23
    · refine VF.iconst C dX4_table_10 kc_m1 ?_
      exact VF.iret C rfl rfl dX4_table_11
set_option maxHeartbeats 4000000 in
set_option maxRecDepth 100000 in
theorem mtX4_lastKept (l : Launch) (D : va_G) (cI cZ : ClassId) (a0 a1 a2 a3 a4 a5 a6 a7 a8 a9 a10 a11 a12 a13 a14 a15 a16 a17 a18 a19 a20 a21 : Nat) (f0 f1 f2 f3 f4 f5 f6 f7 f8 f9 f10 f11 f12 f13 f14 f15 f16 f17 f18 f19 f20 f21 : Fn) : Ctr l yX4_lastKept cX4_lastKept 1 (some (.object "FlashLanes$Chip")) 0 0 D cI cZ [.ref a0] [eF a0 a1 a4 a10 a16 f0, eT a1 a2 a3 f1, eA cI 200 a2 f2, eS a3 f3, eC a4 a5 a6 a8 a9 f4, eS a5 f5, eW a6 a7 f6, eA cI 16 a7 f7, eA cI 256 a8 f8, eA cZ 8 a9 f9, eC a10 a11 a12 a14 a15 f10, eS a11 f11, eW a12 a13 f12, eA cI 16 a13 f13, eA cI 256 a14 f14, eA cZ 8 a15 f15, eC a16 a17 a18 a20 a21 f16, eS a17 f17, eW a18 a19 f18, eA cI 16 a19 f19, eA cI 256 a20 f20, eA cZ 8 a21 f21] (zX4_lastKept f0) (fun y : Int32 => some (Value.ref (if y = 0 then a10 else a16))) (fun _ : Int32 => [eF a0 a1 a4 a10 a16 f0, eT a1 a2 a3 f1, eA cI 200 a2 f2, eS a3 f3, eC a4 a5 a6 a8 a9 f4, eS a5 f5, eW a6 a7 f6, eA cI 16 a7 f7, eA cI 256 a8 f8, eA cZ 8 a9 f9, eC a10 a11 a12 a14 a15 f10, eS a11 f11, eW a12 a13 f12, eA cI 16 a13 f13, eA cI 256 a14 f14, eA cZ 8 a15 f15, eC a16 a17 a18 a20 a21 f16, eS a17 f17, eW a18 a19 f18, eA cI 16 a19 f19, eA cI 256 a20 f20, eA cZ 8 a21 f21]) := by
  refine Ctr.of (by decide) (Nat.le_of_ble_eq_true rfl) ?_
  intro p e s m below meth c A C
  have C : CX p s m ([.ref a0] : List Value).toArray meth c cX4_lastKept 1 RX4 D cI cZ A (some (.object "FlashLanes$Chip")) := C
  refine VF.lve (lv' := [(0, .ref a0)]) rfl ?_
  refine VF.eq (zX4_lastKept.eq_1 f0) ?_
  refine VF.aload_n C 0 dX4_lastKept_0 rfl ?_
  refine VF.get C fl_X4_29 0 rfl rfl dX4_lastKept_1 ?_
  refine VF.iconst C dX4_lastKept_4 kc_2 ?_
  refine VF.icmp_lt C 15 dX4_lastKept_5 rfl (fun h1 => ?_) (fun h1 => ?_)
  · refine VF.aload_n C 0 dX4_lastKept_15 rfl ?_
    refine VF.get C fl_X4_23 0 rfl rfl dX4_lastKept_16 ?_
    exact VF.aret C rfl rfl dX4_lastKept_19
  · refine VF.aload_n C 0 dX4_lastKept_8 rfl ?_
    refine VF.get C fl_X4_26 0 rfl rfl dX4_lastKept_9 ?_
    refine VF.goto C 19 dX4_lastKept_12 rfl ?_
    exact VF.aret C rfl rfl dX4_lastKept_19
set_option maxHeartbeats 4000000 in
set_option maxRecDepth 100000 in
theorem mtX4_keep (l : Launch) (D : va_G) (cI cZ : ClassId) (a0 a1 a2 a3 a4 a5 a6 a7 a8 a9 a10 a11 a12 a13 a14 a15 a16 a17 a18 a19 a20 a21 : Nat) (f0 f1 f2 f3 f4 f5 f6 f7 f8 f9 f10 f11 f12 f13 f14 f15 f16 f17 f18 f19 f20 f21 : Fn) : Ctr l yX4_keep cX4_keep 1 (some .int) 2 44 D cI cZ [.ref a0] [eF a0 a1 a4 a10 a16 f0, eT a1 a2 a3 f1, eA cI 200 a2 f2, eS a3 f3, eC a4 a5 a6 a8 a9 f4, eS a5 f5, eW a6 a7 f6, eA cI 16 a7 f7, eA cI 256 a8 f8, eA cZ 8 a9 f9, eC a10 a11 a12 a14 a15 f10, eS a11 f11, eW a12 a13 f12, eA cI 16 a13 f13, eA cI 256 a14 f14, eA cZ 8 a15 f15, eC a16 a17 a18 a20 a21 f16, eS a17 f17, eW a18 a19 f18, eA cI 16 a19 f19, eA cI 256 a20 f20, eA cZ 8 a21 f21] (zX4_keep f0 f4 f5 f6 f7 f8 f9 f10 f11 f12 f13 f14 f15 f16 f17 f18 f19 f20 f21) (fun y : Int32 × Fn × Fn × Fn × Fn × Fn × Fn × Fn × Fn × Fn × Fn × Fn × Fn × Fn => some (Value.int y.1)) (fun y : Int32 × Fn × Fn × Fn × Fn × Fn × Fn × Fn × Fn × Fn × Fn × Fn × Fn × Fn => [eF a0 a1 a4 a10 a16 y.2.1, eT a1 a2 a3 f1, eA cI 200 a2 f2, eS a3 f3, eC a4 a5 a6 a8 a9 f4, eS a5 f5, eW a6 a7 f6, eA cI 16 a7 f7, eA cI 256 a8 f8, eA cZ 8 a9 f9, eC a10 a11 a12 a14 a15 y.2.2.1, eS a11 y.2.2.2.1, eW a12 a13 y.2.2.2.2.1, eA cI 16 a13 y.2.2.2.2.2.1, eA cI 256 a14 y.2.2.2.2.2.2.1, eA cZ 8 a15 y.2.2.2.2.2.2.2.1, eC a16 a17 a18 a20 a21 y.2.2.2.2.2.2.2.2.1, eS a17 y.2.2.2.2.2.2.2.2.2.1, eW a18 a19 y.2.2.2.2.2.2.2.2.2.2.1, eA cI 16 a19 y.2.2.2.2.2.2.2.2.2.2.2.1, eA cI 256 a20 y.2.2.2.2.2.2.2.2.2.2.2.2.1, eA cZ 8 a21 y.2.2.2.2.2.2.2.2.2.2.2.2.2]) := by
  refine Ctr.of (by decide) (Nat.le_of_ble_eq_true rfl) ?_
  intro p e s m below meth c A C
  have C : CX p s m ([.ref a0] : List Value).toArray meth c cX4_keep 1 RX4 D cI cZ A (some .int) := C
  refine VF.lve (lv' := [(0, .ref a0)]) rfl ?_
  refine VF.eq (zX4_keep.eq_1 f0 f4 f5 f6 f7 f8 f9 f10 f11 f12 f13 f14 f15 f16 f17 f18 f19 f20 f21) ?_
  refine VF.aload_n C 0 dX4_keep_0 rfl ?_
  refine VF.get C fl_X4_29 0 rfl rfl dX4_keep_1 ?_
  refine VF.iconst C dX4_keep_4 kc_2 ?_
  refine VF.icmp_lt C 11 dX4_keep_5 rfl (fun h1 => ?_) (fun h1 => ?_)
  · refine VF.aload_n C 0 dX4_keep_11 rfl ?_
    refine VF.dup C dX4_keep_12 rfl ?_
    refine VF.get C fl_X4_29 0 rfl rfl dX4_keep_13 ?_
    refine VF.iconst C dX4_keep_16 kc_1 ?_
    refine VF.iadd C dX4_keep_17 ?_
    refine VF.put C fl_X4_29 tyX4 tyX4_ok nmX4 0 rfl rfl rfl (Nat.le_of_ble_eq_true rfl) (ws' := [eF a0 a1 a4 a10 a16 (upd f0 4 ((f0 4) + 1)), eT a1 a2 a3 f1, eA cI 200 a2 f2, eS a3 f3, eC a4 a5 a6 a8 a9 f4, eS a5 f5, eW a6 a7 f6, eA cI 16 a7 f7, eA cI 256 a8 f8, eA cZ 8 a9 f9, eC a10 a11 a12 a14 a15 f10, eS a11 f11, eW a12 a13 f12, eA cI 16 a13 f13, eA cI 256 a14 f14, eA cZ 8 a15 f15, eC a16 a17 a18 a20 a21 f16, eS a17 f17, eW a18 a19 f18, eA cI 16 a19 f19, eA cI 256 a20 f20, eA cZ 8 a21 f21]) rfl dX4_keep_18 ?_
    refine VF.aload_n C 0 dX4_keep_21 rfl ?_
    refine VF.callVr C (b := a0) (As := []) (rest := []) lk_X4_126 (mtX4_lastKept l D cI cZ a0 a1 a2 a3 a4 a5 a6 a7 a8 a9 a10 a11 a12 a13 a14 a15 a16 a17 a18 a19 a20 a21 (upd f0 4 ((f0 4) + 1)) f1 f2 f3 f4 f5 f6 f7 f8 f9 f10 f11 f12 f13 f14 f15 f16 f17 f18 f19 f20 f21) (fun y => if y = 0 then a10 else a16) (fun _ => rfl) [0, 1, 2, 3, 4, 5, 6, 7, 8, 9, 10, 11, 12, 13, 14, 15, 16, 17, 18, 19, 20, 21] rfl rfl (fun _ => rfl) (ws' := fun y => [eF a0 a1 a4 a10 a16 (upd f0 4 ((f0 4) + 1)), eT a1 a2 a3 f1, eA cI 200 a2 f2, eS a3 f3, eC a4 a5 a6 a8 a9 f4, eS a5 f5, eW a6 a7 f6, eA cI 16 a7 f7, eA cI 256 a8 f8, eA cZ 8 a9 f9, eC a10 a11 a12 a14 a15 f10, eS a11 f11, eW a12 a13 f12, eA cI 16 a13 f13, eA cI 256 a14 f14, eA cZ 8 a15 f15, eC a16 a17 a18 a20 a21 f16, eS a17 f17, eW a18 a19 f18, eA cI 16 a19 f19, eA cI 256 a20 f20, eA cZ 8 a21 f21]) (fun _ => rfl) (ci := 4) rfl rfl rfl rfl (Nat.le_of_ble_eq_true rfl) ⟨Nat.le_of_ble_eq_true rfl, Nat.le_of_ble_eq_true rfl⟩ dX4_keep_22 ⟨Nat.le_refl 0, Nat.le_refl 0⟩ (fun y1 => ?_)
    refine VF.aload_n C 0 dX4_keep_25 rfl ?_
    refine VF.get C fl_X4_19 0 rfl rfl dX4_keep_26 ?_
    refine VF.ite (fun h2 => ?_) (fun h2 => ?_)
    · refine VF.ste (st' := [.ref a4, .ref a10]) (by rw [if_pos h2]) ?_
      refine VF.callVv C (b := a10) (As := [.ref a4]) (rest := []) lk_X4_130 (mtX0_copyFrom l D cI cZ a10 a11 a12 a13 a14 a15 a4 a5 a6 a7 a8 a9 f10 f11 f12 f13 f14 f15 f4 f5 f6 f7 f8 f9) (fun _ => rfl) [10, 11, 12, 13, 14, 15, 4, 5, 6, 7, 8, 9] rfl rfl (fun _ => rfl) (ws' := fun y => [eF a0 a1 a4 a10 a16 (upd f0 4 ((f0 4) + 1)), eT a1 a2 a3 f1, eA cI 200 a2 f2, eS a3 f3, eC a4 a5 a6 a8 a9 f4, eS a5 f5, eW a6 a7 f6, eA cI 16 a7 f7, eA cI 256 a8 f8, eA cZ 8 a9 f9, eC a10 a11 a12 a14 a15 y.1, eS a11 y.2.1, eW a12 a13 y.2.2.1, eA cI 16 a13 y.2.2.2.1, eA cI 256 a14 y.2.2.2.2.1, eA cZ 8 a15 y.2.2.2.2.2, eC a16 a17 a18 a20 a21 f16, eS a17 f17, eW a18 a19 f18, eA cI 16 a19 f19, eA cI 256 a20 f20, eA cZ 8 a21 f21]) (fun _ => rfl) (ci := 0) rfl rfl rfl rfl (Nat.le_of_ble_eq_true rfl) ⟨Nat.le_of_ble_eq_true rfl, Nat.le_of_ble_eq_true rfl⟩ dX4_keep_29 ⟨Nat.le_refl 0, Nat.le_refl 0⟩ (fun y2 => ?_)
      refine VF.aload_n C 0 dX4_keep_32 rfl ?_
      refine VF.get C fl_X4_29 0 rfl rfl dX4_keep_33 ?_
      exact VF.iret C rfl rfl dX4_keep_36
    · refine VF.ste (st' := [.ref a4, .ref a16]) (by rw [if_neg h2]) ?_
      refine VF.callVv C (b := a16) (As := [.ref a4]) (rest := []) lk_X4_130 (mtX0_copyFrom l D cI cZ a16 a17 a18 a19 a20 a21 a4 a5 a6 a7 a8 a9 f16 f17 f18 f19 f20 f21 f4 f5 f6 f7 f8 f9) (fun _ => rfl) [16, 17, 18, 19, 20, 21, 4, 5, 6, 7, 8, 9] rfl rfl (fun _ => rfl) (ws' := fun y => [eF a0 a1 a4 a10 a16 (upd f0 4 ((f0 4) + 1)), eT a1 a2 a3 f1, eA cI 200 a2 f2, eS a3 f3, eC a4 a5 a6 a8 a9 f4, eS a5 f5, eW a6 a7 f6, eA cI 16 a7 f7, eA cI 256 a8 f8, eA cZ 8 a9 f9, eC a10 a11 a12 a14 a15 f10, eS a11 f11, eW a12 a13 f12, eA cI 16 a13 f13, eA cI 256 a14 f14, eA cZ 8 a15 f15, eC a16 a17 a18 a20 a21 y.1, eS a17 y.2.1, eW a18 a19 y.2.2.1, eA cI 16 a19 y.2.2.2.1, eA cI 256 a20 y.2.2.2.2.1, eA cZ 8 a21 y.2.2.2.2.2]) (fun _ => rfl) (ci := 0) rfl rfl rfl rfl (Nat.le_of_ble_eq_true rfl) ⟨Nat.le_of_ble_eq_true rfl, Nat.le_of_ble_eq_true rfl⟩ dX4_keep_29 ⟨Nat.le_refl 0, Nat.le_refl 0⟩ (fun y3 => ?_)
      refine VF.aload_n C 0 dX4_keep_32 rfl ?_
      refine VF.get C fl_X4_29 0 rfl rfl dX4_keep_33 ?_
      exact VF.iret C rfl rfl dX4_keep_36
  · refine VF.bipush C dX4_keep_8 kb_m3 ?_
    exact VF.iret C rfl rfl dX4_keep_10
set_option maxHeartbeats 4000000 in
set_option maxRecDepth 100000 in
theorem mtX4_back (l : Launch) (D : va_G) (cI cZ : ClassId) (a0 a1 a2 a3 a4 a5 a6 a7 a8 a9 a10 a11 a12 a13 a14 a15 a16 a17 a18 a19 a20 a21 : Nat) (f0 f1 f2 f3 f4 f5 f6 f7 f8 f9 f10 f11 f12 f13 f14 f15 f16 f17 f18 f19 f20 f21 : Fn) : Ctr l yX4_back cX4_back 1 (some .int) 2 44 D cI cZ [.ref a0] [eF a0 a1 a4 a10 a16 f0, eT a1 a2 a3 f1, eA cI 200 a2 f2, eS a3 f3, eC a4 a5 a6 a8 a9 f4, eS a5 f5, eW a6 a7 f6, eA cI 16 a7 f7, eA cI 256 a8 f8, eA cZ 8 a9 f9, eC a10 a11 a12 a14 a15 f10, eS a11 f11, eW a12 a13 f12, eA cI 16 a13 f13, eA cI 256 a14 f14, eA cZ 8 a15 f15, eC a16 a17 a18 a20 a21 f16, eS a17 f17, eW a18 a19 f18, eA cI 16 a19 f19, eA cI 256 a20 f20, eA cZ 8 a21 f21] (zX4_back f0 f4 f5 f6 f7 f8 f9 f10 f11 f12 f13 f14 f15 f16 f17 f18 f19 f20 f21) (fun y : Int32 × Fn × Fn × Fn × Fn × Fn × Fn × Fn => some (Value.int y.1)) (fun y : Int32 × Fn × Fn × Fn × Fn × Fn × Fn × Fn => [eF a0 a1 a4 a10 a16 y.2.1, eT a1 a2 a3 f1, eA cI 200 a2 f2, eS a3 f3, eC a4 a5 a6 a8 a9 y.2.2.1, eS a5 y.2.2.2.1, eW a6 a7 y.2.2.2.2.1, eA cI 16 a7 y.2.2.2.2.2.1, eA cI 256 a8 y.2.2.2.2.2.2.1, eA cZ 8 a9 y.2.2.2.2.2.2.2, eC a10 a11 a12 a14 a15 f10, eS a11 f11, eW a12 a13 f12, eA cI 16 a13 f13, eA cI 256 a14 f14, eA cZ 8 a15 f15, eC a16 a17 a18 a20 a21 f16, eS a17 f17, eW a18 a19 f18, eA cI 16 a19 f19, eA cI 256 a20 f20, eA cZ 8 a21 f21]) := by
  refine Ctr.of (by decide) (Nat.le_of_ble_eq_true rfl) ?_
  intro p e s m below meth c A C
  have C : CX p s m ([.ref a0] : List Value).toArray meth c cX4_back 1 RX4 D cI cZ A (some .int) := C
  refine VF.lve (lv' := [(0, .ref a0)]) rfl ?_
  refine VF.eq (zX4_back.eq_1 f0 f4 f5 f6 f7 f8 f9 f10 f11 f12 f13 f14 f15 f16 f17 f18 f19 f20 f21) ?_
  refine VF.aload_n C 0 dX4_back_0 rfl ?_
  refine VF.get C fl_X4_29 0 rfl rfl dX4_back_1 ?_
  refine VF.if_gt C 10 dX4_back_4 rfl (fun h1 => ?_) (fun h1 => ?_)
  · refine VF.aload_n C 0 dX4_back_10 rfl ?_
    refine VF.get C fl_X4_19 0 rfl rfl dX4_back_11 ?_
    refine VF.aload_n C 0 dX4_back_14 rfl ?_
    refine VF.callVr C (b := a0) (As := []) (rest := [.ref a4]) lk_X4_126 (mtX4_lastKept l D cI cZ a0 a1 a2 a3 a4 a5 a6 a7 a8 a9 a10 a11 a12 a13 a14 a15 a16 a17 a18 a19 a20 a21 f0 f1 f2 f3 f4 f5 f6 f7 f8 f9 f10 f11 f12 f13 f14 f15 f16 f17 f18 f19 f20 f21) (fun y => if y = 0 then a10 else a16) (fun _ => rfl) [0, 1, 2, 3, 4, 5, 6, 7, 8, 9, 10, 11, 12, 13, 14, 15, 16, 17, 18, 19, 20, 21] rfl rfl (fun _ => rfl) (ws' := fun y => [eF a0 a1 a4 a10 a16 f0, eT a1 a2 a3 f1, eA cI 200 a2 f2, eS a3 f3, eC a4 a5 a6 a8 a9 f4, eS a5 f5, eW a6 a7 f6, eA cI 16 a7 f7, eA cI 256 a8 f8, eA cZ 8 a9 f9, eC a10 a11 a12 a14 a15 f10, eS a11 f11, eW a12 a13 f12, eA cI 16 a13 f13, eA cI 256 a14 f14, eA cZ 8 a15 f15, eC a16 a17 a18 a20 a21 f16, eS a17 f17, eW a18 a19 f18, eA cI 16 a19 f19, eA cI 256 a20 f20, eA cZ 8 a21 f21]) (fun _ => rfl) (ci := 4) rfl rfl rfl rfl (Nat.le_of_ble_eq_true rfl) ⟨Nat.le_of_ble_eq_true rfl, Nat.le_of_ble_eq_true rfl⟩ dX4_back_15 ⟨Nat.le_refl 0, Nat.le_refl 0⟩ (fun y1 => ?_)
    refine VF.ite (fun h2 => ?_) (fun h2 => ?_)
    · refine VF.ste (st' := [.ref a10, .ref a4]) (by rw [if_pos h2]) ?_
      refine VF.callVv C (b := a4) (As := [.ref a10]) (rest := []) lk_X4_130 (mtX0_copyFrom l D cI cZ a4 a5 a6 a7 a8 a9 a10 a11 a12 a13 a14 a15 f4 f5 f6 f7 f8 f9 f10 f11 f12 f13 f14 f15) (fun _ => rfl) [4, 5, 6, 7, 8, 9, 10, 11, 12, 13, 14, 15] rfl rfl (fun _ => rfl) (ws' := fun y => [eF a0 a1 a4 a10 a16 f0, eT a1 a2 a3 f1, eA cI 200 a2 f2, eS a3 f3, eC a4 a5 a6 a8 a9 y.1, eS a5 y.2.1, eW a6 a7 y.2.2.1, eA cI 16 a7 y.2.2.2.1, eA cI 256 a8 y.2.2.2.2.1, eA cZ 8 a9 y.2.2.2.2.2, eC a10 a11 a12 a14 a15 f10, eS a11 f11, eW a12 a13 f12, eA cI 16 a13 f13, eA cI 256 a14 f14, eA cZ 8 a15 f15, eC a16 a17 a18 a20 a21 f16, eS a17 f17, eW a18 a19 f18, eA cI 16 a19 f19, eA cI 256 a20 f20, eA cZ 8 a21 f21]) (fun _ => rfl) (ci := 0) rfl rfl rfl rfl (Nat.le_of_ble_eq_true rfl) ⟨Nat.le_of_ble_eq_true rfl, Nat.le_of_ble_eq_true rfl⟩ dX4_back_18 ⟨Nat.le_refl 0, Nat.le_refl 0⟩ (fun y2 => ?_)
      refine VF.aload_n C 0 dX4_back_21 rfl ?_
      refine VF.dup C dX4_back_22 rfl ?_
      refine VF.get C fl_X4_29 0 rfl rfl dX4_back_23 ?_
      refine VF.iconst C dX4_back_26 kc_1 ?_
      refine VF.isub C dX4_back_27 ?_
      refine VF.put C fl_X4_29 tyX4 tyX4_ok nmX4 0 rfl rfl rfl (Nat.le_of_ble_eq_true rfl) (ws' := [eF a0 a1 a4 a10 a16 (upd f0 4 ((f0 4) - 1)), eT a1 a2 a3 f1, eA cI 200 a2 f2, eS a3 f3, eC a4 a5 a6 a8 a9 y2.1, eS a5 y2.2.1, eW a6 a7 y2.2.2.1, eA cI 16 a7 y2.2.2.2.1, eA cI 256 a8 y2.2.2.2.2.1, eA cZ 8 a9 y2.2.2.2.2.2, eC a10 a11 a12 a14 a15 f10, eS a11 f11, eW a12 a13 f12, eA cI 16 a13 f13, eA cI 256 a14 f14, eA cZ 8 a15 f15, eC a16 a17 a18 a20 a21 f16, eS a17 f17, eW a18 a19 f18, eA cI 16 a19 f19, eA cI 256 a20 f20, eA cZ 8 a21 f21]) rfl dX4_back_28 ?_
      refine VF.aload_n C 0 dX4_back_31 rfl ?_
      refine VF.get C fl_X4_29 0 rfl rfl dX4_back_32 ?_
      exact VF.iret C rfl rfl dX4_back_35
    · refine VF.ste (st' := [.ref a16, .ref a4]) (by rw [if_neg h2]) ?_
      refine VF.callVv C (b := a4) (As := [.ref a16]) (rest := []) lk_X4_130 (mtX0_copyFrom l D cI cZ a4 a5 a6 a7 a8 a9 a16 a17 a18 a19 a20 a21 f4 f5 f6 f7 f8 f9 f16 f17 f18 f19 f20 f21) (fun _ => rfl) [4, 5, 6, 7, 8, 9, 16, 17, 18, 19, 20, 21] rfl rfl (fun _ => rfl) (ws' := fun y => [eF a0 a1 a4 a10 a16 f0, eT a1 a2 a3 f1, eA cI 200 a2 f2, eS a3 f3, eC a4 a5 a6 a8 a9 y.1, eS a5 y.2.1, eW a6 a7 y.2.2.1, eA cI 16 a7 y.2.2.2.1, eA cI 256 a8 y.2.2.2.2.1, eA cZ 8 a9 y.2.2.2.2.2, eC a10 a11 a12 a14 a15 f10, eS a11 f11, eW a12 a13 f12, eA cI 16 a13 f13, eA cI 256 a14 f14, eA cZ 8 a15 f15, eC a16 a17 a18 a20 a21 f16, eS a17 f17, eW a18 a19 f18, eA cI 16 a19 f19, eA cI 256 a20 f20, eA cZ 8 a21 f21]) (fun _ => rfl) (ci := 0) rfl rfl rfl rfl (Nat.le_of_ble_eq_true rfl) ⟨Nat.le_of_ble_eq_true rfl, Nat.le_of_ble_eq_true rfl⟩ dX4_back_18 ⟨Nat.le_refl 0, Nat.le_refl 0⟩ (fun y3 => ?_)
      refine VF.aload_n C 0 dX4_back_21 rfl ?_
      refine VF.dup C dX4_back_22 rfl ?_
      refine VF.get C fl_X4_29 0 rfl rfl dX4_back_23 ?_
      refine VF.iconst C dX4_back_26 kc_1 ?_
      refine VF.isub C dX4_back_27 ?_
      refine VF.put C fl_X4_29 tyX4 tyX4_ok nmX4 0 rfl rfl rfl (Nat.le_of_ble_eq_true rfl) (ws' := [eF a0 a1 a4 a10 a16 (upd f0 4 ((f0 4) - 1)), eT a1 a2 a3 f1, eA cI 200 a2 f2, eS a3 f3, eC a4 a5 a6 a8 a9 y3.1, eS a5 y3.2.1, eW a6 a7 y3.2.2.1, eA cI 16 a7 y3.2.2.2.1, eA cI 256 a8 y3.2.2.2.2.1, eA cZ 8 a9 y3.2.2.2.2.2, eC a10 a11 a12 a14 a15 f10, eS a11 f11, eW a12 a13 f12, eA cI 16 a13 f13, eA cI 256 a14 f14, eA cZ 8 a15 f15, eC a16 a17 a18 a20 a21 f16, eS a17 f17, eW a18 a19 f18, eA cI 16 a19 f19, eA cI 256 a20 f20, eA cZ 8 a21 f21]) rfl dX4_back_28 ?_
      refine VF.aload_n C 0 dX4_back_31 rfl ?_
      refine VF.get C fl_X4_29 0 rfl rfl dX4_back_32 ?_
      exact VF.iret C rfl rfl dX4_back_35
  · refine VF.bipush C dX4_back_7 kb_m2 ?_
    exact VF.iret C rfl rfl dX4_back_9
set_option maxHeartbeats 4000000 in
set_option maxRecDepth 100000 in
theorem mtX4_unlike (l : Launch) (D : va_G) (cI cZ : ClassId) (a0 a1 a2 a3 a4 a5 a6 a7 a8 a9 a10 a11 a12 a13 a14 a15 a16 a17 a18 a19 a20 a21 : Nat) (f0 f1 f2 f3 f4 f5 f6 f7 f8 f9 f10 f11 f12 f13 f14 f15 f16 f17 f18 f19 f20 f21 : Fn) : Ctr l yX4_unlike cX4_unlike 1 (some .int) 4 83 D cI cZ [.ref a0] [eF a0 a1 a4 a10 a16 f0, eT a1 a2 a3 f1, eA cI 200 a2 f2, eS a3 f3, eC a4 a5 a6 a8 a9 f4, eS a5 f5, eW a6 a7 f6, eA cI 16 a7 f7, eA cI 256 a8 f8, eA cZ 8 a9 f9, eC a10 a11 a12 a14 a15 f10, eS a11 f11, eW a12 a13 f12, eA cI 16 a13 f13, eA cI 256 a14 f14, eA cZ 8 a15 f15, eC a16 a17 a18 a20 a21 f16, eS a17 f17, eW a18 a19 f18, eA cI 16 a19 f19, eA cI 256 a20 f20, eA cZ 8 a21 f21] (zX4_unlike f0 f5 f8 f14 f20) (fun y : Int32 => some (Value.int y)) (fun _ : Int32 => [eF a0 a1 a4 a10 a16 f0, eT a1 a2 a3 f1, eA cI 200 a2 f2, eS a3 f3, eC a4 a5 a6 a8 a9 f4, eS a5 f5, eW a6 a7 f6, eA cI 16 a7 f7, eA cI 256 a8 f8, eA cZ 8 a9 f9, eC a10 a11 a12 a14 a15 f10, eS a11 f11, eW a12 a13 f12, eA cI 16 a13 f13, eA cI 256 a14 f14, eA cZ 8 a15 f15, eC a16 a17 a18 a20 a21 f16, eS a17 f17, eW a18 a19 f18, eA cI 16 a19 f19, eA cI 256 a20 f20, eA cZ 8 a21 f21]) := by
  refine Ctr.of (by decide) (Nat.le_of_ble_eq_true rfl) ?_
  intro p e s m below meth c A C
  have C : CX p s m ([.ref a0] : List Value).toArray meth c cX4_unlike 1 RX4 D cI cZ A (some .int) := C
  refine VF.lve (lv' := [(0, .ref a0)]) rfl ?_
  refine VF.eq (zX4_unlike.eq_1 f0 f5 f8 f14 f20) ?_
  refine VF.aload_n C 0 dX4_unlike_0 rfl ?_
  refine VF.get C fl_X4_29 0 rfl rfl dX4_unlike_1 ?_
  refine VF.if_gt C 10 dX4_unlike_4 rfl (fun h1 => ?_) (fun h1 => ?_)
  · refine VF.aload_n C 0 dX4_unlike_10 rfl ?_
    refine VF.get C fl_X4_19 0 rfl rfl dX4_unlike_11 ?_
    refine VF.aload_n C 0 dX4_unlike_14 rfl ?_
    refine VF.callVr C (b := a0) (As := []) (rest := [.ref a4]) lk_X4_126 (mtX4_lastKept l D cI cZ a0 a1 a2 a3 a4 a5 a6 a7 a8 a9 a10 a11 a12 a13 a14 a15 a16 a17 a18 a19 a20 a21 f0 f1 f2 f3 f4 f5 f6 f7 f8 f9 f10 f11 f12 f13 f14 f15 f16 f17 f18 f19 f20 f21) (fun y => if y = 0 then a10 else a16) (fun _ => rfl) [0, 1, 2, 3, 4, 5, 6, 7, 8, 9, 10, 11, 12, 13, 14, 15, 16, 17, 18, 19, 20, 21] rfl rfl (fun _ => rfl) (ws' := fun y => [eF a0 a1 a4 a10 a16 f0, eT a1 a2 a3 f1, eA cI 200 a2 f2, eS a3 f3, eC a4 a5 a6 a8 a9 f4, eS a5 f5, eW a6 a7 f6, eA cI 16 a7 f7, eA cI 256 a8 f8, eA cZ 8 a9 f9, eC a10 a11 a12 a14 a15 f10, eS a11 f11, eW a12 a13 f12, eA cI 16 a13 f13, eA cI 256 a14 f14, eA cZ 8 a15 f15, eC a16 a17 a18 a20 a21 f16, eS a17 f17, eW a18 a19 f18, eA cI 16 a19 f19, eA cI 256 a20 f20, eA cZ 8 a21 f21]) (fun _ => rfl) (ci := 4) rfl rfl rfl rfl (Nat.le_of_ble_eq_true rfl) ⟨Nat.le_of_ble_eq_true rfl, Nat.le_of_ble_eq_true rfl⟩ dX4_unlike_15 ⟨Nat.le_refl 0, Nat.le_refl 0⟩ (fun y1 => ?_)
    refine VF.ite (fun h2 => ?_) (fun h2 => ?_)
    · refine VF.ste (st' := [.ref a10, .ref a4]) (by rw [if_pos h2]) ?_
      refine VF.callVi C (b := a4) (As := [.ref a10]) (rest := []) lk_X4_134 (mtX0_bytesOtherThanIn l D cI cZ a4 a5 a6 a7 a8 a9 a10 a11 a12 a13 a14 a15 f4 f5 f6 f7 f8 f9 f10 f11 f12 f13 f14 f15) (fun y => y) (fun _ => rfl) [4, 5, 6, 7, 8, 9, 10, 11, 12, 13, 14, 15] rfl rfl (fun _ => rfl) (ws' := fun y => [eF a0 a1 a4 a10 a16 f0, eT a1 a2 a3 f1, eA cI 200 a2 f2, eS a3 f3, eC a4 a5 a6 a8 a9 f4, eS a5 f5, eW a6 a7 f6, eA cI 16 a7 f7, eA cI 256 a8 f8, eA cZ 8 a9 f9, eC a10 a11 a12 a14 a15 f10, eS a11 f11, eW a12 a13 f12, eA cI 16 a13 f13, eA cI 256 a14 f14, eA cZ 8 a15 f15, eC a16 a17 a18 a20 a21 f16, eS a17 f17, eW a18 a19 f18, eA cI 16 a19 f19, eA cI 256 a20 f20, eA cZ 8 a21 f21]) (fun _ => rfl) (ci := 0) rfl rfl rfl rfl (Nat.le_of_ble_eq_true rfl) ⟨Nat.le_of_ble_eq_true rfl, Nat.le_of_ble_eq_true rfl⟩ dX4_unlike_18 ⟨Nat.le_refl 0, Nat.le_refl 0⟩ (fun y2 => ?_)
      exact VF.iret C rfl rfl dX4_unlike_21
    · refine VF.ste (st' := [.ref a16, .ref a4]) (by rw [if_neg h2]) ?_
      refine VF.callVi C (b := a4) (As := [.ref a16]) (rest := []) lk_X4_134 (mtX0_bytesOtherThanIn l D cI cZ a4 a5 a6 a7 a8 a9 a16 a17 a18 a19 a20 a21 f4 f5 f6 f7 f8 f9 f16 f17 f18 f19 f20 f21) (fun y => y) (fun _ => rfl) [4, 5, 6, 7, 8, 9, 16, 17, 18, 19, 20, 21] rfl rfl (fun _ => rfl) (ws' := fun y => [eF a0 a1 a4 a10 a16 f0, eT a1 a2 a3 f1, eA cI 200 a2 f2, eS a3 f3, eC a4 a5 a6 a8 a9 f4, eS a5 f5, eW a6 a7 f6, eA cI 16 a7 f7, eA cI 256 a8 f8, eA cZ 8 a9 f9, eC a10 a11 a12 a14 a15 f10, eS a11 f11, eW a12 a13 f12, eA cI 16 a13 f13, eA cI 256 a14 f14, eA cZ 8 a15 f15, eC a16 a17 a18 a20 a21 f16, eS a17 f17, eW a18 a19 f18, eA cI 16 a19 f19, eA cI 256 a20 f20, eA cZ 8 a21 f21]) (fun _ => rfl) (ci := 0) rfl rfl rfl rfl (Nat.le_of_ble_eq_true rfl) ⟨Nat.le_of_ble_eq_true rfl, Nat.le_of_ble_eq_true rfl⟩ dX4_unlike_18 ⟨Nat.le_refl 0, Nat.le_refl 0⟩ (fun y3 => ?_)
      exact VF.iret C rfl rfl dX4_unlike_21
  · refine VF.bipush C dX4_unlike_7 kb_m2 ?_
    exact VF.iret C rfl rfl dX4_unlike_9
set_option maxHeartbeats 4000000 in
set_option maxRecDepth 100000 in
theorem mtX4_count (l : Launch) (D : va_G) (cI cZ : ClassId) (a0 a1 a2 a3 a4 a5 a6 a7 a8 a9 a10 a11 a12 a13 a14 a15 a16 a17 a18 a19 a20 a21 : Nat) (f0 f1 f2 f3 f4 f5 f6 f7 f8 f9 f10 f11 f12 f13 f14 f15 f16 f17 f18 f19 f20 f21 : Fn) (u1 : Int32) : Ctr l yX4_count cX4_count 2 (some .int) 3 60 D cI cZ [.ref a0, .int u1] [eF a0 a1 a4 a10 a16 f0, eT a1 a2 a3 f1, eA cI 200 a2 f2, eS a3 f3, eC a4 a5 a6 a8 a9 f4, eS a5 f5, eW a6 a7 f6, eA cI 16 a7 f7, eA cI 256 a8 f8, eA cZ 8 a9 f9, eC a10 a11 a12 a14 a15 f10, eS a11 f11, eW a12 a13 f12, eA cI 16 a13 f13, eA cI 256 a14 f14, eA cZ 8 a15 f15, eC a16 a17 a18 a20 a21 f16, eS a17 f17, eW a18 a19 f18, eA cI 16 a19 f19, eA cI 256 a20 f20, eA cZ 8 a21 f21] (zX4_count f0 f1 f4 f5 f6 u1) (fun y : Int32 => some (Value.int y)) (fun _ : Int32 => [eF a0 a1 a4 a10 a16 f0, eT a1 a2 a3 f1, eA cI 200 a2 f2, eS a3 f3, eC a4 a5 a6 a8 a9 f4, eS a5 f5, eW a6 a7 f6, eA cI 16 a7 f7, eA cI 256 a8 f8, eA cZ 8 a9 f9, eC a10 a11 a12 a14 a15 f10, eS a11 f11, eW a12 a13 f12, eA cI 16 a13 f13, eA cI 256 a14 f14, eA cZ 8 a15 f15, eC a16 a17 a18 a20 a21 f16, eS a17 f17, eW a18 a19 f18, eA cI 16 a19 f19, eA cI 256 a20 f20, eA cZ 8 a21 f21]) := by
  refine Ctr.of (by decide) (Nat.le_of_ble_eq_true rfl) ?_
  intro p e s m below meth c A C
  have C : CX p s m ([.ref a0, .int u1] : List Value).toArray meth c cX4_count 2 RX4 D cI cZ A (some .int) := C
  refine VF.lve (lv' := [(0, .ref a0), (1, .int u1)]) rfl ?_
  refine VF.eq (zX4_count.eq_1 f0 f1 f4 f5 f6 u1) ?_
  refine VF.iload_n C 1 dX4_count_0 rfl ?_
  refine VF.ite (fun h1 => ?_) (fun h1 => ?_)
  · refine VF.tableIn (off := 71) C 72 dX4_count_1 (by rw [h1]; decide) (by rw [h1]; decide) (by rw [h1]; decide) rfl ?_
    refine VF.aload_n C 0 dX4_count_72 rfl ?_
    refine VF.get C fl_X4_19 0 rfl rfl dX4_count_73 ?_
    refine VF.callVi C (b := a4) (As := []) (rest := []) lk_X4_62 (mtX0_all l D cI cZ a4 a5 a6 a7 a8 a9 f4 f5 f6 f7 f8 f9) (fun y => y) (fun _ => rfl) [4, 5, 6, 7, 8, 9] rfl rfl (fun _ => rfl) (ws' := fun y => [eF a0 a1 a4 a10 a16 f0, eT a1 a2 a3 f1, eA cI 200 a2 f2, eS a3 f3, eC a4 a5 a6 a8 a9 f4, eS a5 f5, eW a6 a7 f6, eA cI 16 a7 f7, eA cI 256 a8 f8, eA cZ 8 a9 f9, eC a10 a11 a12 a14 a15 f10, eS a11 f11, eW a12 a13 f12, eA cI 16 a13 f13, eA cI 256 a14 f14, eA cZ 8 a15 f15, eC a16 a17 a18 a20 a21 f16, eS a17 f17, eW a18 a19 f18, eA cI 16 a19 f19, eA cI 256 a20 f20, eA cZ 8 a21 f21]) (fun _ => rfl) (ci := 0) rfl rfl rfl rfl (Nat.le_of_ble_eq_true rfl) ⟨Nat.le_of_ble_eq_true rfl, Nat.le_of_ble_eq_true rfl⟩ dX4_count_76 ⟨Nat.le_refl 0, Nat.le_refl 0⟩ (fun y1 => ?_)
    exact VF.iret C rfl rfl dX4_count_79
  refine VF.ite (fun h2 => ?_) (fun h2 => ?_)
  · refine VF.tableIn (off := 79) C 80 dX4_count_1 (by rw [h2]; decide) (by rw [h2]; decide) (by rw [h2]; decide) rfl ?_
    refine VF.aload_n C 0 dX4_count_80 rfl ?_
    refine VF.get C fl_X4_19 0 rfl rfl dX4_count_81 ?_
    refine VF.callVr C (b := a4) (As := []) (rest := []) lk_X4_100 (mtX0_shape l D cI cZ a4 a5 a6 a7 a8 a9 f4 f5 f6 f7 f8 f9) (fun _ => a5) (fun _ => rfl) [4, 5, 6, 7, 8, 9] rfl rfl (fun _ => rfl) (ws' := fun y => [eF a0 a1 a4 a10 a16 f0, eT a1 a2 a3 f1, eA cI 200 a2 f2, eS a3 f3, eC a4 a5 a6 a8 a9 f4, eS a5 f5, eW a6 a7 f6, eA cI 16 a7 f7, eA cI 256 a8 f8, eA cZ 8 a9 f9, eC a10 a11 a12 a14 a15 f10, eS a11 f11, eW a12 a13 f12, eA cI 16 a13 f13, eA cI 256 a14 f14, eA cZ 8 a15 f15, eC a16 a17 a18 a20 a21 f16, eS a17 f17, eW a18 a19 f18, eA cI 16 a19 f19, eA cI 256 a20 f20, eA cZ 8 a21 f21]) (fun _ => rfl) (ci := 0) rfl rfl rfl rfl (Nat.le_of_ble_eq_true rfl) ⟨Nat.le_of_ble_eq_true rfl, Nat.le_of_ble_eq_true rfl⟩ dX4_count_84 ⟨Nat.le_refl 0, Nat.le_refl 0⟩ (fun y2 => ?_)
    refine VF.callVi C (b := a5) (As := []) (rest := []) lk_X4_138 (mtX1_pageBytes l D cI cZ a5 f5) (fun y => y) (fun _ => rfl) [5] rfl rfl (fun _ => rfl) (ws' := fun y => [eF a0 a1 a4 a10 a16 f0, eT a1 a2 a3 f1, eA cI 200 a2 f2, eS a3 f3, eC a4 a5 a6 a8 a9 f4, eS a5 f5, eW a6 a7 f6, eA cI 16 a7 f7, eA cI 256 a8 f8, eA cZ 8 a9 f9, eC a10 a11 a12 a14 a15 f10, eS a11 f11, eW a12 a13 f12, eA cI 16 a13 f13, eA cI 256 a14 f14, eA cZ 8 a15 f15, eC a16 a17 a18 a20 a21 f16, eS a17 f17, eW a18 a19 f18, eA cI 16 a19 f19, eA cI 256 a20 f20, eA cZ 8 a21 f21]) (fun _ => rfl) (ci := 1) rfl rfl rfl rfl (Nat.le_of_ble_eq_true rfl) ⟨Nat.le_of_ble_eq_true rfl, Nat.le_of_ble_eq_true rfl⟩ dX4_count_87 ⟨Nat.le_refl 0, Nat.le_refl 0⟩ (fun y3 => ?_)
    exact VF.iret C rfl rfl dX4_count_90
  refine VF.ite (fun h3 => ?_) (fun h3 => ?_)
  · refine VF.tableIn (off := 90) C 91 dX4_count_1 (by rw [h3]; decide) (by rw [h3]; decide) (by rw [h3]; decide) rfl ?_
    refine VF.aload_n C 0 dX4_count_91 rfl ?_
    refine VF.get C fl_X4_19 0 rfl rfl dX4_count_92 ?_
    refine VF.callVr C (b := a4) (As := []) (rest := []) lk_X4_100 (mtX0_shape l D cI cZ a4 a5 a6 a7 a8 a9 f4 f5 f6 f7 f8 f9) (fun _ => a5) (fun _ => rfl) [4, 5, 6, 7, 8, 9] rfl rfl (fun _ => rfl) (ws' := fun y => [eF a0 a1 a4 a10 a16 f0, eT a1 a2 a3 f1, eA cI 200 a2 f2, eS a3 f3, eC a4 a5 a6 a8 a9 f4, eS a5 f5, eW a6 a7 f6, eA cI 16 a7 f7, eA cI 256 a8 f8, eA cZ 8 a9 f9, eC a10 a11 a12 a14 a15 f10, eS a11 f11, eW a12 a13 f12, eA cI 16 a13 f13, eA cI 256 a14 f14, eA cZ 8 a15 f15, eC a16 a17 a18 a20 a21 f16, eS a17 f17, eW a18 a19 f18, eA cI 16 a19 f19, eA cI 256 a20 f20, eA cZ 8 a21 f21]) (fun _ => rfl) (ci := 0) rfl rfl rfl rfl (Nat.le_of_ble_eq_true rfl) ⟨Nat.le_of_ble_eq_true rfl, Nat.le_of_ble_eq_true rfl⟩ dX4_count_95 ⟨Nat.le_refl 0, Nat.le_refl 0⟩ (fun y4 => ?_)
    refine VF.callVi C (b := a5) (As := []) (rest := []) lk_X4_141 (mtX1_sectorPages l D cI cZ a5 f5) (fun y => y) (fun _ => rfl) [5] rfl rfl (fun _ => rfl) (ws' := fun y => [eF a0 a1 a4 a10 a16 f0, eT a1 a2 a3 f1, eA cI 200 a2 f2, eS a3 f3, eC a4 a5 a6 a8 a9 f4, eS a5 f5, eW a6 a7 f6, eA cI 16 a7 f7, eA cI 256 a8 f8, eA cZ 8 a9 f9, eC a10 a11 a12 a14 a15 f10, eS a11 f11, eW a12 a13 f12, eA cI 16 a13 f13, eA cI 256 a14 f14, eA cZ 8 a15 f15, eC a16 a17 a18 a20 a21 f16, eS a17 f17, eW a18 a19 f18, eA cI 16 a19 f19, eA cI 256 a20 f20, eA cZ 8 a21 f21]) (fun _ => rfl) (ci := 1) rfl rfl rfl rfl (Nat.le_of_ble_eq_true rfl) ⟨Nat.le_of_ble_eq_true rfl, Nat.le_of_ble_eq_true rfl⟩ dX4_count_98 ⟨Nat.le_refl 0, Nat.le_refl 0⟩ (fun y5 => ?_)
    exact VF.iret C rfl rfl dX4_count_101
  refine VF.ite (fun h4 => ?_) (fun h4 => ?_)
  · refine VF.tableIn (off := 101) C 102 dX4_count_1 (by rw [h4]; decide) (by rw [h4]; decide) (by rw [h4]; decide) rfl ?_
    refine VF.aload_n C 0 dX4_count_102 rfl ?_
    refine VF.get C fl_X4_19 0 rfl rfl dX4_count_103 ?_
    refine VF.callVr C (b := a4) (As := []) (rest := []) lk_X4_100 (mtX0_shape l D cI cZ a4 a5 a6 a7 a8 a9 f4 f5 f6 f7 f8 f9) (fun _ => a5) (fun _ => rfl) [4, 5, 6, 7, 8, 9] rfl rfl (fun _ => rfl) (ws' := fun y => [eF a0 a1 a4 a10 a16 f0, eT a1 a2 a3 f1, eA cI 200 a2 f2, eS a3 f3, eC a4 a5 a6 a8 a9 f4, eS a5 f5, eW a6 a7 f6, eA cI 16 a7 f7, eA cI 256 a8 f8, eA cZ 8 a9 f9, eC a10 a11 a12 a14 a15 f10, eS a11 f11, eW a12 a13 f12, eA cI 16 a13 f13, eA cI 256 a14 f14, eA cZ 8 a15 f15, eC a16 a17 a18 a20 a21 f16, eS a17 f17, eW a18 a19 f18, eA cI 16 a19 f19, eA cI 256 a20 f20, eA cZ 8 a21 f21]) (fun _ => rfl) (ci := 0) rfl rfl rfl rfl (Nat.le_of_ble_eq_true rfl) ⟨Nat.le_of_ble_eq_true rfl, Nat.le_of_ble_eq_true rfl⟩ dX4_count_106 ⟨Nat.le_refl 0, Nat.le_refl 0⟩ (fun y6 => ?_)
    refine VF.callVi C (b := a5) (As := []) (rest := []) lk_X4_103 (mtX1_sectors l D cI cZ a5 f5) (fun y => y) (fun _ => rfl) [5] rfl rfl (fun _ => rfl) (ws' := fun y => [eF a0 a1 a4 a10 a16 f0, eT a1 a2 a3 f1, eA cI 200 a2 f2, eS a3 f3, eC a4 a5 a6 a8 a9 f4, eS a5 f5, eW a6 a7 f6, eA cI 16 a7 f7, eA cI 256 a8 f8, eA cZ 8 a9 f9, eC a10 a11 a12 a14 a15 f10, eS a11 f11, eW a12 a13 f12, eA cI 16 a13 f13, eA cI 256 a14 f14, eA cZ 8 a15 f15, eC a16 a17 a18 a20 a21 f16, eS a17 f17, eW a18 a19 f18, eA cI 16 a19 f19, eA cI 256 a20 f20, eA cZ 8 a21 f21]) (fun _ => rfl) (ci := 1) rfl rfl rfl rfl (Nat.le_of_ble_eq_true rfl) ⟨Nat.le_of_ble_eq_true rfl, Nat.le_of_ble_eq_true rfl⟩ dX4_count_109 ⟨Nat.le_refl 0, Nat.le_refl 0⟩ (fun y7 => ?_)
    exact VF.iret C rfl rfl dX4_count_112
  refine VF.ite (fun h5 => ?_) (fun h5 => ?_)
  · refine VF.tableIn (off := 112) C 113 dX4_count_1 (by rw [h5]; decide) (by rw [h5]; decide) (by rw [h5]; decide) rfl ?_
    refine VF.aload_n C 0 dX4_count_113 rfl ?_
    refine VF.get C fl_X4_19 0 rfl rfl dX4_count_114 ?_
    refine VF.callVr C (b := a4) (As := []) (rest := []) lk_X4_100 (mtX0_shape l D cI cZ a4 a5 a6 a7 a8 a9 f4 f5 f6 f7 f8 f9) (fun _ => a5) (fun _ => rfl) [4, 5, 6, 7, 8, 9] rfl rfl (fun _ => rfl) (ws' := fun y => [eF a0 a1 a4 a10 a16 f0, eT a1 a2 a3 f1, eA cI 200 a2 f2, eS a3 f3, eC a4 a5 a6 a8 a9 f4, eS a5 f5, eW a6 a7 f6, eA cI 16 a7 f7, eA cI 256 a8 f8, eA cZ 8 a9 f9, eC a10 a11 a12 a14 a15 f10, eS a11 f11, eW a12 a13 f12, eA cI 16 a13 f13, eA cI 256 a14 f14, eA cZ 8 a15 f15, eC a16 a17 a18 a20 a21 f16, eS a17 f17, eW a18 a19 f18, eA cI 16 a19 f19, eA cI 256 a20 f20, eA cZ 8 a21 f21]) (fun _ => rfl) (ci := 0) rfl rfl rfl rfl (Nat.le_of_ble_eq_true rfl) ⟨Nat.le_of_ble_eq_true rfl, Nat.le_of_ble_eq_true rfl⟩ dX4_count_117 ⟨Nat.le_refl 0, Nat.le_refl 0⟩ (fun y8 => ?_)
    refine VF.callVi C (b := a5) (As := []) (rest := []) lk_X4_144 (mtX1_programTicks l D cI cZ a5 f5) (fun y => y) (fun _ => rfl) [5] rfl rfl (fun _ => rfl) (ws' := fun y => [eF a0 a1 a4 a10 a16 f0, eT a1 a2 a3 f1, eA cI 200 a2 f2, eS a3 f3, eC a4 a5 a6 a8 a9 f4, eS a5 f5, eW a6 a7 f6, eA cI 16 a7 f7, eA cI 256 a8 f8, eA cZ 8 a9 f9, eC a10 a11 a12 a14 a15 f10, eS a11 f11, eW a12 a13 f12, eA cI 16 a13 f13, eA cI 256 a14 f14, eA cZ 8 a15 f15, eC a16 a17 a18 a20 a21 f16, eS a17 f17, eW a18 a19 f18, eA cI 16 a19 f19, eA cI 256 a20 f20, eA cZ 8 a21 f21]) (fun _ => rfl) (ci := 1) rfl rfl rfl rfl (Nat.le_of_ble_eq_true rfl) ⟨Nat.le_of_ble_eq_true rfl, Nat.le_of_ble_eq_true rfl⟩ dX4_count_120 ⟨Nat.le_refl 0, Nat.le_refl 0⟩ (fun y9 => ?_)
    exact VF.iret C rfl rfl dX4_count_123
  refine VF.ite (fun h6 => ?_) (fun h6 => ?_)
  · refine VF.tableIn (off := 123) C 124 dX4_count_1 (by rw [h6]; decide) (by rw [h6]; decide) (by rw [h6]; decide) rfl ?_
    refine VF.aload_n C 0 dX4_count_124 rfl ?_
    refine VF.get C fl_X4_19 0 rfl rfl dX4_count_125 ?_
    refine VF.callVr C (b := a4) (As := []) (rest := []) lk_X4_100 (mtX0_shape l D cI cZ a4 a5 a6 a7 a8 a9 f4 f5 f6 f7 f8 f9) (fun _ => a5) (fun _ => rfl) [4, 5, 6, 7, 8, 9] rfl rfl (fun _ => rfl) (ws' := fun y => [eF a0 a1 a4 a10 a16 f0, eT a1 a2 a3 f1, eA cI 200 a2 f2, eS a3 f3, eC a4 a5 a6 a8 a9 f4, eS a5 f5, eW a6 a7 f6, eA cI 16 a7 f7, eA cI 256 a8 f8, eA cZ 8 a9 f9, eC a10 a11 a12 a14 a15 f10, eS a11 f11, eW a12 a13 f12, eA cI 16 a13 f13, eA cI 256 a14 f14, eA cZ 8 a15 f15, eC a16 a17 a18 a20 a21 f16, eS a17 f17, eW a18 a19 f18, eA cI 16 a19 f19, eA cI 256 a20 f20, eA cZ 8 a21 f21]) (fun _ => rfl) (ci := 0) rfl rfl rfl rfl (Nat.le_of_ble_eq_true rfl) ⟨Nat.le_of_ble_eq_true rfl, Nat.le_of_ble_eq_true rfl⟩ dX4_count_128 ⟨Nat.le_refl 0, Nat.le_refl 0⟩ (fun y10 => ?_)
    refine VF.callVi C (b := a5) (As := []) (rest := []) lk_X4_147 (mtX1_eraseTicks l D cI cZ a5 f5) (fun y => y) (fun _ => rfl) [5] rfl rfl (fun _ => rfl) (ws' := fun y => [eF a0 a1 a4 a10 a16 f0, eT a1 a2 a3 f1, eA cI 200 a2 f2, eS a3 f3, eC a4 a5 a6 a8 a9 f4, eS a5 f5, eW a6 a7 f6, eA cI 16 a7 f7, eA cI 256 a8 f8, eA cZ 8 a9 f9, eC a10 a11 a12 a14 a15 f10, eS a11 f11, eW a12 a13 f12, eA cI 16 a13 f13, eA cI 256 a14 f14, eA cZ 8 a15 f15, eC a16 a17 a18 a20 a21 f16, eS a17 f17, eW a18 a19 f18, eA cI 16 a19 f19, eA cI 256 a20 f20, eA cZ 8 a21 f21]) (fun _ => rfl) (ci := 1) rfl rfl rfl rfl (Nat.le_of_ble_eq_true rfl) ⟨Nat.le_of_ble_eq_true rfl, Nat.le_of_ble_eq_true rfl⟩ dX4_count_131 ⟨Nat.le_refl 0, Nat.le_refl 0⟩ (fun y11 => ?_)
    exact VF.iret C rfl rfl dX4_count_134
  refine VF.ite (fun h7 => ?_) (fun h7 => ?_)
  · refine VF.tableIn (off := 134) C 135 dX4_count_1 (by rw [h7]; decide) (by rw [h7]; decide) (by rw [h7]; decide) rfl ?_
    refine VF.aload_n C 0 dX4_count_135 rfl ?_
    refine VF.get C fl_X4_19 0 rfl rfl dX4_count_136 ?_
    refine VF.callVi C (b := a4) (As := []) (rest := []) lk_X4_71 (mtX0_lanes l D cI cZ a4 a5 a6 a7 a8 a9 f4 f5 f6 f7 f8 f9) (fun y => y) (fun _ => rfl) [4, 5, 6, 7, 8, 9] rfl rfl (fun _ => rfl) (ws' := fun y => [eF a0 a1 a4 a10 a16 f0, eT a1 a2 a3 f1, eA cI 200 a2 f2, eS a3 f3, eC a4 a5 a6 a8 a9 f4, eS a5 f5, eW a6 a7 f6, eA cI 16 a7 f7, eA cI 256 a8 f8, eA cZ 8 a9 f9, eC a10 a11 a12 a14 a15 f10, eS a11 f11, eW a12 a13 f12, eA cI 16 a13 f13, eA cI 256 a14 f14, eA cZ 8 a15 f15, eC a16 a17 a18 a20 a21 f16, eS a17 f17, eW a18 a19 f18, eA cI 16 a19 f19, eA cI 256 a20 f20, eA cZ 8 a21 f21]) (fun _ => rfl) (ci := 0) rfl rfl rfl rfl (Nat.le_of_ble_eq_true rfl) ⟨Nat.le_of_ble_eq_true rfl, Nat.le_of_ble_eq_true rfl⟩ dX4_count_139 ⟨Nat.le_refl 0, Nat.le_refl 0⟩ (fun y12 => ?_)
    exact VF.iret C rfl rfl dX4_count_142
  refine VF.ite (fun h8 => ?_) (fun h8 => ?_)
  · refine VF.tableIn (off := 142) C 143 dX4_count_1 (by rw [h8]; decide) (by rw [h8]; decide) (by rw [h8]; decide) rfl ?_
    refine VF.aload_n C 0 dX4_count_143 rfl ?_
    refine VF.get C fl_X4_19 0 rfl rfl dX4_count_144 ?_
    refine VF.callVi C (b := a4) (As := []) (rest := []) lk_X4_84 (mtX0_status l D cI cZ a4 a5 a6 a7 a8 a9 f4 f5 f6 f7 f8 f9) (fun y => y) (fun _ => rfl) [4, 5, 6, 7, 8, 9] rfl rfl (fun _ => rfl) (ws' := fun y => [eF a0 a1 a4 a10 a16 f0, eT a1 a2 a3 f1, eA cI 200 a2 f2, eS a3 f3, eC a4 a5 a6 a8 a9 f4, eS a5 f5, eW a6 a7 f6, eA cI 16 a7 f7, eA cI 256 a8 f8, eA cZ 8 a9 f9, eC a10 a11 a12 a14 a15 f10, eS a11 f11, eW a12 a13 f12, eA cI 16 a13 f13, eA cI 256 a14 f14, eA cZ 8 a15 f15, eC a16 a17 a18 a20 a21 f16, eS a17 f17, eW a18 a19 f18, eA cI 16 a19 f19, eA cI 256 a20 f20, eA cZ 8 a21 f21]) (fun _ => rfl) (ci := 0) rfl rfl rfl rfl (Nat.le_of_ble_eq_true rfl) ⟨Nat.le_of_ble_eq_true rfl, Nat.le_of_ble_eq_true rfl⟩ dX4_count_147 ⟨Nat.le_refl 0, Nat.le_refl 0⟩ (fun y13 => ?_)
    exact VF.iret C rfl rfl dX4_count_150
  refine VF.ite (fun h9 => ?_) (fun h9 => ?_)
  · refine VF.tableIn (off := 150) C 151 dX4_count_1 (by rw [h9]; decide) (by rw [h9]; decide) (by rw [h9]; decide) rfl ?_
    refine VF.aload_n C 0 dX4_count_151 rfl ?_
    refine VF.get C fl_X4_19 0 rfl rfl dX4_count_152 ?_
    refine VF.callVi C (b := a4) (As := []) (rest := []) lk_X4_150 (mtX0_clocks l D cI cZ a4 a5 a6 a7 a8 a9 f4 f5 f6 f7 f8 f9) (fun y => y) (fun _ => rfl) [4, 5, 6, 7, 8, 9] rfl rfl (fun _ => rfl) (ws' := fun y => [eF a0 a1 a4 a10 a16 f0, eT a1 a2 a3 f1, eA cI 200 a2 f2, eS a3 f3, eC a4 a5 a6 a8 a9 f4, eS a5 f5, eW a6 a7 f6, eA cI 16 a7 f7, eA cI 256 a8 f8, eA cZ 8 a9 f9, eC a10 a11 a12 a14 a15 f10, eS a11 f11, eW a12 a13 f12, eA cI 16 a13 f13, eA cI 256 a14 f14, eA cZ 8 a15 f15, eC a16 a17 a18 a20 a21 f16, eS a17 f17, eW a18 a19 f18, eA cI 16 a19 f19, eA cI 256 a20 f20, eA cZ 8 a21 f21]) (fun _ => rfl) (ci := 0) rfl rfl rfl rfl (Nat.le_of_ble_eq_true rfl) ⟨Nat.le_of_ble_eq_true rfl, Nat.le_of_ble_eq_true rfl⟩ dX4_count_155 ⟨Nat.le_refl 0, Nat.le_refl 0⟩ (fun y14 => ?_)
    exact VF.iret C rfl rfl dX4_count_158
  refine VF.ite (fun h10 => ?_) (fun h10 => ?_)
  · refine VF.tableIn (off := 158) C 159 dX4_count_1 (by rw [h10]; decide) (by rw [h10]; decide) (by rw [h10]; decide) rfl ?_
    refine VF.aload_n C 0 dX4_count_159 rfl ?_
    refine VF.get C fl_X4_19 0 rfl rfl dX4_count_160 ?_
    refine VF.callVi C (b := a4) (As := []) (rest := []) lk_X4_153 (mtX0_ticksLeft l D cI cZ a4 a5 a6 a7 a8 a9 f4 f5 f6 f7 f8 f9) (fun y => y) (fun _ => rfl) [4, 5, 6, 7, 8, 9] rfl rfl (fun _ => rfl) (ws' := fun y => [eF a0 a1 a4 a10 a16 f0, eT a1 a2 a3 f1, eA cI 200 a2 f2, eS a3 f3, eC a4 a5 a6 a8 a9 f4, eS a5 f5, eW a6 a7 f6, eA cI 16 a7 f7, eA cI 256 a8 f8, eA cZ 8 a9 f9, eC a10 a11 a12 a14 a15 f10, eS a11 f11, eW a12 a13 f12, eA cI 16 a13 f13, eA cI 256 a14 f14, eA cZ 8 a15 f15, eC a16 a17 a18 a20 a21 f16, eS a17 f17, eW a18 a19 f18, eA cI 16 a19 f19, eA cI 256 a20 f20, eA cZ 8 a21 f21]) (fun _ => rfl) (ci := 0) rfl rfl rfl rfl (Nat.le_of_ble_eq_true rfl) ⟨Nat.le_of_ble_eq_true rfl, Nat.le_of_ble_eq_true rfl⟩ dX4_count_163 ⟨Nat.le_refl 0, Nat.le_refl 0⟩ (fun y15 => ?_)
    exact VF.iret C rfl rfl dX4_count_166
  refine VF.ite (fun h11 => ?_) (fun h11 => ?_)
  · refine VF.tableIn (off := 166) C 167 dX4_count_1 (by rw [h11]; decide) (by rw [h11]; decide) (by rw [h11]; decide) rfl ?_
    refine VF.aload_n C 0 dX4_count_167 rfl ?_
    refine VF.get C fl_X4_19 0 rfl rfl dX4_count_168 ?_
    refine VF.callVi C (b := a4) (As := []) (rest := []) lk_X4_156 (mtX0_puts l D cI cZ a4 a5 a6 a7 a8 a9 f4 f5 f6 f7 f8 f9) (fun y => y) (fun _ => rfl) [4, 5, 6, 7, 8, 9] rfl rfl (fun _ => rfl) (ws' := fun y => [eF a0 a1 a4 a10 a16 f0, eT a1 a2 a3 f1, eA cI 200 a2 f2, eS a3 f3, eC a4 a5 a6 a8 a9 f4, eS a5 f5, eW a6 a7 f6, eA cI 16 a7 f7, eA cI 256 a8 f8, eA cZ 8 a9 f9, eC a10 a11 a12 a14 a15 f10, eS a11 f11, eW a12 a13 f12, eA cI 16 a13 f13, eA cI 256 a14 f14, eA cZ 8 a15 f15, eC a16 a17 a18 a20 a21 f16, eS a17 f17, eW a18 a19 f18, eA cI 16 a19 f19, eA cI 256 a20 f20, eA cZ 8 a21 f21]) (fun _ => rfl) (ci := 0) rfl rfl rfl rfl (Nat.le_of_ble_eq_true rfl) ⟨Nat.le_of_ble_eq_true rfl, Nat.le_of_ble_eq_true rfl⟩ dX4_count_171 ⟨Nat.le_refl 0, Nat.le_refl 0⟩ (fun y16 => ?_)
    exact VF.iret C rfl rfl dX4_count_174
  refine VF.ite (fun h12 => ?_) (fun h12 => ?_)
  · refine VF.tableIn (off := 174) C 175 dX4_count_1 (by rw [h12]; decide) (by rw [h12]; decide) (by rw [h12]; decide) rfl ?_
    refine VF.aload_n C 0 dX4_count_175 rfl ?_
    refine VF.get C fl_X4_29 0 rfl rfl dX4_count_176 ?_
    exact VF.iret C rfl rfl dX4_count_179
  refine VF.ite (fun h13 => ?_) (fun h13 => ?_)
  · refine VF.tableIn (off := 179) C 180 dX4_count_1 (by rw [h13]; decide) (by rw [h13]; decide) (by rw [h13]; decide) rfl ?_
    refine VF.aload_n C 0 dX4_count_180 rfl ?_
    refine VF.get C fl_X4_10 0 rfl rfl dX4_count_181 ?_
    refine VF.callVi C (b := a1) (As := []) (rest := []) lk_X4_37 (mtX2_length l D cI cZ a1 a2 a3 f1 f2 f3) (fun y => y) (fun _ => rfl) [1, 2, 3] rfl rfl (fun _ => rfl) (ws' := fun y => [eF a0 a1 a4 a10 a16 f0, eT a1 a2 a3 f1, eA cI 200 a2 f2, eS a3 f3, eC a4 a5 a6 a8 a9 f4, eS a5 f5, eW a6 a7 f6, eA cI 16 a7 f7, eA cI 256 a8 f8, eA cZ 8 a9 f9, eC a10 a11 a12 a14 a15 f10, eS a11 f11, eW a12 a13 f12, eA cI 16 a13 f13, eA cI 256 a14 f14, eA cZ 8 a15 f15, eC a16 a17 a18 a20 a21 f16, eS a17 f17, eW a18 a19 f18, eA cI 16 a19 f19, eA cI 256 a20 f20, eA cZ 8 a21 f21]) (fun _ => rfl) (ci := 2) rfl rfl rfl rfl (Nat.le_of_ble_eq_true rfl) ⟨Nat.le_of_ble_eq_true rfl, Nat.le_of_ble_eq_true rfl⟩ dX4_count_184 ⟨Nat.le_refl 0, Nat.le_refl 0⟩ (fun y17 => ?_)
    exact VF.iret C rfl rfl dX4_count_187
  refine VF.ite (fun h14 => ?_) (fun h14 => ?_)
  · refine VF.tableIn (off := 187) C 188 dX4_count_1 (by rw [h14]; decide) (by rw [h14]; decide) (by rw [h14]; decide) rfl ?_
    refine VF.aload_n C 0 dX4_count_188 rfl ?_
    refine VF.get C fl_X4_19 0 rfl rfl dX4_count_189 ?_
    refine VF.callVi C (b := a4) (As := []) (rest := []) lk_X4_159 (mtX0_begun l D cI cZ a4 a5 a6 a7 a8 a9 f4 f5 f6 f7 f8 f9) (fun y => y) (fun _ => rfl) [4, 5, 6, 7, 8, 9] rfl rfl (fun _ => rfl) (ws' := fun y => [eF a0 a1 a4 a10 a16 f0, eT a1 a2 a3 f1, eA cI 200 a2 f2, eS a3 f3, eC a4 a5 a6 a8 a9 f4, eS a5 f5, eW a6 a7 f6, eA cI 16 a7 f7, eA cI 256 a8 f8, eA cZ 8 a9 f9, eC a10 a11 a12 a14 a15 f10, eS a11 f11, eW a12 a13 f12, eA cI 16 a13 f13, eA cI 256 a14 f14, eA cZ 8 a15 f15, eC a16 a17 a18 a20 a21 f16, eS a17 f17, eW a18 a19 f18, eA cI 16 a19 f19, eA cI 256 a20 f20, eA cZ 8 a21 f21]) (fun _ => rfl) (ci := 0) rfl rfl rfl rfl (Nat.le_of_ble_eq_true rfl) ⟨Nat.le_of_ble_eq_true rfl, Nat.le_of_ble_eq_true rfl⟩ dX4_count_192 ⟨Nat.le_refl 0, Nat.le_refl 0⟩ (fun y18 => ?_)
    exact VF.iret C rfl rfl dX4_count_195
  refine VF.tableOut C 196 dX4_count_1 (by have eh1 := lv_neT h1 (k := 0) (a := 0) rfl; have eh2 := lv_neT h2 (k := 1) (a := 1) rfl; have eh3 := lv_neT h3 (k := 2) (a := 2) rfl; have eh4 := lv_neT h4 (k := 3) (a := 3) rfl; have eh5 := lv_neT h5 (k := 4) (a := 4) rfl; have eh6 := lv_neT h6 (k := 5) (a := 5) rfl; have eh7 := lv_neT h7 (k := 6) (a := 6) rfl; have eh8 := lv_neT h8 (k := 7) (a := 7) rfl; have eh9 := lv_neT h9 (k := 8) (a := 8) rfl; have eh10 := lv_neT h10 (k := 9) (a := 9) rfl; have eh11 := lv_neT h11 (k := 10) (a := 10) rfl; have eh12 := lv_neT h12 (k := 11) (a := 11) rfl; have eh13 := lv_neT h13 (k := 12) (a := 12) rfl; have eh14 := lv_neT h14 (k := 13) (a := 13) rfl; omega) rfl ?_
  refine VF.iconst C dX4_count_196 kc_m1 ?_
  exact VF.iret C rfl rfl dX4_count_197
