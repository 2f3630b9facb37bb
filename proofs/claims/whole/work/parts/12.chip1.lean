set_option maxHeartbeats 4000000 in
set_option maxRecDepth 100000 in
theorem mtX0_setByte (l : Launch) (D : va_G) (cI cZ : ClassId) (a0 a1 a2 a3 a4 a5 : Nat) (f0 f1 f2 f3 f4 f5 : Fn) (u1 : Int32) (u2 : Int32) : Ctr l yX0_setByte cX0_setByte 3 none 0 0 D cI cZ [.ref a0, .int u1, .int u2] [eC a0 a1 a2 a4 a5 f0, eS a1 f1, eW a2 a3 f2, eA cI 16 a3 f3, eA cI 256 a4 f4, eA cZ 8 a5 f5] (zX0_setByte f4 u1 u2) (fun _ : Fn => (none : Option Value)) (fun y : Fn => [eC a0 a1 a2 a4 a5 f0, eS a1 f1, eW a2 a3 f2, eA cI 16 a3 f3, eA cI 256 a4 y, eA cZ 8 a5 f5]) := by
  refine Ctr.of (by decide) (Nat.le_of_ble_eq_true rfl) ?_
  intro p e s m below meth c A C
  have C : CX p s m ([.ref a0, .int u1, .int u2] : List Value).toArray meth c cX0_setByte 3 RX0 D cI cZ A none := C
  refine VF.lve (lv' := [(0, .ref a0), (1, .int u1), (2, .int u2)]) rfl ?_
  refine VF.eq (zX0_setByte.eq_1 f4 u1 u2) ?_
  refine VF.iload_n C 1 dX0_setByte_0 rfl ?_
  refine VF.if_lt C 20 dX0_setByte_1 rfl (fun h1 => ?_) (fun h1 => ?_)
  · exact VF.vret C rfl rfl dX0_setByte_20
  · refine VF.iload_n C 1 dX0_setByte_4 rfl ?_
    refine VF.aload_n C 0 dX0_setByte_5 rfl ?_
    refine VF.get C fl_X0_25 0 rfl rfl dX0_setByte_6 ?_
    refine VF.alen C 4 rfl kl_256 dX0_setByte_9 ?_
    refine VF.icmp_ge C 20 dX0_setByte_10 rfl (fun h2 => ?_) (fun h2 => ?_)
    · exact VF.vret C rfl rfl dX0_setByte_20
    · refine VF.aload_n C 0 dX0_setByte_13 rfl ?_
      refine VF.get C fl_X0_25 0 rfl rfl dX0_setByte_14 ?_
      refine VF.iload_n C 1 dX0_setByte_17 rfl ?_
      refine VF.iload_n C 2 dX0_setByte_18 rfl ?_
      refine VF.iast C 4 rfl (ws' := [eC a0 a1 a2 a4 a5 f0, eS a1 f1, eW a2 a3 f2, eA cI 16 a3 f3, eA cI 256 a4 (upd f4 (ix u1) u2), eA cZ 8 a5 f5]) rfl dX0_setByte_19 ?_
      exact VF.vret C rfl rfl dX0_setByte_20
set_option maxHeartbeats 4000000 in
set_option maxRecDepth 100000 in
theorem mtX0_eraseFrom (l : Launch) (D : va_G) (cI cZ : ClassId) (a0 a1 a2 a3 a4 a5 : Nat) (f0 f1 f2 f3 f4 f5 : Fn) (u1 : Int32) (u2 : Int32) : Ctr l yX0_eraseFrom cX0_eraseFrom 4 none 1 22 D cI cZ [.ref a0, .int u1, .int u2] [eC a0 a1 a2 a4 a5 f0, eS a1 f1, eW a2 a3 f2, eA cI 16 a3 f3, eA cI 256 a4 f4, eA cZ 8 a5 f5] (zX0_eraseFrom f4 u1 u2) (fun _ : Fn => (none : Option Value)) (fun y : Fn => [eC a0 a1 a2 a4 a5 f0, eS a1 f1, eW a2 a3 f2, eA cI 16 a3 f3, eA cI 256 a4 y, eA cZ 8 a5 f5]) := by
  refine Ctr.of (by decide) (Nat.le_of_ble_eq_true rfl) ?_
  intro p e s m below meth c A C
  have C : CX p s m ([.ref a0, .int u1, .int u2] : List Value).toArray meth c cX0_eraseFrom 4 RX0 D cI cZ A none := C
  have k2 : ∀ (n : Nat) (x1 : Int32) (x2 : Int32) (x3 : Int32) (f4 : Fn), VF p l e { frames := 1, cells := 0, slots := 0, locals := 22 } s m ([.ref a0, .int u1, .int u2] : List Value).toArray below meth c 0 0 D A 4 (fun r => MQ below (QcX ((fun _ : Fn => (none : Option Value)) r) D ((fun y : Fn => [eC a0 a1 a2 a4 a5 f0, eS a1 f1, eW a2 a3 f2, eA cI 16 a3 f3, eA cI 256 a4 y, eA cZ 8 a5 f5]) r) A) ([.ref a0, .int u1, .int u2] : List Value).toArray s 0 0 A) (zX0_eraseFrom_k2 n f4 x1 x2 x3) [eC a0 a1 a2 a4 a5 f0, eS a1 f1, eW a2 a3 f2, eA cI 16 a3 f3, eA cI 256 a4 f4, eA cZ 8 a5 f5] 2 [(0, .ref a0), (1, .int x1), (2, .int x2), (3, .int x3)] [] := by
    intro n
    induction n with
    | zero =>
      intro x1 x2 x3 f4
      exact VF.eq (zX0_eraseFrom_k2.eq_1 _ _ _ _) VF.nn
    | succ n ih =>
      intro x1 x2 x3 f4
      refine VF.eq (zX0_eraseFrom_k2.eq_2 _ _ _ _ _) ?_
      refine VF.iload_n C 3 dX0_eraseFrom_2 rfl ?_
      refine VF.iload_n C 2 dX0_eraseFrom_3 rfl ?_
      refine VF.icmp_ge C 23 dX0_eraseFrom_4 rfl (fun h1 => ?_) (fun h1 => ?_)
      · exact VF.vret C rfl rfl dX0_eraseFrom_23
      · refine VF.aload_n C 0 dX0_eraseFrom_7 rfl ?_
        refine VF.iload_n C 1 dX0_eraseFrom_8 rfl ?_
        refine VF.iload_n C 3 dX0_eraseFrom_9 rfl ?_
        refine VF.iadd C dX0_eraseFrom_10 ?_
        refine VF.sipush C dX0_eraseFrom_11 ks_255 ?_
        refine VF.callVv C (b := a0) (As := [.int (x1 + x3), .int 255]) (rest := []) lk_X0_195 (mtX0_setByte l D cI cZ a0 a1 a2 a3 a4 a5 f0 f1 f2 f3 f4 f5 (x1 + x3) 255) (fun _ => rfl) [some 0, some 1, some 2, some 3, some 4, some 5] ⟨rfl, rfl⟩ (ws' := fun y => [eC a0 a1 a2 a4 a5 f0, eS a1 f1, eW a2 a3 f2, eA cI 16 a3 f3, eA cI 256 a4 y, eA cZ 8 a5 f5]) (fun _ => ⟨⟨rfl, rfl, rfl⟩, ⟨rfl, rfl, rfl⟩, ⟨rfl, rfl, rfl⟩, ⟨rfl, rfl, rfl⟩, ⟨rfl, rfl, rfl⟩, ⟨rfl, rfl, rfl⟩, trivial⟩) (ci := 0) rfl rfl rfl rfl (Nat.le_of_ble_eq_true rfl) ⟨Nat.le_of_ble_eq_true rfl, Nat.le_of_ble_eq_true rfl⟩ dX0_eraseFrom_14 ⟨Nat.le_refl 0, Nat.le_refl 0⟩ (fun y1 => ?_)
        refine VF.iinc C 3 [1, 2, 3, 0] dX0_eraseFrom_17 rfl (v := (x3 + 1)) rfl (Nat.le_of_ble_eq_true rfl) (lv' := [(0, .ref a0), (1, .int x1), (2, .int x2), (3, .int (x3 + 1))]) rfl ?_
        refine VF.goto C 2 dX0_eraseFrom_20 rfl ?_
        exact ih x1 x2 (x3 + 1) y1
  refine VF.lve (lv' := [(0, .ref a0), (1, .int u1), (2, .int u2)]) rfl ?_
  refine VF.eq (zX0_eraseFrom.eq_1 f4 u1 u2) ?_
  refine VF.iconst C dX0_eraseFrom_0 kc_0 ?_
  refine VF.istore_n C [1, 2, 3, 0] dX0_eraseFrom_1 rfl (Nat.le_of_ble_eq_true rfl) (lv' := [(0, .ref a0), (1, .int u1), (2, .int u2), (3, .int 0)]) rfl ?_
  exact k2 4096 u1 u2 0 f4
set_option maxHeartbeats 4000000 in
set_option maxRecDepth 100000 in
theorem mtX0_startAnew (l : Launch) (D : va_G) (cI cZ : ClassId) (a0 a1 a2 a3 a4 a5 : Nat) (f0 f1 f2 f3 f4 f5 : Fn) : Ctr l yX0_startAnew cX0_startAnew 2 none 2 45 D cI cZ [.ref a0] [eC a0 a1 a2 a4 a5 f0, eS a1 f1, eW a2 a3 f2, eA cI 16 a3 f3, eA cI 256 a4 f4, eA cZ 8 a5 f5] (zX0_startAnew f0 f2 f3 f4 f5) (fun _ : Fn × Fn × Fn × Fn × Fn => (none : Option Value)) (fun y : Fn × Fn × Fn × Fn × Fn => [eC a0 a1 a2 a4 a5 y.1, eS a1 f1, eW a2 a3 y.2.1, eA cI 16 a3 y.2.2.1, eA cI 256 a4 y.2.2.2.1, eA cZ 8 a5 y.2.2.2.2]) := by
  refine Ctr.of (by decide) (Nat.le_of_ble_eq_true rfl) ?_
  intro p e s m below meth c A C
  have C : CX p s m ([.ref a0] : List Value).toArray meth c cX0_startAnew 2 RX0 D cI cZ A none := C
  have k19 : ∀ (n : Nat) (x1 : Int32) (f0 : Fn) (f2 : Fn) (f3 : Fn) (f4 : Fn) (f5 : Fn), VF p l e { frames := 2, cells := 0, slots := 0, locals := 45 } s m ([.ref a0] : List Value).toArray below meth c 0 0 D A 2 (fun r => MQ below (QcX ((fun _ : Fn × Fn × Fn × Fn × Fn => (none : Option Value)) r) D ((fun y : Fn × Fn × Fn × Fn × Fn => [eC a0 a1 a2 a4 a5 y.1, eS a1 f1, eW a2 a3 y.2.1, eA cI 16 a3 y.2.2.1, eA cI 256 a4 y.2.2.2.1, eA cZ 8 a5 y.2.2.2.2]) r) A) ([.ref a0] : List Value).toArray s 0 0 A) (zX0_startAnew_k19 n f0 f2 f3 f4 f5 x1) [eC a0 a1 a2 a4 a5 f0, eS a1 f1, eW a2 a3 f2, eA cI 16 a3 f3, eA cI 256 a4 f4, eA cZ 8 a5 f5] 19 [(0, .ref a0), (1, .int x1)] [] := by
    intro n
    induction n with
    | zero =>
      intro x1 f0 f2 f3 f4 f5
      exact VF.eq (zX0_startAnew_k19.eq_1 _ _ _ _ _ _) VF.nn
    | succ n ih =>
      intro x1 f0 f2 f3 f4 f5
      refine VF.eq (zX0_startAnew_k19.eq_2 _ _ _ _ _ _ _) ?_
      refine VF.iload_n C 1 dX0_startAnew_19 rfl ?_
      refine VF.aload_n C 0 dX0_startAnew_20 rfl ?_
      refine VF.get C fl_X0_29 0 rfl rfl dX0_startAnew_21 ?_
      refine VF.alenZ C 5 rfl kl_8 dX0_startAnew_24 ?_
      refine VF.icmp_ge C 41 dX0_startAnew_25 rfl (fun h1 => ?_) (fun h1 => ?_)
      · refine VF.aload_n C 0 dX0_startAnew_41 rfl ?_
        refine VF.iconst C dX0_startAnew_42 kc_0 ?_
        refine VF.put C fl_X0_47 tyX0 tyX0_ok nmX0 0 rfl rfl rfl (Nat.le_of_ble_eq_true rfl) (ws' := [eC a0 a1 a2 a4 a5 (upd f0 4 0), eS a1 f1, eW a2 a3 f2, eA cI 16 a3 f3, eA cI 256 a4 f4, eA cZ 8 a5 f5]) rfl dX0_startAnew_43 ?_
        refine VF.aload_n C 0 dX0_startAnew_46 rfl ?_
        refine VF.iconst C dX0_startAnew_47 kc_0 ?_
        refine VF.put C fl_X0_51 tyX0 tyX0_ok nmX0 0 rfl rfl rfl (Nat.le_of_ble_eq_true rfl) (ws' := [eC a0 a1 a2 a4 a5 (upd (upd f0 4 0) 5 0), eS a1 f1, eW a2 a3 f2, eA cI 16 a3 f3, eA cI 256 a4 f4, eA cZ 8 a5 f5]) rfl dX0_startAnew_48 ?_
        refine VF.aload_n C 0 dX0_startAnew_51 rfl ?_
        refine VF.iconst C dX0_startAnew_52 kc_0 ?_
        refine VF.putbK C fl_X0_54 tyX0 tyX0_ok nmX0 0 (Or.inl rfl) rfl rfl rfl (Nat.le_of_ble_eq_true rfl) (ws' := [eC a0 a1 a2 a4 a5 (upd (upd (upd f0 4 0) 5 0) 6 0), eS a1 f1, eW a2 a3 f2, eA cI 16 a3 f3, eA cI 256 a4 f4, eA cZ 8 a5 f5]) rfl dX0_startAnew_53 ?_
        refine VF.aload_n C 0 dX0_startAnew_56 rfl ?_
        refine VF.iconst C dX0_startAnew_57 kc_0 ?_
        refine VF.putbK C fl_X0_58 tyX0 tyX0_ok nmX0 0 (Or.inl rfl) rfl rfl rfl (Nat.le_of_ble_eq_true rfl) (ws' := [eC a0 a1 a2 a4 a5 (upd (upd (upd (upd f0 4 0) 5 0) 6 0) 7 0), eS a1 f1, eW a2 a3 f2, eA cI 16 a3 f3, eA cI 256 a4 f4, eA cZ 8 a5 f5]) rfl dX0_startAnew_58 ?_
        refine VF.aload_n C 0 dX0_startAnew_61 rfl ?_
        refine VF.iconst C dX0_startAnew_62 kc_m1 ?_
        refine VF.put C fl_X0_61 tyX0 tyX0_ok nmX0 0 rfl rfl rfl (Nat.le_of_ble_eq_true rfl) (ws' := [eC a0 a1 a2 a4 a5 (upd (upd (upd (upd (upd f0 4 0) 5 0) 6 0) 7 0) 8 (-1)), eS a1 f1, eW a2 a3 f2, eA cI 16 a3 f3, eA cI 256 a4 f4, eA cZ 8 a5 f5]) rfl dX0_startAnew_63 ?_
        refine VF.aload_n C 0 dX0_startAnew_66 rfl ?_
        refine VF.iconst C dX0_startAnew_67 kc_m1 ?_
        refine VF.put C fl_X0_64 tyX0 tyX0_ok nmX0 0 rfl rfl rfl (Nat.le_of_ble_eq_true rfl) (ws' := [eC a0 a1 a2 a4 a5 (upd (upd (upd (upd (upd (upd f0 4 0) 5 0) 6 0) 7 0) 8 (-1)) 9 (-1)), eS a1 f1, eW a2 a3 f2, eA cI 16 a3 f3, eA cI 256 a4 f4, eA cZ 8 a5 f5]) rfl dX0_startAnew_68 ?_
        refine VF.aload_n C 0 dX0_startAnew_71 rfl ?_
        refine VF.iconst C dX0_startAnew_72 kc_0 ?_
        refine VF.put C fl_X0_67 tyX0 tyX0_ok nmX0 0 rfl rfl rfl (Nat.le_of_ble_eq_true rfl) (ws' := [eC a0 a1 a2 a4 a5 (upd (upd (upd (upd (upd (upd (upd f0 4 0) 5 0) 6 0) 7 0) 8 (-1)) 9 (-1)) 10 0), eS a1 f1, eW a2 a3 f2, eA cI 16 a3 f3, eA cI 256 a4 f4, eA cZ 8 a5 f5]) rfl dX0_startAnew_73 ?_
        refine VF.aload_n C 0 dX0_startAnew_76 rfl ?_
        refine VF.iconst C dX0_startAnew_77 kc_m1 ?_
        refine VF.put C fl_X0_70 tyX0 tyX0_ok nmX0 0 rfl rfl rfl (Nat.le_of_ble_eq_true rfl) (ws' := [eC a0 a1 a2 a4 a5 (upd (upd (upd (upd (upd (upd (upd (upd f0 4 0) 5 0) 6 0) 7 0) 8 (-1)) 9 (-1)) 10 0) 11 (-1)), eS a1 f1, eW a2 a3 f2, eA cI 16 a3 f3, eA cI 256 a4 f4, eA cZ 8 a5 f5]) rfl dX0_startAnew_78 ?_
        refine VF.aload_n C 0 dX0_startAnew_81 rfl ?_
        refine VF.iconst C dX0_startAnew_82 kc_0 ?_
        refine VF.put C fl_X0_73 tyX0 tyX0_ok nmX0 0 rfl rfl rfl (Nat.le_of_ble_eq_true rfl) (ws' := [eC a0 a1 a2 a4 a5 (upd (upd (upd (upd (upd (upd (upd (upd (upd f0 4 0) 5 0) 6 0) 7 0) 8 (-1)) 9 (-1)) 10 0) 11 (-1)) 12 0), eS a1 f1, eW a2 a3 f2, eA cI 16 a3 f3, eA cI 256 a4 f4, eA cZ 8 a5 f5]) rfl dX0_startAnew_83 ?_
        refine VF.aload_n C 0 dX0_startAnew_86 rfl ?_
        refine VF.iconst C dX0_startAnew_87 kc_0 ?_
        refine VF.put C fl_X0_76 tyX0 tyX0_ok nmX0 0 rfl rfl rfl (Nat.le_of_ble_eq_true rfl) (ws' := [eC a0 a1 a2 a4 a5 (upd (upd (upd (upd (upd (upd (upd (upd (upd (upd f0 4 0) 5 0) 6 0) 7 0) 8 (-1)) 9 (-1)) 10 0) 11 (-1)) 12 0) 13 0), eS a1 f1, eW a2 a3 f2, eA cI 16 a3 f3, eA cI 256 a4 f4, eA cZ 8 a5 f5]) rfl dX0_startAnew_88 ?_
        refine VF.aload_n C 0 dX0_startAnew_91 rfl ?_
        refine VF.iconst C dX0_startAnew_92 kc_0 ?_
        refine VF.put C fl_X0_79 tyX0 tyX0_ok nmX0 0 rfl rfl rfl (Nat.le_of_ble_eq_true rfl) (ws' := [eC a0 a1 a2 a4 a5 (upd (upd (upd (upd (upd (upd (upd (upd (upd (upd (upd f0 4 0) 5 0) 6 0) 7 0) 8 (-1)) 9 (-1)) 10 0) 11 (-1)) 12 0) 13 0) 14 0), eS a1 f1, eW a2 a3 f2, eA cI 16 a3 f3, eA cI 256 a4 f4, eA cZ 8 a5 f5]) rfl dX0_startAnew_93 ?_
        refine VF.aload_n C 0 dX0_startAnew_96 rfl ?_
        refine VF.iconst C dX0_startAnew_97 kc_0 ?_
        refine VF.putbK C fl_X0_82 tyX0 tyX0_ok nmX0 0 (Or.inl rfl) rfl rfl rfl (Nat.le_of_ble_eq_true rfl) (ws' := [eC a0 a1 a2 a4 a5 (upd (upd (upd (upd (upd (upd (upd (upd (upd (upd (upd (upd f0 4 0) 5 0) 6 0) 7 0) 8 (-1)) 9 (-1)) 10 0) 11 (-1)) 12 0) 13 0) 14 0) 15 0), eS a1 f1, eW a2 a3 f2, eA cI 16 a3 f3, eA cI 256 a4 f4, eA cZ 8 a5 f5]) rfl dX0_startAnew_98 ?_
        exact VF.vret C rfl rfl dX0_startAnew_101
      · refine VF.aload_n C 0 dX0_startAnew_28 rfl ?_
        refine VF.get C fl_X0_29 0 rfl rfl dX0_startAnew_29 ?_
        refine VF.iload_n C 1 dX0_startAnew_32 rfl ?_
        refine VF.iconst C dX0_startAnew_33 kc_0 ?_
        refine VF.zast C 5 rfl (ws' := [eC a0 a1 a2 a4 a5 f0, eS a1 f1, eW a2 a3 f2, eA cI 16 a3 f3, eA cI 256 a4 f4, eA cZ 8 a5 (upd f5 (ix x1) 0)]) rfl dX0_startAnew_34 ?_
        refine VF.iinc C 1 [1, 0] dX0_startAnew_35 rfl (v := (x1 + 1)) rfl (Nat.le_of_ble_eq_true rfl) (lv' := [(0, .ref a0), (1, .int (x1 + 1))]) rfl ?_
        refine VF.goto C 19 dX0_startAnew_38 rfl ?_
        exact ih (x1 + 1) f0 f2 f3 f4 (upd f5 (ix x1) 0)
  refine VF.lve (lv' := [(0, .ref a0)]) rfl ?_
  refine VF.eq (zX0_startAnew.eq_1 f0 f2 f3 f4 f5) ?_
  refine VF.aload_n C 0 dX0_startAnew_0 rfl ?_
  refine VF.get C fl_X0_21 0 rfl rfl dX0_startAnew_1 ?_
  refine VF.callVv C (b := a2) (As := []) (rest := []) lk_X0_40 (mtX3_clear l D cI cZ a2 a3 f2 f3) (fun _ => rfl) [none, none, some 0, some 1, none, none] ⟨rfl, rfl⟩ (ws' := fun y => [eC a0 a1 a2 a4 a5 f0, eS a1 f1, eW a2 a3 y.1, eA cI 16 a3 y.2, eA cI 256 a4 f4, eA cZ 8 a5 f5]) (fun _ => ⟨rfl, rfl, ⟨rfl, rfl, rfl⟩, ⟨rfl, rfl, rfl⟩, rfl, rfl, trivial⟩) (ci := 3) rfl rfl rfl rfl (Nat.le_of_ble_eq_true rfl) ⟨Nat.le_of_ble_eq_true rfl, Nat.le_of_ble_eq_true rfl⟩ dX0_startAnew_4 ⟨Nat.le_refl 0, Nat.le_refl 0⟩ (fun y1 => ?_)
  refine VF.aload_n C 0 dX0_startAnew_7 rfl ?_
  refine VF.iconst C dX0_startAnew_8 kc_0 ?_
  refine VF.aload_n C 0 dX0_startAnew_9 rfl ?_
  refine VF.get C fl_X0_25 0 rfl rfl dX0_startAnew_10 ?_
  refine VF.alen C 4 rfl kl_256 dX0_startAnew_13 ?_
  refine VF.callVv C (b := a0) (As := [.int 0, .int 256]) (rest := []) lk_X0_43 (mtX0_eraseFrom l D cI cZ a0 a1 a2 a3 a4 a5 f0 f1 y1.1 y1.2 f4 f5 0 256) (fun _ => rfl) [some 0, some 1, some 2, some 3, some 4, some 5] ⟨rfl, rfl⟩ (ws' := fun y => [eC a0 a1 a2 a4 a5 f0, eS a1 f1, eW a2 a3 y1.1, eA cI 16 a3 y1.2, eA cI 256 a4 y, eA cZ 8 a5 f5]) (fun _ => ⟨⟨rfl, rfl, rfl⟩, ⟨rfl, rfl, rfl⟩, ⟨rfl, rfl, rfl⟩, ⟨rfl, rfl, rfl⟩, ⟨rfl, rfl, rfl⟩, ⟨rfl, rfl, rfl⟩, trivial⟩) (ci := 0) rfl rfl rfl rfl (Nat.le_of_ble_eq_true rfl) ⟨Nat.le_of_ble_eq_true rfl, Nat.le_of_ble_eq_true rfl⟩ dX0_startAnew_14 ⟨Nat.le_refl 0, Nat.le_refl 0⟩ (fun y2 => ?_)
  refine VF.iconst C dX0_startAnew_17 kc_0 ?_
  refine VF.istore_n C [1, 0] dX0_startAnew_18 rfl (Nat.le_of_ble_eq_true rfl) (lv' := [(0, .ref a0), (1, .int 0)]) rfl ?_
  exact k19 4096 0 f0 y1.1 y1.2 y2 f5
set_option maxHeartbeats 4000000 in
set_option maxRecDepth 100000 in
theorem mtX0_layOut (l : Launch) (D : va_G) (cI cZ : ClassId) (a0 a1 a2 a3 a4 a5 a6 : Nat) (f0 f1 f2 f3 f4 f5 f6 : Fn) : Ctr l yX0_layOut cX0_layOut 2 none 3 66 D cI cZ [.ref a0, .ref a6] [eC a0 a1 a2 a4 a5 f0, eS a1 f1, eW a2 a3 f2, eA cI 16 a3 f3, eA cI 256 a4 f4, eA cZ 8 a5 f5, eS a6 f6] (zX0_layOut f0 f1 f2 f3 f4 f5 f6) (fun _ : Fn × Fn × Fn × Fn × Fn × Fn => (none : Option Value)) (fun y : Fn × Fn × Fn × Fn × Fn × Fn => [eC a0 a1 a2 a4 a5 y.1, eS a1 y.2.1, eW a2 a3 y.2.2.1, eA cI 16 a3 y.2.2.2.1, eA cI 256 a4 y.2.2.2.2.1, eA cZ 8 a5 y.2.2.2.2.2, eS a6 f6]) := by
  refine Ctr.of (by decide) (Nat.le_of_ble_eq_true rfl) ?_
  intro p e s m below meth c A C
  have C : CX p s m ([.ref a0, .ref a6] : List Value).toArray meth c cX0_layOut 2 RX0 D cI cZ A none := C
  refine VF.lve (lv' := [(0, .ref a0), (1, .ref a6)]) rfl ?_
  refine VF.eq (zX0_layOut.eq_1 f0 f1 f2 f3 f4 f5 f6) ?_
  refine VF.aload_n C 0 dX0_layOut_0 rfl ?_
  refine VF.get C fl_X0_12 0 rfl rfl dX0_layOut_1 ?_
  refine VF.aload_n C 1 dX0_layOut_4 rfl ?_
  refine VF.callVv C (b := a1) (As := [.ref a6]) (rest := []) lk_X0_36 (mtX1_copyFrom l D cI cZ a1 a6 f1 f6) (fun _ => rfl) [none, some 0, none, none, none, none, some 1] ⟨rfl, rfl⟩ (ws' := fun y => [eC a0 a1 a2 a4 a5 f0, eS a1 y, eW a2 a3 f2, eA cI 16 a3 f3, eA cI 256 a4 f4, eA cZ 8 a5 f5, eS a6 f6]) (fun _ => ⟨rfl, ⟨rfl, rfl, rfl⟩, rfl, rfl, rfl, rfl, ⟨rfl, rfl, rfl⟩, trivial⟩) (ci := 1) rfl rfl rfl rfl (Nat.le_of_ble_eq_true rfl) ⟨Nat.le_of_ble_eq_true rfl, Nat.le_of_ble_eq_true rfl⟩ dX0_layOut_5 ⟨Nat.le_refl 0, Nat.le_refl 0⟩ (fun y1 => ?_)
  refine VF.aload_n C 0 dX0_layOut_8 rfl ?_
  refine VF.callVv C (b := a0) (As := []) (rest := []) lk_X0_33 (mtX0_startAnew l D cI cZ a0 a1 a2 a3 a4 a5 f0 y1 f2 f3 f4 f5) (fun _ => rfl) [some 0, some 1, some 2, some 3, some 4, some 5, none] ⟨rfl, rfl⟩ (ws' := fun y => [eC a0 a1 a2 a4 a5 y.1, eS a1 y1, eW a2 a3 y.2.1, eA cI 16 a3 y.2.2.1, eA cI 256 a4 y.2.2.2.1, eA cZ 8 a5 y.2.2.2.2, eS a6 f6]) (fun _ => ⟨⟨rfl, rfl, rfl⟩, ⟨rfl, rfl, rfl⟩, ⟨rfl, rfl, rfl⟩, ⟨rfl, rfl, rfl⟩, ⟨rfl, rfl, rfl⟩, ⟨rfl, rfl, rfl⟩, rfl, trivial⟩) (ci := 0) rfl rfl rfl rfl (Nat.le_of_ble_eq_true rfl) ⟨Nat.le_of_ble_eq_true rfl, Nat.le_of_ble_eq_true rfl⟩ dX0_layOut_9 ⟨Nat.le_refl 0, Nat.le_refl 0⟩ (fun y2 => ?_)
  exact VF.vret C rfl rfl dX0_layOut_12
set_option maxHeartbeats 4000000 in
set_option maxRecDepth 100000 in
theorem mtX0_copyFrom (l : Launch) (D : va_G) (cI cZ : ClassId) (a0 a1 a2 a3 a4 a5 a6 a7 a8 a9 a10 a11 : Nat) (f0 f1 f2 f3 f4 f5 f6 f7 f8 f9 f10 f11 : Fn) : Ctr l yX0_copyFrom cX0_copyFrom 3 none 1 22 D cI cZ [.ref a0, .ref a6] [eC a0 a1 a2 a4 a5 f0, eS a1 f1, eW a2 a3 f2, eA cI 16 a3 f3, eA cI 256 a4 f4, eA cZ 8 a5 f5, eC a6 a7 a8 a10 a11 f6, eS a7 f7, eW a8 a9 f8, eA cI 16 a9 f9, eA cI 256 a10 f10, eA cZ 8 a11 f11] (zX0_copyFrom f0 f1 f2 f3 f4 f5 f6 f7 f8 f9 f10 f11) (fun _ : Fn × Fn × Fn × Fn × Fn × Fn => (none : Option Value)) (fun y : Fn × Fn × Fn × Fn × Fn × Fn => [eC a0 a1 a2 a4 a5 y.1, eS a1 y.2.1, eW a2 a3 y.2.2.1, eA cI 16 a3 y.2.2.2.1, eA cI 256 a4 y.2.2.2.2.1, eA cZ 8 a5 y.2.2.2.2.2, eC a6 a7 a8 a10 a11 f6, eS a7 f7, eW a8 a9 f8, eA cI 16 a9 f9, eA cI 256 a10 f10, eA cZ 8 a11 f11]) := by
  refine Ctr.of (by decide) (Nat.le_of_ble_eq_true rfl) ?_
  intro p e s m below meth c A C
  have C : CX p s m ([.ref a0, .ref a6] : List Value).toArray meth c cX0_copyFrom 3 RX0 D cI cZ A none := C
  have k98 : ∀ (f0 : Fn) (f1 : Fn) (f2 : Fn) (f3 : Fn) (f4 : Fn) (f5 : Fn), VF p l e { frames := 1, cells := 0, slots := 0, locals := 22 } s m ([.ref a0, .ref a6] : List Value).toArray below meth c 0 0 D A 3 (fun r => MQ below (QcX ((fun _ : Fn × Fn × Fn × Fn × Fn × Fn => (none : Option Value)) r) D ((fun y : Fn × Fn × Fn × Fn × Fn × Fn => [eC a0 a1 a2 a4 a5 y.1, eS a1 y.2.1, eW a2 a3 y.2.2.1, eA cI 16 a3 y.2.2.2.1, eA cI 256 a4 y.2.2.2.2.1, eA cZ 8 a5 y.2.2.2.2.2, eC a6 a7 a8 a10 a11 f6, eS a7 f7, eW a8 a9 f8, eA cI 16 a9 f9, eA cI 256 a10 f10, eA cZ 8 a11 f11]) r) A) ([.ref a0, .ref a6] : List Value).toArray s 0 0 A) (zX0_copyFrom_k98 f0 f1 f2 f3 f4 f5 f6 f7 f8 f9 f10 f11) [eC a0 a1 a2 a4 a5 f0, eS a1 f1, eW a2 a3 f2, eA cI 16 a3 f3, eA cI 256 a4 f4, eA cZ 8 a5 f5, eC a6 a7 a8 a10 a11 f6, eS a7 f7, eW a8 a9 f8, eA cI 16 a9 f9, eA cI 256 a10 f10, eA cZ 8 a11 f11] 98 [(0, .ref a0), (1, .ref a6)] [] := by
    intro f0 f1 f2 f3 f4 f5
    refine VF.eq (zX0_copyFrom_k98.eq_1 f0 f1 f2 f3 f4 f5 f6 f7 f8 f9 f10 f11) ?_
    refine VF.aload_n C 0 dX0_copyFrom_98 rfl ?_
    refine VF.aload_n C 1 dX0_copyFrom_99 rfl ?_
    refine VF.get C fl_X0_47 6 rfl rfl dX0_copyFrom_100 ?_
    refine VF.put C fl_X0_47 tyX0 tyX0_ok nmX0 0 rfl rfl rfl (Nat.le_of_ble_eq_true rfl) (ws' := [eC a0 a1 a2 a4 a5 (upd f0 4 (f6 4)), eS a1 f1, eW a2 a3 f2, eA cI 16 a3 f3, eA cI 256 a4 f4, eA cZ 8 a5 f5, eC a6 a7 a8 a10 a11 f6, eS a7 f7, eW a8 a9 f8, eA cI 16 a9 f9, eA cI 256 a10 f10, eA cZ 8 a11 f11]) rfl dX0_copyFrom_103 ?_
    refine VF.aload_n C 0 dX0_copyFrom_106 rfl ?_
    refine VF.aload_n C 1 dX0_copyFrom_107 rfl ?_
    refine VF.get C fl_X0_51 6 rfl rfl dX0_copyFrom_108 ?_
    refine VF.put C fl_X0_51 tyX0 tyX0_ok nmX0 0 rfl rfl rfl (Nat.le_of_ble_eq_true rfl) (ws' := [eC a0 a1 a2 a4 a5 (upd (upd f0 4 (f6 4)) 5 (f6 5)), eS a1 f1, eW a2 a3 f2, eA cI 16 a3 f3, eA cI 256 a4 f4, eA cZ 8 a5 f5, eC a6 a7 a8 a10 a11 f6, eS a7 f7, eW a8 a9 f8, eA cI 16 a9 f9, eA cI 256 a10 f10, eA cZ 8 a11 f11]) rfl dX0_copyFrom_111 ?_
    refine VF.aload_n C 0 dX0_copyFrom_114 rfl ?_
    refine VF.aload_n C 1 dX0_copyFrom_115 rfl ?_
    refine VF.get C fl_X0_54 6 rfl rfl dX0_copyFrom_116 ?_
    refine VF.putb C fl_X0_54 tyX0 tyX0_ok nmX0 0 rfl rfl rfl (Nat.le_of_ble_eq_true rfl) (ws' := [eC a0 a1 a2 a4 a5 (upd (upd (upd f0 4 (f6 4)) 5 (f6 5)) 6 (f6 6)), eS a1 f1, eW a2 a3 f2, eA cI 16 a3 f3, eA cI 256 a4 f4, eA cZ 8 a5 f5, eC a6 a7 a8 a10 a11 f6, eS a7 f7, eW a8 a9 f8, eA cI 16 a9 f9, eA cI 256 a10 f10, eA cZ 8 a11 f11]) rfl dX0_copyFrom_119 ?_
    refine VF.aload_n C 0 dX0_copyFrom_122 rfl ?_
    refine VF.aload_n C 1 dX0_copyFrom_123 rfl ?_
    refine VF.get C fl_X0_58 6 rfl rfl dX0_copyFrom_124 ?_
    refine VF.putb C fl_X0_58 tyX0 tyX0_ok nmX0 0 rfl rfl rfl (Nat.le_of_ble_eq_true rfl) (ws' := [eC a0 a1 a2 a4 a5 (upd (upd (upd (upd f0 4 (f6 4)) 5 (f6 5)) 6 (f6 6)) 7 (f6 7)), eS a1 f1, eW a2 a3 f2, eA cI 16 a3 f3, eA cI 256 a4 f4, eA cZ 8 a5 f5, eC a6 a7 a8 a10 a11 f6, eS a7 f7, eW a8 a9 f8, eA cI 16 a9 f9, eA cI 256 a10 f10, eA cZ 8 a11 f11]) rfl dX0_copyFrom_127 ?_
    refine VF.aload_n C 0 dX0_copyFrom_130 rfl ?_
    refine VF.aload_n C 1 dX0_copyFrom_131 rfl ?_
    refine VF.get C fl_X0_61 6 rfl rfl dX0_copyFrom_132 ?_
    refine VF.put C fl_X0_61 tyX0 tyX0_ok nmX0 0 rfl rfl rfl (Nat.le_of_ble_eq_true rfl) (ws' := [eC a0 a1 a2 a4 a5 (upd (upd (upd (upd (upd f0 4 (f6 4)) 5 (f6 5)) 6 (f6 6)) 7 (f6 7)) 8 (f6 8)), eS a1 f1, eW a2 a3 f2, eA cI 16 a3 f3, eA cI 256 a4 f4, eA cZ 8 a5 f5, eC a6 a7 a8 a10 a11 f6, eS a7 f7, eW a8 a9 f8, eA cI 16 a9 f9, eA cI 256 a10 f10, eA cZ 8 a11 f11]) rfl dX0_copyFrom_135 ?_
    refine VF.aload_n C 0 dX0_copyFrom_138 rfl ?_
    refine VF.aload_n C 1 dX0_copyFrom_139 rfl ?_
    refine VF.get C fl_X0_64 6 rfl rfl dX0_copyFrom_140 ?_
    refine VF.put C fl_X0_64 tyX0 tyX0_ok nmX0 0 rfl rfl rfl (Nat.le_of_ble_eq_true rfl) (ws' := [eC a0 a1 a2 a4 a5 (upd (upd (upd (upd (upd (upd f0 4 (f6 4)) 5 (f6 5)) 6 (f6 6)) 7 (f6 7)) 8 (f6 8)) 9 (f6 9)), eS a1 f1, eW a2 a3 f2, eA cI 16 a3 f3, eA cI 256 a4 f4, eA cZ 8 a5 f5, eC a6 a7 a8 a10 a11 f6, eS a7 f7, eW a8 a9 f8, eA cI 16 a9 f9, eA cI 256 a10 f10, eA cZ 8 a11 f11]) rfl dX0_copyFrom_143 ?_
    refine VF.aload_n C 0 dX0_copyFrom_146 rfl ?_
    refine VF.aload_n C 1 dX0_copyFrom_147 rfl ?_
    refine VF.get C fl_X0_67 6 rfl rfl dX0_copyFrom_148 ?_
    refine VF.put C fl_X0_67 tyX0 tyX0_ok nmX0 0 rfl rfl rfl (Nat.le_of_ble_eq_true rfl) (ws' := [eC a0 a1 a2 a4 a5 (upd (upd (upd (upd (upd (upd (upd f0 4 (f6 4)) 5 (f6 5)) 6 (f6 6)) 7 (f6 7)) 8 (f6 8)) 9 (f6 9)) 10 (f6 10)), eS a1 f1, eW a2 a3 f2, eA cI 16 a3 f3, eA cI 256 a4 f4, eA cZ 8 a5 f5, eC a6 a7 a8 a10 a11 f6, eS a7 f7, eW a8 a9 f8, eA cI 16 a9 f9, eA cI 256 a10 f10, eA cZ 8 a11 f11]) rfl dX0_copyFrom_151 ?_
    refine VF.aload_n C 0 dX0_copyFrom_154 rfl ?_
    refine VF.aload_n C 1 dX0_copyFrom_155 rfl ?_
    refine VF.get C fl_X0_70 6 rfl rfl dX0_copyFrom_156 ?_
    refine VF.put C fl_X0_70 tyX0 tyX0_ok nmX0 0 rfl rfl rfl (Nat.le_of_ble_eq_true rfl) (ws' := [eC a0 a1 a2 a4 a5 (upd (upd (upd (upd (upd (upd (upd (upd f0 4 (f6 4)) 5 (f6 5)) 6 (f6 6)) 7 (f6 7)) 8 (f6 8)) 9 (f6 9)) 10 (f6 10)) 11 (f6 11)), eS a1 f1, eW a2 a3 f2, eA cI 16 a3 f3, eA cI 256 a4 f4, eA cZ 8 a5 f5, eC a6 a7 a8 a10 a11 f6, eS a7 f7, eW a8 a9 f8, eA cI 16 a9 f9, eA cI 256 a10 f10, eA cZ 8 a11 f11]) rfl dX0_copyFrom_159 ?_
    refine VF.aload_n C 0 dX0_copyFrom_162 rfl ?_
    refine VF.aload_n C 1 dX0_copyFrom_163 rfl ?_
    refine VF.get C fl_X0_73 6 rfl rfl dX0_copyFrom_164 ?_
    refine VF.put C fl_X0_73 tyX0 tyX0_ok nmX0 0 rfl rfl rfl (Nat.le_of_ble_eq_true rfl) (ws' := [eC a0 a1 a2 a4 a5 (upd (upd (upd (upd (upd (upd (upd (upd (upd f0 4 (f6 4)) 5 (f6 5)) 6 (f6 6)) 7 (f6 7)) 8 (f6 8)) 9 (f6 9)) 10 (f6 10)) 11 (f6 11)) 12 (f6 12)), eS a1 f1, eW a2 a3 f2, eA cI 16 a3 f3, eA cI 256 a4 f4, eA cZ 8 a5 f5, eC a6 a7 a8 a10 a11 f6, eS a7 f7, eW a8 a9 f8, eA cI 16 a9 f9, eA cI 256 a10 f10, eA cZ 8 a11 f11]) rfl dX0_copyFrom_167 ?_
    refine VF.aload_n C 0 dX0_copyFrom_170 rfl ?_
    refine VF.aload_n C 1 dX0_copyFrom_171 rfl ?_
    refine VF.get C fl_X0_76 6 rfl rfl dX0_copyFrom_172 ?_
    refine VF.put C fl_X0_76 tyX0 tyX0_ok nmX0 0 rfl rfl rfl (Nat.le_of_ble_eq_true rfl) (ws' := [eC a0 a1 a2 a4 a5 (upd (upd (upd (upd (upd (upd (upd (upd (upd (upd f0 4 (f6 4)) 5 (f6 5)) 6 (f6 6)) 7 (f6 7)) 8 (f6 8)) 9 (f6 9)) 10 (f6 10)) 11 (f6 11)) 12 (f6 12)) 13 (f6 13)), eS a1 f1, eW a2 a3 f2, eA cI 16 a3 f3, eA cI 256 a4 f4, eA cZ 8 a5 f5, eC a6 a7 a8 a10 a11 f6, eS a7 f7, eW a8 a9 f8, eA cI 16 a9 f9, eA cI 256 a10 f10, eA cZ 8 a11 f11]) rfl dX0_copyFrom_175 ?_
    refine VF.aload_n C 0 dX0_copyFrom_178 rfl ?_
    refine VF.aload_n C 1 dX0_copyFrom_179 rfl ?_
    refine VF.get C fl_X0_79 6 rfl rfl dX0_copyFrom_180 ?_
    refine VF.put C fl_X0_79 tyX0 tyX0_ok nmX0 0 rfl rfl rfl (Nat.le_of_ble_eq_true rfl) (ws' := [eC a0 a1 a2 a4 a5 (upd (upd (upd (upd (upd (upd (upd (upd (upd (upd (upd f0 4 (f6 4)) 5 (f6 5)) 6 (f6 6)) 7 (f6 7)) 8 (f6 8)) 9 (f6 9)) 10 (f6 10)) 11 (f6 11)) 12 (f6 12)) 13 (f6 13)) 14 (f6 14)), eS a1 f1, eW a2 a3 f2, eA cI 16 a3 f3, eA cI 256 a4 f4, eA cZ 8 a5 f5, eC a6 a7 a8 a10 a11 f6, eS a7 f7, eW a8 a9 f8, eA cI 16 a9 f9, eA cI 256 a10 f10, eA cZ 8 a11 f11]) rfl dX0_copyFrom_183 ?_
    refine VF.aload_n C 0 dX0_copyFrom_186 rfl ?_
    refine VF.aload_n C 1 dX0_copyFrom_187 rfl ?_
    refine VF.get C fl_X0_82 6 rfl rfl dX0_copyFrom_188 ?_
    refine VF.putb C fl_X0_82 tyX0 tyX0_ok nmX0 0 rfl rfl rfl (Nat.le_of_ble_eq_true rfl) (ws' := [eC a0 a1 a2 a4 a5 (upd (upd (upd (upd (upd (upd (upd (upd (upd (upd (upd (upd f0 4 (f6 4)) 5 (f6 5)) 6 (f6 6)) 7 (f6 7)) 8 (f6 8)) 9 (f6 9)) 10 (f6 10)) 11 (f6 11)) 12 (f6 12)) 13 (f6 13)) 14 (f6 14)) 15 (f6 15)), eS a1 f1, eW a2 a3 f2, eA cI 16 a3 f3, eA cI 256 a4 f4, eA cZ 8 a5 f5, eC a6 a7 a8 a10 a11 f6, eS a7 f7, eW a8 a9 f8, eA cI 16 a9 f9, eA cI 256 a10 f10, eA cZ 8 a11 f11]) rfl dX0_copyFrom_191 ?_
    exact VF.vret C rfl rfl dX0_copyFrom_194
  have k62 : ∀ (n : Nat) (x2 : Int32) (f0 : Fn) (f1 : Fn) (f2 : Fn) (f3 : Fn) (f4 : Fn) (f5 : Fn), VF p l e { frames := 1, cells := 0, slots := 0, locals := 22 } s m ([.ref a0, .ref a6] : List Value).toArray below meth c 0 0 D A 3 (fun r => MQ below (QcX ((fun _ : Fn × Fn × Fn × Fn × Fn × Fn => (none : Option Value)) r) D ((fun y : Fn × Fn × Fn × Fn × Fn × Fn => [eC a0 a1 a2 a4 a5 y.1, eS a1 y.2.1, eW a2 a3 y.2.2.1, eA cI 16 a3 y.2.2.2.1, eA cI 256 a4 y.2.2.2.2.1, eA cZ 8 a5 y.2.2.2.2.2, eC a6 a7 a8 a10 a11 f6, eS a7 f7, eW a8 a9 f8, eA cI 16 a9 f9, eA cI 256 a10 f10, eA cZ 8 a11 f11]) r) A) ([.ref a0, .ref a6] : List Value).toArray s 0 0 A) (zX0_copyFrom_k62 n f0 f1 f2 f3 f4 f5 f6 f7 f8 f9 f10 f11 x2) [eC a0 a1 a2 a4 a5 f0, eS a1 f1, eW a2 a3 f2, eA cI 16 a3 f3, eA cI 256 a4 f4, eA cZ 8 a5 f5, eC a6 a7 a8 a10 a11 f6, eS a7 f7, eW a8 a9 f8, eA cI 16 a9 f9, eA cI 256 a10 f10, eA cZ 8 a11 f11] 62 [(0, .ref a0), (1, .ref a6), (2, .int x2)] [] := by
    intro n
    induction n with
    | zero =>
      intro x2 f0 f1 f2 f3 f4 f5
      exact VF.eq (zX0_copyFrom_k62.eq_1 _ _ _ _ _ _ _ _ _ _ _ _ _) VF.nn
    | succ n ih =>
      intro x2 f0 f1 f2 f3 f4 f5
      refine VF.eq (zX0_copyFrom_k62.eq_2 _ _ _ _ _ _ _ _ _ _ _ _ _ _) ?_
      refine VF.iload_n C 2 dX0_copyFrom_62 rfl ?_
      refine VF.aload_n C 0 dX0_copyFrom_63 rfl ?_
      refine VF.get C fl_X0_29 0 rfl rfl dX0_copyFrom_64 ?_
      refine VF.alenZ C 5 rfl kl_8 dX0_copyFrom_67 ?_
      refine VF.icmp_ge C 98 dX0_copyFrom_68 rfl (fun h3 => ?_) (fun h3 => ?_)
      · exact VF.lvs [0, 1] rfl (k98 f0 f1 f2 f3 f4 f5)
      · refine VF.iload_n C 2 dX0_copyFrom_71 rfl ?_
        refine VF.aload_n C 1 dX0_copyFrom_72 rfl ?_
        refine VF.get C fl_X0_29 6 rfl rfl dX0_copyFrom_73 ?_
        refine VF.alenZ C 11 rfl kl_8 dX0_copyFrom_76 ?_
        refine VF.icmp_ge C 98 dX0_copyFrom_77 rfl (fun h4 => ?_) (fun h4 => ?_)
        · exact VF.lvs [0, 1] rfl (k98 f0 f1 f2 f3 f4 f5)
        · refine VF.aload_n C 0 dX0_copyFrom_80 rfl ?_
          refine VF.get C fl_X0_29 0 rfl rfl dX0_copyFrom_81 ?_
          refine VF.iload_n C 2 dX0_copyFrom_84 rfl ?_
          refine VF.aload_n C 1 dX0_copyFrom_85 rfl ?_
          refine VF.get C fl_X0_29 6 rfl rfl dX0_copyFrom_86 ?_
          refine VF.iload_n C 2 dX0_copyFrom_89 rfl ?_
          refine VF.zald C 11 rfl dX0_copyFrom_90 ?_
          refine VF.zast C 5 rfl (ws' := [eC a0 a1 a2 a4 a5 f0, eS a1 f1, eW a2 a3 f2, eA cI 16 a3 f3, eA cI 256 a4 f4, eA cZ 8 a5 (upd f5 (ix x2) (f11 (ix x2))), eC a6 a7 a8 a10 a11 f6, eS a7 f7, eW a8 a9 f8, eA cI 16 a9 f9, eA cI 256 a10 f10, eA cZ 8 a11 f11]) rfl dX0_copyFrom_91 ?_
          refine VF.iinc C 2 [1, 2, 0] dX0_copyFrom_92 rfl (v := (x2 + 1)) rfl (Nat.le_of_ble_eq_true rfl) (lv' := [(0, .ref a0), (1, .ref a6), (2, .int (x2 + 1))]) rfl ?_
          refine VF.goto C 62 dX0_copyFrom_95 rfl ?_
          exact ih (x2 + 1) f0 f1 f2 f3 f4 (upd f5 (ix x2) (f11 (ix x2)))
  have k24 : ∀ (n : Nat) (x2 : Int32) (f0 : Fn) (f1 : Fn) (f2 : Fn) (f3 : Fn) (f4 : Fn) (f5 : Fn), VF p l e { frames := 1, cells := 0, slots := 0, locals := 22 } s m ([.ref a0, .ref a6] : List Value).toArray below meth c 0 0 D A 3 (fun r => MQ below (QcX ((fun _ : Fn × Fn × Fn × Fn × Fn × Fn => (none : Option Value)) r) D ((fun y : Fn × Fn × Fn × Fn × Fn × Fn => [eC a0 a1 a2 a4 a5 y.1, eS a1 y.2.1, eW a2 a3 y.2.2.1, eA cI 16 a3 y.2.2.2.1, eA cI 256 a4 y.2.2.2.2.1, eA cZ 8 a5 y.2.2.2.2.2, eC a6 a7 a8 a10 a11 f6, eS a7 f7, eW a8 a9 f8, eA cI 16 a9 f9, eA cI 256 a10 f10, eA cZ 8 a11 f11]) r) A) ([.ref a0, .ref a6] : List Value).toArray s 0 0 A) (zX0_copyFrom_k24 n f0 f1 f2 f3 f4 f5 f6 f7 f8 f9 f10 f11 x2) [eC a0 a1 a2 a4 a5 f0, eS a1 f1, eW a2 a3 f2, eA cI 16 a3 f3, eA cI 256 a4 f4, eA cZ 8 a5 f5, eC a6 a7 a8 a10 a11 f6, eS a7 f7, eW a8 a9 f8, eA cI 16 a9 f9, eA cI 256 a10 f10, eA cZ 8 a11 f11] 24 [(0, .ref a0), (1, .ref a6), (2, .int x2)] [] := by
    intro n
    induction n with
    | zero =>
      intro x2 f0 f1 f2 f3 f4 f5
      exact VF.eq (zX0_copyFrom_k24.eq_1 _ _ _ _ _ _ _ _ _ _ _ _ _) VF.nn
    | succ n ih =>
      intro x2 f0 f1 f2 f3 f4 f5
      refine VF.eq (zX0_copyFrom_k24.eq_2 _ _ _ _ _ _ _ _ _ _ _ _ _ _) ?_
      refine VF.iload_n C 2 dX0_copyFrom_24 rfl ?_
      refine VF.aload_n C 0 dX0_copyFrom_25 rfl ?_
      refine VF.get C fl_X0_25 0 rfl rfl dX0_copyFrom_26 ?_
      refine VF.alen C 4 rfl kl_256 dX0_copyFrom_29 ?_
      refine VF.icmp_ge C 60 dX0_copyFrom_30 rfl (fun h1 => ?_) (fun h1 => ?_)
      · refine VF.iconst C dX0_copyFrom_60 kc_0 ?_
        refine VF.istore_n C [1, 2, 0] dX0_copyFrom_61 rfl (Nat.le_of_ble_eq_true rfl) (lv' := [(0, .ref a0), (1, .ref a6), (2, .int 0)]) rfl ?_
        exact k62 4096 0 f0 f1 f2 f3 f4 f5
      · refine VF.iload_n C 2 dX0_copyFrom_33 rfl ?_
        refine VF.aload_n C 1 dX0_copyFrom_34 rfl ?_
        refine VF.get C fl_X0_25 6 rfl rfl dX0_copyFrom_35 ?_
        refine VF.alen C 10 rfl kl_256 dX0_copyFrom_38 ?_
        refine VF.icmp_ge C 60 dX0_copyFrom_39 rfl (fun h2 => ?_) (fun h2 => ?_)
        · refine VF.iconst C dX0_copyFrom_60 kc_0 ?_
          refine VF.istore_n C [1, 2, 0] dX0_copyFrom_61 rfl (Nat.le_of_ble_eq_true rfl) (lv' := [(0, .ref a0), (1, .ref a6), (2, .int 0)]) rfl ?_
          exact k62 4096 0 f0 f1 f2 f3 f4 f5
        · refine VF.aload_n C 0 dX0_copyFrom_42 rfl ?_
          refine VF.get C fl_X0_25 0 rfl rfl dX0_copyFrom_43 ?_
          refine VF.iload_n C 2 dX0_copyFrom_46 rfl ?_
          refine VF.aload_n C 1 dX0_copyFrom_47 rfl ?_
          refine VF.get C fl_X0_25 6 rfl rfl dX0_copyFrom_48 ?_
          refine VF.iload_n C 2 dX0_copyFrom_51 rfl ?_
          refine VF.iald C 10 rfl dX0_copyFrom_52 ?_
          refine VF.iast C 4 rfl (ws' := [eC a0 a1 a2 a4 a5 f0, eS a1 f1, eW a2 a3 f2, eA cI 16 a3 f3, eA cI 256 a4 (upd f4 (ix x2) (f10 (ix x2))), eA cZ 8 a5 f5, eC a6 a7 a8 a10 a11 f6, eS a7 f7, eW a8 a9 f8, eA cI 16 a9 f9, eA cI 256 a10 f10, eA cZ 8 a11 f11]) rfl dX0_copyFrom_53 ?_
          refine VF.iinc C 2 [1, 2, 0] dX0_copyFrom_54 rfl (v := (x2 + 1)) rfl (Nat.le_of_ble_eq_true rfl) (lv' := [(0, .ref a0), (1, .ref a6), (2, .int (x2 + 1))]) rfl ?_
          refine VF.goto C 24 dX0_copyFrom_57 rfl ?_
          exact ih (x2 + 1) f0 f1 f2 f3 (upd f4 (ix x2) (f10 (ix x2))) f5
  refine VF.lve (lv' := [(0, .ref a0), (1, .ref a6)]) rfl ?_
  refine VF.eq (zX0_copyFrom.eq_1 f0 f1 f2 f3 f4 f5 f6 f7 f8 f9 f10 f11) ?_
  refine VF.aload_n C 0 dX0_copyFrom_0 rfl ?_
  refine VF.get C fl_X0_12 0 rfl rfl dX0_copyFrom_1 ?_
  refine VF.aload_n C 1 dX0_copyFrom_4 rfl ?_
  refine VF.get C fl_X0_12 6 rfl rfl dX0_copyFrom_5 ?_
  refine VF.callVv C (b := a1) (As := [.ref a7]) (rest := []) lk_X0_36 (mtX1_copyFrom l D cI cZ a1 a7 f1 f7) (fun _ => rfl) [none, some 0, none, none, none, none, none, some 1, none, none, none, none] ⟨rfl, rfl⟩ (ws' := fun y => [eC a0 a1 a2 a4 a5 f0, eS a1 y, eW a2 a3 f2, eA cI 16 a3 f3, eA cI 256 a4 f4, eA cZ 8 a5 f5, eC a6 a7 a8 a10 a11 f6, eS a7 f7, eW a8 a9 f8, eA cI 16 a9 f9, eA cI 256 a10 f10, eA cZ 8 a11 f11]) (fun _ => ⟨rfl, ⟨rfl, rfl, rfl⟩, rfl, rfl, rfl, rfl, rfl, ⟨rfl, rfl, rfl⟩, rfl, rfl, rfl, rfl, trivial⟩) (ci := 1) rfl rfl rfl rfl (Nat.le_of_ble_eq_true rfl) ⟨Nat.le_of_ble_eq_true rfl, Nat.le_of_ble_eq_true rfl⟩ dX0_copyFrom_8 ⟨Nat.le_refl 0, Nat.le_refl 0⟩ (fun y1 => ?_)
  refine VF.aload_n C 0 dX0_copyFrom_11 rfl ?_
  refine VF.get C fl_X0_21 0 rfl rfl dX0_copyFrom_12 ?_
  refine VF.aload_n C 1 dX0_copyFrom_15 rfl ?_
  refine VF.get C fl_X0_21 6 rfl rfl dX0_copyFrom_16 ?_
  refine VF.callVv C (b := a2) (As := [.ref a8]) (rest := []) lk_X0_85 (mtX3_copyFrom l D cI cZ a2 a3 a8 a9 f2 f3 f8 f9) (fun _ => rfl) [none, none, some 0, some 1, none, none, none, none, some 2, some 3, none, none] ⟨rfl, rfl⟩ (ws' := fun y => [eC a0 a1 a2 a4 a5 f0, eS a1 y1, eW a2 a3 y.1, eA cI 16 a3 y.2, eA cI 256 a4 f4, eA cZ 8 a5 f5, eC a6 a7 a8 a10 a11 f6, eS a7 f7, eW a8 a9 f8, eA cI 16 a9 f9, eA cI 256 a10 f10, eA cZ 8 a11 f11]) (fun _ => ⟨rfl, rfl, ⟨rfl, rfl, rfl⟩, ⟨rfl, rfl, rfl⟩, rfl, rfl, rfl, rfl, ⟨rfl, rfl, rfl⟩, ⟨rfl, rfl, rfl⟩, rfl, rfl, trivial⟩) (ci := 3) rfl rfl rfl rfl (Nat.le_of_ble_eq_true rfl) ⟨Nat.le_of_ble_eq_true rfl, Nat.le_of_ble_eq_true rfl⟩ dX0_copyFrom_19 ⟨Nat.le_refl 0, Nat.le_refl 0⟩ (fun y2 => ?_)
  refine VF.iconst C dX0_copyFrom_22 kc_0 ?_
  refine VF.istore_n C [1, 2, 0] dX0_copyFrom_23 rfl (Nat.le_of_ble_eq_true rfl) (lv' := [(0, .ref a0), (1, .ref a6), (2, .int 0)]) rfl ?_
  exact k24 4096 0 f0 y1 y2.1 y2.2 f4 f5
set_option maxHeartbeats 4000000 in
set_option maxRecDepth 100000 in
theorem mtX0_shape (l : Launch) (D : va_G) (cI cZ : ClassId) (a0 a1 a2 a3 a4 a5 : Nat) (f0 f1 f2 f3 f4 f5 : Fn) : Ctr l yX0_shape cX0_shape 1 (some (.object "FlashLanes$Shape")) 0 0 D cI cZ [.ref a0] [eC a0 a1 a2 a4 a5 f0, eS a1 f1, eW a2 a3 f2, eA cI 16 a3 f3, eA cI 256 a4 f4, eA cZ 8 a5 f5] (zX0_shape) (fun _ : Unit => some (Value.ref a1)) (fun _ : Unit => [eC a0 a1 a2 a4 a5 f0, eS a1 f1, eW a2 a3 f2, eA cI 16 a3 f3, eA cI 256 a4 f4, eA cZ 8 a5 f5]) := by
  refine Ctr.of (by decide) (Nat.le_of_ble_eq_true rfl) ?_
  intro p e s m below meth c A C
  have C : CX p s m ([.ref a0] : List Value).toArray meth c cX0_shape 1 RX0 D cI cZ A (some (.object "FlashLanes$Shape")) := C
  refine VF.lve (lv' := [(0, .ref a0)]) rfl ?_
  refine VF.eq (zX0_shape.eq_1) ?_
  refine VF.aload_n C 0 dX0_shape_0 rfl ?_
  refine VF.get C fl_X0_12 0 rfl rfl dX0_shape_1 ?_
  exact VF.aret C rfl rfl dX0_shape_4
set_option maxHeartbeats 4000000 in
set_option maxRecDepth 100000 in
theorem mtX0_all (l : Launch) (D : va_G) (cI cZ : ClassId) (a0 a1 a2 a3 a4 a5 : Nat) (f0 f1 f2 f3 f4 f5 : Fn) : Ctr l yX0_all cX0_all 1 (some .int) 1 20 D cI cZ [.ref a0] [eC a0 a1 a2 a4 a5 f0, eS a1 f1, eW a2 a3 f2, eA cI 16 a3 f3, eA cI 256 a4 f4, eA cZ 8 a5 f5] (zX0_all f1) (fun y : Int32 => some (Value.int y)) (fun _ : Int32 => [eC a0 a1 a2 a4 a5 f0, eS a1 f1, eW a2 a3 f2, eA cI 16 a3 f3, eA cI 256 a4 f4, eA cZ 8 a5 f5]) := by
  refine Ctr.of (by decide) (Nat.le_of_ble_eq_true rfl) ?_
  intro p e s m below meth c A C
  have C : CX p s m ([.ref a0] : List Value).toArray meth c cX0_all 1 RX0 D cI cZ A (some .int) := C
  refine VF.lve (lv' := [(0, .ref a0)]) rfl ?_
  refine VF.eq (zX0_all.eq_1 f1) ?_
  refine VF.aload_n C 0 dX0_all_0 rfl ?_
  refine VF.get C fl_X0_12 0 rfl rfl dX0_all_1 ?_
  refine VF.callVi C (b := a1) (As := []) (rest := []) lk_X0_88 (mtX1_all l D cI cZ a1 f1) (fun y => y) (fun _ => rfl) [none, some 0, none, none, none, none] ⟨rfl, rfl⟩ (ws' := fun y => [eC a0 a1 a2 a4 a5 f0, eS a1 f1, eW a2 a3 f2, eA cI 16 a3 f3, eA cI 256 a4 f4, eA cZ 8 a5 f5]) (fun _ => ⟨rfl, ⟨rfl, rfl, rfl⟩, rfl, rfl, rfl, rfl, trivial⟩) (ci := 1) rfl rfl rfl rfl (Nat.le_of_ble_eq_true rfl) ⟨Nat.le_of_ble_eq_true rfl, Nat.le_of_ble_eq_true rfl⟩ dX0_all_4 ⟨Nat.le_refl 0, Nat.le_refl 0⟩ (fun y1 => ?_)
  exact VF.iret C rfl rfl dX0_all_7
set_option maxHeartbeats 4000000 in
set_option maxRecDepth 100000 in
theorem mtX0_lanes (l : Launch) (D : va_G) (cI cZ : ClassId) (a0 a1 a2 a3 a4 a5 : Nat) (f0 f1 f2 f3 f4 f5 : Fn) : Ctr l yX0_lanes cX0_lanes 1 (some .int) 0 0 D cI cZ [.ref a0] [eC a0 a1 a2 a4 a5 f0, eS a1 f1, eW a2 a3 f2, eA cI 16 a3 f3, eA cI 256 a4 f4, eA cZ 8 a5 f5] (zX0_lanes f0) (fun y : Int32 => some (Value.int y)) (fun _ : Int32 => [eC a0 a1 a2 a4 a5 f0, eS a1 f1, eW a2 a3 f2, eA cI 16 a3 f3, eA cI 256 a4 f4, eA cZ 8 a5 f5]) := by
  refine Ctr.of (by decide) (Nat.le_of_ble_eq_true rfl) ?_
  intro p e s m below meth c A C
  have C : CX p s m ([.ref a0] : List Value).toArray meth c cX0_lanes 1 RX0 D cI cZ A (some .int) := C
  refine VF.lve (lv' := [(0, .ref a0)]) rfl ?_
  refine VF.eq (zX0_lanes.eq_1 f0) ?_
  refine VF.iconst C dX0_lanes_0 kc_1 ?_
  refine VF.aload_n C 0 dX0_lanes_1 rfl ?_
  refine VF.get C fl_X0_47 0 rfl rfl dX0_lanes_2 ?_
  refine VF.ishl C dX0_lanes_5 ?_
  exact VF.iret C rfl rfl dX0_lanes_6
set_option maxHeartbeats 4000000 in
set_option maxRecDepth 100000 in
theorem mtX0_clocks (l : Launch) (D : va_G) (cI cZ : ClassId) (a0 a1 a2 a3 a4 a5 : Nat) (f0 f1 f2 f3 f4 f5 : Fn) : Ctr l yX0_clocks cX0_clocks 1 (some .int) 0 0 D cI cZ [.ref a0] [eC a0 a1 a2 a4 a5 f0, eS a1 f1, eW a2 a3 f2, eA cI 16 a3 f3, eA cI 256 a4 f4, eA cZ 8 a5 f5] (zX0_clocks f0) (fun y : Int32 => some (Value.int y)) (fun _ : Int32 => [eC a0 a1 a2 a4 a5 f0, eS a1 f1, eW a2 a3 f2, eA cI 16 a3 f3, eA cI 256 a4 f4, eA cZ 8 a5 f5]) := by
  refine Ctr.of (by decide) (Nat.le_of_ble_eq_true rfl) ?_
  intro p e s m below meth c A C
  have C : CX p s m ([.ref a0] : List Value).toArray meth c cX0_clocks 1 RX0 D cI cZ A (some .int) := C
  refine VF.lve (lv' := [(0, .ref a0)]) rfl ?_
  refine VF.eq (zX0_clocks.eq_1 f0) ?_
  refine VF.aload_n C 0 dX0_clocks_0 rfl ?_
  refine VF.get C fl_X0_76 0 rfl rfl dX0_clocks_1 ?_
  exact VF.iret C rfl rfl dX0_clocks_4
set_option maxHeartbeats 4000000 in
set_option maxRecDepth 100000 in
theorem mtX0_begun (l : Launch) (D : va_G) (cI cZ : ClassId) (a0 a1 a2 a3 a4 a5 : Nat) (f0 f1 f2 f3 f4 f5 : Fn) : Ctr l yX0_begun cX0_begun 1 (some .int) 0 0 D cI cZ [.ref a0] [eC a0 a1 a2 a4 a5 f0, eS a1 f1, eW a2 a3 f2, eA cI 16 a3 f3, eA cI 256 a4 f4, eA cZ 8 a5 f5] (zX0_begun f0) (fun y : Int32 => some (Value.int y)) (fun _ : Int32 => [eC a0 a1 a2 a4 a5 f0, eS a1 f1, eW a2 a3 f2, eA cI 16 a3 f3, eA cI 256 a4 f4, eA cZ 8 a5 f5]) := by
  refine Ctr.of (by decide) (Nat.le_of_ble_eq_true rfl) ?_
  intro p e s m below meth c A C
  have C : CX p s m ([.ref a0] : List Value).toArray meth c cX0_begun 1 RX0 D cI cZ A (some .int) := C
  refine VF.lve (lv' := [(0, .ref a0)]) rfl ?_
  refine VF.eq (zX0_begun.eq_1 f0) ?_
  refine VF.aload_n C 0 dX0_begun_0 rfl ?_
  refine VF.get C fl_X0_79 0 rfl rfl dX0_begun_1 ?_
  exact VF.iret C rfl rfl dX0_begun_4
set_option maxHeartbeats 4000000 in
set_option maxRecDepth 100000 in
theorem mtX0_puts (l : Launch) (D : va_G) (cI cZ : ClassId) (a0 a1 a2 a3 a4 a5 : Nat) (f0 f1 f2 f3 f4 f5 : Fn) : Ctr l yX0_puts cX0_puts 1 (some .int) 1 20 D cI cZ [.ref a0] [eC a0 a1 a2 a4 a5 f0, eS a1 f1, eW a2 a3 f2, eA cI 16 a3 f3, eA cI 256 a4 f4, eA cZ 8 a5 f5] (zX0_puts f2) (fun y : Int32 => some (Value.int y)) (fun _ : Int32 => [eC a0 a1 a2 a4 a5 f0, eS a1 f1, eW a2 a3 f2, eA cI 16 a3 f3, eA cI 256 a4 f4, eA cZ 8 a5 f5]) := by
  refine Ctr.of (by decide) (Nat.le_of_ble_eq_true rfl) ?_
  intro p e s m below meth c A C
  have C : CX p s m ([.ref a0] : List Value).toArray meth c cX0_puts 1 RX0 D cI cZ A (some .int) := C
  refine VF.lve (lv' := [(0, .ref a0)]) rfl ?_
  refine VF.eq (zX0_puts.eq_1 f2) ?_
  refine VF.aload_n C 0 dX0_puts_0 rfl ?_
  refine VF.get C fl_X0_21 0 rfl rfl dX0_puts_1 ?_
  refine VF.callVi C (b := a2) (As := []) (rest := []) lk_X0_92 (mtX3_puts l D cI cZ a2 a3 f2 f3) (fun y => y) (fun _ => rfl) [none, none, some 0, some 1, none, none] ⟨rfl, rfl⟩ (ws' := fun y => [eC a0 a1 a2 a4 a5 f0, eS a1 f1, eW a2 a3 f2, eA cI 16 a3 f3, eA cI 256 a4 f4, eA cZ 8 a5 f5]) (fun _ => ⟨rfl, rfl, ⟨rfl, rfl, rfl⟩, ⟨rfl, rfl, rfl⟩, rfl, rfl, trivial⟩) (ci := 3) rfl rfl rfl rfl (Nat.le_of_ble_eq_true rfl) ⟨Nat.le_of_ble_eq_true rfl, Nat.le_of_ble_eq_true rfl⟩ dX0_puts_4 ⟨Nat.le_refl 0, Nat.le_refl 0⟩ (fun y1 => ?_)
  exact VF.iret C rfl rfl dX0_puts_7
set_option maxHeartbeats 4000000 in
set_option maxRecDepth 100000 in
theorem mtX0_isSelected (l : Launch) (D : va_G) (cI cZ : ClassId) (a0 a1 a2 a3 a4 a5 : Nat) (f0 f1 f2 f3 f4 f5 : Fn) : Ctr l yX0_isSelected cX0_isSelected 1 (some .boolean) 1 20 D cI cZ [.ref a0] [eC a0 a1 a2 a4 a5 f0, eS a1 f1, eW a2 a3 f2, eA cI 16 a3 f3, eA cI 256 a4 f4, eA cZ 8 a5 f5] (zX0_isSelected f2) (fun y : Int32 => some (Value.int y)) (fun _ : Int32 => [eC a0 a1 a2 a4 a5 f0, eS a1 f1, eW a2 a3 f2, eA cI 16 a3 f3, eA cI 256 a4 f4, eA cZ 8 a5 f5]) := by
  refine Ctr.of (by decide) (Nat.le_of_ble_eq_true rfl) ?_
  intro p e s m below meth c A C
  have C : CX p s m ([.ref a0] : List Value).toArray meth c cX0_isSelected 1 RX0 D cI cZ A (some .boolean) := C
  refine VF.lve (lv' := [(0, .ref a0)]) rfl ?_
  refine VF.eq (zX0_isSelected.eq_1 f2) ?_
  refine VF.aload_n C 0 dX0_isSelected_0 rfl ?_
  refine VF.get C fl_X0_21 0 rfl rfl dX0_isSelected_1 ?_
  refine VF.callVi C (b := a2) (As := []) (rest := []) lk_X0_95 (mtX3_isSelected l D cI cZ a2 a3 f2 f3) (fun y => y) (fun _ => rfl) [none, none, some 0, some 1, none, none] ⟨rfl, rfl⟩ (ws' := fun y => [eC a0 a1 a2 a4 a5 f0, eS a1 f1, eW a2 a3 f2, eA cI 16 a3 f3, eA cI 256 a4 f4, eA cZ 8 a5 f5]) (fun _ => ⟨rfl, rfl, ⟨rfl, rfl, rfl⟩, ⟨rfl, rfl, rfl⟩, rfl, rfl, trivial⟩) (ci := 3) rfl rfl rfl rfl (Nat.le_of_ble_eq_true rfl) ⟨Nat.le_of_ble_eq_true rfl, Nat.le_of_ble_eq_true rfl⟩ dX0_isSelected_4 ⟨Nat.le_refl 0, Nat.le_refl 0⟩ (fun y1 => ?_)
  exact VF.zret C rfl rfl dX0_isSelected_7
set_option maxHeartbeats 4000000 in
set_option maxRecDepth 100000 in
theorem mtX0_isBusy (l : Launch) (D : va_G) (cI cZ : ClassId) (a0 a1 a2 a3 a4 a5 : Nat) (f0 f1 f2 f3 f4 f5 : Fn) : Ctr l yX0_isBusy cX0_isBusy 1 (some .boolean) 0 0 D cI cZ [.ref a0] [eC a0 a1 a2 a4 a5 f0, eS a1 f1, eW a2 a3 f2, eA cI 16 a3 f3, eA cI 256 a4 f4, eA cZ 8 a5 f5] (zX0_isBusy f0) (fun y : Int32 => some (Value.int y)) (fun _ : Int32 => [eC a0 a1 a2 a4 a5 f0, eS a1 f1, eW a2 a3 f2, eA cI 16 a3 f3, eA cI 256 a4 f4, eA cZ 8 a5 f5]) := by
  refine Ctr.of (by decide) (Nat.le_of_ble_eq_true rfl) ?_
  intro p e s m below meth c A C
  have C : CX p s m ([.ref a0] : List Value).toArray meth c cX0_isBusy 1 RX0 D cI cZ A (some .boolean) := C
  refine VF.lve (lv' := [(0, .ref a0)]) rfl ?_
  refine VF.eq (zX0_isBusy.eq_1 f0) ?_
  refine VF.aload_n C 0 dX0_isBusy_0 rfl ?_
  refine VF.get C fl_X0_61 0 rfl rfl dX0_isBusy_1 ?_
  refine VF.iconst C dX0_isBusy_4 kc_m1 ?_
  refine VF.icmp_eq C 12 dX0_isBusy_5 rfl (fun h1 => ?_) (fun h1 => ?_)
  · refine VF.iconst C dX0_isBusy_12 kc_0 ?_
    exact VF.zretK C (Or.inl rfl) rfl rfl dX0_isBusy_13
  · refine VF.iconst C dX0_isBusy_8 kc_1 ?_
    refine VF.goto C 13 dX0_isBusy_9 rfl ?_
    exact VF.zretK C (Or.inr rfl) rfl rfl dX0_isBusy_13
set_option maxHeartbeats 4000000 in
set_option maxRecDepth 100000 in
theorem mtX0_isSuspended (l : Launch) (D : va_G) (cI cZ : ClassId) (a0 a1 a2 a3 a4 a5 : Nat) (f0 f1 f2 f3 f4 f5 : Fn) : Ctr l yX0_isSuspended cX0_isSuspended 1 (some .boolean) 0 0 D cI cZ [.ref a0] [eC a0 a1 a2 a4 a5 f0, eS a1 f1, eW a2 a3 f2, eA cI 16 a3 f3, eA cI 256 a4 f4, eA cZ 8 a5 f5] (zX0_isSuspended f0) (fun y : Int32 => some (Value.int y)) (fun _ : Int32 => [eC a0 a1 a2 a4 a5 f0, eS a1 f1, eW a2 a3 f2, eA cI 16 a3 f3, eA cI 256 a4 f4, eA cZ 8 a5 f5]) := by
  refine Ctr.of (by decide) (Nat.le_of_ble_eq_true rfl) ?_
  intro p e s m below meth c A C
  have C : CX p s m ([.ref a0] : List Value).toArray meth c cX0_isSuspended 1 RX0 D cI cZ A (some .boolean) := C
  refine VF.lve (lv' := [(0, .ref a0)]) rfl ?_
  refine VF.eq (zX0_isSuspended.eq_1 f0) ?_
  refine VF.aload_n C 0 dX0_isSuspended_0 rfl ?_
  refine VF.get C fl_X0_70 0 rfl rfl dX0_isSuspended_1 ?_
  refine VF.iconst C dX0_isSuspended_4 kc_m1 ?_
  refine VF.icmp_eq C 12 dX0_isSuspended_5 rfl (fun h1 => ?_) (fun h1 => ?_)
  · refine VF.iconst C dX0_isSuspended_12 kc_0 ?_
    exact VF.zretK C (Or.inl rfl) rfl rfl dX0_isSuspended_13
  · refine VF.iconst C dX0_isSuspended_8 kc_1 ?_
    refine VF.goto C 13 dX0_isSuspended_9 rfl ?_
    exact VF.zretK C (Or.inr rfl) rfl rfl dX0_isSuspended_13
set_option maxHeartbeats 4000000 in
set_option maxRecDepth 100000 in
theorem mtX0_ticksLeft (l : Launch) (D : va_G) (cI cZ : ClassId) (a0 a1 a2 a3 a4 a5 : Nat) (f0 f1 f2 f3 f4 f5 : Fn) : Ctr l yX0_ticksLeft cX0_ticksLeft 1 (some .int) 1 20 D cI cZ [.ref a0] [eC a0 a1 a2 a4 a5 f0, eS a1 f1, eW a2 a3 f2, eA cI 16 a3 f3, eA cI 256 a4 f4, eA cZ 8 a5 f5] (zX0_ticksLeft f0) (fun y : Int32 => some (Value.int y)) (fun _ : Int32 => [eC a0 a1 a2 a4 a5 f0, eS a1 f1, eW a2 a3 f2, eA cI 16 a3 f3, eA cI 256 a4 f4, eA cZ 8 a5 f5]) := by
  refine Ctr.of (by decide) (Nat.le_of_ble_eq_true rfl) ?_
  intro p e s m below meth c A C
  have C : CX p s m ([.ref a0] : List Value).toArray meth c cX0_ticksLeft 1 RX0 D cI cZ A (some .int) := C
  refine VF.lve (lv' := [(0, .ref a0)]) rfl ?_
  refine VF.eq (zX0_ticksLeft.eq_1 f0) ?_
  refine VF.aload_n C 0 dX0_ticksLeft_0 rfl ?_
  refine VF.callVi C (b := a0) (As := []) (rest := []) lk_X0_99 (mtX0_isBusy l D cI cZ a0 a1 a2 a3 a4 a5 f0 f1 f2 f3 f4 f5) (fun y => y) (fun _ => rfl) [some 0, some 1, some 2, some 3, some 4, some 5] ⟨rfl, rfl⟩ (ws' := fun y => [eC a0 a1 a2 a4 a5 f0, eS a1 f1, eW a2 a3 f2, eA cI 16 a3 f3, eA cI 256 a4 f4, eA cZ 8 a5 f5]) (fun _ => ⟨⟨rfl, rfl, rfl⟩, ⟨rfl, rfl, rfl⟩, ⟨rfl, rfl, rfl⟩, ⟨rfl, rfl, rfl⟩, ⟨rfl, rfl, rfl⟩, ⟨rfl, rfl, rfl⟩, trivial⟩) (ci := 0) rfl rfl rfl rfl (Nat.le_of_ble_eq_true rfl) ⟨Nat.le_of_ble_eq_true rfl, Nat.le_of_ble_eq_true rfl⟩ dX0_ticksLeft_1 ⟨Nat.le_refl 0, Nat.le_refl 0⟩ (fun y1 => ?_)
  refine VF.if_eq C 14 dX0_ticksLeft_4 rfl (fun h1 => ?_) (fun h1 => ?_)
  · refine VF.aload_n C 0 dX0_ticksLeft_14 rfl ?_
    refine VF.get C fl_X0_73 0 rfl rfl dX0_ticksLeft_15 ?_
    exact VF.iret C rfl rfl dX0_ticksLeft_18
  · refine VF.aload_n C 0 dX0_ticksLeft_7 rfl ?_
    refine VF.get C fl_X0_67 0 rfl rfl dX0_ticksLeft_8 ?_
    refine VF.goto C 18 dX0_ticksLeft_11 rfl ?_
    exact VF.iret C rfl rfl dX0_ticksLeft_18
set_option maxHeartbeats 4000000 in
set_option maxRecDepth 100000 in
theorem mtX0_status (l : Launch) (D : va_G) (cI cZ : ClassId) (a0 a1 a2 a3 a4 a5 : Nat) (f0 f1 f2 f3 f4 f5 : Fn) : Ctr l yX0_status cX0_status 2 (some .int) 1 20 D cI cZ [.ref a0] [eC a0 a1 a2 a4 a5 f0, eS a1 f1, eW a2 a3 f2, eA cI 16 a3 f3, eA cI 256 a4 f4, eA cZ 8 a5 f5] (zX0_status f0) (fun y : Int32 => some (Value.int y)) (fun _ : Int32 => [eC a0 a1 a2 a4 a5 f0, eS a1 f1, eW a2 a3 f2, eA cI 16 a3 f3, eA cI 256 a4 f4, eA cZ 8 a5 f5]) := by
  refine Ctr.of (by decide) (Nat.le_of_ble_eq_true rfl) ?_
  intro p e s m below meth c A C
  have C : CX p s m ([.ref a0] : List Value).toArray meth c cX0_status 2 RX0 D cI cZ A (some .int) := C
  have k37 : ∀ (x1 : Int32), VF p l e { frames := 1, cells := 0, slots := 0, locals := 20 } s m ([.ref a0] : List Value).toArray below meth c 0 0 D A 2 (fun r => MQ below (QcX ((fun y : Int32 => some (Value.int y)) r) D ((fun _ : Int32 => [eC a0 a1 a2 a4 a5 f0, eS a1 f1, eW a2 a3 f2, eA cI 16 a3 f3, eA cI 256 a4 f4, eA cZ 8 a5 f5]) r) A) ([.ref a0] : List Value).toArray s 0 0 A) (zX0_status_k37 f0 x1) [eC a0 a1 a2 a4 a5 f0, eS a1 f1, eW a2 a3 f2, eA cI 16 a3 f3, eA cI 256 a4 f4, eA cZ 8 a5 f5] 37 [(0, .ref a0), (1, .int x1)] [] := by
    intro x1
    refine VF.eq (zX0_status_k37.eq_1 f0 x1) ?_
    refine VF.aload_n C 0 dX0_status_37 rfl ?_
    refine VF.get C fl_X0_58 0 rfl rfl dX0_status_38 ?_
    refine VF.if_eq C 50 dX0_status_41 rfl (fun h4 => ?_) (fun h4 => ?_)
    · refine VF.iload_n C 1 dX0_status_50 rfl ?_
      exact VF.iret C rfl rfl dX0_status_51
    · refine VF.iincW C 1 [1, 0] dX0_status_44 rfl (v := (x1 + 128)) rfl (Nat.le_of_ble_eq_true rfl) (lv' := [(0, .ref a0), (1, .int (x1 + 128))]) rfl ?_
      refine VF.iload_n C 1 dX0_status_50 rfl ?_
      exact VF.iret C rfl rfl dX0_status_51
  have k27 : ∀ (x1 : Int32), VF p l e { frames := 1, cells := 0, slots := 0, locals := 20 } s m ([.ref a0] : List Value).toArray below meth c 0 0 D A 2 (fun r => MQ below (QcX ((fun y : Int32 => some (Value.int y)) r) D ((fun _ : Int32 => [eC a0 a1 a2 a4 a5 f0, eS a1 f1, eW a2 a3 f2, eA cI 16 a3 f3, eA cI 256 a4 f4, eA cZ 8 a5 f5]) r) A) ([.ref a0] : List Value).toArray s 0 0 A) (zX0_status_k27 f0 x1) [eC a0 a1 a2 a4 a5 f0, eS a1 f1, eW a2 a3 f2, eA cI 16 a3 f3, eA cI 256 a4 f4, eA cZ 8 a5 f5] 27 [(0, .ref a0), (1, .int x1)] [] := by
    intro x1
    refine VF.eq (zX0_status_k27.eq_1 f0 x1) ?_
    refine VF.aload_n C 0 dX0_status_27 rfl ?_
    refine VF.callVi C (b := a0) (As := []) (rest := []) lk_X0_102 (mtX0_isSuspended l D cI cZ a0 a1 a2 a3 a4 a5 f0 f1 f2 f3 f4 f5) (fun y => y) (fun _ => rfl) [some 0, some 1, some 2, some 3, some 4, some 5] ⟨rfl, rfl⟩ (ws' := fun y => [eC a0 a1 a2 a4 a5 f0, eS a1 f1, eW a2 a3 f2, eA cI 16 a3 f3, eA cI 256 a4 f4, eA cZ 8 a5 f5]) (fun _ => ⟨⟨rfl, rfl, rfl⟩, ⟨rfl, rfl, rfl⟩, ⟨rfl, rfl, rfl⟩, ⟨rfl, rfl, rfl⟩, ⟨rfl, rfl, rfl⟩, ⟨rfl, rfl, rfl⟩, trivial⟩) (ci := 0) rfl rfl rfl rfl (Nat.le_of_ble_eq_true rfl) ⟨Nat.le_of_ble_eq_true rfl, Nat.le_of_ble_eq_true rfl⟩ dX0_status_28 ⟨Nat.le_refl 0, Nat.le_refl 0⟩ (fun y2 => ?_)
    refine VF.if_eq C 37 dX0_status_31 rfl (fun h3 => ?_) (fun h3 => ?_)
    · exact k37 x1
    · refine VF.iinc C 1 [1, 0] dX0_status_34 rfl (v := (x1 + 64)) rfl (Nat.le_of_ble_eq_true rfl) (lv' := [(0, .ref a0), (1, .int (x1 + 64))]) rfl ?_
      exact k37 (x1 + 64)
  have k17 : ∀ (x1 : Int32), VF p l e { frames := 1, cells := 0, slots := 0, locals := 20 } s m ([.ref a0] : List Value).toArray below meth c 0 0 D A 2 (fun r => MQ below (QcX ((fun y : Int32 => some (Value.int y)) r) D ((fun _ : Int32 => [eC a0 a1 a2 a4 a5 f0, eS a1 f1, eW a2 a3 f2, eA cI 16 a3 f3, eA cI 256 a4 f4, eA cZ 8 a5 f5]) r) A) ([.ref a0] : List Value).toArray s 0 0 A) (zX0_status_k17 f0 x1) [eC a0 a1 a2 a4 a5 f0, eS a1 f1, eW a2 a3 f2, eA cI 16 a3 f3, eA cI 256 a4 f4, eA cZ 8 a5 f5] 17 [(0, .ref a0), (1, .int x1)] [] := by
    intro x1
    refine VF.eq (zX0_status_k17.eq_1 f0 x1) ?_
    refine VF.aload_n C 0 dX0_status_17 rfl ?_
    refine VF.get C fl_X0_54 0 rfl rfl dX0_status_18 ?_
    refine VF.if_eq C 27 dX0_status_21 rfl (fun h2 => ?_) (fun h2 => ?_)
    · exact k27 x1
    · refine VF.iinc C 1 [1, 0] dX0_status_24 rfl (v := (x1 + 2)) rfl (Nat.le_of_ble_eq_true rfl) (lv' := [(0, .ref a0), (1, .int (x1 + 2))]) rfl ?_
      exact k27 (x1 + 2)
  refine VF.lve (lv' := [(0, .ref a0)]) rfl ?_
  refine VF.eq (zX0_status.eq_1 f0) ?_
  refine VF.iconst C dX0_status_0 kc_4 ?_
  refine VF.aload_n C 0 dX0_status_1 rfl ?_
  refine VF.get C fl_X0_51 0 rfl rfl dX0_status_2 ?_
  refine VF.imul C dX0_status_5 ?_
  refine VF.istore_n C [1, 0] dX0_status_6 rfl (Nat.le_of_ble_eq_true rfl) (lv' := [(0, .ref a0), (1, .int (4 * (f0 5)))]) rfl ?_
  refine VF.aload_n C 0 dX0_status_7 rfl ?_
  refine VF.callVi C (b := a0) (As := []) (rest := []) lk_X0_99 (mtX0_isBusy l D cI cZ a0 a1 a2 a3 a4 a5 f0 f1 f2 f3 f4 f5) (fun y => y) (fun _ => rfl) [some 0, some 1, some 2, some 3, some 4, some 5] ⟨rfl, rfl⟩ (ws' := fun y => [eC a0 a1 a2 a4 a5 f0, eS a1 f1, eW a2 a3 f2, eA cI 16 a3 f3, eA cI 256 a4 f4, eA cZ 8 a5 f5]) (fun _ => ⟨⟨rfl, rfl, rfl⟩, ⟨rfl, rfl, rfl⟩, ⟨rfl, rfl, rfl⟩, ⟨rfl, rfl, rfl⟩, ⟨rfl, rfl, rfl⟩, ⟨rfl, rfl, rfl⟩, trivial⟩) (ci := 0) rfl rfl rfl rfl (Nat.le_of_ble_eq_true rfl) ⟨Nat.le_of_ble_eq_true rfl, Nat.le_of_ble_eq_true rfl⟩ dX0_status_8 ⟨Nat.le_refl 0, Nat.le_refl 0⟩ (fun y1 => ?_)
  refine VF.if_eq C 17 dX0_status_11 rfl (fun h1 => ?_) (fun h1 => ?_)
  · exact k17 (4 * (f0 5))
  · refine VF.iinc C 1 [1, 0] dX0_status_14 rfl (v := ((4 * (f0 5)) + 1)) rfl (Nat.le_of_ble_eq_true rfl) (lv' := [(0, .ref a0), (1, .int ((4 * (f0 5)) + 1))]) rfl ?_
    exact k17 ((4 * (f0 5)) + 1)
set_option maxHeartbeats 4000000 in
set_option maxRecDepth 100000 in
theorem mtX0_byteAt (l : Launch) (D : va_G) (cI cZ : ClassId) (a0 a1 a2 a3 a4 a5 : Nat) (f0 f1 f2 f3 f4 f5 : Fn) (u1 : Int32) : Ctr l yX0_byteAt cX0_byteAt 2 (some .int) 0 0 D cI cZ [.ref a0, .int u1] [eC a0 a1 a2 a4 a5 f0, eS a1 f1, eW a2 a3 f2, eA cI 16 a3 f3, eA cI 256 a4 f4, eA cZ 8 a5 f5] (zX0_byteAt f4 u1) (fun y : Int32 => some (Value.int y)) (fun _ : Int32 => [eC a0 a1 a2 a4 a5 f0, eS a1 f1, eW a2 a3 f2, eA cI 16 a3 f3, eA cI 256 a4 f4, eA cZ 8 a5 f5]) := by
  refine Ctr.of (by decide) (Nat.le_of_ble_eq_true rfl) ?_
  intro p e s m below meth c A C
  have C : CX p s m ([.ref a0, .int u1] : List Value).toArray meth c cX0_byteAt 2 RX0 D cI cZ A (some .int) := C
  refine VF.lve (lv' := [(0, .ref a0), (1, .int u1)]) rfl ?_
  refine VF.eq (zX0_byteAt.eq_1 f4 u1) ?_
  refine VF.iload_n C 1 dX0_byteAt_0 rfl ?_
  refine VF.if_lt C 22 dX0_byteAt_1 rfl (fun h1 => ?_) (fun h1 => ?_)
  · refine VF.sipush C dX0_byteAt_22 ks_255 ?_
    exact VF.iret C rfl rfl dX0_byteAt_25
  · refine VF.iload_n C 1 dX0_byteAt_4 rfl ?_
    refine VF.aload_n C 0 dX0_byteAt_5 rfl ?_
    refine VF.get C fl_X0_25 0 rfl rfl dX0_byteAt_6 ?_
    refine VF.alen C 4 rfl kl_256 dX0_byteAt_9 ?_
    refine VF.icmp_ge C 22 dX0_byteAt_10 rfl (fun h2 => ?_) (fun h2 => ?_)
    · refine VF.sipush C dX0_byteAt_22 ks_255 ?_
      exact VF.iret C rfl rfl dX0_byteAt_25
    · refine VF.aload_n C 0 dX0_byteAt_13 rfl ?_
      refine VF.get C fl_X0_25 0 rfl rfl dX0_byteAt_14 ?_
      refine VF.iload_n C 1 dX0_byteAt_17 rfl ?_
      refine VF.iald C 4 rfl dX0_byteAt_18 ?_
      refine VF.goto C 25 dX0_byteAt_19 rfl ?_
      exact VF.iret C rfl rfl dX0_byteAt_25
set_option maxHeartbeats 4000000 in
set_option maxRecDepth 100000 in
theorem mtX0_blanksIn (l : Launch) (D : va_G) (cI cZ : ClassId) (a0 a1 a2 a3 a4 a5 : Nat) (f0 f1 f2 f3 f4 f5 : Fn) (u1 : Int32) : Ctr l yX0_blanksIn cX0_blanksIn 5 (some .int) 1 21 D cI cZ [.ref a0, .int u1] [eC a0 a1 a2 a4 a5 f0, eS a1 f1, eW a2 a3 f2, eA cI 16 a3 f3, eA cI 256 a4 f4, eA cZ 8 a5 f5] (zX0_blanksIn f1 f4 u1) (fun y : Int32 => some (Value.int y)) (fun _ : Int32 => [eC a0 a1 a2 a4 a5 f0, eS a1 f1, eW a2 a3 f2, eA cI 16 a3 f3, eA cI 256 a4 f4, eA cZ 8 a5 f5]) := by
  refine Ctr.of (by decide) (Nat.le_of_ble_eq_true rfl) ?_
  intro p e s m below meth c A C
  have C : CX p s m ([.ref a0, .int u1] : List Value).toArray meth c cX0_blanksIn 5 RX0 D cI cZ A (some .int) := C
  have k15 : ∀ (n : Nat) (x2 : Int32) (x3 : Int32) (x4 : Int32), VF p l e { frames := 1, cells := 0, slots := 0, locals := 21 } s m ([.ref a0, .int u1] : List Value).toArray below meth c 0 0 D A 5 (fun r => MQ below (QcX ((fun y : Int32 => some (Value.int y)) r) D ((fun _ : Int32 => [eC a0 a1 a2 a4 a5 f0, eS a1 f1, eW a2 a3 f2, eA cI 16 a3 f3, eA cI 256 a4 f4, eA cZ 8 a5 f5]) r) A) ([.ref a0, .int u1] : List Value).toArray s 0 0 A) (zX0_blanksIn_k15 n f1 f4 x2 x3 x4) [eC a0 a1 a2 a4 a5 f0, eS a1 f1, eW a2 a3 f2, eA cI 16 a3 f3, eA cI 256 a4 f4, eA cZ 8 a5 f5] 15 [(0, .ref a0), (2, .int x2), (3, .int x3), (4, .int x4)] [] := by
    intro n
    induction n with
    | zero =>
      intro x2 x3 x4
      exact VF.eq (zX0_blanksIn_k15.eq_1 _ _ _ _ _) VF.nn
    | succ n ih =>
      intro x2 x3 x4
      refine VF.eq (zX0_blanksIn_k15.eq_2 _ _ _ _ _ _) ?_
      refine VF.iload C 3 dX0_blanksIn_15 rfl ?_
      refine VF.aload_n C 0 dX0_blanksIn_17 rfl ?_
      refine VF.get C fl_X0_12 0 rfl rfl dX0_blanksIn_18 ?_
      refine VF.callVi C (b := a1) (As := []) (rest := [.int x4]) lk_X0_105 (mtX1_sectorBytes l D cI cZ a1 f1) (fun y => y) (fun _ => rfl) [none, some 0, none, none, none, none] ⟨rfl, rfl⟩ (ws' := fun y => [eC a0 a1 a2 a4 a5 f0, eS a1 f1, eW a2 a3 f2, eA cI 16 a3 f3, eA cI 256 a4 f4, eA cZ 8 a5 f5]) (fun _ => ⟨rfl, ⟨rfl, rfl, rfl⟩, rfl, rfl, rfl, rfl, trivial⟩) (ci := 1) rfl rfl rfl rfl (Nat.le_of_ble_eq_true rfl) ⟨Nat.le_of_ble_eq_true rfl, Nat.le_of_ble_eq_true rfl⟩ dX0_blanksIn_21 ⟨Nat.le_refl 0, Nat.le_refl 0⟩ (fun y2 => ?_)
      refine VF.icmp_ge C 50 dX0_blanksIn_24 rfl (fun h1 => ?_) (fun h1 => ?_)
      · refine VF.iload_n C 1 dX0_blanksIn_50 rfl ?_
        exact VF.iret C rfl rfl dX0_blanksIn_51
      · refine VF.aload_n C 0 dX0_blanksIn_27 rfl ?_
        refine VF.iload_n C 2 dX0_blanksIn_28 rfl ?_
        refine VF.iload C 3 dX0_blanksIn_29 rfl ?_
        refine VF.iadd C dX0_blanksIn_31 ?_
        refine VF.callVi C (b := a0) (As := [.int (x3 + x4)]) (rest := []) lk_X0_108 (mtX0_byteAt l D cI cZ a0 a1 a2 a3 a4 a5 f0 f1 f2 f3 f4 f5 (x3 + x4)) (fun y => y) (fun _ => rfl) [some 0, some 1, some 2, some 3, some 4, some 5] ⟨rfl, rfl⟩ (ws' := fun y => [eC a0 a1 a2 a4 a5 f0, eS a1 f1, eW a2 a3 f2, eA cI 16 a3 f3, eA cI 256 a4 f4, eA cZ 8 a5 f5]) (fun _ => ⟨⟨rfl, rfl, rfl⟩, ⟨rfl, rfl, rfl⟩, ⟨rfl, rfl, rfl⟩, ⟨rfl, rfl, rfl⟩, ⟨rfl, rfl, rfl⟩, ⟨rfl, rfl, rfl⟩, trivial⟩) (ci := 0) rfl rfl rfl rfl (Nat.le_of_ble_eq_true rfl) ⟨Nat.le_of_ble_eq_true rfl, Nat.le_of_ble_eq_true rfl⟩ dX0_blanksIn_32 ⟨Nat.le_refl 0, Nat.le_refl 0⟩ (fun y3 => ?_)
        refine VF.sipush C dX0_blanksIn_35 ks_255 ?_
        refine VF.icmp_ne C 44 dX0_blanksIn_38 rfl (fun h2 => ?_) (fun h2 => ?_)
        · refine VF.iinc C 3 [1, 2, 3, 0] dX0_blanksIn_44 rfl (v := (x4 + 1)) rfl (Nat.le_of_ble_eq_true rfl) (lv' := [(0, .ref a0), (2, .int x2), (3, .int x3), (4, .int (x4 + 1))]) rfl ?_
          refine VF.goto C 15 dX0_blanksIn_47 rfl ?_
          exact ih x2 x3 (x4 + 1)
        · refine VF.iinc C 1 [1, 0, 2, 3] dX0_blanksIn_41 rfl (v := (x2 + 1)) rfl (Nat.le_of_ble_eq_true rfl) (lv' := [(0, .ref a0), (2, .int (x2 + 1)), (3, .int x3), (4, .int x4)]) rfl ?_
          refine VF.iinc C 3 [1, 2, 3, 0] dX0_blanksIn_44 rfl (v := (x4 + 1)) rfl (Nat.le_of_ble_eq_true rfl) (lv' := [(0, .ref a0), (2, .int (x2 + 1)), (3, .int x3), (4, .int (x4 + 1))]) rfl ?_
          refine VF.goto C 15 dX0_blanksIn_47 rfl ?_
          exact ih (x2 + 1) x3 (x4 + 1)
  refine VF.lve (lv' := [(0, .ref a0), (1, .int u1)]) rfl ?_
  refine VF.eq (zX0_blanksIn.eq_1 f1 f4 u1) ?_
  refine VF.iconst C dX0_blanksIn_0 kc_0 ?_
  refine VF.istore_n C [1, 2, 0] dX0_blanksIn_1 rfl (Nat.le_of_ble_eq_true rfl) (lv' := [(0, .ref a0), (1, .int u1), (2, .int 0)]) rfl ?_
  refine VF.iload_n C 1 dX0_blanksIn_2 rfl ?_
  refine VF.aload_n C 0 dX0_blanksIn_3 rfl ?_
  refine VF.get C fl_X0_12 0 rfl rfl dX0_blanksIn_4 ?_
  refine VF.callVi C (b := a1) (As := []) (rest := [.int u1]) lk_X0_105 (mtX1_sectorBytes l D cI cZ a1 f1) (fun y => y) (fun _ => rfl) [none, some 0, none, none, none, none] ⟨rfl, rfl⟩ (ws' := fun y => [eC a0 a1 a2 a4 a5 f0, eS a1 f1, eW a2 a3 f2, eA cI 16 a3 f3, eA cI 256 a4 f4, eA cZ 8 a5 f5]) (fun _ => ⟨rfl, ⟨rfl, rfl, rfl⟩, rfl, rfl, rfl, rfl, trivial⟩) (ci := 1) rfl rfl rfl rfl (Nat.le_of_ble_eq_true rfl) ⟨Nat.le_of_ble_eq_true rfl, Nat.le_of_ble_eq_true rfl⟩ dX0_blanksIn_7 ⟨Nat.le_refl 0, Nat.le_refl 0⟩ (fun y1 => ?_)
  refine VF.imul C dX0_blanksIn_10 ?_
  refine VF.istore_n C [1, 2, 3, 0] dX0_blanksIn_11 rfl (Nat.le_of_ble_eq_true rfl) (lv' := [(0, .ref a0), (1, .int u1), (2, .int 0), (3, .int (u1 * y1))]) rfl ?_
  refine VF.iconst C dX0_blanksIn_12 kc_0 ?_
  refine VF.istore C [1, 2, 3, 4, 0] dX0_blanksIn_13 (Nat.le_of_ble_eq_true rfl) (lv' := [(0, .ref a0), (1, .int u1), (2, .int 0), (3, .int (u1 * y1)), (4, .int 0)]) rfl ?_
  exact VF.lvs [0, 2, 3, 4] rfl (k15 4096 0 (u1 * y1) 0)
set_option maxHeartbeats 4000000 in
set_option maxRecDepth 100000 in
theorem mtX0_sumOf (l : Launch) (D : va_G) (cI cZ : ClassId) (a0 a1 a2 a3 a4 a5 : Nat) (f0 f1 f2 f3 f4 f5 : Fn) (u1 : Int32) : Ctr l yX0_sumOf cX0_sumOf 5 (some .int) 1 21 D cI cZ [.ref a0, .int u1] [eC a0 a1 a2 a4 a5 f0, eS a1 f1, eW a2 a3 f2, eA cI 16 a3 f3, eA cI 256 a4 f4, eA cZ 8 a5 f5] (zX0_sumOf f1 f4 u1) (fun y : Int32 => some (Value.int y)) (fun _ : Int32 => [eC a0 a1 a2 a4 a5 f0, eS a1 f1, eW a2 a3 f2, eA cI 16 a3 f3, eA cI 256 a4 f4, eA cZ 8 a5 f5]) := by
  refine Ctr.of (by decide) (Nat.le_of_ble_eq_true rfl) ?_
  intro p e s m below meth c A C
  have C : CX p s m ([.ref a0, .int u1] : List Value).toArray meth c cX0_sumOf 5 RX0 D cI cZ A (some .int) := C
  have k15 : ∀ (n : Nat) (x2 : Int32) (x3 : Int32) (x4 : Int32), VF p l e { frames := 1, cells := 0, slots := 0, locals := 21 } s m ([.ref a0, .int u1] : List Value).toArray below meth c 0 0 D A 5 (fun r => MQ below (QcX ((fun y : Int32 => some (Value.int y)) r) D ((fun _ : Int32 => [eC a0 a1 a2 a4 a5 f0, eS a1 f1, eW a2 a3 f2, eA cI 16 a3 f3, eA cI 256 a4 f4, eA cZ 8 a5 f5]) r) A) ([.ref a0, .int u1] : List Value).toArray s 0 0 A) (zX0_sumOf_k15 n f1 f4 x2 x3 x4) [eC a0 a1 a2 a4 a5 f0, eS a1 f1, eW a2 a3 f2, eA cI 16 a3 f3, eA cI 256 a4 f4, eA cZ 8 a5 f5] 15 [(0, .ref a0), (2, .int x2), (3, .int x3), (4, .int x4)] [] := by
    intro n
    induction n with
    | zero =>
      intro x2 x3 x4
      exact VF.eq (zX0_sumOf_k15.eq_1 _ _ _ _ _) VF.nn
    | succ n ih =>
      intro x2 x3 x4
      refine VF.eq (zX0_sumOf_k15.eq_2 _ _ _ _ _ _) ?_
      refine VF.iload C 3 dX0_sumOf_15 rfl ?_
      refine VF.aload_n C 0 dX0_sumOf_17 rfl ?_
      refine VF.get C fl_X0_12 0 rfl rfl dX0_sumOf_18 ?_
      refine VF.callVi C (b := a1) (As := []) (rest := [.int x4]) lk_X0_105 (mtX1_sectorBytes l D cI cZ a1 f1) (fun y => y) (fun _ => rfl) [none, some 0, none, none, none, none] ⟨rfl, rfl⟩ (ws' := fun y => [eC a0 a1 a2 a4 a5 f0, eS a1 f1, eW a2 a3 f2, eA cI 16 a3 f3, eA cI 256 a4 f4, eA cZ 8 a5 f5]) (fun _ => ⟨rfl, ⟨rfl, rfl, rfl⟩, rfl, rfl, rfl, rfl, trivial⟩) (ci := 1) rfl rfl rfl rfl (Nat.le_of_ble_eq_true rfl) ⟨Nat.le_of_ble_eq_true rfl, Nat.le_of_ble_eq_true rfl⟩ dX0_sumOf_21 ⟨Nat.le_refl 0, Nat.le_refl 0⟩ (fun y2 => ?_)
      refine VF.icmp_ge C 44 dX0_sumOf_24 rfl (fun h1 => ?_) (fun h1 => ?_)
      · refine VF.iload_n C 1 dX0_sumOf_44 rfl ?_
        exact VF.iret C rfl rfl dX0_sumOf_45
      · refine VF.iload_n C 1 dX0_sumOf_27 rfl ?_
        refine VF.aload_n C 0 dX0_sumOf_28 rfl ?_
        refine VF.iload_n C 2 dX0_sumOf_29 rfl ?_
        refine VF.iload C 3 dX0_sumOf_30 rfl ?_
        refine VF.iadd C dX0_sumOf_32 ?_
        refine VF.callVi C (b := a0) (As := [.int (x3 + x4)]) (rest := [.int x2]) lk_X0_108 (mtX0_byteAt l D cI cZ a0 a1 a2 a3 a4 a5 f0 f1 f2 f3 f4 f5 (x3 + x4)) (fun y => y) (fun _ => rfl) [some 0, some 1, some 2, some 3, some 4, some 5] ⟨rfl, rfl⟩ (ws' := fun y => [eC a0 a1 a2 a4 a5 f0, eS a1 f1, eW a2 a3 f2, eA cI 16 a3 f3, eA cI 256 a4 f4, eA cZ 8 a5 f5]) (fun _ => ⟨⟨rfl, rfl, rfl⟩, ⟨rfl, rfl, rfl⟩, ⟨rfl, rfl, rfl⟩, ⟨rfl, rfl, rfl⟩, ⟨rfl, rfl, rfl⟩, ⟨rfl, rfl, rfl⟩, trivial⟩) (ci := 0) rfl rfl rfl rfl (Nat.le_of_ble_eq_true rfl) ⟨Nat.le_of_ble_eq_true rfl, Nat.le_of_ble_eq_true rfl⟩ dX0_sumOf_33 ⟨Nat.le_refl 0, Nat.le_refl 0⟩ (fun y3 => ?_)
        refine VF.iadd C dX0_sumOf_36 ?_
        refine VF.istore_n C [1, 0, 2, 3] dX0_sumOf_37 rfl (Nat.le_of_ble_eq_true rfl) (lv' := [(0, .ref a0), (2, .int (x2 + y3)), (3, .int x3), (4, .int x4)]) rfl ?_
        refine VF.iinc C 3 [1, 2, 3, 0] dX0_sumOf_38 rfl (v := (x4 + 1)) rfl (Nat.le_of_ble_eq_true rfl) (lv' := [(0, .ref a0), (2, .int (x2 + y3)), (3, .int x3), (4, .int (x4 + 1))]) rfl ?_
        refine VF.goto C 15 dX0_sumOf_41 rfl ?_
        exact ih (x2 + y3) x3 (x4 + 1)
  refine VF.lve (lv' := [(0, .ref a0), (1, .int u1)]) rfl ?_
  refine VF.eq (zX0_sumOf.eq_1 f1 f4 u1) ?_
  refine VF.iconst C dX0_sumOf_0 kc_0 ?_
  refine VF.istore_n C [1, 2, 0] dX0_sumOf_1 rfl (Nat.le_of_ble_eq_true rfl) (lv' := [(0, .ref a0), (1, .int u1), (2, .int 0)]) rfl ?_
  refine VF.iload_n C 1 dX0_sumOf_2 rfl ?_
  refine VF.aload_n C 0 dX0_sumOf_3 rfl ?_
  refine VF.get C fl_X0_12 0 rfl rfl dX0_sumOf_4 ?_
  refine VF.callVi C (b := a1) (As := []) (rest := [.int u1]) lk_X0_105 (mtX1_sectorBytes l D cI cZ a1 f1) (fun y => y) (fun _ => rfl) [none, some 0, none, none, none, none] ⟨rfl, rfl⟩ (ws' := fun y => [eC a0 a1 a2 a4 a5 f0, eS a1 f1, eW a2 a3 f2, eA cI 16 a3 f3, eA cI 256 a4 f4, eA cZ 8 a5 f5]) (fun _ => ⟨rfl, ⟨rfl, rfl, rfl⟩, rfl, rfl, rfl, rfl, trivial⟩) (ci := 1) rfl rfl rfl rfl (Nat.le_of_ble_eq_true rfl) ⟨Nat.le_of_ble_eq_true rfl, Nat.le_of_ble_eq_true rfl⟩ dX0_sumOf_7 ⟨Nat.le_refl 0, Nat.le_refl 0⟩ (fun y1 => ?_)
  refine VF.imul C dX0_sumOf_10 ?_
  refine VF.istore_n C [1, 2, 3, 0] dX0_sumOf_11 rfl (Nat.le_of_ble_eq_true rfl) (lv' := [(0, .ref a0), (1, .int u1), (2, .int 0), (3, .int (u1 * y1))]) rfl ?_
  refine VF.iconst C dX0_sumOf_12 kc_0 ?_
  refine VF.istore C [1, 2, 3, 4, 0] dX0_sumOf_13 (Nat.le_of_ble_eq_true rfl) (lv' := [(0, .ref a0), (1, .int u1), (2, .int 0), (3, .int (u1 * y1)), (4, .int 0)]) rfl ?_
  exact VF.lvs [0, 2, 3, 4] rfl (k15 4096 0 (u1 * y1) 0)
set_option maxHeartbeats 4000000 in
set_option maxRecDepth 100000 in
theorem mtX0_bytesOtherThanIn (l : Launch) (D : va_G) (cI cZ : ClassId) (a0 a1 a2 a3 a4 a5 a6 a7 a8 a9 a10 a11 : Nat) (f0 f1 f2 f3 f4 f5 f6 f7 f8 f9 f10 f11 : Fn) : Ctr l yX0_bytesOtherThanIn cX0_bytesOtherThanIn 4 (some .int) 2 40 D cI cZ [.ref a0, .ref a6] [eC a0 a1 a2 a4 a5 f0, eS a1 f1, eW a2 a3 f2, eA cI 16 a3 f3, eA cI 256 a4 f4, eA cZ 8 a5 f5, eC a6 a7 a8 a10 a11 f6, eS a7 f7, eW a8 a9 f8, eA cI 16 a9 f9, eA cI 256 a10 f10, eA cZ 8 a11 f11] (zX0_bytesOtherThanIn f1 f4 f10) (fun y : Int32 => some (Value.int y)) (fun _ : Int32 => [eC a0 a1 a2 a4 a5 f0, eS a1 f1, eW a2 a3 f2, eA cI 16 a3 f3, eA cI 256 a4 f4, eA cZ 8 a5 f5, eC a6 a7 a8 a10 a11 f6, eS a7 f7, eW a8 a9 f8, eA cI 16 a9 f9, eA cI 256 a10 f10, eA cZ 8 a11 f11]) := by
  refine Ctr.of (by decide) (Nat.le_of_ble_eq_true rfl) ?_
  intro p e s m below meth c A C
  have C : CX p s m ([.ref a0, .ref a6] : List Value).toArray meth c cX0_bytesOtherThanIn 4 RX0 D cI cZ A (some .int) := C
  have k4 : ∀ (n : Nat) (x2 : Int32) (x3 : Int32), VF p l e { frames := 2, cells := 0, slots := 0, locals := 40 } s m ([.ref a0, .ref a6] : List Value).toArray below meth c 0 0 D A 4 (fun r => MQ below (QcX ((fun y : Int32 => some (Value.int y)) r) D ((fun _ : Int32 => [eC a0 a1 a2 a4 a5 f0, eS a1 f1, eW a2 a3 f2, eA cI 16 a3 f3, eA cI 256 a4 f4, eA cZ 8 a5 f5, eC a6 a7 a8 a10 a11 f6, eS a7 f7, eW a8 a9 f8, eA cI 16 a9 f9, eA cI 256 a10 f10, eA cZ 8 a11 f11]) r) A) ([.ref a0, .ref a6] : List Value).toArray s 0 0 A) (zX0_bytesOtherThanIn_k4 n f1 f4 f10 x2 x3) [eC a0 a1 a2 a4 a5 f0, eS a1 f1, eW a2 a3 f2, eA cI 16 a3 f3, eA cI 256 a4 f4, eA cZ 8 a5 f5, eC a6 a7 a8 a10 a11 f6, eS a7 f7, eW a8 a9 f8, eA cI 16 a9 f9, eA cI 256 a10 f10, eA cZ 8 a11 f11] 4 [(0, .ref a0), (1, .ref a6), (2, .int x2), (3, .int x3)] [] := by
    intro n
    induction n with
    | zero =>
      intro x2 x3
      exact VF.eq (zX0_bytesOtherThanIn_k4.eq_1 _ _ _ _ _) VF.nn
    | succ n ih =>
      intro x2 x3
      refine VF.eq (zX0_bytesOtherThanIn_k4.eq_2 _ _ _ _ _ _) ?_
      refine VF.iload_n C 3 dX0_bytesOtherThanIn_4 rfl ?_
      refine VF.aload_n C 0 dX0_bytesOtherThanIn_5 rfl ?_
      refine VF.callVi C (b := a0) (As := []) (rest := [.int x3]) lk_X0_112 (mtX0_all l D cI cZ a0 a1 a2 a3 a4 a5 f0 f1 f2 f3 f4 f5) (fun y => y) (fun _ => rfl) [some 0, some 1, some 2, some 3, some 4, some 5, none, none, none, none, none, none] ⟨rfl, rfl⟩ (ws' := fun y => [eC a0 a1 a2 a4 a5 f0, eS a1 f1, eW a2 a3 f2, eA cI 16 a3 f3, eA cI 256 a4 f4, eA cZ 8 a5 f5, eC a6 a7 a8 a10 a11 f6, eS a7 f7, eW a8 a9 f8, eA cI 16 a9 f9, eA cI 256 a10 f10, eA cZ 8 a11 f11]) (fun _ => ⟨⟨rfl, rfl, rfl⟩, ⟨rfl, rfl, rfl⟩, ⟨rfl, rfl, rfl⟩, ⟨rfl, rfl, rfl⟩, ⟨rfl, rfl, rfl⟩, ⟨rfl, rfl, rfl⟩, rfl, rfl, rfl, rfl, rfl, rfl, trivial⟩) (ci := 0) rfl rfl rfl rfl (Nat.le_of_ble_eq_true rfl) ⟨Nat.le_of_ble_eq_true rfl, Nat.le_of_ble_eq_true rfl⟩ dX0_bytesOtherThanIn_6 ⟨Nat.le_refl 0, Nat.le_refl 0⟩ (fun y1 => ?_)
      refine VF.icmp_ge C 34 dX0_bytesOtherThanIn_9 rfl (fun h1 => ?_) (fun h1 => ?_)
      · refine VF.iload_n C 2 dX0_bytesOtherThanIn_34 rfl ?_
        exact VF.iret C rfl rfl dX0_bytesOtherThanIn_35
      · refine VF.aload_n C 0 dX0_bytesOtherThanIn_12 rfl ?_
        refine VF.iload_n C 3 dX0_bytesOtherThanIn_13 rfl ?_
        refine VF.callVi C (b := a0) (As := [.int x3]) (rest := []) lk_X0_108 (mtX0_byteAt l D cI cZ a0 a1 a2 a3 a4 a5 f0 f1 f2 f3 f4 f5 x3) (fun y => y) (fun _ => rfl) [some 0, some 1, some 2, some 3, some 4, some 5, none, none, none, none, none, none] ⟨rfl, rfl⟩ (ws' := fun y => [eC a0 a1 a2 a4 a5 f0, eS a1 f1, eW a2 a3 f2, eA cI 16 a3 f3, eA cI 256 a4 f4, eA cZ 8 a5 f5, eC a6 a7 a8 a10 a11 f6, eS a7 f7, eW a8 a9 f8, eA cI 16 a9 f9, eA cI 256 a10 f10, eA cZ 8 a11 f11]) (fun _ => ⟨⟨rfl, rfl, rfl⟩, ⟨rfl, rfl, rfl⟩, ⟨rfl, rfl, rfl⟩, ⟨rfl, rfl, rfl⟩, ⟨rfl, rfl, rfl⟩, ⟨rfl, rfl, rfl⟩, rfl, rfl, rfl, rfl, rfl, rfl, trivial⟩) (ci := 0) rfl rfl rfl rfl (Nat.le_of_ble_eq_true rfl) ⟨Nat.le_of_ble_eq_true rfl, Nat.le_of_ble_eq_true rfl⟩ dX0_bytesOtherThanIn_14 ⟨Nat.le_refl 0, Nat.le_refl 0⟩ (fun y2 => ?_)
        refine VF.aload_n C 1 dX0_bytesOtherThanIn_17 rfl ?_
        refine VF.iload_n C 3 dX0_bytesOtherThanIn_18 rfl ?_
        refine VF.callVi C (b := a6) (As := [.int x3]) (rest := [.int y2]) lk_X0_108 (mtX0_byteAt l D cI cZ a6 a7 a8 a9 a10 a11 f6 f7 f8 f9 f10 f11 x3) (fun y => y) (fun _ => rfl) [none, none, none, none, none, none, some 0, some 1, some 2, some 3, some 4, some 5] ⟨rfl, rfl⟩ (ws' := fun y => [eC a0 a1 a2 a4 a5 f0, eS a1 f1, eW a2 a3 f2, eA cI 16 a3 f3, eA cI 256 a4 f4, eA cZ 8 a5 f5, eC a6 a7 a8 a10 a11 f6, eS a7 f7, eW a8 a9 f8, eA cI 16 a9 f9, eA cI 256 a10 f10, eA cZ 8 a11 f11]) (fun _ => ⟨rfl, rfl, rfl, rfl, rfl, rfl, ⟨rfl, rfl, rfl⟩, ⟨rfl, rfl, rfl⟩, ⟨rfl, rfl, rfl⟩, ⟨rfl, rfl, rfl⟩, ⟨rfl, rfl, rfl⟩, ⟨rfl, rfl, rfl⟩, trivial⟩) (ci := 0) rfl rfl rfl rfl (Nat.le_of_ble_eq_true rfl) ⟨Nat.le_of_ble_eq_true rfl, Nat.le_of_ble_eq_true rfl⟩ dX0_bytesOtherThanIn_19 ⟨Nat.le_refl 0, Nat.le_refl 0⟩ (fun y3 => ?_)
        refine VF.icmp_eq C 28 dX0_bytesOtherThanIn_22 rfl (fun h2 => ?_) (fun h2 => ?_)
        · refine VF.iinc C 3 [1, 2, 3, 0] dX0_bytesOtherThanIn_28 rfl (v := (x3 + 1)) rfl (Nat.le_of_ble_eq_true rfl) (lv' := [(0, .ref a0), (1, .ref a6), (2, .int x2), (3, .int (x3 + 1))]) rfl ?_
          refine VF.goto C 4 dX0_bytesOtherThanIn_31 rfl ?_
          exact ih x2 (x3 + 1)
        · refine VF.iinc C 2 [1, 2, 0, 3] dX0_bytesOtherThanIn_25 rfl (v := (x2 + 1)) rfl (Nat.le_of_ble_eq_true rfl) (lv' := [(0, .ref a0), (1, .ref a6), (2, .int (x2 + 1)), (3, .int x3)]) rfl ?_
          refine VF.iinc C 3 [1, 2, 3, 0] dX0_bytesOtherThanIn_28 rfl (v := (x3 + 1)) rfl (Nat.le_of_ble_eq_true rfl) (lv' := [(0, .ref a0), (1, .ref a6), (2, .int (x2 + 1)), (3, .int (x3 + 1))]) rfl ?_
          refine VF.goto C 4 dX0_bytesOtherThanIn_31 rfl ?_
          exact ih (x2 + 1) (x3 + 1)
  refine VF.lve (lv' := [(0, .ref a0), (1, .ref a6)]) rfl ?_
  refine VF.eq (zX0_bytesOtherThanIn.eq_1 f1 f4 f10) ?_
  refine VF.iconst C dX0_bytesOtherThanIn_0 kc_0 ?_
  refine VF.istore_n C [1, 2, 0] dX0_bytesOtherThanIn_1 rfl (Nat.le_of_ble_eq_true rfl) (lv' := [(0, .ref a0), (1, .ref a6), (2, .int 0)]) rfl ?_
  refine VF.iconst C dX0_bytesOtherThanIn_2 kc_0 ?_
  refine VF.istore_n C [1, 2, 3, 0] dX0_bytesOtherThanIn_3 rfl (Nat.le_of_ble_eq_true rfl) (lv' := [(0, .ref a0), (1, .ref a6), (2, .int 0), (3, .int 0)]) rfl ?_
  exact k4 4096 0 0
set_option maxHeartbeats 4000000 in
set_option maxRecDepth 100000 in
theorem mtX0_isLocked (l : Launch) (D : va_G) (cI cZ : ClassId) (a0 a1 a2 a3 a4 a5 : Nat) (f0 f1 f2 f3 f4 f5 : Fn) (u1 : Int32) : Ctr l yX0_isLocked cX0_isLocked 2 (some .boolean) 0 0 D cI cZ [.ref a0, .int u1] [eC a0 a1 a2 a4 a5 f0, eS a1 f1, eW a2 a3 f2, eA cI 16 a3 f3, eA cI 256 a4 f4, eA cZ 8 a5 f5] (zX0_isLocked f5 u1) (fun y : Int32 => some (Value.int y)) (fun _ : Int32 => [eC a0 a1 a2 a4 a5 f0, eS a1 f1, eW a2 a3 f2, eA cI 16 a3 f3, eA cI 256 a4 f4, eA cZ 8 a5 f5]) := by
  refine Ctr.of (by decide) (Nat.le_of_ble_eq_true rfl) ?_
  intro p e s m below meth c A C
  have C : CX p s m ([.ref a0, .int u1] : List Value).toArray meth c cX0_isLocked 2 RX0 D cI cZ A (some .boolean) := C
  refine VF.lve (lv' := [(0, .ref a0), (1, .int u1)]) rfl ?_
  refine VF.eq (zX0_isLocked.eq_1 f5 u1) ?_
  refine VF.iload_n C 1 dX0_isLocked_0 rfl ?_
  refine VF.if_lt C 26 dX0_isLocked_1 rfl (fun h1 => ?_) (fun h1 => ?_)
  · refine VF.iconst C dX0_isLocked_26 kc_0 ?_
    exact VF.zretK C (Or.inl rfl) rfl rfl dX0_isLocked_27
  · refine VF.iload_n C 1 dX0_isLocked_4 rfl ?_
    refine VF.aload_n C 0 dX0_isLocked_5 rfl ?_
    refine VF.get C fl_X0_29 0 rfl rfl dX0_isLocked_6 ?_
    refine VF.alenZ C 5 rfl kl_8 dX0_isLocked_9 ?_
    refine VF.icmp_ge C 26 dX0_isLocked_10 rfl (fun h2 => ?_) (fun h2 => ?_)
    · refine VF.iconst C dX0_isLocked_26 kc_0 ?_
      exact VF.zretK C (Or.inl rfl) rfl rfl dX0_isLocked_27
    · refine VF.aload_n C 0 dX0_isLocked_13 rfl ?_
      refine VF.get C fl_X0_29 0 rfl rfl dX0_isLocked_14 ?_
      refine VF.iload_n C 1 dX0_isLocked_17 rfl ?_
      refine VF.zald C 5 rfl dX0_isLocked_18 ?_
      refine VF.if_eq C 26 dX0_isLocked_19 rfl (fun h3 => ?_) (fun h3 => ?_)
      · refine VF.iconst C dX0_isLocked_26 kc_0 ?_
        exact VF.zretK C (Or.inl rfl) rfl rfl dX0_isLocked_27
      · refine VF.iconst C dX0_isLocked_22 kc_1 ?_
        refine VF.goto C 27 dX0_isLocked_23 rfl ?_
        exact VF.zretK C (Or.inr rfl) rfl rfl dX0_isLocked_27
