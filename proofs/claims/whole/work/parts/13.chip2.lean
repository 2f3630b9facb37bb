set_option maxHeartbeats 4000000 in
set_option maxRecDepth 100000 in
theorem mtX0_isGuarded (l : Launch) (D : va_G) (cI cZ : ClassId) (a0 a1 a2 a3 a4 a5 : Nat) (f0 f1 f2 f3 f4 f5 : Fn) (u1 : Int32) : Ctr l yX0_isGuarded cX0_isGuarded 2 (some .boolean) 1 21 D cI cZ [.ref a0, .int u1] [eC a0 a1 a2 a4 a5 f0, eS a1 f1, eW a2 a3 f2, eA cI 16 a3 f3, eA cI 256 a4 f4, eA cZ 8 a5 f5] (zX0_isGuarded f0 f1 f5 u1) (fun y : Int32 => some (Value.int y)) (fun _ : Int32 => [eC a0 a1 a2 a4 a5 f0, eS a1 f1, eW a2 a3 f2, eA cI 16 a3 f3, eA cI 256 a4 f4, eA cZ 8 a5 f5]) := by
  refine Ctr.of (by decide) (Nat.le_of_ble_eq_true rfl) ?_
  intro p e s m below meth c A C
  have C : CX p s m ([.ref a0, .int u1] : List Value).toArray meth c cX0_isGuarded 2 RX0 D cI cZ A (some .boolean) := C
  refine VF.lve (lv' := [(0, .ref a0), (1, .int u1)]) rfl ?_
  refine VF.eq (zX0_isGuarded.eq_1 f0 f1 f5 u1) ?_
  refine VF.aload_n C 0 dX0_isGuarded_0 rfl ?_
  refine VF.iload_n C 1 dX0_isGuarded_1 rfl ?_
  refine VF.callVi C (b := a0) (As := [.int u1]) (rest := []) lk_X0_113 (mtX0_isLocked l D cI cZ a0 a1 a2 a3 a4 a5 f0 f1 f2 f3 f4 f5 u1) (fun y => y) (fun _ => rfl) [some 0, some 1, some 2, some 3, some 4, some 5] ⟨rfl, rfl⟩ (ws' := fun y => [eC a0 a1 a2 a4 a5 f0, eS a1 f1, eW a2 a3 f2, eA cI 16 a3 f3, eA cI 256 a4 f4, eA cZ 8 a5 f5]) (fun _ => ⟨⟨rfl, rfl, rfl⟩, ⟨rfl, rfl, rfl⟩, ⟨rfl, rfl, rfl⟩, ⟨rfl, rfl, rfl⟩, ⟨rfl, rfl, rfl⟩, ⟨rfl, rfl, rfl⟩, trivial⟩) (ci := 0) rfl rfl rfl rfl (Nat.le_of_ble_eq_true rfl) ⟨Nat.le_of_ble_eq_true rfl, Nat.le_of_ble_eq_true rfl⟩ dX0_isGuarded_2 ⟨Nat.le_refl 0, Nat.le_refl 0⟩ (fun y1 => ?_)
  refine VF.if_ne C 24 dX0_isGuarded_5 rfl (fun h1 => ?_) (fun h1 => ?_)
  · refine VF.iconst C dX0_isGuarded_24 kc_1 ?_
    refine VF.goto C 29 dX0_isGuarded_25 rfl ?_
    exact VF.zretK C (Or.inr rfl) rfl rfl dX0_isGuarded_29
  · refine VF.iload_n C 1 dX0_isGuarded_8 rfl ?_
    refine VF.aload_n C 0 dX0_isGuarded_9 rfl ?_
    refine VF.get C fl_X0_12 0 rfl rfl dX0_isGuarded_10 ?_
    refine VF.callVi C (b := a1) (As := []) (rest := [.int u1]) lk_X0_117 (mtX1_sectors l D cI cZ a1 f1) (fun y => y) (fun _ => rfl) [none, some 0, none, none, none, none] ⟨rfl, rfl⟩ (ws' := fun y => [eC a0 a1 a2 a4 a5 f0, eS a1 f1, eW a2 a3 f2, eA cI 16 a3 f3, eA cI 256 a4 f4, eA cZ 8 a5 f5]) (fun _ => ⟨rfl, ⟨rfl, rfl, rfl⟩, rfl, rfl, rfl, rfl, trivial⟩) (ci := 1) rfl rfl rfl rfl (Nat.le_of_ble_eq_true rfl) ⟨Nat.le_of_ble_eq_true rfl, Nat.le_of_ble_eq_true rfl⟩ dX0_isGuarded_13 ⟨Nat.le_refl 0, Nat.le_refl 0⟩ (fun y2 => ?_)
    refine VF.aload_n C 0 dX0_isGuarded_16 rfl ?_
    refine VF.get C fl_X0_51 0 rfl rfl dX0_isGuarded_17 ?_
    refine VF.isub C dX0_isGuarded_20 ?_
    refine VF.icmp_lt C 28 dX0_isGuarded_21 rfl (fun h2 => ?_) (fun h2 => ?_)
    · refine VF.iconst C dX0_isGuarded_28 kc_0 ?_
      exact VF.zretK C (Or.inl rfl) rfl rfl dX0_isGuarded_29
    · refine VF.iconst C dX0_isGuarded_24 kc_1 ?_
      refine VF.goto C 29 dX0_isGuarded_25 rfl ?_
      exact VF.zretK C (Or.inr rfl) rfl rfl dX0_isGuarded_29
set_option maxHeartbeats 4000000 in
set_option maxRecDepth 100000 in
theorem mtX0_isAnyGuarded (l : Launch) (D : va_G) (cI cZ : ClassId) (a0 a1 a2 a3 a4 a5 : Nat) (f0 f1 f2 f3 f4 f5 : Fn) : Ctr l yX0_isAnyGuarded cX0_isAnyGuarded 2 (some .boolean) 1 21 D cI cZ [.ref a0] [eC a0 a1 a2 a4 a5 f0, eS a1 f1, eW a2 a3 f2, eA cI 16 a3 f3, eA cI 256 a4 f4, eA cZ 8 a5 f5] (zX0_isAnyGuarded f0 f1 f5) (fun y : Int32 => some (Value.int y)) (fun _ : Int32 => [eC a0 a1 a2 a4 a5 f0, eS a1 f1, eW a2 a3 f2, eA cI 16 a3 f3, eA cI 256 a4 f4, eA cZ 8 a5 f5]) := by
  refine Ctr.of (by decide) (Nat.le_of_ble_eq_true rfl) ?_
  intro p e s m below meth c A C
  have C : CX p s m ([.ref a0] : List Value).toArray meth c cX0_isAnyGuarded 2 RX0 D cI cZ A (some .boolean) := C
  have k2 : ∀ (n : Nat) (x1 : Int32), VF p l e { frames := 1, cells := 0, slots := 0, locals := 21 } s m ([.ref a0] : List Value).toArray below meth c 0 0 D A 2 (fun r => MQ below (QcX ((fun y : Int32 => some (Value.int y)) r) D ((fun _ : Int32 => [eC a0 a1 a2 a4 a5 f0, eS a1 f1, eW a2 a3 f2, eA cI 16 a3 f3, eA cI 256 a4 f4, eA cZ 8 a5 f5]) r) A) ([.ref a0] : List Value).toArray s 0 0 A) (zX0_isAnyGuarded_k2 n f0 f1 f5 x1) [eC a0 a1 a2 a4 a5 f0, eS a1 f1, eW a2 a3 f2, eA cI 16 a3 f3, eA cI 256 a4 f4, eA cZ 8 a5 f5] 2 [(0, .ref a0), (1, .int x1)] [] := by
    intro n
    induction n with
    | zero =>
      intro x1
      exact VF.eq (zX0_isAnyGuarded_k2.eq_1 _ _ _ _) VF.nn
    | succ n ih =>
      intro x1
      refine VF.eq (zX0_isAnyGuarded_k2.eq_2 _ _ _ _ _) ?_
      refine VF.iload_n C 1 dX0_isAnyGuarded_2 rfl ?_
      refine VF.aload_n C 0 dX0_isAnyGuarded_3 rfl ?_
      refine VF.get C fl_X0_12 0 rfl rfl dX0_isAnyGuarded_4 ?_
      refine VF.callVi C (b := a1) (As := []) (rest := [.int x1]) lk_X0_117 (mtX1_sectors l D cI cZ a1 f1) (fun y => y) (fun _ => rfl) [none, some 0, none, none, none, none] ⟨rfl, rfl⟩ (ws' := fun y => [eC a0 a1 a2 a4 a5 f0, eS a1 f1, eW a2 a3 f2, eA cI 16 a3 f3, eA cI 256 a4 f4, eA cZ 8 a5 f5]) (fun _ => ⟨rfl, ⟨rfl, rfl, rfl⟩, rfl, rfl, rfl, rfl, trivial⟩) (ci := 1) rfl rfl rfl rfl (Nat.le_of_ble_eq_true rfl) ⟨Nat.le_of_ble_eq_true rfl, Nat.le_of_ble_eq_true rfl⟩ dX0_isAnyGuarded_7 ⟨Nat.le_refl 0, Nat.le_refl 0⟩ (fun y1 => ?_)
      refine VF.icmp_ge C 29 dX0_isAnyGuarded_10 rfl (fun h1 => ?_) (fun h1 => ?_)
      · refine VF.aload_n C 0 dX0_isAnyGuarded_29 rfl ?_
        refine VF.get C fl_X0_51 0 rfl rfl dX0_isAnyGuarded_30 ?_
        refine VF.if_le C 40 dX0_isAnyGuarded_33 rfl (fun h2 => ?_) (fun h2 => ?_)
        · refine VF.iconst C dX0_isAnyGuarded_40 kc_0 ?_
          exact VF.zretK C (Or.inl rfl) rfl rfl dX0_isAnyGuarded_41
        · refine VF.iconst C dX0_isAnyGuarded_36 kc_1 ?_
          refine VF.goto C 41 dX0_isAnyGuarded_37 rfl ?_
          exact VF.zretK C (Or.inr rfl) rfl rfl dX0_isAnyGuarded_41
      · refine VF.aload_n C 0 dX0_isAnyGuarded_13 rfl ?_
        refine VF.iload_n C 1 dX0_isAnyGuarded_14 rfl ?_
        refine VF.callVi C (b := a0) (As := [.int x1]) (rest := []) lk_X0_113 (mtX0_isLocked l D cI cZ a0 a1 a2 a3 a4 a5 f0 f1 f2 f3 f4 f5 x1) (fun y => y) (fun _ => rfl) [some 0, some 1, some 2, some 3, some 4, some 5] ⟨rfl, rfl⟩ (ws' := fun y => [eC a0 a1 a2 a4 a5 f0, eS a1 f1, eW a2 a3 f2, eA cI 16 a3 f3, eA cI 256 a4 f4, eA cZ 8 a5 f5]) (fun _ => ⟨⟨rfl, rfl, rfl⟩, ⟨rfl, rfl, rfl⟩, ⟨rfl, rfl, rfl⟩, ⟨rfl, rfl, rfl⟩, ⟨rfl, rfl, rfl⟩, ⟨rfl, rfl, rfl⟩, trivial⟩) (ci := 0) rfl rfl rfl rfl (Nat.le_of_ble_eq_true rfl) ⟨Nat.le_of_ble_eq_true rfl, Nat.le_of_ble_eq_true rfl⟩ dX0_isAnyGuarded_15 ⟨Nat.le_refl 0, Nat.le_refl 0⟩ (fun y2 => ?_)
        refine VF.if_eq C 23 dX0_isAnyGuarded_18 rfl (fun h3 => ?_) (fun h3 => ?_)
        · refine VF.iinc C 1 [1, 0] dX0_isAnyGuarded_23 rfl (v := (x1 + 1)) rfl (Nat.le_of_ble_eq_true rfl) (lv' := [(0, .ref a0), (1, .int (x1 + 1))]) rfl ?_
          refine VF.goto C 2 dX0_isAnyGuarded_26 rfl ?_
          exact ih (x1 + 1)
        · refine VF.iconst C dX0_isAnyGuarded_21 kc_1 ?_
          exact VF.zretK C (Or.inr rfl) rfl rfl dX0_isAnyGuarded_22
  refine VF.lve (lv' := [(0, .ref a0)]) rfl ?_
  refine VF.eq (zX0_isAnyGuarded.eq_1 f0 f1 f5) ?_
  refine VF.iconst C dX0_isAnyGuarded_0 kc_0 ?_
  refine VF.istore_n C [1, 0] dX0_isAnyGuarded_1 rfl (Nat.le_of_ble_eq_true rfl) (lv' := [(0, .ref a0), (1, .int 0)]) rfl ?_
  exact k2 4096 0
set_option maxHeartbeats 4000000 in
set_option maxRecDepth 100000 in
theorem mtX0_isBeingErased (l : Launch) (D : va_G) (cI cZ : ClassId) (a0 a1 a2 a3 a4 a5 : Nat) (f0 f1 f2 f3 f4 f5 : Fn) (u1 : Int32) : Ctr l yX0_isBeingErased cX0_isBeingErased 2 (some .boolean) 0 0 D cI cZ [.ref a0, .int u1] [eC a0 a1 a2 a4 a5 f0, eS a1 f1, eW a2 a3 f2, eA cI 16 a3 f3, eA cI 256 a4 f4, eA cZ 8 a5 f5] (zX0_isBeingErased f0 u1) (fun y : Int32 => some (Value.int y)) (fun _ : Int32 => [eC a0 a1 a2 a4 a5 f0, eS a1 f1, eW a2 a3 f2, eA cI 16 a3 f3, eA cI 256 a4 f4, eA cZ 8 a5 f5]) := by
  refine Ctr.of (by decide) (Nat.le_of_ble_eq_true rfl) ?_
  intro p e s m below meth c A C
  have C : CX p s m ([.ref a0, .int u1] : List Value).toArray meth c cX0_isBeingErased 2 RX0 D cI cZ A (some .boolean) := C
  have k27 : ∀ (x1 : Int32), VF p l e { frames := 0, cells := 0, slots := 0, locals := 0 } s m ([.ref a0, .int u1] : List Value).toArray below meth c 0 0 D A 2 (fun r => MQ below (QcX ((fun y : Int32 => some (Value.int y)) r) D ((fun _ : Int32 => [eC a0 a1 a2 a4 a5 f0, eS a1 f1, eW a2 a3 f2, eA cI 16 a3 f3, eA cI 256 a4 f4, eA cZ 8 a5 f5]) r) A) ([.ref a0, .int u1] : List Value).toArray s 0 0 A) (zX0_isBeingErased_k27 f0 x1) [eC a0 a1 a2 a4 a5 f0, eS a1 f1, eW a2 a3 f2, eA cI 16 a3 f3, eA cI 256 a4 f4, eA cZ 8 a5 f5] 27 [(0, .ref a0), (1, .int x1)] [] := by
    intro x1
    refine VF.eq (zX0_isBeingErased_k27.eq_1 f0 x1) ?_
    refine VF.aload_n C 0 dX0_isBeingErased_27 rfl ?_
    refine VF.get C fl_X0_70 0 rfl rfl dX0_isBeingErased_28 ?_
    refine VF.iload_n C 1 dX0_isBeingErased_31 rfl ?_
    refine VF.icmp_ne C 39 dX0_isBeingErased_32 rfl (fun h4 => ?_) (fun h4 => ?_)
    · refine VF.iconst C dX0_isBeingErased_39 kc_0 ?_
      exact VF.zretK C (Or.inl rfl) rfl rfl dX0_isBeingErased_40
    · refine VF.iconst C dX0_isBeingErased_35 kc_1 ?_
      refine VF.goto C 40 dX0_isBeingErased_36 rfl ?_
      exact VF.zretK C (Or.inr rfl) rfl rfl dX0_isBeingErased_40
  refine VF.lve (lv' := [(0, .ref a0), (1, .int u1)]) rfl ?_
  refine VF.eq (zX0_isBeingErased.eq_1 f0 u1) ?_
  refine VF.aload_n C 0 dX0_isBeingErased_0 rfl ?_
  refine VF.get C fl_X0_61 0 rfl rfl dX0_isBeingErased_1 ?_
  refine VF.sipush C dX0_isBeingErased_4 ks_199 ?_
  refine VF.icmp_eq C 35 dX0_isBeingErased_7 rfl (fun h1 => ?_) (fun h1 => ?_)
  · refine VF.iconst C dX0_isBeingErased_35 kc_1 ?_
    refine VF.goto C 40 dX0_isBeingErased_36 rfl ?_
    exact VF.zretK C (Or.inr rfl) rfl rfl dX0_isBeingErased_40
  · refine VF.aload_n C 0 dX0_isBeingErased_10 rfl ?_
    refine VF.get C fl_X0_61 0 rfl rfl dX0_isBeingErased_11 ?_
    refine VF.bipush C dX0_isBeingErased_14 kb_32 ?_
    refine VF.icmp_ne C 27 dX0_isBeingErased_16 rfl (fun h2 => ?_) (fun h2 => ?_)
    · exact k27 u1
    · refine VF.aload_n C 0 dX0_isBeingErased_19 rfl ?_
      refine VF.get C fl_X0_64 0 rfl rfl dX0_isBeingErased_20 ?_
      refine VF.iload_n C 1 dX0_isBeingErased_23 rfl ?_
      refine VF.icmp_eq C 35 dX0_isBeingErased_24 rfl (fun h3 => ?_) (fun h3 => ?_)
      · refine VF.iconst C dX0_isBeingErased_35 kc_1 ?_
        refine VF.goto C 40 dX0_isBeingErased_36 rfl ?_
        exact VF.zretK C (Or.inr rfl) rfl rfl dX0_isBeingErased_40
      · exact k27 u1
set_option maxHeartbeats 4000000 in
set_option maxRecDepth 100000 in
theorem mtX0_open (l : Launch) (D : va_G) (cI cZ : ClassId) (a0 a1 a2 a3 a4 a5 : Nat) (f0 f1 f2 f3 f4 f5 : Fn) : Ctr l yX0_open cX0_open 1 none 2 41 D cI cZ [.ref a0] [eC a0 a1 a2 a4 a5 f0, eS a1 f1, eW a2 a3 f2, eA cI 16 a3 f3, eA cI 256 a4 f4, eA cZ 8 a5 f5] (zX0_open f2 f3) (fun _ : Fn × Fn => (none : Option Value)) (fun y : Fn × Fn => [eC a0 a1 a2 a4 a5 f0, eS a1 f1, eW a2 a3 y.1, eA cI 16 a3 y.2, eA cI 256 a4 f4, eA cZ 8 a5 f5]) := by
  refine Ctr.of (by decide) (Nat.le_of_ble_eq_true rfl) ?_
  intro p e s m below meth c A C
  have C : CX p s m ([.ref a0] : List Value).toArray meth c cX0_open 1 RX0 D cI cZ A none := C
  refine VF.lve (lv' := [(0, .ref a0)]) rfl ?_
  refine VF.eq (zX0_open.eq_1 f2 f3) ?_
  refine VF.aload_n C 0 dX0_open_0 rfl ?_
  refine VF.get C fl_X0_21 0 rfl rfl dX0_open_1 ?_
  refine VF.callVv C (b := a2) (As := []) (rest := []) lk_X0_120 (mtX3_open l D cI cZ a2 a3 f2 f3) (fun _ => rfl) [none, none, some 0, some 1, none, none] ⟨rfl, rfl⟩ (ws' := fun y => [eC a0 a1 a2 a4 a5 f0, eS a1 f1, eW a2 a3 y.1, eA cI 16 a3 y.2, eA cI 256 a4 f4, eA cZ 8 a5 f5]) (fun _ => ⟨rfl, rfl, ⟨rfl, rfl, rfl⟩, ⟨rfl, rfl, rfl⟩, rfl, rfl, trivial⟩) (ci := 3) rfl rfl rfl rfl (Nat.le_of_ble_eq_true rfl) ⟨Nat.le_of_ble_eq_true rfl, Nat.le_of_ble_eq_true rfl⟩ dX0_open_4 ⟨Nat.le_refl 0, Nat.le_refl 0⟩ (fun y1 => ?_)
  exact VF.vret C rfl rfl dX0_open_7
set_option maxHeartbeats 4000000 in
set_option maxRecDepth 100000 in
theorem mtX0_contentForNext (l : Launch) (D : va_G) (cI cZ : ClassId) (a0 a1 a2 a3 a4 a5 : Nat) (f0 f1 f2 f3 f4 f5 : Fn) : Ctr l yX0_contentForNext cX0_contentForNext 2 (some .int) 2 41 D cI cZ [.ref a0] [eC a0 a1 a2 a4 a5 f0, eS a1 f1, eW a2 a3 f2, eA cI 16 a3 f3, eA cI 256 a4 f4, eA cZ 8 a5 f5] (zX0_contentForNext f1 f2 f4) (fun y : Int32 => some (Value.int y)) (fun _ : Int32 => [eC a0 a1 a2 a4 a5 f0, eS a1 f1, eW a2 a3 f2, eA cI 16 a3 f3, eA cI 256 a4 f4, eA cZ 8 a5 f5]) := by
  refine Ctr.of (by decide) (Nat.le_of_ble_eq_true rfl) ?_
  intro p e s m below meth c A C
  have C : CX p s m ([.ref a0] : List Value).toArray meth c cX0_contentForNext 2 RX0 D cI cZ A (some .int) := C
  refine VF.lve (lv' := [(0, .ref a0)]) rfl ?_
  refine VF.eq (zX0_contentForNext.eq_1 f1 f2 f4) ?_
  refine VF.aload_n C 0 dX0_contentForNext_0 rfl ?_
  refine VF.get C fl_X0_21 0 rfl rfl dX0_contentForNext_1 ?_
  refine VF.callVi C (b := a2) (As := []) (rest := []) lk_X0_92 (mtX3_puts l D cI cZ a2 a3 f2 f3) (fun y => y) (fun _ => rfl) [none, none, some 0, some 1, none, none] ⟨rfl, rfl⟩ (ws' := fun y => [eC a0 a1 a2 a4 a5 f0, eS a1 f1, eW a2 a3 f2, eA cI 16 a3 f3, eA cI 256 a4 f4, eA cZ 8 a5 f5]) (fun _ => ⟨rfl, rfl, ⟨rfl, rfl, rfl⟩, ⟨rfl, rfl, rfl⟩, rfl, rfl, trivial⟩) (ci := 3) rfl rfl rfl rfl (Nat.le_of_ble_eq_true rfl) ⟨Nat.le_of_ble_eq_true rfl, Nat.le_of_ble_eq_true rfl⟩ dX0_contentForNext_4 ⟨Nat.le_refl 0, Nat.le_refl 0⟩ (fun y1 => ?_)
  refine VF.istore_n C [1, 0] dX0_contentForNext_7 rfl (Nat.le_of_ble_eq_true rfl) (lv' := [(0, .ref a0), (1, .int y1)]) rfl ?_
  refine VF.aload_n C 0 dX0_contentForNext_8 rfl ?_
  refine VF.get C fl_X0_21 0 rfl rfl dX0_contentForNext_9 ?_
  refine VF.callVi C (b := a2) (As := []) (rest := []) lk_X0_133 (mtX3_command l D cI cZ a2 a3 f2 f3) (fun y => y) (fun _ => rfl) [none, none, some 0, some 1, none, none] ⟨rfl, rfl⟩ (ws' := fun y => [eC a0 a1 a2 a4 a5 f0, eS a1 f1, eW a2 a3 f2, eA cI 16 a3 f3, eA cI 256 a4 f4, eA cZ 8 a5 f5]) (fun _ => ⟨rfl, rfl, ⟨rfl, rfl, rfl⟩, ⟨rfl, rfl, rfl⟩, rfl, rfl, trivial⟩) (ci := 3) rfl rfl rfl rfl (Nat.le_of_ble_eq_true rfl) ⟨Nat.le_of_ble_eq_true rfl, Nat.le_of_ble_eq_true rfl⟩ dX0_contentForNext_12 ⟨Nat.le_refl 0, Nat.le_refl 0⟩ (fun y2 => ?_)
  refine VF.ite (fun h1 => ?_) (fun h1 => ?_)
  · refine VF.lookup (off := 33) C 48 dX0_contentForNext_15 (by decide) (by rw [h1]; decide) rfl ?_
    refine VF.iload_n C 1 dX0_contentForNext_48 rfl ?_
    refine VF.iconst C dX0_contentForNext_49 kc_2 ?_
    refine VF.icmp_ge C 59 dX0_contentForNext_50 rfl (fun h2 => ?_) (fun h2 => ?_)
    · refine VF.aload_n C 0 dX0_contentForNext_59 rfl ?_
      refine VF.aload_n C 0 dX0_contentForNext_60 rfl ?_
      refine VF.get C fl_X0_21 0 rfl rfl dX0_contentForNext_61 ?_
      refine VF.callVi C (b := a2) (As := []) (rest := [.ref a0]) lk_X0_142 (mtX3_first l D cI cZ a2 a3 f2 f3) (fun y => y) (fun _ => rfl) [none, none, some 0, some 1, none, none] ⟨rfl, rfl⟩ (ws' := fun y => [eC a0 a1 a2 a4 a5 f0, eS a1 f1, eW a2 a3 f2, eA cI 16 a3 f3, eA cI 256 a4 f4, eA cZ 8 a5 f5]) (fun _ => ⟨rfl, rfl, ⟨rfl, rfl, rfl⟩, ⟨rfl, rfl, rfl⟩, rfl, rfl, trivial⟩) (ci := 3) rfl rfl rfl rfl (Nat.le_of_ble_eq_true rfl) ⟨Nat.le_of_ble_eq_true rfl, Nat.le_of_ble_eq_true rfl⟩ dX0_contentForNext_64 ⟨Nat.le_refl 0, Nat.le_refl 0⟩ (fun y3 => ?_)
      refine VF.iload_n C 1 dX0_contentForNext_67 rfl ?_
      refine VF.iadd C dX0_contentForNext_68 ?_
      refine VF.iconst C dX0_contentForNext_69 kc_2 ?_
      refine VF.isub C dX0_contentForNext_70 ?_
      refine VF.aload_n C 0 dX0_contentForNext_71 rfl ?_
      refine VF.callVi C (b := a0) (As := []) (rest := [.int ((y3 + y1) - 2), .ref a0]) lk_X0_112 (mtX0_all l D cI cZ a0 a1 a2 a3 a4 a5 f0 f1 f2 f3 f4 f5) (fun y => y) (fun _ => rfl) [some 0, some 1, some 2, some 3, some 4, some 5] ⟨rfl, rfl⟩ (ws' := fun y => [eC a0 a1 a2 a4 a5 f0, eS a1 f1, eW a2 a3 f2, eA cI 16 a3 f3, eA cI 256 a4 f4, eA cZ 8 a5 f5]) (fun _ => ⟨⟨rfl, rfl, rfl⟩, ⟨rfl, rfl, rfl⟩, ⟨rfl, rfl, rfl⟩, ⟨rfl, rfl, rfl⟩, ⟨rfl, rfl, rfl⟩, ⟨rfl, rfl, rfl⟩, trivial⟩) (ci := 0) rfl rfl rfl rfl (Nat.le_of_ble_eq_true rfl) ⟨Nat.le_of_ble_eq_true rfl, Nat.le_of_ble_eq_true rfl⟩ dX0_contentForNext_72 ⟨Nat.le_refl 0, Nat.le_refl 0⟩ (fun y4 => ?_)
      refine VF.callNi C (As := [.int ((y3 + y1) - 2), .int y4]) (rest := [.ref a0]) (hnw := C.2.2.2.2.2.2.1.1) lkn_X4_remainder (mtX4_remainder l D cI cZ ((y3 + y1) - 2) y4) (fun y => y) (fun _ => rfl) [none, none, none, none, none, none] ⟨rfl, rfl⟩ (ws' := fun y => [eC a0 a1 a2 a4 a5 f0, eS a1 f1, eW a2 a3 f2, eA cI 16 a3 f3, eA cI 256 a4 f4, eA cZ 8 a5 f5]) (fun _ => ⟨rfl, rfl, rfl, rfl, rfl, rfl, trivial⟩) rfl rfl (Nat.le_of_ble_eq_true rfl) ⟨Nat.le_of_ble_eq_true rfl, Nat.le_of_ble_eq_true rfl⟩ dX0_contentForNext_75 ⟨Nat.le_refl 0, Nat.le_refl 0⟩ (fun y5 => ?_)
      refine VF.callVi C (b := a0) (As := [.int y5]) (rest := []) lk_X0_108 (mtX0_byteAt l D cI cZ a0 a1 a2 a3 a4 a5 f0 f1 f2 f3 f4 f5 y5) (fun y => y) (fun _ => rfl) [some 0, some 1, some 2, some 3, some 4, some 5] ⟨rfl, rfl⟩ (ws' := fun y => [eC a0 a1 a2 a4 a5 f0, eS a1 f1, eW a2 a3 f2, eA cI 16 a3 f3, eA cI 256 a4 f4, eA cZ 8 a5 f5]) (fun _ => ⟨⟨rfl, rfl, rfl⟩, ⟨rfl, rfl, rfl⟩, ⟨rfl, rfl, rfl⟩, ⟨rfl, rfl, rfl⟩, ⟨rfl, rfl, rfl⟩, ⟨rfl, rfl, rfl⟩, trivial⟩) (ci := 0) rfl rfl rfl rfl (Nat.le_of_ble_eq_true rfl) ⟨Nat.le_of_ble_eq_true rfl, Nat.le_of_ble_eq_true rfl⟩ dX0_contentForNext_78 ⟨Nat.le_refl 0, Nat.le_refl 0⟩ (fun y6 => ?_)
      exact VF.iret C rfl rfl dX0_contentForNext_81
    · refine VF.sipush C dX0_contentForNext_53 ks_255 ?_
      refine VF.goto C 81 dX0_contentForNext_56 rfl ?_
      exact VF.iret C rfl rfl dX0_contentForNext_81
  refine VF.ite (fun h3 => ?_) (fun h3 => ?_)
  · refine VF.lookup (off := 67) C 82 dX0_contentForNext_15 (by decide) (by rw [h3]; decide) rfl ?_
    refine VF.iload_n C 1 dX0_contentForNext_82 rfl ?_
    refine VF.iconst C dX0_contentForNext_83 kc_3 ?_
    refine VF.icmp_ge C 93 dX0_contentForNext_84 rfl (fun h4 => ?_) (fun h4 => ?_)
    · refine VF.aload_n C 0 dX0_contentForNext_93 rfl ?_
      refine VF.aload_n C 0 dX0_contentForNext_94 rfl ?_
      refine VF.get C fl_X0_21 0 rfl rfl dX0_contentForNext_95 ?_
      refine VF.callVi C (b := a2) (As := []) (rest := [.ref a0]) lk_X0_142 (mtX3_first l D cI cZ a2 a3 f2 f3) (fun y => y) (fun _ => rfl) [none, none, some 0, some 1, none, none] ⟨rfl, rfl⟩ (ws' := fun y => [eC a0 a1 a2 a4 a5 f0, eS a1 f1, eW a2 a3 f2, eA cI 16 a3 f3, eA cI 256 a4 f4, eA cZ 8 a5 f5]) (fun _ => ⟨rfl, rfl, ⟨rfl, rfl, rfl⟩, ⟨rfl, rfl, rfl⟩, rfl, rfl, trivial⟩) (ci := 3) rfl rfl rfl rfl (Nat.le_of_ble_eq_true rfl) ⟨Nat.le_of_ble_eq_true rfl, Nat.le_of_ble_eq_true rfl⟩ dX0_contentForNext_98 ⟨Nat.le_refl 0, Nat.le_refl 0⟩ (fun y7 => ?_)
      refine VF.iload_n C 1 dX0_contentForNext_101 rfl ?_
      refine VF.iadd C dX0_contentForNext_102 ?_
      refine VF.iconst C dX0_contentForNext_103 kc_3 ?_
      refine VF.isub C dX0_contentForNext_104 ?_
      refine VF.aload_n C 0 dX0_contentForNext_105 rfl ?_
      refine VF.callVi C (b := a0) (As := []) (rest := [.int ((y7 + y1) - 3), .ref a0]) lk_X0_112 (mtX0_all l D cI cZ a0 a1 a2 a3 a4 a5 f0 f1 f2 f3 f4 f5) (fun y => y) (fun _ => rfl) [some 0, some 1, some 2, some 3, some 4, some 5] ⟨rfl, rfl⟩ (ws' := fun y => [eC a0 a1 a2 a4 a5 f0, eS a1 f1, eW a2 a3 f2, eA cI 16 a3 f3, eA cI 256 a4 f4, eA cZ 8 a5 f5]) (fun _ => ⟨⟨rfl, rfl, rfl⟩, ⟨rfl, rfl, rfl⟩, ⟨rfl, rfl, rfl⟩, ⟨rfl, rfl, rfl⟩, ⟨rfl, rfl, rfl⟩, ⟨rfl, rfl, rfl⟩, trivial⟩) (ci := 0) rfl rfl rfl rfl (Nat.le_of_ble_eq_true rfl) ⟨Nat.le_of_ble_eq_true rfl, Nat.le_of_ble_eq_true rfl⟩ dX0_contentForNext_106 ⟨Nat.le_refl 0, Nat.le_refl 0⟩ (fun y8 => ?_)
      refine VF.callNi C (As := [.int ((y7 + y1) - 3), .int y8]) (rest := [.ref a0]) (hnw := C.2.2.2.2.2.2.1.1) lkn_X4_remainder (mtX4_remainder l D cI cZ ((y7 + y1) - 3) y8) (fun y => y) (fun _ => rfl) [none, none, none, none, none, none] ⟨rfl, rfl⟩ (ws' := fun y => [eC a0 a1 a2 a4 a5 f0, eS a1 f1, eW a2 a3 f2, eA cI 16 a3 f3, eA cI 256 a4 f4, eA cZ 8 a5 f5]) (fun _ => ⟨rfl, rfl, rfl, rfl, rfl, rfl, trivial⟩) rfl rfl (Nat.le_of_ble_eq_true rfl) ⟨Nat.le_of_ble_eq_true rfl, Nat.le_of_ble_eq_true rfl⟩ dX0_contentForNext_109 ⟨Nat.le_refl 0, Nat.le_refl 0⟩ (fun y9 => ?_)
      refine VF.callVi C (b := a0) (As := [.int y9]) (rest := []) lk_X0_108 (mtX0_byteAt l D cI cZ a0 a1 a2 a3 a4 a5 f0 f1 f2 f3 f4 f5 y9) (fun y => y) (fun _ => rfl) [some 0, some 1, some 2, some 3, some 4, some 5] ⟨rfl, rfl⟩ (ws' := fun y => [eC a0 a1 a2 a4 a5 f0, eS a1 f1, eW a2 a3 f2, eA cI 16 a3 f3, eA cI 256 a4 f4, eA cZ 8 a5 f5]) (fun _ => ⟨⟨rfl, rfl, rfl⟩, ⟨rfl, rfl, rfl⟩, ⟨rfl, rfl, rfl⟩, ⟨rfl, rfl, rfl⟩, ⟨rfl, rfl, rfl⟩, ⟨rfl, rfl, rfl⟩, trivial⟩) (ci := 0) rfl rfl rfl rfl (Nat.le_of_ble_eq_true rfl) ⟨Nat.le_of_ble_eq_true rfl, Nat.le_of_ble_eq_true rfl⟩ dX0_contentForNext_112 ⟨Nat.le_refl 0, Nat.le_refl 0⟩ (fun y10 => ?_)
      exact VF.iret C rfl rfl dX0_contentForNext_115
    · refine VF.sipush C dX0_contentForNext_87 ks_255 ?_
      refine VF.goto C 115 dX0_contentForNext_90 rfl ?_
      exact VF.iret C rfl rfl dX0_contentForNext_115
  refine VF.ite (fun h5 => ?_) (fun h5 => ?_)
  · refine VF.lookup (off := 101) C 116 dX0_contentForNext_15 (by decide) (by rw [h5]; decide) rfl ?_
    refine VF.iload_n C 1 dX0_contentForNext_116 rfl ?_
    refine VF.iconst C dX0_contentForNext_117 kc_3 ?_
    refine VF.icmp_ge C 127 dX0_contentForNext_118 rfl (fun h6 => ?_) (fun h6 => ?_)
    · refine VF.aload_n C 0 dX0_contentForNext_127 rfl ?_
      refine VF.get C fl_X0_12 0 rfl rfl dX0_contentForNext_128 ?_
      refine VF.aload_n C 0 dX0_contentForNext_131 rfl ?_
      refine VF.get C fl_X0_21 0 rfl rfl dX0_contentForNext_132 ?_
      refine VF.callVi C (b := a2) (As := []) (rest := [.ref a1]) lk_X0_142 (mtX3_first l D cI cZ a2 a3 f2 f3) (fun y => y) (fun _ => rfl) [none, none, some 0, some 1, none, none] ⟨rfl, rfl⟩ (ws' := fun y => [eC a0 a1 a2 a4 a5 f0, eS a1 f1, eW a2 a3 f2, eA cI 16 a3 f3, eA cI 256 a4 f4, eA cZ 8 a5 f5]) (fun _ => ⟨rfl, rfl, ⟨rfl, rfl, rfl⟩, ⟨rfl, rfl, rfl⟩, rfl, rfl, trivial⟩) (ci := 3) rfl rfl rfl rfl (Nat.le_of_ble_eq_true rfl) ⟨Nat.le_of_ble_eq_true rfl, Nat.le_of_ble_eq_true rfl⟩ dX0_contentForNext_135 ⟨Nat.le_refl 0, Nat.le_refl 0⟩ (fun y11 => ?_)
      refine VF.iload_n C 1 dX0_contentForNext_138 rfl ?_
      refine VF.iadd C dX0_contentForNext_139 ?_
      refine VF.iconst C dX0_contentForNext_140 kc_3 ?_
      refine VF.isub C dX0_contentForNext_141 ?_
      refine VF.callVi C (b := a1) (As := [.int ((y11 + y1) - 3)]) (rest := []) lk_X0_149 (mtX1_tableByte l D cI cZ a1 f1 ((y11 + y1) - 3)) (fun y => y) (fun _ => rfl) [none, some 0, none, none, none, none] ⟨rfl, rfl⟩ (ws' := fun y => [eC a0 a1 a2 a4 a5 f0, eS a1 f1, eW a2 a3 f2, eA cI 16 a3 f3, eA cI 256 a4 f4, eA cZ 8 a5 f5]) (fun _ => ⟨rfl, ⟨rfl, rfl, rfl⟩, rfl, rfl, rfl, rfl, trivial⟩) (ci := 1) rfl rfl rfl rfl (Nat.le_of_ble_eq_true rfl) ⟨Nat.le_of_ble_eq_true rfl, Nat.le_of_ble_eq_true rfl⟩ dX0_contentForNext_142 ⟨Nat.le_refl 0, Nat.le_refl 0⟩ (fun y12 => ?_)
      exact VF.iret C rfl rfl dX0_contentForNext_145
    · refine VF.sipush C dX0_contentForNext_121 ks_255 ?_
      refine VF.goto C 145 dX0_contentForNext_124 rfl ?_
      exact VF.iret C rfl rfl dX0_contentForNext_145
  refine VF.lookup (off := 131) C 146 dX0_contentForNext_15 (by decide) (Eq.trans (lv_osw h1 (k := 3) rfl) (Eq.trans (lv_osw h3 (k := 11) rfl) (Eq.trans (lv_osw h5 (k := 90) rfl) (rfl)))) rfl ?_
  refine VF.sipush C dX0_contentForNext_146 ks_255 ?_
  exact VF.iret C rfl rfl dX0_contentForNext_149
set_option maxHeartbeats 4000000 in
set_option maxRecDepth 100000 in
theorem mtX0_answerToNext (l : Launch) (D : va_G) (cI cZ : ClassId) (a0 a1 a2 a3 a4 a5 : Nat) (f0 f1 f2 f3 f4 f5 : Fn) : Ctr l yX0_answerToNext cX0_answerToNext 1 (some .int) 3 62 D cI cZ [.ref a0] [eC a0 a1 a2 a4 a5 f0, eS a1 f1, eW a2 a3 f2, eA cI 16 a3 f3, eA cI 256 a4 f4, eA cZ 8 a5 f5] (zX0_answerToNext f0 f1 f2 f4) (fun y : Int32 => some (Value.int y)) (fun _ : Int32 => [eC a0 a1 a2 a4 a5 f0, eS a1 f1, eW a2 a3 f2, eA cI 16 a3 f3, eA cI 256 a4 f4, eA cZ 8 a5 f5]) := by
  refine Ctr.of (by decide) (Nat.le_of_ble_eq_true rfl) ?_
  intro p e s m below meth c A C
  have C : CX p s m ([.ref a0] : List Value).toArray meth c cX0_answerToNext 1 RX0 D cI cZ A (some .int) := C
  refine VF.lve (lv' := [(0, .ref a0)]) rfl ?_
  refine VF.eq (zX0_answerToNext.eq_1 f0 f1 f2 f4) ?_
  refine VF.aload_n C 0 dX0_answerToNext_0 rfl ?_
  refine VF.get C fl_X0_21 0 rfl rfl dX0_answerToNext_1 ?_
  refine VF.callVi C (b := a2) (As := []) (rest := []) lk_X0_92 (mtX3_puts l D cI cZ a2 a3 f2 f3) (fun y => y) (fun _ => rfl) [none, none, some 0, some 1, none, none] ⟨rfl, rfl⟩ (ws' := fun y => [eC a0 a1 a2 a4 a5 f0, eS a1 f1, eW a2 a3 f2, eA cI 16 a3 f3, eA cI 256 a4 f4, eA cZ 8 a5 f5]) (fun _ => ⟨rfl, rfl, ⟨rfl, rfl, rfl⟩, ⟨rfl, rfl, rfl⟩, rfl, rfl, trivial⟩) (ci := 3) rfl rfl rfl rfl (Nat.le_of_ble_eq_true rfl) ⟨Nat.le_of_ble_eq_true rfl, Nat.le_of_ble_eq_true rfl⟩ dX0_answerToNext_4 ⟨Nat.le_refl 0, Nat.le_refl 0⟩ (fun y1 => ?_)
  refine VF.if_ne C 14 dX0_answerToNext_7 rfl (fun h1 => ?_) (fun h1 => ?_)
  · refine VF.aload_n C 0 dX0_answerToNext_14 rfl ?_
    refine VF.get C fl_X0_21 0 rfl rfl dX0_answerToNext_15 ?_
    refine VF.callVi C (b := a2) (As := []) (rest := []) lk_X0_133 (mtX3_command l D cI cZ a2 a3 f2 f3) (fun y => y) (fun _ => rfl) [none, none, some 0, some 1, none, none] ⟨rfl, rfl⟩ (ws' := fun y => [eC a0 a1 a2 a4 a5 f0, eS a1 f1, eW a2 a3 f2, eA cI 16 a3 f3, eA cI 256 a4 f4, eA cZ 8 a5 f5]) (fun _ => ⟨rfl, rfl, ⟨rfl, rfl, rfl⟩, ⟨rfl, rfl, rfl⟩, rfl, rfl, trivial⟩) (ci := 3) rfl rfl rfl rfl (Nat.le_of_ble_eq_true rfl) ⟨Nat.le_of_ble_eq_true rfl, Nat.le_of_ble_eq_true rfl⟩ dX0_answerToNext_18 ⟨Nat.le_refl 0, Nat.le_refl 0⟩ (fun y2 => ?_)
    refine VF.iconst C dX0_answerToNext_21 kc_5 ?_
    refine VF.icmp_ne C 30 dX0_answerToNext_22 rfl (fun h2 => ?_) (fun h2 => ?_)
    · refine VF.aload_n C 0 dX0_answerToNext_30 rfl ?_
      refine VF.callVi C (b := a0) (As := []) (rest := []) lk_X0_99 (mtX0_isBusy l D cI cZ a0 a1 a2 a3 a4 a5 f0 f1 f2 f3 f4 f5) (fun y => y) (fun _ => rfl) [some 0, some 1, some 2, some 3, some 4, some 5] ⟨rfl, rfl⟩ (ws' := fun y => [eC a0 a1 a2 a4 a5 f0, eS a1 f1, eW a2 a3 f2, eA cI 16 a3 f3, eA cI 256 a4 f4, eA cZ 8 a5 f5]) (fun _ => ⟨⟨rfl, rfl, rfl⟩, ⟨rfl, rfl, rfl⟩, ⟨rfl, rfl, rfl⟩, ⟨rfl, rfl, rfl⟩, ⟨rfl, rfl, rfl⟩, ⟨rfl, rfl, rfl⟩, trivial⟩) (ci := 0) rfl rfl rfl rfl (Nat.le_of_ble_eq_true rfl) ⟨Nat.le_of_ble_eq_true rfl, Nat.le_of_ble_eq_true rfl⟩ dX0_answerToNext_31 ⟨Nat.le_refl 0, Nat.le_refl 0⟩ (fun y3 => ?_)
      refine VF.if_eq C 43 dX0_answerToNext_34 rfl (fun h3 => ?_) (fun h3 => ?_)
      · refine VF.aload_n C 0 dX0_answerToNext_43 rfl ?_
        refine VF.callVi C (b := a0) (As := []) (rest := []) lk_X0_139 (mtX0_contentForNext l D cI cZ a0 a1 a2 a3 a4 a5 f0 f1 f2 f3 f4 f5) (fun y => y) (fun _ => rfl) [some 0, some 1, some 2, some 3, some 4, some 5] ⟨rfl, rfl⟩ (ws' := fun y => [eC a0 a1 a2 a4 a5 f0, eS a1 f1, eW a2 a3 f2, eA cI 16 a3 f3, eA cI 256 a4 f4, eA cZ 8 a5 f5]) (fun _ => ⟨⟨rfl, rfl, rfl⟩, ⟨rfl, rfl, rfl⟩, ⟨rfl, rfl, rfl⟩, ⟨rfl, rfl, rfl⟩, ⟨rfl, rfl, rfl⟩, ⟨rfl, rfl, rfl⟩, trivial⟩) (ci := 0) rfl rfl rfl rfl (Nat.le_of_ble_eq_true rfl) ⟨Nat.le_of_ble_eq_true rfl, Nat.le_of_ble_eq_true rfl⟩ dX0_answerToNext_44 ⟨Nat.le_refl 0, Nat.le_refl 0⟩ (fun y4 => ?_)
        exact VF.iret C rfl rfl dX0_answerToNext_47
      · refine VF.sipush C dX0_answerToNext_37 ks_255 ?_
        refine VF.goto C 47 dX0_answerToNext_40 rfl ?_
        exact VF.iret C rfl rfl dX0_answerToNext_47
    · refine VF.aload_n C 0 dX0_answerToNext_25 rfl ?_
      refine VF.callVi C (b := a0) (As := []) (rest := []) lk_X0_136 (mtX0_status l D cI cZ a0 a1 a2 a3 a4 a5 f0 f1 f2 f3 f4 f5) (fun y => y) (fun _ => rfl) [some 0, some 1, some 2, some 3, some 4, some 5] ⟨rfl, rfl⟩ (ws' := fun y => [eC a0 a1 a2 a4 a5 f0, eS a1 f1, eW a2 a3 f2, eA cI 16 a3 f3, eA cI 256 a4 f4, eA cZ 8 a5 f5]) (fun _ => ⟨⟨rfl, rfl, rfl⟩, ⟨rfl, rfl, rfl⟩, ⟨rfl, rfl, rfl⟩, ⟨rfl, rfl, rfl⟩, ⟨rfl, rfl, rfl⟩, ⟨rfl, rfl, rfl⟩, trivial⟩) (ci := 0) rfl rfl rfl rfl (Nat.le_of_ble_eq_true rfl) ⟨Nat.le_of_ble_eq_true rfl, Nat.le_of_ble_eq_true rfl⟩ dX0_answerToNext_26 ⟨Nat.le_refl 0, Nat.le_refl 0⟩ (fun y5 => ?_)
      exact VF.iret C rfl rfl dX0_answerToNext_29
  · refine VF.sipush C dX0_answerToNext_10 ks_255 ?_
    exact VF.iret C rfl rfl dX0_answerToNext_13
set_option maxHeartbeats 4000000 in
set_option maxRecDepth 100000 in
theorem mtX0_accept (l : Launch) (D : va_G) (cI cZ : ClassId) (a0 a1 a2 a3 a4 a5 : Nat) (f0 f1 f2 f3 f4 f5 : Fn) (u1 : Int32) : Ctr l yX0_accept cX0_accept 3 (some .int) 4 82 D cI cZ [.ref a0, .int u1] [eC a0 a1 a2 a4 a5 f0, eS a1 f1, eW a2 a3 f2, eA cI 16 a3 f3, eA cI 256 a4 f4, eA cZ 8 a5 f5] (zX0_accept f0 f1 f2 f3 f4 u1) (fun y : Int32 × Fn × Fn × Fn => some (Value.int y.1)) (fun y : Int32 × Fn × Fn × Fn => [eC a0 a1 a2 a4 a5 y.2.1, eS a1 f1, eW a2 a3 y.2.2.1, eA cI 16 a3 y.2.2.2, eA cI 256 a4 f4, eA cZ 8 a5 f5]) := by
  refine Ctr.of (by decide) (Nat.le_of_ble_eq_true rfl) ?_
  intro p e s m below meth c A C
  have C : CX p s m ([.ref a0, .int u1] : List Value).toArray meth c cX0_accept 3 RX0 D cI cZ A (some .int) := C
  refine VF.lve (lv' := [(0, .ref a0), (1, .int u1)]) rfl ?_
  refine VF.eq (zX0_accept.eq_1 f0 f1 f2 f3 f4 u1) ?_
  refine VF.aload_n C 0 dX0_accept_0 rfl ?_
  refine VF.callVi C (b := a0) (As := []) (rest := []) lk_X0_123 (mtX0_answerToNext l D cI cZ a0 a1 a2 a3 a4 a5 f0 f1 f2 f3 f4 f5) (fun y => y) (fun _ => rfl) [some 0, some 1, some 2, some 3, some 4, some 5] ⟨rfl, rfl⟩ (ws' := fun y => [eC a0 a1 a2 a4 a5 f0, eS a1 f1, eW a2 a3 f2, eA cI 16 a3 f3, eA cI 256 a4 f4, eA cZ 8 a5 f5]) (fun _ => ⟨⟨rfl, rfl, rfl⟩, ⟨rfl, rfl, rfl⟩, ⟨rfl, rfl, rfl⟩, ⟨rfl, rfl, rfl⟩, ⟨rfl, rfl, rfl⟩, ⟨rfl, rfl, rfl⟩, trivial⟩) (ci := 0) rfl rfl rfl rfl (Nat.le_of_ble_eq_true rfl) ⟨Nat.le_of_ble_eq_true rfl, Nat.le_of_ble_eq_true rfl⟩ dX0_accept_1 ⟨Nat.le_refl 0, Nat.le_refl 0⟩ (fun y1 => ?_)
  refine VF.istore_n C [1, 2, 0] dX0_accept_4 rfl (Nat.le_of_ble_eq_true rfl) (lv' := [(0, .ref a0), (1, .int u1), (2, .int y1)]) rfl ?_
  refine VF.aload_n C 0 dX0_accept_5 rfl ?_
  refine VF.get C fl_X0_21 0 rfl rfl dX0_accept_6 ?_
  refine VF.iload_n C 1 dX0_accept_9 rfl ?_
  refine VF.aload_n C 0 dX0_accept_10 rfl ?_
  refine VF.get C fl_X0_12 0 rfl rfl dX0_accept_11 ?_
  refine VF.callVi C (b := a1) (As := []) (rest := [.int u1, .ref a2]) lk_X0_126 (mtX1_pageBytes l D cI cZ a1 f1) (fun y => y) (fun _ => rfl) [none, some 0, none, none, none, none] ⟨rfl, rfl⟩ (ws' := fun y => [eC a0 a1 a2 a4 a5 f0, eS a1 f1, eW a2 a3 f2, eA cI 16 a3 f3, eA cI 256 a4 f4, eA cZ 8 a5 f5]) (fun _ => ⟨rfl, ⟨rfl, rfl, rfl⟩, rfl, rfl, rfl, rfl, trivial⟩) (ci := 1) rfl rfl rfl rfl (Nat.le_of_ble_eq_true rfl) ⟨Nat.le_of_ble_eq_true rfl, Nat.le_of_ble_eq_true rfl⟩ dX0_accept_14 ⟨Nat.le_refl 0, Nat.le_refl 0⟩ (fun y2 => ?_)
  refine VF.callVv C (b := a2) (As := [.int u1, .int y2]) (rest := []) lk_X0_129 (mtX3_take l D cI cZ a2 a3 f2 f3 u1 y2) (fun _ => rfl) [none, none, some 0, some 1, none, none] ⟨rfl, rfl⟩ (ws' := fun y => [eC a0 a1 a2 a4 a5 f0, eS a1 f1, eW a2 a3 y.1, eA cI 16 a3 y.2, eA cI 256 a4 f4, eA cZ 8 a5 f5]) (fun _ => ⟨rfl, rfl, ⟨rfl, rfl, rfl⟩, ⟨rfl, rfl, rfl⟩, rfl, rfl, trivial⟩) (ci := 3) rfl rfl rfl rfl (Nat.le_of_ble_eq_true rfl) ⟨Nat.le_of_ble_eq_true rfl, Nat.le_of_ble_eq_true rfl⟩ dX0_accept_17 ⟨Nat.le_refl 0, Nat.le_refl 0⟩ (fun y3 => ?_)
  refine VF.aload_n C 0 dX0_accept_20 rfl ?_
  refine VF.aload_n C 0 dX0_accept_21 rfl ?_
  refine VF.get C fl_X0_76 0 rfl rfl dX0_accept_22 ?_
  refine VF.bipush C dX0_accept_25 kb_8 ?_
  refine VF.aload_n C 0 dX0_accept_27 rfl ?_
  refine VF.get C fl_X0_47 0 rfl rfl dX0_accept_28 ?_
  refine VF.ishr C dX0_accept_31 ?_
  refine VF.iadd C dX0_accept_32 ?_
  refine VF.ldc C (v := 1000000) wc_X0_132 dX0_accept_33 ?_
  refine VF.iremK C (by decide) dX0_accept_35 ?_
  refine VF.put C fl_X0_76 tyX0 tyX0_ok nmX0 0 rfl rfl rfl (Nat.le_of_ble_eq_true rfl) (ws' := [eC a0 a1 a2 a4 a5 (upd f0 13 (irm ((f0 13) + (isr 8 (f0 4))) 1000000)), eS a1 f1, eW a2 a3 y3.1, eA cI 16 a3 y3.2, eA cI 256 a4 f4, eA cZ 8 a5 f5]) rfl dX0_accept_36 ?_
  refine VF.iload_n C 2 dX0_accept_39 rfl ?_
  exact VF.iret C rfl rfl dX0_accept_40
set_option maxHeartbeats 4000000 in
set_option maxRecDepth 100000 in
theorem mtX0_fallIdle (l : Launch) (D : va_G) (cI cZ : ClassId) (a0 a1 a2 a3 a4 a5 : Nat) (f0 f1 f2 f3 f4 f5 : Fn) : Ctr l yX0_fallIdle cX0_fallIdle 1 none 0 0 D cI cZ [.ref a0] [eC a0 a1 a2 a4 a5 f0, eS a1 f1, eW a2 a3 f2, eA cI 16 a3 f3, eA cI 256 a4 f4, eA cZ 8 a5 f5] (zX0_fallIdle f0) (fun _ : Fn => (none : Option Value)) (fun y : Fn => [eC a0 a1 a2 a4 a5 y, eS a1 f1, eW a2 a3 f2, eA cI 16 a3 f3, eA cI 256 a4 f4, eA cZ 8 a5 f5]) := by
  refine Ctr.of (by decide) (Nat.le_of_ble_eq_true rfl) ?_
  intro p e s m below meth c A C
  have C : CX p s m ([.ref a0] : List Value).toArray meth c cX0_fallIdle 1 RX0 D cI cZ A none := C
  refine VF.lve (lv' := [(0, .ref a0)]) rfl ?_
  refine VF.eq (zX0_fallIdle.eq_1 f0) ?_
  refine VF.aload_n C 0 dX0_fallIdle_0 rfl ?_
  refine VF.iconst C dX0_fallIdle_1 kc_m1 ?_
  refine VF.put C fl_X0_61 tyX0 tyX0_ok nmX0 0 rfl rfl rfl (Nat.le_of_ble_eq_true rfl) (ws' := [eC a0 a1 a2 a4 a5 (upd f0 8 (-1)), eS a1 f1, eW a2 a3 f2, eA cI 16 a3 f3, eA cI 256 a4 f4, eA cZ 8 a5 f5]) rfl dX0_fallIdle_2 ?_
  refine VF.aload_n C 0 dX0_fallIdle_5 rfl ?_
  refine VF.iconst C dX0_fallIdle_6 kc_m1 ?_
  refine VF.put C fl_X0_64 tyX0 tyX0_ok nmX0 0 rfl rfl rfl (Nat.le_of_ble_eq_true rfl) (ws' := [eC a0 a1 a2 a4 a5 (upd (upd f0 8 (-1)) 9 (-1)), eS a1 f1, eW a2 a3 f2, eA cI 16 a3 f3, eA cI 256 a4 f4, eA cZ 8 a5 f5]) rfl dX0_fallIdle_7 ?_
  refine VF.aload_n C 0 dX0_fallIdle_10 rfl ?_
  refine VF.iconst C dX0_fallIdle_11 kc_0 ?_
  refine VF.put C fl_X0_67 tyX0 tyX0_ok nmX0 0 rfl rfl rfl (Nat.le_of_ble_eq_true rfl) (ws' := [eC a0 a1 a2 a4 a5 (upd (upd (upd f0 8 (-1)) 9 (-1)) 10 0), eS a1 f1, eW a2 a3 f2, eA cI 16 a3 f3, eA cI 256 a4 f4, eA cZ 8 a5 f5]) rfl dX0_fallIdle_12 ?_
  exact VF.vret C rfl rfl dX0_fallIdle_15
set_option maxHeartbeats 4000000 in
set_option maxRecDepth 100000 in
theorem mtX0_suspend (l : Launch) (D : va_G) (cI cZ : ClassId) (a0 a1 a2 a3 a4 a5 : Nat) (f0 f1 f2 f3 f4 f5 : Fn) : Ctr l yX0_suspend cX0_suspend 1 none 1 20 D cI cZ [.ref a0] [eC a0 a1 a2 a4 a5 f0, eS a1 f1, eW a2 a3 f2, eA cI 16 a3 f3, eA cI 256 a4 f4, eA cZ 8 a5 f5] (zX0_suspend f0) (fun _ : Fn => (none : Option Value)) (fun y : Fn => [eC a0 a1 a2 a4 a5 y, eS a1 f1, eW a2 a3 f2, eA cI 16 a3 f3, eA cI 256 a4 f4, eA cZ 8 a5 f5]) := by
  refine Ctr.of (by decide) (Nat.le_of_ble_eq_true rfl) ?_
  intro p e s m below meth c A C
  have C : CX p s m ([.ref a0] : List Value).toArray meth c cX0_suspend 1 RX0 D cI cZ A none := C
  refine VF.lve (lv' := [(0, .ref a0)]) rfl ?_
  refine VF.eq (zX0_suspend.eq_1 f0) ?_
  refine VF.aload_n C 0 dX0_suspend_0 rfl ?_
  refine VF.get C fl_X0_61 0 rfl rfl dX0_suspend_1 ?_
  refine VF.bipush C dX0_suspend_4 kb_32 ?_
  refine VF.icmp_eq C 10 dX0_suspend_6 rfl (fun h1 => ?_) (fun h1 => ?_)
  · refine VF.aload_n C 0 dX0_suspend_10 rfl ?_
    refine VF.aload_n C 0 dX0_suspend_11 rfl ?_
    refine VF.get C fl_X0_64 0 rfl rfl dX0_suspend_12 ?_
    refine VF.put C fl_X0_70 tyX0 tyX0_ok nmX0 0 rfl rfl rfl (Nat.le_of_ble_eq_true rfl) (ws' := [eC a0 a1 a2 a4 a5 (upd f0 11 (f0 9)), eS a1 f1, eW a2 a3 f2, eA cI 16 a3 f3, eA cI 256 a4 f4, eA cZ 8 a5 f5]) rfl dX0_suspend_15 ?_
    refine VF.aload_n C 0 dX0_suspend_18 rfl ?_
    refine VF.aload_n C 0 dX0_suspend_19 rfl ?_
    refine VF.get C fl_X0_67 0 rfl rfl dX0_suspend_20 ?_
    refine VF.put C fl_X0_73 tyX0 tyX0_ok nmX0 0 rfl rfl rfl (Nat.le_of_ble_eq_true rfl) (ws' := [eC a0 a1 a2 a4 a5 (upd (upd f0 11 (f0 9)) 12 ((upd f0 11 (f0 9)) 10)), eS a1 f1, eW a2 a3 f2, eA cI 16 a3 f3, eA cI 256 a4 f4, eA cZ 8 a5 f5]) rfl dX0_suspend_23 ?_
    refine VF.aload_n C 0 dX0_suspend_26 rfl ?_
    refine VF.callVv C (b := a0) (As := []) (rest := []) lk_X0_211 (mtX0_fallIdle l D cI cZ a0 a1 a2 a3 a4 a5 (upd (upd f0 11 (f0 9)) 12 ((upd f0 11 (f0 9)) 10)) f1 f2 f3 f4 f5) (fun _ => rfl) [some 0, some 1, some 2, some 3, some 4, some 5] ⟨rfl, rfl⟩ (ws' := fun y => [eC a0 a1 a2 a4 a5 y, eS a1 f1, eW a2 a3 f2, eA cI 16 a3 f3, eA cI 256 a4 f4, eA cZ 8 a5 f5]) (fun _ => ⟨⟨rfl, rfl, rfl⟩, ⟨rfl, rfl, rfl⟩, ⟨rfl, rfl, rfl⟩, ⟨rfl, rfl, rfl⟩, ⟨rfl, rfl, rfl⟩, ⟨rfl, rfl, rfl⟩, trivial⟩) (ci := 0) rfl rfl rfl rfl (Nat.le_of_ble_eq_true rfl) ⟨Nat.le_of_ble_eq_true rfl, Nat.le_of_ble_eq_true rfl⟩ dX0_suspend_27 ⟨Nat.le_refl 0, Nat.le_refl 0⟩ (fun y1 => ?_)
    exact VF.vret C rfl rfl dX0_suspend_30
  · exact VF.vret C rfl rfl dX0_suspend_9
set_option maxHeartbeats 4000000 in
set_option maxRecDepth 100000 in
theorem mtX0_mayBegin (l : Launch) (D : va_G) (cI cZ : ClassId) (a0 a1 a2 a3 a4 a5 : Nat) (f0 f1 f2 f3 f4 f5 : Fn) (u1 : Int32) : Ctr l yX0_mayBegin cX0_mayBegin 2 (some .boolean) 0 0 D cI cZ [.ref a0, .int u1] [eC a0 a1 a2 a4 a5 f0, eS a1 f1, eW a2 a3 f2, eA cI 16 a3 f3, eA cI 256 a4 f4, eA cZ 8 a5 f5] (zX0_mayBegin f0 u1) (fun y : Int32 × Fn => some (Value.int y.1)) (fun y : Int32 × Fn => [eC a0 a1 a2 a4 a5 y.2, eS a1 f1, eW a2 a3 f2, eA cI 16 a3 f3, eA cI 256 a4 f4, eA cZ 8 a5 f5]) := by
  refine Ctr.of (by decide) (Nat.le_of_ble_eq_true rfl) ?_
  intro p e s m below meth c A C
  have C : CX p s m ([.ref a0, .int u1] : List Value).toArray meth c cX0_mayBegin 2 RX0 D cI cZ A (some .boolean) := C
  have k23 : ∀ (x1 : Int32) (f0 : Fn), VF p l e { frames := 0, cells := 0, slots := 0, locals := 0 } s m ([.ref a0, .int u1] : List Value).toArray below meth c 0 0 D A 2 (fun r => MQ below (QcX ((fun y : Int32 × Fn => some (Value.int y.1)) r) D ((fun y : Int32 × Fn => [eC a0 a1 a2 a4 a5 y.2, eS a1 f1, eW a2 a3 f2, eA cI 16 a3 f3, eA cI 256 a4 f4, eA cZ 8 a5 f5]) r) A) ([.ref a0, .int u1] : List Value).toArray s 0 0 A) (zX0_mayBegin_k23 f0 x1) [eC a0 a1 a2 a4 a5 f0, eS a1 f1, eW a2 a3 f2, eA cI 16 a3 f3, eA cI 256 a4 f4, eA cZ 8 a5 f5] 23 [(0, .ref a0), (1, .int x1)] [] := by
    intro x1 f0
    refine VF.eq (zX0_mayBegin_k23.eq_1 f0 x1) ?_
    refine VF.iload_n C 1 dX0_mayBegin_23 rfl ?_
    refine VF.if_ne C 31 dX0_mayBegin_24 rfl (fun h3 => ?_) (fun h3 => ?_)
    · refine VF.iconst C dX0_mayBegin_31 kc_0 ?_
      exact VF.zretK C (Or.inl rfl) rfl rfl dX0_mayBegin_32
    · refine VF.iconst C dX0_mayBegin_27 kc_1 ?_
      refine VF.goto C 32 dX0_mayBegin_28 rfl ?_
      exact VF.zretK C (Or.inr rfl) rfl rfl dX0_mayBegin_32
  refine VF.lve (lv' := [(0, .ref a0), (1, .int u1)]) rfl ?_
  refine VF.eq (zX0_mayBegin.eq_1 f0 u1) ?_
  refine VF.aload_n C 0 dX0_mayBegin_0 rfl ?_
  refine VF.get C fl_X0_54 0 rfl rfl dX0_mayBegin_1 ?_
  refine VF.if_ne C 9 dX0_mayBegin_4 rfl (fun h1 => ?_) (fun h1 => ?_)
  · refine VF.aload_n C 0 dX0_mayBegin_9 rfl ?_
    refine VF.iconst C dX0_mayBegin_10 kc_0 ?_
    refine VF.putbK C fl_X0_54 tyX0 tyX0_ok nmX0 0 (Or.inl rfl) rfl rfl rfl (Nat.le_of_ble_eq_true rfl) (ws' := [eC a0 a1 a2 a4 a5 (upd f0 6 0), eS a1 f1, eW a2 a3 f2, eA cI 16 a3 f3, eA cI 256 a4 f4, eA cZ 8 a5 f5]) rfl dX0_mayBegin_11 ?_
    refine VF.iload_n C 1 dX0_mayBegin_14 rfl ?_
    refine VF.if_eq C 23 dX0_mayBegin_15 rfl (fun h2 => ?_) (fun h2 => ?_)
    · exact k23 u1 (upd f0 6 0)
    · refine VF.aload_n C 0 dX0_mayBegin_18 rfl ?_
      refine VF.iconst C dX0_mayBegin_19 kc_1 ?_
      refine VF.putbK C fl_X0_58 tyX0 tyX0_ok nmX0 0 (Or.inr rfl) rfl rfl rfl (Nat.le_of_ble_eq_true rfl) (ws' := [eC a0 a1 a2 a4 a5 (upd (upd f0 6 0) 7 1), eS a1 f1, eW a2 a3 f2, eA cI 16 a3 f3, eA cI 256 a4 f4, eA cZ 8 a5 f5]) rfl dX0_mayBegin_20 ?_
      exact k23 u1 (upd (upd f0 6 0) 7 1)
  · refine VF.iconst C dX0_mayBegin_7 kc_0 ?_
    exact VF.zretK C (Or.inl rfl) rfl rfl dX0_mayBegin_8
set_option maxHeartbeats 4000000 in
set_option maxRecDepth 100000 in
theorem mtX0_begin (l : Launch) (D : va_G) (cI cZ : ClassId) (a0 a1 a2 a3 a4 a5 : Nat) (f0 f1 f2 f3 f4 f5 : Fn) (u1 : Int32) (u2 : Int32) (u3 : Int32) : Ctr l yX0_begin cX0_begin 4 none 0 0 D cI cZ [.ref a0, .int u1, .int u2, .int u3] [eC a0 a1 a2 a4 a5 f0, eS a1 f1, eW a2 a3 f2, eA cI 16 a3 f3, eA cI 256 a4 f4, eA cZ 8 a5 f5] (zX0_begin f0 u1 u2 u3) (fun _ : Fn => (none : Option Value)) (fun y : Fn => [eC a0 a1 a2 a4 a5 y, eS a1 f1, eW a2 a3 f2, eA cI 16 a3 f3, eA cI 256 a4 f4, eA cZ 8 a5 f5]) := by
  refine Ctr.of (by decide) (Nat.le_of_ble_eq_true rfl) ?_
  intro p e s m below meth c A C
  have C : CX p s m ([.ref a0, .int u1, .int u2, .int u3] : List Value).toArray meth c cX0_begin 4 RX0 D cI cZ A none := C
  refine VF.lve (lv' := [(0, .ref a0), (1, .int u1), (2, .int u2), (3, .int u3)]) rfl ?_
  refine VF.eq (zX0_begin.eq_1 f0 u1 u2 u3) ?_
  refine VF.aload_n C 0 dX0_begin_0 rfl ?_
  refine VF.iload_n C 1 dX0_begin_1 rfl ?_
  refine VF.put C fl_X0_61 tyX0 tyX0_ok nmX0 0 rfl rfl rfl (Nat.le_of_ble_eq_true rfl) (ws' := [eC a0 a1 a2 a4 a5 (upd f0 8 u1), eS a1 f1, eW a2 a3 f2, eA cI 16 a3 f3, eA cI 256 a4 f4, eA cZ 8 a5 f5]) rfl dX0_begin_2 ?_
  refine VF.aload_n C 0 dX0_begin_5 rfl ?_
  refine VF.iload_n C 2 dX0_begin_6 rfl ?_
  refine VF.put C fl_X0_64 tyX0 tyX0_ok nmX0 0 rfl rfl rfl (Nat.le_of_ble_eq_true rfl) (ws' := [eC a0 a1 a2 a4 a5 (upd (upd f0 8 u1) 9 u2), eS a1 f1, eW a2 a3 f2, eA cI 16 a3 f3, eA cI 256 a4 f4, eA cZ 8 a5 f5]) rfl dX0_begin_7 ?_
  refine VF.aload_n C 0 dX0_begin_10 rfl ?_
  refine VF.iload_n C 3 dX0_begin_11 rfl ?_
  refine VF.put C fl_X0_67 tyX0 tyX0_ok nmX0 0 rfl rfl rfl (Nat.le_of_ble_eq_true rfl) (ws' := [eC a0 a1 a2 a4 a5 (upd (upd (upd f0 8 u1) 9 u2) 10 u3), eS a1 f1, eW a2 a3 f2, eA cI 16 a3 f3, eA cI 256 a4 f4, eA cZ 8 a5 f5]) rfl dX0_begin_12 ?_
  refine VF.aload_n C 0 dX0_begin_15 rfl ?_
  refine VF.dup C dX0_begin_16 rfl ?_
  refine VF.get C fl_X0_79 0 rfl rfl dX0_begin_17 ?_
  refine VF.iconst C dX0_begin_20 kc_1 ?_
  refine VF.iadd C dX0_begin_21 ?_
  refine VF.put C fl_X0_79 tyX0 tyX0_ok nmX0 0 rfl rfl rfl (Nat.le_of_ble_eq_true rfl) (ws' := [eC a0 a1 a2 a4 a5 (upd (upd (upd (upd f0 8 u1) 9 u2) 10 u3) 14 (((upd (upd (upd f0 8 u1) 9 u2) 10 u3) 14) + 1)), eS a1 f1, eW a2 a3 f2, eA cI 16 a3 f3, eA cI 256 a4 f4, eA cZ 8 a5 f5]) rfl dX0_begin_22 ?_
  exact VF.vret C rfl rfl dX0_begin_25
set_option maxHeartbeats 4000000 in
set_option maxRecDepth 100000 in
theorem mtX0_beginAll (l : Launch) (D : va_G) (cI cZ : ClassId) (a0 a1 a2 a3 a4 a5 : Nat) (f0 f1 f2 f3 f4 f5 : Fn) : Ctr l yX0_beginAll cX0_beginAll 1 none 2 42 D cI cZ [.ref a0] [eC a0 a1 a2 a4 a5 f0, eS a1 f1, eW a2 a3 f2, eA cI 16 a3 f3, eA cI 256 a4 f4, eA cZ 8 a5 f5] (zX0_beginAll f0 f1 f5) (fun _ : Fn => (none : Option Value)) (fun y : Fn => [eC a0 a1 a2 a4 a5 y, eS a1 f1, eW a2 a3 f2, eA cI 16 a3 f3, eA cI 256 a4 f4, eA cZ 8 a5 f5]) := by
  refine Ctr.of (by decide) (Nat.le_of_ble_eq_true rfl) ?_
  intro p e s m below meth c A C
  have C : CX p s m ([.ref a0] : List Value).toArray meth c cX0_beginAll 1 RX0 D cI cZ A none := C
  have k20 : ∀ (t0 : Int32) (f0 : Fn), VF p l e { frames := 2, cells := 0, slots := 0, locals := 42 } s m ([.ref a0] : List Value).toArray below meth c 0 0 D A 1 (fun r => MQ below (QcX ((fun _ : Fn => (none : Option Value)) r) D ((fun y : Fn => [eC a0 a1 a2 a4 a5 y, eS a1 f1, eW a2 a3 f2, eA cI 16 a3 f3, eA cI 256 a4 f4, eA cZ 8 a5 f5]) r) A) ([.ref a0] : List Value).toArray s 0 0 A) (zX0_beginAll_k20 f0 f1 f5 t0) [eC a0 a1 a2 a4 a5 f0, eS a1 f1, eW a2 a3 f2, eA cI 16 a3 f3, eA cI 256 a4 f4, eA cZ 8 a5 f5] 20 [(0, .ref a0)] [.int t0, .ref a0] := by
    intro t0 f0
    refine VF.eq (zX0_beginAll_k20.eq_1 f0 f1 f5 t0) ?_
    refine VF.callVi C (b := a0) (As := [.int t0]) (rest := []) lk_X0_178 (mtX0_mayBegin l D cI cZ a0 a1 a2 a3 a4 a5 f0 f1 f2 f3 f4 f5 t0) (fun y => y.1) (fun _ => rfl) [some 0, some 1, some 2, some 3, some 4, some 5] ⟨rfl, rfl⟩ (ws' := fun y => [eC a0 a1 a2 a4 a5 y.2, eS a1 f1, eW a2 a3 f2, eA cI 16 a3 f3, eA cI 256 a4 f4, eA cZ 8 a5 f5]) (fun _ => ⟨⟨rfl, rfl, rfl⟩, ⟨rfl, rfl, rfl⟩, ⟨rfl, rfl, rfl⟩, ⟨rfl, rfl, rfl⟩, ⟨rfl, rfl, rfl⟩, ⟨rfl, rfl, rfl⟩, trivial⟩) (ci := 0) rfl rfl rfl rfl (Nat.le_of_ble_eq_true rfl) ⟨Nat.le_of_ble_eq_true rfl, Nat.le_of_ble_eq_true rfl⟩ dX0_beginAll_20 ⟨Nat.le_refl 0, Nat.le_refl 0⟩ (fun y3 => ?_)
    refine VF.if_eq C 49 dX0_beginAll_23 rfl (fun h3 => ?_) (fun h3 => ?_)
    · exact VF.vret C rfl rfl dX0_beginAll_49
    · refine VF.aload_n C 0 dX0_beginAll_26 rfl ?_
      refine VF.sipush C dX0_beginAll_27 ks_199 ?_
      refine VF.iconst C dX0_beginAll_30 kc_m1 ?_
      refine VF.aload_n C 0 dX0_beginAll_31 rfl ?_
      refine VF.get C fl_X0_12 0 rfl rfl dX0_beginAll_32 ?_
      refine VF.callVi C (b := a1) (As := []) (rest := [.int (-1), .int 199, .ref a0]) lk_X0_205 (mtX1_eraseTicks l D cI cZ a1 f1) (fun y => y) (fun _ => rfl) [none, some 0, none, none, none, none] ⟨rfl, rfl⟩ (ws' := fun y => [eC a0 a1 a2 a4 a5 y3.2, eS a1 f1, eW a2 a3 f2, eA cI 16 a3 f3, eA cI 256 a4 f4, eA cZ 8 a5 f5]) (fun _ => ⟨rfl, ⟨rfl, rfl, rfl⟩, rfl, rfl, rfl, rfl, trivial⟩) (ci := 1) rfl rfl rfl rfl (Nat.le_of_ble_eq_true rfl) ⟨Nat.le_of_ble_eq_true rfl, Nat.le_of_ble_eq_true rfl⟩ dX0_beginAll_35 ⟨Nat.le_refl 0, Nat.le_refl 0⟩ (fun y4 => ?_)
      refine VF.aload_n C 0 dX0_beginAll_38 rfl ?_
      refine VF.get C fl_X0_12 0 rfl rfl dX0_beginAll_39 ?_
      refine VF.callVi C (b := a1) (As := []) (rest := [.int y4, .int (-1), .int 199, .ref a0]) lk_X0_117 (mtX1_sectors l D cI cZ a1 f1) (fun y => y) (fun _ => rfl) [none, some 0, none, none, none, none] ⟨rfl, rfl⟩ (ws' := fun y => [eC a0 a1 a2 a4 a5 y3.2, eS a1 f1, eW a2 a3 f2, eA cI 16 a3 f3, eA cI 256 a4 f4, eA cZ 8 a5 f5]) (fun _ => ⟨rfl, ⟨rfl, rfl, rfl⟩, rfl, rfl, rfl, rfl, trivial⟩) (ci := 1) rfl rfl rfl rfl (Nat.le_of_ble_eq_true rfl) ⟨Nat.le_of_ble_eq_true rfl, Nat.le_of_ble_eq_true rfl⟩ dX0_beginAll_42 ⟨Nat.le_refl 0, Nat.le_refl 0⟩ (fun y5 => ?_)
      refine VF.imul C dX0_beginAll_45 ?_
      refine VF.callVv C (b := a0) (As := [.int 199, .int (-1), .int (y4 * y5)]) (rest := []) lk_X0_201 (mtX0_begin l D cI cZ a0 a1 a2 a3 a4 a5 y3.2 f1 f2 f3 f4 f5 199 (-1) (y4 * y5)) (fun _ => rfl) [some 0, some 1, some 2, some 3, some 4, some 5] ⟨rfl, rfl⟩ (ws' := fun y => [eC a0 a1 a2 a4 a5 y, eS a1 f1, eW a2 a3 f2, eA cI 16 a3 f3, eA cI 256 a4 f4, eA cZ 8 a5 f5]) (fun _ => ⟨⟨rfl, rfl, rfl⟩, ⟨rfl, rfl, rfl⟩, ⟨rfl, rfl, rfl⟩, ⟨rfl, rfl, rfl⟩, ⟨rfl, rfl, rfl⟩, ⟨rfl, rfl, rfl⟩, trivial⟩) (ci := 0) rfl rfl rfl rfl (Nat.le_of_ble_eq_true rfl) ⟨Nat.le_of_ble_eq_true rfl, Nat.le_of_ble_eq_true rfl⟩ dX0_beginAll_46 ⟨Nat.le_refl 0, Nat.le_refl 0⟩ (fun y6 => ?_)
      exact VF.vret C rfl rfl dX0_beginAll_49
  refine VF.lve (lv' := [(0, .ref a0)]) rfl ?_
  refine VF.eq (zX0_beginAll.eq_1 f0 f1 f5) ?_
  refine VF.aload_n C 0 dX0_beginAll_0 rfl ?_
  refine VF.aload_n C 0 dX0_beginAll_1 rfl ?_
  refine VF.callVi C (b := a0) (As := []) (rest := [.ref a0]) lk_X0_208 (mtX0_isAnyGuarded l D cI cZ a0 a1 a2 a3 a4 a5 f0 f1 f2 f3 f4 f5) (fun y => y) (fun _ => rfl) [some 0, some 1, some 2, some 3, some 4, some 5] ⟨rfl, rfl⟩ (ws' := fun y => [eC a0 a1 a2 a4 a5 f0, eS a1 f1, eW a2 a3 f2, eA cI 16 a3 f3, eA cI 256 a4 f4, eA cZ 8 a5 f5]) (fun _ => ⟨⟨rfl, rfl, rfl⟩, ⟨rfl, rfl, rfl⟩, ⟨rfl, rfl, rfl⟩, ⟨rfl, rfl, rfl⟩, ⟨rfl, rfl, rfl⟩, ⟨rfl, rfl, rfl⟩, trivial⟩) (ci := 0) rfl rfl rfl rfl (Nat.le_of_ble_eq_true rfl) ⟨Nat.le_of_ble_eq_true rfl, Nat.le_of_ble_eq_true rfl⟩ dX0_beginAll_2 ⟨Nat.le_refl 0, Nat.le_refl 0⟩ (fun y1 => ?_)
  refine VF.if_ne C 15 dX0_beginAll_5 rfl (fun h1 => ?_) (fun h1 => ?_)
  · refine VF.iconst C dX0_beginAll_15 kc_1 ?_
    refine VF.goto C 20 dX0_beginAll_16 rfl ?_
    exact k20 1 f0
  · refine VF.aload_n C 0 dX0_beginAll_8 rfl ?_
    refine VF.callVi C (b := a0) (As := []) (rest := [.ref a0]) lk_X0_102 (mtX0_isSuspended l D cI cZ a0 a1 a2 a3 a4 a5 f0 f1 f2 f3 f4 f5) (fun y => y) (fun _ => rfl) [some 0, some 1, some 2, some 3, some 4, some 5] ⟨rfl, rfl⟩ (ws' := fun y => [eC a0 a1 a2 a4 a5 f0, eS a1 f1, eW a2 a3 f2, eA cI 16 a3 f3, eA cI 256 a4 f4, eA cZ 8 a5 f5]) (fun _ => ⟨⟨rfl, rfl, rfl⟩, ⟨rfl, rfl, rfl⟩, ⟨rfl, rfl, rfl⟩, ⟨rfl, rfl, rfl⟩, ⟨rfl, rfl, rfl⟩, ⟨rfl, rfl, rfl⟩, trivial⟩) (ci := 0) rfl rfl rfl rfl (Nat.le_of_ble_eq_true rfl) ⟨Nat.le_of_ble_eq_true rfl, Nat.le_of_ble_eq_true rfl⟩ dX0_beginAll_9 ⟨Nat.le_refl 0, Nat.le_refl 0⟩ (fun y2 => ?_)
    refine VF.if_eq C 19 dX0_beginAll_12 rfl (fun h2 => ?_) (fun h2 => ?_)
    · refine VF.iconst C dX0_beginAll_19 kc_0 ?_
      exact k20 0 f0
    · refine VF.iconst C dX0_beginAll_15 kc_1 ?_
      refine VF.goto C 20 dX0_beginAll_16 rfl ?_
      exact k20 1 f0
set_option maxHeartbeats 4000000 in
set_option maxRecDepth 100000 in
theorem mtX0_dropSuspended (l : Launch) (D : va_G) (cI cZ : ClassId) (a0 a1 a2 a3 a4 a5 : Nat) (f0 f1 f2 f3 f4 f5 : Fn) : Ctr l yX0_dropSuspended cX0_dropSuspended 1 none 0 0 D cI cZ [.ref a0] [eC a0 a1 a2 a4 a5 f0, eS a1 f1, eW a2 a3 f2, eA cI 16 a3 f3, eA cI 256 a4 f4, eA cZ 8 a5 f5] (zX0_dropSuspended f0) (fun _ : Fn => (none : Option Value)) (fun y : Fn => [eC a0 a1 a2 a4 a5 y, eS a1 f1, eW a2 a3 f2, eA cI 16 a3 f3, eA cI 256 a4 f4, eA cZ 8 a5 f5]) := by
  refine Ctr.of (by decide) (Nat.le_of_ble_eq_true rfl) ?_
  intro p e s m below meth c A C
  have C : CX p s m ([.ref a0] : List Value).toArray meth c cX0_dropSuspended 1 RX0 D cI cZ A none := C
  refine VF.lve (lv' := [(0, .ref a0)]) rfl ?_
  refine VF.eq (zX0_dropSuspended.eq_1 f0) ?_
  refine VF.aload_n C 0 dX0_dropSuspended_0 rfl ?_
  refine VF.iconst C dX0_dropSuspended_1 kc_m1 ?_
  refine VF.put C fl_X0_70 tyX0 tyX0_ok nmX0 0 rfl rfl rfl (Nat.le_of_ble_eq_true rfl) (ws' := [eC a0 a1 a2 a4 a5 (upd f0 11 (-1)), eS a1 f1, eW a2 a3 f2, eA cI 16 a3 f3, eA cI 256 a4 f4, eA cZ 8 a5 f5]) rfl dX0_dropSuspended_2 ?_
  refine VF.aload_n C 0 dX0_dropSuspended_5 rfl ?_
  refine VF.iconst C dX0_dropSuspended_6 kc_0 ?_
  refine VF.put C fl_X0_73 tyX0 tyX0_ok nmX0 0 rfl rfl rfl (Nat.le_of_ble_eq_true rfl) (ws' := [eC a0 a1 a2 a4 a5 (upd (upd f0 11 (-1)) 12 0), eS a1 f1, eW a2 a3 f2, eA cI 16 a3 f3, eA cI 256 a4 f4, eA cZ 8 a5 f5]) rfl dX0_dropSuspended_7 ?_
  exact VF.vret C rfl rfl dX0_dropSuspended_10
set_option maxHeartbeats 4000000 in
set_option maxRecDepth 100000 in
theorem mtX0_resume (l : Launch) (D : va_G) (cI cZ : ClassId) (a0 a1 a2 a3 a4 a5 : Nat) (f0 f1 f2 f3 f4 f5 : Fn) : Ctr l yX0_resume cX0_resume 1 none 1 20 D cI cZ [.ref a0] [eC a0 a1 a2 a4 a5 f0, eS a1 f1, eW a2 a3 f2, eA cI 16 a3 f3, eA cI 256 a4 f4, eA cZ 8 a5 f5] (zX0_resume f0) (fun _ : Fn => (none : Option Value)) (fun y : Fn => [eC a0 a1 a2 a4 a5 y, eS a1 f1, eW a2 a3 f2, eA cI 16 a3 f3, eA cI 256 a4 f4, eA cZ 8 a5 f5]) := by
  refine Ctr.of (by decide) (Nat.le_of_ble_eq_true rfl) ?_
  intro p e s m below meth c A C
  have C : CX p s m ([.ref a0] : List Value).toArray meth c cX0_resume 1 RX0 D cI cZ A none := C
  refine VF.lve (lv' := [(0, .ref a0)]) rfl ?_
  refine VF.eq (zX0_resume.eq_1 f0) ?_
  refine VF.aload_n C 0 dX0_resume_0 rfl ?_
  refine VF.callVi C (b := a0) (As := []) (rest := []) lk_X0_102 (mtX0_isSuspended l D cI cZ a0 a1 a2 a3 a4 a5 f0 f1 f2 f3 f4 f5) (fun y => y) (fun _ => rfl) [some 0, some 1, some 2, some 3, some 4, some 5] ⟨rfl, rfl⟩ (ws' := fun y => [eC a0 a1 a2 a4 a5 f0, eS a1 f1, eW a2 a3 f2, eA cI 16 a3 f3, eA cI 256 a4 f4, eA cZ 8 a5 f5]) (fun _ => ⟨⟨rfl, rfl, rfl⟩, ⟨rfl, rfl, rfl⟩, ⟨rfl, rfl, rfl⟩, ⟨rfl, rfl, rfl⟩, ⟨rfl, rfl, rfl⟩, ⟨rfl, rfl, rfl⟩, trivial⟩) (ci := 0) rfl rfl rfl rfl (Nat.le_of_ble_eq_true rfl) ⟨Nat.le_of_ble_eq_true rfl, Nat.le_of_ble_eq_true rfl⟩ dX0_resume_1 ⟨Nat.le_refl 0, Nat.le_refl 0⟩ (fun y1 => ?_)
  refine VF.if_ne C 8 dX0_resume_4 rfl (fun h1 => ?_) (fun h1 => ?_)
  · refine VF.aload_n C 0 dX0_resume_8 rfl ?_
    refine VF.bipush C dX0_resume_9 kb_32 ?_
    refine VF.put C fl_X0_61 tyX0 tyX0_ok nmX0 0 rfl rfl rfl (Nat.le_of_ble_eq_true rfl) (ws' := [eC a0 a1 a2 a4 a5 (upd f0 8 32), eS a1 f1, eW a2 a3 f2, eA cI 16 a3 f3, eA cI 256 a4 f4, eA cZ 8 a5 f5]) rfl dX0_resume_11 ?_
    refine VF.aload_n C 0 dX0_resume_14 rfl ?_
    refine VF.aload_n C 0 dX0_resume_15 rfl ?_
    refine VF.get C fl_X0_70 0 rfl rfl dX0_resume_16 ?_
    refine VF.put C fl_X0_64 tyX0 tyX0_ok nmX0 0 rfl rfl rfl (Nat.le_of_ble_eq_true rfl) (ws' := [eC a0 a1 a2 a4 a5 (upd (upd f0 8 32) 9 ((upd f0 8 32) 11)), eS a1 f1, eW a2 a3 f2, eA cI 16 a3 f3, eA cI 256 a4 f4, eA cZ 8 a5 f5]) rfl dX0_resume_19 ?_
    refine VF.aload_n C 0 dX0_resume_22 rfl ?_
    refine VF.aload_n C 0 dX0_resume_23 rfl ?_
    refine VF.get C fl_X0_73 0 rfl rfl dX0_resume_24 ?_
    refine VF.put C fl_X0_67 tyX0 tyX0_ok nmX0 0 rfl rfl rfl (Nat.le_of_ble_eq_true rfl) (ws' := [eC a0 a1 a2 a4 a5 (upd (upd (upd f0 8 32) 9 ((upd f0 8 32) 11)) 10 ((upd (upd f0 8 32) 9 ((upd f0 8 32) 11)) 12)), eS a1 f1, eW a2 a3 f2, eA cI 16 a3 f3, eA cI 256 a4 f4, eA cZ 8 a5 f5]) rfl dX0_resume_27 ?_
    refine VF.aload_n C 0 dX0_resume_30 rfl ?_
    refine VF.callVv C (b := a0) (As := []) (rest := []) lk_X0_214 (mtX0_dropSuspended l D cI cZ a0 a1 a2 a3 a4 a5 (upd (upd (upd f0 8 32) 9 ((upd f0 8 32) 11)) 10 ((upd (upd f0 8 32) 9 ((upd f0 8 32) 11)) 12)) f1 f2 f3 f4 f5) (fun _ => rfl) [some 0, some 1, some 2, some 3, some 4, some 5] ⟨rfl, rfl⟩ (ws' := fun y => [eC a0 a1 a2 a4 a5 y, eS a1 f1, eW a2 a3 f2, eA cI 16 a3 f3, eA cI 256 a4 f4, eA cZ 8 a5 f5]) (fun _ => ⟨⟨rfl, rfl, rfl⟩, ⟨rfl, rfl, rfl⟩, ⟨rfl, rfl, rfl⟩, ⟨rfl, rfl, rfl⟩, ⟨rfl, rfl, rfl⟩, ⟨rfl, rfl, rfl⟩, trivial⟩) (ci := 0) rfl rfl rfl rfl (Nat.le_of_ble_eq_true rfl) ⟨Nat.le_of_ble_eq_true rfl, Nat.le_of_ble_eq_true rfl⟩ dX0_resume_31 ⟨Nat.le_refl 0, Nat.le_refl 0⟩ (fun y2 => ?_)
    exact VF.vret C rfl rfl dX0_resume_34
  · exact VF.vret C rfl rfl dX0_resume_7
set_option maxHeartbeats 4000000 in
set_option maxRecDepth 100000 in
theorem mtX0_putBack (l : Launch) (D : va_G) (cI cZ : ClassId) (a0 a1 a2 a3 a4 a5 : Nat) (f0 f1 f2 f3 f4 f5 : Fn) : Ctr l yX0_putBack cX0_putBack 1 none 1 20 D cI cZ [.ref a0] [eC a0 a1 a2 a4 a5 f0, eS a1 f1, eW a2 a3 f2, eA cI 16 a3 f3, eA cI 256 a4 f4, eA cZ 8 a5 f5] (zX0_putBack f0) (fun _ : Fn => (none : Option Value)) (fun y : Fn => [eC a0 a1 a2 a4 a5 y, eS a1 f1, eW a2 a3 f2, eA cI 16 a3 f3, eA cI 256 a4 f4, eA cZ 8 a5 f5]) := by
  refine Ctr.of (by decide) (Nat.le_of_ble_eq_true rfl) ?_
  intro p e s m below meth c A C
  have C : CX p s m ([.ref a0] : List Value).toArray meth c cX0_putBack 1 RX0 D cI cZ A none := C
  refine VF.lve (lv' := [(0, .ref a0)]) rfl ?_
  refine VF.eq (zX0_putBack.eq_1 f0) ?_
  refine VF.aload_n C 0 dX0_putBack_0 rfl ?_
  refine VF.iconst C dX0_putBack_1 kc_0 ?_
  refine VF.put C fl_X0_47 tyX0 tyX0_ok nmX0 0 rfl rfl rfl (Nat.le_of_ble_eq_true rfl) (ws' := [eC a0 a1 a2 a4 a5 (upd f0 4 0), eS a1 f1, eW a2 a3 f2, eA cI 16 a3 f3, eA cI 256 a4 f4, eA cZ 8 a5 f5]) rfl dX0_putBack_2 ?_
  refine VF.aload_n C 0 dX0_putBack_5 rfl ?_
  refine VF.iconst C dX0_putBack_6 kc_0 ?_
  refine VF.putbK C fl_X0_54 tyX0 tyX0_ok nmX0 0 (Or.inl rfl) rfl rfl rfl (Nat.le_of_ble_eq_true rfl) (ws' := [eC a0 a1 a2 a4 a5 (upd (upd f0 4 0) 6 0), eS a1 f1, eW a2 a3 f2, eA cI 16 a3 f3, eA cI 256 a4 f4, eA cZ 8 a5 f5]) rfl dX0_putBack_7 ?_
  refine VF.aload_n C 0 dX0_putBack_10 rfl ?_
  refine VF.iconst C dX0_putBack_11 kc_0 ?_
  refine VF.putbK C fl_X0_58 tyX0 tyX0_ok nmX0 0 (Or.inl rfl) rfl rfl rfl (Nat.le_of_ble_eq_true rfl) (ws' := [eC a0 a1 a2 a4 a5 (upd (upd (upd f0 4 0) 6 0) 7 0), eS a1 f1, eW a2 a3 f2, eA cI 16 a3 f3, eA cI 256 a4 f4, eA cZ 8 a5 f5]) rfl dX0_putBack_12 ?_
  refine VF.aload_n C 0 dX0_putBack_15 rfl ?_
  refine VF.callVv C (b := a0) (As := []) (rest := []) lk_X0_214 (mtX0_dropSuspended l D cI cZ a0 a1 a2 a3 a4 a5 (upd (upd (upd f0 4 0) 6 0) 7 0) f1 f2 f3 f4 f5) (fun _ => rfl) [some 0, some 1, some 2, some 3, some 4, some 5] ⟨rfl, rfl⟩ (ws' := fun y => [eC a0 a1 a2 a4 a5 y, eS a1 f1, eW a2 a3 f2, eA cI 16 a3 f3, eA cI 256 a4 f4, eA cZ 8 a5 f5]) (fun _ => ⟨⟨rfl, rfl, rfl⟩, ⟨rfl, rfl, rfl⟩, ⟨rfl, rfl, rfl⟩, ⟨rfl, rfl, rfl⟩, ⟨rfl, rfl, rfl⟩, ⟨rfl, rfl, rfl⟩, trivial⟩) (ci := 0) rfl rfl rfl rfl (Nat.le_of_ble_eq_true rfl) ⟨Nat.le_of_ble_eq_true rfl, Nat.le_of_ble_eq_true rfl⟩ dX0_putBack_16 ⟨Nat.le_refl 0, Nat.le_refl 0⟩ (fun y1 => ?_)
  exact VF.vret C rfl rfl dX0_putBack_19
set_option maxHeartbeats 4000000 in
set_option maxRecDepth 100000 in
theorem mtX0_obeyAlone (l : Launch) (D : va_G) (cI cZ : ClassId) (a0 a1 a2 a3 a4 a5 : Nat) (f0 f1 f2 f3 f4 f5 : Fn) (u1 : Int32) : Ctr l yX0_obeyAlone cX0_obeyAlone 2 none 3 62 D cI cZ [.ref a0, .int u1] [eC a0 a1 a2 a4 a5 f0, eS a1 f1, eW a2 a3 f2, eA cI 16 a3 f3, eA cI 256 a4 f4, eA cZ 8 a5 f5] (zX0_obeyAlone f0 f1 f2 f5 u1) (fun _ : Fn => (none : Option Value)) (fun y : Fn => [eC a0 a1 a2 a4 a5 y, eS a1 f1, eW a2 a3 f2, eA cI 16 a3 f3, eA cI 256 a4 f4, eA cZ 8 a5 f5]) := by
  refine Ctr.of (by decide) (Nat.le_of_ble_eq_true rfl) ?_
  intro p e s m below meth c A C
  have C : CX p s m ([.ref a0, .int u1] : List Value).toArray meth c cX0_obeyAlone 2 RX0 D cI cZ A none := C
  refine VF.lve (lv' := [(0, .ref a0), (1, .int u1)]) rfl ?_
  refine VF.eq (zX0_obeyAlone.eq_1 f0 f1 f2 f5 u1) ?_
  refine VF.aload_n C 0 dX0_obeyAlone_0 rfl ?_
  refine VF.get C fl_X0_21 0 rfl rfl dX0_obeyAlone_1 ?_
  refine VF.callVi C (b := a2) (As := []) (rest := []) lk_X0_133 (mtX3_command l D cI cZ a2 a3 f2 f3) (fun y => y) (fun _ => rfl) [none, none, some 0, some 1, none, none] ⟨rfl, rfl⟩ (ws' := fun y => [eC a0 a1 a2 a4 a5 f0, eS a1 f1, eW a2 a3 f2, eA cI 16 a3 f3, eA cI 256 a4 f4, eA cZ 8 a5 f5]) (fun _ => ⟨rfl, rfl, ⟨rfl, rfl, rfl⟩, ⟨rfl, rfl, rfl⟩, rfl, rfl, trivial⟩) (ci := 3) rfl rfl rfl rfl (Nat.le_of_ble_eq_true rfl) ⟨Nat.le_of_ble_eq_true rfl, Nat.le_of_ble_eq_true rfl⟩ dX0_obeyAlone_4 ⟨Nat.le_refl 0, Nat.le_refl 0⟩ (fun y1 => ?_)
  refine VF.ite (fun h1 => ?_) (fun h1 => ?_)
  · refine VF.lookup (off := 70) C 77 dX0_obeyAlone_7 (by decide) (by rw [h1]; decide) rfl ?_
    refine VF.aload_n C 0 dX0_obeyAlone_77 rfl ?_
    refine VF.iconst C dX0_obeyAlone_78 kc_0 ?_
    refine VF.putbK C fl_X0_54 tyX0 tyX0_ok nmX0 0 (Or.inl rfl) rfl rfl rfl (Nat.le_of_ble_eq_true rfl) (ws' := [eC a0 a1 a2 a4 a5 (upd f0 6 0), eS a1 f1, eW a2 a3 f2, eA cI 16 a3 f3, eA cI 256 a4 f4, eA cZ 8 a5 f5]) rfl dX0_obeyAlone_79 ?_
    refine VF.goto C 118 dX0_obeyAlone_82 rfl ?_
    exact VF.vret C rfl rfl dX0_obeyAlone_118
  refine VF.ite (fun h2 => ?_) (fun h2 => ?_)
  · refine VF.lookup (off := 57) C 64 dX0_obeyAlone_7 (by decide) (by rw [h2]; decide) rfl ?_
    refine VF.aload_n C 0 dX0_obeyAlone_64 rfl ?_
    refine VF.iconst C dX0_obeyAlone_65 kc_1 ?_
    refine VF.putbK C fl_X0_54 tyX0 tyX0_ok nmX0 0 (Or.inr rfl) rfl rfl rfl (Nat.le_of_ble_eq_true rfl) (ws' := [eC a0 a1 a2 a4 a5 (upd f0 6 1), eS a1 f1, eW a2 a3 f2, eA cI 16 a3 f3, eA cI 256 a4 f4, eA cZ 8 a5 f5]) rfl dX0_obeyAlone_66 ?_
    refine VF.aload_n C 0 dX0_obeyAlone_69 rfl ?_
    refine VF.iconst C dX0_obeyAlone_70 kc_0 ?_
    refine VF.putbK C fl_X0_58 tyX0 tyX0_ok nmX0 0 (Or.inl rfl) rfl rfl rfl (Nat.le_of_ble_eq_true rfl) (ws' := [eC a0 a1 a2 a4 a5 (upd (upd f0 6 1) 7 0), eS a1 f1, eW a2 a3 f2, eA cI 16 a3 f3, eA cI 256 a4 f4, eA cZ 8 a5 f5]) rfl dX0_obeyAlone_71 ?_
    refine VF.goto C 118 dX0_obeyAlone_74 rfl ?_
    exact VF.vret C rfl rfl dX0_obeyAlone_118
  refine VF.ite (fun h3 => ?_) (fun h3 => ?_)
  · refine VF.lookup (off := 92) C 99 dX0_obeyAlone_7 (by decide) (by rw [h3]; decide) rfl ?_
    refine VF.aload_n C 0 dX0_obeyAlone_99 rfl ?_
    refine VF.iconst C dX0_obeyAlone_100 kc_1 ?_
    refine VF.putbK C fl_X0_82 tyX0 tyX0_ok nmX0 0 (Or.inr rfl) rfl rfl rfl (Nat.le_of_ble_eq_true rfl) (ws' := [eC a0 a1 a2 a4 a5 (upd f0 15 1), eS a1 f1, eW a2 a3 f2, eA cI 16 a3 f3, eA cI 256 a4 f4, eA cZ 8 a5 f5]) rfl dX0_obeyAlone_101 ?_
    refine VF.goto C 118 dX0_obeyAlone_104 rfl ?_
    exact VF.vret C rfl rfl dX0_obeyAlone_118
  refine VF.ite (fun h4 => ?_) (fun h4 => ?_)
  · refine VF.lookup (off := 85) C 92 dX0_obeyAlone_7 (by decide) (by rw [h4]; decide) rfl ?_
    refine VF.aload_n C 0 dX0_obeyAlone_92 rfl ?_
    refine VF.callVv C (b := a0) (As := []) (rest := []) lk_X0_169 (mtX0_resume l D cI cZ a0 a1 a2 a3 a4 a5 f0 f1 f2 f3 f4 f5) (fun _ => rfl) [some 0, some 1, some 2, some 3, some 4, some 5] ⟨rfl, rfl⟩ (ws' := fun y => [eC a0 a1 a2 a4 a5 y, eS a1 f1, eW a2 a3 f2, eA cI 16 a3 f3, eA cI 256 a4 f4, eA cZ 8 a5 f5]) (fun _ => ⟨⟨rfl, rfl, rfl⟩, ⟨rfl, rfl, rfl⟩, ⟨rfl, rfl, rfl⟩, ⟨rfl, rfl, rfl⟩, ⟨rfl, rfl, rfl⟩, ⟨rfl, rfl, rfl⟩, trivial⟩) (ci := 0) rfl rfl rfl rfl (Nat.le_of_ble_eq_true rfl) ⟨Nat.le_of_ble_eq_true rfl, Nat.le_of_ble_eq_true rfl⟩ dX0_obeyAlone_93 ⟨Nat.le_refl 0, Nat.le_refl 0⟩ (fun y2 => ?_)
    refine VF.goto C 118 dX0_obeyAlone_96 rfl ?_
    exact VF.vret C rfl rfl dX0_obeyAlone_118
  refine VF.ite (fun h5 => ?_) (fun h5 => ?_)
  · refine VF.lookup (off := 100) C 107 dX0_obeyAlone_7 (by decide) (by rw [h5]; decide) rfl ?_
    refine VF.iload_n C 1 dX0_obeyAlone_107 rfl ?_
    refine VF.if_eq C 118 dX0_obeyAlone_108 rfl (fun h6 => ?_) (fun h6 => ?_)
    · exact VF.vret C rfl rfl dX0_obeyAlone_118
    · refine VF.aload_n C 0 dX0_obeyAlone_111 rfl ?_
      refine VF.callVv C (b := a0) (As := []) (rest := []) lk_X0_172 (mtX0_putBack l D cI cZ a0 a1 a2 a3 a4 a5 f0 f1 f2 f3 f4 f5) (fun _ => rfl) [some 0, some 1, some 2, some 3, some 4, some 5] ⟨rfl, rfl⟩ (ws' := fun y => [eC a0 a1 a2 a4 a5 y, eS a1 f1, eW a2 a3 f2, eA cI 16 a3 f3, eA cI 256 a4 f4, eA cZ 8 a5 f5]) (fun _ => ⟨⟨rfl, rfl, rfl⟩, ⟨rfl, rfl, rfl⟩, ⟨rfl, rfl, rfl⟩, ⟨rfl, rfl, rfl⟩, ⟨rfl, rfl, rfl⟩, ⟨rfl, rfl, rfl⟩, trivial⟩) (ci := 0) rfl rfl rfl rfl (Nat.le_of_ble_eq_true rfl) ⟨Nat.le_of_ble_eq_true rfl, Nat.le_of_ble_eq_true rfl⟩ dX0_obeyAlone_112 ⟨Nat.le_refl 0, Nat.le_refl 0⟩ (fun y3 => ?_)
      refine VF.goto C 118 dX0_obeyAlone_115 rfl ?_
      exact VF.vret C rfl rfl dX0_obeyAlone_118
  refine VF.ite (fun h7 => ?_) (fun h7 => ?_)
  · refine VF.lookup (off := 78) C 85 dX0_obeyAlone_7 (by decide) (by rw [h7]; decide) rfl ?_
    refine VF.aload_n C 0 dX0_obeyAlone_85 rfl ?_
    refine VF.callVv C (b := a0) (As := []) (rest := []) lk_X0_166 (mtX0_beginAll l D cI cZ a0 a1 a2 a3 a4 a5 f0 f1 f2 f3 f4 f5) (fun _ => rfl) [some 0, some 1, some 2, some 3, some 4, some 5] ⟨rfl, rfl⟩ (ws' := fun y => [eC a0 a1 a2 a4 a5 y, eS a1 f1, eW a2 a3 f2, eA cI 16 a3 f3, eA cI 256 a4 f4, eA cZ 8 a5 f5]) (fun _ => ⟨⟨rfl, rfl, rfl⟩, ⟨rfl, rfl, rfl⟩, ⟨rfl, rfl, rfl⟩, ⟨rfl, rfl, rfl⟩, ⟨rfl, rfl, rfl⟩, ⟨rfl, rfl, rfl⟩, trivial⟩) (ci := 0) rfl rfl rfl rfl (Nat.le_of_ble_eq_true rfl) ⟨Nat.le_of_ble_eq_true rfl, Nat.le_of_ble_eq_true rfl⟩ dX0_obeyAlone_86 ⟨Nat.le_refl 0, Nat.le_refl 0⟩ (fun y4 => ?_)
    refine VF.goto C 118 dX0_obeyAlone_89 rfl ?_
    exact VF.vret C rfl rfl dX0_obeyAlone_118
  refine VF.lookup (off := 111) C 118 dX0_obeyAlone_7 (by decide) (Eq.trans (lv_osw h1 (k := 4) rfl) (Eq.trans (lv_osw h2 (k := 6) rfl) (Eq.trans (lv_osw h3 (k := 102) rfl) (Eq.trans (lv_osw h4 (k := 122) rfl) (Eq.trans (lv_osw h5 (k := 153) rfl) (Eq.trans (lv_osw h7 (k := 199) rfl) (rfl))))))) rfl ?_
  exact VF.vret C rfl rfl dX0_obeyAlone_118
set_option maxHeartbeats 4000000 in
set_option maxRecDepth 100000 in
theorem mtX0_beginErase (l : Launch) (D : va_G) (cI cZ : ClassId) (a0 a1 a2 a3 a4 a5 : Nat) (f0 f1 f2 f3 f4 f5 : Fn) (u1 : Int32) : Ctr l yX0_beginErase cX0_beginErase 2 none 2 42 D cI cZ [.ref a0, .int u1] [eC a0 a1 a2 a4 a5 f0, eS a1 f1, eW a2 a3 f2, eA cI 16 a3 f3, eA cI 256 a4 f4, eA cZ 8 a5 f5] (zX0_beginErase f0 f1 f5 u1) (fun _ : Fn => (none : Option Value)) (fun y : Fn => [eC a0 a1 a2 a4 a5 y, eS a1 f1, eW a2 a3 f2, eA cI 16 a3 f3, eA cI 256 a4 f4, eA cZ 8 a5 f5]) := by
  refine Ctr.of (by decide) (Nat.le_of_ble_eq_true rfl) ?_
  intro p e s m below meth c A C
  have C : CX p s m ([.ref a0, .int u1] : List Value).toArray meth c cX0_beginErase 2 RX0 D cI cZ A none := C
  have k21 : ∀ (x1 : Int32) (t0 : Int32) (f0 : Fn), VF p l e { frames := 2, cells := 0, slots := 0, locals := 42 } s m ([.ref a0, .int u1] : List Value).toArray below meth c 0 0 D A 2 (fun r => MQ below (QcX ((fun _ : Fn => (none : Option Value)) r) D ((fun y : Fn => [eC a0 a1 a2 a4 a5 y, eS a1 f1, eW a2 a3 f2, eA cI 16 a3 f3, eA cI 256 a4 f4, eA cZ 8 a5 f5]) r) A) ([.ref a0, .int u1] : List Value).toArray s 0 0 A) (zX0_beginErase_k21 f0 f1 f5 x1 t0) [eC a0 a1 a2 a4 a5 f0, eS a1 f1, eW a2 a3 f2, eA cI 16 a3 f3, eA cI 256 a4 f4, eA cZ 8 a5 f5] 21 [(0, .ref a0), (1, .int x1)] [.int t0, .ref a0] := by
    intro x1 t0 f0
    refine VF.eq (zX0_beginErase_k21.eq_1 f0 f1 f5 x1 t0) ?_
    refine VF.callVi C (b := a0) (As := [.int t0]) (rest := []) lk_X0_178 (mtX0_mayBegin l D cI cZ a0 a1 a2 a3 a4 a5 f0 f1 f2 f3 f4 f5 t0) (fun y => y.1) (fun _ => rfl) [some 0, some 1, some 2, some 3, some 4, some 5] ⟨rfl, rfl⟩ (ws' := fun y => [eC a0 a1 a2 a4 a5 y.2, eS a1 f1, eW a2 a3 f2, eA cI 16 a3 f3, eA cI 256 a4 f4, eA cZ 8 a5 f5]) (fun _ => ⟨⟨rfl, rfl, rfl⟩, ⟨rfl, rfl, rfl⟩, ⟨rfl, rfl, rfl⟩, ⟨rfl, rfl, rfl⟩, ⟨rfl, rfl, rfl⟩, ⟨rfl, rfl, rfl⟩, trivial⟩) (ci := 0) rfl rfl rfl rfl (Nat.le_of_ble_eq_true rfl) ⟨Nat.le_of_ble_eq_true rfl, Nat.le_of_ble_eq_true rfl⟩ dX0_beginErase_21 ⟨Nat.le_refl 0, Nat.le_refl 0⟩ (fun y3 => ?_)
    refine VF.if_eq C 41 dX0_beginErase_24 rfl (fun h3 => ?_) (fun h3 => ?_)
    · exact VF.vret C rfl rfl dX0_beginErase_41
    · refine VF.aload_n C 0 dX0_beginErase_27 rfl ?_
      refine VF.bipush C dX0_beginErase_28 kb_32 ?_
      refine VF.iload_n C 1 dX0_beginErase_30 rfl ?_
      refine VF.aload_n C 0 dX0_beginErase_31 rfl ?_
      refine VF.get C fl_X0_12 0 rfl rfl dX0_beginErase_32 ?_
      refine VF.callVi C (b := a1) (As := []) (rest := [.int x1, .int 32, .ref a0]) lk_X0_205 (mtX1_eraseTicks l D cI cZ a1 f1) (fun y => y) (fun _ => rfl) [none, some 0, none, none, none, none] ⟨rfl, rfl⟩ (ws' := fun y => [eC a0 a1 a2 a4 a5 y3.2, eS a1 f1, eW a2 a3 f2, eA cI 16 a3 f3, eA cI 256 a4 f4, eA cZ 8 a5 f5]) (fun _ => ⟨rfl, ⟨rfl, rfl, rfl⟩, rfl, rfl, rfl, rfl, trivial⟩) (ci := 1) rfl rfl rfl rfl (Nat.le_of_ble_eq_true rfl) ⟨Nat.le_of_ble_eq_true rfl, Nat.le_of_ble_eq_true rfl⟩ dX0_beginErase_35 ⟨Nat.le_refl 0, Nat.le_refl 0⟩ (fun y4 => ?_)
      refine VF.callVv C (b := a0) (As := [.int 32, .int x1, .int y4]) (rest := []) lk_X0_201 (mtX0_begin l D cI cZ a0 a1 a2 a3 a4 a5 y3.2 f1 f2 f3 f4 f5 32 x1 y4) (fun _ => rfl) [some 0, some 1, some 2, some 3, some 4, some 5] ⟨rfl, rfl⟩ (ws' := fun y => [eC a0 a1 a2 a4 a5 y, eS a1 f1, eW a2 a3 f2, eA cI 16 a3 f3, eA cI 256 a4 f4, eA cZ 8 a5 f5]) (fun _ => ⟨⟨rfl, rfl, rfl⟩, ⟨rfl, rfl, rfl⟩, ⟨rfl, rfl, rfl⟩, ⟨rfl, rfl, rfl⟩, ⟨rfl, rfl, rfl⟩, ⟨rfl, rfl, rfl⟩, trivial⟩) (ci := 0) rfl rfl rfl rfl (Nat.le_of_ble_eq_true rfl) ⟨Nat.le_of_ble_eq_true rfl, Nat.le_of_ble_eq_true rfl⟩ dX0_beginErase_38 ⟨Nat.le_refl 0, Nat.le_refl 0⟩ (fun y5 => ?_)
      exact VF.vret C rfl rfl dX0_beginErase_41
  refine VF.lve (lv' := [(0, .ref a0), (1, .int u1)]) rfl ?_
  refine VF.eq (zX0_beginErase.eq_1 f0 f1 f5 u1) ?_
  refine VF.aload_n C 0 dX0_beginErase_0 rfl ?_
  refine VF.aload_n C 0 dX0_beginErase_1 rfl ?_
  refine VF.iload_n C 1 dX0_beginErase_2 rfl ?_
  refine VF.callVi C (b := a0) (As := [.int u1]) (rest := [.ref a0]) lk_X0_189 (mtX0_isGuarded l D cI cZ a0 a1 a2 a3 a4 a5 f0 f1 f2 f3 f4 f5 u1) (fun y => y) (fun _ => rfl) [some 0, some 1, some 2, some 3, some 4, some 5] ⟨rfl, rfl⟩ (ws' := fun y => [eC a0 a1 a2 a4 a5 f0, eS a1 f1, eW a2 a3 f2, eA cI 16 a3 f3, eA cI 256 a4 f4, eA cZ 8 a5 f5]) (fun _ => ⟨⟨rfl, rfl, rfl⟩, ⟨rfl, rfl, rfl⟩, ⟨rfl, rfl, rfl⟩, ⟨rfl, rfl, rfl⟩, ⟨rfl, rfl, rfl⟩, ⟨rfl, rfl, rfl⟩, trivial⟩) (ci := 0) rfl rfl rfl rfl (Nat.le_of_ble_eq_true rfl) ⟨Nat.le_of_ble_eq_true rfl, Nat.le_of_ble_eq_true rfl⟩ dX0_beginErase_3 ⟨Nat.le_refl 0, Nat.le_refl 0⟩ (fun y1 => ?_)
  refine VF.if_ne C 16 dX0_beginErase_6 rfl (fun h1 => ?_) (fun h1 => ?_)
  · refine VF.iconst C dX0_beginErase_16 kc_1 ?_
    refine VF.goto C 21 dX0_beginErase_17 rfl ?_
    exact k21 u1 1 f0
  · refine VF.aload_n C 0 dX0_beginErase_9 rfl ?_
    refine VF.callVi C (b := a0) (As := []) (rest := [.ref a0]) lk_X0_102 (mtX0_isSuspended l D cI cZ a0 a1 a2 a3 a4 a5 f0 f1 f2 f3 f4 f5) (fun y => y) (fun _ => rfl) [some 0, some 1, some 2, some 3, some 4, some 5] ⟨rfl, rfl⟩ (ws' := fun y => [eC a0 a1 a2 a4 a5 f0, eS a1 f1, eW a2 a3 f2, eA cI 16 a3 f3, eA cI 256 a4 f4, eA cZ 8 a5 f5]) (fun _ => ⟨⟨rfl, rfl, rfl⟩, ⟨rfl, rfl, rfl⟩, ⟨rfl, rfl, rfl⟩, ⟨rfl, rfl, rfl⟩, ⟨rfl, rfl, rfl⟩, ⟨rfl, rfl, rfl⟩, trivial⟩) (ci := 0) rfl rfl rfl rfl (Nat.le_of_ble_eq_true rfl) ⟨Nat.le_of_ble_eq_true rfl, Nat.le_of_ble_eq_true rfl⟩ dX0_beginErase_10 ⟨Nat.le_refl 0, Nat.le_refl 0⟩ (fun y2 => ?_)
    refine VF.if_eq C 20 dX0_beginErase_13 rfl (fun h2 => ?_) (fun h2 => ?_)
    · refine VF.iconst C dX0_beginErase_20 kc_0 ?_
      exact k21 u1 0 f0
    · refine VF.iconst C dX0_beginErase_16 kc_1 ?_
      refine VF.goto C 21 dX0_beginErase_17 rfl ?_
      exact k21 u1 1 f0
set_option maxHeartbeats 4000000 in
set_option maxRecDepth 100000 in
theorem mtX0_setLocked (l : Launch) (D : va_G) (cI cZ : ClassId) (a0 a1 a2 a3 a4 a5 : Nat) (f0 f1 f2 f3 f4 f5 : Fn) (u1 : Int32) (u2 : Int32) : Ctr l yX0_setLocked cX0_setLocked 3 none 0 0 D cI cZ [.ref a0, .int u1, .int u2] [eC a0 a1 a2 a4 a5 f0, eS a1 f1, eW a2 a3 f2, eA cI 16 a3 f3, eA cI 256 a4 f4, eA cZ 8 a5 f5] (zX0_setLocked f5 u1 u2) (fun _ : Fn => (none : Option Value)) (fun y : Fn => [eC a0 a1 a2 a4 a5 f0, eS a1 f1, eW a2 a3 f2, eA cI 16 a3 f3, eA cI 256 a4 f4, eA cZ 8 a5 y]) := by
  refine Ctr.of (by decide) (Nat.le_of_ble_eq_true rfl) ?_
  intro p e s m below meth c A C
  have C : CX p s m ([.ref a0, .int u1, .int u2] : List Value).toArray meth c cX0_setLocked 3 RX0 D cI cZ A none := C
  refine VF.lve (lv' := [(0, .ref a0), (1, .int u1), (2, .int u2)]) rfl ?_
  refine VF.eq (zX0_setLocked.eq_1 f5 u1 u2) ?_
  refine VF.iload_n C 1 dX0_setLocked_0 rfl ?_
  refine VF.if_lt C 20 dX0_setLocked_1 rfl (fun h1 => ?_) (fun h1 => ?_)
  · exact VF.vret C rfl rfl dX0_setLocked_20
  · refine VF.iload_n C 1 dX0_setLocked_4 rfl ?_
    refine VF.aload_n C 0 dX0_setLocked_5 rfl ?_
    refine VF.get C fl_X0_29 0 rfl rfl dX0_setLocked_6 ?_
    refine VF.alenZ C 5 rfl kl_8 dX0_setLocked_9 ?_
    refine VF.icmp_ge C 20 dX0_setLocked_10 rfl (fun h2 => ?_) (fun h2 => ?_)
    · exact VF.vret C rfl rfl dX0_setLocked_20
    · refine VF.aload_n C 0 dX0_setLocked_13 rfl ?_
      refine VF.get C fl_X0_29 0 rfl rfl dX0_setLocked_14 ?_
      refine VF.iload_n C 1 dX0_setLocked_17 rfl ?_
      refine VF.iload_n C 2 dX0_setLocked_18 rfl ?_
      refine VF.zast C 5 rfl (ws' := [eC a0 a1 a2 a4 a5 f0, eS a1 f1, eW a2 a3 f2, eA cI 16 a3 f3, eA cI 256 a4 f4, eA cZ 8 a5 (upd f5 (ix u1) u2)]) rfl dX0_setLocked_19 ?_
      exact VF.vret C rfl rfl dX0_setLocked_20
set_option maxHeartbeats 4000000 in
set_option maxRecDepth 100000 in
theorem mtX0_obeyWithByte (l : Launch) (D : va_G) (cI cZ : ClassId) (a0 a1 a2 a3 a4 a5 : Nat) (f0 f1 f2 f3 f4 f5 : Fn) (u1 : Int32) : Ctr l yX0_obeyWithByte cX0_obeyWithByte 3 none 3 63 D cI cZ [.ref a0, .int u1] [eC a0 a1 a2 a4 a5 f0, eS a1 f1, eW a2 a3 f2, eA cI 16 a3 f3, eA cI 256 a4 f4, eA cZ 8 a5 f5] (zX0_obeyWithByte f0 f1 f2 f5 u1) (fun _ : Fn × Fn => (none : Option Value)) (fun y : Fn × Fn => [eC a0 a1 a2 a4 a5 y.1, eS a1 f1, eW a2 a3 f2, eA cI 16 a3 f3, eA cI 256 a4 f4, eA cZ 8 a5 y.2]) := by
  refine Ctr.of (by decide) (Nat.le_of_ble_eq_true rfl) ?_
  intro p e s m below meth c A C
  have C : CX p s m ([.ref a0, .int u1] : List Value).toArray meth c cX0_obeyWithByte 3 RX0 D cI cZ A none := C
  refine VF.lve (lv' := [(0, .ref a0), (1, .int u1)]) rfl ?_
  refine VF.eq (zX0_obeyWithByte.eq_1 f0 f1 f2 f5 u1) ?_
  refine VF.iload_n C 1 dX0_obeyWithByte_0 rfl ?_
  refine VF.aload_n C 0 dX0_obeyWithByte_1 rfl ?_
  refine VF.callVi C (b := a0) (As := []) (rest := [.int u1]) lk_X0_112 (mtX0_all l D cI cZ a0 a1 a2 a3 a4 a5 f0 f1 f2 f3 f4 f5) (fun y => y) (fun _ => rfl) [some 0, some 1, some 2, some 3, some 4, some 5] ⟨rfl, rfl⟩ (ws' := fun y => [eC a0 a1 a2 a4 a5 f0, eS a1 f1, eW a2 a3 f2, eA cI 16 a3 f3, eA cI 256 a4 f4, eA cZ 8 a5 f5]) (fun _ => ⟨⟨rfl, rfl, rfl⟩, ⟨rfl, rfl, rfl⟩, ⟨rfl, rfl, rfl⟩, ⟨rfl, rfl, rfl⟩, ⟨rfl, rfl, rfl⟩, ⟨rfl, rfl, rfl⟩, trivial⟩) (ci := 0) rfl rfl rfl rfl (Nat.le_of_ble_eq_true rfl) ⟨Nat.le_of_ble_eq_true rfl, Nat.le_of_ble_eq_true rfl⟩ dX0_obeyWithByte_2 ⟨Nat.le_refl 0, Nat.le_refl 0⟩ (fun y1 => ?_)
  refine VF.callNi C (As := [.int u1, .int y1]) (rest := []) (hnw := C.2.2.2.2.2.2.1.1) lkn_X4_remainder (mtX4_remainder l D cI cZ u1 y1) (fun y => y) (fun _ => rfl) [none, none, none, none, none, none] ⟨rfl, rfl⟩ (ws' := fun y => [eC a0 a1 a2 a4 a5 f0, eS a1 f1, eW a2 a3 f2, eA cI 16 a3 f3, eA cI 256 a4 f4, eA cZ 8 a5 f5]) (fun _ => ⟨rfl, rfl, rfl, rfl, rfl, rfl, trivial⟩) rfl rfl (Nat.le_of_ble_eq_true rfl) ⟨Nat.le_of_ble_eq_true rfl, Nat.le_of_ble_eq_true rfl⟩ dX0_obeyWithByte_5 ⟨Nat.le_refl 0, Nat.le_refl 0⟩ (fun y2 => ?_)
  refine VF.aload_n C 0 dX0_obeyWithByte_8 rfl ?_
  refine VF.get C fl_X0_12 0 rfl rfl dX0_obeyWithByte_9 ?_
  refine VF.callVi C (b := a1) (As := []) (rest := [.int y2]) lk_X0_105 (mtX1_sectorBytes l D cI cZ a1 f1) (fun y => y) (fun _ => rfl) [none, some 0, none, none, none, none] ⟨rfl, rfl⟩ (ws' := fun y => [eC a0 a1 a2 a4 a5 f0, eS a1 f1, eW a2 a3 f2, eA cI 16 a3 f3, eA cI 256 a4 f4, eA cZ 8 a5 f5]) (fun _ => ⟨rfl, ⟨rfl, rfl, rfl⟩, rfl, rfl, rfl, rfl, trivial⟩) (ci := 1) rfl rfl rfl rfl (Nat.le_of_ble_eq_true rfl) ⟨Nat.le_of_ble_eq_true rfl, Nat.le_of_ble_eq_true rfl⟩ dX0_obeyWithByte_12 ⟨Nat.le_refl 0, Nat.le_refl 0⟩ (fun y3 => ?_)
  refine VF.callNi C (As := [.int y2, .int y3]) (rest := []) (hnw := C.2.2.2.2.2.2.1.2.1) lkn_X4_quotient (mtX4_quotient l D cI cZ y2 y3) (fun y => y) (fun _ => rfl) [none, none, none, none, none, none] ⟨rfl, rfl⟩ (ws' := fun y => [eC a0 a1 a2 a4 a5 f0, eS a1 f1, eW a2 a3 f2, eA cI 16 a3 f3, eA cI 256 a4 f4, eA cZ 8 a5 f5]) (fun _ => ⟨rfl, rfl, rfl, rfl, rfl, rfl, trivial⟩) rfl rfl (Nat.le_of_ble_eq_true rfl) ⟨Nat.le_of_ble_eq_true rfl, Nat.le_of_ble_eq_true rfl⟩ dX0_obeyWithByte_15 ⟨Nat.le_refl 0, Nat.le_refl 0⟩ (fun y4 => ?_)
  refine VF.istore_n C [1, 2, 0] dX0_obeyWithByte_18 rfl (Nat.le_of_ble_eq_true rfl) (lv' := [(0, .ref a0), (1, .int u1), (2, .int y4)]) rfl ?_
  refine VF.aload_n C 0 dX0_obeyWithByte_19 rfl ?_
  refine VF.get C fl_X0_21 0 rfl rfl dX0_obeyWithByte_20 ?_
  refine VF.callVi C (b := a2) (As := []) (rest := []) lk_X0_133 (mtX3_command l D cI cZ a2 a3 f2 f3) (fun y => y) (fun _ => rfl) [none, none, some 0, some 1, none, none] ⟨rfl, rfl⟩ (ws' := fun y => [eC a0 a1 a2 a4 a5 f0, eS a1 f1, eW a2 a3 f2, eA cI 16 a3 f3, eA cI 256 a4 f4, eA cZ 8 a5 f5]) (fun _ => ⟨rfl, rfl, ⟨rfl, rfl, rfl⟩, ⟨rfl, rfl, rfl⟩, rfl, rfl, trivial⟩) (ci := 3) rfl rfl rfl rfl (Nat.le_of_ble_eq_true rfl) ⟨Nat.le_of_ble_eq_true rfl, Nat.le_of_ble_eq_true rfl⟩ dX0_obeyWithByte_23 ⟨Nat.le_refl 0, Nat.le_refl 0⟩ (fun y5 => ?_)
  refine VF.ite (fun h1 => ?_) (fun h1 => ?_)
  · refine VF.lookup (off := 50) C 76 dX0_obeyWithByte_26 (by decide) (by rw [h1]; decide) rfl ?_
    refine VF.aload_n C 0 dX0_obeyWithByte_76 rfl ?_
    refine VF.aload_n C 0 dX0_obeyWithByte_77 rfl ?_
    refine VF.callVi C (b := a0) (As := []) (rest := [.ref a0]) lk_X0_102 (mtX0_isSuspended l D cI cZ a0 a1 a2 a3 a4 a5 f0 f1 f2 f3 f4 f5) (fun y => y) (fun _ => rfl) [some 0, some 1, some 2, some 3, some 4, some 5] ⟨rfl, rfl⟩ (ws' := fun y => [eC a0 a1 a2 a4 a5 f0, eS a1 f1, eW a2 a3 f2, eA cI 16 a3 f3, eA cI 256 a4 f4, eA cZ 8 a5 f5]) (fun _ => ⟨⟨rfl, rfl, rfl⟩, ⟨rfl, rfl, rfl⟩, ⟨rfl, rfl, rfl⟩, ⟨rfl, rfl, rfl⟩, ⟨rfl, rfl, rfl⟩, ⟨rfl, rfl, rfl⟩, trivial⟩) (ci := 0) rfl rfl rfl rfl (Nat.le_of_ble_eq_true rfl) ⟨Nat.le_of_ble_eq_true rfl, Nat.le_of_ble_eq_true rfl⟩ dX0_obeyWithByte_78 ⟨Nat.le_refl 0, Nat.le_refl 0⟩ (fun y6 => ?_)
    refine VF.callVi C (b := a0) (As := [.int y6]) (rest := []) lk_X0_178 (mtX0_mayBegin l D cI cZ a0 a1 a2 a3 a4 a5 f0 f1 f2 f3 f4 f5 y6) (fun y => y.1) (fun _ => rfl) [some 0, some 1, some 2, some 3, some 4, some 5] ⟨rfl, rfl⟩ (ws' := fun y => [eC a0 a1 a2 a4 a5 y.2, eS a1 f1, eW a2 a3 f2, eA cI 16 a3 f3, eA cI 256 a4 f4, eA cZ 8 a5 f5]) (fun _ => ⟨⟨rfl, rfl, rfl⟩, ⟨rfl, rfl, rfl⟩, ⟨rfl, rfl, rfl⟩, ⟨rfl, rfl, rfl⟩, ⟨rfl, rfl, rfl⟩, ⟨rfl, rfl, rfl⟩, trivial⟩) (ci := 0) rfl rfl rfl rfl (Nat.le_of_ble_eq_true rfl) ⟨Nat.le_of_ble_eq_true rfl, Nat.le_of_ble_eq_true rfl⟩ dX0_obeyWithByte_81 ⟨Nat.le_refl 0, Nat.le_refl 0⟩ (fun y7 => ?_)
    refine VF.if_eq C 139 dX0_obeyWithByte_84 rfl (fun h2 => ?_) (fun h2 => ?_)
    · exact VF.vret C rfl rfl dX0_obeyWithByte_139
    · refine VF.aload_n C 0 dX0_obeyWithByte_87 rfl ?_
      refine VF.iload_n C 1 dX0_obeyWithByte_88 rfl ?_
      refine VF.iconst C dX0_obeyWithByte_89 kc_4 ?_
      refine VF.idivK C (by decide) dX0_obeyWithByte_90 ?_
      refine VF.bipush C dX0_obeyWithByte_91 kb_8 ?_
      refine VF.iremK C (by decide) dX0_obeyWithByte_93 ?_
      refine VF.put C fl_X0_51 tyX0 tyX0_ok nmX0 0 rfl rfl rfl (Nat.le_of_ble_eq_true rfl) (ws' := [eC a0 a1 a2 a4 a5 (upd y7.2 5 (irm (u1 / 4) 8)), eS a1 f1, eW a2 a3 f2, eA cI 16 a3 f3, eA cI 256 a4 f4, eA cZ 8 a5 f5]) rfl dX0_obeyWithByte_94 ?_
      refine VF.goto C 139 dX0_obeyWithByte_97 rfl ?_
      exact VF.vret C rfl rfl dX0_obeyWithByte_139
  refine VF.ite (fun h3 => ?_) (fun h3 => ?_)
  · refine VF.lookup (off := 74) C 100 dX0_obeyWithByte_26 (by decide) (by rw [h3]; decide) rfl ?_
    refine VF.aload_n C 0 dX0_obeyWithByte_100 rfl ?_
    refine VF.iload_n C 2 dX0_obeyWithByte_101 rfl ?_
    refine VF.callVv C (b := a0) (As := [.int y4]) (rest := []) lk_X0_182 (mtX0_beginErase l D cI cZ a0 a1 a2 a3 a4 a5 f0 f1 f2 f3 f4 f5 y4) (fun _ => rfl) [some 0, some 1, some 2, some 3, some 4, some 5] ⟨rfl, rfl⟩ (ws' := fun y => [eC a0 a1 a2 a4 a5 y, eS a1 f1, eW a2 a3 f2, eA cI 16 a3 f3, eA cI 256 a4 f4, eA cZ 8 a5 f5]) (fun _ => ⟨⟨rfl, rfl, rfl⟩, ⟨rfl, rfl, rfl⟩, ⟨rfl, rfl, rfl⟩, ⟨rfl, rfl, rfl⟩, ⟨rfl, rfl, rfl⟩, ⟨rfl, rfl, rfl⟩, trivial⟩) (ci := 0) rfl rfl rfl rfl (Nat.le_of_ble_eq_true rfl) ⟨Nat.le_of_ble_eq_true rfl, Nat.le_of_ble_eq_true rfl⟩ dX0_obeyWithByte_102 ⟨Nat.le_refl 0, Nat.le_refl 0⟩ (fun y8 => ?_)
    refine VF.goto C 139 dX0_obeyWithByte_105 rfl ?_
    exact VF.vret C rfl rfl dX0_obeyWithByte_139
  refine VF.ite (fun h4 => ?_) (fun h4 => ?_)
  · refine VF.lookup (off := 82) C 108 dX0_obeyWithByte_26 (by decide) (by rw [h4]; decide) rfl ?_
    refine VF.iload_n C 1 dX0_obeyWithByte_108 rfl ?_
    refine VF.iconst C dX0_obeyWithByte_109 kc_3 ?_
    refine VF.icmp_gt C 139 dX0_obeyWithByte_110 rfl (fun h5 => ?_) (fun h5 => ?_)
    · exact VF.vret C rfl rfl dX0_obeyWithByte_139
    · refine VF.aload_n C 0 dX0_obeyWithByte_113 rfl ?_
      refine VF.iload_n C 1 dX0_obeyWithByte_114 rfl ?_
      refine VF.put C fl_X0_47 tyX0 tyX0_ok nmX0 0 rfl rfl rfl (Nat.le_of_ble_eq_true rfl) (ws' := [eC a0 a1 a2 a4 a5 (upd f0 4 u1), eS a1 f1, eW a2 a3 f2, eA cI 16 a3 f3, eA cI 256 a4 f4, eA cZ 8 a5 f5]) rfl dX0_obeyWithByte_115 ?_
      refine VF.goto C 139 dX0_obeyWithByte_118 rfl ?_
      exact VF.vret C rfl rfl dX0_obeyWithByte_139
  refine VF.ite (fun h6 => ?_) (fun h6 => ?_)
  · refine VF.lookup (off := 95) C 121 dX0_obeyWithByte_26 (by decide) (by rw [h6]; decide) rfl ?_
    refine VF.aload_n C 0 dX0_obeyWithByte_121 rfl ?_
    refine VF.iload_n C 2 dX0_obeyWithByte_122 rfl ?_
    refine VF.iconst C dX0_obeyWithByte_123 kc_1 ?_
    refine VF.callVv C (b := a0) (As := [.int y4, .int 1]) (rest := []) lk_X0_185 (mtX0_setLocked l D cI cZ a0 a1 a2 a3 a4 a5 f0 f1 f2 f3 f4 f5 y4 1) (fun _ => rfl) [some 0, some 1, some 2, some 3, some 4, some 5] ⟨rfl, rfl⟩ (ws' := fun y => [eC a0 a1 a2 a4 a5 f0, eS a1 f1, eW a2 a3 f2, eA cI 16 a3 f3, eA cI 256 a4 f4, eA cZ 8 a5 y]) (fun _ => ⟨⟨rfl, rfl, rfl⟩, ⟨rfl, rfl, rfl⟩, ⟨rfl, rfl, rfl⟩, ⟨rfl, rfl, rfl⟩, ⟨rfl, rfl, rfl⟩, ⟨rfl, rfl, rfl⟩, trivial⟩) (ci := 0) rfl rfl rfl rfl (Nat.le_of_ble_eq_true rfl) ⟨Nat.le_of_ble_eq_true rfl, Nat.le_of_ble_eq_true rfl⟩ dX0_obeyWithByte_124 ⟨Nat.le_refl 0, Nat.le_refl 0⟩ (fun y9 => ?_)
    refine VF.goto C 139 dX0_obeyWithByte_127 rfl ?_
    exact VF.vret C rfl rfl dX0_obeyWithByte_139
  refine VF.ite (fun h7 => ?_) (fun h7 => ?_)
  · refine VF.lookup (off := 104) C 130 dX0_obeyWithByte_26 (by decide) (by rw [h7]; decide) rfl ?_
    refine VF.aload_n C 0 dX0_obeyWithByte_130 rfl ?_
    refine VF.iload_n C 2 dX0_obeyWithByte_131 rfl ?_
    refine VF.iconst C dX0_obeyWithByte_132 kc_0 ?_
    refine VF.callVv C (b := a0) (As := [.int y4, .int 0]) (rest := []) lk_X0_185 (mtX0_setLocked l D cI cZ a0 a1 a2 a3 a4 a5 f0 f1 f2 f3 f4 f5 y4 0) (fun _ => rfl) [some 0, some 1, some 2, some 3, some 4, some 5] ⟨rfl, rfl⟩ (ws' := fun y => [eC a0 a1 a2 a4 a5 f0, eS a1 f1, eW a2 a3 f2, eA cI 16 a3 f3, eA cI 256 a4 f4, eA cZ 8 a5 y]) (fun _ => ⟨⟨rfl, rfl, rfl⟩, ⟨rfl, rfl, rfl⟩, ⟨rfl, rfl, rfl⟩, ⟨rfl, rfl, rfl⟩, ⟨rfl, rfl, rfl⟩, ⟨rfl, rfl, rfl⟩, trivial⟩) (ci := 0) rfl rfl rfl rfl (Nat.le_of_ble_eq_true rfl) ⟨Nat.le_of_ble_eq_true rfl, Nat.le_of_ble_eq_true rfl⟩ dX0_obeyWithByte_133 ⟨Nat.le_refl 0, Nat.le_refl 0⟩ (fun y10 => ?_)
    refine VF.goto C 139 dX0_obeyWithByte_136 rfl ?_
    exact VF.vret C rfl rfl dX0_obeyWithByte_139
  refine VF.lookup (off := 113) C 139 dX0_obeyWithByte_26 (by decide) (Eq.trans (lv_osw h1 (k := 1) rfl) (Eq.trans (lv_osw h3 (k := 32) rfl) (Eq.trans (lv_osw h4 (k := 49) rfl) (Eq.trans (lv_osw h6 (k := 54) rfl) (Eq.trans (lv_osw h7 (k := 57) rfl) (rfl)))))) rfl ?_
  exact VF.vret C rfl rfl dX0_obeyWithByte_139
set_option maxHeartbeats 4000000 in
set_option maxRecDepth 100000 in
theorem mtX0_beginProgram (l : Launch) (D : va_G) (cI cZ : ClassId) (a0 a1 a2 a3 a4 a5 : Nat) (f0 f1 f2 f3 f4 f5 : Fn) (u1 : Int32) : Ctr l yX0_beginProgram cX0_beginProgram 5 none 2 42 D cI cZ [.ref a0, .int u1] [eC a0 a1 a2 a4 a5 f0, eS a1 f1, eW a2 a3 f2, eA cI 16 a3 f3, eA cI 256 a4 f4, eA cZ 8 a5 f5] (zX0_beginProgram f0 f1 f3 f4 f5 u1) (fun _ : Fn × Fn => (none : Option Value)) (fun y : Fn × Fn => [eC a0 a1 a2 a4 a5 y.1, eS a1 f1, eW a2 a3 f2, eA cI 16 a3 f3, eA cI 256 a4 y.2, eA cZ 8 a5 f5]) := by
  refine Ctr.of (by decide) (Nat.le_of_ble_eq_true rfl) ?_
  intro p e s m below meth c A C
  have C : CX p s m ([.ref a0, .int u1] : List Value).toArray meth c cX0_beginProgram 5 RX0 D cI cZ A none := C
  have k58 : ∀ (n : Nat) (x2 : Int32) (x3 : Int32) (x4 : Int32) (f0 : Fn) (f4 : Fn), VF p l e { frames := 2, cells := 0, slots := 0, locals := 42 } s m ([.ref a0, .int u1] : List Value).toArray below meth c 0 0 D A 5 (fun r => MQ below (QcX ((fun _ : Fn × Fn => (none : Option Value)) r) D ((fun y : Fn × Fn => [eC a0 a1 a2 a4 a5 y.1, eS a1 f1, eW a2 a3 f2, eA cI 16 a3 f3, eA cI 256 a4 y.2, eA cZ 8 a5 f5]) r) A) ([.ref a0, .int u1] : List Value).toArray s 0 0 A) (zX0_beginProgram_k58 n f0 f1 f3 f4 f5 x2 x3 x4) [eC a0 a1 a2 a4 a5 f0, eS a1 f1, eW a2 a3 f2, eA cI 16 a3 f3, eA cI 256 a4 f4, eA cZ 8 a5 f5] 58 [(0, .ref a0), (2, .int x2), (3, .int x3), (4, .int x4)] [] := by
    intro n
    induction n with
    | zero =>
      intro x2 x3 x4 f0 f4
      exact VF.eq (zX0_beginProgram_k58.eq_1 _ _ _ _ _ _ _ _) VF.nn
    | succ n ih =>
      intro x2 x3 x4 f0 f4
      refine VF.eq (zX0_beginProgram_k58.eq_2 _ _ _ _ _ _ _ _ _) ?_
      refine VF.iload C 3 dX0_beginProgram_58 rfl ?_
      refine VF.aload_n C 0 dX0_beginProgram_60 rfl ?_
      refine VF.get C fl_X0_12 0 rfl rfl dX0_beginProgram_61 ?_
      refine VF.callVi C (b := a1) (As := []) (rest := [.int x4]) lk_X0_126 (mtX1_pageBytes l D cI cZ a1 f1) (fun y => y) (fun _ => rfl) [none, some 0, none, none, none, none] ⟨rfl, rfl⟩ (ws' := fun y => [eC a0 a1 a2 a4 a5 f0, eS a1 f1, eW a2 a3 f2, eA cI 16 a3 f3, eA cI 256 a4 f4, eA cZ 8 a5 f5]) (fun _ => ⟨rfl, ⟨rfl, rfl, rfl⟩, rfl, rfl, rfl, rfl, trivial⟩) (ci := 1) rfl rfl rfl rfl (Nat.le_of_ble_eq_true rfl) ⟨Nat.le_of_ble_eq_true rfl, Nat.le_of_ble_eq_true rfl⟩ dX0_beginProgram_64 ⟨Nat.le_refl 0, Nat.le_refl 0⟩ (fun y7 => ?_)
      refine VF.icmp_ge C 102 dX0_beginProgram_67 rfl (fun h4 => ?_) (fun h4 => ?_)
      · refine VF.aload_n C 0 dX0_beginProgram_102 rfl ?_
        refine VF.iconst C dX0_beginProgram_103 kc_2 ?_
        refine VF.iload_n C 1 dX0_beginProgram_104 rfl ?_
        refine VF.aload_n C 0 dX0_beginProgram_105 rfl ?_
        refine VF.get C fl_X0_12 0 rfl rfl dX0_beginProgram_106 ?_
        refine VF.callVi C (b := a1) (As := []) (rest := [.int x2, .int 2, .ref a0]) lk_X0_198 (mtX1_programTicks l D cI cZ a1 f1) (fun y => y) (fun _ => rfl) [none, some 0, none, none, none, none] ⟨rfl, rfl⟩ (ws' := fun y => [eC a0 a1 a2 a4 a5 f0, eS a1 f1, eW a2 a3 f2, eA cI 16 a3 f3, eA cI 256 a4 f4, eA cZ 8 a5 f5]) (fun _ => ⟨rfl, ⟨rfl, rfl, rfl⟩, rfl, rfl, rfl, rfl, trivial⟩) (ci := 1) rfl rfl rfl rfl (Nat.le_of_ble_eq_true rfl) ⟨Nat.le_of_ble_eq_true rfl, Nat.le_of_ble_eq_true rfl⟩ dX0_beginProgram_109 ⟨Nat.le_refl 0, Nat.le_refl 0⟩ (fun y8 => ?_)
        refine VF.callVv C (b := a0) (As := [.int 2, .int x2, .int y8]) (rest := []) lk_X0_201 (mtX0_begin l D cI cZ a0 a1 a2 a3 a4 a5 f0 f1 f2 f3 f4 f5 2 x2 y8) (fun _ => rfl) [some 0, some 1, some 2, some 3, some 4, some 5] ⟨rfl, rfl⟩ (ws' := fun y => [eC a0 a1 a2 a4 a5 y, eS a1 f1, eW a2 a3 f2, eA cI 16 a3 f3, eA cI 256 a4 f4, eA cZ 8 a5 f5]) (fun _ => ⟨⟨rfl, rfl, rfl⟩, ⟨rfl, rfl, rfl⟩, ⟨rfl, rfl, rfl⟩, ⟨rfl, rfl, rfl⟩, ⟨rfl, rfl, rfl⟩, ⟨rfl, rfl, rfl⟩, trivial⟩) (ci := 0) rfl rfl rfl rfl (Nat.le_of_ble_eq_true rfl) ⟨Nat.le_of_ble_eq_true rfl, Nat.le_of_ble_eq_true rfl⟩ dX0_beginProgram_112 ⟨Nat.le_refl 0, Nat.le_refl 0⟩ (fun y9 => ?_)
        exact VF.vret C rfl rfl dX0_beginProgram_115
      · refine VF.aload_n C 0 dX0_beginProgram_70 rfl ?_
        refine VF.iload_n C 2 dX0_beginProgram_71 rfl ?_
        refine VF.iload C 3 dX0_beginProgram_72 rfl ?_
        refine VF.iadd C dX0_beginProgram_74 ?_
        refine VF.aload_n C 0 dX0_beginProgram_75 rfl ?_
        refine VF.iload_n C 2 dX0_beginProgram_76 rfl ?_
        refine VF.iload C 3 dX0_beginProgram_77 rfl ?_
        refine VF.iadd C dX0_beginProgram_79 ?_
        refine VF.callVi C (b := a0) (As := [.int (x3 + x4)]) (rest := [.int (x3 + x4), .ref a0]) lk_X0_108 (mtX0_byteAt l D cI cZ a0 a1 a2 a3 a4 a5 f0 f1 f2 f3 f4 f5 (x3 + x4)) (fun y => y) (fun _ => rfl) [some 0, some 1, some 2, some 3, some 4, some 5] ⟨rfl, rfl⟩ (ws' := fun y => [eC a0 a1 a2 a4 a5 f0, eS a1 f1, eW a2 a3 f2, eA cI 16 a3 f3, eA cI 256 a4 f4, eA cZ 8 a5 f5]) (fun _ => ⟨⟨rfl, rfl, rfl⟩, ⟨rfl, rfl, rfl⟩, ⟨rfl, rfl, rfl⟩, ⟨rfl, rfl, rfl⟩, ⟨rfl, rfl, rfl⟩, ⟨rfl, rfl, rfl⟩, trivial⟩) (ci := 0) rfl rfl rfl rfl (Nat.le_of_ble_eq_true rfl) ⟨Nat.le_of_ble_eq_true rfl, Nat.le_of_ble_eq_true rfl⟩ dX0_beginProgram_80 ⟨Nat.le_refl 0, Nat.le_refl 0⟩ (fun y10 => ?_)
        refine VF.aload_n C 0 dX0_beginProgram_83 rfl ?_
        refine VF.get C fl_X0_21 0 rfl rfl dX0_beginProgram_84 ?_
        refine VF.iload C 3 dX0_beginProgram_87 rfl ?_
        refine VF.callVi C (b := a2) (As := [.int x4]) (rest := [.int y10, .int (x3 + x4), .ref a0]) lk_X0_192 (mtX3_maskAt l D cI cZ a2 a3 f2 f3 x4) (fun y => y) (fun _ => rfl) [none, none, some 0, some 1, none, none] ⟨rfl, rfl⟩ (ws' := fun y => [eC a0 a1 a2 a4 a5 f0, eS a1 f1, eW a2 a3 f2, eA cI 16 a3 f3, eA cI 256 a4 f4, eA cZ 8 a5 f5]) (fun _ => ⟨rfl, rfl, ⟨rfl, rfl, rfl⟩, ⟨rfl, rfl, rfl⟩, rfl, rfl, trivial⟩) (ci := 3) rfl rfl rfl rfl (Nat.le_of_ble_eq_true rfl) ⟨Nat.le_of_ble_eq_true rfl, Nat.le_of_ble_eq_true rfl⟩ dX0_beginProgram_89 ⟨Nat.le_refl 0, Nat.le_refl 0⟩ (fun y11 => ?_)
        refine VF.iand C dX0_beginProgram_92 ?_
        refine VF.callVv C (b := a0) (As := [.int (x3 + x4), .int (y10 &&& y11)]) (rest := []) lk_X0_195 (mtX0_setByte l D cI cZ a0 a1 a2 a3 a4 a5 f0 f1 f2 f3 f4 f5 (x3 + x4) (y10 &&& y11)) (fun _ => rfl) [some 0, some 1, some 2, some 3, some 4, some 5] ⟨rfl, rfl⟩ (ws' := fun y => [eC a0 a1 a2 a4 a5 f0, eS a1 f1, eW a2 a3 f2, eA cI 16 a3 f3, eA cI 256 a4 y, eA cZ 8 a5 f5]) (fun _ => ⟨⟨rfl, rfl, rfl⟩, ⟨rfl, rfl, rfl⟩, ⟨rfl, rfl, rfl⟩, ⟨rfl, rfl, rfl⟩, ⟨rfl, rfl, rfl⟩, ⟨rfl, rfl, rfl⟩, trivial⟩) (ci := 0) rfl rfl rfl rfl (Nat.le_of_ble_eq_true rfl) ⟨Nat.le_of_ble_eq_true rfl, Nat.le_of_ble_eq_true rfl⟩ dX0_beginProgram_93 ⟨Nat.le_refl 0, Nat.le_refl 0⟩ (fun y12 => ?_)
        refine VF.iinc C 3 [1, 2, 3, 0] dX0_beginProgram_96 rfl (v := (x4 + 1)) rfl (Nat.le_of_ble_eq_true rfl) (lv' := [(0, .ref a0), (2, .int x2), (3, .int x3), (4, .int (x4 + 1))]) rfl ?_
        refine VF.goto C 58 dX0_beginProgram_99 rfl ?_
        exact ih x2 x3 (x4 + 1) f0 y12
  have k34 : ∀ (x1 : Int32) (x2 : Int32) (t0 : Int32) (f0 : Fn) (f4 : Fn), VF p l e { frames := 2, cells := 0, slots := 0, locals := 42 } s m ([.ref a0, .int u1] : List Value).toArray below meth c 0 0 D A 5 (fun r => MQ below (QcX ((fun _ : Fn × Fn => (none : Option Value)) r) D ((fun y : Fn × Fn => [eC a0 a1 a2 a4 a5 y.1, eS a1 f1, eW a2 a3 f2, eA cI 16 a3 f3, eA cI 256 a4 y.2, eA cZ 8 a5 f5]) r) A) ([.ref a0, .int u1] : List Value).toArray s 0 0 A) (zX0_beginProgram_k34 f0 f1 f3 f4 f5 x1 x2 t0) [eC a0 a1 a2 a4 a5 f0, eS a1 f1, eW a2 a3 f2, eA cI 16 a3 f3, eA cI 256 a4 f4, eA cZ 8 a5 f5] 34 [(0, .ref a0), (1, .int x1), (2, .int x2)] [.int t0, .ref a0] := by
    intro x1 x2 t0 f0 f4
    refine VF.eq (zX0_beginProgram_k34.eq_1 f0 f1 f3 f4 f5 x1 x2 t0) ?_
    refine VF.callVi C (b := a0) (As := [.int t0]) (rest := []) lk_X0_178 (mtX0_mayBegin l D cI cZ a0 a1 a2 a3 a4 a5 f0 f1 f2 f3 f4 f5 t0) (fun y => y.1) (fun _ => rfl) [some 0, some 1, some 2, some 3, some 4, some 5] ⟨rfl, rfl⟩ (ws' := fun y => [eC a0 a1 a2 a4 a5 y.2, eS a1 f1, eW a2 a3 f2, eA cI 16 a3 f3, eA cI 256 a4 f4, eA cZ 8 a5 f5]) (fun _ => ⟨⟨rfl, rfl, rfl⟩, ⟨rfl, rfl, rfl⟩, ⟨rfl, rfl, rfl⟩, ⟨rfl, rfl, rfl⟩, ⟨rfl, rfl, rfl⟩, ⟨rfl, rfl, rfl⟩, trivial⟩) (ci := 0) rfl rfl rfl rfl (Nat.le_of_ble_eq_true rfl) ⟨Nat.le_of_ble_eq_true rfl, Nat.le_of_ble_eq_true rfl⟩ dX0_beginProgram_34 ⟨Nat.le_refl 0, Nat.le_refl 0⟩ (fun y4 => ?_)
    refine VF.if_ne C 41 dX0_beginProgram_37 rfl (fun h3 => ?_) (fun h3 => ?_)
    · refine VF.iload_n C 1 dX0_beginProgram_41 rfl ?_
      refine VF.iload_n C 1 dX0_beginProgram_42 rfl ?_
      refine VF.aload_n C 0 dX0_beginProgram_43 rfl ?_
      refine VF.get C fl_X0_12 0 rfl rfl dX0_beginProgram_44 ?_
      refine VF.callVi C (b := a1) (As := []) (rest := [.int x1, .int x1]) lk_X0_126 (mtX1_pageBytes l D cI cZ a1 f1) (fun y => y) (fun _ => rfl) [none, some 0, none, none, none, none] ⟨rfl, rfl⟩ (ws' := fun y => [eC a0 a1 a2 a4 a5 y4.2, eS a1 f1, eW a2 a3 f2, eA cI 16 a3 f3, eA cI 256 a4 f4, eA cZ 8 a5 f5]) (fun _ => ⟨rfl, ⟨rfl, rfl, rfl⟩, rfl, rfl, rfl, rfl, trivial⟩) (ci := 1) rfl rfl rfl rfl (Nat.le_of_ble_eq_true rfl) ⟨Nat.le_of_ble_eq_true rfl, Nat.le_of_ble_eq_true rfl⟩ dX0_beginProgram_47 ⟨Nat.le_refl 0, Nat.le_refl 0⟩ (fun y5 => ?_)
      refine VF.callNi C (As := [.int x1, .int y5]) (rest := [.int x1]) (hnw := C.2.2.2.2.2.2.1.1) lkn_X4_remainder (mtX4_remainder l D cI cZ x1 y5) (fun y => y) (fun _ => rfl) [none, none, none, none, none, none] ⟨rfl, rfl⟩ (ws' := fun y => [eC a0 a1 a2 a4 a5 y4.2, eS a1 f1, eW a2 a3 f2, eA cI 16 a3 f3, eA cI 256 a4 f4, eA cZ 8 a5 f5]) (fun _ => ⟨rfl, rfl, rfl, rfl, rfl, rfl, trivial⟩) rfl rfl (Nat.le_of_ble_eq_true rfl) ⟨Nat.le_of_ble_eq_true rfl, Nat.le_of_ble_eq_true rfl⟩ dX0_beginProgram_50 ⟨Nat.le_refl 0, Nat.le_refl 0⟩ (fun y6 => ?_)
      refine VF.isub C dX0_beginProgram_53 ?_
      refine VF.istore_n C [1, 2, 3, 0] dX0_beginProgram_54 rfl (Nat.le_of_ble_eq_true rfl) (lv' := [(0, .ref a0), (1, .int x1), (2, .int x2), (3, .int (x1 - y6))]) rfl ?_
      refine VF.iconst C dX0_beginProgram_55 kc_0 ?_
      refine VF.istore C [1, 2, 3, 4, 0] dX0_beginProgram_56 (Nat.le_of_ble_eq_true rfl) (lv' := [(0, .ref a0), (1, .int x1), (2, .int x2), (3, .int (x1 - y6)), (4, .int 0)]) rfl ?_
      exact VF.lvs [0, 2, 3, 4] rfl (k58 4096 x2 (x1 - y6) 0 y4.2 f4)
    · exact VF.vret C rfl rfl dX0_beginProgram_40
  refine VF.lve (lv' := [(0, .ref a0), (1, .int u1)]) rfl ?_
  refine VF.eq (zX0_beginProgram.eq_1 f0 f1 f3 f4 f5 u1) ?_
  refine VF.iload_n C 1 dX0_beginProgram_0 rfl ?_
  refine VF.aload_n C 0 dX0_beginProgram_1 rfl ?_
  refine VF.get C fl_X0_12 0 rfl rfl dX0_beginProgram_2 ?_
  refine VF.callVi C (b := a1) (As := []) (rest := [.int u1]) lk_X0_105 (mtX1_sectorBytes l D cI cZ a1 f1) (fun y => y) (fun _ => rfl) [none, some 0, none, none, none, none] ⟨rfl, rfl⟩ (ws' := fun y => [eC a0 a1 a2 a4 a5 f0, eS a1 f1, eW a2 a3 f2, eA cI 16 a3 f3, eA cI 256 a4 f4, eA cZ 8 a5 f5]) (fun _ => ⟨rfl, ⟨rfl, rfl, rfl⟩, rfl, rfl, rfl, rfl, trivial⟩) (ci := 1) rfl rfl rfl rfl (Nat.le_of_ble_eq_true rfl) ⟨Nat.le_of_ble_eq_true rfl, Nat.le_of_ble_eq_true rfl⟩ dX0_beginProgram_5 ⟨Nat.le_refl 0, Nat.le_refl 0⟩ (fun y1 => ?_)
  refine VF.callNi C (As := [.int u1, .int y1]) (rest := []) (hnw := C.2.2.2.2.2.2.1.2.1) lkn_X4_quotient (mtX4_quotient l D cI cZ u1 y1) (fun y => y) (fun _ => rfl) [none, none, none, none, none, none] ⟨rfl, rfl⟩ (ws' := fun y => [eC a0 a1 a2 a4 a5 f0, eS a1 f1, eW a2 a3 f2, eA cI 16 a3 f3, eA cI 256 a4 f4, eA cZ 8 a5 f5]) (fun _ => ⟨rfl, rfl, rfl, rfl, rfl, rfl, trivial⟩) rfl rfl (Nat.le_of_ble_eq_true rfl) ⟨Nat.le_of_ble_eq_true rfl, Nat.le_of_ble_eq_true rfl⟩ dX0_beginProgram_8 ⟨Nat.le_refl 0, Nat.le_refl 0⟩ (fun y2 => ?_)
  refine VF.istore_n C [1, 2, 0] dX0_beginProgram_11 rfl (Nat.le_of_ble_eq_true rfl) (lv' := [(0, .ref a0), (1, .int u1), (2, .int y2)]) rfl ?_
  refine VF.aload_n C 0 dX0_beginProgram_12 rfl ?_
  refine VF.aload_n C 0 dX0_beginProgram_13 rfl ?_
  refine VF.iload_n C 2 dX0_beginProgram_14 rfl ?_
  refine VF.callVi C (b := a0) (As := [.int y2]) (rest := [.ref a0]) lk_X0_189 (mtX0_isGuarded l D cI cZ a0 a1 a2 a3 a4 a5 f0 f1 f2 f3 f4 f5 y2) (fun y => y) (fun _ => rfl) [some 0, some 1, some 2, some 3, some 4, some 5] ⟨rfl, rfl⟩ (ws' := fun y => [eC a0 a1 a2 a4 a5 f0, eS a1 f1, eW a2 a3 f2, eA cI 16 a3 f3, eA cI 256 a4 f4, eA cZ 8 a5 f5]) (fun _ => ⟨⟨rfl, rfl, rfl⟩, ⟨rfl, rfl, rfl⟩, ⟨rfl, rfl, rfl⟩, ⟨rfl, rfl, rfl⟩, ⟨rfl, rfl, rfl⟩, ⟨rfl, rfl, rfl⟩, trivial⟩) (ci := 0) rfl rfl rfl rfl (Nat.le_of_ble_eq_true rfl) ⟨Nat.le_of_ble_eq_true rfl, Nat.le_of_ble_eq_true rfl⟩ dX0_beginProgram_15 ⟨Nat.le_refl 0, Nat.le_refl 0⟩ (fun y3 => ?_)
  refine VF.if_ne C 29 dX0_beginProgram_18 rfl (fun h1 => ?_) (fun h1 => ?_)
  · refine VF.iconst C dX0_beginProgram_29 kc_1 ?_
    refine VF.goto C 34 dX0_beginProgram_30 rfl ?_
    exact k34 u1 y2 1 f0 f4
  · refine VF.aload_n C 0 dX0_beginProgram_21 rfl ?_
    refine VF.get C fl_X0_70 0 rfl rfl dX0_beginProgram_22 ?_
    refine VF.iload_n C 2 dX0_beginProgram_25 rfl ?_
    refine VF.icmp_ne C 33 dX0_beginProgram_26 rfl (fun h2 => ?_) (fun h2 => ?_)
    · refine VF.iconst C dX0_beginProgram_33 kc_0 ?_
      exact k34 u1 y2 0 f0 f4
    · refine VF.iconst C dX0_beginProgram_29 kc_1 ?_
      refine VF.goto C 34 dX0_beginProgram_30 rfl ?_
      exact k34 u1 y2 1 f0 f4
set_option maxHeartbeats 4000000 in
set_option maxRecDepth 100000 in
theorem mtX0_close (l : Launch) (D : va_G) (cI cZ : ClassId) (a0 a1 a2 a3 a4 a5 : Nat) (f0 f1 f2 f3 f4 f5 : Fn) : Ctr l yX0_close cX0_close 3 none 4 85 D cI cZ [.ref a0] [eC a0 a1 a2 a4 a5 f0, eS a1 f1, eW a2 a3 f2, eA cI 16 a3 f3, eA cI 256 a4 f4, eA cZ 8 a5 f5] (zX0_close f0 f1 f2 f3 f4 f5) (fun _ : Fn × Fn × Fn × Fn × Fn => (none : Option Value)) (fun y : Fn × Fn × Fn × Fn × Fn => [eC a0 a1 a2 a4 a5 y.1, eS a1 f1, eW a2 a3 y.2.1, eA cI 16 a3 y.2.2.1, eA cI 256 a4 y.2.2.2.1, eA cZ 8 a5 y.2.2.2.2]) := by
  refine Ctr.of (by decide) (Nat.le_of_ble_eq_true rfl) ?_
  intro p e s m below meth c A C
  have C : CX p s m ([.ref a0] : List Value).toArray meth c cX0_close 3 RX0 D cI cZ A none := C
  refine VF.lve (lv' := [(0, .ref a0)]) rfl ?_
  refine VF.eq (zX0_close.eq_1 f0 f1 f2 f3 f4 f5) ?_
  refine VF.aload_n C 0 dX0_close_0 rfl ?_
  refine VF.get C fl_X0_82 0 rfl rfl dX0_close_1 ?_
  refine VF.istore_n C [1, 0] dX0_close_4 rfl (Nat.le_of_ble_eq_true rfl) (lv' := [(0, .ref a0), (1, .int (f0 15))]) rfl ?_
  refine VF.aload_n C 0 dX0_close_5 rfl ?_
  refine VF.iconst C dX0_close_6 kc_0 ?_
  refine VF.putbK C fl_X0_82 tyX0 tyX0_ok nmX0 0 (Or.inl rfl) rfl rfl rfl (Nat.le_of_ble_eq_true rfl) (ws' := [eC a0 a1 a2 a4 a5 (upd f0 15 0), eS a1 f1, eW a2 a3 f2, eA cI 16 a3 f3, eA cI 256 a4 f4, eA cZ 8 a5 f5]) rfl dX0_close_7 ?_
  refine VF.aload_n C 0 dX0_close_10 rfl ?_
  refine VF.get C fl_X0_21 0 rfl rfl dX0_close_11 ?_
  refine VF.callVi C (b := a2) (As := []) (rest := []) lk_X0_92 (mtX3_puts l D cI cZ a2 a3 f2 f3) (fun y => y) (fun _ => rfl) [none, none, some 0, some 1, none, none] ⟨rfl, rfl⟩ (ws' := fun y => [eC a0 a1 a2 a4 a5 (upd f0 15 0), eS a1 f1, eW a2 a3 f2, eA cI 16 a3 f3, eA cI 256 a4 f4, eA cZ 8 a5 f5]) (fun _ => ⟨rfl, rfl, ⟨rfl, rfl, rfl⟩, ⟨rfl, rfl, rfl⟩, rfl, rfl, trivial⟩) (ci := 3) rfl rfl rfl rfl (Nat.le_of_ble_eq_true rfl) ⟨Nat.le_of_ble_eq_true rfl, Nat.le_of_ble_eq_true rfl⟩ dX0_close_14 ⟨Nat.le_refl 0, Nat.le_refl 0⟩ (fun y1 => ?_)
  refine VF.iconst C dX0_close_17 kc_1 ?_
  refine VF.isub C dX0_close_18 ?_
  refine VF.istore_n C [1, 2, 0] dX0_close_19 rfl (Nat.le_of_ble_eq_true rfl) (lv' := [(0, .ref a0), (1, .int (f0 15)), (2, .int (y1 - 1))]) rfl ?_
  refine VF.aload_n C 0 dX0_close_20 rfl ?_
  refine VF.callVi C (b := a0) (As := []) (rest := []) lk_X0_99 (mtX0_isBusy l D cI cZ a0 a1 a2 a3 a4 a5 (upd f0 15 0) f1 f2 f3 f4 f5) (fun y => y) (fun _ => rfl) [some 0, some 1, some 2, some 3, some 4, some 5] ⟨rfl, rfl⟩ (ws' := fun y => [eC a0 a1 a2 a4 a5 (upd f0 15 0), eS a1 f1, eW a2 a3 f2, eA cI 16 a3 f3, eA cI 256 a4 f4, eA cZ 8 a5 f5]) (fun _ => ⟨⟨rfl, rfl, rfl⟩, ⟨rfl, rfl, rfl⟩, ⟨rfl, rfl, rfl⟩, ⟨rfl, rfl, rfl⟩, ⟨rfl, rfl, rfl⟩, ⟨rfl, rfl, rfl⟩, trivial⟩) (ci := 0) rfl rfl rfl rfl (Nat.le_of_ble_eq_true rfl) ⟨Nat.le_of_ble_eq_true rfl, Nat.le_of_ble_eq_true rfl⟩ dX0_close_21 ⟨Nat.le_refl 0, Nat.le_refl 0⟩ (fun y2 => ?_)
  refine VF.if_eq C 50 dX0_close_24 rfl (fun h1 => ?_) (fun h1 => ?_)
  · refine VF.iload_n C 2 dX0_close_50 rfl ?_
    refine VF.if_ne C 62 dX0_close_51 rfl (fun h2 => ?_) (fun h2 => ?_)
    · refine VF.iload_n C 2 dX0_close_62 rfl ?_
      refine VF.iconst C dX0_close_63 kc_1 ?_
      refine VF.icmp_ne C 81 dX0_close_64 rfl (fun h3 => ?_) (fun h3 => ?_)
      · refine VF.iload_n C 2 dX0_close_81 rfl ?_
        refine VF.iconst C dX0_close_82 kc_1 ?_
        refine VF.icmp_le C 115 dX0_close_83 rfl (fun h4 => ?_) (fun h4 => ?_)
        · refine VF.aload_n C 0 dX0_close_115 rfl ?_
          refine VF.get C fl_X0_21 0 rfl rfl dX0_close_116 ?_
          refine VF.callVv C (b := a2) (As := []) (rest := []) lk_X0_40 (mtX3_clear l D cI cZ a2 a3 f2 f3) (fun _ => rfl) [none, none, some 0, some 1, none, none] ⟨rfl, rfl⟩ (ws' := fun y => [eC a0 a1 a2 a4 a5 (upd f0 15 0), eS a1 f1, eW a2 a3 y.1, eA cI 16 a3 y.2, eA cI 256 a4 f4, eA cZ 8 a5 f5]) (fun _ => ⟨rfl, rfl, ⟨rfl, rfl, rfl⟩, ⟨rfl, rfl, rfl⟩, rfl, rfl, trivial⟩) (ci := 3) rfl rfl rfl rfl (Nat.le_of_ble_eq_true rfl) ⟨Nat.le_of_ble_eq_true rfl, Nat.le_of_ble_eq_true rfl⟩ dX0_close_119 ⟨Nat.le_refl 0, Nat.le_refl 0⟩ (fun y3 => ?_)
          exact VF.vret C rfl rfl dX0_close_122
        · refine VF.aload_n C 0 dX0_close_86 rfl ?_
          refine VF.get C fl_X0_21 0 rfl rfl dX0_close_87 ?_
          refine VF.callVi C (b := a2) (As := []) (rest := []) lk_X0_133 (mtX3_command l D cI cZ a2 a3 f2 f3) (fun y => y) (fun _ => rfl) [none, none, some 0, some 1, none, none] ⟨rfl, rfl⟩ (ws' := fun y => [eC a0 a1 a2 a4 a5 (upd f0 15 0), eS a1 f1, eW a2 a3 f2, eA cI 16 a3 f3, eA cI 256 a4 f4, eA cZ 8 a5 f5]) (fun _ => ⟨rfl, rfl, ⟨rfl, rfl, rfl⟩, ⟨rfl, rfl, rfl⟩, rfl, rfl, trivial⟩) (ci := 3) rfl rfl rfl rfl (Nat.le_of_ble_eq_true rfl) ⟨Nat.le_of_ble_eq_true rfl, Nat.le_of_ble_eq_true rfl⟩ dX0_close_90 ⟨Nat.le_refl 0, Nat.le_refl 0⟩ (fun y4 => ?_)
          refine VF.iconst C dX0_close_93 kc_2 ?_
          refine VF.icmp_ne C 115 dX0_close_94 rfl (fun h5 => ?_) (fun h5 => ?_)
          · refine VF.aload_n C 0 dX0_close_115 rfl ?_
            refine VF.get C fl_X0_21 0 rfl rfl dX0_close_116 ?_
            refine VF.callVv C (b := a2) (As := []) (rest := []) lk_X0_40 (mtX3_clear l D cI cZ a2 a3 f2 f3) (fun _ => rfl) [none, none, some 0, some 1, none, none] ⟨rfl, rfl⟩ (ws' := fun y => [eC a0 a1 a2 a4 a5 (upd f0 15 0), eS a1 f1, eW a2 a3 y.1, eA cI 16 a3 y.2, eA cI 256 a4 f4, eA cZ 8 a5 f5]) (fun _ => ⟨rfl, rfl, ⟨rfl, rfl, rfl⟩, ⟨rfl, rfl, rfl⟩, rfl, rfl, trivial⟩) (ci := 3) rfl rfl rfl rfl (Nat.le_of_ble_eq_true rfl) ⟨Nat.le_of_ble_eq_true rfl, Nat.le_of_ble_eq_true rfl⟩ dX0_close_119 ⟨Nat.le_refl 0, Nat.le_refl 0⟩ (fun y5 => ?_)
            exact VF.vret C rfl rfl dX0_close_122
          · refine VF.aload_n C 0 dX0_close_97 rfl ?_
            refine VF.aload_n C 0 dX0_close_98 rfl ?_
            refine VF.get C fl_X0_21 0 rfl rfl dX0_close_99 ?_
            refine VF.callVi C (b := a2) (As := []) (rest := [.ref a0]) lk_X0_142 (mtX3_first l D cI cZ a2 a3 f2 f3) (fun y => y) (fun _ => rfl) [none, none, some 0, some 1, none, none] ⟨rfl, rfl⟩ (ws' := fun y => [eC a0 a1 a2 a4 a5 (upd f0 15 0), eS a1 f1, eW a2 a3 f2, eA cI 16 a3 f3, eA cI 256 a4 f4, eA cZ 8 a5 f5]) (fun _ => ⟨rfl, rfl, ⟨rfl, rfl, rfl⟩, ⟨rfl, rfl, rfl⟩, rfl, rfl, trivial⟩) (ci := 3) rfl rfl rfl rfl (Nat.le_of_ble_eq_true rfl) ⟨Nat.le_of_ble_eq_true rfl, Nat.le_of_ble_eq_true rfl⟩ dX0_close_102 ⟨Nat.le_refl 0, Nat.le_refl 0⟩ (fun y6 => ?_)
            refine VF.aload_n C 0 dX0_close_105 rfl ?_
            refine VF.callVi C (b := a0) (As := []) (rest := [.int y6, .ref a0]) lk_X0_112 (mtX0_all l D cI cZ a0 a1 a2 a3 a4 a5 (upd f0 15 0) f1 f2 f3 f4 f5) (fun y => y) (fun _ => rfl) [some 0, some 1, some 2, some 3, some 4, some 5] ⟨rfl, rfl⟩ (ws' := fun y => [eC a0 a1 a2 a4 a5 (upd f0 15 0), eS a1 f1, eW a2 a3 f2, eA cI 16 a3 f3, eA cI 256 a4 f4, eA cZ 8 a5 f5]) (fun _ => ⟨⟨rfl, rfl, rfl⟩, ⟨rfl, rfl, rfl⟩, ⟨rfl, rfl, rfl⟩, ⟨rfl, rfl, rfl⟩, ⟨rfl, rfl, rfl⟩, ⟨rfl, rfl, rfl⟩, trivial⟩) (ci := 0) rfl rfl rfl rfl (Nat.le_of_ble_eq_true rfl) ⟨Nat.le_of_ble_eq_true rfl, Nat.le_of_ble_eq_true rfl⟩ dX0_close_106 ⟨Nat.le_refl 0, Nat.le_refl 0⟩ (fun y7 => ?_)
            refine VF.callNi C (As := [.int y6, .int y7]) (rest := [.ref a0]) (hnw := C.2.2.2.2.2.2.1.1) lkn_X4_remainder (mtX4_remainder l D cI cZ y6 y7) (fun y => y) (fun _ => rfl) [none, none, none, none, none, none] ⟨rfl, rfl⟩ (ws' := fun y => [eC a0 a1 a2 a4 a5 (upd f0 15 0), eS a1 f1, eW a2 a3 f2, eA cI 16 a3 f3, eA cI 256 a4 f4, eA cZ 8 a5 f5]) (fun _ => ⟨rfl, rfl, rfl, rfl, rfl, rfl, trivial⟩) rfl rfl (Nat.le_of_ble_eq_true rfl) ⟨Nat.le_of_ble_eq_true rfl, Nat.le_of_ble_eq_true rfl⟩ dX0_close_109 ⟨Nat.le_refl 0, Nat.le_refl 0⟩ (fun y8 => ?_)
            refine VF.callVv C (b := a0) (As := [.int y8]) (rest := []) lk_X0_163 (mtX0_beginProgram l D cI cZ a0 a1 a2 a3 a4 a5 (upd f0 15 0) f1 f2 f3 f4 f5 y8) (fun _ => rfl) [some 0, some 1, some 2, some 3, some 4, some 5] ⟨rfl, rfl⟩ (ws' := fun y => [eC a0 a1 a2 a4 a5 y.1, eS a1 f1, eW a2 a3 f2, eA cI 16 a3 f3, eA cI 256 a4 y.2, eA cZ 8 a5 f5]) (fun _ => ⟨⟨rfl, rfl, rfl⟩, ⟨rfl, rfl, rfl⟩, ⟨rfl, rfl, rfl⟩, ⟨rfl, rfl, rfl⟩, ⟨rfl, rfl, rfl⟩, ⟨rfl, rfl, rfl⟩, trivial⟩) (ci := 0) rfl rfl rfl rfl (Nat.le_of_ble_eq_true rfl) ⟨Nat.le_of_ble_eq_true rfl, Nat.le_of_ble_eq_true rfl⟩ dX0_close_112 ⟨Nat.le_refl 0, Nat.le_refl 0⟩ (fun y9 => ?_)
            refine VF.aload_n C 0 dX0_close_115 rfl ?_
            refine VF.get C fl_X0_21 0 rfl rfl dX0_close_116 ?_
            refine VF.callVv C (b := a2) (As := []) (rest := []) lk_X0_40 (mtX3_clear l D cI cZ a2 a3 f2 f3) (fun _ => rfl) [none, none, some 0, some 1, none, none] ⟨rfl, rfl⟩ (ws' := fun y => [eC a0 a1 a2 a4 a5 y9.1, eS a1 f1, eW a2 a3 y.1, eA cI 16 a3 y.2, eA cI 256 a4 y9.2, eA cZ 8 a5 f5]) (fun _ => ⟨rfl, rfl, ⟨rfl, rfl, rfl⟩, ⟨rfl, rfl, rfl⟩, rfl, rfl, trivial⟩) (ci := 3) rfl rfl rfl rfl (Nat.le_of_ble_eq_true rfl) ⟨Nat.le_of_ble_eq_true rfl, Nat.le_of_ble_eq_true rfl⟩ dX0_close_119 ⟨Nat.le_refl 0, Nat.le_refl 0⟩ (fun y10 => ?_)
            exact VF.vret C rfl rfl dX0_close_122
      · refine VF.aload_n C 0 dX0_close_67 rfl ?_
        refine VF.aload_n C 0 dX0_close_68 rfl ?_
        refine VF.get C fl_X0_21 0 rfl rfl dX0_close_69 ?_
        refine VF.callVi C (b := a2) (As := []) (rest := [.ref a0]) lk_X0_142 (mtX3_first l D cI cZ a2 a3 f2 f3) (fun y => y) (fun _ => rfl) [none, none, some 0, some 1, none, none] ⟨rfl, rfl⟩ (ws' := fun y => [eC a0 a1 a2 a4 a5 (upd f0 15 0), eS a1 f1, eW a2 a3 f2, eA cI 16 a3 f3, eA cI 256 a4 f4, eA cZ 8 a5 f5]) (fun _ => ⟨rfl, rfl, ⟨rfl, rfl, rfl⟩, ⟨rfl, rfl, rfl⟩, rfl, rfl, trivial⟩) (ci := 3) rfl rfl rfl rfl (Nat.le_of_ble_eq_true rfl) ⟨Nat.le_of_ble_eq_true rfl, Nat.le_of_ble_eq_true rfl⟩ dX0_close_72 ⟨Nat.le_refl 0, Nat.le_refl 0⟩ (fun y11 => ?_)
        refine VF.callVv C (b := a0) (As := [.int y11]) (rest := []) lk_X0_159 (mtX0_obeyWithByte l D cI cZ a0 a1 a2 a3 a4 a5 (upd f0 15 0) f1 f2 f3 f4 f5 y11) (fun _ => rfl) [some 0, some 1, some 2, some 3, some 4, some 5] ⟨rfl, rfl⟩ (ws' := fun y => [eC a0 a1 a2 a4 a5 y.1, eS a1 f1, eW a2 a3 f2, eA cI 16 a3 f3, eA cI 256 a4 f4, eA cZ 8 a5 y.2]) (fun _ => ⟨⟨rfl, rfl, rfl⟩, ⟨rfl, rfl, rfl⟩, ⟨rfl, rfl, rfl⟩, ⟨rfl, rfl, rfl⟩, ⟨rfl, rfl, rfl⟩, ⟨rfl, rfl, rfl⟩, trivial⟩) (ci := 0) rfl rfl rfl rfl (Nat.le_of_ble_eq_true rfl) ⟨Nat.le_of_ble_eq_true rfl, Nat.le_of_ble_eq_true rfl⟩ dX0_close_75 ⟨Nat.le_refl 0, Nat.le_refl 0⟩ (fun y12 => ?_)
        refine VF.goto C 115 dX0_close_78 rfl ?_
        refine VF.aload_n C 0 dX0_close_115 rfl ?_
        refine VF.get C fl_X0_21 0 rfl rfl dX0_close_116 ?_
        refine VF.callVv C (b := a2) (As := []) (rest := []) lk_X0_40 (mtX3_clear l D cI cZ a2 a3 f2 f3) (fun _ => rfl) [none, none, some 0, some 1, none, none] ⟨rfl, rfl⟩ (ws' := fun y => [eC a0 a1 a2 a4 a5 y12.1, eS a1 f1, eW a2 a3 y.1, eA cI 16 a3 y.2, eA cI 256 a4 f4, eA cZ 8 a5 y12.2]) (fun _ => ⟨rfl, rfl, ⟨rfl, rfl, rfl⟩, ⟨rfl, rfl, rfl⟩, rfl, rfl, trivial⟩) (ci := 3) rfl rfl rfl rfl (Nat.le_of_ble_eq_true rfl) ⟨Nat.le_of_ble_eq_true rfl, Nat.le_of_ble_eq_true rfl⟩ dX0_close_119 ⟨Nat.le_refl 0, Nat.le_refl 0⟩ (fun y13 => ?_)
        exact VF.vret C rfl rfl dX0_close_122
    · refine VF.aload_n C 0 dX0_close_54 rfl ?_
      refine VF.iload_n C 1 dX0_close_55 rfl ?_
      refine VF.callVv C (b := a0) (As := [.int (f0 15)]) (rest := []) lk_X0_155 (mtX0_obeyAlone l D cI cZ a0 a1 a2 a3 a4 a5 (upd f0 15 0) f1 f2 f3 f4 f5 (f0 15)) (fun _ => rfl) [some 0, some 1, some 2, some 3, some 4, some 5] ⟨rfl, rfl⟩ (ws' := fun y => [eC a0 a1 a2 a4 a5 y, eS a1 f1, eW a2 a3 f2, eA cI 16 a3 f3, eA cI 256 a4 f4, eA cZ 8 a5 f5]) (fun _ => ⟨⟨rfl, rfl, rfl⟩, ⟨rfl, rfl, rfl⟩, ⟨rfl, rfl, rfl⟩, ⟨rfl, rfl, rfl⟩, ⟨rfl, rfl, rfl⟩, ⟨rfl, rfl, rfl⟩, trivial⟩) (ci := 0) rfl rfl rfl rfl (Nat.le_of_ble_eq_true rfl) ⟨Nat.le_of_ble_eq_true rfl, Nat.le_of_ble_eq_true rfl⟩ dX0_close_56 ⟨Nat.le_refl 0, Nat.le_refl 0⟩ (fun y14 => ?_)
      refine VF.goto C 115 dX0_close_59 rfl ?_
      refine VF.aload_n C 0 dX0_close_115 rfl ?_
      refine VF.get C fl_X0_21 0 rfl rfl dX0_close_116 ?_
      refine VF.callVv C (b := a2) (As := []) (rest := []) lk_X0_40 (mtX3_clear l D cI cZ a2 a3 f2 f3) (fun _ => rfl) [none, none, some 0, some 1, none, none] ⟨rfl, rfl⟩ (ws' := fun y => [eC a0 a1 a2 a4 a5 y14, eS a1 f1, eW a2 a3 y.1, eA cI 16 a3 y.2, eA cI 256 a4 f4, eA cZ 8 a5 f5]) (fun _ => ⟨rfl, rfl, ⟨rfl, rfl, rfl⟩, ⟨rfl, rfl, rfl⟩, rfl, rfl, trivial⟩) (ci := 3) rfl rfl rfl rfl (Nat.le_of_ble_eq_true rfl) ⟨Nat.le_of_ble_eq_true rfl, Nat.le_of_ble_eq_true rfl⟩ dX0_close_119 ⟨Nat.le_refl 0, Nat.le_refl 0⟩ (fun y15 => ?_)
      exact VF.vret C rfl rfl dX0_close_122
  · refine VF.iload_n C 2 dX0_close_27 rfl ?_
    refine VF.if_ne C 115 dX0_close_28 rfl (fun h6 => ?_) (fun h6 => ?_)
    · refine VF.aload_n C 0 dX0_close_115 rfl ?_
      refine VF.get C fl_X0_21 0 rfl rfl dX0_close_116 ?_
      refine VF.callVv C (b := a2) (As := []) (rest := []) lk_X0_40 (mtX3_clear l D cI cZ a2 a3 f2 f3) (fun _ => rfl) [none, none, some 0, some 1, none, none] ⟨rfl, rfl⟩ (ws' := fun y => [eC a0 a1 a2 a4 a5 (upd f0 15 0), eS a1 f1, eW a2 a3 y.1, eA cI 16 a3 y.2, eA cI 256 a4 f4, eA cZ 8 a5 f5]) (fun _ => ⟨rfl, rfl, ⟨rfl, rfl, rfl⟩, ⟨rfl, rfl, rfl⟩, rfl, rfl, trivial⟩) (ci := 3) rfl rfl rfl rfl (Nat.le_of_ble_eq_true rfl) ⟨Nat.le_of_ble_eq_true rfl, Nat.le_of_ble_eq_true rfl⟩ dX0_close_119 ⟨Nat.le_refl 0, Nat.le_refl 0⟩ (fun y16 => ?_)
      exact VF.vret C rfl rfl dX0_close_122
    · refine VF.aload_n C 0 dX0_close_31 rfl ?_
      refine VF.get C fl_X0_21 0 rfl rfl dX0_close_32 ?_
      refine VF.callVi C (b := a2) (As := []) (rest := []) lk_X0_133 (mtX3_command l D cI cZ a2 a3 f2 f3) (fun y => y) (fun _ => rfl) [none, none, some 0, some 1, none, none] ⟨rfl, rfl⟩ (ws' := fun y => [eC a0 a1 a2 a4 a5 (upd f0 15 0), eS a1 f1, eW a2 a3 f2, eA cI 16 a3 f3, eA cI 256 a4 f4, eA cZ 8 a5 f5]) (fun _ => ⟨rfl, rfl, ⟨rfl, rfl, rfl⟩, ⟨rfl, rfl, rfl⟩, rfl, rfl, trivial⟩) (ci := 3) rfl rfl rfl rfl (Nat.le_of_ble_eq_true rfl) ⟨Nat.le_of_ble_eq_true rfl, Nat.le_of_ble_eq_true rfl⟩ dX0_close_35 ⟨Nat.le_refl 0, Nat.le_refl 0⟩ (fun y17 => ?_)
      refine VF.bipush C dX0_close_38 kb_117 ?_
      refine VF.icmp_ne C 115 dX0_close_40 rfl (fun h7 => ?_) (fun h7 => ?_)
      · refine VF.aload_n C 0 dX0_close_115 rfl ?_
        refine VF.get C fl_X0_21 0 rfl rfl dX0_close_116 ?_
        refine VF.callVv C (b := a2) (As := []) (rest := []) lk_X0_40 (mtX3_clear l D cI cZ a2 a3 f2 f3) (fun _ => rfl) [none, none, some 0, some 1, none, none] ⟨rfl, rfl⟩ (ws' := fun y => [eC a0 a1 a2 a4 a5 (upd f0 15 0), eS a1 f1, eW a2 a3 y.1, eA cI 16 a3 y.2, eA cI 256 a4 f4, eA cZ 8 a5 f5]) (fun _ => ⟨rfl, rfl, ⟨rfl, rfl, rfl⟩, ⟨rfl, rfl, rfl⟩, rfl, rfl, trivial⟩) (ci := 3) rfl rfl rfl rfl (Nat.le_of_ble_eq_true rfl) ⟨Nat.le_of_ble_eq_true rfl, Nat.le_of_ble_eq_true rfl⟩ dX0_close_119 ⟨Nat.le_refl 0, Nat.le_refl 0⟩ (fun y18 => ?_)
        exact VF.vret C rfl rfl dX0_close_122
      · refine VF.aload_n C 0 dX0_close_43 rfl ?_
        refine VF.callVv C (b := a0) (As := []) (rest := []) lk_X0_152 (mtX0_suspend l D cI cZ a0 a1 a2 a3 a4 a5 (upd f0 15 0) f1 f2 f3 f4 f5) (fun _ => rfl) [some 0, some 1, some 2, some 3, some 4, some 5] ⟨rfl, rfl⟩ (ws' := fun y => [eC a0 a1 a2 a4 a5 y, eS a1 f1, eW a2 a3 f2, eA cI 16 a3 f3, eA cI 256 a4 f4, eA cZ 8 a5 f5]) (fun _ => ⟨⟨rfl, rfl, rfl⟩, ⟨rfl, rfl, rfl⟩, ⟨rfl, rfl, rfl⟩, ⟨rfl, rfl, rfl⟩, ⟨rfl, rfl, rfl⟩, ⟨rfl, rfl, rfl⟩, trivial⟩) (ci := 0) rfl rfl rfl rfl (Nat.le_of_ble_eq_true rfl) ⟨Nat.le_of_ble_eq_true rfl, Nat.le_of_ble_eq_true rfl⟩ dX0_close_44 ⟨Nat.le_refl 0, Nat.le_refl 0⟩ (fun y19 => ?_)
        refine VF.goto C 115 dX0_close_47 rfl ?_
        refine VF.aload_n C 0 dX0_close_115 rfl ?_
        refine VF.get C fl_X0_21 0 rfl rfl dX0_close_116 ?_
        refine VF.callVv C (b := a2) (As := []) (rest := []) lk_X0_40 (mtX3_clear l D cI cZ a2 a3 f2 f3) (fun _ => rfl) [none, none, some 0, some 1, none, none] ⟨rfl, rfl⟩ (ws' := fun y => [eC a0 a1 a2 a4 a5 y19, eS a1 f1, eW a2 a3 y.1, eA cI 16 a3 y.2, eA cI 256 a4 f4, eA cZ 8 a5 f5]) (fun _ => ⟨rfl, rfl, ⟨rfl, rfl, rfl⟩, ⟨rfl, rfl, rfl⟩, rfl, rfl, trivial⟩) (ci := 3) rfl rfl rfl rfl (Nat.le_of_ble_eq_true rfl) ⟨Nat.le_of_ble_eq_true rfl, Nat.le_of_ble_eq_true rfl⟩ dX0_close_119 ⟨Nat.le_refl 0, Nat.le_refl 0⟩ (fun y20 => ?_)
        exact VF.vret C rfl rfl dX0_close_122
set_option maxHeartbeats 4000000 in
set_option maxRecDepth 100000 in
theorem mtX0_passTick (l : Launch) (D : va_G) (cI cZ : ClassId) (a0 a1 a2 a3 a4 a5 : Nat) (f0 f1 f2 f3 f4 f5 : Fn) : Ctr l yX0_passTick cX0_passTick 1 none 2 45 D cI cZ [.ref a0] [eC a0 a1 a2 a4 a5 f0, eS a1 f1, eW a2 a3 f2, eA cI 16 a3 f3, eA cI 256 a4 f4, eA cZ 8 a5 f5] (zX0_passTick f0 f1 f4) (fun _ : Fn × Fn => (none : Option Value)) (fun y : Fn × Fn => [eC a0 a1 a2 a4 a5 y.1, eS a1 f1, eW a2 a3 f2, eA cI 16 a3 f3, eA cI 256 a4 y.2, eA cZ 8 a5 f5]) := by
  refine Ctr.of (by decide) (Nat.le_of_ble_eq_true rfl) ?_
  intro p e s m below meth c A C
  have C : CX p s m ([.ref a0] : List Value).toArray meth c cX0_passTick 1 RX0 D cI cZ A none := C
  refine VF.lve (lv' := [(0, .ref a0)]) rfl ?_
  refine VF.eq (zX0_passTick.eq_1 f0 f1 f4) ?_
  refine VF.aload_n C 0 dX0_passTick_0 rfl ?_
  refine VF.dup C dX0_passTick_1 rfl ?_
  refine VF.get C fl_X0_67 0 rfl rfl dX0_passTick_2 ?_
  refine VF.iconst C dX0_passTick_5 kc_1 ?_
  refine VF.isub C dX0_passTick_6 ?_
  refine VF.put C fl_X0_67 tyX0 tyX0_ok nmX0 0 rfl rfl rfl (Nat.le_of_ble_eq_true rfl) (ws' := [eC a0 a1 a2 a4 a5 (upd f0 10 ((f0 10) - 1)), eS a1 f1, eW a2 a3 f2, eA cI 16 a3 f3, eA cI 256 a4 f4, eA cZ 8 a5 f5]) rfl dX0_passTick_7 ?_
  refine VF.aload_n C 0 dX0_passTick_10 rfl ?_
  refine VF.get C fl_X0_67 0 rfl rfl dX0_passTick_11 ?_
  refine VF.if_le C 18 dX0_passTick_14 rfl (fun h1 => ?_) (fun h1 => ?_)
  · refine VF.aload_n C 0 dX0_passTick_18 rfl ?_
    refine VF.get C fl_X0_61 0 rfl rfl dX0_passTick_19 ?_
    refine VF.bipush C dX0_passTick_22 kb_32 ?_
    refine VF.icmp_ne C 53 dX0_passTick_24 rfl (fun h2 => ?_) (fun h2 => ?_)
    · refine VF.aload_n C 0 dX0_passTick_53 rfl ?_
      refine VF.get C fl_X0_61 0 rfl rfl dX0_passTick_54 ?_
      refine VF.sipush C dX0_passTick_57 ks_199 ?_
      refine VF.icmp_ne C 72 dX0_passTick_60 rfl (fun h3 => ?_) (fun h3 => ?_)
      · refine VF.aload_n C 0 dX0_passTick_72 rfl ?_
        refine VF.callVv C (b := a0) (As := []) (rest := []) lk_X0_211 (mtX0_fallIdle l D cI cZ a0 a1 a2 a3 a4 a5 (upd f0 10 ((f0 10) - 1)) f1 f2 f3 f4 f5) (fun _ => rfl) [some 0, some 1, some 2, some 3, some 4, some 5] ⟨rfl, rfl⟩ (ws' := fun y => [eC a0 a1 a2 a4 a5 y, eS a1 f1, eW a2 a3 f2, eA cI 16 a3 f3, eA cI 256 a4 f4, eA cZ 8 a5 f5]) (fun _ => ⟨⟨rfl, rfl, rfl⟩, ⟨rfl, rfl, rfl⟩, ⟨rfl, rfl, rfl⟩, ⟨rfl, rfl, rfl⟩, ⟨rfl, rfl, rfl⟩, ⟨rfl, rfl, rfl⟩, trivial⟩) (ci := 0) rfl rfl rfl rfl (Nat.le_of_ble_eq_true rfl) ⟨Nat.le_of_ble_eq_true rfl, Nat.le_of_ble_eq_true rfl⟩ dX0_passTick_73 ⟨Nat.le_refl 0, Nat.le_refl 0⟩ (fun y1 => ?_)
        exact VF.vret C rfl rfl dX0_passTick_76
      · refine VF.aload_n C 0 dX0_passTick_63 rfl ?_
        refine VF.iconst C dX0_passTick_64 kc_0 ?_
        refine VF.aload_n C 0 dX0_passTick_65 rfl ?_
        refine VF.callVi C (b := a0) (As := []) (rest := [.int 0, .ref a0]) lk_X0_112 (mtX0_all l D cI cZ a0 a1 a2 a3 a4 a5 (upd f0 10 ((f0 10) - 1)) f1 f2 f3 f4 f5) (fun y => y) (fun _ => rfl) [some 0, some 1, some 2, some 3, some 4, some 5] ⟨rfl, rfl⟩ (ws' := fun y => [eC a0 a1 a2 a4 a5 (upd f0 10 ((f0 10) - 1)), eS a1 f1, eW a2 a3 f2, eA cI 16 a3 f3, eA cI 256 a4 f4, eA cZ 8 a5 f5]) (fun _ => ⟨⟨rfl, rfl, rfl⟩, ⟨rfl, rfl, rfl⟩, ⟨rfl, rfl, rfl⟩, ⟨rfl, rfl, rfl⟩, ⟨rfl, rfl, rfl⟩, ⟨rfl, rfl, rfl⟩, trivial⟩) (ci := 0) rfl rfl rfl rfl (Nat.le_of_ble_eq_true rfl) ⟨Nat.le_of_ble_eq_true rfl, Nat.le_of_ble_eq_true rfl⟩ dX0_passTick_66 ⟨Nat.le_refl 0, Nat.le_refl 0⟩ (fun y2 => ?_)
        refine VF.callVv C (b := a0) (As := [.int 0, .int y2]) (rest := []) lk_X0_43 (mtX0_eraseFrom l D cI cZ a0 a1 a2 a3 a4 a5 (upd f0 10 ((f0 10) - 1)) f1 f2 f3 f4 f5 0 y2) (fun _ => rfl) [some 0, some 1, some 2, some 3, some 4, some 5] ⟨rfl, rfl⟩ (ws' := fun y => [eC a0 a1 a2 a4 a5 (upd f0 10 ((f0 10) - 1)), eS a1 f1, eW a2 a3 f2, eA cI 16 a3 f3, eA cI 256 a4 y, eA cZ 8 a5 f5]) (fun _ => ⟨⟨rfl, rfl, rfl⟩, ⟨rfl, rfl, rfl⟩, ⟨rfl, rfl, rfl⟩, ⟨rfl, rfl, rfl⟩, ⟨rfl, rfl, rfl⟩, ⟨rfl, rfl, rfl⟩, trivial⟩) (ci := 0) rfl rfl rfl rfl (Nat.le_of_ble_eq_true rfl) ⟨Nat.le_of_ble_eq_true rfl, Nat.le_of_ble_eq_true rfl⟩ dX0_passTick_69 ⟨Nat.le_refl 0, Nat.le_refl 0⟩ (fun y3 => ?_)
        refine VF.aload_n C 0 dX0_passTick_72 rfl ?_
        refine VF.callVv C (b := a0) (As := []) (rest := []) lk_X0_211 (mtX0_fallIdle l D cI cZ a0 a1 a2 a3 a4 a5 (upd f0 10 ((f0 10) - 1)) f1 f2 f3 y3 f5) (fun _ => rfl) [some 0, some 1, some 2, some 3, some 4, some 5] ⟨rfl, rfl⟩ (ws' := fun y => [eC a0 a1 a2 a4 a5 y, eS a1 f1, eW a2 a3 f2, eA cI 16 a3 f3, eA cI 256 a4 y3, eA cZ 8 a5 f5]) (fun _ => ⟨⟨rfl, rfl, rfl⟩, ⟨rfl, rfl, rfl⟩, ⟨rfl, rfl, rfl⟩, ⟨rfl, rfl, rfl⟩, ⟨rfl, rfl, rfl⟩, ⟨rfl, rfl, rfl⟩, trivial⟩) (ci := 0) rfl rfl rfl rfl (Nat.le_of_ble_eq_true rfl) ⟨Nat.le_of_ble_eq_true rfl, Nat.le_of_ble_eq_true rfl⟩ dX0_passTick_73 ⟨Nat.le_refl 0, Nat.le_refl 0⟩ (fun y4 => ?_)
        exact VF.vret C rfl rfl dX0_passTick_76
    · refine VF.aload_n C 0 dX0_passTick_27 rfl ?_
      refine VF.aload_n C 0 dX0_passTick_28 rfl ?_
      refine VF.get C fl_X0_64 0 rfl rfl dX0_passTick_29 ?_
      refine VF.aload_n C 0 dX0_passTick_32 rfl ?_
      refine VF.get C fl_X0_12 0 rfl rfl dX0_passTick_33 ?_
      refine VF.callVi C (b := a1) (As := []) (rest := [.int ((upd f0 10 ((f0 10) - 1)) 9), .ref a0]) lk_X0_105 (mtX1_sectorBytes l D cI cZ a1 f1) (fun y => y) (fun _ => rfl) [none, some 0, none, none, none, none] ⟨rfl, rfl⟩ (ws' := fun y => [eC a0 a1 a2 a4 a5 (upd f0 10 ((f0 10) - 1)), eS a1 f1, eW a2 a3 f2, eA cI 16 a3 f3, eA cI 256 a4 f4, eA cZ 8 a5 f5]) (fun _ => ⟨rfl, ⟨rfl, rfl, rfl⟩, rfl, rfl, rfl, rfl, trivial⟩) (ci := 1) rfl rfl rfl rfl (Nat.le_of_ble_eq_true rfl) ⟨Nat.le_of_ble_eq_true rfl, Nat.le_of_ble_eq_true rfl⟩ dX0_passTick_36 ⟨Nat.le_refl 0, Nat.le_refl 0⟩ (fun y5 => ?_)
      refine VF.imul C dX0_passTick_39 ?_
      refine VF.aload_n C 0 dX0_passTick_40 rfl ?_
      refine VF.get C fl_X0_12 0 rfl rfl dX0_passTick_41 ?_
      refine VF.callVi C (b := a1) (As := []) (rest := [.int (((upd f0 10 ((f0 10) - 1)) 9) * y5), .ref a0]) lk_X0_105 (mtX1_sectorBytes l D cI cZ a1 f1) (fun y => y) (fun _ => rfl) [none, some 0, none, none, none, none] ⟨rfl, rfl⟩ (ws' := fun y => [eC a0 a1 a2 a4 a5 (upd f0 10 ((f0 10) - 1)), eS a1 f1, eW a2 a3 f2, eA cI 16 a3 f3, eA cI 256 a4 f4, eA cZ 8 a5 f5]) (fun _ => ⟨rfl, ⟨rfl, rfl, rfl⟩, rfl, rfl, rfl, rfl, trivial⟩) (ci := 1) rfl rfl rfl rfl (Nat.le_of_ble_eq_true rfl) ⟨Nat.le_of_ble_eq_true rfl, Nat.le_of_ble_eq_true rfl⟩ dX0_passTick_44 ⟨Nat.le_refl 0, Nat.le_refl 0⟩ (fun y6 => ?_)
      refine VF.callVv C (b := a0) (As := [.int (((upd f0 10 ((f0 10) - 1)) 9) * y5), .int y6]) (rest := []) lk_X0_43 (mtX0_eraseFrom l D cI cZ a0 a1 a2 a3 a4 a5 (upd f0 10 ((f0 10) - 1)) f1 f2 f3 f4 f5 (((upd f0 10 ((f0 10) - 1)) 9) * y5) y6) (fun _ => rfl) [some 0, some 1, some 2, some 3, some 4, some 5] ⟨rfl, rfl⟩ (ws' := fun y => [eC a0 a1 a2 a4 a5 (upd f0 10 ((f0 10) - 1)), eS a1 f1, eW a2 a3 f2, eA cI 16 a3 f3, eA cI 256 a4 y, eA cZ 8 a5 f5]) (fun _ => ⟨⟨rfl, rfl, rfl⟩, ⟨rfl, rfl, rfl⟩, ⟨rfl, rfl, rfl⟩, ⟨rfl, rfl, rfl⟩, ⟨rfl, rfl, rfl⟩, ⟨rfl, rfl, rfl⟩, trivial⟩) (ci := 0) rfl rfl rfl rfl (Nat.le_of_ble_eq_true rfl) ⟨Nat.le_of_ble_eq_true rfl, Nat.le_of_ble_eq_true rfl⟩ dX0_passTick_47 ⟨Nat.le_refl 0, Nat.le_refl 0⟩ (fun y7 => ?_)
      refine VF.goto C 72 dX0_passTick_50 rfl ?_
      refine VF.aload_n C 0 dX0_passTick_72 rfl ?_
      refine VF.callVv C (b := a0) (As := []) (rest := []) lk_X0_211 (mtX0_fallIdle l D cI cZ a0 a1 a2 a3 a4 a5 (upd f0 10 ((f0 10) - 1)) f1 f2 f3 y7 f5) (fun _ => rfl) [some 0, some 1, some 2, some 3, some 4, some 5] ⟨rfl, rfl⟩ (ws' := fun y => [eC a0 a1 a2 a4 a5 y, eS a1 f1, eW a2 a3 f2, eA cI 16 a3 f3, eA cI 256 a4 y7, eA cZ 8 a5 f5]) (fun _ => ⟨⟨rfl, rfl, rfl⟩, ⟨rfl, rfl, rfl⟩, ⟨rfl, rfl, rfl⟩, ⟨rfl, rfl, rfl⟩, ⟨rfl, rfl, rfl⟩, ⟨rfl, rfl, rfl⟩, trivial⟩) (ci := 0) rfl rfl rfl rfl (Nat.le_of_ble_eq_true rfl) ⟨Nat.le_of_ble_eq_true rfl, Nat.le_of_ble_eq_true rfl⟩ dX0_passTick_73 ⟨Nat.le_refl 0, Nat.le_refl 0⟩ (fun y8 => ?_)
      exact VF.vret C rfl rfl dX0_passTick_76
  · exact VF.vret C rfl rfl dX0_passTick_17
