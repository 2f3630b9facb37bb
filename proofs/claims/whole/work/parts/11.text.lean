set_option maxHeartbeats 4000000 in
set_option maxRecDepth 100000 in
theorem mtX2_length (l : Launch) (D : va_G) (cI cZ : ClassId) (a0 a1 a2 : Nat) (f0 f1 f2 : Fn) : Ctr l yX2_length cX2_length 1 (some .int) 0 0 D cI cZ [.ref a0] [eT a0 a1 a2 f0, eA cI 200 a1 f1, eS a2 f2] (zX2_length f0) (fun y : Int32 => some (Value.int y)) (fun _ : Int32 => [eT a0 a1 a2 f0, eA cI 200 a1 f1, eS a2 f2]) := by
  refine Ctr.of (by decide) (Nat.le_of_ble_eq_true rfl) ?_
  intro p e s m below meth c A C
  have C : CX p s m ([.ref a0] : List Value).toArray meth c cX2_length 1 RX2 D cI cZ A (some .int) := C
  refine VF.lve (lv' := [(0, .ref a0)]) rfl ?_
  refine VF.eq (zX2_length.eq_1 f0) ?_
  refine VF.aload_n C 0 dX2_length_0 rfl ?_
  refine VF.get C fl_X2_15 0 rfl rfl dX2_length_1 ?_
  exact VF.iret C rfl rfl dX2_length_4
set_option maxHeartbeats 4000000 in
set_option maxRecDepth 100000 in
theorem mtX2_clear (l : Launch) (D : va_G) (cI cZ : ClassId) (a0 a1 a2 : Nat) (f0 f1 f2 : Fn) : Ctr l yX2_clear cX2_clear 1 none 0 0 D cI cZ [.ref a0] [eT a0 a1 a2 f0, eA cI 200 a1 f1, eS a2 f2] (zX2_clear f0) (fun _ : Fn => (none : Option Value)) (fun y : Fn => [eT a0 a1 a2 y, eA cI 200 a1 f1, eS a2 f2]) := by
  refine Ctr.of (by decide) (Nat.le_of_ble_eq_true rfl) ?_
  intro p e s m below meth c A C
  have C : CX p s m ([.ref a0] : List Value).toArray meth c cX2_clear 1 RX2 D cI cZ A none := C
  refine VF.lve (lv' := [(0, .ref a0)]) rfl ?_
  refine VF.eq (zX2_clear.eq_1 f0) ?_
  refine VF.aload_n C 0 dX2_clear_0 rfl ?_
  refine VF.iconst C dX2_clear_1 kc_0 ?_
  refine VF.put C fl_X2_15 tyX2 tyX2_ok nmX2 0 rfl rfl rfl (Nat.le_of_ble_eq_true rfl) (ws' := [eT a0 a1 a2 (upd f0 1 0), eA cI 200 a1 f1, eS a2 f2]) rfl dX2_clear_2 ?_
  exact VF.vret C rfl rfl dX2_clear_5
set_option maxHeartbeats 4000000 in
set_option maxRecDepth 100000 in
theorem mtX2_append (l : Launch) (D : va_G) (cI cZ : ClassId) (a0 a1 a2 : Nat) (f0 f1 f2 : Fn) (u1 : Int32) : Ctr l yX2_append cX2_append 2 (some .boolean) 0 0 D cI cZ [.ref a0, .int u1] [eT a0 a1 a2 f0, eA cI 200 a1 f1, eS a2 f2] (zX2_append f0 f1 u1) (fun y : Int32 × Fn × Fn => some (Value.int y.1)) (fun y : Int32 × Fn × Fn => [eT a0 a1 a2 y.2.1, eA cI 200 a1 y.2.2, eS a2 f2]) := by
  refine Ctr.of (by decide) (Nat.le_of_ble_eq_true rfl) ?_
  intro p e s m below meth c A C
  have C : CX p s m ([.ref a0, .int u1] : List Value).toArray meth c cX2_append 2 RX2 D cI cZ A (some .boolean) := C
  refine VF.lve (lv' := [(0, .ref a0), (1, .int u1)]) rfl ?_
  refine VF.eq (zX2_append.eq_1 f0 f1 u1) ?_
  refine VF.aload_n C 0 dX2_append_0 rfl ?_
  refine VF.get C fl_X2_15 0 rfl rfl dX2_append_1 ?_
  refine VF.if_lt C 19 dX2_append_4 rfl (fun h1 => ?_) (fun h1 => ?_)
  · refine VF.iconst C dX2_append_19 kc_0 ?_
    exact VF.zretK C (Or.inl rfl) rfl rfl dX2_append_20
  · refine VF.aload_n C 0 dX2_append_7 rfl ?_
    refine VF.get C fl_X2_15 0 rfl rfl dX2_append_8 ?_
    refine VF.aload_n C 0 dX2_append_11 rfl ?_
    refine VF.get C fl_X2_9 0 rfl rfl dX2_append_12 ?_
    refine VF.alen C 1 rfl kl_200 dX2_append_15 ?_
    refine VF.icmp_lt C 21 dX2_append_16 rfl (fun h2 => ?_) (fun h2 => ?_)
    · refine VF.aload_n C 0 dX2_append_21 rfl ?_
      refine VF.get C fl_X2_9 0 rfl rfl dX2_append_22 ?_
      refine VF.aload_n C 0 dX2_append_25 rfl ?_
      refine VF.get C fl_X2_15 0 rfl rfl dX2_append_26 ?_
      refine VF.iload_n C 1 dX2_append_29 rfl ?_
      refine VF.iast C 1 rfl (ws' := [eT a0 a1 a2 f0, eA cI 200 a1 (upd f1 (ix (f0 1)) u1), eS a2 f2]) rfl dX2_append_30 ?_
      refine VF.aload_n C 0 dX2_append_31 rfl ?_
      refine VF.dup C dX2_append_32 rfl ?_
      refine VF.get C fl_X2_15 0 rfl rfl dX2_append_33 ?_
      refine VF.iconst C dX2_append_36 kc_1 ?_
      refine VF.iadd C dX2_append_37 ?_
      refine VF.put C fl_X2_15 tyX2 tyX2_ok nmX2 0 rfl rfl rfl (Nat.le_of_ble_eq_true rfl) (ws' := [eT a0 a1 a2 (upd f0 1 ((f0 1) + 1)), eA cI 200 a1 (upd f1 (ix (f0 1)) u1), eS a2 f2]) rfl dX2_append_38 ?_
      refine VF.iconst C dX2_append_41 kc_1 ?_
      exact VF.zretK C (Or.inr rfl) rfl rfl dX2_append_42
    · refine VF.iconst C dX2_append_19 kc_0 ?_
      exact VF.zretK C (Or.inl rfl) rfl rfl dX2_append_20
set_option maxHeartbeats 4000000 in
set_option maxRecDepth 100000 in
theorem mtX2_faultPlace (l : Launch) (D : va_G) (cI cZ : ClassId) (a0 a1 a2 : Nat) (f0 f1 f2 : Fn) : Ctr l yX2_faultPlace cX2_faultPlace 1 (some .int) 0 0 D cI cZ [.ref a0] [eT a0 a1 a2 f0, eA cI 200 a1 f1, eS a2 f2] (zX2_faultPlace f0) (fun y : Int32 => some (Value.int y)) (fun _ : Int32 => [eT a0 a1 a2 f0, eA cI 200 a1 f1, eS a2 f2]) := by
  refine Ctr.of (by decide) (Nat.le_of_ble_eq_true rfl) ?_
  intro p e s m below meth c A C
  have C : CX p s m ([.ref a0] : List Value).toArray meth c cX2_faultPlace 1 RX2 D cI cZ A (some .int) := C
  refine VF.lve (lv' := [(0, .ref a0)]) rfl ?_
  refine VF.eq (zX2_faultPlace.eq_1 f0) ?_
  refine VF.aload_n C 0 dX2_faultPlace_0 rfl ?_
  refine VF.get C fl_X2_33 0 rfl rfl dX2_faultPlace_1 ?_
  exact VF.iret C rfl rfl dX2_faultPlace_4
set_option maxHeartbeats 4000000 in
set_option maxRecDepth 100000 in
theorem mtX2_isChecked (l : Launch) (D : va_G) (cI cZ : ClassId) (a0 a1 a2 : Nat) (f0 f1 f2 : Fn) : Ctr l yX2_isChecked cX2_isChecked 1 (some .boolean) 0 0 D cI cZ [.ref a0] [eT a0 a1 a2 f0, eA cI 200 a1 f1, eS a2 f2] (zX2_isChecked f0) (fun y : Int32 => some (Value.int y)) (fun _ : Int32 => [eT a0 a1 a2 f0, eA cI 200 a1 f1, eS a2 f2]) := by
  refine Ctr.of (by decide) (Nat.le_of_ble_eq_true rfl) ?_
  intro p e s m below meth c A C
  have C : CX p s m ([.ref a0] : List Value).toArray meth c cX2_isChecked 1 RX2 D cI cZ A (some .boolean) := C
  refine VF.lve (lv' := [(0, .ref a0)]) rfl ?_
  refine VF.eq (zX2_isChecked.eq_1 f0) ?_
  refine VF.aload_n C 0 dX2_isChecked_0 rfl ?_
  refine VF.get C fl_X2_29 0 rfl rfl dX2_isChecked_1 ?_
  refine VF.if_eq C 20 dX2_isChecked_4 rfl (fun h1 => ?_) (fun h1 => ?_)
  · refine VF.iconst C dX2_isChecked_20 kc_0 ?_
    exact VF.zretK C (Or.inl rfl) rfl rfl dX2_isChecked_21
  · refine VF.aload_n C 0 dX2_isChecked_7 rfl ?_
    refine VF.get C fl_X2_33 0 rfl rfl dX2_isChecked_8 ?_
    refine VF.bipush C dX2_isChecked_11 kb_m4 ?_
    refine VF.icmp_ne C 20 dX2_isChecked_13 rfl (fun h2 => ?_) (fun h2 => ?_)
    · refine VF.iconst C dX2_isChecked_20 kc_0 ?_
      exact VF.zretK C (Or.inl rfl) rfl rfl dX2_isChecked_21
    · refine VF.iconst C dX2_isChecked_16 kc_1 ?_
      refine VF.goto C 21 dX2_isChecked_17 rfl ?_
      exact VF.zretK C (Or.inr rfl) rfl rfl dX2_isChecked_21
set_option maxHeartbeats 4000000 in
set_option maxRecDepth 100000 in
theorem mtX2_told (l : Launch) (D : va_G) (cI cZ : ClassId) (a0 a1 a2 : Nat) (f0 f1 f2 : Fn) : Ctr l yX2_told cX2_told 1 (some (.object "FlashLanes$Shape")) 0 0 D cI cZ [.ref a0] [eT a0 a1 a2 f0, eA cI 200 a1 f1, eS a2 f2] (zX2_told) (fun _ : Unit => some (Value.ref a2)) (fun _ : Unit => [eT a0 a1 a2 f0, eA cI 200 a1 f1, eS a2 f2]) := by
  refine Ctr.of (by decide) (Nat.le_of_ble_eq_true rfl) ?_
  intro p e s m below meth c A C
  have C : CX p s m ([.ref a0] : List Value).toArray meth c cX2_told 1 RX2 D cI cZ A (some (.object "FlashLanes$Shape")) := C
  refine VF.lve (lv' := [(0, .ref a0)]) rfl ?_
  refine VF.eq (zX2_told.eq_1) ?_
  refine VF.aload_n C 0 dX2_told_0 rfl ?_
  refine VF.get C fl_X2_22 0 rfl rfl dX2_told_1 ?_
  exact VF.aret C rfl rfl dX2_told_4
set_option maxHeartbeats 4000000 in
set_option maxRecDepth 100000 in
theorem mtX2_nextLetter (l : Launch) (D : va_G) (cI cZ : ClassId) (a0 a1 a2 : Nat) (f0 f1 f2 : Fn) : Ctr l yX2_nextLetter cX2_nextLetter 1 (some .int) 0 0 D cI cZ [.ref a0] [eT a0 a1 a2 f0, eA cI 200 a1 f1, eS a2 f2] (zX2_nextLetter f0 f1) (fun y : Int32 => some (Value.int y)) (fun _ : Int32 => [eT a0 a1 a2 f0, eA cI 200 a1 f1, eS a2 f2]) := by
  refine Ctr.of (by decide) (Nat.le_of_ble_eq_true rfl) ?_
  intro p e s m below meth c A C
  have C : CX p s m ([.ref a0] : List Value).toArray meth c cX2_nextLetter 1 RX2 D cI cZ A (some .int) := C
  refine VF.lve (lv' := [(0, .ref a0)]) rfl ?_
  refine VF.eq (zX2_nextLetter.eq_1 f0 f1) ?_
  refine VF.aload_n C 0 dX2_nextLetter_0 rfl ?_
  refine VF.get C fl_X2_26 0 rfl rfl dX2_nextLetter_1 ?_
  refine VF.if_lt C 30 dX2_nextLetter_4 rfl (fun h1 => ?_) (fun h1 => ?_)
  · refine VF.bipush C dX2_nextLetter_30 kb_m4 ?_
    exact VF.iret C rfl rfl dX2_nextLetter_32
  · refine VF.aload_n C 0 dX2_nextLetter_7 rfl ?_
    refine VF.get C fl_X2_26 0 rfl rfl dX2_nextLetter_8 ?_
    refine VF.aload_n C 0 dX2_nextLetter_11 rfl ?_
    refine VF.get C fl_X2_15 0 rfl rfl dX2_nextLetter_12 ?_
    refine VF.icmp_ge C 30 dX2_nextLetter_15 rfl (fun h2 => ?_) (fun h2 => ?_)
    · refine VF.bipush C dX2_nextLetter_30 kb_m4 ?_
      exact VF.iret C rfl rfl dX2_nextLetter_32
    · refine VF.aload_n C 0 dX2_nextLetter_18 rfl ?_
      refine VF.get C fl_X2_26 0 rfl rfl dX2_nextLetter_19 ?_
      refine VF.aload_n C 0 dX2_nextLetter_22 rfl ?_
      refine VF.get C fl_X2_9 0 rfl rfl dX2_nextLetter_23 ?_
      refine VF.alen C 1 rfl kl_200 dX2_nextLetter_26 ?_
      refine VF.icmp_lt C 33 dX2_nextLetter_27 rfl (fun h3 => ?_) (fun h3 => ?_)
      · refine VF.aload_n C 0 dX2_nextLetter_33 rfl ?_
        refine VF.get C fl_X2_9 0 rfl rfl dX2_nextLetter_34 ?_
        refine VF.aload_n C 0 dX2_nextLetter_37 rfl ?_
        refine VF.get C fl_X2_26 0 rfl rfl dX2_nextLetter_38 ?_
        refine VF.iald C 1 rfl dX2_nextLetter_41 ?_
        exact VF.iret C rfl rfl dX2_nextLetter_42
      · refine VF.bipush C dX2_nextLetter_30 kb_m4 ?_
        exact VF.iret C rfl rfl dX2_nextLetter_32
set_option maxHeartbeats 4000000 in
set_option maxRecDepth 100000 in
theorem mtX2_isFigure (l : Launch) (D : va_G) (cI cZ : ClassId) (u0 : Int32) : Ctr l yX2_isFigure cX2_isFigure 1 (some .boolean) 0 0 D cI cZ [.int u0] [] (zX2_isFigure u0) (fun y : Int32 => some (Value.int y)) (fun _ : Int32 => []) := by
  refine Ctr.of (by decide) (Nat.le_of_ble_eq_true rfl) ?_
  intro p e s m below meth c A C
  have C : CX p s m ([.int u0] : List Value).toArray meth c cX2_isFigure 1 RX2 D cI cZ A (some .boolean) := C
  refine VF.lve (lv' := [(0, .int u0)]) rfl ?_
  refine VF.eq (zX2_isFigure.eq_1 u0) ?_
  refine VF.iload_n C 0 dX2_isFigure_0 rfl ?_
  refine VF.bipush C dX2_isFigure_1 kb_48 ?_
  refine VF.icmp_lt C 16 dX2_isFigure_3 rfl (fun h1 => ?_) (fun h1 => ?_)
  · refine VF.iconst C dX2_isFigure_16 kc_0 ?_
    exact VF.zretK C (Or.inl rfl) rfl rfl dX2_isFigure_17
  · refine VF.iload_n C 0 dX2_isFigure_6 rfl ?_
    refine VF.bipush C dX2_isFigure_7 kb_57 ?_
    refine VF.icmp_gt C 16 dX2_isFigure_9 rfl (fun h2 => ?_) (fun h2 => ?_)
    · refine VF.iconst C dX2_isFigure_16 kc_0 ?_
      exact VF.zretK C (Or.inl rfl) rfl rfl dX2_isFigure_17
    · refine VF.iconst C dX2_isFigure_12 kc_1 ?_
      refine VF.goto C 17 dX2_isFigure_13 rfl ?_
      exact VF.zretK C (Or.inr rfl) rfl rfl dX2_isFigure_17
set_option maxHeartbeats 4000000 in
set_option maxRecDepth 100000 in
theorem mtX2_readNumber (l : Launch) (D : va_G) (cI cZ : ClassId) (a0 a1 a2 : Nat) (f0 f1 f2 : Fn) : Ctr l yX2_readNumber cX2_readNumber 2 (some .int) 1 20 D cI cZ [.ref a0] [eT a0 a1 a2 f0, eA cI 200 a1 f1, eS a2 f2] (zX2_readNumber f0 f1) (fun y : Int32 × Fn => some (Value.int y.1)) (fun y : Int32 × Fn => [eT a0 a1 a2 y.2, eA cI 200 a1 f1, eS a2 f2]) := by
  refine Ctr.of (by decide) (Nat.le_of_ble_eq_true rfl) ?_
  intro p e s m below meth c A C
  have C : CX p s m ([.ref a0] : List Value).toArray meth c cX2_readNumber 2 RX2 D cI cZ A (some .int) := C
  refine VF.lve (lv' := [(0, .ref a0)]) rfl ?_
  refine VF.eq (zX2_readNumber.eq_1 f0 f1) ?_
  refine VF.aload_n C 0 dX2_readNumber_0 rfl ?_
  refine VF.callVi C (b := a0) (As := []) (rest := []) lk_X2_43 (mtX2_nextLetter l D cI cZ a0 a1 a2 f0 f1 f2) (fun y => y) (fun _ => rfl) [some 0, some 1, some 2] ⟨rfl, rfl⟩ (ws' := fun y => [eT a0 a1 a2 f0, eA cI 200 a1 f1, eS a2 f2]) (fun _ => ⟨⟨rfl, rfl, rfl⟩, ⟨rfl, rfl, rfl⟩, ⟨rfl, rfl, rfl⟩, trivial⟩) (ci := 2) rfl rfl rfl rfl (Nat.le_of_ble_eq_true rfl) ⟨Nat.le_of_ble_eq_true rfl, Nat.le_of_ble_eq_true rfl⟩ dX2_readNumber_1 ⟨Nat.le_refl 0, Nat.le_refl 0⟩ (fun y1 => ?_)
  refine VF.callSi C (As := [.int y1]) (rest := []) lk_X2_74 (mtX2_isFigure l D cI cZ y1) (fun y => y) (fun _ => rfl) [none, none, none] ⟨rfl, rfl⟩ (ws' := fun y => [eT a0 a1 a2 f0, eA cI 200 a1 f1, eS a2 f2]) (fun _ => ⟨rfl, rfl, rfl, trivial⟩) rfl rfl (Nat.le_of_ble_eq_true rfl) ⟨Nat.le_of_ble_eq_true rfl, Nat.le_of_ble_eq_true rfl⟩ dX2_readNumber_4 ⟨Nat.le_refl 0, Nat.le_refl 0⟩ (fun y2 => ?_)
  refine VF.if_ne C 13 dX2_readNumber_7 rfl (fun h1 => ?_) (fun h1 => ?_)
  · refine VF.aload_n C 0 dX2_readNumber_13 rfl ?_
    refine VF.callVi C (b := a0) (As := []) (rest := []) lk_X2_43 (mtX2_nextLetter l D cI cZ a0 a1 a2 f0 f1 f2) (fun y => y) (fun _ => rfl) [some 0, some 1, some 2] ⟨rfl, rfl⟩ (ws' := fun y => [eT a0 a1 a2 f0, eA cI 200 a1 f1, eS a2 f2]) (fun _ => ⟨⟨rfl, rfl, rfl⟩, ⟨rfl, rfl, rfl⟩, ⟨rfl, rfl, rfl⟩, trivial⟩) (ci := 2) rfl rfl rfl rfl (Nat.le_of_ble_eq_true rfl) ⟨Nat.le_of_ble_eq_true rfl, Nat.le_of_ble_eq_true rfl⟩ dX2_readNumber_14 ⟨Nat.le_refl 0, Nat.le_refl 0⟩ (fun y3 => ?_)
    refine VF.bipush C dX2_readNumber_17 kb_48 ?_
    refine VF.isub C dX2_readNumber_19 ?_
    refine VF.istore_n C [1, 0] dX2_readNumber_20 rfl (Nat.le_of_ble_eq_true rfl) (lv' := [(0, .ref a0), (1, .int (y3 - 48))]) rfl ?_
    refine VF.aload_n C 0 dX2_readNumber_21 rfl ?_
    refine VF.dup C dX2_readNumber_22 rfl ?_
    refine VF.get C fl_X2_26 0 rfl rfl dX2_readNumber_23 ?_
    refine VF.iconst C dX2_readNumber_26 kc_1 ?_
    refine VF.iadd C dX2_readNumber_27 ?_
    refine VF.put C fl_X2_26 tyX2 tyX2_ok nmX2 0 rfl rfl rfl (Nat.le_of_ble_eq_true rfl) (ws' := [eT a0 a1 a2 (upd f0 3 ((f0 3) + 1)), eA cI 200 a1 f1, eS a2 f2]) rfl dX2_readNumber_28 ?_
    refine VF.aload_n C 0 dX2_readNumber_31 rfl ?_
    refine VF.callVi C (b := a0) (As := []) (rest := []) lk_X2_43 (mtX2_nextLetter l D cI cZ a0 a1 a2 (upd f0 3 ((f0 3) + 1)) f1 f2) (fun y => y) (fun _ => rfl) [some 0, some 1, some 2] ⟨rfl, rfl⟩ (ws' := fun y => [eT a0 a1 a2 (upd f0 3 ((f0 3) + 1)), eA cI 200 a1 f1, eS a2 f2]) (fun _ => ⟨⟨rfl, rfl, rfl⟩, ⟨rfl, rfl, rfl⟩, ⟨rfl, rfl, rfl⟩, trivial⟩) (ci := 2) rfl rfl rfl rfl (Nat.le_of_ble_eq_true rfl) ⟨Nat.le_of_ble_eq_true rfl, Nat.le_of_ble_eq_true rfl⟩ dX2_readNumber_32 ⟨Nat.le_refl 0, Nat.le_refl 0⟩ (fun y4 => ?_)
    refine VF.callSi C (As := [.int y4]) (rest := []) lk_X2_74 (mtX2_isFigure l D cI cZ y4) (fun y => y) (fun _ => rfl) [none, none, none] ⟨rfl, rfl⟩ (ws' := fun y => [eT a0 a1 a2 (upd f0 3 ((f0 3) + 1)), eA cI 200 a1 f1, eS a2 f2]) (fun _ => ⟨rfl, rfl, rfl, trivial⟩) rfl rfl (Nat.le_of_ble_eq_true rfl) ⟨Nat.le_of_ble_eq_true rfl, Nat.le_of_ble_eq_true rfl⟩ dX2_readNumber_35 ⟨Nat.le_refl 0, Nat.le_refl 0⟩ (fun y5 => ?_)
    refine VF.if_eq C 64 dX2_readNumber_38 rfl (fun h2 => ?_) (fun h2 => ?_)
    · refine VF.iload_n C 1 dX2_readNumber_64 rfl ?_
      exact VF.iret C rfl rfl dX2_readNumber_65
    · refine VF.iload_n C 1 dX2_readNumber_41 rfl ?_
      refine VF.bipush C dX2_readNumber_42 kb_10 ?_
      refine VF.imul C dX2_readNumber_44 ?_
      refine VF.aload_n C 0 dX2_readNumber_45 rfl ?_
      refine VF.callVi C (b := a0) (As := []) (rest := [.int ((y3 - 48) * 10)]) lk_X2_43 (mtX2_nextLetter l D cI cZ a0 a1 a2 (upd f0 3 ((f0 3) + 1)) f1 f2) (fun y => y) (fun _ => rfl) [some 0, some 1, some 2] ⟨rfl, rfl⟩ (ws' := fun y => [eT a0 a1 a2 (upd f0 3 ((f0 3) + 1)), eA cI 200 a1 f1, eS a2 f2]) (fun _ => ⟨⟨rfl, rfl, rfl⟩, ⟨rfl, rfl, rfl⟩, ⟨rfl, rfl, rfl⟩, trivial⟩) (ci := 2) rfl rfl rfl rfl (Nat.le_of_ble_eq_true rfl) ⟨Nat.le_of_ble_eq_true rfl, Nat.le_of_ble_eq_true rfl⟩ dX2_readNumber_46 ⟨Nat.le_refl 0, Nat.le_refl 0⟩ (fun y6 => ?_)
      refine VF.iadd C dX2_readNumber_49 ?_
      refine VF.bipush C dX2_readNumber_50 kb_48 ?_
      refine VF.isub C dX2_readNumber_52 ?_
      refine VF.istore_n C [1, 0] dX2_readNumber_53 rfl (Nat.le_of_ble_eq_true rfl) (lv' := [(0, .ref a0), (1, .int ((((y3 - 48) * 10) + y6) - 48))]) rfl ?_
      refine VF.aload_n C 0 dX2_readNumber_54 rfl ?_
      refine VF.dup C dX2_readNumber_55 rfl ?_
      refine VF.get C fl_X2_26 0 rfl rfl dX2_readNumber_56 ?_
      refine VF.iconst C dX2_readNumber_59 kc_1 ?_
      refine VF.iadd C dX2_readNumber_60 ?_
      refine VF.put C fl_X2_26 tyX2 tyX2_ok nmX2 0 rfl rfl rfl (Nat.le_of_ble_eq_true rfl) (ws' := [eT a0 a1 a2 (upd (upd f0 3 ((f0 3) + 1)) 3 (((upd f0 3 ((f0 3) + 1)) 3) + 1)), eA cI 200 a1 f1, eS a2 f2]) rfl dX2_readNumber_61 ?_
      refine VF.iload_n C 1 dX2_readNumber_64 rfl ?_
      exact VF.iret C rfl rfl dX2_readNumber_65
  · refine VF.bipush C dX2_readNumber_10 kb_m4 ?_
    exact VF.iret C rfl rfl dX2_readNumber_12
set_option maxHeartbeats 4000000 in
set_option maxRecDepth 100000 in
theorem mtX2_skip (l : Launch) (D : va_G) (cI cZ : ClassId) (a0 a1 a2 : Nat) (f0 f1 f2 : Fn) (u1 : Int32) : Ctr l yX2_skip cX2_skip 2 (some .boolean) 1 20 D cI cZ [.ref a0, .int u1] [eT a0 a1 a2 f0, eA cI 200 a1 f1, eS a2 f2] (zX2_skip f0 f1 u1) (fun y : Int32 × Fn => some (Value.int y.1)) (fun y : Int32 × Fn => [eT a0 a1 a2 y.2, eA cI 200 a1 f1, eS a2 f2]) := by
  refine Ctr.of (by decide) (Nat.le_of_ble_eq_true rfl) ?_
  intro p e s m below meth c A C
  have C : CX p s m ([.ref a0, .int u1] : List Value).toArray meth c cX2_skip 2 RX2 D cI cZ A (some .boolean) := C
  refine VF.lve (lv' := [(0, .ref a0), (1, .int u1)]) rfl ?_
  refine VF.eq (zX2_skip.eq_1 f0 f1 u1) ?_
  refine VF.aload_n C 0 dX2_skip_0 rfl ?_
  refine VF.callVi C (b := a0) (As := []) (rest := []) lk_X2_43 (mtX2_nextLetter l D cI cZ a0 a1 a2 f0 f1 f2) (fun y => y) (fun _ => rfl) [some 0, some 1, some 2] ⟨rfl, rfl⟩ (ws' := fun y => [eT a0 a1 a2 f0, eA cI 200 a1 f1, eS a2 f2]) (fun _ => ⟨⟨rfl, rfl, rfl⟩, ⟨rfl, rfl, rfl⟩, ⟨rfl, rfl, rfl⟩, trivial⟩) (ci := 2) rfl rfl rfl rfl (Nat.le_of_ble_eq_true rfl) ⟨Nat.le_of_ble_eq_true rfl, Nat.le_of_ble_eq_true rfl⟩ dX2_skip_1 ⟨Nat.le_refl 0, Nat.le_refl 0⟩ (fun y1 => ?_)
  refine VF.iload_n C 1 dX2_skip_4 rfl ?_
  refine VF.icmp_eq C 10 dX2_skip_5 rfl (fun h1 => ?_) (fun h1 => ?_)
  · refine VF.aload_n C 0 dX2_skip_10 rfl ?_
    refine VF.dup C dX2_skip_11 rfl ?_
    refine VF.get C fl_X2_26 0 rfl rfl dX2_skip_12 ?_
    refine VF.iconst C dX2_skip_15 kc_1 ?_
    refine VF.iadd C dX2_skip_16 ?_
    refine VF.put C fl_X2_26 tyX2 tyX2_ok nmX2 0 rfl rfl rfl (Nat.le_of_ble_eq_true rfl) (ws' := [eT a0 a1 a2 (upd f0 3 ((f0 3) + 1)), eA cI 200 a1 f1, eS a2 f2]) rfl dX2_skip_17 ?_
    refine VF.iconst C dX2_skip_20 kc_1 ?_
    exact VF.zretK C (Or.inr rfl) rfl rfl dX2_skip_21
  · refine VF.iconst C dX2_skip_8 kc_0 ?_
    exact VF.zretK C (Or.inl rfl) rfl rfl dX2_skip_9
set_option maxHeartbeats 4000000 in
set_option maxRecDepth 100000 in
theorem mtX2_readParts (l : Launch) (D : va_G) (cI cZ : ClassId) (a0 a1 a2 : Nat) (f0 f1 f2 : Fn) : Ctr l yX2_readParts cX2_readParts 4 (some .boolean) 2 41 D cI cZ [.ref a0] [eT a0 a1 a2 f0, eA cI 200 a1 f1, eS a2 f2] (zX2_readParts f0 f1 f2) (fun y : Int32 × Fn × Fn => some (Value.int y.1)) (fun y : Int32 × Fn × Fn => [eT a0 a1 a2 y.2.1, eA cI 200 a1 f1, eS a2 y.2.2]) := by
  refine Ctr.of (by decide) (Nat.le_of_ble_eq_true rfl) ?_
  intro p e s m below meth c A C
  have C : CX p s m ([.ref a0] : List Value).toArray meth c cX2_readParts 4 RX2 D cI cZ A (some .boolean) := C
  refine VF.lve (lv' := [(0, .ref a0)]) rfl ?_
  refine VF.eq (zX2_readParts.eq_1 f0 f1 f2) ?_
  refine VF.aload_n C 0 dX2_readParts_0 rfl ?_
  refine VF.callVi C (b := a0) (As := []) (rest := []) lk_X2_56 (mtX2_readNumber l D cI cZ a0 a1 a2 f0 f1 f2) (fun y => y.1) (fun _ => rfl) [some 0, some 1, some 2] ⟨rfl, rfl⟩ (ws' := fun y => [eT a0 a1 a2 y.2, eA cI 200 a1 f1, eS a2 f2]) (fun _ => ⟨⟨rfl, rfl, rfl⟩, ⟨rfl, rfl, rfl⟩, ⟨rfl, rfl, rfl⟩, trivial⟩) (ci := 2) rfl rfl rfl rfl (Nat.le_of_ble_eq_true rfl) ⟨Nat.le_of_ble_eq_true rfl, Nat.le_of_ble_eq_true rfl⟩ dX2_readParts_1 ⟨Nat.le_refl 0, Nat.le_refl 0⟩ (fun y1 => ?_)
  refine VF.istore_n C [1, 0] dX2_readParts_4 rfl (Nat.le_of_ble_eq_true rfl) (lv' := [(0, .ref a0), (1, .int y1.1)]) rfl ?_
  refine VF.aload_n C 0 dX2_readParts_5 rfl ?_
  refine VF.bipush C dX2_readParts_6 kb_44 ?_
  refine VF.callVi C (b := a0) (As := [.int 44]) (rest := []) lk_X2_59 (mtX2_skip l D cI cZ a0 a1 a2 y1.2 f1 f2 44) (fun y => y.1) (fun _ => rfl) [some 0, some 1, some 2] ⟨rfl, rfl⟩ (ws' := fun y => [eT a0 a1 a2 y.2, eA cI 200 a1 f1, eS a2 f2]) (fun _ => ⟨⟨rfl, rfl, rfl⟩, ⟨rfl, rfl, rfl⟩, ⟨rfl, rfl, rfl⟩, trivial⟩) (ci := 2) rfl rfl rfl rfl (Nat.le_of_ble_eq_true rfl) ⟨Nat.le_of_ble_eq_true rfl, Nat.le_of_ble_eq_true rfl⟩ dX2_readParts_8 ⟨Nat.le_refl 0, Nat.le_refl 0⟩ (fun y2 => ?_)
  refine VF.if_ne C 16 dX2_readParts_11 rfl (fun h1 => ?_) (fun h1 => ?_)
  · refine VF.aload_n C 0 dX2_readParts_16 rfl ?_
    refine VF.callVi C (b := a0) (As := []) (rest := []) lk_X2_56 (mtX2_readNumber l D cI cZ a0 a1 a2 y2.2 f1 f2) (fun y => y.1) (fun _ => rfl) [some 0, some 1, some 2] ⟨rfl, rfl⟩ (ws' := fun y => [eT a0 a1 a2 y.2, eA cI 200 a1 f1, eS a2 f2]) (fun _ => ⟨⟨rfl, rfl, rfl⟩, ⟨rfl, rfl, rfl⟩, ⟨rfl, rfl, rfl⟩, trivial⟩) (ci := 2) rfl rfl rfl rfl (Nat.le_of_ble_eq_true rfl) ⟨Nat.le_of_ble_eq_true rfl, Nat.le_of_ble_eq_true rfl⟩ dX2_readParts_17 ⟨Nat.le_refl 0, Nat.le_refl 0⟩ (fun y3 => ?_)
    refine VF.istore_n C [1, 2, 0] dX2_readParts_20 rfl (Nat.le_of_ble_eq_true rfl) (lv' := [(0, .ref a0), (1, .int y1.1), (2, .int y3.1)]) rfl ?_
    refine VF.aload_n C 0 dX2_readParts_21 rfl ?_
    refine VF.bipush C dX2_readParts_22 kb_44 ?_
    refine VF.callVi C (b := a0) (As := [.int 44]) (rest := []) lk_X2_59 (mtX2_skip l D cI cZ a0 a1 a2 y3.2 f1 f2 44) (fun y => y.1) (fun _ => rfl) [some 0, some 1, some 2] ⟨rfl, rfl⟩ (ws' := fun y => [eT a0 a1 a2 y.2, eA cI 200 a1 f1, eS a2 f2]) (fun _ => ⟨⟨rfl, rfl, rfl⟩, ⟨rfl, rfl, rfl⟩, ⟨rfl, rfl, rfl⟩, trivial⟩) (ci := 2) rfl rfl rfl rfl (Nat.le_of_ble_eq_true rfl) ⟨Nat.le_of_ble_eq_true rfl, Nat.le_of_ble_eq_true rfl⟩ dX2_readParts_24 ⟨Nat.le_refl 0, Nat.le_refl 0⟩ (fun y4 => ?_)
    refine VF.if_ne C 32 dX2_readParts_27 rfl (fun h2 => ?_) (fun h2 => ?_)
    · refine VF.aload_n C 0 dX2_readParts_32 rfl ?_
      refine VF.callVi C (b := a0) (As := []) (rest := []) lk_X2_56 (mtX2_readNumber l D cI cZ a0 a1 a2 y4.2 f1 f2) (fun y => y.1) (fun _ => rfl) [some 0, some 1, some 2] ⟨rfl, rfl⟩ (ws' := fun y => [eT a0 a1 a2 y.2, eA cI 200 a1 f1, eS a2 f2]) (fun _ => ⟨⟨rfl, rfl, rfl⟩, ⟨rfl, rfl, rfl⟩, ⟨rfl, rfl, rfl⟩, trivial⟩) (ci := 2) rfl rfl rfl rfl (Nat.le_of_ble_eq_true rfl) ⟨Nat.le_of_ble_eq_true rfl, Nat.le_of_ble_eq_true rfl⟩ dX2_readParts_33 ⟨Nat.le_refl 0, Nat.le_refl 0⟩ (fun y5 => ?_)
      refine VF.istore_n C [1, 2, 3, 0] dX2_readParts_36 rfl (Nat.le_of_ble_eq_true rfl) (lv' := [(0, .ref a0), (1, .int y1.1), (2, .int y3.1), (3, .int y5.1)]) rfl ?_
      refine VF.aload_n C 0 dX2_readParts_37 rfl ?_
      refine VF.bipush C dX2_readParts_38 kb_59 ?_
      refine VF.callVi C (b := a0) (As := [.int 59]) (rest := []) lk_X2_59 (mtX2_skip l D cI cZ a0 a1 a2 y5.2 f1 f2 59) (fun y => y.1) (fun _ => rfl) [some 0, some 1, some 2] ⟨rfl, rfl⟩ (ws' := fun y => [eT a0 a1 a2 y.2, eA cI 200 a1 f1, eS a2 f2]) (fun _ => ⟨⟨rfl, rfl, rfl⟩, ⟨rfl, rfl, rfl⟩, ⟨rfl, rfl, rfl⟩, trivial⟩) (ci := 2) rfl rfl rfl rfl (Nat.le_of_ble_eq_true rfl) ⟨Nat.le_of_ble_eq_true rfl, Nat.le_of_ble_eq_true rfl⟩ dX2_readParts_40 ⟨Nat.le_refl 0, Nat.le_refl 0⟩ (fun y6 => ?_)
      refine VF.if_eq C 63 dX2_readParts_43 rfl (fun h3 => ?_) (fun h3 => ?_)
      · refine VF.iconst C dX2_readParts_63 kc_0 ?_
        exact VF.zretK C (Or.inl rfl) rfl rfl dX2_readParts_64
      · refine VF.aload_n C 0 dX2_readParts_46 rfl ?_
        refine VF.get C fl_X2_22 0 rfl rfl dX2_readParts_47 ?_
        refine VF.iload_n C 1 dX2_readParts_50 rfl ?_
        refine VF.iload_n C 2 dX2_readParts_51 rfl ?_
        refine VF.iload_n C 3 dX2_readParts_52 rfl ?_
        refine VF.callVi C (b := a2) (As := [.int y1.1, .int y3.1, .int y5.1]) (rest := []) lk_X2_63 (mtX1_setParts l D cI cZ a2 f2 y1.1 y3.1 y5.1) (fun y => y.1) (fun _ => rfl) [none, none, some 0] ⟨rfl, rfl⟩ (ws' := fun y => [eT a0 a1 a2 y6.2, eA cI 200 a1 f1, eS a2 y.2]) (fun _ => ⟨rfl, rfl, ⟨rfl, rfl, rfl⟩, trivial⟩) (ci := 1) rfl rfl rfl rfl (Nat.le_of_ble_eq_true rfl) ⟨Nat.le_of_ble_eq_true rfl, Nat.le_of_ble_eq_true rfl⟩ dX2_readParts_53 ⟨Nat.le_refl 0, Nat.le_refl 0⟩ (fun y7 => ?_)
        refine VF.if_eq C 63 dX2_readParts_56 rfl (fun h4 => ?_) (fun h4 => ?_)
        · refine VF.iconst C dX2_readParts_63 kc_0 ?_
          exact VF.zretK C (Or.inl rfl) rfl rfl dX2_readParts_64
        · refine VF.iconst C dX2_readParts_59 kc_1 ?_
          refine VF.goto C 64 dX2_readParts_60 rfl ?_
          exact VF.zretK C (Or.inr rfl) rfl rfl dX2_readParts_64
    · refine VF.iconst C dX2_readParts_30 kc_0 ?_
      exact VF.zretK C (Or.inl rfl) rfl rfl dX2_readParts_31
  · refine VF.iconst C dX2_readParts_14 kc_0 ?_
    exact VF.zretK C (Or.inl rfl) rfl rfl dX2_readParts_15
set_option maxHeartbeats 4000000 in
set_option maxRecDepth 100000 in
theorem mtX2_readTicks (l : Launch) (D : va_G) (cI cZ : ClassId) (a0 a1 a2 : Nat) (f0 f1 f2 : Fn) : Ctr l yX2_readTicks cX2_readTicks 3 (some .boolean) 2 41 D cI cZ [.ref a0] [eT a0 a1 a2 f0, eA cI 200 a1 f1, eS a2 f2] (zX2_readTicks f0 f1 f2) (fun y : Int32 × Fn × Fn => some (Value.int y.1)) (fun y : Int32 × Fn × Fn => [eT a0 a1 a2 y.2.1, eA cI 200 a1 f1, eS a2 y.2.2]) := by
  refine Ctr.of (by decide) (Nat.le_of_ble_eq_true rfl) ?_
  intro p e s m below meth c A C
  have C : CX p s m ([.ref a0] : List Value).toArray meth c cX2_readTicks 3 RX2 D cI cZ A (some .boolean) := C
  refine VF.lve (lv' := [(0, .ref a0)]) rfl ?_
  refine VF.eq (zX2_readTicks.eq_1 f0 f1 f2) ?_
  refine VF.aload_n C 0 dX2_readTicks_0 rfl ?_
  refine VF.callVi C (b := a0) (As := []) (rest := []) lk_X2_56 (mtX2_readNumber l D cI cZ a0 a1 a2 f0 f1 f2) (fun y => y.1) (fun _ => rfl) [some 0, some 1, some 2] ⟨rfl, rfl⟩ (ws' := fun y => [eT a0 a1 a2 y.2, eA cI 200 a1 f1, eS a2 f2]) (fun _ => ⟨⟨rfl, rfl, rfl⟩, ⟨rfl, rfl, rfl⟩, ⟨rfl, rfl, rfl⟩, trivial⟩) (ci := 2) rfl rfl rfl rfl (Nat.le_of_ble_eq_true rfl) ⟨Nat.le_of_ble_eq_true rfl, Nat.le_of_ble_eq_true rfl⟩ dX2_readTicks_1 ⟨Nat.le_refl 0, Nat.le_refl 0⟩ (fun y1 => ?_)
  refine VF.istore_n C [1, 0] dX2_readTicks_4 rfl (Nat.le_of_ble_eq_true rfl) (lv' := [(0, .ref a0), (1, .int y1.1)]) rfl ?_
  refine VF.aload_n C 0 dX2_readTicks_5 rfl ?_
  refine VF.bipush C dX2_readTicks_6 kb_44 ?_
  refine VF.callVi C (b := a0) (As := [.int 44]) (rest := []) lk_X2_59 (mtX2_skip l D cI cZ a0 a1 a2 y1.2 f1 f2 44) (fun y => y.1) (fun _ => rfl) [some 0, some 1, some 2] ⟨rfl, rfl⟩ (ws' := fun y => [eT a0 a1 a2 y.2, eA cI 200 a1 f1, eS a2 f2]) (fun _ => ⟨⟨rfl, rfl, rfl⟩, ⟨rfl, rfl, rfl⟩, ⟨rfl, rfl, rfl⟩, trivial⟩) (ci := 2) rfl rfl rfl rfl (Nat.le_of_ble_eq_true rfl) ⟨Nat.le_of_ble_eq_true rfl, Nat.le_of_ble_eq_true rfl⟩ dX2_readTicks_8 ⟨Nat.le_refl 0, Nat.le_refl 0⟩ (fun y2 => ?_)
  refine VF.if_ne C 16 dX2_readTicks_11 rfl (fun h1 => ?_) (fun h1 => ?_)
  · refine VF.aload_n C 0 dX2_readTicks_16 rfl ?_
    refine VF.callVi C (b := a0) (As := []) (rest := []) lk_X2_56 (mtX2_readNumber l D cI cZ a0 a1 a2 y2.2 f1 f2) (fun y => y.1) (fun _ => rfl) [some 0, some 1, some 2] ⟨rfl, rfl⟩ (ws' := fun y => [eT a0 a1 a2 y.2, eA cI 200 a1 f1, eS a2 f2]) (fun _ => ⟨⟨rfl, rfl, rfl⟩, ⟨rfl, rfl, rfl⟩, ⟨rfl, rfl, rfl⟩, trivial⟩) (ci := 2) rfl rfl rfl rfl (Nat.le_of_ble_eq_true rfl) ⟨Nat.le_of_ble_eq_true rfl, Nat.le_of_ble_eq_true rfl⟩ dX2_readTicks_17 ⟨Nat.le_refl 0, Nat.le_refl 0⟩ (fun y3 => ?_)
    refine VF.istore_n C [1, 2, 0] dX2_readTicks_20 rfl (Nat.le_of_ble_eq_true rfl) (lv' := [(0, .ref a0), (1, .int y1.1), (2, .int y3.1)]) rfl ?_
    refine VF.aload_n C 0 dX2_readTicks_21 rfl ?_
    refine VF.bipush C dX2_readTicks_22 kb_59 ?_
    refine VF.callVi C (b := a0) (As := [.int 59]) (rest := []) lk_X2_59 (mtX2_skip l D cI cZ a0 a1 a2 y3.2 f1 f2 59) (fun y => y.1) (fun _ => rfl) [some 0, some 1, some 2] ⟨rfl, rfl⟩ (ws' := fun y => [eT a0 a1 a2 y.2, eA cI 200 a1 f1, eS a2 f2]) (fun _ => ⟨⟨rfl, rfl, rfl⟩, ⟨rfl, rfl, rfl⟩, ⟨rfl, rfl, rfl⟩, trivial⟩) (ci := 2) rfl rfl rfl rfl (Nat.le_of_ble_eq_true rfl) ⟨Nat.le_of_ble_eq_true rfl, Nat.le_of_ble_eq_true rfl⟩ dX2_readTicks_24 ⟨Nat.le_refl 0, Nat.le_refl 0⟩ (fun y4 => ?_)
    refine VF.if_eq C 46 dX2_readTicks_27 rfl (fun h2 => ?_) (fun h2 => ?_)
    · refine VF.iconst C dX2_readTicks_46 kc_0 ?_
      exact VF.zretK C (Or.inl rfl) rfl rfl dX2_readTicks_47
    · refine VF.aload_n C 0 dX2_readTicks_30 rfl ?_
      refine VF.get C fl_X2_22 0 rfl rfl dX2_readTicks_31 ?_
      refine VF.iload_n C 1 dX2_readTicks_34 rfl ?_
      refine VF.iload_n C 2 dX2_readTicks_35 rfl ?_
      refine VF.callVi C (b := a2) (As := [.int y1.1, .int y3.1]) (rest := []) lk_X2_67 (mtX1_setTicks l D cI cZ a2 f2 y1.1 y3.1) (fun y => y.1) (fun _ => rfl) [none, none, some 0] ⟨rfl, rfl⟩ (ws' := fun y => [eT a0 a1 a2 y4.2, eA cI 200 a1 f1, eS a2 y.2]) (fun _ => ⟨rfl, rfl, ⟨rfl, rfl, rfl⟩, trivial⟩) (ci := 1) rfl rfl rfl rfl (Nat.le_of_ble_eq_true rfl) ⟨Nat.le_of_ble_eq_true rfl, Nat.le_of_ble_eq_true rfl⟩ dX2_readTicks_36 ⟨Nat.le_refl 0, Nat.le_refl 0⟩ (fun y5 => ?_)
      refine VF.if_eq C 46 dX2_readTicks_39 rfl (fun h3 => ?_) (fun h3 => ?_)
      · refine VF.iconst C dX2_readTicks_46 kc_0 ?_
        exact VF.zretK C (Or.inl rfl) rfl rfl dX2_readTicks_47
      · refine VF.iconst C dX2_readTicks_42 kc_1 ?_
        refine VF.goto C 47 dX2_readTicks_43 rfl ?_
        exact VF.zretK C (Or.inr rfl) rfl rfl dX2_readTicks_47
  · refine VF.iconst C dX2_readTicks_14 kc_0 ?_
    exact VF.zretK C (Or.inl rfl) rfl rfl dX2_readTicks_15
set_option maxHeartbeats 4000000 in
set_option maxRecDepth 100000 in
theorem mtX2_readCheck (l : Launch) (D : va_G) (cI cZ : ClassId) (a0 a1 a2 : Nat) (f0 f1 f2 : Fn) : Ctr l yX2_readCheck cX2_readCheck 2 (some .boolean) 2 41 D cI cZ [.ref a0] [eT a0 a1 a2 f0, eA cI 200 a1 f1, eS a2 f2] (zX2_readCheck f0 f1 f2) (fun y : Int32 × Fn => some (Value.int y.1)) (fun y : Int32 × Fn => [eT a0 a1 a2 y.2, eA cI 200 a1 f1, eS a2 f2]) := by
  refine Ctr.of (by decide) (Nat.le_of_ble_eq_true rfl) ?_
  intro p e s m below meth c A C
  have C : CX p s m ([.ref a0] : List Value).toArray meth c cX2_readCheck 2 RX2 D cI cZ A (some .boolean) := C
  have k33 : ∀ (f0 : Fn), VF p l e { frames := 2, cells := 0, slots := 0, locals := 41 } s m ([.ref a0] : List Value).toArray below meth c 0 0 D A 2 (fun r => MQ below (QcX ((fun y : Int32 × Fn => some (Value.int y.1)) r) D ((fun y : Int32 × Fn => [eT a0 a1 a2 y.2, eA cI 200 a1 f1, eS a2 f2]) r) A) ([.ref a0] : List Value).toArray s 0 0 A) (zX2_readCheck_k33 f0 f1 f2) [eT a0 a1 a2 f0, eA cI 200 a1 f1, eS a2 f2] 33 [(0, .ref a0)] [.ref a0] := by
    intro f0
    refine VF.eq (zX2_readCheck_k33.eq_1 f0 f1 f2) ?_
    refine VF.iconst C dX2_readCheck_33 kc_0 ?_
    refine VF.putbK C fl_X2_29 tyX2 tyX2_ok nmX2 0 (Or.inl rfl) rfl rfl rfl (Nat.le_of_ble_eq_true rfl) (ws' := [eT a0 a1 a2 (upd f0 4 0), eA cI 200 a1 f1, eS a2 f2]) rfl dX2_readCheck_34 ?_
    refine VF.aload_n C 0 dX2_readCheck_37 rfl ?_
    refine VF.get C fl_X2_29 0 rfl rfl dX2_readCheck_38 ?_
    exact VF.zret C rfl rfl dX2_readCheck_41
  refine VF.lve (lv' := [(0, .ref a0)]) rfl ?_
  refine VF.eq (zX2_readCheck.eq_1 f0 f1 f2) ?_
  refine VF.aload_n C 0 dX2_readCheck_0 rfl ?_
  refine VF.callVi C (b := a0) (As := []) (rest := []) lk_X2_56 (mtX2_readNumber l D cI cZ a0 a1 a2 f0 f1 f2) (fun y => y.1) (fun _ => rfl) [some 0, some 1, some 2] ⟨rfl, rfl⟩ (ws' := fun y => [eT a0 a1 a2 y.2, eA cI 200 a1 f1, eS a2 f2]) (fun _ => ⟨⟨rfl, rfl, rfl⟩, ⟨rfl, rfl, rfl⟩, ⟨rfl, rfl, rfl⟩, trivial⟩) (ci := 2) rfl rfl rfl rfl (Nat.le_of_ble_eq_true rfl) ⟨Nat.le_of_ble_eq_true rfl, Nat.le_of_ble_eq_true rfl⟩ dX2_readCheck_1 ⟨Nat.le_refl 0, Nat.le_refl 0⟩ (fun y1 => ?_)
  refine VF.istore_n C [1, 0] dX2_readCheck_4 rfl (Nat.le_of_ble_eq_true rfl) (lv' := [(0, .ref a0), (1, .int y1.1)]) rfl ?_
  refine VF.aload_n C 0 dX2_readCheck_5 rfl ?_
  refine VF.aload_n C 0 dX2_readCheck_6 rfl ?_
  refine VF.bipush C dX2_readCheck_7 kb_59 ?_
  refine VF.callVi C (b := a0) (As := [.int 59]) (rest := [.ref a0]) lk_X2_59 (mtX2_skip l D cI cZ a0 a1 a2 y1.2 f1 f2 59) (fun y => y.1) (fun _ => rfl) [some 0, some 1, some 2] ⟨rfl, rfl⟩ (ws' := fun y => [eT a0 a1 a2 y.2, eA cI 200 a1 f1, eS a2 f2]) (fun _ => ⟨⟨rfl, rfl, rfl⟩, ⟨rfl, rfl, rfl⟩, ⟨rfl, rfl, rfl⟩, trivial⟩) (ci := 2) rfl rfl rfl rfl (Nat.le_of_ble_eq_true rfl) ⟨Nat.le_of_ble_eq_true rfl, Nat.le_of_ble_eq_true rfl⟩ dX2_readCheck_9 ⟨Nat.le_refl 0, Nat.le_refl 0⟩ (fun y2 => ?_)
  refine VF.if_eq C 33 dX2_readCheck_12 rfl (fun h1 => ?_) (fun h1 => ?_)
  · exact VF.lvs [0] rfl (k33 y2.2)
  · refine VF.iload_n C 1 dX2_readCheck_15 rfl ?_
    refine VF.aload_n C 0 dX2_readCheck_16 rfl ?_
    refine VF.get C fl_X2_22 0 rfl rfl dX2_readCheck_17 ?_
    refine VF.callVi C (b := a2) (As := []) (rest := [.int y1.1, .ref a0]) lk_X2_71 (mtX1_together l D cI cZ a2 f2) (fun y => y) (fun _ => rfl) [none, none, some 0] ⟨rfl, rfl⟩ (ws' := fun y => [eT a0 a1 a2 y2.2, eA cI 200 a1 f1, eS a2 f2]) (fun _ => ⟨rfl, rfl, ⟨rfl, rfl, rfl⟩, trivial⟩) (ci := 1) rfl rfl rfl rfl (Nat.le_of_ble_eq_true rfl) ⟨Nat.le_of_ble_eq_true rfl, Nat.le_of_ble_eq_true rfl⟩ dX2_readCheck_20 ⟨Nat.le_refl 0, Nat.le_refl 0⟩ (fun y3 => ?_)
    refine VF.bipush C dX2_readCheck_23 kb_97 ?_
    refine VF.iremK C (by decide) dX2_readCheck_25 ?_
    refine VF.icmp_ne C 33 dX2_readCheck_26 rfl (fun h2 => ?_) (fun h2 => ?_)
    · exact VF.lvs [0] rfl (k33 y2.2)
    · refine VF.iconst C dX2_readCheck_29 kc_1 ?_
      refine VF.goto C 34 dX2_readCheck_30 rfl ?_
      refine VF.putbK C fl_X2_29 tyX2 tyX2_ok nmX2 0 (Or.inr rfl) rfl rfl rfl (Nat.le_of_ble_eq_true rfl) (ws' := [eT a0 a1 a2 (upd y2.2 4 1), eA cI 200 a1 f1, eS a2 f2]) rfl dX2_readCheck_34 ?_
      refine VF.aload_n C 0 dX2_readCheck_37 rfl ?_
      refine VF.get C fl_X2_29 0 rfl rfl dX2_readCheck_38 ?_
      exact VF.zret C rfl rfl dX2_readCheck_41
set_option maxHeartbeats 4000000 in
set_option maxRecDepth 100000 in
theorem mtX2_readItem (l : Launch) (D : va_G) (cI cZ : ClassId) (a0 a1 a2 : Nat) (f0 f1 f2 : Fn) : Ctr l yX2_readItem cX2_readItem 1 (some .boolean) 3 64 D cI cZ [.ref a0] [eT a0 a1 a2 f0, eA cI 200 a1 f1, eS a2 f2] (zX2_readItem f0 f1 f2) (fun y : Int32 × Fn × Fn => some (Value.int y.1)) (fun y : Int32 × Fn × Fn => [eT a0 a1 a2 y.2.1, eA cI 200 a1 f1, eS a2 y.2.2]) := by
  refine Ctr.of (by decide) (Nat.le_of_ble_eq_true rfl) ?_
  intro p e s m below meth c A C
  have C : CX p s m ([.ref a0] : List Value).toArray meth c cX2_readItem 1 RX2 D cI cZ A (some .boolean) := C
  refine VF.lve (lv' := [(0, .ref a0)]) rfl ?_
  refine VF.eq (zX2_readItem.eq_1 f0 f1 f2) ?_
  refine VF.aload_n C 0 dX2_readItem_0 rfl ?_
  refine VF.callVi C (b := a0) (As := []) (rest := []) lk_X2_43 (mtX2_nextLetter l D cI cZ a0 a1 a2 f0 f1 f2) (fun y => y) (fun _ => rfl) [some 0, some 1, some 2] ⟨rfl, rfl⟩ (ws' := fun y => [eT a0 a1 a2 f0, eA cI 200 a1 f1, eS a2 f2]) (fun _ => ⟨⟨rfl, rfl, rfl⟩, ⟨rfl, rfl, rfl⟩, ⟨rfl, rfl, rfl⟩, trivial⟩) (ci := 2) rfl rfl rfl rfl (Nat.le_of_ble_eq_true rfl) ⟨Nat.le_of_ble_eq_true rfl, Nat.le_of_ble_eq_true rfl⟩ dX2_readItem_1 ⟨Nat.le_refl 0, Nat.le_refl 0⟩ (fun y1 => ?_)
  refine VF.ite (fun h1 => ?_) (fun h1 => ?_)
  · refine VF.lookup (off := 66) C 70 dX2_readItem_4 (by decide) (by rw [h1]; decide) rfl ?_
    refine VF.aload_n C 0 dX2_readItem_70 rfl ?_
    refine VF.dup C dX2_readItem_71 rfl ?_
    refine VF.get C fl_X2_26 0 rfl rfl dX2_readItem_72 ?_
    refine VF.iconst C dX2_readItem_75 kc_1 ?_
    refine VF.iadd C dX2_readItem_76 ?_
    refine VF.put C fl_X2_26 tyX2 tyX2_ok nmX2 0 rfl rfl rfl (Nat.le_of_ble_eq_true rfl) (ws' := [eT a0 a1 a2 (upd f0 3 ((f0 3) + 1)), eA cI 200 a1 f1, eS a2 f2]) rfl dX2_readItem_77 ?_
    refine VF.aload_n C 0 dX2_readItem_80 rfl ?_
    refine VF.callVi C (b := a0) (As := []) (rest := []) lk_X2_53 (mtX2_readCheck l D cI cZ a0 a1 a2 (upd f0 3 ((f0 3) + 1)) f1 f2) (fun y => y.1) (fun _ => rfl) [some 0, some 1, some 2] ⟨rfl, rfl⟩ (ws' := fun y => [eT a0 a1 a2 y.2, eA cI 200 a1 f1, eS a2 f2]) (fun _ => ⟨⟨rfl, rfl, rfl⟩, ⟨rfl, rfl, rfl⟩, ⟨rfl, rfl, rfl⟩, trivial⟩) (ci := 2) rfl rfl rfl rfl (Nat.le_of_ble_eq_true rfl) ⟨Nat.le_of_ble_eq_true rfl, Nat.le_of_ble_eq_true rfl⟩ dX2_readItem_81 ⟨Nat.le_refl 0, Nat.le_refl 0⟩ (fun y2 => ?_)
    exact VF.zret C rfl rfl dX2_readItem_84
  refine VF.ite (fun h2 => ?_) (fun h2 => ?_)
  · refine VF.lookup (off := 36) C 40 dX2_readItem_4 (by decide) (by rw [h2]; decide) rfl ?_
    refine VF.aload_n C 0 dX2_readItem_40 rfl ?_
    refine VF.dup C dX2_readItem_41 rfl ?_
    refine VF.get C fl_X2_26 0 rfl rfl dX2_readItem_42 ?_
    refine VF.iconst C dX2_readItem_45 kc_1 ?_
    refine VF.iadd C dX2_readItem_46 ?_
    refine VF.put C fl_X2_26 tyX2 tyX2_ok nmX2 0 rfl rfl rfl (Nat.le_of_ble_eq_true rfl) (ws' := [eT a0 a1 a2 (upd f0 3 ((f0 3) + 1)), eA cI 200 a1 f1, eS a2 f2]) rfl dX2_readItem_47 ?_
    refine VF.aload_n C 0 dX2_readItem_50 rfl ?_
    refine VF.callVi C (b := a0) (As := []) (rest := []) lk_X2_47 (mtX2_readParts l D cI cZ a0 a1 a2 (upd f0 3 ((f0 3) + 1)) f1 f2) (fun y => y.1) (fun _ => rfl) [some 0, some 1, some 2] ⟨rfl, rfl⟩ (ws' := fun y => [eT a0 a1 a2 y.2.1, eA cI 200 a1 f1, eS a2 y.2.2]) (fun _ => ⟨⟨rfl, rfl, rfl⟩, ⟨rfl, rfl, rfl⟩, ⟨rfl, rfl, rfl⟩, trivial⟩) (ci := 2) rfl rfl rfl rfl (Nat.le_of_ble_eq_true rfl) ⟨Nat.le_of_ble_eq_true rfl, Nat.le_of_ble_eq_true rfl⟩ dX2_readItem_51 ⟨Nat.le_refl 0, Nat.le_refl 0⟩ (fun y3 => ?_)
    exact VF.zret C rfl rfl dX2_readItem_54
  refine VF.ite (fun h3 => ?_) (fun h3 => ?_)
  · refine VF.lookup (off := 51) C 55 dX2_readItem_4 (by decide) (by rw [h3]; decide) rfl ?_
    refine VF.aload_n C 0 dX2_readItem_55 rfl ?_
    refine VF.dup C dX2_readItem_56 rfl ?_
    refine VF.get C fl_X2_26 0 rfl rfl dX2_readItem_57 ?_
    refine VF.iconst C dX2_readItem_60 kc_1 ?_
    refine VF.iadd C dX2_readItem_61 ?_
    refine VF.put C fl_X2_26 tyX2 tyX2_ok nmX2 0 rfl rfl rfl (Nat.le_of_ble_eq_true rfl) (ws' := [eT a0 a1 a2 (upd f0 3 ((f0 3) + 1)), eA cI 200 a1 f1, eS a2 f2]) rfl dX2_readItem_62 ?_
    refine VF.aload_n C 0 dX2_readItem_65 rfl ?_
    refine VF.callVi C (b := a0) (As := []) (rest := []) lk_X2_50 (mtX2_readTicks l D cI cZ a0 a1 a2 (upd f0 3 ((f0 3) + 1)) f1 f2) (fun y => y.1) (fun _ => rfl) [some 0, some 1, some 2] ⟨rfl, rfl⟩ (ws' := fun y => [eT a0 a1 a2 y.2.1, eA cI 200 a1 f1, eS a2 y.2.2]) (fun _ => ⟨⟨rfl, rfl, rfl⟩, ⟨rfl, rfl, rfl⟩, ⟨rfl, rfl, rfl⟩, trivial⟩) (ci := 2) rfl rfl rfl rfl (Nat.le_of_ble_eq_true rfl) ⟨Nat.le_of_ble_eq_true rfl, Nat.le_of_ble_eq_true rfl⟩ dX2_readItem_66 ⟨Nat.le_refl 0, Nat.le_refl 0⟩ (fun y4 => ?_)
    exact VF.zret C rfl rfl dX2_readItem_69
  refine VF.lookup (off := 81) C 85 dX2_readItem_4 (by decide) (Eq.trans (lv_osw h1 (k := 99) rfl) (Eq.trans (lv_osw h2 (k := 103) rfl) (Eq.trans (lv_osw h3 (k := 116) rfl) (rfl)))) rfl ?_
  refine VF.iconst C dX2_readItem_85 kc_0 ?_
  exact VF.zretK C (Or.inl rfl) rfl rfl dX2_readItem_86
set_option maxHeartbeats 4000000 in
set_option maxRecDepth 100000 in
theorem mtX2_examine (l : Launch) (D : va_G) (cI cZ : ClassId) (a0 a1 a2 : Nat) (f0 f1 f2 : Fn) : Ctr l yX2_examine cX2_examine 3 none 4 84 D cI cZ [.ref a0] [eT a0 a1 a2 f0, eA cI 200 a1 f1, eS a2 f2] (zX2_examine f0 f1 f2) (fun _ : Fn × Fn => (none : Option Value)) (fun y : Fn × Fn => [eT a0 a1 a2 y.1, eA cI 200 a1 f1, eS a2 y.2]) := by
  refine Ctr.of (by decide) (Nat.le_of_ble_eq_true rfl) ?_
  intro p e s m below meth c A C
  have C : CX p s m ([.ref a0] : List Value).toArray meth c cX2_examine 3 RX2 D cI cZ A none := C
  have k25 : ∀ (n : Nat) (x1 : Int32) (f0 : Fn) (f2 : Fn), VF p l e { frames := 4, cells := 0, slots := 0, locals := 84 } s m ([.ref a0] : List Value).toArray below meth c 0 0 D A 3 (fun r => MQ below (QcX ((fun _ : Fn × Fn => (none : Option Value)) r) D ((fun y : Fn × Fn => [eT a0 a1 a2 y.1, eA cI 200 a1 f1, eS a2 y.2]) r) A) ([.ref a0] : List Value).toArray s 0 0 A) (zX2_examine_k25 n f0 f1 f2 x1) [eT a0 a1 a2 f0, eA cI 200 a1 f1, eS a2 f2] 25 [(0, .ref a0), (1, .int x1)] [] := by
    intro n
    induction n with
    | zero =>
      intro x1 f0 f2
      exact VF.eq (zX2_examine_k25.eq_1 _ _ _ _) VF.nn
    | succ n ih =>
      intro x1 f0 f2
      refine VF.eq (zX2_examine_k25.eq_2 _ _ _ _ _) ?_
      refine VF.iload_n C 1 dX2_examine_25 rfl ?_
      refine VF.sipush C dX2_examine_26 ks_200 ?_
      refine VF.icmp_ge C 74 dX2_examine_29 rfl (fun h1 => ?_) (fun h1 => ?_)
      · exact VF.vret C rfl rfl dX2_examine_74
      · refine VF.aload_n C 0 dX2_examine_32 rfl ?_
        refine VF.get C fl_X2_26 0 rfl rfl dX2_examine_33 ?_
        refine VF.aload_n C 0 dX2_examine_36 rfl ?_
        refine VF.get C fl_X2_15 0 rfl rfl dX2_examine_37 ?_
        refine VF.icmp_ge C 74 dX2_examine_40 rfl (fun h2 => ?_) (fun h2 => ?_)
        · exact VF.vret C rfl rfl dX2_examine_74
        · refine VF.aload_n C 0 dX2_examine_43 rfl ?_
          refine VF.get C fl_X2_26 0 rfl rfl dX2_examine_44 ?_
          refine VF.istore_n C [1, 2, 0] dX2_examine_47 rfl (Nat.le_of_ble_eq_true rfl) (lv' := [(0, .ref a0), (1, .int x1), (2, .int (f0 3))]) rfl ?_
          refine VF.aload_n C 0 dX2_examine_48 rfl ?_
          refine VF.get C fl_X2_29 0 rfl rfl dX2_examine_49 ?_
          refine VF.if_ne C 62 dX2_examine_52 rfl (fun h3 => ?_) (fun h3 => ?_)
          · refine VF.aload_n C 0 dX2_examine_62 rfl ?_
            refine VF.iload_n C 2 dX2_examine_63 rfl ?_
            refine VF.put C fl_X2_33 tyX2 tyX2_ok nmX2 0 rfl rfl rfl (Nat.le_of_ble_eq_true rfl) (ws' := [eT a0 a1 a2 (upd f0 5 (f0 3)), eA cI 200 a1 f1, eS a2 f2]) rfl dX2_examine_64 ?_
            exact VF.vret C rfl rfl dX2_examine_67
          · refine VF.aload_n C 0 dX2_examine_55 rfl ?_
            refine VF.callVi C (b := a0) (As := []) (rest := []) lk_X2_39 (mtX2_readItem l D cI cZ a0 a1 a2 f0 f1 f2) (fun y => y.1) (fun _ => rfl) [some 0, some 1, some 2] ⟨rfl, rfl⟩ (ws' := fun y => [eT a0 a1 a2 y.2.1, eA cI 200 a1 f1, eS a2 y.2.2]) (fun _ => ⟨⟨rfl, rfl, rfl⟩, ⟨rfl, rfl, rfl⟩, ⟨rfl, rfl, rfl⟩, trivial⟩) (ci := 2) rfl rfl rfl rfl (Nat.le_of_ble_eq_true rfl) ⟨Nat.le_of_ble_eq_true rfl, Nat.le_of_ble_eq_true rfl⟩ dX2_examine_56 ⟨Nat.le_refl 0, Nat.le_refl 0⟩ (fun y2 => ?_)
            refine VF.if_ne C 68 dX2_examine_59 rfl (fun h4 => ?_) (fun h4 => ?_)
            · refine VF.iinc C 1 [1, 0, 2] dX2_examine_68 rfl (v := (x1 + 1)) rfl (Nat.le_of_ble_eq_true rfl) (lv' := [(0, .ref a0), (1, .int (x1 + 1)), (2, .int (f0 3))]) rfl ?_
              refine VF.goto C 25 dX2_examine_71 rfl ?_
              exact VF.lvs [0, 1] rfl (ih (x1 + 1) y2.2.1 y2.2.2)
            · refine VF.aload_n C 0 dX2_examine_62 rfl ?_
              refine VF.iload_n C 2 dX2_examine_63 rfl ?_
              refine VF.put C fl_X2_33 tyX2 tyX2_ok nmX2 0 rfl rfl rfl (Nat.le_of_ble_eq_true rfl) (ws' := [eT a0 a1 a2 (upd y2.2.1 5 (f0 3)), eA cI 200 a1 f1, eS a2 y2.2.2]) rfl dX2_examine_64 ?_
              exact VF.vret C rfl rfl dX2_examine_67
  refine VF.lve (lv' := [(0, .ref a0)]) rfl ?_
  refine VF.eq (zX2_examine.eq_1 f0 f1 f2) ?_
  refine VF.aload_n C 0 dX2_examine_0 rfl ?_
  refine VF.get C fl_X2_22 0 rfl rfl dX2_examine_1 ?_
  refine VF.callVv C (b := a2) (As := []) (rest := []) lk_X2_36 (mtX1_setUsual l D cI cZ a2 f2) (fun _ => rfl) [none, none, some 0] ⟨rfl, rfl⟩ (ws' := fun y => [eT a0 a1 a2 f0, eA cI 200 a1 f1, eS a2 y]) (fun _ => ⟨rfl, rfl, ⟨rfl, rfl, rfl⟩, trivial⟩) (ci := 1) rfl rfl rfl rfl (Nat.le_of_ble_eq_true rfl) ⟨Nat.le_of_ble_eq_true rfl, Nat.le_of_ble_eq_true rfl⟩ dX2_examine_4 ⟨Nat.le_refl 0, Nat.le_refl 0⟩ (fun y1 => ?_)
  refine VF.aload_n C 0 dX2_examine_7 rfl ?_
  refine VF.iconst C dX2_examine_8 kc_0 ?_
  refine VF.put C fl_X2_26 tyX2 tyX2_ok nmX2 0 rfl rfl rfl (Nat.le_of_ble_eq_true rfl) (ws' := [eT a0 a1 a2 (upd f0 3 0), eA cI 200 a1 f1, eS a2 y1]) rfl dX2_examine_9 ?_
  refine VF.aload_n C 0 dX2_examine_12 rfl ?_
  refine VF.iconst C dX2_examine_13 kc_0 ?_
  refine VF.putbK C fl_X2_29 tyX2 tyX2_ok nmX2 0 (Or.inl rfl) rfl rfl rfl (Nat.le_of_ble_eq_true rfl) (ws' := [eT a0 a1 a2 (upd (upd f0 3 0) 4 0), eA cI 200 a1 f1, eS a2 y1]) rfl dX2_examine_14 ?_
  refine VF.aload_n C 0 dX2_examine_17 rfl ?_
  refine VF.bipush C dX2_examine_18 kb_m4 ?_
  refine VF.put C fl_X2_33 tyX2 tyX2_ok nmX2 0 rfl rfl rfl (Nat.le_of_ble_eq_true rfl) (ws' := [eT a0 a1 a2 (upd (upd (upd f0 3 0) 4 0) 5 (-4)), eA cI 200 a1 f1, eS a2 y1]) rfl dX2_examine_20 ?_
  refine VF.iconst C dX2_examine_23 kc_0 ?_
  refine VF.istore_n C [1, 0] dX2_examine_24 rfl (Nat.le_of_ble_eq_true rfl) (lv' := [(0, .ref a0), (1, .int 0)]) rfl ?_
  exact k25 4096 0 (upd (upd (upd f0 3 0) 4 0) 5 (-4)) y1
