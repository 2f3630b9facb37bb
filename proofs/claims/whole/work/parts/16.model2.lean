set_option maxHeartbeats 4000000 in
set_option maxRecDepth 100000 in
theorem mtX5_begins (l : Launch) (D : va_G) (cI cZ : ClassId) (a0 a1 a2 a3 a4 a5 : Nat) (f0 f1 f2 f3 f4 f5 : Fn) (u1 : Int32) (u2 : Int32) (u3 : Int32) : Ctr l yX5_begins cX5_begins 4 none 0 0 D cI cZ [.ref a0, .int u1, .int u2, .int u3] [eM a0 a1 a2 a3 a4 a5 f0, eA cI 200 a1 f1, eA cI 5 a2 f2, eA cI 5 a3 f3, eA cI 306 a4 f4, eA cI 612 a5 f5] (zX5_begins f4 u1 u2 u3) (fun _ : Fn => (none : Option Value)) (fun y : Fn => [eM a0 a1 a2 a3 a4 a5 f0, eA cI 200 a1 f1, eA cI 5 a2 f2, eA cI 5 a3 f3, eA cI 306 a4 y, eA cI 612 a5 f5]) := by
  refine Ctr.of (by decide) (Nat.le_of_ble_eq_true rfl) ?_
  intro p e s m below meth c A C
  have C : CX p s m ([.ref a0, .int u1, .int u2, .int u3] : List Value).toArray meth c cX5_begins 4 RX5 D cI cZ A none := C
  refine VF.lve (lv' := [(0, .ref a0), (1, .int u1), (2, .int u2), (3, .int u3)]) rfl ?_
  refine VF.eq (zX5_begins.eq_1 f4 u1 u2 u3) ?_
  refine VF.aload_n C 0 dX5_begins_0 rfl ?_
  refine VF.get C fl_X5_19 0 rfl rfl dX5_begins_1 ?_
  refine VF.sipush C dX5_begins_4 ks_293 ?_
  refine VF.iload_n C 1 dX5_begins_7 rfl ?_
  refine VF.iastK C 4 293 li_293 (Nat.le_of_ble_eq_true rfl) (Nat.le_of_ble_eq_true rfl) rfl (ws' := [eM a0 a1 a2 a3 a4 a5 f0, eA cI 200 a1 f1, eA cI 5 a2 f2, eA cI 5 a3 f3, eA cI 306 a4 (upd f4 293 u1), eA cI 612 a5 f5]) rfl dX5_begins_8 ?_
  refine VF.aload_n C 0 dX5_begins_9 rfl ?_
  refine VF.get C fl_X5_19 0 rfl rfl dX5_begins_10 ?_
  refine VF.sipush C dX5_begins_13 ks_294 ?_
  refine VF.iload_n C 2 dX5_begins_16 rfl ?_
  refine VF.iastK C 4 294 li_294 (Nat.le_of_ble_eq_true rfl) (Nat.le_of_ble_eq_true rfl) rfl (ws' := [eM a0 a1 a2 a3 a4 a5 f0, eA cI 200 a1 f1, eA cI 5 a2 f2, eA cI 5 a3 f3, eA cI 306 a4 (upd (upd f4 293 u1) 294 u2), eA cI 612 a5 f5]) rfl dX5_begins_17 ?_
  refine VF.aload_n C 0 dX5_begins_18 rfl ?_
  refine VF.get C fl_X5_19 0 rfl rfl dX5_begins_19 ?_
  refine VF.sipush C dX5_begins_22 ks_295 ?_
  refine VF.iload_n C 3 dX5_begins_25 rfl ?_
  refine VF.iastK C 4 295 li_295 (Nat.le_of_ble_eq_true rfl) (Nat.le_of_ble_eq_true rfl) rfl (ws' := [eM a0 a1 a2 a3 a4 a5 f0, eA cI 200 a1 f1, eA cI 5 a2 f2, eA cI 5 a3 f3, eA cI 306 a4 (upd (upd (upd f4 293 u1) 294 u2) 295 u3), eA cI 612 a5 f5]) rfl dX5_begins_26 ?_
  refine VF.aload_n C 0 dX5_begins_27 rfl ?_
  refine VF.get C fl_X5_19 0 rfl rfl dX5_begins_28 ?_
  refine VF.sipush C dX5_begins_31 ks_305 ?_
  refine VF.dup2 C dX5_begins_34 rfl rfl ?_
  refine VF.ialdK C 4 305 li_305 (Nat.le_of_ble_eq_true rfl) (Nat.le_of_ble_eq_true rfl) rfl dX5_begins_35 ?_
  refine VF.iconst C dX5_begins_36 kc_1 ?_
  refine VF.iadd C dX5_begins_37 ?_
  refine VF.iastK C 4 305 li_305 (Nat.le_of_ble_eq_true rfl) (Nat.le_of_ble_eq_true rfl) rfl (ws' := [eM a0 a1 a2 a3 a4 a5 f0, eA cI 200 a1 f1, eA cI 5 a2 f2, eA cI 5 a3 f3, eA cI 306 a4 (upd (upd (upd (upd f4 293 u1) 294 u2) 295 u3) 305 (((upd (upd (upd f4 293 u1) 294 u2) 295 u3) 305) + 1)), eA cI 612 a5 f5]) rfl dX5_begins_38 ?_
  exact VF.vret C rfl rfl dX5_begins_39
set_option maxHeartbeats 4000000 in
set_option maxRecDepth 100000 in
theorem mtX5_anyGuarded (l : Launch) (D : va_G) (cI cZ : ClassId) (a0 a1 a2 a3 a4 a5 : Nat) (f0 f1 f2 f3 f4 f5 : Fn) : Ctr l yX5_anyGuarded cX5_anyGuarded 3 (some .boolean) 1 21 D cI cZ [.ref a0] [eM a0 a1 a2 a3 a4 a5 f0, eA cI 200 a1 f1, eA cI 5 a2 f2, eA cI 5 a3 f3, eA cI 306 a4 f4, eA cI 612 a5 f5] (zX5_anyGuarded f2 f4) (fun y : Int32 => some (Value.int y)) (fun _ : Int32 => [eM a0 a1 a2 a3 a4 a5 f0, eA cI 200 a1 f1, eA cI 5 a2 f2, eA cI 5 a3 f3, eA cI 306 a4 f4, eA cI 612 a5 f5]) := by
  refine Ctr.of (by decide) (Nat.le_of_ble_eq_true rfl) ?_
  intro p e s m below meth c A C
  have C : CX p s m ([.ref a0] : List Value).toArray meth c cX5_anyGuarded 3 RX5 D cI cZ A (some .boolean) := C
  have k4 : ∀ (n : Nat) (x1 : Int32) (x2 : Int32), VF p l e { frames := 1, cells := 0, slots := 0, locals := 21 } s m ([.ref a0] : List Value).toArray below meth c 0 0 D A 3 (fun r => MQ below (QcX ((fun y : Int32 => some (Value.int y)) r) D ((fun _ : Int32 => [eM a0 a1 a2 a3 a4 a5 f0, eA cI 200 a1 f1, eA cI 5 a2 f2, eA cI 5 a3 f3, eA cI 306 a4 f4, eA cI 612 a5 f5]) r) A) ([.ref a0] : List Value).toArray s 0 0 A) (zX5_anyGuarded_k4 n f2 f4 x1 x2) [eM a0 a1 a2 a3 a4 a5 f0, eA cI 200 a1 f1, eA cI 5 a2 f2, eA cI 5 a3 f3, eA cI 306 a4 f4, eA cI 612 a5 f5] 4 [(0, .ref a0), (1, .int x1), (2, .int x2)] [] := by
    intro n
    induction n with
    | zero =>
      intro x1 x2
      exact VF.eq (zX5_anyGuarded_k4.eq_1 _ _ _ _) VF.nn
    | succ n ih =>
      intro x1 x2
      refine VF.eq (zX5_anyGuarded_k4.eq_2 _ _ _ _ _) ?_
      refine VF.iload_n C 2 dX5_anyGuarded_4 rfl ?_
      refine VF.aload_n C 0 dX5_anyGuarded_5 rfl ?_
      refine VF.get C fl_X5_13 0 rfl rfl dX5_anyGuarded_6 ?_
      refine VF.iconst C dX5_anyGuarded_9 kc_2 ?_
      refine VF.ialdK C 2 2 li_2 (Nat.le_of_ble_eq_true rfl) (Nat.le_of_ble_eq_true rfl) rfl dX5_anyGuarded_10 ?_
      refine VF.icmp_ge C 38 dX5_anyGuarded_11 rfl (fun h1 => ?_) (fun h1 => ?_)
      · refine VF.iload_n C 1 dX5_anyGuarded_38 rfl ?_
        exact VF.zret C rfl rfl dX5_anyGuarded_39
      · refine VF.iload_n C 1 dX5_anyGuarded_14 rfl ?_
        refine VF.if_ne C 26 dX5_anyGuarded_15 rfl (fun h2 => ?_) (fun h2 => ?_)
        · refine VF.iconst C dX5_anyGuarded_26 kc_1 ?_
          refine VF.goto C 31 dX5_anyGuarded_27 rfl ?_
          refine VF.istore_n C [1, 0, 2] dX5_anyGuarded_31 rfl (Nat.le_of_ble_eq_true rfl) (lv' := [(0, .ref a0), (1, .int 1), (2, .int x2)]) rfl ?_
          refine VF.iinc C 2 [1, 2, 0] dX5_anyGuarded_32 rfl (v := (x2 + 1)) rfl (Nat.le_of_ble_eq_true rfl) (lv' := [(0, .ref a0), (1, .int 1), (2, .int (x2 + 1))]) rfl ?_
          refine VF.goto C 4 dX5_anyGuarded_35 rfl ?_
          exact ih 1 (x2 + 1)
        · refine VF.aload_n C 0 dX5_anyGuarded_18 rfl ?_
          refine VF.iload_n C 2 dX5_anyGuarded_19 rfl ?_
          refine VF.callVi C (b := a0) (As := [.int x2]) (rest := []) lk_X5_107 (mtX5_isGuarded l D cI cZ a0 a1 a2 a3 a4 a5 f0 f1 f2 f3 f4 f5 x2) (fun y => y) (fun _ => rfl) [some 0, some 1, some 2, some 3, some 4, some 5] ⟨rfl, rfl⟩ (ws' := fun y => [eM a0 a1 a2 a3 a4 a5 f0, eA cI 200 a1 f1, eA cI 5 a2 f2, eA cI 5 a3 f3, eA cI 306 a4 f4, eA cI 612 a5 f5]) (fun _ => ⟨⟨rfl, rfl, rfl⟩, ⟨rfl, rfl, rfl⟩, ⟨rfl, rfl, rfl⟩, ⟨rfl, rfl, rfl⟩, ⟨rfl, rfl, rfl⟩, ⟨rfl, rfl, rfl⟩, trivial⟩) (ci := 5) rfl rfl rfl rfl (Nat.le_of_ble_eq_true rfl) ⟨Nat.le_of_ble_eq_true rfl, Nat.le_of_ble_eq_true rfl⟩ dX5_anyGuarded_20 ⟨Nat.le_refl 0, Nat.le_refl 0⟩ (fun y1 => ?_)
          refine VF.if_eq C 30 dX5_anyGuarded_23 rfl (fun h3 => ?_) (fun h3 => ?_)
          · refine VF.iconst C dX5_anyGuarded_30 kc_0 ?_
            refine VF.istore_n C [1, 0, 2] dX5_anyGuarded_31 rfl (Nat.le_of_ble_eq_true rfl) (lv' := [(0, .ref a0), (1, .int 0), (2, .int x2)]) rfl ?_
            refine VF.iinc C 2 [1, 2, 0] dX5_anyGuarded_32 rfl (v := (x2 + 1)) rfl (Nat.le_of_ble_eq_true rfl) (lv' := [(0, .ref a0), (1, .int 0), (2, .int (x2 + 1))]) rfl ?_
            refine VF.goto C 4 dX5_anyGuarded_35 rfl ?_
            exact ih 0 (x2 + 1)
          · refine VF.iconst C dX5_anyGuarded_26 kc_1 ?_
            refine VF.goto C 31 dX5_anyGuarded_27 rfl ?_
            refine VF.istore_n C [1, 0, 2] dX5_anyGuarded_31 rfl (Nat.le_of_ble_eq_true rfl) (lv' := [(0, .ref a0), (1, .int 1), (2, .int x2)]) rfl ?_
            refine VF.iinc C 2 [1, 2, 0] dX5_anyGuarded_32 rfl (v := (x2 + 1)) rfl (Nat.le_of_ble_eq_true rfl) (lv' := [(0, .ref a0), (1, .int 1), (2, .int (x2 + 1))]) rfl ?_
            refine VF.goto C 4 dX5_anyGuarded_35 rfl ?_
            exact ih 1 (x2 + 1)
  refine VF.lve (lv' := [(0, .ref a0)]) rfl ?_
  refine VF.eq (zX5_anyGuarded.eq_1 f2 f4) ?_
  refine VF.iconst C dX5_anyGuarded_0 kc_0 ?_
  refine VF.istore_n C [1, 0] dX5_anyGuarded_1 rfl (Nat.le_of_ble_eq_true rfl) (lv' := [(0, .ref a0), (1, .int 0)]) rfl ?_
  refine VF.iconst C dX5_anyGuarded_2 kc_0 ?_
  refine VF.istore_n C [1, 2, 0] dX5_anyGuarded_3 rfl (Nat.le_of_ble_eq_true rfl) (lv' := [(0, .ref a0), (1, .int 0), (2, .int 0)]) rfl ?_
  exact k4 4096 0 0
set_option maxHeartbeats 4000000 in
set_option maxRecDepth 100000 in
theorem mtX5_isRefused (l : Launch) (D : va_G) (cI cZ : ClassId) (a0 a1 a2 a3 a4 a5 : Nat) (f0 f1 f2 f3 f4 f5 : Fn) (u1 : Int32) : Ctr l yX5_isRefused cX5_isRefused 6 (some .boolean) 2 43 D cI cZ [.ref a0, .int u1] [eM a0 a1 a2 a3 a4 a5 f0, eA cI 200 a1 f1, eA cI 5 a2 f2, eA cI 5 a3 f3, eA cI 306 a4 f4, eA cI 612 a5 f5] (zX5_isRefused f2 f4 u1) (fun y : Int32 × Fn => some (Value.int y.1)) (fun y : Int32 × Fn => [eM a0 a1 a2 a3 a4 a5 f0, eA cI 200 a1 f1, eA cI 5 a2 f2, eA cI 5 a3 f3, eA cI 306 a4 y.2, eA cI 612 a5 f5]) := by
  refine Ctr.of (by decide) (Nat.le_of_ble_eq_true rfl) ?_
  intro p e s m below meth c A C
  have C : CX p s m ([.ref a0, .int u1] : List Value).toArray meth c cX5_isRefused 6 RX5 D cI cZ A (some .boolean) := C
  have k174 : ∀ (n : Nat) (x2 : Int32) (x3 : Int32) (x4 : Int32) (f4 : Fn), VF p l e { frames := 2, cells := 0, slots := 0, locals := 43 } s m ([.ref a0, .int u1] : List Value).toArray below meth c 0 0 D A 6 (fun r => MQ below (QcX ((fun y : Int32 × Fn => some (Value.int y.1)) r) D ((fun y : Int32 × Fn => [eM a0 a1 a2 a3 a4 a5 f0, eA cI 200 a1 f1, eA cI 5 a2 f2, eA cI 5 a3 f3, eA cI 306 a4 y.2, eA cI 612 a5 f5]) r) A) ([.ref a0, .int u1] : List Value).toArray s 0 0 A) (zX5_isRefused_k174 n f2 f4 x2 x3 x4) [eM a0 a1 a2 a3 a4 a5 f0, eA cI 200 a1 f1, eA cI 5 a2 f2, eA cI 5 a3 f3, eA cI 306 a4 f4, eA cI 612 a5 f5] 174 [(0, .ref a0), (2, .int x2), (3, .int x3), (4, .int x4)] [] := by
    intro n
    induction n with
    | zero =>
      intro x2 x3 x4 f4
      exact VF.eq (zX5_isRefused_k174.eq_1 _ _ _ _ _) VF.nn
    | succ n ih =>
      intro x2 x3 x4 f4
      refine VF.eq (zX5_isRefused_k174.eq_2 _ _ _ _ _ _) ?_
      refine VF.iload C 3 dX5_isRefused_174 rfl ?_
      refine VF.aload_n C 0 dX5_isRefused_176 rfl ?_
      refine VF.get C fl_X5_13 0 rfl rfl dX5_isRefused_177 ?_
      refine VF.iconst C dX5_isRefused_180 kc_0 ?_
      refine VF.ialdK C 2 0 li_0 (Nat.le_of_ble_eq_true rfl) (Nat.le_of_ble_eq_true rfl) rfl dX5_isRefused_181 ?_
      refine VF.icmp_ge C 262 dX5_isRefused_182 rfl (fun h11 => ?_) (fun h11 => ?_)
      · refine VF.aload_n C 0 dX5_isRefused_262 rfl ?_
        refine VF.iconst C dX5_isRefused_263 kc_1 ?_
        refine VF.iload_n C 2 dX5_isRefused_264 rfl ?_
        refine VF.aload_n C 0 dX5_isRefused_265 rfl ?_
        refine VF.get C fl_X5_13 0 rfl rfl dX5_isRefused_266 ?_
        refine VF.iconst C dX5_isRefused_269 kc_3 ?_
        refine VF.ialdK C 2 3 li_3 (Nat.le_of_ble_eq_true rfl) (Nat.le_of_ble_eq_true rfl) rfl dX5_isRefused_270 ?_
        refine VF.callVv C (b := a0) (As := [.int 1, .int x3, .int (f2 3)]) (rest := []) lk_X5_116 (mtX5_begins l D cI cZ a0 a1 a2 a3 a4 a5 f0 f1 f2 f3 f4 f5 1 x3 (f2 3)) (fun _ => rfl) [some 0, some 1, some 2, some 3, some 4, some 5] ⟨rfl, rfl⟩ (ws' := fun y => [eM a0 a1 a2 a3 a4 a5 f0, eA cI 200 a1 f1, eA cI 5 a2 f2, eA cI 5 a3 f3, eA cI 306 a4 y, eA cI 612 a5 f5]) (fun _ => ⟨⟨rfl, rfl, rfl⟩, ⟨rfl, rfl, rfl⟩, ⟨rfl, rfl, rfl⟩, ⟨rfl, rfl, rfl⟩, ⟨rfl, rfl, rfl⟩, ⟨rfl, rfl, rfl⟩, trivial⟩) (ci := 5) rfl rfl rfl rfl (Nat.le_of_ble_eq_true rfl) ⟨Nat.le_of_ble_eq_true rfl, Nat.le_of_ble_eq_true rfl⟩ dX5_isRefused_271 ⟨Nat.le_refl 0, Nat.le_refl 0⟩ (fun y7 => ?_)
        refine VF.iconst C dX5_isRefused_274 kc_0 ?_
        exact VF.zretK C (Or.inl rfl) rfl rfl dX5_isRefused_275
      · refine VF.iload_n C 1 dX5_isRefused_185 rfl ?_
        refine VF.aload_n C 0 dX5_isRefused_186 rfl ?_
        refine VF.get C fl_X5_13 0 rfl rfl dX5_isRefused_187 ?_
        refine VF.iconst C dX5_isRefused_190 kc_0 ?_
        refine VF.ialdK C 2 0 li_0 (Nat.le_of_ble_eq_true rfl) (Nat.le_of_ble_eq_true rfl) rfl dX5_isRefused_191 ?_
        refine VF.idiv C dX5_isRefused_192 ?_
        refine VF.aload_n C 0 dX5_isRefused_193 rfl ?_
        refine VF.get C fl_X5_13 0 rfl rfl dX5_isRefused_194 ?_
        refine VF.iconst C dX5_isRefused_197 kc_0 ?_
        refine VF.ialdK C 2 0 li_0 (Nat.le_of_ble_eq_true rfl) (Nat.le_of_ble_eq_true rfl) rfl dX5_isRefused_198 ?_
        refine VF.imul C dX5_isRefused_199 ?_
        refine VF.iload C 3 dX5_isRefused_200 rfl ?_
        refine VF.iadd C dX5_isRefused_202 ?_
        refine VF.istore C [1, 2, 3, 4, 0] dX5_isRefused_203 (Nat.le_of_ble_eq_true rfl) (lv' := [(0, .ref a0), (2, .int x2), (3, .int x3), (4, .int x4), (5, .int (((x2 / (f2 0)) * (f2 0)) + x4))]) rfl ?_
        refine VF.aload_n C 0 dX5_isRefused_205 rfl ?_
        refine VF.get C fl_X5_19 0 rfl rfl dX5_isRefused_206 ?_
        refine VF.iload C 4 dX5_isRefused_209 rfl ?_
        refine VF.aload_n C 0 dX5_isRefused_211 rfl ?_
        refine VF.get C fl_X5_19 0 rfl rfl dX5_isRefused_212 ?_
        refine VF.sipush C dX5_isRefused_215 ks_272 ?_
        refine VF.iload C 3 dX5_isRefused_218 rfl ?_
        refine VF.iadd C dX5_isRefused_220 ?_
        refine VF.iald C 4 rfl dX5_isRefused_221 ?_
        refine VF.iconst C dX5_isRefused_222 kc_1 ?_
        refine VF.icmp_ne C 248 dX5_isRefused_223 rfl (fun h12 => ?_) (fun h12 => ?_)
        · refine VF.aload_n C 0 dX5_isRefused_248 rfl ?_
          refine VF.get C fl_X5_19 0 rfl rfl dX5_isRefused_249 ?_
          refine VF.iload C 4 dX5_isRefused_252 rfl ?_
          refine VF.iald C 4 rfl dX5_isRefused_254 ?_
          refine VF.iast C 4 rfl (ws' := [eM a0 a1 a2 a3 a4 a5 f0, eA cI 200 a1 f1, eA cI 5 a2 f2, eA cI 5 a3 f3, eA cI 306 a4 (upd f4 (ix (((x2 / (f2 0)) * (f2 0)) + x4)) (f4 (ix (((x2 / (f2 0)) * (f2 0)) + x4)))), eA cI 612 a5 f5]) rfl dX5_isRefused_255 ?_
          refine VF.iinc C 3 [1, 2, 3, 0, 4] dX5_isRefused_256 rfl (v := (x4 + 1)) rfl (Nat.le_of_ble_eq_true rfl) (lv' := [(0, .ref a0), (2, .int x2), (3, .int x3), (4, .int (x4 + 1)), (5, .int (((x2 / (f2 0)) * (f2 0)) + x4))]) rfl ?_
          refine VF.goto C 174 dX5_isRefused_259 rfl ?_
          exact VF.lvs [0, 1, 2, 3] rfl (ih x2 x3 (x4 + 1) (upd f4 (ix (((x2 / (f2 0)) * (f2 0)) + x4)) (f4 (ix (((x2 / (f2 0)) * (f2 0)) + x4)))))
        · refine VF.aload_n C 0 dX5_isRefused_226 rfl ?_
          refine VF.get C fl_X5_19 0 rfl rfl dX5_isRefused_227 ?_
          refine VF.iload C 4 dX5_isRefused_230 rfl ?_
          refine VF.iald C 4 rfl dX5_isRefused_232 ?_
          refine VF.aload_n C 0 dX5_isRefused_233 rfl ?_
          refine VF.get C fl_X5_19 0 rfl rfl dX5_isRefused_234 ?_
          refine VF.sipush C dX5_isRefused_237 ks_256 ?_
          refine VF.iload C 3 dX5_isRefused_240 rfl ?_
          refine VF.iadd C dX5_isRefused_242 ?_
          refine VF.iald C 4 rfl dX5_isRefused_243 ?_
          refine VF.iand C dX5_isRefused_244 ?_
          refine VF.goto C 255 dX5_isRefused_245 rfl ?_
          refine VF.iast C 4 rfl (ws' := [eM a0 a1 a2 a3 a4 a5 f0, eA cI 200 a1 f1, eA cI 5 a2 f2, eA cI 5 a3 f3, eA cI 306 a4 (upd f4 (ix (((x2 / (f2 0)) * (f2 0)) + x4)) ((f4 (ix (((x2 / (f2 0)) * (f2 0)) + x4))) &&& (f4 (ix (256 + x4))))), eA cI 612 a5 f5]) rfl dX5_isRefused_255 ?_
          refine VF.iinc C 3 [1, 2, 3, 0, 4] dX5_isRefused_256 rfl (v := (x4 + 1)) rfl (Nat.le_of_ble_eq_true rfl) (lv' := [(0, .ref a0), (2, .int x2), (3, .int x3), (4, .int (x4 + 1)), (5, .int (((x2 / (f2 0)) * (f2 0)) + x4))]) rfl ?_
          refine VF.goto C 174 dX5_isRefused_259 rfl ?_
          exact VF.lvs [0, 1, 2, 3] rfl (ih x2 x3 (x4 + 1) (upd f4 (ix (((x2 / (f2 0)) * (f2 0)) + x4)) ((f4 (ix (((x2 / (f2 0)) * (f2 0)) + x4))) &&& (f4 (ix (256 + x4))))))
  have k151 : ∀ (x1 : Int32) (x2 : Int32) (x3 : Int32) (f4 : Fn), VF p l e { frames := 2, cells := 0, slots := 0, locals := 43 } s m ([.ref a0, .int u1] : List Value).toArray below meth c 0 0 D A 6 (fun r => MQ below (QcX ((fun y : Int32 × Fn => some (Value.int y.1)) r) D ((fun y : Int32 × Fn => [eM a0 a1 a2 a3 a4 a5 f0, eA cI 200 a1 f1, eA cI 5 a2 f2, eA cI 5 a3 f3, eA cI 306 a4 y.2, eA cI 612 a5 f5]) r) A) ([.ref a0, .int u1] : List Value).toArray s 0 0 A) (zX5_isRefused_k151 f2 f4 x1 x2 x3) [eM a0 a1 a2 a3 a4 a5 f0, eA cI 200 a1 f1, eA cI 5 a2 f2, eA cI 5 a3 f3, eA cI 306 a4 f4, eA cI 612 a5 f5] 151 [(0, .ref a0), (1, .int x1), (2, .int x2), (3, .int x3)] [] := by
    intro x1 x2 x3 f4
    refine VF.eq (zX5_isRefused_k151.eq_1 f2 f4 x1 x2 x3) ?_
    refine VF.iload_n C 1 dX5_isRefused_151 rfl ?_
    refine VF.bipush C dX5_isRefused_152 kb_32 ?_
    refine VF.icmp_ne C 171 dX5_isRefused_154 rfl (fun h10 => ?_) (fun h10 => ?_)
    · refine VF.iconst C dX5_isRefused_171 kc_0 ?_
      refine VF.istore C [1, 2, 3, 4, 0] dX5_isRefused_172 (Nat.le_of_ble_eq_true rfl) (lv' := [(0, .ref a0), (1, .int x1), (2, .int x2), (3, .int x3), (4, .int 0)]) rfl ?_
      exact VF.lvs [0, 2, 3, 4] rfl (k174 4096 x2 x3 0 f4)
    · refine VF.aload_n C 0 dX5_isRefused_157 rfl ?_
      refine VF.iconst C dX5_isRefused_158 kc_2 ?_
      refine VF.iload_n C 3 dX5_isRefused_159 rfl ?_
      refine VF.aload_n C 0 dX5_isRefused_160 rfl ?_
      refine VF.get C fl_X5_13 0 rfl rfl dX5_isRefused_161 ?_
      refine VF.iconst C dX5_isRefused_164 kc_4 ?_
      refine VF.ialdK C 2 4 li_4 (Nat.le_of_ble_eq_true rfl) (Nat.le_of_ble_eq_true rfl) rfl dX5_isRefused_165 ?_
      refine VF.callVv C (b := a0) (As := [.int 2, .int x3, .int (f2 4)]) (rest := []) lk_X5_116 (mtX5_begins l D cI cZ a0 a1 a2 a3 a4 a5 f0 f1 f2 f3 f4 f5 2 x3 (f2 4)) (fun _ => rfl) [some 0, some 1, some 2, some 3, some 4, some 5] ⟨rfl, rfl⟩ (ws' := fun y => [eM a0 a1 a2 a3 a4 a5 f0, eA cI 200 a1 f1, eA cI 5 a2 f2, eA cI 5 a3 f3, eA cI 306 a4 y, eA cI 612 a5 f5]) (fun _ => ⟨⟨rfl, rfl, rfl⟩, ⟨rfl, rfl, rfl⟩, ⟨rfl, rfl, rfl⟩, ⟨rfl, rfl, rfl⟩, ⟨rfl, rfl, rfl⟩, ⟨rfl, rfl, rfl⟩, trivial⟩) (ci := 5) rfl rfl rfl rfl (Nat.le_of_ble_eq_true rfl) ⟨Nat.le_of_ble_eq_true rfl, Nat.le_of_ble_eq_true rfl⟩ dX5_isRefused_166 ⟨Nat.le_refl 0, Nat.le_refl 0⟩ (fun y6 => ?_)
      refine VF.iconst C dX5_isRefused_169 kc_0 ?_
      exact VF.zretK C (Or.inl rfl) rfl rfl dX5_isRefused_170
  refine VF.lve (lv' := [(0, .ref a0), (1, .int u1)]) rfl ?_
  refine VF.eq (zX5_isRefused.eq_1 f2 f4 u1) ?_
  refine VF.aload_n C 0 dX5_isRefused_0 rfl ?_
  refine VF.get C fl_X5_19 0 rfl rfl dX5_isRefused_1 ?_
  refine VF.sipush C dX5_isRefused_4 ks_301 ?_
  refine VF.ialdK C 4 301 li_301 (Nat.le_of_ble_eq_true rfl) (Nat.le_of_ble_eq_true rfl) rfl dX5_isRefused_7 ?_
  refine VF.aload_n C 0 dX5_isRefused_8 rfl ?_
  refine VF.callVi C (b := a0) (As := []) (rest := [.int (f4 301)]) lk_X5_89 (mtX5_all l D cI cZ a0 a1 a2 a3 a4 a5 f0 f1 f2 f3 f4 f5) (fun y => y) (fun _ => rfl) [some 0, some 1, some 2, some 3, some 4, some 5] ⟨rfl, rfl⟩ (ws' := fun y => [eM a0 a1 a2 a3 a4 a5 f0, eA cI 200 a1 f1, eA cI 5 a2 f2, eA cI 5 a3 f3, eA cI 306 a4 f4, eA cI 612 a5 f5]) (fun _ => ⟨⟨rfl, rfl, rfl⟩, ⟨rfl, rfl, rfl⟩, ⟨rfl, rfl, rfl⟩, ⟨rfl, rfl, rfl⟩, ⟨rfl, rfl, rfl⟩, ⟨rfl, rfl, rfl⟩, trivial⟩) (ci := 5) rfl rfl rfl rfl (Nat.le_of_ble_eq_true rfl) ⟨Nat.le_of_ble_eq_true rfl, Nat.le_of_ble_eq_true rfl⟩ dX5_isRefused_9 ⟨Nat.le_refl 0, Nat.le_refl 0⟩ (fun y1 => ?_)
  refine VF.irem C dX5_isRefused_12 ?_
  refine VF.istore_n C [1, 2, 0] dX5_isRefused_13 rfl (Nat.le_of_ble_eq_true rfl) (lv' := [(0, .ref a0), (1, .int u1), (2, .int (irm (f4 301) y1))]) rfl ?_
  refine VF.iload_n C 2 dX5_isRefused_14 rfl ?_
  refine VF.aload_n C 0 dX5_isRefused_15 rfl ?_
  refine VF.callVi C (b := a0) (As := []) (rest := [.int (irm (f4 301) y1)]) lk_X5_110 (mtX5_sectorSize l D cI cZ a0 a1 a2 a3 a4 a5 f0 f1 f2 f3 f4 f5) (fun y => y) (fun _ => rfl) [some 0, some 1, some 2, some 3, some 4, some 5] ⟨rfl, rfl⟩ (ws' := fun y => [eM a0 a1 a2 a3 a4 a5 f0, eA cI 200 a1 f1, eA cI 5 a2 f2, eA cI 5 a3 f3, eA cI 306 a4 f4, eA cI 612 a5 f5]) (fun _ => ⟨⟨rfl, rfl, rfl⟩, ⟨rfl, rfl, rfl⟩, ⟨rfl, rfl, rfl⟩, ⟨rfl, rfl, rfl⟩, ⟨rfl, rfl, rfl⟩, ⟨rfl, rfl, rfl⟩, trivial⟩) (ci := 5) rfl rfl rfl rfl (Nat.le_of_ble_eq_true rfl) ⟨Nat.le_of_ble_eq_true rfl, Nat.le_of_ble_eq_true rfl⟩ dX5_isRefused_16 ⟨Nat.le_refl 0, Nat.le_refl 0⟩ (fun y2 => ?_)
  refine VF.idiv C dX5_isRefused_19 ?_
  refine VF.istore_n C [1, 2, 3, 0] dX5_isRefused_20 rfl (Nat.le_of_ble_eq_true rfl) (lv' := [(0, .ref a0), (1, .int u1), (2, .int (irm (f4 301) y1)), (3, .int ((irm (f4 301) y1) / y2))]) rfl ?_
  refine VF.iload_n C 1 dX5_isRefused_21 rfl ?_
  refine VF.iconst C dX5_isRefused_22 kc_1 ?_
  refine VF.icmp_ne C 62 dX5_isRefused_23 rfl (fun h1 => ?_) (fun h1 => ?_)
  · refine VF.iload_n C 1 dX5_isRefused_62 rfl ?_
    refine VF.sipush C dX5_isRefused_63 ks_199 ?_
    refine VF.icmp_ne C 110 dX5_isRefused_66 rfl (fun h2 => ?_) (fun h2 => ?_)
    · refine VF.aload_n C 0 dX5_isRefused_110 rfl ?_
      refine VF.iload_n C 3 dX5_isRefused_111 rfl ?_
      refine VF.callVi C (b := a0) (As := [.int ((irm (f4 301) y1) / y2)]) (rest := []) lk_X5_107 (mtX5_isGuarded l D cI cZ a0 a1 a2 a3 a4 a5 f0 f1 f2 f3 f4 f5 ((irm (f4 301) y1) / y2)) (fun y => y) (fun _ => rfl) [some 0, some 1, some 2, some 3, some 4, some 5] ⟨rfl, rfl⟩ (ws' := fun y => [eM a0 a1 a2 a3 a4 a5 f0, eA cI 200 a1 f1, eA cI 5 a2 f2, eA cI 5 a3 f3, eA cI 306 a4 f4, eA cI 612 a5 f5]) (fun _ => ⟨⟨rfl, rfl, rfl⟩, ⟨rfl, rfl, rfl⟩, ⟨rfl, rfl, rfl⟩, ⟨rfl, rfl, rfl⟩, ⟨rfl, rfl, rfl⟩, ⟨rfl, rfl, rfl⟩, trivial⟩) (ci := 5) rfl rfl rfl rfl (Nat.le_of_ble_eq_true rfl) ⟨Nat.le_of_ble_eq_true rfl, Nat.le_of_ble_eq_true rfl⟩ dX5_isRefused_112 ⟨Nat.le_refl 0, Nat.le_refl 0⟩ (fun y3 => ?_)
      refine VF.if_ne C 149 dX5_isRefused_115 rfl (fun h3 => ?_) (fun h3 => ?_)
      · refine VF.iconst C dX5_isRefused_149 kc_1 ?_
        exact VF.zretK C (Or.inr rfl) rfl rfl dX5_isRefused_150
      · refine VF.aload_n C 0 dX5_isRefused_118 rfl ?_
        refine VF.get C fl_X5_19 0 rfl rfl dX5_isRefused_119 ?_
        refine VF.sipush C dX5_isRefused_122 ks_296 ?_
        refine VF.ialdK C 4 296 li_296 (Nat.le_of_ble_eq_true rfl) (Nat.le_of_ble_eq_true rfl) rfl dX5_isRefused_125 ?_
        refine VF.if_le C 151 dX5_isRefused_126 rfl (fun h4 => ?_) (fun h4 => ?_)
        · exact k151 u1 (irm (f4 301) y1) ((irm (f4 301) y1) / y2) f4
        · refine VF.iload_n C 1 dX5_isRefused_129 rfl ?_
          refine VF.bipush C dX5_isRefused_130 kb_32 ?_
          refine VF.icmp_eq C 149 dX5_isRefused_132 rfl (fun h5 => ?_) (fun h5 => ?_)
          · refine VF.iconst C dX5_isRefused_149 kc_1 ?_
            exact VF.zretK C (Or.inr rfl) rfl rfl dX5_isRefused_150
          · refine VF.aload_n C 0 dX5_isRefused_135 rfl ?_
            refine VF.get C fl_X5_19 0 rfl rfl dX5_isRefused_136 ?_
            refine VF.sipush C dX5_isRefused_139 ks_296 ?_
            refine VF.ialdK C 4 296 li_296 (Nat.le_of_ble_eq_true rfl) (Nat.le_of_ble_eq_true rfl) rfl dX5_isRefused_142 ?_
            refine VF.iconst C dX5_isRefused_143 kc_1 ?_
            refine VF.isub C dX5_isRefused_144 ?_
            refine VF.iload_n C 3 dX5_isRefused_145 rfl ?_
            refine VF.icmp_ne C 151 dX5_isRefused_146 rfl (fun h6 => ?_) (fun h6 => ?_)
            · exact k151 u1 (irm (f4 301) y1) ((irm (f4 301) y1) / y2) f4
            · refine VF.iconst C dX5_isRefused_149 kc_1 ?_
              exact VF.zretK C (Or.inr rfl) rfl rfl dX5_isRefused_150
    · refine VF.aload_n C 0 dX5_isRefused_69 rfl ?_
      refine VF.get C fl_X5_19 0 rfl rfl dX5_isRefused_70 ?_
      refine VF.sipush C dX5_isRefused_73 ks_296 ?_
      refine VF.ialdK C 4 296 li_296 (Nat.le_of_ble_eq_true rfl) (Nat.le_of_ble_eq_true rfl) rfl dX5_isRefused_76 ?_
      refine VF.if_gt C 87 dX5_isRefused_77 rfl (fun h7 => ?_) (fun h7 => ?_)
      · refine VF.iconst C dX5_isRefused_87 kc_1 ?_
        exact VF.zretK C (Or.inr rfl) rfl rfl dX5_isRefused_88
      · refine VF.aload_n C 0 dX5_isRefused_80 rfl ?_
        refine VF.callVi C (b := a0) (As := []) (rest := []) lk_X5_113 (mtX5_anyGuarded l D cI cZ a0 a1 a2 a3 a4 a5 f0 f1 f2 f3 f4 f5) (fun y => y) (fun _ => rfl) [some 0, some 1, some 2, some 3, some 4, some 5] ⟨rfl, rfl⟩ (ws' := fun y => [eM a0 a1 a2 a3 a4 a5 f0, eA cI 200 a1 f1, eA cI 5 a2 f2, eA cI 5 a3 f3, eA cI 306 a4 f4, eA cI 612 a5 f5]) (fun _ => ⟨⟨rfl, rfl, rfl⟩, ⟨rfl, rfl, rfl⟩, ⟨rfl, rfl, rfl⟩, ⟨rfl, rfl, rfl⟩, ⟨rfl, rfl, rfl⟩, ⟨rfl, rfl, rfl⟩, trivial⟩) (ci := 5) rfl rfl rfl rfl (Nat.le_of_ble_eq_true rfl) ⟨Nat.le_of_ble_eq_true rfl, Nat.le_of_ble_eq_true rfl⟩ dX5_isRefused_81 ⟨Nat.le_refl 0, Nat.le_refl 0⟩ (fun y4 => ?_)
        refine VF.if_eq C 89 dX5_isRefused_84 rfl (fun h8 => ?_) (fun h8 => ?_)
        · refine VF.aload_n C 0 dX5_isRefused_89 rfl ?_
          refine VF.iconst C dX5_isRefused_90 kc_3 ?_
          refine VF.iconst C dX5_isRefused_91 kc_0 ?_
          refine VF.aload_n C 0 dX5_isRefused_92 rfl ?_
          refine VF.get C fl_X5_13 0 rfl rfl dX5_isRefused_93 ?_
          refine VF.iconst C dX5_isRefused_96 kc_4 ?_
          refine VF.ialdK C 2 4 li_4 (Nat.le_of_ble_eq_true rfl) (Nat.le_of_ble_eq_true rfl) rfl dX5_isRefused_97 ?_
          refine VF.aload_n C 0 dX5_isRefused_98 rfl ?_
          refine VF.get C fl_X5_13 0 rfl rfl dX5_isRefused_99 ?_
          refine VF.iconst C dX5_isRefused_102 kc_2 ?_
          refine VF.ialdK C 2 2 li_2 (Nat.le_of_ble_eq_true rfl) (Nat.le_of_ble_eq_true rfl) rfl dX5_isRefused_103 ?_
          refine VF.imul C dX5_isRefused_104 ?_
          refine VF.callVv C (b := a0) (As := [.int 3, .int 0, .int ((f2 4) * (f2 2))]) (rest := []) lk_X5_116 (mtX5_begins l D cI cZ a0 a1 a2 a3 a4 a5 f0 f1 f2 f3 f4 f5 3 0 ((f2 4) * (f2 2))) (fun _ => rfl) [some 0, some 1, some 2, some 3, some 4, some 5] ⟨rfl, rfl⟩ (ws' := fun y => [eM a0 a1 a2 a3 a4 a5 f0, eA cI 200 a1 f1, eA cI 5 a2 f2, eA cI 5 a3 f3, eA cI 306 a4 y, eA cI 612 a5 f5]) (fun _ => ⟨⟨rfl, rfl, rfl⟩, ⟨rfl, rfl, rfl⟩, ⟨rfl, rfl, rfl⟩, ⟨rfl, rfl, rfl⟩, ⟨rfl, rfl, rfl⟩, ⟨rfl, rfl, rfl⟩, trivial⟩) (ci := 5) rfl rfl rfl rfl (Nat.le_of_ble_eq_true rfl) ⟨Nat.le_of_ble_eq_true rfl, Nat.le_of_ble_eq_true rfl⟩ dX5_isRefused_105 ⟨Nat.le_refl 0, Nat.le_refl 0⟩ (fun y5 => ?_)
          refine VF.iconst C dX5_isRefused_108 kc_0 ?_
          exact VF.zretK C (Or.inl rfl) rfl rfl dX5_isRefused_109
        · refine VF.iconst C dX5_isRefused_87 kc_1 ?_
          exact VF.zretK C (Or.inr rfl) rfl rfl dX5_isRefused_88
  · refine VF.aload_n C 0 dX5_isRefused_26 rfl ?_
    refine VF.get C fl_X5_19 0 rfl rfl dX5_isRefused_27 ?_
    refine VF.sipush C dX5_isRefused_30 ks_296 ?_
    refine VF.ialdK C 4 296 li_296 (Nat.le_of_ble_eq_true rfl) (Nat.le_of_ble_eq_true rfl) rfl dX5_isRefused_33 ?_
    refine VF.if_le C 39 dX5_isRefused_34 rfl (fun h9 => ?_) (fun h9 => ?_)
    · refine VF.aload_n C 0 dX5_isRefused_39 rfl ?_
      refine VF.get C fl_X5_19 0 rfl rfl dX5_isRefused_40 ?_
      refine VF.sipush C dX5_isRefused_43 ks_292 ?_
      refine VF.aload_n C 0 dX5_isRefused_46 rfl ?_
      refine VF.get C fl_X5_19 0 rfl rfl dX5_isRefused_47 ?_
      refine VF.sipush C dX5_isRefused_50 ks_302 ?_
      refine VF.ialdK C 4 302 li_302 (Nat.le_of_ble_eq_true rfl) (Nat.le_of_ble_eq_true rfl) rfl dX5_isRefused_53 ?_
      refine VF.iconst C dX5_isRefused_54 kc_4 ?_
      refine VF.idivK C (by decide) dX5_isRefused_55 ?_
      refine VF.bipush C dX5_isRefused_56 kb_8 ?_
      refine VF.iremK C (by decide) dX5_isRefused_58 ?_
      refine VF.iastK C 4 292 li_292 (Nat.le_of_ble_eq_true rfl) (Nat.le_of_ble_eq_true rfl) rfl (ws' := [eM a0 a1 a2 a3 a4 a5 f0, eA cI 200 a1 f1, eA cI 5 a2 f2, eA cI 5 a3 f3, eA cI 306 a4 (upd f4 292 (irm ((f4 302) / 4) 8)), eA cI 612 a5 f5]) rfl dX5_isRefused_59 ?_
      refine VF.iconst C dX5_isRefused_60 kc_0 ?_
      exact VF.zretK C (Or.inl rfl) rfl rfl dX5_isRefused_61
    · refine VF.iconst C dX5_isRefused_37 kc_1 ?_
      exact VF.zretK C (Or.inr rfl) rfl rfl dX5_isRefused_38
set_option maxHeartbeats 4000000 in
set_option maxRecDepth 100000 in
theorem mtX5_wants (l : Launch) (D : va_G) (cI cZ : ClassId) (a0 a1 a2 a3 a4 a5 : Nat) (f0 f1 f2 f3 f4 f5 : Fn) (u1 : Int32) : Ctr l yX5_wants cX5_wants 2 none 3 68 D cI cZ [.ref a0, .int u1] [eM a0 a1 a2 a3 a4 a5 f0, eA cI 200 a1 f1, eA cI 5 a2 f2, eA cI 5 a3 f3, eA cI 306 a4 f4, eA cI 612 a5 f5] (zX5_wants f2 f4 u1) (fun _ : Fn => (none : Option Value)) (fun y : Fn => [eM a0 a1 a2 a3 a4 a5 f0, eA cI 200 a1 f1, eA cI 5 a2 f2, eA cI 5 a3 f3, eA cI 306 a4 y, eA cI 612 a5 f5]) := by
  refine Ctr.of (by decide) (Nat.le_of_ble_eq_true rfl) ?_
  intro p e s m below meth c A C
  have C : CX p s m ([.ref a0, .int u1] : List Value).toArray meth c cX5_wants 2 RX5 D cI cZ A none := C
  refine VF.lve (lv' := [(0, .ref a0), (1, .int u1)]) rfl ?_
  refine VF.eq (zX5_wants.eq_1 f2 f4 u1) ?_
  refine VF.aload_n C 0 dX5_wants_0 rfl ?_
  refine VF.get C fl_X5_19 0 rfl rfl dX5_wants_1 ?_
  refine VF.sipush C dX5_wants_4 ks_290 ?_
  refine VF.ialdK C 4 290 li_290 (Nat.le_of_ble_eq_true rfl) (Nat.le_of_ble_eq_true rfl) rfl dX5_wants_7 ?_
  refine VF.iconst C dX5_wants_8 kc_1 ?_
  refine VF.icmp_ne C 49 dX5_wants_9 rfl (fun h1 => ?_) (fun h1 => ?_)
  · exact VF.vret C rfl rfl dX5_wants_49
  · refine VF.aload_n C 0 dX5_wants_12 rfl ?_
    refine VF.get C fl_X5_19 0 rfl rfl dX5_wants_13 ?_
    refine VF.sipush C dX5_wants_16 ks_290 ?_
    refine VF.iconst C dX5_wants_19 kc_0 ?_
    refine VF.iastK C 4 290 li_290 (Nat.le_of_ble_eq_true rfl) (Nat.le_of_ble_eq_true rfl) rfl (ws' := [eM a0 a1 a2 a3 a4 a5 f0, eA cI 200 a1 f1, eA cI 5 a2 f2, eA cI 5 a3 f3, eA cI 306 a4 (upd f4 290 0), eA cI 612 a5 f5]) rfl dX5_wants_20 ?_
    refine VF.aload_n C 0 dX5_wants_21 rfl ?_
    refine VF.get C fl_X5_19 0 rfl rfl dX5_wants_22 ?_
    refine VF.sipush C dX5_wants_25 ks_291 ?_
    refine VF.aload_n C 0 dX5_wants_28 rfl ?_
    refine VF.iload_n C 1 dX5_wants_29 rfl ?_
    refine VF.callVi C (b := a0) (As := [.int u1]) (rest := [.int 291, .ref a4]) lk_X5_120 (mtX5_isRefused l D cI cZ a0 a1 a2 a3 a4 a5 f0 f1 f2 f3 (upd f4 290 0) f5 u1) (fun y => y.1) (fun _ => rfl) [some 0, some 1, some 2, some 3, some 4, some 5] ⟨rfl, rfl⟩ (ws' := fun y => [eM a0 a1 a2 a3 a4 a5 f0, eA cI 200 a1 f1, eA cI 5 a2 f2, eA cI 5 a3 f3, eA cI 306 a4 y.2, eA cI 612 a5 f5]) (fun _ => ⟨⟨rfl, rfl, rfl⟩, ⟨rfl, rfl, rfl⟩, ⟨rfl, rfl, rfl⟩, ⟨rfl, rfl, rfl⟩, ⟨rfl, rfl, rfl⟩, ⟨rfl, rfl, rfl⟩, trivial⟩) (ci := 5) rfl rfl rfl rfl (Nat.le_of_ble_eq_true rfl) ⟨Nat.le_of_ble_eq_true rfl, Nat.le_of_ble_eq_true rfl⟩ dX5_wants_30 ⟨Nat.le_refl 0, Nat.le_refl 0⟩ (fun y1 => ?_)
    refine VF.if_eq C 40 dX5_wants_33 rfl (fun h2 => ?_) (fun h2 => ?_)
    · refine VF.aload_n C 0 dX5_wants_40 rfl ?_
      refine VF.get C fl_X5_19 0 rfl rfl dX5_wants_41 ?_
      refine VF.sipush C dX5_wants_44 ks_291 ?_
      refine VF.ialdK C 4 291 li_291 (Nat.le_of_ble_eq_true rfl) (Nat.le_of_ble_eq_true rfl) rfl dX5_wants_47 ?_
      refine VF.iastK C 4 291 li_291 (Nat.le_of_ble_eq_true rfl) (Nat.le_of_ble_eq_true rfl) rfl (ws' := [eM a0 a1 a2 a3 a4 a5 f0, eA cI 200 a1 f1, eA cI 5 a2 f2, eA cI 5 a3 f3, eA cI 306 a4 (upd y1.2 291 (y1.2 291)), eA cI 612 a5 f5]) rfl dX5_wants_48 ?_
      exact VF.vret C rfl rfl dX5_wants_49
    · refine VF.iconst C dX5_wants_36 kc_1 ?_
      refine VF.goto C 48 dX5_wants_37 rfl ?_
      refine VF.iastK C 4 291 li_291 (Nat.le_of_ble_eq_true rfl) (Nat.le_of_ble_eq_true rfl) rfl (ws' := [eM a0 a1 a2 a3 a4 a5 f0, eA cI 200 a1 f1, eA cI 5 a2 f2, eA cI 5 a3 f3, eA cI 306 a4 (upd y1.2 291 1), eA cI 612 a5 f5]) rfl dX5_wants_48 ?_
      exact VF.vret C rfl rfl dX5_wants_49
set_option maxHeartbeats 4000000 in
set_option maxRecDepth 100000 in
theorem mtX5_does (l : Launch) (D : va_G) (cI cZ : ClassId) (a0 a1 a2 a3 a4 a5 : Nat) (f0 f1 f2 f3 f4 f5 : Fn) (u1 : Int32) : Ctr l yX5_does cX5_does 2 none 0 0 D cI cZ [.ref a0, .int u1] [eM a0 a1 a2 a3 a4 a5 f0, eA cI 200 a1 f1, eA cI 5 a2 f2, eA cI 5 a3 f3, eA cI 306 a4 f4, eA cI 612 a5 f5] (zX5_does f4 u1) (fun _ : Fn => (none : Option Value)) (fun y : Fn => [eM a0 a1 a2 a3 a4 a5 f0, eA cI 200 a1 f1, eA cI 5 a2 f2, eA cI 5 a3 f3, eA cI 306 a4 y, eA cI 612 a5 f5]) := by
  refine Ctr.of (by decide) (Nat.le_of_ble_eq_true rfl) ?_
  intro p e s m below meth c A C
  have C : CX p s m ([.ref a0, .int u1] : List Value).toArray meth c cX5_does 2 RX5 D cI cZ A none := C
  refine VF.lve (lv' := [(0, .ref a0), (1, .int u1)]) rfl ?_
  refine VF.eq (zX5_does.eq_1 f4 u1) ?_
  refine VF.iload_n C 1 dX5_does_0 rfl ?_
  refine VF.ite (fun h1 => ?_) (fun h1 => ?_)
  · refine VF.lookup (off := 64) C 65 dX5_does_1 (by decide) (by rw [h1]; decide) rfl ?_
    refine VF.aload_n C 0 dX5_does_65 rfl ?_
    refine VF.get C fl_X5_19 0 rfl rfl dX5_does_66 ?_
    refine VF.sipush C dX5_does_69 ks_290 ?_
    refine VF.iconst C dX5_does_72 kc_0 ?_
    refine VF.iastK C 4 290 li_290 (Nat.le_of_ble_eq_true rfl) (Nat.le_of_ble_eq_true rfl) rfl (ws' := [eM a0 a1 a2 a3 a4 a5 f0, eA cI 200 a1 f1, eA cI 5 a2 f2, eA cI 5 a3 f3, eA cI 306 a4 (upd f4 290 0), eA cI 612 a5 f5]) rfl dX5_does_73 ?_
    refine VF.goto C 194 dX5_does_74 rfl ?_
    exact VF.vret C rfl rfl dX5_does_194
  refine VF.ite (fun h2 => ?_) (fun h2 => ?_)
  · refine VF.lookup (off := 43) C 44 dX5_does_1 (by decide) (by rw [h2]; decide) rfl ?_
    refine VF.aload_n C 0 dX5_does_44 rfl ?_
    refine VF.get C fl_X5_19 0 rfl rfl dX5_does_45 ?_
    refine VF.sipush C dX5_does_48 ks_290 ?_
    refine VF.iconst C dX5_does_51 kc_1 ?_
    refine VF.iastK C 4 290 li_290 (Nat.le_of_ble_eq_true rfl) (Nat.le_of_ble_eq_true rfl) rfl (ws' := [eM a0 a1 a2 a3 a4 a5 f0, eA cI 200 a1 f1, eA cI 5 a2 f2, eA cI 5 a3 f3, eA cI 306 a4 (upd f4 290 1), eA cI 612 a5 f5]) rfl dX5_does_52 ?_
    refine VF.aload_n C 0 dX5_does_53 rfl ?_
    refine VF.get C fl_X5_19 0 rfl rfl dX5_does_54 ?_
    refine VF.sipush C dX5_does_57 ks_291 ?_
    refine VF.iconst C dX5_does_60 kc_0 ?_
    refine VF.iastK C 4 291 li_291 (Nat.le_of_ble_eq_true rfl) (Nat.le_of_ble_eq_true rfl) rfl (ws' := [eM a0 a1 a2 a3 a4 a5 f0, eA cI 200 a1 f1, eA cI 5 a2 f2, eA cI 5 a3 f3, eA cI 306 a4 (upd (upd f4 290 1) 291 0), eA cI 612 a5 f5]) rfl dX5_does_61 ?_
    refine VF.goto C 194 dX5_does_62 rfl ?_
    exact VF.vret C rfl rfl dX5_does_194
  refine VF.ite (fun h3 => ?_) (fun h3 => ?_)
  · refine VF.lookup (off := 76) C 77 dX5_does_1 (by decide) (by rw [h3]; decide) rfl ?_
    refine VF.aload_n C 0 dX5_does_77 rfl ?_
    refine VF.get C fl_X5_19 0 rfl rfl dX5_does_78 ?_
    refine VF.sipush C dX5_does_81 ks_296 ?_
    refine VF.ialdK C 4 296 li_296 (Nat.le_of_ble_eq_true rfl) (Nat.le_of_ble_eq_true rfl) rfl dX5_does_84 ?_
    refine VF.if_le C 194 dX5_does_85 rfl (fun h4 => ?_) (fun h4 => ?_)
    · exact VF.vret C rfl rfl dX5_does_194
    · refine VF.aload_n C 0 dX5_does_88 rfl ?_
      refine VF.get C fl_X5_19 0 rfl rfl dX5_does_89 ?_
      refine VF.sipush C dX5_does_92 ks_293 ?_
      refine VF.iconst C dX5_does_95 kc_2 ?_
      refine VF.iastK C 4 293 li_293 (Nat.le_of_ble_eq_true rfl) (Nat.le_of_ble_eq_true rfl) rfl (ws' := [eM a0 a1 a2 a3 a4 a5 f0, eA cI 200 a1 f1, eA cI 5 a2 f2, eA cI 5 a3 f3, eA cI 306 a4 (upd f4 293 2), eA cI 612 a5 f5]) rfl dX5_does_96 ?_
      refine VF.aload_n C 0 dX5_does_97 rfl ?_
      refine VF.get C fl_X5_19 0 rfl rfl dX5_does_98 ?_
      refine VF.sipush C dX5_does_101 ks_294 ?_
      refine VF.aload_n C 0 dX5_does_104 rfl ?_
      refine VF.get C fl_X5_19 0 rfl rfl dX5_does_105 ?_
      refine VF.sipush C dX5_does_108 ks_296 ?_
      refine VF.ialdK C 4 296 li_296 (Nat.le_of_ble_eq_true rfl) (Nat.le_of_ble_eq_true rfl) rfl dX5_does_111 ?_
      refine VF.iconst C dX5_does_112 kc_1 ?_
      refine VF.isub C dX5_does_113 ?_
      refine VF.iastK C 4 294 li_294 (Nat.le_of_ble_eq_true rfl) (Nat.le_of_ble_eq_true rfl) rfl (ws' := [eM a0 a1 a2 a3 a4 a5 f0, eA cI 200 a1 f1, eA cI 5 a2 f2, eA cI 5 a3 f3, eA cI 306 a4 (upd (upd f4 293 2) 294 (((upd f4 293 2) 296) - 1)), eA cI 612 a5 f5]) rfl dX5_does_114 ?_
      refine VF.aload_n C 0 dX5_does_115 rfl ?_
      refine VF.get C fl_X5_19 0 rfl rfl dX5_does_116 ?_
      refine VF.sipush C dX5_does_119 ks_295 ?_
      refine VF.aload_n C 0 dX5_does_122 rfl ?_
      refine VF.get C fl_X5_19 0 rfl rfl dX5_does_123 ?_
      refine VF.sipush C dX5_does_126 ks_297 ?_
      refine VF.ialdK C 4 297 li_297 (Nat.le_of_ble_eq_true rfl) (Nat.le_of_ble_eq_true rfl) rfl dX5_does_129 ?_
      refine VF.iastK C 4 295 li_295 (Nat.le_of_ble_eq_true rfl) (Nat.le_of_ble_eq_true rfl) rfl (ws' := [eM a0 a1 a2 a3 a4 a5 f0, eA cI 200 a1 f1, eA cI 5 a2 f2, eA cI 5 a3 f3, eA cI 306 a4 (upd (upd (upd f4 293 2) 294 (((upd f4 293 2) 296) - 1)) 295 ((upd (upd f4 293 2) 294 (((upd f4 293 2) 296) - 1)) 297)), eA cI 612 a5 f5]) rfl dX5_does_130 ?_
      refine VF.aload_n C 0 dX5_does_131 rfl ?_
      refine VF.get C fl_X5_19 0 rfl rfl dX5_does_132 ?_
      refine VF.sipush C dX5_does_135 ks_296 ?_
      refine VF.iconst C dX5_does_138 kc_0 ?_
      refine VF.iastK C 4 296 li_296 (Nat.le_of_ble_eq_true rfl) (Nat.le_of_ble_eq_true rfl) rfl (ws' := [eM a0 a1 a2 a3 a4 a5 f0, eA cI 200 a1 f1, eA cI 5 a2 f2, eA cI 5 a3 f3, eA cI 306 a4 (upd (upd (upd (upd f4 293 2) 294 (((upd f4 293 2) 296) - 1)) 295 ((upd (upd f4 293 2) 294 (((upd f4 293 2) 296) - 1)) 297)) 296 0), eA cI 612 a5 f5]) rfl dX5_does_139 ?_
      refine VF.goto C 194 dX5_does_140 rfl ?_
      exact VF.vret C rfl rfl dX5_does_194
  refine VF.ite (fun h5 => ?_) (fun h5 => ?_)
  · refine VF.lookup (off := 142) C 143 dX5_does_1 (by decide) (by rw [h5]; decide) rfl ?_
    refine VF.aload_n C 0 dX5_does_143 rfl ?_
    refine VF.get C fl_X5_19 0 rfl rfl dX5_does_144 ?_
    refine VF.sipush C dX5_does_147 ks_303 ?_
    refine VF.ialdK C 4 303 li_303 (Nat.le_of_ble_eq_true rfl) (Nat.le_of_ble_eq_true rfl) rfl dX5_does_150 ?_
    refine VF.iconst C dX5_does_151 kc_1 ?_
    refine VF.icmp_ne C 194 dX5_does_152 rfl (fun h6 => ?_) (fun h6 => ?_)
    · exact VF.vret C rfl rfl dX5_does_194
    · refine VF.aload_n C 0 dX5_does_155 rfl ?_
      refine VF.get C fl_X5_19 0 rfl rfl dX5_does_156 ?_
      refine VF.sipush C dX5_does_159 ks_289 ?_
      refine VF.iconst C dX5_does_162 kc_0 ?_
      refine VF.iastK C 4 289 li_289 (Nat.le_of_ble_eq_true rfl) (Nat.le_of_ble_eq_true rfl) rfl (ws' := [eM a0 a1 a2 a3 a4 a5 f0, eA cI 200 a1 f1, eA cI 5 a2 f2, eA cI 5 a3 f3, eA cI 306 a4 (upd f4 289 0), eA cI 612 a5 f5]) rfl dX5_does_163 ?_
      refine VF.aload_n C 0 dX5_does_164 rfl ?_
      refine VF.get C fl_X5_19 0 rfl rfl dX5_does_165 ?_
      refine VF.sipush C dX5_does_168 ks_290 ?_
      refine VF.iconst C dX5_does_171 kc_0 ?_
      refine VF.iastK C 4 290 li_290 (Nat.le_of_ble_eq_true rfl) (Nat.le_of_ble_eq_true rfl) rfl (ws' := [eM a0 a1 a2 a3 a4 a5 f0, eA cI 200 a1 f1, eA cI 5 a2 f2, eA cI 5 a3 f3, eA cI 306 a4 (upd (upd f4 289 0) 290 0), eA cI 612 a5 f5]) rfl dX5_does_172 ?_
      refine VF.aload_n C 0 dX5_does_173 rfl ?_
      refine VF.get C fl_X5_19 0 rfl rfl dX5_does_174 ?_
      refine VF.sipush C dX5_does_177 ks_291 ?_
      refine VF.iconst C dX5_does_180 kc_0 ?_
      refine VF.iastK C 4 291 li_291 (Nat.le_of_ble_eq_true rfl) (Nat.le_of_ble_eq_true rfl) rfl (ws' := [eM a0 a1 a2 a3 a4 a5 f0, eA cI 200 a1 f1, eA cI 5 a2 f2, eA cI 5 a3 f3, eA cI 306 a4 (upd (upd (upd f4 289 0) 290 0) 291 0), eA cI 612 a5 f5]) rfl dX5_does_181 ?_
      refine VF.aload_n C 0 dX5_does_182 rfl ?_
      refine VF.get C fl_X5_19 0 rfl rfl dX5_does_183 ?_
      refine VF.sipush C dX5_does_186 ks_296 ?_
      refine VF.iconst C dX5_does_189 kc_0 ?_
      refine VF.iastK C 4 296 li_296 (Nat.le_of_ble_eq_true rfl) (Nat.le_of_ble_eq_true rfl) rfl (ws' := [eM a0 a1 a2 a3 a4 a5 f0, eA cI 200 a1 f1, eA cI 5 a2 f2, eA cI 5 a3 f3, eA cI 306 a4 (upd (upd (upd (upd f4 289 0) 290 0) 291 0) 296 0), eA cI 612 a5 f5]) rfl dX5_does_190 ?_
      refine VF.goto C 194 dX5_does_191 rfl ?_
      exact VF.vret C rfl rfl dX5_does_194
  refine VF.lookup (off := 193) C 194 dX5_does_1 (by decide) (Eq.trans (lv_osw h1 (k := 4) rfl) (Eq.trans (lv_osw h2 (k := 6) rfl) (Eq.trans (lv_osw h3 (k := 122) rfl) (Eq.trans (lv_osw h5 (k := 153) rfl) (rfl))))) rfl ?_
  exact VF.vret C rfl rfl dX5_does_194
set_option maxHeartbeats 4000000 in
set_option maxRecDepth 100000 in
theorem mtX5_tells (l : Launch) (D : va_G) (cI cZ : ClassId) (a0 a1 a2 a3 a4 a5 : Nat) (f0 f1 f2 f3 f4 f5 : Fn) (u1 : Int32) : Ctr l yX5_tells cX5_tells 3 none 4 89 D cI cZ [.ref a0, .int u1] [eM a0 a1 a2 a3 a4 a5 f0, eA cI 200 a1 f1, eA cI 5 a2 f2, eA cI 5 a3 f3, eA cI 306 a4 f4, eA cI 612 a5 f5] (zX5_tells f2 f4 u1) (fun _ : Fn => (none : Option Value)) (fun y : Fn => [eM a0 a1 a2 a3 a4 a5 f0, eA cI 200 a1 f1, eA cI 5 a2 f2, eA cI 5 a3 f3, eA cI 306 a4 y, eA cI 612 a5 f5]) := by
  refine Ctr.of (by decide) (Nat.le_of_ble_eq_true rfl) ?_
  intro p e s m below meth c A C
  have C : CX p s m ([.ref a0, .int u1] : List Value).toArray meth c cX5_tells 3 RX5 D cI cZ A none := C
  have k56 : ∀ (x1 : Int32) (x2 : Int32) (f4 : Fn), VF p l e { frames := 4, cells := 0, slots := 0, locals := 89 } s m ([.ref a0, .int u1] : List Value).toArray below meth c 0 0 D A 3 (fun r => MQ below (QcX ((fun _ : Fn => (none : Option Value)) r) D ((fun y : Fn => [eM a0 a1 a2 a3 a4 a5 f0, eA cI 200 a1 f1, eA cI 5 a2 f2, eA cI 5 a3 f3, eA cI 306 a4 y, eA cI 612 a5 f5]) r) A) ([.ref a0, .int u1] : List Value).toArray s 0 0 A) (zX5_tells_k56 f2 f4 x1 x2) [eM a0 a1 a2 a3 a4 a5 f0, eA cI 200 a1 f1, eA cI 5 a2 f2, eA cI 5 a3 f3, eA cI 306 a4 f4, eA cI 612 a5 f5] 56 [(0, .ref a0), (1, .int x1), (2, .int x2)] [] := by
    intro x1 x2 f4
    refine VF.eq (zX5_tells_k56.eq_1 f2 f4 x1 x2) ?_
    refine VF.iload_n C 1 dX5_tells_56 rfl ?_
    refine VF.bipush C dX5_tells_57 kb_54 ?_
    refine VF.icmp_ne C 79 dX5_tells_59 rfl (fun h3 => ?_) (fun h3 => ?_)
    · refine VF.iload_n C 1 dX5_tells_79 rfl ?_
      refine VF.bipush C dX5_tells_80 kb_57 ?_
      refine VF.icmp_ne C 104 dX5_tells_82 rfl (fun h4 => ?_) (fun h4 => ?_)
      · refine VF.iload_n C 1 dX5_tells_104 rfl ?_
        refine VF.iconst C dX5_tells_105 kc_1 ?_
        refine VF.icmp_eq C 115 dX5_tells_106 rfl (fun h5 => ?_) (fun h5 => ?_)
        · refine VF.aload_n C 0 dX5_tells_115 rfl ?_
          refine VF.iload_n C 1 dX5_tells_116 rfl ?_
          refine VF.callVv C (b := a0) (As := [.int x1]) (rest := []) lk_X5_123 (mtX5_wants l D cI cZ a0 a1 a2 a3 a4 a5 f0 f1 f2 f3 f4 f5 x1) (fun _ => rfl) [some 0, some 1, some 2, some 3, some 4, some 5] ⟨rfl, rfl⟩ (ws' := fun y => [eM a0 a1 a2 a3 a4 a5 f0, eA cI 200 a1 f1, eA cI 5 a2 f2, eA cI 5 a3 f3, eA cI 306 a4 y, eA cI 612 a5 f5]) (fun _ => ⟨⟨rfl, rfl, rfl⟩, ⟨rfl, rfl, rfl⟩, ⟨rfl, rfl, rfl⟩, ⟨rfl, rfl, rfl⟩, ⟨rfl, rfl, rfl⟩, ⟨rfl, rfl, rfl⟩, trivial⟩) (ci := 5) rfl rfl rfl rfl (Nat.le_of_ble_eq_true rfl) ⟨Nat.le_of_ble_eq_true rfl, Nat.le_of_ble_eq_true rfl⟩ dX5_tells_117 ⟨Nat.le_refl 0, Nat.le_refl 0⟩ (fun y3 => ?_)
          exact VF.vret C rfl rfl dX5_tells_120
        · refine VF.iload_n C 1 dX5_tells_109 rfl ?_
          refine VF.bipush C dX5_tells_110 kb_32 ?_
          refine VF.icmp_ne C 120 dX5_tells_112 rfl (fun h6 => ?_) (fun h6 => ?_)
          · exact VF.vret C rfl rfl dX5_tells_120
          · refine VF.aload_n C 0 dX5_tells_115 rfl ?_
            refine VF.iload_n C 1 dX5_tells_116 rfl ?_
            refine VF.callVv C (b := a0) (As := [.int x1]) (rest := []) lk_X5_123 (mtX5_wants l D cI cZ a0 a1 a2 a3 a4 a5 f0 f1 f2 f3 f4 f5 x1) (fun _ => rfl) [some 0, some 1, some 2, some 3, some 4, some 5] ⟨rfl, rfl⟩ (ws' := fun y => [eM a0 a1 a2 a3 a4 a5 f0, eA cI 200 a1 f1, eA cI 5 a2 f2, eA cI 5 a3 f3, eA cI 306 a4 y, eA cI 612 a5 f5]) (fun _ => ⟨⟨rfl, rfl, rfl⟩, ⟨rfl, rfl, rfl⟩, ⟨rfl, rfl, rfl⟩, ⟨rfl, rfl, rfl⟩, ⟨rfl, rfl, rfl⟩, ⟨rfl, rfl, rfl⟩, trivial⟩) (ci := 5) rfl rfl rfl rfl (Nat.le_of_ble_eq_true rfl) ⟨Nat.le_of_ble_eq_true rfl, Nat.le_of_ble_eq_true rfl⟩ dX5_tells_117 ⟨Nat.le_refl 0, Nat.le_refl 0⟩ (fun y4 => ?_)
            exact VF.vret C rfl rfl dX5_tells_120
      · refine VF.aload_n C 0 dX5_tells_85 rfl ?_
        refine VF.get C fl_X5_19 0 rfl rfl dX5_tells_86 ?_
        refine VF.sipush C dX5_tells_89 ks_288 ?_
        refine VF.dup2 C dX5_tells_92 rfl rfl ?_
        refine VF.ialdK C 4 288 li_288 (Nat.le_of_ble_eq_true rfl) (Nat.le_of_ble_eq_true rfl) rfl dX5_tells_93 ?_
        refine VF.iconst C dX5_tells_94 kc_1 ?_
        refine VF.iload_n C 2 dX5_tells_95 rfl ?_
        refine VF.ishl C dX5_tells_96 ?_
        refine VF.iconst C dX5_tells_97 kc_m1 ?_
        refine VF.ixor C dX5_tells_98 ?_
        refine VF.iand C dX5_tells_99 ?_
        refine VF.iastK C 4 288 li_288 (Nat.le_of_ble_eq_true rfl) (Nat.le_of_ble_eq_true rfl) rfl (ws' := [eM a0 a1 a2 a3 a4 a5 f0, eA cI 200 a1 f1, eA cI 5 a2 f2, eA cI 5 a3 f3, eA cI 306 a4 (upd f4 288 ((f4 288) &&& ((isl 1 x2) ^^^ (-1)))), eA cI 612 a5 f5]) rfl dX5_tells_100 ?_
        refine VF.goto C 120 dX5_tells_101 rfl ?_
        exact VF.vret C rfl rfl dX5_tells_120
    · refine VF.aload_n C 0 dX5_tells_62 rfl ?_
      refine VF.get C fl_X5_19 0 rfl rfl dX5_tells_63 ?_
      refine VF.sipush C dX5_tells_66 ks_288 ?_
      refine VF.dup2 C dX5_tells_69 rfl rfl ?_
      refine VF.ialdK C 4 288 li_288 (Nat.le_of_ble_eq_true rfl) (Nat.le_of_ble_eq_true rfl) rfl dX5_tells_70 ?_
      refine VF.iconst C dX5_tells_71 kc_1 ?_
      refine VF.iload_n C 2 dX5_tells_72 rfl ?_
      refine VF.ishl C dX5_tells_73 ?_
      refine VF.ior C dX5_tells_74 ?_
      refine VF.iastK C 4 288 li_288 (Nat.le_of_ble_eq_true rfl) (Nat.le_of_ble_eq_true rfl) rfl (ws' := [eM a0 a1 a2 a3 a4 a5 f0, eA cI 200 a1 f1, eA cI 5 a2 f2, eA cI 5 a3 f3, eA cI 306 a4 (upd f4 288 ((f4 288) ||| (isl 1 x2))), eA cI 612 a5 f5]) rfl dX5_tells_75 ?_
      refine VF.goto C 120 dX5_tells_76 rfl ?_
      exact VF.vret C rfl rfl dX5_tells_120
  refine VF.lve (lv' := [(0, .ref a0), (1, .int u1)]) rfl ?_
  refine VF.eq (zX5_tells.eq_1 f2 f4 u1) ?_
  refine VF.aload_n C 0 dX5_tells_0 rfl ?_
  refine VF.get C fl_X5_19 0 rfl rfl dX5_tells_1 ?_
  refine VF.sipush C dX5_tells_4 ks_301 ?_
  refine VF.ialdK C 4 301 li_301 (Nat.le_of_ble_eq_true rfl) (Nat.le_of_ble_eq_true rfl) rfl dX5_tells_7 ?_
  refine VF.aload_n C 0 dX5_tells_8 rfl ?_
  refine VF.callVi C (b := a0) (As := []) (rest := [.int (f4 301)]) lk_X5_89 (mtX5_all l D cI cZ a0 a1 a2 a3 a4 a5 f0 f1 f2 f3 f4 f5) (fun y => y) (fun _ => rfl) [some 0, some 1, some 2, some 3, some 4, some 5] ⟨rfl, rfl⟩ (ws' := fun y => [eM a0 a1 a2 a3 a4 a5 f0, eA cI 200 a1 f1, eA cI 5 a2 f2, eA cI 5 a3 f3, eA cI 306 a4 f4, eA cI 612 a5 f5]) (fun _ => ⟨⟨rfl, rfl, rfl⟩, ⟨rfl, rfl, rfl⟩, ⟨rfl, rfl, rfl⟩, ⟨rfl, rfl, rfl⟩, ⟨rfl, rfl, rfl⟩, ⟨rfl, rfl, rfl⟩, trivial⟩) (ci := 5) rfl rfl rfl rfl (Nat.le_of_ble_eq_true rfl) ⟨Nat.le_of_ble_eq_true rfl, Nat.le_of_ble_eq_true rfl⟩ dX5_tells_9 ⟨Nat.le_refl 0, Nat.le_refl 0⟩ (fun y1 => ?_)
  refine VF.irem C dX5_tells_12 ?_
  refine VF.aload_n C 0 dX5_tells_13 rfl ?_
  refine VF.callVi C (b := a0) (As := []) (rest := [.int (irm (f4 301) y1)]) lk_X5_110 (mtX5_sectorSize l D cI cZ a0 a1 a2 a3 a4 a5 f0 f1 f2 f3 f4 f5) (fun y => y) (fun _ => rfl) [some 0, some 1, some 2, some 3, some 4, some 5] ⟨rfl, rfl⟩ (ws' := fun y => [eM a0 a1 a2 a3 a4 a5 f0, eA cI 200 a1 f1, eA cI 5 a2 f2, eA cI 5 a3 f3, eA cI 306 a4 f4, eA cI 612 a5 f5]) (fun _ => ⟨⟨rfl, rfl, rfl⟩, ⟨rfl, rfl, rfl⟩, ⟨rfl, rfl, rfl⟩, ⟨rfl, rfl, rfl⟩, ⟨rfl, rfl, rfl⟩, ⟨rfl, rfl, rfl⟩, trivial⟩) (ci := 5) rfl rfl rfl rfl (Nat.le_of_ble_eq_true rfl) ⟨Nat.le_of_ble_eq_true rfl, Nat.le_of_ble_eq_true rfl⟩ dX5_tells_14 ⟨Nat.le_refl 0, Nat.le_refl 0⟩ (fun y2 => ?_)
  refine VF.idiv C dX5_tells_17 ?_
  refine VF.istore_n C [1, 2, 0] dX5_tells_18 rfl (Nat.le_of_ble_eq_true rfl) (lv' := [(0, .ref a0), (1, .int u1), (2, .int ((irm (f4 301) y1) / y2))]) rfl ?_
  refine VF.iload_n C 1 dX5_tells_19 rfl ?_
  refine VF.bipush C dX5_tells_20 kb_49 ?_
  refine VF.icmp_ne C 56 dX5_tells_22 rfl (fun h1 => ?_) (fun h1 => ?_)
  · exact k56 u1 ((irm (f4 301) y1) / y2) f4
  · refine VF.aload_n C 0 dX5_tells_25 rfl ?_
    refine VF.get C fl_X5_19 0 rfl rfl dX5_tells_26 ?_
    refine VF.sipush C dX5_tells_29 ks_302 ?_
    refine VF.ialdK C 4 302 li_302 (Nat.le_of_ble_eq_true rfl) (Nat.le_of_ble_eq_true rfl) rfl dX5_tells_32 ?_
    refine VF.iconst C dX5_tells_33 kc_4 ?_
    refine VF.icmp_ge C 56 dX5_tells_34 rfl (fun h2 => ?_) (fun h2 => ?_)
    · exact k56 u1 ((irm (f4 301) y1) / y2) f4
    · refine VF.aload_n C 0 dX5_tells_37 rfl ?_
      refine VF.get C fl_X5_19 0 rfl rfl dX5_tells_38 ?_
      refine VF.sipush C dX5_tells_41 ks_289 ?_
      refine VF.aload_n C 0 dX5_tells_44 rfl ?_
      refine VF.get C fl_X5_19 0 rfl rfl dX5_tells_45 ?_
      refine VF.sipush C dX5_tells_48 ks_302 ?_
      refine VF.ialdK C 4 302 li_302 (Nat.le_of_ble_eq_true rfl) (Nat.le_of_ble_eq_true rfl) rfl dX5_tells_51 ?_
      refine VF.iastK C 4 289 li_289 (Nat.le_of_ble_eq_true rfl) (Nat.le_of_ble_eq_true rfl) rfl (ws' := [eM a0 a1 a2 a3 a4 a5 f0, eA cI 200 a1 f1, eA cI 5 a2 f2, eA cI 5 a3 f3, eA cI 306 a4 (upd f4 289 (f4 302)), eA cI 612 a5 f5]) rfl dX5_tells_52 ?_
      refine VF.goto C 120 dX5_tells_53 rfl ?_
      exact VF.vret C rfl rfl dX5_tells_120
set_option maxHeartbeats 4000000 in
set_option maxRecDepth 100000 in
theorem mtX5_suspends (l : Launch) (D : va_G) (cI cZ : ClassId) (a0 a1 a2 a3 a4 a5 : Nat) (f0 f1 f2 f3 f4 f5 : Fn) : Ctr l yX5_suspends cX5_suspends 1 none 0 0 D cI cZ [.ref a0] [eM a0 a1 a2 a3 a4 a5 f0, eA cI 200 a1 f1, eA cI 5 a2 f2, eA cI 5 a3 f3, eA cI 306 a4 f4, eA cI 612 a5 f5] (zX5_suspends f4) (fun _ : Fn => (none : Option Value)) (fun y : Fn => [eM a0 a1 a2 a3 a4 a5 f0, eA cI 200 a1 f1, eA cI 5 a2 f2, eA cI 5 a3 f3, eA cI 306 a4 y, eA cI 612 a5 f5]) := by
  refine Ctr.of (by decide) (Nat.le_of_ble_eq_true rfl) ?_
  intro p e s m below meth c A C
  have C : CX p s m ([.ref a0] : List Value).toArray meth c cX5_suspends 1 RX5 D cI cZ A none := C
  refine VF.lve (lv' := [(0, .ref a0)]) rfl ?_
  refine VF.eq (zX5_suspends.eq_1 f4) ?_
  refine VF.aload_n C 0 dX5_suspends_0 rfl ?_
  refine VF.get C fl_X5_19 0 rfl rfl dX5_suspends_1 ?_
  refine VF.sipush C dX5_suspends_4 ks_293 ?_
  refine VF.ialdK C 4 293 li_293 (Nat.le_of_ble_eq_true rfl) (Nat.le_of_ble_eq_true rfl) rfl dX5_suspends_7 ?_
  refine VF.iconst C dX5_suspends_8 kc_2 ?_
  refine VF.icmp_ne C 55 dX5_suspends_9 rfl (fun h1 => ?_) (fun h1 => ?_)
  · exact VF.vret C rfl rfl dX5_suspends_55
  · refine VF.aload_n C 0 dX5_suspends_12 rfl ?_
    refine VF.get C fl_X5_19 0 rfl rfl dX5_suspends_13 ?_
    refine VF.sipush C dX5_suspends_16 ks_296 ?_
    refine VF.aload_n C 0 dX5_suspends_19 rfl ?_
    refine VF.get C fl_X5_19 0 rfl rfl dX5_suspends_20 ?_
    refine VF.sipush C dX5_suspends_23 ks_294 ?_
    refine VF.ialdK C 4 294 li_294 (Nat.le_of_ble_eq_true rfl) (Nat.le_of_ble_eq_true rfl) rfl dX5_suspends_26 ?_
    refine VF.iconst C dX5_suspends_27 kc_1 ?_
    refine VF.iadd C dX5_suspends_28 ?_
    refine VF.iastK C 4 296 li_296 (Nat.le_of_ble_eq_true rfl) (Nat.le_of_ble_eq_true rfl) rfl (ws' := [eM a0 a1 a2 a3 a4 a5 f0, eA cI 200 a1 f1, eA cI 5 a2 f2, eA cI 5 a3 f3, eA cI 306 a4 (upd f4 296 ((f4 294) + 1)), eA cI 612 a5 f5]) rfl dX5_suspends_29 ?_
    refine VF.aload_n C 0 dX5_suspends_30 rfl ?_
    refine VF.get C fl_X5_19 0 rfl rfl dX5_suspends_31 ?_
    refine VF.sipush C dX5_suspends_34 ks_297 ?_
    refine VF.aload_n C 0 dX5_suspends_37 rfl ?_
    refine VF.get C fl_X5_19 0 rfl rfl dX5_suspends_38 ?_
    refine VF.sipush C dX5_suspends_41 ks_295 ?_
    refine VF.ialdK C 4 295 li_295 (Nat.le_of_ble_eq_true rfl) (Nat.le_of_ble_eq_true rfl) rfl dX5_suspends_44 ?_
    refine VF.iastK C 4 297 li_297 (Nat.le_of_ble_eq_true rfl) (Nat.le_of_ble_eq_true rfl) rfl (ws' := [eM a0 a1 a2 a3 a4 a5 f0, eA cI 200 a1 f1, eA cI 5 a2 f2, eA cI 5 a3 f3, eA cI 306 a4 (upd (upd f4 296 ((f4 294) + 1)) 297 ((upd f4 296 ((f4 294) + 1)) 295)), eA cI 612 a5 f5]) rfl dX5_suspends_45 ?_
    refine VF.aload_n C 0 dX5_suspends_46 rfl ?_
    refine VF.get C fl_X5_19 0 rfl rfl dX5_suspends_47 ?_
    refine VF.sipush C dX5_suspends_50 ks_293 ?_
    refine VF.iconst C dX5_suspends_53 kc_0 ?_
    refine VF.iastK C 4 293 li_293 (Nat.le_of_ble_eq_true rfl) (Nat.le_of_ble_eq_true rfl) rfl (ws' := [eM a0 a1 a2 a3 a4 a5 f0, eA cI 200 a1 f1, eA cI 5 a2 f2, eA cI 5 a3 f3, eA cI 306 a4 (upd (upd (upd f4 296 ((f4 294) + 1)) 297 ((upd f4 296 ((f4 294) + 1)) 295)) 293 0), eA cI 612 a5 f5]) rfl dX5_suspends_54 ?_
    exact VF.vret C rfl rfl dX5_suspends_55
set_option maxHeartbeats 4000000 in
set_option maxRecDepth 100000 in
theorem mtX5_releases (l : Launch) (D : va_G) (cI cZ : ClassId) (a0 a1 a2 a3 a4 a5 : Nat) (f0 f1 f2 f3 f4 f5 : Fn) : Ctr l yX5_releases cX5_releases 4 (some .int) 5 111 D cI cZ [.ref a0] [eM a0 a1 a2 a3 a4 a5 f0, eA cI 200 a1 f1, eA cI 5 a2 f2, eA cI 5 a3 f3, eA cI 306 a4 f4, eA cI 612 a5 f5] (zX5_releases f2 f4) (fun y : Int32 × Fn => some (Value.int y.1)) (fun y : Int32 × Fn => [eM a0 a1 a2 a3 a4 a5 f0, eA cI 200 a1 f1, eA cI 5 a2 f2, eA cI 5 a3 f3, eA cI 306 a4 y.2, eA cI 612 a5 f5]) := by
  refine Ctr.of (by decide) (Nat.le_of_ble_eq_true rfl) ?_
  intro p e s m below meth c A C
  have C : CX p s m ([.ref a0] : List Value).toArray meth c cX5_releases 4 RX5 D cI cZ A (some .int) := C
  have k169 : ∀ (t0 : Int32) (t1 : Int32) (f4 : Fn), VF p l e { frames := 5, cells := 0, slots := 0, locals := 111 } s m ([.ref a0] : List Value).toArray below meth c 0 0 D A 4 (fun r => MQ below (QcX ((fun y : Int32 × Fn => some (Value.int y.1)) r) D ((fun y : Int32 × Fn => [eM a0 a1 a2 a3 a4 a5 f0, eA cI 200 a1 f1, eA cI 5 a2 f2, eA cI 5 a3 f3, eA cI 306 a4 y.2, eA cI 612 a5 f5]) r) A) ([.ref a0] : List Value).toArray s 0 0 A) (zX5_releases_k169 f2 f4 t0 t1) [eM a0 a1 a2 a3 a4 a5 f0, eA cI 200 a1 f1, eA cI 5 a2 f2, eA cI 5 a3 f3, eA cI 306 a4 f4, eA cI 612 a5 f5] 169 [(0, .ref a0)] [.int t0, .int t1, .ref a4] := by
    intro t0 t1 f4
    refine VF.eq (zX5_releases_k169.eq_1 f2 f4 t0 t1) ?_
    refine VF.iast C 4 rfl (ws' := [eM a0 a1 a2 a3 a4 a5 f0, eA cI 200 a1 f1, eA cI 5 a2 f2, eA cI 5 a3 f3, eA cI 306 a4 (upd f4 (ix t1) t0), eA cI 612 a5 f5]) rfl dX5_releases_169 ?_
    refine VF.aload_n C 0 dX5_releases_170 rfl ?_
    refine VF.get C fl_X5_19 0 rfl rfl dX5_releases_171 ?_
    refine VF.sipush C dX5_releases_174 ks_298 ?_
    refine VF.iconst C dX5_releases_177 kc_0 ?_
    refine VF.iastK C 4 298 li_298 (Nat.le_of_ble_eq_true rfl) (Nat.le_of_ble_eq_true rfl) rfl (ws' := [eM a0 a1 a2 a3 a4 a5 f0, eA cI 200 a1 f1, eA cI 5 a2 f2, eA cI 5 a3 f3, eA cI 306 a4 (upd (upd f4 (ix t1) t0) 298 0), eA cI 612 a5 f5]) rfl dX5_releases_178 ?_
    refine VF.aload_n C 0 dX5_releases_179 rfl ?_
    refine VF.get C fl_X5_19 0 rfl rfl dX5_releases_180 ?_
    refine VF.sipush C dX5_releases_183 ks_299 ?_
    refine VF.iconst C dX5_releases_186 kc_0 ?_
    refine VF.iastK C 4 299 li_299 (Nat.le_of_ble_eq_true rfl) (Nat.le_of_ble_eq_true rfl) rfl (ws' := [eM a0 a1 a2 a3 a4 a5 f0, eA cI 200 a1 f1, eA cI 5 a2 f2, eA cI 5 a3 f3, eA cI 306 a4 (upd (upd (upd f4 (ix t1) t0) 298 0) 299 0), eA cI 612 a5 f5]) rfl dX5_releases_187 ?_
    refine VF.aload_n C 0 dX5_releases_188 rfl ?_
    refine VF.callVi C (b := a0) (As := []) (rest := []) lk_X5_92 (mtX5_status l D cI cZ a0 a1 a2 a3 a4 a5 f0 f1 f2 f3 (upd (upd (upd f4 (ix t1) t0) 298 0) 299 0) f5) (fun y => y) (fun _ => rfl) [some 0, some 1, some 2, some 3, some 4, some 5] ⟨rfl, rfl⟩ (ws' := fun y => [eM a0 a1 a2 a3 a4 a5 f0, eA cI 200 a1 f1, eA cI 5 a2 f2, eA cI 5 a3 f3, eA cI 306 a4 (upd (upd (upd f4 (ix t1) t0) 298 0) 299 0), eA cI 612 a5 f5]) (fun _ => ⟨⟨rfl, rfl, rfl⟩, ⟨rfl, rfl, rfl⟩, ⟨rfl, rfl, rfl⟩, ⟨rfl, rfl, rfl⟩, ⟨rfl, rfl, rfl⟩, ⟨rfl, rfl, rfl⟩, trivial⟩) (ci := 5) rfl rfl rfl rfl (Nat.le_of_ble_eq_true rfl) ⟨Nat.le_of_ble_eq_true rfl, Nat.le_of_ble_eq_true rfl⟩ dX5_releases_189 ⟨Nat.le_refl 0, Nat.le_refl 0⟩ (fun y4 => ?_)
    exact VF.iret C rfl rfl dX5_releases_192
  have k142 : ∀ (x1 : Int32) (x2 : Int32) (x3 : Int32) (f4 : Fn), VF p l e { frames := 5, cells := 0, slots := 0, locals := 111 } s m ([.ref a0] : List Value).toArray below meth c 0 0 D A 4 (fun r => MQ below (QcX ((fun y : Int32 × Fn => some (Value.int y.1)) r) D ((fun y : Int32 × Fn => [eM a0 a1 a2 a3 a4 a5 f0, eA cI 200 a1 f1, eA cI 5 a2 f2, eA cI 5 a3 f3, eA cI 306 a4 y.2, eA cI 612 a5 f5]) r) A) ([.ref a0] : List Value).toArray s 0 0 A) (zX5_releases_k142 f2 f4 x1 x2 x3) [eM a0 a1 a2 a3 a4 a5 f0, eA cI 200 a1 f1, eA cI 5 a2 f2, eA cI 5 a3 f3, eA cI 306 a4 f4, eA cI 612 a5 f5] 142 [(0, .ref a0), (1, .int x1), (2, .int x2), (3, .int x3)] [] := by
    intro x1 x2 x3 f4
    refine VF.eq (zX5_releases_k142.eq_1 f2 f4 x1 x2 x3) ?_
    refine VF.aload_n C 0 dX5_releases_142 rfl ?_
    refine VF.get C fl_X5_19 0 rfl rfl dX5_releases_143 ?_
    refine VF.sipush C dX5_releases_146 ks_303 ?_
    refine VF.iload_n C 3 dX5_releases_149 rfl ?_
    refine VF.if_eq C 168 dX5_releases_150 rfl (fun h9 => ?_) (fun h9 => ?_)
    · refine VF.iconst C dX5_releases_168 kc_0 ?_
      exact VF.lvs [0] rfl (k169 0 303 f4)
    · refine VF.iload_n C 1 dX5_releases_153 rfl ?_
      refine VF.iconst C dX5_releases_154 kc_1 ?_
      refine VF.icmp_ne C 168 dX5_releases_155 rfl (fun h10 => ?_) (fun h10 => ?_)
      · refine VF.iconst C dX5_releases_168 kc_0 ?_
        exact VF.lvs [0] rfl (k169 0 303 f4)
      · refine VF.iload_n C 2 dX5_releases_158 rfl ?_
        refine VF.bipush C dX5_releases_159 kb_102 ?_
        refine VF.icmp_ne C 168 dX5_releases_161 rfl (fun h11 => ?_) (fun h11 => ?_)
        · refine VF.iconst C dX5_releases_168 kc_0 ?_
          exact VF.lvs [0] rfl (k169 0 303 f4)
        · refine VF.iconst C dX5_releases_164 kc_1 ?_
          refine VF.goto C 169 dX5_releases_165 rfl ?_
          exact VF.lvs [0] rfl (k169 1 303 f4)
  have k123 : ∀ (x1 : Int32) (x2 : Int32) (x3 : Int32) (f4 : Fn), VF p l e { frames := 5, cells := 0, slots := 0, locals := 111 } s m ([.ref a0] : List Value).toArray below meth c 0 0 D A 4 (fun r => MQ below (QcX ((fun y : Int32 × Fn => some (Value.int y.1)) r) D ((fun y : Int32 × Fn => [eM a0 a1 a2 a3 a4 a5 f0, eA cI 200 a1 f1, eA cI 5 a2 f2, eA cI 5 a3 f3, eA cI 306 a4 y.2, eA cI 612 a5 f5]) r) A) ([.ref a0] : List Value).toArray s 0 0 A) (zX5_releases_k123 f2 f4 x1 x2 x3) [eM a0 a1 a2 a3 a4 a5 f0, eA cI 200 a1 f1, eA cI 5 a2 f2, eA cI 5 a3 f3, eA cI 306 a4 f4, eA cI 612 a5 f5] 123 [(0, .ref a0), (1, .int x1), (2, .int x2), (3, .int x3)] [] := by
    intro x1 x2 x3 f4
    refine VF.eq (zX5_releases_k123.eq_1 f2 f4 x1 x2 x3) ?_
    refine VF.iload_n C 3 dX5_releases_123 rfl ?_
    refine VF.if_eq C 142 dX5_releases_124 rfl (fun h16 => ?_) (fun h16 => ?_)
    · exact k142 x1 x2 x3 f4
    · refine VF.iload_n C 1 dX5_releases_127 rfl ?_
      refine VF.iconst C dX5_releases_128 kc_2 ?_
      refine VF.icmp_le C 142 dX5_releases_129 rfl (fun h17 => ?_) (fun h17 => ?_)
      · exact k142 x1 x2 x3 f4
      · refine VF.iload_n C 2 dX5_releases_132 rfl ?_
        refine VF.iconst C dX5_releases_133 kc_2 ?_
        refine VF.icmp_ne C 142 dX5_releases_134 rfl (fun h18 => ?_) (fun h18 => ?_)
        · exact k142 x1 x2 x3 f4
        · refine VF.aload_n C 0 dX5_releases_137 rfl ?_
          refine VF.iload_n C 2 dX5_releases_138 rfl ?_
          refine VF.callVv C (b := a0) (As := [.int x2]) (rest := []) lk_X5_123 (mtX5_wants l D cI cZ a0 a1 a2 a3 a4 a5 f0 f1 f2 f3 f4 f5 x2) (fun _ => rfl) [some 0, some 1, some 2, some 3, some 4, some 5] ⟨rfl, rfl⟩ (ws' := fun y => [eM a0 a1 a2 a3 a4 a5 f0, eA cI 200 a1 f1, eA cI 5 a2 f2, eA cI 5 a3 f3, eA cI 306 a4 y, eA cI 612 a5 f5]) (fun _ => ⟨⟨rfl, rfl, rfl⟩, ⟨rfl, rfl, rfl⟩, ⟨rfl, rfl, rfl⟩, ⟨rfl, rfl, rfl⟩, ⟨rfl, rfl, rfl⟩, ⟨rfl, rfl, rfl⟩, trivial⟩) (ci := 5) rfl rfl rfl rfl (Nat.le_of_ble_eq_true rfl) ⟨Nat.le_of_ble_eq_true rfl, Nat.le_of_ble_eq_true rfl⟩ dX5_releases_139 ⟨Nat.le_refl 0, Nat.le_refl 0⟩ (fun y6 => ?_)
          exact k142 x1 x2 x3 y6
  have k106 : ∀ (x1 : Int32) (x2 : Int32) (x3 : Int32) (f4 : Fn), VF p l e { frames := 5, cells := 0, slots := 0, locals := 111 } s m ([.ref a0] : List Value).toArray below meth c 0 0 D A 4 (fun r => MQ below (QcX ((fun y : Int32 × Fn => some (Value.int y.1)) r) D ((fun y : Int32 × Fn => [eM a0 a1 a2 a3 a4 a5 f0, eA cI 200 a1 f1, eA cI 5 a2 f2, eA cI 5 a3 f3, eA cI 306 a4 y.2, eA cI 612 a5 f5]) r) A) ([.ref a0] : List Value).toArray s 0 0 A) (zX5_releases_k106 f2 f4 x1 x2 x3) [eM a0 a1 a2 a3 a4 a5 f0, eA cI 200 a1 f1, eA cI 5 a2 f2, eA cI 5 a3 f3, eA cI 306 a4 f4, eA cI 612 a5 f5] 106 [(0, .ref a0), (1, .int x1), (2, .int x2), (3, .int x3)] [] := by
    intro x1 x2 x3 f4
    refine VF.eq (zX5_releases_k106.eq_1 f2 f4 x1 x2 x3) ?_
    refine VF.iload_n C 3 dX5_releases_106 rfl ?_
    refine VF.if_eq C 123 dX5_releases_107 rfl (fun h14 => ?_) (fun h14 => ?_)
    · exact k123 x1 x2 x3 f4
    · refine VF.iload_n C 1 dX5_releases_110 rfl ?_
      refine VF.iconst C dX5_releases_111 kc_2 ?_
      refine VF.icmp_ne C 123 dX5_releases_112 rfl (fun h15 => ?_) (fun h15 => ?_)
      · exact k123 x1 x2 x3 f4
      · refine VF.aload_n C 0 dX5_releases_115 rfl ?_
        refine VF.iload_n C 2 dX5_releases_116 rfl ?_
        refine VF.callVv C (b := a0) (As := [.int x2]) (rest := []) lk_X5_133 (mtX5_tells l D cI cZ a0 a1 a2 a3 a4 a5 f0 f1 f2 f3 f4 f5 x2) (fun _ => rfl) [some 0, some 1, some 2, some 3, some 4, some 5] ⟨rfl, rfl⟩ (ws' := fun y => [eM a0 a1 a2 a3 a4 a5 f0, eA cI 200 a1 f1, eA cI 5 a2 f2, eA cI 5 a3 f3, eA cI 306 a4 y, eA cI 612 a5 f5]) (fun _ => ⟨⟨rfl, rfl, rfl⟩, ⟨rfl, rfl, rfl⟩, ⟨rfl, rfl, rfl⟩, ⟨rfl, rfl, rfl⟩, ⟨rfl, rfl, rfl⟩, ⟨rfl, rfl, rfl⟩, trivial⟩) (ci := 5) rfl rfl rfl rfl (Nat.le_of_ble_eq_true rfl) ⟨Nat.le_of_ble_eq_true rfl, Nat.le_of_ble_eq_true rfl⟩ dX5_releases_117 ⟨Nat.le_refl 0, Nat.le_refl 0⟩ (fun y5 => ?_)
        refine VF.goto C 142 dX5_releases_120 rfl ?_
        exact k142 x1 x2 x3 y5
  have k89 : ∀ (x1 : Int32) (x2 : Int32) (x3 : Int32) (f4 : Fn), VF p l e { frames := 5, cells := 0, slots := 0, locals := 111 } s m ([.ref a0] : List Value).toArray below meth c 0 0 D A 4 (fun r => MQ below (QcX ((fun y : Int32 × Fn => some (Value.int y.1)) r) D ((fun y : Int32 × Fn => [eM a0 a1 a2 a3 a4 a5 f0, eA cI 200 a1 f1, eA cI 5 a2 f2, eA cI 5 a3 f3, eA cI 306 a4 y.2, eA cI 612 a5 f5]) r) A) ([.ref a0] : List Value).toArray s 0 0 A) (zX5_releases_k89 f2 f4 x1 x2 x3) [eM a0 a1 a2 a3 a4 a5 f0, eA cI 200 a1 f1, eA cI 5 a2 f2, eA cI 5 a3 f3, eA cI 306 a4 f4, eA cI 612 a5 f5] 89 [(0, .ref a0), (1, .int x1), (2, .int x2), (3, .int x3)] [] := by
    intro x1 x2 x3 f4
    refine VF.eq (zX5_releases_k89.eq_1 f2 f4 x1 x2 x3) ?_
    refine VF.iload_n C 3 dX5_releases_89 rfl ?_
    refine VF.if_eq C 106 dX5_releases_90 rfl (fun h12 => ?_) (fun h12 => ?_)
    · exact k106 x1 x2 x3 f4
    · refine VF.iload_n C 1 dX5_releases_93 rfl ?_
      refine VF.iconst C dX5_releases_94 kc_1 ?_
      refine VF.icmp_ne C 106 dX5_releases_95 rfl (fun h13 => ?_) (fun h13 => ?_)
      · exact k106 x1 x2 x3 f4
      · refine VF.aload_n C 0 dX5_releases_98 rfl ?_
        refine VF.iload_n C 2 dX5_releases_99 rfl ?_
        refine VF.callVv C (b := a0) (As := [.int x2]) (rest := []) lk_X5_130 (mtX5_does l D cI cZ a0 a1 a2 a3 a4 a5 f0 f1 f2 f3 f4 f5 x2) (fun _ => rfl) [some 0, some 1, some 2, some 3, some 4, some 5] ⟨rfl, rfl⟩ (ws' := fun y => [eM a0 a1 a2 a3 a4 a5 f0, eA cI 200 a1 f1, eA cI 5 a2 f2, eA cI 5 a3 f3, eA cI 306 a4 y, eA cI 612 a5 f5]) (fun _ => ⟨⟨rfl, rfl, rfl⟩, ⟨rfl, rfl, rfl⟩, ⟨rfl, rfl, rfl⟩, ⟨rfl, rfl, rfl⟩, ⟨rfl, rfl, rfl⟩, ⟨rfl, rfl, rfl⟩, trivial⟩) (ci := 5) rfl rfl rfl rfl (Nat.le_of_ble_eq_true rfl) ⟨Nat.le_of_ble_eq_true rfl, Nat.le_of_ble_eq_true rfl⟩ dX5_releases_100 ⟨Nat.le_refl 0, Nat.le_refl 0⟩ (fun y3 => ?_)
        refine VF.goto C 142 dX5_releases_103 rfl ?_
        exact k142 x1 x2 x3 y3
  have k65 : ∀ (x1 : Int32) (x2 : Int32) (x3 : Int32) (f4 : Fn), VF p l e { frames := 5, cells := 0, slots := 0, locals := 111 } s m ([.ref a0] : List Value).toArray below meth c 0 0 D A 4 (fun r => MQ below (QcX ((fun y : Int32 × Fn => some (Value.int y.1)) r) D ((fun y : Int32 × Fn => [eM a0 a1 a2 a3 a4 a5 f0, eA cI 200 a1 f1, eA cI 5 a2 f2, eA cI 5 a3 f3, eA cI 306 a4 y.2, eA cI 612 a5 f5]) r) A) ([.ref a0] : List Value).toArray s 0 0 A) (zX5_releases_k65 f2 f4 x1 x2 x3) [eM a0 a1 a2 a3 a4 a5 f0, eA cI 200 a1 f1, eA cI 5 a2 f2, eA cI 5 a3 f3, eA cI 306 a4 f4, eA cI 612 a5 f5] 65 [(0, .ref a0), (1, .int x1), (2, .int x2), (3, .int x3)] [] := by
    intro x1 x2 x3 f4
    refine VF.eq (zX5_releases_k65.eq_1 f2 f4 x1 x2 x3) ?_
    refine VF.iload_n C 3 dX5_releases_65 rfl ?_
    refine VF.if_eq C 89 dX5_releases_66 rfl (fun h6 => ?_) (fun h6 => ?_)
    · exact k89 x1 x2 x3 f4
    · refine VF.iload_n C 1 dX5_releases_69 rfl ?_
      refine VF.iconst C dX5_releases_70 kc_1 ?_
      refine VF.icmp_ne C 89 dX5_releases_71 rfl (fun h7 => ?_) (fun h7 => ?_)
      · exact k89 x1 x2 x3 f4
      · refine VF.iload_n C 2 dX5_releases_74 rfl ?_
        refine VF.sipush C dX5_releases_75 ks_199 ?_
        refine VF.icmp_ne C 89 dX5_releases_78 rfl (fun h8 => ?_) (fun h8 => ?_)
        · exact k89 x1 x2 x3 f4
        · refine VF.aload_n C 0 dX5_releases_81 rfl ?_
          refine VF.iload_n C 2 dX5_releases_82 rfl ?_
          refine VF.callVv C (b := a0) (As := [.int x2]) (rest := []) lk_X5_123 (mtX5_wants l D cI cZ a0 a1 a2 a3 a4 a5 f0 f1 f2 f3 f4 f5 x2) (fun _ => rfl) [some 0, some 1, some 2, some 3, some 4, some 5] ⟨rfl, rfl⟩ (ws' := fun y => [eM a0 a1 a2 a3 a4 a5 f0, eA cI 200 a1 f1, eA cI 5 a2 f2, eA cI 5 a3 f3, eA cI 306 a4 y, eA cI 612 a5 f5]) (fun _ => ⟨⟨rfl, rfl, rfl⟩, ⟨rfl, rfl, rfl⟩, ⟨rfl, rfl, rfl⟩, ⟨rfl, rfl, rfl⟩, ⟨rfl, rfl, rfl⟩, ⟨rfl, rfl, rfl⟩, trivial⟩) (ci := 5) rfl rfl rfl rfl (Nat.le_of_ble_eq_true rfl) ⟨Nat.le_of_ble_eq_true rfl, Nat.le_of_ble_eq_true rfl⟩ dX5_releases_83 ⟨Nat.le_refl 0, Nat.le_refl 0⟩ (fun y2 => ?_)
          refine VF.goto C 142 dX5_releases_86 rfl ?_
          exact k142 x1 x2 x3 y2
  have k42 : ∀ (x1 : Int32) (x2 : Int32) (t0 : Int32) (f4 : Fn), VF p l e { frames := 5, cells := 0, slots := 0, locals := 111 } s m ([.ref a0] : List Value).toArray below meth c 0 0 D A 4 (fun r => MQ below (QcX ((fun y : Int32 × Fn => some (Value.int y.1)) r) D ((fun y : Int32 × Fn => [eM a0 a1 a2 a3 a4 a5 f0, eA cI 200 a1 f1, eA cI 5 a2 f2, eA cI 5 a3 f3, eA cI 306 a4 y.2, eA cI 612 a5 f5]) r) A) ([.ref a0] : List Value).toArray s 0 0 A) (zX5_releases_k42 f2 f4 x1 x2 t0) [eM a0 a1 a2 a3 a4 a5 f0, eA cI 200 a1 f1, eA cI 5 a2 f2, eA cI 5 a3 f3, eA cI 306 a4 f4, eA cI 612 a5 f5] 42 [(0, .ref a0), (1, .int x1), (2, .int x2)] [.int t0] := by
    intro x1 x2 t0 f4
    refine VF.eq (zX5_releases_k42.eq_1 f2 f4 x1 x2 t0) ?_
    refine VF.istore_n C [1, 2, 3, 0] dX5_releases_42 rfl (Nat.le_of_ble_eq_true rfl) (lv' := [(0, .ref a0), (1, .int x1), (2, .int x2), (3, .int t0)]) rfl ?_
    refine VF.iload_n C 3 dX5_releases_43 rfl ?_
    refine VF.if_ne C 65 dX5_releases_44 rfl (fun h3 => ?_) (fun h3 => ?_)
    · exact k65 x1 x2 t0 f4
    · refine VF.iload_n C 2 dX5_releases_47 rfl ?_
      refine VF.bipush C dX5_releases_48 kb_117 ?_
      refine VF.icmp_ne C 65 dX5_releases_50 rfl (fun h4 => ?_) (fun h4 => ?_)
      · exact k65 x1 x2 t0 f4
      · refine VF.iload_n C 1 dX5_releases_53 rfl ?_
        refine VF.iconst C dX5_releases_54 kc_1 ?_
        refine VF.icmp_ne C 65 dX5_releases_55 rfl (fun h5 => ?_) (fun h5 => ?_)
        · exact k65 x1 x2 t0 f4
        · refine VF.aload_n C 0 dX5_releases_58 rfl ?_
          refine VF.callVv C (b := a0) (As := []) (rest := []) lk_X5_127 (mtX5_suspends l D cI cZ a0 a1 a2 a3 a4 a5 f0 f1 f2 f3 f4 f5) (fun _ => rfl) [some 0, some 1, some 2, some 3, some 4, some 5] ⟨rfl, rfl⟩ (ws' := fun y => [eM a0 a1 a2 a3 a4 a5 f0, eA cI 200 a1 f1, eA cI 5 a2 f2, eA cI 5 a3 f3, eA cI 306 a4 y, eA cI 612 a5 f5]) (fun _ => ⟨⟨rfl, rfl, rfl⟩, ⟨rfl, rfl, rfl⟩, ⟨rfl, rfl, rfl⟩, ⟨rfl, rfl, rfl⟩, ⟨rfl, rfl, rfl⟩, ⟨rfl, rfl, rfl⟩, trivial⟩) (ci := 5) rfl rfl rfl rfl (Nat.le_of_ble_eq_true rfl) ⟨Nat.le_of_ble_eq_true rfl, Nat.le_of_ble_eq_true rfl⟩ dX5_releases_59 ⟨Nat.le_refl 0, Nat.le_refl 0⟩ (fun y1 => ?_)
          refine VF.goto C 142 dX5_releases_62 rfl ?_
          exact k142 x1 x2 t0 y1
  have k25 : ∀ (x1 : Int32) (t0 : Int32) (f4 : Fn), VF p l e { frames := 5, cells := 0, slots := 0, locals := 111 } s m ([.ref a0] : List Value).toArray below meth c 0 0 D A 4 (fun r => MQ below (QcX ((fun y : Int32 × Fn => some (Value.int y.1)) r) D ((fun y : Int32 × Fn => [eM a0 a1 a2 a3 a4 a5 f0, eA cI 200 a1 f1, eA cI 5 a2 f2, eA cI 5 a3 f3, eA cI 306 a4 y.2, eA cI 612 a5 f5]) r) A) ([.ref a0] : List Value).toArray s 0 0 A) (zX5_releases_k25 f2 f4 x1 t0) [eM a0 a1 a2 a3 a4 a5 f0, eA cI 200 a1 f1, eA cI 5 a2 f2, eA cI 5 a3 f3, eA cI 306 a4 f4, eA cI 612 a5 f5] 25 [(0, .ref a0), (1, .int x1)] [.int t0] := by
    intro x1 t0 f4
    refine VF.eq (zX5_releases_k25.eq_1 f2 f4 x1 t0) ?_
    refine VF.istore_n C [1, 2, 0] dX5_releases_25 rfl (Nat.le_of_ble_eq_true rfl) (lv' := [(0, .ref a0), (1, .int x1), (2, .int t0)]) rfl ?_
    refine VF.aload_n C 0 dX5_releases_26 rfl ?_
    refine VF.get C fl_X5_19 0 rfl rfl dX5_releases_27 ?_
    refine VF.sipush C dX5_releases_30 ks_293 ?_
    refine VF.ialdK C 4 293 li_293 (Nat.le_of_ble_eq_true rfl) (Nat.le_of_ble_eq_true rfl) rfl dX5_releases_33 ?_
    refine VF.if_ne C 41 dX5_releases_34 rfl (fun h2 => ?_) (fun h2 => ?_)
    · refine VF.iconst C dX5_releases_41 kc_0 ?_
      exact k42 x1 t0 0 f4
    · refine VF.iconst C dX5_releases_37 kc_1 ?_
      refine VF.goto C 42 dX5_releases_38 rfl ?_
      exact k42 x1 t0 1 f4
  refine VF.lve (lv' := [(0, .ref a0)]) rfl ?_
  refine VF.eq (zX5_releases.eq_1 f2 f4) ?_
  refine VF.aload_n C 0 dX5_releases_0 rfl ?_
  refine VF.get C fl_X5_19 0 rfl rfl dX5_releases_1 ?_
  refine VF.sipush C dX5_releases_4 ks_299 ?_
  refine VF.ialdK C 4 299 li_299 (Nat.le_of_ble_eq_true rfl) (Nat.le_of_ble_eq_true rfl) rfl dX5_releases_7 ?_
  refine VF.istore_n C [1, 0] dX5_releases_8 rfl (Nat.le_of_ble_eq_true rfl) (lv' := [(0, .ref a0), (1, .int (f4 299))]) rfl ?_
  refine VF.iload_n C 1 dX5_releases_9 rfl ?_
  refine VF.if_le C 24 dX5_releases_10 rfl (fun h1 => ?_) (fun h1 => ?_)
  · refine VF.iconst C dX5_releases_24 kc_m1 ?_
    exact k25 (f4 299) (-1) f4
  · refine VF.aload_n C 0 dX5_releases_13 rfl ?_
    refine VF.get C fl_X5_19 0 rfl rfl dX5_releases_14 ?_
    refine VF.sipush C dX5_releases_17 ks_300 ?_
    refine VF.ialdK C 4 300 li_300 (Nat.le_of_ble_eq_true rfl) (Nat.le_of_ble_eq_true rfl) rfl dX5_releases_20 ?_
    refine VF.goto C 25 dX5_releases_21 rfl ?_
    exact k25 (f4 299) (f4 300) f4
set_option maxHeartbeats 4000000 in
set_option maxRecDepth 100000 in
theorem mtX5_release (l : Launch) (D : va_G) (cI cZ : ClassId) (a0 a1 a2 a3 a4 a5 : Nat) (f0 f1 f2 f3 f4 f5 : Fn) : Ctr l yX5_release cX5_release 1 (some .int) 6 134 D cI cZ [.ref a0] [eM a0 a1 a2 a3 a4 a5 f0, eA cI 200 a1 f1, eA cI 5 a2 f2, eA cI 5 a3 f3, eA cI 306 a4 f4, eA cI 612 a5 f5] (zX5_release f2 f4) (fun y : Int32 × Fn => some (Value.int y.1)) (fun y : Int32 × Fn => [eM a0 a1 a2 a3 a4 a5 f0, eA cI 200 a1 f1, eA cI 5 a2 f2, eA cI 5 a3 f3, eA cI 306 a4 y.2, eA cI 612 a5 f5]) := by
  refine Ctr.of (by decide) (Nat.le_of_ble_eq_true rfl) ?_
  intro p e s m below meth c A C
  have C : CX p s m ([.ref a0] : List Value).toArray meth c cX5_release 1 RX5 D cI cZ A (some .int) := C
  refine VF.lve (lv' := [(0, .ref a0)]) rfl ?_
  refine VF.eq (zX5_release.eq_1 f2 f4) ?_
  refine VF.aload_n C 0 dX5_release_0 rfl ?_
  refine VF.get C fl_X5_19 0 rfl rfl dX5_release_1 ?_
  refine VF.sipush C dX5_release_4 ks_298 ?_
  refine VF.ialdK C 4 298 li_298 (Nat.le_of_ble_eq_true rfl) (Nat.le_of_ble_eq_true rfl) rfl dX5_release_7 ?_
  refine VF.if_ne C 16 dX5_release_8 rfl (fun h1 => ?_) (fun h1 => ?_)
  · refine VF.aload_n C 0 dX5_release_16 rfl ?_
    refine VF.callVi C (b := a0) (As := []) (rest := []) lk_X5_136 (mtX5_releases l D cI cZ a0 a1 a2 a3 a4 a5 f0 f1 f2 f3 f4 f5) (fun y => y.1) (fun _ => rfl) [some 0, some 1, some 2, some 3, some 4, some 5] ⟨rfl, rfl⟩ (ws' := fun y => [eM a0 a1 a2 a3 a4 a5 f0, eA cI 200 a1 f1, eA cI 5 a2 f2, eA cI 5 a3 f3, eA cI 306 a4 y.2, eA cI 612 a5 f5]) (fun _ => ⟨⟨rfl, rfl, rfl⟩, ⟨rfl, rfl, rfl⟩, ⟨rfl, rfl, rfl⟩, ⟨rfl, rfl, rfl⟩, ⟨rfl, rfl, rfl⟩, ⟨rfl, rfl, rfl⟩, trivial⟩) (ci := 5) rfl rfl rfl rfl (Nat.le_of_ble_eq_true rfl) ⟨Nat.le_of_ble_eq_true rfl, Nat.le_of_ble_eq_true rfl⟩ dX5_release_17 ⟨Nat.le_refl 0, Nat.le_refl 0⟩ (fun y1 => ?_)
    exact VF.iret C rfl rfl dX5_release_20
  · refine VF.bipush C dX5_release_11 kb_m2 ?_
    refine VF.goto C 20 dX5_release_13 rfl ?_
    exact VF.iret C rfl rfl dX5_release_20
set_option maxHeartbeats 4000000 in
set_option maxRecDepth 100000 in
theorem mtX5_goesOn (l : Launch) (D : va_G) (cI cZ : ClassId) (a0 a1 a2 a3 a4 a5 : Nat) (f0 f1 f2 f3 f4 f5 : Fn) (u1 : Int32) (u2 : Int32) (u3 : Int32) : Ctr l yX5_goesOn cX5_goesOn 6 (some .int) 6 134 D cI cZ [.ref a0, .int u1, .int u2, .int u3] [eM a0 a1 a2 a3 a4 a5 f0, eA cI 200 a1 f1, eA cI 5 a2 f2, eA cI 5 a3 f3, eA cI 306 a4 f4, eA cI 612 a5 f5] (zX5_goesOn f2 f4 u1 u2 u3) (fun y : Int32 × Fn => some (Value.int y.1)) (fun y : Int32 × Fn => [eM a0 a1 a2 a3 a4 a5 f0, eA cI 200 a1 f1, eA cI 5 a2 f2, eA cI 5 a3 f3, eA cI 306 a4 y.2, eA cI 612 a5 f5]) := by
  refine Ctr.of (by decide) (Nat.le_of_ble_eq_true rfl) ?_
  intro p e s m below meth c A C
  have C : CX p s m ([.ref a0, .int u1, .int u2, .int u3] : List Value).toArray meth c cX5_goesOn 6 RX5 D cI cZ A (some .int) := C
  have k6 : ∀ (n : Nat) (x1 : Int32) (x2 : Int32) (x4 : Int32) (x5 : Int32) (f4 : Fn), VF p l e { frames := 6, cells := 0, slots := 0, locals := 134 } s m ([.ref a0, .int u1, .int u2, .int u3] : List Value).toArray below meth c 0 0 D A 6 (fun r => MQ below (QcX ((fun y : Int32 × Fn => some (Value.int y.1)) r) D ((fun y : Int32 × Fn => [eM a0 a1 a2 a3 a4 a5 f0, eA cI 200 a1 f1, eA cI 5 a2 f2, eA cI 5 a3 f3, eA cI 306 a4 y.2, eA cI 612 a5 f5]) r) A) ([.ref a0, .int u1, .int u2, .int u3] : List Value).toArray s 0 0 A) (zX5_goesOn_k6 n f2 f4 x1 x2 x4 x5) [eM a0 a1 a2 a3 a4 a5 f0, eA cI 200 a1 f1, eA cI 5 a2 f2, eA cI 5 a3 f3, eA cI 306 a4 f4, eA cI 612 a5 f5] 6 [(0, .ref a0), (1, .int x1), (2, .int x2), (4, .int x4), (5, .int x5)] [] := by
    intro n
    induction n with
    | zero =>
      intro x1 x2 x4 x5 f4
      exact VF.eq (zX5_goesOn_k6.eq_1 _ _ _ _ _ _) VF.nn
    | succ n ih =>
      intro x1 x2 x4 x5 f4
      refine VF.eq (zX5_goesOn_k6.eq_2 _ _ _ _ _ _ _) ?_
      refine VF.iload C 4 dX5_goesOn_6 rfl ?_
      refine VF.iload_n C 2 dX5_goesOn_8 rfl ?_
      refine VF.icmp_ge C 32 dX5_goesOn_9 rfl (fun h1 => ?_) (fun h1 => ?_)
      · refine VF.aload_n C 0 dX5_goesOn_32 rfl ?_
        refine VF.callVi C (b := a0) (As := []) (rest := []) lk_X5_136 (mtX5_releases l D cI cZ a0 a1 a2 a3 a4 a5 f0 f1 f2 f3 f4 f5) (fun y => y.1) (fun _ => rfl) [some 0, some 1, some 2, some 3, some 4, some 5] ⟨rfl, rfl⟩ (ws' := fun y => [eM a0 a1 a2 a3 a4 a5 f0, eA cI 200 a1 f1, eA cI 5 a2 f2, eA cI 5 a3 f3, eA cI 306 a4 y.2, eA cI 612 a5 f5]) (fun _ => ⟨⟨rfl, rfl, rfl⟩, ⟨rfl, rfl, rfl⟩, ⟨rfl, rfl, rfl⟩, ⟨rfl, rfl, rfl⟩, ⟨rfl, rfl, rfl⟩, ⟨rfl, rfl, rfl⟩, trivial⟩) (ci := 5) rfl rfl rfl rfl (Nat.le_of_ble_eq_true rfl) ⟨Nat.le_of_ble_eq_true rfl, Nat.le_of_ble_eq_true rfl⟩ dX5_goesOn_33 ⟨Nat.le_refl 0, Nat.le_refl 0⟩ (fun y1 => ?_)
        refine VF.istore C [1, 2, 3, 4, 0] dX5_goesOn_36 (Nat.le_of_ble_eq_true rfl) (lv' := [(0, .ref a0), (1, .int x1), (2, .int x2), (4, .int x4), (5, .int y1.1)]) rfl ?_
        refine VF.iload C 4 dX5_goesOn_38 rfl ?_
        refine VF.if_ge C 48 dX5_goesOn_40 rfl (fun h2 => ?_) (fun h2 => ?_)
        · refine VF.iload C 3 dX5_goesOn_48 rfl ?_
          exact VF.iret C rfl rfl dX5_goesOn_50
        · refine VF.iload C 4 dX5_goesOn_43 rfl ?_
          refine VF.goto C 50 dX5_goesOn_45 rfl ?_
          exact VF.iret C rfl rfl dX5_goesOn_50
      · refine VF.aload_n C 0 dX5_goesOn_12 rfl ?_
        refine VF.iload_n C 1 dX5_goesOn_13 rfl ?_
        refine VF.iload C 4 dX5_goesOn_14 rfl ?_
        refine VF.iadd C dX5_goesOn_16 ?_
        refine VF.sipush C dX5_goesOn_17 ks_256 ?_
        refine VF.iremK C (by decide) dX5_goesOn_20 ?_
        refine VF.callVi C (b := a0) (As := [.int (irm (x1 + x5) 256)]) (rest := []) lk_X5_104 (mtX5_puts l D cI cZ a0 a1 a2 a3 a4 a5 f0 f1 f2 f3 f4 f5 (irm (x1 + x5) 256)) (fun y => y.1) (fun _ => rfl) [some 0, some 1, some 2, some 3, some 4, some 5] ⟨rfl, rfl⟩ (ws' := fun y => [eM a0 a1 a2 a3 a4 a5 f0, eA cI 200 a1 f1, eA cI 5 a2 f2, eA cI 5 a3 f3, eA cI 306 a4 y.2, eA cI 612 a5 f5]) (fun _ => ⟨⟨rfl, rfl, rfl⟩, ⟨rfl, rfl, rfl⟩, ⟨rfl, rfl, rfl⟩, ⟨rfl, rfl, rfl⟩, ⟨rfl, rfl, rfl⟩, ⟨rfl, rfl, rfl⟩, trivial⟩) (ci := 5) rfl rfl rfl rfl (Nat.le_of_ble_eq_true rfl) ⟨Nat.le_of_ble_eq_true rfl, Nat.le_of_ble_eq_true rfl⟩ dX5_goesOn_21 ⟨Nat.le_refl 0, Nat.le_refl 0⟩ (fun y2 => ?_)
        refine VF.istore C [1, 2, 3, 0, 4] dX5_goesOn_24 (Nat.le_of_ble_eq_true rfl) (lv' := [(0, .ref a0), (1, .int x1), (2, .int x2), (4, .int y2.1), (5, .int x5)]) rfl ?_
        refine VF.iinc C 4 [1, 2, 3, 4, 0] dX5_goesOn_26 rfl (v := (x5 + 1)) rfl (Nat.le_of_ble_eq_true rfl) (lv' := [(0, .ref a0), (1, .int x1), (2, .int x2), (4, .int y2.1), (5, .int (x5 + 1))]) rfl ?_
        refine VF.goto C 6 dX5_goesOn_29 rfl ?_
        exact ih x1 x2 y2.1 (x5 + 1) y2.2
  refine VF.lve (lv' := [(0, .ref a0), (1, .int u1), (2, .int u2), (3, .int u3)]) rfl ?_
  refine VF.eq (zX5_goesOn.eq_1 f2 f4 u1 u2 u3) ?_
  refine VF.iload_n C 3 dX5_goesOn_0 rfl ?_
  refine VF.istore C [1, 2, 3, 4, 0] dX5_goesOn_1 (Nat.le_of_ble_eq_true rfl) (lv' := [(0, .ref a0), (1, .int u1), (2, .int u2), (3, .int u3), (4, .int u3)]) rfl ?_
  refine VF.iconst C dX5_goesOn_3 kc_0 ?_
  refine VF.istore C [1, 2, 3, 4, 5, 0] dX5_goesOn_4 (Nat.le_of_ble_eq_true rfl) (lv' := [(0, .ref a0), (1, .int u1), (2, .int u2), (3, .int u3), (4, .int u3), (5, .int 0)]) rfl ?_
  exact VF.lvs [0, 1, 2, 4, 5] rfl (k6 4096 u1 u2 u3 0 f4)
set_option maxHeartbeats 4000000 in
set_option maxRecDepth 100000 in
theorem mtX5_send (l : Launch) (D : va_G) (cI cZ : ClassId) (a0 a1 a2 a3 a4 a5 : Nat) (f0 f1 f2 f3 f4 f5 : Fn) (u1 : Int32) (u2 : Int32) (u3 : Int32) (u4 : Int32) : Ctr l yX5_send cX5_send 7 (some .int) 7 159 D cI cZ [.ref a0, .int u1, .int u2, .int u3, .int u4] [eM a0 a1 a2 a3 a4 a5 f0, eA cI 200 a1 f1, eA cI 5 a2 f2, eA cI 5 a3 f3, eA cI 306 a4 f4, eA cI 612 a5 f5] (zX5_send f2 f4 u1 u2 u3 u4) (fun y : Int32 × Fn => some (Value.int y.1)) (fun y : Int32 × Fn => [eM a0 a1 a2 a3 a4 a5 f0, eA cI 200 a1 f1, eA cI 5 a2 f2, eA cI 5 a3 f3, eA cI 306 a4 y.2, eA cI 612 a5 f5]) := by
  refine Ctr.of (by decide) (Nat.le_of_ble_eq_true rfl) ?_
  intro p e s m below meth c A C
  have C : CX p s m ([.ref a0, .int u1, .int u2, .int u3, .int u4] : List Value).toArray meth c cX5_send 7 RX5 D cI cZ A (some .int) := C
  refine VF.lve (lv' := [(0, .ref a0), (1, .int u1), (2, .int u2), (3, .int u3), (4, .int u4)]) rfl ?_
  refine VF.eq (zX5_send.eq_1 f2 f4 u1 u2 u3 u4) ?_
  refine VF.iload_n C 1 dX5_send_0 rfl ?_
  refine VF.i2l C dX5_send_1 ?_
  refine VF.lconst (v := 0) C dX5_send_2 (by decide) ?_
  refine VF.ldc2 C (v := 255) wc_X5_102 dX5_send_3 ?_
  refine VF.callSi C (As := [.long (Int32.toInt64 u1), .long (0 : Int64), .long (255 : Int64)]) (rest := []) lk_X5_40 (mtX5_in l D cI cZ (Int32.toInt64 u1) (0 : Int64) (255 : Int64)) (fun y => y) (fun _ => rfl) [none, none, none, none, none, none] ⟨rfl, rfl⟩ (ws' := fun y => [eM a0 a1 a2 a3 a4 a5 f0, eA cI 200 a1 f1, eA cI 5 a2 f2, eA cI 5 a3 f3, eA cI 306 a4 f4, eA cI 612 a5 f5]) (fun _ => ⟨rfl, rfl, rfl, rfl, rfl, rfl, trivial⟩) rfl rfl (Nat.le_of_ble_eq_true rfl) ⟨Nat.le_of_ble_eq_true rfl, Nat.le_of_ble_eq_true rfl⟩ dX5_send_6 ⟨Nat.le_refl 0, Nat.le_refl 0⟩ (fun y1 => ?_)
  refine VF.if_eq C 49 dX5_send_9 rfl (fun h1 => ?_) (fun h1 => ?_)
  · refine VF.iconst C dX5_send_49 kc_m1 ?_
    exact VF.iret C rfl rfl dX5_send_50
  · refine VF.iload_n C 2 dX5_send_12 rfl ?_
    refine VF.i2l C dX5_send_13 ?_
    refine VF.lconst (v := 0) C dX5_send_14 (by decide) ?_
    refine VF.ldc2 C (v := 255) wc_X5_102 dX5_send_15 ?_
    refine VF.callSi C (As := [.long (Int32.toInt64 u2), .long (0 : Int64), .long (255 : Int64)]) (rest := []) lk_X5_40 (mtX5_in l D cI cZ (Int32.toInt64 u2) (0 : Int64) (255 : Int64)) (fun y => y) (fun _ => rfl) [none, none, none, none, none, none] ⟨rfl, rfl⟩ (ws' := fun y => [eM a0 a1 a2 a3 a4 a5 f0, eA cI 200 a1 f1, eA cI 5 a2 f2, eA cI 5 a3 f3, eA cI 306 a4 f4, eA cI 612 a5 f5]) (fun _ => ⟨rfl, rfl, rfl, rfl, rfl, rfl, trivial⟩) rfl rfl (Nat.le_of_ble_eq_true rfl) ⟨Nat.le_of_ble_eq_true rfl, Nat.le_of_ble_eq_true rfl⟩ dX5_send_18 ⟨Nat.le_refl 0, Nat.le_refl 0⟩ (fun y2 => ?_)
    refine VF.if_eq C 49 dX5_send_21 rfl (fun h2 => ?_) (fun h2 => ?_)
    · refine VF.iconst C dX5_send_49 kc_m1 ?_
      exact VF.iret C rfl rfl dX5_send_50
    · refine VF.iload_n C 3 dX5_send_24 rfl ?_
      refine VF.i2l C dX5_send_25 ?_
      refine VF.lconst (v := 0) C dX5_send_26 (by decide) ?_
      refine VF.ldc2 C (v := 255) wc_X5_102 dX5_send_27 ?_
      refine VF.callSi C (As := [.long (Int32.toInt64 u3), .long (0 : Int64), .long (255 : Int64)]) (rest := []) lk_X5_40 (mtX5_in l D cI cZ (Int32.toInt64 u3) (0 : Int64) (255 : Int64)) (fun y => y) (fun _ => rfl) [none, none, none, none, none, none] ⟨rfl, rfl⟩ (ws' := fun y => [eM a0 a1 a2 a3 a4 a5 f0, eA cI 200 a1 f1, eA cI 5 a2 f2, eA cI 5 a3 f3, eA cI 306 a4 f4, eA cI 612 a5 f5]) (fun _ => ⟨rfl, rfl, rfl, rfl, rfl, rfl, trivial⟩) rfl rfl (Nat.le_of_ble_eq_true rfl) ⟨Nat.le_of_ble_eq_true rfl, Nat.le_of_ble_eq_true rfl⟩ dX5_send_30 ⟨Nat.le_refl 0, Nat.le_refl 0⟩ (fun y3 => ?_)
      refine VF.if_eq C 49 dX5_send_33 rfl (fun h3 => ?_) (fun h3 => ?_)
      · refine VF.iconst C dX5_send_49 kc_m1 ?_
        exact VF.iret C rfl rfl dX5_send_50
      · refine VF.iload C 4 dX5_send_36 rfl ?_
        refine VF.i2l C dX5_send_38 ?_
        refine VF.lconst (v := 0) C dX5_send_39 (by decide) ?_
        refine VF.ldc2 C (v := 40) wc_X5_139 dX5_send_40 ?_
        refine VF.callSi C (As := [.long (Int32.toInt64 u4), .long (0 : Int64), .long (40 : Int64)]) (rest := []) lk_X5_40 (mtX5_in l D cI cZ (Int32.toInt64 u4) (0 : Int64) (40 : Int64)) (fun y => y) (fun _ => rfl) [none, none, none, none, none, none] ⟨rfl, rfl⟩ (ws' := fun y => [eM a0 a1 a2 a3 a4 a5 f0, eA cI 200 a1 f1, eA cI 5 a2 f2, eA cI 5 a3 f3, eA cI 306 a4 f4, eA cI 612 a5 f5]) (fun _ => ⟨rfl, rfl, rfl, rfl, rfl, rfl, trivial⟩) rfl rfl (Nat.le_of_ble_eq_true rfl) ⟨Nat.le_of_ble_eq_true rfl, Nat.le_of_ble_eq_true rfl⟩ dX5_send_43 ⟨Nat.le_refl 0, Nat.le_refl 0⟩ (fun y4 => ?_)
        refine VF.if_ne C 51 dX5_send_46 rfl (fun h4 => ?_) (fun h4 => ?_)
        · refine VF.aload_n C 0 dX5_send_51 rfl ?_
          refine VF.callVi C (b := a0) (As := []) (rest := []) lk_X5_141 (mtX5_select l D cI cZ a0 a1 a2 a3 a4 a5 f0 f1 f2 f3 f4 f5) (fun y => y.1) (fun _ => rfl) [some 0, some 1, some 2, some 3, some 4, some 5] ⟨rfl, rfl⟩ (ws' := fun y => [eM a0 a1 a2 a3 a4 a5 f0, eA cI 200 a1 f1, eA cI 5 a2 f2, eA cI 5 a3 f3, eA cI 306 a4 y.2, eA cI 612 a5 f5]) (fun _ => ⟨⟨rfl, rfl, rfl⟩, ⟨rfl, rfl, rfl⟩, ⟨rfl, rfl, rfl⟩, ⟨rfl, rfl, rfl⟩, ⟨rfl, rfl, rfl⟩, ⟨rfl, rfl, rfl⟩, trivial⟩) (ci := 5) rfl rfl rfl rfl (Nat.le_of_ble_eq_true rfl) ⟨Nat.le_of_ble_eq_true rfl, Nat.le_of_ble_eq_true rfl⟩ dX5_send_52 ⟨Nat.le_refl 0, Nat.le_refl 0⟩ (fun y5 => ?_)
          refine VF.bipush C dX5_send_55 kb_m2 ?_
          refine VF.icmp_ne C 63 dX5_send_57 rfl (fun h5 => ?_) (fun h5 => ?_)
          · refine VF.aload_n C 0 dX5_send_63 rfl ?_
            refine VF.iload_n C 1 dX5_send_64 rfl ?_
            refine VF.callVi C (b := a0) (As := [.int u1]) (rest := []) lk_X5_104 (mtX5_puts l D cI cZ a0 a1 a2 a3 a4 a5 f0 f1 f2 f3 y5.2 f5 u1) (fun y => y.1) (fun _ => rfl) [some 0, some 1, some 2, some 3, some 4, some 5] ⟨rfl, rfl⟩ (ws' := fun y => [eM a0 a1 a2 a3 a4 a5 f0, eA cI 200 a1 f1, eA cI 5 a2 f2, eA cI 5 a3 f3, eA cI 306 a4 y.2, eA cI 612 a5 f5]) (fun _ => ⟨⟨rfl, rfl, rfl⟩, ⟨rfl, rfl, rfl⟩, ⟨rfl, rfl, rfl⟩, ⟨rfl, rfl, rfl⟩, ⟨rfl, rfl, rfl⟩, ⟨rfl, rfl, rfl⟩, trivial⟩) (ci := 5) rfl rfl rfl rfl (Nat.le_of_ble_eq_true rfl) ⟨Nat.le_of_ble_eq_true rfl, Nat.le_of_ble_eq_true rfl⟩ dX5_send_65 ⟨Nat.le_refl 0, Nat.le_refl 0⟩ (fun y6 => ?_)
            refine VF.istore C [1, 2, 3, 4, 5, 0] dX5_send_68 (Nat.le_of_ble_eq_true rfl) (lv' := [(0, .ref a0), (1, .int u1), (2, .int u2), (3, .int u3), (4, .int u4), (5, .int y6.1)]) rfl ?_
            refine VF.aload_n C 0 dX5_send_70 rfl ?_
            refine VF.iload_n C 2 dX5_send_71 rfl ?_
            refine VF.callVi C (b := a0) (As := [.int u2]) (rest := []) lk_X5_104 (mtX5_puts l D cI cZ a0 a1 a2 a3 a4 a5 f0 f1 f2 f3 y6.2 f5 u2) (fun y => y.1) (fun _ => rfl) [some 0, some 1, some 2, some 3, some 4, some 5] ⟨rfl, rfl⟩ (ws' := fun y => [eM a0 a1 a2 a3 a4 a5 f0, eA cI 200 a1 f1, eA cI 5 a2 f2, eA cI 5 a3 f3, eA cI 306 a4 y.2, eA cI 612 a5 f5]) (fun _ => ⟨⟨rfl, rfl, rfl⟩, ⟨rfl, rfl, rfl⟩, ⟨rfl, rfl, rfl⟩, ⟨rfl, rfl, rfl⟩, ⟨rfl, rfl, rfl⟩, ⟨rfl, rfl, rfl⟩, trivial⟩) (ci := 5) rfl rfl rfl rfl (Nat.le_of_ble_eq_true rfl) ⟨Nat.le_of_ble_eq_true rfl, Nat.le_of_ble_eq_true rfl⟩ dX5_send_72 ⟨Nat.le_refl 0, Nat.le_refl 0⟩ (fun y7 => ?_)
            refine VF.istore C [1, 2, 3, 4, 5, 6, 0] dX5_send_75 (Nat.le_of_ble_eq_true rfl) (lv' := [(0, .ref a0), (1, .int u1), (2, .int u2), (3, .int u3), (4, .int u4), (5, .int y6.1), (6, .int y7.1)]) rfl ?_
            refine VF.aload_n C 0 dX5_send_77 rfl ?_
            refine VF.iload_n C 3 dX5_send_78 rfl ?_
            refine VF.iload C 4 dX5_send_79 rfl ?_
            refine VF.iload C 5 dX5_send_81 rfl ?_
            refine VF.if_ge C 91 dX5_send_83 rfl (fun h6 => ?_) (fun h6 => ?_)
            · refine VF.iload C 6 dX5_send_91 rfl ?_
              refine VF.callVi C (b := a0) (As := [.int u3, .int u4, .int y7.1]) (rest := []) lk_X5_144 (mtX5_goesOn l D cI cZ a0 a1 a2 a3 a4 a5 f0 f1 f2 f3 y7.2 f5 u3 u4 y7.1) (fun y => y.1) (fun _ => rfl) [some 0, some 1, some 2, some 3, some 4, some 5] ⟨rfl, rfl⟩ (ws' := fun y => [eM a0 a1 a2 a3 a4 a5 f0, eA cI 200 a1 f1, eA cI 5 a2 f2, eA cI 5 a3 f3, eA cI 306 a4 y.2, eA cI 612 a5 f5]) (fun _ => ⟨⟨rfl, rfl, rfl⟩, ⟨rfl, rfl, rfl⟩, ⟨rfl, rfl, rfl⟩, ⟨rfl, rfl, rfl⟩, ⟨rfl, rfl, rfl⟩, ⟨rfl, rfl, rfl⟩, trivial⟩) (ci := 5) rfl rfl rfl rfl (Nat.le_of_ble_eq_true rfl) ⟨Nat.le_of_ble_eq_true rfl, Nat.le_of_ble_eq_true rfl⟩ dX5_send_93 ⟨Nat.le_refl 0, Nat.le_refl 0⟩ (fun y8 => ?_)
              exact VF.iret C rfl rfl dX5_send_96
            · refine VF.iload C 5 dX5_send_86 rfl ?_
              refine VF.goto C 93 dX5_send_88 rfl ?_
              refine VF.callVi C (b := a0) (As := [.int u3, .int u4, .int y6.1]) (rest := []) lk_X5_144 (mtX5_goesOn l D cI cZ a0 a1 a2 a3 a4 a5 f0 f1 f2 f3 y7.2 f5 u3 u4 y6.1) (fun y => y.1) (fun _ => rfl) [some 0, some 1, some 2, some 3, some 4, some 5] ⟨rfl, rfl⟩ (ws' := fun y => [eM a0 a1 a2 a3 a4 a5 f0, eA cI 200 a1 f1, eA cI 5 a2 f2, eA cI 5 a3 f3, eA cI 306 a4 y.2, eA cI 612 a5 f5]) (fun _ => ⟨⟨rfl, rfl, rfl⟩, ⟨rfl, rfl, rfl⟩, ⟨rfl, rfl, rfl⟩, ⟨rfl, rfl, rfl⟩, ⟨rfl, rfl, rfl⟩, ⟨rfl, rfl, rfl⟩, trivial⟩) (ci := 5) rfl rfl rfl rfl (Nat.le_of_ble_eq_true rfl) ⟨Nat.le_of_ble_eq_true rfl, Nat.le_of_ble_eq_true rfl⟩ dX5_send_93 ⟨Nat.le_refl 0, Nat.le_refl 0⟩ (fun y9 => ?_)
              exact VF.iret C rfl rfl dX5_send_96
          · refine VF.bipush C dX5_send_60 kb_m2 ?_
            exact VF.iret C rfl rfl dX5_send_62
        · refine VF.iconst C dX5_send_49 kc_m1 ?_
          exact VF.iret C rfl rfl dX5_send_50
set_option maxHeartbeats 4000000 in
set_option maxRecDepth 100000 in
theorem mtX5_order (l : Launch) (D : va_G) (cI cZ : ClassId) (a0 a1 a2 a3 a4 a5 : Nat) (f0 f1 f2 f3 f4 f5 : Fn) (u1 : Int32) (u2 : Int32) (u3 : Int32) : Ctr l yX5_order cX5_order 5 (some .int) 7 159 D cI cZ [.ref a0, .int u1, .int u2, .int u3] [eM a0 a1 a2 a3 a4 a5 f0, eA cI 200 a1 f1, eA cI 5 a2 f2, eA cI 5 a3 f3, eA cI 306 a4 f4, eA cI 612 a5 f5] (zX5_order f2 f4 u1 u2 u3) (fun y : Int32 × Fn => some (Value.int y.1)) (fun y : Int32 × Fn => [eM a0 a1 a2 a3 a4 a5 f0, eA cI 200 a1 f1, eA cI 5 a2 f2, eA cI 5 a3 f3, eA cI 306 a4 y.2, eA cI 612 a5 f5]) := by
  refine Ctr.of (by decide) (Nat.le_of_ble_eq_true rfl) ?_
  intro p e s m below meth c A C
  have C : CX p s m ([.ref a0, .int u1, .int u2, .int u3] : List Value).toArray meth c cX5_order 5 RX5 D cI cZ A (some .int) := C
  refine VF.lve (lv' := [(0, .ref a0), (1, .int u1), (2, .int u2), (3, .int u3)]) rfl ?_
  refine VF.eq (zX5_order.eq_1 f2 f4 u1 u2 u3) ?_
  refine VF.iload_n C 1 dX5_order_0 rfl ?_
  refine VF.i2l C dX5_order_1 ?_
  refine VF.lconst (v := 0) C dX5_order_2 (by decide) ?_
  refine VF.ldc2 C (v := 255) wc_X5_102 dX5_order_3 ?_
  refine VF.callSi C (As := [.long (Int32.toInt64 u1), .long (0 : Int64), .long (255 : Int64)]) (rest := []) lk_X5_40 (mtX5_in l D cI cZ (Int32.toInt64 u1) (0 : Int64) (255 : Int64)) (fun y => y) (fun _ => rfl) [none, none, none, none, none, none] ⟨rfl, rfl⟩ (ws' := fun y => [eM a0 a1 a2 a3 a4 a5 f0, eA cI 200 a1 f1, eA cI 5 a2 f2, eA cI 5 a3 f3, eA cI 306 a4 f4, eA cI 612 a5 f5]) (fun _ => ⟨rfl, rfl, rfl, rfl, rfl, rfl, trivial⟩) rfl rfl (Nat.le_of_ble_eq_true rfl) ⟨Nat.le_of_ble_eq_true rfl, Nat.le_of_ble_eq_true rfl⟩ dX5_order_6 ⟨Nat.le_refl 0, Nat.le_refl 0⟩ (fun y1 => ?_)
  refine VF.if_eq C 36 dX5_order_9 rfl (fun h1 => ?_) (fun h1 => ?_)
  · refine VF.iconst C dX5_order_36 kc_m1 ?_
    exact VF.iret C rfl rfl dX5_order_37
  · refine VF.iload_n C 2 dX5_order_12 rfl ?_
    refine VF.i2l C dX5_order_13 ?_
    refine VF.lconst (v := 0) C dX5_order_14 (by decide) ?_
    refine VF.ldc2 C (v := 255) wc_X5_102 dX5_order_15 ?_
    refine VF.callSi C (As := [.long (Int32.toInt64 u2), .long (0 : Int64), .long (255 : Int64)]) (rest := []) lk_X5_40 (mtX5_in l D cI cZ (Int32.toInt64 u2) (0 : Int64) (255 : Int64)) (fun y => y) (fun _ => rfl) [none, none, none, none, none, none] ⟨rfl, rfl⟩ (ws' := fun y => [eM a0 a1 a2 a3 a4 a5 f0, eA cI 200 a1 f1, eA cI 5 a2 f2, eA cI 5 a3 f3, eA cI 306 a4 f4, eA cI 612 a5 f5]) (fun _ => ⟨rfl, rfl, rfl, rfl, rfl, rfl, trivial⟩) rfl rfl (Nat.le_of_ble_eq_true rfl) ⟨Nat.le_of_ble_eq_true rfl, Nat.le_of_ble_eq_true rfl⟩ dX5_order_18 ⟨Nat.le_refl 0, Nat.le_refl 0⟩ (fun y2 => ?_)
    refine VF.if_eq C 36 dX5_order_21 rfl (fun h2 => ?_) (fun h2 => ?_)
    · refine VF.iconst C dX5_order_36 kc_m1 ?_
      exact VF.iret C rfl rfl dX5_order_37
    · refine VF.iload_n C 3 dX5_order_24 rfl ?_
      refine VF.i2l C dX5_order_25 ?_
      refine VF.lconst (v := 0) C dX5_order_26 (by decide) ?_
      refine VF.ldc2 C (v := 40) wc_X5_139 dX5_order_27 ?_
      refine VF.callSi C (As := [.long (Int32.toInt64 u3), .long (0 : Int64), .long (40 : Int64)]) (rest := []) lk_X5_40 (mtX5_in l D cI cZ (Int32.toInt64 u3) (0 : Int64) (40 : Int64)) (fun y => y) (fun _ => rfl) [none, none, none, none, none, none] ⟨rfl, rfl⟩ (ws' := fun y => [eM a0 a1 a2 a3 a4 a5 f0, eA cI 200 a1 f1, eA cI 5 a2 f2, eA cI 5 a3 f3, eA cI 306 a4 f4, eA cI 612 a5 f5]) (fun _ => ⟨rfl, rfl, rfl, rfl, rfl, rfl, trivial⟩) rfl rfl (Nat.le_of_ble_eq_true rfl) ⟨Nat.le_of_ble_eq_true rfl, Nat.le_of_ble_eq_true rfl⟩ dX5_order_30 ⟨Nat.le_refl 0, Nat.le_refl 0⟩ (fun y3 => ?_)
      refine VF.if_ne C 38 dX5_order_33 rfl (fun h3 => ?_) (fun h3 => ?_)
      · refine VF.aload_n C 0 dX5_order_38 rfl ?_
        refine VF.callVi C (b := a0) (As := []) (rest := []) lk_X5_141 (mtX5_select l D cI cZ a0 a1 a2 a3 a4 a5 f0 f1 f2 f3 f4 f5) (fun y => y.1) (fun _ => rfl) [some 0, some 1, some 2, some 3, some 4, some 5] ⟨rfl, rfl⟩ (ws' := fun y => [eM a0 a1 a2 a3 a4 a5 f0, eA cI 200 a1 f1, eA cI 5 a2 f2, eA cI 5 a3 f3, eA cI 306 a4 y.2, eA cI 612 a5 f5]) (fun _ => ⟨⟨rfl, rfl, rfl⟩, ⟨rfl, rfl, rfl⟩, ⟨rfl, rfl, rfl⟩, ⟨rfl, rfl, rfl⟩, ⟨rfl, rfl, rfl⟩, ⟨rfl, rfl, rfl⟩, trivial⟩) (ci := 5) rfl rfl rfl rfl (Nat.le_of_ble_eq_true rfl) ⟨Nat.le_of_ble_eq_true rfl, Nat.le_of_ble_eq_true rfl⟩ dX5_order_39 ⟨Nat.le_refl 0, Nat.le_refl 0⟩ (fun y4 => ?_)
        refine VF.bipush C dX5_order_42 kb_m2 ?_
        refine VF.icmp_ne C 50 dX5_order_44 rfl (fun h4 => ?_) (fun h4 => ?_)
        · refine VF.aload_n C 0 dX5_order_50 rfl ?_
          refine VF.iload_n C 1 dX5_order_51 rfl ?_
          refine VF.callVi C (b := a0) (As := [.int u1]) (rest := []) lk_X5_104 (mtX5_puts l D cI cZ a0 a1 a2 a3 a4 a5 f0 f1 f2 f3 y4.2 f5 u1) (fun y => y.1) (fun _ => rfl) [some 0, some 1, some 2, some 3, some 4, some 5] ⟨rfl, rfl⟩ (ws' := fun y => [eM a0 a1 a2 a3 a4 a5 f0, eA cI 200 a1 f1, eA cI 5 a2 f2, eA cI 5 a3 f3, eA cI 306 a4 y.2, eA cI 612 a5 f5]) (fun _ => ⟨⟨rfl, rfl, rfl⟩, ⟨rfl, rfl, rfl⟩, ⟨rfl, rfl, rfl⟩, ⟨rfl, rfl, rfl⟩, ⟨rfl, rfl, rfl⟩, ⟨rfl, rfl, rfl⟩, trivial⟩) (ci := 5) rfl rfl rfl rfl (Nat.le_of_ble_eq_true rfl) ⟨Nat.le_of_ble_eq_true rfl, Nat.le_of_ble_eq_true rfl⟩ dX5_order_52 ⟨Nat.le_refl 0, Nat.le_refl 0⟩ (fun y5 => ?_)
          refine VF.istore C [1, 2, 3, 4, 0] dX5_order_55 (Nat.le_of_ble_eq_true rfl) (lv' := [(0, .ref a0), (1, .int u1), (2, .int u2), (3, .int u3), (4, .int y5.1)]) rfl ?_
          refine VF.aload_n C 0 dX5_order_57 rfl ?_
          refine VF.iload_n C 2 dX5_order_58 rfl ?_
          refine VF.iload_n C 3 dX5_order_59 rfl ?_
          refine VF.iload C 4 dX5_order_60 rfl ?_
          refine VF.callVi C (b := a0) (As := [.int u2, .int u3, .int y5.1]) (rest := []) lk_X5_144 (mtX5_goesOn l D cI cZ a0 a1 a2 a3 a4 a5 f0 f1 f2 f3 y5.2 f5 u2 u3 y5.1) (fun y => y.1) (fun _ => rfl) [some 0, some 1, some 2, some 3, some 4, some 5] ⟨rfl, rfl⟩ (ws' := fun y => [eM a0 a1 a2 a3 a4 a5 f0, eA cI 200 a1 f1, eA cI 5 a2 f2, eA cI 5 a3 f3, eA cI 306 a4 y.2, eA cI 612 a5 f5]) (fun _ => ⟨⟨rfl, rfl, rfl⟩, ⟨rfl, rfl, rfl⟩, ⟨rfl, rfl, rfl⟩, ⟨rfl, rfl, rfl⟩, ⟨rfl, rfl, rfl⟩, ⟨rfl, rfl, rfl⟩, trivial⟩) (ci := 5) rfl rfl rfl rfl (Nat.le_of_ble_eq_true rfl) ⟨Nat.le_of_ble_eq_true rfl, Nat.le_of_ble_eq_true rfl⟩ dX5_order_62 ⟨Nat.le_refl 0, Nat.le_refl 0⟩ (fun y6 => ?_)
          exact VF.iret C rfl rfl dX5_order_65
        · refine VF.bipush C dX5_order_47 kb_m2 ?_
          exact VF.iret C rfl rfl dX5_order_49
      · refine VF.iconst C dX5_order_36 kc_m1 ?_
        exact VF.iret C rfl rfl dX5_order_37
set_option maxHeartbeats 4000000 in
set_option maxRecDepth 100000 in
theorem mtX5_done (l : Launch) (D : va_G) (cI cZ : ClassId) (a0 a1 a2 a3 a4 a5 : Nat) (f0 f1 f2 f3 f4 f5 : Fn) : Ctr l yX5_done cX5_done 5 none 1 20 D cI cZ [.ref a0] [eM a0 a1 a2 a3 a4 a5 f0, eA cI 200 a1 f1, eA cI 5 a2 f2, eA cI 5 a3 f3, eA cI 306 a4 f4, eA cI 612 a5 f5] (zX5_done f2 f4) (fun _ : Fn => (none : Option Value)) (fun y : Fn => [eM a0 a1 a2 a3 a4 a5 f0, eA cI 200 a1 f1, eA cI 5 a2 f2, eA cI 5 a3 f3, eA cI 306 a4 y, eA cI 612 a5 f5]) := by
  refine Ctr.of (by decide) (Nat.le_of_ble_eq_true rfl) ?_
  intro p e s m below meth c A C
  have C : CX p s m ([.ref a0] : List Value).toArray meth c cX5_done 5 RX5 D cI cZ A none := C
  have k92 : ∀ (f4 : Fn), VF p l e { frames := 1, cells := 0, slots := 0, locals := 20 } s m ([.ref a0] : List Value).toArray below meth c 0 0 D A 5 (fun r => MQ below (QcX ((fun _ : Fn => (none : Option Value)) r) D ((fun y : Fn => [eM a0 a1 a2 a3 a4 a5 f0, eA cI 200 a1 f1, eA cI 5 a2 f2, eA cI 5 a3 f3, eA cI 306 a4 y, eA cI 612 a5 f5]) r) A) ([.ref a0] : List Value).toArray s 0 0 A) (zX5_done_k92 f2 f4) [eM a0 a1 a2 a3 a4 a5 f0, eA cI 200 a1 f1, eA cI 5 a2 f2, eA cI 5 a3 f3, eA cI 306 a4 f4, eA cI 612 a5 f5] 92 [(0, .ref a0)] [] := by
    intro f4
    refine VF.eq (zX5_done_k92.eq_1 f2 f4) ?_
    refine VF.aload_n C 0 dX5_done_92 rfl ?_
    refine VF.get C fl_X5_19 0 rfl rfl dX5_done_93 ?_
    refine VF.sipush C dX5_done_96 ks_293 ?_
    refine VF.iconst C dX5_done_99 kc_0 ?_
    refine VF.iastK C 4 293 li_293 (Nat.le_of_ble_eq_true rfl) (Nat.le_of_ble_eq_true rfl) rfl (ws' := [eM a0 a1 a2 a3 a4 a5 f0, eA cI 200 a1 f1, eA cI 5 a2 f2, eA cI 5 a3 f3, eA cI 306 a4 (upd f4 293 0), eA cI 612 a5 f5]) rfl dX5_done_100 ?_
    exact VF.vret C rfl rfl dX5_done_101
  have k58 : ∀ (n : Nat) (x3 : Int32) (x4 : Int32) (f4 : Fn), VF p l e { frames := 1, cells := 0, slots := 0, locals := 20 } s m ([.ref a0] : List Value).toArray below meth c 0 0 D A 5 (fun r => MQ below (QcX ((fun _ : Fn => (none : Option Value)) r) D ((fun y : Fn => [eM a0 a1 a2 a3 a4 a5 f0, eA cI 200 a1 f1, eA cI 5 a2 f2, eA cI 5 a3 f3, eA cI 306 a4 y, eA cI 612 a5 f5]) r) A) ([.ref a0] : List Value).toArray s 0 0 A) (zX5_done_k58 n f2 f4 x3 x4) [eM a0 a1 a2 a3 a4 a5 f0, eA cI 200 a1 f1, eA cI 5 a2 f2, eA cI 5 a3 f3, eA cI 306 a4 f4, eA cI 612 a5 f5] 58 [(0, .ref a0), (3, .int x3), (4, .int x4)] [] := by
    intro n
    induction n with
    | zero =>
      intro x3 x4 f4
      exact VF.eq (zX5_done_k58.eq_1 _ _ _ _) VF.nn
    | succ n ih =>
      intro x3 x4 f4
      refine VF.eq (zX5_done_k58.eq_2 _ _ _ _ _) ?_
      refine VF.iload C 2 dX5_done_58 rfl ?_
      refine VF.iload_n C 1 dX5_done_60 rfl ?_
      refine VF.icmp_ge C 92 dX5_done_61 rfl (fun h3 => ?_) (fun h3 => ?_)
      · exact VF.lvs [0] rfl (k92 f4)
      · refine VF.aload_n C 0 dX5_done_64 rfl ?_
        refine VF.get C fl_X5_19 0 rfl rfl dX5_done_65 ?_
        refine VF.sipush C dX5_done_68 ks_293 ?_
        refine VF.ialdK C 4 293 li_293 (Nat.le_of_ble_eq_true rfl) (Nat.le_of_ble_eq_true rfl) rfl dX5_done_71 ?_
        refine VF.iconst C dX5_done_72 kc_1 ?_
        refine VF.icmp_eq C 92 dX5_done_73 rfl (fun h4 => ?_) (fun h4 => ?_)
        · exact VF.lvs [0] rfl (k92 f4)
        · refine VF.aload_n C 0 dX5_done_76 rfl ?_
          refine VF.get C fl_X5_19 0 rfl rfl dX5_done_77 ?_
          refine VF.iload C 2 dX5_done_80 rfl ?_
          refine VF.sipush C dX5_done_82 ks_255 ?_
          refine VF.iast C 4 rfl (ws' := [eM a0 a1 a2 a3 a4 a5 f0, eA cI 200 a1 f1, eA cI 5 a2 f2, eA cI 5 a3 f3, eA cI 306 a4 (upd f4 (ix x4) 255), eA cI 612 a5 f5]) rfl dX5_done_85 ?_
          refine VF.iinc C 2 [1, 2, 0] dX5_done_86 rfl (v := (x4 + 1)) rfl (Nat.le_of_ble_eq_true rfl) (lv' := [(0, .ref a0), (3, .int x3), (4, .int (x4 + 1))]) rfl ?_
          refine VF.goto C 58 dX5_done_89 rfl ?_
          exact ih x3 (x4 + 1) (upd f4 (ix x4) 255)
  have k31 : ∀ (x1 : Int32) (t0 : Int32) (f4 : Fn), VF p l e { frames := 1, cells := 0, slots := 0, locals := 20 } s m ([.ref a0] : List Value).toArray below meth c 0 0 D A 5 (fun r => MQ below (QcX ((fun _ : Fn => (none : Option Value)) r) D ((fun y : Fn => [eM a0 a1 a2 a3 a4 a5 f0, eA cI 200 a1 f1, eA cI 5 a2 f2, eA cI 5 a3 f3, eA cI 306 a4 y, eA cI 612 a5 f5]) r) A) ([.ref a0] : List Value).toArray s 0 0 A) (zX5_done_k31 f2 f4 x1 t0) [eM a0 a1 a2 a3 a4 a5 f0, eA cI 200 a1 f1, eA cI 5 a2 f2, eA cI 5 a3 f3, eA cI 306 a4 f4, eA cI 612 a5 f5] 31 [(0, .ref a0), (1, .int x1)] [.int t0] := by
    intro x1 t0 f4
    refine VF.eq (zX5_done_k31.eq_1 f2 f4 x1 t0) ?_
    refine VF.istore_n C [1, 2, 0] dX5_done_31 rfl (Nat.le_of_ble_eq_true rfl) (lv' := [(0, .ref a0), (1, .int x1), (2, .int t0)]) rfl ?_
    refine VF.aload_n C 0 dX5_done_32 rfl ?_
    refine VF.get C fl_X5_19 0 rfl rfl dX5_done_33 ?_
    refine VF.sipush C dX5_done_36 ks_293 ?_
    refine VF.ialdK C 4 293 li_293 (Nat.le_of_ble_eq_true rfl) (Nat.le_of_ble_eq_true rfl) rfl dX5_done_39 ?_
    refine VF.iconst C dX5_done_40 kc_2 ?_
    refine VF.icmp_ne C 50 dX5_done_41 rfl (fun h2 => ?_) (fun h2 => ?_)
    · refine VF.aload_n C 0 dX5_done_50 rfl ?_
      refine VF.callVi C (b := a0) (As := []) (rest := []) lk_X5_89 (mtX5_all l D cI cZ a0 a1 a2 a3 a4 a5 f0 f1 f2 f3 f4 f5) (fun y => y) (fun _ => rfl) [some 0, some 1, some 2, some 3, some 4, some 5] ⟨rfl, rfl⟩ (ws' := fun y => [eM a0 a1 a2 a3 a4 a5 f0, eA cI 200 a1 f1, eA cI 5 a2 f2, eA cI 5 a3 f3, eA cI 306 a4 f4, eA cI 612 a5 f5]) (fun _ => ⟨⟨rfl, rfl, rfl⟩, ⟨rfl, rfl, rfl⟩, ⟨rfl, rfl, rfl⟩, ⟨rfl, rfl, rfl⟩, ⟨rfl, rfl, rfl⟩, ⟨rfl, rfl, rfl⟩, trivial⟩) (ci := 5) rfl rfl rfl rfl (Nat.le_of_ble_eq_true rfl) ⟨Nat.le_of_ble_eq_true rfl, Nat.le_of_ble_eq_true rfl⟩ dX5_done_51 ⟨Nat.le_refl 0, Nat.le_refl 0⟩ (fun y2 => ?_)
      refine VF.istore_n C [1, 2, 3, 0] dX5_done_54 rfl (Nat.le_of_ble_eq_true rfl) (lv' := [(0, .ref a0), (1, .int x1), (2, .int t0), (3, .int y2)]) rfl ?_
      refine VF.iload_n C 2 dX5_done_55 rfl ?_
      refine VF.istore C [1, 2, 3, 4, 0] dX5_done_56 (Nat.le_of_ble_eq_true rfl) (lv' := [(0, .ref a0), (1, .int x1), (2, .int t0), (3, .int y2), (4, .int t0)]) rfl ?_
      exact VF.lvs [0, 3, 4] rfl (k58 4096 y2 t0 f4)
    · refine VF.iload_n C 2 dX5_done_44 rfl ?_
      refine VF.iload_n C 1 dX5_done_45 rfl ?_
      refine VF.iadd C dX5_done_46 ?_
      refine VF.goto C 54 dX5_done_47 rfl ?_
      refine VF.istore_n C [1, 2, 3, 0] dX5_done_54 rfl (Nat.le_of_ble_eq_true rfl) (lv' := [(0, .ref a0), (1, .int x1), (2, .int t0), (3, .int (t0 + x1))]) rfl ?_
      refine VF.iload_n C 2 dX5_done_55 rfl ?_
      refine VF.istore C [1, 2, 3, 4, 0] dX5_done_56 (Nat.le_of_ble_eq_true rfl) (lv' := [(0, .ref a0), (1, .int x1), (2, .int t0), (3, .int (t0 + x1)), (4, .int t0)]) rfl ?_
      exact VF.lvs [0, 3, 4] rfl (k58 4096 (t0 + x1) t0 f4)
  refine VF.lve (lv' := [(0, .ref a0)]) rfl ?_
  refine VF.eq (zX5_done.eq_1 f2 f4) ?_
  refine VF.aload_n C 0 dX5_done_0 rfl ?_
  refine VF.callVi C (b := a0) (As := []) (rest := []) lk_X5_110 (mtX5_sectorSize l D cI cZ a0 a1 a2 a3 a4 a5 f0 f1 f2 f3 f4 f5) (fun y => y) (fun _ => rfl) [some 0, some 1, some 2, some 3, some 4, some 5] ⟨rfl, rfl⟩ (ws' := fun y => [eM a0 a1 a2 a3 a4 a5 f0, eA cI 200 a1 f1, eA cI 5 a2 f2, eA cI 5 a3 f3, eA cI 306 a4 f4, eA cI 612 a5 f5]) (fun _ => ⟨⟨rfl, rfl, rfl⟩, ⟨rfl, rfl, rfl⟩, ⟨rfl, rfl, rfl⟩, ⟨rfl, rfl, rfl⟩, ⟨rfl, rfl, rfl⟩, ⟨rfl, rfl, rfl⟩, trivial⟩) (ci := 5) rfl rfl rfl rfl (Nat.le_of_ble_eq_true rfl) ⟨Nat.le_of_ble_eq_true rfl, Nat.le_of_ble_eq_true rfl⟩ dX5_done_1 ⟨Nat.le_refl 0, Nat.le_refl 0⟩ (fun y1 => ?_)
  refine VF.istore_n C [1, 0] dX5_done_4 rfl (Nat.le_of_ble_eq_true rfl) (lv' := [(0, .ref a0), (1, .int y1)]) rfl ?_
  refine VF.aload_n C 0 dX5_done_5 rfl ?_
  refine VF.get C fl_X5_19 0 rfl rfl dX5_done_6 ?_
  refine VF.sipush C dX5_done_9 ks_293 ?_
  refine VF.ialdK C 4 293 li_293 (Nat.le_of_ble_eq_true rfl) (Nat.le_of_ble_eq_true rfl) rfl dX5_done_12 ?_
  refine VF.iconst C dX5_done_13 kc_2 ?_
  refine VF.icmp_ne C 30 dX5_done_14 rfl (fun h1 => ?_) (fun h1 => ?_)
  · refine VF.iconst C dX5_done_30 kc_0 ?_
    exact k31 y1 0 f4
  · refine VF.aload_n C 0 dX5_done_17 rfl ?_
    refine VF.get C fl_X5_19 0 rfl rfl dX5_done_18 ?_
    refine VF.sipush C dX5_done_21 ks_294 ?_
    refine VF.ialdK C 4 294 li_294 (Nat.le_of_ble_eq_true rfl) (Nat.le_of_ble_eq_true rfl) rfl dX5_done_24 ?_
    refine VF.iload_n C 1 dX5_done_25 rfl ?_
    refine VF.imul C dX5_done_26 ?_
    refine VF.goto C 31 dX5_done_27 rfl ?_
    exact k31 y1 ((f4 294) * y1) f4
set_option maxHeartbeats 4000000 in
set_option maxRecDepth 100000 in
theorem mtX5_tick (l : Launch) (D : va_G) (cI cZ : ClassId) (a0 a1 a2 a3 a4 a5 : Nat) (f0 f1 f2 f3 f4 f5 : Fn) (u1 : Int32) : Ctr l yX5_tick cX5_tick 4 (some .int) 2 44 D cI cZ [.ref a0, .int u1] [eM a0 a1 a2 a3 a4 a5 f0, eA cI 200 a1 f1, eA cI 5 a2 f2, eA cI 5 a3 f3, eA cI 306 a4 f4, eA cI 612 a5 f5] (zX5_tick f2 f4 u1) (fun y : Int32 × Fn => some (Value.int y.1)) (fun y : Int32 × Fn => [eM a0 a1 a2 a3 a4 a5 f0, eA cI 200 a1 f1, eA cI 5 a2 f2, eA cI 5 a3 f3, eA cI 306 a4 y.2, eA cI 612 a5 f5]) := by
  refine Ctr.of (by decide) (Nat.le_of_ble_eq_true rfl) ?_
  intro p e s m below meth c A C
  have C : CX p s m ([.ref a0, .int u1] : List Value).toArray meth c cX5_tick 4 RX5 D cI cZ A (some .int) := C
  have k18 : ∀ (n : Nat) (x1 : Int32) (x2 : Int32) (x3 : Int32) (f4 : Fn), VF p l e { frames := 2, cells := 0, slots := 0, locals := 44 } s m ([.ref a0, .int u1] : List Value).toArray below meth c 0 0 D A 4 (fun r => MQ below (QcX ((fun y : Int32 × Fn => some (Value.int y.1)) r) D ((fun y : Int32 × Fn => [eM a0 a1 a2 a3 a4 a5 f0, eA cI 200 a1 f1, eA cI 5 a2 f2, eA cI 5 a3 f3, eA cI 306 a4 y.2, eA cI 612 a5 f5]) r) A) ([.ref a0, .int u1] : List Value).toArray s 0 0 A) (zX5_tick_k18 n f2 f4 x1 x2 x3) [eM a0 a1 a2 a3 a4 a5 f0, eA cI 200 a1 f1, eA cI 5 a2 f2, eA cI 5 a3 f3, eA cI 306 a4 f4, eA cI 612 a5 f5] 18 [(0, .ref a0), (1, .int x1), (2, .int x2), (3, .int x3)] [] := by
    intro n
    induction n with
    | zero =>
      intro x1 x2 x3 f4
      exact VF.eq (zX5_tick_k18.eq_1 _ _ _ _ _) VF.nn
    | succ n ih =>
      intro x1 x2 x3 f4
      refine VF.eq (zX5_tick_k18.eq_2 _ _ _ _ _ _) ?_
      refine VF.iload_n C 3 dX5_tick_18 rfl ?_
      refine VF.iload_n C 1 dX5_tick_19 rfl ?_
      refine VF.icmp_ge C 70 dX5_tick_20 rfl (fun h2 => ?_) (fun h2 => ?_)
      · refine VF.iload_n C 2 dX5_tick_70 rfl ?_
        exact VF.iret C rfl rfl dX5_tick_71
      · refine VF.aload_n C 0 dX5_tick_23 rfl ?_
        refine VF.get C fl_X5_19 0 rfl rfl dX5_tick_24 ?_
        refine VF.sipush C dX5_tick_27 ks_293 ?_
        refine VF.ialdK C 4 293 li_293 (Nat.le_of_ble_eq_true rfl) (Nat.le_of_ble_eq_true rfl) rfl dX5_tick_30 ?_
        refine VF.if_le C 64 dX5_tick_31 rfl (fun h3 => ?_) (fun h3 => ?_)
        · refine VF.iinc C 3 [1, 2, 3, 0] dX5_tick_64 rfl (v := (x3 + 1)) rfl (Nat.le_of_ble_eq_true rfl) (lv' := [(0, .ref a0), (1, .int x1), (2, .int x2), (3, .int (x3 + 1))]) rfl ?_
          refine VF.goto C 18 dX5_tick_67 rfl ?_
          exact ih x1 x2 (x3 + 1) f4
        · refine VF.iinc C 2 [1, 2, 0, 3] dX5_tick_34 rfl (v := (x2 + 1)) rfl (Nat.le_of_ble_eq_true rfl) (lv' := [(0, .ref a0), (1, .int x1), (2, .int (x2 + 1)), (3, .int x3)]) rfl ?_
          refine VF.aload_n C 0 dX5_tick_37 rfl ?_
          refine VF.get C fl_X5_19 0 rfl rfl dX5_tick_38 ?_
          refine VF.sipush C dX5_tick_41 ks_295 ?_
          refine VF.dup2 C dX5_tick_44 rfl rfl ?_
          refine VF.ialdK C 4 295 li_295 (Nat.le_of_ble_eq_true rfl) (Nat.le_of_ble_eq_true rfl) rfl dX5_tick_45 ?_
          refine VF.iconst C dX5_tick_46 kc_1 ?_
          refine VF.isub C dX5_tick_47 ?_
          refine VF.iastK C 4 295 li_295 (Nat.le_of_ble_eq_true rfl) (Nat.le_of_ble_eq_true rfl) rfl (ws' := [eM a0 a1 a2 a3 a4 a5 f0, eA cI 200 a1 f1, eA cI 5 a2 f2, eA cI 5 a3 f3, eA cI 306 a4 (upd f4 295 ((f4 295) - 1)), eA cI 612 a5 f5]) rfl dX5_tick_48 ?_
          refine VF.aload_n C 0 dX5_tick_49 rfl ?_
          refine VF.get C fl_X5_19 0 rfl rfl dX5_tick_50 ?_
          refine VF.sipush C dX5_tick_53 ks_295 ?_
          refine VF.ialdK C 4 295 li_295 (Nat.le_of_ble_eq_true rfl) (Nat.le_of_ble_eq_true rfl) rfl dX5_tick_56 ?_
          refine VF.if_ne C 64 dX5_tick_57 rfl (fun h4 => ?_) (fun h4 => ?_)
          · refine VF.iinc C 3 [1, 2, 3, 0] dX5_tick_64 rfl (v := (x3 + 1)) rfl (Nat.le_of_ble_eq_true rfl) (lv' := [(0, .ref a0), (1, .int x1), (2, .int (x2 + 1)), (3, .int (x3 + 1))]) rfl ?_
            refine VF.goto C 18 dX5_tick_67 rfl ?_
            exact ih x1 (x2 + 1) (x3 + 1) (upd f4 295 ((f4 295) - 1))
          · refine VF.aload_n C 0 dX5_tick_60 rfl ?_
            refine VF.callVv C (b := a0) (As := []) (rest := []) lk_X5_150 (mtX5_done l D cI cZ a0 a1 a2 a3 a4 a5 f0 f1 f2 f3 (upd f4 295 ((f4 295) - 1)) f5) (fun _ => rfl) [some 0, some 1, some 2, some 3, some 4, some 5] ⟨rfl, rfl⟩ (ws' := fun y => [eM a0 a1 a2 a3 a4 a5 f0, eA cI 200 a1 f1, eA cI 5 a2 f2, eA cI 5 a3 f3, eA cI 306 a4 y, eA cI 612 a5 f5]) (fun _ => ⟨⟨rfl, rfl, rfl⟩, ⟨rfl, rfl, rfl⟩, ⟨rfl, rfl, rfl⟩, ⟨rfl, rfl, rfl⟩, ⟨rfl, rfl, rfl⟩, ⟨rfl, rfl, rfl⟩, trivial⟩) (ci := 5) rfl rfl rfl rfl (Nat.le_of_ble_eq_true rfl) ⟨Nat.le_of_ble_eq_true rfl, Nat.le_of_ble_eq_true rfl⟩ dX5_tick_61 ⟨Nat.le_refl 0, Nat.le_refl 0⟩ (fun y2 => ?_)
            refine VF.iinc C 3 [1, 2, 3, 0] dX5_tick_64 rfl (v := (x3 + 1)) rfl (Nat.le_of_ble_eq_true rfl) (lv' := [(0, .ref a0), (1, .int x1), (2, .int (x2 + 1)), (3, .int (x3 + 1))]) rfl ?_
            refine VF.goto C 18 dX5_tick_67 rfl ?_
            exact ih x1 (x2 + 1) (x3 + 1) y2
  refine VF.lve (lv' := [(0, .ref a0), (1, .int u1)]) rfl ?_
  refine VF.eq (zX5_tick.eq_1 f2 f4 u1) ?_
  refine VF.iload_n C 1 dX5_tick_0 rfl ?_
  refine VF.i2l C dX5_tick_1 ?_
  refine VF.lconst (v := 1) C dX5_tick_2 (by decide) ?_
  refine VF.ldc2 C (v := 99) wc_X5_148 dX5_tick_3 ?_
  refine VF.callSi C (As := [.long (Int32.toInt64 u1), .long (1 : Int64), .long (99 : Int64)]) (rest := []) lk_X5_40 (mtX5_in l D cI cZ (Int32.toInt64 u1) (1 : Int64) (99 : Int64)) (fun y => y) (fun _ => rfl) [none, none, none, none, none, none] ⟨rfl, rfl⟩ (ws' := fun y => [eM a0 a1 a2 a3 a4 a5 f0, eA cI 200 a1 f1, eA cI 5 a2 f2, eA cI 5 a3 f3, eA cI 306 a4 f4, eA cI 612 a5 f5]) (fun _ => ⟨rfl, rfl, rfl, rfl, rfl, rfl, trivial⟩) rfl rfl (Nat.le_of_ble_eq_true rfl) ⟨Nat.le_of_ble_eq_true rfl, Nat.le_of_ble_eq_true rfl⟩ dX5_tick_6 ⟨Nat.le_refl 0, Nat.le_refl 0⟩ (fun y1 => ?_)
  refine VF.if_ne C 14 dX5_tick_9 rfl (fun h1 => ?_) (fun h1 => ?_)
  · refine VF.iconst C dX5_tick_14 kc_0 ?_
    refine VF.istore_n C [1, 2, 0] dX5_tick_15 rfl (Nat.le_of_ble_eq_true rfl) (lv' := [(0, .ref a0), (1, .int u1), (2, .int 0)]) rfl ?_
    refine VF.iconst C dX5_tick_16 kc_0 ?_
    refine VF.istore_n C [1, 2, 3, 0] dX5_tick_17 rfl (Nat.le_of_ble_eq_true rfl) (lv' := [(0, .ref a0), (1, .int u1), (2, .int 0), (3, .int 0)]) rfl ?_
    exact k18 4096 u1 0 0 f4
  · refine VF.iconst C dX5_tick_12 kc_m1 ?_
    exact VF.iret C rfl rfl dX5_tick_13
set_option maxHeartbeats 4000000 in
set_option maxRecDepth 100000 in
theorem mtX5_at (l : Launch) (D : va_G) (cI cZ : ClassId) (a0 a1 a2 a3 a4 a5 : Nat) (f0 f1 f2 f3 f4 f5 : Fn) (u1 : Int32) : Ctr l yX5_at cX5_at 2 (some .int) 1 25 D cI cZ [.ref a0, .int u1] [eM a0 a1 a2 a3 a4 a5 f0, eA cI 200 a1 f1, eA cI 5 a2 f2, eA cI 5 a3 f3, eA cI 306 a4 f4, eA cI 612 a5 f5] (zX5_at f2 f4 u1) (fun y : Int32 => some (Value.int y)) (fun _ : Int32 => [eM a0 a1 a2 a3 a4 a5 f0, eA cI 200 a1 f1, eA cI 5 a2 f2, eA cI 5 a3 f3, eA cI 306 a4 f4, eA cI 612 a5 f5]) := by
  refine Ctr.of (by decide) (Nat.le_of_ble_eq_true rfl) ?_
  intro p e s m below meth c A C
  have C : CX p s m ([.ref a0, .int u1] : List Value).toArray meth c cX5_at 2 RX5 D cI cZ A (some .int) := C
  refine VF.lve (lv' := [(0, .ref a0), (1, .int u1)]) rfl ?_
  refine VF.eq (zX5_at.eq_1 f2 f4 u1) ?_
  refine VF.iload_n C 1 dX5_at_0 rfl ?_
  refine VF.i2l C dX5_at_1 ?_
  refine VF.lconst (v := 0) C dX5_at_2 (by decide) ?_
  refine VF.aload_n C 0 dX5_at_3 rfl ?_
  refine VF.callVi C (b := a0) (As := []) (rest := [.long (0 : Int64), .long (Int32.toInt64 u1)]) lk_X5_89 (mtX5_all l D cI cZ a0 a1 a2 a3 a4 a5 f0 f1 f2 f3 f4 f5) (fun y => y) (fun _ => rfl) [some 0, some 1, some 2, some 3, some 4, some 5] ⟨rfl, rfl⟩ (ws' := fun y => [eM a0 a1 a2 a3 a4 a5 f0, eA cI 200 a1 f1, eA cI 5 a2 f2, eA cI 5 a3 f3, eA cI 306 a4 f4, eA cI 612 a5 f5]) (fun _ => ⟨⟨rfl, rfl, rfl⟩, ⟨rfl, rfl, rfl⟩, ⟨rfl, rfl, rfl⟩, ⟨rfl, rfl, rfl⟩, ⟨rfl, rfl, rfl⟩, ⟨rfl, rfl, rfl⟩, trivial⟩) (ci := 5) rfl rfl rfl rfl (Nat.le_of_ble_eq_true rfl) ⟨Nat.le_of_ble_eq_true rfl, Nat.le_of_ble_eq_true rfl⟩ dX5_at_4 ⟨Nat.le_refl 0, Nat.le_refl 0⟩ (fun y1 => ?_)
  refine VF.iconst C dX5_at_7 kc_1 ?_
  refine VF.isub C dX5_at_8 ?_
  refine VF.i2l C dX5_at_9 ?_
  refine VF.callSi C (As := [.long (Int32.toInt64 u1), .long (0 : Int64), .long (Int32.toInt64 (y1 - 1))]) (rest := []) lk_X5_40 (mtX5_in l D cI cZ (Int32.toInt64 u1) (0 : Int64) (Int32.toInt64 (y1 - 1))) (fun y => y) (fun _ => rfl) [none, none, none, none, none, none] ⟨rfl, rfl⟩ (ws' := fun y => [eM a0 a1 a2 a3 a4 a5 f0, eA cI 200 a1 f1, eA cI 5 a2 f2, eA cI 5 a3 f3, eA cI 306 a4 f4, eA cI 612 a5 f5]) (fun _ => ⟨rfl, rfl, rfl, rfl, rfl, rfl, trivial⟩) rfl rfl (Nat.le_of_ble_eq_true rfl) ⟨Nat.le_of_ble_eq_true rfl, Nat.le_of_ble_eq_true rfl⟩ dX5_at_10 ⟨Nat.le_refl 0, Nat.le_refl 0⟩ (fun y2 => ?_)
  refine VF.if_eq C 25 dX5_at_13 rfl (fun h1 => ?_) (fun h1 => ?_)
  · refine VF.iconst C dX5_at_25 kc_m1 ?_
    exact VF.iret C rfl rfl dX5_at_26
  · refine VF.aload_n C 0 dX5_at_16 rfl ?_
    refine VF.get C fl_X5_19 0 rfl rfl dX5_at_17 ?_
    refine VF.iload_n C 1 dX5_at_20 rfl ?_
    refine VF.iald C 4 rfl dX5_at_21 ?_
    refine VF.goto C 26 dX5_at_22 rfl ?_
    exact VF.iret C rfl rfl dX5_at_26
set_option maxHeartbeats 4000000 in
set_option maxRecDepth 100000 in
theorem mtX5_sector (l : Launch) (D : va_G) (cI cZ : ClassId) (a0 a1 a2 a3 a4 a5 : Nat) (f0 f1 f2 f3 f4 f5 : Fn) (u1 : Int32) (u2 : Int32) : Ctr l yX5_sector cX5_sector 6 (some .int) 1 25 D cI cZ [.ref a0, .int u1, .int u2] [eM a0 a1 a2 a3 a4 a5 f0, eA cI 200 a1 f1, eA cI 5 a2 f2, eA cI 5 a3 f3, eA cI 306 a4 f4, eA cI 612 a5 f5] (zX5_sector f2 f4 u1 u2) (fun y : Int32 => some (Value.int y)) (fun _ : Int32 => [eM a0 a1 a2 a3 a4 a5 f0, eA cI 200 a1 f1, eA cI 5 a2 f2, eA cI 5 a3 f3, eA cI 306 a4 f4, eA cI 612 a5 f5]) := by
  refine Ctr.of (by decide) (Nat.le_of_ble_eq_true rfl) ?_
  intro p e s m below meth c A C
  have C : CX p s m ([.ref a0, .int u1, .int u2] : List Value).toArray meth c cX5_sector 6 RX5 D cI cZ A (some .int) := C
  have k152 : ∀ (x1 : Int32) (x2 : Int32) (x3 : Int32) (x4 : Int32) (t0 : Int32), VF p l e { frames := 1, cells := 0, slots := 0, locals := 25 } s m ([.ref a0, .int u1, .int u2] : List Value).toArray below meth c 0 0 D A 6 (fun r => MQ below (QcX ((fun y : Int32 => some (Value.int y)) r) D ((fun _ : Int32 => [eM a0 a1 a2 a3 a4 a5 f0, eA cI 200 a1 f1, eA cI 5 a2 f2, eA cI 5 a3 f3, eA cI 306 a4 f4, eA cI 612 a5 f5]) r) A) ([.ref a0, .int u1, .int u2] : List Value).toArray s 0 0 A) (zX5_sector_k152 f2 f4 x1 x2 x3 x4 t0) [eM a0 a1 a2 a3 a4 a5 f0, eA cI 200 a1 f1, eA cI 5 a2 f2, eA cI 5 a3 f3, eA cI 306 a4 f4, eA cI 612 a5 f5] 152 [(0, .ref a0), (1, .int x1), (2, .int x2), (3, .int x3), (4, .int x4)] [.int t0] := by
    intro x1 x2 x3 x4 t0
    refine VF.eq (zX5_sector_k152.eq_1 f2 f4 x1 x2 x3 x4 t0) ?_
    refine VF.istore C [1, 2, 3, 4, 5, 0] dX5_sector_152 (Nat.le_of_ble_eq_true rfl) (lv' := [(0, .ref a0), (1, .int x1), (2, .int x2), (3, .int x3), (4, .int x4), (5, .int t0)]) rfl ?_
    refine VF.iload_n C 2 dX5_sector_154 rfl ?_
    refine VF.if_ne C 162 dX5_sector_155 rfl (fun h8 => ?_) (fun h8 => ?_)
    · refine VF.iload_n C 2 dX5_sector_162 rfl ?_
      refine VF.iconst C dX5_sector_163 kc_1 ?_
      refine VF.icmp_ne C 172 dX5_sector_164 rfl (fun h9 => ?_) (fun h9 => ?_)
      · refine VF.iload_n C 2 dX5_sector_172 rfl ?_
        refine VF.iconst C dX5_sector_173 kc_2 ?_
        refine VF.icmp_ne C 192 dX5_sector_174 rfl (fun h10 => ?_) (fun h10 => ?_)
        · refine VF.iload_n C 2 dX5_sector_192 rfl ?_
          refine VF.iconst C dX5_sector_193 kc_3 ?_
          refine VF.icmp_ne C 213 dX5_sector_194 rfl (fun h11 => ?_) (fun h11 => ?_)
          · refine VF.iload C 5 dX5_sector_213 rfl ?_
            refine VF.if_eq C 222 dX5_sector_215 rfl (fun h12 => ?_) (fun h12 => ?_)
            · refine VF.iconst C dX5_sector_222 kc_0 ?_
              exact VF.iret C rfl rfl dX5_sector_223
            · refine VF.iconst C dX5_sector_218 kc_1 ?_
              refine VF.goto C 223 dX5_sector_219 rfl ?_
              exact VF.iret C rfl rfl dX5_sector_223
          · refine VF.aload_n C 0 dX5_sector_197 rfl ?_
            refine VF.iload_n C 1 dX5_sector_198 rfl ?_
            refine VF.callVi C (b := a0) (As := [.int x1]) (rest := []) lk_X5_107 (mtX5_isGuarded l D cI cZ a0 a1 a2 a3 a4 a5 f0 f1 f2 f3 f4 f5 x1) (fun y => y) (fun _ => rfl) [some 0, some 1, some 2, some 3, some 4, some 5] ⟨rfl, rfl⟩ (ws' := fun y => [eM a0 a1 a2 a3 a4 a5 f0, eA cI 200 a1 f1, eA cI 5 a2 f2, eA cI 5 a3 f3, eA cI 306 a4 f4, eA cI 612 a5 f5]) (fun _ => ⟨⟨rfl, rfl, rfl⟩, ⟨rfl, rfl, rfl⟩, ⟨rfl, rfl, rfl⟩, ⟨rfl, rfl, rfl⟩, ⟨rfl, rfl, rfl⟩, ⟨rfl, rfl, rfl⟩, trivial⟩) (ci := 5) rfl rfl rfl rfl (Nat.le_of_ble_eq_true rfl) ⟨Nat.le_of_ble_eq_true rfl, Nat.le_of_ble_eq_true rfl⟩ dX5_sector_199 ⟨Nat.le_refl 0, Nat.le_refl 0⟩ (fun y5 => ?_)
            refine VF.if_eq C 209 dX5_sector_202 rfl (fun h13 => ?_) (fun h13 => ?_)
            · refine VF.iconst C dX5_sector_209 kc_0 ?_
              refine VF.goto C 223 dX5_sector_210 rfl ?_
              exact VF.iret C rfl rfl dX5_sector_223
            · refine VF.iconst C dX5_sector_205 kc_1 ?_
              refine VF.goto C 223 dX5_sector_206 rfl ?_
              exact VF.iret C rfl rfl dX5_sector_223
        · refine VF.aload_n C 0 dX5_sector_177 rfl ?_
          refine VF.get C fl_X5_19 0 rfl rfl dX5_sector_178 ?_
          refine VF.sipush C dX5_sector_181 ks_288 ?_
          refine VF.ialdK C 4 288 li_288 (Nat.le_of_ble_eq_true rfl) (Nat.le_of_ble_eq_true rfl) rfl dX5_sector_184 ?_
          refine VF.iload_n C 1 dX5_sector_185 rfl ?_
          refine VF.ishr C dX5_sector_186 ?_
          refine VF.iconst C dX5_sector_187 kc_1 ?_
          refine VF.iand C dX5_sector_188 ?_
          refine VF.goto C 223 dX5_sector_189 rfl ?_
          exact VF.iret C rfl rfl dX5_sector_223
      · refine VF.iload C 4 dX5_sector_167 rfl ?_
        refine VF.goto C 223 dX5_sector_169 rfl ?_
        exact VF.iret C rfl rfl dX5_sector_223
    · refine VF.iload_n C 3 dX5_sector_158 rfl ?_
      refine VF.goto C 223 dX5_sector_159 rfl ?_
      exact VF.iret C rfl rfl dX5_sector_223
  have k133 : ∀ (x1 : Int32) (x2 : Int32) (x3 : Int32) (x4 : Int32), VF p l e { frames := 1, cells := 0, slots := 0, locals := 25 } s m ([.ref a0, .int u1, .int u2] : List Value).toArray below meth c 0 0 D A 6 (fun r => MQ below (QcX ((fun y : Int32 => some (Value.int y)) r) D ((fun _ : Int32 => [eM a0 a1 a2 a3 a4 a5 f0, eA cI 200 a1 f1, eA cI 5 a2 f2, eA cI 5 a3 f3, eA cI 306 a4 f4, eA cI 612 a5 f5]) r) A) ([.ref a0, .int u1, .int u2] : List Value).toArray s 0 0 A) (zX5_sector_k133 f2 f4 x1 x2 x3 x4) [eM a0 a1 a2 a3 a4 a5 f0, eA cI 200 a1 f1, eA cI 5 a2 f2, eA cI 5 a3 f3, eA cI 306 a4 f4, eA cI 612 a5 f5] 133 [(0, .ref a0), (1, .int x1), (2, .int x2), (3, .int x3), (4, .int x4)] [] := by
    intro x1 x2 x3 x4
    refine VF.eq (zX5_sector_k133.eq_1 f2 f4 x1 x2 x3 x4) ?_
    refine VF.aload_n C 0 dX5_sector_133 rfl ?_
    refine VF.get C fl_X5_19 0 rfl rfl dX5_sector_134 ?_
    refine VF.sipush C dX5_sector_137 ks_296 ?_
    refine VF.ialdK C 4 296 li_296 (Nat.le_of_ble_eq_true rfl) (Nat.le_of_ble_eq_true rfl) rfl dX5_sector_140 ?_
    refine VF.iload_n C 1 dX5_sector_141 rfl ?_
    refine VF.iconst C dX5_sector_142 kc_1 ?_
    refine VF.iadd C dX5_sector_143 ?_
    refine VF.icmp_ne C 151 dX5_sector_144 rfl (fun h14 => ?_) (fun h14 => ?_)
    · refine VF.iconst C dX5_sector_151 kc_0 ?_
      exact k152 x1 x2 x3 x4 0
    · refine VF.iconst C dX5_sector_147 kc_1 ?_
      refine VF.goto C 152 dX5_sector_148 rfl ?_
      exact k152 x1 x2 x3 x4 1
  have k45 : ∀ (n : Nat) (x1 : Int32) (x2 : Int32) (x3 : Int32) (x4 : Int32) (x5 : Int32), VF p l e { frames := 1, cells := 0, slots := 0, locals := 25 } s m ([.ref a0, .int u1, .int u2] : List Value).toArray below meth c 0 0 D A 6 (fun r => MQ below (QcX ((fun y : Int32 => some (Value.int y)) r) D ((fun _ : Int32 => [eM a0 a1 a2 a3 a4 a5 f0, eA cI 200 a1 f1, eA cI 5 a2 f2, eA cI 5 a3 f3, eA cI 306 a4 f4, eA cI 612 a5 f5]) r) A) ([.ref a0, .int u1, .int u2] : List Value).toArray s 0 0 A) (zX5_sector_k45 n f2 f4 x1 x2 x3 x4 x5) [eM a0 a1 a2 a3 a4 a5 f0, eA cI 200 a1 f1, eA cI 5 a2 f2, eA cI 5 a3 f3, eA cI 306 a4 f4, eA cI 612 a5 f5] 45 [(0, .ref a0), (1, .int x1), (2, .int x2), (3, .int x3), (4, .int x4), (5, .int x5)] [] := by
    intro n
    induction n with
    | zero =>
      intro x1 x2 x3 x4 x5
      exact VF.eq (zX5_sector_k45.eq_1 _ _ _ _ _ _ _) VF.nn
    | succ n ih =>
      intro x1 x2 x3 x4 x5
      refine VF.eq (zX5_sector_k45.eq_2 _ _ _ _ _ _ _ _) ?_
      refine VF.iload C 5 dX5_sector_45 rfl ?_
      refine VF.iload_n C 1 dX5_sector_47 rfl ?_
      refine VF.iconst C dX5_sector_48 kc_1 ?_
      refine VF.iadd C dX5_sector_49 ?_
      refine VF.aload_n C 0 dX5_sector_50 rfl ?_
      refine VF.callVi C (b := a0) (As := []) (rest := [.int (x1 + 1), .int x5]) lk_X5_110 (mtX5_sectorSize l D cI cZ a0 a1 a2 a3 a4 a5 f0 f1 f2 f3 f4 f5) (fun y => y) (fun _ => rfl) [some 0, some 1, some 2, some 3, some 4, some 5] ⟨rfl, rfl⟩ (ws' := fun y => [eM a0 a1 a2 a3 a4 a5 f0, eA cI 200 a1 f1, eA cI 5 a2 f2, eA cI 5 a3 f3, eA cI 306 a4 f4, eA cI 612 a5 f5]) (fun _ => ⟨⟨rfl, rfl, rfl⟩, ⟨rfl, rfl, rfl⟩, ⟨rfl, rfl, rfl⟩, ⟨rfl, rfl, rfl⟩, ⟨rfl, rfl, rfl⟩, ⟨rfl, rfl, rfl⟩, trivial⟩) (ci := 5) rfl rfl rfl rfl (Nat.le_of_ble_eq_true rfl) ⟨Nat.le_of_ble_eq_true rfl, Nat.le_of_ble_eq_true rfl⟩ dX5_sector_51 ⟨Nat.le_refl 0, Nat.le_refl 0⟩ (fun y4 => ?_)
      refine VF.imul C dX5_sector_54 ?_
      refine VF.icmp_ge C 97 dX5_sector_55 rfl (fun h3 => ?_) (fun h3 => ?_)
      · refine VF.aload_n C 0 dX5_sector_97 rfl ?_
        refine VF.get C fl_X5_19 0 rfl rfl dX5_sector_98 ?_
        refine VF.sipush C dX5_sector_101 ks_293 ?_
        refine VF.ialdK C 4 293 li_293 (Nat.le_of_ble_eq_true rfl) (Nat.le_of_ble_eq_true rfl) rfl dX5_sector_104 ?_
        refine VF.iconst C dX5_sector_105 kc_3 ?_
        refine VF.icmp_eq C 147 dX5_sector_106 rfl (fun h4 => ?_) (fun h4 => ?_)
        · refine VF.iconst C dX5_sector_147 kc_1 ?_
          refine VF.goto C 152 dX5_sector_148 rfl ?_
          exact VF.lvs [0, 1, 2, 3, 4] rfl (k152 x1 x2 x3 x4 1)
        · refine VF.aload_n C 0 dX5_sector_109 rfl ?_
          refine VF.get C fl_X5_19 0 rfl rfl dX5_sector_110 ?_
          refine VF.sipush C dX5_sector_113 ks_293 ?_
          refine VF.ialdK C 4 293 li_293 (Nat.le_of_ble_eq_true rfl) (Nat.le_of_ble_eq_true rfl) rfl dX5_sector_116 ?_
          refine VF.iconst C dX5_sector_117 kc_2 ?_
          refine VF.icmp_ne C 133 dX5_sector_118 rfl (fun h5 => ?_) (fun h5 => ?_)
          · exact VF.lvs [0, 1, 2, 3, 4] rfl (k133 x1 x2 x3 x4)
          · refine VF.aload_n C 0 dX5_sector_121 rfl ?_
            refine VF.get C fl_X5_19 0 rfl rfl dX5_sector_122 ?_
            refine VF.sipush C dX5_sector_125 ks_294 ?_
            refine VF.ialdK C 4 294 li_294 (Nat.le_of_ble_eq_true rfl) (Nat.le_of_ble_eq_true rfl) rfl dX5_sector_128 ?_
            refine VF.iload_n C 1 dX5_sector_129 rfl ?_
            refine VF.icmp_eq C 147 dX5_sector_130 rfl (fun h6 => ?_) (fun h6 => ?_)
            · refine VF.iconst C dX5_sector_147 kc_1 ?_
              refine VF.goto C 152 dX5_sector_148 rfl ?_
              exact VF.lvs [0, 1, 2, 3, 4] rfl (k152 x1 x2 x3 x4 1)
            · exact VF.lvs [0, 1, 2, 3, 4] rfl (k133 x1 x2 x3 x4)
      · refine VF.iload_n C 3 dX5_sector_58 rfl ?_
        refine VF.aload_n C 0 dX5_sector_59 rfl ?_
        refine VF.get C fl_X5_19 0 rfl rfl dX5_sector_60 ?_
        refine VF.iload C 5 dX5_sector_63 rfl ?_
        refine VF.iald C 4 rfl dX5_sector_65 ?_
        refine VF.sipush C dX5_sector_66 ks_255 ?_
        refine VF.icmp_ne C 76 dX5_sector_69 rfl (fun h7 => ?_) (fun h7 => ?_)
        · refine VF.iconst C dX5_sector_76 kc_0 ?_
          refine VF.iadd C dX5_sector_77 ?_
          refine VF.istore_n C [1, 2, 3, 0, 4, 5] dX5_sector_78 rfl (Nat.le_of_ble_eq_true rfl) (lv' := [(0, .ref a0), (1, .int x1), (2, .int x2), (3, .int (x3 + 0)), (4, .int x4), (5, .int x5)]) rfl ?_
          refine VF.iload C 4 dX5_sector_79 rfl ?_
          refine VF.aload_n C 0 dX5_sector_81 rfl ?_
          refine VF.get C fl_X5_19 0 rfl rfl dX5_sector_82 ?_
          refine VF.iload C 5 dX5_sector_85 rfl ?_
          refine VF.iald C 4 rfl dX5_sector_87 ?_
          refine VF.iadd C dX5_sector_88 ?_
          refine VF.istore C [1, 2, 3, 4, 0, 5] dX5_sector_89 (Nat.le_of_ble_eq_true rfl) (lv' := [(0, .ref a0), (1, .int x1), (2, .int x2), (3, .int (x3 + 0)), (4, .int (x4 + (f4 (ix x5)))), (5, .int x5)]) rfl ?_
          refine VF.iinc C 5 [1, 2, 3, 4, 5, 0] dX5_sector_91 rfl (v := (x5 + 1)) rfl (Nat.le_of_ble_eq_true rfl) (lv' := [(0, .ref a0), (1, .int x1), (2, .int x2), (3, .int (x3 + 0)), (4, .int (x4 + (f4 (ix x5)))), (5, .int (x5 + 1))]) rfl ?_
          refine VF.goto C 45 dX5_sector_94 rfl ?_
          exact ih x1 x2 (x3 + 0) (x4 + (f4 (ix x5))) (x5 + 1)
        · refine VF.iconst C dX5_sector_72 kc_1 ?_
          refine VF.goto C 77 dX5_sector_73 rfl ?_
          refine VF.iadd C dX5_sector_77 ?_
          refine VF.istore_n C [1, 2, 3, 0, 4, 5] dX5_sector_78 rfl (Nat.le_of_ble_eq_true rfl) (lv' := [(0, .ref a0), (1, .int x1), (2, .int x2), (3, .int (x3 + 1)), (4, .int x4), (5, .int x5)]) rfl ?_
          refine VF.iload C 4 dX5_sector_79 rfl ?_
          refine VF.aload_n C 0 dX5_sector_81 rfl ?_
          refine VF.get C fl_X5_19 0 rfl rfl dX5_sector_82 ?_
          refine VF.iload C 5 dX5_sector_85 rfl ?_
          refine VF.iald C 4 rfl dX5_sector_87 ?_
          refine VF.iadd C dX5_sector_88 ?_
          refine VF.istore C [1, 2, 3, 4, 0, 5] dX5_sector_89 (Nat.le_of_ble_eq_true rfl) (lv' := [(0, .ref a0), (1, .int x1), (2, .int x2), (3, .int (x3 + 1)), (4, .int (x4 + (f4 (ix x5)))), (5, .int x5)]) rfl ?_
          refine VF.iinc C 5 [1, 2, 3, 4, 5, 0] dX5_sector_91 rfl (v := (x5 + 1)) rfl (Nat.le_of_ble_eq_true rfl) (lv' := [(0, .ref a0), (1, .int x1), (2, .int x2), (3, .int (x3 + 1)), (4, .int (x4 + (f4 (ix x5)))), (5, .int (x5 + 1))]) rfl ?_
          refine VF.goto C 45 dX5_sector_94 rfl ?_
          exact ih x1 x2 (x3 + 1) (x4 + (f4 (ix x5))) (x5 + 1)
  refine VF.lve (lv' := [(0, .ref a0), (1, .int u1), (2, .int u2)]) rfl ?_
  refine VF.eq (zX5_sector.eq_1 f2 f4 u1 u2) ?_
  refine VF.iload_n C 1 dX5_sector_0 rfl ?_
  refine VF.i2l C dX5_sector_1 ?_
  refine VF.lconst (v := 0) C dX5_sector_2 (by decide) ?_
  refine VF.aload_n C 0 dX5_sector_3 rfl ?_
  refine VF.get C fl_X5_13 0 rfl rfl dX5_sector_4 ?_
  refine VF.iconst C dX5_sector_7 kc_2 ?_
  refine VF.ialdK C 2 2 li_2 (Nat.le_of_ble_eq_true rfl) (Nat.le_of_ble_eq_true rfl) rfl dX5_sector_8 ?_
  refine VF.iconst C dX5_sector_9 kc_1 ?_
  refine VF.isub C dX5_sector_10 ?_
  refine VF.i2l C dX5_sector_11 ?_
  refine VF.callSi C (As := [.long (Int32.toInt64 u1), .long (0 : Int64), .long (Int32.toInt64 ((f2 2) - 1))]) (rest := []) lk_X5_40 (mtX5_in l D cI cZ (Int32.toInt64 u1) (0 : Int64) (Int32.toInt64 ((f2 2) - 1))) (fun y => y) (fun _ => rfl) [none, none, none, none, none, none] ⟨rfl, rfl⟩ (ws' := fun y => [eM a0 a1 a2 a3 a4 a5 f0, eA cI 200 a1 f1, eA cI 5 a2 f2, eA cI 5 a3 f3, eA cI 306 a4 f4, eA cI 612 a5 f5]) (fun _ => ⟨rfl, rfl, rfl, rfl, rfl, rfl, trivial⟩) rfl rfl (Nat.le_of_ble_eq_true rfl) ⟨Nat.le_of_ble_eq_true rfl, Nat.le_of_ble_eq_true rfl⟩ dX5_sector_12 ⟨Nat.le_refl 0, Nat.le_refl 0⟩ (fun y1 => ?_)
  refine VF.if_eq C 30 dX5_sector_15 rfl (fun h1 => ?_) (fun h1 => ?_)
  · refine VF.iconst C dX5_sector_30 kc_m1 ?_
    exact VF.iret C rfl rfl dX5_sector_31
  · refine VF.iload_n C 2 dX5_sector_18 rfl ?_
    refine VF.i2l C dX5_sector_19 ?_
    refine VF.lconst (v := 0) C dX5_sector_20 (by decide) ?_
    refine VF.ldc2 C (v := 4) wc_X5_153 dX5_sector_21 ?_
    refine VF.callSi C (As := [.long (Int32.toInt64 u2), .long (0 : Int64), .long (4 : Int64)]) (rest := []) lk_X5_40 (mtX5_in l D cI cZ (Int32.toInt64 u2) (0 : Int64) (4 : Int64)) (fun y => y) (fun _ => rfl) [none, none, none, none, none, none] ⟨rfl, rfl⟩ (ws' := fun y => [eM a0 a1 a2 a3 a4 a5 f0, eA cI 200 a1 f1, eA cI 5 a2 f2, eA cI 5 a3 f3, eA cI 306 a4 f4, eA cI 612 a5 f5]) (fun _ => ⟨rfl, rfl, rfl, rfl, rfl, rfl, trivial⟩) rfl rfl (Nat.le_of_ble_eq_true rfl) ⟨Nat.le_of_ble_eq_true rfl, Nat.le_of_ble_eq_true rfl⟩ dX5_sector_24 ⟨Nat.le_refl 0, Nat.le_refl 0⟩ (fun y2 => ?_)
    refine VF.if_ne C 32 dX5_sector_27 rfl (fun h2 => ?_) (fun h2 => ?_)
    · refine VF.iconst C dX5_sector_32 kc_0 ?_
      refine VF.istore_n C [1, 2, 3, 0] dX5_sector_33 rfl (Nat.le_of_ble_eq_true rfl) (lv' := [(0, .ref a0), (1, .int u1), (2, .int u2), (3, .int 0)]) rfl ?_
      refine VF.iconst C dX5_sector_34 kc_0 ?_
      refine VF.istore C [1, 2, 3, 4, 0] dX5_sector_35 (Nat.le_of_ble_eq_true rfl) (lv' := [(0, .ref a0), (1, .int u1), (2, .int u2), (3, .int 0), (4, .int 0)]) rfl ?_
      refine VF.iload_n C 1 dX5_sector_37 rfl ?_
      refine VF.aload_n C 0 dX5_sector_38 rfl ?_
      refine VF.callVi C (b := a0) (As := []) (rest := [.int u1]) lk_X5_110 (mtX5_sectorSize l D cI cZ a0 a1 a2 a3 a4 a5 f0 f1 f2 f3 f4 f5) (fun y => y) (fun _ => rfl) [some 0, some 1, some 2, some 3, some 4, some 5] ⟨rfl, rfl⟩ (ws' := fun y => [eM a0 a1 a2 a3 a4 a5 f0, eA cI 200 a1 f1, eA cI 5 a2 f2, eA cI 5 a3 f3, eA cI 306 a4 f4, eA cI 612 a5 f5]) (fun _ => ⟨⟨rfl, rfl, rfl⟩, ⟨rfl, rfl, rfl⟩, ⟨rfl, rfl, rfl⟩, ⟨rfl, rfl, rfl⟩, ⟨rfl, rfl, rfl⟩, ⟨rfl, rfl, rfl⟩, trivial⟩) (ci := 5) rfl rfl rfl rfl (Nat.le_of_ble_eq_true rfl) ⟨Nat.le_of_ble_eq_true rfl, Nat.le_of_ble_eq_true rfl⟩ dX5_sector_39 ⟨Nat.le_refl 0, Nat.le_refl 0⟩ (fun y3 => ?_)
      refine VF.imul C dX5_sector_42 ?_
      refine VF.istore C [1, 2, 3, 4, 5, 0] dX5_sector_43 (Nat.le_of_ble_eq_true rfl) (lv' := [(0, .ref a0), (1, .int u1), (2, .int u2), (3, .int 0), (4, .int 0), (5, .int (u1 * y3))]) rfl ?_
      exact k45 4096 u1 u2 0 0 (u1 * y3)
    · refine VF.iconst C dX5_sector_30 kc_m1 ?_
      exact VF.iret C rfl rfl dX5_sector_31
set_option maxHeartbeats 4000000 in
set_option maxRecDepth 100000 in
theorem mtX5_table (l : Launch) (D : va_G) (cI cZ : ClassId) (a0 a1 a2 a3 a4 a5 : Nat) (f0 f1 f2 f3 f4 f5 : Fn) (u1 : Int32) : Ctr l yX5_table cX5_table 2 (some .int) 2 41 D cI cZ [.ref a0, .int u1] [eM a0 a1 a2 a3 a4 a5 f0, eA cI 200 a1 f1, eA cI 5 a2 f2, eA cI 5 a3 f3, eA cI 306 a4 f4, eA cI 612 a5 f5] (zX5_table f2 u1) (fun y : Int32 => some (Value.int y)) (fun _ : Int32 => [eM a0 a1 a2 a3 a4 a5 f0, eA cI 200 a1 f1, eA cI 5 a2 f2, eA cI 5 a3 f3, eA cI 306 a4 f4, eA cI 612 a5 f5]) := by
  refine Ctr.of (by decide) (Nat.le_of_ble_eq_true rfl) ?_
  intro p e s m below meth c A C
  have C : CX p s m ([.ref a0, .int u1] : List Value).toArray meth c cX5_table 2 RX5 D cI cZ A (some .int) := C
  refine VF.lve (lv' := [(0, .ref a0), (1, .int u1)]) rfl ?_
  refine VF.eq (zX5_table.eq_1 f2 u1) ?_
  refine VF.iload_n C 1 dX5_table_0 rfl ?_
  refine VF.i2l C dX5_table_1 ?_
  refine VF.lconst (v := 0) C dX5_table_2 (by decide) ?_
  refine VF.ldc2 C (v := 7) wc_X5_155 dX5_table_3 ?_
  refine VF.callSi C (As := [.long (Int32.toInt64 u1), .long (0 : Int64), .long (7 : Int64)]) (rest := []) lk_X5_40 (mtX5_in l D cI cZ (Int32.toInt64 u1) (0 : Int64) (7 : Int64)) (fun y => y) (fun _ => rfl) [none, none, none, none, none, none] ⟨rfl, rfl⟩ (ws' := fun y => [eM a0 a1 a2 a3 a4 a5 f0, eA cI 200 a1 f1, eA cI 5 a2 f2, eA cI 5 a3 f3, eA cI 306 a4 f4, eA cI 612 a5 f5]) (fun _ => ⟨rfl, rfl, rfl, rfl, rfl, rfl, trivial⟩) rfl rfl (Nat.le_of_ble_eq_true rfl) ⟨Nat.le_of_ble_eq_true rfl, Nat.le_of_ble_eq_true rfl⟩ dX5_table_6 ⟨Nat.le_refl 0, Nat.le_refl 0⟩ (fun y1 => ?_)
  refine VF.if_eq C 20 dX5_table_9 rfl (fun h1 => ?_) (fun h1 => ?_)
  · refine VF.iconst C dX5_table_20 kc_m1 ?_
    exact VF.iret C rfl rfl dX5_table_21
  · refine VF.aload_n C 0 dX5_table_12 rfl ?_
    refine VF.iload_n C 1 dX5_table_13 rfl ?_
    refine VF.callVi C (b := a0) (As := [.int u1]) (rest := []) lk_X5_95 (mtX5_tableAt l D cI cZ a0 a1 a2 a3 a4 a5 f0 f1 f2 f3 f4 f5 u1) (fun y => y) (fun _ => rfl) [some 0, some 1, some 2, some 3, some 4, some 5] ⟨rfl, rfl⟩ (ws' := fun y => [eM a0 a1 a2 a3 a4 a5 f0, eA cI 200 a1 f1, eA cI 5 a2 f2, eA cI 5 a3 f3, eA cI 306 a4 f4, eA cI 612 a5 f5]) (fun _ => ⟨⟨rfl, rfl, rfl⟩, ⟨rfl, rfl, rfl⟩, ⟨rfl, rfl, rfl⟩, ⟨rfl, rfl, rfl⟩, ⟨rfl, rfl, rfl⟩, ⟨rfl, rfl, rfl⟩, trivial⟩) (ci := 5) rfl rfl rfl rfl (Nat.le_of_ble_eq_true rfl) ⟨Nat.le_of_ble_eq_true rfl, Nat.le_of_ble_eq_true rfl⟩ dX5_table_14 ⟨Nat.le_refl 0, Nat.le_refl 0⟩ (fun y2 => ?_)
    refine VF.goto C 21 dX5_table_17 rfl ?_
    exact VF.iret C rfl rfl dX5_table_21
set_option maxHeartbeats 4000000 in
set_option maxRecDepth 100000 in
theorem mtX5_keep (l : Launch) (D : va_G) (cI cZ : ClassId) (a0 a1 a2 a3 a4 a5 : Nat) (f0 f1 f2 f3 f4 f5 : Fn) : Ctr l yX5_keep cX5_keep 2 (some .int) 0 0 D cI cZ [.ref a0] [eM a0 a1 a2 a3 a4 a5 f0, eA cI 200 a1 f1, eA cI 5 a2 f2, eA cI 5 a3 f3, eA cI 306 a4 f4, eA cI 612 a5 f5] (zX5_keep f0 f4 f5) (fun y : Int32 × Fn × Fn => some (Value.int y.1)) (fun y : Int32 × Fn × Fn => [eM a0 a1 a2 a3 a4 a5 y.2.1, eA cI 200 a1 f1, eA cI 5 a2 f2, eA cI 5 a3 f3, eA cI 306 a4 f4, eA cI 612 a5 y.2.2]) := by
  refine Ctr.of (by decide) (Nat.le_of_ble_eq_true rfl) ?_
  intro p e s m below meth c A C
  have C : CX p s m ([.ref a0] : List Value).toArray meth c cX5_keep 2 RX5 D cI cZ A (some .int) := C
  have k13 : ∀ (n : Nat) (x1 : Int32) (f0 : Fn) (f5 : Fn), VF p l e { frames := 0, cells := 0, slots := 0, locals := 0 } s m ([.ref a0] : List Value).toArray below meth c 0 0 D A 2 (fun r => MQ below (QcX ((fun y : Int32 × Fn × Fn => some (Value.int y.1)) r) D ((fun y : Int32 × Fn × Fn => [eM a0 a1 a2 a3 a4 a5 y.2.1, eA cI 200 a1 f1, eA cI 5 a2 f2, eA cI 5 a3 f3, eA cI 306 a4 f4, eA cI 612 a5 y.2.2]) r) A) ([.ref a0] : List Value).toArray s 0 0 A) (zX5_keep_k13 n f0 f4 f5 x1) [eM a0 a1 a2 a3 a4 a5 f0, eA cI 200 a1 f1, eA cI 5 a2 f2, eA cI 5 a3 f3, eA cI 306 a4 f4, eA cI 612 a5 f5] 13 [(0, .ref a0), (1, .int x1)] [] := by
    intro n
    induction n with
    | zero =>
      intro x1 f0 f5
      exact VF.eq (zX5_keep_k13.eq_1 _ _ _ _) VF.nn
    | succ n ih =>
      intro x1 f0 f5
      refine VF.eq (zX5_keep_k13.eq_2 _ _ _ _ _) ?_
      refine VF.iload_n C 1 dX5_keep_13 rfl ?_
      refine VF.sipush C dX5_keep_14 ks_306 ?_
      refine VF.icmp_ge C 47 dX5_keep_17 rfl (fun h2 => ?_) (fun h2 => ?_)
      · refine VF.aload_n C 0 dX5_keep_47 rfl ?_
        refine VF.dup C dX5_keep_48 rfl ?_
        refine VF.get C fl_X5_32 0 rfl rfl dX5_keep_49 ?_
        refine VF.iconst C dX5_keep_52 kc_1 ?_
        refine VF.iadd C dX5_keep_53 ?_
        refine VF.put C fl_X5_32 tyX5 tyX5_ok nmX5 0 rfl rfl rfl (Nat.le_of_ble_eq_true rfl) (ws' := [eM a0 a1 a2 a3 a4 a5 (upd f0 8 ((f0 8) + 1)), eA cI 200 a1 f1, eA cI 5 a2 f2, eA cI 5 a3 f3, eA cI 306 a4 f4, eA cI 612 a5 f5]) rfl dX5_keep_54 ?_
        refine VF.aload_n C 0 dX5_keep_57 rfl ?_
        refine VF.get C fl_X5_32 0 rfl rfl dX5_keep_58 ?_
        exact VF.iret C rfl rfl dX5_keep_61
      · refine VF.aload_n C 0 dX5_keep_20 rfl ?_
        refine VF.get C fl_X5_22 0 rfl rfl dX5_keep_21 ?_
        refine VF.sipush C dX5_keep_24 ks_306 ?_
        refine VF.aload_n C 0 dX5_keep_27 rfl ?_
        refine VF.get C fl_X5_32 0 rfl rfl dX5_keep_28 ?_
        refine VF.imul C dX5_keep_31 ?_
        refine VF.iload_n C 1 dX5_keep_32 rfl ?_
        refine VF.iadd C dX5_keep_33 ?_
        refine VF.aload_n C 0 dX5_keep_34 rfl ?_
        refine VF.get C fl_X5_19 0 rfl rfl dX5_keep_35 ?_
        refine VF.iload_n C 1 dX5_keep_38 rfl ?_
        refine VF.iald C 4 rfl dX5_keep_39 ?_
        refine VF.iast C 5 rfl (ws' := [eM a0 a1 a2 a3 a4 a5 f0, eA cI 200 a1 f1, eA cI 5 a2 f2, eA cI 5 a3 f3, eA cI 306 a4 f4, eA cI 612 a5 (upd f5 (ix ((306 * (f0 8)) + x1)) (f4 (ix x1)))]) rfl dX5_keep_40 ?_
        refine VF.iinc C 1 [1, 0] dX5_keep_41 rfl (v := (x1 + 1)) rfl (Nat.le_of_ble_eq_true rfl) (lv' := [(0, .ref a0), (1, .int (x1 + 1))]) rfl ?_
        refine VF.goto C 13 dX5_keep_44 rfl ?_
        exact ih (x1 + 1) f0 (upd f5 (ix ((306 * (f0 8)) + x1)) (f4 (ix x1)))
  refine VF.lve (lv' := [(0, .ref a0)]) rfl ?_
  refine VF.eq (zX5_keep.eq_1 f0 f4 f5) ?_
  refine VF.aload_n C 0 dX5_keep_0 rfl ?_
  refine VF.get C fl_X5_32 0 rfl rfl dX5_keep_1 ?_
  refine VF.iconst C dX5_keep_4 kc_2 ?_
  refine VF.icmp_ne C 11 dX5_keep_5 rfl (fun h1 => ?_) (fun h1 => ?_)
  · refine VF.iconst C dX5_keep_11 kc_0 ?_
    refine VF.istore_n C [1, 0] dX5_keep_12 rfl (Nat.le_of_ble_eq_true rfl) (lv' := [(0, .ref a0), (1, .int 0)]) rfl ?_
    exact k13 4096 0 f0 f5
  · refine VF.bipush C dX5_keep_8 kb_m3 ?_
    exact VF.iret C rfl rfl dX5_keep_10
set_option maxHeartbeats 4000000 in
set_option maxRecDepth 100000 in
theorem mtX5_back (l : Launch) (D : va_G) (cI cZ : ClassId) (a0 a1 a2 a3 a4 a5 : Nat) (f0 f1 f2 f3 f4 f5 : Fn) : Ctr l yX5_back cX5_back 2 (some .int) 0 0 D cI cZ [.ref a0] [eM a0 a1 a2 a3 a4 a5 f0, eA cI 200 a1 f1, eA cI 5 a2 f2, eA cI 5 a3 f3, eA cI 306 a4 f4, eA cI 612 a5 f5] (zX5_back f0 f4 f5) (fun y : Int32 × Fn × Fn => some (Value.int y.1)) (fun y : Int32 × Fn × Fn => [eM a0 a1 a2 a3 a4 a5 y.2.1, eA cI 200 a1 f1, eA cI 5 a2 f2, eA cI 5 a3 f3, eA cI 306 a4 y.2.2, eA cI 612 a5 f5]) := by
  refine Ctr.of (by decide) (Nat.le_of_ble_eq_true rfl) ?_
  intro p e s m below meth c A C
  have C : CX p s m ([.ref a0] : List Value).toArray meth c cX5_back 2 RX5 D cI cZ A (some .int) := C
  have k22 : ∀ (n : Nat) (x1 : Int32) (f0 : Fn) (f4 : Fn), VF p l e { frames := 0, cells := 0, slots := 0, locals := 0 } s m ([.ref a0] : List Value).toArray below meth c 0 0 D A 2 (fun r => MQ below (QcX ((fun y : Int32 × Fn × Fn => some (Value.int y.1)) r) D ((fun y : Int32 × Fn × Fn => [eM a0 a1 a2 a3 a4 a5 y.2.1, eA cI 200 a1 f1, eA cI 5 a2 f2, eA cI 5 a3 f3, eA cI 306 a4 y.2.2, eA cI 612 a5 f5]) r) A) ([.ref a0] : List Value).toArray s 0 0 A) (zX5_back_k22 n f0 f4 f5 x1) [eM a0 a1 a2 a3 a4 a5 f0, eA cI 200 a1 f1, eA cI 5 a2 f2, eA cI 5 a3 f3, eA cI 306 a4 f4, eA cI 612 a5 f5] 22 [(0, .ref a0), (1, .int x1)] [] := by
    intro n
    induction n with
    | zero =>
      intro x1 f0 f4
      exact VF.eq (zX5_back_k22.eq_1 _ _ _ _) VF.nn
    | succ n ih =>
      intro x1 f0 f4
      refine VF.eq (zX5_back_k22.eq_2 _ _ _ _ _) ?_
      refine VF.iload_n C 1 dX5_back_22 rfl ?_
      refine VF.sipush C dX5_back_23 ks_306 ?_
      refine VF.icmp_ge C 56 dX5_back_26 rfl (fun h2 => ?_) (fun h2 => ?_)
      · refine VF.aload_n C 0 dX5_back_56 rfl ?_
        refine VF.get C fl_X5_32 0 rfl rfl dX5_back_57 ?_
        exact VF.iret C rfl rfl dX5_back_60
      · refine VF.aload_n C 0 dX5_back_29 rfl ?_
        refine VF.get C fl_X5_19 0 rfl rfl dX5_back_30 ?_
        refine VF.iload_n C 1 dX5_back_33 rfl ?_
        refine VF.aload_n C 0 dX5_back_34 rfl ?_
        refine VF.get C fl_X5_22 0 rfl rfl dX5_back_35 ?_
        refine VF.sipush C dX5_back_38 ks_306 ?_
        refine VF.aload_n C 0 dX5_back_41 rfl ?_
        refine VF.get C fl_X5_32 0 rfl rfl dX5_back_42 ?_
        refine VF.imul C dX5_back_45 ?_
        refine VF.iload_n C 1 dX5_back_46 rfl ?_
        refine VF.iadd C dX5_back_47 ?_
        refine VF.iald C 5 rfl dX5_back_48 ?_
        refine VF.iast C 4 rfl (ws' := [eM a0 a1 a2 a3 a4 a5 f0, eA cI 200 a1 f1, eA cI 5 a2 f2, eA cI 5 a3 f3, eA cI 306 a4 (upd f4 (ix x1) (f5 (ix ((306 * (f0 8)) + x1)))), eA cI 612 a5 f5]) rfl dX5_back_49 ?_
        refine VF.iinc C 1 [1, 0] dX5_back_50 rfl (v := (x1 + 1)) rfl (Nat.le_of_ble_eq_true rfl) (lv' := [(0, .ref a0), (1, .int (x1 + 1))]) rfl ?_
        refine VF.goto C 22 dX5_back_53 rfl ?_
        exact ih (x1 + 1) f0 (upd f4 (ix x1) (f5 (ix ((306 * (f0 8)) + x1))))
  refine VF.lve (lv' := [(0, .ref a0)]) rfl ?_
  refine VF.eq (zX5_back.eq_1 f0 f4 f5) ?_
  refine VF.aload_n C 0 dX5_back_0 rfl ?_
  refine VF.get C fl_X5_32 0 rfl rfl dX5_back_1 ?_
  refine VF.if_ne C 10 dX5_back_4 rfl (fun h1 => ?_) (fun h1 => ?_)
  · refine VF.aload_n C 0 dX5_back_10 rfl ?_
    refine VF.dup C dX5_back_11 rfl ?_
    refine VF.get C fl_X5_32 0 rfl rfl dX5_back_12 ?_
    refine VF.iconst C dX5_back_15 kc_1 ?_
    refine VF.isub C dX5_back_16 ?_
    refine VF.put C fl_X5_32 tyX5 tyX5_ok nmX5 0 rfl rfl rfl (Nat.le_of_ble_eq_true rfl) (ws' := [eM a0 a1 a2 a3 a4 a5 (upd f0 8 ((f0 8) - 1)), eA cI 200 a1 f1, eA cI 5 a2 f2, eA cI 5 a3 f3, eA cI 306 a4 f4, eA cI 612 a5 f5]) rfl dX5_back_17 ?_
    refine VF.iconst C dX5_back_20 kc_0 ?_
    refine VF.istore_n C [1, 0] dX5_back_21 rfl (Nat.le_of_ble_eq_true rfl) (lv' := [(0, .ref a0), (1, .int 0)]) rfl ?_
    exact k22 4096 0 (upd f0 8 ((f0 8) - 1)) f4
  · refine VF.bipush C dX5_back_7 kb_m2 ?_
    exact VF.iret C rfl rfl dX5_back_9
set_option maxHeartbeats 4000000 in
set_option maxRecDepth 100000 in
theorem mtX5_unlike (l : Launch) (D : va_G) (cI cZ : ClassId) (a0 a1 a2 a3 a4 a5 : Nat) (f0 f1 f2 f3 f4 f5 : Fn) : Ctr l yX5_unlike cX5_unlike 3 (some .int) 1 20 D cI cZ [.ref a0] [eM a0 a1 a2 a3 a4 a5 f0, eA cI 200 a1 f1, eA cI 5 a2 f2, eA cI 5 a3 f3, eA cI 306 a4 f4, eA cI 612 a5 f5] (zX5_unlike f0 f2 f4 f5) (fun y : Int32 => some (Value.int y)) (fun _ : Int32 => [eM a0 a1 a2 a3 a4 a5 f0, eA cI 200 a1 f1, eA cI 5 a2 f2, eA cI 5 a3 f3, eA cI 306 a4 f4, eA cI 612 a5 f5]) := by
  refine Ctr.of (by decide) (Nat.le_of_ble_eq_true rfl) ?_
  intro p e s m below meth c A C
  have C : CX p s m ([.ref a0] : List Value).toArray meth c cX5_unlike 3 RX5 D cI cZ A (some .int) := C
  have k14 : ∀ (n : Nat) (x1 : Int32) (x2 : Int32), VF p l e { frames := 1, cells := 0, slots := 0, locals := 20 } s m ([.ref a0] : List Value).toArray below meth c 0 0 D A 3 (fun r => MQ below (QcX ((fun y : Int32 => some (Value.int y)) r) D ((fun _ : Int32 => [eM a0 a1 a2 a3 a4 a5 f0, eA cI 200 a1 f1, eA cI 5 a2 f2, eA cI 5 a3 f3, eA cI 306 a4 f4, eA cI 612 a5 f5]) r) A) ([.ref a0] : List Value).toArray s 0 0 A) (zX5_unlike_k14 n f0 f2 f4 f5 x1 x2) [eM a0 a1 a2 a3 a4 a5 f0, eA cI 200 a1 f1, eA cI 5 a2 f2, eA cI 5 a3 f3, eA cI 306 a4 f4, eA cI 612 a5 f5] 14 [(0, .ref a0), (1, .int x1), (2, .int x2)] [] := by
    intro n
    induction n with
    | zero =>
      intro x1 x2
      exact VF.eq (zX5_unlike_k14.eq_1 _ _ _ _ _ _) VF.nn
    | succ n ih =>
      intro x1 x2
      refine VF.eq (zX5_unlike_k14.eq_2 _ _ _ _ _ _ _) ?_
      refine VF.iload_n C 2 dX5_unlike_14 rfl ?_
      refine VF.aload_n C 0 dX5_unlike_15 rfl ?_
      refine VF.callVi C (b := a0) (As := []) (rest := [.int x2]) lk_X5_89 (mtX5_all l D cI cZ a0 a1 a2 a3 a4 a5 f0 f1 f2 f3 f4 f5) (fun y => y) (fun _ => rfl) [some 0, some 1, some 2, some 3, some 4, some 5] ⟨rfl, rfl⟩ (ws' := fun y => [eM a0 a1 a2 a3 a4 a5 f0, eA cI 200 a1 f1, eA cI 5 a2 f2, eA cI 5 a3 f3, eA cI 306 a4 f4, eA cI 612 a5 f5]) (fun _ => ⟨⟨rfl, rfl, rfl⟩, ⟨rfl, rfl, rfl⟩, ⟨rfl, rfl, rfl⟩, ⟨rfl, rfl, rfl⟩, ⟨rfl, rfl, rfl⟩, ⟨rfl, rfl, rfl⟩, trivial⟩) (ci := 5) rfl rfl rfl rfl (Nat.le_of_ble_eq_true rfl) ⟨Nat.le_of_ble_eq_true rfl, Nat.le_of_ble_eq_true rfl⟩ dX5_unlike_16 ⟨Nat.le_refl 0, Nat.le_refl 0⟩ (fun y1 => ?_)
      refine VF.icmp_ge C 62 dX5_unlike_19 rfl (fun h2 => ?_) (fun h2 => ?_)
      · refine VF.iload_n C 1 dX5_unlike_62 rfl ?_
        exact VF.iret C rfl rfl dX5_unlike_63
      · refine VF.iload_n C 1 dX5_unlike_22 rfl ?_
        refine VF.aload_n C 0 dX5_unlike_23 rfl ?_
        refine VF.get C fl_X5_19 0 rfl rfl dX5_unlike_24 ?_
        refine VF.iload_n C 2 dX5_unlike_27 rfl ?_
        refine VF.iald C 4 rfl dX5_unlike_28 ?_
        refine VF.aload_n C 0 dX5_unlike_29 rfl ?_
        refine VF.get C fl_X5_22 0 rfl rfl dX5_unlike_30 ?_
        refine VF.sipush C dX5_unlike_33 ks_306 ?_
        refine VF.aload_n C 0 dX5_unlike_36 rfl ?_
        refine VF.get C fl_X5_32 0 rfl rfl dX5_unlike_37 ?_
        refine VF.iconst C dX5_unlike_40 kc_1 ?_
        refine VF.isub C dX5_unlike_41 ?_
        refine VF.imul C dX5_unlike_42 ?_
        refine VF.iload_n C 2 dX5_unlike_43 rfl ?_
        refine VF.iadd C dX5_unlike_44 ?_
        refine VF.iald C 5 rfl dX5_unlike_45 ?_
        refine VF.icmp_eq C 53 dX5_unlike_46 rfl (fun h3 => ?_) (fun h3 => ?_)
        · refine VF.iconst C dX5_unlike_53 kc_0 ?_
          refine VF.iadd C dX5_unlike_54 ?_
          refine VF.istore_n C [1, 0, 2] dX5_unlike_55 rfl (Nat.le_of_ble_eq_true rfl) (lv' := [(0, .ref a0), (1, .int (x1 + 0)), (2, .int x2)]) rfl ?_
          refine VF.iinc C 2 [1, 2, 0] dX5_unlike_56 rfl (v := (x2 + 1)) rfl (Nat.le_of_ble_eq_true rfl) (lv' := [(0, .ref a0), (1, .int (x1 + 0)), (2, .int (x2 + 1))]) rfl ?_
          refine VF.goto C 14 dX5_unlike_59 rfl ?_
          exact ih (x1 + 0) (x2 + 1)
        · refine VF.iconst C dX5_unlike_49 kc_1 ?_
          refine VF.goto C 54 dX5_unlike_50 rfl ?_
          refine VF.iadd C dX5_unlike_54 ?_
          refine VF.istore_n C [1, 0, 2] dX5_unlike_55 rfl (Nat.le_of_ble_eq_true rfl) (lv' := [(0, .ref a0), (1, .int (x1 + 1)), (2, .int x2)]) rfl ?_
          refine VF.iinc C 2 [1, 2, 0] dX5_unlike_56 rfl (v := (x2 + 1)) rfl (Nat.le_of_ble_eq_true rfl) (lv' := [(0, .ref a0), (1, .int (x1 + 1)), (2, .int (x2 + 1))]) rfl ?_
          refine VF.goto C 14 dX5_unlike_59 rfl ?_
          exact ih (x1 + 1) (x2 + 1)
  refine VF.lve (lv' := [(0, .ref a0)]) rfl ?_
  refine VF.eq (zX5_unlike.eq_1 f0 f2 f4 f5) ?_
  refine VF.aload_n C 0 dX5_unlike_0 rfl ?_
  refine VF.get C fl_X5_32 0 rfl rfl dX5_unlike_1 ?_
  refine VF.if_ne C 10 dX5_unlike_4 rfl (fun h1 => ?_) (fun h1 => ?_)
  · refine VF.iconst C dX5_unlike_10 kc_0 ?_
    refine VF.istore_n C [1, 0] dX5_unlike_11 rfl (Nat.le_of_ble_eq_true rfl) (lv' := [(0, .ref a0), (1, .int 0)]) rfl ?_
    refine VF.iconst C dX5_unlike_12 kc_0 ?_
    refine VF.istore_n C [1, 2, 0] dX5_unlike_13 rfl (Nat.le_of_ble_eq_true rfl) (lv' := [(0, .ref a0), (1, .int 0), (2, .int 0)]) rfl ?_
    exact k14 4096 0 0
  · refine VF.bipush C dX5_unlike_7 kb_m2 ?_
    exact VF.iret C rfl rfl dX5_unlike_9
set_option maxHeartbeats 4000000 in
set_option maxRecDepth 100000 in
theorem mtX5_count (l : Launch) (D : va_G) (cI cZ : ClassId) (a0 a1 a2 a3 a4 a5 : Nat) (f0 f1 f2 f3 f4 f5 : Fn) (u1 : Int32) : Ctr l yX5_count cX5_count 2 (some .int) 1 20 D cI cZ [.ref a0, .int u1] [eM a0 a1 a2 a3 a4 a5 f0, eA cI 200 a1 f1, eA cI 5 a2 f2, eA cI 5 a3 f3, eA cI 306 a4 f4, eA cI 612 a5 f5] (zX5_count f0 f2 f4 u1) (fun y : Int32 => some (Value.int y)) (fun _ : Int32 => [eM a0 a1 a2 a3 a4 a5 f0, eA cI 200 a1 f1, eA cI 5 a2 f2, eA cI 5 a3 f3, eA cI 306 a4 f4, eA cI 612 a5 f5]) := by
  refine Ctr.of (by decide) (Nat.le_of_ble_eq_true rfl) ?_
  intro p e s m below meth c A C
  have C : CX p s m ([.ref a0, .int u1] : List Value).toArray meth c cX5_count 2 RX5 D cI cZ A (some .int) := C
  have k77 : ∀ (x1 : Int32), VF p l e { frames := 1, cells := 0, slots := 0, locals := 20 } s m ([.ref a0, .int u1] : List Value).toArray below meth c 0 0 D A 2 (fun r => MQ below (QcX ((fun y : Int32 => some (Value.int y)) r) D ((fun _ : Int32 => [eM a0 a1 a2 a3 a4 a5 f0, eA cI 200 a1 f1, eA cI 5 a2 f2, eA cI 5 a3 f3, eA cI 306 a4 f4, eA cI 612 a5 f5]) r) A) ([.ref a0, .int u1] : List Value).toArray s 0 0 A) (zX5_count_k77 f0 f2 f4 x1) [eM a0 a1 a2 a3 a4 a5 f0, eA cI 200 a1 f1, eA cI 5 a2 f2, eA cI 5 a3 f3, eA cI 306 a4 f4, eA cI 612 a5 f5] 77 [(0, .ref a0), (1, .int x1)] [] := by
    intro x1
    refine VF.eq (zX5_count_k77.eq_1 f0 f2 f4 x1) ?_
    refine VF.aload_n C 0 dX5_count_77 rfl ?_
    refine VF.get C fl_X5_13 0 rfl rfl dX5_count_78 ?_
    refine VF.iload_n C 1 dX5_count_81 rfl ?_
    refine VF.iconst C dX5_count_82 kc_1 ?_
    refine VF.isub C dX5_count_83 ?_
    refine VF.iald C 2 rfl dX5_count_84 ?_
    exact VF.iret C rfl rfl dX5_count_85
  refine VF.lve (lv' := [(0, .ref a0), (1, .int u1)]) rfl ?_
  refine VF.eq (zX5_count.eq_1 f0 f2 f4 u1) ?_
  refine VF.iload_n C 1 dX5_count_0 rfl ?_
  refine VF.ite (fun h1 => ?_) (fun h1 => ?_)
  · refine VF.tableIn (off := 71) C 72 dX5_count_1 (by rw [h1]; decide) (by rw [h1]; decide) (by rw [h1]; decide) rfl ?_
    refine VF.aload_n C 0 dX5_count_72 rfl ?_
    refine VF.callVi C (b := a0) (As := []) (rest := []) lk_X5_89 (mtX5_all l D cI cZ a0 a1 a2 a3 a4 a5 f0 f1 f2 f3 f4 f5) (fun y => y) (fun _ => rfl) [some 0, some 1, some 2, some 3, some 4, some 5] ⟨rfl, rfl⟩ (ws' := fun y => [eM a0 a1 a2 a3 a4 a5 f0, eA cI 200 a1 f1, eA cI 5 a2 f2, eA cI 5 a3 f3, eA cI 306 a4 f4, eA cI 612 a5 f5]) (fun _ => ⟨⟨rfl, rfl, rfl⟩, ⟨rfl, rfl, rfl⟩, ⟨rfl, rfl, rfl⟩, ⟨rfl, rfl, rfl⟩, ⟨rfl, rfl, rfl⟩, ⟨rfl, rfl, rfl⟩, trivial⟩) (ci := 5) rfl rfl rfl rfl (Nat.le_of_ble_eq_true rfl) ⟨Nat.le_of_ble_eq_true rfl, Nat.le_of_ble_eq_true rfl⟩ dX5_count_73 ⟨Nat.le_refl 0, Nat.le_refl 0⟩ (fun y1 => ?_)
    exact VF.iret C rfl rfl dX5_count_76
  refine VF.ite (fun h2 => ?_) (fun h2 => ?_)
  · refine VF.tableIn (off := 76) C 77 dX5_count_1 (by rw [h2]; decide) (by rw [h2]; decide) (by rw [h2]; decide) rfl ?_
    exact k77 u1
  refine VF.ite (fun h3 => ?_) (fun h3 => ?_)
  · refine VF.tableIn (off := 76) C 77 dX5_count_1 (by rw [h3]; decide) (by rw [h3]; decide) (by rw [h3]; decide) rfl ?_
    exact k77 u1
  refine VF.ite (fun h4 => ?_) (fun h4 => ?_)
  · refine VF.tableIn (off := 76) C 77 dX5_count_1 (by rw [h4]; decide) (by rw [h4]; decide) (by rw [h4]; decide) rfl ?_
    exact k77 u1
  refine VF.ite (fun h5 => ?_) (fun h5 => ?_)
  · refine VF.tableIn (off := 76) C 77 dX5_count_1 (by rw [h5]; decide) (by rw [h5]; decide) (by rw [h5]; decide) rfl ?_
    exact k77 u1
  refine VF.ite (fun h6 => ?_) (fun h6 => ?_)
  · refine VF.tableIn (off := 76) C 77 dX5_count_1 (by rw [h6]; decide) (by rw [h6]; decide) (by rw [h6]; decide) rfl ?_
    exact k77 u1
  refine VF.ite (fun h7 => ?_) (fun h7 => ?_)
  · refine VF.tableIn (off := 85) C 86 dX5_count_1 (by rw [h7]; decide) (by rw [h7]; decide) (by rw [h7]; decide) rfl ?_
    refine VF.iconst C dX5_count_86 kc_1 ?_
    refine VF.aload_n C 0 dX5_count_87 rfl ?_
    refine VF.get C fl_X5_19 0 rfl rfl dX5_count_88 ?_
    refine VF.sipush C dX5_count_91 ks_289 ?_
    refine VF.ialdK C 4 289 li_289 (Nat.le_of_ble_eq_true rfl) (Nat.le_of_ble_eq_true rfl) rfl dX5_count_94 ?_
    refine VF.ishl C dX5_count_95 ?_
    exact VF.iret C rfl rfl dX5_count_96
  refine VF.ite (fun h8 => ?_) (fun h8 => ?_)
  · refine VF.tableIn (off := 96) C 97 dX5_count_1 (by rw [h8]; decide) (by rw [h8]; decide) (by rw [h8]; decide) rfl ?_
    refine VF.aload_n C 0 dX5_count_97 rfl ?_
    refine VF.callVi C (b := a0) (As := []) (rest := []) lk_X5_92 (mtX5_status l D cI cZ a0 a1 a2 a3 a4 a5 f0 f1 f2 f3 f4 f5) (fun y => y) (fun _ => rfl) [some 0, some 1, some 2, some 3, some 4, some 5] ⟨rfl, rfl⟩ (ws' := fun y => [eM a0 a1 a2 a3 a4 a5 f0, eA cI 200 a1 f1, eA cI 5 a2 f2, eA cI 5 a3 f3, eA cI 306 a4 f4, eA cI 612 a5 f5]) (fun _ => ⟨⟨rfl, rfl, rfl⟩, ⟨rfl, rfl, rfl⟩, ⟨rfl, rfl, rfl⟩, ⟨rfl, rfl, rfl⟩, ⟨rfl, rfl, rfl⟩, ⟨rfl, rfl, rfl⟩, trivial⟩) (ci := 5) rfl rfl rfl rfl (Nat.le_of_ble_eq_true rfl) ⟨Nat.le_of_ble_eq_true rfl, Nat.le_of_ble_eq_true rfl⟩ dX5_count_98 ⟨Nat.le_refl 0, Nat.le_refl 0⟩ (fun y2 => ?_)
    exact VF.iret C rfl rfl dX5_count_101
  refine VF.ite (fun h9 => ?_) (fun h9 => ?_)
  · refine VF.tableIn (off := 101) C 102 dX5_count_1 (by rw [h9]; decide) (by rw [h9]; decide) (by rw [h9]; decide) rfl ?_
    refine VF.aload_n C 0 dX5_count_102 rfl ?_
    refine VF.get C fl_X5_19 0 rfl rfl dX5_count_103 ?_
    refine VF.sipush C dX5_count_106 ks_304 ?_
    refine VF.ialdK C 4 304 li_304 (Nat.le_of_ble_eq_true rfl) (Nat.le_of_ble_eq_true rfl) rfl dX5_count_109 ?_
    exact VF.iret C rfl rfl dX5_count_110
  refine VF.ite (fun h10 => ?_) (fun h10 => ?_)
  · refine VF.tableIn (off := 110) C 111 dX5_count_1 (by rw [h10]; decide) (by rw [h10]; decide) (by rw [h10]; decide) rfl ?_
    refine VF.aload_n C 0 dX5_count_111 rfl ?_
    refine VF.get C fl_X5_19 0 rfl rfl dX5_count_112 ?_
    refine VF.sipush C dX5_count_115 ks_293 ?_
    refine VF.ialdK C 4 293 li_293 (Nat.le_of_ble_eq_true rfl) (Nat.le_of_ble_eq_true rfl) rfl dX5_count_118 ?_
    refine VF.if_le C 133 dX5_count_119 rfl (fun h11 => ?_) (fun h11 => ?_)
    · refine VF.aload_n C 0 dX5_count_133 rfl ?_
      refine VF.get C fl_X5_19 0 rfl rfl dX5_count_134 ?_
      refine VF.sipush C dX5_count_137 ks_296 ?_
      refine VF.ialdK C 4 296 li_296 (Nat.le_of_ble_eq_true rfl) (Nat.le_of_ble_eq_true rfl) rfl dX5_count_140 ?_
      refine VF.if_le C 155 dX5_count_141 rfl (fun h12 => ?_) (fun h12 => ?_)
      · refine VF.iconst C dX5_count_155 kc_0 ?_
        exact VF.iret C rfl rfl dX5_count_156
      · refine VF.aload_n C 0 dX5_count_144 rfl ?_
        refine VF.get C fl_X5_19 0 rfl rfl dX5_count_145 ?_
        refine VF.sipush C dX5_count_148 ks_297 ?_
        refine VF.ialdK C 4 297 li_297 (Nat.le_of_ble_eq_true rfl) (Nat.le_of_ble_eq_true rfl) rfl dX5_count_151 ?_
        refine VF.goto C 156 dX5_count_152 rfl ?_
        exact VF.iret C rfl rfl dX5_count_156
    · refine VF.aload_n C 0 dX5_count_122 rfl ?_
      refine VF.get C fl_X5_19 0 rfl rfl dX5_count_123 ?_
      refine VF.sipush C dX5_count_126 ks_295 ?_
      refine VF.ialdK C 4 295 li_295 (Nat.le_of_ble_eq_true rfl) (Nat.le_of_ble_eq_true rfl) rfl dX5_count_129 ?_
      refine VF.goto C 156 dX5_count_130 rfl ?_
      exact VF.iret C rfl rfl dX5_count_156
  refine VF.ite (fun h13 => ?_) (fun h13 => ?_)
  · refine VF.tableIn (off := 156) C 157 dX5_count_1 (by rw [h13]; decide) (by rw [h13]; decide) (by rw [h13]; decide) rfl ?_
    refine VF.aload_n C 0 dX5_count_157 rfl ?_
    refine VF.get C fl_X5_19 0 rfl rfl dX5_count_158 ?_
    refine VF.sipush C dX5_count_161 ks_298 ?_
    refine VF.ialdK C 4 298 li_298 (Nat.le_of_ble_eq_true rfl) (Nat.le_of_ble_eq_true rfl) rfl dX5_count_164 ?_
    refine VF.iconst C dX5_count_165 kc_1 ?_
    refine VF.icmp_ne C 180 dX5_count_166 rfl (fun h14 => ?_) (fun h14 => ?_)
    · refine VF.iconst C dX5_count_180 kc_0 ?_
      exact VF.iret C rfl rfl dX5_count_181
    · refine VF.aload_n C 0 dX5_count_169 rfl ?_
      refine VF.get C fl_X5_19 0 rfl rfl dX5_count_170 ?_
      refine VF.sipush C dX5_count_173 ks_299 ?_
      refine VF.ialdK C 4 299 li_299 (Nat.le_of_ble_eq_true rfl) (Nat.le_of_ble_eq_true rfl) rfl dX5_count_176 ?_
      refine VF.goto C 181 dX5_count_177 rfl ?_
      exact VF.iret C rfl rfl dX5_count_181
  refine VF.ite (fun h15 => ?_) (fun h15 => ?_)
  · refine VF.tableIn (off := 181) C 182 dX5_count_1 (by rw [h15]; decide) (by rw [h15]; decide) (by rw [h15]; decide) rfl ?_
    refine VF.aload_n C 0 dX5_count_182 rfl ?_
    refine VF.get C fl_X5_32 0 rfl rfl dX5_count_183 ?_
    exact VF.iret C rfl rfl dX5_count_186
  refine VF.ite (fun h16 => ?_) (fun h16 => ?_)
  · refine VF.tableIn (off := 186) C 187 dX5_count_1 (by rw [h16]; decide) (by rw [h16]; decide) (by rw [h16]; decide) rfl ?_
    refine VF.aload_n C 0 dX5_count_187 rfl ?_
    refine VF.get C fl_X5_44 0 rfl rfl dX5_count_188 ?_
    exact VF.iret C rfl rfl dX5_count_191
  refine VF.ite (fun h17 => ?_) (fun h17 => ?_)
  · refine VF.tableIn (off := 191) C 192 dX5_count_1 (by rw [h17]; decide) (by rw [h17]; decide) (by rw [h17]; decide) rfl ?_
    refine VF.aload_n C 0 dX5_count_192 rfl ?_
    refine VF.get C fl_X5_19 0 rfl rfl dX5_count_193 ?_
    refine VF.sipush C dX5_count_196 ks_305 ?_
    refine VF.ialdK C 4 305 li_305 (Nat.le_of_ble_eq_true rfl) (Nat.le_of_ble_eq_true rfl) rfl dX5_count_199 ?_
    exact VF.iret C rfl rfl dX5_count_200
  refine VF.tableOut C 201 dX5_count_1 (by have eh1 := lv_neT h1 (k := 0) (a := 0) rfl; have eh2 := lv_neT h2 (k := 1) (a := 1) rfl; have eh3 := lv_neT h3 (k := 2) (a := 2) rfl; have eh4 := lv_neT h4 (k := 3) (a := 3) rfl; have eh5 := lv_neT h5 (k := 4) (a := 4) rfl; have eh6 := lv_neT h6 (k := 5) (a := 5) rfl; have eh7 := lv_neT h7 (k := 6) (a := 6) rfl; have eh8 := lv_neT h8 (k := 7) (a := 7) rfl; have eh9 := lv_neT h9 (k := 8) (a := 8) rfl; have eh10 := lv_neT h10 (k := 9) (a := 9) rfl; have eh13 := lv_neT h13 (k := 10) (a := 10) rfl; have eh15 := lv_neT h15 (k := 11) (a := 11) rfl; have eh16 := lv_neT h16 (k := 12) (a := 12) rfl; have eh17 := lv_neT h17 (k := 13) (a := 13) rfl; omega) rfl ?_
  refine VF.iconst C dX5_count_201 kc_m1 ?_
  exact VF.iret C rfl rfl dX5_count_202
