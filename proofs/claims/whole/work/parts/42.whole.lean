set_option maxHeartbeats 4000000 in
set_option maxRecDepth 100000 in
theorem whole_start {p : Program} {e : Env} {s : State} {m : MethodId} {below : List Frame} {meth : Method} {c : Code} (l : Launch) (hflags : l.flags = flags0) {b L : Nat} {xs : Nat → Int32} (hL : L ≤ 2560) (C0 : lw_At p s m meth c b L xs) : W p l e room_1 s m #[Value.ref b] below meth c s.heap [] 0 0 (lw_Z below #[Value.ref b] s) (entryFrame m ([Value.ref b] : List Value).toArray 4) := by
  obtain ⟨hx, hb, hr, hml, hown, hts, hX, hbl, hlocks, hgv⟩ := id C0
  have htw : ∀ w ∈ wT, w.before #[Value.ref b] s = true := fun w h => hts w (List.mem_filter.mp h).1
  obtain ⟨c0, i0, hn0⟩ := u_known (C := RX0) (T := TX0) (N := 16) (n := 16) htw cwX0 (htw _ wi_X0)
  obtain ⟨c1, i1, hn1⟩ := u_known (C := RX1) (T := TX1) (N := 5) (n := 5) htw cwX1 (htw _ wi_X1)
  obtain ⟨c2, i2, hn2⟩ := u_known (C := RX2) (T := TX2) (N := 6) (n := 6) htw cwX2 (htw _ wi_X2)
  obtain ⟨c3, i3, hn3⟩ := u_known (C := RX3) (T := TX3) (N := 5) (n := 5) htw cwX3 (htw _ wi_X3)
  obtain ⟨c4, i4, hn4⟩ := u_known (C := RX4) (T := TX4) (N := 5) (n := 5) htw cwX4 (htw _ wi_X4)
  obtain ⟨c5, i5, hn5⟩ := u_known (C := RX5) (T := TX5) (N := 9) (n := 9) htw cwX5 (htw _ wi_X5)
  obtain ⟨D, hKc⟩ : ∃ D : va_G, ∀ (k : Nat) (q : vw_C), vwCl[k]? = some q → u_Kn s q.1 q.2.1 q.2.2 (D.1 k) (D.2 k) := by
    refine ⟨(fun k => [c0, c1, c2, c3, c4, c5].getD k c0, fun k => [i0, i1, i2, i3, i4, i5].getD k i0), ?_⟩
    intro k q hq
    match k, hq with
    | 0, hq => cases hq; exact hn0
    | 1, hq => cases hq; exact hn1
    | 2, hq => cases hq; exact hn2
    | 3, hq => cases hq; exact hn3
    | 4, hq => cases hq; exact hn4
    | 5, hq => cases hq; exact hn5
    | k + 6, hq => simp [vwCl] at hq
  obtain ⟨cI, kI, pI, hI1, hI2, hI3⟩ := Cond.arrayClass_spec (htw _ wa_int)
  obtain ⟨cZ, kZ, pZ, hZ1, hZ2, hZ3⟩ := Cond.arrayClass_spec (htw _ wa_bool)
  have hK : va_K D vwCl (tyL cI cZ) s := by
    refine ⟨hKc, fun k q hq => ?_⟩
    match k, hq with
    | 0, hq => cases hq; exact ⟨fun n z => ⟨fun k h => (by cases h), kI, hI2, pI, hI3⟩, hI1⟩
    | 1, hq => cases hq; exact ⟨fun n z => ⟨fun k h => (by cases h), kZ, hZ2, pZ, hZ3⟩, hZ1⟩
    | k + 2, hq => simp [tyL] at hq
  have hN : Nst s := ⟨va_Nw.of rfl (hts _ wn_nsW1), va_Nw.of rfl (hts _ wn_nsW2), va_Nw.of rfl (hts _ wn_nsW3)⟩
  have C : CX p s m #[Value.ref b] meth c cL_law 4 RL D cI cZ (fun q : Nat => s.heap.size ≤ q) (some .boolean) := ⟨hx, hb, hml, hown, htw, hK, hN, fun q h => h, hr, hlocks⟩
  have hl := lv_entry ([.ref b]) (n := 4) (Nat.le_of_ble_eq_true rfl)
  rw [lg_entry_eq]
  have hP0 : va_P D vwCl [] s.heap := fun k q h => by simp at h
  have hD0 : va_D (fun q : Nat => s.heap.size ≤ q) [] := ⟨fun i j p q h => by simp at h, fun k q h => by simp at h⟩
  refine (?_ : VF p l e room_1 s m #[Value.ref b] below meth c 0 0 D (fun q : Nat => s.heap.size ≤ q) 4 (fun _ : Unit => lw_Z below #[Value.ref b] s) (some ()) [] 0 [(0, .ref b)] []) () rfl s.heap [] _ hP0 hD0 va_S.rf hl
  obtain ⟨f0, f1, f2, f3, f4, f5, f6, f7, f8, f9, f10, f11, f12, f13, f14, f15, f16, f17, f18, f19, f20, f21, g0, g1, g2, g3, g4, g5, hx0, hm0, hR⟩ := op_init
  refine VF.new C lc_L_7 tyX4 tyX4_ok nf_X4 (Nat.le_of_ble_eq_true rfl) (Nat.le_of_ble_eq_true rfl) dL_law_0 (ws' := fun q => [(q, .inr (4, [.null, .null, .null, .null, .int (zf 4)]))]) (fun _ => rfl) (fun a0 => ?_)
  refine VF.dup C dL_law_3 rfl ?_
  refine VF.callI0 C hx0 lk_L_9 (mtX4_init l D cI cZ a0) [] rfl (ws' := fun q => [eF a0 (q 1) (q 4) (q 10) (q 16) f0, eT (q 1) (q 2) (q 3) f1, eA cI 200 (q 2) f2, eS (q 3) f3, eC (q 4) (q 5) (q 6) (q 8) (q 9) f4, eS (q 5) f5, eW (q 6) (q 7) f6, eA cI 16 (q 7) f7, eA cI 256 (q 8) f8, eA cZ 8 (q 9) f9, eC (q 10) (q 11) (q 12) (q 14) (q 15) f10, eS (q 11) f11, eW (q 12) (q 13) f12, eA cI 16 (q 13) f13, eA cI 256 (q 14) f14, eA cZ 8 (q 15) f15, eC (q 16) (q 17) (q 18) (q 20) (q 21) f16, eS (q 17) f17, eW (q 18) (q 19) f18, eA cI 16 (q 19) f19, eA cI 256 (q 20) f20, eA cZ 8 (q 21) f21]) (fun _ => rfl) (Nat.le_of_ble_eq_true rfl) ⟨Nat.le_of_ble_eq_true rfl, Nat.le_of_ble_eq_true rfl⟩ dL_law_4 ⟨Nat.le_of_ble_eq_true rfl, Nat.le_of_ble_eq_true rfl⟩ (fun qx => ?_)
  refine VF.astore_n C [1, 0] dL_law_7 rfl (Nat.le_of_ble_eq_true rfl) (lv' := [(0, .ref b), (1, .ref a0)]) rfl ?_
  refine VF.new C lc_L_10 tyX5 tyX5_ok nf_X5 (Nat.le_of_ble_eq_true rfl) (Nat.le_of_ble_eq_true rfl) dL_law_8 (ws' := fun q => [eF a0 (qx 1) (qx 4) (qx 10) (qx 16) f0, eT (qx 1) (qx 2) (qx 3) f1, eA cI 200 (qx 2) f2, eS (qx 3) f3, eC (qx 4) (qx 5) (qx 6) (qx 8) (qx 9) f4, eS (qx 5) f5, eW (qx 6) (qx 7) f6, eA cI 16 (qx 7) f7, eA cI 256 (qx 8) f8, eA cZ 8 (qx 9) f9, eC (qx 10) (qx 11) (qx 12) (qx 14) (qx 15) f10, eS (qx 11) f11, eW (qx 12) (qx 13) f12, eA cI 16 (qx 13) f13, eA cI 256 (qx 14) f14, eA cZ 8 (qx 15) f15, eC (qx 16) (qx 17) (qx 18) (qx 20) (qx 21) f16, eS (qx 17) f17, eW (qx 18) (qx 19) f18, eA cI 16 (qx 19) f19, eA cI 256 (qx 20) f20, eA cZ 8 (qx 21) f21, (q, .inr (5, [.int (zf 0), .null, .int (zf 2), .null, .null, .int (zf 5), .null, .null, .int (zf 8)]))]) (fun _ => rfl) (fun b0 => ?_)
  refine VF.dup C dL_law_11 rfl ?_
  refine VF.callI0 C hm0 lk_L_12 (mtX5_init l D cI cZ b0) [eF a0 (qx 1) (qx 4) (qx 10) (qx 16) f0, eT (qx 1) (qx 2) (qx 3) f1, eA cI 200 (qx 2) f2, eS (qx 3) f3, eC (qx 4) (qx 5) (qx 6) (qx 8) (qx 9) f4, eS (qx 5) f5, eW (qx 6) (qx 7) f6, eA cI 16 (qx 7) f7, eA cI 256 (qx 8) f8, eA cZ 8 (qx 9) f9, eC (qx 10) (qx 11) (qx 12) (qx 14) (qx 15) f10, eS (qx 11) f11, eW (qx 12) (qx 13) f12, eA cI 16 (qx 13) f13, eA cI 256 (qx 14) f14, eA cZ 8 (qx 15) f15, eC (qx 16) (qx 17) (qx 18) (qx 20) (qx 21) f16, eS (qx 17) f17, eW (qx 18) (qx 19) f18, eA cI 16 (qx 19) f19, eA cI 256 (qx 20) f20, eA cZ 8 (qx 21) f21] rfl (ws' := fun q => [eF a0 (qx 1) (qx 4) (qx 10) (qx 16) f0, eT (qx 1) (qx 2) (qx 3) f1, eA cI 200 (qx 2) f2, eS (qx 3) f3, eC (qx 4) (qx 5) (qx 6) (qx 8) (qx 9) f4, eS (qx 5) f5, eW (qx 6) (qx 7) f6, eA cI 16 (qx 7) f7, eA cI 256 (qx 8) f8, eA cZ 8 (qx 9) f9, eC (qx 10) (qx 11) (qx 12) (qx 14) (qx 15) f10, eS (qx 11) f11, eW (qx 12) (qx 13) f12, eA cI 16 (qx 13) f13, eA cI 256 (qx 14) f14, eA cZ 8 (qx 15) f15, eC (qx 16) (qx 17) (qx 18) (qx 20) (qx 21) f16, eS (qx 17) f17, eW (qx 18) (qx 19) f18, eA cI 16 (qx 19) f19, eA cI 256 (qx 20) f20, eA cZ 8 (qx 21) f21, eM b0 (q 1) (q 2) (q 3) (q 4) (q 5) g0, eA cI 200 (q 1) g1, eA cI 5 (q 2) g2, eA cI 5 (q 3) g3, eA cI 306 (q 4) g4, eA cI 612 (q 5) g5]) (fun _ => rfl) (Nat.le_of_ble_eq_true rfl) ⟨Nat.le_of_ble_eq_true rfl, Nat.le_of_ble_eq_true rfl⟩ dL_law_12 ⟨Nat.le_of_ble_eq_true rfl, Nat.le_of_ble_eq_true rfl⟩ (fun qm => ?_)
  refine VF.astore_n C [1, 2, 0] dL_law_15 rfl (Nat.le_of_ble_eq_true rfl) (lv' := [(0, .ref b), (1, .ref a0), (2, .ref b0)]) rfl ?_
  refine VF.iconst C dL_law_16 kc_0 ?_
  refine VF.istore_n C [1, 2, 3, 0] dL_law_17 rfl (Nat.le_of_ble_eq_true rfl) (lv' := [(0, .ref b), (1, .ref a0), (2, .ref b0), (3, .int (nI (5 * 0)))]) rfl ?_
  exact law_loop C hX hbl hL hr hlocks L 0 f0 f1 f2 f3 f4 f5 f6 f7 f8 f9 f10 f11 f12 f13 f14 f15 f16 f17 f18 f19 f20 f21 g0 g1 g2 g3 g4 g5 (by omega) (by omega) hR
-- ===== YOUR PART ENDS =====
set_option maxHeartbeats 4000000 in
theorem lw_walk (l : Launch) (hflags : l.flags = flags0) (b : Addr) (xs : List Int32) : MetFree l x (headSpec (Jvm.Cond.code x code maxLocals ret :: tables_1) room_1) (lw_P b xs) (fun _ _ _ _ _ => True) lw_Q := by
  refine MetFree.of_bodyS (code := code) (maxLocals := maxLocals) (ret := ret) (by decide) ?_ ?_
  · intro args s m h hn
    obtain ⟨meth, c, h1, h2, h3, h4, h5, h6, -, -⟩ := Cond.code_spec hn (atoms_spec (ws := Jvm.Cond.code x code maxLocals ret :: tables_1) h _ List.mem_cons_self)
    exact ⟨meth, c, h1, h2, h3, h4, h5, h6⟩
  · intro p e s m args below meth c s₁ B hml0 hP _
    obtain ⟨rfl, hx, hbd, hgv⟩ := hP
    obtain ⟨scr, harrAt, hlist, hof, hsmall⟩ := hx
    obtain ⟨hcb, hkn, -, -⟩ := State.arrayAt?_spec harrAt
    have hown : s.vm.findClass R_law = some m.cls := findClass_of_methodNamed B.named
    have hts0 : ∀ c ∈ (Jvm.Cond.code x code maxLocals ret :: tables_1), c.before #[Value.ref b] s = true := atoms_spec (ws := Jvm.Cond.code x code maxLocals ret :: tables_1) B.pre
    have hts : ∀ w ∈ lw_tbl, w.before #[Value.ref b] s = true := k2_hts_sels lw_privs (fun w hw => hts0 w (List.mem_cons_of_mem _ hw)) lw_privs_ok
    have hml : c.maxLocals = 4 := B.maxLocals_eq (hts0 _ List.mem_cons_self)
    have X₀ : Stand p l e room_1 s m #[Value.ref b] below meth c s₁ [] 0 0 := Stand.of_body B
    have hh0 : s₁.heap = s.heap := by rw [B.state]; rfl
    have hsz : scr.slots.size = xs.length := by rw [← Array.length_toList, hlist, List.length_map]
    have hval : ∀ j : Nat, j < xs.length → scr.slots[j]? = some (.int (xs.getD j 0)) := fun j hj => by
      rw [← Array.getElem?_toList, hlist]
      simp [hj]
    have hbl : b < s.heap.size := (Array.getElem?_eq_some_iff.mp hcb).1
    have hX : va_X b xs.length (fun j => xs.getD j 0) s s.heap := ⟨scr, hcb, hof, hkn, hsz, hval⟩
    have K : W p l e room_1 s m #[Value.ref b] below meth c s₁.heap [] 0 0 (lw_Z below #[Value.ref b] s) (entryFrame m ([Value.ref b] : List Value).toArray 4) := by
      rw [hh0]
      exact whole_start l hflags hbd ⟨B.exec, B.bytes, B.returns, hml, hown, hts, hX, hbl, B.notSynchronized, hgv⟩
    obtain ⟨t, a1, o, b1, b2, b3⟩ := K s₁ rfl X₀
    exact ⟨t, o, a1, b1, b2, b3⟩
theorem lw_pre_spec {args : Array Value} {s : State} (h : (Jvm.Cond.and given_1 narrow_1).before args s = true) (hr : rest_1_c.before args s = true) : ∃ (b : Addr) (xs : List Int32), lw_P b xs args s := by
  have hs := flat_of_before _ h
  have hq := flat_of_before _ hr
  have hc : (Cond.count 1).before args s = true := hs _ (by decide +kernel)
  have harr : (Cond.arrayOf (.arg 0) .int).before args s = true := hs _ (by decide +kernel)
  have hle : (Cond.le (.length (.arg 0)) (.int 2560)).before args s = true := hs _ (by decide +kernel)
  have hlen : (Cond.isInt (.length (.arg 0))).before args s = true := hq _ (by decide +kernel)
  have hall : (Cond.all (.arg 0) (.isInt (.elem (.arg 0) (.index 0)))).before args s = true := hq _ (by decide +kernel)
  obtain ⟨b, xs, hb, hx⟩ := State.ints_of_pre rfl harr hlen hall
  have hsm : xs.length < 2 ^ 31 := hx.choose_spec.2.2.2
  have hev : (Term.length (.arg 0)).eval args s none [] s = some (.int xs.length.toInt32) := hx.length_eval hb
  have hv := Cond.le_ints hev (show (Term.int 2560).eval args s none [] s = some (.int 2560) from rfl)
  have hd : xs.length.toInt32 ≤ 2560 := by
    simpa [Cond.before, Cond.holds, hv] using hle
  have hN : xs.length ≤ 2560 := (Int32.ofNat_le_ofNat hsm (by decide)).mp (show Int32.ofNat xs.length ≤ Int32.ofNat 2560 from hd)
  exact ⟨b, xs, Cond.one_arg hc (show args[0]? = some (.ref b) from hb), hx, hN, h⟩
theorem lw_comes (l : Launch) (hflags : l.flags = flags0) : Comes l x (Jvm.Cond.code x code maxLocals ret :: tables_1) room_1 (fun tb e args s => Calls_1 tb e args s ∧ rest_1 tb e args s ∧ Pre_1 tb e args s)
    (fun _ _ args s o t => lw_Q args s o t) := by
  intro p e ha hc hk s m args below hf hfit hheap happ hpre
  obtain ⟨b, xs, hP⟩ := lw_pre_spec hpre.2.2 hpre.2.1
  obtain ⟨k, o, h1, h2, h3, hQ⟩ := lw_walk l hflags b xs p e ha hc hk s m args below hf ((Spec.applies_iff_loose hf).mp happ).1 hP trivial
  exact ⟨k, o, h1, h2, h3, hQ⟩
theorem lw_frame {s t : State} {o : Outcome} {args : Array Value} (h : Framed s o t [] 28 2271) :
    Framed s o t (fieldLocs frame_1_writes args s ++ arrayLocs frame_1_arrays args s ++ staticLocs frame_1_statics s) 28 2271 := h
theorem lw_limb (L : Cond) (hL : ∀ (args : Array Value) (s t : State), L.after args s (.returned (some (.int 1))) t = true) :
    ArmFor flags0 classFile x code maxLocals ret World_1 tables_1 room_1 Calls_1 rest_1 Pre_1
      (fun tb e a s o t => postC L tb e a s o t ∧ Framed s o t (fieldLocs frame_1_writes a s ++ arrayLocs frame_1_arrays a s ++ staticLocs frame_1_statics s) 28 2271) := by
  intro l hflags _ _ p e ha hc hk s m args below hf hfit hheap happ hpre
  obtain ⟨k, o, h1, h2, h3, rfl, hF⟩ := lw_comes l hflags p e ha hc hk s m args below hf hfit hheap happ hpre
  exact ⟨k, _, h1, h2, h3, hL args s _, lw_frame hF⟩
theorem i_vc : Claimed_1_1 ∧ Claimed_1_2 := ⟨lw_limb limb_1_1 (fun args s t => by simp [limb_1_1, Cond.after, Cond.holds, Cond.value]), lw_limb limb_1_2 (fun args s t => Cond.after_iff.mpr (by
  first | (rw [show limb_1_2 = Cond.eq .result (.int 1) from rfl, Cond.eq_ints (x := 1) (y := 1) rfl rfl]; simp; done) | (simp [limb_1_2, Cond.value, Term.eval]; done)))⟩
