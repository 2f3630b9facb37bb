/-! ===== cells that are made; constructors ===== -/
def zf : Fn := fun _ => 0
def QcN (D : va_G) (wv : (Nat → Nat) → va_W) (A : Nat → Prop) : Array Value → State → Outcome → State → Prop := fun _ st oc t => (oc = .returned none ∧ ∃ q : Nat → Nat, va_P D vwCl (wv q) t.heap ∧ va_D A (wv q)) ∧ va_F A st t
def CtrN (l : Launch) (y : MethodName) (cc : ByteArray) (nL : Nat) (fr lo mc ms : Nat) (D : va_G) (cI cZ : ClassId) (av : List Value) (w : va_W) {τ : Type} (X : Option τ) (wv : τ → (Nat → Nat) → va_W) : Prop :=
  ∀ r : τ, X = some r → ∀ sz : Nat, Met l y (wM y cc nL none) { frames := fr, cells := mc, slots := ms, locals := lo } (PcX av D cI cZ w sz) (QcN D (wv r) (va_A w sz)) mc ms (va_A w sz)
def LkI (own : String) (idx : Nat) (y : MethodName) (bytes : ByteArray) (maxL : Nat) : Prop :=
  (Cond.methodLink own idx y ∈ wT ∧ Cond.instanceMethod y ∈ wT ∧ Cond.initialized y.cls ∈ wT ∧ Cond.code y bytes maxL none ∈ wT) ∧ y.name = "<init>" ∧ y.cls ≠ "java/lang/invoke/MethodHandle" ∧ y.cls ≠ "java/lang/invoke/VarHandle" ∧ (parseMethodDescriptor y.desc).map (fun d => d.parameters.length) = some 0
def LkC (own : String) (index ci : Nat) (C0 : String) (T : u_T) (N : Nat) : Prop := vwCl[ci]? = some (C0, T, N) ∧ (∀ w ∈ u_ws C0 T N, w ∈ wT) ∧ Cond.classLink own index C0 ∈ wT ∧ Cond.instantiable C0 N ∈ wT ∧ Cond.initialized C0 ∈ wT
def LkO (own : String) (idx : Nat) : Prop := Cond.methodLink own idx Lib.objectInit ∈ wT ∧ Cond.instanceMethod Lib.objectInit ∈ wT ∧ Cond.code Lib.objectInit ⟨#[0xb1]⟩ 1 none ∈ wT
theorem va_ndR (n : Nat) : va_nd (List.range n) = true := by
  have h : ∀ l : List Nat, l.Nodup → va_nd l = true := by
    intro l
    induction l with
    | nil => intro _; rfl
    | cons a l ih =>
      intro h
      rw [List.nodup_cons] at h
      simp [va_nd, h.1, ih h.2]
  exact h _ List.nodup_range
section VFnew
variable {p : Program} {l : Launch} {e : Env} {R : Room} {s : State} {m : MethodId} {args : Array Value} {below : List Frame} {meth : Method} {c : Code} {cells slots : Nat} {D : va_G} {A : Nat → Prop} {nL : Nat} {τ : Type} {Q : τ → State → Prop} {X Y : Option τ} {ws : va_W} {pc : Nat} {lv : List (Nat × Value)} {st : List Value}
  {cc : ByteArray} {own : String} {cI cZ : ClassId} {rt : Option FieldType}
theorem VF.widen {k n : Nat} (h1 : cells ≤ k) (h2 : slots ≤ n) (kk : VF p l e R s m args below meth c k n D A nL Q X ws pc lv st) : VF p l e R s m args below meth c cells slots D A nL Q X ws pc lv st := fun r hr H locs ls hP hD hS hl => W.widen h1 h2 (kk r hr H locs ls hP hD hS hl)
theorem VF.objInit (C : CX p s m args meth c cc nL own D cI cZ A rt) {idx a : Nat} (L : LkO own idx) (hd : decode cc pc = .ok (.invokespecial idx, 3)) (hframes : 1 ≤ R.frames) (hlocals : (st.map fun v => v.category).sum + 12 ≤ R.locals) (k : VF p l e R s m args below meth c cells slots D A nL Q X ws (pc + 3) lv st) : VF p l e R s m args below meth c cells slots D A nL Q X ws pc lv (.ref a :: st) := fun r hr H locs ls hP hD hS hl =>
  W.objInit C.1 C.2.1 C.2.2.2.1 (C.2.2.2.2.1 _ L.1) (C.2.2.2.2.1 _ L.2.1) (C.2.2.2.2.1 _ L.2.2) rfl (hl.1.trans C.2.2.1.symm) rfl hd hframes (by show 2 * 0 + _ + 12 ≤ _; omega) (k r hr H locs ls hP hD hS hl)
theorem VF.new (C : CX p s m args meth c cc nL own D cI cZ A rt) {index ci N : Nat} {C0 : String} {T : u_T} (L : LkC own index ci C0 T N) (ty : Nat → FieldType) (hty : ∀ k, k < N → parseFieldDescriptor (T k).2.2.1 = some (ty k)) {fs : List Value} (hfs : ∀ j, j < N → defaultValue (ty j) = vp_V fs j) (hcells : cells + 1 ≤ R.cells) (hslots : slots + N ≤ R.slots) (hdg : decode cc pc = .ok (.new index, 3)) {ws' : Nat → va_W} (hws : ∀ q, ws ++ [(q, .inr (ci, fs))] = ws' q)
    (kk : ∀ q : Nat, VF p l e R s m args below meth c (cells + 1) (slots + N) D A nL Q X (ws' q) (pc + 3) lv (.ref q :: st)) : VF p l e R s m args below meth c cells slots D A nL Q X ws pc lv st := fun r hr H locs ls hP hD hS hl =>
  va_new (ci := ci) (fs := fs) C.1 C.2.1 C.2.2.2.2.1 L.2.1 ty hty C.2.2.2.1 (C.2.2.2.2.1 _ L.2.2.1) (C.2.2.2.2.1 _ L.2.2.2.1) (C.2.2.2.2.1 _ L.2.2.2.2) C.2.2.2.2.2.1 hP hD hS C.2.2.2.2.2.2.2.1 L.1 hfs hcells hslots hdg (fun q H1 hP1 hD1 hS1 => kk q r hr H1 locs ls (hws q ▸ hP1) (hws q ▸ hD1) hS1 hl)
theorem VF.newaI (C : CX p s m args meth c cc nL own D cI cZ A rt) {n : Int32} {N : Nat} (hw : Cond.arrayClass .int ∈ wT) (hn : n = nI N) (hN : N < 2 ^ 20) (hcells : cells + 1 ≤ R.cells) (hslots : slots + N ≤ R.slots) (hdg : decode cc pc = .ok (.newarray .int, 2)) {ws' : Nat → va_W} (hws : ∀ q, ws ++ [(q, .inl (cI, N, .inl zf))] = ws' q)
    (kk : ∀ q : Nat, VF p l e R s m args below meth c (cells + 1) (slots + N) D A nL Q X (ws' q) (pc + 2) lv (.ref q :: st)) : VF p l e R s m args below meth c cells slots D A nL Q X ws pc lv (.int n :: st) := fun r hr H locs ls hP hD hS hl => by
  refine va_newa (atype := .int) (ty := .int) (a0 := (N, .inl zf)) C.1 C.2.1 (C.2.2.2.2.1 _ hw) rfl C.2.2.2.2.2.1 hP hD hS C.2.2.2.2.2.2.2.1 (fun cA => rfl) (by rw [hn]; exact nI_pos (Nat.lt_trans hN (Nat.le_of_ble_eq_true rfl))) (by rw [hn]; exact nI_clamp (Nat.lt_trans hN (Nat.le_of_ble_eq_true rfl))) (by show N * 4 ≤ 536870912; omega) hcells hslots hdg (fun q cA H1 hK1 hP1 hD1 hS1 => ?_)
  have e1 := (hK1.2 2 (cA, .int) rfl).2
  have e2 := (hK1.2 0 (cI, .int) rfl).2
  have e3 : cA = cI := Option.some.inj (e1.symm.trans e2)
  subst e3
  exact kk q r hr H1 locs ls (hws q ▸ hP1) (hws q ▸ hD1) hS1 hl
theorem VF.newaZ (C : CX p s m args meth c cc nL own D cI cZ A rt) {n : Int32} {N : Nat} (hw : Cond.arrayClass .boolean ∈ wT) (hn : n = nI N) (hN : N < 2 ^ 20) (hcells : cells + 1 ≤ R.cells) (hslots : slots + N ≤ R.slots) (hdg : decode cc pc = .ok (.newarray .boolean, 2)) {ws' : Nat → va_W} (hws : ∀ q, ws ++ [(q, .inl (cZ, N, .inl zf))] = ws' q)
    (kk : ∀ q : Nat, VF p l e R s m args below meth c (cells + 1) (slots + N) D A nL Q X (ws' q) (pc + 2) lv (.ref q :: st)) : VF p l e R s m args below meth c cells slots D A nL Q X ws pc lv (.int n :: st) := fun r hr H locs ls hP hD hS hl => by
  refine va_newa (atype := .boolean) (ty := .boolean) (a0 := (N, .inl zf)) C.1 C.2.1 (C.2.2.2.2.1 _ hw) rfl C.2.2.2.2.2.1 hP hD hS C.2.2.2.2.2.2.2.1 (fun cA => rfl) (by rw [hn]; exact nI_pos (Nat.lt_trans hN (Nat.le_of_ble_eq_true rfl))) (by rw [hn]; exact nI_clamp (Nat.lt_trans hN (Nat.le_of_ble_eq_true rfl))) (by show N * 1 ≤ 536870912; omega) hcells hslots hdg (fun q cA H1 hK1 hP1 hD1 hS1 => ?_)
  have e1 := (hK1.2 2 (cA, .boolean) rfl).2
  have e2 := (hK1.2 1 (cZ, .boolean) rfl).2
  have e3 : cA = cZ := Option.some.inj (e1.symm.trans e2)
  subst e3
  exact kk q r hr H1 locs ls (hws q ▸ hP1) (hws q ▸ hD1) hS1 hl
theorem VF.putF (C : CX p s m args meth c cc nL own D cI cZ A rt) {index ci N k : Nat} {C0 : String} {T : u_T} (hin2 : meth.name = "<init>") (f : FLk own index ci C0 T N k) (ty0 : Nat → FieldType) (hty : ∀ k, k < N → parseFieldDescriptor (T k).2.2.1 = some (ty0 k)) (hnm : ∀ a, a < N → ∀ b, b < N → a ≠ b → (T a).2.1 ≠ (T b).2.1) (q0 : Nat) {a : Nat} {fs : List Value} {v : Value} {ws' : va_W} (he : ws[q0]? = some (a, .inr (ci, fs))) (hfin : (T k).2.2.2 = true) (hdecl : (T k).1 = own) (hn : narrow (ty0 k) v = v) (hfit : fits (ty0 k) v = true) (hlen : k < fs.length) (hws : ws.set q0 (a, .inr (ci, fs.set k v)) = ws') (hdg : decode cc pc = .ok (.putfield index, 3)) (kk : VF p l e R s m args below meth c cells slots D A nL Q X ws' (pc + 3) lv st) : VF p l e R s m args below meth c cells slots D A nL Q X ws pc lv (v :: .ref a :: st) := by
  subst hws
  exact fun r hr H locs ls hP hD hS hl => va_putF C.1 C.2.1 C.2.2.2.2.1 f.2.1 ty0 hty hnm C.2.2.2.1 C.2.2.2.2.2.1 hP hD hS q0 he f.1 k f.2.2.1 (C.2.2.2.2.1 _ f.2.2.2) (fun _ h => h) hfin hin2 hdecl (hty k f.2.2.1) hn hfit hlen hdg (fun H1 locs1 hP1 hD1 hS1 => kk r hr H1 locs1 ls hP1 hD1 hS1 hl)
theorem VF.vretN (C : CX p s m args meth c cc nL own D cI cZ A none) {wv : τ → (Nat → Nat) → va_W} {r0 : τ} (q : Nat → Nat) (hw : wv r0 q = ws) (hdg : decode cc pc = .ok (.return_, 1)) : VF p l e R s m args below meth c cells slots D A nL (fun r => MQ below (QcN D (wv r) A) args s cells slots A) (some r0) ws pc lv [] := fun r hr H locs ls hP hD hS hl => by
  cases hr
  exact W.vret C.1 C.2.1 C.2.2.2.2.2.2.2.2.1 (fun t ht _ => ⟨⟨rfl, q, by rw [hw, ht]; exact hP, by rw [hw]; exact hD⟩, hS.F ht⟩) hS.2.2 hdg C.2.2.2.2.2.2.2.2.2
theorem VF.callI0 (C : CX p s m args meth c cc nL own D cI cZ A rt) {σ : Type} {y0 : MethodName} {bytes : ByteArray} {idx maxL fr lo mc ms b : Nat} {e0 : va_E} {Z : Option σ} {wv : σ → (Nat → Nat) → va_W} {y : σ} (hZ : Z = some y) (L : LkI own idx y0 bytes maxL) (M : CtrN l y0 bytes maxL fr lo mc ms D cI cZ [.ref b] [(b, e0)] Z wv) (wr : va_W) (hws : ws = wr ++ [(b, e0)]) {ws' : (Nat → Nat) → va_W} (hws' : ∀ q, wr ++ wv y q = ws' q) (hroom : (st.map fun v => v.category).sum ≤ 8) (hR : fr + 1 ≤ R.frames ∧ 8 + (maxL + 11) + lo ≤ R.locals) (hdg : decode cc pc = .ok (.invokespecial idx, 3)) (hf : cells + mc ≤ R.cells ∧ slots + ms ≤ R.slots)
    (kk : ∀ q : Nat → Nat, VF p l e R s m args below meth c (cells + mc) (slots + ms) D A nL Q X (ws' q) (pc + 3) lv st) : VF p l e R s m args below meth c cells slots D A nL Q X ws pc lv (.ref b :: st) := by
  intro r hr H locs ls hP hD hS hl
  subst hws
  have hlen : (wr ++ [(b, e0)])[wr.length]? = some (b, e0) := by simp
  have hPw : va_P D vwCl [(b, e0)] H := fun k q hq => by
    have hz : k < 1 := (List.getElem?_eq_some_iff.mp hq).1
    rw [show k = 0 by omega] at hq
    cases hq
    exact hP wr.length _ hlen
  have hDw : va_D (fun _ => True) [(b, e0)] := ⟨fun i j p q hp hq _ => by
    have h1 : i < 1 := (List.getElem?_eq_some_iff.mp hp).1
    have h2 : j < 1 := (List.getElem?_eq_some_iff.mp hq).1
    omega, fun _ _ _ => trivial⟩
  have hC : [wr.length].map (fun i => (wr ++ [(b, e0)])[i]?) = ([(b, e0)] : va_W).map some := by simp
  have hFc := va_free (wc := [(b, e0)]) hD hS C.2.2.2.2.2.2.2.1 [wr.length] hC
  have hrun := va_runI (As := []) (rest := st) (b := b) (H := H) (locs := locs) (cells := cells) (slots := slots) (below := below) (meth := meth) (e := e) (R := R) (g := F0 m pc ls (.ref b :: st)) ⟨C.1, C.2.1, C.2.2.1, C.2.2.2.1, C.2.2.2.2.1⟩ (M y hZ H.size) ⟨callB_of 0 C.2.2.2.2.1 (good_wT (wM_in L.1.2.2.2)) rfl rfl rfl (C.2.2.2.2.1 _ L.1.2.2.1) (C.2.2.2.2.1 _ L.1.1) L.2.2 hR, L.2.1, C.2.2.2.2.1 _ L.1.2.1⟩ ⟨PcX.blind, PcX.at C hPw hDw⟩ rfl rfl hl.1 rfl (lv_room hroom) hdg hf
  intro T hT X0
  obtain ⟨v, st₀, t, T', L', h0, X', hL, e1, e2, ⟨⟨hv, q, hb1, hb2⟩, hz, hk⟩, sx⟩ := hrun T hT X0
  cases hv
  rw [h0] at hz hk
  have hj : va_P D vwCl (wr ++ wv y q) T'.heap ∧ va_D A (wr ++ wv y q) := by
    have hRm : (List.range wr.length).map (fun i => (wr ++ [(b, e0)])[i]?) = wr.map some := by
      apply List.ext_getElem?
      intro i
      rw [List.getElem?_map, List.getElem?_map]
      by_cases hi : i < wr.length
      · rw [List.getElem?_range hi]
        simp [List.getElem?_append_left hi, List.getElem?_eq_getElem hi]
      · rw [List.getElem?_eq_none (by simp; omega), List.getElem?_eq_none (by omega)]
        rfl
    exact va_join (wr := wr) (w1 := wv y q) hP hD [wr.length] (List.range wr.length) hC hRm (va_ndR _) (fun i hi h => by
      have h1 := List.mem_range.mp hi
      have h2 := List.mem_singleton.mp h
      omega) (fun q h1 h2 => by rw [e1]; exact hk q h1 h2) hFc (by rw [e1]; exact hb1) hb2
  obtain ⟨t2, a1, b1⟩ := kk q r hr T'.heap (locs ++ L') ls (hws' q ▸ hj.1) (hws' q ▸ hj.2)
    ⟨Nat.le_trans hS.1 (by rw [e1]; exact hz), fun q h1 h2 => by rw [e1, hk q (Nat.lt_of_lt_of_le h1 hS.1) (fun z => h2 (hFc q z))]; exact hS.2.1 q h1 h2, fun q hq => by
      rcases List.mem_append.mp hq with h | h
      · exact hS.2.2 q h
      · exact hFc _ (hL q h)⟩ hl T' rfl X'
  exact ⟨t2, sx t2 a1, b1⟩
theorem VF.callI (C : CX p s m args meth c cc nL own D cI cZ A rt) {σ : Type} {y0 : MethodName} {bytes : ByteArray} {idx maxL fr lo mc ms b : Nat} {e0 : va_E} {Z : Option σ} {wv : σ → (Nat → Nat) → va_W} {K : σ → Option τ} (L : LkI own idx y0 bytes maxL) (M : CtrN l y0 bytes maxL fr lo mc ms D cI cZ [.ref b] [(b, e0)] Z wv) (wr : va_W) (hws : ws = wr ++ [(b, e0)]) {ws' : σ → (Nat → Nat) → va_W} (hws' : ∀ y q, wr ++ wv y q = ws' y q) (hroom : (st.map fun v => v.category).sum ≤ 8) (hR : fr + 1 ≤ R.frames ∧ 8 + (maxL + 11) + lo ≤ R.locals) (hdg : decode cc pc = .ok (.invokespecial idx, 3)) (hf : cells + mc ≤ R.cells ∧ slots + ms ≤ R.slots)
    (kk : ∀ (y : σ) (q : Nat → Nat), VF p l e R s m args below meth c (cells + mc) (slots + ms) D A nL Q (K y) (ws' y q) (pc + 3) lv st) : VF p l e R s m args below meth c cells slots D A nL Q (oB Z K) ws pc lv (.ref b :: st) := by
  intro r hr
  obtain ⟨y, hy, hk⟩ := oB_some hr
  exact VF.callI0 C hy L M wr hws (hws' y) hroom hR hdg hf (kk y) r hk
theorem VF.callV0 (C : CX p s m args meth c cc nL own D cI cZ A rt) {σ : Type} {y0 : MethodName} {bytes : ByteArray} {idx maxL fr lo n : Nat} {ret : Option FieldType} {As rest st0 : List Value} {w : va_W} {Z : Option σ} {rv : σ → Option Value} {wv : σ → va_W} {ci N b : Nat} {T : u_T} {fs : List Value} {y : σ} (hZ : Z = some y) (L : LkV own idx y0 bytes maxL ret n) (M : Ctr l y0 bytes maxL ret fr lo D cI cZ (.ref b :: As) w Z rv wv) {rr : Int32} (hrv : rv y = some (.int rr)) (ms : List (Option Nat)) {nc : Nat} (hcov : Cov w ms nc) {ws' : va_W} (hws : St w (wv y) ms ws ws') (hcl : vwCl[ci]? = some (y0.cls, T, N)) (hq : w[0]? = some (b, .inr (ci, fs))) (hst : st0 = As.reverse ++ .ref b :: rest) (hn : As.length = n) (hroom : (rest.map fun v => v.category).sum ≤ 8) (hR : fr + 1 ≤ R.frames ∧ 8 + (maxL + 11) + lo ≤ R.locals) (hdg : decode cc pc = .ok (.invokevirtual idx, 3)) (hf : cells + 0 ≤ R.cells ∧ slots + 0 ≤ R.slots)
    (kk : VF p l e R s m args below meth c cells slots D A nL Q X ws' (pc + 3) lv (.int rr :: rest)) : VF p l e R s m args below meth c cells slots D A nL Q X ws pc lv st0 := by
  intro r hr H locs ls hP hD hS hl
  subst hst
  have hFc := hws.free hcov hD hS C.2.2.2.2.2.2.2.1
  refine vf_go (va_runV (As := As) (rest := rest) (b := b) ⟨C.1, C.2.1, C.2.2.1, C.2.2.2.1, C.2.2.2.2.1⟩ (M y hZ H.size) (cwV n C.2.2.2.2.1 (good_wT L.all) rfl rfl rfl ⟨rfl, L.2.1, L.2.2.1, L.2.2.2⟩ hR) ⟨PcX.blind, va_recv C.2.2.2.2.2.1 (hws.Pw hcov hP) hcl hq, PcX.at C (hws.Pw hcov hP) (hws.Dw hcov hD)⟩ rfl hn hl.1 rfl (lv_room hroom) hdg hf) hS (fun q _ h => hFc q h) hFc (fun H1 locs1 hP1 hk1 hS1 => ?_)
  have k1 := kk r hr H1 locs1 ls (hws.P hcov hP hD hk1 hP1) (hD.same hws.same) hS1 hl
  rw [hrv]
  exact k1
theorem VF.sld (C : CX p s m args meth c cc nL own D cI cZ A rt) {b L : Nat} {xs : Nat → Int32} (hX : va_X b L xs s s.heap) (hbl : b < s.heap.size) (hbA : ¬ A b) {i : Int32} (j : Nat) (hi : i = nI j) (hj : j < L) (hL : L < 2 ^ 31) (hdg : decode cc pc = .ok (.iaload, 1)) (kk : VF p l e R s m args below meth c cells slots D A nL Q X ws (pc + 1) lv (.int (xs j) :: st)) : VF p l e R s m args below meth c cells slots D A nL Q X ws pc lv (.int i :: .ref b :: st) := fun r hr H locs ls hP hD hS hl => by
  subst hi
  refine va_sld C.1 C.2.1 hX hbl hbA hS (vp_in_nI hj hL) hdg ?_
  rw [nI_clamp (Nat.lt_trans hj hL)]
  exact kk r hr H locs ls hP hD hS hl
theorem VF.slen (C : CX p s m args meth c cc nL own D cI cZ A rt) {b L : Nat} {xs : Nat → Int32} (hX : va_X b L xs s s.heap) (hbl : b < s.heap.size) (hbA : ¬ A b) (hdg : decode cc pc = .ok (.arraylength, 1)) (kk : VF p l e R s m args below meth c cells slots D A nL Q X ws (pc + 1) lv (.int (nI L) :: st)) : VF p l e R s m args below meth c cells slots D A nL Q X ws pc lv (.ref b :: st) := fun r hr H locs ls hP hD hS hl => va_slen C.1 C.2.1 hX hbl hbA hS hdg (kk r hr H locs ls hP hD hS hl)
theorem VF.jcmp_eq (C : CX p s m args meth c cc nL own D cI cZ A rt) {x y : Int32} {off : Int} (tgt : Nat) (hdg : decode cc pc = .ok (.if_icmp .eq off, 3)) (ht : (pc : Int) + off = (tgt : Int)) (kt : x = y → VF p l e R s m args below meth c cells slots D A nL Q X ws tgt lv st) (kf : ¬ x = y → VF p l e R s m args below meth c cells slots D A nL Q X ws (pc + 3) lv st) : VF p l e R s m args below meth c cells slots D A nL Q X ws pc lv (.int y :: .int x :: st) := fun r hr H locs ls hP hD hS hl => lv_icmp_eq C.1 C.2.1 hdg ht (fun h => kt h r hr H locs ls hP hD hS hl) (fun h => kf h r hr H locs ls hP hD hS hl)
theorem VF.jcmp_gt (C : CX p s m args meth c cc nL own D cI cZ A rt) {x y : Int32} {off : Int} (tgt : Nat) (hdg : decode cc pc = .ok (.if_icmp .gt off, 3)) (ht : (pc : Int) + off = (tgt : Int)) (kt : y < x → VF p l e R s m args below meth c cells slots D A nL Q X ws tgt lv st) (kf : ¬ y < x → VF p l e R s m args below meth c cells slots D A nL Q X ws (pc + 3) lv st) : VF p l e R s m args below meth c cells slots D A nL Q X ws pc lv (.int y :: .int x :: st) := fun r hr H locs ls hP hD hS hl => lv_icmp_gt C.1 C.2.1 hdg ht (fun h => kt h r hr H locs ls hP hD hS hl) (fun h => kf h r hr H locs ls hP hD hS hl)
end VFnew
theorem CtrN.of {l : Launch} {y : MethodName} {cc : ByteArray} {nL : Nat} {fr lo mc ms : Nat} {D : va_G} {cI cZ : ClassId} {av : List Value} {w : va_W} {τ : Type} {X : Option τ} {wv : τ → (Nat → Nat) → va_W} (hy : plainName y.cls = true) (hlen : (lg_sl av).length ≤ nL)
    (body : ∀ (p : Program) (e : Env) (s : State) (m : MethodId) (below : List Frame) (meth : Method) (c : Code) (A : Nat → Prop), meth.name = y.name → CX p s m av.toArray meth c cc nL y.cls D cI cZ A none → VF p l e { frames := fr, cells := mc, slots := ms, locals := lo } s m av.toArray below meth c 0 0 D A nL (fun r => MQ below (QcN D (wv r) A) av.toArray s mc ms A) X w 0 (lv_args 0 av) []) : CtrN l y cc nL fr lo mc ms D cI cZ av w X wv := by
  intro r hr sz
  refine Met.ofW (cc := cc) (maxL := nL) (ret := none) hy rfl ?_
  intro p e s m args below meth c s₁ B hml hv
  obtain ⟨rfl, hsz, hP, hK, hD0, hN⟩ := hv
  have hts := atoms_spec (ws := wM y cc nL none) B.pre
  have hown : s.vm.findClass y.cls = some m.cls := findClass_of_methodNamed B.named
  subst hsz
  have hl := lv_entry av (n := nL) hlen
  rw [lg_entry_eq]
  exact body p e s m below meth c (va_A w s.heap.size) (name_of_methodNamed B.named B.method).1 ⟨B.exec, B.bytes, hml, hown, fun w hw => hts w (List.mem_cons_of_mem _ hw), hK, hN, fun q h => Or.inr h, B.returns, B.notSynchronized⟩ r hr s.heap [] _ hP hD0.self va_S.rf hl
