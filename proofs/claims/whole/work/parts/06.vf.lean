/-! ===== a walk with a pure computation beside it ===== -/
abbrev Fn : Type := Nat → Int32
def wT : List Cond := lw_tbl.filter goodWord
theorem wT_at (k : Nat) {w : Cond} (h : lw_tbl[k]? = some w) (g : goodWord w = true) : w ∈ wT := List.mem_filter.mpr ⟨List.mem_of_getElem? h, g⟩
theorem good_wT {ws : List Cond} (h : ∀ w ∈ ws, w ∈ wT) : GoodIn wT ws := fun w hw => ⟨h w hw, good_of_word (List.mem_filter.mp (h w hw)).2⟩
def wM (y : MethodName) (cc : ByteArray) (n : Nat) (r : Option FieldType) : List Cond := Cond.code y cc n r :: wT
theorem wM_in {y : MethodName} {cc : ByteArray} {n : Nat} {r : Option FieldType} (h : Cond.code y cc n r ∈ wT) : ∀ w ∈ wM y cc n r, w ∈ wT := fun w hw => by
  rcases List.mem_cons.mp hw with h2 | h2
  · rw [h2]; exact h
  · exact h2
def nsW1 : Cond := .methodLinkNest "FlashLanes$Chip" 145 ⟨"FlashLanes", "remainder", "(II)I"⟩ "FlashLanes"
def nsW2 : Cond := .methodLinkNest "FlashLanes$Chip" 175 ⟨"FlashLanes", "quotient", "(II)I"⟩ "FlashLanes"
def nsW3 : Cond := .methodLinkNest "FlashLanes$Wires" 32 ⟨"FlashLanes", "remainder", "(II)I"⟩ "FlashLanes"
/-- the three links of nest mates -/
def Nst (U : State) : Prop := va_Nw nsW1 U ∧ va_Nw nsW2 U ∧ va_Nw nsW3 U
theorem Nst.warm {s U : State} (hW : s.WarmedH U.vm) (h : Nst s) : Nst U := ⟨va_Nw.warmM hW h.1, va_Nw.warmM hW h.2.1, va_Nw.warmM hW h.2.2⟩
theorem Nst.same {u U : State} (h : u.vm = U.vm) (n : Nst u) : Nst U := ⟨va_Nw.same rfl h n.1, va_Nw.same rfl h n.2.1, va_Nw.same rfl h n.2.2⟩
abbrev tyL (cI cZ : ClassId) : List (ClassId × FieldType) := [(cI, .int), (cZ, .boolean)]
def PcX (av : List Value) (D : va_G) (cI cZ : ClassId) (w : va_W) (sz : Nat) : Array Value → State → Prop :=
  va_Pc av (fun U => U.heap.size = sz ∧ va_P D vwCl w U.heap ∧ va_K D vwCl (tyL cI cZ) U ∧ va_D (fun _ => True) w ∧ Nst U)
theorem PcX.blind {av : List Value} {D : va_G} {cI cZ : ClassId} {w : va_W} {sz : Nat} : FrameBlind (PcX av D cI cZ w sz) := fun a U g mk q => by
  obtain ⟨q0, q1, qP, qK, qD, qN⟩ := q
  exact ⟨q0, q1, qP, va_K.moved (u := U) (U := U.calling g mk a) (Vm.Alike.refl U.vm) qK, qD, Nst.same (u := U) rfl qN⟩
def QcX (rv : Option Value) (D : va_G) (w : va_W) (A : Nat → Prop) : Array Value → State → Outcome → State → Prop := fun _ st oc t => (oc = .returned rv ∧ va_P D vwCl w t.heap) ∧ va_F A st t
/-- a method's contract beside a pure computation X: where X has a value, the method returns it -/
def Ctr (l : Launch) (y : MethodName) (cc : ByteArray) (nL : Nat) (rt : Option FieldType) (fr lo : Nat) (D : va_G) (cI cZ : ClassId) (av : List Value) (w : va_W) {τ : Type} (X : Option τ) (rv : τ → Option Value) (wv : τ → va_W) : Prop :=
  ∀ r : τ, X = some r → ∀ sz : Nat, Met l y (wM y cc nL rt) { frames := fr, cells := 0, slots := 0, locals := lo } (PcX av D cI cZ w sz) (QcX (rv r) D (wv r) (va_A w sz)) 0 0 (va_A w sz)
/-- what stays the same during a walk -/
def CX (p : Program) (s : State) (m : MethodId) (args : Array Value) (meth : Method) (c : Code) (cc : ByteArray) (nL : Nat) (own : String) (D : va_G) (cI cZ : ClassId) (A : Nat → Prop) (rt : Option FieldType) : Prop :=
  p.tables.exec = Jvm.exec ∧ c.code = cc ∧ c.maxLocals = nL ∧ s.vm.findClass own = some m.cls ∧ (∀ w ∈ wT, w.before args s = true) ∧ va_K D vwCl (tyL cI cZ) s ∧ Nst s ∧ (∀ q, s.heap.size ≤ q → A q) ∧ meth.sig.returnType = rt ∧ meth.locks = false
def VF (p : Program) (l : Launch) (e : Env) (R : Room) (s : State) (m : MethodId) (args : Array Value) (below : List Frame) (meth : Method) (c : Code) (cells slots : Nat) (D : va_G) (A : Nat → Prop) (nL : Nat) {τ : Type} (Q : τ → State → Prop) (X : Option τ) (ws : va_W) (pc : Nat) (lv : List (Nat × Value)) (st : List Value) : Prop :=
  ∀ r : τ, X = some r → ∀ (H : Heap) (locs : List Loc) (ls : Array Slot), va_P D vwCl ws H → va_D A ws → va_S A s.heap H locs → lv_has ls nL lv → W p l e R s m args below meth c H locs cells slots (Q r) (F0 m pc ls st)
/-! pure computations -/
def irm (x y : Int32) : Int32 := x - x / y * y
def isl (x y : Int32) : Int32 := x <<< (y &&& 31)
def isr (x y : Int32) : Int32 := x >>> (y &&& 31)
abbrev ix (i : Int32) : Nat := i.toNatClampNeg
def oB {α β : Type} (x : Option α) (k : α → Option β) : Option β := match x with
  | some a => k a
  | none => none
theorem oB_some {α β : Type} {x : Option α} {k : α → Option β} {b : β} (h : oB x k = some b) : ∃ a, x = some a ∧ k a = some b := by
  cases x with
  | none => cases h
  | some a => exact ⟨a, rfl, h⟩
def oI {α : Type} (i : Int32) (n : Nat) (k : Option α) : Option α := if i < 0 ∨ n ≤ i.toNatClampNeg then none else k
theorem oI_some {α : Type} {i : Int32} {n : Nat} {k : Option α} {b : α} (h : oI i n k = some b) : vp_in i n ∧ k = some b := by
  unfold oI at h
  by_cases q : i < 0 ∨ n ≤ i.toNatClampNeg
  · rw [if_pos q] at h; cases h
  · rw [if_neg q] at h; exact ⟨q, h⟩
def oD {α : Type} (y : Int32) (k : Option α) : Option α := if y = 0 then none else k
theorem oD_some {α : Type} {y : Int32} {k : Option α} {b : α} (h : oD y k = some b) : ¬ y = 0 ∧ k = some b := by
  unfold oD at h
  by_cases q : y = 0
  · rw [if_pos q] at h; cases h
  · rw [if_neg q] at h; exact ⟨q, h⟩
def oZ {α : Type} (x : Int32) (k : Option α) : Option α := if x = 0 ∨ x = 1 then k else none
theorem oZ_some {α : Type} {x : Int32} {k : Option α} {b : α} (h : oZ x k = some b) : (x = 0 ∨ x = 1) ∧ k = some b := by
  unfold oZ at h
  by_cases q : x = 0 ∨ x = 1
  · rw [if_pos q] at h; exact ⟨q, h⟩
  · rw [if_neg q] at h; cases h
theorem z_nar {x : Int32} (h : x = 0 ∨ x = 1) : narrow .boolean (.int x) = .int x := by rcases h with rfl | rfl <;> rfl
theorem z_fit {x : Int32} (h : x = 0 ∨ x = 1) : fits .boolean (.int x) = true := by rcases h with rfl | rfl <;> rfl
theorem z_vp {x : Int32} (h : x = 0 ∨ x = 1) : vp_nar .boolean x = x := by rcases h with rfl | rfl <;> rfl
/-! worlds, set in place -/
/-- ws' is ws with w' in the places of w: where each cell comes from (none: it stays; some j: the callee's cell j) -/
def St (w w' : va_W) : List (Option Nat) → va_W → va_W → Prop
  | [], [], [] => True
  | none :: ms, q :: ws, q' :: ws' => q' = q ∧ St w w' ms ws ws'
  | some j :: ms, q :: ws, q' :: ws' => (w[j]? = some q ∧ w'[j]? = some q' ∧ q'.1 = q.1) ∧ St w w' ms ws ws'
  | _, _, _ => False
theorem St.at {w w' : va_W} : ∀ {ms : List (Option Nat)} {ws ws' : va_W}, St w w' ms ws ws' → ∀ k : Nat, (∃ q q', ws[k]? = some q ∧ ws'[k]? = some q' ∧ q'.1 = q.1 ∧ ((ms[k]? = some none ∧ q' = q) ∨ ∃ j : Nat, ms[k]? = some (some j) ∧ w[j]? = some q ∧ w'[j]? = some q')) ∨ (ms[k]? = none ∧ ws[k]? = none ∧ ws'[k]? = none) := by
  intro ms
  induction ms with
  | nil =>
    intro ws ws' h k
    match ws, ws', h with
    | [], [], _ => exact Or.inr ⟨rfl, rfl, rfl⟩
  | cons o ms ih =>
    intro ws ws' h k
    match o, ws, ws', h with
    | none, q :: ws, q' :: ws', h =>
      obtain ⟨h1, h2⟩ := h
      cases k with
      | zero => exact Or.inl ⟨q, q', rfl, rfl, by rw [h1], Or.inl ⟨rfl, h1⟩⟩
      | succ k => simpa using ih h2 k
    | some j, q :: ws, q' :: ws', h =>
      obtain ⟨⟨h1, h3, h4⟩, h2⟩ := h
      cases k with
      | zero => exact Or.inl ⟨q, q', rfl, rfl, h4, Or.inr ⟨j, rfl, h1, h3⟩⟩
      | succ k => simpa using ih h2 k
def Cov (w : va_W) (ms : List (Option Nat)) (n : Nat) : Prop := w.length = n ∧ (List.range n).all (fun j => ms.contains (some j)) = true
theorem St.in {w w' ws ws' : va_W} {ms : List (Option Nat)} {n : Nat} (h : St w w' ms ws ws') (c : Cov w ms n) (j : Nat) (q : Nat × va_E) (hq : w[j]? = some q) : ∃ k : Nat, ms[k]? = some (some j) ∧ ws[k]? = some q := by
  have hj : j < n := by rw [← c.1]; exact (List.getElem?_eq_some_iff.mp hq).1
  have h1 := List.all_eq_true.mp c.2 j (List.mem_range.mpr hj)
  simp only [List.contains_iff_mem] at h1
  obtain ⟨k, hk⟩ := List.mem_iff_getElem?.mp h1
  refine ⟨k, hk, ?_⟩
  rcases h.at k with ⟨q1, q2, a1, a2, a3, a4⟩ | ⟨a1, _, _⟩
  · rcases a4 with ⟨b1, _⟩ | ⟨j2, b1, b2, _⟩
    · rw [hk] at b1; cases b1
    · rw [hk] at b1
      cases b1
      rw [hq] at b2
      cases b2
      exact a1
  · rw [hk] at a1; cases a1
def SameA (w1 w2 : va_W) : Prop := ∀ (k : Nat) (q : Nat × va_E), w1[k]? = some q → ∃ q', w2[k]? = some q' ∧ q'.1 = q.1
theorem SameA.set {ws : va_W} {i : Nat} {a q' : Nat × va_E} (h : ws[i]? = some q') (e : q'.1 = a.1) : SameA (ws.set i a) ws := by
  intro k q hq
  by_cases hk : k = i
  · subst hk
    have hlt : k < ws.length := (List.getElem?_eq_some_iff.mp h).1
    rw [List.getElem?_set_self hlt] at hq
    cases hq
    exact ⟨q', h, e⟩
  · rw [List.getElem?_set_ne (fun z => hk z.symm)] at hq
    exact ⟨q, hq, rfl⟩
theorem SameA.trans {a b c : va_W} (h : SameA a b) (g : SameA b c) : SameA a c := fun k q hq => by
  obtain ⟨q1, h1, e1⟩ := h k q hq
  obtain ⟨q2, h2, e2⟩ := g k q1 h1
  exact ⟨q2, h2, e2.trans e1⟩
theorem va_D.same {A : Nat → Prop} {w1 w2 : va_W} (hD : va_D A w2) (h : SameA w1 w2) : va_D A w1 := by
  refine ⟨fun i j p q hp hq e => ?_, fun k q hq => ?_⟩
  · obtain ⟨p1, h1, e1⟩ := h i p hp
    obtain ⟨q1, h2, e2⟩ := h j q hq
    exact hD.1 i j p1 q1 h1 h2 (by rw [e1, e2, e])
  · obtain ⟨q1, h1, e1⟩ := h k q hq
    rw [← e1]
    exact hD.2 k q1 h1
theorem St.same {w w' ws ws' : va_W} {ms : List (Option Nat)} (h : St w w' ms ws ws') : SameA ws' ws := by
  intro k q hq
  rcases h.at k with ⟨q1, q2, a1, a2, a3, _⟩ | ⟨_, _, a3⟩
  · rw [hq] at a2
    cases a2
    exact ⟨q1, a1, a3.symm⟩
  · rw [hq] at a3; cases a3
theorem St.free {A0 : Nat → Prop} {w w' ws ws' : va_W} {ms : List (Option Nat)} {n : Nat} {H0 H : Heap} {locs : List Loc} (h : St w w' ms ws ws') (c : Cov w ms n) (hD : va_D A0 ws) (hS : va_S A0 H0 H locs) (hA : ∀ q, H0.size ≤ q → A0 q) : ∀ q, va_A w H.size q → A0 q := by
  intro q hq
  rcases hq with ⟨j, e, hj⟩ | hq
  · obtain ⟨k, _, hk⟩ := h.in c j (q, e) hj
    exact hD.2 k (q, e) hk
  · exact hA q (Nat.le_trans hS.1 hq)
theorem St.Pw {D : va_G} {w w' ws ws' : va_W} {ms : List (Option Nat)} {n : Nat} {H : Heap} (h : St w w' ms ws ws') (c : Cov w ms n) (hP : va_P D vwCl ws H) : va_P D vwCl w H := fun j q hq => by
  obtain ⟨k, _, hk⟩ := h.in c j q hq
  exact hP k q hk
theorem St.Dw {A0 : Nat → Prop} {w w' ws ws' : va_W} {ms : List (Option Nat)} {n : Nat} (h : St w w' ms ws ws') (c : Cov w ms n) (hD : va_D A0 ws) : va_D (fun _ => True) w := by
  refine ⟨fun i j p q hp hq e => ?_, fun _ _ _ => trivial⟩
  obtain ⟨k1, a1, b1⟩ := h.in c i p hp
  obtain ⟨k2, a2, b2⟩ := h.in c j q hq
  have := hD.1 k1 k2 p q b1 b2 e
  subst this
  rw [a1] at a2
  cases a2
  rfl
theorem St.P {A0 : Nat → Prop} {D : va_G} {w w' ws ws' : va_W} {ms : List (Option Nat)} {n : Nat} {H H1 : Heap} (h : St w w' ms ws ws') (c : Cov w ms n) (hP : va_P D vwCl ws H) (hD : va_D A0 ws)
    (hk : ∀ q : Nat, q < H.size → ¬ va_A w H.size q → H1[q]? = H[q]?) (hP1 : va_P D vwCl w' H1) : va_P D vwCl ws' H1 := by
  intro k q hq
  rcases h.at k with ⟨q1, q2, a1, a2, a3, a4⟩ | ⟨_, _, a3⟩
  · rw [hq] at a2
    cases a2
    rcases a4 with ⟨b1, b2⟩ | ⟨j, _, _, b2⟩
    · subst b2
      refine (hP k q a1).kept (hk q.1 (hP k q a1).lt fun z => ?_)
      rcases z with ⟨j, e, z⟩ | z
      · obtain ⟨k2, c1, c2⟩ := h.in c j (q.1, e) z
        have := hD.1 k k2 q (q.1, e) a1 c2 rfl
        subst this
        rw [b1] at c1
        cases c1
      · have := (hP k q a1).lt
        omega
    · exact hP1 j q b2
  · rw [hq] at a3; cases a3
/-! links -/
def FLk (own : String) (index ci : Nat) (C : String) (T : u_T) (N k : Nat) : Prop := vwCl[ci]? = some (C, T, N) ∧ (∀ w ∈ u_ws C T N, w ∈ wT) ∧ k < N ∧ Cond.fieldLink own index (T k).1 (T k).2.1 (T k).2.2.1 ∈ wT
def LkV (own : String) (idx : Nat) (y : MethodName) (bytes : ByteArray) (maxL : Nat) (ret : Option FieldType) (n : Nat) : Prop :=
  (Cond.methodLink own idx y ∈ wT ∧ Cond.instanceMethod y ∈ wT ∧ Cond.selects y.cls y y ∈ wT ∧ Cond.initialized y.cls ∈ wT ∧ Cond.code y bytes maxL ret ∈ wT) ∧ y.cls ≠ "java/lang/invoke/MethodHandle" ∧ y.cls ≠ "java/lang/invoke/VarHandle" ∧ (parseMethodDescriptor y.desc).map (fun d => d.parameters.length) = some n
def LkS (own : String) (idx : Nat) (y : MethodName) (bytes : ByteArray) (maxL : Nat) (ret : Option FieldType) (n : Nat) : Prop :=
  (Cond.methodLink own idx y ∈ wT ∧ Cond.static y ∈ wT ∧ Cond.initialized y.cls ∈ wT ∧ Cond.code y bytes maxL ret ∈ wT) ∧ y.cls ≠ "java/lang/invoke/MethodHandle" ∧ y.cls ≠ "java/lang/invoke/VarHandle" ∧ (parseMethodDescriptor y.desc).map (fun d => d.parameters.length) = some n
def LkN (y : MethodName) (bytes : ByteArray) (maxL : Nat) (ret : Option FieldType) (n : Nat) : Prop :=
  (Cond.static y ∈ wT ∧ Cond.initialized y.cls ∈ wT ∧ Cond.code y bytes maxL ret ∈ wT) ∧ y.cls ≠ "java/lang/invoke/MethodHandle" ∧ y.cls ≠ "java/lang/invoke/VarHandle" ∧ (parseMethodDescriptor y.desc).map (fun d => d.parameters.length) = some n
theorem LkV.all {own : String} {idx : Nat} {y : MethodName} {bytes : ByteArray} {maxL : Nat} {ret : Option FieldType} {n : Nat} (L : LkV own idx y bytes maxL ret n) : ∀ w ∈ wsV own idx y.cls y (wM y bytes maxL ret), w ∈ wT := by
  intro w hw
  rcases List.mem_append.mp hw with h | h
  · simp only [List.mem_cons, List.not_mem_nil, or_false] at h
    rcases h with rfl | rfl | rfl | rfl
    · exact L.1.1
    · exact L.1.2.1
    · exact L.1.2.2.1
    · exact L.1.2.2.2.1
  · exact wM_in L.1.2.2.2.2 w h
section VFrows
variable {p : Program} {l : Launch} {e : Env} {R : Room} {s : State} {m : MethodId} {args : Array Value} {below : List Frame} {meth : Method} {c : Code} {cells slots : Nat} {D : va_G} {A : Nat → Prop} {nL : Nat} {τ : Type} {Q : τ → State → Prop} {X Y : Option τ} {ws : va_W} {pc : Nat} {lv : List (Nat × Value)} {st : List Value}
  {cc : ByteArray} {own : String} {cI cZ : ClassId} {rt : Option FieldType}
theorem VF.eq (h : X = Y) (k : VF p l e R s m args below meth c cells slots D A nL Q Y ws pc lv st) : VF p l e R s m args below meth c cells slots D A nL Q X ws pc lv st := by rw [h]; exact k
theorem VF.lve {lv' : List (Nat × Value)} (h : lv = lv') (k : VF p l e R s m args below meth c cells slots D A nL Q X ws pc lv' st) : VF p l e R s m args below meth c cells slots D A nL Q X ws pc lv st := by rw [h]; exact k
theorem VF.ste {st' : List Value} (h : st = st') (k : VF p l e R s m args below meth c cells slots D A nL Q X ws pc lv st') : VF p l e R s m args below meth c cells slots D A nL Q X ws pc lv st := by rw [h]; exact k
theorem VF.lvs (ps : List Nat) {lv' : List (Nat × Value)} (h : lv_pick lv ps = lv') (k : VF p l e R s m args below meth c cells slots D A nL Q X ws pc lv' st) : VF p l e R s m args below meth c cells slots D A nL Q X ws pc lv st := fun r hr H locs ls hP hD hS hl => k r hr H locs ls hP hD hS (lv_sub hl ps h)
theorem VF.nn : VF p l e R s m args below meth c cells slots D A nL Q none ws pc lv st := fun _ h => by cases h
theorem VF.ite {P : Prop} [Decidable P] (kt : P → VF p l e R s m args below meth c cells slots D A nL Q X ws pc lv st) (kf : ¬ P → VF p l e R s m args below meth c cells slots D A nL Q Y ws pc lv st) : VF p l e R s m args below meth c cells slots D A nL Q (if P then X else Y) ws pc lv st := by
  by_cases h : P
  · rw [if_pos h]; exact kt h
  · rw [if_neg h]; exact kf h

theorem VF.iconst (C : CX p s m args meth c cc nL own D cI cZ A rt) {n : Int} {v : Int32} (hdg : decode cc pc = .ok (.iconst n, 1)) (hv : Int32.ofInt n = v) (k : VF p l e R s m args below meth c cells slots D A nL Q X ws (pc + 1) lv (.int v :: st)) : VF p l e R s m args below meth c cells slots D A nL Q X ws pc lv st := fun r hr H locs ls hP hD hS hl => lv_iconst C.1 C.2.1 hdg hv (k r hr H locs ls hP hD hS hl)
theorem VF.bipush (C : CX p s m args meth c cc nL own D cI cZ A rt) {n : Int} {v : Int32} (hdg : decode cc pc = .ok (.bipush n, 2)) (hv : (Int8.ofInt n).toInt32 = v) (k : VF p l e R s m args below meth c cells slots D A nL Q X ws (pc + 2) lv (.int v :: st)) : VF p l e R s m args below meth c cells slots D A nL Q X ws pc lv st := fun r hr H locs ls hP hD hS hl => lv_bipush C.1 C.2.1 hdg hv (k r hr H locs ls hP hD hS hl)
theorem VF.sipush (C : CX p s m args meth c cc nL own D cI cZ A rt) {n : Int} {v : Int32} (hdg : decode cc pc = .ok (.sipush n, 3)) (hv : (Int16.ofInt n).toInt32 = v) (k : VF p l e R s m args below meth c cells slots D A nL Q X ws (pc + 3) lv (.int v :: st)) : VF p l e R s m args below meth c cells slots D A nL Q X ws pc lv st := fun r hr H locs ls hP hD hS hl => lv_sipush C.1 C.2.1 hdg hv (k r hr H locs ls hP hD hS hl)
theorem VF.lconst (C : CX p s m args meth c cc nL own D cI cZ A rt) {n : Fin 2} {v : Int64} (hdg : decode cc pc = .ok (.lconst n, 1)) (hv : Int64.ofNat (n : Nat) = v) (k : VF p l e R s m args below meth c cells slots D A nL Q X ws (pc + 1) lv (.long v :: st)) : VF p l e R s m args below meth c cells slots D A nL Q X ws pc lv st := fun r hr H locs ls hP hD hS hl => lv_lconst C.1 C.2.1 hdg hv (k r hr H locs ls hP hD hS hl)
theorem VF.ldc (C : CX p s m args meth c cc nL own D cI cZ A rt) {index : Nat} {v : Int32} (hw : Cond.constant own index v ∈ wT) (hdg : decode cc pc = .ok (.ldc index, 2)) (k : VF p l e R s m args below meth c cells slots D A nL Q X ws (pc + 2) lv (.int v :: st)) : VF p l e R s m args below meth c cells slots D A nL Q X ws pc lv st := fun r hr H locs ls hP hD hS hl => lv_ldc C.1 C.2.1 C.2.2.2.1 (C.2.2.2.2.1 _ hw) hdg (k r hr H locs ls hP hD hS hl)
theorem VF.ldc2 (C : CX p s m args meth c cc nL own D cI cZ A rt) {index : Nat} {v : Int64} (hw : Cond.constantLong own index v ∈ wT) (hdg : decode cc pc = .ok (.ldc2_w index, 3)) (k : VF p l e R s m args below meth c cells slots D A nL Q X ws (pc + 3) lv (.long v :: st)) : VF p l e R s m args below meth c cells slots D A nL Q X ws pc lv st := fun r hr H locs ls hP hD hS hl => lv_ldc2 C.1 C.2.1 C.2.2.2.1 (C.2.2.2.2.1 _ hw) hdg (k r hr H locs ls hP hD hS hl)
theorem VF.iload_n (C : CX p s m args meth c cc nL own D cI cZ A rt) (j : Nat) {k : Fin 4} {x : Int32} (hdg : decode cc pc = .ok (.iload_n k, 1)) (hj : lv[j]? = some ((k : Nat), .int x)) (kk : VF p l e R s m args below meth c cells slots D A nL Q X ws (pc + 1) lv (.int x :: st)) : VF p l e R s m args below meth c cells slots D A nL Q X ws pc lv st := fun r hr H locs ls hP hD hS hl => lv_iload_n C.1 C.2.1 hdg rfl (lv_at hl j hj) (kk r hr H locs ls hP hD hS hl)
theorem VF.iload (C : CX p s m args meth c cc nL own D cI cZ A rt) (j : Nat) {i : Nat} {x : Int32} (hdg : decode cc pc = .ok (.iload i, 2)) (hj : lv[j]? = some (i, .int x)) (kk : VF p l e R s m args below meth c cells slots D A nL Q X ws (pc + 2) lv (.int x :: st)) : VF p l e R s m args below meth c cells slots D A nL Q X ws pc lv st := fun r hr H locs ls hP hD hS hl => lv_iload C.1 C.2.1 hdg (lv_at hl j hj) (kk r hr H locs ls hP hD hS hl)
theorem VF.lload_n (C : CX p s m args meth c cc nL own D cI cZ A rt) (j : Nat) {k : Fin 4} {x : Int64} (hdg : decode cc pc = .ok (.lload_n k, 1)) (hj : lv[j]? = some ((k : Nat), .long x)) (kk : VF p l e R s m args below meth c cells slots D A nL Q X ws (pc + 1) lv (.long x :: st)) : VF p l e R s m args below meth c cells slots D A nL Q X ws pc lv st := fun r hr H locs ls hP hD hS hl => lv_lload_n C.1 C.2.1 hdg rfl (lv_at hl j hj) (kk r hr H locs ls hP hD hS hl)
theorem VF.lload (C : CX p s m args meth c cc nL own D cI cZ A rt) (j : Nat) {i : Nat} {x : Int64} (hdg : decode cc pc = .ok (.lload i, 2)) (hj : lv[j]? = some (i, .long x)) (kk : VF p l e R s m args below meth c cells slots D A nL Q X ws (pc + 2) lv (.long x :: st)) : VF p l e R s m args below meth c cells slots D A nL Q X ws pc lv st := fun r hr H locs ls hP hD hS hl => lv_lload C.1 C.2.1 hdg (lv_at hl j hj) (kk r hr H locs ls hP hD hS hl)
theorem VF.aload_n (C : CX p s m args meth c cc nL own D cI cZ A rt) (j : Nat) {k : Fin 4} {x : Nat} (hdg : decode cc pc = .ok (.aload_n k, 1)) (hj : lv[j]? = some ((k : Nat), .ref x)) (kk : VF p l e R s m args below meth c cells slots D A nL Q X ws (pc + 1) lv (.ref x :: st)) : VF p l e R s m args below meth c cells slots D A nL Q X ws pc lv st := fun r hr H locs ls hP hD hS hl => lv_aload_n C.1 C.2.1 hdg rfl (lv_at hl j hj) (kk r hr H locs ls hP hD hS hl)
theorem VF.aload (C : CX p s m args meth c cc nL own D cI cZ A rt) (j : Nat) {i : Nat} {x : Nat} (hdg : decode cc pc = .ok (.aload i, 2)) (hj : lv[j]? = some (i, .ref x)) (kk : VF p l e R s m args below meth c cells slots D A nL Q X ws (pc + 2) lv (.ref x :: st)) : VF p l e R s m args below meth c cells slots D A nL Q X ws pc lv st := fun r hr H locs ls hP hD hS hl => lv_aload C.1 C.2.1 hdg (lv_at hl j hj) (kk r hr H locs ls hP hD hS hl)
theorem VF.istore_n (C : CX p s m args meth c cc nL own D cI cZ A rt) (ps : List Nat) {k : Fin 4} {i : Nat} {x : Int32} {lv' : List (Nat × Value)} (hdg : decode cc pc = .ok (.istore_n k, 1)) (hi : (k : Nat) = i) (hn : i < nL) (hv : lv_pick ((i, Value.int x) :: lv.filter (fun q => !(q.1 == i) && !(q.1 + 1 == i && q.2.category == 2))) ps = lv') (kk : VF p l e R s m args below meth c cells slots D A nL Q X ws (pc + 1) lv' st) : VF p l e R s m args below meth c cells slots D A nL Q X ws pc lv (.int x :: st) := fun r hr H locs ls hP hD hS hl => lv_istore_n C.1 C.2.1 hdg hi hl hn rfl (fun ls hl => kk r hr H locs ls hP hD hS (lv_sub hl ps hv))
theorem VF.istore (C : CX p s m args meth c cc nL own D cI cZ A rt) (ps : List Nat) {i : Nat} {x : Int32} {lv' : List (Nat × Value)} (hdg : decode cc pc = .ok (.istore i, 2)) (hn : i < nL) (hv : lv_pick ((i, Value.int x) :: lv.filter (fun q => !(q.1 == i) && !(q.1 + 1 == i && q.2.category == 2))) ps = lv') (kk : VF p l e R s m args below meth c cells slots D A nL Q X ws (pc + 2) lv' st) : VF p l e R s m args below meth c cells slots D A nL Q X ws pc lv (.int x :: st) := fun r hr H locs ls hP hD hS hl => lv_istore C.1 C.2.1 hdg hl hn rfl (fun ls hl => kk r hr H locs ls hP hD hS (lv_sub hl ps hv))
theorem VF.astore_n (C : CX p s m args meth c cc nL own D cI cZ A rt) (ps : List Nat) {k : Fin 4} {i : Nat} {x : Nat} {lv' : List (Nat × Value)} (hdg : decode cc pc = .ok (.astore_n k, 1)) (hi : (k : Nat) = i) (hn : i < nL) (hv : lv_pick ((i, Value.ref x) :: lv.filter (fun q => !(q.1 == i) && !(q.1 + 1 == i && q.2.category == 2))) ps = lv') (kk : VF p l e R s m args below meth c cells slots D A nL Q X ws (pc + 1) lv' st) : VF p l e R s m args below meth c cells slots D A nL Q X ws pc lv (.ref x :: st) := fun r hr H locs ls hP hD hS hl => lv_astore_n C.1 C.2.1 hdg hi hl hn rfl (fun ls hl => kk r hr H locs ls hP hD hS (lv_sub hl ps hv))
theorem VF.astore (C : CX p s m args meth c cc nL own D cI cZ A rt) (ps : List Nat) {i : Nat} {x : Nat} {lv' : List (Nat × Value)} (hdg : decode cc pc = .ok (.astore i, 2)) (hn : i < nL) (hv : lv_pick ((i, Value.ref x) :: lv.filter (fun q => !(q.1 == i) && !(q.1 + 1 == i && q.2.category == 2))) ps = lv') (kk : VF p l e R s m args below meth c cells slots D A nL Q X ws (pc + 2) lv' st) : VF p l e R s m args below meth c cells slots D A nL Q X ws pc lv (.ref x :: st) := fun r hr H locs ls hP hD hS hl => lv_astore C.1 C.2.1 hdg hl hn rfl (fun ls hl => kk r hr H locs ls hP hD hS (lv_sub hl ps hv))
theorem VF.iinc (C : CX p s m args meth c cc nL own D cI cZ A rt) (j : Nat) (ps : List Nat) {i : Nat} {n : Int} {x v : Int32} {lv' : List (Nat × Value)} (hdg : decode cc pc = .ok (.iinc i n, 3)) (hj : lv[j]? = some (i, .int x)) (he : x + Int32.ofInt n = v) (hn : i < nL) (hv : lv_pick ((i, Value.int v) :: lv.filter (fun q => !(q.1 == i) && !(q.1 + 1 == i && q.2.category == 2))) ps = lv') (kk : VF p l e R s m args below meth c cells slots D A nL Q X ws (pc + 3) lv' st) : VF p l e R s m args below meth c cells slots D A nL Q X ws pc lv st := fun r hr H locs ls hP hD hS hl => lv_iinc C.1 C.2.1 hdg hl (k := j) hj he hn rfl (fun ls hl => kk r hr H locs ls hP hD hS (lv_sub hl ps hv))
theorem VF.iincW (C : CX p s m args meth c cc nL own D cI cZ A rt) (j : Nat) (ps : List Nat) {i : Nat} {n : Int} {x v : Int32} {lv' : List (Nat × Value)} (hdg : decode cc pc = .ok (.iinc i n, 6)) (hj : lv[j]? = some (i, .int x)) (he : x + Int32.ofInt n = v) (hn : i < nL) (hv : lv_pick ((i, Value.int v) :: lv.filter (fun q => !(q.1 == i) && !(q.1 + 1 == i && q.2.category == 2))) ps = lv') (kk : VF p l e R s m args below meth c cells slots D A nL Q X ws (pc + 6) lv' st) : VF p l e R s m args below meth c cells slots D A nL Q X ws pc lv st := fun r hr H locs ls hP hD hS hl => lv_iincW C.1 C.2.1 hdg hl (k := j) hj he hn rfl (fun ls hl => kk r hr H locs ls hP hD hS (lv_sub hl ps hv))
theorem VF.iadd (C : CX p s m args meth c cc nL own D cI cZ A rt) {x y : Int32} (hdg : decode cc pc = .ok (.iadd, 1)) (k : VF p l e R s m args below meth c cells slots D A nL Q X ws (pc + 1) lv (.int (x + y) :: st)) : VF p l e R s m args below meth c cells slots D A nL Q X ws pc lv (.int y :: .int x :: st) := fun r hr H locs ls hP hD hS hl => lv_iadd C.1 C.2.1 hdg (k r hr H locs ls hP hD hS hl)
theorem VF.isub (C : CX p s m args meth c cc nL own D cI cZ A rt) {x y : Int32} (hdg : decode cc pc = .ok (.isub, 1)) (k : VF p l e R s m args below meth c cells slots D A nL Q X ws (pc + 1) lv (.int (x - y) :: st)) : VF p l e R s m args below meth c cells slots D A nL Q X ws pc lv (.int y :: .int x :: st) := fun r hr H locs ls hP hD hS hl => lv_isub C.1 C.2.1 hdg (k r hr H locs ls hP hD hS hl)
theorem VF.imul (C : CX p s m args meth c cc nL own D cI cZ A rt) {x y : Int32} (hdg : decode cc pc = .ok (.imul, 1)) (k : VF p l e R s m args below meth c cells slots D A nL Q X ws (pc + 1) lv (.int (x * y) :: st)) : VF p l e R s m args below meth c cells slots D A nL Q X ws pc lv (.int y :: .int x :: st) := fun r hr H locs ls hP hD hS hl => lv_imul C.1 C.2.1 hdg (k r hr H locs ls hP hD hS hl)
theorem VF.iand (C : CX p s m args meth c cc nL own D cI cZ A rt) {x y : Int32} (hdg : decode cc pc = .ok (.iand, 1)) (k : VF p l e R s m args below meth c cells slots D A nL Q X ws (pc + 1) lv (.int (x &&& y) :: st)) : VF p l e R s m args below meth c cells slots D A nL Q X ws pc lv (.int y :: .int x :: st) := fun r hr H locs ls hP hD hS hl => lv_iand C.1 C.2.1 hdg (k r hr H locs ls hP hD hS hl)
theorem VF.ior (C : CX p s m args meth c cc nL own D cI cZ A rt) {x y : Int32} (hdg : decode cc pc = .ok (.ior, 1)) (k : VF p l e R s m args below meth c cells slots D A nL Q X ws (pc + 1) lv (.int (x ||| y) :: st)) : VF p l e R s m args below meth c cells slots D A nL Q X ws pc lv (.int y :: .int x :: st) := fun r hr H locs ls hP hD hS hl => lv_ior C.1 C.2.1 hdg (k r hr H locs ls hP hD hS hl)
theorem VF.ixor (C : CX p s m args meth c cc nL own D cI cZ A rt) {x y : Int32} (hdg : decode cc pc = .ok (.ixor, 1)) (k : VF p l e R s m args below meth c cells slots D A nL Q X ws (pc + 1) lv (.int (x ^^^ y) :: st)) : VF p l e R s m args below meth c cells slots D A nL Q X ws pc lv (.int y :: .int x :: st) := fun r hr H locs ls hP hD hS hl => lv_ixor C.1 C.2.1 hdg (k r hr H locs ls hP hD hS hl)
theorem VF.ishl (C : CX p s m args meth c cc nL own D cI cZ A rt) {x y : Int32} (hdg : decode cc pc = .ok (.ishl, 1)) (k : VF p l e R s m args below meth c cells slots D A nL Q X ws (pc + 1) lv (.int (isl x y) :: st)) : VF p l e R s m args below meth c cells slots D A nL Q X ws pc lv (.int y :: .int x :: st) := fun r hr H locs ls hP hD hS hl => lv_ishl C.1 C.2.1 hdg (k r hr H locs ls hP hD hS hl)
theorem VF.ishr (C : CX p s m args meth c cc nL own D cI cZ A rt) {x y : Int32} (hdg : decode cc pc = .ok (.ishr, 1)) (k : VF p l e R s m args below meth c cells slots D A nL Q X ws (pc + 1) lv (.int (isr x y) :: st)) : VF p l e R s m args below meth c cells slots D A nL Q X ws pc lv (.int y :: .int x :: st) := fun r hr H locs ls hP hD hS hl => lv_ishr C.1 C.2.1 hdg (k r hr H locs ls hP hD hS hl)
theorem VF.idiv (C : CX p s m args meth c cc nL own D cI cZ A rt) {x y : Int32} (hdg : decode cc pc = .ok (.idiv, 1)) (k : VF p l e R s m args below meth c cells slots D A nL Q X ws (pc + 1) lv (.int (x / y) :: st)) : VF p l e R s m args below meth c cells slots D A nL Q (oD y X) ws pc lv (.int y :: .int x :: st) := fun r hr H locs ls hP hD hS hl => lv_idiv C.1 C.2.1 hdg (oD_some hr).1 (k r (oD_some hr).2 H locs ls hP hD hS hl)
theorem VF.idivK (C : CX p s m args meth c cc nL own D cI cZ A rt) {x y : Int32} (hy : ¬ y = 0) (hdg : decode cc pc = .ok (.idiv, 1)) (k : VF p l e R s m args below meth c cells slots D A nL Q X ws (pc + 1) lv (.int (x / y) :: st)) : VF p l e R s m args below meth c cells slots D A nL Q X ws pc lv (.int y :: .int x :: st) := fun r hr H locs ls hP hD hS hl => lv_idiv C.1 C.2.1 hdg hy (k r hr H locs ls hP hD hS hl)
theorem VF.irem (C : CX p s m args meth c cc nL own D cI cZ A rt) {x y : Int32} (hdg : decode cc pc = .ok (.irem, 1)) (k : VF p l e R s m args below meth c cells slots D A nL Q X ws (pc + 1) lv (.int (irm x y) :: st)) : VF p l e R s m args below meth c cells slots D A nL Q (oD y X) ws pc lv (.int y :: .int x :: st) := fun r hr H locs ls hP hD hS hl => lv_irem C.1 C.2.1 hdg (oD_some hr).1 (k r (oD_some hr).2 H locs ls hP hD hS hl)
theorem VF.iremK (C : CX p s m args meth c cc nL own D cI cZ A rt) {x y : Int32} (hy : ¬ y = 0) (hdg : decode cc pc = .ok (.irem, 1)) (k : VF p l e R s m args below meth c cells slots D A nL Q X ws (pc + 1) lv (.int (irm x y) :: st)) : VF p l e R s m args below meth c cells slots D A nL Q X ws pc lv (.int y :: .int x :: st) := fun r hr H locs ls hP hD hS hl => lv_irem C.1 C.2.1 hdg hy (k r hr H locs ls hP hD hS hl)
theorem VF.i2l (C : CX p s m args meth c cc nL own D cI cZ A rt) {x : Int32} (hdg : decode cc pc = .ok (.i2l, 1)) (k : VF p l e R s m args below meth c cells slots D A nL Q X ws (pc + 1) lv (.long x.toInt64 :: st)) : VF p l e R s m args below meth c cells slots D A nL Q X ws pc lv (.int x :: st) := fun r hr H locs ls hP hD hS hl => lv_i2l C.1 C.2.1 hdg rfl (k r hr H locs ls hP hD hS hl)
theorem VF.lcmp (C : CX p s m args meth c cc nL own D cI cZ A rt) {x y : Int64} (hdg : decode cc pc = .ok (.lcmp, 1)) (k : VF p l e R s m args below meth c cells slots D A nL Q X ws (pc + 1) lv (.int (lg_cmp x y) :: st)) : VF p l e R s m args below meth c cells slots D A nL Q X ws pc lv (.long y :: .long x :: st) := fun r hr H locs ls hP hD hS hl => W.lcmp C.1 C.2.1 hdg (k r hr H locs ls hP hD hS hl)
theorem VF.dup (C : CX p s m args meth c cc nL own D cI cZ A rt) {v : Value} (hdg : decode cc pc = .ok (.dup, 1)) (hv : v.category = 1) (k : VF p l e R s m args below meth c cells slots D A nL Q X ws (pc + 1) lv (v :: v :: st)) : VF p l e R s m args below meth c cells slots D A nL Q X ws pc lv (v :: st) := fun r hr H locs ls hP hD hS hl => lv_dup C.1 C.2.1 hdg hv (k r hr H locs ls hP hD hS hl)
theorem VF.dup2 (C : CX p s m args meth c cc nL own D cI cZ A rt) {v w : Value} (hdg : decode cc pc = .ok (.dup2, 1)) (hv : v.category = 1) (hw : w.category = 1) (k : VF p l e R s m args below meth c cells slots D A nL Q X ws (pc + 1) lv (v :: w :: v :: w :: st)) : VF p l e R s m args below meth c cells slots D A nL Q X ws pc lv (v :: w :: st) := fun r hr H locs ls hP hD hS hl => lv_dup2_11 C.1 C.2.1 hdg hv hw (k r hr H locs ls hP hD hS hl)
theorem VF.pop (C : CX p s m args meth c cc nL own D cI cZ A rt) {v : Value} (hdg : decode cc pc = .ok (.pop, 1)) (hv : v.category = 1) (k : VF p l e R s m args below meth c cells slots D A nL Q X ws (pc + 1) lv st) : VF p l e R s m args below meth c cells slots D A nL Q X ws pc lv (v :: st) := fun r hr H locs ls hP hD hS hl => lv_pop C.1 C.2.1 hdg hv (k r hr H locs ls hP hD hS hl)
theorem VF.goto (C : CX p s m args meth c cc nL own D cI cZ A rt) {off : Int} (tgt : Nat) (hdg : decode cc pc = .ok (.goto off, 3)) (ht : (pc : Int) + off = (tgt : Int)) (k : VF p l e R s m args below meth c cells slots D A nL Q X ws tgt lv st) : VF p l e R s m args below meth c cells slots D A nL Q X ws pc lv st := fun r hr H locs ls hP hD hS hl => lv_goto C.1 C.2.1 hdg ht (k r hr H locs ls hP hD hS hl)
theorem VF.if_eq (C : CX p s m args meth c cc nL own D cI cZ A rt) {x : Int32} {off : Int} (tgt : Nat) (hdg : decode cc pc = .ok (.ifCond .eq off, 3)) (ht : (pc : Int) + off = (tgt : Int)) (kt : x = 0 → VF p l e R s m args below meth c cells slots D A nL Q X ws tgt lv st) (kf : ¬ x = 0 → VF p l e R s m args below meth c cells slots D A nL Q Y ws (pc + 3) lv st) : VF p l e R s m args below meth c cells slots D A nL Q (if x = 0 then X else Y) ws pc lv (.int x :: st) := fun r hr H locs ls hP hD hS hl => lv_if_eq C.1 C.2.1 hdg ht (fun h => kt h r (by rw [if_pos h] at hr; exact hr) H locs ls hP hD hS hl) (fun h => kf h r (by rw [if_neg h] at hr; exact hr) H locs ls hP hD hS hl)
theorem VF.icmp_eq (C : CX p s m args meth c cc nL own D cI cZ A rt) {x y : Int32} {off : Int} (tgt : Nat) (hdg : decode cc pc = .ok (.if_icmp .eq off, 3)) (ht : (pc : Int) + off = (tgt : Int)) (kt : x = y → VF p l e R s m args below meth c cells slots D A nL Q X ws tgt lv st) (kf : ¬ x = y → VF p l e R s m args below meth c cells slots D A nL Q Y ws (pc + 3) lv st) : VF p l e R s m args below meth c cells slots D A nL Q (if x = y then X else Y) ws pc lv (.int y :: .int x :: st) := fun r hr H locs ls hP hD hS hl => lv_icmp_eq C.1 C.2.1 hdg ht (fun h => kt h r (by rw [if_pos h] at hr; exact hr) H locs ls hP hD hS hl) (fun h => kf h r (by rw [if_neg h] at hr; exact hr) H locs ls hP hD hS hl)
theorem VF.if_ne (C : CX p s m args meth c cc nL own D cI cZ A rt) {x : Int32} {off : Int} (tgt : Nat) (hdg : decode cc pc = .ok (.ifCond .ne off, 3)) (ht : (pc : Int) + off = (tgt : Int)) (kt : ¬ x = 0 → VF p l e R s m args below meth c cells slots D A nL Q X ws tgt lv st) (kf : x = 0 → VF p l e R s m args below meth c cells slots D A nL Q Y ws (pc + 3) lv st) : VF p l e R s m args below meth c cells slots D A nL Q (if x = 0 then Y else X) ws pc lv (.int x :: st) := fun r hr H locs ls hP hD hS hl => lv_if_ne C.1 C.2.1 hdg ht (fun h => kt h r (by rw [if_neg h] at hr; exact hr) H locs ls hP hD hS hl) (fun h => kf h r (by rw [if_pos h] at hr; exact hr) H locs ls hP hD hS hl)
theorem VF.icmp_ne (C : CX p s m args meth c cc nL own D cI cZ A rt) {x y : Int32} {off : Int} (tgt : Nat) (hdg : decode cc pc = .ok (.if_icmp .ne off, 3)) (ht : (pc : Int) + off = (tgt : Int)) (kt : ¬ x = y → VF p l e R s m args below meth c cells slots D A nL Q X ws tgt lv st) (kf : x = y → VF p l e R s m args below meth c cells slots D A nL Q Y ws (pc + 3) lv st) : VF p l e R s m args below meth c cells slots D A nL Q (if x = y then Y else X) ws pc lv (.int y :: .int x :: st) := fun r hr H locs ls hP hD hS hl => lv_icmp_ne C.1 C.2.1 hdg ht (fun h => kt h r (by rw [if_neg h] at hr; exact hr) H locs ls hP hD hS hl) (fun h => kf h r (by rw [if_pos h] at hr; exact hr) H locs ls hP hD hS hl)
theorem VF.if_lt (C : CX p s m args meth c cc nL own D cI cZ A rt) {x : Int32} {off : Int} (tgt : Nat) (hdg : decode cc pc = .ok (.ifCond .lt off, 3)) (ht : (pc : Int) + off = (tgt : Int)) (kt : x < 0 → VF p l e R s m args below meth c cells slots D A nL Q X ws tgt lv st) (kf : ¬ x < 0 → VF p l e R s m args below meth c cells slots D A nL Q Y ws (pc + 3) lv st) : VF p l e R s m args below meth c cells slots D A nL Q (if x < 0 then X else Y) ws pc lv (.int x :: st) := fun r hr H locs ls hP hD hS hl => lv_if_lt C.1 C.2.1 hdg ht (fun h => kt h r (by rw [if_pos h] at hr; exact hr) H locs ls hP hD hS hl) (fun h => kf h r (by rw [if_neg h] at hr; exact hr) H locs ls hP hD hS hl)
theorem VF.icmp_lt (C : CX p s m args meth c cc nL own D cI cZ A rt) {x y : Int32} {off : Int} (tgt : Nat) (hdg : decode cc pc = .ok (.if_icmp .lt off, 3)) (ht : (pc : Int) + off = (tgt : Int)) (kt : x < y → VF p l e R s m args below meth c cells slots D A nL Q X ws tgt lv st) (kf : ¬ x < y → VF p l e R s m args below meth c cells slots D A nL Q Y ws (pc + 3) lv st) : VF p l e R s m args below meth c cells slots D A nL Q (if x < y then X else Y) ws pc lv (.int y :: .int x :: st) := fun r hr H locs ls hP hD hS hl => lv_icmp_lt C.1 C.2.1 hdg ht (fun h => kt h r (by rw [if_pos h] at hr; exact hr) H locs ls hP hD hS hl) (fun h => kf h r (by rw [if_neg h] at hr; exact hr) H locs ls hP hD hS hl)
theorem VF.if_ge (C : CX p s m args meth c cc nL own D cI cZ A rt) {x : Int32} {off : Int} (tgt : Nat) (hdg : decode cc pc = .ok (.ifCond .ge off, 3)) (ht : (pc : Int) + off = (tgt : Int)) (kt : 0 ≤ x → VF p l e R s m args below meth c cells slots D A nL Q X ws tgt lv st) (kf : ¬ 0 ≤ x → VF p l e R s m args below meth c cells slots D A nL Q Y ws (pc + 3) lv st) : VF p l e R s m args below meth c cells slots D A nL Q (if 0 ≤ x then X else Y) ws pc lv (.int x :: st) := fun r hr H locs ls hP hD hS hl => lv_if_ge C.1 C.2.1 hdg ht (fun h => kt h r (by rw [if_pos h] at hr; exact hr) H locs ls hP hD hS hl) (fun h => kf h r (by rw [if_neg h] at hr; exact hr) H locs ls hP hD hS hl)
theorem VF.icmp_ge (C : CX p s m args meth c cc nL own D cI cZ A rt) {x y : Int32} {off : Int} (tgt : Nat) (hdg : decode cc pc = .ok (.if_icmp .ge off, 3)) (ht : (pc : Int) + off = (tgt : Int)) (kt : y ≤ x → VF p l e R s m args below meth c cells slots D A nL Q X ws tgt lv st) (kf : ¬ y ≤ x → VF p l e R s m args below meth c cells slots D A nL Q Y ws (pc + 3) lv st) : VF p l e R s m args below meth c cells slots D A nL Q (if y ≤ x then X else Y) ws pc lv (.int y :: .int x :: st) := fun r hr H locs ls hP hD hS hl => lv_icmp_ge C.1 C.2.1 hdg ht (fun h => kt h r (by rw [if_pos h] at hr; exact hr) H locs ls hP hD hS hl) (fun h => kf h r (by rw [if_neg h] at hr; exact hr) H locs ls hP hD hS hl)
theorem VF.if_gt (C : CX p s m args meth c cc nL own D cI cZ A rt) {x : Int32} {off : Int} (tgt : Nat) (hdg : decode cc pc = .ok (.ifCond .gt off, 3)) (ht : (pc : Int) + off = (tgt : Int)) (kt : 0 < x → VF p l e R s m args below meth c cells slots D A nL Q X ws tgt lv st) (kf : ¬ 0 < x → VF p l e R s m args below meth c cells slots D A nL Q Y ws (pc + 3) lv st) : VF p l e R s m args below meth c cells slots D A nL Q (if 0 < x then X else Y) ws pc lv (.int x :: st) := fun r hr H locs ls hP hD hS hl => lv_if_gt C.1 C.2.1 hdg ht (fun h => kt h r (by rw [if_pos h] at hr; exact hr) H locs ls hP hD hS hl) (fun h => kf h r (by rw [if_neg h] at hr; exact hr) H locs ls hP hD hS hl)
theorem VF.icmp_gt (C : CX p s m args meth c cc nL own D cI cZ A rt) {x y : Int32} {off : Int} (tgt : Nat) (hdg : decode cc pc = .ok (.if_icmp .gt off, 3)) (ht : (pc : Int) + off = (tgt : Int)) (kt : y < x → VF p l e R s m args below meth c cells slots D A nL Q X ws tgt lv st) (kf : ¬ y < x → VF p l e R s m args below meth c cells slots D A nL Q Y ws (pc + 3) lv st) : VF p l e R s m args below meth c cells slots D A nL Q (if y < x then X else Y) ws pc lv (.int y :: .int x :: st) := fun r hr H locs ls hP hD hS hl => lv_icmp_gt C.1 C.2.1 hdg ht (fun h => kt h r (by rw [if_pos h] at hr; exact hr) H locs ls hP hD hS hl) (fun h => kf h r (by rw [if_neg h] at hr; exact hr) H locs ls hP hD hS hl)
theorem VF.if_le (C : CX p s m args meth c cc nL own D cI cZ A rt) {x : Int32} {off : Int} (tgt : Nat) (hdg : decode cc pc = .ok (.ifCond .le off, 3)) (ht : (pc : Int) + off = (tgt : Int)) (kt : x ≤ 0 → VF p l e R s m args below meth c cells slots D A nL Q X ws tgt lv st) (kf : ¬ x ≤ 0 → VF p l e R s m args below meth c cells slots D A nL Q Y ws (pc + 3) lv st) : VF p l e R s m args below meth c cells slots D A nL Q (if x ≤ 0 then X else Y) ws pc lv (.int x :: st) := fun r hr H locs ls hP hD hS hl => lv_if_le C.1 C.2.1 hdg ht (fun h => kt h r (by rw [if_pos h] at hr; exact hr) H locs ls hP hD hS hl) (fun h => kf h r (by rw [if_neg h] at hr; exact hr) H locs ls hP hD hS hl)
theorem VF.icmp_le (C : CX p s m args meth c cc nL own D cI cZ A rt) {x y : Int32} {off : Int} (tgt : Nat) (hdg : decode cc pc = .ok (.if_icmp .le off, 3)) (ht : (pc : Int) + off = (tgt : Int)) (kt : x ≤ y → VF p l e R s m args below meth c cells slots D A nL Q X ws tgt lv st) (kf : ¬ x ≤ y → VF p l e R s m args below meth c cells slots D A nL Q Y ws (pc + 3) lv st) : VF p l e R s m args below meth c cells slots D A nL Q (if x ≤ y then X else Y) ws pc lv (.int y :: .int x :: st) := fun r hr H locs ls hP hD hS hl => lv_icmp_le C.1 C.2.1 hdg ht (fun h => kt h r (by rw [if_pos h] at hr; exact hr) H locs ls hP hD hS hl) (fun h => kf h r (by rw [if_neg h] at hr; exact hr) H locs ls hP hD hS hl)
theorem VF.lookup (C : CX p s m args meth c cc nL own D cI cZ A rt) {dflt : Int} {ps : Array (Int × Int)} {len : Nat} {x : Int32} {off : Int} (tgt : Nat) (hdg : decode cc pc = .ok (.lookupswitch dflt ps, len)) (hp : (ps.toList.zip (ps.toList.drop 1)).all (fun (a, next) => a.1 < next.1) = true) (ho : Op.lookupswitch.offset ps.toList dflt x.toInt = off) (ht : (pc : Int) + off = (tgt : Int)) (k : VF p l e R s m args below meth c cells slots D A nL Q X ws tgt lv st) : VF p l e R s m args below meth c cells slots D A nL Q X ws pc lv (.int x :: st) := fun r hr H locs ls hP hD hS hl => lv_lookup C.1 C.2.1 hdg hp ho ht (k r hr H locs ls hP hD hS hl)
theorem VF.tableOut (C : CX p s m args meth c cc nL own D cI cZ A rt) {dflt lo hi : Int} {offs : Array Int} {len : Nat} {x : Int32} (tgt : Nat) (hdg : decode cc pc = .ok (.tableswitch dflt lo hi offs, len)) (h : x.toInt < lo ∨ hi < x.toInt) (ht : (pc : Int) + dflt = (tgt : Int)) (k : VF p l e R s m args below meth c cells slots D A nL Q X ws tgt lv st) : VF p l e R s m args below meth c cells slots D A nL Q X ws pc lv (.int x :: st) := fun r hr H locs ls hP hD hS hl => lv_tableOut C.1 C.2.1 hdg h ht (k r hr H locs ls hP hD hS hl)
theorem VF.tableIn (C : CX p s m args meth c cc nL own D cI cZ A rt) {dflt lo hi : Int} {offs : Array Int} {len : Nat} {x : Int32} {off : Int} (tgt : Nat) (hdg : decode cc pc = .ok (.tableswitch dflt lo hi offs, len)) (h1 : ¬ x.toInt < lo) (h2 : ¬ hi < x.toInt) (ho : offs[(x.toInt - lo).toNat]? = some off) (ht : (pc : Int) + off = (tgt : Int)) (k : VF p l e R s m args below meth c cells slots D A nL Q X ws tgt lv st) : VF p l e R s m args below meth c cells slots D A nL Q X ws pc lv (.int x :: st) := fun r hr H locs ls hP hD hS hl => lv_tableIn C.1 C.2.1 hdg h1 h2 ho ht (k r hr H locs ls hP hD hS hl)
theorem VF.get (C : CX p s m args meth c cc nL own D cI cZ A rt) {index ci N k : Nat} {C0 : String} {T : u_T} (f : FLk own index ci C0 T N k) (q0 : Nat) {a : Nat} {fs : List Value} {v : Value} (he : ws[q0]? = some (a, .inr (ci, fs))) (hv : fs[k]? = some v) (hdg : decode cc pc = .ok (.getfield index, 3)) (kk : VF p l e R s m args below meth c cells slots D A nL Q X ws (pc + 3) lv (v :: st)) : VF p l e R s m args below meth c cells slots D A nL Q X ws pc lv (.ref a :: st) :=
  fun r hr H locs ls hP hD hS hl => va_get C.1 C.2.1 C.2.2.2.2.1 f.2.1 C.2.2.2.1 C.2.2.2.2.2.1 hP q0 he f.1 k f.2.2.1 (C.2.2.2.2.1 _ f.2.2.2) (fun _ h => h) hv hdg (kk r hr H locs ls hP hD hS hl)
theorem VF.put0 (C : CX p s m args meth c cc nL own D cI cZ A rt) {index ci N k : Nat} {C0 : String} {T : u_T} (f : FLk own index ci C0 T N k) (ty0 : Nat → FieldType) (hty : ∀ k, k < N → parseFieldDescriptor (T k).2.2.1 = some (ty0 k)) (hnm : ∀ a, a < N → ∀ b, b < N → a ≠ b → (T a).2.1 ≠ (T b).2.1) (q0 : Nat) {a : Nat} {fs : List Value} {v : Value} {ws' : va_W} (he : ws[q0]? = some (a, .inr (ci, fs))) (hfin : (T k).2.2.2 = false) (hn : narrow (ty0 k) v = v) (hfit : fits (ty0 k) v = true) (hlen : k < fs.length) (hws : ws.set q0 (a, .inr (ci, fs.set k v)) = ws') (hdg : decode cc pc = .ok (.putfield index, 3)) (kk : VF p l e R s m args below meth c cells slots D A nL Q X ws' (pc + 3) lv st) : VF p l e R s m args below meth c cells slots D A nL Q X ws pc lv (v :: .ref a :: st) := by
  subst hws
  exact fun r hr H locs ls hP hD hS hl => va_put C.1 C.2.1 C.2.2.2.2.1 f.2.1 ty0 hty hnm C.2.2.2.1 C.2.2.2.2.2.1 hP hD hS q0 he f.1 k f.2.2.1 (C.2.2.2.2.1 _ f.2.2.2) (fun _ h => h) hfin (hty k f.2.2.1) hn hfit hlen hdg (fun H1 locs1 hP1 hD1 hS1 => kk r hr H1 locs1 ls hP1 hD1 hS1 hl)
theorem VF.put (C : CX p s m args meth c cc nL own D cI cZ A rt) {index ci N k : Nat} {C0 : String} {T : u_T} (f : FLk own index ci C0 T N k) (ty0 : Nat → FieldType) (hty : ∀ k, k < N → parseFieldDescriptor (T k).2.2.1 = some (ty0 k)) (hnm : ∀ a, a < N → ∀ b, b < N → a ≠ b → (T a).2.1 ≠ (T b).2.1) (q0 : Nat) {a : Nat} {fs : List Value} {x : Int32} {ws' : va_W} (he : ws[q0]? = some (a, .inr (ci, fs))) (hfin : (T k).2.2.2 = false) (ht : ty0 k = .int) (hlen : k < fs.length) (hws : ws.set q0 (a, .inr (ci, fs.set k (.int x))) = ws') (hdg : decode cc pc = .ok (.putfield index, 3)) (kk : VF p l e R s m args below meth c cells slots D A nL Q X ws' (pc + 3) lv st) : VF p l e R s m args below meth c cells slots D A nL Q X ws pc lv (.int x :: .ref a :: st) :=
  VF.put0 C f ty0 hty hnm q0 he hfin (by rw [ht]; rfl) (by rw [ht]; rfl) hlen hws hdg kk
theorem VF.putb (C : CX p s m args meth c cc nL own D cI cZ A rt) {index ci N k : Nat} {C0 : String} {T : u_T} (f : FLk own index ci C0 T N k) (ty0 : Nat → FieldType) (hty : ∀ k, k < N → parseFieldDescriptor (T k).2.2.1 = some (ty0 k)) (hnm : ∀ a, a < N → ∀ b, b < N → a ≠ b → (T a).2.1 ≠ (T b).2.1) (q0 : Nat) {a : Nat} {fs : List Value} {x : Int32} {ws' : va_W} (he : ws[q0]? = some (a, .inr (ci, fs))) (hfin : (T k).2.2.2 = false) (ht : ty0 k = .boolean) (hlen : k < fs.length) (hws : ws.set q0 (a, .inr (ci, fs.set k (.int x))) = ws') (hdg : decode cc pc = .ok (.putfield index, 3)) (kk : VF p l e R s m args below meth c cells slots D A nL Q X ws' (pc + 3) lv st) : VF p l e R s m args below meth c cells slots D A nL Q (oZ x X) ws pc lv (.int x :: .ref a :: st) :=
  fun r hr => VF.put0 C f ty0 hty hnm q0 he hfin (by rw [ht]; exact z_nar (oZ_some hr).1) (by rw [ht]; exact z_fit (oZ_some hr).1) hlen hws hdg kk r (oZ_some hr).2
theorem VF.putbK (C : CX p s m args meth c cc nL own D cI cZ A rt) {index ci N k : Nat} {C0 : String} {T : u_T} (f : FLk own index ci C0 T N k) (ty0 : Nat → FieldType) (hty : ∀ k, k < N → parseFieldDescriptor (T k).2.2.1 = some (ty0 k)) (hnm : ∀ a, a < N → ∀ b, b < N → a ≠ b → (T a).2.1 ≠ (T b).2.1) (q0 : Nat) {a : Nat} {fs : List Value} {x : Int32} {ws' : va_W} (hx : x = 0 ∨ x = 1) (he : ws[q0]? = some (a, .inr (ci, fs))) (hfin : (T k).2.2.2 = false) (ht : ty0 k = .boolean) (hlen : k < fs.length) (hws : ws.set q0 (a, .inr (ci, fs.set k (.int x))) = ws') (hdg : decode cc pc = .ok (.putfield index, 3)) (kk : VF p l e R s m args below meth c cells slots D A nL Q X ws' (pc + 3) lv st) : VF p l e R s m args below meth c cells slots D A nL Q X ws pc lv (.int x :: .ref a :: st) :=
  VF.put0 C f ty0 hty hnm q0 he hfin (by rw [ht]; exact z_nar hx) (by rw [ht]; exact z_fit hx) hlen hws hdg kk
theorem VF.iald (C : CX p s m args meth c cc nL own D cI cZ A rt) (q0 : Nat) {a n : Nat} {f : Fn} {i : Int32} (he : ws[q0]? = some (a, .inl (cI, n, .inl f))) (hdg : decode cc pc = .ok (.iaload, 1)) (kk : VF p l e R s m args below meth c cells slots D A nL Q X ws (pc + 1) lv (.int (f i.toNatClampNeg) :: st)) : VF p l e R s m args below meth c cells slots D A nL Q (oI i n X) ws pc lv (.int i :: .ref a :: st) :=
  fun r hr H locs ls hP hD hS hl => va_iald C.1 C.2.1 C.2.2.2.2.2.1 hP q0 0 he rfl (oI_some hr).1 hdg (kk r (oI_some hr).2 H locs ls hP hD hS hl)
theorem VF.ialdK (C : CX p s m args meth c cc nL own D cI cZ A rt) (q0 j : Nat) {a n : Nat} {f : Fn} {i : Int32} (hi : i = nI j) (hj : j < n) (hn : n < 2 ^ 31) (he : ws[q0]? = some (a, .inl (cI, n, .inl f))) (hdg : decode cc pc = .ok (.iaload, 1)) (kk : VF p l e R s m args below meth c cells slots D A nL Q X ws (pc + 1) lv (.int (f j) :: st)) : VF p l e R s m args below meth c cells slots D A nL Q X ws pc lv (.int i :: .ref a :: st) := by
  subst hi
  exact fun r hr H locs ls hP hD hS hl => va_iald C.1 C.2.1 C.2.2.2.2.2.1 hP q0 0 he rfl (vp_in_nI hj hn) hdg (by rw [nI_clamp (Nat.lt_trans hj hn)]; exact kk r hr H locs ls hP hD hS hl)
theorem VF.zald (C : CX p s m args meth c cc nL own D cI cZ A rt) (q0 : Nat) {a n : Nat} {f : Fn} {i : Int32} (he : ws[q0]? = some (a, .inl (cZ, n, .inl f))) (hdg : decode cc pc = .ok (.baload, 1)) (kk : VF p l e R s m args below meth c cells slots D A nL Q X ws (pc + 1) lv (.int (f i.toNatClampNeg) :: st)) : VF p l e R s m args below meth c cells slots D A nL Q (oI i n X) ws pc lv (.int i :: .ref a :: st) :=
  fun r hr H locs ls hP hD hS hl => va_zald C.1 C.2.1 C.2.2.2.2.2.1 hP q0 1 he rfl (oI_some hr).1 hdg (kk r (oI_some hr).2 H locs ls hP hD hS hl)
theorem VF.iast (C : CX p s m args meth c cc nL own D cI cZ A rt) (q0 : Nat) {a n : Nat} {f : Fn} {i x : Int32} {ws' : va_W} (he : ws[q0]? = some (a, .inl (cI, n, .inl f))) (hws : ws.set q0 (a, .inl (cI, n, .inl (upd f i.toNatClampNeg x))) = ws') (hdg : decode cc pc = .ok (.iastore, 1)) (kk : VF p l e R s m args below meth c cells slots D A nL Q X ws' (pc + 1) lv st) : VF p l e R s m args below meth c cells slots D A nL Q (oI i n X) ws pc lv (.int x :: .int i :: .ref a :: st) := by
  subst hws
  exact fun r hr H locs ls hP hD hS hl => va_iast C.1 C.2.1 C.2.2.2.2.2.1 hP hD hS q0 0 he rfl (oI_some hr).1 hdg (fun H1 locs1 hP1 hD1 hS1 => kk r (oI_some hr).2 H1 locs1 ls hP1 hD1 hS1 hl)
theorem VF.iastK (C : CX p s m args meth c cc nL own D cI cZ A rt) (q0 j : Nat) {a n : Nat} {f : Fn} {i x : Int32} {ws' : va_W} (hi : i = nI j) (hj : j < n) (hn : n < 2 ^ 31) (he : ws[q0]? = some (a, .inl (cI, n, .inl f))) (hws : ws.set q0 (a, .inl (cI, n, .inl (upd f j x))) = ws') (hdg : decode cc pc = .ok (.iastore, 1)) (kk : VF p l e R s m args below meth c cells slots D A nL Q X ws' (pc + 1) lv st) : VF p l e R s m args below meth c cells slots D A nL Q X ws pc lv (.int x :: .int i :: .ref a :: st) := by
  subst hi
  subst hws
  exact fun r hr H locs ls hP hD hS hl => va_iast C.1 C.2.1 C.2.2.2.2.2.1 hP hD hS q0 0 he rfl (vp_in_nI hj hn) hdg (by rw [nI_clamp (Nat.lt_trans hj hn)]; exact fun H1 locs1 hP1 hD1 hS1 => kk r hr H1 locs1 ls hP1 hD1 hS1 hl)
theorem VF.zast (C : CX p s m args meth c cc nL own D cI cZ A rt) (q0 : Nat) {a n : Nat} {f : Fn} {i x : Int32} {ws' : va_W} (he : ws[q0]? = some (a, .inl (cZ, n, .inl f))) (hws : ws.set q0 (a, .inl (cZ, n, .inl (upd f i.toNatClampNeg x))) = ws') (hdg : decode cc pc = .ok (.bastore, 1)) (kk : VF p l e R s m args below meth c cells slots D A nL Q X ws' (pc + 1) lv st) : VF p l e R s m args below meth c cells slots D A nL Q (oI i n (oZ x X)) ws pc lv (.int x :: .int i :: .ref a :: st) := by
  subst hws
  refine fun r hr H locs ls hP hD hS hl => va_zast C.1 C.2.1 C.2.2.2.2.2.1 hP hD hS q0 1 he rfl (oI_some hr).1 hdg (fun H1 locs1 hP1 hD1 hS1 => ?_)
  have hz := oZ_some (oI_some hr).2
  rw [z_vp hz.1] at hP1 hD1
  exact kk r hz.2 H1 locs1 ls hP1 hD1 hS1 hl
theorem VF.alen (C : CX p s m args meth c cc nL own D cI cZ A rt) (q0 : Nat) {a n : Nat} {f : Fn} {v : Int32} (he : ws[q0]? = some (a, .inl (cI, n, .inl f))) (hv : Int32.ofNat n = v) (hdg : decode cc pc = .ok (.arraylength, 1)) (kk : VF p l e R s m args below meth c cells slots D A nL Q X ws (pc + 1) lv (.int v :: st)) : VF p l e R s m args below meth c cells slots D A nL Q X ws pc lv (.ref a :: st) :=
  fun r hr H locs ls hP hD hS hl => va_alen C.1 C.2.1 C.2.2.2.2.2.1 hP q0 0 he rfl hv hdg (kk r hr H locs ls hP hD hS hl)
theorem VF.alenZ (C : CX p s m args meth c cc nL own D cI cZ A rt) (q0 : Nat) {a n : Nat} {f : Fn} {v : Int32} (he : ws[q0]? = some (a, .inl (cZ, n, .inl f))) (hv : Int32.ofNat n = v) (hdg : decode cc pc = .ok (.arraylength, 1)) (kk : VF p l e R s m args below meth c cells slots D A nL Q X ws (pc + 1) lv (.int v :: st)) : VF p l e R s m args below meth c cells slots D A nL Q X ws pc lv (.ref a :: st) :=
  fun r hr H locs ls hP hD hS hl => va_alen C.1 C.2.1 C.2.2.2.2.2.1 hP q0 1 he rfl hv hdg (kk r hr H locs ls hP hD hS hl)
theorem VF.iret (C : CX p s m args meth c cc nL own D cI cZ A (some .int)) {rv : τ → Option Value} {wv : τ → va_W} {r0 : τ} {v : Int32} (hv : rv r0 = some (.int v)) (hw : wv r0 = ws) (hdg : decode cc pc = .ok (.ireturn, 1)) : VF p l e R s m args below meth c 0 0 D A nL (fun r => MQ below (QcX (rv r) D (wv r) A) args s 0 0 A) (some r0) ws pc lv [.int v] := fun r hr H locs ls hP hD hS hl => by
  cases hr
  exact W.iret C.1 C.2.1 C.2.2.2.2.2.2.2.2.1 (fun t ht _ => ⟨⟨by rw [hv], by rw [hw, ht]; exact hP⟩, hS.F ht⟩) hS.2.2 hdg C.2.2.2.2.2.2.2.2.2
theorem VF.zretK (C : CX p s m args meth c cc nL own D cI cZ A (some .boolean)) {rv : τ → Option Value} {wv : τ → va_W} {r0 : τ} {v : Int32} (hz : v = 0 ∨ v = 1) (hv : rv r0 = some (.int v)) (hw : wv r0 = ws) (hdg : decode cc pc = .ok (.ireturn, 1)) : VF p l e R s m args below meth c 0 0 D A nL (fun r => MQ below (QcX (rv r) D (wv r) A) args s 0 0 A) (some r0) ws pc lv [.int v] := fun r hr H locs ls hP hD hS hl => by
  cases hr
  exact W.zret C.1 C.2.1 C.2.2.2.2.2.2.2.2.1 (z_nar hz) (fun t ht _ => ⟨⟨by rw [hv], by rw [hw, ht]; exact hP⟩, hS.F ht⟩) hS.2.2 hdg C.2.2.2.2.2.2.2.2.2
theorem VF.zret (C : CX p s m args meth c cc nL own D cI cZ A (some .boolean)) {rv : τ → Option Value} {wv : τ → va_W} {r0 : τ} {v : Int32} (hv : rv r0 = some (.int v)) (hw : wv r0 = ws) (hdg : decode cc pc = .ok (.ireturn, 1)) : VF p l e R s m args below meth c 0 0 D A nL (fun r => MQ below (QcX (rv r) D (wv r) A) args s 0 0 A) (oZ v (some r0)) ws pc lv [.int v] := fun r hr => VF.zretK C (oZ_some hr).1 hv hw hdg r (oZ_some hr).2
theorem VF.vret (C : CX p s m args meth c cc nL own D cI cZ A none) {rv : τ → Option Value} {wv : τ → va_W} {r0 : τ} (hv : rv r0 = none) (hw : wv r0 = ws) (hdg : decode cc pc = .ok (.return_, 1)) : VF p l e R s m args below meth c 0 0 D A nL (fun r => MQ below (QcX (rv r) D (wv r) A) args s 0 0 A) (some r0) ws pc lv [] := fun r hr H locs ls hP hD hS hl => by
  cases hr
  exact W.vret C.1 C.2.1 C.2.2.2.2.2.2.2.2.1 (fun t ht _ => ⟨⟨by rw [hv], by rw [hw, ht]; exact hP⟩, hS.F ht⟩) hS.2.2 hdg C.2.2.2.2.2.2.2.2.2
theorem VF.aret {cn : String} (C : CX p s m args meth c cc nL own D cI cZ A (some (.object cn))) {rv : τ → Option Value} {wv : τ → va_W} {r0 : τ} {v : Nat} (hv : rv r0 = some (.ref v)) (hw : wv r0 = ws) (hdg : decode cc pc = .ok (.areturn, 1)) : VF p l e R s m args below meth c 0 0 D A nL (fun r => MQ below (QcX (rv r) D (wv r) A) args s 0 0 A) (some r0) ws pc lv [.ref v] := fun r hr H locs ls hP hD hS hl => by
  cases hr
  exact W.aret C.1 C.2.1 C.2.2.2.2.2.2.2.2.1 (Or.inl ⟨cn, rfl⟩) (Or.inr ⟨v, rfl⟩) (fun t ht _ => ⟨⟨by rw [hv], by rw [hw, ht]; exact hP⟩, hS.F ht⟩) hS.2.2 hdg C.2.2.2.2.2.2.2.2.2
theorem vf_go {H : Heap} {locs : List Loc} {mc ms : Nat} {ls : Array Slot} {st0 rest : List Value} {rv : Option Value} {w' : va_W} {A1 : Nat → Prop} {a : Array Value} {free : Addr → Prop} {H0 : Heap} {Qf : State → Prop} (hr : va_Run p l e R s m args below meth c H locs cells slots mc ms (F0 m pc ls st0) rest (QcX rv D w' A1 a) free) (hS : va_S A H0 H locs) (hA : ∀ q, q < H.size → A1 q → A q) (hf : ∀ q, free q → A q)
    (kk : ∀ (H1 : Heap) (locs1 : List Loc), va_P D vwCl w' H1 → (∀ q : Nat, q < H.size → ¬ A1 q → H1[q]? = H[q]?) → va_S A H0 H1 locs1 → W p l e R s m args below meth c H1 locs1 (cells + mc) (slots + ms) Qf (F0 m (pc + 3) ls (rv.toList ++ rest))) : W p l e R s m args below meth c H locs cells slots Qf (F0 m pc ls st0) := by
  intro T hT X
  obtain ⟨v, st₀, t, T', L, h0, X', hL, e1, e2, ⟨⟨hv, hb⟩, hz, hk⟩, st⟩ := hr T hT X
  cases hv
  rw [h0] at hz hk
  obtain ⟨t2, a1, b1⟩ := kk T'.heap (locs ++ L) (by rw [e1]; exact hb) (fun q h1 h2 => by rw [e1]; exact hk q h1 h2)
    ⟨Nat.le_trans hS.1 (by rw [e1]; exact hz), fun q h1 h2 => by rw [e1, hk q (Nat.lt_of_lt_of_le h1 hS.1) (fun z => h2 (hA q (Nat.lt_of_lt_of_le h1 hS.1) z))]; exact hS.2.1 q h1 h2, fun q hq => by
      rcases List.mem_append.mp hq with h | h
      · exact hS.2.2 q h
      · exact hf _ (hL q h)⟩ T' rfl X'
  exact ⟨t2, st t2 a1, b1⟩
theorem PcX.at {av : List Value} {w : va_W} {H : Heap} (C : CX p s m args meth c cc nL own D cI cZ A rt) (hP : va_P D vwCl w H) (hD : va_D (fun _ => True) w) : ∀ U : State, U.heap = H → s.WarmedH U.vm → PcX av D cI cZ w H.size av.toArray U := by
  intro U hU hW
  exact ⟨rfl, by rw [hU], by rw [hU]; exact hP, va_K.moved hW.alike C.2.2.2.2.2.1, hD, C.2.2.2.2.2.2.1.warm hW⟩
theorem VF.callVi (C : CX p s m args meth c cc nL own D cI cZ A rt) {σ : Type} {y0 : MethodName} {bytes : ByteArray} {idx maxL fr lo n : Nat} {ret : Option FieldType} {As rest st0 : List Value} {w : va_W} {Z : Option σ} {rv : σ → Option Value} {wv : σ → va_W} {K : σ → Option τ} {ci N b : Nat} {T : u_T} {fs : List Value} (L : LkV own idx y0 bytes maxL ret n) (M : Ctr l y0 bytes maxL ret fr lo D cI cZ (.ref b :: As) w Z rv wv) (ri : σ → Int32) (hrv : ∀ y, rv y = some (.int (ri y))) (ms : List (Option Nat)) {nc : Nat} (hcov : Cov w ms nc) {ws' : σ → va_W} (hws : ∀ y, St w (wv y) ms ws (ws' y)) (hcl : vwCl[ci]? = some (y0.cls, T, N)) (hq : w[0]? = some (b, .inr (ci, fs))) (hst : st0 = As.reverse ++ .ref b :: rest) (hn : As.length = n) (hroom : (rest.map fun v => v.category).sum ≤ 8) (hR : fr + 1 ≤ R.frames ∧ 8 + (maxL + 11) + lo ≤ R.locals) (hdg : decode cc pc = .ok (.invokevirtual idx, 3)) (hf : cells + 0 ≤ R.cells ∧ slots + 0 ≤ R.slots)
    (kk : ∀ y : σ, VF p l e R s m args below meth c cells slots D A nL Q (K y) (ws' y) (pc + 3) lv (.int (ri y) :: rest)) : VF p l e R s m args below meth c cells slots D A nL Q (oB Z K) ws pc lv st0 := by
  intro r hr H locs ls hP hD hS hl
  obtain ⟨y, hy, hk⟩ := oB_some hr
  subst hst
  have hFc := (hws y).free hcov hD hS C.2.2.2.2.2.2.2.1
  refine vf_go (va_runV (As := As) (rest := rest) (b := b) ⟨C.1, C.2.1, C.2.2.1, C.2.2.2.1, C.2.2.2.2.1⟩ (M y hy H.size) (cwV n C.2.2.2.2.1 (good_wT L.all) rfl rfl rfl ⟨rfl, L.2.1, L.2.2.1, L.2.2.2⟩ hR) ⟨PcX.blind, va_recv C.2.2.2.2.2.1 ((hws y).Pw hcov hP) hcl hq, PcX.at C ((hws y).Pw hcov hP) ((hws y).Dw hcov hD)⟩ rfl hn hl.1 rfl (lv_room hroom) hdg hf) hS (fun q _ h => hFc q h) hFc (fun H1 locs1 hP1 hk1 hS1 => ?_)
  have k1 := kk y r hk H1 locs1 ls ((hws y).P hcov hP hD hk1 hP1) (hD.same (hws y).same) hS1 hl
  rw [hrv y]
  exact k1
theorem VF.callVv (C : CX p s m args meth c cc nL own D cI cZ A rt) {σ : Type} {y0 : MethodName} {bytes : ByteArray} {idx maxL fr lo n : Nat} {ret : Option FieldType} {As rest st0 : List Value} {w : va_W} {Z : Option σ} {rv : σ → Option Value} {wv : σ → va_W} {K : σ → Option τ} {ci N b : Nat} {T : u_T} {fs : List Value} (L : LkV own idx y0 bytes maxL ret n) (M : Ctr l y0 bytes maxL ret fr lo D cI cZ (.ref b :: As) w Z rv wv) (hrv : ∀ y, rv y = none) (ms : List (Option Nat)) {nc : Nat} (hcov : Cov w ms nc) {ws' : σ → va_W} (hws : ∀ y, St w (wv y) ms ws (ws' y)) (hcl : vwCl[ci]? = some (y0.cls, T, N)) (hq : w[0]? = some (b, .inr (ci, fs))) (hst : st0 = As.reverse ++ .ref b :: rest) (hn : As.length = n) (hroom : (rest.map fun v => v.category).sum ≤ 8) (hR : fr + 1 ≤ R.frames ∧ 8 + (maxL + 11) + lo ≤ R.locals) (hdg : decode cc pc = .ok (.invokevirtual idx, 3)) (hf : cells + 0 ≤ R.cells ∧ slots + 0 ≤ R.slots)
    (kk : ∀ y : σ, VF p l e R s m args below meth c cells slots D A nL Q (K y) (ws' y) (pc + 3) lv rest) : VF p l e R s m args below meth c cells slots D A nL Q (oB Z K) ws pc lv st0 := by
  intro r hr H locs ls hP hD hS hl
  obtain ⟨y, hy, hk⟩ := oB_some hr
  subst hst
  have hFc := (hws y).free hcov hD hS C.2.2.2.2.2.2.2.1
  refine vf_go (va_runV (As := As) (rest := rest) (b := b) ⟨C.1, C.2.1, C.2.2.1, C.2.2.2.1, C.2.2.2.2.1⟩ (M y hy H.size) (cwV n C.2.2.2.2.1 (good_wT L.all) rfl rfl rfl ⟨rfl, L.2.1, L.2.2.1, L.2.2.2⟩ hR) ⟨PcX.blind, va_recv C.2.2.2.2.2.1 ((hws y).Pw hcov hP) hcl hq, PcX.at C ((hws y).Pw hcov hP) ((hws y).Dw hcov hD)⟩ rfl hn hl.1 rfl (lv_room hroom) hdg hf) hS (fun q _ h => hFc q h) hFc (fun H1 locs1 hP1 hk1 hS1 => ?_)
  have k1 := kk y r hk H1 locs1 ls ((hws y).P hcov hP hD hk1 hP1) (hD.same (hws y).same) hS1 hl
  rw [hrv y]
  exact k1
theorem VF.callVr (C : CX p s m args meth c cc nL own D cI cZ A rt) {σ : Type} {y0 : MethodName} {bytes : ByteArray} {idx maxL fr lo n : Nat} {ret : Option FieldType} {As rest st0 : List Value} {w : va_W} {Z : Option σ} {rv : σ → Option Value} {wv : σ → va_W} {K : σ → Option τ} {ci N b : Nat} {T : u_T} {fs : List Value} (L : LkV own idx y0 bytes maxL ret n) (M : Ctr l y0 bytes maxL ret fr lo D cI cZ (.ref b :: As) w Z rv wv) (ri : σ → Nat) (hrv : ∀ y, rv y = some (.ref (ri y))) (ms : List (Option Nat)) {nc : Nat} (hcov : Cov w ms nc) {ws' : σ → va_W} (hws : ∀ y, St w (wv y) ms ws (ws' y)) (hcl : vwCl[ci]? = some (y0.cls, T, N)) (hq : w[0]? = some (b, .inr (ci, fs))) (hst : st0 = As.reverse ++ .ref b :: rest) (hn : As.length = n) (hroom : (rest.map fun v => v.category).sum ≤ 8) (hR : fr + 1 ≤ R.frames ∧ 8 + (maxL + 11) + lo ≤ R.locals) (hdg : decode cc pc = .ok (.invokevirtual idx, 3)) (hf : cells + 0 ≤ R.cells ∧ slots + 0 ≤ R.slots)
    (kk : ∀ y : σ, VF p l e R s m args below meth c cells slots D A nL Q (K y) (ws' y) (pc + 3) lv (.ref (ri y) :: rest)) : VF p l e R s m args below meth c cells slots D A nL Q (oB Z K) ws pc lv st0 := by
  intro r hr H locs ls hP hD hS hl
  obtain ⟨y, hy, hk⟩ := oB_some hr
  subst hst
  have hFc := (hws y).free hcov hD hS C.2.2.2.2.2.2.2.1
  refine vf_go (va_runV (As := As) (rest := rest) (b := b) ⟨C.1, C.2.1, C.2.2.1, C.2.2.2.1, C.2.2.2.2.1⟩ (M y hy H.size) (cwV n C.2.2.2.2.1 (good_wT L.all) rfl rfl rfl ⟨rfl, L.2.1, L.2.2.1, L.2.2.2⟩ hR) ⟨PcX.blind, va_recv C.2.2.2.2.2.1 ((hws y).Pw hcov hP) hcl hq, PcX.at C ((hws y).Pw hcov hP) ((hws y).Dw hcov hD)⟩ rfl hn hl.1 rfl (lv_room hroom) hdg hf) hS (fun q _ h => hFc q h) hFc (fun H1 locs1 hP1 hk1 hS1 => ?_)
  have k1 := kk y r hk H1 locs1 ls ((hws y).P hcov hP hD hk1 hP1) (hD.same (hws y).same) hS1 hl
  rw [hrv y]
  exact k1
theorem VF.callSi (C : CX p s m args meth c cc nL own D cI cZ A rt) {σ : Type} {y0 : MethodName} {bytes : ByteArray} {idx maxL fr lo n : Nat} {ret : Option FieldType} {As rest st0 : List Value} {w : va_W} {Z : Option σ} {rv : σ → Option Value} {wv : σ → va_W} {K : σ → Option τ}  (L : LkS own idx y0 bytes maxL ret n) (M : Ctr l y0 bytes maxL ret fr lo D cI cZ As w Z rv wv) (ri : σ → Int32) (hrv : ∀ y, rv y = some (.int (ri y))) (ms : List (Option Nat)) {nc : Nat} (hcov : Cov w ms nc) {ws' : σ → va_W} (hws : ∀ y, St w (wv y) ms ws (ws' y))  (hst : st0 = As.reverse ++ rest) (hn : As.length = n) (hroom : (rest.map fun v => v.category).sum ≤ 8) (hR : fr + 1 ≤ R.frames ∧ 8 + (maxL + 11) + lo ≤ R.locals) (hdg : decode cc pc = .ok (.invokestatic idx, 3)) (hf : cells + 0 ≤ R.cells ∧ slots + 0 ≤ R.slots)
    (kk : ∀ y : σ, VF p l e R s m args below meth c cells slots D A nL Q (K y) (ws' y) (pc + 3) lv (.int (ri y) :: rest)) : VF p l e R s m args below meth c cells slots D A nL Q (oB Z K) ws pc lv st0 := by
  intro r hr H locs ls hP hD hS hl
  obtain ⟨y, hy, hk⟩ := oB_some hr
  subst hst
  have hFc := (hws y).free hcov hD hS C.2.2.2.2.2.2.2.1
  refine vf_go (va_runS (As := As) (rest := rest) ⟨C.1, C.2.1, C.2.2.1, C.2.2.2.1, C.2.2.2.2.1⟩ (M y hy H.size) ⟨callB_of n C.2.2.2.2.1 (good_wT (wM_in L.1.2.2.2)) rfl rfl rfl (C.2.2.2.2.1 _ L.1.2.2.1) (C.2.2.2.2.1 _ L.1.1) L.2 hR, C.2.2.2.2.1 _ L.1.2.1⟩ ⟨PcX.blind, PcX.at C ((hws y).Pw hcov hP) ((hws y).Dw hcov hD)⟩ rfl hn hl.1 rfl (lv_room hroom) hdg hf) hS (fun q _ h => hFc q h) hFc (fun H1 locs1 hP1 hk1 hS1 => ?_)
  have k1 := kk y r hk H1 locs1 ls ((hws y).P hcov hP hD hk1 hP1) (hD.same (hws y).same) hS1 hl
  rw [hrv y]
  exact k1
theorem VF.callSv (C : CX p s m args meth c cc nL own D cI cZ A rt) {σ : Type} {y0 : MethodName} {bytes : ByteArray} {idx maxL fr lo n : Nat} {ret : Option FieldType} {As rest st0 : List Value} {w : va_W} {Z : Option σ} {rv : σ → Option Value} {wv : σ → va_W} {K : σ → Option τ}  (L : LkS own idx y0 bytes maxL ret n) (M : Ctr l y0 bytes maxL ret fr lo D cI cZ As w Z rv wv) (hrv : ∀ y, rv y = none) (ms : List (Option Nat)) {nc : Nat} (hcov : Cov w ms nc) {ws' : σ → va_W} (hws : ∀ y, St w (wv y) ms ws (ws' y))  (hst : st0 = As.reverse ++ rest) (hn : As.length = n) (hroom : (rest.map fun v => v.category).sum ≤ 8) (hR : fr + 1 ≤ R.frames ∧ 8 + (maxL + 11) + lo ≤ R.locals) (hdg : decode cc pc = .ok (.invokestatic idx, 3)) (hf : cells + 0 ≤ R.cells ∧ slots + 0 ≤ R.slots)
    (kk : ∀ y : σ, VF p l e R s m args below meth c cells slots D A nL Q (K y) (ws' y) (pc + 3) lv rest) : VF p l e R s m args below meth c cells slots D A nL Q (oB Z K) ws pc lv st0 := by
  intro r hr H locs ls hP hD hS hl
  obtain ⟨y, hy, hk⟩ := oB_some hr
  subst hst
  have hFc := (hws y).free hcov hD hS C.2.2.2.2.2.2.2.1
  refine vf_go (va_runS (As := As) (rest := rest) ⟨C.1, C.2.1, C.2.2.1, C.2.2.2.1, C.2.2.2.2.1⟩ (M y hy H.size) ⟨callB_of n C.2.2.2.2.1 (good_wT (wM_in L.1.2.2.2)) rfl rfl rfl (C.2.2.2.2.1 _ L.1.2.2.1) (C.2.2.2.2.1 _ L.1.1) L.2 hR, C.2.2.2.2.1 _ L.1.2.1⟩ ⟨PcX.blind, PcX.at C ((hws y).Pw hcov hP) ((hws y).Dw hcov hD)⟩ rfl hn hl.1 rfl (lv_room hroom) hdg hf) hS (fun q _ h => hFc q h) hFc (fun H1 locs1 hP1 hk1 hS1 => ?_)
  have k1 := kk y r hk H1 locs1 ls ((hws y).P hcov hP hD hk1 hP1) (hD.same (hws y).same) hS1 hl
  rw [hrv y]
  exact k1
theorem VF.callSr (C : CX p s m args meth c cc nL own D cI cZ A rt) {σ : Type} {y0 : MethodName} {bytes : ByteArray} {idx maxL fr lo n : Nat} {ret : Option FieldType} {As rest st0 : List Value} {w : va_W} {Z : Option σ} {rv : σ → Option Value} {wv : σ → va_W} {K : σ → Option τ}  (L : LkS own idx y0 bytes maxL ret n) (M : Ctr l y0 bytes maxL ret fr lo D cI cZ As w Z rv wv) (ri : σ → Nat) (hrv : ∀ y, rv y = some (.ref (ri y))) (ms : List (Option Nat)) {nc : Nat} (hcov : Cov w ms nc) {ws' : σ → va_W} (hws : ∀ y, St w (wv y) ms ws (ws' y))  (hst : st0 = As.reverse ++ rest) (hn : As.length = n) (hroom : (rest.map fun v => v.category).sum ≤ 8) (hR : fr + 1 ≤ R.frames ∧ 8 + (maxL + 11) + lo ≤ R.locals) (hdg : decode cc pc = .ok (.invokestatic idx, 3)) (hf : cells + 0 ≤ R.cells ∧ slots + 0 ≤ R.slots)
    (kk : ∀ y : σ, VF p l e R s m args below meth c cells slots D A nL Q (K y) (ws' y) (pc + 3) lv (.ref (ri y) :: rest)) : VF p l e R s m args below meth c cells slots D A nL Q (oB Z K) ws pc lv st0 := by
  intro r hr H locs ls hP hD hS hl
  obtain ⟨y, hy, hk⟩ := oB_some hr
  subst hst
  have hFc := (hws y).free hcov hD hS C.2.2.2.2.2.2.2.1
  refine vf_go (va_runS (As := As) (rest := rest) ⟨C.1, C.2.1, C.2.2.1, C.2.2.2.1, C.2.2.2.2.1⟩ (M y hy H.size) ⟨callB_of n C.2.2.2.2.1 (good_wT (wM_in L.1.2.2.2)) rfl rfl rfl (C.2.2.2.2.1 _ L.1.2.2.1) (C.2.2.2.2.1 _ L.1.1) L.2 hR, C.2.2.2.2.1 _ L.1.2.1⟩ ⟨PcX.blind, PcX.at C ((hws y).Pw hcov hP) ((hws y).Dw hcov hD)⟩ rfl hn hl.1 rfl (lv_room hroom) hdg hf) hS (fun q _ h => hFc q h) hFc (fun H1 locs1 hP1 hk1 hS1 => ?_)
  have k1 := kk y r hk H1 locs1 ls ((hws y).P hcov hP hD hk1 hP1) (hD.same (hws y).same) hS1 hl
  rw [hrv y]
  exact k1
theorem VF.callNi (C : CX p s m args meth c cc nL own D cI cZ A rt) {σ : Type} {y0 : MethodName} {bytes : ByteArray} {idx maxL fr lo n : Nat} {ret : Option FieldType} {As rest st0 : List Value} {w : va_W} {Z : Option σ} {rv : σ → Option Value} {wv : σ → va_W} {K : σ → Option τ} {host : String} (hnw : va_Nw (.methodLinkNest own idx y0 host) s) (L : LkN y0 bytes maxL ret n) (M : Ctr l y0 bytes maxL ret fr lo D cI cZ As w Z rv wv) (ri : σ → Int32) (hrv : ∀ y, rv y = some (.int (ri y))) (ms : List (Option Nat)) {nc : Nat} (hcov : Cov w ms nc) {ws' : σ → va_W} (hws : ∀ y, St w (wv y) ms ws (ws' y))  (hst : st0 = As.reverse ++ rest) (hn : As.length = n) (hroom : (rest.map fun v => v.category).sum ≤ 8) (hR : fr + 1 ≤ R.frames ∧ 8 + (maxL + 11) + lo ≤ R.locals) (hdg : decode cc pc = .ok (.invokestatic idx, 3)) (hf : cells + 0 ≤ R.cells ∧ slots + 0 ≤ R.slots)
    (kk : ∀ y : σ, VF p l e R s m args below meth c cells slots D A nL Q (K y) (ws' y) (pc + 3) lv (.int (ri y) :: rest)) : VF p l e R s m args below meth c cells slots D A nL Q (oB Z K) ws pc lv st0 := by
  intro r hr H locs ls hP hD hS hl
  obtain ⟨y, hy, hk⟩ := oB_some hr
  subst hst
  have hFc := (hws y).free hcov hD hS C.2.2.2.2.2.2.2.1
  refine vf_go (va_runSN (As := As) (rest := rest) ⟨C.1, C.2.1, C.2.2.1, C.2.2.2.1, C.2.2.2.2.1⟩ (M y hy H.size) ⟨va_cnB n C.2.2.2.2.1 (good_wT (wM_in L.1.2.2)) rfl rfl rfl hnw (C.2.2.2.2.1 _ L.1.2.1) L.2 hR, C.2.2.2.2.1 _ L.1.1, trivial⟩ ⟨PcX.blind, PcX.at C ((hws y).Pw hcov hP) ((hws y).Dw hcov hD)⟩ rfl hn hl.1 rfl (lv_room hroom) hdg hf) hS (fun q _ h => hFc q h) hFc (fun H1 locs1 hP1 hk1 hS1 => ?_)
  have k1 := kk y r hk H1 locs1 ls ((hws y).P hcov hP hD hk1 hP1) (hD.same (hws y).same) hS1 hl
  rw [hrv y]
  exact k1
theorem VF.callNv (C : CX p s m args meth c cc nL own D cI cZ A rt) {σ : Type} {y0 : MethodName} {bytes : ByteArray} {idx maxL fr lo n : Nat} {ret : Option FieldType} {As rest st0 : List Value} {w : va_W} {Z : Option σ} {rv : σ → Option Value} {wv : σ → va_W} {K : σ → Option τ} {host : String} (hnw : va_Nw (.methodLinkNest own idx y0 host) s) (L : LkN y0 bytes maxL ret n) (M : Ctr l y0 bytes maxL ret fr lo D cI cZ As w Z rv wv) (hrv : ∀ y, rv y = none) (ms : List (Option Nat)) {nc : Nat} (hcov : Cov w ms nc) {ws' : σ → va_W} (hws : ∀ y, St w (wv y) ms ws (ws' y))  (hst : st0 = As.reverse ++ rest) (hn : As.length = n) (hroom : (rest.map fun v => v.category).sum ≤ 8) (hR : fr + 1 ≤ R.frames ∧ 8 + (maxL + 11) + lo ≤ R.locals) (hdg : decode cc pc = .ok (.invokestatic idx, 3)) (hf : cells + 0 ≤ R.cells ∧ slots + 0 ≤ R.slots)
    (kk : ∀ y : σ, VF p l e R s m args below meth c cells slots D A nL Q (K y) (ws' y) (pc + 3) lv rest) : VF p l e R s m args below meth c cells slots D A nL Q (oB Z K) ws pc lv st0 := by
  intro r hr H locs ls hP hD hS hl
  obtain ⟨y, hy, hk⟩ := oB_some hr
  subst hst
  have hFc := (hws y).free hcov hD hS C.2.2.2.2.2.2.2.1
  refine vf_go (va_runSN (As := As) (rest := rest) ⟨C.1, C.2.1, C.2.2.1, C.2.2.2.1, C.2.2.2.2.1⟩ (M y hy H.size) ⟨va_cnB n C.2.2.2.2.1 (good_wT (wM_in L.1.2.2)) rfl rfl rfl hnw (C.2.2.2.2.1 _ L.1.2.1) L.2 hR, C.2.2.2.2.1 _ L.1.1, trivial⟩ ⟨PcX.blind, PcX.at C ((hws y).Pw hcov hP) ((hws y).Dw hcov hD)⟩ rfl hn hl.1 rfl (lv_room hroom) hdg hf) hS (fun q _ h => hFc q h) hFc (fun H1 locs1 hP1 hk1 hS1 => ?_)
  have k1 := kk y r hk H1 locs1 ls ((hws y).P hcov hP hD hk1 hP1) (hD.same (hws y).same) hS1 hl
  rw [hrv y]
  exact k1
theorem VF.callNr (C : CX p s m args meth c cc nL own D cI cZ A rt) {σ : Type} {y0 : MethodName} {bytes : ByteArray} {idx maxL fr lo n : Nat} {ret : Option FieldType} {As rest st0 : List Value} {w : va_W} {Z : Option σ} {rv : σ → Option Value} {wv : σ → va_W} {K : σ → Option τ} {host : String} (hnw : va_Nw (.methodLinkNest own idx y0 host) s) (L : LkN y0 bytes maxL ret n) (M : Ctr l y0 bytes maxL ret fr lo D cI cZ As w Z rv wv) (ri : σ → Nat) (hrv : ∀ y, rv y = some (.ref (ri y))) (ms : List (Option Nat)) {nc : Nat} (hcov : Cov w ms nc) {ws' : σ → va_W} (hws : ∀ y, St w (wv y) ms ws (ws' y))  (hst : st0 = As.reverse ++ rest) (hn : As.length = n) (hroom : (rest.map fun v => v.category).sum ≤ 8) (hR : fr + 1 ≤ R.frames ∧ 8 + (maxL + 11) + lo ≤ R.locals) (hdg : decode cc pc = .ok (.invokestatic idx, 3)) (hf : cells + 0 ≤ R.cells ∧ slots + 0 ≤ R.slots)
    (kk : ∀ y : σ, VF p l e R s m args below meth c cells slots D A nL Q (K y) (ws' y) (pc + 3) lv (.ref (ri y) :: rest)) : VF p l e R s m args below meth c cells slots D A nL Q (oB Z K) ws pc lv st0 := by
  intro r hr H locs ls hP hD hS hl
  obtain ⟨y, hy, hk⟩ := oB_some hr
  subst hst
  have hFc := (hws y).free hcov hD hS C.2.2.2.2.2.2.2.1
  refine vf_go (va_runSN (As := As) (rest := rest) ⟨C.1, C.2.1, C.2.2.1, C.2.2.2.1, C.2.2.2.2.1⟩ (M y hy H.size) ⟨va_cnB n C.2.2.2.2.1 (good_wT (wM_in L.1.2.2)) rfl rfl rfl hnw (C.2.2.2.2.1 _ L.1.2.1) L.2 hR, C.2.2.2.2.1 _ L.1.1, trivial⟩ ⟨PcX.blind, PcX.at C ((hws y).Pw hcov hP) ((hws y).Dw hcov hD)⟩ rfl hn hl.1 rfl (lv_room hroom) hdg hf) hS (fun q _ h => hFc q h) hFc (fun H1 locs1 hP1 hk1 hS1 => ?_)
  have k1 := kk y r hk H1 locs1 ls ((hws y).P hcov hP hD hk1 hP1) (hD.same (hws y).same) hS1 hl
  rw [hrv y]
  exact k1
end VFrows
/-- a contract out of its walk -/
theorem Ctr.of {l : Launch} {y : MethodName} {cc : ByteArray} {nL : Nat} {rt : Option FieldType} {fr lo : Nat} {D : va_G} {cI cZ : ClassId} {av : List Value} {w : va_W} {τ : Type} {X : Option τ} {rv : τ → Option Value} {wv : τ → va_W} (hy : plainName y.cls = true) (hlen : (lg_sl av).length ≤ nL)
    (body : ∀ (p : Program) (e : Env) (s : State) (m : MethodId) (below : List Frame) (meth : Method) (c : Code) (A : Nat → Prop), CX p s m av.toArray meth c cc nL y.cls D cI cZ A rt → VF p l e { frames := fr, cells := 0, slots := 0, locals := lo } s m av.toArray below meth c 0 0 D A nL (fun r => MQ below (QcX (rv r) D (wv r) A) av.toArray s 0 0 A) X w 0 (lv_args 0 av) []) : Ctr l y cc nL rt fr lo D cI cZ av w X rv wv := by
  intro r hr sz
  refine Met.ofW (cc := cc) (maxL := nL) (ret := rt) hy rfl ?_
  intro p e s m args below meth c s₁ B hml hv
  obtain ⟨rfl, hsz, hP, hK, hD0, hN⟩ := hv
  have hts := atoms_spec (ws := wM y cc nL rt) B.pre
  have hown : s.vm.findClass y.cls = some m.cls := findClass_of_methodNamed B.named
  subst hsz
  have hl := lv_entry av (n := nL) hlen
  rw [lg_entry_eq]
  exact body p e s m below meth c (va_A w s.heap.size) ⟨B.exec, B.bytes, hml, hown, fun w hw => hts w (List.mem_cons_of_mem _ hw), hK, hN, fun q h => Or.inr h, B.returns, B.notSynchronized⟩ r hr s.heap [] _ hP hD0.self va_S.rf hl
