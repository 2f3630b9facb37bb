/-! ===== what a command does ===== -/
def Sc6 (c s : Fn) : Prop := (∃ l, l ≤ 3 ∧ c 4 = nI l ∧ s 289 = nI l) ∧ (∃ v, v ≤ 7 ∧ c 5 = nI v ∧ s 292 = nI v) ∧ (c 6 = s 290 ∧ (c 6 = 0 ∨ c 6 = 1)) ∧ (c 7 = s 291 ∧ (c 7 = 0 ∨ c 7 = 1)) ∧ c 13 = s 304 ∧ c 14 = s 305
/-- the relation without the wires and without 'ready' -/
def R5 (n : Nat) (c b k s : Fn) : Prop := ByR b s ∧ LkR k s ∧ Sc6 c s ∧ BuR n c s ∧ SuR n c s
theorem ScR.six {c s : Fn} (h : ScR c s) : Sc6 c s := ⟨h.1, h.2.1, h.2.2.1, h.2.2.2.1, h.2.2.2.2.1, h.2.2.2.2.2.1⟩
/-- the end of a release: ready is t, the wires are cleared -/
theorem R5.end {n : Nat} {c b k s w g : Fn} {t : Int32} (h : R5 n c b k s) (hc : c 15 = t) (ht : t = 0 ∨ t = 1) (hw0 : w 0 = 0) (hw1 : w 1 = 0) (hg : ∀ j, j < 16 → g j = -1) : ChR n 0 c w g b k (upd (upd (upd s 303 t) 298 0) 299 0) := by
  obtain ⟨h1, h2, ⟨a1, a2, a3, a4, a5, a6⟩, h4, h5⟩ := h
  refine ⟨h1.s (fun a ha => ?_), h2.s rfl, ⟨a1, a2, a3, a4, a5, a6, hc, hc ▸ ht⟩, h4.cs ⟨rfl, rfl, rfl⟩ ⟨rfl, rfl, rfl⟩, h5.cs ⟨rfl, rfl⟩ ⟨rfl, rfl⟩, ⟨hw0, Or.inl hw0⟩, 0, by omega, hw1, rfl, fun _ => rfl, fun z => by omega, fun z => by omega, fun z => by omega, fun _ => hg, fun z => by omega⟩
  rw [upd_n (by omega), upd_n (by omega), upd_n (by omega)]
theorem mayX0 {c : Fn} {u : Int32} (h : c 6 = 0) : zX0_mayBegin c u = some (0, c) := by
  unfold zX0_mayBegin
  rw [if_pos h]
theorem mayX1 {c : Fn} (h : c 6 = 1) : zX0_mayBegin c 0 = some (1, upd c 6 0) := by
  unfold zX0_mayBegin zX0_mayBegin_k23
  rw [h]
  rfl
theorem mayX2 {c : Fn} (h : c 6 = 1) : zX0_mayBegin c 1 = some (0, upd (upd c 6 0) 7 1) := by
  unfold zX0_mayBegin zX0_mayBegin_k23
  rw [h]
  rfl
theorem R5.s0 {n : Nat} {c b k s : Fn} (h : R5 n c b k s) : R5 n (upd c 15 0) b k s := h
/-- enabled no more; refused -/
theorem R5.refuse {n : Nat} {c b k s : Fn} (h : R5 n c b k s) : R5 n (upd (upd c 6 0) 7 1) b k (upd (upd s 290 0) 291 1) := by
  obtain ⟨h1, h2, ⟨a1, a2, a3, a4, a5, a6⟩, h4, h5⟩ := h
  exact ⟨h1.s (fun a ha => by rw [upd_n (by omega), upd_n (by omega)]), h2.s rfl, ⟨a1, a2, ⟨rfl, Or.inl rfl⟩, ⟨rfl, Or.inr rfl⟩, a5, a6⟩, h4.cs ⟨rfl, rfl, rfl⟩ ⟨rfl, rfl, rfl⟩, h5.cs ⟨rfl, rfl⟩ ⟨rfl, rfl⟩⟩
theorem R5.dis {n : Nat} {c b k s : Fn} (h : R5 n c b k s) : R5 n (upd c 6 0) b k (upd s 290 0) := by
  obtain ⟨h1, h2, ⟨a1, a2, a3, a4, a5, a6⟩, h4, h5⟩ := h
  exact ⟨h1.s (fun a ha => by rw [upd_n (by omega)]), h2.s rfl, ⟨a1, a2, ⟨rfl, Or.inl rfl⟩, a4, a5, a6⟩, h4.cs ⟨rfl, rfl, rfl⟩ ⟨rfl, rfl, rfl⟩, h5.cs ⟨rfl, rfl⟩ ⟨rfl, rfl⟩⟩
/-- something begins -/
theorem R5.begin {n : Nat} {c b k s : Fn} {x y : Int32} {z1 z2 : Int32} {L : Nat} (h : R5 n c b k s) (h2 : (x = 2 ∧ y = 1) ∨ (x = 32 ∧ y = 2 ∧ ∃ j, j < n ∧ z1 = nI j ∧ z2 = nI j) ∨ (x = 199 ∧ y = 3)) (hL : 1 ≤ L ∧ L ≤ 200) :
    R5 n (upd (upd (upd (upd c 8 x) 9 z1) 10 (nI L)) 14 (c 14 + 1)) b k (upd (upd (upd (upd s 293 y) 294 z2) 295 (nI L)) 305 (s 305 + 1)) := by
  obtain ⟨h1, h3, ⟨a1, a2, a3, a4, a5, a6⟩, -, h5⟩ := h
  refine ⟨h1.s (fun a ha => by rw [upd_n (by omega), upd_n (by omega), upd_n (by omega), upd_n (by omega)]), h3.s rfl, ⟨a1, a2, a3, a4, a5, ?_⟩, Or.inr ⟨h2, L, hL.1, hL.2, rfl, rfl⟩, h5.cs ⟨rfl, rfl⟩ ⟨rfl, rfl⟩⟩
  show c 14 + 1 = s 305 + 1
  rw [a6]
theorem beginX {c : Fn} {x y z : Int32} : zX0_begin c x y z = some (upd (upd (upd (upd c 8 x) 9 y) 10 z) 14 (c 14 + 1)) := rfl
theorem beginM {s : Fn} {x y z : Int32} : zX5_begins s x y z = some (upd (upd (upd (upd s 293 x) 294 y) 295 z) 305 (s 305 + 1)) := rfl
theorem guard6 {c k s sh g : Fn} {p q n t e : Nat} (hS : Shp sh p q n t e) (hg : ∀ i, i < 5 → g i = sh i) (h : Sc6 c s) (hl : LkR k s) {j : Nat} (hj : j < 8) : ∃ r, (r = 0 ∨ r = 1) ∧ zX0_isGuarded c sh k (nI j) = some r ∧ zX5_isGuarded g s (nI j) = some r := by
  obtain ⟨a1, a2⟩ := lockM hl hj
  obtain ⟨-, ⟨v, -, v1, v2⟩, -⟩ := h
  unfold zX0_isGuarded zX5_isGuarded zX1_sectors
  rw [lockX hj a2, oB_s, a1, v1, v2, hg 2 (by omega), oB_s]
  rcases a2 with z | z
  · rw [z, if_pos rfl, if_neg (show ¬ (0 : Int32) = 1 by decide)]
    by_cases c : nI j < sh 2 - nI v
    · exact ⟨0, Or.inl rfl, by rw [if_pos c], by rw [if_pos c]⟩
    · exact ⟨1, Or.inr rfl, by rw [if_neg c], by rw [if_neg c]⟩
  · exact ⟨1, Or.inr rfl, by rw [z]; rfl, by rw [z]; rfl⟩
theorem any1 {s sh g2 : Fn} {p q n t e : Nat} (hS : Shp sh p q n t e) (hg : ∀ i, i < 5 → g2 i = sh i) : ∀ m i fu : Nat, i + m = n → m < fu → zX5_anyGuarded_k4 fu g2 s 1 (nI i) = some 1 := by
  have hn := hS.2.2.2.2.2.2.2.1
  have h2 : g2 2 = nI n := (hg 2 (by omega)).trans hS.2.2.1
  intro m
  induction m with
  | zero =>
    intro i fu hi hf
    obtain ⟨f, rfl⟩ : ∃ f, fu = f + 1 := ⟨fu - 1, by omega⟩
    rw [zX5_anyGuarded_k4, h2, if_pos (nI_le (by omega) (by omega))]
    rfl
  | succ m ih =>
    intro i fu hi hf
    obtain ⟨f, rfl⟩ : ∃ f, fu = f + 1 := ⟨fu - 1, by omega⟩
    rw [zX5_anyGuarded_k4, h2, if_neg (nI_ge (by omega) (by omega)), if_neg (by decide), nI_1]
    exact ih (i + 1) f (by omega) (by omega)
theorem lv_last : ∀ n, n < 9 → ∀ v, v < 8 → 2 ≤ n → 1 ≤ v → ¬ nI (n - 1) < nI n - nI v := by decide +kernel
/-- with a level the class finds one guarded, wherever it begins -/
theorem anyX1 {c k s sh : Fn} {p q n t e v : Nat} (hS : Shp sh p q n t e) (hl : LkR k s) (v0 : 1 ≤ v) (hv : v ≤ 7) (v1 : c 5 = nI v) : ∀ m i fu : Nat, i + m = n → m < fu → zX0_isAnyGuarded_k2 fu c sh k (nI i) = some 1 := by
  have hn := hS.2.2.2.2.2.2.2.1
  have hne : ¬ nI v ≤ 0 := nI_nle (by omega) (by omega)
  intro m
  induction m with
  | zero =>
    intro i fu hi hf
    obtain ⟨f, rfl⟩ : ∃ f, fu = f + 1 := ⟨fu - 1, by omega⟩
    rw [zX0_isAnyGuarded_k2]
    unfold zX1_sectors
    rw [oB_s, hS.2.2.1, if_pos (nI_le (by omega) (by omega)), v1, if_neg hne]
  | succ m ih =>
    intro i fu hi hf
    obtain ⟨f, rfl⟩ : ∃ f, fu = f + 1 := ⟨fu - 1, by omega⟩
    have a2 := (lockM hl (j := i) (by omega)).2
    rw [zX0_isAnyGuarded_k2]
    unfold zX1_sectors
    rw [oB_s, hS.2.2.1, if_neg (nI_ge (by omega) (by omega)), lockX (by omega) a2, oB_s, nI_1, ih (i + 1) f (by omega) (by omega)]
    exact ite_self _
theorem any_rel {c k s sh g2 : Fn} {p q n t e : Nat} (hS : Shp sh p q n t e) (hg : ∀ i, i < 5 → g2 i = sh i) (h : Sc6 c s) (hl : LkR k s) : ∀ fu fv : Nat, n < fu → n < fv → ∃ r, (r = 0 ∨ r = 1) ∧ zX0_isAnyGuarded_k2 fu c sh k (nI 0) = some r ∧ zX5_anyGuarded_k4 fv g2 s 0 (nI 0) = some r := by
  have hn := hS.2.2.2.2.2.2.2.1
  have h2 : g2 2 = nI n := (hg 2 (by omega)).trans hS.2.2.1
  obtain ⟨v, hv, v1, v2⟩ := h.2.1
  have key : ∀ m i fu fv : Nat, i + m = n → m < fu → m < fv → (1 ≤ m ∨ v = 0) → ∃ r, (r = 0 ∨ r = 1) ∧ zX0_isAnyGuarded_k2 fu c sh k (nI i) = some r ∧ zX5_anyGuarded_k4 fv g2 s 0 (nI i) = some r := by
    intro m
    induction m with
    | zero =>
      intro i fu fv hi hf hw hz
      have z : v = 0 := by omega
      obtain ⟨f, rfl⟩ : ∃ f, fu = f + 1 := ⟨fu - 1, by omega⟩
      obtain ⟨f', rfl⟩ : ∃ f, fv = f + 1 := ⟨fv - 1, by omega⟩
      refine ⟨0, Or.inl rfl, ?_, ?_⟩
      · rw [zX0_isAnyGuarded_k2]
        unfold zX1_sectors
        rw [oB_s, hS.2.2.1, if_pos (nI_le (by omega) (by omega)), v1, z]
        rfl
      · rw [zX5_anyGuarded_k4, h2, if_pos (nI_le (by omega) (by omega))]
        rfl
    | succ m ih =>
      intro i fu fv hi hf hw hz
      obtain ⟨f, rfl⟩ : ∃ f, fu = f + 1 := ⟨fu - 1, by omega⟩
      obtain ⟨f', rfl⟩ : ∃ f, fv = f + 1 := ⟨fv - 1, by omega⟩
      obtain ⟨a1, a2⟩ := lockM hl (j := i) (by omega)
      rw [zX0_isAnyGuarded_k2, zX5_anyGuarded_k4, h2, if_neg (nI_ge (by omega) (by omega)), if_pos rfl]
      unfold zX1_sectors zX5_isGuarded
      rw [oB_s, hS.2.2.1, if_neg (nI_ge (by omega) (by omega)), lockX (by omega) a2, oB_s, nI_1, a1, v2, h2]
      rcases a2 with z | z
      · rw [z, if_pos rfl, if_neg (show ¬ (0 : Int32) = 1 by decide)]
        by_cases d : nI i < nI n - nI v
        · rw [if_pos d, oB_s, if_pos rfl]
          refine ih (i + 1) f f' (by omega) (by omega) (by omega) ?_
          by_cases m0 : 1 ≤ m
          · exact Or.inl m0
          · by_cases w : 1 ≤ v
            · have ei : i = n - 1 := by omega
              rw [ei] at d
              exact absurd d (lv_last n (by omega) v (by omega) (by omega) w)
            · exact Or.inr (by omega)
        · rw [if_neg d, oB_s, if_neg (show ¬ (1 : Int32) = 0 by decide)]
          by_cases w : 1 ≤ v
          · exact ⟨1, Or.inr rfl, anyX1 hS hl w hv v1 m (i + 1) f (by omega) (by omega), any1 hS hg m (i + 1) f' (by omega) (by omega)⟩
          · have z0 : v = 0 := by omega
            rw [z0, show nI 0 = (0 : Int32) from rfl, Int32.sub_zero] at d
            exact absurd (nI_lt (by omega) (by omega)) d
      · rw [z, if_neg (show ¬ (1 : Int32) = 0 by decide), if_pos rfl, oB_s, if_neg (show ¬ (1 : Int32) = 0 by decide)]
        exact ⟨1, Or.inr rfl, rfl, any1 hS hg m (i + 1) f' (by omega) (by omega)⟩
  intro fu fv hu hw
  exact key n 0 fu fv (by omega) hu hw (Or.inl (by omega))
/-- suspended, as both ask it -/
theorem su_rel {n : Nat} {c s : Fn} (h : SuR n c s) (hn : n ≤ 8) : (zX0_isSuspended c = some 0 ∧ s 296 ≤ 0 ∧ ¬ 0 < s 296 ∧ s 296 = 0) ∨ (zX0_isSuspended c = some 1 ∧ ¬ s 296 ≤ 0 ∧ 0 < s 296) := by
  obtain ⟨v, hv⟩ := h.two hn
  unfold zX0_isSuspended
  rcases hv with ⟨-, h1, h2⟩ | ⟨-, h1, j, j1, j2, h2⟩
  · refine Or.inl ⟨by rw [if_pos h1], ?_, ?_, h2⟩ <;> rw [h2] <;> decide
  · refine Or.inr ⟨by rw [if_neg h1], ?_, ?_⟩ <;> rw [h2]
    · exact nI_nle (by omega) (by omega)
    · exact nI_lt (a := 0) (by omega) (by omega)
theorem en_rel {c s : Fn} (h : Sc6 c s) : (c 6 = 0 ∧ ¬ s 290 = 1) ∨ (c 6 = 1 ∧ s 290 = 1) := by
  obtain ⟨-, -, ⟨h1, h2⟩, -⟩ := h
  rw [← h1]
  rcases h2 with z | z
  · exact Or.inl ⟨z, by rw [z]; decide⟩
  · exact Or.inr ⟨z, z⟩
/-- the model's 'wants', where it is refused or not -/
theorem wants0 {g2 s : Fn} {u : Int32} (h : ¬ s 290 = 1) : zX5_wants g2 s u = some s := by
  unfold zX5_wants
  rw [if_neg h]
theorem wantsN {g2 s s1 : Fn} {u : Int32} (h : s 290 = 1) (h2 : zX5_isRefused g2 (upd s 290 0) u = some (0, s1)) : zX5_wants g2 s u = some s1 := by
  unfold zX5_wants
  rw [if_pos h, h2, oB_s, if_pos rfl, upd_id]
theorem wantsR {g2 s : Fn} {u : Int32} (h : s 290 = 1) (h2 : zX5_isRefused g2 (upd s 290 0) u = some (1, upd s 290 0)) : zX5_wants g2 s u = some (upd (upd s 290 0) 291 1) := by
  unfold zX5_wants
  rw [if_pos h, h2, oB_s, if_neg (show ¬ (1 : Int32) = 0 by decide)]
theorem all_rel {c b k s sh g2 : Fn} {p q n t e : Nat} (hS : Shp sh p q n t e) (hg : ∀ i, i < 5 → g2 i = sh i) (h : R5 n c b k s) (h301 : True) : ∃ c1 s1, zX0_beginAll c sh k = some c1 ∧ zX5_wants g2 s 199 = some s1 ∧ R5 n c1 b k s1 ∧ c1 15 = c 15 := by
  have hb := hS.b
  have hn := hS.2.2.2.2.2.2.2.1
  have he := hS.2.2.2.2.2.2.2.2.2.2
  have hd := h.dis
  obtain ⟨r, r0, r1, r2⟩ := any_rel hS hg h.2.2.1 h.2.1 4096 4096 (by omega) (by omega)
  have r2' : zX5_anyGuarded g2 (upd s 290 0) = some r := by
    obtain ⟨r', r0', r1', r2'⟩ := any_rel (c := upd c 6 0) (s := upd s 290 0) hS hg hd.2.2.1 hd.2.1 4096 4096 (by omega) (by omega)
    have : zX0_isAnyGuarded_k2 4096 (upd c 6 0) sh k (nI 0) = zX0_isAnyGuarded_k2 4096 c sh k (nI 0) := by
      have hx : ∀ m fu i, i + m = n → m < fu → zX0_isAnyGuarded_k2 fu (upd c 6 0) sh k (nI i) = zX0_isAnyGuarded_k2 fu c sh k (nI i) := by
        intro m
        induction m with
        | zero =>
          intro fu i hi hf
          obtain ⟨f, rfl⟩ : ∃ f, fu = f + 1 := ⟨fu - 1, by omega⟩
          rw [zX0_isAnyGuarded_k2, zX0_isAnyGuarded_k2]
          unfold zX1_sectors
          rw [oB_s, oB_s, hS.2.2.1, if_pos (nI_le (by omega) (by omega)), if_pos (nI_le (by omega) (by omega))]
          rfl
        | succ m ih =>
          intro fu i hi hf
          obtain ⟨f, rfl⟩ : ∃ f, fu = f + 1 := ⟨fu - 1, by omega⟩
          rw [zX0_isAnyGuarded_k2, zX0_isAnyGuarded_k2]
          have := ih f (i + 1) (by omega) (by omega)
          rw [nI_1, this]
          rfl
      exact hx n 4096 0 (by omega) (by omega)
    rw [this, r1] at r1'
    cases r1'
    exact r2'
  have hall := allM hS hg
  have hsec := secM hS hg
  have href : zX5_isRefused g2 (upd s 290 0) 199 = if 0 < s 296 then some (1, upd s 290 0) else oB (zX5_anyGuarded g2 (upd s 290 0)) (fun y4 => if y4 = 0 then (oB (zX5_begins (upd s 290 0) 3 0 ((g2 4) * (g2 2))) (fun y5 => some (0, y5))) else some (1, upd s 290 0)) := by
    unfold zX5_isRefused
    rw [hall, oB_s, oD_n (by omega) (by omega), hsec, oB_s, oD_n (by omega) (by omega), if_neg (by decide), if_pos rfl]
    rfl
  have e42 : g2 4 * g2 2 = nI (e * n) := by
    rw [hg 4 (by omega), hg 2 (by omega), hS.2.2.2.2.1, hS.2.2.1, pk_mul]
  have hen1 : 1 ≤ e * n ∧ e * n ≤ 200 := by
    refine ⟨Nat.mul_pos (by omega) (by omega), Nat.le_trans (Nat.mul_le_mul he.2 hn.2) (by omega)⟩
  unfold zX0_beginAll zX0_isAnyGuarded
  have r1z : zX0_isAnyGuarded_k2 4096 c sh k 0 = some r := r1
  rw [r1z, oB_s]
  unfold zX0_beginAll_k20 zX1_eraseTicks zX1_sectors
  rcases en_rel h.2.2.1 with ⟨e1, e2⟩ | ⟨e1, e2⟩
  · refine ⟨c, s, ?_, wants0 e2, h, rfl⟩
    rcases su_rel h.2.2.2.2 hn.2 with ⟨s1, -⟩ | ⟨s1, -⟩ <;> rw [s1, oB_s, mayX0 e1, mayX0 e1] <;> rcases r0 with z | z <;> rw [z] <;> rfl
  · rcases su_rel h.2.2.2.2 hn.2 with ⟨s1, -, s2, -⟩ | ⟨s1, -, s2⟩
    · rcases r0 with z | z
      · subst z
        rw [if_neg s2, r2', oB_s, if_pos rfl, e42, beginM, oB_s] at href
        refine ⟨_, _, ?_, wantsN e2 href, hd.begin (x := 199) (y := 3) (z1 := -1) (z2 := 0) (L := e * n) (Or.inr (Or.inr ⟨rfl, rfl⟩)) hen1, rfl⟩
        rw [if_pos rfl, s1, oB_s, if_pos rfl, mayX1 e1, oB_s, if_neg (show ¬ (1 : Int32) = 0 by decide), oB_s, oB_s, hS.2.2.2.2.1, hS.2.2.1, pk_mul, beginX, oB_s]
      · subst z
        rw [if_neg s2, r2', oB_s, if_neg (by decide)] at href
        refine ⟨_, _, ?_, wantsR e2 href, h.refuse, rfl⟩
        rw [if_neg (by decide), mayX2 e1]
        rfl
    · rw [if_pos s2] at href
      refine ⟨_, _, ?_, wantsR e2 href, h.refuse, rfl⟩
      rw [s1, oB_s, mayX2 e1]
      rcases r0 with z | z <;> rw [z] <;> rfl
/-- the commands without a byte, 199 apart; 'rd' is what was ready -/
theorem does_rel {c b k s sh w : Fn} {n : Nat} {rd : Int32} (hn : n ≤ 8) (h : R5 n c b k s) (hbu : c 8 = -1 ∧ s 293 = 0) (h15 : c 15 = 0) (hrd : rd = s 303) (h01 : rd = 0 ∨ rd = 1) (h199 : ¬ w 2 = 199) : ∃ c1 s1, zX0_obeyAlone c sh w k rd = some c1 ∧ zX5_does s (w 2) = some s1 ∧ R5 n c1 b k s1 ∧ c1 15 = if w 2 = 102 then 1 else 0 := by
  have h' := h
  obtain ⟨h1, h2, ⟨a1, a2, a3, a4, a5, a6⟩, h4, h5⟩ := h'
  unfold zX0_obeyAlone zX5_does zX3_command
  rw [oB_s]
  by_cases c4 : w 2 = 4
  · refine ⟨_, _, by rw [if_pos c4], by rw [if_pos c4], h.dis, ?_⟩
    rw [if_neg (by rw [c4]; decide)]
    exact h15
  rw [if_neg c4, if_neg c4]
  by_cases c6 : w 2 = 6
  · refine ⟨upd (upd c 6 1) 7 0, upd (upd s 290 1) 291 0, by rw [if_pos c6], by rw [if_pos c6], ⟨h1.s (fun a ha => by rw [upd_n (by omega), upd_n (by omega)]), h2.s rfl, ⟨a1, a2, ⟨rfl, Or.inr rfl⟩, ⟨rfl, Or.inl rfl⟩, a5, a6⟩, h4.cs ⟨rfl, rfl, rfl⟩ ⟨rfl, rfl, rfl⟩, h5.cs ⟨rfl, rfl⟩ ⟨rfl, rfl⟩⟩, ?_⟩
    rw [if_neg (by rw [c6]; decide)]
    exact h15
  rw [if_neg c6, if_neg c6]
  by_cases c102 : w 2 = 102
  · refine ⟨upd c 15 1, s, by rw [if_pos c102], ?_, h, ?_⟩
    · rw [if_neg (by rw [c102]; decide), if_neg (by rw [c102]; decide)]
    · rw [if_pos c102]; rfl
  rw [if_neg c102]
  by_cases c122 : w 2 = 122
  · rw [if_pos c122, if_pos c122]
    unfold zX0_resume zX0_isSuspended zX0_dropSuspended
    rcases h5 with ⟨s1, s2, s3⟩ | ⟨j, L, j1, l1, l2, s1, s2, s3, s4⟩
    · refine ⟨c, s, ?_, ?_, h, by rw [if_neg c102]; exact h15⟩
      · rw [if_pos s1]; rfl
      · rw [s2, if_pos (by decide)]
    · have e1 : nI (j + 1) - 1 = nI j := nI_pred j
      refine ⟨upd (upd (upd (upd (upd c 8 32) 9 (c 11)) 10 (c 12)) 11 (-1)) 12 0, upd (upd (upd (upd s 293 2) 294 (s 296 - 1)) 295 (s 297)) 296 0, ?_, ?_, ⟨h1.s (fun a ha => by rw [upd_n (by omega), upd_n (by omega), upd_n (by omega), upd_n (by omega)]), h2.s rfl, ⟨a1, a2, a3, a4, a5, a6⟩, Or.inr ⟨Or.inr (Or.inl ⟨rfl, rfl, j, j1, s1, ?_⟩), L, l1, l2, s3, s4⟩, Or.inl ⟨rfl, rfl, rfl⟩⟩, by rw [if_neg c102]; exact h15⟩
      · rw [if_neg (show ¬ c 11 = -1 by rw [s1]; exact nI_m1 (by omega))]; rfl
      · rw [if_neg (show ¬ s 296 ≤ 0 by rw [s2]; exact nI_nle (by omega) (by omega))]
        rfl
      · show s 296 - 1 = nI j
        rw [s2, e1]
  rw [if_neg c122, if_neg c122]
  by_cases c153 : w 2 = 153
  · rw [if_pos c153, if_pos c153, ← hrd]
    rcases h01 with z | z
    · subst z
      exact ⟨c, s, by rw [if_pos rfl], by rw [if_neg (by decide)], h, by rw [if_neg c102]; exact h15⟩
    · subst z
      refine ⟨upd (upd (upd (upd (upd c 4 0) 6 0) 7 0) 11 (-1)) 12 0, upd (upd (upd (upd s 289 0) 290 0) 291 0) 296 0, by rw [if_neg (by decide)]; rfl, by rw [if_pos rfl], ⟨h1.s (fun a ha => by rw [upd_n (by omega), upd_n (by omega), upd_n (by omega), upd_n (by omega)]), h2.s rfl, ⟨⟨0, by omega, rfl, rfl⟩, a2, ⟨rfl, Or.inl rfl⟩, ⟨rfl, Or.inl rfl⟩, a5, a6⟩, h4.cs ⟨rfl, rfl, rfl⟩ ⟨rfl, rfl, rfl⟩, Or.inl ⟨rfl, rfl, rfl⟩⟩, by rw [if_neg c102]; exact h15⟩
  rw [if_neg c153, if_neg c153, if_neg h199]
  exact ⟨c, s, rfl, rfl, h, by rw [if_neg c102]; exact h15⟩
/-- locks -/
theorem LkR.set {k s : Fn} {j : Nat} (h : LkR k s) (hj : j < 8) : LkR (upd k j 1) (upd s 288 (s 288 ||| isl 1 (nI j))) ∧ LkR (upd k j 0) (upd s 288 (s 288 &&& (isl 1 (nI j) ^^^ (-1)))) := by
  obtain ⟨m, hm, h1, h2⟩ := h
  have hs : isl 1 (nI j) = nI (2 ^ j) := by
    have hp : 2 ^ j ≤ 2 ^ 7 := Nat.pow_le_pow_right (by omega) (by omega)
    have := isl_n (m := 1) (k := j) (by omega) (by omega)
    rw [Nat.one_mul] at this
    exact this
  have key : ∀ j, j < 8 → ∀ m, m < 256 → ((nI m ||| nI (2 ^ j) = nI (m ||| 2 ^ j) ∧ m ||| 2 ^ j < 256) ∧ (nI m &&& (nI (2 ^ j) ^^^ (-1)) = nI (m &&& (255 ^^^ 2 ^ j)) ∧ m &&& (255 ^^^ 2 ^ j) < 256)) ∧ ∀ i, i < 8 → (Nat.testBit (m ||| 2 ^ j) i = (if i = j then true else Nat.testBit m i)) ∧ (Nat.testBit (m &&& (255 ^^^ 2 ^ j)) i = (if i = j then false else Nat.testBit m i)) := by decide +kernel
  obtain ⟨⟨⟨o1, o2⟩, ⟨n1, n2⟩⟩, tb⟩ := key j hj m hm
  refine ⟨⟨m ||| 2 ^ j, o2, by rw [upd_s, h1, hs, o1], fun i hi => ?_⟩, ⟨m &&& (255 ^^^ 2 ^ j), n2, by rw [upd_s, h1, hs, n1], fun i hi => ?_⟩⟩
  · rw [(tb i hi).1]
    by_cases z : i = j
    · subst z; rw [upd_s, if_pos rfl, if_pos rfl]
    · rw [upd_n z, if_neg z, h2 i hi]
  · rw [(tb i hi).2]
    by_cases z : i = j
    · subst z; rw [upd_s, if_pos rfl]; rfl
    · rw [upd_n z, if_neg z, h2 i hi]
