/-! ===== what a relation looks at; clearing, erasing; what a put answers ===== -/
theorem ByR.s {b s s' : Fn} (h : ByR b s) (e : ∀ a, a < 256 → s' a = s a) : ByR b s' := fun a ha => by rw [e a ha]; exact h a ha
theorem LkR.s {k s s' : Fn} (h : LkR k s) (e : s' 288 = s 288) : LkR k s' := by unfold LkR; rw [e]; exact h
theorem ScR.cs {c s c' s' : Fn} (h : ScR c s) (e : c' 4 = c 4 ∧ c' 5 = c 5 ∧ c' 6 = c 6 ∧ c' 7 = c 7 ∧ c' 13 = c 13 ∧ c' 14 = c 14 ∧ c' 15 = c 15) (e' : s' 289 = s 289 ∧ s' 292 = s 292 ∧ s' 290 = s 290 ∧ s' 291 = s 291 ∧ s' 304 = s 304 ∧ s' 305 = s 305 ∧ s' 303 = s 303) : ScR c' s' := by
  obtain ⟨e1, e2, e3, e4, e5, e6, e7⟩ := e
  obtain ⟨d1, d2, d3, d4, d5, d6, d7⟩ := e'
  unfold ScR
  rw [e1, e2, e3, e4, e5, e6, e7, d1, d2, d3, d4, d5, d6, d7]
  exact h
theorem BuR.cs {n : Nat} {c s c' s' : Fn} (h : BuR n c s) (e : c' 8 = c 8 ∧ c' 9 = c 9 ∧ c' 10 = c 10) (e' : s' 293 = s 293 ∧ s' 294 = s 294 ∧ s' 295 = s 295) : BuR n c' s' := by
  obtain ⟨e1, e2, e3⟩ := e
  obtain ⟨d1, d2, d3⟩ := e'
  unfold BuR
  rw [e1, e2, e3, d1, d2, d3]
  exact h
theorem SuR.cs {n : Nat} {c s c' s' : Fn} (h : SuR n c s) (e : c' 11 = c 11 ∧ c' 12 = c 12) (e' : s' 296 = s 296 ∧ s' 297 = s 297) : SuR n c' s' := by
  obtain ⟨e1, e2⟩ := e
  obtain ⟨d1, d2⟩ := e'
  unfold SuR
  rw [e1, e2, d1, d2]
  exact h
theorem WiR.s {B : Nat} {w g s s' : Fn} (h : WiR B w g s) (e : s' 298 = s 298 ∧ s' 299 = s 299 ∧ s' 300 = s 300 ∧ s' 301 = s 301 ∧ s' 302 = s 302) (e2 : ∀ j, j < 32 → s' (256 + j) = s (256 + j)) : WiR B w g s' := by
  obtain ⟨d1, d2, d3, d4, d5⟩ := e
  obtain ⟨h1, k, k1, k2, k3, k4, k5, k6, k7, k8, k9⟩ := h
  refine ⟨by rw [d1]; exact h1, k, k1, k2, by rw [d2]; exact k3, k4, by rw [d3]; exact k5, by rw [d4]; exact k6, by rw [d5]; exact k7, k8, fun z j hj => ?_⟩
  have a1 := e2 j (by omega)
  have a2 : s' (272 + j) = s (272 + j) := by
    have := e2 (16 + j) (by omega)
    rw [show 256 + (16 + j) = 272 + j by omega] at this
    exact this
  rw [a1, a2]
  exact k9 z j hj
theorem clear_loop {f0 : Fn} : ∀ (m i fu : Nat) (g : Fn), i + m = 16 → m < fu → ∃ g', zX3_clear_k22 fu f0 g (nI i) = some (f0, g') ∧ ∀ j, j < 16 → g' j = if i ≤ j then -1 else g j := by
  intro m
  induction m with
  | zero =>
    intro i fu g hi hf
    obtain ⟨f, rfl⟩ : ∃ f, fu = f + 1 := ⟨fu - 1, by omega⟩
    refine ⟨g, ?_, fun j hj => by rw [if_neg (by omega)]⟩
    rw [zX3_clear_k22, if_pos (show (16 : Int32) ≤ nI i from nI_le (a := 16) (by omega) (by omega))]
  | succ m ih =>
    intro i fu g hi hf
    obtain ⟨f, rfl⟩ : ∃ f, fu = f + 1 := ⟨fu - 1, by omega⟩
    obtain ⟨g', h1, h2⟩ := ih (i + 1) f (upd g i (-1)) (by omega) (by omega)
    refine ⟨g', ?_, fun j hj => ?_⟩
    · rw [zX3_clear_k22, if_neg (show ¬ (16 : Int32) ≤ nI i from nI_ge (b := 16) (by omega) (by omega)), oI_n (by omega) (by omega), ix_n (by omega), nI_1]
      exact h1
    · rw [h2 j hj]
      by_cases z : i + 1 ≤ j
      · rw [if_pos z, if_pos (by omega)]
      · rw [if_neg z]
        by_cases z2 : j = i
        · subst z2; rw [upd_s, if_pos (Nat.le_refl _)]
        · rw [upd_n z2, if_neg (by omega)]
theorem clearX (w g : Fn) : ∃ g', zX3_clear w g = some (upd (upd (upd (upd w 0 0) 1 0) 2 (-1)) 3 0, g') ∧ ∀ j, j < 16 → g' j = -1 := by
  obtain ⟨g', h1, h2⟩ := clear_loop (f0 := upd (upd (upd (upd w 0 0) 1 0) 2 (-1)) 3 0) 16 0 4096 g (by omega) (by omega)
  exact ⟨g', h1, fun j hj => by rw [h2 j hj, if_pos (by omega)]⟩
theorem setX {b : Fn} {a : Nat} {x : Int32} (h : a < 256) : zX0_setByte b (nI a) x = some (upd b a x) := by
  unfold zX0_setByte
  simp only [lit_n]
  simp (disch := omega) only [nI_ltI, nI_leI, if_neg, oI_n, ix_n]
theorem erase_loop {st len : Nat} (hl : st + len ≤ 256) : ∀ (m i fu : Nat) (b : Fn), i + m = len → m < fu → ∃ b', zX0_eraseFrom_k2 fu b (nI st) (nI len) (nI i) = some b' ∧ ∀ a, b' a = if st + i ≤ a ∧ a < st + len then 255 else b a := by
  intro m
  induction m with
  | zero =>
    intro i fu b hi hf
    obtain ⟨f, rfl⟩ : ∃ f, fu = f + 1 := ⟨fu - 1, by omega⟩
    refine ⟨b, ?_, fun a => by rw [if_neg (by omega)]⟩
    rw [zX0_eraseFrom_k2, if_pos (nI_le (by omega) (by omega))]
  | succ m ih =>
    intro i fu b hi hf
    obtain ⟨f, rfl⟩ : ∃ f, fu = f + 1 := ⟨fu - 1, by omega⟩
    obtain ⟨b', h1, h2⟩ := ih (i + 1) f (upd b (st + i) 255) (by omega) (by omega)
    refine ⟨b', ?_, fun a => ?_⟩
    · rw [zX0_eraseFrom_k2, if_neg (nI_ge (by omega) (by omega)), nI_add, setX (by omega), oB_s, nI_1]
      exact h1
    · rw [h2 a]
      by_cases z2 : a = st + i
      · subst z2; rw [upd_s, if_neg (by omega), if_pos (by omega)]
      · rw [upd_n z2]
        by_cases z : st + (i + 1) ≤ a ∧ a < st + len
        · rw [if_pos z, if_pos (by omega)]
        · rw [if_neg z, if_neg (by omega)]
theorem eraseX {st len : Nat} (hl : st + len ≤ 256) (b : Fn) : ∃ b', zX0_eraseFrom b (nI st) (nI len) = some b' ∧ ∀ a, b' a = if st ≤ a ∧ a < st + len then 255 else b a := erase_loop hl len 0 4096 b (by omega) (by omega)
theorem tabBig {sh : Fn} {a : Nat} (h : 8 ≤ a) (ha : a < 2 ^ 31) : zX1_tableByte sh (nI a) = some (nI 255) := by
  unfold zX1_tableByte
  simp only [lit_n]
  simp (disch := omega) only [nI_eq, if_neg]
theorem i255 : (255 : Int32) = nI 255 := rfl
set_option maxRecDepth 100000 in
theorem answer_rel {c sh w b s g2 : Fn} {p q n t e k : Nat} (hS : Shp sh p q n t e) (hg : ∀ i, i < 5 → g2 i = sh i) (hk : k ≤ 2000) (hw1 : w 1 = nI k) (h1 : 1 ≤ k → w 2 = s 300) (h2 : 2 ≤ k → ∃ a, a < 256 ∧ w 3 = nI a ∧ s 301 = nI a) (hBy : ByR b s) (hSc : ScR c s) (hBu : BuR n c s) (hSu : SuR n c s) :
    ∃ r, r < 256 ∧ zX0_answerToNext c sh w b = some (nI r) ∧ zX5_answers g2 s (nI k) = some (nI r) := by
  have hb := hS.b
  have hn8 : n ≤ 8 := hS.2.2.2.2.2.2.2.1.2
  unfold zX0_answerToNext zX5_answers zX3_puts zX3_command
  rw [hw1, oB_s]
  by_cases c0 : k = 0
  · subst c0
    exact ⟨255, by omega, rfl, rfl⟩
  have hk0 : ¬ nI k = 0 := nI_ne0 (by omega) (by omega)
  rw [if_neg hk0, if_neg hk0, oB_s, ← h1 (by omega)]
  by_cases c5 : w 2 = 5
  · obtain ⟨r, r0, r1, r2⟩ := status_rel hSc hBu hSu hn8
    refine ⟨r, r0, ?_, ?_⟩
    · rw [if_pos c5, r1]; rfl
    · rw [if_pos c5, r2]; rfl
  rw [if_neg c5, if_neg c5]
  unfold zX0_isBusy
  obtain ⟨bu, hbu⟩ := hBu.two
  rcases hbu.symm with ⟨-, b1, j, j1, j2, b2⟩ | ⟨-, b1, b2⟩
  · refine ⟨255, by omega, ?_, ?_⟩
    · rw [if_neg b1]; rfl
    · rw [b2, if_neg (show ¬ nI j ≤ 0 from nI_nle (by omega) (by omega))]
      rfl
  rw [if_pos b1, oB_s, if_pos rfl, b2, if_pos (show nI 0 ≤ (0 : Int32) by decide), allM hS hg, oB_s, oD_n (by omega) (by omega)]
  unfold zX0_contentForNext zX3_puts zX3_command zX3_first zX5_answers_k82 zX5_answers_k109
  rw [hw1, oB_s, oB_s, allX hS]
  by_cases c3 : w 2 = 3
  · rw [if_pos c3, if_pos c3]
    by_cases k2 : 2 ≤ k
    · obtain ⟨a, ha, a1, a2⟩ := h2 k2
      have hm : (a + (k - 2)) % (p * q * n) < 256 := Nat.lt_of_lt_of_le (Nat.mod_lt _ (by omega)) (by omega)
      obtain ⟨v, v0, v1⟩ := (hBy _ hm).2
      have e1 : (nI a + nI k) - 2 = nI (a + (k - 2)) := by
        rw [nI_add, show (2 : Int32) = nI 2 from rfl, pk_sub (by omega)]
        exact congrArg nI (by omega)
      have ham : a % (p * q * n) < 256 := Nat.lt_of_le_of_lt (Nat.mod_le _ _) ha
      have e2 : (nI (a % (p * q * n)) + nI k) - 2 = nI (a % (p * q * n) + (k - 2)) := by
        rw [nI_add, show (2 : Int32) = nI 2 from rfl, pk_sub (by omega)]
        exact congrArg nI (by omega)
      refine ⟨v, v0, ?_, ?_⟩
      · rw [if_pos (show (2 : Int32) ≤ nI k from nI_le k2 (by omega)), a1, oB_s, oB_s, e1, remX (by omega) (by omega) (by omega), oB_s, byX hm, v1]
        rfl
      · rw [if_neg (show ¬ nI k ≤ 1 from nI_ge (a := 1) (by omega) (by omega)), oB_s, oD_n (by omega) (by omega), a2, irm_n (by omega) (by omega) (by omega), e2, irm_n (by omega) (by omega) (by omega), Nat.mod_add_mod, oI_n (by omega) (by omega), ix_n (by omega), ← (hBy _ hm).1, v1]
    · have hk1 : k = 1 := by omega
      subst hk1
      have c11 : ¬ w 2 = 11 := by rw [c3]; decide
      have c90 : ¬ w 2 = 90 := by rw [c3]; decide
      refine ⟨255, by omega, ?_, ?_⟩
      · rw [if_neg (by decide)]; rfl
      · rw [if_pos (by decide), if_neg c11, if_neg c90]; rfl
  rw [if_neg c3, if_neg c3]
  by_cases c11 : w 2 = 11
  · rw [if_pos c11, if_pos c11]
    by_cases k3 : 3 ≤ k
    · obtain ⟨a, ha, a1, a2⟩ := h2 (by omega)
      have hm : (a + (k - 3)) % (p * q * n) < 256 := Nat.lt_of_lt_of_le (Nat.mod_lt _ (by omega)) (by omega)
      obtain ⟨v, v0, v1⟩ := (hBy _ hm).2
      have e1 : (nI a + nI k) - 3 = nI (a + (k - 3)) := by
        rw [nI_add, show (3 : Int32) = nI 3 from rfl, pk_sub (by omega)]
        exact congrArg nI (by omega)
      have ham : a % (p * q * n) < 256 := Nat.lt_of_le_of_lt (Nat.mod_le _ _) ha
      have e2 : (nI (a % (p * q * n)) + nI k) - 3 = nI (a % (p * q * n) + (k - 3)) := by
        rw [nI_add, show (3 : Int32) = nI 3 from rfl, pk_sub (by omega)]
        exact congrArg nI (by omega)
      refine ⟨v, v0, ?_, ?_⟩
      · rw [if_pos (show (3 : Int32) ≤ nI k from nI_le k3 (by omega)), a1, oB_s, oB_s, e1, remX (by omega) (by omega) (by omega), oB_s, byX hm, v1]
        rfl
      · rw [if_neg (show ¬ nI k ≤ 2 from nI_ge (a := 2) (by omega) (by omega)), allM hS hg, oB_s, oD_n (by omega) (by omega), a2, irm_n (by omega) (by omega) (by omega), e2, irm_n (by omega) (by omega) (by omega), Nat.mod_add_mod, oI_n (by omega) (by omega), ix_n (by omega), ← (hBy _ hm).1, v1]
    · have c90 : ¬ w 2 = 90 := by rw [c11]; decide
      refine ⟨255, by omega, ?_, ?_⟩
      · rw [if_neg (show ¬ (3 : Int32) ≤ nI k from nI_ge (b := 3) (by omega) (by omega))]; rfl
      · rw [if_pos (show nI k ≤ 2 from nI_le (b := 2) (by omega) (by omega)), if_neg c90]; rfl
  rw [if_neg c11, if_neg c11]
  by_cases c90 : w 2 = 90
  · rw [if_pos c90, if_pos c90]
    by_cases k3 : 3 ≤ k
    · obtain ⟨a, ha, a1, a2⟩ := h2 (by omega)
      have e1 : (nI a + nI k) - 3 = nI (a + (k - 3)) := by
        rw [nI_add, show (3 : Int32) = nI 3 from rfl, pk_sub (by omega)]
        exact congrArg nI (by omega)
      rw [if_pos (show (3 : Int32) ≤ nI k from nI_le k3 (by omega)), a1, oB_s, e1, if_neg (show ¬ nI k ≤ 2 from nI_ge (a := 2) (by omega) (by omega)), a2, e1]
      by_cases k8 : 8 ≤ a + (k - 3)
      · refine ⟨255, by omega, ?_, ?_⟩
        · rw [tabBig k8 (by omega)]; rfl
        · rw [if_pos (show (8 : Int32) ≤ nI (a + (k - 3)) from nI_le k8 (by omega))]; rfl
      · obtain ⟨r, r0, r1, r2⟩ := tabX hS hg (a := a + (k - 3)) (by omega)
        refine ⟨r, r0, ?_, ?_⟩
        · rw [r1]; rfl
        · rw [if_neg (show ¬ (8 : Int32) ≤ nI (a + (k - 3)) from nI_ge (b := 8) (by omega) (by omega)), r2]; rfl
    · refine ⟨255, by omega, ?_, ?_⟩
      · rw [if_neg (show ¬ (3 : Int32) ≤ nI k from nI_ge (b := 3) (by omega) (by omega))]; rfl
      · rw [if_pos (show nI k ≤ 2 from nI_le (b := 2) (by omega) (by omega))]; rfl
  · exact ⟨255, by omega, by rw [if_neg c90]; rfl, by rw [if_neg c90]; rfl⟩
