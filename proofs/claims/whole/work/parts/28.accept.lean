/-! ===== a byte is put ===== -/
theorem upd_id (f : Fn) (k : Nat) : upd f k (f k) = f := by
  funext j
  by_cases h : j = k
  · subst h; exact upd_s
  · exact upd_n h
theorem has_loop {g2 : Fn} {v x2 : Int32} : ∀ (m i fu : Nat) (s : Fn), i + m = 16 → m < fu → ∃ s', zX5_puts_k55 fu g2 s v x2 (nI i) = zX5_puts_k78 g2 s' v x2 ∧ ∀ a, s' a = if 272 + i ≤ a ∧ a < 288 then 0 else s a := by
  intro m
  induction m with
  | zero =>
    intro i fu s hi hf
    obtain ⟨f, rfl⟩ : ∃ f, fu = f + 1 := ⟨fu - 1, by omega⟩
    refine ⟨s, ?_, fun a => by rw [if_neg (by omega)]⟩
    rw [zX5_puts_k55, if_pos (show (16 : Int32) ≤ nI i from nI_le (a := 16) (by omega) (by omega))]
  | succ m ih =>
    intro i fu s hi hf
    obtain ⟨f, rfl⟩ : ∃ f, fu = f + 1 := ⟨fu - 1, by omega⟩
    obtain ⟨s', h1, h2⟩ := ih (i + 1) f (upd s (272 + i) 0) (by omega) (by omega)
    refine ⟨s', ?_, fun a => ?_⟩
    · rw [zX5_puts_k55, if_neg (show ¬ (16 : Int32) ≤ nI i from nI_ge (b := 16) (by omega) (by omega)), show (272 : Int32) = nI 272 from rfl, nI_add, oI_n (by omega) (by omega), ix_n (by omega), nI_1]
      exact h1
    · rw [h2 a]
      by_cases z2 : a = 272 + i
      · subst z2; rw [upd_s, if_neg (by omega), if_pos (by omega)]
      · rw [upd_n z2]
        by_cases z : 272 + (i + 1) ≤ a ∧ a < 288
        · rw [if_pos z, if_pos (by omega)]
        · rw [if_neg z, if_neg (by omega)]
theorem answer_c {c sh w b : Fn} {x : Int32} : zX0_answerToNext (upd c 13 x) sh w b = zX0_answerToNext c sh w b := rfl
/-- what stays of the relation when clocks, wires and the page change -/
theorem ChR.put {n B : Nat} {c w g b k s w' g' s' : Fn} {x : Int32} (h : ChR n B c w g b k s) (hx : s' 304 = x) (e : ∀ a, (a < 256 ∨ (288 ≤ a ∧ a ≤ 298) ∨ a = 303 ∨ a = 305) → s' a = s a) {C : Nat} (hw : WiR C w' g' s') : ChR n C (upd c 13 x) w' g' b k s' := by
  obtain ⟨h1, h2, h3, h4, h5, -⟩ := h
  refine ⟨h1.s (fun a ha => e a (Or.inl ha)), h2.s (e _ (by omega)), ?_, h4.cs ⟨rfl, rfl, rfl⟩ ⟨e _ (by omega), e _ (by omega), e _ (by omega)⟩, h5.cs ⟨rfl, rfl⟩ ⟨e _ (by omega), e _ (by omega)⟩, hw⟩
  obtain ⟨a1, a2, a3, a4, -, a6, a7⟩ := h3
  unfold ScR
  rw [e 289 (by omega), e 290 (by omega), e 291 (by omega), e 292 (by omega), e 303 (by omega), e 305 (by omega), hx]
  exact ⟨a1, a2, a3, a4, rfl, a6, a7⟩
set_option maxRecDepth 100000 in
set_option maxHeartbeats 1000000 in
theorem accept_rel {c sh w g b lk s g2 : Fn} {p q n t e B : Nat} (hS : Shp sh p q n t e) (hg : ∀ i, i < 5 → g2 i = sh i) (hB : B ≤ 1500) (h : ChR n B c w g b lk s) (hsel : w 0 = 1) {v : Nat} (hv : v < 256) :
    ∃ (r : Nat) (c' w' g' s' : Fn), r < 256 ∧ zX0_accept c sh w g b (nI v) = some (nI r, c', w', g') ∧ zX5_puts g2 s (nI v) = some (nI r, s') ∧ ChR n (B + 1) c' w' g' b lk s' ∧ w' 0 = 1 := by
  have hb := hS.b
  have hC := h
  obtain ⟨hBy, hLk, hSc, hBu, hSu, ⟨w1, -⟩, k, hk, k2, k3, k4, k5, k6, k7, k8, k9⟩ := h
  have hp0 : sh 0 = nI p := hS.1
  have hg0 : g2 0 = nI p := (hg 0 (by omega)).trans hp0
  have eclk : irm (s 304 + isr 8 (s 289)) 1000000 = irm (c 13 + isr 8 (c 4)) 1000000 := by
    obtain ⟨⟨l, -, l1, l2⟩, -, -, -, a5, -⟩ := hSc
    rw [← a5, l1, l2]
  generalize hclk : irm (c 13 + isr 8 (c 4)) 1000000 = clk at eclk
  unfold zX0_accept zX1_pageBytes zX5_puts
  rw [eclk, hclk, k3, hp0]
  by_cases c0 : k = 0
  · -- the command
    subst c0
    rw [if_pos (show nI 0 = 0 from rfl)]
    obtain ⟨s2, m1, m2⟩ := has_loop (g2 := g2) (v := nI v) (x2 := nI 0) 16 0 4096 (upd (upd s 304 clk) 300 (nI v)) (by omega) (by omega)
    have m1' : zX5_puts_k55 4096 g2 (upd (upd s 304 clk) 300 (nI v)) (nI v) (nI 0) 0 = zX5_puts_k78 g2 s2 (nI v) (nI 0) := m1
    rw [m1']
    have hs2 : ∀ a, ¬ (272 ≤ a ∧ a < 288) → a ≠ 300 → a ≠ 304 → s2 a = s a := fun a z1 z2 z3 => by
      rw [m2 a, if_neg (by omega), upd_n z2, upd_n z3]
    have ht : zX3_take w g (nI v) (nI p) = some (upd (upd w 2 (nI v)) 1 (nI 1), g) := by
      unfold zX3_take zX3_take_k51
      rw [k2, if_pos (show nI 0 = 0 from rfl), upd_n (by omega), k2]
      rfl
    have ha : zX0_answerToNext c sh w b = some (nI 255) := by
      unfold zX0_answerToNext zX3_puts
      rw [k2]
      rfl
    refine ⟨255, upd c 13 clk, upd (upd w 2 (nI v)) 1 (nI 1), g, upd (upd s2 302 (nI v)) 299 (nI 1), by omega, ?_, ?_, ?_, ?_⟩
    · rw [ha, oB_s, oB_s, ht, oB_s]
    · unfold zX5_puts_k78 zX5_puts_k102 zX5_puts_k155 zX5_answers
      rw [if_neg (show ¬ nI 0 = 1 by decide), show (301 : Int32) = nI 301 from rfl, oI_n (by omega) (by omega), if_pos (show nI 0 ≤ 1 by decide), if_pos (show nI 0 = 0 from rfl), oB_s, ix_n (by omega), upd_id, upd_n (show 299 ≠ 302 by omega), hs2 299 (by omega) (by omega) (by omega), k3]
      rfl
    · have e304 : upd (upd s2 302 (nI v)) 299 (nI 1) 304 = clk := by
        rw [upd_n (by omega), upd_n (by omega), m2 304, if_neg (by omega), upd_n (by omega), upd_s]
      refine hC.put e304 (fun a ha => ?_) ?_
      · rw [upd_n (by omega), upd_n (by omega), hs2 a (by omega) (by omega) (by omega)]
      · refine ⟨⟨?_, Or.inr ?_⟩, 1, by omega, upd_s, upd_s, ?_, ?_, fun z => by omega, fun z => by omega, fun z => by omega, fun _ j hj => Or.inr ⟨?_, k8 rfl j hj⟩⟩
        · rw [upd_n (by omega), upd_n (by omega), upd_n (by omega), upd_n (by omega), hs2 298 (by omega) (by omega) (by omega)]
          exact w1
        · rw [upd_n (by omega), upd_n (by omega)]; exact hsel
        · intro z
          rw [upd_n (by omega), upd_n (by omega), hsel] at z
          exact absurd z (by decide)
        · intro _
          rw [upd_n (by omega), upd_s, upd_n (by omega), upd_n (by omega), m2 300, if_neg (by omega), upd_s]
          exact ⟨rfl, v, hv, rfl⟩
        · rw [upd_n (by omega), upd_n (by omega), m2 (272 + j), if_pos (by omega)]
    · rw [upd_n (by omega), upd_n (by omega)]; exact hsel
  have hk0 : ¬ nI k = 0 := nI_ne0 (by omega) (by omega)
  rw [if_neg hk0]
  obtain ⟨cm1, cm2⟩ := k5 (by omega)
  by_cases c1 : k = 1
  · -- the first byte behind it
    subst c1
    have ht : zX3_take w g (nI v) (nI p) = some (upd (upd w 3 (nI v)) 1 (nI 2), g) := by
      unfold zX3_take zX3_take_k51
      rw [k2, if_neg hk0, if_pos (show nI 1 = 1 from rfl), upd_n (by omega), k2]
      rfl
    have hch : ChR n B (upd c 13 clk) w g b lk (upd s 304 clk) := hC.put upd_s (fun a ha => upd_n (by omega)) (WiR.s ⟨⟨w1, Or.inr hsel⟩, 1, hk, k2, k3, k4, k5, k6, k7, k8, k9⟩ ⟨upd_n (by omega), upd_n (by omega), upd_n (by omega), upd_n (by omega), upd_n (by omega)⟩ (fun j hj => upd_n (by omega)))
    obtain ⟨r, r0, r1, r2⟩ := answer_rel (c := upd c 13 clk) (s := upd (upd s 304 clk) 301 (nI v)) (w := w) (b := b) (k := 1) hS hg (by omega) k2 (fun _ => by rw [upd_n (by omega), upd_n (by omega)]; exact cm1) (fun z => by omega) (hch.1.s (fun a ha => upd_n (by omega))) (hch.2.2.1.cs ⟨rfl, rfl, rfl, rfl, rfl, rfl, rfl⟩ ⟨rfl, rfl, rfl, rfl, rfl, rfl, rfl⟩) (hch.2.2.2.1.cs ⟨rfl, rfl, rfl⟩ ⟨rfl, rfl, rfl⟩) (hch.2.2.2.2.1.cs ⟨rfl, rfl⟩ ⟨rfl, rfl⟩)
    refine ⟨r, upd c 13 clk, upd (upd w 3 (nI v)) 1 (nI 2), g, upd (upd (upd (upd s 304 clk) 301 (nI v)) 302 (nI v)) 299 (nI 2), r0, ?_, ?_, ?_, ?_⟩
    · rw [answer_c] at r1
      rw [r1, oB_s, oB_s, ht, oB_s]
    · unfold zX5_puts_k78 zX5_puts_k102 zX5_puts_k155
      rw [if_pos (show nI 1 = 1 from rfl), show (301 : Int32) = nI 301 from rfl, oI_n (by omega) (by omega), if_pos (show nI 1 ≤ 1 by decide), ix_n (by omega), r2, oB_s, upd_n (show 299 ≠ 302 by omega), upd_n (show 299 ≠ 301 by omega), upd_n (show 299 ≠ 304 by omega), k3]
      rfl
    · refine hC.put rfl (fun a ha => ?_) ?_
      · rw [upd_n (by omega), upd_n (by omega), upd_n (by omega), upd_n (by omega)]
      · refine ⟨⟨w1, Or.inr hsel⟩, 2, by omega, rfl, rfl, ?_, fun _ => ⟨cm1, cm2⟩, fun _ => ⟨v, hv, rfl, rfl⟩, fun _ => rfl, fun z => by omega, fun _ j hj => ?_⟩
        · intro z
          have z' : w 0 = 0 := z
          rw [hsel] at z'
          exact absurd z' (by decide)
        · rw [upd_n (by omega), upd_n (by omega), upd_n (by omega), upd_n (by omega), upd_n (by omega), upd_n (by omega), upd_n (by omega), upd_n (by omega)]
          exact k9 (by omega) j hj
    · exact hsel
  · -- further ones
    obtain ⟨a, ha, a1, a2⟩ := k6 (by omega)
    have hk1 : ¬ nI k = 1 := fun z => c1 (nI_inj (b := 1) (by omega) (by omega) z)
    have e1 : (nI a + nI k) - 2 = nI (a + (k - 2)) := by
      rw [nI_add, show (2 : Int32) = nI 2 from rfl, pk_sub (by omega)]
      exact congrArg nI (by omega)
    have ham : a % (p * q * n) < 256 := Nat.lt_of_le_of_lt (Nat.mod_le _ _) ha
    have e2 : (nI (a % (p * q * n)) + nI k) - 2 = nI (a % (p * q * n) + (k - 2)) := by
      rw [nI_add, show (2 : Int32) = nI 2 from rfl, pk_sub (by omega)]
      exact congrArg nI (by omega)
    have e3 : (a % (p * q * n) + (k - 2)) % p = (a + (k - 2)) % p := by
      rw [Nat.add_mod, Nat.mod_mod_of_dvd a (show p ∣ p * q * n from ⟨q * n, by rw [Nat.mul_assoc]⟩), ← Nat.add_mod]
    have ho : (a + (k - 2)) % p < 16 := Nat.lt_of_lt_of_le (Nat.mod_lt _ (by omega)) (by omega)
    have ht : zX3_take w g (nI v) (nI p) = some (upd w 1 (nI (k + 1)), upd g ((a + (k - 2)) % p) (nI v)) := by
      unfold zX3_take zX3_take_k51 zX3_setInPage
      rw [k2, if_neg hk0, if_neg hk1, a1, e1, remX (by omega) (by omega) (by omega), oB_s, if_neg (nI_pos (by omega)), if_neg (show ¬ (16 : Int32) ≤ nI ((a + (k - 2)) % p) from nI_ge (b := 16) ho (by omega)), oI_n ho (by omega), oB_s, ix_n (by omega), nI_1]
    generalize ho' : (a + (k - 2)) % p = o at ho ht e3
    have hch : ChR n B (upd c 13 clk) w g b lk (upd s 304 clk) := hC.put upd_s (fun a ha => upd_n (by omega)) (WiR.s ⟨⟨w1, Or.inr hsel⟩, k, hk, k2, k3, k4, k5, k6, k7, k8, k9⟩ ⟨upd_n (by omega), upd_n (by omega), upd_n (by omega), upd_n (by omega), upd_n (by omega)⟩ (fun j hj => upd_n (by omega)))
    have hs4 : ∀ x, x ≠ 256 + o → x ≠ 272 + o → upd (upd (upd s 304 clk) (256 + o) (nI v)) (272 + o) 1 x = upd s 304 clk x := fun x z1 z2 => by rw [upd_n z2, upd_n z1]
    obtain ⟨r, r0, r1, r2⟩ := answer_rel (c := upd c 13 clk) (s := upd (upd (upd s 304 clk) (256 + o) (nI v)) (272 + o) 1) (w := w) (b := b) (k := k) hS hg (by omega) k2 (fun _ => by rw [hs4 _ (by omega) (by omega), upd_n (by omega)]; exact cm1) (fun z => ⟨a, ha, a1, by rw [hs4 _ (by omega) (by omega), upd_n (by omega)]; exact a2⟩) (hch.1.s (fun x hx => hs4 x (by omega) (by omega)))
      (hch.2.2.1.cs ⟨rfl, rfl, rfl, rfl, rfl, rfl, rfl⟩ ⟨hs4 _ (by omega) (by omega), hs4 _ (by omega) (by omega), hs4 _ (by omega) (by omega), hs4 _ (by omega) (by omega), hs4 _ (by omega) (by omega), hs4 _ (by omega) (by omega), hs4 _ (by omega) (by omega)⟩) (hch.2.2.2.1.cs ⟨rfl, rfl, rfl⟩ ⟨hs4 _ (by omega) (by omega), hs4 _ (by omega) (by omega), hs4 _ (by omega) (by omega)⟩) (hch.2.2.2.2.1.cs ⟨rfl, rfl⟩ ⟨hs4 _ (by omega) (by omega), hs4 _ (by omega) (by omega)⟩)
    refine ⟨r, upd c 13 clk, upd w 1 (nI (k + 1)), upd g o (nI v), upd (upd (upd (upd (upd s 304 clk) (256 + o) (nI v)) (272 + o) 1) 302 (nI v)) 299 (nI (k + 1)), r0, ?_, ?_, ?_, ?_⟩
    · rw [answer_c] at r1
      rw [r1, oB_s, oB_s, ht, oB_s]
    · unfold zX5_puts_k78 zX5_puts_k102
      have e301 : upd s 304 clk 301 = nI a := by rw [upd_n (by omega)]; exact a2
      rw [if_neg hk1, show (301 : Int32) = nI 301 from rfl, oI_n (by omega) (by omega), ix_n (show 301 < 2 ^ 31 by omega), upd_id, if_neg (show ¬ nI k ≤ 1 from nI_ge (a := 1) (by omega) (by omega)), allM hS hg, oB_s, oD_n (by omega) (by omega), hg0, oD_n (by omega) (by omega), e301, irm_n (by omega) (by omega) (by omega), e2, irm_n (by omega) (by omega) (by omega), e3, show (256 : Int32) = nI 256 from rfl, show (272 : Int32) = nI 272 from rfl, nI_add, nI_add, oI_n (by omega) (by omega), oI_n (by omega) (by omega), ix_n (by omega), ix_n (by omega)]
      unfold zX5_puts_k155
      rw [r2, oB_s, upd_n (show 299 ≠ 302 by omega), hs4 299 (by omega) (by omega), upd_n (show 299 ≠ 304 by omega), k3, nI_1]
    · have hs5 : ∀ x, x ≠ 256 + o → x ≠ 272 + o → x ≠ 302 → x ≠ 299 → x ≠ 304 → upd (upd (upd (upd (upd s 304 clk) (256 + o) (nI v)) (272 + o) 1) 302 (nI v)) 299 (nI (k + 1)) x = s x := fun x z1 z2 z3 z4 z5 => by rw [upd_n z4, upd_n z3, hs4 x z1 z2, upd_n z5]
      refine hC.put ?_ (fun x hx => hs5 x (by omega) (by omega) (by omega) (by omega) (by omega)) ?_
      · rw [upd_n (by omega), upd_n (by omega), hs4 304 (by omega) (by omega), upd_s]
      · refine ⟨⟨?_, Or.inr ?_⟩, k + 1, by omega, upd_s, upd_s, ?_, fun _ => ⟨?_, ?_⟩, fun _ => ⟨a, ha, ?_, ?_⟩, fun z => by omega, fun z => by omega, fun _ j hj => ?_⟩
        · rw [upd_n (by omega), hs5 298 (by omega) (by omega) (by omega) (by omega) (by omega)]; exact w1
        · rw [upd_n (by omega)]; exact hsel
        · intro z
          rw [upd_n (by omega), hsel] at z
          exact absurd z (by decide)
        · rw [upd_n (by omega), hs5 300 (by omega) (by omega) (by omega) (by omega) (by omega)]; exact cm1
        · rw [upd_n (by omega)]; exact cm2
        · rw [upd_n (by omega)]; exact a1
        · rw [hs5 301 (by omega) (by omega) (by omega) (by omega) (by omega)]; exact a2
        · by_cases z : j = o
          · subst z
            refine Or.inl ⟨?_, ?_, v, hv, upd_s⟩
            · rw [upd_n (by omega), upd_n (by omega), upd_s]
            · rw [upd_s, upd_n (by omega), upd_n (by omega), upd_n (by omega), upd_s]
          · rw [upd_n z, hs5 (272 + j) (by omega) (by omega) (by omega) (by omega) (by omega), hs5 (256 + j) (by omega) (by omega) (by omega) (by omega) (by omega)]
            exact k9 (by omega) j hj
    · rw [upd_n (by omega)]; exact hsel
