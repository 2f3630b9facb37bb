/-! ===== a new object ===== -/
theorem lk_loop {f0 f2 f3 f4 : Fn} : ∀ (m i fu : Nat) (k : Fn), i + m = 8 → m < fu → ∃ k', zX0_startAnew_k19 fu f0 f2 f3 f4 k (nI i) = some (upd (upd (upd (upd (upd (upd (upd (upd (upd (upd (upd (upd f0 4 0) 5 0) 6 0) 7 0) 8 (-1)) 9 (-1)) 10 0) 11 (-1)) 12 0) 13 0) 14 0) 15 0, f2, f3, f4, k') ∧ ∀ j, j < 8 → k' j = if i ≤ j then 0 else k j := by
  intro m
  induction m with
  | zero =>
    intro i fu g hi hf
    obtain ⟨f, rfl⟩ : ∃ f, fu = f + 1 := ⟨fu - 1, by omega⟩
    refine ⟨g, ?_, fun j hj => by rw [if_neg (by omega)]⟩
    rw [zX0_startAnew_k19, if_pos (show (8 : Int32) ≤ nI i from nI_le (a := 8) (by omega) (by omega))]
  | succ m ih =>
    intro i fu g hi hf
    obtain ⟨f, rfl⟩ : ∃ f, fu = f + 1 := ⟨fu - 1, by omega⟩
    obtain ⟨g', h1, h2⟩ := ih (i + 1) f (upd g i 0) (by omega) (by omega)
    refine ⟨g', ?_, fun j hj => ?_⟩
    · have z : ¬ (8 : Int32) ≤ nI i := nI_ge (b := 8) (by omega) (by omega)
      rw [zX0_startAnew_k19, if_neg z, oI_n (by omega) (by omega), ix_n (by omega), oZ_b (Or.inl rfl), nI_1]
      exact h1
    · rw [h2 j hj]
      by_cases z : i + 1 ≤ j
      · rw [if_pos z, if_pos (by omega)]
      · rw [if_neg z]
        by_cases z2 : j = i
        · subst z2; rw [upd_s, if_pos (Nat.le_refl _)]
        · rw [upd_n z2, if_neg (by omega)]
theorem anew_loop {g0 : Fn} : ∀ (m i fu : Nat) (s : Fn), i + m = 306 → m < fu → ∃ s', zX5_anew_k2 fu g0 s (nI i) = some (upd g0 8 0, s') ∧ ∀ a, a < 306 → s' a = if i ≤ a then (if a < 256 then 255 else 0) else s a := by
  intro m
  induction m with
  | zero =>
    intro i fu g hi hf
    obtain ⟨f, rfl⟩ : ∃ f, fu = f + 1 := ⟨fu - 1, by omega⟩
    refine ⟨g, ?_, fun j hj => by rw [if_neg (by omega)]⟩
    rw [zX5_anew_k2, if_pos (show (306 : Int32) ≤ nI i from nI_le (a := 306) (by omega) (by omega))]
  | succ m ih =>
    intro i fu g hi hf
    obtain ⟨f, rfl⟩ : ∃ f, fu = f + 1 := ⟨fu - 1, by omega⟩
    have z : ¬ (306 : Int32) ≤ nI i := nI_ge (b := 306) (by omega) (by omega)
    obtain ⟨g', h1, h2⟩ := ih (i + 1) f (upd g i (if i < 256 then 255 else 0)) (by omega) (by omega)
    refine ⟨g', ?_, fun j hj => ?_⟩
    · rw [zX5_anew_k2, if_neg z, oI_n (by omega) (by omega), oI_n (by omega) (by omega), ix_n (by omega), nI_1]
      by_cases z2 : i < 256
      · rw [if_neg (show ¬ (256 : Int32) ≤ nI i from nI_ge (b := 256) (by omega) (by omega))]
        rw [if_pos z2] at h1
        exact h1
      · rw [if_pos (show (256 : Int32) ≤ nI i from nI_le (a := 256) (by omega) (by omega))]
        rw [if_neg z2] at h1
        exact h1
    · rw [h2 j hj]
      by_cases z3 : i + 1 ≤ j
      · rw [if_pos z3, if_pos (show i ≤ j by omega)]
      · rw [if_neg z3]
        by_cases z2 : j = i
        · subst z2; rw [upd_s, if_pos (Nat.le_refl _)]
        · rw [upd_n z2, if_neg (by omega)]
theorem startX (c w g b k : Fn) : ∃ c' w' g' b' k', zX0_startAnew c w g b k = some (c', w', g', b', k') ∧ ∀ s, (∀ a, a < 306 → s a = if a < 256 then 255 else 0) → ∀ n, ChR n 0 c' w' g' b' k' s := by
  obtain ⟨g', g1, g2⟩ := clearX w g
  obtain ⟨b', b1, b2⟩ := eraseX (st := 0) (len := 256) (by omega) b
  have b1' : zX0_eraseFrom b 0 256 = some b' := b1
  obtain ⟨k', k1, k2⟩ := lk_loop (f0 := c) (f2 := upd (upd (upd (upd w 0 0) 1 0) 2 (-1)) 3 0) (f3 := g') (f4 := b') 8 0 4096 k (by omega) (by omega)
  have hst : zX0_startAnew c w g b k = some (upd (upd (upd (upd (upd (upd (upd (upd (upd (upd (upd (upd c 4 0) 5 0) 6 0) 7 0) 8 (-1)) 9 (-1)) 10 0) 11 (-1)) 12 0) 13 0) 14 0) 15 0, upd (upd (upd (upd w 0 0) 1 0) 2 (-1)) 3 0, g', b', k') := by
    unfold zX0_startAnew
    rw [g1, oB_s, b1', oB_s]
    exact k1
  refine ⟨_, _, g', b', k', hst, fun s hs n => ?_⟩
  · have hz : ∀ a, 256 ≤ a → a < 306 → s a = 0 := fun a h1 h2 => by rw [hs a h2, if_neg (by omega)]
    refine ⟨fun a ha => ?_, ⟨0, by omega, hz _ (by omega) (by omega), fun j hj => ?_⟩, ⟨⟨0, by omega, rfl, hz _ (by omega) (by omega)⟩, ⟨0, by omega, rfl, hz _ (by omega) (by omega)⟩, ⟨(hz _ (by omega) (by omega)).symm, Or.inl rfl⟩, ⟨(hz _ (by omega) (by omega)).symm, Or.inl rfl⟩, (hz _ (by omega) (by omega)).symm, (hz _ (by omega) (by omega)).symm, ⟨(hz _ (by omega) (by omega)).symm, Or.inl rfl⟩⟩, Or.inl ⟨rfl, hz _ (by omega) (by omega)⟩, Or.inl ⟨rfl, hz _ (by omega) (by omega), rfl⟩, ⟨(hz _ (by omega) (by omega)).symm, Or.inl rfl⟩, 0, by omega, rfl, hz _ (by omega) (by omega), fun _ => rfl, fun z => by omega, fun z => by omega, fun z => by omega, fun _ => g2, fun z => by omega⟩
    · rw [b2 a, if_pos (by omega), hs a (by omega), if_pos ha]
      exact ⟨rfl, 255, by omega, rfl⟩
    · rw [k2 j hj, if_pos (by omega), Nat.zero_testBit]
      rfl
theorem anewM (g0 s : Fn) : ∃ s', zX5_anew g0 s = some (upd g0 8 0, s') ∧ ∀ a, a < 306 → s' a = if a < 256 then 255 else 0 := by
  obtain ⟨s', h1, h2⟩ := anew_loop (g0 := g0) 306 0 4096 s (by omega) (by omega)
  exact ⟨s', h1, fun a ha => by rw [h2 a ha, if_pos (by omega)]⟩
theorem usual (f : Fn) : Shp (upd (upd (upd (upd (upd f 0 8) 1 4) 2 8) 3 2) 4 5) 8 4 8 2 5 := ⟨rfl, rfl, rfl, rfl, rfl, by omega, by omega, by omega, by omega, by omega, by omega⟩
theorem initX : ∃ c' w' g' b' k', zX0_init = some (c', upd (upd (upd (upd (upd zf 0 8) 1 4) 2 8) 3 2) 4 5, w', g', b', k') ∧ ∀ s, (∀ a, a < 306 → s a = if a < 256 then 255 else 0) → ∀ n, ChR n 0 c' w' g' b' k' s := by
  obtain ⟨g', g1, g2⟩ := clearX zf zf
  obtain ⟨c1, w1, g1', b1, k1, q1, q2⟩ := startX zf (upd (upd (upd (upd zf 0 0) 1 0) 2 (-1)) 3 0) g' zf zf
  refine ⟨c1, w1, g1', b1, k1, ?_, q2⟩
  unfold zX0_init zX1_init zX3_init zX1_setUsual
  rw [oB_s, oB_s, g1, oB_s, oB_s, q1, oB_s]
set_option maxHeartbeats 1000000 in
theorem op_init : ∃ (f0 f1 f2 f3 f4 f5 f6 f7 f8 f9 f10 f11 f12 f13 f14 f15 f16 f17 f18 f19 f20 f21 g0 g1 g2 g3 g4 g5 : Fn), zX4_init = some (f0, f1, f2, f3, f4, f5, f6, f7, f8, f9, f10, f11, f12, f13, f14, f15, f16, f17, f18, f19, f20, f21) ∧ zX5_init = some (g0, g1, g2, g3, g4, g5) ∧ Rel 0 f0 f1 f2 f3 f4 f5 f6 f7 f8 f9 f10 f11 f12 f13 f14 f15 f16 f17 f18 f19 f20 f21 g0 g1 g2 g3 g4 g5 := by
  obtain ⟨c1, w1, g1, b1, k1, q1, q2⟩ := initX
  obtain ⟨s', m1, m2⟩ := anewM zf zf
  refine ⟨upd zf 4 0, upd (upd (upd (upd zf 1 0) 3 0) 4 0) 5 (-4), zf, upd (upd (upd (upd (upd zf 0 8) 1 4) 2 8) 3 2) 4 5, c1, upd (upd (upd (upd (upd zf 0 8) 1 4) 2 8) 3 2) 4 5, w1, g1, b1, k1, c1, upd (upd (upd (upd (upd zf 0 8) 1 4) 2 8) 3 2) 4 5, w1, g1, b1, k1, c1, upd (upd (upd (upd (upd zf 0 8) 1 4) 2 8) 3 2) 4 5, w1, g1, b1, k1, upd zf 8 0, zf, upd (upd (upd (upd (upd zf 0 8) 1 4) 2 8) 3 2) 4 5, zf, s', zf, ?_, ?_, ⟨0, by omega, rfl, rfl, fun j hj => by omega⟩, 8, 4, 8, 2, 5, usual zf, fun _ _ => rfl, q2 s' m2 8, 0, by omega, rfl, rfl, fun z => absurd z (by omega), fun z => absurd z (by omega)⟩
  · unfold zX4_init zX2_init zX1_init zX1_setUsual
    rw [oB_s, oB_s, oB_s, q1, oB_s, oB_s, oB_s]
  · unfold zX5_init zX5_plain
    rw [oB_s, m1, oB_s]
