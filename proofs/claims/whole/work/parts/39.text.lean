/-! ===== ticks, check, the whole text ===== -/
def VTk (a b : Int32) : Prop := (¬ a < 1 ∧ ¬ 9 < a) ∧ (¬ b < 1 ∧ ¬ 20 < b)
theorem setTicks_eq (h : Fn) (a b : Int32) : (VTk a b ∧ zX1_setTicks h a b = some (1, upd (upd h 3 a) 4 b)) ∨ (¬ VTk a b ∧ zX1_setTicks h a b = some (0, h)) := by
  unfold zX1_setTicks
  by_cases c1 : a < 1
  · rw [if_pos c1]; exact Or.inr ⟨fun z => z.1.1 c1, rfl⟩
  by_cases c2 : 9 < a
  · rw [if_neg c1, if_pos c2]; exact Or.inr ⟨fun z => z.1.2 c2, rfl⟩
  by_cases c3 : b < 1
  · rw [if_neg c1, if_neg c2, if_pos c3]; exact Or.inr ⟨fun z => z.2.1 c3, rfl⟩
  rw [if_neg c1, if_neg c2, if_neg c3]
  by_cases c4 : b ≤ 20
  · rw [if_pos c4]; exact Or.inl ⟨⟨⟨c1, c2⟩, c3, Int32.not_lt.mpr c4⟩, rfl⟩
  · rw [if_neg c4]; exact Or.inr ⟨fun z => z.2.2 (Int32.not_le.mp c4), rfl⟩
/-- the reference's item of ticks -/
theorem tickM_eq {m x r m1 m2 : Fn} {a b : Int32} (hck : m 5 = 0) (q1 : zX5_number m x 44 = some (a, m1)) (q2 : zX5_number m1 x 59 = some (b, m2)) : (VTk a b ∧ zX5_item m x r 116 = some (1, m2, upd (upd r 3 a) 4 b)) ∨ (¬ VTk a b ∧ zX5_item m x r 116 = some (0, m2, upd (upd r 3 a) 4 b)) := by
  unfold zX5_item
  have e3 : (upd (upd r 3 a) 4 b) 3 = a := rfl
  have e4 : (upd (upd r 3 a) 4 b) 4 = b := rfl
  rw [if_pos hck, if_neg (by decide), if_neg (by decide), if_pos rfl, q1, oB_s, q2, oB_s, e3, e4, L1, L9, in_spec, L20, in_spec]
  by_cases c1 : a < 1
  · rw [if_pos c1, oB_s, if_pos rfl]; exact Or.inr ⟨fun z => z.1.1 c1, rfl⟩
  by_cases c2 : 9 < a
  · rw [if_neg c1, if_pos c2, oB_s, if_pos rfl]; exact Or.inr ⟨fun z => z.1.2 c2, rfl⟩
  rw [if_neg c1, if_neg c2, oB_s, if_neg n10]
  by_cases c3 : b < 1
  · rw [if_pos c3, oB_s, if_pos rfl]; exact Or.inr ⟨fun z => z.2.1 c3, rfl⟩
  by_cases c4 : 20 < b
  · rw [if_neg c3, if_pos c4, oB_s, if_pos rfl]; exact Or.inr ⟨fun z => z.2.2 c4, rfl⟩
  rw [if_neg c3, if_neg c4, oB_s, if_neg n10]
  exact Or.inl ⟨⟨⟨c1, c2⟩, c3, c4⟩, rfl⟩
theorem VTk.nat {a b : Nat} (ha : a < 100) (hb : b < 100) (h : VTk (nI a) (nI b)) : (1 ≤ a ∧ a ≤ 9) ∧ (1 ≤ b ∧ b ≤ 20) := by
  obtain ⟨⟨h1, h2⟩, h3, h4⟩ := h
  refine ⟨⟨?_, ?_⟩, ?_, ?_⟩
  · rcases Nat.lt_or_ge a 1 with z | z
    · exact absurd (nI_lt (b := 1) z (by omega)) h1
    · exact z
  · rcases Nat.lt_or_ge 9 a with z | z
    · exact absurd (nI_lt (a := 9) z (by omega)) h2
    · exact z
  · rcases Nat.lt_or_ge b 1 with z | z
    · exact absurd (nI_lt (b := 1) z (by omega)) h3
    · exact z
  · rcases Nat.lt_or_ge 20 b with z | z
    · exact absurd (nI_lt (a := 20) z (by omega)) h4
    · exact z
set_option maxHeartbeats 1000000 in
theorem ticks_rel {L i : Nat} {l x f m t r : Fn} {p q n tt e : Nat} (hT : Txt L l x) (h1 : f 1 = nI L) (h3 : f 3 = nI i) (h0 : m 0 = nI L) (h2 : m 2 = nI i) (hi : i ≤ 300) (hf4 : f 4 = 0) (hm5 : m 5 = 0) (hS : Shp t p q n tt e) (hr : ∀ k, k < 5 → r k = t k) : Out i L f m (zX2_readTicks f l t) (zX5_item m x r 116) := by
  have hL := hT.1
  have n0 : ¬ (1 : Int32) = 0 := by decide
  obtain ⟨j1, k1, a, a', x1, x2, x3, x4, x5⟩ := field_rel (en := 44) hT h1 h3 h0 h2 (by omega) (by decide) (by decide)
  obtain ⟨j2, k2, b, b', y1, y2, y3, y4, y5⟩ := field_rel (f := upd f 3 (nI j1)) (m := upd m 2 (nI j1)) (i := j1) (en := 59) hT h1 upd_s h0 upd_s (by omega) (by decide) (by decide)
  rw [upd_u] at y4 y5
  rw [upd_u, upd_u] at y5
  have m1 : ∀ B, ¬ VTk (-1) B := fun B z => z.1.1 (by decide)
  have m2 : ∀ A, ¬ VTk A (-1) := fun A z => z.2.1 (by decide)
  have m4 : ∀ B, ¬ VTk (-4) B := fun B z => z.1.1 (by decide)
  have m5 : ∀ A, ¬ VTk A (-4) := fun A z => z.2.1 (by decide)
  have hM2 : ∃ B, zX5_number (upd m 2 (nI j1)) x 59 = some (B, upd m 2 (nI j2)) := by
    rcases y5 with ⟨-, -, w⟩ | ⟨-, w⟩
    · exact ⟨_, w⟩
    · exact ⟨_, w⟩
  obtain ⟨B0, hB0⟩ := hM2
  rcases x5 with ⟨-, u1, u2⟩ | ⟨u1, u2⟩
  · rcases y5 with ⟨jL, v1, v2⟩ | ⟨v1, v2⟩
    · have hX : zX2_readTicks f l t = oB (zX1_setTicks t a b) (fun y5 => if y5.1 = 0 then (some (0, upd f 3 (nI j2), y5.2)) else (some (1, upd f 3 (nI j2), y5.2))) := by
        unfold zX2_readTicks
        rw [x4, oB_s, u1, oB_s, if_neg n0, y4, oB_s, v1, oB_s, if_neg n0]
      rw [hX]
      have hfail : ¬ VTk a b → ¬ VTk a' b' → Out i L f m (oB (zX1_setTicks t a b) (fun y5 => if y5.1 = 0 then (some (0, upd f 3 (nI j2), y5.2)) else (some (1, upd f 3 (nI j2), y5.2)))) (zX5_item m x r 116) := by
        intro g1 g2
        rcases setTicks_eq t a b with ⟨s1, -⟩ | ⟨-, s1⟩
        · exact absurd s1 g1
        · rcases tickM_eq (r := r) hm5 u2 v2 with ⟨s2, -⟩ | ⟨-, s2⟩
          · exact absurd s2 g2
          · exact Or.inl ⟨upd f 3 (nI j2), t, _, _, by rw [s1, oB_s, if_pos rfl], s2, rfl, rfl, rfl⟩
      rcases x3 with ⟨rfl, rfl⟩ | ⟨wa, wa1, rfl, rfl⟩
      · exact hfail (m4 _) (m1 _)
      rcases y3 with ⟨rfl, rfl⟩ | ⟨wb, wb1, rfl, rfl⟩
      · exact hfail (m5 _) (m2 _)
      rcases setTicks_eq t (nI wa) (nI wb) with ⟨s0, s1⟩ | ⟨s0, -⟩
      · rcases tickM_eq (r := r) hm5 u2 v2 with ⟨-, s2⟩ | ⟨s2, -⟩
        · obtain ⟨v1', v2'⟩ := s0.nat wa1 wb1
          refine Or.inr ⟨j2, upd f 3 (nI j2), upd (upd t 3 (nI wa)) 4 (nI wb), upd m 2 (nI j2), upd (upd r 3 (nI wa)) 4 (nI wb), by omega, jL, by rw [s1, oB_s, if_neg n0], s2, rfl, upd_s, rfl, rfl, upd_s, rfl, ⟨hf4.trans hm5.symm, Or.inl hf4⟩, p, q, n, wa, wb, ⟨hS.1, hS.2.1, hS.2.2.1, rfl, rfl, hS.2.2.2.2.2.1, hS.2.2.2.2.2.2.1, hS.2.2.2.2.2.2.2.1, hS.2.2.2.2.2.2.2.2.1, v1', v2'⟩, fun k hk => ?_⟩
          rcases (show k = 0 ∨ k = 1 ∨ k = 2 ∨ k = 3 ∨ k = 4 by omega) with rfl | rfl | rfl | rfl | rfl
          · exact hr 0 (by omega)
          · exact hr 1 (by omega)
          · exact hr 2 (by omega)
          · rfl
          · rfl
        · exact absurd s0 s2
      · exact hfail s0 s0
    · rcases tickM_eq (r := r) hm5 u2 v2 with ⟨s2, -⟩ | ⟨-, s2⟩
      · exact absurd s2 (m2 _)
      · refine Or.inl ⟨upd f 3 (nI k2), t, _, _, ?_, s2, rfl, rfl, rfl⟩
        unfold zX2_readTicks
        rw [x4, oB_s, u1, oB_s, if_neg n0, y4, oB_s, v1, oB_s, if_pos rfl]
  · rcases tickM_eq (r := r) hm5 u2 hB0 with ⟨s2, -⟩ | ⟨-, s2⟩
    · exact absurd s2 (m1 _)
    · refine Or.inl ⟨upd f 3 (nI k1), t, _, _, ?_, s2, rfl, rfl, rfl⟩
      unfold zX2_readTicks
      rw [x4, oB_s, u1, oB_s, if_pos rfl]
theorem check_rel {L i : Nat} {l x f m t r : Fn} {p q n tt e : Nat} (hT : Txt L l x) (h1 : f 1 = nI L) (h3 : f 3 = nI i) (h0 : m 0 = nI L) (h2 : m 2 = nI i) (hi : i ≤ 300) (hm5 : m 5 = 0) (hS : Shp t p q n tt e) (hr : ∀ k, k < 5 → r k = t k) : Out i L f m (oB (zX2_readCheck f l t) (fun y2 => oZ y2.1 (some (y2.1, y2.2, t)))) (zX5_item m x r 99) := by
  have hL := hT.1
  have hb := hS.b
  have n0 : ¬ (1 : Int32) = 0 := by decide
  obtain ⟨j1, k1, a, a', x1, x2, x3, x4, x5⟩ := field_rel (m := upd m 5 1) (en := 59) hT h1 h3 h0 h2 (by omega) (by decide) (by decide)
  have hsum : irm (nI (p + q + n + tt + e)) 97 = nI ((p + q + n + tt + e) % 97) := by
    have hn := hS.2.2.2.2.2.2.2.1
    have ht := hS.2.2.2.2.2.2.2.2.2
    rw [show (97 : Int32) = nI 97 from rfl, irm_n (by omega) (by omega) (by omega)]
  have hX1 : zX1_together t = some (nI (p + q + n + tt + e)) := by
    unfold zX1_together
    rw [hS.1, hS.2.1, hS.2.2.1, hS.2.2.2.1, hS.2.2.2.2.1, nI_add, nI_add, nI_add, nI_add]
  have hM1 : zX5_sumOf r = some (nI (p + q + n + tt + e)) := by
    unfold zX5_sumOf
    rw [hr 0 (by omega), hr 1 (by omega), hr 2 (by omega), hr 3 (by omega), hr 4 (by omega), hS.1, hS.2.1, hS.2.2.1, hS.2.2.2.1, hS.2.2.2.2.1, nI_add, nI_add, nI_add, nI_add]
  have hM : ∀ A m1, zX5_number (upd m 5 1) x 59 = some (A, m1) → zX5_item m x r 99 = if A = nI ((p + q + n + tt + e) % 97) then some (1, m1, r) else some (0, m1, r) := by
    intro A m1 hA
    unfold zX5_item
    rw [if_pos hm5, if_pos rfl, hA, oB_s, hM1, oB_s, hsum]
  have hlt : (p + q + n + tt + e) % 97 < 97 := Nat.mod_lt _ (by omega)
  have g1 : ¬ (-1 : Int32) = nI ((p + q + n + tt + e) % 97) := fun z => nI_m1 (by omega) z.symm
  have g4 : ¬ (-4 : Int32) = nI ((p + q + n + tt + e) % 97) := fun z => by
    have e1 := nI_toInt (n := (p + q + n + tt + e) % 97) (by omega)
    rw [← z] at e1
    have e2 : (-4 : Int32).toInt = -4 := by decide
    omega
  have hfailX : ∀ f1 : Fn, f1 1 = f 1 → zX2_readCheck f l t = zX2_readCheck_k33 f1 l t → (oB (zX2_readCheck f l t) (fun y2 => oZ y2.1 (some (y2.1, y2.2, t)))) = some (0, upd f1 4 0, t) := by
    intro f1 hf1 hX
    rw [hX]
    rfl
  rcases x5 with ⟨jL, u1, u2⟩ | ⟨u1, u2⟩
  · have hX : zX2_readCheck f l t = if a = nI ((p + q + n + tt + e) % 97) then (oZ ((upd (upd f 3 (nI j1)) 4 1) 4) (some (((upd (upd f 3 (nI j1)) 4 1) 4), (upd (upd f 3 (nI j1)) 4 1)))) else (zX2_readCheck_k33 (upd f 3 (nI j1)) l t) := by
      unfold zX2_readCheck
      rw [x4, oB_s, u1, oB_s, if_neg n0, hX1, oB_s, hsum]
    rw [hM _ _ u2]
    rcases x3 with ⟨rfl, rfl⟩ | ⟨w, w1, rfl, rfl⟩
    · rw [if_neg g4] at hX
      rw [if_neg g1]
      exact Or.inl ⟨upd (upd f 3 (nI j1)) 4 0, t, _, _, hfailX (upd f 3 (nI j1)) rfl hX, rfl, rfl, rfl, rfl⟩
    · by_cases z : nI w = nI ((p + q + n + tt + e) % 97)
      · rw [if_pos z] at hX ⊢
        refine Or.inr ⟨j1, upd (upd f 3 (nI j1)) 4 1, t, upd (upd m 5 1) 2 (nI j1), r, x1, jL, by rw [hX]; rfl, rfl, rfl, rfl, rfl, rfl, upd_s, rfl, ⟨rfl, Or.inr rfl⟩, p, q, n, tt, e, hS, hr⟩
      · rw [if_neg z] at hX ⊢
        exact Or.inl ⟨upd (upd f 3 (nI j1)) 4 0, t, _, _, hfailX (upd f 3 (nI j1)) rfl hX, rfl, rfl, rfl, rfl⟩
  · rw [hM _ _ u2, if_neg g1]
    have hX : zX2_readCheck f l t = zX2_readCheck_k33 (upd f 3 (nI k1)) l t := by
      unfold zX2_readCheck
      rw [x4, oB_s, u1, oB_s, if_pos rfl]
    exact Or.inl ⟨upd (upd f 3 (nI k1)) 4 0, t, _, _, hfailX (upd f 3 (nI k1)) rfl hX, rfl, rfl, rfl, rfl⟩
theorem Out.mono {i i' L : Nat} {f f2 m m2 : Fn} {X Y : Option (Int32 × Fn × Fn)} (h : Out i L f m X Y) (hi : i' ≤ i) (e1 : f 1 = f2 1) (e5 : f 5 = f2 5) (e0 : m 0 = m2 0) (e8 : m 8 = m2 8) : Out i' L f2 m2 X Y := by
  rcases h with ⟨f', t', m', r', a1, a2, a3, a4, a5⟩ | ⟨j, f', t', m', r', a1, a2, a3, a4, a5, a6, a7, a8, a9, a10, a11⟩
  · exact Or.inl ⟨f', t', m', r', a1, a2, a3.trans e1, a4.trans e0, a5.trans e8⟩
  · exact Or.inr ⟨j, f', t', m', r', by omega, a2, a3, a4, a5.trans e1, a6, a7.trans e5, a8.trans e0, a9, a10.trans e8, a11⟩
theorem item_rel {L i : Nat} {l x f m t r : Fn} {p q n tt e : Nat} (hT : Txt L l x) (h1 : f 1 = nI L) (h3 : f 3 = nI i) (h0 : m 0 = nI L) (h2 : m 2 = nI i) (hi : i < L) (hf4 : f 4 = 0) (hm5 : m 5 = 0) (hS : Shp t p q n tt e) (hr : ∀ k, k < 5 → r k = t k) : Out i L f m (zX2_readItem f l t) (zX5_item (upd m 2 (nI (i + 1))) x r (x i)) := by
  have hL := hT.1
  obtain ⟨e1, v, v1, v2, v3⟩ := hT.2 i hi
  have h3' : (upd f 3 (f 3 + 1)) 3 = nI (i + 1) := by rw [upd_s, h3, nI_1]
  unfold zX2_readItem
  rw [nextX hL h1 h3 (by omega), oB_s, if_pos hi, e1]
  by_cases c99 : x i = 99
  · rw [c99, if_pos rfl]
    exact (check_rel (f := upd f 3 (f 3 + 1)) (m := upd m 2 (nI (i + 1))) (i := i + 1) hT h1 h3' h0 upd_s (by omega) hm5 hS hr).mono (by omega) rfl rfl rfl rfl
  rw [if_neg c99]
  by_cases c103 : x i = 103
  · have hp := (parts_rel (f := upd f 3 (f 3 + 1)) (m := upd m 2 (nI (i + 1))) (i := i + 1) hT h1 h3' h0 upd_s (by omega) ⟨hf4.trans hm5.symm, Or.inl hf4⟩ hS hr).mono (i' := i) (f2 := f) (m2 := m) (by omega) rfl rfl rfl rfl
    rw [if_pos c103]
    have hm5' : (upd m 2 (nI (i + 1))) 5 = 0 := hm5
    unfold zX5_item
    rw [if_pos hm5', if_neg c99, if_pos c103]
    rcases hp with ⟨f', t', m', r', a1, a2, a3⟩ | ⟨j, f', t', m', r', a1, a2, a3, a4, a5⟩
    · exact Or.inl ⟨f', t', m', r', by rw [a1]; rfl, by rw [a2]; rfl, a3⟩
    · exact Or.inr ⟨j, f', t', m', r', a1, a2, by rw [a3]; rfl, by rw [a4]; rfl, a5⟩
  rw [if_neg c103]
  by_cases c116 : x i = 116
  · have hp := (ticks_rel (f := upd f 3 (f 3 + 1)) (m := upd m 2 (nI (i + 1))) (i := i + 1) hT h1 h3' h0 upd_s (by omega) hf4 hm5 hS hr).mono (i' := i) (f2 := f) (m2 := m) (by omega) rfl rfl rfl rfl
    rw [c116, if_pos rfl]
    rcases hp with ⟨f', t', m', r', a1, a2, a3⟩ | ⟨j, f', t', m', r', a1, a2, a3, a4, a5⟩
    · exact Or.inl ⟨f', t', m', r', by rw [a1]; rfl, a2, a3⟩
    · exact Or.inr ⟨j, f', t', m', r', a1, a2, by rw [a3]; rfl, a4, a5⟩
  rw [if_neg c116]
  refine Or.inl ⟨f, t, upd m 2 (nI (i + 1)), r, rfl, ?_, rfl, rfl, rfl⟩
  have hm5' : (upd m 2 (nI (i + 1))) 5 = 0 := hm5
  unfold zX5_item
  rw [if_pos hm5', if_neg c99, if_neg c103, if_neg c116]
/-- the whole text -/
theorem exam_loop {L : Nat} {l x : Fn} (hT : Txt L l x) : ∀ (k i c fu fv : Nat) (f m t r : Fn) (p q n tt e : Nat), L - i ≤ k → i ≤ L → c ≤ i → k < fu → k < fv → f 1 = nI L → f 3 = nI i → f 5 = -4 → m 0 = nI L → m 2 = nI i → (f 4 = m 5 ∧ (f 4 = 0 ∨ f 4 = 1)) → Shp t p q n tt e → (∀ k, k < 5 → r k = t k) →
    ∃ (f' t' m' r' : Fn) (R : Int32), zX2_examine_k25 fu f l t (nI c) = some (f', t') ∧ zX5_fault_k17 fv m x r = some (R, m', r') ∧ f' 5 = R ∧ f' 1 = nI L ∧ m' 0 = nI L ∧ m' 8 = m 8 ∧ (R = -4 → (f' 4 = m' 5 ∧ (f' 4 = 0 ∨ f' 4 = 1)) ∧ ∃ p q n tt e, Shp t' p q n tt e ∧ ∀ k, k < 5 → r' k = t' k) := by
  have hL := hT.1
  intro k
  induction k with
  | zero =>
    intro i c fu fv f m t r p q n tt e a1 a2 a3 a4 a5 h1 h3 h5 h0 h2 hck hS hr
    obtain ⟨F, rfl⟩ : ∃ F, fu = F + 1 := ⟨fu - 1, by omega⟩
    obtain ⟨F', rfl⟩ : ∃ F, fv = F + 1 := ⟨fv - 1, by omega⟩
    refine ⟨f, t, m, r, -4, ?_, ?_, h5, h1, h0, rfl, fun _ => ⟨hck, p, q, n, tt, e, hS, hr⟩⟩
    · rw [zX2_examine_k25, h1, h3]
      by_cases z : (200 : Int32) ≤ nI c
      · rw [if_pos z]
      · rw [if_neg z, if_pos (nI_le (by omega) (by omega))]
    · rw [zX5_fault_k17, h0, h2, if_pos (nI_le (by omega) (by omega))]
  | succ k ih =>
    intro i c fu fv f m t r p q n tt e a1 a2 a3 a4 a5 h1 h3 h5 h0 h2 hck hS hr
    obtain ⟨F, rfl⟩ : ∃ F, fu = F + 1 := ⟨fu - 1, by omega⟩
    obtain ⟨F', rfl⟩ : ∃ F, fv = F + 1 := ⟨fv - 1, by omega⟩
    by_cases hiL : i < L
    · have zc : ¬ (200 : Int32) ≤ nI c := nI_ge (b := 200) (by omega) (by omega)
      have zi : ¬ nI L ≤ nI i := nI_ge hiL (by omega)
      rw [zX2_examine_k25, zX5_fault_k17, h1, h3, if_neg zc, if_neg zi, h0, h2, if_neg zi, oI_n (by omega) (by omega), ix_n (by omega), nI_1, nI_1]
      have hne4 : ¬ nI i = -4 := fun z => by
        have e1 := nI_toInt (n := i) (by omega)
        rw [z] at e1
        have e2 : (-4 : Int32).toInt = -4 := by decide
        omega
      rcases hck with ⟨ck1, ck2 | ck2⟩
      · rw [if_pos ck2]
        have hm5 : m 5 = 0 := ck1.symm.trans ck2
        rcases item_rel hT h1 h3 h0 h2 hiL ck2 hm5 hS hr with ⟨f', t', m', r', b1, b2, b3, b4, b5⟩ | ⟨j, f', t', m', r', b1, b2, b3, b4, b5, b6, b7, b8, b9, b10, b11, p', q', n', tt', e', b12, b13⟩
        · refine ⟨upd f' 5 (nI i), t', m', r', nI i, ?_, ?_, rfl, b3.trans h1, b4.trans h0, b5, fun z => absurd z hne4⟩
          · rw [b1, oB_s, if_pos rfl]
          · rw [b2, oB_s, if_pos rfl]
        · obtain ⟨f2, t2, m2, r2, R, c1, c2, c3, c4, c5, c6, c7⟩ := ih j (c + 1) F F' f' m' t' r' p' q' n' tt' e' (by omega) b2 (by omega) (by omega) (by omega) (b5.trans h1) b6 (b7.trans h5) (b8.trans h0) b9 b11 b12 b13
          refine ⟨f2, t2, m2, r2, R, ?_, ?_, c3, c4, c5, c6.trans b10, c7⟩
          · rw [b3, oB_s, if_neg n10]; exact c1
          · rw [b4, oB_s, if_neg n10]; exact c2
      · have hm5 : ¬ (upd m 2 (nI (i + 1))) 5 = 0 := by
          show ¬ m 5 = 0
          rw [← ck1, ck2]
          decide
        refine ⟨upd f 5 (nI i), t, upd m 2 (nI (i + 1)), r, nI i, ?_, ?_, rfl, h1, h0, rfl, fun z => absurd z hne4⟩
        · rw [if_neg (by rw [ck2]; decide)]
        · unfold zX5_item
          rw [if_neg hm5, oB_s, if_pos rfl]
    · refine ⟨f, t, m, r, -4, ?_, ?_, h5, h1, h0, rfl, fun _ => ⟨hck, p, q, n, tt, e, hS, hr⟩⟩
      · rw [zX2_examine_k25, h1, h3]
        by_cases z : (200 : Int32) ≤ nI c
        · rw [if_pos z]
        · rw [if_neg z, if_pos (nI_le (by omega) (by omega))]
      · rw [zX5_fault_k17, h0, h2, if_pos (nI_le (by omega) (by omega))]
theorem exam_rel {L : Nat} {l x f m t r : Fn} (hT : Txt L l x) (h1 : f 1 = nI L) (h0 : m 0 = nI L) : ∃ (f' t' m' r' : Fn) (R : Int32), zX2_examine f l t = some (f', t') ∧ zX5_fault m x r = some (R, m', r') ∧ f' 5 = R ∧ f' 1 = nI L ∧ m' 0 = nI L ∧ m' 8 = m 8 ∧ (R = -4 → (f' 4 = m' 5 ∧ (f' 4 = 0 ∨ f' 4 = 1)) ∧ ∃ p q n tt e, Shp t' p q n tt e ∧ ∀ k, k < 5 → r' k = t' k) := by
  have hL := hT.1
  obtain ⟨f', t', m', r', R, c1, c2, c3, c4, c5, c6, c7⟩ := exam_loop hT L 0 0 4096 4096 (upd (upd (upd f 3 0) 4 0) 5 (-4)) (upd (upd m 5 0) 2 0) (upd (upd (upd (upd (upd t 0 8) 1 4) 2 8) 3 2) 4 5) (upd (upd (upd (upd (upd r 0 8) 1 4) 2 8) 3 2) 4 5) 8 4 8 2 5 (by omega) (by omega) (by omega) (by omega) (by omega) h1 rfl rfl h0 rfl ⟨rfl, Or.inl rfl⟩ (usual t) (fun k hk => by
    rcases (show k = 0 ∨ k = 1 ∨ k = 2 ∨ k = 3 ∨ k = 4 by omega) with rfl | rfl | rfl | rfl | rfl <;> rfl)
  refine ⟨f', t', m', r', R, ?_, ?_, c3, c4, c5, c6, c7⟩
  · unfold zX2_examine zX1_setUsual
    rw [oB_s]
    exact c1
  · unfold zX5_fault zX5_plain
    rw [oB_s]
    exact c2
theorem op_fault {B : Nat} {f0 f1 f2 f3 f4 f5 f6 f7 f8 f9 f10 f11 f12 f13 f14 f15 f16 f17 f18 f19 f20 f21 g0 g1 g2 g3 g4 g5 : Fn} (hB : B ≤ 1000) (h : Rel B f0 f1 f2 f3 f4 f5 f6 f7 f8 f9 f10 f11 f12 f13 f14 f15 f16 f17 f18 f19 f20 f21 g0 g1 g2 g3 g4 g5) : ∃ (r : Int32) (f1' : Fn) (f3' : Fn) (g0' : Fn) (g3' : Fn), zX4_fault f1 f2 f3 = some (r, f1', f3') ∧ zX5_fault g0 g1 g3 = some (r, g0', g3') ∧ Rel (B + 1) f0 f1' f2 f3' f4 f5 f6 f7 f8 f9 f10 f11 f12 f13 f14 f15 f16 f17 f18 f19 f20 f21 g0' g1 g2 g3' g4 g5 := by
  have hup := h.up
  obtain ⟨⟨L, hL, h1, h2, h3⟩, p, q, n, t, e, k1, k2, k3, K, k4, k5, k6, k7⟩ := hup
  obtain ⟨f', t', m', r', R, c1, c2, c3, c4, c5, c6, -⟩ := exam_rel (t := f3) (r := g3) ⟨hL, h3⟩ h1 h2
  refine ⟨R, f', t', m', r', ?_, c2, ⟨L, hL, c4, c5, h3⟩, p, q, n, t, e, k1, k2, k3, K, k4, k5, c6.trans k6, k7⟩
  unfold zX4_fault zX2_faultPlace
  rw [c1, oB_s, oB_s]
  exact congrArg (fun z => some (z, f', t')) c3
theorem layM_loop {g0 g1 g3 g4 s' : Fn} {y : Fn × Fn} (hy : zX5_anew g0 g4 = some y) : ∀ (m i fu : Nat) (g2 : Fn), i + m = 5 → m < fu → ∃ g2', zX5_lay_k21 fu g0 g1 g2 g3 g4 (nI i) = oB (zX5_all g2') (fun y3 => some (y3, y.1, g2', g3, y.2)) ∧ ∀ j, j < 5 → g2' j = if i ≤ j then g3 j else g2 j := by
  intro m
  induction m with
  | zero =>
    intro i fu g hi hf
    obtain ⟨f, rfl⟩ : ∃ f, fu = f + 1 := ⟨fu - 1, by omega⟩
    refine ⟨g, ?_, fun j hj => by rw [if_neg (by omega)]⟩
    rw [zX5_lay_k21, if_pos (show (5 : Int32) ≤ nI i from nI_le (a := 5) (by omega) (by omega)), hy, oB_s]
  | succ m ih =>
    intro i fu g hi hf
    obtain ⟨f, rfl⟩ : ∃ f, fu = f + 1 := ⟨fu - 1, by omega⟩
    obtain ⟨g', h1, h2⟩ := ih (i + 1) f (upd g i (g3 i)) (by omega) (by omega)
    refine ⟨g', ?_, fun j hj => ?_⟩
    · have z : ¬ (5 : Int32) ≤ nI i := nI_ge (b := 5) (by omega) (by omega)
      rw [zX5_lay_k21, if_neg z, oI_n (by omega) (by omega), oI_n (by omega) (by omega), ix_n (by omega), nI_1]
      exact h1
    · rw [h2 j hj]
      by_cases z : i + 1 ≤ j
      · rw [if_pos z, if_pos (by omega)]
      · rw [if_neg z]
        by_cases z2 : j = i
        · subst z2; rw [upd_s, if_pos (Nat.le_refl _)]
        · rw [upd_n z2, if_neg (by omega)]
set_option maxHeartbeats 1000000 in
theorem op_lay {B : Nat} {f0 f1 f2 f3 f4 f5 f6 f7 f8 f9 f10 f11 f12 f13 f14 f15 f16 f17 f18 f19 f20 f21 g0 g1 g2 g3 g4 g5 : Fn} (hB : B ≤ 1000) (h : Rel B f0 f1 f2 f3 f4 f5 f6 f7 f8 f9 f10 f11 f12 f13 f14 f15 f16 f17 f18 f19 f20 f21 g0 g1 g2 g3 g4 g5) : ∃ (r : Int32) (f0' : Fn) (f1' : Fn) (f3' : Fn) (f4' : Fn) (f5' : Fn) (f6' : Fn) (f7' : Fn) (f8' : Fn) (f9' : Fn) (g0' : Fn) (g2' : Fn) (g3' : Fn) (g4' : Fn), zX4_lay f0 f1 f2 f3 f4 f5 f6 f7 f8 f9 = some (r, f0', f1', f3', f4', f5', f6', f7', f8', f9') ∧ zX5_lay g0 g1 g2 g3 g4 = some (r, g0', g2', g3', g4') ∧ Rel (B + 1) f0' f1' f2 f3' f4' f5' f6' f7' f8' f9' f10 f11 f12 f13 f14 f15 f16 f17 f18 f19 f20 f21 g0' g1 g2' g3' g4' g5 := by
  have hup := h.up
  obtain ⟨⟨L, hL, h1, h2, h3⟩, p, q, n, t, e, k1, k2, k3, K, k4, k5, k6, k7⟩ := hup
  obtain ⟨f', t', m', r', R, c1, c2, c3, c4, c5, c6, c7⟩ := exam_rel (t := f3) (r := g3) ⟨hL, h3⟩ h1 h2
  unfold zX4_lay zX5_lay zX2_isChecked
  rw [c1, oB_s, c2, oB_s]
  subst c3
  have hno : Rel (B + 1) f0 f' f2 t' f4 f5 f6 f7 f8 f9 f10 f11 f12 f13 f14 f15 f16 f17 f18 f19 f20 f21 m' g1 g2 r' g4 g5 := ⟨⟨L, hL, c4, c5, h3⟩, p, q, n, t, e, k1, k2, k3, K, k4, k5, c6.trans k6, k7⟩
  by_cases z : f' 5 = -4
  · obtain ⟨⟨d1, d2⟩, p', q', n', tt', e', d3, d4⟩ := c7 z
    rw [if_pos z, if_pos z]
    rcases d2 with w | w
    · refine ⟨-2, f0, f', t', f4, f5, f6, f7, f8, f9, m', g2, r', g4, ?_, ?_, hno⟩
      · rw [if_pos w, oB_s, if_pos rfl]
      · rw [if_pos (show m' 5 = 0 from d1.symm.trans w)]
    · have w0 : ¬ f' 4 = 0 := by rw [w]; decide
      obtain ⟨c', w', g', b', k', s1, s2⟩ := startX f4 f6 f7 f8 f9
      obtain ⟨s', m1, m2⟩ := anewM m' g4
      obtain ⟨g2', l1, l2⟩ := layM_loop (g1 := g1) (g3 := r') (s' := s') m1 5 0 4096 g2 (by omega) (by omega)
      have l1' : zX5_lay_k21 4096 m' g1 g2 r' g4 0 = _ := l1
      have e2 : ∀ i, i < 5 → g2' i = t' i := fun i hi => by rw [l2 i hi, if_pos (by omega)]; exact d4 i hi
      have hsh : ∀ i, i < 5 → (upd (upd (upd (upd (upd f5 0 (t' 0)) 1 (t' 1)) 2 (t' 2)) 3 (t' 3)) 4 (t' 4)) i = t' i := fun i hi => by
        rcases (show i = 0 ∨ i = 1 ∨ i = 2 ∨ i = 3 ∨ i = 4 by omega) with rfl | rfl | rfl | rfl | rfl <;> rfl
      have hS' : Shp (upd (upd (upd (upd (upd f5 0 (t' 0)) 1 (t' 1)) 2 (t' 2)) 3 (t' 3)) 4 (t' 4)) p' q' n' tt' e' := d3
      refine ⟨nI (p' * q' * n'), upd f0 4 0, f', t', c', upd (upd (upd (upd (upd f5 0 (t' 0)) 1 (t' 1)) 2 (t' 2)) 3 (t' 3)) 4 (t' 4), w', g', b', k', upd m' 8 0, g2', r', s', ?_, ?_, ⟨L, hL, c4, c5, h3⟩, p', q', n', tt', e', hS', fun i hi => (e2 i hi).trans (hsh i hi).symm, (s2 s' m2 n').up (by omega), 0, by omega, rfl, rfl, fun z => absurd z (by omega), fun z => absurd z (by omega)⟩
      · unfold zX2_told zX0_layOut zX1_copyFrom
        rw [if_neg w0, oB_s, if_neg n10, oB_s, oB_s, s1, oB_s, oB_s, allX hS', oB_s]
      · rw [if_neg (show ¬ m' 5 = 0 from fun q => w0 (d1.trans q)), l1', allM hS' (fun i hi => (e2 i hi).trans (hsh i hi).symm), oB_s]
  · refine ⟨-2, f0, f', t', f4, f5, f6, f7, f8, f9, m', g2, r', g4, ?_, ?_, hno⟩
    · rw [if_neg z]
      by_cases w : f' 4 = 0
      · rw [if_pos w, oB_s, if_pos rfl]
      · rw [if_neg w, oB_s, if_pos rfl]
    · rw [if_neg z]
