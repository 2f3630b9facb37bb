/-! ===== time ===== -/
theorem done_loop {g2 : Fn} {hi : Nat} (hh : hi ≤ 256) : ∀ (m i fu : Nat) (s : Fn), i + m = hi → m < fu → ¬ s 293 = 1 → ∃ s', zX5_done_k58 fu g2 s (nI hi) (nI i) = some (upd s' 293 0) ∧ ∀ a, s' a = if i ≤ a ∧ a < hi then 255 else s a := by
  intro m
  induction m with
  | zero =>
    intro i fu s hi' hf h1
    obtain ⟨f, rfl⟩ : ∃ f, fu = f + 1 := ⟨fu - 1, by omega⟩
    refine ⟨s, ?_, fun a => by rw [if_neg (by omega)]⟩
    rw [zX5_done_k58, if_pos (nI_le (by omega) (by omega))]
    rfl
  | succ m ih =>
    intro i fu s hi' hf h1
    obtain ⟨f, rfl⟩ : ∃ f, fu = f + 1 := ⟨fu - 1, by omega⟩
    obtain ⟨s', q1, q2⟩ := ih (i + 1) f (upd s i 255) (by omega) (by omega) (by rw [upd_n (by omega)]; exact h1)
    refine ⟨s', ?_, fun a => ?_⟩
    · rw [zX5_done_k58, if_neg (nI_ge (by omega) (by omega)), if_neg h1, oI_n (by omega) (by omega), ix_n (by omega), nI_1]
      exact q1
    · rw [q2 a]
      by_cases z2 : a = i
      · subst z2; rw [upd_s, if_neg (by omega), if_pos (by omega)]
      · rw [upd_n z2]
        by_cases z : i + 1 ≤ a ∧ a < hi
        · rw [if_pos z, if_pos (by omega)]
        · rw [if_neg z, if_neg (by omega)]
/-- the relation, when what was busy is done -/
theorem ChR.done {n B : Nat} {c w g b k s b' s' : Fn} (h : ChR n B c w g b k s) (hb : ByR b' s') (e : ∀ a, 256 ≤ a → a ≠ 295 → s' a = s a) : ChR n B (upd (upd (upd (upd c 10 (c 10 - 1)) 8 (-1)) 9 (-1)) 10 0) w g b' k (upd s' 293 0) := by
  obtain ⟨h1, h2, h3, h4, h5, h6⟩ := h
  refine ⟨hb.s (fun a ha => by rw [upd_n (by omega)]), h2.s (e _ (by omega) (by omega)), h3.cs ⟨rfl, rfl, rfl, rfl, rfl, rfl, rfl⟩ ⟨e _ (by omega) (by omega), e _ (by omega) (by omega), e _ (by omega) (by omega), e _ (by omega) (by omega), e _ (by omega) (by omega), e _ (by omega) (by omega), e _ (by omega) (by omega)⟩, Or.inl ⟨rfl, rfl⟩, h5.cs ⟨rfl, rfl⟩ ⟨e _ (by omega) (by omega), e _ (by omega) (by omega)⟩, h6.s ⟨e _ (by omega) (by omega), e _ (by omega) (by omega), e _ (by omega) (by omega), e _ (by omega) (by omega), e _ (by omega) (by omega)⟩ (fun j hj => ?_)⟩
  rw [upd_n (by omega), e _ (by omega) (by omega)]
set_option maxHeartbeats 1000000 in
theorem tick1 {c sh w g b k s g2 : Fn} {p q n t e B : Nat} (hS : Shp sh p q n t e) (hg : ∀ i, i < 5 → g2 i = sh i) (h : ChR n B c w g b k s) (hb1 : ¬ c 8 = -1) : ∃ c' b' s', zX0_passTick c sh b = some (c', b') ∧ ChR n B c' w g b' k s' ∧
    (((upd s 295 (s 295 - 1)) 295 = 0 ∧ zX5_done g2 (upd s 295 (s 295 - 1)) = some s') ∨ (¬ (upd s 295 (s 295 - 1)) 295 = 0 ∧ upd s 295 (s 295 - 1) = s')) := by
  have hb := hS.b
  have hC := h
  obtain ⟨hBy, hLk, hSc, hBu, hSu, hWi⟩ := h
  rcases hBu with ⟨b1, -⟩ | ⟨b0, L, l1, l2, l3, l4⟩
  · exact absurd b1 hb1
  have eL : nI L - 1 = nI (L - 1) := pk_sub (b := 1) (by omega)
  have eL' : (upd s 295 (s 295 - 1)) 295 = nI (L - 1) := by rw [upd_s, l4, eL]
  have eC : (upd c 10 ((c 10) - 1)) 10 = nI (L - 1) := by rw [upd_s, l3, eL]
  have e8 : (upd c 10 ((c 10) - 1)) 8 = c 8 := rfl
  have e9 : (upd c 10 ((c 10) - 1)) 9 = c 9 := rfl
  unfold zX0_passTick
  rw [eC, e8, e9, eL']
  by_cases cL : L = 1
  · subst cL
    rw [if_pos (show nI (1 - 1) ≤ 0 by decide)]
    unfold zX5_done zX5_done_k31
    rw [secM hS hg, oB_s, allM hS hg]
    have e293 : (upd s 295 (s 295 - 1)) 293 = s 293 := rfl
    have e294 : (upd s 295 (s 295 - 1)) 294 = s 294 := rfl
    rw [e293, e294]
    rcases b0 with ⟨b1, b2⟩ | ⟨b1, b2, j, j1, j2, j3⟩ | ⟨b1, b2⟩
    · -- program
      refine ⟨_, b, upd (upd s 295 (s 295 - 1)) 293 0, by rw [b1, if_neg (by decide), if_neg (by decide)]; rfl, hC.done (hBy.s (fun a ha => by rw [upd_n (by omega)])) (fun a _ z => upd_n z), Or.inl ⟨rfl, ?_⟩⟩
      rw [b2, if_neg (by decide), oB_s, if_neg (by decide), zX5_done_k58, if_neg (show ¬ nI (p * q * n) ≤ 0 from nI_nle (by omega) (by omega)), if_pos (show (upd s 295 (s 295 - 1)) 293 = 1 from b2)]
      rfl
    · -- a sector
      have hjz : j * (p * q) + p * q ≤ 256 := by
        have h1 : (j + 1) * (p * q) ≤ n * (p * q) := Nat.mul_le_mul_right _ j1
        have h2 : n * (p * q) = p * q * n := Nat.mul_comm _ _
        have h3 : (j + 1) * (p * q) = j * (p * q) + p * q := Nat.succ_mul _ _
        omega
      obtain ⟨b', x1, x2⟩ := eraseX hjz b
      obtain ⟨s', y1, y2⟩ := done_loop (g2 := g2) (hi := j * (p * q) + p * q) hjz (p * q) (j * (p * q)) 4096 (upd s 295 (s 295 - 1)) rfl (by omega) (by rw [e293, b2]; decide)
      refine ⟨_, b', _, ?_, hC.done (b' := b') (s' := s') (fun a ha => ?_) (fun a ha z => by rw [y2 a, if_neg (by omega), upd_n z]), Or.inl ⟨rfl, ?_⟩⟩
      · rw [b1, if_pos rfl, secB hS, oB_s, oB_s, j2, pk_mul, x1, oB_s]
        rfl
      · rw [x2 a, y2 a]
        by_cases z : j * (p * q) ≤ a ∧ a < j * (p * q) + p * q
        · rw [if_pos z, if_pos z]; exact ⟨rfl, 255, by omega, rfl⟩
        · rw [if_neg z, if_neg z, upd_n (by omega)]; exact hBy a ha
      · rw [b2, if_pos rfl, if_pos rfl, j3, pk_mul, nI_add]
        exact y1
    · -- all
      obtain ⟨b', x1, x2⟩ := eraseX (st := 0) (len := p * q * n) (by omega) b
      obtain ⟨s', y1, y2⟩ := done_loop (g2 := g2) (hi := p * q * n) (by omega) (p * q * n) 0 4096 (upd s 295 (s 295 - 1)) (by omega) (by omega) (by rw [e293, b2]; decide)
      refine ⟨_, b', _, ?_, hC.done (b' := b') (s' := s') (fun a ha => ?_) (fun a ha z => by rw [y2 a, if_neg (by omega), upd_n z]), Or.inl ⟨rfl, ?_⟩⟩
      · have x1' : zX0_eraseFrom b 0 (nI (p * q * n)) = some b' := x1
        rw [b1, if_neg (by decide), if_pos rfl, allX hS, oB_s, x1', oB_s]
        rfl
      · rw [x2 a, y2 a, Nat.zero_add]
        by_cases z : 0 ≤ a ∧ a < p * q * n
        · rw [if_pos z, if_pos z]; exact ⟨rfl, 255, by omega, rfl⟩
        · rw [if_neg z, if_neg z, upd_n (by omega)]; exact hBy a ha
      · rw [b2, if_neg (by decide), if_neg (by decide), oB_s]
        exact y1
  · refine ⟨upd c 10 (nI (L - 1)), b, upd s 295 (nI (L - 1)), ?_, ⟨hBy.s (fun a ha => by rw [upd_n (by omega)]), hLk.s rfl, hSc.cs ⟨rfl, rfl, rfl, rfl, rfl, rfl, rfl⟩ ⟨rfl, rfl, rfl, rfl, rfl, rfl, rfl⟩, Or.inr ⟨b0, L - 1, by omega, by omega, rfl, rfl⟩, hSu.cs ⟨rfl, rfl⟩ ⟨rfl, rfl⟩, hWi.s ⟨rfl, rfl, rfl, rfl, rfl⟩ (fun j hj => by rw [upd_n (by omega)])⟩, Or.inr ⟨?_, ?_⟩⟩
    · rw [if_neg (show ¬ nI (L - 1) ≤ 0 from nI_nle (by omega) (by omega)), l3, eL]
    · exact nI_ne0 (by omega) (by omega)
    · rw [l4, eL]
theorem tick_loop {sh w g k g2 : Fn} {p q n t e B N : Nat} (hS : Shp sh p q n t e) (hg : ∀ i, i < 5 → g2 i = sh i) (hN : N ≤ 99) : ∀ (m i fu fv : Nat) (c b s : Fn) (x : Int32), i + m = N → m < fu → m < fv → ChR n B c w g b k s → ∃ (r : Int32) (c' b' s' : Fn), zX4_tick_k17 fu c sh b (nI N) x (nI i) = some (r, c', b') ∧ zX5_tick_k18 fv g2 s (nI N) x (nI i) = some (r, s') ∧ ChR n B c' w g b' k s' := by
  intro m
  induction m with
  | zero =>
    intro i fu fv c b s x hi hf hv hC
    obtain ⟨f, rfl⟩ : ∃ f, fu = f + 1 := ⟨fu - 1, by omega⟩
    obtain ⟨f', rfl⟩ : ∃ f, fv = f + 1 := ⟨fv - 1, by omega⟩
    refine ⟨x, c, b, s, ?_, ?_, hC⟩
    · rw [zX4_tick_k17, if_pos (nI_le (by omega) (by omega))]
    · rw [zX5_tick_k18, if_pos (nI_le (by omega) (by omega))]
  | succ m ih =>
    intro i fu fv c b s x hi hf hv hC
    obtain ⟨f, rfl⟩ : ∃ f, fu = f + 1 := ⟨fu - 1, by omega⟩
    obtain ⟨f', rfl⟩ : ∃ f, fv = f + 1 := ⟨fv - 1, by omega⟩
    rw [zX4_tick_k17, zX5_tick_k18, if_neg (nI_ge (by omega) (by omega)), if_neg (nI_ge (by omega) (by omega))]
    unfold zX0_isBusy
    obtain ⟨bu, hbu⟩ := hC.2.2.2.1.two
    rcases hbu with ⟨-, b1, b2⟩ | ⟨-, b1, j, j1, j2, b2⟩
    · rw [if_pos b1, oB_s, if_pos rfl, b2, if_pos (show nI 0 ≤ 0 by decide), nI_1]
      exact ih (i + 1) f f' c b s x (by omega) (by omega) (by omega) hC
    · rw [if_neg b1, oB_s, if_neg (show ¬ (1 : Int32) = 0 by decide), b2, if_neg (show ¬ nI j ≤ 0 from nI_nle (by omega) (by omega)), nI_1]
      obtain ⟨c', b', s', t1, t2, t3⟩ := tick1 hS hg hC b1
      obtain ⟨r, c2, b2', s2, q1, q2, q3⟩ := ih (i + 1) f f' c' b' s' (x + 1) (by omega) (by omega) (by omega) t2
      refine ⟨r, c2, b2', s2, ?_, ?_, q3⟩
      · rw [t1, oB_s]; exact q1
      · rcases t3 with ⟨z1, z2⟩ | ⟨z1, z2⟩
        · rw [if_pos z1, z2, oB_s]; exact q2
        · rw [if_neg z1, z2]; exact q2
theorem op_tick {B : Nat} {f0 f1 f2 f3 f4 f5 f6 f7 f8 f9 f10 f11 f12 f13 f14 f15 f16 f17 f18 f19 f20 f21 g0 g1 g2 g3 g4 g5 : Fn} (hB : B ≤ 1000) (h : Rel B f0 f1 f2 f3 f4 f5 f6 f7 f8 f9 f10 f11 f12 f13 f14 f15 f16 f17 f18 f19 f20 f21 g0 g1 g2 g3 g4 g5) (u1 : Int32) : ∃ (r : Int32) (f4' : Fn) (f8' : Fn) (g4' : Fn), zX4_tick f4 f5 f8 u1 = some (r, f4', f8') ∧ zX5_tick g2 g4 u1 = some (r, g4') ∧ Rel (B + 1) f0 f1 f2 f3 f4' f5 f6 f7 f8' f9 f10 f11 f12 f13 f14 f15 f16 f17 f18 f19 f20 f21 g0 g1 g2 g3 g4' g5 := by
  obtain ⟨-, p, q, n, t, e, hS, hg, hC, -⟩ := id h
  unfold zX4_tick zX5_tick
  rw [L1, L99, in_spec]
  by_cases c1 : u1 < 1
  · exact ⟨-1, f4, f8, g4, by rw [if_pos c1], by rw [if_pos c1]; rfl, h.up⟩
  rw [if_neg c1, if_neg c1]
  rcases (Decidable.em (u1 ≤ 99)).symm with c2 | c2
  · exact ⟨-1, f4, f8, g4, by rw [if_neg c2], by rw [if_pos (Int32.not_le.mp c2)]; rfl, h.up⟩
  rw [if_pos c2, if_neg (Int32.not_lt.mpr c2), oB_s, if_neg n10]
  have c0 : ¬ u1 < 0 := fun q => c1 (by
    rw [Int32.lt_iff_toInt_lt] at q ⊢
    have e0 : (0 : Int32).toInt = 0 := by decide
    have e1 : (1 : Int32).toInt = 1 := by decide
    omega)
  obtain ⟨N, hN, rfl⟩ := nI_mid (M := 99) (by omega) c0 c2
  obtain ⟨r, c', b', s', r1, r2, r3⟩ := tick_loop hS hg hN N 0 4096 4096 f4 f8 g4 0 (by omega) (by omega) (by omega) hC
  refine ⟨r, c', b', s', r1, r2, h.chip (by omega) (fun p' q' n' t' e' hS' _ => ?_)⟩
  rw [← hS.uniq hS']
  exact r3.up (by omega)
