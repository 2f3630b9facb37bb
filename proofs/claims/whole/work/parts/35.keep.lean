/-! ===== keep, back ===== -/
theorem ChR.ext {n B : Nat} {c w g b k s c' w' g' b' k' s' : Fn} (h : ChR n B c w g b k s) (hc : ∀ i, 4 ≤ i → i < 16 → c' i = c i) (hw : ∀ i, i < 4 → w' i = w i) (hg : ∀ j, j < 16 → g' j = g j) (hb : ∀ a, a < 256 → b' a = b a) (hk : ∀ j, j < 8 → k' j = k j) (hs : ∀ i, i < 306 → s' i = s i) : ChR n B c' w' g' b' k' s' := by
  obtain ⟨h1, ⟨m, m1, m2, m3⟩, h3, h4, h5, ⟨w1, kk, k1, k2, k3, k4, k5, k6, k7, k8, k9⟩⟩ := h
  refine ⟨fun a ha => by rw [hb a ha, hs a (by omega)]; exact h1 a ha, ⟨m, m1, by rw [hs _ (by omega)]; exact m2, fun j hj => by rw [hk j hj]; exact m3 j hj⟩, h3.cs ⟨hc _ (by omega) (by omega), hc _ (by omega) (by omega), hc _ (by omega) (by omega), hc _ (by omega) (by omega), hc _ (by omega) (by omega), hc _ (by omega) (by omega), hc _ (by omega) (by omega)⟩ ⟨hs _ (by omega), hs _ (by omega), hs _ (by omega), hs _ (by omega), hs _ (by omega), hs _ (by omega), hs _ (by omega)⟩, h4.cs ⟨hc _ (by omega) (by omega), hc _ (by omega) (by omega), hc _ (by omega) (by omega)⟩ ⟨hs _ (by omega), hs _ (by omega), hs _ (by omega)⟩, h5.cs ⟨hc _ (by omega) (by omega), hc _ (by omega) (by omega)⟩ ⟨hs _ (by omega), hs _ (by omega)⟩, ?_⟩
  refine ⟨by rw [hw 0 (by omega), hs _ (by omega)]; exact w1, kk, k1, by rw [hw 1 (by omega)]; exact k2, by rw [hs _ (by omega)]; exact k3, by rw [hw 0 (by omega)]; exact k4, by rw [hw 2 (by omega), hs _ (by omega)]; exact k5, by rw [hw 3 (by omega), hs _ (by omega)]; exact k6, by rw [hw 3 (by omega), hs _ (by omega)]; exact k7, fun z j hj => by rw [hg j hj]; exact k8 z j hj, fun z j hj => ?_⟩
  rw [hg j hj, hs _ (by omega), hs _ (by omega)]
  exact k9 z j hj
theorem cw_loop {f0 f2 f3 : Fn} : ∀ (m i fu : Nat) (g : Fn), i + m = 16 → m < fu → ∃ g', zX3_copyFrom_k34 fu f0 g f2 f3 (nI i) = some (f0, g') ∧ ∀ j, j < 16 → g' j = if i ≤ j then f3 j else g j := by
  intro m
  induction m with
  | zero =>
    intro i fu g hi hf
    obtain ⟨f, rfl⟩ : ∃ f, fu = f + 1 := ⟨fu - 1, by omega⟩
    refine ⟨g, ?_, fun j hj => by rw [if_neg (by omega)]⟩
    rw [zX3_copyFrom_k34, if_pos (show (16 : Int32) ≤ nI i from nI_le (a := 16) (by omega) (by omega))]
  | succ m ih =>
    intro i fu g hi hf
    obtain ⟨f, rfl⟩ : ∃ f, fu = f + 1 := ⟨fu - 1, by omega⟩
    obtain ⟨g', h1, h2⟩ := ih (i + 1) f (upd g i (f3 i)) (by omega) (by omega)
    refine ⟨g', ?_, fun j hj => ?_⟩
    · have z : ¬ (16 : Int32) ≤ nI i := nI_ge (b := 16) (by omega) (by omega)
      rw [zX3_copyFrom_k34, if_neg z, if_neg z, oI_n (by omega) (by omega), oI_n (by omega) (by omega), ix_n (by omega), nI_1]
      exact h1
    · rw [h2 j hj]
      by_cases z : i + 1 ≤ j
      · rw [if_pos z, if_pos (by omega)]
      · rw [if_neg z]
        by_cases z2 : j = i
        · subst z2; rw [upd_s, if_pos (Nat.le_refl _)]
        · rw [upd_n z2, if_neg (by omega)]
theorem cb_loop {f0 f1 f2 f3 f5 f6 f7 f8 f9 f10 f11 : Fn} : ∀ (m i fu : Nat) (b : Fn), i + m = 256 → m < fu → ∃ b', zX0_copyFrom_k24 fu f0 f1 f2 f3 b f5 f6 f7 f8 f9 f10 f11 (nI i) = zX0_copyFrom_k62 4096 f0 f1 f2 f3 b' f5 f6 f7 f8 f9 f10 f11 0 ∧ ∀ j, j < 256 → b' j = if i ≤ j then f10 j else b j := by
  intro m
  induction m with
  | zero =>
    intro i fu g hi hf
    obtain ⟨f, rfl⟩ : ∃ f, fu = f + 1 := ⟨fu - 1, by omega⟩
    refine ⟨g, ?_, fun j hj => by rw [if_neg (by omega)]⟩
    rw [zX0_copyFrom_k24, if_pos (show (256 : Int32) ≤ nI i from nI_le (a := 256) (by omega) (by omega))]
  | succ m ih =>
    intro i fu g hi hf
    obtain ⟨f, rfl⟩ : ∃ f, fu = f + 1 := ⟨fu - 1, by omega⟩
    obtain ⟨g', h1, h2⟩ := ih (i + 1) f (upd g i (f10 i)) (by omega) (by omega)
    refine ⟨g', ?_, fun j hj => ?_⟩
    · have z : ¬ (256 : Int32) ≤ nI i := nI_ge (b := 256) (by omega) (by omega)
      rw [zX0_copyFrom_k24, if_neg z, if_neg z, oI_n (by omega) (by omega), oI_n (by omega) (by omega), ix_n (by omega), nI_1]
      exact h1
    · rw [h2 j hj]
      by_cases z : i + 1 ≤ j
      · rw [if_pos z, if_pos (by omega)]
      · rw [if_neg z]
        by_cases z2 : j = i
        · subst z2; rw [upd_s, if_pos (Nat.le_refl _)]
        · rw [upd_n z2, if_neg (by omega)]
theorem ck_loop {f0 f1 f2 f3 f4 f6 f7 f8 f9 f10 f11 : Fn} (h01 : ∀ j, j < 8 → f11 j = 0 ∨ f11 j = 1) : ∀ (m i fu : Nat) (b : Fn), i + m = 8 → m < fu → ∃ b', zX0_copyFrom_k62 fu f0 f1 f2 f3 f4 b f6 f7 f8 f9 f10 f11 (nI i) = zX0_copyFrom_k98 f0 f1 f2 f3 f4 b' f6 f7 f8 f9 f10 f11 ∧ ∀ j, j < 8 → b' j = if i ≤ j then f11 j else b j := by
  intro m
  induction m with
  | zero =>
    intro i fu g hi hf
    obtain ⟨f, rfl⟩ : ∃ f, fu = f + 1 := ⟨fu - 1, by omega⟩
    refine ⟨g, ?_, fun j hj => by rw [if_neg (by omega)]⟩
    rw [zX0_copyFrom_k62, if_pos (show (8 : Int32) ≤ nI i from nI_le (a := 8) (by omega) (by omega))]
  | succ m ih =>
    intro i fu g hi hf
    obtain ⟨f, rfl⟩ : ∃ f, fu = f + 1 := ⟨fu - 1, by omega⟩
    obtain ⟨g', h1, h2⟩ := ih (i + 1) f (upd g i (f11 i)) (by omega) (by omega)
    refine ⟨g', ?_, fun j hj => ?_⟩
    · have z : ¬ (8 : Int32) ≤ nI i := nI_ge (b := 8) (by omega) (by omega)
      rw [zX0_copyFrom_k62, if_neg z, if_neg z, oI_n (by omega) (by omega), oI_n (by omega) (by omega), ix_n (by omega), oZ_b (h01 i (by omega)), nI_1]
      exact h1
    · rw [h2 j hj]
      by_cases z : i + 1 ≤ j
      · rw [if_pos z, if_pos (by omega)]
      · rw [if_neg z]
        by_cases z2 : j = i
        · subst z2; rw [upd_s, if_pos (Nat.le_refl _)]
        · rw [upd_n z2, if_neg (by omega)]
/-- a chip is copied -/
theorem copy_rel {n B : Nat} {c w g b k s : Fn} {f0 f1 f2 f3 f4 f5 sh : Fn} (h : ChR n B c w g b k s) : ∃ c' sh' w' g' b' k', zX0_copyFrom f0 f1 f2 f3 f4 f5 c sh w g b k = some (c', sh', w', g', b', k') ∧ (∀ i, i < 5 → sh' i = sh i) ∧ ∀ s', (∀ i, i < 306 → s' i = s i) → ChR n B c' w' g' b' k' s' := by
  have hC := h
  obtain ⟨-, hLk, hSc, -, -, ⟨-, w01⟩, -⟩ := h
  have hk01 : ∀ j, j < 8 → k j = 0 ∨ k j = 1 := fun j hj => (lockM hLk hj).2
  obtain ⟨g', g1, g2⟩ := cw_loop (f0 := upd (upd (upd (upd f2 0 (w 0)) 1 (w 1)) 2 (w 2)) 3 (w 3)) (f2 := w) (f3 := g) 16 0 4096 f3 (by omega) (by omega)
  obtain ⟨b', b1, b2⟩ := cb_loop (f0 := f0) (f1 := upd (upd (upd (upd (upd f1 0 (sh 0)) 1 (sh 1)) 2 (sh 2)) 3 (sh 3)) 4 (sh 4)) (f2 := upd (upd (upd (upd f2 0 (w 0)) 1 (w 1)) 2 (w 2)) 3 (w 3)) (f3 := g') (f5 := f5) (f6 := c) (f7 := sh) (f8 := w) (f9 := g) (f10 := b) (f11 := k) 256 0 4096 f4 (by omega) (by omega)
  obtain ⟨k', k1, k2⟩ := ck_loop (f0 := f0) (f1 := upd (upd (upd (upd (upd f1 0 (sh 0)) 1 (sh 1)) 2 (sh 2)) 3 (sh 3)) 4 (sh 4)) (f2 := upd (upd (upd (upd f2 0 (w 0)) 1 (w 1)) 2 (w 2)) 3 (w 3)) (f3 := g') (f4 := b') (f6 := c) (f7 := sh) (f8 := w) (f9 := g) (f10 := b) (f11 := k) hk01 8 0 4096 f5 (by omega) (by omega)
  have k1' : zX0_copyFrom_k62 4096 f0 (upd (upd (upd (upd (upd f1 0 (sh 0)) 1 (sh 1)) 2 (sh 2)) 3 (sh 3)) 4 (sh 4)) (upd (upd (upd (upd f2 0 (w 0)) 1 (w 1)) 2 (w 2)) 3 (w 3)) g' b' f5 c sh w g b k 0 = _ := k1
  have b1' : zX0_copyFrom_k24 4096 f0 (upd (upd (upd (upd (upd f1 0 (sh 0)) 1 (sh 1)) 2 (sh 2)) 3 (sh 3)) 4 (sh 4)) (upd (upd (upd (upd f2 0 (w 0)) 1 (w 1)) 2 (w 2)) 3 (w 3)) g' f4 f5 c sh w g b k 0 = _ := b1
  have g1' : zX3_copyFrom_k34 4096 (upd (upd (upd (upd f2 0 (w 0)) 1 (w 1)) 2 (w 2)) 3 (w 3)) f3 w g 0 = _ := g1
  obtain ⟨-, -, ⟨-, e6⟩, ⟨-, e7⟩, -, -, ⟨-, e15⟩⟩ := hSc
  have hcp : zX0_copyFrom f0 f1 f2 f3 f4 f5 c sh w g b k = some (upd (upd (upd (upd (upd (upd (upd (upd (upd (upd (upd (upd f0 4 (c 4)) 5 (c 5)) 6 (c 6)) 7 (c 7)) 8 (c 8)) 9 (c 9)) 10 (c 10)) 11 (c 11)) 12 (c 12)) 13 (c 13)) 14 (c 14)) 15 (c 15), upd (upd (upd (upd (upd f1 0 (sh 0)) 1 (sh 1)) 2 (sh 2)) 3 (sh 3)) 4 (sh 4), upd (upd (upd (upd f2 0 (w 0)) 1 (w 1)) 2 (w 2)) 3 (w 3), g', b', k') := by
    unfold zX0_copyFrom zX1_copyFrom zX3_copyFrom
    rw [oB_s, oZ_b w01, g1', oB_s, b1', k1']
    unfold zX0_copyFrom_k98
    rw [oZ_b e6, oZ_b e7, oZ_b e15]
  refine ⟨_, _, _, g', b', k', hcp, fun i hi => ?_, fun s' hs' => hC.ext (fun i i1 i2 => ?_) (fun i hi => ?_) (fun j hj => by rw [g2 j hj, if_pos (by omega)]) (fun a ha => by rw [b2 a ha, if_pos (by omega)]) (fun j hj => by rw [k2 j hj, if_pos (by omega)]) hs'⟩
  · rcases (show i = 0 ∨ i = 1 ∨ i = 2 ∨ i = 3 ∨ i = 4 by omega) with rfl | rfl | rfl | rfl | rfl <;> rfl
  · rcases (show i = 4 ∨ i = 5 ∨ i = 6 ∨ i = 7 ∨ i = 8 ∨ i = 9 ∨ i = 10 ∨ i = 11 ∨ i = 12 ∨ i = 13 ∨ i = 14 ∨ i = 15 by omega) with rfl | rfl | rfl | rfl | rfl | rfl | rfl | rfl | rfl | rfl | rfl | rfl <;> rfl
  · rcases (show i = 0 ∨ i = 1 ∨ i = 2 ∨ i = 3 by omega) with rfl | rfl | rfl | rfl <;> rfl
theorem keepM_loop {g0 s : Fn} {K : Nat} (hK : K ≤ 1) (h8 : g0 8 = nI K) : ∀ (m i fu : Nat) (g5 : Fn), i + m = 306 → m < fu → ∃ g5', zX5_keep_k13 fu g0 s g5 (nI i) = some (nI (K + 1), upd g0 8 (nI (K + 1)), g5') ∧ ∀ a, g5' a = if 306 * K + i ≤ a ∧ a < 306 * K + 306 then s (a - 306 * K) else g5 a := by
  intro m
  induction m with
  | zero =>
    intro i fu g hi hf
    obtain ⟨f, rfl⟩ : ∃ f, fu = f + 1 := ⟨fu - 1, by omega⟩
    refine ⟨g, ?_, fun j => by rw [if_neg (by omega)]⟩
    rw [zX5_keep_k13, if_pos (show (306 : Int32) ≤ nI i from nI_le (a := 306) (by omega) (by omega)), upd_s, h8, nI_1]
  | succ m ih =>
    intro i fu g hi hf
    obtain ⟨f, rfl⟩ : ∃ f, fu = f + 1 := ⟨fu - 1, by omega⟩
    obtain ⟨g', h1, h2⟩ := ih (i + 1) f (upd g (306 * K + i) (s i)) (by omega) (by omega)
    refine ⟨g', ?_, fun j => ?_⟩
    · have z : ¬ (306 : Int32) ≤ nI i := nI_ge (b := 306) (by omega) (by omega)
      rw [zX5_keep_k13, if_neg z, h8, show (306 : Int32) = nI 306 from rfl, pk_mul, nI_add, oI_n (by omega) (by omega), oI_n (by omega) (by omega), ix_n (show 306 * K + i < 2 ^ 31 by omega), ix_n (by omega), nI_1]
      exact h1
    · rw [h2 j]
      by_cases z2 : j = 306 * K + i
      · subst z2
        rw [upd_s, if_neg (by omega), if_pos (by omega)]
        exact congrArg s (by omega)
      · rw [upd_n z2]
        by_cases z : 306 * K + (i + 1) ≤ j ∧ j < 306 * K + 306
        · rw [if_pos z, if_pos (by omega)]
        · rw [if_neg z, if_neg (by omega)]
theorem backM_loop {g0 g5 : Fn} {K : Nat} (hK : K ≤ 1) (h8 : g0 8 = nI K) : ∀ (m i fu : Nat) (s : Fn), i + m = 306 → m < fu → ∃ s', zX5_back_k22 fu g0 s g5 (nI i) = some (nI K, g0, s') ∧ ∀ a, s' a = if i ≤ a ∧ a < 306 then g5 (306 * K + a) else s a := by
  intro m
  induction m with
  | zero =>
    intro i fu g hi hf
    obtain ⟨f, rfl⟩ : ∃ f, fu = f + 1 := ⟨fu - 1, by omega⟩
    refine ⟨g, ?_, fun j => by rw [if_neg (by omega)]⟩
    rw [zX5_back_k22, if_pos (show (306 : Int32) ≤ nI i from nI_le (a := 306) (by omega) (by omega)), h8]
  | succ m ih =>
    intro i fu g hi hf
    obtain ⟨f, rfl⟩ : ∃ f, fu = f + 1 := ⟨fu - 1, by omega⟩
    obtain ⟨g', h1, h2⟩ := ih (i + 1) f (upd g i (g5 (306 * K + i))) (by omega) (by omega)
    refine ⟨g', ?_, fun j => ?_⟩
    · have z : ¬ (306 : Int32) ≤ nI i := nI_ge (b := 306) (by omega) (by omega)
      rw [zX5_back_k22, if_neg z, h8, show (306 : Int32) = nI 306 from rfl, pk_mul, nI_add, oI_n (by omega) (by omega), oI_n (by omega) (by omega), ix_n (show 306 * K + i < 2 ^ 31 by omega), ix_n (by omega), nI_1]
      exact h1
    · rw [h2 j]
      by_cases z2 : j = i
      · subst z2
        rw [upd_s, if_neg (by omega), if_pos (by omega)]
      · rw [upd_n z2]
        by_cases z : i + 1 ≤ j ∧ j < 306
        · rw [if_pos z, if_pos (by omega)]
        · rw [if_neg z, if_neg (by omega)]
theorem TxR.m {t l m x m' : Fn} (h : TxR t l m x) (e : m' 0 = m 0) : TxR t l m' x := by unfold TxR; rw [e]; exact h
set_option maxHeartbeats 1000000 in
theorem op_keep {B : Nat} {f0 f1 f2 f3 f4 f5 f6 f7 f8 f9 f10 f11 f12 f13 f14 f15 f16 f17 f18 f19 f20 f21 g0 g1 g2 g3 g4 g5 : Fn} (hB : B ≤ 1000) (h : Rel B f0 f1 f2 f3 f4 f5 f6 f7 f8 f9 f10 f11 f12 f13 f14 f15 f16 f17 f18 f19 f20 f21 g0 g1 g2 g3 g4 g5) : ∃ (r : Int32) (f0' : Fn) (f10' : Fn) (f11' : Fn) (f12' : Fn) (f13' : Fn) (f14' : Fn) (f15' : Fn) (f16' : Fn) (f17' : Fn) (f18' : Fn) (f19' : Fn) (f20' : Fn) (f21' : Fn) (g0' : Fn) (g5' : Fn), zX4_keep f0 f4 f5 f6 f7 f8 f9 f10 f11 f12 f13 f14 f15 f16 f17 f18 f19 f20 f21 = some (r, f0', f10', f11', f12', f13', f14', f15', f16', f17', f18', f19', f20', f21') ∧ zX5_keep g0 g4 g5 = some (r, g0', g5') ∧ Rel (B + 1) f0' f1 f2 f3 f4 f5 f6 f7 f8 f9 f10' f11' f12' f13' f14' f15' f16' f17' f18' f19' f20' f21' g0' g1 g2 g3 g4 g5' := by
  have hup := h.up
  obtain ⟨hT, p, q, n, t, e, hS, hg, hC, K, hK, k1, k2, k3, k4⟩ := hup
  unfold zX4_keep zX5_keep zX4_lastKept
  rw [k1, k2]
  rcases (show K = 0 ∨ K = 1 ∨ K = 2 by omega) with rfl | rfl | rfl
  · obtain ⟨c', sh', w', g', b', k', q1, q2, q3⟩ := copy_rel (f0 := f10) (f1 := f11) (f2 := f12) (f3 := f13) (f4 := f14) (f5 := f15) (sh := f5) hC
    obtain ⟨g5', m1, m2⟩ := keepM_loop (s := g4) (K := 0) (by omega) k2 306 0 4096 g5 (by omega) (by omega)
    refine ⟨nI 1, upd f0 4 (nI 1), c', sh', w', g', b', k', f16, f17, f18, f19, f20, f21, upd g0 8 (nI 1), g5', ?_, ?_, hT.m (upd_n (by omega)), p, q, n, t, e, hS, hg, hC, 1, by omega, upd_s, upd_s, fun _ => ⟨q2, q3 _ (fun i hi => ?_)⟩, fun z => absurd z (by omega)⟩
    · rw [if_pos (by decide), show nI 0 + 1 = nI 1 from rfl, upd_s, if_pos (by decide), oB_s, if_pos rfl, q1, oB_s]
    · rw [if_neg (by decide)]
      exact m1
    · rw [m2 i, if_pos (by omega)]
      exact congrArg g4 (by omega)
  · obtain ⟨c', sh', w', g', b', k', q1, q2, q3⟩ := copy_rel (f0 := f16) (f1 := f17) (f2 := f18) (f3 := f19) (f4 := f20) (f5 := f21) (sh := f5) hC
    obtain ⟨g5', m1, m2⟩ := keepM_loop (s := g4) (K := 1) (by omega) k2 306 0 4096 g5 (by omega) (by omega)
    refine ⟨nI 2, upd f0 4 (nI 2), f10, f11, f12, f13, f14, f15, c', sh', w', g', b', k', upd g0 8 (nI 2), g5', ?_, ?_, hT.m (upd_n (by omega)), p, q, n, t, e, hS, hg, hC, 2, by omega, upd_s, upd_s, fun _ => ⟨(k3 (by omega)).1, (k3 (by omega)).2.ext (fun _ _ _ => rfl) (fun _ _ => rfl) (fun _ _ => rfl) (fun _ _ => rfl) (fun _ _ => rfl) (fun i hi => ?_)⟩, fun _ => ⟨q2, q3 _ (fun i hi => ?_)⟩⟩
    · rw [if_pos (by decide), show nI 1 + 1 = nI 2 from rfl, upd_s, if_neg (by decide), oB_s, if_neg (by decide), q1, oB_s]
    · rw [if_neg (by decide)]
      exact m1
    · rw [m2 i, if_neg (by omega)]
    · show g5' (306 + i) = g4 i
      rw [m2, if_pos (by omega)]
      exact congrArg g4 (by omega)
  · exact ⟨-3, f0, f10, f11, f12, f13, f14, f15, f16, f17, f18, f19, f20, f21, g0, g5, rfl, rfl, h.up⟩
set_option maxHeartbeats 1000000 in
theorem op_back {B : Nat} {f0 f1 f2 f3 f4 f5 f6 f7 f8 f9 f10 f11 f12 f13 f14 f15 f16 f17 f18 f19 f20 f21 g0 g1 g2 g3 g4 g5 : Fn} (hB : B ≤ 1000) (h : Rel B f0 f1 f2 f3 f4 f5 f6 f7 f8 f9 f10 f11 f12 f13 f14 f15 f16 f17 f18 f19 f20 f21 g0 g1 g2 g3 g4 g5) : ∃ (r : Int32) (f0' : Fn) (f4' : Fn) (f5' : Fn) (f6' : Fn) (f7' : Fn) (f8' : Fn) (f9' : Fn) (g0' : Fn) (g4' : Fn), zX4_back f0 f4 f5 f6 f7 f8 f9 f10 f11 f12 f13 f14 f15 f16 f17 f18 f19 f20 f21 = some (r, f0', f4', f5', f6', f7', f8', f9') ∧ zX5_back g0 g4 g5 = some (r, g0', g4') ∧ Rel (B + 1) f0' f1 f2 f3 f4' f5' f6' f7' f8' f9' f10 f11 f12 f13 f14 f15 f16 f17 f18 f19 f20 f21 g0' g1 g2 g3 g4' g5 := by
  have hup := h.up
  obtain ⟨hT, p, q, n, t, e, hS, hg, hC, K, hK, k1, k2, k3, k4⟩ := hup
  have hsh : ∀ {sh : Fn}, (∀ i, i < 5 → sh i = f5 i) → Shp sh p q n t e := fun {sh} hs => by
    unfold Shp
    rw [hs 0 (by omega), hs 1 (by omega), hs 2 (by omega), hs 3 (by omega), hs 4 (by omega)]
    exact hS
  unfold zX4_back zX5_back zX4_lastKept
  rw [k1, k2]
  rcases (show K = 0 ∨ K = 1 ∨ K = 2 by omega) with rfl | rfl | rfl
  · exact ⟨-2, f0, f4, f5, f6, f7, f8, f9, g0, g4, rfl, rfl, h.up⟩
  · obtain ⟨c', sh', w', g', b', k', q1, q2, q3⟩ := copy_rel (f0 := f4) (f1 := f5) (f2 := f6) (f3 := f7) (f4 := f8) (f5 := f9) (sh := f11) (k3 (by omega)).2
    obtain ⟨s', m1, m2⟩ := backM_loop (g0 := upd g0 8 (nI 0)) (g5 := g5) (K := 0) (by omega) upd_s 306 0 4096 g4 (by omega) (by omega)
    have e5 : ∀ i, i < 5 → sh' i = f5 i := fun i hi => (q2 i hi).trans ((k3 (by omega)).1 i hi)
    refine ⟨nI 0, upd f0 4 (nI 0), c', sh', w', g', b', k', upd g0 8 (nI 0), s', ?_, ?_, hT.m (upd_n (by omega)), p, q, n, t, e, hsh e5, fun i hi => (hg i hi).trans (e5 i hi).symm, q3 _ (fun i hi => ?_), 0, by omega, upd_s, upd_s, fun z => absurd z (by omega), fun z => absurd z (by omega)⟩
    · rw [if_pos (by decide), if_pos (by decide), oB_s, if_pos rfl, q1, oB_s, show nI 1 - 1 = nI 0 by decide, upd_s]
    · rw [if_neg (by decide), show nI 1 - 1 = nI 0 by decide]
      exact m1
    · rw [m2 i, if_pos (by omega)]
      exact congrArg g5 (by omega)
  · obtain ⟨c', sh', w', g', b', k', q1, q2, q3⟩ := copy_rel (f0 := f4) (f1 := f5) (f2 := f6) (f3 := f7) (f4 := f8) (f5 := f9) (sh := f17) (k4 (by omega)).2
    obtain ⟨s', m1, m2⟩ := backM_loop (g0 := upd g0 8 (nI 1)) (g5 := g5) (K := 1) (by omega) upd_s 306 0 4096 g4 (by omega) (by omega)
    have e5 : ∀ i, i < 5 → sh' i = f5 i := fun i hi => (q2 i hi).trans ((k4 (by omega)).1 i hi)
    refine ⟨nI 1, upd f0 4 (nI 1), c', sh', w', g', b', k', upd g0 8 (nI 1), s', ?_, ?_, hT.m (upd_n (by omega)), p, q, n, t, e, hsh e5, fun i hi => (hg i hi).trans (e5 i hi).symm, q3 _ (fun i hi => ?_), 1, by omega, upd_s, upd_s, fun _ => ⟨fun i hi => ((k3 (by omega)).1 i hi).trans (e5 i hi).symm, (k3 (by omega)).2⟩, fun z => absurd z (by omega)⟩
    · rw [if_pos (by decide), if_neg (by decide), oB_s, if_neg (by decide), q1, oB_s, show nI 2 - 1 = nI 1 by decide, upd_s]
    · rw [if_neg (by decide), show nI 2 - 1 = nI 1 by decide]
      exact m1
    · show s' i = g5 (306 + i)
      rw [m2 i, if_pos (by omega)]
