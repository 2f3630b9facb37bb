/-! ===== count, sector, unlike ===== -/
theorem ne_lit {u : Int32} {a : Nat} (ha : a < 2 ^ 31) : u = nI a ∨ ¬ u = nI a := Decidable.em _
set_option maxRecDepth 100000 in
set_option maxHeartbeats 2000000 in
theorem op_count {B : Nat} {f0 f1 f2 f3 f4 f5 f6 f7 f8 f9 f10 f11 f12 f13 f14 f15 f16 f17 f18 f19 f20 f21 g0 g1 g2 g3 g4 g5 : Fn} (hB : B ≤ 1000) (h : Rel B f0 f1 f2 f3 f4 f5 f6 f7 f8 f9 f10 f11 f12 f13 f14 f15 f16 f17 f18 f19 f20 f21 g0 g1 g2 g3 g4 g5) (u1 : Int32) : ∃ (r : Int32), zX4_count f0 f1 f4 f5 f6 u1 = some r ∧ zX5_count g0 g2 g4 u1 = some r ∧ Rel (B + 1) f0 f1 f2 f3 f4 f5 f6 f7 f8 f9 f10 f11 f12 f13 f14 f15 f16 f17 f18 f19 f20 f21 g0 g1 g2 g3 g4 g5 := by
  have hup := h.up
  obtain ⟨⟨L, hL, t1, t2, -⟩, p, q, n, t, e, hS, hg, ⟨-, -, hSc, hBu, hSu, hWi⟩, K, hK, k1, k2, -⟩ := h
  have hn8 : n ≤ 8 := hS.2.2.2.2.2.2.2.1.2
  obtain ⟨r7, -, r7a, r7b⟩ := status_rel hSc hBu hSu hn8
  obtain ⟨⟨l, hl, l1, l2⟩, -, -, -, a13, a14, -⟩ := hSc
  have hall := allX hS
  have hallm := allM hS hg
  obtain ⟨⟨w1, w2⟩, k, kB, w3, w4, w5, -⟩ := hWi
  unfold zX4_count zX5_count
  by_cases c0 : u1 = 0
  · exact ⟨nI (p * q * n), by rw [if_pos c0, hall]; rfl, by rw [if_pos c0, hallm]; rfl, hup⟩
  by_cases c1 : u1 = 1
  · refine ⟨f5 0, ?_, ?_, hup⟩
    · subst c1; rfl
    · subst c1; exact congrArg some (hg 0 (by omega))
  by_cases c2 : u1 = 2
  · refine ⟨f5 1, ?_, ?_, hup⟩
    · subst c2; rfl
    · subst c2; exact congrArg some (hg 1 (by omega))
  by_cases c3 : u1 = 3
  · refine ⟨f5 2, ?_, ?_, hup⟩
    · subst c3; rfl
    · subst c3; exact congrArg some (hg 2 (by omega))
  by_cases c4 : u1 = 4
  · refine ⟨f5 3, ?_, ?_, hup⟩
    · subst c4; rfl
    · subst c4; exact congrArg some (hg 3 (by omega))
  by_cases c5 : u1 = 5
  · refine ⟨f5 4, ?_, ?_, hup⟩
    · subst c5; rfl
    · subst c5; exact congrArg some (hg 4 (by omega))
  rw [if_neg c0, if_neg c1, if_neg c2, if_neg c3, if_neg c4, if_neg c5, if_neg c0, if_neg c1, if_neg c2, if_neg c3, if_neg c4, if_neg c5]
  by_cases c6 : u1 = 6
  · refine ⟨isl 1 (f4 4), by rw [if_pos c6]; rfl, by rw [if_pos c6, l1, l2], hup⟩
  rw [if_neg c6, if_neg c6]
  by_cases c7 : u1 = 7
  · exact ⟨nI r7, by rw [if_pos c7, r7a]; rfl, by rw [if_pos c7, r7b]; rfl, hup⟩
  rw [if_neg c7, if_neg c7]
  by_cases c8 : u1 = 8
  · exact ⟨f4 13, by rw [if_pos c8]; rfl, by rw [if_pos c8, a13], hup⟩
  rw [if_neg c8, if_neg c8]
  by_cases c9 : u1 = 9
  · rw [if_pos c9, if_pos c9]
    unfold zX0_ticksLeft zX0_isBusy
    rcases hBu with ⟨b1, b2⟩ | ⟨b0, v, v1, v2, v3, v4⟩
    · rcases hSu with ⟨s1, s2, s3⟩ | ⟨j, v, hj, v1, v2, s1, s2, s3, s4⟩
      · refine ⟨0, ?_, ?_, hup⟩
        · rw [if_pos b1, oB_s, if_pos rfl, s3]; rfl
        · rw [b2, s2]; rfl
      · refine ⟨nI v, ?_, ?_, hup⟩
        · rw [if_pos b1, oB_s, if_pos rfl, s3]; rfl
        · simp only [b2, s2, s4, lit_n]
          simp (disch := omega) only [nI_leI, if_pos, if_neg]
    · refine ⟨nI v, ?_, ?_, hup⟩
      · have : ¬ f4 8 = -1 := by
          rcases b0 with ⟨z, -⟩ | ⟨z, -⟩ | ⟨z, -⟩ <;> rw [z] <;> decide
        rw [if_neg this, oB_s, if_neg (by decide), v3]; rfl
      · have : ∃ j, 1 ≤ j ∧ j ≤ 3 ∧ g4 293 = nI j := by
          rcases b0 with ⟨-, z⟩ | ⟨-, z, -⟩ | ⟨-, z⟩
          · exact ⟨1, by omega, by omega, z⟩
          · exact ⟨2, by omega, by omega, z⟩
          · exact ⟨3, by omega, by omega, z⟩
        obtain ⟨j, j1, j2, j3⟩ := this
        simp only [j3, v4, lit_n]
        simp (disch := omega) only [nI_leI, if_neg]
  rw [if_neg c9, if_neg c9]
  by_cases c10 : u1 = 10
  · rw [if_pos c10, if_pos c10]
    refine ⟨nI k, ?_, ?_, hup⟩
    · unfold zX0_puts zX3_puts
      rw [w3]; rfl
    · rcases w2 with z | z
      · rw [← w1, z, if_neg (by decide), w5 z]; rfl
      · rw [← w1, z, if_pos rfl, w4]
  rw [if_neg c10, if_neg c10]
  by_cases c11 : u1 = 11
  · exact ⟨nI K, by rw [if_pos c11, k1], by rw [if_pos c11, k2], hup⟩
  rw [if_neg c11, if_neg c11]
  by_cases c12 : u1 = 12
  · exact ⟨nI L, by rw [if_pos c12]; unfold zX2_length; rw [t1]; rfl, by rw [if_pos c12, t2], hup⟩
  rw [if_neg c12, if_neg c12]
  by_cases c13 : u1 = 13
  · exact ⟨f4 14, by rw [if_pos c13]; rfl, by rw [if_pos c13, a14], hup⟩
  exact ⟨-1, by rw [if_neg c13], by rw [if_neg c13], hup⟩
/-- how many of i bytes from st on are blank; their sum; how many are unlike -/
def blk (b : Fn) (st : Nat) : Nat → Int32
  | 0 => 0
  | i + 1 => if b (st + i) = 255 then blk b st i + 1 else blk b st i
def smk (b : Fn) (st : Nat) : Nat → Int32
  | 0 => 0
  | i + 1 => smk b st i + b (st + i)
def ulk (b b2 : Fn) : Nat → Int32
  | 0 => 0
  | i + 1 => if b i = b2 i then ulk b b2 i else ulk b b2 i + 1
theorem blk_c {b s : Fn} {st : Nat} (h : ∀ a, a < 256 → b a = s a) : ∀ i, st + i ≤ 256 → blk b st i = blk s st i := by
  intro i
  induction i with
  | zero => intro _; rfl
  | succ i ih => intro hi; simp only [blk]; rw [ih (by omega), h _ (by omega)]
theorem smk_c {b s : Fn} {st : Nat} (h : ∀ a, a < 256 → b a = s a) : ∀ i, st + i ≤ 256 → smk b st i = smk s st i := by
  intro i
  induction i with
  | zero => intro _; rfl
  | succ i ih => intro hi; simp only [smk]; rw [ih (by omega), h _ (by omega)]
theorem ulk_c {b s b2 s2 : Fn} (h : ∀ a, a < 256 → b a = s a) (h2 : ∀ a, a < 256 → b2 a = s2 a) : ∀ i, i ≤ 256 → ulk b b2 i = ulk s s2 i := by
  intro i
  induction i with
  | zero => intro _; rfl
  | succ i ih => intro hi; simp only [ulk]; rw [ih (by omega), h _ (by omega), h2 _ (by omega)]
theorem blanks_loop {sh b : Fn} {p q n t e st : Nat} (hS : Shp sh p q n t e) (hst : st + p * q ≤ 256) : ∀ m i fu : Nat, i + m = p * q → m < fu → zX0_blanksIn_k15 fu sh b (blk b st i) (nI st) (nI i) = some (blk b st (p * q)) := by
  have hb := hS.b
  intro m
  induction m with
  | zero =>
    intro i fu hi hf
    obtain ⟨f, rfl⟩ : ∃ f, fu = f + 1 := ⟨fu - 1, by omega⟩
    have : i = p * q := by omega
    subst this
    rw [zX0_blanksIn_k15, secB hS, oB_s, if_pos (nI_le (Nat.le_refl _) (by omega))]
  | succ m ih =>
    intro i fu hi hf
    obtain ⟨f, rfl⟩ : ∃ f, fu = f + 1 := ⟨fu - 1, by omega⟩
    rw [zX0_blanksIn_k15, secB hS, oB_s, if_neg (nI_ge (by omega) (by omega)), nI_add, byX (by omega), oB_s, nI_1]
    have := ih (i + 1) f (by omega) (by omega)
    simp only [blk] at this
    by_cases c : b (st + i) = 255
    · rw [if_pos c] at this ⊢
      exact this
    · rw [if_neg c] at this ⊢
      exact this
theorem sum_loop {sh b : Fn} {p q n t e st : Nat} (hS : Shp sh p q n t e) (hst : st + p * q ≤ 256) : ∀ m i fu : Nat, i + m = p * q → m < fu → zX0_sumOf_k15 fu sh b (smk b st i) (nI st) (nI i) = some (smk b st (p * q)) := by
  have hb := hS.b
  intro m
  induction m with
  | zero =>
    intro i fu hi hf
    obtain ⟨f, rfl⟩ : ∃ f, fu = f + 1 := ⟨fu - 1, by omega⟩
    have : i = p * q := by omega
    subst this
    rw [zX0_sumOf_k15, secB hS, oB_s, if_pos (nI_le (Nat.le_refl _) (by omega))]
  | succ m ih =>
    intro i fu hi hf
    obtain ⟨f, rfl⟩ : ∃ f, fu = f + 1 := ⟨fu - 1, by omega⟩
    rw [zX0_sumOf_k15, secB hS, oB_s, if_neg (nI_ge (by omega) (by omega)), nI_add, byX (by omega), oB_s, nI_1]
    exact ih (i + 1) f (by omega) (by omega)
theorem unlike_loop {sh b b2 : Fn} {p q n t e : Nat} (hS : Shp sh p q n t e) : ∀ m i fu : Nat, i + m = p * q * n → m < fu → zX0_bytesOtherThanIn_k4 fu sh b b2 (ulk b b2 i) (nI i) = some (ulk b b2 (p * q * n)) := by
  have hb := hS.b
  intro m
  induction m with
  | zero =>
    intro i fu hi hf
    obtain ⟨f, rfl⟩ : ∃ f, fu = f + 1 := ⟨fu - 1, by omega⟩
    have : i = p * q * n := by omega
    subst this
    rw [zX0_bytesOtherThanIn_k4, allX hS, oB_s, if_pos (nI_le (Nat.le_refl _) (by omega))]
  | succ m ih =>
    intro i fu hi hf
    obtain ⟨f, rfl⟩ : ∃ f, fu = f + 1 := ⟨fu - 1, by omega⟩
    rw [zX0_bytesOtherThanIn_k4, allX hS, oB_s, if_neg (nI_ge (by omega) (by omega)), byX (by omega), byX (by omega), oB_s, oB_s, nI_1]
    have := ih (i + 1) f (by omega) (by omega)
    simp only [ulk] at this
    by_cases c : b i = b2 i
    · rw [if_pos c] at this ⊢
      exact this
    · rw [if_neg c] at this ⊢
      exact this
theorem unlikeM_loop {sh g0 g2 s g5 : Fn} {p q n t e K : Nat} (hS : Shp sh p q n t e) (hg : ∀ i, i < 5 → g2 i = sh i) (hK : 1 ≤ K ∧ K ≤ 2) (h8 : g0 8 = nI K) : ∀ m i fu : Nat, i + m = p * q * n → m < fu → zX5_unlike_k14 fu g0 g2 s g5 (ulk s (fun a => g5 (306 * (K - 1) + a)) i) (nI i) = some (ulk s (fun a => g5 (306 * (K - 1) + a)) (p * q * n)) := by
  have hb := hS.b
  intro m
  induction m with
  | zero =>
    intro i fu hi hf
    obtain ⟨f, rfl⟩ : ∃ f, fu = f + 1 := ⟨fu - 1, by omega⟩
    have : i = p * q * n := by omega
    subst this
    rw [zX5_unlike_k14, allM hS hg, oB_s, if_pos (nI_le (Nat.le_refl _) (by omega))]
  | succ m ih =>
    intro i fu hi hf
    obtain ⟨f, rfl⟩ : ∃ f, fu = f + 1 := ⟨fu - 1, by omega⟩
    rw [zX5_unlike_k14, allM hS hg, oB_s, if_neg (nI_ge (by omega) (by omega))]
    simp only [h8, lit_n]
    simp (disch := omega) only [pk_sub, pk_mul, nI_add, oI_n, ix_n]
    have := ih (i + 1) f (by omega) (by omega)
    simp only [ulk] at this
    by_cases c : s i = g5 (306 * (K - 1) + i)
    · rw [if_pos c] at this ⊢
      rw [show ulk s (fun a => g5 (306 * (K - 1) + a)) i + nI 0 = ulk s (fun a => g5 (306 * (K - 1) + a)) i from Int32.add_zero _]
      exact this
    · rw [if_neg c] at this ⊢
      exact this
