/-! ===== shapes; bytes looked at ===== -/
theorem Shp.b {sh : Fn} {p q n t e : Nat} (h : Shp sh p q n t e) : 8 ≤ p * q ∧ p * q ≤ 128 ∧ p * q * 2 ≤ p * q * n ∧ p * q * n ≤ 256 ∧ 4 ≤ p ∧ p ≤ 16 ∧ 2 ≤ q ∧ q ≤ 8 := by
  obtain ⟨-, -, -, -, -, hp, hq, hn, ha, -, -⟩ := h
  rcases hp with rfl | rfl | rfl <;> rcases hq with rfl | rfl | rfl <;> omega
theorem secB {sh : Fn} {p q n t e : Nat} (h : Shp sh p q n t e) : zX1_sectorBytes sh = some (nI (p * q)) := by
  unfold zX1_sectorBytes
  rw [h.1, h.2.1, pk_mul]
theorem allX {sh : Fn} {p q n t e : Nat} (h : Shp sh p q n t e) : zX0_all sh = some (nI (p * q * n)) := by
  unfold zX0_all zX1_all
  rw [oB_s, h.1, h.2.1, h.2.2.1, pk_mul, pk_mul]
theorem secM {sh g : Fn} {p q n t e : Nat} (h : Shp sh p q n t e) (hg : ∀ i, i < 5 → g i = sh i) : zX5_sectorSize g = some (nI (p * q)) := by
  unfold zX5_sectorSize
  rw [hg 0 (by omega), hg 1 (by omega), h.1, h.2.1, pk_mul]
theorem allM {sh g : Fn} {p q n t e : Nat} (h : Shp sh p q n t e) (hg : ∀ i, i < 5 → g i = sh i) : zX5_all g = some (nI (p * q * n)) := by
  unfold zX5_all
  rw [hg 0 (by omega), hg 1 (by omega), hg 2 (by omega), h.1, h.2.1, h.2.2.1, pk_mul, pk_mul]
theorem byX {b : Fn} {a : Nat} (h : a < 256) : zX0_byteAt b (nI a) = some (b a) := by
  unfold zX0_byteAt
  simp only [lit_n]
  simp (disch := omega) only [nI_ltI, nI_leI, if_neg, oI_n, ix_n]
theorem remX {a d : Nat} (ha : a < 2 ^ 31) (h0 : 0 < d) (hd : d < 2 ^ 31) : zX4_remainder (nI a) (nI d) = some (nI (a % d)) := by
  unfold zX4_remainder
  simp only [lit_n]
  simp (disch := omega) only [nI_leI, if_neg, oD_n, irm_n]
theorem quoX {a d : Nat} (ha : a < 2 ^ 31) (h0 : 0 < d) (hd : d < 2 ^ 31) : zX4_quotient (nI a) (nI d) = some (nI (a / d)) := by
  unfold zX4_quotient
  simp only [lit_n]
  simp (disch := omega) only [nI_leI, if_neg, oD_n, pk_div]
theorem op_at {B : Nat} {f0 f1 f2 f3 f4 f5 f6 f7 f8 f9 f10 f11 f12 f13 f14 f15 f16 f17 f18 f19 f20 f21 g0 g1 g2 g3 g4 g5 : Fn} (hB : B ≤ 1000) (h : Rel B f0 f1 f2 f3 f4 f5 f6 f7 f8 f9 f10 f11 f12 f13 f14 f15 f16 f17 f18 f19 f20 f21 g0 g1 g2 g3 g4 g5) (u1 : Int32) : ∃ (r : Int32), zX4_at f5 f8 u1 = some r ∧ zX5_at g2 g4 u1 = some r ∧ Rel (B + 1) f0 f1 f2 f3 f4 f5 f6 f7 f8 f9 f10 f11 f12 f13 f14 f15 f16 f17 f18 f19 f20 f21 g0 g1 g2 g3 g4 g5 := by
  have hup := h.up
  obtain ⟨-, p, q, n, t, e, hS, hg, hC, -⟩ := h
  have hb := hS.b
  unfold zX4_at zX5_at
  rw [allX hS, allM hS hg, oB_s, oB_s, L0, in_spec]
  simp only [lit_n]
  by_cases c1 : u1 < nI 0
  · exact ⟨-1, by rw [if_pos c1]; rfl, by rw [if_pos c1]; rfl, hup⟩
  · obtain ⟨a, ha, rfl⟩ := nI_of c1
    by_cases c2 : a < p * q * n
    · refine ⟨f8 a, ?_, ?_, hup⟩
      · simp (disch := omega) only [nI_ltI, if_neg, if_pos, byX, oB_s]
      · simp (disch := omega) only [pk_sub, nI_ltI, if_neg, oB_s, nI_eq, oI_n, ix_n]
        rw [(hC.1 a (by omega)).1]
    · refine ⟨-1, ?_, ?_, hup⟩
      · simp (disch := omega) only [nI_ltI, if_neg]
        rfl
      · simp (disch := omega) only [pk_sub, nI_ltI, if_neg, if_pos, oB_s]
        rfl
set_option maxRecDepth 100000 in
theorem tabX {sh : Fn} {p q n t e : Nat} (h : Shp sh p q n t e) {g : Fn} (hg : ∀ i, i < 5 → g i = sh i) {a : Nat} (ha : a < 8) : ∃ r, r < 256 ∧ zX1_tableByte sh (nI a) = some (nI r) ∧ zX5_tableAt g (nI a) = some (nI r) := by
  obtain ⟨s0, s1, s2, s3, s4, hp, hq, hn, hall, ht, he⟩ := h
  have hp2 : p ≤ 16 := by omega
  have hq2 : q ≤ 8 := by omega
  have h0 := (hg 0 (by omega)).trans s0
  have h1 := (hg 1 (by omega)).trans s1
  have h2 := (hg 2 (by omega)).trans s2
  have h3 := (hg 3 (by omega)).trans s3
  have h4 := (hg 4 (by omega)).trans s4
  unfold zX1_tableByte zX5_tableAt zX1_together zX5_sumOf
  simp only [lit_n, s0, s1, s2, s3, s4, h0, h1, h2, h3, h4]
  rcases (show a = 0 ∨ a = 1 ∨ a = 2 ∨ a = 3 ∨ a = 4 ∨ a = 5 ∨ a = 6 ∨ a = 7 by omega) with rfl | rfl | rfl | rfl | rfl | rfl | rfl | rfl
  · exact ⟨83, by omega, rfl, rfl⟩
  · exact ⟨70, by omega, rfl, rfl⟩
  · refine ⟨p, by omega, ?_, ?_⟩ <;> simp (disch := omega) only [nI_eq, nI_leI, if_neg, pk_sub, oI_n, ix_n, ↓reduceIte, Nat.reduceSub, h0]
  · refine ⟨q, by omega, ?_, ?_⟩ <;> simp (disch := omega) only [nI_eq, nI_leI, if_neg, pk_sub, oI_n, ix_n, ↓reduceIte, Nat.reduceSub, h1]
  · refine ⟨n, by omega, ?_, ?_⟩ <;> simp (disch := omega) only [nI_eq, nI_leI, if_neg, pk_sub, oI_n, ix_n, ↓reduceIte, Nat.reduceSub, h2]
  · refine ⟨t, by omega, ?_, ?_⟩ <;> simp (disch := omega) only [nI_eq, nI_leI, if_neg, pk_sub, oI_n, ix_n, ↓reduceIte, Nat.reduceSub, h3]
  · refine ⟨e, by omega, ?_, ?_⟩ <;> simp (disch := omega) only [nI_eq, nI_leI, if_neg, pk_sub, oI_n, ix_n, ↓reduceIte, Nat.reduceSub, h4]
  · refine ⟨153 + (p + q + n + t + e), by omega, ?_, ?_⟩
    · simp (disch := omega) only [nI_eq, if_neg, ↓reduceIte, nI_add, oB_s]
      rw [pk_andN (k := 8) (by omega) (by decide), Nat.mod_eq_of_lt (by omega)]
    · simp (disch := omega) only [nI_eq, nI_leI, if_neg, if_pos, ↓reduceIte, nI_add, oB_s, irm_n]
      rw [Nat.mod_eq_of_lt (by omega)]
theorem op_table {B : Nat} {f0 f1 f2 f3 f4 f5 f6 f7 f8 f9 f10 f11 f12 f13 f14 f15 f16 f17 f18 f19 f20 f21 g0 g1 g2 g3 g4 g5 : Fn} (hB : B ≤ 1000) (h : Rel B f0 f1 f2 f3 f4 f5 f6 f7 f8 f9 f10 f11 f12 f13 f14 f15 f16 f17 f18 f19 f20 f21 g0 g1 g2 g3 g4 g5) (u1 : Int32) : ∃ (r : Int32), zX4_table f5 u1 = some r ∧ zX5_table g2 u1 = some r ∧ Rel (B + 1) f0 f1 f2 f3 f4 f5 f6 f7 f8 f9 f10 f11 f12 f13 f14 f15 f16 f17 f18 f19 f20 f21 g0 g1 g2 g3 g4 g5 := by
  have hup := h.up
  obtain ⟨-, p, q, n, t, e, hS, hg, hC, -⟩ := h
  unfold zX4_table zX5_table zX0_shape
  rw [L0, L7, in_spec]
  simp only [lit_n]
  by_cases c1 : u1 < nI 0
  · exact ⟨-1, by rw [if_pos c1]; rfl, by rw [if_pos c1]; rfl, hup⟩
  · obtain ⟨a, ha, rfl⟩ := nI_of c1
    by_cases c2 : a < 8
    · obtain ⟨r, -, r1, r2⟩ := tabX hS hg c2
      refine ⟨nI r, ?_, ?_, hup⟩
      · simp (disch := omega) only [nI_ltI, if_neg, if_pos, oB_s, r1]
      · simp (disch := omega) only [nI_ltI, if_neg, oB_s, nI_eq, r2]
    · refine ⟨-1, ?_, ?_, hup⟩
      · simp (disch := omega) only [nI_ltI, if_neg]
        rfl
      · simp (disch := omega) only [nI_ltI, if_neg, if_pos, oB_s]
        rfl
