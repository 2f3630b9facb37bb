/-! ===== write, wipe ===== -/
set_option maxRecDepth 100000 in
theorem op_write {B : Nat} {f0 f1 f2 f3 f4 f5 f6 f7 f8 f9 f10 f11 f12 f13 f14 f15 f16 f17 f18 f19 f20 f21 g0 g1 g2 g3 g4 g5 : Fn} (hB : B ≤ 1000) (h : Rel B f0 f1 f2 f3 f4 f5 f6 f7 f8 f9 f10 f11 f12 f13 f14 f15 f16 f17 f18 f19 f20 f21 g0 g1 g2 g3 g4 g5) (u1 : Int32) : ∃ (r : Int32) (f1' : Fn) (f2' : Fn) (g0' : Fn) (g1' : Fn), zX4_write f1 f2 u1 = some (r, f1', f2') ∧ zX5_write g0 g1 u1 = some (r, g0', g1') ∧ Rel (B + 1) f0 f1' f2' f3 f4 f5 f6 f7 f8 f9 f10 f11 f12 f13 f14 f15 f16 f17 f18 f19 f20 f21 g0' g1' g2 g3 g4 g5 := by
  have hup := h.up
  obtain ⟨L, hL, h1, h2, h3⟩ := h.1
  unfold zX4_write zX5_write
  rw [L32, L126, in_spec]
  by_cases c1 : u1 < 32
  · refine ⟨-1, f1, f2, g0, g1, by rw [if_pos c1], by rw [if_pos c1]; rfl, hup⟩
  · by_cases c2 : u1 ≤ 126
    · have c2' : ¬ (126 : Int32) < u1 := Int32.not_lt.mpr c2
      rw [if_neg c1, if_pos c2, if_neg c1, if_neg c2', oB_s, if_neg (show ¬ (1 : Int32) = 0 by decide)]
      unfold zX2_append zX2_length
      by_cases c3 : L < 200
      · refine ⟨nI (L + 1), upd f1 1 (nI (L + 1)), upd f2 L u1, upd g0 0 (nI (L + 1)), upd g1 L u1, ?_, ?_, ?_⟩
        · simp only [h1, lit_n]
          simp (disch := omega) only [nI_ltI, nI_eq, if_pos, if_neg, oI_n, upd_s, nI_add, oB_s, ix_n]
        · simp only [h2, lit_n]
          simp (disch := omega) only [nI_eq, if_neg, oI_n, upd_s, nI_add, ix_n]
        · obtain ⟨_, p, q, n, t, e, k1, k2, k3, K, k4, k5, k6, k7⟩ := hup
          have v : ∃ v, 32 ≤ v ∧ v ≤ 126 ∧ u1 = nI v := by
            obtain ⟨v, hv, rfl⟩ := nI_mid (M := 126) (by omega) (fun q => c1 (by
              rw [Int32.lt_iff_toInt_lt] at q ⊢
              have : (0 : Int32).toInt = 0 := by decide
              have : (32 : Int32).toInt = 32 := by decide
              omega)) c2
            refine ⟨v, ?_, hv, rfl⟩
            rcases Nat.lt_or_ge v 32 with z | z
            · exact absurd (nI_lt z (by omega)) c1
            · exact z
          refine ⟨⟨L + 1, by omega, upd_s, upd_s, fun j hj => ?_⟩, p, q, n, t, e, k1, k2, k3, K, k4, k5, by rw [upd_n (by omega)]; exact k6, k7⟩
          by_cases z : j = L
          · subst z
            rw [upd_s, upd_s]
            exact ⟨rfl, v⟩
          · rw [upd_n z, upd_n z]
            exact h3 j (by omega)
      · have e200 : L = 200 := by omega
        subst e200
        refine ⟨-3, f1, f2, g0, g1, ?_, ?_, hup⟩
        · simp only [h1, lit_n]
          simp (disch := omega) only [nI_ltI, if_pos, if_neg, oB_s, ↓reduceIte]
        · simp only [h2, lit_n]
          simp only [↓reduceIte]
    · have c2' : (126 : Int32) < u1 := Int32.not_le.mp c2
      exact ⟨-1, f1, f2, g0, g1, by rw [if_neg c1, if_neg c2], by rw [if_neg c1, if_pos c2']; rfl, hup⟩
theorem op_wipe {B : Nat} {f0 f1 f2 f3 f4 f5 f6 f7 f8 f9 f10 f11 f12 f13 f14 f15 f16 f17 f18 f19 f20 f21 g0 g1 g2 g3 g4 g5 : Fn} (hB : B ≤ 1000) (h : Rel B f0 f1 f2 f3 f4 f5 f6 f7 f8 f9 f10 f11 f12 f13 f14 f15 f16 f17 f18 f19 f20 f21 g0 g1 g2 g3 g4 g5) : ∃ (r : Int32) (f1' : Fn) (g0' : Fn), zX4_wipe f1 = some (r, f1') ∧ zX5_wipe g0 = some (r, g0') ∧ Rel (B + 1) f0 f1' f2 f3 f4 f5 f6 f7 f8 f9 f10 f11 f12 f13 f14 f15 f16 f17 f18 f19 f20 f21 g0' g1 g2 g3 g4 g5 := by
  obtain ⟨⟨L, hL, h1, h2, h3⟩, p, q, n, t, e, k1, k2, k3, K, k4, k5, k6, k7⟩ := h.up
  refine ⟨nI L, upd f1 1 0, upd g0 0 0, ?_, ?_, ⟨0, by omega, upd_s, upd_s, fun j hj => by omega⟩, p, q, n, t, e, k1, k2, k3, K, k4, k5, by rw [upd_n (by omega)]; exact k6, k7⟩
  · unfold zX4_wipe zX2_length zX2_clear
    rw [oB_s, oB_s, h1]
  · unfold zX5_wipe
    rw [h2]
