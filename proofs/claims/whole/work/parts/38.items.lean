/-! ===== items ===== -/
theorem field_rel {L i : Nat} {l x f m : Fn} {en : Int32} (hT : Txt L l x) (h1 : f 1 = nI L) (h3 : f 3 = nI i) (h0 : m 0 = nI L) (h2 : m 2 = nI i) (hi : i < 800) (hen : ¬ (0 : Int32) = en) (hen4 : ¬ (-4 : Int32) = en) :
    ∃ (j k : Nat) (nv mv : Int32), i < j ∧ j ≤ i + 3 ∧ ((nv = -4 ∧ mv = -1) ∨ ∃ w, w < 100 ∧ nv = nI w ∧ mv = nI w) ∧ zX2_readNumber f l = some (nv, upd f 3 (nI k)) ∧
      ((j ≤ L ∧ zX2_skip (upd f 3 (nI k)) l en = some (1, upd f 3 (nI j)) ∧ zX5_number m x en = some (mv, upd m 2 (nI j))) ∨ (zX2_skip (upd f 3 (nI k)) l en = some (0, upd f 3 (nI k)) ∧ zX5_number m x en = some (-1, upd m 2 (nI j)))) := by
  obtain ⟨d, v, d1, d2, d3, d4⟩ := number_rel hT h1 h3 h0 h2 hi
  have hs := skipX (f := upd f 3 (nI (i + d))) (en := en) hT h1 upd_s (by omega) hen4
  have hm := d4 en hen
  rw [upd_u] at hs
  refine ⟨i + d + 1, i + d, if d = 0 then -4 else v, if d = 0 then -1 else v, by omega, by omega, ?_, d3, ?_⟩
  · by_cases z : d = 0
    · rw [if_pos z, if_pos z]; exact Or.inl ⟨rfl, rfl⟩
    · rw [if_neg z, if_neg z]
      obtain ⟨w, w1, w2⟩ := d2 (by omega)
      exact Or.inr ⟨w, w1, w2, w2⟩
  · by_cases ok : i + d < L ∧ x (i + d) = en
    · refine Or.inl ⟨by omega, by rw [hs, if_pos ok], ?_⟩
      rw [hm]
      by_cases z : d = 0
      · rw [if_pos z, if_neg (fun q => q.1 z)]
      · rw [if_neg z, if_pos ⟨z, ok⟩]
    · refine Or.inr ⟨by rw [hs, if_neg ok], ?_⟩
      rw [hm, if_neg (fun q => ok q.2)]
def VPt (a b c : Int32) : Prop := (a = 4 ∨ a = 8 ∨ a = 16) ∧ (b = 2 ∨ b = 4 ∨ b = 8) ∧ (¬ c < 2 ∧ ¬ 8 < c) ∧ a * b * c ≤ 256
theorem setParts_eq (h : Fn) (a b c : Int32) : (VPt a b c ∧ zX1_setParts h a b c = some (1, upd (upd (upd h 0 a) 1 b) 2 c)) ∨ (¬ VPt a b c ∧ zX1_setParts h a b c = some (0, h)) := by
  have hA : ((a = 4 ∨ a = 8 ∨ a = 16) ∧ zX1_setParts h a b c = zX1_setParts_k22 h a b c 1) ∨ (¬ (a = 4 ∨ a = 8 ∨ a = 16) ∧ zX1_setParts h a b c = zX1_setParts_k22 h a b c 0) := by
    unfold zX1_setParts
    by_cases c1 : a = 4
    · rw [if_pos c1]; exact Or.inl ⟨Or.inl c1, rfl⟩
    by_cases c2 : a = 8
    · rw [if_neg c1, if_pos c2]; exact Or.inl ⟨Or.inr (Or.inl c2), rfl⟩
    by_cases c3 : a = 16
    · rw [if_neg c1, if_neg c2, if_pos c3]; exact Or.inl ⟨Or.inr (Or.inr c3), rfl⟩
    rw [if_neg c1, if_neg c2, if_neg c3]
    exact Or.inr ⟨fun z => by rcases z with z | z | z; exact c1 z; exact c2 z; exact c3 z, rfl⟩
  have hB : ∀ x4, ((b = 2 ∨ b = 4 ∨ b = 8) ∧ zX1_setParts_k22 h a b c x4 = zX1_setParts_k45 h a b c x4 1) ∨ (¬ (b = 2 ∨ b = 4 ∨ b = 8) ∧ zX1_setParts_k22 h a b c x4 = zX1_setParts_k45 h a b c x4 0) := by
    intro x4
    unfold zX1_setParts_k22
    by_cases c1 : b = 2
    · rw [if_pos c1]; exact Or.inl ⟨Or.inl c1, rfl⟩
    by_cases c2 : b = 4
    · rw [if_neg c1, if_pos c2]; exact Or.inl ⟨Or.inr (Or.inl c2), rfl⟩
    by_cases c3 : b = 8
    · rw [if_neg c1, if_neg c2, if_pos c3]; exact Or.inl ⟨Or.inr (Or.inr c3), rfl⟩
    rw [if_neg c1, if_neg c2, if_neg c3]
    exact Or.inr ⟨fun z => by rcases z with z | z | z; exact c1 z; exact c2 z; exact c3 z, rfl⟩
  have hC : ∀ x4 x5, ((¬ c < 2 ∧ ¬ 8 < c) ∧ zX1_setParts_k45 h a b c x4 x5 = zX1_setParts_k63 h a b c x4 x5 1) ∨ (¬ (¬ c < 2 ∧ ¬ 8 < c) ∧ zX1_setParts_k45 h a b c x4 x5 = zX1_setParts_k63 h a b c x4 x5 0) := by
    intro x4 x5
    unfold zX1_setParts_k45
    by_cases c1 : c < 2
    · rw [if_pos c1]; exact Or.inr ⟨fun z => z.1 c1, rfl⟩
    by_cases c2 : 8 < c
    · rw [if_neg c1, if_pos c2]; exact Or.inr ⟨fun z => z.2 c2, rfl⟩
    rw [if_neg c1, if_neg c2]
    exact Or.inl ⟨⟨c1, c2⟩, rfl⟩
  have n0 : ¬ (1 : Int32) = 0 := by decide
  have h0 : ∀ x5 t0, zX1_setParts_k63 h a b c 0 x5 t0 = some (0, h) := fun x5 t0 => by unfold zX1_setParts_k63; rw [if_pos rfl]
  have h1 : ∀ t0, zX1_setParts_k63 h a b c 1 0 t0 = some (0, h) := fun t0 => by unfold zX1_setParts_k63; rw [if_neg n0, if_pos rfl]
  have h2 : zX1_setParts_k63 h a b c 1 1 0 = some (0, h) := by unfold zX1_setParts_k63; rw [if_neg n0, if_neg n0, if_pos rfl]
  rcases hA with ⟨a1, a2⟩ | ⟨a1, a2⟩
  · rcases hB 1 with ⟨b1, b2⟩ | ⟨b1, b2⟩
    · rcases hC 1 1 with ⟨c1, c2⟩ | ⟨c1, c2⟩
      · rw [a2, b2, c2]
        unfold zX1_setParts_k63
        rw [if_neg n0, if_neg n0, if_neg n0]
        by_cases d : a * b * c ≤ 256
        · rw [if_pos d]; exact Or.inl ⟨⟨a1, b1, c1, d⟩, rfl⟩
        · rw [if_neg d]; exact Or.inr ⟨fun z => d z.2.2.2, rfl⟩
      · rw [a2, b2, c2, h2]; exact Or.inr ⟨fun z => c1 z.2.2.1, rfl⟩
    · rcases hC 1 0 with ⟨c1, c2⟩ | ⟨c1, c2⟩ <;> rw [a2, b2, c2, h1] <;> exact Or.inr ⟨fun z => b1 z.2.1, rfl⟩
  · rcases hB 0 with ⟨b1, b2⟩ | ⟨b1, b2⟩
    · rcases hC 0 1 with ⟨c1, c2⟩ | ⟨c1, c2⟩ <;> rw [a2, b2, c2, h0] <;> exact Or.inr ⟨fun z => a1 z.1, rfl⟩
    · rcases hC 0 0 with ⟨c1, c2⟩ | ⟨c1, c2⟩ <;> rw [a2, b2, c2, h0] <;> exact Or.inr ⟨fun z => a1 z.1, rfl⟩
theorem sizesT_eq (m x r : Fn) (a b c : Int32) : (VPt a b c ∧ (if a = 4 then (zX5_sizes_k59 m x r a b c) else (if a = 8 then (zX5_sizes_k59 m x r a b c) else (if a = 16 then (zX5_sizes_k59 m x r a b c) else (some (0, m, r))))) = some (1, m, r)) ∨ (¬ VPt a b c ∧ (if a = 4 then (zX5_sizes_k59 m x r a b c) else (if a = 8 then (zX5_sizes_k59 m x r a b c) else (if a = 16 then (zX5_sizes_k59 m x r a b c) else (some (0, m, r))))) = some (0, m, r)) := by
  have hC : ((¬ c < 2 ∧ ¬ 8 < c) ∧ a * b * c ≤ 256 ∧ zX5_sizes_k75 m x r a b c = some (1, m, r)) ∨ (¬ ((¬ c < 2 ∧ ¬ 8 < c) ∧ a * b * c ≤ 256) ∧ zX5_sizes_k75 m x r a b c = some (0, m, r)) := by
    unfold zX5_sizes_k75
    rw [L2, L8, in_spec]
    by_cases c1 : c < 2
    · rw [if_pos c1, oB_s, if_pos rfl]; exact Or.inr ⟨fun z => z.1.1 c1, rfl⟩
    by_cases c2 : 8 < c
    · rw [if_neg c1, if_pos c2, oB_s, if_pos rfl]; exact Or.inr ⟨fun z => z.1.2 c2, rfl⟩
    rw [if_neg c1, if_neg c2, oB_s, if_neg (show ¬ (1 : Int32) = 0 by decide)]
    by_cases d : 256 < a * b * c
    · rw [if_pos d]; exact Or.inr ⟨fun z => Int32.not_le.mpr d z.2, rfl⟩
    · rw [if_neg d]; exact Or.inl ⟨⟨c1, c2⟩, Int32.not_lt.mp d, rfl⟩
  have hB : ((b = 2 ∨ b = 4 ∨ b = 8) ∧ zX5_sizes_k59 m x r a b c = zX5_sizes_k75 m x r a b c) ∨ (¬ (b = 2 ∨ b = 4 ∨ b = 8) ∧ zX5_sizes_k59 m x r a b c = some (0, m, r)) := by
    unfold zX5_sizes_k59
    by_cases c1 : b = 2
    · rw [if_pos c1]; exact Or.inl ⟨Or.inl c1, rfl⟩
    by_cases c2 : b = 4
    · rw [if_neg c1, if_pos c2]; exact Or.inl ⟨Or.inr (Or.inl c2), rfl⟩
    by_cases c3 : b = 8
    · rw [if_neg c1, if_neg c2, if_pos c3]; exact Or.inl ⟨Or.inr (Or.inr c3), rfl⟩
    rw [if_neg c1, if_neg c2, if_neg c3]
    exact Or.inr ⟨fun z => by rcases z with z | z | z; exact c1 z; exact c2 z; exact c3 z, rfl⟩
  have hA : ((a = 4 ∨ a = 8 ∨ a = 16) ∧ (if a = 4 then (zX5_sizes_k59 m x r a b c) else (if a = 8 then (zX5_sizes_k59 m x r a b c) else (if a = 16 then (zX5_sizes_k59 m x r a b c) else (some (0, m, r))))) = zX5_sizes_k59 m x r a b c) ∨ (¬ (a = 4 ∨ a = 8 ∨ a = 16) ∧ (if a = 4 then (zX5_sizes_k59 m x r a b c) else (if a = 8 then (zX5_sizes_k59 m x r a b c) else (if a = 16 then (zX5_sizes_k59 m x r a b c) else (some (0, m, r))))) = some (0, m, r)) := by
    by_cases c1 : a = 4
    · rw [if_pos c1]; exact Or.inl ⟨Or.inl c1, rfl⟩
    by_cases c2 : a = 8
    · rw [if_neg c1, if_pos c2]; exact Or.inl ⟨Or.inr (Or.inl c2), rfl⟩
    by_cases c3 : a = 16
    · rw [if_neg c1, if_neg c2, if_pos c3]; exact Or.inl ⟨Or.inr (Or.inr c3), rfl⟩
    rw [if_neg c1, if_neg c2, if_neg c3]
    exact Or.inr ⟨fun z => by rcases z with z | z | z; exact c1 z; exact c2 z; exact c3 z, rfl⟩
  rcases hA with ⟨a1, a2⟩ | ⟨a1, a2⟩
  · rcases hB with ⟨b1, b2⟩ | ⟨b1, b2⟩
    · rcases hC with ⟨c1, c2, c3⟩ | ⟨c1, c3⟩
      · rw [a2, b2, c3]; exact Or.inl ⟨⟨a1, b1, c1, c2⟩, rfl⟩
      · rw [a2, b2, c3]; exact Or.inr ⟨fun z => c1 ⟨z.2.2.1, z.2.2.2⟩, rfl⟩
    · rw [a2, b2]; exact Or.inr ⟨fun z => b1 z.2.1, rfl⟩
  · rw [a2]; exact Or.inr ⟨fun z => a1 z.1, rfl⟩
/-- what an item comes to: a fault on both sides, or none, at the same place -/
def Out (i L : Nat) (f m : Fn) (X Y : Option (Int32 × Fn × Fn)) : Prop :=
  (∃ f' t' m' r', X = some (0, f', t') ∧ Y = some (0, m', r') ∧ f' 1 = f 1 ∧ m' 0 = m 0 ∧ m' 8 = m 8) ∨
  (∃ j f' t' m' r', i < j ∧ j ≤ L ∧ X = some (1, f', t') ∧ Y = some (1, m', r') ∧ f' 1 = f 1 ∧ f' 3 = nI j ∧ f' 5 = f 5 ∧ m' 0 = m 0 ∧ m' 2 = nI j ∧ m' 8 = m 8 ∧ (f' 4 = m' 5 ∧ (f' 4 = 0 ∨ f' 4 = 1)) ∧ ∃ p q n t e, Shp t' p q n t e ∧ ∀ k, k < 5 → r' k = t' k)
theorem VPt.nat {a b c : Nat} (ha : a < 100) (hb : b < 100) (hc : c < 100) (h : VPt (nI a) (nI b) (nI c)) : (a = 4 ∨ a = 8 ∨ a = 16) ∧ (b = 2 ∨ b = 4 ∨ b = 8) ∧ (2 ≤ c ∧ c ≤ 8) ∧ a * b * c ≤ 256 := by
  obtain ⟨h1, h2, ⟨h3, h4⟩, h5⟩ := h
  have e1 : a = 4 ∨ a = 8 ∨ a = 16 := by
    rcases h1 with z | z | z
    · exact Or.inl (nI_inj (b := 4) (by omega) (by omega) z)
    · exact Or.inr (Or.inl (nI_inj (b := 8) (by omega) (by omega) z))
    · exact Or.inr (Or.inr (nI_inj (b := 16) (by omega) (by omega) z))
  have e2 : b = 2 ∨ b = 4 ∨ b = 8 := by
    rcases h2 with z | z | z
    · exact Or.inl (nI_inj (b := 2) (by omega) (by omega) z)
    · exact Or.inr (Or.inl (nI_inj (b := 4) (by omega) (by omega) z))
    · exact Or.inr (Or.inr (nI_inj (b := 8) (by omega) (by omega) z))
  have e3 : 2 ≤ c := by
    rcases Nat.lt_or_ge c 2 with z | z
    · exact absurd (nI_lt (b := 2) z (by omega)) h3
    · exact z
  have e4 : c ≤ 8 := by
    rcases Nat.lt_or_ge 8 c with z | z
    · exact absurd (nI_lt (a := 8) z (by omega)) h4
    · exact z
  rw [pk_mul, pk_mul] at h5
  have hlt : a * b * c < 2 ^ 31 := by
    have : a * b ≤ 100 * 100 := Nat.mul_le_mul (by omega) (by omega)
    have : a * b * c ≤ 100 * 100 * 100 := Nat.mul_le_mul this (by omega)
    omega
  exact ⟨e1, e2, ⟨e3, e4⟩, (nI_leI (b := 256) hlt (by omega)).mp h5⟩
set_option maxHeartbeats 1000000 in
theorem parts_rel {L i : Nat} {l x f m t r : Fn} {p q n tt e : Nat} (hT : Txt L l x) (h1 : f 1 = nI L) (h3 : f 3 = nI i) (h0 : m 0 = nI L) (h2 : m 2 = nI i) (hi : i ≤ 300) (hck : f 4 = m 5 ∧ (f 4 = 0 ∨ f 4 = 1)) (hS : Shp t p q n tt e) (hr : ∀ k, k < 5 → r k = t k) : Out i L f m (zX2_readParts f l t) (zX5_sizes m x r) := by
  have hL := hT.1
  have n0 : ¬ (1 : Int32) = 0 := by decide
  obtain ⟨j1, k1, a, a', x1, x2, x3, x4, x5⟩ := field_rel (en := 44) hT h1 h3 h0 h2 (by omega) (by decide) (by decide)
  obtain ⟨j2, k2, b, b', y1, y2, y3, y4, y5⟩ := field_rel (f := upd f 3 (nI j1)) (m := upd m 2 (nI j1)) (i := j1) (en := 44) hT h1 upd_s h0 upd_s (by omega) (by decide) (by decide)
  obtain ⟨j3, k3, c, c', z1, z2, z3, z4, z5⟩ := field_rel (f := upd f 3 (nI j2)) (m := upd m 2 (nI j2)) (i := j2) (en := 59) hT h1 upd_s h0 upd_s (by omega) (by decide) (by decide)
  rw [upd_u] at y4 y5 z4 z5
  rw [upd_u, upd_u] at y5 z5
  have hN : ∀ A B C : Int32, zX5_number m x 44 = some (A, upd m 2 (nI j1)) → zX5_number (upd m 2 (nI j1)) x 44 = some (B, upd m 2 (nI j2)) → zX5_number (upd m 2 (nI j2)) x 59 = some (C, upd m 2 (nI j3)) → (VPt A B C ∧ zX5_sizes m x r = some (1, upd m 2 (nI j3), upd (upd (upd r 0 A) 1 B) 2 C)) ∨ (¬ VPt A B C ∧ zX5_sizes m x r = some (0, upd m 2 (nI j3), upd (upd (upd r 0 A) 1 B) 2 C)) := by
    intro A B C q1 q2 q3
    unfold zX5_sizes
    rw [q1, oB_s, q2, oB_s, q3, oB_s]
    exact sizesT_eq _ x _ A B C
  have m1 : ∀ B C, ¬ VPt (-1) B C := fun B C z => by rcases z.1 with q | q | q <;> exact absurd q (by decide)
  have m2 : ∀ A C, ¬ VPt A (-1) C := fun A C z => by rcases z.2.1 with q | q | q <;> exact absurd q (by decide)
  have m3 : ∀ A B, ¬ VPt A B (-1) := fun A B z => z.2.2.1.1 (by decide)
  have m4 : ∀ B C, ¬ VPt (-4) B C := fun B C z => by rcases z.1 with q | q | q <;> exact absurd q (by decide)
  have m5 : ∀ A C, ¬ VPt A (-4) C := fun A C z => by rcases z.2.1 with q | q | q <;> exact absurd q (by decide)
  have m6 : ∀ A B, ¬ VPt A B (-4) := fun A B z => z.2.2.1.1 (by decide)
  -- the reference's three numbers always come
  have hM2 : ∃ B, zX5_number (upd m 2 (nI j1)) x 44 = some (B, upd m 2 (nI j2)) := by
    rcases y5 with ⟨-, -, w⟩ | ⟨-, w⟩
    · exact ⟨_, w⟩
    · exact ⟨_, w⟩
  have hM3 : ∃ C, zX5_number (upd m 2 (nI j2)) x 59 = some (C, upd m 2 (nI j3)) := by
    rcases z5 with ⟨-, -, w⟩ | ⟨-, w⟩
    · exact ⟨_, w⟩
    · exact ⟨_, w⟩
  obtain ⟨B0, hB0⟩ := hM2
  obtain ⟨C0, hC0⟩ := hM3
  rcases x5 with ⟨-, u1, u2⟩ | ⟨u1, u2⟩
  · rcases y5 with ⟨-, v1, v2⟩ | ⟨v1, v2⟩
    · rcases z5 with ⟨jL, w1, w2⟩ | ⟨w1, w2⟩
      · have hX : zX2_readParts f l t = oB (zX1_setParts t a b c) (fun y7 => if y7.1 = 0 then (some (0, upd f 3 (nI j3), y7.2)) else (some (1, upd f 3 (nI j3), y7.2))) := by
          unfold zX2_readParts
          rw [x4, oB_s, u1, oB_s, if_neg n0, y4, oB_s, v1, oB_s, if_neg n0, z4, oB_s, w1, oB_s, if_neg n0]
        rw [hX]
        have hfail : ¬ VPt a b c → ¬ VPt a' b' c' → Out i L f m (oB (zX1_setParts t a b c) (fun y7 => if y7.1 = 0 then (some (0, upd f 3 (nI j3), y7.2)) else (some (1, upd f 3 (nI j3), y7.2)))) (zX5_sizes m x r) := by
          intro g1 g2
          rcases setParts_eq t a b c with ⟨s1, -⟩ | ⟨-, s1⟩
          · exact absurd s1 g1
          · rcases hN _ _ _ u2 v2 w2 with ⟨s2, -⟩ | ⟨-, s2⟩
            · exact absurd s2 g2
            · exact Or.inl ⟨upd f 3 (nI j3), t, _, _, by rw [s1, oB_s, if_pos rfl], s2, rfl, rfl, rfl⟩
        rcases x3 with ⟨rfl, rfl⟩ | ⟨wa, wa1, rfl, rfl⟩
        · exact hfail (m4 _ _) (m1 _ _)
        rcases y3 with ⟨rfl, rfl⟩ | ⟨wb, wb1, rfl, rfl⟩
        · exact hfail (m5 _ _) (m2 _ _)
        rcases z3 with ⟨rfl, rfl⟩ | ⟨wc, wc1, rfl, rfl⟩
        · exact hfail (m6 _ _) (m3 _ _)
        rcases setParts_eq t (nI wa) (nI wb) (nI wc) with ⟨s0, s1⟩ | ⟨s0, -⟩
        · rcases hN _ _ _ u2 v2 w2 with ⟨-, s2⟩ | ⟨s2, -⟩
          · obtain ⟨v1', v2', v3', v4'⟩ := s0.nat wa1 wb1 wc1
            refine Or.inr ⟨j3, upd f 3 (nI j3), upd (upd (upd t 0 (nI wa)) 1 (nI wb)) 2 (nI wc), upd m 2 (nI j3), upd (upd (upd r 0 (nI wa)) 1 (nI wb)) 2 (nI wc), by omega, jL, by rw [s1, oB_s, if_neg n0], s2, rfl, upd_s, rfl, rfl, upd_s, rfl, hck, wa, wb, wc, tt, e, ⟨rfl, rfl, rfl, hS.2.2.2.1, hS.2.2.2.2.1, v1', v2', v3', v4', hS.2.2.2.2.2.2.2.2.2⟩, fun k hk => ?_⟩
            rcases (show k = 0 ∨ k = 1 ∨ k = 2 ∨ k = 3 ∨ k = 4 by omega) with rfl | rfl | rfl | rfl | rfl
            · rfl
            · rfl
            · rfl
            · exact hr 3 (by omega)
            · exact hr 4 (by omega)
          · exact absurd s0 s2
        · exact hfail s0 s0
      · rcases hN _ _ _ u2 v2 w2 with ⟨s2, -⟩ | ⟨-, s2⟩
        · exact absurd s2 (m3 _ _)
        · refine Or.inl ⟨upd f 3 (nI k3), t, _, _, ?_, s2, rfl, rfl, rfl⟩
          unfold zX2_readParts
          rw [x4, oB_s, u1, oB_s, if_neg n0, y4, oB_s, v1, oB_s, if_neg n0, z4, oB_s, w1, oB_s, if_pos rfl]
    · rcases hN _ _ _ u2 v2 hC0 with ⟨s2, -⟩ | ⟨-, s2⟩
      · exact absurd s2 (m2 _ _)
      · refine Or.inl ⟨upd f 3 (nI k2), t, _, _, ?_, s2, rfl, rfl, rfl⟩
        unfold zX2_readParts
        rw [x4, oB_s, u1, oB_s, if_neg n0, y4, oB_s, v1, oB_s, if_pos rfl]
  · rcases hN _ _ _ u2 hB0 hC0 with ⟨s2, -⟩ | ⟨-, s2⟩
    · exact absurd s2 (m1 _ _)
    · refine Or.inl ⟨upd f 3 (nI k1), t, _, _, ?_, s2, rfl, rfl, rfl⟩
      unfold zX2_readParts
      rw [x4, oB_s, u1, oB_s, if_pos rfl]
