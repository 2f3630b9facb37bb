/-! ===== unlike, sector ===== -/
theorem op_unlike {B : Nat} {f0 f1 f2 f3 f4 f5 f6 f7 f8 f9 f10 f11 f12 f13 f14 f15 f16 f17 f18 f19 f20 f21 g0 g1 g2 g3 g4 g5 : Fn} (hB : B ≤ 1000) (h : Rel B f0 f1 f2 f3 f4 f5 f6 f7 f8 f9 f10 f11 f12 f13 f14 f15 f16 f17 f18 f19 f20 f21 g0 g1 g2 g3 g4 g5) : ∃ (r : Int32), zX4_unlike f0 f5 f8 f14 f20 = some r ∧ zX5_unlike g0 g2 g4 g5 = some r ∧ Rel (B + 1) f0 f1 f2 f3 f4 f5 f6 f7 f8 f9 f10 f11 f12 f13 f14 f15 f16 f17 f18 f19 f20 f21 g0 g1 g2 g3 g4 g5 := by
  have hup := h.up
  obtain ⟨-, p, q, n, t, e, hS, hg, hC, K, hK, k1, k2, k3, k4⟩ := h
  have hb := hS.b
  have h8 : ∀ a, a < 256 → f8 a = g4 a := fun a ha => (hC.1 a ha).1
  unfold zX4_unlike zX5_unlike zX4_lastKept zX0_bytesOtherThanIn
  simp only [k1, k2, lit_n]
  rcases (show K = 0 ∨ K = 1 ∨ K = 2 by omega) with rfl | rfl | rfl
  · exact ⟨-2, rfl, rfl, hup⟩
  · refine ⟨ulk f8 f14 (p * q * n), ?_, ?_, hup⟩
    · simp (disch := omega) only [nI_ltI, if_pos, oB_s, ↓reduceIte]
      have := unlike_loop (b := f8) (b2 := f14) hS (p * q * n) 0 4096 (by omega) (by omega)
      exact (congrArg (fun z => oB z fun y => some y) this)
    · simp (disch := omega) only [nI_eq, if_neg]
      have := unlikeM_loop (s := g4) (g5 := g5) (K := 1) hS hg (by omega) k2 (p * q * n) 0 4096 (by omega) (by omega)
      refine this.trans (congrArg some ?_)
      exact (ulk_c h8 (fun a ha => by simpa using ((k3 (by omega)).2.1 a ha).1) _ (by omega)).symm
  · refine ⟨ulk f8 f20 (p * q * n), ?_, ?_, hup⟩
    · simp (disch := omega) only [nI_ltI, nI_eq, if_pos, if_neg, oB_s]
      have := unlike_loop (b := f8) (b2 := f20) hS (p * q * n) 0 4096 (by omega) (by omega)
      exact (congrArg (fun z => oB z fun y => some y) this)
    · simp (disch := omega) only [nI_eq, if_neg]
      have := unlikeM_loop (s := g4) (g5 := g5) (K := 2) hS hg (by omega) k2 (p * q * n) 0 4096 (by omega) (by omega)
      refine this.trans (congrArg some ?_)
      exact (ulk_c h8 (fun a ha => by simpa using ((k4 (by omega)).2.1 a ha).1) _ (by omega)).symm
theorem sh31 : ∀ k, k < 32 → ((nI k &&& 31).toBitVec.smod 32).toNat = k := by decide +kernel
theorem isr_n {m k : Nat} (hm : m < 2 ^ 31) (hk : k < 32) : isr (nI m) (nI k) = nI (m / 2 ^ k) := pk_shrN hm _ k (sh31 k hk)
theorem isl_n {m k : Nat} (hk : k < 32) (h : m * 2 ^ k < 2 ^ 32) : isl (nI m) (nI k) = nI (m * 2 ^ k) := pk_shlN _ k (sh31 k hk) h
theorem lockM {k s : Fn} (h : LkR k s) {j : Nat} (hj : j < 8) : isr (s 288) (nI j) &&& 1 = k j ∧ (k j = 0 ∨ k j = 1) := by
  obtain ⟨m, hm, h1, h2⟩ := h
  have hd : m / 2 ^ j < 2 ^ 31 := Nat.lt_of_le_of_lt (Nat.div_le_self _ _) (by omega)
  rw [h1, isr_n (by omega) (by omega), pk_andN (k := 1) (by omega) (by decide), h2 j hj, Nat.testBit_eq_decide_div_mod_eq]
  rcases (show m / 2 ^ j % 2 = 0 ∨ m / 2 ^ j % 2 = 1 by omega) with z | z
  · simp only [Nat.pow_one, z]
    exact ⟨rfl, Or.inl rfl⟩
  · simp only [Nat.pow_one, z]
    exact ⟨rfl, Or.inr rfl⟩
theorem lockX {k : Fn} {j : Nat} (hj : j < 8) (hk : k j = 0 ∨ k j = 1) : zX0_isLocked k (nI j) = some (k j) := by
  unfold zX0_isLocked
  simp only [lit_n]
  simp (disch := omega) only [nI_ltI, nI_leI, if_neg, oI_n, ix_n]
  rcases hk with z | z <;> rw [z] <;> rfl
theorem guard_rel {c k s sh g : Fn} {p q n t e : Nat} (hS : Shp sh p q n t e) (hg : ∀ i, i < 5 → g i = sh i) (h : ScR c s) (hl : LkR k s) {j : Nat} (hj : j < 8) : ∃ r, (r = 0 ∨ r = 1) ∧ zX0_isGuarded c sh k (nI j) = some r ∧ zX5_isGuarded g s (nI j) = some r := by
  obtain ⟨a1, a2⟩ := lockM hl hj
  obtain ⟨-, ⟨v, -, v1, v2⟩, -⟩ := h
  unfold zX0_isGuarded zX5_isGuarded zX1_sectors
  rw [lockX hj a2, oB_s, a1, v1, v2, hg 2 (by omega), oB_s]
  rcases a2 with z | z
  · rw [z, if_pos rfl, if_neg (show ¬ (0 : Int32) = 1 by decide)]
    by_cases c : nI j < sh 2 - nI v
    · exact ⟨0, Or.inl rfl, by rw [if_pos c], by rw [if_pos c]⟩
    · exact ⟨1, Or.inr rfl, by rw [if_neg c], by rw [if_neg c]⟩
  · exact ⟨1, Or.inr rfl, by rw [z]; rfl, by rw [z]; rfl⟩
theorem sector_loop {sh g2 s : Fn} {p q n t e k : Nat} {u : Int32} (hS : Shp sh p q n t e) (hg : ∀ i, i < 5 → g2 i = sh i) (hk : k < n) : ∀ m i fu : Nat, i + m = p * q → m < fu → zX5_sector_k45 fu g2 s (nI k) u (blk s (k * (p * q)) i) (smk s (k * (p * q)) i) (nI (k * (p * q) + i)) =
    if s 293 = 3 then zX5_sector_k152 g2 s (nI k) u (blk s (k * (p * q)) (p * q)) (smk s (k * (p * q)) (p * q)) 1 else if s 293 = 2 then (if s 294 = nI k then zX5_sector_k152 g2 s (nI k) u (blk s (k * (p * q)) (p * q)) (smk s (k * (p * q)) (p * q)) 1 else zX5_sector_k133 g2 s (nI k) u (blk s (k * (p * q)) (p * q)) (smk s (k * (p * q)) (p * q))) else zX5_sector_k133 g2 s (nI k) u (blk s (k * (p * q)) (p * q)) (smk s (k * (p * q)) (p * q)) := by
  have hb := hS.b
  have hkz : k * (p * q) + p * q ≤ 256 := by
    have h1 : (k + 1) * (p * q) ≤ n * (p * q) := Nat.mul_le_mul_right _ hk
    have h2 : n * (p * q) = p * q * n := Nat.mul_comm _ _
    have h3 : (k + 1) * (p * q) = k * (p * q) + p * q := Nat.succ_mul _ _
    omega
  have e1 : (nI k + 1) * nI (p * q) = nI (k * (p * q) + p * q) := by
    rw [nI_1, pk_mul, Nat.succ_mul]
  intro m
  induction m with
  | zero =>
    intro i fu hi hf
    obtain ⟨f, rfl⟩ : ∃ f, fu = f + 1 := ⟨fu - 1, by omega⟩
    have : i = p * q := by omega
    subst this
    rw [zX5_sector_k45, secM hS hg, oB_s, e1, if_pos (nI_le (Nat.le_refl _) (by omega))]
  | succ m ih =>
    intro i fu hi hf
    obtain ⟨f, rfl⟩ : ∃ f, fu = f + 1 := ⟨fu - 1, by omega⟩
    rw [zX5_sector_k45, secM hS hg, oB_s, e1, if_neg (nI_ge (by omega) (by omega))]
    have := ih (i + 1) f (by omega) (by omega)
    simp only [blk, smk] at this
    rw [oI_n (by omega) (by omega), ix_n (by omega)]
    by_cases c : s (k * (p * q) + i) = 255
    · rw [if_pos c] at this ⊢
      rw [oI_n (by omega) (by omega), nI_1]
      exact this
    · rw [if_neg c] at this ⊢
      rw [oI_n (by omega) (by omega), nI_1, Int32.add_zero]
      exact this
theorem erased_rel {n j : Nat} {c s : Fn} (hb : BuR n c s) (hs : SuR n c s) (hn : n ≤ 8) (hj : j < n) : ∃ r, (r = 0 ∨ r = 1) ∧ zX0_isBeingErased c (nI j) = some r ∧ ∀ (X : Int32 → Option Int32), (if s 293 = 3 then X 1 else if s 293 = 2 then (if s 294 = nI j then X 1 else if s 296 = nI j + 1 then X 1 else X 0) else if s 296 = nI j + 1 then X 1 else X 0) = X r := by
  have h11 : (if c 11 = nI j then (1 : Int32) else 0) = if s 296 = nI j + 1 then 1 else 0 := by
    rw [nI_1]
    rcases hs with ⟨s1, s2, -⟩ | ⟨i, L, hi, -, -, s1, s2, -⟩
    · rw [s1, s2, if_neg (fun q => nI_m1 (by omega) q.symm), if_neg (fun q => nI_ne0 (n := j + 1) (by omega) (by omega) q.symm)]
    · rw [s1, s2]
      by_cases z : i = j
      · rw [z, if_pos rfl, if_pos rfl]
      · rw [if_neg (fun q => z (nI_inj (by omega) (by omega) q)), if_neg (fun q => z (by have := nI_inj (by omega) (by omega) q; omega))]
  unfold zX0_isBeingErased zX0_isBeingErased_k27
  have h11' : (if c 11 = nI j then some (1 : Int32) else some 0) = some (if s 296 = nI j + 1 then 1 else 0) := by
    rw [← h11]
    by_cases z : c 11 = nI j
    · rw [if_pos z, if_pos z]
    · rw [if_neg z, if_neg z]
  rw [h11']
  have hX : ∀ (X : Int32 → Option Int32), (if s 296 = nI j + 1 then X 1 else X 0) = X (if s 296 = nI j + 1 then 1 else 0) := by
    intro X
    by_cases z : s 296 = nI j + 1
    · rw [if_pos z, if_pos z]
    · rw [if_neg z, if_neg z]
  have h01 : (if s 296 = nI j + 1 then (1 : Int32) else 0) = 0 ∨ (if s 296 = nI j + 1 then (1 : Int32) else 0) = 1 := by
    by_cases z : s 296 = nI j + 1
    · rw [if_pos z]; exact Or.inr rfl
    · rw [if_neg z]; exact Or.inl rfl
  rcases hb with ⟨b1, b2⟩ | ⟨(⟨b1, b2⟩ | ⟨b1, b2, i, hi, b3, b4⟩ | ⟨b1, b2⟩), -⟩
  · refine ⟨_, h01, ?_, fun X => ?_⟩
    · rw [b1, if_neg (by decide), if_neg (by decide)]
    · rw [b2, if_neg (by decide), if_neg (by decide)]; exact hX X
  · refine ⟨_, h01, ?_, fun X => ?_⟩
    · rw [b1, if_neg (by decide), if_neg (by decide)]
    · rw [b2, if_neg (by decide), if_neg (by decide)]; exact hX X
  · by_cases z : i = j
    · subst z
      refine ⟨1, Or.inr rfl, ?_, fun X => ?_⟩
      · rw [b1, b3, if_neg (by decide), if_pos rfl, if_pos rfl]
      · rw [b2, b4, if_neg (by decide), if_pos rfl, if_pos rfl]
    · have z2 : ¬ nI i = nI j := fun q => z (nI_inj (by omega) (by omega) q)
      refine ⟨_, h01, ?_, fun X => ?_⟩
      · rw [b1, b3, if_neg (by decide), if_pos rfl, if_neg z2]
      · rw [b2, b4, if_neg (by decide), if_pos rfl, if_neg z2]; exact hX X
  · refine ⟨1, Or.inr rfl, ?_, fun X => ?_⟩
    · rw [b1, if_pos rfl]
    · rw [b2, if_pos rfl]
theorem z01 {r : Int32} (h : r = 0 ∨ r = 1) : (if r = 0 then some (0 : Int32) else some 1) = some r := by
  rcases h with rfl | rfl <;> rfl
set_option maxRecDepth 100000 in
theorem op_sector {B : Nat} {f0 f1 f2 f3 f4 f5 f6 f7 f8 f9 f10 f11 f12 f13 f14 f15 f16 f17 f18 f19 f20 f21 g0 g1 g2 g3 g4 g5 : Fn} (hB : B ≤ 1000) (h : Rel B f0 f1 f2 f3 f4 f5 f6 f7 f8 f9 f10 f11 f12 f13 f14 f15 f16 f17 f18 f19 f20 f21 g0 g1 g2 g3 g4 g5) (u1 u2 : Int32) : ∃ (r : Int32), zX4_sector f4 f5 f8 f9 u1 u2 = some r ∧ zX5_sector g2 g4 u1 u2 = some r ∧ Rel (B + 1) f0 f1 f2 f3 f4 f5 f6 f7 f8 f9 f10 f11 f12 f13 f14 f15 f16 f17 f18 f19 f20 f21 g0 g1 g2 g3 g4 g5 := by
  have hup := h.up
  obtain ⟨-, p, q, n, t, e, hS, hg, ⟨hBy, hLk, hSc, hBu, hSu, -⟩, -⟩ := h
  have hb := hS.b
  have hn := hS.2.2.2.2.2.2.2.1
  have h8 : ∀ a, a < 256 → f8 a = g4 a := fun a ha => (hBy a ha).1
  unfold zX4_sector zX5_sector zX0_shape zX1_sectors
  rw [hg 2 (by omega), hS.2.2.1, oB_s, oB_s, L0, L4, in_spec, in_spec]
  by_cases c1 : u1 < 0
  · exact ⟨-1, by rw [if_pos c1], by rw [if_pos c1]; rfl, hup⟩
  · obtain ⟨k, hk, rfl⟩ := nI_of c1
    rw [if_neg c1, if_neg c1]
    have e1 : nI n - 1 = nI (n - 1) := pk_sub (a := n) (b := 1) (by omega)
    rw [e1]
    by_cases c2 : k < n
    · rw [if_pos (nI_lt c2 (by omega)), if_neg (nI_nlt (by omega) (by omega)), oB_s, if_neg (show ¬ (1 : Int32) = 0 by decide), secM hS hg, oB_s, pk_mul]
      have hkz : k * (p * q) + p * q ≤ 256 := by
        have h1 : (k + 1) * (p * q) ≤ n * (p * q) := Nat.mul_le_mul_right _ c2
        have h2 : n * (p * q) = p * q * n := Nat.mul_comm _ _
        have h3 : (k + 1) * (p * q) = k * (p * q) + p * q := Nat.succ_mul _ _
        omega
      have hloop := sector_loop (s := g4) (u := u2) hS hg c2 (p * q) 0 4096 (by omega) (by omega)
      have hl2 : zX5_sector_k45 4096 g2 g4 (nI k) u2 0 0 (nI (k * (p * q))) = _ := hloop
      rw [hl2]
      obtain ⟨er, er0, er1, er2⟩ := erased_rel hBu hSu (by omega) c2
      have hX := er2 (fun t0 => zX5_sector_k152 g2 g4 (nI k) u2 (blk g4 (k * (p * q)) (p * q)) (smk g4 (k * (p * q)) (p * q)) t0)
      unfold zX5_sector_k133
      rw [hX]
      unfold zX5_sector_k152
      by_cases d0 : u2 = 0
      · refine ⟨blk f8 (k * (p * q)) (p * q), ?_, ?_, hup⟩
        · rw [if_pos d0]
          unfold zX0_blanksIn
          rw [secB hS, oB_s, pk_mul]
          exact congrArg (fun z => oB z fun y => some y) (blanks_loop (b := f8) hS hkz (p * q) 0 4096 (by omega) (by omega))
        · subst d0
          rw [if_neg (by decide), if_neg (by decide), oB_s, if_neg (by decide), if_pos rfl, blk_c h8 _ hkz]
      by_cases d1 : u2 = 1
      · refine ⟨smk f8 (k * (p * q)) (p * q), ?_, ?_, hup⟩
        · rw [if_neg d0, if_pos d1]
          unfold zX0_sumOf
          rw [secB hS, oB_s, pk_mul]
          exact congrArg (fun z => oB z fun y => some y) (sum_loop (b := f8) hS hkz (p * q) 0 4096 (by omega) (by omega))
        · subst d1
          rw [if_neg (by decide), if_neg (by decide), oB_s, if_neg (by decide), if_neg d0, if_pos rfl, smk_c h8 _ hkz]
      obtain ⟨m1, m2⟩ := lockM hLk (j := k) (by omega)
      by_cases d2 : u2 = 2
      · refine ⟨f9 k, ?_, ?_, hup⟩
        · rw [if_neg d0, if_neg d1, if_pos d2, lockX (by omega) m2, oB_s]
          exact z01 m2
        · subst d2
          rw [if_neg (by decide), if_neg (by decide), oB_s, if_neg (by decide), if_neg d0, if_neg d1, if_pos rfl, m1]
      by_cases d3 : u2 = 3
      · obtain ⟨r, r0, r1, r2⟩ := guard_rel hS hg hSc hLk (j := k) (by omega)
        refine ⟨r, ?_, ?_, hup⟩
        · rw [if_neg d0, if_neg d1, if_neg d2, if_pos d3, r1, oB_s]
          exact z01 r0
        · subst d3
          rw [if_neg (by decide), if_neg (by decide), oB_s, if_neg (by decide), if_neg d0, if_neg d1, if_neg d2, if_pos rfl, r2, oB_s]
          exact z01 r0
      by_cases d4 : u2 = 4
      · refine ⟨er, ?_, ?_, hup⟩
        · rw [if_neg d0, if_neg d1, if_neg d2, if_neg d3, if_pos d4, er1, oB_s]
          exact z01 er0
        · subst d4
          rw [if_neg (by decide), if_neg (by decide), oB_s, if_neg (by decide), if_neg d0, if_neg d1, if_neg d2, if_neg d3]
          exact z01 er0
      refine ⟨-1, by rw [if_neg d0, if_neg d1, if_neg d2, if_neg d3, if_neg d4], ?_, hup⟩
      by_cases d5 : u2 < 0
      · rw [if_pos d5]; rfl
      · obtain ⟨v, hv, rfl⟩ := nI_of d5
        have hv4 : 4 < v := by
          rcases Nat.lt_or_ge 4 v with z | z
          · exact z
          · rcases (show v = 0 ∨ v = 1 ∨ v = 2 ∨ v = 3 ∨ v = 4 by omega) with rfl | rfl | rfl | rfl | rfl
            · exact absurd rfl d0
            · exact absurd rfl d1
            · exact absurd rfl d2
            · exact absurd rfl d3
            · exact absurd rfl d4
        rw [if_neg d5, if_pos (show (4 : Int32) < nI v from nI_lt hv4 (by omega))]; rfl
    · rw [if_neg (nI_nlt (by omega) (by omega)), if_pos (nI_lt (by omega) (by omega))]
      exact ⟨-1, rfl, rfl, hup⟩
