/-! ===== the relation between the class's state and the reference's ===== -/
/-- a chip's shape, in numbers that can be -/
def Shp (sh : Fn) (p q n t e : Nat) : Prop := sh 0 = nI p ∧ sh 1 = nI q ∧ sh 2 = nI n ∧ sh 3 = nI t ∧ sh 4 = nI e ∧ (p = 4 ∨ p = 8 ∨ p = 16) ∧ (q = 2 ∨ q = 4 ∨ q = 8) ∧ (2 ≤ n ∧ n ≤ 8) ∧ p * q * n ≤ 256 ∧ (1 ≤ t ∧ t ≤ 9) ∧ (1 ≤ e ∧ e ≤ 20)
/-- the bytes -/
def ByR (b s : Fn) : Prop := ∀ a, a < 256 → b a = s a ∧ ∃ v, v < 256 ∧ b a = nI v
/-- the locks -/
def LkR (k s : Fn) : Prop := ∃ m, m < 256 ∧ s 288 = nI m ∧ ∀ j, j < 8 → k j = if Nat.testBit m j then 1 else 0
/-- the scalars: lanes, level, enabled, error, clocks, begun, readied -/
def ScR (c s : Fn) : Prop := (∃ l, l ≤ 3 ∧ c 4 = nI l ∧ s 289 = nI l) ∧ (∃ v, v ≤ 7 ∧ c 5 = nI v ∧ s 292 = nI v) ∧ (c 6 = s 290 ∧ (c 6 = 0 ∨ c 6 = 1)) ∧ (c 7 = s 291 ∧ (c 7 = 0 ∨ c 7 = 1)) ∧ c 13 = s 304 ∧ c 14 = s 305 ∧ (c 15 = s 303 ∧ (c 15 = 0 ∨ c 15 = 1))
/-- what is busy -/
def BuR (n : Nat) (c s : Fn) : Prop := (c 8 = -1 ∧ s 293 = 0) ∨ (((c 8 = 2 ∧ s 293 = 1) ∨ (c 8 = 32 ∧ s 293 = 2 ∧ ∃ j, j < n ∧ c 9 = nI j ∧ s 294 = nI j) ∨ (c 8 = 199 ∧ s 293 = 3)) ∧ ∃ L, 1 ≤ L ∧ L ≤ 200 ∧ c 10 = nI L ∧ s 295 = nI L)
/-- what is suspended -/
def SuR (n : Nat) (c s : Fn) : Prop := (c 11 = -1 ∧ s 296 = 0 ∧ c 12 = 0) ∨ ∃ j L, j < n ∧ 1 ≤ L ∧ L ≤ 200 ∧ c 11 = nI j ∧ s 296 = nI (j + 1) ∧ c 12 = nI L ∧ s 297 = nI L
/-- the wires: selected, how many were put, the command, the first byte, the page -/
def WiR (B : Nat) (w g s : Fn) : Prop := (w 0 = s 298 ∧ (w 0 = 0 ∨ w 0 = 1)) ∧ ∃ k, k ≤ B ∧ w 1 = nI k ∧ s 299 = nI k ∧ (w 0 = 0 → k = 0) ∧ (1 ≤ k → w 2 = s 300 ∧ ∃ v, v < 256 ∧ w 2 = nI v) ∧ (2 ≤ k → ∃ a, a < 256 ∧ w 3 = nI a ∧ s 301 = nI a) ∧ (k = 2 → s 302 = w 3) ∧ (k = 0 → ∀ j, j < 16 → g j = -1) ∧
  (1 ≤ k → ∀ j, j < 16 → (s (272 + j) = 1 ∧ g j = s (256 + j) ∧ ∃ v, v < 256 ∧ g j = nI v) ∨ (s (272 + j) = 0 ∧ g j = -1))
def ChR (n B : Nat) (c w g b k s : Fn) : Prop := ByR b s ∧ LkR k s ∧ ScR c s ∧ BuR n c s ∧ SuR n c s ∧ WiR B w g s
def TxR (t l m x : Fn) : Prop := ∃ L, L ≤ 200 ∧ t 1 = nI L ∧ m 0 = nI L ∧ ∀ j, j < L → l j = x j ∧ ∃ v, 32 ≤ v ∧ v ≤ 126 ∧ x j = nI v
def Rel (B : Nat) (f0 f1 f2 f3 f4 f5 f6 f7 f8 f9 f10 f11 f12 f13 f14 f15 f16 f17 f18 f19 f20 f21 g0 g1 g2 g3 g4 g5 : Fn) : Prop :=
  TxR f1 f2 g0 g1 ∧ (∃ p q n t e, Shp f5 p q n t e ∧ (∀ i, i < 5 → g2 i = f5 i) ∧ ChR n B f4 f6 f7 f8 f9 g4 ∧
    ∃ K, K ≤ 2 ∧ f0 4 = nI K ∧ g0 8 = nI K ∧ (1 ≤ K → (∀ i, i < 5 → f11 i = f5 i) ∧ ChR n B f10 f12 f13 f14 f15 g5) ∧ (2 ≤ K → (∀ i, i < 5 → f17 i = f5 i) ∧ ChR n B f16 f18 f19 f20 f21 (fun i => g5 (306 + i))))
theorem WiR.up {B C : Nat} {w g s : Fn} (h : WiR B w g s) (hB : B ≤ C) : WiR C w g s := by
  obtain ⟨h1, k, h2, h3⟩ := h
  exact ⟨h1, k, Nat.le_trans h2 hB, h3⟩
theorem ChR.up {n B C : Nat} {c w g b k s : Fn} (h : ChR n B c w g b k s) (hB : B ≤ C) : ChR n C c w g b k s := ⟨h.1, h.2.1, h.2.2.1, h.2.2.2.1, h.2.2.2.2.1, h.2.2.2.2.2.up hB⟩
theorem Rel.up {B : Nat} {f0 f1 f2 f3 f4 f5 f6 f7 f8 f9 f10 f11 f12 f13 f14 f15 f16 f17 f18 f19 f20 f21 g0 g1 g2 g3 g4 g5 : Fn} (h : Rel B f0 f1 f2 f3 f4 f5 f6 f7 f8 f9 f10 f11 f12 f13 f14 f15 f16 f17 f18 f19 f20 f21 g0 g1 g2 g3 g4 g5) : Rel (B + 1) f0 f1 f2 f3 f4 f5 f6 f7 f8 f9 f10 f11 f12 f13 f14 f15 f16 f17 f18 f19 f20 f21 g0 g1 g2 g3 g4 g5 := by
  obtain ⟨h1, p, q, n, t, e, h2, h3, h4, K, h5, h6, h7, h8, h9⟩ := h
  exact ⟨h1, p, q, n, t, e, h2, h3, h4.up (by omega), K, h5, h6, h7, fun z => ⟨(h8 z).1, (h8 z).2.up (by omega)⟩, fun z => ⟨(h9 z).1, (h9 z).2.up (by omega)⟩⟩
