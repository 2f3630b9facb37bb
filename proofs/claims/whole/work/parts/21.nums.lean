/-! ===== numbers and pure computations ===== -/
theorem lit_n (n : Nat) : (@OfNat.ofNat Int32 n Int32.instOfNat) = nI n := (rfl)
theorem oB_s {α β : Type} (a : α) (k : α → Option β) : oB (some a) k = k a := rfl
theorem oI_n {α : Type} {j n : Nat} {k : Option α} (h : j < n) (hn : n < 2 ^ 31) : oI (nI j) n k = k := if_neg (vp_in_nI h hn)
theorem oD_n {α : Type} {d : Nat} {k : Option α} (h : 0 < d) (hd : d < 2 ^ 31) : oD (nI d) k = k := if_neg (nI_ne0 h hd)
theorem oZ_b {α : Type} {x : Int32} {k : Option α} (h : x = 0 ∨ x = 1) : oZ x k = k := if_pos h
theorem ix_n {j : Nat} (h : j < 2 ^ 31) : ix (nI j) = j := nI_clamp h
theorem irm_n {a d : Nat} (ha : a < 2 ^ 31) (h0 : 0 < d) (hd : d < 2 ^ 31) : irm (nI a) (nI d) = nI (a % d) := pk_rem ha h0 hd
theorem upd_s {f : Fn} {k : Nat} {x : Int32} : upd f k x k = x := pk_us
theorem upd_n {f : Fn} {k j : Nat} {x : Int32} (h : j ≠ k) : upd f k x j = f j := pk_un h
theorem upd_u {f : Fn} {k : Nat} {x y : Int32} : upd (upd f k x) k y = upd f k y := by
  funext j
  by_cases h : j = k <;> simp [upd, h]
theorem nI_m1 {a : Nat} (h : a < 2 ^ 31) : ¬ nI a = -1 := fun e => by
  have h1 := nI_toInt h
  rw [e] at h1
  have h2 : (-1 : Int32).toInt = -1 := by decide
  omega
theorem nI_inj {a b : Nat} (ha : a < 2 ^ 31) (hb : b < 2 ^ 31) (h : nI a = nI b) : a = b := (nI_eq ha hb).mp h
theorem pz_tri (x y : Int64) : (y < x ∧ ¬ x < y ∧ ¬ x = y) ∨ (¬ y < x ∧ x < y ∧ ¬ x = y) ∨ (¬ y < x ∧ ¬ x < y ∧ x = y) := by
  simp only [Int64.lt_iff_toInt_lt, ← Int64.toInt_inj]
  omega
theorem lg_lt0 (x y : Int64) : lg_cmp x y < 0 ↔ x < y := by
  unfold lg_cmp
  rcases pz_tri x y with ⟨a, b, c⟩ | ⟨a, b, c⟩ | ⟨a, b, c⟩ <;> simp [a, b, c]
theorem lg_gt0 (x y : Int64) : 0 < lg_cmp x y ↔ y < x := by
  unfold lg_cmp
  rcases pz_tri x y with ⟨a, b, c⟩ | ⟨a, b, c⟩ | ⟨a, b, c⟩ <;> simp [a, b, c]
theorem i64_lt (x y : Int32) : x.toInt64 < y.toInt64 ↔ x < y := by
  rw [Int64.lt_iff_toInt_lt, Int32.lt_iff_toInt_lt, Int32.toInt_toInt64, Int32.toInt_toInt64]
theorem in_spec (u a b : Int32) : zX5_in u.toInt64 a.toInt64 b.toInt64 = if u < a then some 0 else if b < u then some 0 else some 1 := by
  unfold zX5_in
  simp only [lg_lt0, lg_gt0, i64_lt]
theorem L0 : (0 : Int64) = Int32.toInt64 0 := by decide
theorem L1 : (1 : Int64) = Int32.toInt64 1 := by decide
theorem L2 : (2 : Int64) = Int32.toInt64 2 := by decide
theorem L4 : (4 : Int64) = Int32.toInt64 4 := by decide
theorem L7 : (7 : Int64) = Int32.toInt64 7 := by decide
theorem L8 : (8 : Int64) = Int32.toInt64 8 := by decide
theorem L9 : (9 : Int64) = Int32.toInt64 9 := by decide
theorem L20 : (20 : Int64) = Int32.toInt64 20 := by decide
theorem L32 : (32 : Int64) = Int32.toInt64 32 := by decide
theorem L40 : (40 : Int64) = Int32.toInt64 40 := by decide
theorem L48 : (48 : Int64) = Int32.toInt64 48 := by decide
theorem L57 : (57 : Int64) = Int32.toInt64 57 := by decide
theorem L99 : (99 : Int64) = Int32.toInt64 99 := by decide
theorem L126 : (126 : Int64) = Int32.toInt64 126 := by decide
theorem L255 : (255 : Int64) = Int32.toInt64 255 := by decide
/-- what is not below 0 and not above M is a number up to it -/
theorem nI_mid {u : Int32} {M : Nat} (hM : M < 2 ^ 31) (h0 : ¬ u < 0) (h1 : u ≤ nI M) : ∃ v, v ≤ M ∧ u = nI v := by
  obtain ⟨j, hj, e⟩ := nI_of h0
  subst e
  exact ⟨j, (nI_leI hj hM).mp h1, rfl⟩
theorem i_nlt {x y : Int32} : ¬ x < y ↔ y ≤ x := Int32.not_lt
theorem i_nle {x y : Int32} : ¬ x ≤ y ↔ y < x := Int32.not_le
