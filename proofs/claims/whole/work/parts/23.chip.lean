/-! ===== the chip: what is read off it ===== -/
theorem b01 {x : Int32} (h : x = 0 ∨ x = 1) : ∃ v, (v = 0 ∨ v = 1) ∧ x = nI v := by
  rcases h with h | h
  · exact ⟨0, Or.inl rfl, h⟩
  · exact ⟨1, Or.inr rfl, h⟩
theorem BuR.two {n : Nat} {c s : Fn} (h : BuR n c s) : ∃ v, (v = 0 ∧ c 8 = -1 ∧ s 293 = nI 0) ∨ (v = 1 ∧ ¬ c 8 = -1 ∧ ∃ j, 1 ≤ j ∧ j ≤ 3 ∧ s 293 = nI j) := by
  rcases h with ⟨h1, h2⟩ | ⟨(⟨h1, h2⟩ | ⟨h1, h2, _⟩ | ⟨h1, h2⟩), _⟩
  · exact ⟨0, Or.inl ⟨rfl, h1, h2⟩⟩
  · exact ⟨1, Or.inr ⟨rfl, by rw [h1]; decide, 1, by omega, by omega, h2⟩⟩
  · exact ⟨1, Or.inr ⟨rfl, by rw [h1]; decide, 2, by omega, by omega, h2⟩⟩
  · exact ⟨1, Or.inr ⟨rfl, by rw [h1]; decide, 3, by omega, by omega, h2⟩⟩
theorem SuR.two {n : Nat} {c s : Fn} (h : SuR n c s) (hn : n ≤ 8) : ∃ v, (v = 0 ∧ c 11 = -1 ∧ s 296 = nI 0) ∨ (v = 1 ∧ ¬ c 11 = -1 ∧ ∃ j, 1 ≤ j ∧ j ≤ 8 ∧ s 296 = nI j) := by
  rcases h with ⟨h1, h2, _⟩ | ⟨j, L, h1, h2, h3, h4, h5, _⟩
  · exact ⟨0, Or.inl ⟨rfl, h1, h2⟩⟩
  · exact ⟨1, Or.inr ⟨rfl, by rw [h4]; exact nI_m1 (by omega), j + 1, by omega, by omega, h5⟩⟩
set_option maxRecDepth 100000 in
theorem status_rel {n : Nat} {c s : Fn} (h : ScR c s) (hb : BuR n c s) (hs : SuR n c s) (hn : n ≤ 8) : ∃ r, r < 256 ∧ zX0_status c = some (nI r) ∧ zX5_status s = some (nI r) := by
  obtain ⟨-, ⟨lv, hlv, a1, a2⟩, ⟨a3, a4⟩, ⟨a5, a6⟩, -⟩ := h
  obtain ⟨en, hen, e1⟩ := b01 a4
  obtain ⟨er, her, e2⟩ := b01 a6
  obtain ⟨bu, hbu⟩ := hb.two
  obtain ⟨su, hsu⟩ := hs.two hn
  have e3 : s 290 = nI en := a3.symm.trans e1
  have e4 : s 291 = nI er := a5.symm.trans e2
  have hlt : 4 * lv + bu + 2 * en + 64 * su + 128 * er < 256 := by
    have h1 : bu ≤ 1 := by rcases hbu with ⟨z, -⟩ | ⟨z, -⟩ <;> rw [z] <;> decide
    have h2 : su ≤ 1 := by rcases hsu with ⟨z, -⟩ | ⟨z, -⟩ <;> rw [z] <;> decide
    clear hbu hsu
    omega
  refine ⟨4 * lv + bu + 2 * en + 64 * su + 128 * er, hlt, ?_, ?_⟩
  · unfold zX0_status zX0_isBusy zX0_status_k17 zX0_status_k27 zX0_isSuspended zX0_status_k37
    rcases hbu with ⟨rfl, b1, _⟩ | ⟨rfl, b1, _⟩ <;> rcases hsu with ⟨rfl, s1, _⟩ | ⟨rfl, s1, _⟩ <;> rcases hen with rfl | rfl <;> rcases her with rfl | rfl <;>
      (simp only [b1, s1, e1, e2, a1, ↓reduceIte, oB_s]
       simp only [lit_n]
       simp (disch := omega) only [nI_eq, if_neg, pk_mul, nI_add, oB_s, ↓reduceIte]
       try exact congrArg (fun x => some (nI x)) (by omega))
  · unfold zX5_status zX5_status_k16 zX5_status_k55
    rcases hbu with ⟨rfl, _, b1⟩ | ⟨rfl, _, j, hj1, hj2, b1⟩ <;> rcases hsu with ⟨rfl, _, s1⟩ | ⟨rfl, _, i, hi1, hi2, s1⟩ <;>
      (simp only [b1, s1, e3, e4, a2, lit_n]
       simp (disch := omega) only [nI_leI, if_neg, if_pos, pk_mul, nI_add, oB_s, ↓reduceIte]
       exact congrArg (fun x => some (nI x)) (by omega))
