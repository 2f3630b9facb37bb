/-! ===== the text is read ===== -/
/-- the text: L letters, the same on both sides -/
def Txt (L : Nat) (l x : Fn) : Prop := L ≤ 200 ∧ ∀ j, j < L → l j = x j ∧ ∃ v, 32 ≤ v ∧ v ≤ 126 ∧ x j = nI v
theorem nextX {f l : Fn} {L i : Nat} (hL : L ≤ 200) (h1 : f 1 = nI L) (h3 : f 3 = nI i) (hi : i < 1000) : zX2_nextLetter f l = some (if i < L then l i else -4) := by
  unfold zX2_nextLetter
  rw [h1, h3, if_neg (nI_pos (by omega))]
  by_cases c : i < L
  · rw [if_neg (nI_ge (by omega) (by omega)), if_pos (show nI i < 200 from nI_lt (b := 200) (by omega) (by omega)), oI_n (by omega) (by omega), ix_n (by omega), if_pos c]
  · rw [if_pos (nI_le (by omega) (by omega)), if_neg c]
theorem byteAtM {m x : Fn} {L i : Nat} (hL : L ≤ 200) (h0 : m 0 = nI L) (hi : i < 1000) : zX5_byteAt m x (nI i) = some (if i < L then x i else 0) := by
  unfold zX5_byteAt
  rw [h0]
  by_cases c : i < L
  · rw [if_neg (nI_ge (by omega) (by omega)), oI_n (by omega) (by omega), ix_n (by omega), if_pos c]
  · rw [if_pos (nI_le (by omega) (by omega)), if_neg c]
/-- a figure stands at i -/
def Dg (L : Nat) (x : Fn) (i : Nat) : Prop := i < L ∧ ∃ v, 48 ≤ v ∧ v ≤ 57 ∧ x i = nI v
theorem figX {L : Nat} {l x : Fn} {i : Nat} (hT : Txt L l x) : (Dg L x i ∧ zX2_isFigure (if i < L then l i else -4) = some 1) ∨ (¬ Dg L x i ∧ zX2_isFigure (if i < L then l i else -4) = some 0) := by
  unfold zX2_isFigure
  by_cases c : i < L
  · obtain ⟨e1, v, v1, v2, v3⟩ := hT.2 i c
    rw [if_pos c, e1, v3]
    by_cases d1 : 48 ≤ v
    · by_cases d2 : v ≤ 57
      · refine Or.inl ⟨⟨c, v, d1, d2, v3⟩, ?_⟩
        rw [if_neg (show ¬ nI v < 48 from nI_nlt (b := 48) d1 (by omega)), if_neg (show ¬ (57 : Int32) < nI v from nI_nlt (a := 57) d2 (by omega))]
      · refine Or.inr ⟨fun ⟨_, w, w1, w2, w3⟩ => d2 (by have := nI_inj (by omega) (by omega) (v3.symm.trans w3); omega), ?_⟩
        rw [if_neg (show ¬ nI v < 48 from nI_nlt (b := 48) d1 (by omega)), if_pos (show (57 : Int32) < nI v from nI_lt (a := 57) (by omega) (by omega))]
    · refine Or.inr ⟨fun ⟨_, w, w1, w2, w3⟩ => d1 (by have := nI_inj (by omega) (by omega) (v3.symm.trans w3); omega), ?_⟩
      rw [if_pos (show nI v < 48 from nI_lt (b := 48) (by omega) (by omega))]
  · refine Or.inr ⟨fun h => c h.1, ?_⟩
    rw [if_neg c]
    rfl
theorem figM {L : Nat} {l x : Fn} {i : Nat} (hT : Txt L l x) : (Dg L x i ∧ zX5_in (Int32.toInt64 (if i < L then x i else 0)) 48 57 = some 1) ∨ (¬ Dg L x i ∧ zX5_in (Int32.toInt64 (if i < L then x i else 0)) 48 57 = some 0) := by
  rw [L48, L57, in_spec]
  by_cases c : i < L
  · obtain ⟨e1, v, v1, v2, v3⟩ := hT.2 i c
    rw [if_pos c, v3]
    by_cases d1 : 48 ≤ v
    · by_cases d2 : v ≤ 57
      · refine Or.inl ⟨⟨c, v, d1, d2, v3⟩, ?_⟩
        rw [if_neg (show ¬ nI v < 48 from nI_nlt (b := 48) d1 (by omega)), if_neg (show ¬ (57 : Int32) < nI v from nI_nlt (a := 57) d2 (by omega))]
      · refine Or.inr ⟨fun ⟨_, w, w1, w2, w3⟩ => d2 (by have := nI_inj (by omega) (by omega) (v3.symm.trans w3); omega), ?_⟩
        rw [if_neg (show ¬ nI v < 48 from nI_nlt (b := 48) d1 (by omega)), if_pos (show (57 : Int32) < nI v from nI_lt (a := 57) (by omega) (by omega))]
    · refine Or.inr ⟨fun ⟨_, w, w1, w2, w3⟩ => d1 (by have := nI_inj (by omega) (by omega) (v3.symm.trans w3); omega), ?_⟩
      rw [if_pos (show nI v < 48 from nI_lt (b := 48) (by omega) (by omega))]
  · refine Or.inr ⟨fun h => c h.1, ?_⟩
    rw [if_neg c]
    rfl
/-- what the reference answers behind d figures with the value v -/
theorem k63_eq {m x : Fn} {L i d : Nat} {en v : Int32} (hL : L ≤ 200) (h0 : m 0 = nI L) (h2 : m 2 = nI i) (hi : i < 900) (hd : 1 ≤ d ∧ d ≤ 2) (hen : ¬ (0 : Int32) = en) : zX5_number_k63 m x en v (nI d) = some (if i < L ∧ x i = en then v else -1, upd m 2 (nI (i + 1))) := by
  unfold zX5_number_k63 zX5_number_k84
  rw [if_neg (show ¬ nI d ≤ 0 from nI_nle (by omega) (by omega)), h2, byteAtM hL h0 (by omega), oB_s, nI_1]
  by_cases c : i < L
  · rw [if_pos c]
    by_cases c2 : x i = en
    · rw [if_pos c2, if_neg (show ¬ (1 : Int32) = 0 by decide), if_pos ⟨c, c2⟩]
    · rw [if_neg c2, if_pos rfl, if_neg (fun z => c2 z.2)]
  · rw [if_neg c, if_neg hen, if_pos rfl, if_neg (fun z => c z.1)]
set_option maxHeartbeats 1000000 in
/-- a number, on both sides: d figures, the value v -/
theorem number_rel {L i : Nat} {l x f m : Fn} (hT : Txt L l x) (h1 : f 1 = nI L) (h3 : f 3 = nI i) (h0 : m 0 = nI L) (h2 : m 2 = nI i) (hi : i < 800) : ∃ (d : Nat) (v : Int32), d ≤ 2 ∧ (1 ≤ d → ∃ w, w < 100 ∧ v = nI w) ∧ zX2_readNumber f l = some (if d = 0 then -4 else v, upd f 3 (nI (i + d))) ∧
    ∀ en : Int32, ¬ (0 : Int32) = en → zX5_number m x en = some (if d ≠ 0 ∧ i + d < L ∧ x (i + d) = en then v else -1, upd m 2 (nI (i + d + 1))) := by
  have hL := hT.1
  have hn1 := nextX (l := l) hL h1 h3 (by omega)
  have h3' : (upd f 3 ((f 3) + 1)) 3 = nI (i + 1) := by rw [upd_s, h3, nI_1]
  have h1' : (upd f 3 ((f 3) + 1)) 1 = nI L := h1
  have hn2 := nextX (l := l) hL h1' h3' (by omega)
  have hm1 := byteAtM (x := x) hL h0 (i := i) (by omega)
  have h0' : (upd m 2 (nI (i + 1))) 0 = nI L := h0
  have h2' : (upd m 2 (nI (i + 1))) 2 = nI (i + 1) := upd_s
  have hm2 := byteAtM (x := x) hL h0' (i := i + 1) (by omega)
  have e1 : upd f 3 (f 3 + 1) = upd f 3 (nI (i + 1)) := by rw [h3, nI_1]
  have hfX := figX (i := i) hT
  have hfM := figM (i := i) hT
  by_cases dg : Dg L x i
  · obtain ⟨-, fx⟩ := hfX.resolve_right (fun z => z.1 dg)
    obtain ⟨-, fm⟩ := hfM.resolve_right (fun z => z.1 dg)
    obtain ⟨iL, a, a1, a2, a3⟩ := dg
    have la : l i = nI a := (hT.2 i iL).1.trans a3
    have va : nI a - 48 = nI (a - 48) := pk_sub (b := 48) (by omega)
    have vm : (((10 * (0 : Int32)) + nI a) - 48) = nI (a - 48) := by
      rw [show (10 : Int32) * 0 = nI 0 from by decide, nI_add, Nat.zero_add, va]
    have hfX2 := figX (i := i + 1) hT
    have hfM2 := figM (i := i + 1) hT
    by_cases dg2 : Dg L x (i + 1)
    · obtain ⟨-, fx2⟩ := hfX2.resolve_right (fun z => z.1 dg2)
      obtain ⟨-, fm2⟩ := hfM2.resolve_right (fun z => z.1 dg2)
      obtain ⟨jL, b, b1, b2, b3⟩ := dg2
      have lb : l (i + 1) = nI b := (hT.2 (i + 1) jL).1.trans b3
      have vX : ((((nI a - 48) * 10) + nI b) - 48) = nI ((a - 48) * 10 + b - 48) := by
        rw [va, show (10 : Int32) = nI 10 from rfl, pk_mul, nI_add, show (48 : Int32) = nI 48 from rfl, pk_sub (by omega)]
      have vM : (((10 * nI (a - 48)) + nI b) - 48) = nI ((a - 48) * 10 + b - 48) := by
        rw [show (10 : Int32) = nI 10 from rfl, pk_mul, nI_add, show (48 : Int32) = nI 48 from rfl, pk_sub (by omega)]
        exact congrArg nI (by omega)
      refine ⟨2, nI ((a - 48) * 10 + b - 48), by omega, fun _ => ⟨_, by omega, rfl⟩, ?_, fun en hen => ?_⟩
      · unfold zX2_readNumber
        rw [hn1, oB_s, fx, oB_s, if_neg (show ¬ (1 : Int32) = 0 by decide), oB_s, hn2, oB_s, fx2, oB_s, if_neg (show ¬ (1 : Int32) = 0 by decide), oB_s, if_pos iL, if_pos jL, la, lb, vX, h3', upd_u, nI_1, if_neg (by omega)]
      · unfold zX5_number
        rw [zX5_number_k4, if_neg (by decide), h2, hm1, oB_s, fm, oB_s, if_neg (show ¬ (1 : Int32) = 0 by decide), oB_s, if_pos iL, a3, vm, nI_1, show (0 : Int32) + 1 = nI 1 by decide, zX5_number_k4, if_neg (by decide), h2', hm2, oB_s, fm2, oB_s, if_neg (show ¬ (1 : Int32) = 0 by decide), oB_s, if_pos jL, b3, vM, upd_u, nI_1, show nI 1 + 1 = nI 2 by decide, zX5_number_k4, if_pos (by decide)]
        have := k63_eq (m := upd m 2 (nI (i + 1 + 1))) (x := x) (i := i + 1 + 1) (d := 2) (en := en) (v := nI ((a - 48) * 10 + b - 48)) hL h0 upd_s (by omega) (by omega) hen
        rw [this, upd_u]
        by_cases z : i + 1 + 1 < L ∧ x (i + 1 + 1) = en
        · rw [if_pos z, if_pos ⟨by omega, z⟩]
        · rw [if_neg z, if_neg (fun q => z q.2)]
    · obtain ⟨-, fx2⟩ := hfX2.resolve_left (fun z => dg2 z.1)
      obtain ⟨-, fm2⟩ := hfM2.resolve_left (fun z => dg2 z.1)
      refine ⟨1, nI (a - 48), by omega, fun _ => ⟨_, by omega, rfl⟩, ?_, fun en hen => ?_⟩
      · unfold zX2_readNumber
        rw [hn1, oB_s, fx, oB_s, if_neg (show ¬ (1 : Int32) = 0 by decide), oB_s, hn2, oB_s, fx2, oB_s, if_pos rfl, if_pos iL, la, va, e1, if_neg (by omega)]
      · unfold zX5_number
        rw [zX5_number_k4, if_neg (by decide), h2, hm1, oB_s, fm, oB_s, if_neg (show ¬ (1 : Int32) = 0 by decide), oB_s, if_pos iL, a3, vm, nI_1, show (0 : Int32) + 1 = nI 1 by decide, zX5_number_k4, if_neg (by decide), h2', hm2, oB_s, fm2, oB_s, if_pos rfl]
        have := k63_eq (m := upd m 2 (nI (i + 1))) (x := x) (i := i + 1) (d := 1) (en := en) (v := nI (a - 48)) hL h0 upd_s (by omega) (by omega) hen
        rw [this, upd_u]
        by_cases z : i + 1 < L ∧ x (i + 1) = en
        · rw [if_pos z, if_pos ⟨by omega, z⟩]
        · rw [if_neg z, if_neg (fun q => z q.2)]
  · obtain ⟨-, fx⟩ := hfX.resolve_left (fun z => dg z.1)
    obtain ⟨-, fm⟩ := hfM.resolve_left (fun z => dg z.1)
    refine ⟨0, 0, by omega, fun z => by omega, ?_, fun en hen => ?_⟩
    · unfold zX2_readNumber
      rw [hn1, oB_s, fx, oB_s, if_pos rfl, if_pos rfl, Nat.add_zero, ← h3, upd_id]
    · unfold zX5_number
      rw [zX5_number_k4, if_neg (by decide), h2, hm1, oB_s, fm, oB_s, if_pos rfl]
      unfold zX5_number_k63 zX5_number_k84
      rw [if_pos (by decide), if_pos rfl, if_neg (fun z => z.1 rfl), h2, nI_1, Nat.add_zero]
theorem skipX {L i : Nat} {l x f : Fn} {en : Int32} (hT : Txt L l x) (h1 : f 1 = nI L) (h3 : f 3 = nI i) (hi : i < 900) (hen : ¬ (-4 : Int32) = en) : zX2_skip f l en = if i < L ∧ x i = en then some (1, upd f 3 (nI (i + 1))) else some (0, f) := by
  unfold zX2_skip
  rw [nextX hT.1 h1 h3 (by omega), oB_s, h3, nI_1]
  by_cases c : i < L
  · rw [if_pos c, (hT.2 i c).1]
    by_cases c2 : x i = en
    · rw [if_pos c2, if_pos ⟨c, c2⟩]
    · rw [if_neg c2, if_neg (fun z => c2 z.2)]
  · rw [if_neg c, if_neg hen, if_neg (fun z => c z.1)]
