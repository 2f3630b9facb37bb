/-! ===== the wires' calls ===== -/
/-- the relation with another chip behind it -/
theorem Rel.chip {B C : Nat} {f0 f1 f2 f3 f4 f5 f6 f7 f8 f9 f10 f11 f12 f13 f14 f15 f16 f17 f18 f19 f20 f21 g0 g1 g2 g3 g4 g5 : Fn} (h : Rel B f0 f1 f2 f3 f4 f5 f6 f7 f8 f9 f10 f11 f12 f13 f14 f15 f16 f17 f18 f19 f20 f21 g0 g1 g2 g3 g4 g5) {f4' f6' f7' f8' f9' g4' : Fn} (hB : B ≤ C) (hc : ∀ p q n t e, Shp f5 p q n t e → ChR n B f4 f6 f7 f8 f9 g4 → ChR n C f4' f6' f7' f8' f9' g4') : Rel C f0 f1 f2 f3 f4' f5 f6' f7' f8' f9' f10 f11 f12 f13 f14 f15 f16 f17 f18 f19 f20 f21 g0 g1 g2 g3 g4' g5 := by
  obtain ⟨h1, p, q, n, t, e, h2, h3, h4, K, h5, h6, h7, h8, h9⟩ := h
  exact ⟨h1, p, q, n, t, e, h2, h3, hc p q n t e h2 h4, K, h5, h6, h7, fun z => ⟨(h8 z).1, (h8 z).2.up hB⟩, fun z => ⟨(h9 z).1, (h9 z).2.up hB⟩⟩
theorem Shp.uniq {sh : Fn} {p q n t e p' q' n' t' e' : Nat} (h : Shp sh p q n t e) (h' : Shp sh p' q' n' t' e') : n = n' := by
  have h1 := h.2.2.1
  have h2 := h'.2.2.1
  have h3 := h.2.2.2.2.2.2.2.1
  have h4 := h'.2.2.2.2.2.2.2.1
  exact nI_inj (by omega) (by omega) (h1.symm.trans h2)
theorem selX {w : Fn} (h : w 0 = 0 ∨ w 0 = 1) : zX0_isSelected w = some (w 0) := by
  unfold zX0_isSelected zX3_isSelected
  rw [oZ_b h, oB_s, oZ_b h]
/-- the chip is opened -/
theorem open_rel {n B : Nat} {c w g b k s : Fn} (h : ChR n B c w g b k s) : ∃ w' g', zX0_open w g = some (w', g') ∧ w' 0 = 1 ∧ ChR n 0 c w' g' b k (upd (upd s 298 1) 299 0) := by
  obtain ⟨g', g1, g2⟩ := clearX w g
  obtain ⟨h1, h2, h3, h4, h5, -⟩ := h
  refine ⟨upd (upd (upd (upd (upd w 0 0) 1 0) 2 (-1)) 3 0) 0 1, g', ?_, rfl, h1.s (fun a ha => by rw [upd_n (by omega), upd_n (by omega)]), h2.s rfl, h3.cs ⟨rfl, rfl, rfl, rfl, rfl, rfl, rfl⟩ ⟨rfl, rfl, rfl, rfl, rfl, rfl, rfl⟩, h4.cs ⟨rfl, rfl, rfl⟩ ⟨rfl, rfl, rfl⟩, h5.cs ⟨rfl, rfl⟩ ⟨rfl, rfl⟩, ⟨rfl, Or.inr rfl⟩, 0, by omega, rfl, rfl, fun _ => rfl, fun z => by omega, fun z => by omega, fun z => by omega, fun _ => g2, fun z => by omega⟩
  unfold zX0_open zX3_open
  rw [g1, oB_s, oB_s]
theorem byteX0 {u : Int32} (h : u < 0 ∨ 255 < u) : zX4_isByte u = some 0 := by
  unfold zX4_isByte
  by_cases c : u < 0
  · rw [if_pos c]
  · rw [if_neg c, if_pos (h.resolve_left c)]
theorem byteX1 {u : Int32} (h0 : ¬ u < 0) (h1 : ¬ 255 < u) : zX4_isByte u = some 1 := by
  unfold zX4_isByte
  rw [if_neg h0, if_neg h1]
theorem byteM0 {u : Int32} (h : u < 0 ∨ 255 < u) : zX5_in (Int32.toInt64 u) 0 255 = some 0 := by
  rw [L0, L255, in_spec]
  by_cases c : u < 0
  · rw [if_pos c]
  · rw [if_neg c, if_pos (h.resolve_left c)]
theorem byteM1 {u : Int32} (h0 : ¬ u < 0) (h1 : ¬ 255 < u) : zX5_in (Int32.toInt64 u) 0 255 = some 1 := by
  rw [L0, L255, in_spec, if_neg h0, if_neg h1]
theorem byte_of {u : Int32} (h0 : ¬ u < 0) (h1 : ¬ 255 < u) : ∃ v, v < 256 ∧ u = nI v := by
  obtain ⟨v, hv, e⟩ := nI_mid (M := 255) (by omega) h0 (Int32.not_lt.mp h1)
  exact ⟨v, by omega, e⟩
theorem in40 {u : Int32} : zX5_in (Int32.toInt64 u) 0 40 = if u < 0 then some 0 else if 40 < u then some 0 else some 1 := by
  rw [L0, L40, in_spec]
theorem n10 : ¬ (1 : Int32) = 0 := by decide
theorem op_select {B : Nat} {f0 f1 f2 f3 f4 f5 f6 f7 f8 f9 f10 f11 f12 f13 f14 f15 f16 f17 f18 f19 f20 f21 g0 g1 g2 g3 g4 g5 : Fn} (hB : B ≤ 1000) (h : Rel B f0 f1 f2 f3 f4 f5 f6 f7 f8 f9 f10 f11 f12 f13 f14 f15 f16 f17 f18 f19 f20 f21 g0 g1 g2 g3 g4 g5) : ∃ (r : Int32) (f6' : Fn) (f7' : Fn) (g4' : Fn), zX4_select f4 f6 f7 = some (r, f6', f7') ∧ zX5_select g4 = some (r, g4') ∧ Rel (B + 1) f0 f1 f2 f3 f4 f5 f6' f7' f8 f9 f10 f11 f12 f13 f14 f15 f16 f17 f18 f19 f20 f21 g0 g1 g2 g3 g4' g5 := by
  obtain ⟨-, p, q, n, t, e, hS, hg, hC, -⟩ := id h
  obtain ⟨⟨w1, w2⟩, -⟩ := hC.2.2.2.2.2
  obtain ⟨l, -, l1, l2⟩ := hC.2.2.1.1
  unfold zX4_select zX5_select zX0_lanes
  rw [selX w2, oB_s, ← w1]
  rcases w2 with z | z
  · obtain ⟨w', g', o1, o2, o3⟩ := open_rel hC
    refine ⟨isl 1 (f4 4), w', g', upd (upd g4 298 1) 299 0, ?_, ?_, h.chip (by omega) (fun p' q' n' t' e' hS' _ => ?_)⟩
    · rw [z, if_pos rfl, o1, oB_s, oB_s]
    · rw [z, if_neg (by decide)]
      have e289 : upd (upd g4 298 1) 299 0 289 = g4 289 := rfl
      rw [e289, l1, l2]
    · rw [← hS.uniq hS']
      exact o3.up (by omega)
  · exact ⟨-2, f6, f7, g4, by rw [z]; rfl, by rw [z]; rfl, h.up⟩
theorem op_put {B : Nat} {f0 f1 f2 f3 f4 f5 f6 f7 f8 f9 f10 f11 f12 f13 f14 f15 f16 f17 f18 f19 f20 f21 g0 g1 g2 g3 g4 g5 : Fn} (hB : B ≤ 1000) (h : Rel B f0 f1 f2 f3 f4 f5 f6 f7 f8 f9 f10 f11 f12 f13 f14 f15 f16 f17 f18 f19 f20 f21 g0 g1 g2 g3 g4 g5) (u1 : Int32) : ∃ (r : Int32) (f4' : Fn) (f6' : Fn) (f7' : Fn) (g4' : Fn), zX4_put f4 f5 f6 f7 f8 u1 = some (r, f4', f6', f7') ∧ zX5_put g2 g4 u1 = some (r, g4') ∧ Rel (B + 1) f0 f1 f2 f3 f4' f5 f6' f7' f8 f9 f10 f11 f12 f13 f14 f15 f16 f17 f18 f19 f20 f21 g0 g1 g2 g3 g4' g5 := by
  obtain ⟨-, p, q, n, t, e, hS, hg, hC, -⟩ := id h
  obtain ⟨⟨w1, w2⟩, -⟩ := hC.2.2.2.2.2
  unfold zX4_put zX5_put
  by_cases c0 : u1 < 0
  · exact ⟨-1, f4, f6, f7, g4, by rw [byteX0 (Or.inl c0)]; rfl, by rw [byteM0 (Or.inl c0)]; rfl, h.up⟩
  by_cases c1 : 255 < u1
  · exact ⟨-1, f4, f6, f7, g4, by rw [byteX0 (Or.inr c1)]; rfl, by rw [byteM0 (Or.inr c1)]; rfl, h.up⟩
  rw [byteX1 c0 c1, byteM1 c0 c1, oB_s, oB_s, if_neg n10, if_neg n10, selX w2, oB_s, ← w1]
  rcases w2 with z | z
  · exact ⟨-2, f4, f6, f7, g4, by rw [z]; rfl, by rw [z]; rfl, h.up⟩
  · obtain ⟨v, hv, rfl⟩ := byte_of c0 c1
    obtain ⟨r, c', w', g', s', r0, r1, r2, r3, r4⟩ := accept_rel hS hg (by omega) hC z hv
    refine ⟨nI r, c', w', g', s', ?_, ?_, h.chip (by omega) (fun p' q' n' t' e' hS' _ => ?_)⟩
    · rw [z, if_neg n10, r1, oB_s]
    · rw [z, if_neg n10, r2, oB_s]
    · rw [← hS.uniq hS']
      exact r3
theorem op_release {B : Nat} {f0 f1 f2 f3 f4 f5 f6 f7 f8 f9 f10 f11 f12 f13 f14 f15 f16 f17 f18 f19 f20 f21 g0 g1 g2 g3 g4 g5 : Fn} (hB : B ≤ 1000) (h : Rel B f0 f1 f2 f3 f4 f5 f6 f7 f8 f9 f10 f11 f12 f13 f14 f15 f16 f17 f18 f19 f20 f21 g0 g1 g2 g3 g4 g5) : ∃ (r : Int32) (f4' : Fn) (f6' : Fn) (f7' : Fn) (f8' : Fn) (f9' : Fn) (g4' : Fn), zX4_release f4 f5 f6 f7 f8 f9 = some (r, f4', f6', f7', f8', f9') ∧ zX5_release g2 g4 = some (r, g4') ∧ Rel (B + 1) f0 f1 f2 f3 f4' f5 f6' f7' f8' f9' f10 f11 f12 f13 f14 f15 f16 f17 f18 f19 f20 f21 g0 g1 g2 g3 g4' g5 := by
  obtain ⟨-, p, q, n, t, e, hS, hg, hC, -⟩ := id h
  obtain ⟨⟨w1, w2⟩, -⟩ := hC.2.2.2.2.2
  unfold zX4_release zX5_release
  rw [selX w2, oB_s, ← w1]
  rcases w2 with z | z
  · exact ⟨-2, f4, f6, f7, f8, f9, g4, by rw [z]; rfl, by rw [z]; rfl, h.up⟩
  · obtain ⟨r, c', w', g', b', k', s', r0, r1, r2, r3, r4, r5⟩ := close_rel hS hg (by omega) hC
    refine ⟨nI r, c', w', g', b', k', s', ?_, ?_, h.chip (by omega) (fun p' q' n' t' e' hS' _ => ?_)⟩
    · rw [z, if_neg n10, r1, oB_s, r3, oB_s]
    · rw [z, if_neg n10, r2, oB_s]
    · rw [← hS.uniq hS']
      exact r4.up (by omega)
/-- n bytes, rising, then the end -/
theorem goes_rel {sh g2 b lk : Fn} {p q n t e v N : Nat} (hS : Shp sh p q n t e) (hg : ∀ i, i < 5 → g2 i = sh i) (hv : v < 256) (hN : N ≤ 40) : ∀ (m i fu fv B : Nat) (c w g s : Fn) (x : Nat), i + m = N → m < fu → m < fv → B + m ≤ 1000 → ChR n B c w g b lk s → w 0 = 1 →
    x < 256 → ∃ (r : Nat) (c' w' g' b' k' s' : Fn), r < 256 ∧ zX4_closeBehind_k6 fu c sh w g b lk (nI v) (nI N) (nI x) (nI i) = some (nI r, c', w', g', b', k') ∧ zX5_goesOn_k6 fv g2 s (nI v) (nI N) (nI x) (nI i) = some (nI r, s') ∧ ChR n 0 c' w' g' b' k' s' := by
  intro m
  induction m with
  | zero =>
    intro i fu fv B c w g s x hi hf hf' hB hC hw hx
    obtain ⟨f, rfl⟩ : ∃ f, fu = f + 1 := ⟨fu - 1, by omega⟩
    obtain ⟨f', rfl⟩ : ∃ f, fv = f + 1 := ⟨fv - 1, by omega⟩
    obtain ⟨r, c', w', g', b', k', s', r0, r1, r2, r3, r4, r5⟩ := close_rel hS hg (by omega) hC
    refine ⟨x, c', w', g', b', k', s', hx, ?_, ?_, r4⟩
    · rw [zX4_closeBehind_k6, if_pos (nI_le (by omega) (by omega)), r1, oB_s]
    · rw [zX5_goesOn_k6, if_pos (nI_le (by omega) (by omega)), r2, oB_s, if_pos (nI_pos' (by omega))]
  | succ m ih =>
    intro i fu fv B c w g s x hi hf hf' hB hC hw hx
    obtain ⟨f, rfl⟩ : ∃ f, fu = f + 1 := ⟨fu - 1, by omega⟩
    obtain ⟨f', rfl⟩ : ∃ f, fv = f + 1 := ⟨fv - 1, by omega⟩
    have e1 : (nI v + nI i) &&& 255 = nI ((v + i) % 256) := by
      rw [nI_add, pk_andN (k := 8) (by omega) (by decide)]
    have e2 : irm (nI v + nI i) 256 = nI ((v + i) % 256) := by
      rw [nI_add, show (256 : Int32) = nI 256 from rfl, irm_n (by omega) (by omega) (by omega)]
    obtain ⟨r, c', w', g', s', r0, r1, r2, r3, r4⟩ := accept_rel hS hg (by omega) hC hw (v := (v + i) % 256) (by omega)
    obtain ⟨r', c2, w2, g2', b2, k2, s2, q0, q1, q2, q3⟩ := ih (i + 1) f f' (B + 1) c' w' g' s' r (by omega) (by omega) (by omega) (by omega) r3 r4 r0
    refine ⟨r', c2, w2, g2', b2, k2, s2, q0, ?_, ?_, q3⟩
    · rw [zX4_closeBehind_k6, if_neg (nI_ge (by omega) (by omega)), e1, r1, oB_s, nI_1]
      exact q1
    · rw [zX5_goesOn_k6, if_neg (nI_ge (by omega) (by omega)), e2, r2, oB_s, nI_1]
      exact q2
set_option maxHeartbeats 1000000 in
theorem op_send {B : Nat} {f0 f1 f2 f3 f4 f5 f6 f7 f8 f9 f10 f11 f12 f13 f14 f15 f16 f17 f18 f19 f20 f21 g0 g1 g2 g3 g4 g5 : Fn} (hB : B ≤ 1000) (h : Rel B f0 f1 f2 f3 f4 f5 f6 f7 f8 f9 f10 f11 f12 f13 f14 f15 f16 f17 f18 f19 f20 f21 g0 g1 g2 g3 g4 g5) (u1 u2 u3 u4 : Int32) : ∃ (r : Int32) (f4' : Fn) (f6' : Fn) (f7' : Fn) (f8' : Fn) (f9' : Fn) (g4' : Fn), zX4_send f4 f5 f6 f7 f8 f9 u1 u2 u3 u4 = some (r, f4', f6', f7', f8', f9') ∧ zX5_send g2 g4 u1 u2 u3 u4 = some (r, g4') ∧ Rel (B + 1) f0 f1 f2 f3 f4' f5 f6' f7' f8' f9' f10 f11 f12 f13 f14 f15 f16 f17 f18 f19 f20 f21 g0 g1 g2 g3 g4' g5 := by
  obtain ⟨-, p, q, n, t, e, hS, hg, hC, -⟩ := id h
  obtain ⟨⟨w1, w2⟩, -⟩ := hC.2.2.2.2.2
  unfold zX4_send zX5_send
  by_cases a0 : u1 < 0 ∨ 255 < u1
  · exact ⟨-1, f4, f6, f7, f8, f9, g4, by rw [byteX0 a0]; rfl, by rw [byteM0 a0]; rfl, h.up⟩
  have a1 : ¬ u1 < 0 := fun z => a0 (Or.inl z)
  have a2 : ¬ 255 < u1 := fun z => a0 (Or.inr z)
  rw [byteX1 a1 a2, byteM1 a1 a2, oB_s, oB_s, if_neg n10, if_neg n10]
  by_cases b0 : u2 < 0 ∨ 255 < u2
  · exact ⟨-1, f4, f6, f7, f8, f9, g4, by rw [byteX0 b0]; rfl, by rw [byteM0 b0]; rfl, h.up⟩
  have b1 : ¬ u2 < 0 := fun z => b0 (Or.inl z)
  have b2 : ¬ 255 < u2 := fun z => b0 (Or.inr z)
  rw [byteX1 b1 b2, byteM1 b1 b2, oB_s, oB_s, if_neg n10, if_neg n10]
  by_cases c0 : u3 < 0 ∨ 255 < u3
  · exact ⟨-1, f4, f6, f7, f8, f9, g4, by rw [byteX0 c0]; rfl, by rw [byteM0 c0]; rfl, h.up⟩
  have c1 : ¬ u3 < 0 := fun z => c0 (Or.inl z)
  have c2 : ¬ 255 < u3 := fun z => c0 (Or.inr z)
  rw [byteX1 c1 c2, byteM1 c1 c2, oB_s, oB_s, if_neg n10, if_neg n10, in40]
  by_cases d1 : u4 < 0
  · exact ⟨-1, f4, f6, f7, f8, f9, g4, by rw [if_pos d1], by rw [if_pos d1]; rfl, h.up⟩
  rw [if_neg d1, if_neg d1]
  rcases (Decidable.em (u4 ≤ 40)).symm with d2 | d2
  · exact ⟨-1, f4, f6, f7, f8, f9, g4, by rw [if_neg d2], by rw [if_pos (Int32.not_le.mp d2)]; rfl, h.up⟩
  rw [if_pos d2, if_neg (Int32.not_lt.mpr d2), oB_s, if_neg n10, selX w2, oB_s]
  unfold zX5_select
  rw [← w1]
  rcases w2.symm with z | z
  · exact ⟨-2, f4, f6, f7, f8, f9, g4, by rw [z]; rfl, by rw [z]; rfl, h.up⟩
  obtain ⟨N, hN, rfl⟩ := nI_mid (M := 40) (by omega) d1 d2
  obtain ⟨v1, hv1, rfl⟩ := byte_of a1 a2
  obtain ⟨v2, hv2, rfl⟩ := byte_of b1 b2
  obtain ⟨v3, hv3, rfl⟩ := byte_of c1 c2
  obtain ⟨l, hl, -, l2⟩ := hC.2.2.1.1
  obtain ⟨w', g', o1, o2, o3⟩ := open_rel hC
  obtain ⟨x, c3, w3, g3', s3, x0, x1, x2, x3, x4⟩ := accept_rel hS hg (by omega) o3 o2 hv1
  obtain ⟨y, c4, w4, g4', s4, y0, y1, y2, y3, y4⟩ := accept_rel hS hg (by omega) x3 x4 hv2
  obtain ⟨r, c5, w5, g5', b5, k5, s5, r0, r1, r2, r3⟩ := goes_rel hS hg hv3 hN N 0 4096 4096 2 c4 w4 g4' s4 y (by omega) (by omega) (by omega) (by omega) y3 y4 y0
  have hl1 : ¬ isl 1 (upd (upd g4 298 1) 299 0 289) = -2 := by
    have e289 : upd (upd g4 298 1) 299 0 289 = nI l := l2
    rw [e289]
    rcases (show l = 0 ∨ l = 1 ∨ l = 2 ∨ l = 3 by omega) with rfl | rfl | rfl | rfl <;> decide
  refine ⟨nI r, c5, w5, g5', b5, k5, s5, ?_, ?_, h.chip (by omega) (fun p' q' n' t' e' hS' _ => ?_)⟩
  · rw [z, if_pos rfl, o1, oB_s, x1, oB_s, y1, oB_s]
    unfold zX4_closeBehind
    have r1' : zX4_closeBehind_k6 4096 c4 f5 w4 g4' f8 f9 (nI v3) (nI N) (nI y) 0 = _ := r1
    rw [r1', oB_s]
  · rw [z, if_neg (by decide), oB_s, if_neg hl1, x2, oB_s, y2, oB_s, if_pos (nI_pos' (by omega))]
    unfold zX5_goesOn
    have r2' : zX5_goesOn_k6 4096 g2 s4 (nI v3) (nI N) (nI y) 0 = _ := r2
    rw [r2', oB_s]
  · rw [← hS.uniq hS']
    exact r3.up (by omega)
set_option maxHeartbeats 1000000 in
theorem op_order {B : Nat} {f0 f1 f2 f3 f4 f5 f6 f7 f8 f9 f10 f11 f12 f13 f14 f15 f16 f17 f18 f19 f20 f21 g0 g1 g2 g3 g4 g5 : Fn} (hB : B ≤ 1000) (h : Rel B f0 f1 f2 f3 f4 f5 f6 f7 f8 f9 f10 f11 f12 f13 f14 f15 f16 f17 f18 f19 f20 f21 g0 g1 g2 g3 g4 g5) (u1 u2 u3 : Int32) : ∃ (r : Int32) (f4' : Fn) (f6' : Fn) (f7' : Fn) (f8' : Fn) (f9' : Fn) (g4' : Fn), zX4_order f4 f5 f6 f7 f8 f9 u1 u2 u3 = some (r, f4', f6', f7', f8', f9') ∧ zX5_order g2 g4 u1 u2 u3 = some (r, g4') ∧ Rel (B + 1) f0 f1 f2 f3 f4' f5 f6' f7' f8' f9' f10 f11 f12 f13 f14 f15 f16 f17 f18 f19 f20 f21 g0 g1 g2 g3 g4' g5 := by
  obtain ⟨-, p, q, n, t, e, hS, hg, hC, -⟩ := id h
  obtain ⟨⟨w1, w2⟩, -⟩ := hC.2.2.2.2.2
  unfold zX4_order zX5_order
  by_cases a0 : u1 < 0 ∨ 255 < u1
  · exact ⟨-1, f4, f6, f7, f8, f9, g4, by rw [byteX0 a0]; rfl, by rw [byteM0 a0]; rfl, h.up⟩
  have a1 : ¬ u1 < 0 := fun z => a0 (Or.inl z)
  have a2 : ¬ 255 < u1 := fun z => a0 (Or.inr z)
  rw [byteX1 a1 a2, byteM1 a1 a2, oB_s, oB_s, if_neg n10, if_neg n10]
  by_cases b0 : u2 < 0 ∨ 255 < u2
  · exact ⟨-1, f4, f6, f7, f8, f9, g4, by rw [byteX0 b0]; rfl, by rw [byteM0 b0]; rfl, h.up⟩
  have b1 : ¬ u2 < 0 := fun z => b0 (Or.inl z)
  have b2 : ¬ 255 < u2 := fun z => b0 (Or.inr z)
  rw [byteX1 b1 b2, byteM1 b1 b2, oB_s, oB_s, if_neg n10, if_neg n10, in40]
  by_cases d1 : u3 < 0
  · exact ⟨-1, f4, f6, f7, f8, f9, g4, by rw [if_pos d1], by rw [if_pos d1]; rfl, h.up⟩
  rw [if_neg d1, if_neg d1]
  rcases (Decidable.em (u3 ≤ 40)).symm with d2 | d2
  · exact ⟨-1, f4, f6, f7, f8, f9, g4, by rw [if_neg d2], by rw [if_pos (Int32.not_le.mp d2)]; rfl, h.up⟩
  rw [if_pos d2, if_neg (Int32.not_lt.mpr d2), oB_s, if_neg n10, selX w2, oB_s]
  unfold zX5_select
  rw [← w1]
  rcases w2.symm with z | z
  · exact ⟨-2, f4, f6, f7, f8, f9, g4, by rw [z]; rfl, by rw [z]; rfl, h.up⟩
  obtain ⟨N, hN, rfl⟩ := nI_mid (M := 40) (by omega) d1 d2
  obtain ⟨v1, hv1, rfl⟩ := byte_of a1 a2
  obtain ⟨v2, hv2, rfl⟩ := byte_of b1 b2
  obtain ⟨l, hl, -, l2⟩ := hC.2.2.1.1
  obtain ⟨w', g', o1, o2, o3⟩ := open_rel hC
  obtain ⟨x, c3, w3, g3', s3, x0, x1, x2, x3, x4⟩ := accept_rel hS hg (by omega) o3 o2 hv1
  obtain ⟨r, c5, w5, g5', b5, k5, s5, r0, r1, r2, r3⟩ := goes_rel hS hg hv2 hN N 0 4096 4096 1 c3 w3 g3' s3 x (by omega) (by omega) (by omega) (by omega) x3 x4 x0
  have hl1 : ¬ isl 1 (upd (upd g4 298 1) 299 0 289) = -2 := by
    have e289 : upd (upd g4 298 1) 299 0 289 = nI l := l2
    rw [e289]
    rcases (show l = 0 ∨ l = 1 ∨ l = 2 ∨ l = 3 by omega) with rfl | rfl | rfl | rfl <;> decide
  refine ⟨nI r, c5, w5, g5', b5, k5, s5, ?_, ?_, h.chip (by omega) (fun p' q' n' t' e' hS' _ => ?_)⟩
  · rw [z, if_pos rfl, o1, oB_s, x1, oB_s]
    unfold zX4_closeBehind
    have r1' : zX4_closeBehind_k6 4096 c3 f5 w3 g3' f8 f9 (nI v2) (nI N) (nI x) 0 = _ := r1
    rw [r1', oB_s]
  · rw [z, if_neg (by decide), oB_s, if_neg hl1, x2, oB_s]
    unfold zX5_goesOn
    have r2' : zX5_goesOn_k6 4096 g2 s3 (nI v2) (nI N) (nI x) 0 = _ := r2
    rw [r2', oB_s]
  · rw [← hS.uniq hS']
    exact r3.up (by omega)
