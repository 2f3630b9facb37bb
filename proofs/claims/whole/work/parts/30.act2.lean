/-! ===== commands with bytes ===== -/
theorem sec_lt {a z n : Nat} (hz : 0 < z) (hn : 0 < n) : a % (z * n) / z < n := by
  have h1 : a % (z * n) < z * n := Nat.mod_lt _ (Nat.mul_pos hz hn)
  exact Nat.div_lt_of_lt_mul h1
theorem guardM {g2 s : Fn} {x : Int32} : zX5_isGuarded g2 (upd s 290 0) x = zX5_isGuarded g2 s x := rfl
theorem refused_eq {sh g2 s : Fn} {p q n t e a : Nat} {u : Int32} (hS : Shp sh p q n t e) (hg : ∀ i, i < 5 → g2 i = sh i) (ha : a < 256) (h301 : s 301 = nI a) (u1 : ¬ u = 1) (u2 : ¬ u = 199) : zX5_isRefused g2 (upd s 290 0) u =
    oB (zX5_isGuarded g2 s (nI (a % (p * q * n) / (p * q)))) (fun y3 => if y3 = 0 then (if (s 296) ≤ 0 then (zX5_isRefused_k151 g2 (upd s 290 0) u (nI (a % (p * q * n))) (nI (a % (p * q * n) / (p * q)))) else (if u = 32 then (some (1, upd s 290 0)) else (if ((s 296) - 1) = nI (a % (p * q * n) / (p * q)) then (some (1, upd s 290 0)) else (zX5_isRefused_k151 g2 (upd s 290 0) u (nI (a % (p * q * n))) (nI (a % (p * q * n) / (p * q))))))) else (some (1, upd s 290 0))) := by
  have hb := hS.b
  have hm : a % (p * q * n) ≤ a := Nat.mod_le _ _
  unfold zX5_isRefused
  rw [allM hS hg, oB_s, oD_n (by omega) (by omega), secM hS hg, oB_s, oD_n (by omega) (by omega), if_neg u1, if_neg u2]
  have e1 : upd s 290 0 301 = nI a := h301
  rw [e1, irm_n (by omega) (by omega) (by omega), pk_div (by omega) (by omega) (by omega), guardM]
  rfl
theorem erase_rel {c b k s sh g2 : Fn} {p q n t e a : Nat} (hS : Shp sh p q n t e) (hg : ∀ i, i < 5 → g2 i = sh i) (h : R5 n c b k s) (ha : a < 256) (h301 : s 301 = nI a) : ∃ c1 s1, zX0_beginErase c sh k (nI (a % (p * q * n) / (p * q))) = some c1 ∧ zX5_wants g2 s 32 = some s1 ∧ R5 n c1 b k s1 ∧ c1 15 = c 15 := by
  have hb := hS.b
  have hn := hS.2.2.2.2.2.2.2.1
  have he := hS.2.2.2.2.2.2.2.2.2.2
  have hj : a % (p * q * n) / (p * q) < n := sec_lt (by omega) (by omega)
  have href := refused_eq (u := 32) hS hg ha h301 (by decide) (by decide)
  obtain ⟨r, r0, r1, r2⟩ := guard6 hS hg h.2.2.1 h.2.1 (j := a % (p * q * n) / (p * q)) (by omega)
  rw [r2, oB_s] at href
  unfold zX0_beginErase zX0_beginErase_k21 zX1_eraseTicks
  rw [r1, oB_s]
  have e4 : g2 4 = nI e := (hg 4 (by omega)).trans hS.2.2.2.2.1
  rcases en_rel h.2.2.1 with ⟨e1, e2⟩ | ⟨e1, e2⟩
  · refine ⟨c, s, ?_, wants0 e2, h, rfl⟩
    rcases su_rel h.2.2.2.2 hn.2 with ⟨s1, -⟩ | ⟨s1, -⟩ <;> rw [s1, oB_s, mayX0 e1, mayX0 e1] <;> rcases r0 with z | z <;> rw [z] <;> rfl
  · rcases su_rel h.2.2.2.2 hn.2 with ⟨s1, s2, -, -⟩ | ⟨s1, s2, -⟩
    · rcases r0 with z | z
      · subst z
        have e4' : zX5_isRefused_k151 g2 (upd s 290 0) 32 (nI (a % (p * q * n))) (nI (a % (p * q * n) / (p * q))) = some (0, upd (upd (upd (upd (upd s 290 0) 293 2) 294 (nI (a % (p * q * n) / (p * q)))) 295 (nI e)) 305 ((upd s 290 0) 305 + 1)) := by
          unfold zX5_isRefused_k151
          rw [if_pos rfl, e4, beginM, oB_s]
        rw [if_pos rfl, if_pos s2, e4'] at href
        refine ⟨_, _, ?_, wantsN e2 href, h.dis.begin (x := 32) (y := 2) (z1 := nI (a % (p * q * n) / (p * q))) (z2 := nI (a % (p * q * n) / (p * q))) (L := e) (Or.inr (Or.inl ⟨rfl, rfl, _, hj, rfl, rfl⟩)) ⟨by omega, by omega⟩, rfl⟩
        rw [if_pos rfl, s1, oB_s, if_pos rfl, mayX1 e1, oB_s, if_neg (show ¬ (1 : Int32) = 0 by decide), oB_s, hS.2.2.2.2.1, beginX, oB_s]
      · subst z
        rw [if_neg (by decide)] at href
        refine ⟨_, _, ?_, wantsR e2 href, h.refuse, rfl⟩
        rw [if_neg (by decide), mayX2 e1]
        rfl
    · have href' : zX5_isRefused g2 (upd s 290 0) 32 = some (1, upd s 290 0) := by
        rw [href, if_neg s2, if_pos rfl]
        rcases r0 with z | z <;> rw [z] <;> rfl
      refine ⟨_, _, ?_, wantsR e2 href', h.refuse, rfl⟩
      rw [s1, oB_s, mayX2 e1]
      rcases r0 with z | z <;> rw [z] <;> rfl
theorem tell_rel {c b k s sh g2 : Fn} {p q n t e a : Nat} (hS : Shp sh p q n t e) (hg : ∀ i, i < 5 → g2 i = sh i) (h : R5 n c b k s) (ha : a < 256) (h302 : s 302 = nI a) : ∃ c1 s1, (oB (zX0_isSuspended c) (fun y6 => oB (zX0_mayBegin c y6) (fun y7 => if y7.1 = 0 then (some (y7.2, k)) else (some ((upd y7.2 5 (irm (nI a / 4) 8)), k))))) = some (c1, k) ∧ zX5_wants g2 s 1 = some s1 ∧ R5 n c1 b k s1 ∧ c1 15 = c 15 := by
  have hb := hS.b
  have hn := hS.2.2.2.2.2.2.2.1
  have hl : irm (nI a / 4) 8 = nI (a / 4 % 8) := by
    rw [show (4 : Int32) = nI 4 from rfl, show (8 : Int32) = nI 8 from rfl, pk_div (by omega) (by omega) (by omega), irm_n (by omega) (by omega) (by omega)]
  have href : zX5_isRefused g2 (upd s 290 0) 1 = if s 296 ≤ 0 then some (0, upd (upd s 290 0) 292 (nI (a / 4 % 8))) else some (1, upd s 290 0) := by
    unfold zX5_isRefused
    have e1 : upd s 290 0 302 = nI a := h302
    rw [allM hS hg, oB_s, oD_n (by omega) (by omega), secM hS hg, oB_s, oD_n (by omega) (by omega), if_pos rfl, e1, hl]
    rfl
  rw [hl]
  rcases en_rel h.2.2.1 with ⟨e1, e2⟩ | ⟨e1, e2⟩
  · refine ⟨c, s, ?_, wants0 e2, h, rfl⟩
    rcases su_rel h.2.2.2.2 hn.2 with ⟨s1, -⟩ | ⟨s1, -⟩ <;> rw [s1, oB_s, mayX0 e1] <;> rfl
  · rcases su_rel h.2.2.2.2 hn.2 with ⟨s1, s2, -, -⟩ | ⟨s1, s2, -⟩
    · rw [if_pos s2] at href
      refine ⟨upd (upd c 6 0) 5 (nI (a / 4 % 8)), _, ?_, wantsN e2 href, ?_, rfl⟩
      · rw [s1, oB_s, mayX1 e1]; rfl
      · obtain ⟨h1, h2, ⟨a1, a2, a3, a4, a5, a6⟩, h4, h5⟩ := h.dis
        exact ⟨h1.s (fun a ha => by rw [upd_n (by omega)]), h2.s rfl, ⟨a1, ⟨a / 4 % 8, by omega, rfl, rfl⟩, a3, a4, a5, a6⟩, h4.cs ⟨rfl, rfl, rfl⟩ ⟨rfl, rfl, rfl⟩, h5.cs ⟨rfl, rfl⟩ ⟨rfl, rfl⟩⟩
    · rw [if_neg s2] at href
      refine ⟨_, _, ?_, wantsR e2 href, h.refuse, rfl⟩
      rw [s1, oB_s, mayX2 e1]; rfl
theorem tells_rel {c b k s sh g2 w : Fn} {p q n t e a : Nat} (hS : Shp sh p q n t e) (hg : ∀ i, i < 5 → g2 i = sh i) (h : R5 n c b k s) (ha : a < 256) (h301 : s 301 = nI a) (h302 : s 302 = nI a) : ∃ c1 k1 s1, zX0_obeyWithByte c sh w k (nI a) = some (c1, k1) ∧ zX5_tells g2 s (w 2) = some s1 ∧ R5 n c1 b k1 s1 ∧ c1 15 = c 15 := by
  have hb := hS.b
  have hn := hS.2.2.2.2.2.2.2.1
  have hm : a % (p * q * n) ≤ a := Nat.mod_le _ _
  have hj : a % (p * q * n) / (p * q) < n := sec_lt (by omega) (by omega)
  unfold zX0_obeyWithByte zX5_tells zX3_command
  rw [allX hS, allM hS hg, oB_s, oB_s, oD_n (by omega) (by omega), remX (by omega) (by omega) (by omega), oB_s, secB hS, oB_s, secM hS hg, oB_s, oD_n (by omega) (by omega), quoX (by omega) (by omega) (by omega), oB_s, oB_s, h301, h302, irm_n (by omega) (by omega) (by omega), pk_div (by omega) (by omega) (by omega)]
  unfold zX5_tells_k56
  by_cases c1 : w 2 = 1
  · obtain ⟨c1', s1, t1, t2, t3, t4⟩ := tell_rel hS hg h ha h302
    refine ⟨c1', k, s1, ?_, ?_, t3, t4⟩
    · rw [if_pos c1]; exact t1
    · rw [c1, if_neg (by decide), if_neg (by decide), if_neg (by decide), if_pos rfl, t2]; rfl
  rw [if_neg c1]
  by_cases c32 : w 2 = 32
  · obtain ⟨c1', s1, t1, t2, t3, t4⟩ := erase_rel hS hg h ha h301
    refine ⟨c1', k, s1, ?_, ?_, t3, t4⟩
    · rw [if_pos c32, t1]; rfl
    · rw [c32, if_neg (by decide), if_neg (by decide), if_neg (by decide), if_neg (by decide), if_pos rfl, t2]; rfl
  rw [if_neg c32]
  by_cases c49 : w 2 = 49
  · rw [if_pos c49, if_pos c49]
    by_cases a4 : a ≤ 3
    · obtain ⟨h1, h2, ⟨a1, a2, a3, a4', a5, a6⟩, h4, h5⟩ := h
      refine ⟨upd c 4 (nI a), k, upd s 289 (nI a), ?_, ?_, ⟨h1.s (fun a ha => by rw [upd_n (by omega)]), h2.s rfl, ⟨⟨a, a4, rfl, rfl⟩, a2, a3, a4', a5, a6⟩, h4.cs ⟨rfl, rfl, rfl⟩ ⟨rfl, rfl, rfl⟩, h5.cs ⟨rfl, rfl⟩ ⟨rfl, rfl⟩⟩, rfl⟩
      · rw [if_neg (show ¬ (3 : Int32) < nI a from nI_nlt (b := a) (a := 3) a4 (by omega))]
      · rw [if_neg (show ¬ (4 : Int32) ≤ nI a from nI_ge (b := 4) (by omega) (by omega))]
    · refine ⟨c, k, s, ?_, ?_, h, rfl⟩
      · rw [if_pos (show (3 : Int32) < nI a from nI_lt (a := 3) (by omega) (by omega))]
      · rw [if_pos (show (4 : Int32) ≤ nI a from nI_le (a := 4) (by omega) (by omega)), c49, if_neg (by decide), if_neg (by decide), if_neg (by decide), if_neg (by decide)]
  rw [if_neg c49, if_neg c49]
  unfold zX0_setLocked
  have hl := h.2.1.set (j := a % (p * q * n) / (p * q)) (by omega)
  by_cases c54 : w 2 = 54
  · refine ⟨c, upd k (a % (p * q * n) / (p * q)) 1, upd s 288 (s 288 ||| isl 1 (nI (a % (p * q * n) / (p * q)))), ?_, by rw [if_pos c54], ?_, rfl⟩
    · rw [if_pos c54, if_neg (nI_pos (by omega)), if_neg (show ¬ (8 : Int32) ≤ nI (a % (p * q * n) / (p * q)) from nI_ge (b := 8) (by omega) (by omega)), oI_n (by omega) (by omega), oZ_b (Or.inr rfl), oB_s, ix_n (by omega)]
    · obtain ⟨h1, h2, ⟨a1, a2, a3, a4, a5, a6⟩, h4, h5⟩ := h
      exact ⟨h1.s (fun a ha => by rw [upd_n (by omega)]), hl.1, ⟨a1, a2, a3, a4, a5, a6⟩, h4.cs ⟨rfl, rfl, rfl⟩ ⟨rfl, rfl, rfl⟩, h5.cs ⟨rfl, rfl⟩ ⟨rfl, rfl⟩⟩
  rw [if_neg c54, if_neg c54]
  by_cases c57 : w 2 = 57
  · refine ⟨c, upd k (a % (p * q * n) / (p * q)) 0, upd s 288 (s 288 &&& (isl 1 (nI (a % (p * q * n) / (p * q))) ^^^ (-1))), ?_, by rw [if_pos c57], ?_, rfl⟩
    · rw [if_pos c57, if_neg (nI_pos (by omega)), if_neg (show ¬ (8 : Int32) ≤ nI (a % (p * q * n) / (p * q)) from nI_ge (b := 8) (by omega) (by omega)), oI_n (by omega) (by omega), oZ_b (Or.inl rfl), oB_s, ix_n (by omega)]
    · obtain ⟨h1, h2, ⟨a1, a2, a3, a4, a5, a6⟩, h4, h5⟩ := h
      exact ⟨h1.s (fun a ha => by rw [upd_n (by omega)]), hl.2, ⟨a1, a2, a3, a4, a5, a6⟩, h4.cs ⟨rfl, rfl, rfl⟩ ⟨rfl, rfl, rfl⟩, h5.cs ⟨rfl, rfl⟩ ⟨rfl, rfl⟩⟩
  rw [if_neg c57, if_neg c57, if_neg c1, if_neg c32]
  exact ⟨c, k, s, rfl, rfl, h, rfl⟩
