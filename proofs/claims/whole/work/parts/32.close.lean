/-! ===== release ===== -/
theorem k169_eq {g2 s : Fn} {t : Int32} : zX5_releases_k169 g2 s t 303 = oB (zX5_status (upd (upd (upd s 303 t) 298 0) 299 0)) (fun y => some (y, upd (upd (upd s 303 t) 298 0) 299 0)) := by
  unfold zX5_releases_k169
  rw [show (303 : Int32) = nI 303 from rfl, oI_n (by omega) (by omega), ix_n (by omega)]
theorem k142_0 {g2 s : Fn} {x y : Int32} : zX5_releases_k142 g2 s x y 0 = zX5_releases_k169 g2 s 0 303 := rfl
theorem k142_1 {g2 s : Fn} {y : Int32} : zX5_releases_k142 g2 s 1 y 1 = zX5_releases_k169 g2 s (if y = 102 then 1 else 0) 303 := by
  unfold zX5_releases_k142
  rw [if_neg (by decide), if_pos rfl]
  by_cases h : y = 102
  · rw [if_pos h, if_pos h]
  · rw [if_neg h, if_neg h]
theorem k142_n {g2 s : Fn} {x y : Int32} (h : ¬ x = 1) : zX5_releases_k142 g2 s x y 1 = zX5_releases_k169 g2 s 0 303 := by
  unfold zX5_releases_k142
  rw [if_neg (by decide), if_neg h]
theorem k65_0 {g2 s : Fn} {x y : Int32} : zX5_releases_k65 g2 s x y 0 = zX5_releases_k142 g2 s x y 0 := rfl
theorem k65_00 {g2 s : Fn} {y : Int32} : zX5_releases_k65 g2 s (nI 0) y 1 = zX5_releases_k142 g2 s (nI 0) y 1 := rfl
theorem k65_1 {g2 s : Fn} {y : Int32} : zX5_releases_k65 g2 s (nI 1) y 1 = if y = 199 then oB (zX5_wants g2 s y) (fun y2 => zX5_releases_k142 g2 y2 1 y 1) else oB (zX5_does s y) (fun y3 => zX5_releases_k142 g2 y3 1 y 1) := rfl
theorem k65_2 {g2 s : Fn} {y : Int32} : zX5_releases_k65 g2 s (nI 2) y 1 = oB (zX5_tells g2 s y) (fun y5 => zX5_releases_k142 g2 y5 (nI 2) y 1) := rfl
theorem k65_3 {g2 s : Fn} {x y : Int32} (h1 : ¬ x = 1) (h2 : ¬ x = 2) (h3 : ¬ x ≤ 2) : zX5_releases_k65 g2 s x y 1 = if y = 2 then oB (zX5_wants g2 s y) (fun y6 => zX5_releases_k142 g2 y6 x y 1) else zX5_releases_k142 g2 s x y 1 := by
  unfold zX5_releases_k65 zX5_releases_k89 zX5_releases_k106 zX5_releases_k123
  rw [if_neg (by decide), if_neg h1, if_neg (by decide), if_neg h1, if_neg (by decide), if_neg h2, if_neg (by decide), if_neg h3]
/-- the end of both: what the class has done, what the reference has done -/
theorem close_fin {c1 b1 k1 s1 g2 w g : Fn} {n : Nat} {t : Int32} (hn : n ≤ 8) (h : R5 n c1 b1 k1 s1) (h15 : c1 15 = t) (ht : t = 0 ∨ t = 1) {X : Option (Fn × Fn × Fn × Fn × Fn)} {Y : Option (Int32 × Fn)} (hX : ∀ g', zX3_clear w g = some (upd (upd (upd (upd w 0 0) 1 0) 2 (-1)) 3 0, g') → X = some (c1, upd (upd (upd (upd w 0 0) 1 0) 2 (-1)) 3 0, g', b1, k1)) (hY : Y = zX5_releases_k169 g2 s1 t 303) :
    ∃ (r : Nat) (c' w' g' b' k' s' : Fn), r < 256 ∧ X = some (c', w', g', b', k') ∧ Y = some (nI r, s') ∧ zX0_status c' = some (nI r) ∧ ChR n 0 c' w' g' b' k' s' ∧ w' 0 = 0 := by
  obtain ⟨g', hg1, hg2⟩ := clearX w g
  have hC := R5.end (w := upd (upd (upd (upd w 0 0) 1 0) 2 (-1)) 3 0) (g := g') h h15 ht rfl rfl hg2
  obtain ⟨r, r0, r1, r2⟩ := status_rel hC.2.2.1 hC.2.2.2.1 hC.2.2.2.2.1 hn
  refine ⟨r, c1, _, g', b1, k1, _, r0, hX g' hg1, ?_, r1, hC, rfl⟩
  rw [hY, k169_eq, r2, oB_s]
set_option maxHeartbeats 1000000 in
theorem close_rel {c sh w g b lk s g2 : Fn} {p q n t e B : Nat} (hS : Shp sh p q n t e) (hg : ∀ i, i < 5 → g2 i = sh i) (hB : B ≤ 1500) (h : ChR n B c w g b lk s) :
    ∃ (r : Nat) (c' w' g' b' k' s' : Fn), r < 256 ∧ zX0_close c sh w g b lk = some (c', w', g', b', k') ∧ zX5_releases g2 s = some (nI r, s') ∧ zX0_status c' = some (nI r) ∧ ChR n 0 c' w' g' b' k' s' ∧ w' 0 = 0 := by
  have hb := hS.b
  have hn8 : n ≤ 8 := hS.2.2.2.2.2.2.2.1.2
  obtain ⟨hBy, hLk, hSc, hBu, hSu, -, k, hk, k2, k3, -, k5, k6, k7, -, k9⟩ := h
  have hR0 : R5 n c b lk s := ⟨hBy, hLk, hSc.six, hBu, hSu⟩
  have hR : R5 n (upd c 15 0) b lk s := hR0
  have h15 : c 15 = s 303 ∧ (c 15 = 0 ∨ c 15 = 1) := hSc.2.2.2.2.2.2
  unfold zX0_close zX3_puts zX3_command zX3_first zX0_isBusy zX5_releases zX5_releases_k25 zX5_releases_k42
  rw [k2, k3, oB_s]
  have h8 : upd c 15 0 8 = c 8 := rfl
  rw [h8]
  obtain ⟨bu, hbu⟩ := hBu.two
  rcases hbu.symm with ⟨-, b1, j, j1, j2, b2⟩ | ⟨-, b1, b2⟩
  · -- busy
    have b2' : ¬ s 293 = 0 := by rw [b2]; exact nI_ne0 (by omega) (by omega)
    rw [if_neg b1, oB_s, if_neg (show ¬ (1 : Int32) = 0 by decide), if_neg b2', if_neg b2', if_pos rfl, if_pos rfl, k65_0, k65_0]
    by_cases c1 : k = 1
    · subst c1
      rw [if_pos (show nI 1 - 1 = 0 by decide), oB_s, if_neg (show ¬ nI 1 ≤ 0 by decide), ← (k5 (by omega)).1]
      by_cases c117 : w 2 = 117
      · obtain ⟨c1, s1, t1, t2, t3, t4⟩ := susp_rel hR
        refine close_fin (t := 0) (g2 := g2) hn8 t3 t4 (Or.inl rfl) (w := w) (g := g) (fun g' hg' => ?_) ?_
        · rw [if_pos c117, t1, oB_s, hg', oB_s]
        · rw [if_pos c117, if_pos (show nI 1 = 1 from rfl), t2, oB_s, k142_0]
      · refine close_fin (t := 0) (g2 := g2) hn8 hR rfl (Or.inl rfl) (w := w) (g := g) (fun g' hg' => ?_) ?_
        · rw [if_neg c117, hg', oB_s]
        · rw [if_neg c117, k142_0]
    · have n1 : ¬ nI k = 1 := fun z => c1 (nI_inj (b := 1) (by omega) (by omega) z)
      have n0 : ¬ nI k - 1 = 0 := by
        by_cases z : k = 0
        · subst z; decide
        · rw [show (1 : Int32) = nI 1 from rfl, pk_sub (by omega)]
          exact nI_ne0 (by omega) (by omega)
      refine close_fin (t := 0) (g2 := g2) hn8 hR rfl (Or.inl rfl) (w := w) (g := g) (fun g' hg' => ?_) ?_
      · rw [if_neg n0, hg', oB_s]
      · rw [k142_0, k142_0, if_neg n1]
        by_cases z : nI k ≤ 0
        · rw [if_pos z, if_neg (by decide)]
        · rw [if_neg z]
          by_cases z2 : s 300 = 117
          · rw [if_pos z2, if_neg n1]
          · rw [if_neg z2]
  · -- not busy
    rw [if_pos b1, oB_s, if_pos rfl, b2, if_pos (show nI 0 = 0 from rfl), if_pos (show nI 0 = 0 from rfl), if_neg (show ¬ (1 : Int32) = 0 by decide), if_neg (show ¬ (1 : Int32) = 0 by decide)]
    by_cases c0 : k = 0
    · subst c0
      rw [if_neg (show ¬ nI 0 - 1 = 0 by decide), if_neg (show ¬ nI 0 - 1 = 1 by decide), if_pos (show nI 0 - 1 ≤ 1 by decide), if_pos (show nI 0 ≤ 0 by decide), k65_00]
      refine close_fin (t := 0) (g2 := g2) hn8 hR rfl (Or.inl rfl) (w := w) (g := g) (fun g' hg' => ?_) ?_
      · rw [hg', oB_s]
      · exact k142_n (by decide)
    have hp : ¬ nI k ≤ 0 := nI_nle (by omega) (by omega)
    obtain ⟨cm1, -⟩ := k5 (by omega)
    rw [if_neg hp, ← cm1]
    by_cases c1 : k = 1
    · subst c1
      rw [if_pos (show nI 1 - 1 = 0 by decide), k65_1]
      by_cases c199 : w 2 = 199
      · obtain ⟨c1, s1, t1, t2, t3, t4⟩ := all_rel hS hg hR trivial
        refine close_fin (t := 0) (g2 := g2) hn8 t3 t4 (Or.inl rfl) (w := w) (g := g) (fun g' hg' => ?_) ?_
        · unfold zX0_obeyAlone zX3_command
          rw [oB_s, c199, if_neg (by decide), if_neg (by decide), if_neg (by decide), if_neg (by decide), if_neg (by decide), if_pos rfl, t1, oB_s, oB_s, hg', oB_s]
        · rw [c199, if_pos rfl, t2, oB_s, k142_1, if_neg (by decide)]
      · obtain ⟨c1, s1, t1, t2, t3, t4⟩ := does_rel (sh := sh) (w := w) (rd := c 15) hn8 hR ⟨b1, b2⟩ rfl h15.1 h15.2 c199
        refine close_fin (g2 := g2) hn8 t3 t4 ?_ (w := w) (g := g) (fun g' hg' => ?_) ?_
        · by_cases z : w 2 = 102
          · rw [if_pos z]; exact Or.inr rfl
          · rw [if_neg z]; exact Or.inl rfl
        · rw [t1, oB_s, hg', oB_s]
        · rw [if_neg c199, t2, oB_s, k142_1]
    by_cases c2 : k = 2
    · subst c2
      obtain ⟨a, ha, a1, a2⟩ := k6 (by omega)
      have a3 : s 302 = nI a := (k7 rfl).trans a1
      obtain ⟨c1, k1, s1, t1, t2, t3, t4⟩ := tells_rel (w := w) hS hg hR ha a2 a3
      rw [if_neg (show ¬ nI 2 - 1 = 0 by decide), if_pos (show nI 2 - 1 = 1 by decide), k65_2]
      refine close_fin (t := 0) (g2 := g2) hn8 t3 t4 (Or.inl rfl) (w := w) (g := g) (fun g' hg' => ?_) ?_
      · rw [oB_s, a1, t1, oB_s, hg', oB_s]
      · rw [t2, oB_s, k142_n (by decide)]
    · obtain ⟨a, ha, a1, a2⟩ := k6 (by omega)
      have e1 : nI k - 1 = nI (k - 1) := pk_sub (b := 1) (by omega)
      have n1 : ¬ nI k = 1 := fun z => c1 (nI_inj (b := 1) (by omega) (by omega) z)
      have n2 : ¬ nI k = 2 := fun z => c2 (nI_inj (b := 2) (by omega) (by omega) z)
      have n3 : ¬ nI k ≤ 2 := nI_ge (a := 2) (by omega) (by omega)
      have m0 : ¬ nI (k - 1) = 0 := nI_ne0 (by omega) (by omega)
      have m1 : ¬ nI (k - 1) = 1 := fun z => by
        have := nI_inj (b := 1) (by omega) (by omega) z
        omega
      have m2 : ¬ nI (k - 1) ≤ 1 := nI_ge (a := 1) (by omega) (by omega)
      rw [e1, if_neg m0, if_neg m1, if_neg m2, oB_s, k65_3 n1 n2 n3]
      by_cases z : w 2 = 2
      · obtain ⟨c1, b1', s1, t1, t2, t3, t4⟩ := prog_rel (g := g) hS hg hR ha a2 (fun j hj => k9 (by omega) j hj)
        refine close_fin (t := 0) (g2 := g2) hn8 t3 t4 (Or.inl rfl) (w := w) (g := g) (fun g' hg' => ?_) ?_
        · rw [if_pos z, oB_s, allX hS, oB_s, a1, remX (by omega) (by omega) (by omega), oB_s, t1, oB_s, hg', oB_s]
        · rw [if_pos z, z, t2, oB_s, k142_n n1]
      · refine close_fin (t := 0) (g2 := g2) hn8 hR rfl (Or.inl rfl) (w := w) (g := g) (fun g' hg' => ?_) ?_
        · rw [if_neg z, hg', oB_s]
        · rw [if_neg z, k142_n n1]
