/-! ===== program; release ===== -/
theorem and_n {x y : Nat} (hx : x < 256) (hy : y < 256) : nI x &&& nI y = nI (x &&& y) ∧ x &&& y < 256 := by
  have hlt : x &&& y < 256 := Nat.and_lt_two_pow (n := 8) x hy
  refine ⟨?_, hlt⟩
  apply Int32.toBitVec_inj.mp
  apply BitVec.eq_of_toNat_eq
  rw [Int32.toBitVec_and, BitVec.toNat_and, pk_tn (by omega), pk_tn (by omega), pk_tn (by omega)]
theorem maskX0 {g : Fn} {i : Nat} (h : i < 16) (hg : g i = -1) : zX3_maskAt g (nI i) = some 255 := by
  unfold zX3_maskAt
  rw [if_neg (nI_pos (by omega)), if_neg (show ¬ (16 : Int32) ≤ nI i from nI_ge (b := 16) (by omega) (by omega)), oI_n (by omega) (by omega), ix_n (by omega), if_pos hg]
theorem maskX1 {g : Fn} {i : Nat} (h : i < 16) (hg : ¬ g i = -1) : zX3_maskAt g (nI i) = some (g i) := by
  unfold zX3_maskAt
  rw [if_neg (nI_pos (by omega)), if_neg (show ¬ (16 : Int32) ≤ nI i from nI_ge (b := 16) (by omega) (by omega)), oI_n (by omega) (by omega), ix_n (by omega), if_neg hg, oI_n (by omega) (by omega)]
def PgR (g s : Fn) : Prop := ∀ j, j < 16 → (s (272 + j) = 1 ∧ g j = s (256 + j) ∧ ∃ v, v < 256 ∧ g j = nI v) ∨ (s (272 + j) = 0 ∧ g j = -1)
set_option maxHeartbeats 1000000 in
theorem prog_loop {c sh g k g2 : Fn} {p q n t e a j : Nat} (hS : Shp sh p q n t e) (hg : ∀ i, i < 5 → g2 i = sh i) (ha : a < 256) (hst : a / p * p + p ≤ 256) : ∀ (m i fu fv : Nat) (b s : Fn), i + m = p → m < fu → m < fv → ByR b s → PgR g s →
    ∃ b' s', zX0_beginProgram_k58 fu c sh g b k (nI j) (nI (a / p * p)) (nI i) = some (upd (upd (upd (upd c 8 2) 9 (nI j)) 10 (nI t)) 14 (c 14 + 1), b') ∧ zX5_isRefused_k174 fv g2 s (nI a) (nI j) (nI i) = some (0, upd (upd (upd (upd s' 293 1) 294 (nI j)) 295 (nI t)) 305 (s' 305 + 1)) ∧ ByR b' s' ∧ ∀ x, 256 ≤ x → s' x = s x := by
  have hb := hS.b
  have h0 : g2 0 = nI p := (hg 0 (by omega)).trans hS.1
  have h3 : g2 3 = nI t := (hg 3 (by omega)).trans hS.2.2.2.1
  intro m
  induction m with
  | zero =>
    intro i fu fv b s hi hf hv hBy hPg
    obtain ⟨f, rfl⟩ : ∃ f, fu = f + 1 := ⟨fu - 1, by omega⟩
    obtain ⟨f', rfl⟩ : ∃ f, fv = f + 1 := ⟨fv - 1, by omega⟩
    refine ⟨b, s, ?_, ?_, hBy, fun x _ => rfl⟩
    · rw [zX0_beginProgram_k58]
      unfold zX1_pageBytes zX1_programTicks
      rw [oB_s, hS.1, if_pos (nI_le (by omega) (by omega)), oB_s, hS.2.2.2.1, beginX, oB_s]
    · rw [zX5_isRefused_k174, h0, if_pos (nI_le (by omega) (by omega)), h3, beginM, oB_s]
  | succ m ih =>
    intro i fu fv b s hi hf hv hBy hPg
    obtain ⟨f, rfl⟩ : ∃ f, fu = f + 1 := ⟨fu - 1, by omega⟩
    obtain ⟨f', rfl⟩ : ∃ f, fv = f + 1 := ⟨fv - 1, by omega⟩
    obtain ⟨y1, x, x1, x2⟩ := hBy (a / p * p + i) (by omega)
    have hat : nI a / nI p * nI p + nI i = nI (a / p * p + i) := by
      rw [pk_div (by omega) (by omega) (by omega), pk_mul, nI_add]
    have hX : ∀ y11 : Int32, zX3_maskAt g (nI i) = some y11 → zX0_beginProgram_k58 (f + 1) c sh g b k (nI j) (nI (a / p * p)) (nI i) = zX0_beginProgram_k58 f c sh g (upd b (a / p * p + i) (b (a / p * p + i) &&& y11)) k (nI j) (nI (a / p * p)) (nI (i + 1)) := by
      intro y11 hy
      rw [zX0_beginProgram_k58]
      unfold zX1_pageBytes
      rw [oB_s, hS.1, if_neg (nI_ge (by omega) (by omega)), nI_add, byX (by omega), oB_s, hy, oB_s, setX (by omega), oB_s, nI_1]
    rcases hPg i (by omega) with ⟨q1, q2, v, v1, v2⟩ | ⟨q1, q2⟩
    · obtain ⟨an1, an2⟩ := and_n x1 v1
      have hnew : b (a / p * p + i) &&& g i = nI (x &&& v) := by rw [x2, v2, an1]
      rw [hX (g i) (maskX1 (by omega) (by rw [v2]; exact nI_m1 (by omega))), hnew]
      have hM : zX5_isRefused_k174 (f' + 1) g2 s (nI a) (nI j) (nI i) = zX5_isRefused_k174 f' g2 (upd s (a / p * p + i) (nI (x &&& v))) (nI a) (nI j) (nI (i + 1)) := by
        rw [zX5_isRefused_k174, h0, if_neg (nI_ge (by omega) (by omega)), oD_n (by omega) (by omega), show (272 : Int32) = nI 272 from rfl, show (256 : Int32) = nI 256 from rfl, nI_add, nI_add, hat, oI_n (by omega) (by omega), ix_n (show 272 + i < 2 ^ 31 by omega), if_pos q1, oI_n (by omega) (by omega), oI_n (by omega) (by omega), oI_n (by omega) (by omega), ix_n (show a / p * p + i < 2 ^ 31 by omega), ix_n (show 256 + i < 2 ^ 31 by omega), ← q2, ← y1, hnew, nI_1]
      rw [hM]
      obtain ⟨b', s', t1, t2, t3, t4⟩ := ih (i + 1) f f' (upd b (a / p * p + i) (nI (x &&& v))) (upd s (a / p * p + i) (nI (x &&& v))) (by omega) (by omega) (by omega) (fun y hy => by
        by_cases z : y = a / p * p + i
        · subst z; rw [upd_s, upd_s]; exact ⟨rfl, _, an2, rfl⟩
        · rw [upd_n z, upd_n z]; exact hBy y hy) (fun y hy => by
        rw [upd_n (by omega), upd_n (by omega)]; exact hPg y hy)
      exact ⟨b', s', t1, t2, t3, fun y hy => by rw [t4 y hy, upd_n (by omega)]⟩
    · have hnew : b (a / p * p + i) &&& 255 = nI x := by
        rw [x2, pk_andN (k := 8) (by omega) (by decide), Nat.mod_eq_of_lt (by omega)]
      rw [hX 255 (maskX0 (by omega) q2), hnew, ← x2, upd_id]
      have hM : zX5_isRefused_k174 (f' + 1) g2 s (nI a) (nI j) (nI i) = zX5_isRefused_k174 f' g2 s (nI a) (nI j) (nI (i + 1)) := by
        rw [zX5_isRefused_k174, h0, if_neg (nI_ge (by omega) (by omega)), oD_n (by omega) (by omega), show (272 : Int32) = nI 272 from rfl, nI_add, hat, oI_n (by omega) (by omega), ix_n (show 272 + i < 2 ^ 31 by omega), if_neg (show ¬ s (272 + i) = 1 by rw [q1]; decide), oI_n (by omega) (by omega), oI_n (by omega) (by omega), ix_n (show a / p * p + i < 2 ^ 31 by omega), upd_id, nI_1]
      rw [hM]
      exact ih (i + 1) f f' b s (by omega) (by omega) (by omega) hBy hPg
theorem div_pad {a p A : Nat} (hp : 0 < p) (ha : a < A) (hd : p ∣ A) : a / p * p + p ≤ A ∧ a - a % p = a / p * p := by
  obtain ⟨d, rfl⟩ := hd
  have h1 : a / p < d := Nat.div_lt_of_lt_mul ha
  have h2 : (a / p + 1) * p ≤ d * p := Nat.mul_le_mul_right p h1
  have h3 : (a / p + 1) * p = a / p * p + p := Nat.succ_mul _ _
  have h4 : d * p = p * d := Nat.mul_comm _ _
  have h5 := Nat.div_add_mod a p
  have h6 : p * (a / p) = a / p * p := Nat.mul_comm _ _
  omega
set_option maxHeartbeats 1000000 in
theorem prog_rel {c b k s sh g2 g : Fn} {p q n t e a : Nat} (hS : Shp sh p q n t e) (hg : ∀ i, i < 5 → g2 i = sh i) (h : R5 n c b k s) (ha : a < 256) (h301 : s 301 = nI a) (hPg : PgR g s) : ∃ c1 b1 s1, zX0_beginProgram c sh g b k (nI (a % (p * q * n))) = some (c1, b1) ∧ zX5_wants g2 s 2 = some s1 ∧ R5 n c1 b1 k s1 ∧ c1 15 = c 15 := by
  have hb := hS.b
  have hn := hS.2.2.2.2.2.2.2.1
  have ht := hS.2.2.2.2.2.2.2.2.2.1
  have hm : a % (p * q * n) ≤ a := Nat.mod_le _ _
  have hmA : a % (p * q * n) < p * q * n := Nat.mod_lt _ (by omega)
  have hj : a % (p * q * n) / (p * q) < n := sec_lt (by omega) (by omega)
  have href := refused_eq (u := 2) hS hg ha h301 (by decide) (by decide)
  obtain ⟨r, r0, r1, r2⟩ := guard6 hS hg h.2.2.1 h.2.1 (j := a % (p * q * n) / (p * q)) (by omega)
  rw [r2, oB_s] at href
  obtain ⟨dp1, dp2⟩ := div_pad (a := a % (p * q * n)) (p := p) (A := p * q * n) (by omega) hmA ⟨q * n, by rw [Nat.mul_assoc]⟩
  have hgo : ∀ cc : Fn, ∃ b' s', zX0_beginProgram_k58 4096 cc sh g b k (nI (a % (p * q * n) / (p * q))) (nI (a % (p * q * n) / p * p)) 0 = some (upd (upd (upd (upd cc 8 2) 9 (nI (a % (p * q * n) / (p * q)))) 10 (nI t)) 14 (cc 14 + 1), b') ∧ zX5_isRefused_k174 4096 g2 (upd s 290 0) (nI (a % (p * q * n))) (nI (a % (p * q * n) / (p * q))) 0 = some (0, upd (upd (upd (upd s' 293 1) 294 (nI (a % (p * q * n) / (p * q)))) 295 (nI t)) 305 (s' 305 + 1)) ∧ ByR b' s' ∧ ∀ x, 256 ≤ x → s' x = (upd s 290 0) x := fun cc => prog_loop hS hg (by omega) (by omega) p 0 4096 4096 b (upd s 290 0) (by omega) (by omega) (by omega) (h.1.s (fun a ha => by rw [upd_n (by omega)])) (fun j hj => by rw [upd_n (by omega), upd_n (by omega)]; exact hPg j hj)
  unfold zX0_beginProgram
  rw [secB hS, oB_s, quoX (by omega) (by omega) (by omega), oB_s, r1, oB_s]
  unfold zX0_beginProgram_k34 zX1_pageBytes
  generalize hjj : a % (p * q * n) / (p * q) = j at hj href r1 r2 hgo
  -- how the class and the reference refuse
  have hk151 : zX5_isRefused_k151 g2 (upd s 290 0) 2 (nI (a % (p * q * n))) (nI j) = zX5_isRefused_k174 4096 g2 (upd s 290 0) (nI (a % (p * q * n))) (nI j) 0 := by
    unfold zX5_isRefused_k151
    rw [if_neg (by decide)]
  rw [hk151] at href
  have hsu : (¬ c 11 = nI j ∧ (if s 296 ≤ 0 then zX5_isRefused_k174 4096 g2 (upd s 290 0) (nI (a % (p * q * n))) (nI j) 0 else if (2 : Int32) = 32 then some (1, upd s 290 0) else if s 296 - 1 = nI j then some (1, upd s 290 0) else zX5_isRefused_k174 4096 g2 (upd s 290 0) (nI (a % (p * q * n))) (nI j) 0) = zX5_isRefused_k174 4096 g2 (upd s 290 0) (nI (a % (p * q * n))) (nI j) 0) ∨ (c 11 = nI j ∧ (if s 296 ≤ 0 then zX5_isRefused_k174 4096 g2 (upd s 290 0) (nI (a % (p * q * n))) (nI j) 0 else if (2 : Int32) = 32 then some (1, upd s 290 0) else if s 296 - 1 = nI j then some (1, upd s 290 0) else zX5_isRefused_k174 4096 g2 (upd s 290 0) (nI (a % (p * q * n))) (nI j) 0) = some (1, upd s 290 0)) := by
    rcases h.2.2.2.2 with ⟨s1, s2, -⟩ | ⟨i, L, i1, -, -, s1, s2, -⟩
    · exact Or.inl ⟨by rw [s1]; exact fun z => nI_m1 (by omega) z.symm, by rw [s2, if_pos (by decide)]⟩
    · rw [s1, s2, nI_pred, if_neg (show ¬ nI (i + 1) ≤ 0 from nI_nle (by omega) (by omega)), if_neg (by decide)]
      by_cases z : i = j
      · subst z
        exact Or.inr ⟨rfl, by rw [if_pos rfl]⟩
      · have z' : ¬ nI i = nI j := fun q => z (nI_inj (by omega) (by omega) q)
        exact Or.inl ⟨z', by rw [if_neg z']⟩
  rcases en_rel h.2.2.1 with ⟨e1, e2⟩ | ⟨e1, e2⟩
  · refine ⟨c, b, s, ?_, wants0 e2, h, rfl⟩
    rw [mayX0 e1, mayX0 e1]
    rcases r0 with z | z
    · rw [z, if_pos rfl]
      rcases hsu with ⟨u1, -⟩ | ⟨u1, -⟩
      · rw [if_neg u1]; rfl
      · rw [if_pos u1]; rfl
    · rw [z]; rfl
  · rcases r0 with z | z
    · subst z
      rw [if_pos rfl] at href ⊢
      rcases hsu with ⟨u1, u2⟩ | ⟨u1, u2⟩
      · rw [if_neg u1]
        obtain ⟨b', s', t1, t2, t3, t4⟩ := hgo (upd c 6 0)
        have href2 := href.trans (u2.trans t2)
        have hR : R5 n (upd c 6 0) b' k s' := by
          obtain ⟨h1, h2, ⟨a1, a2, a3, a4, a5, a6⟩, h4, h5⟩ := h.dis
          exact ⟨t3, h2.s (t4 _ (by omega)), ⟨by rw [t4 _ (by omega)]; exact a1, by rw [t4 _ (by omega)]; exact a2, by rw [t4 _ (by omega)]; exact a3, by rw [t4 _ (by omega)]; exact a4, by rw [t4 _ (by omega)]; exact a5, by rw [t4 _ (by omega)]; exact a6⟩, h4.cs ⟨rfl, rfl, rfl⟩ ⟨t4 _ (by omega), t4 _ (by omega), t4 _ (by omega)⟩, h5.cs ⟨rfl, rfl⟩ ⟨t4 _ (by omega), t4 _ (by omega)⟩⟩
        refine ⟨_, b', _, ?_, wantsN e2 href2, hR.begin (x := 2) (y := 1) (z1 := nI j) (z2 := nI j) (L := t) (Or.inl ⟨rfl, rfl⟩) ⟨by omega, by omega⟩, rfl⟩
        rw [mayX1 e1, oB_s, if_neg (show ¬ (1 : Int32) = 0 by decide), oB_s, hS.1, remX (by omega) (by omega) (by omega), oB_s, pk_sub (Nat.mod_le _ _), dp2]
        exact t1
      · rw [if_pos u1]
        refine ⟨_, b, _, ?_, wantsR e2 (href.trans u2), h.refuse, rfl⟩
        rw [mayX2 e1]; rfl
    · subst z
      rw [if_neg (by decide)] at href ⊢
      refine ⟨_, b, _, ?_, wantsR e2 href, h.refuse, rfl⟩
      rw [mayX2 e1]; rfl
theorem susp_rel {c b k s : Fn} {n : Nat} (h : R5 n c b k s) : ∃ c1 s1, zX0_suspend c = some c1 ∧ zX5_suspends s = some s1 ∧ R5 n c1 b k s1 ∧ c1 15 = c 15 := by
  have h' := h
  obtain ⟨h1, h2, h3, h4, h5⟩ := h'
  unfold zX0_suspend zX5_suspends
  rcases h4 with ⟨b1, b2⟩ | ⟨(⟨b1, b2⟩ | ⟨b1, b2, j, j1, j2, j3⟩ | ⟨b1, b2⟩), L, l1, l2, l3, l4⟩
  · exact ⟨c, s, by rw [b1]; rfl, by rw [b2]; rfl, h, rfl⟩
  · exact ⟨c, s, by rw [b1]; rfl, by rw [b2]; rfl, h, rfl⟩
  · refine ⟨upd (upd (upd (upd (upd c 11 (c 9)) 12 (c 10)) 8 (-1)) 9 (-1)) 10 0, upd (upd (upd s 296 (s 294 + 1)) 297 (s 295)) 293 0, by rw [if_pos b1]; rfl, by rw [if_pos b2]; rfl, ⟨h1.s (fun a ha => by rw [upd_n (by omega), upd_n (by omega), upd_n (by omega)]), h2.s rfl, h3, Or.inl ⟨rfl, rfl⟩, Or.inr ⟨j, L, j1, l1, l2, j2, ?_, l3, l4⟩⟩, rfl⟩
    show s 294 + 1 = nI (j + 1)
    rw [j3, nI_1]
  · exact ⟨c, s, by rw [b1]; rfl, by rw [b2]; rfl, h, rfl⟩
