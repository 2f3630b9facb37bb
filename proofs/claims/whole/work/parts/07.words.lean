theorem kb_m4 : (Int8.ofInt (-4)).toInt32 = (-4) := by decide
theorem kb_m3 : (Int8.ofInt (-3)).toInt32 = (-3) := by decide
theorem kb_m2 : (Int8.ofInt (-2)).toInt32 = (-2) := by decide
theorem kb_7 : (Int8.ofInt (7)).toInt32 = 7 := by decide
theorem kb_8 : (Int8.ofInt (8)).toInt32 = 8 := by decide
theorem kb_9 : (Int8.ofInt (9)).toInt32 = 9 := by decide
theorem kb_10 : (Int8.ofInt (10)).toInt32 = 10 := by decide
theorem kb_11 : (Int8.ofInt (11)).toInt32 = 11 := by decide
theorem kb_16 : (Int8.ofInt (16)).toInt32 = 16 := by decide
theorem kb_20 : (Int8.ofInt (20)).toInt32 = 20 := by decide
theorem kb_32 : (Int8.ofInt (32)).toInt32 = 32 := by decide
theorem kb_40 : (Int8.ofInt (40)).toInt32 = 40 := by decide
theorem kb_44 : (Int8.ofInt (44)).toInt32 = 44 := by decide
theorem kb_48 : (Int8.ofInt (48)).toInt32 = 48 := by decide
theorem kb_49 : (Int8.ofInt (49)).toInt32 = 49 := by decide
theorem kb_54 : (Int8.ofInt (54)).toInt32 = 54 := by decide
theorem kb_57 : (Int8.ofInt (57)).toInt32 = 57 := by decide
theorem kb_59 : (Int8.ofInt (59)).toInt32 = 59 := by decide
theorem kb_64 : (Int8.ofInt (64)).toInt32 = 64 := by decide
theorem kb_70 : (Int8.ofInt (70)).toInt32 = 70 := by decide
theorem kb_83 : (Int8.ofInt (83)).toInt32 = 83 := by decide
theorem kb_90 : (Int8.ofInt (90)).toInt32 = 90 := by decide
theorem kb_97 : (Int8.ofInt (97)).toInt32 = 97 := by decide
theorem kb_99 : (Int8.ofInt (99)).toInt32 = 99 := by decide
theorem kb_102 : (Int8.ofInt (102)).toInt32 = 102 := by decide
theorem kb_117 : (Int8.ofInt (117)).toInt32 = 117 := by decide
theorem kb_126 : (Int8.ofInt (126)).toInt32 = 126 := by decide
theorem kc_m1 : Int32.ofInt (-1) = (-1) := by decide
theorem kc_0 : Int32.ofInt (0) = 0 := by decide
theorem kc_1 : Int32.ofInt (1) = 1 := by decide
theorem kc_2 : Int32.ofInt (2) = 2 := by decide
theorem kc_3 : Int32.ofInt (3) = 3 := by decide
theorem kc_4 : Int32.ofInt (4) = 4 := by decide
theorem kc_5 : Int32.ofInt (5) = 5 := by decide
theorem kl_8 : Int32.ofNat 8 = 8 := by decide
theorem kl_16 : Int32.ofNat 16 = 16 := by decide
theorem kl_200 : Int32.ofNat 200 = 200 := by decide
theorem kl_256 : Int32.ofNat 256 = 256 := by decide
theorem ks_128 : (Int16.ofInt (128)).toInt32 = 128 := by decide
theorem ks_153 : (Int16.ofInt (153)).toInt32 = 153 := by decide
theorem ks_199 : (Int16.ofInt (199)).toInt32 = 199 := by decide
theorem ks_200 : (Int16.ofInt (200)).toInt32 = 200 := by decide
theorem ks_255 : (Int16.ofInt (255)).toInt32 = 255 := by decide
theorem ks_256 : (Int16.ofInt (256)).toInt32 = 256 := by decide
theorem ks_272 : (Int16.ofInt (272)).toInt32 = 272 := by decide
theorem ks_288 : (Int16.ofInt (288)).toInt32 = 288 := by decide
theorem ks_289 : (Int16.ofInt (289)).toInt32 = 289 := by decide
theorem ks_290 : (Int16.ofInt (290)).toInt32 = 290 := by decide
theorem ks_291 : (Int16.ofInt (291)).toInt32 = 291 := by decide
theorem ks_292 : (Int16.ofInt (292)).toInt32 = 292 := by decide
theorem ks_293 : (Int16.ofInt (293)).toInt32 = 293 := by decide
theorem ks_294 : (Int16.ofInt (294)).toInt32 = 294 := by decide
theorem ks_295 : (Int16.ofInt (295)).toInt32 = 295 := by decide
theorem ks_296 : (Int16.ofInt (296)).toInt32 = 296 := by decide
theorem ks_297 : (Int16.ofInt (297)).toInt32 = 297 := by decide
theorem ks_298 : (Int16.ofInt (298)).toInt32 = 298 := by decide
theorem ks_299 : (Int16.ofInt (299)).toInt32 = 299 := by decide
theorem ks_300 : (Int16.ofInt (300)).toInt32 = 300 := by decide
theorem ks_301 : (Int16.ofInt (301)).toInt32 = 301 := by decide
theorem ks_302 : (Int16.ofInt (302)).toInt32 = 302 := by decide
theorem ks_303 : (Int16.ofInt (303)).toInt32 = 303 := by decide
theorem ks_304 : (Int16.ofInt (304)).toInt32 = 304 := by decide
theorem ks_305 : (Int16.ofInt (305)).toInt32 = 305 := by decide
theorem ks_306 : (Int16.ofInt (306)).toInt32 = 306 := by decide
theorem li_0 : (0 : Int32) = nI 0 := by decide
theorem li_1 : (1 : Int32) = nI 1 := by decide
theorem li_2 : (2 : Int32) = nI 2 := by decide
theorem li_3 : (3 : Int32) = nI 3 := by decide
theorem li_4 : (4 : Int32) = nI 4 := by decide
theorem li_288 : (288 : Int32) = nI 288 := by decide
theorem li_289 : (289 : Int32) = nI 289 := by decide
theorem li_290 : (290 : Int32) = nI 290 := by decide
theorem li_291 : (291 : Int32) = nI 291 := by decide
theorem li_292 : (292 : Int32) = nI 292 := by decide
theorem li_293 : (293 : Int32) = nI 293 := by decide
theorem li_294 : (294 : Int32) = nI 294 := by decide
theorem li_295 : (295 : Int32) = nI 295 := by decide
theorem li_296 : (296 : Int32) = nI 296 := by decide
theorem li_297 : (297 : Int32) = nI 297 := by decide
theorem li_298 : (298 : Int32) = nI 298 := by decide
theorem li_299 : (299 : Int32) = nI 299 := by decide
theorem li_300 : (300 : Int32) = nI 300 := by decide
theorem li_301 : (301 : Int32) = nI 301 := by decide
theorem li_302 : (302 : Int32) = nI 302 := by decide
theorem li_303 : (303 : Int32) = nI 303 := by decide
theorem li_304 : (304 : Int32) = nI 304 := by decide
theorem li_305 : (305 : Int32) = nI 305 := by decide
theorem cwX0 : ∀ w ∈ wsX00, w ∈ wT := by
  intro w hw
  obtain ⟨k, hk, rfl⟩ := List.mem_map.mp hw
  have hk := List.mem_range.mp hk
  rcases (show k = 0 ∨ k = 1 ∨ k = 2 ∨ k = 3 ∨ k = 4 ∨ k = 5 ∨ k = 6 ∨ k = 7 ∨ k = 8 ∨ k = 9 ∨ k = 10 ∨ k = 11 ∨ k = 12 ∨ k = 13 ∨ k = 14 ∨ k = 15 by omega) with rfl | rfl | rfl | rfl | rfl | rfl | rfl | rfl | rfl | rfl | rfl | rfl | rfl | rfl | rfl | rfl
  · exact wT_at 182 (by decide +kernel) (by decide +kernel)
  · exact wT_at 184 (by decide +kernel) (by decide +kernel)
  · exact wT_at 186 (by decide +kernel) (by decide +kernel)
  · exact wT_at 188 (by decide +kernel) (by decide +kernel)
  · exact wT_at 190 (by decide +kernel) (by decide +kernel)
  · exact wT_at 192 (by decide +kernel) (by decide +kernel)
  · exact wT_at 194 (by decide +kernel) (by decide +kernel)
  · exact wT_at 196 (by decide +kernel) (by decide +kernel)
  · exact wT_at 198 (by decide +kernel) (by decide +kernel)
  · exact wT_at 200 (by decide +kernel) (by decide +kernel)
  · exact wT_at 202 (by decide +kernel) (by decide +kernel)
  · exact wT_at 204 (by decide +kernel) (by decide +kernel)
  · exact wT_at 206 (by decide +kernel) (by decide +kernel)
  · exact wT_at 208 (by decide +kernel) (by decide +kernel)
  · exact wT_at 210 (by decide +kernel) (by decide +kernel)
  · exact wT_at 212 (by decide +kernel) (by decide +kernel)
theorem cwX1 : ∀ w ∈ wsX10, w ∈ wT := by
  intro w hw
  obtain ⟨k, hk, rfl⟩ := List.mem_map.mp hw
  have hk := List.mem_range.mp hk
  rcases (show k = 0 ∨ k = 1 ∨ k = 2 ∨ k = 3 ∨ k = 4 by omega) with rfl | rfl | rfl | rfl | rfl
  · exact wT_at 88 (by decide +kernel) (by decide +kernel)
  · exact wT_at 90 (by decide +kernel) (by decide +kernel)
  · exact wT_at 92 (by decide +kernel) (by decide +kernel)
  · exact wT_at 94 (by decide +kernel) (by decide +kernel)
  · exact wT_at 96 (by decide +kernel) (by decide +kernel)
theorem cwX2 : ∀ w ∈ wsX20, w ∈ wT := by
  intro w hw
  obtain ⟨k, hk, rfl⟩ := List.mem_map.mp hw
  have hk := List.mem_range.mp hk
  rcases (show k = 0 ∨ k = 1 ∨ k = 2 ∨ k = 3 ∨ k = 4 ∨ k = 5 by omega) with rfl | rfl | rfl | rfl | rfl | rfl
  · exact wT_at 106 (by decide +kernel) (by decide +kernel)
  · exact wT_at 108 (by decide +kernel) (by decide +kernel)
  · exact wT_at 110 (by decide +kernel) (by decide +kernel)
  · exact wT_at 112 (by decide +kernel) (by decide +kernel)
  · exact wT_at 114 (by decide +kernel) (by decide +kernel)
  · exact wT_at 116 (by decide +kernel) (by decide +kernel)
theorem cwX3 : ∀ w ∈ wsX30, w ∈ wT := by
  intro w hw
  obtain ⟨k, hk, rfl⟩ := List.mem_map.mp hw
  have hk := List.mem_range.mp hk
  rcases (show k = 0 ∨ k = 1 ∨ k = 2 ∨ k = 3 ∨ k = 4 by omega) with rfl | rfl | rfl | rfl | rfl
  · exact wT_at 142 (by decide +kernel) (by decide +kernel)
  · exact wT_at 144 (by decide +kernel) (by decide +kernel)
  · exact wT_at 146 (by decide +kernel) (by decide +kernel)
  · exact wT_at 148 (by decide +kernel) (by decide +kernel)
  · exact wT_at 150 (by decide +kernel) (by decide +kernel)
theorem cwX4 : ∀ w ∈ wsX40, w ∈ wT := by
  intro w hw
  obtain ⟨k, hk, rfl⟩ := List.mem_map.mp hw
  have hk := List.mem_range.mp hk
  rcases (show k = 0 ∨ k = 1 ∨ k = 2 ∨ k = 3 ∨ k = 4 by omega) with rfl | rfl | rfl | rfl | rfl
  · exact wT_at 221 (by decide +kernel) (by decide +kernel)
  · exact wT_at 223 (by decide +kernel) (by decide +kernel)
  · exact wT_at 225 (by decide +kernel) (by decide +kernel)
  · exact wT_at 227 (by decide +kernel) (by decide +kernel)
  · exact wT_at 229 (by decide +kernel) (by decide +kernel)
theorem cwX5 : ∀ w ∈ wsX50, w ∈ wT := by
  intro w hw
  obtain ⟨k, hk, rfl⟩ := List.mem_map.mp hw
  have hk := List.mem_range.mp hk
  rcases (show k = 0 ∨ k = 1 ∨ k = 2 ∨ k = 3 ∨ k = 4 ∨ k = 5 ∨ k = 6 ∨ k = 7 ∨ k = 8 by omega) with rfl | rfl | rfl | rfl | rfl | rfl | rfl | rfl | rfl
  · exact wT_at 657 (by decide +kernel) (by decide +kernel)
  · exact wT_at 659 (by decide +kernel) (by decide +kernel)
  · exact wT_at 661 (by decide +kernel) (by decide +kernel)
  · exact wT_at 663 (by decide +kernel) (by decide +kernel)
  · exact wT_at 665 (by decide +kernel) (by decide +kernel)
  · exact wT_at 667 (by decide +kernel) (by decide +kernel)
  · exact wT_at 669 (by decide +kernel) (by decide +kernel)
  · exact wT_at 671 (by decide +kernel) (by decide +kernel)
  · exact wT_at 673 (by decide +kernel) (by decide +kernel)
theorem fl_X4_10 : FLk RX4 10 4 RX4 TX4 5 0 := ⟨rfl, cwX4, by decide, wT_at 216 (by decide +kernel) (by decide +kernel)⟩
theorem fl_X4_19 : FLk RX4 19 4 RX4 TX4 5 1 := ⟨rfl, cwX4, by decide, wT_at 217 (by decide +kernel) (by decide +kernel)⟩
theorem fl_X4_23 : FLk RX4 23 4 RX4 TX4 5 2 := ⟨rfl, cwX4, by decide, wT_at 218 (by decide +kernel) (by decide +kernel)⟩
theorem fl_X4_26 : FLk RX4 26 4 RX4 TX4 5 3 := ⟨rfl, cwX4, by decide, wT_at 219 (by decide +kernel) (by decide +kernel)⟩
theorem fl_X4_29 : FLk RX4 29 4 RX4 TX4 5 4 := ⟨rfl, cwX4, by decide, wT_at 220 (by decide +kernel) (by decide +kernel)⟩
theorem fl_X0_12 : FLk RX0 12 0 RX0 TX0 16 0 := ⟨rfl, cwX0, by decide, wT_at 166 (by decide +kernel) (by decide +kernel)⟩
theorem fl_X0_21 : FLk RX0 21 0 RX0 TX0 16 1 := ⟨rfl, cwX0, by decide, wT_at 167 (by decide +kernel) (by decide +kernel)⟩
theorem fl_X0_25 : FLk RX0 25 0 RX0 TX0 16 2 := ⟨rfl, cwX0, by decide, wT_at 168 (by decide +kernel) (by decide +kernel)⟩
theorem fl_X0_29 : FLk RX0 29 0 RX0 TX0 16 3 := ⟨rfl, cwX0, by decide, wT_at 169 (by decide +kernel) (by decide +kernel)⟩
theorem fl_X0_47 : FLk RX0 47 0 RX0 TX0 16 4 := ⟨rfl, cwX0, by decide, wT_at 170 (by decide +kernel) (by decide +kernel)⟩
theorem fl_X0_51 : FLk RX0 51 0 RX0 TX0 16 5 := ⟨rfl, cwX0, by decide, wT_at 171 (by decide +kernel) (by decide +kernel)⟩
theorem fl_X0_54 : FLk RX0 54 0 RX0 TX0 16 6 := ⟨rfl, cwX0, by decide, wT_at 172 (by decide +kernel) (by decide +kernel)⟩
theorem fl_X0_58 : FLk RX0 58 0 RX0 TX0 16 7 := ⟨rfl, cwX0, by decide, wT_at 173 (by decide +kernel) (by decide +kernel)⟩
theorem fl_X0_61 : FLk RX0 61 0 RX0 TX0 16 8 := ⟨rfl, cwX0, by decide, wT_at 174 (by decide +kernel) (by decide +kernel)⟩
theorem fl_X0_64 : FLk RX0 64 0 RX0 TX0 16 9 := ⟨rfl, cwX0, by decide, wT_at 175 (by decide +kernel) (by decide +kernel)⟩
theorem fl_X0_67 : FLk RX0 67 0 RX0 TX0 16 10 := ⟨rfl, cwX0, by decide, wT_at 176 (by decide +kernel) (by decide +kernel)⟩
theorem fl_X0_70 : FLk RX0 70 0 RX0 TX0 16 11 := ⟨rfl, cwX0, by decide, wT_at 177 (by decide +kernel) (by decide +kernel)⟩
theorem fl_X0_73 : FLk RX0 73 0 RX0 TX0 16 12 := ⟨rfl, cwX0, by decide, wT_at 178 (by decide +kernel) (by decide +kernel)⟩
theorem fl_X0_76 : FLk RX0 76 0 RX0 TX0 16 13 := ⟨rfl, cwX0, by decide, wT_at 179 (by decide +kernel) (by decide +kernel)⟩
theorem fl_X0_79 : FLk RX0 79 0 RX0 TX0 16 14 := ⟨rfl, cwX0, by decide, wT_at 180 (by decide +kernel) (by decide +kernel)⟩
theorem fl_X0_82 : FLk RX0 82 0 RX0 TX0 16 15 := ⟨rfl, cwX0, by decide, wT_at 181 (by decide +kernel) (by decide +kernel)⟩
theorem fl_X1_14 : FLk RX1 14 1 RX1 TX1 5 0 := ⟨rfl, cwX1, by decide, wT_at 83 (by decide +kernel) (by decide +kernel)⟩
theorem fl_X1_18 : FLk RX1 18 1 RX1 TX1 5 1 := ⟨rfl, cwX1, by decide, wT_at 84 (by decide +kernel) (by decide +kernel)⟩
theorem fl_X1_21 : FLk RX1 21 1 RX1 TX1 5 2 := ⟨rfl, cwX1, by decide, wT_at 85 (by decide +kernel) (by decide +kernel)⟩
theorem fl_X1_24 : FLk RX1 24 1 RX1 TX1 5 3 := ⟨rfl, cwX1, by decide, wT_at 86 (by decide +kernel) (by decide +kernel)⟩
theorem fl_X1_27 : FLk RX1 27 1 RX1 TX1 5 4 := ⟨rfl, cwX1, by decide, wT_at 87 (by decide +kernel) (by decide +kernel)⟩
theorem fl_X2_9 : FLk RX2 9 2 RX2 TX2 6 0 := ⟨rfl, cwX2, by decide, wT_at 100 (by decide +kernel) (by decide +kernel)⟩
theorem fl_X2_15 : FLk RX2 15 2 RX2 TX2 6 1 := ⟨rfl, cwX2, by decide, wT_at 101 (by decide +kernel) (by decide +kernel)⟩
theorem fl_X2_22 : FLk RX2 22 2 RX2 TX2 6 2 := ⟨rfl, cwX2, by decide, wT_at 102 (by decide +kernel) (by decide +kernel)⟩
theorem fl_X2_26 : FLk RX2 26 2 RX2 TX2 6 3 := ⟨rfl, cwX2, by decide, wT_at 103 (by decide +kernel) (by decide +kernel)⟩
theorem fl_X2_29 : FLk RX2 29 2 RX2 TX2 6 4 := ⟨rfl, cwX2, by decide, wT_at 104 (by decide +kernel) (by decide +kernel)⟩
theorem fl_X2_33 : FLk RX2 33 2 RX2 TX2 6 5 := ⟨rfl, cwX2, by decide, wT_at 105 (by decide +kernel) (by decide +kernel)⟩
theorem fl_X3_9 : FLk RX3 9 3 RX3 TX3 5 4 := ⟨rfl, cwX3, by decide, wT_at 141 (by decide +kernel) (by decide +kernel)⟩
theorem fl_X3_18 : FLk RX3 18 3 RX3 TX3 5 0 := ⟨rfl, cwX3, by decide, wT_at 137 (by decide +kernel) (by decide +kernel)⟩
theorem fl_X3_22 : FLk RX3 22 3 RX3 TX3 5 1 := ⟨rfl, cwX3, by decide, wT_at 138 (by decide +kernel) (by decide +kernel)⟩
theorem fl_X3_26 : FLk RX3 26 3 RX3 TX3 5 2 := ⟨rfl, cwX3, by decide, wT_at 139 (by decide +kernel) (by decide +kernel)⟩
theorem fl_X3_29 : FLk RX3 29 3 RX3 TX3 5 3 := ⟨rfl, cwX3, by decide, wT_at 140 (by decide +kernel) (by decide +kernel)⟩
theorem fl_X5_7 : FLk RX5 7 5 RX5 TX5 9 1 := ⟨rfl, cwX5, by decide, wT_at 649 (by decide +kernel) (by decide +kernel)⟩
theorem fl_X5_13 : FLk RX5 13 5 RX5 TX5 9 3 := ⟨rfl, cwX5, by decide, wT_at 651 (by decide +kernel) (by decide +kernel)⟩
theorem fl_X5_16 : FLk RX5 16 5 RX5 TX5 9 4 := ⟨rfl, cwX5, by decide, wT_at 652 (by decide +kernel) (by decide +kernel)⟩
theorem fl_X5_19 : FLk RX5 19 5 RX5 TX5 9 6 := ⟨rfl, cwX5, by decide, wT_at 654 (by decide +kernel) (by decide +kernel)⟩
theorem fl_X5_22 : FLk RX5 22 5 RX5 TX5 9 7 := ⟨rfl, cwX5, by decide, wT_at 655 (by decide +kernel) (by decide +kernel)⟩
theorem fl_X5_32 : FLk RX5 32 5 RX5 TX5 9 8 := ⟨rfl, cwX5, by decide, wT_at 656 (by decide +kernel) (by decide +kernel)⟩
theorem fl_X5_44 : FLk RX5 44 5 RX5 TX5 9 0 := ⟨rfl, cwX5, by decide, wT_at 648 (by decide +kernel) (by decide +kernel)⟩
theorem fl_X5_47 : FLk RX5 47 5 RX5 TX5 9 2 := ⟨rfl, cwX5, by decide, wT_at 650 (by decide +kernel) (by decide +kernel)⟩
theorem fl_X5_65 : FLk RX5 65 5 RX5 TX5 9 5 := ⟨rfl, cwX5, by decide, wT_at 653 (by decide +kernel) (by decide +kernel)⟩
theorem wc_X0_132 : Cond.constant RX0 132 1000000 ∈ wT := wT_at 429 (by decide +kernel) (by decide +kernel)
theorem wc_X5_98 : Cond.constant RX5 98 1000000 ∈ wT := wT_at 740 (by decide +kernel) (by decide +kernel)
theorem wc_X5_36 : Cond.constantLong RX5 36 32 ∈ wT := wT_at 680 (by decide +kernel) (by decide +kernel)
theorem wc_X5_38 : Cond.constantLong RX5 38 126 ∈ wT := wT_at 681 (by decide +kernel) (by decide +kernel)
theorem wc_X5_54 : Cond.constantLong RX5 54 48 ∈ wT := wT_at 709 (by decide +kernel) (by decide +kernel)
theorem wc_X5_56 : Cond.constantLong RX5 56 57 ∈ wT := wT_at 710 (by decide +kernel) (by decide +kernel)
theorem wc_X5_61 : Cond.constantLong RX5 61 2 ∈ wT := wT_at 711 (by decide +kernel) (by decide +kernel)
theorem wc_X5_63 : Cond.constantLong RX5 63 8 ∈ wT := wT_at 712 (by decide +kernel) (by decide +kernel)
theorem wc_X5_73 : Cond.constantLong RX5 73 9 ∈ wT := wT_at 713 (by decide +kernel) (by decide +kernel)
theorem wc_X5_75 : Cond.constantLong RX5 75 20 ∈ wT := wT_at 714 (by decide +kernel) (by decide +kernel)
theorem wc_X5_102 : Cond.constantLong RX5 102 255 ∈ wT := wT_at 735 (by decide +kernel) (by decide +kernel)
theorem wc_X5_139 : Cond.constantLong RX5 139 40 ∈ wT := wT_at 801 (by decide +kernel) (by decide +kernel)
theorem wc_X5_148 : Cond.constantLong RX5 148 99 ∈ wT := wT_at 815 (by decide +kernel) (by decide +kernel)
theorem wc_X5_153 : Cond.constantLong RX5 153 4 ∈ wT := wT_at 828 (by decide +kernel) (by decide +kernel)
theorem wc_X5_155 : Cond.constantLong RX5 155 7 ∈ wT := wT_at 833 (by decide +kernel) (by decide +kernel)
theorem mc_X2_append : Cond.code yX2_append cX2_append 2 (some .boolean) ∈ wT := wT_at 239 (by decide +kernel) (by decide +kernel)
theorem md_X2_append : yX2_append.cls ≠ "java/lang/invoke/MethodHandle" ∧ yX2_append.cls ≠ "java/lang/invoke/VarHandle" ∧ (parseMethodDescriptor yX2_append.desc).map (fun d => d.parameters.length) = some 1 := ⟨by decide +kernel, by decide +kernel, by decide +kernel⟩
theorem ms_X2_append : Cond.instanceMethod yX2_append ∈ wT := wT_at 237 (by decide +kernel) (by decide +kernel)
theorem mx_X2_append : Cond.selects yX2_append.cls yX2_append yX2_append ∈ wT := wT_at 238 (by decide +kernel) (by decide +kernel)
theorem mi_X2_append : Cond.initialized yX2_append.cls ∈ wT := wT_at 54 (by decide +kernel) (by decide +kernel)
theorem lk_X4_33 : LkV RX4 33 yX2_append cX2_append 2 (some .boolean) 1 := ⟨⟨wT_at 236 (by decide +kernel) (by decide +kernel), ms_X2_append, mx_X2_append, mi_X2_append, mc_X2_append⟩, md_X2_append⟩
theorem mc_X2_length : Cond.code yX2_length cX2_length 1 (some .int) ∈ wT := wT_at 243 (by decide +kernel) (by decide +kernel)
theorem md_X2_length : yX2_length.cls ≠ "java/lang/invoke/MethodHandle" ∧ yX2_length.cls ≠ "java/lang/invoke/VarHandle" ∧ (parseMethodDescriptor yX2_length.desc).map (fun d => d.parameters.length) = some 0 := ⟨by decide +kernel, by decide +kernel, by decide +kernel⟩
theorem ms_X2_length : Cond.instanceMethod yX2_length ∈ wT := wT_at 241 (by decide +kernel) (by decide +kernel)
theorem mx_X2_length : Cond.selects yX2_length.cls yX2_length yX2_length ∈ wT := wT_at 242 (by decide +kernel) (by decide +kernel)
theorem mi_X2_length : Cond.initialized yX2_length.cls ∈ wT := wT_at 54 (by decide +kernel) (by decide +kernel)
theorem lk_X4_37 : LkV RX4 37 yX2_length cX2_length 1 (some .int) 0 := ⟨⟨wT_at 240 (by decide +kernel) (by decide +kernel), ms_X2_length, mx_X2_length, mi_X2_length, mc_X2_length⟩, md_X2_length⟩
theorem mc_X2_clear : Cond.code yX2_clear cX2_clear 1 none ∈ wT := wT_at 251 (by decide +kernel) (by decide +kernel)
theorem md_X2_clear : yX2_clear.cls ≠ "java/lang/invoke/MethodHandle" ∧ yX2_clear.cls ≠ "java/lang/invoke/VarHandle" ∧ (parseMethodDescriptor yX2_clear.desc).map (fun d => d.parameters.length) = some 0 := ⟨by decide +kernel, by decide +kernel, by decide +kernel⟩
theorem ms_X2_clear : Cond.instanceMethod yX2_clear ∈ wT := wT_at 249 (by decide +kernel) (by decide +kernel)
theorem mx_X2_clear : Cond.selects yX2_clear.cls yX2_clear yX2_clear ∈ wT := wT_at 250 (by decide +kernel) (by decide +kernel)
theorem mi_X2_clear : Cond.initialized yX2_clear.cls ∈ wT := wT_at 54 (by decide +kernel) (by decide +kernel)
theorem lk_X4_41 : LkV RX4 41 yX2_clear cX2_clear 1 none 0 := ⟨⟨wT_at 248 (by decide +kernel) (by decide +kernel), ms_X2_clear, mx_X2_clear, mi_X2_clear, mc_X2_clear⟩, md_X2_clear⟩
theorem mc_X2_examine : Cond.code yX2_examine cX2_examine 3 none ∈ wT := wT_at 259 (by decide +kernel) (by decide +kernel)
theorem md_X2_examine : yX2_examine.cls ≠ "java/lang/invoke/MethodHandle" ∧ yX2_examine.cls ≠ "java/lang/invoke/VarHandle" ∧ (parseMethodDescriptor yX2_examine.desc).map (fun d => d.parameters.length) = some 0 := ⟨by decide +kernel, by decide +kernel, by decide +kernel⟩
theorem ms_X2_examine : Cond.instanceMethod yX2_examine ∈ wT := wT_at 257 (by decide +kernel) (by decide +kernel)
theorem mx_X2_examine : Cond.selects yX2_examine.cls yX2_examine yX2_examine ∈ wT := wT_at 258 (by decide +kernel) (by decide +kernel)
theorem mi_X2_examine : Cond.initialized yX2_examine.cls ∈ wT := wT_at 54 (by decide +kernel) (by decide +kernel)
theorem lk_X4_44 : LkV RX4 44 yX2_examine cX2_examine 3 none 0 := ⟨⟨wT_at 256 (by decide +kernel) (by decide +kernel), ms_X2_examine, mx_X2_examine, mi_X2_examine, mc_X2_examine⟩, md_X2_examine⟩
theorem mc_X2_faultPlace : Cond.code yX2_faultPlace cX2_faultPlace 1 (some .int) ∈ wT := wT_at 307 (by decide +kernel) (by decide +kernel)
theorem md_X2_faultPlace : yX2_faultPlace.cls ≠ "java/lang/invoke/MethodHandle" ∧ yX2_faultPlace.cls ≠ "java/lang/invoke/VarHandle" ∧ (parseMethodDescriptor yX2_faultPlace.desc).map (fun d => d.parameters.length) = some 0 := ⟨by decide +kernel, by decide +kernel, by decide +kernel⟩
theorem ms_X2_faultPlace : Cond.instanceMethod yX2_faultPlace ∈ wT := wT_at 305 (by decide +kernel) (by decide +kernel)
theorem mx_X2_faultPlace : Cond.selects yX2_faultPlace.cls yX2_faultPlace yX2_faultPlace ∈ wT := wT_at 306 (by decide +kernel) (by decide +kernel)
theorem mi_X2_faultPlace : Cond.initialized yX2_faultPlace.cls ∈ wT := wT_at 54 (by decide +kernel) (by decide +kernel)
theorem lk_X4_47 : LkV RX4 47 yX2_faultPlace cX2_faultPlace 1 (some .int) 0 := ⟨⟨wT_at 304 (by decide +kernel) (by decide +kernel), ms_X2_faultPlace, mx_X2_faultPlace, mi_X2_faultPlace, mc_X2_faultPlace⟩, md_X2_faultPlace⟩
theorem mc_X2_isChecked : Cond.code yX2_isChecked cX2_isChecked 1 (some .boolean) ∈ wT := wT_at 315 (by decide +kernel) (by decide +kernel)
theorem md_X2_isChecked : yX2_isChecked.cls ≠ "java/lang/invoke/MethodHandle" ∧ yX2_isChecked.cls ≠ "java/lang/invoke/VarHandle" ∧ (parseMethodDescriptor yX2_isChecked.desc).map (fun d => d.parameters.length) = some 0 := ⟨by decide +kernel, by decide +kernel, by decide +kernel⟩
theorem ms_X2_isChecked : Cond.instanceMethod yX2_isChecked ∈ wT := wT_at 313 (by decide +kernel) (by decide +kernel)
theorem mx_X2_isChecked : Cond.selects yX2_isChecked.cls yX2_isChecked yX2_isChecked ∈ wT := wT_at 314 (by decide +kernel) (by decide +kernel)
theorem mi_X2_isChecked : Cond.initialized yX2_isChecked.cls ∈ wT := wT_at 54 (by decide +kernel) (by decide +kernel)
theorem lk_X4_50 : LkV RX4 50 yX2_isChecked cX2_isChecked 1 (some .boolean) 0 := ⟨⟨wT_at 312 (by decide +kernel) (by decide +kernel), ms_X2_isChecked, mx_X2_isChecked, mi_X2_isChecked, mc_X2_isChecked⟩, md_X2_isChecked⟩
theorem mc_X2_told : Cond.code yX2_told cX2_told 1 (some (.object "FlashLanes$Shape")) ∈ wT := wT_at 319 (by decide +kernel) (by decide +kernel)
theorem md_X2_told : yX2_told.cls ≠ "java/lang/invoke/MethodHandle" ∧ yX2_told.cls ≠ "java/lang/invoke/VarHandle" ∧ (parseMethodDescriptor yX2_told.desc).map (fun d => d.parameters.length) = some 0 := ⟨by decide +kernel, by decide +kernel, by decide +kernel⟩
theorem ms_X2_told : Cond.instanceMethod yX2_told ∈ wT := wT_at 317 (by decide +kernel) (by decide +kernel)
theorem mx_X2_told : Cond.selects yX2_told.cls yX2_told yX2_told ∈ wT := wT_at 318 (by decide +kernel) (by decide +kernel)
theorem mi_X2_told : Cond.initialized yX2_told.cls ∈ wT := wT_at 54 (by decide +kernel) (by decide +kernel)
theorem lk_X4_54 : LkV RX4 54 yX2_told cX2_told 1 (some (.object "FlashLanes$Shape")) 0 := ⟨⟨wT_at 316 (by decide +kernel) (by decide +kernel), ms_X2_told, mx_X2_told, mi_X2_told, mc_X2_told⟩, md_X2_told⟩
theorem mc_X0_layOut : Cond.code yX0_layOut cX0_layOut 2 none ∈ wT := wT_at 323 (by decide +kernel) (by decide +kernel)
theorem md_X0_layOut : yX0_layOut.cls ≠ "java/lang/invoke/MethodHandle" ∧ yX0_layOut.cls ≠ "java/lang/invoke/VarHandle" ∧ (parseMethodDescriptor yX0_layOut.desc).map (fun d => d.parameters.length) = some 1 := ⟨by decide +kernel, by decide +kernel, by decide +kernel⟩
theorem ms_X0_layOut : Cond.instanceMethod yX0_layOut ∈ wT := wT_at 321 (by decide +kernel) (by decide +kernel)
theorem mx_X0_layOut : Cond.selects yX0_layOut.cls yX0_layOut yX0_layOut ∈ wT := wT_at 322 (by decide +kernel) (by decide +kernel)
theorem mi_X0_layOut : Cond.initialized yX0_layOut.cls ∈ wT := wT_at 56 (by decide +kernel) (by decide +kernel)
theorem lk_X4_58 : LkV RX4 58 yX0_layOut cX0_layOut 2 none 1 := ⟨⟨wT_at 320 (by decide +kernel) (by decide +kernel), ms_X0_layOut, mx_X0_layOut, mi_X0_layOut, mc_X0_layOut⟩, md_X0_layOut⟩
theorem mc_X0_all : Cond.code yX0_all cX0_all 1 (some .int) ∈ wT := wT_at 331 (by decide +kernel) (by decide +kernel)
theorem md_X0_all : yX0_all.cls ≠ "java/lang/invoke/MethodHandle" ∧ yX0_all.cls ≠ "java/lang/invoke/VarHandle" ∧ (parseMethodDescriptor yX0_all.desc).map (fun d => d.parameters.length) = some 0 := ⟨by decide +kernel, by decide +kernel, by decide +kernel⟩
theorem ms_X0_all : Cond.instanceMethod yX0_all ∈ wT := wT_at 329 (by decide +kernel) (by decide +kernel)
theorem mx_X0_all : Cond.selects yX0_all.cls yX0_all yX0_all ∈ wT := wT_at 330 (by decide +kernel) (by decide +kernel)
theorem mi_X0_all : Cond.initialized yX0_all.cls ∈ wT := wT_at 56 (by decide +kernel) (by decide +kernel)
theorem lk_X4_62 : LkV RX4 62 yX0_all cX0_all 1 (some .int) 0 := ⟨⟨wT_at 328 (by decide +kernel) (by decide +kernel), ms_X0_all, mx_X0_all, mi_X0_all, mc_X0_all⟩, md_X0_all⟩
theorem mc_X0_isSelected : Cond.code yX0_isSelected cX0_isSelected 1 (some .boolean) ∈ wT := wT_at 343 (by decide +kernel) (by decide +kernel)
theorem md_X0_isSelected : yX0_isSelected.cls ≠ "java/lang/invoke/MethodHandle" ∧ yX0_isSelected.cls ≠ "java/lang/invoke/VarHandle" ∧ (parseMethodDescriptor yX0_isSelected.desc).map (fun d => d.parameters.length) = some 0 := ⟨by decide +kernel, by decide +kernel, by decide +kernel⟩
theorem ms_X0_isSelected : Cond.instanceMethod yX0_isSelected ∈ wT := wT_at 341 (by decide +kernel) (by decide +kernel)
theorem mx_X0_isSelected : Cond.selects yX0_isSelected.cls yX0_isSelected yX0_isSelected ∈ wT := wT_at 342 (by decide +kernel) (by decide +kernel)
theorem mi_X0_isSelected : Cond.initialized yX0_isSelected.cls ∈ wT := wT_at 56 (by decide +kernel) (by decide +kernel)
theorem lk_X4_65 : LkV RX4 65 yX0_isSelected cX0_isSelected 1 (some .boolean) 0 := ⟨⟨wT_at 340 (by decide +kernel) (by decide +kernel), ms_X0_isSelected, mx_X0_isSelected, mi_X0_isSelected, mc_X0_isSelected⟩, md_X0_isSelected⟩
theorem mc_X0_open : Cond.code yX0_open cX0_open 1 none ∈ wT := wT_at 351 (by decide +kernel) (by decide +kernel)
theorem md_X0_open : yX0_open.cls ≠ "java/lang/invoke/MethodHandle" ∧ yX0_open.cls ≠ "java/lang/invoke/VarHandle" ∧ (parseMethodDescriptor yX0_open.desc).map (fun d => d.parameters.length) = some 0 := ⟨by decide +kernel, by decide +kernel, by decide +kernel⟩
theorem ms_X0_open : Cond.instanceMethod yX0_open ∈ wT := wT_at 349 (by decide +kernel) (by decide +kernel)
theorem mx_X0_open : Cond.selects yX0_open.cls yX0_open yX0_open ∈ wT := wT_at 350 (by decide +kernel) (by decide +kernel)
theorem mi_X0_open : Cond.initialized yX0_open.cls ∈ wT := wT_at 56 (by decide +kernel) (by decide +kernel)
theorem lk_X4_68 : LkV RX4 68 yX0_open cX0_open 1 none 0 := ⟨⟨wT_at 348 (by decide +kernel) (by decide +kernel), ms_X0_open, mx_X0_open, mi_X0_open, mc_X0_open⟩, md_X0_open⟩
theorem mc_X0_lanes : Cond.code yX0_lanes cX0_lanes 1 (some .int) ∈ wT := wT_at 359 (by decide +kernel) (by decide +kernel)
theorem md_X0_lanes : yX0_lanes.cls ≠ "java/lang/invoke/MethodHandle" ∧ yX0_lanes.cls ≠ "java/lang/invoke/VarHandle" ∧ (parseMethodDescriptor yX0_lanes.desc).map (fun d => d.parameters.length) = some 0 := ⟨by decide +kernel, by decide +kernel, by decide +kernel⟩
theorem ms_X0_lanes : Cond.instanceMethod yX0_lanes ∈ wT := wT_at 357 (by decide +kernel) (by decide +kernel)
theorem mx_X0_lanes : Cond.selects yX0_lanes.cls yX0_lanes yX0_lanes ∈ wT := wT_at 358 (by decide +kernel) (by decide +kernel)
theorem mi_X0_lanes : Cond.initialized yX0_lanes.cls ∈ wT := wT_at 56 (by decide +kernel) (by decide +kernel)
theorem lk_X4_71 : LkV RX4 71 yX0_lanes cX0_lanes 1 (some .int) 0 := ⟨⟨wT_at 356 (by decide +kernel) (by decide +kernel), ms_X0_lanes, mx_X0_lanes, mi_X0_lanes, mc_X0_lanes⟩, md_X0_lanes⟩
theorem mc_X0_accept : Cond.code yX0_accept cX0_accept 3 (some .int) ∈ wT := wT_at 370 (by decide +kernel) (by decide +kernel)
theorem md_X0_accept : yX0_accept.cls ≠ "java/lang/invoke/MethodHandle" ∧ yX0_accept.cls ≠ "java/lang/invoke/VarHandle" ∧ (parseMethodDescriptor yX0_accept.desc).map (fun d => d.parameters.length) = some 1 := ⟨by decide +kernel, by decide +kernel, by decide +kernel⟩
theorem ms_X0_accept : Cond.instanceMethod yX0_accept ∈ wT := wT_at 368 (by decide +kernel) (by decide +kernel)
theorem mx_X0_accept : Cond.selects yX0_accept.cls yX0_accept yX0_accept ∈ wT := wT_at 369 (by decide +kernel) (by decide +kernel)
theorem mi_X0_accept : Cond.initialized yX0_accept.cls ∈ wT := wT_at 56 (by decide +kernel) (by decide +kernel)
theorem lk_X4_77 : LkV RX4 77 yX0_accept cX0_accept 3 (some .int) 1 := ⟨⟨wT_at 367 (by decide +kernel) (by decide +kernel), ms_X0_accept, mx_X0_accept, mi_X0_accept, mc_X0_accept⟩, md_X0_accept⟩
theorem mc_X0_close : Cond.code yX0_close cX0_close 3 none ∈ wT := wT_at 437 (by decide +kernel) (by decide +kernel)
theorem md_X0_close : yX0_close.cls ≠ "java/lang/invoke/MethodHandle" ∧ yX0_close.cls ≠ "java/lang/invoke/VarHandle" ∧ (parseMethodDescriptor yX0_close.desc).map (fun d => d.parameters.length) = some 0 := ⟨by decide +kernel, by decide +kernel, by decide +kernel⟩
theorem ms_X0_close : Cond.instanceMethod yX0_close ∈ wT := wT_at 435 (by decide +kernel) (by decide +kernel)
theorem mx_X0_close : Cond.selects yX0_close.cls yX0_close yX0_close ∈ wT := wT_at 436 (by decide +kernel) (by decide +kernel)
theorem mi_X0_close : Cond.initialized yX0_close.cls ∈ wT := wT_at 56 (by decide +kernel) (by decide +kernel)
theorem lk_X4_81 : LkV RX4 81 yX0_close cX0_close 3 none 0 := ⟨⟨wT_at 434 (by decide +kernel) (by decide +kernel), ms_X0_close, mx_X0_close, mi_X0_close, mc_X0_close⟩, md_X0_close⟩
theorem mc_X0_status : Cond.code yX0_status cX0_status 2 (some .int) ∈ wT := wT_at 386 (by decide +kernel) (by decide +kernel)
theorem md_X0_status : yX0_status.cls ≠ "java/lang/invoke/MethodHandle" ∧ yX0_status.cls ≠ "java/lang/invoke/VarHandle" ∧ (parseMethodDescriptor yX0_status.desc).map (fun d => d.parameters.length) = some 0 := ⟨by decide +kernel, by decide +kernel, by decide +kernel⟩
theorem ms_X0_status : Cond.instanceMethod yX0_status ∈ wT := wT_at 384 (by decide +kernel) (by decide +kernel)
theorem mx_X0_status : Cond.selects yX0_status.cls yX0_status yX0_status ∈ wT := wT_at 385 (by decide +kernel) (by decide +kernel)
theorem mi_X0_status : Cond.initialized yX0_status.cls ∈ wT := wT_at 56 (by decide +kernel) (by decide +kernel)
theorem lk_X4_84 : LkV RX4 84 yX0_status cX0_status 2 (some .int) 0 := ⟨⟨wT_at 525 (by decide +kernel) (by decide +kernel), ms_X0_status, mx_X0_status, mi_X0_status, mc_X0_status⟩, md_X0_status⟩
theorem mc_X4_closeBehind : Cond.code yX4_closeBehind cX4_closeBehind 6 (some .int) ∈ wT := wT_at 533 (by decide +kernel) (by decide +kernel)
theorem md_X4_closeBehind : yX4_closeBehind.cls ≠ "java/lang/invoke/MethodHandle" ∧ yX4_closeBehind.cls ≠ "java/lang/invoke/VarHandle" ∧ (parseMethodDescriptor yX4_closeBehind.desc).map (fun d => d.parameters.length) = some 3 := ⟨by decide +kernel, by decide +kernel, by decide +kernel⟩
theorem ms_X4_closeBehind : Cond.instanceMethod yX4_closeBehind ∈ wT := wT_at 532 (by decide +kernel) (by decide +kernel)
theorem mx_X4_closeBehind : Cond.selects yX4_closeBehind.cls yX4_closeBehind yX4_closeBehind ∈ wT := wT_at 28 (by decide +kernel) (by decide +kernel)
theorem mi_X4_closeBehind : Cond.initialized yX4_closeBehind.cls ∈ wT := wT_at 53 (by decide +kernel) (by decide +kernel)
theorem lk_X4_87 : LkV RX4 87 yX4_closeBehind cX4_closeBehind 6 (some .int) 3 := ⟨⟨wT_at 530 (by decide +kernel) (by decide +kernel), ms_X4_closeBehind, mx_X4_closeBehind, mi_X4_closeBehind, mc_X4_closeBehind⟩, md_X4_closeBehind⟩
theorem mc_X0_isBusy : Cond.code yX0_isBusy cX0_isBusy 1 (some .boolean) ∈ wT := wT_at 390 (by decide +kernel) (by decide +kernel)
theorem md_X0_isBusy : yX0_isBusy.cls ≠ "java/lang/invoke/MethodHandle" ∧ yX0_isBusy.cls ≠ "java/lang/invoke/VarHandle" ∧ (parseMethodDescriptor yX0_isBusy.desc).map (fun d => d.parameters.length) = some 0 := ⟨by decide +kernel, by decide +kernel, by decide +kernel⟩
theorem ms_X0_isBusy : Cond.instanceMethod yX0_isBusy ∈ wT := wT_at 388 (by decide +kernel) (by decide +kernel)
theorem mx_X0_isBusy : Cond.selects yX0_isBusy.cls yX0_isBusy yX0_isBusy ∈ wT := wT_at 389 (by decide +kernel) (by decide +kernel)
theorem mi_X0_isBusy : Cond.initialized yX0_isBusy.cls ∈ wT := wT_at 56 (by decide +kernel) (by decide +kernel)
theorem lk_X4_91 : LkV RX4 91 yX0_isBusy cX0_isBusy 1 (some .boolean) 0 := ⟨⟨wT_at 542 (by decide +kernel) (by decide +kernel), ms_X0_isBusy, mx_X0_isBusy, mi_X0_isBusy, mc_X0_isBusy⟩, md_X0_isBusy⟩
theorem mc_X0_passTick : Cond.code yX0_passTick cX0_passTick 1 none ∈ wT := wT_at 546 (by decide +kernel) (by decide +kernel)
theorem md_X0_passTick : yX0_passTick.cls ≠ "java/lang/invoke/MethodHandle" ∧ yX0_passTick.cls ≠ "java/lang/invoke/VarHandle" ∧ (parseMethodDescriptor yX0_passTick.desc).map (fun d => d.parameters.length) = some 0 := ⟨by decide +kernel, by decide +kernel, by decide +kernel⟩
theorem ms_X0_passTick : Cond.instanceMethod yX0_passTick ∈ wT := wT_at 544 (by decide +kernel) (by decide +kernel)
theorem mx_X0_passTick : Cond.selects yX0_passTick.cls yX0_passTick yX0_passTick ∈ wT := wT_at 545 (by decide +kernel) (by decide +kernel)
theorem mi_X0_passTick : Cond.initialized yX0_passTick.cls ∈ wT := wT_at 56 (by decide +kernel) (by decide +kernel)
theorem lk_X4_94 : LkV RX4 94 yX0_passTick cX0_passTick 1 none 0 := ⟨⟨wT_at 543 (by decide +kernel) (by decide +kernel), ms_X0_passTick, mx_X0_passTick, mi_X0_passTick, mc_X0_passTick⟩, md_X0_passTick⟩
theorem mc_X0_byteAt : Cond.code yX0_byteAt cX0_byteAt 2 (some .int) ∈ wT := wT_at 410 (by decide +kernel) (by decide +kernel)
theorem md_X0_byteAt : yX0_byteAt.cls ≠ "java/lang/invoke/MethodHandle" ∧ yX0_byteAt.cls ≠ "java/lang/invoke/VarHandle" ∧ (parseMethodDescriptor yX0_byteAt.desc).map (fun d => d.parameters.length) = some 1 := ⟨by decide +kernel, by decide +kernel, by decide +kernel⟩
theorem ms_X0_byteAt : Cond.instanceMethod yX0_byteAt ∈ wT := wT_at 408 (by decide +kernel) (by decide +kernel)
theorem mx_X0_byteAt : Cond.selects yX0_byteAt.cls yX0_byteAt yX0_byteAt ∈ wT := wT_at 409 (by decide +kernel) (by decide +kernel)
theorem mi_X0_byteAt : Cond.initialized yX0_byteAt.cls ∈ wT := wT_at 56 (by decide +kernel) (by decide +kernel)
theorem lk_X4_97 : LkV RX4 97 yX0_byteAt cX0_byteAt 2 (some .int) 1 := ⟨⟨wT_at 551 (by decide +kernel) (by decide +kernel), ms_X0_byteAt, mx_X0_byteAt, mi_X0_byteAt, mc_X0_byteAt⟩, md_X0_byteAt⟩
theorem mc_X0_shape : Cond.code yX0_shape cX0_shape 1 (some (.object "FlashLanes$Shape")) ∈ wT := wT_at 559 (by decide +kernel) (by decide +kernel)
theorem md_X0_shape : yX0_shape.cls ≠ "java/lang/invoke/MethodHandle" ∧ yX0_shape.cls ≠ "java/lang/invoke/VarHandle" ∧ (parseMethodDescriptor yX0_shape.desc).map (fun d => d.parameters.length) = some 0 := ⟨by decide +kernel, by decide +kernel, by decide +kernel⟩
theorem ms_X0_shape : Cond.instanceMethod yX0_shape ∈ wT := wT_at 557 (by decide +kernel) (by decide +kernel)
theorem mx_X0_shape : Cond.selects yX0_shape.cls yX0_shape yX0_shape ∈ wT := wT_at 558 (by decide +kernel) (by decide +kernel)
theorem mi_X0_shape : Cond.initialized yX0_shape.cls ∈ wT := wT_at 56 (by decide +kernel) (by decide +kernel)
theorem lk_X4_100 : LkV RX4 100 yX0_shape cX0_shape 1 (some (.object "FlashLanes$Shape")) 0 := ⟨⟨wT_at 556 (by decide +kernel) (by decide +kernel), ms_X0_shape, mx_X0_shape, mi_X0_shape, mc_X0_shape⟩, md_X0_shape⟩
theorem mc_X1_sectors : Cond.code yX1_sectors cX1_sectors 1 (some .int) ∈ wT := wT_at 461 (by decide +kernel) (by decide +kernel)
theorem md_X1_sectors : yX1_sectors.cls ≠ "java/lang/invoke/MethodHandle" ∧ yX1_sectors.cls ≠ "java/lang/invoke/VarHandle" ∧ (parseMethodDescriptor yX1_sectors.desc).map (fun d => d.parameters.length) = some 0 := ⟨by decide +kernel, by decide +kernel, by decide +kernel⟩
theorem ms_X1_sectors : Cond.instanceMethod yX1_sectors ∈ wT := wT_at 459 (by decide +kernel) (by decide +kernel)
theorem mx_X1_sectors : Cond.selects yX1_sectors.cls yX1_sectors yX1_sectors ∈ wT := wT_at 460 (by decide +kernel) (by decide +kernel)
theorem mi_X1_sectors : Cond.initialized yX1_sectors.cls ∈ wT := wT_at 55 (by decide +kernel) (by decide +kernel)
theorem lk_X4_103 : LkV RX4 103 yX1_sectors cX1_sectors 1 (some .int) 0 := ⟨⟨wT_at 560 (by decide +kernel) (by decide +kernel), ms_X1_sectors, mx_X1_sectors, mi_X1_sectors, mc_X1_sectors⟩, md_X1_sectors⟩
theorem mc_X0_blanksIn : Cond.code yX0_blanksIn cX0_blanksIn 5 (some .int) ∈ wT := wT_at 564 (by decide +kernel) (by decide +kernel)
theorem md_X0_blanksIn : yX0_blanksIn.cls ≠ "java/lang/invoke/MethodHandle" ∧ yX0_blanksIn.cls ≠ "java/lang/invoke/VarHandle" ∧ (parseMethodDescriptor yX0_blanksIn.desc).map (fun d => d.parameters.length) = some 1 := ⟨by decide +kernel, by decide +kernel, by decide +kernel⟩
theorem ms_X0_blanksIn : Cond.instanceMethod yX0_blanksIn ∈ wT := wT_at 562 (by decide +kernel) (by decide +kernel)
theorem mx_X0_blanksIn : Cond.selects yX0_blanksIn.cls yX0_blanksIn yX0_blanksIn ∈ wT := wT_at 563 (by decide +kernel) (by decide +kernel)
theorem mi_X0_blanksIn : Cond.initialized yX0_blanksIn.cls ∈ wT := wT_at 56 (by decide +kernel) (by decide +kernel)
theorem lk_X4_108 : LkV RX4 108 yX0_blanksIn cX0_blanksIn 5 (some .int) 1 := ⟨⟨wT_at 561 (by decide +kernel) (by decide +kernel), ms_X0_blanksIn, mx_X0_blanksIn, mi_X0_blanksIn, mc_X0_blanksIn⟩, md_X0_blanksIn⟩
theorem mc_X0_sumOf : Cond.code yX0_sumOf cX0_sumOf 5 (some .int) ∈ wT := wT_at 568 (by decide +kernel) (by decide +kernel)
theorem md_X0_sumOf : yX0_sumOf.cls ≠ "java/lang/invoke/MethodHandle" ∧ yX0_sumOf.cls ≠ "java/lang/invoke/VarHandle" ∧ (parseMethodDescriptor yX0_sumOf.desc).map (fun d => d.parameters.length) = some 1 := ⟨by decide +kernel, by decide +kernel, by decide +kernel⟩
theorem ms_X0_sumOf : Cond.instanceMethod yX0_sumOf ∈ wT := wT_at 566 (by decide +kernel) (by decide +kernel)
theorem mx_X0_sumOf : Cond.selects yX0_sumOf.cls yX0_sumOf yX0_sumOf ∈ wT := wT_at 567 (by decide +kernel) (by decide +kernel)
theorem mi_X0_sumOf : Cond.initialized yX0_sumOf.cls ∈ wT := wT_at 56 (by decide +kernel) (by decide +kernel)
theorem lk_X4_111 : LkV RX4 111 yX0_sumOf cX0_sumOf 5 (some .int) 1 := ⟨⟨wT_at 565 (by decide +kernel) (by decide +kernel), ms_X0_sumOf, mx_X0_sumOf, mi_X0_sumOf, mc_X0_sumOf⟩, md_X0_sumOf⟩
theorem mc_X0_isLocked : Cond.code yX0_isLocked cX0_isLocked 2 (some .boolean) ∈ wT := wT_at 465 (by decide +kernel) (by decide +kernel)
theorem md_X0_isLocked : yX0_isLocked.cls ≠ "java/lang/invoke/MethodHandle" ∧ yX0_isLocked.cls ≠ "java/lang/invoke/VarHandle" ∧ (parseMethodDescriptor yX0_isLocked.desc).map (fun d => d.parameters.length) = some 1 := ⟨by decide +kernel, by decide +kernel, by decide +kernel⟩
theorem ms_X0_isLocked : Cond.instanceMethod yX0_isLocked ∈ wT := wT_at 463 (by decide +kernel) (by decide +kernel)
theorem mx_X0_isLocked : Cond.selects yX0_isLocked.cls yX0_isLocked yX0_isLocked ∈ wT := wT_at 464 (by decide +kernel) (by decide +kernel)
theorem mi_X0_isLocked : Cond.initialized yX0_isLocked.cls ∈ wT := wT_at 56 (by decide +kernel) (by decide +kernel)
theorem lk_X4_114 : LkV RX4 114 yX0_isLocked cX0_isLocked 2 (some .boolean) 1 := ⟨⟨wT_at 569 (by decide +kernel) (by decide +kernel), ms_X0_isLocked, mx_X0_isLocked, mi_X0_isLocked, mc_X0_isLocked⟩, md_X0_isLocked⟩
theorem mc_X0_isGuarded : Cond.code yX0_isGuarded cX0_isGuarded 2 (some .boolean) ∈ wT := wT_at 508 (by decide +kernel) (by decide +kernel)
theorem md_X0_isGuarded : yX0_isGuarded.cls ≠ "java/lang/invoke/MethodHandle" ∧ yX0_isGuarded.cls ≠ "java/lang/invoke/VarHandle" ∧ (parseMethodDescriptor yX0_isGuarded.desc).map (fun d => d.parameters.length) = some 1 := ⟨by decide +kernel, by decide +kernel, by decide +kernel⟩
theorem ms_X0_isGuarded : Cond.instanceMethod yX0_isGuarded ∈ wT := wT_at 506 (by decide +kernel) (by decide +kernel)
theorem mx_X0_isGuarded : Cond.selects yX0_isGuarded.cls yX0_isGuarded yX0_isGuarded ∈ wT := wT_at 507 (by decide +kernel) (by decide +kernel)
theorem mi_X0_isGuarded : Cond.initialized yX0_isGuarded.cls ∈ wT := wT_at 56 (by decide +kernel) (by decide +kernel)
theorem lk_X4_117 : LkV RX4 117 yX0_isGuarded cX0_isGuarded 2 (some .boolean) 1 := ⟨⟨wT_at 570 (by decide +kernel) (by decide +kernel), ms_X0_isGuarded, mx_X0_isGuarded, mi_X0_isGuarded, mc_X0_isGuarded⟩, md_X0_isGuarded⟩
theorem mc_X0_isBeingErased : Cond.code yX0_isBeingErased cX0_isBeingErased 2 (some .boolean) ∈ wT := wT_at 574 (by decide +kernel) (by decide +kernel)
theorem md_X0_isBeingErased : yX0_isBeingErased.cls ≠ "java/lang/invoke/MethodHandle" ∧ yX0_isBeingErased.cls ≠ "java/lang/invoke/VarHandle" ∧ (parseMethodDescriptor yX0_isBeingErased.desc).map (fun d => d.parameters.length) = some 1 := ⟨by decide +kernel, by decide +kernel, by decide +kernel⟩
theorem ms_X0_isBeingErased : Cond.instanceMethod yX0_isBeingErased ∈ wT := wT_at 572 (by decide +kernel) (by decide +kernel)
theorem mx_X0_isBeingErased : Cond.selects yX0_isBeingErased.cls yX0_isBeingErased yX0_isBeingErased ∈ wT := wT_at 573 (by decide +kernel) (by decide +kernel)
theorem mi_X0_isBeingErased : Cond.initialized yX0_isBeingErased.cls ∈ wT := wT_at 56 (by decide +kernel) (by decide +kernel)
theorem lk_X4_120 : LkV RX4 120 yX0_isBeingErased cX0_isBeingErased 2 (some .boolean) 1 := ⟨⟨wT_at 571 (by decide +kernel) (by decide +kernel), ms_X0_isBeingErased, mx_X0_isBeingErased, mi_X0_isBeingErased, mc_X0_isBeingErased⟩, md_X0_isBeingErased⟩
theorem mc_X1_tableByte : Cond.code yX1_tableByte cX1_tableByte 2 (some .int) ∈ wT := wT_at 414 (by decide +kernel) (by decide +kernel)
theorem md_X1_tableByte : yX1_tableByte.cls ≠ "java/lang/invoke/MethodHandle" ∧ yX1_tableByte.cls ≠ "java/lang/invoke/VarHandle" ∧ (parseMethodDescriptor yX1_tableByte.desc).map (fun d => d.parameters.length) = some 1 := ⟨by decide +kernel, by decide +kernel, by decide +kernel⟩
theorem ms_X1_tableByte : Cond.instanceMethod yX1_tableByte ∈ wT := wT_at 412 (by decide +kernel) (by decide +kernel)
theorem mx_X1_tableByte : Cond.selects yX1_tableByte.cls yX1_tableByte yX1_tableByte ∈ wT := wT_at 413 (by decide +kernel) (by decide +kernel)
theorem mi_X1_tableByte : Cond.initialized yX1_tableByte.cls ∈ wT := wT_at 55 (by decide +kernel) (by decide +kernel)
theorem lk_X4_123 : LkV RX4 123 yX1_tableByte cX1_tableByte 2 (some .int) 1 := ⟨⟨wT_at 579 (by decide +kernel) (by decide +kernel), ms_X1_tableByte, mx_X1_tableByte, mi_X1_tableByte, mc_X1_tableByte⟩, md_X1_tableByte⟩
theorem mc_X4_lastKept : Cond.code yX4_lastKept cX4_lastKept 1 (some (.object "FlashLanes$Chip")) ∈ wT := wT_at 587 (by decide +kernel) (by decide +kernel)
theorem md_X4_lastKept : yX4_lastKept.cls ≠ "java/lang/invoke/MethodHandle" ∧ yX4_lastKept.cls ≠ "java/lang/invoke/VarHandle" ∧ (parseMethodDescriptor yX4_lastKept.desc).map (fun d => d.parameters.length) = some 0 := ⟨by decide +kernel, by decide +kernel, by decide +kernel⟩
theorem ms_X4_lastKept : Cond.instanceMethod yX4_lastKept ∈ wT := wT_at 586 (by decide +kernel) (by decide +kernel)
theorem mx_X4_lastKept : Cond.selects yX4_lastKept.cls yX4_lastKept yX4_lastKept ∈ wT := wT_at 29 (by decide +kernel) (by decide +kernel)
theorem mi_X4_lastKept : Cond.initialized yX4_lastKept.cls ∈ wT := wT_at 53 (by decide +kernel) (by decide +kernel)
theorem lk_X4_126 : LkV RX4 126 yX4_lastKept cX4_lastKept 1 (some (.object "FlashLanes$Chip")) 0 := ⟨⟨wT_at 584 (by decide +kernel) (by decide +kernel), ms_X4_lastKept, mx_X4_lastKept, mi_X4_lastKept, mc_X4_lastKept⟩, md_X4_lastKept⟩
theorem mc_X0_copyFrom : Cond.code yX0_copyFrom cX0_copyFrom 3 none ∈ wT := wT_at 591 (by decide +kernel) (by decide +kernel)
theorem md_X0_copyFrom : yX0_copyFrom.cls ≠ "java/lang/invoke/MethodHandle" ∧ yX0_copyFrom.cls ≠ "java/lang/invoke/VarHandle" ∧ (parseMethodDescriptor yX0_copyFrom.desc).map (fun d => d.parameters.length) = some 1 := ⟨by decide +kernel, by decide +kernel, by decide +kernel⟩
theorem ms_X0_copyFrom : Cond.instanceMethod yX0_copyFrom ∈ wT := wT_at 589 (by decide +kernel) (by decide +kernel)
theorem mx_X0_copyFrom : Cond.selects yX0_copyFrom.cls yX0_copyFrom yX0_copyFrom ∈ wT := wT_at 590 (by decide +kernel) (by decide +kernel)
theorem mi_X0_copyFrom : Cond.initialized yX0_copyFrom.cls ∈ wT := wT_at 56 (by decide +kernel) (by decide +kernel)
theorem lk_X4_130 : LkV RX4 130 yX0_copyFrom cX0_copyFrom 3 none 1 := ⟨⟨wT_at 588 (by decide +kernel) (by decide +kernel), ms_X0_copyFrom, mx_X0_copyFrom, mi_X0_copyFrom, mc_X0_copyFrom⟩, md_X0_copyFrom⟩
theorem mc_X0_bytesOtherThanIn : Cond.code yX0_bytesOtherThanIn cX0_bytesOtherThanIn 4 (some .int) ∈ wT := wT_at 607 (by decide +kernel) (by decide +kernel)
theorem md_X0_bytesOtherThanIn : yX0_bytesOtherThanIn.cls ≠ "java/lang/invoke/MethodHandle" ∧ yX0_bytesOtherThanIn.cls ≠ "java/lang/invoke/VarHandle" ∧ (parseMethodDescriptor yX0_bytesOtherThanIn.desc).map (fun d => d.parameters.length) = some 1 := ⟨by decide +kernel, by decide +kernel, by decide +kernel⟩
theorem ms_X0_bytesOtherThanIn : Cond.instanceMethod yX0_bytesOtherThanIn ∈ wT := wT_at 605 (by decide +kernel) (by decide +kernel)
theorem mx_X0_bytesOtherThanIn : Cond.selects yX0_bytesOtherThanIn.cls yX0_bytesOtherThanIn yX0_bytesOtherThanIn ∈ wT := wT_at 606 (by decide +kernel) (by decide +kernel)
theorem mi_X0_bytesOtherThanIn : Cond.initialized yX0_bytesOtherThanIn.cls ∈ wT := wT_at 56 (by decide +kernel) (by decide +kernel)
theorem lk_X4_134 : LkV RX4 134 yX0_bytesOtherThanIn cX0_bytesOtherThanIn 4 (some .int) 1 := ⟨⟨wT_at 604 (by decide +kernel) (by decide +kernel), ms_X0_bytesOtherThanIn, mx_X0_bytesOtherThanIn, mi_X0_bytesOtherThanIn, mc_X0_bytesOtherThanIn⟩, md_X0_bytesOtherThanIn⟩
theorem mc_X1_pageBytes : Cond.code yX1_pageBytes cX1_pageBytes 1 (some .int) ∈ wT := wT_at 419 (by decide +kernel) (by decide +kernel)
theorem md_X1_pageBytes : yX1_pageBytes.cls ≠ "java/lang/invoke/MethodHandle" ∧ yX1_pageBytes.cls ≠ "java/lang/invoke/VarHandle" ∧ (parseMethodDescriptor yX1_pageBytes.desc).map (fun d => d.parameters.length) = some 0 := ⟨by decide +kernel, by decide +kernel, by decide +kernel⟩
theorem ms_X1_pageBytes : Cond.instanceMethod yX1_pageBytes ∈ wT := wT_at 417 (by decide +kernel) (by decide +kernel)
theorem mx_X1_pageBytes : Cond.selects yX1_pageBytes.cls yX1_pageBytes yX1_pageBytes ∈ wT := wT_at 418 (by decide +kernel) (by decide +kernel)
theorem mi_X1_pageBytes : Cond.initialized yX1_pageBytes.cls ∈ wT := wT_at 55 (by decide +kernel) (by decide +kernel)
theorem lk_X4_138 : LkV RX4 138 yX1_pageBytes cX1_pageBytes 1 (some .int) 0 := ⟨⟨wT_at 612 (by decide +kernel) (by decide +kernel), ms_X1_pageBytes, mx_X1_pageBytes, mi_X1_pageBytes, mc_X1_pageBytes⟩, md_X1_pageBytes⟩
theorem mc_X1_sectorPages : Cond.code yX1_sectorPages cX1_sectorPages 1 (some .int) ∈ wT := wT_at 616 (by decide +kernel) (by decide +kernel)
theorem md_X1_sectorPages : yX1_sectorPages.cls ≠ "java/lang/invoke/MethodHandle" ∧ yX1_sectorPages.cls ≠ "java/lang/invoke/VarHandle" ∧ (parseMethodDescriptor yX1_sectorPages.desc).map (fun d => d.parameters.length) = some 0 := ⟨by decide +kernel, by decide +kernel, by decide +kernel⟩
theorem ms_X1_sectorPages : Cond.instanceMethod yX1_sectorPages ∈ wT := wT_at 614 (by decide +kernel) (by decide +kernel)
theorem mx_X1_sectorPages : Cond.selects yX1_sectorPages.cls yX1_sectorPages yX1_sectorPages ∈ wT := wT_at 615 (by decide +kernel) (by decide +kernel)
theorem mi_X1_sectorPages : Cond.initialized yX1_sectorPages.cls ∈ wT := wT_at 55 (by decide +kernel) (by decide +kernel)
theorem lk_X4_141 : LkV RX4 141 yX1_sectorPages cX1_sectorPages 1 (some .int) 0 := ⟨⟨wT_at 613 (by decide +kernel) (by decide +kernel), ms_X1_sectorPages, mx_X1_sectorPages, mi_X1_sectorPages, mc_X1_sectorPages⟩, md_X1_sectorPages⟩
theorem mc_X1_programTicks : Cond.code yX1_programTicks cX1_programTicks 1 (some .int) ∈ wT := wT_at 524 (by decide +kernel) (by decide +kernel)
theorem md_X1_programTicks : yX1_programTicks.cls ≠ "java/lang/invoke/MethodHandle" ∧ yX1_programTicks.cls ≠ "java/lang/invoke/VarHandle" ∧ (parseMethodDescriptor yX1_programTicks.desc).map (fun d => d.parameters.length) = some 0 := ⟨by decide +kernel, by decide +kernel, by decide +kernel⟩
theorem ms_X1_programTicks : Cond.instanceMethod yX1_programTicks ∈ wT := wT_at 522 (by decide +kernel) (by decide +kernel)
theorem mx_X1_programTicks : Cond.selects yX1_programTicks.cls yX1_programTicks yX1_programTicks ∈ wT := wT_at 523 (by decide +kernel) (by decide +kernel)
theorem mi_X1_programTicks : Cond.initialized yX1_programTicks.cls ∈ wT := wT_at 55 (by decide +kernel) (by decide +kernel)
theorem lk_X4_144 : LkV RX4 144 yX1_programTicks cX1_programTicks 1 (some .int) 0 := ⟨⟨wT_at 617 (by decide +kernel) (by decide +kernel), ms_X1_programTicks, mx_X1_programTicks, mi_X1_programTicks, mc_X1_programTicks⟩, md_X1_programTicks⟩
theorem mc_X1_eraseTicks : Cond.code yX1_eraseTicks cX1_eraseTicks 1 (some .int) ∈ wT := wT_at 473 (by decide +kernel) (by decide +kernel)
theorem md_X1_eraseTicks : yX1_eraseTicks.cls ≠ "java/lang/invoke/MethodHandle" ∧ yX1_eraseTicks.cls ≠ "java/lang/invoke/VarHandle" ∧ (parseMethodDescriptor yX1_eraseTicks.desc).map (fun d => d.parameters.length) = some 0 := ⟨by decide +kernel, by decide +kernel, by decide +kernel⟩
theorem ms_X1_eraseTicks : Cond.instanceMethod yX1_eraseTicks ∈ wT := wT_at 471 (by decide +kernel) (by decide +kernel)
theorem mx_X1_eraseTicks : Cond.selects yX1_eraseTicks.cls yX1_eraseTicks yX1_eraseTicks ∈ wT := wT_at 472 (by decide +kernel) (by decide +kernel)
theorem mi_X1_eraseTicks : Cond.initialized yX1_eraseTicks.cls ∈ wT := wT_at 55 (by decide +kernel) (by decide +kernel)
theorem lk_X4_147 : LkV RX4 147 yX1_eraseTicks cX1_eraseTicks 1 (some .int) 0 := ⟨⟨wT_at 618 (by decide +kernel) (by decide +kernel), ms_X1_eraseTicks, mx_X1_eraseTicks, mi_X1_eraseTicks, mc_X1_eraseTicks⟩, md_X1_eraseTicks⟩
theorem mc_X0_clocks : Cond.code yX0_clocks cX0_clocks 1 (some .int) ∈ wT := wT_at 622 (by decide +kernel) (by decide +kernel)
theorem md_X0_clocks : yX0_clocks.cls ≠ "java/lang/invoke/MethodHandle" ∧ yX0_clocks.cls ≠ "java/lang/invoke/VarHandle" ∧ (parseMethodDescriptor yX0_clocks.desc).map (fun d => d.parameters.length) = some 0 := ⟨by decide +kernel, by decide +kernel, by decide +kernel⟩
theorem ms_X0_clocks : Cond.instanceMethod yX0_clocks ∈ wT := wT_at 620 (by decide +kernel) (by decide +kernel)
theorem mx_X0_clocks : Cond.selects yX0_clocks.cls yX0_clocks yX0_clocks ∈ wT := wT_at 621 (by decide +kernel) (by decide +kernel)
theorem mi_X0_clocks : Cond.initialized yX0_clocks.cls ∈ wT := wT_at 56 (by decide +kernel) (by decide +kernel)
theorem lk_X4_150 : LkV RX4 150 yX0_clocks cX0_clocks 1 (some .int) 0 := ⟨⟨wT_at 619 (by decide +kernel) (by decide +kernel), ms_X0_clocks, mx_X0_clocks, mi_X0_clocks, mc_X0_clocks⟩, md_X0_clocks⟩
theorem mc_X0_ticksLeft : Cond.code yX0_ticksLeft cX0_ticksLeft 1 (some .int) ∈ wT := wT_at 626 (by decide +kernel) (by decide +kernel)
theorem md_X0_ticksLeft : yX0_ticksLeft.cls ≠ "java/lang/invoke/MethodHandle" ∧ yX0_ticksLeft.cls ≠ "java/lang/invoke/VarHandle" ∧ (parseMethodDescriptor yX0_ticksLeft.desc).map (fun d => d.parameters.length) = some 0 := ⟨by decide +kernel, by decide +kernel, by decide +kernel⟩
theorem ms_X0_ticksLeft : Cond.instanceMethod yX0_ticksLeft ∈ wT := wT_at 624 (by decide +kernel) (by decide +kernel)
theorem mx_X0_ticksLeft : Cond.selects yX0_ticksLeft.cls yX0_ticksLeft yX0_ticksLeft ∈ wT := wT_at 625 (by decide +kernel) (by decide +kernel)
theorem mi_X0_ticksLeft : Cond.initialized yX0_ticksLeft.cls ∈ wT := wT_at 56 (by decide +kernel) (by decide +kernel)
theorem lk_X4_153 : LkV RX4 153 yX0_ticksLeft cX0_ticksLeft 1 (some .int) 0 := ⟨⟨wT_at 623 (by decide +kernel) (by decide +kernel), ms_X0_ticksLeft, mx_X0_ticksLeft, mi_X0_ticksLeft, mc_X0_ticksLeft⟩, md_X0_ticksLeft⟩
theorem mc_X0_puts : Cond.code yX0_puts cX0_puts 1 (some .int) ∈ wT := wT_at 630 (by decide +kernel) (by decide +kernel)
theorem md_X0_puts : yX0_puts.cls ≠ "java/lang/invoke/MethodHandle" ∧ yX0_puts.cls ≠ "java/lang/invoke/VarHandle" ∧ (parseMethodDescriptor yX0_puts.desc).map (fun d => d.parameters.length) = some 0 := ⟨by decide +kernel, by decide +kernel, by decide +kernel⟩
theorem ms_X0_puts : Cond.instanceMethod yX0_puts ∈ wT := wT_at 628 (by decide +kernel) (by decide +kernel)
theorem mx_X0_puts : Cond.selects yX0_puts.cls yX0_puts yX0_puts ∈ wT := wT_at 629 (by decide +kernel) (by decide +kernel)
theorem mi_X0_puts : Cond.initialized yX0_puts.cls ∈ wT := wT_at 56 (by decide +kernel) (by decide +kernel)
theorem lk_X4_156 : LkV RX4 156 yX0_puts cX0_puts 1 (some .int) 0 := ⟨⟨wT_at 627 (by decide +kernel) (by decide +kernel), ms_X0_puts, mx_X0_puts, mi_X0_puts, mc_X0_puts⟩, md_X0_puts⟩
theorem mc_X0_begun : Cond.code yX0_begun cX0_begun 1 (some .int) ∈ wT := wT_at 634 (by decide +kernel) (by decide +kernel)
theorem md_X0_begun : yX0_begun.cls ≠ "java/lang/invoke/MethodHandle" ∧ yX0_begun.cls ≠ "java/lang/invoke/VarHandle" ∧ (parseMethodDescriptor yX0_begun.desc).map (fun d => d.parameters.length) = some 0 := ⟨by decide +kernel, by decide +kernel, by decide +kernel⟩
theorem ms_X0_begun : Cond.instanceMethod yX0_begun ∈ wT := wT_at 632 (by decide +kernel) (by decide +kernel)
theorem mx_X0_begun : Cond.selects yX0_begun.cls yX0_begun yX0_begun ∈ wT := wT_at 633 (by decide +kernel) (by decide +kernel)
theorem mi_X0_begun : Cond.initialized yX0_begun.cls ∈ wT := wT_at 56 (by decide +kernel) (by decide +kernel)
theorem lk_X4_159 : LkV RX4 159 yX0_begun cX0_begun 1 (some .int) 0 := ⟨⟨wT_at 631 (by decide +kernel) (by decide +kernel), ms_X0_begun, mx_X0_begun, mi_X0_begun, mc_X0_begun⟩, md_X0_begun⟩
theorem mc_X0_startAnew : Cond.code yX0_startAnew cX0_startAnew 2 none ∈ wT := wT_at 156 (by decide +kernel) (by decide +kernel)
theorem md_X0_startAnew : yX0_startAnew.cls ≠ "java/lang/invoke/MethodHandle" ∧ yX0_startAnew.cls ≠ "java/lang/invoke/VarHandle" ∧ (parseMethodDescriptor yX0_startAnew.desc).map (fun d => d.parameters.length) = some 0 := ⟨by decide +kernel, by decide +kernel, by decide +kernel⟩
theorem ms_X0_startAnew : Cond.instanceMethod yX0_startAnew ∈ wT := wT_at 155 (by decide +kernel) (by decide +kernel)
theorem mx_X0_startAnew : Cond.selects yX0_startAnew.cls yX0_startAnew yX0_startAnew ∈ wT := wT_at 0 (by decide +kernel) (by decide +kernel)
theorem mi_X0_startAnew : Cond.initialized yX0_startAnew.cls ∈ wT := wT_at 56 (by decide +kernel) (by decide +kernel)
theorem lk_X0_33 : LkV RX0 33 yX0_startAnew cX0_startAnew 2 none 0 := ⟨⟨wT_at 153 (by decide +kernel) (by decide +kernel), ms_X0_startAnew, mx_X0_startAnew, mi_X0_startAnew, mc_X0_startAnew⟩, md_X0_startAnew⟩
theorem mc_X1_copyFrom : Cond.code yX1_copyFrom cX1_copyFrom 2 none ∈ wT := wT_at 327 (by decide +kernel) (by decide +kernel)
theorem md_X1_copyFrom : yX1_copyFrom.cls ≠ "java/lang/invoke/MethodHandle" ∧ yX1_copyFrom.cls ≠ "java/lang/invoke/VarHandle" ∧ (parseMethodDescriptor yX1_copyFrom.desc).map (fun d => d.parameters.length) = some 1 := ⟨by decide +kernel, by decide +kernel, by decide +kernel⟩
theorem ms_X1_copyFrom : Cond.instanceMethod yX1_copyFrom ∈ wT := wT_at 325 (by decide +kernel) (by decide +kernel)
theorem mx_X1_copyFrom : Cond.selects yX1_copyFrom.cls yX1_copyFrom yX1_copyFrom ∈ wT := wT_at 326 (by decide +kernel) (by decide +kernel)
theorem mi_X1_copyFrom : Cond.initialized yX1_copyFrom.cls ∈ wT := wT_at 55 (by decide +kernel) (by decide +kernel)
theorem lk_X0_36 : LkV RX0 36 yX1_copyFrom cX1_copyFrom 2 none 1 := ⟨⟨wT_at 324 (by decide +kernel) (by decide +kernel), ms_X1_copyFrom, mx_X1_copyFrom, mi_X1_copyFrom, mc_X1_copyFrom⟩, md_X1_copyFrom⟩
theorem mc_X3_clear : Cond.code yX3_clear cX3_clear 2 none ∈ wT := wT_at 136 (by decide +kernel) (by decide +kernel)
theorem md_X3_clear : yX3_clear.cls ≠ "java/lang/invoke/MethodHandle" ∧ yX3_clear.cls ≠ "java/lang/invoke/VarHandle" ∧ (parseMethodDescriptor yX3_clear.desc).map (fun d => d.parameters.length) = some 0 := ⟨by decide +kernel, by decide +kernel, by decide +kernel⟩
theorem ms_X3_clear : Cond.instanceMethod yX3_clear ∈ wT := wT_at 134 (by decide +kernel) (by decide +kernel)
theorem mx_X3_clear : Cond.selects yX3_clear.cls yX3_clear yX3_clear ∈ wT := wT_at 135 (by decide +kernel) (by decide +kernel)
theorem mi_X3_clear : Cond.initialized yX3_clear.cls ∈ wT := wT_at 57 (by decide +kernel) (by decide +kernel)
theorem lk_X0_40 : LkV RX0 40 yX3_clear cX3_clear 2 none 0 := ⟨⟨wT_at 157 (by decide +kernel) (by decide +kernel), ms_X3_clear, mx_X3_clear, mi_X3_clear, mc_X3_clear⟩, md_X3_clear⟩
theorem mc_X0_eraseFrom : Cond.code yX0_eraseFrom cX0_eraseFrom 4 none ∈ wT := wT_at 161 (by decide +kernel) (by decide +kernel)
theorem md_X0_eraseFrom : yX0_eraseFrom.cls ≠ "java/lang/invoke/MethodHandle" ∧ yX0_eraseFrom.cls ≠ "java/lang/invoke/VarHandle" ∧ (parseMethodDescriptor yX0_eraseFrom.desc).map (fun d => d.parameters.length) = some 2 := ⟨by decide +kernel, by decide +kernel, by decide +kernel⟩
theorem ms_X0_eraseFrom : Cond.instanceMethod yX0_eraseFrom ∈ wT := wT_at 160 (by decide +kernel) (by decide +kernel)
theorem mx_X0_eraseFrom : Cond.selects yX0_eraseFrom.cls yX0_eraseFrom yX0_eraseFrom ∈ wT := wT_at 1 (by decide +kernel) (by decide +kernel)
theorem mi_X0_eraseFrom : Cond.initialized yX0_eraseFrom.cls ∈ wT := wT_at 56 (by decide +kernel) (by decide +kernel)
theorem lk_X0_43 : LkV RX0 43 yX0_eraseFrom cX0_eraseFrom 4 none 2 := ⟨⟨wT_at 158 (by decide +kernel) (by decide +kernel), ms_X0_eraseFrom, mx_X0_eraseFrom, mi_X0_eraseFrom, mc_X0_eraseFrom⟩, md_X0_eraseFrom⟩
theorem mc_X3_copyFrom : Cond.code yX3_copyFrom cX3_copyFrom 3 none ∈ wT := wT_at 595 (by decide +kernel) (by decide +kernel)
theorem md_X3_copyFrom : yX3_copyFrom.cls ≠ "java/lang/invoke/MethodHandle" ∧ yX3_copyFrom.cls ≠ "java/lang/invoke/VarHandle" ∧ (parseMethodDescriptor yX3_copyFrom.desc).map (fun d => d.parameters.length) = some 1 := ⟨by decide +kernel, by decide +kernel, by decide +kernel⟩
theorem ms_X3_copyFrom : Cond.instanceMethod yX3_copyFrom ∈ wT := wT_at 593 (by decide +kernel) (by decide +kernel)
theorem mx_X3_copyFrom : Cond.selects yX3_copyFrom.cls yX3_copyFrom yX3_copyFrom ∈ wT := wT_at 594 (by decide +kernel) (by decide +kernel)
theorem mi_X3_copyFrom : Cond.initialized yX3_copyFrom.cls ∈ wT := wT_at 57 (by decide +kernel) (by decide +kernel)
theorem lk_X0_85 : LkV RX0 85 yX3_copyFrom cX3_copyFrom 3 none 1 := ⟨⟨wT_at 592 (by decide +kernel) (by decide +kernel), ms_X3_copyFrom, mx_X3_copyFrom, mi_X3_copyFrom, mc_X3_copyFrom⟩, md_X3_copyFrom⟩
theorem mc_X1_all : Cond.code yX1_all cX1_all 1 (some .int) ∈ wT := wT_at 335 (by decide +kernel) (by decide +kernel)
theorem md_X1_all : yX1_all.cls ≠ "java/lang/invoke/MethodHandle" ∧ yX1_all.cls ≠ "java/lang/invoke/VarHandle" ∧ (parseMethodDescriptor yX1_all.desc).map (fun d => d.parameters.length) = some 0 := ⟨by decide +kernel, by decide +kernel, by decide +kernel⟩
theorem ms_X1_all : Cond.instanceMethod yX1_all ∈ wT := wT_at 333 (by decide +kernel) (by decide +kernel)
theorem mx_X1_all : Cond.selects yX1_all.cls yX1_all yX1_all ∈ wT := wT_at 334 (by decide +kernel) (by decide +kernel)
theorem mi_X1_all : Cond.initialized yX1_all.cls ∈ wT := wT_at 55 (by decide +kernel) (by decide +kernel)
theorem lk_X0_88 : LkV RX0 88 yX1_all cX1_all 1 (some .int) 0 := ⟨⟨wT_at 332 (by decide +kernel) (by decide +kernel), ms_X1_all, mx_X1_all, mi_X1_all, mc_X1_all⟩, md_X1_all⟩
theorem mc_X3_puts : Cond.code yX3_puts cX3_puts 1 (some .int) ∈ wT := wT_at 378 (by decide +kernel) (by decide +kernel)
theorem md_X3_puts : yX3_puts.cls ≠ "java/lang/invoke/MethodHandle" ∧ yX3_puts.cls ≠ "java/lang/invoke/VarHandle" ∧ (parseMethodDescriptor yX3_puts.desc).map (fun d => d.parameters.length) = some 0 := ⟨by decide +kernel, by decide +kernel, by decide +kernel⟩
theorem ms_X3_puts : Cond.instanceMethod yX3_puts ∈ wT := wT_at 376 (by decide +kernel) (by decide +kernel)
theorem mx_X3_puts : Cond.selects yX3_puts.cls yX3_puts yX3_puts ∈ wT := wT_at 377 (by decide +kernel) (by decide +kernel)
theorem mi_X3_puts : Cond.initialized yX3_puts.cls ∈ wT := wT_at 57 (by decide +kernel) (by decide +kernel)
theorem lk_X0_92 : LkV RX0 92 yX3_puts cX3_puts 1 (some .int) 0 := ⟨⟨wT_at 375 (by decide +kernel) (by decide +kernel), ms_X3_puts, mx_X3_puts, mi_X3_puts, mc_X3_puts⟩, md_X3_puts⟩
theorem mc_X3_isSelected : Cond.code yX3_isSelected cX3_isSelected 1 (some .boolean) ∈ wT := wT_at 347 (by decide +kernel) (by decide +kernel)
theorem md_X3_isSelected : yX3_isSelected.cls ≠ "java/lang/invoke/MethodHandle" ∧ yX3_isSelected.cls ≠ "java/lang/invoke/VarHandle" ∧ (parseMethodDescriptor yX3_isSelected.desc).map (fun d => d.parameters.length) = some 0 := ⟨by decide +kernel, by decide +kernel, by decide +kernel⟩
theorem ms_X3_isSelected : Cond.instanceMethod yX3_isSelected ∈ wT := wT_at 345 (by decide +kernel) (by decide +kernel)
theorem mx_X3_isSelected : Cond.selects yX3_isSelected.cls yX3_isSelected yX3_isSelected ∈ wT := wT_at 346 (by decide +kernel) (by decide +kernel)
theorem mi_X3_isSelected : Cond.initialized yX3_isSelected.cls ∈ wT := wT_at 57 (by decide +kernel) (by decide +kernel)
theorem lk_X0_95 : LkV RX0 95 yX3_isSelected cX3_isSelected 1 (some .boolean) 0 := ⟨⟨wT_at 344 (by decide +kernel) (by decide +kernel), ms_X3_isSelected, mx_X3_isSelected, mi_X3_isSelected, mc_X3_isSelected⟩, md_X3_isSelected⟩
theorem lk_X0_99 : LkV RX0 99 yX0_isBusy cX0_isBusy 1 (some .boolean) 0 := ⟨⟨wT_at 387 (by decide +kernel) (by decide +kernel), ms_X0_isBusy, mx_X0_isBusy, mi_X0_isBusy, mc_X0_isBusy⟩, md_X0_isBusy⟩
theorem mc_X0_isSuspended : Cond.code yX0_isSuspended cX0_isSuspended 1 (some .boolean) ∈ wT := wT_at 394 (by decide +kernel) (by decide +kernel)
theorem md_X0_isSuspended : yX0_isSuspended.cls ≠ "java/lang/invoke/MethodHandle" ∧ yX0_isSuspended.cls ≠ "java/lang/invoke/VarHandle" ∧ (parseMethodDescriptor yX0_isSuspended.desc).map (fun d => d.parameters.length) = some 0 := ⟨by decide +kernel, by decide +kernel, by decide +kernel⟩
theorem ms_X0_isSuspended : Cond.instanceMethod yX0_isSuspended ∈ wT := wT_at 393 (by decide +kernel) (by decide +kernel)
theorem mx_X0_isSuspended : Cond.selects yX0_isSuspended.cls yX0_isSuspended yX0_isSuspended ∈ wT := wT_at 11 (by decide +kernel) (by decide +kernel)
theorem mi_X0_isSuspended : Cond.initialized yX0_isSuspended.cls ∈ wT := wT_at 56 (by decide +kernel) (by decide +kernel)
theorem lk_X0_102 : LkV RX0 102 yX0_isSuspended cX0_isSuspended 1 (some .boolean) 0 := ⟨⟨wT_at 391 (by decide +kernel) (by decide +kernel), ms_X0_isSuspended, mx_X0_isSuspended, mi_X0_isSuspended, mc_X0_isSuspended⟩, md_X0_isSuspended⟩
theorem mc_X1_sectorBytes : Cond.code yX1_sectorBytes cX1_sectorBytes 1 (some .int) ∈ wT := wT_at 497 (by decide +kernel) (by decide +kernel)
theorem md_X1_sectorBytes : yX1_sectorBytes.cls ≠ "java/lang/invoke/MethodHandle" ∧ yX1_sectorBytes.cls ≠ "java/lang/invoke/VarHandle" ∧ (parseMethodDescriptor yX1_sectorBytes.desc).map (fun d => d.parameters.length) = some 0 := ⟨by decide +kernel, by decide +kernel, by decide +kernel⟩
theorem ms_X1_sectorBytes : Cond.instanceMethod yX1_sectorBytes ∈ wT := wT_at 495 (by decide +kernel) (by decide +kernel)
theorem mx_X1_sectorBytes : Cond.selects yX1_sectorBytes.cls yX1_sectorBytes yX1_sectorBytes ∈ wT := wT_at 496 (by decide +kernel) (by decide +kernel)
theorem mi_X1_sectorBytes : Cond.initialized yX1_sectorBytes.cls ∈ wT := wT_at 55 (by decide +kernel) (by decide +kernel)
theorem lk_X0_105 : LkV RX0 105 yX1_sectorBytes cX1_sectorBytes 1 (some .int) 0 := ⟨⟨wT_at 494 (by decide +kernel) (by decide +kernel), ms_X1_sectorBytes, mx_X1_sectorBytes, mi_X1_sectorBytes, mc_X1_sectorBytes⟩, md_X1_sectorBytes⟩
theorem lk_X0_108 : LkV RX0 108 yX0_byteAt cX0_byteAt 2 (some .int) 1 := ⟨⟨wT_at 407 (by decide +kernel) (by decide +kernel), ms_X0_byteAt, mx_X0_byteAt, mi_X0_byteAt, mc_X0_byteAt⟩, md_X0_byteAt⟩
theorem lk_X0_112 : LkV RX0 112 yX0_all cX0_all 1 (some .int) 0 := ⟨⟨wT_at 403 (by decide +kernel) (by decide +kernel), ms_X0_all, mx_X0_all, mi_X0_all, mc_X0_all⟩, md_X0_all⟩
theorem lk_X0_113 : LkV RX0 113 yX0_isLocked cX0_isLocked 2 (some .boolean) 1 := ⟨⟨wT_at 462 (by decide +kernel) (by decide +kernel), ms_X0_isLocked, mx_X0_isLocked, mi_X0_isLocked, mc_X0_isLocked⟩, md_X0_isLocked⟩
theorem lk_X0_117 : LkV RX0 117 yX1_sectors cX1_sectors 1 (some .int) 0 := ⟨⟨wT_at 458 (by decide +kernel) (by decide +kernel), ms_X1_sectors, mx_X1_sectors, mi_X1_sectors, mc_X1_sectors⟩, md_X1_sectors⟩
theorem mc_X3_open : Cond.code yX3_open cX3_open 1 none ∈ wT := wT_at 355 (by decide +kernel) (by decide +kernel)
theorem md_X3_open : yX3_open.cls ≠ "java/lang/invoke/MethodHandle" ∧ yX3_open.cls ≠ "java/lang/invoke/VarHandle" ∧ (parseMethodDescriptor yX3_open.desc).map (fun d => d.parameters.length) = some 0 := ⟨by decide +kernel, by decide +kernel, by decide +kernel⟩
theorem ms_X3_open : Cond.instanceMethod yX3_open ∈ wT := wT_at 353 (by decide +kernel) (by decide +kernel)
theorem mx_X3_open : Cond.selects yX3_open.cls yX3_open yX3_open ∈ wT := wT_at 354 (by decide +kernel) (by decide +kernel)
theorem mi_X3_open : Cond.initialized yX3_open.cls ∈ wT := wT_at 57 (by decide +kernel) (by decide +kernel)
theorem lk_X0_120 : LkV RX0 120 yX3_open cX3_open 1 none 0 := ⟨⟨wT_at 352 (by decide +kernel) (by decide +kernel), ms_X3_open, mx_X3_open, mi_X3_open, mc_X3_open⟩, md_X3_open⟩
theorem mc_X0_answerToNext : Cond.code yX0_answerToNext cX0_answerToNext 1 (some .int) ∈ wT := wT_at 374 (by decide +kernel) (by decide +kernel)
theorem md_X0_answerToNext : yX0_answerToNext.cls ≠ "java/lang/invoke/MethodHandle" ∧ yX0_answerToNext.cls ≠ "java/lang/invoke/VarHandle" ∧ (parseMethodDescriptor yX0_answerToNext.desc).map (fun d => d.parameters.length) = some 0 := ⟨by decide +kernel, by decide +kernel, by decide +kernel⟩
theorem ms_X0_answerToNext : Cond.instanceMethod yX0_answerToNext ∈ wT := wT_at 373 (by decide +kernel) (by decide +kernel)
theorem mx_X0_answerToNext : Cond.selects yX0_answerToNext.cls yX0_answerToNext yX0_answerToNext ∈ wT := wT_at 10 (by decide +kernel) (by decide +kernel)
theorem mi_X0_answerToNext : Cond.initialized yX0_answerToNext.cls ∈ wT := wT_at 56 (by decide +kernel) (by decide +kernel)
theorem lk_X0_123 : LkV RX0 123 yX0_answerToNext cX0_answerToNext 1 (some .int) 0 := ⟨⟨wT_at 371 (by decide +kernel) (by decide +kernel), ms_X0_answerToNext, mx_X0_answerToNext, mi_X0_answerToNext, mc_X0_answerToNext⟩, md_X0_answerToNext⟩
theorem lk_X0_126 : LkV RX0 126 yX1_pageBytes cX1_pageBytes 1 (some .int) 0 := ⟨⟨wT_at 416 (by decide +kernel) (by decide +kernel), ms_X1_pageBytes, mx_X1_pageBytes, mi_X1_pageBytes, mc_X1_pageBytes⟩, md_X1_pageBytes⟩
theorem mc_X3_take : Cond.code yX3_take cX3_take 3 none ∈ wT := wT_at 423 (by decide +kernel) (by decide +kernel)
theorem md_X3_take : yX3_take.cls ≠ "java/lang/invoke/MethodHandle" ∧ yX3_take.cls ≠ "java/lang/invoke/VarHandle" ∧ (parseMethodDescriptor yX3_take.desc).map (fun d => d.parameters.length) = some 2 := ⟨by decide +kernel, by decide +kernel, by decide +kernel⟩
theorem ms_X3_take : Cond.instanceMethod yX3_take ∈ wT := wT_at 421 (by decide +kernel) (by decide +kernel)
theorem mx_X3_take : Cond.selects yX3_take.cls yX3_take yX3_take ∈ wT := wT_at 422 (by decide +kernel) (by decide +kernel)
theorem mi_X3_take : Cond.initialized yX3_take.cls ∈ wT := wT_at 57 (by decide +kernel) (by decide +kernel)
theorem lk_X0_129 : LkV RX0 129 yX3_take cX3_take 3 none 2 := ⟨⟨wT_at 420 (by decide +kernel) (by decide +kernel), ms_X3_take, mx_X3_take, mi_X3_take, mc_X3_take⟩, md_X3_take⟩
theorem mc_X3_command : Cond.code yX3_command cX3_command 1 (some .int) ∈ wT := wT_at 382 (by decide +kernel) (by decide +kernel)
theorem md_X3_command : yX3_command.cls ≠ "java/lang/invoke/MethodHandle" ∧ yX3_command.cls ≠ "java/lang/invoke/VarHandle" ∧ (parseMethodDescriptor yX3_command.desc).map (fun d => d.parameters.length) = some 0 := ⟨by decide +kernel, by decide +kernel, by decide +kernel⟩
theorem ms_X3_command : Cond.instanceMethod yX3_command ∈ wT := wT_at 380 (by decide +kernel) (by decide +kernel)
theorem mx_X3_command : Cond.selects yX3_command.cls yX3_command yX3_command ∈ wT := wT_at 381 (by decide +kernel) (by decide +kernel)
theorem mi_X3_command : Cond.initialized yX3_command.cls ∈ wT := wT_at 57 (by decide +kernel) (by decide +kernel)
theorem lk_X0_133 : LkV RX0 133 yX3_command cX3_command 1 (some .int) 0 := ⟨⟨wT_at 379 (by decide +kernel) (by decide +kernel), ms_X3_command, mx_X3_command, mi_X3_command, mc_X3_command⟩, md_X3_command⟩
theorem lk_X0_136 : LkV RX0 136 yX0_status cX0_status 2 (some .int) 0 := ⟨⟨wT_at 383 (by decide +kernel) (by decide +kernel), ms_X0_status, mx_X0_status, mi_X0_status, mc_X0_status⟩, md_X0_status⟩
theorem mc_X0_contentForNext : Cond.code yX0_contentForNext cX0_contentForNext 2 (some .int) ∈ wT := wT_at 398 (by decide +kernel) (by decide +kernel)
theorem md_X0_contentForNext : yX0_contentForNext.cls ≠ "java/lang/invoke/MethodHandle" ∧ yX0_contentForNext.cls ≠ "java/lang/invoke/VarHandle" ∧ (parseMethodDescriptor yX0_contentForNext.desc).map (fun d => d.parameters.length) = some 0 := ⟨by decide +kernel, by decide +kernel, by decide +kernel⟩
theorem ms_X0_contentForNext : Cond.instanceMethod yX0_contentForNext ∈ wT := wT_at 397 (by decide +kernel) (by decide +kernel)
theorem mx_X0_contentForNext : Cond.selects yX0_contentForNext.cls yX0_contentForNext yX0_contentForNext ∈ wT := wT_at 12 (by decide +kernel) (by decide +kernel)
theorem mi_X0_contentForNext : Cond.initialized yX0_contentForNext.cls ∈ wT := wT_at 56 (by decide +kernel) (by decide +kernel)
theorem lk_X0_139 : LkV RX0 139 yX0_contentForNext cX0_contentForNext 2 (some .int) 0 := ⟨⟨wT_at 395 (by decide +kernel) (by decide +kernel), ms_X0_contentForNext, mx_X0_contentForNext, mi_X0_contentForNext, mc_X0_contentForNext⟩, md_X0_contentForNext⟩
theorem mc_X3_first : Cond.code yX3_first cX3_first 1 (some .int) ∈ wT := wT_at 402 (by decide +kernel) (by decide +kernel)
theorem md_X3_first : yX3_first.cls ≠ "java/lang/invoke/MethodHandle" ∧ yX3_first.cls ≠ "java/lang/invoke/VarHandle" ∧ (parseMethodDescriptor yX3_first.desc).map (fun d => d.parameters.length) = some 0 := ⟨by decide +kernel, by decide +kernel, by decide +kernel⟩
theorem ms_X3_first : Cond.instanceMethod yX3_first ∈ wT := wT_at 400 (by decide +kernel) (by decide +kernel)
theorem mx_X3_first : Cond.selects yX3_first.cls yX3_first yX3_first ∈ wT := wT_at 401 (by decide +kernel) (by decide +kernel)
theorem mi_X3_first : Cond.initialized yX3_first.cls ∈ wT := wT_at 57 (by decide +kernel) (by decide +kernel)
theorem lk_X0_142 : LkV RX0 142 yX3_first cX3_first 1 (some .int) 0 := ⟨⟨wT_at 399 (by decide +kernel) (by decide +kernel), ms_X3_first, mx_X3_first, mi_X3_first, mc_X3_first⟩, md_X3_first⟩
theorem lk_X0_149 : LkV RX0 149 yX1_tableByte cX1_tableByte 2 (some .int) 1 := ⟨⟨wT_at 411 (by decide +kernel) (by decide +kernel), ms_X1_tableByte, mx_X1_tableByte, mi_X1_tableByte, mc_X1_tableByte⟩, md_X1_tableByte⟩
theorem mc_X0_suspend : Cond.code yX0_suspend cX0_suspend 1 none ∈ wT := wT_at 441 (by decide +kernel) (by decide +kernel)
theorem md_X0_suspend : yX0_suspend.cls ≠ "java/lang/invoke/MethodHandle" ∧ yX0_suspend.cls ≠ "java/lang/invoke/VarHandle" ∧ (parseMethodDescriptor yX0_suspend.desc).map (fun d => d.parameters.length) = some 0 := ⟨by decide +kernel, by decide +kernel, by decide +kernel⟩
theorem ms_X0_suspend : Cond.instanceMethod yX0_suspend ∈ wT := wT_at 440 (by decide +kernel) (by decide +kernel)
theorem mx_X0_suspend : Cond.selects yX0_suspend.cls yX0_suspend yX0_suspend ∈ wT := wT_at 14 (by decide +kernel) (by decide +kernel)
theorem mi_X0_suspend : Cond.initialized yX0_suspend.cls ∈ wT := wT_at 56 (by decide +kernel) (by decide +kernel)
theorem lk_X0_152 : LkV RX0 152 yX0_suspend cX0_suspend 1 none 0 := ⟨⟨wT_at 438 (by decide +kernel) (by decide +kernel), ms_X0_suspend, mx_X0_suspend, mi_X0_suspend, mc_X0_suspend⟩, md_X0_suspend⟩
theorem mc_X0_obeyAlone : Cond.code yX0_obeyAlone cX0_obeyAlone 2 none ∈ wT := wT_at 449 (by decide +kernel) (by decide +kernel)
theorem md_X0_obeyAlone : yX0_obeyAlone.cls ≠ "java/lang/invoke/MethodHandle" ∧ yX0_obeyAlone.cls ≠ "java/lang/invoke/VarHandle" ∧ (parseMethodDescriptor yX0_obeyAlone.desc).map (fun d => d.parameters.length) = some 1 := ⟨by decide +kernel, by decide +kernel, by decide +kernel⟩
theorem ms_X0_obeyAlone : Cond.instanceMethod yX0_obeyAlone ∈ wT := wT_at 448 (by decide +kernel) (by decide +kernel)
theorem mx_X0_obeyAlone : Cond.selects yX0_obeyAlone.cls yX0_obeyAlone yX0_obeyAlone ∈ wT := wT_at 16 (by decide +kernel) (by decide +kernel)
theorem mi_X0_obeyAlone : Cond.initialized yX0_obeyAlone.cls ∈ wT := wT_at 56 (by decide +kernel) (by decide +kernel)
theorem lk_X0_155 : LkV RX0 155 yX0_obeyAlone cX0_obeyAlone 2 none 1 := ⟨⟨wT_at 446 (by decide +kernel) (by decide +kernel), ms_X0_obeyAlone, mx_X0_obeyAlone, mi_X0_obeyAlone, mc_X0_obeyAlone⟩, md_X0_obeyAlone⟩
theorem mc_X0_obeyWithByte : Cond.code yX0_obeyWithByte cX0_obeyWithByte 3 none ∈ wT := wT_at 493 (by decide +kernel) (by decide +kernel)
theorem md_X0_obeyWithByte : yX0_obeyWithByte.cls ≠ "java/lang/invoke/MethodHandle" ∧ yX0_obeyWithByte.cls ≠ "java/lang/invoke/VarHandle" ∧ (parseMethodDescriptor yX0_obeyWithByte.desc).map (fun d => d.parameters.length) = some 1 := ⟨by decide +kernel, by decide +kernel, by decide +kernel⟩
theorem ms_X0_obeyWithByte : Cond.instanceMethod yX0_obeyWithByte ∈ wT := wT_at 492 (by decide +kernel) (by decide +kernel)
theorem mx_X0_obeyWithByte : Cond.selects yX0_obeyWithByte.cls yX0_obeyWithByte yX0_obeyWithByte ∈ wT := wT_at 24 (by decide +kernel) (by decide +kernel)
theorem mi_X0_obeyWithByte : Cond.initialized yX0_obeyWithByte.cls ∈ wT := wT_at 56 (by decide +kernel) (by decide +kernel)
theorem lk_X0_159 : LkV RX0 159 yX0_obeyWithByte cX0_obeyWithByte 3 none 1 := ⟨⟨wT_at 490 (by decide +kernel) (by decide +kernel), ms_X0_obeyWithByte, mx_X0_obeyWithByte, mi_X0_obeyWithByte, mc_X0_obeyWithByte⟩, md_X0_obeyWithByte⟩
theorem mc_X0_beginProgram : Cond.code yX0_beginProgram cX0_beginProgram 5 none ∈ wT := wT_at 516 (by decide +kernel) (by decide +kernel)
theorem md_X0_beginProgram : yX0_beginProgram.cls ≠ "java/lang/invoke/MethodHandle" ∧ yX0_beginProgram.cls ≠ "java/lang/invoke/VarHandle" ∧ (parseMethodDescriptor yX0_beginProgram.desc).map (fun d => d.parameters.length) = some 1 := ⟨by decide +kernel, by decide +kernel, by decide +kernel⟩
theorem ms_X0_beginProgram : Cond.instanceMethod yX0_beginProgram ∈ wT := wT_at 515 (by decide +kernel) (by decide +kernel)
theorem mx_X0_beginProgram : Cond.selects yX0_beginProgram.cls yX0_beginProgram yX0_beginProgram ∈ wT := wT_at 27 (by decide +kernel) (by decide +kernel)
theorem mi_X0_beginProgram : Cond.initialized yX0_beginProgram.cls ∈ wT := wT_at 56 (by decide +kernel) (by decide +kernel)
theorem lk_X0_163 : LkV RX0 163 yX0_beginProgram cX0_beginProgram 5 none 1 := ⟨⟨wT_at 513 (by decide +kernel) (by decide +kernel), ms_X0_beginProgram, mx_X0_beginProgram, mi_X0_beginProgram, mc_X0_beginProgram⟩, md_X0_beginProgram⟩
theorem mc_X0_beginAll : Cond.code yX0_beginAll cX0_beginAll 1 none ∈ wT := wT_at 453 (by decide +kernel) (by decide +kernel)
theorem md_X0_beginAll : yX0_beginAll.cls ≠ "java/lang/invoke/MethodHandle" ∧ yX0_beginAll.cls ≠ "java/lang/invoke/VarHandle" ∧ (parseMethodDescriptor yX0_beginAll.desc).map (fun d => d.parameters.length) = some 0 := ⟨by decide +kernel, by decide +kernel, by decide +kernel⟩
theorem ms_X0_beginAll : Cond.instanceMethod yX0_beginAll ∈ wT := wT_at 452 (by decide +kernel) (by decide +kernel)
theorem mx_X0_beginAll : Cond.selects yX0_beginAll.cls yX0_beginAll yX0_beginAll ∈ wT := wT_at 17 (by decide +kernel) (by decide +kernel)
theorem mi_X0_beginAll : Cond.initialized yX0_beginAll.cls ∈ wT := wT_at 56 (by decide +kernel) (by decide +kernel)
theorem lk_X0_166 : LkV RX0 166 yX0_beginAll cX0_beginAll 1 none 0 := ⟨⟨wT_at 450 (by decide +kernel) (by decide +kernel), ms_X0_beginAll, mx_X0_beginAll, mi_X0_beginAll, mc_X0_beginAll⟩, md_X0_beginAll⟩
theorem mc_X0_resume : Cond.code yX0_resume cX0_resume 1 none ∈ wT := wT_at 481 (by decide +kernel) (by decide +kernel)
theorem md_X0_resume : yX0_resume.cls ≠ "java/lang/invoke/MethodHandle" ∧ yX0_resume.cls ≠ "java/lang/invoke/VarHandle" ∧ (parseMethodDescriptor yX0_resume.desc).map (fun d => d.parameters.length) = some 0 := ⟨by decide +kernel, by decide +kernel, by decide +kernel⟩
theorem ms_X0_resume : Cond.instanceMethod yX0_resume ∈ wT := wT_at 480 (by decide +kernel) (by decide +kernel)
theorem mx_X0_resume : Cond.selects yX0_resume.cls yX0_resume yX0_resume ∈ wT := wT_at 21 (by decide +kernel) (by decide +kernel)
theorem mi_X0_resume : Cond.initialized yX0_resume.cls ∈ wT := wT_at 56 (by decide +kernel) (by decide +kernel)
theorem lk_X0_169 : LkV RX0 169 yX0_resume cX0_resume 1 none 0 := ⟨⟨wT_at 478 (by decide +kernel) (by decide +kernel), ms_X0_resume, mx_X0_resume, mi_X0_resume, mc_X0_resume⟩, md_X0_resume⟩
theorem mc_X0_putBack : Cond.code yX0_putBack cX0_putBack 1 none ∈ wT := wT_at 489 (by decide +kernel) (by decide +kernel)
theorem md_X0_putBack : yX0_putBack.cls ≠ "java/lang/invoke/MethodHandle" ∧ yX0_putBack.cls ≠ "java/lang/invoke/VarHandle" ∧ (parseMethodDescriptor yX0_putBack.desc).map (fun d => d.parameters.length) = some 0 := ⟨by decide +kernel, by decide +kernel, by decide +kernel⟩
theorem ms_X0_putBack : Cond.instanceMethod yX0_putBack ∈ wT := wT_at 488 (by decide +kernel) (by decide +kernel)
theorem mx_X0_putBack : Cond.selects yX0_putBack.cls yX0_putBack yX0_putBack ∈ wT := wT_at 23 (by decide +kernel) (by decide +kernel)
theorem mi_X0_putBack : Cond.initialized yX0_putBack.cls ∈ wT := wT_at 56 (by decide +kernel) (by decide +kernel)
theorem lk_X0_172 : LkV RX0 172 yX0_putBack cX0_putBack 1 none 0 := ⟨⟨wT_at 486 (by decide +kernel) (by decide +kernel), ms_X0_putBack, mx_X0_putBack, mi_X0_putBack, mc_X0_putBack⟩, md_X0_putBack⟩
theorem mc_X0_mayBegin : Cond.code yX0_mayBegin cX0_mayBegin 2 (some .boolean) ∈ wT := wT_at 469 (by decide +kernel) (by decide +kernel)
theorem md_X0_mayBegin : yX0_mayBegin.cls ≠ "java/lang/invoke/MethodHandle" ∧ yX0_mayBegin.cls ≠ "java/lang/invoke/VarHandle" ∧ (parseMethodDescriptor yX0_mayBegin.desc).map (fun d => d.parameters.length) = some 1 := ⟨by decide +kernel, by decide +kernel, by decide +kernel⟩
theorem ms_X0_mayBegin : Cond.instanceMethod yX0_mayBegin ∈ wT := wT_at 468 (by decide +kernel) (by decide +kernel)
theorem mx_X0_mayBegin : Cond.selects yX0_mayBegin.cls yX0_mayBegin yX0_mayBegin ∈ wT := wT_at 19 (by decide +kernel) (by decide +kernel)
theorem mi_X0_mayBegin : Cond.initialized yX0_mayBegin.cls ∈ wT := wT_at 56 (by decide +kernel) (by decide +kernel)
theorem lk_X0_178 : LkV RX0 178 yX0_mayBegin cX0_mayBegin 2 (some .boolean) 1 := ⟨⟨wT_at 466 (by decide +kernel) (by decide +kernel), ms_X0_mayBegin, mx_X0_mayBegin, mi_X0_mayBegin, mc_X0_mayBegin⟩, md_X0_mayBegin⟩
theorem mc_X0_beginErase : Cond.code yX0_beginErase cX0_beginErase 2 none ∈ wT := wT_at 504 (by decide +kernel) (by decide +kernel)
theorem md_X0_beginErase : yX0_beginErase.cls ≠ "java/lang/invoke/MethodHandle" ∧ yX0_beginErase.cls ≠ "java/lang/invoke/VarHandle" ∧ (parseMethodDescriptor yX0_beginErase.desc).map (fun d => d.parameters.length) = some 1 := ⟨by decide +kernel, by decide +kernel, by decide +kernel⟩
theorem ms_X0_beginErase : Cond.instanceMethod yX0_beginErase ∈ wT := wT_at 503 (by decide +kernel) (by decide +kernel)
theorem mx_X0_beginErase : Cond.selects yX0_beginErase.cls yX0_beginErase yX0_beginErase ∈ wT := wT_at 25 (by decide +kernel) (by decide +kernel)
theorem mi_X0_beginErase : Cond.initialized yX0_beginErase.cls ∈ wT := wT_at 56 (by decide +kernel) (by decide +kernel)
theorem lk_X0_182 : LkV RX0 182 yX0_beginErase cX0_beginErase 2 none 1 := ⟨⟨wT_at 501 (by decide +kernel) (by decide +kernel), ms_X0_beginErase, mx_X0_beginErase, mi_X0_beginErase, mc_X0_beginErase⟩, md_X0_beginErase⟩
theorem mc_X0_setLocked : Cond.code yX0_setLocked cX0_setLocked 3 none ∈ wT := wT_at 512 (by decide +kernel) (by decide +kernel)
theorem md_X0_setLocked : yX0_setLocked.cls ≠ "java/lang/invoke/MethodHandle" ∧ yX0_setLocked.cls ≠ "java/lang/invoke/VarHandle" ∧ (parseMethodDescriptor yX0_setLocked.desc).map (fun d => d.parameters.length) = some 2 := ⟨by decide +kernel, by decide +kernel, by decide +kernel⟩
theorem ms_X0_setLocked : Cond.instanceMethod yX0_setLocked ∈ wT := wT_at 511 (by decide +kernel) (by decide +kernel)
theorem mx_X0_setLocked : Cond.selects yX0_setLocked.cls yX0_setLocked yX0_setLocked ∈ wT := wT_at 26 (by decide +kernel) (by decide +kernel)
theorem mi_X0_setLocked : Cond.initialized yX0_setLocked.cls ∈ wT := wT_at 56 (by decide +kernel) (by decide +kernel)
theorem lk_X0_185 : LkV RX0 185 yX0_setLocked cX0_setLocked 3 none 2 := ⟨⟨wT_at 509 (by decide +kernel) (by decide +kernel), ms_X0_setLocked, mx_X0_setLocked, mi_X0_setLocked, mc_X0_setLocked⟩, md_X0_setLocked⟩
theorem lk_X0_189 : LkV RX0 189 yX0_isGuarded cX0_isGuarded 2 (some .boolean) 1 := ⟨⟨wT_at 505 (by decide +kernel) (by decide +kernel), ms_X0_isGuarded, mx_X0_isGuarded, mi_X0_isGuarded, mc_X0_isGuarded⟩, md_X0_isGuarded⟩
theorem mc_X3_maskAt : Cond.code yX3_maskAt cX3_maskAt 2 (some .int) ∈ wT := wT_at 520 (by decide +kernel) (by decide +kernel)
theorem md_X3_maskAt : yX3_maskAt.cls ≠ "java/lang/invoke/MethodHandle" ∧ yX3_maskAt.cls ≠ "java/lang/invoke/VarHandle" ∧ (parseMethodDescriptor yX3_maskAt.desc).map (fun d => d.parameters.length) = some 1 := ⟨by decide +kernel, by decide +kernel, by decide +kernel⟩
theorem ms_X3_maskAt : Cond.instanceMethod yX3_maskAt ∈ wT := wT_at 518 (by decide +kernel) (by decide +kernel)
theorem mx_X3_maskAt : Cond.selects yX3_maskAt.cls yX3_maskAt yX3_maskAt ∈ wT := wT_at 519 (by decide +kernel) (by decide +kernel)
theorem mi_X3_maskAt : Cond.initialized yX3_maskAt.cls ∈ wT := wT_at 57 (by decide +kernel) (by decide +kernel)
theorem lk_X0_192 : LkV RX0 192 yX3_maskAt cX3_maskAt 2 (some .int) 1 := ⟨⟨wT_at 517 (by decide +kernel) (by decide +kernel), ms_X3_maskAt, mx_X3_maskAt, mi_X3_maskAt, mc_X3_maskAt⟩, md_X3_maskAt⟩
theorem mc_X0_setByte : Cond.code yX0_setByte cX0_setByte 3 none ∈ wT := wT_at 165 (by decide +kernel) (by decide +kernel)
theorem md_X0_setByte : yX0_setByte.cls ≠ "java/lang/invoke/MethodHandle" ∧ yX0_setByte.cls ≠ "java/lang/invoke/VarHandle" ∧ (parseMethodDescriptor yX0_setByte.desc).map (fun d => d.parameters.length) = some 2 := ⟨by decide +kernel, by decide +kernel, by decide +kernel⟩
theorem ms_X0_setByte : Cond.instanceMethod yX0_setByte ∈ wT := wT_at 164 (by decide +kernel) (by decide +kernel)
theorem mx_X0_setByte : Cond.selects yX0_setByte.cls yX0_setByte yX0_setByte ∈ wT := wT_at 2 (by decide +kernel) (by decide +kernel)
theorem mi_X0_setByte : Cond.initialized yX0_setByte.cls ∈ wT := wT_at 56 (by decide +kernel) (by decide +kernel)
theorem lk_X0_195 : LkV RX0 195 yX0_setByte cX0_setByte 3 none 2 := ⟨⟨wT_at 162 (by decide +kernel) (by decide +kernel), ms_X0_setByte, mx_X0_setByte, mi_X0_setByte, mc_X0_setByte⟩, md_X0_setByte⟩
theorem lk_X0_198 : LkV RX0 198 yX1_programTicks cX1_programTicks 1 (some .int) 0 := ⟨⟨wT_at 521 (by decide +kernel) (by decide +kernel), ms_X1_programTicks, mx_X1_programTicks, mi_X1_programTicks, mc_X1_programTicks⟩, md_X1_programTicks⟩
theorem mc_X0_begin : Cond.code yX0_begin cX0_begin 4 none ∈ wT := wT_at 477 (by decide +kernel) (by decide +kernel)
theorem md_X0_begin : yX0_begin.cls ≠ "java/lang/invoke/MethodHandle" ∧ yX0_begin.cls ≠ "java/lang/invoke/VarHandle" ∧ (parseMethodDescriptor yX0_begin.desc).map (fun d => d.parameters.length) = some 3 := ⟨by decide +kernel, by decide +kernel, by decide +kernel⟩
theorem ms_X0_begin : Cond.instanceMethod yX0_begin ∈ wT := wT_at 476 (by decide +kernel) (by decide +kernel)
theorem mx_X0_begin : Cond.selects yX0_begin.cls yX0_begin yX0_begin ∈ wT := wT_at 20 (by decide +kernel) (by decide +kernel)
theorem mi_X0_begin : Cond.initialized yX0_begin.cls ∈ wT := wT_at 56 (by decide +kernel) (by decide +kernel)
theorem lk_X0_201 : LkV RX0 201 yX0_begin cX0_begin 4 none 3 := ⟨⟨wT_at 474 (by decide +kernel) (by decide +kernel), ms_X0_begin, mx_X0_begin, mi_X0_begin, mc_X0_begin⟩, md_X0_begin⟩
theorem lk_X0_205 : LkV RX0 205 yX1_eraseTicks cX1_eraseTicks 1 (some .int) 0 := ⟨⟨wT_at 470 (by decide +kernel) (by decide +kernel), ms_X1_eraseTicks, mx_X1_eraseTicks, mi_X1_eraseTicks, mc_X1_eraseTicks⟩, md_X1_eraseTicks⟩
theorem mc_X0_isAnyGuarded : Cond.code yX0_isAnyGuarded cX0_isAnyGuarded 2 (some .boolean) ∈ wT := wT_at 457 (by decide +kernel) (by decide +kernel)
theorem md_X0_isAnyGuarded : yX0_isAnyGuarded.cls ≠ "java/lang/invoke/MethodHandle" ∧ yX0_isAnyGuarded.cls ≠ "java/lang/invoke/VarHandle" ∧ (parseMethodDescriptor yX0_isAnyGuarded.desc).map (fun d => d.parameters.length) = some 0 := ⟨by decide +kernel, by decide +kernel, by decide +kernel⟩
theorem ms_X0_isAnyGuarded : Cond.instanceMethod yX0_isAnyGuarded ∈ wT := wT_at 456 (by decide +kernel) (by decide +kernel)
theorem mx_X0_isAnyGuarded : Cond.selects yX0_isAnyGuarded.cls yX0_isAnyGuarded yX0_isAnyGuarded ∈ wT := wT_at 18 (by decide +kernel) (by decide +kernel)
theorem mi_X0_isAnyGuarded : Cond.initialized yX0_isAnyGuarded.cls ∈ wT := wT_at 56 (by decide +kernel) (by decide +kernel)
theorem lk_X0_208 : LkV RX0 208 yX0_isAnyGuarded cX0_isAnyGuarded 2 (some .boolean) 0 := ⟨⟨wT_at 454 (by decide +kernel) (by decide +kernel), ms_X0_isAnyGuarded, mx_X0_isAnyGuarded, mi_X0_isAnyGuarded, mc_X0_isAnyGuarded⟩, md_X0_isAnyGuarded⟩
theorem mc_X0_fallIdle : Cond.code yX0_fallIdle cX0_fallIdle 1 none ∈ wT := wT_at 445 (by decide +kernel) (by decide +kernel)
theorem md_X0_fallIdle : yX0_fallIdle.cls ≠ "java/lang/invoke/MethodHandle" ∧ yX0_fallIdle.cls ≠ "java/lang/invoke/VarHandle" ∧ (parseMethodDescriptor yX0_fallIdle.desc).map (fun d => d.parameters.length) = some 0 := ⟨by decide +kernel, by decide +kernel, by decide +kernel⟩
theorem ms_X0_fallIdle : Cond.instanceMethod yX0_fallIdle ∈ wT := wT_at 444 (by decide +kernel) (by decide +kernel)
theorem mx_X0_fallIdle : Cond.selects yX0_fallIdle.cls yX0_fallIdle yX0_fallIdle ∈ wT := wT_at 15 (by decide +kernel) (by decide +kernel)
theorem mi_X0_fallIdle : Cond.initialized yX0_fallIdle.cls ∈ wT := wT_at 56 (by decide +kernel) (by decide +kernel)
theorem lk_X0_211 : LkV RX0 211 yX0_fallIdle cX0_fallIdle 1 none 0 := ⟨⟨wT_at 442 (by decide +kernel) (by decide +kernel), ms_X0_fallIdle, mx_X0_fallIdle, mi_X0_fallIdle, mc_X0_fallIdle⟩, md_X0_fallIdle⟩
theorem mc_X0_dropSuspended : Cond.code yX0_dropSuspended cX0_dropSuspended 1 none ∈ wT := wT_at 485 (by decide +kernel) (by decide +kernel)
theorem md_X0_dropSuspended : yX0_dropSuspended.cls ≠ "java/lang/invoke/MethodHandle" ∧ yX0_dropSuspended.cls ≠ "java/lang/invoke/VarHandle" ∧ (parseMethodDescriptor yX0_dropSuspended.desc).map (fun d => d.parameters.length) = some 0 := ⟨by decide +kernel, by decide +kernel, by decide +kernel⟩
theorem ms_X0_dropSuspended : Cond.instanceMethod yX0_dropSuspended ∈ wT := wT_at 484 (by decide +kernel) (by decide +kernel)
theorem mx_X0_dropSuspended : Cond.selects yX0_dropSuspended.cls yX0_dropSuspended yX0_dropSuspended ∈ wT := wT_at 22 (by decide +kernel) (by decide +kernel)
theorem mi_X0_dropSuspended : Cond.initialized yX0_dropSuspended.cls ∈ wT := wT_at 56 (by decide +kernel) (by decide +kernel)
theorem lk_X0_214 : LkV RX0 214 yX0_dropSuspended cX0_dropSuspended 1 none 0 := ⟨⟨wT_at 482 (by decide +kernel) (by decide +kernel), ms_X0_dropSuspended, mx_X0_dropSuspended, mi_X0_dropSuspended, mc_X0_dropSuspended⟩, md_X0_dropSuspended⟩
theorem mc_X1_together : Cond.code yX1_together cX1_together 1 (some .int) ∈ wT := wT_at 303 (by decide +kernel) (by decide +kernel)
theorem md_X1_together : yX1_together.cls ≠ "java/lang/invoke/MethodHandle" ∧ yX1_together.cls ≠ "java/lang/invoke/VarHandle" ∧ (parseMethodDescriptor yX1_together.desc).map (fun d => d.parameters.length) = some 0 := ⟨by decide +kernel, by decide +kernel, by decide +kernel⟩
theorem ms_X1_together : Cond.instanceMethod yX1_together ∈ wT := wT_at 301 (by decide +kernel) (by decide +kernel)
theorem mx_X1_together : Cond.selects yX1_together.cls yX1_together yX1_together ∈ wT := wT_at 302 (by decide +kernel) (by decide +kernel)
theorem mi_X1_together : Cond.initialized yX1_together.cls ∈ wT := wT_at 55 (by decide +kernel) (by decide +kernel)
theorem lk_X1_30 : LkV RX1 30 yX1_together cX1_together 1 (some .int) 0 := ⟨⟨wT_at 415 (by decide +kernel) (by decide +kernel), ms_X1_together, mx_X1_together, mi_X1_together, mc_X1_together⟩, md_X1_together⟩
theorem mc_X1_setUsual : Cond.code yX1_setUsual cX1_setUsual 1 none ∈ wT := wT_at 82 (by decide +kernel) (by decide +kernel)
theorem md_X1_setUsual : yX1_setUsual.cls ≠ "java/lang/invoke/MethodHandle" ∧ yX1_setUsual.cls ≠ "java/lang/invoke/VarHandle" ∧ (parseMethodDescriptor yX1_setUsual.desc).map (fun d => d.parameters.length) = some 0 := ⟨by decide +kernel, by decide +kernel, by decide +kernel⟩
theorem ms_X1_setUsual : Cond.instanceMethod yX1_setUsual ∈ wT := wT_at 80 (by decide +kernel) (by decide +kernel)
theorem mx_X1_setUsual : Cond.selects yX1_setUsual.cls yX1_setUsual yX1_setUsual ∈ wT := wT_at 81 (by decide +kernel) (by decide +kernel)
theorem mi_X1_setUsual : Cond.initialized yX1_setUsual.cls ∈ wT := wT_at 55 (by decide +kernel) (by decide +kernel)
theorem lk_X2_36 : LkV RX2 36 yX1_setUsual cX1_setUsual 1 none 0 := ⟨⟨wT_at 260 (by decide +kernel) (by decide +kernel), ms_X1_setUsual, mx_X1_setUsual, mi_X1_setUsual, mc_X1_setUsual⟩, md_X1_setUsual⟩
theorem mc_X2_readItem : Cond.code yX2_readItem cX2_readItem 1 (some .boolean) ∈ wT := wT_at 264 (by decide +kernel) (by decide +kernel)
theorem md_X2_readItem : yX2_readItem.cls ≠ "java/lang/invoke/MethodHandle" ∧ yX2_readItem.cls ≠ "java/lang/invoke/VarHandle" ∧ (parseMethodDescriptor yX2_readItem.desc).map (fun d => d.parameters.length) = some 0 := ⟨by decide +kernel, by decide +kernel, by decide +kernel⟩
theorem ms_X2_readItem : Cond.instanceMethod yX2_readItem ∈ wT := wT_at 263 (by decide +kernel) (by decide +kernel)
theorem mx_X2_readItem : Cond.selects yX2_readItem.cls yX2_readItem yX2_readItem ∈ wT := wT_at 3 (by decide +kernel) (by decide +kernel)
theorem mi_X2_readItem : Cond.initialized yX2_readItem.cls ∈ wT := wT_at 54 (by decide +kernel) (by decide +kernel)
theorem lk_X2_39 : LkV RX2 39 yX2_readItem cX2_readItem 1 (some .boolean) 0 := ⟨⟨wT_at 261 (by decide +kernel) (by decide +kernel), ms_X2_readItem, mx_X2_readItem, mi_X2_readItem, mc_X2_readItem⟩, md_X2_readItem⟩
theorem mc_X2_nextLetter : Cond.code yX2_nextLetter cX2_nextLetter 1 (some .int) ∈ wT := wT_at 268 (by decide +kernel) (by decide +kernel)
theorem md_X2_nextLetter : yX2_nextLetter.cls ≠ "java/lang/invoke/MethodHandle" ∧ yX2_nextLetter.cls ≠ "java/lang/invoke/VarHandle" ∧ (parseMethodDescriptor yX2_nextLetter.desc).map (fun d => d.parameters.length) = some 0 := ⟨by decide +kernel, by decide +kernel, by decide +kernel⟩
theorem ms_X2_nextLetter : Cond.instanceMethod yX2_nextLetter ∈ wT := wT_at 267 (by decide +kernel) (by decide +kernel)
theorem mx_X2_nextLetter : Cond.selects yX2_nextLetter.cls yX2_nextLetter yX2_nextLetter ∈ wT := wT_at 4 (by decide +kernel) (by decide +kernel)
theorem mi_X2_nextLetter : Cond.initialized yX2_nextLetter.cls ∈ wT := wT_at 54 (by decide +kernel) (by decide +kernel)
theorem lk_X2_43 : LkV RX2 43 yX2_nextLetter cX2_nextLetter 1 (some .int) 0 := ⟨⟨wT_at 265 (by decide +kernel) (by decide +kernel), ms_X2_nextLetter, mx_X2_nextLetter, mi_X2_nextLetter, mc_X2_nextLetter⟩, md_X2_nextLetter⟩
theorem mc_X2_readParts : Cond.code yX2_readParts cX2_readParts 4 (some .boolean) ∈ wT := wT_at 272 (by decide +kernel) (by decide +kernel)
theorem md_X2_readParts : yX2_readParts.cls ≠ "java/lang/invoke/MethodHandle" ∧ yX2_readParts.cls ≠ "java/lang/invoke/VarHandle" ∧ (parseMethodDescriptor yX2_readParts.desc).map (fun d => d.parameters.length) = some 0 := ⟨by decide +kernel, by decide +kernel, by decide +kernel⟩
theorem ms_X2_readParts : Cond.instanceMethod yX2_readParts ∈ wT := wT_at 271 (by decide +kernel) (by decide +kernel)
theorem mx_X2_readParts : Cond.selects yX2_readParts.cls yX2_readParts yX2_readParts ∈ wT := wT_at 5 (by decide +kernel) (by decide +kernel)
theorem mi_X2_readParts : Cond.initialized yX2_readParts.cls ∈ wT := wT_at 54 (by decide +kernel) (by decide +kernel)
theorem lk_X2_47 : LkV RX2 47 yX2_readParts cX2_readParts 4 (some .boolean) 0 := ⟨⟨wT_at 269 (by decide +kernel) (by decide +kernel), ms_X2_readParts, mx_X2_readParts, mi_X2_readParts, mc_X2_readParts⟩, md_X2_readParts⟩
theorem mc_X2_readTicks : Cond.code yX2_readTicks cX2_readTicks 3 (some .boolean) ∈ wT := wT_at 291 (by decide +kernel) (by decide +kernel)
theorem md_X2_readTicks : yX2_readTicks.cls ≠ "java/lang/invoke/MethodHandle" ∧ yX2_readTicks.cls ≠ "java/lang/invoke/VarHandle" ∧ (parseMethodDescriptor yX2_readTicks.desc).map (fun d => d.parameters.length) = some 0 := ⟨by decide +kernel, by decide +kernel, by decide +kernel⟩
theorem ms_X2_readTicks : Cond.instanceMethod yX2_readTicks ∈ wT := wT_at 290 (by decide +kernel) (by decide +kernel)
theorem mx_X2_readTicks : Cond.selects yX2_readTicks.cls yX2_readTicks yX2_readTicks ∈ wT := wT_at 8 (by decide +kernel) (by decide +kernel)
theorem mi_X2_readTicks : Cond.initialized yX2_readTicks.cls ∈ wT := wT_at 54 (by decide +kernel) (by decide +kernel)
theorem lk_X2_50 : LkV RX2 50 yX2_readTicks cX2_readTicks 3 (some .boolean) 0 := ⟨⟨wT_at 288 (by decide +kernel) (by decide +kernel), ms_X2_readTicks, mx_X2_readTicks, mi_X2_readTicks, mc_X2_readTicks⟩, md_X2_readTicks⟩
theorem mc_X2_readCheck : Cond.code yX2_readCheck cX2_readCheck 2 (some .boolean) ∈ wT := wT_at 299 (by decide +kernel) (by decide +kernel)
theorem md_X2_readCheck : yX2_readCheck.cls ≠ "java/lang/invoke/MethodHandle" ∧ yX2_readCheck.cls ≠ "java/lang/invoke/VarHandle" ∧ (parseMethodDescriptor yX2_readCheck.desc).map (fun d => d.parameters.length) = some 0 := ⟨by decide +kernel, by decide +kernel, by decide +kernel⟩
theorem ms_X2_readCheck : Cond.instanceMethod yX2_readCheck ∈ wT := wT_at 298 (by decide +kernel) (by decide +kernel)
theorem mx_X2_readCheck : Cond.selects yX2_readCheck.cls yX2_readCheck yX2_readCheck ∈ wT := wT_at 9 (by decide +kernel) (by decide +kernel)
theorem mi_X2_readCheck : Cond.initialized yX2_readCheck.cls ∈ wT := wT_at 54 (by decide +kernel) (by decide +kernel)
theorem lk_X2_53 : LkV RX2 53 yX2_readCheck cX2_readCheck 2 (some .boolean) 0 := ⟨⟨wT_at 296 (by decide +kernel) (by decide +kernel), ms_X2_readCheck, mx_X2_readCheck, mi_X2_readCheck, mc_X2_readCheck⟩, md_X2_readCheck⟩
theorem mc_X2_readNumber : Cond.code yX2_readNumber cX2_readNumber 2 (some .int) ∈ wT := wT_at 276 (by decide +kernel) (by decide +kernel)
theorem md_X2_readNumber : yX2_readNumber.cls ≠ "java/lang/invoke/MethodHandle" ∧ yX2_readNumber.cls ≠ "java/lang/invoke/VarHandle" ∧ (parseMethodDescriptor yX2_readNumber.desc).map (fun d => d.parameters.length) = some 0 := ⟨by decide +kernel, by decide +kernel, by decide +kernel⟩
theorem ms_X2_readNumber : Cond.instanceMethod yX2_readNumber ∈ wT := wT_at 275 (by decide +kernel) (by decide +kernel)
theorem mx_X2_readNumber : Cond.selects yX2_readNumber.cls yX2_readNumber yX2_readNumber ∈ wT := wT_at 6 (by decide +kernel) (by decide +kernel)
theorem mi_X2_readNumber : Cond.initialized yX2_readNumber.cls ∈ wT := wT_at 54 (by decide +kernel) (by decide +kernel)
theorem lk_X2_56 : LkV RX2 56 yX2_readNumber cX2_readNumber 2 (some .int) 0 := ⟨⟨wT_at 273 (by decide +kernel) (by decide +kernel), ms_X2_readNumber, mx_X2_readNumber, mi_X2_readNumber, mc_X2_readNumber⟩, md_X2_readNumber⟩
theorem mc_X2_skip : Cond.code yX2_skip cX2_skip 2 (some .boolean) ∈ wT := wT_at 283 (by decide +kernel) (by decide +kernel)
theorem md_X2_skip : yX2_skip.cls ≠ "java/lang/invoke/MethodHandle" ∧ yX2_skip.cls ≠ "java/lang/invoke/VarHandle" ∧ (parseMethodDescriptor yX2_skip.desc).map (fun d => d.parameters.length) = some 1 := ⟨by decide +kernel, by decide +kernel, by decide +kernel⟩
theorem ms_X2_skip : Cond.instanceMethod yX2_skip ∈ wT := wT_at 282 (by decide +kernel) (by decide +kernel)
theorem mx_X2_skip : Cond.selects yX2_skip.cls yX2_skip yX2_skip ∈ wT := wT_at 7 (by decide +kernel) (by decide +kernel)
theorem mi_X2_skip : Cond.initialized yX2_skip.cls ∈ wT := wT_at 54 (by decide +kernel) (by decide +kernel)
theorem lk_X2_59 : LkV RX2 59 yX2_skip cX2_skip 2 (some .boolean) 1 := ⟨⟨wT_at 280 (by decide +kernel) (by decide +kernel), ms_X2_skip, mx_X2_skip, mi_X2_skip, mc_X2_skip⟩, md_X2_skip⟩
theorem mc_X1_setParts : Cond.code yX1_setParts cX1_setParts 7 (some .boolean) ∈ wT := wT_at 287 (by decide +kernel) (by decide +kernel)
theorem md_X1_setParts : yX1_setParts.cls ≠ "java/lang/invoke/MethodHandle" ∧ yX1_setParts.cls ≠ "java/lang/invoke/VarHandle" ∧ (parseMethodDescriptor yX1_setParts.desc).map (fun d => d.parameters.length) = some 3 := ⟨by decide +kernel, by decide +kernel, by decide +kernel⟩
theorem ms_X1_setParts : Cond.instanceMethod yX1_setParts ∈ wT := wT_at 285 (by decide +kernel) (by decide +kernel)
theorem mx_X1_setParts : Cond.selects yX1_setParts.cls yX1_setParts yX1_setParts ∈ wT := wT_at 286 (by decide +kernel) (by decide +kernel)
theorem mi_X1_setParts : Cond.initialized yX1_setParts.cls ∈ wT := wT_at 55 (by decide +kernel) (by decide +kernel)
theorem lk_X2_63 : LkV RX2 63 yX1_setParts cX1_setParts 7 (some .boolean) 3 := ⟨⟨wT_at 284 (by decide +kernel) (by decide +kernel), ms_X1_setParts, mx_X1_setParts, mi_X1_setParts, mc_X1_setParts⟩, md_X1_setParts⟩
theorem mc_X1_setTicks : Cond.code yX1_setTicks cX1_setTicks 3 (some .boolean) ∈ wT := wT_at 295 (by decide +kernel) (by decide +kernel)
theorem md_X1_setTicks : yX1_setTicks.cls ≠ "java/lang/invoke/MethodHandle" ∧ yX1_setTicks.cls ≠ "java/lang/invoke/VarHandle" ∧ (parseMethodDescriptor yX1_setTicks.desc).map (fun d => d.parameters.length) = some 2 := ⟨by decide +kernel, by decide +kernel, by decide +kernel⟩
theorem ms_X1_setTicks : Cond.instanceMethod yX1_setTicks ∈ wT := wT_at 293 (by decide +kernel) (by decide +kernel)
theorem mx_X1_setTicks : Cond.selects yX1_setTicks.cls yX1_setTicks yX1_setTicks ∈ wT := wT_at 294 (by decide +kernel) (by decide +kernel)
theorem mi_X1_setTicks : Cond.initialized yX1_setTicks.cls ∈ wT := wT_at 55 (by decide +kernel) (by decide +kernel)
theorem lk_X2_67 : LkV RX2 67 yX1_setTicks cX1_setTicks 3 (some .boolean) 2 := ⟨⟨wT_at 292 (by decide +kernel) (by decide +kernel), ms_X1_setTicks, mx_X1_setTicks, mi_X1_setTicks, mc_X1_setTicks⟩, md_X1_setTicks⟩
theorem lk_X2_71 : LkV RX2 71 yX1_together cX1_together 1 (some .int) 0 := ⟨⟨wT_at 300 (by decide +kernel) (by decide +kernel), ms_X1_together, mx_X1_together, mi_X1_together, mc_X1_together⟩, md_X1_together⟩
theorem lk_X3_15 : LkV RX3 15 yX3_clear cX3_clear 2 none 0 := ⟨⟨wT_at 133 (by decide +kernel) (by decide +kernel), ms_X3_clear, mx_X3_clear, mi_X3_clear, mc_X3_clear⟩, md_X3_clear⟩
theorem mc_X3_setInPage : Cond.code yX3_setInPage cX3_setInPage 3 none ∈ wT := wT_at 428 (by decide +kernel) (by decide +kernel)
theorem md_X3_setInPage : yX3_setInPage.cls ≠ "java/lang/invoke/MethodHandle" ∧ yX3_setInPage.cls ≠ "java/lang/invoke/VarHandle" ∧ (parseMethodDescriptor yX3_setInPage.desc).map (fun d => d.parameters.length) = some 2 := ⟨by decide +kernel, by decide +kernel, by decide +kernel⟩
theorem ms_X3_setInPage : Cond.instanceMethod yX3_setInPage ∈ wT := wT_at 427 (by decide +kernel) (by decide +kernel)
theorem mx_X3_setInPage : Cond.selects yX3_setInPage.cls yX3_setInPage yX3_setInPage ∈ wT := wT_at 13 (by decide +kernel) (by decide +kernel)
theorem mi_X3_setInPage : Cond.initialized yX3_setInPage.cls ∈ wT := wT_at 57 (by decide +kernel) (by decide +kernel)
theorem lk_X3_36 : LkV RX3 36 yX3_setInPage cX3_setInPage 3 none 2 := ⟨⟨wT_at 425 (by decide +kernel) (by decide +kernel), ms_X3_setInPage, mx_X3_setInPage, mi_X3_setInPage, mc_X3_setInPage⟩, md_X3_setInPage⟩
theorem mc_X5_anew : Cond.code yX5_anew cX5_anew 2 none ∈ wT := wT_at 647 (by decide +kernel) (by decide +kernel)
theorem md_X5_anew : yX5_anew.cls ≠ "java/lang/invoke/MethodHandle" ∧ yX5_anew.cls ≠ "java/lang/invoke/VarHandle" ∧ (parseMethodDescriptor yX5_anew.desc).map (fun d => d.parameters.length) = some 0 := ⟨by decide +kernel, by decide +kernel, by decide +kernel⟩
theorem ms_X5_anew : Cond.instanceMethod yX5_anew ∈ wT := wT_at 646 (by decide +kernel) (by decide +kernel)
theorem mx_X5_anew : Cond.selects yX5_anew.cls yX5_anew yX5_anew ∈ wT := wT_at 30 (by decide +kernel) (by decide +kernel)
theorem mi_X5_anew : Cond.initialized yX5_anew.cls ∈ wT := wT_at 58 (by decide +kernel) (by decide +kernel)
theorem lk_X5_29 : LkV RX5 29 yX5_anew cX5_anew 2 none 0 := ⟨⟨wT_at 644 (by decide +kernel) (by decide +kernel), ms_X5_anew, mx_X5_anew, mi_X5_anew, mc_X5_anew⟩, md_X5_anew⟩
theorem mc_X5_byteAt : Cond.code yX5_byteAt cX5_byteAt 2 (some .int) ∈ wT := wT_at 708 (by decide +kernel) (by decide +kernel)
theorem md_X5_byteAt : yX5_byteAt.cls ≠ "java/lang/invoke/MethodHandle" ∧ yX5_byteAt.cls ≠ "java/lang/invoke/VarHandle" ∧ (parseMethodDescriptor yX5_byteAt.desc).map (fun d => d.parameters.length) = some 1 := ⟨by decide +kernel, by decide +kernel, by decide +kernel⟩
theorem ms_X5_byteAt : Cond.instanceMethod yX5_byteAt ∈ wT := wT_at 707 (by decide +kernel) (by decide +kernel)
theorem mx_X5_byteAt : Cond.selects yX5_byteAt.cls yX5_byteAt yX5_byteAt ∈ wT := wT_at 34 (by decide +kernel) (by decide +kernel)
theorem mi_X5_byteAt : Cond.initialized yX5_byteAt.cls ∈ wT := wT_at 58 (by decide +kernel) (by decide +kernel)
theorem lk_X5_50 : LkV RX5 50 yX5_byteAt cX5_byteAt 2 (some .int) 1 := ⟨⟨wT_at 705 (by decide +kernel) (by decide +kernel), ms_X5_byteAt, mx_X5_byteAt, mi_X5_byteAt, mc_X5_byteAt⟩, md_X5_byteAt⟩
theorem mc_X5_number : Cond.code yX5_number cX5_number 5 (some .int) ∈ wT := wT_at 704 (by decide +kernel) (by decide +kernel)
theorem md_X5_number : yX5_number.cls ≠ "java/lang/invoke/MethodHandle" ∧ yX5_number.cls ≠ "java/lang/invoke/VarHandle" ∧ (parseMethodDescriptor yX5_number.desc).map (fun d => d.parameters.length) = some 1 := ⟨by decide +kernel, by decide +kernel, by decide +kernel⟩
theorem ms_X5_number : Cond.instanceMethod yX5_number ∈ wT := wT_at 703 (by decide +kernel) (by decide +kernel)
theorem mx_X5_number : Cond.selects yX5_number.cls yX5_number yX5_number ∈ wT := wT_at 33 (by decide +kernel) (by decide +kernel)
theorem mi_X5_number : Cond.initialized yX5_number.cls ∈ wT := wT_at 58 (by decide +kernel) (by decide +kernel)
theorem lk_X5_58 : LkV RX5 58 yX5_number cX5_number 5 (some .int) 1 := ⟨⟨wT_at 701 (by decide +kernel) (by decide +kernel), ms_X5_number, mx_X5_number, mi_X5_number, mc_X5_number⟩, md_X5_number⟩
theorem mc_X5_sizes : Cond.code yX5_sizes cX5_sizes 4 (some .boolean) ∈ wT := wT_at 700 (by decide +kernel) (by decide +kernel)
theorem md_X5_sizes : yX5_sizes.cls ≠ "java/lang/invoke/MethodHandle" ∧ yX5_sizes.cls ≠ "java/lang/invoke/VarHandle" ∧ (parseMethodDescriptor yX5_sizes.desc).map (fun d => d.parameters.length) = some 0 := ⟨by decide +kernel, by decide +kernel, by decide +kernel⟩
theorem ms_X5_sizes : Cond.instanceMethod yX5_sizes ∈ wT := wT_at 699 (by decide +kernel) (by decide +kernel)
theorem mx_X5_sizes : Cond.selects yX5_sizes.cls yX5_sizes yX5_sizes ∈ wT := wT_at 32 (by decide +kernel) (by decide +kernel)
theorem mi_X5_sizes : Cond.initialized yX5_sizes.cls ∈ wT := wT_at 58 (by decide +kernel) (by decide +kernel)
theorem lk_X5_69 : LkV RX5 69 yX5_sizes cX5_sizes 4 (some .boolean) 0 := ⟨⟨wT_at 697 (by decide +kernel) (by decide +kernel), ms_X5_sizes, mx_X5_sizes, mi_X5_sizes, mc_X5_sizes⟩, md_X5_sizes⟩
theorem mc_X5_item : Cond.code yX5_item cX5_item 2 (some .boolean) ∈ wT := wT_at 696 (by decide +kernel) (by decide +kernel)
theorem md_X5_item : yX5_item.cls ≠ "java/lang/invoke/MethodHandle" ∧ yX5_item.cls ≠ "java/lang/invoke/VarHandle" ∧ (parseMethodDescriptor yX5_item.desc).map (fun d => d.parameters.length) = some 1 := ⟨by decide +kernel, by decide +kernel, by decide +kernel⟩
theorem ms_X5_item : Cond.instanceMethod yX5_item ∈ wT := wT_at 695 (by decide +kernel) (by decide +kernel)
theorem mx_X5_item : Cond.selects yX5_item.cls yX5_item yX5_item ∈ wT := wT_at 31 (by decide +kernel) (by decide +kernel)
theorem mi_X5_item : Cond.initialized yX5_item.cls ∈ wT := wT_at 58 (by decide +kernel) (by decide +kernel)
theorem lk_X5_81 : LkV RX5 81 yX5_item cX5_item 2 (some .boolean) 1 := ⟨⟨wT_at 693 (by decide +kernel) (by decide +kernel), ms_X5_item, mx_X5_item, mi_X5_item, mc_X5_item⟩, md_X5_item⟩
theorem mc_X5_fault : Cond.code yX5_fault cX5_fault 2 (some .int) ∈ wT := wT_at 692 (by decide +kernel) (by decide +kernel)
theorem md_X5_fault : yX5_fault.cls ≠ "java/lang/invoke/MethodHandle" ∧ yX5_fault.cls ≠ "java/lang/invoke/VarHandle" ∧ (parseMethodDescriptor yX5_fault.desc).map (fun d => d.parameters.length) = some 0 := ⟨by decide +kernel, by decide +kernel, by decide +kernel⟩
theorem ms_X5_fault : Cond.instanceMethod yX5_fault ∈ wT := wT_at 690 (by decide +kernel) (by decide +kernel)
theorem mx_X5_fault : Cond.selects yX5_fault.cls yX5_fault yX5_fault ∈ wT := wT_at 691 (by decide +kernel) (by decide +kernel)
theorem mi_X5_fault : Cond.initialized yX5_fault.cls ∈ wT := wT_at 58 (by decide +kernel) (by decide +kernel)
theorem lk_X5_85 : LkV RX5 85 yX5_fault cX5_fault 2 (some .int) 0 := ⟨⟨wT_at 722 (by decide +kernel) (by decide +kernel), ms_X5_fault, mx_X5_fault, mi_X5_fault, mc_X5_fault⟩, md_X5_fault⟩
theorem mc_X5_all : Cond.code yX5_all cX5_all 1 (some .int) ∈ wT := wT_at 726 (by decide +kernel) (by decide +kernel)
theorem md_X5_all : yX5_all.cls ≠ "java/lang/invoke/MethodHandle" ∧ yX5_all.cls ≠ "java/lang/invoke/VarHandle" ∧ (parseMethodDescriptor yX5_all.desc).map (fun d => d.parameters.length) = some 0 := ⟨by decide +kernel, by decide +kernel, by decide +kernel⟩
theorem ms_X5_all : Cond.instanceMethod yX5_all ∈ wT := wT_at 725 (by decide +kernel) (by decide +kernel)
theorem mx_X5_all : Cond.selects yX5_all.cls yX5_all yX5_all ∈ wT := wT_at 35 (by decide +kernel) (by decide +kernel)
theorem mi_X5_all : Cond.initialized yX5_all.cls ∈ wT := wT_at 58 (by decide +kernel) (by decide +kernel)
theorem lk_X5_89 : LkV RX5 89 yX5_all cX5_all 1 (some .int) 0 := ⟨⟨wT_at 723 (by decide +kernel) (by decide +kernel), ms_X5_all, mx_X5_all, mi_X5_all, mc_X5_all⟩, md_X5_all⟩
theorem mc_X5_status : Cond.code yX5_status cX5_status 1 (some .int) ∈ wT := wT_at 748 (by decide +kernel) (by decide +kernel)
theorem md_X5_status : yX5_status.cls ≠ "java/lang/invoke/MethodHandle" ∧ yX5_status.cls ≠ "java/lang/invoke/VarHandle" ∧ (parseMethodDescriptor yX5_status.desc).map (fun d => d.parameters.length) = some 0 := ⟨by decide +kernel, by decide +kernel, by decide +kernel⟩
theorem ms_X5_status : Cond.instanceMethod yX5_status ∈ wT := wT_at 747 (by decide +kernel) (by decide +kernel)
theorem mx_X5_status : Cond.selects yX5_status.cls yX5_status yX5_status ∈ wT := wT_at 38 (by decide +kernel) (by decide +kernel)
theorem mi_X5_status : Cond.initialized yX5_status.cls ∈ wT := wT_at 58 (by decide +kernel) (by decide +kernel)
theorem lk_X5_92 : LkV RX5 92 yX5_status cX5_status 1 (some .int) 0 := ⟨⟨wT_at 745 (by decide +kernel) (by decide +kernel), ms_X5_status, mx_X5_status, mi_X5_status, mc_X5_status⟩, md_X5_status⟩
theorem mc_X5_tableAt : Cond.code yX5_tableAt cX5_tableAt 2 (some .int) ∈ wT := wT_at 752 (by decide +kernel) (by decide +kernel)
theorem md_X5_tableAt : yX5_tableAt.cls ≠ "java/lang/invoke/MethodHandle" ∧ yX5_tableAt.cls ≠ "java/lang/invoke/VarHandle" ∧ (parseMethodDescriptor yX5_tableAt.desc).map (fun d => d.parameters.length) = some 1 := ⟨by decide +kernel, by decide +kernel, by decide +kernel⟩
theorem ms_X5_tableAt : Cond.instanceMethod yX5_tableAt ∈ wT := wT_at 751 (by decide +kernel) (by decide +kernel)
theorem mx_X5_tableAt : Cond.selects yX5_tableAt.cls yX5_tableAt yX5_tableAt ∈ wT := wT_at 39 (by decide +kernel) (by decide +kernel)
theorem mi_X5_tableAt : Cond.initialized yX5_tableAt.cls ∈ wT := wT_at 58 (by decide +kernel) (by decide +kernel)
theorem lk_X5_95 : LkV RX5 95 yX5_tableAt cX5_tableAt 2 (some .int) 1 := ⟨⟨wT_at 749 (by decide +kernel) (by decide +kernel), ms_X5_tableAt, mx_X5_tableAt, mi_X5_tableAt, mc_X5_tableAt⟩, md_X5_tableAt⟩
theorem mc_X5_answers : Cond.code yX5_answers cX5_answers 4 (some .int) ∈ wT := wT_at 744 (by decide +kernel) (by decide +kernel)
theorem md_X5_answers : yX5_answers.cls ≠ "java/lang/invoke/MethodHandle" ∧ yX5_answers.cls ≠ "java/lang/invoke/VarHandle" ∧ (parseMethodDescriptor yX5_answers.desc).map (fun d => d.parameters.length) = some 1 := ⟨by decide +kernel, by decide +kernel, by decide +kernel⟩
theorem ms_X5_answers : Cond.instanceMethod yX5_answers ∈ wT := wT_at 743 (by decide +kernel) (by decide +kernel)
theorem mx_X5_answers : Cond.selects yX5_answers.cls yX5_answers yX5_answers ∈ wT := wT_at 37 (by decide +kernel) (by decide +kernel)
theorem mi_X5_answers : Cond.initialized yX5_answers.cls ∈ wT := wT_at 58 (by decide +kernel) (by decide +kernel)
theorem lk_X5_99 : LkV RX5 99 yX5_answers cX5_answers 4 (some .int) 1 := ⟨⟨wT_at 741 (by decide +kernel) (by decide +kernel), ms_X5_answers, mx_X5_answers, mi_X5_answers, mc_X5_answers⟩, md_X5_answers⟩
theorem mc_X5_puts : Cond.code yX5_puts cX5_puts 4 (some .int) ∈ wT := wT_at 739 (by decide +kernel) (by decide +kernel)
theorem md_X5_puts : yX5_puts.cls ≠ "java/lang/invoke/MethodHandle" ∧ yX5_puts.cls ≠ "java/lang/invoke/VarHandle" ∧ (parseMethodDescriptor yX5_puts.desc).map (fun d => d.parameters.length) = some 1 := ⟨by decide +kernel, by decide +kernel, by decide +kernel⟩
theorem ms_X5_puts : Cond.instanceMethod yX5_puts ∈ wT := wT_at 738 (by decide +kernel) (by decide +kernel)
theorem mx_X5_puts : Cond.selects yX5_puts.cls yX5_puts yX5_puts ∈ wT := wT_at 36 (by decide +kernel) (by decide +kernel)
theorem mi_X5_puts : Cond.initialized yX5_puts.cls ∈ wT := wT_at 58 (by decide +kernel) (by decide +kernel)
theorem lk_X5_104 : LkV RX5 104 yX5_puts cX5_puts 4 (some .int) 1 := ⟨⟨wT_at 736 (by decide +kernel) (by decide +kernel), ms_X5_puts, mx_X5_puts, mi_X5_puts, mc_X5_puts⟩, md_X5_puts⟩
theorem mc_X5_isGuarded : Cond.code yX5_isGuarded cX5_isGuarded 2 (some .boolean) ∈ wT := wT_at 784 (by decide +kernel) (by decide +kernel)
theorem md_X5_isGuarded : yX5_isGuarded.cls ≠ "java/lang/invoke/MethodHandle" ∧ yX5_isGuarded.cls ≠ "java/lang/invoke/VarHandle" ∧ (parseMethodDescriptor yX5_isGuarded.desc).map (fun d => d.parameters.length) = some 1 := ⟨by decide +kernel, by decide +kernel, by decide +kernel⟩
theorem ms_X5_isGuarded : Cond.instanceMethod yX5_isGuarded ∈ wT := wT_at 783 (by decide +kernel) (by decide +kernel)
theorem mx_X5_isGuarded : Cond.selects yX5_isGuarded.cls yX5_isGuarded yX5_isGuarded ∈ wT := wT_at 46 (by decide +kernel) (by decide +kernel)
theorem mi_X5_isGuarded : Cond.initialized yX5_isGuarded.cls ∈ wT := wT_at 58 (by decide +kernel) (by decide +kernel)
theorem lk_X5_107 : LkV RX5 107 yX5_isGuarded cX5_isGuarded 2 (some .boolean) 1 := ⟨⟨wT_at 781 (by decide +kernel) (by decide +kernel), ms_X5_isGuarded, mx_X5_isGuarded, mi_X5_isGuarded, mc_X5_isGuarded⟩, md_X5_isGuarded⟩
theorem mc_X5_sectorSize : Cond.code yX5_sectorSize cX5_sectorSize 1 (some .int) ∈ wT := wT_at 776 (by decide +kernel) (by decide +kernel)
theorem md_X5_sectorSize : yX5_sectorSize.cls ≠ "java/lang/invoke/MethodHandle" ∧ yX5_sectorSize.cls ≠ "java/lang/invoke/VarHandle" ∧ (parseMethodDescriptor yX5_sectorSize.desc).map (fun d => d.parameters.length) = some 0 := ⟨by decide +kernel, by decide +kernel, by decide +kernel⟩
theorem ms_X5_sectorSize : Cond.instanceMethod yX5_sectorSize ∈ wT := wT_at 775 (by decide +kernel) (by decide +kernel)
theorem mx_X5_sectorSize : Cond.selects yX5_sectorSize.cls yX5_sectorSize yX5_sectorSize ∈ wT := wT_at 44 (by decide +kernel) (by decide +kernel)
theorem mi_X5_sectorSize : Cond.initialized yX5_sectorSize.cls ∈ wT := wT_at 58 (by decide +kernel) (by decide +kernel)
theorem lk_X5_110 : LkV RX5 110 yX5_sectorSize cX5_sectorSize 1 (some .int) 0 := ⟨⟨wT_at 773 (by decide +kernel) (by decide +kernel), ms_X5_sectorSize, mx_X5_sectorSize, mi_X5_sectorSize, mc_X5_sectorSize⟩, md_X5_sectorSize⟩
theorem mc_X5_anyGuarded : Cond.code yX5_anyGuarded cX5_anyGuarded 3 (some .boolean) ∈ wT := wT_at 780 (by decide +kernel) (by decide +kernel)
theorem md_X5_anyGuarded : yX5_anyGuarded.cls ≠ "java/lang/invoke/MethodHandle" ∧ yX5_anyGuarded.cls ≠ "java/lang/invoke/VarHandle" ∧ (parseMethodDescriptor yX5_anyGuarded.desc).map (fun d => d.parameters.length) = some 0 := ⟨by decide +kernel, by decide +kernel, by decide +kernel⟩
theorem ms_X5_anyGuarded : Cond.instanceMethod yX5_anyGuarded ∈ wT := wT_at 779 (by decide +kernel) (by decide +kernel)
theorem mx_X5_anyGuarded : Cond.selects yX5_anyGuarded.cls yX5_anyGuarded yX5_anyGuarded ∈ wT := wT_at 45 (by decide +kernel) (by decide +kernel)
theorem mi_X5_anyGuarded : Cond.initialized yX5_anyGuarded.cls ∈ wT := wT_at 58 (by decide +kernel) (by decide +kernel)
theorem lk_X5_113 : LkV RX5 113 yX5_anyGuarded cX5_anyGuarded 3 (some .boolean) 0 := ⟨⟨wT_at 777 (by decide +kernel) (by decide +kernel), ms_X5_anyGuarded, mx_X5_anyGuarded, mi_X5_anyGuarded, mc_X5_anyGuarded⟩, md_X5_anyGuarded⟩
theorem mc_X5_begins : Cond.code yX5_begins cX5_begins 4 none ∈ wT := wT_at 788 (by decide +kernel) (by decide +kernel)
theorem md_X5_begins : yX5_begins.cls ≠ "java/lang/invoke/MethodHandle" ∧ yX5_begins.cls ≠ "java/lang/invoke/VarHandle" ∧ (parseMethodDescriptor yX5_begins.desc).map (fun d => d.parameters.length) = some 3 := ⟨by decide +kernel, by decide +kernel, by decide +kernel⟩
theorem ms_X5_begins : Cond.instanceMethod yX5_begins ∈ wT := wT_at 787 (by decide +kernel) (by decide +kernel)
theorem mx_X5_begins : Cond.selects yX5_begins.cls yX5_begins yX5_begins ∈ wT := wT_at 47 (by decide +kernel) (by decide +kernel)
theorem mi_X5_begins : Cond.initialized yX5_begins.cls ∈ wT := wT_at 58 (by decide +kernel) (by decide +kernel)
theorem lk_X5_116 : LkV RX5 116 yX5_begins cX5_begins 4 none 3 := ⟨⟨wT_at 785 (by decide +kernel) (by decide +kernel), ms_X5_begins, mx_X5_begins, mi_X5_begins, mc_X5_begins⟩, md_X5_begins⟩
theorem mc_X5_isRefused : Cond.code yX5_isRefused cX5_isRefused 6 (some .boolean) ∈ wT := wT_at 772 (by decide +kernel) (by decide +kernel)
theorem md_X5_isRefused : yX5_isRefused.cls ≠ "java/lang/invoke/MethodHandle" ∧ yX5_isRefused.cls ≠ "java/lang/invoke/VarHandle" ∧ (parseMethodDescriptor yX5_isRefused.desc).map (fun d => d.parameters.length) = some 1 := ⟨by decide +kernel, by decide +kernel, by decide +kernel⟩
theorem ms_X5_isRefused : Cond.instanceMethod yX5_isRefused ∈ wT := wT_at 771 (by decide +kernel) (by decide +kernel)
theorem mx_X5_isRefused : Cond.selects yX5_isRefused.cls yX5_isRefused yX5_isRefused ∈ wT := wT_at 43 (by decide +kernel) (by decide +kernel)
theorem mi_X5_isRefused : Cond.initialized yX5_isRefused.cls ∈ wT := wT_at 58 (by decide +kernel) (by decide +kernel)
theorem lk_X5_120 : LkV RX5 120 yX5_isRefused cX5_isRefused 6 (some .boolean) 1 := ⟨⟨wT_at 769 (by decide +kernel) (by decide +kernel), ms_X5_isRefused, mx_X5_isRefused, mi_X5_isRefused, mc_X5_isRefused⟩, md_X5_isRefused⟩
theorem mc_X5_wants : Cond.code yX5_wants cX5_wants 2 none ∈ wT := wT_at 768 (by decide +kernel) (by decide +kernel)
theorem md_X5_wants : yX5_wants.cls ≠ "java/lang/invoke/MethodHandle" ∧ yX5_wants.cls ≠ "java/lang/invoke/VarHandle" ∧ (parseMethodDescriptor yX5_wants.desc).map (fun d => d.parameters.length) = some 1 := ⟨by decide +kernel, by decide +kernel, by decide +kernel⟩
theorem ms_X5_wants : Cond.instanceMethod yX5_wants ∈ wT := wT_at 767 (by decide +kernel) (by decide +kernel)
theorem mx_X5_wants : Cond.selects yX5_wants.cls yX5_wants yX5_wants ∈ wT := wT_at 42 (by decide +kernel) (by decide +kernel)
theorem mi_X5_wants : Cond.initialized yX5_wants.cls ∈ wT := wT_at 58 (by decide +kernel) (by decide +kernel)
theorem lk_X5_123 : LkV RX5 123 yX5_wants cX5_wants 2 none 1 := ⟨⟨wT_at 765 (by decide +kernel) (by decide +kernel), ms_X5_wants, mx_X5_wants, mi_X5_wants, mc_X5_wants⟩, md_X5_wants⟩
theorem mc_X5_suspends : Cond.code yX5_suspends cX5_suspends 1 none ∈ wT := wT_at 764 (by decide +kernel) (by decide +kernel)
theorem md_X5_suspends : yX5_suspends.cls ≠ "java/lang/invoke/MethodHandle" ∧ yX5_suspends.cls ≠ "java/lang/invoke/VarHandle" ∧ (parseMethodDescriptor yX5_suspends.desc).map (fun d => d.parameters.length) = some 0 := ⟨by decide +kernel, by decide +kernel, by decide +kernel⟩
theorem ms_X5_suspends : Cond.instanceMethod yX5_suspends ∈ wT := wT_at 763 (by decide +kernel) (by decide +kernel)
theorem mx_X5_suspends : Cond.selects yX5_suspends.cls yX5_suspends yX5_suspends ∈ wT := wT_at 41 (by decide +kernel) (by decide +kernel)
theorem mi_X5_suspends : Cond.initialized yX5_suspends.cls ∈ wT := wT_at 58 (by decide +kernel) (by decide +kernel)
theorem lk_X5_127 : LkV RX5 127 yX5_suspends cX5_suspends 1 none 0 := ⟨⟨wT_at 761 (by decide +kernel) (by decide +kernel), ms_X5_suspends, mx_X5_suspends, mi_X5_suspends, mc_X5_suspends⟩, md_X5_suspends⟩
theorem mc_X5_does : Cond.code yX5_does cX5_does 2 none ∈ wT := wT_at 792 (by decide +kernel) (by decide +kernel)
theorem md_X5_does : yX5_does.cls ≠ "java/lang/invoke/MethodHandle" ∧ yX5_does.cls ≠ "java/lang/invoke/VarHandle" ∧ (parseMethodDescriptor yX5_does.desc).map (fun d => d.parameters.length) = some 1 := ⟨by decide +kernel, by decide +kernel, by decide +kernel⟩
theorem ms_X5_does : Cond.instanceMethod yX5_does ∈ wT := wT_at 791 (by decide +kernel) (by decide +kernel)
theorem mx_X5_does : Cond.selects yX5_does.cls yX5_does yX5_does ∈ wT := wT_at 48 (by decide +kernel) (by decide +kernel)
theorem mi_X5_does : Cond.initialized yX5_does.cls ∈ wT := wT_at 58 (by decide +kernel) (by decide +kernel)
theorem lk_X5_130 : LkV RX5 130 yX5_does cX5_does 2 none 1 := ⟨⟨wT_at 789 (by decide +kernel) (by decide +kernel), ms_X5_does, mx_X5_does, mi_X5_does, mc_X5_does⟩, md_X5_does⟩
theorem mc_X5_tells : Cond.code yX5_tells cX5_tells 3 none ∈ wT := wT_at 796 (by decide +kernel) (by decide +kernel)
theorem md_X5_tells : yX5_tells.cls ≠ "java/lang/invoke/MethodHandle" ∧ yX5_tells.cls ≠ "java/lang/invoke/VarHandle" ∧ (parseMethodDescriptor yX5_tells.desc).map (fun d => d.parameters.length) = some 1 := ⟨by decide +kernel, by decide +kernel, by decide +kernel⟩
theorem ms_X5_tells : Cond.instanceMethod yX5_tells ∈ wT := wT_at 795 (by decide +kernel) (by decide +kernel)
theorem mx_X5_tells : Cond.selects yX5_tells.cls yX5_tells yX5_tells ∈ wT := wT_at 49 (by decide +kernel) (by decide +kernel)
theorem mi_X5_tells : Cond.initialized yX5_tells.cls ∈ wT := wT_at 58 (by decide +kernel) (by decide +kernel)
theorem lk_X5_133 : LkV RX5 133 yX5_tells cX5_tells 3 none 1 := ⟨⟨wT_at 793 (by decide +kernel) (by decide +kernel), ms_X5_tells, mx_X5_tells, mi_X5_tells, mc_X5_tells⟩, md_X5_tells⟩
theorem mc_X5_releases : Cond.code yX5_releases cX5_releases 4 (some .int) ∈ wT := wT_at 760 (by decide +kernel) (by decide +kernel)
theorem md_X5_releases : yX5_releases.cls ≠ "java/lang/invoke/MethodHandle" ∧ yX5_releases.cls ≠ "java/lang/invoke/VarHandle" ∧ (parseMethodDescriptor yX5_releases.desc).map (fun d => d.parameters.length) = some 0 := ⟨by decide +kernel, by decide +kernel, by decide +kernel⟩
theorem ms_X5_releases : Cond.instanceMethod yX5_releases ∈ wT := wT_at 759 (by decide +kernel) (by decide +kernel)
theorem mx_X5_releases : Cond.selects yX5_releases.cls yX5_releases yX5_releases ∈ wT := wT_at 40 (by decide +kernel) (by decide +kernel)
theorem mi_X5_releases : Cond.initialized yX5_releases.cls ∈ wT := wT_at 58 (by decide +kernel) (by decide +kernel)
theorem lk_X5_136 : LkV RX5 136 yX5_releases cX5_releases 4 (some .int) 0 := ⟨⟨wT_at 757 (by decide +kernel) (by decide +kernel), ms_X5_releases, mx_X5_releases, mi_X5_releases, mc_X5_releases⟩, md_X5_releases⟩
theorem mc_X5_select : Cond.code yX5_select cX5_select 1 (some .int) ∈ wT := wT_at 730 (by decide +kernel) (by decide +kernel)
theorem md_X5_select : yX5_select.cls ≠ "java/lang/invoke/MethodHandle" ∧ yX5_select.cls ≠ "java/lang/invoke/VarHandle" ∧ (parseMethodDescriptor yX5_select.desc).map (fun d => d.parameters.length) = some 0 := ⟨by decide +kernel, by decide +kernel, by decide +kernel⟩
theorem ms_X5_select : Cond.instanceMethod yX5_select ∈ wT := wT_at 728 (by decide +kernel) (by decide +kernel)
theorem mx_X5_select : Cond.selects yX5_select.cls yX5_select yX5_select ∈ wT := wT_at 729 (by decide +kernel) (by decide +kernel)
theorem mi_X5_select : Cond.initialized yX5_select.cls ∈ wT := wT_at 58 (by decide +kernel) (by decide +kernel)
theorem lk_X5_141 : LkV RX5 141 yX5_select cX5_select 1 (some .int) 0 := ⟨⟨wT_at 802 (by decide +kernel) (by decide +kernel), ms_X5_select, mx_X5_select, mi_X5_select, mc_X5_select⟩, md_X5_select⟩
theorem mc_X5_goesOn : Cond.code yX5_goesOn cX5_goesOn 6 (some .int) ∈ wT := wT_at 806 (by decide +kernel) (by decide +kernel)
theorem md_X5_goesOn : yX5_goesOn.cls ≠ "java/lang/invoke/MethodHandle" ∧ yX5_goesOn.cls ≠ "java/lang/invoke/VarHandle" ∧ (parseMethodDescriptor yX5_goesOn.desc).map (fun d => d.parameters.length) = some 3 := ⟨by decide +kernel, by decide +kernel, by decide +kernel⟩
theorem ms_X5_goesOn : Cond.instanceMethod yX5_goesOn ∈ wT := wT_at 805 (by decide +kernel) (by decide +kernel)
theorem mx_X5_goesOn : Cond.selects yX5_goesOn.cls yX5_goesOn yX5_goesOn ∈ wT := wT_at 50 (by decide +kernel) (by decide +kernel)
theorem mi_X5_goesOn : Cond.initialized yX5_goesOn.cls ∈ wT := wT_at 58 (by decide +kernel) (by decide +kernel)
theorem lk_X5_144 : LkV RX5 144 yX5_goesOn cX5_goesOn 6 (some .int) 3 := ⟨⟨wT_at 803 (by decide +kernel) (by decide +kernel), ms_X5_goesOn, mx_X5_goesOn, mi_X5_goesOn, mc_X5_goesOn⟩, md_X5_goesOn⟩
theorem mc_X5_done : Cond.code yX5_done cX5_done 5 none ∈ wT := wT_at 819 (by decide +kernel) (by decide +kernel)
theorem md_X5_done : yX5_done.cls ≠ "java/lang/invoke/MethodHandle" ∧ yX5_done.cls ≠ "java/lang/invoke/VarHandle" ∧ (parseMethodDescriptor yX5_done.desc).map (fun d => d.parameters.length) = some 0 := ⟨by decide +kernel, by decide +kernel, by decide +kernel⟩
theorem ms_X5_done : Cond.instanceMethod yX5_done ∈ wT := wT_at 818 (by decide +kernel) (by decide +kernel)
theorem mx_X5_done : Cond.selects yX5_done.cls yX5_done yX5_done ∈ wT := wT_at 51 (by decide +kernel) (by decide +kernel)
theorem mi_X5_done : Cond.initialized yX5_done.cls ∈ wT := wT_at 58 (by decide +kernel) (by decide +kernel)
theorem lk_X5_150 : LkV RX5 150 yX5_done cX5_done 5 none 0 := ⟨⟨wT_at 816 (by decide +kernel) (by decide +kernel), ms_X5_done, mx_X5_done, mi_X5_done, mc_X5_done⟩, md_X5_done⟩
theorem mc_X4_isByte : Cond.code yX4_isByte cX4_isByte 1 (some .boolean) ∈ wT := wT_at 366 (by decide +kernel) (by decide +kernel)
theorem md_X4_isByte : yX4_isByte.cls ≠ "java/lang/invoke/MethodHandle" ∧ yX4_isByte.cls ≠ "java/lang/invoke/VarHandle" ∧ (parseMethodDescriptor yX4_isByte.desc).map (fun d => d.parameters.length) = some 1 := ⟨by decide +kernel, by decide +kernel, by decide +kernel⟩
theorem ms_X4_isByte : Cond.static yX4_isByte ∈ wT := wT_at 365 (by decide +kernel) (by decide +kernel)
theorem mi_X4_isByte : Cond.initialized yX4_isByte.cls ∈ wT := wT_at 53 (by decide +kernel) (by decide +kernel)
theorem lk_X4_74 : LkS RX4 74 yX4_isByte cX4_isByte 1 (some .boolean) 1 := ⟨⟨wT_at 364 (by decide +kernel) (by decide +kernel), ms_X4_isByte, mi_X4_isByte, mc_X4_isByte⟩, md_X4_isByte⟩
theorem mc_X2_isFigure : Cond.code yX2_isFigure cX2_isFigure 1 (some .boolean) ∈ wT := wT_at 279 (by decide +kernel) (by decide +kernel)
theorem md_X2_isFigure : yX2_isFigure.cls ≠ "java/lang/invoke/MethodHandle" ∧ yX2_isFigure.cls ≠ "java/lang/invoke/VarHandle" ∧ (parseMethodDescriptor yX2_isFigure.desc).map (fun d => d.parameters.length) = some 1 := ⟨by decide +kernel, by decide +kernel, by decide +kernel⟩
theorem ms_X2_isFigure : Cond.static yX2_isFigure ∈ wT := wT_at 278 (by decide +kernel) (by decide +kernel)
theorem mi_X2_isFigure : Cond.initialized yX2_isFigure.cls ∈ wT := wT_at 54 (by decide +kernel) (by decide +kernel)
theorem lk_X2_74 : LkS RX2 74 yX2_isFigure cX2_isFigure 1 (some .boolean) 1 := ⟨⟨wT_at 277 (by decide +kernel) (by decide +kernel), ms_X2_isFigure, mi_X2_isFigure, mc_X2_isFigure⟩, md_X2_isFigure⟩
theorem mc_X5_plain : Cond.code yX5_plain cX5_plain 1 none ∈ wT := wT_at 643 (by decide +kernel) (by decide +kernel)
theorem md_X5_plain : yX5_plain.cls ≠ "java/lang/invoke/MethodHandle" ∧ yX5_plain.cls ≠ "java/lang/invoke/VarHandle" ∧ (parseMethodDescriptor yX5_plain.desc).map (fun d => d.parameters.length) = some 1 := ⟨by decide +kernel, by decide +kernel, by decide +kernel⟩
theorem ms_X5_plain : Cond.static yX5_plain ∈ wT := wT_at 642 (by decide +kernel) (by decide +kernel)
theorem mi_X5_plain : Cond.initialized yX5_plain.cls ∈ wT := wT_at 58 (by decide +kernel) (by decide +kernel)
theorem lk_X5_25 : LkS RX5 25 yX5_plain cX5_plain 1 none 1 := ⟨⟨wT_at 641 (by decide +kernel) (by decide +kernel), ms_X5_plain, mi_X5_plain, mc_X5_plain⟩, md_X5_plain⟩
theorem mc_X5_in : Cond.code yX5_in cX5_in 6 (some .boolean) ∈ wT := wT_at 684 (by decide +kernel) (by decide +kernel)
theorem md_X5_in : yX5_in.cls ≠ "java/lang/invoke/MethodHandle" ∧ yX5_in.cls ≠ "java/lang/invoke/VarHandle" ∧ (parseMethodDescriptor yX5_in.desc).map (fun d => d.parameters.length) = some 3 := ⟨by decide +kernel, by decide +kernel, by decide +kernel⟩
theorem ms_X5_in : Cond.static yX5_in ∈ wT := wT_at 683 (by decide +kernel) (by decide +kernel)
theorem mi_X5_in : Cond.initialized yX5_in.cls ∈ wT := wT_at 58 (by decide +kernel) (by decide +kernel)
theorem lk_X5_40 : LkS RX5 40 yX5_in cX5_in 6 (some .boolean) 3 := ⟨⟨wT_at 682 (by decide +kernel) (by decide +kernel), ms_X5_in, mi_X5_in, mc_X5_in⟩, md_X5_in⟩
theorem mc_X5_sumOf : Cond.code yX5_sumOf cX5_sumOf 1 (some .int) ∈ wT := wT_at 717 (by decide +kernel) (by decide +kernel)
theorem md_X5_sumOf : yX5_sumOf.cls ≠ "java/lang/invoke/MethodHandle" ∧ yX5_sumOf.cls ≠ "java/lang/invoke/VarHandle" ∧ (parseMethodDescriptor yX5_sumOf.desc).map (fun d => d.parameters.length) = some 1 := ⟨by decide +kernel, by decide +kernel, by decide +kernel⟩
theorem ms_X5_sumOf : Cond.static yX5_sumOf ∈ wT := wT_at 716 (by decide +kernel) (by decide +kernel)
theorem mi_X5_sumOf : Cond.initialized yX5_sumOf.cls ∈ wT := wT_at 58 (by decide +kernel) (by decide +kernel)
theorem lk_X5_77 : LkS RX5 77 yX5_sumOf cX5_sumOf 1 (some .int) 1 := ⟨⟨wT_at 715 (by decide +kernel) (by decide +kernel), ms_X5_sumOf, mi_X5_sumOf, mc_X5_sumOf⟩, md_X5_sumOf⟩
theorem mc_X4_quotient : Cond.code yX4_quotient cX4_quotient 2 (some .int) ∈ wT := wT_at 500 (by decide +kernel) (by decide +kernel)
theorem md_X4_quotient : yX4_quotient.cls ≠ "java/lang/invoke/MethodHandle" ∧ yX4_quotient.cls ≠ "java/lang/invoke/VarHandle" ∧ (parseMethodDescriptor yX4_quotient.desc).map (fun d => d.parameters.length) = some 2 := ⟨by decide +kernel, by decide +kernel, by decide +kernel⟩
theorem ms_X4_quotient : Cond.static yX4_quotient ∈ wT := wT_at 499 (by decide +kernel) (by decide +kernel)
theorem mi_X4_quotient : Cond.initialized yX4_quotient.cls ∈ wT := wT_at 53 (by decide +kernel) (by decide +kernel)
theorem lkn_X4_quotient : LkN yX4_quotient cX4_quotient 2 (some .int) 2 := ⟨⟨ms_X4_quotient, mi_X4_quotient, mc_X4_quotient⟩, md_X4_quotient⟩
theorem mc_X4_remainder : Cond.code yX4_remainder cX4_remainder 2 (some .int) ∈ wT := wT_at 406 (by decide +kernel) (by decide +kernel)
theorem md_X4_remainder : yX4_remainder.cls ≠ "java/lang/invoke/MethodHandle" ∧ yX4_remainder.cls ≠ "java/lang/invoke/VarHandle" ∧ (parseMethodDescriptor yX4_remainder.desc).map (fun d => d.parameters.length) = some 2 := ⟨by decide +kernel, by decide +kernel, by decide +kernel⟩
theorem ms_X4_remainder : Cond.static yX4_remainder ∈ wT := wT_at 405 (by decide +kernel) (by decide +kernel)
theorem mi_X4_remainder : Cond.initialized yX4_remainder.cls ∈ wT := wT_at 53 (by decide +kernel) (by decide +kernel)
theorem lkn_X4_remainder : LkN yX4_remainder cX4_remainder 2 (some .int) 2 := ⟨⟨ms_X4_remainder, mi_X4_remainder, mc_X4_remainder⟩, md_X4_remainder⟩
