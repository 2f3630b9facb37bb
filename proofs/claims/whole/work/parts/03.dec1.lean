theorem dX0_init_0 : decode cX0_init 0 = .ok (.aload_n 0, 1) := by decide +kernel
theorem dX0_init_1 : decode cX0_init 1 = .ok (.invokespecial 3, 3) := by decide +kernel
theorem dX0_init_4 : decode cX0_init 4 = .ok (.aload_n 0, 1) := by decide +kernel
theorem dX0_init_5 : decode cX0_init 5 = .ok (.new 9, 3) := by decide +kernel
theorem dX0_init_8 : decode cX0_init 8 = .ok (.dup, 1) := by decide +kernel
theorem dX0_init_9 : decode cX0_init 9 = .ok (.invokespecial 11, 3) := by decide +kernel
theorem dX0_init_12 : decode cX0_init 12 = .ok (.putfield 12, 3) := by decide +kernel
theorem dX0_init_15 : decode cX0_init 15 = .ok (.aload_n 0, 1) := by decide +kernel
theorem dX0_init_16 : decode cX0_init 16 = .ok (.new 18, 3) := by decide +kernel
theorem dX0_init_19 : decode cX0_init 19 = .ok (.dup, 1) := by decide +kernel
theorem dX0_init_20 : decode cX0_init 20 = .ok (.invokespecial 20, 3) := by decide +kernel
theorem dX0_init_23 : decode cX0_init 23 = .ok (.putfield 21, 3) := by decide +kernel
theorem dX0_init_26 : decode cX0_init 26 = .ok (.aload_n 0, 1) := by decide +kernel
theorem dX0_init_27 : decode cX0_init 27 = .ok (.sipush 256, 3) := by decide +kernel
theorem dX0_init_30 : decode cX0_init 30 = .ok (.newarray .int, 2) := by decide +kernel
theorem dX0_init_32 : decode cX0_init 32 = .ok (.putfield 25, 3) := by decide +kernel
theorem dX0_init_35 : decode cX0_init 35 = .ok (.aload_n 0, 1) := by decide +kernel
theorem dX0_init_36 : decode cX0_init 36 = .ok (.bipush 8, 2) := by decide +kernel
theorem dX0_init_38 : decode cX0_init 38 = .ok (.newarray .boolean, 2) := by decide +kernel
theorem dX0_init_40 : decode cX0_init 40 = .ok (.putfield 29, 3) := by decide +kernel
theorem dX0_init_43 : decode cX0_init 43 = .ok (.aload_n 0, 1) := by decide +kernel
theorem dX0_init_44 : decode cX0_init 44 = .ok (.invokevirtual 33, 3) := by decide +kernel
theorem dX0_init_47 : decode cX0_init 47 = .ok (.return_, 1) := by decide +kernel
theorem dX0_layOut_0 : decode cX0_layOut 0 = .ok (.aload_n 0, 1) := by decide +kernel
theorem dX0_layOut_1 : decode cX0_layOut 1 = .ok (.getfield 12, 3) := by decide +kernel
theorem dX0_layOut_4 : decode cX0_layOut 4 = .ok (.aload_n 1, 1) := by decide +kernel
theorem dX0_layOut_5 : decode cX0_layOut 5 = .ok (.invokevirtual 36, 3) := by decide +kernel
theorem dX0_layOut_8 : decode cX0_layOut 8 = .ok (.aload_n 0, 1) := by decide +kernel
theorem dX0_layOut_9 : decode cX0_layOut 9 = .ok (.invokevirtual 33, 3) := by decide +kernel
theorem dX0_layOut_12 : decode cX0_layOut 12 = .ok (.return_, 1) := by decide +kernel
theorem dX0_startAnew_0 : decode cX0_startAnew 0 = .ok (.aload_n 0, 1) := by decide +kernel
theorem dX0_startAnew_1 : decode cX0_startAnew 1 = .ok (.getfield 21, 3) := by decide +kernel
theorem dX0_startAnew_4 : decode cX0_startAnew 4 = .ok (.invokevirtual 40, 3) := by decide +kernel
theorem dX0_startAnew_7 : decode cX0_startAnew 7 = .ok (.aload_n 0, 1) := by decide +kernel
theorem dX0_startAnew_8 : decode cX0_startAnew 8 = .ok (.iconst 0, 1) := by decide +kernel
theorem dX0_startAnew_9 : decode cX0_startAnew 9 = .ok (.aload_n 0, 1) := by decide +kernel
theorem dX0_startAnew_10 : decode cX0_startAnew 10 = .ok (.getfield 25, 3) := by decide +kernel
theorem dX0_startAnew_13 : decode cX0_startAnew 13 = .ok (.arraylength, 1) := by decide +kernel
theorem dX0_startAnew_14 : decode cX0_startAnew 14 = .ok (.invokevirtual 43, 3) := by decide +kernel
theorem dX0_startAnew_17 : decode cX0_startAnew 17 = .ok (.iconst 0, 1) := by decide +kernel
theorem dX0_startAnew_18 : decode cX0_startAnew 18 = .ok (.istore_n 1, 1) := by decide +kernel
theorem dX0_startAnew_19 : decode cX0_startAnew 19 = .ok (.iload_n 1, 1) := by decide +kernel
theorem dX0_startAnew_20 : decode cX0_startAnew 20 = .ok (.aload_n 0, 1) := by decide +kernel
theorem dX0_startAnew_21 : decode cX0_startAnew 21 = .ok (.getfield 29, 3) := by decide +kernel
theorem dX0_startAnew_24 : decode cX0_startAnew 24 = .ok (.arraylength, 1) := by decide +kernel
theorem dX0_startAnew_25 : decode cX0_startAnew 25 = .ok (.if_icmp .ge 16, 3) := by decide +kernel
theorem dX0_startAnew_28 : decode cX0_startAnew 28 = .ok (.aload_n 0, 1) := by decide +kernel
theorem dX0_startAnew_29 : decode cX0_startAnew 29 = .ok (.getfield 29, 3) := by decide +kernel
theorem dX0_startAnew_32 : decode cX0_startAnew 32 = .ok (.iload_n 1, 1) := by decide +kernel
theorem dX0_startAnew_33 : decode cX0_startAnew 33 = .ok (.iconst 0, 1) := by decide +kernel
theorem dX0_startAnew_34 : decode cX0_startAnew 34 = .ok (.bastore, 1) := by decide +kernel
theorem dX0_startAnew_35 : decode cX0_startAnew 35 = .ok (.iinc 1 1, 3) := by decide +kernel
theorem dX0_startAnew_38 : decode cX0_startAnew 38 = .ok (.goto (-19), 3) := by decide +kernel
theorem dX0_startAnew_41 : decode cX0_startAnew 41 = .ok (.aload_n 0, 1) := by decide +kernel
theorem dX0_startAnew_42 : decode cX0_startAnew 42 = .ok (.iconst 0, 1) := by decide +kernel
theorem dX0_startAnew_43 : decode cX0_startAnew 43 = .ok (.putfield 47, 3) := by decide +kernel
theorem dX0_startAnew_46 : decode cX0_startAnew 46 = .ok (.aload_n 0, 1) := by decide +kernel
theorem dX0_startAnew_47 : decode cX0_startAnew 47 = .ok (.iconst 0, 1) := by decide +kernel
theorem dX0_startAnew_48 : decode cX0_startAnew 48 = .ok (.putfield 51, 3) := by decide +kernel
theorem dX0_startAnew_51 : decode cX0_startAnew 51 = .ok (.aload_n 0, 1) := by decide +kernel
theorem dX0_startAnew_52 : decode cX0_startAnew 52 = .ok (.iconst 0, 1) := by decide +kernel
theorem dX0_startAnew_53 : decode cX0_startAnew 53 = .ok (.putfield 54, 3) := by decide +kernel
theorem dX0_startAnew_56 : decode cX0_startAnew 56 = .ok (.aload_n 0, 1) := by decide +kernel
theorem dX0_startAnew_57 : decode cX0_startAnew 57 = .ok (.iconst 0, 1) := by decide +kernel
theorem dX0_startAnew_58 : decode cX0_startAnew 58 = .ok (.putfield 58, 3) := by decide +kernel
theorem dX0_startAnew_61 : decode cX0_startAnew 61 = .ok (.aload_n 0, 1) := by decide +kernel
theorem dX0_startAnew_62 : decode cX0_startAnew 62 = .ok (.iconst (-1), 1) := by decide +kernel
theorem dX0_startAnew_63 : decode cX0_startAnew 63 = .ok (.putfield 61, 3) := by decide +kernel
theorem dX0_startAnew_66 : decode cX0_startAnew 66 = .ok (.aload_n 0, 1) := by decide +kernel
theorem dX0_startAnew_67 : decode cX0_startAnew 67 = .ok (.iconst (-1), 1) := by decide +kernel
theorem dX0_startAnew_68 : decode cX0_startAnew 68 = .ok (.putfield 64, 3) := by decide +kernel
theorem dX0_startAnew_71 : decode cX0_startAnew 71 = .ok (.aload_n 0, 1) := by decide +kernel
theorem dX0_startAnew_72 : decode cX0_startAnew 72 = .ok (.iconst 0, 1) := by decide +kernel
theorem dX0_startAnew_73 : decode cX0_startAnew 73 = .ok (.putfield 67, 3) := by decide +kernel
theorem dX0_startAnew_76 : decode cX0_startAnew 76 = .ok (.aload_n 0, 1) := by decide +kernel
theorem dX0_startAnew_77 : decode cX0_startAnew 77 = .ok (.iconst (-1), 1) := by decide +kernel
theorem dX0_startAnew_78 : decode cX0_startAnew 78 = .ok (.putfield 70, 3) := by decide +kernel
theorem dX0_startAnew_81 : decode cX0_startAnew 81 = .ok (.aload_n 0, 1) := by decide +kernel
theorem dX0_startAnew_82 : decode cX0_startAnew 82 = .ok (.iconst 0, 1) := by decide +kernel
theorem dX0_startAnew_83 : decode cX0_startAnew 83 = .ok (.putfield 73, 3) := by decide +kernel
theorem dX0_startAnew_86 : decode cX0_startAnew 86 = .ok (.aload_n 0, 1) := by decide +kernel
theorem dX0_startAnew_87 : decode cX0_startAnew 87 = .ok (.iconst 0, 1) := by decide +kernel
theorem dX0_startAnew_88 : decode cX0_startAnew 88 = .ok (.putfield 76, 3) := by decide +kernel
theorem dX0_startAnew_91 : decode cX0_startAnew 91 = .ok (.aload_n 0, 1) := by decide +kernel
theorem dX0_startAnew_92 : decode cX0_startAnew 92 = .ok (.iconst 0, 1) := by decide +kernel
theorem dX0_startAnew_93 : decode cX0_startAnew 93 = .ok (.putfield 79, 3) := by decide +kernel
theorem dX0_startAnew_96 : decode cX0_startAnew 96 = .ok (.aload_n 0, 1) := by decide +kernel
theorem dX0_startAnew_97 : decode cX0_startAnew 97 = .ok (.iconst 0, 1) := by decide +kernel
theorem dX0_startAnew_98 : decode cX0_startAnew 98 = .ok (.putfield 82, 3) := by decide +kernel
theorem dX0_startAnew_101 : decode cX0_startAnew 101 = .ok (.return_, 1) := by decide +kernel
theorem dX0_copyFrom_0 : decode cX0_copyFrom 0 = .ok (.aload_n 0, 1) := by decide +kernel
theorem dX0_copyFrom_1 : decode cX0_copyFrom 1 = .ok (.getfield 12, 3) := by decide +kernel
theorem dX0_copyFrom_4 : decode cX0_copyFrom 4 = .ok (.aload_n 1, 1) := by decide +kernel
theorem dX0_copyFrom_5 : decode cX0_copyFrom 5 = .ok (.getfield 12, 3) := by decide +kernel
theorem dX0_copyFrom_8 : decode cX0_copyFrom 8 = .ok (.invokevirtual 36, 3) := by decide +kernel
theorem dX0_copyFrom_11 : decode cX0_copyFrom 11 = .ok (.aload_n 0, 1) := by decide +kernel
theorem dX0_copyFrom_12 : decode cX0_copyFrom 12 = .ok (.getfield 21, 3) := by decide +kernel
theorem dX0_copyFrom_15 : decode cX0_copyFrom 15 = .ok (.aload_n 1, 1) := by decide +kernel
theorem dX0_copyFrom_16 : decode cX0_copyFrom 16 = .ok (.getfield 21, 3) := by decide +kernel
theorem dX0_copyFrom_19 : decode cX0_copyFrom 19 = .ok (.invokevirtual 85, 3) := by decide +kernel
theorem dX0_copyFrom_22 : decode cX0_copyFrom 22 = .ok (.iconst 0, 1) := by decide +kernel
theorem dX0_copyFrom_23 : decode cX0_copyFrom 23 = .ok (.istore_n 2, 1) := by decide +kernel
theorem dX0_copyFrom_24 : decode cX0_copyFrom 24 = .ok (.iload_n 2, 1) := by decide +kernel
theorem dX0_copyFrom_25 : decode cX0_copyFrom 25 = .ok (.aload_n 0, 1) := by decide +kernel
theorem dX0_copyFrom_26 : decode cX0_copyFrom 26 = .ok (.getfield 25, 3) := by decide +kernel
theorem dX0_copyFrom_29 : decode cX0_copyFrom 29 = .ok (.arraylength, 1) := by decide +kernel
theorem dX0_copyFrom_30 : decode cX0_copyFrom 30 = .ok (.if_icmp .ge 30, 3) := by decide +kernel
theorem dX0_copyFrom_33 : decode cX0_copyFrom 33 = .ok (.iload_n 2, 1) := by decide +kernel
theorem dX0_copyFrom_34 : decode cX0_copyFrom 34 = .ok (.aload_n 1, 1) := by decide +kernel
theorem dX0_copyFrom_35 : decode cX0_copyFrom 35 = .ok (.getfield 25, 3) := by decide +kernel
theorem dX0_copyFrom_38 : decode cX0_copyFrom 38 = .ok (.arraylength, 1) := by decide +kernel
theorem dX0_copyFrom_39 : decode cX0_copyFrom 39 = .ok (.if_icmp .ge 21, 3) := by decide +kernel
theorem dX0_copyFrom_42 : decode cX0_copyFrom 42 = .ok (.aload_n 0, 1) := by decide +kernel
theorem dX0_copyFrom_43 : decode cX0_copyFrom 43 = .ok (.getfield 25, 3) := by decide +kernel
theorem dX0_copyFrom_46 : decode cX0_copyFrom 46 = .ok (.iload_n 2, 1) := by decide +kernel
theorem dX0_copyFrom_47 : decode cX0_copyFrom 47 = .ok (.aload_n 1, 1) := by decide +kernel
theorem dX0_copyFrom_48 : decode cX0_copyFrom 48 = .ok (.getfield 25, 3) := by decide +kernel
theorem dX0_copyFrom_51 : decode cX0_copyFrom 51 = .ok (.iload_n 2, 1) := by decide +kernel
theorem dX0_copyFrom_52 : decode cX0_copyFrom 52 = .ok (.iaload, 1) := by decide +kernel
theorem dX0_copyFrom_53 : decode cX0_copyFrom 53 = .ok (.iastore, 1) := by decide +kernel
theorem dX0_copyFrom_54 : decode cX0_copyFrom 54 = .ok (.iinc 2 1, 3) := by decide +kernel
theorem dX0_copyFrom_57 : decode cX0_copyFrom 57 = .ok (.goto (-33), 3) := by decide +kernel
theorem dX0_copyFrom_60 : decode cX0_copyFrom 60 = .ok (.iconst 0, 1) := by decide +kernel
theorem dX0_copyFrom_61 : decode cX0_copyFrom 61 = .ok (.istore_n 2, 1) := by decide +kernel
theorem dX0_copyFrom_62 : decode cX0_copyFrom 62 = .ok (.iload_n 2, 1) := by decide +kernel
theorem dX0_copyFrom_63 : decode cX0_copyFrom 63 = .ok (.aload_n 0, 1) := by decide +kernel
theorem dX0_copyFrom_64 : decode cX0_copyFrom 64 = .ok (.getfield 29, 3) := by decide +kernel
theorem dX0_copyFrom_67 : decode cX0_copyFrom 67 = .ok (.arraylength, 1) := by decide +kernel
theorem dX0_copyFrom_68 : decode cX0_copyFrom 68 = .ok (.if_icmp .ge 30, 3) := by decide +kernel
theorem dX0_copyFrom_71 : decode cX0_copyFrom 71 = .ok (.iload_n 2, 1) := by decide +kernel
theorem dX0_copyFrom_72 : decode cX0_copyFrom 72 = .ok (.aload_n 1, 1) := by decide +kernel
theorem dX0_copyFrom_73 : decode cX0_copyFrom 73 = .ok (.getfield 29, 3) := by decide +kernel
theorem dX0_copyFrom_76 : decode cX0_copyFrom 76 = .ok (.arraylength, 1) := by decide +kernel
theorem dX0_copyFrom_77 : decode cX0_copyFrom 77 = .ok (.if_icmp .ge 21, 3) := by decide +kernel
theorem dX0_copyFrom_80 : decode cX0_copyFrom 80 = .ok (.aload_n 0, 1) := by decide +kernel
theorem dX0_copyFrom_81 : decode cX0_copyFrom 81 = .ok (.getfield 29, 3) := by decide +kernel
theorem dX0_copyFrom_84 : decode cX0_copyFrom 84 = .ok (.iload_n 2, 1) := by decide +kernel
theorem dX0_copyFrom_85 : decode cX0_copyFrom 85 = .ok (.aload_n 1, 1) := by decide +kernel
theorem dX0_copyFrom_86 : decode cX0_copyFrom 86 = .ok (.getfield 29, 3) := by decide +kernel
theorem dX0_copyFrom_89 : decode cX0_copyFrom 89 = .ok (.iload_n 2, 1) := by decide +kernel
theorem dX0_copyFrom_90 : decode cX0_copyFrom 90 = .ok (.baload, 1) := by decide +kernel
theorem dX0_copyFrom_91 : decode cX0_copyFrom 91 = .ok (.bastore, 1) := by decide +kernel
theorem dX0_copyFrom_92 : decode cX0_copyFrom 92 = .ok (.iinc 2 1, 3) := by decide +kernel
theorem dX0_copyFrom_95 : decode cX0_copyFrom 95 = .ok (.goto (-33), 3) := by decide +kernel
theorem dX0_copyFrom_98 : decode cX0_copyFrom 98 = .ok (.aload_n 0, 1) := by decide +kernel
theorem dX0_copyFrom_99 : decode cX0_copyFrom 99 = .ok (.aload_n 1, 1) := by decide +kernel
theorem dX0_copyFrom_100 : decode cX0_copyFrom 100 = .ok (.getfield 47, 3) := by decide +kernel
theorem dX0_copyFrom_103 : decode cX0_copyFrom 103 = .ok (.putfield 47, 3) := by decide +kernel
theorem dX0_copyFrom_106 : decode cX0_copyFrom 106 = .ok (.aload_n 0, 1) := by decide +kernel
theorem dX0_copyFrom_107 : decode cX0_copyFrom 107 = .ok (.aload_n 1, 1) := by decide +kernel
theorem dX0_copyFrom_108 : decode cX0_copyFrom 108 = .ok (.getfield 51, 3) := by decide +kernel
theorem dX0_copyFrom_111 : decode cX0_copyFrom 111 = .ok (.putfield 51, 3) := by decide +kernel
theorem dX0_copyFrom_114 : decode cX0_copyFrom 114 = .ok (.aload_n 0, 1) := by decide +kernel
theorem dX0_copyFrom_115 : decode cX0_copyFrom 115 = .ok (.aload_n 1, 1) := by decide +kernel
theorem dX0_copyFrom_116 : decode cX0_copyFrom 116 = .ok (.getfield 54, 3) := by decide +kernel
theorem dX0_copyFrom_119 : decode cX0_copyFrom 119 = .ok (.putfield 54, 3) := by decide +kernel
theorem dX0_copyFrom_122 : decode cX0_copyFrom 122 = .ok (.aload_n 0, 1) := by decide +kernel
theorem dX0_copyFrom_123 : decode cX0_copyFrom 123 = .ok (.aload_n 1, 1) := by decide +kernel
theorem dX0_copyFrom_124 : decode cX0_copyFrom 124 = .ok (.getfield 58, 3) := by decide +kernel
theorem dX0_copyFrom_127 : decode cX0_copyFrom 127 = .ok (.putfield 58, 3) := by decide +kernel
theorem dX0_copyFrom_130 : decode cX0_copyFrom 130 = .ok (.aload_n 0, 1) := by decide +kernel
theorem dX0_copyFrom_131 : decode cX0_copyFrom 131 = .ok (.aload_n 1, 1) := by decide +kernel
theorem dX0_copyFrom_132 : decode cX0_copyFrom 132 = .ok (.getfield 61, 3) := by decide +kernel
theorem dX0_copyFrom_135 : decode cX0_copyFrom 135 = .ok (.putfield 61, 3) := by decide +kernel
theorem dX0_copyFrom_138 : decode cX0_copyFrom 138 = .ok (.aload_n 0, 1) := by decide +kernel
theorem dX0_copyFrom_139 : decode cX0_copyFrom 139 = .ok (.aload_n 1, 1) := by decide +kernel
theorem dX0_copyFrom_140 : decode cX0_copyFrom 140 = .ok (.getfield 64, 3) := by decide +kernel
theorem dX0_copyFrom_143 : decode cX0_copyFrom 143 = .ok (.putfield 64, 3) := by decide +kernel
theorem dX0_copyFrom_146 : decode cX0_copyFrom 146 = .ok (.aload_n 0, 1) := by decide +kernel
theorem dX0_copyFrom_147 : decode cX0_copyFrom 147 = .ok (.aload_n 1, 1) := by decide +kernel
theorem dX0_copyFrom_148 : decode cX0_copyFrom 148 = .ok (.getfield 67, 3) := by decide +kernel
theorem dX0_copyFrom_151 : decode cX0_copyFrom 151 = .ok (.putfield 67, 3) := by decide +kernel
theorem dX0_copyFrom_154 : decode cX0_copyFrom 154 = .ok (.aload_n 0, 1) := by decide +kernel
theorem dX0_copyFrom_155 : decode cX0_copyFrom 155 = .ok (.aload_n 1, 1) := by decide +kernel
theorem dX0_copyFrom_156 : decode cX0_copyFrom 156 = .ok (.getfield 70, 3) := by decide +kernel
theorem dX0_copyFrom_159 : decode cX0_copyFrom 159 = .ok (.putfield 70, 3) := by decide +kernel
theorem dX0_copyFrom_162 : decode cX0_copyFrom 162 = .ok (.aload_n 0, 1) := by decide +kernel
theorem dX0_copyFrom_163 : decode cX0_copyFrom 163 = .ok (.aload_n 1, 1) := by decide +kernel
theorem dX0_copyFrom_164 : decode cX0_copyFrom 164 = .ok (.getfield 73, 3) := by decide +kernel
theorem dX0_copyFrom_167 : decode cX0_copyFrom 167 = .ok (.putfield 73, 3) := by decide +kernel
theorem dX0_copyFrom_170 : decode cX0_copyFrom 170 = .ok (.aload_n 0, 1) := by decide +kernel
theorem dX0_copyFrom_171 : decode cX0_copyFrom 171 = .ok (.aload_n 1, 1) := by decide +kernel
theorem dX0_copyFrom_172 : decode cX0_copyFrom 172 = .ok (.getfield 76, 3) := by decide +kernel
theorem dX0_copyFrom_175 : decode cX0_copyFrom 175 = .ok (.putfield 76, 3) := by decide +kernel
theorem dX0_copyFrom_178 : decode cX0_copyFrom 178 = .ok (.aload_n 0, 1) := by decide +kernel
theorem dX0_copyFrom_179 : decode cX0_copyFrom 179 = .ok (.aload_n 1, 1) := by decide +kernel
theorem dX0_copyFrom_180 : decode cX0_copyFrom 180 = .ok (.getfield 79, 3) := by decide +kernel
theorem dX0_copyFrom_183 : decode cX0_copyFrom 183 = .ok (.putfield 79, 3) := by decide +kernel
theorem dX0_copyFrom_186 : decode cX0_copyFrom 186 = .ok (.aload_n 0, 1) := by decide +kernel
theorem dX0_copyFrom_187 : decode cX0_copyFrom 187 = .ok (.aload_n 1, 1) := by decide +kernel
theorem dX0_copyFrom_188 : decode cX0_copyFrom 188 = .ok (.getfield 82, 3) := by decide +kernel
theorem dX0_copyFrom_191 : decode cX0_copyFrom 191 = .ok (.putfield 82, 3) := by decide +kernel
theorem dX0_copyFrom_194 : decode cX0_copyFrom 194 = .ok (.return_, 1) := by decide +kernel
theorem dX0_shape_0 : decode cX0_shape 0 = .ok (.aload_n 0, 1) := by decide +kernel
theorem dX0_shape_1 : decode cX0_shape 1 = .ok (.getfield 12, 3) := by decide +kernel
theorem dX0_shape_4 : decode cX0_shape 4 = .ok (.areturn, 1) := by decide +kernel
theorem dX0_all_0 : decode cX0_all 0 = .ok (.aload_n 0, 1) := by decide +kernel
theorem dX0_all_1 : decode cX0_all 1 = .ok (.getfield 12, 3) := by decide +kernel
theorem dX0_all_4 : decode cX0_all 4 = .ok (.invokevirtual 88, 3) := by decide +kernel
theorem dX0_all_7 : decode cX0_all 7 = .ok (.ireturn, 1) := by decide +kernel
theorem dX0_lanes_0 : decode cX0_lanes 0 = .ok (.iconst 1, 1) := by decide +kernel
theorem dX0_lanes_1 : decode cX0_lanes 1 = .ok (.aload_n 0, 1) := by decide +kernel
theorem dX0_lanes_2 : decode cX0_lanes 2 = .ok (.getfield 47, 3) := by decide +kernel
theorem dX0_lanes_5 : decode cX0_lanes 5 = .ok (.ishl, 1) := by decide +kernel
theorem dX0_lanes_6 : decode cX0_lanes 6 = .ok (.ireturn, 1) := by decide +kernel
theorem dX0_clocks_0 : decode cX0_clocks 0 = .ok (.aload_n 0, 1) := by decide +kernel
theorem dX0_clocks_1 : decode cX0_clocks 1 = .ok (.getfield 76, 3) := by decide +kernel
theorem dX0_clocks_4 : decode cX0_clocks 4 = .ok (.ireturn, 1) := by decide +kernel
theorem dX0_begun_0 : decode cX0_begun 0 = .ok (.aload_n 0, 1) := by decide +kernel
theorem dX0_begun_1 : decode cX0_begun 1 = .ok (.getfield 79, 3) := by decide +kernel
theorem dX0_begun_4 : decode cX0_begun 4 = .ok (.ireturn, 1) := by decide +kernel
theorem dX0_puts_0 : decode cX0_puts 0 = .ok (.aload_n 0, 1) := by decide +kernel
theorem dX0_puts_1 : decode cX0_puts 1 = .ok (.getfield 21, 3) := by decide +kernel
theorem dX0_puts_4 : decode cX0_puts 4 = .ok (.invokevirtual 92, 3) := by decide +kernel
theorem dX0_puts_7 : decode cX0_puts 7 = .ok (.ireturn, 1) := by decide +kernel
theorem dX0_isSelected_0 : decode cX0_isSelected 0 = .ok (.aload_n 0, 1) := by decide +kernel
theorem dX0_isSelected_1 : decode cX0_isSelected 1 = .ok (.getfield 21, 3) := by decide +kernel
theorem dX0_isSelected_4 : decode cX0_isSelected 4 = .ok (.invokevirtual 95, 3) := by decide +kernel
theorem dX0_isSelected_7 : decode cX0_isSelected 7 = .ok (.ireturn, 1) := by decide +kernel
theorem dX0_isBusy_0 : decode cX0_isBusy 0 = .ok (.aload_n 0, 1) := by decide +kernel
theorem dX0_isBusy_1 : decode cX0_isBusy 1 = .ok (.getfield 61, 3) := by decide +kernel
theorem dX0_isBusy_4 : decode cX0_isBusy 4 = .ok (.iconst (-1), 1) := by decide +kernel
theorem dX0_isBusy_5 : decode cX0_isBusy 5 = .ok (.if_icmp .eq 7, 3) := by decide +kernel
theorem dX0_isBusy_8 : decode cX0_isBusy 8 = .ok (.iconst 1, 1) := by decide +kernel
theorem dX0_isBusy_9 : decode cX0_isBusy 9 = .ok (.goto 4, 3) := by decide +kernel
theorem dX0_isBusy_12 : decode cX0_isBusy 12 = .ok (.iconst 0, 1) := by decide +kernel
theorem dX0_isBusy_13 : decode cX0_isBusy 13 = .ok (.ireturn, 1) := by decide +kernel
theorem dX0_isSuspended_0 : decode cX0_isSuspended 0 = .ok (.aload_n 0, 1) := by decide +kernel
theorem dX0_isSuspended_1 : decode cX0_isSuspended 1 = .ok (.getfield 70, 3) := by decide +kernel
theorem dX0_isSuspended_4 : decode cX0_isSuspended 4 = .ok (.iconst (-1), 1) := by decide +kernel
theorem dX0_isSuspended_5 : decode cX0_isSuspended 5 = .ok (.if_icmp .eq 7, 3) := by decide +kernel
theorem dX0_isSuspended_8 : decode cX0_isSuspended 8 = .ok (.iconst 1, 1) := by decide +kernel
theorem dX0_isSuspended_9 : decode cX0_isSuspended 9 = .ok (.goto 4, 3) := by decide +kernel
theorem dX0_isSuspended_12 : decode cX0_isSuspended 12 = .ok (.iconst 0, 1) := by decide +kernel
theorem dX0_isSuspended_13 : decode cX0_isSuspended 13 = .ok (.ireturn, 1) := by decide +kernel
theorem dX0_ticksLeft_0 : decode cX0_ticksLeft 0 = .ok (.aload_n 0, 1) := by decide +kernel
theorem dX0_ticksLeft_1 : decode cX0_ticksLeft 1 = .ok (.invokevirtual 99, 3) := by decide +kernel
theorem dX0_ticksLeft_4 : decode cX0_ticksLeft 4 = .ok (.ifCond .eq 10, 3) := by decide +kernel
theorem dX0_ticksLeft_7 : decode cX0_ticksLeft 7 = .ok (.aload_n 0, 1) := by decide +kernel
theorem dX0_ticksLeft_8 : decode cX0_ticksLeft 8 = .ok (.getfield 67, 3) := by decide +kernel
theorem dX0_ticksLeft_11 : decode cX0_ticksLeft 11 = .ok (.goto 7, 3) := by decide +kernel
theorem dX0_ticksLeft_14 : decode cX0_ticksLeft 14 = .ok (.aload_n 0, 1) := by decide +kernel
theorem dX0_ticksLeft_15 : decode cX0_ticksLeft 15 = .ok (.getfield 73, 3) := by decide +kernel
theorem dX0_ticksLeft_18 : decode cX0_ticksLeft 18 = .ok (.ireturn, 1) := by decide +kernel
theorem dX0_status_0 : decode cX0_status 0 = .ok (.iconst 4, 1) := by decide +kernel
theorem dX0_status_1 : decode cX0_status 1 = .ok (.aload_n 0, 1) := by decide +kernel
theorem dX0_status_2 : decode cX0_status 2 = .ok (.getfield 51, 3) := by decide +kernel
theorem dX0_status_5 : decode cX0_status 5 = .ok (.imul, 1) := by decide +kernel
theorem dX0_status_6 : decode cX0_status 6 = .ok (.istore_n 1, 1) := by decide +kernel
theorem dX0_status_7 : decode cX0_status 7 = .ok (.aload_n 0, 1) := by decide +kernel
theorem dX0_status_8 : decode cX0_status 8 = .ok (.invokevirtual 99, 3) := by decide +kernel
theorem dX0_status_11 : decode cX0_status 11 = .ok (.ifCond .eq 6, 3) := by decide +kernel
theorem dX0_status_14 : decode cX0_status 14 = .ok (.iinc 1 1, 3) := by decide +kernel
theorem dX0_status_17 : decode cX0_status 17 = .ok (.aload_n 0, 1) := by decide +kernel
theorem dX0_status_18 : decode cX0_status 18 = .ok (.getfield 54, 3) := by decide +kernel
theorem dX0_status_21 : decode cX0_status 21 = .ok (.ifCond .eq 6, 3) := by decide +kernel
theorem dX0_status_24 : decode cX0_status 24 = .ok (.iinc 1 2, 3) := by decide +kernel
theorem dX0_status_27 : decode cX0_status 27 = .ok (.aload_n 0, 1) := by decide +kernel
theorem dX0_status_28 : decode cX0_status 28 = .ok (.invokevirtual 102, 3) := by decide +kernel
theorem dX0_status_31 : decode cX0_status 31 = .ok (.ifCond .eq 6, 3) := by decide +kernel
theorem dX0_status_34 : decode cX0_status 34 = .ok (.iinc 1 64, 3) := by decide +kernel
theorem dX0_status_37 : decode cX0_status 37 = .ok (.aload_n 0, 1) := by decide +kernel
theorem dX0_status_38 : decode cX0_status 38 = .ok (.getfield 58, 3) := by decide +kernel
theorem dX0_status_41 : decode cX0_status 41 = .ok (.ifCond .eq 9, 3) := by decide +kernel
theorem dX0_status_44 : decode cX0_status 44 = .ok (.iinc 1 128, 6) := by decide +kernel
theorem dX0_status_50 : decode cX0_status 50 = .ok (.iload_n 1, 1) := by decide +kernel
theorem dX0_status_51 : decode cX0_status 51 = .ok (.ireturn, 1) := by decide +kernel
theorem dX0_byteAt_0 : decode cX0_byteAt 0 = .ok (.iload_n 1, 1) := by decide +kernel
theorem dX0_byteAt_1 : decode cX0_byteAt 1 = .ok (.ifCond .lt 21, 3) := by decide +kernel
theorem dX0_byteAt_4 : decode cX0_byteAt 4 = .ok (.iload_n 1, 1) := by decide +kernel
theorem dX0_byteAt_5 : decode cX0_byteAt 5 = .ok (.aload_n 0, 1) := by decide +kernel
theorem dX0_byteAt_6 : decode cX0_byteAt 6 = .ok (.getfield 25, 3) := by decide +kernel
theorem dX0_byteAt_9 : decode cX0_byteAt 9 = .ok (.arraylength, 1) := by decide +kernel
theorem dX0_byteAt_10 : decode cX0_byteAt 10 = .ok (.if_icmp .ge 12, 3) := by decide +kernel
theorem dX0_byteAt_13 : decode cX0_byteAt 13 = .ok (.aload_n 0, 1) := by decide +kernel
theorem dX0_byteAt_14 : decode cX0_byteAt 14 = .ok (.getfield 25, 3) := by decide +kernel
theorem dX0_byteAt_17 : decode cX0_byteAt 17 = .ok (.iload_n 1, 1) := by decide +kernel
theorem dX0_byteAt_18 : decode cX0_byteAt 18 = .ok (.iaload, 1) := by decide +kernel
theorem dX0_byteAt_19 : decode cX0_byteAt 19 = .ok (.goto 6, 3) := by decide +kernel
theorem dX0_byteAt_22 : decode cX0_byteAt 22 = .ok (.sipush 255, 3) := by decide +kernel
theorem dX0_byteAt_25 : decode cX0_byteAt 25 = .ok (.ireturn, 1) := by decide +kernel
theorem dX0_blanksIn_0 : decode cX0_blanksIn 0 = .ok (.iconst 0, 1) := by decide +kernel
theorem dX0_blanksIn_1 : decode cX0_blanksIn 1 = .ok (.istore_n 2, 1) := by decide +kernel
theorem dX0_blanksIn_2 : decode cX0_blanksIn 2 = .ok (.iload_n 1, 1) := by decide +kernel
theorem dX0_blanksIn_3 : decode cX0_blanksIn 3 = .ok (.aload_n 0, 1) := by decide +kernel
theorem dX0_blanksIn_4 : decode cX0_blanksIn 4 = .ok (.getfield 12, 3) := by decide +kernel
theorem dX0_blanksIn_7 : decode cX0_blanksIn 7 = .ok (.invokevirtual 105, 3) := by decide +kernel
theorem dX0_blanksIn_10 : decode cX0_blanksIn 10 = .ok (.imul, 1) := by decide +kernel
theorem dX0_blanksIn_11 : decode cX0_blanksIn 11 = .ok (.istore_n 3, 1) := by decide +kernel
theorem dX0_blanksIn_12 : decode cX0_blanksIn 12 = .ok (.iconst 0, 1) := by decide +kernel
theorem dX0_blanksIn_13 : decode cX0_blanksIn 13 = .ok (.istore 4, 2) := by decide +kernel
theorem dX0_blanksIn_15 : decode cX0_blanksIn 15 = .ok (.iload 4, 2) := by decide +kernel
theorem dX0_blanksIn_17 : decode cX0_blanksIn 17 = .ok (.aload_n 0, 1) := by decide +kernel
theorem dX0_blanksIn_18 : decode cX0_blanksIn 18 = .ok (.getfield 12, 3) := by decide +kernel
theorem dX0_blanksIn_21 : decode cX0_blanksIn 21 = .ok (.invokevirtual 105, 3) := by decide +kernel
theorem dX0_blanksIn_24 : decode cX0_blanksIn 24 = .ok (.if_icmp .ge 26, 3) := by decide +kernel
theorem dX0_blanksIn_27 : decode cX0_blanksIn 27 = .ok (.aload_n 0, 1) := by decide +kernel
theorem dX0_blanksIn_28 : decode cX0_blanksIn 28 = .ok (.iload_n 3, 1) := by decide +kernel
theorem dX0_blanksIn_29 : decode cX0_blanksIn 29 = .ok (.iload 4, 2) := by decide +kernel
theorem dX0_blanksIn_31 : decode cX0_blanksIn 31 = .ok (.iadd, 1) := by decide +kernel
theorem dX0_blanksIn_32 : decode cX0_blanksIn 32 = .ok (.invokevirtual 108, 3) := by decide +kernel
theorem dX0_blanksIn_35 : decode cX0_blanksIn 35 = .ok (.sipush 255, 3) := by decide +kernel
theorem dX0_blanksIn_38 : decode cX0_blanksIn 38 = .ok (.if_icmp .ne 6, 3) := by decide +kernel
theorem dX0_blanksIn_41 : decode cX0_blanksIn 41 = .ok (.iinc 2 1, 3) := by decide +kernel
theorem dX0_blanksIn_44 : decode cX0_blanksIn 44 = .ok (.iinc 4 1, 3) := by decide +kernel
theorem dX0_blanksIn_47 : decode cX0_blanksIn 47 = .ok (.goto (-32), 3) := by decide +kernel
theorem dX0_blanksIn_50 : decode cX0_blanksIn 50 = .ok (.iload_n 2, 1) := by decide +kernel
theorem dX0_blanksIn_51 : decode cX0_blanksIn 51 = .ok (.ireturn, 1) := by decide +kernel
theorem dX0_sumOf_0 : decode cX0_sumOf 0 = .ok (.iconst 0, 1) := by decide +kernel
theorem dX0_sumOf_1 : decode cX0_sumOf 1 = .ok (.istore_n 2, 1) := by decide +kernel
theorem dX0_sumOf_2 : decode cX0_sumOf 2 = .ok (.iload_n 1, 1) := by decide +kernel
theorem dX0_sumOf_3 : decode cX0_sumOf 3 = .ok (.aload_n 0, 1) := by decide +kernel
theorem dX0_sumOf_4 : decode cX0_sumOf 4 = .ok (.getfield 12, 3) := by decide +kernel
theorem dX0_sumOf_7 : decode cX0_sumOf 7 = .ok (.invokevirtual 105, 3) := by decide +kernel
theorem dX0_sumOf_10 : decode cX0_sumOf 10 = .ok (.imul, 1) := by decide +kernel
theorem dX0_sumOf_11 : decode cX0_sumOf 11 = .ok (.istore_n 3, 1) := by decide +kernel
theorem dX0_sumOf_12 : decode cX0_sumOf 12 = .ok (.iconst 0, 1) := by decide +kernel
theorem dX0_sumOf_13 : decode cX0_sumOf 13 = .ok (.istore 4, 2) := by decide +kernel
theorem dX0_sumOf_15 : decode cX0_sumOf 15 = .ok (.iload 4, 2) := by decide +kernel
theorem dX0_sumOf_17 : decode cX0_sumOf 17 = .ok (.aload_n 0, 1) := by decide +kernel
theorem dX0_sumOf_18 : decode cX0_sumOf 18 = .ok (.getfield 12, 3) := by decide +kernel
theorem dX0_sumOf_21 : decode cX0_sumOf 21 = .ok (.invokevirtual 105, 3) := by decide +kernel
theorem dX0_sumOf_24 : decode cX0_sumOf 24 = .ok (.if_icmp .ge 20, 3) := by decide +kernel
theorem dX0_sumOf_27 : decode cX0_sumOf 27 = .ok (.iload_n 2, 1) := by decide +kernel
theorem dX0_sumOf_28 : decode cX0_sumOf 28 = .ok (.aload_n 0, 1) := by decide +kernel
theorem dX0_sumOf_29 : decode cX0_sumOf 29 = .ok (.iload_n 3, 1) := by decide +kernel
theorem dX0_sumOf_30 : decode cX0_sumOf 30 = .ok (.iload 4, 2) := by decide +kernel
theorem dX0_sumOf_32 : decode cX0_sumOf 32 = .ok (.iadd, 1) := by decide +kernel
theorem dX0_sumOf_33 : decode cX0_sumOf 33 = .ok (.invokevirtual 108, 3) := by decide +kernel
theorem dX0_sumOf_36 : decode cX0_sumOf 36 = .ok (.iadd, 1) := by decide +kernel
theorem dX0_sumOf_37 : decode cX0_sumOf 37 = .ok (.istore_n 2, 1) := by decide +kernel
theorem dX0_sumOf_38 : decode cX0_sumOf 38 = .ok (.iinc 4 1, 3) := by decide +kernel
theorem dX0_sumOf_41 : decode cX0_sumOf 41 = .ok (.goto (-26), 3) := by decide +kernel
theorem dX0_sumOf_44 : decode cX0_sumOf 44 = .ok (.iload_n 2, 1) := by decide +kernel
theorem dX0_sumOf_45 : decode cX0_sumOf 45 = .ok (.ireturn, 1) := by decide +kernel
theorem dX0_bytesOtherThanIn_0 : decode cX0_bytesOtherThanIn 0 = .ok (.iconst 0, 1) := by decide +kernel
theorem dX0_bytesOtherThanIn_1 : decode cX0_bytesOtherThanIn 1 = .ok (.istore_n 2, 1) := by decide +kernel
theorem dX0_bytesOtherThanIn_2 : decode cX0_bytesOtherThanIn 2 = .ok (.iconst 0, 1) := by decide +kernel
theorem dX0_bytesOtherThanIn_3 : decode cX0_bytesOtherThanIn 3 = .ok (.istore_n 3, 1) := by decide +kernel
theorem dX0_bytesOtherThanIn_4 : decode cX0_bytesOtherThanIn 4 = .ok (.iload_n 3, 1) := by decide +kernel
theorem dX0_bytesOtherThanIn_5 : decode cX0_bytesOtherThanIn 5 = .ok (.aload_n 0, 1) := by decide +kernel
theorem dX0_bytesOtherThanIn_6 : decode cX0_bytesOtherThanIn 6 = .ok (.invokevirtual 112, 3) := by decide +kernel
theorem dX0_bytesOtherThanIn_9 : decode cX0_bytesOtherThanIn 9 = .ok (.if_icmp .ge 25, 3) := by decide +kernel
theorem dX0_bytesOtherThanIn_12 : decode cX0_bytesOtherThanIn 12 = .ok (.aload_n 0, 1) := by decide +kernel
theorem dX0_bytesOtherThanIn_13 : decode cX0_bytesOtherThanIn 13 = .ok (.iload_n 3, 1) := by decide +kernel
theorem dX0_bytesOtherThanIn_14 : decode cX0_bytesOtherThanIn 14 = .ok (.invokevirtual 108, 3) := by decide +kernel
theorem dX0_bytesOtherThanIn_17 : decode cX0_bytesOtherThanIn 17 = .ok (.aload_n 1, 1) := by decide +kernel
theorem dX0_bytesOtherThanIn_18 : decode cX0_bytesOtherThanIn 18 = .ok (.iload_n 3, 1) := by decide +kernel
theorem dX0_bytesOtherThanIn_19 : decode cX0_bytesOtherThanIn 19 = .ok (.invokevirtual 108, 3) := by decide +kernel
theorem dX0_bytesOtherThanIn_22 : decode cX0_bytesOtherThanIn 22 = .ok (.if_icmp .eq 6, 3) := by decide +kernel
theorem dX0_bytesOtherThanIn_25 : decode cX0_bytesOtherThanIn 25 = .ok (.iinc 2 1, 3) := by decide +kernel
theorem dX0_bytesOtherThanIn_28 : decode cX0_bytesOtherThanIn 28 = .ok (.iinc 3 1, 3) := by decide +kernel
theorem dX0_bytesOtherThanIn_31 : decode cX0_bytesOtherThanIn 31 = .ok (.goto (-27), 3) := by decide +kernel
theorem dX0_bytesOtherThanIn_34 : decode cX0_bytesOtherThanIn 34 = .ok (.iload_n 2, 1) := by decide +kernel
theorem dX0_bytesOtherThanIn_35 : decode cX0_bytesOtherThanIn 35 = .ok (.ireturn, 1) := by decide +kernel
theorem dX0_isLocked_0 : decode cX0_isLocked 0 = .ok (.iload_n 1, 1) := by decide +kernel
theorem dX0_isLocked_1 : decode cX0_isLocked 1 = .ok (.ifCond .lt 25, 3) := by decide +kernel
theorem dX0_isLocked_4 : decode cX0_isLocked 4 = .ok (.iload_n 1, 1) := by decide +kernel
theorem dX0_isLocked_5 : decode cX0_isLocked 5 = .ok (.aload_n 0, 1) := by decide +kernel
theorem dX0_isLocked_6 : decode cX0_isLocked 6 = .ok (.getfield 29, 3) := by decide +kernel
theorem dX0_isLocked_9 : decode cX0_isLocked 9 = .ok (.arraylength, 1) := by decide +kernel
theorem dX0_isLocked_10 : decode cX0_isLocked 10 = .ok (.if_icmp .ge 16, 3) := by decide +kernel
theorem dX0_isLocked_13 : decode cX0_isLocked 13 = .ok (.aload_n 0, 1) := by decide +kernel
theorem dX0_isLocked_14 : decode cX0_isLocked 14 = .ok (.getfield 29, 3) := by decide +kernel
theorem dX0_isLocked_17 : decode cX0_isLocked 17 = .ok (.iload_n 1, 1) := by decide +kernel
theorem dX0_isLocked_18 : decode cX0_isLocked 18 = .ok (.baload, 1) := by decide +kernel
theorem dX0_isLocked_19 : decode cX0_isLocked 19 = .ok (.ifCond .eq 7, 3) := by decide +kernel
theorem dX0_isLocked_22 : decode cX0_isLocked 22 = .ok (.iconst 1, 1) := by decide +kernel
theorem dX0_isLocked_23 : decode cX0_isLocked 23 = .ok (.goto 4, 3) := by decide +kernel
theorem dX0_isLocked_26 : decode cX0_isLocked 26 = .ok (.iconst 0, 1) := by decide +kernel
theorem dX0_isLocked_27 : decode cX0_isLocked 27 = .ok (.ireturn, 1) := by decide +kernel
theorem dX0_isGuarded_0 : decode cX0_isGuarded 0 = .ok (.aload_n 0, 1) := by decide +kernel
theorem dX0_isGuarded_1 : decode cX0_isGuarded 1 = .ok (.iload_n 1, 1) := by decide +kernel
theorem dX0_isGuarded_2 : decode cX0_isGuarded 2 = .ok (.invokevirtual 113, 3) := by decide +kernel
theorem dX0_isGuarded_5 : decode cX0_isGuarded 5 = .ok (.ifCond .ne 19, 3) := by decide +kernel
theorem dX0_isGuarded_8 : decode cX0_isGuarded 8 = .ok (.iload_n 1, 1) := by decide +kernel
theorem dX0_isGuarded_9 : decode cX0_isGuarded 9 = .ok (.aload_n 0, 1) := by decide +kernel
theorem dX0_isGuarded_10 : decode cX0_isGuarded 10 = .ok (.getfield 12, 3) := by decide +kernel
theorem dX0_isGuarded_13 : decode cX0_isGuarded 13 = .ok (.invokevirtual 117, 3) := by decide +kernel
theorem dX0_isGuarded_16 : decode cX0_isGuarded 16 = .ok (.aload_n 0, 1) := by decide +kernel
theorem dX0_isGuarded_17 : decode cX0_isGuarded 17 = .ok (.getfield 51, 3) := by decide +kernel
theorem dX0_isGuarded_20 : decode cX0_isGuarded 20 = .ok (.isub, 1) := by decide +kernel
theorem dX0_isGuarded_21 : decode cX0_isGuarded 21 = .ok (.if_icmp .lt 7, 3) := by decide +kernel
theorem dX0_isGuarded_24 : decode cX0_isGuarded 24 = .ok (.iconst 1, 1) := by decide +kernel
theorem dX0_isGuarded_25 : decode cX0_isGuarded 25 = .ok (.goto 4, 3) := by decide +kernel
theorem dX0_isGuarded_28 : decode cX0_isGuarded 28 = .ok (.iconst 0, 1) := by decide +kernel
theorem dX0_isGuarded_29 : decode cX0_isGuarded 29 = .ok (.ireturn, 1) := by decide +kernel
theorem dX0_isAnyGuarded_0 : decode cX0_isAnyGuarded 0 = .ok (.iconst 0, 1) := by decide +kernel
theorem dX0_isAnyGuarded_1 : decode cX0_isAnyGuarded 1 = .ok (.istore_n 1, 1) := by decide +kernel
theorem dX0_isAnyGuarded_2 : decode cX0_isAnyGuarded 2 = .ok (.iload_n 1, 1) := by decide +kernel
theorem dX0_isAnyGuarded_3 : decode cX0_isAnyGuarded 3 = .ok (.aload_n 0, 1) := by decide +kernel
theorem dX0_isAnyGuarded_4 : decode cX0_isAnyGuarded 4 = .ok (.getfield 12, 3) := by decide +kernel
theorem dX0_isAnyGuarded_7 : decode cX0_isAnyGuarded 7 = .ok (.invokevirtual 117, 3) := by decide +kernel
theorem dX0_isAnyGuarded_10 : decode cX0_isAnyGuarded 10 = .ok (.if_icmp .ge 19, 3) := by decide +kernel
theorem dX0_isAnyGuarded_13 : decode cX0_isAnyGuarded 13 = .ok (.aload_n 0, 1) := by decide +kernel
theorem dX0_isAnyGuarded_14 : decode cX0_isAnyGuarded 14 = .ok (.iload_n 1, 1) := by decide +kernel
theorem dX0_isAnyGuarded_15 : decode cX0_isAnyGuarded 15 = .ok (.invokevirtual 113, 3) := by decide +kernel
theorem dX0_isAnyGuarded_18 : decode cX0_isAnyGuarded 18 = .ok (.ifCond .eq 5, 3) := by decide +kernel
theorem dX0_isAnyGuarded_21 : decode cX0_isAnyGuarded 21 = .ok (.iconst 1, 1) := by decide +kernel
theorem dX0_isAnyGuarded_22 : decode cX0_isAnyGuarded 22 = .ok (.ireturn, 1) := by decide +kernel
theorem dX0_isAnyGuarded_23 : decode cX0_isAnyGuarded 23 = .ok (.iinc 1 1, 3) := by decide +kernel
theorem dX0_isAnyGuarded_26 : decode cX0_isAnyGuarded 26 = .ok (.goto (-24), 3) := by decide +kernel
theorem dX0_isAnyGuarded_29 : decode cX0_isAnyGuarded 29 = .ok (.aload_n 0, 1) := by decide +kernel
theorem dX0_isAnyGuarded_30 : decode cX0_isAnyGuarded 30 = .ok (.getfield 51, 3) := by decide +kernel
theorem dX0_isAnyGuarded_33 : decode cX0_isAnyGuarded 33 = .ok (.ifCond .le 7, 3) := by decide +kernel
theorem dX0_isAnyGuarded_36 : decode cX0_isAnyGuarded 36 = .ok (.iconst 1, 1) := by decide +kernel
theorem dX0_isAnyGuarded_37 : decode cX0_isAnyGuarded 37 = .ok (.goto 4, 3) := by decide +kernel
theorem dX0_isAnyGuarded_40 : decode cX0_isAnyGuarded 40 = .ok (.iconst 0, 1) := by decide +kernel
theorem dX0_isAnyGuarded_41 : decode cX0_isAnyGuarded 41 = .ok (.ireturn, 1) := by decide +kernel
theorem dX0_isBeingErased_0 : decode cX0_isBeingErased 0 = .ok (.aload_n 0, 1) := by decide +kernel
theorem dX0_isBeingErased_1 : decode cX0_isBeingErased 1 = .ok (.getfield 61, 3) := by decide +kernel
theorem dX0_isBeingErased_4 : decode cX0_isBeingErased 4 = .ok (.sipush 199, 3) := by decide +kernel
theorem dX0_isBeingErased_7 : decode cX0_isBeingErased 7 = .ok (.if_icmp .eq 28, 3) := by decide +kernel
theorem dX0_isBeingErased_10 : decode cX0_isBeingErased 10 = .ok (.aload_n 0, 1) := by decide +kernel
theorem dX0_isBeingErased_11 : decode cX0_isBeingErased 11 = .ok (.getfield 61, 3) := by decide +kernel
theorem dX0_isBeingErased_14 : decode cX0_isBeingErased 14 = .ok (.bipush 32, 2) := by decide +kernel
theorem dX0_isBeingErased_16 : decode cX0_isBeingErased 16 = .ok (.if_icmp .ne 11, 3) := by decide +kernel
theorem dX0_isBeingErased_19 : decode cX0_isBeingErased 19 = .ok (.aload_n 0, 1) := by decide +kernel
theorem dX0_isBeingErased_20 : decode cX0_isBeingErased 20 = .ok (.getfield 64, 3) := by decide +kernel
theorem dX0_isBeingErased_23 : decode cX0_isBeingErased 23 = .ok (.iload_n 1, 1) := by decide +kernel
theorem dX0_isBeingErased_24 : decode cX0_isBeingErased 24 = .ok (.if_icmp .eq 11, 3) := by decide +kernel
theorem dX0_isBeingErased_27 : decode cX0_isBeingErased 27 = .ok (.aload_n 0, 1) := by decide +kernel
theorem dX0_isBeingErased_28 : decode cX0_isBeingErased 28 = .ok (.getfield 70, 3) := by decide +kernel
theorem dX0_isBeingErased_31 : decode cX0_isBeingErased 31 = .ok (.iload_n 1, 1) := by decide +kernel
theorem dX0_isBeingErased_32 : decode cX0_isBeingErased 32 = .ok (.if_icmp .ne 7, 3) := by decide +kernel
theorem dX0_isBeingErased_35 : decode cX0_isBeingErased 35 = .ok (.iconst 1, 1) := by decide +kernel
theorem dX0_isBeingErased_36 : decode cX0_isBeingErased 36 = .ok (.goto 4, 3) := by decide +kernel
theorem dX0_isBeingErased_39 : decode cX0_isBeingErased 39 = .ok (.iconst 0, 1) := by decide +kernel
theorem dX0_isBeingErased_40 : decode cX0_isBeingErased 40 = .ok (.ireturn, 1) := by decide +kernel
theorem dX0_open_0 : decode cX0_open 0 = .ok (.aload_n 0, 1) := by decide +kernel
theorem dX0_open_1 : decode cX0_open 1 = .ok (.getfield 21, 3) := by decide +kernel
theorem dX0_open_4 : decode cX0_open 4 = .ok (.invokevirtual 120, 3) := by decide +kernel
theorem dX0_open_7 : decode cX0_open 7 = .ok (.return_, 1) := by decide +kernel
theorem dX0_accept_0 : decode cX0_accept 0 = .ok (.aload_n 0, 1) := by decide +kernel
theorem dX0_accept_1 : decode cX0_accept 1 = .ok (.invokevirtual 123, 3) := by decide +kernel
theorem dX0_accept_4 : decode cX0_accept 4 = .ok (.istore_n 2, 1) := by decide +kernel
theorem dX0_accept_5 : decode cX0_accept 5 = .ok (.aload_n 0, 1) := by decide +kernel
theorem dX0_accept_6 : decode cX0_accept 6 = .ok (.getfield 21, 3) := by decide +kernel
theorem dX0_accept_9 : decode cX0_accept 9 = .ok (.iload_n 1, 1) := by decide +kernel
theorem dX0_accept_10 : decode cX0_accept 10 = .ok (.aload_n 0, 1) := by decide +kernel
theorem dX0_accept_11 : decode cX0_accept 11 = .ok (.getfield 12, 3) := by decide +kernel
theorem dX0_accept_14 : decode cX0_accept 14 = .ok (.invokevirtual 126, 3) := by decide +kernel
theorem dX0_accept_17 : decode cX0_accept 17 = .ok (.invokevirtual 129, 3) := by decide +kernel
theorem dX0_accept_20 : decode cX0_accept 20 = .ok (.aload_n 0, 1) := by decide +kernel
theorem dX0_accept_21 : decode cX0_accept 21 = .ok (.aload_n 0, 1) := by decide +kernel
theorem dX0_accept_22 : decode cX0_accept 22 = .ok (.getfield 76, 3) := by decide +kernel
theorem dX0_accept_25 : decode cX0_accept 25 = .ok (.bipush 8, 2) := by decide +kernel
theorem dX0_accept_27 : decode cX0_accept 27 = .ok (.aload_n 0, 1) := by decide +kernel
theorem dX0_accept_28 : decode cX0_accept 28 = .ok (.getfield 47, 3) := by decide +kernel
theorem dX0_accept_31 : decode cX0_accept 31 = .ok (.ishr, 1) := by decide +kernel
theorem dX0_accept_32 : decode cX0_accept 32 = .ok (.iadd, 1) := by decide +kernel
theorem dX0_accept_33 : decode cX0_accept 33 = .ok (.ldc 132, 2) := by decide +kernel
theorem dX0_accept_35 : decode cX0_accept 35 = .ok (.irem, 1) := by decide +kernel
theorem dX0_accept_36 : decode cX0_accept 36 = .ok (.putfield 76, 3) := by decide +kernel
theorem dX0_accept_39 : decode cX0_accept 39 = .ok (.iload_n 2, 1) := by decide +kernel
theorem dX0_accept_40 : decode cX0_accept 40 = .ok (.ireturn, 1) := by decide +kernel
theorem dX0_answerToNext_0 : decode cX0_answerToNext 0 = .ok (.aload_n 0, 1) := by decide +kernel
theorem dX0_answerToNext_1 : decode cX0_answerToNext 1 = .ok (.getfield 21, 3) := by decide +kernel
theorem dX0_answerToNext_4 : decode cX0_answerToNext 4 = .ok (.invokevirtual 92, 3) := by decide +kernel
theorem dX0_answerToNext_7 : decode cX0_answerToNext 7 = .ok (.ifCond .ne 7, 3) := by decide +kernel
theorem dX0_answerToNext_10 : decode cX0_answerToNext 10 = .ok (.sipush 255, 3) := by decide +kernel
theorem dX0_answerToNext_13 : decode cX0_answerToNext 13 = .ok (.ireturn, 1) := by decide +kernel
theorem dX0_answerToNext_14 : decode cX0_answerToNext 14 = .ok (.aload_n 0, 1) := by decide +kernel
theorem dX0_answerToNext_15 : decode cX0_answerToNext 15 = .ok (.getfield 21, 3) := by decide +kernel
theorem dX0_answerToNext_18 : decode cX0_answerToNext 18 = .ok (.invokevirtual 133, 3) := by decide +kernel
theorem dX0_answerToNext_21 : decode cX0_answerToNext 21 = .ok (.iconst 5, 1) := by decide +kernel
theorem dX0_answerToNext_22 : decode cX0_answerToNext 22 = .ok (.if_icmp .ne 8, 3) := by decide +kernel
theorem dX0_answerToNext_25 : decode cX0_answerToNext 25 = .ok (.aload_n 0, 1) := by decide +kernel
theorem dX0_answerToNext_26 : decode cX0_answerToNext 26 = .ok (.invokevirtual 136, 3) := by decide +kernel
theorem dX0_answerToNext_29 : decode cX0_answerToNext 29 = .ok (.ireturn, 1) := by decide +kernel
theorem dX0_answerToNext_30 : decode cX0_answerToNext 30 = .ok (.aload_n 0, 1) := by decide +kernel
theorem dX0_answerToNext_31 : decode cX0_answerToNext 31 = .ok (.invokevirtual 99, 3) := by decide +kernel
theorem dX0_answerToNext_34 : decode cX0_answerToNext 34 = .ok (.ifCond .eq 9, 3) := by decide +kernel
theorem dX0_answerToNext_37 : decode cX0_answerToNext 37 = .ok (.sipush 255, 3) := by decide +kernel
theorem dX0_answerToNext_40 : decode cX0_answerToNext 40 = .ok (.goto 7, 3) := by decide +kernel
theorem dX0_answerToNext_43 : decode cX0_answerToNext 43 = .ok (.aload_n 0, 1) := by decide +kernel
theorem dX0_answerToNext_44 : decode cX0_answerToNext 44 = .ok (.invokevirtual 139, 3) := by decide +kernel
theorem dX0_answerToNext_47 : decode cX0_answerToNext 47 = .ok (.ireturn, 1) := by decide +kernel
theorem dX0_contentForNext_0 : decode cX0_contentForNext 0 = .ok (.aload_n 0, 1) := by decide +kernel
theorem dX0_contentForNext_1 : decode cX0_contentForNext 1 = .ok (.getfield 21, 3) := by decide +kernel
theorem dX0_contentForNext_4 : decode cX0_contentForNext 4 = .ok (.invokevirtual 92, 3) := by decide +kernel
theorem dX0_contentForNext_7 : decode cX0_contentForNext 7 = .ok (.istore_n 1, 1) := by decide +kernel
theorem dX0_contentForNext_8 : decode cX0_contentForNext 8 = .ok (.aload_n 0, 1) := by decide +kernel
theorem dX0_contentForNext_9 : decode cX0_contentForNext 9 = .ok (.getfield 21, 3) := by decide +kernel
theorem dX0_contentForNext_12 : decode cX0_contentForNext 12 = .ok (.invokevirtual 133, 3) := by decide +kernel
theorem dX0_contentForNext_15 : decode cX0_contentForNext 15 = .ok (.lookupswitch 131 #[(3, 33), (11, 67), (90, 101)], 33) := by decide +kernel
theorem dX0_contentForNext_48 : decode cX0_contentForNext 48 = .ok (.iload_n 1, 1) := by decide +kernel
theorem dX0_contentForNext_49 : decode cX0_contentForNext 49 = .ok (.iconst 2, 1) := by decide +kernel
theorem dX0_contentForNext_50 : decode cX0_contentForNext 50 = .ok (.if_icmp .ge 9, 3) := by decide +kernel
theorem dX0_contentForNext_53 : decode cX0_contentForNext 53 = .ok (.sipush 255, 3) := by decide +kernel
theorem dX0_contentForNext_56 : decode cX0_contentForNext 56 = .ok (.goto 25, 3) := by decide +kernel
theorem dX0_contentForNext_59 : decode cX0_contentForNext 59 = .ok (.aload_n 0, 1) := by decide +kernel
theorem dX0_contentForNext_60 : decode cX0_contentForNext 60 = .ok (.aload_n 0, 1) := by decide +kernel
theorem dX0_contentForNext_61 : decode cX0_contentForNext 61 = .ok (.getfield 21, 3) := by decide +kernel
theorem dX0_contentForNext_64 : decode cX0_contentForNext 64 = .ok (.invokevirtual 142, 3) := by decide +kernel
theorem dX0_contentForNext_67 : decode cX0_contentForNext 67 = .ok (.iload_n 1, 1) := by decide +kernel
theorem dX0_contentForNext_68 : decode cX0_contentForNext 68 = .ok (.iadd, 1) := by decide +kernel
theorem dX0_contentForNext_69 : decode cX0_contentForNext 69 = .ok (.iconst 2, 1) := by decide +kernel
theorem dX0_contentForNext_70 : decode cX0_contentForNext 70 = .ok (.isub, 1) := by decide +kernel
theorem dX0_contentForNext_71 : decode cX0_contentForNext 71 = .ok (.aload_n 0, 1) := by decide +kernel
theorem dX0_contentForNext_72 : decode cX0_contentForNext 72 = .ok (.invokevirtual 112, 3) := by decide +kernel
theorem dX0_contentForNext_75 : decode cX0_contentForNext 75 = .ok (.invokestatic 145, 3) := by decide +kernel
theorem dX0_contentForNext_78 : decode cX0_contentForNext 78 = .ok (.invokevirtual 108, 3) := by decide +kernel
theorem dX0_contentForNext_81 : decode cX0_contentForNext 81 = .ok (.ireturn, 1) := by decide +kernel
theorem dX0_contentForNext_82 : decode cX0_contentForNext 82 = .ok (.iload_n 1, 1) := by decide +kernel
theorem dX0_contentForNext_83 : decode cX0_contentForNext 83 = .ok (.iconst 3, 1) := by decide +kernel
theorem dX0_contentForNext_84 : decode cX0_contentForNext 84 = .ok (.if_icmp .ge 9, 3) := by decide +kernel
theorem dX0_contentForNext_87 : decode cX0_contentForNext 87 = .ok (.sipush 255, 3) := by decide +kernel
theorem dX0_contentForNext_90 : decode cX0_contentForNext 90 = .ok (.goto 25, 3) := by decide +kernel
theorem dX0_contentForNext_93 : decode cX0_contentForNext 93 = .ok (.aload_n 0, 1) := by decide +kernel
theorem dX0_contentForNext_94 : decode cX0_contentForNext 94 = .ok (.aload_n 0, 1) := by decide +kernel
theorem dX0_contentForNext_95 : decode cX0_contentForNext 95 = .ok (.getfield 21, 3) := by decide +kernel
theorem dX0_contentForNext_98 : decode cX0_contentForNext 98 = .ok (.invokevirtual 142, 3) := by decide +kernel
theorem dX0_contentForNext_101 : decode cX0_contentForNext 101 = .ok (.iload_n 1, 1) := by decide +kernel
theorem dX0_contentForNext_102 : decode cX0_contentForNext 102 = .ok (.iadd, 1) := by decide +kernel
theorem dX0_contentForNext_103 : decode cX0_contentForNext 103 = .ok (.iconst 3, 1) := by decide +kernel
theorem dX0_contentForNext_104 : decode cX0_contentForNext 104 = .ok (.isub, 1) := by decide +kernel
theorem dX0_contentForNext_105 : decode cX0_contentForNext 105 = .ok (.aload_n 0, 1) := by decide +kernel
theorem dX0_contentForNext_106 : decode cX0_contentForNext 106 = .ok (.invokevirtual 112, 3) := by decide +kernel
theorem dX0_contentForNext_109 : decode cX0_contentForNext 109 = .ok (.invokestatic 145, 3) := by decide +kernel
theorem dX0_contentForNext_112 : decode cX0_contentForNext 112 = .ok (.invokevirtual 108, 3) := by decide +kernel
theorem dX0_contentForNext_115 : decode cX0_contentForNext 115 = .ok (.ireturn, 1) := by decide +kernel
theorem dX0_contentForNext_116 : decode cX0_contentForNext 116 = .ok (.iload_n 1, 1) := by decide +kernel
theorem dX0_contentForNext_117 : decode cX0_contentForNext 117 = .ok (.iconst 3, 1) := by decide +kernel
theorem dX0_contentForNext_118 : decode cX0_contentForNext 118 = .ok (.if_icmp .ge 9, 3) := by decide +kernel
theorem dX0_contentForNext_121 : decode cX0_contentForNext 121 = .ok (.sipush 255, 3) := by decide +kernel
theorem dX0_contentForNext_124 : decode cX0_contentForNext 124 = .ok (.goto 21, 3) := by decide +kernel
theorem dX0_contentForNext_127 : decode cX0_contentForNext 127 = .ok (.aload_n 0, 1) := by decide +kernel
theorem dX0_contentForNext_128 : decode cX0_contentForNext 128 = .ok (.getfield 12, 3) := by decide +kernel
theorem dX0_contentForNext_131 : decode cX0_contentForNext 131 = .ok (.aload_n 0, 1) := by decide +kernel
theorem dX0_contentForNext_132 : decode cX0_contentForNext 132 = .ok (.getfield 21, 3) := by decide +kernel
theorem dX0_contentForNext_135 : decode cX0_contentForNext 135 = .ok (.invokevirtual 142, 3) := by decide +kernel
theorem dX0_contentForNext_138 : decode cX0_contentForNext 138 = .ok (.iload_n 1, 1) := by decide +kernel
theorem dX0_contentForNext_139 : decode cX0_contentForNext 139 = .ok (.iadd, 1) := by decide +kernel
theorem dX0_contentForNext_140 : decode cX0_contentForNext 140 = .ok (.iconst 3, 1) := by decide +kernel
theorem dX0_contentForNext_141 : decode cX0_contentForNext 141 = .ok (.isub, 1) := by decide +kernel
theorem dX0_contentForNext_142 : decode cX0_contentForNext 142 = .ok (.invokevirtual 149, 3) := by decide +kernel
theorem dX0_contentForNext_145 : decode cX0_contentForNext 145 = .ok (.ireturn, 1) := by decide +kernel
theorem dX0_contentForNext_146 : decode cX0_contentForNext 146 = .ok (.sipush 255, 3) := by decide +kernel
theorem dX0_contentForNext_149 : decode cX0_contentForNext 149 = .ok (.ireturn, 1) := by decide +kernel
theorem dX0_close_0 : decode cX0_close 0 = .ok (.aload_n 0, 1) := by decide +kernel
theorem dX0_close_1 : decode cX0_close 1 = .ok (.getfield 82, 3) := by decide +kernel
theorem dX0_close_4 : decode cX0_close 4 = .ok (.istore_n 1, 1) := by decide +kernel
theorem dX0_close_5 : decode cX0_close 5 = .ok (.aload_n 0, 1) := by decide +kernel
theorem dX0_close_6 : decode cX0_close 6 = .ok (.iconst 0, 1) := by decide +kernel
theorem dX0_close_7 : decode cX0_close 7 = .ok (.putfield 82, 3) := by decide +kernel
theorem dX0_close_10 : decode cX0_close 10 = .ok (.aload_n 0, 1) := by decide +kernel
theorem dX0_close_11 : decode cX0_close 11 = .ok (.getfield 21, 3) := by decide +kernel
theorem dX0_close_14 : decode cX0_close 14 = .ok (.invokevirtual 92, 3) := by decide +kernel
theorem dX0_close_17 : decode cX0_close 17 = .ok (.iconst 1, 1) := by decide +kernel
theorem dX0_close_18 : decode cX0_close 18 = .ok (.isub, 1) := by decide +kernel
theorem dX0_close_19 : decode cX0_close 19 = .ok (.istore_n 2, 1) := by decide +kernel
theorem dX0_close_20 : decode cX0_close 20 = .ok (.aload_n 0, 1) := by decide +kernel
theorem dX0_close_21 : decode cX0_close 21 = .ok (.invokevirtual 99, 3) := by decide +kernel
theorem dX0_close_24 : decode cX0_close 24 = .ok (.ifCond .eq 26, 3) := by decide +kernel
theorem dX0_close_27 : decode cX0_close 27 = .ok (.iload_n 2, 1) := by decide +kernel
theorem dX0_close_28 : decode cX0_close 28 = .ok (.ifCond .ne 87, 3) := by decide +kernel
theorem dX0_close_31 : decode cX0_close 31 = .ok (.aload_n 0, 1) := by decide +kernel
theorem dX0_close_32 : decode cX0_close 32 = .ok (.getfield 21, 3) := by decide +kernel
theorem dX0_close_35 : decode cX0_close 35 = .ok (.invokevirtual 133, 3) := by decide +kernel
theorem dX0_close_38 : decode cX0_close 38 = .ok (.bipush 117, 2) := by decide +kernel
theorem dX0_close_40 : decode cX0_close 40 = .ok (.if_icmp .ne 75, 3) := by decide +kernel
theorem dX0_close_43 : decode cX0_close 43 = .ok (.aload_n 0, 1) := by decide +kernel
theorem dX0_close_44 : decode cX0_close 44 = .ok (.invokevirtual 152, 3) := by decide +kernel
theorem dX0_close_47 : decode cX0_close 47 = .ok (.goto 68, 3) := by decide +kernel
theorem dX0_close_50 : decode cX0_close 50 = .ok (.iload_n 2, 1) := by decide +kernel
theorem dX0_close_51 : decode cX0_close 51 = .ok (.ifCond .ne 11, 3) := by decide +kernel
theorem dX0_close_54 : decode cX0_close 54 = .ok (.aload_n 0, 1) := by decide +kernel
theorem dX0_close_55 : decode cX0_close 55 = .ok (.iload_n 1, 1) := by decide +kernel
theorem dX0_close_56 : decode cX0_close 56 = .ok (.invokevirtual 155, 3) := by decide +kernel
theorem dX0_close_59 : decode cX0_close 59 = .ok (.goto 56, 3) := by decide +kernel
theorem dX0_close_62 : decode cX0_close 62 = .ok (.iload_n 2, 1) := by decide +kernel
theorem dX0_close_63 : decode cX0_close 63 = .ok (.iconst 1, 1) := by decide +kernel
theorem dX0_close_64 : decode cX0_close 64 = .ok (.if_icmp .ne 17, 3) := by decide +kernel
theorem dX0_close_67 : decode cX0_close 67 = .ok (.aload_n 0, 1) := by decide +kernel
theorem dX0_close_68 : decode cX0_close 68 = .ok (.aload_n 0, 1) := by decide +kernel
theorem dX0_close_69 : decode cX0_close 69 = .ok (.getfield 21, 3) := by decide +kernel
theorem dX0_close_72 : decode cX0_close 72 = .ok (.invokevirtual 142, 3) := by decide +kernel
theorem dX0_close_75 : decode cX0_close 75 = .ok (.invokevirtual 159, 3) := by decide +kernel
theorem dX0_close_78 : decode cX0_close 78 = .ok (.goto 37, 3) := by decide +kernel
theorem dX0_close_81 : decode cX0_close 81 = .ok (.iload_n 2, 1) := by decide +kernel
theorem dX0_close_82 : decode cX0_close 82 = .ok (.iconst 1, 1) := by decide +kernel
theorem dX0_close_83 : decode cX0_close 83 = .ok (.if_icmp .le 32, 3) := by decide +kernel
theorem dX0_close_86 : decode cX0_close 86 = .ok (.aload_n 0, 1) := by decide +kernel
theorem dX0_close_87 : decode cX0_close 87 = .ok (.getfield 21, 3) := by decide +kernel
theorem dX0_close_90 : decode cX0_close 90 = .ok (.invokevirtual 133, 3) := by decide +kernel
theorem dX0_close_93 : decode cX0_close 93 = .ok (.iconst 2, 1) := by decide +kernel
theorem dX0_close_94 : decode cX0_close 94 = .ok (.if_icmp .ne 21, 3) := by decide +kernel
theorem dX0_close_97 : decode cX0_close 97 = .ok (.aload_n 0, 1) := by decide +kernel
theorem dX0_close_98 : decode cX0_close 98 = .ok (.aload_n 0, 1) := by decide +kernel
theorem dX0_close_99 : decode cX0_close 99 = .ok (.getfield 21, 3) := by decide +kernel
theorem dX0_close_102 : decode cX0_close 102 = .ok (.invokevirtual 142, 3) := by decide +kernel
theorem dX0_close_105 : decode cX0_close 105 = .ok (.aload_n 0, 1) := by decide +kernel
theorem dX0_close_106 : decode cX0_close 106 = .ok (.invokevirtual 112, 3) := by decide +kernel
theorem dX0_close_109 : decode cX0_close 109 = .ok (.invokestatic 145, 3) := by decide +kernel
theorem dX0_close_112 : decode cX0_close 112 = .ok (.invokevirtual 163, 3) := by decide +kernel
theorem dX0_close_115 : decode cX0_close 115 = .ok (.aload_n 0, 1) := by decide +kernel
theorem dX0_close_116 : decode cX0_close 116 = .ok (.getfield 21, 3) := by decide +kernel
theorem dX0_close_119 : decode cX0_close 119 = .ok (.invokevirtual 40, 3) := by decide +kernel
theorem dX0_close_122 : decode cX0_close 122 = .ok (.return_, 1) := by decide +kernel
theorem dX0_obeyAlone_0 : decode cX0_obeyAlone 0 = .ok (.aload_n 0, 1) := by decide +kernel
theorem dX0_obeyAlone_1 : decode cX0_obeyAlone 1 = .ok (.getfield 21, 3) := by decide +kernel
theorem dX0_obeyAlone_4 : decode cX0_obeyAlone 4 = .ok (.invokevirtual 133, 3) := by decide +kernel
theorem dX0_obeyAlone_7 : decode cX0_obeyAlone 7 = .ok (.lookupswitch 111 #[(4, 70), (6, 57), (102, 92), (122, 85), (153, 100), (199, 78)], 57) := by decide +kernel
theorem dX0_obeyAlone_64 : decode cX0_obeyAlone 64 = .ok (.aload_n 0, 1) := by decide +kernel
theorem dX0_obeyAlone_65 : decode cX0_obeyAlone 65 = .ok (.iconst 1, 1) := by decide +kernel
theorem dX0_obeyAlone_66 : decode cX0_obeyAlone 66 = .ok (.putfield 54, 3) := by decide +kernel
theorem dX0_obeyAlone_69 : decode cX0_obeyAlone 69 = .ok (.aload_n 0, 1) := by decide +kernel
theorem dX0_obeyAlone_70 : decode cX0_obeyAlone 70 = .ok (.iconst 0, 1) := by decide +kernel
theorem dX0_obeyAlone_71 : decode cX0_obeyAlone 71 = .ok (.putfield 58, 3) := by decide +kernel
theorem dX0_obeyAlone_74 : decode cX0_obeyAlone 74 = .ok (.goto 44, 3) := by decide +kernel
theorem dX0_obeyAlone_77 : decode cX0_obeyAlone 77 = .ok (.aload_n 0, 1) := by decide +kernel
theorem dX0_obeyAlone_78 : decode cX0_obeyAlone 78 = .ok (.iconst 0, 1) := by decide +kernel
theorem dX0_obeyAlone_79 : decode cX0_obeyAlone 79 = .ok (.putfield 54, 3) := by decide +kernel
theorem dX0_obeyAlone_82 : decode cX0_obeyAlone 82 = .ok (.goto 36, 3) := by decide +kernel
theorem dX0_obeyAlone_85 : decode cX0_obeyAlone 85 = .ok (.aload_n 0, 1) := by decide +kernel
theorem dX0_obeyAlone_86 : decode cX0_obeyAlone 86 = .ok (.invokevirtual 166, 3) := by decide +kernel
theorem dX0_obeyAlone_89 : decode cX0_obeyAlone 89 = .ok (.goto 29, 3) := by decide +kernel
theorem dX0_obeyAlone_92 : decode cX0_obeyAlone 92 = .ok (.aload_n 0, 1) := by decide +kernel
theorem dX0_obeyAlone_93 : decode cX0_obeyAlone 93 = .ok (.invokevirtual 169, 3) := by decide +kernel
theorem dX0_obeyAlone_96 : decode cX0_obeyAlone 96 = .ok (.goto 22, 3) := by decide +kernel
theorem dX0_obeyAlone_99 : decode cX0_obeyAlone 99 = .ok (.aload_n 0, 1) := by decide +kernel
theorem dX0_obeyAlone_100 : decode cX0_obeyAlone 100 = .ok (.iconst 1, 1) := by decide +kernel
theorem dX0_obeyAlone_101 : decode cX0_obeyAlone 101 = .ok (.putfield 82, 3) := by decide +kernel
theorem dX0_obeyAlone_104 : decode cX0_obeyAlone 104 = .ok (.goto 14, 3) := by decide +kernel
theorem dX0_obeyAlone_107 : decode cX0_obeyAlone 107 = .ok (.iload_n 1, 1) := by decide +kernel
theorem dX0_obeyAlone_108 : decode cX0_obeyAlone 108 = .ok (.ifCond .eq 10, 3) := by decide +kernel
theorem dX0_obeyAlone_111 : decode cX0_obeyAlone 111 = .ok (.aload_n 0, 1) := by decide +kernel
theorem dX0_obeyAlone_112 : decode cX0_obeyAlone 112 = .ok (.invokevirtual 172, 3) := by decide +kernel
theorem dX0_obeyAlone_115 : decode cX0_obeyAlone 115 = .ok (.goto 3, 3) := by decide +kernel
theorem dX0_obeyAlone_118 : decode cX0_obeyAlone 118 = .ok (.return_, 1) := by decide +kernel
theorem dX0_obeyWithByte_0 : decode cX0_obeyWithByte 0 = .ok (.iload_n 1, 1) := by decide +kernel
theorem dX0_obeyWithByte_1 : decode cX0_obeyWithByte 1 = .ok (.aload_n 0, 1) := by decide +kernel
theorem dX0_obeyWithByte_2 : decode cX0_obeyWithByte 2 = .ok (.invokevirtual 112, 3) := by decide +kernel
theorem dX0_obeyWithByte_5 : decode cX0_obeyWithByte 5 = .ok (.invokestatic 145, 3) := by decide +kernel
theorem dX0_obeyWithByte_8 : decode cX0_obeyWithByte 8 = .ok (.aload_n 0, 1) := by decide +kernel
theorem dX0_obeyWithByte_9 : decode cX0_obeyWithByte 9 = .ok (.getfield 12, 3) := by decide +kernel
theorem dX0_obeyWithByte_12 : decode cX0_obeyWithByte 12 = .ok (.invokevirtual 105, 3) := by decide +kernel
theorem dX0_obeyWithByte_15 : decode cX0_obeyWithByte 15 = .ok (.invokestatic 175, 3) := by decide +kernel
theorem dX0_obeyWithByte_18 : decode cX0_obeyWithByte 18 = .ok (.istore_n 2, 1) := by decide +kernel
theorem dX0_obeyWithByte_19 : decode cX0_obeyWithByte 19 = .ok (.aload_n 0, 1) := by decide +kernel
theorem dX0_obeyWithByte_20 : decode cX0_obeyWithByte 20 = .ok (.getfield 21, 3) := by decide +kernel
theorem dX0_obeyWithByte_23 : decode cX0_obeyWithByte 23 = .ok (.invokevirtual 133, 3) := by decide +kernel
theorem dX0_obeyWithByte_26 : decode cX0_obeyWithByte 26 = .ok (.lookupswitch 113 #[(1, 50), (32, 74), (49, 82), (54, 95), (57, 104)], 50) := by decide +kernel
theorem dX0_obeyWithByte_76 : decode cX0_obeyWithByte 76 = .ok (.aload_n 0, 1) := by decide +kernel
theorem dX0_obeyWithByte_77 : decode cX0_obeyWithByte 77 = .ok (.aload_n 0, 1) := by decide +kernel
theorem dX0_obeyWithByte_78 : decode cX0_obeyWithByte 78 = .ok (.invokevirtual 102, 3) := by decide +kernel
theorem dX0_obeyWithByte_81 : decode cX0_obeyWithByte 81 = .ok (.invokevirtual 178, 3) := by decide +kernel
theorem dX0_obeyWithByte_84 : decode cX0_obeyWithByte 84 = .ok (.ifCond .eq 55, 3) := by decide +kernel
theorem dX0_obeyWithByte_87 : decode cX0_obeyWithByte 87 = .ok (.aload_n 0, 1) := by decide +kernel
theorem dX0_obeyWithByte_88 : decode cX0_obeyWithByte 88 = .ok (.iload_n 1, 1) := by decide +kernel
theorem dX0_obeyWithByte_89 : decode cX0_obeyWithByte 89 = .ok (.iconst 4, 1) := by decide +kernel
theorem dX0_obeyWithByte_90 : decode cX0_obeyWithByte 90 = .ok (.idiv, 1) := by decide +kernel
theorem dX0_obeyWithByte_91 : decode cX0_obeyWithByte 91 = .ok (.bipush 8, 2) := by decide +kernel
theorem dX0_obeyWithByte_93 : decode cX0_obeyWithByte 93 = .ok (.irem, 1) := by decide +kernel
theorem dX0_obeyWithByte_94 : decode cX0_obeyWithByte 94 = .ok (.putfield 51, 3) := by decide +kernel
theorem dX0_obeyWithByte_97 : decode cX0_obeyWithByte 97 = .ok (.goto 42, 3) := by decide +kernel
theorem dX0_obeyWithByte_100 : decode cX0_obeyWithByte 100 = .ok (.aload_n 0, 1) := by decide +kernel
theorem dX0_obeyWithByte_101 : decode cX0_obeyWithByte 101 = .ok (.iload_n 2, 1) := by decide +kernel
theorem dX0_obeyWithByte_102 : decode cX0_obeyWithByte 102 = .ok (.invokevirtual 182, 3) := by decide +kernel
theorem dX0_obeyWithByte_105 : decode cX0_obeyWithByte 105 = .ok (.goto 34, 3) := by decide +kernel
theorem dX0_obeyWithByte_108 : decode cX0_obeyWithByte 108 = .ok (.iload_n 1, 1) := by decide +kernel
theorem dX0_obeyWithByte_109 : decode cX0_obeyWithByte 109 = .ok (.iconst 3, 1) := by decide +kernel
theorem dX0_obeyWithByte_110 : decode cX0_obeyWithByte 110 = .ok (.if_icmp .gt 29, 3) := by decide +kernel
theorem dX0_obeyWithByte_113 : decode cX0_obeyWithByte 113 = .ok (.aload_n 0, 1) := by decide +kernel
theorem dX0_obeyWithByte_114 : decode cX0_obeyWithByte 114 = .ok (.iload_n 1, 1) := by decide +kernel
theorem dX0_obeyWithByte_115 : decode cX0_obeyWithByte 115 = .ok (.putfield 47, 3) := by decide +kernel
theorem dX0_obeyWithByte_118 : decode cX0_obeyWithByte 118 = .ok (.goto 21, 3) := by decide +kernel
theorem dX0_obeyWithByte_121 : decode cX0_obeyWithByte 121 = .ok (.aload_n 0, 1) := by decide +kernel
theorem dX0_obeyWithByte_122 : decode cX0_obeyWithByte 122 = .ok (.iload_n 2, 1) := by decide +kernel
theorem dX0_obeyWithByte_123 : decode cX0_obeyWithByte 123 = .ok (.iconst 1, 1) := by decide +kernel
theorem dX0_obeyWithByte_124 : decode cX0_obeyWithByte 124 = .ok (.invokevirtual 185, 3) := by decide +kernel
theorem dX0_obeyWithByte_127 : decode cX0_obeyWithByte 127 = .ok (.goto 12, 3) := by decide +kernel
theorem dX0_obeyWithByte_130 : decode cX0_obeyWithByte 130 = .ok (.aload_n 0, 1) := by decide +kernel
theorem dX0_obeyWithByte_131 : decode cX0_obeyWithByte 131 = .ok (.iload_n 2, 1) := by decide +kernel
theorem dX0_obeyWithByte_132 : decode cX0_obeyWithByte 132 = .ok (.iconst 0, 1) := by decide +kernel
theorem dX0_obeyWithByte_133 : decode cX0_obeyWithByte 133 = .ok (.invokevirtual 185, 3) := by decide +kernel
theorem dX0_obeyWithByte_136 : decode cX0_obeyWithByte 136 = .ok (.goto 3, 3) := by decide +kernel
theorem dX0_obeyWithByte_139 : decode cX0_obeyWithByte 139 = .ok (.return_, 1) := by decide +kernel
theorem dX0_mayBegin_0 : decode cX0_mayBegin 0 = .ok (.aload_n 0, 1) := by decide +kernel
theorem dX0_mayBegin_1 : decode cX0_mayBegin 1 = .ok (.getfield 54, 3) := by decide +kernel
theorem dX0_mayBegin_4 : decode cX0_mayBegin 4 = .ok (.ifCond .ne 5, 3) := by decide +kernel
theorem dX0_mayBegin_7 : decode cX0_mayBegin 7 = .ok (.iconst 0, 1) := by decide +kernel
theorem dX0_mayBegin_8 : decode cX0_mayBegin 8 = .ok (.ireturn, 1) := by decide +kernel
theorem dX0_mayBegin_9 : decode cX0_mayBegin 9 = .ok (.aload_n 0, 1) := by decide +kernel
theorem dX0_mayBegin_10 : decode cX0_mayBegin 10 = .ok (.iconst 0, 1) := by decide +kernel
theorem dX0_mayBegin_11 : decode cX0_mayBegin 11 = .ok (.putfield 54, 3) := by decide +kernel
theorem dX0_mayBegin_14 : decode cX0_mayBegin 14 = .ok (.iload_n 1, 1) := by decide +kernel
theorem dX0_mayBegin_15 : decode cX0_mayBegin 15 = .ok (.ifCond .eq 8, 3) := by decide +kernel
theorem dX0_mayBegin_18 : decode cX0_mayBegin 18 = .ok (.aload_n 0, 1) := by decide +kernel
theorem dX0_mayBegin_19 : decode cX0_mayBegin 19 = .ok (.iconst 1, 1) := by decide +kernel
theorem dX0_mayBegin_20 : decode cX0_mayBegin 20 = .ok (.putfield 58, 3) := by decide +kernel
theorem dX0_mayBegin_23 : decode cX0_mayBegin 23 = .ok (.iload_n 1, 1) := by decide +kernel
theorem dX0_mayBegin_24 : decode cX0_mayBegin 24 = .ok (.ifCond .ne 7, 3) := by decide +kernel
theorem dX0_mayBegin_27 : decode cX0_mayBegin 27 = .ok (.iconst 1, 1) := by decide +kernel
theorem dX0_mayBegin_28 : decode cX0_mayBegin 28 = .ok (.goto 4, 3) := by decide +kernel
theorem dX0_mayBegin_31 : decode cX0_mayBegin 31 = .ok (.iconst 0, 1) := by decide +kernel
theorem dX0_mayBegin_32 : decode cX0_mayBegin 32 = .ok (.ireturn, 1) := by decide +kernel
theorem dX0_beginProgram_0 : decode cX0_beginProgram 0 = .ok (.iload_n 1, 1) := by decide +kernel
theorem dX0_beginProgram_1 : decode cX0_beginProgram 1 = .ok (.aload_n 0, 1) := by decide +kernel
theorem dX0_beginProgram_2 : decode cX0_beginProgram 2 = .ok (.getfield 12, 3) := by decide +kernel
theorem dX0_beginProgram_5 : decode cX0_beginProgram 5 = .ok (.invokevirtual 105, 3) := by decide +kernel
theorem dX0_beginProgram_8 : decode cX0_beginProgram 8 = .ok (.invokestatic 175, 3) := by decide +kernel
theorem dX0_beginProgram_11 : decode cX0_beginProgram 11 = .ok (.istore_n 2, 1) := by decide +kernel
theorem dX0_beginProgram_12 : decode cX0_beginProgram 12 = .ok (.aload_n 0, 1) := by decide +kernel
theorem dX0_beginProgram_13 : decode cX0_beginProgram 13 = .ok (.aload_n 0, 1) := by decide +kernel
theorem dX0_beginProgram_14 : decode cX0_beginProgram 14 = .ok (.iload_n 2, 1) := by decide +kernel
theorem dX0_beginProgram_15 : decode cX0_beginProgram 15 = .ok (.invokevirtual 189, 3) := by decide +kernel
theorem dX0_beginProgram_18 : decode cX0_beginProgram 18 = .ok (.ifCond .ne 11, 3) := by decide +kernel
theorem dX0_beginProgram_21 : decode cX0_beginProgram 21 = .ok (.aload_n 0, 1) := by decide +kernel
theorem dX0_beginProgram_22 : decode cX0_beginProgram 22 = .ok (.getfield 70, 3) := by decide +kernel
theorem dX0_beginProgram_25 : decode cX0_beginProgram 25 = .ok (.iload_n 2, 1) := by decide +kernel
theorem dX0_beginProgram_26 : decode cX0_beginProgram 26 = .ok (.if_icmp .ne 7, 3) := by decide +kernel
theorem dX0_beginProgram_29 : decode cX0_beginProgram 29 = .ok (.iconst 1, 1) := by decide +kernel
theorem dX0_beginProgram_30 : decode cX0_beginProgram 30 = .ok (.goto 4, 3) := by decide +kernel
theorem dX0_beginProgram_33 : decode cX0_beginProgram 33 = .ok (.iconst 0, 1) := by decide +kernel
theorem dX0_beginProgram_34 : decode cX0_beginProgram 34 = .ok (.invokevirtual 178, 3) := by decide +kernel
theorem dX0_beginProgram_37 : decode cX0_beginProgram 37 = .ok (.ifCond .ne 4, 3) := by decide +kernel
theorem dX0_beginProgram_40 : decode cX0_beginProgram 40 = .ok (.return_, 1) := by decide +kernel
theorem dX0_beginProgram_41 : decode cX0_beginProgram 41 = .ok (.iload_n 1, 1) := by decide +kernel
theorem dX0_beginProgram_42 : decode cX0_beginProgram 42 = .ok (.iload_n 1, 1) := by decide +kernel
theorem dX0_beginProgram_43 : decode cX0_beginProgram 43 = .ok (.aload_n 0, 1) := by decide +kernel
theorem dX0_beginProgram_44 : decode cX0_beginProgram 44 = .ok (.getfield 12, 3) := by decide +kernel
theorem dX0_beginProgram_47 : decode cX0_beginProgram 47 = .ok (.invokevirtual 126, 3) := by decide +kernel
theorem dX0_beginProgram_50 : decode cX0_beginProgram 50 = .ok (.invokestatic 145, 3) := by decide +kernel
theorem dX0_beginProgram_53 : decode cX0_beginProgram 53 = .ok (.isub, 1) := by decide +kernel
theorem dX0_beginProgram_54 : decode cX0_beginProgram 54 = .ok (.istore_n 3, 1) := by decide +kernel
theorem dX0_beginProgram_55 : decode cX0_beginProgram 55 = .ok (.iconst 0, 1) := by decide +kernel
theorem dX0_beginProgram_56 : decode cX0_beginProgram 56 = .ok (.istore 4, 2) := by decide +kernel
theorem dX0_beginProgram_58 : decode cX0_beginProgram 58 = .ok (.iload 4, 2) := by decide +kernel
theorem dX0_beginProgram_60 : decode cX0_beginProgram 60 = .ok (.aload_n 0, 1) := by decide +kernel
theorem dX0_beginProgram_61 : decode cX0_beginProgram 61 = .ok (.getfield 12, 3) := by decide +kernel
theorem dX0_beginProgram_64 : decode cX0_beginProgram 64 = .ok (.invokevirtual 126, 3) := by decide +kernel
theorem dX0_beginProgram_67 : decode cX0_beginProgram 67 = .ok (.if_icmp .ge 35, 3) := by decide +kernel
theorem dX0_beginProgram_70 : decode cX0_beginProgram 70 = .ok (.aload_n 0, 1) := by decide +kernel
theorem dX0_beginProgram_71 : decode cX0_beginProgram 71 = .ok (.iload_n 3, 1) := by decide +kernel
theorem dX0_beginProgram_72 : decode cX0_beginProgram 72 = .ok (.iload 4, 2) := by decide +kernel
theorem dX0_beginProgram_74 : decode cX0_beginProgram 74 = .ok (.iadd, 1) := by decide +kernel
theorem dX0_beginProgram_75 : decode cX0_beginProgram 75 = .ok (.aload_n 0, 1) := by decide +kernel
theorem dX0_beginProgram_76 : decode cX0_beginProgram 76 = .ok (.iload_n 3, 1) := by decide +kernel
theorem dX0_beginProgram_77 : decode cX0_beginProgram 77 = .ok (.iload 4, 2) := by decide +kernel
theorem dX0_beginProgram_79 : decode cX0_beginProgram 79 = .ok (.iadd, 1) := by decide +kernel
theorem dX0_beginProgram_80 : decode cX0_beginProgram 80 = .ok (.invokevirtual 108, 3) := by decide +kernel
theorem dX0_beginProgram_83 : decode cX0_beginProgram 83 = .ok (.aload_n 0, 1) := by decide +kernel
theorem dX0_beginProgram_84 : decode cX0_beginProgram 84 = .ok (.getfield 21, 3) := by decide +kernel
theorem dX0_beginProgram_87 : decode cX0_beginProgram 87 = .ok (.iload 4, 2) := by decide +kernel
theorem dX0_beginProgram_89 : decode cX0_beginProgram 89 = .ok (.invokevirtual 192, 3) := by decide +kernel
theorem dX0_beginProgram_92 : decode cX0_beginProgram 92 = .ok (.iand, 1) := by decide +kernel
theorem dX0_beginProgram_93 : decode cX0_beginProgram 93 = .ok (.invokevirtual 195, 3) := by decide +kernel
theorem dX0_beginProgram_96 : decode cX0_beginProgram 96 = .ok (.iinc 4 1, 3) := by decide +kernel
theorem dX0_beginProgram_99 : decode cX0_beginProgram 99 = .ok (.goto (-41), 3) := by decide +kernel
theorem dX0_beginProgram_102 : decode cX0_beginProgram 102 = .ok (.aload_n 0, 1) := by decide +kernel
theorem dX0_beginProgram_103 : decode cX0_beginProgram 103 = .ok (.iconst 2, 1) := by decide +kernel
theorem dX0_beginProgram_104 : decode cX0_beginProgram 104 = .ok (.iload_n 2, 1) := by decide +kernel
theorem dX0_beginProgram_105 : decode cX0_beginProgram 105 = .ok (.aload_n 0, 1) := by decide +kernel
theorem dX0_beginProgram_106 : decode cX0_beginProgram 106 = .ok (.getfield 12, 3) := by decide +kernel
theorem dX0_beginProgram_109 : decode cX0_beginProgram 109 = .ok (.invokevirtual 198, 3) := by decide +kernel
theorem dX0_beginProgram_112 : decode cX0_beginProgram 112 = .ok (.invokevirtual 201, 3) := by decide +kernel
theorem dX0_beginProgram_115 : decode cX0_beginProgram 115 = .ok (.return_, 1) := by decide +kernel
theorem dX0_beginErase_0 : decode cX0_beginErase 0 = .ok (.aload_n 0, 1) := by decide +kernel
theorem dX0_beginErase_1 : decode cX0_beginErase 1 = .ok (.aload_n 0, 1) := by decide +kernel
theorem dX0_beginErase_2 : decode cX0_beginErase 2 = .ok (.iload_n 1, 1) := by decide +kernel
theorem dX0_beginErase_3 : decode cX0_beginErase 3 = .ok (.invokevirtual 189, 3) := by decide +kernel
theorem dX0_beginErase_6 : decode cX0_beginErase 6 = .ok (.ifCond .ne 10, 3) := by decide +kernel
theorem dX0_beginErase_9 : decode cX0_beginErase 9 = .ok (.aload_n 0, 1) := by decide +kernel
theorem dX0_beginErase_10 : decode cX0_beginErase 10 = .ok (.invokevirtual 102, 3) := by decide +kernel
theorem dX0_beginErase_13 : decode cX0_beginErase 13 = .ok (.ifCond .eq 7, 3) := by decide +kernel
theorem dX0_beginErase_16 : decode cX0_beginErase 16 = .ok (.iconst 1, 1) := by decide +kernel
theorem dX0_beginErase_17 : decode cX0_beginErase 17 = .ok (.goto 4, 3) := by decide +kernel
theorem dX0_beginErase_20 : decode cX0_beginErase 20 = .ok (.iconst 0, 1) := by decide +kernel
theorem dX0_beginErase_21 : decode cX0_beginErase 21 = .ok (.invokevirtual 178, 3) := by decide +kernel
theorem dX0_beginErase_24 : decode cX0_beginErase 24 = .ok (.ifCond .eq 17, 3) := by decide +kernel
theorem dX0_beginErase_27 : decode cX0_beginErase 27 = .ok (.aload_n 0, 1) := by decide +kernel
theorem dX0_beginErase_28 : decode cX0_beginErase 28 = .ok (.bipush 32, 2) := by decide +kernel
theorem dX0_beginErase_30 : decode cX0_beginErase 30 = .ok (.iload_n 1, 1) := by decide +kernel
theorem dX0_beginErase_31 : decode cX0_beginErase 31 = .ok (.aload_n 0, 1) := by decide +kernel
theorem dX0_beginErase_32 : decode cX0_beginErase 32 = .ok (.getfield 12, 3) := by decide +kernel
theorem dX0_beginErase_35 : decode cX0_beginErase 35 = .ok (.invokevirtual 205, 3) := by decide +kernel
theorem dX0_beginErase_38 : decode cX0_beginErase 38 = .ok (.invokevirtual 201, 3) := by decide +kernel
theorem dX0_beginErase_41 : decode cX0_beginErase 41 = .ok (.return_, 1) := by decide +kernel
theorem dX0_beginAll_0 : decode cX0_beginAll 0 = .ok (.aload_n 0, 1) := by decide +kernel
theorem dX0_beginAll_1 : decode cX0_beginAll 1 = .ok (.aload_n 0, 1) := by decide +kernel
theorem dX0_beginAll_2 : decode cX0_beginAll 2 = .ok (.invokevirtual 208, 3) := by decide +kernel
theorem dX0_beginAll_5 : decode cX0_beginAll 5 = .ok (.ifCond .ne 10, 3) := by decide +kernel
theorem dX0_beginAll_8 : decode cX0_beginAll 8 = .ok (.aload_n 0, 1) := by decide +kernel
theorem dX0_beginAll_9 : decode cX0_beginAll 9 = .ok (.invokevirtual 102, 3) := by decide +kernel
theorem dX0_beginAll_12 : decode cX0_beginAll 12 = .ok (.ifCond .eq 7, 3) := by decide +kernel
theorem dX0_beginAll_15 : decode cX0_beginAll 15 = .ok (.iconst 1, 1) := by decide +kernel
theorem dX0_beginAll_16 : decode cX0_beginAll 16 = .ok (.goto 4, 3) := by decide +kernel
theorem dX0_beginAll_19 : decode cX0_beginAll 19 = .ok (.iconst 0, 1) := by decide +kernel
theorem dX0_beginAll_20 : decode cX0_beginAll 20 = .ok (.invokevirtual 178, 3) := by decide +kernel
theorem dX0_beginAll_23 : decode cX0_beginAll 23 = .ok (.ifCond .eq 26, 3) := by decide +kernel
theorem dX0_beginAll_26 : decode cX0_beginAll 26 = .ok (.aload_n 0, 1) := by decide +kernel
theorem dX0_beginAll_27 : decode cX0_beginAll 27 = .ok (.sipush 199, 3) := by decide +kernel
theorem dX0_beginAll_30 : decode cX0_beginAll 30 = .ok (.iconst (-1), 1) := by decide +kernel
theorem dX0_beginAll_31 : decode cX0_beginAll 31 = .ok (.aload_n 0, 1) := by decide +kernel
theorem dX0_beginAll_32 : decode cX0_beginAll 32 = .ok (.getfield 12, 3) := by decide +kernel
theorem dX0_beginAll_35 : decode cX0_beginAll 35 = .ok (.invokevirtual 205, 3) := by decide +kernel
theorem dX0_beginAll_38 : decode cX0_beginAll 38 = .ok (.aload_n 0, 1) := by decide +kernel
theorem dX0_beginAll_39 : decode cX0_beginAll 39 = .ok (.getfield 12, 3) := by decide +kernel
theorem dX0_beginAll_42 : decode cX0_beginAll 42 = .ok (.invokevirtual 117, 3) := by decide +kernel
theorem dX0_beginAll_45 : decode cX0_beginAll 45 = .ok (.imul, 1) := by decide +kernel
theorem dX0_beginAll_46 : decode cX0_beginAll 46 = .ok (.invokevirtual 201, 3) := by decide +kernel
theorem dX0_beginAll_49 : decode cX0_beginAll 49 = .ok (.return_, 1) := by decide +kernel
theorem dX0_begin_0 : decode cX0_begin 0 = .ok (.aload_n 0, 1) := by decide +kernel
theorem dX0_begin_1 : decode cX0_begin 1 = .ok (.iload_n 1, 1) := by decide +kernel
theorem dX0_begin_2 : decode cX0_begin 2 = .ok (.putfield 61, 3) := by decide +kernel
theorem dX0_begin_5 : decode cX0_begin 5 = .ok (.aload_n 0, 1) := by decide +kernel
theorem dX0_begin_6 : decode cX0_begin 6 = .ok (.iload_n 2, 1) := by decide +kernel
theorem dX0_begin_7 : decode cX0_begin 7 = .ok (.putfield 64, 3) := by decide +kernel
theorem dX0_begin_10 : decode cX0_begin 10 = .ok (.aload_n 0, 1) := by decide +kernel
theorem dX0_begin_11 : decode cX0_begin 11 = .ok (.iload_n 3, 1) := by decide +kernel
theorem dX0_begin_12 : decode cX0_begin 12 = .ok (.putfield 67, 3) := by decide +kernel
theorem dX0_begin_15 : decode cX0_begin 15 = .ok (.aload_n 0, 1) := by decide +kernel
theorem dX0_begin_16 : decode cX0_begin 16 = .ok (.dup, 1) := by decide +kernel
theorem dX0_begin_17 : decode cX0_begin 17 = .ok (.getfield 79, 3) := by decide +kernel
theorem dX0_begin_20 : decode cX0_begin 20 = .ok (.iconst 1, 1) := by decide +kernel
theorem dX0_begin_21 : decode cX0_begin 21 = .ok (.iadd, 1) := by decide +kernel
theorem dX0_begin_22 : decode cX0_begin 22 = .ok (.putfield 79, 3) := by decide +kernel
theorem dX0_begin_25 : decode cX0_begin 25 = .ok (.return_, 1) := by decide +kernel
theorem dX0_suspend_0 : decode cX0_suspend 0 = .ok (.aload_n 0, 1) := by decide +kernel
theorem dX0_suspend_1 : decode cX0_suspend 1 = .ok (.getfield 61, 3) := by decide +kernel
theorem dX0_suspend_4 : decode cX0_suspend 4 = .ok (.bipush 32, 2) := by decide +kernel
theorem dX0_suspend_6 : decode cX0_suspend 6 = .ok (.if_icmp .eq 4, 3) := by decide +kernel
theorem dX0_suspend_9 : decode cX0_suspend 9 = .ok (.return_, 1) := by decide +kernel
theorem dX0_suspend_10 : decode cX0_suspend 10 = .ok (.aload_n 0, 1) := by decide +kernel
theorem dX0_suspend_11 : decode cX0_suspend 11 = .ok (.aload_n 0, 1) := by decide +kernel
theorem dX0_suspend_12 : decode cX0_suspend 12 = .ok (.getfield 64, 3) := by decide +kernel
theorem dX0_suspend_15 : decode cX0_suspend 15 = .ok (.putfield 70, 3) := by decide +kernel
theorem dX0_suspend_18 : decode cX0_suspend 18 = .ok (.aload_n 0, 1) := by decide +kernel
theorem dX0_suspend_19 : decode cX0_suspend 19 = .ok (.aload_n 0, 1) := by decide +kernel
theorem dX0_suspend_20 : decode cX0_suspend 20 = .ok (.getfield 67, 3) := by decide +kernel
theorem dX0_suspend_23 : decode cX0_suspend 23 = .ok (.putfield 73, 3) := by decide +kernel
theorem dX0_suspend_26 : decode cX0_suspend 26 = .ok (.aload_n 0, 1) := by decide +kernel
theorem dX0_suspend_27 : decode cX0_suspend 27 = .ok (.invokevirtual 211, 3) := by decide +kernel
theorem dX0_suspend_30 : decode cX0_suspend 30 = .ok (.return_, 1) := by decide +kernel
theorem dX0_resume_0 : decode cX0_resume 0 = .ok (.aload_n 0, 1) := by decide +kernel
theorem dX0_resume_1 : decode cX0_resume 1 = .ok (.invokevirtual 102, 3) := by decide +kernel
theorem dX0_resume_4 : decode cX0_resume 4 = .ok (.ifCond .ne 4, 3) := by decide +kernel
theorem dX0_resume_7 : decode cX0_resume 7 = .ok (.return_, 1) := by decide +kernel
theorem dX0_resume_8 : decode cX0_resume 8 = .ok (.aload_n 0, 1) := by decide +kernel
theorem dX0_resume_9 : decode cX0_resume 9 = .ok (.bipush 32, 2) := by decide +kernel
theorem dX0_resume_11 : decode cX0_resume 11 = .ok (.putfield 61, 3) := by decide +kernel
theorem dX0_resume_14 : decode cX0_resume 14 = .ok (.aload_n 0, 1) := by decide +kernel
theorem dX0_resume_15 : decode cX0_resume 15 = .ok (.aload_n 0, 1) := by decide +kernel
theorem dX0_resume_16 : decode cX0_resume 16 = .ok (.getfield 70, 3) := by decide +kernel
theorem dX0_resume_19 : decode cX0_resume 19 = .ok (.putfield 64, 3) := by decide +kernel
theorem dX0_resume_22 : decode cX0_resume 22 = .ok (.aload_n 0, 1) := by decide +kernel
theorem dX0_resume_23 : decode cX0_resume 23 = .ok (.aload_n 0, 1) := by decide +kernel
theorem dX0_resume_24 : decode cX0_resume 24 = .ok (.getfield 73, 3) := by decide +kernel
theorem dX0_resume_27 : decode cX0_resume 27 = .ok (.putfield 67, 3) := by decide +kernel
theorem dX0_resume_30 : decode cX0_resume 30 = .ok (.aload_n 0, 1) := by decide +kernel
theorem dX0_resume_31 : decode cX0_resume 31 = .ok (.invokevirtual 214, 3) := by decide +kernel
theorem dX0_resume_34 : decode cX0_resume 34 = .ok (.return_, 1) := by decide +kernel
theorem dX0_fallIdle_0 : decode cX0_fallIdle 0 = .ok (.aload_n 0, 1) := by decide +kernel
theorem dX0_fallIdle_1 : decode cX0_fallIdle 1 = .ok (.iconst (-1), 1) := by decide +kernel
theorem dX0_fallIdle_2 : decode cX0_fallIdle 2 = .ok (.putfield 61, 3) := by decide +kernel
theorem dX0_fallIdle_5 : decode cX0_fallIdle 5 = .ok (.aload_n 0, 1) := by decide +kernel
theorem dX0_fallIdle_6 : decode cX0_fallIdle 6 = .ok (.iconst (-1), 1) := by decide +kernel
theorem dX0_fallIdle_7 : decode cX0_fallIdle 7 = .ok (.putfield 64, 3) := by decide +kernel
theorem dX0_fallIdle_10 : decode cX0_fallIdle 10 = .ok (.aload_n 0, 1) := by decide +kernel
theorem dX0_fallIdle_11 : decode cX0_fallIdle 11 = .ok (.iconst 0, 1) := by decide +kernel
theorem dX0_fallIdle_12 : decode cX0_fallIdle 12 = .ok (.putfield 67, 3) := by decide +kernel
theorem dX0_fallIdle_15 : decode cX0_fallIdle 15 = .ok (.return_, 1) := by decide +kernel
theorem dX0_dropSuspended_0 : decode cX0_dropSuspended 0 = .ok (.aload_n 0, 1) := by decide +kernel
theorem dX0_dropSuspended_1 : decode cX0_dropSuspended 1 = .ok (.iconst (-1), 1) := by decide +kernel
theorem dX0_dropSuspended_2 : decode cX0_dropSuspended 2 = .ok (.putfield 70, 3) := by decide +kernel
theorem dX0_dropSuspended_5 : decode cX0_dropSuspended 5 = .ok (.aload_n 0, 1) := by decide +kernel
theorem dX0_dropSuspended_6 : decode cX0_dropSuspended 6 = .ok (.iconst 0, 1) := by decide +kernel
theorem dX0_dropSuspended_7 : decode cX0_dropSuspended 7 = .ok (.putfield 73, 3) := by decide +kernel
theorem dX0_dropSuspended_10 : decode cX0_dropSuspended 10 = .ok (.return_, 1) := by decide +kernel
theorem dX0_putBack_0 : decode cX0_putBack 0 = .ok (.aload_n 0, 1) := by decide +kernel
theorem dX0_putBack_1 : decode cX0_putBack 1 = .ok (.iconst 0, 1) := by decide +kernel
theorem dX0_putBack_2 : decode cX0_putBack 2 = .ok (.putfield 47, 3) := by decide +kernel
theorem dX0_putBack_5 : decode cX0_putBack 5 = .ok (.aload_n 0, 1) := by decide +kernel
theorem dX0_putBack_6 : decode cX0_putBack 6 = .ok (.iconst 0, 1) := by decide +kernel
theorem dX0_putBack_7 : decode cX0_putBack 7 = .ok (.putfield 54, 3) := by decide +kernel
theorem dX0_putBack_10 : decode cX0_putBack 10 = .ok (.aload_n 0, 1) := by decide +kernel
theorem dX0_putBack_11 : decode cX0_putBack 11 = .ok (.iconst 0, 1) := by decide +kernel
theorem dX0_putBack_12 : decode cX0_putBack 12 = .ok (.putfield 58, 3) := by decide +kernel
theorem dX0_putBack_15 : decode cX0_putBack 15 = .ok (.aload_n 0, 1) := by decide +kernel
theorem dX0_putBack_16 : decode cX0_putBack 16 = .ok (.invokevirtual 214, 3) := by decide +kernel
theorem dX0_putBack_19 : decode cX0_putBack 19 = .ok (.return_, 1) := by decide +kernel
theorem dX0_passTick_0 : decode cX0_passTick 0 = .ok (.aload_n 0, 1) := by decide +kernel
theorem dX0_passTick_1 : decode cX0_passTick 1 = .ok (.dup, 1) := by decide +kernel
theorem dX0_passTick_2 : decode cX0_passTick 2 = .ok (.getfield 67, 3) := by decide +kernel
theorem dX0_passTick_5 : decode cX0_passTick 5 = .ok (.iconst 1, 1) := by decide +kernel
theorem dX0_passTick_6 : decode cX0_passTick 6 = .ok (.isub, 1) := by decide +kernel
theorem dX0_passTick_7 : decode cX0_passTick 7 = .ok (.putfield 67, 3) := by decide +kernel
theorem dX0_passTick_10 : decode cX0_passTick 10 = .ok (.aload_n 0, 1) := by decide +kernel
theorem dX0_passTick_11 : decode cX0_passTick 11 = .ok (.getfield 67, 3) := by decide +kernel
theorem dX0_passTick_14 : decode cX0_passTick 14 = .ok (.ifCond .le 4, 3) := by decide +kernel
theorem dX0_passTick_17 : decode cX0_passTick 17 = .ok (.return_, 1) := by decide +kernel
theorem dX0_passTick_18 : decode cX0_passTick 18 = .ok (.aload_n 0, 1) := by decide +kernel
theorem dX0_passTick_19 : decode cX0_passTick 19 = .ok (.getfield 61, 3) := by decide +kernel
theorem dX0_passTick_22 : decode cX0_passTick 22 = .ok (.bipush 32, 2) := by decide +kernel
theorem dX0_passTick_24 : decode cX0_passTick 24 = .ok (.if_icmp .ne 29, 3) := by decide +kernel
theorem dX0_passTick_27 : decode cX0_passTick 27 = .ok (.aload_n 0, 1) := by decide +kernel
theorem dX0_passTick_28 : decode cX0_passTick 28 = .ok (.aload_n 0, 1) := by decide +kernel
theorem dX0_passTick_29 : decode cX0_passTick 29 = .ok (.getfield 64, 3) := by decide +kernel
theorem dX0_passTick_32 : decode cX0_passTick 32 = .ok (.aload_n 0, 1) := by decide +kernel
theorem dX0_passTick_33 : decode cX0_passTick 33 = .ok (.getfield 12, 3) := by decide +kernel
theorem dX0_passTick_36 : decode cX0_passTick 36 = .ok (.invokevirtual 105, 3) := by decide +kernel
theorem dX0_passTick_39 : decode cX0_passTick 39 = .ok (.imul, 1) := by decide +kernel
theorem dX0_passTick_40 : decode cX0_passTick 40 = .ok (.aload_n 0, 1) := by decide +kernel
theorem dX0_passTick_41 : decode cX0_passTick 41 = .ok (.getfield 12, 3) := by decide +kernel
theorem dX0_passTick_44 : decode cX0_passTick 44 = .ok (.invokevirtual 105, 3) := by decide +kernel
theorem dX0_passTick_47 : decode cX0_passTick 47 = .ok (.invokevirtual 43, 3) := by decide +kernel
theorem dX0_passTick_50 : decode cX0_passTick 50 = .ok (.goto 22, 3) := by decide +kernel
theorem dX0_passTick_53 : decode cX0_passTick 53 = .ok (.aload_n 0, 1) := by decide +kernel
theorem dX0_passTick_54 : decode cX0_passTick 54 = .ok (.getfield 61, 3) := by decide +kernel
theorem dX0_passTick_57 : decode cX0_passTick 57 = .ok (.sipush 199, 3) := by decide +kernel
theorem dX0_passTick_60 : decode cX0_passTick 60 = .ok (.if_icmp .ne 12, 3) := by decide +kernel
theorem dX0_passTick_63 : decode cX0_passTick 63 = .ok (.aload_n 0, 1) := by decide +kernel
theorem dX0_passTick_64 : decode cX0_passTick 64 = .ok (.iconst 0, 1) := by decide +kernel
theorem dX0_passTick_65 : decode cX0_passTick 65 = .ok (.aload_n 0, 1) := by decide +kernel
theorem dX0_passTick_66 : decode cX0_passTick 66 = .ok (.invokevirtual 112, 3) := by decide +kernel
theorem dX0_passTick_69 : decode cX0_passTick 69 = .ok (.invokevirtual 43, 3) := by decide +kernel
theorem dX0_passTick_72 : decode cX0_passTick 72 = .ok (.aload_n 0, 1) := by decide +kernel
theorem dX0_passTick_73 : decode cX0_passTick 73 = .ok (.invokevirtual 211, 3) := by decide +kernel
theorem dX0_passTick_76 : decode cX0_passTick 76 = .ok (.return_, 1) := by decide +kernel
theorem dX0_eraseFrom_0 : decode cX0_eraseFrom 0 = .ok (.iconst 0, 1) := by decide +kernel
theorem dX0_eraseFrom_1 : decode cX0_eraseFrom 1 = .ok (.istore_n 3, 1) := by decide +kernel
theorem dX0_eraseFrom_2 : decode cX0_eraseFrom 2 = .ok (.iload_n 3, 1) := by decide +kernel
theorem dX0_eraseFrom_3 : decode cX0_eraseFrom 3 = .ok (.iload_n 2, 1) := by decide +kernel
theorem dX0_eraseFrom_4 : decode cX0_eraseFrom 4 = .ok (.if_icmp .ge 19, 3) := by decide +kernel
theorem dX0_eraseFrom_7 : decode cX0_eraseFrom 7 = .ok (.aload_n 0, 1) := by decide +kernel
theorem dX0_eraseFrom_8 : decode cX0_eraseFrom 8 = .ok (.iload_n 1, 1) := by decide +kernel
theorem dX0_eraseFrom_9 : decode cX0_eraseFrom 9 = .ok (.iload_n 3, 1) := by decide +kernel
theorem dX0_eraseFrom_10 : decode cX0_eraseFrom 10 = .ok (.iadd, 1) := by decide +kernel
theorem dX0_eraseFrom_11 : decode cX0_eraseFrom 11 = .ok (.sipush 255, 3) := by decide +kernel
theorem dX0_eraseFrom_14 : decode cX0_eraseFrom 14 = .ok (.invokevirtual 195, 3) := by decide +kernel
theorem dX0_eraseFrom_17 : decode cX0_eraseFrom 17 = .ok (.iinc 3 1, 3) := by decide +kernel
theorem dX0_eraseFrom_20 : decode cX0_eraseFrom 20 = .ok (.goto (-18), 3) := by decide +kernel
theorem dX0_eraseFrom_23 : decode cX0_eraseFrom 23 = .ok (.return_, 1) := by decide +kernel
theorem dX0_setByte_0 : decode cX0_setByte 0 = .ok (.iload_n 1, 1) := by decide +kernel
theorem dX0_setByte_1 : decode cX0_setByte 1 = .ok (.ifCond .lt 19, 3) := by decide +kernel
theorem dX0_setByte_4 : decode cX0_setByte 4 = .ok (.iload_n 1, 1) := by decide +kernel
theorem dX0_setByte_5 : decode cX0_setByte 5 = .ok (.aload_n 0, 1) := by decide +kernel
theorem dX0_setByte_6 : decode cX0_setByte 6 = .ok (.getfield 25, 3) := by decide +kernel
theorem dX0_setByte_9 : decode cX0_setByte 9 = .ok (.arraylength, 1) := by decide +kernel
theorem dX0_setByte_10 : decode cX0_setByte 10 = .ok (.if_icmp .ge 10, 3) := by decide +kernel
theorem dX0_setByte_13 : decode cX0_setByte 13 = .ok (.aload_n 0, 1) := by decide +kernel
theorem dX0_setByte_14 : decode cX0_setByte 14 = .ok (.getfield 25, 3) := by decide +kernel
theorem dX0_setByte_17 : decode cX0_setByte 17 = .ok (.iload_n 1, 1) := by decide +kernel
theorem dX0_setByte_18 : decode cX0_setByte 18 = .ok (.iload_n 2, 1) := by decide +kernel
theorem dX0_setByte_19 : decode cX0_setByte 19 = .ok (.iastore, 1) := by decide +kernel
theorem dX0_setByte_20 : decode cX0_setByte 20 = .ok (.return_, 1) := by decide +kernel
theorem dX0_setLocked_0 : decode cX0_setLocked 0 = .ok (.iload_n 1, 1) := by decide +kernel
theorem dX0_setLocked_1 : decode cX0_setLocked 1 = .ok (.ifCond .lt 19, 3) := by decide +kernel
theorem dX0_setLocked_4 : decode cX0_setLocked 4 = .ok (.iload_n 1, 1) := by decide +kernel
theorem dX0_setLocked_5 : decode cX0_setLocked 5 = .ok (.aload_n 0, 1) := by decide +kernel
theorem dX0_setLocked_6 : decode cX0_setLocked 6 = .ok (.getfield 29, 3) := by decide +kernel
theorem dX0_setLocked_9 : decode cX0_setLocked 9 = .ok (.arraylength, 1) := by decide +kernel
theorem dX0_setLocked_10 : decode cX0_setLocked 10 = .ok (.if_icmp .ge 10, 3) := by decide +kernel
theorem dX0_setLocked_13 : decode cX0_setLocked 13 = .ok (.aload_n 0, 1) := by decide +kernel
theorem dX0_setLocked_14 : decode cX0_setLocked 14 = .ok (.getfield 29, 3) := by decide +kernel
theorem dX0_setLocked_17 : decode cX0_setLocked 17 = .ok (.iload_n 1, 1) := by decide +kernel
theorem dX0_setLocked_18 : decode cX0_setLocked 18 = .ok (.iload_n 2, 1) := by decide +kernel
theorem dX0_setLocked_19 : decode cX0_setLocked 19 = .ok (.bastore, 1) := by decide +kernel
theorem dX0_setLocked_20 : decode cX0_setLocked 20 = .ok (.return_, 1) := by decide +kernel
theorem dX1_init_0 : decode cX1_init 0 = .ok (.aload_n 0, 1) := by decide +kernel
theorem dX1_init_1 : decode cX1_init 1 = .ok (.invokespecial 3, 3) := by decide +kernel
theorem dX1_init_4 : decode cX1_init 4 = .ok (.aload_n 0, 1) := by decide +kernel
theorem dX1_init_5 : decode cX1_init 5 = .ok (.invokevirtual 9, 3) := by decide +kernel
theorem dX1_init_8 : decode cX1_init 8 = .ok (.return_, 1) := by decide +kernel
theorem dX1_setUsual_0 : decode cX1_setUsual 0 = .ok (.aload_n 0, 1) := by decide +kernel
theorem dX1_setUsual_1 : decode cX1_setUsual 1 = .ok (.bipush 8, 2) := by decide +kernel
theorem dX1_setUsual_3 : decode cX1_setUsual 3 = .ok (.putfield 14, 3) := by decide +kernel
theorem dX1_setUsual_6 : decode cX1_setUsual 6 = .ok (.aload_n 0, 1) := by decide +kernel
theorem dX1_setUsual_7 : decode cX1_setUsual 7 = .ok (.iconst 4, 1) := by decide +kernel
theorem dX1_setUsual_8 : decode cX1_setUsual 8 = .ok (.putfield 18, 3) := by decide +kernel
theorem dX1_setUsual_11 : decode cX1_setUsual 11 = .ok (.aload_n 0, 1) := by decide +kernel
theorem dX1_setUsual_12 : decode cX1_setUsual 12 = .ok (.bipush 8, 2) := by decide +kernel
theorem dX1_setUsual_14 : decode cX1_setUsual 14 = .ok (.putfield 21, 3) := by decide +kernel
theorem dX1_setUsual_17 : decode cX1_setUsual 17 = .ok (.aload_n 0, 1) := by decide +kernel
theorem dX1_setUsual_18 : decode cX1_setUsual 18 = .ok (.iconst 2, 1) := by decide +kernel
theorem dX1_setUsual_19 : decode cX1_setUsual 19 = .ok (.putfield 24, 3) := by decide +kernel
theorem dX1_setUsual_22 : decode cX1_setUsual 22 = .ok (.aload_n 0, 1) := by decide +kernel
theorem dX1_setUsual_23 : decode cX1_setUsual 23 = .ok (.iconst 5, 1) := by decide +kernel
theorem dX1_setUsual_24 : decode cX1_setUsual 24 = .ok (.putfield 27, 3) := by decide +kernel
theorem dX1_setUsual_27 : decode cX1_setUsual 27 = .ok (.return_, 1) := by decide +kernel
theorem dX1_setParts_0 : decode cX1_setParts 0 = .ok (.iload_n 1, 1) := by decide +kernel
theorem dX1_setParts_1 : decode cX1_setParts 1 = .ok (.iconst 4, 1) := by decide +kernel
theorem dX1_setParts_2 : decode cX1_setParts 2 = .ok (.if_icmp .eq 15, 3) := by decide +kernel
theorem dX1_setParts_5 : decode cX1_setParts 5 = .ok (.iload_n 1, 1) := by decide +kernel
theorem dX1_setParts_6 : decode cX1_setParts 6 = .ok (.bipush 8, 2) := by decide +kernel
theorem dX1_setParts_8 : decode cX1_setParts 8 = .ok (.if_icmp .eq 9, 3) := by decide +kernel
theorem dX1_setParts_11 : decode cX1_setParts 11 = .ok (.iload_n 1, 1) := by decide +kernel
theorem dX1_setParts_12 : decode cX1_setParts 12 = .ok (.bipush 16, 2) := by decide +kernel
theorem dX1_setParts_14 : decode cX1_setParts 14 = .ok (.if_icmp .ne 7, 3) := by decide +kernel
theorem dX1_setParts_17 : decode cX1_setParts 17 = .ok (.iconst 1, 1) := by decide +kernel
theorem dX1_setParts_18 : decode cX1_setParts 18 = .ok (.goto 4, 3) := by decide +kernel
theorem dX1_setParts_21 : decode cX1_setParts 21 = .ok (.iconst 0, 1) := by decide +kernel
theorem dX1_setParts_22 : decode cX1_setParts 22 = .ok (.istore 4, 2) := by decide +kernel
theorem dX1_setParts_24 : decode cX1_setParts 24 = .ok (.iload_n 2, 1) := by decide +kernel
theorem dX1_setParts_25 : decode cX1_setParts 25 = .ok (.iconst 2, 1) := by decide +kernel
theorem dX1_setParts_26 : decode cX1_setParts 26 = .ok (.if_icmp .eq 14, 3) := by decide +kernel
theorem dX1_setParts_29 : decode cX1_setParts 29 = .ok (.iload_n 2, 1) := by decide +kernel
theorem dX1_setParts_30 : decode cX1_setParts 30 = .ok (.iconst 4, 1) := by decide +kernel
theorem dX1_setParts_31 : decode cX1_setParts 31 = .ok (.if_icmp .eq 9, 3) := by decide +kernel
theorem dX1_setParts_34 : decode cX1_setParts 34 = .ok (.iload_n 2, 1) := by decide +kernel
theorem dX1_setParts_35 : decode cX1_setParts 35 = .ok (.bipush 8, 2) := by decide +kernel
theorem dX1_setParts_37 : decode cX1_setParts 37 = .ok (.if_icmp .ne 7, 3) := by decide +kernel
theorem dX1_setParts_40 : decode cX1_setParts 40 = .ok (.iconst 1, 1) := by decide +kernel
theorem dX1_setParts_41 : decode cX1_setParts 41 = .ok (.goto 4, 3) := by decide +kernel
theorem dX1_setParts_44 : decode cX1_setParts 44 = .ok (.iconst 0, 1) := by decide +kernel
theorem dX1_setParts_45 : decode cX1_setParts 45 = .ok (.istore 5, 2) := by decide +kernel
theorem dX1_setParts_47 : decode cX1_setParts 47 = .ok (.iload_n 3, 1) := by decide +kernel
theorem dX1_setParts_48 : decode cX1_setParts 48 = .ok (.iconst 2, 1) := by decide +kernel
theorem dX1_setParts_49 : decode cX1_setParts 49 = .ok (.if_icmp .lt 13, 3) := by decide +kernel
theorem dX1_setParts_52 : decode cX1_setParts 52 = .ok (.iload_n 3, 1) := by decide +kernel
theorem dX1_setParts_53 : decode cX1_setParts 53 = .ok (.bipush 8, 2) := by decide +kernel
theorem dX1_setParts_55 : decode cX1_setParts 55 = .ok (.if_icmp .gt 7, 3) := by decide +kernel
theorem dX1_setParts_58 : decode cX1_setParts 58 = .ok (.iconst 1, 1) := by decide +kernel
theorem dX1_setParts_59 : decode cX1_setParts 59 = .ok (.goto 4, 3) := by decide +kernel
theorem dX1_setParts_62 : decode cX1_setParts 62 = .ok (.iconst 0, 1) := by decide +kernel
theorem dX1_setParts_63 : decode cX1_setParts 63 = .ok (.istore 6, 2) := by decide +kernel
theorem dX1_setParts_65 : decode cX1_setParts 65 = .ok (.iload 4, 2) := by decide +kernel
theorem dX1_setParts_67 : decode cX1_setParts 67 = .ok (.ifCond .eq 24, 3) := by decide +kernel
theorem dX1_setParts_70 : decode cX1_setParts 70 = .ok (.iload 5, 2) := by decide +kernel
theorem dX1_setParts_72 : decode cX1_setParts 72 = .ok (.ifCond .eq 19, 3) := by decide +kernel
theorem dX1_setParts_75 : decode cX1_setParts 75 = .ok (.iload 6, 2) := by decide +kernel
theorem dX1_setParts_77 : decode cX1_setParts 77 = .ok (.ifCond .eq 14, 3) := by decide +kernel
theorem dX1_setParts_80 : decode cX1_setParts 80 = .ok (.iload_n 1, 1) := by decide +kernel
theorem dX1_setParts_81 : decode cX1_setParts 81 = .ok (.iload_n 2, 1) := by decide +kernel
theorem dX1_setParts_82 : decode cX1_setParts 82 = .ok (.imul, 1) := by decide +kernel
theorem dX1_setParts_83 : decode cX1_setParts 83 = .ok (.iload_n 3, 1) := by decide +kernel
theorem dX1_setParts_84 : decode cX1_setParts 84 = .ok (.imul, 1) := by decide +kernel
theorem dX1_setParts_85 : decode cX1_setParts 85 = .ok (.sipush 256, 3) := by decide +kernel
theorem dX1_setParts_88 : decode cX1_setParts 88 = .ok (.if_icmp .le 5, 3) := by decide +kernel
theorem dX1_setParts_91 : decode cX1_setParts 91 = .ok (.iconst 0, 1) := by decide +kernel
theorem dX1_setParts_92 : decode cX1_setParts 92 = .ok (.ireturn, 1) := by decide +kernel
theorem dX1_setParts_93 : decode cX1_setParts 93 = .ok (.aload_n 0, 1) := by decide +kernel
theorem dX1_setParts_94 : decode cX1_setParts 94 = .ok (.iload_n 1, 1) := by decide +kernel
theorem dX1_setParts_95 : decode cX1_setParts 95 = .ok (.putfield 14, 3) := by decide +kernel
theorem dX1_setParts_98 : decode cX1_setParts 98 = .ok (.aload_n 0, 1) := by decide +kernel
theorem dX1_setParts_99 : decode cX1_setParts 99 = .ok (.iload_n 2, 1) := by decide +kernel
theorem dX1_setParts_100 : decode cX1_setParts 100 = .ok (.putfield 18, 3) := by decide +kernel
theorem dX1_setParts_103 : decode cX1_setParts 103 = .ok (.aload_n 0, 1) := by decide +kernel
theorem dX1_setParts_104 : decode cX1_setParts 104 = .ok (.iload_n 3, 1) := by decide +kernel
theorem dX1_setParts_105 : decode cX1_setParts 105 = .ok (.putfield 21, 3) := by decide +kernel
theorem dX1_setParts_108 : decode cX1_setParts 108 = .ok (.iconst 1, 1) := by decide +kernel
theorem dX1_setParts_109 : decode cX1_setParts 109 = .ok (.ireturn, 1) := by decide +kernel
theorem dX1_setTicks_0 : decode cX1_setTicks 0 = .ok (.iload_n 1, 1) := by decide +kernel
theorem dX1_setTicks_1 : decode cX1_setTicks 1 = .ok (.iconst 1, 1) := by decide +kernel
theorem dX1_setTicks_2 : decode cX1_setTicks 2 = .ok (.if_icmp .lt 20, 3) := by decide +kernel
theorem dX1_setTicks_5 : decode cX1_setTicks 5 = .ok (.iload_n 1, 1) := by decide +kernel
theorem dX1_setTicks_6 : decode cX1_setTicks 6 = .ok (.bipush 9, 2) := by decide +kernel
theorem dX1_setTicks_8 : decode cX1_setTicks 8 = .ok (.if_icmp .gt 14, 3) := by decide +kernel
theorem dX1_setTicks_11 : decode cX1_setTicks 11 = .ok (.iload_n 2, 1) := by decide +kernel
theorem dX1_setTicks_12 : decode cX1_setTicks 12 = .ok (.iconst 1, 1) := by decide +kernel
theorem dX1_setTicks_13 : decode cX1_setTicks 13 = .ok (.if_icmp .lt 9, 3) := by decide +kernel
theorem dX1_setTicks_16 : decode cX1_setTicks 16 = .ok (.iload_n 2, 1) := by decide +kernel
theorem dX1_setTicks_17 : decode cX1_setTicks 17 = .ok (.bipush 20, 2) := by decide +kernel
theorem dX1_setTicks_19 : decode cX1_setTicks 19 = .ok (.if_icmp .le 5, 3) := by decide +kernel
theorem dX1_setTicks_22 : decode cX1_setTicks 22 = .ok (.iconst 0, 1) := by decide +kernel
theorem dX1_setTicks_23 : decode cX1_setTicks 23 = .ok (.ireturn, 1) := by decide +kernel
theorem dX1_setTicks_24 : decode cX1_setTicks 24 = .ok (.aload_n 0, 1) := by decide +kernel
theorem dX1_setTicks_25 : decode cX1_setTicks 25 = .ok (.iload_n 1, 1) := by decide +kernel
theorem dX1_setTicks_26 : decode cX1_setTicks 26 = .ok (.putfield 24, 3) := by decide +kernel
theorem dX1_setTicks_29 : decode cX1_setTicks 29 = .ok (.aload_n 0, 1) := by decide +kernel
theorem dX1_setTicks_30 : decode cX1_setTicks 30 = .ok (.iload_n 2, 1) := by decide +kernel
theorem dX1_setTicks_31 : decode cX1_setTicks 31 = .ok (.putfield 27, 3) := by decide +kernel
theorem dX1_setTicks_34 : decode cX1_setTicks 34 = .ok (.iconst 1, 1) := by decide +kernel
theorem dX1_setTicks_35 : decode cX1_setTicks 35 = .ok (.ireturn, 1) := by decide +kernel
theorem dX1_copyFrom_0 : decode cX1_copyFrom 0 = .ok (.aload_n 0, 1) := by decide +kernel
theorem dX1_copyFrom_1 : decode cX1_copyFrom 1 = .ok (.aload_n 1, 1) := by decide +kernel
theorem dX1_copyFrom_2 : decode cX1_copyFrom 2 = .ok (.getfield 14, 3) := by decide +kernel
theorem dX1_copyFrom_5 : decode cX1_copyFrom 5 = .ok (.putfield 14, 3) := by decide +kernel
theorem dX1_copyFrom_8 : decode cX1_copyFrom 8 = .ok (.aload_n 0, 1) := by decide +kernel
theorem dX1_copyFrom_9 : decode cX1_copyFrom 9 = .ok (.aload_n 1, 1) := by decide +kernel
theorem dX1_copyFrom_10 : decode cX1_copyFrom 10 = .ok (.getfield 18, 3) := by decide +kernel
theorem dX1_copyFrom_13 : decode cX1_copyFrom 13 = .ok (.putfield 18, 3) := by decide +kernel
theorem dX1_copyFrom_16 : decode cX1_copyFrom 16 = .ok (.aload_n 0, 1) := by decide +kernel
theorem dX1_copyFrom_17 : decode cX1_copyFrom 17 = .ok (.aload_n 1, 1) := by decide +kernel
theorem dX1_copyFrom_18 : decode cX1_copyFrom 18 = .ok (.getfield 21, 3) := by decide +kernel
theorem dX1_copyFrom_21 : decode cX1_copyFrom 21 = .ok (.putfield 21, 3) := by decide +kernel
theorem dX1_copyFrom_24 : decode cX1_copyFrom 24 = .ok (.aload_n 0, 1) := by decide +kernel
theorem dX1_copyFrom_25 : decode cX1_copyFrom 25 = .ok (.aload_n 1, 1) := by decide +kernel
theorem dX1_copyFrom_26 : decode cX1_copyFrom 26 = .ok (.getfield 24, 3) := by decide +kernel
theorem dX1_copyFrom_29 : decode cX1_copyFrom 29 = .ok (.putfield 24, 3) := by decide +kernel
theorem dX1_copyFrom_32 : decode cX1_copyFrom 32 = .ok (.aload_n 0, 1) := by decide +kernel
theorem dX1_copyFrom_33 : decode cX1_copyFrom 33 = .ok (.aload_n 1, 1) := by decide +kernel
theorem dX1_copyFrom_34 : decode cX1_copyFrom 34 = .ok (.getfield 27, 3) := by decide +kernel
theorem dX1_copyFrom_37 : decode cX1_copyFrom 37 = .ok (.putfield 27, 3) := by decide +kernel
theorem dX1_copyFrom_40 : decode cX1_copyFrom 40 = .ok (.return_, 1) := by decide +kernel
theorem dX1_pageBytes_0 : decode cX1_pageBytes 0 = .ok (.aload_n 0, 1) := by decide +kernel
theorem dX1_pageBytes_1 : decode cX1_pageBytes 1 = .ok (.getfield 14, 3) := by decide +kernel
theorem dX1_pageBytes_4 : decode cX1_pageBytes 4 = .ok (.ireturn, 1) := by decide +kernel
theorem dX1_sectorPages_0 : decode cX1_sectorPages 0 = .ok (.aload_n 0, 1) := by decide +kernel
theorem dX1_sectorPages_1 : decode cX1_sectorPages 1 = .ok (.getfield 18, 3) := by decide +kernel
theorem dX1_sectorPages_4 : decode cX1_sectorPages 4 = .ok (.ireturn, 1) := by decide +kernel
theorem dX1_sectors_0 : decode cX1_sectors 0 = .ok (.aload_n 0, 1) := by decide +kernel
theorem dX1_sectors_1 : decode cX1_sectors 1 = .ok (.getfield 21, 3) := by decide +kernel
theorem dX1_sectors_4 : decode cX1_sectors 4 = .ok (.ireturn, 1) := by decide +kernel
theorem dX1_programTicks_0 : decode cX1_programTicks 0 = .ok (.aload_n 0, 1) := by decide +kernel
theorem dX1_programTicks_1 : decode cX1_programTicks 1 = .ok (.getfield 24, 3) := by decide +kernel
theorem dX1_programTicks_4 : decode cX1_programTicks 4 = .ok (.ireturn, 1) := by decide +kernel
theorem dX1_eraseTicks_0 : decode cX1_eraseTicks 0 = .ok (.aload_n 0, 1) := by decide +kernel
theorem dX1_eraseTicks_1 : decode cX1_eraseTicks 1 = .ok (.getfield 27, 3) := by decide +kernel
theorem dX1_eraseTicks_4 : decode cX1_eraseTicks 4 = .ok (.ireturn, 1) := by decide +kernel
theorem dX1_sectorBytes_0 : decode cX1_sectorBytes 0 = .ok (.aload_n 0, 1) := by decide +kernel
theorem dX1_sectorBytes_1 : decode cX1_sectorBytes 1 = .ok (.getfield 14, 3) := by decide +kernel
theorem dX1_sectorBytes_4 : decode cX1_sectorBytes 4 = .ok (.aload_n 0, 1) := by decide +kernel
theorem dX1_sectorBytes_5 : decode cX1_sectorBytes 5 = .ok (.getfield 18, 3) := by decide +kernel
theorem dX1_sectorBytes_8 : decode cX1_sectorBytes 8 = .ok (.imul, 1) := by decide +kernel
theorem dX1_sectorBytes_9 : decode cX1_sectorBytes 9 = .ok (.ireturn, 1) := by decide +kernel
theorem dX1_all_0 : decode cX1_all 0 = .ok (.aload_n 0, 1) := by decide +kernel
theorem dX1_all_1 : decode cX1_all 1 = .ok (.getfield 14, 3) := by decide +kernel
theorem dX1_all_4 : decode cX1_all 4 = .ok (.aload_n 0, 1) := by decide +kernel
theorem dX1_all_5 : decode cX1_all 5 = .ok (.getfield 18, 3) := by decide +kernel
theorem dX1_all_8 : decode cX1_all 8 = .ok (.imul, 1) := by decide +kernel
theorem dX1_all_9 : decode cX1_all 9 = .ok (.aload_n 0, 1) := by decide +kernel
theorem dX1_all_10 : decode cX1_all 10 = .ok (.getfield 21, 3) := by decide +kernel
theorem dX1_all_13 : decode cX1_all 13 = .ok (.imul, 1) := by decide +kernel
theorem dX1_all_14 : decode cX1_all 14 = .ok (.ireturn, 1) := by decide +kernel
theorem dX1_together_0 : decode cX1_together 0 = .ok (.aload_n 0, 1) := by decide +kernel
theorem dX1_together_1 : decode cX1_together 1 = .ok (.getfield 14, 3) := by decide +kernel
theorem dX1_together_4 : decode cX1_together 4 = .ok (.aload_n 0, 1) := by decide +kernel
theorem dX1_together_5 : decode cX1_together 5 = .ok (.getfield 18, 3) := by decide +kernel
theorem dX1_together_8 : decode cX1_together 8 = .ok (.iadd, 1) := by decide +kernel
theorem dX1_together_9 : decode cX1_together 9 = .ok (.aload_n 0, 1) := by decide +kernel
theorem dX1_together_10 : decode cX1_together 10 = .ok (.getfield 21, 3) := by decide +kernel
theorem dX1_together_13 : decode cX1_together 13 = .ok (.iadd, 1) := by decide +kernel
theorem dX1_together_14 : decode cX1_together 14 = .ok (.aload_n 0, 1) := by decide +kernel
theorem dX1_together_15 : decode cX1_together 15 = .ok (.getfield 24, 3) := by decide +kernel
theorem dX1_together_18 : decode cX1_together 18 = .ok (.iadd, 1) := by decide +kernel
theorem dX1_together_19 : decode cX1_together 19 = .ok (.aload_n 0, 1) := by decide +kernel
theorem dX1_together_20 : decode cX1_together 20 = .ok (.getfield 27, 3) := by decide +kernel
theorem dX1_together_23 : decode cX1_together 23 = .ok (.iadd, 1) := by decide +kernel
theorem dX1_together_24 : decode cX1_together 24 = .ok (.ireturn, 1) := by decide +kernel
theorem dX1_tableByte_0 : decode cX1_tableByte 0 = .ok (.iload_n 1, 1) := by decide +kernel
theorem dX1_tableByte_1 : decode cX1_tableByte 1 = .ok (.tableswitch 91 0 7 #[47, 50, 53, 58, 63, 68, 73, 78], 47) := by decide +kernel
theorem dX1_tableByte_48 : decode cX1_tableByte 48 = .ok (.bipush 83, 2) := by decide +kernel
theorem dX1_tableByte_50 : decode cX1_tableByte 50 = .ok (.ireturn, 1) := by decide +kernel
theorem dX1_tableByte_51 : decode cX1_tableByte 51 = .ok (.bipush 70, 2) := by decide +kernel
theorem dX1_tableByte_53 : decode cX1_tableByte 53 = .ok (.ireturn, 1) := by decide +kernel
theorem dX1_tableByte_54 : decode cX1_tableByte 54 = .ok (.aload_n 0, 1) := by decide +kernel
theorem dX1_tableByte_55 : decode cX1_tableByte 55 = .ok (.getfield 14, 3) := by decide +kernel
theorem dX1_tableByte_58 : decode cX1_tableByte 58 = .ok (.ireturn, 1) := by decide +kernel
theorem dX1_tableByte_59 : decode cX1_tableByte 59 = .ok (.aload_n 0, 1) := by decide +kernel
theorem dX1_tableByte_60 : decode cX1_tableByte 60 = .ok (.getfield 18, 3) := by decide +kernel
theorem dX1_tableByte_63 : decode cX1_tableByte 63 = .ok (.ireturn, 1) := by decide +kernel
theorem dX1_tableByte_64 : decode cX1_tableByte 64 = .ok (.aload_n 0, 1) := by decide +kernel
theorem dX1_tableByte_65 : decode cX1_tableByte 65 = .ok (.getfield 21, 3) := by decide +kernel
theorem dX1_tableByte_68 : decode cX1_tableByte 68 = .ok (.ireturn, 1) := by decide +kernel
theorem dX1_tableByte_69 : decode cX1_tableByte 69 = .ok (.aload_n 0, 1) := by decide +kernel
theorem dX1_tableByte_70 : decode cX1_tableByte 70 = .ok (.getfield 24, 3) := by decide +kernel
theorem dX1_tableByte_73 : decode cX1_tableByte 73 = .ok (.ireturn, 1) := by decide +kernel
theorem dX1_tableByte_74 : decode cX1_tableByte 74 = .ok (.aload_n 0, 1) := by decide +kernel
theorem dX1_tableByte_75 : decode cX1_tableByte 75 = .ok (.getfield 27, 3) := by decide +kernel
theorem dX1_tableByte_78 : decode cX1_tableByte 78 = .ok (.ireturn, 1) := by decide +kernel
theorem dX1_tableByte_79 : decode cX1_tableByte 79 = .ok (.sipush 153, 3) := by decide +kernel
theorem dX1_tableByte_82 : decode cX1_tableByte 82 = .ok (.aload_n 0, 1) := by decide +kernel
theorem dX1_tableByte_83 : decode cX1_tableByte 83 = .ok (.invokevirtual 30, 3) := by decide +kernel
theorem dX1_tableByte_86 : decode cX1_tableByte 86 = .ok (.iadd, 1) := by decide +kernel
theorem dX1_tableByte_87 : decode cX1_tableByte 87 = .ok (.sipush 255, 3) := by decide +kernel
theorem dX1_tableByte_90 : decode cX1_tableByte 90 = .ok (.iand, 1) := by decide +kernel
theorem dX1_tableByte_91 : decode cX1_tableByte 91 = .ok (.ireturn, 1) := by decide +kernel
theorem dX1_tableByte_92 : decode cX1_tableByte 92 = .ok (.sipush 255, 3) := by decide +kernel
theorem dX1_tableByte_95 : decode cX1_tableByte 95 = .ok (.ireturn, 1) := by decide +kernel
theorem dX2_init_0 : decode cX2_init 0 = .ok (.aload_n 0, 1) := by decide +kernel
theorem dX2_init_1 : decode cX2_init 1 = .ok (.invokespecial 3, 3) := by decide +kernel
theorem dX2_init_4 : decode cX2_init 4 = .ok (.aload_n 0, 1) := by decide +kernel
theorem dX2_init_5 : decode cX2_init 5 = .ok (.sipush 200, 3) := by decide +kernel
theorem dX2_init_8 : decode cX2_init 8 = .ok (.newarray .int, 2) := by decide +kernel
theorem dX2_init_10 : decode cX2_init 10 = .ok (.putfield 9, 3) := by decide +kernel
theorem dX2_init_13 : decode cX2_init 13 = .ok (.aload_n 0, 1) := by decide +kernel
theorem dX2_init_14 : decode cX2_init 14 = .ok (.iconst 0, 1) := by decide +kernel
theorem dX2_init_15 : decode cX2_init 15 = .ok (.putfield 15, 3) := by decide +kernel
theorem dX2_init_18 : decode cX2_init 18 = .ok (.aload_n 0, 1) := by decide +kernel
theorem dX2_init_19 : decode cX2_init 19 = .ok (.new 19, 3) := by decide +kernel
theorem dX2_init_22 : decode cX2_init 22 = .ok (.dup, 1) := by decide +kernel
theorem dX2_init_23 : decode cX2_init 23 = .ok (.invokespecial 21, 3) := by decide +kernel
theorem dX2_init_26 : decode cX2_init 26 = .ok (.putfield 22, 3) := by decide +kernel
theorem dX2_init_29 : decode cX2_init 29 = .ok (.aload_n 0, 1) := by decide +kernel
theorem dX2_init_30 : decode cX2_init 30 = .ok (.iconst 0, 1) := by decide +kernel
theorem dX2_init_31 : decode cX2_init 31 = .ok (.putfield 26, 3) := by decide +kernel
theorem dX2_init_34 : decode cX2_init 34 = .ok (.aload_n 0, 1) := by decide +kernel
theorem dX2_init_35 : decode cX2_init 35 = .ok (.iconst 0, 1) := by decide +kernel
theorem dX2_init_36 : decode cX2_init 36 = .ok (.putfield 29, 3) := by decide +kernel
theorem dX2_init_39 : decode cX2_init 39 = .ok (.aload_n 0, 1) := by decide +kernel
theorem dX2_init_40 : decode cX2_init 40 = .ok (.bipush (-4), 2) := by decide +kernel
theorem dX2_init_42 : decode cX2_init 42 = .ok (.putfield 33, 3) := by decide +kernel
theorem dX2_init_45 : decode cX2_init 45 = .ok (.return_, 1) := by decide +kernel
theorem dX2_length_0 : decode cX2_length 0 = .ok (.aload_n 0, 1) := by decide +kernel
theorem dX2_length_1 : decode cX2_length 1 = .ok (.getfield 15, 3) := by decide +kernel
theorem dX2_length_4 : decode cX2_length 4 = .ok (.ireturn, 1) := by decide +kernel
theorem dX2_clear_0 : decode cX2_clear 0 = .ok (.aload_n 0, 1) := by decide +kernel
theorem dX2_clear_1 : decode cX2_clear 1 = .ok (.iconst 0, 1) := by decide +kernel
theorem dX2_clear_2 : decode cX2_clear 2 = .ok (.putfield 15, 3) := by decide +kernel
theorem dX2_clear_5 : decode cX2_clear 5 = .ok (.return_, 1) := by decide +kernel
theorem dX2_append_0 : decode cX2_append 0 = .ok (.aload_n 0, 1) := by decide +kernel
theorem dX2_append_1 : decode cX2_append 1 = .ok (.getfield 15, 3) := by decide +kernel
theorem dX2_append_4 : decode cX2_append 4 = .ok (.ifCond .lt 15, 3) := by decide +kernel
theorem dX2_append_7 : decode cX2_append 7 = .ok (.aload_n 0, 1) := by decide +kernel
theorem dX2_append_8 : decode cX2_append 8 = .ok (.getfield 15, 3) := by decide +kernel
theorem dX2_append_11 : decode cX2_append 11 = .ok (.aload_n 0, 1) := by decide +kernel
theorem dX2_append_12 : decode cX2_append 12 = .ok (.getfield 9, 3) := by decide +kernel
theorem dX2_append_15 : decode cX2_append 15 = .ok (.arraylength, 1) := by decide +kernel
theorem dX2_append_16 : decode cX2_append 16 = .ok (.if_icmp .lt 5, 3) := by decide +kernel
theorem dX2_append_19 : decode cX2_append 19 = .ok (.iconst 0, 1) := by decide +kernel
theorem dX2_append_20 : decode cX2_append 20 = .ok (.ireturn, 1) := by decide +kernel
theorem dX2_append_21 : decode cX2_append 21 = .ok (.aload_n 0, 1) := by decide +kernel
theorem dX2_append_22 : decode cX2_append 22 = .ok (.getfield 9, 3) := by decide +kernel
theorem dX2_append_25 : decode cX2_append 25 = .ok (.aload_n 0, 1) := by decide +kernel
theorem dX2_append_26 : decode cX2_append 26 = .ok (.getfield 15, 3) := by decide +kernel
theorem dX2_append_29 : decode cX2_append 29 = .ok (.iload_n 1, 1) := by decide +kernel
theorem dX2_append_30 : decode cX2_append 30 = .ok (.iastore, 1) := by decide +kernel
theorem dX2_append_31 : decode cX2_append 31 = .ok (.aload_n 0, 1) := by decide +kernel
theorem dX2_append_32 : decode cX2_append 32 = .ok (.dup, 1) := by decide +kernel
theorem dX2_append_33 : decode cX2_append 33 = .ok (.getfield 15, 3) := by decide +kernel
theorem dX2_append_36 : decode cX2_append 36 = .ok (.iconst 1, 1) := by decide +kernel
theorem dX2_append_37 : decode cX2_append 37 = .ok (.iadd, 1) := by decide +kernel
theorem dX2_append_38 : decode cX2_append 38 = .ok (.putfield 15, 3) := by decide +kernel
theorem dX2_append_41 : decode cX2_append 41 = .ok (.iconst 1, 1) := by decide +kernel
theorem dX2_append_42 : decode cX2_append 42 = .ok (.ireturn, 1) := by decide +kernel
theorem dX2_faultPlace_0 : decode cX2_faultPlace 0 = .ok (.aload_n 0, 1) := by decide +kernel
theorem dX2_faultPlace_1 : decode cX2_faultPlace 1 = .ok (.getfield 33, 3) := by decide +kernel
theorem dX2_faultPlace_4 : decode cX2_faultPlace 4 = .ok (.ireturn, 1) := by decide +kernel
theorem dX2_isChecked_0 : decode cX2_isChecked 0 = .ok (.aload_n 0, 1) := by decide +kernel
theorem dX2_isChecked_1 : decode cX2_isChecked 1 = .ok (.getfield 29, 3) := by decide +kernel
theorem dX2_isChecked_4 : decode cX2_isChecked 4 = .ok (.ifCond .eq 16, 3) := by decide +kernel
theorem dX2_isChecked_7 : decode cX2_isChecked 7 = .ok (.aload_n 0, 1) := by decide +kernel
theorem dX2_isChecked_8 : decode cX2_isChecked 8 = .ok (.getfield 33, 3) := by decide +kernel
theorem dX2_isChecked_11 : decode cX2_isChecked 11 = .ok (.bipush (-4), 2) := by decide +kernel
theorem dX2_isChecked_13 : decode cX2_isChecked 13 = .ok (.if_icmp .ne 7, 3) := by decide +kernel
theorem dX2_isChecked_16 : decode cX2_isChecked 16 = .ok (.iconst 1, 1) := by decide +kernel
theorem dX2_isChecked_17 : decode cX2_isChecked 17 = .ok (.goto 4, 3) := by decide +kernel
theorem dX2_isChecked_20 : decode cX2_isChecked 20 = .ok (.iconst 0, 1) := by decide +kernel
theorem dX2_isChecked_21 : decode cX2_isChecked 21 = .ok (.ireturn, 1) := by decide +kernel
theorem dX2_told_0 : decode cX2_told 0 = .ok (.aload_n 0, 1) := by decide +kernel
theorem dX2_told_1 : decode cX2_told 1 = .ok (.getfield 22, 3) := by decide +kernel
theorem dX2_told_4 : decode cX2_told 4 = .ok (.areturn, 1) := by decide +kernel
theorem dX2_examine_0 : decode cX2_examine 0 = .ok (.aload_n 0, 1) := by decide +kernel
theorem dX2_examine_1 : decode cX2_examine 1 = .ok (.getfield 22, 3) := by decide +kernel
theorem dX2_examine_4 : decode cX2_examine 4 = .ok (.invokevirtual 36, 3) := by decide +kernel
theorem dX2_examine_7 : decode cX2_examine 7 = .ok (.aload_n 0, 1) := by decide +kernel
theorem dX2_examine_8 : decode cX2_examine 8 = .ok (.iconst 0, 1) := by decide +kernel
theorem dX2_examine_9 : decode cX2_examine 9 = .ok (.putfield 26, 3) := by decide +kernel
theorem dX2_examine_12 : decode cX2_examine 12 = .ok (.aload_n 0, 1) := by decide +kernel
theorem dX2_examine_13 : decode cX2_examine 13 = .ok (.iconst 0, 1) := by decide +kernel
theorem dX2_examine_14 : decode cX2_examine 14 = .ok (.putfield 29, 3) := by decide +kernel
theorem dX2_examine_17 : decode cX2_examine 17 = .ok (.aload_n 0, 1) := by decide +kernel
theorem dX2_examine_18 : decode cX2_examine 18 = .ok (.bipush (-4), 2) := by decide +kernel
theorem dX2_examine_20 : decode cX2_examine 20 = .ok (.putfield 33, 3) := by decide +kernel
theorem dX2_examine_23 : decode cX2_examine 23 = .ok (.iconst 0, 1) := by decide +kernel
theorem dX2_examine_24 : decode cX2_examine 24 = .ok (.istore_n 1, 1) := by decide +kernel
theorem dX2_examine_25 : decode cX2_examine 25 = .ok (.iload_n 1, 1) := by decide +kernel
theorem dX2_examine_26 : decode cX2_examine 26 = .ok (.sipush 200, 3) := by decide +kernel
theorem dX2_examine_29 : decode cX2_examine 29 = .ok (.if_icmp .ge 45, 3) := by decide +kernel
theorem dX2_examine_32 : decode cX2_examine 32 = .ok (.aload_n 0, 1) := by decide +kernel
theorem dX2_examine_33 : decode cX2_examine 33 = .ok (.getfield 26, 3) := by decide +kernel
theorem dX2_examine_36 : decode cX2_examine 36 = .ok (.aload_n 0, 1) := by decide +kernel
theorem dX2_examine_37 : decode cX2_examine 37 = .ok (.getfield 15, 3) := by decide +kernel
theorem dX2_examine_40 : decode cX2_examine 40 = .ok (.if_icmp .ge 34, 3) := by decide +kernel
theorem dX2_examine_43 : decode cX2_examine 43 = .ok (.aload_n 0, 1) := by decide +kernel
theorem dX2_examine_44 : decode cX2_examine 44 = .ok (.getfield 26, 3) := by decide +kernel
theorem dX2_examine_47 : decode cX2_examine 47 = .ok (.istore_n 2, 1) := by decide +kernel
theorem dX2_examine_48 : decode cX2_examine 48 = .ok (.aload_n 0, 1) := by decide +kernel
theorem dX2_examine_49 : decode cX2_examine 49 = .ok (.getfield 29, 3) := by decide +kernel
theorem dX2_examine_52 : decode cX2_examine 52 = .ok (.ifCond .ne 10, 3) := by decide +kernel
theorem dX2_examine_55 : decode cX2_examine 55 = .ok (.aload_n 0, 1) := by decide +kernel
theorem dX2_examine_56 : decode cX2_examine 56 = .ok (.invokevirtual 39, 3) := by decide +kernel
theorem dX2_examine_59 : decode cX2_examine 59 = .ok (.ifCond .ne 9, 3) := by decide +kernel
theorem dX2_examine_62 : decode cX2_examine 62 = .ok (.aload_n 0, 1) := by decide +kernel
theorem dX2_examine_63 : decode cX2_examine 63 = .ok (.iload_n 2, 1) := by decide +kernel
theorem dX2_examine_64 : decode cX2_examine 64 = .ok (.putfield 33, 3) := by decide +kernel
theorem dX2_examine_67 : decode cX2_examine 67 = .ok (.return_, 1) := by decide +kernel
theorem dX2_examine_68 : decode cX2_examine 68 = .ok (.iinc 1 1, 3) := by decide +kernel
theorem dX2_examine_71 : decode cX2_examine 71 = .ok (.goto (-46), 3) := by decide +kernel
theorem dX2_examine_74 : decode cX2_examine 74 = .ok (.return_, 1) := by decide +kernel
theorem dX2_readItem_0 : decode cX2_readItem 0 = .ok (.aload_n 0, 1) := by decide +kernel
theorem dX2_readItem_1 : decode cX2_readItem 1 = .ok (.invokevirtual 43, 3) := by decide +kernel
theorem dX2_readItem_4 : decode cX2_readItem 4 = .ok (.lookupswitch 81 #[(99, 66), (103, 36), (116, 51)], 36) := by decide +kernel
theorem dX2_readItem_40 : decode cX2_readItem 40 = .ok (.aload_n 0, 1) := by decide +kernel
theorem dX2_readItem_41 : decode cX2_readItem 41 = .ok (.dup, 1) := by decide +kernel
theorem dX2_readItem_42 : decode cX2_readItem 42 = .ok (.getfield 26, 3) := by decide +kernel
theorem dX2_readItem_45 : decode cX2_readItem 45 = .ok (.iconst 1, 1) := by decide +kernel
theorem dX2_readItem_46 : decode cX2_readItem 46 = .ok (.iadd, 1) := by decide +kernel
theorem dX2_readItem_47 : decode cX2_readItem 47 = .ok (.putfield 26, 3) := by decide +kernel
theorem dX2_readItem_50 : decode cX2_readItem 50 = .ok (.aload_n 0, 1) := by decide +kernel
theorem dX2_readItem_51 : decode cX2_readItem 51 = .ok (.invokevirtual 47, 3) := by decide +kernel
theorem dX2_readItem_54 : decode cX2_readItem 54 = .ok (.ireturn, 1) := by decide +kernel
theorem dX2_readItem_55 : decode cX2_readItem 55 = .ok (.aload_n 0, 1) := by decide +kernel
theorem dX2_readItem_56 : decode cX2_readItem 56 = .ok (.dup, 1) := by decide +kernel
theorem dX2_readItem_57 : decode cX2_readItem 57 = .ok (.getfield 26, 3) := by decide +kernel
theorem dX2_readItem_60 : decode cX2_readItem 60 = .ok (.iconst 1, 1) := by decide +kernel
theorem dX2_readItem_61 : decode cX2_readItem 61 = .ok (.iadd, 1) := by decide +kernel
theorem dX2_readItem_62 : decode cX2_readItem 62 = .ok (.putfield 26, 3) := by decide +kernel
theorem dX2_readItem_65 : decode cX2_readItem 65 = .ok (.aload_n 0, 1) := by decide +kernel
theorem dX2_readItem_66 : decode cX2_readItem 66 = .ok (.invokevirtual 50, 3) := by decide +kernel
theorem dX2_readItem_69 : decode cX2_readItem 69 = .ok (.ireturn, 1) := by decide +kernel
theorem dX2_readItem_70 : decode cX2_readItem 70 = .ok (.aload_n 0, 1) := by decide +kernel
theorem dX2_readItem_71 : decode cX2_readItem 71 = .ok (.dup, 1) := by decide +kernel
theorem dX2_readItem_72 : decode cX2_readItem 72 = .ok (.getfield 26, 3) := by decide +kernel
theorem dX2_readItem_75 : decode cX2_readItem 75 = .ok (.iconst 1, 1) := by decide +kernel
theorem dX2_readItem_76 : decode cX2_readItem 76 = .ok (.iadd, 1) := by decide +kernel
theorem dX2_readItem_77 : decode cX2_readItem 77 = .ok (.putfield 26, 3) := by decide +kernel
theorem dX2_readItem_80 : decode cX2_readItem 80 = .ok (.aload_n 0, 1) := by decide +kernel
theorem dX2_readItem_81 : decode cX2_readItem 81 = .ok (.invokevirtual 53, 3) := by decide +kernel
theorem dX2_readItem_84 : decode cX2_readItem 84 = .ok (.ireturn, 1) := by decide +kernel
theorem dX2_readItem_85 : decode cX2_readItem 85 = .ok (.iconst 0, 1) := by decide +kernel
theorem dX2_readItem_86 : decode cX2_readItem 86 = .ok (.ireturn, 1) := by decide +kernel
theorem dX2_readParts_0 : decode cX2_readParts 0 = .ok (.aload_n 0, 1) := by decide +kernel
theorem dX2_readParts_1 : decode cX2_readParts 1 = .ok (.invokevirtual 56, 3) := by decide +kernel
theorem dX2_readParts_4 : decode cX2_readParts 4 = .ok (.istore_n 1, 1) := by decide +kernel
theorem dX2_readParts_5 : decode cX2_readParts 5 = .ok (.aload_n 0, 1) := by decide +kernel
theorem dX2_readParts_6 : decode cX2_readParts 6 = .ok (.bipush 44, 2) := by decide +kernel
theorem dX2_readParts_8 : decode cX2_readParts 8 = .ok (.invokevirtual 59, 3) := by decide +kernel
theorem dX2_readParts_11 : decode cX2_readParts 11 = .ok (.ifCond .ne 5, 3) := by decide +kernel
theorem dX2_readParts_14 : decode cX2_readParts 14 = .ok (.iconst 0, 1) := by decide +kernel
theorem dX2_readParts_15 : decode cX2_readParts 15 = .ok (.ireturn, 1) := by decide +kernel
theorem dX2_readParts_16 : decode cX2_readParts 16 = .ok (.aload_n 0, 1) := by decide +kernel
theorem dX2_readParts_17 : decode cX2_readParts 17 = .ok (.invokevirtual 56, 3) := by decide +kernel
theorem dX2_readParts_20 : decode cX2_readParts 20 = .ok (.istore_n 2, 1) := by decide +kernel
theorem dX2_readParts_21 : decode cX2_readParts 21 = .ok (.aload_n 0, 1) := by decide +kernel
theorem dX2_readParts_22 : decode cX2_readParts 22 = .ok (.bipush 44, 2) := by decide +kernel
theorem dX2_readParts_24 : decode cX2_readParts 24 = .ok (.invokevirtual 59, 3) := by decide +kernel
theorem dX2_readParts_27 : decode cX2_readParts 27 = .ok (.ifCond .ne 5, 3) := by decide +kernel
theorem dX2_readParts_30 : decode cX2_readParts 30 = .ok (.iconst 0, 1) := by decide +kernel
theorem dX2_readParts_31 : decode cX2_readParts 31 = .ok (.ireturn, 1) := by decide +kernel
theorem dX2_readParts_32 : decode cX2_readParts 32 = .ok (.aload_n 0, 1) := by decide +kernel
theorem dX2_readParts_33 : decode cX2_readParts 33 = .ok (.invokevirtual 56, 3) := by decide +kernel
theorem dX2_readParts_36 : decode cX2_readParts 36 = .ok (.istore_n 3, 1) := by decide +kernel
theorem dX2_readParts_37 : decode cX2_readParts 37 = .ok (.aload_n 0, 1) := by decide +kernel
theorem dX2_readParts_38 : decode cX2_readParts 38 = .ok (.bipush 59, 2) := by decide +kernel
theorem dX2_readParts_40 : decode cX2_readParts 40 = .ok (.invokevirtual 59, 3) := by decide +kernel
theorem dX2_readParts_43 : decode cX2_readParts 43 = .ok (.ifCond .eq 20, 3) := by decide +kernel
theorem dX2_readParts_46 : decode cX2_readParts 46 = .ok (.aload_n 0, 1) := by decide +kernel
theorem dX2_readParts_47 : decode cX2_readParts 47 = .ok (.getfield 22, 3) := by decide +kernel
theorem dX2_readParts_50 : decode cX2_readParts 50 = .ok (.iload_n 1, 1) := by decide +kernel
theorem dX2_readParts_51 : decode cX2_readParts 51 = .ok (.iload_n 2, 1) := by decide +kernel
theorem dX2_readParts_52 : decode cX2_readParts 52 = .ok (.iload_n 3, 1) := by decide +kernel
theorem dX2_readParts_53 : decode cX2_readParts 53 = .ok (.invokevirtual 63, 3) := by decide +kernel
theorem dX2_readParts_56 : decode cX2_readParts 56 = .ok (.ifCond .eq 7, 3) := by decide +kernel
theorem dX2_readParts_59 : decode cX2_readParts 59 = .ok (.iconst 1, 1) := by decide +kernel
theorem dX2_readParts_60 : decode cX2_readParts 60 = .ok (.goto 4, 3) := by decide +kernel
theorem dX2_readParts_63 : decode cX2_readParts 63 = .ok (.iconst 0, 1) := by decide +kernel
theorem dX2_readParts_64 : decode cX2_readParts 64 = .ok (.ireturn, 1) := by decide +kernel
theorem dX2_readTicks_0 : decode cX2_readTicks 0 = .ok (.aload_n 0, 1) := by decide +kernel
theorem dX2_readTicks_1 : decode cX2_readTicks 1 = .ok (.invokevirtual 56, 3) := by decide +kernel
theorem dX2_readTicks_4 : decode cX2_readTicks 4 = .ok (.istore_n 1, 1) := by decide +kernel
theorem dX2_readTicks_5 : decode cX2_readTicks 5 = .ok (.aload_n 0, 1) := by decide +kernel
theorem dX2_readTicks_6 : decode cX2_readTicks 6 = .ok (.bipush 44, 2) := by decide +kernel
theorem dX2_readTicks_8 : decode cX2_readTicks 8 = .ok (.invokevirtual 59, 3) := by decide +kernel
theorem dX2_readTicks_11 : decode cX2_readTicks 11 = .ok (.ifCond .ne 5, 3) := by decide +kernel
theorem dX2_readTicks_14 : decode cX2_readTicks 14 = .ok (.iconst 0, 1) := by decide +kernel
theorem dX2_readTicks_15 : decode cX2_readTicks 15 = .ok (.ireturn, 1) := by decide +kernel
theorem dX2_readTicks_16 : decode cX2_readTicks 16 = .ok (.aload_n 0, 1) := by decide +kernel
theorem dX2_readTicks_17 : decode cX2_readTicks 17 = .ok (.invokevirtual 56, 3) := by decide +kernel
theorem dX2_readTicks_20 : decode cX2_readTicks 20 = .ok (.istore_n 2, 1) := by decide +kernel
theorem dX2_readTicks_21 : decode cX2_readTicks 21 = .ok (.aload_n 0, 1) := by decide +kernel
theorem dX2_readTicks_22 : decode cX2_readTicks 22 = .ok (.bipush 59, 2) := by decide +kernel
theorem dX2_readTicks_24 : decode cX2_readTicks 24 = .ok (.invokevirtual 59, 3) := by decide +kernel
theorem dX2_readTicks_27 : decode cX2_readTicks 27 = .ok (.ifCond .eq 19, 3) := by decide +kernel
theorem dX2_readTicks_30 : decode cX2_readTicks 30 = .ok (.aload_n 0, 1) := by decide +kernel
theorem dX2_readTicks_31 : decode cX2_readTicks 31 = .ok (.getfield 22, 3) := by decide +kernel
theorem dX2_readTicks_34 : decode cX2_readTicks 34 = .ok (.iload_n 1, 1) := by decide +kernel
theorem dX2_readTicks_35 : decode cX2_readTicks 35 = .ok (.iload_n 2, 1) := by decide +kernel
theorem dX2_readTicks_36 : decode cX2_readTicks 36 = .ok (.invokevirtual 67, 3) := by decide +kernel
theorem dX2_readTicks_39 : decode cX2_readTicks 39 = .ok (.ifCond .eq 7, 3) := by decide +kernel
theorem dX2_readTicks_42 : decode cX2_readTicks 42 = .ok (.iconst 1, 1) := by decide +kernel
theorem dX2_readTicks_43 : decode cX2_readTicks 43 = .ok (.goto 4, 3) := by decide +kernel
theorem dX2_readTicks_46 : decode cX2_readTicks 46 = .ok (.iconst 0, 1) := by decide +kernel
theorem dX2_readTicks_47 : decode cX2_readTicks 47 = .ok (.ireturn, 1) := by decide +kernel
theorem dX2_readCheck_0 : decode cX2_readCheck 0 = .ok (.aload_n 0, 1) := by decide +kernel
theorem dX2_readCheck_1 : decode cX2_readCheck 1 = .ok (.invokevirtual 56, 3) := by decide +kernel
theorem dX2_readCheck_4 : decode cX2_readCheck 4 = .ok (.istore_n 1, 1) := by decide +kernel
theorem dX2_readCheck_5 : decode cX2_readCheck 5 = .ok (.aload_n 0, 1) := by decide +kernel
theorem dX2_readCheck_6 : decode cX2_readCheck 6 = .ok (.aload_n 0, 1) := by decide +kernel
theorem dX2_readCheck_7 : decode cX2_readCheck 7 = .ok (.bipush 59, 2) := by decide +kernel
theorem dX2_readCheck_9 : decode cX2_readCheck 9 = .ok (.invokevirtual 59, 3) := by decide +kernel
theorem dX2_readCheck_12 : decode cX2_readCheck 12 = .ok (.ifCond .eq 21, 3) := by decide +kernel
theorem dX2_readCheck_15 : decode cX2_readCheck 15 = .ok (.iload_n 1, 1) := by decide +kernel
theorem dX2_readCheck_16 : decode cX2_readCheck 16 = .ok (.aload_n 0, 1) := by decide +kernel
theorem dX2_readCheck_17 : decode cX2_readCheck 17 = .ok (.getfield 22, 3) := by decide +kernel
theorem dX2_readCheck_20 : decode cX2_readCheck 20 = .ok (.invokevirtual 71, 3) := by decide +kernel
theorem dX2_readCheck_23 : decode cX2_readCheck 23 = .ok (.bipush 97, 2) := by decide +kernel
theorem dX2_readCheck_25 : decode cX2_readCheck 25 = .ok (.irem, 1) := by decide +kernel
theorem dX2_readCheck_26 : decode cX2_readCheck 26 = .ok (.if_icmp .ne 7, 3) := by decide +kernel
theorem dX2_readCheck_29 : decode cX2_readCheck 29 = .ok (.iconst 1, 1) := by decide +kernel
theorem dX2_readCheck_30 : decode cX2_readCheck 30 = .ok (.goto 4, 3) := by decide +kernel
theorem dX2_readCheck_33 : decode cX2_readCheck 33 = .ok (.iconst 0, 1) := by decide +kernel
theorem dX2_readCheck_34 : decode cX2_readCheck 34 = .ok (.putfield 29, 3) := by decide +kernel
theorem dX2_readCheck_37 : decode cX2_readCheck 37 = .ok (.aload_n 0, 1) := by decide +kernel
theorem dX2_readCheck_38 : decode cX2_readCheck 38 = .ok (.getfield 29, 3) := by decide +kernel
theorem dX2_readCheck_41 : decode cX2_readCheck 41 = .ok (.ireturn, 1) := by decide +kernel
theorem dX2_readNumber_0 : decode cX2_readNumber 0 = .ok (.aload_n 0, 1) := by decide +kernel
theorem dX2_readNumber_1 : decode cX2_readNumber 1 = .ok (.invokevirtual 43, 3) := by decide +kernel
theorem dX2_readNumber_4 : decode cX2_readNumber 4 = .ok (.invokestatic 74, 3) := by decide +kernel
theorem dX2_readNumber_7 : decode cX2_readNumber 7 = .ok (.ifCond .ne 6, 3) := by decide +kernel
theorem dX2_readNumber_10 : decode cX2_readNumber 10 = .ok (.bipush (-4), 2) := by decide +kernel
theorem dX2_readNumber_12 : decode cX2_readNumber 12 = .ok (.ireturn, 1) := by decide +kernel
theorem dX2_readNumber_13 : decode cX2_readNumber 13 = .ok (.aload_n 0, 1) := by decide +kernel
theorem dX2_readNumber_14 : decode cX2_readNumber 14 = .ok (.invokevirtual 43, 3) := by decide +kernel
theorem dX2_readNumber_17 : decode cX2_readNumber 17 = .ok (.bipush 48, 2) := by decide +kernel
theorem dX2_readNumber_19 : decode cX2_readNumber 19 = .ok (.isub, 1) := by decide +kernel
theorem dX2_readNumber_20 : decode cX2_readNumber 20 = .ok (.istore_n 1, 1) := by decide +kernel
theorem dX2_readNumber_21 : decode cX2_readNumber 21 = .ok (.aload_n 0, 1) := by decide +kernel
theorem dX2_readNumber_22 : decode cX2_readNumber 22 = .ok (.dup, 1) := by decide +kernel
theorem dX2_readNumber_23 : decode cX2_readNumber 23 = .ok (.getfield 26, 3) := by decide +kernel
theorem dX2_readNumber_26 : decode cX2_readNumber 26 = .ok (.iconst 1, 1) := by decide +kernel
theorem dX2_readNumber_27 : decode cX2_readNumber 27 = .ok (.iadd, 1) := by decide +kernel
theorem dX2_readNumber_28 : decode cX2_readNumber 28 = .ok (.putfield 26, 3) := by decide +kernel
theorem dX2_readNumber_31 : decode cX2_readNumber 31 = .ok (.aload_n 0, 1) := by decide +kernel
theorem dX2_readNumber_32 : decode cX2_readNumber 32 = .ok (.invokevirtual 43, 3) := by decide +kernel
theorem dX2_readNumber_35 : decode cX2_readNumber 35 = .ok (.invokestatic 74, 3) := by decide +kernel
theorem dX2_readNumber_38 : decode cX2_readNumber 38 = .ok (.ifCond .eq 26, 3) := by decide +kernel
theorem dX2_readNumber_41 : decode cX2_readNumber 41 = .ok (.iload_n 1, 1) := by decide +kernel
theorem dX2_readNumber_42 : decode cX2_readNumber 42 = .ok (.bipush 10, 2) := by decide +kernel
theorem dX2_readNumber_44 : decode cX2_readNumber 44 = .ok (.imul, 1) := by decide +kernel
theorem dX2_readNumber_45 : decode cX2_readNumber 45 = .ok (.aload_n 0, 1) := by decide +kernel
theorem dX2_readNumber_46 : decode cX2_readNumber 46 = .ok (.invokevirtual 43, 3) := by decide +kernel
theorem dX2_readNumber_49 : decode cX2_readNumber 49 = .ok (.iadd, 1) := by decide +kernel
theorem dX2_readNumber_50 : decode cX2_readNumber 50 = .ok (.bipush 48, 2) := by decide +kernel
theorem dX2_readNumber_52 : decode cX2_readNumber 52 = .ok (.isub, 1) := by decide +kernel
theorem dX2_readNumber_53 : decode cX2_readNumber 53 = .ok (.istore_n 1, 1) := by decide +kernel
theorem dX2_readNumber_54 : decode cX2_readNumber 54 = .ok (.aload_n 0, 1) := by decide +kernel
theorem dX2_readNumber_55 : decode cX2_readNumber 55 = .ok (.dup, 1) := by decide +kernel
theorem dX2_readNumber_56 : decode cX2_readNumber 56 = .ok (.getfield 26, 3) := by decide +kernel
theorem dX2_readNumber_59 : decode cX2_readNumber 59 = .ok (.iconst 1, 1) := by decide +kernel
theorem dX2_readNumber_60 : decode cX2_readNumber 60 = .ok (.iadd, 1) := by decide +kernel
theorem dX2_readNumber_61 : decode cX2_readNumber 61 = .ok (.putfield 26, 3) := by decide +kernel
theorem dX2_readNumber_64 : decode cX2_readNumber 64 = .ok (.iload_n 1, 1) := by decide +kernel
theorem dX2_readNumber_65 : decode cX2_readNumber 65 = .ok (.ireturn, 1) := by decide +kernel
theorem dX2_skip_0 : decode cX2_skip 0 = .ok (.aload_n 0, 1) := by decide +kernel
theorem dX2_skip_1 : decode cX2_skip 1 = .ok (.invokevirtual 43, 3) := by decide +kernel
theorem dX2_skip_4 : decode cX2_skip 4 = .ok (.iload_n 1, 1) := by decide +kernel
theorem dX2_skip_5 : decode cX2_skip 5 = .ok (.if_icmp .eq 5, 3) := by decide +kernel
theorem dX2_skip_8 : decode cX2_skip 8 = .ok (.iconst 0, 1) := by decide +kernel
theorem dX2_skip_9 : decode cX2_skip 9 = .ok (.ireturn, 1) := by decide +kernel
theorem dX2_skip_10 : decode cX2_skip 10 = .ok (.aload_n 0, 1) := by decide +kernel
theorem dX2_skip_11 : decode cX2_skip 11 = .ok (.dup, 1) := by decide +kernel
theorem dX2_skip_12 : decode cX2_skip 12 = .ok (.getfield 26, 3) := by decide +kernel
theorem dX2_skip_15 : decode cX2_skip 15 = .ok (.iconst 1, 1) := by decide +kernel
theorem dX2_skip_16 : decode cX2_skip 16 = .ok (.iadd, 1) := by decide +kernel
theorem dX2_skip_17 : decode cX2_skip 17 = .ok (.putfield 26, 3) := by decide +kernel
theorem dX2_skip_20 : decode cX2_skip 20 = .ok (.iconst 1, 1) := by decide +kernel
theorem dX2_skip_21 : decode cX2_skip 21 = .ok (.ireturn, 1) := by decide +kernel
theorem dX2_nextLetter_0 : decode cX2_nextLetter 0 = .ok (.aload_n 0, 1) := by decide +kernel
theorem dX2_nextLetter_1 : decode cX2_nextLetter 1 = .ok (.getfield 26, 3) := by decide +kernel
theorem dX2_nextLetter_4 : decode cX2_nextLetter 4 = .ok (.ifCond .lt 26, 3) := by decide +kernel
theorem dX2_nextLetter_7 : decode cX2_nextLetter 7 = .ok (.aload_n 0, 1) := by decide +kernel
theorem dX2_nextLetter_8 : decode cX2_nextLetter 8 = .ok (.getfield 26, 3) := by decide +kernel
theorem dX2_nextLetter_11 : decode cX2_nextLetter 11 = .ok (.aload_n 0, 1) := by decide +kernel
theorem dX2_nextLetter_12 : decode cX2_nextLetter 12 = .ok (.getfield 15, 3) := by decide +kernel
theorem dX2_nextLetter_15 : decode cX2_nextLetter 15 = .ok (.if_icmp .ge 15, 3) := by decide +kernel
theorem dX2_nextLetter_18 : decode cX2_nextLetter 18 = .ok (.aload_n 0, 1) := by decide +kernel
theorem dX2_nextLetter_19 : decode cX2_nextLetter 19 = .ok (.getfield 26, 3) := by decide +kernel
theorem dX2_nextLetter_22 : decode cX2_nextLetter 22 = .ok (.aload_n 0, 1) := by decide +kernel
theorem dX2_nextLetter_23 : decode cX2_nextLetter 23 = .ok (.getfield 9, 3) := by decide +kernel
theorem dX2_nextLetter_26 : decode cX2_nextLetter 26 = .ok (.arraylength, 1) := by decide +kernel
theorem dX2_nextLetter_27 : decode cX2_nextLetter 27 = .ok (.if_icmp .lt 6, 3) := by decide +kernel
theorem dX2_nextLetter_30 : decode cX2_nextLetter 30 = .ok (.bipush (-4), 2) := by decide +kernel
theorem dX2_nextLetter_32 : decode cX2_nextLetter 32 = .ok (.ireturn, 1) := by decide +kernel
theorem dX2_nextLetter_33 : decode cX2_nextLetter 33 = .ok (.aload_n 0, 1) := by decide +kernel
theorem dX2_nextLetter_34 : decode cX2_nextLetter 34 = .ok (.getfield 9, 3) := by decide +kernel
theorem dX2_nextLetter_37 : decode cX2_nextLetter 37 = .ok (.aload_n 0, 1) := by decide +kernel
theorem dX2_nextLetter_38 : decode cX2_nextLetter 38 = .ok (.getfield 26, 3) := by decide +kernel
theorem dX2_nextLetter_41 : decode cX2_nextLetter 41 = .ok (.iaload, 1) := by decide +kernel
theorem dX2_nextLetter_42 : decode cX2_nextLetter 42 = .ok (.ireturn, 1) := by decide +kernel
theorem dX2_isFigure_0 : decode cX2_isFigure 0 = .ok (.iload_n 0, 1) := by decide +kernel
theorem dX2_isFigure_1 : decode cX2_isFigure 1 = .ok (.bipush 48, 2) := by decide +kernel
theorem dX2_isFigure_3 : decode cX2_isFigure 3 = .ok (.if_icmp .lt 13, 3) := by decide +kernel
theorem dX2_isFigure_6 : decode cX2_isFigure 6 = .ok (.iload_n 0, 1) := by decide +kernel
theorem dX2_isFigure_7 : decode cX2_isFigure 7 = .ok (.bipush 57, 2) := by decide +kernel
theorem dX2_isFigure_9 : decode cX2_isFigure 9 = .ok (.if_icmp .gt 7, 3) := by decide +kernel
theorem dX2_isFigure_12 : decode cX2_isFigure 12 = .ok (.iconst 1, 1) := by decide +kernel
theorem dX2_isFigure_13 : decode cX2_isFigure 13 = .ok (.goto 4, 3) := by decide +kernel
theorem dX2_isFigure_16 : decode cX2_isFigure 16 = .ok (.iconst 0, 1) := by decide +kernel
theorem dX2_isFigure_17 : decode cX2_isFigure 17 = .ok (.ireturn, 1) := by decide +kernel
theorem dX3_init_0 : decode cX3_init 0 = .ok (.aload_n 0, 1) := by decide +kernel
theorem dX3_init_1 : decode cX3_init 1 = .ok (.invokespecial 3, 3) := by decide +kernel
theorem dX3_init_4 : decode cX3_init 4 = .ok (.aload_n 0, 1) := by decide +kernel
theorem dX3_init_5 : decode cX3_init 5 = .ok (.bipush 16, 2) := by decide +kernel
theorem dX3_init_7 : decode cX3_init 7 = .ok (.newarray .int, 2) := by decide +kernel
theorem dX3_init_9 : decode cX3_init 9 = .ok (.putfield 9, 3) := by decide +kernel
theorem dX3_init_12 : decode cX3_init 12 = .ok (.aload_n 0, 1) := by decide +kernel
theorem dX3_init_13 : decode cX3_init 13 = .ok (.invokevirtual 15, 3) := by decide +kernel
theorem dX3_init_16 : decode cX3_init 16 = .ok (.return_, 1) := by decide +kernel
theorem dX3_clear_0 : decode cX3_clear 0 = .ok (.aload_n 0, 1) := by decide +kernel
theorem dX3_clear_1 : decode cX3_clear 1 = .ok (.iconst 0, 1) := by decide +kernel
theorem dX3_clear_2 : decode cX3_clear 2 = .ok (.putfield 18, 3) := by decide +kernel
theorem dX3_clear_5 : decode cX3_clear 5 = .ok (.aload_n 0, 1) := by decide +kernel
theorem dX3_clear_6 : decode cX3_clear 6 = .ok (.iconst 0, 1) := by decide +kernel
theorem dX3_clear_7 : decode cX3_clear 7 = .ok (.putfield 22, 3) := by decide +kernel
theorem dX3_clear_10 : decode cX3_clear 10 = .ok (.aload_n 0, 1) := by decide +kernel
theorem dX3_clear_11 : decode cX3_clear 11 = .ok (.iconst (-1), 1) := by decide +kernel
theorem dX3_clear_12 : decode cX3_clear 12 = .ok (.putfield 26, 3) := by decide +kernel
theorem dX3_clear_15 : decode cX3_clear 15 = .ok (.aload_n 0, 1) := by decide +kernel
theorem dX3_clear_16 : decode cX3_clear 16 = .ok (.iconst 0, 1) := by decide +kernel
theorem dX3_clear_17 : decode cX3_clear 17 = .ok (.putfield 29, 3) := by decide +kernel
theorem dX3_clear_20 : decode cX3_clear 20 = .ok (.iconst 0, 1) := by decide +kernel
theorem dX3_clear_21 : decode cX3_clear 21 = .ok (.istore_n 1, 1) := by decide +kernel
theorem dX3_clear_22 : decode cX3_clear 22 = .ok (.iload_n 1, 1) := by decide +kernel
theorem dX3_clear_23 : decode cX3_clear 23 = .ok (.aload_n 0, 1) := by decide +kernel
theorem dX3_clear_24 : decode cX3_clear 24 = .ok (.getfield 9, 3) := by decide +kernel
theorem dX3_clear_27 : decode cX3_clear 27 = .ok (.arraylength, 1) := by decide +kernel
theorem dX3_clear_28 : decode cX3_clear 28 = .ok (.if_icmp .ge 16, 3) := by decide +kernel
theorem dX3_clear_31 : decode cX3_clear 31 = .ok (.aload_n 0, 1) := by decide +kernel
theorem dX3_clear_32 : decode cX3_clear 32 = .ok (.getfield 9, 3) := by decide +kernel
theorem dX3_clear_35 : decode cX3_clear 35 = .ok (.iload_n 1, 1) := by decide +kernel
theorem dX3_clear_36 : decode cX3_clear 36 = .ok (.iconst (-1), 1) := by decide +kernel
theorem dX3_clear_37 : decode cX3_clear 37 = .ok (.iastore, 1) := by decide +kernel
theorem dX3_clear_38 : decode cX3_clear 38 = .ok (.iinc 1 1, 3) := by decide +kernel
theorem dX3_clear_41 : decode cX3_clear 41 = .ok (.goto (-19), 3) := by decide +kernel
theorem dX3_clear_44 : decode cX3_clear 44 = .ok (.return_, 1) := by decide +kernel
theorem dX3_open_0 : decode cX3_open 0 = .ok (.aload_n 0, 1) := by decide +kernel
theorem dX3_open_1 : decode cX3_open 1 = .ok (.invokevirtual 15, 3) := by decide +kernel
theorem dX3_open_4 : decode cX3_open 4 = .ok (.aload_n 0, 1) := by decide +kernel
theorem dX3_open_5 : decode cX3_open 5 = .ok (.iconst 1, 1) := by decide +kernel
theorem dX3_open_6 : decode cX3_open 6 = .ok (.putfield 18, 3) := by decide +kernel
theorem dX3_open_9 : decode cX3_open 9 = .ok (.return_, 1) := by decide +kernel
theorem dX3_isSelected_0 : decode cX3_isSelected 0 = .ok (.aload_n 0, 1) := by decide +kernel
theorem dX3_isSelected_1 : decode cX3_isSelected 1 = .ok (.getfield 18, 3) := by decide +kernel
theorem dX3_isSelected_4 : decode cX3_isSelected 4 = .ok (.ireturn, 1) := by decide +kernel
theorem dX3_puts_0 : decode cX3_puts 0 = .ok (.aload_n 0, 1) := by decide +kernel
theorem dX3_puts_1 : decode cX3_puts 1 = .ok (.getfield 22, 3) := by decide +kernel
theorem dX3_puts_4 : decode cX3_puts 4 = .ok (.ireturn, 1) := by decide +kernel
theorem dX3_command_0 : decode cX3_command 0 = .ok (.aload_n 0, 1) := by decide +kernel
theorem dX3_command_1 : decode cX3_command 1 = .ok (.getfield 26, 3) := by decide +kernel
theorem dX3_command_4 : decode cX3_command 4 = .ok (.ireturn, 1) := by decide +kernel
theorem dX3_first_0 : decode cX3_first 0 = .ok (.aload_n 0, 1) := by decide +kernel
theorem dX3_first_1 : decode cX3_first 1 = .ok (.getfield 29, 3) := by decide +kernel
theorem dX3_first_4 : decode cX3_first 4 = .ok (.ireturn, 1) := by decide +kernel
theorem dX3_take_0 : decode cX3_take 0 = .ok (.aload_n 0, 1) := by decide +kernel
theorem dX3_take_1 : decode cX3_take 1 = .ok (.getfield 22, 3) := by decide +kernel
theorem dX3_take_4 : decode cX3_take 4 = .ok (.ifCond .ne 11, 3) := by decide +kernel
theorem dX3_take_7 : decode cX3_take 7 = .ok (.aload_n 0, 1) := by decide +kernel
theorem dX3_take_8 : decode cX3_take 8 = .ok (.iload_n 1, 1) := by decide +kernel
theorem dX3_take_9 : decode cX3_take 9 = .ok (.putfield 26, 3) := by decide +kernel
theorem dX3_take_12 : decode cX3_take 12 = .ok (.goto 39, 3) := by decide +kernel
theorem dX3_take_15 : decode cX3_take 15 = .ok (.aload_n 0, 1) := by decide +kernel
theorem dX3_take_16 : decode cX3_take 16 = .ok (.getfield 22, 3) := by decide +kernel
theorem dX3_take_19 : decode cX3_take 19 = .ok (.iconst 1, 1) := by decide +kernel
theorem dX3_take_20 : decode cX3_take 20 = .ok (.if_icmp .ne 11, 3) := by decide +kernel
theorem dX3_take_23 : decode cX3_take 23 = .ok (.aload_n 0, 1) := by decide +kernel
theorem dX3_take_24 : decode cX3_take 24 = .ok (.iload_n 1, 1) := by decide +kernel
theorem dX3_take_25 : decode cX3_take 25 = .ok (.putfield 29, 3) := by decide +kernel
theorem dX3_take_28 : decode cX3_take 28 = .ok (.goto 23, 3) := by decide +kernel
theorem dX3_take_31 : decode cX3_take 31 = .ok (.aload_n 0, 1) := by decide +kernel
theorem dX3_take_32 : decode cX3_take 32 = .ok (.aload_n 0, 1) := by decide +kernel
theorem dX3_take_33 : decode cX3_take 33 = .ok (.getfield 29, 3) := by decide +kernel
theorem dX3_take_36 : decode cX3_take 36 = .ok (.aload_n 0, 1) := by decide +kernel
theorem dX3_take_37 : decode cX3_take 37 = .ok (.getfield 22, 3) := by decide +kernel
theorem dX3_take_40 : decode cX3_take 40 = .ok (.iadd, 1) := by decide +kernel
theorem dX3_take_41 : decode cX3_take 41 = .ok (.iconst 2, 1) := by decide +kernel
theorem dX3_take_42 : decode cX3_take 42 = .ok (.isub, 1) := by decide +kernel
theorem dX3_take_43 : decode cX3_take 43 = .ok (.iload_n 2, 1) := by decide +kernel
theorem dX3_take_44 : decode cX3_take 44 = .ok (.invokestatic 32, 3) := by decide +kernel
theorem dX3_take_47 : decode cX3_take 47 = .ok (.iload_n 1, 1) := by decide +kernel
theorem dX3_take_48 : decode cX3_take 48 = .ok (.invokevirtual 36, 3) := by decide +kernel
theorem dX3_take_51 : decode cX3_take 51 = .ok (.aload_n 0, 1) := by decide +kernel
theorem dX3_take_52 : decode cX3_take 52 = .ok (.dup, 1) := by decide +kernel
theorem dX3_take_53 : decode cX3_take 53 = .ok (.getfield 22, 3) := by decide +kernel
theorem dX3_take_56 : decode cX3_take 56 = .ok (.iconst 1, 1) := by decide +kernel
theorem dX3_take_57 : decode cX3_take 57 = .ok (.iadd, 1) := by decide +kernel
theorem dX3_take_58 : decode cX3_take 58 = .ok (.putfield 22, 3) := by decide +kernel
theorem dX3_take_61 : decode cX3_take 61 = .ok (.return_, 1) := by decide +kernel
theorem dX3_setInPage_0 : decode cX3_setInPage 0 = .ok (.iload_n 1, 1) := by decide +kernel
theorem dX3_setInPage_1 : decode cX3_setInPage 1 = .ok (.ifCond .lt 19, 3) := by decide +kernel
theorem dX3_setInPage_4 : decode cX3_setInPage 4 = .ok (.iload_n 1, 1) := by decide +kernel
theorem dX3_setInPage_5 : decode cX3_setInPage 5 = .ok (.aload_n 0, 1) := by decide +kernel
theorem dX3_setInPage_6 : decode cX3_setInPage 6 = .ok (.getfield 9, 3) := by decide +kernel
theorem dX3_setInPage_9 : decode cX3_setInPage 9 = .ok (.arraylength, 1) := by decide +kernel
theorem dX3_setInPage_10 : decode cX3_setInPage 10 = .ok (.if_icmp .ge 10, 3) := by decide +kernel
theorem dX3_setInPage_13 : decode cX3_setInPage 13 = .ok (.aload_n 0, 1) := by decide +kernel
theorem dX3_setInPage_14 : decode cX3_setInPage 14 = .ok (.getfield 9, 3) := by decide +kernel
theorem dX3_setInPage_17 : decode cX3_setInPage 17 = .ok (.iload_n 1, 1) := by decide +kernel
theorem dX3_setInPage_18 : decode cX3_setInPage 18 = .ok (.iload_n 2, 1) := by decide +kernel
theorem dX3_setInPage_19 : decode cX3_setInPage 19 = .ok (.iastore, 1) := by decide +kernel
theorem dX3_setInPage_20 : decode cX3_setInPage 20 = .ok (.return_, 1) := by decide +kernel
theorem dX3_maskAt_0 : decode cX3_maskAt 0 = .ok (.iload_n 1, 1) := by decide +kernel
theorem dX3_maskAt_1 : decode cX3_maskAt 1 = .ok (.ifCond .lt 22, 3) := by decide +kernel
theorem dX3_maskAt_4 : decode cX3_maskAt 4 = .ok (.iload_n 1, 1) := by decide +kernel
theorem dX3_maskAt_5 : decode cX3_maskAt 5 = .ok (.aload_n 0, 1) := by decide +kernel
theorem dX3_maskAt_6 : decode cX3_maskAt 6 = .ok (.getfield 9, 3) := by decide +kernel
theorem dX3_maskAt_9 : decode cX3_maskAt 9 = .ok (.arraylength, 1) := by decide +kernel
theorem dX3_maskAt_10 : decode cX3_maskAt 10 = .ok (.if_icmp .ge 13, 3) := by decide +kernel
theorem dX3_maskAt_13 : decode cX3_maskAt 13 = .ok (.aload_n 0, 1) := by decide +kernel
theorem dX3_maskAt_14 : decode cX3_maskAt 14 = .ok (.getfield 9, 3) := by decide +kernel
theorem dX3_maskAt_17 : decode cX3_maskAt 17 = .ok (.iload_n 1, 1) := by decide +kernel
theorem dX3_maskAt_18 : decode cX3_maskAt 18 = .ok (.iaload, 1) := by decide +kernel
theorem dX3_maskAt_19 : decode cX3_maskAt 19 = .ok (.iconst (-1), 1) := by decide +kernel
theorem dX3_maskAt_20 : decode cX3_maskAt 20 = .ok (.if_icmp .ne 7, 3) := by decide +kernel
theorem dX3_maskAt_23 : decode cX3_maskAt 23 = .ok (.sipush 255, 3) := by decide +kernel
theorem dX3_maskAt_26 : decode cX3_maskAt 26 = .ok (.ireturn, 1) := by decide +kernel
theorem dX3_maskAt_27 : decode cX3_maskAt 27 = .ok (.aload_n 0, 1) := by decide +kernel
theorem dX3_maskAt_28 : decode cX3_maskAt 28 = .ok (.getfield 9, 3) := by decide +kernel
theorem dX3_maskAt_31 : decode cX3_maskAt 31 = .ok (.iload_n 1, 1) := by decide +kernel
theorem dX3_maskAt_32 : decode cX3_maskAt 32 = .ok (.iaload, 1) := by decide +kernel
theorem dX3_maskAt_33 : decode cX3_maskAt 33 = .ok (.ireturn, 1) := by decide +kernel
theorem dX3_copyFrom_0 : decode cX3_copyFrom 0 = .ok (.aload_n 0, 1) := by decide +kernel
theorem dX3_copyFrom_1 : decode cX3_copyFrom 1 = .ok (.aload_n 1, 1) := by decide +kernel
theorem dX3_copyFrom_2 : decode cX3_copyFrom 2 = .ok (.getfield 18, 3) := by decide +kernel
theorem dX3_copyFrom_5 : decode cX3_copyFrom 5 = .ok (.putfield 18, 3) := by decide +kernel
theorem dX3_copyFrom_8 : decode cX3_copyFrom 8 = .ok (.aload_n 0, 1) := by decide +kernel
theorem dX3_copyFrom_9 : decode cX3_copyFrom 9 = .ok (.aload_n 1, 1) := by decide +kernel
theorem dX3_copyFrom_10 : decode cX3_copyFrom 10 = .ok (.getfield 22, 3) := by decide +kernel
theorem dX3_copyFrom_13 : decode cX3_copyFrom 13 = .ok (.putfield 22, 3) := by decide +kernel
theorem dX3_copyFrom_16 : decode cX3_copyFrom 16 = .ok (.aload_n 0, 1) := by decide +kernel
theorem dX3_copyFrom_17 : decode cX3_copyFrom 17 = .ok (.aload_n 1, 1) := by decide +kernel
theorem dX3_copyFrom_18 : decode cX3_copyFrom 18 = .ok (.getfield 26, 3) := by decide +kernel
theorem dX3_copyFrom_21 : decode cX3_copyFrom 21 = .ok (.putfield 26, 3) := by decide +kernel
theorem dX3_copyFrom_24 : decode cX3_copyFrom 24 = .ok (.aload_n 0, 1) := by decide +kernel
theorem dX3_copyFrom_25 : decode cX3_copyFrom 25 = .ok (.aload_n 1, 1) := by decide +kernel
theorem dX3_copyFrom_26 : decode cX3_copyFrom 26 = .ok (.getfield 29, 3) := by decide +kernel
theorem dX3_copyFrom_29 : decode cX3_copyFrom 29 = .ok (.putfield 29, 3) := by decide +kernel
theorem dX3_copyFrom_32 : decode cX3_copyFrom 32 = .ok (.iconst 0, 1) := by decide +kernel
theorem dX3_copyFrom_33 : decode cX3_copyFrom 33 = .ok (.istore_n 2, 1) := by decide +kernel
theorem dX3_copyFrom_34 : decode cX3_copyFrom 34 = .ok (.iload_n 2, 1) := by decide +kernel
theorem dX3_copyFrom_35 : decode cX3_copyFrom 35 = .ok (.aload_n 0, 1) := by decide +kernel
theorem dX3_copyFrom_36 : decode cX3_copyFrom 36 = .ok (.getfield 9, 3) := by decide +kernel
theorem dX3_copyFrom_39 : decode cX3_copyFrom 39 = .ok (.arraylength, 1) := by decide +kernel
theorem dX3_copyFrom_40 : decode cX3_copyFrom 40 = .ok (.if_icmp .ge 30, 3) := by decide +kernel
theorem dX3_copyFrom_43 : decode cX3_copyFrom 43 = .ok (.iload_n 2, 1) := by decide +kernel
theorem dX3_copyFrom_44 : decode cX3_copyFrom 44 = .ok (.aload_n 1, 1) := by decide +kernel
theorem dX3_copyFrom_45 : decode cX3_copyFrom 45 = .ok (.getfield 9, 3) := by decide +kernel
theorem dX3_copyFrom_48 : decode cX3_copyFrom 48 = .ok (.arraylength, 1) := by decide +kernel
theorem dX3_copyFrom_49 : decode cX3_copyFrom 49 = .ok (.if_icmp .ge 21, 3) := by decide +kernel
theorem dX3_copyFrom_52 : decode cX3_copyFrom 52 = .ok (.aload_n 0, 1) := by decide +kernel
theorem dX3_copyFrom_53 : decode cX3_copyFrom 53 = .ok (.getfield 9, 3) := by decide +kernel
theorem dX3_copyFrom_56 : decode cX3_copyFrom 56 = .ok (.iload_n 2, 1) := by decide +kernel
theorem dX3_copyFrom_57 : decode cX3_copyFrom 57 = .ok (.aload_n 1, 1) := by decide +kernel
theorem dX3_copyFrom_58 : decode cX3_copyFrom 58 = .ok (.getfield 9, 3) := by decide +kernel
theorem dX3_copyFrom_61 : decode cX3_copyFrom 61 = .ok (.iload_n 2, 1) := by decide +kernel
theorem dX3_copyFrom_62 : decode cX3_copyFrom 62 = .ok (.iaload, 1) := by decide +kernel
theorem dX3_copyFrom_63 : decode cX3_copyFrom 63 = .ok (.iastore, 1) := by decide +kernel
theorem dX3_copyFrom_64 : decode cX3_copyFrom 64 = .ok (.iinc 2 1, 3) := by decide +kernel
theorem dX3_copyFrom_67 : decode cX3_copyFrom 67 = .ok (.goto (-33), 3) := by decide +kernel
theorem dX3_copyFrom_70 : decode cX3_copyFrom 70 = .ok (.return_, 1) := by decide +kernel
