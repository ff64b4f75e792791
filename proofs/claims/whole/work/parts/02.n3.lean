theorem d_M_init_0 : decode b_M_init 0 = .ok (.aload_n 0, 1) := by decide +kernel
theorem d_M_init_1 : decode b_M_init 1 = .ok (.invokespecial 1, 3) := by decide +kernel
theorem d_M_init_4 : decode b_M_init 4 = .ok (.aload_n 0, 1) := by decide +kernel
theorem d_M_init_5 : decode b_M_init 5 = .ok (.bipush 7, 2) := by decide +kernel
theorem d_M_init_7 : decode b_M_init 7 = .ok (.newarray .boolean, 2) := by decide +kernel
theorem d_M_init_9 : decode b_M_init 9 = .ok (.putfield 7, 3) := by decide +kernel
theorem d_M_init_12 : decode b_M_init 12 = .ok (.aload_n 0, 1) := by decide +kernel
theorem d_M_init_13 : decode b_M_init 13 = .ok (.bipush 7, 2) := by decide +kernel
theorem d_M_init_15 : decode b_M_init 15 = .ok (.newarray .boolean, 2) := by decide +kernel
theorem d_M_init_17 : decode b_M_init 17 = .ok (.putfield 13, 3) := by decide +kernel
theorem d_M_init_20 : decode b_M_init 20 = .ok (.aload_n 0, 1) := by decide +kernel
theorem d_M_init_21 : decode b_M_init 21 = .ok (.bipush 6, 2) := by decide +kernel
theorem d_M_init_23 : decode b_M_init 23 = .ok (.newarray .int, 2) := by decide +kernel
theorem d_M_init_25 : decode b_M_init 25 = .ok (.putfield 16, 3) := by decide +kernel
theorem d_M_init_28 : decode b_M_init 28 = .ok (.aload_n 0, 1) := by decide +kernel
theorem d_M_init_29 : decode b_M_init 29 = .ok (.bipush 6, 2) := by decide +kernel
theorem d_M_init_31 : decode b_M_init 31 = .ok (.newarray .int, 2) := by decide +kernel
theorem d_M_init_33 : decode b_M_init 33 = .ok (.putfield 20, 3) := by decide +kernel
theorem d_M_init_36 : decode b_M_init 36 = .ok (.aload_n 0, 1) := by decide +kernel
theorem d_M_init_37 : decode b_M_init 37 = .ok (.sipush 186, 3) := by decide +kernel
theorem d_M_init_40 : decode b_M_init 40 = .ok (.newarray .int, 2) := by decide +kernel
theorem d_M_init_42 : decode b_M_init 42 = .ok (.putfield 23, 3) := by decide +kernel
theorem d_M_init_45 : decode b_M_init 45 = .ok (.aload_n 0, 1) := by decide +kernel
theorem d_M_init_46 : decode b_M_init 46 = .ok (.sipush 186, 3) := by decide +kernel
theorem d_M_init_49 : decode b_M_init 49 = .ok (.newarray .int, 2) := by decide +kernel
theorem d_M_init_51 : decode b_M_init 51 = .ok (.putfield 26, 3) := by decide +kernel
theorem d_M_init_54 : decode b_M_init 54 = .ok (.aload_n 0, 1) := by decide +kernel
theorem d_M_init_55 : decode b_M_init 55 = .ok (.sipush 840, 3) := by decide +kernel
theorem d_M_init_58 : decode b_M_init 58 = .ok (.newarray .int, 2) := by decide +kernel
theorem d_M_init_60 : decode b_M_init 60 = .ok (.putfield 29, 3) := by decide +kernel
theorem d_M_init_63 : decode b_M_init 63 = .ok (.aload_n 0, 1) := by decide +kernel
theorem d_M_init_64 : decode b_M_init 64 = .ok (.bipush 84, 2) := by decide +kernel
theorem d_M_init_66 : decode b_M_init 66 = .ok (.newarray .boolean, 2) := by decide +kernel
theorem d_M_init_68 : decode b_M_init 68 = .ok (.putfield 32, 3) := by decide +kernel
theorem d_M_init_71 : decode b_M_init 71 = .ok (.aload_n 0, 1) := by decide +kernel
theorem d_M_init_72 : decode b_M_init 72 = .ok (.iconst 4, 1) := by decide +kernel
theorem d_M_init_73 : decode b_M_init 73 = .ok (.newarray .int, 2) := by decide +kernel
theorem d_M_init_75 : decode b_M_init 75 = .ok (.putfield 35, 3) := by decide +kernel
theorem d_M_init_78 : decode b_M_init 78 = .ok (.aload_n 0, 1) := by decide +kernel
theorem d_M_init_79 : decode b_M_init 79 = .ok (.iconst 4, 1) := by decide +kernel
theorem d_M_init_80 : decode b_M_init 80 = .ok (.newarray .int, 2) := by decide +kernel
theorem d_M_init_82 : decode b_M_init 82 = .ok (.putfield 38, 3) := by decide +kernel
theorem d_M_init_85 : decode b_M_init 85 = .ok (.aload_n 0, 1) := by decide +kernel
theorem d_M_init_86 : decode b_M_init 86 = .ok (.iconst 4, 1) := by decide +kernel
theorem d_M_init_87 : decode b_M_init 87 = .ok (.newarray .int, 2) := by decide +kernel
theorem d_M_init_89 : decode b_M_init 89 = .ok (.putfield 41, 3) := by decide +kernel
theorem d_M_init_92 : decode b_M_init 92 = .ok (.aload_n 0, 1) := by decide +kernel
theorem d_M_init_93 : decode b_M_init 93 = .ok (.bipush 16, 2) := by decide +kernel
theorem d_M_init_95 : decode b_M_init 95 = .ok (.newarray .int, 2) := by decide +kernel
theorem d_M_init_97 : decode b_M_init 97 = .ok (.putfield 44, 3) := by decide +kernel
theorem d_M_init_100 : decode b_M_init 100 = .ok (.aload_n 0, 1) := by decide +kernel
theorem d_M_init_101 : decode b_M_init 101 = .ok (.iconst 4, 1) := by decide +kernel
theorem d_M_init_102 : decode b_M_init 102 = .ok (.newarray .int, 2) := by decide +kernel
theorem d_M_init_104 : decode b_M_init 104 = .ok (.putfield 47, 3) := by decide +kernel
theorem d_M_init_107 : decode b_M_init 107 = .ok (.aload_n 0, 1) := by decide +kernel
theorem d_M_init_108 : decode b_M_init 108 = .ok (.iload_n 1, 1) := by decide +kernel
theorem d_M_init_109 : decode b_M_init 109 = .ok (.iconst 1, 1) := by decide +kernel
theorem d_M_init_110 : decode b_M_init 110 = .ok (.if_icmp .ge 7, 3) := by decide +kernel
theorem d_M_init_113 : decode b_M_init 113 = .ok (.iconst 1, 1) := by decide +kernel
theorem d_M_init_114 : decode b_M_init 114 = .ok (.goto 13, 3) := by decide +kernel
theorem d_M_init_117 : decode b_M_init 117 = .ok (.iload_n 1, 1) := by decide +kernel
theorem d_M_init_118 : decode b_M_init 118 = .ok (.iconst 4, 1) := by decide +kernel
theorem d_M_init_119 : decode b_M_init 119 = .ok (.if_icmp .le 7, 3) := by decide +kernel
theorem d_M_init_122 : decode b_M_init 122 = .ok (.iconst 4, 1) := by decide +kernel
theorem d_M_init_123 : decode b_M_init 123 = .ok (.goto 4, 3) := by decide +kernel
theorem d_M_init_126 : decode b_M_init 126 = .ok (.iload_n 1, 1) := by decide +kernel
theorem d_M_init_127 : decode b_M_init 127 = .ok (.putfield 50, 3) := by decide +kernel
theorem d_M_init_130 : decode b_M_init 130 = .ok (.aload_n 0, 1) := by decide +kernel
theorem d_M_init_131 : decode b_M_init 131 = .ok (.iload_n 2, 1) := by decide +kernel
theorem d_M_init_132 : decode b_M_init 132 = .ok (.aload_n 0, 1) := by decide +kernel
theorem d_M_init_133 : decode b_M_init 133 = .ok (.getfield 50, 3) := by decide +kernel
theorem d_M_init_136 : decode b_M_init 136 = .ok (.if_icmp .ge 10, 3) := by decide +kernel
theorem d_M_init_139 : decode b_M_init 139 = .ok (.aload_n 0, 1) := by decide +kernel
theorem d_M_init_140 : decode b_M_init 140 = .ok (.getfield 50, 3) := by decide +kernel
theorem d_M_init_143 : decode b_M_init 143 = .ok (.goto 15, 3) := by decide +kernel
theorem d_M_init_146 : decode b_M_init 146 = .ok (.iload_n 2, 1) := by decide +kernel
theorem d_M_init_147 : decode b_M_init 147 = .ok (.bipush 7, 2) := by decide +kernel
theorem d_M_init_149 : decode b_M_init 149 = .ok (.if_icmp .le 8, 3) := by decide +kernel
theorem d_M_init_152 : decode b_M_init 152 = .ok (.bipush 7, 2) := by decide +kernel
theorem d_M_init_154 : decode b_M_init 154 = .ok (.goto 4, 3) := by decide +kernel
theorem d_M_init_157 : decode b_M_init 157 = .ok (.iload_n 2, 1) := by decide +kernel
theorem d_M_init_158 : decode b_M_init 158 = .ok (.putfield 54, 3) := by decide +kernel
theorem d_M_init_161 : decode b_M_init 161 = .ok (.iconst 0, 1) := by decide +kernel
theorem d_M_init_162 : decode b_M_init 162 = .ok (.istore_n 3, 1) := by decide +kernel
theorem d_M_init_163 : decode b_M_init 163 = .ok (.iload_n 3, 1) := by decide +kernel
theorem d_M_init_164 : decode b_M_init 164 = .ok (.bipush 7, 2) := by decide +kernel
theorem d_M_init_166 : decode b_M_init 166 = .ok (.if_icmp .ge 16, 3) := by decide +kernel
theorem d_M_init_169 : decode b_M_init 169 = .ok (.aload_n 0, 1) := by decide +kernel
theorem d_M_init_170 : decode b_M_init 170 = .ok (.getfield 7, 3) := by decide +kernel
theorem d_M_init_173 : decode b_M_init 173 = .ok (.iload_n 3, 1) := by decide +kernel
theorem d_M_init_174 : decode b_M_init 174 = .ok (.iconst 1, 1) := by decide +kernel
theorem d_M_init_175 : decode b_M_init 175 = .ok (.bastore, 1) := by decide +kernel
theorem d_M_init_176 : decode b_M_init 176 = .ok (.iinc 3 1, 3) := by decide +kernel
theorem d_M_init_179 : decode b_M_init 179 = .ok (.goto (-16), 3) := by decide +kernel
theorem d_M_init_182 : decode b_M_init 182 = .ok (.return_, 1) := by decide +kernel
theorem d_M_mix_0 : decode b_M_mix 0 = .ok (.iload_n 1, 1) := by decide +kernel
theorem d_M_mix_1 : decode b_M_mix 1 = .ok (.iload_n 2, 1) := by decide +kernel
theorem d_M_mix_2 : decode b_M_mix 2 = .ok (.ldc 57, 2) := by decide +kernel
theorem d_M_mix_4 : decode b_M_mix 4 = .ok (.imul, 1) := by decide +kernel
theorem d_M_mix_5 : decode b_M_mix 5 = .ok (.sipush 12345, 3) := by decide +kernel
theorem d_M_mix_8 : decode b_M_mix 8 = .ok (.iadd, 1) := by decide +kernel
theorem d_M_mix_9 : decode b_M_mix 9 = .ok (.ixor, 1) := by decide +kernel
theorem d_M_mix_10 : decode b_M_mix 10 = .ok (.ldc 58, 2) := by decide +kernel
theorem d_M_mix_12 : decode b_M_mix 12 = .ok (.imul, 1) := by decide +kernel
theorem d_M_mix_13 : decode b_M_mix 13 = .ok (.istore_n 3, 1) := by decide +kernel
theorem d_M_mix_14 : decode b_M_mix 14 = .ok (.iload_n 3, 1) := by decide +kernel
theorem d_M_mix_15 : decode b_M_mix 15 = .ok (.iload_n 3, 1) := by decide +kernel
theorem d_M_mix_16 : decode b_M_mix 16 = .ok (.bipush 15, 2) := by decide +kernel
theorem d_M_mix_18 : decode b_M_mix 18 = .ok (.iushr, 1) := by decide +kernel
theorem d_M_mix_19 : decode b_M_mix 19 = .ok (.ixor, 1) := by decide +kernel
theorem d_M_mix_20 : decode b_M_mix 20 = .ok (.ireturn, 1) := by decide +kernel
theorem d_M_key_0 : decode b_M_key 0 = .ok (.iload_n 2, 1) := by decide +kernel
theorem d_M_key_1 : decode b_M_key 1 = .ok (.iconst 1, 1) := by decide +kernel
theorem d_M_key_2 : decode b_M_key 2 = .ok (.if_icmp .ne 10, 3) := by decide +kernel
theorem d_M_key_5 : decode b_M_key 5 = .ok (.aload_n 0, 1) := by decide +kernel
theorem d_M_key_6 : decode b_M_key 6 = .ok (.iload_n 1, 1) := by decide +kernel
theorem d_M_key_7 : decode b_M_key 7 = .ok (.iconst 1, 1) := by decide +kernel
theorem d_M_key_8 : decode b_M_key 8 = .ok (.invokevirtual 59, 3) := by decide +kernel
theorem d_M_key_11 : decode b_M_key 11 = .ok (.ireturn, 1) := by decide +kernel
theorem d_M_key_12 : decode b_M_key 12 = .ok (.iload_n 2, 1) := by decide +kernel
theorem d_M_key_13 : decode b_M_key 13 = .ok (.iconst 2, 1) := by decide +kernel
theorem d_M_key_14 : decode b_M_key 14 = .ok (.if_icmp .ne 10, 3) := by decide +kernel
theorem d_M_key_17 : decode b_M_key 17 = .ok (.aload_n 0, 1) := by decide +kernel
theorem d_M_key_18 : decode b_M_key 18 = .ok (.iload_n 1, 1) := by decide +kernel
theorem d_M_key_19 : decode b_M_key 19 = .ok (.iconst 2, 1) := by decide +kernel
theorem d_M_key_20 : decode b_M_key 20 = .ok (.invokevirtual 59, 3) := by decide +kernel
theorem d_M_key_23 : decode b_M_key 23 = .ok (.ireturn, 1) := by decide +kernel
theorem d_M_key_24 : decode b_M_key 24 = .ok (.iload_n 2, 1) := by decide +kernel
theorem d_M_key_25 : decode b_M_key 25 = .ok (.iconst 3, 1) := by decide +kernel
theorem d_M_key_26 : decode b_M_key 26 = .ok (.if_icmp .ne 17, 3) := by decide +kernel
theorem d_M_key_29 : decode b_M_key 29 = .ok (.aload_n 0, 1) := by decide +kernel
theorem d_M_key_30 : decode b_M_key 30 = .ok (.aload_n 0, 1) := by decide +kernel
theorem d_M_key_31 : decode b_M_key 31 = .ok (.iload_n 1, 1) := by decide +kernel
theorem d_M_key_32 : decode b_M_key 32 = .ok (.iconst 1, 1) := by decide +kernel
theorem d_M_key_33 : decode b_M_key 33 = .ok (.invokevirtual 59, 3) := by decide +kernel
theorem d_M_key_36 : decode b_M_key 36 = .ok (.iconst 2, 1) := by decide +kernel
theorem d_M_key_37 : decode b_M_key 37 = .ok (.invokevirtual 59, 3) := by decide +kernel
theorem d_M_key_40 : decode b_M_key 40 = .ok (.goto 4, 3) := by decide +kernel
theorem d_M_key_43 : decode b_M_key 43 = .ok (.iconst 0, 1) := by decide +kernel
theorem d_M_key_44 : decode b_M_key 44 = .ok (.ireturn, 1) := by decide +kernel
theorem d_M_fileOf_0 : decode b_M_fileOf 0 = .ok (.iconst 0, 1) := by decide +kernel
theorem d_M_fileOf_1 : decode b_M_fileOf 1 = .ok (.istore_n 2, 1) := by decide +kernel
theorem d_M_fileOf_2 : decode b_M_fileOf 2 = .ok (.iload_n 2, 1) := by decide +kernel
theorem d_M_fileOf_3 : decode b_M_fileOf 3 = .ok (.aload_n 0, 1) := by decide +kernel
theorem d_M_fileOf_4 : decode b_M_fileOf 4 = .ok (.getfield 63, 3) := by decide +kernel
theorem d_M_fileOf_7 : decode b_M_fileOf 7 = .ok (.if_icmp .ge 21, 3) := by decide +kernel
theorem d_M_fileOf_10 : decode b_M_fileOf 10 = .ok (.aload_n 0, 1) := by decide +kernel
theorem d_M_fileOf_11 : decode b_M_fileOf 11 = .ok (.getfield 16, 3) := by decide +kernel
theorem d_M_fileOf_14 : decode b_M_fileOf 14 = .ok (.iload_n 2, 1) := by decide +kernel
theorem d_M_fileOf_15 : decode b_M_fileOf 15 = .ok (.iaload, 1) := by decide +kernel
theorem d_M_fileOf_16 : decode b_M_fileOf 16 = .ok (.iload_n 1, 1) := by decide +kernel
theorem d_M_fileOf_17 : decode b_M_fileOf 17 = .ok (.if_icmp .ne 5, 3) := by decide +kernel
theorem d_M_fileOf_20 : decode b_M_fileOf 20 = .ok (.iload_n 2, 1) := by decide +kernel
theorem d_M_fileOf_21 : decode b_M_fileOf 21 = .ok (.ireturn, 1) := by decide +kernel
theorem d_M_fileOf_22 : decode b_M_fileOf 22 = .ok (.iinc 2 1, 3) := by decide +kernel
theorem d_M_fileOf_25 : decode b_M_fileOf 25 = .ok (.goto (-23), 3) := by decide +kernel
theorem d_M_fileOf_28 : decode b_M_fileOf 28 = .ok (.iconst (-1), 1) := by decide +kernel
theorem d_M_fileOf_29 : decode b_M_fileOf 29 = .ok (.ireturn, 1) := by decide +kernel
theorem d_M_create_0 : decode b_M_create 0 = .ok (.aload_n 0, 1) := by decide +kernel
theorem d_M_create_1 : decode b_M_create 1 = .ok (.iload_n 1, 1) := by decide +kernel
theorem d_M_create_2 : decode b_M_create 2 = .ok (.iconst 3, 1) := by decide +kernel
theorem d_M_create_3 : decode b_M_create 3 = .ok (.invokevirtual 66, 3) := by decide +kernel
theorem d_M_create_6 : decode b_M_create 6 = .ok (.istore_n 2, 1) := by decide +kernel
theorem d_M_create_7 : decode b_M_create 7 = .ok (.aload_n 0, 1) := by decide +kernel
theorem d_M_create_8 : decode b_M_create 8 = .ok (.iload_n 2, 1) := by decide +kernel
theorem d_M_create_9 : decode b_M_create 9 = .ok (.invokevirtual 69, 3) := by decide +kernel
theorem d_M_create_12 : decode b_M_create 12 = .ok (.ifCond .lt 5, 3) := by decide +kernel
theorem d_M_create_15 : decode b_M_create 15 = .ok (.iconst (-1), 1) := by decide +kernel
theorem d_M_create_16 : decode b_M_create 16 = .ok (.ireturn, 1) := by decide +kernel
theorem d_M_create_17 : decode b_M_create 17 = .ok (.aload_n 0, 1) := by decide +kernel
theorem d_M_create_18 : decode b_M_create 18 = .ok (.getfield 63, 3) := by decide +kernel
theorem d_M_create_21 : decode b_M_create 21 = .ok (.bipush 6, 2) := by decide +kernel
theorem d_M_create_23 : decode b_M_create 23 = .ok (.if_icmp .ne 6, 3) := by decide +kernel
theorem d_M_create_26 : decode b_M_create 26 = .ok (.bipush (-2), 2) := by decide +kernel
theorem d_M_create_28 : decode b_M_create 28 = .ok (.ireturn, 1) := by decide +kernel
theorem d_M_create_29 : decode b_M_create 29 = .ok (.aload_n 0, 1) := by decide +kernel
theorem d_M_create_30 : decode b_M_create 30 = .ok (.getfield 16, 3) := by decide +kernel
theorem d_M_create_33 : decode b_M_create 33 = .ok (.aload_n 0, 1) := by decide +kernel
theorem d_M_create_34 : decode b_M_create 34 = .ok (.getfield 63, 3) := by decide +kernel
theorem d_M_create_37 : decode b_M_create 37 = .ok (.iload_n 2, 1) := by decide +kernel
theorem d_M_create_38 : decode b_M_create 38 = .ok (.iastore, 1) := by decide +kernel
theorem d_M_create_39 : decode b_M_create 39 = .ok (.aload_n 0, 1) := by decide +kernel
theorem d_M_create_40 : decode b_M_create 40 = .ok (.dup, 1) := by decide +kernel
theorem d_M_create_41 : decode b_M_create 41 = .ok (.getfield 63, 3) := by decide +kernel
theorem d_M_create_44 : decode b_M_create 44 = .ok (.iconst 1, 1) := by decide +kernel
theorem d_M_create_45 : decode b_M_create 45 = .ok (.iadd, 1) := by decide +kernel
theorem d_M_create_46 : decode b_M_create 46 = .ok (.putfield 63, 3) := by decide +kernel
theorem d_M_create_49 : decode b_M_create 49 = .ok (.aload_n 0, 1) := by decide +kernel
theorem d_M_create_50 : decode b_M_create 50 = .ok (.getfield 63, 3) := by decide +kernel
theorem d_M_create_53 : decode b_M_create 53 = .ok (.iconst 1, 1) := by decide +kernel
theorem d_M_create_54 : decode b_M_create 54 = .ok (.isub, 1) := by decide +kernel
theorem d_M_create_55 : decode b_M_create 55 = .ok (.ireturn, 1) := by decide +kernel
theorem d_M_draft_0 : decode b_M_draft 0 = .ok (.iload_n 1, 1) := by decide +kernel
theorem d_M_draft_1 : decode b_M_draft 1 = .ok (.ifCond .lt 11, 3) := by decide +kernel
theorem d_M_draft_4 : decode b_M_draft 4 = .ok (.iload_n 1, 1) := by decide +kernel
theorem d_M_draft_5 : decode b_M_draft 5 = .ok (.aload_n 0, 1) := by decide +kernel
theorem d_M_draft_6 : decode b_M_draft 6 = .ok (.getfield 50, 3) := by decide +kernel
theorem d_M_draft_9 : decode b_M_draft 9 = .ok (.if_icmp .lt 5, 3) := by decide +kernel
theorem d_M_draft_12 : decode b_M_draft 12 = .ok (.iconst (-1), 1) := by decide +kernel
theorem d_M_draft_13 : decode b_M_draft 13 = .ok (.ireturn, 1) := by decide +kernel
theorem d_M_draft_14 : decode b_M_draft 14 = .ok (.aload_n 0, 1) := by decide +kernel
theorem d_M_draft_15 : decode b_M_draft 15 = .ok (.getfield 35, 3) := by decide +kernel
theorem d_M_draft_18 : decode b_M_draft 18 = .ok (.iload_n 1, 1) := by decide +kernel
theorem d_M_draft_19 : decode b_M_draft 19 = .ok (.iload_n 2, 1) := by decide +kernel
theorem d_M_draft_20 : decode b_M_draft 20 = .ok (.iastore, 1) := by decide +kernel
theorem d_M_draft_21 : decode b_M_draft 21 = .ok (.iconst 0, 1) := by decide +kernel
theorem d_M_draft_22 : decode b_M_draft 22 = .ok (.ireturn, 1) := by decide +kernel
theorem d_M_product_0 : decode b_M_product 0 = .ok (.iconst 0, 1) := by decide +kernel
theorem d_M_product_1 : decode b_M_product 1 = .ok (.istore_n 3, 1) := by decide +kernel
theorem d_M_product_2 : decode b_M_product 2 = .ok (.bipush 7, 2) := by decide +kernel
theorem d_M_product_4 : decode b_M_product 4 = .ok (.istore 4, 2) := by decide +kernel
theorem d_M_product_6 : decode b_M_product 6 = .ok (.iload 4, 2) := by decide +kernel
theorem d_M_product_8 : decode b_M_product 8 = .ok (.ifCond .lt 39, 3) := by decide +kernel
theorem d_M_product_11 : decode b_M_product 11 = .ok (.iload_n 3, 1) := by decide +kernel
theorem d_M_product_12 : decode b_M_product 12 = .ok (.iconst 1, 1) := by decide +kernel
theorem d_M_product_13 : decode b_M_product 13 = .ok (.ishl, 1) := by decide +kernel
theorem d_M_product_14 : decode b_M_product 14 = .ok (.istore_n 3, 1) := by decide +kernel
theorem d_M_product_15 : decode b_M_product 15 = .ok (.iload_n 3, 1) := by decide +kernel
theorem d_M_product_16 : decode b_M_product 16 = .ok (.sipush 255, 3) := by decide +kernel
theorem d_M_product_19 : decode b_M_product 19 = .ok (.if_icmp .le 9, 3) := by decide +kernel
theorem d_M_product_22 : decode b_M_product 22 = .ok (.iload_n 3, 1) := by decide +kernel
theorem d_M_product_23 : decode b_M_product 23 = .ok (.sipush 285, 3) := by decide +kernel
theorem d_M_product_26 : decode b_M_product 26 = .ok (.ixor, 1) := by decide +kernel
theorem d_M_product_27 : decode b_M_product 27 = .ok (.istore_n 3, 1) := by decide +kernel
theorem d_M_product_28 : decode b_M_product 28 = .ok (.iload_n 2, 1) := by decide +kernel
theorem d_M_product_29 : decode b_M_product 29 = .ok (.iload 4, 2) := by decide +kernel
theorem d_M_product_31 : decode b_M_product 31 = .ok (.ishr, 1) := by decide +kernel
theorem d_M_product_32 : decode b_M_product 32 = .ok (.iconst 1, 1) := by decide +kernel
theorem d_M_product_33 : decode b_M_product 33 = .ok (.iand, 1) := by decide +kernel
theorem d_M_product_34 : decode b_M_product 34 = .ok (.ifCond .eq 7, 3) := by decide +kernel
theorem d_M_product_37 : decode b_M_product 37 = .ok (.iload_n 3, 1) := by decide +kernel
theorem d_M_product_38 : decode b_M_product 38 = .ok (.iload_n 1, 1) := by decide +kernel
theorem d_M_product_39 : decode b_M_product 39 = .ok (.ixor, 1) := by decide +kernel
theorem d_M_product_40 : decode b_M_product 40 = .ok (.istore_n 3, 1) := by decide +kernel
theorem d_M_product_41 : decode b_M_product 41 = .ok (.iinc 4 (-1), 3) := by decide +kernel
theorem d_M_product_44 : decode b_M_product 44 = .ok (.goto (-38), 3) := by decide +kernel
theorem d_M_product_47 : decode b_M_product 47 = .ok (.iload_n 3, 1) := by decide +kernel
theorem d_M_product_48 : decode b_M_product 48 = .ok (.ireturn, 1) := by decide +kernel
theorem d_M_scaled_0 : decode b_M_scaled 0 = .ok (.iconst 0, 1) := by decide +kernel
theorem d_M_scaled_1 : decode b_M_scaled 1 = .ok (.istore_n 3, 1) := by decide +kernel
theorem d_M_scaled_2 : decode b_M_scaled 2 = .ok (.iconst 0, 1) := by decide +kernel
theorem d_M_scaled_3 : decode b_M_scaled 3 = .ok (.istore 4, 2) := by decide +kernel
theorem d_M_scaled_5 : decode b_M_scaled 5 = .ok (.iload 4, 2) := by decide +kernel
theorem d_M_scaled_7 : decode b_M_scaled 7 = .ok (.iconst 4, 1) := by decide +kernel
theorem d_M_scaled_8 : decode b_M_scaled 8 = .ok (.if_icmp .ge 34, 3) := by decide +kernel
theorem d_M_scaled_11 : decode b_M_scaled 11 = .ok (.iload_n 3, 1) := by decide +kernel
theorem d_M_scaled_12 : decode b_M_scaled 12 = .ok (.aload_n 0, 1) := by decide +kernel
theorem d_M_scaled_13 : decode b_M_scaled 13 = .ok (.iload_n 1, 1) := by decide +kernel
theorem d_M_scaled_14 : decode b_M_scaled 14 = .ok (.bipush 8, 2) := by decide +kernel
theorem d_M_scaled_16 : decode b_M_scaled 16 = .ok (.iload 4, 2) := by decide +kernel
theorem d_M_scaled_18 : decode b_M_scaled 18 = .ok (.imul, 1) := by decide +kernel
theorem d_M_scaled_19 : decode b_M_scaled 19 = .ok (.iushr, 1) := by decide +kernel
theorem d_M_scaled_20 : decode b_M_scaled 20 = .ok (.sipush 255, 3) := by decide +kernel
theorem d_M_scaled_23 : decode b_M_scaled 23 = .ok (.iand, 1) := by decide +kernel
theorem d_M_scaled_24 : decode b_M_scaled 24 = .ok (.iload_n 2, 1) := by decide +kernel
theorem d_M_scaled_25 : decode b_M_scaled 25 = .ok (.invokevirtual 73, 3) := by decide +kernel
theorem d_M_scaled_28 : decode b_M_scaled 28 = .ok (.bipush 8, 2) := by decide +kernel
theorem d_M_scaled_30 : decode b_M_scaled 30 = .ok (.iload 4, 2) := by decide +kernel
theorem d_M_scaled_32 : decode b_M_scaled 32 = .ok (.imul, 1) := by decide +kernel
theorem d_M_scaled_33 : decode b_M_scaled 33 = .ok (.ishl, 1) := by decide +kernel
theorem d_M_scaled_34 : decode b_M_scaled 34 = .ok (.ior, 1) := by decide +kernel
theorem d_M_scaled_35 : decode b_M_scaled 35 = .ok (.istore_n 3, 1) := by decide +kernel
theorem d_M_scaled_36 : decode b_M_scaled 36 = .ok (.iinc 4 1, 3) := by decide +kernel
theorem d_M_scaled_39 : decode b_M_scaled 39 = .ok (.goto (-34), 3) := by decide +kernel
theorem d_M_scaled_42 : decode b_M_scaled 42 = .ok (.iload_n 3, 1) := by decide +kernel
theorem d_M_scaled_43 : decode b_M_scaled 43 = .ok (.ireturn, 1) := by decide +kernel
theorem d_M_power_0 : decode b_M_power 0 = .ok (.iconst 1, 1) := by decide +kernel
theorem d_M_power_1 : decode b_M_power 1 = .ok (.istore_n 3, 1) := by decide +kernel
theorem d_M_power_2 : decode b_M_power 2 = .ok (.iconst 0, 1) := by decide +kernel
theorem d_M_power_3 : decode b_M_power 3 = .ok (.istore 4, 2) := by decide +kernel
theorem d_M_power_5 : decode b_M_power 5 = .ok (.iload 4, 2) := by decide +kernel
theorem d_M_power_7 : decode b_M_power 7 = .ok (.iload_n 2, 1) := by decide +kernel
theorem d_M_power_8 : decode b_M_power 8 = .ok (.if_icmp .ge 16, 3) := by decide +kernel
theorem d_M_power_11 : decode b_M_power 11 = .ok (.aload_n 0, 1) := by decide +kernel
theorem d_M_power_12 : decode b_M_power 12 = .ok (.iload_n 3, 1) := by decide +kernel
theorem d_M_power_13 : decode b_M_power 13 = .ok (.iload_n 1, 1) := by decide +kernel
theorem d_M_power_14 : decode b_M_power 14 = .ok (.invokevirtual 73, 3) := by decide +kernel
theorem d_M_power_17 : decode b_M_power 17 = .ok (.istore_n 3, 1) := by decide +kernel
theorem d_M_power_18 : decode b_M_power 18 = .ok (.iinc 4 1, 3) := by decide +kernel
theorem d_M_power_21 : decode b_M_power 21 = .ok (.goto (-16), 3) := by decide +kernel
theorem d_M_power_24 : decode b_M_power 24 = .ok (.iload_n 3, 1) := by decide +kernel
theorem d_M_power_25 : decode b_M_power 25 = .ok (.ireturn, 1) := by decide +kernel
theorem d_M_shareAt_0 : decode b_M_shareAt 0 = .ok (.iconst 0, 1) := by decide +kernel
theorem d_M_shareAt_1 : decode b_M_shareAt 1 = .ok (.istore_n 2, 1) := by decide +kernel
theorem d_M_shareAt_2 : decode b_M_shareAt 2 = .ok (.iconst 0, 1) := by decide +kernel
theorem d_M_shareAt_3 : decode b_M_shareAt 3 = .ok (.istore_n 3, 1) := by decide +kernel
theorem d_M_shareAt_4 : decode b_M_shareAt 4 = .ok (.iload_n 3, 1) := by decide +kernel
theorem d_M_shareAt_5 : decode b_M_shareAt 5 = .ok (.aload_n 0, 1) := by decide +kernel
theorem d_M_shareAt_6 : decode b_M_shareAt 6 = .ok (.getfield 50, 3) := by decide +kernel
theorem d_M_shareAt_9 : decode b_M_shareAt 9 = .ok (.if_icmp .ge 30, 3) := by decide +kernel
theorem d_M_shareAt_12 : decode b_M_shareAt 12 = .ok (.iload_n 2, 1) := by decide +kernel
theorem d_M_shareAt_13 : decode b_M_shareAt 13 = .ok (.aload_n 0, 1) := by decide +kernel
theorem d_M_shareAt_14 : decode b_M_shareAt 14 = .ok (.aload_n 0, 1) := by decide +kernel
theorem d_M_shareAt_15 : decode b_M_shareAt 15 = .ok (.getfield 41, 3) := by decide +kernel
theorem d_M_shareAt_18 : decode b_M_shareAt 18 = .ok (.iload_n 3, 1) := by decide +kernel
theorem d_M_shareAt_19 : decode b_M_shareAt 19 = .ok (.iaload, 1) := by decide +kernel
theorem d_M_shareAt_20 : decode b_M_shareAt 20 = .ok (.aload_n 0, 1) := by decide +kernel
theorem d_M_shareAt_21 : decode b_M_shareAt 21 = .ok (.iload_n 1, 1) := by decide +kernel
theorem d_M_shareAt_22 : decode b_M_shareAt 22 = .ok (.iconst 1, 1) := by decide +kernel
theorem d_M_shareAt_23 : decode b_M_shareAt 23 = .ok (.iadd, 1) := by decide +kernel
theorem d_M_shareAt_24 : decode b_M_shareAt 24 = .ok (.iload_n 3, 1) := by decide +kernel
theorem d_M_shareAt_25 : decode b_M_shareAt 25 = .ok (.invokevirtual 76, 3) := by decide +kernel
theorem d_M_shareAt_28 : decode b_M_shareAt 28 = .ok (.invokevirtual 79, 3) := by decide +kernel
theorem d_M_shareAt_31 : decode b_M_shareAt 31 = .ok (.ixor, 1) := by decide +kernel
theorem d_M_shareAt_32 : decode b_M_shareAt 32 = .ok (.istore_n 2, 1) := by decide +kernel
theorem d_M_shareAt_33 : decode b_M_shareAt 33 = .ok (.iinc 3 1, 3) := by decide +kernel
theorem d_M_shareAt_36 : decode b_M_shareAt 36 = .ok (.goto (-32), 3) := by decide +kernel
theorem d_M_shareAt_39 : decode b_M_shareAt 39 = .ok (.iload_n 2, 1) := by decide +kernel
theorem d_M_shareAt_40 : decode b_M_shareAt 40 = .ok (.ireturn, 1) := by decide +kernel
theorem d_M_rootOf_0 : decode b_M_rootOf 0 = .ok (.bipush 7, 2) := by decide +kernel
theorem d_M_rootOf_2 : decode b_M_rootOf 2 = .ok (.istore_n 3, 1) := by decide +kernel
theorem d_M_rootOf_3 : decode b_M_rootOf 3 = .ok (.iconst 0, 1) := by decide +kernel
theorem d_M_rootOf_4 : decode b_M_rootOf 4 = .ok (.istore 4, 2) := by decide +kernel
theorem d_M_rootOf_6 : decode b_M_rootOf 6 = .ok (.iload 4, 2) := by decide +kernel
theorem d_M_rootOf_8 : decode b_M_rootOf 8 = .ok (.aload_n 0, 1) := by decide +kernel
theorem d_M_rootOf_9 : decode b_M_rootOf 9 = .ok (.getfield 54, 3) := by decide +kernel
theorem d_M_rootOf_12 : decode b_M_rootOf 12 = .ok (.if_icmp .ge 29, 3) := by decide +kernel
theorem d_M_rootOf_15 : decode b_M_rootOf 15 = .ok (.aload_n 0, 1) := by decide +kernel
theorem d_M_rootOf_16 : decode b_M_rootOf 16 = .ok (.iload_n 3, 1) := by decide +kernel
theorem d_M_rootOf_17 : decode b_M_rootOf 17 = .ok (.aload_n 0, 1) := by decide +kernel
theorem d_M_rootOf_18 : decode b_M_rootOf 18 = .ok (.getfield 29, 3) := by decide +kernel
theorem d_M_rootOf_21 : decode b_M_rootOf 21 = .ok (.iload_n 1, 1) := by decide +kernel
theorem d_M_rootOf_22 : decode b_M_rootOf 22 = .ok (.bipush 10, 2) := by decide +kernel
theorem d_M_rootOf_24 : decode b_M_rootOf 24 = .ok (.imul, 1) := by decide +kernel
theorem d_M_rootOf_25 : decode b_M_rootOf 25 = .ok (.iconst 3, 1) := by decide +kernel
theorem d_M_rootOf_26 : decode b_M_rootOf 26 = .ok (.iadd, 1) := by decide +kernel
theorem d_M_rootOf_27 : decode b_M_rootOf 27 = .ok (.iload 4, 2) := by decide +kernel
theorem d_M_rootOf_29 : decode b_M_rootOf 29 = .ok (.iadd, 1) := by decide +kernel
theorem d_M_rootOf_30 : decode b_M_rootOf 30 = .ok (.iaload, 1) := by decide +kernel
theorem d_M_rootOf_31 : decode b_M_rootOf 31 = .ok (.invokevirtual 59, 3) := by decide +kernel
theorem d_M_rootOf_34 : decode b_M_rootOf 34 = .ok (.istore_n 3, 1) := by decide +kernel
theorem d_M_rootOf_35 : decode b_M_rootOf 35 = .ok (.iinc 4 1, 3) := by decide +kernel
theorem d_M_rootOf_38 : decode b_M_rootOf 38 = .ok (.goto (-32), 3) := by decide +kernel
theorem d_M_rootOf_41 : decode b_M_rootOf 41 = .ok (.aload_n 0, 1) := by decide +kernel
theorem d_M_rootOf_42 : decode b_M_rootOf 42 = .ok (.iload_n 3, 1) := by decide +kernel
theorem d_M_rootOf_43 : decode b_M_rootOf 43 = .ok (.iload_n 2, 1) := by decide +kernel
theorem d_M_rootOf_44 : decode b_M_rootOf 44 = .ok (.invokevirtual 59, 3) := by decide +kernel
theorem d_M_rootOf_47 : decode b_M_rootOf 47 = .ok (.ireturn, 1) := by decide +kernel
theorem d_M_upCount_0 : decode b_M_upCount 0 = .ok (.iconst 0, 1) := by decide +kernel
theorem d_M_upCount_1 : decode b_M_upCount 1 = .ok (.istore_n 1, 1) := by decide +kernel
theorem d_M_upCount_2 : decode b_M_upCount 2 = .ok (.iconst 0, 1) := by decide +kernel
theorem d_M_upCount_3 : decode b_M_upCount 3 = .ok (.istore_n 2, 1) := by decide +kernel
theorem d_M_upCount_4 : decode b_M_upCount 4 = .ok (.iload_n 2, 1) := by decide +kernel
theorem d_M_upCount_5 : decode b_M_upCount 5 = .ok (.aload_n 0, 1) := by decide +kernel
theorem d_M_upCount_6 : decode b_M_upCount 6 = .ok (.getfield 54, 3) := by decide +kernel
theorem d_M_upCount_9 : decode b_M_upCount 9 = .ok (.if_icmp .ge 21, 3) := by decide +kernel
theorem d_M_upCount_12 : decode b_M_upCount 12 = .ok (.aload_n 0, 1) := by decide +kernel
theorem d_M_upCount_13 : decode b_M_upCount 13 = .ok (.getfield 7, 3) := by decide +kernel
theorem d_M_upCount_16 : decode b_M_upCount 16 = .ok (.iload_n 2, 1) := by decide +kernel
theorem d_M_upCount_17 : decode b_M_upCount 17 = .ok (.baload, 1) := by decide +kernel
theorem d_M_upCount_18 : decode b_M_upCount 18 = .ok (.ifCond .eq 6, 3) := by decide +kernel
theorem d_M_upCount_21 : decode b_M_upCount 21 = .ok (.iinc 1 1, 3) := by decide +kernel
theorem d_M_upCount_24 : decode b_M_upCount 24 = .ok (.iinc 2 1, 3) := by decide +kernel
theorem d_M_upCount_27 : decode b_M_upCount 27 = .ok (.goto (-23), 3) := by decide +kernel
theorem d_M_upCount_30 : decode b_M_upCount 30 = .ok (.iload_n 1, 1) := by decide +kernel
theorem d_M_upCount_31 : decode b_M_upCount 31 = .ok (.ireturn, 1) := by decide +kernel
theorem d_M_copyRow_0 : decode b_M_copyRow 0 = .ok (.aload_n 0, 1) := by decide +kernel
theorem d_M_copyRow_1 : decode b_M_copyRow 1 = .ok (.getfield 32, 3) := by decide +kernel
theorem d_M_copyRow_4 : decode b_M_copyRow 4 = .ok (.iload_n 2, 1) := by decide +kernel
theorem d_M_copyRow_5 : decode b_M_copyRow 5 = .ok (.aload_n 0, 1) := by decide +kernel
theorem d_M_copyRow_6 : decode b_M_copyRow 6 = .ok (.getfield 32, 3) := by decide +kernel
theorem d_M_copyRow_9 : decode b_M_copyRow 9 = .ok (.iload_n 1, 1) := by decide +kernel
theorem d_M_copyRow_10 : decode b_M_copyRow 10 = .ok (.baload, 1) := by decide +kernel
theorem d_M_copyRow_11 : decode b_M_copyRow 11 = .ok (.bastore, 1) := by decide +kernel
theorem d_M_copyRow_12 : decode b_M_copyRow 12 = .ok (.iconst 0, 1) := by decide +kernel
theorem d_M_copyRow_13 : decode b_M_copyRow 13 = .ok (.istore_n 3, 1) := by decide +kernel
theorem d_M_copyRow_14 : decode b_M_copyRow 14 = .ok (.iload_n 3, 1) := by decide +kernel
theorem d_M_copyRow_15 : decode b_M_copyRow 15 = .ok (.bipush 10, 2) := by decide +kernel
theorem d_M_copyRow_17 : decode b_M_copyRow 17 = .ok (.if_icmp .ge 31, 3) := by decide +kernel
theorem d_M_copyRow_20 : decode b_M_copyRow 20 = .ok (.aload_n 0, 1) := by decide +kernel
theorem d_M_copyRow_21 : decode b_M_copyRow 21 = .ok (.getfield 29, 3) := by decide +kernel
theorem d_M_copyRow_24 : decode b_M_copyRow 24 = .ok (.iload_n 2, 1) := by decide +kernel
theorem d_M_copyRow_25 : decode b_M_copyRow 25 = .ok (.bipush 10, 2) := by decide +kernel
theorem d_M_copyRow_27 : decode b_M_copyRow 27 = .ok (.imul, 1) := by decide +kernel
theorem d_M_copyRow_28 : decode b_M_copyRow 28 = .ok (.iload_n 3, 1) := by decide +kernel
theorem d_M_copyRow_29 : decode b_M_copyRow 29 = .ok (.iadd, 1) := by decide +kernel
theorem d_M_copyRow_30 : decode b_M_copyRow 30 = .ok (.aload_n 0, 1) := by decide +kernel
theorem d_M_copyRow_31 : decode b_M_copyRow 31 = .ok (.getfield 29, 3) := by decide +kernel
theorem d_M_copyRow_34 : decode b_M_copyRow 34 = .ok (.iload_n 1, 1) := by decide +kernel
theorem d_M_copyRow_35 : decode b_M_copyRow 35 = .ok (.bipush 10, 2) := by decide +kernel
theorem d_M_copyRow_37 : decode b_M_copyRow 37 = .ok (.imul, 1) := by decide +kernel
theorem d_M_copyRow_38 : decode b_M_copyRow 38 = .ok (.iload_n 3, 1) := by decide +kernel
theorem d_M_copyRow_39 : decode b_M_copyRow 39 = .ok (.iadd, 1) := by decide +kernel
theorem d_M_copyRow_40 : decode b_M_copyRow 40 = .ok (.iaload, 1) := by decide +kernel
theorem d_M_copyRow_41 : decode b_M_copyRow 41 = .ok (.iastore, 1) := by decide +kernel
theorem d_M_copyRow_42 : decode b_M_copyRow 42 = .ok (.iinc 3 1, 3) := by decide +kernel
theorem d_M_copyRow_45 : decode b_M_copyRow 45 = .ok (.goto (-31), 3) := by decide +kernel
theorem d_M_copyRow_48 : decode b_M_copyRow 48 = .ok (.return_, 1) := by decide +kernel
theorem d_M_write_0 : decode b_M_write 0 = .ok (.aload_n 0, 1) := by decide +kernel
theorem d_M_write_1 : decode b_M_write 1 = .ok (.aload_n 0, 1) := by decide +kernel
theorem d_M_write_2 : decode b_M_write 2 = .ok (.iload_n 1, 1) := by decide +kernel
theorem d_M_write_3 : decode b_M_write 3 = .ok (.iconst 3, 1) := by decide +kernel
theorem d_M_write_4 : decode b_M_write 4 = .ok (.invokevirtual 66, 3) := by decide +kernel
theorem d_M_write_7 : decode b_M_write 7 = .ok (.invokevirtual 69, 3) := by decide +kernel
theorem d_M_write_10 : decode b_M_write 10 = .ok (.istore_n 2, 1) := by decide +kernel
theorem d_M_write_11 : decode b_M_write 11 = .ok (.iload_n 2, 1) := by decide +kernel
theorem d_M_write_12 : decode b_M_write 12 = .ok (.ifCond .ge 5, 3) := by decide +kernel
theorem d_M_write_15 : decode b_M_write 15 = .ok (.iconst (-1), 1) := by decide +kernel
theorem d_M_write_16 : decode b_M_write 16 = .ok (.ireturn, 1) := by decide +kernel
theorem d_M_write_17 : decode b_M_write 17 = .ok (.aload_n 0, 1) := by decide +kernel
theorem d_M_write_18 : decode b_M_write 18 = .ok (.invokevirtual 82, 3) := by decide +kernel
theorem d_M_write_21 : decode b_M_write 21 = .ok (.aload_n 0, 1) := by decide +kernel
theorem d_M_write_22 : decode b_M_write 22 = .ok (.getfield 50, 3) := by decide +kernel
theorem d_M_write_25 : decode b_M_write 25 = .ok (.if_icmp .ge 6, 3) := by decide +kernel
theorem d_M_write_28 : decode b_M_write 28 = .ok (.bipush (-3), 2) := by decide +kernel
theorem d_M_write_30 : decode b_M_write 30 = .ok (.ireturn, 1) := by decide +kernel
theorem d_M_write_31 : decode b_M_write 31 = .ok (.aload_n 0, 1) := by decide +kernel
theorem d_M_write_32 : decode b_M_write 32 = .ok (.getfield 20, 3) := by decide +kernel
theorem d_M_write_35 : decode b_M_write 35 = .ok (.iload_n 2, 1) := by decide +kernel
theorem d_M_write_36 : decode b_M_write 36 = .ok (.iaload, 1) := by decide +kernel
theorem d_M_write_37 : decode b_M_write 37 = .ok (.bipush 30, 2) := by decide +kernel
theorem d_M_write_39 : decode b_M_write 39 = .ok (.if_icmp .ne 6, 3) := by decide +kernel
theorem d_M_write_42 : decode b_M_write 42 = .ok (.bipush (-2), 2) := by decide +kernel
theorem d_M_write_44 : decode b_M_write 44 = .ok (.ireturn, 1) := by decide +kernel
theorem d_M_write_45 : decode b_M_write 45 = .ok (.aload_n 0, 1) := by decide +kernel
theorem d_M_write_46 : decode b_M_write 46 = .ok (.getfield 20, 3) := by decide +kernel
theorem d_M_write_49 : decode b_M_write 49 = .ok (.iload_n 2, 1) := by decide +kernel
theorem d_M_write_50 : decode b_M_write 50 = .ok (.dup2, 1) := by decide +kernel
theorem d_M_write_51 : decode b_M_write 51 = .ok (.iaload, 1) := by decide +kernel
theorem d_M_write_52 : decode b_M_write 52 = .ok (.iconst 1, 1) := by decide +kernel
theorem d_M_write_53 : decode b_M_write 53 = .ok (.iadd, 1) := by decide +kernel
theorem d_M_write_54 : decode b_M_write 54 = .ok (.iastore, 1) := by decide +kernel
theorem d_M_write_55 : decode b_M_write 55 = .ok (.aload_n 0, 1) := by decide +kernel
theorem d_M_write_56 : decode b_M_write 56 = .ok (.getfield 20, 3) := by decide +kernel
theorem d_M_write_59 : decode b_M_write 59 = .ok (.iload_n 2, 1) := by decide +kernel
theorem d_M_write_60 : decode b_M_write 60 = .ok (.iaload, 1) := by decide +kernel
theorem d_M_write_61 : decode b_M_write 61 = .ok (.istore_n 3, 1) := by decide +kernel
theorem d_M_write_62 : decode b_M_write 62 = .ok (.aload_n 0, 1) := by decide +kernel
theorem d_M_write_63 : decode b_M_write 63 = .ok (.iload_n 1, 1) := by decide +kernel
theorem d_M_write_64 : decode b_M_write 64 = .ok (.iconst 1, 1) := by decide +kernel
theorem d_M_write_65 : decode b_M_write 65 = .ok (.invokevirtual 59, 3) := by decide +kernel
theorem d_M_write_68 : decode b_M_write 68 = .ok (.istore 4, 2) := by decide +kernel
theorem d_M_write_70 : decode b_M_write 70 = .ok (.iconst 0, 1) := by decide +kernel
theorem d_M_write_71 : decode b_M_write 71 = .ok (.istore 5, 2) := by decide +kernel
theorem d_M_write_73 : decode b_M_write 73 = .ok (.iload 5, 2) := by decide +kernel
theorem d_M_write_75 : decode b_M_write 75 = .ok (.aload_n 0, 1) := by decide +kernel
theorem d_M_write_76 : decode b_M_write 76 = .ok (.getfield 50, 3) := by decide +kernel
theorem d_M_write_79 : decode b_M_write 79 = .ok (.if_icmp .ge 37, 3) := by decide +kernel
theorem d_M_write_82 : decode b_M_write 82 = .ok (.aload_n 0, 1) := by decide +kernel
theorem d_M_write_83 : decode b_M_write 83 = .ok (.getfield 41, 3) := by decide +kernel
theorem d_M_write_86 : decode b_M_write 86 = .ok (.iload 5, 2) := by decide +kernel
theorem d_M_write_88 : decode b_M_write 88 = .ok (.aload_n 0, 1) := by decide +kernel
theorem d_M_write_89 : decode b_M_write 89 = .ok (.getfield 35, 3) := by decide +kernel
theorem d_M_write_92 : decode b_M_write 92 = .ok (.iload 5, 2) := by decide +kernel
theorem d_M_write_94 : decode b_M_write 94 = .ok (.iaload, 1) := by decide +kernel
theorem d_M_write_95 : decode b_M_write 95 = .ok (.aload_n 0, 1) := by decide +kernel
theorem d_M_write_96 : decode b_M_write 96 = .ok (.iload 4, 2) := by decide +kernel
theorem d_M_write_98 : decode b_M_write 98 = .ok (.iload_n 3, 1) := by decide +kernel
theorem d_M_write_99 : decode b_M_write 99 = .ok (.bipush 8, 2) := by decide +kernel
theorem d_M_write_101 : decode b_M_write 101 = .ok (.imul, 1) := by decide +kernel
theorem d_M_write_102 : decode b_M_write 102 = .ok (.iload 5, 2) := by decide +kernel
theorem d_M_write_104 : decode b_M_write 104 = .ok (.iadd, 1) := by decide +kernel
theorem d_M_write_105 : decode b_M_write 105 = .ok (.invokevirtual 59, 3) := by decide +kernel
theorem d_M_write_108 : decode b_M_write 108 = .ok (.ixor, 1) := by decide +kernel
theorem d_M_write_109 : decode b_M_write 109 = .ok (.iastore, 1) := by decide +kernel
theorem d_M_write_110 : decode b_M_write 110 = .ok (.iinc 5 1, 3) := by decide +kernel
theorem d_M_write_113 : decode b_M_write 113 = .ok (.goto (-40), 3) := by decide +kernel
theorem d_M_write_116 : decode b_M_write 116 = .ok (.bipush 7, 2) := by decide +kernel
theorem d_M_write_118 : decode b_M_write 118 = .ok (.istore 5, 2) := by decide +kernel
theorem d_M_write_120 : decode b_M_write 120 = .ok (.iconst 0, 1) := by decide +kernel
theorem d_M_write_121 : decode b_M_write 121 = .ok (.istore 6, 2) := by decide +kernel
theorem d_M_write_123 : decode b_M_write 123 = .ok (.iload 6, 2) := by decide +kernel
theorem d_M_write_125 : decode b_M_write 125 = .ok (.aload_n 0, 1) := by decide +kernel
theorem d_M_write_126 : decode b_M_write 126 = .ok (.getfield 54, 3) := by decide +kernel
theorem d_M_write_129 : decode b_M_write 129 = .ok (.if_icmp .ge 32, 3) := by decide +kernel
theorem d_M_write_132 : decode b_M_write 132 = .ok (.aload_n 0, 1) := by decide +kernel
theorem d_M_write_133 : decode b_M_write 133 = .ok (.iload 5, 2) := by decide +kernel
theorem d_M_write_135 : decode b_M_write 135 = .ok (.aload_n 0, 1) := by decide +kernel
theorem d_M_write_136 : decode b_M_write 136 = .ok (.aload_n 0, 1) := by decide +kernel
theorem d_M_write_137 : decode b_M_write 137 = .ok (.iload 6, 2) := by decide +kernel
theorem d_M_write_139 : decode b_M_write 139 = .ok (.invokevirtual 86, 3) := by decide +kernel
theorem d_M_write_142 : decode b_M_write 142 = .ok (.iload 6, 2) := by decide +kernel
theorem d_M_write_144 : decode b_M_write 144 = .ok (.bipush 100, 2) := by decide +kernel
theorem d_M_write_146 : decode b_M_write 146 = .ok (.iadd, 1) := by decide +kernel
theorem d_M_write_147 : decode b_M_write 147 = .ok (.invokevirtual 59, 3) := by decide +kernel
theorem d_M_write_150 : decode b_M_write 150 = .ok (.invokevirtual 59, 3) := by decide +kernel
theorem d_M_write_153 : decode b_M_write 153 = .ok (.istore 5, 2) := by decide +kernel
theorem d_M_write_155 : decode b_M_write 155 = .ok (.iinc 6 1, 3) := by decide +kernel
theorem d_M_write_158 : decode b_M_write 158 = .ok (.goto (-35), 3) := by decide +kernel
theorem d_M_write_161 : decode b_M_write 161 = .ok (.aload_n 0, 1) := by decide +kernel
theorem d_M_write_162 : decode b_M_write 162 = .ok (.iload 5, 2) := by decide +kernel
theorem d_M_write_164 : decode b_M_write 164 = .ok (.iload_n 3, 1) := by decide +kernel
theorem d_M_write_165 : decode b_M_write 165 = .ok (.invokevirtual 59, 3) := by decide +kernel
theorem d_M_write_168 : decode b_M_write 168 = .ok (.istore 5, 2) := by decide +kernel
theorem d_M_write_170 : decode b_M_write 170 = .ok (.aload_n 0, 1) := by decide +kernel
theorem d_M_write_171 : decode b_M_write 171 = .ok (.getfield 23, 3) := by decide +kernel
theorem d_M_write_174 : decode b_M_write 174 = .ok (.iload_n 2, 1) := by decide +kernel
theorem d_M_write_175 : decode b_M_write 175 = .ok (.bipush 31, 2) := by decide +kernel
theorem d_M_write_177 : decode b_M_write 177 = .ok (.imul, 1) := by decide +kernel
theorem d_M_write_178 : decode b_M_write 178 = .ok (.iload_n 3, 1) := by decide +kernel
theorem d_M_write_179 : decode b_M_write 179 = .ok (.iadd, 1) := by decide +kernel
theorem d_M_write_180 : decode b_M_write 180 = .ok (.iload 5, 2) := by decide +kernel
theorem d_M_write_182 : decode b_M_write 182 = .ok (.iastore, 1) := by decide +kernel
theorem d_M_write_183 : decode b_M_write 183 = .ok (.aload_n 0, 1) := by decide +kernel
theorem d_M_write_184 : decode b_M_write 184 = .ok (.getfield 26, 3) := by decide +kernel
theorem d_M_write_187 : decode b_M_write 187 = .ok (.iload_n 2, 1) := by decide +kernel
theorem d_M_write_188 : decode b_M_write 188 = .ok (.bipush 31, 2) := by decide +kernel
theorem d_M_write_190 : decode b_M_write 190 = .ok (.imul, 1) := by decide +kernel
theorem d_M_write_191 : decode b_M_write 191 = .ok (.iload_n 3, 1) := by decide +kernel
theorem d_M_write_192 : decode b_M_write 192 = .ok (.iadd, 1) := by decide +kernel
theorem d_M_write_193 : decode b_M_write 193 = .ok (.aload_n 0, 1) := by decide +kernel
theorem d_M_write_194 : decode b_M_write 194 = .ok (.iload 5, 2) := by decide +kernel
theorem d_M_write_196 : decode b_M_write 196 = .ok (.iload_n 1, 1) := by decide +kernel
theorem d_M_write_197 : decode b_M_write 197 = .ok (.invokevirtual 59, 3) := by decide +kernel
theorem d_M_write_200 : decode b_M_write 200 = .ok (.iload_n 1, 1) := by decide +kernel
theorem d_M_write_201 : decode b_M_write 201 = .ok (.ixor, 1) := by decide +kernel
theorem d_M_write_202 : decode b_M_write 202 = .ok (.iastore, 1) := by decide +kernel
theorem d_M_write_203 : decode b_M_write 203 = .ok (.iconst 0, 1) := by decide +kernel
theorem d_M_write_204 : decode b_M_write 204 = .ok (.istore 6, 2) := by decide +kernel
theorem d_M_write_206 : decode b_M_write 206 = .ok (.iconst 0, 1) := by decide +kernel
theorem d_M_write_207 : decode b_M_write 207 = .ok (.istore 7, 2) := by decide +kernel
theorem d_M_write_209 : decode b_M_write 209 = .ok (.iload 7, 2) := by decide +kernel
theorem d_M_write_211 : decode b_M_write 211 = .ok (.aload_n 0, 1) := by decide +kernel
theorem d_M_write_212 : decode b_M_write 212 = .ok (.getfield 54, 3) := by decide +kernel
theorem d_M_write_215 : decode b_M_write 215 = .ok (.if_icmp .ge 47, 3) := by decide +kernel
theorem d_M_write_218 : decode b_M_write 218 = .ok (.aload_n 0, 1) := by decide +kernel
theorem d_M_write_219 : decode b_M_write 219 = .ok (.getfield 7, 3) := by decide +kernel
theorem d_M_write_222 : decode b_M_write 222 = .ok (.iload 7, 2) := by decide +kernel
theorem d_M_write_224 : decode b_M_write 224 = .ok (.baload, 1) := by decide +kernel
theorem d_M_write_225 : decode b_M_write 225 = .ok (.ifCond .eq 31, 3) := by decide +kernel
theorem d_M_write_228 : decode b_M_write 228 = .ok (.aload_n 0, 1) := by decide +kernel
theorem d_M_write_229 : decode b_M_write 229 = .ok (.getfield 13, 3) := by decide +kernel
theorem d_M_write_232 : decode b_M_write 232 = .ok (.iload 7, 2) := by decide +kernel
theorem d_M_write_234 : decode b_M_write 234 = .ok (.baload, 1) := by decide +kernel
theorem d_M_write_235 : decode b_M_write 235 = .ok (.ifCond .ne 21, 3) := by decide +kernel
theorem d_M_write_238 : decode b_M_write 238 = .ok (.aload_n 0, 1) := by decide +kernel
theorem d_M_write_239 : decode b_M_write 239 = .ok (.iload_n 2, 1) := by decide +kernel
theorem d_M_write_240 : decode b_M_write 240 = .ok (.bipush 7, 2) := by decide +kernel
theorem d_M_write_242 : decode b_M_write 242 = .ok (.imul, 1) := by decide +kernel
theorem d_M_write_243 : decode b_M_write 243 = .ok (.iload 7, 2) := by decide +kernel
theorem d_M_write_245 : decode b_M_write 245 = .ok (.iadd, 1) := by decide +kernel
theorem d_M_write_246 : decode b_M_write 246 = .ok (.iload 7, 2) := by decide +kernel
theorem d_M_write_248 : decode b_M_write 248 = .ok (.iload_n 2, 1) := by decide +kernel
theorem d_M_write_249 : decode b_M_write 249 = .ok (.iload_n 3, 1) := by decide +kernel
theorem d_M_write_250 : decode b_M_write 250 = .ok (.invokevirtual 89, 3) := by decide +kernel
theorem d_M_write_253 : decode b_M_write 253 = .ok (.iinc 6 1, 3) := by decide +kernel
theorem d_M_write_256 : decode b_M_write 256 = .ok (.iinc 7 1, 3) := by decide +kernel
theorem d_M_write_259 : decode b_M_write 259 = .ok (.goto (-50), 3) := by decide +kernel
theorem d_M_write_262 : decode b_M_write 262 = .ok (.iload 6, 2) := by decide +kernel
theorem d_M_write_264 : decode b_M_write 264 = .ok (.ireturn, 1) := by decide +kernel
theorem d_M_keep_0 : decode b_M_keep 0 = .ok (.aload_n 0, 1) := by decide +kernel
theorem d_M_keep_1 : decode b_M_keep 1 = .ok (.getfield 32, 3) := by decide +kernel
theorem d_M_keep_4 : decode b_M_keep 4 = .ok (.iload_n 1, 1) := by decide +kernel
theorem d_M_keep_5 : decode b_M_keep 5 = .ok (.iconst 1, 1) := by decide +kernel
theorem d_M_keep_6 : decode b_M_keep 6 = .ok (.bastore, 1) := by decide +kernel
theorem d_M_keep_7 : decode b_M_keep 7 = .ok (.aload_n 0, 1) := by decide +kernel
theorem d_M_keep_8 : decode b_M_keep 8 = .ok (.getfield 29, 3) := by decide +kernel
theorem d_M_keep_11 : decode b_M_keep 11 = .ok (.iload_n 1, 1) := by decide +kernel
theorem d_M_keep_12 : decode b_M_keep 12 = .ok (.bipush 10, 2) := by decide +kernel
theorem d_M_keep_14 : decode b_M_keep 14 = .ok (.imul, 1) := by decide +kernel
theorem d_M_keep_15 : decode b_M_keep 15 = .ok (.aload_n 0, 1) := by decide +kernel
theorem d_M_keep_16 : decode b_M_keep 16 = .ok (.iload_n 2, 1) := by decide +kernel
theorem d_M_keep_17 : decode b_M_keep 17 = .ok (.invokevirtual 86, 3) := by decide +kernel
theorem d_M_keep_20 : decode b_M_keep 20 = .ok (.iastore, 1) := by decide +kernel
theorem d_M_keep_21 : decode b_M_keep 21 = .ok (.aload_n 0, 1) := by decide +kernel
theorem d_M_keep_22 : decode b_M_keep 22 = .ok (.getfield 29, 3) := by decide +kernel
theorem d_M_keep_25 : decode b_M_keep 25 = .ok (.iload_n 1, 1) := by decide +kernel
theorem d_M_keep_26 : decode b_M_keep 26 = .ok (.bipush 10, 2) := by decide +kernel
theorem d_M_keep_28 : decode b_M_keep 28 = .ok (.imul, 1) := by decide +kernel
theorem d_M_keep_29 : decode b_M_keep 29 = .ok (.iconst 1, 1) := by decide +kernel
theorem d_M_keep_30 : decode b_M_keep 30 = .ok (.iadd, 1) := by decide +kernel
theorem d_M_keep_31 : decode b_M_keep 31 = .ok (.iload 4, 2) := by decide +kernel
theorem d_M_keep_33 : decode b_M_keep 33 = .ok (.iastore, 1) := by decide +kernel
theorem d_M_keep_34 : decode b_M_keep 34 = .ok (.aload_n 0, 1) := by decide +kernel
theorem d_M_keep_35 : decode b_M_keep 35 = .ok (.getfield 29, 3) := by decide +kernel
theorem d_M_keep_38 : decode b_M_keep 38 = .ok (.iload_n 1, 1) := by decide +kernel
theorem d_M_keep_39 : decode b_M_keep 39 = .ok (.bipush 10, 2) := by decide +kernel
theorem d_M_keep_41 : decode b_M_keep 41 = .ok (.imul, 1) := by decide +kernel
theorem d_M_keep_42 : decode b_M_keep 42 = .ok (.iconst 2, 1) := by decide +kernel
theorem d_M_keep_43 : decode b_M_keep 43 = .ok (.iadd, 1) := by decide +kernel
theorem d_M_keep_44 : decode b_M_keep 44 = .ok (.aload_n 0, 1) := by decide +kernel
theorem d_M_keep_45 : decode b_M_keep 45 = .ok (.getfield 26, 3) := by decide +kernel
theorem d_M_keep_48 : decode b_M_keep 48 = .ok (.iload_n 3, 1) := by decide +kernel
theorem d_M_keep_49 : decode b_M_keep 49 = .ok (.bipush 31, 2) := by decide +kernel
theorem d_M_keep_51 : decode b_M_keep 51 = .ok (.imul, 1) := by decide +kernel
theorem d_M_keep_52 : decode b_M_keep 52 = .ok (.iload 4, 2) := by decide +kernel
theorem d_M_keep_54 : decode b_M_keep 54 = .ok (.iadd, 1) := by decide +kernel
theorem d_M_keep_55 : decode b_M_keep 55 = .ok (.iaload, 1) := by decide +kernel
theorem d_M_keep_56 : decode b_M_keep 56 = .ok (.iastore, 1) := by decide +kernel
theorem d_M_keep_57 : decode b_M_keep 57 = .ok (.iconst 0, 1) := by decide +kernel
theorem d_M_keep_58 : decode b_M_keep 58 = .ok (.istore 5, 2) := by decide +kernel
theorem d_M_keep_60 : decode b_M_keep 60 = .ok (.iload 5, 2) := by decide +kernel
theorem d_M_keep_62 : decode b_M_keep 62 = .ok (.aload_n 0, 1) := by decide +kernel
theorem d_M_keep_63 : decode b_M_keep 63 = .ok (.getfield 54, 3) := by decide +kernel
theorem d_M_keep_66 : decode b_M_keep 66 = .ok (.if_icmp .ge 38, 3) := by decide +kernel
theorem d_M_keep_69 : decode b_M_keep 69 = .ok (.aload_n 0, 1) := by decide +kernel
theorem d_M_keep_70 : decode b_M_keep 70 = .ok (.getfield 29, 3) := by decide +kernel
theorem d_M_keep_73 : decode b_M_keep 73 = .ok (.iload_n 1, 1) := by decide +kernel
theorem d_M_keep_74 : decode b_M_keep 74 = .ok (.bipush 10, 2) := by decide +kernel
theorem d_M_keep_76 : decode b_M_keep 76 = .ok (.imul, 1) := by decide +kernel
theorem d_M_keep_77 : decode b_M_keep 77 = .ok (.iconst 3, 1) := by decide +kernel
theorem d_M_keep_78 : decode b_M_keep 78 = .ok (.iadd, 1) := by decide +kernel
theorem d_M_keep_79 : decode b_M_keep 79 = .ok (.iload 5, 2) := by decide +kernel
theorem d_M_keep_81 : decode b_M_keep 81 = .ok (.iadd, 1) := by decide +kernel
theorem d_M_keep_82 : decode b_M_keep 82 = .ok (.aload_n 0, 1) := by decide +kernel
theorem d_M_keep_83 : decode b_M_keep 83 = .ok (.aload_n 0, 1) := by decide +kernel
theorem d_M_keep_84 : decode b_M_keep 84 = .ok (.iload 5, 2) := by decide +kernel
theorem d_M_keep_86 : decode b_M_keep 86 = .ok (.invokevirtual 86, 3) := by decide +kernel
theorem d_M_keep_89 : decode b_M_keep 89 = .ok (.iload 5, 2) := by decide +kernel
theorem d_M_keep_91 : decode b_M_keep 91 = .ok (.bipush 100, 2) := by decide +kernel
theorem d_M_keep_93 : decode b_M_keep 93 = .ok (.iadd, 1) := by decide +kernel
theorem d_M_keep_94 : decode b_M_keep 94 = .ok (.invokevirtual 59, 3) := by decide +kernel
theorem d_M_keep_97 : decode b_M_keep 97 = .ok (.iastore, 1) := by decide +kernel
theorem d_M_keep_98 : decode b_M_keep 98 = .ok (.iinc 5 1, 3) := by decide +kernel
theorem d_M_keep_101 : decode b_M_keep 101 = .ok (.goto (-41), 3) := by decide +kernel
theorem d_M_keep_104 : decode b_M_keep 104 = .ok (.return_, 1) := by decide +kernel
theorem d_M_isSound_0 : decode b_M_isSound 0 = .ok (.iload_n 1, 1) := by decide +kernel
theorem d_M_isSound_1 : decode b_M_isSound 1 = .ok (.bipush 7, 2) := by decide +kernel
theorem d_M_isSound_3 : decode b_M_isSound 3 = .ok (.imul, 1) := by decide +kernel
theorem d_M_isSound_4 : decode b_M_isSound 4 = .ok (.iload_n 2, 1) := by decide +kernel
theorem d_M_isSound_5 : decode b_M_isSound 5 = .ok (.iadd, 1) := by decide +kernel
theorem d_M_isSound_6 : decode b_M_isSound 6 = .ok (.istore_n 3, 1) := by decide +kernel
theorem d_M_isSound_7 : decode b_M_isSound 7 = .ok (.aload_n 0, 1) := by decide +kernel
theorem d_M_isSound_8 : decode b_M_isSound 8 = .ok (.getfield 29, 3) := by decide +kernel
theorem d_M_isSound_11 : decode b_M_isSound 11 = .ok (.iload_n 3, 1) := by decide +kernel
theorem d_M_isSound_12 : decode b_M_isSound 12 = .ok (.bipush 10, 2) := by decide +kernel
theorem d_M_isSound_14 : decode b_M_isSound 14 = .ok (.imul, 1) := by decide +kernel
theorem d_M_isSound_15 : decode b_M_isSound 15 = .ok (.iconst 1, 1) := by decide +kernel
theorem d_M_isSound_16 : decode b_M_isSound 16 = .ok (.iadd, 1) := by decide +kernel
theorem d_M_isSound_17 : decode b_M_isSound 17 = .ok (.iaload, 1) := by decide +kernel
theorem d_M_isSound_18 : decode b_M_isSound 18 = .ok (.istore 4, 2) := by decide +kernel
theorem d_M_isSound_20 : decode b_M_isSound 20 = .ok (.aload_n 0, 1) := by decide +kernel
theorem d_M_isSound_21 : decode b_M_isSound 21 = .ok (.getfield 32, 3) := by decide +kernel
theorem d_M_isSound_24 : decode b_M_isSound 24 = .ok (.iload_n 3, 1) := by decide +kernel
theorem d_M_isSound_25 : decode b_M_isSound 25 = .ok (.baload, 1) := by decide +kernel
theorem d_M_isSound_26 : decode b_M_isSound 26 = .ok (.ifCond .eq 20, 3) := by decide +kernel
theorem d_M_isSound_29 : decode b_M_isSound 29 = .ok (.iload 4, 2) := by decide +kernel
theorem d_M_isSound_31 : decode b_M_isSound 31 = .ok (.iconst 1, 1) := by decide +kernel
theorem d_M_isSound_32 : decode b_M_isSound 32 = .ok (.if_icmp .lt 14, 3) := by decide +kernel
theorem d_M_isSound_35 : decode b_M_isSound 35 = .ok (.iload 4, 2) := by decide +kernel
theorem d_M_isSound_37 : decode b_M_isSound 37 = .ok (.aload_n 0, 1) := by decide +kernel
theorem d_M_isSound_38 : decode b_M_isSound 38 = .ok (.getfield 20, 3) := by decide +kernel
theorem d_M_isSound_41 : decode b_M_isSound 41 = .ok (.iload_n 1, 1) := by decide +kernel
theorem d_M_isSound_42 : decode b_M_isSound 42 = .ok (.iaload, 1) := by decide +kernel
theorem d_M_isSound_43 : decode b_M_isSound 43 = .ok (.if_icmp .le 5, 3) := by decide +kernel
theorem d_M_isSound_46 : decode b_M_isSound 46 = .ok (.iconst 0, 1) := by decide +kernel
theorem d_M_isSound_47 : decode b_M_isSound 47 = .ok (.ireturn, 1) := by decide +kernel
theorem d_M_isSound_48 : decode b_M_isSound 48 = .ok (.aload_n 0, 1) := by decide +kernel
theorem d_M_isSound_49 : decode b_M_isSound 49 = .ok (.aload_n 0, 1) := by decide +kernel
theorem d_M_isSound_50 : decode b_M_isSound 50 = .ok (.getfield 29, 3) := by decide +kernel
theorem d_M_isSound_53 : decode b_M_isSound 53 = .ok (.iload_n 3, 1) := by decide +kernel
theorem d_M_isSound_54 : decode b_M_isSound 54 = .ok (.bipush 10, 2) := by decide +kernel
theorem d_M_isSound_56 : decode b_M_isSound 56 = .ok (.imul, 1) := by decide +kernel
theorem d_M_isSound_57 : decode b_M_isSound 57 = .ok (.iaload, 1) := by decide +kernel
theorem d_M_isSound_58 : decode b_M_isSound 58 = .ok (.iload_n 2, 1) := by decide +kernel
theorem d_M_isSound_59 : decode b_M_isSound 59 = .ok (.bipush 100, 2) := by decide +kernel
theorem d_M_isSound_61 : decode b_M_isSound 61 = .ok (.iadd, 1) := by decide +kernel
theorem d_M_isSound_62 : decode b_M_isSound 62 = .ok (.invokevirtual 59, 3) := by decide +kernel
theorem d_M_isSound_65 : decode b_M_isSound 65 = .ok (.aload_n 0, 1) := by decide +kernel
theorem d_M_isSound_66 : decode b_M_isSound 66 = .ok (.getfield 29, 3) := by decide +kernel
theorem d_M_isSound_69 : decode b_M_isSound 69 = .ok (.iload_n 3, 1) := by decide +kernel
theorem d_M_isSound_70 : decode b_M_isSound 70 = .ok (.bipush 10, 2) := by decide +kernel
theorem d_M_isSound_72 : decode b_M_isSound 72 = .ok (.imul, 1) := by decide +kernel
theorem d_M_isSound_73 : decode b_M_isSound 73 = .ok (.iconst 3, 1) := by decide +kernel
theorem d_M_isSound_74 : decode b_M_isSound 74 = .ok (.iadd, 1) := by decide +kernel
theorem d_M_isSound_75 : decode b_M_isSound 75 = .ok (.iload_n 2, 1) := by decide +kernel
theorem d_M_isSound_76 : decode b_M_isSound 76 = .ok (.iadd, 1) := by decide +kernel
theorem d_M_isSound_77 : decode b_M_isSound 77 = .ok (.iaload, 1) := by decide +kernel
theorem d_M_isSound_78 : decode b_M_isSound 78 = .ok (.if_icmp .eq 5, 3) := by decide +kernel
theorem d_M_isSound_81 : decode b_M_isSound 81 = .ok (.iconst 0, 1) := by decide +kernel
theorem d_M_isSound_82 : decode b_M_isSound 82 = .ok (.ireturn, 1) := by decide +kernel
theorem d_M_isSound_83 : decode b_M_isSound 83 = .ok (.aload_n 0, 1) := by decide +kernel
theorem d_M_isSound_84 : decode b_M_isSound 84 = .ok (.iload_n 3, 1) := by decide +kernel
theorem d_M_isSound_85 : decode b_M_isSound 85 = .ok (.iload 4, 2) := by decide +kernel
theorem d_M_isSound_87 : decode b_M_isSound 87 = .ok (.invokevirtual 93, 3) := by decide +kernel
theorem d_M_isSound_90 : decode b_M_isSound 90 = .ok (.aload_n 0, 1) := by decide +kernel
theorem d_M_isSound_91 : decode b_M_isSound 91 = .ok (.getfield 23, 3) := by decide +kernel
theorem d_M_isSound_94 : decode b_M_isSound 94 = .ok (.iload_n 1, 1) := by decide +kernel
theorem d_M_isSound_95 : decode b_M_isSound 95 = .ok (.bipush 31, 2) := by decide +kernel
theorem d_M_isSound_97 : decode b_M_isSound 97 = .ok (.imul, 1) := by decide +kernel
theorem d_M_isSound_98 : decode b_M_isSound 98 = .ok (.iload 4, 2) := by decide +kernel
theorem d_M_isSound_100 : decode b_M_isSound 100 = .ok (.iadd, 1) := by decide +kernel
theorem d_M_isSound_101 : decode b_M_isSound 101 = .ok (.iaload, 1) := by decide +kernel
theorem d_M_isSound_102 : decode b_M_isSound 102 = .ok (.if_icmp .ne 33, 3) := by decide +kernel
theorem d_M_isSound_105 : decode b_M_isSound 105 = .ok (.aload_n 0, 1) := by decide +kernel
theorem d_M_isSound_106 : decode b_M_isSound 106 = .ok (.getfield 29, 3) := by decide +kernel
theorem d_M_isSound_109 : decode b_M_isSound 109 = .ok (.iload_n 3, 1) := by decide +kernel
theorem d_M_isSound_110 : decode b_M_isSound 110 = .ok (.bipush 10, 2) := by decide +kernel
theorem d_M_isSound_112 : decode b_M_isSound 112 = .ok (.imul, 1) := by decide +kernel
theorem d_M_isSound_113 : decode b_M_isSound 113 = .ok (.iconst 2, 1) := by decide +kernel
theorem d_M_isSound_114 : decode b_M_isSound 114 = .ok (.iadd, 1) := by decide +kernel
theorem d_M_isSound_115 : decode b_M_isSound 115 = .ok (.iaload, 1) := by decide +kernel
theorem d_M_isSound_116 : decode b_M_isSound 116 = .ok (.aload_n 0, 1) := by decide +kernel
theorem d_M_isSound_117 : decode b_M_isSound 117 = .ok (.getfield 26, 3) := by decide +kernel
theorem d_M_isSound_120 : decode b_M_isSound 120 = .ok (.iload_n 1, 1) := by decide +kernel
theorem d_M_isSound_121 : decode b_M_isSound 121 = .ok (.bipush 31, 2) := by decide +kernel
theorem d_M_isSound_123 : decode b_M_isSound 123 = .ok (.imul, 1) := by decide +kernel
theorem d_M_isSound_124 : decode b_M_isSound 124 = .ok (.iload 4, 2) := by decide +kernel
theorem d_M_isSound_126 : decode b_M_isSound 126 = .ok (.iadd, 1) := by decide +kernel
theorem d_M_isSound_127 : decode b_M_isSound 127 = .ok (.iaload, 1) := by decide +kernel
theorem d_M_isSound_128 : decode b_M_isSound 128 = .ok (.if_icmp .ne 7, 3) := by decide +kernel
theorem d_M_isSound_131 : decode b_M_isSound 131 = .ok (.iconst 1, 1) := by decide +kernel
theorem d_M_isSound_132 : decode b_M_isSound 132 = .ok (.goto 4, 3) := by decide +kernel
theorem d_M_isSound_135 : decode b_M_isSound 135 = .ok (.iconst 0, 1) := by decide +kernel
theorem d_M_isSound_136 : decode b_M_isSound 136 = .ok (.ireturn, 1) := by decide +kernel
theorem d_M_serves_0 : decode b_M_serves 0 = .ok (.aload_n 0, 1) := by decide +kernel
theorem d_M_serves_1 : decode b_M_serves 1 = .ok (.getfield 7, 3) := by decide +kernel
theorem d_M_serves_4 : decode b_M_serves 4 = .ok (.iload_n 2, 1) := by decide +kernel
theorem d_M_serves_5 : decode b_M_serves 5 = .ok (.baload, 1) := by decide +kernel
theorem d_M_serves_6 : decode b_M_serves 6 = .ok (.ifCond .eq 36, 3) := by decide +kernel
theorem d_M_serves_9 : decode b_M_serves 9 = .ok (.aload_n 0, 1) := by decide +kernel
theorem d_M_serves_10 : decode b_M_serves 10 = .ok (.iload_n 1, 1) := by decide +kernel
theorem d_M_serves_11 : decode b_M_serves 11 = .ok (.iload_n 2, 1) := by decide +kernel
theorem d_M_serves_12 : decode b_M_serves 12 = .ok (.invokevirtual 96, 3) := by decide +kernel
theorem d_M_serves_15 : decode b_M_serves 15 = .ok (.ifCond .eq 27, 3) := by decide +kernel
theorem d_M_serves_18 : decode b_M_serves 18 = .ok (.aload_n 0, 1) := by decide +kernel
theorem d_M_serves_19 : decode b_M_serves 19 = .ok (.getfield 29, 3) := by decide +kernel
theorem d_M_serves_22 : decode b_M_serves 22 = .ok (.iload_n 1, 1) := by decide +kernel
theorem d_M_serves_23 : decode b_M_serves 23 = .ok (.bipush 70, 2) := by decide +kernel
theorem d_M_serves_25 : decode b_M_serves 25 = .ok (.imul, 1) := by decide +kernel
theorem d_M_serves_26 : decode b_M_serves 26 = .ok (.iload_n 2, 1) := by decide +kernel
theorem d_M_serves_27 : decode b_M_serves 27 = .ok (.bipush 10, 2) := by decide +kernel
theorem d_M_serves_29 : decode b_M_serves 29 = .ok (.imul, 1) := by decide +kernel
theorem d_M_serves_30 : decode b_M_serves 30 = .ok (.iadd, 1) := by decide +kernel
theorem d_M_serves_31 : decode b_M_serves 31 = .ok (.iconst 1, 1) := by decide +kernel
theorem d_M_serves_32 : decode b_M_serves 32 = .ok (.iadd, 1) := by decide +kernel
theorem d_M_serves_33 : decode b_M_serves 33 = .ok (.iaload, 1) := by decide +kernel
theorem d_M_serves_34 : decode b_M_serves 34 = .ok (.iload_n 3, 1) := by decide +kernel
theorem d_M_serves_35 : decode b_M_serves 35 = .ok (.if_icmp .ne 7, 3) := by decide +kernel
theorem d_M_serves_38 : decode b_M_serves 38 = .ok (.iconst 1, 1) := by decide +kernel
theorem d_M_serves_39 : decode b_M_serves 39 = .ok (.goto 4, 3) := by decide +kernel
theorem d_M_serves_42 : decode b_M_serves 42 = .ok (.iconst 0, 1) := by decide +kernel
theorem d_M_serves_43 : decode b_M_serves 43 = .ok (.ireturn, 1) := by decide +kernel
theorem d_M_bestOf_0 : decode b_M_bestOf 0 = .ok (.aload_n 0, 1) := by decide +kernel
theorem d_M_bestOf_1 : decode b_M_bestOf 1 = .ok (.getfield 20, 3) := by decide +kernel
theorem d_M_bestOf_4 : decode b_M_bestOf 4 = .ok (.iload_n 1, 1) := by decide +kernel
theorem d_M_bestOf_5 : decode b_M_bestOf 5 = .ok (.iaload, 1) := by decide +kernel
theorem d_M_bestOf_6 : decode b_M_bestOf 6 = .ok (.istore_n 2, 1) := by decide +kernel
theorem d_M_bestOf_7 : decode b_M_bestOf 7 = .ok (.iload_n 2, 1) := by decide +kernel
theorem d_M_bestOf_8 : decode b_M_bestOf 8 = .ok (.ifCond .le 53, 3) := by decide +kernel
theorem d_M_bestOf_11 : decode b_M_bestOf 11 = .ok (.iconst 0, 1) := by decide +kernel
theorem d_M_bestOf_12 : decode b_M_bestOf 12 = .ok (.istore_n 3, 1) := by decide +kernel
theorem d_M_bestOf_13 : decode b_M_bestOf 13 = .ok (.iconst 0, 1) := by decide +kernel
theorem d_M_bestOf_14 : decode b_M_bestOf 14 = .ok (.istore 4, 2) := by decide +kernel
theorem d_M_bestOf_16 : decode b_M_bestOf 16 = .ok (.iload 4, 2) := by decide +kernel
theorem d_M_bestOf_18 : decode b_M_bestOf 18 = .ok (.aload_n 0, 1) := by decide +kernel
theorem d_M_bestOf_19 : decode b_M_bestOf 19 = .ok (.getfield 54, 3) := by decide +kernel
theorem d_M_bestOf_22 : decode b_M_bestOf 22 = .ok (.if_icmp .ge 23, 3) := by decide +kernel
theorem d_M_bestOf_25 : decode b_M_bestOf 25 = .ok (.aload_n 0, 1) := by decide +kernel
theorem d_M_bestOf_26 : decode b_M_bestOf 26 = .ok (.iload_n 1, 1) := by decide +kernel
theorem d_M_bestOf_27 : decode b_M_bestOf 27 = .ok (.iload 4, 2) := by decide +kernel
theorem d_M_bestOf_29 : decode b_M_bestOf 29 = .ok (.iload_n 2, 1) := by decide +kernel
theorem d_M_bestOf_30 : decode b_M_bestOf 30 = .ok (.invokevirtual 100, 3) := by decide +kernel
theorem d_M_bestOf_33 : decode b_M_bestOf 33 = .ok (.ifCond .eq 6, 3) := by decide +kernel
theorem d_M_bestOf_36 : decode b_M_bestOf 36 = .ok (.iinc 3 1, 3) := by decide +kernel
theorem d_M_bestOf_39 : decode b_M_bestOf 39 = .ok (.iinc 4 1, 3) := by decide +kernel
theorem d_M_bestOf_42 : decode b_M_bestOf 42 = .ok (.goto (-26), 3) := by decide +kernel
theorem d_M_bestOf_45 : decode b_M_bestOf 45 = .ok (.iload_n 3, 1) := by decide +kernel
theorem d_M_bestOf_46 : decode b_M_bestOf 46 = .ok (.aload_n 0, 1) := by decide +kernel
theorem d_M_bestOf_47 : decode b_M_bestOf 47 = .ok (.getfield 50, 3) := by decide +kernel
theorem d_M_bestOf_50 : decode b_M_bestOf 50 = .ok (.if_icmp .lt 5, 3) := by decide +kernel
theorem d_M_bestOf_53 : decode b_M_bestOf 53 = .ok (.iload_n 2, 1) := by decide +kernel
theorem d_M_bestOf_54 : decode b_M_bestOf 54 = .ok (.ireturn, 1) := by decide +kernel
theorem d_M_bestOf_55 : decode b_M_bestOf 55 = .ok (.iinc 2 (-1), 3) := by decide +kernel
theorem d_M_bestOf_58 : decode b_M_bestOf 58 = .ok (.goto (-51), 3) := by decide +kernel
theorem d_M_bestOf_61 : decode b_M_bestOf 61 = .ok (.iconst 0, 1) := by decide +kernel
theorem d_M_bestOf_62 : decode b_M_bestOf 62 = .ok (.ireturn, 1) := by decide +kernel
theorem d_M_subtract_0 : decode b_M_subtract 0 = .ok (.iconst 0, 1) := by decide +kernel
theorem d_M_subtract_1 : decode b_M_subtract 1 = .ok (.istore 4, 2) := by decide +kernel
theorem d_M_subtract_3 : decode b_M_subtract 3 = .ok (.iload 4, 2) := by decide +kernel
theorem d_M_subtract_5 : decode b_M_subtract 5 = .ok (.aload_n 0, 1) := by decide +kernel
theorem d_M_subtract_6 : decode b_M_subtract 6 = .ok (.getfield 50, 3) := by decide +kernel
theorem d_M_subtract_9 : decode b_M_subtract 9 = .ok (.if_icmp .ge 39, 3) := by decide +kernel
theorem d_M_subtract_12 : decode b_M_subtract 12 = .ok (.aload_n 0, 1) := by decide +kernel
theorem d_M_subtract_13 : decode b_M_subtract 13 = .ok (.getfield 44, 3) := by decide +kernel
theorem d_M_subtract_16 : decode b_M_subtract 16 = .ok (.iload_n 1, 1) := by decide +kernel
theorem d_M_subtract_17 : decode b_M_subtract 17 = .ok (.iconst 4, 1) := by decide +kernel
theorem d_M_subtract_18 : decode b_M_subtract 18 = .ok (.imul, 1) := by decide +kernel
theorem d_M_subtract_19 : decode b_M_subtract 19 = .ok (.iload 4, 2) := by decide +kernel
theorem d_M_subtract_21 : decode b_M_subtract 21 = .ok (.iadd, 1) := by decide +kernel
theorem d_M_subtract_22 : decode b_M_subtract 22 = .ok (.dup2, 1) := by decide +kernel
theorem d_M_subtract_23 : decode b_M_subtract 23 = .ok (.iaload, 1) := by decide +kernel
theorem d_M_subtract_24 : decode b_M_subtract 24 = .ok (.aload_n 0, 1) := by decide +kernel
theorem d_M_subtract_25 : decode b_M_subtract 25 = .ok (.aload_n 0, 1) := by decide +kernel
theorem d_M_subtract_26 : decode b_M_subtract 26 = .ok (.getfield 44, 3) := by decide +kernel
theorem d_M_subtract_29 : decode b_M_subtract 29 = .ok (.iload_n 2, 1) := by decide +kernel
theorem d_M_subtract_30 : decode b_M_subtract 30 = .ok (.iconst 4, 1) := by decide +kernel
theorem d_M_subtract_31 : decode b_M_subtract 31 = .ok (.imul, 1) := by decide +kernel
theorem d_M_subtract_32 : decode b_M_subtract 32 = .ok (.iload 4, 2) := by decide +kernel
theorem d_M_subtract_34 : decode b_M_subtract 34 = .ok (.iadd, 1) := by decide +kernel
theorem d_M_subtract_35 : decode b_M_subtract 35 = .ok (.iaload, 1) := by decide +kernel
theorem d_M_subtract_36 : decode b_M_subtract 36 = .ok (.iload_n 3, 1) := by decide +kernel
theorem d_M_subtract_37 : decode b_M_subtract 37 = .ok (.invokevirtual 73, 3) := by decide +kernel
theorem d_M_subtract_40 : decode b_M_subtract 40 = .ok (.ixor, 1) := by decide +kernel
theorem d_M_subtract_41 : decode b_M_subtract 41 = .ok (.iastore, 1) := by decide +kernel
theorem d_M_subtract_42 : decode b_M_subtract 42 = .ok (.iinc 4 1, 3) := by decide +kernel
theorem d_M_subtract_45 : decode b_M_subtract 45 = .ok (.goto (-42), 3) := by decide +kernel
theorem d_M_subtract_48 : decode b_M_subtract 48 = .ok (.aload_n 0, 1) := by decide +kernel
theorem d_M_subtract_49 : decode b_M_subtract 49 = .ok (.getfield 47, 3) := by decide +kernel
theorem d_M_subtract_52 : decode b_M_subtract 52 = .ok (.iload_n 1, 1) := by decide +kernel
theorem d_M_subtract_53 : decode b_M_subtract 53 = .ok (.dup2, 1) := by decide +kernel
theorem d_M_subtract_54 : decode b_M_subtract 54 = .ok (.iaload, 1) := by decide +kernel
theorem d_M_subtract_55 : decode b_M_subtract 55 = .ok (.aload_n 0, 1) := by decide +kernel
theorem d_M_subtract_56 : decode b_M_subtract 56 = .ok (.aload_n 0, 1) := by decide +kernel
theorem d_M_subtract_57 : decode b_M_subtract 57 = .ok (.getfield 47, 3) := by decide +kernel
theorem d_M_subtract_60 : decode b_M_subtract 60 = .ok (.iload_n 2, 1) := by decide +kernel
theorem d_M_subtract_61 : decode b_M_subtract 61 = .ok (.iaload, 1) := by decide +kernel
theorem d_M_subtract_62 : decode b_M_subtract 62 = .ok (.iload_n 3, 1) := by decide +kernel
theorem d_M_subtract_63 : decode b_M_subtract 63 = .ok (.invokevirtual 79, 3) := by decide +kernel
theorem d_M_subtract_66 : decode b_M_subtract 66 = .ok (.ixor, 1) := by decide +kernel
theorem d_M_subtract_67 : decode b_M_subtract 67 = .ok (.iastore, 1) := by decide +kernel
theorem d_M_subtract_68 : decode b_M_subtract 68 = .ok (.return_, 1) := by decide +kernel
theorem d_M_decode_0 : decode b_M_decode 0 = .ok (.iconst 0, 1) := by decide +kernel
theorem d_M_decode_1 : decode b_M_decode 1 = .ok (.istore_n 3, 1) := by decide +kernel
theorem d_M_decode_2 : decode b_M_decode 2 = .ok (.iconst 0, 1) := by decide +kernel
theorem d_M_decode_3 : decode b_M_decode 3 = .ok (.istore 4, 2) := by decide +kernel
theorem d_M_decode_5 : decode b_M_decode 5 = .ok (.iload 4, 2) := by decide +kernel
theorem d_M_decode_7 : decode b_M_decode 7 = .ok (.aload_n 0, 1) := by decide +kernel
theorem d_M_decode_8 : decode b_M_decode 8 = .ok (.getfield 54, 3) := by decide +kernel
theorem d_M_decode_11 : decode b_M_decode 11 = .ok (.if_icmp .ge 91, 3) := by decide +kernel
theorem d_M_decode_14 : decode b_M_decode 14 = .ok (.iload_n 3, 1) := by decide +kernel
theorem d_M_decode_15 : decode b_M_decode 15 = .ok (.aload_n 0, 1) := by decide +kernel
theorem d_M_decode_16 : decode b_M_decode 16 = .ok (.getfield 50, 3) := by decide +kernel
theorem d_M_decode_19 : decode b_M_decode 19 = .ok (.if_icmp .ge 77, 3) := by decide +kernel
theorem d_M_decode_22 : decode b_M_decode 22 = .ok (.aload_n 0, 1) := by decide +kernel
theorem d_M_decode_23 : decode b_M_decode 23 = .ok (.iload_n 1, 1) := by decide +kernel
theorem d_M_decode_24 : decode b_M_decode 24 = .ok (.iload 4, 2) := by decide +kernel
theorem d_M_decode_26 : decode b_M_decode 26 = .ok (.iload_n 2, 1) := by decide +kernel
theorem d_M_decode_27 : decode b_M_decode 27 = .ok (.invokevirtual 100, 3) := by decide +kernel
theorem d_M_decode_30 : decode b_M_decode 30 = .ok (.ifCond .eq 66, 3) := by decide +kernel
theorem d_M_decode_33 : decode b_M_decode 33 = .ok (.iconst 0, 1) := by decide +kernel
theorem d_M_decode_34 : decode b_M_decode 34 = .ok (.istore 5, 2) := by decide +kernel
theorem d_M_decode_36 : decode b_M_decode 36 = .ok (.iload 5, 2) := by decide +kernel
theorem d_M_decode_38 : decode b_M_decode 38 = .ok (.aload_n 0, 1) := by decide +kernel
theorem d_M_decode_39 : decode b_M_decode 39 = .ok (.getfield 50, 3) := by decide +kernel
theorem d_M_decode_42 : decode b_M_decode 42 = .ok (.if_icmp .ge 30, 3) := by decide +kernel
theorem d_M_decode_45 : decode b_M_decode 45 = .ok (.aload_n 0, 1) := by decide +kernel
theorem d_M_decode_46 : decode b_M_decode 46 = .ok (.getfield 44, 3) := by decide +kernel
theorem d_M_decode_49 : decode b_M_decode 49 = .ok (.iload_n 3, 1) := by decide +kernel
theorem d_M_decode_50 : decode b_M_decode 50 = .ok (.iconst 4, 1) := by decide +kernel
theorem d_M_decode_51 : decode b_M_decode 51 = .ok (.imul, 1) := by decide +kernel
theorem d_M_decode_52 : decode b_M_decode 52 = .ok (.iload 5, 2) := by decide +kernel
theorem d_M_decode_54 : decode b_M_decode 54 = .ok (.iadd, 1) := by decide +kernel
theorem d_M_decode_55 : decode b_M_decode 55 = .ok (.aload_n 0, 1) := by decide +kernel
theorem d_M_decode_56 : decode b_M_decode 56 = .ok (.iload 4, 2) := by decide +kernel
theorem d_M_decode_58 : decode b_M_decode 58 = .ok (.iconst 1, 1) := by decide +kernel
theorem d_M_decode_59 : decode b_M_decode 59 = .ok (.iadd, 1) := by decide +kernel
theorem d_M_decode_60 : decode b_M_decode 60 = .ok (.iload 5, 2) := by decide +kernel
theorem d_M_decode_62 : decode b_M_decode 62 = .ok (.invokevirtual 76, 3) := by decide +kernel
theorem d_M_decode_65 : decode b_M_decode 65 = .ok (.iastore, 1) := by decide +kernel
theorem d_M_decode_66 : decode b_M_decode 66 = .ok (.iinc 5 1, 3) := by decide +kernel
theorem d_M_decode_69 : decode b_M_decode 69 = .ok (.goto (-33), 3) := by decide +kernel
theorem d_M_decode_72 : decode b_M_decode 72 = .ok (.aload_n 0, 1) := by decide +kernel
theorem d_M_decode_73 : decode b_M_decode 73 = .ok (.getfield 47, 3) := by decide +kernel
theorem d_M_decode_76 : decode b_M_decode 76 = .ok (.iload_n 3, 1) := by decide +kernel
theorem d_M_decode_77 : decode b_M_decode 77 = .ok (.aload_n 0, 1) := by decide +kernel
theorem d_M_decode_78 : decode b_M_decode 78 = .ok (.getfield 29, 3) := by decide +kernel
theorem d_M_decode_81 : decode b_M_decode 81 = .ok (.iload_n 1, 1) := by decide +kernel
theorem d_M_decode_82 : decode b_M_decode 82 = .ok (.bipush 70, 2) := by decide +kernel
theorem d_M_decode_84 : decode b_M_decode 84 = .ok (.imul, 1) := by decide +kernel
theorem d_M_decode_85 : decode b_M_decode 85 = .ok (.iload 4, 2) := by decide +kernel
theorem d_M_decode_87 : decode b_M_decode 87 = .ok (.bipush 10, 2) := by decide +kernel
theorem d_M_decode_89 : decode b_M_decode 89 = .ok (.imul, 1) := by decide +kernel
theorem d_M_decode_90 : decode b_M_decode 90 = .ok (.iadd, 1) := by decide +kernel
theorem d_M_decode_91 : decode b_M_decode 91 = .ok (.iaload, 1) := by decide +kernel
theorem d_M_decode_92 : decode b_M_decode 92 = .ok (.iastore, 1) := by decide +kernel
theorem d_M_decode_93 : decode b_M_decode 93 = .ok (.iinc 3 1, 3) := by decide +kernel
theorem d_M_decode_96 : decode b_M_decode 96 = .ok (.iinc 4 1, 3) := by decide +kernel
theorem d_M_decode_99 : decode b_M_decode 99 = .ok (.goto (-94), 3) := by decide +kernel
theorem d_M_decode_102 : decode b_M_decode 102 = .ok (.iconst 0, 1) := by decide +kernel
theorem d_M_decode_103 : decode b_M_decode 103 = .ok (.istore 4, 2) := by decide +kernel
theorem d_M_decode_105 : decode b_M_decode 105 = .ok (.iload 4, 2) := by decide +kernel
theorem d_M_decode_107 : decode b_M_decode 107 = .ok (.aload_n 0, 1) := by decide +kernel
theorem d_M_decode_108 : decode b_M_decode 108 = .ok (.getfield 50, 3) := by decide +kernel
theorem d_M_decode_111 : decode b_M_decode 111 = .ok (.if_icmp .ge 195, 3) := by decide +kernel
theorem d_M_decode_114 : decode b_M_decode 114 = .ok (.iload 4, 2) := by decide +kernel
theorem d_M_decode_116 : decode b_M_decode 116 = .ok (.istore 5, 2) := by decide +kernel
theorem d_M_decode_118 : decode b_M_decode 118 = .ok (.iload 5, 2) := by decide +kernel
theorem d_M_decode_120 : decode b_M_decode 120 = .ok (.aload_n 0, 1) := by decide +kernel
theorem d_M_decode_121 : decode b_M_decode 121 = .ok (.getfield 50, 3) := by decide +kernel
theorem d_M_decode_124 : decode b_M_decode 124 = .ok (.iconst 1, 1) := by decide +kernel
theorem d_M_decode_125 : decode b_M_decode 125 = .ok (.isub, 1) := by decide +kernel
theorem d_M_decode_126 : decode b_M_decode 126 = .ok (.if_icmp .ge 24, 3) := by decide +kernel
theorem d_M_decode_129 : decode b_M_decode 129 = .ok (.aload_n 0, 1) := by decide +kernel
theorem d_M_decode_130 : decode b_M_decode 130 = .ok (.getfield 44, 3) := by decide +kernel
theorem d_M_decode_133 : decode b_M_decode 133 = .ok (.iload 5, 2) := by decide +kernel
theorem d_M_decode_135 : decode b_M_decode 135 = .ok (.iconst 4, 1) := by decide +kernel
theorem d_M_decode_136 : decode b_M_decode 136 = .ok (.imul, 1) := by decide +kernel
theorem d_M_decode_137 : decode b_M_decode 137 = .ok (.iload 4, 2) := by decide +kernel
theorem d_M_decode_139 : decode b_M_decode 139 = .ok (.iadd, 1) := by decide +kernel
theorem d_M_decode_140 : decode b_M_decode 140 = .ok (.iaload, 1) := by decide +kernel
theorem d_M_decode_141 : decode b_M_decode 141 = .ok (.ifCond .ne 9, 3) := by decide +kernel
theorem d_M_decode_144 : decode b_M_decode 144 = .ok (.iinc 5 1, 3) := by decide +kernel
theorem d_M_decode_147 : decode b_M_decode 147 = .ok (.goto (-29), 3) := by decide +kernel
theorem d_M_decode_150 : decode b_M_decode 150 = .ok (.iload 5, 2) := by decide +kernel
theorem d_M_decode_152 : decode b_M_decode 152 = .ok (.iload 4, 2) := by decide +kernel
theorem d_M_decode_154 : decode b_M_decode 154 = .ok (.if_icmp .le 12, 3) := by decide +kernel
theorem d_M_decode_157 : decode b_M_decode 157 = .ok (.aload_n 0, 1) := by decide +kernel
theorem d_M_decode_158 : decode b_M_decode 158 = .ok (.iload 4, 2) := by decide +kernel
theorem d_M_decode_160 : decode b_M_decode 160 = .ok (.iload 5, 2) := by decide +kernel
theorem d_M_decode_162 : decode b_M_decode 162 = .ok (.iconst 1, 1) := by decide +kernel
theorem d_M_decode_163 : decode b_M_decode 163 = .ok (.invokevirtual 104, 3) := by decide +kernel
theorem d_M_decode_166 : decode b_M_decode 166 = .ok (.aload_n 0, 1) := by decide +kernel
theorem d_M_decode_167 : decode b_M_decode 167 = .ok (.aload_n 0, 1) := by decide +kernel
theorem d_M_decode_168 : decode b_M_decode 168 = .ok (.getfield 44, 3) := by decide +kernel
theorem d_M_decode_171 : decode b_M_decode 171 = .ok (.iload 4, 2) := by decide +kernel
theorem d_M_decode_173 : decode b_M_decode 173 = .ok (.iconst 4, 1) := by decide +kernel
theorem d_M_decode_174 : decode b_M_decode 174 = .ok (.imul, 1) := by decide +kernel
theorem d_M_decode_175 : decode b_M_decode 175 = .ok (.iload 4, 2) := by decide +kernel
theorem d_M_decode_177 : decode b_M_decode 177 = .ok (.iadd, 1) := by decide +kernel
theorem d_M_decode_178 : decode b_M_decode 178 = .ok (.iaload, 1) := by decide +kernel
theorem d_M_decode_179 : decode b_M_decode 179 = .ok (.sipush 254, 3) := by decide +kernel
theorem d_M_decode_182 : decode b_M_decode 182 = .ok (.invokevirtual 76, 3) := by decide +kernel
theorem d_M_decode_185 : decode b_M_decode 185 = .ok (.istore 6, 2) := by decide +kernel
theorem d_M_decode_187 : decode b_M_decode 187 = .ok (.iconst 0, 1) := by decide +kernel
theorem d_M_decode_188 : decode b_M_decode 188 = .ok (.istore 7, 2) := by decide +kernel
theorem d_M_decode_190 : decode b_M_decode 190 = .ok (.iload 7, 2) := by decide +kernel
theorem d_M_decode_192 : decode b_M_decode 192 = .ok (.aload_n 0, 1) := by decide +kernel
theorem d_M_decode_193 : decode b_M_decode 193 = .ok (.getfield 50, 3) := by decide +kernel
theorem d_M_decode_196 : decode b_M_decode 196 = .ok (.if_icmp .ge 39, 3) := by decide +kernel
theorem d_M_decode_199 : decode b_M_decode 199 = .ok (.aload_n 0, 1) := by decide +kernel
theorem d_M_decode_200 : decode b_M_decode 200 = .ok (.getfield 44, 3) := by decide +kernel
theorem d_M_decode_203 : decode b_M_decode 203 = .ok (.iload 4, 2) := by decide +kernel
theorem d_M_decode_205 : decode b_M_decode 205 = .ok (.iconst 4, 1) := by decide +kernel
theorem d_M_decode_206 : decode b_M_decode 206 = .ok (.imul, 1) := by decide +kernel
theorem d_M_decode_207 : decode b_M_decode 207 = .ok (.iload 7, 2) := by decide +kernel
theorem d_M_decode_209 : decode b_M_decode 209 = .ok (.iadd, 1) := by decide +kernel
theorem d_M_decode_210 : decode b_M_decode 210 = .ok (.aload_n 0, 1) := by decide +kernel
theorem d_M_decode_211 : decode b_M_decode 211 = .ok (.aload_n 0, 1) := by decide +kernel
theorem d_M_decode_212 : decode b_M_decode 212 = .ok (.getfield 44, 3) := by decide +kernel
theorem d_M_decode_215 : decode b_M_decode 215 = .ok (.iload 4, 2) := by decide +kernel
theorem d_M_decode_217 : decode b_M_decode 217 = .ok (.iconst 4, 1) := by decide +kernel
theorem d_M_decode_218 : decode b_M_decode 218 = .ok (.imul, 1) := by decide +kernel
theorem d_M_decode_219 : decode b_M_decode 219 = .ok (.iload 7, 2) := by decide +kernel
theorem d_M_decode_221 : decode b_M_decode 221 = .ok (.iadd, 1) := by decide +kernel
theorem d_M_decode_222 : decode b_M_decode 222 = .ok (.iaload, 1) := by decide +kernel
theorem d_M_decode_223 : decode b_M_decode 223 = .ok (.iload 6, 2) := by decide +kernel
theorem d_M_decode_225 : decode b_M_decode 225 = .ok (.invokevirtual 73, 3) := by decide +kernel
theorem d_M_decode_228 : decode b_M_decode 228 = .ok (.iastore, 1) := by decide +kernel
theorem d_M_decode_229 : decode b_M_decode 229 = .ok (.iinc 7 1, 3) := by decide +kernel
theorem d_M_decode_232 : decode b_M_decode 232 = .ok (.goto (-42), 3) := by decide +kernel
theorem d_M_decode_235 : decode b_M_decode 235 = .ok (.aload_n 0, 1) := by decide +kernel
theorem d_M_decode_236 : decode b_M_decode 236 = .ok (.getfield 47, 3) := by decide +kernel
theorem d_M_decode_239 : decode b_M_decode 239 = .ok (.iload 4, 2) := by decide +kernel
theorem d_M_decode_241 : decode b_M_decode 241 = .ok (.aload_n 0, 1) := by decide +kernel
theorem d_M_decode_242 : decode b_M_decode 242 = .ok (.aload_n 0, 1) := by decide +kernel
theorem d_M_decode_243 : decode b_M_decode 243 = .ok (.getfield 47, 3) := by decide +kernel
theorem d_M_decode_246 : decode b_M_decode 246 = .ok (.iload 4, 2) := by decide +kernel
theorem d_M_decode_248 : decode b_M_decode 248 = .ok (.iaload, 1) := by decide +kernel
theorem d_M_decode_249 : decode b_M_decode 249 = .ok (.iload 6, 2) := by decide +kernel
theorem d_M_decode_251 : decode b_M_decode 251 = .ok (.invokevirtual 79, 3) := by decide +kernel
theorem d_M_decode_254 : decode b_M_decode 254 = .ok (.iastore, 1) := by decide +kernel
theorem d_M_decode_255 : decode b_M_decode 255 = .ok (.iconst 0, 1) := by decide +kernel
theorem d_M_decode_256 : decode b_M_decode 256 = .ok (.istore 7, 2) := by decide +kernel
theorem d_M_decode_258 : decode b_M_decode 258 = .ok (.iload 7, 2) := by decide +kernel
theorem d_M_decode_260 : decode b_M_decode 260 = .ok (.aload_n 0, 1) := by decide +kernel
theorem d_M_decode_261 : decode b_M_decode 261 = .ok (.getfield 50, 3) := by decide +kernel
theorem d_M_decode_264 : decode b_M_decode 264 = .ok (.if_icmp .ge 36, 3) := by decide +kernel
theorem d_M_decode_267 : decode b_M_decode 267 = .ok (.iload 7, 2) := by decide +kernel
theorem d_M_decode_269 : decode b_M_decode 269 = .ok (.iload 4, 2) := by decide +kernel
theorem d_M_decode_271 : decode b_M_decode 271 = .ok (.if_icmp .eq 23, 3) := by decide +kernel
theorem d_M_decode_274 : decode b_M_decode 274 = .ok (.aload_n 0, 1) := by decide +kernel
theorem d_M_decode_275 : decode b_M_decode 275 = .ok (.iload 7, 2) := by decide +kernel
theorem d_M_decode_277 : decode b_M_decode 277 = .ok (.iload 4, 2) := by decide +kernel
theorem d_M_decode_279 : decode b_M_decode 279 = .ok (.aload_n 0, 1) := by decide +kernel
theorem d_M_decode_280 : decode b_M_decode 280 = .ok (.getfield 44, 3) := by decide +kernel
theorem d_M_decode_283 : decode b_M_decode 283 = .ok (.iload 7, 2) := by decide +kernel
theorem d_M_decode_285 : decode b_M_decode 285 = .ok (.iconst 4, 1) := by decide +kernel
theorem d_M_decode_286 : decode b_M_decode 286 = .ok (.imul, 1) := by decide +kernel
theorem d_M_decode_287 : decode b_M_decode 287 = .ok (.iload 4, 2) := by decide +kernel
theorem d_M_decode_289 : decode b_M_decode 289 = .ok (.iadd, 1) := by decide +kernel
theorem d_M_decode_290 : decode b_M_decode 290 = .ok (.iaload, 1) := by decide +kernel
theorem d_M_decode_291 : decode b_M_decode 291 = .ok (.invokevirtual 104, 3) := by decide +kernel
theorem d_M_decode_294 : decode b_M_decode 294 = .ok (.iinc 7 1, 3) := by decide +kernel
theorem d_M_decode_297 : decode b_M_decode 297 = .ok (.goto (-39), 3) := by decide +kernel
theorem d_M_decode_300 : decode b_M_decode 300 = .ok (.iinc 4 1, 3) := by decide +kernel
theorem d_M_decode_303 : decode b_M_decode 303 = .ok (.goto (-198), 3) := by decide +kernel
theorem d_M_decode_306 : decode b_M_decode 306 = .ok (.iconst 0, 1) := by decide +kernel
theorem d_M_decode_307 : decode b_M_decode 307 = .ok (.istore 4, 2) := by decide +kernel
theorem d_M_decode_309 : decode b_M_decode 309 = .ok (.iload 4, 2) := by decide +kernel
theorem d_M_decode_311 : decode b_M_decode 311 = .ok (.aload_n 0, 1) := by decide +kernel
theorem d_M_decode_312 : decode b_M_decode 312 = .ok (.getfield 50, 3) := by decide +kernel
theorem d_M_decode_315 : decode b_M_decode 315 = .ok (.if_icmp .ge 23, 3) := by decide +kernel
theorem d_M_decode_318 : decode b_M_decode 318 = .ok (.aload_n 0, 1) := by decide +kernel
theorem d_M_decode_319 : decode b_M_decode 319 = .ok (.getfield 41, 3) := by decide +kernel
theorem d_M_decode_322 : decode b_M_decode 322 = .ok (.iload 4, 2) := by decide +kernel
theorem d_M_decode_324 : decode b_M_decode 324 = .ok (.aload_n 0, 1) := by decide +kernel
theorem d_M_decode_325 : decode b_M_decode 325 = .ok (.getfield 47, 3) := by decide +kernel
theorem d_M_decode_328 : decode b_M_decode 328 = .ok (.iload 4, 2) := by decide +kernel
theorem d_M_decode_330 : decode b_M_decode 330 = .ok (.iaload, 1) := by decide +kernel
theorem d_M_decode_331 : decode b_M_decode 331 = .ok (.iastore, 1) := by decide +kernel
theorem d_M_decode_332 : decode b_M_decode 332 = .ok (.iinc 4 1, 3) := by decide +kernel
theorem d_M_decode_335 : decode b_M_decode 335 = .ok (.goto (-26), 3) := by decide +kernel
theorem d_M_decode_338 : decode b_M_decode 338 = .ok (.return_, 1) := by decide +kernel
theorem d_M_read_0 : decode b_M_read 0 = .ok (.aload_n 0, 1) := by decide +kernel
theorem d_M_read_1 : decode b_M_read 1 = .ok (.aload_n 0, 1) := by decide +kernel
theorem d_M_read_2 : decode b_M_read 2 = .ok (.iload_n 1, 1) := by decide +kernel
theorem d_M_read_3 : decode b_M_read 3 = .ok (.iconst 2, 1) := by decide +kernel
theorem d_M_read_4 : decode b_M_read 4 = .ok (.invokevirtual 59, 3) := by decide +kernel
theorem d_M_read_7 : decode b_M_read 7 = .ok (.invokevirtual 69, 3) := by decide +kernel
theorem d_M_read_10 : decode b_M_read 10 = .ok (.istore_n 2, 1) := by decide +kernel
theorem d_M_read_11 : decode b_M_read 11 = .ok (.iload_n 2, 1) := by decide +kernel
theorem d_M_read_12 : decode b_M_read 12 = .ok (.ifCond .ge 5, 3) := by decide +kernel
theorem d_M_read_15 : decode b_M_read 15 = .ok (.iconst (-1), 1) := by decide +kernel
theorem d_M_read_16 : decode b_M_read 16 = .ok (.ireturn, 1) := by decide +kernel
theorem d_M_read_17 : decode b_M_read 17 = .ok (.aload_n 0, 1) := by decide +kernel
theorem d_M_read_18 : decode b_M_read 18 = .ok (.iload_n 2, 1) := by decide +kernel
theorem d_M_read_19 : decode b_M_read 19 = .ok (.invokevirtual 108, 3) := by decide +kernel
theorem d_M_read_22 : decode b_M_read 22 = .ok (.istore_n 3, 1) := by decide +kernel
theorem d_M_read_23 : decode b_M_read 23 = .ok (.iload_n 3, 1) := by decide +kernel
theorem d_M_read_24 : decode b_M_read 24 = .ok (.ifCond .ne 6, 3) := by decide +kernel
theorem d_M_read_27 : decode b_M_read 27 = .ok (.bipush (-3), 2) := by decide +kernel
theorem d_M_read_29 : decode b_M_read 29 = .ok (.ireturn, 1) := by decide +kernel
theorem d_M_read_30 : decode b_M_read 30 = .ok (.aload_n 0, 1) := by decide +kernel
theorem d_M_read_31 : decode b_M_read 31 = .ok (.iload_n 2, 1) := by decide +kernel
theorem d_M_read_32 : decode b_M_read 32 = .ok (.iload_n 3, 1) := by decide +kernel
theorem d_M_read_33 : decode b_M_read 33 = .ok (.invokevirtual 111, 3) := by decide +kernel
theorem d_M_read_36 : decode b_M_read 36 = .ok (.iconst 0, 1) := by decide +kernel
theorem d_M_read_37 : decode b_M_read 37 = .ok (.istore 4, 2) := by decide +kernel
theorem d_M_read_39 : decode b_M_read 39 = .ok (.iload 4, 2) := by decide +kernel
theorem d_M_read_41 : decode b_M_read 41 = .ok (.aload_n 0, 1) := by decide +kernel
theorem d_M_read_42 : decode b_M_read 42 = .ok (.getfield 50, 3) := by decide +kernel
theorem d_M_read_45 : decode b_M_read 45 = .ok (.if_icmp .ge 36, 3) := by decide +kernel
theorem d_M_read_48 : decode b_M_read 48 = .ok (.aload_n 0, 1) := by decide +kernel
theorem d_M_read_49 : decode b_M_read 49 = .ok (.getfield 38, 3) := by decide +kernel
theorem d_M_read_52 : decode b_M_read 52 = .ok (.iload 4, 2) := by decide +kernel
theorem d_M_read_54 : decode b_M_read 54 = .ok (.aload_n 0, 1) := by decide +kernel
theorem d_M_read_55 : decode b_M_read 55 = .ok (.getfield 41, 3) := by decide +kernel
theorem d_M_read_58 : decode b_M_read 58 = .ok (.iload 4, 2) := by decide +kernel
theorem d_M_read_60 : decode b_M_read 60 = .ok (.iaload, 1) := by decide +kernel
theorem d_M_read_61 : decode b_M_read 61 = .ok (.aload_n 0, 1) := by decide +kernel
theorem d_M_read_62 : decode b_M_read 62 = .ok (.iload_n 1, 1) := by decide +kernel
theorem d_M_read_63 : decode b_M_read 63 = .ok (.iload_n 3, 1) := by decide +kernel
theorem d_M_read_64 : decode b_M_read 64 = .ok (.bipush 8, 2) := by decide +kernel
theorem d_M_read_66 : decode b_M_read 66 = .ok (.imul, 1) := by decide +kernel
theorem d_M_read_67 : decode b_M_read 67 = .ok (.iload 4, 2) := by decide +kernel
theorem d_M_read_69 : decode b_M_read 69 = .ok (.iadd, 1) := by decide +kernel
theorem d_M_read_70 : decode b_M_read 70 = .ok (.invokevirtual 59, 3) := by decide +kernel
theorem d_M_read_73 : decode b_M_read 73 = .ok (.ixor, 1) := by decide +kernel
theorem d_M_read_74 : decode b_M_read 74 = .ok (.iastore, 1) := by decide +kernel
theorem d_M_read_75 : decode b_M_read 75 = .ok (.iinc 4 1, 3) := by decide +kernel
theorem d_M_read_78 : decode b_M_read 78 = .ok (.goto (-39), 3) := by decide +kernel
theorem d_M_read_81 : decode b_M_read 81 = .ok (.aload_n 0, 1) := by decide +kernel
theorem d_M_read_82 : decode b_M_read 82 = .ok (.iconst 1, 1) := by decide +kernel
theorem d_M_read_83 : decode b_M_read 83 = .ok (.putfield 115, 3) := by decide +kernel
theorem d_M_read_86 : decode b_M_read 86 = .ok (.iload_n 3, 1) := by decide +kernel
theorem d_M_read_87 : decode b_M_read 87 = .ok (.ireturn, 1) := by decide +kernel
theorem d_M_word_0 : decode b_M_word 0 = .ok (.aload_n 0, 1) := by decide +kernel
theorem d_M_word_1 : decode b_M_word 1 = .ok (.getfield 115, 3) := by decide +kernel
theorem d_M_word_4 : decode b_M_word 4 = .ok (.ifCond .eq 15, 3) := by decide +kernel
theorem d_M_word_7 : decode b_M_word 7 = .ok (.iload_n 1, 1) := by decide +kernel
theorem d_M_word_8 : decode b_M_word 8 = .ok (.ifCond .lt 11, 3) := by decide +kernel
theorem d_M_word_11 : decode b_M_word 11 = .ok (.iload_n 1, 1) := by decide +kernel
theorem d_M_word_12 : decode b_M_word 12 = .ok (.aload_n 0, 1) := by decide +kernel
theorem d_M_word_13 : decode b_M_word 13 = .ok (.getfield 50, 3) := by decide +kernel
theorem d_M_word_16 : decode b_M_word 16 = .ok (.if_icmp .lt 9, 3) := by decide +kernel
theorem d_M_word_19 : decode b_M_word 19 = .ok (.ldc2_w 119, 3) := by decide +kernel
theorem d_M_word_22 : decode b_M_word 22 = .ok (.goto 10, 3) := by decide +kernel
theorem d_M_word_25 : decode b_M_word 25 = .ok (.aload_n 0, 1) := by decide +kernel
theorem d_M_word_26 : decode b_M_word 26 = .ok (.getfield 38, 3) := by decide +kernel
theorem d_M_word_29 : decode b_M_word 29 = .ok (.iload_n 1, 1) := by decide +kernel
theorem d_M_word_30 : decode b_M_word 30 = .ok (.iaload, 1) := by decide +kernel
theorem d_M_word_31 : decode b_M_word 31 = .ok (.i2l, 1) := by decide +kernel
theorem d_M_word_32 : decode b_M_word 32 = .ok (.lreturn, 1) := by decide +kernel
theorem d_M_sound_0 : decode b_M_sound 0 = .ok (.aload_n 0, 1) := by decide +kernel
theorem d_M_sound_1 : decode b_M_sound 1 = .ok (.iload_n 1, 1) := by decide +kernel
theorem d_M_sound_2 : decode b_M_sound 2 = .ok (.invokevirtual 69, 3) := by decide +kernel
theorem d_M_sound_5 : decode b_M_sound 5 = .ok (.istore_n 2, 1) := by decide +kernel
theorem d_M_sound_6 : decode b_M_sound 6 = .ok (.iload_n 2, 1) := by decide +kernel
theorem d_M_sound_7 : decode b_M_sound 7 = .ok (.ifCond .ge 5, 3) := by decide +kernel
theorem d_M_sound_10 : decode b_M_sound 10 = .ok (.iconst (-1), 1) := by decide +kernel
theorem d_M_sound_11 : decode b_M_sound 11 = .ok (.ireturn, 1) := by decide +kernel
theorem d_M_sound_12 : decode b_M_sound 12 = .ok (.iconst 0, 1) := by decide +kernel
theorem d_M_sound_13 : decode b_M_sound 13 = .ok (.istore_n 3, 1) := by decide +kernel
theorem d_M_sound_14 : decode b_M_sound 14 = .ok (.iconst 0, 1) := by decide +kernel
theorem d_M_sound_15 : decode b_M_sound 15 = .ok (.istore 4, 2) := by decide +kernel
theorem d_M_sound_17 : decode b_M_sound 17 = .ok (.iload 4, 2) := by decide +kernel
theorem d_M_sound_19 : decode b_M_sound 19 = .ok (.aload_n 0, 1) := by decide +kernel
theorem d_M_sound_20 : decode b_M_sound 20 = .ok (.getfield 54, 3) := by decide +kernel
theorem d_M_sound_23 : decode b_M_sound 23 = .ok (.if_icmp .ge 32, 3) := by decide +kernel
theorem d_M_sound_26 : decode b_M_sound 26 = .ok (.aload_n 0, 1) := by decide +kernel
theorem d_M_sound_27 : decode b_M_sound 27 = .ok (.getfield 7, 3) := by decide +kernel
theorem d_M_sound_30 : decode b_M_sound 30 = .ok (.iload 4, 2) := by decide +kernel
theorem d_M_sound_32 : decode b_M_sound 32 = .ok (.baload, 1) := by decide +kernel
theorem d_M_sound_33 : decode b_M_sound 33 = .ok (.ifCond .eq 16, 3) := by decide +kernel
theorem d_M_sound_36 : decode b_M_sound 36 = .ok (.aload_n 0, 1) := by decide +kernel
theorem d_M_sound_37 : decode b_M_sound 37 = .ok (.iload_n 2, 1) := by decide +kernel
theorem d_M_sound_38 : decode b_M_sound 38 = .ok (.iload 4, 2) := by decide +kernel
theorem d_M_sound_40 : decode b_M_sound 40 = .ok (.invokevirtual 96, 3) := by decide +kernel
theorem d_M_sound_43 : decode b_M_sound 43 = .ok (.ifCond .eq 6, 3) := by decide +kernel
theorem d_M_sound_46 : decode b_M_sound 46 = .ok (.iinc 3 1, 3) := by decide +kernel
theorem d_M_sound_49 : decode b_M_sound 49 = .ok (.iinc 4 1, 3) := by decide +kernel
theorem d_M_sound_52 : decode b_M_sound 52 = .ok (.goto (-35), 3) := by decide +kernel
theorem d_M_sound_55 : decode b_M_sound 55 = .ok (.iload_n 3, 1) := by decide +kernel
theorem d_M_sound_56 : decode b_M_sound 56 = .ok (.ireturn, 1) := by decide +kernel
theorem d_M_best_0 : decode b_M_best 0 = .ok (.aload_n 0, 1) := by decide +kernel
theorem d_M_best_1 : decode b_M_best 1 = .ok (.iload_n 1, 1) := by decide +kernel
theorem d_M_best_2 : decode b_M_best 2 = .ok (.invokevirtual 69, 3) := by decide +kernel
theorem d_M_best_5 : decode b_M_best 5 = .ok (.istore_n 2, 1) := by decide +kernel
theorem d_M_best_6 : decode b_M_best 6 = .ok (.iload_n 2, 1) := by decide +kernel
theorem d_M_best_7 : decode b_M_best 7 = .ok (.ifCond .ge 7, 3) := by decide +kernel
theorem d_M_best_10 : decode b_M_best 10 = .ok (.iconst (-1), 1) := by decide +kernel
theorem d_M_best_11 : decode b_M_best 11 = .ok (.goto 8, 3) := by decide +kernel
theorem d_M_best_14 : decode b_M_best 14 = .ok (.aload_n 0, 1) := by decide +kernel
theorem d_M_best_15 : decode b_M_best 15 = .ok (.iload_n 2, 1) := by decide +kernel
theorem d_M_best_16 : decode b_M_best 16 = .ok (.invokevirtual 108, 3) := by decide +kernel
theorem d_M_best_19 : decode b_M_best 19 = .ok (.ireturn, 1) := by decide +kernel
theorem d_M_repair_0 : decode b_M_repair 0 = .ok (.aload_n 0, 1) := by decide +kernel
theorem d_M_repair_1 : decode b_M_repair 1 = .ok (.iload_n 1, 1) := by decide +kernel
theorem d_M_repair_2 : decode b_M_repair 2 = .ok (.invokevirtual 69, 3) := by decide +kernel
theorem d_M_repair_5 : decode b_M_repair 5 = .ok (.istore_n 2, 1) := by decide +kernel
theorem d_M_repair_6 : decode b_M_repair 6 = .ok (.iload_n 2, 1) := by decide +kernel
theorem d_M_repair_7 : decode b_M_repair 7 = .ok (.ifCond .ge 5, 3) := by decide +kernel
theorem d_M_repair_10 : decode b_M_repair 10 = .ok (.iconst (-1), 1) := by decide +kernel
theorem d_M_repair_11 : decode b_M_repair 11 = .ok (.ireturn, 1) := by decide +kernel
theorem d_M_repair_12 : decode b_M_repair 12 = .ok (.aload_n 0, 1) := by decide +kernel
theorem d_M_repair_13 : decode b_M_repair 13 = .ok (.iload_n 2, 1) := by decide +kernel
theorem d_M_repair_14 : decode b_M_repair 14 = .ok (.invokevirtual 108, 3) := by decide +kernel
theorem d_M_repair_17 : decode b_M_repair 17 = .ok (.istore_n 3, 1) := by decide +kernel
theorem d_M_repair_18 : decode b_M_repair 18 = .ok (.iload_n 3, 1) := by decide +kernel
theorem d_M_repair_19 : decode b_M_repair 19 = .ok (.ifCond .ne 6, 3) := by decide +kernel
theorem d_M_repair_22 : decode b_M_repair 22 = .ok (.bipush (-3), 2) := by decide +kernel
theorem d_M_repair_24 : decode b_M_repair 24 = .ok (.ireturn, 1) := by decide +kernel
theorem d_M_repair_25 : decode b_M_repair 25 = .ok (.aload_n 0, 1) := by decide +kernel
theorem d_M_repair_26 : decode b_M_repair 26 = .ok (.iload_n 2, 1) := by decide +kernel
theorem d_M_repair_27 : decode b_M_repair 27 = .ok (.iload_n 3, 1) := by decide +kernel
theorem d_M_repair_28 : decode b_M_repair 28 = .ok (.invokevirtual 111, 3) := by decide +kernel
theorem d_M_repair_31 : decode b_M_repair 31 = .ok (.iconst 0, 1) := by decide +kernel
theorem d_M_repair_32 : decode b_M_repair 32 = .ok (.istore 4, 2) := by decide +kernel
theorem d_M_repair_34 : decode b_M_repair 34 = .ok (.aload_n 0, 1) := by decide +kernel
theorem d_M_repair_35 : decode b_M_repair 35 = .ok (.iload_n 2, 1) := by decide +kernel
theorem d_M_repair_36 : decode b_M_repair 36 = .ok (.iload 4, 2) := by decide +kernel
theorem d_M_repair_38 : decode b_M_repair 38 = .ok (.iload_n 3, 1) := by decide +kernel
theorem d_M_repair_39 : decode b_M_repair 39 = .ok (.invokevirtual 100, 3) := by decide +kernel
theorem d_M_repair_42 : decode b_M_repair 42 = .ok (.ifCond .ne 9, 3) := by decide +kernel
theorem d_M_repair_45 : decode b_M_repair 45 = .ok (.iinc 4 1, 3) := by decide +kernel
theorem d_M_repair_48 : decode b_M_repair 48 = .ok (.goto (-14), 3) := by decide +kernel
theorem d_M_repair_51 : decode b_M_repair 51 = .ok (.iconst 0, 1) := by decide +kernel
theorem d_M_repair_52 : decode b_M_repair 52 = .ok (.istore 5, 2) := by decide +kernel
theorem d_M_repair_54 : decode b_M_repair 54 = .ok (.iconst 0, 1) := by decide +kernel
theorem d_M_repair_55 : decode b_M_repair 55 = .ok (.istore 6, 2) := by decide +kernel
theorem d_M_repair_57 : decode b_M_repair 57 = .ok (.iload 6, 2) := by decide +kernel
theorem d_M_repair_59 : decode b_M_repair 59 = .ok (.aload_n 0, 1) := by decide +kernel
theorem d_M_repair_60 : decode b_M_repair 60 = .ok (.getfield 54, 3) := by decide +kernel
theorem d_M_repair_63 : decode b_M_repair 63 = .ok (.if_icmp .ge 82, 3) := by decide +kernel
theorem d_M_repair_66 : decode b_M_repair 66 = .ok (.aload_n 0, 1) := by decide +kernel
theorem d_M_repair_67 : decode b_M_repair 67 = .ok (.getfield 7, 3) := by decide +kernel
theorem d_M_repair_70 : decode b_M_repair 70 = .ok (.iload 6, 2) := by decide +kernel
theorem d_M_repair_72 : decode b_M_repair 72 = .ok (.baload, 1) := by decide +kernel
theorem d_M_repair_73 : decode b_M_repair 73 = .ok (.ifCond .eq 66, 3) := by decide +kernel
theorem d_M_repair_76 : decode b_M_repair 76 = .ok (.aload_n 0, 1) := by decide +kernel
theorem d_M_repair_77 : decode b_M_repair 77 = .ok (.getfield 13, 3) := by decide +kernel
theorem d_M_repair_80 : decode b_M_repair 80 = .ok (.iload 6, 2) := by decide +kernel
theorem d_M_repair_82 : decode b_M_repair 82 = .ok (.baload, 1) := by decide +kernel
theorem d_M_repair_83 : decode b_M_repair 83 = .ok (.ifCond .ne 56, 3) := by decide +kernel
theorem d_M_repair_86 : decode b_M_repair 86 = .ok (.aload_n 0, 1) := by decide +kernel
theorem d_M_repair_87 : decode b_M_repair 87 = .ok (.iload_n 2, 1) := by decide +kernel
theorem d_M_repair_88 : decode b_M_repair 88 = .ok (.iload 6, 2) := by decide +kernel
theorem d_M_repair_90 : decode b_M_repair 90 = .ok (.iload_n 3, 1) := by decide +kernel
theorem d_M_repair_91 : decode b_M_repair 91 = .ok (.invokevirtual 100, 3) := by decide +kernel
theorem d_M_repair_94 : decode b_M_repair 94 = .ok (.ifCond .ne 45, 3) := by decide +kernel
theorem d_M_repair_97 : decode b_M_repair 97 = .ok (.aload_n 0, 1) := by decide +kernel
theorem d_M_repair_98 : decode b_M_repair 98 = .ok (.iload_n 2, 1) := by decide +kernel
theorem d_M_repair_99 : decode b_M_repair 99 = .ok (.bipush 7, 2) := by decide +kernel
theorem d_M_repair_101 : decode b_M_repair 101 = .ok (.imul, 1) := by decide +kernel
theorem d_M_repair_102 : decode b_M_repair 102 = .ok (.iload 4, 2) := by decide +kernel
theorem d_M_repair_104 : decode b_M_repair 104 = .ok (.iadd, 1) := by decide +kernel
theorem d_M_repair_105 : decode b_M_repair 105 = .ok (.iload_n 2, 1) := by decide +kernel
theorem d_M_repair_106 : decode b_M_repair 106 = .ok (.bipush 7, 2) := by decide +kernel
theorem d_M_repair_108 : decode b_M_repair 108 = .ok (.imul, 1) := by decide +kernel
theorem d_M_repair_109 : decode b_M_repair 109 = .ok (.iload 6, 2) := by decide +kernel
theorem d_M_repair_111 : decode b_M_repair 111 = .ok (.iadd, 1) := by decide +kernel
theorem d_M_repair_112 : decode b_M_repair 112 = .ok (.invokevirtual 121, 3) := by decide +kernel
theorem d_M_repair_115 : decode b_M_repair 115 = .ok (.aload_n 0, 1) := by decide +kernel
theorem d_M_repair_116 : decode b_M_repair 116 = .ok (.getfield 29, 3) := by decide +kernel
theorem d_M_repair_119 : decode b_M_repair 119 = .ok (.iload_n 2, 1) := by decide +kernel
theorem d_M_repair_120 : decode b_M_repair 120 = .ok (.bipush 70, 2) := by decide +kernel
theorem d_M_repair_122 : decode b_M_repair 122 = .ok (.imul, 1) := by decide +kernel
theorem d_M_repair_123 : decode b_M_repair 123 = .ok (.iload 6, 2) := by decide +kernel
theorem d_M_repair_125 : decode b_M_repair 125 = .ok (.bipush 10, 2) := by decide +kernel
theorem d_M_repair_127 : decode b_M_repair 127 = .ok (.imul, 1) := by decide +kernel
theorem d_M_repair_128 : decode b_M_repair 128 = .ok (.iadd, 1) := by decide +kernel
theorem d_M_repair_129 : decode b_M_repair 129 = .ok (.aload_n 0, 1) := by decide +kernel
theorem d_M_repair_130 : decode b_M_repair 130 = .ok (.iload 6, 2) := by decide +kernel
theorem d_M_repair_132 : decode b_M_repair 132 = .ok (.invokevirtual 86, 3) := by decide +kernel
theorem d_M_repair_135 : decode b_M_repair 135 = .ok (.iastore, 1) := by decide +kernel
theorem d_M_repair_136 : decode b_M_repair 136 = .ok (.iinc 5 1, 3) := by decide +kernel
theorem d_M_repair_139 : decode b_M_repair 139 = .ok (.iinc 6 1, 3) := by decide +kernel
theorem d_M_repair_142 : decode b_M_repair 142 = .ok (.goto (-85), 3) := by decide +kernel
theorem d_M_repair_145 : decode b_M_repair 145 = .ok (.iload 5, 2) := by decide +kernel
theorem d_M_repair_147 : decode b_M_repair 147 = .ok (.ireturn, 1) := by decide +kernel
theorem d_M_bad_0 : decode b_M_bad 0 = .ok (.iload_n 1, 1) := by decide +kernel
theorem d_M_bad_1 : decode b_M_bad 1 = .ok (.ifCond .lt 23, 3) := by decide +kernel
theorem d_M_bad_4 : decode b_M_bad 4 = .ok (.iload_n 1, 1) := by decide +kernel
theorem d_M_bad_5 : decode b_M_bad 5 = .ok (.aload_n 0, 1) := by decide +kernel
theorem d_M_bad_6 : decode b_M_bad 6 = .ok (.getfield 63, 3) := by decide +kernel
theorem d_M_bad_9 : decode b_M_bad 9 = .ok (.if_icmp .ge 15, 3) := by decide +kernel
theorem d_M_bad_12 : decode b_M_bad 12 = .ok (.iload_n 2, 1) := by decide +kernel
theorem d_M_bad_13 : decode b_M_bad 13 = .ok (.ifCond .lt 11, 3) := by decide +kernel
theorem d_M_bad_16 : decode b_M_bad 16 = .ok (.iload_n 2, 1) := by decide +kernel
theorem d_M_bad_17 : decode b_M_bad 17 = .ok (.aload_n 0, 1) := by decide +kernel
theorem d_M_bad_18 : decode b_M_bad 18 = .ok (.getfield 54, 3) := by decide +kernel
theorem d_M_bad_21 : decode b_M_bad 21 = .ok (.if_icmp .lt 7, 3) := by decide +kernel
theorem d_M_bad_24 : decode b_M_bad 24 = .ok (.iconst 1, 1) := by decide +kernel
theorem d_M_bad_25 : decode b_M_bad 25 = .ok (.goto 4, 3) := by decide +kernel
theorem d_M_bad_28 : decode b_M_bad 28 = .ok (.iconst 0, 1) := by decide +kernel
theorem d_M_bad_29 : decode b_M_bad 29 = .ok (.ireturn, 1) := by decide +kernel
theorem d_M_server_0 : decode b_M_server 0 = .ok (.iload_n 1, 1) := by decide +kernel
theorem d_M_server_1 : decode b_M_server 1 = .ok (.ifCond .lt 11, 3) := by decide +kernel
theorem d_M_server_4 : decode b_M_server 4 = .ok (.iload_n 1, 1) := by decide +kernel
theorem d_M_server_5 : decode b_M_server 5 = .ok (.aload_n 0, 1) := by decide +kernel
theorem d_M_server_6 : decode b_M_server 6 = .ok (.getfield 54, 3) := by decide +kernel
theorem d_M_server_9 : decode b_M_server 9 = .ok (.if_icmp .lt 5, 3) := by decide +kernel
theorem d_M_server_12 : decode b_M_server 12 = .ok (.iconst (-1), 1) := by decide +kernel
theorem d_M_server_13 : decode b_M_server 13 = .ok (.ireturn, 1) := by decide +kernel
theorem d_M_server_14 : decode b_M_server 14 = .ok (.aload_n 0, 1) := by decide +kernel
theorem d_M_server_15 : decode b_M_server 15 = .ok (.getfield 7, 3) := by decide +kernel
theorem d_M_server_18 : decode b_M_server 18 = .ok (.iload_n 1, 1) := by decide +kernel
theorem d_M_server_19 : decode b_M_server 19 = .ok (.iload_n 2, 1) := by decide +kernel
theorem d_M_server_20 : decode b_M_server 20 = .ok (.bastore, 1) := by decide +kernel
theorem d_M_server_21 : decode b_M_server 21 = .ok (.aload_n 0, 1) := by decide +kernel
theorem d_M_server_22 : decode b_M_server 22 = .ok (.getfield 13, 3) := by decide +kernel
theorem d_M_server_25 : decode b_M_server 25 = .ok (.iload_n 1, 1) := by decide +kernel
theorem d_M_server_26 : decode b_M_server 26 = .ok (.iload_n 3, 1) := by decide +kernel
theorem d_M_server_27 : decode b_M_server 27 = .ok (.bastore, 1) := by decide +kernel
theorem d_M_server_28 : decode b_M_server 28 = .ok (.iconst 0, 1) := by decide +kernel
theorem d_M_server_29 : decode b_M_server 29 = .ok (.ireturn, 1) := by decide +kernel
theorem d_M_tamper_0 : decode b_M_tamper 0 = .ok (.aload_n 0, 1) := by decide +kernel
theorem d_M_tamper_1 : decode b_M_tamper 1 = .ok (.iload_n 1, 1) := by decide +kernel
theorem d_M_tamper_2 : decode b_M_tamper 2 = .ok (.iload_n 2, 1) := by decide +kernel
theorem d_M_tamper_3 : decode b_M_tamper 3 = .ok (.invokevirtual 124, 3) := by decide +kernel
theorem d_M_tamper_6 : decode b_M_tamper 6 = .ok (.ifCond .ne 31, 3) := by decide +kernel
theorem d_M_tamper_9 : decode b_M_tamper 9 = .ok (.iload_n 3, 1) := by decide +kernel
theorem d_M_tamper_10 : decode b_M_tamper 10 = .ok (.ifCond .lt 27, 3) := by decide +kernel
theorem d_M_tamper_13 : decode b_M_tamper 13 = .ok (.iload_n 3, 1) := by decide +kernel
theorem d_M_tamper_14 : decode b_M_tamper 14 = .ok (.iconst 2, 1) := by decide +kernel
theorem d_M_tamper_15 : decode b_M_tamper 15 = .ok (.aload_n 0, 1) := by decide +kernel
theorem d_M_tamper_16 : decode b_M_tamper 16 = .ok (.getfield 54, 3) := by decide +kernel
theorem d_M_tamper_19 : decode b_M_tamper 19 = .ok (.iadd, 1) := by decide +kernel
theorem d_M_tamper_20 : decode b_M_tamper 20 = .ok (.if_icmp .gt 17, 3) := by decide +kernel
theorem d_M_tamper_23 : decode b_M_tamper 23 = .ok (.aload_n 0, 1) := by decide +kernel
theorem d_M_tamper_24 : decode b_M_tamper 24 = .ok (.getfield 32, 3) := by decide +kernel
theorem d_M_tamper_27 : decode b_M_tamper 27 = .ok (.iload_n 1, 1) := by decide +kernel
theorem d_M_tamper_28 : decode b_M_tamper 28 = .ok (.bipush 7, 2) := by decide +kernel
theorem d_M_tamper_30 : decode b_M_tamper 30 = .ok (.imul, 1) := by decide +kernel
theorem d_M_tamper_31 : decode b_M_tamper 31 = .ok (.iload_n 2, 1) := by decide +kernel
theorem d_M_tamper_32 : decode b_M_tamper 32 = .ok (.iadd, 1) := by decide +kernel
theorem d_M_tamper_33 : decode b_M_tamper 33 = .ok (.baload, 1) := by decide +kernel
theorem d_M_tamper_34 : decode b_M_tamper 34 = .ok (.ifCond .ne 5, 3) := by decide +kernel
theorem d_M_tamper_37 : decode b_M_tamper 37 = .ok (.iconst (-1), 1) := by decide +kernel
theorem d_M_tamper_38 : decode b_M_tamper 38 = .ok (.ireturn, 1) := by decide +kernel
theorem d_M_tamper_39 : decode b_M_tamper 39 = .ok (.aload_n 0, 1) := by decide +kernel
theorem d_M_tamper_40 : decode b_M_tamper 40 = .ok (.getfield 29, 3) := by decide +kernel
theorem d_M_tamper_43 : decode b_M_tamper 43 = .ok (.iload_n 1, 1) := by decide +kernel
theorem d_M_tamper_44 : decode b_M_tamper 44 = .ok (.bipush 70, 2) := by decide +kernel
theorem d_M_tamper_46 : decode b_M_tamper 46 = .ok (.imul, 1) := by decide +kernel
theorem d_M_tamper_47 : decode b_M_tamper 47 = .ok (.iload_n 2, 1) := by decide +kernel
theorem d_M_tamper_48 : decode b_M_tamper 48 = .ok (.bipush 10, 2) := by decide +kernel
theorem d_M_tamper_50 : decode b_M_tamper 50 = .ok (.imul, 1) := by decide +kernel
theorem d_M_tamper_51 : decode b_M_tamper 51 = .ok (.iadd, 1) := by decide +kernel
theorem d_M_tamper_52 : decode b_M_tamper 52 = .ok (.iload_n 3, 1) := by decide +kernel
theorem d_M_tamper_53 : decode b_M_tamper 53 = .ok (.iadd, 1) := by decide +kernel
theorem d_M_tamper_54 : decode b_M_tamper 54 = .ok (.dup2, 1) := by decide +kernel
theorem d_M_tamper_55 : decode b_M_tamper 55 = .ok (.iaload, 1) := by decide +kernel
theorem d_M_tamper_56 : decode b_M_tamper 56 = .ok (.iload 4, 2) := by decide +kernel
theorem d_M_tamper_58 : decode b_M_tamper 58 = .ok (.ixor, 1) := by decide +kernel
theorem d_M_tamper_59 : decode b_M_tamper 59 = .ok (.iastore, 1) := by decide +kernel
theorem d_M_tamper_60 : decode b_M_tamper 60 = .ok (.iconst 0, 1) := by decide +kernel
theorem d_M_tamper_61 : decode b_M_tamper 61 = .ok (.ireturn, 1) := by decide +kernel
theorem d_M_picture_0 : decode b_M_picture 0 = .ok (.aload_n 0, 1) := by decide +kernel
theorem d_M_picture_1 : decode b_M_picture 1 = .ok (.iload_n 1, 1) := by decide +kernel
theorem d_M_picture_2 : decode b_M_picture 2 = .ok (.iload_n 2, 1) := by decide +kernel
theorem d_M_picture_3 : decode b_M_picture 3 = .ok (.invokevirtual 124, 3) := by decide +kernel
theorem d_M_picture_6 : decode b_M_picture 6 = .ok (.ifCond .ne 17, 3) := by decide +kernel
theorem d_M_picture_9 : decode b_M_picture 9 = .ok (.aload_n 0, 1) := by decide +kernel
theorem d_M_picture_10 : decode b_M_picture 10 = .ok (.getfield 32, 3) := by decide +kernel
theorem d_M_picture_13 : decode b_M_picture 13 = .ok (.iload_n 1, 1) := by decide +kernel
theorem d_M_picture_14 : decode b_M_picture 14 = .ok (.bipush 7, 2) := by decide +kernel
theorem d_M_picture_16 : decode b_M_picture 16 = .ok (.imul, 1) := by decide +kernel
theorem d_M_picture_17 : decode b_M_picture 17 = .ok (.iload_n 2, 1) := by decide +kernel
theorem d_M_picture_18 : decode b_M_picture 18 = .ok (.iadd, 1) := by decide +kernel
theorem d_M_picture_19 : decode b_M_picture 19 = .ok (.baload, 1) := by decide +kernel
theorem d_M_picture_20 : decode b_M_picture 20 = .ok (.ifCond .ne 5, 3) := by decide +kernel
theorem d_M_picture_23 : decode b_M_picture 23 = .ok (.iconst (-1), 1) := by decide +kernel
theorem d_M_picture_24 : decode b_M_picture 24 = .ok (.ireturn, 1) := by decide +kernel
theorem d_M_picture_25 : decode b_M_picture 25 = .ok (.aload_n 0, 1) := by decide +kernel
theorem d_M_picture_26 : decode b_M_picture 26 = .ok (.iload_n 1, 1) := by decide +kernel
theorem d_M_picture_27 : decode b_M_picture 27 = .ok (.bipush 7, 2) := by decide +kernel
theorem d_M_picture_29 : decode b_M_picture 29 = .ok (.imul, 1) := by decide +kernel
theorem d_M_picture_30 : decode b_M_picture 30 = .ok (.iload_n 2, 1) := by decide +kernel
theorem d_M_picture_31 : decode b_M_picture 31 = .ok (.iadd, 1) := by decide +kernel
theorem d_M_picture_32 : decode b_M_picture 32 = .ok (.bipush 42, 2) := by decide +kernel
theorem d_M_picture_34 : decode b_M_picture 34 = .ok (.iload_n 1, 1) := by decide +kernel
theorem d_M_picture_35 : decode b_M_picture 35 = .ok (.bipush 7, 2) := by decide +kernel
theorem d_M_picture_37 : decode b_M_picture 37 = .ok (.imul, 1) := by decide +kernel
theorem d_M_picture_38 : decode b_M_picture 38 = .ok (.iadd, 1) := by decide +kernel
theorem d_M_picture_39 : decode b_M_picture 39 = .ok (.iload_n 2, 1) := by decide +kernel
theorem d_M_picture_40 : decode b_M_picture 40 = .ok (.iadd, 1) := by decide +kernel
theorem d_M_picture_41 : decode b_M_picture 41 = .ok (.invokevirtual 121, 3) := by decide +kernel
theorem d_M_picture_44 : decode b_M_picture 44 = .ok (.iconst 0, 1) := by decide +kernel
theorem d_M_picture_45 : decode b_M_picture 45 = .ok (.ireturn, 1) := by decide +kernel
theorem d_M_fallBack_0 : decode b_M_fallBack 0 = .ok (.aload_n 0, 1) := by decide +kernel
theorem d_M_fallBack_1 : decode b_M_fallBack 1 = .ok (.iload_n 1, 1) := by decide +kernel
theorem d_M_fallBack_2 : decode b_M_fallBack 2 = .ok (.iload_n 2, 1) := by decide +kernel
theorem d_M_fallBack_3 : decode b_M_fallBack 3 = .ok (.invokevirtual 124, 3) := by decide +kernel
theorem d_M_fallBack_6 : decode b_M_fallBack 6 = .ok (.ifCond .ne 20, 3) := by decide +kernel
theorem d_M_fallBack_9 : decode b_M_fallBack 9 = .ok (.aload_n 0, 1) := by decide +kernel
theorem d_M_fallBack_10 : decode b_M_fallBack 10 = .ok (.getfield 32, 3) := by decide +kernel
theorem d_M_fallBack_13 : decode b_M_fallBack 13 = .ok (.bipush 42, 2) := by decide +kernel
theorem d_M_fallBack_15 : decode b_M_fallBack 15 = .ok (.iload_n 1, 1) := by decide +kernel
theorem d_M_fallBack_16 : decode b_M_fallBack 16 = .ok (.bipush 7, 2) := by decide +kernel
theorem d_M_fallBack_18 : decode b_M_fallBack 18 = .ok (.imul, 1) := by decide +kernel
theorem d_M_fallBack_19 : decode b_M_fallBack 19 = .ok (.iadd, 1) := by decide +kernel
theorem d_M_fallBack_20 : decode b_M_fallBack 20 = .ok (.iload_n 2, 1) := by decide +kernel
theorem d_M_fallBack_21 : decode b_M_fallBack 21 = .ok (.iadd, 1) := by decide +kernel
theorem d_M_fallBack_22 : decode b_M_fallBack 22 = .ok (.baload, 1) := by decide +kernel
theorem d_M_fallBack_23 : decode b_M_fallBack 23 = .ok (.ifCond .ne 5, 3) := by decide +kernel
theorem d_M_fallBack_26 : decode b_M_fallBack 26 = .ok (.iconst (-1), 1) := by decide +kernel
theorem d_M_fallBack_27 : decode b_M_fallBack 27 = .ok (.ireturn, 1) := by decide +kernel
theorem d_M_fallBack_28 : decode b_M_fallBack 28 = .ok (.aload_n 0, 1) := by decide +kernel
theorem d_M_fallBack_29 : decode b_M_fallBack 29 = .ok (.bipush 42, 2) := by decide +kernel
theorem d_M_fallBack_31 : decode b_M_fallBack 31 = .ok (.iload_n 1, 1) := by decide +kernel
theorem d_M_fallBack_32 : decode b_M_fallBack 32 = .ok (.bipush 7, 2) := by decide +kernel
theorem d_M_fallBack_34 : decode b_M_fallBack 34 = .ok (.imul, 1) := by decide +kernel
theorem d_M_fallBack_35 : decode b_M_fallBack 35 = .ok (.iadd, 1) := by decide +kernel
theorem d_M_fallBack_36 : decode b_M_fallBack 36 = .ok (.iload_n 2, 1) := by decide +kernel
theorem d_M_fallBack_37 : decode b_M_fallBack 37 = .ok (.iadd, 1) := by decide +kernel
theorem d_M_fallBack_38 : decode b_M_fallBack 38 = .ok (.iload_n 1, 1) := by decide +kernel
theorem d_M_fallBack_39 : decode b_M_fallBack 39 = .ok (.bipush 7, 2) := by decide +kernel
theorem d_M_fallBack_41 : decode b_M_fallBack 41 = .ok (.imul, 1) := by decide +kernel
theorem d_M_fallBack_42 : decode b_M_fallBack 42 = .ok (.iload_n 2, 1) := by decide +kernel
theorem d_M_fallBack_43 : decode b_M_fallBack 43 = .ok (.iadd, 1) := by decide +kernel
theorem d_M_fallBack_44 : decode b_M_fallBack 44 = .ok (.invokevirtual 121, 3) := by decide +kernel
theorem d_M_fallBack_47 : decode b_M_fallBack 47 = .ok (.iconst 0, 1) := by decide +kernel
theorem d_M_fallBack_48 : decode b_M_fallBack 48 = .ok (.ireturn, 1) := by decide +kernel
theorem d_M_wipe_0 : decode b_M_wipe 0 = .ok (.aload_n 0, 1) := by decide +kernel
theorem d_M_wipe_1 : decode b_M_wipe 1 = .ok (.iload_n 1, 1) := by decide +kernel
theorem d_M_wipe_2 : decode b_M_wipe 2 = .ok (.iload_n 2, 1) := by decide +kernel
theorem d_M_wipe_3 : decode b_M_wipe 3 = .ok (.invokevirtual 124, 3) := by decide +kernel
theorem d_M_wipe_6 : decode b_M_wipe 6 = .ok (.ifCond .eq 5, 3) := by decide +kernel
theorem d_M_wipe_9 : decode b_M_wipe 9 = .ok (.iconst (-1), 1) := by decide +kernel
theorem d_M_wipe_10 : decode b_M_wipe 10 = .ok (.ireturn, 1) := by decide +kernel
theorem d_M_wipe_11 : decode b_M_wipe 11 = .ok (.aload_n 0, 1) := by decide +kernel
theorem d_M_wipe_12 : decode b_M_wipe 12 = .ok (.getfield 32, 3) := by decide +kernel
theorem d_M_wipe_15 : decode b_M_wipe 15 = .ok (.iload_n 1, 1) := by decide +kernel
theorem d_M_wipe_16 : decode b_M_wipe 16 = .ok (.bipush 7, 2) := by decide +kernel
theorem d_M_wipe_18 : decode b_M_wipe 18 = .ok (.imul, 1) := by decide +kernel
theorem d_M_wipe_19 : decode b_M_wipe 19 = .ok (.iload_n 2, 1) := by decide +kernel
theorem d_M_wipe_20 : decode b_M_wipe 20 = .ok (.iadd, 1) := by decide +kernel
theorem d_M_wipe_21 : decode b_M_wipe 21 = .ok (.iconst 0, 1) := by decide +kernel
theorem d_M_wipe_22 : decode b_M_wipe 22 = .ok (.bastore, 1) := by decide +kernel
theorem d_M_wipe_23 : decode b_M_wipe 23 = .ok (.iconst 0, 1) := by decide +kernel
theorem d_M_wipe_24 : decode b_M_wipe 24 = .ok (.ireturn, 1) := by decide +kernel
theorem d_M_share_0 : decode b_M_share 0 = .ok (.aload_n 0, 1) := by decide +kernel
theorem d_M_share_1 : decode b_M_share 1 = .ok (.iload_n 1, 1) := by decide +kernel
theorem d_M_share_2 : decode b_M_share 2 = .ok (.iload_n 2, 1) := by decide +kernel
theorem d_M_share_3 : decode b_M_share 3 = .ok (.invokevirtual 124, 3) := by decide +kernel
theorem d_M_share_6 : decode b_M_share 6 = .ok (.ifCond .ne 26, 3) := by decide +kernel
theorem d_M_share_9 : decode b_M_share 9 = .ok (.aload_n 0, 1) := by decide +kernel
theorem d_M_share_10 : decode b_M_share 10 = .ok (.getfield 32, 3) := by decide +kernel
theorem d_M_share_13 : decode b_M_share 13 = .ok (.iload_n 1, 1) := by decide +kernel
theorem d_M_share_14 : decode b_M_share 14 = .ok (.bipush 7, 2) := by decide +kernel
theorem d_M_share_16 : decode b_M_share 16 = .ok (.imul, 1) := by decide +kernel
theorem d_M_share_17 : decode b_M_share 17 = .ok (.iload_n 2, 1) := by decide +kernel
theorem d_M_share_18 : decode b_M_share 18 = .ok (.iadd, 1) := by decide +kernel
theorem d_M_share_19 : decode b_M_share 19 = .ok (.baload, 1) := by decide +kernel
theorem d_M_share_20 : decode b_M_share 20 = .ok (.ifCond .eq 12, 3) := by decide +kernel
theorem d_M_share_23 : decode b_M_share 23 = .ok (.iload_n 3, 1) := by decide +kernel
theorem d_M_share_24 : decode b_M_share 24 = .ok (.ifCond .lt 8, 3) := by decide +kernel
theorem d_M_share_27 : decode b_M_share 27 = .ok (.iload_n 3, 1) := by decide +kernel
theorem d_M_share_28 : decode b_M_share 28 = .ok (.iconst 2, 1) := by decide +kernel
theorem d_M_share_29 : decode b_M_share 29 = .ok (.if_icmp .le 7, 3) := by decide +kernel
theorem d_M_share_32 : decode b_M_share 32 = .ok (.ldc2_w 119, 3) := by decide +kernel
theorem d_M_share_35 : decode b_M_share 35 = .ok (.lreturn, 1) := by decide +kernel
theorem d_M_share_36 : decode b_M_share 36 = .ok (.aload_n 0, 1) := by decide +kernel
theorem d_M_share_37 : decode b_M_share 37 = .ok (.getfield 29, 3) := by decide +kernel
theorem d_M_share_40 : decode b_M_share 40 = .ok (.iload_n 1, 1) := by decide +kernel
theorem d_M_share_41 : decode b_M_share 41 = .ok (.bipush 70, 2) := by decide +kernel
theorem d_M_share_43 : decode b_M_share 43 = .ok (.imul, 1) := by decide +kernel
theorem d_M_share_44 : decode b_M_share 44 = .ok (.iload_n 2, 1) := by decide +kernel
theorem d_M_share_45 : decode b_M_share 45 = .ok (.bipush 10, 2) := by decide +kernel
theorem d_M_share_47 : decode b_M_share 47 = .ok (.imul, 1) := by decide +kernel
theorem d_M_share_48 : decode b_M_share 48 = .ok (.iadd, 1) := by decide +kernel
theorem d_M_share_49 : decode b_M_share 49 = .ok (.iload_n 3, 1) := by decide +kernel
theorem d_M_share_50 : decode b_M_share 50 = .ok (.iadd, 1) := by decide +kernel
theorem d_M_share_51 : decode b_M_share 51 = .ok (.iaload, 1) := by decide +kernel
theorem d_M_share_52 : decode b_M_share 52 = .ok (.i2l, 1) := by decide +kernel
theorem d_M_share_53 : decode b_M_share 53 = .ok (.lreturn, 1) := by decide +kernel
theorem d_M_times_0 : decode b_M_times 0 = .ok (.iload_n 1, 1) := by decide +kernel
theorem d_M_times_1 : decode b_M_times 1 = .ok (.ifCond .lt 21, 3) := by decide +kernel
theorem d_M_times_4 : decode b_M_times 4 = .ok (.iload_n 1, 1) := by decide +kernel
theorem d_M_times_5 : decode b_M_times 5 = .ok (.sipush 255, 3) := by decide +kernel
theorem d_M_times_8 : decode b_M_times 8 = .ok (.if_icmp .gt 14, 3) := by decide +kernel
theorem d_M_times_11 : decode b_M_times 11 = .ok (.iload_n 2, 1) := by decide +kernel
theorem d_M_times_12 : decode b_M_times 12 = .ok (.ifCond .lt 10, 3) := by decide +kernel
theorem d_M_times_15 : decode b_M_times 15 = .ok (.iload_n 2, 1) := by decide +kernel
theorem d_M_times_16 : decode b_M_times 16 = .ok (.sipush 255, 3) := by decide +kernel
theorem d_M_times_19 : decode b_M_times 19 = .ok (.if_icmp .le 7, 3) := by decide +kernel
theorem d_M_times_22 : decode b_M_times 22 = .ok (.iconst (-1), 1) := by decide +kernel
theorem d_M_times_23 : decode b_M_times 23 = .ok (.goto 9, 3) := by decide +kernel
theorem d_M_times_26 : decode b_M_times 26 = .ok (.aload_n 0, 1) := by decide +kernel
theorem d_M_times_27 : decode b_M_times 27 = .ok (.iload_n 1, 1) := by decide +kernel
theorem d_M_times_28 : decode b_M_times 28 = .ok (.iload_n 2, 1) := by decide +kernel
theorem d_M_times_29 : decode b_M_times 29 = .ok (.invokevirtual 73, 3) := by decide +kernel
theorem d_M_times_32 : decode b_M_times 32 = .ok (.ireturn, 1) := by decide +kernel
theorem d_M_count_0 : decode b_M_count 0 = .ok (.iload_n 1, 1) := by decide +kernel
theorem d_M_count_1 : decode b_M_count 1 = .ok (.ifCond .ne 8, 3) := by decide +kernel
theorem d_M_count_4 : decode b_M_count 4 = .ok (.aload_n 0, 1) := by decide +kernel
theorem d_M_count_5 : decode b_M_count 5 = .ok (.getfield 63, 3) := by decide +kernel
theorem d_M_count_8 : decode b_M_count 8 = .ok (.ireturn, 1) := by decide +kernel
theorem d_M_count_9 : decode b_M_count 9 = .ok (.iload_n 1, 1) := by decide +kernel
theorem d_M_count_10 : decode b_M_count 10 = .ok (.iconst 1, 1) := by decide +kernel
theorem d_M_count_11 : decode b_M_count 11 = .ok (.if_icmp .ne 8, 3) := by decide +kernel
theorem d_M_count_14 : decode b_M_count 14 = .ok (.aload_n 0, 1) := by decide +kernel
theorem d_M_count_15 : decode b_M_count 15 = .ok (.invokevirtual 82, 3) := by decide +kernel
theorem d_M_count_18 : decode b_M_count 18 = .ok (.ireturn, 1) := by decide +kernel
theorem d_M_count_19 : decode b_M_count 19 = .ok (.iload_n 1, 1) := by decide +kernel
theorem d_M_count_20 : decode b_M_count 20 = .ok (.iconst 2, 1) := by decide +kernel
theorem d_M_count_21 : decode b_M_count 21 = .ok (.if_icmp .ne 8, 3) := by decide +kernel
theorem d_M_count_24 : decode b_M_count 24 = .ok (.aload_n 0, 1) := by decide +kernel
theorem d_M_count_25 : decode b_M_count 25 = .ok (.getfield 50, 3) := by decide +kernel
theorem d_M_count_28 : decode b_M_count 28 = .ok (.ireturn, 1) := by decide +kernel
theorem d_M_count_29 : decode b_M_count 29 = .ok (.iload_n 1, 1) := by decide +kernel
theorem d_M_count_30 : decode b_M_count 30 = .ok (.iconst 3, 1) := by decide +kernel
theorem d_M_count_31 : decode b_M_count 31 = .ok (.if_icmp .ne 8, 3) := by decide +kernel
theorem d_M_count_34 : decode b_M_count 34 = .ok (.aload_n 0, 1) := by decide +kernel
theorem d_M_count_35 : decode b_M_count 35 = .ok (.getfield 54, 3) := by decide +kernel
theorem d_M_count_38 : decode b_M_count 38 = .ok (.ireturn, 1) := by decide +kernel
theorem d_M_count_39 : decode b_M_count 39 = .ok (.iload_n 1, 1) := by decide +kernel
theorem d_M_count_40 : decode b_M_count 40 = .ok (.bipush 10, 2) := by decide +kernel
theorem d_M_count_42 : decode b_M_count 42 = .ok (.if_icmp .lt 26, 3) := by decide +kernel
theorem d_M_count_45 : decode b_M_count 45 = .ok (.iload_n 1, 1) := by decide +kernel
theorem d_M_count_46 : decode b_M_count 46 = .ok (.bipush 10, 2) := by decide +kernel
theorem d_M_count_48 : decode b_M_count 48 = .ok (.aload_n 0, 1) := by decide +kernel
theorem d_M_count_49 : decode b_M_count 49 = .ok (.getfield 63, 3) := by decide +kernel
theorem d_M_count_52 : decode b_M_count 52 = .ok (.iadd, 1) := by decide +kernel
theorem d_M_count_53 : decode b_M_count 53 = .ok (.if_icmp .ge 15, 3) := by decide +kernel
theorem d_M_count_56 : decode b_M_count 56 = .ok (.aload_n 0, 1) := by decide +kernel
theorem d_M_count_57 : decode b_M_count 57 = .ok (.getfield 20, 3) := by decide +kernel
theorem d_M_count_60 : decode b_M_count 60 = .ok (.iload_n 1, 1) := by decide +kernel
theorem d_M_count_61 : decode b_M_count 61 = .ok (.bipush 10, 2) := by decide +kernel
theorem d_M_count_63 : decode b_M_count 63 = .ok (.isub, 1) := by decide +kernel
theorem d_M_count_64 : decode b_M_count 64 = .ok (.iaload, 1) := by decide +kernel
theorem d_M_count_65 : decode b_M_count 65 = .ok (.goto 4, 3) := by decide +kernel
theorem d_M_count_68 : decode b_M_count 68 = .ok (.iconst (-1), 1) := by decide +kernel
theorem d_M_count_69 : decode b_M_count 69 = .ok (.ireturn, 1) := by decide +kernel
