theorem d_G_init_0 : decode b_G_init 0 = .ok (.aload_n 0, 1) := by decide +kernel
theorem d_G_init_1 : decode b_G_init 1 = .ok (.invokespecial 1, 3) := by decide +kernel
theorem d_G_init_4 : decode b_G_init 4 = .ok (.aload_n 0, 1) := by decide +kernel
theorem d_G_init_5 : decode b_G_init 5 = .ok (.iload_n 1, 1) := by decide +kernel
theorem d_G_init_6 : decode b_G_init 6 = .ok (.iconst 1, 1) := by decide +kernel
theorem d_G_init_7 : decode b_G_init 7 = .ok (.iconst 4, 1) := by decide +kernel
theorem d_G_init_8 : decode b_G_init 8 = .ok (.invokestatic 9, 3) := by decide +kernel
theorem d_G_init_11 : decode b_G_init 11 = .ok (.putfield 13, 3) := by decide +kernel
theorem d_G_init_14 : decode b_G_init 14 = .ok (.aload_n 0, 1) := by decide +kernel
theorem d_G_init_15 : decode b_G_init 15 = .ok (.iload_n 2, 1) := by decide +kernel
theorem d_G_init_16 : decode b_G_init 16 = .ok (.aload_n 0, 1) := by decide +kernel
theorem d_G_init_17 : decode b_G_init 17 = .ok (.getfield 13, 3) := by decide +kernel
theorem d_G_init_20 : decode b_G_init 20 = .ok (.bipush 7, 2) := by decide +kernel
theorem d_G_init_22 : decode b_G_init 22 = .ok (.invokestatic 9, 3) := by decide +kernel
theorem d_G_init_25 : decode b_G_init 25 = .ok (.putfield 17, 3) := by decide +kernel
theorem d_G_init_28 : decode b_G_init 28 = .ok (.aload_n 0, 1) := by decide +kernel
theorem d_G_init_29 : decode b_G_init 29 = .ok (.aload_n 0, 1) := by decide +kernel
theorem d_G_init_30 : decode b_G_init 30 = .ok (.getfield 17, 3) := by decide +kernel
theorem d_G_init_33 : decode b_G_init 33 = .ok (.newarray .boolean, 2) := by decide +kernel
theorem d_G_init_35 : decode b_G_init 35 = .ok (.putfield 20, 3) := by decide +kernel
theorem d_G_init_38 : decode b_G_init 38 = .ok (.aload_n 0, 1) := by decide +kernel
theorem d_G_init_39 : decode b_G_init 39 = .ok (.aload_n 0, 1) := by decide +kernel
theorem d_G_init_40 : decode b_G_init 40 = .ok (.getfield 17, 3) := by decide +kernel
theorem d_G_init_43 : decode b_G_init 43 = .ok (.newarray .boolean, 2) := by decide +kernel
theorem d_G_init_45 : decode b_G_init 45 = .ok (.putfield 24, 3) := by decide +kernel
theorem d_G_init_48 : decode b_G_init 48 = .ok (.iconst 0, 1) := by decide +kernel
theorem d_G_init_49 : decode b_G_init 49 = .ok (.istore_n 3, 1) := by decide +kernel
theorem d_G_init_50 : decode b_G_init 50 = .ok (.iload_n 3, 1) := by decide +kernel
theorem d_G_init_51 : decode b_G_init 51 = .ok (.aload_n 0, 1) := by decide +kernel
theorem d_G_init_52 : decode b_G_init 52 = .ok (.getfield 17, 3) := by decide +kernel
theorem d_G_init_55 : decode b_G_init 55 = .ok (.if_icmp .ge 16, 3) := by decide +kernel
theorem d_G_init_58 : decode b_G_init 58 = .ok (.aload_n 0, 1) := by decide +kernel
theorem d_G_init_59 : decode b_G_init 59 = .ok (.getfield 20, 3) := by decide +kernel
theorem d_G_init_62 : decode b_G_init 62 = .ok (.iload_n 3, 1) := by decide +kernel
theorem d_G_init_63 : decode b_G_init 63 = .ok (.iconst 1, 1) := by decide +kernel
theorem d_G_init_64 : decode b_G_init 64 = .ok (.bastore, 1) := by decide +kernel
theorem d_G_init_65 : decode b_G_init 65 = .ok (.iinc 3 1, 3) := by decide +kernel
theorem d_G_init_68 : decode b_G_init 68 = .ok (.goto (-18), 3) := by decide +kernel
theorem d_G_init_71 : decode b_G_init 71 = .ok (.aload_n 0, 1) := by decide +kernel
theorem d_G_init_72 : decode b_G_init 72 = .ok (.bipush 6, 2) := by decide +kernel
theorem d_G_init_74 : decode b_G_init 74 = .ok (.anewarray 27, 3) := by decide +kernel
theorem d_G_init_77 : decode b_G_init 77 = .ok (.putfield 29, 3) := by decide +kernel
theorem d_G_init_80 : decode b_G_init 80 = .ok (.iconst 0, 1) := by decide +kernel
theorem d_G_init_81 : decode b_G_init 81 = .ok (.istore_n 3, 1) := by decide +kernel
theorem d_G_init_82 : decode b_G_init 82 = .ok (.iload_n 3, 1) := by decide +kernel
theorem d_G_init_83 : decode b_G_init 83 = .ok (.bipush 6, 2) := by decide +kernel
theorem d_G_init_85 : decode b_G_init 85 = .ok (.if_icmp .ge 26, 3) := by decide +kernel
theorem d_G_init_88 : decode b_G_init 88 = .ok (.aload_n 0, 1) := by decide +kernel
theorem d_G_init_89 : decode b_G_init 89 = .ok (.getfield 29, 3) := by decide +kernel
theorem d_G_init_92 : decode b_G_init 92 = .ok (.iload_n 3, 1) := by decide +kernel
theorem d_G_init_93 : decode b_G_init 93 = .ok (.new 27, 3) := by decide +kernel
theorem d_G_init_96 : decode b_G_init 96 = .ok (.dup, 1) := by decide +kernel
theorem d_G_init_97 : decode b_G_init 97 = .ok (.aload_n 0, 1) := by decide +kernel
theorem d_G_init_98 : decode b_G_init 98 = .ok (.getfield 17, 3) := by decide +kernel
theorem d_G_init_101 : decode b_G_init 101 = .ok (.invokespecial 33, 3) := by decide +kernel
theorem d_G_init_104 : decode b_G_init 104 = .ok (.aastore, 1) := by decide +kernel
theorem d_G_init_105 : decode b_G_init 105 = .ok (.iinc 3 1, 3) := by decide +kernel
theorem d_G_init_108 : decode b_G_init 108 = .ok (.goto (-26), 3) := by decide +kernel
theorem d_G_init_111 : decode b_G_init 111 = .ok (.aload_n 0, 1) := by decide +kernel
theorem d_G_init_112 : decode b_G_init 112 = .ok (.aload_n 0, 1) := by decide +kernel
theorem d_G_init_113 : decode b_G_init 113 = .ok (.getfield 13, 3) := by decide +kernel
theorem d_G_init_116 : decode b_G_init 116 = .ok (.newarray .int, 2) := by decide +kernel
theorem d_G_init_118 : decode b_G_init 118 = .ok (.putfield 36, 3) := by decide +kernel
theorem d_G_init_121 : decode b_G_init 121 = .ok (.aload_n 0, 1) := by decide +kernel
theorem d_G_init_122 : decode b_G_init 122 = .ok (.aload_n 0, 1) := by decide +kernel
theorem d_G_init_123 : decode b_G_init 123 = .ok (.getfield 13, 3) := by decide +kernel
theorem d_G_init_126 : decode b_G_init 126 = .ok (.newarray .int, 2) := by decide +kernel
theorem d_G_init_128 : decode b_G_init 128 = .ok (.putfield 40, 3) := by decide +kernel
theorem d_G_init_131 : decode b_G_init 131 = .ok (.aload_n 0, 1) := by decide +kernel
theorem d_G_init_132 : decode b_G_init 132 = .ok (.new 43, 3) := by decide +kernel
theorem d_G_init_135 : decode b_G_init 135 = .ok (.dup, 1) := by decide +kernel
theorem d_G_init_136 : decode b_G_init 136 = .ok (.aload_n 0, 1) := by decide +kernel
theorem d_G_init_137 : decode b_G_init 137 = .ok (.getfield 13, 3) := by decide +kernel
theorem d_G_init_140 : decode b_G_init 140 = .ok (.invokespecial 45, 3) := by decide +kernel
theorem d_G_init_143 : decode b_G_init 143 = .ok (.putfield 46, 3) := by decide +kernel
theorem d_G_init_146 : decode b_G_init 146 = .ok (.aload_n 0, 1) := by decide +kernel
theorem d_G_init_147 : decode b_G_init 147 = .ok (.new 50, 3) := by decide +kernel
theorem d_G_init_150 : decode b_G_init 150 = .ok (.dup, 1) := by decide +kernel
theorem d_G_init_151 : decode b_G_init 151 = .ok (.aload_n 0, 1) := by decide +kernel
theorem d_G_init_152 : decode b_G_init 152 = .ok (.getfield 17, 3) := by decide +kernel
theorem d_G_init_155 : decode b_G_init 155 = .ok (.invokespecial 52, 3) := by decide +kernel
theorem d_G_init_158 : decode b_G_init 158 = .ok (.putfield 53, 3) := by decide +kernel
theorem d_G_init_161 : decode b_G_init 161 = .ok (.aload_n 0, 1) := by decide +kernel
theorem d_G_init_162 : decode b_G_init 162 = .ok (.bipush 31, 2) := by decide +kernel
theorem d_G_init_164 : decode b_G_init 164 = .ok (.newarray .int, 2) := by decide +kernel
theorem d_G_init_166 : decode b_G_init 166 = .ok (.putfield 57, 3) := by decide +kernel
theorem d_G_init_169 : decode b_G_init 169 = .ok (.aload_n 0, 1) := by decide +kernel
theorem d_G_init_170 : decode b_G_init 170 = .ok (.iconst 0, 1) := by decide +kernel
theorem d_G_init_171 : decode b_G_init 171 = .ok (.putfield 60, 3) := by decide +kernel
theorem d_G_init_174 : decode b_G_init 174 = .ok (.aload_n 0, 1) := by decide +kernel
theorem d_G_init_175 : decode b_G_init 175 = .ok (.iconst 0, 1) := by decide +kernel
theorem d_G_init_176 : decode b_G_init 176 = .ok (.putfield 63, 3) := by decide +kernel
theorem d_G_init_179 : decode b_G_init 179 = .ok (.return_, 1) := by decide +kernel
theorem d_G_key_0 : decode b_G_key 0 = .ok (.iload_n 2, 1) := by decide +kernel
theorem d_G_key_1 : decode b_G_key 1 = .ok (.tableswitch 45 1 3 #[27, 32, 37], 27) := by decide +kernel
theorem d_G_key_28 : decode b_G_key 28 = .ok (.iload_n 1, 1) := by decide +kernel
theorem d_G_key_29 : decode b_G_key 29 = .ok (.invokestatic 67, 3) := by decide +kernel
theorem d_G_key_32 : decode b_G_key 32 = .ok (.ireturn, 1) := by decide +kernel
theorem d_G_key_33 : decode b_G_key 33 = .ok (.iload_n 1, 1) := by decide +kernel
theorem d_G_key_34 : decode b_G_key 34 = .ok (.invokestatic 71, 3) := by decide +kernel
theorem d_G_key_37 : decode b_G_key 37 = .ok (.ireturn, 1) := by decide +kernel
theorem d_G_key_38 : decode b_G_key 38 = .ok (.iload_n 1, 1) := by decide +kernel
theorem d_G_key_39 : decode b_G_key 39 = .ok (.invokestatic 67, 3) := by decide +kernel
theorem d_G_key_42 : decode b_G_key 42 = .ok (.invokestatic 71, 3) := by decide +kernel
theorem d_G_key_45 : decode b_G_key 45 = .ok (.ireturn, 1) := by decide +kernel
theorem d_G_key_46 : decode b_G_key 46 = .ok (.iconst 0, 1) := by decide +kernel
theorem d_G_key_47 : decode b_G_key 47 = .ok (.ireturn, 1) := by decide +kernel
theorem d_G_create_0 : decode b_G_create 0 = .ok (.iload_n 1, 1) := by decide +kernel
theorem d_G_create_1 : decode b_G_create 1 = .ok (.invokestatic 67, 3) := by decide +kernel
theorem d_G_create_4 : decode b_G_create 4 = .ok (.invokestatic 71, 3) := by decide +kernel
theorem d_G_create_7 : decode b_G_create 7 = .ok (.istore_n 2, 1) := by decide +kernel
theorem d_G_create_8 : decode b_G_create 8 = .ok (.aload_n 0, 1) := by decide +kernel
theorem d_G_create_9 : decode b_G_create 9 = .ok (.iload_n 2, 1) := by decide +kernel
theorem d_G_create_10 : decode b_G_create 10 = .ok (.invokevirtual 74, 3) := by decide +kernel
theorem d_G_create_13 : decode b_G_create 13 = .ok (.ifCond .lt 5, 3) := by decide +kernel
theorem d_G_create_16 : decode b_G_create 16 = .ok (.iconst (-1), 1) := by decide +kernel
theorem d_G_create_17 : decode b_G_create 17 = .ok (.ireturn, 1) := by decide +kernel
theorem d_G_create_18 : decode b_G_create 18 = .ok (.aload_n 0, 1) := by decide +kernel
theorem d_G_create_19 : decode b_G_create 19 = .ok (.getfield 60, 3) := by decide +kernel
theorem d_G_create_22 : decode b_G_create 22 = .ok (.bipush 6, 2) := by decide +kernel
theorem d_G_create_24 : decode b_G_create 24 = .ok (.if_icmp .lt 6, 3) := by decide +kernel
theorem d_G_create_27 : decode b_G_create 27 = .ok (.bipush (-2), 2) := by decide +kernel
theorem d_G_create_29 : decode b_G_create 29 = .ok (.ireturn, 1) := by decide +kernel
theorem d_G_create_30 : decode b_G_create 30 = .ok (.aload_n 0, 1) := by decide +kernel
theorem d_G_create_31 : decode b_G_create 31 = .ok (.getfield 29, 3) := by decide +kernel
theorem d_G_create_34 : decode b_G_create 34 = .ok (.aload_n 0, 1) := by decide +kernel
theorem d_G_create_35 : decode b_G_create 35 = .ok (.getfield 60, 3) := by decide +kernel
theorem d_G_create_38 : decode b_G_create 38 = .ok (.aaload, 1) := by decide +kernel
theorem d_G_create_39 : decode b_G_create 39 = .ok (.iload_n 2, 1) := by decide +kernel
theorem d_G_create_40 : decode b_G_create 40 = .ok (.putfield 77, 3) := by decide +kernel
theorem d_G_create_43 : decode b_G_create 43 = .ok (.aload_n 0, 1) := by decide +kernel
theorem d_G_create_44 : decode b_G_create 44 = .ok (.dup, 1) := by decide +kernel
theorem d_G_create_45 : decode b_G_create 45 = .ok (.getfield 60, 3) := by decide +kernel
theorem d_G_create_48 : decode b_G_create 48 = .ok (.iconst 1, 1) := by decide +kernel
theorem d_G_create_49 : decode b_G_create 49 = .ok (.iadd, 1) := by decide +kernel
theorem d_G_create_50 : decode b_G_create 50 = .ok (.putfield 60, 3) := by decide +kernel
theorem d_G_create_53 : decode b_G_create 53 = .ok (.aload_n 0, 1) := by decide +kernel
theorem d_G_create_54 : decode b_G_create 54 = .ok (.getfield 60, 3) := by decide +kernel
theorem d_G_create_57 : decode b_G_create 57 = .ok (.iconst 1, 1) := by decide +kernel
theorem d_G_create_58 : decode b_G_create 58 = .ok (.isub, 1) := by decide +kernel
theorem d_G_create_59 : decode b_G_create 59 = .ok (.ireturn, 1) := by decide +kernel
theorem d_G_draft_0 : decode b_G_draft 0 = .ok (.aload_n 0, 1) := by decide +kernel
theorem d_G_draft_1 : decode b_G_draft 1 = .ok (.iload_n 1, 1) := by decide +kernel
theorem d_G_draft_2 : decode b_G_draft 2 = .ok (.invokevirtual 80, 3) := by decide +kernel
theorem d_G_draft_5 : decode b_G_draft 5 = .ok (.ifCond .ne 5, 3) := by decide +kernel
theorem d_G_draft_8 : decode b_G_draft 8 = .ok (.iconst (-1), 1) := by decide +kernel
theorem d_G_draft_9 : decode b_G_draft 9 = .ok (.ireturn, 1) := by decide +kernel
theorem d_G_draft_10 : decode b_G_draft 10 = .ok (.aload_n 0, 1) := by decide +kernel
theorem d_G_draft_11 : decode b_G_draft 11 = .ok (.getfield 36, 3) := by decide +kernel
theorem d_G_draft_14 : decode b_G_draft 14 = .ok (.iload_n 1, 1) := by decide +kernel
theorem d_G_draft_15 : decode b_G_draft 15 = .ok (.iload_n 2, 1) := by decide +kernel
theorem d_G_draft_16 : decode b_G_draft 16 = .ok (.iastore, 1) := by decide +kernel
theorem d_G_draft_17 : decode b_G_draft 17 = .ok (.iconst 0, 1) := by decide +kernel
theorem d_G_draft_18 : decode b_G_draft 18 = .ok (.ireturn, 1) := by decide +kernel
theorem d_G_write_0 : decode b_G_write 0 = .ok (.iload_n 1, 1) := by decide +kernel
theorem d_G_write_1 : decode b_G_write 1 = .ok (.invokestatic 67, 3) := by decide +kernel
theorem d_G_write_4 : decode b_G_write 4 = .ok (.istore_n 2, 1) := by decide +kernel
theorem d_G_write_5 : decode b_G_write 5 = .ok (.aload_n 0, 1) := by decide +kernel
theorem d_G_write_6 : decode b_G_write 6 = .ok (.iload_n 2, 1) := by decide +kernel
theorem d_G_write_7 : decode b_G_write 7 = .ok (.invokestatic 71, 3) := by decide +kernel
theorem d_G_write_10 : decode b_G_write 10 = .ok (.invokevirtual 74, 3) := by decide +kernel
theorem d_G_write_13 : decode b_G_write 13 = .ok (.istore_n 3, 1) := by decide +kernel
theorem d_G_write_14 : decode b_G_write 14 = .ok (.iload_n 3, 1) := by decide +kernel
theorem d_G_write_15 : decode b_G_write 15 = .ok (.ifCond .ge 5, 3) := by decide +kernel
theorem d_G_write_18 : decode b_G_write 18 = .ok (.iconst (-1), 1) := by decide +kernel
theorem d_G_write_19 : decode b_G_write 19 = .ok (.ireturn, 1) := by decide +kernel
theorem d_G_write_20 : decode b_G_write 20 = .ok (.aload_n 0, 1) := by decide +kernel
theorem d_G_write_21 : decode b_G_write 21 = .ok (.invokevirtual 84, 3) := by decide +kernel
theorem d_G_write_24 : decode b_G_write 24 = .ok (.aload_n 0, 1) := by decide +kernel
theorem d_G_write_25 : decode b_G_write 25 = .ok (.getfield 13, 3) := by decide +kernel
theorem d_G_write_28 : decode b_G_write 28 = .ok (.if_icmp .ge 6, 3) := by decide +kernel
theorem d_G_write_31 : decode b_G_write 31 = .ok (.bipush (-3), 2) := by decide +kernel
theorem d_G_write_33 : decode b_G_write 33 = .ok (.ireturn, 1) := by decide +kernel
theorem d_G_write_34 : decode b_G_write 34 = .ok (.aload_n 0, 1) := by decide +kernel
theorem d_G_write_35 : decode b_G_write 35 = .ok (.getfield 29, 3) := by decide +kernel
theorem d_G_write_38 : decode b_G_write 38 = .ok (.iload_n 3, 1) := by decide +kernel
theorem d_G_write_39 : decode b_G_write 39 = .ok (.aaload, 1) := by decide +kernel
theorem d_G_write_40 : decode b_G_write 40 = .ok (.astore 4, 2) := by decide +kernel
theorem d_G_write_42 : decode b_G_write 42 = .ok (.aload 4, 2) := by decide +kernel
theorem d_G_write_44 : decode b_G_write 44 = .ok (.getfield 88, 3) := by decide +kernel
theorem d_G_write_47 : decode b_G_write 47 = .ok (.bipush 30, 2) := by decide +kernel
theorem d_G_write_49 : decode b_G_write 49 = .ok (.if_icmp .lt 6, 3) := by decide +kernel
theorem d_G_write_52 : decode b_G_write 52 = .ok (.bipush (-2), 2) := by decide +kernel
theorem d_G_write_54 : decode b_G_write 54 = .ok (.ireturn, 1) := by decide +kernel
theorem d_G_write_55 : decode b_G_write 55 = .ok (.aload 4, 2) := by decide +kernel
theorem d_G_write_57 : decode b_G_write 57 = .ok (.getfield 88, 3) := by decide +kernel
theorem d_G_write_60 : decode b_G_write 60 = .ok (.iconst 1, 1) := by decide +kernel
theorem d_G_write_61 : decode b_G_write 61 = .ok (.iadd, 1) := by decide +kernel
theorem d_G_write_62 : decode b_G_write 62 = .ok (.istore 5, 2) := by decide +kernel
theorem d_G_write_64 : decode b_G_write 64 = .ok (.iconst 0, 1) := by decide +kernel
theorem d_G_write_65 : decode b_G_write 65 = .ok (.istore 6, 2) := by decide +kernel
theorem d_G_write_67 : decode b_G_write 67 = .ok (.iload 6, 2) := by decide +kernel
theorem d_G_write_69 : decode b_G_write 69 = .ok (.aload_n 0, 1) := by decide +kernel
theorem d_G_write_70 : decode b_G_write 70 = .ok (.getfield 13, 3) := by decide +kernel
theorem d_G_write_73 : decode b_G_write 73 = .ok (.if_icmp .ge 35, 3) := by decide +kernel
theorem d_G_write_76 : decode b_G_write 76 = .ok (.aload_n 0, 1) := by decide +kernel
theorem d_G_write_77 : decode b_G_write 77 = .ok (.getfield 46, 3) := by decide +kernel
theorem d_G_write_80 : decode b_G_write 80 = .ok (.getfield 91, 3) := by decide +kernel
theorem d_G_write_83 : decode b_G_write 83 = .ok (.iload 6, 2) := by decide +kernel
theorem d_G_write_85 : decode b_G_write 85 = .ok (.aload_n 0, 1) := by decide +kernel
theorem d_G_write_86 : decode b_G_write 86 = .ok (.getfield 36, 3) := by decide +kernel
theorem d_G_write_89 : decode b_G_write 89 = .ok (.iload 6, 2) := by decide +kernel
theorem d_G_write_91 : decode b_G_write 91 = .ok (.iaload, 1) := by decide +kernel
theorem d_G_write_92 : decode b_G_write 92 = .ok (.iload_n 2, 1) := by decide +kernel
theorem d_G_write_93 : decode b_G_write 93 = .ok (.iload 5, 2) := by decide +kernel
theorem d_G_write_95 : decode b_G_write 95 = .ok (.iload 6, 2) := by decide +kernel
theorem d_G_write_97 : decode b_G_write 97 = .ok (.invokestatic 94, 3) := by decide +kernel
theorem d_G_write_100 : decode b_G_write 100 = .ok (.ixor, 1) := by decide +kernel
theorem d_G_write_101 : decode b_G_write 101 = .ok (.iastore, 1) := by decide +kernel
theorem d_G_write_102 : decode b_G_write 102 = .ok (.iinc 6 1, 3) := by decide +kernel
theorem d_G_write_105 : decode b_G_write 105 = .ok (.goto (-38), 3) := by decide +kernel
theorem d_G_write_108 : decode b_G_write 108 = .ok (.aload_n 0, 1) := by decide +kernel
theorem d_G_write_109 : decode b_G_write 109 = .ok (.iload 5, 2) := by decide +kernel
theorem d_G_write_111 : decode b_G_write 111 = .ok (.iload_n 1, 1) := by decide +kernel
theorem d_G_write_112 : decode b_G_write 112 = .ok (.invokevirtual 97, 3) := by decide +kernel
theorem d_G_write_115 : decode b_G_write 115 = .ok (.istore 6, 2) := by decide +kernel
theorem d_G_write_117 : decode b_G_write 117 = .ok (.aload 4, 2) := by decide +kernel
theorem d_G_write_119 : decode b_G_write 119 = .ok (.iload 6, 2) := by decide +kernel
theorem d_G_write_121 : decode b_G_write 121 = .ok (.aload_n 0, 1) := by decide +kernel
theorem d_G_write_122 : decode b_G_write 122 = .ok (.getfield 53, 3) := by decide +kernel
theorem d_G_write_125 : decode b_G_write 125 = .ok (.getfield 101, 3) := by decide +kernel
theorem d_G_write_128 : decode b_G_write 128 = .ok (.invokevirtual 104, 3) := by decide +kernel
theorem d_G_write_131 : decode b_G_write 131 = .ok (.iconst 0, 1) := by decide +kernel
theorem d_G_write_132 : decode b_G_write 132 = .ok (.istore 7, 2) := by decide +kernel
theorem d_G_write_134 : decode b_G_write 134 = .ok (.iconst 0, 1) := by decide +kernel
theorem d_G_write_135 : decode b_G_write 135 = .ok (.istore 8, 2) := by decide +kernel
theorem d_G_write_137 : decode b_G_write 137 = .ok (.iload 8, 2) := by decide +kernel
theorem d_G_write_139 : decode b_G_write 139 = .ok (.aload_n 0, 1) := by decide +kernel
theorem d_G_write_140 : decode b_G_write 140 = .ok (.getfield 17, 3) := by decide +kernel
theorem d_G_write_143 : decode b_G_write 143 = .ok (.if_icmp .ge 29, 3) := by decide +kernel
theorem d_G_write_146 : decode b_G_write 146 = .ok (.aload_n 0, 1) := by decide +kernel
theorem d_G_write_147 : decode b_G_write 147 = .ok (.iload 8, 2) := by decide +kernel
theorem d_G_write_149 : decode b_G_write 149 = .ok (.invokevirtual 108, 3) := by decide +kernel
theorem d_G_write_152 : decode b_G_write 152 = .ok (.ifCond .eq 14, 3) := by decide +kernel
theorem d_G_write_155 : decode b_G_write 155 = .ok (.aload_n 0, 1) := by decide +kernel
theorem d_G_write_156 : decode b_G_write 156 = .ok (.aload 4, 2) := by decide +kernel
theorem d_G_write_158 : decode b_G_write 158 = .ok (.iload 8, 2) := by decide +kernel
theorem d_G_write_160 : decode b_G_write 160 = .ok (.invokevirtual 111, 3) := by decide +kernel
theorem d_G_write_163 : decode b_G_write 163 = .ok (.iinc 7 1, 3) := by decide +kernel
theorem d_G_write_166 : decode b_G_write 166 = .ok (.iinc 8 1, 3) := by decide +kernel
theorem d_G_write_169 : decode b_G_write 169 = .ok (.goto (-32), 3) := by decide +kernel
theorem d_G_write_172 : decode b_G_write 172 = .ok (.iload 7, 2) := by decide +kernel
theorem d_G_write_174 : decode b_G_write 174 = .ok (.ireturn, 1) := by decide +kernel
theorem d_G_read_0 : decode b_G_read 0 = .ok (.aload_n 0, 1) := by decide +kernel
theorem d_G_read_1 : decode b_G_read 1 = .ok (.iload_n 1, 1) := by decide +kernel
theorem d_G_read_2 : decode b_G_read 2 = .ok (.invokestatic 71, 3) := by decide +kernel
theorem d_G_read_5 : decode b_G_read 5 = .ok (.invokevirtual 74, 3) := by decide +kernel
theorem d_G_read_8 : decode b_G_read 8 = .ok (.istore_n 2, 1) := by decide +kernel
theorem d_G_read_9 : decode b_G_read 9 = .ok (.iload_n 2, 1) := by decide +kernel
theorem d_G_read_10 : decode b_G_read 10 = .ok (.ifCond .ge 5, 3) := by decide +kernel
theorem d_G_read_13 : decode b_G_read 13 = .ok (.iconst (-1), 1) := by decide +kernel
theorem d_G_read_14 : decode b_G_read 14 = .ok (.ireturn, 1) := by decide +kernel
theorem d_G_read_15 : decode b_G_read 15 = .ok (.aload_n 0, 1) := by decide +kernel
theorem d_G_read_16 : decode b_G_read 16 = .ok (.aload_n 0, 1) := by decide +kernel
theorem d_G_read_17 : decode b_G_read 17 = .ok (.getfield 29, 3) := by decide +kernel
theorem d_G_read_20 : decode b_G_read 20 = .ok (.iload_n 2, 1) := by decide +kernel
theorem d_G_read_21 : decode b_G_read 21 = .ok (.aaload, 1) := by decide +kernel
theorem d_G_read_22 : decode b_G_read 22 = .ok (.invokevirtual 115, 3) := by decide +kernel
theorem d_G_read_25 : decode b_G_read 25 = .ok (.istore_n 3, 1) := by decide +kernel
theorem d_G_read_26 : decode b_G_read 26 = .ok (.iload_n 3, 1) := by decide +kernel
theorem d_G_read_27 : decode b_G_read 27 = .ok (.ifCond .ne 6, 3) := by decide +kernel
theorem d_G_read_30 : decode b_G_read 30 = .ok (.bipush (-3), 2) := by decide +kernel
theorem d_G_read_32 : decode b_G_read 32 = .ok (.ireturn, 1) := by decide +kernel
theorem d_G_read_33 : decode b_G_read 33 = .ok (.aload_n 0, 1) := by decide +kernel
theorem d_G_read_34 : decode b_G_read 34 = .ok (.aload_n 0, 1) := by decide +kernel
theorem d_G_read_35 : decode b_G_read 35 = .ok (.getfield 29, 3) := by decide +kernel
theorem d_G_read_38 : decode b_G_read 38 = .ok (.iload_n 2, 1) := by decide +kernel
theorem d_G_read_39 : decode b_G_read 39 = .ok (.aaload, 1) := by decide +kernel
theorem d_G_read_40 : decode b_G_read 40 = .ok (.iload_n 3, 1) := by decide +kernel
theorem d_G_read_41 : decode b_G_read 41 = .ok (.invokevirtual 119, 3) := by decide +kernel
theorem d_G_read_44 : decode b_G_read 44 = .ok (.pop, 1) := by decide +kernel
theorem d_G_read_45 : decode b_G_read 45 = .ok (.iconst 0, 1) := by decide +kernel
theorem d_G_read_46 : decode b_G_read 46 = .ok (.istore 4, 2) := by decide +kernel
theorem d_G_read_48 : decode b_G_read 48 = .ok (.iload 4, 2) := by decide +kernel
theorem d_G_read_50 : decode b_G_read 50 = .ok (.aload_n 0, 1) := by decide +kernel
theorem d_G_read_51 : decode b_G_read 51 = .ok (.getfield 13, 3) := by decide +kernel
theorem d_G_read_54 : decode b_G_read 54 = .ok (.if_icmp .ge 34, 3) := by decide +kernel
theorem d_G_read_57 : decode b_G_read 57 = .ok (.aload_n 0, 1) := by decide +kernel
theorem d_G_read_58 : decode b_G_read 58 = .ok (.getfield 40, 3) := by decide +kernel
theorem d_G_read_61 : decode b_G_read 61 = .ok (.iload 4, 2) := by decide +kernel
theorem d_G_read_63 : decode b_G_read 63 = .ok (.aload_n 0, 1) := by decide +kernel
theorem d_G_read_64 : decode b_G_read 64 = .ok (.getfield 46, 3) := by decide +kernel
theorem d_G_read_67 : decode b_G_read 67 = .ok (.getfield 91, 3) := by decide +kernel
theorem d_G_read_70 : decode b_G_read 70 = .ok (.iload 4, 2) := by decide +kernel
theorem d_G_read_72 : decode b_G_read 72 = .ok (.iaload, 1) := by decide +kernel
theorem d_G_read_73 : decode b_G_read 73 = .ok (.iload_n 1, 1) := by decide +kernel
theorem d_G_read_74 : decode b_G_read 74 = .ok (.iload_n 3, 1) := by decide +kernel
theorem d_G_read_75 : decode b_G_read 75 = .ok (.iload 4, 2) := by decide +kernel
theorem d_G_read_77 : decode b_G_read 77 = .ok (.invokestatic 94, 3) := by decide +kernel
theorem d_G_read_80 : decode b_G_read 80 = .ok (.ixor, 1) := by decide +kernel
theorem d_G_read_81 : decode b_G_read 81 = .ok (.iastore, 1) := by decide +kernel
theorem d_G_read_82 : decode b_G_read 82 = .ok (.iinc 4 1, 3) := by decide +kernel
theorem d_G_read_85 : decode b_G_read 85 = .ok (.goto (-37), 3) := by decide +kernel
theorem d_G_read_88 : decode b_G_read 88 = .ok (.aload_n 0, 1) := by decide +kernel
theorem d_G_read_89 : decode b_G_read 89 = .ok (.iconst 1, 1) := by decide +kernel
theorem d_G_read_90 : decode b_G_read 90 = .ok (.putfield 63, 3) := by decide +kernel
theorem d_G_read_93 : decode b_G_read 93 = .ok (.iload_n 3, 1) := by decide +kernel
theorem d_G_read_94 : decode b_G_read 94 = .ok (.ireturn, 1) := by decide +kernel
theorem d_G_word_0 : decode b_G_word 0 = .ok (.aload_n 0, 1) := by decide +kernel
theorem d_G_word_1 : decode b_G_word 1 = .ok (.getfield 63, 3) := by decide +kernel
theorem d_G_word_4 : decode b_G_word 4 = .ok (.ifCond .eq 11, 3) := by decide +kernel
theorem d_G_word_7 : decode b_G_word 7 = .ok (.aload_n 0, 1) := by decide +kernel
theorem d_G_word_8 : decode b_G_word 8 = .ok (.iload_n 1, 1) := by decide +kernel
theorem d_G_word_9 : decode b_G_word 9 = .ok (.invokevirtual 80, 3) := by decide +kernel
theorem d_G_word_12 : decode b_G_word 12 = .ok (.ifCond .ne 7, 3) := by decide +kernel
theorem d_G_word_15 : decode b_G_word 15 = .ok (.ldc2_w 123, 3) := by decide +kernel
theorem d_G_word_18 : decode b_G_word 18 = .ok (.lreturn, 1) := by decide +kernel
theorem d_G_word_19 : decode b_G_word 19 = .ok (.aload_n 0, 1) := by decide +kernel
theorem d_G_word_20 : decode b_G_word 20 = .ok (.getfield 40, 3) := by decide +kernel
theorem d_G_word_23 : decode b_G_word 23 = .ok (.iload_n 1, 1) := by decide +kernel
theorem d_G_word_24 : decode b_G_word 24 = .ok (.iaload, 1) := by decide +kernel
theorem d_G_word_25 : decode b_G_word 25 = .ok (.i2l, 1) := by decide +kernel
theorem d_G_word_26 : decode b_G_word 26 = .ok (.lreturn, 1) := by decide +kernel
theorem d_G_sound_0 : decode b_G_sound 0 = .ok (.aload_n 0, 1) := by decide +kernel
theorem d_G_sound_1 : decode b_G_sound 1 = .ok (.iload_n 1, 1) := by decide +kernel
theorem d_G_sound_2 : decode b_G_sound 2 = .ok (.invokevirtual 74, 3) := by decide +kernel
theorem d_G_sound_5 : decode b_G_sound 5 = .ok (.istore_n 2, 1) := by decide +kernel
theorem d_G_sound_6 : decode b_G_sound 6 = .ok (.iload_n 2, 1) := by decide +kernel
theorem d_G_sound_7 : decode b_G_sound 7 = .ok (.ifCond .ge 5, 3) := by decide +kernel
theorem d_G_sound_10 : decode b_G_sound 10 = .ok (.iconst (-1), 1) := by decide +kernel
theorem d_G_sound_11 : decode b_G_sound 11 = .ok (.ireturn, 1) := by decide +kernel
theorem d_G_sound_12 : decode b_G_sound 12 = .ok (.iconst 0, 1) := by decide +kernel
theorem d_G_sound_13 : decode b_G_sound 13 = .ok (.istore_n 3, 1) := by decide +kernel
theorem d_G_sound_14 : decode b_G_sound 14 = .ok (.iconst 0, 1) := by decide +kernel
theorem d_G_sound_15 : decode b_G_sound 15 = .ok (.istore 4, 2) := by decide +kernel
theorem d_G_sound_17 : decode b_G_sound 17 = .ok (.iload 4, 2) := by decide +kernel
theorem d_G_sound_19 : decode b_G_sound 19 = .ok (.aload_n 0, 1) := by decide +kernel
theorem d_G_sound_20 : decode b_G_sound 20 = .ok (.getfield 17, 3) := by decide +kernel
theorem d_G_sound_23 : decode b_G_sound 23 = .ok (.if_icmp .ge 36, 3) := by decide +kernel
theorem d_G_sound_26 : decode b_G_sound 26 = .ok (.aload_n 0, 1) := by decide +kernel
theorem d_G_sound_27 : decode b_G_sound 27 = .ok (.getfield 20, 3) := by decide +kernel
theorem d_G_sound_30 : decode b_G_sound 30 = .ok (.iload 4, 2) := by decide +kernel
theorem d_G_sound_32 : decode b_G_sound 32 = .ok (.baload, 1) := by decide +kernel
theorem d_G_sound_33 : decode b_G_sound 33 = .ok (.ifCond .eq 20, 3) := by decide +kernel
theorem d_G_sound_36 : decode b_G_sound 36 = .ok (.aload_n 0, 1) := by decide +kernel
theorem d_G_sound_37 : decode b_G_sound 37 = .ok (.getfield 29, 3) := by decide +kernel
theorem d_G_sound_40 : decode b_G_sound 40 = .ok (.iload_n 2, 1) := by decide +kernel
theorem d_G_sound_41 : decode b_G_sound 41 = .ok (.aaload, 1) := by decide +kernel
theorem d_G_sound_42 : decode b_G_sound 42 = .ok (.iload 4, 2) := by decide +kernel
theorem d_G_sound_44 : decode b_G_sound 44 = .ok (.invokevirtual 125, 3) := by decide +kernel
theorem d_G_sound_47 : decode b_G_sound 47 = .ok (.ifCond .eq 6, 3) := by decide +kernel
theorem d_G_sound_50 : decode b_G_sound 50 = .ok (.iinc 3 1, 3) := by decide +kernel
theorem d_G_sound_53 : decode b_G_sound 53 = .ok (.iinc 4 1, 3) := by decide +kernel
theorem d_G_sound_56 : decode b_G_sound 56 = .ok (.goto (-39), 3) := by decide +kernel
theorem d_G_sound_59 : decode b_G_sound 59 = .ok (.iload_n 3, 1) := by decide +kernel
theorem d_G_sound_60 : decode b_G_sound 60 = .ok (.ireturn, 1) := by decide +kernel
theorem d_G_best_0 : decode b_G_best 0 = .ok (.aload_n 0, 1) := by decide +kernel
theorem d_G_best_1 : decode b_G_best 1 = .ok (.iload_n 1, 1) := by decide +kernel
theorem d_G_best_2 : decode b_G_best 2 = .ok (.invokevirtual 74, 3) := by decide +kernel
theorem d_G_best_5 : decode b_G_best 5 = .ok (.istore_n 2, 1) := by decide +kernel
theorem d_G_best_6 : decode b_G_best 6 = .ok (.iload_n 2, 1) := by decide +kernel
theorem d_G_best_7 : decode b_G_best 7 = .ok (.ifCond .ge 5, 3) := by decide +kernel
theorem d_G_best_10 : decode b_G_best 10 = .ok (.iconst (-1), 1) := by decide +kernel
theorem d_G_best_11 : decode b_G_best 11 = .ok (.ireturn, 1) := by decide +kernel
theorem d_G_best_12 : decode b_G_best 12 = .ok (.aload_n 0, 1) := by decide +kernel
theorem d_G_best_13 : decode b_G_best 13 = .ok (.aload_n 0, 1) := by decide +kernel
theorem d_G_best_14 : decode b_G_best 14 = .ok (.getfield 29, 3) := by decide +kernel
theorem d_G_best_17 : decode b_G_best 17 = .ok (.iload_n 2, 1) := by decide +kernel
theorem d_G_best_18 : decode b_G_best 18 = .ok (.aaload, 1) := by decide +kernel
theorem d_G_best_19 : decode b_G_best 19 = .ok (.invokevirtual 115, 3) := by decide +kernel
theorem d_G_best_22 : decode b_G_best 22 = .ok (.ireturn, 1) := by decide +kernel
theorem d_G_repair_0 : decode b_G_repair 0 = .ok (.aload_n 0, 1) := by decide +kernel
theorem d_G_repair_1 : decode b_G_repair 1 = .ok (.iload_n 1, 1) := by decide +kernel
theorem d_G_repair_2 : decode b_G_repair 2 = .ok (.invokevirtual 74, 3) := by decide +kernel
theorem d_G_repair_5 : decode b_G_repair 5 = .ok (.istore_n 2, 1) := by decide +kernel
theorem d_G_repair_6 : decode b_G_repair 6 = .ok (.iload_n 2, 1) := by decide +kernel
theorem d_G_repair_7 : decode b_G_repair 7 = .ok (.ifCond .ge 5, 3) := by decide +kernel
theorem d_G_repair_10 : decode b_G_repair 10 = .ok (.iconst (-1), 1) := by decide +kernel
theorem d_G_repair_11 : decode b_G_repair 11 = .ok (.ireturn, 1) := by decide +kernel
theorem d_G_repair_12 : decode b_G_repair 12 = .ok (.aload_n 0, 1) := by decide +kernel
theorem d_G_repair_13 : decode b_G_repair 13 = .ok (.getfield 29, 3) := by decide +kernel
theorem d_G_repair_16 : decode b_G_repair 16 = .ok (.iload_n 2, 1) := by decide +kernel
theorem d_G_repair_17 : decode b_G_repair 17 = .ok (.aaload, 1) := by decide +kernel
theorem d_G_repair_18 : decode b_G_repair 18 = .ok (.astore_n 3, 1) := by decide +kernel
theorem d_G_repair_19 : decode b_G_repair 19 = .ok (.aload_n 0, 1) := by decide +kernel
theorem d_G_repair_20 : decode b_G_repair 20 = .ok (.aload_n 3, 1) := by decide +kernel
theorem d_G_repair_21 : decode b_G_repair 21 = .ok (.invokevirtual 115, 3) := by decide +kernel
theorem d_G_repair_24 : decode b_G_repair 24 = .ok (.istore 4, 2) := by decide +kernel
theorem d_G_repair_26 : decode b_G_repair 26 = .ok (.iload 4, 2) := by decide +kernel
theorem d_G_repair_28 : decode b_G_repair 28 = .ok (.ifCond .ne 6, 3) := by decide +kernel
theorem d_G_repair_31 : decode b_G_repair 31 = .ok (.bipush (-3), 2) := by decide +kernel
theorem d_G_repair_33 : decode b_G_repair 33 = .ok (.ireturn, 1) := by decide +kernel
theorem d_G_repair_34 : decode b_G_repair 34 = .ok (.aload_n 0, 1) := by decide +kernel
theorem d_G_repair_35 : decode b_G_repair 35 = .ok (.aload_n 3, 1) := by decide +kernel
theorem d_G_repair_36 : decode b_G_repair 36 = .ok (.iload 4, 2) := by decide +kernel
theorem d_G_repair_38 : decode b_G_repair 38 = .ok (.invokevirtual 119, 3) := by decide +kernel
theorem d_G_repair_41 : decode b_G_repair 41 = .ok (.istore 5, 2) := by decide +kernel
theorem d_G_repair_43 : decode b_G_repair 43 = .ok (.aload_n 0, 1) := by decide +kernel
theorem d_G_repair_44 : decode b_G_repair 44 = .ok (.getfield 53, 3) := by decide +kernel
theorem d_G_repair_47 : decode b_G_repair 47 = .ok (.aload_n 3, 1) := by decide +kernel
theorem d_G_repair_48 : decode b_G_repair 48 = .ok (.getfield 128, 3) := by decide +kernel
theorem d_G_repair_51 : decode b_G_repair 51 = .ok (.iload 5, 2) := by decide +kernel
theorem d_G_repair_53 : decode b_G_repair 53 = .ok (.aaload, 1) := by decide +kernel
theorem d_G_repair_54 : decode b_G_repair 54 = .ok (.invokevirtual 132, 3) := by decide +kernel
theorem d_G_repair_57 : decode b_G_repair 57 = .ok (.iconst 0, 1) := by decide +kernel
theorem d_G_repair_58 : decode b_G_repair 58 = .ok (.istore 6, 2) := by decide +kernel
theorem d_G_repair_60 : decode b_G_repair 60 = .ok (.iconst 0, 1) := by decide +kernel
theorem d_G_repair_61 : decode b_G_repair 61 = .ok (.istore 7, 2) := by decide +kernel
theorem d_G_repair_63 : decode b_G_repair 63 = .ok (.iload 7, 2) := by decide +kernel
theorem d_G_repair_65 : decode b_G_repair 65 = .ok (.aload_n 0, 1) := by decide +kernel
theorem d_G_repair_66 : decode b_G_repair 66 = .ok (.getfield 17, 3) := by decide +kernel
theorem d_G_repair_69 : decode b_G_repair 69 = .ok (.if_icmp .ge 39, 3) := by decide +kernel
theorem d_G_repair_72 : decode b_G_repair 72 = .ok (.aload_n 0, 1) := by decide +kernel
theorem d_G_repair_73 : decode b_G_repair 73 = .ok (.iload 7, 2) := by decide +kernel
theorem d_G_repair_75 : decode b_G_repair 75 = .ok (.invokevirtual 108, 3) := by decide +kernel
theorem d_G_repair_78 : decode b_G_repair 78 = .ok (.ifCond .eq 24, 3) := by decide +kernel
theorem d_G_repair_81 : decode b_G_repair 81 = .ok (.aload_n 3, 1) := by decide +kernel
theorem d_G_repair_82 : decode b_G_repair 82 = .ok (.iload 7, 2) := by decide +kernel
theorem d_G_repair_84 : decode b_G_repair 84 = .ok (.iload 4, 2) := by decide +kernel
theorem d_G_repair_86 : decode b_G_repair 86 = .ok (.invokevirtual 136, 3) := by decide +kernel
theorem d_G_repair_89 : decode b_G_repair 89 = .ok (.ifCond .ne 13, 3) := by decide +kernel
theorem d_G_repair_92 : decode b_G_repair 92 = .ok (.aload_n 0, 1) := by decide +kernel
theorem d_G_repair_93 : decode b_G_repair 93 = .ok (.aload_n 3, 1) := by decide +kernel
theorem d_G_repair_94 : decode b_G_repair 94 = .ok (.iload 7, 2) := by decide +kernel
theorem d_G_repair_96 : decode b_G_repair 96 = .ok (.invokevirtual 111, 3) := by decide +kernel
theorem d_G_repair_99 : decode b_G_repair 99 = .ok (.iinc 6 1, 3) := by decide +kernel
theorem d_G_repair_102 : decode b_G_repair 102 = .ok (.iinc 7 1, 3) := by decide +kernel
theorem d_G_repair_105 : decode b_G_repair 105 = .ok (.goto (-42), 3) := by decide +kernel
theorem d_G_repair_108 : decode b_G_repair 108 = .ok (.iload 6, 2) := by decide +kernel
theorem d_G_repair_110 : decode b_G_repair 110 = .ok (.ireturn, 1) := by decide +kernel
theorem d_G_server_0 : decode b_G_server 0 = .ok (.aload_n 0, 1) := by decide +kernel
theorem d_G_server_1 : decode b_G_server 1 = .ok (.iload_n 1, 1) := by decide +kernel
theorem d_G_server_2 : decode b_G_server 2 = .ok (.invokevirtual 140, 3) := by decide +kernel
theorem d_G_server_5 : decode b_G_server 5 = .ok (.ifCond .ne 5, 3) := by decide +kernel
theorem d_G_server_8 : decode b_G_server 8 = .ok (.iconst (-1), 1) := by decide +kernel
theorem d_G_server_9 : decode b_G_server 9 = .ok (.ireturn, 1) := by decide +kernel
theorem d_G_server_10 : decode b_G_server 10 = .ok (.aload_n 0, 1) := by decide +kernel
theorem d_G_server_11 : decode b_G_server 11 = .ok (.getfield 20, 3) := by decide +kernel
theorem d_G_server_14 : decode b_G_server 14 = .ok (.iload_n 1, 1) := by decide +kernel
theorem d_G_server_15 : decode b_G_server 15 = .ok (.iload_n 2, 1) := by decide +kernel
theorem d_G_server_16 : decode b_G_server 16 = .ok (.bastore, 1) := by decide +kernel
theorem d_G_server_17 : decode b_G_server 17 = .ok (.aload_n 0, 1) := by decide +kernel
theorem d_G_server_18 : decode b_G_server 18 = .ok (.getfield 24, 3) := by decide +kernel
theorem d_G_server_21 : decode b_G_server 21 = .ok (.iload_n 1, 1) := by decide +kernel
theorem d_G_server_22 : decode b_G_server 22 = .ok (.iload_n 3, 1) := by decide +kernel
theorem d_G_server_23 : decode b_G_server 23 = .ok (.bastore, 1) := by decide +kernel
theorem d_G_server_24 : decode b_G_server 24 = .ok (.iconst 0, 1) := by decide +kernel
theorem d_G_server_25 : decode b_G_server 25 = .ok (.ireturn, 1) := by decide +kernel
theorem d_G_tamper_0 : decode b_G_tamper 0 = .ok (.aload_n 0, 1) := by decide +kernel
theorem d_G_tamper_1 : decode b_G_tamper 1 = .ok (.iload_n 1, 1) := by decide +kernel
theorem d_G_tamper_2 : decode b_G_tamper 2 = .ok (.invokevirtual 143, 3) := by decide +kernel
theorem d_G_tamper_5 : decode b_G_tamper 5 = .ok (.ifCond .eq 25, 3) := by decide +kernel
theorem d_G_tamper_8 : decode b_G_tamper 8 = .ok (.aload_n 0, 1) := by decide +kernel
theorem d_G_tamper_9 : decode b_G_tamper 9 = .ok (.iload_n 2, 1) := by decide +kernel
theorem d_G_tamper_10 : decode b_G_tamper 10 = .ok (.invokevirtual 140, 3) := by decide +kernel
theorem d_G_tamper_13 : decode b_G_tamper 13 = .ok (.ifCond .eq 17, 3) := by decide +kernel
theorem d_G_tamper_16 : decode b_G_tamper 16 = .ok (.iload_n 3, 1) := by decide +kernel
theorem d_G_tamper_17 : decode b_G_tamper 17 = .ok (.ifCond .lt 13, 3) := by decide +kernel
theorem d_G_tamper_20 : decode b_G_tamper 20 = .ok (.iload_n 3, 1) := by decide +kernel
theorem d_G_tamper_21 : decode b_G_tamper 21 = .ok (.iconst 3, 1) := by decide +kernel
theorem d_G_tamper_22 : decode b_G_tamper 22 = .ok (.aload_n 0, 1) := by decide +kernel
theorem d_G_tamper_23 : decode b_G_tamper 23 = .ok (.getfield 17, 3) := by decide +kernel
theorem d_G_tamper_26 : decode b_G_tamper 26 = .ok (.iadd, 1) := by decide +kernel
theorem d_G_tamper_27 : decode b_G_tamper 27 = .ok (.if_icmp .lt 5, 3) := by decide +kernel
theorem d_G_tamper_30 : decode b_G_tamper 30 = .ok (.iconst (-1), 1) := by decide +kernel
theorem d_G_tamper_31 : decode b_G_tamper 31 = .ok (.ireturn, 1) := by decide +kernel
theorem d_G_tamper_32 : decode b_G_tamper 32 = .ok (.aload_n 0, 1) := by decide +kernel
theorem d_G_tamper_33 : decode b_G_tamper 33 = .ok (.getfield 29, 3) := by decide +kernel
theorem d_G_tamper_36 : decode b_G_tamper 36 = .ok (.iload_n 1, 1) := by decide +kernel
theorem d_G_tamper_37 : decode b_G_tamper 37 = .ok (.aaload, 1) := by decide +kernel
theorem d_G_tamper_38 : decode b_G_tamper 38 = .ok (.getfield 128, 3) := by decide +kernel
theorem d_G_tamper_41 : decode b_G_tamper 41 = .ok (.iload_n 2, 1) := by decide +kernel
theorem d_G_tamper_42 : decode b_G_tamper 42 = .ok (.aaload, 1) := by decide +kernel
theorem d_G_tamper_43 : decode b_G_tamper 43 = .ok (.astore 5, 2) := by decide +kernel
theorem d_G_tamper_45 : decode b_G_tamper 45 = .ok (.aload 5, 2) := by decide +kernel
theorem d_G_tamper_47 : decode b_G_tamper 47 = .ok (.getfield 146, 3) := by decide +kernel
theorem d_G_tamper_50 : decode b_G_tamper 50 = .ok (.ifCond .ne 5, 3) := by decide +kernel
theorem d_G_tamper_53 : decode b_G_tamper 53 = .ok (.iconst (-1), 1) := by decide +kernel
theorem d_G_tamper_54 : decode b_G_tamper 54 = .ok (.ireturn, 1) := by decide +kernel
theorem d_G_tamper_55 : decode b_G_tamper 55 = .ok (.iload_n 3, 1) := by decide +kernel
theorem d_G_tamper_56 : decode b_G_tamper 56 = .ok (.tableswitch 73 0 2 #[28, 43, 58], 28) := by decide +kernel
theorem d_G_tamper_84 : decode b_G_tamper 84 = .ok (.aload 5, 2) := by decide +kernel
theorem d_G_tamper_86 : decode b_G_tamper 86 = .ok (.dup, 1) := by decide +kernel
theorem d_G_tamper_87 : decode b_G_tamper 87 = .ok (.getfield 149, 3) := by decide +kernel
theorem d_G_tamper_90 : decode b_G_tamper 90 = .ok (.iload 4, 2) := by decide +kernel
theorem d_G_tamper_92 : decode b_G_tamper 92 = .ok (.ixor, 1) := by decide +kernel
theorem d_G_tamper_93 : decode b_G_tamper 93 = .ok (.putfield 149, 3) := by decide +kernel
theorem d_G_tamper_96 : decode b_G_tamper 96 = .ok (.goto 47, 3) := by decide +kernel
theorem d_G_tamper_99 : decode b_G_tamper 99 = .ok (.aload 5, 2) := by decide +kernel
theorem d_G_tamper_101 : decode b_G_tamper 101 = .ok (.dup, 1) := by decide +kernel
theorem d_G_tamper_102 : decode b_G_tamper 102 = .ok (.getfield 152, 3) := by decide +kernel
theorem d_G_tamper_105 : decode b_G_tamper 105 = .ok (.iload 4, 2) := by decide +kernel
theorem d_G_tamper_107 : decode b_G_tamper 107 = .ok (.ixor, 1) := by decide +kernel
theorem d_G_tamper_108 : decode b_G_tamper 108 = .ok (.putfield 152, 3) := by decide +kernel
theorem d_G_tamper_111 : decode b_G_tamper 111 = .ok (.goto 32, 3) := by decide +kernel
theorem d_G_tamper_114 : decode b_G_tamper 114 = .ok (.aload 5, 2) := by decide +kernel
theorem d_G_tamper_116 : decode b_G_tamper 116 = .ok (.dup, 1) := by decide +kernel
theorem d_G_tamper_117 : decode b_G_tamper 117 = .ok (.getfield 101, 3) := by decide +kernel
theorem d_G_tamper_120 : decode b_G_tamper 120 = .ok (.iload 4, 2) := by decide +kernel
theorem d_G_tamper_122 : decode b_G_tamper 122 = .ok (.ixor, 1) := by decide +kernel
theorem d_G_tamper_123 : decode b_G_tamper 123 = .ok (.putfield 101, 3) := by decide +kernel
theorem d_G_tamper_126 : decode b_G_tamper 126 = .ok (.goto 17, 3) := by decide +kernel
theorem d_G_tamper_129 : decode b_G_tamper 129 = .ok (.aload 5, 2) := by decide +kernel
theorem d_G_tamper_131 : decode b_G_tamper 131 = .ok (.getfield 155, 3) := by decide +kernel
theorem d_G_tamper_134 : decode b_G_tamper 134 = .ok (.iload_n 3, 1) := by decide +kernel
theorem d_G_tamper_135 : decode b_G_tamper 135 = .ok (.iconst 3, 1) := by decide +kernel
theorem d_G_tamper_136 : decode b_G_tamper 136 = .ok (.isub, 1) := by decide +kernel
theorem d_G_tamper_137 : decode b_G_tamper 137 = .ok (.dup2, 1) := by decide +kernel
theorem d_G_tamper_138 : decode b_G_tamper 138 = .ok (.iaload, 1) := by decide +kernel
theorem d_G_tamper_139 : decode b_G_tamper 139 = .ok (.iload 4, 2) := by decide +kernel
theorem d_G_tamper_141 : decode b_G_tamper 141 = .ok (.ixor, 1) := by decide +kernel
theorem d_G_tamper_142 : decode b_G_tamper 142 = .ok (.iastore, 1) := by decide +kernel
theorem d_G_tamper_143 : decode b_G_tamper 143 = .ok (.iconst 0, 1) := by decide +kernel
theorem d_G_tamper_144 : decode b_G_tamper 144 = .ok (.ireturn, 1) := by decide +kernel
theorem d_G_picture_0 : decode b_G_picture 0 = .ok (.aload_n 0, 1) := by decide +kernel
theorem d_G_picture_1 : decode b_G_picture 1 = .ok (.iload_n 1, 1) := by decide +kernel
theorem d_G_picture_2 : decode b_G_picture 2 = .ok (.invokevirtual 143, 3) := by decide +kernel
theorem d_G_picture_5 : decode b_G_picture 5 = .ok (.ifCond .eq 28, 3) := by decide +kernel
theorem d_G_picture_8 : decode b_G_picture 8 = .ok (.aload_n 0, 1) := by decide +kernel
theorem d_G_picture_9 : decode b_G_picture 9 = .ok (.iload_n 2, 1) := by decide +kernel
theorem d_G_picture_10 : decode b_G_picture 10 = .ok (.invokevirtual 140, 3) := by decide +kernel
theorem d_G_picture_13 : decode b_G_picture 13 = .ok (.ifCond .eq 20, 3) := by decide +kernel
theorem d_G_picture_16 : decode b_G_picture 16 = .ok (.aload_n 0, 1) := by decide +kernel
theorem d_G_picture_17 : decode b_G_picture 17 = .ok (.getfield 29, 3) := by decide +kernel
theorem d_G_picture_20 : decode b_G_picture 20 = .ok (.iload_n 1, 1) := by decide +kernel
theorem d_G_picture_21 : decode b_G_picture 21 = .ok (.aaload, 1) := by decide +kernel
theorem d_G_picture_22 : decode b_G_picture 22 = .ok (.getfield 128, 3) := by decide +kernel
theorem d_G_picture_25 : decode b_G_picture 25 = .ok (.iload_n 2, 1) := by decide +kernel
theorem d_G_picture_26 : decode b_G_picture 26 = .ok (.aaload, 1) := by decide +kernel
theorem d_G_picture_27 : decode b_G_picture 27 = .ok (.getfield 146, 3) := by decide +kernel
theorem d_G_picture_30 : decode b_G_picture 30 = .ok (.ifCond .ne 5, 3) := by decide +kernel
theorem d_G_picture_33 : decode b_G_picture 33 = .ok (.iconst (-1), 1) := by decide +kernel
theorem d_G_picture_34 : decode b_G_picture 34 = .ok (.ireturn, 1) := by decide +kernel
theorem d_G_picture_35 : decode b_G_picture 35 = .ok (.aload_n 0, 1) := by decide +kernel
theorem d_G_picture_36 : decode b_G_picture 36 = .ok (.getfield 29, 3) := by decide +kernel
theorem d_G_picture_39 : decode b_G_picture 39 = .ok (.iload_n 1, 1) := by decide +kernel
theorem d_G_picture_40 : decode b_G_picture 40 = .ok (.aaload, 1) := by decide +kernel
theorem d_G_picture_41 : decode b_G_picture 41 = .ok (.getfield 158, 3) := by decide +kernel
theorem d_G_picture_44 : decode b_G_picture 44 = .ok (.iload_n 2, 1) := by decide +kernel
theorem d_G_picture_45 : decode b_G_picture 45 = .ok (.aaload, 1) := by decide +kernel
theorem d_G_picture_46 : decode b_G_picture 46 = .ok (.aload_n 0, 1) := by decide +kernel
theorem d_G_picture_47 : decode b_G_picture 47 = .ok (.getfield 29, 3) := by decide +kernel
theorem d_G_picture_50 : decode b_G_picture 50 = .ok (.iload_n 1, 1) := by decide +kernel
theorem d_G_picture_51 : decode b_G_picture 51 = .ok (.aaload, 1) := by decide +kernel
theorem d_G_picture_52 : decode b_G_picture 52 = .ok (.getfield 128, 3) := by decide +kernel
theorem d_G_picture_55 : decode b_G_picture 55 = .ok (.iload_n 2, 1) := by decide +kernel
theorem d_G_picture_56 : decode b_G_picture 56 = .ok (.aaload, 1) := by decide +kernel
theorem d_G_picture_57 : decode b_G_picture 57 = .ok (.invokevirtual 132, 3) := by decide +kernel
theorem d_G_picture_60 : decode b_G_picture 60 = .ok (.iconst 0, 1) := by decide +kernel
theorem d_G_picture_61 : decode b_G_picture 61 = .ok (.ireturn, 1) := by decide +kernel
theorem d_G_fallBack_0 : decode b_G_fallBack 0 = .ok (.aload_n 0, 1) := by decide +kernel
theorem d_G_fallBack_1 : decode b_G_fallBack 1 = .ok (.iload_n 1, 1) := by decide +kernel
theorem d_G_fallBack_2 : decode b_G_fallBack 2 = .ok (.invokevirtual 143, 3) := by decide +kernel
theorem d_G_fallBack_5 : decode b_G_fallBack 5 = .ok (.ifCond .eq 28, 3) := by decide +kernel
theorem d_G_fallBack_8 : decode b_G_fallBack 8 = .ok (.aload_n 0, 1) := by decide +kernel
theorem d_G_fallBack_9 : decode b_G_fallBack 9 = .ok (.iload_n 2, 1) := by decide +kernel
theorem d_G_fallBack_10 : decode b_G_fallBack 10 = .ok (.invokevirtual 140, 3) := by decide +kernel
theorem d_G_fallBack_13 : decode b_G_fallBack 13 = .ok (.ifCond .eq 20, 3) := by decide +kernel
theorem d_G_fallBack_16 : decode b_G_fallBack 16 = .ok (.aload_n 0, 1) := by decide +kernel
theorem d_G_fallBack_17 : decode b_G_fallBack 17 = .ok (.getfield 29, 3) := by decide +kernel
theorem d_G_fallBack_20 : decode b_G_fallBack 20 = .ok (.iload_n 1, 1) := by decide +kernel
theorem d_G_fallBack_21 : decode b_G_fallBack 21 = .ok (.aaload, 1) := by decide +kernel
theorem d_G_fallBack_22 : decode b_G_fallBack 22 = .ok (.getfield 158, 3) := by decide +kernel
theorem d_G_fallBack_25 : decode b_G_fallBack 25 = .ok (.iload_n 2, 1) := by decide +kernel
theorem d_G_fallBack_26 : decode b_G_fallBack 26 = .ok (.aaload, 1) := by decide +kernel
theorem d_G_fallBack_27 : decode b_G_fallBack 27 = .ok (.getfield 146, 3) := by decide +kernel
theorem d_G_fallBack_30 : decode b_G_fallBack 30 = .ok (.ifCond .ne 5, 3) := by decide +kernel
theorem d_G_fallBack_33 : decode b_G_fallBack 33 = .ok (.iconst (-1), 1) := by decide +kernel
theorem d_G_fallBack_34 : decode b_G_fallBack 34 = .ok (.ireturn, 1) := by decide +kernel
theorem d_G_fallBack_35 : decode b_G_fallBack 35 = .ok (.aload_n 0, 1) := by decide +kernel
theorem d_G_fallBack_36 : decode b_G_fallBack 36 = .ok (.getfield 29, 3) := by decide +kernel
theorem d_G_fallBack_39 : decode b_G_fallBack 39 = .ok (.iload_n 1, 1) := by decide +kernel
theorem d_G_fallBack_40 : decode b_G_fallBack 40 = .ok (.aaload, 1) := by decide +kernel
theorem d_G_fallBack_41 : decode b_G_fallBack 41 = .ok (.getfield 128, 3) := by decide +kernel
theorem d_G_fallBack_44 : decode b_G_fallBack 44 = .ok (.iload_n 2, 1) := by decide +kernel
theorem d_G_fallBack_45 : decode b_G_fallBack 45 = .ok (.aaload, 1) := by decide +kernel
theorem d_G_fallBack_46 : decode b_G_fallBack 46 = .ok (.aload_n 0, 1) := by decide +kernel
theorem d_G_fallBack_47 : decode b_G_fallBack 47 = .ok (.getfield 29, 3) := by decide +kernel
theorem d_G_fallBack_50 : decode b_G_fallBack 50 = .ok (.iload_n 1, 1) := by decide +kernel
theorem d_G_fallBack_51 : decode b_G_fallBack 51 = .ok (.aaload, 1) := by decide +kernel
theorem d_G_fallBack_52 : decode b_G_fallBack 52 = .ok (.getfield 158, 3) := by decide +kernel
theorem d_G_fallBack_55 : decode b_G_fallBack 55 = .ok (.iload_n 2, 1) := by decide +kernel
theorem d_G_fallBack_56 : decode b_G_fallBack 56 = .ok (.aaload, 1) := by decide +kernel
theorem d_G_fallBack_57 : decode b_G_fallBack 57 = .ok (.invokevirtual 132, 3) := by decide +kernel
theorem d_G_fallBack_60 : decode b_G_fallBack 60 = .ok (.iconst 0, 1) := by decide +kernel
theorem d_G_fallBack_61 : decode b_G_fallBack 61 = .ok (.ireturn, 1) := by decide +kernel
theorem d_G_wipe_0 : decode b_G_wipe 0 = .ok (.aload_n 0, 1) := by decide +kernel
theorem d_G_wipe_1 : decode b_G_wipe 1 = .ok (.iload_n 1, 1) := by decide +kernel
theorem d_G_wipe_2 : decode b_G_wipe 2 = .ok (.invokevirtual 143, 3) := by decide +kernel
theorem d_G_wipe_5 : decode b_G_wipe 5 = .ok (.ifCond .eq 11, 3) := by decide +kernel
theorem d_G_wipe_8 : decode b_G_wipe 8 = .ok (.aload_n 0, 1) := by decide +kernel
theorem d_G_wipe_9 : decode b_G_wipe 9 = .ok (.iload_n 2, 1) := by decide +kernel
theorem d_G_wipe_10 : decode b_G_wipe 10 = .ok (.invokevirtual 140, 3) := by decide +kernel
theorem d_G_wipe_13 : decode b_G_wipe 13 = .ok (.ifCond .ne 5, 3) := by decide +kernel
theorem d_G_wipe_16 : decode b_G_wipe 16 = .ok (.iconst (-1), 1) := by decide +kernel
theorem d_G_wipe_17 : decode b_G_wipe 17 = .ok (.ireturn, 1) := by decide +kernel
theorem d_G_wipe_18 : decode b_G_wipe 18 = .ok (.aload_n 0, 1) := by decide +kernel
theorem d_G_wipe_19 : decode b_G_wipe 19 = .ok (.getfield 29, 3) := by decide +kernel
theorem d_G_wipe_22 : decode b_G_wipe 22 = .ok (.iload_n 1, 1) := by decide +kernel
theorem d_G_wipe_23 : decode b_G_wipe 23 = .ok (.aaload, 1) := by decide +kernel
theorem d_G_wipe_24 : decode b_G_wipe 24 = .ok (.getfield 128, 3) := by decide +kernel
theorem d_G_wipe_27 : decode b_G_wipe 27 = .ok (.iload_n 2, 1) := by decide +kernel
theorem d_G_wipe_28 : decode b_G_wipe 28 = .ok (.aaload, 1) := by decide +kernel
theorem d_G_wipe_29 : decode b_G_wipe 29 = .ok (.iconst 0, 1) := by decide +kernel
theorem d_G_wipe_30 : decode b_G_wipe 30 = .ok (.putfield 146, 3) := by decide +kernel
theorem d_G_wipe_33 : decode b_G_wipe 33 = .ok (.iconst 0, 1) := by decide +kernel
theorem d_G_wipe_34 : decode b_G_wipe 34 = .ok (.ireturn, 1) := by decide +kernel
theorem d_G_share_0 : decode b_G_share 0 = .ok (.aload_n 0, 1) := by decide +kernel
theorem d_G_share_1 : decode b_G_share 1 = .ok (.iload_n 1, 1) := by decide +kernel
theorem d_G_share_2 : decode b_G_share 2 = .ok (.invokevirtual 143, 3) := by decide +kernel
theorem d_G_share_5 : decode b_G_share 5 = .ok (.ifCond .eq 28, 3) := by decide +kernel
theorem d_G_share_8 : decode b_G_share 8 = .ok (.aload_n 0, 1) := by decide +kernel
theorem d_G_share_9 : decode b_G_share 9 = .ok (.iload_n 2, 1) := by decide +kernel
theorem d_G_share_10 : decode b_G_share 10 = .ok (.invokevirtual 140, 3) := by decide +kernel
theorem d_G_share_13 : decode b_G_share 13 = .ok (.ifCond .eq 20, 3) := by decide +kernel
theorem d_G_share_16 : decode b_G_share 16 = .ok (.aload_n 0, 1) := by decide +kernel
theorem d_G_share_17 : decode b_G_share 17 = .ok (.getfield 29, 3) := by decide +kernel
theorem d_G_share_20 : decode b_G_share 20 = .ok (.iload_n 1, 1) := by decide +kernel
theorem d_G_share_21 : decode b_G_share 21 = .ok (.aaload, 1) := by decide +kernel
theorem d_G_share_22 : decode b_G_share 22 = .ok (.getfield 128, 3) := by decide +kernel
theorem d_G_share_25 : decode b_G_share 25 = .ok (.iload_n 2, 1) := by decide +kernel
theorem d_G_share_26 : decode b_G_share 26 = .ok (.aaload, 1) := by decide +kernel
theorem d_G_share_27 : decode b_G_share 27 = .ok (.getfield 146, 3) := by decide +kernel
theorem d_G_share_30 : decode b_G_share 30 = .ok (.ifCond .ne 7, 3) := by decide +kernel
theorem d_G_share_33 : decode b_G_share 33 = .ok (.ldc2_w 123, 3) := by decide +kernel
theorem d_G_share_36 : decode b_G_share 36 = .ok (.lreturn, 1) := by decide +kernel
theorem d_G_share_37 : decode b_G_share 37 = .ok (.aload_n 0, 1) := by decide +kernel
theorem d_G_share_38 : decode b_G_share 38 = .ok (.getfield 29, 3) := by decide +kernel
theorem d_G_share_41 : decode b_G_share 41 = .ok (.iload_n 1, 1) := by decide +kernel
theorem d_G_share_42 : decode b_G_share 42 = .ok (.aaload, 1) := by decide +kernel
theorem d_G_share_43 : decode b_G_share 43 = .ok (.getfield 128, 3) := by decide +kernel
theorem d_G_share_46 : decode b_G_share 46 = .ok (.iload_n 2, 1) := by decide +kernel
theorem d_G_share_47 : decode b_G_share 47 = .ok (.aaload, 1) := by decide +kernel
theorem d_G_share_48 : decode b_G_share 48 = .ok (.astore 4, 2) := by decide +kernel
theorem d_G_share_50 : decode b_G_share 50 = .ok (.iload_n 3, 1) := by decide +kernel
theorem d_G_share_51 : decode b_G_share 51 = .ok (.tableswitch 46 0 2 #[25, 32, 39], 25) := by decide +kernel
theorem d_G_share_76 : decode b_G_share 76 = .ok (.aload 4, 2) := by decide +kernel
theorem d_G_share_78 : decode b_G_share 78 = .ok (.getfield 149, 3) := by decide +kernel
theorem d_G_share_81 : decode b_G_share 81 = .ok (.i2l, 1) := by decide +kernel
theorem d_G_share_82 : decode b_G_share 82 = .ok (.lreturn, 1) := by decide +kernel
theorem d_G_share_83 : decode b_G_share 83 = .ok (.aload 4, 2) := by decide +kernel
theorem d_G_share_85 : decode b_G_share 85 = .ok (.getfield 152, 3) := by decide +kernel
theorem d_G_share_88 : decode b_G_share 88 = .ok (.i2l, 1) := by decide +kernel
theorem d_G_share_89 : decode b_G_share 89 = .ok (.lreturn, 1) := by decide +kernel
theorem d_G_share_90 : decode b_G_share 90 = .ok (.aload 4, 2) := by decide +kernel
theorem d_G_share_92 : decode b_G_share 92 = .ok (.getfield 101, 3) := by decide +kernel
theorem d_G_share_95 : decode b_G_share 95 = .ok (.i2l, 1) := by decide +kernel
theorem d_G_share_96 : decode b_G_share 96 = .ok (.lreturn, 1) := by decide +kernel
theorem d_G_share_97 : decode b_G_share 97 = .ok (.ldc2_w 123, 3) := by decide +kernel
theorem d_G_share_100 : decode b_G_share 100 = .ok (.lreturn, 1) := by decide +kernel
theorem d_G_times_0 : decode b_G_times 0 = .ok (.iload_n 1, 1) := by decide +kernel
theorem d_G_times_1 : decode b_G_times 1 = .ok (.invokestatic 161, 3) := by decide +kernel
theorem d_G_times_4 : decode b_G_times 4 = .ok (.ifCond .eq 10, 3) := by decide +kernel
theorem d_G_times_7 : decode b_G_times 7 = .ok (.iload_n 2, 1) := by decide +kernel
theorem d_G_times_8 : decode b_G_times 8 = .ok (.invokestatic 161, 3) := by decide +kernel
theorem d_G_times_11 : decode b_G_times 11 = .ok (.ifCond .ne 5, 3) := by decide +kernel
theorem d_G_times_14 : decode b_G_times 14 = .ok (.iconst (-1), 1) := by decide +kernel
theorem d_G_times_15 : decode b_G_times 15 = .ok (.ireturn, 1) := by decide +kernel
theorem d_G_times_16 : decode b_G_times 16 = .ok (.iload_n 1, 1) := by decide +kernel
theorem d_G_times_17 : decode b_G_times 17 = .ok (.iload_n 2, 1) := by decide +kernel
theorem d_G_times_18 : decode b_G_times 18 = .ok (.invokestatic 164, 3) := by decide +kernel
theorem d_G_times_21 : decode b_G_times 21 = .ok (.ireturn, 1) := by decide +kernel
theorem d_G_count_0 : decode b_G_count 0 = .ok (.iload_n 1, 1) := by decide +kernel
theorem d_G_count_1 : decode b_G_count 1 = .ok (.tableswitch 51 0 3 #[31, 36, 41, 46], 31) := by decide +kernel
theorem d_G_count_32 : decode b_G_count 32 = .ok (.aload_n 0, 1) := by decide +kernel
theorem d_G_count_33 : decode b_G_count 33 = .ok (.getfield 60, 3) := by decide +kernel
theorem d_G_count_36 : decode b_G_count 36 = .ok (.ireturn, 1) := by decide +kernel
theorem d_G_count_37 : decode b_G_count 37 = .ok (.aload_n 0, 1) := by decide +kernel
theorem d_G_count_38 : decode b_G_count 38 = .ok (.invokevirtual 84, 3) := by decide +kernel
theorem d_G_count_41 : decode b_G_count 41 = .ok (.ireturn, 1) := by decide +kernel
theorem d_G_count_42 : decode b_G_count 42 = .ok (.aload_n 0, 1) := by decide +kernel
theorem d_G_count_43 : decode b_G_count 43 = .ok (.getfield 13, 3) := by decide +kernel
theorem d_G_count_46 : decode b_G_count 46 = .ok (.ireturn, 1) := by decide +kernel
theorem d_G_count_47 : decode b_G_count 47 = .ok (.aload_n 0, 1) := by decide +kernel
theorem d_G_count_48 : decode b_G_count 48 = .ok (.getfield 17, 3) := by decide +kernel
theorem d_G_count_51 : decode b_G_count 51 = .ok (.ireturn, 1) := by decide +kernel
theorem d_G_count_52 : decode b_G_count 52 = .ok (.aload_n 0, 1) := by decide +kernel
theorem d_G_count_53 : decode b_G_count 53 = .ok (.iload_n 1, 1) := by decide +kernel
theorem d_G_count_54 : decode b_G_count 54 = .ok (.bipush 10, 2) := by decide +kernel
theorem d_G_count_56 : decode b_G_count 56 = .ok (.isub, 1) := by decide +kernel
theorem d_G_count_57 : decode b_G_count 57 = .ok (.invokevirtual 167, 3) := by decide +kernel
theorem d_G_count_60 : decode b_G_count 60 = .ok (.ireturn, 1) := by decide +kernel
theorem d_G_greatestNumber_0 : decode b_G_greatestNumber 0 = .ok (.aload_n 0, 1) := by decide +kernel
theorem d_G_greatestNumber_1 : decode b_G_greatestNumber 1 = .ok (.iload_n 1, 1) := by decide +kernel
theorem d_G_greatestNumber_2 : decode b_G_greatestNumber 2 = .ok (.invokevirtual 143, 3) := by decide +kernel
theorem d_G_greatestNumber_5 : decode b_G_greatestNumber 5 = .ok (.ifCond .eq 15, 3) := by decide +kernel
theorem d_G_greatestNumber_8 : decode b_G_greatestNumber 8 = .ok (.aload_n 0, 1) := by decide +kernel
theorem d_G_greatestNumber_9 : decode b_G_greatestNumber 9 = .ok (.getfield 29, 3) := by decide +kernel
theorem d_G_greatestNumber_12 : decode b_G_greatestNumber 12 = .ok (.iload_n 1, 1) := by decide +kernel
theorem d_G_greatestNumber_13 : decode b_G_greatestNumber 13 = .ok (.aaload, 1) := by decide +kernel
theorem d_G_greatestNumber_14 : decode b_G_greatestNumber 14 = .ok (.getfield 88, 3) := by decide +kernel
theorem d_G_greatestNumber_17 : decode b_G_greatestNumber 17 = .ok (.goto 4, 3) := by decide +kernel
theorem d_G_greatestNumber_20 : decode b_G_greatestNumber 20 = .ok (.iconst (-1), 1) := by decide +kernel
theorem d_G_greatestNumber_21 : decode b_G_greatestNumber 21 = .ok (.ireturn, 1) := by decide +kernel
theorem d_G_clamped_0 : decode b_G_clamped 0 = .ok (.iload_n 1, 1) := by decide +kernel
theorem d_G_clamped_1 : decode b_G_clamped 1 = .ok (.iload_n 0, 1) := by decide +kernel
theorem d_G_clamped_2 : decode b_G_clamped 2 = .ok (.iload_n 2, 1) := by decide +kernel
theorem d_G_clamped_3 : decode b_G_clamped 3 = .ok (.invokestatic 170, 3) := by decide +kernel
theorem d_G_clamped_6 : decode b_G_clamped 6 = .ok (.invokestatic 175, 3) := by decide +kernel
theorem d_G_clamped_9 : decode b_G_clamped 9 = .ok (.ireturn, 1) := by decide +kernel
theorem d_G_isWordPlace_0 : decode b_G_isWordPlace 0 = .ok (.iload_n 1, 1) := by decide +kernel
theorem d_G_isWordPlace_1 : decode b_G_isWordPlace 1 = .ok (.ifCond .lt 15, 3) := by decide +kernel
theorem d_G_isWordPlace_4 : decode b_G_isWordPlace 4 = .ok (.iload_n 1, 1) := by decide +kernel
theorem d_G_isWordPlace_5 : decode b_G_isWordPlace 5 = .ok (.aload_n 0, 1) := by decide +kernel
theorem d_G_isWordPlace_6 : decode b_G_isWordPlace 6 = .ok (.getfield 13, 3) := by decide +kernel
theorem d_G_isWordPlace_9 : decode b_G_isWordPlace 9 = .ok (.if_icmp .ge 7, 3) := by decide +kernel
theorem d_G_isWordPlace_12 : decode b_G_isWordPlace 12 = .ok (.iconst 1, 1) := by decide +kernel
theorem d_G_isWordPlace_13 : decode b_G_isWordPlace 13 = .ok (.goto 4, 3) := by decide +kernel
theorem d_G_isWordPlace_16 : decode b_G_isWordPlace 16 = .ok (.iconst 0, 1) := by decide +kernel
theorem d_G_isWordPlace_17 : decode b_G_isWordPlace 17 = .ok (.ireturn, 1) := by decide +kernel
theorem d_G_isPlace_0 : decode b_G_isPlace 0 = .ok (.iload_n 1, 1) := by decide +kernel
theorem d_G_isPlace_1 : decode b_G_isPlace 1 = .ok (.ifCond .lt 15, 3) := by decide +kernel
theorem d_G_isPlace_4 : decode b_G_isPlace 4 = .ok (.iload_n 1, 1) := by decide +kernel
theorem d_G_isPlace_5 : decode b_G_isPlace 5 = .ok (.aload_n 0, 1) := by decide +kernel
theorem d_G_isPlace_6 : decode b_G_isPlace 6 = .ok (.getfield 17, 3) := by decide +kernel
theorem d_G_isPlace_9 : decode b_G_isPlace 9 = .ok (.if_icmp .ge 7, 3) := by decide +kernel
theorem d_G_isPlace_12 : decode b_G_isPlace 12 = .ok (.iconst 1, 1) := by decide +kernel
theorem d_G_isPlace_13 : decode b_G_isPlace 13 = .ok (.goto 4, 3) := by decide +kernel
theorem d_G_isPlace_16 : decode b_G_isPlace 16 = .ok (.iconst 0, 1) := by decide +kernel
theorem d_G_isPlace_17 : decode b_G_isPlace 17 = .ok (.ireturn, 1) := by decide +kernel
theorem d_G_isFile_0 : decode b_G_isFile 0 = .ok (.iload_n 1, 1) := by decide +kernel
theorem d_G_isFile_1 : decode b_G_isFile 1 = .ok (.ifCond .lt 15, 3) := by decide +kernel
theorem d_G_isFile_4 : decode b_G_isFile 4 = .ok (.iload_n 1, 1) := by decide +kernel
theorem d_G_isFile_5 : decode b_G_isFile 5 = .ok (.aload_n 0, 1) := by decide +kernel
theorem d_G_isFile_6 : decode b_G_isFile 6 = .ok (.getfield 60, 3) := by decide +kernel
theorem d_G_isFile_9 : decode b_G_isFile 9 = .ok (.if_icmp .ge 7, 3) := by decide +kernel
theorem d_G_isFile_12 : decode b_G_isFile 12 = .ok (.iconst 1, 1) := by decide +kernel
theorem d_G_isFile_13 : decode b_G_isFile 13 = .ok (.goto 4, 3) := by decide +kernel
theorem d_G_isFile_16 : decode b_G_isFile 16 = .ok (.iconst 0, 1) := by decide +kernel
theorem d_G_isFile_17 : decode b_G_isFile 17 = .ok (.ireturn, 1) := by decide +kernel
theorem d_G_isByte_0 : decode b_G_isByte 0 = .ok (.iload_n 0, 1) := by decide +kernel
theorem d_G_isByte_1 : decode b_G_isByte 1 = .ok (.ifCond .lt 14, 3) := by decide +kernel
theorem d_G_isByte_4 : decode b_G_isByte 4 = .ok (.iload_n 0, 1) := by decide +kernel
theorem d_G_isByte_5 : decode b_G_isByte 5 = .ok (.sipush 255, 3) := by decide +kernel
theorem d_G_isByte_8 : decode b_G_isByte 8 = .ok (.if_icmp .gt 7, 3) := by decide +kernel
theorem d_G_isByte_11 : decode b_G_isByte 11 = .ok (.iconst 1, 1) := by decide +kernel
theorem d_G_isByte_12 : decode b_G_isByte 12 = .ok (.goto 4, 3) := by decide +kernel
theorem d_G_isByte_15 : decode b_G_isByte 15 = .ok (.iconst 0, 1) := by decide +kernel
theorem d_G_isByte_16 : decode b_G_isByte 16 = .ok (.ireturn, 1) := by decide +kernel
theorem d_G_fileUnder_0 : decode b_G_fileUnder 0 = .ok (.iconst 0, 1) := by decide +kernel
theorem d_G_fileUnder_1 : decode b_G_fileUnder 1 = .ok (.istore_n 2, 1) := by decide +kernel
theorem d_G_fileUnder_2 : decode b_G_fileUnder 2 = .ok (.iload_n 2, 1) := by decide +kernel
theorem d_G_fileUnder_3 : decode b_G_fileUnder 3 = .ok (.aload_n 0, 1) := by decide +kernel
theorem d_G_fileUnder_4 : decode b_G_fileUnder 4 = .ok (.getfield 60, 3) := by decide +kernel
theorem d_G_fileUnder_7 : decode b_G_fileUnder 7 = .ok (.if_icmp .ge 24, 3) := by decide +kernel
theorem d_G_fileUnder_10 : decode b_G_fileUnder 10 = .ok (.aload_n 0, 1) := by decide +kernel
theorem d_G_fileUnder_11 : decode b_G_fileUnder 11 = .ok (.getfield 29, 3) := by decide +kernel
theorem d_G_fileUnder_14 : decode b_G_fileUnder 14 = .ok (.iload_n 2, 1) := by decide +kernel
theorem d_G_fileUnder_15 : decode b_G_fileUnder 15 = .ok (.aaload, 1) := by decide +kernel
theorem d_G_fileUnder_16 : decode b_G_fileUnder 16 = .ok (.getfield 77, 3) := by decide +kernel
theorem d_G_fileUnder_19 : decode b_G_fileUnder 19 = .ok (.iload_n 1, 1) := by decide +kernel
theorem d_G_fileUnder_20 : decode b_G_fileUnder 20 = .ok (.if_icmp .ne 5, 3) := by decide +kernel
theorem d_G_fileUnder_23 : decode b_G_fileUnder 23 = .ok (.iload_n 2, 1) := by decide +kernel
theorem d_G_fileUnder_24 : decode b_G_fileUnder 24 = .ok (.ireturn, 1) := by decide +kernel
theorem d_G_fileUnder_25 : decode b_G_fileUnder 25 = .ok (.iinc 2 1, 3) := by decide +kernel
theorem d_G_fileUnder_28 : decode b_G_fileUnder 28 = .ok (.goto (-26), 3) := by decide +kernel
theorem d_G_fileUnder_31 : decode b_G_fileUnder 31 = .ok (.iconst (-1), 1) := by decide +kernel
theorem d_G_fileUnder_32 : decode b_G_fileUnder 32 = .ok (.ireturn, 1) := by decide +kernel
theorem d_G_takesRecords_0 : decode b_G_takesRecords 0 = .ok (.aload_n 0, 1) := by decide +kernel
theorem d_G_takesRecords_1 : decode b_G_takesRecords 1 = .ok (.getfield 20, 3) := by decide +kernel
theorem d_G_takesRecords_4 : decode b_G_takesRecords 4 = .ok (.iload_n 1, 1) := by decide +kernel
theorem d_G_takesRecords_5 : decode b_G_takesRecords 5 = .ok (.baload, 1) := by decide +kernel
theorem d_G_takesRecords_6 : decode b_G_takesRecords 6 = .ok (.ifCond .eq 16, 3) := by decide +kernel
theorem d_G_takesRecords_9 : decode b_G_takesRecords 9 = .ok (.aload_n 0, 1) := by decide +kernel
theorem d_G_takesRecords_10 : decode b_G_takesRecords 10 = .ok (.getfield 24, 3) := by decide +kernel
theorem d_G_takesRecords_13 : decode b_G_takesRecords 13 = .ok (.iload_n 1, 1) := by decide +kernel
theorem d_G_takesRecords_14 : decode b_G_takesRecords 14 = .ok (.baload, 1) := by decide +kernel
theorem d_G_takesRecords_15 : decode b_G_takesRecords 15 = .ok (.ifCond .ne 7, 3) := by decide +kernel
theorem d_G_takesRecords_18 : decode b_G_takesRecords 18 = .ok (.iconst 1, 1) := by decide +kernel
theorem d_G_takesRecords_19 : decode b_G_takesRecords 19 = .ok (.goto 4, 3) := by decide +kernel
theorem d_G_takesRecords_22 : decode b_G_takesRecords 22 = .ok (.iconst 0, 1) := by decide +kernel
theorem d_G_takesRecords_23 : decode b_G_takesRecords 23 = .ok (.ireturn, 1) := by decide +kernel
theorem d_G_serversUp_0 : decode b_G_serversUp 0 = .ok (.iconst 0, 1) := by decide +kernel
theorem d_G_serversUp_1 : decode b_G_serversUp 1 = .ok (.istore_n 1, 1) := by decide +kernel
theorem d_G_serversUp_2 : decode b_G_serversUp 2 = .ok (.iconst 0, 1) := by decide +kernel
theorem d_G_serversUp_3 : decode b_G_serversUp 3 = .ok (.istore_n 2, 1) := by decide +kernel
theorem d_G_serversUp_4 : decode b_G_serversUp 4 = .ok (.iload_n 2, 1) := by decide +kernel
theorem d_G_serversUp_5 : decode b_G_serversUp 5 = .ok (.aload_n 0, 1) := by decide +kernel
theorem d_G_serversUp_6 : decode b_G_serversUp 6 = .ok (.getfield 17, 3) := by decide +kernel
theorem d_G_serversUp_9 : decode b_G_serversUp 9 = .ok (.if_icmp .ge 21, 3) := by decide +kernel
theorem d_G_serversUp_12 : decode b_G_serversUp 12 = .ok (.aload_n 0, 1) := by decide +kernel
theorem d_G_serversUp_13 : decode b_G_serversUp 13 = .ok (.getfield 20, 3) := by decide +kernel
theorem d_G_serversUp_16 : decode b_G_serversUp 16 = .ok (.iload_n 2, 1) := by decide +kernel
theorem d_G_serversUp_17 : decode b_G_serversUp 17 = .ok (.baload, 1) := by decide +kernel
theorem d_G_serversUp_18 : decode b_G_serversUp 18 = .ok (.ifCond .eq 6, 3) := by decide +kernel
theorem d_G_serversUp_21 : decode b_G_serversUp 21 = .ok (.iinc 1 1, 3) := by decide +kernel
theorem d_G_serversUp_24 : decode b_G_serversUp 24 = .ok (.iinc 2 1, 3) := by decide +kernel
theorem d_G_serversUp_27 : decode b_G_serversUp 27 = .ok (.goto (-23), 3) := by decide +kernel
theorem d_G_serversUp_30 : decode b_G_serversUp 30 = .ok (.iload_n 1, 1) := by decide +kernel
theorem d_G_serversUp_31 : decode b_G_serversUp 31 = .ok (.ireturn, 1) := by decide +kernel
theorem d_G_bestNumber_0 : decode b_G_bestNumber 0 = .ok (.aload_n 0, 1) := by decide +kernel
theorem d_G_bestNumber_1 : decode b_G_bestNumber 1 = .ok (.getfield 57, 3) := by decide +kernel
theorem d_G_bestNumber_4 : decode b_G_bestNumber 4 = .ok (.iconst 0, 1) := by decide +kernel
theorem d_G_bestNumber_5 : decode b_G_bestNumber 5 = .ok (.invokestatic 178, 3) := by decide +kernel
theorem d_G_bestNumber_8 : decode b_G_bestNumber 8 = .ok (.iconst 0, 1) := by decide +kernel
theorem d_G_bestNumber_9 : decode b_G_bestNumber 9 = .ok (.istore_n 2, 1) := by decide +kernel
theorem d_G_bestNumber_10 : decode b_G_bestNumber 10 = .ok (.iload_n 2, 1) := by decide +kernel
theorem d_G_bestNumber_11 : decode b_G_bestNumber 11 = .ok (.aload_n 0, 1) := by decide +kernel
theorem d_G_bestNumber_12 : decode b_G_bestNumber 12 = .ok (.getfield 17, 3) := by decide +kernel
theorem d_G_bestNumber_15 : decode b_G_bestNumber 15 = .ok (.if_icmp .ge 44, 3) := by decide +kernel
theorem d_G_bestNumber_18 : decode b_G_bestNumber 18 = .ok (.aload_n 0, 1) := by decide +kernel
theorem d_G_bestNumber_19 : decode b_G_bestNumber 19 = .ok (.getfield 20, 3) := by decide +kernel
theorem d_G_bestNumber_22 : decode b_G_bestNumber 22 = .ok (.iload_n 2, 1) := by decide +kernel
theorem d_G_bestNumber_23 : decode b_G_bestNumber 23 = .ok (.baload, 1) := by decide +kernel
theorem d_G_bestNumber_24 : decode b_G_bestNumber 24 = .ok (.ifCond .eq 29, 3) := by decide +kernel
theorem d_G_bestNumber_27 : decode b_G_bestNumber 27 = .ok (.aload_n 1, 1) := by decide +kernel
theorem d_G_bestNumber_28 : decode b_G_bestNumber 28 = .ok (.iload_n 2, 1) := by decide +kernel
theorem d_G_bestNumber_29 : decode b_G_bestNumber 29 = .ok (.invokevirtual 125, 3) := by decide +kernel
theorem d_G_bestNumber_32 : decode b_G_bestNumber 32 = .ok (.ifCond .eq 21, 3) := by decide +kernel
theorem d_G_bestNumber_35 : decode b_G_bestNumber 35 = .ok (.aload_n 0, 1) := by decide +kernel
theorem d_G_bestNumber_36 : decode b_G_bestNumber 36 = .ok (.getfield 57, 3) := by decide +kernel
theorem d_G_bestNumber_39 : decode b_G_bestNumber 39 = .ok (.aload_n 1, 1) := by decide +kernel
theorem d_G_bestNumber_40 : decode b_G_bestNumber 40 = .ok (.getfield 128, 3) := by decide +kernel
theorem d_G_bestNumber_43 : decode b_G_bestNumber 43 = .ok (.iload_n 2, 1) := by decide +kernel
theorem d_G_bestNumber_44 : decode b_G_bestNumber 44 = .ok (.aaload, 1) := by decide +kernel
theorem d_G_bestNumber_45 : decode b_G_bestNumber 45 = .ok (.getfield 152, 3) := by decide +kernel
theorem d_G_bestNumber_48 : decode b_G_bestNumber 48 = .ok (.dup2, 1) := by decide +kernel
theorem d_G_bestNumber_49 : decode b_G_bestNumber 49 = .ok (.iaload, 1) := by decide +kernel
theorem d_G_bestNumber_50 : decode b_G_bestNumber 50 = .ok (.iconst 1, 1) := by decide +kernel
theorem d_G_bestNumber_51 : decode b_G_bestNumber 51 = .ok (.iadd, 1) := by decide +kernel
theorem d_G_bestNumber_52 : decode b_G_bestNumber 52 = .ok (.iastore, 1) := by decide +kernel
theorem d_G_bestNumber_53 : decode b_G_bestNumber 53 = .ok (.iinc 2 1, 3) := by decide +kernel
theorem d_G_bestNumber_56 : decode b_G_bestNumber 56 = .ok (.goto (-46), 3) := by decide +kernel
theorem d_G_bestNumber_59 : decode b_G_bestNumber 59 = .ok (.aload_n 1, 1) := by decide +kernel
theorem d_G_bestNumber_60 : decode b_G_bestNumber 60 = .ok (.getfield 88, 3) := by decide +kernel
theorem d_G_bestNumber_63 : decode b_G_bestNumber 63 = .ok (.istore_n 2, 1) := by decide +kernel
theorem d_G_bestNumber_64 : decode b_G_bestNumber 64 = .ok (.iload_n 2, 1) := by decide +kernel
theorem d_G_bestNumber_65 : decode b_G_bestNumber 65 = .ok (.iconst 1, 1) := by decide +kernel
theorem d_G_bestNumber_66 : decode b_G_bestNumber 66 = .ok (.if_icmp .lt 24, 3) := by decide +kernel
theorem d_G_bestNumber_69 : decode b_G_bestNumber 69 = .ok (.aload_n 0, 1) := by decide +kernel
theorem d_G_bestNumber_70 : decode b_G_bestNumber 70 = .ok (.getfield 57, 3) := by decide +kernel
theorem d_G_bestNumber_73 : decode b_G_bestNumber 73 = .ok (.iload_n 2, 1) := by decide +kernel
theorem d_G_bestNumber_74 : decode b_G_bestNumber 74 = .ok (.iaload, 1) := by decide +kernel
theorem d_G_bestNumber_75 : decode b_G_bestNumber 75 = .ok (.aload_n 0, 1) := by decide +kernel
theorem d_G_bestNumber_76 : decode b_G_bestNumber 76 = .ok (.getfield 13, 3) := by decide +kernel
theorem d_G_bestNumber_79 : decode b_G_bestNumber 79 = .ok (.if_icmp .lt 5, 3) := by decide +kernel
theorem d_G_bestNumber_82 : decode b_G_bestNumber 82 = .ok (.iload_n 2, 1) := by decide +kernel
theorem d_G_bestNumber_83 : decode b_G_bestNumber 83 = .ok (.ireturn, 1) := by decide +kernel
theorem d_G_bestNumber_84 : decode b_G_bestNumber 84 = .ok (.iinc 2 (-1), 3) := by decide +kernel
theorem d_G_bestNumber_87 : decode b_G_bestNumber 87 = .ok (.goto (-23), 3) := by decide +kernel
theorem d_G_bestNumber_90 : decode b_G_bestNumber 90 = .ok (.iconst 0, 1) := by decide +kernel
theorem d_G_bestNumber_91 : decode b_G_bestNumber 91 = .ok (.ireturn, 1) := by decide +kernel
theorem d_G_decodeVersion_0 : decode b_G_decodeVersion 0 = .ok (.iconst 0, 1) := by decide +kernel
theorem d_G_decodeVersion_1 : decode b_G_decodeVersion 1 = .ok (.istore_n 3, 1) := by decide +kernel
theorem d_G_decodeVersion_2 : decode b_G_decodeVersion 2 = .ok (.iconst 0, 1) := by decide +kernel
theorem d_G_decodeVersion_3 : decode b_G_decodeVersion 3 = .ok (.istore 4, 2) := by decide +kernel
theorem d_G_decodeVersion_5 : decode b_G_decodeVersion 5 = .ok (.iload 4, 2) := by decide +kernel
theorem d_G_decodeVersion_7 : decode b_G_decodeVersion 7 = .ok (.aload_n 0, 1) := by decide +kernel
theorem d_G_decodeVersion_8 : decode b_G_decodeVersion 8 = .ok (.getfield 17, 3) := by decide +kernel
theorem d_G_decodeVersion_11 : decode b_G_decodeVersion 11 = .ok (.if_icmp .ge 73, 3) := by decide +kernel
theorem d_G_decodeVersion_14 : decode b_G_decodeVersion 14 = .ok (.iload_n 3, 1) := by decide +kernel
theorem d_G_decodeVersion_15 : decode b_G_decodeVersion 15 = .ok (.aload_n 0, 1) := by decide +kernel
theorem d_G_decodeVersion_16 : decode b_G_decodeVersion 16 = .ok (.getfield 13, 3) := by decide +kernel
theorem d_G_decodeVersion_19 : decode b_G_decodeVersion 19 = .ok (.if_icmp .ge 65, 3) := by decide +kernel
theorem d_G_decodeVersion_22 : decode b_G_decodeVersion 22 = .ok (.aload_n 0, 1) := by decide +kernel
theorem d_G_decodeVersion_23 : decode b_G_decodeVersion 23 = .ok (.getfield 20, 3) := by decide +kernel
theorem d_G_decodeVersion_26 : decode b_G_decodeVersion 26 = .ok (.iload 4, 2) := by decide +kernel
theorem d_G_decodeVersion_28 : decode b_G_decodeVersion 28 = .ok (.baload, 1) := by decide +kernel
theorem d_G_decodeVersion_29 : decode b_G_decodeVersion 29 = .ok (.ifCond .eq 49, 3) := by decide +kernel
theorem d_G_decodeVersion_32 : decode b_G_decodeVersion 32 = .ok (.aload_n 1, 1) := by decide +kernel
theorem d_G_decodeVersion_33 : decode b_G_decodeVersion 33 = .ok (.iload 4, 2) := by decide +kernel
theorem d_G_decodeVersion_35 : decode b_G_decodeVersion 35 = .ok (.iload_n 2, 1) := by decide +kernel
theorem d_G_decodeVersion_36 : decode b_G_decodeVersion 36 = .ok (.invokevirtual 136, 3) := by decide +kernel
theorem d_G_decodeVersion_39 : decode b_G_decodeVersion 39 = .ok (.ifCond .eq 39, 3) := by decide +kernel
theorem d_G_decodeVersion_42 : decode b_G_decodeVersion 42 = .ok (.aload_n 0, 1) := by decide +kernel
theorem d_G_decodeVersion_43 : decode b_G_decodeVersion 43 = .ok (.getfield 46, 3) := by decide +kernel
theorem d_G_decodeVersion_46 : decode b_G_decodeVersion 46 = .ok (.getfield 184, 3) := by decide +kernel
theorem d_G_decodeVersion_49 : decode b_G_decodeVersion 49 = .ok (.iload_n 3, 1) := by decide +kernel
theorem d_G_decodeVersion_50 : decode b_G_decodeVersion 50 = .ok (.iload 4, 2) := by decide +kernel
theorem d_G_decodeVersion_52 : decode b_G_decodeVersion 52 = .ok (.invokestatic 187, 3) := by decide +kernel
theorem d_G_decodeVersion_55 : decode b_G_decodeVersion 55 = .ok (.iastore, 1) := by decide +kernel
theorem d_G_decodeVersion_56 : decode b_G_decodeVersion 56 = .ok (.aload_n 0, 1) := by decide +kernel
theorem d_G_decodeVersion_57 : decode b_G_decodeVersion 57 = .ok (.getfield 46, 3) := by decide +kernel
theorem d_G_decodeVersion_60 : decode b_G_decodeVersion 60 = .ok (.getfield 91, 3) := by decide +kernel
theorem d_G_decodeVersion_63 : decode b_G_decodeVersion 63 = .ok (.iload_n 3, 1) := by decide +kernel
theorem d_G_decodeVersion_64 : decode b_G_decodeVersion 64 = .ok (.aload_n 1, 1) := by decide +kernel
theorem d_G_decodeVersion_65 : decode b_G_decodeVersion 65 = .ok (.getfield 128, 3) := by decide +kernel
theorem d_G_decodeVersion_68 : decode b_G_decodeVersion 68 = .ok (.iload 4, 2) := by decide +kernel
theorem d_G_decodeVersion_70 : decode b_G_decodeVersion 70 = .ok (.aaload, 1) := by decide +kernel
theorem d_G_decodeVersion_71 : decode b_G_decodeVersion 71 = .ok (.getfield 149, 3) := by decide +kernel
theorem d_G_decodeVersion_74 : decode b_G_decodeVersion 74 = .ok (.iastore, 1) := by decide +kernel
theorem d_G_decodeVersion_75 : decode b_G_decodeVersion 75 = .ok (.iinc 3 1, 3) := by decide +kernel
theorem d_G_decodeVersion_78 : decode b_G_decodeVersion 78 = .ok (.iinc 4 1, 3) := by decide +kernel
theorem d_G_decodeVersion_81 : decode b_G_decodeVersion 81 = .ok (.goto (-76), 3) := by decide +kernel
theorem d_G_decodeVersion_84 : decode b_G_decodeVersion 84 = .ok (.aload_n 0, 1) := by decide +kernel
theorem d_G_decodeVersion_85 : decode b_G_decodeVersion 85 = .ok (.getfield 46, 3) := by decide +kernel
theorem d_G_decodeVersion_88 : decode b_G_decodeVersion 88 = .ok (.invokevirtual 190, 3) := by decide +kernel
theorem d_G_decodeVersion_91 : decode b_G_decodeVersion 91 = .ok (.aload_n 0, 1) := by decide +kernel
theorem d_G_decodeVersion_92 : decode b_G_decodeVersion 92 = .ok (.getfield 46, 3) := by decide +kernel
theorem d_G_decodeVersion_95 : decode b_G_decodeVersion 95 = .ok (.getfield 184, 3) := by decide +kernel
theorem d_G_decodeVersion_98 : decode b_G_decodeVersion 98 = .ok (.iconst 0, 1) := by decide +kernel
theorem d_G_decodeVersion_99 : decode b_G_decodeVersion 99 = .ok (.iaload, 1) := by decide +kernel
theorem d_G_decodeVersion_100 : decode b_G_decodeVersion 100 = .ok (.invokestatic 193, 3) := by decide +kernel
theorem d_G_decodeVersion_103 : decode b_G_decodeVersion 103 = .ok (.ireturn, 1) := by decide +kernel
theorem d_G_makeFreshRecord_0 : decode b_G_makeFreshRecord 0 = .ok (.aload_n 0, 1) := by decide +kernel
theorem d_G_makeFreshRecord_1 : decode b_G_makeFreshRecord 1 = .ok (.getfield 53, 3) := by decide +kernel
theorem d_G_makeFreshRecord_4 : decode b_G_makeFreshRecord 4 = .ok (.iload_n 1, 1) := by decide +kernel
theorem d_G_makeFreshRecord_5 : decode b_G_makeFreshRecord 5 = .ok (.putfield 152, 3) := by decide +kernel
theorem d_G_makeFreshRecord_8 : decode b_G_makeFreshRecord 8 = .ok (.iconst 0, 1) := by decide +kernel
theorem d_G_makeFreshRecord_9 : decode b_G_makeFreshRecord 9 = .ok (.istore_n 3, 1) := by decide +kernel
theorem d_G_makeFreshRecord_10 : decode b_G_makeFreshRecord 10 = .ok (.iload_n 3, 1) := by decide +kernel
theorem d_G_makeFreshRecord_11 : decode b_G_makeFreshRecord 11 = .ok (.aload_n 0, 1) := by decide +kernel
theorem d_G_makeFreshRecord_12 : decode b_G_makeFreshRecord 12 = .ok (.getfield 17, 3) := by decide +kernel
theorem d_G_makeFreshRecord_15 : decode b_G_makeFreshRecord 15 = .ok (.if_icmp .ge 30, 3) := by decide +kernel
theorem d_G_makeFreshRecord_18 : decode b_G_makeFreshRecord 18 = .ok (.aload_n 0, 1) := by decide +kernel
theorem d_G_makeFreshRecord_19 : decode b_G_makeFreshRecord 19 = .ok (.getfield 53, 3) := by decide +kernel
theorem d_G_makeFreshRecord_22 : decode b_G_makeFreshRecord 22 = .ok (.getfield 155, 3) := by decide +kernel
theorem d_G_makeFreshRecord_25 : decode b_G_makeFreshRecord 25 = .ok (.iload_n 3, 1) := by decide +kernel
theorem d_G_makeFreshRecord_26 : decode b_G_makeFreshRecord 26 = .ok (.aload_n 0, 1) := by decide +kernel
theorem d_G_makeFreshRecord_27 : decode b_G_makeFreshRecord 27 = .ok (.getfield 46, 3) := by decide +kernel
theorem d_G_makeFreshRecord_30 : decode b_G_makeFreshRecord 30 = .ok (.iload_n 3, 1) := by decide +kernel
theorem d_G_makeFreshRecord_31 : decode b_G_makeFreshRecord 31 = .ok (.invokevirtual 196, 3) := by decide +kernel
theorem d_G_makeFreshRecord_34 : decode b_G_makeFreshRecord 34 = .ok (.iload_n 3, 1) := by decide +kernel
theorem d_G_makeFreshRecord_35 : decode b_G_makeFreshRecord 35 = .ok (.invokestatic 199, 3) := by decide +kernel
theorem d_G_makeFreshRecord_38 : decode b_G_makeFreshRecord 38 = .ok (.iastore, 1) := by decide +kernel
theorem d_G_makeFreshRecord_39 : decode b_G_makeFreshRecord 39 = .ok (.iinc 3 1, 3) := by decide +kernel
theorem d_G_makeFreshRecord_42 : decode b_G_makeFreshRecord 42 = .ok (.goto (-32), 3) := by decide +kernel
theorem d_G_makeFreshRecord_45 : decode b_G_makeFreshRecord 45 = .ok (.aload_n 0, 1) := by decide +kernel
theorem d_G_makeFreshRecord_46 : decode b_G_makeFreshRecord 46 = .ok (.getfield 53, 3) := by decide +kernel
theorem d_G_makeFreshRecord_49 : decode b_G_makeFreshRecord 49 = .ok (.invokevirtual 202, 3) := by decide +kernel
theorem d_G_makeFreshRecord_52 : decode b_G_makeFreshRecord 52 = .ok (.istore_n 3, 1) := by decide +kernel
theorem d_G_makeFreshRecord_53 : decode b_G_makeFreshRecord 53 = .ok (.aload_n 0, 1) := by decide +kernel
theorem d_G_makeFreshRecord_54 : decode b_G_makeFreshRecord 54 = .ok (.getfield 53, 3) := by decide +kernel
theorem d_G_makeFreshRecord_57 : decode b_G_makeFreshRecord 57 = .ok (.iload_n 3, 1) := by decide +kernel
theorem d_G_makeFreshRecord_58 : decode b_G_makeFreshRecord 58 = .ok (.iload_n 2, 1) := by decide +kernel
theorem d_G_makeFreshRecord_59 : decode b_G_makeFreshRecord 59 = .ok (.invokestatic 205, 3) := by decide +kernel
theorem d_G_makeFreshRecord_62 : decode b_G_makeFreshRecord 62 = .ok (.iload_n 2, 1) := by decide +kernel
theorem d_G_makeFreshRecord_63 : decode b_G_makeFreshRecord 63 = .ok (.ixor, 1) := by decide +kernel
theorem d_G_makeFreshRecord_64 : decode b_G_makeFreshRecord 64 = .ok (.putfield 101, 3) := by decide +kernel
theorem d_G_makeFreshRecord_67 : decode b_G_makeFreshRecord 67 = .ok (.aload_n 0, 1) := by decide +kernel
theorem d_G_makeFreshRecord_68 : decode b_G_makeFreshRecord 68 = .ok (.getfield 53, 3) := by decide +kernel
theorem d_G_makeFreshRecord_71 : decode b_G_makeFreshRecord 71 = .ok (.iconst 1, 1) := by decide +kernel
theorem d_G_makeFreshRecord_72 : decode b_G_makeFreshRecord 72 = .ok (.putfield 146, 3) := by decide +kernel
theorem d_G_makeFreshRecord_75 : decode b_G_makeFreshRecord 75 = .ok (.iload_n 3, 1) := by decide +kernel
theorem d_G_makeFreshRecord_76 : decode b_G_makeFreshRecord 76 = .ok (.ireturn, 1) := by decide +kernel
theorem d_G_giveFreshRecord_0 : decode b_G_giveFreshRecord 0 = .ok (.aload_n 0, 1) := by decide +kernel
theorem d_G_giveFreshRecord_1 : decode b_G_giveFreshRecord 1 = .ok (.getfield 53, 3) := by decide +kernel
theorem d_G_giveFreshRecord_4 : decode b_G_giveFreshRecord 4 = .ok (.aload_n 0, 1) := by decide +kernel
theorem d_G_giveFreshRecord_5 : decode b_G_giveFreshRecord 5 = .ok (.getfield 46, 3) := by decide +kernel
theorem d_G_giveFreshRecord_8 : decode b_G_giveFreshRecord 8 = .ok (.iload_n 2, 1) := by decide +kernel
theorem d_G_giveFreshRecord_9 : decode b_G_giveFreshRecord 9 = .ok (.invokevirtual 196, 3) := by decide +kernel
theorem d_G_giveFreshRecord_12 : decode b_G_giveFreshRecord 12 = .ok (.putfield 149, 3) := by decide +kernel
theorem d_G_giveFreshRecord_15 : decode b_G_giveFreshRecord 15 = .ok (.aload_n 1, 1) := by decide +kernel
theorem d_G_giveFreshRecord_16 : decode b_G_giveFreshRecord 16 = .ok (.getfield 128, 3) := by decide +kernel
theorem d_G_giveFreshRecord_19 : decode b_G_giveFreshRecord 19 = .ok (.iload_n 2, 1) := by decide +kernel
theorem d_G_giveFreshRecord_20 : decode b_G_giveFreshRecord 20 = .ok (.aaload, 1) := by decide +kernel
theorem d_G_giveFreshRecord_21 : decode b_G_giveFreshRecord 21 = .ok (.aload_n 0, 1) := by decide +kernel
theorem d_G_giveFreshRecord_22 : decode b_G_giveFreshRecord 22 = .ok (.getfield 53, 3) := by decide +kernel
theorem d_G_giveFreshRecord_25 : decode b_G_giveFreshRecord 25 = .ok (.invokevirtual 132, 3) := by decide +kernel
theorem d_G_giveFreshRecord_28 : decode b_G_giveFreshRecord 28 = .ok (.return_, 1) := by decide +kernel
theorem d_G_mix_0 : decode b_G_mix 0 = .ok (.iload_n 0, 1) := by decide +kernel
theorem d_G_mix_1 : decode b_G_mix 1 = .ok (.iload_n 1, 1) := by decide +kernel
theorem d_G_mix_2 : decode b_G_mix 2 = .ok (.ldc 208, 2) := by decide +kernel
theorem d_G_mix_4 : decode b_G_mix 4 = .ok (.imul, 1) := by decide +kernel
theorem d_G_mix_5 : decode b_G_mix 5 = .ok (.sipush 12345, 3) := by decide +kernel
theorem d_G_mix_8 : decode b_G_mix 8 = .ok (.iadd, 1) := by decide +kernel
theorem d_G_mix_9 : decode b_G_mix 9 = .ok (.ixor, 1) := by decide +kernel
theorem d_G_mix_10 : decode b_G_mix 10 = .ok (.ldc 209, 2) := by decide +kernel
theorem d_G_mix_12 : decode b_G_mix 12 = .ok (.imul, 1) := by decide +kernel
theorem d_G_mix_13 : decode b_G_mix 13 = .ok (.istore_n 2, 1) := by decide +kernel
theorem d_G_mix_14 : decode b_G_mix 14 = .ok (.iload_n 2, 1) := by decide +kernel
theorem d_G_mix_15 : decode b_G_mix 15 = .ok (.iload_n 2, 1) := by decide +kernel
theorem d_G_mix_16 : decode b_G_mix 16 = .ok (.bipush 15, 2) := by decide +kernel
theorem d_G_mix_18 : decode b_G_mix 18 = .ok (.iushr, 1) := by decide +kernel
theorem d_G_mix_19 : decode b_G_mix 19 = .ok (.ixor, 1) := by decide +kernel
theorem d_G_mix_20 : decode b_G_mix 20 = .ok (.ireturn, 1) := by decide +kernel
theorem d_G_readKeyOf_0 : decode b_G_readKeyOf 0 = .ok (.iload_n 0, 1) := by decide +kernel
theorem d_G_readKeyOf_1 : decode b_G_readKeyOf 1 = .ok (.iconst 1, 1) := by decide +kernel
theorem d_G_readKeyOf_2 : decode b_G_readKeyOf 2 = .ok (.invokestatic 205, 3) := by decide +kernel
theorem d_G_readKeyOf_5 : decode b_G_readKeyOf 5 = .ok (.ireturn, 1) := by decide +kernel
theorem d_G_verifyKeyOf_0 : decode b_G_verifyKeyOf 0 = .ok (.iload_n 0, 1) := by decide +kernel
theorem d_G_verifyKeyOf_1 : decode b_G_verifyKeyOf 1 = .ok (.iconst 2, 1) := by decide +kernel
theorem d_G_verifyKeyOf_2 : decode b_G_verifyKeyOf 2 = .ok (.invokestatic 205, 3) := by decide +kernel
theorem d_G_verifyKeyOf_5 : decode b_G_verifyKeyOf 5 = .ok (.ireturn, 1) := by decide +kernel
theorem d_G_cipherMask_0 : decode b_G_cipherMask 0 = .ok (.iload_n 0, 1) := by decide +kernel
theorem d_G_cipherMask_1 : decode b_G_cipherMask 1 = .ok (.iload_n 1, 1) := by decide +kernel
theorem d_G_cipherMask_2 : decode b_G_cipherMask 2 = .ok (.bipush 8, 2) := by decide +kernel
theorem d_G_cipherMask_4 : decode b_G_cipherMask 4 = .ok (.imul, 1) := by decide +kernel
theorem d_G_cipherMask_5 : decode b_G_cipherMask 5 = .ok (.iload_n 2, 1) := by decide +kernel
theorem d_G_cipherMask_6 : decode b_G_cipherMask 6 = .ok (.iadd, 1) := by decide +kernel
theorem d_G_cipherMask_7 : decode b_G_cipherMask 7 = .ok (.invokestatic 205, 3) := by decide +kernel
theorem d_G_cipherMask_10 : decode b_G_cipherMask 10 = .ok (.ireturn, 1) := by decide +kernel
theorem d_G_fingerprint_0 : decode b_G_fingerprint 0 = .ok (.iload_n 0, 1) := by decide +kernel
theorem d_G_fingerprint_1 : decode b_G_fingerprint 1 = .ok (.iload_n 1, 1) := by decide +kernel
theorem d_G_fingerprint_2 : decode b_G_fingerprint 2 = .ok (.bipush 100, 2) := by decide +kernel
theorem d_G_fingerprint_4 : decode b_G_fingerprint 4 = .ok (.iadd, 1) := by decide +kernel
theorem d_G_fingerprint_5 : decode b_G_fingerprint 5 = .ok (.invokestatic 205, 3) := by decide +kernel
theorem d_G_fingerprint_8 : decode b_G_fingerprint 8 = .ok (.ireturn, 1) := by decide +kernel
theorem d_G_pointOf_0 : decode b_G_pointOf 0 = .ok (.iload_n 0, 1) := by decide +kernel
theorem d_G_pointOf_1 : decode b_G_pointOf 1 = .ok (.iconst 1, 1) := by decide +kernel
theorem d_G_pointOf_2 : decode b_G_pointOf 2 = .ok (.iadd, 1) := by decide +kernel
theorem d_G_pointOf_3 : decode b_G_pointOf 3 = .ok (.ireturn, 1) := by decide +kernel
theorem d_G_placeOf_0 : decode b_G_placeOf 0 = .ok (.iload_n 0, 1) := by decide +kernel
theorem d_G_placeOf_1 : decode b_G_placeOf 1 = .ok (.iconst 1, 1) := by decide +kernel
theorem d_G_placeOf_2 : decode b_G_placeOf 2 = .ok (.isub, 1) := by decide +kernel
theorem d_G_placeOf_3 : decode b_G_placeOf 3 = .ok (.ireturn, 1) := by decide +kernel
theorem d_G_scaled_0 : decode b_G_scaled 0 = .ok (.iconst 0, 1) := by decide +kernel
theorem d_G_scaled_1 : decode b_G_scaled 1 = .ok (.istore_n 2, 1) := by decide +kernel
theorem d_G_scaled_2 : decode b_G_scaled 2 = .ok (.iload_n 0, 1) := by decide +kernel
theorem d_G_scaled_3 : decode b_G_scaled 3 = .ok (.istore_n 3, 1) := by decide +kernel
theorem d_G_scaled_4 : decode b_G_scaled 4 = .ok (.iconst 0, 1) := by decide +kernel
theorem d_G_scaled_5 : decode b_G_scaled 5 = .ok (.istore 4, 2) := by decide +kernel
theorem d_G_scaled_7 : decode b_G_scaled 7 = .ok (.iload 4, 2) := by decide +kernel
theorem d_G_scaled_9 : decode b_G_scaled 9 = .ok (.bipush 8, 2) := by decide +kernel
theorem d_G_scaled_11 : decode b_G_scaled 11 = .ok (.if_icmp .ge 27, 3) := by decide +kernel
theorem d_G_scaled_14 : decode b_G_scaled 14 = .ok (.iload_n 1, 1) := by decide +kernel
theorem d_G_scaled_15 : decode b_G_scaled 15 = .ok (.iload 4, 2) := by decide +kernel
theorem d_G_scaled_17 : decode b_G_scaled 17 = .ok (.iushr, 1) := by decide +kernel
theorem d_G_scaled_18 : decode b_G_scaled 18 = .ok (.iconst 1, 1) := by decide +kernel
theorem d_G_scaled_19 : decode b_G_scaled 19 = .ok (.iand, 1) := by decide +kernel
theorem d_G_scaled_20 : decode b_G_scaled 20 = .ok (.ifCond .eq 7, 3) := by decide +kernel
theorem d_G_scaled_23 : decode b_G_scaled 23 = .ok (.iload_n 2, 1) := by decide +kernel
theorem d_G_scaled_24 : decode b_G_scaled 24 = .ok (.iload_n 3, 1) := by decide +kernel
theorem d_G_scaled_25 : decode b_G_scaled 25 = .ok (.ixor, 1) := by decide +kernel
theorem d_G_scaled_26 : decode b_G_scaled 26 = .ok (.istore_n 2, 1) := by decide +kernel
theorem d_G_scaled_27 : decode b_G_scaled 27 = .ok (.iload_n 3, 1) := by decide +kernel
theorem d_G_scaled_28 : decode b_G_scaled 28 = .ok (.invokestatic 210, 3) := by decide +kernel
theorem d_G_scaled_31 : decode b_G_scaled 31 = .ok (.istore_n 3, 1) := by decide +kernel
theorem d_G_scaled_32 : decode b_G_scaled 32 = .ok (.iinc 4 1, 3) := by decide +kernel
theorem d_G_scaled_35 : decode b_G_scaled 35 = .ok (.goto (-28), 3) := by decide +kernel
theorem d_G_scaled_38 : decode b_G_scaled 38 = .ok (.iload_n 2, 1) := by decide +kernel
theorem d_G_scaled_39 : decode b_G_scaled 39 = .ok (.ireturn, 1) := by decide +kernel
theorem d_G_timesX_0 : decode b_G_timesX 0 = .ok (.iload_n 0, 1) := by decide +kernel
theorem d_G_timesX_1 : decode b_G_timesX 1 = .ok (.bipush 7, 2) := by decide +kernel
theorem d_G_timesX_3 : decode b_G_timesX 3 = .ok (.iushr, 1) := by decide +kernel
theorem d_G_timesX_4 : decode b_G_timesX 4 = .ok (.ldc 213, 2) := by decide +kernel
theorem d_G_timesX_6 : decode b_G_timesX 6 = .ok (.iand, 1) := by decide +kernel
theorem d_G_timesX_7 : decode b_G_timesX 7 = .ok (.istore_n 1, 1) := by decide +kernel
theorem d_G_timesX_8 : decode b_G_timesX 8 = .ok (.iload_n 0, 1) := by decide +kernel
theorem d_G_timesX_9 : decode b_G_timesX 9 = .ok (.ldc 214, 2) := by decide +kernel
theorem d_G_timesX_11 : decode b_G_timesX 11 = .ok (.iand, 1) := by decide +kernel
theorem d_G_timesX_12 : decode b_G_timesX 12 = .ok (.iconst 1, 1) := by decide +kernel
theorem d_G_timesX_13 : decode b_G_timesX 13 = .ok (.ishl, 1) := by decide +kernel
theorem d_G_timesX_14 : decode b_G_timesX 14 = .ok (.iload_n 1, 1) := by decide +kernel
theorem d_G_timesX_15 : decode b_G_timesX 15 = .ok (.bipush 29, 2) := by decide +kernel
theorem d_G_timesX_17 : decode b_G_timesX 17 = .ok (.imul, 1) := by decide +kernel
theorem d_G_timesX_18 : decode b_G_timesX 18 = .ok (.ixor, 1) := by decide +kernel
theorem d_G_timesX_19 : decode b_G_timesX 19 = .ok (.ireturn, 1) := by decide +kernel
theorem d_G_inverse_0 : decode b_G_inverse 0 = .ok (.iconst 1, 1) := by decide +kernel
theorem d_G_inverse_1 : decode b_G_inverse 1 = .ok (.istore_n 1, 1) := by decide +kernel
theorem d_G_inverse_2 : decode b_G_inverse 2 = .ok (.iload_n 0, 1) := by decide +kernel
theorem d_G_inverse_3 : decode b_G_inverse 3 = .ok (.istore_n 2, 1) := by decide +kernel
theorem d_G_inverse_4 : decode b_G_inverse 4 = .ok (.iconst 1, 1) := by decide +kernel
theorem d_G_inverse_5 : decode b_G_inverse 5 = .ok (.istore_n 3, 1) := by decide +kernel
theorem d_G_inverse_6 : decode b_G_inverse 6 = .ok (.iload_n 3, 1) := by decide +kernel
theorem d_G_inverse_7 : decode b_G_inverse 7 = .ok (.bipush 8, 2) := by decide +kernel
theorem d_G_inverse_9 : decode b_G_inverse 9 = .ok (.if_icmp .ge 21, 3) := by decide +kernel
theorem d_G_inverse_12 : decode b_G_inverse 12 = .ok (.iload_n 2, 1) := by decide +kernel
theorem d_G_inverse_13 : decode b_G_inverse 13 = .ok (.iload_n 2, 1) := by decide +kernel
theorem d_G_inverse_14 : decode b_G_inverse 14 = .ok (.invokestatic 164, 3) := by decide +kernel
theorem d_G_inverse_17 : decode b_G_inverse 17 = .ok (.istore_n 2, 1) := by decide +kernel
theorem d_G_inverse_18 : decode b_G_inverse 18 = .ok (.iload_n 1, 1) := by decide +kernel
theorem d_G_inverse_19 : decode b_G_inverse 19 = .ok (.iload_n 2, 1) := by decide +kernel
theorem d_G_inverse_20 : decode b_G_inverse 20 = .ok (.invokestatic 164, 3) := by decide +kernel
theorem d_G_inverse_23 : decode b_G_inverse 23 = .ok (.istore_n 1, 1) := by decide +kernel
theorem d_G_inverse_24 : decode b_G_inverse 24 = .ok (.iinc 3 1, 3) := by decide +kernel
theorem d_G_inverse_27 : decode b_G_inverse 27 = .ok (.goto (-21), 3) := by decide +kernel
theorem d_G_inverse_30 : decode b_G_inverse 30 = .ok (.iload_n 1, 1) := by decide +kernel
theorem d_G_inverse_31 : decode b_G_inverse 31 = .ok (.ireturn, 1) := by decide +kernel
