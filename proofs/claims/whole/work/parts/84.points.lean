theorem mt_Md_hash : am_MT[154]? = some m_Md_hash := rfl
theorem c_Md_hash_0 : c_Md_hash[0]? = some (0, 2, .bipush 7, 0, 0, 0, 0, 0, []) := Eq.trans rfl rfl
theorem c_Md_hash_1 : c_Md_hash[1]? = some (2, 1, .istore_n 1, 1, 0, 0, 0, 0, []) := Eq.trans rfl rfl
theorem c_Md_hash_2 : c_Md_hash[2]? = some (3, 1, .iconst 0, 0, 0, 0, 0, 0, []) := Eq.trans rfl rfl
theorem c_Md_hash_3 : c_Md_hash[3]? = some (4, 1, .istore_n 2, 2, 0, 0, 0, 0, []) := Eq.trans rfl rfl
theorem c_Md_hash_4 : c_Md_hash[4]? = some (5, 1, .iload_n 2, 2, 0, 0, 0, 0, []) := Eq.trans rfl rfl
theorem c_Md_hash_5 : c_Md_hash[5]? = some (6, 2, .bipush 66, 0, 0, 0, 0, 0, []) := Eq.trans rfl rfl
theorem c_Md_hash_6 : c_Md_hash[6]? = some (8, 3, .if_icmp .ge 21, 18, 0, 0, 0, 0, []) := Eq.trans rfl rfl
theorem c_Md_hash_7 : c_Md_hash[7]? = some (11, 1, .iload_n 1, 1, 0, 0, 0, 0, []) := Eq.trans rfl rfl
theorem c_Md_hash_8 : c_Md_hash[8]? = some (12, 2, .bipush 31, 0, 0, 0, 0, 0, []) := Eq.trans rfl rfl
theorem c_Md_hash_9 : c_Md_hash[9]? = some (14, 1, .imul, 0, 0, 0, 0, 0, []) := Eq.trans rfl rfl
theorem c_Md_hash_10 : c_Md_hash[10]? = some (15, 1, .aload_n 0, 0, 0, 0, 0, 0, []) := Eq.trans rfl rfl
theorem c_Md_hash_11 : c_Md_hash[11]? = some (16, 3, .getfield 47, 8, 14, 0, 0, 771, []) := Eq.trans rfl rfl
theorem c_Md_hash_12 : c_Md_hash[12]? = some (19, 1, .iload_n 2, 2, 0, 0, 0, 0, []) := Eq.trans rfl rfl
theorem c_Md_hash_13 : c_Md_hash[13]? = some (20, 1, .iaload, 0, 0, 0, 0, 0, []) := Eq.trans rfl rfl
theorem c_Md_hash_14 : c_Md_hash[14]? = some (21, 1, .iadd, 0, 0, 0, 0, 0, []) := Eq.trans rfl rfl
theorem c_Md_hash_15 : c_Md_hash[15]? = some (22, 1, .istore_n 1, 1, 0, 0, 0, 0, []) := Eq.trans rfl rfl
theorem c_Md_hash_16 : c_Md_hash[16]? = some (23, 3, .iinc 2 1, 0, 0, 0, 0, 0, []) := Eq.trans rfl rfl
theorem c_Md_hash_17 : c_Md_hash[17]? = some (26, 3, .goto (-21), 4, 0, 0, 0, 0, []) := Eq.trans rfl rfl
theorem c_Md_hash_18 : c_Md_hash[18]? = some (29, 1, .iload_n 1, 1, 0, 0, 0, 0, []) := Eq.trans rfl rfl
theorem c_Md_hash_19 : c_Md_hash[19]? = some (30, 1, .iconst 5, 0, 0, 0, 0, 0, []) := Eq.trans rfl rfl
theorem c_Md_hash_20 : c_Md_hash[20]? = some (31, 1, .iushr, 0, 0, 0, 0, 0, []) := Eq.trans rfl rfl
theorem c_Md_hash_21 : c_Md_hash[21]? = some (32, 1, .iload_n 1, 1, 0, 0, 0, 0, []) := Eq.trans rfl rfl
theorem c_Md_hash_22 : c_Md_hash[22]? = some (33, 1, .ixor, 0, 0, 0, 0, 0, []) := Eq.trans rfl rfl
theorem c_Md_hash_23 : c_Md_hash[23]? = some (34, 3, .sipush 4095, 0, 0, 0, 0, 0, []) := Eq.trans rfl rfl
theorem c_Md_hash_24 : c_Md_hash[24]? = some (37, 1, .iand, 0, 0, 0, 0, 0, []) := Eq.trans rfl rfl
theorem c_Md_hash_25 : c_Md_hash[25]? = some (38, 1, .ireturn, 0, 0, 0, 0, 0, []) := Eq.trans rfl rfl
theorem mt_Md_met : am_MT[159]? = some m_Md_met := rfl
theorem c_Md_met_0 : c_Md_met[0]? = some (0, 1, .aload_n 0, 0, 0, 0, 0, 0, []) := Eq.trans rfl rfl
theorem c_Md_met_1 : c_Md_met[1]? = some (1, 3, .getfield 78, 8, 29, 0, 0, 786, []) := Eq.trans rfl rfl
theorem c_Md_met_2 : c_Md_met[2]? = some (4, 1, .iload_n 1, 1, 0, 0, 0, 0, []) := Eq.trans rfl rfl
theorem c_Md_met_3 : c_Md_met[3]? = some (5, 1, .iaload, 0, 0, 0, 0, 0, []) := Eq.trans rfl rfl
theorem c_Md_met_4 : c_Md_met[4]? = some (6, 1, .istore_n 2, 2, 0, 0, 0, 0, []) := Eq.trans rfl rfl
theorem c_Md_met_5 : c_Md_met[5]? = some (7, 1, .iload_n 2, 2, 0, 0, 0, 0, []) := Eq.trans rfl rfl
theorem c_Md_met_6 : c_Md_met[6]? = some (8, 1, .iconst (-1), 0, 0, 0, 0, 0, []) := Eq.trans rfl rfl
theorem c_Md_met_7 : c_Md_met[7]? = some (9, 3, .if_icmp .eq 69, 46, 0, 0, 0, 0, []) := Eq.trans rfl rfl
theorem c_Md_met_8 : c_Md_met[8]? = some (12, 1, .iconst 1, 0, 0, 0, 0, 0, []) := Eq.trans rfl rfl
theorem c_Md_met_9 : c_Md_met[9]? = some (13, 1, .istore_n 3, 3, 0, 0, 0, 0, []) := Eq.trans rfl rfl
theorem c_Md_met_10 : c_Md_met[10]? = some (14, 1, .iconst 0, 0, 0, 0, 0, 0, []) := Eq.trans rfl rfl
theorem c_Md_met_11 : c_Md_met[11]? = some (15, 2, .istore 4, 4, 0, 0, 0, 0, []) := Eq.trans rfl rfl
theorem c_Md_met_12 : c_Md_met[12]? = some (17, 2, .iload 4, 4, 0, 0, 0, 0, []) := Eq.trans rfl rfl
theorem c_Md_met_13 : c_Md_met[13]? = some (19, 2, .bipush 66, 0, 0, 0, 0, 0, []) := Eq.trans rfl rfl
theorem c_Md_met_14 : c_Md_met[14]? = some (21, 3, .if_icmp .ge 41, 36, 0, 0, 0, 0, []) := Eq.trans rfl rfl
theorem c_Md_met_15 : c_Md_met[15]? = some (24, 1, .iload_n 3, 3, 0, 0, 0, 0, []) := Eq.trans rfl rfl
theorem c_Md_met_16 : c_Md_met[16]? = some (25, 3, .ifCond .eq 37, 36, 0, 0, 0, 0, []) := Eq.trans rfl rfl
theorem c_Md_met_17 : c_Md_met[17]? = some (28, 1, .aload_n 0, 0, 0, 0, 0, 0, []) := Eq.trans rfl rfl
theorem c_Md_met_18 : c_Md_met[18]? = some (29, 3, .getfield 66, 8, 25, 0, 0, 782, []) := Eq.trans rfl rfl
theorem c_Md_met_19 : c_Md_met[19]? = some (32, 2, .bipush 66, 0, 0, 0, 0, 0, []) := Eq.trans rfl rfl
theorem c_Md_met_20 : c_Md_met[20]? = some (34, 1, .iload_n 2, 2, 0, 0, 0, 0, []) := Eq.trans rfl rfl
theorem c_Md_met_21 : c_Md_met[21]? = some (35, 1, .imul, 0, 0, 0, 0, 0, []) := Eq.trans rfl rfl
theorem c_Md_met_22 : c_Md_met[22]? = some (36, 2, .iload 4, 4, 0, 0, 0, 0, []) := Eq.trans rfl rfl
theorem c_Md_met_23 : c_Md_met[23]? = some (38, 1, .iadd, 0, 0, 0, 0, 0, []) := Eq.trans rfl rfl
theorem c_Md_met_24 : c_Md_met[24]? = some (39, 1, .iaload, 0, 0, 0, 0, 0, []) := Eq.trans rfl rfl
theorem c_Md_met_25 : c_Md_met[25]? = some (40, 1, .aload_n 0, 0, 0, 0, 0, 0, []) := Eq.trans rfl rfl
theorem c_Md_met_26 : c_Md_met[26]? = some (41, 3, .getfield 47, 8, 14, 0, 0, 771, []) := Eq.trans rfl rfl
theorem c_Md_met_27 : c_Md_met[27]? = some (44, 2, .iload 4, 4, 0, 0, 0, 0, []) := Eq.trans rfl rfl
theorem c_Md_met_28 : c_Md_met[28]? = some (46, 1, .iaload, 0, 0, 0, 0, 0, []) := Eq.trans rfl rfl
theorem c_Md_met_29 : c_Md_met[29]? = some (47, 3, .if_icmp .ne 7, 32, 0, 0, 0, 0, []) := Eq.trans rfl rfl
theorem c_Md_met_30 : c_Md_met[30]? = some (50, 1, .iconst 1, 0, 0, 0, 0, 0, []) := Eq.trans rfl rfl
theorem c_Md_met_31 : c_Md_met[31]? = some (51, 3, .goto 4, 33, 0, 0, 0, 0, []) := Eq.trans rfl rfl
theorem c_Md_met_32 : c_Md_met[32]? = some (54, 1, .iconst 0, 0, 0, 0, 0, 0, []) := Eq.trans rfl rfl
theorem c_Md_met_33 : c_Md_met[33]? = some (55, 1, .istore_n 3, 3, 0, 0, 0, 0, []) := Eq.trans rfl rfl
theorem c_Md_met_34 : c_Md_met[34]? = some (56, 3, .iinc 4 1, 0, 0, 0, 0, 0, []) := Eq.trans rfl rfl
theorem c_Md_met_35 : c_Md_met[35]? = some (59, 3, .goto (-42), 12, 0, 0, 0, 0, []) := Eq.trans rfl rfl
theorem c_Md_met_36 : c_Md_met[36]? = some (62, 1, .iload_n 3, 3, 0, 0, 0, 0, []) := Eq.trans rfl rfl
theorem c_Md_met_37 : c_Md_met[37]? = some (63, 3, .ifCond .eq 5, 40, 0, 0, 0, 0, []) := Eq.trans rfl rfl
theorem c_Md_met_38 : c_Md_met[38]? = some (66, 1, .iload_n 2, 2, 0, 0, 0, 0, []) := Eq.trans rfl rfl
theorem c_Md_met_39 : c_Md_met[39]? = some (67, 1, .ireturn, 0, 0, 0, 0, 0, []) := Eq.trans rfl rfl
theorem c_Md_met_40 : c_Md_met[40]? = some (68, 1, .aload_n 0, 0, 0, 0, 0, 0, []) := Eq.trans rfl rfl
theorem c_Md_met_41 : c_Md_met[41]? = some (69, 3, .getfield 81, 8, 30, 0, 0, 787, []) := Eq.trans rfl rfl
theorem c_Md_met_42 : c_Md_met[42]? = some (72, 1, .iload_n 2, 2, 0, 0, 0, 0, []) := Eq.trans rfl rfl
theorem c_Md_met_43 : c_Md_met[43]? = some (73, 1, .iaload, 0, 0, 0, 0, 0, []) := Eq.trans rfl rfl
theorem c_Md_met_44 : c_Md_met[44]? = some (74, 1, .istore_n 2, 2, 0, 0, 0, 0, []) := Eq.trans rfl rfl
theorem c_Md_met_45 : c_Md_met[45]? = some (75, 3, .goto (-68), 5, 0, 0, 0, 0, []) := Eq.trans rfl rfl
theorem c_Md_met_46 : c_Md_met[46]? = some (78, 1, .iconst (-1), 0, 0, 0, 0, 0, []) := Eq.trans rfl rfl
theorem c_Md_met_47 : c_Md_met[47]? = some (79, 1, .ireturn, 0, 0, 0, 0, 0, []) := Eq.trans rfl rfl
theorem mt_Md_keep : am_MT[155]? = some m_Md_keep := rfl
theorem c_Md_keep_0 : c_Md_keep[0]? = some (0, 1, .aload_n 0, 0, 0, 0, 0, 0, []) := Eq.trans rfl rfl
theorem c_Md_keep_1 : c_Md_keep[1]? = some (1, 3, .getfield 209, 8, 24, 0, 0, 781, []) := Eq.trans rfl rfl
theorem c_Md_keep_2 : c_Md_keep[2]? = some (4, 2, .istore 4, 4, 0, 0, 0, 0, []) := Eq.trans rfl rfl
theorem c_Md_keep_3 : c_Md_keep[3]? = some (6, 1, .iconst 0, 0, 0, 0, 0, 0, []) := Eq.trans rfl rfl
theorem c_Md_keep_4 : c_Md_keep[4]? = some (7, 2, .istore 5, 5, 0, 0, 0, 0, []) := Eq.trans rfl rfl
theorem c_Md_keep_5 : c_Md_keep[5]? = some (9, 2, .iload 5, 5, 0, 0, 0, 0, []) := Eq.trans rfl rfl
theorem c_Md_keep_6 : c_Md_keep[6]? = some (11, 2, .bipush 66, 0, 0, 0, 0, 0, []) := Eq.trans rfl rfl
theorem c_Md_keep_7 : c_Md_keep[7]? = some (13, 3, .if_icmp .ge 29, 22, 0, 0, 0, 0, []) := Eq.trans rfl rfl
theorem c_Md_keep_8 : c_Md_keep[8]? = some (16, 1, .aload_n 0, 0, 0, 0, 0, 0, []) := Eq.trans rfl rfl
theorem c_Md_keep_9 : c_Md_keep[9]? = some (17, 3, .getfield 66, 8, 25, 0, 0, 782, []) := Eq.trans rfl rfl
theorem c_Md_keep_10 : c_Md_keep[10]? = some (20, 2, .bipush 66, 0, 0, 0, 0, 0, []) := Eq.trans rfl rfl
theorem c_Md_keep_11 : c_Md_keep[11]? = some (22, 2, .iload 4, 4, 0, 0, 0, 0, []) := Eq.trans rfl rfl
theorem c_Md_keep_12 : c_Md_keep[12]? = some (24, 1, .imul, 0, 0, 0, 0, 0, []) := Eq.trans rfl rfl
theorem c_Md_keep_13 : c_Md_keep[13]? = some (25, 2, .iload 5, 5, 0, 0, 0, 0, []) := Eq.trans rfl rfl
theorem c_Md_keep_14 : c_Md_keep[14]? = some (27, 1, .iadd, 0, 0, 0, 0, 0, []) := Eq.trans rfl rfl
theorem c_Md_keep_15 : c_Md_keep[15]? = some (28, 1, .aload_n 0, 0, 0, 0, 0, 0, []) := Eq.trans rfl rfl
theorem c_Md_keep_16 : c_Md_keep[16]? = some (29, 3, .getfield 47, 8, 14, 0, 0, 771, []) := Eq.trans rfl rfl
theorem c_Md_keep_17 : c_Md_keep[17]? = some (32, 2, .iload 5, 5, 0, 0, 0, 0, []) := Eq.trans rfl rfl
theorem c_Md_keep_18 : c_Md_keep[18]? = some (34, 1, .iaload, 0, 0, 0, 0, 0, []) := Eq.trans rfl rfl
theorem c_Md_keep_19 : c_Md_keep[19]? = some (35, 1, .iastore, 0, 0, 0, 0, 0, []) := Eq.trans rfl rfl
theorem c_Md_keep_20 : c_Md_keep[20]? = some (36, 3, .iinc 5 1, 0, 0, 0, 0, 0, []) := Eq.trans rfl rfl
theorem c_Md_keep_21 : c_Md_keep[21]? = some (39, 3, .goto (-30), 5, 0, 0, 0, 0, []) := Eq.trans rfl rfl
theorem c_Md_keep_22 : c_Md_keep[22]? = some (42, 1, .aload_n 0, 0, 0, 0, 0, 0, []) := Eq.trans rfl rfl
theorem c_Md_keep_23 : c_Md_keep[23]? = some (43, 3, .getfield 69, 8, 26, 0, 0, 783, []) := Eq.trans rfl rfl
theorem c_Md_keep_24 : c_Md_keep[24]? = some (46, 2, .iload 4, 4, 0, 0, 0, 0, []) := Eq.trans rfl rfl
theorem c_Md_keep_25 : c_Md_keep[25]? = some (48, 1, .iload_n 2, 2, 0, 0, 0, 0, []) := Eq.trans rfl rfl
theorem c_Md_keep_26 : c_Md_keep[26]? = some (49, 1, .iastore, 0, 0, 0, 0, 0, []) := Eq.trans rfl rfl
theorem c_Md_keep_27 : c_Md_keep[27]? = some (50, 1, .aload_n 0, 0, 0, 0, 0, 0, []) := Eq.trans rfl rfl
theorem c_Md_keep_28 : c_Md_keep[28]? = some (51, 3, .getfield 72, 8, 27, 0, 0, 784, []) := Eq.trans rfl rfl
theorem c_Md_keep_29 : c_Md_keep[29]? = some (54, 2, .iload 4, 4, 0, 0, 0, 0, []) := Eq.trans rfl rfl
theorem c_Md_keep_30 : c_Md_keep[30]? = some (56, 1, .iload_n 3, 3, 0, 0, 0, 0, []) := Eq.trans rfl rfl
theorem c_Md_keep_31 : c_Md_keep[31]? = some (57, 1, .iastore, 0, 0, 0, 0, 0, []) := Eq.trans rfl rfl
theorem c_Md_keep_32 : c_Md_keep[32]? = some (58, 1, .aload_n 0, 0, 0, 0, 0, 0, []) := Eq.trans rfl rfl
theorem c_Md_keep_33 : c_Md_keep[33]? = some (59, 3, .getfield 75, 8, 28, 0, 0, 785, []) := Eq.trans rfl rfl
theorem c_Md_keep_34 : c_Md_keep[34]? = some (62, 2, .iload 4, 4, 0, 0, 0, 0, []) := Eq.trans rfl rfl
theorem c_Md_keep_35 : c_Md_keep[35]? = some (64, 1, .iconst 0, 0, 0, 0, 0, 0, []) := Eq.trans rfl rfl
theorem c_Md_keep_36 : c_Md_keep[36]? = some (65, 1, .iastore, 0, 0, 0, 0, 0, []) := Eq.trans rfl rfl
theorem c_Md_keep_37 : c_Md_keep[37]? = some (66, 1, .aload_n 0, 0, 0, 0, 0, 0, []) := Eq.trans rfl rfl
theorem c_Md_keep_38 : c_Md_keep[38]? = some (67, 3, .getfield 81, 8, 30, 0, 0, 787, []) := Eq.trans rfl rfl
theorem c_Md_keep_39 : c_Md_keep[39]? = some (70, 2, .iload 4, 4, 0, 0, 0, 0, []) := Eq.trans rfl rfl
theorem c_Md_keep_40 : c_Md_keep[40]? = some (72, 1, .aload_n 0, 0, 0, 0, 0, 0, []) := Eq.trans rfl rfl
theorem c_Md_keep_41 : c_Md_keep[41]? = some (73, 3, .getfield 78, 8, 29, 0, 0, 786, []) := Eq.trans rfl rfl
theorem c_Md_keep_42 : c_Md_keep[42]? = some (76, 1, .iload_n 1, 1, 0, 0, 0, 0, []) := Eq.trans rfl rfl
theorem c_Md_keep_43 : c_Md_keep[43]? = some (77, 1, .iaload, 0, 0, 0, 0, 0, []) := Eq.trans rfl rfl
theorem c_Md_keep_44 : c_Md_keep[44]? = some (78, 1, .iastore, 0, 0, 0, 0, 0, []) := Eq.trans rfl rfl
theorem c_Md_keep_45 : c_Md_keep[45]? = some (79, 1, .aload_n 0, 0, 0, 0, 0, 0, []) := Eq.trans rfl rfl
theorem c_Md_keep_46 : c_Md_keep[46]? = some (80, 3, .getfield 78, 8, 29, 0, 0, 786, []) := Eq.trans rfl rfl
theorem c_Md_keep_47 : c_Md_keep[47]? = some (83, 1, .iload_n 1, 1, 0, 0, 0, 0, []) := Eq.trans rfl rfl
theorem c_Md_keep_48 : c_Md_keep[48]? = some (84, 2, .iload 4, 4, 0, 0, 0, 0, []) := Eq.trans rfl rfl
theorem c_Md_keep_49 : c_Md_keep[49]? = some (86, 1, .iastore, 0, 0, 0, 0, 0, []) := Eq.trans rfl rfl
theorem c_Md_keep_50 : c_Md_keep[50]? = some (87, 1, .aload_n 0, 0, 0, 0, 0, 0, []) := Eq.trans rfl rfl
theorem c_Md_keep_51 : c_Md_keep[51]? = some (88, 1, .dup, 0, 0, 0, 0, 0, []) := Eq.trans rfl rfl
theorem c_Md_keep_52 : c_Md_keep[52]? = some (89, 3, .getfield 209, 8, 24, 0, 0, 781, []) := Eq.trans rfl rfl
theorem c_Md_keep_53 : c_Md_keep[53]? = some (92, 1, .iconst 1, 0, 0, 0, 0, 0, []) := Eq.trans rfl rfl
theorem c_Md_keep_54 : c_Md_keep[54]? = some (93, 1, .iadd, 0, 0, 0, 0, 0, []) := Eq.trans rfl rfl
theorem c_Md_keep_55 : c_Md_keep[55]? = some (94, 3, .putfield 209, 8, 24, 0, 0, 781, []) := Eq.trans rfl rfl
theorem c_Md_keep_56 : c_Md_keep[56]? = some (97, 1, .return_, 0, 0, 0, 0, 0, []) := Eq.trans rfl rfl
theorem mt_Md_load : am_MT[156]? = some m_Md_load := rfl
theorem c_Md_load_0 : c_Md_load[0]? = some (0, 1, .iconst 0, 0, 0, 0, 0, 0, []) := Eq.trans rfl rfl
theorem c_Md_load_1 : c_Md_load[1]? = some (1, 1, .istore_n 2, 2, 0, 0, 0, 0, []) := Eq.trans rfl rfl
theorem c_Md_load_2 : c_Md_load[2]? = some (2, 1, .iload_n 2, 2, 0, 0, 0, 0, []) := Eq.trans rfl rfl
theorem c_Md_load_3 : c_Md_load[3]? = some (3, 2, .bipush 66, 0, 0, 0, 0, 0, []) := Eq.trans rfl rfl
theorem c_Md_load_4 : c_Md_load[4]? = some (5, 3, .if_icmp .ge 26, 19, 0, 0, 0, 0, []) := Eq.trans rfl rfl
theorem c_Md_load_5 : c_Md_load[5]? = some (8, 1, .aload_n 0, 0, 0, 0, 0, 0, []) := Eq.trans rfl rfl
theorem c_Md_load_6 : c_Md_load[6]? = some (9, 3, .getfield 47, 8, 14, 0, 0, 771, []) := Eq.trans rfl rfl
theorem c_Md_load_7 : c_Md_load[7]? = some (12, 1, .iload_n 2, 2, 0, 0, 0, 0, []) := Eq.trans rfl rfl
theorem c_Md_load_8 : c_Md_load[8]? = some (13, 1, .aload_n 0, 0, 0, 0, 0, 0, []) := Eq.trans rfl rfl
theorem c_Md_load_9 : c_Md_load[9]? = some (14, 3, .getfield 66, 8, 25, 0, 0, 782, []) := Eq.trans rfl rfl
theorem c_Md_load_10 : c_Md_load[10]? = some (17, 2, .bipush 66, 0, 0, 0, 0, 0, []) := Eq.trans rfl rfl
theorem c_Md_load_11 : c_Md_load[11]? = some (19, 1, .iload_n 1, 1, 0, 0, 0, 0, []) := Eq.trans rfl rfl
theorem c_Md_load_12 : c_Md_load[12]? = some (20, 1, .imul, 0, 0, 0, 0, 0, []) := Eq.trans rfl rfl
theorem c_Md_load_13 : c_Md_load[13]? = some (21, 1, .iload_n 2, 2, 0, 0, 0, 0, []) := Eq.trans rfl rfl
theorem c_Md_load_14 : c_Md_load[14]? = some (22, 1, .iadd, 0, 0, 0, 0, 0, []) := Eq.trans rfl rfl
theorem c_Md_load_15 : c_Md_load[15]? = some (23, 1, .iaload, 0, 0, 0, 0, 0, []) := Eq.trans rfl rfl
theorem c_Md_load_16 : c_Md_load[16]? = some (24, 1, .iastore, 0, 0, 0, 0, 0, []) := Eq.trans rfl rfl
theorem c_Md_load_17 : c_Md_load[17]? = some (25, 3, .iinc 2 1, 0, 0, 0, 0, 0, []) := Eq.trans rfl rfl
theorem c_Md_load_18 : c_Md_load[18]? = some (28, 3, .goto (-26), 2, 0, 0, 0, 0, []) := Eq.trans rfl rfl
theorem c_Md_load_19 : c_Md_load[19]? = some (31, 1, .return_, 0, 0, 0, 0, 0, []) := Eq.trans rfl rfl
/-! The reference's POINTS. -/
def hzz (s : Int → Int) : Nat → Int32
  | 0 => iI 7
  | k + 1 => hzz s k * iI 31 + iI (s k)
def hs4 (z : Int32) : Int32 := ((z.toUInt32 >>> ((iI 5).toUInt32 &&& Int32.toUInt32 31)).toInt32 ^^^ z) &&& iI 4095
def hsh (s : Int → Int) : Int := (hs4 (hzz s 66)).toInt
theorem and_rg (x : Int32) : 0 ≤ (x &&& iI 4095).toInt ∧ (x &&& iI 4095).toInt ≤ 4095 := by
  have e : (x &&& iI 4095).toBitVec.toNat ≤ 4095 := by
    rw [Int32.toBitVec_and, BitVec.toNat_and]
    have : (iI 4095).toBitVec.toNat = 4095 := by decide
    rw [this]
    exact Nat.and_le_right
  have e2 : (x &&& iI 4095).toInt = ((x &&& iI 4095).toBitVec.toNat : Int) := by
    show (x &&& iI 4095).toBitVec.toInt = _
    rw [BitVec.toInt_eq_toNat_cond, if_pos (by omega)]
  omega
theorem hsh_rg (s : Int → Int) : 0 ≤ hsh s ∧ hsh s ≤ 4095 := and_rg _
theorem hzz_congr {s u : Int → Int} : ∀ k : Nat, (∀ j : Int, 0 ≤ j ∧ j < k → s j = u j) → hzz s k = hzz u k := by
  intro k
  induction k with
  | zero => intro _; rfl
  | succ k ih =>
    intro h
    unfold hzz
    rw [ih (fun j hj => h j (by omega)), h k (by omega)]
theorem hsh_congr {s u : Int → Int} (h : ∀ j : Int, 0 ≤ j ∧ j < 66 → s j = u j) : hsh s = hsh u := by
  unfold hsh
  rw [hzz_congr 66 (fun j hj => h j (by omega))]
set_option maxHeartbeats 8000000 in
theorem lp_hash (d : Nat) (h : am_H) (o : Nat) (I : Nat → Int) (F : Nat → Int → Int) (H : md_at h o I F) : ∀ (n i : Nat), i + n = 66 → am_Go am_df am_MT d c_Md_hash (4, [(2, .int (iI (i : Int))), (1, .int (hzz (F 13) i)), (0, .ref o)], [], h) (fun r0 h' => r0 = some (.int (iI (hsh (F 13)))) ∧ h' = h) := by
  have H' := H
  obtain ⟨h0, hO, hA⟩ := H'
  intro n
  induction n with
  | zero =>
    intro i hi
    have e : i = 66 := by omega
    subst e
    have c : (66 : Int) ≤ ((66 : Nat) : Int) := by decide
    have ez : iI (hsh (F 13)) = hs4 (hzz (F 13) 66) := Int32.ofInt_toInt _
    rw [ez]
    unfold hs4
    generalize hzz (F 13) 66 = z
    refine am_go_of 20 [4] _ c_Md_hash_4 ?_
    simp (maxSteps := 2000000) (disch := omega) only [c_Md_hash_0, c_Md_hash_1, c_Md_hash_2, c_Md_hash_3, c_Md_hash_4, c_Md_hash_5, c_Md_hash_6, c_Md_hash_7, c_Md_hash_8, c_Md_hash_9, c_Md_hash_10, c_Md_hash_11, c_Md_hash_12, c_Md_hash_13, c_Md_hash_14, c_Md_hash_15, c_Md_hash_16, c_Md_hash_17, c_Md_hash_18, c_Md_hash_19, c_Md_hash_20, c_Md_hash_21, c_Md_hash_22, c_Md_hash_23, c_Md_hash_24, c_Md_hash_25, sx_aload_n, sx_bipush, sx_getfield, sx_goto, sx_iadd, sx_iaload, sx_iand, sx_iconst, sx_if_icmp_ge, sx_iinc, sx_iload_n, sx_imul, sx_ireturn, sx_istore_n, sx_iushr, sx_ixor, sx_sipush, sx_zreturn, am_W_s, am_W_0, am_mm_some, List.mem_cons, or_false, false_or, or_self, or_true, true_or, reduceIte, if_false, if_true, am_o_some, am_o_none, am_o_bad, am_o_good, am_ldi_hit, am_ldi_miss, am_lda_hit, am_lda_miss, am_ldl_hit, am_ldl_miss, am_inc_eq, am_inc_hit, am_inc_miss, am_ob_hit, am_fd_0, am_fd_s, am_ai_hit, am_ab_3, am_al_hit, am_aq_4, am_al0_hit, am_put_1, am_put_2, am_put_put, am_up_hit, am_up_miss, am_s1_eq, am_s2_eq, am_fl_nil, am_fl_hit, am_fl_int, am_fl_ref, am_fl_long, am_fl_longx, am_fl2_nil, am_fl2_hit, am_fl2_hit1, am_fl2_int, am_fl2_ref, am_fl2_long, List.not_mem_nil, not_false_eq_true, ne_eq, Nat.reduceAdd, Nat.reduceEqDiff, Nat.zero_add, Nat.add_left_cancel_iff, List.set_cons_zero, List.set_cons_succ, List.length_cons, List.length_nil, Nat.reduceLT, am_ft_i, am_ft_r, am_ft_z, and_true, true_and, Option.toList_some, Option.toList_none, List.cons_append, List.nil_append, List.drop_succ_cons, List.drop_zero, iI_c, iI_b, iI_s, iI_n, iI_add, iI_sub, iI_mul, iI_neg, iI_nle, iI_ix, iI_eq0, iI_eq1, iI_lt0, iI_0lt, iI_le0, iI_0le, iI_eq, iI_lt, iI_le, iI_upd, iI_updZ, Int.reduceEq, Int.reduceLT, Int.reduceLE, Int.reduceNeg, Int.reduceNe, c, md_fs_len, md_f0, md_f1, md_f2, md_f3, md_f4, md_f5, md_f6, md_f7, md_f8, md_f9, md_f10, md_f11, md_f12, md_f13, md_f14, md_f15, md_f16, md_f17, md_f18, md_f19, md_f20, md_f21, md_f22, md_f23, md_f24, md_f25, md_f26, md_f27, md_f28, md_f29, md_f30, md_f31, md_f32, md_f33, md_f34, md_f35, md_s0, md_s1, md_s15, md_s16, md_s17, md_s23, md_s24, md_s31, md_t1, md_t2, md_t3, md_t4, md_t5, md_t6, md_t7, md_t8, md_t9, md_t10, md_t11, md_t12, md_t13, md_t14, md_t15, md_t16, md_t17, md_t18, md_t19, md_t20, md_t21, md_t22, md_t23, md_t24, md_t25, md_t26, md_t27, md_t28, md_l1, md_l2, md_l3, md_l4, md_l5, md_l6, md_l7, md_l8, md_l9, md_l10, md_l11, md_l12, md_l13, md_l14, md_l15, md_l16, md_l17, md_l18, md_l19, md_l20, md_l21, md_l22, md_l23, md_l24, md_l25, md_l26, md_l27, md_l28]
    all_goals (first | rfl | trivial)
  | succ n ih =>
    intro i hi
    have c : ¬ (66 : Int) ≤ (i : Int) := by omega
    have g := ih (i + 1) (by omega)
    rw [show (((i + 1 : Nat)) : Int) = (i : Int) + 1 by omega, show hzz (F 13) (i + 1) = hzz (F 13) i * iI 31 + iI (F 13 i) from rfl] at g
    clear ih
    generalize hzz (F 13) i = z at *
    refine am_go_of 20 [4] _ c_Md_hash_4 ?_
    simp (maxSteps := 2000000) (disch := omega) only [c_Md_hash_0, c_Md_hash_1, c_Md_hash_2, c_Md_hash_3, c_Md_hash_4, c_Md_hash_5, c_Md_hash_6, c_Md_hash_7, c_Md_hash_8, c_Md_hash_9, c_Md_hash_10, c_Md_hash_11, c_Md_hash_12, c_Md_hash_13, c_Md_hash_14, c_Md_hash_15, c_Md_hash_16, c_Md_hash_17, c_Md_hash_18, c_Md_hash_19, c_Md_hash_20, c_Md_hash_21, c_Md_hash_22, c_Md_hash_23, c_Md_hash_24, c_Md_hash_25, sx_aload_n, sx_bipush, sx_getfield, sx_goto, sx_iadd, sx_iaload, sx_iand, sx_iconst, sx_if_icmp_ge, sx_iinc, sx_iload_n, sx_imul, sx_ireturn, sx_istore_n, sx_iushr, sx_ixor, sx_sipush, sx_zreturn, am_W_s, am_W_0, am_mm_some, List.mem_cons, or_false, false_or, or_self, or_true, true_or, reduceIte, if_false, if_true, am_o_some, am_o_none, am_o_bad, am_o_good, am_ldi_hit, am_ldi_miss, am_lda_hit, am_lda_miss, am_ldl_hit, am_ldl_miss, am_inc_eq, am_inc_hit, am_inc_miss, am_ob_hit, am_fd_0, am_fd_s, am_ai_hit, am_ab_3, am_al_hit, am_aq_4, am_al0_hit, am_put_1, am_put_2, am_put_put, am_up_hit, am_up_miss, am_s1_eq, am_s2_eq, am_fl_nil, am_fl_hit, am_fl_int, am_fl_ref, am_fl_long, am_fl_longx, am_fl2_nil, am_fl2_hit, am_fl2_hit1, am_fl2_int, am_fl2_ref, am_fl2_long, List.not_mem_nil, not_false_eq_true, ne_eq, Nat.reduceAdd, Nat.reduceEqDiff, Nat.zero_add, Nat.add_left_cancel_iff, List.set_cons_zero, List.set_cons_succ, List.length_cons, List.length_nil, Nat.reduceLT, am_ft_i, am_ft_r, am_ft_z, and_true, true_and, Option.toList_some, Option.toList_none, List.cons_append, List.nil_append, List.drop_succ_cons, List.drop_zero, iI_c, iI_b, iI_s, iI_n, iI_add, iI_sub, iI_mul, iI_neg, iI_nle, iI_ix, iI_eq0, iI_eq1, iI_lt0, iI_0lt, iI_le0, iI_0le, iI_eq, iI_lt, iI_le, iI_upd, iI_updZ, Int.reduceEq, Int.reduceLT, Int.reduceLE, Int.reduceNeg, Int.reduceNe, hO, hA, c, md_fs_len, md_f0, md_f1, md_f2, md_f3, md_f4, md_f5, md_f6, md_f7, md_f8, md_f9, md_f10, md_f11, md_f12, md_f13, md_f14, md_f15, md_f16, md_f17, md_f18, md_f19, md_f20, md_f21, md_f22, md_f23, md_f24, md_f25, md_f26, md_f27, md_f28, md_f29, md_f30, md_f31, md_f32, md_f33, md_f34, md_f35, md_s0, md_s1, md_s15, md_s16, md_s17, md_s23, md_s24, md_s31, md_t1, md_t2, md_t3, md_t4, md_t5, md_t6, md_t7, md_t8, md_t9, md_t10, md_t11, md_t12, md_t13, md_t14, md_t15, md_t16, md_t17, md_t18, md_t19, md_t20, md_t21, md_t22, md_t23, md_t24, md_t25, md_t26, md_t27, md_t28, md_l1, md_l2, md_l3, md_l4, md_l5, md_l6, md_l7, md_l8, md_l9, md_l10, md_l11, md_l12, md_l13, md_l14, md_l15, md_l16, md_l17, md_l18, md_l19, md_l20, md_l21, md_l22, md_l23, md_l24, md_l25, md_l26, md_l27, md_l28]
    repeat (refine And.intro (by omega) ?_)
    exact g.lo (al_le_of (by simp) (by simp))
set_option maxHeartbeats 8000000 in
theorem ct_hash (d : Nat) (hd : 1 ≤ d) (h : am_H) (o : Nat) (I : Nat → Int) (F : Nat → Int → Int) (H : md_at h o I F) : am_Ct am_df am_MT d 154 [.ref o] h (fun r0 h' => r0 = some (.int (iI (hsh (F 13)))) ∧ h' = h) := by
  obtain ⟨d, rfl⟩ : ∃ e, d = e + 1 := ⟨d - 1, by omega⟩
  refine am_ct_of2 mt_Md_hash (Nat.le_of_ble_eq_true rfl) ?_
  simp only [ar_nil, ar_int, ar_ref, ar_long, Nat.reduceAdd]
  refine am_go_of 10 [4] _ c_Md_hash_0 ?_
  simp (maxSteps := 2000000) (disch := omega) only [c_Md_hash_0, c_Md_hash_1, c_Md_hash_2, c_Md_hash_3, c_Md_hash_4, c_Md_hash_5, c_Md_hash_6, c_Md_hash_7, c_Md_hash_8, c_Md_hash_9, c_Md_hash_10, c_Md_hash_11, c_Md_hash_12, c_Md_hash_13, c_Md_hash_14, c_Md_hash_15, c_Md_hash_16, c_Md_hash_17, c_Md_hash_18, c_Md_hash_19, c_Md_hash_20, c_Md_hash_21, c_Md_hash_22, c_Md_hash_23, c_Md_hash_24, c_Md_hash_25, sx_aload_n, sx_bipush, sx_getfield, sx_goto, sx_iadd, sx_iaload, sx_iand, sx_iconst, sx_if_icmp_ge, sx_iinc, sx_iload_n, sx_imul, sx_ireturn, sx_istore_n, sx_iushr, sx_ixor, sx_sipush, sx_zreturn, am_W_s, am_W_0, am_mm_some, List.mem_cons, or_false, false_or, or_self, or_true, true_or, reduceIte, if_false, if_true, am_o_some, am_o_none, am_o_bad, am_o_good, am_ldi_hit, am_ldi_miss, am_lda_hit, am_lda_miss, am_ldl_hit, am_ldl_miss, am_inc_eq, am_inc_hit, am_inc_miss, am_ob_hit, am_fd_0, am_fd_s, am_ai_hit, am_ab_3, am_al_hit, am_aq_4, am_al0_hit, am_put_1, am_put_2, am_put_put, am_up_hit, am_up_miss, am_s1_eq, am_s2_eq, am_fl_nil, am_fl_hit, am_fl_int, am_fl_ref, am_fl_long, am_fl_longx, am_fl2_nil, am_fl2_hit, am_fl2_hit1, am_fl2_int, am_fl2_ref, am_fl2_long, List.not_mem_nil, not_false_eq_true, ne_eq, Nat.reduceAdd, Nat.reduceEqDiff, Nat.zero_add, Nat.add_left_cancel_iff, List.set_cons_zero, List.set_cons_succ, List.length_cons, List.length_nil, Nat.reduceLT, am_ft_i, am_ft_r, am_ft_z, and_true, true_and, Option.toList_some, Option.toList_none, List.cons_append, List.nil_append, List.drop_succ_cons, List.drop_zero, iI_c, iI_b, iI_s, iI_n, iI_add, iI_sub, iI_mul, iI_neg, iI_nle, iI_ix, iI_eq0, iI_eq1, iI_lt0, iI_0lt, iI_le0, iI_0le, iI_eq, iI_lt, iI_le, iI_upd, iI_updZ, Int.reduceEq, Int.reduceLT, Int.reduceLE, Int.reduceNeg, Int.reduceNe, md_fs_len, md_f0, md_f1, md_f2, md_f3, md_f4, md_f5, md_f6, md_f7, md_f8, md_f9, md_f10, md_f11, md_f12, md_f13, md_f14, md_f15, md_f16, md_f17, md_f18, md_f19, md_f20, md_f21, md_f22, md_f23, md_f24, md_f25, md_f26, md_f27, md_f28, md_f29, md_f30, md_f31, md_f32, md_f33, md_f34, md_f35, md_s0, md_s1, md_s15, md_s16, md_s17, md_s23, md_s24, md_s31, md_t1, md_t2, md_t3, md_t4, md_t5, md_t6, md_t7, md_t8, md_t9, md_t10, md_t11, md_t12, md_t13, md_t14, md_t15, md_t16, md_t17, md_t18, md_t19, md_t20, md_t21, md_t22, md_t23, md_t24, md_t25, md_t26, md_t27, md_t28, md_l1, md_l2, md_l3, md_l4, md_l5, md_l6, md_l7, md_l8, md_l9, md_l10, md_l11, md_l12, md_l13, md_l14, md_l15, md_l16, md_l17, md_l18, md_l19, md_l20, md_l21, md_l22, md_l23, md_l24, md_l25, md_l26, md_l27, md_l28]
  exact (lp_hash d h o I F H 66 0 (by decide)).lo (al_le_of (by simp [hzz]) (by simp))
/-- the POINT p is where the run stands -/
def eqv (F : Nat → Int → Int) (p : Int) : Prop := ∀ k : Int, 0 ≤ k ∧ k < 66 → F 19 (66 * p + k) = F 13 k
def sm_ok (F : Nat → Int → Int) (p : Int) : Prop := ∀ k : Int, 0 ≤ k ∧ k < 66 → -100 ≤ F 19 (66 * p + k) ∧ F 19 (66 * p + k) ≤ 100
set_option maxHeartbeats 8000000 in
theorem lp_same (d : Nat) (h : am_H) (o : Nat) (I : Nat → Int) (F : Nat → Int → Int) (H : md_at h o I F) (hs : ∀ k : Int, 0 ≤ k ∧ k < 66 → -100 ≤ F 13 k ∧ F 13 k ≤ 100) (p b : Int) (hp : 0 ≤ p ∧ p < 3000) (hm : sm_ok F p) (Q : Option Value → am_H → Prop)
    (h1 : eqv F p → am_Go am_df am_MT d c_Md_met (36, [(3, .int (iI 1)), (2, .int (iI p)), (0, .ref o), (1, .int (iI b))], [], h) Q)
    (h0 : ¬ eqv F p → am_Go am_df am_MT d c_Md_met (36, [(3, .int (iI 0)), (2, .int (iI p)), (0, .ref o), (1, .int (iI b))], [], h) Q) : ∀ (n : Nat) (k : Int), 0 ≤ k → k + n = 66 → (∀ j : Int, 0 ≤ j ∧ j < k → F 19 (66 * p + j) = F 13 j) → am_Go am_df am_MT d c_Md_met (12, [(4, .int (iI k)), (3, .int (iI 1)), (2, .int (iI p)), (0, .ref o), (1, .int (iI b))], [], h) Q := by
  have H' := H
  obtain ⟨h00, hO, hA⟩ := H'
  intro n
  induction n with
  | zero =>
    intro k hk0 hk hj
    have c : (66 : Int) ≤ k := by omega
    have g := h1 (fun j hj2 => hj j (by omega))
    clear h1 h0
    refine am_go_of 10 [5, 12, 36] _ c_Md_met_12 ?_
    simp (maxSteps := 2000000) (disch := omega) only [c_Md_met_0, c_Md_met_1, c_Md_met_2, c_Md_met_3, c_Md_met_4, c_Md_met_5, c_Md_met_6, c_Md_met_7, c_Md_met_8, c_Md_met_9, c_Md_met_10, c_Md_met_11, c_Md_met_12, c_Md_met_13, c_Md_met_14, c_Md_met_15, c_Md_met_16, c_Md_met_17, c_Md_met_18, c_Md_met_19, c_Md_met_20, c_Md_met_21, c_Md_met_22, c_Md_met_23, c_Md_met_24, c_Md_met_25, c_Md_met_26, c_Md_met_27, c_Md_met_28, c_Md_met_29, c_Md_met_30, c_Md_met_31, c_Md_met_32, c_Md_met_33, c_Md_met_34, c_Md_met_35, c_Md_met_36, c_Md_met_37, c_Md_met_38, c_Md_met_39, c_Md_met_40, c_Md_met_41, c_Md_met_42, c_Md_met_43, c_Md_met_44, c_Md_met_45, c_Md_met_46, c_Md_met_47, sx_aload_n, sx_bipush, sx_getfield, sx_goto, sx_iadd, sx_iaload, sx_iconst, sx_ifCond_eq, sx_if_icmp_eq, sx_if_icmp_ge, sx_if_icmp_ne, sx_iinc, sx_iload, sx_iload_n, sx_imul, sx_ireturn, sx_istore, sx_istore_n, sx_zreturn, am_W_s, am_W_0, am_mm_some, List.mem_cons, or_false, false_or, or_self, or_true, true_or, reduceIte, if_false, if_true, am_o_some, am_o_none, am_o_bad, am_o_good, am_ldi_hit, am_ldi_miss, am_lda_hit, am_lda_miss, am_ldl_hit, am_ldl_miss, am_inc_eq, am_inc_hit, am_inc_miss, am_ob_hit, am_fd_0, am_fd_s, am_ai_hit, am_ab_3, am_al_hit, am_aq_4, am_al0_hit, am_put_1, am_put_2, am_put_put, am_up_hit, am_up_miss, am_s1_eq, am_s2_eq, am_fl_nil, am_fl_hit, am_fl_int, am_fl_ref, am_fl_long, am_fl_longx, am_fl2_nil, am_fl2_hit, am_fl2_hit1, am_fl2_int, am_fl2_ref, am_fl2_long, List.not_mem_nil, not_false_eq_true, ne_eq, Nat.reduceAdd, Nat.reduceEqDiff, Nat.zero_add, Nat.add_left_cancel_iff, List.set_cons_zero, List.set_cons_succ, List.length_cons, List.length_nil, Nat.reduceLT, am_ft_i, am_ft_r, am_ft_z, and_true, true_and, Option.toList_some, Option.toList_none, List.cons_append, List.nil_append, List.drop_succ_cons, List.drop_zero, iI_c, iI_b, iI_s, iI_n, iI_add, iI_sub, iI_mul, iI_neg, iI_nle, iI_ix, iI_eq0, iI_eq1, iI_lt0, iI_0lt, iI_le0, iI_0le, iI_eq, iI_lt, iI_le, iI_upd, iI_updZ, Int.reduceEq, Int.reduceLT, Int.reduceLE, Int.reduceNeg, Int.reduceNe, c, md_fs_len, md_f0, md_f1, md_f2, md_f3, md_f4, md_f5, md_f6, md_f7, md_f8, md_f9, md_f10, md_f11, md_f12, md_f13, md_f14, md_f15, md_f16, md_f17, md_f18, md_f19, md_f20, md_f21, md_f22, md_f23, md_f24, md_f25, md_f26, md_f27, md_f28, md_f29, md_f30, md_f31, md_f32, md_f33, md_f34, md_f35, md_s0, md_s1, md_s15, md_s16, md_s17, md_s23, md_s24, md_s31, md_t1, md_t2, md_t3, md_t4, md_t5, md_t6, md_t7, md_t8, md_t9, md_t10, md_t11, md_t12, md_t13, md_t14, md_t15, md_t16, md_t17, md_t18, md_t19, md_t20, md_t21, md_t22, md_t23, md_t24, md_t25, md_t26, md_t27, md_t28, md_l1, md_l2, md_l3, md_l4, md_l5, md_l6, md_l7, md_l8, md_l9, md_l10, md_l11, md_l12, md_l13, md_l14, md_l15, md_l16, md_l17, md_l18, md_l19, md_l20, md_l21, md_l22, md_l23, md_l24, md_l25, md_l26, md_l27, md_l28]
    exact g.lo (al_le_of (by simp) (by simp))
  | succ n ih =>
    intro k hk0 hk hj
    have c : ¬ (66 : Int) ≤ k := by omega
    have a1 := hs k ⟨hk0, by omega⟩
    have a2 := hm k ⟨hk0, by omega⟩
    by_cases e : F 19 (66 * p + k) = F 13 k
    · have g := ih (k + 1) (by omega) (by omega) (fun j hj2 => by
        by_cases ej : j = k
        · rw [ej]
          exact e
        · exact hj j (by omega))
      clear ih h1 h0
      refine am_go_of 30 [5, 12] _ c_Md_met_12 ?_
      simp (maxSteps := 2000000) (disch := omega) only [c_Md_met_0, c_Md_met_1, c_Md_met_2, c_Md_met_3, c_Md_met_4, c_Md_met_5, c_Md_met_6, c_Md_met_7, c_Md_met_8, c_Md_met_9, c_Md_met_10, c_Md_met_11, c_Md_met_12, c_Md_met_13, c_Md_met_14, c_Md_met_15, c_Md_met_16, c_Md_met_17, c_Md_met_18, c_Md_met_19, c_Md_met_20, c_Md_met_21, c_Md_met_22, c_Md_met_23, c_Md_met_24, c_Md_met_25, c_Md_met_26, c_Md_met_27, c_Md_met_28, c_Md_met_29, c_Md_met_30, c_Md_met_31, c_Md_met_32, c_Md_met_33, c_Md_met_34, c_Md_met_35, c_Md_met_36, c_Md_met_37, c_Md_met_38, c_Md_met_39, c_Md_met_40, c_Md_met_41, c_Md_met_42, c_Md_met_43, c_Md_met_44, c_Md_met_45, c_Md_met_46, c_Md_met_47, sx_aload_n, sx_bipush, sx_getfield, sx_goto, sx_iadd, sx_iaload, sx_iconst, sx_ifCond_eq, sx_if_icmp_eq, sx_if_icmp_ge, sx_if_icmp_ne, sx_iinc, sx_iload, sx_iload_n, sx_imul, sx_ireturn, sx_istore, sx_istore_n, sx_zreturn, am_W_s, am_W_0, am_mm_some, List.mem_cons, or_false, false_or, or_self, or_true, true_or, reduceIte, if_false, if_true, am_o_some, am_o_none, am_o_bad, am_o_good, am_ldi_hit, am_ldi_miss, am_lda_hit, am_lda_miss, am_ldl_hit, am_ldl_miss, am_inc_eq, am_inc_hit, am_inc_miss, am_ob_hit, am_fd_0, am_fd_s, am_ai_hit, am_ab_3, am_al_hit, am_aq_4, am_al0_hit, am_put_1, am_put_2, am_put_put, am_up_hit, am_up_miss, am_s1_eq, am_s2_eq, am_fl_nil, am_fl_hit, am_fl_int, am_fl_ref, am_fl_long, am_fl_longx, am_fl2_nil, am_fl2_hit, am_fl2_hit1, am_fl2_int, am_fl2_ref, am_fl2_long, List.not_mem_nil, not_false_eq_true, ne_eq, Nat.reduceAdd, Nat.reduceEqDiff, Nat.zero_add, Nat.add_left_cancel_iff, List.set_cons_zero, List.set_cons_succ, List.length_cons, List.length_nil, Nat.reduceLT, am_ft_i, am_ft_r, am_ft_z, and_true, true_and, Option.toList_some, Option.toList_none, List.cons_append, List.nil_append, List.drop_succ_cons, List.drop_zero, iI_c, iI_b, iI_s, iI_n, iI_add, iI_sub, iI_mul, iI_neg, iI_nle, iI_ix, iI_eq0, iI_eq1, iI_lt0, iI_0lt, iI_le0, iI_0le, iI_eq, iI_lt, iI_le, iI_upd, iI_updZ, Int.reduceEq, Int.reduceLT, Int.reduceLE, Int.reduceNeg, Int.reduceNe, hO, hA, c, e, md_fs_len, md_f0, md_f1, md_f2, md_f3, md_f4, md_f5, md_f6, md_f7, md_f8, md_f9, md_f10, md_f11, md_f12, md_f13, md_f14, md_f15, md_f16, md_f17, md_f18, md_f19, md_f20, md_f21, md_f22, md_f23, md_f24, md_f25, md_f26, md_f27, md_f28, md_f29, md_f30, md_f31, md_f32, md_f33, md_f34, md_f35, md_s0, md_s1, md_s15, md_s16, md_s17, md_s23, md_s24, md_s31, md_t1, md_t2, md_t3, md_t4, md_t5, md_t6, md_t7, md_t8, md_t9, md_t10, md_t11, md_t12, md_t13, md_t14, md_t15, md_t16, md_t17, md_t18, md_t19, md_t20, md_t21, md_t22, md_t23, md_t24, md_t25, md_t26, md_t27, md_t28, md_l1, md_l2, md_l3, md_l4, md_l5, md_l6, md_l7, md_l8, md_l9, md_l10, md_l11, md_l12, md_l13, md_l14, md_l15, md_l16, md_l17, md_l18, md_l19, md_l20, md_l21, md_l22, md_l23, md_l24, md_l25, md_l26, md_l27, md_l28]
      repeat (refine And.intro (by omega) ?_)
      exact g.lo (al_le_of (by simp) (by simp))
    · have g := h0 (fun z => e (z k ⟨hk0, by omega⟩))
      clear ih h1 h0
      have cc : am_Go am_df am_MT d c_Md_met (12, [(4, .int (iI (k + 1))), (3, .int (iI 0)), (2, .int (iI p)), (0, .ref o), (1, .int (iI b))], [], h) Q := by
        by_cases c6 : (66 : Int) ≤ k + 1
        · refine am_go_of 10 [5, 12, 36] _ c_Md_met_12 ?_
          simp (maxSteps := 2000000) (disch := omega) only [c_Md_met_0, c_Md_met_1, c_Md_met_2, c_Md_met_3, c_Md_met_4, c_Md_met_5, c_Md_met_6, c_Md_met_7, c_Md_met_8, c_Md_met_9, c_Md_met_10, c_Md_met_11, c_Md_met_12, c_Md_met_13, c_Md_met_14, c_Md_met_15, c_Md_met_16, c_Md_met_17, c_Md_met_18, c_Md_met_19, c_Md_met_20, c_Md_met_21, c_Md_met_22, c_Md_met_23, c_Md_met_24, c_Md_met_25, c_Md_met_26, c_Md_met_27, c_Md_met_28, c_Md_met_29, c_Md_met_30, c_Md_met_31, c_Md_met_32, c_Md_met_33, c_Md_met_34, c_Md_met_35, c_Md_met_36, c_Md_met_37, c_Md_met_38, c_Md_met_39, c_Md_met_40, c_Md_met_41, c_Md_met_42, c_Md_met_43, c_Md_met_44, c_Md_met_45, c_Md_met_46, c_Md_met_47, sx_aload_n, sx_bipush, sx_getfield, sx_goto, sx_iadd, sx_iaload, sx_iconst, sx_ifCond_eq, sx_if_icmp_eq, sx_if_icmp_ge, sx_if_icmp_ne, sx_iinc, sx_iload, sx_iload_n, sx_imul, sx_ireturn, sx_istore, sx_istore_n, sx_zreturn, am_W_s, am_W_0, am_mm_some, List.mem_cons, or_false, false_or, or_self, or_true, true_or, reduceIte, if_false, if_true, am_o_some, am_o_none, am_o_bad, am_o_good, am_ldi_hit, am_ldi_miss, am_lda_hit, am_lda_miss, am_ldl_hit, am_ldl_miss, am_inc_eq, am_inc_hit, am_inc_miss, am_ob_hit, am_fd_0, am_fd_s, am_ai_hit, am_ab_3, am_al_hit, am_aq_4, am_al0_hit, am_put_1, am_put_2, am_put_put, am_up_hit, am_up_miss, am_s1_eq, am_s2_eq, am_fl_nil, am_fl_hit, am_fl_int, am_fl_ref, am_fl_long, am_fl_longx, am_fl2_nil, am_fl2_hit, am_fl2_hit1, am_fl2_int, am_fl2_ref, am_fl2_long, List.not_mem_nil, not_false_eq_true, ne_eq, Nat.reduceAdd, Nat.reduceEqDiff, Nat.zero_add, Nat.add_left_cancel_iff, List.set_cons_zero, List.set_cons_succ, List.length_cons, List.length_nil, Nat.reduceLT, am_ft_i, am_ft_r, am_ft_z, and_true, true_and, Option.toList_some, Option.toList_none, List.cons_append, List.nil_append, List.drop_succ_cons, List.drop_zero, iI_c, iI_b, iI_s, iI_n, iI_add, iI_sub, iI_mul, iI_neg, iI_nle, iI_ix, iI_eq0, iI_eq1, iI_lt0, iI_0lt, iI_le0, iI_0le, iI_eq, iI_lt, iI_le, iI_upd, iI_updZ, Int.reduceEq, Int.reduceLT, Int.reduceLE, Int.reduceNeg, Int.reduceNe, c6, md_fs_len, md_f0, md_f1, md_f2, md_f3, md_f4, md_f5, md_f6, md_f7, md_f8, md_f9, md_f10, md_f11, md_f12, md_f13, md_f14, md_f15, md_f16, md_f17, md_f18, md_f19, md_f20, md_f21, md_f22, md_f23, md_f24, md_f25, md_f26, md_f27, md_f28, md_f29, md_f30, md_f31, md_f32, md_f33, md_f34, md_f35, md_s0, md_s1, md_s15, md_s16, md_s17, md_s23, md_s24, md_s31, md_t1, md_t2, md_t3, md_t4, md_t5, md_t6, md_t7, md_t8, md_t9, md_t10, md_t11, md_t12, md_t13, md_t14, md_t15, md_t16, md_t17, md_t18, md_t19, md_t20, md_t21, md_t22, md_t23, md_t24, md_t25, md_t26, md_t27, md_t28, md_l1, md_l2, md_l3, md_l4, md_l5, md_l6, md_l7, md_l8, md_l9, md_l10, md_l11, md_l12, md_l13, md_l14, md_l15, md_l16, md_l17, md_l18, md_l19, md_l20, md_l21, md_l22, md_l23, md_l24, md_l25, md_l26, md_l27, md_l28]
          exact g.lo (al_le_of (by simp) (by simp))
        · refine am_go_of 10 [5, 12, 36] _ c_Md_met_12 ?_
          simp (maxSteps := 2000000) (disch := omega) only [c_Md_met_0, c_Md_met_1, c_Md_met_2, c_Md_met_3, c_Md_met_4, c_Md_met_5, c_Md_met_6, c_Md_met_7, c_Md_met_8, c_Md_met_9, c_Md_met_10, c_Md_met_11, c_Md_met_12, c_Md_met_13, c_Md_met_14, c_Md_met_15, c_Md_met_16, c_Md_met_17, c_Md_met_18, c_Md_met_19, c_Md_met_20, c_Md_met_21, c_Md_met_22, c_Md_met_23, c_Md_met_24, c_Md_met_25, c_Md_met_26, c_Md_met_27, c_Md_met_28, c_Md_met_29, c_Md_met_30, c_Md_met_31, c_Md_met_32, c_Md_met_33, c_Md_met_34, c_Md_met_35, c_Md_met_36, c_Md_met_37, c_Md_met_38, c_Md_met_39, c_Md_met_40, c_Md_met_41, c_Md_met_42, c_Md_met_43, c_Md_met_44, c_Md_met_45, c_Md_met_46, c_Md_met_47, sx_aload_n, sx_bipush, sx_getfield, sx_goto, sx_iadd, sx_iaload, sx_iconst, sx_ifCond_eq, sx_if_icmp_eq, sx_if_icmp_ge, sx_if_icmp_ne, sx_iinc, sx_iload, sx_iload_n, sx_imul, sx_ireturn, sx_istore, sx_istore_n, sx_zreturn, am_W_s, am_W_0, am_mm_some, List.mem_cons, or_false, false_or, or_self, or_true, true_or, reduceIte, if_false, if_true, am_o_some, am_o_none, am_o_bad, am_o_good, am_ldi_hit, am_ldi_miss, am_lda_hit, am_lda_miss, am_ldl_hit, am_ldl_miss, am_inc_eq, am_inc_hit, am_inc_miss, am_ob_hit, am_fd_0, am_fd_s, am_ai_hit, am_ab_3, am_al_hit, am_aq_4, am_al0_hit, am_put_1, am_put_2, am_put_put, am_up_hit, am_up_miss, am_s1_eq, am_s2_eq, am_fl_nil, am_fl_hit, am_fl_int, am_fl_ref, am_fl_long, am_fl_longx, am_fl2_nil, am_fl2_hit, am_fl2_hit1, am_fl2_int, am_fl2_ref, am_fl2_long, List.not_mem_nil, not_false_eq_true, ne_eq, Nat.reduceAdd, Nat.reduceEqDiff, Nat.zero_add, Nat.add_left_cancel_iff, List.set_cons_zero, List.set_cons_succ, List.length_cons, List.length_nil, Nat.reduceLT, am_ft_i, am_ft_r, am_ft_z, and_true, true_and, Option.toList_some, Option.toList_none, List.cons_append, List.nil_append, List.drop_succ_cons, List.drop_zero, iI_c, iI_b, iI_s, iI_n, iI_add, iI_sub, iI_mul, iI_neg, iI_nle, iI_ix, iI_eq0, iI_eq1, iI_lt0, iI_0lt, iI_le0, iI_0le, iI_eq, iI_lt, iI_le, iI_upd, iI_updZ, Int.reduceEq, Int.reduceLT, Int.reduceLE, Int.reduceNeg, Int.reduceNe, c6, md_fs_len, md_f0, md_f1, md_f2, md_f3, md_f4, md_f5, md_f6, md_f7, md_f8, md_f9, md_f10, md_f11, md_f12, md_f13, md_f14, md_f15, md_f16, md_f17, md_f18, md_f19, md_f20, md_f21, md_f22, md_f23, md_f24, md_f25, md_f26, md_f27, md_f28, md_f29, md_f30, md_f31, md_f32, md_f33, md_f34, md_f35, md_s0, md_s1, md_s15, md_s16, md_s17, md_s23, md_s24, md_s31, md_t1, md_t2, md_t3, md_t4, md_t5, md_t6, md_t7, md_t8, md_t9, md_t10, md_t11, md_t12, md_t13, md_t14, md_t15, md_t16, md_t17, md_t18, md_t19, md_t20, md_t21, md_t22, md_t23, md_t24, md_t25, md_t26, md_t27, md_t28, md_l1, md_l2, md_l3, md_l4, md_l5, md_l6, md_l7, md_l8, md_l9, md_l10, md_l11, md_l12, md_l13, md_l14, md_l15, md_l16, md_l17, md_l18, md_l19, md_l20, md_l21, md_l22, md_l23, md_l24, md_l25, md_l26, md_l27, md_l28]
          exact g.lo (al_le_of (by simp) (by simp))
      refine am_go_of 30 [5, 12] _ c_Md_met_12 ?_
      simp (maxSteps := 2000000) (disch := omega) only [c_Md_met_0, c_Md_met_1, c_Md_met_2, c_Md_met_3, c_Md_met_4, c_Md_met_5, c_Md_met_6, c_Md_met_7, c_Md_met_8, c_Md_met_9, c_Md_met_10, c_Md_met_11, c_Md_met_12, c_Md_met_13, c_Md_met_14, c_Md_met_15, c_Md_met_16, c_Md_met_17, c_Md_met_18, c_Md_met_19, c_Md_met_20, c_Md_met_21, c_Md_met_22, c_Md_met_23, c_Md_met_24, c_Md_met_25, c_Md_met_26, c_Md_met_27, c_Md_met_28, c_Md_met_29, c_Md_met_30, c_Md_met_31, c_Md_met_32, c_Md_met_33, c_Md_met_34, c_Md_met_35, c_Md_met_36, c_Md_met_37, c_Md_met_38, c_Md_met_39, c_Md_met_40, c_Md_met_41, c_Md_met_42, c_Md_met_43, c_Md_met_44, c_Md_met_45, c_Md_met_46, c_Md_met_47, sx_aload_n, sx_bipush, sx_getfield, sx_goto, sx_iadd, sx_iaload, sx_iconst, sx_ifCond_eq, sx_if_icmp_eq, sx_if_icmp_ge, sx_if_icmp_ne, sx_iinc, sx_iload, sx_iload_n, sx_imul, sx_ireturn, sx_istore, sx_istore_n, sx_zreturn, am_W_s, am_W_0, am_mm_some, List.mem_cons, or_false, false_or, or_self, or_true, true_or, reduceIte, if_false, if_true, am_o_some, am_o_none, am_o_bad, am_o_good, am_ldi_hit, am_ldi_miss, am_lda_hit, am_lda_miss, am_ldl_hit, am_ldl_miss, am_inc_eq, am_inc_hit, am_inc_miss, am_ob_hit, am_fd_0, am_fd_s, am_ai_hit, am_ab_3, am_al_hit, am_aq_4, am_al0_hit, am_put_1, am_put_2, am_put_put, am_up_hit, am_up_miss, am_s1_eq, am_s2_eq, am_fl_nil, am_fl_hit, am_fl_int, am_fl_ref, am_fl_long, am_fl_longx, am_fl2_nil, am_fl2_hit, am_fl2_hit1, am_fl2_int, am_fl2_ref, am_fl2_long, List.not_mem_nil, not_false_eq_true, ne_eq, Nat.reduceAdd, Nat.reduceEqDiff, Nat.zero_add, Nat.add_left_cancel_iff, List.set_cons_zero, List.set_cons_succ, List.length_cons, List.length_nil, Nat.reduceLT, am_ft_i, am_ft_r, am_ft_z, and_true, true_and, Option.toList_some, Option.toList_none, List.cons_append, List.nil_append, List.drop_succ_cons, List.drop_zero, iI_c, iI_b, iI_s, iI_n, iI_add, iI_sub, iI_mul, iI_neg, iI_nle, iI_ix, iI_eq0, iI_eq1, iI_lt0, iI_0lt, iI_le0, iI_0le, iI_eq, iI_lt, iI_le, iI_upd, iI_updZ, Int.reduceEq, Int.reduceLT, Int.reduceLE, Int.reduceNeg, Int.reduceNe, hO, hA, c, e, md_fs_len, md_f0, md_f1, md_f2, md_f3, md_f4, md_f5, md_f6, md_f7, md_f8, md_f9, md_f10, md_f11, md_f12, md_f13, md_f14, md_f15, md_f16, md_f17, md_f18, md_f19, md_f20, md_f21, md_f22, md_f23, md_f24, md_f25, md_f26, md_f27, md_f28, md_f29, md_f30, md_f31, md_f32, md_f33, md_f34, md_f35, md_s0, md_s1, md_s15, md_s16, md_s17, md_s23, md_s24, md_s31, md_t1, md_t2, md_t3, md_t4, md_t5, md_t6, md_t7, md_t8, md_t9, md_t10, md_t11, md_t12, md_t13, md_t14, md_t15, md_t16, md_t17, md_t18, md_t19, md_t20, md_t21, md_t22, md_t23, md_t24, md_t25, md_t26, md_t27, md_t28, md_l1, md_l2, md_l3, md_l4, md_l5, md_l6, md_l7, md_l8, md_l9, md_l10, md_l11, md_l12, md_l13, md_l14, md_l15, md_l16, md_l17, md_l18, md_l19, md_l20, md_l21, md_l22, md_l23, md_l24, md_l25, md_l26, md_l27, md_l28]
      repeat (refine And.intro (by omega) ?_)
      exact cc.lo (al_le_of (by simp) (by simp))
/-- the last of n POINTS in a row of them -/
def lastp (hq : Int → Int) : Nat → Int → Int
  | 0, _ => -1
  | n + 1, b => if hq n = b then n else lastp hq n b
theorem lastp_rg {hq : Int → Int} {b : Int} : ∀ n : Nat, -1 ≤ lastp hq n b ∧ lastp hq n b < n := by
  intro n
  induction n with
  | zero => exact ⟨Int.le_refl _, by show (-1 : Int) < 0; decide⟩
  | succ n ih =>
    unfold lastp
    split <;> omega
theorem lastp_at {hq : Int → Int} {b : Int} : ∀ n : Nat, lastp hq n b ≠ -1 → hq (lastp hq n b) = b := by
  intro n
  induction n with
  | zero => intro h; exact absurd rfl h
  | succ n ih =>
    unfold lastp
    split
    · rename_i c
      exact fun _ => c
    · exact ih
theorem lastp_no {hq : Int → Int} {b : Int} : ∀ (n : Nat) (q : Int), lastp hq n b < q → q < n → hq q ≠ b := by
  intro n
  induction n with
  | zero =>
    intro q h1 h2
    have : lastp hq 0 b = -1 := rfl
    omega
  | succ n ih =>
    intro q h1 h2
    unfold lastp at h1
    by_cases c : hq n = b
    · rw [if_pos c] at h1
      omega
    · rw [if_neg c] at h1
      by_cases e : q = n
      · rw [e]
        exact c
      · exact ih q h1 (by omega)
/-- the rows of POINTS by their numbers hq, n of them -/
def pc_ok (F : Nat → Int → Int) (hq : Int → Int) (n : Nat) : Prop := (∀ b : Int, 0 ≤ b ∧ b < 4096 → F 23 b = lastp hq n b) ∧ (∀ q : Nat, q < n → F 24 q = lastp hq q (hq q)) ∧ ∀ q : Int, 0 ≤ q ∧ q < n → sm_ok F q
set_option maxHeartbeats 8000000 in
theorem lp_met (d : Nat) (h : am_H) (o : Nat) (I : Nat → Int) (F : Nat → Int → Int) (H : md_at h o I F) (hs : ∀ k : Int, 0 ≤ k ∧ k < 66 → -100 ≤ F 13 k ∧ F 13 k ≤ 100) (hq : Int → Int) (n : Nat) (hn : n ≤ 3000) (hp : pc_ok F hq n) (b : Int) : ∀ (m : Nat), m ≤ n → (∀ q : Int, (m : Int) ≤ q ∧ q < n → hq q = b → ¬ eqv F q) → am_Go am_df am_MT d c_Md_met (5, [(2, .int (iI (lastp hq m b))), (0, .ref o), (1, .int (iI b))], [], h) (fun r0 h' => (∃ z, r0 = some (.int (iI z)) ∧ (z = -1 ∧ (∀ q : Int, 0 ≤ q ∧ q < n → hq q = b → ¬ eqv F q) ∨ (0 ≤ z ∧ z < n) ∧ eqv F z)) ∧ h' = h) := by
  have H' := H
  obtain ⟨h00, hO, hA⟩ := H'
  intro m
  induction m using Nat.strongRecOn with
  | _ m ih =>
    intro hm hno
    have hl := lastp_rg (hq := hq) (b := b) m
    by_cases c : lastp hq m b = -1
    · have g : (∃ z, some (Value.int (iI (-1))) = some (.int (iI z)) ∧ (z = -1 ∧ (∀ q : Int, 0 ≤ q ∧ q < n → hq q = b → ¬ eqv F q) ∨ (0 ≤ z ∧ z < n) ∧ eqv F z)) ∧ h = h := ⟨⟨-1, rfl, Or.inl ⟨rfl, fun q hq2 e => by
        by_cases cm : (m : Int) ≤ q
        · exact hno q ⟨cm, hq2.2⟩ e
        · exact absurd e (lastp_no m q (by omega) (by omega))⟩⟩, rfl⟩
      rw [c]
      clear ih
      refine am_go_of 10 [5, 12] _ c_Md_met_5 ?_
      simp (maxSteps := 2000000) (disch := omega) only [c_Md_met_0, c_Md_met_1, c_Md_met_2, c_Md_met_3, c_Md_met_4, c_Md_met_5, c_Md_met_6, c_Md_met_7, c_Md_met_8, c_Md_met_9, c_Md_met_10, c_Md_met_11, c_Md_met_12, c_Md_met_13, c_Md_met_14, c_Md_met_15, c_Md_met_16, c_Md_met_17, c_Md_met_18, c_Md_met_19, c_Md_met_20, c_Md_met_21, c_Md_met_22, c_Md_met_23, c_Md_met_24, c_Md_met_25, c_Md_met_26, c_Md_met_27, c_Md_met_28, c_Md_met_29, c_Md_met_30, c_Md_met_31, c_Md_met_32, c_Md_met_33, c_Md_met_34, c_Md_met_35, c_Md_met_36, c_Md_met_37, c_Md_met_38, c_Md_met_39, c_Md_met_40, c_Md_met_41, c_Md_met_42, c_Md_met_43, c_Md_met_44, c_Md_met_45, c_Md_met_46, c_Md_met_47, sx_aload_n, sx_bipush, sx_getfield, sx_goto, sx_iadd, sx_iaload, sx_iconst, sx_ifCond_eq, sx_if_icmp_eq, sx_if_icmp_ge, sx_if_icmp_ne, sx_iinc, sx_iload, sx_iload_n, sx_imul, sx_ireturn, sx_istore, sx_istore_n, sx_zreturn, am_W_s, am_W_0, am_mm_some, List.mem_cons, or_false, false_or, or_self, or_true, true_or, reduceIte, if_false, if_true, am_o_some, am_o_none, am_o_bad, am_o_good, am_ldi_hit, am_ldi_miss, am_lda_hit, am_lda_miss, am_ldl_hit, am_ldl_miss, am_inc_eq, am_inc_hit, am_inc_miss, am_ob_hit, am_fd_0, am_fd_s, am_ai_hit, am_ab_3, am_al_hit, am_aq_4, am_al0_hit, am_put_1, am_put_2, am_put_put, am_up_hit, am_up_miss, am_s1_eq, am_s2_eq, am_fl_nil, am_fl_hit, am_fl_int, am_fl_ref, am_fl_long, am_fl_longx, am_fl2_nil, am_fl2_hit, am_fl2_hit1, am_fl2_int, am_fl2_ref, am_fl2_long, List.not_mem_nil, not_false_eq_true, ne_eq, Nat.reduceAdd, Nat.reduceEqDiff, Nat.zero_add, Nat.add_left_cancel_iff, List.set_cons_zero, List.set_cons_succ, List.length_cons, List.length_nil, Nat.reduceLT, am_ft_i, am_ft_r, am_ft_z, and_true, true_and, Option.toList_some, Option.toList_none, List.cons_append, List.nil_append, List.drop_succ_cons, List.drop_zero, iI_c, iI_b, iI_s, iI_n, iI_add, iI_sub, iI_mul, iI_neg, iI_nle, iI_ix, iI_eq0, iI_eq1, iI_lt0, iI_0lt, iI_le0, iI_0le, iI_eq, iI_lt, iI_le, iI_upd, iI_updZ, Int.reduceEq, Int.reduceLT, Int.reduceLE, Int.reduceNeg, Int.reduceNe, md_fs_len, md_f0, md_f1, md_f2, md_f3, md_f4, md_f5, md_f6, md_f7, md_f8, md_f9, md_f10, md_f11, md_f12, md_f13, md_f14, md_f15, md_f16, md_f17, md_f18, md_f19, md_f20, md_f21, md_f22, md_f23, md_f24, md_f25, md_f26, md_f27, md_f28, md_f29, md_f30, md_f31, md_f32, md_f33, md_f34, md_f35, md_s0, md_s1, md_s15, md_s16, md_s17, md_s23, md_s24, md_s31, md_t1, md_t2, md_t3, md_t4, md_t5, md_t6, md_t7, md_t8, md_t9, md_t10, md_t11, md_t12, md_t13, md_t14, md_t15, md_t16, md_t17, md_t18, md_t19, md_t20, md_t21, md_t22, md_t23, md_t24, md_t25, md_t26, md_t27, md_t28, md_l1, md_l2, md_l3, md_l4, md_l5, md_l6, md_l7, md_l8, md_l9, md_l10, md_l11, md_l12, md_l13, md_l14, md_l15, md_l16, md_l17, md_l18, md_l19, md_l20, md_l21, md_l22, md_l23, md_l24, md_l25, md_l26, md_l27, md_l28]
      exact g.1
    · have eb := lastp_at (hq := hq) (b := b) m c
      have e24 := hp.2.1 (lastp hq m b).toNat (by omega)
      rw [show (((lastp hq m b).toNat : Nat) : Int) = lastp hq m b by omega, eb] at e24
      have hsm := hp.2.2 (lastp hq m b) ⟨by omega, by omega⟩
      have nxt := ih (lastp hq m b).toNat (by omega) (by omega)
      have hno2 : ¬ eqv F (lastp hq m b) → ∀ q : Int, ((lastp hq m b).toNat : Int) ≤ q ∧ q < n → hq q = b → ¬ eqv F q := fun ne q hq2 e => by
        by_cases e1 : q = lastp hq m b
        · rw [e1]
          exact ne
        · by_cases cm : (m : Int) ≤ q
          · exact hno q ⟨cm, hq2.2⟩ e
          · exact absurd e (lastp_no m q (by omega) (by omega))
      have l2 := lastp_rg (hq := hq) (b := b) (lastp hq m b).toNat
      clear ih hno
      generalize lastp hq (lastp hq m b).toNat b = p2 at *
      generalize lastp hq m b = p at *
      refine am_go_of 10 [5, 12] _ c_Md_met_5 ?_
      simp (maxSteps := 2000000) (disch := omega) only [c_Md_met_0, c_Md_met_1, c_Md_met_2, c_Md_met_3, c_Md_met_4, c_Md_met_5, c_Md_met_6, c_Md_met_7, c_Md_met_8, c_Md_met_9, c_Md_met_10, c_Md_met_11, c_Md_met_12, c_Md_met_13, c_Md_met_14, c_Md_met_15, c_Md_met_16, c_Md_met_17, c_Md_met_18, c_Md_met_19, c_Md_met_20, c_Md_met_21, c_Md_met_22, c_Md_met_23, c_Md_met_24, c_Md_met_25, c_Md_met_26, c_Md_met_27, c_Md_met_28, c_Md_met_29, c_Md_met_30, c_Md_met_31, c_Md_met_32, c_Md_met_33, c_Md_met_34, c_Md_met_35, c_Md_met_36, c_Md_met_37, c_Md_met_38, c_Md_met_39, c_Md_met_40, c_Md_met_41, c_Md_met_42, c_Md_met_43, c_Md_met_44, c_Md_met_45, c_Md_met_46, c_Md_met_47, sx_aload_n, sx_bipush, sx_getfield, sx_goto, sx_iadd, sx_iaload, sx_iconst, sx_ifCond_eq, sx_if_icmp_eq, sx_if_icmp_ge, sx_if_icmp_ne, sx_iinc, sx_iload, sx_iload_n, sx_imul, sx_ireturn, sx_istore, sx_istore_n, sx_zreturn, am_W_s, am_W_0, am_mm_some, List.mem_cons, or_false, false_or, or_self, or_true, true_or, reduceIte, if_false, if_true, am_o_some, am_o_none, am_o_bad, am_o_good, am_ldi_hit, am_ldi_miss, am_lda_hit, am_lda_miss, am_ldl_hit, am_ldl_miss, am_inc_eq, am_inc_hit, am_inc_miss, am_ob_hit, am_fd_0, am_fd_s, am_ai_hit, am_ab_3, am_al_hit, am_aq_4, am_al0_hit, am_put_1, am_put_2, am_put_put, am_up_hit, am_up_miss, am_s1_eq, am_s2_eq, am_fl_nil, am_fl_hit, am_fl_int, am_fl_ref, am_fl_long, am_fl_longx, am_fl2_nil, am_fl2_hit, am_fl2_hit1, am_fl2_int, am_fl2_ref, am_fl2_long, List.not_mem_nil, not_false_eq_true, ne_eq, Nat.reduceAdd, Nat.reduceEqDiff, Nat.zero_add, Nat.add_left_cancel_iff, List.set_cons_zero, List.set_cons_succ, List.length_cons, List.length_nil, Nat.reduceLT, am_ft_i, am_ft_r, am_ft_z, and_true, true_and, Option.toList_some, Option.toList_none, List.cons_append, List.nil_append, List.drop_succ_cons, List.drop_zero, iI_c, iI_b, iI_s, iI_n, iI_add, iI_sub, iI_mul, iI_neg, iI_nle, iI_ix, iI_eq0, iI_eq1, iI_lt0, iI_0lt, iI_le0, iI_0le, iI_eq, iI_lt, iI_le, iI_upd, iI_updZ, Int.reduceEq, Int.reduceLT, Int.reduceLE, Int.reduceNeg, Int.reduceNe, c, md_fs_len, md_f0, md_f1, md_f2, md_f3, md_f4, md_f5, md_f6, md_f7, md_f8, md_f9, md_f10, md_f11, md_f12, md_f13, md_f14, md_f15, md_f16, md_f17, md_f18, md_f19, md_f20, md_f21, md_f22, md_f23, md_f24, md_f25, md_f26, md_f27, md_f28, md_f29, md_f30, md_f31, md_f32, md_f33, md_f34, md_f35, md_s0, md_s1, md_s15, md_s16, md_s17, md_s23, md_s24, md_s31, md_t1, md_t2, md_t3, md_t4, md_t5, md_t6, md_t7, md_t8, md_t9, md_t10, md_t11, md_t12, md_t13, md_t14, md_t15, md_t16, md_t17, md_t18, md_t19, md_t20, md_t21, md_t22, md_t23, md_t24, md_t25, md_t26, md_t27, md_t28, md_l1, md_l2, md_l3, md_l4, md_l5, md_l6, md_l7, md_l8, md_l9, md_l10, md_l11, md_l12, md_l13, md_l14, md_l15, md_l16, md_l17, md_l18, md_l19, md_l20, md_l21, md_l22, md_l23, md_l24, md_l25, md_l26, md_l27, md_l28]
      refine (lp_same d h o I F H hs p b ⟨by omega, by omega⟩ hsm _ (fun ev => ?_) (fun ne => ?_) 66 0 (Int.le_refl _) (by decide) (fun j hj => by omega)).lo (al_le_of (by simp) (by simp))
      · have g : (∃ z, some (Value.int (iI p)) = some (.int (iI z)) ∧ (z = -1 ∧ (∀ q : Int, 0 ≤ q ∧ q < n → hq q = b → ¬ eqv F q) ∨ (0 ≤ z ∧ z < n) ∧ eqv F z)) ∧ h = h := ⟨⟨p, rfl, Or.inr ⟨⟨by omega, by omega⟩, ev⟩⟩, rfl⟩
        clear nxt hno2
        refine am_go_of 10 [5, 12] _ c_Md_met_36 ?_
        simp (maxSteps := 2000000) (disch := omega) only [c_Md_met_0, c_Md_met_1, c_Md_met_2, c_Md_met_3, c_Md_met_4, c_Md_met_5, c_Md_met_6, c_Md_met_7, c_Md_met_8, c_Md_met_9, c_Md_met_10, c_Md_met_11, c_Md_met_12, c_Md_met_13, c_Md_met_14, c_Md_met_15, c_Md_met_16, c_Md_met_17, c_Md_met_18, c_Md_met_19, c_Md_met_20, c_Md_met_21, c_Md_met_22, c_Md_met_23, c_Md_met_24, c_Md_met_25, c_Md_met_26, c_Md_met_27, c_Md_met_28, c_Md_met_29, c_Md_met_30, c_Md_met_31, c_Md_met_32, c_Md_met_33, c_Md_met_34, c_Md_met_35, c_Md_met_36, c_Md_met_37, c_Md_met_38, c_Md_met_39, c_Md_met_40, c_Md_met_41, c_Md_met_42, c_Md_met_43, c_Md_met_44, c_Md_met_45, c_Md_met_46, c_Md_met_47, sx_aload_n, sx_bipush, sx_getfield, sx_goto, sx_iadd, sx_iaload, sx_iconst, sx_ifCond_eq, sx_if_icmp_eq, sx_if_icmp_ge, sx_if_icmp_ne, sx_iinc, sx_iload, sx_iload_n, sx_imul, sx_ireturn, sx_istore, sx_istore_n, sx_zreturn, am_W_s, am_W_0, am_mm_some, List.mem_cons, or_false, false_or, or_self, or_true, true_or, reduceIte, if_false, if_true, am_o_some, am_o_none, am_o_bad, am_o_good, am_ldi_hit, am_ldi_miss, am_lda_hit, am_lda_miss, am_ldl_hit, am_ldl_miss, am_inc_eq, am_inc_hit, am_inc_miss, am_ob_hit, am_fd_0, am_fd_s, am_ai_hit, am_ab_3, am_al_hit, am_aq_4, am_al0_hit, am_put_1, am_put_2, am_put_put, am_up_hit, am_up_miss, am_s1_eq, am_s2_eq, am_fl_nil, am_fl_hit, am_fl_int, am_fl_ref, am_fl_long, am_fl_longx, am_fl2_nil, am_fl2_hit, am_fl2_hit1, am_fl2_int, am_fl2_ref, am_fl2_long, List.not_mem_nil, not_false_eq_true, ne_eq, Nat.reduceAdd, Nat.reduceEqDiff, Nat.zero_add, Nat.add_left_cancel_iff, List.set_cons_zero, List.set_cons_succ, List.length_cons, List.length_nil, Nat.reduceLT, am_ft_i, am_ft_r, am_ft_z, and_true, true_and, Option.toList_some, Option.toList_none, List.cons_append, List.nil_append, List.drop_succ_cons, List.drop_zero, iI_c, iI_b, iI_s, iI_n, iI_add, iI_sub, iI_mul, iI_neg, iI_nle, iI_ix, iI_eq0, iI_eq1, iI_lt0, iI_0lt, iI_le0, iI_0le, iI_eq, iI_lt, iI_le, iI_upd, iI_updZ, Int.reduceEq, Int.reduceLT, Int.reduceLE, Int.reduceNeg, Int.reduceNe, md_fs_len, md_f0, md_f1, md_f2, md_f3, md_f4, md_f5, md_f6, md_f7, md_f8, md_f9, md_f10, md_f11, md_f12, md_f13, md_f14, md_f15, md_f16, md_f17, md_f18, md_f19, md_f20, md_f21, md_f22, md_f23, md_f24, md_f25, md_f26, md_f27, md_f28, md_f29, md_f30, md_f31, md_f32, md_f33, md_f34, md_f35, md_s0, md_s1, md_s15, md_s16, md_s17, md_s23, md_s24, md_s31, md_t1, md_t2, md_t3, md_t4, md_t5, md_t6, md_t7, md_t8, md_t9, md_t10, md_t11, md_t12, md_t13, md_t14, md_t15, md_t16, md_t17, md_t18, md_t19, md_t20, md_t21, md_t22, md_t23, md_t24, md_t25, md_t26, md_t27, md_t28, md_l1, md_l2, md_l3, md_l4, md_l5, md_l6, md_l7, md_l8, md_l9, md_l10, md_l11, md_l12, md_l13, md_l14, md_l15, md_l16, md_l17, md_l18, md_l19, md_l20, md_l21, md_l22, md_l23, md_l24, md_l25, md_l26, md_l27, md_l28]
        exact g.1
      · have g := nxt (hno2 ne)
        clear nxt hno2
        refine am_go_of 20 [5, 12] _ c_Md_met_36 ?_
        simp (maxSteps := 2000000) (disch := omega) only [c_Md_met_0, c_Md_met_1, c_Md_met_2, c_Md_met_3, c_Md_met_4, c_Md_met_5, c_Md_met_6, c_Md_met_7, c_Md_met_8, c_Md_met_9, c_Md_met_10, c_Md_met_11, c_Md_met_12, c_Md_met_13, c_Md_met_14, c_Md_met_15, c_Md_met_16, c_Md_met_17, c_Md_met_18, c_Md_met_19, c_Md_met_20, c_Md_met_21, c_Md_met_22, c_Md_met_23, c_Md_met_24, c_Md_met_25, c_Md_met_26, c_Md_met_27, c_Md_met_28, c_Md_met_29, c_Md_met_30, c_Md_met_31, c_Md_met_32, c_Md_met_33, c_Md_met_34, c_Md_met_35, c_Md_met_36, c_Md_met_37, c_Md_met_38, c_Md_met_39, c_Md_met_40, c_Md_met_41, c_Md_met_42, c_Md_met_43, c_Md_met_44, c_Md_met_45, c_Md_met_46, c_Md_met_47, sx_aload_n, sx_bipush, sx_getfield, sx_goto, sx_iadd, sx_iaload, sx_iconst, sx_ifCond_eq, sx_if_icmp_eq, sx_if_icmp_ge, sx_if_icmp_ne, sx_iinc, sx_iload, sx_iload_n, sx_imul, sx_ireturn, sx_istore, sx_istore_n, sx_zreturn, am_W_s, am_W_0, am_mm_some, List.mem_cons, or_false, false_or, or_self, or_true, true_or, reduceIte, if_false, if_true, am_o_some, am_o_none, am_o_bad, am_o_good, am_ldi_hit, am_ldi_miss, am_lda_hit, am_lda_miss, am_ldl_hit, am_ldl_miss, am_inc_eq, am_inc_hit, am_inc_miss, am_ob_hit, am_fd_0, am_fd_s, am_ai_hit, am_ab_3, am_al_hit, am_aq_4, am_al0_hit, am_put_1, am_put_2, am_put_put, am_up_hit, am_up_miss, am_s1_eq, am_s2_eq, am_fl_nil, am_fl_hit, am_fl_int, am_fl_ref, am_fl_long, am_fl_longx, am_fl2_nil, am_fl2_hit, am_fl2_hit1, am_fl2_int, am_fl2_ref, am_fl2_long, List.not_mem_nil, not_false_eq_true, ne_eq, Nat.reduceAdd, Nat.reduceEqDiff, Nat.zero_add, Nat.add_left_cancel_iff, List.set_cons_zero, List.set_cons_succ, List.length_cons, List.length_nil, Nat.reduceLT, am_ft_i, am_ft_r, am_ft_z, and_true, true_and, Option.toList_some, Option.toList_none, List.cons_append, List.nil_append, List.drop_succ_cons, List.drop_zero, iI_c, iI_b, iI_s, iI_n, iI_add, iI_sub, iI_mul, iI_neg, iI_nle, iI_ix, iI_eq0, iI_eq1, iI_lt0, iI_0lt, iI_le0, iI_0le, iI_eq, iI_lt, iI_le, iI_upd, iI_updZ, Int.reduceEq, Int.reduceLT, Int.reduceLE, Int.reduceNeg, Int.reduceNe, hO, hA, e24, md_fs_len, md_f0, md_f1, md_f2, md_f3, md_f4, md_f5, md_f6, md_f7, md_f8, md_f9, md_f10, md_f11, md_f12, md_f13, md_f14, md_f15, md_f16, md_f17, md_f18, md_f19, md_f20, md_f21, md_f22, md_f23, md_f24, md_f25, md_f26, md_f27, md_f28, md_f29, md_f30, md_f31, md_f32, md_f33, md_f34, md_f35, md_s0, md_s1, md_s15, md_s16, md_s17, md_s23, md_s24, md_s31, md_t1, md_t2, md_t3, md_t4, md_t5, md_t6, md_t7, md_t8, md_t9, md_t10, md_t11, md_t12, md_t13, md_t14, md_t15, md_t16, md_t17, md_t18, md_t19, md_t20, md_t21, md_t22, md_t23, md_t24, md_t25, md_t26, md_t27, md_t28, md_l1, md_l2, md_l3, md_l4, md_l5, md_l6, md_l7, md_l8, md_l9, md_l10, md_l11, md_l12, md_l13, md_l14, md_l15, md_l16, md_l17, md_l18, md_l19, md_l20, md_l21, md_l22, md_l23, md_l24, md_l25, md_l26, md_l27, md_l28]
        repeat (refine And.intro (by omega) ?_)
        exact g.lo (al_le_of (by simp) (by simp))
set_option maxHeartbeats 8000000 in
theorem ct_met (d : Nat) (hd : 1 ≤ d) (h : am_H) (o : Nat) (I : Nat → Int) (F : Nat → Int → Int) (H : md_at h o I F) (hs : ∀ k : Int, 0 ≤ k ∧ k < 66 → -100 ≤ F 13 k ∧ F 13 k ≤ 100) (hq : Int → Int) (n : Nat) (hn : n ≤ 3000) (hp : pc_ok F hq n) (b : Int) (hb : 0 ≤ b ∧ b < 4096) : am_Ct am_df am_MT d 159 [.ref o, .int (iI b)] h (fun r0 h' => (∃ z, r0 = some (.int (iI z)) ∧ (z = -1 ∧ (∀ q : Int, 0 ≤ q ∧ q < n → hq q = b → ¬ eqv F q) ∨ (0 ≤ z ∧ z < n) ∧ eqv F z)) ∧ h' = h) := by
  have H' := H
  obtain ⟨h00, hO, hA⟩ := H'
  have e := hp.1 b hb
  have l := lastp_rg (hq := hq) (b := b) n
  obtain ⟨d, rfl⟩ : ∃ e, d = e + 1 := ⟨d - 1, by omega⟩
  refine am_ct_of2 mt_Md_met (Nat.le_of_ble_eq_true rfl) ?_
  simp only [ar_nil, ar_int, ar_ref, ar_long, Nat.reduceAdd]
  refine am_go_of 10 [5, 12] _ c_Md_met_0 ?_
  simp (maxSteps := 2000000) (disch := omega) only [c_Md_met_0, c_Md_met_1, c_Md_met_2, c_Md_met_3, c_Md_met_4, c_Md_met_5, c_Md_met_6, c_Md_met_7, c_Md_met_8, c_Md_met_9, c_Md_met_10, c_Md_met_11, c_Md_met_12, c_Md_met_13, c_Md_met_14, c_Md_met_15, c_Md_met_16, c_Md_met_17, c_Md_met_18, c_Md_met_19, c_Md_met_20, c_Md_met_21, c_Md_met_22, c_Md_met_23, c_Md_met_24, c_Md_met_25, c_Md_met_26, c_Md_met_27, c_Md_met_28, c_Md_met_29, c_Md_met_30, c_Md_met_31, c_Md_met_32, c_Md_met_33, c_Md_met_34, c_Md_met_35, c_Md_met_36, c_Md_met_37, c_Md_met_38, c_Md_met_39, c_Md_met_40, c_Md_met_41, c_Md_met_42, c_Md_met_43, c_Md_met_44, c_Md_met_45, c_Md_met_46, c_Md_met_47, sx_aload_n, sx_bipush, sx_getfield, sx_goto, sx_iadd, sx_iaload, sx_iconst, sx_ifCond_eq, sx_if_icmp_eq, sx_if_icmp_ge, sx_if_icmp_ne, sx_iinc, sx_iload, sx_iload_n, sx_imul, sx_ireturn, sx_istore, sx_istore_n, sx_zreturn, am_W_s, am_W_0, am_mm_some, List.mem_cons, or_false, false_or, or_self, or_true, true_or, reduceIte, if_false, if_true, am_o_some, am_o_none, am_o_bad, am_o_good, am_ldi_hit, am_ldi_miss, am_lda_hit, am_lda_miss, am_ldl_hit, am_ldl_miss, am_inc_eq, am_inc_hit, am_inc_miss, am_ob_hit, am_fd_0, am_fd_s, am_ai_hit, am_ab_3, am_al_hit, am_aq_4, am_al0_hit, am_put_1, am_put_2, am_put_put, am_up_hit, am_up_miss, am_s1_eq, am_s2_eq, am_fl_nil, am_fl_hit, am_fl_int, am_fl_ref, am_fl_long, am_fl_longx, am_fl2_nil, am_fl2_hit, am_fl2_hit1, am_fl2_int, am_fl2_ref, am_fl2_long, List.not_mem_nil, not_false_eq_true, ne_eq, Nat.reduceAdd, Nat.reduceEqDiff, Nat.zero_add, Nat.add_left_cancel_iff, List.set_cons_zero, List.set_cons_succ, List.length_cons, List.length_nil, Nat.reduceLT, am_ft_i, am_ft_r, am_ft_z, and_true, true_and, Option.toList_some, Option.toList_none, List.cons_append, List.nil_append, List.drop_succ_cons, List.drop_zero, iI_c, iI_b, iI_s, iI_n, iI_add, iI_sub, iI_mul, iI_neg, iI_nle, iI_ix, iI_eq0, iI_eq1, iI_lt0, iI_0lt, iI_le0, iI_0le, iI_eq, iI_lt, iI_le, iI_upd, iI_updZ, Int.reduceEq, Int.reduceLT, Int.reduceLE, Int.reduceNeg, Int.reduceNe, hO, hA, e, md_fs_len, md_f0, md_f1, md_f2, md_f3, md_f4, md_f5, md_f6, md_f7, md_f8, md_f9, md_f10, md_f11, md_f12, md_f13, md_f14, md_f15, md_f16, md_f17, md_f18, md_f19, md_f20, md_f21, md_f22, md_f23, md_f24, md_f25, md_f26, md_f27, md_f28, md_f29, md_f30, md_f31, md_f32, md_f33, md_f34, md_f35, md_s0, md_s1, md_s15, md_s16, md_s17, md_s23, md_s24, md_s31, md_t1, md_t2, md_t3, md_t4, md_t5, md_t6, md_t7, md_t8, md_t9, md_t10, md_t11, md_t12, md_t13, md_t14, md_t15, md_t16, md_t17, md_t18, md_t19, md_t20, md_t21, md_t22, md_t23, md_t24, md_t25, md_t26, md_t27, md_t28, md_l1, md_l2, md_l3, md_l4, md_l5, md_l6, md_l7, md_l8, md_l9, md_l10, md_l11, md_l12, md_l13, md_l14, md_l15, md_l16, md_l17, md_l18, md_l19, md_l20, md_l21, md_l22, md_l23, md_l24, md_l25, md_l26, md_l27, md_l28]
  repeat (refine And.intro (by omega) ?_)
  exact (lp_met d h o I F H hs hq n hn hp b n (Nat.le_refl n) (fun q hq2 => by omega)).lo (al_le_of (by simp) (by simp))
/-- the run's numbers, put to the POINT p, from i on -/
def cpy (f s : Int → Int) (p i : Int) : Int → Int := fun j => if 66 * p + i ≤ j ∧ j < 66 * p + 66 then s (j - 66 * p) else f j
theorem cpy_s {f s : Int → Int} {p i : Int} (h : 0 ≤ i ∧ i < 66) : cpy (vI f (66 * p + i) (s i)) s p (i + 1) = cpy f s p i := by
  funext j
  unfold cpy vI
  by_cases c1 : j = 66 * p + i
  · rw [if_neg (by omega), if_pos c1, if_pos (by omega), c1, show 66 * p + i - 66 * p = i by omega]
  · by_cases c2 : 66 * p + i ≤ j ∧ j < 66 * p + 66
    · rw [if_pos (by omega), if_pos c2]
    · rw [if_neg (by omega), if_neg c1, if_neg c2]
theorem cpy_e {f s : Int → Int} {p : Int} : cpy f s p 66 = f := by
  funext j
  unfold cpy
  rw [if_neg (by omega)]
/-- what keep does behind the numbers of the POINT -/
def kp_F (F : Nat → Int → Int) (n b was th : Int) : Nat → Int → Int := va_up (va_up (va_up (va_up (va_up F 20 (vI (F 20) n was)) 21 (vI (F 21) n th)) 22 (vI (F 22) n 0)) 24 (vI (F 24) n (F 23 b))) 23 (vI (F 23) b n)
set_option maxHeartbeats 8000000 in
theorem lp_keep (d : Nat) (o : Nat) (I : Nat → Int) (b was th n : Int) (hn : 0 ≤ n ∧ n < 3000) (hb : 0 ≤ b ∧ b < 4096) (e6 : I 6 = n) : ∀ (k : Nat) (i : Int) (h : am_H) (F : Nat → Int → Int), md_at h o I F → (-1 ≤ F 23 b ∧ F 23 b < 3000) → 0 ≤ i → i + k = 66 → am_Go am_df am_MT d c_Md_keep (5, [(5, .int (iI i)), (4, .int (iI n)), (0, .ref o), (1, .int (iI b)), (2, .int (iI was)), (3, .int (iI th))], [], h) (fun r0 h' => r0 = none ∧ md_to h o (va_up I 6 (n + 1)) (kp_F (va_up F 19 (cpy (F 19) (F 13) n i)) n b was th) h') := by
  intro k
  induction k with
  | zero =>
    intro i h F H h23 h1 h2
    have H' := H
    obtain ⟨h00, hO, hA⟩ := H'
    have c : (66 : Int) ≤ i := by omega
    have ei : i = 66 := by omega
    rw [ei, cpy_e, va_up_same (f := F) (k := 19) rfl, ← e6]
    rw [← e6] at hn
    unfold kp_F
    have w := (((((H.rf.row (k := 20) (t := 0) (n := 3000) (g := vI (F 20) (I 6) was) ⟨by decide, by decide⟩ rfl rfl).row (k := 21) (t := 0) (n := 3000) (g := vI (F 21) (I 6) th) ⟨by decide, by decide⟩ rfl rfl).row (k := 22) (t := 0) (n := 3000) (g := vI (F 22) (I 6) 0) ⟨by decide, by decide⟩ rfl rfl).row (k := 24) (t := 0) (n := 3000) (g := vI (F 24) (I 6) (F 23 b)) ⟨by decide, by decide⟩ rfl rfl).row (k := 23) (t := 0) (n := 4096) (g := vI (F 23) b (I 6)) ⟨by decide, by decide⟩ rfl rfl).num (I1 := va_up I 6 (I 6 + 1))
    have c2 : (66 : Int) ≤ 66 := by decide
    refine am_go_of 70 [5] _ c_Md_keep_5 ?_
    simp (maxSteps := 2000000) (disch := omega) only [c_Md_keep_0, c_Md_keep_1, c_Md_keep_2, c_Md_keep_3, c_Md_keep_4, c_Md_keep_5, c_Md_keep_6, c_Md_keep_7, c_Md_keep_8, c_Md_keep_9, c_Md_keep_10, c_Md_keep_11, c_Md_keep_12, c_Md_keep_13, c_Md_keep_14, c_Md_keep_15, c_Md_keep_16, c_Md_keep_17, c_Md_keep_18, c_Md_keep_19, c_Md_keep_20, c_Md_keep_21, c_Md_keep_22, c_Md_keep_23, c_Md_keep_24, c_Md_keep_25, c_Md_keep_26, c_Md_keep_27, c_Md_keep_28, c_Md_keep_29, c_Md_keep_30, c_Md_keep_31, c_Md_keep_32, c_Md_keep_33, c_Md_keep_34, c_Md_keep_35, c_Md_keep_36, c_Md_keep_37, c_Md_keep_38, c_Md_keep_39, c_Md_keep_40, c_Md_keep_41, c_Md_keep_42, c_Md_keep_43, c_Md_keep_44, c_Md_keep_45, c_Md_keep_46, c_Md_keep_47, c_Md_keep_48, c_Md_keep_49, c_Md_keep_50, c_Md_keep_51, c_Md_keep_52, c_Md_keep_53, c_Md_keep_54, c_Md_keep_55, c_Md_keep_56, sx_aload_n, sx_bipush, sx_dup_i, sx_dup_r, sx_getfield, sx_goto, sx_iadd, sx_iaload, sx_iastore, sx_iconst, sx_if_icmp_ge, sx_iinc, sx_iload, sx_iload_n, sx_imul, sx_istore, sx_putfield, sx_return, am_W_s, am_W_0, am_mm_some, List.mem_cons, or_false, false_or, or_self, or_true, true_or, reduceIte, if_false, if_true, am_o_some, am_o_none, am_o_bad, am_o_good, am_ldi_hit, am_ldi_miss, am_lda_hit, am_lda_miss, am_ldl_hit, am_ldl_miss, am_inc_eq, am_inc_hit, am_inc_miss, am_ob_hit, am_fd_0, am_fd_s, am_ai_hit, am_ab_3, am_al_hit, am_aq_4, am_al0_hit, am_put_1, am_put_2, am_put_put, am_up_hit, am_up_miss, am_s1_eq, am_s2_eq, am_fl_nil, am_fl_hit, am_fl_int, am_fl_ref, am_fl_long, am_fl_longx, am_fl2_nil, am_fl2_hit, am_fl2_hit1, am_fl2_int, am_fl2_ref, am_fl2_long, List.not_mem_nil, not_false_eq_true, ne_eq, Nat.reduceAdd, Nat.reduceEqDiff, Nat.zero_add, Nat.add_left_cancel_iff, List.set_cons_zero, List.set_cons_succ, List.length_cons, List.length_nil, Nat.reduceLT, am_ft_i, am_ft_r, am_ft_z, and_true, true_and, Option.toList_some, Option.toList_none, List.cons_append, List.nil_append, List.drop_succ_cons, List.drop_zero, iI_c, iI_b, iI_s, iI_n, iI_add, iI_sub, iI_mul, iI_neg, iI_nle, iI_ix, iI_eq0, iI_eq1, iI_lt0, iI_0lt, iI_le0, iI_0le, iI_eq, iI_lt, iI_le, iI_upd, iI_updZ, Int.reduceEq, Int.reduceLT, Int.reduceLE, Int.reduceNeg, Int.reduceNe, hO, hA, c2, md_fs_len, md_f0, md_f1, md_f2, md_f3, md_f4, md_f5, md_f6, md_f7, md_f8, md_f9, md_f10, md_f11, md_f12, md_f13, md_f14, md_f15, md_f16, md_f17, md_f18, md_f19, md_f20, md_f21, md_f22, md_f23, md_f24, md_f25, md_f26, md_f27, md_f28, md_f29, md_f30, md_f31, md_f32, md_f33, md_f34, md_f35, md_s0, md_s1, md_s15, md_s16, md_s17, md_s23, md_s24, md_s31, md_t1, md_t2, md_t3, md_t4, md_t5, md_t6, md_t7, md_t8, md_t9, md_t10, md_t11, md_t12, md_t13, md_t14, md_t15, md_t16, md_t17, md_t18, md_t19, md_t20, md_t21, md_t22, md_t23, md_t24, md_t25, md_t26, md_t27, md_t28, md_l1, md_l2, md_l3, md_l4, md_l5, md_l6, md_l7, md_l8, md_l9, md_l10, md_l11, md_l12, md_l13, md_l14, md_l15, md_l16, md_l17, md_l18, md_l19, md_l20, md_l21, md_l22, md_l23, md_l24, md_l25, md_l26, md_l27, md_l28]
    repeat (refine And.intro (by omega) ?_)
    exact w
  | succ k ih =>
    intro i h F H h23 h1 h2
    have H' := H
    obtain ⟨h00, hO, hA⟩ := H'
    have c : ¬ (66 : Int) ≤ i := by omega
    have w := H.rf.row (k := 19) (t := 0) (n := 198000) (g := vI (F 19) (66 * n + i) (F 13 i)) ⟨by decide, by decide⟩ rfl rfl
    have g := ih (i + 1) _ _ w.1 h23 (by omega) (by omega)
    rw [va_up_up, va_up_hit, va_up_miss (show (13 : Nat) ≠ 19 by decide), cpy_s ⟨h1, by omega⟩] at g
    have g2 := g.mono (fun r0 h3 z => (⟨z.1, w.tr z.2⟩ : r0 = none ∧ md_to h o (va_up I 6 (n + 1)) (kp_F (va_up F 19 (cpy (F 19) (F 13) n i)) n b was th) h3))
    clear ih g
    refine am_go_of 20 [5] _ c_Md_keep_5 ?_
    simp (maxSteps := 2000000) (disch := omega) only [c_Md_keep_0, c_Md_keep_1, c_Md_keep_2, c_Md_keep_3, c_Md_keep_4, c_Md_keep_5, c_Md_keep_6, c_Md_keep_7, c_Md_keep_8, c_Md_keep_9, c_Md_keep_10, c_Md_keep_11, c_Md_keep_12, c_Md_keep_13, c_Md_keep_14, c_Md_keep_15, c_Md_keep_16, c_Md_keep_17, c_Md_keep_18, c_Md_keep_19, c_Md_keep_20, c_Md_keep_21, c_Md_keep_22, c_Md_keep_23, c_Md_keep_24, c_Md_keep_25, c_Md_keep_26, c_Md_keep_27, c_Md_keep_28, c_Md_keep_29, c_Md_keep_30, c_Md_keep_31, c_Md_keep_32, c_Md_keep_33, c_Md_keep_34, c_Md_keep_35, c_Md_keep_36, c_Md_keep_37, c_Md_keep_38, c_Md_keep_39, c_Md_keep_40, c_Md_keep_41, c_Md_keep_42, c_Md_keep_43, c_Md_keep_44, c_Md_keep_45, c_Md_keep_46, c_Md_keep_47, c_Md_keep_48, c_Md_keep_49, c_Md_keep_50, c_Md_keep_51, c_Md_keep_52, c_Md_keep_53, c_Md_keep_54, c_Md_keep_55, c_Md_keep_56, sx_aload_n, sx_bipush, sx_dup_i, sx_dup_r, sx_getfield, sx_goto, sx_iadd, sx_iaload, sx_iastore, sx_iconst, sx_if_icmp_ge, sx_iinc, sx_iload, sx_iload_n, sx_imul, sx_istore, sx_putfield, sx_return, am_W_s, am_W_0, am_mm_some, List.mem_cons, or_false, false_or, or_self, or_true, true_or, reduceIte, if_false, if_true, am_o_some, am_o_none, am_o_bad, am_o_good, am_ldi_hit, am_ldi_miss, am_lda_hit, am_lda_miss, am_ldl_hit, am_ldl_miss, am_inc_eq, am_inc_hit, am_inc_miss, am_ob_hit, am_fd_0, am_fd_s, am_ai_hit, am_ab_3, am_al_hit, am_aq_4, am_al0_hit, am_put_1, am_put_2, am_put_put, am_up_hit, am_up_miss, am_s1_eq, am_s2_eq, am_fl_nil, am_fl_hit, am_fl_int, am_fl_ref, am_fl_long, am_fl_longx, am_fl2_nil, am_fl2_hit, am_fl2_hit1, am_fl2_int, am_fl2_ref, am_fl2_long, List.not_mem_nil, not_false_eq_true, ne_eq, Nat.reduceAdd, Nat.reduceEqDiff, Nat.zero_add, Nat.add_left_cancel_iff, List.set_cons_zero, List.set_cons_succ, List.length_cons, List.length_nil, Nat.reduceLT, am_ft_i, am_ft_r, am_ft_z, and_true, true_and, Option.toList_some, Option.toList_none, List.cons_append, List.nil_append, List.drop_succ_cons, List.drop_zero, iI_c, iI_b, iI_s, iI_n, iI_add, iI_sub, iI_mul, iI_neg, iI_nle, iI_ix, iI_eq0, iI_eq1, iI_lt0, iI_0lt, iI_le0, iI_0le, iI_eq, iI_lt, iI_le, iI_upd, iI_updZ, Int.reduceEq, Int.reduceLT, Int.reduceLE, Int.reduceNeg, Int.reduceNe, hO, hA, c, md_fs_len, md_f0, md_f1, md_f2, md_f3, md_f4, md_f5, md_f6, md_f7, md_f8, md_f9, md_f10, md_f11, md_f12, md_f13, md_f14, md_f15, md_f16, md_f17, md_f18, md_f19, md_f20, md_f21, md_f22, md_f23, md_f24, md_f25, md_f26, md_f27, md_f28, md_f29, md_f30, md_f31, md_f32, md_f33, md_f34, md_f35, md_s0, md_s1, md_s15, md_s16, md_s17, md_s23, md_s24, md_s31, md_t1, md_t2, md_t3, md_t4, md_t5, md_t6, md_t7, md_t8, md_t9, md_t10, md_t11, md_t12, md_t13, md_t14, md_t15, md_t16, md_t17, md_t18, md_t19, md_t20, md_t21, md_t22, md_t23, md_t24, md_t25, md_t26, md_t27, md_t28, md_l1, md_l2, md_l3, md_l4, md_l5, md_l6, md_l7, md_l8, md_l9, md_l10, md_l11, md_l12, md_l13, md_l14, md_l15, md_l16, md_l17, md_l18, md_l19, md_l20, md_l21, md_l22, md_l23, md_l24, md_l25, md_l26, md_l27, md_l28]
    repeat (refine And.intro (by omega) ?_)
    exact g2.lo (al_le_of (by simp) (by simp))
set_option maxHeartbeats 8000000 in
theorem ct_keep (d : Nat) (hd : 1 ≤ d) (h : am_H) (o : Nat) (I : Nat → Int) (F : Nat → Int → Int) (H : md_at h o I F) (b was th n : Int) (hn : 0 ≤ n ∧ n < 3000) (hb : 0 ≤ b ∧ b < 4096) (e6 : I 6 = n) (h23 : -1 ≤ F 23 b ∧ F 23 b < 3000) : am_Ct am_df am_MT d 155 [.ref o, .int (iI b), .int (iI was), .int (iI th)] h (fun r0 h' => r0 = none ∧ md_to h o (va_up I 6 (n + 1)) (kp_F (va_up F 19 (cpy (F 19) (F 13) n 0)) n b was th) h') := by
  have H' := H
  obtain ⟨h00, hO, hA⟩ := H'
  have g := lp_keep (d - 1) o I b was th n hn hb e6 66 0 h F H h23 (Int.le_refl _) (by decide)
  obtain ⟨d, rfl⟩ : ∃ e, d = e + 1 := ⟨d - 1, by omega⟩
  rw [Nat.add_sub_cancel] at g
  refine am_ct_of2 mt_Md_keep (Nat.le_of_ble_eq_true rfl) ?_
  simp only [ar_nil, ar_int, ar_ref, ar_long, Nat.reduceAdd]
  generalize (fun (r0 : Option Value) (h' : am_H) => r0 = none ∧ md_to h o (va_up I 6 (n + 1)) (kp_F (va_up F 19 (cpy (F 19) (F 13) n 0)) n b was th) h') = Q at *
  refine am_go_of 10 [5] _ c_Md_keep_0 ?_
  simp (maxSteps := 2000000) (disch := omega) only [c_Md_keep_0, c_Md_keep_1, c_Md_keep_2, c_Md_keep_3, c_Md_keep_4, c_Md_keep_5, c_Md_keep_6, c_Md_keep_7, c_Md_keep_8, c_Md_keep_9, c_Md_keep_10, c_Md_keep_11, c_Md_keep_12, c_Md_keep_13, c_Md_keep_14, c_Md_keep_15, c_Md_keep_16, c_Md_keep_17, c_Md_keep_18, c_Md_keep_19, c_Md_keep_20, c_Md_keep_21, c_Md_keep_22, c_Md_keep_23, c_Md_keep_24, c_Md_keep_25, c_Md_keep_26, c_Md_keep_27, c_Md_keep_28, c_Md_keep_29, c_Md_keep_30, c_Md_keep_31, c_Md_keep_32, c_Md_keep_33, c_Md_keep_34, c_Md_keep_35, c_Md_keep_36, c_Md_keep_37, c_Md_keep_38, c_Md_keep_39, c_Md_keep_40, c_Md_keep_41, c_Md_keep_42, c_Md_keep_43, c_Md_keep_44, c_Md_keep_45, c_Md_keep_46, c_Md_keep_47, c_Md_keep_48, c_Md_keep_49, c_Md_keep_50, c_Md_keep_51, c_Md_keep_52, c_Md_keep_53, c_Md_keep_54, c_Md_keep_55, c_Md_keep_56, sx_aload_n, sx_bipush, sx_dup_i, sx_dup_r, sx_getfield, sx_goto, sx_iadd, sx_iaload, sx_iastore, sx_iconst, sx_if_icmp_ge, sx_iinc, sx_iload, sx_iload_n, sx_imul, sx_istore, sx_putfield, sx_return, am_W_s, am_W_0, am_mm_some, List.mem_cons, or_false, false_or, or_self, or_true, true_or, reduceIte, if_false, if_true, am_o_some, am_o_none, am_o_bad, am_o_good, am_ldi_hit, am_ldi_miss, am_lda_hit, am_lda_miss, am_ldl_hit, am_ldl_miss, am_inc_eq, am_inc_hit, am_inc_miss, am_ob_hit, am_fd_0, am_fd_s, am_ai_hit, am_ab_3, am_al_hit, am_aq_4, am_al0_hit, am_put_1, am_put_2, am_put_put, am_up_hit, am_up_miss, am_s1_eq, am_s2_eq, am_fl_nil, am_fl_hit, am_fl_int, am_fl_ref, am_fl_long, am_fl_longx, am_fl2_nil, am_fl2_hit, am_fl2_hit1, am_fl2_int, am_fl2_ref, am_fl2_long, List.not_mem_nil, not_false_eq_true, ne_eq, Nat.reduceAdd, Nat.reduceEqDiff, Nat.zero_add, Nat.add_left_cancel_iff, List.set_cons_zero, List.set_cons_succ, List.length_cons, List.length_nil, Nat.reduceLT, am_ft_i, am_ft_r, am_ft_z, and_true, true_and, Option.toList_some, Option.toList_none, List.cons_append, List.nil_append, List.drop_succ_cons, List.drop_zero, iI_c, iI_b, iI_s, iI_n, iI_add, iI_sub, iI_mul, iI_neg, iI_nle, iI_ix, iI_eq0, iI_eq1, iI_lt0, iI_0lt, iI_le0, iI_0le, iI_eq, iI_lt, iI_le, iI_upd, iI_updZ, Int.reduceEq, Int.reduceLT, Int.reduceLE, Int.reduceNeg, Int.reduceNe, hO, e6, md_fs_len, md_f0, md_f1, md_f2, md_f3, md_f4, md_f5, md_f6, md_f7, md_f8, md_f9, md_f10, md_f11, md_f12, md_f13, md_f14, md_f15, md_f16, md_f17, md_f18, md_f19, md_f20, md_f21, md_f22, md_f23, md_f24, md_f25, md_f26, md_f27, md_f28, md_f29, md_f30, md_f31, md_f32, md_f33, md_f34, md_f35, md_s0, md_s1, md_s15, md_s16, md_s17, md_s23, md_s24, md_s31, md_t1, md_t2, md_t3, md_t4, md_t5, md_t6, md_t7, md_t8, md_t9, md_t10, md_t11, md_t12, md_t13, md_t14, md_t15, md_t16, md_t17, md_t18, md_t19, md_t20, md_t21, md_t22, md_t23, md_t24, md_t25, md_t26, md_t27, md_t28, md_l1, md_l2, md_l3, md_l4, md_l5, md_l6, md_l7, md_l8, md_l9, md_l10, md_l11, md_l12, md_l13, md_l14, md_l15, md_l16, md_l17, md_l18, md_l19, md_l20, md_l21, md_l22, md_l23, md_l24, md_l25, md_l26, md_l27, md_l28]
  exact g.lo (al_le_of (by simp) (by simp))
/-- the POINT p, put to the run's numbers, from i on -/
def ldp (s f : Int → Int) (p i : Int) : Int → Int := fun k => if i ≤ k ∧ k < 66 then f (66 * p + k) else s k
theorem ldp_s {s f : Int → Int} {p i : Int} (h : i < 66) : ldp (vI s i (f (66 * p + i))) f p (i + 1) = ldp s f p i := by
  funext k
  unfold ldp vI
  by_cases c1 : k = i
  · rw [if_neg (by omega), if_pos c1, if_pos (by omega), c1]
  · by_cases c2 : i ≤ k ∧ k < 66
    · rw [if_pos (by omega), if_pos c2]
    · rw [if_neg (by omega), if_neg c1, if_neg c2]
theorem ldp_e {s f : Int → Int} {p : Int} : ldp s f p 66 = s := by
  funext k
  unfold ldp
  rw [if_neg (by omega)]
set_option maxHeartbeats 8000000 in
theorem lp_load (d : Nat) (o : Nat) (I : Nat → Int) (p : Int) (hp : 0 ≤ p ∧ p < 3000) : ∀ (n : Nat) (i : Int) (h : am_H) (F : Nat → Int → Int), md_at h o I F → 0 ≤ i → i + n = 66 → am_Go am_df am_MT d c_Md_load (2, [(2, .int (iI i)), (0, .ref o), (1, .int (iI p))], [], h) (fun r0 h' => r0 = none ∧ md_to h o I (va_up F 13 (ldp (F 13) (F 19) p i)) h') := by
  intro n
  induction n with
  | zero =>
    intro i h F H h1 h2
    have H' := H
    obtain ⟨h00, hO, hA⟩ := H'
    have c : (66 : Int) ≤ i := by omega
    have ei : i = 66 := by omega
    have g : (none : Option Value) = none ∧ md_to h o I (va_up F 13 (ldp (F 13) (F 19) p i)) h := ⟨rfl, by rw [ei, ldp_e, va_up_same rfl]; exact H.rf⟩
    refine am_go_of 10 [2] _ c_Md_load_2 ?_
    simp (maxSteps := 2000000) (disch := omega) only [c_Md_load_0, c_Md_load_1, c_Md_load_2, c_Md_load_3, c_Md_load_4, c_Md_load_5, c_Md_load_6, c_Md_load_7, c_Md_load_8, c_Md_load_9, c_Md_load_10, c_Md_load_11, c_Md_load_12, c_Md_load_13, c_Md_load_14, c_Md_load_15, c_Md_load_16, c_Md_load_17, c_Md_load_18, c_Md_load_19, sx_aload_n, sx_bipush, sx_getfield, sx_goto, sx_iadd, sx_iaload, sx_iastore, sx_iconst, sx_if_icmp_ge, sx_iinc, sx_iload_n, sx_imul, sx_istore_n, sx_return, am_W_s, am_W_0, am_mm_some, List.mem_cons, or_false, false_or, or_self, or_true, true_or, reduceIte, if_false, if_true, am_o_some, am_o_none, am_o_bad, am_o_good, am_ldi_hit, am_ldi_miss, am_lda_hit, am_lda_miss, am_ldl_hit, am_ldl_miss, am_inc_eq, am_inc_hit, am_inc_miss, am_ob_hit, am_fd_0, am_fd_s, am_ai_hit, am_ab_3, am_al_hit, am_aq_4, am_al0_hit, am_put_1, am_put_2, am_put_put, am_up_hit, am_up_miss, am_s1_eq, am_s2_eq, am_fl_nil, am_fl_hit, am_fl_int, am_fl_ref, am_fl_long, am_fl_longx, am_fl2_nil, am_fl2_hit, am_fl2_hit1, am_fl2_int, am_fl2_ref, am_fl2_long, List.not_mem_nil, not_false_eq_true, ne_eq, Nat.reduceAdd, Nat.reduceEqDiff, Nat.zero_add, Nat.add_left_cancel_iff, List.set_cons_zero, List.set_cons_succ, List.length_cons, List.length_nil, Nat.reduceLT, am_ft_i, am_ft_r, am_ft_z, and_true, true_and, Option.toList_some, Option.toList_none, List.cons_append, List.nil_append, List.drop_succ_cons, List.drop_zero, iI_c, iI_b, iI_s, iI_n, iI_add, iI_sub, iI_mul, iI_neg, iI_nle, iI_ix, iI_eq0, iI_eq1, iI_lt0, iI_0lt, iI_le0, iI_0le, iI_eq, iI_lt, iI_le, iI_upd, iI_updZ, Int.reduceEq, Int.reduceLT, Int.reduceLE, Int.reduceNeg, Int.reduceNe, c, md_fs_len, md_f0, md_f1, md_f2, md_f3, md_f4, md_f5, md_f6, md_f7, md_f8, md_f9, md_f10, md_f11, md_f12, md_f13, md_f14, md_f15, md_f16, md_f17, md_f18, md_f19, md_f20, md_f21, md_f22, md_f23, md_f24, md_f25, md_f26, md_f27, md_f28, md_f29, md_f30, md_f31, md_f32, md_f33, md_f34, md_f35, md_s0, md_s1, md_s15, md_s16, md_s17, md_s23, md_s24, md_s31, md_t1, md_t2, md_t3, md_t4, md_t5, md_t6, md_t7, md_t8, md_t9, md_t10, md_t11, md_t12, md_t13, md_t14, md_t15, md_t16, md_t17, md_t18, md_t19, md_t20, md_t21, md_t22, md_t23, md_t24, md_t25, md_t26, md_t27, md_t28, md_l1, md_l2, md_l3, md_l4, md_l5, md_l6, md_l7, md_l8, md_l9, md_l10, md_l11, md_l12, md_l13, md_l14, md_l15, md_l16, md_l17, md_l18, md_l19, md_l20, md_l21, md_l22, md_l23, md_l24, md_l25, md_l26, md_l27, md_l28]
    exact g.2
  | succ n ih =>
    intro i h F H h1 h2
    have H' := H
    obtain ⟨h00, hO, hA⟩ := H'
    have c : ¬ (66 : Int) ≤ i := by omega
    have w := H.rf.row (k := 13) (t := 0) (n := 66) (g := vI (F 13) i (F 19 (66 * p + i))) ⟨by decide, by decide⟩ rfl rfl
    have g := ih (i + 1) _ _ w.1 (by omega) (by omega)
    rw [va_up_up, va_up_hit, va_up_miss (show (19 : Nat) ≠ 13 by decide), ldp_s (by omega)] at g
    have g2 := g.mono (fun r0 h3 z => (⟨z.1, w.tr z.2⟩ : r0 = none ∧ md_to h o I (va_up F 13 (ldp (F 13) (F 19) p i)) h3))
    clear ih g
    refine am_go_of 20 [2] _ c_Md_load_2 ?_
    simp (maxSteps := 2000000) (disch := omega) only [c_Md_load_0, c_Md_load_1, c_Md_load_2, c_Md_load_3, c_Md_load_4, c_Md_load_5, c_Md_load_6, c_Md_load_7, c_Md_load_8, c_Md_load_9, c_Md_load_10, c_Md_load_11, c_Md_load_12, c_Md_load_13, c_Md_load_14, c_Md_load_15, c_Md_load_16, c_Md_load_17, c_Md_load_18, c_Md_load_19, sx_aload_n, sx_bipush, sx_getfield, sx_goto, sx_iadd, sx_iaload, sx_iastore, sx_iconst, sx_if_icmp_ge, sx_iinc, sx_iload_n, sx_imul, sx_istore_n, sx_return, am_W_s, am_W_0, am_mm_some, List.mem_cons, or_false, false_or, or_self, or_true, true_or, reduceIte, if_false, if_true, am_o_some, am_o_none, am_o_bad, am_o_good, am_ldi_hit, am_ldi_miss, am_lda_hit, am_lda_miss, am_ldl_hit, am_ldl_miss, am_inc_eq, am_inc_hit, am_inc_miss, am_ob_hit, am_fd_0, am_fd_s, am_ai_hit, am_ab_3, am_al_hit, am_aq_4, am_al0_hit, am_put_1, am_put_2, am_put_put, am_up_hit, am_up_miss, am_s1_eq, am_s2_eq, am_fl_nil, am_fl_hit, am_fl_int, am_fl_ref, am_fl_long, am_fl_longx, am_fl2_nil, am_fl2_hit, am_fl2_hit1, am_fl2_int, am_fl2_ref, am_fl2_long, List.not_mem_nil, not_false_eq_true, ne_eq, Nat.reduceAdd, Nat.reduceEqDiff, Nat.zero_add, Nat.add_left_cancel_iff, List.set_cons_zero, List.set_cons_succ, List.length_cons, List.length_nil, Nat.reduceLT, am_ft_i, am_ft_r, am_ft_z, and_true, true_and, Option.toList_some, Option.toList_none, List.cons_append, List.nil_append, List.drop_succ_cons, List.drop_zero, iI_c, iI_b, iI_s, iI_n, iI_add, iI_sub, iI_mul, iI_neg, iI_nle, iI_ix, iI_eq0, iI_eq1, iI_lt0, iI_0lt, iI_le0, iI_0le, iI_eq, iI_lt, iI_le, iI_upd, iI_updZ, Int.reduceEq, Int.reduceLT, Int.reduceLE, Int.reduceNeg, Int.reduceNe, hO, hA, c, md_fs_len, md_f0, md_f1, md_f2, md_f3, md_f4, md_f5, md_f6, md_f7, md_f8, md_f9, md_f10, md_f11, md_f12, md_f13, md_f14, md_f15, md_f16, md_f17, md_f18, md_f19, md_f20, md_f21, md_f22, md_f23, md_f24, md_f25, md_f26, md_f27, md_f28, md_f29, md_f30, md_f31, md_f32, md_f33, md_f34, md_f35, md_s0, md_s1, md_s15, md_s16, md_s17, md_s23, md_s24, md_s31, md_t1, md_t2, md_t3, md_t4, md_t5, md_t6, md_t7, md_t8, md_t9, md_t10, md_t11, md_t12, md_t13, md_t14, md_t15, md_t16, md_t17, md_t18, md_t19, md_t20, md_t21, md_t22, md_t23, md_t24, md_t25, md_t26, md_t27, md_t28, md_l1, md_l2, md_l3, md_l4, md_l5, md_l6, md_l7, md_l8, md_l9, md_l10, md_l11, md_l12, md_l13, md_l14, md_l15, md_l16, md_l17, md_l18, md_l19, md_l20, md_l21, md_l22, md_l23, md_l24, md_l25, md_l26, md_l27, md_l28]
    repeat (refine And.intro (by omega) ?_)
    exact g2.lo (al_le_of (by simp) (by simp))
set_option maxHeartbeats 8000000 in
theorem ct_load (d : Nat) (hd : 1 ≤ d) (h : am_H) (o : Nat) (I : Nat → Int) (F : Nat → Int → Int) (H : md_at h o I F) (p : Int) (hp : 0 ≤ p ∧ p < 3000) : am_Ct am_df am_MT d 156 [.ref o, .int (iI p)] h (fun r0 h' => r0 = none ∧ md_to h o I (va_up F 13 (ldp (F 13) (F 19) p 0)) h') := by
  obtain ⟨d, rfl⟩ : ∃ e, d = e + 1 := ⟨d - 1, by omega⟩
  refine am_ct_of2 mt_Md_load (Nat.le_of_ble_eq_true rfl) ?_
  simp only [ar_nil, ar_int, ar_ref, ar_long, Nat.reduceAdd]
  refine am_go_of 10 [2] _ c_Md_load_0 ?_
  simp (maxSteps := 2000000) (disch := omega) only [c_Md_load_0, c_Md_load_1, c_Md_load_2, c_Md_load_3, c_Md_load_4, c_Md_load_5, c_Md_load_6, c_Md_load_7, c_Md_load_8, c_Md_load_9, c_Md_load_10, c_Md_load_11, c_Md_load_12, c_Md_load_13, c_Md_load_14, c_Md_load_15, c_Md_load_16, c_Md_load_17, c_Md_load_18, c_Md_load_19, sx_aload_n, sx_bipush, sx_getfield, sx_goto, sx_iadd, sx_iaload, sx_iastore, sx_iconst, sx_if_icmp_ge, sx_iinc, sx_iload_n, sx_imul, sx_istore_n, sx_return, am_W_s, am_W_0, am_mm_some, List.mem_cons, or_false, false_or, or_self, or_true, true_or, reduceIte, if_false, if_true, am_o_some, am_o_none, am_o_bad, am_o_good, am_ldi_hit, am_ldi_miss, am_lda_hit, am_lda_miss, am_ldl_hit, am_ldl_miss, am_inc_eq, am_inc_hit, am_inc_miss, am_ob_hit, am_fd_0, am_fd_s, am_ai_hit, am_ab_3, am_al_hit, am_aq_4, am_al0_hit, am_put_1, am_put_2, am_put_put, am_up_hit, am_up_miss, am_s1_eq, am_s2_eq, am_fl_nil, am_fl_hit, am_fl_int, am_fl_ref, am_fl_long, am_fl_longx, am_fl2_nil, am_fl2_hit, am_fl2_hit1, am_fl2_int, am_fl2_ref, am_fl2_long, List.not_mem_nil, not_false_eq_true, ne_eq, Nat.reduceAdd, Nat.reduceEqDiff, Nat.zero_add, Nat.add_left_cancel_iff, List.set_cons_zero, List.set_cons_succ, List.length_cons, List.length_nil, Nat.reduceLT, am_ft_i, am_ft_r, am_ft_z, and_true, true_and, Option.toList_some, Option.toList_none, List.cons_append, List.nil_append, List.drop_succ_cons, List.drop_zero, iI_c, iI_b, iI_s, iI_n, iI_add, iI_sub, iI_mul, iI_neg, iI_nle, iI_ix, iI_eq0, iI_eq1, iI_lt0, iI_0lt, iI_le0, iI_0le, iI_eq, iI_lt, iI_le, iI_upd, iI_updZ, Int.reduceEq, Int.reduceLT, Int.reduceLE, Int.reduceNeg, Int.reduceNe, md_fs_len, md_f0, md_f1, md_f2, md_f3, md_f4, md_f5, md_f6, md_f7, md_f8, md_f9, md_f10, md_f11, md_f12, md_f13, md_f14, md_f15, md_f16, md_f17, md_f18, md_f19, md_f20, md_f21, md_f22, md_f23, md_f24, md_f25, md_f26, md_f27, md_f28, md_f29, md_f30, md_f31, md_f32, md_f33, md_f34, md_f35, md_s0, md_s1, md_s15, md_s16, md_s17, md_s23, md_s24, md_s31, md_t1, md_t2, md_t3, md_t4, md_t5, md_t6, md_t7, md_t8, md_t9, md_t10, md_t11, md_t12, md_t13, md_t14, md_t15, md_t16, md_t17, md_t18, md_t19, md_t20, md_t21, md_t22, md_t23, md_t24, md_t25, md_t26, md_t27, md_t28, md_l1, md_l2, md_l3, md_l4, md_l5, md_l6, md_l7, md_l8, md_l9, md_l10, md_l11, md_l12, md_l13, md_l14, md_l15, md_l16, md_l17, md_l18, md_l19, md_l20, md_l21, md_l22, md_l23, md_l24, md_l25, md_l26, md_l27, md_l28]
  exact (lp_load d o I p hp 66 0 h F H (Int.le_refl _) (by decide)).lo (al_le_of (by simp) (by simp))
