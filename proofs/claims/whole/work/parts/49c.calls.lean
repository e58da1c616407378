theorem mt_Md_type : am_MT[106]? = some m_Md_type := rfl
theorem c_Md_type_0 : c_Md_type[0]? = some (0, 1, .iload_n 2, 2, 0, 0, 0, 0, []) := Eq.trans rfl rfl
theorem c_Md_type_1 : c_Md_type[1]? = some (1, 1, .iconst (-1), 0, 0, 0, 0, 0, []) := Eq.trans rfl rfl
theorem c_Md_type_2 : c_Md_type[2]? = some (2, 3, .if_icmp .eq 13, 9, 0, 0, 0, 0, []) := Eq.trans rfl rfl
theorem c_Md_type_3 : c_Md_type[3]? = some (5, 1, .aload_n 0, 0, 0, 0, 0, 0, []) := Eq.trans rfl rfl
theorem c_Md_type_4 : c_Md_type[4]? = some (6, 1, .iload_n 2, 2, 0, 0, 0, 0, []) := Eq.trans rfl rfl
theorem c_Md_type_5 : c_Md_type[5]? = some (7, 3, .invokevirtual 123, 107, 2, 8, 0, 870, []) := Eq.trans rfl rfl
theorem c_Md_type_6 : c_Md_type[6]? = some (10, 3, .ifCond .ne 5, 9, 0, 0, 0, 0, []) := Eq.trans rfl rfl
theorem c_Md_type_7 : c_Md_type[7]? = some (13, 1, .iconst (-1), 0, 0, 0, 0, 0, []) := Eq.trans rfl rfl
theorem c_Md_type_8 : c_Md_type[8]? = some (14, 1, .ireturn, 0, 0, 0, 0, 0, []) := Eq.trans rfl rfl
theorem c_Md_type_9 : c_Md_type[9]? = some (15, 1, .iload_n 1, 1, 0, 0, 0, 0, []) := Eq.trans rfl rfl
theorem c_Md_type_10 : c_Md_type[10]? = some (16, 1, .iconst 0, 0, 0, 0, 0, 0, []) := Eq.trans rfl rfl
theorem c_Md_type_11 : c_Md_type[11]? = some (17, 1, .iconst 2, 0, 0, 0, 0, 0, []) := Eq.trans rfl rfl
theorem c_Md_type_12 : c_Md_type[12]? = some (18, 3, .invokestatic 107, 108, 3, 0, 0, 874, []) := Eq.trans rfl rfl
theorem c_Md_type_13 : c_Md_type[13]? = some (21, 3, .ifCond .ne 6, 16, 0, 0, 0, 0, []) := Eq.trans rfl rfl
theorem c_Md_type_14 : c_Md_type[14]? = some (24, 2, .bipush (-2), 0, 0, 0, 0, 0, []) := Eq.trans rfl rfl
theorem c_Md_type_15 : c_Md_type[15]? = some (26, 1, .ireturn, 0, 0, 0, 0, 0, []) := Eq.trans rfl rfl
theorem c_Md_type_16 : c_Md_type[16]? = some (27, 1, .iload_n 2, 2, 0, 0, 0, 0, []) := Eq.trans rfl rfl
theorem c_Md_type_17 : c_Md_type[17]? = some (28, 1, .iconst (-1), 0, 0, 0, 0, 0, []) := Eq.trans rfl rfl
theorem c_Md_type_18 : c_Md_type[18]? = some (29, 3, .if_icmp .eq 19, 28, 0, 0, 0, 0, []) := Eq.trans rfl rfl
theorem c_Md_type_19 : c_Md_type[19]? = some (32, 1, .iload_n 1, 1, 0, 0, 0, 0, []) := Eq.trans rfl rfl
theorem c_Md_type_20 : c_Md_type[20]? = some (33, 3, .ifCond .ne 12, 26, 0, 0, 0, 0, []) := Eq.trans rfl rfl
theorem c_Md_type_21 : c_Md_type[21]? = some (36, 1, .aload_n 0, 0, 0, 0, 0, 0, []) := Eq.trans rfl rfl
theorem c_Md_type_22 : c_Md_type[22]? = some (37, 3, .getfield 7, 8, 2, 0, 0, 759, []) := Eq.trans rfl rfl
theorem c_Md_type_23 : c_Md_type[23]? = some (40, 1, .iload_n 2, 2, 0, 0, 0, 0, []) := Eq.trans rfl rfl
theorem c_Md_type_24 : c_Md_type[24]? = some (41, 1, .iaload, 0, 0, 0, 0, 0, []) := Eq.trans rfl rfl
theorem c_Md_type_25 : c_Md_type[25]? = some (42, 3, .ifCond .eq 6, 28, 0, 0, 0, 0, []) := Eq.trans rfl rfl
theorem c_Md_type_26 : c_Md_type[26]? = some (45, 2, .bipush (-3), 0, 0, 0, 0, 0, []) := Eq.trans rfl rfl
theorem c_Md_type_27 : c_Md_type[27]? = some (47, 1, .ireturn, 0, 0, 0, 0, 0, []) := Eq.trans rfl rfl
theorem c_Md_type_28 : c_Md_type[28]? = some (48, 1, .aload_n 0, 0, 0, 0, 0, 0, []) := Eq.trans rfl rfl
theorem c_Md_type_29 : c_Md_type[29]? = some (49, 3, .getfield 103, 8, 0, 0, 0, 757, []) := Eq.trans rfl rfl
theorem c_Md_type_30 : c_Md_type[30]? = some (52, 2, .bipush 6, 0, 0, 0, 0, 0, []) := Eq.trans rfl rfl
theorem c_Md_type_31 : c_Md_type[31]? = some (54, 3, .if_icmp .ne 6, 34, 0, 0, 0, 0, []) := Eq.trans rfl rfl
theorem c_Md_type_32 : c_Md_type[32]? = some (57, 2, .bipush (-4), 0, 0, 0, 0, 0, []) := Eq.trans rfl rfl
theorem c_Md_type_33 : c_Md_type[33]? = some (59, 1, .ireturn, 0, 0, 0, 0, 0, []) := Eq.trans rfl rfl
theorem c_Md_type_34 : c_Md_type[34]? = some (60, 1, .aload_n 0, 0, 0, 0, 0, 0, []) := Eq.trans rfl rfl
theorem c_Md_type_35 : c_Md_type[35]? = some (61, 3, .getfield 7, 8, 2, 0, 0, 759, []) := Eq.trans rfl rfl
theorem c_Md_type_36 : c_Md_type[36]? = some (64, 1, .aload_n 0, 0, 0, 0, 0, 0, []) := Eq.trans rfl rfl
theorem c_Md_type_37 : c_Md_type[37]? = some (65, 3, .getfield 103, 8, 0, 0, 0, 757, []) := Eq.trans rfl rfl
theorem c_Md_type_38 : c_Md_type[38]? = some (68, 1, .iload_n 1, 1, 0, 0, 0, 0, []) := Eq.trans rfl rfl
theorem c_Md_type_39 : c_Md_type[39]? = some (69, 1, .iastore, 0, 0, 0, 0, 0, []) := Eq.trans rfl rfl
theorem c_Md_type_40 : c_Md_type[40]? = some (70, 1, .aload_n 0, 0, 0, 0, 0, 0, []) := Eq.trans rfl rfl
theorem c_Md_type_41 : c_Md_type[41]? = some (71, 3, .getfield 13, 8, 3, 0, 0, 760, []) := Eq.trans rfl rfl
theorem c_Md_type_42 : c_Md_type[42]? = some (74, 1, .aload_n 0, 0, 0, 0, 0, 0, []) := Eq.trans rfl rfl
theorem c_Md_type_43 : c_Md_type[43]? = some (75, 3, .getfield 103, 8, 0, 0, 0, 757, []) := Eq.trans rfl rfl
theorem c_Md_type_44 : c_Md_type[44]? = some (78, 1, .iload_n 2, 2, 0, 0, 0, 0, []) := Eq.trans rfl rfl
theorem c_Md_type_45 : c_Md_type[45]? = some (79, 1, .iastore, 0, 0, 0, 0, 0, []) := Eq.trans rfl rfl
theorem c_Md_type_46 : c_Md_type[46]? = some (80, 1, .aload_n 0, 0, 0, 0, 0, 0, []) := Eq.trans rfl rfl
theorem c_Md_type_47 : c_Md_type[47]? = some (81, 3, .getfield 16, 8, 4, 0, 0, 761, []) := Eq.trans rfl rfl
theorem c_Md_type_48 : c_Md_type[48]? = some (84, 1, .aload_n 0, 0, 0, 0, 0, 0, []) := Eq.trans rfl rfl
theorem c_Md_type_49 : c_Md_type[49]? = some (85, 3, .getfield 103, 8, 0, 0, 0, 757, []) := Eq.trans rfl rfl
theorem c_Md_type_50 : c_Md_type[50]? = some (88, 1, .iconst 0, 0, 0, 0, 0, 0, []) := Eq.trans rfl rfl
theorem c_Md_type_51 : c_Md_type[51]? = some (89, 1, .iastore, 0, 0, 0, 0, 0, []) := Eq.trans rfl rfl
theorem c_Md_type_52 : c_Md_type[52]? = some (90, 1, .aload_n 0, 0, 0, 0, 0, 0, []) := Eq.trans rfl rfl
theorem c_Md_type_53 : c_Md_type[53]? = some (91, 3, .getfield 22, 8, 6, 0, 0, 763, []) := Eq.trans rfl rfl
theorem c_Md_type_54 : c_Md_type[54]? = some (94, 1, .aload_n 0, 0, 0, 0, 0, 0, []) := Eq.trans rfl rfl
theorem c_Md_type_55 : c_Md_type[55]? = some (95, 3, .getfield 103, 8, 0, 0, 0, 757, []) := Eq.trans rfl rfl
theorem c_Md_type_56 : c_Md_type[56]? = some (98, 1, .iconst 0, 0, 0, 0, 0, 0, []) := Eq.trans rfl rfl
theorem c_Md_type_57 : c_Md_type[57]? = some (99, 1, .bastore, 0, 0, 0, 0, 0, []) := Eq.trans rfl rfl
theorem c_Md_type_58 : c_Md_type[58]? = some (100, 1, .aload_n 0, 0, 0, 0, 0, 0, []) := Eq.trans rfl rfl
theorem c_Md_type_59 : c_Md_type[59]? = some (101, 3, .getfield 32, 8, 9, 0, 0, 766, []) := Eq.trans rfl rfl
theorem c_Md_type_60 : c_Md_type[60]? = some (104, 1, .aload_n 0, 0, 0, 0, 0, 0, []) := Eq.trans rfl rfl
theorem c_Md_type_61 : c_Md_type[61]? = some (105, 3, .getfield 103, 8, 0, 0, 0, 757, []) := Eq.trans rfl rfl
theorem c_Md_type_62 : c_Md_type[62]? = some (108, 1, .iconst 0, 0, 0, 0, 0, 0, []) := Eq.trans rfl rfl
theorem c_Md_type_63 : c_Md_type[63]? = some (109, 1, .iastore, 0, 0, 0, 0, 0, []) := Eq.trans rfl rfl
theorem c_Md_type_64 : c_Md_type[64]? = some (110, 1, .aload_n 0, 0, 0, 0, 0, 0, []) := Eq.trans rfl rfl
theorem c_Md_type_65 : c_Md_type[65]? = some (111, 1, .dup, 0, 0, 0, 0, 0, []) := Eq.trans rfl rfl
theorem c_Md_type_66 : c_Md_type[66]? = some (112, 3, .getfield 103, 8, 0, 0, 0, 757, []) := Eq.trans rfl rfl
theorem c_Md_type_67 : c_Md_type[67]? = some (115, 1, .iconst 1, 0, 0, 0, 0, 0, []) := Eq.trans rfl rfl
theorem c_Md_type_68 : c_Md_type[68]? = some (116, 1, .iadd, 0, 0, 0, 0, 0, []) := Eq.trans rfl rfl
theorem c_Md_type_69 : c_Md_type[69]? = some (117, 3, .putfield 103, 8, 0, 0, 0, 757, []) := Eq.trans rfl rfl
theorem c_Md_type_70 : c_Md_type[70]? = some (120, 1, .aload_n 0, 0, 0, 0, 0, 0, []) := Eq.trans rfl rfl
theorem c_Md_type_71 : c_Md_type[71]? = some (121, 3, .invokevirtual 127, 109, 1, 8, 0, 877, []) := Eq.trans rfl rfl
theorem c_Md_type_72 : c_Md_type[72]? = some (124, 1, .aload_n 0, 0, 0, 0, 0, 0, []) := Eq.trans rfl rfl
theorem c_Md_type_73 : c_Md_type[73]? = some (125, 3, .invokevirtual 130, 111, 1, 8, 0, 884, []) := Eq.trans rfl rfl
theorem c_Md_type_74 : c_Md_type[74]? = some (128, 1, .aload_n 0, 0, 0, 0, 0, 0, []) := Eq.trans rfl rfl
theorem c_Md_type_75 : c_Md_type[75]? = some (129, 3, .invokevirtual 100, 105, 1, 8, 0, 753, []) := Eq.trans rfl rfl
theorem c_Md_type_76 : c_Md_type[76]? = some (132, 1, .aload_n 0, 0, 0, 0, 0, 0, []) := Eq.trans rfl rfl
theorem c_Md_type_77 : c_Md_type[77]? = some (133, 3, .getfield 103, 8, 0, 0, 0, 757, []) := Eq.trans rfl rfl
theorem c_Md_type_78 : c_Md_type[78]? = some (136, 1, .iconst 1, 0, 0, 0, 0, 0, []) := Eq.trans rfl rfl
theorem c_Md_type_79 : c_Md_type[79]? = some (137, 1, .isub, 0, 0, 0, 0, 0, []) := Eq.trans rfl rfl
theorem c_Md_type_80 : c_Md_type[80]? = some (138, 1, .ireturn, 0, 0, 0, 0, 0, []) := Eq.trans rfl rfl
theorem mt_Md_face : am_MT[112]? = some m_Md_face := rfl
theorem c_Md_face_0 : c_Md_face[0]? = some (0, 1, .aload_n 0, 0, 0, 0, 0, 0, []) := Eq.trans rfl rfl
theorem c_Md_face_1 : c_Md_face[1]? = some (1, 1, .iload_n 1, 1, 0, 0, 0, 0, []) := Eq.trans rfl rfl
theorem c_Md_face_2 : c_Md_face[2]? = some (2, 3, .invokevirtual 123, 107, 2, 8, 0, 870, []) := Eq.trans rfl rfl
theorem c_Md_face_3 : c_Md_face[3]? = some (5, 3, .ifCond .eq 11, 8, 0, 0, 0, 0, []) := Eq.trans rfl rfl
theorem c_Md_face_4 : c_Md_face[4]? = some (8, 1, .aload_n 0, 0, 0, 0, 0, 0, []) := Eq.trans rfl rfl
theorem c_Md_face_5 : c_Md_face[5]? = some (9, 1, .iload_n 2, 2, 0, 0, 0, 0, []) := Eq.trans rfl rfl
theorem c_Md_face_6 : c_Md_face[6]? = some (10, 3, .invokevirtual 123, 107, 2, 8, 0, 870, []) := Eq.trans rfl rfl
theorem c_Md_face_7 : c_Md_face[7]? = some (13, 3, .ifCond .ne 5, 10, 0, 0, 0, 0, []) := Eq.trans rfl rfl
theorem c_Md_face_8 : c_Md_face[8]? = some (16, 1, .iconst (-1), 0, 0, 0, 0, 0, []) := Eq.trans rfl rfl
theorem c_Md_face_9 : c_Md_face[9]? = some (17, 1, .ireturn, 0, 0, 0, 0, 0, []) := Eq.trans rfl rfl
theorem c_Md_face_10 : c_Md_face[10]? = some (18, 1, .iconst 0, 0, 0, 0, 0, 0, []) := Eq.trans rfl rfl
theorem c_Md_face_11 : c_Md_face[11]? = some (19, 1, .istore_n 3, 3, 0, 0, 0, 0, []) := Eq.trans rfl rfl
theorem c_Md_face_12 : c_Md_face[12]? = some (20, 1, .iconst 0, 0, 0, 0, 0, 0, []) := Eq.trans rfl rfl
theorem c_Md_face_13 : c_Md_face[13]? = some (21, 2, .istore 4, 4, 0, 0, 0, 0, []) := Eq.trans rfl rfl
theorem c_Md_face_14 : c_Md_face[14]? = some (23, 2, .iload 4, 4, 0, 0, 0, 0, []) := Eq.trans rfl rfl
theorem c_Md_face_15 : c_Md_face[15]? = some (25, 1, .aload_n 0, 0, 0, 0, 0, 0, []) := Eq.trans rfl rfl
theorem c_Md_face_16 : c_Md_face[16]? = some (26, 3, .getfield 16, 8, 4, 0, 0, 761, []) := Eq.trans rfl rfl
theorem c_Md_face_17 : c_Md_face[17]? = some (29, 1, .iload_n 1, 1, 0, 0, 0, 0, []) := Eq.trans rfl rfl
theorem c_Md_face_18 : c_Md_face[18]? = some (30, 1, .iaload, 0, 0, 0, 0, 0, []) := Eq.trans rfl rfl
theorem c_Md_face_19 : c_Md_face[19]? = some (31, 3, .if_icmp .ge 34, 38, 0, 0, 0, 0, []) := Eq.trans rfl rfl
theorem c_Md_face_20 : c_Md_face[20]? = some (34, 1, .iload_n 3, 3, 0, 0, 0, 0, []) := Eq.trans rfl rfl
theorem c_Md_face_21 : c_Md_face[21]? = some (35, 3, .ifCond .ne 18, 32, 0, 0, 0, 0, []) := Eq.trans rfl rfl
theorem c_Md_face_22 : c_Md_face[22]? = some (38, 1, .aload_n 0, 0, 0, 0, 0, 0, []) := Eq.trans rfl rfl
theorem c_Md_face_23 : c_Md_face[23]? = some (39, 3, .getfield 19, 8, 5, 0, 0, 762, []) := Eq.trans rfl rfl
theorem c_Md_face_24 : c_Md_face[24]? = some (42, 1, .iconst 3, 0, 0, 0, 0, 0, []) := Eq.trans rfl rfl
theorem c_Md_face_25 : c_Md_face[25]? = some (43, 1, .iload_n 1, 1, 0, 0, 0, 0, []) := Eq.trans rfl rfl
theorem c_Md_face_26 : c_Md_face[26]? = some (44, 1, .imul, 0, 0, 0, 0, 0, []) := Eq.trans rfl rfl
theorem c_Md_face_27 : c_Md_face[27]? = some (45, 2, .iload 4, 4, 0, 0, 0, 0, []) := Eq.trans rfl rfl
theorem c_Md_face_28 : c_Md_face[28]? = some (47, 1, .iadd, 0, 0, 0, 0, 0, []) := Eq.trans rfl rfl
theorem c_Md_face_29 : c_Md_face[29]? = some (48, 1, .iaload, 0, 0, 0, 0, 0, []) := Eq.trans rfl rfl
theorem c_Md_face_30 : c_Md_face[30]? = some (49, 1, .iload_n 2, 2, 0, 0, 0, 0, []) := Eq.trans rfl rfl
theorem c_Md_face_31 : c_Md_face[31]? = some (50, 3, .if_icmp .ne 7, 34, 0, 0, 0, 0, []) := Eq.trans rfl rfl
theorem c_Md_face_32 : c_Md_face[32]? = some (53, 1, .iconst 1, 0, 0, 0, 0, 0, []) := Eq.trans rfl rfl
theorem c_Md_face_33 : c_Md_face[33]? = some (54, 3, .goto 4, 35, 0, 0, 0, 0, []) := Eq.trans rfl rfl
theorem c_Md_face_34 : c_Md_face[34]? = some (57, 1, .iconst 0, 0, 0, 0, 0, 0, []) := Eq.trans rfl rfl
theorem c_Md_face_35 : c_Md_face[35]? = some (58, 1, .istore_n 3, 3, 0, 0, 0, 0, []) := Eq.trans rfl rfl
theorem c_Md_face_36 : c_Md_face[36]? = some (59, 3, .iinc 4 1, 0, 0, 0, 0, 0, []) := Eq.trans rfl rfl
theorem c_Md_face_37 : c_Md_face[37]? = some (62, 3, .goto (-39), 14, 0, 0, 0, 0, []) := Eq.trans rfl rfl
theorem c_Md_face_38 : c_Md_face[38]? = some (65, 1, .aload_n 0, 0, 0, 0, 0, 0, []) := Eq.trans rfl rfl
theorem c_Md_face_39 : c_Md_face[39]? = some (66, 3, .getfield 7, 8, 2, 0, 0, 759, []) := Eq.trans rfl rfl
theorem c_Md_face_40 : c_Md_face[40]? = some (69, 1, .iload_n 2, 2, 0, 0, 0, 0, []) := Eq.trans rfl rfl
theorem c_Md_face_41 : c_Md_face[41]? = some (70, 1, .iaload, 0, 0, 0, 0, 0, []) := Eq.trans rfl rfl
theorem c_Md_face_42 : c_Md_face[42]? = some (71, 3, .ifCond .eq 12, 48, 0, 0, 0, 0, []) := Eq.trans rfl rfl
theorem c_Md_face_43 : c_Md_face[43]? = some (74, 1, .iload_n 2, 2, 0, 0, 0, 0, []) := Eq.trans rfl rfl
theorem c_Md_face_44 : c_Md_face[44]? = some (75, 1, .iload_n 1, 1, 0, 0, 0, 0, []) := Eq.trans rfl rfl
theorem c_Md_face_45 : c_Md_face[45]? = some (76, 3, .if_icmp .ge 7, 48, 0, 0, 0, 0, []) := Eq.trans rfl rfl
theorem c_Md_face_46 : c_Md_face[46]? = some (79, 1, .iload_n 3, 3, 0, 0, 0, 0, []) := Eq.trans rfl rfl
theorem c_Md_face_47 : c_Md_face[47]? = some (80, 3, .ifCond .eq 6, 50, 0, 0, 0, 0, []) := Eq.trans rfl rfl
theorem c_Md_face_48 : c_Md_face[48]? = some (83, 2, .bipush (-3), 0, 0, 0, 0, 0, []) := Eq.trans rfl rfl
theorem c_Md_face_49 : c_Md_face[49]? = some (85, 1, .ireturn, 0, 0, 0, 0, 0, []) := Eq.trans rfl rfl
theorem c_Md_face_50 : c_Md_face[50]? = some (86, 1, .aload_n 0, 0, 0, 0, 0, 0, []) := Eq.trans rfl rfl
theorem c_Md_face_51 : c_Md_face[51]? = some (87, 3, .getfield 16, 8, 4, 0, 0, 761, []) := Eq.trans rfl rfl
theorem c_Md_face_52 : c_Md_face[52]? = some (90, 1, .iload_n 1, 1, 0, 0, 0, 0, []) := Eq.trans rfl rfl
theorem c_Md_face_53 : c_Md_face[53]? = some (91, 1, .iaload, 0, 0, 0, 0, 0, []) := Eq.trans rfl rfl
theorem c_Md_face_54 : c_Md_face[54]? = some (92, 1, .iconst 3, 0, 0, 0, 0, 0, []) := Eq.trans rfl rfl
theorem c_Md_face_55 : c_Md_face[55]? = some (93, 3, .if_icmp .ne 6, 58, 0, 0, 0, 0, []) := Eq.trans rfl rfl
theorem c_Md_face_56 : c_Md_face[56]? = some (96, 2, .bipush (-4), 0, 0, 0, 0, 0, []) := Eq.trans rfl rfl
theorem c_Md_face_57 : c_Md_face[57]? = some (98, 1, .ireturn, 0, 0, 0, 0, 0, []) := Eq.trans rfl rfl
theorem c_Md_face_58 : c_Md_face[58]? = some (99, 1, .aload_n 0, 0, 0, 0, 0, 0, []) := Eq.trans rfl rfl
theorem c_Md_face_59 : c_Md_face[59]? = some (100, 3, .getfield 19, 8, 5, 0, 0, 762, []) := Eq.trans rfl rfl
theorem c_Md_face_60 : c_Md_face[60]? = some (103, 1, .iconst 3, 0, 0, 0, 0, 0, []) := Eq.trans rfl rfl
theorem c_Md_face_61 : c_Md_face[61]? = some (104, 1, .iload_n 1, 1, 0, 0, 0, 0, []) := Eq.trans rfl rfl
theorem c_Md_face_62 : c_Md_face[62]? = some (105, 1, .imul, 0, 0, 0, 0, 0, []) := Eq.trans rfl rfl
theorem c_Md_face_63 : c_Md_face[63]? = some (106, 1, .aload_n 0, 0, 0, 0, 0, 0, []) := Eq.trans rfl rfl
theorem c_Md_face_64 : c_Md_face[64]? = some (107, 3, .getfield 16, 8, 4, 0, 0, 761, []) := Eq.trans rfl rfl
theorem c_Md_face_65 : c_Md_face[65]? = some (110, 1, .iload_n 1, 1, 0, 0, 0, 0, []) := Eq.trans rfl rfl
theorem c_Md_face_66 : c_Md_face[66]? = some (111, 1, .iaload, 0, 0, 0, 0, 0, []) := Eq.trans rfl rfl
theorem c_Md_face_67 : c_Md_face[67]? = some (112, 1, .iadd, 0, 0, 0, 0, 0, []) := Eq.trans rfl rfl
theorem c_Md_face_68 : c_Md_face[68]? = some (113, 1, .iload_n 2, 2, 0, 0, 0, 0, []) := Eq.trans rfl rfl
theorem c_Md_face_69 : c_Md_face[69]? = some (114, 1, .iastore, 0, 0, 0, 0, 0, []) := Eq.trans rfl rfl
theorem c_Md_face_70 : c_Md_face[70]? = some (115, 1, .aload_n 0, 0, 0, 0, 0, 0, []) := Eq.trans rfl rfl
theorem c_Md_face_71 : c_Md_face[71]? = some (116, 3, .getfield 16, 8, 4, 0, 0, 761, []) := Eq.trans rfl rfl
theorem c_Md_face_72 : c_Md_face[72]? = some (119, 1, .iload_n 1, 1, 0, 0, 0, 0, []) := Eq.trans rfl rfl
theorem c_Md_face_73 : c_Md_face[73]? = some (120, 1, .dup2, 0, 0, 0, 0, 0, []) := Eq.trans rfl rfl
theorem c_Md_face_74 : c_Md_face[74]? = some (121, 1, .iaload, 0, 0, 0, 0, 0, []) := Eq.trans rfl rfl
theorem c_Md_face_75 : c_Md_face[75]? = some (122, 1, .iconst 1, 0, 0, 0, 0, 0, []) := Eq.trans rfl rfl
theorem c_Md_face_76 : c_Md_face[76]? = some (123, 1, .iadd, 0, 0, 0, 0, 0, []) := Eq.trans rfl rfl
theorem c_Md_face_77 : c_Md_face[77]? = some (124, 1, .iastore, 0, 0, 0, 0, 0, []) := Eq.trans rfl rfl
theorem c_Md_face_78 : c_Md_face[78]? = some (125, 1, .aload_n 0, 0, 0, 0, 0, 0, []) := Eq.trans rfl rfl
theorem c_Md_face_79 : c_Md_face[79]? = some (126, 3, .invokevirtual 127, 109, 1, 8, 0, 877, []) := Eq.trans rfl rfl
theorem c_Md_face_80 : c_Md_face[80]? = some (129, 1, .aload_n 0, 0, 0, 0, 0, 0, []) := Eq.trans rfl rfl
theorem c_Md_face_81 : c_Md_face[81]? = some (130, 3, .invokevirtual 130, 111, 1, 8, 0, 884, []) := Eq.trans rfl rfl
theorem c_Md_face_82 : c_Md_face[82]? = some (133, 1, .aload_n 0, 0, 0, 0, 0, 0, []) := Eq.trans rfl rfl
theorem c_Md_face_83 : c_Md_face[83]? = some (134, 3, .invokevirtual 100, 105, 1, 8, 0, 753, []) := Eq.trans rfl rfl
theorem c_Md_face_84 : c_Md_face[84]? = some (137, 1, .aload_n 0, 0, 0, 0, 0, 0, []) := Eq.trans rfl rfl
theorem c_Md_face_85 : c_Md_face[85]? = some (138, 3, .getfield 16, 8, 4, 0, 0, 761, []) := Eq.trans rfl rfl
theorem c_Md_face_86 : c_Md_face[86]? = some (141, 1, .iload_n 1, 1, 0, 0, 0, 0, []) := Eq.trans rfl rfl
theorem c_Md_face_87 : c_Md_face[87]? = some (142, 1, .iaload, 0, 0, 0, 0, 0, []) := Eq.trans rfl rfl
theorem c_Md_face_88 : c_Md_face[88]? = some (143, 1, .ireturn, 0, 0, 0, 0, 0, []) := Eq.trans rfl rfl
theorem mt_Md_field : am_MT[113]? = some m_Md_field := rfl
theorem c_Md_field_0 : c_Md_field[0]? = some (0, 1, .aload_n 0, 0, 0, 0, 0, 0, []) := Eq.trans rfl rfl
theorem c_Md_field_1 : c_Md_field[1]? = some (1, 1, .iload_n 1, 1, 0, 0, 0, 0, []) := Eq.trans rfl rfl
theorem c_Md_field_2 : c_Md_field[2]? = some (2, 3, .invokevirtual 123, 107, 2, 8, 0, 870, []) := Eq.trans rfl rfl
theorem c_Md_field_3 : c_Md_field[3]? = some (5, 3, .ifCond .ne 5, 6, 0, 0, 0, 0, []) := Eq.trans rfl rfl
theorem c_Md_field_4 : c_Md_field[4]? = some (8, 1, .iconst (-1), 0, 0, 0, 0, 0, []) := Eq.trans rfl rfl
theorem c_Md_field_5 : c_Md_field[5]? = some (9, 1, .ireturn, 0, 0, 0, 0, 0, []) := Eq.trans rfl rfl
theorem c_Md_field_6 : c_Md_field[6]? = some (10, 1, .aload_n 0, 0, 0, 0, 0, 0, []) := Eq.trans rfl rfl
theorem c_Md_field_7 : c_Md_field[7]? = some (11, 3, .getfield 22, 8, 6, 0, 0, 763, []) := Eq.trans rfl rfl
theorem c_Md_field_8 : c_Md_field[8]? = some (14, 1, .iload_n 1, 1, 0, 0, 0, 0, []) := Eq.trans rfl rfl
theorem c_Md_field_9 : c_Md_field[9]? = some (15, 1, .baload, 0, 0, 0, 0, 0, []) := Eq.trans rfl rfl
theorem c_Md_field_10 : c_Md_field[10]? = some (16, 3, .ifCond .eq 6, 13, 0, 0, 0, 0, []) := Eq.trans rfl rfl
theorem c_Md_field_11 : c_Md_field[11]? = some (19, 2, .bipush (-3), 0, 0, 0, 0, 0, []) := Eq.trans rfl rfl
theorem c_Md_field_12 : c_Md_field[12]? = some (21, 1, .ireturn, 0, 0, 0, 0, 0, []) := Eq.trans rfl rfl
theorem c_Md_field_13 : c_Md_field[13]? = some (22, 1, .aload_n 0, 0, 0, 0, 0, 0, []) := Eq.trans rfl rfl
theorem c_Md_field_14 : c_Md_field[14]? = some (23, 3, .getfield 22, 8, 6, 0, 0, 763, []) := Eq.trans rfl rfl
theorem c_Md_field_15 : c_Md_field[15]? = some (26, 1, .iload_n 1, 1, 0, 0, 0, 0, []) := Eq.trans rfl rfl
theorem c_Md_field_16 : c_Md_field[16]? = some (27, 1, .iconst 1, 0, 0, 0, 0, 0, []) := Eq.trans rfl rfl
theorem c_Md_field_17 : c_Md_field[17]? = some (28, 1, .bastore, 0, 0, 0, 0, 0, []) := Eq.trans rfl rfl
theorem c_Md_field_18 : c_Md_field[18]? = some (29, 1, .aload_n 0, 0, 0, 0, 0, 0, []) := Eq.trans rfl rfl
theorem c_Md_field_19 : c_Md_field[19]? = some (30, 3, .invokevirtual 130, 111, 1, 8, 0, 884, []) := Eq.trans rfl rfl
theorem c_Md_field_20 : c_Md_field[20]? = some (33, 1, .aload_n 0, 0, 0, 0, 0, 0, []) := Eq.trans rfl rfl
theorem c_Md_field_21 : c_Md_field[21]? = some (34, 3, .invokevirtual 100, 105, 1, 8, 0, 753, []) := Eq.trans rfl rfl
theorem c_Md_field_22 : c_Md_field[22]? = some (37, 1, .iconst 1, 0, 0, 0, 0, 0, []) := Eq.trans rfl rfl
theorem c_Md_field_23 : c_Md_field[23]? = some (38, 1, .ireturn, 0, 0, 0, 0, 0, []) := Eq.trans rfl rfl
theorem mt_Md_clear : am_MT[115]? = some m_Md_clear := rfl
theorem c_Md_clear_0 : c_Md_clear[0]? = some (0, 1, .aload_n 0, 0, 0, 0, 0, 0, []) := Eq.trans rfl rfl
theorem c_Md_clear_1 : c_Md_clear[1]? = some (1, 3, .getfield 103, 8, 0, 0, 0, 757, []) := Eq.trans rfl rfl
theorem c_Md_clear_2 : c_Md_clear[2]? = some (4, 1, .istore_n 1, 1, 0, 0, 0, 0, []) := Eq.trans rfl rfl
theorem c_Md_clear_3 : c_Md_clear[3]? = some (5, 1, .aload_n 0, 0, 0, 0, 0, 0, []) := Eq.trans rfl rfl
theorem c_Md_clear_4 : c_Md_clear[4]? = some (6, 1, .iconst 0, 0, 0, 0, 0, 0, []) := Eq.trans rfl rfl
theorem c_Md_clear_5 : c_Md_clear[5]? = some (7, 3, .putfield 103, 8, 0, 0, 0, 757, []) := Eq.trans rfl rfl
theorem c_Md_clear_6 : c_Md_clear[6]? = some (10, 1, .aload_n 0, 0, 0, 0, 0, 0, []) := Eq.trans rfl rfl
theorem c_Md_clear_7 : c_Md_clear[7]? = some (11, 1, .iconst 0, 0, 0, 0, 0, 0, []) := Eq.trans rfl rfl
theorem c_Md_clear_8 : c_Md_clear[8]? = some (12, 3, .putfield 111, 8, 1, 0, 0, 758, []) := Eq.trans rfl rfl
theorem c_Md_clear_9 : c_Md_clear[9]? = some (15, 1, .aload_n 0, 0, 0, 0, 0, 0, []) := Eq.trans rfl rfl
theorem c_Md_clear_10 : c_Md_clear[10]? = some (16, 3, .invokevirtual 100, 105, 1, 8, 0, 753, []) := Eq.trans rfl rfl
theorem c_Md_clear_11 : c_Md_clear[11]? = some (19, 1, .iload_n 1, 1, 0, 0, 0, 0, []) := Eq.trans rfl rfl
theorem c_Md_clear_12 : c_Md_clear[12]? = some (20, 1, .ireturn, 0, 0, 0, 0, 0, []) := Eq.trans rfl rfl
theorem mt_Md_bodyOf : am_MT[117]? = some m_Md_bodyOf := rfl
theorem c_Md_bodyOf_0 : c_Md_bodyOf[0]? = some (0, 1, .aload_n 0, 0, 0, 0, 0, 0, []) := Eq.trans rfl rfl
theorem c_Md_bodyOf_1 : c_Md_bodyOf[1]? = some (1, 1, .iload_n 1, 1, 0, 0, 0, 0, []) := Eq.trans rfl rfl
theorem c_Md_bodyOf_2 : c_Md_bodyOf[2]? = some (2, 3, .invokevirtual 123, 107, 2, 8, 0, 870, []) := Eq.trans rfl rfl
theorem c_Md_bodyOf_3 : c_Md_bodyOf[3]? = some (5, 3, .ifCond .eq 7, 6, 0, 0, 0, 0, []) := Eq.trans rfl rfl
theorem c_Md_bodyOf_4 : c_Md_bodyOf[4]? = some (8, 1, .iload_n 1, 1, 0, 0, 0, 0, []) := Eq.trans rfl rfl
theorem c_Md_bodyOf_5 : c_Md_bodyOf[5]? = some (9, 3, .goto 27, 20, 0, 0, 0, 0, []) := Eq.trans rfl rfl
theorem c_Md_bodyOf_6 : c_Md_bodyOf[6]? = some (12, 1, .iload_n 1, 1, 0, 0, 0, 0, []) := Eq.trans rfl rfl
theorem c_Md_bodyOf_7 : c_Md_bodyOf[7]? = some (13, 2, .bipush 10, 0, 0, 0, 0, 0, []) := Eq.trans rfl rfl
theorem c_Md_bodyOf_8 : c_Md_bodyOf[8]? = some (15, 3, .if_icmp .lt 20, 19, 0, 0, 0, 0, []) := Eq.trans rfl rfl
theorem c_Md_bodyOf_9 : c_Md_bodyOf[9]? = some (18, 1, .aload_n 0, 0, 0, 0, 0, 0, []) := Eq.trans rfl rfl
theorem c_Md_bodyOf_10 : c_Md_bodyOf[10]? = some (19, 1, .iload_n 1, 1, 0, 0, 0, 0, []) := Eq.trans rfl rfl
theorem c_Md_bodyOf_11 : c_Md_bodyOf[11]? = some (20, 2, .bipush 10, 0, 0, 0, 0, 0, []) := Eq.trans rfl rfl
theorem c_Md_bodyOf_12 : c_Md_bodyOf[12]? = some (22, 1, .isub, 0, 0, 0, 0, 0, []) := Eq.trans rfl rfl
theorem c_Md_bodyOf_13 : c_Md_bodyOf[13]? = some (23, 3, .invokevirtual 133, 118, 2, 8, 0, 912, []) := Eq.trans rfl rfl
theorem c_Md_bodyOf_14 : c_Md_bodyOf[14]? = some (26, 3, .ifCond .eq 9, 19, 0, 0, 0, 0, []) := Eq.trans rfl rfl
theorem c_Md_bodyOf_15 : c_Md_bodyOf[15]? = some (29, 1, .iload_n 1, 1, 0, 0, 0, 0, []) := Eq.trans rfl rfl
theorem c_Md_bodyOf_16 : c_Md_bodyOf[16]? = some (30, 1, .iconst 4, 0, 0, 0, 0, 0, []) := Eq.trans rfl rfl
theorem c_Md_bodyOf_17 : c_Md_bodyOf[17]? = some (31, 1, .isub, 0, 0, 0, 0, 0, []) := Eq.trans rfl rfl
theorem c_Md_bodyOf_18 : c_Md_bodyOf[18]? = some (32, 3, .goto 4, 20, 0, 0, 0, 0, []) := Eq.trans rfl rfl
theorem c_Md_bodyOf_19 : c_Md_bodyOf[19]? = some (35, 1, .iconst (-1), 0, 0, 0, 0, 0, []) := Eq.trans rfl rfl
theorem c_Md_bodyOf_20 : c_Md_bodyOf[20]? = some (36, 1, .ireturn, 0, 0, 0, 0, 0, []) := Eq.trans rfl rfl
theorem mt_Md_action : am_MT[116]? = some m_Md_action := rfl
theorem c_Md_action_0 : c_Md_action[0]? = some (0, 1, .aload_n 0, 0, 0, 0, 0, 0, []) := Eq.trans rfl rfl
theorem c_Md_action_1 : c_Md_action[1]? = some (1, 1, .iload_n 1, 1, 0, 0, 0, 0, []) := Eq.trans rfl rfl
theorem c_Md_action_2 : c_Md_action[2]? = some (2, 3, .invokevirtual 136, 117, 2, 8, 0, 908, []) := Eq.trans rfl rfl
theorem c_Md_action_3 : c_Md_action[3]? = some (5, 2, .istore 6, 6, 0, 0, 0, 0, []) := Eq.trans rfl rfl
theorem c_Md_action_4 : c_Md_action[4]? = some (7, 2, .iload 6, 6, 0, 0, 0, 0, []) := Eq.trans rfl rfl
theorem c_Md_action_5 : c_Md_action[5]? = some (9, 1, .iconst (-1), 0, 0, 0, 0, 0, []) := Eq.trans rfl rfl
theorem c_Md_action_6 : c_Md_action[6]? = some (10, 3, .if_icmp .eq 20, 16, 0, 0, 0, 0, []) := Eq.trans rfl rfl
theorem c_Md_action_7 : c_Md_action[7]? = some (13, 1, .iload_n 2, 2, 0, 0, 0, 0, []) := Eq.trans rfl rfl
theorem c_Md_action_8 : c_Md_action[8]? = some (14, 1, .iconst 0, 0, 0, 0, 0, 0, []) := Eq.trans rfl rfl
theorem c_Md_action_9 : c_Md_action[9]? = some (15, 1, .iconst 3, 0, 0, 0, 0, 0, []) := Eq.trans rfl rfl
theorem c_Md_action_10 : c_Md_action[10]? = some (16, 3, .invokestatic 107, 108, 3, 0, 0, 874, []) := Eq.trans rfl rfl
theorem c_Md_action_11 : c_Md_action[11]? = some (19, 3, .ifCond .eq 13, 18, 0, 0, 0, 0, []) := Eq.trans rfl rfl
theorem c_Md_action_12 : c_Md_action[12]? = some (22, 1, .aload_n 0, 0, 0, 0, 0, 0, []) := Eq.trans rfl rfl
theorem c_Md_action_13 : c_Md_action[13]? = some (23, 1, .iload_n 3, 3, 0, 0, 0, 0, []) := Eq.trans rfl rfl
theorem c_Md_action_14 : c_Md_action[14]? = some (24, 3, .invokevirtual 123, 107, 2, 8, 0, 870, []) := Eq.trans rfl rfl
theorem c_Md_action_15 : c_Md_action[15]? = some (27, 3, .ifCond .ne 5, 18, 0, 0, 0, 0, []) := Eq.trans rfl rfl
theorem c_Md_action_16 : c_Md_action[16]? = some (30, 1, .iconst (-1), 0, 0, 0, 0, 0, []) := Eq.trans rfl rfl
theorem c_Md_action_17 : c_Md_action[17]? = some (31, 1, .ireturn, 0, 0, 0, 0, 0, []) := Eq.trans rfl rfl
theorem c_Md_action_18 : c_Md_action[18]? = some (32, 1, .iload_n 2, 2, 0, 0, 0, 0, []) := Eq.trans rfl rfl
theorem c_Md_action_19 : c_Md_action[19]? = some (33, 1, .iconst 0, 0, 0, 0, 0, 0, []) := Eq.trans rfl rfl
theorem c_Md_action_20 : c_Md_action[20]? = some (34, 1, .iconst 5, 0, 0, 0, 0, 0, []) := Eq.trans rfl rfl
theorem c_Md_action_21 : c_Md_action[21]? = some (35, 3, .invokestatic 107, 108, 3, 0, 0, 874, []) := Eq.trans rfl rfl
theorem c_Md_action_22 : c_Md_action[22]? = some (38, 3, .ifCond .eq 30, 38, 0, 0, 0, 0, []) := Eq.trans rfl rfl
theorem c_Md_action_23 : c_Md_action[23]? = some (41, 1, .iload_n 2, 2, 0, 0, 0, 0, []) := Eq.trans rfl rfl
theorem c_Md_action_24 : c_Md_action[24]? = some (42, 1, .iconst 4, 0, 0, 0, 0, 0, []) := Eq.trans rfl rfl
theorem c_Md_action_25 : c_Md_action[25]? = some (43, 3, .if_icmp .ne 12, 31, 0, 0, 0, 0, []) := Eq.trans rfl rfl
theorem c_Md_action_26 : c_Md_action[26]? = some (46, 1, .iload_n 3, 3, 0, 0, 0, 0, []) := Eq.trans rfl rfl
theorem c_Md_action_27 : c_Md_action[27]? = some (47, 1, .iconst 1, 0, 0, 0, 0, 0, []) := Eq.trans rfl rfl
theorem c_Md_action_28 : c_Md_action[28]? = some (48, 1, .iconst 2, 0, 0, 0, 0, 0, []) := Eq.trans rfl rfl
theorem c_Md_action_29 : c_Md_action[29]? = some (49, 3, .invokestatic 107, 108, 3, 0, 0, 874, []) := Eq.trans rfl rfl
theorem c_Md_action_30 : c_Md_action[30]? = some (52, 3, .ifCond .eq 16, 38, 0, 0, 0, 0, []) := Eq.trans rfl rfl
theorem c_Md_action_31 : c_Md_action[31]? = some (55, 1, .iload_n 2, 2, 0, 0, 0, 0, []) := Eq.trans rfl rfl
theorem c_Md_action_32 : c_Md_action[32]? = some (56, 1, .iconst 5, 0, 0, 0, 0, 0, []) := Eq.trans rfl rfl
theorem c_Md_action_33 : c_Md_action[33]? = some (57, 3, .if_icmp .ne 7, 36, 0, 0, 0, 0, []) := Eq.trans rfl rfl
theorem c_Md_action_34 : c_Md_action[34]? = some (60, 1, .iload_n 3, 3, 0, 0, 0, 0, []) := Eq.trans rfl rfl
theorem c_Md_action_35 : c_Md_action[35]? = some (61, 3, .ifCond .ne 7, 38, 0, 0, 0, 0, []) := Eq.trans rfl rfl
theorem c_Md_action_36 : c_Md_action[36]? = some (64, 1, .iconst 1, 0, 0, 0, 0, 0, []) := Eq.trans rfl rfl
theorem c_Md_action_37 : c_Md_action[37]? = some (65, 3, .goto 4, 39, 0, 0, 0, 0, []) := Eq.trans rfl rfl
theorem c_Md_action_38 : c_Md_action[38]? = some (68, 1, .iconst 0, 0, 0, 0, 0, 0, []) := Eq.trans rfl rfl
theorem c_Md_action_39 : c_Md_action[39]? = some (69, 2, .istore 7, 7, 0, 0, 0, 0, []) := Eq.trans rfl rfl
theorem c_Md_action_40 : c_Md_action[40]? = some (71, 2, .iload 7, 7, 0, 0, 0, 0, []) := Eq.trans rfl rfl
theorem c_Md_action_41 : c_Md_action[41]? = some (73, 3, .ifCond .eq 37, 58, 0, 0, 0, 0, []) := Eq.trans rfl rfl
theorem c_Md_action_42 : c_Md_action[42]? = some (76, 1, .iload_n 2, 2, 0, 0, 0, 0, []) := Eq.trans rfl rfl
theorem c_Md_action_43 : c_Md_action[43]? = some (77, 1, .iconst 1, 0, 0, 0, 0, 0, []) := Eq.trans rfl rfl
theorem c_Md_action_44 : c_Md_action[44]? = some (78, 3, .if_icmp .eq 8, 48, 0, 0, 0, 0, []) := Eq.trans rfl rfl
theorem c_Md_action_45 : c_Md_action[45]? = some (81, 1, .iload_n 2, 2, 0, 0, 0, 0, []) := Eq.trans rfl rfl
theorem c_Md_action_46 : c_Md_action[46]? = some (82, 1, .iconst 5, 0, 0, 0, 0, 0, []) := Eq.trans rfl rfl
theorem c_Md_action_47 : c_Md_action[47]? = some (83, 3, .if_icmp .ne 18, 54, 0, 0, 0, 0, []) := Eq.trans rfl rfl
theorem c_Md_action_48 : c_Md_action[48]? = some (86, 2, .iload 4, 4, 0, 0, 0, 0, []) := Eq.trans rfl rfl
theorem c_Md_action_49 : c_Md_action[49]? = some (88, 2, .bipush (-9), 0, 0, 0, 0, 0, []) := Eq.trans rfl rfl
theorem c_Md_action_50 : c_Md_action[50]? = some (90, 2, .bipush 9, 0, 0, 0, 0, 0, []) := Eq.trans rfl rfl
theorem c_Md_action_51 : c_Md_action[51]? = some (92, 3, .invokestatic 107, 108, 3, 0, 0, 874, []) := Eq.trans rfl rfl
theorem c_Md_action_52 : c_Md_action[52]? = some (95, 3, .ifCond .eq 15, 58, 0, 0, 0, 0, []) := Eq.trans rfl rfl
theorem c_Md_action_53 : c_Md_action[53]? = some (98, 3, .goto 8, 56, 0, 0, 0, 0, []) := Eq.trans rfl rfl
theorem c_Md_action_54 : c_Md_action[54]? = some (101, 2, .iload 4, 4, 0, 0, 0, 0, []) := Eq.trans rfl rfl
theorem c_Md_action_55 : c_Md_action[55]? = some (103, 3, .ifCond .ne 7, 58, 0, 0, 0, 0, []) := Eq.trans rfl rfl
theorem c_Md_action_56 : c_Md_action[56]? = some (106, 1, .iconst 1, 0, 0, 0, 0, 0, []) := Eq.trans rfl rfl
theorem c_Md_action_57 : c_Md_action[57]? = some (107, 3, .goto 4, 59, 0, 0, 0, 0, []) := Eq.trans rfl rfl
theorem c_Md_action_58 : c_Md_action[58]? = some (110, 1, .iconst 0, 0, 0, 0, 0, 0, []) := Eq.trans rfl rfl
theorem c_Md_action_59 : c_Md_action[59]? = some (111, 2, .istore 7, 7, 0, 0, 0, 0, []) := Eq.trans rfl rfl
theorem c_Md_action_60 : c_Md_action[60]? = some (113, 2, .iload 7, 7, 0, 0, 0, 0, []) := Eq.trans rfl rfl
theorem c_Md_action_61 : c_Md_action[61]? = some (115, 3, .ifCond .ne 6, 64, 0, 0, 0, 0, []) := Eq.trans rfl rfl
theorem c_Md_action_62 : c_Md_action[62]? = some (118, 2, .bipush (-2), 0, 0, 0, 0, 0, []) := Eq.trans rfl rfl
theorem c_Md_action_63 : c_Md_action[63]? = some (120, 1, .ireturn, 0, 0, 0, 0, 0, []) := Eq.trans rfl rfl
theorem c_Md_action_64 : c_Md_action[64]? = some (121, 1, .aload_n 0, 0, 0, 0, 0, 0, []) := Eq.trans rfl rfl
theorem c_Md_action_65 : c_Md_action[65]? = some (122, 3, .getfield 32, 8, 9, 0, 0, 766, []) := Eq.trans rfl rfl
theorem c_Md_action_66 : c_Md_action[66]? = some (125, 2, .iload 6, 6, 0, 0, 0, 0, []) := Eq.trans rfl rfl
theorem c_Md_action_67 : c_Md_action[67]? = some (127, 1, .iaload, 0, 0, 0, 0, 0, []) := Eq.trans rfl rfl
theorem c_Md_action_68 : c_Md_action[68]? = some (128, 1, .iconst 5, 0, 0, 0, 0, 0, []) := Eq.trans rfl rfl
theorem c_Md_action_69 : c_Md_action[69]? = some (129, 3, .if_icmp .ne 6, 72, 0, 0, 0, 0, []) := Eq.trans rfl rfl
theorem c_Md_action_70 : c_Md_action[70]? = some (132, 2, .bipush (-4), 0, 0, 0, 0, 0, []) := Eq.trans rfl rfl
theorem c_Md_action_71 : c_Md_action[71]? = some (134, 1, .ireturn, 0, 0, 0, 0, 0, []) := Eq.trans rfl rfl
theorem c_Md_action_72 : c_Md_action[72]? = some (135, 1, .iconst 5, 0, 0, 0, 0, 0, []) := Eq.trans rfl rfl
theorem c_Md_action_73 : c_Md_action[73]? = some (136, 2, .iload 6, 6, 0, 0, 0, 0, []) := Eq.trans rfl rfl
theorem c_Md_action_74 : c_Md_action[74]? = some (138, 1, .imul, 0, 0, 0, 0, 0, []) := Eq.trans rfl rfl
theorem c_Md_action_75 : c_Md_action[75]? = some (139, 1, .aload_n 0, 0, 0, 0, 0, 0, []) := Eq.trans rfl rfl
theorem c_Md_action_76 : c_Md_action[76]? = some (140, 3, .getfield 32, 8, 9, 0, 0, 766, []) := Eq.trans rfl rfl
theorem c_Md_action_77 : c_Md_action[77]? = some (143, 2, .iload 6, 6, 0, 0, 0, 0, []) := Eq.trans rfl rfl
theorem c_Md_action_78 : c_Md_action[78]? = some (145, 1, .iaload, 0, 0, 0, 0, 0, []) := Eq.trans rfl rfl
theorem c_Md_action_79 : c_Md_action[79]? = some (146, 1, .iadd, 0, 0, 0, 0, 0, []) := Eq.trans rfl rfl
theorem c_Md_action_80 : c_Md_action[80]? = some (147, 2, .istore 8, 8, 0, 0, 0, 0, []) := Eq.trans rfl rfl
theorem c_Md_action_81 : c_Md_action[81]? = some (149, 1, .aload_n 0, 0, 0, 0, 0, 0, []) := Eq.trans rfl rfl
theorem c_Md_action_82 : c_Md_action[82]? = some (150, 3, .getfield 35, 8, 10, 0, 0, 767, []) := Eq.trans rfl rfl
theorem c_Md_action_83 : c_Md_action[83]? = some (153, 2, .iload 8, 8, 0, 0, 0, 0, []) := Eq.trans rfl rfl
theorem c_Md_action_84 : c_Md_action[84]? = some (155, 1, .iload_n 2, 2, 0, 0, 0, 0, []) := Eq.trans rfl rfl
theorem c_Md_action_85 : c_Md_action[85]? = some (156, 1, .iastore, 0, 0, 0, 0, 0, []) := Eq.trans rfl rfl
theorem c_Md_action_86 : c_Md_action[86]? = some (157, 1, .aload_n 0, 0, 0, 0, 0, 0, []) := Eq.trans rfl rfl
theorem c_Md_action_87 : c_Md_action[87]? = some (158, 3, .getfield 38, 8, 11, 0, 0, 768, []) := Eq.trans rfl rfl
theorem c_Md_action_88 : c_Md_action[88]? = some (161, 2, .iload 8, 8, 0, 0, 0, 0, []) := Eq.trans rfl rfl
theorem c_Md_action_89 : c_Md_action[89]? = some (163, 1, .iload_n 3, 3, 0, 0, 0, 0, []) := Eq.trans rfl rfl
theorem c_Md_action_90 : c_Md_action[90]? = some (164, 1, .iastore, 0, 0, 0, 0, 0, []) := Eq.trans rfl rfl
theorem c_Md_action_91 : c_Md_action[91]? = some (165, 1, .aload_n 0, 0, 0, 0, 0, 0, []) := Eq.trans rfl rfl
theorem c_Md_action_92 : c_Md_action[92]? = some (166, 3, .getfield 41, 8, 12, 0, 0, 769, []) := Eq.trans rfl rfl
theorem c_Md_action_93 : c_Md_action[93]? = some (169, 2, .iload 8, 8, 0, 0, 0, 0, []) := Eq.trans rfl rfl
theorem c_Md_action_94 : c_Md_action[94]? = some (171, 2, .iload 4, 4, 0, 0, 0, 0, []) := Eq.trans rfl rfl
theorem c_Md_action_95 : c_Md_action[95]? = some (173, 1, .iastore, 0, 0, 0, 0, 0, []) := Eq.trans rfl rfl
theorem c_Md_action_96 : c_Md_action[96]? = some (174, 1, .aload_n 0, 0, 0, 0, 0, 0, []) := Eq.trans rfl rfl
theorem c_Md_action_97 : c_Md_action[97]? = some (175, 3, .getfield 44, 8, 13, 0, 0, 770, []) := Eq.trans rfl rfl
theorem c_Md_action_98 : c_Md_action[98]? = some (178, 2, .iload 8, 8, 0, 0, 0, 0, []) := Eq.trans rfl rfl
theorem c_Md_action_99 : c_Md_action[99]? = some (180, 2, .iload 5, 5, 0, 0, 0, 0, []) := Eq.trans rfl rfl
theorem c_Md_action_100 : c_Md_action[100]? = some (182, 1, .bastore, 0, 0, 0, 0, 0, []) := Eq.trans rfl rfl
theorem c_Md_action_101 : c_Md_action[101]? = some (183, 1, .aload_n 0, 0, 0, 0, 0, 0, []) := Eq.trans rfl rfl
theorem c_Md_action_102 : c_Md_action[102]? = some (184, 3, .getfield 32, 8, 9, 0, 0, 766, []) := Eq.trans rfl rfl
theorem c_Md_action_103 : c_Md_action[103]? = some (187, 2, .iload 6, 6, 0, 0, 0, 0, []) := Eq.trans rfl rfl
theorem c_Md_action_104 : c_Md_action[104]? = some (189, 1, .dup2, 0, 0, 0, 0, 0, []) := Eq.trans rfl rfl
theorem c_Md_action_105 : c_Md_action[105]? = some (190, 1, .iaload, 0, 0, 0, 0, 0, []) := Eq.trans rfl rfl
theorem c_Md_action_106 : c_Md_action[106]? = some (191, 1, .iconst 1, 0, 0, 0, 0, 0, []) := Eq.trans rfl rfl
theorem c_Md_action_107 : c_Md_action[107]? = some (192, 1, .iadd, 0, 0, 0, 0, 0, []) := Eq.trans rfl rfl
theorem c_Md_action_108 : c_Md_action[108]? = some (193, 1, .iastore, 0, 0, 0, 0, 0, []) := Eq.trans rfl rfl
theorem c_Md_action_109 : c_Md_action[109]? = some (194, 1, .aload_n 0, 0, 0, 0, 0, 0, []) := Eq.trans rfl rfl
theorem c_Md_action_110 : c_Md_action[110]? = some (195, 3, .invokevirtual 100, 105, 1, 8, 0, 753, []) := Eq.trans rfl rfl
theorem c_Md_action_111 : c_Md_action[111]? = some (198, 1, .aload_n 0, 0, 0, 0, 0, 0, []) := Eq.trans rfl rfl
theorem c_Md_action_112 : c_Md_action[112]? = some (199, 3, .getfield 32, 8, 9, 0, 0, 766, []) := Eq.trans rfl rfl
theorem c_Md_action_113 : c_Md_action[113]? = some (202, 2, .iload 6, 6, 0, 0, 0, 0, []) := Eq.trans rfl rfl
theorem c_Md_action_114 : c_Md_action[114]? = some (204, 1, .iaload, 0, 0, 0, 0, 0, []) := Eq.trans rfl rfl
theorem c_Md_action_115 : c_Md_action[115]? = some (205, 1, .ireturn, 0, 0, 0, 0, 0, []) := Eq.trans rfl rfl
/-- what is behind a call that was good: the house found anew, the run at its beginning -/
def nw_to (h : am_H) (o : Nat) (I : Nat → Int) (F0 : Nat → Int → Int) (r : rn) (h' : am_H) : Prop := ∃ F', md_to h o (fs_I I) F' h' ∧ ba_fr F0 F' ∧ md_all (fs_I I) F' (rz r)
def an_type (I : Nat → Int) (F : Nat → Int → Int) (s p : Int) : Int := if p ≠ -1 ∧ ¬ (0 ≤ p ∧ p < I 0) then -1 else if ¬ (0 ≤ s ∧ s ≤ 2) then -2 else if p ≠ -1 ∧ (s ≠ 0 ∨ F 1 p ≠ 0) then -3 else if I 0 = 6 then -4 else I 0
def ty_F (I : Nat → Int) (F : Nat → Int → Int) (s p : Int) : Nat → Int → Int := va_up (va_up (va_up (va_up (va_up F 1 (vI (F 1) (I 0) s)) 2 (vI (F 2) (I 0) p)) 3 (vI (F 3) (I 0) 0)) 5 (vI (F 5) (I 0) 0)) 8 (vI (F 8) (I 0) 0)
def ty_I (I : Nat → Int) : Nat → Int := va_up I 0 (I 0 + 1)
theorem hs_ba {I : Nat → Int} {F0 F : Nat → Int → Int} (h : md_hs I F0) (hb : ba_fr F0 F) : md_hs I F := by
  unfold md_hs at *
  rw [hb 1 (by decide) (by decide) (by decide) (by decide) (by decide) (by decide), hb 2 (by decide) (by decide) (by decide) (by decide) (by decide) (by decide), hb 3 (by decide) (by decide) (by decide) (by decide) (by decide) (by decide), hb 4 (by decide) (by decide) (by decide) (by decide) (by decide) (by decide), hb 5 (by decide) (by decide) (by decide) (by decide) (by decide) (by decide)]
  exact h
theorem otb_ba {F0 F : Nat → Int → Int} {n : Nat} (hb : ba_fr F0 F) : otb F n = otb F0 n := otb_congr n (fun x hx => by
  rw [hb 2 (by decide) (by decide) (by decide) (by decide) (by decide) (by decide), hb 3 (by decide) (by decide) (by decide) (by decide) (by decide) (by decide), hb 4 (by decide) (by decide) (by decide) (by decide) (by decide) (by decide), hb 5 (by decide) (by decide) (by decide) (by decide) (by decide) (by decide)]
  exact ⟨rfl, rfl, rfl, fun _ _ => rfl⟩)
theorem ba_of {F0 F : Nat → Int → Int} {g v : Int → Int} (h : rl_fr F0 F) : ba_fr F0 (va_up (va_up F 17 g) 13 v) := fun k h1 h2 h3 h4 h5 h6 => by
  rw [va_up_miss h6, va_up_miss h5]
  exact h k h1 h2 h3 h4
theorem ty_keep {I : Nat → Int} {F : Nat → Int → Int} (hr : md_rg I F) (hh : md_hs I F) (hl : rl_rg F) (hb : md_bd I F) {s p : Int} (hp : p ≠ -1 → 0 ≤ p ∧ p < I 0) (hs : 0 ≤ s ∧ s ≤ 2) (hsp : p ≠ -1 → s = 0 ∧ F 1 p = 0) (h6 : I 0 ≠ 6) : md_rg (ty_I I) (ty_F I F s p) ∧ md_hs (ty_I I) (ty_F I F s p) ∧ rl_rg (ty_F I F s p) ∧ md_bd (ty_I I) (ty_F I F s p) := by
  have hI := hr.1
  have q0 : ty_I I 0 = I 0 + 1 := rfl
  have q1i : ty_I I 1 = I 1 := rfl
  have q1 : ty_F I F s p 1 = vI (F 1) (I 0) s := rfl
  have q2 : ty_F I F s p 2 = vI (F 2) (I 0) p := rfl
  have q3 : ty_F I F s p 3 = vI (F 3) (I 0) 0 := rfl
  have q4 : ty_F I F s p 4 = F 4 := rfl
  have q5 : ty_F I F s p 5 = vI (F 5) (I 0) 0 := rfl
  have q6 : ty_F I F s p 6 = F 6 := rfl
  have q7 : ty_F I F s p 7 = F 7 := rfl
  have q8 : ty_F I F s p 8 = vI (F 8) (I 0) 0 := rfl
  have q9 : ty_F I F s p 9 = F 9 := rfl
  have q10 : ty_F I F s p 10 = F 10 := rfl
  have q11 : ty_F I F s p 11 = F 11 := rfl
  have q12 : ty_F I F s p 12 = F 12 := rfl
  have q15 : ty_F I F s p 15 = F 15 := rfl
  have q16 : ty_F I F s p 16 = F 16 := rfl
  have q17 : ty_F I F s p 17 = F 17 := rfl
  obtain ⟨-, r1, r2, r3, r4, r5⟩ := hr
  have hp5 : -1 ≤ p ∧ p ≤ 5 := by
    by_cases c : p = -1
    · omega
    · have := hp c
      omega
  refine ⟨?_, ?_, ?_, ?_⟩
  · unfold md_rg
    rw [q0, q1i, q1, q2, q3, q4, q6, q7, q8, q9, q10, q11, q12, q17]
    refine ⟨by omega, fun k hk => ?_, r2, r3, fun k hk => ?_, r5⟩
    · have := r1 k hk
      unfold vI
      split <;> omega
    · have := r4 k hk
      unfold vI
      split <;> omega
  · unfold md_hs
    rw [q0, q1, q2, q3, q4, q5]
    refine ⟨fun t ht => ?_, fun t ht => ?_⟩
    · have := hh.1 t ht
      unfold vI
      split
      · exact Or.inl rfl
      · exact this
    · by_cases c : t = I 0
      · rw [c, vI_hit, vI_hit, vI_hit]
        exact ⟨fun z => by have := hp z; have := hsp z; omega, fun i hi => by omega⟩
      · have g := hh.2 t (by omega)
        rw [vI_miss c, vI_miss c, vI_miss c]
        refine ⟨g.1, fun i hi => ?_⟩
        have g2 := g.2 i hi
        rw [vI_miss (by omega)]
        exact g2
  · unfold rl_rg
    rw [q6, q7, q15, q16]
    exact hl
  · unfold md_bd
    rw [q0, q1i, q8, q9, q10]
    intro b k hb2 hk
    by_cases c : b = I 0
    · rw [c, vI_hit] at hk
      omega
    · rw [vI_miss c] at hk
      have := hb b k (by omega) hk
      exact ⟨this.1, fun z => by have := this.2 z; omega⟩
theorem ct_Mtype (d : Nat) (hd : 3 ≤ d) (h : am_H) (o : Nat) (I : Nat → Int) (F : Nat → Int → Int) (H : md_at h o I F) (r : rn) (ha : md_all I F r) (s p : Int) (hs : -2147483648 ≤ s ∧ s < 2147483648) (hp : -2147483648 ≤ p ∧ p < 2147483648) : am_Ct am_df am_MT d 106 [.ref o, .int (iI s), .int (iI p)] h (fun r0 h' => r0 = some (.int (iI (an_type I F s p))) ∧ if an_type I F s p < 0 then h' = h else nw_to h o (ty_I I) (ty_F I F s p) r h') := by
  have H' := H
  obtain ⟨h0, hO, hA⟩ := H'
  obtain ⟨⟨h13, hr, hwf, hv, hlg⟩, hhs, hhd, hrl, hbd, h3, -⟩ := ha
  have hI := hr.1
  have good : (p ≠ -1 → 0 ≤ p ∧ p < I 0) → am_Go am_df am_MT (d - 1) c_Md_type (9, [(0, .ref o), (1, .int (iI s)), (2, .int (iI p))], [], h) (fun r0 h' => r0 = some (.int (iI (an_type I F s p))) ∧ if an_type I F s p < 0 then h' = h else nw_to h o (ty_I I) (ty_F I F s p) r h') := by
    intro hpp
    obtain ⟨d, rfl⟩ : ∃ e, d = e + 1 := ⟨d - 1, by omega⟩
    rw [Nat.add_sub_cancel]
    have n1 : ¬ (p ≠ -1 ∧ ¬ (0 ≤ p ∧ p < I 0)) := fun z => z.2 (hpp z.1)
    refine am_go_of 10 [5, 12, 71, 73, 75] _ c_Md_type_9 ?_
    simp (maxSteps := 2000000) (disch := omega) only [c_Md_type_0, c_Md_type_1, c_Md_type_2, c_Md_type_3, c_Md_type_4, c_Md_type_5, c_Md_type_6, c_Md_type_7, c_Md_type_8, c_Md_type_9, c_Md_type_10, c_Md_type_11, c_Md_type_12, c_Md_type_13, c_Md_type_14, c_Md_type_15, c_Md_type_16, c_Md_type_17, c_Md_type_18, c_Md_type_19, c_Md_type_20, c_Md_type_21, c_Md_type_22, c_Md_type_23, c_Md_type_24, c_Md_type_25, c_Md_type_26, c_Md_type_27, c_Md_type_28, c_Md_type_29, c_Md_type_30, c_Md_type_31, c_Md_type_32, c_Md_type_33, c_Md_type_34, c_Md_type_35, c_Md_type_36, c_Md_type_37, c_Md_type_38, c_Md_type_39, c_Md_type_40, c_Md_type_41, c_Md_type_42, c_Md_type_43, c_Md_type_44, c_Md_type_45, c_Md_type_46, c_Md_type_47, c_Md_type_48, c_Md_type_49, c_Md_type_50, c_Md_type_51, c_Md_type_52, c_Md_type_53, c_Md_type_54, c_Md_type_55, c_Md_type_56, c_Md_type_57, c_Md_type_58, c_Md_type_59, c_Md_type_60, c_Md_type_61, c_Md_type_62, c_Md_type_63, c_Md_type_64, c_Md_type_65, c_Md_type_66, c_Md_type_67, c_Md_type_68, c_Md_type_69, c_Md_type_70, c_Md_type_71, c_Md_type_72, c_Md_type_73, c_Md_type_74, c_Md_type_75, c_Md_type_76, c_Md_type_77, c_Md_type_78, c_Md_type_79, c_Md_type_80, sx_aload_n, sx_bastore, sx_bipush, sx_dup_i, sx_dup_r, sx_getfield, sx_iadd, sx_iaload, sx_iastore, sx_iconst, sx_ifCond_eq, sx_ifCond_ne, sx_if_icmp_eq, sx_if_icmp_ne, sx_iload_n, sx_ireturn, sx_isub, sx_putfield, sx_zreturn, am_W_s, am_W_0, am_mm_some, List.mem_cons, or_false, false_or, or_self, or_true, true_or, reduceIte, if_false, if_true, am_o_some, am_o_none, am_o_bad, am_o_good, am_ldi_hit, am_ldi_miss, am_lda_hit, am_lda_miss, am_ldl_hit, am_ldl_miss, am_inc_eq, am_inc_hit, am_inc_miss, am_ob_hit, am_fd_0, am_fd_s, am_ai_hit, am_ab_3, am_al_hit, am_aq_4, am_al0_hit, am_put_1, am_put_2, am_put_put, am_up_hit, am_up_miss, am_s1_eq, am_s2_eq, am_fl_nil, am_fl_hit, am_fl_int, am_fl_ref, am_fl_long, am_fl_longx, am_fl2_nil, am_fl2_hit, am_fl2_hit1, am_fl2_int, am_fl2_ref, am_fl2_long, List.not_mem_nil, not_false_eq_true, ne_eq, Nat.reduceAdd, Nat.reduceEqDiff, Nat.zero_add, Nat.add_left_cancel_iff, List.set_cons_zero, List.set_cons_succ, List.length_cons, List.length_nil, Nat.reduceLT, am_ft_i, am_ft_r, am_ft_z, and_true, true_and, Option.toList_some, Option.toList_none, List.cons_append, List.nil_append, List.drop_succ_cons, List.drop_zero, iI_c, iI_b, iI_s, iI_n, iI_add, iI_sub, iI_mul, iI_neg, iI_nle, iI_ix, iI_eq0, iI_eq1, iI_lt0, iI_0lt, iI_le0, iI_0le, iI_eq, iI_lt, iI_le, iI_upd, iI_updZ, Int.reduceEq, Int.reduceLT, Int.reduceLE, Int.reduceNeg, Int.reduceNe, md_fs_len, md_f0, md_f1, md_f2, md_f3, md_f4, md_f5, md_f6, md_f7, md_f8, md_f9, md_f10, md_f11, md_f12, md_f13, md_f14, md_f15, md_f16, md_f17, md_f18, md_f19, md_f20, md_f21, md_f22, md_f23, md_f24, md_f25, md_f26, md_f27, md_f28, md_f29, md_f30, md_f31, md_f32, md_f33, md_f34, md_f35, md_s0, md_s1, md_s15, md_s16, md_s17, md_s23, md_s24, md_s31, md_t1, md_t2, md_t3, md_t4, md_t5, md_t6, md_t7, md_t8, md_t9, md_t10, md_t11, md_t12, md_t13, md_t14, md_t15, md_t16, md_t17, md_t18, md_t19, md_t20, md_t21, md_t22, md_t23, md_t24, md_t25, md_t26, md_t27, md_t28, md_l1, md_l2, md_l3, md_l4, md_l5, md_l6, md_l7, md_l8, md_l9, md_l10, md_l11, md_l12, md_l13, md_l14, md_l15, md_l16, md_l17, md_l18, md_l19, md_l20, md_l21, md_l22, md_l23, md_l24, md_l25, md_l26, md_l27, md_l28]
    refine am_go_call c_Md_type_12 (by decide) (by decide) (by first | (simp [am_can, am_kd, Value.category, hO]; done) | (simp [am_can, am_kd, am_b, am_c, Value.category, hO]; done)) ?_
    refine (ct_withinZ d (by omega) h s 0 2 hs (by decide) (by decide)).mono (fun r9 h1 hr9 => ?_)
    obtain ⟨rfl, rfl⟩ := hr9
    by_cases cs : 0 ≤ s ∧ s ≤ 2
    · have n2 : ¬ ¬ (0 ≤ s ∧ s ≤ 2) := fun z => z cs
      rw [if_pos cs]
      /- the last ways, from where all is good -/
      have last : (p ≠ -1 → s = 0 ∧ F 1 p = 0) → am_Go am_df am_MT d c_Md_type (28, [(0, .ref o), (1, .int (iI s)), (2, .int (iI p))], [], h1) (fun r0 h' => r0 = some (.int (iI (an_type I F s p))) ∧ if an_type I F s p < 0 then h' = h1 else nw_to h1 o (ty_I I) (ty_F I F s p) r h') := by
        intro hsp
        have n3 : ¬ (p ≠ -1 ∧ (s ≠ 0 ∨ F 1 p ≠ 0)) := fun z => by have := hsp z.1; omega
        by_cases c6 : I 0 = 6
        · have ea : an_type I F s p = -4 := (if_neg n1).trans ((if_neg n2).trans ((if_neg n3).trans (if_pos c6)))
          rw [ea]
          refine am_go_of 10 [5, 12, 71, 73, 75] _ c_Md_type_28 ?_
          simp (maxSteps := 2000000) (disch := omega) only [c_Md_type_0, c_Md_type_1, c_Md_type_2, c_Md_type_3, c_Md_type_4, c_Md_type_5, c_Md_type_6, c_Md_type_7, c_Md_type_8, c_Md_type_9, c_Md_type_10, c_Md_type_11, c_Md_type_12, c_Md_type_13, c_Md_type_14, c_Md_type_15, c_Md_type_16, c_Md_type_17, c_Md_type_18, c_Md_type_19, c_Md_type_20, c_Md_type_21, c_Md_type_22, c_Md_type_23, c_Md_type_24, c_Md_type_25, c_Md_type_26, c_Md_type_27, c_Md_type_28, c_Md_type_29, c_Md_type_30, c_Md_type_31, c_Md_type_32, c_Md_type_33, c_Md_type_34, c_Md_type_35, c_Md_type_36, c_Md_type_37, c_Md_type_38, c_Md_type_39, c_Md_type_40, c_Md_type_41, c_Md_type_42, c_Md_type_43, c_Md_type_44, c_Md_type_45, c_Md_type_46, c_Md_type_47, c_Md_type_48, c_Md_type_49, c_Md_type_50, c_Md_type_51, c_Md_type_52, c_Md_type_53, c_Md_type_54, c_Md_type_55, c_Md_type_56, c_Md_type_57, c_Md_type_58, c_Md_type_59, c_Md_type_60, c_Md_type_61, c_Md_type_62, c_Md_type_63, c_Md_type_64, c_Md_type_65, c_Md_type_66, c_Md_type_67, c_Md_type_68, c_Md_type_69, c_Md_type_70, c_Md_type_71, c_Md_type_72, c_Md_type_73, c_Md_type_74, c_Md_type_75, c_Md_type_76, c_Md_type_77, c_Md_type_78, c_Md_type_79, c_Md_type_80, sx_aload_n, sx_bastore, sx_bipush, sx_dup_i, sx_dup_r, sx_getfield, sx_iadd, sx_iaload, sx_iastore, sx_iconst, sx_ifCond_eq, sx_ifCond_ne, sx_if_icmp_eq, sx_if_icmp_ne, sx_iload_n, sx_ireturn, sx_isub, sx_putfield, sx_zreturn, am_W_s, am_W_0, am_mm_some, List.mem_cons, or_false, false_or, or_self, or_true, true_or, reduceIte, if_false, if_true, am_o_some, am_o_none, am_o_bad, am_o_good, am_ldi_hit, am_ldi_miss, am_lda_hit, am_lda_miss, am_ldl_hit, am_ldl_miss, am_inc_eq, am_inc_hit, am_inc_miss, am_ob_hit, am_fd_0, am_fd_s, am_ai_hit, am_ab_3, am_al_hit, am_aq_4, am_al0_hit, am_put_1, am_put_2, am_put_put, am_up_hit, am_up_miss, am_s1_eq, am_s2_eq, am_fl_nil, am_fl_hit, am_fl_int, am_fl_ref, am_fl_long, am_fl_longx, am_fl2_nil, am_fl2_hit, am_fl2_hit1, am_fl2_int, am_fl2_ref, am_fl2_long, List.not_mem_nil, not_false_eq_true, ne_eq, Nat.reduceAdd, Nat.reduceEqDiff, Nat.zero_add, Nat.add_left_cancel_iff, List.set_cons_zero, List.set_cons_succ, List.length_cons, List.length_nil, Nat.reduceLT, am_ft_i, am_ft_r, am_ft_z, and_true, true_and, Option.toList_some, Option.toList_none, List.cons_append, List.nil_append, List.drop_succ_cons, List.drop_zero, iI_c, iI_b, iI_s, iI_n, iI_add, iI_sub, iI_mul, iI_neg, iI_nle, iI_ix, iI_eq0, iI_eq1, iI_lt0, iI_0lt, iI_le0, iI_0le, iI_eq, iI_lt, iI_le, iI_upd, iI_updZ, Int.reduceEq, Int.reduceLT, Int.reduceLE, Int.reduceNeg, Int.reduceNe, hO, c6, md_fs_len, md_f0, md_f1, md_f2, md_f3, md_f4, md_f5, md_f6, md_f7, md_f8, md_f9, md_f10, md_f11, md_f12, md_f13, md_f14, md_f15, md_f16, md_f17, md_f18, md_f19, md_f20, md_f21, md_f22, md_f23, md_f24, md_f25, md_f26, md_f27, md_f28, md_f29, md_f30, md_f31, md_f32, md_f33, md_f34, md_f35, md_s0, md_s1, md_s15, md_s16, md_s17, md_s23, md_s24, md_s31, md_t1, md_t2, md_t3, md_t4, md_t5, md_t6, md_t7, md_t8, md_t9, md_t10, md_t11, md_t12, md_t13, md_t14, md_t15, md_t16, md_t17, md_t18, md_t19, md_t20, md_t21, md_t22, md_t23, md_t24, md_t25, md_t26, md_t27, md_t28, md_l1, md_l2, md_l3, md_l4, md_l5, md_l6, md_l7, md_l8, md_l9, md_l10, md_l11, md_l12, md_l13, md_l14, md_l15, md_l16, md_l17, md_l18, md_l19, md_l20, md_l21, md_l22, md_l23, md_l24, md_l25, md_l26, md_l27, md_l28]
          all_goals (first | trivial | rfl | omega | exact ⟨rfl, by rw [if_pos (by decide)]⟩)
        · have ea : an_type I F s p = I 0 := (if_neg n1).trans ((if_neg n2).trans ((if_neg n3).trans (if_neg c6)))
          rw [ea]
          simp only [if_neg (show ¬ I 0 < 0 by omega)]
          have keep := ty_keep hr hhs hrl hbd hpp cs hsp c6
          have w0 := ((((((H.rf.row (k := 1) (t := 0) (n := 6) (g := vI (F 1) (I 0) s) ⟨by decide, by decide⟩ rfl rfl).row (k := 2) (t := 0) (n := 6) (g := vI (F 2) (I 0) p) ⟨by decide, by decide⟩ rfl rfl).row (k := 3) (t := 0) (n := 6) (g := vI (F 3) (I 0) 0) ⟨by decide, by decide⟩ rfl rfl).row (k := 5) (t := 3) (n := 6) (g := vI (F 5) (I 0) 0) ⟨by decide, by decide⟩ rfl rfl).row (k := 8) (t := 0) (n := 9) (g := vI (F 8) (I 0) 0) ⟨by decide, by decide⟩ rfl rfl)).num (I1 := va_up I 0 (I 0 + 1))
          have hO2 := w0.1.2.1
          refine am_go_of 60 [5, 12, 71, 73, 75] _ c_Md_type_28 ?_
          simp (maxSteps := 2000000) (disch := omega) only [c_Md_type_0, c_Md_type_1, c_Md_type_2, c_Md_type_3, c_Md_type_4, c_Md_type_5, c_Md_type_6, c_Md_type_7, c_Md_type_8, c_Md_type_9, c_Md_type_10, c_Md_type_11, c_Md_type_12, c_Md_type_13, c_Md_type_14, c_Md_type_15, c_Md_type_16, c_Md_type_17, c_Md_type_18, c_Md_type_19, c_Md_type_20, c_Md_type_21, c_Md_type_22, c_Md_type_23, c_Md_type_24, c_Md_type_25, c_Md_type_26, c_Md_type_27, c_Md_type_28, c_Md_type_29, c_Md_type_30, c_Md_type_31, c_Md_type_32, c_Md_type_33, c_Md_type_34, c_Md_type_35, c_Md_type_36, c_Md_type_37, c_Md_type_38, c_Md_type_39, c_Md_type_40, c_Md_type_41, c_Md_type_42, c_Md_type_43, c_Md_type_44, c_Md_type_45, c_Md_type_46, c_Md_type_47, c_Md_type_48, c_Md_type_49, c_Md_type_50, c_Md_type_51, c_Md_type_52, c_Md_type_53, c_Md_type_54, c_Md_type_55, c_Md_type_56, c_Md_type_57, c_Md_type_58, c_Md_type_59, c_Md_type_60, c_Md_type_61, c_Md_type_62, c_Md_type_63, c_Md_type_64, c_Md_type_65, c_Md_type_66, c_Md_type_67, c_Md_type_68, c_Md_type_69, c_Md_type_70, c_Md_type_71, c_Md_type_72, c_Md_type_73, c_Md_type_74, c_Md_type_75, c_Md_type_76, c_Md_type_77, c_Md_type_78, c_Md_type_79, c_Md_type_80, sx_aload_n, sx_bastore, sx_bipush, sx_dup_i, sx_dup_r, sx_getfield, sx_iadd, sx_iaload, sx_iastore, sx_iconst, sx_ifCond_eq, sx_ifCond_ne, sx_if_icmp_eq, sx_if_icmp_ne, sx_iload_n, sx_ireturn, sx_isub, sx_putfield, sx_zreturn, am_W_s, am_W_0, am_mm_some, List.mem_cons, or_false, false_or, or_self, or_true, true_or, reduceIte, if_false, if_true, am_o_some, am_o_none, am_o_bad, am_o_good, am_ldi_hit, am_ldi_miss, am_lda_hit, am_lda_miss, am_ldl_hit, am_ldl_miss, am_inc_eq, am_inc_hit, am_inc_miss, am_ob_hit, am_fd_0, am_fd_s, am_ai_hit, am_ab_3, am_al_hit, am_aq_4, am_al0_hit, am_put_1, am_put_2, am_put_put, am_up_hit, am_up_miss, am_s1_eq, am_s2_eq, am_fl_nil, am_fl_hit, am_fl_int, am_fl_ref, am_fl_long, am_fl_longx, am_fl2_nil, am_fl2_hit, am_fl2_hit1, am_fl2_int, am_fl2_ref, am_fl2_long, List.not_mem_nil, not_false_eq_true, ne_eq, Nat.reduceAdd, Nat.reduceEqDiff, Nat.zero_add, Nat.add_left_cancel_iff, List.set_cons_zero, List.set_cons_succ, List.length_cons, List.length_nil, Nat.reduceLT, am_ft_i, am_ft_r, am_ft_z, and_true, true_and, Option.toList_some, Option.toList_none, List.cons_append, List.nil_append, List.drop_succ_cons, List.drop_zero, iI_c, iI_b, iI_s, iI_n, iI_add, iI_sub, iI_mul, iI_neg, iI_nle, iI_ix, iI_eq0, iI_eq1, iI_lt0, iI_0lt, iI_le0, iI_0le, iI_eq, iI_lt, iI_le, iI_upd, iI_updZ, Int.reduceEq, Int.reduceLT, Int.reduceLE, Int.reduceNeg, Int.reduceNe, hO, hA, c6, md_fs_len, md_f0, md_f1, md_f2, md_f3, md_f4, md_f5, md_f6, md_f7, md_f8, md_f9, md_f10, md_f11, md_f12, md_f13, md_f14, md_f15, md_f16, md_f17, md_f18, md_f19, md_f20, md_f21, md_f22, md_f23, md_f24, md_f25, md_f26, md_f27, md_f28, md_f29, md_f30, md_f31, md_f32, md_f33, md_f34, md_f35, md_s0, md_s1, md_s15, md_s16, md_s17, md_s23, md_s24, md_s31, md_t1, md_t2, md_t3, md_t4, md_t5, md_t6, md_t7, md_t8, md_t9, md_t10, md_t11, md_t12, md_t13, md_t14, md_t15, md_t16, md_t17, md_t18, md_t19, md_t20, md_t21, md_t22, md_t23, md_t24, md_t25, md_t26, md_t27, md_t28, md_l1, md_l2, md_l3, md_l4, md_l5, md_l6, md_l7, md_l8, md_l9, md_l10, md_l11, md_l12, md_l13, md_l14, md_l15, md_l16, md_l17, md_l18, md_l19, md_l20, md_l21, md_l22, md_l23, md_l24, md_l25, md_l26, md_l27, md_l28]
          repeat (refine And.intro (by omega) ?_)
          refine am_go_call c_Md_type_71 (by decide) (by decide) (by first | (simp [am_can, am_kd, Value.category, hO2]; done) | (simp [am_can, am_kd, am_b, am_c, Value.category, hO2]; done)) ?_
          refine (ct_relist d (by omega) _ o (ty_I I) (ty_F I F s p) w0.1 keep.1 keep.2.2.1 keep.2.1).mono (fun r9 h2 hr9 => ?_)
          obtain ⟨rfl, F1, w1, hl1⟩ := hr9
          have hO3 := w1.1.2.1
          have hrg1 : md_rg (ty_I I) F1 := rg_ba keep.1 (fun k a b c d _ _ => hl1.1 k a b c d) hl1.2.1 (fun x hx => by rw [hl1.1 17 (by decide) (by decide) (by decide) (by decide)]; exact (keep.1.2.1 x hx).2.2.2.2.2.2.2.2)
          have hhs1 : md_hs (ty_I I) F1 := hs_ba keep.2.1 (fun k a b c d _ _ => hl1.1 k a b c d)
          refine am_go_of 10 [5, 12, 71, 73, 75] _ c_Md_type_72 ?_
          simp (maxSteps := 2000000) (disch := omega) only [c_Md_type_0, c_Md_type_1, c_Md_type_2, c_Md_type_3, c_Md_type_4, c_Md_type_5, c_Md_type_6, c_Md_type_7, c_Md_type_8, c_Md_type_9, c_Md_type_10, c_Md_type_11, c_Md_type_12, c_Md_type_13, c_Md_type_14, c_Md_type_15, c_Md_type_16, c_Md_type_17, c_Md_type_18, c_Md_type_19, c_Md_type_20, c_Md_type_21, c_Md_type_22, c_Md_type_23, c_Md_type_24, c_Md_type_25, c_Md_type_26, c_Md_type_27, c_Md_type_28, c_Md_type_29, c_Md_type_30, c_Md_type_31, c_Md_type_32, c_Md_type_33, c_Md_type_34, c_Md_type_35, c_Md_type_36, c_Md_type_37, c_Md_type_38, c_Md_type_39, c_Md_type_40, c_Md_type_41, c_Md_type_42, c_Md_type_43, c_Md_type_44, c_Md_type_45, c_Md_type_46, c_Md_type_47, c_Md_type_48, c_Md_type_49, c_Md_type_50, c_Md_type_51, c_Md_type_52, c_Md_type_53, c_Md_type_54, c_Md_type_55, c_Md_type_56, c_Md_type_57, c_Md_type_58, c_Md_type_59, c_Md_type_60, c_Md_type_61, c_Md_type_62, c_Md_type_63, c_Md_type_64, c_Md_type_65, c_Md_type_66, c_Md_type_67, c_Md_type_68, c_Md_type_69, c_Md_type_70, c_Md_type_71, c_Md_type_72, c_Md_type_73, c_Md_type_74, c_Md_type_75, c_Md_type_76, c_Md_type_77, c_Md_type_78, c_Md_type_79, c_Md_type_80, sx_aload_n, sx_bastore, sx_bipush, sx_dup_i, sx_dup_r, sx_getfield, sx_iadd, sx_iaload, sx_iastore, sx_iconst, sx_ifCond_eq, sx_ifCond_ne, sx_if_icmp_eq, sx_if_icmp_ne, sx_iload_n, sx_ireturn, sx_isub, sx_putfield, sx_zreturn, am_W_s, am_W_0, am_mm_some, List.mem_cons, or_false, false_or, or_self, or_true, true_or, reduceIte, if_false, if_true, am_o_some, am_o_none, am_o_bad, am_o_good, am_ldi_hit, am_ldi_miss, am_lda_hit, am_lda_miss, am_ldl_hit, am_ldl_miss, am_inc_eq, am_inc_hit, am_inc_miss, am_ob_hit, am_fd_0, am_fd_s, am_ai_hit, am_ab_3, am_al_hit, am_aq_4, am_al0_hit, am_put_1, am_put_2, am_put_put, am_up_hit, am_up_miss, am_s1_eq, am_s2_eq, am_fl_nil, am_fl_hit, am_fl_int, am_fl_ref, am_fl_long, am_fl_longx, am_fl2_nil, am_fl2_hit, am_fl2_hit1, am_fl2_int, am_fl2_ref, am_fl2_long, List.not_mem_nil, not_false_eq_true, ne_eq, Nat.reduceAdd, Nat.reduceEqDiff, Nat.zero_add, Nat.add_left_cancel_iff, List.set_cons_zero, List.set_cons_succ, List.length_cons, List.length_nil, Nat.reduceLT, am_ft_i, am_ft_r, am_ft_z, and_true, true_and, Option.toList_some, Option.toList_none, List.cons_append, List.nil_append, List.drop_succ_cons, List.drop_zero, iI_c, iI_b, iI_s, iI_n, iI_add, iI_sub, iI_mul, iI_neg, iI_nle, iI_ix, iI_eq0, iI_eq1, iI_lt0, iI_0lt, iI_le0, iI_0le, iI_eq, iI_lt, iI_le, iI_upd, iI_updZ, Int.reduceEq, Int.reduceLT, Int.reduceLE, Int.reduceNeg, Int.reduceNe, md_fs_len, md_f0, md_f1, md_f2, md_f3, md_f4, md_f5, md_f6, md_f7, md_f8, md_f9, md_f10, md_f11, md_f12, md_f13, md_f14, md_f15, md_f16, md_f17, md_f18, md_f19, md_f20, md_f21, md_f22, md_f23, md_f24, md_f25, md_f26, md_f27, md_f28, md_f29, md_f30, md_f31, md_f32, md_f33, md_f34, md_f35, md_s0, md_s1, md_s15, md_s16, md_s17, md_s23, md_s24, md_s31, md_t1, md_t2, md_t3, md_t4, md_t5, md_t6, md_t7, md_t8, md_t9, md_t10, md_t11, md_t12, md_t13, md_t14, md_t15, md_t16, md_t17, md_t18, md_t19, md_t20, md_t21, md_t22, md_t23, md_t24, md_t25, md_t26, md_t27, md_t28, md_l1, md_l2, md_l3, md_l4, md_l5, md_l6, md_l7, md_l8, md_l9, md_l10, md_l11, md_l12, md_l13, md_l14, md_l15, md_l16, md_l17, md_l18, md_l19, md_l20, md_l21, md_l22, md_l23, md_l24, md_l25, md_l26, md_l27, md_l28]
          refine am_go_call c_Md_type_73 (by decide) (by decide) (by first | (simp [am_can, am_kd, Value.category, hO3]; done) | (simp [am_can, am_kd, am_b, am_c, Value.category, hO3]; done)) ?_
          refine (ct_refind d (by omega) h2 o (ty_I I) F1 w1.1 hrg1 hhs1).mono (fun r9 h4 hr9 => ?_)
          obtain ⟨rfl, g, w2, hg⟩ := hr9
          have hO4 := w2.1.2.1
          rw [otb_ba (fun k a b c d _ _ => hl1.1 k a b c d)] at hg
          have h13b : va_up F1 17 g 13 = vec r := by
            rw [va_up_miss (by decide), hl1.1 13 (by decide) (by decide) (by decide) (by decide)]
            exact h13
          refine am_go_of 10 [5, 12, 71, 73, 75] _ c_Md_type_74 ?_
          simp (maxSteps := 2000000) (disch := omega) only [c_Md_type_0, c_Md_type_1, c_Md_type_2, c_Md_type_3, c_Md_type_4, c_Md_type_5, c_Md_type_6, c_Md_type_7, c_Md_type_8, c_Md_type_9, c_Md_type_10, c_Md_type_11, c_Md_type_12, c_Md_type_13, c_Md_type_14, c_Md_type_15, c_Md_type_16, c_Md_type_17, c_Md_type_18, c_Md_type_19, c_Md_type_20, c_Md_type_21, c_Md_type_22, c_Md_type_23, c_Md_type_24, c_Md_type_25, c_Md_type_26, c_Md_type_27, c_Md_type_28, c_Md_type_29, c_Md_type_30, c_Md_type_31, c_Md_type_32, c_Md_type_33, c_Md_type_34, c_Md_type_35, c_Md_type_36, c_Md_type_37, c_Md_type_38, c_Md_type_39, c_Md_type_40, c_Md_type_41, c_Md_type_42, c_Md_type_43, c_Md_type_44, c_Md_type_45, c_Md_type_46, c_Md_type_47, c_Md_type_48, c_Md_type_49, c_Md_type_50, c_Md_type_51, c_Md_type_52, c_Md_type_53, c_Md_type_54, c_Md_type_55, c_Md_type_56, c_Md_type_57, c_Md_type_58, c_Md_type_59, c_Md_type_60, c_Md_type_61, c_Md_type_62, c_Md_type_63, c_Md_type_64, c_Md_type_65, c_Md_type_66, c_Md_type_67, c_Md_type_68, c_Md_type_69, c_Md_type_70, c_Md_type_71, c_Md_type_72, c_Md_type_73, c_Md_type_74, c_Md_type_75, c_Md_type_76, c_Md_type_77, c_Md_type_78, c_Md_type_79, c_Md_type_80, sx_aload_n, sx_bastore, sx_bipush, sx_dup_i, sx_dup_r, sx_getfield, sx_iadd, sx_iaload, sx_iastore, sx_iconst, sx_ifCond_eq, sx_ifCond_ne, sx_if_icmp_eq, sx_if_icmp_ne, sx_iload_n, sx_ireturn, sx_isub, sx_putfield, sx_zreturn, am_W_s, am_W_0, am_mm_some, List.mem_cons, or_false, false_or, or_self, or_true, true_or, reduceIte, if_false, if_true, am_o_some, am_o_none, am_o_bad, am_o_good, am_ldi_hit, am_ldi_miss, am_lda_hit, am_lda_miss, am_ldl_hit, am_ldl_miss, am_inc_eq, am_inc_hit, am_inc_miss, am_ob_hit, am_fd_0, am_fd_s, am_ai_hit, am_ab_3, am_al_hit, am_aq_4, am_al0_hit, am_put_1, am_put_2, am_put_put, am_up_hit, am_up_miss, am_s1_eq, am_s2_eq, am_fl_nil, am_fl_hit, am_fl_int, am_fl_ref, am_fl_long, am_fl_longx, am_fl2_nil, am_fl2_hit, am_fl2_hit1, am_fl2_int, am_fl2_ref, am_fl2_long, List.not_mem_nil, not_false_eq_true, ne_eq, Nat.reduceAdd, Nat.reduceEqDiff, Nat.zero_add, Nat.add_left_cancel_iff, List.set_cons_zero, List.set_cons_succ, List.length_cons, List.length_nil, Nat.reduceLT, am_ft_i, am_ft_r, am_ft_z, and_true, true_and, Option.toList_some, Option.toList_none, List.cons_append, List.nil_append, List.drop_succ_cons, List.drop_zero, iI_c, iI_b, iI_s, iI_n, iI_add, iI_sub, iI_mul, iI_neg, iI_nle, iI_ix, iI_eq0, iI_eq1, iI_lt0, iI_0lt, iI_le0, iI_0le, iI_eq, iI_lt, iI_le, iI_upd, iI_updZ, Int.reduceEq, Int.reduceLT, Int.reduceLE, Int.reduceNeg, Int.reduceNe, md_fs_len, md_f0, md_f1, md_f2, md_f3, md_f4, md_f5, md_f6, md_f7, md_f8, md_f9, md_f10, md_f11, md_f12, md_f13, md_f14, md_f15, md_f16, md_f17, md_f18, md_f19, md_f20, md_f21, md_f22, md_f23, md_f24, md_f25, md_f26, md_f27, md_f28, md_f29, md_f30, md_f31, md_f32, md_f33, md_f34, md_f35, md_s0, md_s1, md_s15, md_s16, md_s17, md_s23, md_s24, md_s31, md_t1, md_t2, md_t3, md_t4, md_t5, md_t6, md_t7, md_t8, md_t9, md_t10, md_t11, md_t12, md_t13, md_t14, md_t15, md_t16, md_t17, md_t18, md_t19, md_t20, md_t21, md_t22, md_t23, md_t24, md_t25, md_t26, md_t27, md_t28, md_l1, md_l2, md_l3, md_l4, md_l5, md_l6, md_l7, md_l8, md_l9, md_l10, md_l11, md_l12, md_l13, md_l14, md_l15, md_l16, md_l17, md_l18, md_l19, md_l20, md_l21, md_l22, md_l23, md_l24, md_l25, md_l26, md_l27, md_l28]
          refine am_go_call c_Md_type_75 (by decide) (by decide) (by first | (simp [am_can, am_kd, Value.category, hO4]; done) | (simp [am_can, am_kd, am_b, am_c, Value.category, hO4]; done)) ?_
          refine (ct_first d (by omega) h4 o (ty_I I) _ r w2.1 h13b).mono (fun r9 h5 hr9 => ?_)
          obtain ⟨rfl, w3⟩ := hr9
          have hO5 := w3.1.2.1
          have e1 : fs_I (ty_I I) 0 = I 0 + 1 := rfl
          refine am_go_of 10 [5, 12, 71, 73, 75] _ c_Md_type_76 ?_
          simp (maxSteps := 2000000) (disch := omega) only [c_Md_type_0, c_Md_type_1, c_Md_type_2, c_Md_type_3, c_Md_type_4, c_Md_type_5, c_Md_type_6, c_Md_type_7, c_Md_type_8, c_Md_type_9, c_Md_type_10, c_Md_type_11, c_Md_type_12, c_Md_type_13, c_Md_type_14, c_Md_type_15, c_Md_type_16, c_Md_type_17, c_Md_type_18, c_Md_type_19, c_Md_type_20, c_Md_type_21, c_Md_type_22, c_Md_type_23, c_Md_type_24, c_Md_type_25, c_Md_type_26, c_Md_type_27, c_Md_type_28, c_Md_type_29, c_Md_type_30, c_Md_type_31, c_Md_type_32, c_Md_type_33, c_Md_type_34, c_Md_type_35, c_Md_type_36, c_Md_type_37, c_Md_type_38, c_Md_type_39, c_Md_type_40, c_Md_type_41, c_Md_type_42, c_Md_type_43, c_Md_type_44, c_Md_type_45, c_Md_type_46, c_Md_type_47, c_Md_type_48, c_Md_type_49, c_Md_type_50, c_Md_type_51, c_Md_type_52, c_Md_type_53, c_Md_type_54, c_Md_type_55, c_Md_type_56, c_Md_type_57, c_Md_type_58, c_Md_type_59, c_Md_type_60, c_Md_type_61, c_Md_type_62, c_Md_type_63, c_Md_type_64, c_Md_type_65, c_Md_type_66, c_Md_type_67, c_Md_type_68, c_Md_type_69, c_Md_type_70, c_Md_type_71, c_Md_type_72, c_Md_type_73, c_Md_type_74, c_Md_type_75, c_Md_type_76, c_Md_type_77, c_Md_type_78, c_Md_type_79, c_Md_type_80, sx_aload_n, sx_bastore, sx_bipush, sx_dup_i, sx_dup_r, sx_getfield, sx_iadd, sx_iaload, sx_iastore, sx_iconst, sx_ifCond_eq, sx_ifCond_ne, sx_if_icmp_eq, sx_if_icmp_ne, sx_iload_n, sx_ireturn, sx_isub, sx_putfield, sx_zreturn, am_W_s, am_W_0, am_mm_some, List.mem_cons, or_false, false_or, or_self, or_true, true_or, reduceIte, if_false, if_true, am_o_some, am_o_none, am_o_bad, am_o_good, am_ldi_hit, am_ldi_miss, am_lda_hit, am_lda_miss, am_ldl_hit, am_ldl_miss, am_inc_eq, am_inc_hit, am_inc_miss, am_ob_hit, am_fd_0, am_fd_s, am_ai_hit, am_ab_3, am_al_hit, am_aq_4, am_al0_hit, am_put_1, am_put_2, am_put_put, am_up_hit, am_up_miss, am_s1_eq, am_s2_eq, am_fl_nil, am_fl_hit, am_fl_int, am_fl_ref, am_fl_long, am_fl_longx, am_fl2_nil, am_fl2_hit, am_fl2_hit1, am_fl2_int, am_fl2_ref, am_fl2_long, List.not_mem_nil, not_false_eq_true, ne_eq, Nat.reduceAdd, Nat.reduceEqDiff, Nat.zero_add, Nat.add_left_cancel_iff, List.set_cons_zero, List.set_cons_succ, List.length_cons, List.length_nil, Nat.reduceLT, am_ft_i, am_ft_r, am_ft_z, and_true, true_and, Option.toList_some, Option.toList_none, List.cons_append, List.nil_append, List.drop_succ_cons, List.drop_zero, iI_c, iI_b, iI_s, iI_n, iI_add, iI_sub, iI_mul, iI_neg, iI_nle, iI_ix, iI_eq0, iI_eq1, iI_lt0, iI_0lt, iI_le0, iI_0le, iI_eq, iI_lt, iI_le, iI_upd, iI_updZ, Int.reduceEq, Int.reduceLT, Int.reduceLE, Int.reduceNeg, Int.reduceNe, hO5, e1, Int.add_sub_cancel, md_fs_len, md_f0, md_f1, md_f2, md_f3, md_f4, md_f5, md_f6, md_f7, md_f8, md_f9, md_f10, md_f11, md_f12, md_f13, md_f14, md_f15, md_f16, md_f17, md_f18, md_f19, md_f20, md_f21, md_f22, md_f23, md_f24, md_f25, md_f26, md_f27, md_f28, md_f29, md_f30, md_f31, md_f32, md_f33, md_f34, md_f35, md_s0, md_s1, md_s15, md_s16, md_s17, md_s23, md_s24, md_s31, md_t1, md_t2, md_t3, md_t4, md_t5, md_t6, md_t7, md_t8, md_t9, md_t10, md_t11, md_t12, md_t13, md_t14, md_t15, md_t16, md_t17, md_t18, md_t19, md_t20, md_t21, md_t22, md_t23, md_t24, md_t25, md_t26, md_t27, md_t28, md_l1, md_l2, md_l3, md_l4, md_l5, md_l6, md_l7, md_l8, md_l9, md_l10, md_l11, md_l12, md_l13, md_l14, md_l15, md_l16, md_l17, md_l18, md_l19, md_l20, md_l21, md_l22, md_l23, md_l24, md_l25, md_l26, md_l27, md_l28]
          first | exact ⟨_, (((w0.tr w1).tr w2).tr w3), ba_of hl1.1, all_ba keep.1 keep.2.1 keep.2.2.2 h3 hl1 hg rfl⟩ | exact ⟨rfl, _, (((w0.tr w1).tr w2).tr w3), ba_of hl1.1, all_ba keep.1 keep.2.1 keep.2.2.2 h3 hl1 hg rfl⟩
      by_cases cp : p = -1
      · have g := last (fun z => absurd cp z)
        rw [cp] at g ⊢
        refine am_go_of 10 [5, 12, 28, 71, 73, 75] _ c_Md_type_13 ?_
        simp (maxSteps := 2000000) (disch := omega) only [c_Md_type_0, c_Md_type_1, c_Md_type_2, c_Md_type_3, c_Md_type_4, c_Md_type_5, c_Md_type_6, c_Md_type_7, c_Md_type_8, c_Md_type_9, c_Md_type_10, c_Md_type_11, c_Md_type_12, c_Md_type_13, c_Md_type_14, c_Md_type_15, c_Md_type_16, c_Md_type_17, c_Md_type_18, c_Md_type_19, c_Md_type_20, c_Md_type_21, c_Md_type_22, c_Md_type_23, c_Md_type_24, c_Md_type_25, c_Md_type_26, c_Md_type_27, c_Md_type_28, c_Md_type_29, c_Md_type_30, c_Md_type_31, c_Md_type_32, c_Md_type_33, c_Md_type_34, c_Md_type_35, c_Md_type_36, c_Md_type_37, c_Md_type_38, c_Md_type_39, c_Md_type_40, c_Md_type_41, c_Md_type_42, c_Md_type_43, c_Md_type_44, c_Md_type_45, c_Md_type_46, c_Md_type_47, c_Md_type_48, c_Md_type_49, c_Md_type_50, c_Md_type_51, c_Md_type_52, c_Md_type_53, c_Md_type_54, c_Md_type_55, c_Md_type_56, c_Md_type_57, c_Md_type_58, c_Md_type_59, c_Md_type_60, c_Md_type_61, c_Md_type_62, c_Md_type_63, c_Md_type_64, c_Md_type_65, c_Md_type_66, c_Md_type_67, c_Md_type_68, c_Md_type_69, c_Md_type_70, c_Md_type_71, c_Md_type_72, c_Md_type_73, c_Md_type_74, c_Md_type_75, c_Md_type_76, c_Md_type_77, c_Md_type_78, c_Md_type_79, c_Md_type_80, sx_aload_n, sx_bastore, sx_bipush, sx_dup_i, sx_dup_r, sx_getfield, sx_iadd, sx_iaload, sx_iastore, sx_iconst, sx_ifCond_eq, sx_ifCond_ne, sx_if_icmp_eq, sx_if_icmp_ne, sx_iload_n, sx_ireturn, sx_isub, sx_putfield, sx_zreturn, am_W_s, am_W_0, am_mm_some, List.mem_cons, or_false, false_or, or_self, or_true, true_or, reduceIte, if_false, if_true, am_o_some, am_o_none, am_o_bad, am_o_good, am_ldi_hit, am_ldi_miss, am_lda_hit, am_lda_miss, am_ldl_hit, am_ldl_miss, am_inc_eq, am_inc_hit, am_inc_miss, am_ob_hit, am_fd_0, am_fd_s, am_ai_hit, am_ab_3, am_al_hit, am_aq_4, am_al0_hit, am_put_1, am_put_2, am_put_put, am_up_hit, am_up_miss, am_s1_eq, am_s2_eq, am_fl_nil, am_fl_hit, am_fl_int, am_fl_ref, am_fl_long, am_fl_longx, am_fl2_nil, am_fl2_hit, am_fl2_hit1, am_fl2_int, am_fl2_ref, am_fl2_long, List.not_mem_nil, not_false_eq_true, ne_eq, Nat.reduceAdd, Nat.reduceEqDiff, Nat.zero_add, Nat.add_left_cancel_iff, List.set_cons_zero, List.set_cons_succ, List.length_cons, List.length_nil, Nat.reduceLT, am_ft_i, am_ft_r, am_ft_z, and_true, true_and, Option.toList_some, Option.toList_none, List.cons_append, List.nil_append, List.drop_succ_cons, List.drop_zero, iI_c, iI_b, iI_s, iI_n, iI_add, iI_sub, iI_mul, iI_neg, iI_nle, iI_ix, iI_eq0, iI_eq1, iI_lt0, iI_0lt, iI_le0, iI_0le, iI_eq, iI_lt, iI_le, iI_upd, iI_updZ, Int.reduceEq, Int.reduceLT, Int.reduceLE, Int.reduceNeg, Int.reduceNe, md_fs_len, md_f0, md_f1, md_f2, md_f3, md_f4, md_f5, md_f6, md_f7, md_f8, md_f9, md_f10, md_f11, md_f12, md_f13, md_f14, md_f15, md_f16, md_f17, md_f18, md_f19, md_f20, md_f21, md_f22, md_f23, md_f24, md_f25, md_f26, md_f27, md_f28, md_f29, md_f30, md_f31, md_f32, md_f33, md_f34, md_f35, md_s0, md_s1, md_s15, md_s16, md_s17, md_s23, md_s24, md_s31, md_t1, md_t2, md_t3, md_t4, md_t5, md_t6, md_t7, md_t8, md_t9, md_t10, md_t11, md_t12, md_t13, md_t14, md_t15, md_t16, md_t17, md_t18, md_t19, md_t20, md_t21, md_t22, md_t23, md_t24, md_t25, md_t26, md_t27, md_t28, md_l1, md_l2, md_l3, md_l4, md_l5, md_l6, md_l7, md_l8, md_l9, md_l10, md_l11, md_l12, md_l13, md_l14, md_l15, md_l16, md_l17, md_l18, md_l19, md_l20, md_l21, md_l22, md_l23, md_l24, md_l25, md_l26, md_l27, md_l28]
        exact g.lo (al_le_of (by simp) (by simp))
      · have hp1 := hpp cp
        have e1 := hr.2.1 p ⟨by omega, by omega⟩
        by_cases c0 : s = 0
        · by_cases cf : F 1 p = 0
          · have g := last (fun _ => ⟨c0, cf⟩)
            rw [c0] at g ⊢
            refine am_go_of 20 [5, 12, 28, 71, 73, 75] _ c_Md_type_13 ?_
            simp (maxSteps := 2000000) (disch := omega) only [c_Md_type_0, c_Md_type_1, c_Md_type_2, c_Md_type_3, c_Md_type_4, c_Md_type_5, c_Md_type_6, c_Md_type_7, c_Md_type_8, c_Md_type_9, c_Md_type_10, c_Md_type_11, c_Md_type_12, c_Md_type_13, c_Md_type_14, c_Md_type_15, c_Md_type_16, c_Md_type_17, c_Md_type_18, c_Md_type_19, c_Md_type_20, c_Md_type_21, c_Md_type_22, c_Md_type_23, c_Md_type_24, c_Md_type_25, c_Md_type_26, c_Md_type_27, c_Md_type_28, c_Md_type_29, c_Md_type_30, c_Md_type_31, c_Md_type_32, c_Md_type_33, c_Md_type_34, c_Md_type_35, c_Md_type_36, c_Md_type_37, c_Md_type_38, c_Md_type_39, c_Md_type_40, c_Md_type_41, c_Md_type_42, c_Md_type_43, c_Md_type_44, c_Md_type_45, c_Md_type_46, c_Md_type_47, c_Md_type_48, c_Md_type_49, c_Md_type_50, c_Md_type_51, c_Md_type_52, c_Md_type_53, c_Md_type_54, c_Md_type_55, c_Md_type_56, c_Md_type_57, c_Md_type_58, c_Md_type_59, c_Md_type_60, c_Md_type_61, c_Md_type_62, c_Md_type_63, c_Md_type_64, c_Md_type_65, c_Md_type_66, c_Md_type_67, c_Md_type_68, c_Md_type_69, c_Md_type_70, c_Md_type_71, c_Md_type_72, c_Md_type_73, c_Md_type_74, c_Md_type_75, c_Md_type_76, c_Md_type_77, c_Md_type_78, c_Md_type_79, c_Md_type_80, sx_aload_n, sx_bastore, sx_bipush, sx_dup_i, sx_dup_r, sx_getfield, sx_iadd, sx_iaload, sx_iastore, sx_iconst, sx_ifCond_eq, sx_ifCond_ne, sx_if_icmp_eq, sx_if_icmp_ne, sx_iload_n, sx_ireturn, sx_isub, sx_putfield, sx_zreturn, am_W_s, am_W_0, am_mm_some, List.mem_cons, or_false, false_or, or_self, or_true, true_or, reduceIte, if_false, if_true, am_o_some, am_o_none, am_o_bad, am_o_good, am_ldi_hit, am_ldi_miss, am_lda_hit, am_lda_miss, am_ldl_hit, am_ldl_miss, am_inc_eq, am_inc_hit, am_inc_miss, am_ob_hit, am_fd_0, am_fd_s, am_ai_hit, am_ab_3, am_al_hit, am_aq_4, am_al0_hit, am_put_1, am_put_2, am_put_put, am_up_hit, am_up_miss, am_s1_eq, am_s2_eq, am_fl_nil, am_fl_hit, am_fl_int, am_fl_ref, am_fl_long, am_fl_longx, am_fl2_nil, am_fl2_hit, am_fl2_hit1, am_fl2_int, am_fl2_ref, am_fl2_long, List.not_mem_nil, not_false_eq_true, ne_eq, Nat.reduceAdd, Nat.reduceEqDiff, Nat.zero_add, Nat.add_left_cancel_iff, List.set_cons_zero, List.set_cons_succ, List.length_cons, List.length_nil, Nat.reduceLT, am_ft_i, am_ft_r, am_ft_z, and_true, true_and, Option.toList_some, Option.toList_none, List.cons_append, List.nil_append, List.drop_succ_cons, List.drop_zero, iI_c, iI_b, iI_s, iI_n, iI_add, iI_sub, iI_mul, iI_neg, iI_nle, iI_ix, iI_eq0, iI_eq1, iI_lt0, iI_0lt, iI_le0, iI_0le, iI_eq, iI_lt, iI_le, iI_upd, iI_updZ, Int.reduceEq, Int.reduceLT, Int.reduceLE, Int.reduceNeg, Int.reduceNe, hO, hA, cp, cf, md_fs_len, md_f0, md_f1, md_f2, md_f3, md_f4, md_f5, md_f6, md_f7, md_f8, md_f9, md_f10, md_f11, md_f12, md_f13, md_f14, md_f15, md_f16, md_f17, md_f18, md_f19, md_f20, md_f21, md_f22, md_f23, md_f24, md_f25, md_f26, md_f27, md_f28, md_f29, md_f30, md_f31, md_f32, md_f33, md_f34, md_f35, md_s0, md_s1, md_s15, md_s16, md_s17, md_s23, md_s24, md_s31, md_t1, md_t2, md_t3, md_t4, md_t5, md_t6, md_t7, md_t8, md_t9, md_t10, md_t11, md_t12, md_t13, md_t14, md_t15, md_t16, md_t17, md_t18, md_t19, md_t20, md_t21, md_t22, md_t23, md_t24, md_t25, md_t26, md_t27, md_t28, md_l1, md_l2, md_l3, md_l4, md_l5, md_l6, md_l7, md_l8, md_l9, md_l10, md_l11, md_l12, md_l13, md_l14, md_l15, md_l16, md_l17, md_l18, md_l19, md_l20, md_l21, md_l22, md_l23, md_l24, md_l25, md_l26, md_l27, md_l28]
            repeat (refine And.intro (by omega) ?_)
            exact g.lo (al_le_of (by simp) (by simp))
          · have ea : an_type I F s p = -3 := (if_neg n1).trans ((if_neg n2).trans (if_pos ⟨cp, Or.inr cf⟩))
            rw [ea]
            rw [c0] at *
            refine am_go_of 20 [5, 12, 71, 73, 75] _ c_Md_type_13 ?_
            simp (maxSteps := 2000000) (disch := omega) only [c_Md_type_0, c_Md_type_1, c_Md_type_2, c_Md_type_3, c_Md_type_4, c_Md_type_5, c_Md_type_6, c_Md_type_7, c_Md_type_8, c_Md_type_9, c_Md_type_10, c_Md_type_11, c_Md_type_12, c_Md_type_13, c_Md_type_14, c_Md_type_15, c_Md_type_16, c_Md_type_17, c_Md_type_18, c_Md_type_19, c_Md_type_20, c_Md_type_21, c_Md_type_22, c_Md_type_23, c_Md_type_24, c_Md_type_25, c_Md_type_26, c_Md_type_27, c_Md_type_28, c_Md_type_29, c_Md_type_30, c_Md_type_31, c_Md_type_32, c_Md_type_33, c_Md_type_34, c_Md_type_35, c_Md_type_36, c_Md_type_37, c_Md_type_38, c_Md_type_39, c_Md_type_40, c_Md_type_41, c_Md_type_42, c_Md_type_43, c_Md_type_44, c_Md_type_45, c_Md_type_46, c_Md_type_47, c_Md_type_48, c_Md_type_49, c_Md_type_50, c_Md_type_51, c_Md_type_52, c_Md_type_53, c_Md_type_54, c_Md_type_55, c_Md_type_56, c_Md_type_57, c_Md_type_58, c_Md_type_59, c_Md_type_60, c_Md_type_61, c_Md_type_62, c_Md_type_63, c_Md_type_64, c_Md_type_65, c_Md_type_66, c_Md_type_67, c_Md_type_68, c_Md_type_69, c_Md_type_70, c_Md_type_71, c_Md_type_72, c_Md_type_73, c_Md_type_74, c_Md_type_75, c_Md_type_76, c_Md_type_77, c_Md_type_78, c_Md_type_79, c_Md_type_80, sx_aload_n, sx_bastore, sx_bipush, sx_dup_i, sx_dup_r, sx_getfield, sx_iadd, sx_iaload, sx_iastore, sx_iconst, sx_ifCond_eq, sx_ifCond_ne, sx_if_icmp_eq, sx_if_icmp_ne, sx_iload_n, sx_ireturn, sx_isub, sx_putfield, sx_zreturn, am_W_s, am_W_0, am_mm_some, List.mem_cons, or_false, false_or, or_self, or_true, true_or, reduceIte, if_false, if_true, am_o_some, am_o_none, am_o_bad, am_o_good, am_ldi_hit, am_ldi_miss, am_lda_hit, am_lda_miss, am_ldl_hit, am_ldl_miss, am_inc_eq, am_inc_hit, am_inc_miss, am_ob_hit, am_fd_0, am_fd_s, am_ai_hit, am_ab_3, am_al_hit, am_aq_4, am_al0_hit, am_put_1, am_put_2, am_put_put, am_up_hit, am_up_miss, am_s1_eq, am_s2_eq, am_fl_nil, am_fl_hit, am_fl_int, am_fl_ref, am_fl_long, am_fl_longx, am_fl2_nil, am_fl2_hit, am_fl2_hit1, am_fl2_int, am_fl2_ref, am_fl2_long, List.not_mem_nil, not_false_eq_true, ne_eq, Nat.reduceAdd, Nat.reduceEqDiff, Nat.zero_add, Nat.add_left_cancel_iff, List.set_cons_zero, List.set_cons_succ, List.length_cons, List.length_nil, Nat.reduceLT, am_ft_i, am_ft_r, am_ft_z, and_true, true_and, Option.toList_some, Option.toList_none, List.cons_append, List.nil_append, List.drop_succ_cons, List.drop_zero, iI_c, iI_b, iI_s, iI_n, iI_add, iI_sub, iI_mul, iI_neg, iI_nle, iI_ix, iI_eq0, iI_eq1, iI_lt0, iI_0lt, iI_le0, iI_0le, iI_eq, iI_lt, iI_le, iI_upd, iI_updZ, Int.reduceEq, Int.reduceLT, Int.reduceLE, Int.reduceNeg, Int.reduceNe, hO, hA, cp, cf, md_fs_len, md_f0, md_f1, md_f2, md_f3, md_f4, md_f5, md_f6, md_f7, md_f8, md_f9, md_f10, md_f11, md_f12, md_f13, md_f14, md_f15, md_f16, md_f17, md_f18, md_f19, md_f20, md_f21, md_f22, md_f23, md_f24, md_f25, md_f26, md_f27, md_f28, md_f29, md_f30, md_f31, md_f32, md_f33, md_f34, md_f35, md_s0, md_s1, md_s15, md_s16, md_s17, md_s23, md_s24, md_s31, md_t1, md_t2, md_t3, md_t4, md_t5, md_t6, md_t7, md_t8, md_t9, md_t10, md_t11, md_t12, md_t13, md_t14, md_t15, md_t16, md_t17, md_t18, md_t19, md_t20, md_t21, md_t22, md_t23, md_t24, md_t25, md_t26, md_t27, md_t28, md_l1, md_l2, md_l3, md_l4, md_l5, md_l6, md_l7, md_l8, md_l9, md_l10, md_l11, md_l12, md_l13, md_l14, md_l15, md_l16, md_l17, md_l18, md_l19, md_l20, md_l21, md_l22, md_l23, md_l24, md_l25, md_l26, md_l27, md_l28]
            repeat (refine And.intro (by omega) ?_)
            all_goals (first | trivial | rfl | omega | exact ⟨rfl, by rw [if_pos (by decide)]⟩)
        · have ea : an_type I F s p = -3 := (if_neg n1).trans ((if_neg n2).trans (if_pos ⟨cp, Or.inl c0⟩))
          rw [ea]
          refine am_go_of 20 [5, 12, 71, 73, 75] _ c_Md_type_13 ?_
          simp (maxSteps := 2000000) (disch := omega) only [c_Md_type_0, c_Md_type_1, c_Md_type_2, c_Md_type_3, c_Md_type_4, c_Md_type_5, c_Md_type_6, c_Md_type_7, c_Md_type_8, c_Md_type_9, c_Md_type_10, c_Md_type_11, c_Md_type_12, c_Md_type_13, c_Md_type_14, c_Md_type_15, c_Md_type_16, c_Md_type_17, c_Md_type_18, c_Md_type_19, c_Md_type_20, c_Md_type_21, c_Md_type_22, c_Md_type_23, c_Md_type_24, c_Md_type_25, c_Md_type_26, c_Md_type_27, c_Md_type_28, c_Md_type_29, c_Md_type_30, c_Md_type_31, c_Md_type_32, c_Md_type_33, c_Md_type_34, c_Md_type_35, c_Md_type_36, c_Md_type_37, c_Md_type_38, c_Md_type_39, c_Md_type_40, c_Md_type_41, c_Md_type_42, c_Md_type_43, c_Md_type_44, c_Md_type_45, c_Md_type_46, c_Md_type_47, c_Md_type_48, c_Md_type_49, c_Md_type_50, c_Md_type_51, c_Md_type_52, c_Md_type_53, c_Md_type_54, c_Md_type_55, c_Md_type_56, c_Md_type_57, c_Md_type_58, c_Md_type_59, c_Md_type_60, c_Md_type_61, c_Md_type_62, c_Md_type_63, c_Md_type_64, c_Md_type_65, c_Md_type_66, c_Md_type_67, c_Md_type_68, c_Md_type_69, c_Md_type_70, c_Md_type_71, c_Md_type_72, c_Md_type_73, c_Md_type_74, c_Md_type_75, c_Md_type_76, c_Md_type_77, c_Md_type_78, c_Md_type_79, c_Md_type_80, sx_aload_n, sx_bastore, sx_bipush, sx_dup_i, sx_dup_r, sx_getfield, sx_iadd, sx_iaload, sx_iastore, sx_iconst, sx_ifCond_eq, sx_ifCond_ne, sx_if_icmp_eq, sx_if_icmp_ne, sx_iload_n, sx_ireturn, sx_isub, sx_putfield, sx_zreturn, am_W_s, am_W_0, am_mm_some, List.mem_cons, or_false, false_or, or_self, or_true, true_or, reduceIte, if_false, if_true, am_o_some, am_o_none, am_o_bad, am_o_good, am_ldi_hit, am_ldi_miss, am_lda_hit, am_lda_miss, am_ldl_hit, am_ldl_miss, am_inc_eq, am_inc_hit, am_inc_miss, am_ob_hit, am_fd_0, am_fd_s, am_ai_hit, am_ab_3, am_al_hit, am_aq_4, am_al0_hit, am_put_1, am_put_2, am_put_put, am_up_hit, am_up_miss, am_s1_eq, am_s2_eq, am_fl_nil, am_fl_hit, am_fl_int, am_fl_ref, am_fl_long, am_fl_longx, am_fl2_nil, am_fl2_hit, am_fl2_hit1, am_fl2_int, am_fl2_ref, am_fl2_long, List.not_mem_nil, not_false_eq_true, ne_eq, Nat.reduceAdd, Nat.reduceEqDiff, Nat.zero_add, Nat.add_left_cancel_iff, List.set_cons_zero, List.set_cons_succ, List.length_cons, List.length_nil, Nat.reduceLT, am_ft_i, am_ft_r, am_ft_z, and_true, true_and, Option.toList_some, Option.toList_none, List.cons_append, List.nil_append, List.drop_succ_cons, List.drop_zero, iI_c, iI_b, iI_s, iI_n, iI_add, iI_sub, iI_mul, iI_neg, iI_nle, iI_ix, iI_eq0, iI_eq1, iI_lt0, iI_0lt, iI_le0, iI_0le, iI_eq, iI_lt, iI_le, iI_upd, iI_updZ, Int.reduceEq, Int.reduceLT, Int.reduceLE, Int.reduceNeg, Int.reduceNe, hO, hA, cp, c0, md_fs_len, md_f0, md_f1, md_f2, md_f3, md_f4, md_f5, md_f6, md_f7, md_f8, md_f9, md_f10, md_f11, md_f12, md_f13, md_f14, md_f15, md_f16, md_f17, md_f18, md_f19, md_f20, md_f21, md_f22, md_f23, md_f24, md_f25, md_f26, md_f27, md_f28, md_f29, md_f30, md_f31, md_f32, md_f33, md_f34, md_f35, md_s0, md_s1, md_s15, md_s16, md_s17, md_s23, md_s24, md_s31, md_t1, md_t2, md_t3, md_t4, md_t5, md_t6, md_t7, md_t8, md_t9, md_t10, md_t11, md_t12, md_t13, md_t14, md_t15, md_t16, md_t17, md_t18, md_t19, md_t20, md_t21, md_t22, md_t23, md_t24, md_t25, md_t26, md_t27, md_t28, md_l1, md_l2, md_l3, md_l4, md_l5, md_l6, md_l7, md_l8, md_l9, md_l10, md_l11, md_l12, md_l13, md_l14, md_l15, md_l16, md_l17, md_l18, md_l19, md_l20, md_l21, md_l22, md_l23, md_l24, md_l25, md_l26, md_l27, md_l28]
          all_goals (first | trivial | rfl | omega | exact ⟨rfl, by rw [if_pos (by decide)]⟩)
    · have ea : an_type I F s p = -2 := (if_neg n1).trans (if_pos cs)
      rw [ea, if_neg cs]
      refine am_go_of 10 [5, 12, 71, 73, 75] _ c_Md_type_13 ?_
      simp (maxSteps := 2000000) (disch := omega) only [c_Md_type_0, c_Md_type_1, c_Md_type_2, c_Md_type_3, c_Md_type_4, c_Md_type_5, c_Md_type_6, c_Md_type_7, c_Md_type_8, c_Md_type_9, c_Md_type_10, c_Md_type_11, c_Md_type_12, c_Md_type_13, c_Md_type_14, c_Md_type_15, c_Md_type_16, c_Md_type_17, c_Md_type_18, c_Md_type_19, c_Md_type_20, c_Md_type_21, c_Md_type_22, c_Md_type_23, c_Md_type_24, c_Md_type_25, c_Md_type_26, c_Md_type_27, c_Md_type_28, c_Md_type_29, c_Md_type_30, c_Md_type_31, c_Md_type_32, c_Md_type_33, c_Md_type_34, c_Md_type_35, c_Md_type_36, c_Md_type_37, c_Md_type_38, c_Md_type_39, c_Md_type_40, c_Md_type_41, c_Md_type_42, c_Md_type_43, c_Md_type_44, c_Md_type_45, c_Md_type_46, c_Md_type_47, c_Md_type_48, c_Md_type_49, c_Md_type_50, c_Md_type_51, c_Md_type_52, c_Md_type_53, c_Md_type_54, c_Md_type_55, c_Md_type_56, c_Md_type_57, c_Md_type_58, c_Md_type_59, c_Md_type_60, c_Md_type_61, c_Md_type_62, c_Md_type_63, c_Md_type_64, c_Md_type_65, c_Md_type_66, c_Md_type_67, c_Md_type_68, c_Md_type_69, c_Md_type_70, c_Md_type_71, c_Md_type_72, c_Md_type_73, c_Md_type_74, c_Md_type_75, c_Md_type_76, c_Md_type_77, c_Md_type_78, c_Md_type_79, c_Md_type_80, sx_aload_n, sx_bastore, sx_bipush, sx_dup_i, sx_dup_r, sx_getfield, sx_iadd, sx_iaload, sx_iastore, sx_iconst, sx_ifCond_eq, sx_ifCond_ne, sx_if_icmp_eq, sx_if_icmp_ne, sx_iload_n, sx_ireturn, sx_isub, sx_putfield, sx_zreturn, am_W_s, am_W_0, am_mm_some, List.mem_cons, or_false, false_or, or_self, or_true, true_or, reduceIte, if_false, if_true, am_o_some, am_o_none, am_o_bad, am_o_good, am_ldi_hit, am_ldi_miss, am_lda_hit, am_lda_miss, am_ldl_hit, am_ldl_miss, am_inc_eq, am_inc_hit, am_inc_miss, am_ob_hit, am_fd_0, am_fd_s, am_ai_hit, am_ab_3, am_al_hit, am_aq_4, am_al0_hit, am_put_1, am_put_2, am_put_put, am_up_hit, am_up_miss, am_s1_eq, am_s2_eq, am_fl_nil, am_fl_hit, am_fl_int, am_fl_ref, am_fl_long, am_fl_longx, am_fl2_nil, am_fl2_hit, am_fl2_hit1, am_fl2_int, am_fl2_ref, am_fl2_long, List.not_mem_nil, not_false_eq_true, ne_eq, Nat.reduceAdd, Nat.reduceEqDiff, Nat.zero_add, Nat.add_left_cancel_iff, List.set_cons_zero, List.set_cons_succ, List.length_cons, List.length_nil, Nat.reduceLT, am_ft_i, am_ft_r, am_ft_z, and_true, true_and, Option.toList_some, Option.toList_none, List.cons_append, List.nil_append, List.drop_succ_cons, List.drop_zero, iI_c, iI_b, iI_s, iI_n, iI_add, iI_sub, iI_mul, iI_neg, iI_nle, iI_ix, iI_eq0, iI_eq1, iI_lt0, iI_0lt, iI_le0, iI_0le, iI_eq, iI_lt, iI_le, iI_upd, iI_updZ, Int.reduceEq, Int.reduceLT, Int.reduceLE, Int.reduceNeg, Int.reduceNe, md_fs_len, md_f0, md_f1, md_f2, md_f3, md_f4, md_f5, md_f6, md_f7, md_f8, md_f9, md_f10, md_f11, md_f12, md_f13, md_f14, md_f15, md_f16, md_f17, md_f18, md_f19, md_f20, md_f21, md_f22, md_f23, md_f24, md_f25, md_f26, md_f27, md_f28, md_f29, md_f30, md_f31, md_f32, md_f33, md_f34, md_f35, md_s0, md_s1, md_s15, md_s16, md_s17, md_s23, md_s24, md_s31, md_t1, md_t2, md_t3, md_t4, md_t5, md_t6, md_t7, md_t8, md_t9, md_t10, md_t11, md_t12, md_t13, md_t14, md_t15, md_t16, md_t17, md_t18, md_t19, md_t20, md_t21, md_t22, md_t23, md_t24, md_t25, md_t26, md_t27, md_t28, md_l1, md_l2, md_l3, md_l4, md_l5, md_l6, md_l7, md_l8, md_l9, md_l10, md_l11, md_l12, md_l13, md_l14, md_l15, md_l16, md_l17, md_l18, md_l19, md_l20, md_l21, md_l22, md_l23, md_l24, md_l25, md_l26, md_l27, md_l28]
      all_goals (first | trivial | rfl | omega | exact ⟨rfl, by rw [if_pos (by decide)]⟩)
  obtain ⟨d, rfl⟩ : ∃ e, d = e + 1 := ⟨d - 1, by omega⟩
  rw [Nat.add_sub_cancel] at good
  refine am_ct_of2 mt_Md_type (Nat.le_of_ble_eq_true rfl) ?_
  simp only [ar_nil, ar_int, ar_ref, ar_long, Nat.reduceAdd]
  by_cases cp : p = -1
  · have g := good (fun z => absurd cp z)
    rw [cp] at g ⊢
    refine am_go_of 10 [5, 9, 12, 71, 73, 75] _ c_Md_type_0 ?_
    simp (maxSteps := 2000000) (disch := omega) only [c_Md_type_0, c_Md_type_1, c_Md_type_2, c_Md_type_3, c_Md_type_4, c_Md_type_5, c_Md_type_6, c_Md_type_7, c_Md_type_8, c_Md_type_9, c_Md_type_10, c_Md_type_11, c_Md_type_12, c_Md_type_13, c_Md_type_14, c_Md_type_15, c_Md_type_16, c_Md_type_17, c_Md_type_18, c_Md_type_19, c_Md_type_20, c_Md_type_21, c_Md_type_22, c_Md_type_23, c_Md_type_24, c_Md_type_25, c_Md_type_26, c_Md_type_27, c_Md_type_28, c_Md_type_29, c_Md_type_30, c_Md_type_31, c_Md_type_32, c_Md_type_33, c_Md_type_34, c_Md_type_35, c_Md_type_36, c_Md_type_37, c_Md_type_38, c_Md_type_39, c_Md_type_40, c_Md_type_41, c_Md_type_42, c_Md_type_43, c_Md_type_44, c_Md_type_45, c_Md_type_46, c_Md_type_47, c_Md_type_48, c_Md_type_49, c_Md_type_50, c_Md_type_51, c_Md_type_52, c_Md_type_53, c_Md_type_54, c_Md_type_55, c_Md_type_56, c_Md_type_57, c_Md_type_58, c_Md_type_59, c_Md_type_60, c_Md_type_61, c_Md_type_62, c_Md_type_63, c_Md_type_64, c_Md_type_65, c_Md_type_66, c_Md_type_67, c_Md_type_68, c_Md_type_69, c_Md_type_70, c_Md_type_71, c_Md_type_72, c_Md_type_73, c_Md_type_74, c_Md_type_75, c_Md_type_76, c_Md_type_77, c_Md_type_78, c_Md_type_79, c_Md_type_80, sx_aload_n, sx_bastore, sx_bipush, sx_dup_i, sx_dup_r, sx_getfield, sx_iadd, sx_iaload, sx_iastore, sx_iconst, sx_ifCond_eq, sx_ifCond_ne, sx_if_icmp_eq, sx_if_icmp_ne, sx_iload_n, sx_ireturn, sx_isub, sx_putfield, sx_zreturn, am_W_s, am_W_0, am_mm_some, List.mem_cons, or_false, false_or, or_self, or_true, true_or, reduceIte, if_false, if_true, am_o_some, am_o_none, am_o_bad, am_o_good, am_ldi_hit, am_ldi_miss, am_lda_hit, am_lda_miss, am_ldl_hit, am_ldl_miss, am_inc_eq, am_inc_hit, am_inc_miss, am_ob_hit, am_fd_0, am_fd_s, am_ai_hit, am_ab_3, am_al_hit, am_aq_4, am_al0_hit, am_put_1, am_put_2, am_put_put, am_up_hit, am_up_miss, am_s1_eq, am_s2_eq, am_fl_nil, am_fl_hit, am_fl_int, am_fl_ref, am_fl_long, am_fl_longx, am_fl2_nil, am_fl2_hit, am_fl2_hit1, am_fl2_int, am_fl2_ref, am_fl2_long, List.not_mem_nil, not_false_eq_true, ne_eq, Nat.reduceAdd, Nat.reduceEqDiff, Nat.zero_add, Nat.add_left_cancel_iff, List.set_cons_zero, List.set_cons_succ, List.length_cons, List.length_nil, Nat.reduceLT, am_ft_i, am_ft_r, am_ft_z, and_true, true_and, Option.toList_some, Option.toList_none, List.cons_append, List.nil_append, List.drop_succ_cons, List.drop_zero, iI_c, iI_b, iI_s, iI_n, iI_add, iI_sub, iI_mul, iI_neg, iI_nle, iI_ix, iI_eq0, iI_eq1, iI_lt0, iI_0lt, iI_le0, iI_0le, iI_eq, iI_lt, iI_le, iI_upd, iI_updZ, Int.reduceEq, Int.reduceLT, Int.reduceLE, Int.reduceNeg, Int.reduceNe, md_fs_len, md_f0, md_f1, md_f2, md_f3, md_f4, md_f5, md_f6, md_f7, md_f8, md_f9, md_f10, md_f11, md_f12, md_f13, md_f14, md_f15, md_f16, md_f17, md_f18, md_f19, md_f20, md_f21, md_f22, md_f23, md_f24, md_f25, md_f26, md_f27, md_f28, md_f29, md_f30, md_f31, md_f32, md_f33, md_f34, md_f35, md_s0, md_s1, md_s15, md_s16, md_s17, md_s23, md_s24, md_s31, md_t1, md_t2, md_t3, md_t4, md_t5, md_t6, md_t7, md_t8, md_t9, md_t10, md_t11, md_t12, md_t13, md_t14, md_t15, md_t16, md_t17, md_t18, md_t19, md_t20, md_t21, md_t22, md_t23, md_t24, md_t25, md_t26, md_t27, md_t28, md_l1, md_l2, md_l3, md_l4, md_l5, md_l6, md_l7, md_l8, md_l9, md_l10, md_l11, md_l12, md_l13, md_l14, md_l15, md_l16, md_l17, md_l18, md_l19, md_l20, md_l21, md_l22, md_l23, md_l24, md_l25, md_l26, md_l27, md_l28]
    exact g.lo (al_le_of (by simp) (by simp))
  · refine am_go_of 10 [5, 12, 71, 73, 75] _ c_Md_type_0 ?_
    simp (maxSteps := 2000000) (disch := omega) only [c_Md_type_0, c_Md_type_1, c_Md_type_2, c_Md_type_3, c_Md_type_4, c_Md_type_5, c_Md_type_6, c_Md_type_7, c_Md_type_8, c_Md_type_9, c_Md_type_10, c_Md_type_11, c_Md_type_12, c_Md_type_13, c_Md_type_14, c_Md_type_15, c_Md_type_16, c_Md_type_17, c_Md_type_18, c_Md_type_19, c_Md_type_20, c_Md_type_21, c_Md_type_22, c_Md_type_23, c_Md_type_24, c_Md_type_25, c_Md_type_26, c_Md_type_27, c_Md_type_28, c_Md_type_29, c_Md_type_30, c_Md_type_31, c_Md_type_32, c_Md_type_33, c_Md_type_34, c_Md_type_35, c_Md_type_36, c_Md_type_37, c_Md_type_38, c_Md_type_39, c_Md_type_40, c_Md_type_41, c_Md_type_42, c_Md_type_43, c_Md_type_44, c_Md_type_45, c_Md_type_46, c_Md_type_47, c_Md_type_48, c_Md_type_49, c_Md_type_50, c_Md_type_51, c_Md_type_52, c_Md_type_53, c_Md_type_54, c_Md_type_55, c_Md_type_56, c_Md_type_57, c_Md_type_58, c_Md_type_59, c_Md_type_60, c_Md_type_61, c_Md_type_62, c_Md_type_63, c_Md_type_64, c_Md_type_65, c_Md_type_66, c_Md_type_67, c_Md_type_68, c_Md_type_69, c_Md_type_70, c_Md_type_71, c_Md_type_72, c_Md_type_73, c_Md_type_74, c_Md_type_75, c_Md_type_76, c_Md_type_77, c_Md_type_78, c_Md_type_79, c_Md_type_80, sx_aload_n, sx_bastore, sx_bipush, sx_dup_i, sx_dup_r, sx_getfield, sx_iadd, sx_iaload, sx_iastore, sx_iconst, sx_ifCond_eq, sx_ifCond_ne, sx_if_icmp_eq, sx_if_icmp_ne, sx_iload_n, sx_ireturn, sx_isub, sx_putfield, sx_zreturn, am_W_s, am_W_0, am_mm_some, List.mem_cons, or_false, false_or, or_self, or_true, true_or, reduceIte, if_false, if_true, am_o_some, am_o_none, am_o_bad, am_o_good, am_ldi_hit, am_ldi_miss, am_lda_hit, am_lda_miss, am_ldl_hit, am_ldl_miss, am_inc_eq, am_inc_hit, am_inc_miss, am_ob_hit, am_fd_0, am_fd_s, am_ai_hit, am_ab_3, am_al_hit, am_aq_4, am_al0_hit, am_put_1, am_put_2, am_put_put, am_up_hit, am_up_miss, am_s1_eq, am_s2_eq, am_fl_nil, am_fl_hit, am_fl_int, am_fl_ref, am_fl_long, am_fl_longx, am_fl2_nil, am_fl2_hit, am_fl2_hit1, am_fl2_int, am_fl2_ref, am_fl2_long, List.not_mem_nil, not_false_eq_true, ne_eq, Nat.reduceAdd, Nat.reduceEqDiff, Nat.zero_add, Nat.add_left_cancel_iff, List.set_cons_zero, List.set_cons_succ, List.length_cons, List.length_nil, Nat.reduceLT, am_ft_i, am_ft_r, am_ft_z, and_true, true_and, Option.toList_some, Option.toList_none, List.cons_append, List.nil_append, List.drop_succ_cons, List.drop_zero, iI_c, iI_b, iI_s, iI_n, iI_add, iI_sub, iI_mul, iI_neg, iI_nle, iI_ix, iI_eq0, iI_eq1, iI_lt0, iI_0lt, iI_le0, iI_0le, iI_eq, iI_lt, iI_le, iI_upd, iI_updZ, Int.reduceEq, Int.reduceLT, Int.reduceLE, Int.reduceNeg, Int.reduceNe, hO, cp, md_fs_len, md_f0, md_f1, md_f2, md_f3, md_f4, md_f5, md_f6, md_f7, md_f8, md_f9, md_f10, md_f11, md_f12, md_f13, md_f14, md_f15, md_f16, md_f17, md_f18, md_f19, md_f20, md_f21, md_f22, md_f23, md_f24, md_f25, md_f26, md_f27, md_f28, md_f29, md_f30, md_f31, md_f32, md_f33, md_f34, md_f35, md_s0, md_s1, md_s15, md_s16, md_s17, md_s23, md_s24, md_s31, md_t1, md_t2, md_t3, md_t4, md_t5, md_t6, md_t7, md_t8, md_t9, md_t10, md_t11, md_t12, md_t13, md_t14, md_t15, md_t16, md_t17, md_t18, md_t19, md_t20, md_t21, md_t22, md_t23, md_t24, md_t25, md_t26, md_t27, md_t28, md_l1, md_l2, md_l3, md_l4, md_l5, md_l6, md_l7, md_l8, md_l9, md_l10, md_l11, md_l12, md_l13, md_l14, md_l15, md_l16, md_l17, md_l18, md_l19, md_l20, md_l21, md_l22, md_l23, md_l24, md_l25, md_l26, md_l27, md_l28]
    refine am_go_call c_Md_type_5 (by decide) (by decide) (by first | (simp [am_can, am_kd, Value.category, hO]; done) | (simp [am_can, am_kd, am_b, am_c, Value.category, hO]; done)) ?_
    refine (ct_isTypeZ d (by omega) h o I F H hr p hp).mono (fun r9 h1 hr9 => ?_)
    obtain ⟨rfl, rfl⟩ := hr9
    by_cases c : 0 ≤ p ∧ p < I 0
    · rw [show is_ty I p = 1 from if_pos c]
      refine am_go_of 10 [5, 9, 12, 71, 73, 75] _ c_Md_type_6 ?_
      simp (maxSteps := 2000000) (disch := omega) only [c_Md_type_0, c_Md_type_1, c_Md_type_2, c_Md_type_3, c_Md_type_4, c_Md_type_5, c_Md_type_6, c_Md_type_7, c_Md_type_8, c_Md_type_9, c_Md_type_10, c_Md_type_11, c_Md_type_12, c_Md_type_13, c_Md_type_14, c_Md_type_15, c_Md_type_16, c_Md_type_17, c_Md_type_18, c_Md_type_19, c_Md_type_20, c_Md_type_21, c_Md_type_22, c_Md_type_23, c_Md_type_24, c_Md_type_25, c_Md_type_26, c_Md_type_27, c_Md_type_28, c_Md_type_29, c_Md_type_30, c_Md_type_31, c_Md_type_32, c_Md_type_33, c_Md_type_34, c_Md_type_35, c_Md_type_36, c_Md_type_37, c_Md_type_38, c_Md_type_39, c_Md_type_40, c_Md_type_41, c_Md_type_42, c_Md_type_43, c_Md_type_44, c_Md_type_45, c_Md_type_46, c_Md_type_47, c_Md_type_48, c_Md_type_49, c_Md_type_50, c_Md_type_51, c_Md_type_52, c_Md_type_53, c_Md_type_54, c_Md_type_55, c_Md_type_56, c_Md_type_57, c_Md_type_58, c_Md_type_59, c_Md_type_60, c_Md_type_61, c_Md_type_62, c_Md_type_63, c_Md_type_64, c_Md_type_65, c_Md_type_66, c_Md_type_67, c_Md_type_68, c_Md_type_69, c_Md_type_70, c_Md_type_71, c_Md_type_72, c_Md_type_73, c_Md_type_74, c_Md_type_75, c_Md_type_76, c_Md_type_77, c_Md_type_78, c_Md_type_79, c_Md_type_80, sx_aload_n, sx_bastore, sx_bipush, sx_dup_i, sx_dup_r, sx_getfield, sx_iadd, sx_iaload, sx_iastore, sx_iconst, sx_ifCond_eq, sx_ifCond_ne, sx_if_icmp_eq, sx_if_icmp_ne, sx_iload_n, sx_ireturn, sx_isub, sx_putfield, sx_zreturn, am_W_s, am_W_0, am_mm_some, List.mem_cons, or_false, false_or, or_self, or_true, true_or, reduceIte, if_false, if_true, am_o_some, am_o_none, am_o_bad, am_o_good, am_ldi_hit, am_ldi_miss, am_lda_hit, am_lda_miss, am_ldl_hit, am_ldl_miss, am_inc_eq, am_inc_hit, am_inc_miss, am_ob_hit, am_fd_0, am_fd_s, am_ai_hit, am_ab_3, am_al_hit, am_aq_4, am_al0_hit, am_put_1, am_put_2, am_put_put, am_up_hit, am_up_miss, am_s1_eq, am_s2_eq, am_fl_nil, am_fl_hit, am_fl_int, am_fl_ref, am_fl_long, am_fl_longx, am_fl2_nil, am_fl2_hit, am_fl2_hit1, am_fl2_int, am_fl2_ref, am_fl2_long, List.not_mem_nil, not_false_eq_true, ne_eq, Nat.reduceAdd, Nat.reduceEqDiff, Nat.zero_add, Nat.add_left_cancel_iff, List.set_cons_zero, List.set_cons_succ, List.length_cons, List.length_nil, Nat.reduceLT, am_ft_i, am_ft_r, am_ft_z, and_true, true_and, Option.toList_some, Option.toList_none, List.cons_append, List.nil_append, List.drop_succ_cons, List.drop_zero, iI_c, iI_b, iI_s, iI_n, iI_add, iI_sub, iI_mul, iI_neg, iI_nle, iI_ix, iI_eq0, iI_eq1, iI_lt0, iI_0lt, iI_le0, iI_0le, iI_eq, iI_lt, iI_le, iI_upd, iI_updZ, Int.reduceEq, Int.reduceLT, Int.reduceLE, Int.reduceNeg, Int.reduceNe, md_fs_len, md_f0, md_f1, md_f2, md_f3, md_f4, md_f5, md_f6, md_f7, md_f8, md_f9, md_f10, md_f11, md_f12, md_f13, md_f14, md_f15, md_f16, md_f17, md_f18, md_f19, md_f20, md_f21, md_f22, md_f23, md_f24, md_f25, md_f26, md_f27, md_f28, md_f29, md_f30, md_f31, md_f32, md_f33, md_f34, md_f35, md_s0, md_s1, md_s15, md_s16, md_s17, md_s23, md_s24, md_s31, md_t1, md_t2, md_t3, md_t4, md_t5, md_t6, md_t7, md_t8, md_t9, md_t10, md_t11, md_t12, md_t13, md_t14, md_t15, md_t16, md_t17, md_t18, md_t19, md_t20, md_t21, md_t22, md_t23, md_t24, md_t25, md_t26, md_t27, md_t28, md_l1, md_l2, md_l3, md_l4, md_l5, md_l6, md_l7, md_l8, md_l9, md_l10, md_l11, md_l12, md_l13, md_l14, md_l15, md_l16, md_l17, md_l18, md_l19, md_l20, md_l21, md_l22, md_l23, md_l24, md_l25, md_l26, md_l27, md_l28]
      exact (good (fun _ => c)).lo (al_le_of (by simp) (by simp))
    · have ea : an_type I F s p = -1 := if_pos ⟨cp, c⟩
      rw [ea, show is_ty I p = 0 from if_neg c]
      refine am_go_of 10 [5, 12, 71, 73, 75] _ c_Md_type_6 ?_
      simp (maxSteps := 2000000) (disch := omega) only [c_Md_type_0, c_Md_type_1, c_Md_type_2, c_Md_type_3, c_Md_type_4, c_Md_type_5, c_Md_type_6, c_Md_type_7, c_Md_type_8, c_Md_type_9, c_Md_type_10, c_Md_type_11, c_Md_type_12, c_Md_type_13, c_Md_type_14, c_Md_type_15, c_Md_type_16, c_Md_type_17, c_Md_type_18, c_Md_type_19, c_Md_type_20, c_Md_type_21, c_Md_type_22, c_Md_type_23, c_Md_type_24, c_Md_type_25, c_Md_type_26, c_Md_type_27, c_Md_type_28, c_Md_type_29, c_Md_type_30, c_Md_type_31, c_Md_type_32, c_Md_type_33, c_Md_type_34, c_Md_type_35, c_Md_type_36, c_Md_type_37, c_Md_type_38, c_Md_type_39, c_Md_type_40, c_Md_type_41, c_Md_type_42, c_Md_type_43, c_Md_type_44, c_Md_type_45, c_Md_type_46, c_Md_type_47, c_Md_type_48, c_Md_type_49, c_Md_type_50, c_Md_type_51, c_Md_type_52, c_Md_type_53, c_Md_type_54, c_Md_type_55, c_Md_type_56, c_Md_type_57, c_Md_type_58, c_Md_type_59, c_Md_type_60, c_Md_type_61, c_Md_type_62, c_Md_type_63, c_Md_type_64, c_Md_type_65, c_Md_type_66, c_Md_type_67, c_Md_type_68, c_Md_type_69, c_Md_type_70, c_Md_type_71, c_Md_type_72, c_Md_type_73, c_Md_type_74, c_Md_type_75, c_Md_type_76, c_Md_type_77, c_Md_type_78, c_Md_type_79, c_Md_type_80, sx_aload_n, sx_bastore, sx_bipush, sx_dup_i, sx_dup_r, sx_getfield, sx_iadd, sx_iaload, sx_iastore, sx_iconst, sx_ifCond_eq, sx_ifCond_ne, sx_if_icmp_eq, sx_if_icmp_ne, sx_iload_n, sx_ireturn, sx_isub, sx_putfield, sx_zreturn, am_W_s, am_W_0, am_mm_some, List.mem_cons, or_false, false_or, or_self, or_true, true_or, reduceIte, if_false, if_true, am_o_some, am_o_none, am_o_bad, am_o_good, am_ldi_hit, am_ldi_miss, am_lda_hit, am_lda_miss, am_ldl_hit, am_ldl_miss, am_inc_eq, am_inc_hit, am_inc_miss, am_ob_hit, am_fd_0, am_fd_s, am_ai_hit, am_ab_3, am_al_hit, am_aq_4, am_al0_hit, am_put_1, am_put_2, am_put_put, am_up_hit, am_up_miss, am_s1_eq, am_s2_eq, am_fl_nil, am_fl_hit, am_fl_int, am_fl_ref, am_fl_long, am_fl_longx, am_fl2_nil, am_fl2_hit, am_fl2_hit1, am_fl2_int, am_fl2_ref, am_fl2_long, List.not_mem_nil, not_false_eq_true, ne_eq, Nat.reduceAdd, Nat.reduceEqDiff, Nat.zero_add, Nat.add_left_cancel_iff, List.set_cons_zero, List.set_cons_succ, List.length_cons, List.length_nil, Nat.reduceLT, am_ft_i, am_ft_r, am_ft_z, and_true, true_and, Option.toList_some, Option.toList_none, List.cons_append, List.nil_append, List.drop_succ_cons, List.drop_zero, iI_c, iI_b, iI_s, iI_n, iI_add, iI_sub, iI_mul, iI_neg, iI_nle, iI_ix, iI_eq0, iI_eq1, iI_lt0, iI_0lt, iI_le0, iI_0le, iI_eq, iI_lt, iI_le, iI_upd, iI_updZ, Int.reduceEq, Int.reduceLT, Int.reduceLE, Int.reduceNeg, Int.reduceNe, md_fs_len, md_f0, md_f1, md_f2, md_f3, md_f4, md_f5, md_f6, md_f7, md_f8, md_f9, md_f10, md_f11, md_f12, md_f13, md_f14, md_f15, md_f16, md_f17, md_f18, md_f19, md_f20, md_f21, md_f22, md_f23, md_f24, md_f25, md_f26, md_f27, md_f28, md_f29, md_f30, md_f31, md_f32, md_f33, md_f34, md_f35, md_s0, md_s1, md_s15, md_s16, md_s17, md_s23, md_s24, md_s31, md_t1, md_t2, md_t3, md_t4, md_t5, md_t6, md_t7, md_t8, md_t9, md_t10, md_t11, md_t12, md_t13, md_t14, md_t15, md_t16, md_t17, md_t18, md_t19, md_t20, md_t21, md_t22, md_t23, md_t24, md_t25, md_t26, md_t27, md_t28, md_l1, md_l2, md_l3, md_l4, md_l5, md_l6, md_l7, md_l8, md_l9, md_l10, md_l11, md_l12, md_l13, md_l14, md_l15, md_l16, md_l17, md_l18, md_l19, md_l20, md_l21, md_l22, md_l23, md_l24, md_l25, md_l26, md_l27, md_l28]
      all_goals (first | trivial | rfl | omega | exact ⟨rfl, by rw [if_pos (by decide)]⟩)
