theorem mt_Run_unpackTypes : am_MT[92]? = some m_Run_unpackTypes := rfl
theorem c_Run_unpackTypes_0 : c_Run_unpackTypes[0]? = some (0, 1, .lload_n 2, 2, 0, 0, 0, 0, []) := Eq.trans rfl rfl
theorem c_Run_unpackTypes_1 : c_Run_unpackTypes[1]? = some (1, 2, .lstore 4, 4, 0, 0, 0, 0, []) := Eq.trans rfl rfl
theorem c_Run_unpackTypes_2 : c_Run_unpackTypes[2]? = some (3, 1, .iload_n 1, 1, 0, 0, 0, 0, []) := Eq.trans rfl rfl
theorem c_Run_unpackTypes_3 : c_Run_unpackTypes[3]? = some (4, 1, .iconst 3, 0, 0, 0, 0, 0, []) := Eq.trans rfl rfl
theorem c_Run_unpackTypes_4 : c_Run_unpackTypes[4]? = some (5, 1, .iadd, 0, 0, 0, 0, 0, []) := Eq.trans rfl rfl
theorem c_Run_unpackTypes_5 : c_Run_unpackTypes[5]? = some (6, 1, .iconst 1, 0, 0, 0, 0, 0, []) := Eq.trans rfl rfl
theorem c_Run_unpackTypes_6 : c_Run_unpackTypes[6]? = some (7, 1, .isub, 0, 0, 0, 0, 0, []) := Eq.trans rfl rfl
theorem c_Run_unpackTypes_7 : c_Run_unpackTypes[7]? = some (8, 2, .istore 6, 6, 0, 0, 0, 0, []) := Eq.trans rfl rfl
theorem c_Run_unpackTypes_8 : c_Run_unpackTypes[8]? = some (10, 2, .iload 6, 6, 0, 0, 0, 0, []) := Eq.trans rfl rfl
theorem c_Run_unpackTypes_9 : c_Run_unpackTypes[9]? = some (12, 1, .iload_n 1, 1, 0, 0, 0, 0, []) := Eq.trans rfl rfl
theorem c_Run_unpackTypes_10 : c_Run_unpackTypes[10]? = some (13, 3, .if_icmp .lt 186, 121, 0, 0, 0, 0, []) := Eq.trans rfl rfl
theorem c_Run_unpackTypes_11 : c_Run_unpackTypes[11]? = some (16, 2, .lload 4, 4, 0, 0, 0, 0, []) := Eq.trans rfl rfl
theorem c_Run_unpackTypes_12 : c_Run_unpackTypes[12]? = some (18, 3, .ldc2_w 164, 2097151, 0, 0, 0, 693, []) := Eq.trans rfl rfl
theorem c_Run_unpackTypes_13 : c_Run_unpackTypes[13]? = some (21, 1, .land, 0, 0, 0, 0, 0, []) := Eq.trans rfl rfl
theorem c_Run_unpackTypes_14 : c_Run_unpackTypes[14]? = some (22, 1, .l2i, 0, 0, 0, 0, 0, []) := Eq.trans rfl rfl
theorem c_Run_unpackTypes_15 : c_Run_unpackTypes[15]? = some (23, 2, .istore 7, 7, 0, 0, 0, 0, []) := Eq.trans rfl rfl
theorem c_Run_unpackTypes_16 : c_Run_unpackTypes[16]? = some (25, 1, .aload_n 0, 0, 0, 0, 0, 0, []) := Eq.trans rfl rfl
theorem c_Run_unpackTypes_17 : c_Run_unpackTypes[17]? = some (26, 3, .getfield 29, 3, 4, 0, 0, 207, []) := Eq.trans rfl rfl
theorem c_Run_unpackTypes_18 : c_Run_unpackTypes[18]? = some (29, 2, .iload 6, 6, 0, 0, 0, 0, []) := Eq.trans rfl rfl
theorem c_Run_unpackTypes_19 : c_Run_unpackTypes[19]? = some (31, 2, .iload 7, 7, 0, 0, 0, 0, []) := Eq.trans rfl rfl
theorem c_Run_unpackTypes_20 : c_Run_unpackTypes[20]? = some (33, 2, .bipush 31, 0, 0, 0, 0, 0, []) := Eq.trans rfl rfl
theorem c_Run_unpackTypes_21 : c_Run_unpackTypes[21]? = some (35, 1, .iand, 0, 0, 0, 0, 0, []) := Eq.trans rfl rfl
theorem c_Run_unpackTypes_22 : c_Run_unpackTypes[22]? = some (36, 2, .bipush 9, 0, 0, 0, 0, 0, []) := Eq.trans rfl rfl
theorem c_Run_unpackTypes_23 : c_Run_unpackTypes[23]? = some (38, 1, .isub, 0, 0, 0, 0, 0, []) := Eq.trans rfl rfl
theorem c_Run_unpackTypes_24 : c_Run_unpackTypes[24]? = some (39, 1, .iastore, 0, 0, 0, 0, 0, []) := Eq.trans rfl rfl
theorem c_Run_unpackTypes_25 : c_Run_unpackTypes[25]? = some (40, 1, .aload_n 0, 0, 0, 0, 0, 0, []) := Eq.trans rfl rfl
theorem c_Run_unpackTypes_26 : c_Run_unpackTypes[26]? = some (41, 3, .getfield 50, 3, 12, 0, 0, 218, []) := Eq.trans rfl rfl
theorem c_Run_unpackTypes_27 : c_Run_unpackTypes[27]? = some (44, 2, .iload 6, 6, 0, 0, 0, 0, []) := Eq.trans rfl rfl
theorem c_Run_unpackTypes_28 : c_Run_unpackTypes[28]? = some (46, 2, .iload 7, 7, 0, 0, 0, 0, []) := Eq.trans rfl rfl
theorem c_Run_unpackTypes_29 : c_Run_unpackTypes[29]? = some (48, 1, .iconst 5, 0, 0, 0, 0, 0, []) := Eq.trans rfl rfl
theorem c_Run_unpackTypes_30 : c_Run_unpackTypes[30]? = some (49, 1, .ishr, 0, 0, 0, 0, 0, []) := Eq.trans rfl rfl
theorem c_Run_unpackTypes_31 : c_Run_unpackTypes[31]? = some (50, 2, .bipush 31, 0, 0, 0, 0, 0, []) := Eq.trans rfl rfl
theorem c_Run_unpackTypes_32 : c_Run_unpackTypes[32]? = some (52, 1, .iand, 0, 0, 0, 0, 0, []) := Eq.trans rfl rfl
theorem c_Run_unpackTypes_33 : c_Run_unpackTypes[33]? = some (53, 2, .bipush 9, 0, 0, 0, 0, 0, []) := Eq.trans rfl rfl
theorem c_Run_unpackTypes_34 : c_Run_unpackTypes[34]? = some (55, 1, .isub, 0, 0, 0, 0, 0, []) := Eq.trans rfl rfl
theorem c_Run_unpackTypes_35 : c_Run_unpackTypes[35]? = some (56, 1, .iastore, 0, 0, 0, 0, 0, []) := Eq.trans rfl rfl
theorem c_Run_unpackTypes_36 : c_Run_unpackTypes[36]? = some (57, 1, .aload_n 0, 0, 0, 0, 0, 0, []) := Eq.trans rfl rfl
theorem c_Run_unpackTypes_37 : c_Run_unpackTypes[37]? = some (58, 3, .getfield 47, 3, 11, 0, 0, 217, []) := Eq.trans rfl rfl
theorem c_Run_unpackTypes_38 : c_Run_unpackTypes[38]? = some (61, 2, .iload 6, 6, 0, 0, 0, 0, []) := Eq.trans rfl rfl
theorem c_Run_unpackTypes_39 : c_Run_unpackTypes[39]? = some (63, 2, .iload 7, 7, 0, 0, 0, 0, []) := Eq.trans rfl rfl
theorem c_Run_unpackTypes_40 : c_Run_unpackTypes[40]? = some (65, 2, .bipush 10, 0, 0, 0, 0, 0, []) := Eq.trans rfl rfl
theorem c_Run_unpackTypes_41 : c_Run_unpackTypes[41]? = some (67, 1, .ishr, 0, 0, 0, 0, 0, []) := Eq.trans rfl rfl
theorem c_Run_unpackTypes_42 : c_Run_unpackTypes[42]? = some (68, 2, .bipush 7, 0, 0, 0, 0, 0, []) := Eq.trans rfl rfl
theorem c_Run_unpackTypes_43 : c_Run_unpackTypes[43]? = some (70, 1, .iand, 0, 0, 0, 0, 0, []) := Eq.trans rfl rfl
theorem c_Run_unpackTypes_44 : c_Run_unpackTypes[44]? = some (71, 1, .iastore, 0, 0, 0, 0, 0, []) := Eq.trans rfl rfl
theorem c_Run_unpackTypes_45 : c_Run_unpackTypes[45]? = some (72, 1, .aload_n 0, 0, 0, 0, 0, 0, []) := Eq.trans rfl rfl
theorem c_Run_unpackTypes_46 : c_Run_unpackTypes[46]? = some (73, 3, .getfield 43, 3, 10, 0, 0, 216, []) := Eq.trans rfl rfl
theorem c_Run_unpackTypes_47 : c_Run_unpackTypes[47]? = some (76, 2, .iload 6, 6, 0, 0, 0, 0, []) := Eq.trans rfl rfl
theorem c_Run_unpackTypes_48 : c_Run_unpackTypes[48]? = some (78, 2, .iload 7, 7, 0, 0, 0, 0, []) := Eq.trans rfl rfl
theorem c_Run_unpackTypes_49 : c_Run_unpackTypes[49]? = some (80, 2, .bipush 13, 0, 0, 0, 0, 0, []) := Eq.trans rfl rfl
theorem c_Run_unpackTypes_50 : c_Run_unpackTypes[50]? = some (82, 1, .ishr, 0, 0, 0, 0, 0, []) := Eq.trans rfl rfl
theorem c_Run_unpackTypes_51 : c_Run_unpackTypes[51]? = some (83, 1, .iconst 1, 0, 0, 0, 0, 0, []) := Eq.trans rfl rfl
theorem c_Run_unpackTypes_52 : c_Run_unpackTypes[52]? = some (84, 1, .iand, 0, 0, 0, 0, 0, []) := Eq.trans rfl rfl
theorem c_Run_unpackTypes_53 : c_Run_unpackTypes[53]? = some (85, 3, .ifCond .eq 7, 56, 0, 0, 0, 0, []) := Eq.trans rfl rfl
theorem c_Run_unpackTypes_54 : c_Run_unpackTypes[54]? = some (88, 1, .iconst 1, 0, 0, 0, 0, 0, []) := Eq.trans rfl rfl
theorem c_Run_unpackTypes_55 : c_Run_unpackTypes[55]? = some (89, 3, .goto 4, 57, 0, 0, 0, 0, []) := Eq.trans rfl rfl
theorem c_Run_unpackTypes_56 : c_Run_unpackTypes[56]? = some (92, 1, .iconst 0, 0, 0, 0, 0, 0, []) := Eq.trans rfl rfl
theorem c_Run_unpackTypes_57 : c_Run_unpackTypes[57]? = some (93, 1, .bastore, 0, 0, 0, 0, 0, []) := Eq.trans rfl rfl
theorem c_Run_unpackTypes_58 : c_Run_unpackTypes[58]? = some (94, 1, .aload_n 0, 0, 0, 0, 0, 0, []) := Eq.trans rfl rfl
theorem c_Run_unpackTypes_59 : c_Run_unpackTypes[59]? = some (95, 3, .getfield 40, 3, 9, 0, 0, 215, []) := Eq.trans rfl rfl
theorem c_Run_unpackTypes_60 : c_Run_unpackTypes[60]? = some (98, 2, .iload 6, 6, 0, 0, 0, 0, []) := Eq.trans rfl rfl
theorem c_Run_unpackTypes_61 : c_Run_unpackTypes[61]? = some (100, 2, .iload 7, 7, 0, 0, 0, 0, []) := Eq.trans rfl rfl
theorem c_Run_unpackTypes_62 : c_Run_unpackTypes[62]? = some (102, 2, .bipush 14, 0, 0, 0, 0, 0, []) := Eq.trans rfl rfl
theorem c_Run_unpackTypes_63 : c_Run_unpackTypes[63]? = some (104, 1, .ishr, 0, 0, 0, 0, 0, []) := Eq.trans rfl rfl
theorem c_Run_unpackTypes_64 : c_Run_unpackTypes[64]? = some (105, 2, .bipush 7, 0, 0, 0, 0, 0, []) := Eq.trans rfl rfl
theorem c_Run_unpackTypes_65 : c_Run_unpackTypes[65]? = some (107, 1, .iand, 0, 0, 0, 0, 0, []) := Eq.trans rfl rfl
theorem c_Run_unpackTypes_66 : c_Run_unpackTypes[66]? = some (108, 1, .iastore, 0, 0, 0, 0, 0, []) := Eq.trans rfl rfl
theorem c_Run_unpackTypes_67 : c_Run_unpackTypes[67]? = some (109, 1, .aload_n 0, 0, 0, 0, 0, 0, []) := Eq.trans rfl rfl
theorem c_Run_unpackTypes_68 : c_Run_unpackTypes[68]? = some (110, 3, .getfield 26, 3, 3, 0, 0, 205, []) := Eq.trans rfl rfl
theorem c_Run_unpackTypes_69 : c_Run_unpackTypes[69]? = some (113, 2, .iload 6, 6, 0, 0, 0, 0, []) := Eq.trans rfl rfl
theorem c_Run_unpackTypes_70 : c_Run_unpackTypes[70]? = some (115, 2, .iload 7, 7, 0, 0, 0, 0, []) := Eq.trans rfl rfl
theorem c_Run_unpackTypes_71 : c_Run_unpackTypes[71]? = some (117, 2, .bipush 17, 0, 0, 0, 0, 0, []) := Eq.trans rfl rfl
theorem c_Run_unpackTypes_72 : c_Run_unpackTypes[72]? = some (119, 1, .ishr, 0, 0, 0, 0, 0, []) := Eq.trans rfl rfl
theorem c_Run_unpackTypes_73 : c_Run_unpackTypes[73]? = some (120, 1, .iconst 3, 0, 0, 0, 0, 0, []) := Eq.trans rfl rfl
theorem c_Run_unpackTypes_74 : c_Run_unpackTypes[74]? = some (121, 1, .iand, 0, 0, 0, 0, 0, []) := Eq.trans rfl rfl
theorem c_Run_unpackTypes_75 : c_Run_unpackTypes[75]? = some (122, 1, .iastore, 0, 0, 0, 0, 0, []) := Eq.trans rfl rfl
theorem c_Run_unpackTypes_76 : c_Run_unpackTypes[76]? = some (123, 1, .aload_n 0, 0, 0, 0, 0, 0, []) := Eq.trans rfl rfl
theorem c_Run_unpackTypes_77 : c_Run_unpackTypes[77]? = some (124, 3, .getfield 22, 3, 2, 0, 0, 203, []) := Eq.trans rfl rfl
theorem c_Run_unpackTypes_78 : c_Run_unpackTypes[78]? = some (127, 2, .iload 6, 6, 0, 0, 0, 0, []) := Eq.trans rfl rfl
theorem c_Run_unpackTypes_79 : c_Run_unpackTypes[79]? = some (129, 2, .iload 7, 7, 0, 0, 0, 0, []) := Eq.trans rfl rfl
theorem c_Run_unpackTypes_80 : c_Run_unpackTypes[80]? = some (131, 2, .bipush 19, 0, 0, 0, 0, 0, []) := Eq.trans rfl rfl
theorem c_Run_unpackTypes_81 : c_Run_unpackTypes[81]? = some (133, 1, .ishr, 0, 0, 0, 0, 0, []) := Eq.trans rfl rfl
theorem c_Run_unpackTypes_82 : c_Run_unpackTypes[82]? = some (134, 1, .iconst 3, 0, 0, 0, 0, 0, []) := Eq.trans rfl rfl
theorem c_Run_unpackTypes_83 : c_Run_unpackTypes[83]? = some (135, 1, .iand, 0, 0, 0, 0, 0, []) := Eq.trans rfl rfl
theorem c_Run_unpackTypes_84 : c_Run_unpackTypes[84]? = some (136, 1, .iastore, 0, 0, 0, 0, 0, []) := Eq.trans rfl rfl
theorem c_Run_unpackTypes_85 : c_Run_unpackTypes[85]? = some (137, 1, .aload_n 0, 0, 0, 0, 0, 0, []) := Eq.trans rfl rfl
theorem c_Run_unpackTypes_86 : c_Run_unpackTypes[86]? = some (138, 3, .getfield 22, 3, 2, 0, 0, 203, []) := Eq.trans rfl rfl
theorem c_Run_unpackTypes_87 : c_Run_unpackTypes[87]? = some (141, 2, .iload 6, 6, 0, 0, 0, 0, []) := Eq.trans rfl rfl
theorem c_Run_unpackTypes_88 : c_Run_unpackTypes[88]? = some (143, 1, .iaload, 0, 0, 0, 0, 0, []) := Eq.trans rfl rfl
theorem c_Run_unpackTypes_89 : c_Run_unpackTypes[89]? = some (144, 1, .iconst 1, 0, 0, 0, 0, 0, []) := Eq.trans rfl rfl
theorem c_Run_unpackTypes_90 : c_Run_unpackTypes[90]? = some (145, 3, .if_icmp .ne 41, 115, 0, 0, 0, 0, []) := Eq.trans rfl rfl
theorem c_Run_unpackTypes_91 : c_Run_unpackTypes[91]? = some (148, 1, .aload_n 0, 0, 0, 0, 0, 0, []) := Eq.trans rfl rfl
theorem c_Run_unpackTypes_92 : c_Run_unpackTypes[92]? = some (149, 3, .getfield 34, 3, 5, 0, 0, 209, []) := Eq.trans rfl rfl
theorem c_Run_unpackTypes_93 : c_Run_unpackTypes[93]? = some (152, 1, .aload_n 0, 0, 0, 0, 0, 0, []) := Eq.trans rfl rfl
theorem c_Run_unpackTypes_94 : c_Run_unpackTypes[94]? = some (153, 3, .getfield 26, 3, 3, 0, 0, 205, []) := Eq.trans rfl rfl
theorem c_Run_unpackTypes_95 : c_Run_unpackTypes[95]? = some (156, 2, .iload 6, 6, 0, 0, 0, 0, []) := Eq.trans rfl rfl
theorem c_Run_unpackTypes_96 : c_Run_unpackTypes[96]? = some (158, 1, .iaload, 0, 0, 0, 0, 0, []) := Eq.trans rfl rfl
theorem c_Run_unpackTypes_97 : c_Run_unpackTypes[97]? = some (159, 1, .aaload, 0, 0, 0, 0, 0, []) := Eq.trans rfl rfl
theorem c_Run_unpackTypes_98 : c_Run_unpackTypes[98]? = some (160, 1, .aload_n 0, 0, 0, 0, 0, 0, []) := Eq.trans rfl rfl
theorem c_Run_unpackTypes_99 : c_Run_unpackTypes[99]? = some (161, 3, .getfield 40, 3, 9, 0, 0, 215, []) := Eq.trans rfl rfl
theorem c_Run_unpackTypes_100 : c_Run_unpackTypes[100]? = some (164, 2, .iload 6, 6, 0, 0, 0, 0, []) := Eq.trans rfl rfl
theorem c_Run_unpackTypes_101 : c_Run_unpackTypes[101]? = some (166, 1, .iaload, 0, 0, 0, 0, 0, []) := Eq.trans rfl rfl
theorem c_Run_unpackTypes_102 : c_Run_unpackTypes[102]? = some (167, 2, .iload 6, 6, 0, 0, 0, 0, []) := Eq.trans rfl rfl
theorem c_Run_unpackTypes_103 : c_Run_unpackTypes[103]? = some (169, 1, .iastore, 0, 0, 0, 0, 0, []) := Eq.trans rfl rfl
theorem c_Run_unpackTypes_104 : c_Run_unpackTypes[104]? = some (170, 1, .aload_n 0, 0, 0, 0, 0, 0, []) := Eq.trans rfl rfl
theorem c_Run_unpackTypes_105 : c_Run_unpackTypes[105]? = some (171, 3, .getfield 37, 3, 6, 0, 0, 211, []) := Eq.trans rfl rfl
theorem c_Run_unpackTypes_106 : c_Run_unpackTypes[106]? = some (174, 1, .aload_n 0, 0, 0, 0, 0, 0, []) := Eq.trans rfl rfl
theorem c_Run_unpackTypes_107 : c_Run_unpackTypes[107]? = some (175, 3, .getfield 26, 3, 3, 0, 0, 205, []) := Eq.trans rfl rfl
theorem c_Run_unpackTypes_108 : c_Run_unpackTypes[108]? = some (178, 2, .iload 6, 6, 0, 0, 0, 0, []) := Eq.trans rfl rfl
theorem c_Run_unpackTypes_109 : c_Run_unpackTypes[109]? = some (180, 1, .iaload, 0, 0, 0, 0, 0, []) := Eq.trans rfl rfl
theorem c_Run_unpackTypes_110 : c_Run_unpackTypes[110]? = some (181, 1, .dup2, 0, 0, 0, 0, 0, []) := Eq.trans rfl rfl
theorem c_Run_unpackTypes_111 : c_Run_unpackTypes[111]? = some (182, 1, .iaload, 0, 0, 0, 0, 0, []) := Eq.trans rfl rfl
theorem c_Run_unpackTypes_112 : c_Run_unpackTypes[112]? = some (183, 1, .iconst 1, 0, 0, 0, 0, 0, []) := Eq.trans rfl rfl
theorem c_Run_unpackTypes_113 : c_Run_unpackTypes[113]? = some (184, 1, .iadd, 0, 0, 0, 0, 0, []) := Eq.trans rfl rfl
theorem c_Run_unpackTypes_114 : c_Run_unpackTypes[114]? = some (185, 1, .iastore, 0, 0, 0, 0, 0, []) := Eq.trans rfl rfl
theorem c_Run_unpackTypes_115 : c_Run_unpackTypes[115]? = some (186, 2, .lload 4, 4, 0, 0, 0, 0, []) := Eq.trans rfl rfl
theorem c_Run_unpackTypes_116 : c_Run_unpackTypes[116]? = some (188, 2, .bipush 21, 0, 0, 0, 0, 0, []) := Eq.trans rfl rfl
theorem c_Run_unpackTypes_117 : c_Run_unpackTypes[117]? = some (190, 1, .lshr, 0, 0, 0, 0, 0, []) := Eq.trans rfl rfl
theorem c_Run_unpackTypes_118 : c_Run_unpackTypes[118]? = some (191, 2, .lstore 4, 4, 0, 0, 0, 0, []) := Eq.trans rfl rfl
theorem c_Run_unpackTypes_119 : c_Run_unpackTypes[119]? = some (193, 3, .iinc 6 (-1), 0, 0, 0, 0, 0, []) := Eq.trans rfl rfl
theorem c_Run_unpackTypes_120 : c_Run_unpackTypes[120]? = some (196, 3, .goto (-186), 8, 0, 0, 0, 0, []) := Eq.trans rfl rfl
theorem c_Run_unpackTypes_121 : c_Run_unpackTypes[121]? = some (199, 1, .return_, 0, 0, 0, 0, 0, []) := Eq.trans rfl rfl
theorem mt_Run_unpack : am_MT[91]? = some m_Run_unpack := rfl
theorem c_Run_unpack_0 : c_Run_unpack[0]? = some (0, 1, .aload_n 0, 0, 0, 0, 0, 0, []) := Eq.trans rfl rfl
theorem c_Run_unpack_1 : c_Run_unpack[1]? = some (1, 3, .getfield 18, 3, 1, 0, 0, 201, []) := Eq.trans rfl rfl
theorem c_Run_unpack_2 : c_Run_unpack[2]? = some (4, 3, .invokevirtual 64, 21, 1, 4, 0, 393, []) := Eq.trans rfl rfl
theorem c_Run_unpack_3 : c_Run_unpack[3]? = some (7, 1, .aload_n 0, 0, 0, 0, 0, 0, []) := Eq.trans rfl rfl
theorem c_Run_unpack_4 : c_Run_unpack[4]? = some (8, 3, .getfield 37, 3, 6, 0, 0, 211, []) := Eq.trans rfl rfl
theorem c_Run_unpack_5 : c_Run_unpack[5]? = some (11, 1, .iconst 0, 0, 0, 0, 0, 0, []) := Eq.trans rfl rfl
theorem c_Run_unpack_6 : c_Run_unpack[6]? = some (12, 3, .invokestatic 67, 22, 2, 0, 0, 397, []) := Eq.trans rfl rfl
theorem c_Run_unpack_7 : c_Run_unpack[7]? = some (15, 1, .aload_n 0, 0, 0, 0, 0, 0, []) := Eq.trans rfl rfl
theorem c_Run_unpack_8 : c_Run_unpack[8]? = some (16, 1, .iconst 0, 0, 0, 0, 0, 0, []) := Eq.trans rfl rfl
theorem c_Run_unpack_9 : c_Run_unpack[9]? = some (17, 1, .aload_n 1, 1, 0, 0, 0, 0, []) := Eq.trans rfl rfl
theorem c_Run_unpack_10 : c_Run_unpack[10]? = some (18, 1, .iload_n 2, 2, 0, 0, 0, 0, []) := Eq.trans rfl rfl
theorem c_Run_unpack_11 : c_Run_unpack[11]? = some (19, 1, .laload, 0, 0, 0, 0, 0, []) := Eq.trans rfl rfl
theorem c_Run_unpack_12 : c_Run_unpack[12]? = some (20, 3, .invokevirtual 156, 92, 3, 3, 0, 689, []) := Eq.trans rfl rfl
theorem c_Run_unpack_13 : c_Run_unpack[13]? = some (23, 1, .aload_n 0, 0, 0, 0, 0, 0, []) := Eq.trans rfl rfl
theorem c_Run_unpack_14 : c_Run_unpack[14]? = some (24, 1, .iconst 3, 0, 0, 0, 0, 0, []) := Eq.trans rfl rfl
theorem c_Run_unpack_15 : c_Run_unpack[15]? = some (25, 1, .aload_n 1, 1, 0, 0, 0, 0, []) := Eq.trans rfl rfl
theorem c_Run_unpack_16 : c_Run_unpack[16]? = some (26, 1, .iload_n 2, 2, 0, 0, 0, 0, []) := Eq.trans rfl rfl
theorem c_Run_unpack_17 : c_Run_unpack[17]? = some (27, 1, .iconst 1, 0, 0, 0, 0, 0, []) := Eq.trans rfl rfl
theorem c_Run_unpack_18 : c_Run_unpack[18]? = some (28, 1, .iadd, 0, 0, 0, 0, 0, []) := Eq.trans rfl rfl
theorem c_Run_unpack_19 : c_Run_unpack[19]? = some (29, 1, .laload, 0, 0, 0, 0, 0, []) := Eq.trans rfl rfl
theorem c_Run_unpack_20 : c_Run_unpack[20]? = some (30, 3, .invokevirtual 156, 92, 3, 3, 0, 689, []) := Eq.trans rfl rfl
theorem c_Run_unpack_21 : c_Run_unpack[21]? = some (33, 1, .aload_n 1, 1, 0, 0, 0, 0, []) := Eq.trans rfl rfl
theorem c_Run_unpack_22 : c_Run_unpack[22]? = some (34, 1, .iload_n 2, 2, 0, 0, 0, 0, []) := Eq.trans rfl rfl
theorem c_Run_unpack_23 : c_Run_unpack[23]? = some (35, 1, .iconst 2, 0, 0, 0, 0, 0, []) := Eq.trans rfl rfl
theorem c_Run_unpack_24 : c_Run_unpack[24]? = some (36, 1, .iadd, 0, 0, 0, 0, 0, []) := Eq.trans rfl rfl
theorem c_Run_unpack_25 : c_Run_unpack[25]? = some (37, 1, .laload, 0, 0, 0, 0, 0, []) := Eq.trans rfl rfl
theorem c_Run_unpack_26 : c_Run_unpack[26]? = some (38, 1, .lstore_n 3, 3, 0, 0, 0, 0, []) := Eq.trans rfl rfl
theorem c_Run_unpack_27 : c_Run_unpack[27]? = some (39, 1, .iconst 2, 0, 0, 0, 0, 0, []) := Eq.trans rfl rfl
theorem c_Run_unpack_28 : c_Run_unpack[28]? = some (40, 2, .istore 5, 5, 0, 0, 0, 0, []) := Eq.trans rfl rfl
theorem c_Run_unpack_29 : c_Run_unpack[29]? = some (42, 2, .iload 5, 5, 0, 0, 0, 0, []) := Eq.trans rfl rfl
theorem c_Run_unpack_30 : c_Run_unpack[30]? = some (44, 3, .ifCond .lt 68, 71, 0, 0, 0, 0, []) := Eq.trans rfl rfl
theorem c_Run_unpack_31 : c_Run_unpack[31]? = some (47, 2, .bipush 6, 0, 0, 0, 0, 0, []) := Eq.trans rfl rfl
theorem c_Run_unpack_32 : c_Run_unpack[32]? = some (49, 2, .iload 5, 5, 0, 0, 0, 0, []) := Eq.trans rfl rfl
theorem c_Run_unpack_33 : c_Run_unpack[33]? = some (51, 1, .iadd, 0, 0, 0, 0, 0, []) := Eq.trans rfl rfl
theorem c_Run_unpack_34 : c_Run_unpack[34]? = some (52, 2, .istore 6, 6, 0, 0, 0, 0, []) := Eq.trans rfl rfl
theorem c_Run_unpack_35 : c_Run_unpack[35]? = some (54, 1, .aload_n 0, 0, 0, 0, 0, 0, []) := Eq.trans rfl rfl
theorem c_Run_unpack_36 : c_Run_unpack[36]? = some (55, 3, .getfield 50, 3, 12, 0, 0, 218, []) := Eq.trans rfl rfl
theorem c_Run_unpack_37 : c_Run_unpack[37]? = some (58, 2, .iload 6, 6, 0, 0, 0, 0, []) := Eq.trans rfl rfl
theorem c_Run_unpack_38 : c_Run_unpack[38]? = some (60, 1, .lload_n 3, 3, 0, 0, 0, 0, []) := Eq.trans rfl rfl
theorem c_Run_unpack_39 : c_Run_unpack[39]? = some (61, 3, .ldc2_w 160, 31, 0, 0, 0, 694, []) := Eq.trans rfl rfl
theorem c_Run_unpack_40 : c_Run_unpack[40]? = some (64, 1, .land, 0, 0, 0, 0, 0, []) := Eq.trans rfl rfl
theorem c_Run_unpack_41 : c_Run_unpack[41]? = some (65, 1, .l2i, 0, 0, 0, 0, 0, []) := Eq.trans rfl rfl
theorem c_Run_unpack_42 : c_Run_unpack[42]? = some (66, 2, .bipush 9, 0, 0, 0, 0, 0, []) := Eq.trans rfl rfl
theorem c_Run_unpack_43 : c_Run_unpack[43]? = some (68, 1, .isub, 0, 0, 0, 0, 0, []) := Eq.trans rfl rfl
theorem c_Run_unpack_44 : c_Run_unpack[44]? = some (69, 1, .iastore, 0, 0, 0, 0, 0, []) := Eq.trans rfl rfl
theorem c_Run_unpack_45 : c_Run_unpack[45]? = some (70, 1, .aload_n 0, 0, 0, 0, 0, 0, []) := Eq.trans rfl rfl
theorem c_Run_unpack_46 : c_Run_unpack[46]? = some (71, 3, .getfield 47, 3, 11, 0, 0, 217, []) := Eq.trans rfl rfl
theorem c_Run_unpack_47 : c_Run_unpack[47]? = some (74, 2, .iload 6, 6, 0, 0, 0, 0, []) := Eq.trans rfl rfl
theorem c_Run_unpack_48 : c_Run_unpack[48]? = some (76, 1, .lload_n 3, 3, 0, 0, 0, 0, []) := Eq.trans rfl rfl
theorem c_Run_unpack_49 : c_Run_unpack[49]? = some (77, 1, .iconst 5, 0, 0, 0, 0, 0, []) := Eq.trans rfl rfl
theorem c_Run_unpack_50 : c_Run_unpack[50]? = some (78, 1, .lshr, 0, 0, 0, 0, 0, []) := Eq.trans rfl rfl
theorem c_Run_unpack_51 : c_Run_unpack[51]? = some (79, 3, .ldc2_w 162, 7, 0, 0, 0, 695, []) := Eq.trans rfl rfl
theorem c_Run_unpack_52 : c_Run_unpack[52]? = some (82, 1, .land, 0, 0, 0, 0, 0, []) := Eq.trans rfl rfl
theorem c_Run_unpack_53 : c_Run_unpack[53]? = some (83, 1, .l2i, 0, 0, 0, 0, 0, []) := Eq.trans rfl rfl
theorem c_Run_unpack_54 : c_Run_unpack[54]? = some (84, 1, .iastore, 0, 0, 0, 0, 0, []) := Eq.trans rfl rfl
theorem c_Run_unpack_55 : c_Run_unpack[55]? = some (85, 1, .aload_n 0, 0, 0, 0, 0, 0, []) := Eq.trans rfl rfl
theorem c_Run_unpack_56 : c_Run_unpack[56]? = some (86, 3, .getfield 53, 3, 13, 0, 0, 219, []) := Eq.trans rfl rfl
theorem c_Run_unpack_57 : c_Run_unpack[57]? = some (89, 2, .iload 5, 5, 0, 0, 0, 0, []) := Eq.trans rfl rfl
theorem c_Run_unpack_58 : c_Run_unpack[58]? = some (91, 1, .lload_n 3, 3, 0, 0, 0, 0, []) := Eq.trans rfl rfl
theorem c_Run_unpack_59 : c_Run_unpack[59]? = some (92, 2, .bipush 8, 0, 0, 0, 0, 0, []) := Eq.trans rfl rfl
theorem c_Run_unpack_60 : c_Run_unpack[60]? = some (94, 1, .lshr, 0, 0, 0, 0, 0, []) := Eq.trans rfl rfl
theorem c_Run_unpack_61 : c_Run_unpack[61]? = some (95, 3, .ldc2_w 162, 7, 0, 0, 0, 695, []) := Eq.trans rfl rfl
theorem c_Run_unpack_62 : c_Run_unpack[62]? = some (98, 1, .land, 0, 0, 0, 0, 0, []) := Eq.trans rfl rfl
theorem c_Run_unpack_63 : c_Run_unpack[63]? = some (99, 1, .l2i, 0, 0, 0, 0, 0, []) := Eq.trans rfl rfl
theorem c_Run_unpack_64 : c_Run_unpack[64]? = some (100, 1, .iastore, 0, 0, 0, 0, 0, []) := Eq.trans rfl rfl
theorem c_Run_unpack_65 : c_Run_unpack[65]? = some (101, 1, .lload_n 3, 3, 0, 0, 0, 0, []) := Eq.trans rfl rfl
theorem c_Run_unpack_66 : c_Run_unpack[66]? = some (102, 2, .bipush 11, 0, 0, 0, 0, 0, []) := Eq.trans rfl rfl
theorem c_Run_unpack_67 : c_Run_unpack[67]? = some (104, 1, .lshr, 0, 0, 0, 0, 0, []) := Eq.trans rfl rfl
theorem c_Run_unpack_68 : c_Run_unpack[68]? = some (105, 1, .lstore_n 3, 3, 0, 0, 0, 0, []) := Eq.trans rfl rfl
theorem c_Run_unpack_69 : c_Run_unpack[69]? = some (106, 3, .iinc 5 (-1), 0, 0, 0, 0, 0, []) := Eq.trans rfl rfl
theorem c_Run_unpack_70 : c_Run_unpack[70]? = some (109, 3, .goto (-67), 29, 0, 0, 0, 0, []) := Eq.trans rfl rfl
theorem c_Run_unpack_71 : c_Run_unpack[71]? = some (112, 1, .return_, 0, 0, 0, 0, 0, []) := Eq.trans rfl rfl
def un_X (X Y : Nat → Int → Int) (t : Int) : Nat → Int → Int := (xI (xI (xI (xI (xI (xI (xI X 5 t (Y 5 t)) 14 t (Y 14 t)) 13 t (Y 13 t)) 12 t (Y 12 t)) 11 t (Y 11 t)) 4 t (Y 4 t)) 3 t (Y 3 t))
def un_ok (X : Nat → Int → Int) (S : Int → Int → Int) (Y : Nat → Int → Int) (t : Int) (X' : Nat → Int → Int) (S' : Int → Int → Int) : Prop :=
  X' = (if Y 3 t = 1 then xI (un_X X Y t) 10 (Y 4 t) (X 10 (Y 4 t) + 1) else un_X X Y t) ∧ S' = (if Y 3 t = 1 then vI2 S (Y 4 t) (Y 11 t) t else S)
theorem un_r3 {X Y : Nat → Int → Int} {t x : Int} : un_X X Y t 3 x = if x = t then Y 3 t else X 3 x := by
  unfold un_X
  simp only [xI_eq, Nat.reduceEqDiff, false_and, true_and, if_false]
theorem un_r4 {X Y : Nat → Int → Int} {t x : Int} : un_X X Y t 4 x = if x = t then Y 4 t else X 4 x := by
  unfold un_X
  simp only [xI_eq, Nat.reduceEqDiff, false_and, true_and, if_false]
theorem un_r5 {X Y : Nat → Int → Int} {t x : Int} : un_X X Y t 5 x = if x = t then Y 5 t else X 5 x := by
  unfold un_X
  simp only [xI_eq, Nat.reduceEqDiff, false_and, true_and, if_false]
theorem un_r11 {X Y : Nat → Int → Int} {t x : Int} : un_X X Y t 11 x = if x = t then Y 11 t else X 11 x := by
  unfold un_X
  simp only [xI_eq, Nat.reduceEqDiff, false_and, true_and, if_false]
theorem un_r12 {X Y : Nat → Int → Int} {t x : Int} : un_X X Y t 12 x = if x = t then Y 12 t else X 12 x := by
  unfold un_X
  simp only [xI_eq, Nat.reduceEqDiff, false_and, true_and, if_false]
theorem un_r13 {X Y : Nat → Int → Int} {t x : Int} : un_X X Y t 13 x = if x = t then Y 13 t else X 13 x := by
  unfold un_X
  simp only [xI_eq, Nat.reduceEqDiff, false_and, true_and, if_false]
theorem un_r14 {X Y : Nat → Int → Int} {t x : Int} : un_X X Y t 14 x = if x = t then Y 14 t else X 14 x := by
  unfold un_X
  simp only [xI_eq, Nat.reduceEqDiff, false_and, true_and, if_false]
theorem un_r2 {X Y : Nat → Int → Int} {t x : Int} : un_X X Y t 2 x = X 2 x := by
  unfold un_X
  simp only [xI_eq, Nat.reduceEqDiff, false_and, if_false]
theorem un_r10 {X Y : Nat → Int → Int} {t x : Int} : un_X X Y t 10 x = X 10 x := by
  unfold un_X
  simp only [xI_eq, Nat.reduceEqDiff, false_and, if_false]
theorem un_r15 {X Y : Nat → Int → Int} {t x : Int} : un_X X Y t 15 x = X 15 x := by
  unfold un_X
  simp only [xI_eq, Nat.reduceEqDiff, false_and, if_false]
set_option maxHeartbeats 8000000 in
theorem uu1 (d : Nat) (h0 h : am_H) (p q w : Nat) (n m : Int) (X : Nat → Int → Int) (S : Int → Int → Int) (T : ru_to h0 p q w n m X S h) (f t b z : Int) (ht : 0 ≤ t ∧ t < 6) (hb : 0 ≤ b ∧ b < 2097152) (v5 v14 : Int) (e1 : b % 32 - 9 = v5) (e2 : b / 32 % 32 - 9 = v14) (Q : Option Value → am_H → Prop)
    (g : ∀ h' : am_H, ru_to h0 p q w n m (xI (xI X 5 t v5) 14 t v14) S h' → am_Go am_df am_MT d c_Run_unpackTypes (36, [(7, .int (iI b)), (6, .int (iI t)), (4, .long (bz z)), (0, .ref p), (1, .int (iI f))], [], h') Q) : am_Go am_df am_MT d c_Run_unpackTypes (16, [(7, .int (iI b)), (6, .int (iI t)), (4, .long (bz z)), (0, .ref p), (1, .int (iI f))], [], h) Q := by
  obtain ⟨i0, hO, hG, hA, hB, hS⟩ := T.1
  have gg := g _ ((T.xi 5 t v5 (t := 0) (l := 6) (f := X 5) (by decide) rfl rfl rfl).xi 14 t v14 (t := 0) (l := 9) (f := X 14) (by decide) rfl rfl rfl)
  clear g T
  refine am_go_of 30 [8, 36] _ c_Run_unpackTypes_16 ?_
  simp (maxSteps := 2000000) (disch := omega) only [c_Run_unpackTypes_0, c_Run_unpackTypes_1, c_Run_unpackTypes_2, c_Run_unpackTypes_3, c_Run_unpackTypes_4, c_Run_unpackTypes_5, c_Run_unpackTypes_6, c_Run_unpackTypes_7, c_Run_unpackTypes_8, c_Run_unpackTypes_9, c_Run_unpackTypes_10, c_Run_unpackTypes_11, c_Run_unpackTypes_12, c_Run_unpackTypes_13, c_Run_unpackTypes_14, c_Run_unpackTypes_15, c_Run_unpackTypes_16, c_Run_unpackTypes_17, c_Run_unpackTypes_18, c_Run_unpackTypes_19, c_Run_unpackTypes_20, c_Run_unpackTypes_21, c_Run_unpackTypes_22, c_Run_unpackTypes_23, c_Run_unpackTypes_24, c_Run_unpackTypes_25, c_Run_unpackTypes_26, c_Run_unpackTypes_27, c_Run_unpackTypes_28, c_Run_unpackTypes_29, c_Run_unpackTypes_30, c_Run_unpackTypes_31, c_Run_unpackTypes_32, c_Run_unpackTypes_33, c_Run_unpackTypes_34, c_Run_unpackTypes_35, c_Run_unpackTypes_36, c_Run_unpackTypes_37, c_Run_unpackTypes_38, c_Run_unpackTypes_39, c_Run_unpackTypes_40, c_Run_unpackTypes_41, c_Run_unpackTypes_42, c_Run_unpackTypes_43, c_Run_unpackTypes_44, c_Run_unpackTypes_45, c_Run_unpackTypes_46, c_Run_unpackTypes_47, c_Run_unpackTypes_48, c_Run_unpackTypes_49, c_Run_unpackTypes_50, c_Run_unpackTypes_51, c_Run_unpackTypes_52, c_Run_unpackTypes_53, c_Run_unpackTypes_54, c_Run_unpackTypes_55, c_Run_unpackTypes_56, c_Run_unpackTypes_57, c_Run_unpackTypes_58, c_Run_unpackTypes_59, c_Run_unpackTypes_60, c_Run_unpackTypes_61, c_Run_unpackTypes_62, c_Run_unpackTypes_63, c_Run_unpackTypes_64, c_Run_unpackTypes_65, c_Run_unpackTypes_66, c_Run_unpackTypes_67, c_Run_unpackTypes_68, c_Run_unpackTypes_69, c_Run_unpackTypes_70, c_Run_unpackTypes_71, c_Run_unpackTypes_72, c_Run_unpackTypes_73, c_Run_unpackTypes_74, c_Run_unpackTypes_75, c_Run_unpackTypes_76, c_Run_unpackTypes_77, c_Run_unpackTypes_78, c_Run_unpackTypes_79, c_Run_unpackTypes_80, c_Run_unpackTypes_81, c_Run_unpackTypes_82, c_Run_unpackTypes_83, c_Run_unpackTypes_84, c_Run_unpackTypes_85, c_Run_unpackTypes_86, c_Run_unpackTypes_87, c_Run_unpackTypes_88, c_Run_unpackTypes_89, c_Run_unpackTypes_90, c_Run_unpackTypes_91, c_Run_unpackTypes_92, c_Run_unpackTypes_93, c_Run_unpackTypes_94, c_Run_unpackTypes_95, c_Run_unpackTypes_96, c_Run_unpackTypes_97, c_Run_unpackTypes_98, c_Run_unpackTypes_99, c_Run_unpackTypes_100, c_Run_unpackTypes_101, c_Run_unpackTypes_102, c_Run_unpackTypes_103, c_Run_unpackTypes_104, c_Run_unpackTypes_105, c_Run_unpackTypes_106, c_Run_unpackTypes_107, c_Run_unpackTypes_108, c_Run_unpackTypes_109, c_Run_unpackTypes_110, c_Run_unpackTypes_111, c_Run_unpackTypes_112, c_Run_unpackTypes_113, c_Run_unpackTypes_114, c_Run_unpackTypes_115, c_Run_unpackTypes_116, c_Run_unpackTypes_117, c_Run_unpackTypes_118, c_Run_unpackTypes_119, c_Run_unpackTypes_120, c_Run_unpackTypes_121, sx_aaload, sx_aload_n, sx_bastore, sx_bipush, sx_dup2_ir, sx_getfield, sx_goto, sx_iadd, sx_iaload, sx_iand, sx_iastore, sx_iconst, sx_ifCond_eq, sx_if_icmp_lt, sx_if_icmp_ne, sx_iinc, sx_iload, sx_iload_n, sx_ishr, sx_istore, sx_isub, sx_l2i, sx_land, sx_ldc2_w, sx_lload, sx_lload_n, sx_lshr, sx_lstore, sx_return, am_W_s, am_W_0, am_mm_some, List.mem_cons, or_false, false_or, or_self, or_true, true_or, reduceIte, if_false, if_true, am_o_some, am_o_none, am_o_bad, am_o_good, am_ldi_hit, am_ldi_miss, am_lda_hit, am_lda_miss, am_ldl_hit, am_ldl_miss, am_inc_eq, am_inc_hit, am_inc_miss, am_ob_hit, am_fd_0, am_fd_s, am_ai_hit, am_ab_3, am_al_hit, am_aq_4, am_al0_hit, am_put_1, am_put_2, am_put_put, am_up_hit, am_up_miss, am_s1_eq, am_s2_eq, am_fl_nil, am_fl_hit, am_fl_int, am_fl_ref, am_fl_long, am_fl_longx, am_fl2_nil, am_fl2_hit, am_fl2_hit1, am_fl2_int, am_fl2_ref, am_fl2_long, List.not_mem_nil, not_false_eq_true, ne_eq, Nat.reduceAdd, Nat.reduceEqDiff, Nat.zero_add, Nat.add_left_cancel_iff, List.set_cons_zero, List.set_cons_succ, List.length_cons, List.length_nil, Nat.reduceLT, am_ft_i, am_ft_r, am_ft_z, and_true, true_and, Option.toList_some, Option.toList_none, List.cons_append, List.nil_append, List.drop_succ_cons, List.drop_zero, iI_c, iI_b, iI_s, iI_n, iI_add, iI_sub, iI_mul, iI_neg, iI_nle, iI_ix, iI_eq0, iI_eq1, iI_lt0, iI_0lt, iI_le0, iI_0le, iI_eq, iI_lt, iI_le, iI_upd, iI_updZ, Int.reduceEq, Int.reduceLT, Int.reduceLE, Int.reduceNeg, Int.reduceNe, hO, hA, e1, e2, jz_r5, jz_a31, ru_fs_len, ru_f0, ru_f1, ru_f2, ru_f3, ru_f4, ru_f5, ru_f6, ru_f7, ru_f8, ru_f9, ru_f10, ru_f11, ru_f12, ru_f13, ru_s0, ru_t2, ru_l2, ru_t3, ru_l3, ru_t4, ru_l4, ru_t5, ru_l5, ru_t10, ru_l10, ru_t11, ru_l11, ru_t12, ru_l12, ru_t13, ru_l13, ru_t14, ru_l14, ru_t15, ru_l15, lo_fs_len, lo_f0, lo_f1, lo_s0, ty_fs_len, ty_f0, ty_f1, ty_f2, ty_f3, ty_f4, ty_f5, ty_f6, ty_f7, ty_f8, ty_f9, ty_s0, ty_t1, ty_l1, ty_t2, ty_l2, ty_t3, ty_l3, ty_t11, ty_l11, ty_t12, ty_l12, ty_t13, ty_l13, ty_t14, ty_l14, bo_fs_len, bo_f0, bo_f1, bo_f2, bo_f3, bo_f4, bo_f5, bo_f6, bo_f7, bo_f8, bo_s0, rw_hit]
  repeat (refine And.intro (by omega) ?_)
  exact gg.lo (al_le_of (by simp) (by simp))
set_option maxHeartbeats 8000000 in
theorem uu2 (d : Nat) (h0 h : am_H) (p q w : Nat) (n m : Int) (X : Nat → Int → Int) (S : Int → Int → Int) (T : ru_to h0 p q w n m X S h) (f t b z : Int) (ht : 0 ≤ t ∧ t < 6) (hb : 0 ≤ b ∧ b < 2097152) (v13 v12 : Int) (e3 : b / 1024 % 8 = v13) (e4 : b / 8192 % 2 = v12) (x4 : v12 = 0 ∨ v12 = 1) (Q : Option Value → am_H → Prop)
    (g : ∀ h' : am_H, ru_to h0 p q w n m (xI (xI X 13 t v13) 12 t v12) S h' → am_Go am_df am_MT d c_Run_unpackTypes (58, [(7, .int (iI b)), (6, .int (iI t)), (4, .long (bz z)), (0, .ref p), (1, .int (iI f))], [], h') Q) : am_Go am_df am_MT d c_Run_unpackTypes (36, [(7, .int (iI b)), (6, .int (iI t)), (4, .long (bz z)), (0, .ref p), (1, .int (iI f))], [], h) Q := by
  obtain ⟨i0, hO, hG, hA, hB, hS⟩ := T.1
  have gg := g _ ((T.xi 13 t v13 (t := 0) (l := 9) (f := X 13) (by decide) rfl rfl rfl).xi 12 t v12 (t := 3) (l := 6) (f := X 12) (by decide) rfl rfl rfl)
  clear g T
  rcases x4 with x4 | x4
  · subst x4
    refine am_go_of 40 [8, 58] _ c_Run_unpackTypes_36 ?_
    simp (maxSteps := 2000000) (disch := omega) only [c_Run_unpackTypes_0, c_Run_unpackTypes_1, c_Run_unpackTypes_2, c_Run_unpackTypes_3, c_Run_unpackTypes_4, c_Run_unpackTypes_5, c_Run_unpackTypes_6, c_Run_unpackTypes_7, c_Run_unpackTypes_8, c_Run_unpackTypes_9, c_Run_unpackTypes_10, c_Run_unpackTypes_11, c_Run_unpackTypes_12, c_Run_unpackTypes_13, c_Run_unpackTypes_14, c_Run_unpackTypes_15, c_Run_unpackTypes_16, c_Run_unpackTypes_17, c_Run_unpackTypes_18, c_Run_unpackTypes_19, c_Run_unpackTypes_20, c_Run_unpackTypes_21, c_Run_unpackTypes_22, c_Run_unpackTypes_23, c_Run_unpackTypes_24, c_Run_unpackTypes_25, c_Run_unpackTypes_26, c_Run_unpackTypes_27, c_Run_unpackTypes_28, c_Run_unpackTypes_29, c_Run_unpackTypes_30, c_Run_unpackTypes_31, c_Run_unpackTypes_32, c_Run_unpackTypes_33, c_Run_unpackTypes_34, c_Run_unpackTypes_35, c_Run_unpackTypes_36, c_Run_unpackTypes_37, c_Run_unpackTypes_38, c_Run_unpackTypes_39, c_Run_unpackTypes_40, c_Run_unpackTypes_41, c_Run_unpackTypes_42, c_Run_unpackTypes_43, c_Run_unpackTypes_44, c_Run_unpackTypes_45, c_Run_unpackTypes_46, c_Run_unpackTypes_47, c_Run_unpackTypes_48, c_Run_unpackTypes_49, c_Run_unpackTypes_50, c_Run_unpackTypes_51, c_Run_unpackTypes_52, c_Run_unpackTypes_53, c_Run_unpackTypes_54, c_Run_unpackTypes_55, c_Run_unpackTypes_56, c_Run_unpackTypes_57, c_Run_unpackTypes_58, c_Run_unpackTypes_59, c_Run_unpackTypes_60, c_Run_unpackTypes_61, c_Run_unpackTypes_62, c_Run_unpackTypes_63, c_Run_unpackTypes_64, c_Run_unpackTypes_65, c_Run_unpackTypes_66, c_Run_unpackTypes_67, c_Run_unpackTypes_68, c_Run_unpackTypes_69, c_Run_unpackTypes_70, c_Run_unpackTypes_71, c_Run_unpackTypes_72, c_Run_unpackTypes_73, c_Run_unpackTypes_74, c_Run_unpackTypes_75, c_Run_unpackTypes_76, c_Run_unpackTypes_77, c_Run_unpackTypes_78, c_Run_unpackTypes_79, c_Run_unpackTypes_80, c_Run_unpackTypes_81, c_Run_unpackTypes_82, c_Run_unpackTypes_83, c_Run_unpackTypes_84, c_Run_unpackTypes_85, c_Run_unpackTypes_86, c_Run_unpackTypes_87, c_Run_unpackTypes_88, c_Run_unpackTypes_89, c_Run_unpackTypes_90, c_Run_unpackTypes_91, c_Run_unpackTypes_92, c_Run_unpackTypes_93, c_Run_unpackTypes_94, c_Run_unpackTypes_95, c_Run_unpackTypes_96, c_Run_unpackTypes_97, c_Run_unpackTypes_98, c_Run_unpackTypes_99, c_Run_unpackTypes_100, c_Run_unpackTypes_101, c_Run_unpackTypes_102, c_Run_unpackTypes_103, c_Run_unpackTypes_104, c_Run_unpackTypes_105, c_Run_unpackTypes_106, c_Run_unpackTypes_107, c_Run_unpackTypes_108, c_Run_unpackTypes_109, c_Run_unpackTypes_110, c_Run_unpackTypes_111, c_Run_unpackTypes_112, c_Run_unpackTypes_113, c_Run_unpackTypes_114, c_Run_unpackTypes_115, c_Run_unpackTypes_116, c_Run_unpackTypes_117, c_Run_unpackTypes_118, c_Run_unpackTypes_119, c_Run_unpackTypes_120, c_Run_unpackTypes_121, sx_aaload, sx_aload_n, sx_bastore, sx_bipush, sx_dup2_ir, sx_getfield, sx_goto, sx_iadd, sx_iaload, sx_iand, sx_iastore, sx_iconst, sx_ifCond_eq, sx_if_icmp_lt, sx_if_icmp_ne, sx_iinc, sx_iload, sx_iload_n, sx_ishr, sx_istore, sx_isub, sx_l2i, sx_land, sx_ldc2_w, sx_lload, sx_lload_n, sx_lshr, sx_lstore, sx_return, am_W_s, am_W_0, am_mm_some, List.mem_cons, or_false, false_or, or_self, or_true, true_or, reduceIte, if_false, if_true, am_o_some, am_o_none, am_o_bad, am_o_good, am_ldi_hit, am_ldi_miss, am_lda_hit, am_lda_miss, am_ldl_hit, am_ldl_miss, am_inc_eq, am_inc_hit, am_inc_miss, am_ob_hit, am_fd_0, am_fd_s, am_ai_hit, am_ab_3, am_al_hit, am_aq_4, am_al0_hit, am_put_1, am_put_2, am_put_put, am_up_hit, am_up_miss, am_s1_eq, am_s2_eq, am_fl_nil, am_fl_hit, am_fl_int, am_fl_ref, am_fl_long, am_fl_longx, am_fl2_nil, am_fl2_hit, am_fl2_hit1, am_fl2_int, am_fl2_ref, am_fl2_long, List.not_mem_nil, not_false_eq_true, ne_eq, Nat.reduceAdd, Nat.reduceEqDiff, Nat.zero_add, Nat.add_left_cancel_iff, List.set_cons_zero, List.set_cons_succ, List.length_cons, List.length_nil, Nat.reduceLT, am_ft_i, am_ft_r, am_ft_z, and_true, true_and, Option.toList_some, Option.toList_none, List.cons_append, List.nil_append, List.drop_succ_cons, List.drop_zero, iI_c, iI_b, iI_s, iI_n, iI_add, iI_sub, iI_mul, iI_neg, iI_nle, iI_ix, iI_eq0, iI_eq1, iI_lt0, iI_0lt, iI_le0, iI_0le, iI_eq, iI_lt, iI_le, iI_upd, iI_updZ, Int.reduceEq, Int.reduceLT, Int.reduceLE, Int.reduceNeg, Int.reduceNe, hO, hA, e3, e4, jz_r10, jz_r13, jz_a7, jz_a1, ru_fs_len, ru_f0, ru_f1, ru_f2, ru_f3, ru_f4, ru_f5, ru_f6, ru_f7, ru_f8, ru_f9, ru_f10, ru_f11, ru_f12, ru_f13, ru_s0, ru_t2, ru_l2, ru_t3, ru_l3, ru_t4, ru_l4, ru_t5, ru_l5, ru_t10, ru_l10, ru_t11, ru_l11, ru_t12, ru_l12, ru_t13, ru_l13, ru_t14, ru_l14, ru_t15, ru_l15, lo_fs_len, lo_f0, lo_f1, lo_s0, ty_fs_len, ty_f0, ty_f1, ty_f2, ty_f3, ty_f4, ty_f5, ty_f6, ty_f7, ty_f8, ty_f9, ty_s0, ty_t1, ty_l1, ty_t2, ty_l2, ty_t3, ty_l3, ty_t11, ty_l11, ty_t12, ty_l12, ty_t13, ty_l13, ty_t14, ty_l14, bo_fs_len, bo_f0, bo_f1, bo_f2, bo_f3, bo_f4, bo_f5, bo_f6, bo_f7, bo_f8, bo_s0, rw_hit]
    repeat (refine And.intro (by omega) ?_)
    exact gg.lo (al_le_of (by simp) (by simp))
  · subst x4
    refine am_go_of 40 [8, 58] _ c_Run_unpackTypes_36 ?_
    simp (maxSteps := 2000000) (disch := omega) only [c_Run_unpackTypes_0, c_Run_unpackTypes_1, c_Run_unpackTypes_2, c_Run_unpackTypes_3, c_Run_unpackTypes_4, c_Run_unpackTypes_5, c_Run_unpackTypes_6, c_Run_unpackTypes_7, c_Run_unpackTypes_8, c_Run_unpackTypes_9, c_Run_unpackTypes_10, c_Run_unpackTypes_11, c_Run_unpackTypes_12, c_Run_unpackTypes_13, c_Run_unpackTypes_14, c_Run_unpackTypes_15, c_Run_unpackTypes_16, c_Run_unpackTypes_17, c_Run_unpackTypes_18, c_Run_unpackTypes_19, c_Run_unpackTypes_20, c_Run_unpackTypes_21, c_Run_unpackTypes_22, c_Run_unpackTypes_23, c_Run_unpackTypes_24, c_Run_unpackTypes_25, c_Run_unpackTypes_26, c_Run_unpackTypes_27, c_Run_unpackTypes_28, c_Run_unpackTypes_29, c_Run_unpackTypes_30, c_Run_unpackTypes_31, c_Run_unpackTypes_32, c_Run_unpackTypes_33, c_Run_unpackTypes_34, c_Run_unpackTypes_35, c_Run_unpackTypes_36, c_Run_unpackTypes_37, c_Run_unpackTypes_38, c_Run_unpackTypes_39, c_Run_unpackTypes_40, c_Run_unpackTypes_41, c_Run_unpackTypes_42, c_Run_unpackTypes_43, c_Run_unpackTypes_44, c_Run_unpackTypes_45, c_Run_unpackTypes_46, c_Run_unpackTypes_47, c_Run_unpackTypes_48, c_Run_unpackTypes_49, c_Run_unpackTypes_50, c_Run_unpackTypes_51, c_Run_unpackTypes_52, c_Run_unpackTypes_53, c_Run_unpackTypes_54, c_Run_unpackTypes_55, c_Run_unpackTypes_56, c_Run_unpackTypes_57, c_Run_unpackTypes_58, c_Run_unpackTypes_59, c_Run_unpackTypes_60, c_Run_unpackTypes_61, c_Run_unpackTypes_62, c_Run_unpackTypes_63, c_Run_unpackTypes_64, c_Run_unpackTypes_65, c_Run_unpackTypes_66, c_Run_unpackTypes_67, c_Run_unpackTypes_68, c_Run_unpackTypes_69, c_Run_unpackTypes_70, c_Run_unpackTypes_71, c_Run_unpackTypes_72, c_Run_unpackTypes_73, c_Run_unpackTypes_74, c_Run_unpackTypes_75, c_Run_unpackTypes_76, c_Run_unpackTypes_77, c_Run_unpackTypes_78, c_Run_unpackTypes_79, c_Run_unpackTypes_80, c_Run_unpackTypes_81, c_Run_unpackTypes_82, c_Run_unpackTypes_83, c_Run_unpackTypes_84, c_Run_unpackTypes_85, c_Run_unpackTypes_86, c_Run_unpackTypes_87, c_Run_unpackTypes_88, c_Run_unpackTypes_89, c_Run_unpackTypes_90, c_Run_unpackTypes_91, c_Run_unpackTypes_92, c_Run_unpackTypes_93, c_Run_unpackTypes_94, c_Run_unpackTypes_95, c_Run_unpackTypes_96, c_Run_unpackTypes_97, c_Run_unpackTypes_98, c_Run_unpackTypes_99, c_Run_unpackTypes_100, c_Run_unpackTypes_101, c_Run_unpackTypes_102, c_Run_unpackTypes_103, c_Run_unpackTypes_104, c_Run_unpackTypes_105, c_Run_unpackTypes_106, c_Run_unpackTypes_107, c_Run_unpackTypes_108, c_Run_unpackTypes_109, c_Run_unpackTypes_110, c_Run_unpackTypes_111, c_Run_unpackTypes_112, c_Run_unpackTypes_113, c_Run_unpackTypes_114, c_Run_unpackTypes_115, c_Run_unpackTypes_116, c_Run_unpackTypes_117, c_Run_unpackTypes_118, c_Run_unpackTypes_119, c_Run_unpackTypes_120, c_Run_unpackTypes_121, sx_aaload, sx_aload_n, sx_bastore, sx_bipush, sx_dup2_ir, sx_getfield, sx_goto, sx_iadd, sx_iaload, sx_iand, sx_iastore, sx_iconst, sx_ifCond_eq, sx_if_icmp_lt, sx_if_icmp_ne, sx_iinc, sx_iload, sx_iload_n, sx_ishr, sx_istore, sx_isub, sx_l2i, sx_land, sx_ldc2_w, sx_lload, sx_lload_n, sx_lshr, sx_lstore, sx_return, am_W_s, am_W_0, am_mm_some, List.mem_cons, or_false, false_or, or_self, or_true, true_or, reduceIte, if_false, if_true, am_o_some, am_o_none, am_o_bad, am_o_good, am_ldi_hit, am_ldi_miss, am_lda_hit, am_lda_miss, am_ldl_hit, am_ldl_miss, am_inc_eq, am_inc_hit, am_inc_miss, am_ob_hit, am_fd_0, am_fd_s, am_ai_hit, am_ab_3, am_al_hit, am_aq_4, am_al0_hit, am_put_1, am_put_2, am_put_put, am_up_hit, am_up_miss, am_s1_eq, am_s2_eq, am_fl_nil, am_fl_hit, am_fl_int, am_fl_ref, am_fl_long, am_fl_longx, am_fl2_nil, am_fl2_hit, am_fl2_hit1, am_fl2_int, am_fl2_ref, am_fl2_long, List.not_mem_nil, not_false_eq_true, ne_eq, Nat.reduceAdd, Nat.reduceEqDiff, Nat.zero_add, Nat.add_left_cancel_iff, List.set_cons_zero, List.set_cons_succ, List.length_cons, List.length_nil, Nat.reduceLT, am_ft_i, am_ft_r, am_ft_z, and_true, true_and, Option.toList_some, Option.toList_none, List.cons_append, List.nil_append, List.drop_succ_cons, List.drop_zero, iI_c, iI_b, iI_s, iI_n, iI_add, iI_sub, iI_mul, iI_neg, iI_nle, iI_ix, iI_eq0, iI_eq1, iI_lt0, iI_0lt, iI_le0, iI_0le, iI_eq, iI_lt, iI_le, iI_upd, iI_updZ, Int.reduceEq, Int.reduceLT, Int.reduceLE, Int.reduceNeg, Int.reduceNe, hO, hA, e3, e4, jz_r10, jz_r13, jz_a7, jz_a1, ru_fs_len, ru_f0, ru_f1, ru_f2, ru_f3, ru_f4, ru_f5, ru_f6, ru_f7, ru_f8, ru_f9, ru_f10, ru_f11, ru_f12, ru_f13, ru_s0, ru_t2, ru_l2, ru_t3, ru_l3, ru_t4, ru_l4, ru_t5, ru_l5, ru_t10, ru_l10, ru_t11, ru_l11, ru_t12, ru_l12, ru_t13, ru_l13, ru_t14, ru_l14, ru_t15, ru_l15, lo_fs_len, lo_f0, lo_f1, lo_s0, ty_fs_len, ty_f0, ty_f1, ty_f2, ty_f3, ty_f4, ty_f5, ty_f6, ty_f7, ty_f8, ty_f9, ty_s0, ty_t1, ty_l1, ty_t2, ty_l2, ty_t3, ty_l3, ty_t11, ty_l11, ty_t12, ty_l12, ty_t13, ty_l13, ty_t14, ty_l14, bo_fs_len, bo_f0, bo_f1, bo_f2, bo_f3, bo_f4, bo_f5, bo_f6, bo_f7, bo_f8, bo_s0, rw_hit]
    repeat (refine And.intro (by omega) ?_)
    exact gg.lo (al_le_of (by simp) (by simp))
set_option maxHeartbeats 8000000 in
theorem uu3 (d : Nat) (h0 h : am_H) (p q w : Nat) (n m : Int) (X : Nat → Int → Int) (S : Int → Int → Int) (T : ru_to h0 p q w n m X S h) (f t b z : Int) (ht : 0 ≤ t ∧ t < 6) (hb : 0 ≤ b ∧ b < 2097152) (v11 v4 v3 : Int) (e5 : b / 16384 % 8 = v11) (e6 : b / 131072 % 4 = v4) (e7 : b / 524288 % 4 = v3) (Q : Option Value → am_H → Prop)
    (g : ∀ h' : am_H, ru_to h0 p q w n m (xI (xI (xI X 11 t v11) 4 t v4) 3 t v3) S h' → am_Go am_df am_MT d c_Run_unpackTypes (85, [(7, .int (iI b)), (6, .int (iI t)), (4, .long (bz z)), (0, .ref p), (1, .int (iI f))], [], h') Q) : am_Go am_df am_MT d c_Run_unpackTypes (58, [(7, .int (iI b)), (6, .int (iI t)), (4, .long (bz z)), (0, .ref p), (1, .int (iI f))], [], h) Q := by
  obtain ⟨i0, hO, hG, hA, hB, hS⟩ := T.1
  have gg := g _ (((T.xi 11 t v11 (t := 0) (l := 6) (f := X 11) (by decide) rfl rfl rfl).xi 4 t v4 (t := 0) (l := 6) (f := X 4) (by decide) rfl rfl rfl).xi 3 t v3 (t := 0) (l := 6) (f := X 3) (by decide) rfl rfl rfl)
  clear g T
  refine am_go_of 40 [8, 85] _ c_Run_unpackTypes_58 ?_
  simp (maxSteps := 2000000) (disch := omega) only [c_Run_unpackTypes_0, c_Run_unpackTypes_1, c_Run_unpackTypes_2, c_Run_unpackTypes_3, c_Run_unpackTypes_4, c_Run_unpackTypes_5, c_Run_unpackTypes_6, c_Run_unpackTypes_7, c_Run_unpackTypes_8, c_Run_unpackTypes_9, c_Run_unpackTypes_10, c_Run_unpackTypes_11, c_Run_unpackTypes_12, c_Run_unpackTypes_13, c_Run_unpackTypes_14, c_Run_unpackTypes_15, c_Run_unpackTypes_16, c_Run_unpackTypes_17, c_Run_unpackTypes_18, c_Run_unpackTypes_19, c_Run_unpackTypes_20, c_Run_unpackTypes_21, c_Run_unpackTypes_22, c_Run_unpackTypes_23, c_Run_unpackTypes_24, c_Run_unpackTypes_25, c_Run_unpackTypes_26, c_Run_unpackTypes_27, c_Run_unpackTypes_28, c_Run_unpackTypes_29, c_Run_unpackTypes_30, c_Run_unpackTypes_31, c_Run_unpackTypes_32, c_Run_unpackTypes_33, c_Run_unpackTypes_34, c_Run_unpackTypes_35, c_Run_unpackTypes_36, c_Run_unpackTypes_37, c_Run_unpackTypes_38, c_Run_unpackTypes_39, c_Run_unpackTypes_40, c_Run_unpackTypes_41, c_Run_unpackTypes_42, c_Run_unpackTypes_43, c_Run_unpackTypes_44, c_Run_unpackTypes_45, c_Run_unpackTypes_46, c_Run_unpackTypes_47, c_Run_unpackTypes_48, c_Run_unpackTypes_49, c_Run_unpackTypes_50, c_Run_unpackTypes_51, c_Run_unpackTypes_52, c_Run_unpackTypes_53, c_Run_unpackTypes_54, c_Run_unpackTypes_55, c_Run_unpackTypes_56, c_Run_unpackTypes_57, c_Run_unpackTypes_58, c_Run_unpackTypes_59, c_Run_unpackTypes_60, c_Run_unpackTypes_61, c_Run_unpackTypes_62, c_Run_unpackTypes_63, c_Run_unpackTypes_64, c_Run_unpackTypes_65, c_Run_unpackTypes_66, c_Run_unpackTypes_67, c_Run_unpackTypes_68, c_Run_unpackTypes_69, c_Run_unpackTypes_70, c_Run_unpackTypes_71, c_Run_unpackTypes_72, c_Run_unpackTypes_73, c_Run_unpackTypes_74, c_Run_unpackTypes_75, c_Run_unpackTypes_76, c_Run_unpackTypes_77, c_Run_unpackTypes_78, c_Run_unpackTypes_79, c_Run_unpackTypes_80, c_Run_unpackTypes_81, c_Run_unpackTypes_82, c_Run_unpackTypes_83, c_Run_unpackTypes_84, c_Run_unpackTypes_85, c_Run_unpackTypes_86, c_Run_unpackTypes_87, c_Run_unpackTypes_88, c_Run_unpackTypes_89, c_Run_unpackTypes_90, c_Run_unpackTypes_91, c_Run_unpackTypes_92, c_Run_unpackTypes_93, c_Run_unpackTypes_94, c_Run_unpackTypes_95, c_Run_unpackTypes_96, c_Run_unpackTypes_97, c_Run_unpackTypes_98, c_Run_unpackTypes_99, c_Run_unpackTypes_100, c_Run_unpackTypes_101, c_Run_unpackTypes_102, c_Run_unpackTypes_103, c_Run_unpackTypes_104, c_Run_unpackTypes_105, c_Run_unpackTypes_106, c_Run_unpackTypes_107, c_Run_unpackTypes_108, c_Run_unpackTypes_109, c_Run_unpackTypes_110, c_Run_unpackTypes_111, c_Run_unpackTypes_112, c_Run_unpackTypes_113, c_Run_unpackTypes_114, c_Run_unpackTypes_115, c_Run_unpackTypes_116, c_Run_unpackTypes_117, c_Run_unpackTypes_118, c_Run_unpackTypes_119, c_Run_unpackTypes_120, c_Run_unpackTypes_121, sx_aaload, sx_aload_n, sx_bastore, sx_bipush, sx_dup2_ir, sx_getfield, sx_goto, sx_iadd, sx_iaload, sx_iand, sx_iastore, sx_iconst, sx_ifCond_eq, sx_if_icmp_lt, sx_if_icmp_ne, sx_iinc, sx_iload, sx_iload_n, sx_ishr, sx_istore, sx_isub, sx_l2i, sx_land, sx_ldc2_w, sx_lload, sx_lload_n, sx_lshr, sx_lstore, sx_return, am_W_s, am_W_0, am_mm_some, List.mem_cons, or_false, false_or, or_self, or_true, true_or, reduceIte, if_false, if_true, am_o_some, am_o_none, am_o_bad, am_o_good, am_ldi_hit, am_ldi_miss, am_lda_hit, am_lda_miss, am_ldl_hit, am_ldl_miss, am_inc_eq, am_inc_hit, am_inc_miss, am_ob_hit, am_fd_0, am_fd_s, am_ai_hit, am_ab_3, am_al_hit, am_aq_4, am_al0_hit, am_put_1, am_put_2, am_put_put, am_up_hit, am_up_miss, am_s1_eq, am_s2_eq, am_fl_nil, am_fl_hit, am_fl_int, am_fl_ref, am_fl_long, am_fl_longx, am_fl2_nil, am_fl2_hit, am_fl2_hit1, am_fl2_int, am_fl2_ref, am_fl2_long, List.not_mem_nil, not_false_eq_true, ne_eq, Nat.reduceAdd, Nat.reduceEqDiff, Nat.zero_add, Nat.add_left_cancel_iff, List.set_cons_zero, List.set_cons_succ, List.length_cons, List.length_nil, Nat.reduceLT, am_ft_i, am_ft_r, am_ft_z, and_true, true_and, Option.toList_some, Option.toList_none, List.cons_append, List.nil_append, List.drop_succ_cons, List.drop_zero, iI_c, iI_b, iI_s, iI_n, iI_add, iI_sub, iI_mul, iI_neg, iI_nle, iI_ix, iI_eq0, iI_eq1, iI_lt0, iI_0lt, iI_le0, iI_0le, iI_eq, iI_lt, iI_le, iI_upd, iI_updZ, Int.reduceEq, Int.reduceLT, Int.reduceLE, Int.reduceNeg, Int.reduceNe, hO, hA, e5, e6, e7, jz_r14, jz_r17, jz_r19, jz_a7, jz_a3, ru_fs_len, ru_f0, ru_f1, ru_f2, ru_f3, ru_f4, ru_f5, ru_f6, ru_f7, ru_f8, ru_f9, ru_f10, ru_f11, ru_f12, ru_f13, ru_s0, ru_t2, ru_l2, ru_t3, ru_l3, ru_t4, ru_l4, ru_t5, ru_l5, ru_t10, ru_l10, ru_t11, ru_l11, ru_t12, ru_l12, ru_t13, ru_l13, ru_t14, ru_l14, ru_t15, ru_l15, lo_fs_len, lo_f0, lo_f1, lo_s0, ty_fs_len, ty_f0, ty_f1, ty_f2, ty_f3, ty_f4, ty_f5, ty_f6, ty_f7, ty_f8, ty_f9, ty_s0, ty_t1, ty_l1, ty_t2, ty_l2, ty_t3, ty_l3, ty_t11, ty_l11, ty_t12, ty_l12, ty_t13, ty_l13, ty_t14, ty_l14, bo_fs_len, bo_f0, bo_f1, bo_f2, bo_f3, bo_f4, bo_f5, bo_f6, bo_f7, bo_f8, bo_s0, rw_hit]
  repeat (refine And.intro (by omega) ?_)
  exact gg.lo (al_le_of (by simp) (by simp))
set_option maxHeartbeats 8000000 in
theorem uu4 (d : Nat) (h0 h : am_H) (p q w : Nat) (n m : Int) (X : Nat → Int → Int) (S : Int → Int → Int) (T : ru_to h0 p q w n m X S h) (f t b z : Int) (ht : 0 ≤ t ∧ t < 6) (hf : f = 0 ∨ f = 3) (hz : 0 ≤ z ∧ z < 9223372036854775808) (x3 : 0 ≤ X 3 t ∧ X 3 t < 4) (y1 : X 3 t = 1 → (0 ≤ X 4 t ∧ X 4 t < 3) ∧ (0 ≤ X 11 t ∧ X 11 t < 6) ∧ 0 ≤ X 10 (X 4 t) ∧ X 10 (X 4 t) < 100) (Q : Option Value → am_H → Prop)
    (g : ∀ h' : am_H, ru_to h0 p q w n m (if X 3 t = 1 then xI X 10 (X 4 t) (X 10 (X 4 t) + 1) else X) (if X 3 t = 1 then vI2 S (X 4 t) (X 11 t) t else S) h' → am_Go am_df am_MT d c_Run_unpackTypes (8, [(6, .int (iI (t - 1))), (4, .long (bz (z / 2097152))), (0, .ref p), (1, .int (iI f))], [], h') Q) : am_Go am_df am_MT d c_Run_unpackTypes (85, [(7, .int (iI b)), (6, .int (iI t)), (4, .long (bz z)), (0, .ref p), (1, .int (iI f))], [], h) Q := by
  obtain ⟨i0, hO, hG, hA, hB, hS⟩ := T.1
  have ei : iI (t + -1) = iI (t - 1) := by rw [show t + -1 = t - 1 by omega]
  by_cases s1 : X 3 t = 1
  · simp only [if_pos s1] at g
    obtain ⟨y4, y11, y10⟩ := y1 s1
    have gg := g _ ((T.stk (th := X 4 t) (i := X 11 t) (v := t) y4).xi 10 (X 4 t) (X 10 (X 4 t) + 1) (t := 0) (l := 3) (f := X 10) (by decide) rfl rfl rfl)
    clear g T y1
    refine am_go_of 60 [8] _ c_Run_unpackTypes_85 ?_
    simp (maxSteps := 2000000) (disch := omega) only [c_Run_unpackTypes_0, c_Run_unpackTypes_1, c_Run_unpackTypes_2, c_Run_unpackTypes_3, c_Run_unpackTypes_4, c_Run_unpackTypes_5, c_Run_unpackTypes_6, c_Run_unpackTypes_7, c_Run_unpackTypes_8, c_Run_unpackTypes_9, c_Run_unpackTypes_10, c_Run_unpackTypes_11, c_Run_unpackTypes_12, c_Run_unpackTypes_13, c_Run_unpackTypes_14, c_Run_unpackTypes_15, c_Run_unpackTypes_16, c_Run_unpackTypes_17, c_Run_unpackTypes_18, c_Run_unpackTypes_19, c_Run_unpackTypes_20, c_Run_unpackTypes_21, c_Run_unpackTypes_22, c_Run_unpackTypes_23, c_Run_unpackTypes_24, c_Run_unpackTypes_25, c_Run_unpackTypes_26, c_Run_unpackTypes_27, c_Run_unpackTypes_28, c_Run_unpackTypes_29, c_Run_unpackTypes_30, c_Run_unpackTypes_31, c_Run_unpackTypes_32, c_Run_unpackTypes_33, c_Run_unpackTypes_34, c_Run_unpackTypes_35, c_Run_unpackTypes_36, c_Run_unpackTypes_37, c_Run_unpackTypes_38, c_Run_unpackTypes_39, c_Run_unpackTypes_40, c_Run_unpackTypes_41, c_Run_unpackTypes_42, c_Run_unpackTypes_43, c_Run_unpackTypes_44, c_Run_unpackTypes_45, c_Run_unpackTypes_46, c_Run_unpackTypes_47, c_Run_unpackTypes_48, c_Run_unpackTypes_49, c_Run_unpackTypes_50, c_Run_unpackTypes_51, c_Run_unpackTypes_52, c_Run_unpackTypes_53, c_Run_unpackTypes_54, c_Run_unpackTypes_55, c_Run_unpackTypes_56, c_Run_unpackTypes_57, c_Run_unpackTypes_58, c_Run_unpackTypes_59, c_Run_unpackTypes_60, c_Run_unpackTypes_61, c_Run_unpackTypes_62, c_Run_unpackTypes_63, c_Run_unpackTypes_64, c_Run_unpackTypes_65, c_Run_unpackTypes_66, c_Run_unpackTypes_67, c_Run_unpackTypes_68, c_Run_unpackTypes_69, c_Run_unpackTypes_70, c_Run_unpackTypes_71, c_Run_unpackTypes_72, c_Run_unpackTypes_73, c_Run_unpackTypes_74, c_Run_unpackTypes_75, c_Run_unpackTypes_76, c_Run_unpackTypes_77, c_Run_unpackTypes_78, c_Run_unpackTypes_79, c_Run_unpackTypes_80, c_Run_unpackTypes_81, c_Run_unpackTypes_82, c_Run_unpackTypes_83, c_Run_unpackTypes_84, c_Run_unpackTypes_85, c_Run_unpackTypes_86, c_Run_unpackTypes_87, c_Run_unpackTypes_88, c_Run_unpackTypes_89, c_Run_unpackTypes_90, c_Run_unpackTypes_91, c_Run_unpackTypes_92, c_Run_unpackTypes_93, c_Run_unpackTypes_94, c_Run_unpackTypes_95, c_Run_unpackTypes_96, c_Run_unpackTypes_97, c_Run_unpackTypes_98, c_Run_unpackTypes_99, c_Run_unpackTypes_100, c_Run_unpackTypes_101, c_Run_unpackTypes_102, c_Run_unpackTypes_103, c_Run_unpackTypes_104, c_Run_unpackTypes_105, c_Run_unpackTypes_106, c_Run_unpackTypes_107, c_Run_unpackTypes_108, c_Run_unpackTypes_109, c_Run_unpackTypes_110, c_Run_unpackTypes_111, c_Run_unpackTypes_112, c_Run_unpackTypes_113, c_Run_unpackTypes_114, c_Run_unpackTypes_115, c_Run_unpackTypes_116, c_Run_unpackTypes_117, c_Run_unpackTypes_118, c_Run_unpackTypes_119, c_Run_unpackTypes_120, c_Run_unpackTypes_121, sx_aaload, sx_aload_n, sx_bastore, sx_bipush, sx_dup2_ir, sx_getfield, sx_goto, sx_iadd, sx_iaload, sx_iand, sx_iastore, sx_iconst, sx_ifCond_eq, sx_if_icmp_lt, sx_if_icmp_ne, sx_iinc, sx_iload, sx_iload_n, sx_ishr, sx_istore, sx_isub, sx_l2i, sx_land, sx_ldc2_w, sx_lload, sx_lload_n, sx_lshr, sx_lstore, sx_return, am_W_s, am_W_0, am_mm_some, List.mem_cons, or_false, false_or, or_self, or_true, true_or, reduceIte, if_false, if_true, am_o_some, am_o_none, am_o_bad, am_o_good, am_ldi_hit, am_ldi_miss, am_lda_hit, am_lda_miss, am_ldl_hit, am_ldl_miss, am_inc_eq, am_inc_hit, am_inc_miss, am_ob_hit, am_fd_0, am_fd_s, am_ai_hit, am_ab_3, am_al_hit, am_aq_4, am_al0_hit, am_put_1, am_put_2, am_put_put, am_up_hit, am_up_miss, am_s1_eq, am_s2_eq, am_fl_nil, am_fl_hit, am_fl_int, am_fl_ref, am_fl_long, am_fl_longx, am_fl2_nil, am_fl2_hit, am_fl2_hit1, am_fl2_int, am_fl2_ref, am_fl2_long, List.not_mem_nil, not_false_eq_true, ne_eq, Nat.reduceAdd, Nat.reduceEqDiff, Nat.zero_add, Nat.add_left_cancel_iff, List.set_cons_zero, List.set_cons_succ, List.length_cons, List.length_nil, Nat.reduceLT, am_ft_i, am_ft_r, am_ft_z, and_true, true_and, Option.toList_some, Option.toList_none, List.cons_append, List.nil_append, List.drop_succ_cons, List.drop_zero, iI_c, iI_b, iI_s, iI_n, iI_add, iI_sub, iI_mul, iI_neg, iI_nle, iI_ix, iI_eq0, iI_eq1, iI_lt0, iI_0lt, iI_le0, iI_0le, iI_eq, iI_lt, iI_le, iI_upd, iI_updZ, Int.reduceEq, Int.reduceLT, Int.reduceLE, Int.reduceNeg, Int.reduceNe, hO, hA, hB, hS, s1, bz_r21, ei, ru_fs_len, ru_f0, ru_f1, ru_f2, ru_f3, ru_f4, ru_f5, ru_f6, ru_f7, ru_f8, ru_f9, ru_f10, ru_f11, ru_f12, ru_f13, ru_s0, ru_t2, ru_l2, ru_t3, ru_l3, ru_t4, ru_l4, ru_t5, ru_l5, ru_t10, ru_l10, ru_t11, ru_l11, ru_t12, ru_l12, ru_t13, ru_l13, ru_t14, ru_l14, ru_t15, ru_l15, lo_fs_len, lo_f0, lo_f1, lo_s0, ty_fs_len, ty_f0, ty_f1, ty_f2, ty_f3, ty_f4, ty_f5, ty_f6, ty_f7, ty_f8, ty_f9, ty_s0, ty_t1, ty_l1, ty_t2, ty_l2, ty_t3, ty_l3, ty_t11, ty_l11, ty_t12, ty_l12, ty_t13, ty_l13, ty_t14, ty_l14, bo_fs_len, bo_f0, bo_f1, bo_f2, bo_f3, bo_f4, bo_f5, bo_f6, bo_f7, bo_f8, bo_s0, rw_hit]
    repeat (refine And.intro (by omega) ?_)
    exact gg.lo (al_le_of (by simp) (by simp))
  · simp only [if_neg s1] at g
    have gg := g _ T
    clear g T y1
    refine am_go_of 60 [8] _ c_Run_unpackTypes_85 ?_
    simp (maxSteps := 2000000) (disch := omega) only [c_Run_unpackTypes_0, c_Run_unpackTypes_1, c_Run_unpackTypes_2, c_Run_unpackTypes_3, c_Run_unpackTypes_4, c_Run_unpackTypes_5, c_Run_unpackTypes_6, c_Run_unpackTypes_7, c_Run_unpackTypes_8, c_Run_unpackTypes_9, c_Run_unpackTypes_10, c_Run_unpackTypes_11, c_Run_unpackTypes_12, c_Run_unpackTypes_13, c_Run_unpackTypes_14, c_Run_unpackTypes_15, c_Run_unpackTypes_16, c_Run_unpackTypes_17, c_Run_unpackTypes_18, c_Run_unpackTypes_19, c_Run_unpackTypes_20, c_Run_unpackTypes_21, c_Run_unpackTypes_22, c_Run_unpackTypes_23, c_Run_unpackTypes_24, c_Run_unpackTypes_25, c_Run_unpackTypes_26, c_Run_unpackTypes_27, c_Run_unpackTypes_28, c_Run_unpackTypes_29, c_Run_unpackTypes_30, c_Run_unpackTypes_31, c_Run_unpackTypes_32, c_Run_unpackTypes_33, c_Run_unpackTypes_34, c_Run_unpackTypes_35, c_Run_unpackTypes_36, c_Run_unpackTypes_37, c_Run_unpackTypes_38, c_Run_unpackTypes_39, c_Run_unpackTypes_40, c_Run_unpackTypes_41, c_Run_unpackTypes_42, c_Run_unpackTypes_43, c_Run_unpackTypes_44, c_Run_unpackTypes_45, c_Run_unpackTypes_46, c_Run_unpackTypes_47, c_Run_unpackTypes_48, c_Run_unpackTypes_49, c_Run_unpackTypes_50, c_Run_unpackTypes_51, c_Run_unpackTypes_52, c_Run_unpackTypes_53, c_Run_unpackTypes_54, c_Run_unpackTypes_55, c_Run_unpackTypes_56, c_Run_unpackTypes_57, c_Run_unpackTypes_58, c_Run_unpackTypes_59, c_Run_unpackTypes_60, c_Run_unpackTypes_61, c_Run_unpackTypes_62, c_Run_unpackTypes_63, c_Run_unpackTypes_64, c_Run_unpackTypes_65, c_Run_unpackTypes_66, c_Run_unpackTypes_67, c_Run_unpackTypes_68, c_Run_unpackTypes_69, c_Run_unpackTypes_70, c_Run_unpackTypes_71, c_Run_unpackTypes_72, c_Run_unpackTypes_73, c_Run_unpackTypes_74, c_Run_unpackTypes_75, c_Run_unpackTypes_76, c_Run_unpackTypes_77, c_Run_unpackTypes_78, c_Run_unpackTypes_79, c_Run_unpackTypes_80, c_Run_unpackTypes_81, c_Run_unpackTypes_82, c_Run_unpackTypes_83, c_Run_unpackTypes_84, c_Run_unpackTypes_85, c_Run_unpackTypes_86, c_Run_unpackTypes_87, c_Run_unpackTypes_88, c_Run_unpackTypes_89, c_Run_unpackTypes_90, c_Run_unpackTypes_91, c_Run_unpackTypes_92, c_Run_unpackTypes_93, c_Run_unpackTypes_94, c_Run_unpackTypes_95, c_Run_unpackTypes_96, c_Run_unpackTypes_97, c_Run_unpackTypes_98, c_Run_unpackTypes_99, c_Run_unpackTypes_100, c_Run_unpackTypes_101, c_Run_unpackTypes_102, c_Run_unpackTypes_103, c_Run_unpackTypes_104, c_Run_unpackTypes_105, c_Run_unpackTypes_106, c_Run_unpackTypes_107, c_Run_unpackTypes_108, c_Run_unpackTypes_109, c_Run_unpackTypes_110, c_Run_unpackTypes_111, c_Run_unpackTypes_112, c_Run_unpackTypes_113, c_Run_unpackTypes_114, c_Run_unpackTypes_115, c_Run_unpackTypes_116, c_Run_unpackTypes_117, c_Run_unpackTypes_118, c_Run_unpackTypes_119, c_Run_unpackTypes_120, c_Run_unpackTypes_121, sx_aaload, sx_aload_n, sx_bastore, sx_bipush, sx_dup2_ir, sx_getfield, sx_goto, sx_iadd, sx_iaload, sx_iand, sx_iastore, sx_iconst, sx_ifCond_eq, sx_if_icmp_lt, sx_if_icmp_ne, sx_iinc, sx_iload, sx_iload_n, sx_ishr, sx_istore, sx_isub, sx_l2i, sx_land, sx_ldc2_w, sx_lload, sx_lload_n, sx_lshr, sx_lstore, sx_return, am_W_s, am_W_0, am_mm_some, List.mem_cons, or_false, false_or, or_self, or_true, true_or, reduceIte, if_false, if_true, am_o_some, am_o_none, am_o_bad, am_o_good, am_ldi_hit, am_ldi_miss, am_lda_hit, am_lda_miss, am_ldl_hit, am_ldl_miss, am_inc_eq, am_inc_hit, am_inc_miss, am_ob_hit, am_fd_0, am_fd_s, am_ai_hit, am_ab_3, am_al_hit, am_aq_4, am_al0_hit, am_put_1, am_put_2, am_put_put, am_up_hit, am_up_miss, am_s1_eq, am_s2_eq, am_fl_nil, am_fl_hit, am_fl_int, am_fl_ref, am_fl_long, am_fl_longx, am_fl2_nil, am_fl2_hit, am_fl2_hit1, am_fl2_int, am_fl2_ref, am_fl2_long, List.not_mem_nil, not_false_eq_true, ne_eq, Nat.reduceAdd, Nat.reduceEqDiff, Nat.zero_add, Nat.add_left_cancel_iff, List.set_cons_zero, List.set_cons_succ, List.length_cons, List.length_nil, Nat.reduceLT, am_ft_i, am_ft_r, am_ft_z, and_true, true_and, Option.toList_some, Option.toList_none, List.cons_append, List.nil_append, List.drop_succ_cons, List.drop_zero, iI_c, iI_b, iI_s, iI_n, iI_add, iI_sub, iI_mul, iI_neg, iI_nle, iI_ix, iI_eq0, iI_eq1, iI_lt0, iI_0lt, iI_le0, iI_0le, iI_eq, iI_lt, iI_le, iI_upd, iI_updZ, Int.reduceEq, Int.reduceLT, Int.reduceLE, Int.reduceNeg, Int.reduceNe, hO, hA, s1, bz_r21, ei, ru_fs_len, ru_f0, ru_f1, ru_f2, ru_f3, ru_f4, ru_f5, ru_f6, ru_f7, ru_f8, ru_f9, ru_f10, ru_f11, ru_f12, ru_f13, ru_s0, ru_t2, ru_l2, ru_t3, ru_l3, ru_t4, ru_l4, ru_t5, ru_l5, ru_t10, ru_l10, ru_t11, ru_l11, ru_t12, ru_l12, ru_t13, ru_l13, ru_t14, ru_l14, ru_t15, ru_l15, lo_fs_len, lo_f0, lo_f1, lo_s0, ty_fs_len, ty_f0, ty_f1, ty_f2, ty_f3, ty_f4, ty_f5, ty_f6, ty_f7, ty_f8, ty_f9, ty_s0, ty_t1, ty_l1, ty_t2, ty_l2, ty_t3, ty_l3, ty_t11, ty_l11, ty_t12, ty_l12, ty_t13, ty_l13, ty_t14, ty_l14, bo_fs_len, bo_f0, bo_f1, bo_f2, bo_f3, bo_f4, bo_f5, bo_f6, bo_f7, bo_f8, bo_s0, rw_hit]
    repeat (refine And.intro (by omega) ?_)
    exact gg.lo (al_le_of (by simp) (by simp))
set_option maxHeartbeats 8000000 in
theorem ut_one (d : Nat) (h : am_H) (p q w : Nat) (n m : Int) (X : Nat → Int → Int) (S : Int → Int → Int) (H : ru_at h p q w n m X S) (Y : Nat → Int → Int) (f t z : Int) (ht : f ≤ t ∧ t < f + 3) (hf : f = 0 ∨ f = 3) (hy : tr_ok Y t) (hy1 : Y 3 t = 1 → Y 4 t < 3 ∧ Y 11 t < 6) (hd10 : ∀ x : Int, 0 ≤ x ∧ x < 3 → 0 ≤ X 10 x ∧ X 10 x < 100) (hz : 0 ≤ z ∧ z < 9223372036854775808) (hc : z % 2097152 = tc Y t) (Q : Option Value → am_H → Prop)
    (g : ∀ (h' : am_H) (X' : Nat → Int → Int) (S' : Int → Int → Int), ru_to h p q w n m X' S' h' → un_ok X S Y t X' S' → am_Go am_df am_MT d c_Run_unpackTypes (8, [(6, .int (iI (t - 1))), (4, .long (bz (z / 2097152))), (0, .ref p), (1, .int (iI f))], [], h') Q) :
    am_Go am_df am_MT d c_Run_unpackTypes (8, [(6, .int (iI t)), (4, .long (bz z)), (0, .ref p), (1, .int (iI f))], [], h) Q := by
  have c : ¬ t < f := by omega
  obtain ⟨x1, x2, x3, x4, x5, x6, x7⟩ := hy
  have e1 : z % 2097152 % 32 - 9 = Y 5 t := by rw [hc]; unfold tc; omega
  have e2 : z % 2097152 / 32 % 32 - 9 = Y 14 t := by rw [hc]; unfold tc; omega
  have e3 : z % 2097152 / 1024 % 8 = Y 13 t := by rw [hc]; unfold tc; omega
  have e4 : z % 2097152 / 8192 % 2 = Y 12 t := by rw [hc]; unfold tc; omega
  have e5 : z % 2097152 / 16384 % 8 = Y 11 t := by rw [hc]; unfold tc; omega
  have e6 : z % 2097152 / 131072 % 4 = Y 4 t := by rw [hc]; unfold tc; omega
  have e7 : z % 2097152 / 524288 % 4 = Y 3 t := by rw [hc]; unfold tc; omega
  have hb : 0 ≤ z % 2097152 ∧ z % 2097152 < 2097152 := by omega
  have ht6 : 0 ≤ t ∧ t < 6 := by omega
  have R3 : un_X X Y t 3 t = Y 3 t := un_r3.trans (if_pos rfl)
  have R4 : un_X X Y t 4 t = Y 4 t := un_r4.trans (if_pos rfl)
  have R11 : un_X X Y t 11 t = Y 11 t := un_r11.trans (if_pos rfl)
  have gg : am_Go am_df am_MT d c_Run_unpackTypes (16, [(7, .int (iI (z % 2097152))), (6, .int (iI t)), (4, .long (bz z)), (0, .ref p), (1, .int (iI f))], [], h) Q :=
    uu1 d h h p q w n m X S H.rf f t (z % 2097152) z ht6 hb _ _ e1 e2 Q (fun h1 T1 =>
      uu2 d h h1 p q w n m _ S T1 f t (z % 2097152) z ht6 hb _ _ e3 e4 x4 Q (fun h2 T2 =>
        uu3 d h h2 p q w n m _ S T2 f t (z % 2097152) z ht6 hb _ _ _ e5 e6 e7 Q (fun h3 T3 =>
          uu4 d h h3 p q w n m (un_X X Y t) S T3 f t (z % 2097152) z ht6 hf hz (by rw [R3]; exact x1) (by
            rw [R3, R4, R11]
            intro s1
            have y4 := hy1 s1
            rw [un_r10]
            exact ⟨⟨x2.1, y4.1⟩, ⟨x3.1, y4.2⟩, hd10 (Y 4 t) ⟨x2.1, y4.1⟩⟩) Q (fun h4 T4 => g h4 _ _ T4 (by
              rw [R3, R4, R11, un_r10]
              exact ⟨rfl, rfl⟩)))))
  clear g e1 e2 e3 e4 e5 e6 e7 hy1 hd10 R3 R4 R11 hc x1 x2 x3 x4 x5 x6 x7 H
  refine am_go_of 20 [8, 16] _ c_Run_unpackTypes_8 ?_
  simp (maxSteps := 2000000) (disch := omega) only [c_Run_unpackTypes_0, c_Run_unpackTypes_1, c_Run_unpackTypes_2, c_Run_unpackTypes_3, c_Run_unpackTypes_4, c_Run_unpackTypes_5, c_Run_unpackTypes_6, c_Run_unpackTypes_7, c_Run_unpackTypes_8, c_Run_unpackTypes_9, c_Run_unpackTypes_10, c_Run_unpackTypes_11, c_Run_unpackTypes_12, c_Run_unpackTypes_13, c_Run_unpackTypes_14, c_Run_unpackTypes_15, c_Run_unpackTypes_16, c_Run_unpackTypes_17, c_Run_unpackTypes_18, c_Run_unpackTypes_19, c_Run_unpackTypes_20, c_Run_unpackTypes_21, c_Run_unpackTypes_22, c_Run_unpackTypes_23, c_Run_unpackTypes_24, c_Run_unpackTypes_25, c_Run_unpackTypes_26, c_Run_unpackTypes_27, c_Run_unpackTypes_28, c_Run_unpackTypes_29, c_Run_unpackTypes_30, c_Run_unpackTypes_31, c_Run_unpackTypes_32, c_Run_unpackTypes_33, c_Run_unpackTypes_34, c_Run_unpackTypes_35, c_Run_unpackTypes_36, c_Run_unpackTypes_37, c_Run_unpackTypes_38, c_Run_unpackTypes_39, c_Run_unpackTypes_40, c_Run_unpackTypes_41, c_Run_unpackTypes_42, c_Run_unpackTypes_43, c_Run_unpackTypes_44, c_Run_unpackTypes_45, c_Run_unpackTypes_46, c_Run_unpackTypes_47, c_Run_unpackTypes_48, c_Run_unpackTypes_49, c_Run_unpackTypes_50, c_Run_unpackTypes_51, c_Run_unpackTypes_52, c_Run_unpackTypes_53, c_Run_unpackTypes_54, c_Run_unpackTypes_55, c_Run_unpackTypes_56, c_Run_unpackTypes_57, c_Run_unpackTypes_58, c_Run_unpackTypes_59, c_Run_unpackTypes_60, c_Run_unpackTypes_61, c_Run_unpackTypes_62, c_Run_unpackTypes_63, c_Run_unpackTypes_64, c_Run_unpackTypes_65, c_Run_unpackTypes_66, c_Run_unpackTypes_67, c_Run_unpackTypes_68, c_Run_unpackTypes_69, c_Run_unpackTypes_70, c_Run_unpackTypes_71, c_Run_unpackTypes_72, c_Run_unpackTypes_73, c_Run_unpackTypes_74, c_Run_unpackTypes_75, c_Run_unpackTypes_76, c_Run_unpackTypes_77, c_Run_unpackTypes_78, c_Run_unpackTypes_79, c_Run_unpackTypes_80, c_Run_unpackTypes_81, c_Run_unpackTypes_82, c_Run_unpackTypes_83, c_Run_unpackTypes_84, c_Run_unpackTypes_85, c_Run_unpackTypes_86, c_Run_unpackTypes_87, c_Run_unpackTypes_88, c_Run_unpackTypes_89, c_Run_unpackTypes_90, c_Run_unpackTypes_91, c_Run_unpackTypes_92, c_Run_unpackTypes_93, c_Run_unpackTypes_94, c_Run_unpackTypes_95, c_Run_unpackTypes_96, c_Run_unpackTypes_97, c_Run_unpackTypes_98, c_Run_unpackTypes_99, c_Run_unpackTypes_100, c_Run_unpackTypes_101, c_Run_unpackTypes_102, c_Run_unpackTypes_103, c_Run_unpackTypes_104, c_Run_unpackTypes_105, c_Run_unpackTypes_106, c_Run_unpackTypes_107, c_Run_unpackTypes_108, c_Run_unpackTypes_109, c_Run_unpackTypes_110, c_Run_unpackTypes_111, c_Run_unpackTypes_112, c_Run_unpackTypes_113, c_Run_unpackTypes_114, c_Run_unpackTypes_115, c_Run_unpackTypes_116, c_Run_unpackTypes_117, c_Run_unpackTypes_118, c_Run_unpackTypes_119, c_Run_unpackTypes_120, c_Run_unpackTypes_121, sx_aaload, sx_aload_n, sx_bastore, sx_bipush, sx_dup2_ir, sx_getfield, sx_goto, sx_iadd, sx_iaload, sx_iand, sx_iastore, sx_iconst, sx_ifCond_eq, sx_if_icmp_lt, sx_if_icmp_ne, sx_iinc, sx_iload, sx_iload_n, sx_ishr, sx_istore, sx_isub, sx_l2i, sx_land, sx_ldc2_w, sx_lload, sx_lload_n, sx_lshr, sx_lstore, sx_return, am_W_s, am_W_0, am_mm_some, List.mem_cons, or_false, false_or, or_self, or_true, true_or, reduceIte, if_false, if_true, am_o_some, am_o_none, am_o_bad, am_o_good, am_ldi_hit, am_ldi_miss, am_lda_hit, am_lda_miss, am_ldl_hit, am_ldl_miss, am_inc_eq, am_inc_hit, am_inc_miss, am_ob_hit, am_fd_0, am_fd_s, am_ai_hit, am_ab_3, am_al_hit, am_aq_4, am_al0_hit, am_put_1, am_put_2, am_put_put, am_up_hit, am_up_miss, am_s1_eq, am_s2_eq, am_fl_nil, am_fl_hit, am_fl_int, am_fl_ref, am_fl_long, am_fl_longx, am_fl2_nil, am_fl2_hit, am_fl2_hit1, am_fl2_int, am_fl2_ref, am_fl2_long, List.not_mem_nil, not_false_eq_true, ne_eq, Nat.reduceAdd, Nat.reduceEqDiff, Nat.zero_add, Nat.add_left_cancel_iff, List.set_cons_zero, List.set_cons_succ, List.length_cons, List.length_nil, Nat.reduceLT, am_ft_i, am_ft_r, am_ft_z, and_true, true_and, Option.toList_some, Option.toList_none, List.cons_append, List.nil_append, List.drop_succ_cons, List.drop_zero, iI_c, iI_b, iI_s, iI_n, iI_add, iI_sub, iI_mul, iI_neg, iI_nle, iI_ix, iI_eq0, iI_eq1, iI_lt0, iI_0lt, iI_le0, iI_0le, iI_eq, iI_lt, iI_le, iI_upd, iI_updZ, Int.reduceEq, Int.reduceLT, Int.reduceLE, Int.reduceNeg, Int.reduceNe, c, bz_a21, bz_l2i, ru_fs_len, ru_f0, ru_f1, ru_f2, ru_f3, ru_f4, ru_f5, ru_f6, ru_f7, ru_f8, ru_f9, ru_f10, ru_f11, ru_f12, ru_f13, ru_s0, ru_t2, ru_l2, ru_t3, ru_l3, ru_t4, ru_l4, ru_t5, ru_l5, ru_t10, ru_l10, ru_t11, ru_l11, ru_t12, ru_l12, ru_t13, ru_l13, ru_t14, ru_l14, ru_t15, ru_l15, lo_fs_len, lo_f0, lo_f1, lo_s0, ty_fs_len, ty_f0, ty_f1, ty_f2, ty_f3, ty_f4, ty_f5, ty_f6, ty_f7, ty_f8, ty_f9, ty_s0, ty_t1, ty_l1, ty_t2, ty_l2, ty_t3, ty_l3, ty_t11, ty_l11, ty_t12, ty_l12, ty_t13, ty_l13, ty_t14, ty_l14, bo_fs_len, bo_f0, bo_f1, bo_f2, bo_f3, bo_f4, bo_f5, bo_f6, bo_f7, bo_f8, bo_s0, rw_hit]
  exact gg.lo (al_le_of (by simp) (by simp))
/-- D: the TYPES that are unpacked already, out of Y; X0 the rows before -/
def pf_ok (D : List Int) (X0 Y X : Nat → Int → Int) (S : Int → Int → Int) : Prop :=
  (∀ t : Int, t ∈ D → X 3 t = Y 3 t ∧ X 4 t = Y 4 t ∧ X 5 t = Y 5 t ∧ X 11 t = Y 11 t ∧ X 12 t = Y 12 t ∧ X 13 t = Y 13 t ∧ X 14 t = Y 14 t) ∧
  (∀ t : Int, 6 ≤ t → X 13 t = X0 13 t ∧ X 14 t = X0 14 t) ∧ X 2 = X0 2 ∧ X 15 = X0 15 ∧
  (∀ h : Int, X 10 h = X0 10 h + ((D.filter (fun t => decide (Y 3 t = 1 ∧ Y 4 t = h))).length : Int)) ∧
  (∀ t : Int, t ∈ D → Y 3 t = 1 → S (Y 4 t) (Y 11 t) = t)
def dst (Y : Nat → Int → Int) : Prop := ∀ t u : Int, (0 ≤ t ∧ t < 6) → (0 ≤ u ∧ u < 6) → Y 3 t = 1 → Y 3 u = 1 → Y 4 t = Y 4 u → Y 11 t = Y 11 u → t = u
theorem pf_step {D : List Int} {X0 Y X X' : Nat → Int → Int} {S S' : Int → Int → Int} {t : Int} (hd : dst Y) (hD : ∀ u, u ∈ D → 0 ≤ u ∧ u < 6) (ht : 0 ≤ t ∧ t < 6) (hn : ¬ t ∈ D) (h : pf_ok D X0 Y X S) (hu : un_ok X S Y t X' S') : pf_ok (t :: D) X0 Y X' S' := by
  obtain ⟨p1, p2, p3, p4, p5, p6⟩ := h
  have rk : ∀ (k : Nat) (x : Int), k ≠ 10 → X' k x = un_X X Y t k x := fun k x hk => by
    rw [hu.1]
    split
    · exact xI_row hk
    · rfl
  refine ⟨fun u hu2 => ?_, fun u hu2 => ?_, ?_, ?_, fun x => ?_, fun u hu2 h1 => ?_⟩
  · rw [rk 3 u (by decide), rk 4 u (by decide), rk 5 u (by decide), rk 11 u (by decide), rk 12 u (by decide), rk 13 u (by decide), rk 14 u (by decide), un_r3, un_r4, un_r5, un_r11, un_r12, un_r13, un_r14]
    by_cases c : u = t
    · rw [if_pos c, if_pos c, if_pos c, if_pos c, if_pos c, if_pos c, if_pos c, c]
      exact ⟨rfl, rfl, rfl, rfl, rfl, rfl, rfl⟩
    · rw [if_neg c, if_neg c, if_neg c, if_neg c, if_neg c, if_neg c, if_neg c]
      rcases List.mem_cons.mp hu2 with e | e
      · exact absurd e c
      · exact p1 u e
  · rw [rk 13 u (by decide), rk 14 u (by decide), un_r13, un_r14, if_neg (by omega), if_neg (by omega)]
    exact p2 u hu2
  · funext x
    rw [rk 2 x (by decide), un_r2, p3]
  · funext x
    rw [rk 15 x (by decide), un_r15, p4]
  · rw [hu.1, List.filter_cons]
    by_cases c1 : Y 3 t = 1
    · rw [if_pos c1, xI_eq, un_r10]
      by_cases c2 : x = Y 4 t
      · rw [if_pos ⟨rfl, c2⟩, if_pos (by rw [decide_eq_true_eq]; exact ⟨c1, c2.symm⟩), List.length_cons, p5, c2]
        simp only [Int.natCast_add, Int.natCast_one]
        omega
      · rw [if_neg (fun z => c2 z.2), if_neg (by rw [decide_eq_true_eq]; exact fun z => c2 z.2.symm)]
        exact p5 x
    · rw [if_neg c1, un_r10, if_neg (by rw [decide_eq_true_eq]; exact fun z => c1 z.1)]
      exact p5 x
  · rw [hu.2]
    rcases List.mem_cons.mp hu2 with e | e
    · rw [e] at h1 ⊢
      rw [if_pos h1, vI2_hit]
    · have hne : u ≠ t := fun z => hn (z ▸ e)
      by_cases c1 : Y 3 t = 1
      · rw [if_pos c1, vI2_miss (fun z => hne (hd u t (hD u e) ht h1 c1 z.1 z.2))]
        exact p6 u e h1
      · rw [if_neg c1]
        exact p6 u e h1
set_option maxHeartbeats 8000000 in
theorem ct_unpackTypes (d : Nat) (hd : 1 ≤ d) (h : am_H) (p q w : Nat) (n m : Int) (X0 X : Nat → Int → Int) (S : Int → Int → Int) (H : ru_at h p q w n m X S) (Y : Nat → Int → Int) (f : Int) (hf : f = 0 ∨ f = 3) (hy : ∀ t : Int, 0 ≤ t ∧ t < 6 → tr_ok Y t) (hy1 : ∀ t : Int, 0 ≤ t ∧ t < 6 → Y 3 t = 1 → Y 4 t < 3 ∧ Y 11 t < 6) (hds : dst Y) (D : List Int) (hD : ∀ u, u ∈ D → (0 ≤ u ∧ u < 6) ∧ ¬ (f ≤ u ∧ u < f + 3)) (hl : D.length ≤ 6) (h10 : ∀ x : Int, 0 ≤ x ∧ x < 3 → X0 10 x = 0) (hp : pf_ok D X0 Y X S) : am_Ct am_df am_MT d 92 [.ref p, .int (iI f), .long (bz (t3 Y f))] h (fun r0 h' => r0 = none ∧ ∃ X' S', ru_to h p q w n m X' S' h' ∧ pf_ok (f :: (f + 1) :: (f + 2) :: D) X0 Y X' S') := by
  have b0 := tc_rg (hy f (by omega))
  have b1 := tc_rg (hy (f + 1) (by omega))
  have b2 := tc_rg (hy (f + 2) (by omega))
  have z0 : t3 Y f % 2097152 = tc Y (f + 2) := by unfold t3; omega
  have z1 : t3 Y f / 2097152 % 2097152 = tc Y (f + 1) := by unfold t3; omega
  have z2 : t3 Y f / 2097152 / 2097152 % 2097152 = tc Y f := by unfold t3; omega
  have zr := t3_rg (hy f (by omega)) (hy (f + 1) (by omega)) (hy (f + 2) (by omega))
  have dep : ∀ (D : List Int) (X : Nat → Int → Int) (S : Int → Int → Int), pf_ok D X0 Y X S → D.length ≤ 10 → ∀ x : Int, 0 ≤ x ∧ x < 3 → 0 ≤ X 10 x ∧ X 10 x < 100 := fun D X S hp hl x hx => by
    rw [hp.2.2.2.2.1 x, h10 x hx]
    have := List.length_filter_le (fun t => decide (Y 3 t = 1 ∧ Y 4 t = x)) D
    omega
  obtain ⟨d, rfl⟩ : ∃ e, d = e + 1 := ⟨d - 1, by omega⟩
  refine am_ct_of2 mt_Run_unpackTypes (Nat.le_of_ble_eq_true rfl) ?_
  simp only [ar_nil, ar_int, ar_ref, ar_long, Nat.reduceAdd]
  refine am_go_of 10 [8] _ c_Run_unpackTypes_0 ?_
  simp (maxSteps := 2000000) (disch := omega) only [c_Run_unpackTypes_0, c_Run_unpackTypes_1, c_Run_unpackTypes_2, c_Run_unpackTypes_3, c_Run_unpackTypes_4, c_Run_unpackTypes_5, c_Run_unpackTypes_6, c_Run_unpackTypes_7, c_Run_unpackTypes_8, c_Run_unpackTypes_9, c_Run_unpackTypes_10, c_Run_unpackTypes_11, c_Run_unpackTypes_12, c_Run_unpackTypes_13, c_Run_unpackTypes_14, c_Run_unpackTypes_15, c_Run_unpackTypes_16, c_Run_unpackTypes_17, c_Run_unpackTypes_18, c_Run_unpackTypes_19, c_Run_unpackTypes_20, c_Run_unpackTypes_21, c_Run_unpackTypes_22, c_Run_unpackTypes_23, c_Run_unpackTypes_24, c_Run_unpackTypes_25, c_Run_unpackTypes_26, c_Run_unpackTypes_27, c_Run_unpackTypes_28, c_Run_unpackTypes_29, c_Run_unpackTypes_30, c_Run_unpackTypes_31, c_Run_unpackTypes_32, c_Run_unpackTypes_33, c_Run_unpackTypes_34, c_Run_unpackTypes_35, c_Run_unpackTypes_36, c_Run_unpackTypes_37, c_Run_unpackTypes_38, c_Run_unpackTypes_39, c_Run_unpackTypes_40, c_Run_unpackTypes_41, c_Run_unpackTypes_42, c_Run_unpackTypes_43, c_Run_unpackTypes_44, c_Run_unpackTypes_45, c_Run_unpackTypes_46, c_Run_unpackTypes_47, c_Run_unpackTypes_48, c_Run_unpackTypes_49, c_Run_unpackTypes_50, c_Run_unpackTypes_51, c_Run_unpackTypes_52, c_Run_unpackTypes_53, c_Run_unpackTypes_54, c_Run_unpackTypes_55, c_Run_unpackTypes_56, c_Run_unpackTypes_57, c_Run_unpackTypes_58, c_Run_unpackTypes_59, c_Run_unpackTypes_60, c_Run_unpackTypes_61, c_Run_unpackTypes_62, c_Run_unpackTypes_63, c_Run_unpackTypes_64, c_Run_unpackTypes_65, c_Run_unpackTypes_66, c_Run_unpackTypes_67, c_Run_unpackTypes_68, c_Run_unpackTypes_69, c_Run_unpackTypes_70, c_Run_unpackTypes_71, c_Run_unpackTypes_72, c_Run_unpackTypes_73, c_Run_unpackTypes_74, c_Run_unpackTypes_75, c_Run_unpackTypes_76, c_Run_unpackTypes_77, c_Run_unpackTypes_78, c_Run_unpackTypes_79, c_Run_unpackTypes_80, c_Run_unpackTypes_81, c_Run_unpackTypes_82, c_Run_unpackTypes_83, c_Run_unpackTypes_84, c_Run_unpackTypes_85, c_Run_unpackTypes_86, c_Run_unpackTypes_87, c_Run_unpackTypes_88, c_Run_unpackTypes_89, c_Run_unpackTypes_90, c_Run_unpackTypes_91, c_Run_unpackTypes_92, c_Run_unpackTypes_93, c_Run_unpackTypes_94, c_Run_unpackTypes_95, c_Run_unpackTypes_96, c_Run_unpackTypes_97, c_Run_unpackTypes_98, c_Run_unpackTypes_99, c_Run_unpackTypes_100, c_Run_unpackTypes_101, c_Run_unpackTypes_102, c_Run_unpackTypes_103, c_Run_unpackTypes_104, c_Run_unpackTypes_105, c_Run_unpackTypes_106, c_Run_unpackTypes_107, c_Run_unpackTypes_108, c_Run_unpackTypes_109, c_Run_unpackTypes_110, c_Run_unpackTypes_111, c_Run_unpackTypes_112, c_Run_unpackTypes_113, c_Run_unpackTypes_114, c_Run_unpackTypes_115, c_Run_unpackTypes_116, c_Run_unpackTypes_117, c_Run_unpackTypes_118, c_Run_unpackTypes_119, c_Run_unpackTypes_120, c_Run_unpackTypes_121, sx_aaload, sx_aload_n, sx_bastore, sx_bipush, sx_dup2_ir, sx_getfield, sx_goto, sx_iadd, sx_iaload, sx_iand, sx_iastore, sx_iconst, sx_ifCond_eq, sx_if_icmp_lt, sx_if_icmp_ne, sx_iinc, sx_iload, sx_iload_n, sx_ishr, sx_istore, sx_isub, sx_l2i, sx_land, sx_ldc2_w, sx_lload, sx_lload_n, sx_lshr, sx_lstore, sx_return, am_W_s, am_W_0, am_mm_some, List.mem_cons, or_false, false_or, or_self, or_true, true_or, reduceIte, if_false, if_true, am_o_some, am_o_none, am_o_bad, am_o_good, am_ldi_hit, am_ldi_miss, am_lda_hit, am_lda_miss, am_ldl_hit, am_ldl_miss, am_inc_eq, am_inc_hit, am_inc_miss, am_ob_hit, am_fd_0, am_fd_s, am_ai_hit, am_ab_3, am_al_hit, am_aq_4, am_al0_hit, am_put_1, am_put_2, am_put_put, am_up_hit, am_up_miss, am_s1_eq, am_s2_eq, am_fl_nil, am_fl_hit, am_fl_int, am_fl_ref, am_fl_long, am_fl_longx, am_fl2_nil, am_fl2_hit, am_fl2_hit1, am_fl2_int, am_fl2_ref, am_fl2_long, List.not_mem_nil, not_false_eq_true, ne_eq, Nat.reduceAdd, Nat.reduceEqDiff, Nat.zero_add, Nat.add_left_cancel_iff, List.set_cons_zero, List.set_cons_succ, List.length_cons, List.length_nil, Nat.reduceLT, am_ft_i, am_ft_r, am_ft_z, and_true, true_and, Option.toList_some, Option.toList_none, List.cons_append, List.nil_append, List.drop_succ_cons, List.drop_zero, iI_c, iI_b, iI_s, iI_n, iI_add, iI_sub, iI_mul, iI_neg, iI_nle, iI_ix, iI_eq0, iI_eq1, iI_lt0, iI_0lt, iI_le0, iI_0le, iI_eq, iI_lt, iI_le, iI_upd, iI_updZ, Int.reduceEq, Int.reduceLT, Int.reduceLE, Int.reduceNeg, Int.reduceNe, ru_fs_len, ru_f0, ru_f1, ru_f2, ru_f3, ru_f4, ru_f5, ru_f6, ru_f7, ru_f8, ru_f9, ru_f10, ru_f11, ru_f12, ru_f13, ru_s0, ru_t2, ru_l2, ru_t3, ru_l3, ru_t4, ru_l4, ru_t5, ru_l5, ru_t10, ru_l10, ru_t11, ru_l11, ru_t12, ru_l12, ru_t13, ru_l13, ru_t14, ru_l14, ru_t15, ru_l15, lo_fs_len, lo_f0, lo_f1, lo_s0, ty_fs_len, ty_f0, ty_f1, ty_f2, ty_f3, ty_f4, ty_f5, ty_f6, ty_f7, ty_f8, ty_f9, ty_s0, ty_t1, ty_l1, ty_t2, ty_l2, ty_t3, ty_l3, ty_t11, ty_l11, ty_t12, ty_l12, ty_t13, ty_l13, ty_t14, ty_l14, bo_fs_len, bo_f0, bo_f1, bo_f2, bo_f3, bo_f4, bo_f5, bo_f6, bo_f7, bo_f8, bo_s0, rw_hit]
  rw [show f + 3 - 1 = f + 2 by omega]
  refine (ut_one d h p q w n m X S H Y f (f + 2) (t3 Y f) ⟨by omega, by omega⟩ hf (hy _ (by omega)) (hy1 _ (by omega)) (dep D X S hp (by omega)) zr z0 _ (fun h1 X1 S1 w1 u1 => ?_)).lo (al_le_of (by simp) (by simp))
  have q1 := pf_step hds (fun u z => (hD u z).1) (by omega) (fun z => by have := (hD _ z).2; omega) hp u1
  rw [show f + 2 - 1 = f + 1 by omega]
  refine ut_one d h1 p q w n m X1 S1 w1.1 Y f (f + 1) (t3 Y f / 2097152) ⟨by omega, by omega⟩ hf (hy _ (by omega)) (hy1 _ (by omega)) (dep _ X1 S1 q1 (by simp only [List.length_cons]; omega)) (by omega) z1 _ (fun h2 X2 S2 w2 u2 => ?_)
  have q2 := pf_step hds (fun u z => by
    rcases List.mem_cons.mp z with z | z
    · omega
    · exact (hD u z).1) (by omega) (fun z => by
    rcases List.mem_cons.mp z with z | z
    · omega
    · have := (hD _ z).2
      omega) q1 u2
  rw [show f + 1 - 1 = f by omega]
  refine ut_one d h2 p q w n m X2 S2 w2.1 Y f f (t3 Y f / 2097152 / 2097152) ⟨by omega, by omega⟩ hf (hy _ (by omega)) (hy1 _ (by omega)) (dep _ X2 S2 q2 (by simp only [List.length_cons]; omega)) (by omega) z2 _ (fun h3 X3 S3 w3 u3 => ?_)
  have q3 := pf_step hds (fun u z => by
    rcases List.mem_cons.mp z with z | z
    · omega
    · rcases List.mem_cons.mp z with z | z
      · omega
      · exact (hD u z).1) (by omega) (fun z => by
    rcases List.mem_cons.mp z with z | z
    · omega
    · rcases List.mem_cons.mp z with z | z
      · omega
      · have := (hD _ z).2
        omega) q2 u3
  have c : f - 1 < f := by omega
  generalize t3 Y f / 2097152 / 2097152 / 2097152 = zz
  refine am_go_of 10 [8] _ c_Run_unpackTypes_8 ?_
  simp (maxSteps := 2000000) (disch := omega) only [c_Run_unpackTypes_0, c_Run_unpackTypes_1, c_Run_unpackTypes_2, c_Run_unpackTypes_3, c_Run_unpackTypes_4, c_Run_unpackTypes_5, c_Run_unpackTypes_6, c_Run_unpackTypes_7, c_Run_unpackTypes_8, c_Run_unpackTypes_9, c_Run_unpackTypes_10, c_Run_unpackTypes_11, c_Run_unpackTypes_12, c_Run_unpackTypes_13, c_Run_unpackTypes_14, c_Run_unpackTypes_15, c_Run_unpackTypes_16, c_Run_unpackTypes_17, c_Run_unpackTypes_18, c_Run_unpackTypes_19, c_Run_unpackTypes_20, c_Run_unpackTypes_21, c_Run_unpackTypes_22, c_Run_unpackTypes_23, c_Run_unpackTypes_24, c_Run_unpackTypes_25, c_Run_unpackTypes_26, c_Run_unpackTypes_27, c_Run_unpackTypes_28, c_Run_unpackTypes_29, c_Run_unpackTypes_30, c_Run_unpackTypes_31, c_Run_unpackTypes_32, c_Run_unpackTypes_33, c_Run_unpackTypes_34, c_Run_unpackTypes_35, c_Run_unpackTypes_36, c_Run_unpackTypes_37, c_Run_unpackTypes_38, c_Run_unpackTypes_39, c_Run_unpackTypes_40, c_Run_unpackTypes_41, c_Run_unpackTypes_42, c_Run_unpackTypes_43, c_Run_unpackTypes_44, c_Run_unpackTypes_45, c_Run_unpackTypes_46, c_Run_unpackTypes_47, c_Run_unpackTypes_48, c_Run_unpackTypes_49, c_Run_unpackTypes_50, c_Run_unpackTypes_51, c_Run_unpackTypes_52, c_Run_unpackTypes_53, c_Run_unpackTypes_54, c_Run_unpackTypes_55, c_Run_unpackTypes_56, c_Run_unpackTypes_57, c_Run_unpackTypes_58, c_Run_unpackTypes_59, c_Run_unpackTypes_60, c_Run_unpackTypes_61, c_Run_unpackTypes_62, c_Run_unpackTypes_63, c_Run_unpackTypes_64, c_Run_unpackTypes_65, c_Run_unpackTypes_66, c_Run_unpackTypes_67, c_Run_unpackTypes_68, c_Run_unpackTypes_69, c_Run_unpackTypes_70, c_Run_unpackTypes_71, c_Run_unpackTypes_72, c_Run_unpackTypes_73, c_Run_unpackTypes_74, c_Run_unpackTypes_75, c_Run_unpackTypes_76, c_Run_unpackTypes_77, c_Run_unpackTypes_78, c_Run_unpackTypes_79, c_Run_unpackTypes_80, c_Run_unpackTypes_81, c_Run_unpackTypes_82, c_Run_unpackTypes_83, c_Run_unpackTypes_84, c_Run_unpackTypes_85, c_Run_unpackTypes_86, c_Run_unpackTypes_87, c_Run_unpackTypes_88, c_Run_unpackTypes_89, c_Run_unpackTypes_90, c_Run_unpackTypes_91, c_Run_unpackTypes_92, c_Run_unpackTypes_93, c_Run_unpackTypes_94, c_Run_unpackTypes_95, c_Run_unpackTypes_96, c_Run_unpackTypes_97, c_Run_unpackTypes_98, c_Run_unpackTypes_99, c_Run_unpackTypes_100, c_Run_unpackTypes_101, c_Run_unpackTypes_102, c_Run_unpackTypes_103, c_Run_unpackTypes_104, c_Run_unpackTypes_105, c_Run_unpackTypes_106, c_Run_unpackTypes_107, c_Run_unpackTypes_108, c_Run_unpackTypes_109, c_Run_unpackTypes_110, c_Run_unpackTypes_111, c_Run_unpackTypes_112, c_Run_unpackTypes_113, c_Run_unpackTypes_114, c_Run_unpackTypes_115, c_Run_unpackTypes_116, c_Run_unpackTypes_117, c_Run_unpackTypes_118, c_Run_unpackTypes_119, c_Run_unpackTypes_120, c_Run_unpackTypes_121, sx_aaload, sx_aload_n, sx_bastore, sx_bipush, sx_dup2_ir, sx_getfield, sx_goto, sx_iadd, sx_iaload, sx_iand, sx_iastore, sx_iconst, sx_ifCond_eq, sx_if_icmp_lt, sx_if_icmp_ne, sx_iinc, sx_iload, sx_iload_n, sx_ishr, sx_istore, sx_isub, sx_l2i, sx_land, sx_ldc2_w, sx_lload, sx_lload_n, sx_lshr, sx_lstore, sx_return, am_W_s, am_W_0, am_mm_some, List.mem_cons, or_false, false_or, or_self, or_true, true_or, reduceIte, if_false, if_true, am_o_some, am_o_none, am_o_bad, am_o_good, am_ldi_hit, am_ldi_miss, am_lda_hit, am_lda_miss, am_ldl_hit, am_ldl_miss, am_inc_eq, am_inc_hit, am_inc_miss, am_ob_hit, am_fd_0, am_fd_s, am_ai_hit, am_ab_3, am_al_hit, am_aq_4, am_al0_hit, am_put_1, am_put_2, am_put_put, am_up_hit, am_up_miss, am_s1_eq, am_s2_eq, am_fl_nil, am_fl_hit, am_fl_int, am_fl_ref, am_fl_long, am_fl_longx, am_fl2_nil, am_fl2_hit, am_fl2_hit1, am_fl2_int, am_fl2_ref, am_fl2_long, List.not_mem_nil, not_false_eq_true, ne_eq, Nat.reduceAdd, Nat.reduceEqDiff, Nat.zero_add, Nat.add_left_cancel_iff, List.set_cons_zero, List.set_cons_succ, List.length_cons, List.length_nil, Nat.reduceLT, am_ft_i, am_ft_r, am_ft_z, and_true, true_and, Option.toList_some, Option.toList_none, List.cons_append, List.nil_append, List.drop_succ_cons, List.drop_zero, iI_c, iI_b, iI_s, iI_n, iI_add, iI_sub, iI_mul, iI_neg, iI_nle, iI_ix, iI_eq0, iI_eq1, iI_lt0, iI_0lt, iI_le0, iI_0le, iI_eq, iI_lt, iI_le, iI_upd, iI_updZ, Int.reduceEq, Int.reduceLT, Int.reduceLE, Int.reduceNeg, Int.reduceNe, c, ru_fs_len, ru_f0, ru_f1, ru_f2, ru_f3, ru_f4, ru_f5, ru_f6, ru_f7, ru_f8, ru_f9, ru_f10, ru_f11, ru_f12, ru_f13, ru_s0, ru_t2, ru_l2, ru_t3, ru_l3, ru_t4, ru_l4, ru_t5, ru_l5, ru_t10, ru_l10, ru_t11, ru_l11, ru_t12, ru_l12, ru_t13, ru_l13, ru_t14, ru_l14, ru_t15, ru_l15, lo_fs_len, lo_f0, lo_f1, lo_s0, ty_fs_len, ty_f0, ty_f1, ty_f2, ty_f3, ty_f4, ty_f5, ty_f6, ty_f7, ty_f8, ty_f9, ty_s0, ty_t1, ty_l1, ty_t2, ty_l2, ty_t3, ty_l3, ty_t11, ty_l11, ty_t12, ty_l12, ty_t13, ty_l13, ty_t14, ty_l14, bo_fs_len, bo_f0, bo_f1, bo_f2, bo_f3, bo_f4, bo_f5, bo_f6, bo_f7, bo_f8, bo_s0, rw_hit]
  exact ⟨X3, S3, (w1.tr w2).tr w3, q3⟩
