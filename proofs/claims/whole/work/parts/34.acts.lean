theorem mt_Md_acts : am_MT[137]? = some m_Md_acts := rfl
theorem c_Md_acts_0 : c_Md_acts[0]? = some (0, 1, .aload_n 0, 0, 0, 0, 0, 0, []) := Eq.trans rfl rfl
theorem c_Md_acts_1 : c_Md_acts[1]? = some (1, 3, .getfield 35, 8, 10, 0, 0, 767, []) := Eq.trans rfl rfl
theorem c_Md_acts_2 : c_Md_acts[2]? = some (4, 1, .iconst 5, 0, 0, 0, 0, 0, []) := Eq.trans rfl rfl
theorem c_Md_acts_3 : c_Md_acts[3]? = some (5, 1, .iload_n 3, 3, 0, 0, 0, 0, []) := Eq.trans rfl rfl
theorem c_Md_acts_4 : c_Md_acts[4]? = some (6, 1, .imul, 0, 0, 0, 0, 0, []) := Eq.trans rfl rfl
theorem c_Md_acts_5 : c_Md_acts[5]? = some (7, 2, .iload 4, 4, 0, 0, 0, 0, []) := Eq.trans rfl rfl
theorem c_Md_acts_6 : c_Md_acts[6]? = some (9, 1, .iadd, 0, 0, 0, 0, 0, []) := Eq.trans rfl rfl
theorem c_Md_acts_7 : c_Md_acts[7]? = some (10, 1, .iaload, 0, 0, 0, 0, 0, []) := Eq.trans rfl rfl
theorem c_Md_acts_8 : c_Md_acts[8]? = some (11, 2, .istore 5, 5, 0, 0, 0, 0, []) := Eq.trans rfl rfl
theorem c_Md_acts_9 : c_Md_acts[9]? = some (13, 1, .aload_n 0, 0, 0, 0, 0, 0, []) := Eq.trans rfl rfl
theorem c_Md_acts_10 : c_Md_acts[10]? = some (14, 1, .iload_n 3, 3, 0, 0, 0, 0, []) := Eq.trans rfl rfl
theorem c_Md_acts_11 : c_Md_acts[11]? = some (15, 2, .iload 4, 4, 0, 0, 0, 0, []) := Eq.trans rfl rfl
theorem c_Md_acts_12 : c_Md_acts[12]? = some (17, 3, .invokevirtual 158, 127, 3, 8, 0, 948, []) := Eq.trans rfl rfl
theorem c_Md_acts_13 : c_Md_acts[13]? = some (20, 2, .istore 6, 6, 0, 0, 0, 0, []) := Eq.trans rfl rfl
theorem c_Md_acts_14 : c_Md_acts[14]? = some (22, 2, .iload 6, 6, 0, 0, 0, 0, []) := Eq.trans rfl rfl
theorem c_Md_acts_15 : c_Md_acts[15]? = some (24, 2, .bipush (-5), 0, 0, 0, 0, 0, []) := Eq.trans rfl rfl
theorem c_Md_acts_16 : c_Md_acts[16]? = some (26, 3, .if_icmp .ne 13, 23, 0, 0, 0, 0, []) := Eq.trans rfl rfl
theorem c_Md_acts_17 : c_Md_acts[17]? = some (29, 1, .aload_n 0, 0, 0, 0, 0, 0, []) := Eq.trans rfl rfl
theorem c_Md_acts_18 : c_Md_acts[18]? = some (30, 1, .iload_n 1, 1, 0, 0, 0, 0, []) := Eq.trans rfl rfl
theorem c_Md_acts_19 : c_Md_acts[19]? = some (31, 1, .iconst 5, 0, 0, 0, 0, 0, []) := Eq.trans rfl rfl
theorem c_Md_acts_20 : c_Md_acts[20]? = some (32, 1, .iconst 0, 0, 0, 0, 0, 0, []) := Eq.trans rfl rfl
theorem c_Md_acts_21 : c_Md_acts[21]? = some (33, 3, .invokevirtual 184, 133, 4, 8, 0, 972, []) := Eq.trans rfl rfl
theorem c_Md_acts_22 : c_Md_acts[22]? = some (36, 3, .goto 243, 164, 0, 0, 0, 0, []) := Eq.trans rfl rfl
theorem c_Md_acts_23 : c_Md_acts[23]? = some (39, 2, .iload 5, 5, 0, 0, 0, 0, []) := Eq.trans rfl rfl
theorem c_Md_acts_24 : c_Md_acts[24]? = some (41, 1, .iconst 4, 0, 0, 0, 0, 0, []) := Eq.trans rfl rfl
theorem c_Md_acts_25 : c_Md_acts[25]? = some (42, 3, .if_icmp .ne 23, 39, 0, 0, 0, 0, []) := Eq.trans rfl rfl
theorem c_Md_acts_26 : c_Md_acts[26]? = some (45, 1, .aload_n 0, 0, 0, 0, 0, 0, []) := Eq.trans rfl rfl
theorem c_Md_acts_27 : c_Md_acts[27]? = some (46, 1, .iload_n 1, 1, 0, 0, 0, 0, []) := Eq.trans rfl rfl
theorem c_Md_acts_28 : c_Md_acts[28]? = some (47, 1, .aload_n 0, 0, 0, 0, 0, 0, []) := Eq.trans rfl rfl
theorem c_Md_acts_29 : c_Md_acts[29]? = some (48, 3, .getfield 38, 8, 11, 0, 0, 768, []) := Eq.trans rfl rfl
theorem c_Md_acts_30 : c_Md_acts[30]? = some (51, 1, .iconst 5, 0, 0, 0, 0, 0, []) := Eq.trans rfl rfl
theorem c_Md_acts_31 : c_Md_acts[31]? = some (52, 1, .iload_n 3, 3, 0, 0, 0, 0, []) := Eq.trans rfl rfl
theorem c_Md_acts_32 : c_Md_acts[32]? = some (53, 1, .imul, 0, 0, 0, 0, 0, []) := Eq.trans rfl rfl
theorem c_Md_acts_33 : c_Md_acts[33]? = some (54, 2, .iload 4, 4, 0, 0, 0, 0, []) := Eq.trans rfl rfl
theorem c_Md_acts_34 : c_Md_acts[34]? = some (56, 1, .iadd, 0, 0, 0, 0, 0, []) := Eq.trans rfl rfl
theorem c_Md_acts_35 : c_Md_acts[35]? = some (57, 1, .iaload, 0, 0, 0, 0, 0, []) := Eq.trans rfl rfl
theorem c_Md_acts_36 : c_Md_acts[36]? = some (58, 1, .iconst 0, 0, 0, 0, 0, 0, []) := Eq.trans rfl rfl
theorem c_Md_acts_37 : c_Md_acts[37]? = some (59, 3, .invokevirtual 184, 133, 4, 8, 0, 972, []) := Eq.trans rfl rfl
theorem c_Md_acts_38 : c_Md_acts[38]? = some (62, 3, .goto 217, 164, 0, 0, 0, 0, []) := Eq.trans rfl rfl
theorem c_Md_acts_39 : c_Md_acts[39]? = some (65, 2, .iload 6, 6, 0, 0, 0, 0, []) := Eq.trans rfl rfl
theorem c_Md_acts_40 : c_Md_acts[40]? = some (67, 1, .iconst (-1), 0, 0, 0, 0, 0, []) := Eq.trans rfl rfl
theorem c_Md_acts_41 : c_Md_acts[41]? = some (68, 3, .if_icmp .eq 25, 54, 0, 0, 0, 0, []) := Eq.trans rfl rfl
theorem c_Md_acts_42 : c_Md_acts[42]? = some (71, 1, .aload_n 0, 0, 0, 0, 0, 0, []) := Eq.trans rfl rfl
theorem c_Md_acts_43 : c_Md_acts[43]? = some (72, 3, .getfield 47, 8, 14, 0, 0, 771, []) := Eq.trans rfl rfl
theorem c_Md_acts_44 : c_Md_acts[44]? = some (75, 1, .iconst 0, 0, 0, 0, 0, 0, []) := Eq.trans rfl rfl
theorem c_Md_acts_45 : c_Md_acts[45]? = some (76, 2, .iload 6, 6, 0, 0, 0, 0, []) := Eq.trans rfl rfl
theorem c_Md_acts_46 : c_Md_acts[46]? = some (78, 1, .iadd, 0, 0, 0, 0, 0, []) := Eq.trans rfl rfl
theorem c_Md_acts_47 : c_Md_acts[47]? = some (79, 1, .iaload, 0, 0, 0, 0, 0, []) := Eq.trans rfl rfl
theorem c_Md_acts_48 : c_Md_acts[48]? = some (80, 3, .ifCond .ne 13, 54, 0, 0, 0, 0, []) := Eq.trans rfl rfl
theorem c_Md_acts_49 : c_Md_acts[49]? = some (83, 1, .aload_n 0, 0, 0, 0, 0, 0, []) := Eq.trans rfl rfl
theorem c_Md_acts_50 : c_Md_acts[50]? = some (84, 1, .iload_n 1, 1, 0, 0, 0, 0, []) := Eq.trans rfl rfl
theorem c_Md_acts_51 : c_Md_acts[51]? = some (85, 2, .iload 6, 6, 0, 0, 0, 0, []) := Eq.trans rfl rfl
theorem c_Md_acts_52 : c_Md_acts[52]? = some (87, 3, .invokevirtual 181, 131, 3, 8, 0, 964, []) := Eq.trans rfl rfl
theorem c_Md_acts_53 : c_Md_acts[53]? = some (90, 3, .goto 189, 164, 0, 0, 0, 0, []) := Eq.trans rfl rfl
theorem c_Md_acts_54 : c_Md_acts[54]? = some (93, 2, .iload 6, 6, 0, 0, 0, 0, []) := Eq.trans rfl rfl
theorem c_Md_acts_55 : c_Md_acts[55]? = some (95, 1, .iconst (-1), 0, 0, 0, 0, 0, []) := Eq.trans rfl rfl
theorem c_Md_acts_56 : c_Md_acts[56]? = some (96, 3, .if_icmp .eq 26, 71, 0, 0, 0, 0, []) := Eq.trans rfl rfl
theorem c_Md_acts_57 : c_Md_acts[57]? = some (99, 1, .aload_n 0, 0, 0, 0, 0, 0, []) := Eq.trans rfl rfl
theorem c_Md_acts_58 : c_Md_acts[58]? = some (100, 3, .getfield 47, 8, 14, 0, 0, 771, []) := Eq.trans rfl rfl
theorem c_Md_acts_59 : c_Md_acts[59]? = some (103, 1, .iconst 0, 0, 0, 0, 0, 0, []) := Eq.trans rfl rfl
theorem c_Md_acts_60 : c_Md_acts[60]? = some (104, 2, .iload 6, 6, 0, 0, 0, 0, []) := Eq.trans rfl rfl
theorem c_Md_acts_61 : c_Md_acts[61]? = some (106, 1, .iadd, 0, 0, 0, 0, 0, []) := Eq.trans rfl rfl
theorem c_Md_acts_62 : c_Md_acts[62]? = some (107, 1, .iaload, 0, 0, 0, 0, 0, []) := Eq.trans rfl rfl
theorem c_Md_acts_63 : c_Md_acts[63]? = some (108, 1, .iconst 3, 0, 0, 0, 0, 0, []) := Eq.trans rfl rfl
theorem c_Md_acts_64 : c_Md_acts[64]? = some (109, 3, .if_icmp .ne 13, 71, 0, 0, 0, 0, []) := Eq.trans rfl rfl
theorem c_Md_acts_65 : c_Md_acts[65]? = some (112, 1, .aload_n 0, 0, 0, 0, 0, 0, []) := Eq.trans rfl rfl
theorem c_Md_acts_66 : c_Md_acts[66]? = some (113, 1, .iload_n 1, 1, 0, 0, 0, 0, []) := Eq.trans rfl rfl
theorem c_Md_acts_67 : c_Md_acts[67]? = some (114, 1, .iconst 4, 0, 0, 0, 0, 0, []) := Eq.trans rfl rfl
theorem c_Md_acts_68 : c_Md_acts[68]? = some (115, 1, .iconst 0, 0, 0, 0, 0, 0, []) := Eq.trans rfl rfl
theorem c_Md_acts_69 : c_Md_acts[69]? = some (116, 3, .invokevirtual 184, 133, 4, 8, 0, 972, []) := Eq.trans rfl rfl
theorem c_Md_acts_70 : c_Md_acts[70]? = some (119, 3, .goto 160, 164, 0, 0, 0, 0, []) := Eq.trans rfl rfl
theorem c_Md_acts_71 : c_Md_acts[71]? = some (122, 1, .iload_n 2, 2, 0, 0, 0, 0, []) := Eq.trans rfl rfl
theorem c_Md_acts_72 : c_Md_acts[72]? = some (123, 1, .iconst (-1), 0, 0, 0, 0, 0, []) := Eq.trans rfl rfl
theorem c_Md_acts_73 : c_Md_acts[73]? = some (124, 3, .if_icmp .ne 10, 78, 0, 0, 0, 0, []) := Eq.trans rfl rfl
theorem c_Md_acts_74 : c_Md_acts[74]? = some (127, 2, .bipush 42, 0, 0, 0, 0, 0, []) := Eq.trans rfl rfl
theorem c_Md_acts_75 : c_Md_acts[75]? = some (129, 1, .iload_n 1, 1, 0, 0, 0, 0, []) := Eq.trans rfl rfl
theorem c_Md_acts_76 : c_Md_acts[76]? = some (130, 1, .iadd, 0, 0, 0, 0, 0, []) := Eq.trans rfl rfl
theorem c_Md_acts_77 : c_Md_acts[77]? = some (131, 3, .goto 7, 81, 0, 0, 0, 0, []) := Eq.trans rfl rfl
theorem c_Md_acts_78 : c_Md_acts[78]? = some (134, 2, .bipush 30, 0, 0, 0, 0, 0, []) := Eq.trans rfl rfl
theorem c_Md_acts_79 : c_Md_acts[79]? = some (136, 1, .iload_n 2, 2, 0, 0, 0, 0, []) := Eq.trans rfl rfl
theorem c_Md_acts_80 : c_Md_acts[80]? = some (137, 1, .iadd, 0, 0, 0, 0, 0, []) := Eq.trans rfl rfl
theorem c_Md_acts_81 : c_Md_acts[81]? = some (138, 2, .istore 7, 7, 0, 0, 0, 0, []) := Eq.trans rfl rfl
theorem c_Md_acts_82 : c_Md_acts[82]? = some (140, 1, .iload_n 2, 2, 0, 0, 0, 0, []) := Eq.trans rfl rfl
theorem c_Md_acts_83 : c_Md_acts[83]? = some (141, 1, .iconst (-1), 0, 0, 0, 0, 0, []) := Eq.trans rfl rfl
theorem c_Md_acts_84 : c_Md_acts[84]? = some (142, 3, .if_icmp .ne 10, 89, 0, 0, 0, 0, []) := Eq.trans rfl rfl
theorem c_Md_acts_85 : c_Md_acts[85]? = some (145, 2, .bipush 39, 0, 0, 0, 0, 0, []) := Eq.trans rfl rfl
theorem c_Md_acts_86 : c_Md_acts[86]? = some (147, 1, .iload_n 1, 1, 0, 0, 0, 0, []) := Eq.trans rfl rfl
theorem c_Md_acts_87 : c_Md_acts[87]? = some (148, 1, .iadd, 0, 0, 0, 0, 0, []) := Eq.trans rfl rfl
theorem c_Md_acts_88 : c_Md_acts[88]? = some (149, 3, .goto 7, 92, 0, 0, 0, 0, []) := Eq.trans rfl rfl
theorem c_Md_acts_89 : c_Md_acts[89]? = some (152, 2, .bipush 24, 0, 0, 0, 0, 0, []) := Eq.trans rfl rfl
theorem c_Md_acts_90 : c_Md_acts[90]? = some (154, 1, .iload_n 2, 2, 0, 0, 0, 0, []) := Eq.trans rfl rfl
theorem c_Md_acts_91 : c_Md_acts[91]? = some (155, 1, .iadd, 0, 0, 0, 0, 0, []) := Eq.trans rfl rfl
theorem c_Md_acts_92 : c_Md_acts[92]? = some (156, 2, .istore 8, 8, 0, 0, 0, 0, []) := Eq.trans rfl rfl
theorem c_Md_acts_93 : c_Md_acts[93]? = some (158, 2, .iload 5, 5, 0, 0, 0, 0, []) := Eq.trans rfl rfl
theorem c_Md_acts_94 : c_Md_acts[94]? = some (160, 1, .iconst 5, 0, 0, 0, 0, 0, []) := Eq.trans rfl rfl
theorem c_Md_acts_95 : c_Md_acts[95]? = some (161, 3, .if_icmp .ne 28, 111, 0, 0, 0, 0, []) := Eq.trans rfl rfl
theorem c_Md_acts_96 : c_Md_acts[96]? = some (164, 1, .aload_n 0, 0, 0, 0, 0, 0, []) := Eq.trans rfl rfl
theorem c_Md_acts_97 : c_Md_acts[97]? = some (165, 3, .getfield 47, 8, 14, 0, 0, 771, []) := Eq.trans rfl rfl
theorem c_Md_acts_98 : c_Md_acts[98]? = some (168, 2, .iload 7, 7, 0, 0, 0, 0, []) := Eq.trans rfl rfl
theorem c_Md_acts_99 : c_Md_acts[99]? = some (170, 1, .iaload, 0, 0, 0, 0, 0, []) := Eq.trans rfl rfl
theorem c_Md_acts_100 : c_Md_acts[100]? = some (171, 1, .aload_n 0, 0, 0, 0, 0, 0, []) := Eq.trans rfl rfl
theorem c_Md_acts_101 : c_Md_acts[101]? = some (172, 3, .getfield 41, 8, 12, 0, 0, 769, []) := Eq.trans rfl rfl
theorem c_Md_acts_102 : c_Md_acts[102]? = some (175, 1, .iconst 5, 0, 0, 0, 0, 0, []) := Eq.trans rfl rfl
theorem c_Md_acts_103 : c_Md_acts[103]? = some (176, 1, .iload_n 3, 3, 0, 0, 0, 0, []) := Eq.trans rfl rfl
theorem c_Md_acts_104 : c_Md_acts[104]? = some (177, 1, .imul, 0, 0, 0, 0, 0, []) := Eq.trans rfl rfl
theorem c_Md_acts_105 : c_Md_acts[105]? = some (178, 2, .iload 4, 4, 0, 0, 0, 0, []) := Eq.trans rfl rfl
theorem c_Md_acts_106 : c_Md_acts[106]? = some (180, 1, .iadd, 0, 0, 0, 0, 0, []) := Eq.trans rfl rfl
theorem c_Md_acts_107 : c_Md_acts[107]? = some (181, 1, .iaload, 0, 0, 0, 0, 0, []) := Eq.trans rfl rfl
theorem c_Md_acts_108 : c_Md_acts[108]? = some (182, 3, .if_icmp .ne 7, 111, 0, 0, 0, 0, []) := Eq.trans rfl rfl
theorem c_Md_acts_109 : c_Md_acts[109]? = some (185, 1, .iconst 1, 0, 0, 0, 0, 0, []) := Eq.trans rfl rfl
theorem c_Md_acts_110 : c_Md_acts[110]? = some (186, 3, .goto 4, 112, 0, 0, 0, 0, []) := Eq.trans rfl rfl
theorem c_Md_acts_111 : c_Md_acts[111]? = some (189, 1, .iconst 0, 0, 0, 0, 0, 0, []) := Eq.trans rfl rfl
theorem c_Md_acts_112 : c_Md_acts[112]? = some (190, 2, .istore 9, 9, 0, 0, 0, 0, []) := Eq.trans rfl rfl
theorem c_Md_acts_113 : c_Md_acts[113]? = some (192, 2, .iload 5, 5, 0, 0, 0, 0, []) := Eq.trans rfl rfl
theorem c_Md_acts_114 : c_Md_acts[114]? = some (194, 3, .ifCond .ne 33, 133, 0, 0, 0, 0, []) := Eq.trans rfl rfl
theorem c_Md_acts_115 : c_Md_acts[115]? = some (197, 1, .aload_n 0, 0, 0, 0, 0, 0, []) := Eq.trans rfl rfl
theorem c_Md_acts_116 : c_Md_acts[116]? = some (198, 3, .getfield 47, 8, 14, 0, 0, 771, []) := Eq.trans rfl rfl
theorem c_Md_acts_117 : c_Md_acts[117]? = some (201, 2, .iload 7, 7, 0, 0, 0, 0, []) := Eq.trans rfl rfl
theorem c_Md_acts_118 : c_Md_acts[118]? = some (203, 1, .aload_n 0, 0, 0, 0, 0, 0, []) := Eq.trans rfl rfl
theorem c_Md_acts_119 : c_Md_acts[119]? = some (204, 3, .getfield 47, 8, 14, 0, 0, 771, []) := Eq.trans rfl rfl
theorem c_Md_acts_120 : c_Md_acts[120]? = some (207, 2, .bipush 12, 0, 0, 0, 0, 0, []) := Eq.trans rfl rfl
theorem c_Md_acts_121 : c_Md_acts[121]? = some (209, 2, .iload 6, 6, 0, 0, 0, 0, []) := Eq.trans rfl rfl
theorem c_Md_acts_122 : c_Md_acts[122]? = some (211, 1, .iadd, 0, 0, 0, 0, 0, []) := Eq.trans rfl rfl
theorem c_Md_acts_123 : c_Md_acts[123]? = some (212, 1, .iaload, 0, 0, 0, 0, 0, []) := Eq.trans rfl rfl
theorem c_Md_acts_124 : c_Md_acts[124]? = some (213, 1, .iastore, 0, 0, 0, 0, 0, []) := Eq.trans rfl rfl
theorem c_Md_acts_125 : c_Md_acts[125]? = some (214, 1, .aload_n 0, 0, 0, 0, 0, 0, []) := Eq.trans rfl rfl
theorem c_Md_acts_126 : c_Md_acts[126]? = some (215, 1, .iload_n 1, 1, 0, 0, 0, 0, []) := Eq.trans rfl rfl
theorem c_Md_acts_127 : c_Md_acts[127]? = some (216, 1, .iconst 3, 0, 0, 0, 0, 0, []) := Eq.trans rfl rfl
theorem c_Md_acts_128 : c_Md_acts[128]? = some (217, 1, .aload_n 0, 0, 0, 0, 0, 0, []) := Eq.trans rfl rfl
theorem c_Md_acts_129 : c_Md_acts[129]? = some (218, 3, .getfield 47, 8, 14, 0, 0, 771, []) := Eq.trans rfl rfl
theorem c_Md_acts_130 : c_Md_acts[130]? = some (221, 2, .iload 7, 7, 0, 0, 0, 0, []) := Eq.trans rfl rfl
theorem c_Md_acts_131 : c_Md_acts[131]? = some (223, 1, .iaload, 0, 0, 0, 0, 0, []) := Eq.trans rfl rfl
theorem c_Md_acts_132 : c_Md_acts[132]? = some (224, 3, .invokevirtual 167, 132, 4, 8, 0, 968, []) := Eq.trans rfl rfl
theorem c_Md_acts_133 : c_Md_acts[133]? = some (227, 2, .iload 5, 5, 0, 0, 0, 0, []) := Eq.trans rfl rfl
theorem c_Md_acts_134 : c_Md_acts[134]? = some (229, 1, .iconst 1, 0, 0, 0, 0, 0, []) := Eq.trans rfl rfl
theorem c_Md_acts_135 : c_Md_acts[135]? = some (230, 3, .if_icmp .ne 24, 150, 0, 0, 0, 0, []) := Eq.trans rfl rfl
theorem c_Md_acts_136 : c_Md_acts[136]? = some (233, 1, .aload_n 0, 0, 0, 0, 0, 0, []) := Eq.trans rfl rfl
theorem c_Md_acts_137 : c_Md_acts[137]? = some (234, 3, .getfield 47, 8, 14, 0, 0, 771, []) := Eq.trans rfl rfl
theorem c_Md_acts_138 : c_Md_acts[138]? = some (237, 2, .bipush 12, 0, 0, 0, 0, 0, []) := Eq.trans rfl rfl
theorem c_Md_acts_139 : c_Md_acts[139]? = some (239, 2, .iload 6, 6, 0, 0, 0, 0, []) := Eq.trans rfl rfl
theorem c_Md_acts_140 : c_Md_acts[140]? = some (241, 1, .iadd, 0, 0, 0, 0, 0, []) := Eq.trans rfl rfl
theorem c_Md_acts_141 : c_Md_acts[141]? = some (242, 1, .aload_n 0, 0, 0, 0, 0, 0, []) := Eq.trans rfl rfl
theorem c_Md_acts_142 : c_Md_acts[142]? = some (243, 3, .getfield 41, 8, 12, 0, 0, 769, []) := Eq.trans rfl rfl
theorem c_Md_acts_143 : c_Md_acts[143]? = some (246, 1, .iconst 5, 0, 0, 0, 0, 0, []) := Eq.trans rfl rfl
theorem c_Md_acts_144 : c_Md_acts[144]? = some (247, 1, .iload_n 3, 3, 0, 0, 0, 0, []) := Eq.trans rfl rfl
theorem c_Md_acts_145 : c_Md_acts[145]? = some (248, 1, .imul, 0, 0, 0, 0, 0, []) := Eq.trans rfl rfl
theorem c_Md_acts_146 : c_Md_acts[146]? = some (249, 2, .iload 4, 4, 0, 0, 0, 0, []) := Eq.trans rfl rfl
theorem c_Md_acts_147 : c_Md_acts[147]? = some (251, 1, .iadd, 0, 0, 0, 0, 0, []) := Eq.trans rfl rfl
theorem c_Md_acts_148 : c_Md_acts[148]? = some (252, 1, .iaload, 0, 0, 0, 0, 0, []) := Eq.trans rfl rfl
theorem c_Md_acts_149 : c_Md_acts[149]? = some (253, 1, .iastore, 0, 0, 0, 0, 0, []) := Eq.trans rfl rfl
theorem c_Md_acts_150 : c_Md_acts[150]? = some (254, 1, .aload_n 0, 0, 0, 0, 0, 0, []) := Eq.trans rfl rfl
theorem c_Md_acts_151 : c_Md_acts[151]? = some (255, 3, .getfield 47, 8, 14, 0, 0, 771, []) := Eq.trans rfl rfl
theorem c_Md_acts_152 : c_Md_acts[152]? = some (258, 2, .iload 8, 8, 0, 0, 0, 0, []) := Eq.trans rfl rfl
theorem c_Md_acts_153 : c_Md_acts[153]? = some (260, 2, .iload 9, 9, 0, 0, 0, 0, []) := Eq.trans rfl rfl
theorem c_Md_acts_154 : c_Md_acts[154]? = some (262, 3, .ifCond .eq 12, 160, 0, 0, 0, 0, []) := Eq.trans rfl rfl
theorem c_Md_acts_155 : c_Md_acts[155]? = some (265, 1, .aload_n 0, 0, 0, 0, 0, 0, []) := Eq.trans rfl rfl
theorem c_Md_acts_156 : c_Md_acts[156]? = some (266, 3, .getfield 32, 8, 9, 0, 0, 766, []) := Eq.trans rfl rfl
theorem c_Md_acts_157 : c_Md_acts[157]? = some (269, 1, .iload_n 3, 3, 0, 0, 0, 0, []) := Eq.trans rfl rfl
theorem c_Md_acts_158 : c_Md_acts[158]? = some (270, 1, .iaload, 0, 0, 0, 0, 0, []) := Eq.trans rfl rfl
theorem c_Md_acts_159 : c_Md_acts[159]? = some (271, 3, .goto 7, 163, 0, 0, 0, 0, []) := Eq.trans rfl rfl
theorem c_Md_acts_160 : c_Md_acts[160]? = some (274, 2, .iload 4, 4, 0, 0, 0, 0, []) := Eq.trans rfl rfl
theorem c_Md_acts_161 : c_Md_acts[161]? = some (276, 1, .iconst 1, 0, 0, 0, 0, 0, []) := Eq.trans rfl rfl
theorem c_Md_acts_162 : c_Md_acts[162]? = some (277, 1, .iadd, 0, 0, 0, 0, 0, []) := Eq.trans rfl rfl
theorem c_Md_acts_163 : c_Md_acts[163]? = some (278, 1, .iastore, 0, 0, 0, 0, 0, []) := Eq.trans rfl rfl
theorem c_Md_acts_164 : c_Md_acts[164]? = some (279, 1, .return_, 0, 0, 0, 0, 0, []) := Eq.trans rfl rfl
/-- an ACTION is performed: the vector behind it, and its rows of the log; L the place of LATEST, P of how far the BODY is -/
def sp_pf (F : Nat → Int → Int) (s : Int → Int) (L P th x b k q : Int) : (Int → Int) × List (Int × Int × Int) :=
  if q = 0 then (vI (vI s L (s (12 + x))) P (k + 1), [(th, 3, s (12 + x))])
  else if q = 1 then (vI (vI s (12 + x) (F 11 (5 * b + k))) P (k + 1), [])
  else if q = 5 ∧ s L = F 11 (5 * b + k) then (vI s P (F 8 b), [])
  else (vI s P (k + 1), [])
theorem pf_0 (d : Nat) (hd : 1 ≤ d) (h : am_H) (o : Nat) (I : Nat → Int) (F : Nat → Int → Int) (H : md_at h o I F) (hlr : I 3 = 0 ∨ I 3 = 1 ∧ 0 ≤ I 4 ∧ I 4 < 300) (L P th x b k : Int) (hL : 0 ≤ L ∧ L < 66) (hP : 0 ≤ P ∧ P < 66) (hx : 0 ≤ x ∧ x ≤ 5) (hk : 0 ≤ k ∧ k < 5) :
    am_Go am_df am_MT d c_Md_acts (93, [(8, .int (iI P)), (7, .int (iI L)), (6, .int (iI x)), (5, .int (iI 0)), (4, .int (iI k)), (3, .int (iI b)), (0, .ref o), (1, .int (iI th))], [], h) (fun r0 h' => r0 = none ∧ md_to h o (sp_LI [(th, 3, F 13 (12 + x))] I) (sp_LF [(th, 3, F 13 (12 + x))] I (va_up F 13 (vI (vI (F 13) L (F 13 (12 + x))) P (k + 1)))) h') := by
  have H' := H
  obtain ⟨h00, hO, hA⟩ := H'
  refine am_go_of 60 [12, 21, 37, 52, 69, 132] _ c_Md_acts_93 ?_
  simp (maxSteps := 2000000) (disch := omega) only [c_Md_acts_0, c_Md_acts_1, c_Md_acts_2, c_Md_acts_3, c_Md_acts_4, c_Md_acts_5, c_Md_acts_6, c_Md_acts_7, c_Md_acts_8, c_Md_acts_9, c_Md_acts_10, c_Md_acts_11, c_Md_acts_12, c_Md_acts_13, c_Md_acts_14, c_Md_acts_15, c_Md_acts_16, c_Md_acts_17, c_Md_acts_18, c_Md_acts_19, c_Md_acts_20, c_Md_acts_21, c_Md_acts_22, c_Md_acts_23, c_Md_acts_24, c_Md_acts_25, c_Md_acts_26, c_Md_acts_27, c_Md_acts_28, c_Md_acts_29, c_Md_acts_30, c_Md_acts_31, c_Md_acts_32, c_Md_acts_33, c_Md_acts_34, c_Md_acts_35, c_Md_acts_36, c_Md_acts_37, c_Md_acts_38, c_Md_acts_39, c_Md_acts_40, c_Md_acts_41, c_Md_acts_42, c_Md_acts_43, c_Md_acts_44, c_Md_acts_45, c_Md_acts_46, c_Md_acts_47, c_Md_acts_48, c_Md_acts_49, c_Md_acts_50, c_Md_acts_51, c_Md_acts_52, c_Md_acts_53, c_Md_acts_54, c_Md_acts_55, c_Md_acts_56, c_Md_acts_57, c_Md_acts_58, c_Md_acts_59, c_Md_acts_60, c_Md_acts_61, c_Md_acts_62, c_Md_acts_63, c_Md_acts_64, c_Md_acts_65, c_Md_acts_66, c_Md_acts_67, c_Md_acts_68, c_Md_acts_69, c_Md_acts_70, c_Md_acts_71, c_Md_acts_72, c_Md_acts_73, c_Md_acts_74, c_Md_acts_75, c_Md_acts_76, c_Md_acts_77, c_Md_acts_78, c_Md_acts_79, c_Md_acts_80, c_Md_acts_81, c_Md_acts_82, c_Md_acts_83, c_Md_acts_84, c_Md_acts_85, c_Md_acts_86, c_Md_acts_87, c_Md_acts_88, c_Md_acts_89, c_Md_acts_90, c_Md_acts_91, c_Md_acts_92, c_Md_acts_93, c_Md_acts_94, c_Md_acts_95, c_Md_acts_96, c_Md_acts_97, c_Md_acts_98, c_Md_acts_99, c_Md_acts_100, c_Md_acts_101, c_Md_acts_102, c_Md_acts_103, c_Md_acts_104, c_Md_acts_105, c_Md_acts_106, c_Md_acts_107, c_Md_acts_108, c_Md_acts_109, c_Md_acts_110, c_Md_acts_111, c_Md_acts_112, c_Md_acts_113, c_Md_acts_114, c_Md_acts_115, c_Md_acts_116, c_Md_acts_117, c_Md_acts_118, c_Md_acts_119, c_Md_acts_120, c_Md_acts_121, c_Md_acts_122, c_Md_acts_123, c_Md_acts_124, c_Md_acts_125, c_Md_acts_126, c_Md_acts_127, c_Md_acts_128, c_Md_acts_129, c_Md_acts_130, c_Md_acts_131, c_Md_acts_132, c_Md_acts_133, c_Md_acts_134, c_Md_acts_135, c_Md_acts_136, c_Md_acts_137, c_Md_acts_138, c_Md_acts_139, c_Md_acts_140, c_Md_acts_141, c_Md_acts_142, c_Md_acts_143, c_Md_acts_144, c_Md_acts_145, c_Md_acts_146, c_Md_acts_147, c_Md_acts_148, c_Md_acts_149, c_Md_acts_150, c_Md_acts_151, c_Md_acts_152, c_Md_acts_153, c_Md_acts_154, c_Md_acts_155, c_Md_acts_156, c_Md_acts_157, c_Md_acts_158, c_Md_acts_159, c_Md_acts_160, c_Md_acts_161, c_Md_acts_162, c_Md_acts_163, c_Md_acts_164, sx_aload_n, sx_bipush, sx_getfield, sx_goto, sx_iadd, sx_iaload, sx_iastore, sx_iconst, sx_ifCond_eq, sx_ifCond_ne, sx_if_icmp_eq, sx_if_icmp_ne, sx_iload, sx_iload_n, sx_imul, sx_istore, sx_return, am_W_s, am_W_0, am_mm_some, List.mem_cons, or_false, false_or, or_self, or_true, true_or, reduceIte, if_false, if_true, am_o_some, am_o_none, am_o_bad, am_o_good, am_ldi_hit, am_ldi_miss, am_lda_hit, am_lda_miss, am_ldl_hit, am_ldl_miss, am_inc_eq, am_inc_hit, am_inc_miss, am_ob_hit, am_fd_0, am_fd_s, am_ai_hit, am_ab_3, am_al_hit, am_aq_4, am_al0_hit, am_put_1, am_put_2, am_put_put, am_up_hit, am_up_miss, am_s1_eq, am_s2_eq, am_fl_nil, am_fl_hit, am_fl_int, am_fl_ref, am_fl_long, am_fl_longx, am_fl2_nil, am_fl2_hit, am_fl2_hit1, am_fl2_int, am_fl2_ref, am_fl2_long, List.not_mem_nil, not_false_eq_true, ne_eq, Nat.reduceAdd, Nat.reduceEqDiff, Nat.zero_add, Nat.add_left_cancel_iff, List.set_cons_zero, List.set_cons_succ, List.length_cons, List.length_nil, Nat.reduceLT, am_ft_i, am_ft_r, am_ft_z, and_true, true_and, Option.toList_some, Option.toList_none, List.cons_append, List.nil_append, List.drop_succ_cons, List.drop_zero, iI_c, iI_b, iI_s, iI_n, iI_add, iI_sub, iI_mul, iI_neg, iI_nle, iI_ix, iI_eq0, iI_eq1, iI_lt0, iI_0lt, iI_le0, iI_0le, iI_eq, iI_lt, iI_le, iI_upd, iI_updZ, hO, hA, vI_hit, md_fs_len, md_f0, md_f1, md_f2, md_f3, md_f4, md_f5, md_f6, md_f7, md_f8, md_f9, md_f10, md_f11, md_f12, md_f13, md_f14, md_f15, md_f16, md_f17, md_f18, md_f19, md_f20, md_f21, md_f22, md_f23, md_f24, md_f25, md_f26, md_f27, md_f28, md_f29, md_f30, md_f31, md_f32, md_f33, md_f34, md_f35, md_s0, md_s1, md_s15, md_s16, md_s17, md_s23, md_s24, md_s31, md_t1, md_t2, md_t3, md_t4, md_t5, md_t6, md_t7, md_t8, md_t9, md_t10, md_t11, md_t12, md_t13, md_t14, md_t15, md_t16, md_t17, md_t18, md_t19, md_t20, md_t21, md_t22, md_t23, md_t24, md_t25, md_t26, md_t27, md_t28, md_l1, md_l2, md_l3, md_l4, md_l5, md_l6, md_l7, md_l8, md_l9, md_l10, md_l11, md_l12, md_l13, md_l14, md_l15, md_l16, md_l17, md_l18, md_l19, md_l20, md_l21, md_l22, md_l23, md_l24, md_l25, md_l26, md_l27, md_l28]
  repeat (refine And.intro (by omega) ?_)
  have w := H.rf.row (k := 13) (t := 0) (n := 66) (g := vI (F 13) L (F 13 (12 + x))) ⟨by decide, by decide⟩ rfl rfl
  have hO2 := w.1.2.1
  refine am_go_call c_Md_acts_132 (by decide) (by decide) (by simp [am_can, am_kd, Value.category, hO2]) ?_
  refine (ct_logs d (by omega) _ o I _ w.1 hlr th 3 (F 13 (12 + x))).mono (fun r9 h1 hr9 => ?_)
  obtain ⟨rfl, w2⟩ := hr9
  have w3 := w.tr w2
  have H2 := w2.1
  obtain ⟨h20, hO3, hA3⟩ := H2
  have a4 : sp_lF I (va_up F 13 (vI (F 13) L (F 13 (12 + x)))) th 3 (F 13 (12 + x)) 13 = vI (F 13) L (F 13 (12 + x)) := (sp_lF_k (by decide)).trans va_up_hit
  refine am_go_of 60 [12, 21, 37, 52, 69, 132] _ c_Md_acts_133 ?_
  simp (maxSteps := 2000000) (disch := omega) only [c_Md_acts_0, c_Md_acts_1, c_Md_acts_2, c_Md_acts_3, c_Md_acts_4, c_Md_acts_5, c_Md_acts_6, c_Md_acts_7, c_Md_acts_8, c_Md_acts_9, c_Md_acts_10, c_Md_acts_11, c_Md_acts_12, c_Md_acts_13, c_Md_acts_14, c_Md_acts_15, c_Md_acts_16, c_Md_acts_17, c_Md_acts_18, c_Md_acts_19, c_Md_acts_20, c_Md_acts_21, c_Md_acts_22, c_Md_acts_23, c_Md_acts_24, c_Md_acts_25, c_Md_acts_26, c_Md_acts_27, c_Md_acts_28, c_Md_acts_29, c_Md_acts_30, c_Md_acts_31, c_Md_acts_32, c_Md_acts_33, c_Md_acts_34, c_Md_acts_35, c_Md_acts_36, c_Md_acts_37, c_Md_acts_38, c_Md_acts_39, c_Md_acts_40, c_Md_acts_41, c_Md_acts_42, c_Md_acts_43, c_Md_acts_44, c_Md_acts_45, c_Md_acts_46, c_Md_acts_47, c_Md_acts_48, c_Md_acts_49, c_Md_acts_50, c_Md_acts_51, c_Md_acts_52, c_Md_acts_53, c_Md_acts_54, c_Md_acts_55, c_Md_acts_56, c_Md_acts_57, c_Md_acts_58, c_Md_acts_59, c_Md_acts_60, c_Md_acts_61, c_Md_acts_62, c_Md_acts_63, c_Md_acts_64, c_Md_acts_65, c_Md_acts_66, c_Md_acts_67, c_Md_acts_68, c_Md_acts_69, c_Md_acts_70, c_Md_acts_71, c_Md_acts_72, c_Md_acts_73, c_Md_acts_74, c_Md_acts_75, c_Md_acts_76, c_Md_acts_77, c_Md_acts_78, c_Md_acts_79, c_Md_acts_80, c_Md_acts_81, c_Md_acts_82, c_Md_acts_83, c_Md_acts_84, c_Md_acts_85, c_Md_acts_86, c_Md_acts_87, c_Md_acts_88, c_Md_acts_89, c_Md_acts_90, c_Md_acts_91, c_Md_acts_92, c_Md_acts_93, c_Md_acts_94, c_Md_acts_95, c_Md_acts_96, c_Md_acts_97, c_Md_acts_98, c_Md_acts_99, c_Md_acts_100, c_Md_acts_101, c_Md_acts_102, c_Md_acts_103, c_Md_acts_104, c_Md_acts_105, c_Md_acts_106, c_Md_acts_107, c_Md_acts_108, c_Md_acts_109, c_Md_acts_110, c_Md_acts_111, c_Md_acts_112, c_Md_acts_113, c_Md_acts_114, c_Md_acts_115, c_Md_acts_116, c_Md_acts_117, c_Md_acts_118, c_Md_acts_119, c_Md_acts_120, c_Md_acts_121, c_Md_acts_122, c_Md_acts_123, c_Md_acts_124, c_Md_acts_125, c_Md_acts_126, c_Md_acts_127, c_Md_acts_128, c_Md_acts_129, c_Md_acts_130, c_Md_acts_131, c_Md_acts_132, c_Md_acts_133, c_Md_acts_134, c_Md_acts_135, c_Md_acts_136, c_Md_acts_137, c_Md_acts_138, c_Md_acts_139, c_Md_acts_140, c_Md_acts_141, c_Md_acts_142, c_Md_acts_143, c_Md_acts_144, c_Md_acts_145, c_Md_acts_146, c_Md_acts_147, c_Md_acts_148, c_Md_acts_149, c_Md_acts_150, c_Md_acts_151, c_Md_acts_152, c_Md_acts_153, c_Md_acts_154, c_Md_acts_155, c_Md_acts_156, c_Md_acts_157, c_Md_acts_158, c_Md_acts_159, c_Md_acts_160, c_Md_acts_161, c_Md_acts_162, c_Md_acts_163, c_Md_acts_164, sx_aload_n, sx_bipush, sx_getfield, sx_goto, sx_iadd, sx_iaload, sx_iastore, sx_iconst, sx_ifCond_eq, sx_ifCond_ne, sx_if_icmp_eq, sx_if_icmp_ne, sx_iload, sx_iload_n, sx_imul, sx_istore, sx_return, am_W_s, am_W_0, am_mm_some, List.mem_cons, or_false, false_or, or_self, or_true, true_or, reduceIte, if_false, if_true, am_o_some, am_o_none, am_o_bad, am_o_good, am_ldi_hit, am_ldi_miss, am_lda_hit, am_lda_miss, am_ldl_hit, am_ldl_miss, am_inc_eq, am_inc_hit, am_inc_miss, am_ob_hit, am_fd_0, am_fd_s, am_ai_hit, am_ab_3, am_al_hit, am_aq_4, am_al0_hit, am_put_1, am_put_2, am_put_put, am_up_hit, am_up_miss, am_s1_eq, am_s2_eq, am_fl_nil, am_fl_hit, am_fl_int, am_fl_ref, am_fl_long, am_fl_longx, am_fl2_nil, am_fl2_hit, am_fl2_hit1, am_fl2_int, am_fl2_ref, am_fl2_long, List.not_mem_nil, not_false_eq_true, ne_eq, Nat.reduceAdd, Nat.reduceEqDiff, Nat.zero_add, Nat.add_left_cancel_iff, List.set_cons_zero, List.set_cons_succ, List.length_cons, List.length_nil, Nat.reduceLT, am_ft_i, am_ft_r, am_ft_z, and_true, true_and, Option.toList_some, Option.toList_none, List.cons_append, List.nil_append, List.drop_succ_cons, List.drop_zero, iI_c, iI_b, iI_s, iI_n, iI_add, iI_sub, iI_mul, iI_neg, iI_nle, iI_ix, iI_eq0, iI_eq1, iI_lt0, iI_0lt, iI_le0, iI_0le, iI_eq, iI_lt, iI_le, iI_upd, iI_updZ, hO3, hA3, md_fs_len, md_f0, md_f1, md_f2, md_f3, md_f4, md_f5, md_f6, md_f7, md_f8, md_f9, md_f10, md_f11, md_f12, md_f13, md_f14, md_f15, md_f16, md_f17, md_f18, md_f19, md_f20, md_f21, md_f22, md_f23, md_f24, md_f25, md_f26, md_f27, md_f28, md_f29, md_f30, md_f31, md_f32, md_f33, md_f34, md_f35, md_s0, md_s1, md_s15, md_s16, md_s17, md_s23, md_s24, md_s31, md_t1, md_t2, md_t3, md_t4, md_t5, md_t6, md_t7, md_t8, md_t9, md_t10, md_t11, md_t12, md_t13, md_t14, md_t15, md_t16, md_t17, md_t18, md_t19, md_t20, md_t21, md_t22, md_t23, md_t24, md_t25, md_t26, md_t27, md_t28, md_l1, md_l2, md_l3, md_l4, md_l5, md_l6, md_l7, md_l8, md_l9, md_l10, md_l11, md_l12, md_l13, md_l14, md_l15, md_l16, md_l17, md_l18, md_l19, md_l20, md_l21, md_l22, md_l23, md_l24, md_l25, md_l26, md_l27, md_l28]
  repeat (refine And.intro (by omega) ?_)
  rw [a4]
  have w4 := w3.row (k := 13) (t := 0) (n := 66) (g := vI (vI (F 13) L (F 13 (12 + x))) P (k + 1)) ⟨by decide, by decide⟩ rfl rfl
  rw [sp_lF_up, va_up_up] at w4
  exact w4
theorem pf_1 (d : Nat) (hd : 1 ≤ d) (h : am_H) (o : Nat) (I : Nat → Int) (F : Nat → Int → Int) (H : md_at h o I F) (L P th x b k : Int) (hP : 0 ≤ P ∧ P < 66) (hx : 0 ≤ x ∧ x ≤ 5) (hk : 0 ≤ k ∧ k < 5) (hb : 0 ≤ b ∧ b < 9) :
    am_Go am_df am_MT d c_Md_acts (93, [(8, .int (iI P)), (7, .int (iI L)), (6, .int (iI x)), (5, .int (iI 1)), (4, .int (iI k)), (3, .int (iI b)), (0, .ref o), (1, .int (iI th))], [], h) (fun r0 h' => r0 = none ∧ md_to h o I (va_up F 13 (vI (vI (F 13) (12 + x) (F 11 (5 * b + k))) P (k + 1))) h') := by
  have H' := H
  obtain ⟨h00, hO, hA⟩ := H'
  refine am_go_of 90 [12, 21, 37, 52, 69, 132] _ c_Md_acts_93 ?_
  simp (maxSteps := 2000000) (disch := omega) only [c_Md_acts_0, c_Md_acts_1, c_Md_acts_2, c_Md_acts_3, c_Md_acts_4, c_Md_acts_5, c_Md_acts_6, c_Md_acts_7, c_Md_acts_8, c_Md_acts_9, c_Md_acts_10, c_Md_acts_11, c_Md_acts_12, c_Md_acts_13, c_Md_acts_14, c_Md_acts_15, c_Md_acts_16, c_Md_acts_17, c_Md_acts_18, c_Md_acts_19, c_Md_acts_20, c_Md_acts_21, c_Md_acts_22, c_Md_acts_23, c_Md_acts_24, c_Md_acts_25, c_Md_acts_26, c_Md_acts_27, c_Md_acts_28, c_Md_acts_29, c_Md_acts_30, c_Md_acts_31, c_Md_acts_32, c_Md_acts_33, c_Md_acts_34, c_Md_acts_35, c_Md_acts_36, c_Md_acts_37, c_Md_acts_38, c_Md_acts_39, c_Md_acts_40, c_Md_acts_41, c_Md_acts_42, c_Md_acts_43, c_Md_acts_44, c_Md_acts_45, c_Md_acts_46, c_Md_acts_47, c_Md_acts_48, c_Md_acts_49, c_Md_acts_50, c_Md_acts_51, c_Md_acts_52, c_Md_acts_53, c_Md_acts_54, c_Md_acts_55, c_Md_acts_56, c_Md_acts_57, c_Md_acts_58, c_Md_acts_59, c_Md_acts_60, c_Md_acts_61, c_Md_acts_62, c_Md_acts_63, c_Md_acts_64, c_Md_acts_65, c_Md_acts_66, c_Md_acts_67, c_Md_acts_68, c_Md_acts_69, c_Md_acts_70, c_Md_acts_71, c_Md_acts_72, c_Md_acts_73, c_Md_acts_74, c_Md_acts_75, c_Md_acts_76, c_Md_acts_77, c_Md_acts_78, c_Md_acts_79, c_Md_acts_80, c_Md_acts_81, c_Md_acts_82, c_Md_acts_83, c_Md_acts_84, c_Md_acts_85, c_Md_acts_86, c_Md_acts_87, c_Md_acts_88, c_Md_acts_89, c_Md_acts_90, c_Md_acts_91, c_Md_acts_92, c_Md_acts_93, c_Md_acts_94, c_Md_acts_95, c_Md_acts_96, c_Md_acts_97, c_Md_acts_98, c_Md_acts_99, c_Md_acts_100, c_Md_acts_101, c_Md_acts_102, c_Md_acts_103, c_Md_acts_104, c_Md_acts_105, c_Md_acts_106, c_Md_acts_107, c_Md_acts_108, c_Md_acts_109, c_Md_acts_110, c_Md_acts_111, c_Md_acts_112, c_Md_acts_113, c_Md_acts_114, c_Md_acts_115, c_Md_acts_116, c_Md_acts_117, c_Md_acts_118, c_Md_acts_119, c_Md_acts_120, c_Md_acts_121, c_Md_acts_122, c_Md_acts_123, c_Md_acts_124, c_Md_acts_125, c_Md_acts_126, c_Md_acts_127, c_Md_acts_128, c_Md_acts_129, c_Md_acts_130, c_Md_acts_131, c_Md_acts_132, c_Md_acts_133, c_Md_acts_134, c_Md_acts_135, c_Md_acts_136, c_Md_acts_137, c_Md_acts_138, c_Md_acts_139, c_Md_acts_140, c_Md_acts_141, c_Md_acts_142, c_Md_acts_143, c_Md_acts_144, c_Md_acts_145, c_Md_acts_146, c_Md_acts_147, c_Md_acts_148, c_Md_acts_149, c_Md_acts_150, c_Md_acts_151, c_Md_acts_152, c_Md_acts_153, c_Md_acts_154, c_Md_acts_155, c_Md_acts_156, c_Md_acts_157, c_Md_acts_158, c_Md_acts_159, c_Md_acts_160, c_Md_acts_161, c_Md_acts_162, c_Md_acts_163, c_Md_acts_164, sx_aload_n, sx_bipush, sx_getfield, sx_goto, sx_iadd, sx_iaload, sx_iastore, sx_iconst, sx_ifCond_eq, sx_ifCond_ne, sx_if_icmp_eq, sx_if_icmp_ne, sx_iload, sx_iload_n, sx_imul, sx_istore, sx_return, am_W_s, am_W_0, am_mm_some, List.mem_cons, or_false, false_or, or_self, or_true, true_or, reduceIte, if_false, if_true, am_o_some, am_o_none, am_o_bad, am_o_good, am_ldi_hit, am_ldi_miss, am_lda_hit, am_lda_miss, am_ldl_hit, am_ldl_miss, am_inc_eq, am_inc_hit, am_inc_miss, am_ob_hit, am_fd_0, am_fd_s, am_ai_hit, am_ab_3, am_al_hit, am_aq_4, am_al0_hit, am_put_1, am_put_2, am_put_put, am_up_hit, am_up_miss, am_s1_eq, am_s2_eq, am_fl_nil, am_fl_hit, am_fl_int, am_fl_ref, am_fl_long, am_fl_longx, am_fl2_nil, am_fl2_hit, am_fl2_hit1, am_fl2_int, am_fl2_ref, am_fl2_long, List.not_mem_nil, not_false_eq_true, ne_eq, Nat.reduceAdd, Nat.reduceEqDiff, Nat.zero_add, Nat.add_left_cancel_iff, List.set_cons_zero, List.set_cons_succ, List.length_cons, List.length_nil, Nat.reduceLT, am_ft_i, am_ft_r, am_ft_z, and_true, true_and, Option.toList_some, Option.toList_none, List.cons_append, List.nil_append, List.drop_succ_cons, List.drop_zero, iI_c, iI_b, iI_s, iI_n, iI_add, iI_sub, iI_mul, iI_neg, iI_nle, iI_ix, iI_eq0, iI_eq1, iI_lt0, iI_0lt, iI_le0, iI_0le, iI_eq, iI_lt, iI_le, iI_upd, iI_updZ, hO, hA, md_fs_len, md_f0, md_f1, md_f2, md_f3, md_f4, md_f5, md_f6, md_f7, md_f8, md_f9, md_f10, md_f11, md_f12, md_f13, md_f14, md_f15, md_f16, md_f17, md_f18, md_f19, md_f20, md_f21, md_f22, md_f23, md_f24, md_f25, md_f26, md_f27, md_f28, md_f29, md_f30, md_f31, md_f32, md_f33, md_f34, md_f35, md_s0, md_s1, md_s15, md_s16, md_s17, md_s23, md_s24, md_s31, md_t1, md_t2, md_t3, md_t4, md_t5, md_t6, md_t7, md_t8, md_t9, md_t10, md_t11, md_t12, md_t13, md_t14, md_t15, md_t16, md_t17, md_t18, md_t19, md_t20, md_t21, md_t22, md_t23, md_t24, md_t25, md_t26, md_t27, md_t28, md_l1, md_l2, md_l3, md_l4, md_l5, md_l6, md_l7, md_l8, md_l9, md_l10, md_l11, md_l12, md_l13, md_l14, md_l15, md_l16, md_l17, md_l18, md_l19, md_l20, md_l21, md_l22, md_l23, md_l24, md_l25, md_l26, md_l27, md_l28]
  repeat (refine And.intro (by omega) ?_)
  exact H.rf.row (k := 13) (t := 0) (n := 66) ⟨by decide, by decide⟩ rfl rfl
