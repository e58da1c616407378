theorem mt_Outcomes_keepWitness : am_MT[90]? = some m_Outcomes_keepWitness := rfl
theorem c_Outcomes_keepWitness_0 : c_Outcomes_keepWitness[0]? = some (0, 1, .iload_n 1, 1, 0, 0, 0, 0, []) := Eq.trans rfl rfl
theorem c_Outcomes_keepWitness_1 : c_Outcomes_keepWitness[1]? = some (1, 1, .iconst 3, 0, 0, 0, 0, 0, []) := Eq.trans rfl rfl
theorem c_Outcomes_keepWitness_2 : c_Outcomes_keepWitness[2]? = some (2, 1, .imul, 0, 0, 0, 0, 0, []) := Eq.trans rfl rfl
theorem c_Outcomes_keepWitness_3 : c_Outcomes_keepWitness[3]? = some (3, 2, .istore 4, 4, 0, 0, 0, 0, []) := Eq.trans rfl rfl
theorem c_Outcomes_keepWitness_4 : c_Outcomes_keepWitness[4]? = some (5, 1, .iconst 0, 0, 0, 0, 0, 0, []) := Eq.trans rfl rfl
theorem c_Outcomes_keepWitness_5 : c_Outcomes_keepWitness[5]? = some (6, 2, .istore 5, 5, 0, 0, 0, 0, []) := Eq.trans rfl rfl
theorem c_Outcomes_keepWitness_6 : c_Outcomes_keepWitness[6]? = some (8, 2, .iload 5, 5, 0, 0, 0, 0, []) := Eq.trans rfl rfl
theorem c_Outcomes_keepWitness_7 : c_Outcomes_keepWitness[7]? = some (10, 1, .iload_n 3, 3, 0, 0, 0, 0, []) := Eq.trans rfl rfl
theorem c_Outcomes_keepWitness_8 : c_Outcomes_keepWitness[8]? = some (11, 3, .if_icmp .ge 38, 32, 0, 0, 0, 0, []) := Eq.trans rfl rfl
theorem c_Outcomes_keepWitness_9 : c_Outcomes_keepWitness[9]? = some (14, 1, .aload_n 0, 0, 0, 0, 0, 0, []) := Eq.trans rfl rfl
theorem c_Outcomes_keepWitness_10 : c_Outcomes_keepWitness[10]? = some (15, 3, .getfield 26, 7, 4, 0, 0, 285, []) := Eq.trans rfl rfl
theorem c_Outcomes_keepWitness_11 : c_Outcomes_keepWitness[11]? = some (18, 2, .iload 4, 4, 0, 0, 0, 0, []) := Eq.trans rfl rfl
theorem c_Outcomes_keepWitness_12 : c_Outcomes_keepWitness[12]? = some (20, 2, .iload 5, 5, 0, 0, 0, 0, []) := Eq.trans rfl rfl
theorem c_Outcomes_keepWitness_13 : c_Outcomes_keepWitness[13]? = some (22, 2, .bipush 32, 0, 0, 0, 0, 0, []) := Eq.trans rfl rfl
theorem c_Outcomes_keepWitness_14 : c_Outcomes_keepWitness[14]? = some (24, 1, .idiv, 0, 0, 0, 0, 0, []) := Eq.trans rfl rfl
theorem c_Outcomes_keepWitness_15 : c_Outcomes_keepWitness[15]? = some (25, 1, .iadd, 0, 0, 0, 0, 0, []) := Eq.trans rfl rfl
theorem c_Outcomes_keepWitness_16 : c_Outcomes_keepWitness[16]? = some (26, 1, .dup2, 0, 0, 0, 0, 0, []) := Eq.trans rfl rfl
theorem c_Outcomes_keepWitness_17 : c_Outcomes_keepWitness[17]? = some (27, 1, .laload, 0, 0, 0, 0, 0, []) := Eq.trans rfl rfl
theorem c_Outcomes_keepWitness_18 : c_Outcomes_keepWitness[18]? = some (28, 1, .aload_n 2, 2, 0, 0, 0, 0, []) := Eq.trans rfl rfl
theorem c_Outcomes_keepWitness_19 : c_Outcomes_keepWitness[19]? = some (29, 2, .iload 5, 5, 0, 0, 0, 0, []) := Eq.trans rfl rfl
theorem c_Outcomes_keepWitness_20 : c_Outcomes_keepWitness[20]? = some (31, 1, .iaload, 0, 0, 0, 0, 0, []) := Eq.trans rfl rfl
theorem c_Outcomes_keepWitness_21 : c_Outcomes_keepWitness[21]? = some (32, 1, .i2l, 0, 0, 0, 0, 0, []) := Eq.trans rfl rfl
theorem c_Outcomes_keepWitness_22 : c_Outcomes_keepWitness[22]? = some (33, 2, .iload 5, 5, 0, 0, 0, 0, []) := Eq.trans rfl rfl
theorem c_Outcomes_keepWitness_23 : c_Outcomes_keepWitness[23]? = some (35, 2, .bipush 32, 0, 0, 0, 0, 0, []) := Eq.trans rfl rfl
theorem c_Outcomes_keepWitness_24 : c_Outcomes_keepWitness[24]? = some (37, 1, .irem, 0, 0, 0, 0, 0, []) := Eq.trans rfl rfl
theorem c_Outcomes_keepWitness_25 : c_Outcomes_keepWitness[25]? = some (38, 1, .iconst 2, 0, 0, 0, 0, 0, []) := Eq.trans rfl rfl
theorem c_Outcomes_keepWitness_26 : c_Outcomes_keepWitness[26]? = some (39, 1, .imul, 0, 0, 0, 0, 0, []) := Eq.trans rfl rfl
theorem c_Outcomes_keepWitness_27 : c_Outcomes_keepWitness[27]? = some (40, 1, .lshl, 0, 0, 0, 0, 0, []) := Eq.trans rfl rfl
theorem c_Outcomes_keepWitness_28 : c_Outcomes_keepWitness[28]? = some (41, 1, .lor, 0, 0, 0, 0, 0, []) := Eq.trans rfl rfl
theorem c_Outcomes_keepWitness_29 : c_Outcomes_keepWitness[29]? = some (42, 1, .lastore, 0, 0, 0, 0, 0, []) := Eq.trans rfl rfl
theorem c_Outcomes_keepWitness_30 : c_Outcomes_keepWitness[30]? = some (43, 3, .iinc 5 1, 0, 0, 0, 0, 0, []) := Eq.trans rfl rfl
theorem c_Outcomes_keepWitness_31 : c_Outcomes_keepWitness[31]? = some (46, 3, .goto (-38), 6, 0, 0, 0, 0, []) := Eq.trans rfl rfl
theorem c_Outcomes_keepWitness_32 : c_Outcomes_keepWitness[32]? = some (49, 1, .aload_n 0, 0, 0, 0, 0, 0, []) := Eq.trans rfl rfl
theorem c_Outcomes_keepWitness_33 : c_Outcomes_keepWitness[33]? = some (50, 3, .getfield 23, 7, 3, 0, 0, 284, []) := Eq.trans rfl rfl
theorem c_Outcomes_keepWitness_34 : c_Outcomes_keepWitness[34]? = some (53, 1, .iload_n 1, 1, 0, 0, 0, 0, []) := Eq.trans rfl rfl
theorem c_Outcomes_keepWitness_35 : c_Outcomes_keepWitness[35]? = some (54, 1, .iload_n 3, 3, 0, 0, 0, 0, []) := Eq.trans rfl rfl
theorem c_Outcomes_keepWitness_36 : c_Outcomes_keepWitness[36]? = some (55, 1, .iastore, 0, 0, 0, 0, 0, []) := Eq.trans rfl rfl
theorem c_Outcomes_keepWitness_37 : c_Outcomes_keepWitness[37]? = some (56, 1, .return_, 0, 0, 0, 0, 0, []) := Eq.trans rfl rfl
theorem mt_Outcomes_add : am_MT[89]? = some m_Outcomes_add := rfl
theorem c_Outcomes_add_0 : c_Outcomes_add[0]? = some (0, 1, .iconst 0, 0, 0, 0, 0, 0, []) := Eq.trans rfl rfl
theorem c_Outcomes_add_1 : c_Outcomes_add[1]? = some (1, 2, .istore 5, 5, 0, 0, 0, 0, []) := Eq.trans rfl rfl
theorem c_Outcomes_add_2 : c_Outcomes_add[2]? = some (3, 2, .iload 5, 5, 0, 0, 0, 0, []) := Eq.trans rfl rfl
theorem c_Outcomes_add_3 : c_Outcomes_add[3]? = some (5, 1, .aload_n 0, 0, 0, 0, 0, 0, []) := Eq.trans rfl rfl
theorem c_Outcomes_add_4 : c_Outcomes_add[4]? = some (6, 3, .getfield 11, 7, 0, 0, 0, 280, []) := Eq.trans rfl rfl
theorem c_Outcomes_add_5 : c_Outcomes_add[5]? = some (9, 3, .if_icmp .ge 21, 15, 0, 0, 0, 0, []) := Eq.trans rfl rfl
theorem c_Outcomes_add_6 : c_Outcomes_add[6]? = some (12, 1, .aload_n 0, 0, 0, 0, 0, 0, []) := Eq.trans rfl rfl
theorem c_Outcomes_add_7 : c_Outcomes_add[7]? = some (13, 3, .getfield 15, 7, 1, 0, 0, 282, []) := Eq.trans rfl rfl
theorem c_Outcomes_add_8 : c_Outcomes_add[8]? = some (16, 2, .iload 5, 5, 0, 0, 0, 0, []) := Eq.trans rfl rfl
theorem c_Outcomes_add_9 : c_Outcomes_add[9]? = some (18, 1, .laload, 0, 0, 0, 0, 0, []) := Eq.trans rfl rfl
theorem c_Outcomes_add_10 : c_Outcomes_add[10]? = some (19, 1, .lload_n 1, 1, 0, 0, 0, 0, []) := Eq.trans rfl rfl
theorem c_Outcomes_add_11 : c_Outcomes_add[11]? = some (20, 1, .lcmp, 0, 0, 0, 0, 0, []) := Eq.trans rfl rfl
theorem c_Outcomes_add_12 : c_Outcomes_add[12]? = some (21, 3, .ifCond .ge 9, 15, 0, 0, 0, 0, []) := Eq.trans rfl rfl
theorem c_Outcomes_add_13 : c_Outcomes_add[13]? = some (24, 3, .iinc 5 1, 0, 0, 0, 0, 0, []) := Eq.trans rfl rfl
theorem c_Outcomes_add_14 : c_Outcomes_add[14]? = some (27, 3, .goto (-24), 2, 0, 0, 0, 0, []) := Eq.trans rfl rfl
theorem c_Outcomes_add_15 : c_Outcomes_add[15]? = some (30, 2, .iload 5, 5, 0, 0, 0, 0, []) := Eq.trans rfl rfl
theorem c_Outcomes_add_16 : c_Outcomes_add[16]? = some (32, 1, .aload_n 0, 0, 0, 0, 0, 0, []) := Eq.trans rfl rfl
theorem c_Outcomes_add_17 : c_Outcomes_add[17]? = some (33, 3, .getfield 11, 7, 0, 0, 0, 280, []) := Eq.trans rfl rfl
theorem c_Outcomes_add_18 : c_Outcomes_add[18]? = some (36, 3, .if_icmp .ge 17, 28, 0, 0, 0, 0, []) := Eq.trans rfl rfl
theorem c_Outcomes_add_19 : c_Outcomes_add[19]? = some (39, 1, .aload_n 0, 0, 0, 0, 0, 0, []) := Eq.trans rfl rfl
theorem c_Outcomes_add_20 : c_Outcomes_add[20]? = some (40, 3, .getfield 15, 7, 1, 0, 0, 282, []) := Eq.trans rfl rfl
theorem c_Outcomes_add_21 : c_Outcomes_add[21]? = some (43, 2, .iload 5, 5, 0, 0, 0, 0, []) := Eq.trans rfl rfl
theorem c_Outcomes_add_22 : c_Outcomes_add[22]? = some (45, 1, .laload, 0, 0, 0, 0, 0, []) := Eq.trans rfl rfl
theorem c_Outcomes_add_23 : c_Outcomes_add[23]? = some (46, 1, .lload_n 1, 1, 0, 0, 0, 0, []) := Eq.trans rfl rfl
theorem c_Outcomes_add_24 : c_Outcomes_add[24]? = some (47, 1, .lcmp, 0, 0, 0, 0, 0, []) := Eq.trans rfl rfl
theorem c_Outcomes_add_25 : c_Outcomes_add[25]? = some (48, 3, .ifCond .ne 5, 28, 0, 0, 0, 0, []) := Eq.trans rfl rfl
theorem c_Outcomes_add_26 : c_Outcomes_add[26]? = some (51, 1, .iconst 1, 0, 0, 0, 0, 0, []) := Eq.trans rfl rfl
theorem c_Outcomes_add_27 : c_Outcomes_add[27]? = some (52, 1, .ireturn, 0, 0, 0, 3, 0, []) := Eq.trans rfl rfl
theorem c_Outcomes_add_28 : c_Outcomes_add[28]? = some (53, 1, .aload_n 0, 0, 0, 0, 0, 0, []) := Eq.trans rfl rfl
theorem c_Outcomes_add_29 : c_Outcomes_add[29]? = some (54, 3, .getfield 11, 7, 0, 0, 0, 280, []) := Eq.trans rfl rfl
theorem c_Outcomes_add_30 : c_Outcomes_add[30]? = some (57, 2, .bipush 60, 0, 0, 0, 0, 0, []) := Eq.trans rfl rfl
theorem c_Outcomes_add_31 : c_Outcomes_add[31]? = some (59, 3, .if_icmp .lt 5, 34, 0, 0, 0, 0, []) := Eq.trans rfl rfl
theorem c_Outcomes_add_32 : c_Outcomes_add[32]? = some (62, 1, .iconst 0, 0, 0, 0, 0, 0, []) := Eq.trans rfl rfl
theorem c_Outcomes_add_33 : c_Outcomes_add[33]? = some (63, 1, .ireturn, 0, 0, 0, 3, 0, []) := Eq.trans rfl rfl
theorem c_Outcomes_add_34 : c_Outcomes_add[34]? = some (64, 1, .aload_n 0, 0, 0, 0, 0, 0, []) := Eq.trans rfl rfl
theorem c_Outcomes_add_35 : c_Outcomes_add[35]? = some (65, 3, .getfield 11, 7, 0, 0, 0, 280, []) := Eq.trans rfl rfl
theorem c_Outcomes_add_36 : c_Outcomes_add[36]? = some (68, 2, .istore 6, 6, 0, 0, 0, 0, []) := Eq.trans rfl rfl
theorem c_Outcomes_add_37 : c_Outcomes_add[37]? = some (70, 2, .iload 6, 6, 0, 0, 0, 0, []) := Eq.trans rfl rfl
theorem c_Outcomes_add_38 : c_Outcomes_add[38]? = some (72, 2, .iload 5, 5, 0, 0, 0, 0, []) := Eq.trans rfl rfl
theorem c_Outcomes_add_39 : c_Outcomes_add[39]? = some (74, 3, .if_icmp .le 41, 62, 0, 0, 0, 0, []) := Eq.trans rfl rfl
theorem c_Outcomes_add_40 : c_Outcomes_add[40]? = some (77, 1, .aload_n 0, 0, 0, 0, 0, 0, []) := Eq.trans rfl rfl
theorem c_Outcomes_add_41 : c_Outcomes_add[41]? = some (78, 3, .getfield 15, 7, 1, 0, 0, 282, []) := Eq.trans rfl rfl
theorem c_Outcomes_add_42 : c_Outcomes_add[42]? = some (81, 2, .iload 6, 6, 0, 0, 0, 0, []) := Eq.trans rfl rfl
theorem c_Outcomes_add_43 : c_Outcomes_add[43]? = some (83, 1, .aload_n 0, 0, 0, 0, 0, 0, []) := Eq.trans rfl rfl
theorem c_Outcomes_add_44 : c_Outcomes_add[44]? = some (84, 3, .getfield 15, 7, 1, 0, 0, 282, []) := Eq.trans rfl rfl
theorem c_Outcomes_add_45 : c_Outcomes_add[45]? = some (87, 2, .iload 6, 6, 0, 0, 0, 0, []) := Eq.trans rfl rfl
theorem c_Outcomes_add_46 : c_Outcomes_add[46]? = some (89, 1, .iconst 1, 0, 0, 0, 0, 0, []) := Eq.trans rfl rfl
theorem c_Outcomes_add_47 : c_Outcomes_add[47]? = some (90, 1, .isub, 0, 0, 0, 0, 0, []) := Eq.trans rfl rfl
theorem c_Outcomes_add_48 : c_Outcomes_add[48]? = some (91, 1, .laload, 0, 0, 0, 0, 0, []) := Eq.trans rfl rfl
theorem c_Outcomes_add_49 : c_Outcomes_add[49]? = some (92, 1, .lastore, 0, 0, 0, 0, 0, []) := Eq.trans rfl rfl
theorem c_Outcomes_add_50 : c_Outcomes_add[50]? = some (93, 1, .aload_n 0, 0, 0, 0, 0, 0, []) := Eq.trans rfl rfl
theorem c_Outcomes_add_51 : c_Outcomes_add[51]? = some (94, 3, .getfield 19, 7, 2, 0, 0, 283, []) := Eq.trans rfl rfl
theorem c_Outcomes_add_52 : c_Outcomes_add[52]? = some (97, 2, .iload 6, 6, 0, 0, 0, 0, []) := Eq.trans rfl rfl
theorem c_Outcomes_add_53 : c_Outcomes_add[53]? = some (99, 1, .aload_n 0, 0, 0, 0, 0, 0, []) := Eq.trans rfl rfl
theorem c_Outcomes_add_54 : c_Outcomes_add[54]? = some (100, 3, .getfield 19, 7, 2, 0, 0, 283, []) := Eq.trans rfl rfl
theorem c_Outcomes_add_55 : c_Outcomes_add[55]? = some (103, 2, .iload 6, 6, 0, 0, 0, 0, []) := Eq.trans rfl rfl
theorem c_Outcomes_add_56 : c_Outcomes_add[56]? = some (105, 1, .iconst 1, 0, 0, 0, 0, 0, []) := Eq.trans rfl rfl
theorem c_Outcomes_add_57 : c_Outcomes_add[57]? = some (106, 1, .isub, 0, 0, 0, 0, 0, []) := Eq.trans rfl rfl
theorem c_Outcomes_add_58 : c_Outcomes_add[58]? = some (107, 1, .iaload, 0, 0, 0, 0, 0, []) := Eq.trans rfl rfl
theorem c_Outcomes_add_59 : c_Outcomes_add[59]? = some (108, 1, .iastore, 0, 0, 0, 0, 0, []) := Eq.trans rfl rfl
theorem c_Outcomes_add_60 : c_Outcomes_add[60]? = some (109, 3, .iinc 6 (-1), 0, 0, 0, 0, 0, []) := Eq.trans rfl rfl
theorem c_Outcomes_add_61 : c_Outcomes_add[61]? = some (112, 3, .goto (-42), 37, 0, 0, 0, 0, []) := Eq.trans rfl rfl
theorem c_Outcomes_add_62 : c_Outcomes_add[62]? = some (115, 1, .aload_n 0, 0, 0, 0, 0, 0, []) := Eq.trans rfl rfl
theorem c_Outcomes_add_63 : c_Outcomes_add[63]? = some (116, 3, .getfield 15, 7, 1, 0, 0, 282, []) := Eq.trans rfl rfl
theorem c_Outcomes_add_64 : c_Outcomes_add[64]? = some (119, 2, .iload 5, 5, 0, 0, 0, 0, []) := Eq.trans rfl rfl
theorem c_Outcomes_add_65 : c_Outcomes_add[65]? = some (121, 1, .lload_n 1, 1, 0, 0, 0, 0, []) := Eq.trans rfl rfl
theorem c_Outcomes_add_66 : c_Outcomes_add[66]? = some (122, 1, .lastore, 0, 0, 0, 0, 0, []) := Eq.trans rfl rfl
theorem c_Outcomes_add_67 : c_Outcomes_add[67]? = some (123, 1, .aload_n 0, 0, 0, 0, 0, 0, []) := Eq.trans rfl rfl
theorem c_Outcomes_add_68 : c_Outcomes_add[68]? = some (124, 3, .getfield 19, 7, 2, 0, 0, 283, []) := Eq.trans rfl rfl
theorem c_Outcomes_add_69 : c_Outcomes_add[69]? = some (127, 2, .iload 5, 5, 0, 0, 0, 0, []) := Eq.trans rfl rfl
theorem c_Outcomes_add_70 : c_Outcomes_add[70]? = some (129, 1, .aload_n 0, 0, 0, 0, 0, 0, []) := Eq.trans rfl rfl
theorem c_Outcomes_add_71 : c_Outcomes_add[71]? = some (130, 3, .getfield 11, 7, 0, 0, 0, 280, []) := Eq.trans rfl rfl
theorem c_Outcomes_add_72 : c_Outcomes_add[72]? = some (133, 1, .iastore, 0, 0, 0, 0, 0, []) := Eq.trans rfl rfl
theorem c_Outcomes_add_73 : c_Outcomes_add[73]? = some (134, 1, .aload_n 0, 0, 0, 0, 0, 0, []) := Eq.trans rfl rfl
theorem c_Outcomes_add_74 : c_Outcomes_add[74]? = some (135, 1, .aload_n 0, 0, 0, 0, 0, 0, []) := Eq.trans rfl rfl
theorem c_Outcomes_add_75 : c_Outcomes_add[75]? = some (136, 3, .getfield 11, 7, 0, 0, 0, 280, []) := Eq.trans rfl rfl
theorem c_Outcomes_add_76 : c_Outcomes_add[76]? = some (139, 1, .aload_n 3, 3, 0, 0, 0, 0, []) := Eq.trans rfl rfl
theorem c_Outcomes_add_77 : c_Outcomes_add[77]? = some (140, 2, .iload 4, 4, 0, 0, 0, 0, []) := Eq.trans rfl rfl
theorem c_Outcomes_add_78 : c_Outcomes_add[78]? = some (142, 3, .invokevirtual 35, 90, 4, 7, 0, 680, []) := Eq.trans rfl rfl
theorem c_Outcomes_add_79 : c_Outcomes_add[79]? = some (145, 1, .aload_n 0, 0, 0, 0, 0, 0, []) := Eq.trans rfl rfl
theorem c_Outcomes_add_80 : c_Outcomes_add[80]? = some (146, 1, .dup, 0, 0, 0, 0, 0, []) := Eq.trans rfl rfl
theorem c_Outcomes_add_81 : c_Outcomes_add[81]? = some (147, 3, .getfield 11, 7, 0, 0, 0, 280, []) := Eq.trans rfl rfl
theorem c_Outcomes_add_82 : c_Outcomes_add[82]? = some (150, 1, .iconst 1, 0, 0, 0, 0, 0, []) := Eq.trans rfl rfl
theorem c_Outcomes_add_83 : c_Outcomes_add[83]? = some (151, 1, .iadd, 0, 0, 0, 0, 0, []) := Eq.trans rfl rfl
theorem c_Outcomes_add_84 : c_Outcomes_add[84]? = some (152, 3, .putfield 11, 7, 0, 0, 0, 280, []) := Eq.trans rfl rfl
theorem c_Outcomes_add_85 : c_Outcomes_add[85]? = some (155, 1, .iconst 1, 0, 0, 0, 0, 0, []) := Eq.trans rfl rfl
theorem c_Outcomes_add_86 : c_Outcomes_add[86]? = some (156, 1, .ireturn, 0, 0, 0, 3, 0, []) := Eq.trans rfl rfl
/-! The class's OUTCOMES: P their numbers in order, O whose row of a WITNESS, Ln the lengths, V the STEPS (two bits each). -/
def wl (V : Int → Int) : Nat → Int → Int
  | 0, _ => 0
  | n + 1, b => V b + 4 * wl V n (b + 1)
theorem wl_rg {V : Int → Int} (h : ∀ i, 0 ≤ V i ∧ V i ≤ 3) : ∀ (n : Nat) (b : Int), 0 ≤ wl V n b ∧ wl V n b < 4 ^ n := by
  intro n
  induction n with
  | zero => exact fun b => ⟨Int.le_refl _, (by decide : (0 : Int) < 1)⟩
  | succ n ih =>
    intro b
    have a := ih (b + 1)
    have c := h b
    unfold wl
    rw [Int.pow_succ]
    omega
theorem wl_rd {V : Int → Int} (h : ∀ i, 0 ≤ V i ∧ V i ≤ 3) : ∀ (n e : Nat) (b : Int), e < n → wl V n b / 4 ^ e % 4 = V (b + e) := by
  intro n
  induction n with
  | zero => intro e b he; omega
  | succ n ih =>
    intro e b he
    have c := h b
    unfold wl
    cases e with
    | zero =>
      rw [show b + ((0 : Nat) : Int) = b by omega, show (4 : Int) ^ 0 = 1 by decide]
      omega
    | succ e =>
      have a := ih e (b + 1) (by omega)
      rw [Int.pow_succ, Int.mul_comm (4 ^ e) 4, ← Int.ediv_ediv_of_nonneg (by decide), show (V b + 4 * wl V n (b + 1)) / 4 = wl V n (b + 1) by omega, a, show b + 1 + (e : Int) = b + ((e + 1 : Nat) : Int) by omega]
theorem wl_no {V : Int → Int} {i v : Int} : ∀ (n : Nat) (b : Int), (i < b ∨ b + n ≤ i) → wl (vI V i v) n b = wl V n b := by
  intro n
  induction n with
  | zero => exact fun b _ => rfl
  | succ n ih =>
    intro b h
    unfold wl
    rw [ih (b + 1) (by omega), vI_miss (by omega)]
theorem wl_up {V : Int → Int} {v : Int} : ∀ (n e : Nat) (b : Int), e < n → V (b + e) = 0 → wl (vI V (b + e) v) n b = wl V n b + v * 4 ^ e := by
  intro n
  induction n with
  | zero => intro e b he; omega
  | succ n ih =>
    intro e b he h0
    unfold wl
    cases e with
    | zero =>
      rw [show b + ((0 : Nat) : Int) = b by omega] at h0 ⊢
      rw [vI_hit, wl_no n (b + 1) (by omega), h0, show (4 : Int) ^ 0 = 1 by decide]
      omega
    | succ e =>
      have a := ih e (b + 1) (by omega) (by rw [show b + 1 + (e : Int) = b + ((e + 1 : Nat) : Int) by omega]; exact h0)
      rw [show b + 1 + (e : Int) = b + ((e + 1 : Nat) : Int) by omega] at a
      rw [a, vI_miss (by omega), Int.pow_succ, Int.mul_add, ← Int.mul_assoc v, Int.mul_comm (v * 4 ^ e) 4, Int.add_assoc]
def ww (V : Int → Int) (j : Int) : Int := wl V 32 (32 * j)
theorem ww_rg {V : Int → Int} (h : ∀ i, 0 ≤ V i ∧ V i ≤ 3) (j : Int) : 0 ≤ ww V j ∧ ww V j < 18446744073709551616 := wl_rg h 32 _
theorem ww_up {V : Int → Int} {j v : Int} {e : Nat} (he : e < 32) (h0 : V (32 * j + e) = 0) : vI (ww V) j (ww V j + v * 4 ^ e) = ww (vI V (32 * j + e) v) := by
  funext y
  unfold ww
  by_cases c : y = j
  · rw [c, vI_hit, wl_up 32 e (32 * j) he h0]
  · rw [vI_miss c, wl_no 32 (32 * y) (by omega)]
theorem or_in2 {hi c lo k : Nat} (hlo : lo < 2 ^ k) (hc : c < 4) : (hi * 2 ^ (k + 2) + lo) ||| (c * 2 ^ k) = hi * 2 ^ (k + 2) + (c * 2 ^ k + lo) := by
  have p : 2 ^ (k + 2) = 2 ^ k * 4 := Nat.pow_add 2 k 2
  have q : c * 2 ^ k + lo < 2 ^ (k + 2) := by
    have : c * 2 ^ k ≤ 3 * 2 ^ k := Nat.mul_le_mul_right _ (by omega)
    omega
  have a := Nat.shiftLeft_add_eq_or_of_lt (show lo < 2 ^ (k + 2) by omega) hi
  have b := Nat.shiftLeft_add_eq_or_of_lt hlo c
  have e := Nat.shiftLeft_add_eq_or_of_lt q hi
  rw [Nat.shiftLeft_eq] at a b e
  rw [e, a, b, Nat.or_assoc, Nat.or_comm lo]
theorem bz_in2 {z c : Int} {k : Nat} (hk : k ≤ 62) (h1 : 0 ≤ z) (h2 : z < 18446744073709551616) (h3 : z / 2 ^ k % 4 = 0) (h4 : 0 ≤ c) (h5 : c ≤ 3) (h6 : z + c * 2 ^ k < 18446744073709551616) : bz z ||| ((iI c).toInt64 <<< ((iI (k : Int)).toInt64 &&& 63)) = bz (z + c * 2 ^ k) := by
  have pk : 2 ^ k ≤ 2 ^ 62 := Nat.pow_le_pow_right (by decide) hk
  have p0 := Nat.two_pow_pos k
  have p : 2 ^ (k + 2) = 2 ^ k * 4 := Nat.pow_add 2 k 2
  have e4 : (iI c).toInt64 = bL c.toNat := by
    have := bL_i (z := c.toNat) (by omega)
    rw [show ((c.toNat : Nat) : Int) = c by omega] at this
    exact this
  have cb : c.toNat * 2 ^ k ≤ 3 * 2 ^ 62 := Nat.mul_le_mul (by omega) pk
  have n3 : z.toNat / 2 ^ k % 4 = 0 := by
    have : ((z.toNat / 2 ^ k % 4 : Nat) : Int) = z / 2 ^ k % 4 := by
      rw [Int.natCast_emod, Int.natCast_ediv, Int.natCast_pow, show ((z.toNat : Nat) : Int) = z by omega]
      rfl
    exact Int.natCast_eq_zero.mp (this.trans h3)
  have ez : z.toNat = z.toNat / 2 ^ k / 4 * 2 ^ (k + 2) + z.toNat % 2 ^ k := by
    have q1 := Nat.div_add_mod z.toNat (2 ^ k)
    have q2 := Nat.div_add_mod (z.toNat / 2 ^ k) 4
    rw [n3, Nat.add_zero] at q2
    have q3 : z.toNat / 2 ^ k / 4 * 2 ^ (k + 2) = 2 ^ k * (z.toNat / 2 ^ k) := by
      rw [p]
      generalize z.toNat / 2 ^ k = Y at *
      rw [Nat.mul_comm (2 ^ k) 4, ← Nat.mul_assoc, Nat.mul_comm (Y / 4) 4, q2, Nat.mul_comm]
    rw [q3]
    exact q1.symm
  have e1 : ((c.toNat * 2 ^ k : Nat) : Int) = c * 2 ^ k := by
    rw [Int.natCast_mul, Int.natCast_pow, show ((c.toNat : Nat) : Int) = c by omega]
    rfl
  have o := or_in2 (hi := z.toNat / 2 ^ k / 4) (c := c.toNat) (lo := z.toNat % 2 ^ k) (k := k) (Nat.mod_lt _ p0) (by omega)
  rw [← ez] at o
  rw [bz_sh (by omega), e4]
  unfold bz
  rw [bL_shl (by omega) (by omega)]
  rw [← e1] at h6 ⊢
  generalize z.toNat / 2 ^ k / 4 * 2 ^ (k + 2) = U at *
  generalize z.toNat % 2 ^ k = V at *
  generalize c.toNat * 2 ^ k = W at *
  have e5 : (z + (W : Int)).toNat = z.toNat + W := by omega
  rw [e5]
  apply L_ext
  rw [Int64.toBitVec_or, BitVec.toNat_or, bL_n (by omega), bL_n (by omega), bL_n (by omega), o]
  omega
def ou_at (h : am_H) (y : Nat) (c : Int) (P O Ln V : Int → Int) : Prop :=
  0 < y ∧ h.1 y = .inr (7, ou_fs y c) ∧ h.1 (y + 1) = .inl (1, 60, .inr (.inl (fun j : Nat => bz (P j)))) ∧ h.1 (y + 2) = .inl (0, 60, .inl (fun j : Nat => iI (O j))) ∧ h.1 (y + 3) = .inl (0, 60, .inl (fun j : Nat => iI (Ln j))) ∧ h.1 (y + 4) = .inl (1, 180, .inr (.inl (fun j : Nat => bz (ww V j))))
def ou_to (h : am_H) (y : Nat) (c : Int) (P O Ln V : Int → Int) (h1 : am_H) : Prop := ou_at h1 y c P O Ln V ∧ (∀ a, (a < y ∨ y + 4 < a) → h1.1 a = h.1 a) ∧ h1.2 = h.2
theorem ou_at.rf {h : am_H} {y : Nat} {c : Int} {P O Ln V : Int → Int} (H : ou_at h y c P O Ln V) : ou_to h y c P O Ln V h := ⟨H, fun _ _ => rfl, rfl⟩
theorem ou_to.tr {h h1 h2 : am_H} {y : Nat} {c c1 : Int} {P O Ln V P1 O1 Ln1 V1 : Int → Int} (H : ou_to h y c P O Ln V h1) (H1 : ou_to h1 y c1 P1 O1 Ln1 V1 h2) : ou_to h y c1 P1 O1 Ln1 V1 h2 := ⟨H1.1, fun a ha => (H1.2.1 a ha).trans (H.2.1 a ha), H1.2.2.trans H.2.2⟩
theorem ou_to.ct {h h1 : am_H} {y : Nat} {c c1 : Int} {P O Ln V : Int → Int} (H : ou_to h y c P O Ln V h1) : ou_to h y c1 P O Ln V (am_put h1 y (.inr (7, ou_fs y c1))) := by
  obtain ⟨⟨h0, hO, a1, a2, a3, a4⟩, hf, h2⟩ := H
  exact ⟨⟨h0, am_up_hit, (am_up_miss (by omega)).trans a1, (am_up_miss (by omega)).trans a2, (am_up_miss (by omega)).trans a3, (am_up_miss (by omega)).trans a4⟩, fun a ha => (am_up_miss (by omega)).trans (hf a ha), h2⟩
theorem ou_to.pk {h h1 : am_H} {y : Nat} {c : Int} {P O Ln V P1 : Int → Int} (H : ou_to h y c P O Ln V h1) : ou_to h y c P1 O Ln V (am_put h1 (y + 1) (.inl (1, 60, .inr (.inl (fun j : Nat => bz (P1 j)))))) := by
  obtain ⟨⟨h0, hO, a1, a2, a3, a4⟩, hf, h2⟩ := H
  exact ⟨⟨h0, (am_up_miss (by omega)).trans hO, am_up_hit, (am_up_miss (by omega)).trans a2, (am_up_miss (by omega)).trans a3, (am_up_miss (by omega)).trans a4⟩, fun a ha => (am_up_miss (by omega)).trans (hf a ha), h2⟩
theorem ou_to.rw {h h1 : am_H} {y : Nat} {c : Int} {P O Ln V O1 : Int → Int} (H : ou_to h y c P O Ln V h1) : ou_to h y c P O1 Ln V (am_put h1 (y + 2) (.inl (0, 60, .inl (fun j : Nat => iI (O1 j))))) := by
  obtain ⟨⟨h0, hO, a1, a2, a3, a4⟩, hf, h2⟩ := H
  exact ⟨⟨h0, (am_up_miss (by omega)).trans hO, (am_up_miss (by omega)).trans a1, am_up_hit, (am_up_miss (by omega)).trans a3, (am_up_miss (by omega)).trans a4⟩, fun a ha => (am_up_miss (by omega)).trans (hf a ha), h2⟩
theorem ou_to.ln {h h1 : am_H} {y : Nat} {c : Int} {P O Ln V L1 : Int → Int} (H : ou_to h y c P O Ln V h1) : ou_to h y c P O L1 V (am_put h1 (y + 3) (.inl (0, 60, .inl (fun j : Nat => iI (L1 j))))) := by
  obtain ⟨⟨h0, hO, a1, a2, a3, a4⟩, hf, h2⟩ := H
  exact ⟨⟨h0, (am_up_miss (by omega)).trans hO, (am_up_miss (by omega)).trans a1, (am_up_miss (by omega)).trans a2, am_up_hit, (am_up_miss (by omega)).trans a4⟩, fun a ha => (am_up_miss (by omega)).trans (hf a ha), h2⟩
theorem ou_to.wt {h h1 : am_H} {y : Nat} {c : Int} {P O Ln V V1 : Int → Int} (H : ou_to h y c P O Ln V h1) : ou_to h y c P O Ln V1 (am_put h1 (y + 4) (.inl (1, 180, .inr (.inl (fun j : Nat => bz (ww V1 j)))))) := by
  obtain ⟨⟨h0, hO, a1, a2, a3, a4⟩, hf, h2⟩ := H
  exact ⟨⟨h0, (am_up_miss (by omega)).trans hO, (am_up_miss (by omega)).trans a1, (am_up_miss (by omega)).trans a2, (am_up_miss (by omega)).trans a3, am_up_hit⟩, fun a ha => (am_up_miss (by omega)).trans (hf a ha), h2⟩
/-- a way W of length l, put to the row rw, from i on -/
def wr (V W : Int → Int) (rw i l : Int) : Int → Int := fun g => if 96 * rw + i ≤ g ∧ g < 96 * rw + l then W (g - 96 * rw) else V g
theorem wr_s {V W : Int → Int} {rw i l : Int} (h : i < l) : wr (vI V (96 * rw + i) (W i)) W rw (i + 1) l = wr V W rw i l := by
  funext g
  unfold wr vI
  by_cases c1 : g = 96 * rw + i
  · rw [if_neg (by omega), if_pos c1, if_pos (by omega), c1, show 96 * rw + i - 96 * rw = i by omega]
  · by_cases c2 : 96 * rw + i ≤ g ∧ g < 96 * rw + l
    · rw [if_pos (by omega), if_pos c2]
    · rw [if_neg (by omega), if_neg c1, if_neg c2]
theorem wr_e {V W : Int → Int} {rw l : Int} : wr V W rw l l = V := by
  funext g
  unfold wr
  rw [if_neg (by omega)]
set_option maxHeartbeats 8000000 in
theorem lp_kw (d : Nat) (y a : Nat) (ha : a < y ∨ y + 4 < a) (c : Int) (P O Ln : Int → Int) (W : Int → Int) (row l : Int) (hW : ∀ j : Int, 0 ≤ j ∧ j < l → 0 ≤ W j ∧ W j ≤ 3) (hrow : 0 ≤ row ∧ row < 60) (hl : 0 ≤ l ∧ l ≤ 66) : ∀ (k : Nat) (i : Int) (h : am_H) (V : Int → Int), ou_at h y c P O Ln V → h.1 a = .inl (0, 67, .inl (fun j : Nat => iI (W j))) → (∀ g, 0 ≤ V g ∧ V g ≤ 3) → (∀ g : Int, 96 * row + i ≤ g ∧ g < 96 * row + l → V g = 0) → 0 ≤ i → i + k = l → am_Go am_df am_MT d c_Outcomes_keepWitness (6, [(5, .int (iI i)), (4, .int (iI (row * 3))), (0, .ref y), (1, .int (iI row)), (2, .ref a), (3, .int (iI l))], [], h) (fun r0 h' => r0 = none ∧ ou_to h y c P O (vI Ln row l) (wr V W row i l) h') := by
  intro k
  induction k with
  | zero =>
    intro i h V H hA hV h0 h1 h2
    have H' := H
    obtain ⟨y0, hO, a1, a2, a3, a4⟩ := H'
    have e : i = l := by omega
    have cc : l ≤ l := Int.le_refl _
    have w := H.rf.ln (L1 := vI Ln row l)
    rw [e, wr_e]
    refine am_go_of 20 [6] _ c_Outcomes_keepWitness_6 ?_
    simp (maxSteps := 2000000) (disch := omega) only [c_Outcomes_keepWitness_0, c_Outcomes_keepWitness_1, c_Outcomes_keepWitness_2, c_Outcomes_keepWitness_3, c_Outcomes_keepWitness_4, c_Outcomes_keepWitness_5, c_Outcomes_keepWitness_6, c_Outcomes_keepWitness_7, c_Outcomes_keepWitness_8, c_Outcomes_keepWitness_9, c_Outcomes_keepWitness_10, c_Outcomes_keepWitness_11, c_Outcomes_keepWitness_12, c_Outcomes_keepWitness_13, c_Outcomes_keepWitness_14, c_Outcomes_keepWitness_15, c_Outcomes_keepWitness_16, c_Outcomes_keepWitness_17, c_Outcomes_keepWitness_18, c_Outcomes_keepWitness_19, c_Outcomes_keepWitness_20, c_Outcomes_keepWitness_21, c_Outcomes_keepWitness_22, c_Outcomes_keepWitness_23, c_Outcomes_keepWitness_24, c_Outcomes_keepWitness_25, c_Outcomes_keepWitness_26, c_Outcomes_keepWitness_27, c_Outcomes_keepWitness_28, c_Outcomes_keepWitness_29, c_Outcomes_keepWitness_30, c_Outcomes_keepWitness_31, c_Outcomes_keepWitness_32, c_Outcomes_keepWitness_33, c_Outcomes_keepWitness_34, c_Outcomes_keepWitness_35, c_Outcomes_keepWitness_36, c_Outcomes_keepWitness_37, sx_aload_n, sx_bipush, sx_dup2_ir, sx_getfield, sx_goto, sx_i2l, sx_iadd, sx_iaload, sx_iastore, sx_iconst, sx_idiv, sx_if_icmp_ge, sx_iinc, sx_iload, sx_iload_n, sx_imul, sx_irem, sx_istore, sx_laload, sx_lastore, sx_lor, sx_lshl, sx_return, am_W_s, am_W_0, am_mm_some, List.mem_cons, or_false, false_or, or_self, or_true, true_or, reduceIte, if_false, if_true, am_o_some, am_o_none, am_o_bad, am_o_good, am_ldi_hit, am_ldi_miss, am_lda_hit, am_lda_miss, am_ldl_hit, am_ldl_miss, am_inc_eq, am_inc_hit, am_inc_miss, am_ob_hit, am_fd_0, am_fd_s, am_ai_hit, am_ab_3, am_al_hit, am_aq_4, am_al0_hit, am_put_1, am_put_2, am_put_put, am_up_hit, am_up_miss, am_s1_eq, am_s2_eq, am_fl_nil, am_fl_hit, am_fl_int, am_fl_ref, am_fl_long, am_fl_longx, am_fl2_nil, am_fl2_hit, am_fl2_hit1, am_fl2_int, am_fl2_ref, am_fl2_long, List.not_mem_nil, not_false_eq_true, ne_eq, Nat.reduceAdd, Nat.reduceEqDiff, Nat.zero_add, Nat.add_left_cancel_iff, List.set_cons_zero, List.set_cons_succ, List.length_cons, List.length_nil, Nat.reduceLT, am_ft_i, am_ft_r, am_ft_z, and_true, true_and, Option.toList_some, Option.toList_none, List.cons_append, List.nil_append, List.drop_succ_cons, List.drop_zero, iI_c, iI_b, iI_s, iI_n, iI_add, iI_sub, iI_mul, iI_neg, iI_nle, iI_ix, iI_eq0, iI_eq1, iI_lt0, iI_0lt, iI_le0, iI_0le, iI_eq, iI_lt, iI_le, iI_upd, iI_updZ, Int.reduceEq, Int.reduceLT, Int.reduceLE, Int.reduceNeg, Int.reduceNe, hO, a3, cc, ou_fs_len, ou_f0, ou_f1, ou_f2, ou_f3, ou_f4, ou_s0, rw_hit]
    repeat (refine And.intro (by omega) ?_)
    exact w
  | succ k ih =>
    intro i h V H hA hV h0 h1 h2
    have H' := H
    obtain ⟨y0, hO, a1, a2, a3, a4⟩ := H'
    have cc : ¬ l ≤ i := by omega
    have hj : 0 ≤ i / 32 ∧ i / 32 ≤ 2 := by omega
    obtain ⟨e, he, ee⟩ : ∃ e : Nat, e < 32 ∧ i = 32 * (i / 32) + e := ⟨(i % 32).toNat, by omega, by omega⟩
    generalize ej : i / 32 = j at *
    have wi := hW i ⟨h1, by omega⟩
    have eg : 32 * (row * 3 + j) + (e : Int) = 96 * row + i := by omega
    have z0 : V (32 * (row * 3 + j) + e) = 0 := by
      rw [eg]
      exact h0 _ (by omega)
    have rd := wl_rd hV 32 e (32 * (row * 3 + j)) he
    rw [z0] at rd
    have rg := ww_rg hV (row * 3 + j)
    have up := ww_up (V := V) (j := row * 3 + j) (v := W i) he z0
    rw [eg] at up
    have hV2 : ∀ g, 0 ≤ vI V (96 * row + i) (W i) g ∧ vI V (96 * row + i) (W i) g ≤ 3 := fun g => by
      have := hV g
      unfold vI
      split <;> omega
    have rg2 := ww_rg hV2 (row * 3 + j)
    rw [← up, vI_hit] at rg2
    have p4 : (4 : Int) ^ e = 2 ^ (2 * e) := by
      rw [Int.pow_mul]
      rfl
    have eo := bz_in2 (z := ww V (row * 3 + j)) (c := W i) (k := 2 * e) (by omega) rg.1 rg.2 (by rw [← p4]; exact rd) wi.1 wi.2 (by rw [← p4]; exact rg2.2)
    rw [← p4] at eo
    have e2 : (i - j * 32) * 2 = ((2 * e : Nat) : Int) := by omega
    have w := H.rf.wt (V1 := vI V (96 * row + i) (W i))
    have g := ih (i + 1) _ _ w.1 ((w.2.1 a ha).trans hA) hV2 (fun g hg => by
      rw [vI_miss (by omega)]
      exact h0 g (by omega)) (by omega) (by omega)
    rw [wr_s (by omega)] at g
    have g2 := g.mono (fun r0 h3 z => (⟨z.1, w.tr z.2⟩ : r0 = none ∧ ou_to h y c P O (vI Ln row l) (wr V W row i l) h3))
    rw [← up] at g2
    clear ih g w hW hV hV2 h0 up rd z0 rg2 ee eg p4
    generalize ww V (row * 3 + j) + W i * 4 ^ e = z2 at *
    generalize (2 * e : Nat) = e9 at *
    refine am_go_of 40 [6] _ c_Outcomes_keepWitness_6 ?_
    simp (maxSteps := 2000000) (disch := omega) only [c_Outcomes_keepWitness_0, c_Outcomes_keepWitness_1, c_Outcomes_keepWitness_2, c_Outcomes_keepWitness_3, c_Outcomes_keepWitness_4, c_Outcomes_keepWitness_5, c_Outcomes_keepWitness_6, c_Outcomes_keepWitness_7, c_Outcomes_keepWitness_8, c_Outcomes_keepWitness_9, c_Outcomes_keepWitness_10, c_Outcomes_keepWitness_11, c_Outcomes_keepWitness_12, c_Outcomes_keepWitness_13, c_Outcomes_keepWitness_14, c_Outcomes_keepWitness_15, c_Outcomes_keepWitness_16, c_Outcomes_keepWitness_17, c_Outcomes_keepWitness_18, c_Outcomes_keepWitness_19, c_Outcomes_keepWitness_20, c_Outcomes_keepWitness_21, c_Outcomes_keepWitness_22, c_Outcomes_keepWitness_23, c_Outcomes_keepWitness_24, c_Outcomes_keepWitness_25, c_Outcomes_keepWitness_26, c_Outcomes_keepWitness_27, c_Outcomes_keepWitness_28, c_Outcomes_keepWitness_29, c_Outcomes_keepWitness_30, c_Outcomes_keepWitness_31, c_Outcomes_keepWitness_32, c_Outcomes_keepWitness_33, c_Outcomes_keepWitness_34, c_Outcomes_keepWitness_35, c_Outcomes_keepWitness_36, c_Outcomes_keepWitness_37, sx_aload_n, sx_bipush, sx_dup2_ir, sx_getfield, sx_goto, sx_i2l, sx_iadd, sx_iaload, sx_iastore, sx_iconst, sx_idiv, sx_if_icmp_ge, sx_iinc, sx_iload, sx_iload_n, sx_imul, sx_irem, sx_istore, sx_laload, sx_lastore, sx_lor, sx_lshl, sx_return, am_W_s, am_W_0, am_mm_some, List.mem_cons, or_false, false_or, or_self, or_true, true_or, reduceIte, if_false, if_true, am_o_some, am_o_none, am_o_bad, am_o_good, am_ldi_hit, am_ldi_miss, am_lda_hit, am_lda_miss, am_ldl_hit, am_ldl_miss, am_inc_eq, am_inc_hit, am_inc_miss, am_ob_hit, am_fd_0, am_fd_s, am_ai_hit, am_ab_3, am_al_hit, am_aq_4, am_al0_hit, am_put_1, am_put_2, am_put_put, am_up_hit, am_up_miss, am_s1_eq, am_s2_eq, am_fl_nil, am_fl_hit, am_fl_int, am_fl_ref, am_fl_long, am_fl_longx, am_fl2_nil, am_fl2_hit, am_fl2_hit1, am_fl2_int, am_fl2_ref, am_fl2_long, List.not_mem_nil, not_false_eq_true, ne_eq, Nat.reduceAdd, Nat.reduceEqDiff, Nat.zero_add, Nat.add_left_cancel_iff, List.set_cons_zero, List.set_cons_succ, List.length_cons, List.length_nil, Nat.reduceLT, am_ft_i, am_ft_r, am_ft_z, and_true, true_and, Option.toList_some, Option.toList_none, List.cons_append, List.nil_append, List.drop_succ_cons, List.drop_zero, iI_c, iI_b, iI_s, iI_n, iI_add, iI_sub, iI_mul, iI_neg, iI_nle, iI_ix, iI_eq0, iI_eq1, iI_lt0, iI_0lt, iI_le0, iI_0le, iI_eq, iI_lt, iI_le, iI_upd, iI_updZ, Int.reduceEq, Int.reduceLT, Int.reduceLE, Int.reduceNeg, Int.reduceNe, hO, a4, hA, cc, iI_div, ej, e2, eo, bz_upd, ou_fs_len, ou_f0, ou_f1, ou_f2, ou_f3, ou_f4, ou_s0, rw_hit]
    repeat (refine And.intro (by omega) ?_)
    exact g2.lo (al_le_of (by simp) (by simp))
set_option maxHeartbeats 8000000 in
theorem ct_kw (d : Nat) (hd : 1 ≤ d) (y a : Nat) (ha : a < y ∨ y + 4 < a) (c : Int) (P O Ln : Int → Int) (W : Int → Int) (row l : Int) (hW : ∀ j : Int, 0 ≤ j ∧ j < l → 0 ≤ W j ∧ W j ≤ 3) (hrow : 0 ≤ row ∧ row < 60) (hl : 0 ≤ l ∧ l ≤ 66) (h : am_H) (V : Int → Int) (H : ou_at h y c P O Ln V) (hA : h.1 a = .inl (0, 67, .inl (fun j : Nat => iI (W j)))) (hV : ∀ g, 0 ≤ V g ∧ V g ≤ 3) (h0 : ∀ g : Int, 96 * row ≤ g ∧ g < 96 * row + l → V g = 0) : am_Ct am_df am_MT d 90 [.ref y, .int (iI row), .ref a, .int (iI l)] h (fun r0 h' => r0 = none ∧ ou_to h y c P O (vI Ln row l) (wr V W row 0 l) h') := by
  obtain ⟨d, rfl⟩ : ∃ e, d = e + 1 := ⟨d - 1, by omega⟩
  refine am_ct_of2 mt_Outcomes_keepWitness (Nat.le_of_ble_eq_true rfl) ?_
  simp only [ar_nil, ar_int, ar_ref, ar_long, Nat.reduceAdd]
  refine am_go_of 10 [6] _ c_Outcomes_keepWitness_0 ?_
  simp (maxSteps := 2000000) (disch := omega) only [c_Outcomes_keepWitness_0, c_Outcomes_keepWitness_1, c_Outcomes_keepWitness_2, c_Outcomes_keepWitness_3, c_Outcomes_keepWitness_4, c_Outcomes_keepWitness_5, c_Outcomes_keepWitness_6, c_Outcomes_keepWitness_7, c_Outcomes_keepWitness_8, c_Outcomes_keepWitness_9, c_Outcomes_keepWitness_10, c_Outcomes_keepWitness_11, c_Outcomes_keepWitness_12, c_Outcomes_keepWitness_13, c_Outcomes_keepWitness_14, c_Outcomes_keepWitness_15, c_Outcomes_keepWitness_16, c_Outcomes_keepWitness_17, c_Outcomes_keepWitness_18, c_Outcomes_keepWitness_19, c_Outcomes_keepWitness_20, c_Outcomes_keepWitness_21, c_Outcomes_keepWitness_22, c_Outcomes_keepWitness_23, c_Outcomes_keepWitness_24, c_Outcomes_keepWitness_25, c_Outcomes_keepWitness_26, c_Outcomes_keepWitness_27, c_Outcomes_keepWitness_28, c_Outcomes_keepWitness_29, c_Outcomes_keepWitness_30, c_Outcomes_keepWitness_31, c_Outcomes_keepWitness_32, c_Outcomes_keepWitness_33, c_Outcomes_keepWitness_34, c_Outcomes_keepWitness_35, c_Outcomes_keepWitness_36, c_Outcomes_keepWitness_37, sx_aload_n, sx_bipush, sx_dup2_ir, sx_getfield, sx_goto, sx_i2l, sx_iadd, sx_iaload, sx_iastore, sx_iconst, sx_idiv, sx_if_icmp_ge, sx_iinc, sx_iload, sx_iload_n, sx_imul, sx_irem, sx_istore, sx_laload, sx_lastore, sx_lor, sx_lshl, sx_return, am_W_s, am_W_0, am_mm_some, List.mem_cons, or_false, false_or, or_self, or_true, true_or, reduceIte, if_false, if_true, am_o_some, am_o_none, am_o_bad, am_o_good, am_ldi_hit, am_ldi_miss, am_lda_hit, am_lda_miss, am_ldl_hit, am_ldl_miss, am_inc_eq, am_inc_hit, am_inc_miss, am_ob_hit, am_fd_0, am_fd_s, am_ai_hit, am_ab_3, am_al_hit, am_aq_4, am_al0_hit, am_put_1, am_put_2, am_put_put, am_up_hit, am_up_miss, am_s1_eq, am_s2_eq, am_fl_nil, am_fl_hit, am_fl_int, am_fl_ref, am_fl_long, am_fl_longx, am_fl2_nil, am_fl2_hit, am_fl2_hit1, am_fl2_int, am_fl2_ref, am_fl2_long, List.not_mem_nil, not_false_eq_true, ne_eq, Nat.reduceAdd, Nat.reduceEqDiff, Nat.zero_add, Nat.add_left_cancel_iff, List.set_cons_zero, List.set_cons_succ, List.length_cons, List.length_nil, Nat.reduceLT, am_ft_i, am_ft_r, am_ft_z, and_true, true_and, Option.toList_some, Option.toList_none, List.cons_append, List.nil_append, List.drop_succ_cons, List.drop_zero, iI_c, iI_b, iI_s, iI_n, iI_add, iI_sub, iI_mul, iI_neg, iI_nle, iI_ix, iI_eq0, iI_eq1, iI_lt0, iI_0lt, iI_le0, iI_0le, iI_eq, iI_lt, iI_le, iI_upd, iI_updZ, Int.reduceEq, Int.reduceLT, Int.reduceLE, Int.reduceNeg, Int.reduceNe, ou_fs_len, ou_f0, ou_f1, ou_f2, ou_f3, ou_f4, ou_s0, rw_hit]
  exact (lp_kw d y a ha c P O Ln W row l hW hrow hl l.toNat 0 h V H hA hV (fun g hg => h0 g (by omega)) (Int.le_refl _) (by omega)).lo (al_le_of (by simp) (by simp))
