theorem mt_Run_takeAway : am_MT[23]? = some m_Run_takeAway := rfl
theorem c_Run_takeAway_0 : c_Run_takeAway[0]? = some (0, 1, .aload_n 0, 0, 0, 0, 0, 0, []) := Eq.trans rfl rfl
theorem c_Run_takeAway_1 : c_Run_takeAway[1]? = some (1, 3, .getfield 22, 3, 2, 0, 0, 203, []) := Eq.trans rfl rfl
theorem c_Run_takeAway_2 : c_Run_takeAway[2]? = some (4, 1, .iload_n 1, 1, 0, 0, 0, 0, []) := Eq.trans rfl rfl
theorem c_Run_takeAway_3 : c_Run_takeAway[3]? = some (5, 1, .iload_n 2, 2, 0, 0, 0, 0, []) := Eq.trans rfl rfl
theorem c_Run_takeAway_4 : c_Run_takeAway[4]? = some (6, 1, .iastore, 0, 0, 0, 0, 0, []) := Eq.trans rfl rfl
theorem c_Run_takeAway_5 : c_Run_takeAway[5]? = some (7, 1, .aload_n 0, 0, 0, 0, 0, 0, []) := Eq.trans rfl rfl
theorem c_Run_takeAway_6 : c_Run_takeAway[6]? = some (8, 3, .getfield 26, 3, 3, 0, 0, 205, []) := Eq.trans rfl rfl
theorem c_Run_takeAway_7 : c_Run_takeAway[7]? = some (11, 1, .iload_n 1, 1, 0, 0, 0, 0, []) := Eq.trans rfl rfl
theorem c_Run_takeAway_8 : c_Run_takeAway[8]? = some (12, 1, .iconst 0, 0, 0, 0, 0, 0, []) := Eq.trans rfl rfl
theorem c_Run_takeAway_9 : c_Run_takeAway[9]? = some (13, 1, .iastore, 0, 0, 0, 0, 0, []) := Eq.trans rfl rfl
theorem c_Run_takeAway_10 : c_Run_takeAway[10]? = some (14, 1, .aload_n 0, 0, 0, 0, 0, 0, []) := Eq.trans rfl rfl
theorem c_Run_takeAway_11 : c_Run_takeAway[11]? = some (15, 3, .getfield 40, 3, 9, 0, 0, 215, []) := Eq.trans rfl rfl
theorem c_Run_takeAway_12 : c_Run_takeAway[12]? = some (18, 1, .iload_n 1, 1, 0, 0, 0, 0, []) := Eq.trans rfl rfl
theorem c_Run_takeAway_13 : c_Run_takeAway[13]? = some (19, 1, .iconst 0, 0, 0, 0, 0, 0, []) := Eq.trans rfl rfl
theorem c_Run_takeAway_14 : c_Run_takeAway[14]? = some (20, 1, .iastore, 0, 0, 0, 0, 0, []) := Eq.trans rfl rfl
theorem c_Run_takeAway_15 : c_Run_takeAway[15]? = some (21, 1, .aload_n 0, 0, 0, 0, 0, 0, []) := Eq.trans rfl rfl
theorem c_Run_takeAway_16 : c_Run_takeAway[16]? = some (22, 3, .getfield 43, 3, 10, 0, 0, 216, []) := Eq.trans rfl rfl
theorem c_Run_takeAway_17 : c_Run_takeAway[17]? = some (25, 1, .iload_n 1, 1, 0, 0, 0, 0, []) := Eq.trans rfl rfl
theorem c_Run_takeAway_18 : c_Run_takeAway[18]? = some (26, 1, .iconst 0, 0, 0, 0, 0, 0, []) := Eq.trans rfl rfl
theorem c_Run_takeAway_19 : c_Run_takeAway[19]? = some (27, 1, .bastore, 0, 0, 0, 0, 0, []) := Eq.trans rfl rfl
theorem c_Run_takeAway_20 : c_Run_takeAway[20]? = some (28, 1, .aload_n 0, 0, 0, 0, 0, 0, []) := Eq.trans rfl rfl
theorem c_Run_takeAway_21 : c_Run_takeAway[21]? = some (29, 3, .getfield 47, 3, 11, 0, 0, 217, []) := Eq.trans rfl rfl
theorem c_Run_takeAway_22 : c_Run_takeAway[22]? = some (32, 1, .iload_n 1, 1, 0, 0, 0, 0, []) := Eq.trans rfl rfl
theorem c_Run_takeAway_23 : c_Run_takeAway[23]? = some (33, 1, .iconst 0, 0, 0, 0, 0, 0, []) := Eq.trans rfl rfl
theorem c_Run_takeAway_24 : c_Run_takeAway[24]? = some (34, 1, .iastore, 0, 0, 0, 0, 0, []) := Eq.trans rfl rfl
theorem c_Run_takeAway_25 : c_Run_takeAway[25]? = some (35, 1, .aload_n 0, 0, 0, 0, 0, 0, []) := Eq.trans rfl rfl
theorem c_Run_takeAway_26 : c_Run_takeAway[26]? = some (36, 3, .getfield 50, 3, 12, 0, 0, 218, []) := Eq.trans rfl rfl
theorem c_Run_takeAway_27 : c_Run_takeAway[27]? = some (39, 1, .iload_n 1, 1, 0, 0, 0, 0, []) := Eq.trans rfl rfl
theorem c_Run_takeAway_28 : c_Run_takeAway[28]? = some (40, 1, .iconst 0, 0, 0, 0, 0, 0, []) := Eq.trans rfl rfl
theorem c_Run_takeAway_29 : c_Run_takeAway[29]? = some (41, 1, .iastore, 0, 0, 0, 0, 0, []) := Eq.trans rfl rfl
theorem c_Run_takeAway_30 : c_Run_takeAway[30]? = some (42, 1, .return_, 0, 0, 0, 0, 0, []) := Eq.trans rfl rfl
theorem mt_Run_endThread : am_MT[51]? = some m_Run_endThread := rfl
theorem c_Run_endThread_0 : c_Run_endThread[0]? = some (0, 1, .aload_n 0, 0, 0, 0, 0, 0, []) := Eq.trans rfl rfl
theorem c_Run_endThread_1 : c_Run_endThread[1]? = some (1, 3, .getfield 53, 3, 13, 0, 0, 219, []) := Eq.trans rfl rfl
theorem c_Run_endThread_2 : c_Run_endThread[2]? = some (4, 1, .iload_n 1, 1, 0, 0, 0, 0, []) := Eq.trans rfl rfl
theorem c_Run_endThread_3 : c_Run_endThread[3]? = some (5, 1, .iconst 2, 0, 0, 0, 0, 0, []) := Eq.trans rfl rfl
theorem c_Run_endThread_4 : c_Run_endThread[4]? = some (6, 1, .iload_n 2, 2, 0, 0, 0, 0, []) := Eq.trans rfl rfl
theorem c_Run_endThread_5 : c_Run_endThread[5]? = some (7, 1, .iadd, 0, 0, 0, 0, 0, []) := Eq.trans rfl rfl
theorem c_Run_endThread_6 : c_Run_endThread[6]? = some (8, 1, .iastore, 0, 0, 0, 0, 0, []) := Eq.trans rfl rfl
theorem c_Run_endThread_7 : c_Run_endThread[7]? = some (9, 1, .aload_n 0, 0, 0, 0, 0, 0, []) := Eq.trans rfl rfl
theorem c_Run_endThread_8 : c_Run_endThread[8]? = some (10, 3, .getfield 47, 3, 11, 0, 0, 217, []) := Eq.trans rfl rfl
theorem c_Run_endThread_9 : c_Run_endThread[9]? = some (13, 2, .bipush 6, 0, 0, 0, 0, 0, []) := Eq.trans rfl rfl
theorem c_Run_endThread_10 : c_Run_endThread[10]? = some (15, 1, .iload_n 1, 1, 0, 0, 0, 0, []) := Eq.trans rfl rfl
theorem c_Run_endThread_11 : c_Run_endThread[11]? = some (16, 1, .iadd, 0, 0, 0, 0, 0, []) := Eq.trans rfl rfl
theorem c_Run_endThread_12 : c_Run_endThread[12]? = some (17, 1, .iconst 0, 0, 0, 0, 0, 0, []) := Eq.trans rfl rfl
theorem c_Run_endThread_13 : c_Run_endThread[13]? = some (18, 1, .iastore, 0, 0, 0, 0, 0, []) := Eq.trans rfl rfl
theorem c_Run_endThread_14 : c_Run_endThread[14]? = some (19, 1, .aload_n 0, 0, 0, 0, 0, 0, []) := Eq.trans rfl rfl
theorem c_Run_endThread_15 : c_Run_endThread[15]? = some (20, 3, .getfield 50, 3, 12, 0, 0, 218, []) := Eq.trans rfl rfl
theorem c_Run_endThread_16 : c_Run_endThread[16]? = some (23, 2, .bipush 6, 0, 0, 0, 0, 0, []) := Eq.trans rfl rfl
theorem c_Run_endThread_17 : c_Run_endThread[17]? = some (25, 1, .iload_n 1, 1, 0, 0, 0, 0, []) := Eq.trans rfl rfl
theorem c_Run_endThread_18 : c_Run_endThread[18]? = some (26, 1, .iadd, 0, 0, 0, 0, 0, []) := Eq.trans rfl rfl
theorem c_Run_endThread_19 : c_Run_endThread[19]? = some (27, 1, .iconst 0, 0, 0, 0, 0, 0, []) := Eq.trans rfl rfl
theorem c_Run_endThread_20 : c_Run_endThread[20]? = some (28, 1, .iastore, 0, 0, 0, 0, 0, []) := Eq.trans rfl rfl
theorem c_Run_endThread_21 : c_Run_endThread[21]? = some (29, 1, .aload_n 0, 0, 0, 0, 0, 0, []) := Eq.trans rfl rfl
theorem c_Run_endThread_22 : c_Run_endThread[22]? = some (30, 3, .getfield 18, 3, 1, 0, 0, 201, []) := Eq.trans rfl rfl
theorem c_Run_endThread_23 : c_Run_endThread[23]? = some (33, 1, .iload_n 1, 1, 0, 0, 0, 0, []) := Eq.trans rfl rfl
theorem c_Run_endThread_24 : c_Run_endThread[24]? = some (34, 1, .iconst 5, 0, 0, 0, 0, 0, []) := Eq.trans rfl rfl
theorem c_Run_endThread_25 : c_Run_endThread[25]? = some (35, 1, .iload_n 2, 2, 0, 0, 0, 0, []) := Eq.trans rfl rfl
theorem c_Run_endThread_26 : c_Run_endThread[26]? = some (36, 3, .invokevirtual 142, 50, 4, 4, 0, 510, []) := Eq.trans rfl rfl
theorem c_Run_endThread_27 : c_Run_endThread[27]? = some (39, 1, .return_, 0, 0, 0, 0, 0, []) := Eq.trans rfl rfl
theorem mt_Run_enter : am_MT[52]? = some m_Run_enter := rfl
theorem c_Run_enter_0 : c_Run_enter[0]? = some (0, 1, .aload_n 0, 0, 0, 0, 0, 0, []) := Eq.trans rfl rfl
theorem c_Run_enter_1 : c_Run_enter[1]? = some (1, 3, .getfield 37, 3, 6, 0, 0, 211, []) := Eq.trans rfl rfl
theorem c_Run_enter_2 : c_Run_enter[2]? = some (4, 1, .iload_n 1, 1, 0, 0, 0, 0, []) := Eq.trans rfl rfl
theorem c_Run_enter_3 : c_Run_enter[3]? = some (5, 1, .iaload, 0, 0, 0, 0, 0, []) := Eq.trans rfl rfl
theorem c_Run_enter_4 : c_Run_enter[4]? = some (6, 1, .istore_n 3, 3, 0, 0, 0, 0, []) := Eq.trans rfl rfl
theorem c_Run_enter_5 : c_Run_enter[5]? = some (7, 1, .iload_n 3, 3, 0, 0, 0, 0, []) := Eq.trans rfl rfl
theorem c_Run_enter_6 : c_Run_enter[6]? = some (8, 2, .bipush 6, 0, 0, 0, 0, 0, []) := Eq.trans rfl rfl
theorem c_Run_enter_7 : c_Run_enter[7]? = some (10, 3, .if_icmp .lt 4, 9, 0, 0, 0, 0, []) := Eq.trans rfl rfl
theorem c_Run_enter_8 : c_Run_enter[8]? = some (13, 1, .return_, 0, 0, 0, 0, 0, []) := Eq.trans rfl rfl
theorem c_Run_enter_9 : c_Run_enter[9]? = some (14, 1, .aload_n 0, 0, 0, 0, 0, 0, []) := Eq.trans rfl rfl
theorem c_Run_enter_10 : c_Run_enter[10]? = some (15, 3, .getfield 22, 3, 2, 0, 0, 203, []) := Eq.trans rfl rfl
theorem c_Run_enter_11 : c_Run_enter[11]? = some (18, 1, .iload_n 2, 2, 0, 0, 0, 0, []) := Eq.trans rfl rfl
theorem c_Run_enter_12 : c_Run_enter[12]? = some (19, 1, .iconst 1, 0, 0, 0, 0, 0, []) := Eq.trans rfl rfl
theorem c_Run_enter_13 : c_Run_enter[13]? = some (20, 1, .iastore, 0, 0, 0, 0, 0, []) := Eq.trans rfl rfl
theorem c_Run_enter_14 : c_Run_enter[14]? = some (21, 1, .aload_n 0, 0, 0, 0, 0, 0, []) := Eq.trans rfl rfl
theorem c_Run_enter_15 : c_Run_enter[15]? = some (22, 3, .getfield 26, 3, 3, 0, 0, 205, []) := Eq.trans rfl rfl
theorem c_Run_enter_16 : c_Run_enter[16]? = some (25, 1, .iload_n 2, 2, 0, 0, 0, 0, []) := Eq.trans rfl rfl
theorem c_Run_enter_17 : c_Run_enter[17]? = some (26, 1, .iload_n 1, 1, 0, 0, 0, 0, []) := Eq.trans rfl rfl
theorem c_Run_enter_18 : c_Run_enter[18]? = some (27, 1, .iastore, 0, 0, 0, 0, 0, []) := Eq.trans rfl rfl
theorem c_Run_enter_19 : c_Run_enter[19]? = some (28, 1, .aload_n 0, 0, 0, 0, 0, 0, []) := Eq.trans rfl rfl
theorem c_Run_enter_20 : c_Run_enter[20]? = some (29, 3, .getfield 40, 3, 9, 0, 0, 215, []) := Eq.trans rfl rfl
theorem c_Run_enter_21 : c_Run_enter[21]? = some (32, 1, .iload_n 2, 2, 0, 0, 0, 0, []) := Eq.trans rfl rfl
theorem c_Run_enter_22 : c_Run_enter[22]? = some (33, 1, .iload_n 3, 3, 0, 0, 0, 0, []) := Eq.trans rfl rfl
theorem c_Run_enter_23 : c_Run_enter[23]? = some (34, 1, .iastore, 0, 0, 0, 0, 0, []) := Eq.trans rfl rfl
theorem c_Run_enter_24 : c_Run_enter[24]? = some (35, 1, .aload_n 0, 0, 0, 0, 0, 0, []) := Eq.trans rfl rfl
theorem c_Run_enter_25 : c_Run_enter[25]? = some (36, 3, .getfield 43, 3, 10, 0, 0, 216, []) := Eq.trans rfl rfl
theorem c_Run_enter_26 : c_Run_enter[26]? = some (39, 1, .iload_n 2, 2, 0, 0, 0, 0, []) := Eq.trans rfl rfl
theorem c_Run_enter_27 : c_Run_enter[27]? = some (40, 1, .iconst 1, 0, 0, 0, 0, 0, []) := Eq.trans rfl rfl
theorem c_Run_enter_28 : c_Run_enter[28]? = some (41, 1, .bastore, 0, 0, 0, 0, 0, []) := Eq.trans rfl rfl
theorem c_Run_enter_29 : c_Run_enter[29]? = some (42, 1, .aload_n 0, 0, 0, 0, 0, 0, []) := Eq.trans rfl rfl
theorem c_Run_enter_30 : c_Run_enter[30]? = some (43, 3, .getfield 34, 3, 5, 0, 0, 209, []) := Eq.trans rfl rfl
theorem c_Run_enter_31 : c_Run_enter[31]? = some (46, 1, .iload_n 1, 1, 0, 0, 0, 0, []) := Eq.trans rfl rfl
theorem c_Run_enter_32 : c_Run_enter[32]? = some (47, 1, .aaload, 0, 0, 0, 0, 0, []) := Eq.trans rfl rfl
theorem c_Run_enter_33 : c_Run_enter[33]? = some (48, 1, .iload_n 3, 3, 0, 0, 0, 0, []) := Eq.trans rfl rfl
theorem c_Run_enter_34 : c_Run_enter[34]? = some (49, 1, .iload_n 2, 2, 0, 0, 0, 0, []) := Eq.trans rfl rfl
theorem c_Run_enter_35 : c_Run_enter[35]? = some (50, 1, .iastore, 0, 0, 0, 0, 0, []) := Eq.trans rfl rfl
theorem c_Run_enter_36 : c_Run_enter[36]? = some (51, 1, .aload_n 0, 0, 0, 0, 0, 0, []) := Eq.trans rfl rfl
theorem c_Run_enter_37 : c_Run_enter[37]? = some (52, 3, .getfield 37, 3, 6, 0, 0, 211, []) := Eq.trans rfl rfl
theorem c_Run_enter_38 : c_Run_enter[38]? = some (55, 1, .iload_n 1, 1, 0, 0, 0, 0, []) := Eq.trans rfl rfl
theorem c_Run_enter_39 : c_Run_enter[39]? = some (56, 1, .iload_n 3, 3, 0, 0, 0, 0, []) := Eq.trans rfl rfl
theorem c_Run_enter_40 : c_Run_enter[40]? = some (57, 1, .iconst 1, 0, 0, 0, 0, 0, []) := Eq.trans rfl rfl
theorem c_Run_enter_41 : c_Run_enter[41]? = some (58, 1, .iadd, 0, 0, 0, 0, 0, []) := Eq.trans rfl rfl
theorem c_Run_enter_42 : c_Run_enter[42]? = some (59, 1, .iastore, 0, 0, 0, 0, 0, []) := Eq.trans rfl rfl
theorem c_Run_enter_43 : c_Run_enter[43]? = some (60, 1, .aload_n 0, 0, 0, 0, 0, 0, []) := Eq.trans rfl rfl
theorem c_Run_enter_44 : c_Run_enter[44]? = some (61, 3, .getfield 18, 3, 1, 0, 0, 201, []) := Eq.trans rfl rfl
theorem c_Run_enter_45 : c_Run_enter[45]? = some (64, 1, .iload_n 1, 1, 0, 0, 0, 0, []) := Eq.trans rfl rfl
theorem c_Run_enter_46 : c_Run_enter[46]? = some (65, 1, .iconst 0, 0, 0, 0, 0, 0, []) := Eq.trans rfl rfl
theorem c_Run_enter_47 : c_Run_enter[47]? = some (66, 1, .iload_n 2, 2, 0, 0, 0, 0, []) := Eq.trans rfl rfl
theorem c_Run_enter_48 : c_Run_enter[48]? = some (67, 3, .invokevirtual 142, 50, 4, 4, 0, 510, []) := Eq.trans rfl rfl
theorem c_Run_enter_49 : c_Run_enter[49]? = some (70, 1, .return_, 0, 0, 0, 0, 0, []) := Eq.trans rfl rfl
theorem mt_Run_finish : am_MT[55]? = some m_Run_finish := rfl
theorem c_Run_finish_0 : c_Run_finish[0]? = some (0, 1, .iload_n 2, 2, 0, 0, 0, 0, []) := Eq.trans rfl rfl
theorem c_Run_finish_1 : c_Run_finish[1]? = some (1, 2, .bipush 6, 0, 0, 0, 0, 0, []) := Eq.trans rfl rfl
theorem c_Run_finish_2 : c_Run_finish[2]? = some (3, 3, .if_icmp .ge 32, 22, 0, 0, 0, 0, []) := Eq.trans rfl rfl
theorem c_Run_finish_3 : c_Run_finish[3]? = some (6, 1, .aload_n 0, 0, 0, 0, 0, 0, []) := Eq.trans rfl rfl
theorem c_Run_finish_4 : c_Run_finish[4]? = some (7, 3, .getfield 37, 3, 6, 0, 0, 211, []) := Eq.trans rfl rfl
theorem c_Run_finish_5 : c_Run_finish[5]? = some (10, 1, .iload_n 1, 1, 0, 0, 0, 0, []) := Eq.trans rfl rfl
theorem c_Run_finish_6 : c_Run_finish[6]? = some (11, 1, .dup2, 0, 0, 0, 0, 0, []) := Eq.trans rfl rfl
theorem c_Run_finish_7 : c_Run_finish[7]? = some (12, 1, .iaload, 0, 0, 0, 0, 0, []) := Eq.trans rfl rfl
theorem c_Run_finish_8 : c_Run_finish[8]? = some (13, 1, .iconst 1, 0, 0, 0, 0, 0, []) := Eq.trans rfl rfl
theorem c_Run_finish_9 : c_Run_finish[9]? = some (14, 1, .isub, 0, 0, 0, 0, 0, []) := Eq.trans rfl rfl
theorem c_Run_finish_10 : c_Run_finish[10]? = some (15, 1, .iastore, 0, 0, 0, 0, 0, []) := Eq.trans rfl rfl
theorem c_Run_finish_11 : c_Run_finish[11]? = some (16, 1, .aload_n 0, 0, 0, 0, 0, 0, []) := Eq.trans rfl rfl
theorem c_Run_finish_12 : c_Run_finish[12]? = some (17, 1, .iload_n 2, 2, 0, 0, 0, 0, []) := Eq.trans rfl rfl
theorem c_Run_finish_13 : c_Run_finish[13]? = some (18, 1, .iconst 2, 0, 0, 0, 0, 0, []) := Eq.trans rfl rfl
theorem c_Run_finish_14 : c_Run_finish[14]? = some (19, 3, .invokevirtual 73, 23, 3, 3, 0, 400, []) := Eq.trans rfl rfl
theorem c_Run_finish_15 : c_Run_finish[15]? = some (22, 1, .aload_n 0, 0, 0, 0, 0, 0, []) := Eq.trans rfl rfl
theorem c_Run_finish_16 : c_Run_finish[16]? = some (23, 3, .getfield 18, 3, 1, 0, 0, 201, []) := Eq.trans rfl rfl
theorem c_Run_finish_17 : c_Run_finish[17]? = some (26, 1, .iload_n 1, 1, 0, 0, 0, 0, []) := Eq.trans rfl rfl
theorem c_Run_finish_18 : c_Run_finish[18]? = some (27, 1, .iconst 1, 0, 0, 0, 0, 0, []) := Eq.trans rfl rfl
theorem c_Run_finish_19 : c_Run_finish[19]? = some (28, 1, .iload_n 2, 2, 0, 0, 0, 0, []) := Eq.trans rfl rfl
theorem c_Run_finish_20 : c_Run_finish[20]? = some (29, 3, .invokevirtual 142, 50, 4, 4, 0, 510, []) := Eq.trans rfl rfl
theorem c_Run_finish_21 : c_Run_finish[21]? = some (32, 3, .goto 9, 26, 0, 0, 0, 0, []) := Eq.trans rfl rfl
theorem c_Run_finish_22 : c_Run_finish[22]? = some (35, 1, .aload_n 0, 0, 0, 0, 0, 0, []) := Eq.trans rfl rfl
theorem c_Run_finish_23 : c_Run_finish[23]? = some (36, 1, .iload_n 1, 1, 0, 0, 0, 0, []) := Eq.trans rfl rfl
theorem c_Run_finish_24 : c_Run_finish[24]? = some (37, 1, .iconst 0, 0, 0, 0, 0, 0, []) := Eq.trans rfl rfl
theorem c_Run_finish_25 : c_Run_finish[25]? = some (38, 3, .invokevirtual 145, 51, 3, 3, 0, 514, []) := Eq.trans rfl rfl
theorem c_Run_finish_26 : c_Run_finish[26]? = some (41, 1, .return_, 0, 0, 0, 0, 0, []) := Eq.trans rfl rfl
theorem mt_Bodies_isGuarded : am_MT[49]? = some m_Bodies_isGuarded := rfl
theorem c_Bodies_isGuarded_0 : c_Bodies_isGuarded[0]? = some (0, 1, .aload_n 0, 0, 0, 0, 0, 0, []) := Eq.trans rfl rfl
theorem c_Bodies_isGuarded_1 : c_Bodies_isGuarded[1]? = some (1, 3, .getfield 36, 2, 8, 0, 0, 159, []) := Eq.trans rfl rfl
theorem c_Bodies_isGuarded_2 : c_Bodies_isGuarded[2]? = some (4, 1, .iload_n 1, 1, 0, 0, 0, 0, []) := Eq.trans rfl rfl
theorem c_Bodies_isGuarded_3 : c_Bodies_isGuarded[3]? = some (5, 1, .iaload, 0, 0, 0, 0, 0, []) := Eq.trans rfl rfl
theorem c_Bodies_isGuarded_4 : c_Bodies_isGuarded[4]? = some (6, 1, .iload_n 2, 2, 0, 0, 0, 0, []) := Eq.trans rfl rfl
theorem c_Bodies_isGuarded_5 : c_Bodies_isGuarded[5]? = some (7, 1, .ishr, 0, 0, 0, 0, 0, []) := Eq.trans rfl rfl
theorem c_Bodies_isGuarded_6 : c_Bodies_isGuarded[6]? = some (8, 1, .iconst 1, 0, 0, 0, 0, 0, []) := Eq.trans rfl rfl
theorem c_Bodies_isGuarded_7 : c_Bodies_isGuarded[7]? = some (9, 1, .iand, 0, 0, 0, 0, 0, []) := Eq.trans rfl rfl
theorem c_Bodies_isGuarded_8 : c_Bodies_isGuarded[8]? = some (10, 3, .ifCond .eq 7, 11, 0, 0, 0, 0, []) := Eq.trans rfl rfl
theorem c_Bodies_isGuarded_9 : c_Bodies_isGuarded[9]? = some (13, 1, .iconst 1, 0, 0, 0, 0, 0, []) := Eq.trans rfl rfl
theorem c_Bodies_isGuarded_10 : c_Bodies_isGuarded[10]? = some (14, 3, .goto 4, 12, 0, 0, 0, 0, []) := Eq.trans rfl rfl
theorem c_Bodies_isGuarded_11 : c_Bodies_isGuarded[11]? = some (17, 1, .iconst 0, 0, 0, 0, 0, 0, []) := Eq.trans rfl rfl
theorem c_Bodies_isGuarded_12 : c_Bodies_isGuarded[12]? = some (18, 1, .ireturn, 0, 0, 0, 3, 0, []) := Eq.trans rfl rfl
theorem xI_comm {X : Nat → Int → Int} {k j : Nat} {a v b u : Int} (h : k ≠ j) : xI (xI X k a v) j b u = xI (xI X j b u) k a v := by
  funext i x
  rw [xI_eq, xI_eq, xI_eq, xI_eq]
  by_cases c : i = j ∧ x = b
  · rw [if_pos c, if_neg (fun q => h (q.1.symm.trans c.1)), if_pos c]
  · rw [if_neg c, if_neg c]
theorem ro_lg {r : rn} {X : Nat → Int → Int} {S : Int → Int → Int} {g : Int → Int} (ho : ru_ok r X S) : ru_ok r (va_up X 2 g) S := ho
theorem cl_L_app : ∀ (L K : List (Int × Int × Int)) (m : Int) (f : Int → Int), cl_L (L ++ K) m f = cl_L K (cl_L L m f).1 (cl_L L m f).2 := by
  intro L
  induction L with
  | nil => intro K m f; rfl
  | cons e L ih => intro K m f; exact ih K _ _
theorem ru_to.xi {h h1 : am_H} {p q w : Nat} {n m : Int} {X : Nat → Int → Int} {S : Int → Int → Int} (H : ru_to h p q w n m X S h1) (k : Nat) (i v : Int) {t l : Nat} {f : Int → Int} (hk : 2 ≤ k ∧ k ≤ 15 ∧ (k ≤ 5 ∨ 10 ≤ k)) (ht : t = ru_ty k) (hl : l = ru_len k) (hf : f = X k) : ru_to h p q w n m (xI X k i v) S (am_put h1 (p + k) (.inl (t, l, .inl (fun j : Nat => iI (vI f i v j))))) := by
  rw [hf]
  exact H.row hk ht hl
/-- from h to h1: the Run at p stands as r does, its log has got the rows L -/
def rs_to (h : am_H) (p q w : Nat) (n n1 m : Int) (X : Nat → Int → Int) (r : rn) (L : List (Int × Int × Int)) (h1 : am_H) : Prop := ∃ (X1 : Nat → Int → Int) (S1 : Int → Int → Int), ru_to h p q w n1 (cl_L L m (X 2)).1 X1 S1 h1 ∧ ru_ok r X1 S1 ∧ X1 2 = (cl_L L m (X 2)).2
set_option maxHeartbeats 8000000 in
theorem ct_takeAway (d : Nat) (hd : 1 ≤ d) (h : am_H) (p q w : Nat) (n m : Int) (X : Nat → Int → Int) (S : Int → Int → Int) (H : ru_at h p q w n m X S) (t st : Int) (ht : 0 ≤ t ∧ t < 6) : am_Ct am_df am_MT d 23 [.ref p, .int (iI t), .int (iI st)] h (fun r0 h' => r0 = none ∧ ru_to h p q w n m (cx_away X t st) S h') := by
  have H' := H
  obtain ⟨h0, hO, hG, hA, hB, hS⟩ := H'
  obtain ⟨d, rfl⟩ : ∃ e, d = e + 1 := ⟨d - 1, by omega⟩
  refine am_ct_of2 mt_Run_takeAway (Nat.le_of_ble_eq_true rfl) ?_
  simp only [ar_nil, ar_int, ar_ref, ar_long, Nat.reduceAdd]
  refine am_go_of 60 [] _ c_Run_takeAway_0 ?_
  simp (maxSteps := 2000000) (disch := omega) only [c_Run_takeAway_0, c_Run_takeAway_1, c_Run_takeAway_2, c_Run_takeAway_3, c_Run_takeAway_4, c_Run_takeAway_5, c_Run_takeAway_6, c_Run_takeAway_7, c_Run_takeAway_8, c_Run_takeAway_9, c_Run_takeAway_10, c_Run_takeAway_11, c_Run_takeAway_12, c_Run_takeAway_13, c_Run_takeAway_14, c_Run_takeAway_15, c_Run_takeAway_16, c_Run_takeAway_17, c_Run_takeAway_18, c_Run_takeAway_19, c_Run_takeAway_20, c_Run_takeAway_21, c_Run_takeAway_22, c_Run_takeAway_23, c_Run_takeAway_24, c_Run_takeAway_25, c_Run_takeAway_26, c_Run_takeAway_27, c_Run_takeAway_28, c_Run_takeAway_29, c_Run_takeAway_30, sx_aload_n, sx_bastore, sx_getfield, sx_iastore, sx_iconst, sx_iload_n, sx_return, am_W_s, am_W_0, am_mm_some, List.mem_cons, or_false, false_or, or_self, or_true, true_or, reduceIte, if_false, if_true, am_o_some, am_o_none, am_o_bad, am_o_good, am_ldi_hit, am_ldi_miss, am_lda_hit, am_lda_miss, am_ldl_hit, am_ldl_miss, am_inc_eq, am_inc_hit, am_inc_miss, am_ob_hit, am_fd_0, am_fd_s, am_ai_hit, am_ab_3, am_al_hit, am_aq_4, am_al0_hit, am_put_1, am_put_2, am_put_put, am_up_hit, am_up_miss, am_s1_eq, am_s2_eq, am_fl_nil, am_fl_hit, am_fl_int, am_fl_ref, am_fl_long, am_fl_longx, am_fl2_nil, am_fl2_hit, am_fl2_hit1, am_fl2_int, am_fl2_ref, am_fl2_long, List.not_mem_nil, not_false_eq_true, ne_eq, Nat.reduceAdd, Nat.reduceEqDiff, Nat.zero_add, Nat.add_left_cancel_iff, List.set_cons_zero, List.set_cons_succ, List.length_cons, List.length_nil, Nat.reduceLT, am_ft_i, am_ft_r, am_ft_z, and_true, true_and, Option.toList_some, Option.toList_none, List.cons_append, List.nil_append, List.drop_succ_cons, List.drop_zero, iI_c, iI_b, iI_s, iI_n, iI_add, iI_sub, iI_mul, iI_neg, iI_nle, iI_ix, iI_eq0, iI_eq1, iI_lt0, iI_0lt, iI_le0, iI_0le, iI_eq, iI_lt, iI_le, iI_upd, iI_updZ, Int.reduceEq, Int.reduceLT, Int.reduceLE, Int.reduceNeg, Int.reduceNe, hO, hA, ru_fs_len, ru_f0, ru_f1, ru_f2, ru_f3, ru_f4, ru_f5, ru_f6, ru_f7, ru_f8, ru_f9, ru_f10, ru_f11, ru_f12, ru_f13, ru_s0, ru_t2, ru_l2, ru_t3, ru_l3, ru_t4, ru_l4, ru_t5, ru_l5, ru_t10, ru_l10, ru_t11, ru_l11, ru_t12, ru_l12, ru_t13, ru_l13, ru_t14, ru_l14, ru_t15, ru_l15, lo_fs_len, lo_f0, lo_f1, lo_s0, ty_fs_len, ty_f0, ty_f1, ty_f2, ty_f3, ty_f4, ty_f5, ty_f6, ty_f7, ty_f8, ty_f9, ty_s0, ty_t1, ty_l1, ty_t2, ty_l2, ty_t3, ty_l3, ty_t11, ty_l11, ty_t12, ty_l12, ty_t13, ty_l13, ty_t14, ty_l14, bo_fs_len, bo_f0, bo_f1, bo_f2, bo_f3, bo_f4, bo_f5, bo_f6, bo_f7, bo_f8, bo_s0, rw_hit]
  repeat (refine And.intro (by omega) ?_)
  exact (((((H.rf.xi 3 t st (t := 0) (l := 6) (f := X 3) (by decide) rfl rfl rfl).xi 4 t 0 (t := 0) (l := 6) (f := X 4) (by decide) rfl rfl rfl).xi 11 t 0 (t := 0) (l := 6) (f := X 11) (by decide) rfl rfl rfl).xi 12 t 0 (t := 3) (l := 6) (f := X 12) (by decide) rfl rfl rfl).xi 13 t 0 (t := 0) (l := 9) (f := X 13) (by decide) rfl rfl rfl).xi 14 t 0 (t := 0) (l := 9) (f := X 14) (by decide) rfl rfl rfl
set_option maxHeartbeats 8000000 in
theorem ct_endThread (d : Nat) (hd : 2 ≤ d) (h : am_H) (p q w : Nat) (n m : Int) (X : Nat → Int → Int) (S : Int → Int → Int) (H : ru_at h p q w n m X S) (hm : 0 ≤ m ∧ m < 2000000) (r : rn) (ho : ru_ok r X S) (th v : Int) (hth : 0 ≤ th ∧ th < 3) : am_Ct am_df am_MT d 51 [.ref p, .int (iI th), .int (iI v)] h (fun r0 h' => r0 = none ∧ rs_to h p q w n n m X (sq_end r th v) [(th, 5, v)] h') := by
  have H' := H
  obtain ⟨h0, hO, hG, hA, hB, hS⟩ := H'
  have w1 : ru_to h p q w n m (cx_end X th v) S _ := ((H.rf.xi 15 th (2 + v) (t := 0) (l := 3) (f := X 15) (by decide) rfl rfl rfl).xi 13 (6 + th) 0 (t := 0) (l := 9) (f := X 13) (by decide) rfl rfl rfl).xi 14 (6 + th) 0 (t := 0) (l := 9) (f := X 14) (by decide) rfl rfl rfl
  have hG2 := w1.1.2.2.1
  obtain ⟨d, rfl⟩ : ∃ e, d = e + 1 := ⟨d - 1, by omega⟩
  refine am_ct_of2 mt_Run_endThread (Nat.le_of_ble_eq_true rfl) ?_
  simp only [ar_nil, ar_int, ar_ref, ar_long, Nat.reduceAdd]
  refine am_go_of 60 [26] _ c_Run_endThread_0 ?_
  simp (maxSteps := 2000000) (disch := omega) only [c_Run_endThread_0, c_Run_endThread_1, c_Run_endThread_2, c_Run_endThread_3, c_Run_endThread_4, c_Run_endThread_5, c_Run_endThread_6, c_Run_endThread_7, c_Run_endThread_8, c_Run_endThread_9, c_Run_endThread_10, c_Run_endThread_11, c_Run_endThread_12, c_Run_endThread_13, c_Run_endThread_14, c_Run_endThread_15, c_Run_endThread_16, c_Run_endThread_17, c_Run_endThread_18, c_Run_endThread_19, c_Run_endThread_20, c_Run_endThread_21, c_Run_endThread_22, c_Run_endThread_23, c_Run_endThread_24, c_Run_endThread_25, c_Run_endThread_26, c_Run_endThread_27, sx_aload_n, sx_bipush, sx_getfield, sx_iadd, sx_iastore, sx_iconst, sx_iload_n, sx_return, am_W_s, am_W_0, am_mm_some, List.mem_cons, or_false, false_or, or_self, or_true, true_or, reduceIte, if_false, if_true, am_o_some, am_o_none, am_o_bad, am_o_good, am_ldi_hit, am_ldi_miss, am_lda_hit, am_lda_miss, am_ldl_hit, am_ldl_miss, am_inc_eq, am_inc_hit, am_inc_miss, am_ob_hit, am_fd_0, am_fd_s, am_ai_hit, am_ab_3, am_al_hit, am_aq_4, am_al0_hit, am_put_1, am_put_2, am_put_put, am_up_hit, am_up_miss, am_s1_eq, am_s2_eq, am_fl_nil, am_fl_hit, am_fl_int, am_fl_ref, am_fl_long, am_fl_longx, am_fl2_nil, am_fl2_hit, am_fl2_hit1, am_fl2_int, am_fl2_ref, am_fl2_long, List.not_mem_nil, not_false_eq_true, ne_eq, Nat.reduceAdd, Nat.reduceEqDiff, Nat.zero_add, Nat.add_left_cancel_iff, List.set_cons_zero, List.set_cons_succ, List.length_cons, List.length_nil, Nat.reduceLT, am_ft_i, am_ft_r, am_ft_z, and_true, true_and, Option.toList_some, Option.toList_none, List.cons_append, List.nil_append, List.drop_succ_cons, List.drop_zero, iI_c, iI_b, iI_s, iI_n, iI_add, iI_sub, iI_mul, iI_neg, iI_nle, iI_ix, iI_eq0, iI_eq1, iI_lt0, iI_0lt, iI_le0, iI_0le, iI_eq, iI_lt, iI_le, iI_upd, iI_updZ, Int.reduceEq, Int.reduceLT, Int.reduceLE, Int.reduceNeg, Int.reduceNe, hO, hA, ru_fs_len, ru_f0, ru_f1, ru_f2, ru_f3, ru_f4, ru_f5, ru_f6, ru_f7, ru_f8, ru_f9, ru_f10, ru_f11, ru_f12, ru_f13, ru_s0, ru_t2, ru_l2, ru_t3, ru_l3, ru_t4, ru_l4, ru_t5, ru_l5, ru_t10, ru_l10, ru_t11, ru_l11, ru_t12, ru_l12, ru_t13, ru_l13, ru_t14, ru_l14, ru_t15, ru_l15, lo_fs_len, lo_f0, lo_f1, lo_s0, ty_fs_len, ty_f0, ty_f1, ty_f2, ty_f3, ty_f4, ty_f5, ty_f6, ty_f7, ty_f8, ty_f9, ty_s0, ty_t1, ty_l1, ty_t2, ty_l2, ty_t3, ty_l3, ty_t11, ty_l11, ty_t12, ty_l12, ty_t13, ty_l13, ty_t14, ty_l14, bo_fs_len, bo_f0, bo_f1, bo_f2, bo_f3, bo_f4, bo_f5, bo_f6, bo_f7, bo_f8, bo_s0, rw_hit]
  repeat (refine And.intro (by omega) ?_)
  refine am_go_call c_Run_endThread_26 (by decide) (by decide) (by first | (simp [am_can, am_kd, Value.category, hG2, hG]; done) | (simp [am_can, am_kd, am_b, am_c, Value.category, hG2, hG]; done) | (simp (disch := omega) [am_can, am_kd, am_b, am_c, Value.category, am_put_1, am_up_hit, am_up_miss, hG2, hG]; done)) ?_
  refine (ct_add d (by omega) _ p q w n m _ S w1.1 hm th 5 v).mono (fun r9 h' hr9 => ?_)
  obtain ⟨rfl, w2⟩ := hr9
  refine am_go_of 5 [26] _ c_Run_endThread_27 ?_
  simp (maxSteps := 2000000) (disch := omega) only [c_Run_endThread_0, c_Run_endThread_1, c_Run_endThread_2, c_Run_endThread_3, c_Run_endThread_4, c_Run_endThread_5, c_Run_endThread_6, c_Run_endThread_7, c_Run_endThread_8, c_Run_endThread_9, c_Run_endThread_10, c_Run_endThread_11, c_Run_endThread_12, c_Run_endThread_13, c_Run_endThread_14, c_Run_endThread_15, c_Run_endThread_16, c_Run_endThread_17, c_Run_endThread_18, c_Run_endThread_19, c_Run_endThread_20, c_Run_endThread_21, c_Run_endThread_22, c_Run_endThread_23, c_Run_endThread_24, c_Run_endThread_25, c_Run_endThread_26, c_Run_endThread_27, sx_aload_n, sx_bipush, sx_getfield, sx_iadd, sx_iastore, sx_iconst, sx_iload_n, sx_return, am_W_s, am_W_0, am_mm_some, List.mem_cons, or_false, false_or, or_self, or_true, true_or, reduceIte, if_false, if_true, am_o_some, am_o_none, am_o_bad, am_o_good, am_ldi_hit, am_ldi_miss, am_lda_hit, am_lda_miss, am_ldl_hit, am_ldl_miss, am_inc_eq, am_inc_hit, am_inc_miss, am_ob_hit, am_fd_0, am_fd_s, am_ai_hit, am_ab_3, am_al_hit, am_aq_4, am_al0_hit, am_put_1, am_put_2, am_put_put, am_up_hit, am_up_miss, am_s1_eq, am_s2_eq, am_fl_nil, am_fl_hit, am_fl_int, am_fl_ref, am_fl_long, am_fl_longx, am_fl2_nil, am_fl2_hit, am_fl2_hit1, am_fl2_int, am_fl2_ref, am_fl2_long, List.not_mem_nil, not_false_eq_true, ne_eq, Nat.reduceAdd, Nat.reduceEqDiff, Nat.zero_add, Nat.add_left_cancel_iff, List.set_cons_zero, List.set_cons_succ, List.length_cons, List.length_nil, Nat.reduceLT, am_ft_i, am_ft_r, am_ft_z, and_true, true_and, Option.toList_some, Option.toList_none, List.cons_append, List.nil_append, List.drop_succ_cons, List.drop_zero, iI_c, iI_b, iI_s, iI_n, iI_add, iI_sub, iI_mul, iI_neg, iI_nle, iI_ix, iI_eq0, iI_eq1, iI_lt0, iI_0lt, iI_le0, iI_0le, iI_eq, iI_lt, iI_le, iI_upd, iI_updZ, Int.reduceEq, Int.reduceLT, Int.reduceLE, Int.reduceNeg, Int.reduceNe, ru_fs_len, ru_f0, ru_f1, ru_f2, ru_f3, ru_f4, ru_f5, ru_f6, ru_f7, ru_f8, ru_f9, ru_f10, ru_f11, ru_f12, ru_f13, ru_s0, ru_t2, ru_l2, ru_t3, ru_l3, ru_t4, ru_l4, ru_t5, ru_l5, ru_t10, ru_l10, ru_t11, ru_l11, ru_t12, ru_l12, ru_t13, ru_l13, ru_t14, ru_l14, ru_t15, ru_l15, lo_fs_len, lo_f0, lo_f1, lo_s0, ty_fs_len, ty_f0, ty_f1, ty_f2, ty_f3, ty_f4, ty_f5, ty_f6, ty_f7, ty_f8, ty_f9, ty_s0, ty_t1, ty_l1, ty_t2, ty_l2, ty_t3, ty_l3, ty_t11, ty_l11, ty_t12, ty_l12, ty_t13, ty_l13, ty_t14, ty_l14, bo_fs_len, bo_f0, bo_f1, bo_f2, bo_f3, bo_f4, bo_f5, bo_f6, bo_f7, bo_f8, bo_s0, rw_hit]
  exact ⟨_, _, w1.tr w2, ro_lg (ro_end ho hth), va_up_hit⟩
set_option maxHeartbeats 8000000 in
theorem ct_enter (d : Nat) (hd : 2 ≤ d) (h : am_H) (p q w : Nat) (n m : Int) (X : Nat → Int → Int) (S : Int → Int → Int) (H : ru_at h p q w n m X S) (hm : 0 ≤ m ∧ m < 2000000) (I : Nat → Int) (F : Nat → Int → Int) (r : rn) (hv : rn_iv I F r) (ho : ru_ok r X S) (th t : Int) (hth : 0 ≤ th ∧ th < 3) (ht : 0 ≤ t ∧ t < 6) (h9 : r_st r t = 0) : am_Ct am_df am_MT d 52 [.ref p, .int (iI th), .int (iI t)] h (fun r0 h' => r0 = none ∧ rs_to h p q w n n m X (sq_begin r th t) [(th, 0, t)] h') := by
  have H' := H
  obtain ⟨h0, hO, hG, hA, hB, hS⟩ := H'
  have hroom := rn_room hv (h := th) (t := t) hth ht (by omega)
  have e1 := hv.1.2.1 th hth
  have eD := (ho.2.1 th hth).1
  have w1 : ru_to h p q w n m (cx_enter X th t (r_mn r th)) (vI2 S th (r_mn r th) t) _ := (((((H.rf.xi 3 t 1 (t := 0) (l := 6) (f := X 3) (by decide) rfl rfl rfl).xi 4 t th (t := 0) (l := 6) (f := X 4) (by decide) rfl rfl rfl).xi 11 t (r_mn r th) (t := 0) (l := 6) (f := X 11) (by decide) rfl rfl rfl).xi 12 t 1 (t := 3) (l := 6) (f := X 12) (by decide) rfl rfl rfl).stk (i := r_mn r th) (v := t) hth).xi 10 th (r_mn r th + 1) (t := 0) (l := 3) (f := X 10) (by decide) rfl rfl rfl
  have hG2 := w1.1.2.2.1
  obtain ⟨d, rfl⟩ : ∃ e, d = e + 1 := ⟨d - 1, by omega⟩
  refine am_ct_of2 mt_Run_enter (Nat.le_of_ble_eq_true rfl) ?_
  simp only [ar_nil, ar_int, ar_ref, ar_long, Nat.reduceAdd]
  refine am_go_of 80 [48] _ c_Run_enter_0 ?_
  simp (maxSteps := 2000000) (disch := omega) only [c_Run_enter_0, c_Run_enter_1, c_Run_enter_2, c_Run_enter_3, c_Run_enter_4, c_Run_enter_5, c_Run_enter_6, c_Run_enter_7, c_Run_enter_8, c_Run_enter_9, c_Run_enter_10, c_Run_enter_11, c_Run_enter_12, c_Run_enter_13, c_Run_enter_14, c_Run_enter_15, c_Run_enter_16, c_Run_enter_17, c_Run_enter_18, c_Run_enter_19, c_Run_enter_20, c_Run_enter_21, c_Run_enter_22, c_Run_enter_23, c_Run_enter_24, c_Run_enter_25, c_Run_enter_26, c_Run_enter_27, c_Run_enter_28, c_Run_enter_29, c_Run_enter_30, c_Run_enter_31, c_Run_enter_32, c_Run_enter_33, c_Run_enter_34, c_Run_enter_35, c_Run_enter_36, c_Run_enter_37, c_Run_enter_38, c_Run_enter_39, c_Run_enter_40, c_Run_enter_41, c_Run_enter_42, c_Run_enter_43, c_Run_enter_44, c_Run_enter_45, c_Run_enter_46, c_Run_enter_47, c_Run_enter_48, c_Run_enter_49, sx_aaload, sx_aload_n, sx_bastore, sx_bipush, sx_getfield, sx_iadd, sx_iaload, sx_iastore, sx_iconst, sx_if_icmp_lt, sx_iload_n, sx_istore_n, sx_return, am_W_s, am_W_0, am_mm_some, List.mem_cons, or_false, false_or, or_self, or_true, true_or, reduceIte, if_false, if_true, am_o_some, am_o_none, am_o_bad, am_o_good, am_ldi_hit, am_ldi_miss, am_lda_hit, am_lda_miss, am_ldl_hit, am_ldl_miss, am_inc_eq, am_inc_hit, am_inc_miss, am_ob_hit, am_fd_0, am_fd_s, am_ai_hit, am_ab_3, am_al_hit, am_aq_4, am_al0_hit, am_put_1, am_put_2, am_put_put, am_up_hit, am_up_miss, am_s1_eq, am_s2_eq, am_fl_nil, am_fl_hit, am_fl_int, am_fl_ref, am_fl_long, am_fl_longx, am_fl2_nil, am_fl2_hit, am_fl2_hit1, am_fl2_int, am_fl2_ref, am_fl2_long, List.not_mem_nil, not_false_eq_true, ne_eq, Nat.reduceAdd, Nat.reduceEqDiff, Nat.zero_add, Nat.add_left_cancel_iff, List.set_cons_zero, List.set_cons_succ, List.length_cons, List.length_nil, Nat.reduceLT, am_ft_i, am_ft_r, am_ft_z, and_true, true_and, Option.toList_some, Option.toList_none, List.cons_append, List.nil_append, List.drop_succ_cons, List.drop_zero, iI_c, iI_b, iI_s, iI_n, iI_add, iI_sub, iI_mul, iI_neg, iI_nle, iI_ix, iI_eq0, iI_eq1, iI_lt0, iI_0lt, iI_le0, iI_0le, iI_eq, iI_lt, iI_le, iI_upd, iI_updZ, Int.reduceEq, Int.reduceLT, Int.reduceLE, Int.reduceNeg, Int.reduceNe, hO, hA, hB, hS, eD, hroom, ru_fs_len, ru_f0, ru_f1, ru_f2, ru_f3, ru_f4, ru_f5, ru_f6, ru_f7, ru_f8, ru_f9, ru_f10, ru_f11, ru_f12, ru_f13, ru_s0, ru_t2, ru_l2, ru_t3, ru_l3, ru_t4, ru_l4, ru_t5, ru_l5, ru_t10, ru_l10, ru_t11, ru_l11, ru_t12, ru_l12, ru_t13, ru_l13, ru_t14, ru_l14, ru_t15, ru_l15, lo_fs_len, lo_f0, lo_f1, lo_s0, ty_fs_len, ty_f0, ty_f1, ty_f2, ty_f3, ty_f4, ty_f5, ty_f6, ty_f7, ty_f8, ty_f9, ty_s0, ty_t1, ty_l1, ty_t2, ty_l2, ty_t3, ty_l3, ty_t11, ty_l11, ty_t12, ty_l12, ty_t13, ty_l13, ty_t14, ty_l14, bo_fs_len, bo_f0, bo_f1, bo_f2, bo_f3, bo_f4, bo_f5, bo_f6, bo_f7, bo_f8, bo_s0, rw_hit]
  repeat (refine And.intro (by omega) ?_)
  refine am_go_call c_Run_enter_48 (by decide) (by decide) (by first | (simp [am_can, am_kd, Value.category, hG2, hG]; done) | (simp [am_can, am_kd, am_b, am_c, Value.category, hG2, hG]; done) | (simp (disch := omega) [am_can, am_kd, am_b, am_c, Value.category, am_put_1, am_up_hit, am_up_miss, hG2, hG]; done)) ?_
  refine (ct_add d (by omega) _ p q w n m _ _ w1.1 hm th 0 t).mono (fun r9 h' hr9 => ?_)
  obtain ⟨rfl, w2⟩ := hr9
  refine am_go_of 5 [48] _ c_Run_enter_49 ?_
  simp (maxSteps := 2000000) (disch := omega) only [c_Run_enter_0, c_Run_enter_1, c_Run_enter_2, c_Run_enter_3, c_Run_enter_4, c_Run_enter_5, c_Run_enter_6, c_Run_enter_7, c_Run_enter_8, c_Run_enter_9, c_Run_enter_10, c_Run_enter_11, c_Run_enter_12, c_Run_enter_13, c_Run_enter_14, c_Run_enter_15, c_Run_enter_16, c_Run_enter_17, c_Run_enter_18, c_Run_enter_19, c_Run_enter_20, c_Run_enter_21, c_Run_enter_22, c_Run_enter_23, c_Run_enter_24, c_Run_enter_25, c_Run_enter_26, c_Run_enter_27, c_Run_enter_28, c_Run_enter_29, c_Run_enter_30, c_Run_enter_31, c_Run_enter_32, c_Run_enter_33, c_Run_enter_34, c_Run_enter_35, c_Run_enter_36, c_Run_enter_37, c_Run_enter_38, c_Run_enter_39, c_Run_enter_40, c_Run_enter_41, c_Run_enter_42, c_Run_enter_43, c_Run_enter_44, c_Run_enter_45, c_Run_enter_46, c_Run_enter_47, c_Run_enter_48, c_Run_enter_49, sx_aaload, sx_aload_n, sx_bastore, sx_bipush, sx_getfield, sx_iadd, sx_iaload, sx_iastore, sx_iconst, sx_if_icmp_lt, sx_iload_n, sx_istore_n, sx_return, am_W_s, am_W_0, am_mm_some, List.mem_cons, or_false, false_or, or_self, or_true, true_or, reduceIte, if_false, if_true, am_o_some, am_o_none, am_o_bad, am_o_good, am_ldi_hit, am_ldi_miss, am_lda_hit, am_lda_miss, am_ldl_hit, am_ldl_miss, am_inc_eq, am_inc_hit, am_inc_miss, am_ob_hit, am_fd_0, am_fd_s, am_ai_hit, am_ab_3, am_al_hit, am_aq_4, am_al0_hit, am_put_1, am_put_2, am_put_put, am_up_hit, am_up_miss, am_s1_eq, am_s2_eq, am_fl_nil, am_fl_hit, am_fl_int, am_fl_ref, am_fl_long, am_fl_longx, am_fl2_nil, am_fl2_hit, am_fl2_hit1, am_fl2_int, am_fl2_ref, am_fl2_long, List.not_mem_nil, not_false_eq_true, ne_eq, Nat.reduceAdd, Nat.reduceEqDiff, Nat.zero_add, Nat.add_left_cancel_iff, List.set_cons_zero, List.set_cons_succ, List.length_cons, List.length_nil, Nat.reduceLT, am_ft_i, am_ft_r, am_ft_z, and_true, true_and, Option.toList_some, Option.toList_none, List.cons_append, List.nil_append, List.drop_succ_cons, List.drop_zero, iI_c, iI_b, iI_s, iI_n, iI_add, iI_sub, iI_mul, iI_neg, iI_nle, iI_ix, iI_eq0, iI_eq1, iI_lt0, iI_0lt, iI_le0, iI_0le, iI_eq, iI_lt, iI_le, iI_upd, iI_updZ, Int.reduceEq, Int.reduceLT, Int.reduceLE, Int.reduceNeg, Int.reduceNe, ru_fs_len, ru_f0, ru_f1, ru_f2, ru_f3, ru_f4, ru_f5, ru_f6, ru_f7, ru_f8, ru_f9, ru_f10, ru_f11, ru_f12, ru_f13, ru_s0, ru_t2, ru_l2, ru_t3, ru_l3, ru_t4, ru_l4, ru_t5, ru_l5, ru_t10, ru_l10, ru_t11, ru_l11, ru_t12, ru_l12, ru_t13, ru_l13, ru_t14, ru_l14, ru_t15, ru_l15, lo_fs_len, lo_f0, lo_f1, lo_s0, ty_fs_len, ty_f0, ty_f1, ty_f2, ty_f3, ty_f4, ty_f5, ty_f6, ty_f7, ty_f8, ty_f9, ty_s0, ty_t1, ty_l1, ty_t2, ty_l2, ty_t3, ty_l3, ty_t11, ty_l11, ty_t12, ty_l12, ty_t13, ty_l13, ty_t14, ty_l14, bo_fs_len, bo_f0, bo_f1, bo_f2, bo_f3, bo_f4, bo_f5, bo_f6, bo_f7, bo_f8, bo_s0, rw_hit]
  exact ⟨_, _, w1.tr w2, ro_lg (ro_begin hv ho hth ht h9), va_up_hit⟩
set_option maxHeartbeats 8000000 in
theorem ct_finish (d : Nat) (hd : 3 ≤ d) (h : am_H) (p q w : Nat) (n m : Int) (X : Nat → Int → Int) (S : Int → Int → Int) (H : ru_at h p q w n m X S) (hm : 0 ≤ m ∧ m < 2000000) (I : Nat → Int) (F : Nat → Int → Int) (r : rn) (hv : rn_iv I F r) (ho : ru_ok r X S) (th : Int) (hth : 0 ≤ th ∧ th < 3) : am_Ct am_df am_MT d 55 [.ref p, .int (iI th), .int (iI (cs_top r th))] h (fun r0 h' => r0 = none ∧ if sq_top r th = -1 then rs_to h p q w n n m X (sq_end r th 0) [(th, 5, 0)] h' else rs_to h p q w n n m X (sq_go r th (sq_top r th) 2) [(th, 1, sq_top r th)] h') := by
  have H' := H
  obtain ⟨h0, hO, hG, hA, hB, hS⟩ := H'
  have e1 := hv.1.2.1 th hth
  have eD := (ho.2.1 th hth).1
  obtain ⟨d, rfl⟩ : ∃ e, d = e + 1 := ⟨d - 1, by omega⟩
  refine am_ct_of2 mt_Run_finish (Nat.le_of_ble_eq_true rfl) ?_
  simp only [ar_nil, ar_int, ar_ref, ar_long, Nat.reduceAdd]
  by_cases c : sq_top r th = -1
  · rw [cs_top_0 hv hth c]
    have c1 : 6 ≤ 6 + th := by omega
    refine am_go_of 10 [14, 20, 25] _ c_Run_finish_0 ?_
    simp (maxSteps := 2000000) (disch := omega) only [c_Run_finish_0, c_Run_finish_1, c_Run_finish_2, c_Run_finish_3, c_Run_finish_4, c_Run_finish_5, c_Run_finish_6, c_Run_finish_7, c_Run_finish_8, c_Run_finish_9, c_Run_finish_10, c_Run_finish_11, c_Run_finish_12, c_Run_finish_13, c_Run_finish_14, c_Run_finish_15, c_Run_finish_16, c_Run_finish_17, c_Run_finish_18, c_Run_finish_19, c_Run_finish_20, c_Run_finish_21, c_Run_finish_22, c_Run_finish_23, c_Run_finish_24, c_Run_finish_25, c_Run_finish_26, sx_aload_n, sx_bipush, sx_dup2_ir, sx_getfield, sx_goto, sx_iaload, sx_iastore, sx_iconst, sx_if_icmp_ge, sx_iload_n, sx_isub, sx_return, am_W_s, am_W_0, am_mm_some, List.mem_cons, or_false, false_or, or_self, or_true, true_or, reduceIte, if_false, if_true, am_o_some, am_o_none, am_o_bad, am_o_good, am_ldi_hit, am_ldi_miss, am_lda_hit, am_lda_miss, am_ldl_hit, am_ldl_miss, am_inc_eq, am_inc_hit, am_inc_miss, am_ob_hit, am_fd_0, am_fd_s, am_ai_hit, am_ab_3, am_al_hit, am_aq_4, am_al0_hit, am_put_1, am_put_2, am_put_put, am_up_hit, am_up_miss, am_s1_eq, am_s2_eq, am_fl_nil, am_fl_hit, am_fl_int, am_fl_ref, am_fl_long, am_fl_longx, am_fl2_nil, am_fl2_hit, am_fl2_hit1, am_fl2_int, am_fl2_ref, am_fl2_long, List.not_mem_nil, not_false_eq_true, ne_eq, Nat.reduceAdd, Nat.reduceEqDiff, Nat.zero_add, Nat.add_left_cancel_iff, List.set_cons_zero, List.set_cons_succ, List.length_cons, List.length_nil, Nat.reduceLT, am_ft_i, am_ft_r, am_ft_z, and_true, true_and, Option.toList_some, Option.toList_none, List.cons_append, List.nil_append, List.drop_succ_cons, List.drop_zero, iI_c, iI_b, iI_s, iI_n, iI_add, iI_sub, iI_mul, iI_neg, iI_nle, iI_ix, iI_eq0, iI_eq1, iI_lt0, iI_0lt, iI_le0, iI_0le, iI_eq, iI_lt, iI_le, iI_upd, iI_updZ, Int.reduceEq, Int.reduceLT, Int.reduceLE, Int.reduceNeg, Int.reduceNe, c1, ru_fs_len, ru_f0, ru_f1, ru_f2, ru_f3, ru_f4, ru_f5, ru_f6, ru_f7, ru_f8, ru_f9, ru_f10, ru_f11, ru_f12, ru_f13, ru_s0, ru_t2, ru_l2, ru_t3, ru_l3, ru_t4, ru_l4, ru_t5, ru_l5, ru_t10, ru_l10, ru_t11, ru_l11, ru_t12, ru_l12, ru_t13, ru_l13, ru_t14, ru_l14, ru_t15, ru_l15, lo_fs_len, lo_f0, lo_f1, lo_s0, ty_fs_len, ty_f0, ty_f1, ty_f2, ty_f3, ty_f4, ty_f5, ty_f6, ty_f7, ty_f8, ty_f9, ty_s0, ty_t1, ty_l1, ty_t2, ty_l2, ty_t3, ty_l3, ty_t11, ty_l11, ty_t12, ty_l12, ty_t13, ty_l13, ty_t14, ty_l14, bo_fs_len, bo_f0, bo_f1, bo_f2, bo_f3, bo_f4, bo_f5, bo_f6, bo_f7, bo_f8, bo_s0, rw_hit]
    refine am_go_call c_Run_finish_25 (by decide) (by decide) (by first | (simp [am_can, am_kd, Value.category, hO]; done) | (simp [am_can, am_kd, am_b, am_c, Value.category, hO]; done) | (simp (disch := omega) [am_can, am_kd, am_b, am_c, Value.category, am_put_1, am_up_hit, am_up_miss, hO]; done)) ?_
    refine (ct_endThread d (by omega) h p q w n m X S H hm r ho th 0 hth).mono (fun r9 h' hr9 => ?_)
    obtain ⟨rfl, w2⟩ := hr9
    refine am_go_of 5 [14, 20, 25] _ c_Run_finish_26 ?_
    simp (maxSteps := 2000000) (disch := omega) only [c_Run_finish_0, c_Run_finish_1, c_Run_finish_2, c_Run_finish_3, c_Run_finish_4, c_Run_finish_5, c_Run_finish_6, c_Run_finish_7, c_Run_finish_8, c_Run_finish_9, c_Run_finish_10, c_Run_finish_11, c_Run_finish_12, c_Run_finish_13, c_Run_finish_14, c_Run_finish_15, c_Run_finish_16, c_Run_finish_17, c_Run_finish_18, c_Run_finish_19, c_Run_finish_20, c_Run_finish_21, c_Run_finish_22, c_Run_finish_23, c_Run_finish_24, c_Run_finish_25, c_Run_finish_26, sx_aload_n, sx_bipush, sx_dup2_ir, sx_getfield, sx_goto, sx_iaload, sx_iastore, sx_iconst, sx_if_icmp_ge, sx_iload_n, sx_isub, sx_return, am_W_s, am_W_0, am_mm_some, List.mem_cons, or_false, false_or, or_self, or_true, true_or, reduceIte, if_false, if_true, am_o_some, am_o_none, am_o_bad, am_o_good, am_ldi_hit, am_ldi_miss, am_lda_hit, am_lda_miss, am_ldl_hit, am_ldl_miss, am_inc_eq, am_inc_hit, am_inc_miss, am_ob_hit, am_fd_0, am_fd_s, am_ai_hit, am_ab_3, am_al_hit, am_aq_4, am_al0_hit, am_put_1, am_put_2, am_put_put, am_up_hit, am_up_miss, am_s1_eq, am_s2_eq, am_fl_nil, am_fl_hit, am_fl_int, am_fl_ref, am_fl_long, am_fl_longx, am_fl2_nil, am_fl2_hit, am_fl2_hit1, am_fl2_int, am_fl2_ref, am_fl2_long, List.not_mem_nil, not_false_eq_true, ne_eq, Nat.reduceAdd, Nat.reduceEqDiff, Nat.zero_add, Nat.add_left_cancel_iff, List.set_cons_zero, List.set_cons_succ, List.length_cons, List.length_nil, Nat.reduceLT, am_ft_i, am_ft_r, am_ft_z, and_true, true_and, Option.toList_some, Option.toList_none, List.cons_append, List.nil_append, List.drop_succ_cons, List.drop_zero, iI_c, iI_b, iI_s, iI_n, iI_add, iI_sub, iI_mul, iI_neg, iI_nle, iI_ix, iI_eq0, iI_eq1, iI_lt0, iI_0lt, iI_le0, iI_0le, iI_eq, iI_lt, iI_le, iI_upd, iI_updZ, Int.reduceEq, Int.reduceLT, Int.reduceLE, Int.reduceNeg, Int.reduceNe, ru_fs_len, ru_f0, ru_f1, ru_f2, ru_f3, ru_f4, ru_f5, ru_f6, ru_f7, ru_f8, ru_f9, ru_f10, ru_f11, ru_f12, ru_f13, ru_s0, ru_t2, ru_l2, ru_t3, ru_l3, ru_t4, ru_l4, ru_t5, ru_l5, ru_t10, ru_l10, ru_t11, ru_l11, ru_t12, ru_l12, ru_t13, ru_l13, ru_t14, ru_l14, ru_t15, ru_l15, lo_fs_len, lo_f0, lo_f1, lo_s0, ty_fs_len, ty_f0, ty_f1, ty_f2, ty_f3, ty_f4, ty_f5, ty_f6, ty_f7, ty_f8, ty_f9, ty_s0, ty_t1, ty_l1, ty_t2, ty_l2, ty_t3, ty_l3, ty_t11, ty_l11, ty_t12, ty_l12, ty_t13, ty_l13, ty_t14, ty_l14, bo_fs_len, bo_f0, bo_f1, bo_f2, bo_f3, bo_f4, bo_f5, bo_f6, bo_f7, bo_f8, bo_s0, rw_hit]
    rw [if_pos c]
    exact w2
  · obtain ⟨hmn, etm, ht6, hs1, -, -⟩ := sq_top_1 hv hth c
    rw [cs_top_1 hv hth c]
    have c1 : ¬ 6 ≤ sq_top r th := by omega
    have w1 : ru_to h p q w n m (xI X 10 th (r_mn r th - 1)) S _ := H.rf.xi 10 th (r_mn r th - 1) (t := 0) (l := 3) (f := X 10) (by decide) rfl rfl rfl
    have hO2 := w1.1.2.1
    refine am_go_of 30 [14, 20, 25] _ c_Run_finish_0 ?_
    simp (maxSteps := 2000000) (disch := omega) only [c_Run_finish_0, c_Run_finish_1, c_Run_finish_2, c_Run_finish_3, c_Run_finish_4, c_Run_finish_5, c_Run_finish_6, c_Run_finish_7, c_Run_finish_8, c_Run_finish_9, c_Run_finish_10, c_Run_finish_11, c_Run_finish_12, c_Run_finish_13, c_Run_finish_14, c_Run_finish_15, c_Run_finish_16, c_Run_finish_17, c_Run_finish_18, c_Run_finish_19, c_Run_finish_20, c_Run_finish_21, c_Run_finish_22, c_Run_finish_23, c_Run_finish_24, c_Run_finish_25, c_Run_finish_26, sx_aload_n, sx_bipush, sx_dup2_ir, sx_getfield, sx_goto, sx_iaload, sx_iastore, sx_iconst, sx_if_icmp_ge, sx_iload_n, sx_isub, sx_return, am_W_s, am_W_0, am_mm_some, List.mem_cons, or_false, false_or, or_self, or_true, true_or, reduceIte, if_false, if_true, am_o_some, am_o_none, am_o_bad, am_o_good, am_ldi_hit, am_ldi_miss, am_lda_hit, am_lda_miss, am_ldl_hit, am_ldl_miss, am_inc_eq, am_inc_hit, am_inc_miss, am_ob_hit, am_fd_0, am_fd_s, am_ai_hit, am_ab_3, am_al_hit, am_aq_4, am_al0_hit, am_put_1, am_put_2, am_put_put, am_up_hit, am_up_miss, am_s1_eq, am_s2_eq, am_fl_nil, am_fl_hit, am_fl_int, am_fl_ref, am_fl_long, am_fl_longx, am_fl2_nil, am_fl2_hit, am_fl2_hit1, am_fl2_int, am_fl2_ref, am_fl2_long, List.not_mem_nil, not_false_eq_true, ne_eq, Nat.reduceAdd, Nat.reduceEqDiff, Nat.zero_add, Nat.add_left_cancel_iff, List.set_cons_zero, List.set_cons_succ, List.length_cons, List.length_nil, Nat.reduceLT, am_ft_i, am_ft_r, am_ft_z, and_true, true_and, Option.toList_some, Option.toList_none, List.cons_append, List.nil_append, List.drop_succ_cons, List.drop_zero, iI_c, iI_b, iI_s, iI_n, iI_add, iI_sub, iI_mul, iI_neg, iI_nle, iI_ix, iI_eq0, iI_eq1, iI_lt0, iI_0lt, iI_le0, iI_0le, iI_eq, iI_lt, iI_le, iI_upd, iI_updZ, Int.reduceEq, Int.reduceLT, Int.reduceLE, Int.reduceNeg, Int.reduceNe, hO, hA, c1, eD, ru_fs_len, ru_f0, ru_f1, ru_f2, ru_f3, ru_f4, ru_f5, ru_f6, ru_f7, ru_f8, ru_f9, ru_f10, ru_f11, ru_f12, ru_f13, ru_s0, ru_t2, ru_l2, ru_t3, ru_l3, ru_t4, ru_l4, ru_t5, ru_l5, ru_t10, ru_l10, ru_t11, ru_l11, ru_t12, ru_l12, ru_t13, ru_l13, ru_t14, ru_l14, ru_t15, ru_l15, lo_fs_len, lo_f0, lo_f1, lo_s0, ty_fs_len, ty_f0, ty_f1, ty_f2, ty_f3, ty_f4, ty_f5, ty_f6, ty_f7, ty_f8, ty_f9, ty_s0, ty_t1, ty_l1, ty_t2, ty_l2, ty_t3, ty_l3, ty_t11, ty_l11, ty_t12, ty_l12, ty_t13, ty_l13, ty_t14, ty_l14, bo_fs_len, bo_f0, bo_f1, bo_f2, bo_f3, bo_f4, bo_f5, bo_f6, bo_f7, bo_f8, bo_s0, rw_hit]
    repeat (refine And.intro (by omega) ?_)
    refine am_go_call c_Run_finish_14 (by decide) (by decide) (by first | (simp [am_can, am_kd, Value.category, hO2, hO]; done) | (simp [am_can, am_kd, am_b, am_c, Value.category, hO2, hO]; done) | (simp (disch := omega) [am_can, am_kd, am_b, am_c, Value.category, am_put_1, am_up_hit, am_up_miss, hO2, hO]; done)) ?_
    refine (ct_takeAway d (by omega) _ p q w n m _ S w1.1 (sq_top r th) 2 ht6).mono (fun r9 h' hr9 => ?_)
    obtain ⟨rfl, w2⟩ := hr9
    have hO3 := w2.1.2.1
    have hG3 := w2.1.2.2.1
    refine am_go_of 30 [14, 20, 25] _ c_Run_finish_15 ?_
    simp (maxSteps := 2000000) (disch := omega) only [c_Run_finish_0, c_Run_finish_1, c_Run_finish_2, c_Run_finish_3, c_Run_finish_4, c_Run_finish_5, c_Run_finish_6, c_Run_finish_7, c_Run_finish_8, c_Run_finish_9, c_Run_finish_10, c_Run_finish_11, c_Run_finish_12, c_Run_finish_13, c_Run_finish_14, c_Run_finish_15, c_Run_finish_16, c_Run_finish_17, c_Run_finish_18, c_Run_finish_19, c_Run_finish_20, c_Run_finish_21, c_Run_finish_22, c_Run_finish_23, c_Run_finish_24, c_Run_finish_25, c_Run_finish_26, sx_aload_n, sx_bipush, sx_dup2_ir, sx_getfield, sx_goto, sx_iaload, sx_iastore, sx_iconst, sx_if_icmp_ge, sx_iload_n, sx_isub, sx_return, am_W_s, am_W_0, am_mm_some, List.mem_cons, or_false, false_or, or_self, or_true, true_or, reduceIte, if_false, if_true, am_o_some, am_o_none, am_o_bad, am_o_good, am_ldi_hit, am_ldi_miss, am_lda_hit, am_lda_miss, am_ldl_hit, am_ldl_miss, am_inc_eq, am_inc_hit, am_inc_miss, am_ob_hit, am_fd_0, am_fd_s, am_ai_hit, am_ab_3, am_al_hit, am_aq_4, am_al0_hit, am_put_1, am_put_2, am_put_put, am_up_hit, am_up_miss, am_s1_eq, am_s2_eq, am_fl_nil, am_fl_hit, am_fl_int, am_fl_ref, am_fl_long, am_fl_longx, am_fl2_nil, am_fl2_hit, am_fl2_hit1, am_fl2_int, am_fl2_ref, am_fl2_long, List.not_mem_nil, not_false_eq_true, ne_eq, Nat.reduceAdd, Nat.reduceEqDiff, Nat.zero_add, Nat.add_left_cancel_iff, List.set_cons_zero, List.set_cons_succ, List.length_cons, List.length_nil, Nat.reduceLT, am_ft_i, am_ft_r, am_ft_z, and_true, true_and, Option.toList_some, Option.toList_none, List.cons_append, List.nil_append, List.drop_succ_cons, List.drop_zero, iI_c, iI_b, iI_s, iI_n, iI_add, iI_sub, iI_mul, iI_neg, iI_nle, iI_ix, iI_eq0, iI_eq1, iI_lt0, iI_0lt, iI_le0, iI_0le, iI_eq, iI_lt, iI_le, iI_upd, iI_updZ, Int.reduceEq, Int.reduceLT, Int.reduceLE, Int.reduceNeg, Int.reduceNe, hO3, ru_fs_len, ru_f0, ru_f1, ru_f2, ru_f3, ru_f4, ru_f5, ru_f6, ru_f7, ru_f8, ru_f9, ru_f10, ru_f11, ru_f12, ru_f13, ru_s0, ru_t2, ru_l2, ru_t3, ru_l3, ru_t4, ru_l4, ru_t5, ru_l5, ru_t10, ru_l10, ru_t11, ru_l11, ru_t12, ru_l12, ru_t13, ru_l13, ru_t14, ru_l14, ru_t15, ru_l15, lo_fs_len, lo_f0, lo_f1, lo_s0, ty_fs_len, ty_f0, ty_f1, ty_f2, ty_f3, ty_f4, ty_f5, ty_f6, ty_f7, ty_f8, ty_f9, ty_s0, ty_t1, ty_l1, ty_t2, ty_l2, ty_t3, ty_l3, ty_t11, ty_l11, ty_t12, ty_l12, ty_t13, ty_l13, ty_t14, ty_l14, bo_fs_len, bo_f0, bo_f1, bo_f2, bo_f3, bo_f4, bo_f5, bo_f6, bo_f7, bo_f8, bo_s0, rw_hit]
    refine am_go_call c_Run_finish_20 (by decide) (by decide) (by first | (simp [am_can, am_kd, Value.category, hG3]; done) | (simp [am_can, am_kd, am_b, am_c, Value.category, hG3]; done) | (simp (disch := omega) [am_can, am_kd, am_b, am_c, Value.category, am_put_1, am_up_hit, am_up_miss, hG3]; done)) ?_
    refine (ct_add d (by omega) _ p q w n m _ S w2.1 hm th 1 (sq_top r th)).mono (fun r9 h1 hr9 => ?_)
    obtain ⟨rfl, w3⟩ := hr9
    refine am_go_of 5 [14, 20, 25] _ c_Run_finish_21 ?_
    simp (maxSteps := 2000000) (disch := omega) only [c_Run_finish_0, c_Run_finish_1, c_Run_finish_2, c_Run_finish_3, c_Run_finish_4, c_Run_finish_5, c_Run_finish_6, c_Run_finish_7, c_Run_finish_8, c_Run_finish_9, c_Run_finish_10, c_Run_finish_11, c_Run_finish_12, c_Run_finish_13, c_Run_finish_14, c_Run_finish_15, c_Run_finish_16, c_Run_finish_17, c_Run_finish_18, c_Run_finish_19, c_Run_finish_20, c_Run_finish_21, c_Run_finish_22, c_Run_finish_23, c_Run_finish_24, c_Run_finish_25, c_Run_finish_26, sx_aload_n, sx_bipush, sx_dup2_ir, sx_getfield, sx_goto, sx_iaload, sx_iastore, sx_iconst, sx_if_icmp_ge, sx_iload_n, sx_isub, sx_return, am_W_s, am_W_0, am_mm_some, List.mem_cons, or_false, false_or, or_self, or_true, true_or, reduceIte, if_false, if_true, am_o_some, am_o_none, am_o_bad, am_o_good, am_ldi_hit, am_ldi_miss, am_lda_hit, am_lda_miss, am_ldl_hit, am_ldl_miss, am_inc_eq, am_inc_hit, am_inc_miss, am_ob_hit, am_fd_0, am_fd_s, am_ai_hit, am_ab_3, am_al_hit, am_aq_4, am_al0_hit, am_put_1, am_put_2, am_put_put, am_up_hit, am_up_miss, am_s1_eq, am_s2_eq, am_fl_nil, am_fl_hit, am_fl_int, am_fl_ref, am_fl_long, am_fl_longx, am_fl2_nil, am_fl2_hit, am_fl2_hit1, am_fl2_int, am_fl2_ref, am_fl2_long, List.not_mem_nil, not_false_eq_true, ne_eq, Nat.reduceAdd, Nat.reduceEqDiff, Nat.zero_add, Nat.add_left_cancel_iff, List.set_cons_zero, List.set_cons_succ, List.length_cons, List.length_nil, Nat.reduceLT, am_ft_i, am_ft_r, am_ft_z, and_true, true_and, Option.toList_some, Option.toList_none, List.cons_append, List.nil_append, List.drop_succ_cons, List.drop_zero, iI_c, iI_b, iI_s, iI_n, iI_add, iI_sub, iI_mul, iI_neg, iI_nle, iI_ix, iI_eq0, iI_eq1, iI_lt0, iI_0lt, iI_le0, iI_0le, iI_eq, iI_lt, iI_le, iI_upd, iI_updZ, Int.reduceEq, Int.reduceLT, Int.reduceLE, Int.reduceNeg, Int.reduceNe, ru_fs_len, ru_f0, ru_f1, ru_f2, ru_f3, ru_f4, ru_f5, ru_f6, ru_f7, ru_f8, ru_f9, ru_f10, ru_f11, ru_f12, ru_f13, ru_s0, ru_t2, ru_l2, ru_t3, ru_l3, ru_t4, ru_l4, ru_t5, ru_l5, ru_t10, ru_l10, ru_t11, ru_l11, ru_t12, ru_l12, ru_t13, ru_l13, ru_t14, ru_l14, ru_t15, ru_l15, lo_fs_len, lo_f0, lo_f1, lo_s0, ty_fs_len, ty_f0, ty_f1, ty_f2, ty_f3, ty_f4, ty_f5, ty_f6, ty_f7, ty_f8, ty_f9, ty_s0, ty_t1, ty_l1, ty_t2, ty_l2, ty_t3, ty_l3, ty_t11, ty_l11, ty_t12, ty_l12, ty_t13, ty_l13, ty_t14, ty_l14, bo_fs_len, bo_f0, bo_f1, bo_f2, bo_f3, bo_f4, bo_f5, bo_f6, bo_f7, bo_f8, bo_s0, rw_hit]
    rw [if_neg c]
    have ho2 := ro_go hv ho hth hmn (st' := 2) (Or.inl rfl)
    rw [← etm] at ho2
    exact ⟨_, _, (w1.tr w2).tr w3, ro_lg ho2, va_up_hit⟩
theorem gb_all : ∀ g : Fin 32, ∀ k : Fin 5, (iI (g.val : Int) >>> (iI (k.val : Int) &&& 31)) &&& iI 1 = iI (bt (g.val : Int) (k.val : Int)) := by decide
theorem gb {g k : Int} (hg : 0 ≤ g ∧ g < 32) (hk : 0 ≤ k ∧ k < 5) : (iI g >>> (iI k &&& 31)) &&& iI 1 = iI (bt g k) := by
  have e := gb_all ⟨g.toNat, by omega⟩ ⟨k.toNat, by omega⟩
  dsimp only at e
  rw [show ((g.toNat : Nat) : Int) = g by omega, show ((k.toNat : Nat) : Int) = k by omega] at e
  exact e
theorem bt_01 {g k : Int} : bt g k = 0 ∨ bt g k = 1 := by
  unfold bt
  omega
set_option maxHeartbeats 8000000 in
theorem ct_isGuarded (d : Nat) (hd : 1 ≤ d) (h : am_H) (w q : Nat) (M : Int) (B : Nat → Int → Int) (K : Nat → Int → Int → Int) (H : bo_at h w q M B K) (b k : Int) (hb : 0 ≤ b ∧ b < 9) (hk : 0 ≤ k ∧ k < 5) (hg : 0 ≤ B 52 b ∧ B 52 b < 32) : am_Ct am_df am_MT d 49 [.ref w, .int (iI b), .int (iI k)] h (fun r0 h' => r0 = some (.int (iI (bt (B 52 b) k))) ∧ h' = h) := by
  obtain ⟨h0, hO, h1, h2, -⟩ := H
  have e := gb hg hk
  obtain ⟨d, rfl⟩ : ∃ e, d = e + 1 := ⟨d - 1, by omega⟩
  refine am_ct_of2 mt_Bodies_isGuarded (Nat.le_of_ble_eq_true rfl) ?_
  simp only [ar_nil, ar_int, ar_ref, ar_long, Nat.reduceAdd]
  rcases bt_01 (g := B 52 b) (k := k) with c | c
  · rw [c] at e ⊢
    refine am_go_of 30 [] _ c_Bodies_isGuarded_0 ?_
    simp (maxSteps := 2000000) (disch := omega) only [c_Bodies_isGuarded_0, c_Bodies_isGuarded_1, c_Bodies_isGuarded_2, c_Bodies_isGuarded_3, c_Bodies_isGuarded_4, c_Bodies_isGuarded_5, c_Bodies_isGuarded_6, c_Bodies_isGuarded_7, c_Bodies_isGuarded_8, c_Bodies_isGuarded_9, c_Bodies_isGuarded_10, c_Bodies_isGuarded_11, c_Bodies_isGuarded_12, sx_aload_n, sx_getfield, sx_goto, sx_iaload, sx_iand, sx_iconst, sx_ifCond_eq, sx_iload_n, sx_ireturn, sx_ishr, sx_zreturn, am_W_s, am_W_0, am_mm_some, List.mem_cons, or_false, false_or, or_self, or_true, true_or, reduceIte, if_false, if_true, am_o_some, am_o_none, am_o_bad, am_o_good, am_ldi_hit, am_ldi_miss, am_lda_hit, am_lda_miss, am_ldl_hit, am_ldl_miss, am_inc_eq, am_inc_hit, am_inc_miss, am_ob_hit, am_fd_0, am_fd_s, am_ai_hit, am_ab_3, am_al_hit, am_aq_4, am_al0_hit, am_put_1, am_put_2, am_put_put, am_up_hit, am_up_miss, am_s1_eq, am_s2_eq, am_fl_nil, am_fl_hit, am_fl_int, am_fl_ref, am_fl_long, am_fl_longx, am_fl2_nil, am_fl2_hit, am_fl2_hit1, am_fl2_int, am_fl2_ref, am_fl2_long, List.not_mem_nil, not_false_eq_true, ne_eq, Nat.reduceAdd, Nat.reduceEqDiff, Nat.zero_add, Nat.add_left_cancel_iff, List.set_cons_zero, List.set_cons_succ, List.length_cons, List.length_nil, Nat.reduceLT, am_ft_i, am_ft_r, am_ft_z, and_true, true_and, Option.toList_some, Option.toList_none, List.cons_append, List.nil_append, List.drop_succ_cons, List.drop_zero, iI_c, iI_b, iI_s, iI_n, iI_add, iI_sub, iI_mul, iI_neg, iI_nle, iI_ix, iI_eq0, iI_eq1, iI_lt0, iI_0lt, iI_le0, iI_0le, iI_eq, iI_lt, iI_le, iI_upd, iI_updZ, Int.reduceEq, Int.reduceLT, Int.reduceLE, Int.reduceNeg, Int.reduceNe, hO, h2, e, bo_fs_len, bo_f0, bo_f1, bo_f2, bo_f3, bo_f4, bo_f5, bo_f6, bo_f7, bo_f8, bo_s0, ty_fs_len, ty_f0, ty_f1, ty_f2, ty_f3, ty_f4, ty_f5, ty_f6, ty_f7, ty_f8, ty_f9, ty_s0, ty_t1, ty_l1, ty_t2, ty_l2, ty_t3, ty_l3, ty_t11, ty_l11, ty_t12, ty_l12, ty_t13, ty_l13, ty_t14, ty_l14, rw_hit]
    repeat (refine And.intro (by omega) ?_)
    all_goals (first | trivial | rfl | omega | exact ⟨Or.inl rfl, rfl⟩)
  · rw [c] at e ⊢
    refine am_go_of 30 [] _ c_Bodies_isGuarded_0 ?_
    simp (maxSteps := 2000000) (disch := omega) only [c_Bodies_isGuarded_0, c_Bodies_isGuarded_1, c_Bodies_isGuarded_2, c_Bodies_isGuarded_3, c_Bodies_isGuarded_4, c_Bodies_isGuarded_5, c_Bodies_isGuarded_6, c_Bodies_isGuarded_7, c_Bodies_isGuarded_8, c_Bodies_isGuarded_9, c_Bodies_isGuarded_10, c_Bodies_isGuarded_11, c_Bodies_isGuarded_12, sx_aload_n, sx_getfield, sx_goto, sx_iaload, sx_iand, sx_iconst, sx_ifCond_eq, sx_iload_n, sx_ireturn, sx_ishr, sx_zreturn, am_W_s, am_W_0, am_mm_some, List.mem_cons, or_false, false_or, or_self, or_true, true_or, reduceIte, if_false, if_true, am_o_some, am_o_none, am_o_bad, am_o_good, am_ldi_hit, am_ldi_miss, am_lda_hit, am_lda_miss, am_ldl_hit, am_ldl_miss, am_inc_eq, am_inc_hit, am_inc_miss, am_ob_hit, am_fd_0, am_fd_s, am_ai_hit, am_ab_3, am_al_hit, am_aq_4, am_al0_hit, am_put_1, am_put_2, am_put_put, am_up_hit, am_up_miss, am_s1_eq, am_s2_eq, am_fl_nil, am_fl_hit, am_fl_int, am_fl_ref, am_fl_long, am_fl_longx, am_fl2_nil, am_fl2_hit, am_fl2_hit1, am_fl2_int, am_fl2_ref, am_fl2_long, List.not_mem_nil, not_false_eq_true, ne_eq, Nat.reduceAdd, Nat.reduceEqDiff, Nat.zero_add, Nat.add_left_cancel_iff, List.set_cons_zero, List.set_cons_succ, List.length_cons, List.length_nil, Nat.reduceLT, am_ft_i, am_ft_r, am_ft_z, and_true, true_and, Option.toList_some, Option.toList_none, List.cons_append, List.nil_append, List.drop_succ_cons, List.drop_zero, iI_c, iI_b, iI_s, iI_n, iI_add, iI_sub, iI_mul, iI_neg, iI_nle, iI_ix, iI_eq0, iI_eq1, iI_lt0, iI_0lt, iI_le0, iI_0le, iI_eq, iI_lt, iI_le, iI_upd, iI_updZ, Int.reduceEq, Int.reduceLT, Int.reduceLE, Int.reduceNeg, Int.reduceNe, hO, h2, e, bo_fs_len, bo_f0, bo_f1, bo_f2, bo_f3, bo_f4, bo_f5, bo_f6, bo_f7, bo_f8, bo_s0, ty_fs_len, ty_f0, ty_f1, ty_f2, ty_f3, ty_f4, ty_f5, ty_f6, ty_f7, ty_f8, ty_f9, ty_s0, ty_t1, ty_l1, ty_t2, ty_l2, ty_t3, ty_l3, ty_t11, ty_l11, ty_t12, ty_l12, ty_t13, ty_l13, ty_t14, ty_l14, rw_hit]
    repeat (refine And.intro (by omega) ?_)
    all_goals (first | trivial | rfl | omega | exact ⟨Or.inr rfl, rfl⟩)
