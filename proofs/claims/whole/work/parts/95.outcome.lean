theorem mt_Run_packOutcome : am_MT[88]? = some m_Run_packOutcome := rfl
theorem c_Run_packOutcome_0 : c_Run_packOutcome[0]? = some (0, 1, .lconst 0, 0, 0, 0, 0, 0, []) := Eq.trans rfl rfl
theorem c_Run_packOutcome_1 : c_Run_packOutcome[1]? = some (1, 1, .lstore_n 1, 1, 0, 0, 0, 0, []) := Eq.trans rfl rfl
theorem c_Run_packOutcome_2 : c_Run_packOutcome[2]? = some (2, 1, .iconst 0, 0, 0, 0, 0, 0, []) := Eq.trans rfl rfl
theorem c_Run_packOutcome_3 : c_Run_packOutcome[3]? = some (3, 1, .istore_n 3, 3, 0, 0, 0, 0, []) := Eq.trans rfl rfl
theorem c_Run_packOutcome_4 : c_Run_packOutcome[4]? = some (4, 1, .iload_n 3, 3, 0, 0, 0, 0, []) := Eq.trans rfl rfl
theorem c_Run_packOutcome_5 : c_Run_packOutcome[5]? = some (5, 1, .iconst 3, 0, 0, 0, 0, 0, []) := Eq.trans rfl rfl
theorem c_Run_packOutcome_6 : c_Run_packOutcome[6]? = some (6, 3, .if_icmp .ge 35, 25, 0, 0, 0, 0, []) := Eq.trans rfl rfl
theorem c_Run_packOutcome_7 : c_Run_packOutcome[7]? = some (9, 1, .lload_n 1, 1, 0, 0, 0, 0, []) := Eq.trans rfl rfl
theorem c_Run_packOutcome_8 : c_Run_packOutcome[8]? = some (10, 1, .iconst 3, 0, 0, 0, 0, 0, []) := Eq.trans rfl rfl
theorem c_Run_packOutcome_9 : c_Run_packOutcome[9]? = some (11, 1, .lshl, 0, 0, 0, 0, 0, []) := Eq.trans rfl rfl
theorem c_Run_packOutcome_10 : c_Run_packOutcome[10]? = some (12, 1, .aload_n 0, 0, 0, 0, 0, 0, []) := Eq.trans rfl rfl
theorem c_Run_packOutcome_11 : c_Run_packOutcome[11]? = some (13, 3, .getfield 60, 3, 8, 0, 0, 214, []) := Eq.trans rfl rfl
theorem c_Run_packOutcome_12 : c_Run_packOutcome[12]? = some (16, 1, .iload_n 3, 3, 0, 0, 0, 0, []) := Eq.trans rfl rfl
theorem c_Run_packOutcome_13 : c_Run_packOutcome[13]? = some (17, 3, .invokevirtual 166, 35, 2, 2, 0, 675, []) := Eq.trans rfl rfl
theorem c_Run_packOutcome_14 : c_Run_packOutcome[14]? = some (20, 3, .ifCond .eq 11, 19, 0, 0, 0, 0, []) := Eq.trans rfl rfl
theorem c_Run_packOutcome_15 : c_Run_packOutcome[15]? = some (23, 1, .aload_n 0, 0, 0, 0, 0, 0, []) := Eq.trans rfl rfl
theorem c_Run_packOutcome_16 : c_Run_packOutcome[16]? = some (24, 1, .iload_n 3, 3, 0, 0, 0, 0, []) := Eq.trans rfl rfl
theorem c_Run_packOutcome_17 : c_Run_packOutcome[17]? = some (25, 3, .invokevirtual 108, 40, 2, 3, 0, 542, []) := Eq.trans rfl rfl
theorem c_Run_packOutcome_18 : c_Run_packOutcome[18]? = some (28, 3, .goto 4, 20, 0, 0, 0, 0, []) := Eq.trans rfl rfl
theorem c_Run_packOutcome_19 : c_Run_packOutcome[19]? = some (31, 1, .iconst 0, 0, 0, 0, 0, 0, []) := Eq.trans rfl rfl
theorem c_Run_packOutcome_20 : c_Run_packOutcome[20]? = some (32, 1, .i2l, 0, 0, 0, 0, 0, []) := Eq.trans rfl rfl
theorem c_Run_packOutcome_21 : c_Run_packOutcome[21]? = some (33, 1, .lor, 0, 0, 0, 0, 0, []) := Eq.trans rfl rfl
theorem c_Run_packOutcome_22 : c_Run_packOutcome[22]? = some (34, 1, .lstore_n 1, 1, 0, 0, 0, 0, []) := Eq.trans rfl rfl
theorem c_Run_packOutcome_23 : c_Run_packOutcome[23]? = some (35, 3, .iinc 3 1, 0, 0, 0, 0, 0, []) := Eq.trans rfl rfl
theorem c_Run_packOutcome_24 : c_Run_packOutcome[24]? = some (38, 3, .goto (-34), 4, 0, 0, 0, 0, []) := Eq.trans rfl rfl
theorem c_Run_packOutcome_25 : c_Run_packOutcome[25]? = some (41, 1, .iconst 0, 0, 0, 0, 0, 0, []) := Eq.trans rfl rfl
theorem c_Run_packOutcome_26 : c_Run_packOutcome[26]? = some (42, 1, .istore_n 3, 3, 0, 0, 0, 0, []) := Eq.trans rfl rfl
theorem c_Run_packOutcome_27 : c_Run_packOutcome[27]? = some (43, 1, .iload_n 3, 3, 0, 0, 0, 0, []) := Eq.trans rfl rfl
theorem c_Run_packOutcome_28 : c_Run_packOutcome[28]? = some (44, 2, .bipush 6, 0, 0, 0, 0, 0, []) := Eq.trans rfl rfl
theorem c_Run_packOutcome_29 : c_Run_packOutcome[29]? = some (46, 3, .if_icmp .ge 21, 42, 0, 0, 0, 0, []) := Eq.trans rfl rfl
theorem c_Run_packOutcome_30 : c_Run_packOutcome[30]? = some (49, 1, .lload_n 1, 1, 0, 0, 0, 0, []) := Eq.trans rfl rfl
theorem c_Run_packOutcome_31 : c_Run_packOutcome[31]? = some (50, 1, .iconst 2, 0, 0, 0, 0, 0, []) := Eq.trans rfl rfl
theorem c_Run_packOutcome_32 : c_Run_packOutcome[32]? = some (51, 1, .lshl, 0, 0, 0, 0, 0, []) := Eq.trans rfl rfl
theorem c_Run_packOutcome_33 : c_Run_packOutcome[33]? = some (52, 1, .aload_n 0, 0, 0, 0, 0, 0, []) := Eq.trans rfl rfl
theorem c_Run_packOutcome_34 : c_Run_packOutcome[34]? = some (53, 3, .getfield 22, 3, 2, 0, 0, 203, []) := Eq.trans rfl rfl
theorem c_Run_packOutcome_35 : c_Run_packOutcome[35]? = some (56, 1, .iload_n 3, 3, 0, 0, 0, 0, []) := Eq.trans rfl rfl
theorem c_Run_packOutcome_36 : c_Run_packOutcome[36]? = some (57, 1, .iaload, 0, 0, 0, 0, 0, []) := Eq.trans rfl rfl
theorem c_Run_packOutcome_37 : c_Run_packOutcome[37]? = some (58, 1, .i2l, 0, 0, 0, 0, 0, []) := Eq.trans rfl rfl
theorem c_Run_packOutcome_38 : c_Run_packOutcome[38]? = some (59, 1, .lor, 0, 0, 0, 0, 0, []) := Eq.trans rfl rfl
theorem c_Run_packOutcome_39 : c_Run_packOutcome[39]? = some (60, 1, .lstore_n 1, 1, 0, 0, 0, 0, []) := Eq.trans rfl rfl
theorem c_Run_packOutcome_40 : c_Run_packOutcome[40]? = some (61, 3, .iinc 3 1, 0, 0, 0, 0, 0, []) := Eq.trans rfl rfl
theorem c_Run_packOutcome_41 : c_Run_packOutcome[41]? = some (64, 3, .goto (-21), 27, 0, 0, 0, 0, []) := Eq.trans rfl rfl
theorem c_Run_packOutcome_42 : c_Run_packOutcome[42]? = some (67, 1, .iconst 0, 0, 0, 0, 0, 0, []) := Eq.trans rfl rfl
theorem c_Run_packOutcome_43 : c_Run_packOutcome[43]? = some (68, 1, .istore_n 3, 3, 0, 0, 0, 0, []) := Eq.trans rfl rfl
theorem c_Run_packOutcome_44 : c_Run_packOutcome[44]? = some (69, 1, .iload_n 3, 3, 0, 0, 0, 0, []) := Eq.trans rfl rfl
theorem c_Run_packOutcome_45 : c_Run_packOutcome[45]? = some (70, 2, .bipush 6, 0, 0, 0, 0, 0, []) := Eq.trans rfl rfl
theorem c_Run_packOutcome_46 : c_Run_packOutcome[46]? = some (72, 3, .if_icmp .ge 24, 61, 0, 0, 0, 0, []) := Eq.trans rfl rfl
theorem c_Run_packOutcome_47 : c_Run_packOutcome[47]? = some (75, 1, .lload_n 1, 1, 0, 0, 0, 0, []) := Eq.trans rfl rfl
theorem c_Run_packOutcome_48 : c_Run_packOutcome[48]? = some (76, 1, .iconst 5, 0, 0, 0, 0, 0, []) := Eq.trans rfl rfl
theorem c_Run_packOutcome_49 : c_Run_packOutcome[49]? = some (77, 1, .lshl, 0, 0, 0, 0, 0, []) := Eq.trans rfl rfl
theorem c_Run_packOutcome_50 : c_Run_packOutcome[50]? = some (78, 1, .aload_n 0, 0, 0, 0, 0, 0, []) := Eq.trans rfl rfl
theorem c_Run_packOutcome_51 : c_Run_packOutcome[51]? = some (79, 3, .getfield 29, 3, 4, 0, 0, 207, []) := Eq.trans rfl rfl
theorem c_Run_packOutcome_52 : c_Run_packOutcome[52]? = some (82, 1, .iload_n 3, 3, 0, 0, 0, 0, []) := Eq.trans rfl rfl
theorem c_Run_packOutcome_53 : c_Run_packOutcome[53]? = some (83, 1, .iaload, 0, 0, 0, 0, 0, []) := Eq.trans rfl rfl
theorem c_Run_packOutcome_54 : c_Run_packOutcome[54]? = some (84, 2, .bipush 9, 0, 0, 0, 0, 0, []) := Eq.trans rfl rfl
theorem c_Run_packOutcome_55 : c_Run_packOutcome[55]? = some (86, 1, .iadd, 0, 0, 0, 0, 0, []) := Eq.trans rfl rfl
theorem c_Run_packOutcome_56 : c_Run_packOutcome[56]? = some (87, 1, .i2l, 0, 0, 0, 0, 0, []) := Eq.trans rfl rfl
theorem c_Run_packOutcome_57 : c_Run_packOutcome[57]? = some (88, 1, .lor, 0, 0, 0, 0, 0, []) := Eq.trans rfl rfl
theorem c_Run_packOutcome_58 : c_Run_packOutcome[58]? = some (89, 1, .lstore_n 1, 1, 0, 0, 0, 0, []) := Eq.trans rfl rfl
theorem c_Run_packOutcome_59 : c_Run_packOutcome[59]? = some (90, 3, .iinc 3 1, 0, 0, 0, 0, 0, []) := Eq.trans rfl rfl
theorem c_Run_packOutcome_60 : c_Run_packOutcome[60]? = some (93, 3, .goto (-24), 44, 0, 0, 0, 0, []) := Eq.trans rfl rfl
theorem c_Run_packOutcome_61 : c_Run_packOutcome[61]? = some (96, 1, .lload_n 1, 1, 0, 0, 0, 0, []) := Eq.trans rfl rfl
theorem c_Run_packOutcome_62 : c_Run_packOutcome[62]? = some (97, 1, .lreturn, 0, 0, 0, 0, 0, []) := Eq.trans rfl rfl
theorem mt_Md_against : am_MT[158]? = some m_Md_against := rfl
theorem c_Md_against_0 : c_Md_against[0]? = some (0, 1, .iconst 0, 0, 0, 0, 0, 0, []) := Eq.trans rfl rfl
theorem c_Md_against_1 : c_Md_against[1]? = some (1, 1, .istore_n 2, 2, 0, 0, 0, 0, []) := Eq.trans rfl rfl
theorem c_Md_against_2 : c_Md_against[2]? = some (2, 1, .iload_n 2, 2, 0, 0, 0, 0, []) := Eq.trans rfl rfl
theorem c_Md_against_3 : c_Md_against[3]? = some (3, 2, .bipush 15, 0, 0, 0, 0, 0, []) := Eq.trans rfl rfl
theorem c_Md_against_4 : c_Md_against[4]? = some (5, 3, .if_icmp .ge 55, 37, 0, 0, 0, 0, []) := Eq.trans rfl rfl
theorem c_Md_against_5 : c_Md_against[5]? = some (8, 1, .aload_n 0, 0, 0, 0, 0, 0, []) := Eq.trans rfl rfl
theorem c_Md_against_6 : c_Md_against[6]? = some (9, 3, .getfield 93, 8, 35, 0, 0, 792, []) := Eq.trans rfl rfl
theorem c_Md_against_7 : c_Md_against[7]? = some (12, 1, .iload_n 2, 2, 0, 0, 0, 0, []) := Eq.trans rfl rfl
theorem c_Md_against_8 : c_Md_against[8]? = some (13, 1, .iaload, 0, 0, 0, 0, 0, []) := Eq.trans rfl rfl
theorem c_Md_against_9 : c_Md_against[9]? = some (14, 1, .aload_n 0, 0, 0, 0, 0, 0, []) := Eq.trans rfl rfl
theorem c_Md_against_10 : c_Md_against[10]? = some (15, 3, .getfield 84, 8, 32, 0, 0, 789, []) := Eq.trans rfl rfl
theorem c_Md_against_11 : c_Md_against[11]? = some (18, 2, .bipush 15, 0, 0, 0, 0, 0, []) := Eq.trans rfl rfl
theorem c_Md_against_12 : c_Md_against[12]? = some (20, 1, .iload_n 1, 1, 0, 0, 0, 0, []) := Eq.trans rfl rfl
theorem c_Md_against_13 : c_Md_against[13]? = some (21, 1, .imul, 0, 0, 0, 0, 0, []) := Eq.trans rfl rfl
theorem c_Md_against_14 : c_Md_against[14]? = some (22, 1, .iload_n 2, 2, 0, 0, 0, 0, []) := Eq.trans rfl rfl
theorem c_Md_against_15 : c_Md_against[15]? = some (23, 1, .iadd, 0, 0, 0, 0, 0, []) := Eq.trans rfl rfl
theorem c_Md_against_16 : c_Md_against[16]? = some (24, 1, .iaload, 0, 0, 0, 0, 0, []) := Eq.trans rfl rfl
theorem c_Md_against_17 : c_Md_against[17]? = some (25, 3, .if_icmp .eq 29, 35, 0, 0, 0, 0, []) := Eq.trans rfl rfl
theorem c_Md_against_18 : c_Md_against[18]? = some (28, 1, .aload_n 0, 0, 0, 0, 0, 0, []) := Eq.trans rfl rfl
theorem c_Md_against_19 : c_Md_against[19]? = some (29, 3, .getfield 93, 8, 35, 0, 0, 792, []) := Eq.trans rfl rfl
theorem c_Md_against_20 : c_Md_against[20]? = some (32, 1, .iload_n 2, 2, 0, 0, 0, 0, []) := Eq.trans rfl rfl
theorem c_Md_against_21 : c_Md_against[21]? = some (33, 1, .iaload, 0, 0, 0, 0, 0, []) := Eq.trans rfl rfl
theorem c_Md_against_22 : c_Md_against[22]? = some (34, 1, .aload_n 0, 0, 0, 0, 0, 0, []) := Eq.trans rfl rfl
theorem c_Md_against_23 : c_Md_against[23]? = some (35, 3, .getfield 84, 8, 32, 0, 0, 789, []) := Eq.trans rfl rfl
theorem c_Md_against_24 : c_Md_against[24]? = some (38, 2, .bipush 15, 0, 0, 0, 0, 0, []) := Eq.trans rfl rfl
theorem c_Md_against_25 : c_Md_against[25]? = some (40, 1, .iload_n 1, 1, 0, 0, 0, 0, []) := Eq.trans rfl rfl
theorem c_Md_against_26 : c_Md_against[26]? = some (41, 1, .imul, 0, 0, 0, 0, 0, []) := Eq.trans rfl rfl
theorem c_Md_against_27 : c_Md_against[27]? = some (42, 1, .iload_n 2, 2, 0, 0, 0, 0, []) := Eq.trans rfl rfl
theorem c_Md_against_28 : c_Md_against[28]? = some (43, 1, .iadd, 0, 0, 0, 0, 0, []) := Eq.trans rfl rfl
theorem c_Md_against_29 : c_Md_against[29]? = some (44, 1, .iaload, 0, 0, 0, 0, 0, []) := Eq.trans rfl rfl
theorem c_Md_against_30 : c_Md_against[30]? = some (45, 3, .if_icmp .ge 7, 33, 0, 0, 0, 0, []) := Eq.trans rfl rfl
theorem c_Md_against_31 : c_Md_against[31]? = some (48, 1, .iconst (-1), 0, 0, 0, 0, 0, []) := Eq.trans rfl rfl
theorem c_Md_against_32 : c_Md_against[32]? = some (49, 3, .goto 4, 34, 0, 0, 0, 0, []) := Eq.trans rfl rfl
theorem c_Md_against_33 : c_Md_against[33]? = some (52, 1, .iconst 1, 0, 0, 0, 0, 0, []) := Eq.trans rfl rfl
theorem c_Md_against_34 : c_Md_against[34]? = some (53, 1, .ireturn, 0, 0, 0, 0, 0, []) := Eq.trans rfl rfl
theorem c_Md_against_35 : c_Md_against[35]? = some (54, 3, .iinc 2 1, 0, 0, 0, 0, 0, []) := Eq.trans rfl rfl
theorem c_Md_against_36 : c_Md_against[36]? = some (57, 3, .goto (-55), 2, 0, 0, 0, 0, []) := Eq.trans rfl rfl
theorem c_Md_against_37 : c_Md_against[37]? = some (60, 1, .iconst 0, 0, 0, 0, 0, 0, []) := Eq.trans rfl rfl
theorem c_Md_against_38 : c_Md_against[38]? = some (61, 1, .ireturn, 0, 0, 0, 0, 0, []) := Eq.trans rfl rfl
/-! An OUTCOME as 15 numbers, and as one. -/
def bs (j : Nat) : Int := if j < 3 then 8 else if j < 9 then 4 else 32
theorem bs_3 (j : Nat) : bs j = 8 ∨ bs j = 4 ∨ bs j = 32 := by
  unfold bs
  split
  · exact Or.inl rfl
  · split
    · exact Or.inr (Or.inl rfl)
    · exact Or.inr (Or.inr rfl)
def pcd (D : Int → Int) : Nat → Int
  | 0 => 0
  | n + 1 => pcd D n * bs n + D n
def pb : Nat → Int
  | 0 => 1
  | n + 1 => pb n * bs n
theorem pb_all : ∀ n : Fin 16, 1 ≤ pb n.val ∧ pb n.val ≤ 2251799813685248 := by decide
theorem pcd_rg {D : Int → Int} (h : ∀ j : Nat, j < 15 → 0 ≤ D j ∧ D j < bs j) : ∀ n : Nat, n ≤ 15 → 0 ≤ pcd D n ∧ pcd D n < pb n := by
  intro n
  induction n with
  | zero => exact fun _ => ⟨Int.le_refl _, (by decide : (0 : Int) < 1)⟩
  | succ n ih =>
    intro hn
    have a := ih (by omega)
    have b := h n (by omega)
    unfold pcd pb
    generalize pb n = P at *
    rcases bs_3 n with e | e | e <;> rw [e] at b ⊢ <;> omega
theorem pcd_51 {D : Int → Int} (h : ∀ j : Nat, j < 15 → 0 ≤ D j ∧ D j < bs j) (n : Nat) (hn : n ≤ 15) : 0 ≤ pcd D n ∧ pcd D n < 2251799813685248 := by
  have a := pcd_rg h n hn
  have b := (pb_all ⟨n, by omega⟩).2
  dsimp only at b
  omega
theorem pcd_congr {D E : Int → Int} : ∀ n : Nat, (∀ j : Nat, j < n → D j = E j) → pcd D n = pcd E n := by
  intro n
  induction n with
  | zero => exact fun _ => rfl
  | succ n ih =>
    intro h
    unfold pcd
    rw [ih (fun j hj => h j (by omega)), h n (by omega)]
theorem pcd_lt {D E : Int → Int} (hD : ∀ j : Nat, j < 15 → 0 ≤ D j ∧ D j < bs j) (hE : ∀ j : Nat, j < 15 → 0 ≤ E j ∧ E j < bs j) (k : Nat) (he : ∀ j : Nat, j < k → D j = E j) (hl : D k < E k) : ∀ n : Nat, k < n → n ≤ 15 → pcd D n < pcd E n := by
  intro n
  induction n with
  | zero => intro h; omega
  | succ n ih =>
    intro h1 h2
    unfold pcd
    by_cases c : n = k
    · rw [c, pcd_congr k he]
      omega
    · have a := ih (by omega) (by omega)
      have d := hD n (by omega)
      have e := hE n (by omega)
      rcases bs_3 n with q | q | q <;> rw [q] at d e ⊢ <;> omega
def od (f : Int → Int) (j : Int) : Int := if j < 9 then f j else f j + 9
def oc_ok (f : Int → Int) : Prop := (∀ j : Int, 0 ≤ j ∧ j < 3 → 0 ≤ f j ∧ f j ≤ 7) ∧ (∀ j : Int, 3 ≤ j ∧ j < 9 → 0 ≤ f j ∧ f j ≤ 3) ∧ ∀ j : Int, 9 ≤ j ∧ j < 15 → -9 ≤ f j ∧ f j ≤ 9
theorem od_ok {f : Int → Int} (h : oc_ok f) : ∀ j : Nat, j < 15 → 0 ≤ od f j ∧ od f j < bs j := by
  intro j hj
  unfold od bs
  by_cases c1 : j < 3
  · have := h.1 j (by omega)
    rw [if_pos (by omega), if_pos c1]
    omega
  · by_cases c2 : j < 9
    · have := h.2.1 j (by omega)
      rw [if_pos (by omega), if_neg c1, if_pos c2]
      omega
    · have := h.2.2 j (by omega)
      rw [if_neg (by omega), if_neg c1, if_neg c2]
      omega
def ocd (f : Int → Int) : Int := pcd (od f) 15
theorem od_eq {f g : Int → Int} {j : Int} (h : f j = g j) : od f j = od g j := by
  unfold od
  rw [h]
theorem od_lt {f g : Int → Int} {j : Int} (h : f j < g j) : od f j < od g j := by
  unfold od
  split <;> omega
/-- how the numbers f stand to the numbers g, from i on -/
def agl (f g : Int → Int) : Nat → Int → Int
  | 0, _ => 0
  | n + 1, i => if f i = g i then agl f g n (i + 1) else if f i < g i then -1 else 1
theorem agl_sg {f g : Int → Int} (hf : oc_ok f) (hg : oc_ok g) : ∀ (n i : Nat), i + n = 15 → (∀ j : Nat, j < i → f j = g j) → (agl f g n i = 0 ∧ ocd f = ocd g ∧ (∀ j : Nat, j < 15 → f j = g j) ∨ agl f g n i = -1 ∧ ocd f < ocd g ∨ agl f g n i = 1 ∧ ocd g < ocd f) := by
  intro n
  induction n with
  | zero =>
    intro i hi he
    have e : i = 15 := by omega
    subst e
    exact Or.inl ⟨rfl, pcd_congr 15 (fun j hj => od_eq (he j hj)), he⟩
  | succ n ih =>
    intro i hi he
    unfold agl
    by_cases c : f i = g i
    · rw [if_pos c]
      have a := ih (i + 1) (by omega) (fun j hj => by
        by_cases e : j = i
        · rw [e]
          exact c
        · exact he j (by omega))
      rw [show (((i + 1 : Nat)) : Int) = (i : Int) + 1 by omega] at a
      exact a
    · rw [if_neg c]
      by_cases c2 : f i < g i
      · rw [if_pos c2]
        exact Or.inr (Or.inl ⟨rfl, pcd_lt (od_ok hf) (od_ok hg) i (fun j hj => od_eq (he j hj)) (od_lt c2) 15 (by omega) (Nat.le_refl _)⟩)
      · rw [if_neg c2]
        exact Or.inr (Or.inr ⟨rfl, pcd_lt (od_ok hg) (od_ok hf) i (fun j hj => (od_eq (he j hj)).symm) (od_lt (by omega)) 15 (by omega) (Nat.le_refl _)⟩)
set_option maxHeartbeats 8000000 in
theorem lp_against (d : Nat) (h : am_H) (o : Nat) (I : Nat → Int) (F : Nat → Int → Int) (H : md_at h o I F) (p : Int) (hp : 0 ≤ p ∧ p < 60) (hn : ∀ j : Int, 0 ≤ j ∧ j < 15 → -100 ≤ F 28 j ∧ F 28 j ≤ 100) (hg : ∀ j : Int, 0 ≤ j ∧ j < 15 → -100 ≤ F 25 (15 * p + j) ∧ F 25 (15 * p + j) ≤ 100) : ∀ (n : Nat) (i : Int), 0 ≤ i → i + n = 15 → am_Go am_df am_MT d c_Md_against (2, [(2, .int (iI i)), (0, .ref o), (1, .int (iI p))], [], h) (fun r0 h' => r0 = some (.int (iI (agl (F 28) (fun j => F 25 (15 * p + j)) n i))) ∧ h' = h) := by
  have H' := H
  obtain ⟨h0, hO, hA⟩ := H'
  intro n
  induction n with
  | zero =>
    intro i h1 h2
    have c : (15 : Int) ≤ i := by omega
    show am_Go am_df am_MT d c_Md_against (2, [(2, .int (iI i)), (0, .ref o), (1, .int (iI p))], [], h) (fun r0 h' => r0 = some (.int (iI 0)) ∧ h' = h)
    refine am_go_of 10 [2] _ c_Md_against_2 ?_
    simp (maxSteps := 2000000) (disch := omega) only [c_Md_against_0, c_Md_against_1, c_Md_against_2, c_Md_against_3, c_Md_against_4, c_Md_against_5, c_Md_against_6, c_Md_against_7, c_Md_against_8, c_Md_against_9, c_Md_against_10, c_Md_against_11, c_Md_against_12, c_Md_against_13, c_Md_against_14, c_Md_against_15, c_Md_against_16, c_Md_against_17, c_Md_against_18, c_Md_against_19, c_Md_against_20, c_Md_against_21, c_Md_against_22, c_Md_against_23, c_Md_against_24, c_Md_against_25, c_Md_against_26, c_Md_against_27, c_Md_against_28, c_Md_against_29, c_Md_against_30, c_Md_against_31, c_Md_against_32, c_Md_against_33, c_Md_against_34, c_Md_against_35, c_Md_against_36, c_Md_against_37, c_Md_against_38, sx_aload_n, sx_bipush, sx_getfield, sx_goto, sx_iadd, sx_iaload, sx_iconst, sx_if_icmp_eq, sx_if_icmp_ge, sx_iinc, sx_iload_n, sx_imul, sx_ireturn, sx_istore_n, sx_zreturn, am_W_s, am_W_0, am_mm_some, List.mem_cons, or_false, false_or, or_self, or_true, true_or, reduceIte, if_false, if_true, am_o_some, am_o_none, am_o_bad, am_o_good, am_ldi_hit, am_ldi_miss, am_lda_hit, am_lda_miss, am_ldl_hit, am_ldl_miss, am_inc_eq, am_inc_hit, am_inc_miss, am_ob_hit, am_fd_0, am_fd_s, am_ai_hit, am_ab_3, am_al_hit, am_aq_4, am_al0_hit, am_put_1, am_put_2, am_put_put, am_up_hit, am_up_miss, am_s1_eq, am_s2_eq, am_fl_nil, am_fl_hit, am_fl_int, am_fl_ref, am_fl_long, am_fl_longx, am_fl2_nil, am_fl2_hit, am_fl2_hit1, am_fl2_int, am_fl2_ref, am_fl2_long, List.not_mem_nil, not_false_eq_true, ne_eq, Nat.reduceAdd, Nat.reduceEqDiff, Nat.zero_add, Nat.add_left_cancel_iff, List.set_cons_zero, List.set_cons_succ, List.length_cons, List.length_nil, Nat.reduceLT, am_ft_i, am_ft_r, am_ft_z, and_true, true_and, Option.toList_some, Option.toList_none, List.cons_append, List.nil_append, List.drop_succ_cons, List.drop_zero, iI_c, iI_b, iI_s, iI_n, iI_add, iI_sub, iI_mul, iI_neg, iI_nle, iI_ix, iI_eq0, iI_eq1, iI_lt0, iI_0lt, iI_le0, iI_0le, iI_eq, iI_lt, iI_le, iI_upd, iI_updZ, Int.reduceEq, Int.reduceLT, Int.reduceLE, Int.reduceNeg, Int.reduceNe, c, md_fs_len, md_f0, md_f1, md_f2, md_f3, md_f4, md_f5, md_f6, md_f7, md_f8, md_f9, md_f10, md_f11, md_f12, md_f13, md_f14, md_f15, md_f16, md_f17, md_f18, md_f19, md_f20, md_f21, md_f22, md_f23, md_f24, md_f25, md_f26, md_f27, md_f28, md_f29, md_f30, md_f31, md_f32, md_f33, md_f34, md_f35, md_s0, md_s1, md_s15, md_s16, md_s17, md_s23, md_s24, md_s31, md_t1, md_t2, md_t3, md_t4, md_t5, md_t6, md_t7, md_t8, md_t9, md_t10, md_t11, md_t12, md_t13, md_t14, md_t15, md_t16, md_t17, md_t18, md_t19, md_t20, md_t21, md_t22, md_t23, md_t24, md_t25, md_t26, md_t27, md_t28, md_l1, md_l2, md_l3, md_l4, md_l5, md_l6, md_l7, md_l8, md_l9, md_l10, md_l11, md_l12, md_l13, md_l14, md_l15, md_l16, md_l17, md_l18, md_l19, md_l20, md_l21, md_l22, md_l23, md_l24, md_l25, md_l26, md_l27, md_l28]
    all_goals (first | omega | rfl | trivial)
  | succ n ih =>
    intro i h1 h2
    have c : ¬ (15 : Int) ≤ i := by omega
    have a1 := hn i ⟨h1, by omega⟩
    have a2 := hg i ⟨h1, by omega⟩
    have g := ih (i + 1) (by omega) (by omega)
    clear ih hn hg
    unfold agl
    by_cases e : F 28 i = F 25 (15 * p + i)
    · simp only [if_pos e]
      refine am_go_of 40 [2] _ c_Md_against_2 ?_
      simp (maxSteps := 2000000) (disch := omega) only [c_Md_against_0, c_Md_against_1, c_Md_against_2, c_Md_against_3, c_Md_against_4, c_Md_against_5, c_Md_against_6, c_Md_against_7, c_Md_against_8, c_Md_against_9, c_Md_against_10, c_Md_against_11, c_Md_against_12, c_Md_against_13, c_Md_against_14, c_Md_against_15, c_Md_against_16, c_Md_against_17, c_Md_against_18, c_Md_against_19, c_Md_against_20, c_Md_against_21, c_Md_against_22, c_Md_against_23, c_Md_against_24, c_Md_against_25, c_Md_against_26, c_Md_against_27, c_Md_against_28, c_Md_against_29, c_Md_against_30, c_Md_against_31, c_Md_against_32, c_Md_against_33, c_Md_against_34, c_Md_against_35, c_Md_against_36, c_Md_against_37, c_Md_against_38, sx_aload_n, sx_bipush, sx_getfield, sx_goto, sx_iadd, sx_iaload, sx_iconst, sx_if_icmp_eq, sx_if_icmp_ge, sx_iinc, sx_iload_n, sx_imul, sx_ireturn, sx_istore_n, sx_zreturn, am_W_s, am_W_0, am_mm_some, List.mem_cons, or_false, false_or, or_self, or_true, true_or, reduceIte, if_false, if_true, am_o_some, am_o_none, am_o_bad, am_o_good, am_ldi_hit, am_ldi_miss, am_lda_hit, am_lda_miss, am_ldl_hit, am_ldl_miss, am_inc_eq, am_inc_hit, am_inc_miss, am_ob_hit, am_fd_0, am_fd_s, am_ai_hit, am_ab_3, am_al_hit, am_aq_4, am_al0_hit, am_put_1, am_put_2, am_put_put, am_up_hit, am_up_miss, am_s1_eq, am_s2_eq, am_fl_nil, am_fl_hit, am_fl_int, am_fl_ref, am_fl_long, am_fl_longx, am_fl2_nil, am_fl2_hit, am_fl2_hit1, am_fl2_int, am_fl2_ref, am_fl2_long, List.not_mem_nil, not_false_eq_true, ne_eq, Nat.reduceAdd, Nat.reduceEqDiff, Nat.zero_add, Nat.add_left_cancel_iff, List.set_cons_zero, List.set_cons_succ, List.length_cons, List.length_nil, Nat.reduceLT, am_ft_i, am_ft_r, am_ft_z, and_true, true_and, Option.toList_some, Option.toList_none, List.cons_append, List.nil_append, List.drop_succ_cons, List.drop_zero, iI_c, iI_b, iI_s, iI_n, iI_add, iI_sub, iI_mul, iI_neg, iI_nle, iI_ix, iI_eq0, iI_eq1, iI_lt0, iI_0lt, iI_le0, iI_0le, iI_eq, iI_lt, iI_le, iI_upd, iI_updZ, Int.reduceEq, Int.reduceLT, Int.reduceLE, Int.reduceNeg, Int.reduceNe, hO, hA, c, e, md_fs_len, md_f0, md_f1, md_f2, md_f3, md_f4, md_f5, md_f6, md_f7, md_f8, md_f9, md_f10, md_f11, md_f12, md_f13, md_f14, md_f15, md_f16, md_f17, md_f18, md_f19, md_f20, md_f21, md_f22, md_f23, md_f24, md_f25, md_f26, md_f27, md_f28, md_f29, md_f30, md_f31, md_f32, md_f33, md_f34, md_f35, md_s0, md_s1, md_s15, md_s16, md_s17, md_s23, md_s24, md_s31, md_t1, md_t2, md_t3, md_t4, md_t5, md_t6, md_t7, md_t8, md_t9, md_t10, md_t11, md_t12, md_t13, md_t14, md_t15, md_t16, md_t17, md_t18, md_t19, md_t20, md_t21, md_t22, md_t23, md_t24, md_t25, md_t26, md_t27, md_t28, md_l1, md_l2, md_l3, md_l4, md_l5, md_l6, md_l7, md_l8, md_l9, md_l10, md_l11, md_l12, md_l13, md_l14, md_l15, md_l16, md_l17, md_l18, md_l19, md_l20, md_l21, md_l22, md_l23, md_l24, md_l25, md_l26, md_l27, md_l28]
      repeat (refine And.intro (by omega) ?_)
      exact g.lo (al_le_of (by simp) (by simp))
    · simp only [if_neg e]
      clear g
      by_cases e2 : F 28 i < F 25 (15 * p + i)
      · simp only [if_pos e2]
        have e3 : ¬ F 25 (15 * p + i) ≤ F 28 i := by omega
        refine am_go_of 40 [2] _ c_Md_against_2 ?_
        simp (maxSteps := 2000000) (disch := omega) only [c_Md_against_0, c_Md_against_1, c_Md_against_2, c_Md_against_3, c_Md_against_4, c_Md_against_5, c_Md_against_6, c_Md_against_7, c_Md_against_8, c_Md_against_9, c_Md_against_10, c_Md_against_11, c_Md_against_12, c_Md_against_13, c_Md_against_14, c_Md_against_15, c_Md_against_16, c_Md_against_17, c_Md_against_18, c_Md_against_19, c_Md_against_20, c_Md_against_21, c_Md_against_22, c_Md_against_23, c_Md_against_24, c_Md_against_25, c_Md_against_26, c_Md_against_27, c_Md_against_28, c_Md_against_29, c_Md_against_30, c_Md_against_31, c_Md_against_32, c_Md_against_33, c_Md_against_34, c_Md_against_35, c_Md_against_36, c_Md_against_37, c_Md_against_38, sx_aload_n, sx_bipush, sx_getfield, sx_goto, sx_iadd, sx_iaload, sx_iconst, sx_if_icmp_eq, sx_if_icmp_ge, sx_iinc, sx_iload_n, sx_imul, sx_ireturn, sx_istore_n, sx_zreturn, am_W_s, am_W_0, am_mm_some, List.mem_cons, or_false, false_or, or_self, or_true, true_or, reduceIte, if_false, if_true, am_o_some, am_o_none, am_o_bad, am_o_good, am_ldi_hit, am_ldi_miss, am_lda_hit, am_lda_miss, am_ldl_hit, am_ldl_miss, am_inc_eq, am_inc_hit, am_inc_miss, am_ob_hit, am_fd_0, am_fd_s, am_ai_hit, am_ab_3, am_al_hit, am_aq_4, am_al0_hit, am_put_1, am_put_2, am_put_put, am_up_hit, am_up_miss, am_s1_eq, am_s2_eq, am_fl_nil, am_fl_hit, am_fl_int, am_fl_ref, am_fl_long, am_fl_longx, am_fl2_nil, am_fl2_hit, am_fl2_hit1, am_fl2_int, am_fl2_ref, am_fl2_long, List.not_mem_nil, not_false_eq_true, ne_eq, Nat.reduceAdd, Nat.reduceEqDiff, Nat.zero_add, Nat.add_left_cancel_iff, List.set_cons_zero, List.set_cons_succ, List.length_cons, List.length_nil, Nat.reduceLT, am_ft_i, am_ft_r, am_ft_z, and_true, true_and, Option.toList_some, Option.toList_none, List.cons_append, List.nil_append, List.drop_succ_cons, List.drop_zero, iI_c, iI_b, iI_s, iI_n, iI_add, iI_sub, iI_mul, iI_neg, iI_nle, iI_ix, iI_eq0, iI_eq1, iI_lt0, iI_0lt, iI_le0, iI_0le, iI_eq, iI_lt, iI_le, iI_upd, iI_updZ, Int.reduceEq, Int.reduceLT, Int.reduceLE, Int.reduceNeg, Int.reduceNe, hO, hA, c, e, e3, md_fs_len, md_f0, md_f1, md_f2, md_f3, md_f4, md_f5, md_f6, md_f7, md_f8, md_f9, md_f10, md_f11, md_f12, md_f13, md_f14, md_f15, md_f16, md_f17, md_f18, md_f19, md_f20, md_f21, md_f22, md_f23, md_f24, md_f25, md_f26, md_f27, md_f28, md_f29, md_f30, md_f31, md_f32, md_f33, md_f34, md_f35, md_s0, md_s1, md_s15, md_s16, md_s17, md_s23, md_s24, md_s31, md_t1, md_t2, md_t3, md_t4, md_t5, md_t6, md_t7, md_t8, md_t9, md_t10, md_t11, md_t12, md_t13, md_t14, md_t15, md_t16, md_t17, md_t18, md_t19, md_t20, md_t21, md_t22, md_t23, md_t24, md_t25, md_t26, md_t27, md_t28, md_l1, md_l2, md_l3, md_l4, md_l5, md_l6, md_l7, md_l8, md_l9, md_l10, md_l11, md_l12, md_l13, md_l14, md_l15, md_l16, md_l17, md_l18, md_l19, md_l20, md_l21, md_l22, md_l23, md_l24, md_l25, md_l26, md_l27, md_l28]
        repeat (refine And.intro (by omega) ?_)
        all_goals (first | omega | rfl | trivial)
      · simp only [if_neg e2]
        have e3 : F 25 (15 * p + i) ≤ F 28 i := by omega
        refine am_go_of 40 [2] _ c_Md_against_2 ?_
        simp (maxSteps := 2000000) (disch := omega) only [c_Md_against_0, c_Md_against_1, c_Md_against_2, c_Md_against_3, c_Md_against_4, c_Md_against_5, c_Md_against_6, c_Md_against_7, c_Md_against_8, c_Md_against_9, c_Md_against_10, c_Md_against_11, c_Md_against_12, c_Md_against_13, c_Md_against_14, c_Md_against_15, c_Md_against_16, c_Md_against_17, c_Md_against_18, c_Md_against_19, c_Md_against_20, c_Md_against_21, c_Md_against_22, c_Md_against_23, c_Md_against_24, c_Md_against_25, c_Md_against_26, c_Md_against_27, c_Md_against_28, c_Md_against_29, c_Md_against_30, c_Md_against_31, c_Md_against_32, c_Md_against_33, c_Md_against_34, c_Md_against_35, c_Md_against_36, c_Md_against_37, c_Md_against_38, sx_aload_n, sx_bipush, sx_getfield, sx_goto, sx_iadd, sx_iaload, sx_iconst, sx_if_icmp_eq, sx_if_icmp_ge, sx_iinc, sx_iload_n, sx_imul, sx_ireturn, sx_istore_n, sx_zreturn, am_W_s, am_W_0, am_mm_some, List.mem_cons, or_false, false_or, or_self, or_true, true_or, reduceIte, if_false, if_true, am_o_some, am_o_none, am_o_bad, am_o_good, am_ldi_hit, am_ldi_miss, am_lda_hit, am_lda_miss, am_ldl_hit, am_ldl_miss, am_inc_eq, am_inc_hit, am_inc_miss, am_ob_hit, am_fd_0, am_fd_s, am_ai_hit, am_ab_3, am_al_hit, am_aq_4, am_al0_hit, am_put_1, am_put_2, am_put_put, am_up_hit, am_up_miss, am_s1_eq, am_s2_eq, am_fl_nil, am_fl_hit, am_fl_int, am_fl_ref, am_fl_long, am_fl_longx, am_fl2_nil, am_fl2_hit, am_fl2_hit1, am_fl2_int, am_fl2_ref, am_fl2_long, List.not_mem_nil, not_false_eq_true, ne_eq, Nat.reduceAdd, Nat.reduceEqDiff, Nat.zero_add, Nat.add_left_cancel_iff, List.set_cons_zero, List.set_cons_succ, List.length_cons, List.length_nil, Nat.reduceLT, am_ft_i, am_ft_r, am_ft_z, and_true, true_and, Option.toList_some, Option.toList_none, List.cons_append, List.nil_append, List.drop_succ_cons, List.drop_zero, iI_c, iI_b, iI_s, iI_n, iI_add, iI_sub, iI_mul, iI_neg, iI_nle, iI_ix, iI_eq0, iI_eq1, iI_lt0, iI_0lt, iI_le0, iI_0le, iI_eq, iI_lt, iI_le, iI_upd, iI_updZ, Int.reduceEq, Int.reduceLT, Int.reduceLE, Int.reduceNeg, Int.reduceNe, hO, hA, c, e, e3, md_fs_len, md_f0, md_f1, md_f2, md_f3, md_f4, md_f5, md_f6, md_f7, md_f8, md_f9, md_f10, md_f11, md_f12, md_f13, md_f14, md_f15, md_f16, md_f17, md_f18, md_f19, md_f20, md_f21, md_f22, md_f23, md_f24, md_f25, md_f26, md_f27, md_f28, md_f29, md_f30, md_f31, md_f32, md_f33, md_f34, md_f35, md_s0, md_s1, md_s15, md_s16, md_s17, md_s23, md_s24, md_s31, md_t1, md_t2, md_t3, md_t4, md_t5, md_t6, md_t7, md_t8, md_t9, md_t10, md_t11, md_t12, md_t13, md_t14, md_t15, md_t16, md_t17, md_t18, md_t19, md_t20, md_t21, md_t22, md_t23, md_t24, md_t25, md_t26, md_t27, md_t28, md_l1, md_l2, md_l3, md_l4, md_l5, md_l6, md_l7, md_l8, md_l9, md_l10, md_l11, md_l12, md_l13, md_l14, md_l15, md_l16, md_l17, md_l18, md_l19, md_l20, md_l21, md_l22, md_l23, md_l24, md_l25, md_l26, md_l27, md_l28]
        repeat (refine And.intro (by omega) ?_)
        all_goals (first | omega | rfl | trivial)
set_option maxHeartbeats 8000000 in
theorem ct_against (d : Nat) (hd : 1 ≤ d) (h : am_H) (o : Nat) (I : Nat → Int) (F : Nat → Int → Int) (H : md_at h o I F) (p : Int) (hp : 0 ≤ p ∧ p < 60) (hn : oc_ok (F 28)) (hg : oc_ok (fun j => F 25 (15 * p + j))) : am_Ct am_df am_MT d 158 [.ref o, .int (iI p)] h (fun r0 h' => r0 = some (.int (iI (agl (F 28) (fun j => F 25 (15 * p + j)) 15 0))) ∧ h' = h) := by
  obtain ⟨d, rfl⟩ : ∃ e, d = e + 1 := ⟨d - 1, by omega⟩
  refine am_ct_of2 mt_Md_against (Nat.le_of_ble_eq_true rfl) ?_
  simp only [ar_nil, ar_int, ar_ref, ar_long, Nat.reduceAdd]
  refine am_go_of 10 [2] _ c_Md_against_0 ?_
  simp (maxSteps := 2000000) (disch := omega) only [c_Md_against_0, c_Md_against_1, c_Md_against_2, c_Md_against_3, c_Md_against_4, c_Md_against_5, c_Md_against_6, c_Md_against_7, c_Md_against_8, c_Md_against_9, c_Md_against_10, c_Md_against_11, c_Md_against_12, c_Md_against_13, c_Md_against_14, c_Md_against_15, c_Md_against_16, c_Md_against_17, c_Md_against_18, c_Md_against_19, c_Md_against_20, c_Md_against_21, c_Md_against_22, c_Md_against_23, c_Md_against_24, c_Md_against_25, c_Md_against_26, c_Md_against_27, c_Md_against_28, c_Md_against_29, c_Md_against_30, c_Md_against_31, c_Md_against_32, c_Md_against_33, c_Md_against_34, c_Md_against_35, c_Md_against_36, c_Md_against_37, c_Md_against_38, sx_aload_n, sx_bipush, sx_getfield, sx_goto, sx_iadd, sx_iaload, sx_iconst, sx_if_icmp_eq, sx_if_icmp_ge, sx_iinc, sx_iload_n, sx_imul, sx_ireturn, sx_istore_n, sx_zreturn, am_W_s, am_W_0, am_mm_some, List.mem_cons, or_false, false_or, or_self, or_true, true_or, reduceIte, if_false, if_true, am_o_some, am_o_none, am_o_bad, am_o_good, am_ldi_hit, am_ldi_miss, am_lda_hit, am_lda_miss, am_ldl_hit, am_ldl_miss, am_inc_eq, am_inc_hit, am_inc_miss, am_ob_hit, am_fd_0, am_fd_s, am_ai_hit, am_ab_3, am_al_hit, am_aq_4, am_al0_hit, am_put_1, am_put_2, am_put_put, am_up_hit, am_up_miss, am_s1_eq, am_s2_eq, am_fl_nil, am_fl_hit, am_fl_int, am_fl_ref, am_fl_long, am_fl_longx, am_fl2_nil, am_fl2_hit, am_fl2_hit1, am_fl2_int, am_fl2_ref, am_fl2_long, List.not_mem_nil, not_false_eq_true, ne_eq, Nat.reduceAdd, Nat.reduceEqDiff, Nat.zero_add, Nat.add_left_cancel_iff, List.set_cons_zero, List.set_cons_succ, List.length_cons, List.length_nil, Nat.reduceLT, am_ft_i, am_ft_r, am_ft_z, and_true, true_and, Option.toList_some, Option.toList_none, List.cons_append, List.nil_append, List.drop_succ_cons, List.drop_zero, iI_c, iI_b, iI_s, iI_n, iI_add, iI_sub, iI_mul, iI_neg, iI_nle, iI_ix, iI_eq0, iI_eq1, iI_lt0, iI_0lt, iI_le0, iI_0le, iI_eq, iI_lt, iI_le, iI_upd, iI_updZ, Int.reduceEq, Int.reduceLT, Int.reduceLE, Int.reduceNeg, Int.reduceNe, md_fs_len, md_f0, md_f1, md_f2, md_f3, md_f4, md_f5, md_f6, md_f7, md_f8, md_f9, md_f10, md_f11, md_f12, md_f13, md_f14, md_f15, md_f16, md_f17, md_f18, md_f19, md_f20, md_f21, md_f22, md_f23, md_f24, md_f25, md_f26, md_f27, md_f28, md_f29, md_f30, md_f31, md_f32, md_f33, md_f34, md_f35, md_s0, md_s1, md_s15, md_s16, md_s17, md_s23, md_s24, md_s31, md_t1, md_t2, md_t3, md_t4, md_t5, md_t6, md_t7, md_t8, md_t9, md_t10, md_t11, md_t12, md_t13, md_t14, md_t15, md_t16, md_t17, md_t18, md_t19, md_t20, md_t21, md_t22, md_t23, md_t24, md_t25, md_t26, md_t27, md_t28, md_l1, md_l2, md_l3, md_l4, md_l5, md_l6, md_l7, md_l8, md_l9, md_l10, md_l11, md_l12, md_l13, md_l14, md_l15, md_l16, md_l17, md_l18, md_l19, md_l20, md_l21, md_l22, md_l23, md_l24, md_l25, md_l26, md_l27, md_l28]
  refine (lp_against d h o I F H p hp (fun j hj => ?_) (fun j hj => ?_) 15 0 (Int.le_refl _) (by decide)).lo (al_le_of (by simp) (by simp))
  · by_cases c1 : j < 3
    · have := hn.1 j (by omega)
      omega
    · by_cases c2 : j < 9
      · have := hn.2.1 j (by omega)
        omega
      · have := hn.2.2 j (by omega)
        omega
  · by_cases c1 : j < 3
    · have := hg.1 j (by omega)
      dsimp only at this
      omega
    · by_cases c2 : j < 9
      · have := hg.2.1 j (by omega)
        dsimp only at this
        omega
      · have := hg.2.2 j (by omega)
        dsimp only at this
        omega
/-- the OUTCOME where a run stands -/
def oc (I : Nat → Int) (F : Nat → Int → Int) (r : rn) (j : Int) : Int := if j < 3 then (if j < I 1 then sp_end F (vec r) j else 0) else if j < 9 then r_st r (j - 3) else r_fl r (j - 9)
theorem se_rg {I : Nat → Int} {F : Nat → Int → Int} {r : rn} (hv : rn_iv I F r) {j : Int} (hj : 0 ≤ j ∧ j < 3) : 0 ≤ sp_end F (vec r) j ∧ sp_end F (vec r) j ≤ 7 := by
  have e1 := hv.1.2.1 j hj
  unfold sp_end
  rw [v_en hj.1 hj.2]
  split
  · omega
  · split <;> decide
theorem oc_rg {I : Nat → Int} {F : Nat → Int → Int} {r : rn} (hv : rn_iv I F r) : oc_ok (oc I F r) := by
  refine ⟨fun j hj => ?_, fun j hj => ?_, fun j hj => ?_⟩
  · have := se_rg hv hj
    unfold oc
    rw [if_pos hj.2]
    split <;> omega
  · have := hv.1.1 (j - 3) (by omega)
    unfold oc
    rw [if_neg (by omega), if_pos (by omega)]
    omega
  · have := hv.1.1 (j - 9) (by omega)
    unfold oc
    rw [if_neg (by omega), if_neg (by omega)]
    omega
set_option maxHeartbeats 8000000 in
theorem lp_po3 (d : Nat) (h : am_H) (p q w : Nat) (n m : Int) (X : Nat → Int → Int) (S : Int → Int → Int) (H : ru_at h p q w n m X S) (D : Int → Int) (hD : ∀ j : Nat, j < 15 → 0 ≤ D j ∧ D j < bs j) (h5 : ∀ t : Nat, t < 6 → D ((9 + t : Nat) : Int) = X 5 t + 9) : ∀ (k t : Nat), t + k = 6 → am_Go am_df am_MT d c_Run_packOutcome (44, [(3, .int (iI (t : Int))), (1, .long (bz (pcd D (9 + t)))), (0, .ref p)], [], h) (fun r0 h' => r0 = some (.long (bz (pcd D 15))) ∧ h' = h) := by
  have H' := H
  obtain ⟨h0, hO, hG, hA, hB, hS⟩ := H'
  intro k
  induction k with
  | zero =>
    intro t ht
    have e : t = 6 := by omega
    subst e
    have c : (6 : Int) ≤ ((6 : Nat) : Int) := by decide
    generalize pcd D 15 = z
    refine am_go_of 10 [4, 13, 17, 27, 44] _ c_Run_packOutcome_44 ?_
    simp (maxSteps := 2000000) (disch := omega) only [c_Run_packOutcome_0, c_Run_packOutcome_1, c_Run_packOutcome_2, c_Run_packOutcome_3, c_Run_packOutcome_4, c_Run_packOutcome_5, c_Run_packOutcome_6, c_Run_packOutcome_7, c_Run_packOutcome_8, c_Run_packOutcome_9, c_Run_packOutcome_10, c_Run_packOutcome_11, c_Run_packOutcome_12, c_Run_packOutcome_13, c_Run_packOutcome_14, c_Run_packOutcome_15, c_Run_packOutcome_16, c_Run_packOutcome_17, c_Run_packOutcome_18, c_Run_packOutcome_19, c_Run_packOutcome_20, c_Run_packOutcome_21, c_Run_packOutcome_22, c_Run_packOutcome_23, c_Run_packOutcome_24, c_Run_packOutcome_25, c_Run_packOutcome_26, c_Run_packOutcome_27, c_Run_packOutcome_28, c_Run_packOutcome_29, c_Run_packOutcome_30, c_Run_packOutcome_31, c_Run_packOutcome_32, c_Run_packOutcome_33, c_Run_packOutcome_34, c_Run_packOutcome_35, c_Run_packOutcome_36, c_Run_packOutcome_37, c_Run_packOutcome_38, c_Run_packOutcome_39, c_Run_packOutcome_40, c_Run_packOutcome_41, c_Run_packOutcome_42, c_Run_packOutcome_43, c_Run_packOutcome_44, c_Run_packOutcome_45, c_Run_packOutcome_46, c_Run_packOutcome_47, c_Run_packOutcome_48, c_Run_packOutcome_49, c_Run_packOutcome_50, c_Run_packOutcome_51, c_Run_packOutcome_52, c_Run_packOutcome_53, c_Run_packOutcome_54, c_Run_packOutcome_55, c_Run_packOutcome_56, c_Run_packOutcome_57, c_Run_packOutcome_58, c_Run_packOutcome_59, c_Run_packOutcome_60, c_Run_packOutcome_61, c_Run_packOutcome_62, sx_aload_n, sx_bipush, sx_getfield, sx_goto, sx_i2l, sx_iadd, sx_iaload, sx_iconst, sx_ifCond_eq, sx_if_icmp_ge, sx_iinc, sx_iload_n, sx_istore_n, sx_lconst, sx_lload_n, sx_lor, sx_lreturn, sx_lshl, sx_lstore_n, am_W_s, am_W_0, am_mm_some, List.mem_cons, or_false, false_or, or_self, or_true, true_or, reduceIte, if_false, if_true, am_o_some, am_o_none, am_o_bad, am_o_good, am_ldi_hit, am_ldi_miss, am_lda_hit, am_lda_miss, am_ldl_hit, am_ldl_miss, am_inc_eq, am_inc_hit, am_inc_miss, am_ob_hit, am_fd_0, am_fd_s, am_ai_hit, am_ab_3, am_al_hit, am_aq_4, am_al0_hit, am_put_1, am_put_2, am_put_put, am_up_hit, am_up_miss, am_s1_eq, am_s2_eq, am_fl_nil, am_fl_hit, am_fl_int, am_fl_ref, am_fl_long, am_fl_longx, am_fl2_nil, am_fl2_hit, am_fl2_hit1, am_fl2_int, am_fl2_ref, am_fl2_long, List.not_mem_nil, not_false_eq_true, ne_eq, Nat.reduceAdd, Nat.reduceEqDiff, Nat.zero_add, Nat.add_left_cancel_iff, List.set_cons_zero, List.set_cons_succ, List.length_cons, List.length_nil, Nat.reduceLT, am_ft_i, am_ft_r, am_ft_z, and_true, true_and, Option.toList_some, Option.toList_none, List.cons_append, List.nil_append, List.drop_succ_cons, List.drop_zero, iI_c, iI_b, iI_s, iI_n, iI_add, iI_sub, iI_mul, iI_neg, iI_nle, iI_ix, iI_eq0, iI_eq1, iI_lt0, iI_0lt, iI_le0, iI_0le, iI_eq, iI_lt, iI_le, iI_upd, iI_updZ, Int.reduceEq, Int.reduceLT, Int.reduceLE, Int.reduceNeg, Int.reduceNe, c, ru_fs_len, ru_f0, ru_f1, ru_f2, ru_f3, ru_f4, ru_f5, ru_f6, ru_f7, ru_f8, ru_f9, ru_f10, ru_f11, ru_f12, ru_f13, ru_s0, ru_t2, ru_l2, ru_t3, ru_l3, ru_t4, ru_l4, ru_t5, ru_l5, ru_t10, ru_l10, ru_t11, ru_l11, ru_t12, ru_l12, ru_t13, ru_l13, ru_t14, ru_l14, ru_t15, ru_l15, lo_fs_len, lo_f0, lo_f1, lo_s0, ty_fs_len, ty_f0, ty_f1, ty_f2, ty_f3, ty_f4, ty_f5, ty_f6, ty_f7, ty_f8, ty_f9, ty_s0, ty_t1, ty_l1, ty_t2, ty_l2, ty_t3, ty_l3, ty_t11, ty_l11, ty_t12, ty_l12, ty_t13, ty_l13, ty_t14, ty_l14, bo_fs_len, bo_f0, bo_f1, bo_f2, bo_f3, bo_f4, bo_f5, bo_f6, bo_f7, bo_f8, bo_s0, rw_hit]
    all_goals (first | omega | rfl | trivial)
  | succ k ih =>
    intro t ht
    have c : ¬ (6 : Int) ≤ (t : Int) := by omega
    have g := ih (t + 1) (by omega)
    have a := pcd_51 hD (9 + t) (by omega)
    have b := hD (9 + t) (by omega)
    rw [h5 t (by omega), show bs (9 + t) = 32 by unfold bs; rw [if_neg (by omega), if_neg (by omega)]] at b
    rw [show 9 + (t + 1) = 9 + t + 1 by omega, show pcd D (9 + t + 1) = pcd D (9 + t) * 32 + (X 5 t + 9) by
      show pcd D (9 + t) * bs (9 + t) + D ((9 + t : Nat) : Int) = _
      rw [h5 t (by omega), show bs (9 + t) = 32 by unfold bs; rw [if_neg (by omega), if_neg (by omega)]], show (((t + 1 : Nat)) : Int) = (t : Int) + 1 by omega] at g
    clear ih hD h5
    generalize pcd D (9 + t) = z at *
    generalize pcd D 15 = z5 at *
    refine am_go_of 30 [4, 13, 17, 27, 44] _ c_Run_packOutcome_44 ?_
    simp (maxSteps := 2000000) (disch := omega) only [c_Run_packOutcome_0, c_Run_packOutcome_1, c_Run_packOutcome_2, c_Run_packOutcome_3, c_Run_packOutcome_4, c_Run_packOutcome_5, c_Run_packOutcome_6, c_Run_packOutcome_7, c_Run_packOutcome_8, c_Run_packOutcome_9, c_Run_packOutcome_10, c_Run_packOutcome_11, c_Run_packOutcome_12, c_Run_packOutcome_13, c_Run_packOutcome_14, c_Run_packOutcome_15, c_Run_packOutcome_16, c_Run_packOutcome_17, c_Run_packOutcome_18, c_Run_packOutcome_19, c_Run_packOutcome_20, c_Run_packOutcome_21, c_Run_packOutcome_22, c_Run_packOutcome_23, c_Run_packOutcome_24, c_Run_packOutcome_25, c_Run_packOutcome_26, c_Run_packOutcome_27, c_Run_packOutcome_28, c_Run_packOutcome_29, c_Run_packOutcome_30, c_Run_packOutcome_31, c_Run_packOutcome_32, c_Run_packOutcome_33, c_Run_packOutcome_34, c_Run_packOutcome_35, c_Run_packOutcome_36, c_Run_packOutcome_37, c_Run_packOutcome_38, c_Run_packOutcome_39, c_Run_packOutcome_40, c_Run_packOutcome_41, c_Run_packOutcome_42, c_Run_packOutcome_43, c_Run_packOutcome_44, c_Run_packOutcome_45, c_Run_packOutcome_46, c_Run_packOutcome_47, c_Run_packOutcome_48, c_Run_packOutcome_49, c_Run_packOutcome_50, c_Run_packOutcome_51, c_Run_packOutcome_52, c_Run_packOutcome_53, c_Run_packOutcome_54, c_Run_packOutcome_55, c_Run_packOutcome_56, c_Run_packOutcome_57, c_Run_packOutcome_58, c_Run_packOutcome_59, c_Run_packOutcome_60, c_Run_packOutcome_61, c_Run_packOutcome_62, sx_aload_n, sx_bipush, sx_getfield, sx_goto, sx_i2l, sx_iadd, sx_iaload, sx_iconst, sx_ifCond_eq, sx_if_icmp_ge, sx_iinc, sx_iload_n, sx_istore_n, sx_lconst, sx_lload_n, sx_lor, sx_lreturn, sx_lshl, sx_lstore_n, am_W_s, am_W_0, am_mm_some, List.mem_cons, or_false, false_or, or_self, or_true, true_or, reduceIte, if_false, if_true, am_o_some, am_o_none, am_o_bad, am_o_good, am_ldi_hit, am_ldi_miss, am_lda_hit, am_lda_miss, am_ldl_hit, am_ldl_miss, am_inc_eq, am_inc_hit, am_inc_miss, am_ob_hit, am_fd_0, am_fd_s, am_ai_hit, am_ab_3, am_al_hit, am_aq_4, am_al0_hit, am_put_1, am_put_2, am_put_put, am_up_hit, am_up_miss, am_s1_eq, am_s2_eq, am_fl_nil, am_fl_hit, am_fl_int, am_fl_ref, am_fl_long, am_fl_longx, am_fl2_nil, am_fl2_hit, am_fl2_hit1, am_fl2_int, am_fl2_ref, am_fl2_long, List.not_mem_nil, not_false_eq_true, ne_eq, Nat.reduceAdd, Nat.reduceEqDiff, Nat.zero_add, Nat.add_left_cancel_iff, List.set_cons_zero, List.set_cons_succ, List.length_cons, List.length_nil, Nat.reduceLT, am_ft_i, am_ft_r, am_ft_z, and_true, true_and, Option.toList_some, Option.toList_none, List.cons_append, List.nil_append, List.drop_succ_cons, List.drop_zero, iI_c, iI_b, iI_s, iI_n, iI_add, iI_sub, iI_mul, iI_neg, iI_nle, iI_ix, iI_eq0, iI_eq1, iI_lt0, iI_0lt, iI_le0, iI_0le, iI_eq, iI_lt, iI_le, iI_upd, iI_updZ, Int.reduceEq, Int.reduceLT, Int.reduceLE, Int.reduceNeg, Int.reduceNe, hO, hA, c, bz_o5, ru_fs_len, ru_f0, ru_f1, ru_f2, ru_f3, ru_f4, ru_f5, ru_f6, ru_f7, ru_f8, ru_f9, ru_f10, ru_f11, ru_f12, ru_f13, ru_s0, ru_t2, ru_l2, ru_t3, ru_l3, ru_t4, ru_l4, ru_t5, ru_l5, ru_t10, ru_l10, ru_t11, ru_l11, ru_t12, ru_l12, ru_t13, ru_l13, ru_t14, ru_l14, ru_t15, ru_l15, lo_fs_len, lo_f0, lo_f1, lo_s0, ty_fs_len, ty_f0, ty_f1, ty_f2, ty_f3, ty_f4, ty_f5, ty_f6, ty_f7, ty_f8, ty_f9, ty_s0, ty_t1, ty_l1, ty_t2, ty_l2, ty_t3, ty_l3, ty_t11, ty_l11, ty_t12, ty_l12, ty_t13, ty_l13, ty_t14, ty_l14, bo_fs_len, bo_f0, bo_f1, bo_f2, bo_f3, bo_f4, bo_f5, bo_f6, bo_f7, bo_f8, bo_s0, rw_hit]
    repeat (refine And.intro (by omega) ?_)
    exact g.lo (al_le_of (by simp) (by simp))
set_option maxHeartbeats 8000000 in
theorem lp_po2 (d : Nat) (h : am_H) (p q w : Nat) (n m : Int) (X : Nat → Int → Int) (S : Int → Int → Int) (H : ru_at h p q w n m X S) (D : Int → Int) (hD : ∀ j : Nat, j < 15 → 0 ≤ D j ∧ D j < bs j) (h3 : ∀ t : Nat, t < 6 → D ((3 + t : Nat) : Int) = X 3 t) (Q : Option Value → am_H → Prop) (hc : am_Go am_df am_MT d c_Run_packOutcome (42, [(1, .long (bz (pcd D 9))), (0, .ref p)], [], h) Q) : ∀ (k t : Nat), t + k = 6 → am_Go am_df am_MT d c_Run_packOutcome (27, [(3, .int (iI (t : Int))), (1, .long (bz (pcd D (3 + t)))), (0, .ref p)], [], h) Q := by
  have H' := H
  obtain ⟨h0, hO, hG, hA, hB, hS⟩ := H'
  intro k
  induction k with
  | zero =>
    intro t ht
    have e : t = 6 := by omega
    subst e
    have c : (6 : Int) ≤ ((6 : Nat) : Int) := by decide
    rw [show 3 + 6 = 9 by decide]
    generalize pcd D 9 = z at *
    refine am_go_of 10 [4, 13, 17, 27, 42, 44] _ c_Run_packOutcome_27 ?_
    simp (maxSteps := 2000000) (disch := omega) only [c_Run_packOutcome_0, c_Run_packOutcome_1, c_Run_packOutcome_2, c_Run_packOutcome_3, c_Run_packOutcome_4, c_Run_packOutcome_5, c_Run_packOutcome_6, c_Run_packOutcome_7, c_Run_packOutcome_8, c_Run_packOutcome_9, c_Run_packOutcome_10, c_Run_packOutcome_11, c_Run_packOutcome_12, c_Run_packOutcome_13, c_Run_packOutcome_14, c_Run_packOutcome_15, c_Run_packOutcome_16, c_Run_packOutcome_17, c_Run_packOutcome_18, c_Run_packOutcome_19, c_Run_packOutcome_20, c_Run_packOutcome_21, c_Run_packOutcome_22, c_Run_packOutcome_23, c_Run_packOutcome_24, c_Run_packOutcome_25, c_Run_packOutcome_26, c_Run_packOutcome_27, c_Run_packOutcome_28, c_Run_packOutcome_29, c_Run_packOutcome_30, c_Run_packOutcome_31, c_Run_packOutcome_32, c_Run_packOutcome_33, c_Run_packOutcome_34, c_Run_packOutcome_35, c_Run_packOutcome_36, c_Run_packOutcome_37, c_Run_packOutcome_38, c_Run_packOutcome_39, c_Run_packOutcome_40, c_Run_packOutcome_41, c_Run_packOutcome_42, c_Run_packOutcome_43, c_Run_packOutcome_44, c_Run_packOutcome_45, c_Run_packOutcome_46, c_Run_packOutcome_47, c_Run_packOutcome_48, c_Run_packOutcome_49, c_Run_packOutcome_50, c_Run_packOutcome_51, c_Run_packOutcome_52, c_Run_packOutcome_53, c_Run_packOutcome_54, c_Run_packOutcome_55, c_Run_packOutcome_56, c_Run_packOutcome_57, c_Run_packOutcome_58, c_Run_packOutcome_59, c_Run_packOutcome_60, c_Run_packOutcome_61, c_Run_packOutcome_62, sx_aload_n, sx_bipush, sx_getfield, sx_goto, sx_i2l, sx_iadd, sx_iaload, sx_iconst, sx_ifCond_eq, sx_if_icmp_ge, sx_iinc, sx_iload_n, sx_istore_n, sx_lconst, sx_lload_n, sx_lor, sx_lreturn, sx_lshl, sx_lstore_n, am_W_s, am_W_0, am_mm_some, List.mem_cons, or_false, false_or, or_self, or_true, true_or, reduceIte, if_false, if_true, am_o_some, am_o_none, am_o_bad, am_o_good, am_ldi_hit, am_ldi_miss, am_lda_hit, am_lda_miss, am_ldl_hit, am_ldl_miss, am_inc_eq, am_inc_hit, am_inc_miss, am_ob_hit, am_fd_0, am_fd_s, am_ai_hit, am_ab_3, am_al_hit, am_aq_4, am_al0_hit, am_put_1, am_put_2, am_put_put, am_up_hit, am_up_miss, am_s1_eq, am_s2_eq, am_fl_nil, am_fl_hit, am_fl_int, am_fl_ref, am_fl_long, am_fl_longx, am_fl2_nil, am_fl2_hit, am_fl2_hit1, am_fl2_int, am_fl2_ref, am_fl2_long, List.not_mem_nil, not_false_eq_true, ne_eq, Nat.reduceAdd, Nat.reduceEqDiff, Nat.zero_add, Nat.add_left_cancel_iff, List.set_cons_zero, List.set_cons_succ, List.length_cons, List.length_nil, Nat.reduceLT, am_ft_i, am_ft_r, am_ft_z, and_true, true_and, Option.toList_some, Option.toList_none, List.cons_append, List.nil_append, List.drop_succ_cons, List.drop_zero, iI_c, iI_b, iI_s, iI_n, iI_add, iI_sub, iI_mul, iI_neg, iI_nle, iI_ix, iI_eq0, iI_eq1, iI_lt0, iI_0lt, iI_le0, iI_0le, iI_eq, iI_lt, iI_le, iI_upd, iI_updZ, Int.reduceEq, Int.reduceLT, Int.reduceLE, Int.reduceNeg, Int.reduceNe, c, ru_fs_len, ru_f0, ru_f1, ru_f2, ru_f3, ru_f4, ru_f5, ru_f6, ru_f7, ru_f8, ru_f9, ru_f10, ru_f11, ru_f12, ru_f13, ru_s0, ru_t2, ru_l2, ru_t3, ru_l3, ru_t4, ru_l4, ru_t5, ru_l5, ru_t10, ru_l10, ru_t11, ru_l11, ru_t12, ru_l12, ru_t13, ru_l13, ru_t14, ru_l14, ru_t15, ru_l15, lo_fs_len, lo_f0, lo_f1, lo_s0, ty_fs_len, ty_f0, ty_f1, ty_f2, ty_f3, ty_f4, ty_f5, ty_f6, ty_f7, ty_f8, ty_f9, ty_s0, ty_t1, ty_l1, ty_t2, ty_l2, ty_t3, ty_l3, ty_t11, ty_l11, ty_t12, ty_l12, ty_t13, ty_l13, ty_t14, ty_l14, bo_fs_len, bo_f0, bo_f1, bo_f2, bo_f3, bo_f4, bo_f5, bo_f6, bo_f7, bo_f8, bo_s0, rw_hit]
    exact hc.lo (al_le_of (by simp) (by simp))
  | succ k ih =>
    intro t ht
    have c : ¬ (6 : Int) ≤ (t : Int) := by omega
    have g := ih (t + 1) (by omega)
    have a := pcd_51 hD (3 + t) (by omega)
    have b := hD (3 + t) (by omega)
    rw [h3 t (by omega), show bs (3 + t) = 4 by unfold bs; rw [if_neg (by omega), if_pos (by omega)]] at b
    rw [show 3 + (t + 1) = 3 + t + 1 by omega, show pcd D (3 + t + 1) = pcd D (3 + t) * 4 + X 3 t by
      show pcd D (3 + t) * bs (3 + t) + D ((3 + t : Nat) : Int) = _
      rw [h3 t (by omega), show bs (3 + t) = 4 by unfold bs; rw [if_neg (by omega), if_pos (by omega)]], show (((t + 1 : Nat)) : Int) = (t : Int) + 1 by omega] at g
    clear ih hD h3 hc
    generalize pcd D (3 + t) = z at *
    refine am_go_of 30 [4, 13, 17, 27, 44] _ c_Run_packOutcome_27 ?_
    simp (maxSteps := 2000000) (disch := omega) only [c_Run_packOutcome_0, c_Run_packOutcome_1, c_Run_packOutcome_2, c_Run_packOutcome_3, c_Run_packOutcome_4, c_Run_packOutcome_5, c_Run_packOutcome_6, c_Run_packOutcome_7, c_Run_packOutcome_8, c_Run_packOutcome_9, c_Run_packOutcome_10, c_Run_packOutcome_11, c_Run_packOutcome_12, c_Run_packOutcome_13, c_Run_packOutcome_14, c_Run_packOutcome_15, c_Run_packOutcome_16, c_Run_packOutcome_17, c_Run_packOutcome_18, c_Run_packOutcome_19, c_Run_packOutcome_20, c_Run_packOutcome_21, c_Run_packOutcome_22, c_Run_packOutcome_23, c_Run_packOutcome_24, c_Run_packOutcome_25, c_Run_packOutcome_26, c_Run_packOutcome_27, c_Run_packOutcome_28, c_Run_packOutcome_29, c_Run_packOutcome_30, c_Run_packOutcome_31, c_Run_packOutcome_32, c_Run_packOutcome_33, c_Run_packOutcome_34, c_Run_packOutcome_35, c_Run_packOutcome_36, c_Run_packOutcome_37, c_Run_packOutcome_38, c_Run_packOutcome_39, c_Run_packOutcome_40, c_Run_packOutcome_41, c_Run_packOutcome_42, c_Run_packOutcome_43, c_Run_packOutcome_44, c_Run_packOutcome_45, c_Run_packOutcome_46, c_Run_packOutcome_47, c_Run_packOutcome_48, c_Run_packOutcome_49, c_Run_packOutcome_50, c_Run_packOutcome_51, c_Run_packOutcome_52, c_Run_packOutcome_53, c_Run_packOutcome_54, c_Run_packOutcome_55, c_Run_packOutcome_56, c_Run_packOutcome_57, c_Run_packOutcome_58, c_Run_packOutcome_59, c_Run_packOutcome_60, c_Run_packOutcome_61, c_Run_packOutcome_62, sx_aload_n, sx_bipush, sx_getfield, sx_goto, sx_i2l, sx_iadd, sx_iaload, sx_iconst, sx_ifCond_eq, sx_if_icmp_ge, sx_iinc, sx_iload_n, sx_istore_n, sx_lconst, sx_lload_n, sx_lor, sx_lreturn, sx_lshl, sx_lstore_n, am_W_s, am_W_0, am_mm_some, List.mem_cons, or_false, false_or, or_self, or_true, true_or, reduceIte, if_false, if_true, am_o_some, am_o_none, am_o_bad, am_o_good, am_ldi_hit, am_ldi_miss, am_lda_hit, am_lda_miss, am_ldl_hit, am_ldl_miss, am_inc_eq, am_inc_hit, am_inc_miss, am_ob_hit, am_fd_0, am_fd_s, am_ai_hit, am_ab_3, am_al_hit, am_aq_4, am_al0_hit, am_put_1, am_put_2, am_put_put, am_up_hit, am_up_miss, am_s1_eq, am_s2_eq, am_fl_nil, am_fl_hit, am_fl_int, am_fl_ref, am_fl_long, am_fl_longx, am_fl2_nil, am_fl2_hit, am_fl2_hit1, am_fl2_int, am_fl2_ref, am_fl2_long, List.not_mem_nil, not_false_eq_true, ne_eq, Nat.reduceAdd, Nat.reduceEqDiff, Nat.zero_add, Nat.add_left_cancel_iff, List.set_cons_zero, List.set_cons_succ, List.length_cons, List.length_nil, Nat.reduceLT, am_ft_i, am_ft_r, am_ft_z, and_true, true_and, Option.toList_some, Option.toList_none, List.cons_append, List.nil_append, List.drop_succ_cons, List.drop_zero, iI_c, iI_b, iI_s, iI_n, iI_add, iI_sub, iI_mul, iI_neg, iI_nle, iI_ix, iI_eq0, iI_eq1, iI_lt0, iI_0lt, iI_le0, iI_0le, iI_eq, iI_lt, iI_le, iI_upd, iI_updZ, Int.reduceEq, Int.reduceLT, Int.reduceLE, Int.reduceNeg, Int.reduceNe, hO, hA, c, bz_o2, ru_fs_len, ru_f0, ru_f1, ru_f2, ru_f3, ru_f4, ru_f5, ru_f6, ru_f7, ru_f8, ru_f9, ru_f10, ru_f11, ru_f12, ru_f13, ru_s0, ru_t2, ru_l2, ru_t3, ru_l3, ru_t4, ru_l4, ru_t5, ru_l5, ru_t10, ru_l10, ru_t11, ru_l11, ru_t12, ru_l12, ru_t13, ru_l13, ru_t14, ru_l14, ru_t15, ru_l15, lo_fs_len, lo_f0, lo_f1, lo_s0, ty_fs_len, ty_f0, ty_f1, ty_f2, ty_f3, ty_f4, ty_f5, ty_f6, ty_f7, ty_f8, ty_f9, ty_s0, ty_t1, ty_l1, ty_t2, ty_l2, ty_t3, ty_l3, ty_t11, ty_l11, ty_t12, ty_l12, ty_t13, ty_l13, ty_t14, ty_l14, bo_fs_len, bo_f0, bo_f1, bo_f2, bo_f3, bo_f4, bo_f5, bo_f6, bo_f7, bo_f8, bo_s0, rw_hit]
    repeat (refine And.intro (by omega) ?_)
    exact g.lo (al_le_of (by simp) (by simp))
set_option maxHeartbeats 8000000 in
theorem lp_po1 (d : Nat) (hd : 3 ≤ d) (h : am_H) (p q w : Nat) (n m : Int) (X : Nat → Int → Int) (S : Int → Int → Int) (H : ru_at h p q w n m X S) (N : Int) (A : Nat → Int → Int) (R : Nat → Int → Int → Int) (M : Int) (B : Nat → Int → Int) (K : Nat → Int → Int → Int) (E : en_at h p q w N A R M B K) (I : Nat → Int) (F : Nat → Int → Int) (hr : md_rg I F) (hT : ty_ok I F N A R) (hB : bo_ok I F M B K) (r : rn) (hv : rn_iv I F r) (ho : ru_ok r X S) (D : Int → Int) (hD : ∀ j : Nat, j < 15 → 0 ≤ D j ∧ D j < bs j) (h1 : ∀ t : Nat, t < 3 → D t = if (t : Int) < I 1 then sp_end F (vec r) t else 0) (Q : Option Value → am_H → Prop) (hc : am_Go am_df am_MT d c_Run_packOutcome (25, [(1, .long (bz (pcd D 3))), (0, .ref p)], [], h) Q) : ∀ (k t : Nat), t + k = 3 → am_Go am_df am_MT d c_Run_packOutcome (4, [(3, .int (iI (t : Int))), (1, .long (bz (pcd D t))), (0, .ref p)], [], h) Q := by
  have H' := H
  obtain ⟨h0, hO, hG, hA, -, -⟩ := H'
  have bO := E.2.1.2.1
  have hI := hr.1
  have eM := hB.1
  intro k
  induction k with
  | zero =>
    intro t ht
    have e : t = 3 := by omega
    subst e
    have c : (3 : Int) ≤ ((3 : Nat) : Int) := by decide
    generalize pcd D 3 = z at *
    refine am_go_of 10 [4, 13, 17, 25, 27, 44] _ c_Run_packOutcome_4 ?_
    simp (maxSteps := 2000000) (disch := omega) only [c_Run_packOutcome_0, c_Run_packOutcome_1, c_Run_packOutcome_2, c_Run_packOutcome_3, c_Run_packOutcome_4, c_Run_packOutcome_5, c_Run_packOutcome_6, c_Run_packOutcome_7, c_Run_packOutcome_8, c_Run_packOutcome_9, c_Run_packOutcome_10, c_Run_packOutcome_11, c_Run_packOutcome_12, c_Run_packOutcome_13, c_Run_packOutcome_14, c_Run_packOutcome_15, c_Run_packOutcome_16, c_Run_packOutcome_17, c_Run_packOutcome_18, c_Run_packOutcome_19, c_Run_packOutcome_20, c_Run_packOutcome_21, c_Run_packOutcome_22, c_Run_packOutcome_23, c_Run_packOutcome_24, c_Run_packOutcome_25, c_Run_packOutcome_26, c_Run_packOutcome_27, c_Run_packOutcome_28, c_Run_packOutcome_29, c_Run_packOutcome_30, c_Run_packOutcome_31, c_Run_packOutcome_32, c_Run_packOutcome_33, c_Run_packOutcome_34, c_Run_packOutcome_35, c_Run_packOutcome_36, c_Run_packOutcome_37, c_Run_packOutcome_38, c_Run_packOutcome_39, c_Run_packOutcome_40, c_Run_packOutcome_41, c_Run_packOutcome_42, c_Run_packOutcome_43, c_Run_packOutcome_44, c_Run_packOutcome_45, c_Run_packOutcome_46, c_Run_packOutcome_47, c_Run_packOutcome_48, c_Run_packOutcome_49, c_Run_packOutcome_50, c_Run_packOutcome_51, c_Run_packOutcome_52, c_Run_packOutcome_53, c_Run_packOutcome_54, c_Run_packOutcome_55, c_Run_packOutcome_56, c_Run_packOutcome_57, c_Run_packOutcome_58, c_Run_packOutcome_59, c_Run_packOutcome_60, c_Run_packOutcome_61, c_Run_packOutcome_62, sx_aload_n, sx_bipush, sx_getfield, sx_goto, sx_i2l, sx_iadd, sx_iaload, sx_iconst, sx_ifCond_eq, sx_if_icmp_ge, sx_iinc, sx_iload_n, sx_istore_n, sx_lconst, sx_lload_n, sx_lor, sx_lreturn, sx_lshl, sx_lstore_n, am_W_s, am_W_0, am_mm_some, List.mem_cons, or_false, false_or, or_self, or_true, true_or, reduceIte, if_false, if_true, am_o_some, am_o_none, am_o_bad, am_o_good, am_ldi_hit, am_ldi_miss, am_lda_hit, am_lda_miss, am_ldl_hit, am_ldl_miss, am_inc_eq, am_inc_hit, am_inc_miss, am_ob_hit, am_fd_0, am_fd_s, am_ai_hit, am_ab_3, am_al_hit, am_aq_4, am_al0_hit, am_put_1, am_put_2, am_put_put, am_up_hit, am_up_miss, am_s1_eq, am_s2_eq, am_fl_nil, am_fl_hit, am_fl_int, am_fl_ref, am_fl_long, am_fl_longx, am_fl2_nil, am_fl2_hit, am_fl2_hit1, am_fl2_int, am_fl2_ref, am_fl2_long, List.not_mem_nil, not_false_eq_true, ne_eq, Nat.reduceAdd, Nat.reduceEqDiff, Nat.zero_add, Nat.add_left_cancel_iff, List.set_cons_zero, List.set_cons_succ, List.length_cons, List.length_nil, Nat.reduceLT, am_ft_i, am_ft_r, am_ft_z, and_true, true_and, Option.toList_some, Option.toList_none, List.cons_append, List.nil_append, List.drop_succ_cons, List.drop_zero, iI_c, iI_b, iI_s, iI_n, iI_add, iI_sub, iI_mul, iI_neg, iI_nle, iI_ix, iI_eq0, iI_eq1, iI_lt0, iI_0lt, iI_le0, iI_0le, iI_eq, iI_lt, iI_le, iI_upd, iI_updZ, Int.reduceEq, Int.reduceLT, Int.reduceLE, Int.reduceNeg, Int.reduceNe, c, ru_fs_len, ru_f0, ru_f1, ru_f2, ru_f3, ru_f4, ru_f5, ru_f6, ru_f7, ru_f8, ru_f9, ru_f10, ru_f11, ru_f12, ru_f13, ru_s0, ru_t2, ru_l2, ru_t3, ru_l3, ru_t4, ru_l4, ru_t5, ru_l5, ru_t10, ru_l10, ru_t11, ru_l11, ru_t12, ru_l12, ru_t13, ru_l13, ru_t14, ru_l14, ru_t15, ru_l15, lo_fs_len, lo_f0, lo_f1, lo_s0, ty_fs_len, ty_f0, ty_f1, ty_f2, ty_f3, ty_f4, ty_f5, ty_f6, ty_f7, ty_f8, ty_f9, ty_s0, ty_t1, ty_l1, ty_t2, ty_l2, ty_t3, ty_l3, ty_t11, ty_l11, ty_t12, ty_l12, ty_t13, ty_l13, ty_t14, ty_l14, bo_fs_len, bo_f0, bo_f1, bo_f2, bo_f3, bo_f4, bo_f5, bo_f6, bo_f7, bo_f8, bo_s0, rw_hit]
    exact hc.lo (al_le_of (by simp) (by simp))
  | succ k ih =>
    intro t ht
    have c : ¬ (3 : Int) ≤ (t : Int) := by omega
    have g := ih (t + 1) (by omega)
    have a := pcd_51 hD t (by omega)
    have e1 := h1 t (by omega)
    rw [show pcd D (t + 1) = pcd D t * 8 + (if (t : Int) < I 1 then sp_end F (vec r) t else 0) by
      show pcd D t * bs t + D t = _
      rw [e1, show bs t = 8 by unfold bs; rw [if_pos (by omega)]], show (((t + 1 : Nat)) : Int) = (t : Int) + 1 by omega] at g
    clear ih hD h1 hc e1
    generalize pcd D t = z at *
    refine am_go_of 20 [4, 13, 17, 27, 44] _ c_Run_packOutcome_4 ?_
    simp (maxSteps := 2000000) (disch := omega) only [c_Run_packOutcome_0, c_Run_packOutcome_1, c_Run_packOutcome_2, c_Run_packOutcome_3, c_Run_packOutcome_4, c_Run_packOutcome_5, c_Run_packOutcome_6, c_Run_packOutcome_7, c_Run_packOutcome_8, c_Run_packOutcome_9, c_Run_packOutcome_10, c_Run_packOutcome_11, c_Run_packOutcome_12, c_Run_packOutcome_13, c_Run_packOutcome_14, c_Run_packOutcome_15, c_Run_packOutcome_16, c_Run_packOutcome_17, c_Run_packOutcome_18, c_Run_packOutcome_19, c_Run_packOutcome_20, c_Run_packOutcome_21, c_Run_packOutcome_22, c_Run_packOutcome_23, c_Run_packOutcome_24, c_Run_packOutcome_25, c_Run_packOutcome_26, c_Run_packOutcome_27, c_Run_packOutcome_28, c_Run_packOutcome_29, c_Run_packOutcome_30, c_Run_packOutcome_31, c_Run_packOutcome_32, c_Run_packOutcome_33, c_Run_packOutcome_34, c_Run_packOutcome_35, c_Run_packOutcome_36, c_Run_packOutcome_37, c_Run_packOutcome_38, c_Run_packOutcome_39, c_Run_packOutcome_40, c_Run_packOutcome_41, c_Run_packOutcome_42, c_Run_packOutcome_43, c_Run_packOutcome_44, c_Run_packOutcome_45, c_Run_packOutcome_46, c_Run_packOutcome_47, c_Run_packOutcome_48, c_Run_packOutcome_49, c_Run_packOutcome_50, c_Run_packOutcome_51, c_Run_packOutcome_52, c_Run_packOutcome_53, c_Run_packOutcome_54, c_Run_packOutcome_55, c_Run_packOutcome_56, c_Run_packOutcome_57, c_Run_packOutcome_58, c_Run_packOutcome_59, c_Run_packOutcome_60, c_Run_packOutcome_61, c_Run_packOutcome_62, sx_aload_n, sx_bipush, sx_getfield, sx_goto, sx_i2l, sx_iadd, sx_iaload, sx_iconst, sx_ifCond_eq, sx_if_icmp_ge, sx_iinc, sx_iload_n, sx_istore_n, sx_lconst, sx_lload_n, sx_lor, sx_lreturn, sx_lshl, sx_lstore_n, am_W_s, am_W_0, am_mm_some, List.mem_cons, or_false, false_or, or_self, or_true, true_or, reduceIte, if_false, if_true, am_o_some, am_o_none, am_o_bad, am_o_good, am_ldi_hit, am_ldi_miss, am_lda_hit, am_lda_miss, am_ldl_hit, am_ldl_miss, am_inc_eq, am_inc_hit, am_inc_miss, am_ob_hit, am_fd_0, am_fd_s, am_ai_hit, am_ab_3, am_al_hit, am_aq_4, am_al0_hit, am_put_1, am_put_2, am_put_put, am_up_hit, am_up_miss, am_s1_eq, am_s2_eq, am_fl_nil, am_fl_hit, am_fl_int, am_fl_ref, am_fl_long, am_fl_longx, am_fl2_nil, am_fl2_hit, am_fl2_hit1, am_fl2_int, am_fl2_ref, am_fl2_long, List.not_mem_nil, not_false_eq_true, ne_eq, Nat.reduceAdd, Nat.reduceEqDiff, Nat.zero_add, Nat.add_left_cancel_iff, List.set_cons_zero, List.set_cons_succ, List.length_cons, List.length_nil, Nat.reduceLT, am_ft_i, am_ft_r, am_ft_z, and_true, true_and, Option.toList_some, Option.toList_none, List.cons_append, List.nil_append, List.drop_succ_cons, List.drop_zero, iI_c, iI_b, iI_s, iI_n, iI_add, iI_sub, iI_mul, iI_neg, iI_nle, iI_ix, iI_eq0, iI_eq1, iI_lt0, iI_0lt, iI_le0, iI_0le, iI_eq, iI_lt, iI_le, iI_upd, iI_updZ, Int.reduceEq, Int.reduceLT, Int.reduceLE, Int.reduceNeg, Int.reduceNe, hO, c, ru_fs_len, ru_f0, ru_f1, ru_f2, ru_f3, ru_f4, ru_f5, ru_f6, ru_f7, ru_f8, ru_f9, ru_f10, ru_f11, ru_f12, ru_f13, ru_s0, ru_t2, ru_l2, ru_t3, ru_l3, ru_t4, ru_l4, ru_t5, ru_l5, ru_t10, ru_l10, ru_t11, ru_l11, ru_t12, ru_l12, ru_t13, ru_l13, ru_t14, ru_l14, ru_t15, ru_l15, lo_fs_len, lo_f0, lo_f1, lo_s0, ty_fs_len, ty_f0, ty_f1, ty_f2, ty_f3, ty_f4, ty_f5, ty_f6, ty_f7, ty_f8, ty_f9, ty_s0, ty_t1, ty_l1, ty_t2, ty_l2, ty_t3, ty_l3, ty_t11, ty_l11, ty_t12, ty_l12, ty_t13, ty_l13, ty_t14, ty_l14, bo_fs_len, bo_f0, bo_f1, bo_f2, bo_f3, bo_f4, bo_f5, bo_f6, bo_f7, bo_f8, bo_s0, rw_hit]
    refine am_go_call c_Run_packOutcome_13 (by decide) (by decide) (by first | (simp [am_can, am_kd, Value.category, bO]; done) | (simp [am_can, am_kd, am_b, am_c, Value.category, bO]; done) | (simp (disch := omega) [am_can, am_kd, am_b, am_c, Value.category, am_put_1, am_up_hit, am_up_miss, bO]; done)) ?_
    refine (ct_hasThread d (by omega) h w q M B K E.2.1 (by omega) t ⟨by omega, by omega⟩).mono (fun r9 h2 hr9 => ?_)
    obtain ⟨rfl, rfl⟩ := hr9
    by_cases ct : (t : Int) < I 1
    · rw [if_pos ⟨by omega, by omega⟩]
      rw [if_pos ct] at g
      refine am_go_of 10 [4, 13, 17, 27, 44] _ c_Run_packOutcome_14 ?_
      simp (maxSteps := 2000000) (disch := omega) only [c_Run_packOutcome_0, c_Run_packOutcome_1, c_Run_packOutcome_2, c_Run_packOutcome_3, c_Run_packOutcome_4, c_Run_packOutcome_5, c_Run_packOutcome_6, c_Run_packOutcome_7, c_Run_packOutcome_8, c_Run_packOutcome_9, c_Run_packOutcome_10, c_Run_packOutcome_11, c_Run_packOutcome_12, c_Run_packOutcome_13, c_Run_packOutcome_14, c_Run_packOutcome_15, c_Run_packOutcome_16, c_Run_packOutcome_17, c_Run_packOutcome_18, c_Run_packOutcome_19, c_Run_packOutcome_20, c_Run_packOutcome_21, c_Run_packOutcome_22, c_Run_packOutcome_23, c_Run_packOutcome_24, c_Run_packOutcome_25, c_Run_packOutcome_26, c_Run_packOutcome_27, c_Run_packOutcome_28, c_Run_packOutcome_29, c_Run_packOutcome_30, c_Run_packOutcome_31, c_Run_packOutcome_32, c_Run_packOutcome_33, c_Run_packOutcome_34, c_Run_packOutcome_35, c_Run_packOutcome_36, c_Run_packOutcome_37, c_Run_packOutcome_38, c_Run_packOutcome_39, c_Run_packOutcome_40, c_Run_packOutcome_41, c_Run_packOutcome_42, c_Run_packOutcome_43, c_Run_packOutcome_44, c_Run_packOutcome_45, c_Run_packOutcome_46, c_Run_packOutcome_47, c_Run_packOutcome_48, c_Run_packOutcome_49, c_Run_packOutcome_50, c_Run_packOutcome_51, c_Run_packOutcome_52, c_Run_packOutcome_53, c_Run_packOutcome_54, c_Run_packOutcome_55, c_Run_packOutcome_56, c_Run_packOutcome_57, c_Run_packOutcome_58, c_Run_packOutcome_59, c_Run_packOutcome_60, c_Run_packOutcome_61, c_Run_packOutcome_62, sx_aload_n, sx_bipush, sx_getfield, sx_goto, sx_i2l, sx_iadd, sx_iaload, sx_iconst, sx_ifCond_eq, sx_if_icmp_ge, sx_iinc, sx_iload_n, sx_istore_n, sx_lconst, sx_lload_n, sx_lor, sx_lreturn, sx_lshl, sx_lstore_n, am_W_s, am_W_0, am_mm_some, List.mem_cons, or_false, false_or, or_self, or_true, true_or, reduceIte, if_false, if_true, am_o_some, am_o_none, am_o_bad, am_o_good, am_ldi_hit, am_ldi_miss, am_lda_hit, am_lda_miss, am_ldl_hit, am_ldl_miss, am_inc_eq, am_inc_hit, am_inc_miss, am_ob_hit, am_fd_0, am_fd_s, am_ai_hit, am_ab_3, am_al_hit, am_aq_4, am_al0_hit, am_put_1, am_put_2, am_put_put, am_up_hit, am_up_miss, am_s1_eq, am_s2_eq, am_fl_nil, am_fl_hit, am_fl_int, am_fl_ref, am_fl_long, am_fl_longx, am_fl2_nil, am_fl2_hit, am_fl2_hit1, am_fl2_int, am_fl2_ref, am_fl2_long, List.not_mem_nil, not_false_eq_true, ne_eq, Nat.reduceAdd, Nat.reduceEqDiff, Nat.zero_add, Nat.add_left_cancel_iff, List.set_cons_zero, List.set_cons_succ, List.length_cons, List.length_nil, Nat.reduceLT, am_ft_i, am_ft_r, am_ft_z, and_true, true_and, Option.toList_some, Option.toList_none, List.cons_append, List.nil_append, List.drop_succ_cons, List.drop_zero, iI_c, iI_b, iI_s, iI_n, iI_add, iI_sub, iI_mul, iI_neg, iI_nle, iI_ix, iI_eq0, iI_eq1, iI_lt0, iI_0lt, iI_le0, iI_0le, iI_eq, iI_lt, iI_le, iI_upd, iI_updZ, Int.reduceEq, Int.reduceLT, Int.reduceLE, Int.reduceNeg, Int.reduceNe, ru_fs_len, ru_f0, ru_f1, ru_f2, ru_f3, ru_f4, ru_f5, ru_f6, ru_f7, ru_f8, ru_f9, ru_f10, ru_f11, ru_f12, ru_f13, ru_s0, ru_t2, ru_l2, ru_t3, ru_l3, ru_t4, ru_l4, ru_t5, ru_l5, ru_t10, ru_l10, ru_t11, ru_l11, ru_t12, ru_l12, ru_t13, ru_l13, ru_t14, ru_l14, ru_t15, ru_l15, lo_fs_len, lo_f0, lo_f1, lo_s0, ty_fs_len, ty_f0, ty_f1, ty_f2, ty_f3, ty_f4, ty_f5, ty_f6, ty_f7, ty_f8, ty_f9, ty_s0, ty_t1, ty_l1, ty_t2, ty_l2, ty_t3, ty_l3, ty_t11, ty_l11, ty_t12, ty_l12, ty_t13, ty_l13, ty_t14, ty_l14, bo_fs_len, bo_f0, bo_f1, bo_f2, bo_f3, bo_f4, bo_f5, bo_f6, bo_f7, bo_f8, bo_s0, rw_hit]
      refine am_go_call c_Run_packOutcome_17 (by decide) (by decide) (by first | (simp [am_can, am_kd, Value.category, hO]; done) | (simp [am_can, am_kd, am_b, am_c, Value.category, hO]; done) | (simp (disch := omega) [am_can, am_kd, am_b, am_c, Value.category, am_put_1, am_up_hit, am_up_miss, hO]; done)) ?_
      refine (ct_RendOf d hd h2 p q w n m X S H N A R M B K E I F hr hT hB r hv ho (t : Int) ⟨by omega, ct⟩).mono (fun r9 h3 hr9 => ?_)
      obtain ⟨rfl, rfl⟩ := hr9
      have s := se_rg hv (j := (t : Int)) ⟨by omega, by omega⟩
      generalize sp_end F (vec r) (t : Int) = e at *
      refine am_go_of 20 [4, 13, 17, 27, 44] _ c_Run_packOutcome_18 ?_
      simp (maxSteps := 2000000) (disch := omega) only [c_Run_packOutcome_0, c_Run_packOutcome_1, c_Run_packOutcome_2, c_Run_packOutcome_3, c_Run_packOutcome_4, c_Run_packOutcome_5, c_Run_packOutcome_6, c_Run_packOutcome_7, c_Run_packOutcome_8, c_Run_packOutcome_9, c_Run_packOutcome_10, c_Run_packOutcome_11, c_Run_packOutcome_12, c_Run_packOutcome_13, c_Run_packOutcome_14, c_Run_packOutcome_15, c_Run_packOutcome_16, c_Run_packOutcome_17, c_Run_packOutcome_18, c_Run_packOutcome_19, c_Run_packOutcome_20, c_Run_packOutcome_21, c_Run_packOutcome_22, c_Run_packOutcome_23, c_Run_packOutcome_24, c_Run_packOutcome_25, c_Run_packOutcome_26, c_Run_packOutcome_27, c_Run_packOutcome_28, c_Run_packOutcome_29, c_Run_packOutcome_30, c_Run_packOutcome_31, c_Run_packOutcome_32, c_Run_packOutcome_33, c_Run_packOutcome_34, c_Run_packOutcome_35, c_Run_packOutcome_36, c_Run_packOutcome_37, c_Run_packOutcome_38, c_Run_packOutcome_39, c_Run_packOutcome_40, c_Run_packOutcome_41, c_Run_packOutcome_42, c_Run_packOutcome_43, c_Run_packOutcome_44, c_Run_packOutcome_45, c_Run_packOutcome_46, c_Run_packOutcome_47, c_Run_packOutcome_48, c_Run_packOutcome_49, c_Run_packOutcome_50, c_Run_packOutcome_51, c_Run_packOutcome_52, c_Run_packOutcome_53, c_Run_packOutcome_54, c_Run_packOutcome_55, c_Run_packOutcome_56, c_Run_packOutcome_57, c_Run_packOutcome_58, c_Run_packOutcome_59, c_Run_packOutcome_60, c_Run_packOutcome_61, c_Run_packOutcome_62, sx_aload_n, sx_bipush, sx_getfield, sx_goto, sx_i2l, sx_iadd, sx_iaload, sx_iconst, sx_ifCond_eq, sx_if_icmp_ge, sx_iinc, sx_iload_n, sx_istore_n, sx_lconst, sx_lload_n, sx_lor, sx_lreturn, sx_lshl, sx_lstore_n, am_W_s, am_W_0, am_mm_some, List.mem_cons, or_false, false_or, or_self, or_true, true_or, reduceIte, if_false, if_true, am_o_some, am_o_none, am_o_bad, am_o_good, am_ldi_hit, am_ldi_miss, am_lda_hit, am_lda_miss, am_ldl_hit, am_ldl_miss, am_inc_eq, am_inc_hit, am_inc_miss, am_ob_hit, am_fd_0, am_fd_s, am_ai_hit, am_ab_3, am_al_hit, am_aq_4, am_al0_hit, am_put_1, am_put_2, am_put_put, am_up_hit, am_up_miss, am_s1_eq, am_s2_eq, am_fl_nil, am_fl_hit, am_fl_int, am_fl_ref, am_fl_long, am_fl_longx, am_fl2_nil, am_fl2_hit, am_fl2_hit1, am_fl2_int, am_fl2_ref, am_fl2_long, List.not_mem_nil, not_false_eq_true, ne_eq, Nat.reduceAdd, Nat.reduceEqDiff, Nat.zero_add, Nat.add_left_cancel_iff, List.set_cons_zero, List.set_cons_succ, List.length_cons, List.length_nil, Nat.reduceLT, am_ft_i, am_ft_r, am_ft_z, and_true, true_and, Option.toList_some, Option.toList_none, List.cons_append, List.nil_append, List.drop_succ_cons, List.drop_zero, iI_c, iI_b, iI_s, iI_n, iI_add, iI_sub, iI_mul, iI_neg, iI_nle, iI_ix, iI_eq0, iI_eq1, iI_lt0, iI_0lt, iI_le0, iI_0le, iI_eq, iI_lt, iI_le, iI_upd, iI_updZ, Int.reduceEq, Int.reduceLT, Int.reduceLE, Int.reduceNeg, Int.reduceNe, bz_o3, ru_fs_len, ru_f0, ru_f1, ru_f2, ru_f3, ru_f4, ru_f5, ru_f6, ru_f7, ru_f8, ru_f9, ru_f10, ru_f11, ru_f12, ru_f13, ru_s0, ru_t2, ru_l2, ru_t3, ru_l3, ru_t4, ru_l4, ru_t5, ru_l5, ru_t10, ru_l10, ru_t11, ru_l11, ru_t12, ru_l12, ru_t13, ru_l13, ru_t14, ru_l14, ru_t15, ru_l15, lo_fs_len, lo_f0, lo_f1, lo_s0, ty_fs_len, ty_f0, ty_f1, ty_f2, ty_f3, ty_f4, ty_f5, ty_f6, ty_f7, ty_f8, ty_f9, ty_s0, ty_t1, ty_l1, ty_t2, ty_l2, ty_t3, ty_l3, ty_t11, ty_l11, ty_t12, ty_l12, ty_t13, ty_l13, ty_t14, ty_l14, bo_fs_len, bo_f0, bo_f1, bo_f2, bo_f3, bo_f4, bo_f5, bo_f6, bo_f7, bo_f8, bo_s0, rw_hit]
      exact g.lo (al_le_of (by simp) (by simp))
    · rw [if_neg (fun z => ct (by omega))]
      rw [if_neg ct] at g
      refine am_go_of 20 [4, 13, 17, 27, 44] _ c_Run_packOutcome_14 ?_
      simp (maxSteps := 2000000) (disch := omega) only [c_Run_packOutcome_0, c_Run_packOutcome_1, c_Run_packOutcome_2, c_Run_packOutcome_3, c_Run_packOutcome_4, c_Run_packOutcome_5, c_Run_packOutcome_6, c_Run_packOutcome_7, c_Run_packOutcome_8, c_Run_packOutcome_9, c_Run_packOutcome_10, c_Run_packOutcome_11, c_Run_packOutcome_12, c_Run_packOutcome_13, c_Run_packOutcome_14, c_Run_packOutcome_15, c_Run_packOutcome_16, c_Run_packOutcome_17, c_Run_packOutcome_18, c_Run_packOutcome_19, c_Run_packOutcome_20, c_Run_packOutcome_21, c_Run_packOutcome_22, c_Run_packOutcome_23, c_Run_packOutcome_24, c_Run_packOutcome_25, c_Run_packOutcome_26, c_Run_packOutcome_27, c_Run_packOutcome_28, c_Run_packOutcome_29, c_Run_packOutcome_30, c_Run_packOutcome_31, c_Run_packOutcome_32, c_Run_packOutcome_33, c_Run_packOutcome_34, c_Run_packOutcome_35, c_Run_packOutcome_36, c_Run_packOutcome_37, c_Run_packOutcome_38, c_Run_packOutcome_39, c_Run_packOutcome_40, c_Run_packOutcome_41, c_Run_packOutcome_42, c_Run_packOutcome_43, c_Run_packOutcome_44, c_Run_packOutcome_45, c_Run_packOutcome_46, c_Run_packOutcome_47, c_Run_packOutcome_48, c_Run_packOutcome_49, c_Run_packOutcome_50, c_Run_packOutcome_51, c_Run_packOutcome_52, c_Run_packOutcome_53, c_Run_packOutcome_54, c_Run_packOutcome_55, c_Run_packOutcome_56, c_Run_packOutcome_57, c_Run_packOutcome_58, c_Run_packOutcome_59, c_Run_packOutcome_60, c_Run_packOutcome_61, c_Run_packOutcome_62, sx_aload_n, sx_bipush, sx_getfield, sx_goto, sx_i2l, sx_iadd, sx_iaload, sx_iconst, sx_ifCond_eq, sx_if_icmp_ge, sx_iinc, sx_iload_n, sx_istore_n, sx_lconst, sx_lload_n, sx_lor, sx_lreturn, sx_lshl, sx_lstore_n, am_W_s, am_W_0, am_mm_some, List.mem_cons, or_false, false_or, or_self, or_true, true_or, reduceIte, if_false, if_true, am_o_some, am_o_none, am_o_bad, am_o_good, am_ldi_hit, am_ldi_miss, am_lda_hit, am_lda_miss, am_ldl_hit, am_ldl_miss, am_inc_eq, am_inc_hit, am_inc_miss, am_ob_hit, am_fd_0, am_fd_s, am_ai_hit, am_ab_3, am_al_hit, am_aq_4, am_al0_hit, am_put_1, am_put_2, am_put_put, am_up_hit, am_up_miss, am_s1_eq, am_s2_eq, am_fl_nil, am_fl_hit, am_fl_int, am_fl_ref, am_fl_long, am_fl_longx, am_fl2_nil, am_fl2_hit, am_fl2_hit1, am_fl2_int, am_fl2_ref, am_fl2_long, List.not_mem_nil, not_false_eq_true, ne_eq, Nat.reduceAdd, Nat.reduceEqDiff, Nat.zero_add, Nat.add_left_cancel_iff, List.set_cons_zero, List.set_cons_succ, List.length_cons, List.length_nil, Nat.reduceLT, am_ft_i, am_ft_r, am_ft_z, and_true, true_and, Option.toList_some, Option.toList_none, List.cons_append, List.nil_append, List.drop_succ_cons, List.drop_zero, iI_c, iI_b, iI_s, iI_n, iI_add, iI_sub, iI_mul, iI_neg, iI_nle, iI_ix, iI_eq0, iI_eq1, iI_lt0, iI_0lt, iI_le0, iI_0le, iI_eq, iI_lt, iI_le, iI_upd, iI_updZ, Int.reduceEq, Int.reduceLT, Int.reduceLE, Int.reduceNeg, Int.reduceNe, bz_o3, ru_fs_len, ru_f0, ru_f1, ru_f2, ru_f3, ru_f4, ru_f5, ru_f6, ru_f7, ru_f8, ru_f9, ru_f10, ru_f11, ru_f12, ru_f13, ru_s0, ru_t2, ru_l2, ru_t3, ru_l3, ru_t4, ru_l4, ru_t5, ru_l5, ru_t10, ru_l10, ru_t11, ru_l11, ru_t12, ru_l12, ru_t13, ru_l13, ru_t14, ru_l14, ru_t15, ru_l15, lo_fs_len, lo_f0, lo_f1, lo_s0, ty_fs_len, ty_f0, ty_f1, ty_f2, ty_f3, ty_f4, ty_f5, ty_f6, ty_f7, ty_f8, ty_f9, ty_s0, ty_t1, ty_l1, ty_t2, ty_l2, ty_t3, ty_l3, ty_t11, ty_l11, ty_t12, ty_l12, ty_t13, ty_l13, ty_t14, ty_l14, bo_fs_len, bo_f0, bo_f1, bo_f2, bo_f3, bo_f4, bo_f5, bo_f6, bo_f7, bo_f8, bo_s0, rw_hit]
      exact g.lo (al_le_of (by simp) (by simp))
set_option maxHeartbeats 8000000 in
theorem ct_packOutcome (d : Nat) (hd : 4 ≤ d) (h : am_H) (p q w : Nat) (n m : Int) (X : Nat → Int → Int) (S : Int → Int → Int) (H : ru_at h p q w n m X S) (N : Int) (A : Nat → Int → Int) (R : Nat → Int → Int → Int) (M : Int) (B : Nat → Int → Int) (K : Nat → Int → Int → Int) (E : en_at h p q w N A R M B K) (I : Nat → Int) (F : Nat → Int → Int) (hr : md_rg I F) (hT : ty_ok I F N A R) (hB : bo_ok I F M B K) (r : rn) (hv : rn_iv I F r) (ho : ru_ok r X S) : am_Ct am_df am_MT d 88 [.ref p] h (fun r0 h' => r0 = some (.long (bz (ocd (oc I F r)))) ∧ h' = h) := by
  have hD := od_ok (oc_rg hv)
  have d1 : ∀ t : Nat, t < 3 → od (oc I F r) t = if (t : Int) < I 1 then sp_end F (vec r) t else 0 := fun t ht => by
    unfold od oc
    rw [if_pos (by omega), if_pos (by omega)]
  have d3 : ∀ t : Nat, t < 6 → od (oc I F r) ((3 + t : Nat) : Int) = X 3 t := fun t ht => by
    unfold od oc
    rw [if_pos (by omega), if_neg (by omega), if_pos (by omega), (ho.1 t (by omega)).1, show ((3 + t : Nat) : Int) - 3 = t by omega]
  have d5 : ∀ t : Nat, t < 6 → od (oc I F r) ((9 + t : Nat) : Int) = X 5 t + 9 := fun t ht => by
    unfold od oc
    rw [if_neg (by omega), if_neg (by omega), if_neg (by omega), (ho.1 t (by omega)).2.2.1, show ((9 + t : Nat) : Int) - 9 = t by omega]
  unfold ocd
  generalize od (oc I F r) = D at *
  obtain ⟨d, rfl⟩ : ∃ e, d = e + 1 := ⟨d - 1, by omega⟩
  refine am_ct_of2 mt_Run_packOutcome (Nat.le_of_ble_eq_true rfl) ?_
  simp only [ar_nil, ar_int, ar_ref, ar_long, Nat.reduceAdd]
  refine am_go_of 10 [4, 13, 17, 27, 44] _ c_Run_packOutcome_0 ?_
  simp (maxSteps := 2000000) (disch := omega) only [c_Run_packOutcome_0, c_Run_packOutcome_1, c_Run_packOutcome_2, c_Run_packOutcome_3, c_Run_packOutcome_4, c_Run_packOutcome_5, c_Run_packOutcome_6, c_Run_packOutcome_7, c_Run_packOutcome_8, c_Run_packOutcome_9, c_Run_packOutcome_10, c_Run_packOutcome_11, c_Run_packOutcome_12, c_Run_packOutcome_13, c_Run_packOutcome_14, c_Run_packOutcome_15, c_Run_packOutcome_16, c_Run_packOutcome_17, c_Run_packOutcome_18, c_Run_packOutcome_19, c_Run_packOutcome_20, c_Run_packOutcome_21, c_Run_packOutcome_22, c_Run_packOutcome_23, c_Run_packOutcome_24, c_Run_packOutcome_25, c_Run_packOutcome_26, c_Run_packOutcome_27, c_Run_packOutcome_28, c_Run_packOutcome_29, c_Run_packOutcome_30, c_Run_packOutcome_31, c_Run_packOutcome_32, c_Run_packOutcome_33, c_Run_packOutcome_34, c_Run_packOutcome_35, c_Run_packOutcome_36, c_Run_packOutcome_37, c_Run_packOutcome_38, c_Run_packOutcome_39, c_Run_packOutcome_40, c_Run_packOutcome_41, c_Run_packOutcome_42, c_Run_packOutcome_43, c_Run_packOutcome_44, c_Run_packOutcome_45, c_Run_packOutcome_46, c_Run_packOutcome_47, c_Run_packOutcome_48, c_Run_packOutcome_49, c_Run_packOutcome_50, c_Run_packOutcome_51, c_Run_packOutcome_52, c_Run_packOutcome_53, c_Run_packOutcome_54, c_Run_packOutcome_55, c_Run_packOutcome_56, c_Run_packOutcome_57, c_Run_packOutcome_58, c_Run_packOutcome_59, c_Run_packOutcome_60, c_Run_packOutcome_61, c_Run_packOutcome_62, sx_aload_n, sx_bipush, sx_getfield, sx_goto, sx_i2l, sx_iadd, sx_iaload, sx_iconst, sx_ifCond_eq, sx_if_icmp_ge, sx_iinc, sx_iload_n, sx_istore_n, sx_lconst, sx_lload_n, sx_lor, sx_lreturn, sx_lshl, sx_lstore_n, am_W_s, am_W_0, am_mm_some, List.mem_cons, or_false, false_or, or_self, or_true, true_or, reduceIte, if_false, if_true, am_o_some, am_o_none, am_o_bad, am_o_good, am_ldi_hit, am_ldi_miss, am_lda_hit, am_lda_miss, am_ldl_hit, am_ldl_miss, am_inc_eq, am_inc_hit, am_inc_miss, am_ob_hit, am_fd_0, am_fd_s, am_ai_hit, am_ab_3, am_al_hit, am_aq_4, am_al0_hit, am_put_1, am_put_2, am_put_put, am_up_hit, am_up_miss, am_s1_eq, am_s2_eq, am_fl_nil, am_fl_hit, am_fl_int, am_fl_ref, am_fl_long, am_fl_longx, am_fl2_nil, am_fl2_hit, am_fl2_hit1, am_fl2_int, am_fl2_ref, am_fl2_long, List.not_mem_nil, not_false_eq_true, ne_eq, Nat.reduceAdd, Nat.reduceEqDiff, Nat.zero_add, Nat.add_left_cancel_iff, List.set_cons_zero, List.set_cons_succ, List.length_cons, List.length_nil, Nat.reduceLT, am_ft_i, am_ft_r, am_ft_z, and_true, true_and, Option.toList_some, Option.toList_none, List.cons_append, List.nil_append, List.drop_succ_cons, List.drop_zero, iI_c, iI_b, iI_s, iI_n, iI_add, iI_sub, iI_mul, iI_neg, iI_nle, iI_ix, iI_eq0, iI_eq1, iI_lt0, iI_0lt, iI_le0, iI_0le, iI_eq, iI_lt, iI_le, iI_upd, iI_updZ, Int.reduceEq, Int.reduceLT, Int.reduceLE, Int.reduceNeg, Int.reduceNe, bz_0, ru_fs_len, ru_f0, ru_f1, ru_f2, ru_f3, ru_f4, ru_f5, ru_f6, ru_f7, ru_f8, ru_f9, ru_f10, ru_f11, ru_f12, ru_f13, ru_s0, ru_t2, ru_l2, ru_t3, ru_l3, ru_t4, ru_l4, ru_t5, ru_l5, ru_t10, ru_l10, ru_t11, ru_l11, ru_t12, ru_l12, ru_t13, ru_l13, ru_t14, ru_l14, ru_t15, ru_l15, lo_fs_len, lo_f0, lo_f1, lo_s0, ty_fs_len, ty_f0, ty_f1, ty_f2, ty_f3, ty_f4, ty_f5, ty_f6, ty_f7, ty_f8, ty_f9, ty_s0, ty_t1, ty_l1, ty_t2, ty_l2, ty_t3, ty_l3, ty_t11, ty_l11, ty_t12, ty_l12, ty_t13, ty_l13, ty_t14, ty_l14, bo_fs_len, bo_f0, bo_f1, bo_f2, bo_f3, bo_f4, bo_f5, bo_f6, bo_f7, bo_f8, bo_s0, rw_hit]
  refine (lp_po1 d (by omega) h p q w n m X S H N A R M B K E I F hr hT hB r hv ho D hD d1 _ ?_ 3 0 (by decide)).lo (al_le_of (by simp [pcd]) (by simp))
  refine am_go_of 10 [4, 13, 17, 27, 44] _ c_Run_packOutcome_25 ?_
  simp (maxSteps := 2000000) (disch := omega) only [c_Run_packOutcome_0, c_Run_packOutcome_1, c_Run_packOutcome_2, c_Run_packOutcome_3, c_Run_packOutcome_4, c_Run_packOutcome_5, c_Run_packOutcome_6, c_Run_packOutcome_7, c_Run_packOutcome_8, c_Run_packOutcome_9, c_Run_packOutcome_10, c_Run_packOutcome_11, c_Run_packOutcome_12, c_Run_packOutcome_13, c_Run_packOutcome_14, c_Run_packOutcome_15, c_Run_packOutcome_16, c_Run_packOutcome_17, c_Run_packOutcome_18, c_Run_packOutcome_19, c_Run_packOutcome_20, c_Run_packOutcome_21, c_Run_packOutcome_22, c_Run_packOutcome_23, c_Run_packOutcome_24, c_Run_packOutcome_25, c_Run_packOutcome_26, c_Run_packOutcome_27, c_Run_packOutcome_28, c_Run_packOutcome_29, c_Run_packOutcome_30, c_Run_packOutcome_31, c_Run_packOutcome_32, c_Run_packOutcome_33, c_Run_packOutcome_34, c_Run_packOutcome_35, c_Run_packOutcome_36, c_Run_packOutcome_37, c_Run_packOutcome_38, c_Run_packOutcome_39, c_Run_packOutcome_40, c_Run_packOutcome_41, c_Run_packOutcome_42, c_Run_packOutcome_43, c_Run_packOutcome_44, c_Run_packOutcome_45, c_Run_packOutcome_46, c_Run_packOutcome_47, c_Run_packOutcome_48, c_Run_packOutcome_49, c_Run_packOutcome_50, c_Run_packOutcome_51, c_Run_packOutcome_52, c_Run_packOutcome_53, c_Run_packOutcome_54, c_Run_packOutcome_55, c_Run_packOutcome_56, c_Run_packOutcome_57, c_Run_packOutcome_58, c_Run_packOutcome_59, c_Run_packOutcome_60, c_Run_packOutcome_61, c_Run_packOutcome_62, sx_aload_n, sx_bipush, sx_getfield, sx_goto, sx_i2l, sx_iadd, sx_iaload, sx_iconst, sx_ifCond_eq, sx_if_icmp_ge, sx_iinc, sx_iload_n, sx_istore_n, sx_lconst, sx_lload_n, sx_lor, sx_lreturn, sx_lshl, sx_lstore_n, am_W_s, am_W_0, am_mm_some, List.mem_cons, or_false, false_or, or_self, or_true, true_or, reduceIte, if_false, if_true, am_o_some, am_o_none, am_o_bad, am_o_good, am_ldi_hit, am_ldi_miss, am_lda_hit, am_lda_miss, am_ldl_hit, am_ldl_miss, am_inc_eq, am_inc_hit, am_inc_miss, am_ob_hit, am_fd_0, am_fd_s, am_ai_hit, am_ab_3, am_al_hit, am_aq_4, am_al0_hit, am_put_1, am_put_2, am_put_put, am_up_hit, am_up_miss, am_s1_eq, am_s2_eq, am_fl_nil, am_fl_hit, am_fl_int, am_fl_ref, am_fl_long, am_fl_longx, am_fl2_nil, am_fl2_hit, am_fl2_hit1, am_fl2_int, am_fl2_ref, am_fl2_long, List.not_mem_nil, not_false_eq_true, ne_eq, Nat.reduceAdd, Nat.reduceEqDiff, Nat.zero_add, Nat.add_left_cancel_iff, List.set_cons_zero, List.set_cons_succ, List.length_cons, List.length_nil, Nat.reduceLT, am_ft_i, am_ft_r, am_ft_z, and_true, true_and, Option.toList_some, Option.toList_none, List.cons_append, List.nil_append, List.drop_succ_cons, List.drop_zero, iI_c, iI_b, iI_s, iI_n, iI_add, iI_sub, iI_mul, iI_neg, iI_nle, iI_ix, iI_eq0, iI_eq1, iI_lt0, iI_0lt, iI_le0, iI_0le, iI_eq, iI_lt, iI_le, iI_upd, iI_updZ, Int.reduceEq, Int.reduceLT, Int.reduceLE, Int.reduceNeg, Int.reduceNe, ru_fs_len, ru_f0, ru_f1, ru_f2, ru_f3, ru_f4, ru_f5, ru_f6, ru_f7, ru_f8, ru_f9, ru_f10, ru_f11, ru_f12, ru_f13, ru_s0, ru_t2, ru_l2, ru_t3, ru_l3, ru_t4, ru_l4, ru_t5, ru_l5, ru_t10, ru_l10, ru_t11, ru_l11, ru_t12, ru_l12, ru_t13, ru_l13, ru_t14, ru_l14, ru_t15, ru_l15, lo_fs_len, lo_f0, lo_f1, lo_s0, ty_fs_len, ty_f0, ty_f1, ty_f2, ty_f3, ty_f4, ty_f5, ty_f6, ty_f7, ty_f8, ty_f9, ty_s0, ty_t1, ty_l1, ty_t2, ty_l2, ty_t3, ty_l3, ty_t11, ty_l11, ty_t12, ty_l12, ty_t13, ty_l13, ty_t14, ty_l14, bo_fs_len, bo_f0, bo_f1, bo_f2, bo_f3, bo_f4, bo_f5, bo_f6, bo_f7, bo_f8, bo_s0, rw_hit]
  refine (lp_po2 d h p q w n m X S H D hD d3 _ ?_ 6 0 (by decide)).lo (al_le_of (by simp) (by simp))
  refine am_go_of 10 [4, 13, 17, 27, 44] _ c_Run_packOutcome_42 ?_
  simp (maxSteps := 2000000) (disch := omega) only [c_Run_packOutcome_0, c_Run_packOutcome_1, c_Run_packOutcome_2, c_Run_packOutcome_3, c_Run_packOutcome_4, c_Run_packOutcome_5, c_Run_packOutcome_6, c_Run_packOutcome_7, c_Run_packOutcome_8, c_Run_packOutcome_9, c_Run_packOutcome_10, c_Run_packOutcome_11, c_Run_packOutcome_12, c_Run_packOutcome_13, c_Run_packOutcome_14, c_Run_packOutcome_15, c_Run_packOutcome_16, c_Run_packOutcome_17, c_Run_packOutcome_18, c_Run_packOutcome_19, c_Run_packOutcome_20, c_Run_packOutcome_21, c_Run_packOutcome_22, c_Run_packOutcome_23, c_Run_packOutcome_24, c_Run_packOutcome_25, c_Run_packOutcome_26, c_Run_packOutcome_27, c_Run_packOutcome_28, c_Run_packOutcome_29, c_Run_packOutcome_30, c_Run_packOutcome_31, c_Run_packOutcome_32, c_Run_packOutcome_33, c_Run_packOutcome_34, c_Run_packOutcome_35, c_Run_packOutcome_36, c_Run_packOutcome_37, c_Run_packOutcome_38, c_Run_packOutcome_39, c_Run_packOutcome_40, c_Run_packOutcome_41, c_Run_packOutcome_42, c_Run_packOutcome_43, c_Run_packOutcome_44, c_Run_packOutcome_45, c_Run_packOutcome_46, c_Run_packOutcome_47, c_Run_packOutcome_48, c_Run_packOutcome_49, c_Run_packOutcome_50, c_Run_packOutcome_51, c_Run_packOutcome_52, c_Run_packOutcome_53, c_Run_packOutcome_54, c_Run_packOutcome_55, c_Run_packOutcome_56, c_Run_packOutcome_57, c_Run_packOutcome_58, c_Run_packOutcome_59, c_Run_packOutcome_60, c_Run_packOutcome_61, c_Run_packOutcome_62, sx_aload_n, sx_bipush, sx_getfield, sx_goto, sx_i2l, sx_iadd, sx_iaload, sx_iconst, sx_ifCond_eq, sx_if_icmp_ge, sx_iinc, sx_iload_n, sx_istore_n, sx_lconst, sx_lload_n, sx_lor, sx_lreturn, sx_lshl, sx_lstore_n, am_W_s, am_W_0, am_mm_some, List.mem_cons, or_false, false_or, or_self, or_true, true_or, reduceIte, if_false, if_true, am_o_some, am_o_none, am_o_bad, am_o_good, am_ldi_hit, am_ldi_miss, am_lda_hit, am_lda_miss, am_ldl_hit, am_ldl_miss, am_inc_eq, am_inc_hit, am_inc_miss, am_ob_hit, am_fd_0, am_fd_s, am_ai_hit, am_ab_3, am_al_hit, am_aq_4, am_al0_hit, am_put_1, am_put_2, am_put_put, am_up_hit, am_up_miss, am_s1_eq, am_s2_eq, am_fl_nil, am_fl_hit, am_fl_int, am_fl_ref, am_fl_long, am_fl_longx, am_fl2_nil, am_fl2_hit, am_fl2_hit1, am_fl2_int, am_fl2_ref, am_fl2_long, List.not_mem_nil, not_false_eq_true, ne_eq, Nat.reduceAdd, Nat.reduceEqDiff, Nat.zero_add, Nat.add_left_cancel_iff, List.set_cons_zero, List.set_cons_succ, List.length_cons, List.length_nil, Nat.reduceLT, am_ft_i, am_ft_r, am_ft_z, and_true, true_and, Option.toList_some, Option.toList_none, List.cons_append, List.nil_append, List.drop_succ_cons, List.drop_zero, iI_c, iI_b, iI_s, iI_n, iI_add, iI_sub, iI_mul, iI_neg, iI_nle, iI_ix, iI_eq0, iI_eq1, iI_lt0, iI_0lt, iI_le0, iI_0le, iI_eq, iI_lt, iI_le, iI_upd, iI_updZ, Int.reduceEq, Int.reduceLT, Int.reduceLE, Int.reduceNeg, Int.reduceNe, ru_fs_len, ru_f0, ru_f1, ru_f2, ru_f3, ru_f4, ru_f5, ru_f6, ru_f7, ru_f8, ru_f9, ru_f10, ru_f11, ru_f12, ru_f13, ru_s0, ru_t2, ru_l2, ru_t3, ru_l3, ru_t4, ru_l4, ru_t5, ru_l5, ru_t10, ru_l10, ru_t11, ru_l11, ru_t12, ru_l12, ru_t13, ru_l13, ru_t14, ru_l14, ru_t15, ru_l15, lo_fs_len, lo_f0, lo_f1, lo_s0, ty_fs_len, ty_f0, ty_f1, ty_f2, ty_f3, ty_f4, ty_f5, ty_f6, ty_f7, ty_f8, ty_f9, ty_s0, ty_t1, ty_l1, ty_t2, ty_l2, ty_t3, ty_l3, ty_t11, ty_l11, ty_t12, ty_l12, ty_t13, ty_l13, ty_t14, ty_l14, bo_fs_len, bo_f0, bo_f1, bo_f2, bo_f3, bo_f4, bo_f5, bo_f6, bo_f7, bo_f8, bo_s0, rw_hit]
  exact (lp_po3 d h p q w n m X S H D hD d5 6 0 (by decide)).lo (al_le_of (by simp) (by simp))
