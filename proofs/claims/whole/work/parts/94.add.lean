theorem mt_Points_add : am_MT[81]? = some m_Points_add := rfl
theorem c_Points_add_0 : c_Points_add[0]? = some (0, 1, .aload_n 0, 0, 0, 0, 0, 0, []) := Eq.trans rfl rfl
theorem c_Points_add_1 : c_Points_add[1]? = some (1, 3, .getfield 11, 6, 0, 0, 0, 261, []) := Eq.trans rfl rfl
theorem c_Points_add_2 : c_Points_add[2]? = some (4, 1, .iconst 3, 0, 0, 0, 0, 0, []) := Eq.trans rfl rfl
theorem c_Points_add_3 : c_Points_add[3]? = some (5, 1, .imul, 0, 0, 0, 0, 0, []) := Eq.trans rfl rfl
theorem c_Points_add_4 : c_Points_add[4]? = some (6, 1, .istore_n 2, 2, 0, 0, 0, 0, []) := Eq.trans rfl rfl
theorem c_Points_add_5 : c_Points_add[5]? = some (7, 1, .aload_n 1, 1, 0, 0, 0, 0, []) := Eq.trans rfl rfl
theorem c_Points_add_6 : c_Points_add[6]? = some (8, 1, .aload_n 0, 0, 0, 0, 0, 0, []) := Eq.trans rfl rfl
theorem c_Points_add_7 : c_Points_add[7]? = some (9, 3, .getfield 15, 6, 1, 0, 0, 263, []) := Eq.trans rfl rfl
theorem c_Points_add_8 : c_Points_add[8]? = some (12, 1, .iload_n 2, 2, 0, 0, 0, 0, []) := Eq.trans rfl rfl
theorem c_Points_add_9 : c_Points_add[9]? = some (13, 3, .invokevirtual 28, 82, 3, 3, 0, 643, []) := Eq.trans rfl rfl
theorem c_Points_add_10 : c_Points_add[10]? = some (16, 1, .aload_n 0, 0, 0, 0, 0, 0, []) := Eq.trans rfl rfl
theorem c_Points_add_11 : c_Points_add[11]? = some (17, 1, .iload_n 2, 2, 0, 0, 0, 0, []) := Eq.trans rfl rfl
theorem c_Points_add_12 : c_Points_add[12]? = some (18, 3, .invokevirtual 34, 84, 2, 6, 0, 651, []) := Eq.trans rfl rfl
theorem c_Points_add_13 : c_Points_add[13]? = some (21, 1, .istore_n 3, 3, 0, 0, 0, 0, []) := Eq.trans rfl rfl
theorem c_Points_add_14 : c_Points_add[14]? = some (22, 1, .iconst 0, 0, 0, 0, 0, 0, []) := Eq.trans rfl rfl
theorem c_Points_add_15 : c_Points_add[15]? = some (23, 2, .istore 4, 4, 0, 0, 0, 0, []) := Eq.trans rfl rfl
theorem c_Points_add_16 : c_Points_add[16]? = some (25, 2, .iload 4, 4, 0, 0, 0, 0, []) := Eq.trans rfl rfl
theorem c_Points_add_17 : c_Points_add[17]? = some (27, 3, .sipush 4096, 0, 0, 0, 0, 0, []) := Eq.trans rfl rfl
theorem c_Points_add_18 : c_Points_add[18]? = some (30, 3, .if_icmp .ge 44, 44, 0, 0, 0, 0, []) := Eq.trans rfl rfl
theorem c_Points_add_19 : c_Points_add[19]? = some (33, 1, .aload_n 0, 0, 0, 0, 0, 0, []) := Eq.trans rfl rfl
theorem c_Points_add_20 : c_Points_add[20]? = some (34, 1, .iload_n 3, 3, 0, 0, 0, 0, []) := Eq.trans rfl rfl
theorem c_Points_add_21 : c_Points_add[21]? = some (35, 3, .invokevirtual 38, 85, 2, 6, 0, 657, []) := Eq.trans rfl rfl
theorem c_Points_add_22 : c_Points_add[22]? = some (38, 3, .ifCond .eq 36, 44, 0, 0, 0, 0, []) := Eq.trans rfl rfl
theorem c_Points_add_23 : c_Points_add[23]? = some (41, 1, .aload_n 0, 0, 0, 0, 0, 0, []) := Eq.trans rfl rfl
theorem c_Points_add_24 : c_Points_add[24]? = some (42, 1, .aload_n 0, 0, 0, 0, 0, 0, []) := Eq.trans rfl rfl
theorem c_Points_add_25 : c_Points_add[25]? = some (43, 1, .iload_n 3, 3, 0, 0, 0, 0, []) := Eq.trans rfl rfl
theorem c_Points_add_26 : c_Points_add[26]? = some (44, 3, .invokevirtual 38, 85, 2, 6, 0, 657, []) := Eq.trans rfl rfl
theorem c_Points_add_27 : c_Points_add[27]? = some (47, 1, .iconst 1, 0, 0, 0, 0, 0, []) := Eq.trans rfl rfl
theorem c_Points_add_28 : c_Points_add[28]? = some (48, 1, .isub, 0, 0, 0, 0, 0, []) := Eq.trans rfl rfl
theorem c_Points_add_29 : c_Points_add[29]? = some (49, 1, .iconst 3, 0, 0, 0, 0, 0, []) := Eq.trans rfl rfl
theorem c_Points_add_30 : c_Points_add[30]? = some (50, 1, .imul, 0, 0, 0, 0, 0, []) := Eq.trans rfl rfl
theorem c_Points_add_31 : c_Points_add[31]? = some (51, 1, .iload_n 2, 2, 0, 0, 0, 0, []) := Eq.trans rfl rfl
theorem c_Points_add_32 : c_Points_add[32]? = some (52, 3, .invokevirtual 41, 86, 3, 6, 0, 662, []) := Eq.trans rfl rfl
theorem c_Points_add_33 : c_Points_add[33]? = some (55, 3, .ifCond .eq 5, 36, 0, 0, 0, 0, []) := Eq.trans rfl rfl
theorem c_Points_add_34 : c_Points_add[34]? = some (58, 1, .iconst (-1), 0, 0, 0, 0, 0, []) := Eq.trans rfl rfl
theorem c_Points_add_35 : c_Points_add[35]? = some (59, 1, .ireturn, 0, 0, 0, 0, 0, []) := Eq.trans rfl rfl
theorem c_Points_add_36 : c_Points_add[36]? = some (60, 1, .iload_n 3, 3, 0, 0, 0, 0, []) := Eq.trans rfl rfl
theorem c_Points_add_37 : c_Points_add[37]? = some (61, 1, .iconst 1, 0, 0, 0, 0, 0, []) := Eq.trans rfl rfl
theorem c_Points_add_38 : c_Points_add[38]? = some (62, 1, .iadd, 0, 0, 0, 0, 0, []) := Eq.trans rfl rfl
theorem c_Points_add_39 : c_Points_add[39]? = some (63, 3, .sipush 4095, 0, 0, 0, 0, 0, []) := Eq.trans rfl rfl
theorem c_Points_add_40 : c_Points_add[40]? = some (66, 1, .iand, 0, 0, 0, 0, 0, []) := Eq.trans rfl rfl
theorem c_Points_add_41 : c_Points_add[41]? = some (67, 1, .istore_n 3, 3, 0, 0, 0, 0, []) := Eq.trans rfl rfl
theorem c_Points_add_42 : c_Points_add[42]? = some (68, 3, .iinc 4 1, 0, 0, 0, 0, 0, []) := Eq.trans rfl rfl
theorem c_Points_add_43 : c_Points_add[43]? = some (71, 3, .goto (-46), 16, 0, 0, 0, 0, []) := Eq.trans rfl rfl
theorem c_Points_add_44 : c_Points_add[44]? = some (74, 1, .aload_n 0, 0, 0, 0, 0, 0, []) := Eq.trans rfl rfl
theorem c_Points_add_45 : c_Points_add[45]? = some (75, 3, .getfield 11, 6, 0, 0, 0, 261, []) := Eq.trans rfl rfl
theorem c_Points_add_46 : c_Points_add[46]? = some (78, 3, .sipush 3000, 0, 0, 0, 0, 0, []) := Eq.trans rfl rfl
theorem c_Points_add_47 : c_Points_add[47]? = some (81, 3, .if_icmp .lt 6, 50, 0, 0, 0, 0, []) := Eq.trans rfl rfl
theorem c_Points_add_48 : c_Points_add[48]? = some (84, 2, .bipush (-4), 0, 0, 0, 0, 0, []) := Eq.trans rfl rfl
theorem c_Points_add_49 : c_Points_add[49]? = some (86, 1, .ireturn, 0, 0, 0, 0, 0, []) := Eq.trans rfl rfl
theorem c_Points_add_50 : c_Points_add[50]? = some (87, 1, .aload_n 0, 0, 0, 0, 0, 0, []) := Eq.trans rfl rfl
theorem c_Points_add_51 : c_Points_add[51]? = some (88, 1, .dup, 0, 0, 0, 0, 0, []) := Eq.trans rfl rfl
theorem c_Points_add_52 : c_Points_add[52]? = some (89, 3, .getfield 11, 6, 0, 0, 0, 261, []) := Eq.trans rfl rfl
theorem c_Points_add_53 : c_Points_add[53]? = some (92, 1, .iconst 1, 0, 0, 0, 0, 0, []) := Eq.trans rfl rfl
theorem c_Points_add_54 : c_Points_add[54]? = some (93, 1, .iadd, 0, 0, 0, 0, 0, []) := Eq.trans rfl rfl
theorem c_Points_add_55 : c_Points_add[55]? = some (94, 3, .putfield 11, 6, 0, 0, 0, 261, []) := Eq.trans rfl rfl
theorem c_Points_add_56 : c_Points_add[56]? = some (97, 1, .aload_n 0, 0, 0, 0, 0, 0, []) := Eq.trans rfl rfl
theorem c_Points_add_57 : c_Points_add[57]? = some (98, 1, .iload_n 3, 3, 0, 0, 0, 0, []) := Eq.trans rfl rfl
theorem c_Points_add_58 : c_Points_add[58]? = some (99, 1, .aload_n 0, 0, 0, 0, 0, 0, []) := Eq.trans rfl rfl
theorem c_Points_add_59 : c_Points_add[59]? = some (100, 3, .getfield 11, 6, 0, 0, 0, 261, []) := Eq.trans rfl rfl
theorem c_Points_add_60 : c_Points_add[60]? = some (103, 3, .invokevirtual 45, 87, 3, 6, 0, 666, []) := Eq.trans rfl rfl
theorem c_Points_add_61 : c_Points_add[61]? = some (106, 1, .aload_n 0, 0, 0, 0, 0, 0, []) := Eq.trans rfl rfl
theorem c_Points_add_62 : c_Points_add[62]? = some (107, 3, .getfield 11, 6, 0, 0, 0, 261, []) := Eq.trans rfl rfl
theorem c_Points_add_63 : c_Points_add[63]? = some (110, 1, .iconst 1, 0, 0, 0, 0, 0, []) := Eq.trans rfl rfl
theorem c_Points_add_64 : c_Points_add[64]? = some (111, 1, .isub, 0, 0, 0, 0, 0, []) := Eq.trans rfl rfl
theorem c_Points_add_65 : c_Points_add[65]? = some (112, 1, .ireturn, 0, 0, 0, 0, 0, []) := Eq.trans rfl rfl
theorem jz_a12 {z : Int} (h1 : 0 ≤ z) (h2 : z < 2147483648) : iI z &&& iI 4095 = iI (z % 4096) := jz_and (k := 12) (by decide) h1 h2
/-- how many of the first n slots are taken -/
def nz (G : Int → Int) : Nat → Int
  | 0 => 0
  | n + 1 => nz G n + if G n = 0 then 0 else 1
theorem nz_full {G : Int → Int} : ∀ n : Nat, (∀ i : Int, 0 ≤ i ∧ i < n → G i ≠ 0) → nz G n = n := by
  intro n
  induction n with
  | zero => intro _; rfl
  | succ n ih =>
    intro h
    unfold nz
    rw [ih (fun i hi => h i (by omega)), if_neg (h n (by omega))]
    omega
theorem nz_out {G : Int → Int} {i v : Int} : ∀ n : Nat, (n : Int) ≤ i → nz (vI G i v) n = nz G n := by
  intro n
  induction n with
  | zero => intro _; rfl
  | succ n ih =>
    intro h
    unfold nz
    rw [ih (by omega), vI_miss (show (n : Int) ≠ i by omega)]
theorem nz_up {G : Int → Int} {i v : Int} (h0 : G i = 0) (hv : v ≠ 0) (hi : 0 ≤ i) : ∀ n : Nat, i < n → nz (vI G i v) n = nz G n + 1 := by
  intro n
  induction n with
  | zero => intro h; omega
  | succ n ih =>
    intro h
    unfold nz
    by_cases c : (n : Int) = i
    · rw [nz_out n (by omega), c, vI_hit, if_neg hv, if_pos h0]
      omega
    · rw [ih (by omega), vI_miss c]
      omega
def same3 (L : Int → Int) (a b : Int) : Prop := L a = L b ∧ L (a + 1) = L (b + 1) ∧ L (a + 2) = L (b + 2)
def fo (L : Int → Int) (k : Int) : Int := fsl (L (k * 3)) (L (k * 3 + 1)) (L (k * 3 + 2))
theorem fo_rg (L : Int → Int) (k : Int) : 0 ≤ fo L k ∧ fo L k ≤ 4095 := fsl_rg _ _ _
theorem fo_same {L : Int → Int} {j k : Int} (h : same3 L (j * 3) (k * 3)) : fo L j = fo L k := by
  unfold fo
  rw [h.1, h.2.1, h.2.2]
/-- the table of the POINTS: each stands behind its first slot with no free slot between -/
def po_ok (c : Int) (L G : Int → Int) : Prop := (0 ≤ c ∧ c ≤ 3000) ∧ (∀ j, 0 ≤ L j ∧ L j < 9223372036854775808) ∧ (∀ i, (0 ≤ G i ∧ G i ≤ c) ∧ (¬ (0 ≤ i ∧ i < 4096) → G i = 0)) ∧ nz G 4096 = c ∧ ∀ k : Int, 0 ≤ k ∧ k < c → ∃ n : Int, (0 ≤ n ∧ n < 4096) ∧ G ((fo L k + n) % 4096) = k + 1 ∧ ∀ m : Int, 0 ≤ m ∧ m < n → G ((fo L k + m) % 4096) ≠ 0
theorem po_ok_row {c : Int} {L L' G : Int → Int} (h : po_ok c L G) (hL : ∀ j, 0 ≤ L' j ∧ L' j < 9223372036854775808) (he : ∀ j : Int, j < c * 3 → L' j = L j) : po_ok c L' G := by
  refine ⟨h.1, hL, h.2.2.1, h.2.2.2.1, fun k hk => ?_⟩
  have e : fo L' k = fo L k := by
    unfold fo
    rw [he _ (by omega), he _ (by omega), he _ (by omega)]
  rw [e]
  exact h.2.2.2.2 k hk
/-- what has been gone past -/
def past (c : Int) (L G : Int → Int) (n : Int) : Prop := ∀ m : Int, 0 ≤ m ∧ m < n → G ((fo L c + m) % 4096) ≠ 0 ∧ ¬ same3 L ((G ((fo L c + m) % 4096) - 1) * 3) (c * 3)
theorem past_no {c : Int} {L G : Int → Int} (h : po_ok c L G) {n : Int} (hn : 0 ≤ n ∧ n < 4096) (h0 : G ((fo L c + n) % 4096) = 0) (hp : past c L G n) : ¬ ∃ k : Int, (0 ≤ k ∧ k < c) ∧ same3 L (k * 3) (c * 3) := by
  rintro ⟨k, hk, hs⟩
  obtain ⟨n', hn', e1, e2⟩ := h.2.2.2.2 k hk
  rw [fo_same hs] at e1 e2
  rcases Int.lt_trichotomy n' n with q | q | q
  · have := (hp n' ⟨hn'.1, q⟩).2
    rw [e1, show k + 1 - 1 = k by omega] at this
    exact this hs
  · rw [q, h0] at e1
    omega
  · exact e2 n ⟨hn.1, q⟩ h0
theorem past_all {c : Int} {L G : Int → Int} (h : po_ok c L G) (hp : past c L G 4096) : False := by
  have f := fo_rg L c
  have e := nz_full (G := G) 4096 (fun i hi => by
    have a := (hp ((i - fo L c) % 4096) (by omega)).1
    rw [show (fo L c + (i - fo L c) % 4096) % 4096 = i by omega] at a
    exact a)
  have e2 := h.2.2.2.1
  have e3 := h.1
  omega
theorem po_ok_new {c : Int} {L G : Int → Int} (h : po_ok c L G) (hc : c < 3000) {n : Int} (hn : 0 ≤ n ∧ n < 4096) (h0 : G ((fo L c + n) % 4096) = 0) (hp : past c L G n) : po_ok (c + 1) L (vI G ((fo L c + n) % 4096) (c + 1)) := by
  have f := fo_rg L c
  have e3 := h.1
  refine ⟨by omega, h.2.1, fun i => ?_, ?_, fun k hk => ?_⟩
  · have a := h.2.2.1 i
    by_cases e : i = (fo L c + n) % 4096
    · rw [e, vI_hit]
      omega
    · rw [vI_miss e]
      exact ⟨by omega, a.2⟩
  · rw [nz_up h0 (by omega) (by omega) 4096 (by omega), h.2.2.2.1]
  · by_cases e : k = c
    · refine ⟨n, hn, ?_, fun m hm => ?_⟩
      · rw [e, vI_hit]
      · rw [e]
        have a := (hp m hm).1
        by_cases e : (fo L c + m) % 4096 = (fo L c + n) % 4096
        · rw [e] at a
          exact absurd h0 a
        · rw [vI_miss e]
          exact a
    · obtain ⟨n', hn', e1, e2⟩ := h.2.2.2.2 k (by omega)
      refine ⟨n', hn', ?_, fun m hm => ?_⟩
      · rw [vI_miss (fun z => by rw [z, h0] at e1; omega)]
        exact e1
      · have a := e2 m hm
        rw [vI_miss (fun z => by rw [z, h0] at a; exact a rfl)]
        exact a
set_option maxHeartbeats 8000000 in
theorem lp_add (d : Nat) (hd : 1 ≤ d) (h : am_H) (u p : Nat) (c : Int) (L G : Int → Int) (H : po_at h u c L G) (hk : po_ok c L G) (Q : Option Value → am_H → Prop)
    (q1 : (∃ k : Int, (0 ≤ k ∧ k < c) ∧ same3 L (k * 3) (c * 3)) → Q (some (.int (iI (-1)))) h)
    (q2 : ∀ n : Int, 0 ≤ n ∧ n < 4096 → G ((fo L c + n) % 4096) = 0 → past c L G n → am_Go am_df am_MT d c_Points_add (44, [(3, .int (iI ((fo L c + n) % 4096))), (0, .ref u)], [], h) Q) : ∀ (k : Nat) (n : Int), 0 ≤ n → n + k = 4096 → past c L G n → am_Go am_df am_MT d c_Points_add (16, [(4, .int (iI n)), (3, .int (iI ((fo L c + n) % 4096))), (2, .int (iI (c * 3))), (0, .ref u), (1, .ref p)], [], h) Q := by
  have H' := H
  obtain ⟨h0, hO, hL, hS⟩ := H'
  have hf := fo_rg L c
  have hc := hk.1
  have hG := fun i => (hk.2.2.1 i).1
  have hG3 : ∀ i, 0 ≤ G i ∧ G i ≤ 3000 := fun i => by
    have := hG i
    omega
  intro k
  induction k with
  | zero =>
    intro n h1 h2 hp
    have e : n = 4096 := by omega
    rw [e] at hp
    exact (past_all hk hp).elim
  | succ k ih =>
    intro n h1 h2 hp
    have c1 : ¬ (4096 : Int) ≤ n := by omega
    have hs : 0 ≤ (fo L c + n) % 4096 ∧ (fo L c + n) % 4096 < 4096 := by omega
    have es : ((fo L c + n) % 4096 + 1) % 4096 = (fo L c + (n + 1)) % 4096 := by omega
    have q2n := q2 n ⟨h1, by omega⟩
    have ihn := ih (n + 1) (by omega) (by omega)
    have pn : G ((fo L c + n) % 4096) ≠ 0 → ¬ same3 L ((G ((fo L c + n) % 4096) - 1) * 3) (c * 3) → past c L G (n + 1) := fun z1 z2 m hm => by
      by_cases e : m = n
      · rw [e]
        exact ⟨z1, z2⟩
      · exact hp m (by omega)
    clear ih q2
    rw [← es] at ihn
    generalize (fo L c + n) % 4096 = s at *
    clear es
    have g := hG s
    refine am_go_of 10 [9, 12, 16, 21, 26, 32, 60] _ c_Points_add_16 ?_
    simp (maxSteps := 2000000) (disch := omega) only [c_Points_add_0, c_Points_add_1, c_Points_add_2, c_Points_add_3, c_Points_add_4, c_Points_add_5, c_Points_add_6, c_Points_add_7, c_Points_add_8, c_Points_add_9, c_Points_add_10, c_Points_add_11, c_Points_add_12, c_Points_add_13, c_Points_add_14, c_Points_add_15, c_Points_add_16, c_Points_add_17, c_Points_add_18, c_Points_add_19, c_Points_add_20, c_Points_add_21, c_Points_add_22, c_Points_add_23, c_Points_add_24, c_Points_add_25, c_Points_add_26, c_Points_add_27, c_Points_add_28, c_Points_add_29, c_Points_add_30, c_Points_add_31, c_Points_add_32, c_Points_add_33, c_Points_add_34, c_Points_add_35, c_Points_add_36, c_Points_add_37, c_Points_add_38, c_Points_add_39, c_Points_add_40, c_Points_add_41, c_Points_add_42, c_Points_add_43, c_Points_add_44, c_Points_add_45, c_Points_add_46, c_Points_add_47, c_Points_add_48, c_Points_add_49, c_Points_add_50, c_Points_add_51, c_Points_add_52, c_Points_add_53, c_Points_add_54, c_Points_add_55, c_Points_add_56, c_Points_add_57, c_Points_add_58, c_Points_add_59, c_Points_add_60, c_Points_add_61, c_Points_add_62, c_Points_add_63, c_Points_add_64, c_Points_add_65, sx_aload_n, sx_bipush, sx_dup_i, sx_dup_r, sx_getfield, sx_goto, sx_iadd, sx_iand, sx_iconst, sx_ifCond_eq, sx_if_icmp_ge, sx_if_icmp_lt, sx_iinc, sx_iload, sx_iload_n, sx_imul, sx_ireturn, sx_istore, sx_istore_n, sx_isub, sx_putfield, sx_sipush, sx_zreturn, am_W_s, am_W_0, am_mm_some, List.mem_cons, or_false, false_or, or_self, or_true, true_or, reduceIte, if_false, if_true, am_o_some, am_o_none, am_o_bad, am_o_good, am_ldi_hit, am_ldi_miss, am_lda_hit, am_lda_miss, am_ldl_hit, am_ldl_miss, am_inc_eq, am_inc_hit, am_inc_miss, am_ob_hit, am_fd_0, am_fd_s, am_ai_hit, am_ab_3, am_al_hit, am_aq_4, am_al0_hit, am_put_1, am_put_2, am_put_put, am_up_hit, am_up_miss, am_s1_eq, am_s2_eq, am_fl_nil, am_fl_hit, am_fl_int, am_fl_ref, am_fl_long, am_fl_longx, am_fl2_nil, am_fl2_hit, am_fl2_hit1, am_fl2_int, am_fl2_ref, am_fl2_long, List.not_mem_nil, not_false_eq_true, ne_eq, Nat.reduceAdd, Nat.reduceEqDiff, Nat.zero_add, Nat.add_left_cancel_iff, List.set_cons_zero, List.set_cons_succ, List.length_cons, List.length_nil, Nat.reduceLT, am_ft_i, am_ft_r, am_ft_z, and_true, true_and, Option.toList_some, Option.toList_none, List.cons_append, List.nil_append, List.drop_succ_cons, List.drop_zero, iI_c, iI_b, iI_s, iI_n, iI_add, iI_sub, iI_mul, iI_neg, iI_nle, iI_ix, iI_eq0, iI_eq1, iI_lt0, iI_0lt, iI_le0, iI_0le, iI_eq, iI_lt, iI_le, iI_upd, iI_updZ, Int.reduceEq, Int.reduceLT, Int.reduceLE, Int.reduceNeg, Int.reduceNe, c1, po_fs_len, po_f0, po_f1, po_f2, po_s0, rw_hit]
    refine am_go_call c_Points_add_21 (by decide) (by decide) (by first | (simp [am_can, am_kd, Value.category, hO]; done) | (simp [am_can, am_kd, am_b, am_c, Value.category, hO]; done) | (simp (disch := omega) [am_can, am_kd, am_b, am_c, Value.category, am_put_1, am_up_hit, am_up_miss, hO]; done)) ?_
    refine (ct_slotAt d hd h u c L G H hG3 s hs).mono (fun r9 h4 hr9 => ?_)
    obtain ⟨rfl, rfl⟩ := hr9
    by_cases cz : G s = 0
    · have gg := q2n cz hp
      clear ihn q2n q1 pn
      refine am_go_of 10 [9, 12, 16, 21, 26, 32, 44, 60] _ c_Points_add_22 ?_
      simp (maxSteps := 2000000) (disch := omega) only [c_Points_add_0, c_Points_add_1, c_Points_add_2, c_Points_add_3, c_Points_add_4, c_Points_add_5, c_Points_add_6, c_Points_add_7, c_Points_add_8, c_Points_add_9, c_Points_add_10, c_Points_add_11, c_Points_add_12, c_Points_add_13, c_Points_add_14, c_Points_add_15, c_Points_add_16, c_Points_add_17, c_Points_add_18, c_Points_add_19, c_Points_add_20, c_Points_add_21, c_Points_add_22, c_Points_add_23, c_Points_add_24, c_Points_add_25, c_Points_add_26, c_Points_add_27, c_Points_add_28, c_Points_add_29, c_Points_add_30, c_Points_add_31, c_Points_add_32, c_Points_add_33, c_Points_add_34, c_Points_add_35, c_Points_add_36, c_Points_add_37, c_Points_add_38, c_Points_add_39, c_Points_add_40, c_Points_add_41, c_Points_add_42, c_Points_add_43, c_Points_add_44, c_Points_add_45, c_Points_add_46, c_Points_add_47, c_Points_add_48, c_Points_add_49, c_Points_add_50, c_Points_add_51, c_Points_add_52, c_Points_add_53, c_Points_add_54, c_Points_add_55, c_Points_add_56, c_Points_add_57, c_Points_add_58, c_Points_add_59, c_Points_add_60, c_Points_add_61, c_Points_add_62, c_Points_add_63, c_Points_add_64, c_Points_add_65, sx_aload_n, sx_bipush, sx_dup_i, sx_dup_r, sx_getfield, sx_goto, sx_iadd, sx_iand, sx_iconst, sx_ifCond_eq, sx_if_icmp_ge, sx_if_icmp_lt, sx_iinc, sx_iload, sx_iload_n, sx_imul, sx_ireturn, sx_istore, sx_istore_n, sx_isub, sx_putfield, sx_sipush, sx_zreturn, am_W_s, am_W_0, am_mm_some, List.mem_cons, or_false, false_or, or_self, or_true, true_or, reduceIte, if_false, if_true, am_o_some, am_o_none, am_o_bad, am_o_good, am_ldi_hit, am_ldi_miss, am_lda_hit, am_lda_miss, am_ldl_hit, am_ldl_miss, am_inc_eq, am_inc_hit, am_inc_miss, am_ob_hit, am_fd_0, am_fd_s, am_ai_hit, am_ab_3, am_al_hit, am_aq_4, am_al0_hit, am_put_1, am_put_2, am_put_put, am_up_hit, am_up_miss, am_s1_eq, am_s2_eq, am_fl_nil, am_fl_hit, am_fl_int, am_fl_ref, am_fl_long, am_fl_longx, am_fl2_nil, am_fl2_hit, am_fl2_hit1, am_fl2_int, am_fl2_ref, am_fl2_long, List.not_mem_nil, not_false_eq_true, ne_eq, Nat.reduceAdd, Nat.reduceEqDiff, Nat.zero_add, Nat.add_left_cancel_iff, List.set_cons_zero, List.set_cons_succ, List.length_cons, List.length_nil, Nat.reduceLT, am_ft_i, am_ft_r, am_ft_z, and_true, true_and, Option.toList_some, Option.toList_none, List.cons_append, List.nil_append, List.drop_succ_cons, List.drop_zero, iI_c, iI_b, iI_s, iI_n, iI_add, iI_sub, iI_mul, iI_neg, iI_nle, iI_ix, iI_eq0, iI_eq1, iI_lt0, iI_0lt, iI_le0, iI_0le, iI_eq, iI_lt, iI_le, iI_upd, iI_updZ, Int.reduceEq, Int.reduceLT, Int.reduceLE, Int.reduceNeg, Int.reduceNe, cz, po_fs_len, po_f0, po_f1, po_f2, po_s0, rw_hit]
      exact gg.lo (al_le_of (by simp) (by simp))
    · refine am_go_of 10 [9, 12, 16, 21, 26, 32, 44, 60] _ c_Points_add_22 ?_
      simp (maxSteps := 2000000) (disch := omega) only [c_Points_add_0, c_Points_add_1, c_Points_add_2, c_Points_add_3, c_Points_add_4, c_Points_add_5, c_Points_add_6, c_Points_add_7, c_Points_add_8, c_Points_add_9, c_Points_add_10, c_Points_add_11, c_Points_add_12, c_Points_add_13, c_Points_add_14, c_Points_add_15, c_Points_add_16, c_Points_add_17, c_Points_add_18, c_Points_add_19, c_Points_add_20, c_Points_add_21, c_Points_add_22, c_Points_add_23, c_Points_add_24, c_Points_add_25, c_Points_add_26, c_Points_add_27, c_Points_add_28, c_Points_add_29, c_Points_add_30, c_Points_add_31, c_Points_add_32, c_Points_add_33, c_Points_add_34, c_Points_add_35, c_Points_add_36, c_Points_add_37, c_Points_add_38, c_Points_add_39, c_Points_add_40, c_Points_add_41, c_Points_add_42, c_Points_add_43, c_Points_add_44, c_Points_add_45, c_Points_add_46, c_Points_add_47, c_Points_add_48, c_Points_add_49, c_Points_add_50, c_Points_add_51, c_Points_add_52, c_Points_add_53, c_Points_add_54, c_Points_add_55, c_Points_add_56, c_Points_add_57, c_Points_add_58, c_Points_add_59, c_Points_add_60, c_Points_add_61, c_Points_add_62, c_Points_add_63, c_Points_add_64, c_Points_add_65, sx_aload_n, sx_bipush, sx_dup_i, sx_dup_r, sx_getfield, sx_goto, sx_iadd, sx_iand, sx_iconst, sx_ifCond_eq, sx_if_icmp_ge, sx_if_icmp_lt, sx_iinc, sx_iload, sx_iload_n, sx_imul, sx_ireturn, sx_istore, sx_istore_n, sx_isub, sx_putfield, sx_sipush, sx_zreturn, am_W_s, am_W_0, am_mm_some, List.mem_cons, or_false, false_or, or_self, or_true, true_or, reduceIte, if_false, if_true, am_o_some, am_o_none, am_o_bad, am_o_good, am_ldi_hit, am_ldi_miss, am_lda_hit, am_lda_miss, am_ldl_hit, am_ldl_miss, am_inc_eq, am_inc_hit, am_inc_miss, am_ob_hit, am_fd_0, am_fd_s, am_ai_hit, am_ab_3, am_al_hit, am_aq_4, am_al0_hit, am_put_1, am_put_2, am_put_put, am_up_hit, am_up_miss, am_s1_eq, am_s2_eq, am_fl_nil, am_fl_hit, am_fl_int, am_fl_ref, am_fl_long, am_fl_longx, am_fl2_nil, am_fl2_hit, am_fl2_hit1, am_fl2_int, am_fl2_ref, am_fl2_long, List.not_mem_nil, not_false_eq_true, ne_eq, Nat.reduceAdd, Nat.reduceEqDiff, Nat.zero_add, Nat.add_left_cancel_iff, List.set_cons_zero, List.set_cons_succ, List.length_cons, List.length_nil, Nat.reduceLT, am_ft_i, am_ft_r, am_ft_z, and_true, true_and, Option.toList_some, Option.toList_none, List.cons_append, List.nil_append, List.drop_succ_cons, List.drop_zero, iI_c, iI_b, iI_s, iI_n, iI_add, iI_sub, iI_mul, iI_neg, iI_nle, iI_ix, iI_eq0, iI_eq1, iI_lt0, iI_0lt, iI_le0, iI_0le, iI_eq, iI_lt, iI_le, iI_upd, iI_updZ, Int.reduceEq, Int.reduceLT, Int.reduceLE, Int.reduceNeg, Int.reduceNe, cz, po_fs_len, po_f0, po_f1, po_f2, po_s0, rw_hit]
      refine am_go_call c_Points_add_26 (by decide) (by decide) (by first | (simp [am_can, am_kd, Value.category, hO]; done) | (simp [am_can, am_kd, am_b, am_c, Value.category, hO]; done) | (simp (disch := omega) [am_can, am_kd, am_b, am_c, Value.category, am_put_1, am_up_hit, am_up_miss, hO]; done)) ?_
      refine (ct_slotAt d hd h4 u c L G H hG3 s hs).mono (fun r9 h5 hr9 => ?_)
      obtain ⟨rfl, rfl⟩ := hr9
      refine am_go_of 10 [9, 12, 16, 21, 26, 32, 60] _ c_Points_add_27 ?_
      simp (maxSteps := 2000000) (disch := omega) only [c_Points_add_0, c_Points_add_1, c_Points_add_2, c_Points_add_3, c_Points_add_4, c_Points_add_5, c_Points_add_6, c_Points_add_7, c_Points_add_8, c_Points_add_9, c_Points_add_10, c_Points_add_11, c_Points_add_12, c_Points_add_13, c_Points_add_14, c_Points_add_15, c_Points_add_16, c_Points_add_17, c_Points_add_18, c_Points_add_19, c_Points_add_20, c_Points_add_21, c_Points_add_22, c_Points_add_23, c_Points_add_24, c_Points_add_25, c_Points_add_26, c_Points_add_27, c_Points_add_28, c_Points_add_29, c_Points_add_30, c_Points_add_31, c_Points_add_32, c_Points_add_33, c_Points_add_34, c_Points_add_35, c_Points_add_36, c_Points_add_37, c_Points_add_38, c_Points_add_39, c_Points_add_40, c_Points_add_41, c_Points_add_42, c_Points_add_43, c_Points_add_44, c_Points_add_45, c_Points_add_46, c_Points_add_47, c_Points_add_48, c_Points_add_49, c_Points_add_50, c_Points_add_51, c_Points_add_52, c_Points_add_53, c_Points_add_54, c_Points_add_55, c_Points_add_56, c_Points_add_57, c_Points_add_58, c_Points_add_59, c_Points_add_60, c_Points_add_61, c_Points_add_62, c_Points_add_63, c_Points_add_64, c_Points_add_65, sx_aload_n, sx_bipush, sx_dup_i, sx_dup_r, sx_getfield, sx_goto, sx_iadd, sx_iand, sx_iconst, sx_ifCond_eq, sx_if_icmp_ge, sx_if_icmp_lt, sx_iinc, sx_iload, sx_iload_n, sx_imul, sx_ireturn, sx_istore, sx_istore_n, sx_isub, sx_putfield, sx_sipush, sx_zreturn, am_W_s, am_W_0, am_mm_some, List.mem_cons, or_false, false_or, or_self, or_true, true_or, reduceIte, if_false, if_true, am_o_some, am_o_none, am_o_bad, am_o_good, am_ldi_hit, am_ldi_miss, am_lda_hit, am_lda_miss, am_ldl_hit, am_ldl_miss, am_inc_eq, am_inc_hit, am_inc_miss, am_ob_hit, am_fd_0, am_fd_s, am_ai_hit, am_ab_3, am_al_hit, am_aq_4, am_al0_hit, am_put_1, am_put_2, am_put_put, am_up_hit, am_up_miss, am_s1_eq, am_s2_eq, am_fl_nil, am_fl_hit, am_fl_int, am_fl_ref, am_fl_long, am_fl_longx, am_fl2_nil, am_fl2_hit, am_fl2_hit1, am_fl2_int, am_fl2_ref, am_fl2_long, List.not_mem_nil, not_false_eq_true, ne_eq, Nat.reduceAdd, Nat.reduceEqDiff, Nat.zero_add, Nat.add_left_cancel_iff, List.set_cons_zero, List.set_cons_succ, List.length_cons, List.length_nil, Nat.reduceLT, am_ft_i, am_ft_r, am_ft_z, and_true, true_and, Option.toList_some, Option.toList_none, List.cons_append, List.nil_append, List.drop_succ_cons, List.drop_zero, iI_c, iI_b, iI_s, iI_n, iI_add, iI_sub, iI_mul, iI_neg, iI_nle, iI_ix, iI_eq0, iI_eq1, iI_lt0, iI_0lt, iI_le0, iI_0le, iI_eq, iI_lt, iI_le, iI_upd, iI_updZ, Int.reduceEq, Int.reduceLT, Int.reduceLE, Int.reduceNeg, Int.reduceNe, po_fs_len, po_f0, po_f1, po_f2, po_s0, rw_hit]
      refine am_go_call c_Points_add_32 (by decide) (by decide) (by first | (simp [am_can, am_kd, Value.category, hO]; done) | (simp [am_can, am_kd, am_b, am_c, Value.category, hO]; done) | (simp (disch := omega) [am_can, am_kd, am_b, am_c, Value.category, am_put_1, am_up_hit, am_up_miss, hO]; done)) ?_
      refine (ct_isSame d hd h5 u c L G H hk.2.1 ((G s - 1) * 3) (c * 3) ⟨by omega, by omega⟩ ⟨by omega, by omega⟩).mono (fun r9 h6 hr9 => ?_)
      obtain ⟨rfl, rfl⟩ := hr9
      by_cases cs : same3 L ((G s - 1) * 3) (c * 3)
      · have gq := q1 ⟨G s - 1, ⟨by omega, by omega⟩, cs⟩
        clear ihn q2n q1 pn
        unfold same3 at cs
        rw [if_pos cs]
        refine am_go_of 10 [9, 12, 16, 21, 26, 32, 60] _ c_Points_add_33 ?_
        simp (maxSteps := 2000000) (disch := omega) only [c_Points_add_0, c_Points_add_1, c_Points_add_2, c_Points_add_3, c_Points_add_4, c_Points_add_5, c_Points_add_6, c_Points_add_7, c_Points_add_8, c_Points_add_9, c_Points_add_10, c_Points_add_11, c_Points_add_12, c_Points_add_13, c_Points_add_14, c_Points_add_15, c_Points_add_16, c_Points_add_17, c_Points_add_18, c_Points_add_19, c_Points_add_20, c_Points_add_21, c_Points_add_22, c_Points_add_23, c_Points_add_24, c_Points_add_25, c_Points_add_26, c_Points_add_27, c_Points_add_28, c_Points_add_29, c_Points_add_30, c_Points_add_31, c_Points_add_32, c_Points_add_33, c_Points_add_34, c_Points_add_35, c_Points_add_36, c_Points_add_37, c_Points_add_38, c_Points_add_39, c_Points_add_40, c_Points_add_41, c_Points_add_42, c_Points_add_43, c_Points_add_44, c_Points_add_45, c_Points_add_46, c_Points_add_47, c_Points_add_48, c_Points_add_49, c_Points_add_50, c_Points_add_51, c_Points_add_52, c_Points_add_53, c_Points_add_54, c_Points_add_55, c_Points_add_56, c_Points_add_57, c_Points_add_58, c_Points_add_59, c_Points_add_60, c_Points_add_61, c_Points_add_62, c_Points_add_63, c_Points_add_64, c_Points_add_65, sx_aload_n, sx_bipush, sx_dup_i, sx_dup_r, sx_getfield, sx_goto, sx_iadd, sx_iand, sx_iconst, sx_ifCond_eq, sx_if_icmp_ge, sx_if_icmp_lt, sx_iinc, sx_iload, sx_iload_n, sx_imul, sx_ireturn, sx_istore, sx_istore_n, sx_isub, sx_putfield, sx_sipush, sx_zreturn, am_W_s, am_W_0, am_mm_some, List.mem_cons, or_false, false_or, or_self, or_true, true_or, reduceIte, if_false, if_true, am_o_some, am_o_none, am_o_bad, am_o_good, am_ldi_hit, am_ldi_miss, am_lda_hit, am_lda_miss, am_ldl_hit, am_ldl_miss, am_inc_eq, am_inc_hit, am_inc_miss, am_ob_hit, am_fd_0, am_fd_s, am_ai_hit, am_ab_3, am_al_hit, am_aq_4, am_al0_hit, am_put_1, am_put_2, am_put_put, am_up_hit, am_up_miss, am_s1_eq, am_s2_eq, am_fl_nil, am_fl_hit, am_fl_int, am_fl_ref, am_fl_long, am_fl_longx, am_fl2_nil, am_fl2_hit, am_fl2_hit1, am_fl2_int, am_fl2_ref, am_fl2_long, List.not_mem_nil, not_false_eq_true, ne_eq, Nat.reduceAdd, Nat.reduceEqDiff, Nat.zero_add, Nat.add_left_cancel_iff, List.set_cons_zero, List.set_cons_succ, List.length_cons, List.length_nil, Nat.reduceLT, am_ft_i, am_ft_r, am_ft_z, and_true, true_and, Option.toList_some, Option.toList_none, List.cons_append, List.nil_append, List.drop_succ_cons, List.drop_zero, iI_c, iI_b, iI_s, iI_n, iI_add, iI_sub, iI_mul, iI_neg, iI_nle, iI_ix, iI_eq0, iI_eq1, iI_lt0, iI_0lt, iI_le0, iI_0le, iI_eq, iI_lt, iI_le, iI_upd, iI_updZ, Int.reduceEq, Int.reduceLT, Int.reduceLE, Int.reduceNeg, Int.reduceNe, po_fs_len, po_f0, po_f1, po_f2, po_s0, rw_hit]
        exact gq
      · have gg := ihn (pn cz cs)
        clear ihn q2n q1 pn
        unfold same3 at cs
        rw [if_neg cs]
        refine am_go_of 20 [9, 12, 16, 21, 26, 32, 60] _ c_Points_add_33 ?_
        simp (maxSteps := 2000000) (disch := omega) only [c_Points_add_0, c_Points_add_1, c_Points_add_2, c_Points_add_3, c_Points_add_4, c_Points_add_5, c_Points_add_6, c_Points_add_7, c_Points_add_8, c_Points_add_9, c_Points_add_10, c_Points_add_11, c_Points_add_12, c_Points_add_13, c_Points_add_14, c_Points_add_15, c_Points_add_16, c_Points_add_17, c_Points_add_18, c_Points_add_19, c_Points_add_20, c_Points_add_21, c_Points_add_22, c_Points_add_23, c_Points_add_24, c_Points_add_25, c_Points_add_26, c_Points_add_27, c_Points_add_28, c_Points_add_29, c_Points_add_30, c_Points_add_31, c_Points_add_32, c_Points_add_33, c_Points_add_34, c_Points_add_35, c_Points_add_36, c_Points_add_37, c_Points_add_38, c_Points_add_39, c_Points_add_40, c_Points_add_41, c_Points_add_42, c_Points_add_43, c_Points_add_44, c_Points_add_45, c_Points_add_46, c_Points_add_47, c_Points_add_48, c_Points_add_49, c_Points_add_50, c_Points_add_51, c_Points_add_52, c_Points_add_53, c_Points_add_54, c_Points_add_55, c_Points_add_56, c_Points_add_57, c_Points_add_58, c_Points_add_59, c_Points_add_60, c_Points_add_61, c_Points_add_62, c_Points_add_63, c_Points_add_64, c_Points_add_65, sx_aload_n, sx_bipush, sx_dup_i, sx_dup_r, sx_getfield, sx_goto, sx_iadd, sx_iand, sx_iconst, sx_ifCond_eq, sx_if_icmp_ge, sx_if_icmp_lt, sx_iinc, sx_iload, sx_iload_n, sx_imul, sx_ireturn, sx_istore, sx_istore_n, sx_isub, sx_putfield, sx_sipush, sx_zreturn, am_W_s, am_W_0, am_mm_some, List.mem_cons, or_false, false_or, or_self, or_true, true_or, reduceIte, if_false, if_true, am_o_some, am_o_none, am_o_bad, am_o_good, am_ldi_hit, am_ldi_miss, am_lda_hit, am_lda_miss, am_ldl_hit, am_ldl_miss, am_inc_eq, am_inc_hit, am_inc_miss, am_ob_hit, am_fd_0, am_fd_s, am_ai_hit, am_ab_3, am_al_hit, am_aq_4, am_al0_hit, am_put_1, am_put_2, am_put_put, am_up_hit, am_up_miss, am_s1_eq, am_s2_eq, am_fl_nil, am_fl_hit, am_fl_int, am_fl_ref, am_fl_long, am_fl_longx, am_fl2_nil, am_fl2_hit, am_fl2_hit1, am_fl2_int, am_fl2_ref, am_fl2_long, List.not_mem_nil, not_false_eq_true, ne_eq, Nat.reduceAdd, Nat.reduceEqDiff, Nat.zero_add, Nat.add_left_cancel_iff, List.set_cons_zero, List.set_cons_succ, List.length_cons, List.length_nil, Nat.reduceLT, am_ft_i, am_ft_r, am_ft_z, and_true, true_and, Option.toList_some, Option.toList_none, List.cons_append, List.nil_append, List.drop_succ_cons, List.drop_zero, iI_c, iI_b, iI_s, iI_n, iI_add, iI_sub, iI_mul, iI_neg, iI_nle, iI_ix, iI_eq0, iI_eq1, iI_lt0, iI_0lt, iI_le0, iI_0le, iI_eq, iI_lt, iI_le, iI_upd, iI_updZ, Int.reduceEq, Int.reduceLT, Int.reduceLE, Int.reduceNeg, Int.reduceNe, jz_a12, po_fs_len, po_f0, po_f1, po_f2, po_s0, rw_hit]
        exact gg.lo (al_le_of (by simp) (by simp))
def po_q (h : am_H) (u : Nat) (c : Int) (L G : Int → Int) (r0 : Option Value) (h' : am_H) : Prop :=
  ((∃ k : Int, (0 ≤ k ∧ k < c) ∧ same3 L (k * 3) (c * 3)) ∧ r0 = some (.int (iI (-1))) ∧ h' = h) ∨
  ((¬ ∃ k : Int, (0 ≤ k ∧ k < c) ∧ same3 L (k * 3) (c * 3)) ∧ c = 3000 ∧ r0 = some (.int (iI (-4))) ∧ h' = h) ∨
  ((¬ ∃ k : Int, (0 ≤ k ∧ k < c) ∧ same3 L (k * 3) (c * 3)) ∧ c < 3000 ∧ r0 = some (.int (iI c)) ∧ ∃ G', po_at h' u (c + 1) L G' ∧ po_ok (c + 1) L G' ∧ (∀ a, (a < u ∨ u + 2 < a) → h'.1 a = h.1 a) ∧ h'.2 = h.2)
set_option maxHeartbeats 8000000 in
theorem add_tail (d : Nat) (hd : 1 ≤ d) (h : am_H) (u p : Nat) (c : Int) (L G : Int → Int) (H : po_at h u c L G) (hk : po_ok c L G) : am_Go am_df am_MT d c_Points_add (10, [(2, .int (iI (c * 3))), (0, .ref u), (1, .ref p)], [], h) (po_q h u c L G) := by
  have H' := H
  obtain ⟨h0, hO, hL, hS⟩ := H'
  have hf := fo_rg L c
  have hc := hk.1
  have hG := fun i => (hk.2.2.1 i).1
  have hG3 : ∀ i, 0 ≤ G i ∧ G i ≤ 3000 := fun i => by
    have := hG i
    omega
  refine am_go_of 10 [9, 12, 16, 21, 26, 32, 60] _ c_Points_add_10 ?_
  simp (maxSteps := 2000000) (disch := omega) only [c_Points_add_0, c_Points_add_1, c_Points_add_2, c_Points_add_3, c_Points_add_4, c_Points_add_5, c_Points_add_6, c_Points_add_7, c_Points_add_8, c_Points_add_9, c_Points_add_10, c_Points_add_11, c_Points_add_12, c_Points_add_13, c_Points_add_14, c_Points_add_15, c_Points_add_16, c_Points_add_17, c_Points_add_18, c_Points_add_19, c_Points_add_20, c_Points_add_21, c_Points_add_22, c_Points_add_23, c_Points_add_24, c_Points_add_25, c_Points_add_26, c_Points_add_27, c_Points_add_28, c_Points_add_29, c_Points_add_30, c_Points_add_31, c_Points_add_32, c_Points_add_33, c_Points_add_34, c_Points_add_35, c_Points_add_36, c_Points_add_37, c_Points_add_38, c_Points_add_39, c_Points_add_40, c_Points_add_41, c_Points_add_42, c_Points_add_43, c_Points_add_44, c_Points_add_45, c_Points_add_46, c_Points_add_47, c_Points_add_48, c_Points_add_49, c_Points_add_50, c_Points_add_51, c_Points_add_52, c_Points_add_53, c_Points_add_54, c_Points_add_55, c_Points_add_56, c_Points_add_57, c_Points_add_58, c_Points_add_59, c_Points_add_60, c_Points_add_61, c_Points_add_62, c_Points_add_63, c_Points_add_64, c_Points_add_65, sx_aload_n, sx_bipush, sx_dup_i, sx_dup_r, sx_getfield, sx_goto, sx_iadd, sx_iand, sx_iconst, sx_ifCond_eq, sx_if_icmp_ge, sx_if_icmp_lt, sx_iinc, sx_iload, sx_iload_n, sx_imul, sx_ireturn, sx_istore, sx_istore_n, sx_isub, sx_putfield, sx_sipush, sx_zreturn, am_W_s, am_W_0, am_mm_some, List.mem_cons, or_false, false_or, or_self, or_true, true_or, reduceIte, if_false, if_true, am_o_some, am_o_none, am_o_bad, am_o_good, am_ldi_hit, am_ldi_miss, am_lda_hit, am_lda_miss, am_ldl_hit, am_ldl_miss, am_inc_eq, am_inc_hit, am_inc_miss, am_ob_hit, am_fd_0, am_fd_s, am_ai_hit, am_ab_3, am_al_hit, am_aq_4, am_al0_hit, am_put_1, am_put_2, am_put_put, am_up_hit, am_up_miss, am_s1_eq, am_s2_eq, am_fl_nil, am_fl_hit, am_fl_int, am_fl_ref, am_fl_long, am_fl_longx, am_fl2_nil, am_fl2_hit, am_fl2_hit1, am_fl2_int, am_fl2_ref, am_fl2_long, List.not_mem_nil, not_false_eq_true, ne_eq, Nat.reduceAdd, Nat.reduceEqDiff, Nat.zero_add, Nat.add_left_cancel_iff, List.set_cons_zero, List.set_cons_succ, List.length_cons, List.length_nil, Nat.reduceLT, am_ft_i, am_ft_r, am_ft_z, and_true, true_and, Option.toList_some, Option.toList_none, List.cons_append, List.nil_append, List.drop_succ_cons, List.drop_zero, iI_c, iI_b, iI_s, iI_n, iI_add, iI_sub, iI_mul, iI_neg, iI_nle, iI_ix, iI_eq0, iI_eq1, iI_lt0, iI_0lt, iI_le0, iI_0le, iI_eq, iI_lt, iI_le, iI_upd, iI_updZ, Int.reduceEq, Int.reduceLT, Int.reduceLE, Int.reduceNeg, Int.reduceNe, po_fs_len, po_f0, po_f1, po_f2, po_s0, rw_hit]
  refine am_go_call c_Points_add_12 (by decide) (by decide) (by first | (simp [am_can, am_kd, Value.category, hO]; done) | (simp [am_can, am_kd, am_b, am_c, Value.category, hO]; done) | (simp (disch := omega) [am_can, am_kd, am_b, am_c, Value.category, am_put_1, am_up_hit, am_up_miss, hO]; done)) ?_
  refine (ct_firstSlot d hd h u c L G H (c * 3) ⟨by omega, by omega⟩).mono (fun r9 h4 hr9 => ?_)
  obtain ⟨rfl, rfl⟩ := hr9
  have ef : fsl (L (c * 3)) (L (c * 3 + 1)) (L (c * 3 + 2)) = (fo L c + 0) % 4096 := by
    show fo L c = _
    omega
  rw [ef]
  have g := lp_add d hd h4 u p c L G H hk (po_q h4 u c L G) (fun z => Or.inl ⟨z, rfl, rfl⟩) (fun n hn hz hp => by
    have no := past_no hk hn hz hp
    have nw := fun z => po_ok_new hk z hn hz hp
    have hs : 0 ≤ (fo L c + n) % 4096 ∧ (fo L c + n) % 4096 < 4096 := by omega
    generalize (fo L c + n) % 4096 = s at *
    clear hp
    by_cases c3 : c < 3000
    · have H2 : po_at (am_put h4 u (.inr (6, po_fs u (c + 1)))) u (c + 1) L G := ⟨h0, am_up_hit, (am_up_miss (by omega)).trans hL, (am_up_miss (by omega)).trans hS⟩
      have hO2 := H2.2.1
      refine am_go_of 20 [9, 12, 16, 21, 26, 32, 60] _ c_Points_add_44 ?_
      simp (maxSteps := 2000000) (disch := omega) only [c_Points_add_0, c_Points_add_1, c_Points_add_2, c_Points_add_3, c_Points_add_4, c_Points_add_5, c_Points_add_6, c_Points_add_7, c_Points_add_8, c_Points_add_9, c_Points_add_10, c_Points_add_11, c_Points_add_12, c_Points_add_13, c_Points_add_14, c_Points_add_15, c_Points_add_16, c_Points_add_17, c_Points_add_18, c_Points_add_19, c_Points_add_20, c_Points_add_21, c_Points_add_22, c_Points_add_23, c_Points_add_24, c_Points_add_25, c_Points_add_26, c_Points_add_27, c_Points_add_28, c_Points_add_29, c_Points_add_30, c_Points_add_31, c_Points_add_32, c_Points_add_33, c_Points_add_34, c_Points_add_35, c_Points_add_36, c_Points_add_37, c_Points_add_38, c_Points_add_39, c_Points_add_40, c_Points_add_41, c_Points_add_42, c_Points_add_43, c_Points_add_44, c_Points_add_45, c_Points_add_46, c_Points_add_47, c_Points_add_48, c_Points_add_49, c_Points_add_50, c_Points_add_51, c_Points_add_52, c_Points_add_53, c_Points_add_54, c_Points_add_55, c_Points_add_56, c_Points_add_57, c_Points_add_58, c_Points_add_59, c_Points_add_60, c_Points_add_61, c_Points_add_62, c_Points_add_63, c_Points_add_64, c_Points_add_65, sx_aload_n, sx_bipush, sx_dup_i, sx_dup_r, sx_getfield, sx_goto, sx_iadd, sx_iand, sx_iconst, sx_ifCond_eq, sx_if_icmp_ge, sx_if_icmp_lt, sx_iinc, sx_iload, sx_iload_n, sx_imul, sx_ireturn, sx_istore, sx_istore_n, sx_isub, sx_putfield, sx_sipush, sx_zreturn, am_W_s, am_W_0, am_mm_some, List.mem_cons, or_false, false_or, or_self, or_true, true_or, reduceIte, if_false, if_true, am_o_some, am_o_none, am_o_bad, am_o_good, am_ldi_hit, am_ldi_miss, am_lda_hit, am_lda_miss, am_ldl_hit, am_ldl_miss, am_inc_eq, am_inc_hit, am_inc_miss, am_ob_hit, am_fd_0, am_fd_s, am_ai_hit, am_ab_3, am_al_hit, am_aq_4, am_al0_hit, am_put_1, am_put_2, am_put_put, am_up_hit, am_up_miss, am_s1_eq, am_s2_eq, am_fl_nil, am_fl_hit, am_fl_int, am_fl_ref, am_fl_long, am_fl_longx, am_fl2_nil, am_fl2_hit, am_fl2_hit1, am_fl2_int, am_fl2_ref, am_fl2_long, List.not_mem_nil, not_false_eq_true, ne_eq, Nat.reduceAdd, Nat.reduceEqDiff, Nat.zero_add, Nat.add_left_cancel_iff, List.set_cons_zero, List.set_cons_succ, List.length_cons, List.length_nil, Nat.reduceLT, am_ft_i, am_ft_r, am_ft_z, and_true, true_and, Option.toList_some, Option.toList_none, List.cons_append, List.nil_append, List.drop_succ_cons, List.drop_zero, iI_c, iI_b, iI_s, iI_n, iI_add, iI_sub, iI_mul, iI_neg, iI_nle, iI_ix, iI_eq0, iI_eq1, iI_lt0, iI_0lt, iI_le0, iI_0le, iI_eq, iI_lt, iI_le, iI_upd, iI_updZ, Int.reduceEq, Int.reduceLT, Int.reduceLE, Int.reduceNeg, Int.reduceNe, hO, c3, po_fs_len, po_f0, po_f1, po_f2, po_s0, rw_hit]
      refine am_go_call c_Points_add_60 (by decide) (by decide) (by first | (simp [am_can, am_kd, Value.category, hO2, hO]; done) | (simp [am_can, am_kd, am_b, am_c, Value.category, hO2, hO]; done) | (simp (disch := omega) [am_can, am_kd, am_b, am_c, Value.category, am_put_1, am_up_hit, am_up_miss, hO2, hO]; done)) ?_
      refine (ct_fillSlot d hd _ u (c + 1) L G H2 hG3 s (c + 1) hs hz ⟨by omega, by omega⟩).mono (fun r9 h5 hr9 => ?_)
      obtain ⟨rfl, rfl⟩ := hr9
      have gq : po_q h4 u c L G (some (.int (iI c))) (am_put (am_put h4 u (.inr (6, po_fs u (c + 1)))) (u + 2) (.inl (1, 1024, .inr (.inl (fun j : Nat => bz (sl4 (vI G s (c + 1)) j)))))) := by
        refine Or.inr (Or.inr ⟨no, c3, rfl, _, ⟨h0, ?_, ?_, ?_⟩, nw c3, fun a ha => ?_, rfl⟩)
        · rw [am_put_1, am_up_miss (by omega), am_put_1, am_up_hit]
        · rw [am_put_1, am_up_miss (by omega), am_put_1, am_up_miss (by omega)]
          exact hL
        · rw [am_put_1, am_up_hit]
        · rw [am_put_1, am_up_miss (by omega), am_put_1, am_up_miss (by omega)]
      have e1 : c + 1 - 1 = c := by omega
      clear nw H2 hO2
      refine am_go_of 20 [9, 12, 16, 21, 26, 32, 60] _ c_Points_add_61 ?_
      simp (maxSteps := 2000000) (disch := omega) only [c_Points_add_0, c_Points_add_1, c_Points_add_2, c_Points_add_3, c_Points_add_4, c_Points_add_5, c_Points_add_6, c_Points_add_7, c_Points_add_8, c_Points_add_9, c_Points_add_10, c_Points_add_11, c_Points_add_12, c_Points_add_13, c_Points_add_14, c_Points_add_15, c_Points_add_16, c_Points_add_17, c_Points_add_18, c_Points_add_19, c_Points_add_20, c_Points_add_21, c_Points_add_22, c_Points_add_23, c_Points_add_24, c_Points_add_25, c_Points_add_26, c_Points_add_27, c_Points_add_28, c_Points_add_29, c_Points_add_30, c_Points_add_31, c_Points_add_32, c_Points_add_33, c_Points_add_34, c_Points_add_35, c_Points_add_36, c_Points_add_37, c_Points_add_38, c_Points_add_39, c_Points_add_40, c_Points_add_41, c_Points_add_42, c_Points_add_43, c_Points_add_44, c_Points_add_45, c_Points_add_46, c_Points_add_47, c_Points_add_48, c_Points_add_49, c_Points_add_50, c_Points_add_51, c_Points_add_52, c_Points_add_53, c_Points_add_54, c_Points_add_55, c_Points_add_56, c_Points_add_57, c_Points_add_58, c_Points_add_59, c_Points_add_60, c_Points_add_61, c_Points_add_62, c_Points_add_63, c_Points_add_64, c_Points_add_65, sx_aload_n, sx_bipush, sx_dup_i, sx_dup_r, sx_getfield, sx_goto, sx_iadd, sx_iand, sx_iconst, sx_ifCond_eq, sx_if_icmp_ge, sx_if_icmp_lt, sx_iinc, sx_iload, sx_iload_n, sx_imul, sx_ireturn, sx_istore, sx_istore_n, sx_isub, sx_putfield, sx_sipush, sx_zreturn, am_W_s, am_W_0, am_mm_some, List.mem_cons, or_false, false_or, or_self, or_true, true_or, reduceIte, if_false, if_true, am_o_some, am_o_none, am_o_bad, am_o_good, am_ldi_hit, am_ldi_miss, am_lda_hit, am_lda_miss, am_ldl_hit, am_ldl_miss, am_inc_eq, am_inc_hit, am_inc_miss, am_ob_hit, am_fd_0, am_fd_s, am_ai_hit, am_ab_3, am_al_hit, am_aq_4, am_al0_hit, am_put_1, am_put_2, am_put_put, am_up_hit, am_up_miss, am_s1_eq, am_s2_eq, am_fl_nil, am_fl_hit, am_fl_int, am_fl_ref, am_fl_long, am_fl_longx, am_fl2_nil, am_fl2_hit, am_fl2_hit1, am_fl2_int, am_fl2_ref, am_fl2_long, List.not_mem_nil, not_false_eq_true, ne_eq, Nat.reduceAdd, Nat.reduceEqDiff, Nat.zero_add, Nat.add_left_cancel_iff, List.set_cons_zero, List.set_cons_succ, List.length_cons, List.length_nil, Nat.reduceLT, am_ft_i, am_ft_r, am_ft_z, and_true, true_and, Option.toList_some, Option.toList_none, List.cons_append, List.nil_append, List.drop_succ_cons, List.drop_zero, iI_c, iI_b, iI_s, iI_n, iI_add, iI_sub, iI_mul, iI_neg, iI_nle, iI_ix, iI_eq0, iI_eq1, iI_lt0, iI_0lt, iI_le0, iI_0le, iI_eq, iI_lt, iI_le, iI_upd, iI_updZ, Int.reduceEq, Int.reduceLT, Int.reduceLE, Int.reduceNeg, Int.reduceNe, hO, e1, po_fs_len, po_f0, po_f1, po_f2, po_s0, rw_hit]
      exact gq
    · have gq : po_q h4 u c L G (some (.int (iI (-4)))) h4 := Or.inr (Or.inl ⟨no, by omega, rfl, rfl⟩)
      clear nw
      refine am_go_of 20 [9, 12, 16, 21, 26, 32, 60] _ c_Points_add_44 ?_
      simp (maxSteps := 2000000) (disch := omega) only [c_Points_add_0, c_Points_add_1, c_Points_add_2, c_Points_add_3, c_Points_add_4, c_Points_add_5, c_Points_add_6, c_Points_add_7, c_Points_add_8, c_Points_add_9, c_Points_add_10, c_Points_add_11, c_Points_add_12, c_Points_add_13, c_Points_add_14, c_Points_add_15, c_Points_add_16, c_Points_add_17, c_Points_add_18, c_Points_add_19, c_Points_add_20, c_Points_add_21, c_Points_add_22, c_Points_add_23, c_Points_add_24, c_Points_add_25, c_Points_add_26, c_Points_add_27, c_Points_add_28, c_Points_add_29, c_Points_add_30, c_Points_add_31, c_Points_add_32, c_Points_add_33, c_Points_add_34, c_Points_add_35, c_Points_add_36, c_Points_add_37, c_Points_add_38, c_Points_add_39, c_Points_add_40, c_Points_add_41, c_Points_add_42, c_Points_add_43, c_Points_add_44, c_Points_add_45, c_Points_add_46, c_Points_add_47, c_Points_add_48, c_Points_add_49, c_Points_add_50, c_Points_add_51, c_Points_add_52, c_Points_add_53, c_Points_add_54, c_Points_add_55, c_Points_add_56, c_Points_add_57, c_Points_add_58, c_Points_add_59, c_Points_add_60, c_Points_add_61, c_Points_add_62, c_Points_add_63, c_Points_add_64, c_Points_add_65, sx_aload_n, sx_bipush, sx_dup_i, sx_dup_r, sx_getfield, sx_goto, sx_iadd, sx_iand, sx_iconst, sx_ifCond_eq, sx_if_icmp_ge, sx_if_icmp_lt, sx_iinc, sx_iload, sx_iload_n, sx_imul, sx_ireturn, sx_istore, sx_istore_n, sx_isub, sx_putfield, sx_sipush, sx_zreturn, am_W_s, am_W_0, am_mm_some, List.mem_cons, or_false, false_or, or_self, or_true, true_or, reduceIte, if_false, if_true, am_o_some, am_o_none, am_o_bad, am_o_good, am_ldi_hit, am_ldi_miss, am_lda_hit, am_lda_miss, am_ldl_hit, am_ldl_miss, am_inc_eq, am_inc_hit, am_inc_miss, am_ob_hit, am_fd_0, am_fd_s, am_ai_hit, am_ab_3, am_al_hit, am_aq_4, am_al0_hit, am_put_1, am_put_2, am_put_put, am_up_hit, am_up_miss, am_s1_eq, am_s2_eq, am_fl_nil, am_fl_hit, am_fl_int, am_fl_ref, am_fl_long, am_fl_longx, am_fl2_nil, am_fl2_hit, am_fl2_hit1, am_fl2_int, am_fl2_ref, am_fl2_long, List.not_mem_nil, not_false_eq_true, ne_eq, Nat.reduceAdd, Nat.reduceEqDiff, Nat.zero_add, Nat.add_left_cancel_iff, List.set_cons_zero, List.set_cons_succ, List.length_cons, List.length_nil, Nat.reduceLT, am_ft_i, am_ft_r, am_ft_z, and_true, true_and, Option.toList_some, Option.toList_none, List.cons_append, List.nil_append, List.drop_succ_cons, List.drop_zero, iI_c, iI_b, iI_s, iI_n, iI_add, iI_sub, iI_mul, iI_neg, iI_nle, iI_ix, iI_eq0, iI_eq1, iI_lt0, iI_0lt, iI_le0, iI_0le, iI_eq, iI_lt, iI_le, iI_upd, iI_updZ, Int.reduceEq, Int.reduceLT, Int.reduceLE, Int.reduceNeg, Int.reduceNe, hO, c3, po_fs_len, po_f0, po_f1, po_f2, po_s0, rw_hit]
      exact gq) 4096 0 (Int.le_refl _) (by decide) (fun m hm => by omega)
  generalize (fo L c + 0) % 4096 = s at *
  refine am_go_of 10 [9, 12, 16, 21, 26, 32, 60] _ c_Points_add_13 ?_
  simp (maxSteps := 2000000) (disch := omega) only [c_Points_add_0, c_Points_add_1, c_Points_add_2, c_Points_add_3, c_Points_add_4, c_Points_add_5, c_Points_add_6, c_Points_add_7, c_Points_add_8, c_Points_add_9, c_Points_add_10, c_Points_add_11, c_Points_add_12, c_Points_add_13, c_Points_add_14, c_Points_add_15, c_Points_add_16, c_Points_add_17, c_Points_add_18, c_Points_add_19, c_Points_add_20, c_Points_add_21, c_Points_add_22, c_Points_add_23, c_Points_add_24, c_Points_add_25, c_Points_add_26, c_Points_add_27, c_Points_add_28, c_Points_add_29, c_Points_add_30, c_Points_add_31, c_Points_add_32, c_Points_add_33, c_Points_add_34, c_Points_add_35, c_Points_add_36, c_Points_add_37, c_Points_add_38, c_Points_add_39, c_Points_add_40, c_Points_add_41, c_Points_add_42, c_Points_add_43, c_Points_add_44, c_Points_add_45, c_Points_add_46, c_Points_add_47, c_Points_add_48, c_Points_add_49, c_Points_add_50, c_Points_add_51, c_Points_add_52, c_Points_add_53, c_Points_add_54, c_Points_add_55, c_Points_add_56, c_Points_add_57, c_Points_add_58, c_Points_add_59, c_Points_add_60, c_Points_add_61, c_Points_add_62, c_Points_add_63, c_Points_add_64, c_Points_add_65, sx_aload_n, sx_bipush, sx_dup_i, sx_dup_r, sx_getfield, sx_goto, sx_iadd, sx_iand, sx_iconst, sx_ifCond_eq, sx_if_icmp_ge, sx_if_icmp_lt, sx_iinc, sx_iload, sx_iload_n, sx_imul, sx_ireturn, sx_istore, sx_istore_n, sx_isub, sx_putfield, sx_sipush, sx_zreturn, am_W_s, am_W_0, am_mm_some, List.mem_cons, or_false, false_or, or_self, or_true, true_or, reduceIte, if_false, if_true, am_o_some, am_o_none, am_o_bad, am_o_good, am_ldi_hit, am_ldi_miss, am_lda_hit, am_lda_miss, am_ldl_hit, am_ldl_miss, am_inc_eq, am_inc_hit, am_inc_miss, am_ob_hit, am_fd_0, am_fd_s, am_ai_hit, am_ab_3, am_al_hit, am_aq_4, am_al0_hit, am_put_1, am_put_2, am_put_put, am_up_hit, am_up_miss, am_s1_eq, am_s2_eq, am_fl_nil, am_fl_hit, am_fl_int, am_fl_ref, am_fl_long, am_fl_longx, am_fl2_nil, am_fl2_hit, am_fl2_hit1, am_fl2_int, am_fl2_ref, am_fl2_long, List.not_mem_nil, not_false_eq_true, ne_eq, Nat.reduceAdd, Nat.reduceEqDiff, Nat.zero_add, Nat.add_left_cancel_iff, List.set_cons_zero, List.set_cons_succ, List.length_cons, List.length_nil, Nat.reduceLT, am_ft_i, am_ft_r, am_ft_z, and_true, true_and, Option.toList_some, Option.toList_none, List.cons_append, List.nil_append, List.drop_succ_cons, List.drop_zero, iI_c, iI_b, iI_s, iI_n, iI_add, iI_sub, iI_mul, iI_neg, iI_nle, iI_ix, iI_eq0, iI_eq1, iI_lt0, iI_0lt, iI_le0, iI_0le, iI_eq, iI_lt, iI_le, iI_upd, iI_updZ, Int.reduceEq, Int.reduceLT, Int.reduceLE, Int.reduceNeg, Int.reduceNe, po_fs_len, po_f0, po_f1, po_f2, po_s0, rw_hit]
  exact g.lo (al_le_of (by simp) (by simp))
set_option maxHeartbeats 8000000 in
theorem ct_padd (d : Nat) (hd : 3 ≤ d) (h : am_H) (p q w : Nat) (n m : Int) (X : Nat → Int → Int) (S : Int → Int → Int) (H : ru_at h p q w n m X S) (hx : ∀ t : Int, 0 ≤ t ∧ t < 6 → tr_ok X t) (hh : ∀ t : Int, 0 ≤ t ∧ t < 3 → hr_ok X t) (u : Nat) (hu : u + 2 < p ∨ p + 15 < u) (c : Int) (L G : Int → Int) (U : po_at h u c L G) (hk : po_ok c L G) : am_Ct am_df am_MT d 81 [.ref u, .ref p] h (fun r0 h' => ∃ L' h1, L' = vI (vI (vI L (c * 3) (t3 X 0)) (c * 3 + 1) (t3 X 3)) (c * 3 + 2) (h3 X) ∧ po_at h1 u c L' G ∧ po_ok c L' G ∧ ((∀ a, a ≠ u + 1 → h1.1 a = h.1 a) ∧ h1.2 = h.2) ∧ po_q h1 u c L' G r0 h') := by
  have U' := U
  obtain ⟨u0, uO, uL, uS⟩ := U'
  have hO := H.2.1
  have hc := hk.1
  have r0 := t3_rg (hx 0 (by decide)) (hx (0 + 1) (by decide)) (hx (0 + 2) (by decide))
  have r1 := t3_rg (hx 3 (by decide)) (hx (3 + 1) (by decide)) (hx (3 + 2) (by decide))
  have r2 : 0 ≤ h3 X ∧ h3 X < 9223372036854775808 := by
    have b0 := hc2_rg (hh 0 (by decide))
    have b1 := hc2_rg (hh 1 (by decide))
    have b2 := hc2_rg (hh 2 (by decide))
    unfold h3
    omega
  have hL : ∀ j, 0 ≤ vI (vI (vI L (c * 3) (t3 X 0)) (c * 3 + 1) (t3 X 3)) (c * 3 + 2) (h3 X) j ∧ vI (vI (vI L (c * 3) (t3 X 0)) (c * 3 + 1) (t3 X 3)) (c * 3 + 2) (h3 X) j < 9223372036854775808 := fun j => by
    have a := hk.2.1 j
    unfold vI
    repeat' split
    all_goals assumption
  have hE : ∀ j : Int, j < c * 3 → vI (vI (vI L (c * 3) (t3 X 0)) (c * 3 + 1) (t3 X 3)) (c * 3 + 2) (h3 X) j = L j := fun j hj => by
    rw [vI_miss (by omega), vI_miss (by omega), vI_miss (by omega)]
  have hk1 := po_ok_row hk hL hE
  clear hL hE
  obtain ⟨d, rfl⟩ : ∃ e, d = e + 1 := ⟨d - 1, by omega⟩
  refine am_ct_of2 mt_Points_add (Nat.le_of_ble_eq_true rfl) ?_
  simp only [ar_nil, ar_int, ar_ref, ar_long, Nat.reduceAdd]
  refine am_go_of 10 [9, 12, 16, 21, 26, 32, 60] _ c_Points_add_0 ?_
  simp (maxSteps := 2000000) (disch := omega) only [c_Points_add_0, c_Points_add_1, c_Points_add_2, c_Points_add_3, c_Points_add_4, c_Points_add_5, c_Points_add_6, c_Points_add_7, c_Points_add_8, c_Points_add_9, c_Points_add_10, c_Points_add_11, c_Points_add_12, c_Points_add_13, c_Points_add_14, c_Points_add_15, c_Points_add_16, c_Points_add_17, c_Points_add_18, c_Points_add_19, c_Points_add_20, c_Points_add_21, c_Points_add_22, c_Points_add_23, c_Points_add_24, c_Points_add_25, c_Points_add_26, c_Points_add_27, c_Points_add_28, c_Points_add_29, c_Points_add_30, c_Points_add_31, c_Points_add_32, c_Points_add_33, c_Points_add_34, c_Points_add_35, c_Points_add_36, c_Points_add_37, c_Points_add_38, c_Points_add_39, c_Points_add_40, c_Points_add_41, c_Points_add_42, c_Points_add_43, c_Points_add_44, c_Points_add_45, c_Points_add_46, c_Points_add_47, c_Points_add_48, c_Points_add_49, c_Points_add_50, c_Points_add_51, c_Points_add_52, c_Points_add_53, c_Points_add_54, c_Points_add_55, c_Points_add_56, c_Points_add_57, c_Points_add_58, c_Points_add_59, c_Points_add_60, c_Points_add_61, c_Points_add_62, c_Points_add_63, c_Points_add_64, c_Points_add_65, sx_aload_n, sx_bipush, sx_dup_i, sx_dup_r, sx_getfield, sx_goto, sx_iadd, sx_iand, sx_iconst, sx_ifCond_eq, sx_if_icmp_ge, sx_if_icmp_lt, sx_iinc, sx_iload, sx_iload_n, sx_imul, sx_ireturn, sx_istore, sx_istore_n, sx_isub, sx_putfield, sx_sipush, sx_zreturn, am_W_s, am_W_0, am_mm_some, List.mem_cons, or_false, false_or, or_self, or_true, true_or, reduceIte, if_false, if_true, am_o_some, am_o_none, am_o_bad, am_o_good, am_ldi_hit, am_ldi_miss, am_lda_hit, am_lda_miss, am_ldl_hit, am_ldl_miss, am_inc_eq, am_inc_hit, am_inc_miss, am_ob_hit, am_fd_0, am_fd_s, am_ai_hit, am_ab_3, am_al_hit, am_aq_4, am_al0_hit, am_put_1, am_put_2, am_put_put, am_up_hit, am_up_miss, am_s1_eq, am_s2_eq, am_fl_nil, am_fl_hit, am_fl_int, am_fl_ref, am_fl_long, am_fl_longx, am_fl2_nil, am_fl2_hit, am_fl2_hit1, am_fl2_int, am_fl2_ref, am_fl2_long, List.not_mem_nil, not_false_eq_true, ne_eq, Nat.reduceAdd, Nat.reduceEqDiff, Nat.zero_add, Nat.add_left_cancel_iff, List.set_cons_zero, List.set_cons_succ, List.length_cons, List.length_nil, Nat.reduceLT, am_ft_i, am_ft_r, am_ft_z, and_true, true_and, Option.toList_some, Option.toList_none, List.cons_append, List.nil_append, List.drop_succ_cons, List.drop_zero, iI_c, iI_b, iI_s, iI_n, iI_add, iI_sub, iI_mul, iI_neg, iI_nle, iI_ix, iI_eq0, iI_eq1, iI_lt0, iI_0lt, iI_le0, iI_0le, iI_eq, iI_lt, iI_le, iI_upd, iI_updZ, Int.reduceEq, Int.reduceLT, Int.reduceLE, Int.reduceNeg, Int.reduceNe, uO, po_fs_len, po_f0, po_f1, po_f2, po_s0, rw_hit]
  refine am_go_call c_Points_add_9 (by decide) (by decide) (by first | (simp [am_can, am_kd, Value.category, hO]; done) | (simp [am_can, am_kd, am_b, am_c, Value.category, hO]; done) | (simp (disch := omega) [am_can, am_kd, am_b, am_c, Value.category, am_put_1, am_up_hit, am_up_miss, hO]; done)) ?_
  refine (ct_pack d (by omega) h p q w n m X S H hx hh (u + 1) (by omega) (by omega) 9003 L uL (c * 3) ⟨by omega, by omega⟩ (by decide)).mono (fun r9 h1 hr9 => ?_)
  obtain ⟨rfl, e1⟩ := hr9
  generalize hL' : vI (vI (vI L (c * 3) (t3 X 0)) (c * 3 + 1) (t3 X 3)) (c * 3 + 2) (h3 X) = L' at *
  have fr : ∀ a, a ≠ u + 1 → h1.1 a = h.1 a := fun a ha => by
    rw [e1, am_put_1, am_up_miss ha]
  have H1 : po_at h1 u c L' G := ⟨u0, (fr _ (by omega)).trans uO, by rw [e1, am_put_1, am_up_hit], (fr _ (by omega)).trans uS⟩
  have e2 : h1.2 = h.2 := by rw [e1]; rfl
  have g := (add_tail d (by omega) h1 u p c L' G H1 hk1).mono (fun r h' z => (⟨L', h1, rfl, H1, hk1, ⟨fr, e2⟩, z⟩ : ∃ L'' h1, L'' = L' ∧ po_at h1 u c L'' G ∧ po_ok c L'' G ∧ ((∀ a, a ≠ u + 1 → h1.1 a = h.1 a) ∧ h1.2 = h.2) ∧ po_q h1 u c L'' G r h'))
  exact g.lo (al_le_of (by simp) (by simp))
