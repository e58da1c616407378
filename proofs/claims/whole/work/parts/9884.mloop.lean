/-- what stays of a search, whatever comes of it -/
def ms_rs (I : Nat → Int) (F : Nat → Int → Int) (r0 : rn) (J : Nat → Int) (G : Nat → Int → Int) : Prop := (∀ k : Nat, k ≠ 6 → k ≠ 7 → J k = va_up I 3 0 k) ∧ sf F G ∧ (∃ r, G 13 = vec r ∧ ox r0 r) ∧ ∀ k : Int, 0 ≤ k ∧ k < 66 → G 19 k = vec r0 k
theorem ms_pt.rs {I : Nat → Int} {F : Nat → Int → Int} {r0 : rn} {J : Nat → Int} {G : Nat → Int → Int} {A : sst} (H : ms_pt I F r0 J G A) (hA : s_iv I F r0 A) (hn : 1 ≤ a_n A) : ms_rs I F r0 J G := by
  refine ⟨H.1, H.2.2.1, H.2.2.2.1, fun k hk => ?_⟩
  have e := H.2.2.2.2.2.1 0 k (by omega) hk
  rw [show 66 * 0 + k = k by omega, hA.2.2.1 hn] at e
  exact e
/-- a POINT that was kept: from 28 on -/
theorem se_new (d : Nat) (hd : 7 ≤ d) (h0 h : am_H) (o : Nat) (I : Nat → Int) (F : Nat → Int → Int) (hr : md_rg I F) (h5 : ∀ t : Int, 0 ≤ t ∧ t < 6 → F 5 t = 0 ∨ F 5 t = 1) (r0 : rn) (A : sst) (hA : s_iv I F r0 A) (J : Nat → Int) (G : Nat → Int → Int) (T : md_to h0 o J G h) (M : ms_pt I F r0 J G A) (p : Int) (hp : 0 ≤ p ∧ p < a_n A) (e22 : G 22 p = 0) (e20 : G 20 p = s_hd (a_sk A)) (hsk : ms_tr G (a_sk A)) (hne : ∀ e, e ∈ a_sk A → e.1 ≠ p) (han : ¬ an1 I F (a_pt A p) 3 = 1) (Q : Option Value → am_H → Prop)
    (hc : ∀ A' h' J' G', s_out I F A p = some A' → md_to h0 o J' G' h' → ms_pt I F r0 J' G' A' → ms_tr G' (a_sk A') → am_Go am_df am_MT d c_Md_searches (28, [(2, .int (iI 1)), (1, .int (iI (s_hd (a_sk A')))), (0, .ref o)], [], h') Q)
    (hn : s_out I F A p = none → ∀ h' G', md_to h0 o J G' h' → ms_pt I F r0 J G' A → am_Go am_df am_MT d c_Md_searches (28, [(2, .int (iI 0)), (1, .int (iI (s_hd (a_sk A)))), (0, .ref o)], [], h') Q) : am_Go am_df am_MT d c_Md_searches (28, [(2, .int (iI 1)), (1, .int (iI p)), (0, .ref o)], [], h) Q := by
  have hI := hr.1
  have n := hA.1
  have iv := hA.2.2.2.1 p hp
  have nx := nxh_sp (I := I) (F := F) (r := a_pt A p) hI.2.2.2 3 0 (by decide) (by decide)
  have an0 : an1 I F (a_pt A p) 3 = 0 := by
    rcases an1_01 (I := I) (F := F) (r := a_pt A p) 3 with z | z
    · exact z
    · exact absurd z han
  have nn : I 1 ≤ nxh I F (a_pt A p) 3 0 := by
    by_cases c : nxh I F (a_pt A p) 3 0 < I 1
    · have z1 := nx.2.1 c
      have z2 := an1_0 3 an0 (nxh I F (a_pt A p) 3 0) (by omega)
      omega
    · omega
  -- from 45 back to the POINT before, with a behind it
  have bk : ∀ (a : Int) (J' : Nat → Int) (G' : Nat → Int → Int) (h' : am_H) (A' : sst), md_to h0 o J' G' h' → ms_pt I F r0 J' G' A' → G' 13 = vec (a_pt A p) → (∀ k : Nat, 19 ≤ k → k ≤ 24 → G' k = G k) → (∀ h2 G2, md_to h0 o J' G2 h2 → ms_pt I F r0 J' G2 A' → ms_tr G2 (a_sk A) → am_Go am_df am_MT d c_Md_searches (28, [(2, .int (iI a)), (1, .int (iI (s_hd (a_sk A)))), (0, .ref o)], [], h2) Q) → am_Go am_df am_MT d c_Md_searches (45, [(1, .int (iI p)), (2, .int (iI a)), (0, .ref o)], [], h') Q := by
    intro a J' G' h' A' T' M' v' k' hq
    obtain ⟨j0, j1, j3⟩ := ms_j M'
    have g22 : G' 22 p = 0 := by
      rw [k' 22 (by decide) (by decide)]
      exact e22
    have T0 : md_to h0 o J' (va_up G' 22 (vI (G' 22) p 0)) h' := by
      rw [← g22, vI_same, va_up_same rfl]
      exact T'
    refine lp_tr d (by omega) h0 o I F hr J' j0 j1 G' M'.2.2.1 (a_pt A p) iv.1 v' p a ⟨hp.1, by omega⟩ (nxh I F (a_pt A p) 3 0) Q (fun h2 T2 => ?_) 3 0 h' (Int.le_refl _) (by decide) (by decide) rfl T0
    have e2 : va_up G' 22 (vI (G' 22) p (nxh I F (a_pt A p) 3 0)) 20 p = s_hd (a_sk A) := by
      rw [va_up_miss (by decide), k' 20 (by decide) (by decide)]
      exact e20
    have M2 : ms_pt I F r0 J' (va_up G' 22 (vI (G' 22) p (nxh I F (a_pt A p) 3 0))) A' := M'.cg (fun k k1 k2 k3 => va_up_miss k3) (M'.2.2.1.up (Or.inl (by decide))) ((va_up_miss (by decide)).trans v') iv.2.1
    have tr2 : ms_tr (va_up G' 22 (vI (G' 22) p (nxh I F (a_pt A p) 3 0))) (a_sk A) := ms_tr_congr (G := G) (a_sk A) (fun e he => by
      rw [va_up_hit, va_up_miss (by decide), vI_miss (hne e he), k' 22 (by decide) (by decide), k' 20 (by decide) (by decide)]
      exact ⟨rfl, rfl⟩) hsk
    have g := hq h2 _ T2 M2 tr2
    rw [← e2] at g
    refine se_pop d h2 o J' _ T2.1 p (nxh I F (a_pt A p) 3 0) a ⟨hp.1, by omega⟩ ?_ (by omega) (by omega) Q g
    rw [va_up_hit, vI_hit]
  refine se_v0 d hd h0 h o I F hr h5 r0 A hA J G T M p hp e22 han Q (fun A' h' J' G' eo T' M' v' k' => ?_) (fun eo h' G' T' M' v' k' => ?_)
  · have q := s_out_iv hA hp eo
    refine bk 1 J' G' h' A' T' M' v' k' (fun h2 G2 T2 M2 t2 => ?_)
    have g := hc A' h2 J' G2 eo T2 M2 (by rw [q.2.2]; exact t2)
    rw [q.2.2] at g
    exact g
  · exact bk 0 J G' h' A T' M' v' k' (fun h2 G2 T2 M2 t2 => hn eo h2 G2 T2 M2)
set_option maxHeartbeats 8000000 in
/-- from 68 on: a STEP of THREAD th from the POINT on top -/
theorem se_go (d : Nat) (hd : 7 ≤ d) (h0 h : am_H) (o : Nat) (I : Nat → Int) (F : Nat → Int → Int) (hr : md_rg I F) (hw : md_wf I F) (h5 : ∀ t : Int, 0 ≤ t ∧ t < 6 → F 5 t = 0 ∨ F 5 t = 1) (r0 : rn) (A : sst) (hA : s_iv I F r0 A) (J : Nat → Int) (G : Nat → Int → Int) (T : md_to h0 o J G h) (M : ms_pt I F r0 J G A) (p t th : Int) (rest : List (Int × Int)) (hsk : a_sk A = (p, t) :: rest) (e13 : G 13 = vec (a_pt A p)) (e22 : G 22 p = th) (e20 : G 20 p = s_hd rest) (htr : ms_tr G rest) (hth : 0 ≤ th ∧ th < I 1) (hv1h : hv1 F (a_pt A p) th = 1) (Q : Option Value → am_H → Prop)
    (hc : ∀ A' h' J' G', s_come I F (s_stk A ((p, th + 1) :: rest)) (sq_steps F (a_pt A p) th).1 (a_ln A p + 1) (vI (a_wa A p) (a_ln A p) th) = some A' → md_to h0 o J' G' h' → ms_pt I F r0 J' G' A' → ms_tr G' (a_sk A') → am_Go am_df am_MT d c_Md_searches (28, [(2, .int (iI 1)), (1, .int (iI (s_hd (a_sk A')))), (0, .ref o)], [], h') Q)
    (hn : s_come I F (s_stk A ((p, th + 1) :: rest)) (sq_steps F (a_pt A p) th).1 (a_ln A p + 1) (vI (a_wa A p) (a_ln A p) th) = none → ∀ h' J' G', md_to h0 o J' G' h' → ms_rs I F r0 J' G' → Q (some (.int (iI 0))) h') : am_Go am_df am_MT d c_Md_searches (68, [(1, .int (iI p)), (2, .int (iI 1)), (0, .ref o)], [], h) Q := by
  have hI := hr.1
  have n := hA.1
  have ch := hA.2.2.2.2.2
  rw [hsk] at ch
  obtain ⟨c1, c2, c3, c4, c5, c6⟩ := ch
  have c1' : 0 ≤ p ∧ p < a_n A := c1
  have lt := s_ch_lt rest c6
  have neq : ∀ e, e ∈ rest → e.1 ≠ p := fun e he z => by
    have a := (lt e he).2
    have b : a_ln A p = rest.length := c4
    rw [z] at a
    omega
  have iv := hA.2.2.2.1 p c1'
  obtain ⟨j0, j1, j3⟩ := ms_j M
  have hen := (hv_one hv1h ⟨hth.1, by omega⟩).1
  have st := st_steps hr hw iv.1 hth hen
  have oxs := iv.2.1.tr (ox_steps (F := F) (r := a_pt A p) (th := th) (by omega))
  obtain ⟨m0, hO, hA0⟩ := T.1
  have a22 := hA0 22 (by decide) (by decide)
  have l1 : th < J 1 := by omega
  have T1 := T.row (k := 22) (t := 0) (n := 3000) (g := vI (G 22) p (th + 1)) (by decide) rfl rfl
  have s1 : sf F (va_up G 22 (vI (G 22) p (th + 1))) := M.2.2.1.up (Or.inl (by decide))
  have v1 : va_up G 22 (vI (G 22) p (th + 1)) 13 = vec (a_pt A p) := (va_up_miss (by decide)).trans e13
  have k1 : ∀ k : Nat, k ≠ 22 → va_up G 22 (vI (G 22) p (th + 1)) k = G k := fun k hk => va_up_miss hk
  have u1 : va_up G 22 (vI (G 22) p (th + 1)) 22 = vI (G 22) p (th + 1) := va_up_hit
  generalize va_up G 22 (vI (G 22) p (th + 1)) = G1 at *
  have hO1 := T1.1.2.1
  obtain ⟨d', rfl⟩ : ∃ e, d = e + 1 := ⟨d - 1, by omega⟩
  have CS := ct_stepsI d' (by omega) _ o J G1 (a_pt A p) T1.1 v1 (s1.rg hr j0 j1) (s1.wf hw j0 j1) (s1.iv iv.1 j0 j1) (Or.inl j3) th (by omega) hen
  rw [sp_LI_0 j3, sp_LF_0 j3, s1.stp] at CS
  generalize hr' : (sq_steps F (a_pt A p) th).1 = r' at *
  have st1 : rn_iv I F r' := by
    rw [← hr']
    exact st.1
  have st2 : mu 8 r' + 1 ≤ mu 8 (a_pt A p) := by
    rw [← hr']
    exact st.2.2
  clear st
  refine am_go_of 40 [8, 20, 23, 28, 35, 43, 45, 57, 96, 98, 102, 121] _ c_Md_searches_68 ?_
  simp (maxSteps := 2000000) (disch := omega) only [c_Md_searches_0, c_Md_searches_1, c_Md_searches_2, c_Md_searches_3, c_Md_searches_4, c_Md_searches_5, c_Md_searches_6, c_Md_searches_7, c_Md_searches_8, c_Md_searches_9, c_Md_searches_10, c_Md_searches_11, c_Md_searches_12, c_Md_searches_13, c_Md_searches_14, c_Md_searches_15, c_Md_searches_16, c_Md_searches_17, c_Md_searches_18, c_Md_searches_19, c_Md_searches_20, c_Md_searches_21, c_Md_searches_22, c_Md_searches_23, c_Md_searches_24, c_Md_searches_25, c_Md_searches_26, c_Md_searches_27, c_Md_searches_28, c_Md_searches_29, c_Md_searches_30, c_Md_searches_31, c_Md_searches_32, c_Md_searches_33, c_Md_searches_34, c_Md_searches_35, c_Md_searches_36, c_Md_searches_37, c_Md_searches_38, c_Md_searches_39, c_Md_searches_40, c_Md_searches_41, c_Md_searches_42, c_Md_searches_43, c_Md_searches_44, c_Md_searches_45, c_Md_searches_46, c_Md_searches_47, c_Md_searches_48, c_Md_searches_49, c_Md_searches_50, c_Md_searches_51, c_Md_searches_52, c_Md_searches_53, c_Md_searches_54, c_Md_searches_55, c_Md_searches_56, c_Md_searches_57, c_Md_searches_58, c_Md_searches_59, c_Md_searches_60, c_Md_searches_61, c_Md_searches_62, c_Md_searches_63, c_Md_searches_64, c_Md_searches_65, c_Md_searches_66, c_Md_searches_67, c_Md_searches_68, c_Md_searches_69, c_Md_searches_70, c_Md_searches_71, c_Md_searches_72, c_Md_searches_73, c_Md_searches_74, c_Md_searches_75, c_Md_searches_76, c_Md_searches_77, c_Md_searches_78, c_Md_searches_79, c_Md_searches_80, c_Md_searches_81, c_Md_searches_82, c_Md_searches_83, c_Md_searches_84, c_Md_searches_85, c_Md_searches_86, c_Md_searches_87, c_Md_searches_88, c_Md_searches_89, c_Md_searches_90, c_Md_searches_91, c_Md_searches_92, c_Md_searches_93, c_Md_searches_94, c_Md_searches_95, c_Md_searches_96, c_Md_searches_97, c_Md_searches_98, c_Md_searches_99, c_Md_searches_100, c_Md_searches_101, c_Md_searches_102, c_Md_searches_103, c_Md_searches_104, c_Md_searches_105, c_Md_searches_106, c_Md_searches_107, c_Md_searches_108, c_Md_searches_109, c_Md_searches_110, c_Md_searches_111, c_Md_searches_112, c_Md_searches_113, c_Md_searches_114, c_Md_searches_115, c_Md_searches_116, c_Md_searches_117, c_Md_searches_118, c_Md_searches_119, c_Md_searches_120, c_Md_searches_121, c_Md_searches_122, c_Md_searches_123, c_Md_searches_124, c_Md_searches_125, c_Md_searches_126, c_Md_searches_127, c_Md_searches_128, c_Md_searches_129, sx_aload_n, sx_dup2_ir, sx_getfield, sx_goto, sx_iadd, sx_iaload, sx_iastore, sx_iconst, sx_ifCond_eq, sx_ifCond_ne, sx_if_icmp_eq, sx_if_icmp_ge, sx_if_icmp_lt, sx_if_icmp_ne, sx_iinc, sx_iload, sx_iload_n, sx_ireturn, sx_istore, sx_istore_n, sx_isub, sx_putfield, sx_sipush, sx_zreturn, am_W_s, am_W_0, am_mm_some, List.mem_cons, or_false, false_or, or_self, or_true, true_or, reduceIte, if_false, if_true, am_o_some, am_o_none, am_o_bad, am_o_good, am_ldi_hit, am_ldi_miss, am_lda_hit, am_lda_miss, am_ldl_hit, am_ldl_miss, am_inc_eq, am_inc_hit, am_inc_miss, am_ob_hit, am_fd_0, am_fd_s, am_ai_hit, am_ab_3, am_al_hit, am_aq_4, am_al0_hit, am_put_1, am_put_2, am_put_put, am_up_hit, am_up_miss, am_s1_eq, am_s2_eq, am_fl_nil, am_fl_hit, am_fl_int, am_fl_ref, am_fl_long, am_fl_longx, am_fl2_nil, am_fl2_hit, am_fl2_hit1, am_fl2_int, am_fl2_ref, am_fl2_long, List.not_mem_nil, not_false_eq_true, ne_eq, Nat.reduceAdd, Nat.reduceEqDiff, Nat.zero_add, Nat.add_left_cancel_iff, List.set_cons_zero, List.set_cons_succ, List.length_cons, List.length_nil, Nat.reduceLT, am_ft_i, am_ft_r, am_ft_z, and_true, true_and, Option.toList_some, Option.toList_none, List.cons_append, List.nil_append, List.drop_succ_cons, List.drop_zero, iI_c, iI_b, iI_s, iI_n, iI_add, iI_sub, iI_mul, iI_neg, iI_nle, iI_ix, iI_eq0, iI_eq1, iI_lt0, iI_0lt, iI_le0, iI_0le, iI_eq, iI_lt, iI_le, iI_upd, iI_updZ, Int.reduceEq, Int.reduceLT, Int.reduceLE, Int.reduceNeg, Int.reduceNe, hO, a22, e22, l1, md_fs_len, md_f0, md_f1, md_f2, md_f3, md_f4, md_f5, md_f6, md_f7, md_f8, md_f9, md_f10, md_f11, md_f12, md_f13, md_f14, md_f15, md_f16, md_f17, md_f18, md_f19, md_f20, md_f21, md_f22, md_f23, md_f24, md_f25, md_f26, md_f27, md_f28, md_f29, md_f30, md_f31, md_f32, md_f33, md_f34, md_f35, md_s0, md_s1, md_s15, md_s16, md_s17, md_s23, md_s24, md_s31, md_t1, md_t2, md_t3, md_t4, md_t5, md_t6, md_t7, md_t8, md_t9, md_t10, md_t11, md_t12, md_t13, md_t14, md_t15, md_t16, md_t17, md_t18, md_t19, md_t20, md_t21, md_t22, md_t23, md_t24, md_t25, md_t26, md_t27, md_t28, md_l1, md_l2, md_l3, md_l4, md_l5, md_l6, md_l7, md_l8, md_l9, md_l10, md_l11, md_l12, md_l13, md_l14, md_l15, md_l16, md_l17, md_l18, md_l19, md_l20, md_l21, md_l22, md_l23, md_l24, md_l25, md_l26, md_l27, md_l28]
  repeat (refine And.intro (by omega) ?_)
  refine am_go_call c_Md_searches_96 (by decide) (by decide) (by first | (simp [am_can, am_kd, Value.category, hO1, hO]; done) | (simp [am_can, am_kd, am_b, am_c, Value.category, hO1, hO]; done) | (simp (disch := omega) [am_can, am_kd, am_b, am_c, Value.category, am_put_1, am_up_hit, am_up_miss, hO1, hO]; done)) ?_
  refine CS.mono (fun r9 h2 hr9 => ?_)
  obtain ⟨rfl, w2⟩ := hr9
  have T2 := T1.tr w2
  clear CS w2 T1 hA0 a22
  have v2 : va_up G1 13 (vec r') 13 = vec r' := va_up_hit
  have k2 : ∀ k : Nat, k ≠ 13 → k ≠ 22 → va_up G1 13 (vec r') k = G k := fun k q1 q2 => (va_up_miss q1).trans (k1 k q2)
  have u2 : va_up G1 13 (vec r') 22 = vI (G 22) p (th + 1) := (va_up_miss (by decide)).trans u1
  have M2 : ms_pt I F r0 J (va_up G1 13 (vec r')) A := M.cg (fun k q1 q2 q3 => k2 k (by omega) q3) (s1.up (Or.inr rfl)) v2 oxs
  generalize va_up G1 13 (vec r') = G2 at *
  clear T M s1 v1 k1 u1
  have tr2 : ms_tr G2 ((p, th + 1) :: rest) := by
    refine ⟨?_, ?_, ms_tr_congr (G := G) rest (fun e he => ?_) htr⟩
    · show G2 22 p = th + 1
      rw [u2, vI_hit]
    · show G2 20 p = s_hd rest
      rw [k2 20 (by decide) (by decide)]
      exact e20
    · rw [u2, vI_miss (neq e he), k2 20 (by decide) (by decide)]
      exact ⟨rfl, rfl⟩
  obtain ⟨-, hO2, hA2⟩ := T2.1
  have j6 := M2.2.1.1
  have CH := ct_hash (d' + 1) (by omega) h2 o J G2 T2.1
  have hb := hsh_rg (G2 13)
  have CM := ct_met (d' + 1) (by omega) h2 o J G2 T2.1 (fun k hk => by rw [v2]; exact vec_100 st1.1 hk) (fun q => hsh (vec (a_pt A q))) (a_n A).toNat (by omega) M2.2.2.2.2.1 (hsh (G2 13)) (by omega)
  have hq : ∀ q : Int, 0 ≤ q ∧ q < a_n A → (eqv G2 q ↔ ∀ k : Int, 0 ≤ k ∧ k < 66 → vec (a_pt A q) k = vec r' k) := fun q hq => by
    unfold eqv
    rw [v2]
    constructor
    · intro z k hk
      rw [← M2.2.2.2.2.2.1 q k hq hk]
      exact z k hk
    · intro z k hk
      rw [M2.2.2.2.2.2.1 q k hq hk]
      exact z k hk
  have nb : ∀ k : Int, 0 ≤ k ∧ k < 66 → ∀ q, (∀ k : Int, 0 ≤ k ∧ k < 66 → vec (a_pt A q) k = vec r' k) → hsh (vec (a_pt A q)) = hsh (G2 13) := fun k hk q z => by
    rw [v2]
    exact hsh_congr z
  have nb2 := nb 0 (by decide)
  clear nb
  have B : s_iv I F r0 (s_stk A ((p, th + 1) :: rest)) := s_stk_iv hA ⟨c1, (by show 0 ≤ th + 1 ∧ th + 1 ≤ 3; omega), c3, c4, c5, c6⟩
  have hcome : rmet (a_pt A) r' (a_n A).toNat = true → s_come I F (s_stk A ((p, th + 1) :: rest)) r' (a_ln A p + 1) (vI (a_wa A p) (a_ln A p) th) = some (s_stk A ((p, th + 1) :: rest)) := fun z => if_pos z
  have hcome3 : ¬ rmet (a_pt A) r' (a_n A).toNat = true → a_n A = 3000 → s_come I F (s_stk A ((p, th + 1) :: rest)) r' (a_ln A p + 1) (vI (a_wa A p) (a_ln A p) th) = none := fun z1 z2 => (if_neg z1).trans (if_pos z2)
  have hcome4 : ¬ rmet (a_pt A) r' (a_n A).toNat = true → a_n A ≠ 3000 → s_come I F (s_stk A ((p, th + 1) :: rest)) r' (a_ln A p + 1) (vI (a_wa A p) (a_ln A p) th) = if an1 I F r' 3 = 1 then some (s_stk (s_add (s_stk A ((p, th + 1) :: rest)) r' (a_ln A p + 1) (vI (a_wa A p) (a_ln A p) th)) ((a_n A, 0) :: (p, th + 1) :: rest)) else s_out I F (s_add (s_stk A ((p, th + 1) :: rest)) r' (a_ln A p + 1) (vI (a_wa A p) (a_ln A p) th)) (a_n A) := fun z1 z2 => (if_neg z1).trans (if_neg z2)
  have gm : rmet (a_pt A) r' (a_n A).toNat = true → am_Go am_df am_MT (d' + 1) c_Md_searches (28, [(2, .int (iI 1)), (1, .int (iI p)), (0, .ref o)], [], h2) Q := fun z => hc _ h2 J G2 (hcome z) T2 M2.stk tr2
  have g3 : ¬ rmet (a_pt A) r' (a_n A).toNat = true → a_n A = 3000 → Q (some (.int (iI 0))) h2 := fun z1 z2 => hn (hcome3 z1 z2) h2 J G2 T2 (M2.rs hA (by omega))
  have gk : ¬ rmet (a_pt A) r' (a_n A).toNat = true → a_n A ≠ 3000 → ∀ h3, md_to h2 o (va_up J 6 (a_n A + 1)) (kp_F (va_up G2 19 (cpy (G2 19) (G2 13) (a_n A) 0)) (a_n A) (hsh (G2 13)) p th) h3 → am_Go am_df am_MT (d' + 1) c_Md_searches (28, [(2, .int (iI 1)), (1, .int (iI (a_n A))), (0, .ref o)], [], h3) Q := fun z1 z2 h3 w3 => by
    have T3 := T2.tr w3
    have M3 := ms_keep (w := vI (a_wa A p) (a_ln A p) th) B M2.stk (by show a_n A < 3000; omega) st1 v2 oxs (was := p) (th := th) (l := a_ln A p + 1) (Or.inr ⟨c1', rfl, rfl⟩)
    have M3' : ms_pt I F r0 (va_up J 6 (a_n A + 1)) (kp_F (va_up G2 19 (cpy (G2 19) (G2 13) (a_n A) 0)) (a_n A) (hsh (G2 13)) p th) (s_add (s_stk A ((p, th + 1) :: rest)) r' (a_ln A p + 1) (vI (a_wa A p) (a_ln A p) th)) := M3
    have x20 : kp_F (va_up G2 19 (cpy (G2 19) (G2 13) (a_n A) 0)) (a_n A) (hsh (G2 13)) p th 20 = vI (G2 20) (a_n A) p := rfl
    have x22 : kp_F (va_up G2 19 (cpy (G2 19) (G2 13) (a_n A) 0)) (a_n A) (hsh (G2 13)) p th 22 = vI (G2 22) (a_n A) 0 := rfl
    generalize kp_F (va_up G2 19 (cpy (G2 19) (G2 13) (a_n A) 0)) (a_n A) (hsh (G2 13)) p th = G3 at *
    have tr3 : ms_tr G3 ((p, th + 1) :: rest) := ms_tr_congr (G := G2) _ (fun e he => by
      have ne : e.1 ≠ a_n A := by
        rcases List.mem_cons.mp he with z | z
        · rw [z]
          show p ≠ a_n A
          omega
        · have := (lt e z).1
          omega
      rw [x20, x22, vI_miss ne, vI_miss ne]
      exact ⟨rfl, rfl⟩) tr2
    have hco := hcome4 z1 z2
    have SI : s_iv I F r0 (s_add (s_stk A ((p, th + 1) :: rest)) r' (a_ln A p + 1) (vI (a_wa A p) (a_ln A p) th)) := s_add_iv B z2 st1 oxs ⟨by omega, by omega⟩ (fun j hj => by
      by_cases cj : j = a_ln A p
      · rw [cj, vI_hit]
        omega
      · rw [vI_miss cj]
        exact iv.2.2.2 j (by omega)) (fun z => by
      have z2 : a_n A = 0 := z
      omega)
    have en : a_pt (s_add (s_stk A ((p, th + 1) :: rest)) r' (a_ln A p + 1) (vI (a_wa A p) (a_ln A p) th)) (a_n A) = r' := vU_hit
    have ek : a_sk (s_add (s_stk A ((p, th + 1) :: rest)) r' (a_ln A p + 1) (vI (a_wa A p) (a_ln A p) th)) = (p, th + 1) :: rest := rfl
    have e1 : a_n (s_add (s_stk A ((p, th + 1) :: rest)) r' (a_ln A p + 1) (vI (a_wa A p) (a_ln A p) th)) = a_n A + 1 := rfl
    generalize s_add (s_stk A ((p, th + 1) :: rest)) r' (a_ln A p + 1) (vI (a_wa A p) (a_ln A p) th) = D at *
    by_cases ca : an1 I F r' 3 = 1
    · rw [if_pos ca] at hco
      exact hc _ h3 _ G3 hco T3 M3'.stk ⟨by rw [x22]; exact vI_hit, by rw [x20]; exact vI_hit, tr3⟩
    · rw [if_neg ca] at hco
      refine se_new (d' + 1) hd h0 h3 o I F hr h5 r0 D SI _ G3 T3 M3' (a_n A) ⟨n.1, by rw [e1]; omega⟩ (by rw [x22]; exact vI_hit) (by rw [x20, ek]; exact vI_hit) (by rw [ek]; exact tr3) (fun e he => ?_) (by rw [en]; exact ca) Q (fun A' h' J' G' eo T' M' t' => hc A' h' J' G' (hco.trans eo) T' M' t') (fun eo h' G' T' M' => ?_)
      · rw [ek] at he
        rcases List.mem_cons.mp he with z | z
        · rw [z]
          show p ≠ a_n A
          omega
        · have := (lt e z).1
          omega
      · rw [ek]
        refine se_out (d' + 1) h' o p ⟨c1'.1, by omega⟩ Q (hn (hco.trans eo) h' _ G' T' (M'.rs SI (by rw [e1]; omega)))
  clear hc hn hcome hcome3 hcome4 B tr2 htr c5 c6 c3 c4 lt neq hA
  refine am_go_of 5 [8, 20, 23, 28, 35, 43, 45, 57, 96, 98, 102, 121] _ c_Md_searches_97 ?_
  simp (maxSteps := 2000000) (disch := omega) only [c_Md_searches_0, c_Md_searches_1, c_Md_searches_2, c_Md_searches_3, c_Md_searches_4, c_Md_searches_5, c_Md_searches_6, c_Md_searches_7, c_Md_searches_8, c_Md_searches_9, c_Md_searches_10, c_Md_searches_11, c_Md_searches_12, c_Md_searches_13, c_Md_searches_14, c_Md_searches_15, c_Md_searches_16, c_Md_searches_17, c_Md_searches_18, c_Md_searches_19, c_Md_searches_20, c_Md_searches_21, c_Md_searches_22, c_Md_searches_23, c_Md_searches_24, c_Md_searches_25, c_Md_searches_26, c_Md_searches_27, c_Md_searches_28, c_Md_searches_29, c_Md_searches_30, c_Md_searches_31, c_Md_searches_32, c_Md_searches_33, c_Md_searches_34, c_Md_searches_35, c_Md_searches_36, c_Md_searches_37, c_Md_searches_38, c_Md_searches_39, c_Md_searches_40, c_Md_searches_41, c_Md_searches_42, c_Md_searches_43, c_Md_searches_44, c_Md_searches_45, c_Md_searches_46, c_Md_searches_47, c_Md_searches_48, c_Md_searches_49, c_Md_searches_50, c_Md_searches_51, c_Md_searches_52, c_Md_searches_53, c_Md_searches_54, c_Md_searches_55, c_Md_searches_56, c_Md_searches_57, c_Md_searches_58, c_Md_searches_59, c_Md_searches_60, c_Md_searches_61, c_Md_searches_62, c_Md_searches_63, c_Md_searches_64, c_Md_searches_65, c_Md_searches_66, c_Md_searches_67, c_Md_searches_68, c_Md_searches_69, c_Md_searches_70, c_Md_searches_71, c_Md_searches_72, c_Md_searches_73, c_Md_searches_74, c_Md_searches_75, c_Md_searches_76, c_Md_searches_77, c_Md_searches_78, c_Md_searches_79, c_Md_searches_80, c_Md_searches_81, c_Md_searches_82, c_Md_searches_83, c_Md_searches_84, c_Md_searches_85, c_Md_searches_86, c_Md_searches_87, c_Md_searches_88, c_Md_searches_89, c_Md_searches_90, c_Md_searches_91, c_Md_searches_92, c_Md_searches_93, c_Md_searches_94, c_Md_searches_95, c_Md_searches_96, c_Md_searches_97, c_Md_searches_98, c_Md_searches_99, c_Md_searches_100, c_Md_searches_101, c_Md_searches_102, c_Md_searches_103, c_Md_searches_104, c_Md_searches_105, c_Md_searches_106, c_Md_searches_107, c_Md_searches_108, c_Md_searches_109, c_Md_searches_110, c_Md_searches_111, c_Md_searches_112, c_Md_searches_113, c_Md_searches_114, c_Md_searches_115, c_Md_searches_116, c_Md_searches_117, c_Md_searches_118, c_Md_searches_119, c_Md_searches_120, c_Md_searches_121, c_Md_searches_122, c_Md_searches_123, c_Md_searches_124, c_Md_searches_125, c_Md_searches_126, c_Md_searches_127, c_Md_searches_128, c_Md_searches_129, sx_aload_n, sx_dup2_ir, sx_getfield, sx_goto, sx_iadd, sx_iaload, sx_iastore, sx_iconst, sx_ifCond_eq, sx_ifCond_ne, sx_if_icmp_eq, sx_if_icmp_ge, sx_if_icmp_lt, sx_if_icmp_ne, sx_iinc, sx_iload, sx_iload_n, sx_ireturn, sx_istore, sx_istore_n, sx_isub, sx_putfield, sx_sipush, sx_zreturn, am_W_s, am_W_0, am_mm_some, List.mem_cons, or_false, false_or, or_self, or_true, true_or, reduceIte, if_false, if_true, am_o_some, am_o_none, am_o_bad, am_o_good, am_ldi_hit, am_ldi_miss, am_lda_hit, am_lda_miss, am_ldl_hit, am_ldl_miss, am_inc_eq, am_inc_hit, am_inc_miss, am_ob_hit, am_fd_0, am_fd_s, am_ai_hit, am_ab_3, am_al_hit, am_aq_4, am_al0_hit, am_put_1, am_put_2, am_put_put, am_up_hit, am_up_miss, am_s1_eq, am_s2_eq, am_fl_nil, am_fl_hit, am_fl_int, am_fl_ref, am_fl_long, am_fl_longx, am_fl2_nil, am_fl2_hit, am_fl2_hit1, am_fl2_int, am_fl2_ref, am_fl2_long, List.not_mem_nil, not_false_eq_true, ne_eq, Nat.reduceAdd, Nat.reduceEqDiff, Nat.zero_add, Nat.add_left_cancel_iff, List.set_cons_zero, List.set_cons_succ, List.length_cons, List.length_nil, Nat.reduceLT, am_ft_i, am_ft_r, am_ft_z, and_true, true_and, Option.toList_some, Option.toList_none, List.cons_append, List.nil_append, List.drop_succ_cons, List.drop_zero, iI_c, iI_b, iI_s, iI_n, iI_add, iI_sub, iI_mul, iI_neg, iI_nle, iI_ix, iI_eq0, iI_eq1, iI_lt0, iI_0lt, iI_le0, iI_0le, iI_eq, iI_lt, iI_le, iI_upd, iI_updZ, Int.reduceEq, Int.reduceLT, Int.reduceLE, Int.reduceNeg, Int.reduceNe, md_fs_len, md_f0, md_f1, md_f2, md_f3, md_f4, md_f5, md_f6, md_f7, md_f8, md_f9, md_f10, md_f11, md_f12, md_f13, md_f14, md_f15, md_f16, md_f17, md_f18, md_f19, md_f20, md_f21, md_f22, md_f23, md_f24, md_f25, md_f26, md_f27, md_f28, md_f29, md_f30, md_f31, md_f32, md_f33, md_f34, md_f35, md_s0, md_s1, md_s15, md_s16, md_s17, md_s23, md_s24, md_s31, md_t1, md_t2, md_t3, md_t4, md_t5, md_t6, md_t7, md_t8, md_t9, md_t10, md_t11, md_t12, md_t13, md_t14, md_t15, md_t16, md_t17, md_t18, md_t19, md_t20, md_t21, md_t22, md_t23, md_t24, md_t25, md_t26, md_t27, md_t28, md_l1, md_l2, md_l3, md_l4, md_l5, md_l6, md_l7, md_l8, md_l9, md_l10, md_l11, md_l12, md_l13, md_l14, md_l15, md_l16, md_l17, md_l18, md_l19, md_l20, md_l21, md_l22, md_l23, md_l24, md_l25, md_l26, md_l27, md_l28]
  refine am_go_call c_Md_searches_98 (by decide) (by decide) (by first | (simp [am_can, am_kd, Value.category, hO2]; done) | (simp [am_can, am_kd, am_b, am_c, Value.category, hO2]; done) | (simp (disch := omega) [am_can, am_kd, am_b, am_c, Value.category, am_put_1, am_up_hit, am_up_miss, hO2]; done)) ?_
  refine CH.mono (fun r9 h9 hr9 => ?_)
  obtain ⟨rfl, rfl⟩ := hr9
  refine am_go_of 5 [8, 20, 23, 28, 35, 43, 45, 57, 96, 98, 102, 121] _ c_Md_searches_99 ?_
  simp (maxSteps := 2000000) (disch := omega) only [c_Md_searches_0, c_Md_searches_1, c_Md_searches_2, c_Md_searches_3, c_Md_searches_4, c_Md_searches_5, c_Md_searches_6, c_Md_searches_7, c_Md_searches_8, c_Md_searches_9, c_Md_searches_10, c_Md_searches_11, c_Md_searches_12, c_Md_searches_13, c_Md_searches_14, c_Md_searches_15, c_Md_searches_16, c_Md_searches_17, c_Md_searches_18, c_Md_searches_19, c_Md_searches_20, c_Md_searches_21, c_Md_searches_22, c_Md_searches_23, c_Md_searches_24, c_Md_searches_25, c_Md_searches_26, c_Md_searches_27, c_Md_searches_28, c_Md_searches_29, c_Md_searches_30, c_Md_searches_31, c_Md_searches_32, c_Md_searches_33, c_Md_searches_34, c_Md_searches_35, c_Md_searches_36, c_Md_searches_37, c_Md_searches_38, c_Md_searches_39, c_Md_searches_40, c_Md_searches_41, c_Md_searches_42, c_Md_searches_43, c_Md_searches_44, c_Md_searches_45, c_Md_searches_46, c_Md_searches_47, c_Md_searches_48, c_Md_searches_49, c_Md_searches_50, c_Md_searches_51, c_Md_searches_52, c_Md_searches_53, c_Md_searches_54, c_Md_searches_55, c_Md_searches_56, c_Md_searches_57, c_Md_searches_58, c_Md_searches_59, c_Md_searches_60, c_Md_searches_61, c_Md_searches_62, c_Md_searches_63, c_Md_searches_64, c_Md_searches_65, c_Md_searches_66, c_Md_searches_67, c_Md_searches_68, c_Md_searches_69, c_Md_searches_70, c_Md_searches_71, c_Md_searches_72, c_Md_searches_73, c_Md_searches_74, c_Md_searches_75, c_Md_searches_76, c_Md_searches_77, c_Md_searches_78, c_Md_searches_79, c_Md_searches_80, c_Md_searches_81, c_Md_searches_82, c_Md_searches_83, c_Md_searches_84, c_Md_searches_85, c_Md_searches_86, c_Md_searches_87, c_Md_searches_88, c_Md_searches_89, c_Md_searches_90, c_Md_searches_91, c_Md_searches_92, c_Md_searches_93, c_Md_searches_94, c_Md_searches_95, c_Md_searches_96, c_Md_searches_97, c_Md_searches_98, c_Md_searches_99, c_Md_searches_100, c_Md_searches_101, c_Md_searches_102, c_Md_searches_103, c_Md_searches_104, c_Md_searches_105, c_Md_searches_106, c_Md_searches_107, c_Md_searches_108, c_Md_searches_109, c_Md_searches_110, c_Md_searches_111, c_Md_searches_112, c_Md_searches_113, c_Md_searches_114, c_Md_searches_115, c_Md_searches_116, c_Md_searches_117, c_Md_searches_118, c_Md_searches_119, c_Md_searches_120, c_Md_searches_121, c_Md_searches_122, c_Md_searches_123, c_Md_searches_124, c_Md_searches_125, c_Md_searches_126, c_Md_searches_127, c_Md_searches_128, c_Md_searches_129, sx_aload_n, sx_dup2_ir, sx_getfield, sx_goto, sx_iadd, sx_iaload, sx_iastore, sx_iconst, sx_ifCond_eq, sx_ifCond_ne, sx_if_icmp_eq, sx_if_icmp_ge, sx_if_icmp_lt, sx_if_icmp_ne, sx_iinc, sx_iload, sx_iload_n, sx_ireturn, sx_istore, sx_istore_n, sx_isub, sx_putfield, sx_sipush, sx_zreturn, am_W_s, am_W_0, am_mm_some, List.mem_cons, or_false, false_or, or_self, or_true, true_or, reduceIte, if_false, if_true, am_o_some, am_o_none, am_o_bad, am_o_good, am_ldi_hit, am_ldi_miss, am_lda_hit, am_lda_miss, am_ldl_hit, am_ldl_miss, am_inc_eq, am_inc_hit, am_inc_miss, am_ob_hit, am_fd_0, am_fd_s, am_ai_hit, am_ab_3, am_al_hit, am_aq_4, am_al0_hit, am_put_1, am_put_2, am_put_put, am_up_hit, am_up_miss, am_s1_eq, am_s2_eq, am_fl_nil, am_fl_hit, am_fl_int, am_fl_ref, am_fl_long, am_fl_longx, am_fl2_nil, am_fl2_hit, am_fl2_hit1, am_fl2_int, am_fl2_ref, am_fl2_long, List.not_mem_nil, not_false_eq_true, ne_eq, Nat.reduceAdd, Nat.reduceEqDiff, Nat.zero_add, Nat.add_left_cancel_iff, List.set_cons_zero, List.set_cons_succ, List.length_cons, List.length_nil, Nat.reduceLT, am_ft_i, am_ft_r, am_ft_z, and_true, true_and, Option.toList_some, Option.toList_none, List.cons_append, List.nil_append, List.drop_succ_cons, List.drop_zero, iI_c, iI_b, iI_s, iI_n, iI_add, iI_sub, iI_mul, iI_neg, iI_nle, iI_ix, iI_eq0, iI_eq1, iI_lt0, iI_0lt, iI_le0, iI_0le, iI_eq, iI_lt, iI_le, iI_upd, iI_updZ, Int.reduceEq, Int.reduceLT, Int.reduceLE, Int.reduceNeg, Int.reduceNe, md_fs_len, md_f0, md_f1, md_f2, md_f3, md_f4, md_f5, md_f6, md_f7, md_f8, md_f9, md_f10, md_f11, md_f12, md_f13, md_f14, md_f15, md_f16, md_f17, md_f18, md_f19, md_f20, md_f21, md_f22, md_f23, md_f24, md_f25, md_f26, md_f27, md_f28, md_f29, md_f30, md_f31, md_f32, md_f33, md_f34, md_f35, md_s0, md_s1, md_s15, md_s16, md_s17, md_s23, md_s24, md_s31, md_t1, md_t2, md_t3, md_t4, md_t5, md_t6, md_t7, md_t8, md_t9, md_t10, md_t11, md_t12, md_t13, md_t14, md_t15, md_t16, md_t17, md_t18, md_t19, md_t20, md_t21, md_t22, md_t23, md_t24, md_t25, md_t26, md_t27, md_t28, md_l1, md_l2, md_l3, md_l4, md_l5, md_l6, md_l7, md_l8, md_l9, md_l10, md_l11, md_l12, md_l13, md_l14, md_l15, md_l16, md_l17, md_l18, md_l19, md_l20, md_l21, md_l22, md_l23, md_l24, md_l25, md_l26, md_l27, md_l28]
  refine am_go_call c_Md_searches_102 (by decide) (by decide) (by first | (simp [am_can, am_kd, Value.category, hO2]; done) | (simp [am_can, am_kd, am_b, am_c, Value.category, hO2]; done) | (simp (disch := omega) [am_can, am_kd, am_b, am_c, Value.category, am_put_1, am_up_hit, am_up_miss, hO2]; done)) ?_
  refine CM.mono (fun r9 h8 hr9 => ?_)
  obtain ⟨⟨z, rfl, hz⟩, rfl⟩ := hr9
  clear CH CM
  rcases hz with ⟨rfl, hz⟩ | ⟨hz, ez⟩
  · have nm : ¬ rmet (a_pt A) r' (a_n A).toNat = true := fun zz => by
      obtain ⟨q, q1, q2⟩ := (rmet_iff _).mp zz
      exact hz q ⟨q1.1, by omega⟩ (nb2 q q2) ((hq q (by omega)).mpr q2)
    by_cases c3 : a_n A = 3000
    · have g := se_out (d' + 1) h8 o p ⟨c1'.1, by omega⟩ Q (g3 nm c3)
      have n6 : (3000 : Int) ≤ J 6 := by omega
      clear gm g3 gk hq nb2 M2 hz
      refine am_go_of 30 [8, 20, 23, 28, 35, 43, 45, 57, 96, 98, 102, 121] _ c_Md_searches_103 ?_
      simp (maxSteps := 2000000) (disch := omega) only [c_Md_searches_0, c_Md_searches_1, c_Md_searches_2, c_Md_searches_3, c_Md_searches_4, c_Md_searches_5, c_Md_searches_6, c_Md_searches_7, c_Md_searches_8, c_Md_searches_9, c_Md_searches_10, c_Md_searches_11, c_Md_searches_12, c_Md_searches_13, c_Md_searches_14, c_Md_searches_15, c_Md_searches_16, c_Md_searches_17, c_Md_searches_18, c_Md_searches_19, c_Md_searches_20, c_Md_searches_21, c_Md_searches_22, c_Md_searches_23, c_Md_searches_24, c_Md_searches_25, c_Md_searches_26, c_Md_searches_27, c_Md_searches_28, c_Md_searches_29, c_Md_searches_30, c_Md_searches_31, c_Md_searches_32, c_Md_searches_33, c_Md_searches_34, c_Md_searches_35, c_Md_searches_36, c_Md_searches_37, c_Md_searches_38, c_Md_searches_39, c_Md_searches_40, c_Md_searches_41, c_Md_searches_42, c_Md_searches_43, c_Md_searches_44, c_Md_searches_45, c_Md_searches_46, c_Md_searches_47, c_Md_searches_48, c_Md_searches_49, c_Md_searches_50, c_Md_searches_51, c_Md_searches_52, c_Md_searches_53, c_Md_searches_54, c_Md_searches_55, c_Md_searches_56, c_Md_searches_57, c_Md_searches_58, c_Md_searches_59, c_Md_searches_60, c_Md_searches_61, c_Md_searches_62, c_Md_searches_63, c_Md_searches_64, c_Md_searches_65, c_Md_searches_66, c_Md_searches_67, c_Md_searches_68, c_Md_searches_69, c_Md_searches_70, c_Md_searches_71, c_Md_searches_72, c_Md_searches_73, c_Md_searches_74, c_Md_searches_75, c_Md_searches_76, c_Md_searches_77, c_Md_searches_78, c_Md_searches_79, c_Md_searches_80, c_Md_searches_81, c_Md_searches_82, c_Md_searches_83, c_Md_searches_84, c_Md_searches_85, c_Md_searches_86, c_Md_searches_87, c_Md_searches_88, c_Md_searches_89, c_Md_searches_90, c_Md_searches_91, c_Md_searches_92, c_Md_searches_93, c_Md_searches_94, c_Md_searches_95, c_Md_searches_96, c_Md_searches_97, c_Md_searches_98, c_Md_searches_99, c_Md_searches_100, c_Md_searches_101, c_Md_searches_102, c_Md_searches_103, c_Md_searches_104, c_Md_searches_105, c_Md_searches_106, c_Md_searches_107, c_Md_searches_108, c_Md_searches_109, c_Md_searches_110, c_Md_searches_111, c_Md_searches_112, c_Md_searches_113, c_Md_searches_114, c_Md_searches_115, c_Md_searches_116, c_Md_searches_117, c_Md_searches_118, c_Md_searches_119, c_Md_searches_120, c_Md_searches_121, c_Md_searches_122, c_Md_searches_123, c_Md_searches_124, c_Md_searches_125, c_Md_searches_126, c_Md_searches_127, c_Md_searches_128, c_Md_searches_129, sx_aload_n, sx_dup2_ir, sx_getfield, sx_goto, sx_iadd, sx_iaload, sx_iastore, sx_iconst, sx_ifCond_eq, sx_ifCond_ne, sx_if_icmp_eq, sx_if_icmp_ge, sx_if_icmp_lt, sx_if_icmp_ne, sx_iinc, sx_iload, sx_iload_n, sx_ireturn, sx_istore, sx_istore_n, sx_isub, sx_putfield, sx_sipush, sx_zreturn, am_W_s, am_W_0, am_mm_some, List.mem_cons, or_false, false_or, or_self, or_true, true_or, reduceIte, if_false, if_true, am_o_some, am_o_none, am_o_bad, am_o_good, am_ldi_hit, am_ldi_miss, am_lda_hit, am_lda_miss, am_ldl_hit, am_ldl_miss, am_inc_eq, am_inc_hit, am_inc_miss, am_ob_hit, am_fd_0, am_fd_s, am_ai_hit, am_ab_3, am_al_hit, am_aq_4, am_al0_hit, am_put_1, am_put_2, am_put_put, am_up_hit, am_up_miss, am_s1_eq, am_s2_eq, am_fl_nil, am_fl_hit, am_fl_int, am_fl_ref, am_fl_long, am_fl_longx, am_fl2_nil, am_fl2_hit, am_fl2_hit1, am_fl2_int, am_fl2_ref, am_fl2_long, List.not_mem_nil, not_false_eq_true, ne_eq, Nat.reduceAdd, Nat.reduceEqDiff, Nat.zero_add, Nat.add_left_cancel_iff, List.set_cons_zero, List.set_cons_succ, List.length_cons, List.length_nil, Nat.reduceLT, am_ft_i, am_ft_r, am_ft_z, and_true, true_and, Option.toList_some, Option.toList_none, List.cons_append, List.nil_append, List.drop_succ_cons, List.drop_zero, iI_c, iI_b, iI_s, iI_n, iI_add, iI_sub, iI_mul, iI_neg, iI_nle, iI_ix, iI_eq0, iI_eq1, iI_lt0, iI_0lt, iI_le0, iI_0le, iI_eq, iI_lt, iI_le, iI_upd, iI_updZ, Int.reduceEq, Int.reduceLT, Int.reduceLE, Int.reduceNeg, Int.reduceNe, hO2, n6, md_fs_len, md_f0, md_f1, md_f2, md_f3, md_f4, md_f5, md_f6, md_f7, md_f8, md_f9, md_f10, md_f11, md_f12, md_f13, md_f14, md_f15, md_f16, md_f17, md_f18, md_f19, md_f20, md_f21, md_f22, md_f23, md_f24, md_f25, md_f26, md_f27, md_f28, md_f29, md_f30, md_f31, md_f32, md_f33, md_f34, md_f35, md_s0, md_s1, md_s15, md_s16, md_s17, md_s23, md_s24, md_s31, md_t1, md_t2, md_t3, md_t4, md_t5, md_t6, md_t7, md_t8, md_t9, md_t10, md_t11, md_t12, md_t13, md_t14, md_t15, md_t16, md_t17, md_t18, md_t19, md_t20, md_t21, md_t22, md_t23, md_t24, md_t25, md_t26, md_t27, md_t28, md_l1, md_l2, md_l3, md_l4, md_l5, md_l6, md_l7, md_l8, md_l9, md_l10, md_l11, md_l12, md_l13, md_l14, md_l15, md_l16, md_l17, md_l18, md_l19, md_l20, md_l21, md_l22, md_l23, md_l24, md_l25, md_l26, md_l27, md_l28]
      exact g.lo (al_le_of (by simp) (by simp))
    · have n6 : ¬ (3000 : Int) ≤ J 6 := by omega
      have g := gk nm c3
      have CK := ct_keep (d' + 1) (by omega) h8 o J G2 T2.1 (hsh (G2 13)) p th (a_n A) (by omega) (by omega) j6 (by
        rw [M2.2.2.2.2.1.1 _ (by omega)]
        have := lastp_rg (hq := fun q => hsh (vec (a_pt A q))) (b := hsh (G2 13)) (a_n A).toNat
        omega)
      clear gm g3 gk hq nb2 M2 hz
      refine am_go_of 30 [8, 20, 23, 28, 35, 43, 45, 57, 96, 98, 102, 121] _ c_Md_searches_103 ?_
      simp (maxSteps := 2000000) (disch := omega) only [c_Md_searches_0, c_Md_searches_1, c_Md_searches_2, c_Md_searches_3, c_Md_searches_4, c_Md_searches_5, c_Md_searches_6, c_Md_searches_7, c_Md_searches_8, c_Md_searches_9, c_Md_searches_10, c_Md_searches_11, c_Md_searches_12, c_Md_searches_13, c_Md_searches_14, c_Md_searches_15, c_Md_searches_16, c_Md_searches_17, c_Md_searches_18, c_Md_searches_19, c_Md_searches_20, c_Md_searches_21, c_Md_searches_22, c_Md_searches_23, c_Md_searches_24, c_Md_searches_25, c_Md_searches_26, c_Md_searches_27, c_Md_searches_28, c_Md_searches_29, c_Md_searches_30, c_Md_searches_31, c_Md_searches_32, c_Md_searches_33, c_Md_searches_34, c_Md_searches_35, c_Md_searches_36, c_Md_searches_37, c_Md_searches_38, c_Md_searches_39, c_Md_searches_40, c_Md_searches_41, c_Md_searches_42, c_Md_searches_43, c_Md_searches_44, c_Md_searches_45, c_Md_searches_46, c_Md_searches_47, c_Md_searches_48, c_Md_searches_49, c_Md_searches_50, c_Md_searches_51, c_Md_searches_52, c_Md_searches_53, c_Md_searches_54, c_Md_searches_55, c_Md_searches_56, c_Md_searches_57, c_Md_searches_58, c_Md_searches_59, c_Md_searches_60, c_Md_searches_61, c_Md_searches_62, c_Md_searches_63, c_Md_searches_64, c_Md_searches_65, c_Md_searches_66, c_Md_searches_67, c_Md_searches_68, c_Md_searches_69, c_Md_searches_70, c_Md_searches_71, c_Md_searches_72, c_Md_searches_73, c_Md_searches_74, c_Md_searches_75, c_Md_searches_76, c_Md_searches_77, c_Md_searches_78, c_Md_searches_79, c_Md_searches_80, c_Md_searches_81, c_Md_searches_82, c_Md_searches_83, c_Md_searches_84, c_Md_searches_85, c_Md_searches_86, c_Md_searches_87, c_Md_searches_88, c_Md_searches_89, c_Md_searches_90, c_Md_searches_91, c_Md_searches_92, c_Md_searches_93, c_Md_searches_94, c_Md_searches_95, c_Md_searches_96, c_Md_searches_97, c_Md_searches_98, c_Md_searches_99, c_Md_searches_100, c_Md_searches_101, c_Md_searches_102, c_Md_searches_103, c_Md_searches_104, c_Md_searches_105, c_Md_searches_106, c_Md_searches_107, c_Md_searches_108, c_Md_searches_109, c_Md_searches_110, c_Md_searches_111, c_Md_searches_112, c_Md_searches_113, c_Md_searches_114, c_Md_searches_115, c_Md_searches_116, c_Md_searches_117, c_Md_searches_118, c_Md_searches_119, c_Md_searches_120, c_Md_searches_121, c_Md_searches_122, c_Md_searches_123, c_Md_searches_124, c_Md_searches_125, c_Md_searches_126, c_Md_searches_127, c_Md_searches_128, c_Md_searches_129, sx_aload_n, sx_dup2_ir, sx_getfield, sx_goto, sx_iadd, sx_iaload, sx_iastore, sx_iconst, sx_ifCond_eq, sx_ifCond_ne, sx_if_icmp_eq, sx_if_icmp_ge, sx_if_icmp_lt, sx_if_icmp_ne, sx_iinc, sx_iload, sx_iload_n, sx_ireturn, sx_istore, sx_istore_n, sx_isub, sx_putfield, sx_sipush, sx_zreturn, am_W_s, am_W_0, am_mm_some, List.mem_cons, or_false, false_or, or_self, or_true, true_or, reduceIte, if_false, if_true, am_o_some, am_o_none, am_o_bad, am_o_good, am_ldi_hit, am_ldi_miss, am_lda_hit, am_lda_miss, am_ldl_hit, am_ldl_miss, am_inc_eq, am_inc_hit, am_inc_miss, am_ob_hit, am_fd_0, am_fd_s, am_ai_hit, am_ab_3, am_al_hit, am_aq_4, am_al0_hit, am_put_1, am_put_2, am_put_put, am_up_hit, am_up_miss, am_s1_eq, am_s2_eq, am_fl_nil, am_fl_hit, am_fl_int, am_fl_ref, am_fl_long, am_fl_longx, am_fl2_nil, am_fl2_hit, am_fl2_hit1, am_fl2_int, am_fl2_ref, am_fl2_long, List.not_mem_nil, not_false_eq_true, ne_eq, Nat.reduceAdd, Nat.reduceEqDiff, Nat.zero_add, Nat.add_left_cancel_iff, List.set_cons_zero, List.set_cons_succ, List.length_cons, List.length_nil, Nat.reduceLT, am_ft_i, am_ft_r, am_ft_z, and_true, true_and, Option.toList_some, Option.toList_none, List.cons_append, List.nil_append, List.drop_succ_cons, List.drop_zero, iI_c, iI_b, iI_s, iI_n, iI_add, iI_sub, iI_mul, iI_neg, iI_nle, iI_ix, iI_eq0, iI_eq1, iI_lt0, iI_0lt, iI_le0, iI_0le, iI_eq, iI_lt, iI_le, iI_upd, iI_updZ, Int.reduceEq, Int.reduceLT, Int.reduceLE, Int.reduceNeg, Int.reduceNe, hO2, n6, md_fs_len, md_f0, md_f1, md_f2, md_f3, md_f4, md_f5, md_f6, md_f7, md_f8, md_f9, md_f10, md_f11, md_f12, md_f13, md_f14, md_f15, md_f16, md_f17, md_f18, md_f19, md_f20, md_f21, md_f22, md_f23, md_f24, md_f25, md_f26, md_f27, md_f28, md_f29, md_f30, md_f31, md_f32, md_f33, md_f34, md_f35, md_s0, md_s1, md_s15, md_s16, md_s17, md_s23, md_s24, md_s31, md_t1, md_t2, md_t3, md_t4, md_t5, md_t6, md_t7, md_t8, md_t9, md_t10, md_t11, md_t12, md_t13, md_t14, md_t15, md_t16, md_t17, md_t18, md_t19, md_t20, md_t21, md_t22, md_t23, md_t24, md_t25, md_t26, md_t27, md_t28, md_l1, md_l2, md_l3, md_l4, md_l5, md_l6, md_l7, md_l8, md_l9, md_l10, md_l11, md_l12, md_l13, md_l14, md_l15, md_l16, md_l17, md_l18, md_l19, md_l20, md_l21, md_l22, md_l23, md_l24, md_l25, md_l26, md_l27, md_l28]
      refine am_go_call c_Md_searches_121 (by decide) (by decide) (by first | (simp [am_can, am_kd, Value.category, hO2]; done) | (simp [am_can, am_kd, am_b, am_c, Value.category, hO2]; done) | (simp (disch := omega) [am_can, am_kd, am_b, am_c, Value.category, am_put_1, am_up_hit, am_up_miss, hO2]; done)) ?_
      refine CK.mono (fun r9 h3 hr9 => ?_)
      obtain ⟨rfl, w3⟩ := hr9
      have hO3 := w3.1.2.1
      have g2 := g h3 w3
      have ee : a_n A + 1 - 1 = a_n A := by omega
      have e6 : va_up J 6 (a_n A + 1) 6 = a_n A + 1 := va_up_hit
      clear g CK w3
      refine am_go_of 10 [8, 20, 23, 28, 35, 43, 45, 57, 96, 98, 102, 121] _ c_Md_searches_122 ?_
      simp (maxSteps := 2000000) (disch := omega) only [c_Md_searches_0, c_Md_searches_1, c_Md_searches_2, c_Md_searches_3, c_Md_searches_4, c_Md_searches_5, c_Md_searches_6, c_Md_searches_7, c_Md_searches_8, c_Md_searches_9, c_Md_searches_10, c_Md_searches_11, c_Md_searches_12, c_Md_searches_13, c_Md_searches_14, c_Md_searches_15, c_Md_searches_16, c_Md_searches_17, c_Md_searches_18, c_Md_searches_19, c_Md_searches_20, c_Md_searches_21, c_Md_searches_22, c_Md_searches_23, c_Md_searches_24, c_Md_searches_25, c_Md_searches_26, c_Md_searches_27, c_Md_searches_28, c_Md_searches_29, c_Md_searches_30, c_Md_searches_31, c_Md_searches_32, c_Md_searches_33, c_Md_searches_34, c_Md_searches_35, c_Md_searches_36, c_Md_searches_37, c_Md_searches_38, c_Md_searches_39, c_Md_searches_40, c_Md_searches_41, c_Md_searches_42, c_Md_searches_43, c_Md_searches_44, c_Md_searches_45, c_Md_searches_46, c_Md_searches_47, c_Md_searches_48, c_Md_searches_49, c_Md_searches_50, c_Md_searches_51, c_Md_searches_52, c_Md_searches_53, c_Md_searches_54, c_Md_searches_55, c_Md_searches_56, c_Md_searches_57, c_Md_searches_58, c_Md_searches_59, c_Md_searches_60, c_Md_searches_61, c_Md_searches_62, c_Md_searches_63, c_Md_searches_64, c_Md_searches_65, c_Md_searches_66, c_Md_searches_67, c_Md_searches_68, c_Md_searches_69, c_Md_searches_70, c_Md_searches_71, c_Md_searches_72, c_Md_searches_73, c_Md_searches_74, c_Md_searches_75, c_Md_searches_76, c_Md_searches_77, c_Md_searches_78, c_Md_searches_79, c_Md_searches_80, c_Md_searches_81, c_Md_searches_82, c_Md_searches_83, c_Md_searches_84, c_Md_searches_85, c_Md_searches_86, c_Md_searches_87, c_Md_searches_88, c_Md_searches_89, c_Md_searches_90, c_Md_searches_91, c_Md_searches_92, c_Md_searches_93, c_Md_searches_94, c_Md_searches_95, c_Md_searches_96, c_Md_searches_97, c_Md_searches_98, c_Md_searches_99, c_Md_searches_100, c_Md_searches_101, c_Md_searches_102, c_Md_searches_103, c_Md_searches_104, c_Md_searches_105, c_Md_searches_106, c_Md_searches_107, c_Md_searches_108, c_Md_searches_109, c_Md_searches_110, c_Md_searches_111, c_Md_searches_112, c_Md_searches_113, c_Md_searches_114, c_Md_searches_115, c_Md_searches_116, c_Md_searches_117, c_Md_searches_118, c_Md_searches_119, c_Md_searches_120, c_Md_searches_121, c_Md_searches_122, c_Md_searches_123, c_Md_searches_124, c_Md_searches_125, c_Md_searches_126, c_Md_searches_127, c_Md_searches_128, c_Md_searches_129, sx_aload_n, sx_dup2_ir, sx_getfield, sx_goto, sx_iadd, sx_iaload, sx_iastore, sx_iconst, sx_ifCond_eq, sx_ifCond_ne, sx_if_icmp_eq, sx_if_icmp_ge, sx_if_icmp_lt, sx_if_icmp_ne, sx_iinc, sx_iload, sx_iload_n, sx_ireturn, sx_istore, sx_istore_n, sx_isub, sx_putfield, sx_sipush, sx_zreturn, am_W_s, am_W_0, am_mm_some, List.mem_cons, or_false, false_or, or_self, or_true, true_or, reduceIte, if_false, if_true, am_o_some, am_o_none, am_o_bad, am_o_good, am_ldi_hit, am_ldi_miss, am_lda_hit, am_lda_miss, am_ldl_hit, am_ldl_miss, am_inc_eq, am_inc_hit, am_inc_miss, am_ob_hit, am_fd_0, am_fd_s, am_ai_hit, am_ab_3, am_al_hit, am_aq_4, am_al0_hit, am_put_1, am_put_2, am_put_put, am_up_hit, am_up_miss, am_s1_eq, am_s2_eq, am_fl_nil, am_fl_hit, am_fl_int, am_fl_ref, am_fl_long, am_fl_longx, am_fl2_nil, am_fl2_hit, am_fl2_hit1, am_fl2_int, am_fl2_ref, am_fl2_long, List.not_mem_nil, not_false_eq_true, ne_eq, Nat.reduceAdd, Nat.reduceEqDiff, Nat.zero_add, Nat.add_left_cancel_iff, List.set_cons_zero, List.set_cons_succ, List.length_cons, List.length_nil, Nat.reduceLT, am_ft_i, am_ft_r, am_ft_z, and_true, true_and, Option.toList_some, Option.toList_none, List.cons_append, List.nil_append, List.drop_succ_cons, List.drop_zero, iI_c, iI_b, iI_s, iI_n, iI_add, iI_sub, iI_mul, iI_neg, iI_nle, iI_ix, iI_eq0, iI_eq1, iI_lt0, iI_0lt, iI_le0, iI_0le, iI_eq, iI_lt, iI_le, iI_upd, iI_updZ, Int.reduceEq, Int.reduceLT, Int.reduceLE, Int.reduceNeg, Int.reduceNe, hO3, e6, ee, md_fs_len, md_f0, md_f1, md_f2, md_f3, md_f4, md_f5, md_f6, md_f7, md_f8, md_f9, md_f10, md_f11, md_f12, md_f13, md_f14, md_f15, md_f16, md_f17, md_f18, md_f19, md_f20, md_f21, md_f22, md_f23, md_f24, md_f25, md_f26, md_f27, md_f28, md_f29, md_f30, md_f31, md_f32, md_f33, md_f34, md_f35, md_s0, md_s1, md_s15, md_s16, md_s17, md_s23, md_s24, md_s31, md_t1, md_t2, md_t3, md_t4, md_t5, md_t6, md_t7, md_t8, md_t9, md_t10, md_t11, md_t12, md_t13, md_t14, md_t15, md_t16, md_t17, md_t18, md_t19, md_t20, md_t21, md_t22, md_t23, md_t24, md_t25, md_t26, md_t27, md_t28, md_l1, md_l2, md_l3, md_l4, md_l5, md_l6, md_l7, md_l8, md_l9, md_l10, md_l11, md_l12, md_l13, md_l14, md_l15, md_l16, md_l17, md_l18, md_l19, md_l20, md_l21, md_l22, md_l23, md_l24, md_l25, md_l26, md_l27, md_l28]
      exact g2.lo (al_le_of (by simp) (by simp))
  · have nm : rmet (a_pt A) r' (a_n A).toNat = true := (rmet_iff _).mpr ⟨z, by omega, (hq z (by omega)).mp ez⟩
    have g := gm nm
    have n1 : ¬ z = -1 := by omega
    clear gm g3 gk hq nb2 M2
    refine am_go_of 10 [8, 20, 23, 28, 35, 43, 45, 57, 96, 98, 102, 121] _ c_Md_searches_103 ?_
    simp (maxSteps := 2000000) (disch := omega) only [c_Md_searches_0, c_Md_searches_1, c_Md_searches_2, c_Md_searches_3, c_Md_searches_4, c_Md_searches_5, c_Md_searches_6, c_Md_searches_7, c_Md_searches_8, c_Md_searches_9, c_Md_searches_10, c_Md_searches_11, c_Md_searches_12, c_Md_searches_13, c_Md_searches_14, c_Md_searches_15, c_Md_searches_16, c_Md_searches_17, c_Md_searches_18, c_Md_searches_19, c_Md_searches_20, c_Md_searches_21, c_Md_searches_22, c_Md_searches_23, c_Md_searches_24, c_Md_searches_25, c_Md_searches_26, c_Md_searches_27, c_Md_searches_28, c_Md_searches_29, c_Md_searches_30, c_Md_searches_31, c_Md_searches_32, c_Md_searches_33, c_Md_searches_34, c_Md_searches_35, c_Md_searches_36, c_Md_searches_37, c_Md_searches_38, c_Md_searches_39, c_Md_searches_40, c_Md_searches_41, c_Md_searches_42, c_Md_searches_43, c_Md_searches_44, c_Md_searches_45, c_Md_searches_46, c_Md_searches_47, c_Md_searches_48, c_Md_searches_49, c_Md_searches_50, c_Md_searches_51, c_Md_searches_52, c_Md_searches_53, c_Md_searches_54, c_Md_searches_55, c_Md_searches_56, c_Md_searches_57, c_Md_searches_58, c_Md_searches_59, c_Md_searches_60, c_Md_searches_61, c_Md_searches_62, c_Md_searches_63, c_Md_searches_64, c_Md_searches_65, c_Md_searches_66, c_Md_searches_67, c_Md_searches_68, c_Md_searches_69, c_Md_searches_70, c_Md_searches_71, c_Md_searches_72, c_Md_searches_73, c_Md_searches_74, c_Md_searches_75, c_Md_searches_76, c_Md_searches_77, c_Md_searches_78, c_Md_searches_79, c_Md_searches_80, c_Md_searches_81, c_Md_searches_82, c_Md_searches_83, c_Md_searches_84, c_Md_searches_85, c_Md_searches_86, c_Md_searches_87, c_Md_searches_88, c_Md_searches_89, c_Md_searches_90, c_Md_searches_91, c_Md_searches_92, c_Md_searches_93, c_Md_searches_94, c_Md_searches_95, c_Md_searches_96, c_Md_searches_97, c_Md_searches_98, c_Md_searches_99, c_Md_searches_100, c_Md_searches_101, c_Md_searches_102, c_Md_searches_103, c_Md_searches_104, c_Md_searches_105, c_Md_searches_106, c_Md_searches_107, c_Md_searches_108, c_Md_searches_109, c_Md_searches_110, c_Md_searches_111, c_Md_searches_112, c_Md_searches_113, c_Md_searches_114, c_Md_searches_115, c_Md_searches_116, c_Md_searches_117, c_Md_searches_118, c_Md_searches_119, c_Md_searches_120, c_Md_searches_121, c_Md_searches_122, c_Md_searches_123, c_Md_searches_124, c_Md_searches_125, c_Md_searches_126, c_Md_searches_127, c_Md_searches_128, c_Md_searches_129, sx_aload_n, sx_dup2_ir, sx_getfield, sx_goto, sx_iadd, sx_iaload, sx_iastore, sx_iconst, sx_ifCond_eq, sx_ifCond_ne, sx_if_icmp_eq, sx_if_icmp_ge, sx_if_icmp_lt, sx_if_icmp_ne, sx_iinc, sx_iload, sx_iload_n, sx_ireturn, sx_istore, sx_istore_n, sx_isub, sx_putfield, sx_sipush, sx_zreturn, am_W_s, am_W_0, am_mm_some, List.mem_cons, or_false, false_or, or_self, or_true, true_or, reduceIte, if_false, if_true, am_o_some, am_o_none, am_o_bad, am_o_good, am_ldi_hit, am_ldi_miss, am_lda_hit, am_lda_miss, am_ldl_hit, am_ldl_miss, am_inc_eq, am_inc_hit, am_inc_miss, am_ob_hit, am_fd_0, am_fd_s, am_ai_hit, am_ab_3, am_al_hit, am_aq_4, am_al0_hit, am_put_1, am_put_2, am_put_put, am_up_hit, am_up_miss, am_s1_eq, am_s2_eq, am_fl_nil, am_fl_hit, am_fl_int, am_fl_ref, am_fl_long, am_fl_longx, am_fl2_nil, am_fl2_hit, am_fl2_hit1, am_fl2_int, am_fl2_ref, am_fl2_long, List.not_mem_nil, not_false_eq_true, ne_eq, Nat.reduceAdd, Nat.reduceEqDiff, Nat.zero_add, Nat.add_left_cancel_iff, List.set_cons_zero, List.set_cons_succ, List.length_cons, List.length_nil, Nat.reduceLT, am_ft_i, am_ft_r, am_ft_z, and_true, true_and, Option.toList_some, Option.toList_none, List.cons_append, List.nil_append, List.drop_succ_cons, List.drop_zero, iI_c, iI_b, iI_s, iI_n, iI_add, iI_sub, iI_mul, iI_neg, iI_nle, iI_ix, iI_eq0, iI_eq1, iI_lt0, iI_0lt, iI_le0, iI_0le, iI_eq, iI_lt, iI_le, iI_upd, iI_updZ, Int.reduceEq, Int.reduceLT, Int.reduceLE, Int.reduceNeg, Int.reduceNe, n1, md_fs_len, md_f0, md_f1, md_f2, md_f3, md_f4, md_f5, md_f6, md_f7, md_f8, md_f9, md_f10, md_f11, md_f12, md_f13, md_f14, md_f15, md_f16, md_f17, md_f18, md_f19, md_f20, md_f21, md_f22, md_f23, md_f24, md_f25, md_f26, md_f27, md_f28, md_f29, md_f30, md_f31, md_f32, md_f33, md_f34, md_f35, md_s0, md_s1, md_s15, md_s16, md_s17, md_s23, md_s24, md_s31, md_t1, md_t2, md_t3, md_t4, md_t5, md_t6, md_t7, md_t8, md_t9, md_t10, md_t11, md_t12, md_t13, md_t14, md_t15, md_t16, md_t17, md_t18, md_t19, md_t20, md_t21, md_t22, md_t23, md_t24, md_t25, md_t26, md_t27, md_t28, md_l1, md_l2, md_l3, md_l4, md_l5, md_l6, md_l7, md_l8, md_l9, md_l10, md_l11, md_l12, md_l13, md_l14, md_l15, md_l16, md_l17, md_l18, md_l19, md_l20, md_l21, md_l22, md_l23, md_l24, md_l25, md_l26, md_l27, md_l28]
    exact g.lo (al_le_of (by simp) (by simp))
/-- what the reference's search comes to -/
def se_q (h0 : am_H) (o : Nat) (I : Nat → Int) (F : Nat → Int → Int) (r0 : rn) (res : Option sst) (r9 : Option Value) (h' : am_H) : Prop :=
  match res with
  | some A => r9 = some (.int (iI 1)) ∧ ∃ J G, md_to h0 o J G h' ∧ ms_pt I F r0 J G A ∧ s_iv I F r0 A ∧ 1 ≤ a_n A
  | none => r9 = some (.int (iI 0)) ∧ ∃ J G, md_to h0 o J G h' ∧ ms_rs I F r0 J G
set_option maxHeartbeats 8000000 in
theorem lp_se (d : Nat) (hd : 7 ≤ d) (h0 : am_H) (o : Nat) (I : Nat → Int) (F : Nat → Int → Int) (hr : md_rg I F) (hw : md_wf I F) (h5 : ∀ t : Int, 0 ≤ t ∧ t < 6 → F 5 t = 0 ∨ F 5 t = 1) (r0 : rn) : ∀ (k : Nat) (A : sst) (h : am_H) (J : Nat → Int) (G : Nat → Int → Int), s_iv I F r0 A → 1 ≤ a_n A → msr A ≤ k → md_to h0 o J G h → ms_pt I F r0 J G A → ms_tr G (a_sk A) → am_Go am_df am_MT d c_Md_searches (28, [(2, .int (iI 1)), (1, .int (iI (s_hd (a_sk A)))), (0, .ref o)], [], h) (se_q h0 o I F r0 (s_run I F k A)) := by
  have hI := hr.1
  intro k
  induction k with
  | zero =>
    intro A h J G hA hn hm T M tr
    have i1 := hA.1
    cases hs : a_sk A with
    | nil =>
      rw [s_run_nil hs]
      have g : se_q h0 o I F r0 (some A) (some (.int (iI 1))) h := ⟨rfl, J, G, T, M, hA, hn⟩
      have eh : s_hd ([] : List (Int × Int)) = -1 := rfl
      rw [eh]
      generalize se_q h0 o I F r0 (some A) = Q at *
      refine am_go_of 10 [8, 20, 23, 28, 35, 43, 45, 57, 96, 98, 102, 121] _ c_Md_searches_28 ?_
      simp (maxSteps := 2000000) (disch := omega) only [c_Md_searches_0, c_Md_searches_1, c_Md_searches_2, c_Md_searches_3, c_Md_searches_4, c_Md_searches_5, c_Md_searches_6, c_Md_searches_7, c_Md_searches_8, c_Md_searches_9, c_Md_searches_10, c_Md_searches_11, c_Md_searches_12, c_Md_searches_13, c_Md_searches_14, c_Md_searches_15, c_Md_searches_16, c_Md_searches_17, c_Md_searches_18, c_Md_searches_19, c_Md_searches_20, c_Md_searches_21, c_Md_searches_22, c_Md_searches_23, c_Md_searches_24, c_Md_searches_25, c_Md_searches_26, c_Md_searches_27, c_Md_searches_28, c_Md_searches_29, c_Md_searches_30, c_Md_searches_31, c_Md_searches_32, c_Md_searches_33, c_Md_searches_34, c_Md_searches_35, c_Md_searches_36, c_Md_searches_37, c_Md_searches_38, c_Md_searches_39, c_Md_searches_40, c_Md_searches_41, c_Md_searches_42, c_Md_searches_43, c_Md_searches_44, c_Md_searches_45, c_Md_searches_46, c_Md_searches_47, c_Md_searches_48, c_Md_searches_49, c_Md_searches_50, c_Md_searches_51, c_Md_searches_52, c_Md_searches_53, c_Md_searches_54, c_Md_searches_55, c_Md_searches_56, c_Md_searches_57, c_Md_searches_58, c_Md_searches_59, c_Md_searches_60, c_Md_searches_61, c_Md_searches_62, c_Md_searches_63, c_Md_searches_64, c_Md_searches_65, c_Md_searches_66, c_Md_searches_67, c_Md_searches_68, c_Md_searches_69, c_Md_searches_70, c_Md_searches_71, c_Md_searches_72, c_Md_searches_73, c_Md_searches_74, c_Md_searches_75, c_Md_searches_76, c_Md_searches_77, c_Md_searches_78, c_Md_searches_79, c_Md_searches_80, c_Md_searches_81, c_Md_searches_82, c_Md_searches_83, c_Md_searches_84, c_Md_searches_85, c_Md_searches_86, c_Md_searches_87, c_Md_searches_88, c_Md_searches_89, c_Md_searches_90, c_Md_searches_91, c_Md_searches_92, c_Md_searches_93, c_Md_searches_94, c_Md_searches_95, c_Md_searches_96, c_Md_searches_97, c_Md_searches_98, c_Md_searches_99, c_Md_searches_100, c_Md_searches_101, c_Md_searches_102, c_Md_searches_103, c_Md_searches_104, c_Md_searches_105, c_Md_searches_106, c_Md_searches_107, c_Md_searches_108, c_Md_searches_109, c_Md_searches_110, c_Md_searches_111, c_Md_searches_112, c_Md_searches_113, c_Md_searches_114, c_Md_searches_115, c_Md_searches_116, c_Md_searches_117, c_Md_searches_118, c_Md_searches_119, c_Md_searches_120, c_Md_searches_121, c_Md_searches_122, c_Md_searches_123, c_Md_searches_124, c_Md_searches_125, c_Md_searches_126, c_Md_searches_127, c_Md_searches_128, c_Md_searches_129, sx_aload_n, sx_dup2_ir, sx_getfield, sx_goto, sx_iadd, sx_iaload, sx_iastore, sx_iconst, sx_ifCond_eq, sx_ifCond_ne, sx_if_icmp_eq, sx_if_icmp_ge, sx_if_icmp_lt, sx_if_icmp_ne, sx_iinc, sx_iload, sx_iload_n, sx_ireturn, sx_istore, sx_istore_n, sx_isub, sx_putfield, sx_sipush, sx_zreturn, am_W_s, am_W_0, am_mm_some, List.mem_cons, or_false, false_or, or_self, or_true, true_or, reduceIte, if_false, if_true, am_o_some, am_o_none, am_o_bad, am_o_good, am_ldi_hit, am_ldi_miss, am_lda_hit, am_lda_miss, am_ldl_hit, am_ldl_miss, am_inc_eq, am_inc_hit, am_inc_miss, am_ob_hit, am_fd_0, am_fd_s, am_ai_hit, am_ab_3, am_al_hit, am_aq_4, am_al0_hit, am_put_1, am_put_2, am_put_put, am_up_hit, am_up_miss, am_s1_eq, am_s2_eq, am_fl_nil, am_fl_hit, am_fl_int, am_fl_ref, am_fl_long, am_fl_longx, am_fl2_nil, am_fl2_hit, am_fl2_hit1, am_fl2_int, am_fl2_ref, am_fl2_long, List.not_mem_nil, not_false_eq_true, ne_eq, Nat.reduceAdd, Nat.reduceEqDiff, Nat.zero_add, Nat.add_left_cancel_iff, List.set_cons_zero, List.set_cons_succ, List.length_cons, List.length_nil, Nat.reduceLT, am_ft_i, am_ft_r, am_ft_z, and_true, true_and, Option.toList_some, Option.toList_none, List.cons_append, List.nil_append, List.drop_succ_cons, List.drop_zero, iI_c, iI_b, iI_s, iI_n, iI_add, iI_sub, iI_mul, iI_neg, iI_nle, iI_ix, iI_eq0, iI_eq1, iI_lt0, iI_0lt, iI_le0, iI_0le, iI_eq, iI_lt, iI_le, iI_upd, iI_updZ, Int.reduceEq, Int.reduceLT, Int.reduceLE, Int.reduceNeg, Int.reduceNe, md_fs_len, md_f0, md_f1, md_f2, md_f3, md_f4, md_f5, md_f6, md_f7, md_f8, md_f9, md_f10, md_f11, md_f12, md_f13, md_f14, md_f15, md_f16, md_f17, md_f18, md_f19, md_f20, md_f21, md_f22, md_f23, md_f24, md_f25, md_f26, md_f27, md_f28, md_f29, md_f30, md_f31, md_f32, md_f33, md_f34, md_f35, md_s0, md_s1, md_s15, md_s16, md_s17, md_s23, md_s24, md_s31, md_t1, md_t2, md_t3, md_t4, md_t5, md_t6, md_t7, md_t8, md_t9, md_t10, md_t11, md_t12, md_t13, md_t14, md_t15, md_t16, md_t17, md_t18, md_t19, md_t20, md_t21, md_t22, md_t23, md_t24, md_t25, md_t26, md_t27, md_t28, md_l1, md_l2, md_l3, md_l4, md_l5, md_l6, md_l7, md_l8, md_l9, md_l10, md_l11, md_l12, md_l13, md_l14, md_l15, md_l16, md_l17, md_l18, md_l19, md_l20, md_l21, md_l22, md_l23, md_l24, md_l25, md_l26, md_l27, md_l28]
      exact g
    | cons e rest =>
      have ch := hA.2.2.2.2.2
      rw [hs] at ch
      have s0 := ssum_0 rest ch.2.2.2.2.2
      have e2 := ch.2.1
      have em : msr A = 4 - e.2 + ssum rest + 4 * (3000 - a_n A) := by
        unfold msr
        rw [hs]
        rfl
      omega
  | succ k ih =>
    intro A h J G hA hn hm T M tr
    have i1 := hA.1
    cases hs : a_sk A with
    | nil =>
      rw [s_run_nil hs]
      have g : se_q h0 o I F r0 (some A) (some (.int (iI 1))) h := ⟨rfl, J, G, T, M, hA, hn⟩
      have eh : s_hd ([] : List (Int × Int)) = -1 := rfl
      rw [eh]
      generalize se_q h0 o I F r0 (some A) = Q at *
      refine am_go_of 10 [8, 20, 23, 28, 35, 43, 45, 57, 96, 98, 102, 121] _ c_Md_searches_28 ?_
      simp (maxSteps := 2000000) (disch := omega) only [c_Md_searches_0, c_Md_searches_1, c_Md_searches_2, c_Md_searches_3, c_Md_searches_4, c_Md_searches_5, c_Md_searches_6, c_Md_searches_7, c_Md_searches_8, c_Md_searches_9, c_Md_searches_10, c_Md_searches_11, c_Md_searches_12, c_Md_searches_13, c_Md_searches_14, c_Md_searches_15, c_Md_searches_16, c_Md_searches_17, c_Md_searches_18, c_Md_searches_19, c_Md_searches_20, c_Md_searches_21, c_Md_searches_22, c_Md_searches_23, c_Md_searches_24, c_Md_searches_25, c_Md_searches_26, c_Md_searches_27, c_Md_searches_28, c_Md_searches_29, c_Md_searches_30, c_Md_searches_31, c_Md_searches_32, c_Md_searches_33, c_Md_searches_34, c_Md_searches_35, c_Md_searches_36, c_Md_searches_37, c_Md_searches_38, c_Md_searches_39, c_Md_searches_40, c_Md_searches_41, c_Md_searches_42, c_Md_searches_43, c_Md_searches_44, c_Md_searches_45, c_Md_searches_46, c_Md_searches_47, c_Md_searches_48, c_Md_searches_49, c_Md_searches_50, c_Md_searches_51, c_Md_searches_52, c_Md_searches_53, c_Md_searches_54, c_Md_searches_55, c_Md_searches_56, c_Md_searches_57, c_Md_searches_58, c_Md_searches_59, c_Md_searches_60, c_Md_searches_61, c_Md_searches_62, c_Md_searches_63, c_Md_searches_64, c_Md_searches_65, c_Md_searches_66, c_Md_searches_67, c_Md_searches_68, c_Md_searches_69, c_Md_searches_70, c_Md_searches_71, c_Md_searches_72, c_Md_searches_73, c_Md_searches_74, c_Md_searches_75, c_Md_searches_76, c_Md_searches_77, c_Md_searches_78, c_Md_searches_79, c_Md_searches_80, c_Md_searches_81, c_Md_searches_82, c_Md_searches_83, c_Md_searches_84, c_Md_searches_85, c_Md_searches_86, c_Md_searches_87, c_Md_searches_88, c_Md_searches_89, c_Md_searches_90, c_Md_searches_91, c_Md_searches_92, c_Md_searches_93, c_Md_searches_94, c_Md_searches_95, c_Md_searches_96, c_Md_searches_97, c_Md_searches_98, c_Md_searches_99, c_Md_searches_100, c_Md_searches_101, c_Md_searches_102, c_Md_searches_103, c_Md_searches_104, c_Md_searches_105, c_Md_searches_106, c_Md_searches_107, c_Md_searches_108, c_Md_searches_109, c_Md_searches_110, c_Md_searches_111, c_Md_searches_112, c_Md_searches_113, c_Md_searches_114, c_Md_searches_115, c_Md_searches_116, c_Md_searches_117, c_Md_searches_118, c_Md_searches_119, c_Md_searches_120, c_Md_searches_121, c_Md_searches_122, c_Md_searches_123, c_Md_searches_124, c_Md_searches_125, c_Md_searches_126, c_Md_searches_127, c_Md_searches_128, c_Md_searches_129, sx_aload_n, sx_dup2_ir, sx_getfield, sx_goto, sx_iadd, sx_iaload, sx_iastore, sx_iconst, sx_ifCond_eq, sx_ifCond_ne, sx_if_icmp_eq, sx_if_icmp_ge, sx_if_icmp_lt, sx_if_icmp_ne, sx_iinc, sx_iload, sx_iload_n, sx_ireturn, sx_istore, sx_istore_n, sx_isub, sx_putfield, sx_sipush, sx_zreturn, am_W_s, am_W_0, am_mm_some, List.mem_cons, or_false, false_or, or_self, or_true, true_or, reduceIte, if_false, if_true, am_o_some, am_o_none, am_o_bad, am_o_good, am_ldi_hit, am_ldi_miss, am_lda_hit, am_lda_miss, am_ldl_hit, am_ldl_miss, am_inc_eq, am_inc_hit, am_inc_miss, am_ob_hit, am_fd_0, am_fd_s, am_ai_hit, am_ab_3, am_al_hit, am_aq_4, am_al0_hit, am_put_1, am_put_2, am_put_put, am_up_hit, am_up_miss, am_s1_eq, am_s2_eq, am_fl_nil, am_fl_hit, am_fl_int, am_fl_ref, am_fl_long, am_fl_longx, am_fl2_nil, am_fl2_hit, am_fl2_hit1, am_fl2_int, am_fl2_ref, am_fl2_long, List.not_mem_nil, not_false_eq_true, ne_eq, Nat.reduceAdd, Nat.reduceEqDiff, Nat.zero_add, Nat.add_left_cancel_iff, List.set_cons_zero, List.set_cons_succ, List.length_cons, List.length_nil, Nat.reduceLT, am_ft_i, am_ft_r, am_ft_z, and_true, true_and, Option.toList_some, Option.toList_none, List.cons_append, List.nil_append, List.drop_succ_cons, List.drop_zero, iI_c, iI_b, iI_s, iI_n, iI_add, iI_sub, iI_mul, iI_neg, iI_nle, iI_ix, iI_eq0, iI_eq1, iI_lt0, iI_0lt, iI_le0, iI_0le, iI_eq, iI_lt, iI_le, iI_upd, iI_updZ, Int.reduceEq, Int.reduceLT, Int.reduceLE, Int.reduceNeg, Int.reduceNe, md_fs_len, md_f0, md_f1, md_f2, md_f3, md_f4, md_f5, md_f6, md_f7, md_f8, md_f9, md_f10, md_f11, md_f12, md_f13, md_f14, md_f15, md_f16, md_f17, md_f18, md_f19, md_f20, md_f21, md_f22, md_f23, md_f24, md_f25, md_f26, md_f27, md_f28, md_f29, md_f30, md_f31, md_f32, md_f33, md_f34, md_f35, md_s0, md_s1, md_s15, md_s16, md_s17, md_s23, md_s24, md_s31, md_t1, md_t2, md_t3, md_t4, md_t5, md_t6, md_t7, md_t8, md_t9, md_t10, md_t11, md_t12, md_t13, md_t14, md_t15, md_t16, md_t17, md_t18, md_t19, md_t20, md_t21, md_t22, md_t23, md_t24, md_t25, md_t26, md_t27, md_t28, md_l1, md_l2, md_l3, md_l4, md_l5, md_l6, md_l7, md_l8, md_l9, md_l10, md_l11, md_l12, md_l13, md_l14, md_l15, md_l16, md_l17, md_l18, md_l19, md_l20, md_l21, md_l22, md_l23, md_l24, md_l25, md_l26, md_l27, md_l28]
      exact g
    | cons e rest =>
      rw [s_run_cons hs]
      have ch := hA.2.2.2.2.2
      rw [hs] at ch tr
      obtain ⟨p, t⟩ := e
      obtain ⟨t1, t2, t3⟩ := tr
      have c1 : 0 ≤ p ∧ p < a_n A := ch.1
      have c2 : 0 ≤ t ∧ t ≤ 3 := ch.2.1
      have iv := hA.2.2.2.1 p c1
      have nx := nxh_sp (I := I) (F := F) (r := a_pt A p) hI.2.2.2 3 t c2.2 (by omega)
      have lt := s_ch_lt rest ch.2.2.2.2.2
      have neq : ∀ e, e ∈ rest → e.1 ≠ p := fun e he z => by
        have a := (lt e he).2
        have b : a_ln A p = rest.length := ch.2.2.2.1
        rw [z] at a
        omega
      have nxt : ∀ A' h' J' G', s_step I F A (p, t) rest = some A' → md_to h0 o J' G' h' → ms_pt I F r0 J' G' A' → ms_tr G' (a_sk A') → am_Go am_df am_MT d c_Md_searches (28, [(2, .int (iI 1)), (1, .int (iI (s_hd (a_sk A')))), (0, .ref o)], [], h') (se_q h0 o I F r0 ((s_step I F A (p, t) rest).bind (s_run I F k))) := fun A' h' J' G' es T' M' t' => by
        have q := s_step_iv hr hw hA hs es
        have na : a_n A ≤ a_n A' := s_step_n es
        rw [es]
        exact ih A' h' J' G' q.1 (by omega) (by omega) T' M' t'
      have nof : s_step I F A (p, t) rest = none → ∀ h' J' G', md_to h0 o J' G' h' → ms_rs I F r0 J' G' → se_q h0 o I F r0 ((s_step I F A (p, t) rest).bind (s_run I F k)) (some (.int (iI 0))) h' := fun es h' J' G' T' M' => by
        rw [es]
        exact ⟨rfl, J', G', T', M'⟩
      clear ih
      generalize se_q h0 o I F r0 ((s_step I F A (p, t) rest).bind (s_run I F k)) = Q at *
      show am_Go am_df am_MT d c_Md_searches (28, [(2, .int (iI 1)), (1, .int (iI p)), (0, .ref o)], [], h) Q
      refine se_v1 d hd h0 h o I F hr h5 r0 A hA J G T M p t c1 c2 t1 ch.2.2.1 Q (fun h1 G1 T1 M1 v1 k1 => ?_)
      obtain ⟨j0, j1, j3⟩ := ms_j M1
      have g22 : G1 22 p = t := by
        rw [k1 22 (by decide) (by decide)]
        exact t1
      have T0 : md_to h0 o J (va_up G1 22 (vI (G1 22) p t)) h1 := by
        rw [← g22, vI_same, va_up_same rfl]
        exact T1
      refine lp_tr d (by omega) h0 o I F hr J j0 j1 G1 M1.2.2.1 (a_pt A p) iv.1 v1 p 1 ⟨c1.1, by omega⟩ (nxh I F (a_pt A p) 3 t) Q (fun h2 T2 => ?_) 3 t h1 c2.1 c2.2 (by omega) rfl T0
      have y22 : va_up G1 22 (vI (G1 22) p (nxh I F (a_pt A p) 3 t)) 22 p = nxh I F (a_pt A p) 3 t := by
        rw [va_up_hit, vI_hit]
      have y20 : va_up G1 22 (vI (G1 22) p (nxh I F (a_pt A p) 3 t)) 20 p = s_hd rest := by
        rw [va_up_miss (by decide), k1 20 (by decide) (by decide)]
        exact t2
      have M2 : ms_pt I F r0 J (va_up G1 22 (vI (G1 22) p (nxh I F (a_pt A p) 3 t))) A := M1.cg (fun k q1 q2 q3 => va_up_miss q3) (M1.2.2.1.up (Or.inl (by decide))) ((va_up_miss (by decide)).trans v1) iv.2.1
      have v2 : va_up G1 22 (vI (G1 22) p (nxh I F (a_pt A p) 3 t)) 13 = vec (a_pt A p) := (va_up_miss (by decide)).trans v1
      have tr2 : ms_tr (va_up G1 22 (vI (G1 22) p (nxh I F (a_pt A p) 3 t))) rest := ms_tr_congr (G := G) rest (fun e he => by
        rw [va_up_hit, va_up_miss (by decide), vI_miss (neq e he), k1 22 (by decide) (by decide), k1 20 (by decide) (by decide)]
        exact ⟨rfl, rfl⟩) t3
      have estep : s_step I F A (p, t) rest = if nxh I F (a_pt A p) 3 t < I 1 then s_come I F (s_stk A ((p, nxh I F (a_pt A p) 3 t + 1) :: rest)) (sq_steps F (a_pt A p) (nxh I F (a_pt A p) 3 t)).1 (a_ln A p + 1) (vI (a_wa A p) (a_ln A p) (nxh I F (a_pt A p) 3 t)) else some (s_stk A rest) := rfl
      rw [estep] at nxt nof
      clear estep T1 M1 T0 k1 g22
      generalize va_up G1 22 (vI (G1 22) p (nxh I F (a_pt A p) 3 t)) = G2 at *
      generalize nxh I F (a_pt A p) 3 t = th at *
      by_cases cth : th < I 1
      · rw [if_pos cth] at nxt nof
        exact se_go d hd h0 h2 o I F hr hw h5 r0 A hA J G2 T2 M2 p t th rest hs v2 y22 y20 tr2 ⟨by omega, cth⟩ (nx.2.1 cth) Q nxt nof
      · rw [if_neg cth] at nxt nof
        have g := nxt _ h2 J G2 rfl T2 M2.stk tr2
        have eh : s_hd (a_sk (s_stk A rest)) = G2 20 p := y20.symm
        rw [eh] at g
        exact se_pop d h2 o J G2 T2.1 p th 1 ⟨c1.1, by omega⟩ y22 (by omega) (by omega) Q g
