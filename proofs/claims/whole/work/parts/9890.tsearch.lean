theorem mt_TS_search : am_MT[75]? = some m_TS_search := rfl
theorem c_TS_search_0 : c_TS_search[0]? = some (0, 1, .aload_n 0, 0, 0, 0, 0, 0, []) := Eq.trans rfl rfl
theorem c_TS_search_1 : c_TS_search[1]? = some (1, 3, .getfield 41, 0, 4, 0, 0, 327, []) := Eq.trans rfl rfl
theorem c_TS_search_2 : c_TS_search[2]? = some (4, 1, .iconst (-1), 0, 0, 0, 0, 0, []) := Eq.trans rfl rfl
theorem c_TS_search_3 : c_TS_search[3]? = some (5, 3, .if_icmp .ne 18, 11, 0, 0, 0, 0, []) := Eq.trans rfl rfl
theorem c_TS_search_4 : c_TS_search[4]? = some (8, 1, .aload_n 0, 0, 0, 0, 0, 0, []) := Eq.trans rfl rfl
theorem c_TS_search_5 : c_TS_search[5]? = some (9, 1, .aload_n 0, 0, 0, 0, 0, 0, []) := Eq.trans rfl rfl
theorem c_TS_search_6 : c_TS_search[6]? = some (10, 3, .getfield 37, 0, 3, 0, 0, 326, []) := Eq.trans rfl rfl
theorem c_TS_search_7 : c_TS_search[7]? = some (13, 1, .aload_n 0, 0, 0, 0, 0, 0, []) := Eq.trans rfl rfl
theorem c_TS_search_8 : c_TS_search[8]? = some (14, 3, .getfield 30, 0, 2, 0, 0, 325, []) := Eq.trans rfl rfl
theorem c_TS_search_9 : c_TS_search[9]? = some (17, 3, .invokevirtual 172, 76, 2, 5, 0, 619, []) := Eq.trans rfl rfl
theorem c_TS_search_10 : c_TS_search[10]? = some (20, 3, .putfield 41, 0, 4, 0, 0, 327, []) := Eq.trans rfl rfl
theorem c_TS_search_11 : c_TS_search[11]? = some (23, 1, .aload_n 0, 0, 0, 0, 0, 0, []) := Eq.trans rfl rfl
theorem c_TS_search_12 : c_TS_search[12]? = some (24, 3, .getfield 41, 0, 4, 0, 0, 327, []) := Eq.trans rfl rfl
theorem c_TS_search_13 : c_TS_search[13]? = some (27, 1, .ireturn, 0, 0, 0, 0, 0, []) := Eq.trans rfl rfl
theorem mt_TS_points : am_MT[93]? = some m_TS_points := rfl
theorem c_TS_points_0 : c_TS_points[0]? = some (0, 1, .aload_n 0, 0, 0, 0, 0, 0, []) := Eq.trans rfl rfl
theorem c_TS_points_1 : c_TS_points[1]? = some (1, 3, .invokevirtual 176, 94, 1, 0, 0, 701, []) := Eq.trans rfl rfl
theorem c_TS_points_2 : c_TS_points[2]? = some (4, 3, .ifCond .eq 16, 8, 0, 0, 0, 0, []) := Eq.trans rfl rfl
theorem c_TS_points_3 : c_TS_points[3]? = some (7, 1, .aload_n 0, 0, 0, 0, 0, 0, []) := Eq.trans rfl rfl
theorem c_TS_points_4 : c_TS_points[4]? = some (8, 3, .getfield 37, 0, 3, 0, 0, 326, []) := Eq.trans rfl rfl
theorem c_TS_points_5 : c_TS_points[5]? = some (11, 3, .getfield 180, 5, 0, 0, 0, 300, []) := Eq.trans rfl rfl
theorem c_TS_points_6 : c_TS_points[6]? = some (14, 3, .getfield 184, 6, 0, 0, 0, 262, []) := Eq.trans rfl rfl
theorem c_TS_points_7 : c_TS_points[7]? = some (17, 3, .goto 5, 9, 0, 0, 0, 0, []) := Eq.trans rfl rfl
theorem c_TS_points_8 : c_TS_points[8]? = some (20, 2, .bipush (-3), 0, 0, 0, 0, 0, []) := Eq.trans rfl rfl
theorem c_TS_points_9 : c_TS_points[9]? = some (22, 1, .ireturn, 0, 0, 0, 0, 0, []) := Eq.trans rfl rfl
theorem mt_TS_stuck : am_MT[95]? = some m_TS_stuck := rfl
theorem c_TS_stuck_0 : c_TS_stuck[0]? = some (0, 1, .aload_n 0, 0, 0, 0, 0, 0, []) := Eq.trans rfl rfl
theorem c_TS_stuck_1 : c_TS_stuck[1]? = some (1, 3, .invokevirtual 176, 94, 1, 0, 0, 701, []) := Eq.trans rfl rfl
theorem c_TS_stuck_2 : c_TS_stuck[2]? = some (4, 3, .ifCond .eq 16, 8, 0, 0, 0, 0, []) := Eq.trans rfl rfl
theorem c_TS_stuck_3 : c_TS_stuck[3]? = some (7, 1, .aload_n 0, 0, 0, 0, 0, 0, []) := Eq.trans rfl rfl
theorem c_TS_stuck_4 : c_TS_stuck[4]? = some (8, 3, .getfield 37, 0, 3, 0, 0, 326, []) := Eq.trans rfl rfl
theorem c_TS_stuck_5 : c_TS_stuck[5]? = some (11, 3, .getfield 187, 5, 1, 0, 0, 302, []) := Eq.trans rfl rfl
theorem c_TS_stuck_6 : c_TS_stuck[6]? = some (14, 3, .invokevirtual 191, 96, 1, 7, 0, 709, []) := Eq.trans rfl rfl
theorem c_TS_stuck_7 : c_TS_stuck[7]? = some (17, 3, .goto 5, 9, 0, 0, 0, 0, []) := Eq.trans rfl rfl
theorem c_TS_stuck_8 : c_TS_stuck[8]? = some (20, 2, .bipush (-3), 0, 0, 0, 0, 0, []) := Eq.trans rfl rfl
theorem c_TS_stuck_9 : c_TS_stuck[9]? = some (22, 1, .ireturn, 0, 0, 0, 0, 0, []) := Eq.trans rfl rfl
theorem mt_TS_outcome : am_MT[99]? = some m_TS_outcome := rfl
theorem c_TS_outcome_0 : c_TS_outcome[0]? = some (0, 1, .aload_n 0, 0, 0, 0, 0, 0, []) := Eq.trans rfl rfl
theorem c_TS_outcome_1 : c_TS_outcome[1]? = some (1, 3, .invokevirtual 176, 94, 1, 0, 0, 701, []) := Eq.trans rfl rfl
theorem c_TS_outcome_2 : c_TS_outcome[2]? = some (4, 3, .ifCond .eq 18, 10, 0, 0, 0, 0, []) := Eq.trans rfl rfl
theorem c_TS_outcome_3 : c_TS_outcome[3]? = some (7, 1, .aload_n 0, 0, 0, 0, 0, 0, []) := Eq.trans rfl rfl
theorem c_TS_outcome_4 : c_TS_outcome[4]? = some (8, 3, .getfield 37, 0, 3, 0, 0, 326, []) := Eq.trans rfl rfl
theorem c_TS_outcome_5 : c_TS_outcome[5]? = some (11, 3, .getfield 187, 5, 1, 0, 0, 302, []) := Eq.trans rfl rfl
theorem c_TS_outcome_6 : c_TS_outcome[6]? = some (14, 1, .iload_n 1, 1, 0, 0, 0, 0, []) := Eq.trans rfl rfl
theorem c_TS_outcome_7 : c_TS_outcome[7]? = some (15, 1, .iload_n 2, 2, 0, 0, 0, 0, []) := Eq.trans rfl rfl
theorem c_TS_outcome_8 : c_TS_outcome[8]? = some (16, 3, .invokevirtual 196, 98, 3, 7, 0, 728, []) := Eq.trans rfl rfl
theorem c_TS_outcome_9 : c_TS_outcome[9]? = some (19, 3, .goto 6, 11, 0, 0, 0, 0, []) := Eq.trans rfl rfl
theorem c_TS_outcome_10 : c_TS_outcome[10]? = some (22, 3, .sipush (-1000), 0, 0, 0, 0, 0, []) := Eq.trans rfl rfl
theorem c_TS_outcome_11 : c_TS_outcome[11]? = some (25, 1, .ireturn, 0, 0, 0, 0, 0, []) := Eq.trans rfl rfl
theorem mt_TS_witness : am_MT[100]? = some m_TS_witness := rfl
theorem c_TS_witness_0 : c_TS_witness[0]? = some (0, 1, .aload_n 0, 0, 0, 0, 0, 0, []) := Eq.trans rfl rfl
theorem c_TS_witness_1 : c_TS_witness[1]? = some (1, 3, .invokevirtual 176, 94, 1, 0, 0, 701, []) := Eq.trans rfl rfl
theorem c_TS_witness_2 : c_TS_witness[2]? = some (4, 3, .ifCond .eq 18, 10, 0, 0, 0, 0, []) := Eq.trans rfl rfl
theorem c_TS_witness_3 : c_TS_witness[3]? = some (7, 1, .aload_n 0, 0, 0, 0, 0, 0, []) := Eq.trans rfl rfl
theorem c_TS_witness_4 : c_TS_witness[4]? = some (8, 3, .getfield 37, 0, 3, 0, 0, 326, []) := Eq.trans rfl rfl
theorem c_TS_witness_5 : c_TS_witness[5]? = some (11, 3, .getfield 187, 5, 1, 0, 0, 302, []) := Eq.trans rfl rfl
theorem c_TS_witness_6 : c_TS_witness[6]? = some (14, 1, .iload_n 1, 1, 0, 0, 0, 0, []) := Eq.trans rfl rfl
theorem c_TS_witness_7 : c_TS_witness[7]? = some (15, 1, .iload_n 2, 2, 0, 0, 0, 0, []) := Eq.trans rfl rfl
theorem c_TS_witness_8 : c_TS_witness[8]? = some (16, 3, .invokevirtual 197, 101, 3, 7, 0, 733, []) := Eq.trans rfl rfl
theorem c_TS_witness_9 : c_TS_witness[9]? = some (19, 3, .goto 5, 11, 0, 0, 0, 0, []) := Eq.trans rfl rfl
theorem c_TS_witness_10 : c_TS_witness[10]? = some (22, 2, .bipush (-3), 0, 0, 0, 0, 0, []) := Eq.trans rfl rfl
theorem c_TS_witness_11 : c_TS_witness[11]? = some (24, 1, .ireturn, 0, 0, 0, 0, 0, []) := Eq.trans rfl rfl
theorem mt_TS_holds : am_MT[102]? = some m_TS_holds := rfl
theorem c_TS_holds_0 : c_TS_holds[0]? = some (0, 1, .aload_n 0, 0, 0, 0, 0, 0, []) := Eq.trans rfl rfl
theorem c_TS_holds_1 : c_TS_holds[1]? = some (1, 3, .invokevirtual 176, 94, 1, 0, 0, 701, []) := Eq.trans rfl rfl
theorem c_TS_holds_2 : c_TS_holds[2]? = some (4, 3, .ifCond .ne 6, 5, 0, 0, 0, 0, []) := Eq.trans rfl rfl
theorem c_TS_holds_3 : c_TS_holds[3]? = some (7, 2, .bipush (-3), 0, 0, 0, 0, 0, []) := Eq.trans rfl rfl
theorem c_TS_holds_4 : c_TS_holds[4]? = some (9, 1, .ireturn, 0, 0, 0, 0, 0, []) := Eq.trans rfl rfl
theorem c_TS_holds_5 : c_TS_holds[5]? = some (10, 1, .aload_n 0, 0, 0, 0, 0, 0, []) := Eq.trans rfl rfl
theorem c_TS_holds_6 : c_TS_holds[6]? = some (11, 3, .getfield 37, 0, 3, 0, 0, 326, []) := Eq.trans rfl rfl
theorem c_TS_holds_7 : c_TS_holds[7]? = some (14, 3, .getfield 187, 5, 1, 0, 0, 302, []) := Eq.trans rfl rfl
theorem c_TS_holds_8 : c_TS_holds[8]? = some (17, 3, .invokevirtual 191, 96, 1, 7, 0, 709, []) := Eq.trans rfl rfl
theorem c_TS_holds_9 : c_TS_holds[9]? = some (20, 3, .ifCond .eq 13, 14, 0, 0, 0, 0, []) := Eq.trans rfl rfl
theorem c_TS_holds_10 : c_TS_holds[10]? = some (23, 1, .aload_n 0, 0, 0, 0, 0, 0, []) := Eq.trans rfl rfl
theorem c_TS_holds_11 : c_TS_holds[11]? = some (24, 3, .getfield 21, 0, 1, 0, 0, 324, []) := Eq.trans rfl rfl
theorem c_TS_holds_12 : c_TS_holds[12]? = some (27, 3, .invokevirtual 200, 103, 1, 2, 0, 741, []) := Eq.trans rfl rfl
theorem c_TS_holds_13 : c_TS_holds[13]? = some (30, 3, .ifCond .eq 7, 16, 0, 0, 0, 0, []) := Eq.trans rfl rfl
theorem c_TS_holds_14 : c_TS_holds[14]? = some (33, 1, .iconst 1, 0, 0, 0, 0, 0, []) := Eq.trans rfl rfl
theorem c_TS_holds_15 : c_TS_holds[15]? = some (34, 3, .goto 4, 17, 0, 0, 0, 0, []) := Eq.trans rfl rfl
theorem c_TS_holds_16 : c_TS_holds[16]? = some (37, 1, .iconst 0, 0, 0, 0, 0, 0, []) := Eq.trans rfl rfl
theorem c_TS_holds_17 : c_TS_holds[17]? = some (38, 1, .ireturn, 0, 0, 0, 0, 0, []) := Eq.trans rfl rfl
theorem mt_TS_isFound : am_MT[94]? = some m_TS_isFound := rfl
theorem c_TS_isFound_0 : c_TS_isFound[0]? = some (0, 1, .aload_n 0, 0, 0, 0, 0, 0, []) := Eq.trans rfl rfl
theorem c_TS_isFound_1 : c_TS_isFound[1]? = some (1, 3, .getfield 41, 0, 4, 0, 0, 327, []) := Eq.trans rfl rfl
theorem c_TS_isFound_2 : c_TS_isFound[2]? = some (4, 3, .ifCond .lt 7, 5, 0, 0, 0, 0, []) := Eq.trans rfl rfl
theorem c_TS_isFound_3 : c_TS_isFound[3]? = some (7, 1, .iconst 1, 0, 0, 0, 0, 0, []) := Eq.trans rfl rfl
theorem c_TS_isFound_4 : c_TS_isFound[4]? = some (8, 3, .goto 4, 6, 0, 0, 0, 0, []) := Eq.trans rfl rfl
theorem c_TS_isFound_5 : c_TS_isFound[5]? = some (11, 1, .iconst 0, 0, 0, 0, 0, 0, []) := Eq.trans rfl rfl
theorem c_TS_isFound_6 : c_TS_isFound[6]? = some (12, 1, .ireturn, 0, 0, 0, 3, 0, []) := Eq.trans rfl rfl
theorem mt_Bodies_someNeedsItself : am_MT[103]? = some m_Bodies_someNeedsItself := rfl
theorem c_Bodies_someNeedsItself_0 : c_Bodies_someNeedsItself[0]? = some (0, 1, .iconst 0, 0, 0, 0, 0, 0, []) := Eq.trans rfl rfl
theorem c_Bodies_someNeedsItself_1 : c_Bodies_someNeedsItself[1]? = some (1, 1, .istore_n 1, 1, 0, 0, 0, 0, []) := Eq.trans rfl rfl
theorem c_Bodies_someNeedsItself_2 : c_Bodies_someNeedsItself[2]? = some (2, 1, .iload_n 1, 1, 0, 0, 0, 0, []) := Eq.trans rfl rfl
theorem c_Bodies_someNeedsItself_3 : c_Bodies_someNeedsItself[3]? = some (3, 1, .aload_n 0, 0, 0, 0, 0, 0, []) := Eq.trans rfl rfl
theorem c_Bodies_someNeedsItself_4 : c_Bodies_someNeedsItself[4]? = some (4, 3, .getfield 39, 2, 6, 0, 0, 157, []) := Eq.trans rfl rfl
theorem c_Bodies_someNeedsItself_5 : c_Bodies_someNeedsItself[5]? = some (7, 3, .getfield 72, 1, 0, 0, 0, 93, []) := Eq.trans rfl rfl
theorem c_Bodies_someNeedsItself_6 : c_Bodies_someNeedsItself[6]? = some (10, 3, .if_icmp .ge 20, 16, 0, 0, 0, 0, []) := Eq.trans rfl rfl
theorem c_Bodies_someNeedsItself_7 : c_Bodies_someNeedsItself[7]? = some (13, 1, .aload_n 0, 0, 0, 0, 0, 0, []) := Eq.trans rfl rfl
theorem c_Bodies_someNeedsItself_8 : c_Bodies_someNeedsItself[8]? = some (14, 1, .iload_n 1, 1, 0, 0, 0, 0, []) := Eq.trans rfl rfl
theorem c_Bodies_someNeedsItself_9 : c_Bodies_someNeedsItself[9]? = some (15, 1, .iload_n 1, 1, 0, 0, 0, 0, []) := Eq.trans rfl rfl
theorem c_Bodies_someNeedsItself_10 : c_Bodies_someNeedsItself[10]? = some (16, 3, .invokevirtual 74, 72, 3, 2, 0, 745, []) := Eq.trans rfl rfl
theorem c_Bodies_someNeedsItself_11 : c_Bodies_someNeedsItself[11]? = some (19, 3, .ifCond .eq 5, 14, 0, 0, 0, 0, []) := Eq.trans rfl rfl
theorem c_Bodies_someNeedsItself_12 : c_Bodies_someNeedsItself[12]? = some (22, 1, .iconst 1, 0, 0, 0, 0, 0, []) := Eq.trans rfl rfl
theorem c_Bodies_someNeedsItself_13 : c_Bodies_someNeedsItself[13]? = some (23, 1, .ireturn, 0, 0, 0, 3, 0, []) := Eq.trans rfl rfl
theorem c_Bodies_someNeedsItself_14 : c_Bodies_someNeedsItself[14]? = some (24, 3, .iinc 1 1, 0, 0, 0, 0, 0, []) := Eq.trans rfl rfl
theorem c_Bodies_someNeedsItself_15 : c_Bodies_someNeedsItself[15]? = some (27, 3, .goto (-25), 2, 0, 0, 0, 0, []) := Eq.trans rfl rfl
theorem c_Bodies_someNeedsItself_16 : c_Bodies_someNeedsItself[16]? = some (30, 1, .iconst 0, 0, 0, 0, 0, 0, []) := Eq.trans rfl rfl
theorem c_Bodies_someNeedsItself_17 : c_Bodies_someNeedsItself[17]? = some (31, 1, .ireturn, 0, 0, 0, 3, 0, []) := Eq.trans rfl rfl
/-! What the class answers of a search. -/
theorem s_run_iv {I : Nat → Int} {F : Nat → Int → Int} (hr : md_rg I F) (hw : md_wf I F) {r0 : rn} : ∀ (k : Nat) (A A' : sst), s_iv I F r0 A → s_run I F k A = some A' → s_iv I F r0 A' := by
  intro k
  induction k with
  | zero =>
    intro A A' h e
    have e := Option.some.inj e
    subst e
    exact h
  | succ k ih =>
    intro A A' h e
    cases hs : a_sk A with
    | nil =>
      rw [s_run_nil hs] at e
      have e := Option.some.inj e
      subst e
      exact h
    | cons f l =>
      rw [s_run_cons hs] at e
      cases h1 : s_step I F A f l with
      | none =>
        rw [h1] at e
        cases e
      | some A1 =>
        rw [h1] at e
        exact ih A1 A' (s_step_iv hr hw h hs h1).1 e
theorem s_all_iv {I : Nat → Int} {F : Nat → Int → Int} (hr : md_rg I F) (hw : md_wf I F) {r : rn} (hv : rn_iv I F r) {A : sst} (e : s_all I F r = some A) : s_iv I F r A := by
  unfold s_all at e
  cases h1 : s_come I F (s_ini r) r 0 (fun _ => 0) with
  | none =>
    rw [h1] at e
    cases e
  | some A1 =>
    rw [h1] at e
    exact s_run_iv hr hw 12000 A1 A (s_fst_iv hv h1).1 e
def v_of (res : Option sst) : Int := match res with
  | some A => a_c A
  | none => -4
theorem en_at.mw {h h1 : am_H} {p q w : Nat} {N : Int} {A : Nat → Int → Int} {R : Nat → Int → Int → Int} {M : Int} {B : Nat → Int → Int} {K : Nat → Int → Int → Int} (H : en_at h p q w N A R M B K) (hf : ∀ a, q ≤ a → a ≤ w + 52 → h1.1 a = h.1 a) : en_at h1 p q w N A R M B K :=
  ⟨H.1.fr (fun a b c => hf a b (by have := H.2.2; omega)), H.2.1.fr (fun a b c => hf a (by have := H.2.2; omega) c), H.2.2⟩
theorem cz_at.fr {h h1 : am_H} {s : Nat} {dp n c : Int} {Tr Un W L G P O Ln V : Int → Int} (H : cz_at h s dp n c Tr Un W L G P O Ln V) (hf : ∀ a, s ≤ a → a ≤ s + 11 → h1.1 a = h.1 a) : cz_at h1 s dp n c Tr Un W L G P O Ln V :=
  ⟨H.1.fr (fun a ha => hf a (by omega) (by omega)), H.2.1.fr (fun a b c => hf a (by omega) (by omega)), H.2.2.fr (fun a b c => hf a (by omega) (by omega))⟩
/-- the class's search beside the one function: v is what it keeps of its answer -/
def cx_at (h : am_H) (o : Nat) (I : Nat → Int) (F : Nat → Int → Int) (r : rn) (v : Int) : Prop := (∃ n m X S, ru_at h (o + 92 + 12) (o + 1) (o + 23) n m X S) ∧
  (((v = -1 ∨ v = -4 ∧ s_all I F r = none) ∧ ∃ dp n c Tr Un W L G P O Ln V, cz_at h (o + 92) dp n c Tr Un W L G P O Ln V ∧ cs_ty L G P V) ∨
   ∃ A, s_all I F r = some A ∧ v = a_c A ∧ ∃ Tr Un W L G P O Ln V, cz_at h (o + 92) (a_sk A).length (a_n A) (a_c A) Tr Un W L G P O Ln V ∧ cs_ok I F A Tr Un W L G P O Ln V)
theorem cx_at.fr {h h1 : am_H} {o : Nat} {I : Nat → Int} {F : Nat → Int → Int} {r : rn} {v : Int} (H : cx_at h o I F r v) (hf : ∀ a, o + 92 ≤ a → a ≤ o + 119 → h1.1 a = h.1 a) : cx_at h1 o I F r v := by
  obtain ⟨⟨n, m, X, S, H0⟩, H1⟩ := H
  refine ⟨⟨n, m, X, S, H0.fr (fun a b c => hf a (by omega) (by omega))⟩, ?_⟩
  rcases H1 with ⟨hv, dp, n, c, Tr, Un, W, L, G, P, O, Ln, V, C, ty⟩ | ⟨A, e, hv, Tr, Un, W, L, G, P, O, Ln, V, C, ok⟩
  · exact Or.inl ⟨hv, dp, n, c, Tr, Un, W, L, G, P, O, Ln, V, C.fr (fun a b c => hf a (by omega) (by omega)), ty⟩
  · exact Or.inr ⟨A, e, hv, Tr, Un, W, L, G, P, O, Ln, V, C.fr (fun a b c => hf a (by omega) (by omega)), ok⟩
/-- no search is kept any more -/
theorem cx_at.no {h h1 : am_H} {o : Nat} {I I' : Nat → Int} {F F' : Nat → Int → Int} {r r' : rn} {v : Int} (hr : md_rg I F) (hw : md_wf I F) (hv : rn_iv I F r) (H : cx_at h o I F r v) (hf : ∀ a, o + 92 ≤ a → a ≤ o + 119 → h1.1 a = h.1 a) : cx_at h1 o I' F' r' (-1) := by
  obtain ⟨⟨n, m, X, S, H0⟩, H1⟩ := H
  refine ⟨⟨n, m, X, S, H0.fr (fun a b c => hf a (by omega) (by omega))⟩, Or.inl ⟨Or.inl rfl, ?_⟩⟩
  rcases H1 with ⟨-, dp, n, c, Tr, Un, W, L, G, P, O, Ln, V, C, ty⟩ | ⟨A, e, -, Tr, Un, W, L, G, P, O, Ln, V, C, ok⟩
  · exact ⟨dp, n, c, Tr, Un, W, L, G, P, O, Ln, V, C.fr (fun a b c => hf a (by omega) (by omega)), ty⟩
  · exact ⟨_, _, _, Tr, Un, W, L, G, P, O, Ln, V, C.fr (fun a b c => hf a (by omega) (by omega)), ok.ty (s_all_iv hr hw hv e).2.1.2⟩
/-- the same search in a house whose rows of a search alone are others -/
theorem cs_ok.sf {I I' : Nat → Int} {F F' : Nat → Int → Int} {A : sst} {Tr Un W L G P O Ln V : Int → Int} (hs : sf F F') (h1 : I' 1 = I 1) (H : cs_ok I F A Tr Un W L G P O Ln V) : cs_ok I' F' A Tr Un W L G P O Ln V := by
  obtain ⟨a, b, c, d, e⟩ := H
  refine ⟨a, b, ?_, ?_, e⟩
  · unfold cs_oc at *
    rw [hs.aP h1]
    exact c
  · have ue : ∀ (r : rn) (t : Int), ub I' F' r t = ub I F r t := fun r t => by
      unfold ub bj
      rw [h1, hs.hv, hs.hv, hs.hv]
    have go : ∀ l : List (Int × Int), cs_tr I F A Tr Un l → cs_tr I' F' A Tr Un l := by
      intro l
      induction l with
      | nil => exact fun _ => trivial
      | cons f l ih =>
        rintro ⟨q1, q2, q3⟩
        exact ⟨q1, by rw [ue]; exact q2, ih q3⟩
    exact go _ d
theorem cx_at.sf {h : am_H} {o : Nat} {I I' : Nat → Int} {F F' : Nat → Int → Int} {r : rn} {v : Int} (hs : sf F F') (h1 : I' 1 = I 1) (H : cx_at h o I F r v) : cx_at h o I' F' r v := by
  unfold cx_at at *
  rw [hs.all h1]
  refine ⟨H.1, ?_⟩
  rcases H.2 with H | ⟨A, e, hv, Tr, Un, W, L, G, P, O, Ln, V, C, ok⟩
  · exact Or.inl H
  · exact Or.inr ⟨A, e, hv, Tr, Un, W, L, G, P, O, Ln, V, C, cs_ok.sf hs h1 ok⟩
set_option maxHeartbeats 8000000 in
theorem ct_Tsearch (d : Nat) (hd : 8 ≤ d) (h : am_H) (o : Nat) (v N : Int) (A : Nat → Int → Int) (R : Nat → Int → Int → Int) (M : Int) (B : Nat → Int → Int) (K : Nat → Int → Int → Int) (n m : Int) (X : Nat → Int → Int) (S : Int → Int → Int) (T : ts_at h o v N A R M B K n m X S) (I : Nat → Int) (F : Nat → Int → Int) (r : rn) (hr : md_rg I F) (hwf : md_wf I F) (hv : rn_iv I F r) (hk : ts_ok I F r N A R M B K n m X S) (cx : cx_at h o I F r v) : am_Ct am_df am_MT d 75 [.ref o] h (fun r9 h' => r9 = some (.int (iI (v_of (s_all I F r)))) ∧ ts_at h' o (v_of (s_all I F r)) N A R M B K n m X S ∧ (∀ a, (a < o ∨ o + 119 < a) → h'.1 a = h.1 a) ∧ h'.2 = h.2 ∧ cx_at h' o I F r (v_of (s_all I F r))) := by
  obtain ⟨t0, tO, E, H⟩ := T
  obtain ⟨hT, hBo, ho, en, em, el⟩ := hk
  obtain ⟨hh, cc⟩ := cx
  obtain ⟨d, rfl⟩ : ∃ e, d = e + 1 := ⟨d - 1, by omega⟩
  refine am_ct_of2 mt_TS_search (Nat.le_of_ble_eq_true rfl) ?_
  simp only [ar_nil, ar_int, ar_ref, ar_long, Nat.reduceAdd]
  have old : v ≠ -1 → v = v_of (s_all I F r) ∧ (-4 ≤ v ∧ v ≤ 60) := fun z => by
    rcases cc with ⟨hv9, -⟩ | ⟨A9, e9, hv9, -⟩
    · have e2 : s_all I F r = none := by
        rcases hv9 with q | q
        · exact absurd q z
        · exact q.2
      rw [e2]
      show v = -4 ∧ _
      omega
    · have si := s_all_iv hr hwf hv e9
      rw [e9]
      have := si.2.1
      exact ⟨hv9, by omega⟩
  by_cases c : v = -1
  · subst c
    obtain ⟨dp, n9, c9, Tr, Un, W, L, G, P, O, Ln, V, C, ty⟩ : ∃ dp n c Tr Un W L G P O Ln V, cz_at h (o + 92) dp n c Tr Un W L G P O Ln V ∧ cs_ty L G P V := by
      rcases cc with ⟨-, z⟩ | ⟨A9, e9, hv9, z⟩
      · exact z
      · have si := s_all_iv hr hwf hv e9
        have := si.2.1
        omega
    have CE := ct_explore d (by omega) h (o + 76) (o + 1) (o + 23) n m X S H N A R M B K E I F hr hwf hT hBo r hv ho (o + 92) (by omega) dp n9 c9 Tr Un W L G P O Ln V C ty hh
    have sO := C.1.2.1
    refine am_go_of 10 [9] _ c_TS_search_0 ?_
    simp (maxSteps := 2000000) (disch := omega) only [c_TS_search_0, c_TS_search_1, c_TS_search_2, c_TS_search_3, c_TS_search_4, c_TS_search_5, c_TS_search_6, c_TS_search_7, c_TS_search_8, c_TS_search_9, c_TS_search_10, c_TS_search_11, c_TS_search_12, c_TS_search_13, sx_aload_n, sx_getfield, sx_iconst, sx_if_icmp_ne, sx_ireturn, sx_putfield, sx_zreturn, am_W_s, am_W_0, am_mm_some, List.mem_cons, or_false, false_or, or_self, or_true, true_or, reduceIte, if_false, if_true, am_o_some, am_o_none, am_o_bad, am_o_good, am_ldi_hit, am_ldi_miss, am_lda_hit, am_lda_miss, am_ldl_hit, am_ldl_miss, am_inc_eq, am_inc_hit, am_inc_miss, am_ob_hit, am_fd_0, am_fd_s, am_ai_hit, am_ab_3, am_al_hit, am_aq_4, am_al0_hit, am_put_1, am_put_2, am_put_put, am_up_hit, am_up_miss, am_s1_eq, am_s2_eq, am_fl_nil, am_fl_hit, am_fl_int, am_fl_ref, am_fl_long, am_fl_longx, am_fl2_nil, am_fl2_hit, am_fl2_hit1, am_fl2_int, am_fl2_ref, am_fl2_long, List.not_mem_nil, not_false_eq_true, ne_eq, Nat.reduceAdd, Nat.reduceEqDiff, Nat.zero_add, Nat.add_left_cancel_iff, List.set_cons_zero, List.set_cons_succ, List.length_cons, List.length_nil, Nat.reduceLT, am_ft_i, am_ft_r, am_ft_z, and_true, true_and, Option.toList_some, Option.toList_none, List.cons_append, List.nil_append, List.drop_succ_cons, List.drop_zero, iI_c, iI_b, iI_s, iI_n, iI_add, iI_sub, iI_mul, iI_neg, iI_nle, iI_ix, iI_eq0, iI_eq1, iI_lt0, iI_0lt, iI_le0, iI_0le, iI_eq, iI_lt, iI_le, iI_upd, iI_updZ, Int.reduceEq, Int.reduceLT, Int.reduceLE, Int.reduceNeg, Int.reduceNe, tO, ts_fs_len, ts_f0, ts_f1, ts_f2, ts_f3, ts_f4, ts_s4, ty_fs_len, ty_f0, ty_f1, ty_f2, ty_f3, ty_f4, ty_f5, ty_f6, ty_f7, ty_f8, ty_f9, ty_s0, ty_t1, ty_l1, ty_t2, ty_l2, ty_t3, ty_l3, ty_t11, ty_l11, ty_t12, ty_l12, ty_t13, ty_l13, ty_t14, ty_l14, bo_fs_len, bo_f0, bo_f1, bo_f2, bo_f3, bo_f4, bo_f5, bo_f6, bo_f7, bo_f8, bo_s0, ru_fs_len, ru_f0, ru_f1, ru_f2, ru_f3, ru_f4, ru_f5, ru_f6, ru_f7, ru_f8, ru_f9, ru_f10, ru_f11, ru_f12, ru_f13, ru_s0, ru_t2, ru_l2, ru_t3, ru_l3, ru_t4, ru_l4, ru_t5, ru_l5, ru_t10, ru_l10, ru_t11, ru_l11, ru_t12, ru_l12, ru_t13, ru_l13, ru_t14, ru_l14, ru_t15, ru_l15, lo_fs_len, lo_f0, lo_f1, lo_s0, se_fs_len, se_f0, se_f1, se_f2, se_f3, se_f4, se_f5, se_f6, se_s3, po_fs_len, po_f0, po_f1, po_f2, po_s0, ou_fs_len, ou_f0, ou_f1, ou_f2, ou_f3, ou_f4, ou_s0, rw_hit]
    refine am_go_call c_TS_search_9 (by decide) (by decide) (by first | (simp [am_can, am_kd, Value.category, sO]; done) | (simp [am_can, am_kd, am_b, am_c, Value.category, sO]; done) | (simp (disch := omega) [am_can, am_kd, am_b, am_c, Value.category, am_put_1, am_up_hit, am_up_miss, sO]; done)) ?_
    refine CE.mono (fun r9 h1 hr9 => ?_)
    obtain ⟨xs, hq⟩ := hr9
    have tO1 := (xs.1 o (by omega)).trans tO
    have T1 : ∀ v', ts_at (am_put h1 o (.inr (0, ts_fs o v'))) o v' N A R M B K n m X S := fun v' => ⟨t0, am_up_hit, E.mw (fun a a1 a2 => (am_up_miss (by omega)).trans (xs.1 a (by omega))), H.fr (fun a a1 a2 => (am_up_miss (by omega)).trans (xs.1 a (by omega)))⟩
    have f1 : ∀ v' a, (a < o ∨ o + 119 < a) → (am_put h1 o (.inr (0, ts_fs o v'))).1 a = h.1 a := fun v' a ha => (am_up_miss (by omega)).trans (xs.1 a (by omega))
    have fin : r9 = some (.int (iI (v_of (s_all I F r)))) ∧ cx_at (am_put h1 o (.inr (0, ts_fs o (v_of (s_all I F r))))) o I F r (v_of (s_all I F r)) ∧ (-4 ≤ v_of (s_all I F r) ∧ v_of (s_all I F r) ≤ 60) := by
      obtain ⟨n0, m0, X0, S0, H0⟩ := xs.2.2
      cases hA : s_all I F r with
      | some A9 =>
        rw [hA] at hq
        obtain ⟨rfl, Tr, Un, W, L, G, P, O, Ln, V, C9, K9⟩ := hq
        have si := s_all_iv hr hwf hv hA
        have s2 := si.2.1
        refine ⟨rfl, cx_at.fr (h := h1) ⟨⟨n0, m0, X0, S0, H0⟩, Or.inr ⟨A9, hA, rfl, Tr, Un, W, L, G, P, O, Ln, V, C9, K9⟩⟩ (fun a a1 a2 => am_up_miss (by omega)), ?_⟩
        show -4 ≤ a_c A9 ∧ a_c A9 ≤ 60
        omega
      | none =>
        rw [hA] at hq
        obtain ⟨rfl, dp, n9, c9, Tr, Un, W, L, G, P, O, Ln, V, C9, K9⟩ := hq
        refine ⟨rfl, cx_at.fr (h := h1) ⟨⟨n0, m0, X0, S0, H0⟩, Or.inl ⟨Or.inr ⟨rfl, hA⟩, dp, n9, c9, Tr, Un, W, L, G, P, O, Ln, V, C9, K9⟩⟩ (fun a a1 a2 => am_up_miss (by omega)), ?_⟩
        exact (by decide : -4 ≤ (-4 : Int) ∧ (-4 : Int) ≤ 60)
    obtain ⟨rfl, cx1, vr⟩ := fin
    have T9 := T1 (v_of (s_all I F r))
    have f9 := f1 (v_of (s_all I F r))
    have e9 : h1.2 = h.2 := xs.2.1
    clear T1 f1 hq xs CE old cc C
    generalize v_of (s_all I F r) = y at *
    refine am_go_of 10 [9] _ c_TS_search_10 ?_
    simp (maxSteps := 2000000) (disch := omega) only [c_TS_search_0, c_TS_search_1, c_TS_search_2, c_TS_search_3, c_TS_search_4, c_TS_search_5, c_TS_search_6, c_TS_search_7, c_TS_search_8, c_TS_search_9, c_TS_search_10, c_TS_search_11, c_TS_search_12, c_TS_search_13, sx_aload_n, sx_getfield, sx_iconst, sx_if_icmp_ne, sx_ireturn, sx_putfield, sx_zreturn, am_W_s, am_W_0, am_mm_some, List.mem_cons, or_false, false_or, or_self, or_true, true_or, reduceIte, if_false, if_true, am_o_some, am_o_none, am_o_bad, am_o_good, am_ldi_hit, am_ldi_miss, am_lda_hit, am_lda_miss, am_ldl_hit, am_ldl_miss, am_inc_eq, am_inc_hit, am_inc_miss, am_ob_hit, am_fd_0, am_fd_s, am_ai_hit, am_ab_3, am_al_hit, am_aq_4, am_al0_hit, am_put_1, am_put_2, am_put_put, am_up_hit, am_up_miss, am_s1_eq, am_s2_eq, am_fl_nil, am_fl_hit, am_fl_int, am_fl_ref, am_fl_long, am_fl_longx, am_fl2_nil, am_fl2_hit, am_fl2_hit1, am_fl2_int, am_fl2_ref, am_fl2_long, List.not_mem_nil, not_false_eq_true, ne_eq, Nat.reduceAdd, Nat.reduceEqDiff, Nat.zero_add, Nat.add_left_cancel_iff, List.set_cons_zero, List.set_cons_succ, List.length_cons, List.length_nil, Nat.reduceLT, am_ft_i, am_ft_r, am_ft_z, and_true, true_and, Option.toList_some, Option.toList_none, List.cons_append, List.nil_append, List.drop_succ_cons, List.drop_zero, iI_c, iI_b, iI_s, iI_n, iI_add, iI_sub, iI_mul, iI_neg, iI_nle, iI_ix, iI_eq0, iI_eq1, iI_lt0, iI_0lt, iI_le0, iI_0le, iI_eq, iI_lt, iI_le, iI_upd, iI_updZ, Int.reduceEq, Int.reduceLT, Int.reduceLE, Int.reduceNeg, Int.reduceNe, tO1, ts_fs_len, ts_f0, ts_f1, ts_f2, ts_f3, ts_f4, ts_s4, ty_fs_len, ty_f0, ty_f1, ty_f2, ty_f3, ty_f4, ty_f5, ty_f6, ty_f7, ty_f8, ty_f9, ty_s0, ty_t1, ty_l1, ty_t2, ty_l2, ty_t3, ty_l3, ty_t11, ty_l11, ty_t12, ty_l12, ty_t13, ty_l13, ty_t14, ty_l14, bo_fs_len, bo_f0, bo_f1, bo_f2, bo_f3, bo_f4, bo_f5, bo_f6, bo_f7, bo_f8, bo_s0, ru_fs_len, ru_f0, ru_f1, ru_f2, ru_f3, ru_f4, ru_f5, ru_f6, ru_f7, ru_f8, ru_f9, ru_f10, ru_f11, ru_f12, ru_f13, ru_s0, ru_t2, ru_l2, ru_t3, ru_l3, ru_t4, ru_l4, ru_t5, ru_l5, ru_t10, ru_l10, ru_t11, ru_l11, ru_t12, ru_l12, ru_t13, ru_l13, ru_t14, ru_l14, ru_t15, ru_l15, lo_fs_len, lo_f0, lo_f1, lo_s0, se_fs_len, se_f0, se_f1, se_f2, se_f3, se_f4, se_f5, se_f6, se_s3, po_fs_len, po_f0, po_f1, po_f2, po_s0, ou_fs_len, ou_f0, ou_f1, ou_f2, ou_f3, ou_f4, ou_s0, rw_hit]
    exact ⟨T9, f9, e9, cx1⟩
  · obtain ⟨e1, vr⟩ := old c
    rw [← e1]
    have T9 : ts_at h o v N A R M B K n m X S := ⟨t0, tO, E, H⟩
    have cx9 : cx_at h o I F r v := ⟨hh, cc⟩
    clear old e1 cc
    refine am_go_of 10 [9] _ c_TS_search_0 ?_
    simp (maxSteps := 2000000) (disch := omega) only [c_TS_search_0, c_TS_search_1, c_TS_search_2, c_TS_search_3, c_TS_search_4, c_TS_search_5, c_TS_search_6, c_TS_search_7, c_TS_search_8, c_TS_search_9, c_TS_search_10, c_TS_search_11, c_TS_search_12, c_TS_search_13, sx_aload_n, sx_getfield, sx_iconst, sx_if_icmp_ne, sx_ireturn, sx_putfield, sx_zreturn, am_W_s, am_W_0, am_mm_some, List.mem_cons, or_false, false_or, or_self, or_true, true_or, reduceIte, if_false, if_true, am_o_some, am_o_none, am_o_bad, am_o_good, am_ldi_hit, am_ldi_miss, am_lda_hit, am_lda_miss, am_ldl_hit, am_ldl_miss, am_inc_eq, am_inc_hit, am_inc_miss, am_ob_hit, am_fd_0, am_fd_s, am_ai_hit, am_ab_3, am_al_hit, am_aq_4, am_al0_hit, am_put_1, am_put_2, am_put_put, am_up_hit, am_up_miss, am_s1_eq, am_s2_eq, am_fl_nil, am_fl_hit, am_fl_int, am_fl_ref, am_fl_long, am_fl_longx, am_fl2_nil, am_fl2_hit, am_fl2_hit1, am_fl2_int, am_fl2_ref, am_fl2_long, List.not_mem_nil, not_false_eq_true, ne_eq, Nat.reduceAdd, Nat.reduceEqDiff, Nat.zero_add, Nat.add_left_cancel_iff, List.set_cons_zero, List.set_cons_succ, List.length_cons, List.length_nil, Nat.reduceLT, am_ft_i, am_ft_r, am_ft_z, and_true, true_and, Option.toList_some, Option.toList_none, List.cons_append, List.nil_append, List.drop_succ_cons, List.drop_zero, iI_c, iI_b, iI_s, iI_n, iI_add, iI_sub, iI_mul, iI_neg, iI_nle, iI_ix, iI_eq0, iI_eq1, iI_lt0, iI_0lt, iI_le0, iI_0le, iI_eq, iI_lt, iI_le, iI_upd, iI_updZ, Int.reduceEq, Int.reduceLT, Int.reduceLE, Int.reduceNeg, Int.reduceNe, tO, c, ts_fs_len, ts_f0, ts_f1, ts_f2, ts_f3, ts_f4, ts_s4, ty_fs_len, ty_f0, ty_f1, ty_f2, ty_f3, ty_f4, ty_f5, ty_f6, ty_f7, ty_f8, ty_f9, ty_s0, ty_t1, ty_l1, ty_t2, ty_l2, ty_t3, ty_l3, ty_t11, ty_l11, ty_t12, ty_l12, ty_t13, ty_l13, ty_t14, ty_l14, bo_fs_len, bo_f0, bo_f1, bo_f2, bo_f3, bo_f4, bo_f5, bo_f6, bo_f7, bo_f8, bo_s0, ru_fs_len, ru_f0, ru_f1, ru_f2, ru_f3, ru_f4, ru_f5, ru_f6, ru_f7, ru_f8, ru_f9, ru_f10, ru_f11, ru_f12, ru_f13, ru_s0, ru_t2, ru_l2, ru_t3, ru_l3, ru_t4, ru_l4, ru_t5, ru_l5, ru_t10, ru_l10, ru_t11, ru_l11, ru_t12, ru_l12, ru_t13, ru_l13, ru_t14, ru_l14, ru_t15, ru_l15, lo_fs_len, lo_f0, lo_f1, lo_s0, se_fs_len, se_f0, se_f1, se_f2, se_f3, se_f4, se_f5, se_f6, se_s3, po_fs_len, po_f0, po_f1, po_f2, po_s0, ou_fs_len, ou_f0, ou_f1, ou_f2, ou_f3, ou_f4, ou_s0, rw_hit]
    first | exact ⟨T9, cx9⟩ | exact ⟨T9, fun _ _ => trivial, cx9⟩
set_option maxHeartbeats 8000000 in
/-- whether there is a search to be asked -/
theorem ct_isFound (d : Nat) (hd : 1 ≤ d) (h : am_H) (o : Nat) (v : Int) (hvr : -2147483648 ≤ v ∧ v < 2147483648) (tO : h.1 o = .inr (0, ts_fs o v)) : am_Ct am_df am_MT d 94 [.ref o] h (fun r9 h' => r9 = some (.int (iI (if 0 ≤ v then 1 else 0))) ∧ h' = h) := by
  obtain ⟨d, rfl⟩ : ∃ e, d = e + 1 := ⟨d - 1, by omega⟩
  refine am_ct_of2 mt_TS_isFound (Nat.le_of_ble_eq_true rfl) ?_
  simp only [ar_nil, ar_int, ar_ref, ar_long, Nat.reduceAdd]
  by_cases c : v < 0
  · rw [if_neg (by omega)]
    refine am_go_of 10 [] _ c_TS_isFound_0 ?_
    simp (maxSteps := 2000000) (disch := omega) only [c_TS_isFound_0, c_TS_isFound_1, c_TS_isFound_2, c_TS_isFound_3, c_TS_isFound_4, c_TS_isFound_5, c_TS_isFound_6, sx_aload_n, sx_getfield, sx_goto, sx_iconst, sx_ifCond_lt, sx_ireturn, sx_zreturn, am_W_s, am_W_0, am_mm_some, List.mem_cons, or_false, false_or, or_self, or_true, true_or, reduceIte, if_false, if_true, am_o_some, am_o_none, am_o_bad, am_o_good, am_ldi_hit, am_ldi_miss, am_lda_hit, am_lda_miss, am_ldl_hit, am_ldl_miss, am_inc_eq, am_inc_hit, am_inc_miss, am_ob_hit, am_fd_0, am_fd_s, am_ai_hit, am_ab_3, am_al_hit, am_aq_4, am_al0_hit, am_put_1, am_put_2, am_put_put, am_up_hit, am_up_miss, am_s1_eq, am_s2_eq, am_fl_nil, am_fl_hit, am_fl_int, am_fl_ref, am_fl_long, am_fl_longx, am_fl2_nil, am_fl2_hit, am_fl2_hit1, am_fl2_int, am_fl2_ref, am_fl2_long, List.not_mem_nil, not_false_eq_true, ne_eq, Nat.reduceAdd, Nat.reduceEqDiff, Nat.zero_add, Nat.add_left_cancel_iff, List.set_cons_zero, List.set_cons_succ, List.length_cons, List.length_nil, Nat.reduceLT, am_ft_i, am_ft_r, am_ft_z, and_true, true_and, Option.toList_some, Option.toList_none, List.cons_append, List.nil_append, List.drop_succ_cons, List.drop_zero, iI_c, iI_b, iI_s, iI_n, iI_add, iI_sub, iI_mul, iI_neg, iI_nle, iI_ix, iI_eq0, iI_eq1, iI_lt0, iI_0lt, iI_le0, iI_0le, iI_eq, iI_lt, iI_le, iI_upd, iI_updZ, Int.reduceEq, Int.reduceLT, Int.reduceLE, Int.reduceNeg, Int.reduceNe, tO, c, ts_fs_len, ts_f0, ts_f1, ts_f2, ts_f3, ts_f4, ts_s4, ty_fs_len, ty_f0, ty_f1, ty_f2, ty_f3, ty_f4, ty_f5, ty_f6, ty_f7, ty_f8, ty_f9, ty_s0, ty_t1, ty_l1, ty_t2, ty_l2, ty_t3, ty_l3, ty_t11, ty_l11, ty_t12, ty_l12, ty_t13, ty_l13, ty_t14, ty_l14, bo_fs_len, bo_f0, bo_f1, bo_f2, bo_f3, bo_f4, bo_f5, bo_f6, bo_f7, bo_f8, bo_s0, ru_fs_len, ru_f0, ru_f1, ru_f2, ru_f3, ru_f4, ru_f5, ru_f6, ru_f7, ru_f8, ru_f9, ru_f10, ru_f11, ru_f12, ru_f13, ru_s0, ru_t2, ru_l2, ru_t3, ru_l3, ru_t4, ru_l4, ru_t5, ru_l5, ru_t10, ru_l10, ru_t11, ru_l11, ru_t12, ru_l12, ru_t13, ru_l13, ru_t14, ru_l14, ru_t15, ru_l15, lo_fs_len, lo_f0, lo_f1, lo_s0, se_fs_len, se_f0, se_f1, se_f2, se_f3, se_f4, se_f5, se_f6, se_s3, po_fs_len, po_f0, po_f1, po_f2, po_s0, ou_fs_len, ou_f0, ou_f1, ou_f2, ou_f3, ou_f4, ou_s0, rw_hit]
    all_goals (first | omega | rfl | trivial)
  · rw [if_pos (by omega)]
    refine am_go_of 10 [] _ c_TS_isFound_0 ?_
    simp (maxSteps := 2000000) (disch := omega) only [c_TS_isFound_0, c_TS_isFound_1, c_TS_isFound_2, c_TS_isFound_3, c_TS_isFound_4, c_TS_isFound_5, c_TS_isFound_6, sx_aload_n, sx_getfield, sx_goto, sx_iconst, sx_ifCond_lt, sx_ireturn, sx_zreturn, am_W_s, am_W_0, am_mm_some, List.mem_cons, or_false, false_or, or_self, or_true, true_or, reduceIte, if_false, if_true, am_o_some, am_o_none, am_o_bad, am_o_good, am_ldi_hit, am_ldi_miss, am_lda_hit, am_lda_miss, am_ldl_hit, am_ldl_miss, am_inc_eq, am_inc_hit, am_inc_miss, am_ob_hit, am_fd_0, am_fd_s, am_ai_hit, am_ab_3, am_al_hit, am_aq_4, am_al0_hit, am_put_1, am_put_2, am_put_put, am_up_hit, am_up_miss, am_s1_eq, am_s2_eq, am_fl_nil, am_fl_hit, am_fl_int, am_fl_ref, am_fl_long, am_fl_longx, am_fl2_nil, am_fl2_hit, am_fl2_hit1, am_fl2_int, am_fl2_ref, am_fl2_long, List.not_mem_nil, not_false_eq_true, ne_eq, Nat.reduceAdd, Nat.reduceEqDiff, Nat.zero_add, Nat.add_left_cancel_iff, List.set_cons_zero, List.set_cons_succ, List.length_cons, List.length_nil, Nat.reduceLT, am_ft_i, am_ft_r, am_ft_z, and_true, true_and, Option.toList_some, Option.toList_none, List.cons_append, List.nil_append, List.drop_succ_cons, List.drop_zero, iI_c, iI_b, iI_s, iI_n, iI_add, iI_sub, iI_mul, iI_neg, iI_nle, iI_ix, iI_eq0, iI_eq1, iI_lt0, iI_0lt, iI_le0, iI_0le, iI_eq, iI_lt, iI_le, iI_upd, iI_updZ, Int.reduceEq, Int.reduceLT, Int.reduceLE, Int.reduceNeg, Int.reduceNe, tO, c, ts_fs_len, ts_f0, ts_f1, ts_f2, ts_f3, ts_f4, ts_s4, ty_fs_len, ty_f0, ty_f1, ty_f2, ty_f3, ty_f4, ty_f5, ty_f6, ty_f7, ty_f8, ty_f9, ty_s0, ty_t1, ty_l1, ty_t2, ty_l2, ty_t3, ty_l3, ty_t11, ty_l11, ty_t12, ty_l12, ty_t13, ty_l13, ty_t14, ty_l14, bo_fs_len, bo_f0, bo_f1, bo_f2, bo_f3, bo_f4, bo_f5, bo_f6, bo_f7, bo_f8, bo_s0, ru_fs_len, ru_f0, ru_f1, ru_f2, ru_f3, ru_f4, ru_f5, ru_f6, ru_f7, ru_f8, ru_f9, ru_f10, ru_f11, ru_f12, ru_f13, ru_s0, ru_t2, ru_l2, ru_t3, ru_l3, ru_t4, ru_l4, ru_t5, ru_l5, ru_t10, ru_l10, ru_t11, ru_l11, ru_t12, ru_l12, ru_t13, ru_l13, ru_t14, ru_l14, ru_t15, ru_l15, lo_fs_len, lo_f0, lo_f1, lo_s0, se_fs_len, se_f0, se_f1, se_f2, se_f3, se_f4, se_f5, se_f6, se_s3, po_fs_len, po_f0, po_f1, po_f2, po_s0, ou_fs_len, ou_f0, ou_f1, ou_f2, ou_f3, ou_f4, ou_s0, rw_hit]
    all_goals (first | omega | rfl | trivial)
set_option maxHeartbeats 8000000 in
theorem lp_cstk (d : Nat) (hd : 2 ≤ d) (h : am_H) (y : Nat) (c : Int) (P O Ln V : Int → Int) (H : ou_at h y c P O Ln V) (hc : 0 ≤ c ∧ c ≤ 60) (f : Int → Int → Int) (hf : ∀ i : Int, 0 ≤ i ∧ i < c → oc_ok (f i) ∧ P i = ocd (f i)) : ∀ (k i : Nat), (i : Int) + k = c → am_Go am_df am_MT d c_Outcomes_countStuck (4, [(2, .int (iI (i : Int))), (1, .int (iI (sm9 (fun n => stk1 (f n)) i))), (0, .ref y)], [], h) (fun r0 h' => r0 = some (.int (iI (sm9 (fun n => stk1 (f n)) c.toNat))) ∧ h' = h) := by
  have hO := H.2.1
  intro k
  induction k with
  | zero =>
    intro i hi
    have e : c.toNat = i := by omega
    rw [e]
    have cc : c ≤ (i : Int) := by omega
    generalize sm9 (fun n => stk1 (f n)) i = s
    refine am_go_of 10 [4, 10] _ c_Outcomes_countStuck_4 ?_
    simp (maxSteps := 2000000) (disch := omega) only [c_Outcomes_countStuck_0, c_Outcomes_countStuck_1, c_Outcomes_countStuck_2, c_Outcomes_countStuck_3, c_Outcomes_countStuck_4, c_Outcomes_countStuck_5, c_Outcomes_countStuck_6, c_Outcomes_countStuck_7, c_Outcomes_countStuck_8, c_Outcomes_countStuck_9, c_Outcomes_countStuck_10, c_Outcomes_countStuck_11, c_Outcomes_countStuck_12, c_Outcomes_countStuck_13, c_Outcomes_countStuck_14, c_Outcomes_countStuck_15, c_Outcomes_countStuck_16, sx_aload_n, sx_getfield, sx_goto, sx_iconst, sx_ifCond_eq, sx_if_icmp_ge, sx_iinc, sx_iload_n, sx_ireturn, sx_istore_n, sx_zreturn, am_W_s, am_W_0, am_mm_some, List.mem_cons, or_false, false_or, or_self, or_true, true_or, reduceIte, if_false, if_true, am_o_some, am_o_none, am_o_bad, am_o_good, am_ldi_hit, am_ldi_miss, am_lda_hit, am_lda_miss, am_ldl_hit, am_ldl_miss, am_inc_eq, am_inc_hit, am_inc_miss, am_ob_hit, am_fd_0, am_fd_s, am_ai_hit, am_ab_3, am_al_hit, am_aq_4, am_al0_hit, am_put_1, am_put_2, am_put_put, am_up_hit, am_up_miss, am_s1_eq, am_s2_eq, am_fl_nil, am_fl_hit, am_fl_int, am_fl_ref, am_fl_long, am_fl_longx, am_fl2_nil, am_fl2_hit, am_fl2_hit1, am_fl2_int, am_fl2_ref, am_fl2_long, List.not_mem_nil, not_false_eq_true, ne_eq, Nat.reduceAdd, Nat.reduceEqDiff, Nat.zero_add, Nat.add_left_cancel_iff, List.set_cons_zero, List.set_cons_succ, List.length_cons, List.length_nil, Nat.reduceLT, am_ft_i, am_ft_r, am_ft_z, and_true, true_and, Option.toList_some, Option.toList_none, List.cons_append, List.nil_append, List.drop_succ_cons, List.drop_zero, iI_c, iI_b, iI_s, iI_n, iI_add, iI_sub, iI_mul, iI_neg, iI_nle, iI_ix, iI_eq0, iI_eq1, iI_lt0, iI_0lt, iI_le0, iI_0le, iI_eq, iI_lt, iI_le, iI_upd, iI_updZ, Int.reduceEq, Int.reduceLT, Int.reduceLE, Int.reduceNeg, Int.reduceNe, hO, cc, ou_fs_len, ou_f0, ou_f1, ou_f2, ou_f3, ou_f4, ou_s0, rw_hit]
    all_goals (first | omega | rfl | trivial)
  | succ k ih =>
    intro i hi
    have cc : ¬ c ≤ (i : Int) := by omega
    have g := ih (i + 1) (by omega)
    have es : sm9 (fun n => stk1 (f n)) (i + 1) = sm9 (fun n => stk1 (f n)) i + stk1 (f (i : Int)) := rfl
    rw [es, show (((i + 1 : Nat)) : Int) = (i : Int) + 1 by omega] at g
    have q := hf i (by omega)
    have CT := ct_ostuck d hd h y c P O Ln V H hc (i : Int) (by omega) (f i) q.1 q.2
    clear ih es hf q
    generalize sm9 (fun n => stk1 (f n)) i = s at *
    have z := stk1_01 (f (i : Int))
    generalize stk1 (f (i : Int)) = x at *
    refine am_go_of 10 [4, 10] _ c_Outcomes_countStuck_4 ?_
    simp (maxSteps := 2000000) (disch := omega) only [c_Outcomes_countStuck_0, c_Outcomes_countStuck_1, c_Outcomes_countStuck_2, c_Outcomes_countStuck_3, c_Outcomes_countStuck_4, c_Outcomes_countStuck_5, c_Outcomes_countStuck_6, c_Outcomes_countStuck_7, c_Outcomes_countStuck_8, c_Outcomes_countStuck_9, c_Outcomes_countStuck_10, c_Outcomes_countStuck_11, c_Outcomes_countStuck_12, c_Outcomes_countStuck_13, c_Outcomes_countStuck_14, c_Outcomes_countStuck_15, c_Outcomes_countStuck_16, sx_aload_n, sx_getfield, sx_goto, sx_iconst, sx_ifCond_eq, sx_if_icmp_ge, sx_iinc, sx_iload_n, sx_ireturn, sx_istore_n, sx_zreturn, am_W_s, am_W_0, am_mm_some, List.mem_cons, or_false, false_or, or_self, or_true, true_or, reduceIte, if_false, if_true, am_o_some, am_o_none, am_o_bad, am_o_good, am_ldi_hit, am_ldi_miss, am_lda_hit, am_lda_miss, am_ldl_hit, am_ldl_miss, am_inc_eq, am_inc_hit, am_inc_miss, am_ob_hit, am_fd_0, am_fd_s, am_ai_hit, am_ab_3, am_al_hit, am_aq_4, am_al0_hit, am_put_1, am_put_2, am_put_put, am_up_hit, am_up_miss, am_s1_eq, am_s2_eq, am_fl_nil, am_fl_hit, am_fl_int, am_fl_ref, am_fl_long, am_fl_longx, am_fl2_nil, am_fl2_hit, am_fl2_hit1, am_fl2_int, am_fl2_ref, am_fl2_long, List.not_mem_nil, not_false_eq_true, ne_eq, Nat.reduceAdd, Nat.reduceEqDiff, Nat.zero_add, Nat.add_left_cancel_iff, List.set_cons_zero, List.set_cons_succ, List.length_cons, List.length_nil, Nat.reduceLT, am_ft_i, am_ft_r, am_ft_z, and_true, true_and, Option.toList_some, Option.toList_none, List.cons_append, List.nil_append, List.drop_succ_cons, List.drop_zero, iI_c, iI_b, iI_s, iI_n, iI_add, iI_sub, iI_mul, iI_neg, iI_nle, iI_ix, iI_eq0, iI_eq1, iI_lt0, iI_0lt, iI_le0, iI_0le, iI_eq, iI_lt, iI_le, iI_upd, iI_updZ, Int.reduceEq, Int.reduceLT, Int.reduceLE, Int.reduceNeg, Int.reduceNe, hO, cc, ou_fs_len, ou_f0, ou_f1, ou_f2, ou_f3, ou_f4, ou_s0, rw_hit]
    refine am_go_call c_Outcomes_countStuck_10 (by decide) (by decide) (by first | (simp [am_can, am_kd, Value.category, hO]; done) | (simp [am_can, am_kd, am_b, am_c, Value.category, hO]; done) | (simp (disch := omega) [am_can, am_kd, am_b, am_c, Value.category, am_put_1, am_up_hit, am_up_miss, hO]; done)) ?_
    refine CT.mono (fun r9 h1 hr9 => ?_)
    obtain ⟨rfl, rfl⟩ := hr9
    rcases z with rfl | rfl
    · rw [Int.add_zero] at g
      refine am_go_of 10 [4, 10] _ c_Outcomes_countStuck_11 ?_
      simp (maxSteps := 2000000) (disch := omega) only [c_Outcomes_countStuck_0, c_Outcomes_countStuck_1, c_Outcomes_countStuck_2, c_Outcomes_countStuck_3, c_Outcomes_countStuck_4, c_Outcomes_countStuck_5, c_Outcomes_countStuck_6, c_Outcomes_countStuck_7, c_Outcomes_countStuck_8, c_Outcomes_countStuck_9, c_Outcomes_countStuck_10, c_Outcomes_countStuck_11, c_Outcomes_countStuck_12, c_Outcomes_countStuck_13, c_Outcomes_countStuck_14, c_Outcomes_countStuck_15, c_Outcomes_countStuck_16, sx_aload_n, sx_getfield, sx_goto, sx_iconst, sx_ifCond_eq, sx_if_icmp_ge, sx_iinc, sx_iload_n, sx_ireturn, sx_istore_n, sx_zreturn, am_W_s, am_W_0, am_mm_some, List.mem_cons, or_false, false_or, or_self, or_true, true_or, reduceIte, if_false, if_true, am_o_some, am_o_none, am_o_bad, am_o_good, am_ldi_hit, am_ldi_miss, am_lda_hit, am_lda_miss, am_ldl_hit, am_ldl_miss, am_inc_eq, am_inc_hit, am_inc_miss, am_ob_hit, am_fd_0, am_fd_s, am_ai_hit, am_ab_3, am_al_hit, am_aq_4, am_al0_hit, am_put_1, am_put_2, am_put_put, am_up_hit, am_up_miss, am_s1_eq, am_s2_eq, am_fl_nil, am_fl_hit, am_fl_int, am_fl_ref, am_fl_long, am_fl_longx, am_fl2_nil, am_fl2_hit, am_fl2_hit1, am_fl2_int, am_fl2_ref, am_fl2_long, List.not_mem_nil, not_false_eq_true, ne_eq, Nat.reduceAdd, Nat.reduceEqDiff, Nat.zero_add, Nat.add_left_cancel_iff, List.set_cons_zero, List.set_cons_succ, List.length_cons, List.length_nil, Nat.reduceLT, am_ft_i, am_ft_r, am_ft_z, and_true, true_and, Option.toList_some, Option.toList_none, List.cons_append, List.nil_append, List.drop_succ_cons, List.drop_zero, iI_c, iI_b, iI_s, iI_n, iI_add, iI_sub, iI_mul, iI_neg, iI_nle, iI_ix, iI_eq0, iI_eq1, iI_lt0, iI_0lt, iI_le0, iI_0le, iI_eq, iI_lt, iI_le, iI_upd, iI_updZ, Int.reduceEq, Int.reduceLT, Int.reduceLE, Int.reduceNeg, Int.reduceNe, ou_fs_len, ou_f0, ou_f1, ou_f2, ou_f3, ou_f4, ou_s0, rw_hit]
      exact g.lo (al_le_of (by simp) (by simp))
    · refine am_go_of 10 [4, 10] _ c_Outcomes_countStuck_11 ?_
      simp (maxSteps := 2000000) (disch := omega) only [c_Outcomes_countStuck_0, c_Outcomes_countStuck_1, c_Outcomes_countStuck_2, c_Outcomes_countStuck_3, c_Outcomes_countStuck_4, c_Outcomes_countStuck_5, c_Outcomes_countStuck_6, c_Outcomes_countStuck_7, c_Outcomes_countStuck_8, c_Outcomes_countStuck_9, c_Outcomes_countStuck_10, c_Outcomes_countStuck_11, c_Outcomes_countStuck_12, c_Outcomes_countStuck_13, c_Outcomes_countStuck_14, c_Outcomes_countStuck_15, c_Outcomes_countStuck_16, sx_aload_n, sx_getfield, sx_goto, sx_iconst, sx_ifCond_eq, sx_if_icmp_ge, sx_iinc, sx_iload_n, sx_ireturn, sx_istore_n, sx_zreturn, am_W_s, am_W_0, am_mm_some, List.mem_cons, or_false, false_or, or_self, or_true, true_or, reduceIte, if_false, if_true, am_o_some, am_o_none, am_o_bad, am_o_good, am_ldi_hit, am_ldi_miss, am_lda_hit, am_lda_miss, am_ldl_hit, am_ldl_miss, am_inc_eq, am_inc_hit, am_inc_miss, am_ob_hit, am_fd_0, am_fd_s, am_ai_hit, am_ab_3, am_al_hit, am_aq_4, am_al0_hit, am_put_1, am_put_2, am_put_put, am_up_hit, am_up_miss, am_s1_eq, am_s2_eq, am_fl_nil, am_fl_hit, am_fl_int, am_fl_ref, am_fl_long, am_fl_longx, am_fl2_nil, am_fl2_hit, am_fl2_hit1, am_fl2_int, am_fl2_ref, am_fl2_long, List.not_mem_nil, not_false_eq_true, ne_eq, Nat.reduceAdd, Nat.reduceEqDiff, Nat.zero_add, Nat.add_left_cancel_iff, List.set_cons_zero, List.set_cons_succ, List.length_cons, List.length_nil, Nat.reduceLT, am_ft_i, am_ft_r, am_ft_z, and_true, true_and, Option.toList_some, Option.toList_none, List.cons_append, List.nil_append, List.drop_succ_cons, List.drop_zero, iI_c, iI_b, iI_s, iI_n, iI_add, iI_sub, iI_mul, iI_neg, iI_nle, iI_ix, iI_eq0, iI_eq1, iI_lt0, iI_0lt, iI_le0, iI_0le, iI_eq, iI_lt, iI_le, iI_upd, iI_updZ, Int.reduceEq, Int.reduceLT, Int.reduceLE, Int.reduceNeg, Int.reduceNe, ou_fs_len, ou_f0, ou_f1, ou_f2, ou_f3, ou_f4, ou_s0, rw_hit]
      exact g.lo (al_le_of (by simp) (by simp))
set_option maxHeartbeats 8000000 in
theorem ct_cstuck (d : Nat) (hd : 3 ≤ d) (h : am_H) (y : Nat) (c : Int) (P O Ln V : Int → Int) (H : ou_at h y c P O Ln V) (hc : 0 ≤ c ∧ c ≤ 60) (f : Int → Int → Int) (hf : ∀ i : Int, 0 ≤ i ∧ i < c → oc_ok (f i) ∧ P i = ocd (f i)) : am_Ct am_df am_MT d 96 [.ref y] h (fun r0 h' => r0 = some (.int (iI (sm9 (fun n => stk1 (f n)) c.toNat))) ∧ h' = h) := by
  obtain ⟨d, rfl⟩ : ∃ e, d = e + 1 := ⟨d - 1, by omega⟩
  refine am_ct_of2 mt_Outcomes_countStuck (Nat.le_of_ble_eq_true rfl) ?_
  simp only [ar_nil, ar_int, ar_ref, ar_long, Nat.reduceAdd]
  refine am_go_of 10 [4, 10] _ c_Outcomes_countStuck_0 ?_
  simp (maxSteps := 2000000) (disch := omega) only [c_Outcomes_countStuck_0, c_Outcomes_countStuck_1, c_Outcomes_countStuck_2, c_Outcomes_countStuck_3, c_Outcomes_countStuck_4, c_Outcomes_countStuck_5, c_Outcomes_countStuck_6, c_Outcomes_countStuck_7, c_Outcomes_countStuck_8, c_Outcomes_countStuck_9, c_Outcomes_countStuck_10, c_Outcomes_countStuck_11, c_Outcomes_countStuck_12, c_Outcomes_countStuck_13, c_Outcomes_countStuck_14, c_Outcomes_countStuck_15, c_Outcomes_countStuck_16, sx_aload_n, sx_getfield, sx_goto, sx_iconst, sx_ifCond_eq, sx_if_icmp_ge, sx_iinc, sx_iload_n, sx_ireturn, sx_istore_n, sx_zreturn, am_W_s, am_W_0, am_mm_some, List.mem_cons, or_false, false_or, or_self, or_true, true_or, reduceIte, if_false, if_true, am_o_some, am_o_none, am_o_bad, am_o_good, am_ldi_hit, am_ldi_miss, am_lda_hit, am_lda_miss, am_ldl_hit, am_ldl_miss, am_inc_eq, am_inc_hit, am_inc_miss, am_ob_hit, am_fd_0, am_fd_s, am_ai_hit, am_ab_3, am_al_hit, am_aq_4, am_al0_hit, am_put_1, am_put_2, am_put_put, am_up_hit, am_up_miss, am_s1_eq, am_s2_eq, am_fl_nil, am_fl_hit, am_fl_int, am_fl_ref, am_fl_long, am_fl_longx, am_fl2_nil, am_fl2_hit, am_fl2_hit1, am_fl2_int, am_fl2_ref, am_fl2_long, List.not_mem_nil, not_false_eq_true, ne_eq, Nat.reduceAdd, Nat.reduceEqDiff, Nat.zero_add, Nat.add_left_cancel_iff, List.set_cons_zero, List.set_cons_succ, List.length_cons, List.length_nil, Nat.reduceLT, am_ft_i, am_ft_r, am_ft_z, and_true, true_and, Option.toList_some, Option.toList_none, List.cons_append, List.nil_append, List.drop_succ_cons, List.drop_zero, iI_c, iI_b, iI_s, iI_n, iI_add, iI_sub, iI_mul, iI_neg, iI_nle, iI_ix, iI_eq0, iI_eq1, iI_lt0, iI_0lt, iI_le0, iI_0le, iI_eq, iI_lt, iI_le, iI_upd, iI_updZ, Int.reduceEq, Int.reduceLT, Int.reduceLE, Int.reduceNeg, Int.reduceNe, ou_fs_len, ou_f0, ou_f1, ou_f2, ou_f3, ou_f4, ou_s0, rw_hit]
  exact (lp_cstk d (by omega) h y c P O Ln V H hc f hf c.toNat 0 (by omega)).lo (al_le_of (by simp [sm9]) (by simp))
set_option maxHeartbeats 8000000 in
theorem lp_sn (d : Nat) (hd : 3 ≤ d) (h : am_H) (w q : Nat) (N : Int) (A : Nat → Int → Int) (R : Nat → Int → Int → Int) (Ty : ty_at h q N A R) (M : Int) (B : Nat → Int → Int) (K : Nat → Int → Int → Int) (H : bo_at h w q M B K) (I : Nat → Int) (F : Nat → Int → Int) (hr : md_rg I F) (hw : md_wf I F) (hT : ty_ok I F N A R) (hB : bo_ok I F M B K) : ∀ (k : Nat) (t : Int), 0 ≤ t → t + k = I 0 → (∀ j : Int, 0 ≤ j ∧ j < t → ¬ Rch (ed I F) j j) → am_Go am_df am_MT d c_Bodies_someNeedsItself (2, [(1, .int (iI t)), (0, .ref w)], [], h) (fun r0 h' => ∃ z, r0 = some (.int (iI z)) ∧ ((z = 0 ∨ z = 1) ∧ (z = 1 ↔ ∃ t : Int, (0 ≤ t ∧ t < I 0) ∧ Rch (ed I F) t t)) ∧ h' = h) := by
  have hI := hr.1
  have eN := hT.1
  have hO := H.2.1
  have yO := Ty.2.1
  intro k
  induction k with
  | zero =>
    intro t h1 h2 h3
    have c : N ≤ t := by omega
    have g : ∃ z, some (Value.int (iI 0)) = some (.int (iI z)) ∧ ((z = 0 ∨ z = 1) ∧ (z = 1 ↔ ∃ t : Int, (0 ≤ t ∧ t < I 0) ∧ Rch (ed I F) t t)) ∧ h = h := ⟨0, rfl, ⟨Or.inl rfl, fun z => absurd z (by decide), fun ⟨j, hj, z⟩ => absurd z (h3 j (by omega))⟩, rfl⟩
    have g2 : ∃ z, some (Value.int (iI 0)) = some (.int (iI z)) ∧ ((z = 0 ∨ z = 1) ∧ (z = 1 ↔ ∃ t : Int, (0 ≤ t ∧ t < I 0) ∧ Rch (ed I F) t t)) := by
      obtain ⟨z, a, b, -⟩ := g
      exact ⟨z, a, b⟩
    clear h3
    refine am_go_of 20 [2, 10] _ c_Bodies_someNeedsItself_2 ?_
    simp (maxSteps := 2000000) (disch := omega) only [c_Bodies_someNeedsItself_0, c_Bodies_someNeedsItself_1, c_Bodies_someNeedsItself_2, c_Bodies_someNeedsItself_3, c_Bodies_someNeedsItself_4, c_Bodies_someNeedsItself_5, c_Bodies_someNeedsItself_6, c_Bodies_someNeedsItself_7, c_Bodies_someNeedsItself_8, c_Bodies_someNeedsItself_9, c_Bodies_someNeedsItself_10, c_Bodies_someNeedsItself_11, c_Bodies_someNeedsItself_12, c_Bodies_someNeedsItself_13, c_Bodies_someNeedsItself_14, c_Bodies_someNeedsItself_15, c_Bodies_someNeedsItself_16, c_Bodies_someNeedsItself_17, sx_aload_n, sx_getfield, sx_goto, sx_iconst, sx_ifCond_eq, sx_if_icmp_ge, sx_iinc, sx_iload_n, sx_ireturn, sx_istore_n, sx_zreturn, am_W_s, am_W_0, am_mm_some, List.mem_cons, or_false, false_or, or_self, or_true, true_or, reduceIte, if_false, if_true, am_o_some, am_o_none, am_o_bad, am_o_good, am_ldi_hit, am_ldi_miss, am_lda_hit, am_lda_miss, am_ldl_hit, am_ldl_miss, am_inc_eq, am_inc_hit, am_inc_miss, am_ob_hit, am_fd_0, am_fd_s, am_ai_hit, am_ab_3, am_al_hit, am_aq_4, am_al0_hit, am_put_1, am_put_2, am_put_put, am_up_hit, am_up_miss, am_s1_eq, am_s2_eq, am_fl_nil, am_fl_hit, am_fl_int, am_fl_ref, am_fl_long, am_fl_longx, am_fl2_nil, am_fl2_hit, am_fl2_hit1, am_fl2_int, am_fl2_ref, am_fl2_long, List.not_mem_nil, not_false_eq_true, ne_eq, Nat.reduceAdd, Nat.reduceEqDiff, Nat.zero_add, Nat.add_left_cancel_iff, List.set_cons_zero, List.set_cons_succ, List.length_cons, List.length_nil, Nat.reduceLT, am_ft_i, am_ft_r, am_ft_z, and_true, true_and, Option.toList_some, Option.toList_none, List.cons_append, List.nil_append, List.drop_succ_cons, List.drop_zero, iI_c, iI_b, iI_s, iI_n, iI_add, iI_sub, iI_mul, iI_neg, iI_nle, iI_ix, iI_eq0, iI_eq1, iI_lt0, iI_0lt, iI_le0, iI_0le, iI_eq, iI_lt, iI_le, iI_upd, iI_updZ, Int.reduceEq, Int.reduceLT, Int.reduceLE, Int.reduceNeg, Int.reduceNe, hO, yO, c, bo_fs_len, bo_f0, bo_f1, bo_f2, bo_f3, bo_f4, bo_f5, bo_f6, bo_f7, bo_f8, bo_s0, ty_fs_len, ty_f0, ty_f1, ty_f2, ty_f3, ty_f4, ty_f5, ty_f6, ty_f7, ty_f8, ty_f9, ty_s0, ty_t1, ty_l1, ty_t2, ty_l2, ty_t3, ty_l3, ty_t11, ty_l11, ty_t12, ty_l12, ty_t13, ty_l13, ty_t14, ty_l14, rw_hit]
    first | exact g | exact g2
  | succ k ih =>
    intro t h1 h2 h3
    have c : ¬ N ≤ t := by omega
    have CT := ct_isNeeded d hd h w q N A R Ty M B K H I F hr hw hT hB t t ⟨h1, by omega⟩ ⟨h1, by omega⟩
    have ihn := fun z : ¬ Rch (ed I F) t t => ih (t + 1) (by omega) (by omega) (fun j hj => by
      by_cases e : j = t
      · rw [e]
        exact z
      · exact h3 j (by omega))
    clear ih h3
    refine am_go_of 20 [2, 10] _ c_Bodies_someNeedsItself_2 ?_
    simp (maxSteps := 2000000) (disch := omega) only [c_Bodies_someNeedsItself_0, c_Bodies_someNeedsItself_1, c_Bodies_someNeedsItself_2, c_Bodies_someNeedsItself_3, c_Bodies_someNeedsItself_4, c_Bodies_someNeedsItself_5, c_Bodies_someNeedsItself_6, c_Bodies_someNeedsItself_7, c_Bodies_someNeedsItself_8, c_Bodies_someNeedsItself_9, c_Bodies_someNeedsItself_10, c_Bodies_someNeedsItself_11, c_Bodies_someNeedsItself_12, c_Bodies_someNeedsItself_13, c_Bodies_someNeedsItself_14, c_Bodies_someNeedsItself_15, c_Bodies_someNeedsItself_16, c_Bodies_someNeedsItself_17, sx_aload_n, sx_getfield, sx_goto, sx_iconst, sx_ifCond_eq, sx_if_icmp_ge, sx_iinc, sx_iload_n, sx_ireturn, sx_istore_n, sx_zreturn, am_W_s, am_W_0, am_mm_some, List.mem_cons, or_false, false_or, or_self, or_true, true_or, reduceIte, if_false, if_true, am_o_some, am_o_none, am_o_bad, am_o_good, am_ldi_hit, am_ldi_miss, am_lda_hit, am_lda_miss, am_ldl_hit, am_ldl_miss, am_inc_eq, am_inc_hit, am_inc_miss, am_ob_hit, am_fd_0, am_fd_s, am_ai_hit, am_ab_3, am_al_hit, am_aq_4, am_al0_hit, am_put_1, am_put_2, am_put_put, am_up_hit, am_up_miss, am_s1_eq, am_s2_eq, am_fl_nil, am_fl_hit, am_fl_int, am_fl_ref, am_fl_long, am_fl_longx, am_fl2_nil, am_fl2_hit, am_fl2_hit1, am_fl2_int, am_fl2_ref, am_fl2_long, List.not_mem_nil, not_false_eq_true, ne_eq, Nat.reduceAdd, Nat.reduceEqDiff, Nat.zero_add, Nat.add_left_cancel_iff, List.set_cons_zero, List.set_cons_succ, List.length_cons, List.length_nil, Nat.reduceLT, am_ft_i, am_ft_r, am_ft_z, and_true, true_and, Option.toList_some, Option.toList_none, List.cons_append, List.nil_append, List.drop_succ_cons, List.drop_zero, iI_c, iI_b, iI_s, iI_n, iI_add, iI_sub, iI_mul, iI_neg, iI_nle, iI_ix, iI_eq0, iI_eq1, iI_lt0, iI_0lt, iI_le0, iI_0le, iI_eq, iI_lt, iI_le, iI_upd, iI_updZ, Int.reduceEq, Int.reduceLT, Int.reduceLE, Int.reduceNeg, Int.reduceNe, hO, yO, c, bo_fs_len, bo_f0, bo_f1, bo_f2, bo_f3, bo_f4, bo_f5, bo_f6, bo_f7, bo_f8, bo_s0, ty_fs_len, ty_f0, ty_f1, ty_f2, ty_f3, ty_f4, ty_f5, ty_f6, ty_f7, ty_f8, ty_f9, ty_s0, ty_t1, ty_l1, ty_t2, ty_l2, ty_t3, ty_l3, ty_t11, ty_l11, ty_t12, ty_l12, ty_t13, ty_l13, ty_t14, ty_l14, rw_hit]
    refine am_go_call c_Bodies_someNeedsItself_10 (by decide) (by decide) (by first | (simp [am_can, am_kd, Value.category, hO]; done) | (simp [am_can, am_kd, am_b, am_c, Value.category, hO]; done) | (simp (disch := omega) [am_can, am_kd, am_b, am_c, Value.category, am_put_1, am_up_hit, am_up_miss, hO]; done)) ?_
    refine CT.mono (fun r9 h2' hr9 => ?_)
    obtain ⟨z, rfl, ⟨hz, hi⟩, rfl⟩ := hr9
    rcases hz with rfl | rfl
    · have g := ihn (fun y => absurd (hi.mpr y) (by decide))
      clear ihn CT
      refine am_go_of 10 [2, 10] _ c_Bodies_someNeedsItself_11 ?_
      simp (maxSteps := 2000000) (disch := omega) only [c_Bodies_someNeedsItself_0, c_Bodies_someNeedsItself_1, c_Bodies_someNeedsItself_2, c_Bodies_someNeedsItself_3, c_Bodies_someNeedsItself_4, c_Bodies_someNeedsItself_5, c_Bodies_someNeedsItself_6, c_Bodies_someNeedsItself_7, c_Bodies_someNeedsItself_8, c_Bodies_someNeedsItself_9, c_Bodies_someNeedsItself_10, c_Bodies_someNeedsItself_11, c_Bodies_someNeedsItself_12, c_Bodies_someNeedsItself_13, c_Bodies_someNeedsItself_14, c_Bodies_someNeedsItself_15, c_Bodies_someNeedsItself_16, c_Bodies_someNeedsItself_17, sx_aload_n, sx_getfield, sx_goto, sx_iconst, sx_ifCond_eq, sx_if_icmp_ge, sx_iinc, sx_iload_n, sx_ireturn, sx_istore_n, sx_zreturn, am_W_s, am_W_0, am_mm_some, List.mem_cons, or_false, false_or, or_self, or_true, true_or, reduceIte, if_false, if_true, am_o_some, am_o_none, am_o_bad, am_o_good, am_ldi_hit, am_ldi_miss, am_lda_hit, am_lda_miss, am_ldl_hit, am_ldl_miss, am_inc_eq, am_inc_hit, am_inc_miss, am_ob_hit, am_fd_0, am_fd_s, am_ai_hit, am_ab_3, am_al_hit, am_aq_4, am_al0_hit, am_put_1, am_put_2, am_put_put, am_up_hit, am_up_miss, am_s1_eq, am_s2_eq, am_fl_nil, am_fl_hit, am_fl_int, am_fl_ref, am_fl_long, am_fl_longx, am_fl2_nil, am_fl2_hit, am_fl2_hit1, am_fl2_int, am_fl2_ref, am_fl2_long, List.not_mem_nil, not_false_eq_true, ne_eq, Nat.reduceAdd, Nat.reduceEqDiff, Nat.zero_add, Nat.add_left_cancel_iff, List.set_cons_zero, List.set_cons_succ, List.length_cons, List.length_nil, Nat.reduceLT, am_ft_i, am_ft_r, am_ft_z, and_true, true_and, Option.toList_some, Option.toList_none, List.cons_append, List.nil_append, List.drop_succ_cons, List.drop_zero, iI_c, iI_b, iI_s, iI_n, iI_add, iI_sub, iI_mul, iI_neg, iI_nle, iI_ix, iI_eq0, iI_eq1, iI_lt0, iI_0lt, iI_le0, iI_0le, iI_eq, iI_lt, iI_le, iI_upd, iI_updZ, Int.reduceEq, Int.reduceLT, Int.reduceLE, Int.reduceNeg, Int.reduceNe, bo_fs_len, bo_f0, bo_f1, bo_f2, bo_f3, bo_f4, bo_f5, bo_f6, bo_f7, bo_f8, bo_s0, ty_fs_len, ty_f0, ty_f1, ty_f2, ty_f3, ty_f4, ty_f5, ty_f6, ty_f7, ty_f8, ty_f9, ty_s0, ty_t1, ty_l1, ty_t2, ty_l2, ty_t3, ty_l3, ty_t11, ty_l11, ty_t12, ty_l12, ty_t13, ty_l13, ty_t14, ty_l14, rw_hit]
      exact g.lo (al_le_of (by simp) (by simp))
    · have g : ∃ z, some (Value.int (iI 1)) = some (.int (iI z)) ∧ ((z = 0 ∨ z = 1) ∧ (z = 1 ↔ ∃ t : Int, (0 ≤ t ∧ t < I 0) ∧ Rch (ed I F) t t)) := ⟨1, rfl, Or.inr rfl, fun _ => ⟨t, ⟨h1, by omega⟩, hi.mp rfl⟩, fun _ => rfl⟩
      clear ihn CT
      refine am_go_of 10 [2, 10] _ c_Bodies_someNeedsItself_11 ?_
      simp (maxSteps := 2000000) (disch := omega) only [c_Bodies_someNeedsItself_0, c_Bodies_someNeedsItself_1, c_Bodies_someNeedsItself_2, c_Bodies_someNeedsItself_3, c_Bodies_someNeedsItself_4, c_Bodies_someNeedsItself_5, c_Bodies_someNeedsItself_6, c_Bodies_someNeedsItself_7, c_Bodies_someNeedsItself_8, c_Bodies_someNeedsItself_9, c_Bodies_someNeedsItself_10, c_Bodies_someNeedsItself_11, c_Bodies_someNeedsItself_12, c_Bodies_someNeedsItself_13, c_Bodies_someNeedsItself_14, c_Bodies_someNeedsItself_15, c_Bodies_someNeedsItself_16, c_Bodies_someNeedsItself_17, sx_aload_n, sx_getfield, sx_goto, sx_iconst, sx_ifCond_eq, sx_if_icmp_ge, sx_iinc, sx_iload_n, sx_ireturn, sx_istore_n, sx_zreturn, am_W_s, am_W_0, am_mm_some, List.mem_cons, or_false, false_or, or_self, or_true, true_or, reduceIte, if_false, if_true, am_o_some, am_o_none, am_o_bad, am_o_good, am_ldi_hit, am_ldi_miss, am_lda_hit, am_lda_miss, am_ldl_hit, am_ldl_miss, am_inc_eq, am_inc_hit, am_inc_miss, am_ob_hit, am_fd_0, am_fd_s, am_ai_hit, am_ab_3, am_al_hit, am_aq_4, am_al0_hit, am_put_1, am_put_2, am_put_put, am_up_hit, am_up_miss, am_s1_eq, am_s2_eq, am_fl_nil, am_fl_hit, am_fl_int, am_fl_ref, am_fl_long, am_fl_longx, am_fl2_nil, am_fl2_hit, am_fl2_hit1, am_fl2_int, am_fl2_ref, am_fl2_long, List.not_mem_nil, not_false_eq_true, ne_eq, Nat.reduceAdd, Nat.reduceEqDiff, Nat.zero_add, Nat.add_left_cancel_iff, List.set_cons_zero, List.set_cons_succ, List.length_cons, List.length_nil, Nat.reduceLT, am_ft_i, am_ft_r, am_ft_z, and_true, true_and, Option.toList_some, Option.toList_none, List.cons_append, List.nil_append, List.drop_succ_cons, List.drop_zero, iI_c, iI_b, iI_s, iI_n, iI_add, iI_sub, iI_mul, iI_neg, iI_nle, iI_ix, iI_eq0, iI_eq1, iI_lt0, iI_0lt, iI_le0, iI_0le, iI_eq, iI_lt, iI_le, iI_upd, iI_updZ, Int.reduceEq, Int.reduceLT, Int.reduceLE, Int.reduceNeg, Int.reduceNe, bo_fs_len, bo_f0, bo_f1, bo_f2, bo_f3, bo_f4, bo_f5, bo_f6, bo_f7, bo_f8, bo_s0, ty_fs_len, ty_f0, ty_f1, ty_f2, ty_f3, ty_f4, ty_f5, ty_f6, ty_f7, ty_f8, ty_f9, ty_s0, ty_t1, ty_l1, ty_t2, ty_l2, ty_t3, ty_l3, ty_t11, ty_l11, ty_t12, ty_l12, ty_t13, ty_l13, ty_t14, ty_l14, rw_hit]
      first | exact g | (obtain ⟨z, a, b⟩ := g; exact ⟨z, a, b, rfl⟩)
set_option maxHeartbeats 8000000 in
theorem ct_someNeeds (d : Nat) (hd : 4 ≤ d) (h : am_H) (w q : Nat) (N : Int) (A : Nat → Int → Int) (R : Nat → Int → Int → Int) (Ty : ty_at h q N A R) (M : Int) (B : Nat → Int → Int) (K : Nat → Int → Int → Int) (H : bo_at h w q M B K) (I : Nat → Int) (F : Nat → Int → Int) (hr : md_rg I F) (hw : md_wf I F) (hT : ty_ok I F N A R) (hB : bo_ok I F M B K) : am_Ct am_df am_MT d 103 [.ref w] h (fun r0 h' => ∃ z, r0 = some (.int (iI z)) ∧ ((z = 0 ∨ z = 1) ∧ (z = 1 ↔ ∃ t : Int, (0 ≤ t ∧ t < I 0) ∧ Rch (ed I F) t t)) ∧ h' = h) := by
  have hI := hr.1
  obtain ⟨d, rfl⟩ : ∃ e, d = e + 1 := ⟨d - 1, by omega⟩
  refine am_ct_of2 mt_Bodies_someNeedsItself (Nat.le_of_ble_eq_true rfl) ?_
  simp only [ar_nil, ar_int, ar_ref, ar_long, Nat.reduceAdd]
  refine am_go_of 10 [2, 10] _ c_Bodies_someNeedsItself_0 ?_
  simp (maxSteps := 2000000) (disch := omega) only [c_Bodies_someNeedsItself_0, c_Bodies_someNeedsItself_1, c_Bodies_someNeedsItself_2, c_Bodies_someNeedsItself_3, c_Bodies_someNeedsItself_4, c_Bodies_someNeedsItself_5, c_Bodies_someNeedsItself_6, c_Bodies_someNeedsItself_7, c_Bodies_someNeedsItself_8, c_Bodies_someNeedsItself_9, c_Bodies_someNeedsItself_10, c_Bodies_someNeedsItself_11, c_Bodies_someNeedsItself_12, c_Bodies_someNeedsItself_13, c_Bodies_someNeedsItself_14, c_Bodies_someNeedsItself_15, c_Bodies_someNeedsItself_16, c_Bodies_someNeedsItself_17, sx_aload_n, sx_getfield, sx_goto, sx_iconst, sx_ifCond_eq, sx_if_icmp_ge, sx_iinc, sx_iload_n, sx_ireturn, sx_istore_n, sx_zreturn, am_W_s, am_W_0, am_mm_some, List.mem_cons, or_false, false_or, or_self, or_true, true_or, reduceIte, if_false, if_true, am_o_some, am_o_none, am_o_bad, am_o_good, am_ldi_hit, am_ldi_miss, am_lda_hit, am_lda_miss, am_ldl_hit, am_ldl_miss, am_inc_eq, am_inc_hit, am_inc_miss, am_ob_hit, am_fd_0, am_fd_s, am_ai_hit, am_ab_3, am_al_hit, am_aq_4, am_al0_hit, am_put_1, am_put_2, am_put_put, am_up_hit, am_up_miss, am_s1_eq, am_s2_eq, am_fl_nil, am_fl_hit, am_fl_int, am_fl_ref, am_fl_long, am_fl_longx, am_fl2_nil, am_fl2_hit, am_fl2_hit1, am_fl2_int, am_fl2_ref, am_fl2_long, List.not_mem_nil, not_false_eq_true, ne_eq, Nat.reduceAdd, Nat.reduceEqDiff, Nat.zero_add, Nat.add_left_cancel_iff, List.set_cons_zero, List.set_cons_succ, List.length_cons, List.length_nil, Nat.reduceLT, am_ft_i, am_ft_r, am_ft_z, and_true, true_and, Option.toList_some, Option.toList_none, List.cons_append, List.nil_append, List.drop_succ_cons, List.drop_zero, iI_c, iI_b, iI_s, iI_n, iI_add, iI_sub, iI_mul, iI_neg, iI_nle, iI_ix, iI_eq0, iI_eq1, iI_lt0, iI_0lt, iI_le0, iI_0le, iI_eq, iI_lt, iI_le, iI_upd, iI_updZ, Int.reduceEq, Int.reduceLT, Int.reduceLE, Int.reduceNeg, Int.reduceNe, bo_fs_len, bo_f0, bo_f1, bo_f2, bo_f3, bo_f4, bo_f5, bo_f6, bo_f7, bo_f8, bo_s0, ty_fs_len, ty_f0, ty_f1, ty_f2, ty_f3, ty_f4, ty_f5, ty_f6, ty_f7, ty_f8, ty_f9, ty_s0, ty_t1, ty_l1, ty_t2, ty_l2, ty_t3, ty_l3, ty_t11, ty_l11, ty_t12, ty_l12, ty_t13, ty_l13, ty_t14, ty_l14, rw_hit]
  exact (lp_sn d (by omega) h w q N A R Ty M B K H I F hr hw hT hB (I 0).toNat 0 (Int.le_refl _) (by omega) (fun j hj => by omega)).lo (al_le_of (by simp) (by simp))
