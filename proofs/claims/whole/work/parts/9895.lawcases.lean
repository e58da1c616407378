/-! The calls of the law, one by one. -/
theorem va_all {I : Nat → Int} {F : Nat → Int → Int} {r : rn} (h : md_all I F r) : rs_rg (F 13) ∧ rs_at F (F 13) := by
  have e := h.1.1
  exact vec_at sf.rf h.1.2.2.2.1 e
theorem lc_type {h : am_H} (L : LR h) (s p : Int) (hs : -2147483648 ≤ s ∧ s < 2147483648) (hp : -2147483648 ≤ p ∧ p < 2147483648) : LC h 8 [.ref 1, .int (iI s), .int (iI p)] 106 [.ref 121, .int (iI s), .int (iI p)] := by
  refine lc_hz L (fun I F r v N A R M B K n m X S md ma ts tk gd => ?_)
  refine (ct_Ttype 8 (by decide) h 1 v N A R M B K n m X S ts I F r ma tk gd s p hs hp).mono (fun r0 h' hr => ?_)
  obtain ⟨rfl, hr⟩ := hr
  refine ⟨_, rfl, ?_⟩
  have D := fun h9 (md9 : md_at h9 121 I F) => ct_Mtype 9 (by decide) h9 121 I F md9 r ma s p hs hp
  by_cases c : an_type I F s p < 0
  · rw [if_pos c] at hr
    simp only [if_pos c] at D
    exact Or.inl ⟨hr, D⟩
  · rw [if_neg c] at hr
    simp only [if_neg c] at D
    exact Or.inr ⟨_, _, hr, D⟩
theorem lc_face {h : am_H} (L : LR h) (t f : Int) (ht : -2147483648 ≤ t ∧ t < 2147483648) (hf : -2147483648 ≤ f ∧ f < 2147483648) : LC h 24 [.ref 1, .int (iI t), .int (iI f)] 112 [.ref 121, .int (iI t), .int (iI f)] := by
  refine lc_hz L (fun I F r v N A R M B K n m X S md ma ts tk gd => ?_)
  refine (ct_Tface 8 (by decide) h 1 v N A R M B K n m X S ts I F r ma tk gd t f ht hf).mono (fun r0 h' hr => ?_)
  obtain ⟨rfl, hr⟩ := hr
  refine ⟨_, rfl, ?_⟩
  have D := fun h9 (md9 : md_at h9 121 I F) => ct_Mface 9 (by decide) h9 121 I F md9 r ma t f ht hf
  by_cases c : an_face I F t f < 0
  · rw [if_pos c] at hr
    simp only [if_pos c] at D
    exact Or.inl ⟨hr, D⟩
  · rw [if_neg c] at hr
    simp only [if_neg c] at D
    exact Or.inr ⟨_, _, hr, D⟩
theorem lc_field {h : am_H} (L : LR h) (t : Int) (ht : -2147483648 ≤ t ∧ t < 2147483648) : LC h 27 [.ref 1, .int (iI t)] 113 [.ref 121, .int (iI t)] := by
  refine lc_hz L (fun I F r v N A R M B K n m X S md ma ts tk gd => ?_)
  refine (ct_Tfield 8 (by decide) h 1 v N A R M B K n m X S ts I F r ma tk gd t ht).mono (fun r0 h' hr => ?_)
  obtain ⟨rfl, hr⟩ := hr
  refine ⟨_, rfl, ?_⟩
  have D := fun h9 (md9 : md_at h9 121 I F) => ct_Mfield 9 (by decide) h9 121 I F md9 r ma t ht
  by_cases c : an_field I F t < 0
  · rw [if_pos c] at hr
    simp only [if_pos c] at D
    exact Or.inl ⟨hr, D⟩
  · rw [if_neg c] at hr
    simp only [if_neg c] at D
    exact Or.inr ⟨_, _, hr, D⟩
theorem lc_action {h : am_H} (L : LR h) (b k a u g : Int) (hb : -2147483648 ≤ b ∧ b < 2147483648) (hk : -2147483648 ≤ k ∧ k < 2147483648) (haa : -2147483648 ≤ a ∧ a < 2147483648) (hu : -2147483648 ≤ u ∧ u < 2147483648) (hg : g = 0 ∨ g = 1) : LC h 33 [.ref 1, .int (iI b), .int (iI k), .int (iI a), .int (iI u), .int (iI g)] 116 [.ref 121, .int (iI b), .int (iI k), .int (iI a), .int (iI u), .int (iI g)] := by
  refine lc_hz L (fun I F r v N A R M B K n m X S md ma ts tk gd => ?_)
  refine (ct_Taction 8 (by decide) h 1 v N A R M B K n m X S ts I F r ma tk gd b k a u g hb hk haa hu hg).mono (fun r0 h' hr => ?_)
  obtain ⟨rfl, hr⟩ := hr
  refine ⟨_, rfl, ?_⟩
  have D := fun h9 (md9 : md_at h9 121 I F) => ct_Maction 9 (by decide) h9 121 I F md9 r ma b k a u g hb hk haa hu hg
  by_cases c : an_action I F b k a u < 0
  · rw [if_pos c] at hr
    simp only [if_pos c] at D
    exact Or.inl ⟨hr, D⟩
  · rw [if_neg c] at hr
    simp only [if_neg c] at D
    exact Or.inr ⟨_, _, hr, D⟩
theorem ba_13 {F : Nat → Int → Int} {g : Int → Int} : ba_fr F (va_up F 13 g) := fun k _ _ _ _ _ h => va_up_miss h
/-- a house without TYPES and THREADS -/
theorem md_all_cl {I : Nat → Int} {F : Nat → Int → Int} {r : rn} (h : md_all I F r) : md_all (fs_I (cl_I I)) (va_up F 13 (vec (rz r))) (rz r) := by
  obtain ⟨⟨o1, o2, o3, o4, o5⟩, hh, hd, hl, hb, h3, -⟩ := h
  have c0 : cl_I I 0 = 0 := rfl
  have c1 : cl_I I 1 = 0 := rfl
  have e := all_ba (I := cl_I I) (I' := fs_I (cl_I I)) (F0 := F) (F1 := F) (g := F 17) (r := r) ⟨by rw [c0, c1]; decide, o2.2⟩ ⟨hh.1, fun t ht => by
    rw [c0] at ht
    omega⟩ (fun b k hbk => by
    rw [c0, c1] at hbk
    omega) (show cl_I I 3 = 1 from h3) ⟨fun k _ _ _ _ => rfl, hl, fun x hx => by
    rw [c0] at hx
    omega⟩ ⟨fun x hx => by
    rw [c0] at hx
    omega, fun x hx => by
    have := o2.2.1 x hx
    omega⟩ rfl
  rw [va_up_same rfl] at e
  exact e
theorem lc_clear {h : am_H} (L : LR h) : LC h 30 [.ref 1] 115 [.ref 121] := by
  refine lc_hz L (fun I F r v N A R M B K n m X S md ma ts tk gd => ?_)
  refine (ct_Tclear 8 (by decide) h 1 v N A R M B K n m X S ts I F r ma tk gd).mono (fun r0 h' hr => ?_)
  obtain ⟨rfl, hr⟩ := hr
  refine ⟨_, rfl, Or.inr ⟨_, _, hr, fun h9 md9 => (ct_Mclear 9 (by decide) h9 121 I F md9 r ma.1.1).mono (fun r0 h2 hr => ?_)⟩⟩
  obtain ⟨rfl, w⟩ := hr
  exact ⟨rfl, _, w, ba_13, md_all_cl ma⟩
/-- one more THREAD -/
theorem md_all_th {I : Nat → Int} {F : Nat → Int → Int} {r : rn} (h : md_all I F r) (h1 : I 1 ≠ 3) : md_all (fs_I (va_up I 1 (I 1 + 1))) (va_up (va_up F 8 (vI (F 8) (6 + I 1) 0)) 13 (vec (rz r))) (rz r) := by
  obtain ⟨⟨o1, o2, o3, o4, o5⟩, hh, hd, hl, hb, h3, -⟩ := h
  have hI := o2.1
  have c0 : va_up I 1 (I 1 + 1) 0 = I 0 := rfl
  have c1 : va_up I 1 (I 1 + 1) 1 = I 1 + 1 := rfl
  have e8 : va_up F 8 (vI (F 8) (6 + I 1) 0) 8 = vI (F 8) (6 + I 1) 0 := rfl
  have ek : ∀ k : Nat, k ≠ 8 → va_up F 8 (vI (F 8) (6 + I 1) 0) k = F k := fun k hk => va_up_miss hk
  have et : ∀ n : Nat, tbl (va_up F 8 (vI (F 8) (6 + I 1) 0)) n = tbl F n := fun n => tbl_congr n (fun x hx => ⟨rfl, rfl, rfl, fun _ _ => rfl⟩)
  have eo : ∀ n : Nat, otb (va_up F 8 (vI (F 8) (6 + I 1) 0)) n = otb F n := fun n => otb_congr n (fun x hx => ⟨rfl, rfl, rfl, fun _ _ => rfl⟩)
  have e := all_ba (I := va_up I 1 (I 1 + 1)) (I' := fs_I (va_up I 1 (I 1 + 1))) (F0 := va_up F 8 (vI (F 8) (6 + I 1) 0)) (F1 := va_up F 8 (vI (F 8) (6 + I 1) 0)) (g := va_up F 8 (vI (F 8) (6 + I 1) 0) 17) (r := r) (by
    refine ⟨by rw [c0, c1]; omega, o2.2.1, o2.2.2.1, o2.2.2.2.1, fun k hk => ?_, o2.2.2.2.2.2⟩
    rw [e8]
    by_cases c : k = 6 + I 1
    · rw [c, vI_hit]
      decide
    · rw [vI_miss c]
      exact o2.2.2.2.2.1 k hk) (by
    unfold md_hs at *
    exact hh) (fun b k hbk hk => by
    rw [e8] at hk
    rw [c0, c1] at hbk
    by_cases c : b = 6 + I 1
    · rw [c, vI_hit] at hk
      omega
    · rw [vI_miss c] at hk
      exact hb b k (by omega) hk) (show va_up I 1 (I 1 + 1) 3 = 1 from h3) ⟨fun k _ _ _ _ => rfl, hl, fun x hx => by
    rw [et]
    exact hd.1 x hx⟩ ⟨fun x hx => by
    rw [eo]
    exact hd.2 x hx, fun x hx => by
    have := o2.2.1 x hx
    show -1 ≤ F 17 x ∧ F 17 x ≤ 5
    omega⟩ rfl
  rw [va_up_same rfl] at e
  exact e
theorem lc_thread {h : am_H} (L : LR h) : LC h 29 [.ref 1] 114 [.ref 121] := by
  refine lc_hz L (fun I F r v N A R M B K n m X S md ma ts tk gd => ?_)
  refine (ct_Tthread 8 (by decide) h 1 v N A R M B K n m X S ts I F r ma tk gd).mono (fun r0 h' hr => ?_)
  have D := fun h9 (md9 : md_at h9 121 I F) => ct_Mthread 9 (by decide) h9 121 I F md9 ma.1.2.1 r ma.1.1
  by_cases c : I 1 = 3
  · rw [if_pos c] at hr
    simp only [if_pos c] at D
    obtain ⟨rfl, hr⟩ := hr
    exact ⟨_, rfl, Or.inl ⟨hr, D⟩⟩
  · rw [if_neg c] at hr
    simp only [if_neg c] at D
    obtain ⟨rfl, hr⟩ := hr
    refine ⟨_, rfl, Or.inr ⟨_, _, hr, fun h9 md9 => (D h9 md9).mono (fun r0 h2 hr => ?_)⟩⟩
    obtain ⟨rfl, w⟩ := hr
    exact ⟨rfl, _, w, ba_13, md_all_th ma c⟩
/-- behind a call that moves the run -/
theorem lr_mv {h h1 h2 : am_H} {I I' : Nat → Int} {F F' : Nat → Int → Int} {r r' : rn} {v N : Int} {A : Nat → Int → Int} {R : Nat → Int → Int → Int} {M : Int} {B : Nat → Int → Int} {K : Nat → Int → Int → Int} {n m : Int} {X : Nat → Int → Int} {S : Int → Int → Int} (ma : md_all I F r) (gd : gd_ok B) (cx : cx_at h 1 I F r v) (tt : tt_to h 1 (-1) N A R M B K n m X S h1) (tk : ts_ok I' F' r' N A R M B K n m X S) (mt : md_to h1 121 I' F' h2) (ma' : md_all I' F' r') (h5 : I' 5 = 0) : LR h2 ∧ h2.1 0 = h.1 0 ∧ h2.2 = h.2 :=
  ⟨⟨I', F', r', -1, N, A, R, M, B, K, n, m, X, S, mt.1, ma', tt.1.fr (fun a a1 a2 => mt.2.1 a (by omega)), tk, gd, cx.no ma.1.2.1 ma.1.2.2.1 ma.1.2.2.2.1 (fun a a1 a2 => (mt.2.1 a (by omega)).trans (tt.2.1 a (by omega))), Or.inr ⟨by decide, h5⟩⟩, (mt.2.1 0 (by omega)).trans (tt.2.1 0 (by omega)), mt.2.2.trans tt.2.2⟩
theorem lc_begin {h : am_H} (L : LR h) : LC h 38 [.ref 1] 119 [.ref 121] := by
  obtain ⟨I, F, r, v, N, A, R, M, B, K, n, m, X, S, md, ma, ts, tk, gd, cx, sr⟩ := L
  refine (ct_Tbegin 9 (by decide) h 1 v N A R M B K n m X S ts I F r tk).mono (fun r1 h1 hr => ?_)
  obtain ⟨rfl, X', tt, tk'⟩ := hr
  have md1 : md_at h1 121 I F := md.fr (fun a a1 a2 => tt.2.1 a (by omega))
  refine ⟨_, rfl, ⟨I, md1.2.1⟩, tt.2.1 0 (by omega), (ct_Mbegin 9 (by decide) h1 121 I F md1 r ma.1.1).mono (fun r2 h2 hr => ?_)⟩
  obtain ⟨rfl, w⟩ := hr
  exact ⟨rfl, lr_mv ma gd cx tt tk' w (md_all_0 ma) va_up_hit⟩
theorem lc_turn {h : am_H} (L : LR h) (z : Int) (hz : -2147483648 ≤ z ∧ z < 2147483648) : LC h 39 [.ref 1, .int (iI z)] 120 [.ref 121, .int (iI z)] := by
  have L' := L
  obtain ⟨I, F, r, v, N, A, R, M, B, K, n, m, X, S, md, ma, ts, tk, gd, cx, sr⟩ := L'
  have hI := ma.1.2.1.1
  refine (ct_Tturn 9 (by decide) h 1 v N A R M B K n m X S ts I F r ma.1 ma.2.2.2.2.2.1 tk z hz).mono (fun r1 h1 hr => ?_)
  obtain ⟨rfl, n1, y1⟩ := hr
  by_cases c : an_turn I F z = 1
  · obtain ⟨n', m', X', S', tt, tk'⟩ := y1 c
    have md1 : md_at h1 121 I F := md.fr (fun a a1 a2 => tt.2.1 a (by omega))
    refine ⟨_, rfl, ⟨I, md1.2.1⟩, tt.2.1 0 (by omega), (ct_Mturn 8 (by decide) h1 121 I F md1 ma.1.2.1 ma.1.2.2.1 r ma.1.1 ma.1.2.2.2.1 ma.1.2.2.2.2 z hz).mono (fun r2 h2 hr => ?_)⟩
    obtain ⟨rfl, w⟩ := hr
    rw [if_pos c] at w
    have hz1 : (0 ≤ z ∧ z < I 1) ∧ F 13 (36 + z) = 0 := by
      unfold an_turn at c
      by_cases c1 : 0 ≤ z ∧ z < I 1
      · rw [if_pos c1] at c
        by_cases c2 : F 13 (36 + z) = 0
        · exact ⟨c1, c2⟩
        · rw [if_neg c2] at c
          omega
      · rw [if_neg c1] at c
        omega
    have hen : r_en r z = 0 := by
      have e := hz1.2
      rw [ma.1.1, v_en hz1.1.1 (by omega)] at e
      exact e
    exact ⟨rfl, lr_mv ma gd cx tt tk' w (md_all_mk ma hz1.1 hen) mk_J_5⟩
  · have e := n1 c
    rw [e]
    refine ⟨_, rfl, ⟨I, md.2.1⟩, rfl, (ct_Mturn 8 (by decide) h 121 I F md ma.1.2.1 ma.1.2.2.1 r ma.1.1 ma.1.2.2.2.1 ma.1.2.2.2.2 z hz).mono (fun r2 h2 hr => ?_)⟩
    obtain ⟨rfl, w⟩ := hr
    rw [if_neg c] at w
    rw [w]
    exact ⟨rfl, L, rfl, rfl⟩
theorem lc_go {h : am_H} (L : LR h) (z : Int32) : LC h 56 [.ref 1, .int z] 138 [.ref 121, .int z] := by
  have L' := L
  obtain ⟨I, F, r, v, N, A, R, M, B, K, n, m, X, S, md, ma, ts, tk, gd, cx, sr⟩ := L'
  have ga := md_all_go 67 z 0 I F r ma
  refine (ct_Tgo 9 (by decide) h 1 v N A R M B K n m X S ts I F r ma.1 ma.2.2.2.2.2.1 tk z).mono (fun r1 h1 hr => ?_)
  obtain ⟨rfl, n1, y1⟩ := hr
  have CM := fun h9 (md9 : md_at h9 121 I F) => ct_Mgo 9 (by decide) h9 121 I F md9 r ma.1 z
  generalize go_f 67 z 0 I F r = G at *
  by_cases c : G.1 = 0
  · obtain ⟨e, eG⟩ := n1 c
    rw [e]
    refine ⟨_, rfl, ⟨I, md.2.1⟩, rfl, (CM h md).mono (fun r2 h2 hr => ?_)⟩
    obtain ⟨rfl, w⟩ := hr
    subst eG
    have w2 : md_to h 121 I F h2 := w
    have eh : ∀ a, h2.1 a = h.1 a := fun a => by
      by_cases ca : a < 121 ∨ 121 + 28 < a
      · exact w2.2.1 a ca
      · by_cases c0 : a = 121
        · rw [c0, w2.1.2.1, md.2.1]
        · obtain ⟨k, rfl⟩ : ∃ k, a = 121 + k := ⟨a - 121, by omega⟩
          rw [w2.1.2.2 k (by omega) (by omega), md.2.2 k (by omega) (by omega)]
    have e2 : h2 = h := Prod.ext (funext eh) w2.2.2
    rw [e2]
    exact ⟨rfl, L, rfl, rfl⟩
  · obtain ⟨n', m', X', S', tt, tk'⟩ := y1 c
    have md1 : md_at h1 121 I F := md.fr (fun a a1 a2 => tt.2.1 a (by omega))
    refine ⟨_, rfl, ⟨I, md1.2.1⟩, tt.2.1 0 (by omega), (CM h1 md1).mono (fun r2 h2 hr => ?_)⟩
    obtain ⟨rfl, w⟩ := hr
    exact ⟨rfl, lr_mv ma gd cx tt tk' w ga.1 (ga.2.2 c)⟩
theorem lc_steps {h : am_H} (L : LR h) : LC h 60 [.ref 1] 139 [.ref 121] := by
  have L' := L
  obtain ⟨I, F, r, v, N, A, R, M, B, K, n, m, X, S, md, ma, ts, tk, gd, cx, sr⟩ := L'
  have hr := ma.1.2.1
  have va := va_all ma
  have h5 := ma.2.1.1
  have h4 : 0 ≤ I 4 ∧ I 4 ≤ 300 := by
    have l := ma.1.2.2.2.2
    have q := mu_0 (a := 7) ma.1.2.2.2.1.1 (by decide)
    have q3 := ma.2.2.2.2.2.1
    unfold lg_ok at l
    omega
  exact lc_q _ L (ct_Tsteps 9 (by decide) h 1 v N A R M B K n m X S ts I F r ma tk) (ct_Msteps 9 (by decide) h 121 I F md)
theorem lc_state {h : am_H} (L : LR h) (z : Int) (hz : -2147483648 ≤ z ∧ z < 2147483648) : LC h 61 [.ref 1, .int (iI z)] 140 [.ref 121, .int (iI z)] := by
  have L' := L
  obtain ⟨I, F, r, v, N, A, R, M, B, K, n, m, X, S, md, ma, ts, tk, gd, cx, sr⟩ := L'
  have hr := ma.1.2.1
  have va := va_all ma
  have h5 := ma.2.1.1
  have h4 : 0 ≤ I 4 ∧ I 4 ≤ 300 := by
    have l := ma.1.2.2.2.2
    have q := mu_0 (a := 7) ma.1.2.2.2.1.1 (by decide)
    have q3 := ma.2.2.2.2.2.1
    unfold lg_ok at l
    omega
  exact lc_q _ L (ct_Tstate 9 (by decide) h 1 v N A R M B K n m X S ts I F r ma tk z hz) (ct_Mstate 9 (by decide) h 121 I F md hr z hz)
theorem lc_in {h : am_H} (L : LR h) (z : Int) (hz : -2147483648 ≤ z ∧ z < 2147483648) : LC h 62 [.ref 1, .int (iI z)] 141 [.ref 121, .int (iI z)] := by
  have L' := L
  obtain ⟨I, F, r, v, N, A, R, M, B, K, n, m, X, S, md, ma, ts, tk, gd, cx, sr⟩ := L'
  have hr := ma.1.2.1
  have va := va_all ma
  have h5 := ma.2.1.1
  have h4 : 0 ≤ I 4 ∧ I 4 ≤ 300 := by
    have l := ma.1.2.2.2.2
    have q := mu_0 (a := 7) ma.1.2.2.2.1.1 (by decide)
    have q3 := ma.2.2.2.2.2.1
    unfold lg_ok at l
    omega
  exact lc_q _ L (ct_Tin 9 (by decide) h 1 v N A R M B K n m X S ts I F r ma tk z hz) (ct_Min 9 (by decide) h 121 I F md hr z hz)
theorem lc_value {h : am_H} (L : LR h) (z : Int) (hz : -2147483648 ≤ z ∧ z < 2147483648) : LC h 63 [.ref 1, .int (iI z)] 142 [.ref 121, .int (iI z)] := by
  have L' := L
  obtain ⟨I, F, r, v, N, A, R, M, B, K, n, m, X, S, md, ma, ts, tk, gd, cx, sr⟩ := L'
  have hr := ma.1.2.1
  have va := va_all ma
  have h5 := ma.2.1.1
  have h4 : 0 ≤ I 4 ∧ I 4 ≤ 300 := by
    have l := ma.1.2.2.2.2
    have q := mu_0 (a := 7) ma.1.2.2.2.1.1 (by decide)
    have q3 := ma.2.2.2.2.2.1
    unfold lg_ok at l
    omega
  exact lc_q _ L (ct_Tvalue 9 (by decide) h 1 v N A R M B K n m X S ts I F r ma tk z hz) (ct_Mvalue 9 (by decide) h 121 I F md hr h5 z hz)
theorem lc_end {h : am_H} (L : LR h) (z : Int) (hz : -2147483648 ≤ z ∧ z < 2147483648) : LC h 64 [.ref 1, .int (iI z)] 143 [.ref 121, .int (iI z)] := by
  have L' := L
  obtain ⟨I, F, r, v, N, A, R, M, B, K, n, m, X, S, md, ma, ts, tk, gd, cx, sr⟩ := L'
  have hr := ma.1.2.1
  have va := va_all ma
  have h5 := ma.2.1.1
  have h4 : 0 ≤ I 4 ∧ I 4 ≤ 300 := by
    have l := ma.1.2.2.2.2
    have q := mu_0 (a := 7) ma.1.2.2.2.1.1 (by decide)
    have q3 := ma.2.2.2.2.2.1
    unfold lg_ok at l
    omega
  exact lc_q _ L (ct_Tend 9 (by decide) h 1 v N A R M B K n m X S ts I F r ma tk z hz) (ct_Mend 9 (by decide) h 121 I F md hr va.1 va.2 z hz)
theorem lc_waits {h : am_H} (L : LR h) (z : Int) (hz : -2147483648 ≤ z ∧ z < 2147483648) : LC h 65 [.ref 1, .int (iI z)] 145 [.ref 121, .int (iI z)] := by
  have L' := L
  obtain ⟨I, F, r, v, N, A, R, M, B, K, n, m, X, S, md, ma, ts, tk, gd, cx, sr⟩ := L'
  have hr := ma.1.2.1
  have va := va_all ma
  have h5 := ma.2.1.1
  have h4 : 0 ≤ I 4 ∧ I 4 ≤ 300 := by
    have l := ma.1.2.2.2.2
    have q := mu_0 (a := 7) ma.1.2.2.2.1.1 (by decide)
    have q3 := ma.2.2.2.2.2.1
    unfold lg_ok at l
    omega
  exact lc_q _ L (ct_Twaits 9 (by decide) h 1 v N A R M B K n m X S ts I F r ma tk z hz) (ct_Mwaits 9 (by decide) h 121 I F md hr va.1 va.2 z hz)
theorem lc_start {h : am_H} (L : LR h) (z i : Int) (hz : -2147483648 ≤ z ∧ z < 2147483648) (hi : -2147483648 ≤ i ∧ i < 2147483648) : LC h 66 [.ref 1, .int (iI z), .int (iI i)] 146 [.ref 121, .int (iI z), .int (iI i)] := by
  have L' := L
  obtain ⟨I, F, r, v, N, A, R, M, B, K, n, m, X, S, md, ma, ts, tk, gd, cx, sr⟩ := L'
  have hr := ma.1.2.1
  have va := va_all ma
  have h5 := ma.2.1.1
  have h4 : 0 ≤ I 4 ∧ I 4 ≤ 300 := by
    have l := ma.1.2.2.2.2
    have q := mu_0 (a := 7) ma.1.2.2.2.1.1 (by decide)
    have q3 := ma.2.2.2.2.2.1
    unfold lg_ok at l
    omega
  exact lc_q _ L (ct_Tstart 9 (by decide) h 1 v N A R M B K n m X S ts I F r ma tk z hz i hi) (ct_Mstart 9 (by decide) h 121 I F md hr va.1 z i hz hi)
theorem lc_log {h : am_H} (L : LR h) (z i : Int) (hz : -2147483648 ≤ z ∧ z < 2147483648) (hi : -2147483648 ≤ i ∧ i < 2147483648) : LC h 67 [.ref 1, .int (iI z), .int (iI i)] 147 [.ref 121, .int (iI z), .int (iI i)] := by
  have L' := L
  obtain ⟨I, F, r, v, N, A, R, M, B, K, n, m, X, S, md, ma, ts, tk, gd, cx, sr⟩ := L'
  have hr := ma.1.2.1
  have va := va_all ma
  have h5 := ma.2.1.1
  have h4 : 0 ≤ I 4 ∧ I 4 ≤ 300 := by
    have l := ma.1.2.2.2.2
    have q := mu_0 (a := 7) ma.1.2.2.2.1.1 (by decide)
    have q3 := ma.2.2.2.2.2.1
    unfold lg_ok at l
    omega
  exact lc_q _ L (ct_Tlog 9 (by decide) h 1 v N A R M B K n m X S ts I F r ma tk z i hz hi) (ct_Mlog 9 (by decide) h 121 I F md h4 z i hz hi)
theorem lc_list {h : am_H} (L : LR h) (z i : Int) (hz : -2147483648 ≤ z ∧ z < 2147483648) (hi : -2147483648 ≤ i ∧ i < 2147483648) : LC h 69 [.ref 1, .int (iI z), .int (iI i)] 148 [.ref 121, .int (iI z), .int (iI i)] := by
  have L' := L
  obtain ⟨I, F, r, v, N, A, R, M, B, K, n, m, X, S, md, ma, ts, tk, gd, cx, sr⟩ := L'
  have hr := ma.1.2.1
  have va := va_all ma
  have h5 := ma.2.1.1
  have h4 : 0 ≤ I 4 ∧ I 4 ≤ 300 := by
    have l := ma.1.2.2.2.2
    have q := mu_0 (a := 7) ma.1.2.2.2.1.1 (by decide)
    have q3 := ma.2.2.2.2.2.1
    unfold lg_ok at l
    omega
  exact lc_q _ L (ct_Tlist 9 (by decide) h 1 v N A R M B K n m X S ts I F r ma tk z hz i hi) (ct_Mlist 9 (by decide) h 121 I F md hr z i hz hi)
theorem lc_through {h : am_H} (L : LR h) (z : Int) (hz : -2147483648 ≤ z ∧ z < 2147483648) : LC h 70 [.ref 1, .int (iI z)] 149 [.ref 121, .int (iI z)] := by
  have L' := L
  obtain ⟨I, F, r, v, N, A, R, M, B, K, n, m, X, S, md, ma, ts, tk, gd, cx, sr⟩ := L'
  have hr := ma.1.2.1
  have va := va_all ma
  have h5 := ma.2.1.1
  have h4 : 0 ≤ I 4 ∧ I 4 ≤ 300 := by
    have l := ma.1.2.2.2.2
    have q := mu_0 (a := 7) ma.1.2.2.2.1.1 (by decide)
    have q3 := ma.2.2.2.2.2.1
    unfold lg_ok at l
    omega
  exact lc_q _ L (ct_Tthrough 9 (by decide) h 1 v N A R M B K n m X S ts I F r ma tk z hz) (ct_Mthrough 9 (by decide) h 121 I F md hr z hz)
