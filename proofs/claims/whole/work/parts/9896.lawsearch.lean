/-! The calls of the law that ask of a search. -/
theorem an_nd_eq {I : Nat → Int} {F : Nat → Int → Int} {a c x y : Int} (hx : an_nd I F a c x) (hy : an_nd I F a c y) : x = y := by
  by_cases q : (0 ≤ a ∧ a < I 0) ∧ 0 ≤ c ∧ c < I 0
  · obtain ⟨p1, p2⟩ := hx.1 q
    obtain ⟨q1, q2⟩ := hy.1 q
    have e := p2.trans q2.symm
    omega
  · rw [hx.2 q, hy.2 q]
/-- the row of NEEDS is written, nothing else -/
theorem lr_18 {h h2 : am_H} {I : Nat → Int} {F : Nat → Int → Int} {r : rn} {v N : Int} {A : Nat → Int → Int} {R : Nat → Int → Int → Int} {M : Int} {B : Nat → Int → Int} {K : Nat → Int → Int → Int} {n m : Int} {X : Nat → Int → Int} {S : Int → Int → Int} {g : Int → Int} (ma : md_all I F r) (ts : ts_at h 1 v N A R M B K n m X S) (tk : ts_ok I F r N A R M B K n m X S) (gd : gd_ok B) (cx : cx_at h 1 I F r v) (sr : sr_ok I F r v) (w : md_to h 121 I (va_up F 18 g) h2) : LR h2 ∧ h2.1 0 = h.1 0 ∧ h2.2 = h.2 := by
  have hs : sf F (va_up F 18 g) := sf.rf.up (Or.inl (by decide))
  exact ⟨⟨I, va_up F 18 g, r, v, N, A, R, M, B, K, n, m, X, S, w.1, md_all_sf ma (fun _ _ _ _ => rfl) ma.2.2.2.2.2.2 hs ((va_up_miss (by decide)).trans ma.1.1), ts.fr (fun a a1 a2 => w.2.1 a (by omega)), ts_ok_sf tk (fun _ _ _ _ => rfl) hs, gd, (cx.sf hs rfl).fr (fun a a1 a2 => w.2.1 a (by omega)), sr_ok_18 sr⟩, w.2.1 0 (by omega), w.2.2⟩
theorem lc_needs {h : am_H} (L : LR h) (a c : Int) (ha : -2147483648 ≤ a ∧ a < 2147483648) (hc : -2147483648 ≤ c ∧ c < 2147483648) : LC h 71 [.ref 1, .int (iI a), .int (iI c)] 150 [.ref 121, .int (iI a), .int (iI c)] := by
  obtain ⟨I, F, r, v, N, A, R, M, B, K, n, m, X, S, md, ma, ts, tk, gd, cx, sr⟩ := L
  refine (ct_Tneeds 9 (by decide) h 1 v N A R M B K n m X S ts I F ma.1.2.1 ma.1.2.2.1 tk.1 tk.2.1 a c ha hc).mono (fun r1 h1 hr => ?_)
  obtain ⟨z, rfl, hz, e⟩ := hr
  rw [e]
  refine ⟨z, rfl, ⟨I, md.2.1⟩, rfl, (ct_Mneeds 9 (by decide) h 121 I F md ma.1.2.1 ma.1.2.2.1 a c ha hc).mono (fun r2 h2 hr => ?_)⟩
  obtain ⟨y, g, rfl, hy, w⟩ := hr
  rw [an_nd_eq hz hy]
  exact ⟨rfl, lr_18 ma ts tk gd cx sr w⟩
theorem lc_search {h : am_H} (L : LR h) : LC h 75 [.ref 1] 152 [.ref 121] := by
  obtain ⟨I, F, r, v, N, A, R, M, B, K, n, m, X, S, md, ma, ts, tk, gd, cx, sr⟩ := L
  have hr := ma.1.2.1
  have hw := ma.1.2.2.1
  have hv := ma.1.2.2.2.1
  refine (ct_Tsearch 9 (by decide) h 1 v N A R M B K n m X S ts I F r hr hw hv tk cx).mono (fun r1 h1 hr1 => ?_)
  obtain ⟨rfl, ts1, f1, e1, cx1⟩ := hr1
  have md1 : md_at h1 121 I F := md.fr (fun a a1 a2 => f1 a (by omega))
  refine ⟨_, rfl, ⟨I, md1.2.1⟩, f1 0 (by omega), (ct_msearch 9 (by decide) h1 121 I F md1 ma.2.2.2.2.2.1 hr hw ma.2.1.1 r hv ma.1.1).mono (fun r2 h2 hr2 => ?_)⟩
  cases hA : s_all I F r with
  | some A9 =>
    rw [hA] at hr2 ts1 cx1
    obtain ⟨rfl, J, G, w, hJ, ⟨j5, j6, j7⟩, hs, v13, an, si⟩ := hr2
    have j1 := hJ 1 (by decide) (by decide) (by decide)
    have hc9 := si.2.1
    refine ⟨rfl, ⟨J, G, r, a_c A9, N, A, R, M, B, K, n, m, X, S, w.1, md_all_sf ma hJ (Or.inr j5) hs v13, ts1.fr (fun a a1 a2 => w.2.1 a (by omega)), ts_ok_sf tk hJ hs, gd, (cx_at.sf hs j1 cx1).fr (fun a a1 a2 => w.2.1 a (by omega)), Or.inl ⟨hc9.1, j5, A9, (hs.all j1 r).trans hA, j6, j7, ms_an_sf hs j1 an⟩⟩, (w.2.1 0 (by omega)).trans (f1 0 (by omega)), w.2.2.trans e1⟩
  | none =>
    rw [hA] at hr2 ts1 cx1
    obtain ⟨rfl, J, G, w, hJ, j5, hs, v13⟩ := hr2
    have j1 := hJ 1 (by decide) (by decide) (by decide)
    refine ⟨rfl, ⟨J, G, r, -4, N, A, R, M, B, K, n, m, X, S, w.1, md_all_sf ma hJ (Or.inl j5) hs v13, ts1.fr (fun a a1 a2 => w.2.1 a (by omega)), ts_ok_sf tk hJ hs, gd, (cx_at.sf hs j1 cx1).fr (fun a a1 a2 => w.2.1 a (by omega)), Or.inr ⟨by decide, j5⟩⟩, (w.2.1 0 (by omega)).trans (f1 0 (by omega)), w.2.2.trans e1⟩
theorem lc_points {h : am_H} (L : LR h) : LC h 93 [.ref 1] 160 [.ref 121] := by
  have L' := L
  obtain ⟨I, F, r, v, N, A, R, M, B, K, n, m, X, S, md, ma, ts, tk, gd, cx, sr⟩ := L'
  have hr := ma.1.2.1
  have hw := ma.1.2.2.1
  have hv := ma.1.2.2.2.1
  have C := ct_Tpoints 9 (by decide) h 1 v N A R M B K n m X S ts I F r hr hw hv cx
  have D := ct_mpoints 9 (by decide) h 121 I F md ma.2.2.2.2.2.2
  have e : t_an (s_all I F r) v a_n (-3) = if I 5 = 0 then -3 else I 6 := by
    rcases sr with ⟨h0, h5, A9, e9, e6, e7, an⟩ | ⟨h0, h5⟩
    · rw [t_an_some e9 h0, if_neg (by omega), e6]
    · rw [t_an_no (by omega), if_pos h5]
  rw [e] at C
  exact lc_q _ L C D
theorem stk1_congr {f g : Int → Int} (h : ∀ j : Int, 0 ≤ j ∧ j < 15 → f j = g j) : stk1 f = stk1 g := by
  unfold stk1
  rw [h 0 (by decide), h 1 (by decide), h 2 (by decide)]
theorem k_an_row {I : Nat → Int} {F G : Nat → Int → Int} {A : sst} (h : ms_oc I F G A) (hc : 0 ≤ a_c A) : sm9 (fun n => stk1 (fun j => G 25 (15 * n + j))) (a_c A).toNat = k_an I F A := by
  unfold k_an
  exact sm9_congr _ (fun i hi => stk1_congr (fun j hj => (h i (by omega)).2.2 j hj))
theorem row_ok {I : Nat → Int} {F G : Nat → Int → Int} {r : rn} {A : sst} (si : s_iv I F r A) (h : ms_oc I F G A) {n : Int} (hn : 0 ≤ n ∧ n < a_c A) : oc_ok (fun j => G 25 (15 * n + j)) :=
  oc_ok_congr (oc_rg (si.2.2.2.1 _ (si.2.2.2.2.1 n hn).1).1) (fun j hj => (h n hn).2.2 j hj)
theorem sr_rows {I : Nat → Int} {F : Nat → Int → Int} {r : rn} {v : Int} (hr : md_rg I F) (hw : md_wf I F) (hv : rn_iv I F r) (sr : sr_ok I F r v) : I 5 = 1 → (0 ≤ I 7 ∧ I 7 ≤ 60) ∧ ∀ n : Int, 0 ≤ n ∧ n < I 7 → oc_ok (fun j => F 25 (15 * n + j)) := by
  intro h5
  rcases sr with ⟨h0, -, A9, e9, e6, e7, an⟩ | ⟨h0, h5'⟩
  · have si := s_all_iv hr hw hv e9
    rw [e7]
    exact ⟨si.2.1, fun n hn => row_ok si an.2 hn⟩
  · omega
theorem lc_stuck {h : am_H} (L : LR h) : LC h 95 [.ref 1] 161 [.ref 121] := by
  have L' := L
  obtain ⟨I, F, r, v, N, A, R, M, B, K, n, m, X, S, md, ma, ts, tk, gd, cx, sr⟩ := L'
  have hr := ma.1.2.1
  have hw := ma.1.2.2.1
  have hv := ma.1.2.2.2.1
  have C := ct_Tstuck 9 (by decide) h 1 v N A R M B K n m X S ts I F r hr hw hv cx
  have D := ct_mstuck 9 (by decide) h 121 I F md ma.2.2.2.2.2.2 (sr_rows hr hw hv sr)
  have e : t_an (s_all I F r) v (k_an I F) (-3) = if I 5 = 0 then -3 else sm9 (fun n => stk1 (fun j => F 25 (15 * n + j))) (I 7).toNat := by
    rcases sr with ⟨h0, h5, A9, e9, e6, e7, an⟩ | ⟨h0, h5⟩
    · rw [t_an_some e9 h0, if_neg (by omega), e7, k_an_row an.2 (s_all_iv hr hw hv e9).2.1.1]
    · rw [t_an_no (by omega), if_pos h5]
  rw [e] at C
  exact lc_q _ L C D
theorem lc_outcome {h : am_H} (L : LR h) (i j : Int) (hi : -2147483648 ≤ i ∧ i < 2147483648) (hj : -2147483648 ≤ j ∧ j < 2147483648) : LC h 99 [.ref 1, .int (iI i), .int (iI j)] 163 [.ref 121, .int (iI i), .int (iI j)] := by
  have L' := L
  obtain ⟨I, F, r, v, N, A, R, M, B, K, n, m, X, S, md, ma, ts, tk, gd, cx, sr⟩ := L'
  have hr := ma.1.2.1
  have hw := ma.1.2.2.1
  have hv := ma.1.2.2.2.1
  have C := ct_Toutcome 9 (by decide) h 1 v N A R M B K n m X S ts I F r hr hw hv cx i j hi hj
  rcases sr with ⟨h0, h5, A9, e9, e6, e7, an⟩ | ⟨h0, h5⟩
  · have D := ct_moutcome 9 (by decide) h 121 I F md ma.2.2.2.2.2.2 I F r A9 (fun _ => ⟨e7, an.2, s_all_iv hr hw hv e9⟩) i j hi hj
    rw [t_an_some e9 h0] at C
    rw [if_neg (by omega)] at D
    exact lc_q _ L C D
  · have D := ct_moutcome 9 (by decide) h 121 I F md ma.2.2.2.2.2.2 I F r (s_ini r) (fun z => by omega) i j hi hj
    rw [t_an_no (by omega)] at C
    rw [if_pos h5] at D
    exact lc_q _ L C D
theorem lc_witness {h : am_H} (L : LR h) (i k : Int) (hi : -2147483648 ≤ i ∧ i < 2147483648) (hk : -2147483648 ≤ k ∧ k < 2147483648) : LC h 100 [.ref 1, .int (iI i), .int (iI k)] 164 [.ref 121, .int (iI i), .int (iI k)] := by
  have L' := L
  obtain ⟨I, F, r, v, N, A, R, M, B, K, n, m, X, S, md, ma, ts, tk, gd, cx, sr⟩ := L'
  have hr := ma.1.2.1
  have hw := ma.1.2.2.1
  have hv := ma.1.2.2.2.1
  have C := ct_Twitness 9 (by decide) h 1 v N A R M B K n m X S ts I F r hr hw hv cx i k hi hk
  rcases sr with ⟨h0, h5, A9, e9, e6, e7, an⟩ | ⟨h0, h5⟩
  · have D := ct_mwitness 9 (by decide) h 121 I F md ma.2.2.2.2.2.2 I F r A9 (fun _ => ⟨e7, an, s_all_iv hr hw hv e9⟩) i k hi hk
    rw [t_an_some e9 h0] at C
    rw [if_neg (by omega)] at D
    exact lc_q _ L C D
  · have D := ct_mwitness 9 (by decide) h 121 I F md ma.2.2.2.2.2.2 I F r (s_ini r) (fun z => by omega) i k hi hk
    rw [t_an_no (by omega)] at C
    rw [if_pos h5] at D
    exact lc_q _ L C D
theorem lc_holds {h : am_H} (L : LR h) : LC h 102 [.ref 1] 165 [.ref 121] := by
  obtain ⟨I, F, r, v, N, A, R, M, B, K, n, m, X, S, md, ma, ts, tk, gd, cx, sr⟩ := L
  have hr := ma.1.2.1
  have hw := ma.1.2.2.1
  have hv := ma.1.2.2.2.1
  have sq := sr_rows hr hw hv sr
  refine (ct_Tholds 9 (by decide) h 1 v N A R M B K n m X S ts I F r hr hw hv tk.1 tk.2.1 cx).mono (fun r1 h1 hr1 => ?_)
  obtain ⟨⟨z, rfl, z0, z1⟩, e⟩ := hr1
  rw [e]
  refine ⟨z, rfl, ⟨I, md.2.1⟩, rfl, (ct_mholds 9 (by decide) h 121 I F md hr hw ma.2.2.2.2.2.2 sq).mono (fun r2 h2 hr2 => ?_)⟩
  obtain ⟨y, g, rfl, w, y0, y1⟩ := hr2
  have ey : y = z := by
    rcases sr with ⟨h0, h5, A9, e9, e6, e7, an⟩ | ⟨h0, h5⟩
    · have a := z1 A9 h0 e9
      have b := y1 h5
      rw [e7, k_an_row an.2 (s_all_iv hr hw hv e9).2.1.1] at b
      exact an_hl_eq b a
    · rw [y0 h5, z0 (by omega)]
  rw [ey]
  exact ⟨rfl, lr_18 ma ts tk gd cx sr w⟩
