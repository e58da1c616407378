/-! What holds between the calls of the law: the class's object at 1, the reference's at 121. -/
theorem md_at.fr {h h1 : am_H} {o : Nat} {I : Nat → Int} {F : Nat → Int → Int} (H : md_at h o I F) (hf : ∀ a, o ≤ a → a ≤ o + 28 → h1.1 a = h.1 a) : md_at h1 o I F := ⟨H.1, (hf _ (by omega) (by omega)).trans H.2.1, fun k k1 k2 => (hf _ (by omega) (by omega)).trans (H.2.2 k k1 k2)⟩
theorem ts_at.fr {h h1 : am_H} {o : Nat} {v N : Int} {A : Nat → Int → Int} {R : Nat → Int → Int → Int} {M : Int} {B : Nat → Int → Int} {K : Nat → Int → Int → Int} {n m : Int} {X : Nat → Int → Int} {S : Int → Int → Int} (H : ts_at h o v N A R M B K n m X S) (hf : ∀ a, o ≤ a → a ≤ o + 91 → h1.1 a = h.1 a) : ts_at h1 o v N A R M B K n m X S := ⟨H.1, (hf _ (by omega) (by omega)).trans H.2.1, H.2.2.1.mw (fun a a1 a2 => hf a (by omega) (by omega)), H.2.2.2.fr (fun a a1 a2 => hf a (by omega) (by omega))⟩
theorem md_all_hk {I J : Nat → Int} {F G : Nat → Int → Int} {r r' : rn} (h : md_all I F r) (hk : md_ok J G r') (j0 : J 0 = I 0) (j1 : J 1 = I 1) (j3 : J 3 = I 3) (h5 : J 5 = 0 ∨ J 5 = 1) (hs : ∀ k : Nat, k ≠ 13 → k ≠ 14 → G k = F k) : md_all J G r' := by
  obtain ⟨-, hh, hd, hl, hb, h3, -⟩ := h
  have g1 := hs 1 (by decide) (by decide)
  have g2 := hs 2 (by decide) (by decide)
  have g3 := hs 3 (by decide) (by decide)
  have g4 := hs 4 (by decide) (by decide)
  have g5 := hs 5 (by decide) (by decide)
  have g6 := hs 6 (by decide) (by decide)
  have g7 := hs 7 (by decide) (by decide)
  have g8 := hs 8 (by decide) (by decide)
  have g9 := hs 9 (by decide) (by decide)
  have g10 := hs 10 (by decide) (by decide)
  have g15 := hs 15 (by decide) (by decide)
  have g16 := hs 16 (by decide) (by decide)
  have g17 := hs 17 (by decide) (by decide)
  have et : ∀ n : Nat, tbl G n = tbl F n := fun n => tbl_congr n (fun x hx => by
    rw [g1, g2, g3, g4]
    exact ⟨rfl, rfl, rfl, fun _ _ => rfl⟩)
  have eo : ∀ n : Nat, otb G n = otb F n := fun n => otb_congr n (fun x hx => by
    rw [g5, g2, g3, g4]
    exact ⟨rfl, rfl, rfl, fun _ _ => rfl⟩)
  refine ⟨hk, ?_, ?_, ?_, ?_, j3.trans h3, h5⟩
  · unfold md_hs at *
    rw [j0, g1, g2, g3, g4, g5]
    exact hh
  · unfold md_hd at *
    rw [j0, et, eo, g17]
    refine ⟨fun x hx => ?_, hd.2⟩
    have z := hd.1 x hx
    unfold rl_x at *
    rw [g1, g6, g7, g15, g16]
    exact z
  · unfold rl_rg at *
    rw [g6, g7, g15, g16]
    exact hl
  · unfold md_bd at *
    rw [j0, j1, g8, g9, g10]
    exact hb
theorem mk_J_5 {I : Nat → Int} {F : Nat → Int → Int} {r : rn} {th : Int} : mk_J I F r th 5 = 0 := by
  unfold mk_J mk_I
  rw [va_up_hit]
theorem md_all_mk {I : Nat → Int} {F : Nat → Int → Int} {r : rn} (h : md_all I F r) {th : Int} (hth : 0 ≤ th ∧ th < I 1) (hen : r_en r th = 0) : md_all (mk_J I F r th) (mk_F I F r th) (sq_steps F r th).1 :=
  md_all_hk h (mk_ok h.1 hth hen).1 (mk_J_k (by decide) (by decide) (by decide)) (mk_J_k (by decide) (by decide) (by decide)) (mk_J_k (by decide) (by decide) (by decide)) (Or.inl mk_J_5) (fun k a b => mk_F_k a b)
theorem go_hv {I : Nat → Int} {F : Nat → Int → Int} {r : rn} {z : Int32} (c : hc F r (I 1).toNat 0 ≠ 0) (hI : 0 ≤ I 0 ∧ I 0 ≤ 6 ∧ 0 ≤ I 1 ∧ I 1 ≤ 3) : (0 ≤ go_h I F r z ∧ go_h I F r z < I 1) ∧ hv1 F r (go_h I F r z) = 1 := by
  have a := hc_0 (F := F) (r := r) (I 1).toNat 0
  have b := gp_rg (z := gz z) (n := hc F r (I 1).toNat 0) ⟨by omega, by omega⟩
  have q := pk_ok (F := F) (r := r) (I 1).toNat 0 _ b
  unfold go_h
  exact ⟨⟨by omega, by omega⟩, q.2.2⟩
theorem go_5 : ∀ (k : Nat) (z : Int32) (m : Int) (I : Nat → Int) (F : Nat → Int → Int) (r : rn), I 5 = 0 → (go_f k z m I F r).2.1 5 = 0 := by
  intro k
  induction k with
  | zero => exact fun z m I F r h => h
  | succ k ih =>
    intro z m I F r h
    unfold go_f
    by_cases c : hc F r (I 1).toNat 0 = 0
    · rw [if_pos c]
      exact h
    · rw [if_neg c]
      exact ih _ _ _ _ _ mk_J_5
theorem md_all_go : ∀ (k : Nat) (z : Int32) (m : Int) (I : Nat → Int) (F : Nat → Int → Int) (r : rn), md_all I F r → md_all (go_f k z m I F r).2.1 (go_f k z m I F r).2.2.1 (go_f k z m I F r).2.2.2 ∧ (m ≤ (go_f k z m I F r).1) ∧ ((go_f k z m I F r).1 ≠ m → (go_f k z m I F r).2.1 5 = 0) := by
  intro k
  induction k with
  | zero =>
    intro z m I F r h
    exact ⟨h, Int.le_refl _, fun z => absurd rfl z⟩
  | succ k ih =>
    intro z m I F r h
    have hI := h.1.2.1.1
    unfold go_f
    by_cases c : hc F r (I 1).toNat 0 = 0
    · rw [if_pos c]
      exact ⟨h, Int.le_refl _, fun z => absurd rfl z⟩
    · rw [if_neg c]
      have hh := go_hv (z := z) c hI
      have q := ih (gz z) (m + 1) _ _ _ (md_all_mk h hh.1 (hv_one hh.2 ⟨hh.1.1, by omega⟩).1)
      refine ⟨q.1, by omega, fun _ => ?_⟩
      by_cases e : (go_f k (gz z) (m + 1) (mk_J I F r (go_h I F r z)) (mk_F I F r (go_h I F r z)) (sq_steps F r (go_h I F r z)).1).1 = m + 1
      · exact go_5 k (gz z) (m + 1) _ _ _ mk_J_5
      · exact q.2.2 e
theorem md_all_0 {I : Nat → Int} {F : Nat → Int → Int} {r : rn} (h : md_all I F r) : md_all (fs_I I) (va_up F 13 (vec (rz r))) (rz r) := by
  obtain ⟨⟨o1, o2, o3, o4, o5⟩, hh, hd, hl, hb, h3, -⟩ := h
  have e := all_ba (I := I) (I' := fs_I I) (F0 := F) (F1 := F) (g := F 17) (r := r) o2 hh hb h3 ⟨fun k _ _ _ _ => rfl, hl, hd.1⟩ ⟨hd.2, fun x hx => by
    have := o2.2.1 x hx
    omega⟩ rfl
  rw [va_up_same rfl] at e
  exact e
def sr_ok (I : Nat → Int) (F : Nat → Int → Int) (r : rn) (v : Int) : Prop := (0 ≤ v ∧ I 5 = 1 ∧ ∃ A, s_all I F r = some A ∧ I 6 = a_n A ∧ I 7 = a_c A ∧ ms_an I F F A) ∨ (v < 0 ∧ I 5 = 0)
def LR (h : am_H) : Prop := ∃ I F r v N A R M B K n m X S, md_at h 121 I F ∧ md_all I F r ∧ ts_at h 1 v N A R M B K n m X S ∧ ts_ok I F r N A R M B K n m X S ∧ gd_ok B ∧ cx_at h 1 I F r v ∧ sr_ok I F r v
def LC (h : am_H) (zc : Nat) (ac : List Value) (zr : Nat) (ar : List Value) : Prop := am_Ct am_df am_MT 9 zc ac h (fun r1 h1 => ∃ z : Int, r1 = some (.int (iI z)) ∧ (∃ I, h1.1 121 = .inr (8, md_fs 121 I)) ∧ h1.1 0 = h.1 0 ∧ am_Ct am_df am_MT 9 zr ar h1 (fun r2 h2 => r2 = some (.int (iI z)) ∧ LR h2 ∧ h2.1 0 = h.1 0 ∧ h2.2 = h.2))
/-- a call that changes nothing -/
theorem lc_q {h : am_H} {zc zr : Nat} {ac ar : List Value} (y : Int) (L : LR h) (C : am_Ct am_df am_MT 9 zc ac h (fun r h' => r = some (.int (iI y)) ∧ h' = h)) (D : am_Ct am_df am_MT 9 zr ar h (fun r h' => r = some (.int (iI y)) ∧ h' = h)) : LC h zc ac zr ar := by
  refine C.mono (fun r1 h1 hr => ?_)
  obtain ⟨rfl, e⟩ := hr
  rw [e]
  have L' := L
  obtain ⟨I, F, r, v, N, A, R, M, B, K, n, m, X, S, md, -⟩ := L'
  refine ⟨y, rfl, ⟨I, md.2.1⟩, rfl, D.mono (fun r2 h2 hr => ?_)⟩
  obtain ⟨rfl, e⟩ := hr
  rw [e]
  exact ⟨rfl, L, rfl, rfl⟩
theorem ts_ok_sf {I J : Nat → Int} {F G : Nat → Int → Int} {r : rn} {N : Int} {A : Nat → Int → Int} {R : Nat → Int → Int → Int} {M : Int} {B : Nat → Int → Int} {K : Nat → Int → Int → Int} {n m : Int} {X : Nat → Int → Int} {S : Int → Int → Int} (h : ts_ok I F r N A R M B K n m X S) (hJ : ∀ k : Nat, k ≠ 5 → k ≠ 6 → k ≠ 7 → J k = I k) (hs : sf F G) : ts_ok J G r N A R M B K n m X S := by
  obtain ⟨a, b, c, d, e, f⟩ := h
  have j0 := hJ 0 (by decide) (by decide) (by decide)
  have j1 := hJ 1 (by decide) (by decide) (by decide)
  have j2 := hJ 2 (by decide) (by decide) (by decide)
  have j4 := hJ 4 (by decide) (by decide) (by decide)
  have g1 := hs 1 (by decide) (by decide) (by decide)
  have g2 := hs 2 (by decide) (by decide) (by decide)
  have g3 := hs 3 (by decide) (by decide) (by decide)
  have g4 := hs 4 (by decide) (by decide) (by decide)
  have g5 := hs 5 (by decide) (by decide) (by decide)
  have g6 := hs 6 (by decide) (by decide) (by decide)
  have g7 := hs 7 (by decide) (by decide) (by decide)
  have g8 := hs 8 (by decide) (by decide) (by decide)
  have g9 := hs 9 (by decide) (by decide) (by decide)
  have g10 := hs 10 (by decide) (by decide) (by decide)
  have g11 := hs 11 (by decide) (by decide) (by decide)
  have g12 := hs 12 (by decide) (by decide) (by decide)
  have g14 := hs 14 (by decide) (by decide) (by decide)
  have g15 := hs 15 (by decide) (by decide) (by decide)
  have g16 := hs 16 (by decide) (by decide) (by decide)
  have g17 := hs 17 (by decide) (by decide) (by decide)
  refine ⟨?_, ?_, c, d.trans j2.symm, e.trans j4.symm, ?_⟩
  · unfold ty_ok at *
    rw [j0, g1, g2, g3, g4, g5, g6, g7, g15, g16, g17]
    exact a
  · unfold bo_ok is_bo at *
    rw [j0, j1, g8, g9, g10, g11, g12]
    simp only [hs.ask]
    exact b
  · rw [j4, g14]
    exact f
theorem ms_an_sf {I J : Nat → Int} {F F' G : Nat → Int → Int} {A : sst} (hs : sf F F') (j1 : J 1 = I 1) (h : ms_an I F G A) : ms_an J F' G A := by
  refine ⟨h.1, fun i hi => ?_⟩
  have q := h.2 i hi
  rw [hs.oq j1]
  exact q
theorem ms_an_row {I : Nat → Int} {F G G' : Nat → Int → Int} {A : sst} (hk : ∀ k : Nat, 19 ≤ k → G' k = G k) (h : ms_an I F G A) : ms_an I F G' A := by
  refine ⟨fun p hp => ?_, fun i hi => ?_⟩
  · have q := h.1 p hp
    unfold s_par at *
    rw [hk 20 (by decide), hk 21 (by decide)]
    exact q
  · have q := h.2 i hi
    rw [hk 25 (by decide), hk 26 (by decide), hk 27 (by decide)]
    exact q
/-- the row of NEEDS is other: all the same -/
theorem sr_ok_18 {I : Nat → Int} {F : Nat → Int → Int} {r : rn} {v : Int} {g : Int → Int} (h : sr_ok I F r v) : sr_ok I (va_up F 18 g) r v := by
  have hs : sf F (va_up F 18 g) := sf.rf.up (Or.inl (by decide))
  rcases h with ⟨h0, h5, A, e, e6, e7, an⟩ | h
  · exact Or.inl ⟨h0, h5, A, (hs.all rfl r).trans e, e6, e7, ms_an_row (fun k hk => va_up_miss (by omega)) (ms_an_sf hs rfl an)⟩
  · exact Or.inr h
/-- a call that makes the house anew -/
theorem lc_hz {h : am_H} {zc zr : Nat} {ac ar : List Value} (L : LR h)
    (C : ∀ I F r v N A R M B K n m X S, md_at h 121 I F → md_all I F r → ts_at h 1 v N A R M B K n m X S → ts_ok I F r N A R M B K n m X S → gd_ok B → am_Ct am_df am_MT 9 zc ac h (fun r0 h' => ∃ y : Int, r0 = some (.int (iI y)) ∧ ((h' = h ∧ ∀ h9, md_at h9 121 I F → am_Ct am_df am_MT 9 zr ar h9 (fun r0 h2 => r0 = some (.int (iI y)) ∧ h2 = h9)) ∨ ∃ I' F0, hz_to h 1 I' F0 r h' ∧ ∀ h9, md_at h9 121 I F → am_Ct am_df am_MT 9 zr ar h9 (fun r0 h2 => r0 = some (.int (iI y)) ∧ nw_to h9 121 I' F0 r h2)))) : LC h zc ac zr ar := by
  have L' := L
  obtain ⟨I, F, r, v, N, A, R, M, B, K, n, m, X, S, md, ma, ts, tk, gd, cx, sr⟩ := L'
  refine (C I F r v N A R M B K n m X S md ma ts tk gd).mono (fun r1 h1 hr => ?_)
  obtain ⟨y, rfl, hr⟩ := hr
  rcases hr with ⟨e, D⟩ | ⟨I', F0, hz, D⟩
  · rw [e]
    refine ⟨y, rfl, ⟨I, md.2.1⟩, rfl, (D h md).mono (fun r2 h2 hr => ?_)⟩
    obtain ⟨rfl, e⟩ := hr
    rw [e]
    exact ⟨rfl, L, rfl, rfl⟩
  · obtain ⟨N1, A1, R1, M1, B1, K1, X1, S1, tt, hzk, ho⟩ := hz
    have md1 : md_at h1 121 I F := md.fr (fun a a1 a2 => tt.2.1 a (by omega))
    refine ⟨y, rfl, ⟨I, md1.2.1⟩, tt.2.1 0 (by omega), (D h1 md1).mono (fun r2 h2 hr => ?_)⟩
    obtain ⟨rfl, F', mt, bf, ma'⟩ := hr
    have hr' := ma.1.2.1
    have hw' := ma.1.2.2.1
    have hv' := ma.1.2.2.2.1
    refine ⟨rfl, ⟨fs_I I', F', rz r, -1, N1, A1, R1, M1, B1, K1, 0, 0, X1, S1, mt.1, ma', tt.1.fr (fun a a1 a2 => mt.2.1 a (by omega)), hz_ts hzk bf ma' ho, hzk.2.2.2, cx.no hr' hw' hv' (fun a a1 a2 => (mt.2.1 a (by omega)).trans (tt.2.1 a (by omega))), Or.inr ⟨by decide, va_up_hit⟩⟩, (mt.2.1 0 (by omega)).trans (tt.2.1 0 (by omega)), mt.2.2.trans tt.2.2⟩
