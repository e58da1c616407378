def pq_eq (Y Z : Nat → Int → Int) : Prop :=
  (∀ t : Int, 0 ≤ t ∧ t < 6 → Y 3 t = Z 3 t ∧ Y 4 t = Z 4 t ∧ Y 5 t = Z 5 t ∧ Y 11 t = Z 11 t ∧ Y 12 t = Z 12 t ∧ Y 13 t = Z 13 t ∧ Y 14 t = Z 14 t) ∧
  (∀ t : Int, 0 ≤ t ∧ t < 3 → Y 13 (6 + t) = Z 13 (6 + t) ∧ Y 14 (6 + t) = Z 14 (6 + t) ∧ Y 15 t = Z 15 t)
theorem tc_inj {Y Z : Nat → Int → Int} {t : Int} (hy : tr_ok Y t) (hz : tr_ok Z t) (h : tc Y t = tc Z t) : Y 3 t = Z 3 t ∧ Y 4 t = Z 4 t ∧ Y 5 t = Z 5 t ∧ Y 11 t = Z 11 t ∧ Y 12 t = Z 12 t ∧ Y 13 t = Z 13 t ∧ Y 14 t = Z 14 t := by
  unfold tr_ok at hy hz
  unfold tc at h
  omega
theorem hc2_inj {Y Z : Nat → Int → Int} {t : Int} (hy : hr_ok Y t) (hz : hr_ok Z t) (h : hc2 Y t = hc2 Z t) : Y 13 (6 + t) = Z 13 (6 + t) ∧ Y 14 (6 + t) = Z 14 (6 + t) ∧ Y 15 t = Z 15 t := by
  unfold hr_ok at hy hz
  unfold hc2 at h
  omega
theorem t3_inj {Y Z : Nat → Int → Int} {t : Int} (hy : tr_ok Y t ∧ tr_ok Y (t + 1) ∧ tr_ok Y (t + 2)) (hz : tr_ok Z t ∧ tr_ok Z (t + 1) ∧ tr_ok Z (t + 2)) (h : t3 Y t = t3 Z t) : tc Y t = tc Z t ∧ tc Y (t + 1) = tc Z (t + 1) ∧ tc Y (t + 2) = tc Z (t + 2) := by
  have a0 := tc_rg hy.1
  have a1 := tc_rg hy.2.1
  have a2 := tc_rg hy.2.2
  have b0 := tc_rg hz.1
  have b1 := tc_rg hz.2.1
  have b2 := tc_rg hz.2.2
  unfold t3 at h
  omega
theorem pk_rows {Y Z : Nat → Int → Int} (hy : ∀ t : Int, 0 ≤ t ∧ t < 6 → tr_ok Y t) (hz : ∀ t : Int, 0 ≤ t ∧ t < 6 → tr_ok Z t) (gy : ∀ t : Int, 0 ≤ t ∧ t < 3 → hr_ok Y t) (gz' : ∀ t : Int, 0 ≤ t ∧ t < 3 → hr_ok Z t) (h0 : t3 Y 0 = t3 Z 0) (h1 : t3 Y 3 = t3 Z 3) (h2 : h3 Y = h3 Z) : pq_eq Y Z := by
  have a := t3_inj ⟨hy 0 (by decide), hy 1 (by decide), hy 2 (by decide)⟩ ⟨hz 0 (by decide), hz 1 (by decide), hz 2 (by decide)⟩ h0
  have b := t3_inj ⟨hy 3 (by decide), hy 4 (by decide), hy 5 (by decide)⟩ ⟨hz 3 (by decide), hz 4 (by decide), hz 5 (by decide)⟩ h1
  have c : hc2 Y 0 = hc2 Z 0 ∧ hc2 Y 1 = hc2 Z 1 ∧ hc2 Y 2 = hc2 Z 2 := by
    have a0 := hc2_rg (gy 0 (by decide))
    have a1 := hc2_rg (gy 1 (by decide))
    have a2 := hc2_rg (gy 2 (by decide))
    have b0 := hc2_rg (gz' 0 (by decide))
    have b1 := hc2_rg (gz' 1 (by decide))
    have b2 := hc2_rg (gz' 2 (by decide))
    unfold h3 at h2
    omega
  refine ⟨fun t ht => tc_inj (hy t ht) (hz t ht) ?_, fun t ht => hc2_inj (gy t ht) (gz' t ht) ?_⟩
  · have ct : t = 0 ∨ t = 1 ∨ t = 2 ∨ t = 3 ∨ t = 4 ∨ t = 5 := by omega
    rcases ct with e | e | e | e | e | e <;> subst e
    · exact a.1
    · exact a.2.1
    · exact a.2.2
    · exact b.1
    · exact b.2.1
    · exact b.2.2
  · have ct : t = 0 ∨ t = 1 ∨ t = 2 := by omega
    rcases ct with e | e | e <;> subst e
    · exact c.1
    · exact c.2.1
    · exact c.2.2
theorem pk_back {Y Z : Nat → Int → Int} (h : pq_eq Y Z) : t3 Y 0 = t3 Z 0 ∧ t3 Y 3 = t3 Z 3 ∧ h3 Y = h3 Z := by
  have e : ∀ t : Int, 0 ≤ t ∧ t < 6 → tc Y t = tc Z t := fun t ht => by
    obtain ⟨a1, a2, a3, a4, a5, a6, a7⟩ := h.1 t ht
    unfold tc
    rw [a1, a2, a3, a4, a5, a6, a7]
  have f : ∀ t : Int, 0 ≤ t ∧ t < 3 → hc2 Y t = hc2 Z t := fun t ht => by
    obtain ⟨a1, a2, a3⟩ := h.2 t ht
    unfold hc2
    rw [a1, a2, a3]
  refine ⟨?_, ?_, ?_⟩
  · unfold t3
    rw [e 0 (by decide), e (0 + 1) (by decide), e (0 + 2) (by decide)]
  · unfold t3
    rw [e 3 (by decide), e (3 + 1) (by decide), e (3 + 2) (by decide)]
  · unfold h3
    rw [f 0 (by decide), f 1 (by decide), f 2 (by decide)]
/-- the same rows: the same numbers of the run -/
theorem same_run {I : Nat → Int} {F : Nat → Int → Int} {r r' : rn} {Y Z : Nat → Int → Int} {T T' : Int → Int → Int} (hI : I 1 ≤ 3) (hv : rn_iv I F r) (hv' : rn_iv I F r') (ho : ru_ok r Y T) (ho' : ru_ok r' Z T') (h : pq_eq Y Z) : ∀ k : Int, 0 ≤ k ∧ k < 66 → vec r k = vec r' k := by
  have u : uk_ok Y (va_up Y 10 (fun x => ((([3, 4, 5, 0, 1, 2] : List Int).filter (fun t => decide (Y 3 t = 1 ∧ Y 4 t = x))).length : Int))) T := by
    refine ⟨fun t ht => ⟨rfl, rfl, rfl, rfl, rfl, rfl, rfl⟩, fun t ht => ⟨rfl, rfl, rfl⟩, fun x hx => rfl, fun t ht h1 => ?_⟩
    have a := ho.1 t ht
    have c : r_st r t = 1 := a.1.symm.trans h1
    rw [a.2.1, show cw (r_st r t) (r_in r t) = r_in r t from if_pos c]
    exact (a.2.2.2.2.2.2.1 c).2.2
  have u' : uk_ok Z (va_up Y 10 (fun x => ((([3, 4, 5, 0, 1, 2] : List Int).filter (fun t => decide (Y 3 t = 1 ∧ Y 4 t = x))).length : Int))) T := by
    refine ⟨fun t ht => ?_, fun t ht => ?_, fun x hx => ?_, fun t ht h1 => ?_⟩
    · exact h.1 t ht
    · exact h.2 t ht
    · show ((([3, 4, 5, 0, 1, 2] : List Int).filter (fun t => decide (Y 3 t = 1 ∧ Y 4 t = x))).length : Int) = _
      have e : ([3, 4, 5, 0, 1, 2] : List Int).filter (fun t => decide (Y 3 t = 1 ∧ Y 4 t = x)) = ([3, 4, 5, 0, 1, 2] : List Int).filter (fun t => decide (Z 3 t = 1 ∧ Z 4 t = x)) := List.filter_congr (fun t ht => by
        have ht6 : 0 ≤ t ∧ t < 6 := by
          simp at ht
          omega
        rw [(h.1 t ht6).1, (h.1 t ht6).2.1])
      rw [e]
    · have b := h.1 t ht
      rw [← b.2.1, ← b.2.2.2.1]
      exact u.2.2.2 t ht (b.1.trans h1)
  exact ru_inj hv hv' (ru_uk hI hv ho u) (ru_uk hI hv' ho' u')
/-- the same numbers of the run: the same rows -/
theorem same_pk {I : Nat → Int} {F : Nat → Int → Int} {r r' : rn} {Y Z : Nat → Int → Int} {T T' : Int → Int → Int} (hI : I 1 ≤ 3) (hv : rn_iv I F r) (hv' : rn_iv I F r') (ho : ru_ok r Y T) (ho' : ru_ok r' Z T') (h : ∀ k : Int, 0 ≤ k ∧ k < 66 → vec r k = vec r' k) : pq_eq Y Z := by
  have st : ∀ t : Int, 0 ≤ t ∧ t < 6 → r_st r t = r_st r' t ∧ r_in r t = r_in r' t ∧ r_fl r t = r_fl r' t ∧ r_ls r t = r_ls r' t ∧ r_at r t = r_at r' t ∧ r_la r t = r_la r' t := fun t ht => by
    have a0 := h t (by omega)
    have a1 := h (6 + t) (by omega)
    have a2 := h (12 + t) (by omega)
    have a3 := h (18 + t) (by omega)
    have a4 := h (24 + t) (by omega)
    have a5 := h (30 + t) (by omega)
    rw [v_st ht.1 ht.2, v_st ht.1 ht.2] at a0
    rw [v_in ht.1 ht.2, v_in ht.1 ht.2] at a1
    rw [v_fl ht.1 ht.2, v_fl ht.1 ht.2] at a2
    rw [v_ls ht.1 ht.2, v_ls ht.1 ht.2] at a3
    rw [v_at ht.1 ht.2, v_at ht.1 ht.2] at a4
    rw [v_la ht.1 ht.2, v_la ht.1 ht.2] at a5
    exact ⟨a0, a1, a2, a3, a4, a5⟩
  have sk : ∀ x i : Int, 0 ≤ x ∧ x < 3 → 0 ≤ i ∧ i < 6 → r_sk r x i = r_sk r' x i := fun x i hx hi => by
    have a := h (48 + 6 * x + i) (by omega)
    rw [v_sk hx.1 hi.1 hi.2, v_sk hx.1 hi.1 hi.2] at a
    exact a
  have mn : ∀ x : Int, 0 ≤ x ∧ x < 3 → r_mn r x = r_mn r' x := fun x hx => by
    have a := h (45 + x) (by omega)
    rw [v_mn hx.1 hx.2, v_mn hx.1 hx.2] at a
    exact a
  refine ⟨fun t ht => ?_, fun t ht => ?_⟩
  · have a := ho.1 t ht
    have b := ho'.1 t ht
    have s := st t ht
    refine ⟨?_, ?_, ?_, ?_, ?_, ?_, ?_⟩
    · rw [a.1, b.1, s.1]
    · rw [a.2.1, b.2.1, s.1, s.2.1]
    · rw [a.2.2.1, b.2.2.1, s.2.2.1]
    · by_cases c : r_st r t = 1
      · have c' : r_st r' t = 1 := s.1 ▸ c
        have x := a.2.2.2.2.2.2.1 c
        have y := b.2.2.2.2.2.2.1 c'
        have g := hv.2.2.2.2.2.2.1 t ht c
        have hx3 : 0 ≤ r_in r t ∧ r_in r t < 3 := by omega
        have e1 := hv.1.2.1 (r_in r t) hx3
        have m := mn (r_in r t) hx3
        rw [← s.2.1] at y
        have p1 := ho.2.2 (r_in r t) (Y 11 t) hx3 ⟨x.1, x.2.1⟩
        have p2 := ho'.2.2 (r_in r t) (Z 11 t) hx3 ⟨y.1, y.2.1⟩
        rw [x.2.2] at p1
        rw [y.2.2, ← sk (r_in r t) (Z 11 t) hx3 ⟨y.1, by omega⟩] at p2
        have p3 : r_sk r (r_in r t) (Y 11 t) = r_sk r (r_in r t) (Z 11 t) := p1.symm.trans p2
        rcases Int.lt_trichotomy (Y 11 t) (Z 11 t) with q | q | q
        · exact absurd p3 (hv.2.2.2.2.1 (r_in r t) _ _ hx3 ⟨x.1, q, by omega⟩)
        · exact q
        · exact absurd p3.symm (hv.2.2.2.2.1 (r_in r t) _ _ hx3 ⟨y.1, q, by omega⟩)
      · have c' : r_st r' t ≠ 1 := s.1 ▸ c
        rw [a.2.2.2.2.2.2.2 c, b.2.2.2.2.2.2.2 c']
    · rw [a.2.2.2.1, b.2.2.2.1, s.1, s.2.2.2.1]
    · rw [a.2.2.2.2.1, b.2.2.2.2.1, s.2.2.2.1, s.2.2.2.2.1]
    · rw [a.2.2.2.2.2.1, b.2.2.2.2.2.1, s.2.2.2.2.2]
  · have a := ho.2.1 t ht
    have b := ho'.2.1 t ht
    have a0 := h (36 + t) (by omega)
    have a1 := h (39 + t) (by omega)
    have a2 := h (42 + t) (by omega)
    rw [v_en ht.1 ht.2, v_en ht.1 ht.2] at a0
    rw [v_ha ht.1 ht.2, v_ha ht.1 ht.2] at a1
    rw [v_hl ht.1 ht.2, v_hl ht.1 ht.2] at a2
    exact ⟨by rw [a.2.2.1, b.2.2.1, a1], by rw [a.2.2.2, b.2.2.2, a2], by rw [a.2.1, b.2.1, a0]⟩
