def sq_uk (r : rn) (t th v : Int) : rn := if t = -1 then u_ha r th v else u_at r t v
def sq_ul (r : rn) (t th v : Int) : rn := if t = -1 then u_hl r th v else u_la r t v
def sq_lt (r : rn) (t th : Int) : Int := if t = -1 then r_hl r th else r_la r t
def sq_pf (F : Nat → Int → Int) (r : rn) (t th x b k q : Int) : rn × List (Int × Int × Int) :=
  if q = 0 then (sq_uk (sq_ul r t th (r_fl r x)) t th (k + 1), [(th, 3, r_fl r x)])
  else if q = 1 then (sq_uk (u_fl r x (F 11 (5 * b + k))) t th (k + 1), [])
  else if q = 5 ∧ sq_lt r t th = F 11 (5 * b + k) then (sq_uk r t th (F 8 b), [])
  else (sq_uk r t th (k + 1), [])
/-- the ACTION ahead of the BODY b is made -/
def sq_acts (F : Nat → Int → Int) (r : rn) (t th b k : Int) : rn × List (Int × Int × Int) :=
  if sp_asked F b k = -5 then sq_thr (F 12) th 14 r 5 0
  else if F 9 (5 * b + k) = 4 then sq_thr (F 12) th 14 r (F 10 (5 * b + k)) 0
  else if sp_asked F b k ≠ -1 ∧ r_st r (sp_asked F b k) = 0 then (sq_begin r th (sp_asked F b k), [(th, 0, sp_asked F b k)])
  else if sp_asked F b k ≠ -1 ∧ r_st r (sp_asked F b k) = 3 then sq_thr (F 12) th 14 r 4 0
  else sq_pf F r t th (sp_asked F b k) b k (F 9 (5 * b + k))
theorem sq_pf_A {F : Nat → Int → Int} {r : rn} {th x b k q : Int} (hth : 0 ≤ th ∧ th < 3) (hx : q = 0 ∨ q = 1 → 0 ≤ x ∧ x ≤ 5) : sp_pf F (vec r) (42 + th) (39 + th) th x b k q = (vec (sq_pf F r (-1) th x b k q).1, (sq_pf F r (-1) th x b k q).2) := by
  have hL : vec r (42 + th) = r_hl r th := v_hl hth.1 hth.2
  unfold sp_pf sq_pf
  rw [hL, show sq_lt r (-1) th = r_hl r th from if_pos rfl]
  by_cases q0 : q = 0
  · have hx1 := hx (Or.inl q0)
    rw [if_pos q0, if_pos q0, v_fl (by omega) (by omega), w_hl hth.1 hth.2, w_ha hth.1 hth.2]
    rfl
  · rw [if_neg q0, if_neg q0]
    by_cases q1 : q = 1
    · have hx1 := hx (Or.inr q1)
      rw [if_pos q1, if_pos q1, w_fl (by omega) (by omega), w_ha hth.1 hth.2]
      rfl
    · rw [if_neg q1, if_neg q1]
      by_cases q5 : q = 5 ∧ r_hl r th = F 11 (5 * b + k)
      · rw [if_pos q5, if_pos q5, w_ha hth.1 hth.2]
        rfl
      · rw [if_neg q5, if_neg q5, w_ha hth.1 hth.2]
        rfl
theorem sq_pf_B {F : Nat → Int → Int} {r : rn} {t th x b k q : Int} (ht : 0 ≤ t ∧ t < 6) (hx : q = 0 ∨ q = 1 → 0 ≤ x ∧ x ≤ 5) : sp_pf F (vec r) (30 + t) (24 + t) th x b k q = (vec (sq_pf F r t th x b k q).1, (sq_pf F r t th x b k q).2) := by
  have hL : vec r (30 + t) = r_la r t := v_la ht.1 ht.2
  have hn : ¬ t = -1 := by omega
  unfold sp_pf sq_pf sq_uk sq_ul
  rw [hL, show sq_lt r t th = r_la r t from if_neg hn]
  by_cases q0 : q = 0
  · have hx1 := hx (Or.inl q0)
    rw [if_pos q0, if_pos q0, v_fl (by omega) (by omega), w_la ht.1 ht.2, w_at ht.1 ht.2, if_neg hn, if_neg hn]
  · rw [if_neg q0, if_neg q0]
    by_cases q1 : q = 1
    · have hx1 := hx (Or.inr q1)
      rw [if_pos q1, if_pos q1, w_fl (by omega) (by omega), w_at ht.1 ht.2, if_neg hn]
    · rw [if_neg q1, if_neg q1]
      by_cases q5 : q = 5 ∧ r_la r t = F 11 (5 * b + k)
      · rw [if_pos q5, if_pos q5, w_at ht.1 ht.2, if_neg hn]
      · rw [if_neg q5, if_neg q5, w_at ht.1 ht.2, if_neg hn]
theorem sp_asked_01 {I : Nat → Int} {F : Nat → Int → Int} (hr : md_rg I F) {b k : Int} (hb : 0 ≤ b ∧ b < 9) (hk : 0 ≤ k ∧ k < 5) (hq : F 9 (5 * b + k) = 0 ∨ F 9 (5 * b + k) = 1) : sp_asked F b k = -5 ∨ 0 ≤ sp_asked F b k := by
  have e1 := hr.2.2.2.2.2 (5 * b + k) ⟨by omega, by omega⟩
  have e2 := hr.2.1 (F 10 (5 * b + k)) ⟨by omega, by omega⟩
  unfold sp_asked
  (repeat' split) <;> omega
