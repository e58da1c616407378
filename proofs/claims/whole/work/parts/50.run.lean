/-! The class's Run beside the reference's run: X its rows by their places behind it (3 state, 4 worker, 5 value, 10 depth, 11 level, 12 inList, 13 place, 14 latest, 15 ended), S its stacks. -/
def cw (s i : Int) : Int := if s = 1 then i else 0
def ci (s l : Int) : Int := if s = 1 ∧ 0 ≤ l then 1 else 0
def cp (l a : Int) : Int := if 0 ≤ l then l else a
def ru_ok (r : rn) (X : Nat → Int → Int) (S : Int → Int → Int) : Prop :=
  (∀ t : Int, 0 ≤ t ∧ t < 6 → X 3 t = r_st r t ∧ X 4 t = cw (r_st r t) (r_in r t) ∧ X 5 t = r_fl r t ∧ X 12 t = ci (r_st r t) (r_ls r t) ∧ X 13 t = cp (r_ls r t) (r_at r t) ∧ X 14 t = r_la r t ∧ (r_st r t = 1 → 0 ≤ X 11 t ∧ X 11 t < r_mn r (r_in r t) ∧ S (r_in r t) (X 11 t) = t) ∧ (r_st r t ≠ 1 → X 11 t = 0)) ∧
  (∀ h : Int, 0 ≤ h ∧ h < 3 → X 10 h = r_mn r h ∧ X 15 h = r_en r h ∧ X 13 (6 + h) = r_ha r h ∧ X 14 (6 + h) = r_hl r h) ∧
  (∀ h i : Int, 0 ≤ h ∧ h < 3 → 0 ≤ i ∧ i < r_mn r h → S h i = r_sk r h i)
/-- a stack with one place changed -/
def vI2 (S : Int → Int → Int) (h i v : Int) : Int → Int → Int := fun a b => if a = h ∧ b = i then v else S a b
theorem vI2_hit {S : Int → Int → Int} {h i v : Int} : vI2 S h i v h i = v := if_pos ⟨rfl, rfl⟩
theorem vI2_miss {S : Int → Int → Int} {h i v a b : Int} (q : ¬ (a = h ∧ b = i)) : vI2 S h i v a b = S a b := if_neg q
theorem vI2_row {S : Int → Int → Int} {h i v : Int} : vI (S h) i v = vI2 S h i v h := by
  funext b
  unfold vI vI2
  by_cases c : b = i
  · rw [if_pos c, if_pos ⟨rfl, c⟩]
  · rw [if_neg c, if_neg (fun q => c q.2)]
/-- rows of the Run with one place changed -/
def xI (X : Nat → Int → Int) (k : Nat) (i v : Int) : Nat → Int → Int := va_up X k (vI (X k) i v)
theorem xI_hit {X : Nat → Int → Int} {k : Nat} {i v : Int} : xI X k i v k i = v := by
  unfold xI
  rw [va_up_hit, vI_hit]
theorem xI_row {X : Nat → Int → Int} {k j : Nat} {i v x : Int} (h : j ≠ k) : xI X k i v j x = X j x := by
  unfold xI
  rw [va_up_miss h]
theorem xI_miss {X : Nat → Int → Int} {k : Nat} {i v x : Int} (h : x ≠ i) : xI X k i v k x = X k x := by
  unfold xI
  rw [va_up_hit, vI_miss h]
theorem xI_eq {X : Nat → Int → Int} {k j : Nat} {i v x : Int} : xI X k i v j x = if j = k ∧ x = i then v else X j x := by
  by_cases c : j = k
  · subst c
    by_cases d : x = i
    · subst d
      rw [xI_hit, if_pos ⟨rfl, rfl⟩]
    · rw [xI_miss d, if_neg (fun q => d q.2)]
  · rw [xI_row c, if_neg (fun q => c q.1)]
def cx_enter (X : Nat → Int → Int) (th t m : Int) : Nat → Int → Int := xI (xI (xI (xI (xI X 3 t 1) 4 t th) 11 t m) 12 t 1) 10 th (m + 1)
def cx_away (X : Nat → Int → Int) (t st : Int) : Nat → Int → Int := xI (xI (xI (xI (xI (xI X 3 t st) 4 t 0) 11 t 0) 12 t 0) 13 t 0) 14 t 0
def cx_end (X : Nat → Int → Int) (th n : Int) : Nat → Int → Int := xI (xI (xI X 15 th (2 + n)) 13 (6 + th) 0) 14 (6 + th) 0
theorem ro_begin {I : Nat → Int} {F : Nat → Int → Int} {r : rn} {X : Nat → Int → Int} {S : Int → Int → Int} (hv : rn_iv I F r) (ho : ru_ok r X S) {th t : Int} (hth : 0 ≤ th ∧ th < 3) (ht : 0 ≤ t ∧ t < 6) (h0 : r_st r t = 0) : ru_ok (sq_begin r th t) (cx_enter X th t (r_mn r th)) (vI2 S th (r_mn r th) t) := by
  have e1 := hv.1.2.1 th hth
  have e7 := hv.2.2.2.2.2.2.2.1 t ht (by omega)
  have g3 := hv.2.2.2.1
  have g6 := hv.2.2.2.2.2.2.1
  obtain ⟨oa, ob, oc⟩ := ho
  obtain ⟨st, inn, fl, ls, att, la, en, ha, hl, mn, sk⟩ := r
  unfold sq_begin u_mn u_sk u_in u_st cx_enter
  dsimp only [r_st, r_in, r_fl, r_ls, r_at, r_la, r_en, r_ha, r_hl, r_mn, r_sk] at *
  refine ⟨fun x hx => ?_, fun x hx => ?_, fun x y hx hy => ?_⟩
  · have a := oa x hx
    dsimp only [r_st, r_in, r_fl, r_ls, r_at, r_la, r_en, r_ha, r_hl, r_mn, r_sk]
    simp only [xI_eq, vI]
    by_cases c : x = t
    · subst c
      simp only [if_true, and_true, true_and, Nat.reduceEqDiff, if_false, false_and, and_false]
      refine ⟨rfl, a.2.2.1, ?_, a.2.2.2.2.1, a.2.2.2.2.2.1, fun _ => ⟨by omega, by omega, vI2_hit⟩, fun q => absurd rfl q⟩
      rw [e7.2.1]
      decide
    · simp only [c, if_true, and_true, true_and, Nat.reduceEqDiff, if_false, false_and, and_false]
      refine ⟨a.1, a.2.1, a.2.2.1, a.2.2.2.1, a.2.2.2.2.1, a.2.2.2.2.2.1, fun q => ?_, a.2.2.2.2.2.2.2⟩
      have b := a.2.2.2.2.2.2.1 q
      have b2 := g6 x hx q
      refine ⟨b.1, ?_, ?_⟩
      · split
        · rename_i c2
          rw [c2] at b
          omega
        · exact b.2.1
      · rw [vI2_miss (fun c2 => by rw [c2.1] at b; omega)]
        exact b.2.2
  · have b := ob x hx
    dsimp only [r_st, r_in, r_fl, r_ls, r_at, r_la, r_en, r_ha, r_hl, r_mn, r_sk]
    simp only [xI_eq, vI]
    simp only [true_and, Nat.reduceEqDiff, if_false, false_and]
    refine ⟨?_, b.2.1, b.2.2.1, b.2.2.2⟩
    split
    · rfl
    · exact b.1
  · dsimp only [r_st, r_in, r_fl, r_ls, r_at, r_la, r_en, r_ha, r_hl, r_mn, r_sk, vI] at hy ⊢
    unfold vI2
    have hxm : x = th → mn x = mn th := fun q => by rw [q]
    by_cases c : x = th ∧ y = mn th
    · rw [if_pos c, if_pos c]
    · rw [if_neg c, if_neg c]
      exact oc x y hx (by split at hy <;> omega)
theorem ro_go {I : Nat → Int} {F : Nat → Int → Int} {r : rn} {X : Nat → Int → Int} {S : Int → Int → Int} (hv : rn_iv I F r) (ho : ru_ok r X S) {th st' : Int} (hth : 0 ≤ th ∧ th < 3) (hm : 0 < r_mn r th) (hst : st' = 2 ∨ st' = 3) : ru_ok (sq_go r th (r_sk r th (r_mn r th - 1)) st') (cx_away (xI X 10 th (r_mn r th - 1)) (r_sk r th (r_mn r th - 1)) st') S := by
  have b1 := hv.1.2.1 th hth
  have b2 := hv.1.2.2 th (r_mn r th - 1) hth ⟨by omega, by omega⟩
  have b3 := hv.2.2.2.1 th (r_mn r th - 1) hth ⟨by omega, by omega⟩
  have g3 := hv.2.2.2.1
  have g4 := hv.2.2.2.2.1
  have g6 := hv.2.2.2.2.2.2.1
  obtain ⟨oa, ob, oc⟩ := ho
  obtain ⟨st, inn, fl, ls, att, la, en, ha, hl, mn, sk⟩ := r
  unfold sq_go u_mn u_sk u_in u_st u_ls u_at u_la cx_away
  dsimp only [r_st, r_in, r_fl, r_ls, r_at, r_la, r_en, r_ha, r_hl, r_mn, r_sk] at *
  have oct := oc th (mn th - 1) hth (by omega)
  generalize ht : sk th (mn th - 1) = t at *
  refine ⟨fun x hx => ?_, fun x hx => ?_, fun x y hx hy => ?_⟩
  · have a := oa x hx
    dsimp only [r_st, r_in, r_fl, r_ls, r_at, r_la, r_en, r_ha, r_hl, r_mn, r_sk]
    simp only [xI_eq, vI]
    by_cases c : x = t
    · subst c
      simp only [if_true, and_true, true_and, Nat.reduceEqDiff, if_false, false_and, and_false]
      refine ⟨(if_neg (by omega)).symm, a.2.2.1, (if_neg (by omega)).symm, rfl, fun q => by omega, fun _ => trivial⟩
    · simp only [c, if_true, and_true, true_and, Nat.reduceEqDiff, if_false, false_and, and_false]
      refine ⟨a.1, a.2.1, a.2.2.1, a.2.2.2.1, a.2.2.2.2.1, a.2.2.2.2.2.1, fun q => ?_, a.2.2.2.2.2.2.2⟩
      have b := a.2.2.2.2.2.2.1 q
      have b5 := g6 x hx q
      refine ⟨b.1, ?_, b.2.2⟩
      split
      · rename_i c2
        rw [c2] at b
        by_cases c3 : X 11 x = mn th - 1
        · rw [c3, oct] at b
          exact absurd b.2.2.symm c
        · omega
      · exact b.2.1
  · have b := ob x hx
    have c1 : ¬ (6 + x = t) := by omega
    dsimp only [r_st, r_in, r_fl, r_ls, r_at, r_la, r_en, r_ha, r_hl, r_mn, r_sk]
    simp only [xI_eq, vI]
    simp only [c1, true_and, Nat.reduceEqDiff, if_false, false_and]
    refine ⟨?_, b.2.1, b.2.2.1, b.2.2.2⟩
    split
    · rfl
    · exact b.1
  · dsimp only [r_st, r_in, r_fl, r_ls, r_at, r_la, r_en, r_ha, r_hl, r_mn, r_sk, vI] at hy ⊢
    have hxm : x = th → mn x = mn th := fun q => by rw [q]
    have c1 : ¬ (x = th ∧ y = mn th - 1) := by split at hy <;> omega
    rw [if_neg c1]
    exact oc x y hx (by split at hy <;> omega)
theorem ro_end {r : rn} {X : Nat → Int → Int} {S : Int → Int → Int} (ho : ru_ok r X S) {th n : Int} (hth : 0 ≤ th ∧ th < 3) : ru_ok (sq_end r th n) (cx_end X th n) S := by
  obtain ⟨oa, ob, oc⟩ := ho
  obtain ⟨st, inn, fl, ls, att, la, en, ha, hl, mn, sk⟩ := r
  unfold sq_end u_hl u_ha u_en cx_end
  dsimp only [r_st, r_in, r_fl, r_ls, r_at, r_la, r_en, r_ha, r_hl, r_mn, r_sk] at *
  refine ⟨fun x hx => ?_, fun x hx => ?_, oc⟩
  · have a := oa x hx
    have c1 : ¬ (x = 6 + th) := by omega
    dsimp only [r_st, r_in, r_fl, r_ls, r_at, r_la, r_en, r_ha, r_hl, r_mn, r_sk]
    simp only [xI_eq]
    simp only [c1, true_and, Nat.reduceEqDiff, if_false, false_and]
    exact a
  · have b := ob x hx
    dsimp only [r_st, r_in, r_fl, r_ls, r_at, r_la, r_en, r_ha, r_hl, r_mn, r_sk]
    simp only [xI_eq, vI]
    by_cases c : x = th
    · subst c
      simp only [if_true, and_true, true_and, Nat.reduceEqDiff, if_false, false_and, and_false]
      exact b.1
    · have c1 : ¬ (6 + x = 6 + th) := by omega
      simp only [c, c1, if_true, and_true, true_and, Nat.reduceEqDiff, if_false, false_and, and_false]
      exact b
/-- the LIST of a START goes on, or is over -/
theorem ro_ls {r : rn} {X : Nat → Int → Int} {S : Int → Int → Int} (ho : ru_ok r X S) {t v : Int} (ht : 0 ≤ t ∧ t < 6) (h1 : r_st r t = 1) (hl : 0 ≤ r_ls r t) (h9 : 0 ≤ v) : ru_ok (u_ls r t v) (xI X 13 t v) S := by
  obtain ⟨oa, ob, oc⟩ := ho
  obtain ⟨st, inn, fl, ls, att, la, en, ha, hl, mn, sk⟩ := r
  unfold u_ls
  dsimp only [r_st, r_in, r_fl, r_ls, r_at, r_la, r_en, r_ha, r_hl, r_mn, r_sk] at *
  refine ⟨fun x hx => ?_, fun x hx => ?_, oc⟩
  · have a := oa x hx
    dsimp only [r_st, r_in, r_fl, r_ls, r_at, r_la, r_en, r_ha, r_hl, r_mn, r_sk]
    simp only [xI_eq, vI]
    by_cases c : x = t
    · subst c
      simp only [if_true, and_true, true_and, Nat.reduceEqDiff, if_false, false_and, and_false]
      have q1 : ci (st x) (ls x) = 1 := if_pos ⟨h1, by assumption⟩
      exact ⟨a.1, a.2.1, a.2.2.1, a.2.2.2.1.trans (q1.trans (if_pos ⟨h1, h9⟩).symm), (if_pos h9).symm, a.2.2.2.2.2⟩
    · simp only [c, if_true, and_true, true_and, Nat.reduceEqDiff, if_false, false_and, and_false]
      exact a
  · have b := ob x hx
    have c1 : ¬ (6 + x = t) := by omega
    dsimp only [r_st, r_in, r_fl, r_ls, r_at, r_la, r_en, r_ha, r_hl, r_mn, r_sk]
    simp only [xI_eq]
    simp only [c1, true_and, Nat.reduceEqDiff, if_false, false_and, and_false]
    exact b
theorem ro_lsend {r : rn} {X : Nat → Int → Int} {S : Int → Int → Int} (ho : ru_ok r X S) {t : Int} (ht : 0 ≤ t ∧ t < 6) (h1 : r_st r t = 1) (ha0 : r_at r t = 0) : ru_ok (u_ls r t (-1)) (xI (xI X 12 t 0) 13 t 0) S := by
  obtain ⟨oa, ob, oc⟩ := ho
  obtain ⟨st, inn, fl, ls, att, la, en, ha, hl, mn, sk⟩ := r
  unfold u_ls
  dsimp only [r_st, r_in, r_fl, r_ls, r_at, r_la, r_en, r_ha, r_hl, r_mn, r_sk] at *
  have hneg : ¬ ((0 : Int) ≤ -1) := by decide
  refine ⟨fun x hx => ?_, fun x hx => ?_, oc⟩
  · have a := oa x hx
    dsimp only [r_st, r_in, r_fl, r_ls, r_at, r_la, r_en, r_ha, r_hl, r_mn, r_sk]
    simp only [xI_eq, vI]
    by_cases c : x = t
    · subst c
      simp only [if_true, and_true, true_and, Nat.reduceEqDiff, if_false, false_and, and_false]
      exact ⟨a.1, a.2.1, a.2.2.1, (if_neg (fun q => hneg q.2)).symm, ((if_neg hneg).trans ha0).symm, a.2.2.2.2.2⟩
    · simp only [c, if_true, and_true, true_and, Nat.reduceEqDiff, if_false, false_and, and_false]
      exact a
  · have b := ob x hx
    have c1 : ¬ (6 + x = t) := by omega
    dsimp only [r_st, r_in, r_fl, r_ls, r_at, r_la, r_en, r_ha, r_hl, r_mn, r_sk]
    simp only [xI_eq]
    simp only [c1, true_and, Nat.reduceEqDiff, if_false, false_and, and_false]
    exact b
theorem ro_at {r : rn} {X : Nat → Int → Int} {S : Int → Int → Int} (ho : ru_ok r X S) {t v : Int} (ht : 0 ≤ t ∧ t < 6) (hl : r_ls r t < 0) : ru_ok (u_at r t v) (xI X 13 t v) S := by
  obtain ⟨oa, ob, oc⟩ := ho
  obtain ⟨st, inn, fl, ls, att, la, en, ha, hl', mn, sk⟩ := r
  unfold u_at
  dsimp only [r_st, r_in, r_fl, r_ls, r_at, r_la, r_en, r_ha, r_hl, r_mn, r_sk] at *
  have hneg : ¬ (0 ≤ ls t) := by omega
  refine ⟨fun x hx => ?_, fun x hx => ?_, oc⟩
  · have a := oa x hx
    dsimp only [r_st, r_in, r_fl, r_ls, r_at, r_la, r_en, r_ha, r_hl, r_mn, r_sk]
    simp only [xI_eq, vI]
    by_cases c : x = t
    · subst c
      simp only [if_true, and_true, true_and, Nat.reduceEqDiff, if_false, false_and, and_false]
      exact ⟨a.1, a.2.1, a.2.2.1, a.2.2.2.1, (if_neg hneg).symm, a.2.2.2.2.2⟩
    · simp only [c, if_true, and_true, true_and, Nat.reduceEqDiff, if_false, false_and, and_false]
      exact a
  · have b := ob x hx
    have c1 : ¬ (6 + x = t) := by omega
    dsimp only [r_st, r_in, r_fl, r_ls, r_at, r_la, r_en, r_ha, r_hl, r_mn, r_sk]
    simp only [xI_eq]
    simp only [c1, true_and, Nat.reduceEqDiff, if_false, false_and, and_false]
    exact b
theorem ro_la {r : rn} {X : Nat → Int → Int} {S : Int → Int → Int} (ho : ru_ok r X S) {t v : Int} (ht : 0 ≤ t ∧ t < 6) : ru_ok (u_la r t v) (xI X 14 t v) S := by
  obtain ⟨oa, ob, oc⟩ := ho
  obtain ⟨st, inn, fl, ls, att, la, en, ha, hl', mn, sk⟩ := r
  unfold u_la
  dsimp only [r_st, r_in, r_fl, r_ls, r_at, r_la, r_en, r_ha, r_hl, r_mn, r_sk] at *
  refine ⟨fun x hx => ?_, fun x hx => ?_, oc⟩
  · have a := oa x hx
    dsimp only [r_st, r_in, r_fl, r_ls, r_at, r_la, r_en, r_ha, r_hl, r_mn, r_sk]
    simp only [xI_eq, vI]
    by_cases c : x = t
    · subst c
      simp only [if_true, and_true, true_and, Nat.reduceEqDiff, if_false, false_and, and_false] at a ⊢
      exact ⟨a.1, a.2.1, a.2.2.1, a.2.2.2.1, a.2.2.2.2.1, a.2.2.2.2.2.2⟩
    · simp only [c, if_true, and_true, true_and, Nat.reduceEqDiff, if_false, false_and, and_false]
      exact a
  · have b := ob x hx
    have c1 : ¬ (6 + x = t) := by omega
    dsimp only [r_st, r_in, r_fl, r_ls, r_at, r_la, r_en, r_ha, r_hl, r_mn, r_sk]
    simp only [xI_eq]
    simp only [c1, true_and, Nat.reduceEqDiff, if_false, false_and, and_false]
    exact b
theorem ro_fl {r : rn} {X : Nat → Int → Int} {S : Int → Int → Int} (ho : ru_ok r X S) {t v : Int} : ru_ok (u_fl r t v) (xI X 5 t v) S := by
  obtain ⟨oa, ob, oc⟩ := ho
  obtain ⟨st, inn, fl, ls, att, la, en, ha, hl', mn, sk⟩ := r
  unfold u_fl
  dsimp only [r_st, r_in, r_fl, r_ls, r_at, r_la, r_en, r_ha, r_hl, r_mn, r_sk] at *
  refine ⟨fun x hx => ?_, fun x hx => ?_, oc⟩
  · have a := oa x hx
    dsimp only [r_st, r_in, r_fl, r_ls, r_at, r_la, r_en, r_ha, r_hl, r_mn, r_sk]
    simp only [xI_eq, vI]
    by_cases c : x = t
    · subst c
      simp only [if_true, and_true, true_and, Nat.reduceEqDiff, if_false, false_and, and_false] at a ⊢
      exact ⟨a.1, a.2.1, a.2.2.2⟩
    · simp only [c, if_true, and_true, true_and, Nat.reduceEqDiff, if_false, false_and, and_false]
      exact a
  · have b := ob x hx
    dsimp only [r_st, r_in, r_fl, r_ls, r_at, r_la, r_en, r_ha, r_hl, r_mn, r_sk]
    simp only [xI_eq]
    simp only [true_and, Nat.reduceEqDiff, if_false, false_and, and_false]
    exact b
theorem ro_ha {r : rn} {X : Nat → Int → Int} {S : Int → Int → Int} (ho : ru_ok r X S) {th v : Int} (hth : 0 ≤ th) : ru_ok (u_ha r th v) (xI X 13 (6 + th) v) S := by
  obtain ⟨oa, ob, oc⟩ := ho
  obtain ⟨st, inn, fl, ls, att, la, en, ha, hl', mn, sk⟩ := r
  unfold u_ha
  dsimp only [r_st, r_in, r_fl, r_ls, r_at, r_la, r_en, r_ha, r_hl, r_mn, r_sk] at *
  refine ⟨fun x hx => ?_, fun x hx => ?_, oc⟩
  · have a := oa x hx
    have c1 : ¬ (x = 6 + th) := by omega
    dsimp only [r_st, r_in, r_fl, r_ls, r_at, r_la, r_en, r_ha, r_hl, r_mn, r_sk]
    simp only [xI_eq]
    simp only [c1, true_and, Nat.reduceEqDiff, if_false, false_and, and_false]
    exact a
  · have b := ob x hx
    dsimp only [r_st, r_in, r_fl, r_ls, r_at, r_la, r_en, r_ha, r_hl, r_mn, r_sk]
    simp only [xI_eq, vI]
    by_cases c : x = th
    · subst c
      simp only [if_true, and_true, true_and, Nat.reduceEqDiff, if_false, false_and, and_false]
      exact ⟨b.1, b.2.1, b.2.2.2⟩
    · have c1 : ¬ (6 + x = 6 + th) := by omega
      simp only [c, c1, if_true, and_true, true_and, Nat.reduceEqDiff, if_false, false_and, and_false]
      exact b
theorem ro_hl {r : rn} {X : Nat → Int → Int} {S : Int → Int → Int} (ho : ru_ok r X S) {th v : Int} (hth : 0 ≤ th) : ru_ok (u_hl r th v) (xI X 14 (6 + th) v) S := by
  obtain ⟨oa, ob, oc⟩ := ho
  obtain ⟨st, inn, fl, ls, att, la, en, ha, hl', mn, sk⟩ := r
  unfold u_hl
  dsimp only [r_st, r_in, r_fl, r_ls, r_at, r_la, r_en, r_ha, r_hl, r_mn, r_sk] at *
  refine ⟨fun x hx => ?_, fun x hx => ?_, oc⟩
  · have a := oa x hx
    have c1 : ¬ (x = 6 + th) := by omega
    dsimp only [r_st, r_in, r_fl, r_ls, r_at, r_la, r_en, r_ha, r_hl, r_mn, r_sk]
    simp only [xI_eq]
    simp only [c1, true_and, Nat.reduceEqDiff, if_false, false_and, and_false]
    exact a
  · have b := ob x hx
    dsimp only [r_st, r_in, r_fl, r_ls, r_at, r_la, r_en, r_ha, r_hl, r_mn, r_sk]
    simp only [xI_eq, vI]
    by_cases c : x = th
    · subst c
      simp only [if_true, and_true, true_and, Nat.reduceEqDiff, if_false, false_and, and_false]
      exact ⟨b.1, b.2.1, b.2.2.1⟩
    · have c1 : ¬ (6 + x = 6 + th) := by omega
      simp only [c, c1, if_true, and_true, true_and, Nat.reduceEqDiff, if_false, false_and, and_false]
      exact b
