/-! The house of the class beside the reference's. -/
/-- a bit of a number, as a whole number -/
def bt (g k : Int) : Int := g / 2 ^ k.toNat % 2
def cl_as (x : Int) : Int := if x = -5 then -1 else x
def cl_th (q a x : Int) : Int := if q = 4 then a else if x = -5 then 5 else 0
/-- a BODY that there is -/
def is_bo (I : Nat → Int) (b : Int) : Prop := 0 ≤ b ∧ b < I 0 ∨ 6 ≤ b ∧ b < 6 + I 1
def ty_ok (I : Nat → Int) (F : Nat → Int → Int) (N : Int) (A : Nat → Int → Int) (R : Nat → Int → Int → Int) : Prop :=
  N = I 0 ∧ ∀ t : Int, 0 ≤ t ∧ t < I 0 →
    (A 1 t = F 5 t ∧ A 2 t = F 3 t ∧ A 3 t = F 17 t ∧ A 11 t = F 6 t ∧ A 12 t = F 6 t + F 15 t ∧ A 13 t = F 1 t ∧ A 14 t = F 2 t) ∧
    (∀ i : Int, 0 ≤ i ∧ i < F 6 t → R 4 t i = F 7 (6 * t + i)) ∧ (∀ i : Int, 0 ≤ i ∧ i < F 15 t → R 4 t i = F 16 (6 * t + i)) ∧ (∀ i : Int, 0 ≤ i ∧ i < F 3 t → R 15 t i = F 4 (3 * t + i))
def bo_ok (I : Nat → Int) (F : Nat → Int → Int) (M : Int) (B : Nat → Int → Int) (K : Nat → Int → Int → Int) : Prop :=
  M = I 1 ∧ (∀ b : Int, 0 ≤ b ∧ b < 9 → 0 ≤ B 52 b ∧ B 52 b < 32) ∧
  (∀ b : Int, is_bo I b → B 1 b = F 8 b ∧ ∀ k : Int, 0 ≤ k ∧ k < F 8 b → K 2 b k = F 9 (5 * b + k) ∧ K 12 b k = F 11 (5 * b + k) ∧ K 42 b k = F 10 (5 * b + k) ∧ K 22 b k = cl_as (sp_asked F b k) ∧ K 32 b k = cl_th (F 9 (5 * b + k)) (F 10 (5 * b + k)) (sp_asked F b k) ∧ bt (B 52 b) k = F 12 (5 * b + k)) ∧
  (∀ b : Int, 0 ≤ b ∧ b < 9 → ¬ is_bo I b → B 1 b = 0 ∧ B 52 b = 0)
theorem cs_top_m {r : rn} {th : Int} : cs_top r th = if sq_top r th = -1 ∧ r_mn r th = 0 then 6 + th else sq_top r th := by
  unfold cs_top sq_top
  by_cases c : r_mn r th = 0
  · rw [if_pos c, if_pos c, if_pos ⟨rfl, c⟩]
  · rw [if_neg c, if_neg c, if_neg (fun q => c q.2)]
theorem cs_top_0 {I : Nat → Int} {F : Nat → Int → Int} {r : rn} (hv : rn_iv I F r) {th : Int} (hth : 0 ≤ th ∧ th < 3) (h : sq_top r th = -1) : cs_top r th = 6 + th := if_pos (sq_top_0 hv hth h)
theorem cs_top_1 {I : Nat → Int} {F : Nat → Int → Int} {r : rn} (hv : rn_iv I F r) {th : Int} (hth : 0 ≤ th ∧ th < 3) (h : sq_top r th ≠ -1) : cs_top r th = sq_top r th := by
  have := sq_top_1 hv hth h
  unfold cs_top
  rw [if_neg (by omega)]
  exact this.2.1.symm
theorem cs_top_rg {I : Nat → Int} {F : Nat → Int → Int} {r : rn} (hv : rn_iv I F r) {th : Int} (hth : 0 ≤ th ∧ th < I 1) (hI : I 1 ≤ 3) : (0 ≤ cs_top r th ∧ cs_top r th < 9) ∧ is_bo I (cs_top r th) := by
  by_cases c : sq_top r th = -1
  · rw [cs_top_0 hv (by omega) c]
    exact ⟨by omega, Or.inr ⟨by omega, by omega⟩⟩
  · rw [cs_top_1 hv (by omega) c]
    have := sq_top_1 hv (by omega) c
    exact ⟨by omega, Or.inl ⟨by omega, by omega⟩⟩
theorem cs_inl {I : Nat → Int} {F : Nat → Int → Int} {r : rn} {X : Nat → Int → Int} {S : Int → Int → Int} (hv : rn_iv I F r) (ho : ru_ok r X S) {th : Int} (hth : 0 ≤ th ∧ th < 3) : (if cs_top r th < 6 then X 12 (cs_top r th) else 0) = sq_inl r th := by
  by_cases c : sq_top r th = -1
  · rw [cs_top_0 hv hth c, if_neg (by omega)]
    exact (if_neg (fun q => q.1 c)).symm
  · obtain ⟨hm, etm, ht6, hs1, -, -⟩ := sq_top_1 hv hth c
    rw [cs_top_1 hv hth c, if_pos (by omega), (ho.1 (sq_top r th) ht6).2.2.2.1]
    unfold ci sq_inl
    by_cases q : 0 ≤ r_ls r (sq_top r th)
    · rw [if_pos ⟨hs1, q⟩, if_pos ⟨c, q⟩]
    · rw [if_neg (fun x => q x.2), if_neg (fun x => q x.2)]
theorem ci_01 {s l : Int} : ci s l = 0 ∨ ci s l = 1 := by
  unfold ci
  split
  · exact Or.inr rfl
  · exact Or.inl rfl
/-- how far the BODY on top is -/
def cs_at (r : rn) (th : Int) : Int := if sq_top r th = -1 then r_ha r th else r_at r (sq_top r th)
theorem cs_place {I : Nat → Int} {F : Nat → Int → Int} {r : rn} {X : Nat → Int → Int} {S : Int → Int → Int} (hv : rn_iv I F r) (ho : ru_ok r X S) {th : Int} (hth : 0 ≤ th ∧ th < 3) (hn : sq_inl r th = 0) : X 13 (cs_top r th) = cs_at r th := by
  unfold cs_at
  by_cases c : sq_top r th = -1
  · rw [cs_top_0 hv hth c, if_pos c]
    exact (ho.2.1 th hth).2.2.1
  · obtain ⟨hm, etm, ht6, hs1, -, -⟩ := sq_top_1 hv hth c
    rw [cs_top_1 hv hth c, if_neg c, (ho.1 (sq_top r th) ht6).2.2.2.2.1]
    exact if_neg (fun q => by
      have : sq_inl r th = 1 := if_pos ⟨c, q⟩
      omega)
theorem cs_latest {I : Nat → Int} {F : Nat → Int → Int} {r : rn} {X : Nat → Int → Int} {S : Int → Int → Int} (hv : rn_iv I F r) (ho : ru_ok r X S) {th : Int} (hth : 0 ≤ th ∧ th < 3) : X 14 (cs_top r th) = sq_lt r (sq_top r th) th := by
  unfold sq_lt
  by_cases c : sq_top r th = -1
  · rw [cs_top_0 hv hth c, if_pos c]
    exact (ho.2.1 th hth).2.2.2
  · obtain ⟨hm, etm, ht6, hs1, -, -⟩ := sq_top_1 hv hth c
    rw [cs_top_1 hv hth c, if_neg c]
    exact (ho.1 (sq_top r th) ht6).2.2.2.2.2.1
/-- how far the BODY on top is: changed -/
theorem ro_uk {I : Nat → Int} {F : Nat → Int → Int} {r : rn} {X : Nat → Int → Int} {S : Int → Int → Int} (hv : rn_iv I F r) (ho : ru_ok r X S) {th v : Int} (hth : 0 ≤ th ∧ th < 3) (hn : sq_inl r th = 0) : ru_ok (sq_uk r (sq_top r th) th v) (xI X 13 (cs_top r th) v) S := by
  unfold sq_uk
  by_cases c : sq_top r th = -1
  · rw [cs_top_0 hv hth c, if_pos c]
    exact ro_ha ho hth.1
  · obtain ⟨hm, etm, ht6, hs1, -, -⟩ := sq_top_1 hv hth c
    rw [cs_top_1 hv hth c, if_neg c]
    refine ro_at ho ht6 ?_
    by_cases q : 0 ≤ r_ls r (sq_top r th)
    · have : sq_inl r th = 1 := if_pos ⟨c, q⟩
      omega
    · omega
theorem ro_ul {I : Nat → Int} {F : Nat → Int → Int} {r : rn} {X : Nat → Int → Int} {S : Int → Int → Int} (hv : rn_iv I F r) (ho : ru_ok r X S) {th v : Int} (hth : 0 ≤ th ∧ th < 3) : ru_ok (sq_ul r (sq_top r th) th v) (xI X 14 (cs_top r th) v) S := by
  unfold sq_ul
  by_cases c : sq_top r th = -1
  · rw [cs_top_0 hv hth c, if_pos c]
    exact ro_hl ho hth.1
  · obtain ⟨hm, etm, ht6, hs1, -, -⟩ := sq_top_1 hv hth c
    rw [cs_top_1 hv hth c, if_neg c]
    exact ro_la ho ht6
theorem sq_behind_uk {r : rn} {th : Int} : sq_behind r th = sq_uk r (sq_top r th) th (cs_at r th + 1) := by
  unfold sq_behind sq_uk cs_at
  by_cases c : sq_top r th = -1
  · rw [if_pos c, if_pos c, if_pos c]
  · rw [if_neg c, if_neg c, if_neg c]
