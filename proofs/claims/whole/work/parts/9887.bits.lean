/-! Sums over the OUTCOMES in order are sums over them as they came. -/
theorem sm9_ins {f : Int → Int} {pos c v : Int} (hp : 0 ≤ pos ∧ pos ≤ c) : ∀ n : Nat, (n : Int) ≤ c + 1 → sm9 (vI (shn f pos c) pos v) n = if (n : Int) ≤ pos then sm9 f n else sm9 f (n - 1) + v := by
  intro n
  induction n with
  | zero =>
    intro _
    rw [if_pos (by omega)]
    rfl
  | succ n ih =>
    intro hn
    have a := ih (by omega)
    have es : sm9 (vI (shn f pos c) pos v) (n + 1) = sm9 (vI (shn f pos c) pos v) n + vI (shn f pos c) pos v n := rfl
    have ef : sm9 f (n + 1) = sm9 f n + f n := rfl
    rw [es, a]
    by_cases c1 : (n : Int) < pos
    · rw [if_pos (show (n : Int) ≤ pos by omega), if_pos (show ((n + 1 : Nat) : Int) ≤ pos by omega), vI_miss (by omega), ef]
      unfold shn
      rw [if_neg (by omega)]
    · rw [if_neg (show ¬ ((n + 1 : Nat) : Int) ≤ pos by omega), Nat.add_sub_cancel]
      by_cases c2 : (n : Int) = pos
      · rw [if_pos (show (n : Int) ≤ pos by omega), c2, vI_hit]
      · rw [if_neg (show ¬ (n : Int) ≤ pos by omega), vI_miss c2]
        obtain ⟨m, rfl⟩ : ∃ m, n = m + 1 := ⟨n - 1, by omega⟩
        have em : sm9 f (m + 1) = sm9 f m + f m := rfl
        unfold shn
        rw [if_pos (by omega), Nat.add_sub_cancel, em, show ((m + 1 : Nat) : Int) - 1 = m by omega]
        omega
def s_pm (A : sst) : Prop := 0 ≤ a_c A ∧ ∀ g : Int → Int, sm9 (fun i => g (a_od A i)) (a_c A).toNat = sm9 g (a_c A).toNat
theorem s_pm_new {A : sst} {pos p : Int} (h : s_pm A) (hp : 0 ≤ pos ∧ pos ≤ a_c A) : s_pm (s_new A pos p) := by
  have e1 : a_c (s_new A pos p) = a_c A + 1 := rfl
  have e2 : a_od (s_new A pos p) = vI (shn (a_od A) pos (a_c A)) pos (a_c A) := rfl
  have h0 := h.1
  refine ⟨by rw [e1]; omega, fun g => ?_⟩
  rw [e1, e2]
  have e : (fun i => g (vI (shn (a_od A) pos (a_c A)) pos (a_c A) i)) = vI (shn (fun i => g (a_od A i)) pos (a_c A)) pos (g (a_c A)) := by
    funext i
    unfold vI shn
    by_cases c1 : i = pos
    · rw [if_pos c1, if_pos c1]
    · rw [if_neg c1, if_neg c1]
      by_cases c2 : pos < i ∧ i ≤ a_c A
      · rw [if_pos c2, if_pos c2]
      · rw [if_neg c2, if_neg c2]
  have es : sm9 g ((a_c A).toNat + 1) = sm9 g (a_c A).toNat + g ((a_c A).toNat : Int) := rfl
  rw [e, show (a_c A + 1).toNat = (a_c A).toNat + 1 by omega, sm9_ins hp _ (by omega), if_neg (by omega), Nat.add_sub_cancel, h.2 g, es, show (((a_c A).toNat : Nat) : Int) = a_c A by omega]
theorem s_pm_out {I : Nat → Int} {F : Nat → Int → Int} {A A' : sst} {p : Int} (h : s_pm A) (e : s_out I F A p = some A') : s_pm A' := by
  unfold s_out at e
  split at e
  · have e := Option.some.inj e
    subst e
    exact h
  · split at e
    · cases e
    · have e := Option.some.inj e
      subst e
      exact s_pm_new h (a_pos_rg h.1)
theorem s_pm_come {I : Nat → Int} {F : Nat → Int → Int} {A A' : sst} {r : rn} {l : Int} {w : Int → Int} (h : s_pm A) (e : s_come I F A r l w = some A') : s_pm A' := by
  unfold s_come at e
  split at e
  · have e := Option.some.inj e
    subst e
    exact h
  · split at e
    · cases e
    · split at e
      · have e := Option.some.inj e
        subst e
        exact h
      · exact s_pm_out (A := s_add A r l w) h e
theorem s_pm_step {I : Nat → Int} {F : Nat → Int → Int} {A A' : sst} {f : Int × Int} {l : List (Int × Int)} (h : s_pm A) (e : s_step I F A f l = some A') : s_pm A' := by
  unfold s_step at e
  split at e
  · exact s_pm_come (A := s_stk A ((f.1, nxh I F (a_pt A f.1) 3 f.2 + 1) :: l)) h e
  · have e := Option.some.inj e
    subst e
    exact h
theorem s_pm_run {I : Nat → Int} {F : Nat → Int → Int} : ∀ (k : Nat) (A A' : sst), s_pm A → s_run I F k A = some A' → s_pm A' := by
  intro k
  induction k with
  | zero =>
    intro A A' h e
    have e := Option.some.inj e
    subst e
    exact h
  | succ k ih =>
    intro A A' h e
    cases hs : a_sk A with
    | nil =>
      rw [s_run_nil hs] at e
      have e := Option.some.inj e
      subst e
      exact h
    | cons f l =>
      rw [s_run_cons hs] at e
      cases h1 : s_step I F A f l with
      | none =>
        rw [h1] at e
        cases e
      | some A1 =>
        rw [h1] at e
        exact ih A1 A' (s_pm_step h h1) e
theorem s_pm_all {I : Nat → Int} {F : Nat → Int → Int} {r : rn} {A : sst} (e : s_all I F r = some A) : s_pm A := by
  unfold s_all at e
  cases h1 : s_come I F (s_ini r) r 0 (fun _ => 0) with
  | none =>
    rw [h1] at e
    cases e
  | some A1 =>
    rw [h1] at e
    exact s_pm_run 12000 A1 A (s_pm_come (A := s_ini r) ⟨(by decide : (0 : Int) ≤ 0), fun _ => rfl⟩ h1) e
/-! The THREADS still to be tried, a bit for each. -/
def bj (I : Nat → Int) (F : Nat → Int → Int) (r : rn) (j : Int) : Int := if j < I 1 then hv1 F r j else 0
theorem bj_01 {I : Nat → Int} {F : Nat → Int → Int} {r : rn} {j : Int} : bj I F r j = 0 ∨ bj I F r j = 1 := by
  unfold bj
  split
  · exact hv1_01
  · exact Or.inl rfl
def ub (I : Nat → Int) (F : Nat → Int → Int) (r : rn) (t : Int) : Int := (if t ≤ 0 then bj I F r 0 else 0) + 2 * (if t ≤ 1 then bj I F r 1 else 0) + 4 * (if t ≤ 2 then bj I F r 2 else 0)
theorem ub_rg {I : Nat → Int} {F : Nat → Int → Int} {r : rn} {t : Int} : 0 ≤ ub I F r t ∧ ub I F r t < 8 := by
  have b0 := bj_01 (I := I) (F := F) (r := r) (j := 0)
  have b1 := bj_01 (I := I) (F := F) (r := r) (j := 1)
  have b2 := bj_01 (I := I) (F := F) (r := r) (j := 2)
  unfold ub
  repeat' split
  all_goals omega
theorem mb_ub {I : Nat → Int} {F : Nat → Int → Int} {r : rn} (h0 : 0 ≤ I 1) (hI : I 1 ≤ 3) : mb F r (I 1).toNat = ub I F r 0 := by
  unfold ub
  rw [if_pos (by decide), if_pos (by decide), if_pos (by decide)]
  unfold bj
  have m0 : mb F r 0 = 0 := rfl
  have m1 : mb F r 1 = mb F r 0 + hv1 F r 0 * 1 := rfl
  have m2 : mb F r 2 = mb F r 1 + hv1 F r 1 * 2 := rfl
  have m3 : mb F r 3 = mb F r 2 + hv1 F r 2 * 4 := rfl
  have c : I 1 = 0 ∨ I 1 = 1 ∨ I 1 = 2 ∨ I 1 = 3 := by omega
  rcases c with c | c | c | c
  · rw [if_neg (by omega), if_neg (by omega), if_neg (by omega), c]
    show mb F r 0 = _
    omega
  · rw [if_pos (by omega), if_neg (by omega), if_neg (by omega), c]
    show mb F r 1 = _
    omega
  · rw [if_pos (by omega), if_pos (by omega), if_neg (by omega), c]
    show mb F r 2 = _
    omega
  · rw [if_pos (by omega), if_pos (by omega), if_pos (by omega), c]
    show mb F r 3 = _
    omega
theorem an_bj {I : Nat → Int} {F : Nat → Int → Int} {r : rn} : an1 I F r 3 = 1 ↔ bj I F r 0 = 1 ∨ bj I F r 1 = 1 ∨ bj I F r 2 = 1 := by
  have e0 : an1 I F r 0 = 0 := rfl
  have e1 : an1 I F r 1 = if an1 I F r 0 = 1 then 1 else bj I F r 0 := rfl
  have e2 : an1 I F r 2 = if an1 I F r 1 = 1 then 1 else bj I F r 1 := rfl
  have e3 : an1 I F r 3 = if an1 I F r 2 = 1 then 1 else bj I F r 2 := rfl
  rw [e0, if_neg (by decide)] at e1
  rw [e1] at e2
  rw [e3, e2]
  by_cases c0 : bj I F r 0 = 1
  · rw [if_pos c0, if_pos rfl]
    exact ⟨fun _ => Or.inl c0, fun _ => rfl⟩
  · rw [if_neg c0]
    by_cases c1 : bj I F r 1 = 1
    · rw [if_pos c1]
      exact ⟨fun _ => Or.inr (Or.inl c1), fun _ => rfl⟩
    · rw [if_neg c1]
      constructor
      · exact fun z => Or.inr (Or.inr z)
      · rintro (z | z | z)
        · exact absurd z c0
        · exact absurd z c1
        · exact z
theorem ub_an {I : Nat → Int} {F : Nat → Int → Int} {r : rn} : ub I F r 0 = 0 ↔ ¬ an1 I F r 3 = 1 := by
  have b0 := bj_01 (I := I) (F := F) (r := r) (j := 0)
  have b1 := bj_01 (I := I) (F := F) (r := r) (j := 1)
  have b2 := bj_01 (I := I) (F := F) (r := r) (j := 2)
  rw [an_bj]
  unfold ub
  rw [if_pos (by decide), if_pos (by decide), if_pos (by decide)]
  omega
theorem ma_all : ∀ s : Fin 8, ma (s.val : Int) 0 3 0 0 = if s.val % 2 = 1 then 0 else if s.val / 2 % 2 = 1 then 1 else if s.val / 4 % 2 = 1 then 2 else -1 := by decide
theorem xr_all : ∀ s : Fin 8, ∀ k : Fin 3, s.val / 2 ^ k.val % 2 = 1 → iI (s.val : Int) ^^^ (iI 1 <<< (iI (k.val : Int) &&& 31)) = iI ((s.val : Int) - 2 ^ k.val) := by decide
theorem nx_bj {I : Nat → Int} {F : Nat → Int → Int} {r : rn} (hI : I 1 ≤ 3) {t : Int} (ht : 0 ≤ t ∧ t ≤ 3) : (nxh I F r 3 t < I 1 → bj I F r (nxh I F r 3 t) = 1) ∧ (∀ j : Int, t ≤ j ∧ j < nxh I F r 3 t → bj I F r j = 0) ∧ (¬ nxh I F r 3 t < I 1 → ∀ j : Int, t ≤ j → bj I F r j = 0) := by
  have a := nxh_sp (I := I) (F := F) (r := r) hI 3 t ht.2 (by omega)
  refine ⟨fun h => ?_, fun j hj => ?_, fun h j hj => ?_⟩
  · unfold bj
    rw [if_pos h]
    exact a.2.1 h
  · unfold bj
    split
    · exact a.2.2 j hj
    · rfl
  · unfold bj
    split
    · exact a.2.2 j (by omega)
    · rfl
/-- what memberAt answers of them, and what is left -/
theorem ub_ma {I : Nat → Int} {F : Nat → Int → Int} {r : rn} (hI : I 1 ≤ 3) {t : Int} (ht : 0 ≤ t ∧ t ≤ 3) : (nxh I F r 3 t < I 1 → ma (ub I F r t) 0 3 0 0 = nxh I F r 3 t ∧ iI (ub I F r t) ^^^ (iI 1 <<< (iI (nxh I F r 3 t) &&& 31)) = iI (ub I F r (nxh I F r 3 t + 1))) ∧ (¬ nxh I F r 3 t < I 1 → ma (ub I F r t) 0 3 0 0 = -1) := by
  have a := nxh_sp (I := I) (F := F) (r := r) hI 3 t ht.2 (by omega)
  obtain ⟨n1, n2, n3⟩ := nx_bj (I := I) (F := F) (r := r) hI ht
  have b0 := bj_01 (I := I) (F := F) (r := r) (j := 0)
  have b1 := bj_01 (I := I) (F := F) (r := r) (j := 1)
  have b2 := bj_01 (I := I) (F := F) (r := r) (j := 2)
  have u := ub_rg (I := I) (F := F) (r := r) (t := t)
  have m := ma_all ⟨(ub I F r t).toNat, by omega⟩
  have x := fun k : Fin 3 => xr_all ⟨(ub I F r t).toNat, by omega⟩ k
  dsimp only at m x
  rw [show (((ub I F r t).toNat : Nat) : Int) = ub I F r t by omega] at m x
  have eu : ub I F r t = (if t ≤ 0 then bj I F r 0 else 0) + 2 * (if t ≤ 1 then bj I F r 1 else 0) + 4 * (if t ≤ 2 then bj I F r 2 else 0) := rfl
  have ev : ∀ h : Int, ub I F r (h + 1) = (if h + 1 ≤ 0 then bj I F r 0 else 0) + 2 * (if h + 1 ≤ 1 then bj I F r 1 else 0) + 4 * (if h + 1 ≤ 2 then bj I F r 2 else 0) := fun _ => rfl
  constructor
  · intro h
    have a1 := a.1
    have c : nxh I F r 3 t = 0 ∨ nxh I F r 3 t = 1 ∨ nxh I F r 3 t = 2 := by omega
    have q := n1 h
    rcases c with c | c | c
    · rw [c] at q n2 a1 ⊢
      rw [if_pos (by omega), if_pos (by omega), if_pos (by omega)] at eu
      have e2 := ev 0
      rw [if_neg (by decide), if_pos (by decide), if_pos (by decide)] at e2
      rw [if_pos (by omega)] at m
      have z := x ⟨0, by decide⟩ (by show (ub I F r t).toNat / 2 ^ 0 % 2 = 1; rw [Nat.pow_zero]; omega)
      dsimp only at z
      refine ⟨m, ?_⟩
      show iI (ub I F r t) ^^^ (iI 1 <<< (iI ((0 : Nat) : Int) &&& 31)) = _
      rw [z]
      congr 1
      rw [e2, eu]
      omega
    · rw [c] at q n2 a1 ⊢
      have z0 : (if t ≤ 0 then bj I F r 0 else 0) = 0 := by
        split
        · exact n2 0 (by omega)
        · rfl
      rw [z0, if_pos (by omega), if_pos (by omega)] at eu
      have e2 := ev 1
      rw [if_neg (by decide), if_neg (by decide), if_pos (by decide)] at e2
      rw [if_neg (by omega), if_pos (by omega)] at m
      have z := x ⟨1, by decide⟩ (by show (ub I F r t).toNat / 2 ^ 1 % 2 = 1; rw [Nat.pow_one]; omega)
      dsimp only at z
      refine ⟨m, ?_⟩
      show iI (ub I F r t) ^^^ (iI 1 <<< (iI ((1 : Nat) : Int) &&& 31)) = _
      rw [z]
      congr 1
      rw [e2, eu]
      omega
    · rw [c] at q n2 a1 ⊢
      have z0 : (if t ≤ 0 then bj I F r 0 else 0) = 0 := by
        split
        · exact n2 0 (by omega)
        · rfl
      have z1 : (if t ≤ 1 then bj I F r 1 else 0) = 0 := by
        split
        · exact n2 1 (by omega)
        · rfl
      rw [z0, z1, if_pos (by omega)] at eu
      have e2 := ev 2
      rw [if_neg (by decide), if_neg (by decide), if_neg (by decide)] at e2
      rw [if_neg (by omega), if_neg (by omega), if_pos (by omega)] at m
      have z := x ⟨2, by decide⟩ (by show (ub I F r t).toNat / 2 ^ 2 % 2 = 1; rw [show (2 : Nat) ^ 2 = 4 from rfl]; omega)
      dsimp only at z
      refine ⟨m, ?_⟩
      show iI (ub I F r t) ^^^ (iI 1 <<< (iI ((2 : Nat) : Int) &&& 31)) = _
      rw [z]
      congr 1
      rw [e2, eu]
      omega
  · intro h
    have z := n3 h
    have z0 : (if t ≤ 0 then bj I F r 0 else 0) = 0 := by
      split
      · exact z 0 (by omega)
      · rfl
    have z1 : (if t ≤ 1 then bj I F r 1 else 0) = 0 := by
      split
      · exact z 1 (by omega)
      · rfl
    have z2 : (if t ≤ 2 then bj I F r 2 else 0) = 0 := by
      split
      · exact z 2 (by omega)
      · rfl
    rw [z0, z1, z2] at eu
    rw [if_neg (by omega), if_neg (by omega), if_neg (by omega)] at m
    exact m
