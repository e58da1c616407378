/-! What is packed and unpacked is the same run. -/
theorem sub_len : ∀ (l k : List Int), l.Nodup → (∀ x, x ∈ l → x ∈ k) → l.length ≤ k.length := by
  intro l
  induction l with
  | nil => intro k _ _; exact Nat.zero_le _
  | cons a l ih =>
    intro k hn hs
    have h1 := List.nodup_cons.mp hn
    have ha := hs a List.mem_cons_self
    have g := ih (k.erase a) h1.2 (fun x hx => by
      have hne : x ≠ a := fun e => h1.1 (e ▸ hx)
      exact (List.mem_erase_of_ne hne).mpr (hs x (List.mem_cons_of_mem _ hx)))
    rw [List.length_erase_of_mem ha] at g
    have hp : 0 < k.length := List.length_pos_of_mem ha
    rw [List.length_cons]
    omega
theorem lst_nd {f : Int → Int} {n : Nat} (h : ∀ i j : Nat, i < j → j < n → f i ≠ f j) : (lst f 0 n).Nodup := by
  induction n with
  | zero => exact List.nodup_nil
  | succ n ih =>
    show (lst f 0 n ++ [f (0 + (n : Int))]).Nodup
    refine List.nodup_append.mpr ⟨ih (fun i j a b => h i j a (by omega)), List.pairwise_singleton _ _, fun a ha b hb e => ?_⟩
    obtain ⟨i, hi, he⟩ := lst_mem.mp ha
    rw [List.mem_singleton] at hb
    rw [Int.zero_add] at hb he
    exact h i n hi (by omega) (by rw [he, e, hb])
theorem mn_cnt {I : Nat → Int} {F : Nat → Int → Int} {r : rn} (hv : rn_iv I F r) {h : Int} (hh : 0 ≤ h ∧ h < 3) {P : Int → Bool} (hP : ∀ t : Int, 0 ≤ t ∧ t < 6 → (P t = true ↔ r_st r t = 1 ∧ r_in r t = h)) : ((([3, 4, 5, 0, 1, 2] : List Int).filter P).length : Int) = r_mn r h := by
  have e1 := hv.1.2.1 h hh
  have g3 := hv.2.2.2.1
  have g4 := hv.2.2.2.2.1
  have g6 := hv.2.2.2.2.2.2.1
  have nd1 : (([3, 4, 5, 0, 1, 2] : List Int).filter P).Nodup := List.Nodup.sublist List.filter_sublist (by decide)
  have nd2 : (lst (r_sk r h) 0 (r_mn r h).toNat).Nodup := lst_nd (fun i j a b => g4 h i j hh ⟨by omega, by omega, by omega⟩)
  have m6 : ∀ x : Int, x ∈ ([3, 4, 5, 0, 1, 2] : List Int) ↔ 0 ≤ x ∧ x < 6 := fun x => by
    simp
    omega
  have a1 := sub_len _ (lst (r_sk r h) 0 (r_mn r h).toNat) nd1 (fun x hx => by
    have hx2 := List.mem_filter.mp hx
    have hr := (m6 x).mp hx2.1
    have p := (hP x hr).mp hx2.2
    obtain ⟨-, -, i, i1, i2, i3⟩ := g6 x hr p.1
    rw [p.2] at i2 i3
    exact lst_mem.mpr ⟨i.toNat, by omega, by rw [Int.zero_add, show ((i.toNat : Nat) : Int) = i by omega]; exact i3⟩)
  have a2 := sub_len _ (([3, 4, 5, 0, 1, 2] : List Int).filter P) nd2 (fun x hx => by
    obtain ⟨i, hi, he⟩ := lst_mem.mp hx
    rw [Int.zero_add] at he
    have q := g3 h i hh ⟨by omega, by omega⟩
    have q2 := hv.1.2.2 h i hh ⟨by omega, by omega⟩
    rw [he] at q q2
    exact List.mem_filter.mpr ⟨(m6 x).mpr (by omega), (hP x (by omega)).mpr q⟩)
  rw [lst_len] at a1 a2
  omega
/-- rows that stand as a run does: their ranges -/
theorem ru_tr {I : Nat → Int} {F : Nat → Int → Int} {r : rn} {Y : Nat → Int → Int} {T : Int → Int → Int} (hI : I 1 ≤ 3) (hv : rn_iv I F r) (ho : ru_ok r Y T) : (∀ t : Int, 0 ≤ t ∧ t < 6 → tr_ok Y t) ∧ (∀ t : Int, 0 ≤ t ∧ t < 3 → hr_ok Y t) ∧ (∀ t : Int, 0 ≤ t ∧ t < 6 → Y 3 t = 1 → Y 4 t < 3 ∧ Y 11 t < 6) ∧ dst Y := by
  have g6 := hv.2.2.2.2.2.2.1
  refine ⟨fun t ht => ?_, fun t ht => ?_, fun t ht h1 => ?_, fun t u ht hu h1 h2 h3 h4 => ?_⟩
  · obtain ⟨a1, a2, a3, a4, a5, a6, a7, a8⟩ := ho.1 t ht
    have e := hv.1.1 t ht
    unfold tr_ok
    rw [a1, a2, a3, a4, a5, a6]
    have hw : 0 ≤ cw (r_st r t) (r_in r t) ∧ cw (r_st r t) (r_in r t) < 4 := by
      unfold cw
      by_cases c : r_st r t = 1
      · rw [if_pos c]
        have := g6 t ht c
        omega
      · rw [if_neg c]
        decide
    have hl : 0 ≤ Y 11 t ∧ Y 11 t < 8 := by
      by_cases c : r_st r t = 1
      · have x := a7 c
        have y := g6 t ht c
        have z := hv.1.2.1 (r_in r t) (by omega)
        omega
      · rw [a8 c]
        decide
    have hp : 0 ≤ cp (r_ls r t) (r_at r t) ∧ cp (r_ls r t) (r_at r t) < 8 := by
      unfold cp
      split <;> omega
    exact ⟨by omega, hw, hl, ci_01, hp, by omega, by omega⟩
  · obtain ⟨a1, a2, a3, a4⟩ := ho.2.1 t ht
    have e := hv.1.2.1 t ht
    unfold hr_ok
    rw [a2, a3, a4]
    omega
  · obtain ⟨a1, a2, a3, a4, a5, a6, a7, a8⟩ := ho.1 t ht
    rw [a1] at h1
    have x := a7 h1
    have y := g6 t ht h1
    have z := hv.1.2.1 (r_in r t) (by omega)
    rw [a2, show cw (r_st r t) (r_in r t) = r_in r t from if_pos h1]
    omega
  · have at1 := ho.1 t ht
    have au := ho.1 u hu
    rw [at1.1] at h1
    rw [au.1] at h2
    have x := at1.2.2.2.2.2.2.1 h1
    have y := au.2.2.2.2.2.2.1 h2
    rw [at1.2.1, au.2.1, show cw (r_st r t) (r_in r t) = r_in r t from if_pos h1, show cw (r_st r u) (r_in r u) = r_in r u from if_pos h2] at h3
    have z := x.2.2
    rw [h3, h4, y.2.2] at z
    exact z.symm
theorem ru_uk {I : Nat → Int} {F : Nat → Int → Int} {r : rn} {Y X : Nat → Int → Int} {T S : Int → Int → Int} (hI : I 1 ≤ 3) (hv : rn_iv I F r) (ho : ru_ok r Y T) (hu : uk_ok Y X S) : ru_ok r X S := by
  have g3 := hv.2.2.2.1
  have g4 := hv.2.2.2.2.1
  have g6 := hv.2.2.2.2.2.2.1
  obtain ⟨u1, u2, u3, u4⟩ := hu
  refine ⟨fun t ht => ?_, fun h hh => ?_, fun h i hh hi => ?_⟩
  · obtain ⟨a1, a2, a3, a4, a5, a6, a7, a8⟩ := ho.1 t ht
    have b := u1 t ht
    rw [b.1, b.2.1, b.2.2.1, b.2.2.2.1, b.2.2.2.2.1, b.2.2.2.2.2.1, b.2.2.2.2.2.2]
    refine ⟨a1, a2, a3, a4, a5, a6, fun c => ⟨(a7 c).1, (a7 c).2.1, ?_⟩, a8⟩
    have z := u4 t ht (a1.trans c)
    rw [a2, show cw (r_st r t) (r_in r t) = r_in r t from if_pos c] at z
    exact z
  · obtain ⟨a1, a2, a3, a4⟩ := ho.2.1 h hh
    have b := u2 h hh
    refine ⟨?_, b.2.2.trans a2, b.1.trans a3, b.2.1.trans a4⟩
    rw [u3 h hh]
    refine mn_cnt hv hh (fun t ht => ?_)
    have at1 := ho.1 t ht
    rw [decide_eq_true_eq, at1.1, at1.2.1]
    constructor
    · rintro ⟨z1, z2⟩
      rw [show cw (r_st r t) (r_in r t) = r_in r t from if_pos z1] at z2
      exact ⟨z1, z2⟩
    · rintro ⟨z1, z2⟩
      rw [show cw (r_st r t) (r_in r t) = r_in r t from if_pos z1]
      exact ⟨z1, z2⟩
  · have e1 := hv.1.2.1 h hh
    have q := g3 h i hh hi
    have q2 := hv.1.2.2 h i hh ⟨by omega, by omega⟩
    have ht : 0 ≤ r_sk r h i ∧ r_sk r h i < 6 := by omega
    have at1 := ho.1 (r_sk r h i) ht
    have x := at1.2.2.2.2.2.2.1 q.1
    rw [q.2] at x
    have z := u4 (r_sk r h i) ht (at1.1.trans q.1)
    rw [at1.2.1, show cw (r_st r (r_sk r h i)) (r_in r (r_sk r h i)) = r_in r (r_sk r h i) from if_pos q.1, q.2] at z
    have y := ho.2.2 h (Y 11 (r_sk r h i)) hh ⟨x.1, x.2.1⟩
    rw [x.2.2] at y
    have el : Y 11 (r_sk r h i) = i := by
      rcases Int.lt_trichotomy (Y 11 (r_sk r h i)) i with c | c | c
      · exact absurd y.symm (g4 h _ _ hh ⟨x.1, c, hi.2⟩)
      · exact c
      · exact absurd y (g4 h _ _ hh ⟨hi.1, c, x.2.1⟩)
    rw [el] at z
    exact z
/-- two runs that the same rows stand for have the same numbers -/
theorem ru_inj {I : Nat → Int} {F : Nat → Int → Int} {r r' : rn} {X : Nat → Int → Int} {S : Int → Int → Int} (hv : rn_iv I F r) (hv' : rn_iv I F r') (ho : ru_ok r X S) (ho' : ru_ok r' X S) : ∀ k : Int, 0 ≤ k ∧ k < 66 → vec r k = vec r' k := by
  have ty : ∀ t : Int, 0 ≤ t ∧ t < 6 → r_st r t = r_st r' t ∧ r_in r t = r_in r' t ∧ r_fl r t = r_fl r' t ∧ r_ls r t = r_ls r' t ∧ r_at r t = r_at r' t ∧ r_la r t = r_la r' t := fun t ht => by
    have a := ho.1 t ht
    have b := ho'.1 t ht
    have es : r_st r t = r_st r' t := a.1.symm.trans b.1
    have e5 : r_fl r t = r_fl r' t := a.2.2.1.symm.trans b.2.2.1
    have e14 : r_la r t = r_la r' t := a.2.2.2.2.2.1.symm.trans b.2.2.2.2.2.1
    have e12 := a.2.2.2.1.symm.trans b.2.2.2.1
    have e13 := a.2.2.2.2.1.symm.trans b.2.2.2.2.1
    have e4 := a.2.1.symm.trans b.2.1
    have rg := hv.1.1 t ht
    have rg' := hv'.1.1 t ht
    by_cases c : r_st r t = 1
    · have c' : r_st r' t = 1 := es ▸ c
      rw [show cw (r_st r t) (r_in r t) = r_in r t from if_pos c, show cw (r_st r' t) (r_in r' t) = r_in r' t from if_pos c'] at e4
      by_cases l : 0 ≤ r_ls r t
      · have l' : 0 ≤ r_ls r' t := by
          by_cases l' : 0 ≤ r_ls r' t
          · exact l'
          · rw [show ci (r_st r t) (r_ls r t) = 1 from if_pos ⟨c, l⟩, show ci (r_st r' t) (r_ls r' t) = 0 from if_neg (fun z => l' z.2)] at e12
            omega
        rw [show cp (r_ls r t) (r_at r t) = r_ls r t from if_pos l, show cp (r_ls r' t) (r_at r' t) = r_ls r' t from if_pos l'] at e13
        have z := hv.2.2.2.2.2.2.2.2.1 t ht l
        have z' := hv'.2.2.2.2.2.2.2.2.1 t ht l'
        exact ⟨es, e4, e5, e13, by omega, e14⟩
      · have l' : ¬ 0 ≤ r_ls r' t := fun l' => by
          rw [show ci (r_st r t) (r_ls r t) = 0 from if_neg (fun z => l z.2), show ci (r_st r' t) (r_ls r' t) = 1 from if_pos ⟨c', l'⟩] at e12
          omega
        rw [show cp (r_ls r t) (r_at r t) = r_at r t from if_neg l, show cp (r_ls r' t) (r_at r' t) = r_at r' t from if_neg l'] at e13
        exact ⟨es, e4, e5, by omega, e13, e14⟩
    · have c' : r_st r' t ≠ 1 := es ▸ c
      have z := hv.2.2.2.2.2.2.2.1 t ht c
      have z' := hv'.2.2.2.2.2.2.2.1 t ht c'
      exact ⟨es, by omega, e5, by omega, by omega, e14⟩
  have th : ∀ h : Int, 0 ≤ h ∧ h < 3 → r_en r h = r_en r' h ∧ r_ha r h = r_ha r' h ∧ r_hl r h = r_hl r' h ∧ r_mn r h = r_mn r' h := fun h hh => by
    have a := ho.2.1 h hh
    have b := ho'.2.1 h hh
    exact ⟨a.2.1.symm.trans b.2.1, a.2.2.1.symm.trans b.2.2.1, a.2.2.2.symm.trans b.2.2.2, a.1.symm.trans b.1⟩
  have sk : ∀ h i : Int, 0 ≤ h ∧ h < 3 → 0 ≤ i ∧ i < 6 → r_sk r h i = r_sk r' h i := fun h i hh hi => by
    have m := (th h hh).2.2.2
    by_cases c : i < r_mn r h
    · exact (ho.2.2 h i hh ⟨hi.1, c⟩).symm.trans (ho'.2.2 h i hh ⟨hi.1, by omega⟩)
    · exact (hv.2.2.2.2.2.1 h i hh ⟨by omega, hi.2⟩).trans (hv'.2.2.2.2.2.1 h i hh ⟨by omega, hi.2⟩).symm
  intro k hk
  unfold vec
  by_cases c0 : k < 6
  · rw [if_pos c0, if_pos c0]
    exact (ty k ⟨hk.1, c0⟩).1
  rw [if_neg c0, if_neg c0]
  by_cases c1 : k < 12
  · rw [if_pos c1, if_pos c1]
    exact (ty (k - 6) ⟨by omega, by omega⟩).2.1
  rw [if_neg c1, if_neg c1]
  by_cases c2 : k < 18
  · rw [if_pos c2, if_pos c2]
    exact (ty (k - 12) ⟨by omega, by omega⟩).2.2.1
  rw [if_neg c2, if_neg c2]
  by_cases c3 : k < 24
  · rw [if_pos c3, if_pos c3]
    exact (ty (k - 18) ⟨by omega, by omega⟩).2.2.2.1
  rw [if_neg c3, if_neg c3]
  by_cases c4 : k < 30
  · rw [if_pos c4, if_pos c4]
    exact (ty (k - 24) ⟨by omega, by omega⟩).2.2.2.2.1
  rw [if_neg c4, if_neg c4]
  by_cases c5 : k < 36
  · rw [if_pos c5, if_pos c5]
    exact (ty (k - 30) ⟨by omega, by omega⟩).2.2.2.2.2
  rw [if_neg c5, if_neg c5]
  by_cases c6 : k < 39
  · rw [if_pos c6, if_pos c6]
    exact (th (k - 36) ⟨by omega, by omega⟩).1
  rw [if_neg c6, if_neg c6]
  by_cases c7 : k < 42
  · rw [if_pos c7, if_pos c7]
    exact (th (k - 39) ⟨by omega, by omega⟩).2.1
  rw [if_neg c7, if_neg c7]
  by_cases c8 : k < 45
  · rw [if_pos c8, if_pos c8]
    exact (th (k - 42) ⟨by omega, by omega⟩).2.2.1
  rw [if_neg c8, if_neg c8]
  by_cases c9 : k < 48
  · rw [if_pos c9, if_pos c9]
    exact (th (k - 45) ⟨by omega, by omega⟩).2.2.2
  rw [if_neg c9, if_neg c9]
  exact sk ((k - 48) / 6) ((k - 48) % 6) ⟨by omega, by omega⟩ ⟨by omega, by omega⟩
