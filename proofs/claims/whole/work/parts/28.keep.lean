theorem iv_go {I : Nat → Int} {F : Nat → Int → Int} {r : rn} (hv : rn_iv I F r) (hF : ∀ k : Int, 0 ≤ k ∧ k < 6 → 0 ≤ F 6 k) {th st' : Int} (hth : 0 ≤ th ∧ th < 3) (hm : 0 < r_mn r th) (hst : st' = 2 ∨ st' = 3) : rn_iv I F (sq_go r th (r_sk r th (r_mn r th - 1)) st') := by
  obtain ⟨st, inn, fl, ls, att, la, en, ha, hl, mn, sk⟩ := r
  obtain ⟨⟨ga, gb, gc⟩, g1, g2, g3, g4, g5, g6, g7, g8, g9, g10, g11, g12, g13, g14⟩ := hv
  unfold sq_go u_mn u_sk u_in u_st u_ls u_at u_la
  dsimp only [r_st, r_in, r_fl, r_ls, r_at, r_la, r_en, r_ha, r_hl, r_mn, r_sk] at *
  have b1 := gb th hth
  have b2 := gc th (mn th - 1) hth (by omega)
  have b3 := g3 th (mn th - 1) hth (by omega)
  have b4 : ∀ x y : Int, 0 ≤ x ∧ x < 3 → 0 ≤ y ∧ y < mn x → ¬ (x = th ∧ y = mn th - 1) → sk x y ≠ sk th (mn th - 1) := by
    intro x y hx hy hne q
    have e := g3 x y hx hy
    rw [q, b3.2] at e
    have hxt : th = x := e.2
    subst hxt
    exact g4 th y (mn th - 1) hth (by omega) q
  generalize ht : sk th (mn th - 1) = t at *
  have b5 := g1 t (by omega)
  have b6 := ga t (by omega)
  have b7 := hF t (by omega)
  refine ⟨⟨fun x hx => ?_, fun x hx => ?_, fun x y hx hy => ?_⟩, fun x hx => ?_, g2, fun x y hx hy => ?_, fun x y z hx hy => ?_, fun x y hx hy => ?_, fun x hx hs => ?_, fun x hx hs => ?_, fun x hx hs => ?_, fun x y hx hy => ?_, fun x hx hm2 => ?_, fun x hx he => ?_, fun x hx => ?_, fun x hx => ?_, g14⟩
  · have e := ga x hx
    dsimp only [r_st, r_in, r_fl, r_ls, r_at, r_la, r_en, r_ha, r_hl, r_mn, r_sk, vI]
    split <;> omega
  · have e := gb x hx
    dsimp only [r_st, r_in, r_fl, r_ls, r_at, r_la, r_en, r_ha, r_hl, r_mn, r_sk, vI]
    split <;> omega
  · have e := gc x y hx hy
    dsimp only [r_st, r_in, r_fl, r_ls, r_at, r_la, r_en, r_ha, r_hl, r_mn, r_sk, vI]
    split <;> omega
  · have e := g1 x hx
    dsimp only [r_st, r_in, r_fl, r_ls, r_at, r_la, r_en, r_ha, r_hl, r_mn, r_sk, vI]
    split
    · rename_i c
      rw [c]
      omega
    · exact e
  · dsimp only [r_st, r_in, r_fl, r_ls, r_at, r_la, r_en, r_ha, r_hl, r_mn, r_sk, vI] at hy ⊢
    have hxm : x = th → mn x = mn th := fun q => by rw [q]
    have c1 : ¬ (x = th ∧ y = mn th - 1) := by split at hy <;> omega
    have c2 := b4 x y hx (by split at hy <;> omega) c1
    rw [if_neg c1, if_neg c2, if_neg c2]
    exact g3 x y hx (by split at hy <;> omega)
  · dsimp only [r_st, r_in, r_fl, r_ls, r_at, r_la, r_en, r_ha, r_hl, r_mn, r_sk, vI] at hy ⊢
    have hxm : x = th → mn x = mn th := fun q => by rw [q]
    rw [if_neg (by split at hy <;> omega), if_neg (by split at hy <;> omega)]
    exact g4 x y z hx (by split at hy <;> omega)
  · dsimp only [r_st, r_in, r_fl, r_ls, r_at, r_la, r_en, r_ha, r_hl, r_mn, r_sk, vI] at hy ⊢
    have hxm : x = th → mn x = mn th := fun q => by rw [q]
    split
    · rfl
    · exact g5 x y hx (by split at hy <;> omega)
  · dsimp only [r_st, r_in, r_fl, r_ls, r_at, r_la, r_en, r_ha, r_hl, r_mn, r_sk, vI] at hs ⊢
    by_cases c : x = t
    · rw [if_pos c] at hs
      omega
    · rw [if_neg c] at hs ⊢
      obtain ⟨e1, e2, i, e3, e4, e5⟩ := g6 x hx hs
      have hne : ¬ (inn x = th ∧ i = mn th - 1) := fun q => by
        rw [q.1, q.2] at e5
        exact c (e5.symm.trans ht)
      refine ⟨e1, e2, i, e3, ?_, ?_⟩
      · split
        · rename_i q
          rw [q] at e4
          omega
        · exact e4
      · rw [if_neg hne]
        exact e5
  · dsimp only [r_st, r_in, r_fl, r_ls, r_at, r_la, r_en, r_ha, r_hl, r_mn, r_sk, vI] at hs ⊢
    by_cases c : x = t
    · rw [if_pos c, if_pos c, if_pos c, if_pos c]
      exact ⟨rfl, rfl, rfl, rfl⟩
    · rw [if_neg c] at hs
      rw [if_neg c, if_neg c, if_neg c, if_neg c]
      exact g7 x hx hs
  · dsimp only [r_st, r_in, r_fl, r_ls, r_at, r_la, r_en, r_ha, r_hl, r_mn, r_sk, vI] at hs ⊢
    by_cases c : x = t
    · rw [if_pos c, if_pos c, if_pos c, c]
      exact ⟨rfl, rfl, b7⟩
    · rw [if_neg c] at hs
      rw [if_neg c, if_neg c, if_neg c]
      exact g8 x hx hs
  · dsimp only [r_st, r_in, r_fl, r_ls, r_at, r_la, r_en, r_ha, r_hl, r_mn, r_sk, vI] at hy ⊢
    have hxm : x = th → mn x = mn th := fun q => by rw [q]
    have c1 : ¬ (x = th ∧ y = mn th - 1) := by split at hy <;> omega
    have c2 := b4 x y hx (by split at hy <;> omega) c1
    rw [if_neg c1, if_neg c2, if_neg c2]
    exact g9 x y hx (by split at hy <;> omega)
  · dsimp only [r_st, r_in, r_fl, r_ls, r_at, r_la, r_en, r_ha, r_hl, r_mn, r_sk, vI] at hm2
    have hxm : x = th → mn x = mn th := fun q => by rw [q]
    exact g10 x hx (by split at hm2 <;> omega)
  · have e := g11 x hx he
    dsimp only [r_st, r_in, r_fl, r_ls, r_at, r_la, r_en, r_ha, r_hl, r_mn, r_sk, vI]
    by_cases c : x = th
    · rw [c] at e
      omega
    · rw [if_neg c]
      exact e
  · have e := g12 x hx
    dsimp only [r_st, r_in, r_fl, r_ls, r_at, r_la, r_en, r_ha, r_hl, r_mn, r_sk, vI]
    by_cases c : x = th
    · rw [c] at e
      omega
    · rw [if_neg c]
      exact e
  · have e := g13 x hx
    dsimp only [r_st, r_in, r_fl, r_ls, r_at, r_la, r_en, r_ha, r_hl, r_mn, r_sk, vI]
    by_cases c : x = t
    · rw [c, b3.1] at e
      omega
    · rw [if_neg c]
      exact e
/-- a THREAD that stands in its BODY alone ends -/
theorem iv_end {I : Nat → Int} {F : Nat → Int → Int} {r : rn} (hv : rn_iv I F r) (hF : ∀ k : Int, 0 ≤ k ∧ k < 9 → 0 ≤ F 8 k) {th n : Int} (hth : 0 ≤ th ∧ th < I 1) (hI : I 1 ≤ 3) (hm : r_mn r th = 0) (hn : 0 ≤ n ∧ n ≤ 5) : rn_iv I F (sq_end r th n) := by
  obtain ⟨st, inn, fl, ls, att, la, en, ha, hl, mn, sk⟩ := r
  obtain ⟨⟨ga, gb, gc⟩, g1, g2, g3, g4, g5, g6, g7, g8, g9, g10, g11, g12, g13, g14⟩ := hv
  unfold sq_end u_hl u_ha u_en
  dsimp only [r_st, r_in, r_fl, r_ls, r_at, r_la, r_en, r_ha, r_hl, r_mn, r_sk] at *
  refine ⟨⟨ga, fun x hx => ?_, gc⟩, g1, fun x hx => ?_, g3, g4, g5, g6, g7, g8, g9, fun x hx hm2 => ?_, fun x hx he => ?_, fun x hx => ?_, g13, g14⟩
  · have e := gb x hx
    dsimp only [r_st, r_in, r_fl, r_ls, r_at, r_la, r_en, r_ha, r_hl, r_mn, r_sk, vI]
    split <;> omega
  · have e := g2 x hx
    dsimp only [r_st, r_in, r_fl, r_ls, r_at, r_la, r_en, r_ha, r_hl, r_mn, r_sk, vI]
    split
    · exact hF (6 + x) (by omega)
    · exact e
  · dsimp only [r_st, r_in, r_fl, r_ls, r_at, r_la, r_en, r_ha, r_hl, r_mn, r_sk, vI] at hm2 ⊢
    by_cases c : x = th
    · rw [c] at hm2
      omega
    · rw [if_neg c]
      exact g10 x hx hm2
  · dsimp only [r_st, r_in, r_fl, r_ls, r_at, r_la, r_en, r_ha, r_hl, r_mn, r_sk, vI] at he ⊢
    by_cases c : x = th
    · rw [if_pos c, if_pos c, if_pos c, c]
      exact ⟨hm, rfl, rfl, by omega⟩
    · rw [if_neg c] at he ⊢
      rw [if_neg c, if_neg c]
      exact g11 x hx he
  · have e := g12 x hx
    dsimp only [r_st, r_in, r_fl, r_ls, r_at, r_la, r_en, r_ha, r_hl, r_mn, r_sk, vI]
    rw [if_neg (by omega), if_neg (by omega), if_neg (by omega)]
    exact e
