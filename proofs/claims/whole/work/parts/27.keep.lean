/-- more things than places -/
theorem ph : ∀ (m n : Nat) (f : Nat → Nat), (∀ i, i < n → f i < m) → (∀ i j, i < j → j < n → f i ≠ f j) → n ≤ m := by
  intro m
  induction m with
  | zero =>
    intro n f h1 h2
    rcases Nat.eq_zero_or_pos n with h | h
    · omega
    · have := h1 0 h
      omega
  | succ m ih =>
    intro n f h1 h2
    cases n with
    | zero => omega
    | succ k =>
      have h3 := ih k (fun i => if f i = m then f k else f i) (fun i hi => by
        have e1 := h1 i (by omega)
        have e2 := h1 k (by omega)
        have e3 := h2 i k hi (by omega)
        split <;> omega) (fun i j hij hj => by
        have e1 := h2 i j hij (by omega)
        have e2 := h2 i k (by omega) (by omega)
        have e3 := h2 j k hj (by omega)
        split <;> split <;> omega)
      omega
theorem rn_room {I : Nat → Int} {F : Nat → Int → Int} {r : rn} (hv : rn_iv I F r) {h t : Int} (hh : 0 ≤ h ∧ h < 3) (ht : 0 ≤ t ∧ t < 6) (hn : r_st r t ≠ 1) : r_mn r h < 6 := by
  obtain ⟨g0, -, -, g3, g4, -⟩ := hv
  have e0 := g0.2.1 h hh
  have e := ph 6 ((r_mn r h).toNat + 1) (fun i => if i < (r_mn r h).toNat then (r_sk r h i).toNat else t.toNat) (fun i hi => by
    split
    · have := g0.2.2 h i hh (by omega)
      omega
    · omega) (fun i j hij hj => by
    rw [if_pos (by omega)]
    have e1 := g0.2.2 h i hh (by omega)
    have e2 := g3 h i hh (by omega)
    split
    · have e3 := g4 h i j hh (by omega)
      have e4 := g0.2.2 h j hh (by omega)
      omega
    · intro q
      have e5 : r_sk r h i = t := by omega
      rw [e5] at e2
      exact hn e2.1)
  omega
theorem iv_begin {I : Nat → Int} {F : Nat → Int → Int} {r : rn} (hv : rn_iv I F r) (hI : I 0 ≤ 6 ∧ I 1 ≤ 3) {th t : Int} (hth : 0 ≤ th ∧ th < I 1) (ht : 0 ≤ t ∧ t < I 0) (hn : r_st r t = 0) (hen : r_en r th = 0) (hF : 0 ≤ F 6 t)
    (hw : (r_mn r th = 0 → r_ha r th < F 8 (6 + th)) ∧ (0 < r_mn r th → 0 ≤ r_ls r (r_sk r th (r_mn r th - 1)) ∨ r_at r (r_sk r th (r_mn r th - 1)) < F 8 (r_sk r th (r_mn r th - 1)))) : rn_iv I F (sq_begin r th t) := by
  have hroom := rn_room hv (h := th) (t := t) (by omega) (by omega) (by omega)
  obtain ⟨st, inn, fl, ls, att, la, en, ha, hl, mn, sk⟩ := r
  obtain ⟨⟨ga, gb, gc⟩, g1, g2, g3, g4, g5, g6, g7, g8, g9, g10, g11, g12, g13, g14⟩ := hv
  unfold sq_begin u_mn u_sk u_in u_st
  dsimp only [r_st, r_in, r_fl, r_ls, r_at, r_la, r_en, r_ha, r_hl, r_mn, r_sk] at *
  have b1 := gb th (by omega)
  have b2 := g7 t (by omega) (by omega)
  refine ⟨⟨fun x hx => ?_, fun x hx => ?_, fun x y hx hy => ?_⟩, g1, g2, fun x y hx hy => ?_, fun x y z hx hy => ?_, fun x y hx hy => ?_, fun x hx hs => ?_, fun x hx hs => ?_, g8, fun x y hx hy => ?_, fun x hx hm => ?_, fun x hx he => ?_, fun x hx => ?_, fun x hx => ?_, g14⟩
  · have e := ga x hx
    dsimp only [r_st, r_in, r_fl, r_ls, r_at, r_la, r_en, r_ha, r_hl, r_mn, r_sk, vI]
    split <;> omega
  · have e := gb x hx
    dsimp only [r_st, r_in, r_fl, r_ls, r_at, r_la, r_en, r_ha, r_hl, r_mn, r_sk, vI]
    split <;> omega
  · have e := gc x y hx hy
    dsimp only [r_st, r_in, r_fl, r_ls, r_at, r_la, r_en, r_ha, r_hl, r_mn, r_sk, vI]
    split <;> omega
  · dsimp only [r_st, r_in, r_fl, r_ls, r_at, r_la, r_en, r_ha, r_hl, r_mn, r_sk, vI] at hy ⊢
    have hxm : x = th → mn x = mn th := fun q => by rw [q]
    by_cases c : x = th ∧ y = mn th
    · rw [if_pos c, if_pos rfl, if_pos rfl]
      exact ⟨rfl, c.1.symm⟩
    · rw [if_neg c]
      have e := g3 x y hx (by split at hy <;> omega)
      have c2 : sk x y ≠ t := fun q => by rw [q, hn] at e; exact absurd e.1 (by decide)
      rw [if_neg c2, if_neg c2]
      exact e
  · dsimp only [r_st, r_in, r_fl, r_ls, r_at, r_la, r_en, r_ha, r_hl, r_mn, r_sk, vI] at hy ⊢
    have hxm : x = th → mn x = mn th := fun q => by rw [q]
    by_cases c : x = th ∧ z = mn th
    · rw [if_pos c, if_neg (by omega)]
      have e := g3 x y hx (by rw [c.1]; omega)
      exact fun q => by rw [q, hn] at e; exact absurd e.1 (by decide)
    · rw [if_neg c, if_neg (by split at hy <;> omega)]
      exact g4 x y z hx (by split at hy <;> omega)
  · dsimp only [r_st, r_in, r_fl, r_ls, r_at, r_la, r_en, r_ha, r_hl, r_mn, r_sk, vI] at hy ⊢
    have hxm : x = th → mn x = mn th := fun q => by rw [q]
    rw [if_neg (by split at hy <;> omega)]
    exact g5 x y hx (by split at hy <;> omega)
  · dsimp only [r_st, r_in, r_fl, r_ls, r_at, r_la, r_en, r_ha, r_hl, r_mn, r_sk, vI] at hs ⊢
    by_cases c : x = t
    · rw [if_pos c]
      refine ⟨hth.1, hth.2, mn th, by omega, by rw [if_pos rfl]; omega, ?_⟩
      rw [if_pos ⟨rfl, rfl⟩]
      exact c.symm
    · rw [if_neg c] at hs ⊢
      obtain ⟨e1, e2, i, e3, e4, e5⟩ := g6 x hx hs
      refine ⟨e1, e2, i, e3, ?_, ?_⟩
      · split
        · rename_i q
          rw [q] at e4
          omega
        · exact e4
      · rw [if_neg (fun q => by rw [q.1] at e4; omega)]
        exact e5
  · dsimp only [r_st, r_in, r_fl, r_ls, r_at, r_la, r_en, r_ha, r_hl, r_mn, r_sk, vI] at hs ⊢
    by_cases c : x = t
    · rw [if_pos c] at hs
      exact absurd rfl hs
    · rw [if_neg c] at hs ⊢
      exact g7 x hx hs
  · dsimp only [r_st, r_in, r_fl, r_ls, r_at, r_la, r_en, r_ha, r_hl, r_mn, r_sk, vI] at hy ⊢
    rw [if_neg (by split at hy <;> omega)]
    have hxm : x = th → mn x = mn th := fun q => by rw [q]
    by_cases c : x = th ∧ y + 1 = mn th
    · have e := hw.2 (by omega)
      rw [show mn th - 1 = y by omega, ← c.1] at e
      exact e
    · exact g9 x y hx (by split at hy <;> omega)
  · dsimp only [r_st, r_in, r_fl, r_ls, r_at, r_la, r_en, r_ha, r_hl, r_mn, r_sk, vI] at hm
    by_cases c : x = th
    · rw [c]
      by_cases q : 0 < mn th
      · exact g10 th (by omega) q
      · exact hw.1 (by omega)
    · rw [if_neg c] at hm
      exact g10 x hx hm
  · have e := g11 x hx he
    dsimp only [r_st, r_in, r_fl, r_ls, r_at, r_la, r_en, r_ha, r_hl, r_mn, r_sk, vI]
    by_cases c : x = th
    · rw [c] at he
      exact absurd hen he
    · rw [if_neg c]
      exact e
  · have e := g12 x hx
    dsimp only [r_st, r_in, r_fl, r_ls, r_at, r_la, r_en, r_ha, r_hl, r_mn, r_sk, vI]
    rw [if_neg (by omega)]
    exact e
  · have e := g13 x hx
    dsimp only [r_st, r_in, r_fl, r_ls, r_at, r_la, r_en, r_ha, r_hl, r_mn, r_sk, vI]
    rw [if_neg (by omega)]
    exact e
