/-- a BODY on top of its THREAD, its LIST behind it: how far it is -/
theorem iv_at {I : Nat → Int} {F : Nat → Int → Int} {r : rn} (hv : rn_iv I F r) {th v : Int} (hth : 0 ≤ th ∧ th < 3) (hm : 0 < r_mn r th) (hl : r_ls r (r_sk r th (r_mn r th - 1)) < 0) (hw : 0 ≤ v ∧ v ≤ 5 ∧ v ≤ F 8 (r_sk r th (r_mn r th - 1))) : rn_iv I F (u_at r (r_sk r th (r_mn r th - 1)) v) := by
  obtain ⟨st, inn, fl, ls, att, la, en, ha, hl, mn, sk⟩ := r
  obtain ⟨⟨ga, gb, gc⟩, g1, g2, g3, g4, g5, g6, g7, g8, g9, g10, g11, g12, g13, g14⟩ := hv
  unfold u_at
  dsimp only [r_st, r_in, r_fl, r_ls, r_at, r_la, r_en, r_ha, r_hl, r_mn, r_sk] at *
  have b1 := gb th hth
  have b2 := gc th (mn th - 1) hth (by omega)
  have b3 := g3 th (mn th - 1) hth (by omega)
  have b4 : ∀ x y : Int, 0 ≤ x ∧ x < 3 → 0 ≤ y ∧ y + 1 < mn x → sk x y ≠ sk th (mn th - 1) := by
    intro x y hx hy q
    have e := g3 x y hx (by omega)
    rw [q, b3.2] at e
    have hxt : th = x := e.2
    subst hxt
    exact g4 th y (mn th - 1) hth (by omega) q
  generalize ht : sk th (mn th - 1) = t at *
  refine ⟨⟨fun x hx => ?_, gb, gc⟩, fun x hx => ?_, g2, g3, g4, g5, g6, fun x hx hs => ?_, fun x hx hs => ?_, fun x y hx hy => ?_, g10, g11, g12, g13, g14⟩
  · have e := ga x hx
    dsimp only [r_st, r_in, r_fl, r_ls, r_at, r_la, r_en, r_ha, r_hl, r_mn, r_sk, vI]
    split <;> omega
  · have e := g1 x hx
    dsimp only [r_st, r_in, r_fl, r_ls, r_at, r_la, r_en, r_ha, r_hl, r_mn, r_sk, vI]
    split
    · rename_i c
      rw [c]
      omega
    · exact e
  · have e := g7 x hx hs
    dsimp only [r_st, r_in, r_fl, r_ls, r_at, r_la, r_en, r_ha, r_hl, r_mn, r_sk, vI] at hs ⊢
    rw [if_neg (fun c => hs (by rw [c]; exact b3.1))]
    exact e
  · have e := g8 x hx hs
    dsimp only [r_st, r_in, r_fl, r_ls, r_at, r_la, r_en, r_ha, r_hl, r_mn, r_sk, vI] at hs ⊢
    rw [if_neg (fun c => by rw [c] at hs; omega)]
    exact e
  · have e := g9 x y hx hy
    dsimp only [r_st, r_in, r_fl, r_ls, r_at, r_la, r_en, r_ha, r_hl, r_mn, r_sk, vI]
    rw [if_neg (b4 x y hx hy)]
    exact e
/-- LATEST of a BODY on top, its LIST behind it -/
theorem iv_la {I : Nat → Int} {F : Nat → Int → Int} {r : rn} (hv : rn_iv I F r) {t v : Int} (hs1 : r_st r t = 1) (hl : r_ls r t < 0) (hw : -9 ≤ v ∧ v ≤ 9) : rn_iv I F (u_la r t v) := by
  obtain ⟨st, inn, fl, ls, att, la, en, ha, hl, mn, sk⟩ := r
  obtain ⟨⟨ga, gb, gc⟩, g1, g2, g3, g4, g5, g6, g7, g8, g9, g10, g11, g12, g13, g14⟩ := hv
  unfold u_la
  dsimp only [r_st, r_in, r_fl, r_ls, r_at, r_la, r_en, r_ha, r_hl, r_mn, r_sk] at *
  refine ⟨⟨fun x hx => ?_, gb, gc⟩, g1, g2, g3, g4, g5, g6, fun x hx hs => ?_, fun x hx hs => ?_, g9, g10, g11, g12, g13, g14⟩
  · have e := ga x hx
    dsimp only [r_st, r_in, r_fl, r_ls, r_at, r_la, r_en, r_ha, r_hl, r_mn, r_sk, vI]
    split <;> omega
  · have e := g7 x hx hs
    dsimp only [r_st, r_in, r_fl, r_ls, r_at, r_la, r_en, r_ha, r_hl, r_mn, r_sk, vI] at hs ⊢
    rw [if_neg (fun c => hs (by rw [c]; exact hs1))]
    exact e
  · have e := g8 x hx hs
    dsimp only [r_st, r_in, r_fl, r_ls, r_at, r_la, r_en, r_ha, r_hl, r_mn, r_sk, vI] at hs ⊢
    rw [if_neg (fun c => by rw [c] at hs; omega)]
    exact e
/-- how far a LIST on top is, or behind it -/
theorem iv_ls {I : Nat → Int} {F : Nat → Int → Int} {r : rn} (hv : rn_iv I F r) {th v : Int} (hth : 0 ≤ th ∧ th < 3) (hm : 0 < r_mn r th) (hl : 0 ≤ r_ls r (r_sk r th (r_mn r th - 1))) (hw : -1 ≤ v ∧ v ≤ 6 ∧ v ≤ F 6 (r_sk r th (r_mn r th - 1))) : rn_iv I F (u_ls r (r_sk r th (r_mn r th - 1)) v) := by
  obtain ⟨st, inn, fl, ls, att, la, en, ha, hl, mn, sk⟩ := r
  obtain ⟨⟨ga, gb, gc⟩, g1, g2, g3, g4, g5, g6, g7, g8, g9, g10, g11, g12, g13, g14⟩ := hv
  unfold u_ls
  dsimp only [r_st, r_in, r_fl, r_ls, r_at, r_la, r_en, r_ha, r_hl, r_mn, r_sk] at *
  have b1 := gb th hth
  have b2 := gc th (mn th - 1) hth (by omega)
  have b3 := g3 th (mn th - 1) hth (by omega)
  have b4 : ∀ x y : Int, 0 ≤ x ∧ x < 3 → 0 ≤ y ∧ y + 1 < mn x → sk x y ≠ sk th (mn th - 1) := by
    intro x y hx hy q
    have e := g3 x y hx (by omega)
    rw [q, b3.2] at e
    have hxt : th = x := e.2
    subst hxt
    exact g4 th y (mn th - 1) hth (by omega) q
  generalize ht : sk th (mn th - 1) = t at *
  have b5 := g8 t (by omega) (by omega)
  refine ⟨⟨fun x hx => ?_, gb, gc⟩, g1, g2, g3, g4, g5, g6, fun x hx hs => ?_, fun x hx hs => ?_, fun x y hx hy => ?_, g10, g11, g12, g13, g14⟩
  · have e := ga x hx
    dsimp only [r_st, r_in, r_fl, r_ls, r_at, r_la, r_en, r_ha, r_hl, r_mn, r_sk, vI]
    split <;> omega
  · have e := g7 x hx hs
    dsimp only [r_st, r_in, r_fl, r_ls, r_at, r_la, r_en, r_ha, r_hl, r_mn, r_sk, vI] at hs ⊢
    rw [if_neg (fun c => hs (by rw [c]; exact b3.1))]
    exact e
  · dsimp only [r_st, r_in, r_fl, r_ls, r_at, r_la, r_en, r_ha, r_hl, r_mn, r_sk, vI] at hs ⊢
    by_cases c : x = t
    · rw [if_pos c, c]
      omega
    · rw [if_neg c] at hs ⊢
      exact g8 x hx hs
  · have e := g9 x y hx hy
    dsimp only [r_st, r_in, r_fl, r_ls, r_at, r_la, r_en, r_ha, r_hl, r_mn, r_sk, vI]
    rw [if_neg (b4 x y hx hy)]
    exact e
/-- a FIELD is written -/
theorem iv_fl {I : Nat → Int} {F : Nat → Int → Int} {r : rn} (hv : rn_iv I F r) {t v : Int} (ht : t < I 0) (h5 : F 5 t = 1) (hw : -9 ≤ v ∧ v ≤ 9) : rn_iv I F (u_fl r t v) := by
  obtain ⟨st, inn, fl, ls, att, la, en, ha, hl, mn, sk⟩ := r
  obtain ⟨⟨ga, gb, gc⟩, g1, g2, g3, g4, g5, g6, g7, g8, g9, g10, g11, g12, g13, g14⟩ := hv
  unfold u_fl
  dsimp only [r_st, r_in, r_fl, r_ls, r_at, r_la, r_en, r_ha, r_hl, r_mn, r_sk] at *
  refine ⟨⟨fun x hx => ?_, gb, gc⟩, g1, g2, g3, g4, g5, g6, g7, g8, g9, g10, g11, g12, g13, fun x hx hs => ?_⟩
  · have e := ga x hx
    dsimp only [r_st, r_in, r_fl, r_ls, r_at, r_la, r_en, r_ha, r_hl, r_mn, r_sk, vI]
    split <;> omega
  · dsimp only [r_st, r_in, r_fl, r_ls, r_at, r_la, r_en, r_ha, r_hl, r_mn, r_sk, vI] at hs ⊢
    by_cases c : x = t
    · rw [c]
      exact ⟨ht, h5⟩
    · rw [if_neg c] at hs
      exact g14 x hx hs
/-- the BODY of a THREAD, alone: how far it is -/
theorem iv_ha {I : Nat → Int} {F : Nat → Int → Int} {r : rn} (hv : rn_iv I F r) {th v : Int} (hth : 0 ≤ th ∧ th < I 1) (hm : r_mn r th = 0) (hen : r_en r th = 0) (hw : 0 ≤ v ∧ v ≤ 5 ∧ v ≤ F 8 (6 + th)) : rn_iv I F (u_ha r th v) := by
  obtain ⟨st, inn, fl, ls, att, la, en, ha, hl, mn, sk⟩ := r
  obtain ⟨⟨ga, gb, gc⟩, g1, g2, g3, g4, g5, g6, g7, g8, g9, g10, g11, g12, g13, g14⟩ := hv
  unfold u_ha
  dsimp only [r_st, r_in, r_fl, r_ls, r_at, r_la, r_en, r_ha, r_hl, r_mn, r_sk] at *
  refine ⟨⟨ga, fun x hx => ?_, gc⟩, g1, fun x hx => ?_, g3, g4, g5, g6, g7, g8, g9, fun x hx hm2 => ?_, fun x hx he => ?_, fun x hx => ?_, g13, g14⟩
  · have e := gb x hx
    dsimp only [r_st, r_in, r_fl, r_ls, r_at, r_la, r_en, r_ha, r_hl, r_mn, r_sk, vI]
    split <;> omega
  · have e := g2 x hx
    dsimp only [r_st, r_in, r_fl, r_ls, r_at, r_la, r_en, r_ha, r_hl, r_mn, r_sk, vI]
    split
    · rename_i c
      rw [c]
      omega
    · exact e
  · have e := g10 x hx hm2
    dsimp only [r_st, r_in, r_fl, r_ls, r_at, r_la, r_en, r_ha, r_hl, r_mn, r_sk, vI] at hm2 ⊢
    rw [if_neg (fun c => by rw [c] at hm2; omega)]
    exact e
  · have e := g11 x hx he
    dsimp only [r_st, r_in, r_fl, r_ls, r_at, r_la, r_en, r_ha, r_hl, r_mn, r_sk, vI] at he ⊢
    rw [if_neg (fun c => by rw [c] at he; exact he hen)]
    exact e
  · have e := g12 x hx
    dsimp only [r_st, r_in, r_fl, r_ls, r_at, r_la, r_en, r_ha, r_hl, r_mn, r_sk, vI]
    rw [if_neg (by omega)]
    exact e
/-- LATEST of a THREAD that there is and that isn't ended -/
theorem iv_hl {I : Nat → Int} {F : Nat → Int → Int} {r : rn} (hv : rn_iv I F r) {th v : Int} (hth : 0 ≤ th ∧ th < I 1) (hen : r_en r th = 0) (hw : -9 ≤ v ∧ v ≤ 9) : rn_iv I F (u_hl r th v) := by
  obtain ⟨st, inn, fl, ls, att, la, en, ha, hl, mn, sk⟩ := r
  obtain ⟨⟨ga, gb, gc⟩, g1, g2, g3, g4, g5, g6, g7, g8, g9, g10, g11, g12, g13, g14⟩ := hv
  unfold u_hl
  dsimp only [r_st, r_in, r_fl, r_ls, r_at, r_la, r_en, r_ha, r_hl, r_mn, r_sk] at *
  refine ⟨⟨ga, fun x hx => ?_, gc⟩, g1, g2, g3, g4, g5, g6, g7, g8, g9, g10, fun x hx he => ?_, fun x hx => ?_, g13, g14⟩
  · have e := gb x hx
    dsimp only [r_st, r_in, r_fl, r_ls, r_at, r_la, r_en, r_ha, r_hl, r_mn, r_sk, vI]
    split <;> omega
  · have e := g11 x hx he
    dsimp only [r_st, r_in, r_fl, r_ls, r_at, r_la, r_en, r_ha, r_hl, r_mn, r_sk, vI] at he ⊢
    rw [if_neg (fun c => by rw [c] at he; exact he hen)]
    exact e
  · have e := g12 x hx
    dsimp only [r_st, r_in, r_fl, r_ls, r_at, r_la, r_en, r_ha, r_hl, r_mn, r_sk, vI]
    rw [if_neg (by omega)]
    exact e
/-! What a run may still do: a THREAD and a TYPE by what is ahead of it. -/
def s6 (f : Int → Int) : Int := f 0 + f 1 + f 2 + f 3 + f 4 + f 5
def s3 (f : Int → Int) : Int := f 0 + f 1 + f 2
theorem s6_at {f g : Int → Int} {t : Int} (ht : 0 ≤ t ∧ t < 6) (he : ∀ x : Int, 0 ≤ x ∧ x < 6 → x ≠ t → f x = g x) : s6 f - s6 g = f t - g t := by
  unfold s6
  have c : t = 0 ∨ t = 1 ∨ t = 2 ∨ t = 3 ∨ t = 4 ∨ t = 5 := by omega
  rcases c with rfl | rfl | rfl | rfl | rfl | rfl
  · have a1 := he 1 (by decide) (by decide); have a2 := he 2 (by decide) (by decide); have a3 := he 3 (by decide) (by decide); have a4 := he 4 (by decide) (by decide); have a5 := he 5 (by decide) (by decide); omega
  · have a1 := he 0 (by decide) (by decide); have a2 := he 2 (by decide) (by decide); have a3 := he 3 (by decide) (by decide); have a4 := he 4 (by decide) (by decide); have a5 := he 5 (by decide) (by decide); omega
  · have a1 := he 1 (by decide) (by decide); have a2 := he 0 (by decide) (by decide); have a3 := he 3 (by decide) (by decide); have a4 := he 4 (by decide) (by decide); have a5 := he 5 (by decide) (by decide); omega
  · have a1 := he 1 (by decide) (by decide); have a2 := he 2 (by decide) (by decide); have a3 := he 0 (by decide) (by decide); have a4 := he 4 (by decide) (by decide); have a5 := he 5 (by decide) (by decide); omega
  · have a1 := he 1 (by decide) (by decide); have a2 := he 2 (by decide) (by decide); have a3 := he 3 (by decide) (by decide); have a4 := he 0 (by decide) (by decide); have a5 := he 5 (by decide) (by decide); omega
  · have a1 := he 1 (by decide) (by decide); have a2 := he 2 (by decide) (by decide); have a3 := he 3 (by decide) (by decide); have a4 := he 4 (by decide) (by decide); have a5 := he 0 (by decide) (by decide); omega
theorem s3_at {f g : Int → Int} {t : Int} (ht : 0 ≤ t ∧ t < 3) (he : ∀ x : Int, 0 ≤ x ∧ x < 3 → x ≠ t → f x = g x) : s3 f - s3 g = f t - g t := by
  unfold s3
  have c : t = 0 ∨ t = 1 ∨ t = 2 := by omega
  rcases c with rfl | rfl | rfl
  · have a1 := he 1 (by decide) (by decide); have a2 := he 2 (by decide) (by decide); omega
  · have a1 := he 0 (by decide) (by decide); have a2 := he 2 (by decide) (by decide); omega
  · have a1 := he 1 (by decide) (by decide); have a2 := he 0 (by decide) (by decide); omega
/-- with a = 7: rows of the log that may still come; with a = 8: STEPS -/
def mu_f (a s l k : Int) : Int := if s = 0 then a else if s = 1 then (if 0 ≤ l then a - 1 else 6 - k) else 0
def mu_g (e k : Int) : Int := if e = 0 then 6 - k else 0
def mu_t (a : Int) (r : rn) (t : Int) : Int := mu_f a (r_st r t) (r_ls r t) (r_at r t)
def mu_h (r : rn) (h : Int) : Int := mu_g (r_en r h) (r_ha r h)
def mu (a : Int) (r : rn) : Int := s6 (mu_t a r) + s3 (mu_h r)
theorem mu_0 {a : Int} {r : rn} (hr : rn_rg r) (ha : 1 ≤ a) : 0 ≤ mu a r ∧ mu a r ≤ 6 * (if a < 6 then 6 else a) + 18 := by
  have c : ∀ t : Int, 0 ≤ t ∧ t < 6 → 0 ≤ mu_t a r t ∧ mu_t a r t ≤ (if a < 6 then 6 else a) := by
    intro t ht
    have e := hr.1 t ht
    unfold mu_t mu_f
    split
    · split <;> omega
    · split
      · split <;> split <;> omega
      · split <;> omega
  have c2 : ∀ h : Int, 0 ≤ h ∧ h < 3 → 0 ≤ mu_h r h ∧ mu_h r h ≤ 6 := by
    intro t ht
    have e := hr.2.1 t ht
    unfold mu_h mu_g
    split <;> omega
  have a0 := c 0 (by decide); have a1 := c 1 (by decide); have a2 := c 2 (by decide); have a3 := c 3 (by decide); have a4 := c 4 (by decide); have a5 := c 5 (by decide)
  have b0 := c2 0 (by decide); have b1 := c2 1 (by decide); have b2 := c2 2 (by decide)
  unfold mu s6 s3
  generalize (if a < 6 then (6 : Int) else a) = q at *
  omega
