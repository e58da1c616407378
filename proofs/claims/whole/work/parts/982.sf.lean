/-! The reference's rows of a search don't touch the house. -/
def sf (F F' : Nat → Int → Int) : Prop := ∀ k : Nat, 1 ≤ k → k ≤ 17 → k ≠ 13 → F' k = F k
theorem sf.rf {F : Nat → Int → Int} : sf F F := fun _ _ _ _ => rfl
theorem sf.tr {F G H : Nat → Int → Int} (h : sf F G) (g : sf G H) : sf F H := fun k a b c => (g k a b c).trans (h k a b c)
theorem sf.up {F G : Nat → Int → Int} (h : sf F G) {k : Nat} {g : Int → Int} (hk : 18 ≤ k ∨ k = 13) : sf F (va_up G k g) := fun j a b c => (va_up_miss (by omega)).trans (h j a b c)
theorem sf.rg {I I' : Nat → Int} {F F' : Nat → Int → Int} (hs : sf F F') (h : md_rg I F) (h0 : I' 0 = I 0) (h1 : I' 1 = I 1) : md_rg I' F' := by
  unfold md_rg at *
  rw [h0, h1, hs 1 (by decide) (by decide) (by decide), hs 2 (by decide) (by decide) (by decide), hs 3 (by decide) (by decide) (by decide), hs 4 (by decide) (by decide) (by decide), hs 6 (by decide) (by decide) (by decide), hs 7 (by decide) (by decide) (by decide), hs 8 (by decide) (by decide) (by decide), hs 9 (by decide) (by decide) (by decide), hs 10 (by decide) (by decide) (by decide), hs 11 (by decide) (by decide) (by decide), hs 12 (by decide) (by decide) (by decide), hs 17 (by decide) (by decide) (by decide)]
  exact h
theorem sf.iv {I I' : Nat → Int} {F F' : Nat → Int → Int} {r : rn} (hs : sf F F') (h : rn_iv I F r) (h0 : I' 0 = I 0) (h1 : I' 1 = I 1) : rn_iv I' F' r := by
  unfold rn_iv at *
  rw [h0, h1, hs 5 (by decide) (by decide) (by decide), hs 6 (by decide) (by decide) (by decide), hs 8 (by decide) (by decide) (by decide)]
  exact h
theorem sf.wf {I I' : Nat → Int} {F F' : Nat → Int → Int} (hs : sf F F') (h : md_wf I F) (h0 : I' 0 = I 0) (h1 : I' 1 = I 1) : md_wf I' F' := by
  unfold md_wf at *
  rw [h0, h1, hs 5 (by decide) (by decide) (by decide), hs 6 (by decide) (by decide) (by decide), hs 7 (by decide) (by decide) (by decide), hs 8 (by decide) (by decide) (by decide), hs 9 (by decide) (by decide) (by decide), hs 10 (by decide) (by decide) (by decide), hs 17 (by decide) (by decide) (by decide)]
  exact h
theorem sf.ask {F F' : Nat → Int → Int} (hs : sf F F') (b k : Int) : sp_asked F' b k = sp_asked F b k := by
  unfold sp_asked
  rw [hs 1 (by decide) (by decide) (by decide), hs 9 (by decide) (by decide) (by decide), hs 10 (by decide) (by decide) (by decide), hs 17 (by decide) (by decide) (by decide)]
theorem sf.nxt {F F' : Nat → Int → Int} (hs : sf F F') (s : Int → Int) (h t : Int) : sp_nextIn F' s h t = sp_nextIn F s h t := by
  unfold sp_nextIn
  rw [hs 6 (by decide) (by decide) (by decide), hs 7 (by decide) (by decide) (by decide)]
theorem sf.com {F F' : Nat → Int → Int} (hs : sf F F') (s : Int → Int) (h : Int) : sp_comes F' s h = sp_comes F s h := by
  unfold sp_comes
  simp only [hs.ask, hs.nxt, hs 6 (by decide) (by decide) (by decide), hs 7 (by decide) (by decide) (by decide), hs 8 (by decide) (by decide) (by decide)]
theorem sf.wts {F F' : Nat → Int → Int} (hs : sf F F') (s : Int → Int) (h : Int) : sp_waits F' s h = sp_waits F s h := by
  unfold sp_waits
  rw [hs.com]
theorem sf.has {F F' : Nat → Int → Int} (hs : sf F F') (s : Int → Int) (h : Int) : sp_has F' s h = sp_has F s h := by
  unfold sp_has
  rw [hs.wts]
theorem sf.end {F F' : Nat → Int → Int} (hs : sf F F') (s : Int → Int) (h : Int) : sp_end F' s h = sp_end F s h := by
  unfold sp_end
  rw [hs.wts]
theorem sf.hv {F F' : Nat → Int → Int} (hs : sf F F') (r : rn) (h : Int) : hv1 F' r h = hv1 F r h := hs.has _ _
theorem sf.oq {I I' : Nat → Int} {F F' : Nat → Int → Int} (hs : sf F F') (h1 : I' 1 = I 1) (r : rn) : oc I' F' r = oc I F r := by
  funext j
  unfold oc
  rw [h1, hs.end]
theorem sf.pf {F F' : Nat → Int → Int} (hs : sf F F') (r : rn) (t th x b k q : Int) : sq_pf F' r t th x b k q = sq_pf F r t th x b k q := by
  unfold sq_pf
  simp only [hs 8 (by decide) (by decide) (by decide), hs 9 (by decide) (by decide) (by decide), hs 10 (by decide) (by decide) (by decide), hs 11 (by decide) (by decide) (by decide)]
theorem sf.act {F F' : Nat → Int → Int} (hs : sf F F') (r : rn) (t th b k : Int) : sq_acts F' r t th b k = sq_acts F r t th b k := by
  unfold sq_acts
  simp only [hs.ask, hs.pf, hs 9 (by decide) (by decide) (by decide), hs 10 (by decide) (by decide) (by decide), hs 12 (by decide) (by decide) (by decide)]
theorem sf.stp {F F' : Nat → Int → Int} (hs : sf F F') (r : rn) (th : Int) : sq_steps F' r th = sq_steps F r th := by
  unfold sq_steps sq_next
  simp only [hs.act, hs.nxt, hs 6 (by decide) (by decide) (by decide), hs 7 (by decide) (by decide) (by decide), hs 8 (by decide) (by decide) (by decide), hs 12 (by decide) (by decide) (by decide)]
