/-! The numbered cells in the machine's heap: cell 0 at b (the script), cell a at c0 + a. -/
def am_ad (b c0 a : Nat) : Nat := if a = 0 then b else c0 + a
def am_r (b c0 : Nat) (v : Value) : Value := match v with
  | .ref a => .ref (am_ad b c0 a)
  | v => v
def am_ra (b c0 : Nat) (x : vp_A) : vp_A := match x with
  | (n, .inr (.inr (.inr (.inr f)))) => (n, .inr (.inr (.inr (.inr (fun j => (f j).map (am_ad b c0))))))
  | x => x
def am_rl (b c0 : Nat) (lv : am_L) : am_L := lv.map (fun q => (q.1, am_r b c0 q.2))
theorem am_r_cat (b c0 : Nat) (v : Value) : (am_r b c0 v).category = v.category := by cases v <;> rfl
theorem am_lk_in {lv : am_L} {k : Nat} {v : Value} (h : am_lk lv k = some v) : (k, v) ∈ lv := by
  unfold am_lk at h
  cases hf : lv.find? (fun q => q.1 == k) with
  | none => rw [hf] at h; cases h
  | some q =>
    rw [hf] at h
    have h1 := List.find?_some hf
    have h2 := List.mem_of_find?_eq_some hf
    obtain ⟨q1, q2⟩ := q
    simp only [Option.map_some, Option.some.injEq] at h
    simp only [beq_iff_eq] at h1
    subst h; subst h1
    exact h2
theorem am_ld {b c0 nL k : Nat} {ls : Array Slot} {lv : am_L} {v : Value} (h : lv_has ls nL (am_rl b c0 lv)) (hk : am_lk lv k = some v) : ls[k]? = some (.val (am_r b c0 v)) :=
  h.2.2 (k, am_r b c0 v) (List.mem_map.mpr ⟨(k, v), am_lk_in hk, rfl⟩)
theorem am_ldp {b c0 k : Nat} {lv : am_L} {v : Value} (hk : am_lk lv k = some v) : ∃ i : Nat, (am_rl b c0 lv)[i]? = some (k, am_r b c0 v) :=
  List.getElem?_of_mem (List.mem_map.mpr ⟨(k, v), am_lk_in hk, rfl⟩)
theorem am_rl_s1 (b c0 : Nat) (lv : am_L) (k : Nat) (v : Value) : (k, am_r b c0 v) :: (am_rl b c0 lv).filter (fun q => !(q.1 == k) && !(q.1 + 1 == k && q.2.category == 2)) = am_rl b c0 (am_s1 lv k v) := by
  simp only [am_rl, am_s1, List.map_cons, List.filter_map, Function.comp_def, am_r_cat]
theorem am_rl_s2 (b c0 : Nat) (lv : am_L) (k : Nat) (v : Value) : (k, am_r b c0 v) :: (am_rl b c0 lv).filter (fun q => !(q.1 == k) && (!(q.1 == k + 1) && !(q.1 + 1 == k && q.2.category == 2))) = am_rl b c0 (am_s2 lv k v) := by
  simp only [am_rl, am_s2, List.map_cons, List.filter_map, Function.comp_def, am_r_cat]
theorem am_rl_args (b c0 : Nat) : ∀ (vs : List Value) (i : Nat), am_rl b c0 (lv_args i vs) = lv_args i (vs.map (am_r b c0))
  | [], _ => rfl
  | v :: vs, i => by
    simp only [lv_args, am_rl, List.map_cons, am_r_cat]
    exact congrArg _ (am_rl_args b c0 vs _)
theorem am_sl_len (b c0 : Nat) : ∀ vs : List Value, (lg_sl (vs.map (am_r b c0))).length = (lg_sl vs).length
  | [] => rfl
  | v :: vs => by
    have ih := am_sl_len b c0 vs
    simp only [lg_sl, List.map_cons, List.flatMap_cons, List.length_append, am_r_cat] at ih ⊢
    rw [ih]
    split <;> rfl
theorem am_cats (b c0 : Nat) (vs : List Value) : ((vs.map (am_r b c0)).map fun v => v.category).sum = (vs.map fun v => v.category).sum := by
  rw [List.map_map]
  congr 1
  exact List.map_congr_left (fun v _ => am_r_cat b c0 v)
def am_at (D : va_G) (cl : List vw_C) (tys : List (ClassId × FieldType)) (b c0 a : Nat) (E : am_E) (H : Heap) : Prop := match E with
  | .inl x => ∃ q : ClassId × FieldType, tys[x.1]? = some q ∧ H[c0 + a]? = some (vp_cell q.1 (am_ra b c0 x.2))
  | .inr o => va_at D cl (c0 + a, .inr (o.1, o.2.map (am_r b c0))) H
theorem am_at.kept {D : va_G} {cl : List vw_C} {tys : List (ClassId × FieldType)} {b c0 a : Nat} {E : am_E} {H H1 : Heap} (h : am_at D cl tys b c0 a E H) (hq : H1[c0 + a]? = H[c0 + a]?) : am_at D cl tys b c0 a E H1 := by
  cases E with
  | inl x =>
    obtain ⟨q, h1, h2⟩ := h
    exact ⟨q, h1, hq.trans h2⟩
  | inr o => exact va_at.kept (q := (c0 + a, .inr (o.1, o.2.map (am_r b c0)))) h hq
def am_R (D : va_G) (cl : List vw_C) (tys : List (ClassId × FieldType)) (b c0 L : Nat) (xs : Nat → Int32) (U : State) (h : am_H) (H : Heap) : Prop :=
  (H.size = c0 + h.2.1 ∧ 0 < h.2.1 ∧ b ≤ c0) ∧ (h.1 0 = .inl (0, L, .inl xs) ∧ va_X b L xs U H) ∧ va_K D cl tys U ∧ (∀ a, h.2.1 ≤ a → h.1 a = am_z) ∧ ∀ a, 0 < a → a < h.2.1 → am_at D cl tys b c0 a (h.1 a) H
theorem am_R.moved {D : va_G} {cl : List vw_C} {tys : List (ClassId × FieldType)} {b c0 L : Nat} {xs : Nat → Int32} {u U : State} {h : am_H} {H : Heap} (hvm : u.vm.Alike U.vm) (hR : am_R D cl tys b c0 L xs u h H) : am_R D cl tys b c0 L xs U h H := by
  obtain ⟨h1, ⟨h2, h3⟩, h4, h5⟩ := hR
  exact ⟨h1, ⟨h2, va_X.moved hvm h3⟩, va_K.moved hvm h4, h5⟩
theorem am_R.put {D : va_G} {cl : List vw_C} {tys : List (ClassId × FieldType)} {b c0 L : Nat} {xs : Nat → Int32} {U : State} {h : am_H} {H H1 : Heap} {a : Nat} {E : am_E} (hR : am_R D cl tys b c0 L xs U h H) (h0 : 0 < a) (ha : a < h.2.1) (hz : H1.size = H.size) (hq : ∀ q, q ≠ c0 + a → H1[q]? = H[q]?) (hE : am_at D cl tys b c0 a E H1) : am_R D cl tys b c0 L xs U (am_put h a E) H1 := by
  obtain ⟨⟨h1, h1a, h1b⟩, ⟨h2, h3⟩, h4, h5, h6⟩ := hR
  refine ⟨⟨hz.trans h1, h1a, h1b⟩, ⟨?_, va_X.kept h3 (hq b (by omega))⟩, h4, fun x hx => ?_, fun x hx0 hx => ?_⟩
  · show va_up h.1 a E 0 = _
    rw [va_up, if_neg (by omega)]
    exact h2
  · show va_up h.1 a E x = _
    have hx' : h.2.1 ≤ x := hx
    rw [va_up, if_neg (by omega)]
    exact h5 x hx'
  · show am_at D cl tys b c0 x (va_up h.1 a E x) H1
    by_cases hxa : x = a
    · subst hxa
      rw [va_up, if_pos rfl]
      exact hE
    · rw [va_up, if_neg hxa]
      exact (h6 x hx0 hx).kept (hq _ (by omega))
theorem am_R.mk {D : va_G} {cl : List vw_C} {tys : List (ClassId × FieldType)} {b c0 L : Nat} {xs : Nat → Int32} {U : State} {h : am_H} {H H1 : Heap} {E : am_E} {k : Nat} (hR : am_R D cl tys b c0 L xs U h H) (hz : H1.size = H.size + 1) (hq : ∀ q, q < H.size → H1[q]? = H[q]?) (hE : am_at D cl tys b c0 h.2.1 E H1) : am_R D cl tys b c0 L xs U (am_mk h E k) H1 := by
  obtain ⟨⟨h1, h1a, h1b⟩, ⟨h2, h3⟩, h4, h5, h6⟩ := hR
  refine ⟨⟨?_, Nat.succ_pos _, h1b⟩, ⟨?_, va_X.kept h3 (hq b (by omega))⟩, h4, fun x hx => ?_, fun x hx0 hx => ?_⟩
  · show H1.size = c0 + (h.2.1 + 1)
    omega
  · show va_up h.1 h.2.1 E 0 = _
    rw [va_up, if_neg (by omega)]
    exact h2
  · show va_up h.1 h.2.1 E x = _
    have hx' : h.2.1 + 1 ≤ x := hx
    rw [va_up, if_neg (by omega)]
    exact h5 x (by omega)
  · show am_at D cl tys b c0 x (va_up h.1 h.2.1 E x) H1
    have hx' : x < h.2.1 + 1 := hx
    by_cases hxa : x = h.2.1
    · subst hxa
      rw [va_up, if_pos rfl]
      exact hE
    · rw [va_up, if_neg hxa]
      exact (h6 x hx0 (by omega)).kept (hq _ (by omega))
theorem am_R.mk2 {D : va_G} {cl : List vw_C} {tys : List (ClassId × FieldType)} {b c0 L : Nat} {xs : Nat → Int32} {U : State} {h : am_H} {H H1 : Heap} {t u n k : Nat} {x : (Nat → Int32) ⊕ (Nat → Int64) ⊕ (Nat → UInt32) ⊕ (Nat → UInt64) ⊕ (Nat → Option Nat)} (hR : am_R D cl tys b c0 L xs U h H) (hz : H1.size = H.size + 1 + n) (hq : ∀ q, q < H.size → H1[q]? = H[q]?)
    (hE : am_at D cl tys b c0 h.2.1 (.inl (t, n, .inr (.inr (.inr (.inr (fun i => if i < n then some (h.2.1 + 1 + i) else none)))))) H1) (hF : ∀ i, i < n → am_at D cl tys b c0 (h.2.1 + 1 + i) (.inl (u, k, x)) H1) : am_R D cl tys b c0 L xs U (am_mk2 h t u n k x) H1 := by
  obtain ⟨⟨h1, h1a, h1b⟩, ⟨h2, h3⟩, h4, h5, h6⟩ := hR
  refine ⟨⟨?_, ?_, h1b⟩, ⟨?_, va_X.kept h3 (hq b (by omega))⟩, h4, fun y hy => ?_, fun y hy0 hy => ?_⟩
  · show H1.size = c0 + (h.2.1 + 1 + n)
    omega
  · show 0 < h.2.1 + 1 + n
    omega
  · simp only [am_mk2]
    rw [if_neg (by omega), if_neg (by omega)]
    exact h2
  · have hy' : h.2.1 + 1 + n ≤ y := hy
    simp only [am_mk2]
    rw [if_neg (by omega), if_neg (by omega)]
    exact h5 y (by omega)
  · have hy' : y < h.2.1 + 1 + n := hy
    simp only [am_mk2]
    by_cases e1 : y = h.2.1
    · rw [if_pos e1]
      subst e1
      exact hE
    · rw [if_neg e1]
      by_cases e2 : h.2.1 < y ∧ y ≤ h.2.1 + n
      · rw [if_pos e2]
        have e3 := hF (y - (h.2.1 + 1)) (by omega)
        rw [show h.2.1 + 1 + (y - (h.2.1 + 1)) = y by omega] at e3
        exact e3
      · rw [if_neg e2]
        exact (h6 y hy0 (by omega)).kept (hq _ (by omega))
/-- what stands at a place of a method's run: the cells, the locals, what was written, what was made since h0 -/
def am_B (D : va_G) (cl : List vw_C) (tys : List (ClassId × FieldType)) (b c0 L : Nat) (xs : Nat → Int32) (s : State) (h0 : am_H) (nL : Nat) (h : am_H) (lv : am_L) (H : Heap) (locs : List Loc) (ls : Array Slot) (cells slots : Nat) : Prop :=
  am_R D cl tys b c0 L xs s h H ∧ lv_has ls nL (am_rl b c0 lv) ∧ (∀ q, q ≤ c0 → H[q]? = s.heap[q]?) ∧ (∀ x ∈ locs, c0 < x.base) ∧ h.2.1 = h0.2.1 + cells ∧ h.2.2 = h0.2.2 + slots
abbrev am_K (p : Program) (l : Launch) (e : Env) (R : Room) (s : State) (m : MethodId) (args : Array Value) (below : List Frame) (meth : Method) (c : Code) (Q : State → Prop) (D : va_G) (cl : List vw_C) (tys : List (ClassId × FieldType)) (b c0 L : Nat) (xs : Nat → Int32) (h0 : am_H) (nL : Nat) (pcs : Nat → Nat) (x : am_C) : Prop :=
  ∀ (H : Heap) (locs : List Loc) (ls : Array Slot) (cells slots : Nat), am_B D cl tys b c0 L xs s h0 nL x.2.2.2 x.2.1 H locs ls cells slots → W p l e R s m args below meth c H locs cells slots Q (F0 m (pcs x.1) ls (x.2.2.1.map (am_r b c0)))
theorem am_B.put {D : va_G} {cl : List vw_C} {tys : List (ClassId × FieldType)} {b c0 L : Nat} {xs : Nat → Int32} {s : State} {h0 h : am_H} {nL : Nat} {lv : am_L} {H H1 : Heap} {locs : List Loc} {ls : Array Slot} {cells slots a k : Nat} {E : am_E} (hB : am_B D cl tys b c0 L xs s h0 nL h lv H locs ls cells slots) (ha0 : 0 < a) (ha : a < h.2.1) (hz : H1.size = H.size) (hq : ∀ q, q ≠ c0 + a → H1[q]? = H[q]?) (hE : am_at D cl tys b c0 a E H1) : am_B D cl tys b c0 L xs s h0 nL (am_put h a E) lv H1 (locs ++ [⟨c0 + a, k⟩]) ls cells slots := by
  obtain ⟨h1, h2, h3, h4, h5, h6⟩ := hB
  refine ⟨h1.put ha0 ha hz hq hE, h2, fun q hq' => (hq q (by omega)).trans (h3 q hq'), fun x hx => ?_, h5, h6⟩
  rcases List.mem_append.mp hx with hx | hx
  · exact h4 x hx
  · rw [List.mem_singleton.mp hx]
    show c0 < c0 + a
    omega
/-- a cell that is something lies there -/
theorem am_R.inl {D : va_G} {cl : List vw_C} {tys : List (ClassId × FieldType)} {b c0 L : Nat} {xs : Nat → Int32} {U : State} {h : am_H} {H : Heap} {a : Nat} {x : Nat × vp_A} (hR : am_R D cl tys b c0 L xs U h H) (ha : h.1 a = .inl x) (h0 : a ≠ 0) : (0 < a ∧ a < h.2.1) ∧ ∃ q : ClassId × FieldType, tys[x.1]? = some q ∧ H[c0 + a]? = some (vp_cell q.1 (am_ra b c0 x.2)) := by
  obtain ⟨-, -, -, h5, h6⟩ := hR
  have hlt : a < h.2.1 := by
    rcases Nat.lt_or_ge a h.2.1 with q | q
    · exact q
    · have := (h5 a q).symm.trans ha
      cases this
  have h7 := h6 a (by omega) hlt
  rw [ha] at h7
  exact ⟨⟨by omega, hlt⟩, h7⟩
theorem am_R.inr {D : va_G} {cl : List vw_C} {tys : List (ClassId × FieldType)} {b c0 L : Nat} {xs : Nat → Int32} {U : State} {h : am_H} {H : Heap} {a ci : Nat} {fs : List Value} (hR : am_R D cl tys b c0 L xs U h H) (ha : h.1 a = .inr (ci, fs)) (hc : ci ≠ 1000000) : (0 < a ∧ a < h.2.1) ∧ va_at D cl (c0 + a, .inr (ci, fs.map (am_r b c0))) H := by
  obtain ⟨-, ⟨h2, -⟩, -, h5, h6⟩ := hR
  have h0 : a ≠ 0 := by
    intro q
    subst q
    rw [h2] at ha
    cases ha
  have hlt : a < h.2.1 := by
    rcases Nat.lt_or_ge a h.2.1 with q | q
    · exact q
    · have h8 := (h5 a q).symm.trans ha
      simp only [am_z, Sum.inr.injEq, Prod.mk.injEq] at h8
      exact absurd h8.1.symm hc
  have h7 := h6 a (by omega) hlt
  rw [ha] at h7
  exact ⟨⟨by omega, hlt⟩, h7⟩
