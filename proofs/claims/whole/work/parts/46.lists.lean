/-! Rows as lists. -/
def lst (f : Int → Int) (b : Int) : Nat → List Int
  | 0 => []
  | n + 1 => lst f b n ++ [f (b + n)]
theorem lst_len {f : Int → Int} {b : Int} : ∀ n : Nat, (lst f b n).length = n := by
  intro n
  induction n with
  | zero => rfl
  | succ n ih =>
    show (lst f b n ++ [f (b + n)]).length = n + 1
    rw [List.length_append, ih]
    rfl
theorem lst_get {f : Int → Int} {b : Int} : ∀ (n i : Nat), i < n → (lst f b n)[i]? = some (f (b + i)) := by
  intro n
  induction n with
  | zero => intro i h; omega
  | succ n ih =>
    intro i h
    show (lst f b n ++ [f (b + n)])[i]? = _
    by_cases c : i < n
    · rw [List.getElem?_append_left (by rw [lst_len]; exact c)]
      exact ih i c
    · have e : i = n := by omega
      subst e
      rw [List.getElem?_append_right (by rw [lst_len]; exact Nat.le_refl _), lst_len, Nat.sub_self]
      rfl
theorem lst_mem {f : Int → Int} {b x : Int} {n : Nat} : x ∈ lst f b n ↔ ∃ i : Nat, i < n ∧ f (b + i) = x := by
  induction n with
  | zero =>
    refine ⟨fun h => absurd h List.not_mem_nil, fun h => ?_⟩
    obtain ⟨i, h, -⟩ := h
    omega
  | succ n ih =>
    show x ∈ lst f b n ++ [f (b + n)] ↔ _
    rw [List.mem_append, ih, List.mem_singleton]
    constructor
    · rintro (⟨i, h1, h2⟩ | h)
      · exact ⟨i, by omega, h2⟩
      · exact ⟨n, by omega, h.symm⟩
    · rintro ⟨i, h1, h2⟩
      by_cases c : i < n
      · exact Or.inl ⟨i, c, h2⟩
      · have e : i = n := by omega
        subst e
        exact Or.inr h2.symm
theorem lst_congr {f g : Int → Int} {b c : Int} : ∀ n : Nat, (∀ i : Nat, i < n → f (b + i) = g (c + i)) → lst f b n = lst g c n := by
  intro n
  induction n with
  | zero => intro _; rfl
  | succ n ih =>
    intro h
    show lst f b n ++ [f (b + n)] = lst g c n ++ [g (c + n)]
    rw [ih (fun i hi => h i (by omega)), h n (by omega)]
theorem lst_eq {f g : Int → Int} {b c : Int} {n m : Nat} (h : lst f b n = lst g c m) : n = m ∧ ∀ i : Nat, i < n → f (b + i) = g (c + i) := by
  have e : n = m := by
    have := congrArg List.length h
    rw [lst_len, lst_len] at this
    exact this
  subst e
  refine ⟨rfl, fun i hi => ?_⟩
  have e1 := lst_get (f := f) (b := b) n i hi
  rw [h, lst_get n i hi] at e1
  exact (Option.some.inj e1).symm
theorem nd_len {l : List Int} {m : Nat} (hn : l.Nodup) (hr : ∀ x, x ∈ l → 0 ≤ x ∧ x < m) : l.length ≤ m := by
  have hp := List.pairwise_iff_getElem.mp hn
  refine ph m l.length (fun i => if h : i < l.length then (l[i]'h).toNat else 0) (fun i hi => ?_) (fun i j hij hj => ?_)
  · rw [dif_pos hi]
    have := hr _ (List.getElem_mem hi)
    omega
  · have hi : i < l.length := by omega
    rw [dif_pos hi, dif_pos hj]
    have h1 := hr _ (List.getElem_mem hi)
    have h2 := hr _ (List.getElem_mem hj)
    have h3 := hp i j hi hj hij
    omega
/-- put behind, where it isn't there -/
def ad (l : List Int) (x : Int) : List Int := if x ∈ l then l else l ++ [x]
theorem ad_mem {l : List Int} {x y : Int} : y ∈ ad l x ↔ y ∈ l ∨ y = x := by
  unfold ad
  split
  · rename_i c
    exact ⟨Or.inl, fun h => h.elim id (fun e => e ▸ c)⟩
  · rw [List.mem_append, List.mem_singleton]
theorem ad_nd {l : List Int} {x : Int} (h : l.Nodup) : (ad l x).Nodup := by
  unfold ad
  split
  · exact h
  · rename_i c
    refine List.nodup_append.mpr ⟨h, (List.pairwise_singleton _ x), fun a ha b hb e => ?_⟩
    rw [List.mem_singleton] at hb
    rw [e, hb] at ha
    exact c ha
theorem adL_mem {y : Int} : ∀ (xs l : List Int), y ∈ xs.foldl ad l ↔ y ∈ l ∨ y ∈ xs := by
  intro xs
  induction xs with
  | nil => intro l; exact ⟨Or.inl, fun h => h.elim id (fun e => by cases e)⟩
  | cons x xs ih =>
    intro l
    show y ∈ xs.foldl ad (ad l x) ↔ _
    rw [ih, ad_mem, List.mem_cons, or_assoc]
theorem adL_nd : ∀ (xs l : List Int), l.Nodup → (xs.foldl ad l).Nodup := by
  intro xs
  induction xs with
  | nil => intro l h; exact h
  | cons x xs ih => intro l h; exact ih _ (ad_nd h)
/-- the rows of the TYPES: what a TYPE brings, or its LIST -/
def ffold (F : Nat → Int → Int) (tb : Int → List Int) (t : Int) : Nat → Int → List Int → List Int
  | 0, _, l => l
  | n + 1, k, l => ffold F tb t n (k + 1) ((tb (F 4 (3 * t + k))).foldl ad l)
def row0 (F : Nat → Int → Int) (t : Int) : List Int := if F 2 t = -1 then [] else [F 2 t]
def rowE (F : Nat → Int → Int) (t : Int) (l : List Int) : List Int := if F 1 t = 2 then ad l t else l
def rowOf (F : Nat → Int → Int) (tb : Int → List Int) (t : Int) : List Int := rowE F t (ffold F tb t (F 3 t).toNat 0 (row0 F t))
def tbl (F : Nat → Int → Int) : Nat → Int → List Int
  | 0 => fun _ => []
  | n + 1 => fun x => if x = n then rowOf F (tbl F n) n else tbl F n x
/-- what the house of TYPES keeps to -/
def md_hs (I : Nat → Int) (F : Nat → Int → Int) : Prop :=
  (∀ t : Int, 0 ≤ t ∧ t < 6 → F 5 t = 0 ∨ F 5 t = 1) ∧
  ∀ t : Int, 0 ≤ t ∧ t < I 0 → (F 2 t ≠ -1 → 0 ≤ F 2 t ∧ F 2 t < t ∧ F 1 t = 0) ∧ (∀ i : Int, 0 ≤ i ∧ i < F 3 t → 0 ≤ F 4 (3 * t + i) ∧ F 4 (3 * t + i) < t ∧ F 1 (F 4 (3 * t + i)) ≠ 0)
theorem tbl_st {F : Nat → Int → Int} {x : Int} : ∀ (m n : Nat), n ≤ m → x < n → tbl F m x = tbl F n x := by
  intro m
  induction m with
  | zero =>
    intro n h1 h2
    have : n = 0 := by omega
    rw [this]
  | succ m ih =>
    intro n h1 h2
    by_cases c : n = m + 1
    · rw [c]
    · show (if x = m then _ else tbl F m x) = _
      rw [if_neg (by omega)]
      exact ih n (by omega) h2
theorem tbl_at {F : Nat → Int → Int} {m : Nat} {x : Int} (h : 0 ≤ x ∧ x < m) : tbl F m x = rowOf F (tbl F x.toNat) x := by
  rw [tbl_st m (x.toNat + 1) (by omega) (by omega)]
  show (if x = x.toNat then _ else _) = _
  rw [if_pos (by omega)]
  rw [show ((x.toNat : Nat) : Int) = x by omega]
theorem ffold_ok {F : Nat → Int → Int} {tb : Int → List Int} {t : Int} : ∀ (n : Nat) (k : Int) (l : List Int), (∀ i : Int, k ≤ i ∧ i < k + n → ∀ y, y ∈ tb (F 4 (3 * t + i)) → 0 ≤ y ∧ y < t) → l.Nodup → (∀ y, y ∈ l → 0 ≤ y ∧ y < t) → (ffold F tb t n k l).Nodup ∧ ∀ y, y ∈ ffold F tb t n k l → 0 ≤ y ∧ y < t := by
  intro n
  induction n with
  | zero => intro k l _ h1 h2; exact ⟨h1, h2⟩
  | succ n ih =>
    intro k l h h1 h2
    refine ih (k + 1) _ (fun i hi => h i (by omega)) (adL_nd _ _ h1) (fun y hy => ?_)
    rcases (adL_mem _ _).mp hy with hy | hy
    · exact h2 y hy
    · exact h k (by omega) y hy
theorem tbl_ok {I : Nat → Int} {F : Nat → Int → Int} (hs : md_hs I F) (h3 : ∀ t : Int, 0 ≤ t ∧ t < I 0 → 0 ≤ F 3 t) : ∀ (n : Nat), n ≤ I 0 → ∀ x : Int, 0 ≤ x ∧ x < n → (tbl F n x).Nodup ∧ ∀ y, y ∈ tbl F n x → 0 ≤ y ∧ y ≤ x := by
  intro n
  induction n with
  | zero => intro _ x hx; omega
  | succ n ih =>
    intro hn x hx
    by_cases c : x = n
    · have hst := hs.2 x ⟨by omega, by omega⟩
      have e3 := h3 x ⟨by omega, by omega⟩
      have e : tbl F (n + 1) x = rowOf F (tbl F n) n := if_pos c
      have g := ffold_ok (F := F) (tb := tbl F n) (t := x) (F 3 x).toNat 0 (row0 F x) (fun i hi y hy => by
        have q := hst.2 i ⟨by omega, by omega⟩
        have := (ih (by omega) (F 4 (3 * x + i)) ⟨by omega, by omega⟩).2 y hy
        omega) (by
        unfold row0
        split
        · exact List.nodup_nil
        · exact (List.pairwise_singleton _ _)) (fun y hy => by
        unfold row0 at hy
        split at hy
        · cases hy
        · rename_i c2
          rw [List.mem_singleton] at hy
          have := hst.1 c2
          omega)
      rw [e, ← c]
      unfold rowOf rowE
      split
      · refine ⟨ad_nd g.1, fun y hy => ?_⟩
        rcases ad_mem.mp hy with hy | hy
        · have := g.2 y hy
          omega
        · omega
      · exact ⟨g.1, fun y hy => by have := g.2 y hy; omega⟩
    · have e : tbl F (n + 1) x = tbl F n x := if_neg c
      rw [e]
      exact ih (by omega) x (by omega)
/-- who has the FIELD that a TYPE reaches -/
def ofold (F : Nat → Int → Int) (ow : Int → Int) (t : Int) : Nat → Int → Int → Int
  | 0, _, v => v
  | n + 1, k, v => if v = -1 then ofold F ow t n (k + 1) (ow (F 4 (3 * t + k))) else v
def ownE (F : Nat → Int → Int) (ow : Int → Int) (t v : Int) : Int := if v = -1 ∧ F 2 t ≠ -1 then ow (F 2 t) else v
def ownOf (F : Nat → Int → Int) (ow : Int → Int) (t : Int) : Int := ownE F ow t (ofold F ow t (F 3 t).toNat 0 (if F 5 t = 1 then t else -1))
def otb (F : Nat → Int → Int) : Nat → Int → Int
  | 0 => fun _ => -1
  | n + 1 => fun x => if x = n then ownOf F (otb F n) n else otb F n x
theorem otb_st {F : Nat → Int → Int} {x : Int} : ∀ (m n : Nat), n ≤ m → x < n → otb F m x = otb F n x := by
  intro m
  induction m with
  | zero =>
    intro n h1 h2
    have : n = 0 := by omega
    rw [this]
  | succ m ih =>
    intro n h1 h2
    by_cases c : n = m + 1
    · rw [c]
    · show (if x = m then _ else otb F m x) = _
      rw [if_neg (by omega)]
      exact ih n (by omega) h2
theorem otb_at {F : Nat → Int → Int} {m : Nat} {x : Int} (h : 0 ≤ x ∧ x < m) : otb F m x = ownOf F (otb F x.toNat) x := by
  rw [otb_st m (x.toNat + 1) (by omega) (by omega)]
  show (if x = x.toNat then _ else _) = _
  rw [if_pos (by omega)]
  rw [show ((x.toNat : Nat) : Int) = x by omega]
theorem ofold_ok {F : Nat → Int → Int} {ow : Int → Int} {t : Int} {P : Int → Prop} : ∀ (n : Nat) (k v : Int), (∀ i : Int, k ≤ i ∧ i < k + n → P (ow (F 4 (3 * t + i)))) → P v → P (ofold F ow t n k v) := by
  intro n
  induction n with
  | zero => intro k v _ h; exact h
  | succ n ih =>
    intro k v h h1
    unfold ofold
    split
    · exact ih (k + 1) _ (fun i hi => h i (by omega)) (h k (by omega))
    · exact h1
theorem otb_ok {I : Nat → Int} {F : Nat → Int → Int} (hs : md_hs I F) (h3 : ∀ t : Int, 0 ≤ t ∧ t < I 0 → 0 ≤ F 3 t) : ∀ (n : Nat), n ≤ I 0 → ∀ x : Int, 0 ≤ x ∧ x < n → otb F n x = -1 ∨ 0 ≤ otb F n x ∧ otb F n x < I 0 ∧ F 5 (otb F n x) = 1 := by
  intro n
  induction n with
  | zero => intro _ x hx; omega
  | succ n ih =>
    intro hn x hx
    by_cases c : x = n
    · have hst := hs.2 x ⟨by omega, by omega⟩
      have e3 := h3 x ⟨by omega, by omega⟩
      have e : otb F (n + 1) x = ownOf F (otb F n) n := if_pos c
      have g := ofold_ok (F := F) (ow := otb F n) (t := x) (P := fun v => v = -1 ∨ 0 ≤ v ∧ v < I 0 ∧ F 5 v = 1) (F 3 x).toNat 0 (if F 5 x = 1 then x else -1) (fun i hi => by
        have q := hst.2 i ⟨by omega, by omega⟩
        exact ih (by omega) (F 4 (3 * x + i)) ⟨by omega, by omega⟩) (by
        split
        · rename_i c5
          exact Or.inr ⟨by omega, by omega, c5⟩
        · exact Or.inl rfl)
      rw [e, ← c]
      unfold ownOf
      generalize ofold F (otb F n) x (F 3 x).toNat 0 (if F 5 x = 1 then x else -1) = v at *
      unfold ownE
      split
      · rename_i c2
        have := hst.1 c2.2
        exact ih (by omega) (F 2 x) ⟨by omega, by omega⟩
      · exact g
    · have e : otb F (n + 1) x = otb F n x := if_neg c
      rw [e]
      exact ih (by omega) x (by omega)
