/-! What is needed, over one step or many. -/
def rch (e : Int → Int → Prop) : Nat → Int → Int → Prop
  | 0, a, c => e a c
  | k + 1, a, c => ∃ b, e a b ∧ rch e k b c
def Rch (e : Int → Int → Prop) (a c : Int) : Prop := ∃ k, rch e k a c
theorem rch_tr {e : Int → Int → Prop} : ∀ (k : Nat) (a b c : Int), rch e k a b → Rch e b c → Rch e a c := by
  intro k
  induction k with
  | zero =>
    intro a b c h1 h2
    obtain ⟨j, h2⟩ := h2
    exact ⟨j + 1, b, h1, h2⟩
  | succ k ih =>
    intro a b c h1 h2
    obtain ⟨x, h3, h4⟩ := h1
    obtain ⟨j, h5⟩ := ih x b c h4 h2
    exact ⟨j + 1, x, h3, h5⟩
theorem Rch.tr {e : Int → Int → Prop} {a b c : Int} (h1 : Rch e a b) (h2 : Rch e b c) : Rch e a c := by
  obtain ⟨k, h1⟩ := h1
  exact rch_tr k a b c h1 h2
/-- with what is between below b -/
def pth (e : Int → Int → Prop) (b : Int) : Nat → Int → Int → Prop
  | 0, a, c => e a c
  | k + 1, a, c => ∃ x, (0 ≤ x ∧ x < b) ∧ e a x ∧ pth e b k x c
theorem pth_up {e : Int → Int → Prop} {b : Int} : ∀ (k : Nat) (a c : Int), pth e (b + 1) k a c → (∃ j, pth e b j a c) ∨ (∃ j, pth e b j a b) ∧ (∃ j, pth e b j b c) := by
  intro k
  induction k with
  | zero => intro a c h; exact Or.inl ⟨0, h⟩
  | succ k ih =>
    intro a c h
    obtain ⟨x, hx, h1, h2⟩ := h
    by_cases cx : x = b
    · subst cx
      rcases ih x c h2 with ⟨j, h3⟩ | ⟨-, h4⟩
      · exact Or.inr ⟨⟨0, h1⟩, j, h3⟩
      · exact Or.inr ⟨⟨0, h1⟩, h4⟩
    · have hx2 : 0 ≤ x ∧ x < b := by omega
      rcases ih x c h2 with ⟨j, h3⟩ | ⟨⟨j, h3⟩, h4⟩
      · exact Or.inl ⟨j + 1, x, hx2, h1, h3⟩
      · exact Or.inr ⟨⟨j + 1, x, hx2, h1, h3⟩, h4⟩
theorem pth_of {e : Int → Int → Prop} {n : Int} (hn : ∀ a c, e a c → 0 ≤ c ∧ c < n) : ∀ (k : Nat) (a c : Int), rch e k a c → pth e n k a c := by
  intro k
  induction k with
  | zero => intro a c h; exact h
  | succ k ih =>
    intro a c h
    obtain ⟨x, h1, h2⟩ := h
    exact ⟨x, hn a x h1, h1, ih x c h2⟩
/-- a way, place by place -/
theorem rch_way {e : Int → Int → Prop} : ∀ (k : Nat) (a c : Int), rch e k a c → ∃ v : Nat → Int, v 0 = a ∧ v (k + 1) = c ∧ ∀ i, i ≤ k → e (v i) (v (i + 1)) := by
  intro k
  induction k with
  | zero =>
    intro a c h
    refine ⟨fun i => if i = 0 then a else c, rfl, rfl, fun i hi => ?_⟩
    have : i = 0 := by omega
    subst this
    exact h
  | succ k ih =>
    intro a c h
    obtain ⟨x, h1, h2⟩ := h
    obtain ⟨v, h3, h4, h5⟩ := ih x c h2
    refine ⟨fun i => if i = 0 then a else v (i - 1), rfl, ?_, fun i hi => ?_⟩
    · exact h4
    · by_cases c0 : i = 0
      · subst c0
        show e a (v 0)
        rw [h3]
        exact h1
      · show e (if i = 0 then a else v (i - 1)) (v i)
        rw [if_neg c0]
        have := h5 (i - 1) (by omega)
        rw [show i - 1 + 1 = i by omega] at this
        exact this
theorem rch_back {e : Int → Int → Prop} : ∀ (k : Nat) (v : Nat → Int), (∀ i, i ≤ k → e (v i) (v (i + 1))) → rch e k (v 0) (v (k + 1)) := by
  intro k
  induction k with
  | zero => intro v h; exact h 0 (Nat.le_refl 0)
  | succ k ih =>
    intro v h
    exact ⟨v 1, h 0 (by omega), ih (fun i => v (i + 1)) (fun i hi => h (i + 1) (by omega))⟩
/-- a way need not be long -/
theorem rch_short {e : Int → Int → Prop} (hn : ∀ a c, e a c → 0 ≤ c ∧ c < 6) : ∀ (k : Nat) (a c : Int), rch e k a c → ∃ j, j ≤ 6 ∧ rch e j a c := by
  intro k
  induction k using Nat.strongRecOn with
  | _ k ih =>
    intro a c h
    by_cases hk : k ≤ 6
    · exact ⟨k, hk, h⟩
    · obtain ⟨v, h0, h1, h2⟩ := rch_way k a c h
      have hv : ∀ i, i ≤ k → 0 ≤ v (i + 1) ∧ v (i + 1) < 6 := fun i hi => hn _ _ (h2 i hi)
      have hp : ¬ ∀ i j : Nat, i < j → j < 7 → (v (i + 1)).toNat ≠ (v (j + 1)).toNat := fun z => by
        have := ph 6 7 (fun i => (v (i + 1)).toNat) (fun i hi => by have := hv i (by omega); omega) z
        omega
      obtain ⟨i, hp⟩ := Classical.not_forall.mp hp
      obtain ⟨j, hp⟩ := Classical.not_forall.mp hp
      obtain ⟨hij, hp⟩ := Classical.not_forall.mp hp
      obtain ⟨hj, hp⟩ := Classical.not_forall.mp hp
      have he : v (i + 1) = v (j + 1) := by
        have a1 := hv i (by omega)
        have a2 := hv j (by omega)
        have : (v (i + 1)).toNat = (v (j + 1)).toNat := Decidable.byContradiction hp
        omega
      have g := rch_back (e := e) (k - (j - i)) (fun m => if m ≤ i + 1 then v m else v (m + (j - i))) (fun m hm => by
        by_cases c1 : m ≤ i
        · show e (if m ≤ i + 1 then v m else _) (if m + 1 ≤ i + 1 then v (m + 1) else _)
          rw [if_pos (by omega), if_pos (by omega)]
          exact h2 m (by omega)
        · by_cases c2 : m = i + 1
          · show e (if m ≤ i + 1 then v m else _) (if m + 1 ≤ i + 1 then _ else v (m + 1 + (j - i)))
            rw [if_pos (by omega), if_neg (by omega), c2, he, show i + 1 + 1 + (j - i) = j + 1 + 1 by omega]
            exact h2 (j + 1) (by omega)
          · show e (if m ≤ i + 1 then _ else v (m + (j - i))) (if m + 1 ≤ i + 1 then _ else v (m + 1 + (j - i)))
            rw [if_neg (by omega), if_neg (by omega), show m + 1 + (j - i) = m + (j - i) + 1 by omega]
            exact h2 (m + (j - i)) (by omega))
      have e0 : (if 0 ≤ i + 1 then v 0 else v (0 + (j - i))) = a := by
        rw [if_pos (by omega), h0]
      have e1 : (if k - (j - i) + 1 ≤ i + 1 then v (k - (j - i) + 1) else v (k - (j - i) + 1 + (j - i))) = c := by
        rw [if_neg (by omega), show k - (j - i) + 1 + (j - i) = k + 1 by omega, h1]
      rw [e0, e1] at g
      exact ih (k - (j - i)) (by omega) a c g
/-- what a TYPE needs first -/
def ed (I : Nat → Int) (F : Nat → Int → Int) (t x : Int) : Prop := (0 ≤ t ∧ t < I 0) ∧ (x ∈ lst (F 7) (6 * t) (F 6 t).toNat ∨ ∃ k : Int, (0 ≤ k ∧ k < F 8 t) ∧ sp_asked F t k = x ∧ 0 ≤ x ∧ x ≠ t)
theorem ed_rg {I : Nat → Int} {F : Nat → Int → Int} (hr : md_rg I F) (hw : md_wf I F) {t x : Int} (h : ed I F t x) : 0 ≤ x ∧ x < I 0 := by
  have hI := hr.1
  obtain ⟨ht, h⟩ := h
  have e6 := hr.2.1 t ⟨by omega, by omega⟩
  rcases h with h | ⟨k, hk, h1, h2, h3⟩
  · obtain ⟨i, hi, he⟩ := lst_mem.mp h
    have a1 := hw.2.1 t i ht ⟨by omega, by omega⟩
    have a2 := hr.2.2.2.1 (6 * t + i) ⟨by omega, by omega⟩
    rw [he] at a1 a2
    exact ⟨a2.1, a1⟩
  · have := (sp_asked_wf hr hw (b := t) (Or.inl ht) hk).1
    rw [h1] at this
    exact ⟨h2, this⟩
