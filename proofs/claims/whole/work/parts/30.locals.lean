/-! A place goes on alike where more locals stand, and in another order. -/
def al_le (l m : am_L) : Prop := (∀ q, q ∈ l → q ∈ m) ∧ (∀ q, q ∈ m → ∀ p, p ∈ m → q.1 = p.1 → q.2 = p.2)
theorem al_le_lk {l m : am_L} (H : al_le l m) {k : Nat} {v : Value} (h : am_lk l k = some v) : am_lk m k = some v := by
  unfold am_lk at h ⊢
  cases hf : l.find? (fun q => q.1 == k) with
  | none => rw [hf] at h; cases h
  | some q =>
    rw [hf] at h
    have hv : q.2 = v := Option.some.inj h
    have hq := List.mem_of_find?_eq_some hf
    have hk : q.1 = k := by simpa using List.find?_some hf
    cases hm : m.find? (fun q => q.1 == k) with
    | none =>
      have := List.find?_eq_none.mp hm q (H.1 q hq)
      simp [hk] at this
    | some p =>
      have hp := List.mem_of_find?_eq_some hm
      have hpk : p.1 = k := by simpa using List.find?_some hm
      have := H.2 p hp q (H.1 q hq) (by rw [hpk, hk])
      simp [this, hv]
theorem al_le_fl {l m : am_L} (H : al_le l m) {k : Nat} {v : Value} {f : Nat × Value → Bool} (hf : ∀ q, f q = true → q.1 ≠ k) : al_le ((k, v) :: l.filter f) ((k, v) :: m.filter f) := by
  refine ⟨fun q hq => ?_, fun q hq p hp e => ?_⟩
  · rcases List.mem_cons.mp hq with rfl | hq
    · exact List.mem_cons_self
    · have := List.mem_filter.mp hq
      exact List.mem_cons_of_mem _ (List.mem_filter.mpr ⟨H.1 q this.1, this.2⟩)
  · rcases List.mem_cons.mp hq with rfl | hq <;> rcases List.mem_cons.mp hp with rfl | hp
    · rfl
    · exact absurd e.symm (hf p (List.mem_filter.mp hp).2)
    · exact absurd e (hf q (List.mem_filter.mp hq).2)
    · exact H.2 q (List.mem_filter.mp hq).1 p (List.mem_filter.mp hp).1 e
theorem al_le_s1 {l m : am_L} (H : al_le l m) {k : Nat} {v : Value} : al_le (am_s1 l k v) (am_s1 m k v) := al_le_fl H (fun q hq e => by simp [e] at hq)
theorem al_le_s2 {l m : am_L} (H : al_le l m) {k : Nat} {v : Value} : al_le (am_s2 l k v) (am_s2 m k v) := al_le_fl H (fun q hq e => by simp [e] at hq)
def al_R (x y : Option am_C) : Prop := ∀ (j : Nat) (l : am_L) (st : List Value) (h : am_H), x = some (j, l, st, h) → ∃ m : am_L, y = some (j, m, st, h) ∧ al_le l m
theorem al_R_n {y : Option am_C} : al_R none y := fun _ _ _ _ e => by cases e
theorem al_R_s {j : Nat} {l m : am_L} {st : List Value} {h : am_H} (H : al_le l m) : al_R (some (j, l, st, h)) (some (j, m, st, h)) := fun _ _ _ _ e => by
  cases e
  exact ⟨m, rfl, H⟩
theorem al_R_i {c : Prop} [Decidable c] {x x1 y y1 : Option am_C} (h1 : al_R x y) (h2 : al_R x1 y1) : al_R (if c then x else x1) (if c then y else y1) := by
  by_cases h : c
  · rw [if_pos h, if_pos h]; exact h1
  · rw [if_neg h, if_neg h]; exact h2
theorem al_R_i1 {st : List Value} {k k' : Int32 → List Value → Option am_C} (H : ∀ x r, al_R (k x r) (k' x r)) : al_R (am_i1 st k) (am_i1 st k') := by
  rcases st with _ | ⟨v, r⟩
  · exact al_R_n
  · cases v <;> first | exact H _ _ | exact al_R_n
theorem al_R_l1 {st : List Value} {k k' : Int64 → List Value → Option am_C} (H : ∀ x r, al_R (k x r) (k' x r)) : al_R (am_l1 st k) (am_l1 st k') := by
  rcases st with _ | ⟨v, r⟩
  · exact al_R_n
  · cases v <;> first | exact H _ _ | exact al_R_n
theorem al_R_r1 {st : List Value} {k k' : Nat → List Value → Option am_C} (H : ∀ x r, al_R (k x r) (k' x r)) : al_R (am_r1 st k) (am_r1 st k') := by
  rcases st with _ | ⟨v, r⟩
  · exact al_R_n
  · cases v <;> first | exact H _ _ | exact al_R_n
theorem al_R_nl {st : List Value} {k k' k1 k1' : List Value → Option am_C} (H : ∀ r, al_R (k r) (k' r)) (H1 : ∀ r, al_R (k1 r) (k1' r)) : al_R (am_nl st k k1) (am_nl st k' k1') := by
  rcases st with _ | ⟨v, r⟩
  · exact al_R_n
  · cases v <;> first | exact H _ | exact H1 _ | exact al_R_n
theorem al_R_v1 {st : List Value} {k k' : Value → List Value → Option am_C} (H : ∀ x r, al_R (k x r) (k' x r)) : al_R (am_v1 st k) (am_v1 st k') := by
  rcases st with _ | ⟨v, r⟩
  · exact al_R_n
  · exact H _ _
theorem al_R_v2 {st : List Value} {k k' : Value → Value → List Value → Option am_C} (H : ∀ x y r, al_R (k x y r) (k' x y r)) : al_R (am_v2 st k) (am_v2 st k') := by
  rcases st with _ | ⟨v, _ | ⟨w, r⟩⟩
  · exact al_R_n
  · exact al_R_n
  · exact H _ _ _
theorem al_R_i2 {st : List Value} {k k' : Int32 → Int32 → List Value → Option am_C} (H : ∀ x y r, al_R (k x y r) (k' x y r)) : al_R (am_i2 st k) (am_i2 st k') := by
  rcases st with _ | ⟨v, _ | ⟨w, r⟩⟩
  · exact al_R_n
  · cases v <;> exact al_R_n
  · cases v <;> cases w <;> first | exact H _ _ _ | exact al_R_n
theorem al_R_l2 {st : List Value} {k k' : Int64 → Int64 → List Value → Option am_C} (H : ∀ x y r, al_R (k x y r) (k' x y r)) : al_R (am_l2 st k) (am_l2 st k') := by
  rcases st with _ | ⟨v, _ | ⟨w, r⟩⟩
  · exact al_R_n
  · cases v <;> exact al_R_n
  · cases v <;> cases w <;> first | exact H _ _ _ | exact al_R_n
theorem al_R_li {st : List Value} {k k' : Int64 → Int32 → List Value → Option am_C} (H : ∀ x y r, al_R (k x y r) (k' x y r)) : al_R (am_li st k) (am_li st k') := by
  rcases st with _ | ⟨v, _ | ⟨w, r⟩⟩
  · exact al_R_n
  · cases v <;> exact al_R_n
  · cases v <;> cases w <;> first | exact H _ _ _ | exact al_R_n
theorem al_R_ir {st : List Value} {k k' : Int32 → Nat → List Value → Option am_C} (H : ∀ x y r, al_R (k x y r) (k' x y r)) : al_R (am_ir st k) (am_ir st k') := by
  rcases st with _ | ⟨v, _ | ⟨w, r⟩⟩
  · exact al_R_n
  · cases v <;> exact al_R_n
  · cases v <;> cases w <;> first | exact H _ _ _ | exact al_R_n
theorem al_R_vr {st : List Value} {k k' : Value → Nat → List Value → Option am_C} (H : ∀ x y r, al_R (k x y r) (k' x y r)) : al_R (am_vr st k) (am_vr st k') := by
  rcases st with _ | ⟨v, _ | ⟨w, r⟩⟩
  · exact al_R_n
  · exact al_R_n
  · cases w <;> first | exact H _ _ _ | exact al_R_n
theorem al_R_iir {st : List Value} {k k' : Int32 → Int32 → Nat → List Value → Option am_C} (H : ∀ x y z r, al_R (k x y z r) (k' x y z r)) : al_R (am_iir st k) (am_iir st k') := by
  rcases st with _ | ⟨v, _ | ⟨w, _ | ⟨z, r⟩⟩⟩
  · exact al_R_n
  · cases v <;> exact al_R_n
  · cases v <;> cases w <;> exact al_R_n
  · cases v <;> cases w <;> cases z <;> first | exact H _ _ _ _ | exact al_R_n
theorem al_R_lir {st : List Value} {k k' : Int64 → Int32 → Nat → List Value → Option am_C} (H : ∀ x y z r, al_R (k x y z r) (k' x y z r)) : al_R (am_lir st k) (am_lir st k') := by
  rcases st with _ | ⟨v, _ | ⟨w, _ | ⟨z, r⟩⟩⟩
  · exact al_R_n
  · cases v <;> exact al_R_n
  · cases v <;> cases w <;> exact al_R_n
  · cases v <;> cases w <;> cases z <;> first | exact H _ _ _ _ | exact al_R_n
theorem al_R_ai {E : am_E} {t : Nat} {i : Int32} {g g' : Nat → (Nat → Int32) → Option am_C} (H : ∀ n f, al_R (g n f) (g' n f)) : al_R (am_ai E t i g) (am_ai E t i g') := by
  rcases E with ⟨u, n, f | f⟩ | ⟨ci, fs⟩
  · exact al_R_i (al_R_i al_R_n (H _ _)) al_R_n
  · exact al_R_n
  · exact al_R_n
theorem al_R_al {E : am_E} {t : Nat} {i : Int32} {g g' : Nat → (Nat → Int64) → Option am_C} (H : ∀ n f, al_R (g n f) (g' n f)) : al_R (am_al E t i g) (am_al E t i g') := by
  rcases E with ⟨u, n, f | f | f⟩ | ⟨ci, fs⟩
  · exact al_R_n
  · exact al_R_i (al_R_i al_R_n (H _ _)) al_R_n
  · exact al_R_n
  · exact al_R_n
theorem al_R_ab {E : am_E} {i : Int32} {g g' : Nat → Nat → (Nat → Int32) → Option am_C} (H : ∀ u n f, al_R (g u n f) (g' u n f)) : al_R (am_ab E i g) (am_ab E i g') := by
  rcases E with ⟨u, n, f | f⟩ | ⟨ci, fs⟩
  · exact al_R_i (al_R_i al_R_n (H _ _ _)) al_R_n
  · exact al_R_n
  · exact al_R_n
theorem al_R_aq {E : am_E} {i : Int32} {g g' : Nat → (Nat → Option Nat) → Option am_C} (H : ∀ n f, al_R (g n f) (g' n f)) : al_R (am_aq E i g) (am_aq E i g') := by
  rcases E with ⟨u, n, f | f | f | f | f⟩ | ⟨ci, fs⟩
  · exact al_R_n
  · exact al_R_n
  · exact al_R_n
  · exact al_R_n
  · exact al_R_i (al_R_i al_R_n (H _ _)) al_R_n
  · exact al_R_n
theorem al_R_al0 {E : am_E} {g g' : Nat → Option am_C} (H : ∀ n, al_R (g n) (g' n)) : al_R (am_al0 E g) (am_al0 E g') := by
  rcases E with ⟨u, n, f⟩ | ⟨ci, fs⟩
  · exact H _
  · exact al_R_n
theorem al_R_ob {E : am_E} {c : Nat} {g g' : List Value → Option am_C} (H : ∀ n, al_R (g n) (g' n)) : al_R (am_ob E c g) (am_ob E c g') := by
  rcases E with ⟨u, n, f⟩ | ⟨ci, fs⟩
  · exact al_R_n
  · exact al_R_i (H _) al_R_n
theorem al_R_fd {fs : List Value} {k : Nat} {g g' : Value → Option am_C} (H : ∀ n, al_R (g n) (g' n)) : al_R (am_fd fs k g) (am_fd fs k g') := by
  unfold am_fd
  cases fs[k]? with
  | none => exact al_R_n
  | some v => exact H _
theorem al_R_tg {fs : List Nat} {k : Nat} {g g' : Nat → Option am_C} (H : ∀ n, al_R (g n) (g' n)) : al_R (am_tg fs k g) (am_tg fs k g') := by
  unfold am_tg
  cases fs[k]? with
  | none => exact al_R_n
  | some v => exact H _
theorem al_R_br {c : ClassFile.Cond} {x y : Int32} {a b a1 b1 : Option am_C} (h1 : al_R a a1) (h2 : al_R b b1) : al_R (am_br c x y a b) (am_br c x y a1 b1) := by
  cases c <;> unfold am_br <;> first | exact al_R_i h1 h2 | exact al_R_i h2 h1
theorem al_R_ldi {l m : am_L} (L : al_le l m) {k : Nat} {g g' : Value → Option am_C} (H : ∀ n, al_R (g n) (g' n)) : al_R (am_ldi l k g) (am_ldi m k g') := by
  unfold am_ldi
  cases hk : am_lk l k with
  | none => exact al_R_n
  | some v =>
    rw [al_le_lk L hk]
    cases v <;> first | exact H _ | exact al_R_n
theorem al_R_ldl {l m : am_L} (L : al_le l m) {k : Nat} {g g' : Value → Option am_C} (H : ∀ n, al_R (g n) (g' n)) : al_R (am_ldl l k g) (am_ldl m k g') := by
  unfold am_ldl
  cases hk : am_lk l k with
  | none => exact al_R_n
  | some v =>
    rw [al_le_lk L hk]
    cases v <;> first | exact H _ | exact al_R_n
theorem al_R_lda {l m : am_L} (L : al_le l m) {k : Nat} {g g' : Value → Option am_C} (H : ∀ n, al_R (g n) (g' n)) : al_R (am_lda l k g) (am_lda m k g') := by
  unfold am_lda
  cases hk : am_lk l k with
  | none => exact al_R_n
  | some v =>
    rw [al_le_lk L hk]
    cases v <;> first | exact H _ | exact al_R_n
theorem al_R_inc {l m : am_L} (L : al_le l m) {k : Nat} {n : Int} {g g' : am_L → Option am_C} (H : ∀ a b, al_le a b → al_R (g a) (g' b)) : al_R (am_inc l k n g) (am_inc m k n g') := by
  unfold am_inc
  cases hk : am_lk l k with
  | none => exact al_R_n
  | some v =>
    rw [al_le_lk L hk]
    cases v <;> first | exact H _ _ (al_le_s1 L) | exact al_R_n
theorem al_R_next {df : Nat → List Value} {e : am_I} {j : Nat} {l m : am_L} {st : List Value} {h : am_H} (L : al_le l m) : al_R (am_next df e j l st h) (am_next df e j m st h) := by
  have b : ∀ (j : Nat) (st : List Value) (h : am_H), al_R (some (j, l, st, h)) (some (j, m, st, h)) := fun _ _ _ => al_R_s L
  unfold am_next
  cases am_op e <;> dsimp only <;> first
    | exact al_R_n
    | exact b _ _ _
    | exact al_R_ldi L (fun _ => b _ _ _)
    | exact al_R_ldl L (fun _ => b _ _ _)
    | exact al_R_lda L (fun _ => b _ _ _)
    | exact al_R_inc L (fun _ _ H => al_R_s H)
    | exact al_R_i1 (fun _ _ => b _ _ _)
    | exact al_R_i1 (fun _ _ => al_R_s (al_le_s1 L))
    | exact al_R_l1 (fun _ _ => b _ _ _)
    | exact al_R_l1 (fun _ _ => al_R_s (al_le_s2 L))
    | exact al_R_r1 (fun _ _ => al_R_s (al_le_s1 L))
    | exact al_R_i2 (fun _ _ _ => b _ _ _)
    | exact al_R_l2 (fun _ _ _ => b _ _ _)
    | exact al_R_li (fun _ _ _ => b _ _ _)
    | exact al_R_i2 (fun _ _ _ => al_R_i al_R_n (b _ _ _))
    | exact al_R_v1 (fun _ _ => al_R_i (b _ _ _) al_R_n)
    | exact al_R_v2 (fun _ _ _ => al_R_i (b _ _ _) al_R_n)
    | exact al_R_i1 (fun _ _ => al_R_br (b _ _ _) (b _ _ _))
    | exact al_R_i2 (fun _ _ _ => al_R_br (b _ _ _) (b _ _ _))
    | exact al_R_i1 (fun _ _ => al_R_i (b _ _ _) (al_R_tg (fun _ => b _ _ _)))
    | exact al_R_nl (fun _ => b _ _ _) (fun _ => b _ _ _)
    | exact al_R_r1 (fun _ _ => al_R_ob (fun _ => al_R_fd (fun _ => b _ _ _)))
    | exact al_R_vr (fun _ _ _ => al_R_ob (fun _ => al_R_i (b _ _ _) al_R_n))
    | exact al_R_ir (fun _ _ _ => al_R_ai (fun _ _ => b _ _ _))
    | exact al_R_ir (fun _ _ _ => al_R_ab (fun _ _ _ => b _ _ _))
    | exact al_R_ir (fun _ _ _ => al_R_al (fun _ _ => b _ _ _))
    | exact al_R_ir (fun _ _ _ => al_R_aq (fun _ _ => b _ _ _))
    | exact al_R_iir (fun _ _ _ _ => al_R_ai (fun _ _ => al_R_i al_R_n (b _ _ _)))
    | exact al_R_iir (fun _ _ _ _ => al_R_ab (fun _ _ _ => al_R_i al_R_n (b _ _ _)))
    | exact al_R_lir (fun _ _ _ _ => al_R_al (fun _ _ => al_R_i al_R_n (b _ _ _)))
    | exact al_R_r1 (fun _ _ => al_R_al0 (fun _ => b _ _ _))
    | exact al_R_i1 (fun _ _ => al_R_i al_R_n (b _ _ _))
    | exact al_R_r1 (fun _ _ => al_R_i (b _ _ _) al_R_n)
theorem am_loop_le {df : Nat → List Value} {orc : Nat → List Value → am_H → Option (Option Value × am_H)} {code : List am_I} : ∀ (n : Nat) (j : Nat) (l m : am_L) (st : List Value) (h : am_H) (y : Option Value × am_H), al_le l m → am_loop df orc code n (j, l, st, h) = some y → am_loop df orc code n (j, m, st, h) = some y := by
  intro n
  induction n with
  | zero => intro j l m st h y L e; cases e
  | succ n ih =>
    intro j l m st h y L e
    unfold am_loop at e ⊢
    cases hc : code[j]? with
    | none => rw [hc] at e; cases e
    | some c =>
      rw [hc] at e
      dsimp only at e ⊢
      split at e
      · cases hx : am_next df c j l st h with
        | none => rw [hx] at e; cases e
        | some X =>
          obtain ⟨j1, l1, st1, h1⟩ := X
          rw [hx] at e
          obtain ⟨m1, hm, L1⟩ := al_R_next L j1 l1 st1 h1 hx
          rw [hm]
          exact ih j1 l1 m1 st1 h1 y L1 e
      · exact e
      · by_cases hcan : am_can c st h = true
        · rw [if_pos hcan] at e ⊢
          cases hx : orc (am_a c) (st.take (am_b c)).reverse h with
          | none => rw [hx] at e; cases e
          | some q =>
            rw [hx] at e
            exact ih _ _ _ _ _ y L e
        · rw [if_neg hcan] at e
          cases e
theorem am_Go.lo {df : Nat → List Value} {MT : List am_M} {d : Nat} {code : List am_I} {Q : Option Value → am_H → Prop} {j : Nat} {l m : am_L} {st : List Value} {h : am_H} (g : am_Go df MT d code (j, l, st, h) Q) (L : al_le l m) : am_Go df MT d code (j, m, st, h) Q := by
  obtain ⟨F, r, h1, a, b⟩ := g
  exact ⟨F, r, h1, am_loop_le F j l m st h (r, h1) L a, b⟩
