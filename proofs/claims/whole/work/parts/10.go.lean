/-! Reasoning about the numbered machine: from a place a method goes on to its end with Q (am_Go); a method called comes back with Q (am_Ct). -/
theorem am_loop_orc {df : Nat → List Value} {o1 o2 : Nat → List Value → am_H → Option (Option Value × am_H)} {code : List am_I} (ho : ∀ z as h x, o1 z as h = some x → o2 z as h = some x) : ∀ (k k2 : Nat), k ≤ k2 → ∀ (X : am_C) (x : Option Value × am_H), am_loop df o1 code k X = some x → am_loop df o2 code k2 X = some x := by
  intro k
  induction k with
  | zero => intro k2 _ X x hl; cases hl
  | succ k ih =>
    intro k2 hk X x hl
    obtain ⟨k3, rfl⟩ : ∃ k3, k2 = k3 + 1 := ⟨k2 - 1, by omega⟩
    have hk3 : k ≤ k3 := by omega
    obtain ⟨j, lv, st, h⟩ := X
    unfold am_loop at hl ⊢
    cases hc : code[j]? with
    | none => rw [hc] at hl; cases hl
    | some e =>
      rw [hc] at hl
      dsimp only at hl ⊢
      split at hl
      · cases hx : am_next df e j lv st h with
        | none => rw [hx] at hl; cases hl
        | some Y =>
          rw [hx] at hl
          exact ih k3 hk3 Y x hl
      · exact hl
      · split at hl
        · rename_i hcan
          rw [if_pos hcan]
          cases hx : o1 (am_a e) (st.take (am_b e)).reverse h with
          | none => rw [hx] at hl; cases hl
          | some v =>
            rw [hx] at hl
            rw [ho _ _ _ _ hx]
            exact ih k3 hk3 _ x hl
        · cases hl
theorem am_call_up {df : Nat → List Value} {MT : List am_M} : ∀ (d d2 F F2 : Nat), d ≤ d2 → F ≤ F2 → ∀ (z : Nat) (as : List Value) (h : am_H) (x : Option Value × am_H), am_call df MT d F z as h = some x → am_call df MT d2 F2 z as h = some x := by
  intro d
  induction d with
  | zero => intro d2 F F2 _ _ z as h x hc; cases hc
  | succ d ih =>
    intro d2 F F2 hd hF z as h x hc
    obtain ⟨d3, rfl⟩ : ∃ d3, d2 = d3 + 1 := ⟨d2 - 1, by omega⟩
    unfold am_call at hc ⊢
    cases hM : MT[z]? with
    | none => rw [hM] at hc; cases hc
    | some M =>
      rw [hM] at hc
      dsimp only at hc ⊢
      split at hc
      · rename_i hl
        rw [if_pos hl]
        exact am_loop_orc (fun z as h x hx => ih d3 F F2 (by omega) hF z as h x hx) F F2 hF _ x hc
      · cases hc
def am_Go (df : Nat → List Value) (MT : List am_M) (d : Nat) (code : List am_I) (X : am_C) (Q : Option Value → am_H → Prop) : Prop :=
  ∃ (F : Nat) (r : Option Value) (h : am_H), am_loop df (am_call df MT d F) code F X = some (r, h) ∧ Q r h
def am_Ct (df : Nat → List Value) (MT : List am_M) (d z : Nat) (as : List Value) (h : am_H) (Q : Option Value → am_H → Prop) : Prop :=
  ∃ (F : Nat) (r : Option Value) (h1 : am_H), am_call df MT d F z as h = some (r, h1) ∧ Q r h1
section AMG
variable {df : Nat → List Value} {MT : List am_M} {d z : Nat} {code : List am_I} {Q Q2 : Option Value → am_H → Prop} {j : Nat} {lv : am_L} {st as : List Value} {h : am_H} {X : am_C}
theorem am_Go.mono (g : am_Go df MT d code X Q) (hq : ∀ r h, Q r h → Q2 r h) : am_Go df MT d code X Q2 := by
  obtain ⟨F, r, h1, a, b⟩ := g
  exact ⟨F, r, h1, a, hq r h1 b⟩
theorem am_Ct.mono (g : am_Ct df MT d z as h Q) (hq : ∀ r h, Q r h → Q2 r h) : am_Ct df MT d z as h Q2 := by
  obtain ⟨F, r, h1, a, b⟩ := g
  exact ⟨F, r, h1, a, hq r h1 b⟩
theorem am_Ct.up {d2 : Nat} (g : am_Ct df MT d z as h Q) (hd : d ≤ d2) : am_Ct df MT d2 z as h Q := by
  obtain ⟨F, r, h1, a, b⟩ := g
  exact ⟨F, r, h1, am_call_up d d2 F F hd (Nat.le_refl F) z as h _ a, b⟩
theorem am_go_next {e : am_I} (he : code[j]? = some e) (hk : am_kd e = 0) {Y : am_C} (hn : am_next df e j lv st h = some Y) (g : am_Go df MT d code Y Q) : am_Go df MT d code (j, lv, st, h) Q := by
  obtain ⟨F, r, h1, a, b⟩ := g
  refine ⟨F + 1, r, h1, ?_, b⟩
  simp only [am_loop, he, hk, hn, Option.bind_some]
  exact am_loop_orc (fun z as h x hx => am_call_up d d F (F + 1) (Nat.le_refl d) (Nat.le_succ F) z as h x hx) F F (Nat.le_refl F) Y _ a
theorem am_go_ret {e : am_I} (he : code[j]? = some e) (hk : am_kd e = 1) {r : Option Value} (hr : am_ret e st = some r) (hq : Q r h) : am_Go df MT d code (j, lv, st, h) Q := by
  refine ⟨1, r, h, ?_, hq⟩
  simp only [am_loop, he, hk, hr, Option.map_some]
theorem am_go_call {e : am_I} (he : code[j]? = some e) (hk0 : am_kd e ≠ 0) (hk1 : am_kd e ≠ 1) (hc : am_can e st h = true) (g : am_Ct df MT d (am_a e) (st.take (am_b e)).reverse h (fun v h2 => am_Go df MT d code (j + 1, lv, v.toList ++ st.drop (am_b e), h2) Q)) : am_Go df MT d code (j, lv, st, h) Q := by
  obtain ⟨F1, v, h2, a1, F2, r, h1, a2, b⟩ := g
  have u : ∀ F, F1 ≤ F → F2 ≤ F → ∀ z as h x, am_call df MT d F2 z as h = some x → am_call df MT d (F + 1) z as h = some x := fun F _ f2 z as h x hx => am_call_up d d F2 (F + 1) (Nat.le_refl d) (by omega) z as h x hx
  refine ⟨F1 + F2 + 1, r, h1, ?_, b⟩
  have a3 := am_call_up d d F1 (F1 + F2 + 1) (Nat.le_refl d) (by omega) _ _ _ _ a1
  have a4 := am_loop_orc (u (F1 + F2) (by omega) (by omega)) F2 (F1 + F2) (by omega) _ _ a2
  unfold am_loop
  rw [he]
  dsimp only
  split
  · rename_i hkd; exact absurd hkd hk0
  · rename_i hkd; exact absurd hkd hk1
  · rw [if_pos hc, a3]
    exact a4
theorem am_ct_of {M : am_M} (hM : MT[z]? = some M) (hl : (lg_sl as).length ≤ M.2.2.1) (g : am_Go df MT d M.2.2.2.2.2 (0, lv_args 0 as, [], h) Q) : am_Ct df MT (d + 1) z as h Q := by
  obtain ⟨F, r, h1, a, b⟩ := g
  refine ⟨F, r, h1, ?_, b⟩
  unfold am_call
  rw [hM]
  dsimp only
  rw [if_pos hl]
  exact a
end AMG
def am_o (o : Option am_C) (P : am_C → Prop) : Prop := match o with
  | some Y => P Y
  | none => False
def am_q1 (o : Option (Option Value)) (P : Option Value → Prop) : Prop := match o with
  | some Y => P Y
  | none => False
/-- one STEP of the machine -/
def am_S (df : Nat → List Value) (MT : List am_M) (d : Nat) (e : am_I) (j : Nat) (lv : am_L) (st : List Value) (h : am_H) (P : am_C → Prop) (Q : Option Value → am_H → Prop) : Prop := match am_kd e with
  | 0 => am_o (am_next df e j lv st h) P
  | 1 => am_q1 (am_ret e st) (fun r => Q r h)
  | _ => am_can e st h = true ∧ am_Ct df MT d (am_a e) (st.take (am_b e)).reverse h (fun v h2 => P (j + 1, lv, v.toList ++ st.drop (am_b e), h2))
/-- up to n STEPS, not beyond the places of 'cuts' -/
def am_W (df : Nat → List Value) (MT : List am_M) (d : Nat) (code : List am_I) (cuts : List Nat) (Q : Option Value → am_H → Prop) : Nat → am_C → Prop
  | 0, X => am_Go df MT d code X Q
  | n + 1, (j, lv, st, h) => if j ∈ cuts then am_Go df MT d code (j, lv, st, h) Q else match code[j]? with
    | some e => am_S df MT d e j lv st h (am_W df MT d code cuts Q n) Q
    | none => False
theorem am_S_go {df : Nat → List Value} {MT : List am_M} {d : Nat} {code : List am_I} {Q : Option Value → am_H → Prop} {e : am_I} {j : Nat} {lv : am_L} {st : List Value} {h : am_H} {P : am_C → Prop} (he : code[j]? = some e) (hP : ∀ X, P X → am_Go df MT d code X Q) (w : am_S df MT d e j lv st h P Q) : am_Go df MT d code (j, lv, st, h) Q := by
  unfold am_S at w
  split at w
  · rename_i hk
    cases hn : am_next df e j lv st h with
    | none => rw [hn] at w; exact absurd w id
    | some Y => rw [hn] at w; exact am_go_next he hk hn (hP Y w)
  · rename_i hk
    cases hn : am_ret e st with
    | none => rw [hn] at w; exact absurd w id
    | some r => rw [hn] at w; exact am_go_ret he hk hn w
  · rename_i hk0 hk1
    exact am_go_call he hk0 hk1 w.1 (w.2.mono (fun v h2 hx => hP _ hx))
theorem am_W_go {df : Nat → List Value} {MT : List am_M} {d : Nat} {code : List am_I} {cuts : List Nat} {Q : Option Value → am_H → Prop} : ∀ (n : Nat) (X : am_C), am_W df MT d code cuts Q n X → am_Go df MT d code X Q := by
  intro n
  induction n with
  | zero => intro X w; exact w
  | succ n ih =>
    intro X w
    obtain ⟨j, lv, st, h⟩ := X
    unfold am_W at w
    split at w
    · exact w
    · split at w
      · rename_i e he
        exact am_S_go he ih w
      · exact absurd w id
/-- from a place that may itself be one of 'cuts' -/
theorem am_go_of {df : Nat → List Value} {MT : List am_M} {d : Nat} {code : List am_I} {Q : Option Value → am_H → Prop} {j : Nat} {lv : am_L} {st : List Value} {h : am_H} (n : Nat) (cuts : List Nat) (e : am_I) (he : code[j]? = some e) (w : am_S df MT d e j lv st h (am_W df MT d code cuts Q n) Q) : am_Go df MT d code (j, lv, st, h) Q :=
  am_S_go he (am_W_go n) w
