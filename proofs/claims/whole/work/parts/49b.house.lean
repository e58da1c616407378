/-! The house of the reference between calls. -/
def md_hd (I : Nat → Int) (F : Nat → Int → Int) : Prop := (∀ x : Int, 0 ≤ x ∧ x < I 0 → rl_x F F x (tbl F (I 0).toNat x)) ∧ (∀ x : Int, 0 ≤ x ∧ x < I 0 → F 17 x = otb F (I 0).toNat x)
def md_bd (I : Nat → Int) (F : Nat → Int → Int) : Prop := ∀ b k : Int, (0 ≤ b ∧ b < I 0 ∨ 6 ≤ b ∧ b < 6 + I 1) → (0 ≤ k ∧ k < F 8 b) → (F 9 (5 * b + k) = 4 → 1 ≤ F 10 (5 * b + k) ∧ F 10 (5 * b + k) ≤ 2) ∧ (F 9 (5 * b + k) ≤ 3 → F 10 (5 * b + k) < I 0)
theorem wf_of {I : Nat → Int} {F : Nat → Int → Int} (hr : md_rg I F) (hs : md_hs I F) (hd : md_hd I F) (hb : md_bd I F) : md_wf I F := by
  have hI := hr.1
  have h3 : ∀ t : Int, 0 ≤ t ∧ t < I 0 → 0 ≤ F 3 t := fun t ht => (hr.2.1 t ⟨by omega, by omega⟩).2.2.2.2.1
  have htb := tbl_ok hs h3 (I 0).toNat (by omega)
  have hob := otb_ok hs h3 (I 0).toNat (by omega)
  refine ⟨hb, fun t i ht hi => ?_, fun t ht hn => ?_⟩
  · have g := hd.1 t ht
    by_cases c : F 1 t = 0
    · have q := lst_get (f := F 7) (b := 6 * t) (F 6 t).toNat i.toNat (by omega)
      rw [show ((i.toNat : Nat) : Int) = i by omega] at q
      have m : F 7 (6 * t + i) ∈ lst (F 7) (6 * t) (F 6 t).toNat := List.mem_of_getElem? q
      rw [(g.1 c).1] at m
      have := (htb t ⟨by omega, by omega⟩).2 _ m
      omega
    · have := (g.2 c).2
      omega
  · have e := hd.2 t ht
    rw [e] at hn ⊢
    rcases hob t ⟨by omega, by omega⟩ with q | q
    · exact absurd q hn
    · exact ⟨q.2.1, q.2.2⟩
theorem tbl_congr {F G : Nat → Int → Int} : ∀ n : Nat, (∀ x : Int, 0 ≤ x ∧ x < n → F 1 x = G 1 x ∧ F 2 x = G 2 x ∧ F 3 x = G 3 x ∧ ∀ i : Int, 0 ≤ i ∧ i < F 3 x → F 4 (3 * x + i) = G 4 (3 * x + i)) → tbl F n = tbl G n := by
  intro n
  induction n with
  | zero => intro _; rfl
  | succ n ih =>
    intro h
    have e := ih (fun x hx => h x (by omega))
    have q := h n (by omega)
    funext x
    show (if x = n then rowOf F (tbl F n) n else tbl F n x) = if x = n then rowOf G (tbl G n) n else tbl G n x
    rw [e]
    by_cases c : x = n
    · rw [if_pos c, if_pos c]
      have ff : ∀ (k : Nat) (i : Int) (l : List Int), 0 ≤ i → i + k ≤ (F 3 n).toNat → ffold F (tbl G n) n k i l = ffold G (tbl G n) n k i l := by
        intro k
        induction k with
        | zero => intro i l _ _; rfl
        | succ k ihk =>
          intro i l h0 h1
          unfold ffold
          rw [q.2.2.2 i ⟨h0, by omega⟩]
          exact ihk (i + 1) _ (by omega) (by omega)
      unfold rowOf rowE row0
      rw [ff (F 3 n).toNat 0 _ (Int.le_refl _) (by omega), q.1, q.2.1, q.2.2.1]
    · rw [if_neg c, if_neg c]
theorem otb_congr {F G : Nat → Int → Int} : ∀ n : Nat, (∀ x : Int, 0 ≤ x ∧ x < n → F 5 x = G 5 x ∧ F 2 x = G 2 x ∧ F 3 x = G 3 x ∧ ∀ i : Int, 0 ≤ i ∧ i < F 3 x → F 4 (3 * x + i) = G 4 (3 * x + i)) → otb F n = otb G n := by
  intro n
  induction n with
  | zero => intro _; rfl
  | succ n ih =>
    intro h
    have e := ih (fun x hx => h x (by omega))
    have q := h n (by omega)
    funext x
    show (if x = n then ownOf F (otb F n) n else otb F n x) = if x = n then ownOf G (otb G n) n else otb G n x
    rw [e]
    by_cases c : x = n
    · rw [if_pos c, if_pos c]
      have ff : ∀ (k : Nat) (i v : Int), 0 ≤ i → i + k ≤ (F 3 n).toNat → ofold F (otb G n) n k i v = ofold G (otb G n) n k i v := by
        intro k
        induction k with
        | zero => intro i v _ _; rfl
        | succ k ihk =>
          intro i v h0 h1
          unfold ofold
          rw [q.2.2.2 i ⟨h0, by omega⟩]
          split
          · exact ihk (i + 1) _ (by omega) (by omega)
          · rfl
      unfold ownOf ownE
      rw [ff (F 3 n).toNat 0 _ (Int.le_refl _) (by omega), q.1, q.2.1, q.2.2.1]
    · rw [if_neg c, if_neg c]
/-- rows that the house is made of -/
def ba_fr (F0 F : Nat → Int → Int) : Prop := ∀ k : Nat, k ≠ 6 → k ≠ 7 → k ≠ 15 → k ≠ 16 → k ≠ 17 → k ≠ 13 → F k = F0 k
/-- all that holds between calls, of the reference -/
def md_all (I : Nat → Int) (F : Nat → Int → Int) (r : rn) : Prop := md_ok I F r ∧ md_hs I F ∧ md_hd I F ∧ rl_rg F ∧ md_bd I F ∧ I 3 = 1 ∧ (I 5 = 0 ∨ I 5 = 1)
theorem rg_ba {I : Nat → Int} {F0 F : Nat → Int → Int} (h : md_rg I F0) (hb : ba_fr F0 F) (hl : rl_rg F) (h17 : ∀ x : Int, 0 ≤ x ∧ x < 6 → -1 ≤ F 17 x ∧ F 17 x ≤ 5) : md_rg I F := by
  unfold md_rg at *
  obtain ⟨a, b, c, d, e, f⟩ := h
  refine ⟨a, fun k hk => ?_, fun k hk => ?_, fun k hk => ?_, fun k hk => ?_, fun k hk => ?_⟩
  · have := b k hk
    have := hl.1 k hk
    have := h17 k hk
    rw [hb 1 (by decide) (by decide) (by decide) (by decide) (by decide) (by decide), hb 2 (by decide) (by decide) (by decide) (by decide) (by decide) (by decide), hb 3 (by decide) (by decide) (by decide) (by decide) (by decide) (by decide)]
    omega
  · rw [hb 4 (by decide) (by decide) (by decide) (by decide) (by decide) (by decide)]
    exact c k hk
  · have := hl.2 k hk
    omega
  · rw [hb 8 (by decide) (by decide) (by decide) (by decide) (by decide) (by decide)]
    exact e k hk
  · rw [hb 9 (by decide) (by decide) (by decide) (by decide) (by decide) (by decide), hb 10 (by decide) (by decide) (by decide) (by decide) (by decide) (by decide), hb 11 (by decide) (by decide) (by decide) (by decide) (by decide) (by decide), hb 12 (by decide) (by decide) (by decide) (by decide) (by decide) (by decide)]
    exact f k hk
/-- a house whose rows were found anew, its run at its beginning -/
theorem all_ba {I I' : Nat → Int} {F0 F1 : Nat → Int → Int} {g : Int → Int} {r : rn} (hr : md_rg I F0) (hs : md_hs I F0) (hb : md_bd I F0) (h3 : I 3 = 1) (hl : rl_ok (tbl F0 (I 0).toNat) F0 F1 (I 0)) (hg : rf_ok (otb F0 (I 0).toNat) g (I 0)) (hI' : I' = fs_I I) : md_all I' (va_up (va_up F1 17 g) 13 (vec (rz r))) (rz r) := by
  subst hI'
  have hI := hr.1
  have e0 : fs_I I 0 = I 0 := rfl
  have e1 : fs_I I 1 = I 1 := rfl
  have hba : ba_fr F0 (va_up (va_up F1 17 g) 13 (vec (rz r))) := fun k h1 h2 h3 h4 h5 h6 => by
    rw [va_up_miss h6, va_up_miss h5]
    exact hl.1 k h1 h2 h3 h4
  have q1 := hba 1 (by decide) (by decide) (by decide) (by decide) (by decide) (by decide)
  have q2 := hba 2 (by decide) (by decide) (by decide) (by decide) (by decide) (by decide)
  have q3 := hba 3 (by decide) (by decide) (by decide) (by decide) (by decide) (by decide)
  have q4 := hba 4 (by decide) (by decide) (by decide) (by decide) (by decide) (by decide)
  have q5 := hba 5 (by decide) (by decide) (by decide) (by decide) (by decide) (by decide)
  have q8 := hba 8 (by decide) (by decide) (by decide) (by decide) (by decide) (by decide)
  have q9 := hba 9 (by decide) (by decide) (by decide) (by decide) (by decide) (by decide)
  have q10 := hba 10 (by decide) (by decide) (by decide) (by decide) (by decide) (by decide)
  have q6 : va_up (va_up F1 17 g) 13 (vec (rz r)) 6 = F1 6 := rfl
  have q7 : va_up (va_up F1 17 g) 13 (vec (rz r)) 7 = F1 7 := rfl
  have q15 : va_up (va_up F1 17 g) 13 (vec (rz r)) 15 = F1 15 := rfl
  have q16 : va_up (va_up F1 17 g) 13 (vec (rz r)) 16 = F1 16 := rfl
  have q17 : va_up (va_up F1 17 g) 13 (vec (rz r)) 17 = g := rfl
  have q13 : va_up (va_up F1 17 g) 13 (vec (rz r)) 13 = vec (rz r) := rfl
  have hl2 : rl_rg (va_up (va_up F1 17 g) 13 (vec (rz r))) := by
    unfold rl_rg
    rw [q6, q7, q15, q16]
    exact hl.2.1
  have hrg : md_rg (fs_I I) (va_up (va_up F1 17 g) 13 (vec (rz r))) := by
    refine rg_ba (F0 := F0) ?_ hba hl2 (fun x hx => by rw [q17]; exact hg.2 x hx)
    unfold md_rg at *
    rw [e0, e1]
    exact hr
  have et : tbl (va_up (va_up F1 17 g) 13 (vec (rz r))) (I 0).toNat = tbl F0 (I 0).toNat := tbl_congr _ (fun x hx => by
    rw [q1, q2, q3, q4]
    exact ⟨rfl, rfl, rfl, fun _ _ => rfl⟩)
  have eo : otb (va_up (va_up F1 17 g) 13 (vec (rz r))) (I 0).toNat = otb F0 (I 0).toNat := otb_congr _ (fun x hx => by
    rw [q5, q2, q3, q4]
    exact ⟨rfl, rfl, rfl, fun _ _ => rfl⟩)
  have hhs : md_hs (fs_I I) (va_up (va_up F1 17 g) 13 (vec (rz r))) := by
    unfold md_hs at *
    rw [e0, q1, q2, q3, q4, q5]
    exact hs
  have hhd : md_hd (fs_I I) (va_up (va_up F1 17 g) 13 (vec (rz r))) := by
    refine ⟨fun x hx => ?_, fun x hx => ?_⟩
    · rw [e0] at hx ⊢
      rw [et]
      have := hl.2.2 x hx
      unfold rl_x at *
      rw [q1, q6, q7, q15, q16]
      exact this
    · rw [e0] at hx ⊢
      rw [eo, q17]
      exact hg.1 x hx
  have hbd : md_bd (fs_I I) (va_up (va_up F1 17 g) 13 (vec (rz r))) := by
    unfold md_bd at *
    rw [e0, e1, q8, q9, q10]
    exact hb
  exact ⟨⟨q13, hrg, wf_of hrg hhs hhd hbd, iv_rz hrg, lg_first h3⟩, hhs, hhd, hl2, hbd, h3, Or.inl rfl⟩
