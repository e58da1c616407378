theorem al_le_of {l m : am_L} (h1 : ∀ q, q ∈ l → q ∈ m) (h2 : (m.map Prod.fst).Nodup) : al_le l m := by
  refine ⟨h1, ?_⟩
  clear h1
  induction m with
  | nil => intro q hq; cases hq
  | cons a m ih =>
    have h3 := List.nodup_cons.mp h2
    intro q hq p hp e
    rcases List.mem_cons.mp hq with q1 | hq <;> rcases List.mem_cons.mp hp with p1 | hp
    · rw [q1, p1]
    · exact absurd (List.mem_map.mpr ⟨p, hp, by rw [← e, q1]⟩) h3.1
    · exact absurd (List.mem_map.mpr ⟨q, hq, by rw [e, p1]⟩) h3.1
    · exact ih h3.2 q hq p hp e
/-! Rows of the log, one after another. -/
def sp_LI : List (Int × Int × Int) → (Nat → Int) → Nat → Int
  | [], I => I
  | _ :: L, I => sp_LI L (sp_lI I)
def sp_LF : List (Int × Int × Int) → (Nat → Int) → (Nat → Int → Int) → Nat → Int → Int
  | [], _, F => F
  | e :: L, I, F => sp_LF L (sp_lI I) (sp_lF I F e.1 e.2.1 e.2.2)
theorem sp_lI_k {I : Nat → Int} {k : Nat} (hk : k ≠ 4) : sp_lI I k = I k := by
  unfold sp_lI
  split
  · rfl
  · unfold va_up
    rw [if_neg hk]
theorem sp_lF_k {I : Nat → Int} {F : Nat → Int → Int} {a b c : Int} {k : Nat} (hk : k ≠ 14) : sp_lF I F a b c k = F k := by
  unfold sp_lF
  split
  · rfl
  · unfold va_up
    rw [if_neg hk]
theorem va_up_hit {α : Type} {f : Nat → α} {k : Nat} {v : α} : va_up f k v k = v := if_pos rfl
theorem va_up_miss {α : Type} {f : Nat → α} {i k : Nat} {v : α} (h : i ≠ k) : va_up f k v i = f i := if_neg h
theorem va_up_up {α : Type} {f : Nat → α} {k : Nat} {v w : α} : va_up (va_up f k v) k w = va_up f k w := by
  funext i
  unfold va_up
  split <;> rfl
theorem va_up_sw {α : Type} {f : Nat → α} {i k : Nat} {v w : α} (h : i ≠ k) : va_up (va_up f i v) k w = va_up (va_up f k w) i v := by
  funext x
  unfold va_up
  by_cases h1 : x = k
  · rw [if_pos h1, if_neg (fun q => h (q.symm.trans h1)), if_pos h1]
  · rw [if_neg h1]
    by_cases h2 : x = i
    · rw [if_pos h2, if_pos h2]
    · rw [if_neg h2, if_neg h2, if_neg h1]
theorem va_up_same {α : Type} {f : Nat → α} {k : Nat} {v : α} (h : f k = v) : va_up f k v = f := by
  funext i
  unfold va_up
  split
  · rename_i c
    rw [c, h]
  · rfl
theorem sp_lF_up {I : Nat → Int} {F : Nat → Int → Int} {a b c : Int} {g : Int → Int} : va_up (sp_lF I F a b c) 13 g = sp_lF I (va_up F 13 g) a b c := by
  unfold sp_lF
  split
  · rfl
  · rw [va_up_sw (by decide), va_up_miss (by decide)]
theorem sp_LI_k {k : Nat} (hk : k ≠ 4) : ∀ (L : List (Int × Int × Int)) (I : Nat → Int), sp_LI L I k = I k := by
  intro L
  induction L with
  | nil => intro I; rfl
  | cons e L ih =>
    intro I
    exact (ih _).trans (sp_lI_k hk)
theorem sp_LF_k {k : Nat} (hk : k ≠ 14) : ∀ (L : List (Int × Int × Int)) (I : Nat → Int) (F : Nat → Int → Int), sp_LF L I F k = F k := by
  intro L
  induction L with
  | nil => intro I F; rfl
  | cons e L ih =>
    intro I F
    exact (ih _ _).trans (sp_lF_k hk)
theorem sp_LF_up {g : Int → Int} : ∀ (L : List (Int × Int × Int)) (I : Nat → Int) (F : Nat → Int → Int), va_up (sp_LF L I F) 13 g = sp_LF L I (va_up F 13 g) := by
  intro L
  induction L with
  | nil => intro I F; rfl
  | cons e L ih =>
    intro I F
    have := ih (sp_lI I) (sp_lF I F e.1 e.2.1 e.2.2)
    rw [sp_lF_up] at this
    exact this
theorem md_rg_of {I I' : Nat → Int} {F F' : Nat → Int → Int} (h : md_rg I F) (h0 : I' 0 = I 0) (h1 : I' 1 = I 1) (hk : ∀ k : Nat, k ≠ 13 → k ≠ 14 → F' k = F k) : md_rg I' F' := by
  unfold md_rg at *
  rw [h0, h1, hk 1 (by decide) (by decide), hk 2 (by decide) (by decide), hk 3 (by decide) (by decide), hk 4 (by decide) (by decide), hk 6 (by decide) (by decide), hk 7 (by decide) (by decide), hk 8 (by decide) (by decide), hk 9 (by decide) (by decide), hk 10 (by decide) (by decide), hk 11 (by decide) (by decide), hk 12 (by decide) (by decide), hk 17 (by decide) (by decide)]
  exact h
theorem rn_iv_of {I I' : Nat → Int} {F F' : Nat → Int → Int} {r : rn} (h : rn_iv I F r) (h0 : I' 0 = I 0) (h1 : I' 1 = I 1) (hk : ∀ k : Nat, k ≠ 13 → k ≠ 14 → F' k = F k) : rn_iv I' F' r := by
  unfold rn_iv at *
  rw [h0, h1, hk 5 (by decide) (by decide), hk 6 (by decide) (by decide), hk 8 (by decide) (by decide)]
  exact h
/-- rows of the log have room -/
def lg_ok (I : Nat → Int) (r : rn) : Prop := I 3 = 0 ∨ I 3 = 1 ∧ 0 ≤ I 4 ∧ I 4 + mu 7 r ≤ 60
theorem lg_next {I : Nat → Int} {r r' : rn} (h : lg_ok I r) (hm : mu 7 r' ≤ mu 7 r - 1) : lg_ok (sp_lI I) r' := by
  unfold lg_ok at *
  rw [sp_lI_k (by decide)]
  rcases h with h | h
  · exact Or.inl h
  · refine Or.inr ⟨h.1, ?_⟩
    unfold sp_lI
    rw [if_neg (by omega), va_up_hit]
    omega
theorem mu_go {a : Int} (ha : 2 ≤ a) {r : rn} (hr : rn_rg r) {th t st : Int} (ht : 0 ≤ t ∧ t < 6) (hs : r_st r t = 1) (hst : st = 2 ∨ st = 3) : mu a (sq_go r th t st) ≤ mu a r - 1 := by
  have e := hr.1 t ht
  have e1 := s6_at (f := mu_t a (sq_go r th t st)) (g := mu_t a r) ht (fun x hx hn => by
    have q1 : r_st (sq_go r th t st) x = r_st r x := vI_miss hn
    have q2 : r_ls (sq_go r th t st) x = r_ls r x := vI_miss hn
    have q3 : r_at (sq_go r th t st) x = r_at r x := vI_miss hn
    unfold mu_t
    rw [q1, q2, q3])
  have e2 : mu_t a (sq_go r th t st) t = 0 := by
    have q1 : r_st (sq_go r th t st) t = st := vI_hit
    unfold mu_t mu_f
    rw [q1, if_neg (by omega), if_neg (by omega)]
  have e3 : 1 ≤ mu_t a r t := by
    unfold mu_t mu_f
    rw [hs, if_neg (by decide), if_pos rfl]
    split <;> omega
  have e4 : mu_h (sq_go r th t st) = mu_h r := rfl
  unfold mu
  rw [e4]
  omega
theorem mu_end {a : Int} {r : rn} (hr : rn_rg r) {th n : Int} (ht : 0 ≤ th ∧ th < 3) (hs : r_en r th = 0) (hn : 0 ≤ n) : mu a (sq_end r th n) ≤ mu a r - 1 := by
  have e := hr.2.1 th ht
  have e1 := s3_at (f := mu_h (sq_end r th n)) (g := mu_h r) ht (fun x hx hn => by
    have q1 : r_en (sq_end r th n) x = r_en r x := vI_miss hn
    have q2 : r_ha (sq_end r th n) x = r_ha r x := vI_miss hn
    unfold mu_h
    rw [q1, q2])
  have e2 : mu_h (sq_end r th n) th = 0 := by
    have q1 : r_en (sq_end r th n) th = 2 + n := vI_hit
    unfold mu_h mu_g
    rw [q1, if_neg (by omega)]
  have e3 : 1 ≤ mu_h r th := by
    unfold mu_h mu_g
    rw [if_pos hs]
    omega
  have e4 : mu_t a (sq_end r th n) = mu_t a r := rfl
  unfold mu
  rw [e4]
  omega
theorem mu_at {a : Int} {r : rn} {t v : Int} (ht : 0 ≤ t ∧ t < 6) (hs : r_st r t = 1) (hl : r_ls r t < 0) : mu a (u_at r t v) = mu a r - (v - r_at r t) := by
  have e1 := s6_at (f := mu_t a (u_at r t v)) (g := mu_t a r) ht (fun x hx hn => by
    have q3 : r_at (u_at r t v) x = r_at r x := vI_miss hn
    unfold mu_t
    rw [q3]
    rfl)
  have e2 : mu_t a (u_at r t v) t = 6 - v := by
    have q3 : r_at (u_at r t v) t = v := vI_hit
    have q1 : r_st (u_at r t v) t = 1 := hs
    have q2 : r_ls (u_at r t v) t < 0 := hl
    unfold mu_t mu_f
    rw [q1, q3, if_neg (by decide), if_pos rfl, if_neg (by omega)]
  have e3 : mu_t a r t = 6 - r_at r t := by
    unfold mu_t mu_f
    rw [hs, if_neg (by decide), if_pos rfl, if_neg (by omega)]
  have e4 : mu_h (u_at r t v) = mu_h r := rfl
  unfold mu
  rw [e4]
  omega
theorem mu_ha {a : Int} {r : rn} {th v : Int} (ht : 0 ≤ th ∧ th < 3) (hs : r_en r th = 0) : mu a (u_ha r th v) = mu a r - (v - r_ha r th) := by
  have e1 := s3_at (f := mu_h (u_ha r th v)) (g := mu_h r) ht (fun x hx hn => by
    have q3 : r_ha (u_ha r th v) x = r_ha r x := vI_miss hn
    unfold mu_h
    rw [q3]
    rfl)
  have e2 : mu_h (u_ha r th v) th = 6 - v := by
    have q3 : r_ha (u_ha r th v) th = v := vI_hit
    have q1 : r_en (u_ha r th v) th = 0 := hs
    unfold mu_h mu_g
    rw [q1, q3, if_pos rfl]
  have e3 : mu_h r th = 6 - r_ha r th := by
    unfold mu_h mu_g
    rw [if_pos hs]
  have e4 : mu_t a (u_ha r th v) = mu_t a r := rfl
  unfold mu
  rw [e4]
  omega
