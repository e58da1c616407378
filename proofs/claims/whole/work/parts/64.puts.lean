/-! Changes of the cells of Types and Bodies. -/
def r3 (R : Nat → Int → Int → Int) (k : Nat) (t i v : Int) : Nat → Int → Int → Int := va_up R k (vI2 (R k) t i v)
theorem r3_hit {R : Nat → Int → Int → Int} {k : Nat} {t i v : Int} : r3 R k t i v k t i = v := by
  unfold r3
  rw [va_up_hit, vI2_hit]
theorem r3_row {R : Nat → Int → Int → Int} {k j : Nat} {t i v : Int} (h : j ≠ k) : r3 R k t i v j = R j := va_up_miss h
theorem r3_miss {R : Nat → Int → Int → Int} {k : Nat} {t i v a b : Int} (h : ¬ (a = t ∧ b = i)) : r3 R k t i v k a b = R k a b := by
  unfold r3
  rw [va_up_hit, vI2_miss h]
theorem r3_in {R : Nat → Int → Int → Int} {k : Nat} {t i v z : Int} (h : z ≠ t) : r3 R k t i v k z = R k z := by
  funext b
  exact r3_miss (fun q => h q.1)
theorem r3_at {R : Nat → Int → Int → Int} {k : Nat} {t i v : Int} : r3 R k t i v k t = vI (R k t) i v := by
  unfold r3
  rw [va_up_hit, vI2_row]
def ty_to (h : am_H) (q : Nat) (N : Int) (A : Nat → Int → Int) (R : Nat → Int → Int → Int) (h1 : am_H) : Prop := ty_at h1 q N A R ∧ (∀ a, (a < q ∨ q + 21 < a) → h1.1 a = h.1 a) ∧ h1.2 = h.2
def bo_to (h : am_H) (w q : Nat) (M : Int) (B : Nat → Int → Int) (K : Nat → Int → Int → Int) (h1 : am_H) : Prop := bo_at h1 w q M B K ∧ (∀ a, (a < w ∨ w + 52 < a) → h1.1 a = h.1 a) ∧ h1.2 = h.2
theorem ty_at.rf {h : am_H} {q : Nat} {N : Int} {A : Nat → Int → Int} {R : Nat → Int → Int → Int} (H : ty_at h q N A R) : ty_to h q N A R h := ⟨H, fun _ _ => rfl, rfl⟩
theorem ty_to.tr {h h1 h2 : am_H} {q : Nat} {N N1 : Int} {A A1 : Nat → Int → Int} {R R1 : Nat → Int → Int → Int} (H : ty_to h q N A R h1) (H1 : ty_to h1 q N1 A1 R1 h2) : ty_to h q N1 A1 R1 h2 := ⟨H1.1, fun a ha => (H1.2.1 a ha).trans (H.2.1 a ha), H1.2.2.trans H.2.2⟩
theorem bo_at.rf {h : am_H} {w q : Nat} {M : Int} {B : Nat → Int → Int} {K : Nat → Int → Int → Int} (H : bo_at h w q M B K) : bo_to h w q M B K h := ⟨H, fun _ _ => rfl, rfl⟩
theorem bo_to.tr {h h1 h2 : am_H} {w q : Nat} {M M1 : Int} {B B1 : Nat → Int → Int} {K K1 : Nat → Int → Int → Int} (H : bo_to h w q M B K h1) (H1 : bo_to h1 w q M1 B1 K1 h2) : bo_to h w q M1 B1 K1 h2 := ⟨H1.1, fun a ha => (H1.2.1 a ha).trans (H.2.1 a ha), H1.2.2.trans H.2.2⟩
theorem ty_to.num {h h1 : am_H} {q : Nat} {N : Int} {A : Nat → Int → Int} {R : Nat → Int → Int → Int} {N1 : Int} (H : ty_to h q N A R h1) : ty_to h q N1 A R (am_put h1 q (.inr (1, ty_fs q N1))) := by
  obtain ⟨⟨h0, hO, hA, hB, hS, hC, hT⟩, hf, h2⟩ := H
  have fr : ∀ a, a ≠ q → (am_put h1 q (.inr (1, ty_fs q N1))).1 a = h1.1 a := fun a ha => am_up_miss ha
  exact ⟨⟨h0, am_up_hit, fun k a b c => (fr _ (by omega)).trans (hA k a b c), (fr _ (by omega)).trans hB, fun z a b => (fr _ (by omega)).trans (hS z a b), (fr _ (by omega)).trans hC, fun z a b => (fr _ (by omega)).trans (hT z a b)⟩, fun a ha => (fr a (by omega)).trans (hf a ha), h2⟩
theorem ty_to.row {h h1 : am_H} {q : Nat} {N : Int} {A : Nat → Int → Int} {R : Nat → Int → Int → Int} {k t l : Nat} {g : Int → Int} (H : ty_to h q N A R h1) (hk : 1 ≤ k ∧ k ≤ 14 ∧ (k ≤ 3 ∨ 11 ≤ k)) (ht : t = ty_ty k) (hl : l = ty_len k) : ty_to h q N (va_up A k g) R (am_put h1 (q + k) (.inl (t, l, .inl (fun j : Nat => iI (g j))))) := by
  obtain ⟨⟨h0, hO, hA, hB, hS, hC, hT⟩, hf, h2⟩ := H
  have fr : ∀ a, a ≠ q + k → (am_put h1 (q + k) (.inl (t, l, .inl (fun j : Nat => iI (g j))))).1 a = h1.1 a := fun a ha => am_up_miss ha
  refine ⟨⟨h0, (fr _ (by omega)).trans hO, fun i a b c => ?_, (fr _ (by omega)).trans hB, fun z a b => (fr _ (by omega)).trans (hS z a b), (fr _ (by omega)).trans hC, fun z a b => (fr _ (by omega)).trans (hT z a b)⟩, fun a ha => (fr a (by omega)).trans (hf a ha), h2⟩
  by_cases e : i = k
  · subst e
    rw [am_put_1, am_up_hit, am_up_hit, ht, hl]
  · rw [am_up_miss e]
    exact (fr _ (by omega)).trans (hA i a b c)
theorem ty_to.r4 {h h1 : am_H} {q : Nat} {N : Int} {A : Nat → Int → Int} {R : Nat → Int → Int → Int} {t i v : Int} (H : ty_to h q N A R h1) (ht : 0 ≤ t ∧ t < 6) : ty_to h q N A (r3 R 4 t i v) (am_put h1 (q + 5 + t.toNat) (.inl (0, 6, .inl (fun j : Nat => iI (vI (R 4 t) i v j))))) := by
  obtain ⟨⟨h0, hO, hA, hB, hS, hC, hT⟩, hf, h2⟩ := H
  have fr : ∀ a, a ≠ q + 5 + t.toNat → (am_put h1 (q + 5 + t.toNat) (.inl (0, 6, .inl (fun j : Nat => iI (vI (R 4 t) i v j))))).1 a = h1.1 a := fun a ha => am_up_miss ha
  refine ⟨⟨h0, (fr _ (by omega)).trans hO, fun x a b c => (fr _ (by omega)).trans (hA x a b c), (fr _ (by omega)).trans hB, fun z a b => ?_, (fr _ (by omega)).trans hC, fun z a b => by
    rw [r3_row (by decide)]
    exact (fr _ (by omega)).trans (hT z a b)⟩, fun a ha => (fr a (by omega)).trans (hf a ha), h2⟩
  by_cases e : z = t
  · subst e
    rw [am_put_1, am_up_hit, r3_at]
  · rw [r3_in e]
    exact (fr _ (by omega)).trans (hS z a b)
theorem ty_to.r15 {h h1 : am_H} {q : Nat} {N : Int} {A : Nat → Int → Int} {R : Nat → Int → Int → Int} {t i v : Int} (H : ty_to h q N A R h1) (ht : 0 ≤ t ∧ t < 6) : ty_to h q N A (r3 R 15 t i v) (am_put h1 (q + 16 + t.toNat) (.inl (0, 3, .inl (fun j : Nat => iI (vI (R 15 t) i v j))))) := by
  obtain ⟨⟨h0, hO, hA, hB, hS, hC, hT⟩, hf, h2⟩ := H
  have fr : ∀ a, a ≠ q + 16 + t.toNat → (am_put h1 (q + 16 + t.toNat) (.inl (0, 3, .inl (fun j : Nat => iI (vI (R 15 t) i v j))))).1 a = h1.1 a := fun a ha => am_up_miss ha
  refine ⟨⟨h0, (fr _ (by omega)).trans hO, fun x a b c => (fr _ (by omega)).trans (hA x a b c), (fr _ (by omega)).trans hB, fun z a b => by
    rw [r3_row (by decide)]
    exact (fr _ (by omega)).trans (hS z a b), (fr _ (by omega)).trans hC, fun z a b => ?_⟩, fun a ha => (fr a (by omega)).trans (hf a ha), h2⟩
  by_cases e : z = t
  · subst e
    rw [am_put_1, am_up_hit, r3_at]
  · rw [r3_in e]
    exact (fr _ (by omega)).trans (hT z a b)
theorem bo_to.num {h h1 : am_H} {w q : Nat} {M : Int} {B : Nat → Int → Int} {K : Nat → Int → Int → Int} {M1 : Int} (H : bo_to h w q M B K h1) (hq : q + 22 ≤ w) : bo_to h w q M1 B K (am_put h1 w (.inr (2, bo_fs w q M1))) := by
  obtain ⟨⟨h0, hO, e1, e52, ⟨h3, h4⟩, ⟨h5, h6⟩, ⟨h7, h8⟩, ⟨h9, h10⟩, ⟨h11, h12⟩⟩, hf, g2⟩ := H
  have fr : ∀ a, a ≠ w → (am_put h1 w (.inr (2, bo_fs w q M1))).1 a = h1.1 a := fun a ha => am_up_miss ha
  exact ⟨⟨h0, am_up_hit, (fr _ (by omega)).trans e1, (fr _ (by omega)).trans e52, ⟨(fr _ (by omega)).trans h3, fun z a b => (fr _ (by omega)).trans (h4 z a b)⟩, ⟨(fr _ (by omega)).trans h5, fun z a b => (fr _ (by omega)).trans (h6 z a b)⟩, ⟨(fr _ (by omega)).trans h7, fun z a b => (fr _ (by omega)).trans (h8 z a b)⟩, ⟨(fr _ (by omega)).trans h9, fun z a b => (fr _ (by omega)).trans (h10 z a b)⟩, ⟨(fr _ (by omega)).trans h11, fun z a b => (fr _ (by omega)).trans (h12 z a b)⟩⟩, fun a ha => (fr a (by omega)).trans (hf a ha), g2⟩
theorem bo_to.b1 {h h1 : am_H} {w q : Nat} {M : Int} {B : Nat → Int → Int} {K : Nat → Int → Int → Int} {g : Int → Int} (H : bo_to h w q M B K h1) : bo_to h w q M (va_up B 1 g) K (am_put h1 (w + 1) (.inl (0, 9, .inl (fun j : Nat => iI (g j))))) := by
  obtain ⟨⟨h0, hO, e1, e52, ⟨h3, h4⟩, ⟨h5, h6⟩, ⟨h7, h8⟩, ⟨h9, h10⟩, ⟨h11, h12⟩⟩, hf, g2⟩ := H
  have fr : ∀ a, a ≠ w + 1 → (am_put h1 (w + 1) (.inl (0, 9, .inl (fun j : Nat => iI (g j))))).1 a = h1.1 a := fun a ha => am_up_miss ha
  refine ⟨⟨h0, (fr _ (by omega)).trans hO, ?_, by
    rw [am_up_miss (by decide)]
    exact (fr _ (by omega)).trans e52, ⟨(fr _ (by omega)).trans h3, fun z a b => (fr _ (by omega)).trans (h4 z a b)⟩, ⟨(fr _ (by omega)).trans h5, fun z a b => (fr _ (by omega)).trans (h6 z a b)⟩, ⟨(fr _ (by omega)).trans h7, fun z a b => (fr _ (by omega)).trans (h8 z a b)⟩, ⟨(fr _ (by omega)).trans h9, fun z a b => (fr _ (by omega)).trans (h10 z a b)⟩, ⟨(fr _ (by omega)).trans h11, fun z a b => (fr _ (by omega)).trans (h12 z a b)⟩⟩, fun a ha => (fr a (by omega)).trans (hf a ha), g2⟩
  rw [am_put_1, am_up_hit, am_up_hit]
theorem bo_to.b52 {h h1 : am_H} {w q : Nat} {M : Int} {B : Nat → Int → Int} {K : Nat → Int → Int → Int} {g : Int → Int} (H : bo_to h w q M B K h1) : bo_to h w q M (va_up B 52 g) K (am_put h1 (w + 52) (.inl (0, 9, .inl (fun j : Nat => iI (g j))))) := by
  obtain ⟨⟨h0, hO, e1, e52, ⟨h3, h4⟩, ⟨h5, h6⟩, ⟨h7, h8⟩, ⟨h9, h10⟩, ⟨h11, h12⟩⟩, hf, g2⟩ := H
  have fr : ∀ a, a ≠ w + 52 → (am_put h1 (w + 52) (.inl (0, 9, .inl (fun j : Nat => iI (g j))))).1 a = h1.1 a := fun a ha => am_up_miss ha
  refine ⟨⟨h0, (fr _ (by omega)).trans hO, by
    rw [am_up_miss (by decide)]
    exact (fr _ (by omega)).trans e1, ?_, ⟨(fr _ (by omega)).trans h3, fun z a b => (fr _ (by omega)).trans (h4 z a b)⟩, ⟨(fr _ (by omega)).trans h5, fun z a b => (fr _ (by omega)).trans (h6 z a b)⟩, ⟨(fr _ (by omega)).trans h7, fun z a b => (fr _ (by omega)).trans (h8 z a b)⟩, ⟨(fr _ (by omega)).trans h9, fun z a b => (fr _ (by omega)).trans (h10 z a b)⟩, ⟨(fr _ (by omega)).trans h11, fun z a b => (fr _ (by omega)).trans (h12 z a b)⟩⟩, fun a ha => (fr a (by omega)).trans (hf a ha), g2⟩
  rw [am_put_1, am_up_hit, am_up_hit]
theorem bo_to.k2 {h h1 : am_H} {w q : Nat} {M : Int} {B : Nat → Int → Int} {K : Nat → Int → Int → Int} {t i v : Int} (H : bo_to h w q M B K h1) (ht : 0 ≤ t ∧ t < 9) : bo_to h w q M B (r3 K 2 t i v) (am_put h1 (w + 3 + t.toNat) (.inl (0, 5, .inl (fun j : Nat => iI (vI (K 2 t) i v j))))) := by
  obtain ⟨⟨h0, hO, e1, e52, ⟨h3, h4⟩, ⟨h5, h6⟩, ⟨h7, h8⟩, ⟨h9, h10⟩, ⟨h11, h12⟩⟩, hf, g2⟩ := H
  have fr : ∀ a, a ≠ w + 3 + t.toNat → (am_put h1 (w + 3 + t.toNat) (.inl (0, 5, .inl (fun j : Nat => iI (vI (K 2 t) i v j))))).1 a = h1.1 a := fun a ha => am_up_miss ha
  refine ⟨⟨h0, (fr _ (by omega)).trans hO, (fr _ (by omega)).trans e1, (fr _ (by omega)).trans e52, ⟨(fr _ (by omega)).trans h3, fun z a b => ?_⟩, ⟨(fr _ (by omega)).trans h5, fun z a b => by
    rw [r3_row (by decide)]
    exact (fr _ (by omega)).trans (h6 z a b)⟩, ⟨(fr _ (by omega)).trans h7, fun z a b => by
    rw [r3_row (by decide)]
    exact (fr _ (by omega)).trans (h8 z a b)⟩, ⟨(fr _ (by omega)).trans h9, fun z a b => by
    rw [r3_row (by decide)]
    exact (fr _ (by omega)).trans (h10 z a b)⟩, ⟨(fr _ (by omega)).trans h11, fun z a b => by
    rw [r3_row (by decide)]
    exact (fr _ (by omega)).trans (h12 z a b)⟩⟩, fun a ha => (fr a (by omega)).trans (hf a ha), g2⟩
  by_cases e : z = t
  · subst e
    rw [am_put_1, am_up_hit, r3_at]
  · rw [r3_in e]
    exact (fr _ (by omega)).trans (h4 z a b)
theorem bo_to.k12 {h h1 : am_H} {w q : Nat} {M : Int} {B : Nat → Int → Int} {K : Nat → Int → Int → Int} {t i v : Int} (H : bo_to h w q M B K h1) (ht : 0 ≤ t ∧ t < 9) : bo_to h w q M B (r3 K 12 t i v) (am_put h1 (w + 13 + t.toNat) (.inl (0, 5, .inl (fun j : Nat => iI (vI (K 12 t) i v j))))) := by
  obtain ⟨⟨h0, hO, e1, e52, ⟨h3, h4⟩, ⟨h5, h6⟩, ⟨h7, h8⟩, ⟨h9, h10⟩, ⟨h11, h12⟩⟩, hf, g2⟩ := H
  have fr : ∀ a, a ≠ w + 13 + t.toNat → (am_put h1 (w + 13 + t.toNat) (.inl (0, 5, .inl (fun j : Nat => iI (vI (K 12 t) i v j))))).1 a = h1.1 a := fun a ha => am_up_miss ha
  refine ⟨⟨h0, (fr _ (by omega)).trans hO, (fr _ (by omega)).trans e1, (fr _ (by omega)).trans e52, ⟨(fr _ (by omega)).trans h3, fun z a b => by
    rw [r3_row (by decide)]
    exact (fr _ (by omega)).trans (h4 z a b)⟩, ⟨(fr _ (by omega)).trans h5, fun z a b => ?_⟩, ⟨(fr _ (by omega)).trans h7, fun z a b => by
    rw [r3_row (by decide)]
    exact (fr _ (by omega)).trans (h8 z a b)⟩, ⟨(fr _ (by omega)).trans h9, fun z a b => by
    rw [r3_row (by decide)]
    exact (fr _ (by omega)).trans (h10 z a b)⟩, ⟨(fr _ (by omega)).trans h11, fun z a b => by
    rw [r3_row (by decide)]
    exact (fr _ (by omega)).trans (h12 z a b)⟩⟩, fun a ha => (fr a (by omega)).trans (hf a ha), g2⟩
  by_cases e : z = t
  · subst e
    rw [am_put_1, am_up_hit, r3_at]
  · rw [r3_in e]
    exact (fr _ (by omega)).trans (h6 z a b)
theorem bo_to.k22 {h h1 : am_H} {w q : Nat} {M : Int} {B : Nat → Int → Int} {K : Nat → Int → Int → Int} {t i v : Int} (H : bo_to h w q M B K h1) (ht : 0 ≤ t ∧ t < 9) : bo_to h w q M B (r3 K 22 t i v) (am_put h1 (w + 23 + t.toNat) (.inl (0, 5, .inl (fun j : Nat => iI (vI (K 22 t) i v j))))) := by
  obtain ⟨⟨h0, hO, e1, e52, ⟨h3, h4⟩, ⟨h5, h6⟩, ⟨h7, h8⟩, ⟨h9, h10⟩, ⟨h11, h12⟩⟩, hf, g2⟩ := H
  have fr : ∀ a, a ≠ w + 23 + t.toNat → (am_put h1 (w + 23 + t.toNat) (.inl (0, 5, .inl (fun j : Nat => iI (vI (K 22 t) i v j))))).1 a = h1.1 a := fun a ha => am_up_miss ha
  refine ⟨⟨h0, (fr _ (by omega)).trans hO, (fr _ (by omega)).trans e1, (fr _ (by omega)).trans e52, ⟨(fr _ (by omega)).trans h3, fun z a b => by
    rw [r3_row (by decide)]
    exact (fr _ (by omega)).trans (h4 z a b)⟩, ⟨(fr _ (by omega)).trans h5, fun z a b => by
    rw [r3_row (by decide)]
    exact (fr _ (by omega)).trans (h6 z a b)⟩, ⟨(fr _ (by omega)).trans h7, fun z a b => ?_⟩, ⟨(fr _ (by omega)).trans h9, fun z a b => by
    rw [r3_row (by decide)]
    exact (fr _ (by omega)).trans (h10 z a b)⟩, ⟨(fr _ (by omega)).trans h11, fun z a b => by
    rw [r3_row (by decide)]
    exact (fr _ (by omega)).trans (h12 z a b)⟩⟩, fun a ha => (fr a (by omega)).trans (hf a ha), g2⟩
  by_cases e : z = t
  · subst e
    rw [am_put_1, am_up_hit, r3_at]
  · rw [r3_in e]
    exact (fr _ (by omega)).trans (h8 z a b)
theorem bo_to.k32 {h h1 : am_H} {w q : Nat} {M : Int} {B : Nat → Int → Int} {K : Nat → Int → Int → Int} {t i v : Int} (H : bo_to h w q M B K h1) (ht : 0 ≤ t ∧ t < 9) : bo_to h w q M B (r3 K 32 t i v) (am_put h1 (w + 33 + t.toNat) (.inl (0, 5, .inl (fun j : Nat => iI (vI (K 32 t) i v j))))) := by
  obtain ⟨⟨h0, hO, e1, e52, ⟨h3, h4⟩, ⟨h5, h6⟩, ⟨h7, h8⟩, ⟨h9, h10⟩, ⟨h11, h12⟩⟩, hf, g2⟩ := H
  have fr : ∀ a, a ≠ w + 33 + t.toNat → (am_put h1 (w + 33 + t.toNat) (.inl (0, 5, .inl (fun j : Nat => iI (vI (K 32 t) i v j))))).1 a = h1.1 a := fun a ha => am_up_miss ha
  refine ⟨⟨h0, (fr _ (by omega)).trans hO, (fr _ (by omega)).trans e1, (fr _ (by omega)).trans e52, ⟨(fr _ (by omega)).trans h3, fun z a b => by
    rw [r3_row (by decide)]
    exact (fr _ (by omega)).trans (h4 z a b)⟩, ⟨(fr _ (by omega)).trans h5, fun z a b => by
    rw [r3_row (by decide)]
    exact (fr _ (by omega)).trans (h6 z a b)⟩, ⟨(fr _ (by omega)).trans h7, fun z a b => by
    rw [r3_row (by decide)]
    exact (fr _ (by omega)).trans (h8 z a b)⟩, ⟨(fr _ (by omega)).trans h9, fun z a b => ?_⟩, ⟨(fr _ (by omega)).trans h11, fun z a b => by
    rw [r3_row (by decide)]
    exact (fr _ (by omega)).trans (h12 z a b)⟩⟩, fun a ha => (fr a (by omega)).trans (hf a ha), g2⟩
  by_cases e : z = t
  · subst e
    rw [am_put_1, am_up_hit, r3_at]
  · rw [r3_in e]
    exact (fr _ (by omega)).trans (h10 z a b)
theorem bo_to.k42 {h h1 : am_H} {w q : Nat} {M : Int} {B : Nat → Int → Int} {K : Nat → Int → Int → Int} {t i v : Int} (H : bo_to h w q M B K h1) (ht : 0 ≤ t ∧ t < 9) : bo_to h w q M B (r3 K 42 t i v) (am_put h1 (w + 43 + t.toNat) (.inl (0, 5, .inl (fun j : Nat => iI (vI (K 42 t) i v j))))) := by
  obtain ⟨⟨h0, hO, e1, e52, ⟨h3, h4⟩, ⟨h5, h6⟩, ⟨h7, h8⟩, ⟨h9, h10⟩, ⟨h11, h12⟩⟩, hf, g2⟩ := H
  have fr : ∀ a, a ≠ w + 43 + t.toNat → (am_put h1 (w + 43 + t.toNat) (.inl (0, 5, .inl (fun j : Nat => iI (vI (K 42 t) i v j))))).1 a = h1.1 a := fun a ha => am_up_miss ha
  refine ⟨⟨h0, (fr _ (by omega)).trans hO, (fr _ (by omega)).trans e1, (fr _ (by omega)).trans e52, ⟨(fr _ (by omega)).trans h3, fun z a b => by
    rw [r3_row (by decide)]
    exact (fr _ (by omega)).trans (h4 z a b)⟩, ⟨(fr _ (by omega)).trans h5, fun z a b => by
    rw [r3_row (by decide)]
    exact (fr _ (by omega)).trans (h6 z a b)⟩, ⟨(fr _ (by omega)).trans h7, fun z a b => by
    rw [r3_row (by decide)]
    exact (fr _ (by omega)).trans (h8 z a b)⟩, ⟨(fr _ (by omega)).trans h9, fun z a b => by
    rw [r3_row (by decide)]
    exact (fr _ (by omega)).trans (h10 z a b)⟩, ⟨(fr _ (by omega)).trans h11, fun z a b => ?_⟩⟩, fun a ha => (fr a (by omega)).trans (hf a ha), g2⟩
  by_cases e : z = t
  · subst e
    rw [am_put_1, am_up_hit, r3_at]
  · rw [r3_in e]
    exact (fr _ (by omega)).trans (h12 z a b)
