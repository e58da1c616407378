/-! The cells of the class: rows of rows (rw_f), its objects Types (ty, at q), Bodies (bo, at w), Run and its Log (ru, at p). -/
def rw_f (b n : Nat) : Nat → Option Nat := fun i => if i < n then some (b + i) else none
theorem rw_hit {b n : Nat} {z : Int} (h1 : 0 ≤ z) (h2 : z < n) (h3 : z < 2147483648) : va_rf (rw_f b n (iI z).toNatClampNeg) = .ref (b + z.toNat) := by
  have e := iI_ix h1 h3
  have e2 : (iI z).toNatClampNeg = z.toNat := by omega
  unfold rw_f
  rw [e2, if_pos (by omega)]
  rfl
def ru_fs (p q w : Nat) (n : Int) : List Value := [.int (iI n), .ref (p + 1), .ref (p + 3), .ref (p + 4), .ref (p + 5), .ref (p + 6), .ref (p + 10), .ref q, .ref w, .ref (p + 11), .ref (p + 12), .ref (p + 13), .ref (p + 14), .ref (p + 15)]
theorem ru_fs_len {p q w : Nat} {n : Int} : (ru_fs p q w n).length = 14 := Eq.trans rfl rfl
theorem ru_f0 {p q w : Nat} {n : Int} {g : Value → Option am_C} : am_fd (ru_fs p q w n) 0 g = g (.int (iI n)) := Eq.trans rfl rfl
theorem ru_f1 {p q w : Nat} {n : Int} {g : Value → Option am_C} : am_fd (ru_fs p q w n) 1 g = g (.ref (p + 1)) := Eq.trans rfl rfl
theorem ru_f2 {p q w : Nat} {n : Int} {g : Value → Option am_C} : am_fd (ru_fs p q w n) 2 g = g (.ref (p + 3)) := Eq.trans rfl rfl
theorem ru_f3 {p q w : Nat} {n : Int} {g : Value → Option am_C} : am_fd (ru_fs p q w n) 3 g = g (.ref (p + 4)) := Eq.trans rfl rfl
theorem ru_f4 {p q w : Nat} {n : Int} {g : Value → Option am_C} : am_fd (ru_fs p q w n) 4 g = g (.ref (p + 5)) := Eq.trans rfl rfl
theorem ru_f5 {p q w : Nat} {n : Int} {g : Value → Option am_C} : am_fd (ru_fs p q w n) 5 g = g (.ref (p + 6)) := Eq.trans rfl rfl
theorem ru_f6 {p q w : Nat} {n : Int} {g : Value → Option am_C} : am_fd (ru_fs p q w n) 6 g = g (.ref (p + 10)) := Eq.trans rfl rfl
theorem ru_f7 {p q w : Nat} {n : Int} {g : Value → Option am_C} : am_fd (ru_fs p q w n) 7 g = g (.ref q) := Eq.trans rfl rfl
theorem ru_f8 {p q w : Nat} {n : Int} {g : Value → Option am_C} : am_fd (ru_fs p q w n) 8 g = g (.ref w) := Eq.trans rfl rfl
theorem ru_f9 {p q w : Nat} {n : Int} {g : Value → Option am_C} : am_fd (ru_fs p q w n) 9 g = g (.ref (p + 11)) := Eq.trans rfl rfl
theorem ru_f10 {p q w : Nat} {n : Int} {g : Value → Option am_C} : am_fd (ru_fs p q w n) 10 g = g (.ref (p + 12)) := Eq.trans rfl rfl
theorem ru_f11 {p q w : Nat} {n : Int} {g : Value → Option am_C} : am_fd (ru_fs p q w n) 11 g = g (.ref (p + 13)) := Eq.trans rfl rfl
theorem ru_f12 {p q w : Nat} {n : Int} {g : Value → Option am_C} : am_fd (ru_fs p q w n) 12 g = g (.ref (p + 14)) := Eq.trans rfl rfl
theorem ru_f13 {p q w : Nat} {n : Int} {g : Value → Option am_C} : am_fd (ru_fs p q w n) 13 g = g (.ref (p + 15)) := Eq.trans rfl rfl
theorem ru_s0 {p q w : Nat} {n : Int} {x0 : Int} : (ru_fs p q w n).set 0 (.int (iI x0)) = ru_fs p q w x0 := Eq.trans rfl rfl
def ru_ty (k : Nat) : Nat := if k = 12 then 3 else 0
def ru_len (k : Nat) : Nat := match k with
  | 2 => 180
  | 3 => 6
  | 4 => 6
  | 5 => 6
  | 10 => 3
  | 11 => 6
  | 12 => 6
  | 13 => 9
  | 14 => 9
  | _ => 3
theorem ru_t2 : ru_ty 2 = 0 := Eq.trans rfl rfl
theorem ru_l2 : ru_len 2 = 180 := Eq.trans rfl rfl
theorem ru_t3 : ru_ty 3 = 0 := Eq.trans rfl rfl
theorem ru_l3 : ru_len 3 = 6 := Eq.trans rfl rfl
theorem ru_t4 : ru_ty 4 = 0 := Eq.trans rfl rfl
theorem ru_l4 : ru_len 4 = 6 := Eq.trans rfl rfl
theorem ru_t5 : ru_ty 5 = 0 := Eq.trans rfl rfl
theorem ru_l5 : ru_len 5 = 6 := Eq.trans rfl rfl
theorem ru_t10 : ru_ty 10 = 0 := Eq.trans rfl rfl
theorem ru_l10 : ru_len 10 = 3 := Eq.trans rfl rfl
theorem ru_t11 : ru_ty 11 = 0 := Eq.trans rfl rfl
theorem ru_l11 : ru_len 11 = 6 := Eq.trans rfl rfl
theorem ru_t12 : ru_ty 12 = 3 := Eq.trans rfl rfl
theorem ru_l12 : ru_len 12 = 6 := Eq.trans rfl rfl
theorem ru_t13 : ru_ty 13 = 0 := Eq.trans rfl rfl
theorem ru_l13 : ru_len 13 = 9 := Eq.trans rfl rfl
theorem ru_t14 : ru_ty 14 = 0 := Eq.trans rfl rfl
theorem ru_l14 : ru_len 14 = 9 := Eq.trans rfl rfl
theorem ru_t15 : ru_ty 15 = 0 := Eq.trans rfl rfl
theorem ru_l15 : ru_len 15 = 3 := Eq.trans rfl rfl
def lo_fs (p : Nat) (m : Int) : List Value := [.int (iI m), .ref (p + 2)]
theorem lo_fs_len {p : Nat} {m : Int} : (lo_fs p m).length = 2 := Eq.trans rfl rfl
theorem lo_f0 {p : Nat} {m : Int} {g : Value → Option am_C} : am_fd (lo_fs p m) 0 g = g (.int (iI m)) := Eq.trans rfl rfl
theorem lo_f1 {p : Nat} {m : Int} {g : Value → Option am_C} : am_fd (lo_fs p m) 1 g = g (.ref (p + 2)) := Eq.trans rfl rfl
theorem lo_s0 {p : Nat} {m : Int} {x0 : Int} : (lo_fs p m).set 0 (.int (iI x0)) = lo_fs p x0 := Eq.trans rfl rfl
def ty_fs (q : Nat) (N : Int) : List Value := [.int (iI N), .ref (q + 1), .ref (q + 2), .ref (q + 3), .ref (q + 4), .ref (q + 11), .ref (q + 12), .ref (q + 13), .ref (q + 14), .ref (q + 15)]
theorem ty_fs_len {q : Nat} {N : Int} : (ty_fs q N).length = 10 := Eq.trans rfl rfl
theorem ty_f0 {q : Nat} {N : Int} {g : Value → Option am_C} : am_fd (ty_fs q N) 0 g = g (.int (iI N)) := Eq.trans rfl rfl
theorem ty_f1 {q : Nat} {N : Int} {g : Value → Option am_C} : am_fd (ty_fs q N) 1 g = g (.ref (q + 1)) := Eq.trans rfl rfl
theorem ty_f2 {q : Nat} {N : Int} {g : Value → Option am_C} : am_fd (ty_fs q N) 2 g = g (.ref (q + 2)) := Eq.trans rfl rfl
theorem ty_f3 {q : Nat} {N : Int} {g : Value → Option am_C} : am_fd (ty_fs q N) 3 g = g (.ref (q + 3)) := Eq.trans rfl rfl
theorem ty_f4 {q : Nat} {N : Int} {g : Value → Option am_C} : am_fd (ty_fs q N) 4 g = g (.ref (q + 4)) := Eq.trans rfl rfl
theorem ty_f5 {q : Nat} {N : Int} {g : Value → Option am_C} : am_fd (ty_fs q N) 5 g = g (.ref (q + 11)) := Eq.trans rfl rfl
theorem ty_f6 {q : Nat} {N : Int} {g : Value → Option am_C} : am_fd (ty_fs q N) 6 g = g (.ref (q + 12)) := Eq.trans rfl rfl
theorem ty_f7 {q : Nat} {N : Int} {g : Value → Option am_C} : am_fd (ty_fs q N) 7 g = g (.ref (q + 13)) := Eq.trans rfl rfl
theorem ty_f8 {q : Nat} {N : Int} {g : Value → Option am_C} : am_fd (ty_fs q N) 8 g = g (.ref (q + 14)) := Eq.trans rfl rfl
theorem ty_f9 {q : Nat} {N : Int} {g : Value → Option am_C} : am_fd (ty_fs q N) 9 g = g (.ref (q + 15)) := Eq.trans rfl rfl
theorem ty_s0 {q : Nat} {N : Int} {x0 : Int} : (ty_fs q N).set 0 (.int (iI x0)) = ty_fs q x0 := Eq.trans rfl rfl
def ty_ty (k : Nat) : Nat := if k = 1 then 3 else 0
def ty_len (k : Nat) : Nat := match k with
  | 1 => 6
  | 2 => 6
  | 3 => 6
  | 11 => 6
  | 12 => 6
  | 13 => 6
  | _ => 6
theorem ty_t1 : ty_ty 1 = 3 := Eq.trans rfl rfl
theorem ty_l1 : ty_len 1 = 6 := Eq.trans rfl rfl
theorem ty_t2 : ty_ty 2 = 0 := Eq.trans rfl rfl
theorem ty_l2 : ty_len 2 = 6 := Eq.trans rfl rfl
theorem ty_t3 : ty_ty 3 = 0 := Eq.trans rfl rfl
theorem ty_l3 : ty_len 3 = 6 := Eq.trans rfl rfl
theorem ty_t11 : ty_ty 11 = 0 := Eq.trans rfl rfl
theorem ty_l11 : ty_len 11 = 6 := Eq.trans rfl rfl
theorem ty_t12 : ty_ty 12 = 0 := Eq.trans rfl rfl
theorem ty_l12 : ty_len 12 = 6 := Eq.trans rfl rfl
theorem ty_t13 : ty_ty 13 = 0 := Eq.trans rfl rfl
theorem ty_l13 : ty_len 13 = 6 := Eq.trans rfl rfl
theorem ty_t14 : ty_ty 14 = 0 := Eq.trans rfl rfl
theorem ty_l14 : ty_len 14 = 6 := Eq.trans rfl rfl
def ts_fs (o : Nat) (v : Int) : List Value := [.ref (o + 1), .ref (o + 23), .ref (o + 76), .ref (o + 92), .int (iI v)]
theorem ts_fs_len {o : Nat} {v : Int} : (ts_fs o v).length = 5 := Eq.trans rfl rfl
theorem ts_f0 {o : Nat} {v : Int} {g : Value → Option am_C} : am_fd (ts_fs o v) 0 g = g (.ref (o + 1)) := Eq.trans rfl rfl
theorem ts_f1 {o : Nat} {v : Int} {g : Value → Option am_C} : am_fd (ts_fs o v) 1 g = g (.ref (o + 23)) := Eq.trans rfl rfl
theorem ts_f2 {o : Nat} {v : Int} {g : Value → Option am_C} : am_fd (ts_fs o v) 2 g = g (.ref (o + 76)) := Eq.trans rfl rfl
theorem ts_f3 {o : Nat} {v : Int} {g : Value → Option am_C} : am_fd (ts_fs o v) 3 g = g (.ref (o + 92)) := Eq.trans rfl rfl
theorem ts_f4 {o : Nat} {v : Int} {g : Value → Option am_C} : am_fd (ts_fs o v) 4 g = g (.int (iI v)) := Eq.trans rfl rfl
theorem ts_s4 {o : Nat} {v : Int} {x0 : Int} : (ts_fs o v).set 4 (.int (iI x0)) = ts_fs o x0 := Eq.trans rfl rfl
def bo_fs (w q : Nat) (M : Int) : List Value := [.int (iI M), .ref (w + 1), .ref (w + 2), .ref (w + 12), .ref (w + 22), .ref (w + 32), .ref q, .ref (w + 42), .ref (w + 52)]
theorem bo_fs_len {w q : Nat} {M : Int} : (bo_fs w q M).length = 9 := Eq.trans rfl rfl
theorem bo_f0 {w q : Nat} {M : Int} {g : Value → Option am_C} : am_fd (bo_fs w q M) 0 g = g (.int (iI M)) := Eq.trans rfl rfl
theorem bo_f1 {w q : Nat} {M : Int} {g : Value → Option am_C} : am_fd (bo_fs w q M) 1 g = g (.ref (w + 1)) := Eq.trans rfl rfl
theorem bo_f2 {w q : Nat} {M : Int} {g : Value → Option am_C} : am_fd (bo_fs w q M) 2 g = g (.ref (w + 2)) := Eq.trans rfl rfl
theorem bo_f3 {w q : Nat} {M : Int} {g : Value → Option am_C} : am_fd (bo_fs w q M) 3 g = g (.ref (w + 12)) := Eq.trans rfl rfl
theorem bo_f4 {w q : Nat} {M : Int} {g : Value → Option am_C} : am_fd (bo_fs w q M) 4 g = g (.ref (w + 22)) := Eq.trans rfl rfl
theorem bo_f5 {w q : Nat} {M : Int} {g : Value → Option am_C} : am_fd (bo_fs w q M) 5 g = g (.ref (w + 32)) := Eq.trans rfl rfl
theorem bo_f6 {w q : Nat} {M : Int} {g : Value → Option am_C} : am_fd (bo_fs w q M) 6 g = g (.ref q) := Eq.trans rfl rfl
theorem bo_f7 {w q : Nat} {M : Int} {g : Value → Option am_C} : am_fd (bo_fs w q M) 7 g = g (.ref (w + 42)) := Eq.trans rfl rfl
theorem bo_f8 {w q : Nat} {M : Int} {g : Value → Option am_C} : am_fd (bo_fs w q M) 8 g = g (.ref (w + 52)) := Eq.trans rfl rfl
theorem bo_s0 {w q : Nat} {M : Int} {x0 : Int} : (bo_fs w q M).set 0 (.int (iI x0)) = bo_fs w q x0 := Eq.trans rfl rfl
def ru_at (h : am_H) (p q w : Nat) (n m : Int) (X : Nat → Int → Int) (S : Int → Int → Int) : Prop :=
  0 < p ∧ h.1 p = .inr (3, ru_fs p q w n) ∧ h.1 (p + 1) = .inr (4, lo_fs p m) ∧
  (∀ k, 2 ≤ k → k ≤ 15 → (k ≤ 5 ∨ 10 ≤ k) → h.1 (p + k) = .inl (ru_ty k, ru_len k, .inl (fun j : Nat => iI (X k j)))) ∧
  h.1 (p + 6) = .inl (4, 3, .inr (.inr (.inr (.inr (rw_f (p + 7) 3))))) ∧
  (∀ z : Int, 0 ≤ z → z < 3 → h.1 (p + 7 + z.toNat) = .inl (0, 6, .inl (fun j : Nat => iI (S z j))))
def ru_to (h : am_H) (p q w : Nat) (n m : Int) (X : Nat → Int → Int) (S : Int → Int → Int) (h1 : am_H) : Prop := ru_at h1 p q w n m X S ∧ (∀ a, (a < p ∨ p + 15 < a) → h1.1 a = h.1 a) ∧ h1.2 = h.2
theorem ru_at.rf {h : am_H} {p q w : Nat} {n m : Int} {X : Nat → Int → Int} {S : Int → Int → Int} (H : ru_at h p q w n m X S) : ru_to h p q w n m X S h := ⟨H, fun _ _ => rfl, rfl⟩
theorem ru_to.tr {h h1 h2 : am_H} {p q w : Nat} {n m n1 m1 : Int} {X X1 : Nat → Int → Int} {S S1 : Int → Int → Int} (H : ru_to h p q w n m X S h1) (H1 : ru_to h1 p q w n1 m1 X1 S1 h2) : ru_to h p q w n1 m1 X1 S1 h2 := ⟨H1.1, fun a ha => (H1.2.1 a ha).trans (H.2.1 a ha), H1.2.2.trans H.2.2⟩
theorem ru_to.row {h h1 : am_H} {p q w : Nat} {n m : Int} {X : Nat → Int → Int} {S : Int → Int → Int} {k t l : Nat} {g : Int → Int} (H : ru_to h p q w n m X S h1) (hk : 2 ≤ k ∧ k ≤ 15 ∧ (k ≤ 5 ∨ 10 ≤ k)) (ht : t = ru_ty k) (hl : l = ru_len k) : ru_to h p q w n m (va_up X k g) S (am_put h1 (p + k) (.inl (t, l, .inl (fun j : Nat => iI (g j))))) := by
  obtain ⟨⟨h0, hO, hG, hA, hB, hS⟩, hf, h2⟩ := H
  refine ⟨⟨h0, ?_, ?_, fun i h3 h4 h5 => ?_, ?_, fun z h3 h4 => ?_⟩, fun a ha => ?_, h2⟩
  · show va_up h1.1 (p + k) _ p = _
    rw [am_up_miss (by omega)]
    exact hO
  · show va_up h1.1 (p + k) _ (p + 1) = _
    rw [am_up_miss (by omega)]
    exact hG
  · show va_up h1.1 (p + k) _ (p + i) = _
    by_cases e : i = k
    · subst e
      rw [am_up_hit, am_up_hit, ht, hl]
    · rw [am_up_miss (by omega), am_up_miss e]
      exact hA i h3 h4 h5
  · show va_up h1.1 (p + k) _ (p + 6) = _
    rw [am_up_miss (by omega)]
    exact hB
  · show va_up h1.1 (p + k) _ (p + 7 + z.toNat) = _
    rw [am_up_miss (by omega)]
    exact hS z h3 h4
  · show va_up h1.1 (p + k) _ a = _
    rw [am_up_miss (by omega)]
    exact hf a ha
theorem ru_to.stk {h h1 : am_H} {p q w : Nat} {n m : Int} {X : Nat → Int → Int} {S : Int → Int → Int} {th i v : Int} (H : ru_to h p q w n m X S h1) (hth : 0 ≤ th ∧ th < 3) : ru_to h p q w n m X (vI2 S th i v) (am_put h1 (p + 7 + th.toNat) (.inl (0, 6, .inl (fun j : Nat => iI (vI (S th) i v j))))) := by
  obtain ⟨⟨h0, hO, hG, hA, hB, hS⟩, hf, h2⟩ := H
  refine ⟨⟨h0, ?_, ?_, fun i h3 h4 h5 => ?_, ?_, fun z h3 h4 => ?_⟩, fun a ha => ?_, h2⟩
  · show va_up h1.1 (p + 7 + th.toNat) _ p = _
    rw [am_up_miss (by omega)]
    exact hO
  · show va_up h1.1 (p + 7 + th.toNat) _ (p + 1) = _
    rw [am_up_miss (by omega)]
    exact hG
  · show va_up h1.1 (p + 7 + th.toNat) _ (p + i) = _
    rw [am_up_miss (by omega)]
    exact hA i h3 h4 h5
  · show va_up h1.1 (p + 7 + th.toNat) _ (p + 6) = _
    rw [am_up_miss (by omega)]
    exact hB
  · show va_up h1.1 (p + 7 + th.toNat) _ (p + 7 + z.toNat) = _
    by_cases e : z = th
    · subst e
      rw [am_up_hit, vI2_row]
    · rw [am_up_miss (by omega), hS z h3 h4]
      have e2 : vI2 S th i v z = S z := by
        funext b
        exact vI2_miss (fun c => e c.1)
      rw [e2]
  · show va_up h1.1 (p + 7 + th.toNat) _ a = _
    rw [am_up_miss (by omega)]
    exact hf a ha
theorem ru_to.num {h h1 : am_H} {p q w : Nat} {n n1 m : Int} {X : Nat → Int → Int} {S : Int → Int → Int} (H : ru_to h p q w n m X S h1) : ru_to h p q w n1 m X S (am_put h1 p (.inr (3, ru_fs p q w n1))) := by
  obtain ⟨⟨h0, hO, hG, hA, hB, hS⟩, hf, h2⟩ := H
  refine ⟨⟨h0, ?_, ?_, fun i h3 h4 h5 => ?_, ?_, fun z h3 h4 => ?_⟩, fun a ha => ?_, h2⟩
  · show va_up h1.1 p _ p = _
    rw [am_up_hit]
  · show va_up h1.1 p _ (p + 1) = _
    rw [am_up_miss (by omega)]
    exact hG
  · show va_up h1.1 p _ (p + i) = _
    rw [am_up_miss (by omega)]
    exact hA i h3 h4 h5
  · show va_up h1.1 p _ (p + 6) = _
    rw [am_up_miss (by omega)]
    exact hB
  · show va_up h1.1 p _ (p + 7 + z.toNat) = _
    rw [am_up_miss (by omega)]
    exact hS z h3 h4
  · show va_up h1.1 p _ a = _
    rw [am_up_miss (by omega)]
    exact hf a ha
theorem ru_to.lg {h h1 : am_H} {p q w : Nat} {n m m1 : Int} {X : Nat → Int → Int} {S : Int → Int → Int} (H : ru_to h p q w n m X S h1) : ru_to h p q w n m1 X S (am_put h1 (p + 1) (.inr (4, lo_fs p m1))) := by
  obtain ⟨⟨h0, hO, hG, hA, hB, hS⟩, hf, h2⟩ := H
  refine ⟨⟨h0, ?_, ?_, fun i h3 h4 h5 => ?_, ?_, fun z h3 h4 => ?_⟩, fun a ha => ?_, h2⟩
  · show va_up h1.1 (p + 1) _ p = _
    rw [am_up_miss (by omega)]
    exact hO
  · show va_up h1.1 (p + 1) _ (p + 1) = _
    rw [am_up_hit]
  · show va_up h1.1 (p + 1) _ (p + i) = _
    rw [am_up_miss (by omega)]
    exact hA i h3 h4 h5
  · show va_up h1.1 (p + 1) _ (p + 6) = _
    rw [am_up_miss (by omega)]
    exact hB
  · show va_up h1.1 (p + 1) _ (p + 7 + z.toNat) = _
    rw [am_up_miss (by omega)]
    exact hS z h3 h4
  · show va_up h1.1 (p + 1) _ a = _
    rw [am_up_miss (by omega)]
    exact hf a ha
/-- the Types: A its rows (1 hasField, 2 faceCount, 3 owner, 11 listLength, 12 rowLength, 13 sort, 14 parent), R 4 its rows of rows 'rows', R 15 'faces' -/
def ty_at (h : am_H) (q : Nat) (N : Int) (A : Nat → Int → Int) (R : Nat → Int → Int → Int) : Prop :=
  0 < q ∧ h.1 q = .inr (1, ty_fs q N) ∧
  (∀ k, 1 ≤ k → k ≤ 14 → (k ≤ 3 ∨ 11 ≤ k) → h.1 (q + k) = .inl (ty_ty k, ty_len k, .inl (fun j : Nat => iI (A k j)))) ∧
  h.1 (q + 4) = .inl (4, 6, .inr (.inr (.inr (.inr (rw_f (q + 5) 6))))) ∧
  (∀ z : Int, 0 ≤ z → z < 6 → h.1 (q + 5 + z.toNat) = .inl (0, 6, .inl (fun j : Nat => iI (R 4 z j)))) ∧
  h.1 (q + 15) = .inl (4, 6, .inr (.inr (.inr (.inr (rw_f (q + 16) 6))))) ∧
  (∀ z : Int, 0 ≤ z → z < 6 → h.1 (q + 16 + z.toNat) = .inl (0, 3, .inl (fun j : Nat => iI (R 15 z j))))
/-- the Bodies: B 1 count, B 52 guards; K 2 kinds, K 12 numbers, K 22 asked, K 32 thrown, K 42 operands -/
def bo_at (h : am_H) (w q : Nat) (M : Int) (B : Nat → Int → Int) (K : Nat → Int → Int → Int) : Prop :=
  0 < w ∧ h.1 w = .inr (2, bo_fs w q M) ∧
  h.1 (w + 1) = .inl (0, 9, .inl (fun j : Nat => iI (B 1 j))) ∧ h.1 (w + 52) = .inl (0, 9, .inl (fun j : Nat => iI (B 52 j))) ∧
  (h.1 (w + 2) = .inl (4, 9, .inr (.inr (.inr (.inr (rw_f (w + 3) 9))))) ∧ ∀ z : Int, 0 ≤ z → z < 9 → h.1 (w + 3 + z.toNat) = .inl (0, 5, .inl (fun j : Nat => iI (K 2 z j)))) ∧
  (h.1 (w + 12) = .inl (4, 9, .inr (.inr (.inr (.inr (rw_f (w + 13) 9))))) ∧ ∀ z : Int, 0 ≤ z → z < 9 → h.1 (w + 13 + z.toNat) = .inl (0, 5, .inl (fun j : Nat => iI (K 12 z j)))) ∧
  (h.1 (w + 22) = .inl (4, 9, .inr (.inr (.inr (.inr (rw_f (w + 23) 9))))) ∧ ∀ z : Int, 0 ≤ z → z < 9 → h.1 (w + 23 + z.toNat) = .inl (0, 5, .inl (fun j : Nat => iI (K 22 z j)))) ∧
  (h.1 (w + 32) = .inl (4, 9, .inr (.inr (.inr (.inr (rw_f (w + 33) 9))))) ∧ ∀ z : Int, 0 ≤ z → z < 9 → h.1 (w + 33 + z.toNat) = .inl (0, 5, .inl (fun j : Nat => iI (K 32 z j)))) ∧
  (h.1 (w + 42) = .inl (4, 9, .inr (.inr (.inr (.inr (rw_f (w + 43) 9))))) ∧ ∀ z : Int, 0 ≤ z → z < 9 → h.1 (w + 43 + z.toNat) = .inl (0, 5, .inl (fun j : Nat => iI (K 42 z j))))
theorem ty_at.fr {h h1 : am_H} {q : Nat} {N : Int} {A : Nat → Int → Int} {R : Nat → Int → Int → Int} (H : ty_at h q N A R) (hf : ∀ a, q ≤ a → a ≤ q + 21 → h1.1 a = h.1 a) : ty_at h1 q N A R := by
  obtain ⟨h0, hO, hA, hB, hS, hC, hT⟩ := H
  refine ⟨h0, (hf _ (by omega) (by omega)).trans hO, fun k a b c => (hf _ (by omega) (by omega)).trans (hA k a b c), (hf _ (by omega) (by omega)).trans hB, fun z a b => (hf _ (by omega) (by omega)).trans (hS z a b), (hf _ (by omega) (by omega)).trans hC, fun z a b => (hf _ (by omega) (by omega)).trans (hT z a b)⟩
theorem bo_at.fr {h h1 : am_H} {w q : Nat} {M : Int} {B : Nat → Int → Int} {K : Nat → Int → Int → Int} (H : bo_at h w q M B K) (hf : ∀ a, w ≤ a → a ≤ w + 52 → h1.1 a = h.1 a) : bo_at h1 w q M B K := by
  obtain ⟨h0, hO, h1, h2, ⟨h3, h4⟩, ⟨h5, h6⟩, ⟨h7, h8⟩, ⟨h9, h10⟩, ⟨h11, h12⟩⟩ := H
  exact ⟨h0, (hf _ (by omega) (by omega)).trans hO, (hf _ (by omega) (by omega)).trans h1, (hf _ (by omega) (by omega)).trans h2, ⟨(hf _ (by omega) (by omega)).trans h3, fun z a b => (hf _ (by omega) (by omega)).trans (h4 z a b)⟩, ⟨(hf _ (by omega) (by omega)).trans h5, fun z a b => (hf _ (by omega) (by omega)).trans (h6 z a b)⟩, ⟨(hf _ (by omega) (by omega)).trans h7, fun z a b => (hf _ (by omega) (by omega)).trans (h8 z a b)⟩, ⟨(hf _ (by omega) (by omega)).trans h9, fun z a b => (hf _ (by omega) (by omega)).trans (h10 z a b)⟩, ⟨(hf _ (by omega) (by omega)).trans h11, fun z a b => (hf _ (by omega) (by omega)).trans (h12 z a b)⟩⟩
/-- the house around a Run at p -/
def en_at (h : am_H) (p q w : Nat) (N : Int) (A : Nat → Int → Int) (R : Nat → Int → Int → Int) (M : Int) (B : Nat → Int → Int) (K : Nat → Int → Int → Int) : Prop := ty_at h q N A R ∧ bo_at h w q M B K ∧ q + 22 ≤ w ∧ w + 53 ≤ p
theorem en_at.fr {h h1 : am_H} {p q w : Nat} {N : Int} {A : Nat → Int → Int} {R : Nat → Int → Int → Int} {M : Int} {B : Nat → Int → Int} {K : Nat → Int → Int → Int} {n m : Int} {X : Nat → Int → Int} {S : Int → Int → Int} (H : en_at h p q w N A R M B K) (w1 : ru_to h p q w n m X S h1) : en_at h1 p q w N A R M B K :=
  ⟨H.1.fr (fun a _ b => w1.2.1 a (Or.inl (by have := H.2.2; omega))), H.2.1.fr (fun a _ b => w1.2.1 a (Or.inl (by have := H.2.2; omega))), H.2.2⟩
/-- the class's object at o, but for its search -/
def ts_at (h : am_H) (o : Nat) (v N : Int) (A : Nat → Int → Int) (R : Nat → Int → Int → Int) (M : Int) (B : Nat → Int → Int) (K : Nat → Int → Int → Int) (n m : Int) (X : Nat → Int → Int) (S : Int → Int → Int) : Prop :=
  0 < o ∧ h.1 o = .inr (0, ts_fs o v) ∧ en_at h (o + 76) (o + 1) (o + 23) N A R M B K ∧ ru_at h (o + 76) (o + 1) (o + 23) n m X S
