/-! The reference's object: its numbers I (0 types, 1 threads, 2 stepMany, 3 logs, 4 logMany, 5 isFound, 6 pointMany, 7 outcomeMany) and its rows F 1 .. F 28 in the cells behind it. -/
def md_fs (o : Nat) (I : Nat → Int) : List Value := [.int (iI (I 0)), .int (iI (I 1)), .ref (o + 1), .ref (o + 2), .ref (o + 3), .ref (o + 4), .ref (o + 5), .ref (o + 6), .ref (o + 7), .ref (o + 8), .ref (o + 9), .ref (o + 10), .ref (o + 11), .ref (o + 12), .ref (o + 13), .int (iI (I 2)), .int (iI (I 3)), .int (iI (I 4)), .ref (o + 14), .ref (o + 15), .ref (o + 16), .ref (o + 17), .ref (o + 18), .int (iI (I 5)), .int (iI (I 6)), .ref (o + 19), .ref (o + 20), .ref (o + 21), .ref (o + 22), .ref (o + 23), .ref (o + 24), .int (iI (I 7)), .ref (o + 25), .ref (o + 26), .ref (o + 27), .ref (o + 28)]
def md_ty (k : Nat) : Nat := if k = 5 ∨ k = 12 ∨ k = 18 then 3 else 0
def md_len (k : Nat) : Nat := match k with
  | 1 => 6
  | 2 => 6
  | 3 => 6
  | 4 => 18
  | 5 => 6
  | 6 => 6
  | 7 => 36
  | 8 => 9
  | 9 => 45
  | 10 => 45
  | 11 => 45
  | 12 => 45
  | 13 => 66
  | 14 => 900
  | 15 => 6
  | 16 => 36
  | 17 => 6
  | 18 => 36
  | 19 => 198000
  | 20 => 3000
  | 21 => 3000
  | 22 => 3000
  | 23 => 4096
  | 24 => 3000
  | 25 => 915
  | 26 => 61
  | 27 => 61
  | _ => 15
theorem md_fs_len {o : Nat} {I : Nat → Int} : (md_fs o I).length = 36 := Eq.trans rfl rfl
theorem md_f0 {o : Nat} {I : Nat → Int} {g : Value → Option am_C} : am_fd (md_fs o I) 0 g = g (.int (iI (I 0))) := Eq.trans rfl rfl
theorem md_f1 {o : Nat} {I : Nat → Int} {g : Value → Option am_C} : am_fd (md_fs o I) 1 g = g (.int (iI (I 1))) := Eq.trans rfl rfl
theorem md_f2 {o : Nat} {I : Nat → Int} {g : Value → Option am_C} : am_fd (md_fs o I) 2 g = g (.ref (o + 1)) := Eq.trans rfl rfl
theorem md_f3 {o : Nat} {I : Nat → Int} {g : Value → Option am_C} : am_fd (md_fs o I) 3 g = g (.ref (o + 2)) := Eq.trans rfl rfl
theorem md_f4 {o : Nat} {I : Nat → Int} {g : Value → Option am_C} : am_fd (md_fs o I) 4 g = g (.ref (o + 3)) := Eq.trans rfl rfl
theorem md_f5 {o : Nat} {I : Nat → Int} {g : Value → Option am_C} : am_fd (md_fs o I) 5 g = g (.ref (o + 4)) := Eq.trans rfl rfl
theorem md_f6 {o : Nat} {I : Nat → Int} {g : Value → Option am_C} : am_fd (md_fs o I) 6 g = g (.ref (o + 5)) := Eq.trans rfl rfl
theorem md_f7 {o : Nat} {I : Nat → Int} {g : Value → Option am_C} : am_fd (md_fs o I) 7 g = g (.ref (o + 6)) := Eq.trans rfl rfl
theorem md_f8 {o : Nat} {I : Nat → Int} {g : Value → Option am_C} : am_fd (md_fs o I) 8 g = g (.ref (o + 7)) := Eq.trans rfl rfl
theorem md_f9 {o : Nat} {I : Nat → Int} {g : Value → Option am_C} : am_fd (md_fs o I) 9 g = g (.ref (o + 8)) := Eq.trans rfl rfl
theorem md_f10 {o : Nat} {I : Nat → Int} {g : Value → Option am_C} : am_fd (md_fs o I) 10 g = g (.ref (o + 9)) := Eq.trans rfl rfl
theorem md_f11 {o : Nat} {I : Nat → Int} {g : Value → Option am_C} : am_fd (md_fs o I) 11 g = g (.ref (o + 10)) := Eq.trans rfl rfl
theorem md_f12 {o : Nat} {I : Nat → Int} {g : Value → Option am_C} : am_fd (md_fs o I) 12 g = g (.ref (o + 11)) := Eq.trans rfl rfl
theorem md_f13 {o : Nat} {I : Nat → Int} {g : Value → Option am_C} : am_fd (md_fs o I) 13 g = g (.ref (o + 12)) := Eq.trans rfl rfl
theorem md_f14 {o : Nat} {I : Nat → Int} {g : Value → Option am_C} : am_fd (md_fs o I) 14 g = g (.ref (o + 13)) := Eq.trans rfl rfl
theorem md_f15 {o : Nat} {I : Nat → Int} {g : Value → Option am_C} : am_fd (md_fs o I) 15 g = g (.int (iI (I 2))) := Eq.trans rfl rfl
theorem md_f16 {o : Nat} {I : Nat → Int} {g : Value → Option am_C} : am_fd (md_fs o I) 16 g = g (.int (iI (I 3))) := Eq.trans rfl rfl
theorem md_f17 {o : Nat} {I : Nat → Int} {g : Value → Option am_C} : am_fd (md_fs o I) 17 g = g (.int (iI (I 4))) := Eq.trans rfl rfl
theorem md_f18 {o : Nat} {I : Nat → Int} {g : Value → Option am_C} : am_fd (md_fs o I) 18 g = g (.ref (o + 14)) := Eq.trans rfl rfl
theorem md_f19 {o : Nat} {I : Nat → Int} {g : Value → Option am_C} : am_fd (md_fs o I) 19 g = g (.ref (o + 15)) := Eq.trans rfl rfl
theorem md_f20 {o : Nat} {I : Nat → Int} {g : Value → Option am_C} : am_fd (md_fs o I) 20 g = g (.ref (o + 16)) := Eq.trans rfl rfl
theorem md_f21 {o : Nat} {I : Nat → Int} {g : Value → Option am_C} : am_fd (md_fs o I) 21 g = g (.ref (o + 17)) := Eq.trans rfl rfl
theorem md_f22 {o : Nat} {I : Nat → Int} {g : Value → Option am_C} : am_fd (md_fs o I) 22 g = g (.ref (o + 18)) := Eq.trans rfl rfl
theorem md_f23 {o : Nat} {I : Nat → Int} {g : Value → Option am_C} : am_fd (md_fs o I) 23 g = g (.int (iI (I 5))) := Eq.trans rfl rfl
theorem md_f24 {o : Nat} {I : Nat → Int} {g : Value → Option am_C} : am_fd (md_fs o I) 24 g = g (.int (iI (I 6))) := Eq.trans rfl rfl
theorem md_f25 {o : Nat} {I : Nat → Int} {g : Value → Option am_C} : am_fd (md_fs o I) 25 g = g (.ref (o + 19)) := Eq.trans rfl rfl
theorem md_f26 {o : Nat} {I : Nat → Int} {g : Value → Option am_C} : am_fd (md_fs o I) 26 g = g (.ref (o + 20)) := Eq.trans rfl rfl
theorem md_f27 {o : Nat} {I : Nat → Int} {g : Value → Option am_C} : am_fd (md_fs o I) 27 g = g (.ref (o + 21)) := Eq.trans rfl rfl
theorem md_f28 {o : Nat} {I : Nat → Int} {g : Value → Option am_C} : am_fd (md_fs o I) 28 g = g (.ref (o + 22)) := Eq.trans rfl rfl
theorem md_f29 {o : Nat} {I : Nat → Int} {g : Value → Option am_C} : am_fd (md_fs o I) 29 g = g (.ref (o + 23)) := Eq.trans rfl rfl
theorem md_f30 {o : Nat} {I : Nat → Int} {g : Value → Option am_C} : am_fd (md_fs o I) 30 g = g (.ref (o + 24)) := Eq.trans rfl rfl
theorem md_f31 {o : Nat} {I : Nat → Int} {g : Value → Option am_C} : am_fd (md_fs o I) 31 g = g (.int (iI (I 7))) := Eq.trans rfl rfl
theorem md_f32 {o : Nat} {I : Nat → Int} {g : Value → Option am_C} : am_fd (md_fs o I) 32 g = g (.ref (o + 25)) := Eq.trans rfl rfl
theorem md_f33 {o : Nat} {I : Nat → Int} {g : Value → Option am_C} : am_fd (md_fs o I) 33 g = g (.ref (o + 26)) := Eq.trans rfl rfl
theorem md_f34 {o : Nat} {I : Nat → Int} {g : Value → Option am_C} : am_fd (md_fs o I) 34 g = g (.ref (o + 27)) := Eq.trans rfl rfl
theorem md_f35 {o : Nat} {I : Nat → Int} {g : Value → Option am_C} : am_fd (md_fs o I) 35 g = g (.ref (o + 28)) := Eq.trans rfl rfl
theorem md_s0 {o : Nat} {I : Nat → Int} {v : Int} : (md_fs o I).set 0 (.int (iI v)) = md_fs o (va_up I 0 v) := Eq.trans rfl rfl
theorem md_s1 {o : Nat} {I : Nat → Int} {v : Int} : (md_fs o I).set 1 (.int (iI v)) = md_fs o (va_up I 1 v) := Eq.trans rfl rfl
theorem md_s15 {o : Nat} {I : Nat → Int} {v : Int} : (md_fs o I).set 15 (.int (iI v)) = md_fs o (va_up I 2 v) := Eq.trans rfl rfl
theorem md_s16 {o : Nat} {I : Nat → Int} {v : Int} : (md_fs o I).set 16 (.int (iI v)) = md_fs o (va_up I 3 v) := Eq.trans rfl rfl
theorem md_s17 {o : Nat} {I : Nat → Int} {v : Int} : (md_fs o I).set 17 (.int (iI v)) = md_fs o (va_up I 4 v) := Eq.trans rfl rfl
theorem md_s23 {o : Nat} {I : Nat → Int} {v : Int} : (md_fs o I).set 23 (.int (iI v)) = md_fs o (va_up I 5 v) := Eq.trans rfl rfl
theorem md_s24 {o : Nat} {I : Nat → Int} {v : Int} : (md_fs o I).set 24 (.int (iI v)) = md_fs o (va_up I 6 v) := Eq.trans rfl rfl
theorem md_s31 {o : Nat} {I : Nat → Int} {v : Int} : (md_fs o I).set 31 (.int (iI v)) = md_fs o (va_up I 7 v) := Eq.trans rfl rfl
theorem md_t1 : md_ty 1 = 0 := Eq.trans rfl rfl
theorem md_l1 : md_len 1 = 6 := Eq.trans rfl rfl
theorem md_t2 : md_ty 2 = 0 := Eq.trans rfl rfl
theorem md_l2 : md_len 2 = 6 := Eq.trans rfl rfl
theorem md_t3 : md_ty 3 = 0 := Eq.trans rfl rfl
theorem md_l3 : md_len 3 = 6 := Eq.trans rfl rfl
theorem md_t4 : md_ty 4 = 0 := Eq.trans rfl rfl
theorem md_l4 : md_len 4 = 18 := Eq.trans rfl rfl
theorem md_t5 : md_ty 5 = 3 := Eq.trans rfl rfl
theorem md_l5 : md_len 5 = 6 := Eq.trans rfl rfl
theorem md_t6 : md_ty 6 = 0 := Eq.trans rfl rfl
theorem md_l6 : md_len 6 = 6 := Eq.trans rfl rfl
theorem md_t7 : md_ty 7 = 0 := Eq.trans rfl rfl
theorem md_l7 : md_len 7 = 36 := Eq.trans rfl rfl
theorem md_t8 : md_ty 8 = 0 := Eq.trans rfl rfl
theorem md_l8 : md_len 8 = 9 := Eq.trans rfl rfl
theorem md_t9 : md_ty 9 = 0 := Eq.trans rfl rfl
theorem md_l9 : md_len 9 = 45 := Eq.trans rfl rfl
theorem md_t10 : md_ty 10 = 0 := Eq.trans rfl rfl
theorem md_l10 : md_len 10 = 45 := Eq.trans rfl rfl
theorem md_t11 : md_ty 11 = 0 := Eq.trans rfl rfl
theorem md_l11 : md_len 11 = 45 := Eq.trans rfl rfl
theorem md_t12 : md_ty 12 = 3 := Eq.trans rfl rfl
theorem md_l12 : md_len 12 = 45 := Eq.trans rfl rfl
theorem md_t13 : md_ty 13 = 0 := Eq.trans rfl rfl
theorem md_l13 : md_len 13 = 66 := Eq.trans rfl rfl
theorem md_t14 : md_ty 14 = 0 := Eq.trans rfl rfl
theorem md_l14 : md_len 14 = 900 := Eq.trans rfl rfl
theorem md_t15 : md_ty 15 = 0 := Eq.trans rfl rfl
theorem md_l15 : md_len 15 = 6 := Eq.trans rfl rfl
theorem md_t16 : md_ty 16 = 0 := Eq.trans rfl rfl
theorem md_l16 : md_len 16 = 36 := Eq.trans rfl rfl
theorem md_t17 : md_ty 17 = 0 := Eq.trans rfl rfl
theorem md_l17 : md_len 17 = 6 := Eq.trans rfl rfl
theorem md_t18 : md_ty 18 = 3 := Eq.trans rfl rfl
theorem md_l18 : md_len 18 = 36 := Eq.trans rfl rfl
theorem md_t19 : md_ty 19 = 0 := Eq.trans rfl rfl
theorem md_l19 : md_len 19 = 198000 := Eq.trans rfl rfl
theorem md_t20 : md_ty 20 = 0 := Eq.trans rfl rfl
theorem md_l20 : md_len 20 = 3000 := Eq.trans rfl rfl
theorem md_t21 : md_ty 21 = 0 := Eq.trans rfl rfl
theorem md_l21 : md_len 21 = 3000 := Eq.trans rfl rfl
theorem md_t22 : md_ty 22 = 0 := Eq.trans rfl rfl
theorem md_l22 : md_len 22 = 3000 := Eq.trans rfl rfl
theorem md_t23 : md_ty 23 = 0 := Eq.trans rfl rfl
theorem md_l23 : md_len 23 = 4096 := Eq.trans rfl rfl
theorem md_t24 : md_ty 24 = 0 := Eq.trans rfl rfl
theorem md_l24 : md_len 24 = 3000 := Eq.trans rfl rfl
theorem md_t25 : md_ty 25 = 0 := Eq.trans rfl rfl
theorem md_l25 : md_len 25 = 915 := Eq.trans rfl rfl
theorem md_t26 : md_ty 26 = 0 := Eq.trans rfl rfl
theorem md_l26 : md_len 26 = 61 := Eq.trans rfl rfl
theorem md_t27 : md_ty 27 = 0 := Eq.trans rfl rfl
theorem md_l27 : md_len 27 = 61 := Eq.trans rfl rfl
theorem md_t28 : md_ty 28 = 0 := Eq.trans rfl rfl
theorem md_l28 : md_len 28 = 15 := Eq.trans rfl rfl
def md_at (h : am_H) (o : Nat) (I : Nat → Int) (F : Nat → Int → Int) : Prop := 0 < o ∧ h.1 o = .inr (8, md_fs o I) ∧ ∀ k, 1 ≤ k → k ≤ 28 → h.1 (o + k) = .inl (md_ty k, md_len k, .inl (fun j : Nat => iI (F k j)))
/-- from h to h1: the reference's cells alone have changed, to I and F -/
def md_to (h : am_H) (o : Nat) (I : Nat → Int) (F : Nat → Int → Int) (h1 : am_H) : Prop := md_at h1 o I F ∧ (∀ a, (a < o ∨ o + 28 < a) → h1.1 a = h.1 a) ∧ h1.2 = h.2
theorem md_at.rf {h : am_H} {o : Nat} {I : Nat → Int} {F : Nat → Int → Int} (H : md_at h o I F) : md_to h o I F h := ⟨H, fun _ _ => rfl, rfl⟩
theorem md_to.tr {h h1 h2 : am_H} {o : Nat} {I I1 : Nat → Int} {F F1 : Nat → Int → Int} (H : md_to h o I F h1) (H1 : md_to h1 o I1 F1 h2) : md_to h o I1 F1 h2 := ⟨H1.1, fun a ha => (H1.2.1 a ha).trans (H.2.1 a ha), H1.2.2.trans H.2.2⟩
theorem md_to.row {h h1 : am_H} {o : Nat} {I : Nat → Int} {F : Nat → Int → Int} {k t n : Nat} {g : Int → Int} (H : md_to h o I F h1) (hk : 1 ≤ k ∧ k ≤ 28) (ht : t = md_ty k) (hn : n = md_len k) : md_to h o I (va_up F k g) (am_put h1 (o + k) (.inl (t, n, .inl (fun j : Nat => iI (g j))))) := by
  obtain ⟨⟨h0, hO, hA⟩, hf, h2⟩ := H
  refine ⟨⟨h0, ?_, fun i h3 h4 => ?_⟩, fun a ha => ?_, h2⟩
  · show va_up h1.1 (o + k) _ o = _
    rw [am_up_miss (by omega)]
    exact hO
  · show va_up h1.1 (o + k) _ (o + i) = _
    by_cases e : i = k
    · subst e
      rw [am_up_hit, am_up_hit, ht, hn]
    · rw [am_up_miss (by omega), am_up_miss e]
      exact hA i h3 h4
  · show va_up h1.1 (o + k) _ a = _
    rw [am_up_miss (by omega)]
    exact hf a ha
theorem md_to.num {h h1 : am_H} {o : Nat} {I I1 : Nat → Int} {F : Nat → Int → Int} (H : md_to h o I F h1) : md_to h o I1 F (am_put h1 o (.inr (8, md_fs o I1))) := by
  obtain ⟨⟨h0, hO, hA⟩, hf, h2⟩ := H
  refine ⟨⟨h0, ?_, fun i h3 h4 => ?_⟩, fun a ha => ?_, h2⟩
  · show va_up h1.1 o _ o = _
    rw [am_up_hit]
  · show va_up h1.1 o _ (o + i) = _
    rw [am_up_miss (by omega)]
    exact hA i h3 h4
  · show va_up h1.1 o _ a = _
    rw [am_up_miss (by omega)]
    exact hf a ha
