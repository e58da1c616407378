/-! Rows that grow. -/
def ax (F : Nat → Int → Int) (ka kb : Nat) (t x : Int) : Nat → Int → Int := if x ∈ lst (F kb) (6 * t) (F ka t).toNat then F else va_up (va_up F kb (vI (F kb) (6 * t + F ka t) x)) ka (vI (F ka) t (F ka t + 1))
theorem ax_in {F : Nat → Int → Int} {ka kb : Nat} {t x : Int} (h : x ∈ lst (F kb) (6 * t) (F ka t).toNat) : ax F ka kb t x = F := if_pos h
theorem ax_out {F : Nat → Int → Int} {ka kb : Nat} {t x : Int} (h : ¬ x ∈ lst (F kb) (6 * t) (F ka t).toNat) : ax F ka kb t x = va_up (va_up F kb (vI (F kb) (6 * t + F ka t) x)) ka (vI (F ka) t (F ka t + 1)) := if_neg h
theorem ax_k {F : Nat → Int → Int} {ka kb k : Nat} {t x : Int} (h1 : k ≠ ka) (h2 : k ≠ kb) : ax F ka kb t x k = F k := by
  unfold ax
  split
  · rfl
  · rw [va_up_miss h1, va_up_miss h2]
theorem ax_row {F : Nat → Int → Int} {ka kb : Nat} {t x : Int} (hk : ka ≠ kb) (h0 : 0 ≤ F ka t) : lst (ax F ka kb t x kb) (6 * t) (ax F ka kb t x ka t).toNat = ad (lst (F kb) (6 * t) (F ka t).toNat) x := by
  by_cases c : x ∈ lst (F kb) (6 * t) (F ka t).toNat
  · rw [ax_in c]
    exact (if_pos c).symm
  · rw [ax_out c, va_up_hit, va_up_miss hk.symm, va_up_hit, vI_hit]
    have e : (F ka t + 1).toNat = (F ka t).toNat + 1 := by omega
    rw [e]
    show lst _ (6 * t) (F ka t).toNat ++ [vI (F kb) (6 * t + F ka t) x (6 * t + ((F ka t).toNat : Nat))] = _
    rw [show 6 * t + (((F ka t).toNat : Nat) : Int) = 6 * t + F ka t by omega, vI_hit]
    rw [lst_congr (g := F kb) (c := 6 * t) (F ka t).toNat (fun i hi => vI_miss (by omega))]
    exact (if_neg c).symm
theorem ax_other {F : Nat → Int → Int} {ka kb : Nat} {t x t' : Int} (hk : ka ≠ kb) (hne : t' ≠ t) (h1 : F ka t' ≤ 6) (hr : ¬ x ∈ lst (F kb) (6 * t) (F ka t).toNat → 0 ≤ F ka t ∧ F ka t < 6) : ax F ka kb t x ka t' = F ka t' ∧ lst (ax F ka kb t x kb) (6 * t') (F ka t').toNat = lst (F kb) (6 * t') (F ka t').toNat := by
  by_cases c : x ∈ lst (F kb) (6 * t) (F ka t).toNat
  · rw [ax_in c]
    exact ⟨rfl, rfl⟩
  · have := hr c
    rw [ax_out c, va_up_hit, va_up_miss hk.symm, va_up_hit, vI_miss hne]
    exact ⟨rfl, lst_congr _ (fun i hi => vI_miss (by omega))⟩
def rl_rg (F : Nat → Int → Int) : Prop :=
  (∀ k : Int, 0 ≤ k ∧ k < 6 → 0 ≤ F 6 k ∧ F 6 k ≤ 6 ∧ 0 ≤ F 15 k ∧ F 15 k ≤ 6) ∧ (∀ k : Int, 0 ≤ k ∧ k < 36 → 0 ≤ F 7 k ∧ F 7 k ≤ 5 ∧ 0 ≤ F 16 k ∧ F 16 k ≤ 5)
def rl_fr (F0 F : Nat → Int → Int) : Prop := ∀ k : Nat, k ≠ 6 → k ≠ 7 → k ≠ 15 → k ≠ 16 → F k = F0 k
def rl_x (F0 F : Nat → Int → Int) (x : Int) (l : List Int) : Prop :=
  (F0 1 x = 0 → lst (F 7) (6 * x) (F 6 x).toNat = l ∧ F 15 x = 0) ∧ (F0 1 x ≠ 0 → lst (F 16) (6 * x) (F 15 x).toNat = l ∧ F 6 x = 0)
def rl_ok (T : Int → List Int) (F0 F : Nat → Int → Int) (n : Int) : Prop := rl_fr F0 F ∧ rl_rg F ∧ ∀ x : Int, 0 ≤ x ∧ x < n → rl_x F0 F x (T x)
def axs (F0 F : Nat → Int → Int) (t x : Int) : Nat → Int → Int := if F0 1 t = 0 then ax F 6 7 t x else ax F 15 16 t x
def in6 (l : List Int) : Prop := l.Nodup ∧ ∀ y, y ∈ l → 0 ≤ y ∧ y < 6
theorem in6_ad {l : List Int} {x : Int} (h : in6 l) (hx : 0 ≤ x ∧ x < 6) : in6 (ad l x) := ⟨ad_nd h.1, fun y hy => (ad_mem.mp hy).elim (h.2 y) (fun e => e ▸ hx)⟩
theorem in6_room {f : Int → Int} {b n x : Int} (hn : 0 ≤ n) (h : in6 (lst f b n.toNat)) (hx : 0 ≤ x ∧ x < 6) (c : ¬ x ∈ lst f b n.toNat) : n < 6 := by
  have g := nd_len (in6_ad h hx).1 (m := 6) (in6_ad h hx).2
  unfold ad at g
  rw [if_neg c, List.length_append, lst_len] at g
  simp only [List.length_cons, List.length_nil] at g
  omega
theorem rl_add {T : Int → List Int} {F0 F : Nat → Int → Int} {t x : Int} {l : List Int} (ht : 0 ≤ t ∧ t < 6) (h : rl_ok T F0 F t) (hx : rl_x F0 F t l) (hl : in6 l) (hx6 : 0 ≤ x ∧ x < 6) : rl_ok T F0 (axs F0 F t x) t ∧ rl_x F0 (axs F0 F t x) t (ad l x) := by
  obtain ⟨hf, ⟨r1, r2⟩, hT⟩ := h
  have ra := r1 t ht
  unfold axs
  by_cases c : F0 1 t = 0
  · rw [if_pos c]
    have hx1 := hx.1 c
    have room : ¬ x ∈ lst (F 7) (6 * t) (F 6 t).toNat → 0 ≤ F 6 t ∧ F 6 t < 6 := fun q => ⟨ra.1, in6_room ra.1 (by rw [hx1.1]; exact hl) hx6 q⟩
    have e15 : ax F 6 7 t x 15 = F 15 := ax_k (by decide) (by decide)
    have e16 : ax F 6 7 t x 16 = F 16 := ax_k (by decide) (by decide)
    refine ⟨⟨fun k h1 h2 h3 h4 => (ax_k h1 h2).trans (hf k h1 h2 h3 h4), ⟨fun k hk => ?_, fun k hk => ?_⟩, fun y hy => ⟨fun cy => ?_, fun cy => ?_⟩⟩, fun _ => ⟨?_, ?_⟩, fun cy => absurd c cy⟩
    · have a := r1 k hk
      rw [e15]
      by_cases q : x ∈ lst (F 7) (6 * t) (F 6 t).toNat
      · rw [ax_in q]
        exact a
      · have := room q
        rw [ax_out q, va_up_hit]
        unfold vI
        split <;> omega
    · have a := r2 k hk
      rw [e16]
      by_cases q : x ∈ lst (F 7) (6 * t) (F 6 t).toNat
      · rw [ax_in q]
        exact a
      · rw [ax_out q, va_up_miss (by decide), va_up_hit]
        unfold vI
        split <;> omega
    · have g := (hT y hy).1 cy
      have o := ax_other (F := F) (ka := 6) (kb := 7) (x := x) (by decide) (show y ≠ t by omega) (r1 y ⟨by omega, by omega⟩).2.1 room
      rw [o.1, o.2, e15]
      exact g
    · have g := (hT y hy).2 cy
      have o := ax_other (F := F) (ka := 6) (kb := 7) (x := x) (by decide) (show y ≠ t by omega) (r1 y ⟨by omega, by omega⟩).2.1 room
      rw [e15, e16, o.1]
      exact g
    · rw [ax_row (by decide) ra.1, hx1.1]
    · rw [e15]
      exact hx1.2
  · rw [if_neg c]
    have hx1 := hx.2 c
    have room : ¬ x ∈ lst (F 16) (6 * t) (F 15 t).toNat → 0 ≤ F 15 t ∧ F 15 t < 6 := fun q => ⟨ra.2.2.1, in6_room ra.2.2.1 (by rw [hx1.1]; exact hl) hx6 q⟩
    have e6 : ax F 15 16 t x 6 = F 6 := ax_k (by decide) (by decide)
    have e7 : ax F 15 16 t x 7 = F 7 := ax_k (by decide) (by decide)
    refine ⟨⟨fun k h1 h2 h3 h4 => (ax_k h3 h4).trans (hf k h1 h2 h3 h4), ⟨fun k hk => ?_, fun k hk => ?_⟩, fun y hy => ⟨fun cy => ?_, fun cy => ?_⟩⟩, fun cy => absurd cy c, fun _ => ⟨?_, ?_⟩⟩
    · have a := r1 k hk
      rw [e6]
      by_cases q : x ∈ lst (F 16) (6 * t) (F 15 t).toNat
      · rw [ax_in q]
        exact a
      · have := room q
        rw [ax_out q, va_up_hit]
        unfold vI
        split <;> omega
    · have a := r2 k hk
      rw [e7]
      by_cases q : x ∈ lst (F 16) (6 * t) (F 15 t).toNat
      · rw [ax_in q]
        exact a
      · rw [ax_out q, va_up_miss (by decide), va_up_hit]
        unfold vI
        split <;> omega
    · have g := (hT y hy).1 cy
      have o := ax_other (F := F) (ka := 15) (kb := 16) (x := x) (by decide) (show y ≠ t by omega) (r1 y ⟨by omega, by omega⟩).2.2.2 room
      rw [e6, e7, o.1]
      exact g
    · have g := (hT y hy).2 cy
      have o := ax_other (F := F) (ka := 15) (kb := 16) (x := x) (by decide) (show y ≠ t by omega) (r1 y ⟨by omega, by omega⟩).2.2.2 room
      rw [o.1, o.2, e6]
      exact g
    · rw [ax_row (by decide) ra.2.2.1, hx1.1]
    · rw [e6]
      exact hx1.2
theorem in6_adL : ∀ (xs l : List Int), in6 l → (∀ y, y ∈ xs → 0 ≤ y ∧ y < 6) → in6 (xs.foldl ad l) := fun xs l h hx => ⟨adL_nd _ _ h.1, fun y hy => ((adL_mem _ _).mp hy).elim (h.2 y) (hx y)⟩
theorem ffold_congr {F : Nat → Int → Int} {tb tc : Int → List Int} {t : Int} : ∀ (n : Nat) (k : Int) (l : List Int), (∀ i : Int, k ≤ i ∧ i < k + n → tb (F 4 (3 * t + i)) = tc (F 4 (3 * t + i))) → ffold F tb t n k l = ffold F tc t n k l := by
  intro n
  induction n with
  | zero => intro k l _; rfl
  | succ n ih =>
    intro k l h
    unfold ffold
    rw [h k (by omega)]
    exact ih (k + 1) _ (fun i hi => h i (by omega))
