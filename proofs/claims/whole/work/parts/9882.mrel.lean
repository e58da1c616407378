/-! The reference's rows of a search beside the one function. -/
theorem md_to.cg {h h1 : am_H} {o : Nat} {I : Nat → Int} {F F' : Nat → Int → Int} (H : md_to h o I F h1) (he : ∀ k : Nat, 1 ≤ k → k ≤ 28 → ∀ j : Nat, F' k j = F k j) : md_to h o I F' h1 := by
  obtain ⟨⟨h0, hO, hA⟩, hf, h2⟩ := H
  refine ⟨⟨h0, hO, fun k k1 k2 => ?_⟩, hf, h2⟩
  rw [hA k k1 k2]
  have e : (fun j : Nat => iI (F k j)) = fun j : Nat => iI (F' k j) := funext (fun j => by rw [he k k1 k2 j])
  rw [e]
theorem sp_LI_0 {J : Nat → Int} (h : J 3 = 0) : ∀ L : List (Int × Int × Int), sp_LI L J = J := by
  intro L
  induction L with
  | nil => rfl
  | cons e L ih =>
    show sp_LI L (sp_lI J) = J
    rw [show sp_lI J = J from if_pos h]
    exact ih
theorem sp_LF_0 {J : Nat → Int} (h : J 3 = 0) {F : Nat → Int → Int} : ∀ L : List (Int × Int × Int), sp_LF L J F = F := by
  intro L
  induction L with
  | nil => rfl
  | cons e L ih =>
    show sp_LF L (sp_lI J) (sp_lF J F e.1 e.2.1 e.2.2) = F
    rw [show sp_lI J = J from if_pos h, show sp_lF J F e.1 e.2.1 e.2.2 = F from if_pos h]
    exact ih
theorem vec_100 {r : rn} (hr : rn_rg r) {k : Int} (hk : 0 ≤ k ∧ k < 66) : -100 ≤ vec r k ∧ vec r k ≤ 100 := by
  obtain ⟨a, b, c⟩ := rs_of_rn hr
  generalize vec r = s at *
  by_cases c1 : k < 6
  · have := a k (by omega)
    omega
  · by_cases c2 : k < 12
    · have := a (k - 6) (by omega)
      rw [show 6 + (k - 6) = k by omega] at this
      omega
    · by_cases c3 : k < 18
      · have := a (k - 12) (by omega)
        rw [show 12 + (k - 12) = k by omega] at this
        omega
      · by_cases c4 : k < 24
        · have := a (k - 18) (by omega)
          rw [show 18 + (k - 18) = k by omega] at this
          omega
        · by_cases c5 : k < 30
          · have := a (k - 24) (by omega)
            rw [show 24 + (k - 24) = k by omega] at this
            omega
          · by_cases c6 : k < 36
            · have := a (k - 30) (by omega)
              rw [show 30 + (k - 30) = k by omega] at this
              omega
            · by_cases c7 : k < 39
              · have := b (k - 36) (by omega)
                rw [show 36 + (k - 36) = k by omega] at this
                omega
              · by_cases c8 : k < 42
                · have := b (k - 39) (by omega)
                  rw [show 39 + (k - 39) = k by omega] at this
                  omega
                · by_cases c9 : k < 45
                  · have := b (k - 42) (by omega)
                    rw [show 42 + (k - 42) = k by omega] at this
                    omega
                  · by_cases c10 : k < 48
                    · have := b (k - 45) (by omega)
                      rw [show 45 + (k - 45) = k by omega] at this
                      omega
                    · have := c (k - 48) (by omega)
                      rw [show 48 + (k - 48) = k by omega] at this
                      omega
theorem lastp_congr {f g : Int → Int} {b : Int} : ∀ n : Nat, (∀ q : Int, 0 ≤ q ∧ q < n → f q = g q) → lastp f n b = lastp g n b := by
  intro n
  induction n with
  | zero => exact fun _ => rfl
  | succ n ih =>
    intro h
    unfold lastp
    rw [h n (by omega), ih (fun q hq => h q (by omega))]
def s_hd : List (Int × Int) → Int
  | [] => -1
  | e :: _ => e.1
def ms_tr (G : Nat → Int → Int) : List (Int × Int) → Prop
  | [] => True
  | e :: rest => G 22 e.1 = e.2 ∧ G 20 e.1 = s_hd rest ∧ ms_tr G rest
theorem ms_tr_congr {G G' : Nat → Int → Int} : ∀ l : List (Int × Int), (∀ e, e ∈ l → G' 22 e.1 = G 22 e.1 ∧ G' 20 e.1 = G 20 e.1) → ms_tr G l → ms_tr G' l := by
  intro l
  induction l with
  | nil => exact fun _ _ => trivial
  | cons e l ih =>
    rintro h ⟨h1, h2, h3⟩
    have q := h e (List.mem_cons_self ..)
    exact ⟨q.1.trans h1, q.2.trans h2, ih (fun f hf => h f (List.mem_cons_of_mem _ hf)) h3⟩
theorem s_ch_lt {I : Nat → Int} {F : Nat → Int → Int} {A : sst} : ∀ l : List (Int × Int), s_chain I F A l → ∀ e, e ∈ l → (0 ≤ e.1 ∧ e.1 < a_n A) ∧ a_ln A e.1 < l.length := by
  intro l
  induction l with
  | nil =>
    intro _ e he
    cases he
  | cons f l ih =>
    intro h e he
    have h1 := h.1
    have h4 := h.2.2.2.1
    rw [List.length_cons]
    rcases List.mem_cons.mp he with z | z
    · rw [z]
      exact ⟨h1, by omega⟩
    · have q := ih h.2.2.2.2.2 e z
      exact ⟨q.1, by omega⟩
def s_par (G : Nat → Int → Int) (A : sst) (p : Int) : Prop := (a_ln A p = 0 ∧ G 20 p = -1) ∨ ((0 ≤ G 20 p ∧ G 20 p < p) ∧ a_ln A p = a_ln A (G 20 p) + 1 ∧ (∀ j : Int, 0 ≤ j ∧ j < a_ln A (G 20 p) → a_wa A p j = a_wa A (G 20 p) j) ∧ G 21 p = a_wa A p (a_ln A (G 20 p)))
def ms_oc (I : Nat → Int) (F G : Nat → Int → Int) (A : sst) : Prop := ∀ i : Int, 0 ≤ i ∧ i < a_c A → G 26 i = a_at A i ∧ G 27 i = a_od A i ∧ ∀ j : Int, 0 ≤ j ∧ j < 15 → G 25 (15 * i + j) = oc I F (a_pt A (a_at A i)) j
/-- the rows of POINTS and OUTCOMES -/
def ms_pt (I : Nat → Int) (F : Nat → Int → Int) (r0 : rn) (J : Nat → Int) (G : Nat → Int → Int) (A : sst) : Prop :=
  (∀ k : Nat, k ≠ 6 → k ≠ 7 → J k = va_up I 3 0 k) ∧ (J 6 = a_n A ∧ J 7 = a_c A) ∧ sf F G ∧ (∃ r, G 13 = vec r ∧ ox r0 r) ∧
  pc_ok G (fun q => hsh (vec (a_pt A q))) (a_n A).toNat ∧ (∀ p k : Int, 0 ≤ p ∧ p < a_n A → 0 ≤ k ∧ k < 66 → G 19 (66 * p + k) = vec (a_pt A p) k) ∧
  (∀ p : Int, 0 ≤ p ∧ p < a_n A → s_par G A p) ∧ ms_oc I F G A
theorem ms_pt.cg {I : Nat → Int} {F : Nat → Int → Int} {r0 : rn} {J : Nat → Int} {G G' : Nat → Int → Int} {A : sst} (H : ms_pt I F r0 J G A) (hk : ∀ k : Nat, 19 ≤ k → k ≤ 27 → k ≠ 22 → G' k = G k) (hs : sf F G') {r : rn} (e : G' 13 = vec r) (ho : ox r0 r) : ms_pt I F r0 J G' A := by
  obtain ⟨a, b, c, d, f, g, i, j⟩ := H
  refine ⟨a, b, hs, ⟨r, e, ho⟩, ?_, ?_, ?_, ?_⟩
  · unfold pc_ok sm_ok at *
    rw [hk 19 (by decide) (by decide) (by decide), hk 23 (by decide) (by decide) (by decide), hk 24 (by decide) (by decide) (by decide)]
    exact f
  · rw [hk 19 (by decide) (by decide) (by decide)]
    exact g
  · unfold s_par at *
    rw [hk 20 (by decide) (by decide) (by decide), hk 21 (by decide) (by decide) (by decide)]
    exact i
  · unfold ms_oc at *
    rw [hk 25 (by decide) (by decide) (by decide), hk 26 (by decide) (by decide) (by decide), hk 27 (by decide) (by decide) (by decide)]
    exact j
theorem ms_pt.stk {I : Nat → Int} {F : Nat → Int → Int} {r0 : rn} {J : Nat → Int} {G : Nat → Int → Int} {A : sst} {l : List (Int × Int)} (H : ms_pt I F r0 J G A) : ms_pt I F r0 J G (s_stk A l) := H
/-- the numbers that a load leaves -/
theorem ld_vec {I : Nat → Int} {F : Nat → Int → Int} {r0 : rn} {J : Nat → Int} {G : Nat → Int → Int} {A : sst} (H : ms_pt I F r0 J G A) (hA : s_iv I F r0 A) {p : Int} (hp : 0 ≤ p ∧ p < a_n A) (j : Nat) : vec (a_pt A p) j = ldp (G 13) (G 19) p 0 j := by
  obtain ⟨r, e, ho⟩ := H.2.2.2.1
  unfold ldp
  by_cases c : (j : Int) < 66
  · rw [if_pos (by omega), H.2.2.2.2.2.1 p j hp (by omega)]
  · rw [if_neg (by omega), e, ox_vec ho (by omega), ox_vec (hA.2.2.2.1 p hp).2.1 (by omega)]
theorem ms_load {I : Nat → Int} {F : Nat → Int → Int} {r0 : rn} {J : Nat → Int} {G : Nat → Int → Int} {A : sst} (H : ms_pt I F r0 J G A) (hA : s_iv I F r0 A) {p : Int} (hp : 0 ≤ p ∧ p < a_n A) {h0 h1 : am_H} {o : Nat} (T : md_to h0 o J (va_up G 13 (ldp (G 13) (G 19) p 0)) h1) : md_to h0 o J (va_up G 13 (vec (a_pt A p))) h1 ∧ ms_pt I F r0 J (va_up G 13 (vec (a_pt A p))) A := by
  refine ⟨T.cg (fun k k1 k2 j => ?_), H.cg (fun k k1 k2 _ => va_up_miss (by omega)) (H.2.2.1.up (Or.inr rfl)) va_up_hit (hA.2.2.2.1 p hp).2.1⟩
  by_cases c : k = 13
  · rw [c, va_up_hit, va_up_hit]
    exact ld_vec H hA hp j
  · rw [va_up_miss c, va_up_miss c]
theorem pm_aP {I : Nat → Int} {F : Nat → Int → Int} {r0 : rn} {G : Nat → Int → Int} {A : sst} (hA : s_iv I F r0 A) (H : ms_oc I F G A) {i : Int} (hi : 0 ≤ i ∧ i < a_c A) : pm G i = a_P I F A i := by
  unfold pm a_P
  have a := hA.2.2.2.2.1 i hi
  rw [(H i hi).2.1]
  exact ocd_congr (fun j hj => (H (a_od A i) a.2).2.2 j hj)
theorem ms_or {I : Nat → Int} {F : Nat → Int → Int} {r0 : rn} {J : Nat → Int} {G : Nat → Int → Int} {A : sst} (hA : s_iv I F r0 A) (H : ms_oc I F G A) (h7 : J 7 = a_c A) : or_ok J G := by
  refine ⟨by rw [h7]; exact hA.2.1, fun i hi => ?_⟩
  rw [h7] at hi
  have a := hA.2.2.2.2.1 i hi
  have b := hA.2.1
  have c := hA.2.2.2.2.1 (a_od A i) a.2
  rw [(H i hi).2.1]
  refine ⟨by omega, oc_ok_congr (oc_rg (hA.2.2.2.1 _ c.1).1) (fun j hj => (H (a_od A i) a.2).2.2 j hj)⟩
theorem ms_pos {I : Nat → Int} {F : Nat → Int → Int} {r0 : rn} {G : Nat → Int → Int} {A : sst} (hA : s_iv I F r0 A) (H : ms_oc I F G A) (p : Int) : fpos (pm G) (ocd (oc I F (a_pt A p))) (a_c A).toNat 0 = a_pos I F A p := by
  have hc := hA.2.1
  exact fpos_congr _ _ (fun j hj => pm_aP hA H (by omega))
/-- one more OUTCOME -/
theorem ms_new {I : Nat → Int} {F : Nat → Int → Int} {r0 : rn} {J J' : Nat → Int} {G G' : Nat → Int → Int} {A : sst} (hA : s_iv I F r0 A) (H : ms_pt I F r0 J G A) {p pos : Int} (hpos : 0 ≤ pos ∧ pos ≤ a_c A) (hJ : ∀ k : Nat, k ≠ 7 → J' k = J k) (h7 : J' 7 = a_c A + 1) (hs : sf F G') {r : rn} (e : G' 13 = vec r) (ho : ox r0 r) (hk : ∀ k : Nat, 18 ≤ k → k ≤ 24 → G' k = G k) (e26 : G' 26 = vI (G 26) (a_c A) p) (e27 : G' 27 = vI (shn (G 27) pos (a_c A)) pos (a_c A)) (e25 : ∀ j : Int, 0 ≤ j ∧ j < 15 → G' 25 (15 * a_c A + j) = oc I F (a_pt A p) j) (f25 : ∀ j : Int, j < 15 * a_c A → G' 25 j = G 25 j) : ms_pt I F r0 J' G' (s_new A pos p) := by
  have hc := hA.2.1
  obtain ⟨a, b, c, d, f, g, i, j⟩ := H
  refine ⟨fun k k6 k7 => (hJ k k7).trans (a k k6 k7), ⟨(hJ 6 (by decide)).trans b.1, h7⟩, hs, ⟨r, e, ho⟩, ?_, ?_, ?_, fun x hx => ⟨?_, ?_, fun y hy => ?_⟩⟩
  · unfold pc_ok sm_ok at *
    rw [hk 19 (by decide) (by decide), hk 23 (by decide) (by decide), hk 24 (by decide) (by decide)]
    exact f
  · rw [hk 19 (by decide) (by decide)]
    exact g
  · intro q hq
    have z := i q hq
    unfold s_par at *
    rw [hk 20 (by decide) (by decide), hk 21 (by decide) (by decide)]
    exact z
  · have hx2 : 0 ≤ x ∧ x < a_c A + 1 := hx
    show G' 26 x = vI (a_at A) (a_c A) p x
    rw [e26]
    by_cases q : x = a_c A
    · rw [q, vI_hit, vI_hit]
    · rw [vI_miss q, vI_miss q]
      exact (j x (by omega)).1
  · have hx2 : 0 ≤ x ∧ x < a_c A + 1 := hx
    show G' 27 x = vI (shn (a_od A) pos (a_c A)) pos (a_c A) x
    rw [e27]
    by_cases q : x = pos
    · rw [q, vI_hit, vI_hit]
    · rw [vI_miss q, vI_miss q]
      unfold shn
      by_cases q2 : pos < x ∧ x ≤ a_c A
      · rw [if_pos q2, if_pos q2]
        exact (j (x - 1) (by omega)).2.1
      · rw [if_neg q2, if_neg q2]
        exact (j x (by omega)).2.1
  · have hx2 : 0 ≤ x ∧ x < a_c A + 1 := hx
    show G' 25 (15 * x + y) = oc I F (a_pt A (vI (a_at A) (a_c A) p x)) y
    by_cases q : x = a_c A
    · rw [q, vI_hit]
      exact e25 y hy
    · rw [vI_miss q, f25 _ (by omega)]
      exact (j x (by omega)).2.2 y hy
/-- one more POINT -/
theorem ms_keep {I : Nat → Int} {F : Nat → Int → Int} {r0 : rn} {J : Nat → Int} {G : Nat → Int → Int} {A : sst} (hA : s_iv I F r0 A) (H : ms_pt I F r0 J G A) (hn : a_n A < 3000) {r : rn} (hv : rn_iv I F r) (e13 : G 13 = vec r) (ho : ox r0 r) {was th l : Int} {w : Int → Int} (hp : (was = -1 ∧ l = 0) ∨ (0 ≤ was ∧ was < a_n A) ∧ l = a_ln A was + 1 ∧ w = vI (a_wa A was) (a_ln A was) th) : ms_pt I F r0 (va_up J 6 (a_n A + 1)) (kp_F (va_up G 19 (cpy (G 19) (G 13) (a_n A) 0)) (a_n A) (hsh (G 13)) was th) (s_add A r l w) := by
  have i1 := hA.1
  have hb := hsh_rg (G 13)
  obtain ⟨a, b, c, d, f, g, i, j⟩ := H
  have k19 : kp_F (va_up G 19 (cpy (G 19) (G 13) (a_n A) 0)) (a_n A) (hsh (G 13)) was th 19 = cpy (G 19) (G 13) (a_n A) 0 := rfl
  have k20 : kp_F (va_up G 19 (cpy (G 19) (G 13) (a_n A) 0)) (a_n A) (hsh (G 13)) was th 20 = vI (G 20) (a_n A) was := rfl
  have k21 : kp_F (va_up G 19 (cpy (G 19) (G 13) (a_n A) 0)) (a_n A) (hsh (G 13)) was th 21 = vI (G 21) (a_n A) th := rfl
  have k23 : kp_F (va_up G 19 (cpy (G 19) (G 13) (a_n A) 0)) (a_n A) (hsh (G 13)) was th 23 = vI (G 23) (hsh (G 13)) (a_n A) := rfl
  have k24 : kp_F (va_up G 19 (cpy (G 19) (G 13) (a_n A) 0)) (a_n A) (hsh (G 13)) was th 24 = vI (G 24) (a_n A) (G 23 (hsh (G 13))) := rfl
  have kk : ∀ k : Nat, k ≠ 19 → k ≠ 20 → k ≠ 21 → k ≠ 22 → k ≠ 23 → k ≠ 24 → kp_F (va_up G 19 (cpy (G 19) (G 13) (a_n A) 0)) (a_n A) (hsh (G 13)) was th k = G k := fun k q1 q2 q3 q4 q5 q6 => by
    unfold kp_F
    rw [va_up_miss q5, va_up_miss q6, va_up_miss q4, va_up_miss q3, va_up_miss q2, va_up_miss q1]
  generalize kp_F (va_up G 19 (cpy (G 19) (G 13) (a_n A) 0)) (a_n A) (hsh (G 13)) was th = K at *
  have e1 : a_n (s_add A r l w) = a_n A + 1 := rfl
  have e2 : a_pt (s_add A r l w) = vU (a_pt A) (a_n A) r := rfl
  have e3 : a_ln (s_add A r l w) = vI (a_ln A) (a_n A) l := rfl
  have e4 : a_wa (s_add A r l w) = vU (a_wa A) (a_n A) w := rfl
  have m19 : ∀ p k : Int, 0 ≤ p ∧ p < a_n A → 0 ≤ k ∧ k < 66 → K 19 (66 * p + k) = G 19 (66 * p + k) := fun p k hp hk => by
    rw [k19]
    unfold cpy
    rw [if_neg (by omega)]
  have n19 : ∀ k : Int, 0 ≤ k ∧ k < 66 → K 19 (66 * a_n A + k) = vec r k := fun k hk => by
    rw [k19]
    unfold cpy
    rw [if_pos (by omega), show 66 * a_n A + k - 66 * a_n A = k by omega, e13]
  have hq : ∀ q : Int, 0 ≤ q ∧ q < a_n A → hsh (vec (a_pt (s_add A r l w) q)) = hsh (vec (a_pt A q)) := fun q hq => by
    rw [e2, vU_miss (by omega)]
  have hqn : hsh (vec (a_pt (s_add A r l w) (a_n A))) = hsh (G 13) := by
    rw [e2, vU_hit, e13]
  have tn : (a_n (s_add A r l w)).toNat = (a_n A).toNat + 1 := by
    rw [e1]
    omega
  have tc : (((a_n A).toNat : Nat) : Int) = a_n A := by omega
  refine ⟨fun k k6 k7 => ?_, ⟨va_up_hit, ?_⟩, fun k x1 x2 x3 => ?_, ⟨r, ?_, ho⟩, ⟨fun y hy => ?_, fun q hq2 => ?_, fun q hq2 k hk => ?_⟩, fun p k hp2 hk => ?_, fun p hp2 => ?_, fun x hx => ?_⟩
  · rw [va_up_miss k6]
    exact a k k6 k7
  · rw [va_up_miss (by decide)]
    exact b.2
  · rw [kk k (by omega) (by omega) (by omega) (by omega) (by omega) (by omega)]
    exact c k x1 x2 x3
  · rw [kk 13 (by decide) (by decide) (by decide) (by decide) (by decide) (by decide)]
    exact e13
  · rw [tn, k23]
    show _ = if hsh (vec (a_pt (s_add A r l w) (((a_n A).toNat : Nat) : Int))) = y then (((a_n A).toNat : Nat) : Int) else lastp (fun q => hsh (vec (a_pt (s_add A r l w) q))) (a_n A).toNat y
    rw [tc, hqn]
    by_cases q : y = hsh (G 13)
    · rw [if_pos q.symm, q, vI_hit]
    · rw [if_neg (fun z => q z.symm), vI_miss q, f.1 y hy]
      exact (lastp_congr _ (fun q hq3 => hq q (by omega))).symm
  · rw [tn] at hq2
    show _ = lastp (fun q => hsh (vec (a_pt (s_add A r l w) q))) q (hsh (vec (a_pt (s_add A r l w) (q : Int))))
    rw [k24]
    by_cases z : q = (a_n A).toNat
    · rw [z, tc, hqn, vI_hit, f.1 _ (by omega)]
      exact (lastp_congr _ (fun q hq3 => hq q (by omega))).symm
    · rw [vI_miss (by omega), f.2.1 q (by omega), hq q (by omega)]
      exact (lastp_congr _ (fun q hq3 => hq q (by omega))).symm
  · rw [tn] at hq2
    by_cases z : q = a_n A
    · rw [z, n19 k hk]
      exact vec_100 hv.1 hk
    · rw [m19 q k (by omega) hk]
      exact f.2.2 q (by omega) k hk
  · rw [e1] at hp2
    rw [e2]
    by_cases z : p = a_n A
    · rw [z, n19 k hk, vU_hit]
    · rw [m19 p k (by omega) hk, vU_miss z]
      exact g p k (by omega) hk
  · rw [e1] at hp2
    unfold s_par
    rw [k20, k21, e3, e4]
    by_cases z : p = a_n A
    · rw [z, vI_hit, vI_hit, vI_hit, vU_hit]
      rcases hp with hp | hp
      · exact Or.inl ⟨hp.2, hp.1⟩
      · right
        have ne : was ≠ a_n A := by omega
        rw [vI_miss ne, vU_miss ne, hp.2.2]
        exact ⟨hp.1, hp.2.1, fun j hj => vI_miss (by omega), vI_hit.symm⟩
    · rw [vI_miss z, vI_miss z, vI_miss z, vU_miss z]
      rcases i p (by omega) with q | q
      · exact Or.inl q
      · right
        have ne : G 20 p ≠ a_n A := by omega
        rw [vI_miss ne, vU_miss ne]
        exact q
  · have hx2 : 0 ≤ x ∧ x < a_c A := hx
    have at1 := (hA.2.2.2.2.1 x hx2).1
    have q := j x hx2
    rw [kk 25 (by decide) (by decide) (by decide) (by decide) (by decide) (by decide), kk 26 (by decide) (by decide) (by decide) (by decide) (by decide) (by decide), kk 27 (by decide) (by decide) (by decide) (by decide) (by decide) (by decide)]
    refine ⟨q.1, q.2.1, fun y hy => ?_⟩
    rw [q.2.2 y hy]
    show _ = oc I F (vU (a_pt A) (a_n A) r (a_at A x)) y
    rw [vU_miss (by omega)]
