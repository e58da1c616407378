/-! ALL RUNS as one function of the house and a run: what both searches do. -/
def sv66 (a b : Int → Int) : Nat → Bool
  | 0 => true
  | k + 1 => decide (a k = b k) && sv66 a b k
theorem sv66_iff {a b : Int → Int} : ∀ n : Nat, sv66 a b n = true ↔ ∀ k : Int, 0 ≤ k ∧ k < n → a k = b k := by
  intro n
  induction n with
  | zero =>
    constructor
    · intro _ k hk
      omega
    · intro _
      rfl
  | succ n ih =>
    show (decide (a n = b n) && sv66 a b n) = true ↔ _
    rw [Bool.and_eq_true, decide_eq_true_eq, ih]
    constructor
    · rintro ⟨h1, h2⟩ k hk
      by_cases e : k = n
      · rw [e]
        exact h1
      · exact h2 k (by omega)
    · intro h
      exact ⟨h n (by omega), fun k hk => h k (by omega)⟩
/-- whether one of the first POINTS is where a run stands -/
def rmet (pt : Int → rn) (r : rn) : Nat → Bool
  | 0 => false
  | k + 1 => sv66 (vec (pt k)) (vec r) 66 || rmet pt r k
theorem rmet_iff {pt : Int → rn} {r : rn} : ∀ n : Nat, rmet pt r n = true ↔ ∃ q : Int, (0 ≤ q ∧ q < n) ∧ ∀ k : Int, 0 ≤ k ∧ k < 66 → vec (pt q) k = vec r k := by
  intro n
  induction n with
  | zero =>
    constructor
    · intro h
      exact Bool.noConfusion h
    · rintro ⟨q, hq, -⟩
      omega
  | succ n ih =>
    show (sv66 (vec (pt n)) (vec r) 66 || rmet pt r n) = true ↔ _
    rw [Bool.or_eq_true, sv66_iff, ih]
    constructor
    · rintro (h | ⟨q, hq, h⟩)
      · exact ⟨n, by omega, fun k hk => h k (by omega)⟩
      · exact ⟨q, by omega, h⟩
    · rintro ⟨q, hq, h⟩
      by_cases e : q = n
      · rw [e] at h
        exact Or.inl (fun k hk => h k (by omega))
      · exact Or.inr ⟨q, by omega, h⟩
def vU {α : Type} (f : Int → α) (i : Int) (v : α) : Int → α := fun j => if j = i then v else f j
theorem vU_hit {α : Type} {f : Int → α} {i : Int} {v : α} : vU f i v i = v := if_pos rfl
theorem vU_miss {α : Type} {f : Int → α} {i j : Int} {v : α} (h : j ≠ i) : vU f i v j = f j := if_neg h
/-- the next THREAD from t on that has a STEP; there is none, if it isn't less than I 1 -/
def nxh (I : Nat → Int) (F : Nat → Int → Int) (r : rn) : Nat → Int → Int
  | 0, t => t
  | k + 1, t => if t < I 1 then (if hv1 F r t = 1 then t else nxh I F r k (t + 1)) else t
theorem nxh_sp {I : Nat → Int} {F : Nat → Int → Int} {r : rn} (hI : I 1 ≤ 3) : ∀ (k : Nat) (t : Int), t ≤ 3 → 3 ≤ t + k → (t ≤ nxh I F r k t ∧ nxh I F r k t ≤ 3) ∧ (nxh I F r k t < I 1 → hv1 F r (nxh I F r k t) = 1) ∧ ∀ j : Int, t ≤ j ∧ j < nxh I F r k t → hv1 F r j = 0 := by
  intro k
  induction k with
  | zero =>
    intro t h1 h2
    unfold nxh
    exact ⟨by omega, fun h => by omega, fun j hj => by omega⟩
  | succ k ih =>
    intro t h1 h2
    unfold nxh
    by_cases c1 : t < I 1
    · rw [if_pos c1]
      by_cases c2 : hv1 F r t = 1
      · rw [if_pos c2]
        exact ⟨by omega, fun _ => c2, fun j hj => by omega⟩
      · rw [if_neg c2]
        have a := ih (t + 1) (by omega) (by omega)
        refine ⟨by omega, a.2.1, fun j hj => ?_⟩
        by_cases e : j = t
        · rw [e]
          rcases hv1_01 (F := F) (r := r) (h := t) with z | z
          · exact z
          · exact absurd z c2
        · exact a.2.2 j (by omega)
    · rw [if_neg c1]
      exact ⟨by omega, fun h => absurd h c1, fun j hj => by omega⟩
theorem hv_one {F : Nat → Int → Int} {r : rn} {t : Int} (h : hv1 F r t = 1) (ht : 0 ≤ t ∧ t < 3) : r_en r t = 0 ∧ sp_waits F (vec r) t = -1 := by
  unfold hv1 sp_has at h
  by_cases c : vec r (36 + t) = 0 ∧ sp_waits F (vec r) t = -1
  · rw [v_en ht.1 ht.2] at c
    exact c
  · rw [if_neg c] at h
    omega
theorem an1_0 {I : Nat → Int} {F : Nat → Int → Int} {r : rn} : ∀ n : Nat, an1 I F r n = 0 → ∀ j : Int, 0 ≤ j ∧ j < n ∧ j < I 1 → hv1 F r j = 0 := by
  intro n
  induction n with
  | zero =>
    intro _ j hj
    omega
  | succ n ih =>
    intro h j hj
    unfold an1 at h
    by_cases c : an1 I F r n = 1
    · rw [if_pos c] at h
      omega
    · rw [if_neg c] at h
      by_cases e : j = n
      · rw [if_pos (by omega)] at h
        rw [e]
        exact h
      · refine ih ?_ j (by omega)
        rcases an1_01 (I := I) (F := F) (r := r) n with z | z
        · exact z
        · exact absurd z c
/-- how many POINTS, which, how long the way to each, the way; the way back; how many OUTCOMES, their POINTS, their order -/
abbrev sst : Type := Int × (Int → rn) × (Int → Int) × (Int → Int → Int) × List (Int × Int) × Int × (Int → Int) × (Int → Int)
abbrev a_n (A : sst) : Int := A.1
abbrev a_pt (A : sst) : Int → rn := A.2.1
abbrev a_ln (A : sst) : Int → Int := A.2.2.1
abbrev a_wa (A : sst) : Int → Int → Int := A.2.2.2.1
abbrev a_sk (A : sst) : List (Int × Int) := A.2.2.2.2.1
abbrev a_c (A : sst) : Int := A.2.2.2.2.2.1
abbrev a_at (A : sst) : Int → Int := A.2.2.2.2.2.2.1
abbrev a_od (A : sst) : Int → Int := A.2.2.2.2.2.2.2
def a_P (I : Nat → Int) (F : Nat → Int → Int) (A : sst) (i : Int) : Int := ocd (oc I F (a_pt A (a_at A (a_od A i))))
def a_pos (I : Nat → Int) (F : Nat → Int → Int) (A : sst) (p : Int) : Int := fpos (a_P I F A) (ocd (oc I F (a_pt A p))) (a_c A).toNat 0
def s_stk (A : sst) (l : List (Int × Int)) : sst := (a_n A, a_pt A, a_ln A, a_wa A, l, a_c A, a_at A, a_od A)
def s_add (A : sst) (r : rn) (l : Int) (w : Int → Int) : sst := (a_n A + 1, vU (a_pt A) (a_n A) r, vI (a_ln A) (a_n A) l, vU (a_wa A) (a_n A) w, a_sk A, a_c A, a_at A, a_od A)
def s_new (A : sst) (pos p : Int) : sst := (a_n A, a_pt A, a_ln A, a_wa A, a_sk A, a_c A + 1, vI (a_at A) (a_c A) p, vI (shn (a_od A) pos (a_c A)) pos (a_c A))
def s_out (I : Nat → Int) (F : Nat → Int → Int) (A : sst) (p : Int) : Option sst :=
  if a_pos I F A p < a_c A ∧ a_P I F A (a_pos I F A p) = ocd (oc I F (a_pt A p)) then some A
  else if a_c A = 60 then none else some (s_new A (a_pos I F A p) p)
def s_come (I : Nat → Int) (F : Nat → Int → Int) (A : sst) (r : rn) (l : Int) (w : Int → Int) : Option sst :=
  if rmet (a_pt A) r (a_n A).toNat = true then some A
  else if a_n A = 3000 then none
  else if an1 I F r 3 = 1 then some (s_stk (s_add A r l w) ((a_n A, 0) :: a_sk A))
  else s_out I F (s_add A r l w) (a_n A)
def s_step (I : Nat → Int) (F : Nat → Int → Int) (A : sst) (e : Int × Int) (rest : List (Int × Int)) : Option sst :=
  if nxh I F (a_pt A e.1) 3 e.2 < I 1 then s_come I F (s_stk A ((e.1, nxh I F (a_pt A e.1) 3 e.2 + 1) :: rest)) (sq_steps F (a_pt A e.1) (nxh I F (a_pt A e.1) 3 e.2)).1 (a_ln A e.1 + 1) (vI (a_wa A e.1) (a_ln A e.1) (nxh I F (a_pt A e.1) 3 e.2))
  else some (s_stk A rest)
def s_run (I : Nat → Int) (F : Nat → Int → Int) : Nat → sst → Option sst
  | 0, A => some A
  | k + 1, A => match a_sk A with
    | [] => some A
    | e :: rest => (s_step I F A e rest).bind (s_run I F k)
def s_ini (r : rn) : sst := (0, fun _ => r, fun _ => 0, fun _ _ => 0, [], 0, fun _ => 0, fun _ => 0)
def s_all (I : Nat → Int) (F : Nat → Int → Int) (r : rn) : Option sst := (s_come I F (s_ini r) r 0 (fun _ => 0)).bind (s_run I F 12000)
theorem s_run_nil {I : Nat → Int} {F : Nat → Int → Int} {A : sst} (h : a_sk A = []) : ∀ k : Nat, s_run I F k A = some A := by
  intro k
  cases k with
  | zero => rfl
  | succ k =>
    unfold s_run
    rw [h]
theorem s_run_cons {I : Nat → Int} {F : Nat → Int → Int} {A : sst} {e : Int × Int} {rest : List (Int × Int)} (h : a_sk A = e :: rest) (k : Nat) : s_run I F (k + 1) A = (s_step I F A e rest).bind (s_run I F k) := by
  show (match a_sk A with | [] => some A | e :: rest => (s_step I F A e rest).bind (s_run I F k)) = _
  rw [h]
/-- what is not of the 66 numbers -/
def ox (r r' : rn) : Prop := ∀ h i : Int, 3 ≤ h → r_sk r' h i = r_sk r h i
theorem ox.rf {r : rn} : ox r r := fun _ _ _ => rfl
theorem ox.tr {r s t : rn} (h : ox r s) (g : ox s t) : ox r t := fun a b c => (g a b c).trans (h a b c)
theorem vec_66 {r : rn} {k : Int} (hk : 66 ≤ k) : vec r k = r_sk r ((k - 48) / 6) ((k - 48) % 6) := by
  unfold vec
  rw [if_neg (by omega), if_neg (by omega), if_neg (by omega), if_neg (by omega), if_neg (by omega), if_neg (by omega), if_neg (by omega), if_neg (by omega), if_neg (by omega), if_neg (by omega)]
theorem ox_vec {r r' : rn} (h : ox r r') {k : Int} (hk : 66 ≤ k) : vec r' k = vec r k := by
  rw [vec_66 hk, vec_66 hk]
  exact h _ _ (by omega)
theorem ox_sk {r : rn} {h i v : Int} (hh : h < 3) : ox r (u_sk r h i v) := fun a b c => if_neg (by omega)
theorem ox_begin {r : rn} {th t : Int} (hh : th < 3) : ox r (sq_begin r th t) := fun a b c => if_neg (by omega)
theorem ox_end {r : rn} {th n : Int} : ox r (sq_end r th n) := fun _ _ _ => rfl
theorem ox_go {r : rn} {th t st : Int} (hh : th < 3) : ox r (sq_go r th t st) := fun a b c => if_neg (by omega)
theorem ox_uk {r : rn} {t th v : Int} : ox r (sq_uk r t th v) := by
  unfold sq_uk
  split <;> exact fun _ _ _ => rfl
theorem ox_ul {r : rn} {t th v : Int} : ox r (sq_ul r t th v) := by
  unfold sq_ul
  split <;> exact fun _ _ _ => rfl
theorem ox_behind {r : rn} {th : Int} : ox r (sq_behind r th) := by
  unfold sq_behind
  split <;> exact fun _ _ _ => rfl
theorem ox_thr {G : Int → Int} {th : Int} (hh : th < 3) : ∀ (k : Nat) (r : rn) (n b : Int), ox r (sq_thr G th k r n b).1 := by
  intro k
  induction k with
  | zero =>
    intro r n b
    exact fun _ _ _ => rfl
  | succ k ih =>
    intro r n b
    unfold sq_thr
    split
    · split
      · exact ox_behind
      · split
        · exact ox_end
        · exact ih _ _ _
    · exact (ox_go hh).tr (ih _ _ _)
theorem ox_pf {F : Nat → Int → Int} {r : rn} {t th x b k q : Int} : ox r (sq_pf F r t th x b k q).1 := by
  unfold sq_pf
  split
  · exact ox_ul.tr ox_uk
  · split
    · exact ox.tr (s := u_fl r x (F 11 (5 * b + k))) (fun _ _ _ => rfl) ox_uk
    · split
      · exact ox_uk
      · exact ox_uk
theorem ox_acts {F : Nat → Int → Int} {r : rn} {t th b k : Int} (hh : th < 3) : ox r (sq_acts F r t th b k).1 := by
  unfold sq_acts
  split
  · exact ox_thr hh _ _ _ _
  · split
    · exact ox_thr hh _ _ _ _
    · split
      · exact ox_begin hh
      · split
        · exact ox_thr hh _ _ _ _
        · exact ox_pf
theorem ox_steps {F : Nat → Int → Int} {r : rn} {th : Int} (hh : th < 3) : ox r (sq_steps F r th).1 := by
  unfold sq_steps
  split
  · split
    · exact fun _ _ _ => rfl
    · split
      · exact ox.tr (s := u_ls r (sq_top r th) (sq_next F r th (sq_top r th) + 1)) (fun _ _ _ => rfl) (ox_begin hh)
      · exact ox_thr hh _ _ _ _
  · split
    · split
      · exact ox_end
      · exact ox_acts hh
    · split
      · exact ox_go hh
      · exact ox_acts hh
/-! What holds all along a search. -/
def s_pre (A : sst) (p : Int) : List (Int × Int) → Prop
  | [] => True
  | e :: _ => ∀ j : Int, 0 ≤ j ∧ j < a_ln A e.1 → a_wa A p j = a_wa A e.1 j
def s_chain (I : Nat → Int) (F : Nat → Int → Int) (A : sst) : List (Int × Int) → Prop
  | [] => True
  | e :: rest => (0 ≤ e.1 ∧ e.1 < a_n A) ∧ (0 ≤ e.2 ∧ e.2 ≤ 3) ∧ an1 I F (a_pt A e.1) 3 = 1 ∧ a_ln A e.1 = rest.length ∧ s_pre A e.1 rest ∧ s_chain I F A rest
theorem s_chain_congr {I : Nat → Int} {F : Nat → Int → Int} {A A' : sst} (hn : a_n A ≤ a_n A') (he : ∀ p : Int, 0 ≤ p ∧ p < a_n A → a_pt A' p = a_pt A p ∧ a_ln A' p = a_ln A p ∧ a_wa A' p = a_wa A p) : ∀ l : List (Int × Int), s_chain I F A l → s_chain I F A' l := by
  intro l
  induction l with
  | nil => exact fun _ => trivial
  | cons e l ih =>
    rintro ⟨h1, h2, h3, h4, h5, h6⟩
    obtain ⟨q1, q2, q3⟩ := he e.1 h1
    refine ⟨by omega, h2, by rw [q1]; exact h3, by rw [q2]; exact h4, ?_, ih h6⟩
    cases l with
    | nil => exact trivial
    | cons f l =>
      intro j hj
      have hf := h6.1
      obtain ⟨p1, p2, p3⟩ := he f.1 hf
      rw [p2] at hj
      rw [q3, p3]
      exact h5 j hj
def s_pts (I : Nat → Int) (F : Nat → Int → Int) (r0 : rn) (A : sst) : Prop := ∀ p : Int, 0 ≤ p ∧ p < a_n A → rn_iv I F (a_pt A p) ∧ ox r0 (a_pt A p) ∧ (0 ≤ a_ln A p ∧ mu 8 (a_pt A p) + a_ln A p ≤ 66) ∧ ∀ j : Int, 0 ≤ j ∧ j < a_ln A p → 0 ≤ a_wa A p j ∧ a_wa A p j ≤ 2
def s_iv (I : Nat → Int) (F : Nat → Int → Int) (r0 : rn) (A : sst) : Prop :=
  (0 ≤ a_n A ∧ a_n A ≤ 3000) ∧ (0 ≤ a_c A ∧ a_c A ≤ 60) ∧ (1 ≤ a_n A → a_pt A 0 = r0) ∧ s_pts I F r0 A ∧
  (∀ i : Int, 0 ≤ i ∧ i < a_c A → (0 ≤ a_at A i ∧ a_at A i < a_n A) ∧ 0 ≤ a_od A i ∧ a_od A i < a_c A) ∧ s_chain I F A (a_sk A)
def ssum : List (Int × Int) → Int
  | [] => 0
  | e :: rest => 4 - e.2 + ssum rest
def msr (A : sst) : Int := ssum (a_sk A) + 4 * (3000 - a_n A)
theorem ssum_0 {I : Nat → Int} {F : Nat → Int → Int} {A : sst} : ∀ l : List (Int × Int), s_chain I F A l → 0 ≤ ssum l := by
  intro l
  induction l with
  | nil => exact fun _ => Int.le_refl _
  | cons e l ih =>
    intro h
    have a := ih h.2.2.2.2.2
    have b := h.2.1
    unfold ssum
    omega
theorem s_add_iv {I : Nat → Int} {F : Nat → Int → Int} {r0 : rn} {A : sst} {r : rn} {l : Int} {w : Int → Int} (hA : s_iv I F r0 A) (hn : a_n A ≠ 3000) (hv : rn_iv I F r) (ho : ox r0 r) (hl : 0 ≤ l ∧ mu 8 r + l ≤ 66) (hw : ∀ j : Int, 0 ≤ j ∧ j < l → 0 ≤ w j ∧ w j ≤ 2) (h00 : a_n A = 0 → r = r0) : s_iv I F r0 (s_add A r l w) := by
  obtain ⟨i1, i2, i3, i4, i5, i6⟩ := hA
  have e1 : a_n (s_add A r l w) = a_n A + 1 := rfl
  have e2 : a_pt (s_add A r l w) = vU (a_pt A) (a_n A) r := rfl
  have e3 : a_ln (s_add A r l w) = vI (a_ln A) (a_n A) l := rfl
  have e4 : a_wa (s_add A r l w) = vU (a_wa A) (a_n A) w := rfl
  have e5 : a_c (s_add A r l w) = a_c A := rfl
  have e6 : a_at (s_add A r l w) = a_at A := rfl
  have e7 : a_od (s_add A r l w) = a_od A := rfl
  have e8 : a_sk (s_add A r l w) = a_sk A := rfl
  refine ⟨by rw [e1]; omega, by rw [e5]; exact i2, fun _ => ?_, fun p hp => ?_, fun i hi => ?_, ?_⟩
  · rw [e2]
    by_cases c : a_n A = 0
    · rw [c, vU_hit]
      exact h00 c
    · rw [vU_miss (by omega)]
      exact i3 (by omega)
  · rw [e1] at hp
    rw [e2, e3, e4]
    by_cases c : p = a_n A
    · rw [c, vU_hit, vI_hit, vU_hit]
      exact ⟨hv, ho, hl, hw⟩
    · rw [vU_miss c, vI_miss c, vU_miss c]
      exact i4 p (by omega)
  · rw [e5] at hi
    rw [e6, e7, e1, e5]
    have := i5 i hi
    omega
  · rw [e8]
    refine s_chain_congr (by rw [e1]; omega) (fun p hp => ?_) _ i6
    rw [e2, e3, e4, vU_miss (by omega), vI_miss (by omega), vU_miss (by omega)]
    exact ⟨rfl, rfl, rfl⟩
theorem s_stk_iv {I : Nat → Int} {F : Nat → Int → Int} {r0 : rn} {A : sst} {l : List (Int × Int)} (hA : s_iv I F r0 A) (hl : s_chain I F A l) : s_iv I F r0 (s_stk A l) :=
  ⟨hA.1, hA.2.1, hA.2.2.1, hA.2.2.2.1, hA.2.2.2.2.1, s_chain_congr (A := A) (A' := s_stk A l) (Int.le_refl _) (fun _ _ => ⟨rfl, rfl, rfl⟩) l hl⟩
theorem a_pos_rg {I : Nat → Int} {F : Nat → Int → Int} {A : sst} {p : Int} (hc : 0 ≤ a_c A) : 0 ≤ a_pos I F A p ∧ a_pos I F A p ≤ a_c A := by
  have := fpos_rg (P := a_P I F A) (x := ocd (oc I F (a_pt A p))) (a_c A).toNat 0
  unfold a_pos
  omega
theorem s_new_iv {I : Nat → Int} {F : Nat → Int → Int} {r0 : rn} {A : sst} {p pos : Int} (hA : s_iv I F r0 A) (hp : 0 ≤ p ∧ p < a_n A) (hc : a_c A ≠ 60) (hpos : 0 ≤ pos ∧ pos ≤ a_c A) : s_iv I F r0 (s_new A pos p) := by
  obtain ⟨i1, i2, i3, i4, i5, i6⟩ := hA
  have e1 : a_n (s_new A pos p) = a_n A := rfl
  have e5 : a_c (s_new A pos p) = a_c A + 1 := rfl
  have e6 : a_at (s_new A pos p) = vI (a_at A) (a_c A) p := rfl
  have e7 : a_od (s_new A pos p) = vI (shn (a_od A) pos (a_c A)) pos (a_c A) := rfl
  refine ⟨i1, by rw [e5]; omega, i3, i4, fun i hi => ?_, s_chain_congr (A := A) (A' := s_new A pos p) (Int.le_refl _) (fun _ _ => ⟨rfl, rfl, rfl⟩) _ i6⟩
  rw [e5] at hi
  rw [e6, e7, e1, e5]
  constructor
  · by_cases c : i = a_c A
    · rw [c, vI_hit]
      exact hp
    · rw [vI_miss c]
      exact (i5 i (by omega)).1
  · by_cases c : i = pos
    · rw [c, vI_hit]
      omega
    · rw [vI_miss c]
      unfold shn
      by_cases c2 : pos < i ∧ i ≤ a_c A
      · rw [if_pos c2]
        have := (i5 (i - 1) (by omega)).2
        omega
      · rw [if_neg c2]
        have := (i5 i (by omega)).2
        omega
theorem s_out_iv {I : Nat → Int} {F : Nat → Int → Int} {r0 : rn} {A A' : sst} {p : Int} (hA : s_iv I F r0 A) (hp : 0 ≤ p ∧ p < a_n A) (h : s_out I F A p = some A') : s_iv I F r0 A' ∧ a_n A' = a_n A ∧ a_sk A' = a_sk A := by
  unfold s_out at h
  split at h
  · have e := Option.some.inj h
    subst e
    exact ⟨hA, rfl, rfl⟩
  · split at h
    · cases h
    · rename_i _ c
      have e := Option.some.inj h
      subst e
      exact ⟨s_new_iv hA hp c (a_pos_rg hA.2.1.1), rfl, rfl⟩
theorem s_come_iv {I : Nat → Int} {F : Nat → Int → Int} {r0 : rn} {A A' : sst} {r : rn} {l : Int} {w : Int → Int} (hA : s_iv I F r0 A) (hv : rn_iv I F r) (ho : ox r0 r) (hl : 0 ≤ l ∧ mu 8 r + l ≤ 66) (hw : ∀ j : Int, 0 ≤ j ∧ j < l → 0 ≤ w j ∧ w j ≤ 2) (h00 : a_n A = 0 → r = r0) (hlen : l = (a_sk A).length) (hpre : ∀ e rest, a_sk A = e :: rest → ∀ j : Int, 0 ≤ j ∧ j < a_ln A e.1 → w j = a_wa A e.1 j) (h : s_come I F A r l w = some A') : s_iv I F r0 A' ∧ msr A' ≤ msr A := by
  unfold s_come at h
  split at h
  · have e := Option.some.inj h
    subst e
    exact ⟨hA, Int.le_refl _⟩
  · split at h
    · cases h
    · rename_i _ hn
      have B := s_add_iv hA hn hv ho hl hw h00
      split at h
      · rename_i c
        have e := Option.some.inj h
        subst e
        have e1 : a_n (s_add A r l w) = a_n A + 1 := rfl
        have e2 : a_pt (s_add A r l w) = vU (a_pt A) (a_n A) r := rfl
        have e3 : a_ln (s_add A r l w) = vI (a_ln A) (a_n A) l := rfl
        have e4 : a_wa (s_add A r l w) = vU (a_wa A) (a_n A) w := rfl
        have i1 := hA.1
        refine ⟨s_stk_iv B ⟨?_, (by decide : (0 : Int) ≤ 0 ∧ (0 : Int) ≤ 3), ?_, ?_, ?_, B.2.2.2.2.2⟩, ?_⟩
        · show 0 ≤ a_n A ∧ a_n A < a_n (s_add A r l w)
          rw [e1]
          omega
        · show an1 I F (a_pt (s_add A r l w) (a_n A)) 3 = 1
          rw [e2, vU_hit]
          exact c
        · show a_ln (s_add A r l w) (a_n A) = _
          rw [e3, vI_hit]
          exact hlen
        · have hc := hA.2.2.2.2.2
          show s_pre (s_add A r l w) (a_n A) (a_sk A)
          cases hs : a_sk A with
          | nil => exact trivial
          | cons f t =>
            intro j hj
            rw [hs] at hc
            have hf := hc.1
            have ne : f.1 ≠ a_n A := by omega
            rw [e3, vI_miss ne] at hj
            rw [e4, vU_hit, vU_miss ne]
            exact hpre f t hs j hj
        · show ssum ((a_n A, 0) :: a_sk A) + 4 * (3000 - (a_n A + 1)) ≤ msr A
          have es : ssum ((a_n A, 0) :: a_sk A) = 4 - 0 + ssum (a_sk A) := rfl
          rw [es]
          unfold msr
          omega
      · have i1 := hA.1
        have q := s_out_iv B (p := a_n A) (by show 0 ≤ a_n A ∧ a_n A < a_n A + 1; omega) h
        refine ⟨q.1, ?_⟩
        unfold msr
        rw [q.2.1, q.2.2]
        show ssum (a_sk A) + 4 * (3000 - (a_n A + 1)) ≤ _
        omega
theorem s_step_iv {I : Nat → Int} {F : Nat → Int → Int} (hr : md_rg I F) (hwf : md_wf I F) {r0 : rn} {A A' : sst} (hA : s_iv I F r0 A) {e : Int × Int} {rest : List (Int × Int)} (hs : a_sk A = e :: rest) (h : s_step I F A e rest = some A') : s_iv I F r0 A' ∧ msr A' + 1 ≤ msr A := by
  have hI := hr.1
  have ch := hA.2.2.2.2.2
  rw [hs] at ch
  obtain ⟨c1, c2, c3, c4, c5, c6⟩ := ch
  have nx := nxh_sp (I := I) (F := F) (r := a_pt A e.1) hI.2.2.2 3 e.2 c2.2 (by omega)
  obtain ⟨p1, p2, p3, p4⟩ := hA.2.2.2.1 e.1 c1
  have em : msr A = 4 - e.2 + ssum rest + 4 * (3000 - a_n A) := by
    unfold msr
    rw [hs]
    rfl
  unfold s_step at h
  generalize nxh I F (a_pt A e.1) 3 e.2 = th at *
  split at h
  · rename_i cth
    have hen := (hv_one (nx.2.1 cth) ⟨by omega, by omega⟩).1
    have st := st_steps hr hwf p1 (th := th) ⟨by omega, cth⟩ hen
    have q := s_come_iv (A := s_stk A ((e.1, th + 1) :: rest)) (s_stk_iv hA ⟨c1, (by show 0 ≤ th + 1 ∧ th + 1 ≤ 3; omega), c3, c4, c5, c6⟩) st.1 (p2.tr (ox_steps (by omega))) ⟨by omega, by have := st.2.2; omega⟩ (fun j hj => by
      by_cases cj : j = a_ln A e.1
      · rw [cj, vI_hit]
        omega
      · rw [vI_miss cj]
        exact p4 j (by omega)) (fun z => by
      have z2 : a_n A = 0 := z
      omega) (by show a_ln A e.1 + 1 = (((e.1, th + 1) :: rest).length : Int); rw [c4, List.length_cons]; omega) (fun f t ht j hj => by
      have ef : f = (e.1, th + 1) := by
        have := List.cons.inj ht
        exact this.1.symm
      subst ef
      have hj2 : 0 ≤ j ∧ j < a_ln A e.1 := hj
      rw [vI_miss (by omega)]
      rfl) h
    refine ⟨q.1, ?_⟩
    have m2 : msr (s_stk A ((e.1, th + 1) :: rest)) = 4 - (th + 1) + ssum rest + 4 * (3000 - a_n A) := rfl
    have := q.2
    omega
  · have e9 := Option.some.inj h
    subst e9
    refine ⟨s_stk_iv hA c6, ?_⟩
    have m2 : msr (s_stk A rest) = ssum rest + 4 * (3000 - a_n A) := rfl
    omega
theorem s_ini_iv {I : Nat → Int} {F : Nat → Int → Int} {r : rn} : s_iv I F r (s_ini r) :=
  ⟨(by decide : (0 : Int) ≤ 0 ∧ (0 : Int) ≤ 3000), (by decide : (0 : Int) ≤ 0 ∧ (0 : Int) ≤ 60), fun _ => rfl, fun p hp => by
    have h : 0 ≤ p ∧ p < 0 := hp
    omega, fun i hi => by
    have h : 0 ≤ i ∧ i < 0 := hi
    omega, trivial⟩
theorem s_fst_iv {I : Nat → Int} {F : Nat → Int → Int} {r : rn} (hv : rn_iv I F r) {A : sst} (h : s_come I F (s_ini r) r 0 (fun _ => 0) = some A) : s_iv I F r A ∧ msr A ≤ 12000 := by
  have m := mu_0 (a := 8) hv.1 (by decide)
  rw [if_neg (by decide)] at m
  exact s_come_iv (I := I) (F := F) (r0 := r) (A := s_ini r) s_ini_iv hv ox.rf ⟨Int.le_refl _, by omega⟩ (fun j hj => by omega) (fun _ => rfl) rfl (fun e rest z => by cases z) h
/-! The same in a house whose rows of a search alone are others. -/
theorem sf.an {I I' : Nat → Int} {F F' : Nat → Int → Int} (hs : sf F F') (h1 : I' 1 = I 1) (r : rn) : ∀ n : Nat, an1 I' F' r n = an1 I F r n := by
  intro n
  induction n with
  | zero => rfl
  | succ n ih =>
    unfold an1
    rw [ih, h1, hs.hv]
theorem sf.nx {I I' : Nat → Int} {F F' : Nat → Int → Int} (hs : sf F F') (h1 : I' 1 = I 1) (r : rn) : ∀ (n : Nat) (t : Int), nxh I' F' r n t = nxh I F r n t := by
  intro n
  induction n with
  | zero => exact fun _ => rfl
  | succ n ih =>
    intro t
    unfold nxh
    rw [ih, h1, hs.hv]
theorem sf.aP {I I' : Nat → Int} {F F' : Nat → Int → Int} (hs : sf F F') (h1 : I' 1 = I 1) (A : sst) : a_P I' F' A = a_P I F A := by
  funext i
  unfold a_P
  rw [hs.oq h1]
theorem sf.out {I I' : Nat → Int} {F F' : Nat → Int → Int} (hs : sf F F') (h1 : I' 1 = I 1) (A : sst) (p : Int) : s_out I' F' A p = s_out I F A p := by
  unfold s_out a_pos
  rw [hs.aP h1, hs.oq h1]
theorem sf.come {I I' : Nat → Int} {F F' : Nat → Int → Int} (hs : sf F F') (h1 : I' 1 = I 1) (A : sst) (r : rn) (l : Int) (w : Int → Int) : s_come I' F' A r l w = s_come I F A r l w := by
  unfold s_come
  rw [hs.an h1, hs.out h1]
theorem sf.step {I I' : Nat → Int} {F F' : Nat → Int → Int} (hs : sf F F') (h1 : I' 1 = I 1) (A : sst) (e : Int × Int) (l : List (Int × Int)) : s_step I' F' A e l = s_step I F A e l := by
  unfold s_step
  rw [hs.nx h1, hs.stp, hs.come h1, h1]
theorem sf.run {I I' : Nat → Int} {F F' : Nat → Int → Int} (hs : sf F F') (h1 : I' 1 = I 1) : ∀ (k : Nat) (A : sst), s_run I' F' k A = s_run I F k A := by
  intro k
  induction k with
  | zero => exact fun _ => rfl
  | succ k ih =>
    intro A
    have e : s_run I' F' k = s_run I F k := funext ih
    unfold s_run
    cases a_sk A with
    | nil => rfl
    | cons f t =>
      show (s_step I' F' A f t).bind (s_run I' F' k) = (s_step I F A f t).bind (s_run I F k)
      rw [e, hs.step h1]
theorem sf.all {I I' : Nat → Int} {F F' : Nat → Int → Int} (hs : sf F F') (h1 : I' 1 = I 1) (r : rn) : s_all I' F' r = s_all I F r := by
  unfold s_all
  have e : s_run I' F' 12000 = s_run I F 12000 := funext (hs.run h1 12000)
  rw [e, hs.come h1]
theorem s_come_n {I : Nat → Int} {F : Nat → Int → Int} {A A' : sst} {r : rn} {l : Int} {w : Int → Int} (h : s_come I F A r l w = some A') : a_n A ≤ a_n A' := by
  unfold s_come at h
  split at h
  · have e := Option.some.inj h
    subst e
    exact Int.le_refl _
  · split at h
    · cases h
    · split at h
      · have e := Option.some.inj h
        subst e
        show a_n A ≤ a_n A + 1
        omega
      · unfold s_out at h
        split at h
        · have e := Option.some.inj h
          subst e
          show a_n A ≤ a_n A + 1
          omega
        · split at h
          · cases h
          · have e := Option.some.inj h
            subst e
            show a_n A ≤ a_n A + 1
            omega
theorem s_step_n {I : Nat → Int} {F : Nat → Int → Int} {A A' : sst} {e : Int × Int} {rest : List (Int × Int)} (h : s_step I F A e rest = some A') : a_n A ≤ a_n A' := by
  unfold s_step at h
  split at h
  · exact s_come_n (A := s_stk A ((e.1, nxh I F (a_pt A e.1) 3 e.2 + 1) :: rest)) h
  · have e := Option.some.inj h
    subst e
    exact Int.le_refl _
