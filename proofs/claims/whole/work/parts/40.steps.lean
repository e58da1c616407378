/-! A STEP of a THREAD, by the parts of the run. -/
/-- what the house keeps to, beyond ranges -/
def md_wf (I : Nat → Int) (F : Nat → Int → Int) : Prop :=
  (∀ b k : Int, (0 ≤ b ∧ b < I 0 ∨ 6 ≤ b ∧ b < 6 + I 1) → (0 ≤ k ∧ k < F 8 b) → (F 9 (5 * b + k) = 4 → 1 ≤ F 10 (5 * b + k) ∧ F 10 (5 * b + k) ≤ 2) ∧ (F 9 (5 * b + k) ≤ 3 → F 10 (5 * b + k) < I 0)) ∧
  (∀ t i : Int, (0 ≤ t ∧ t < I 0) → (0 ≤ i ∧ i < F 6 t) → F 7 (6 * t + i) < I 0) ∧
  (∀ t : Int, (0 ≤ t ∧ t < I 0) → F 17 t ≠ -1 → F 17 t < I 0 ∧ F 5 (F 17 t) = 1)
theorem md_wf_of {I I' : Nat → Int} {F F' : Nat → Int → Int} (h : md_wf I F) (h0 : I' 0 = I 0) (h1 : I' 1 = I 1) (hk : ∀ k : Nat, k ≠ 13 → k ≠ 14 → F' k = F k) : md_wf I' F' := by
  unfold md_wf at *
  rw [h0, h1, hk 5 (by decide) (by decide), hk 6 (by decide) (by decide), hk 7 (by decide) (by decide), hk 8 (by decide) (by decide), hk 9 (by decide) (by decide), hk 10 (by decide) (by decide), hk 17 (by decide) (by decide)]
  exact h
def sq_next (F : Nat → Int → Int) (r : rn) (th t : Int) : Int := sp_nextIn F (vec r) th t
def sq_steps (F : Nat → Int → Int) (r : rn) (th : Int) : rn × List (Int × Int × Int) :=
  if sq_top r th ≠ -1 ∧ 0 ≤ r_ls r (sq_top r th) then
    if sq_next F r th (sq_top r th) = F 6 (sq_top r th) then (u_ls r (sq_top r th) (-1), [])
    else if r_st r (F 7 (6 * sq_top r th + sq_next F r th (sq_top r th))) = 0 then (sq_begin (u_ls r (sq_top r th) (sq_next F r th (sq_top r th) + 1)) th (F 7 (6 * sq_top r th + sq_next F r th (sq_top r th))), [(th, 0, F 7 (6 * sq_top r th + sq_next F r th (sq_top r th)))])
    else sq_thr (F 12) th 14 r 4 1
  else if sq_top r th = -1 then
    if r_ha r th = F 8 (6 + th) then (sq_end r th 0, [(th, 5, 0)]) else sq_acts F r (sq_top r th) th (6 + th) (r_ha r th)
  else if r_at r (sq_top r th) = F 8 (sq_top r th) then (sq_go r th (sq_top r th) 2, [(th, 1, sq_top r th)])
  else sq_acts F r (sq_top r th) th (sq_top r th) (r_at r (sq_top r th))
/-- a step keeps the invariant; what may still come falls -/
def st_ok (I : Nat → Int) (F : Nat → Int → Int) (r : rn) (p : rn × List (Int × Int × Int)) : Prop := rn_iv I F p.1 ∧ mu 7 p.1 + p.2.length ≤ mu 7 r ∧ mu 8 p.1 + 1 ≤ mu 8 r
theorem mu_begin {a : Int} {r : rn} {th t : Int} (ht : 0 ≤ t ∧ t < 6) (hs : r_st r t = 0) (hl : r_ls r t = 0) : mu a (sq_begin r th t) = mu a r - 1 := by
  have e1 := s6_at (f := mu_t a (sq_begin r th t)) (g := mu_t a r) ht (fun x hx hn => by
    have q1 : r_st (sq_begin r th t) x = r_st r x := vI_miss hn
    have q2 : r_ls (sq_begin r th t) x = r_ls r x := rfl
    have q3 : r_at (sq_begin r th t) x = r_at r x := rfl
    unfold mu_t
    rw [q1, q2, q3])
  have e2 : mu_t a (sq_begin r th t) t = a - 1 := by
    have q1 : r_st (sq_begin r th t) t = 1 := vI_hit
    have q2 : r_ls (sq_begin r th t) t = 0 := hl
    unfold mu_t mu_f
    rw [q1, q2, if_neg (by decide), if_pos rfl, if_pos (by decide)]
  have e3 : mu_t a r t = a := by
    unfold mu_t mu_f
    rw [hs, if_pos rfl]
  have e4 : mu_h (sq_begin r th t) = mu_h r := rfl
  unfold mu
  rw [e4]
  omega
theorem mu_ls {a : Int} {r : rn} {t v : Int} (ht : 0 ≤ t ∧ t < 6) (hs : r_st r t = 1) (hl : 0 ≤ r_ls r t) (ha : r_at r t = 0) : mu a (u_ls r t v) = mu a r - (if 0 ≤ v then 0 else a - 7) := by
  have e1 := s6_at (f := mu_t a (u_ls r t v)) (g := mu_t a r) ht (fun x hx hn => by
    have q3 : r_ls (u_ls r t v) x = r_ls r x := vI_miss hn
    unfold mu_t
    rw [q3]
    rfl)
  have e2 : mu_t a (u_ls r t v) t = if 0 ≤ v then a - 1 else 6 := by
    have q3 : r_at (u_ls r t v) t = 0 := ha
    have q1 : r_st (u_ls r t v) t = 1 := hs
    have q2 : r_ls (u_ls r t v) t = v := vI_hit
    unfold mu_t mu_f
    rw [q1, q2, q3, if_neg (by decide), if_pos rfl]
    rfl
  have e3 : mu_t a r t = a - 1 := by
    unfold mu_t mu_f
    rw [hs, if_neg (by decide), if_pos rfl, if_pos hl]
  have e4 : mu_h (u_ls r t v) = mu_h r := rfl
  unfold mu
  rw [e4]
  split <;> split at e2 <;> omega
theorem sp_nx_le {s li : Int → Int} {h t m : Int} : ∀ (n : Nat) (i : Int), i ≤ m → i ≤ sp_nx s li h t m n i ∧ sp_nx s li h t m n i ≤ m := by
  intro n
  induction n with
  | zero => intro i h1; exact ⟨Int.le_refl _, h1⟩
  | succ n ih =>
    intro i h1
    unfold sp_nx
    split
    · have := ih (i + 1) (by omega)
      omega
    · exact ⟨Int.le_refl _, h1⟩
theorem sq_top_0 {I : Nat → Int} {F : Nat → Int → Int} {r : rn} (hv : rn_iv I F r) {th : Int} (hth : 0 ≤ th ∧ th < 3) (h : sq_top r th = -1) : r_mn r th = 0 := by
  by_cases c : r_mn r th = 0
  · exact c
  · have e1 := hv.1.2.1 th hth
    have := hv.1.2.2 th (r_mn r th - 1) hth ⟨by omega, by omega⟩
    rw [sq_top_m c] at h
    omega
/-- the TYPE on top -/
theorem sq_top_1 {I : Nat → Int} {F : Nat → Int → Int} {r : rn} (hv : rn_iv I F r) {th : Int} (hth : 0 ≤ th ∧ th < 3) (h : sq_top r th ≠ -1) : 0 < r_mn r th ∧ sq_top r th = r_sk r th (r_mn r th - 1) ∧ (0 ≤ sq_top r th ∧ sq_top r th < 6) ∧ r_st r (sq_top r th) = 1 ∧ r_in r (sq_top r th) = th ∧ sq_top r th < I 0 := by
  have c : r_mn r th ≠ 0 := fun c => h (if_pos c)
  have e1 := hv.1.2.1 th hth
  have e2 := hv.1.2.2 th (r_mn r th - 1) hth ⟨by omega, by omega⟩
  have e3 := hv.2.2.2.1 th (r_mn r th - 1) hth ⟨by omega, by omega⟩
  have etm := sq_top_m c
  rw [← etm] at e2 e3
  refine ⟨by omega, etm, by omega, e3.1, e3.2, ?_⟩
  by_cases q : sq_top r th < I 0
  · exact q
  · have := hv.2.2.2.2.2.2.2.2.2.2.2.2.2.1 (sq_top r th) ⟨by omega, by omega, by omega⟩
    omega
theorem st_thr {I : Nat → Int} {F : Nat → Int → Int} (hr : md_rg I F) {th : Int} (hth : 0 ≤ th ∧ th < I 1) {r : rn} {n b : Int} (hv : rn_iv I F r) (hen : r_en r th = 0) (hn : 1 ≤ n ∧ n ≤ 5) (hb : th_ok F r th b) : st_ok I F r (sq_thr (F 12) th 14 r n b) := by
  have hth3 : 0 ≤ th ∧ th < 3 := by have := hr.1; omega
  have e1 := hv.1.2.1 th hth3
  have e2 := hb.1
  have q := sq_thr_ok hr hth 14 r n b hv hen hn hb (by omega)
  have q7 := q.2.2 7 (by decide)
  have q8 := q.2.2 8 (by decide)
  exact ⟨q.1, q7, by omega⟩
/-- what an ACTION ahead asks for is a TYPE that there is; with a FIELD, where it is taken -/
theorem sp_asked_wf {I : Nat → Int} {F : Nat → Int → Int} (hr : md_rg I F) (hw : md_wf I F) {b k : Int} (hb : 0 ≤ b ∧ b < I 0 ∨ 6 ≤ b ∧ b < 6 + I 1) (hk : 0 ≤ k ∧ k < F 8 b) : sp_asked F b k < I 0 ∧ (0 ≤ sp_asked F b k → F 9 (5 * b + k) < 2 → F 5 (sp_asked F b k) = 1) := by
  have hI := hr.1
  have h8 := hr.2.2.2.2.1 b ⟨by omega, by omega⟩
  have e1 := hr.2.2.2.2.2 (5 * b + k) ⟨by omega, by omega⟩
  have w1 := hw.1 b k hb hk
  unfold sp_asked
  split
  · exact ⟨by omega, fun c => by omega⟩
  · have w2 := w1.2 (by omega)
    split
    · exact ⟨by omega, fun _ c => by omega⟩
    · split
      · exact ⟨by omega, fun c => by omega⟩
      · rename_i c
        have w3 := hw.2.2 (F 10 (5 * b + k)) ⟨by omega, by omega⟩ (fun q => c (Or.inl q))
        exact ⟨w3.1, fun _ _ => w3.2⟩
/-- behind the ACTION of the BODY on top: how far it is -/
theorem st_uk {I : Nat → Int} {F : Nat → Int → Int} (hr : md_rg I F) {r : rn} (hv : rn_iv I F r) {th v k : Int} (hth : 0 ≤ th ∧ th < I 1) (hen : r_en r th = 0) (hb : th_ok F r th 0) (hk : k = if sq_top r th = -1 then r_ha r th else r_at r (sq_top r th)) (hw : k < v ∧ v ≤ F 8 (if sq_top r th = -1 then 6 + th else sq_top r th)) : rn_iv I F (sq_uk r (sq_top r th) th v) ∧ ∀ a : Int, mu a (sq_uk r (sq_top r th) th v) ≤ mu a r - 1 := by
  have hth3 : 0 ≤ th ∧ th < 3 := by have := hr.1; omega
  have e1 := hv.1.2.1 th hth3
  have w := hb.2.2 rfl
  unfold sq_uk
  by_cases c : sq_top r th = -1
  · rw [if_pos c] at hk hw ⊢
    have hm := sq_top_0 hv hth3 c
    have h8 := hr.2.2.2.2.1 (6 + th) ⟨by omega, by omega⟩
    refine ⟨iv_ha hv hth hm hen ⟨by omega, by omega, by omega⟩, fun a => ?_⟩
    rw [mu_ha hth3 hen]
    omega
  · rw [if_neg c] at hk hw ⊢
    obtain ⟨hm, etm, ht6, hs1, -, -⟩ := sq_top_1 hv hth3 c
    have w1 := w.2 hm
    rw [← etm] at w1
    have e2 := hv.1.1 (sq_top r th) ht6
    have h8 := hr.2.2.2.2.1 (sq_top r th) ⟨by omega, by omega⟩
    refine ⟨?_, fun a => ?_⟩
    · have g := iv_at hv hth3 hm (v := v) (by rw [← etm]; exact w1.1) (by rw [← etm]; exact ⟨by omega, by omega, hw.2⟩)
      rw [← etm] at g
      exact g
    · rw [mu_at ht6 hs1 w1.1]
      omega
theorem th_ul {F : Nat → Int → Int} {r : rn} {th t x v : Int} (hb : th_ok F r th 0) : th_ok F (sq_ul r t x v) th 0 := by
  unfold sq_ul
  split <;> exact hb
theorem top_ul {r : rn} {th t x v : Int} : sq_top (sq_ul r t x v) th = sq_top r th := by
  unfold sq_ul
  split <;> rfl
theorem mu_ul {r : rn} {a t x v : Int} : mu a (sq_ul r t x v) = mu a r := by
  unfold sq_ul
  split <;> rfl
theorem ha_ul {r : rn} {t x v : Int} : r_ha (sq_ul r t x v) = r_ha r ∧ r_at (sq_ul r t x v) = r_at r ∧ r_en (sq_ul r t x v) = r_en r := by
  unfold sq_ul
  split <;> exact ⟨rfl, rfl, rfl⟩
theorem st_pf {I : Nat → Int} {F : Nat → Int → Int} (hr : md_rg I F) {r : rn} (hv : rn_iv I F r) {th x b k q : Int} (hth : 0 ≤ th ∧ th < I 1) (hen : r_en r th = 0) (hb : th_ok F r th 0) (hbb : b = if sq_top r th = -1 then 6 + th else sq_top r th) (hk : k = if sq_top r th = -1 then r_ha r th else r_at r (sq_top r th)) (hx : q = 0 ∨ q = 1 → (0 ≤ x ∧ x < I 0) ∧ F 5 x = 1) (hkb : 0 ≤ k ∧ k < F 8 b) (hb9 : 0 ≤ b ∧ b < 9) : st_ok I F r (sq_pf F r (sq_top r th) th x b k q) := by
  have hI := hr.1
  have hth3 : 0 ≤ th ∧ th < 3 := by omega
  have h8 := hr.2.2.2.2.1 b hb9
  have h11 := hr.2.2.2.2.2 (5 * b + k) ⟨by omega, by omega⟩
  unfold sq_pf
  split
  · rename_i c
    have hx1 := hx (Or.inl c)
    have e2 := hv.1.1 x ⟨by omega, by omega⟩
    have hv1 : rn_iv I F (sq_ul r (sq_top r th) th (r_fl r x)) := by
      unfold sq_ul
      split
      · exact iv_hl hv hth hen ⟨by omega, by omega⟩
      · rename_i c2
        obtain ⟨hm, etm, ht6, hs1, -, -⟩ := sq_top_1 hv hth3 c2
        have w1 := (hb.2.2 rfl).2 hm
        rw [← etm] at w1
        exact iv_la hv hs1 w1.1 ⟨by omega, by omega⟩
    obtain ⟨u1, u2, u3⟩ := ha_ul (r := r) (t := sq_top r th) (x := th) (v := r_fl r x)
    have g := st_uk hr hv1 (v := k + 1) (k := k) hth (by rw [u3]; exact hen) (th_ul hb) (by rw [top_ul, u1, u2]; exact hk) (by rw [top_ul, ← hbb]; omega)
    rw [top_ul] at g
    refine ⟨g.1, ?_, ?_⟩
    · have := g.2 7
      rw [mu_ul] at this
      simp only [List.length_cons, List.length_nil]
      omega
    · have := g.2 8
      rw [mu_ul] at this
      show mu 8 (sq_uk _ _ _ _) + 1 ≤ mu 8 r
      omega
  · split
    · rename_i c
      have hx1 := hx (Or.inr c)
      have hv1 : rn_iv I F (u_fl r x (F 11 (5 * b + k))) := iv_fl hv hx1.1.2 hx1.2 ⟨by omega, by omega⟩
      have g := st_uk hr hv1 (v := k + 1) (k := k) hth hen hb hk (by rw [show sq_top (u_fl r x (F 11 (5 * b + k))) th = sq_top r th from rfl, ← hbb]; omega)
      refine ⟨g.1, ?_, ?_⟩
      · have g7 := g.2 7
        simp only [List.length_nil]
        exact Int.le_trans (Int.add_le_add_right g7 0) (by show mu 7 r - 1 + 0 ≤ mu 7 r; omega)
      · have g8 := g.2 8
        exact Int.le_trans (Int.add_le_add_right g8 1) (by show mu 8 r - 1 + 1 ≤ mu 8 r; omega)
    · split
      · have g := st_uk hr hv (v := F 8 b) (k := k) hth hen hb hk (by rw [← hbb]; omega)
        refine ⟨g.1, ?_, ?_⟩
        · have := g.2 7
          simp only [List.length_nil]
          omega
        · have := g.2 8
          show mu 8 (sq_uk _ _ _ _) + 1 ≤ mu 8 r
          omega
      · have g := st_uk hr hv (v := k + 1) (k := k) hth hen hb hk (by rw [← hbb]; omega)
        refine ⟨g.1, ?_, ?_⟩
        · have := g.2 7
          simp only [List.length_nil]
          omega
        · have := g.2 8
          show mu 8 (sq_uk _ _ _ _) + 1 ≤ mu 8 r
          omega
theorem st_begin {I : Nat → Int} {F : Nat → Int → Int} (hr : md_rg I F) {r : rn} (hv : rn_iv I F r) {th x : Int} (hth : 0 ≤ th ∧ th < I 1) (hen : r_en r th = 0) (hx : 0 ≤ x ∧ x < I 0) (h0 : r_st r x = 0)
    (hw : (r_mn r th = 0 → r_ha r th < F 8 (6 + th)) ∧ (0 < r_mn r th → 0 ≤ r_ls r (r_sk r th (r_mn r th - 1)) ∨ r_at r (r_sk r th (r_mn r th - 1)) < F 8 (r_sk r th (r_mn r th - 1)))) : rn_iv I F (sq_begin r th x) ∧ ∀ a : Int, mu a (sq_begin r th x) = mu a r - 1 := by
  have hI := hr.1
  have h7 := hv.2.2.2.2.2.2.2.1 x ⟨by omega, by omega⟩ (by omega)
  exact ⟨iv_begin hv ⟨by omega, by omega⟩ hth hx h0 hen (hr.2.1 x ⟨by omega, by omega⟩).2.2.2.2.2.2.1 hw, fun a => mu_begin ⟨by omega, by omega⟩ h0 h7.2.1⟩
theorem st_acts {I : Nat → Int} {F : Nat → Int → Int} (hr : md_rg I F) (hw : md_wf I F) {r : rn} (hv : rn_iv I F r) {th b k : Int} (hth : 0 ≤ th ∧ th < I 1) (hen : r_en r th = 0) (hb : th_ok F r th 0) (hbb : b = if sq_top r th = -1 then 6 + th else sq_top r th) (hk : k = if sq_top r th = -1 then r_ha r th else r_at r (sq_top r th)) (hkb : 0 ≤ k ∧ k < F 8 b) (hbI : 0 ≤ b ∧ b < I 0 ∨ 6 ≤ b ∧ b < 6 + I 1) : st_ok I F r (sq_acts F r (sq_top r th) th b k) := by
  have hI := hr.1
  have hth3 : 0 ≤ th ∧ th < 3 := by omega
  have hb9 : 0 ≤ b ∧ b < 9 := by omega
  have h8 := hr.2.2.2.2.1 b hb9
  have h11 := hr.2.2.2.2.2 (5 * b + k) ⟨by omega, by omega⟩
  have hxr := sp_asked_rg hr hb9 (k := k) ⟨by omega, by omega⟩
  have hxw := sp_asked_wf hr hw hbI hkb
  have hx01 : F 9 (5 * b + k) = 0 ∨ F 9 (5 * b + k) = 1 → sp_asked F b k = -5 ∨ 0 ≤ sp_asked F b k := fun q => sp_asked_01 hr hb9 ⟨by omega, by omega⟩ q
  have w := hb.2.2 rfl
  unfold sq_acts
  split
  · exact st_thr hr hth hv hen (by decide) hb
  · rename_i c5
    split
    · rename_i c4
      have := (hw.1 b k hbI hkb).1 c4
      exact st_thr hr hth hv hen (by omega) hb
    · split
      · rename_i c
        have g := st_begin hr hv hth hen (x := sp_asked F b k) ⟨by omega, hxw.1⟩ c.2 ⟨w.1, fun q => Or.inr (w.2 q).2⟩
        refine ⟨g.1, ?_, ?_⟩
        · have := g.2 7
          simp only [List.length_cons, List.length_nil]
          omega
        · have := g.2 8
          show mu 8 (sq_begin _ _ _) + 1 ≤ mu 8 r
          omega
      · split
        · exact st_thr hr hth hv hen (by decide) hb
        · exact st_pf hr hv hth hen hb hbb hk (fun q => ⟨⟨by have := hx01 q; omega, hxw.1⟩, hxw.2 (by have := hx01 q; omega) (by omega)⟩) hkb hb9
/-- where a STEP is made from an ACTION: it is ahead of the BODY on top -/
theorem th_ok_0 {I : Nat → Int} {F : Nat → Int → Int} {r : rn} (hv : rn_iv I F r) {th : Int} (hth : 0 ≤ th ∧ th < 3) (h : sq_top r th = -1 ∧ r_ha r th ≠ F 8 (6 + th) ∨ sq_top r th ≠ -1 ∧ r_ls r (sq_top r th) < 0 ∧ r_at r (sq_top r th) ≠ F 8 (sq_top r th)) : th_ok F r th 0 := by
  refine ⟨Or.inl rfl, fun c => absurd c (by decide), fun _ => ⟨fun c => ?_, fun c => ?_⟩⟩
  · have h2 := hv.2.2.1 th hth
    have : sq_top r th = -1 := if_pos c
    omega
  · rcases h with h | h
    · have := sq_top_0 hv hth h.1
      omega
    · obtain ⟨hm, etm, ht6, hs1, -, -⟩ := sq_top_1 hv hth h.1
      have h2 := hv.2.1 (sq_top r th) ht6
      rw [← etm]
      omega
theorem st_steps {I : Nat → Int} {F : Nat → Int → Int} (hr : md_rg I F) (hw : md_wf I F) {r : rn} (hv : rn_iv I F r) {th : Int} (hth : 0 ≤ th ∧ th < I 1) (hen : r_en r th = 0) : st_ok I F r (sq_steps F r th) := by
  have hI := hr.1
  have hth3 : 0 ≤ th ∧ th < 3 := by omega
  have e1 := hv.1.2.1 th hth3
  unfold sq_steps
  split
  · rename_i c
    obtain ⟨hm, etm, ht6, hs1, -, htI⟩ := sq_top_1 hv hth3 c.1
    have e2 := hv.1.1 (sq_top r th) ht6
    have e3 := hv.2.2.2.2.2.2.2.2.1 (sq_top r th) ht6 c.2
    have e4 := hr.2.1 (sq_top r th) ht6
    have e5 : r_ls r (sq_top r th) ≤ sq_next F r th (sq_top r th) ∧ sq_next F r th (sq_top r th) ≤ F 6 (sq_top r th) := by
      have := sp_nx_le (s := vec r) (li := F 7) (h := th) (t := sq_top r th) (m := F 6 (sq_top r th)) 6 (r_ls r (sq_top r th)) (by omega)
      unfold sq_next sp_nextIn
      rw [v_ls ht6.1 ht6.2]
      exact this
    split
    · have g := iv_ls hv hth3 hm (v := -1) (by rw [← etm]; exact c.2) (by rw [← etm]; omega)
      rw [← etm] at g
      refine ⟨g, ?_, ?_⟩
      · have := mu_ls (a := 7) (v := -1) ht6 hs1 c.2 e3.1
        rw [if_neg (by decide)] at this
        simp only [List.length_nil]
        omega
      · have := mu_ls (a := 8) (v := -1) ht6 hs1 c.2 e3.1
        rw [if_neg (by decide)] at this
        show mu 8 (u_ls _ _ _) + 1 ≤ mu 8 r
        omega
    · rename_i ci
      have hx := hw.2.1 (sq_top r th) (sq_next F r th (sq_top r th)) ⟨by omega, htI⟩ ⟨by omega, by omega⟩
      have hx0 := hr.2.2.2.1 (6 * sq_top r th + sq_next F r th (sq_top r th)) ⟨by omega, by omega⟩
      split
      · rename_i c0
        have g := iv_ls hv hth3 hm (v := sq_next F r th (sq_top r th) + 1) (by rw [← etm]; exact c.2) (by rw [← etm]; omega)
        rw [← etm] at g
        have g2 := st_begin hr g hth hen ⟨hx0.1, hx⟩ c0 ⟨fun q => by have : r_mn r th = 0 := q; omega, fun _ => Or.inl (by
          show 0 ≤ vI (r_ls r) (sq_top r th) (sq_next F r th (sq_top r th) + 1) (r_sk r th (r_mn r th - 1))
          rw [← etm, vI_hit]
          omega)⟩
        have m7 := mu_ls (a := 7) (v := sq_next F r th (sq_top r th) + 1) ht6 hs1 c.2 e3.1
        have m8 := mu_ls (a := 8) (v := sq_next F r th (sq_top r th) + 1) ht6 hs1 c.2 e3.1
        rw [if_pos (by omega)] at m7 m8
        refine ⟨g2.1, ?_, ?_⟩
        · have := g2.2 7
          simp only [List.length_cons, List.length_nil]
          omega
        · have := g2.2 8
          show mu 8 (sq_begin _ _ _) + 1 ≤ mu 8 r
          omega
      · exact st_thr hr hth hv hen (by decide) ⟨Or.inr rfl, fun _ => hm, fun c => absurd c (by decide)⟩
  · rename_i c
    split
    · rename_i c1
      have hm := sq_top_0 hv hth3 c1
      split
      · refine ⟨iv_end hv (fun x hx => (hr.2.2.2.2.1 x hx).1) hth (by omega) hm (by decide), ?_, ?_⟩
        · have := mu_end (a := 7) hv.1 (n := 0) hth3 hen (by decide)
          simp only [List.length_cons, List.length_nil]
          omega
        · have := mu_end (a := 8) hv.1 (n := 0) hth3 hen (by decide)
          show mu 8 (sq_end _ _ _) + 1 ≤ mu 8 r
          omega
      · rename_i c2
        have h2 := hv.2.2.1 th hth3
        exact st_acts hr hw hv hth hen (th_ok_0 hv hth3 (Or.inl ⟨c1, c2⟩)) (if_pos c1).symm (if_pos c1).symm ⟨by omega, by omega⟩ (Or.inr ⟨by omega, by omega⟩)
    · rename_i c1
      obtain ⟨hm, etm, ht6, hs1, -, htI⟩ := sq_top_1 hv hth3 c1
      have e2 := hv.1.1 (sq_top r th) ht6
      split
      · have g := iv_go hv (fun x hx => (hr.2.1 x hx).2.2.2.2.2.2.1) (st' := 2) hth3 hm (Or.inl rfl)
        rw [← etm] at g
        refine ⟨g, ?_, ?_⟩
        · have := mu_go (a := 7) (by decide) hv.1 (th := th) (st := 2) ht6 hs1 (Or.inl rfl)
          simp only [List.length_cons, List.length_nil]
          omega
        · have := mu_go (a := 8) (by decide) hv.1 (th := th) (st := 2) ht6 hs1 (Or.inl rfl)
          show mu 8 (sq_go _ _ _ _) + 1 ≤ mu 8 r
          omega
      · rename_i c2
        have h2 := hv.2.1 (sq_top r th) ht6
        exact st_acts hr hw hv hth hen (th_ok_0 hv hth3 (Or.inr ⟨c1, by omega, c2⟩)) (if_neg c1).symm (if_neg c1).symm ⟨by omega, by omega⟩ (Or.inl ⟨by omega, htI⟩)
