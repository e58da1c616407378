/-! What holds of a run's vector, by its parts. -/
def rn_rg (r : rn) : Prop :=
  (∀ t : Int, 0 ≤ t ∧ t < 6 → 0 ≤ r_st r t ∧ r_st r t ≤ 3 ∧ -1 ≤ r_in r t ∧ r_in r t ≤ 2 ∧ -9 ≤ r_fl r t ∧ r_fl r t ≤ 9 ∧ -1 ≤ r_ls r t ∧ r_ls r t ≤ 6 ∧ 0 ≤ r_at r t ∧ r_at r t ≤ 5 ∧ -9 ≤ r_la r t ∧ r_la r t ≤ 9) ∧
  (∀ h : Int, 0 ≤ h ∧ h < 3 → 0 ≤ r_en r h ∧ r_en r h ≤ 7 ∧ 0 ≤ r_ha r h ∧ r_ha r h ≤ 5 ∧ -9 ≤ r_hl r h ∧ r_hl r h ≤ 9 ∧ 0 ≤ r_mn r h ∧ r_mn r h ≤ 6) ∧
  (∀ h i : Int, 0 ≤ h ∧ h < 3 → 0 ≤ i ∧ i < 6 → 0 ≤ r_sk r h i ∧ r_sk r h i ≤ 5)
theorem rs_of_rn {r : rn} (hr : rn_rg r) : rs_rg (vec r) := by
  obtain ⟨h1, h2, h3⟩ := hr
  refine ⟨fun k hk => ?_, fun k hk => ?_, fun k hk => ?_⟩
  · have e := h1 k hk
    rw [v_st hk.1 hk.2, v_in hk.1 hk.2, v_fl hk.1 hk.2, v_ls hk.1 hk.2, v_at hk.1 hk.2, v_la hk.1 hk.2]
    exact e
  · have e := h2 k hk
    rw [v_en hk.1 hk.2, v_ha hk.1 hk.2, v_hl hk.1 hk.2, v_mn hk.1 hk.2]
    exact e
  · have e := h3 (k / 6) (k % 6) (by omega) (by omega)
    rw [show 48 + k = 48 + 6 * (k / 6) + k % 6 by omega, v_sk (by omega) (by omega) (by omega)]
    exact e
def sq_top (r : rn) (h : Int) : Int := if r_mn r h = 0 then -1 else r_sk r h (r_mn r h - 1)
theorem sq_top_eq {r : rn} (hr : rn_rg r) {h : Int} (hh : 0 ≤ h ∧ h < 3) : sp_top (vec r) h = sq_top r h := by
  have e := hr.2.1 h hh
  unfold sp_top sq_top
  rw [v_mn hh.1 hh.2]
  split
  · rfl
  · rw [show 48 + 6 * h + r_mn r h - 1 = 48 + 6 * h + (r_mn r h - 1) by omega, v_sk hh.1 (by omega) (by omega)]
def sq_begin (r : rn) (th t : Int) : rn := u_mn (u_sk (u_in (u_st r t 1) t th) th (r_mn r th) t) th (r_mn r th + 1)
theorem sq_begin_eq {r : rn} (hr : rn_rg r) {th t : Int} (hh : 0 ≤ th ∧ th < 3) (ht : 0 ≤ t ∧ t < 6) (hm : r_mn r th < 6) : sp_beginS (vec r) th t = vec (sq_begin r th t) := by
  have e := hr.2.1 th hh
  unfold sp_beginS sq_begin
  rw [v_mn hh.1 hh.2, w_st ht.1 ht.2, w_in ht.1 ht.2, w_sk hh.1 (by omega) hm, w_mn hh.1 hh.2]
def sq_end (r : rn) (th n : Int) : rn := u_hl (u_ha (u_en r th (2 + n)) th 0) th 0
theorem sq_end_eq {r : rn} {th n : Int} (hh : 0 ≤ th ∧ th < 3) : sp_endS (vec r) th n = vec (sq_end r th n) := by
  unfold sp_endS sq_end
  rw [w_en hh.1 hh.2, w_ha hh.1 hh.2, w_hl hh.1 hh.2]
def sq_go (r : rn) (th t st : Int) : rn := u_sk (u_mn (u_la (u_at (u_ls (u_in (u_st r t st) t (-1)) t 0) t 0) t 0) th (r_mn r th - 1)) th (r_mn r th - 1) 0
theorem sq_go_eq {r : rn} (hr : rn_rg r) {th t st : Int} (hh : 0 ≤ th ∧ th < 3) (ht : 0 ≤ t ∧ t < 6) (hm : 0 < r_mn r th) : sp_goS (vec r) th t st = vec (sq_go r th t st) := by
  have e := hr.2.1 th hh
  unfold sp_goS sq_go
  rw [v_mn hh.1 hh.2, w_st ht.1 ht.2, w_in ht.1 ht.2, w_ls ht.1 ht.2, w_at ht.1 ht.2, w_la ht.1 ht.2, w_mn hh.1 hh.2, w_sk hh.1 (by omega) (by omega)]
def sq_behind (r : rn) (th : Int) : rn := if sq_top r th = -1 then u_ha r th (r_ha r th + 1) else u_at r (sq_top r th) (r_at r (sq_top r th) + 1)
theorem sq_top_rg {r : rn} (hr : rn_rg r) {h : Int} (hh : 0 ≤ h ∧ h < 3) : -1 ≤ sq_top r h ∧ sq_top r h ≤ 5 := by
  have e := hr.2.1 h hh
  unfold sq_top
  split
  · decide
  · have := hr.2.2 h (r_mn r h - 1) hh (by omega)
    omega
theorem sq_behind_eq {r : rn} (hr : rn_rg r) {th : Int} (hh : 0 ≤ th ∧ th < 3) : sp_behindS (vec r) th = vec (sq_behind r th) := by
  have e := sq_top_rg hr hh
  unfold sp_behindS sq_behind
  rw [sq_top_eq hr hh]
  split
  · rw [v_ha hh.1 hh.2, w_ha hh.1 hh.2]
  · rw [v_at (by omega) (by omega), w_at (by omega) (by omega)]
/-- THE INVARIANT of a run -/
def rn_iv (I : Nat → Int) (F : Nat → Int → Int) (r : rn) : Prop :=
  rn_rg r ∧
  (∀ t : Int, 0 ≤ t ∧ t < 6 → r_at r t ≤ F 8 t) ∧ (∀ h : Int, 0 ≤ h ∧ h < 3 → r_ha r h ≤ F 8 (6 + h)) ∧
  (∀ h i : Int, 0 ≤ h ∧ h < 3 → 0 ≤ i ∧ i < r_mn r h → r_st r (r_sk r h i) = 1 ∧ r_in r (r_sk r h i) = h) ∧
  (∀ h i j : Int, 0 ≤ h ∧ h < 3 → 0 ≤ i ∧ i < j ∧ j < r_mn r h → r_sk r h i ≠ r_sk r h j) ∧
  (∀ h i : Int, 0 ≤ h ∧ h < 3 → r_mn r h ≤ i ∧ i < 6 → r_sk r h i = 0) ∧
  (∀ t : Int, 0 ≤ t ∧ t < 6 → r_st r t = 1 → 0 ≤ r_in r t ∧ r_in r t < I 1 ∧ ∃ i : Int, 0 ≤ i ∧ i < r_mn r (r_in r t) ∧ r_sk r (r_in r t) i = t) ∧
  (∀ t : Int, 0 ≤ t ∧ t < 6 → r_st r t ≠ 1 → r_in r t = -1 ∧ r_ls r t = 0 ∧ r_at r t = 0 ∧ r_la r t = 0) ∧
  (∀ t : Int, 0 ≤ t ∧ t < 6 → 0 ≤ r_ls r t → r_at r t = 0 ∧ r_la r t = 0 ∧ r_ls r t ≤ F 6 t) ∧
  (∀ h i : Int, 0 ≤ h ∧ h < 3 → 0 ≤ i ∧ i + 1 < r_mn r h → 0 ≤ r_ls r (r_sk r h i) ∨ r_at r (r_sk r h i) < F 8 (r_sk r h i)) ∧
  (∀ h : Int, 0 ≤ h ∧ h < 3 → 0 < r_mn r h → r_ha r h < F 8 (6 + h)) ∧
  (∀ h : Int, 0 ≤ h ∧ h < 3 → r_en r h ≠ 0 → r_mn r h = 0 ∧ r_ha r h = 0 ∧ r_hl r h = 0 ∧ 2 ≤ r_en r h) ∧
  (∀ h : Int, I 1 ≤ h ∧ 0 ≤ h ∧ h < 3 → r_en r h = 0 ∧ r_ha r h = 0 ∧ r_hl r h = 0 ∧ r_mn r h = 0) ∧
  (∀ t : Int, I 0 ≤ t ∧ 0 ≤ t ∧ t < 6 → r_st r t = 0) ∧
  (∀ t : Int, 0 ≤ t ∧ t < 6 → r_fl r t ≠ 0 → t < I 0 ∧ F 5 t = 1)
