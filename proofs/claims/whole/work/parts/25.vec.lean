/-! The run's vector (66 numbers) by its parts: of TYPES the state, the THREAD, the FIELD, how far the LIST, how far the BODY, LATEST; of THREADS the end, how far the BODY, LATEST, how many STARTS stand there; and which. -/
abbrev rn : Type := (Int → Int) × (Int → Int) × (Int → Int) × (Int → Int) × (Int → Int) × (Int → Int) × (Int → Int) × (Int → Int) × (Int → Int) × (Int → Int) × (Int → Int → Int)
abbrev r_st (r : rn) : Int → Int := r.1
abbrev r_in (r : rn) : Int → Int := r.2.1
abbrev r_fl (r : rn) : Int → Int := r.2.2.1
abbrev r_ls (r : rn) : Int → Int := r.2.2.2.1
abbrev r_at (r : rn) : Int → Int := r.2.2.2.2.1
abbrev r_la (r : rn) : Int → Int := r.2.2.2.2.2.1
abbrev r_en (r : rn) : Int → Int := r.2.2.2.2.2.2.1
abbrev r_ha (r : rn) : Int → Int := r.2.2.2.2.2.2.2.1
abbrev r_hl (r : rn) : Int → Int := r.2.2.2.2.2.2.2.2.1
abbrev r_mn (r : rn) : Int → Int := r.2.2.2.2.2.2.2.2.2.1
abbrev r_sk (r : rn) : Int → Int → Int := r.2.2.2.2.2.2.2.2.2.2
def u_st (r : rn) (k v : Int) : rn := (vI (r_st r) k v, r_in r, r_fl r, r_ls r, r_at r, r_la r, r_en r, r_ha r, r_hl r, r_mn r, r_sk r)
def u_in (r : rn) (k v : Int) : rn := (r_st r, vI (r_in r) k v, r_fl r, r_ls r, r_at r, r_la r, r_en r, r_ha r, r_hl r, r_mn r, r_sk r)
def u_fl (r : rn) (k v : Int) : rn := (r_st r, r_in r, vI (r_fl r) k v, r_ls r, r_at r, r_la r, r_en r, r_ha r, r_hl r, r_mn r, r_sk r)
def u_ls (r : rn) (k v : Int) : rn := (r_st r, r_in r, r_fl r, vI (r_ls r) k v, r_at r, r_la r, r_en r, r_ha r, r_hl r, r_mn r, r_sk r)
def u_at (r : rn) (k v : Int) : rn := (r_st r, r_in r, r_fl r, r_ls r, vI (r_at r) k v, r_la r, r_en r, r_ha r, r_hl r, r_mn r, r_sk r)
def u_la (r : rn) (k v : Int) : rn := (r_st r, r_in r, r_fl r, r_ls r, r_at r, vI (r_la r) k v, r_en r, r_ha r, r_hl r, r_mn r, r_sk r)
def u_en (r : rn) (k v : Int) : rn := (r_st r, r_in r, r_fl r, r_ls r, r_at r, r_la r, vI (r_en r) k v, r_ha r, r_hl r, r_mn r, r_sk r)
def u_ha (r : rn) (k v : Int) : rn := (r_st r, r_in r, r_fl r, r_ls r, r_at r, r_la r, r_en r, vI (r_ha r) k v, r_hl r, r_mn r, r_sk r)
def u_hl (r : rn) (k v : Int) : rn := (r_st r, r_in r, r_fl r, r_ls r, r_at r, r_la r, r_en r, r_ha r, vI (r_hl r) k v, r_mn r, r_sk r)
def u_mn (r : rn) (k v : Int) : rn := (r_st r, r_in r, r_fl r, r_ls r, r_at r, r_la r, r_en r, r_ha r, r_hl r, vI (r_mn r) k v, r_sk r)
def u_sk (r : rn) (h i v : Int) : rn := (r_st r, r_in r, r_fl r, r_ls r, r_at r, r_la r, r_en r, r_ha r, r_hl r, r_mn r, fun a b => if a = h ∧ b = i then v else r_sk r a b)
def vec (r : rn) : Int → Int := fun k => if k < 6 then r_st r k else if k < 12 then r_in r (k - 6) else if k < 18 then r_fl r (k - 12) else if k < 24 then r_ls r (k - 18) else if k < 30 then r_at r (k - 24) else if k < 36 then r_la r (k - 30) else if k < 39 then r_en r (k - 36) else if k < 42 then r_ha r (k - 39) else if k < 45 then r_hl r (k - 42) else if k < 48 then r_mn r (k - 45) else r_sk r ((k - 48) / 6) ((k - 48) % 6)
theorem v_st {r : rn} {t : Int} (h1 : 0 ≤ t) (h2 : t < 6) : vec r t = r_st r t := by
  unfold vec
  rw [if_pos (by omega)]
theorem v_in {r : rn} {t : Int} (h1 : 0 ≤ t) (h2 : t < 6) : vec r (6 + t) = r_in r t := by
  unfold vec
  rw [if_neg (by omega), if_pos (by omega)]
  congr 1
  omega
theorem v_fl {r : rn} {t : Int} (h1 : 0 ≤ t) (h2 : t < 6) : vec r (12 + t) = r_fl r t := by
  unfold vec
  rw [if_neg (by omega), if_neg (by omega), if_pos (by omega)]
  congr 1
  omega
theorem v_ls {r : rn} {t : Int} (h1 : 0 ≤ t) (h2 : t < 6) : vec r (18 + t) = r_ls r t := by
  unfold vec
  rw [if_neg (by omega), if_neg (by omega), if_neg (by omega), if_pos (by omega)]
  congr 1
  omega
theorem v_at {r : rn} {t : Int} (h1 : 0 ≤ t) (h2 : t < 6) : vec r (24 + t) = r_at r t := by
  unfold vec
  rw [if_neg (by omega), if_neg (by omega), if_neg (by omega), if_neg (by omega), if_pos (by omega)]
  congr 1
  omega
theorem v_la {r : rn} {t : Int} (h1 : 0 ≤ t) (h2 : t < 6) : vec r (30 + t) = r_la r t := by
  unfold vec
  rw [if_neg (by omega), if_neg (by omega), if_neg (by omega), if_neg (by omega), if_neg (by omega), if_pos (by omega)]
  congr 1
  omega
theorem v_en {r : rn} {t : Int} (h1 : 0 ≤ t) (h2 : t < 3) : vec r (36 + t) = r_en r t := by
  unfold vec
  rw [if_neg (by omega), if_neg (by omega), if_neg (by omega), if_neg (by omega), if_neg (by omega), if_neg (by omega), if_pos (by omega)]
  congr 1
  omega
theorem v_ha {r : rn} {t : Int} (h1 : 0 ≤ t) (h2 : t < 3) : vec r (39 + t) = r_ha r t := by
  unfold vec
  rw [if_neg (by omega), if_neg (by omega), if_neg (by omega), if_neg (by omega), if_neg (by omega), if_neg (by omega), if_neg (by omega), if_pos (by omega)]
  congr 1
  omega
theorem v_hl {r : rn} {t : Int} (h1 : 0 ≤ t) (h2 : t < 3) : vec r (42 + t) = r_hl r t := by
  unfold vec
  rw [if_neg (by omega), if_neg (by omega), if_neg (by omega), if_neg (by omega), if_neg (by omega), if_neg (by omega), if_neg (by omega), if_neg (by omega), if_pos (by omega)]
  congr 1
  omega
theorem v_mn {r : rn} {t : Int} (h1 : 0 ≤ t) (h2 : t < 3) : vec r (45 + t) = r_mn r t := by
  unfold vec
  rw [if_neg (by omega), if_neg (by omega), if_neg (by omega), if_neg (by omega), if_neg (by omega), if_neg (by omega), if_neg (by omega), if_neg (by omega), if_neg (by omega), if_pos (by omega)]
  congr 1
  omega
theorem v_sk {r : rn} {h i : Int} (h1 : 0 ≤ h) (h2 : 0 ≤ i) (h3 : i < 6) : vec r (48 + 6 * h + i) = r_sk r h i := by
  unfold vec
  rw [if_neg (by omega), if_neg (by omega), if_neg (by omega), if_neg (by omega), if_neg (by omega), if_neg (by omega), if_neg (by omega), if_neg (by omega), if_neg (by omega), if_neg (by omega)]
  rw [show (48 + 6 * h + i - 48) / 6 = h by omega, show (48 + 6 * h + i - 48) % 6 = i by omega]
theorem w_st {r : rn} {t v : Int} (h1 : 0 ≤ t) (h2 : t < 6) : vI (vec r) t v = vec (u_st r t v) := by
  funext k
  by_cases hk : k = t
  · subst hk
    rw [vI_hit, v_st h1 h2]
    exact vI_hit.symm
  · rw [vI_miss hk]
    have e : vI (r_st r) t v (k) = r_st r (k) := vI_miss (by omega)
    unfold vec
    dsimp only [u_st, r_st, r_in, r_fl, r_ls, r_at, r_la, r_en, r_ha, r_hl, r_mn, r_sk] at e ⊢
    rw [e]
theorem w_in {r : rn} {t v : Int} (h1 : 0 ≤ t) (h2 : t < 6) : vI (vec r) (6 + t) v = vec (u_in r t v) := by
  funext k
  by_cases hk : k = (6 + t)
  · subst hk
    rw [vI_hit, v_in h1 h2]
    exact vI_hit.symm
  · rw [vI_miss hk]
    have e : vI (r_in r) t v (k - 6) = r_in r (k - 6) := vI_miss (by omega)
    unfold vec
    dsimp only [u_in, r_st, r_in, r_fl, r_ls, r_at, r_la, r_en, r_ha, r_hl, r_mn, r_sk] at e ⊢
    rw [e]
theorem w_fl {r : rn} {t v : Int} (h1 : 0 ≤ t) (h2 : t < 6) : vI (vec r) (12 + t) v = vec (u_fl r t v) := by
  funext k
  by_cases hk : k = (12 + t)
  · subst hk
    rw [vI_hit, v_fl h1 h2]
    exact vI_hit.symm
  · rw [vI_miss hk]
    have e : vI (r_fl r) t v (k - 12) = r_fl r (k - 12) := vI_miss (by omega)
    unfold vec
    dsimp only [u_fl, r_st, r_in, r_fl, r_ls, r_at, r_la, r_en, r_ha, r_hl, r_mn, r_sk] at e ⊢
    rw [e]
theorem w_ls {r : rn} {t v : Int} (h1 : 0 ≤ t) (h2 : t < 6) : vI (vec r) (18 + t) v = vec (u_ls r t v) := by
  funext k
  by_cases hk : k = (18 + t)
  · subst hk
    rw [vI_hit, v_ls h1 h2]
    exact vI_hit.symm
  · rw [vI_miss hk]
    have e : vI (r_ls r) t v (k - 18) = r_ls r (k - 18) := vI_miss (by omega)
    unfold vec
    dsimp only [u_ls, r_st, r_in, r_fl, r_ls, r_at, r_la, r_en, r_ha, r_hl, r_mn, r_sk] at e ⊢
    rw [e]
theorem w_at {r : rn} {t v : Int} (h1 : 0 ≤ t) (h2 : t < 6) : vI (vec r) (24 + t) v = vec (u_at r t v) := by
  funext k
  by_cases hk : k = (24 + t)
  · subst hk
    rw [vI_hit, v_at h1 h2]
    exact vI_hit.symm
  · rw [vI_miss hk]
    have e : vI (r_at r) t v (k - 24) = r_at r (k - 24) := vI_miss (by omega)
    unfold vec
    dsimp only [u_at, r_st, r_in, r_fl, r_ls, r_at, r_la, r_en, r_ha, r_hl, r_mn, r_sk] at e ⊢
    rw [e]
theorem w_la {r : rn} {t v : Int} (h1 : 0 ≤ t) (h2 : t < 6) : vI (vec r) (30 + t) v = vec (u_la r t v) := by
  funext k
  by_cases hk : k = (30 + t)
  · subst hk
    rw [vI_hit, v_la h1 h2]
    exact vI_hit.symm
  · rw [vI_miss hk]
    have e : vI (r_la r) t v (k - 30) = r_la r (k - 30) := vI_miss (by omega)
    unfold vec
    dsimp only [u_la, r_st, r_in, r_fl, r_ls, r_at, r_la, r_en, r_ha, r_hl, r_mn, r_sk] at e ⊢
    rw [e]
theorem w_en {r : rn} {t v : Int} (h1 : 0 ≤ t) (h2 : t < 3) : vI (vec r) (36 + t) v = vec (u_en r t v) := by
  funext k
  by_cases hk : k = (36 + t)
  · subst hk
    rw [vI_hit, v_en h1 h2]
    exact vI_hit.symm
  · rw [vI_miss hk]
    have e : vI (r_en r) t v (k - 36) = r_en r (k - 36) := vI_miss (by omega)
    unfold vec
    dsimp only [u_en, r_st, r_in, r_fl, r_ls, r_at, r_la, r_en, r_ha, r_hl, r_mn, r_sk] at e ⊢
    rw [e]
theorem w_ha {r : rn} {t v : Int} (h1 : 0 ≤ t) (h2 : t < 3) : vI (vec r) (39 + t) v = vec (u_ha r t v) := by
  funext k
  by_cases hk : k = (39 + t)
  · subst hk
    rw [vI_hit, v_ha h1 h2]
    exact vI_hit.symm
  · rw [vI_miss hk]
    have e : vI (r_ha r) t v (k - 39) = r_ha r (k - 39) := vI_miss (by omega)
    unfold vec
    dsimp only [u_ha, r_st, r_in, r_fl, r_ls, r_at, r_la, r_en, r_ha, r_hl, r_mn, r_sk] at e ⊢
    rw [e]
theorem w_hl {r : rn} {t v : Int} (h1 : 0 ≤ t) (h2 : t < 3) : vI (vec r) (42 + t) v = vec (u_hl r t v) := by
  funext k
  by_cases hk : k = (42 + t)
  · subst hk
    rw [vI_hit, v_hl h1 h2]
    exact vI_hit.symm
  · rw [vI_miss hk]
    have e : vI (r_hl r) t v (k - 42) = r_hl r (k - 42) := vI_miss (by omega)
    unfold vec
    dsimp only [u_hl, r_st, r_in, r_fl, r_ls, r_at, r_la, r_en, r_ha, r_hl, r_mn, r_sk] at e ⊢
    rw [e]
theorem w_mn {r : rn} {t v : Int} (h1 : 0 ≤ t) (h2 : t < 3) : vI (vec r) (45 + t) v = vec (u_mn r t v) := by
  funext k
  by_cases hk : k = (45 + t)
  · subst hk
    rw [vI_hit, v_mn h1 h2]
    exact vI_hit.symm
  · rw [vI_miss hk]
    have e : vI (r_mn r) t v (k - 45) = r_mn r (k - 45) := vI_miss (by omega)
    unfold vec
    dsimp only [u_mn, r_st, r_in, r_fl, r_ls, r_at, r_la, r_en, r_ha, r_hl, r_mn, r_sk] at e ⊢
    rw [e]
theorem w_sk {r : rn} {h i v : Int} (h1 : 0 ≤ h) (h2 : 0 ≤ i) (h3 : i < 6) : vI (vec r) (48 + 6 * h + i) v = vec (u_sk r h i v) := by
  funext k
  by_cases hk : k = 48 + 6 * h + i
  · subst hk
    rw [vI_hit, v_sk h1 h2 h3]
    exact (if_pos ⟨rfl, rfl⟩).symm
  · rw [vI_miss hk]
    have e : (if (k - 48) / 6 = h ∧ (k - 48) % 6 = i then v else r_sk r ((k - 48) / 6) ((k - 48) % 6)) = r_sk r ((k - 48) / 6) ((k - 48) % 6) := if_neg (by omega)
    unfold vec
    dsimp only [u_sk, r_st, r_in, r_fl, r_ls, r_at, r_la, r_en, r_ha, r_hl, r_mn, r_sk] at e ⊢
    rw [e]
