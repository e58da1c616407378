set_option maxRecDepth 100000 in
theorem ok_cl_Points : am_clok am_Tb am_df 6 "TypeStarts$Points" T_Points 3 := ⟨by decide +kernel, by decide +kernel, by decide +kernel, List.mem_filter.mpr ⟨List.mem_of_getElem? (i := 256) (by decide +kernel), by decide +kernel⟩, List.mem_filter.mpr ⟨List.mem_of_getElem? (i := 70) (by decide +kernel), by decide +kernel⟩, rfl, by decide +kernel⟩
set_option maxRecDepth 100000 in
theorem ok_cl_Outcomes : am_clok am_Tb am_df 7 "TypeStarts$Outcomes" T_Outcomes 5 := ⟨by decide +kernel, by decide +kernel, by decide +kernel, List.mem_filter.mpr ⟨List.mem_of_getElem? (i := 275) (by decide +kernel), by decide +kernel⟩, List.mem_filter.mpr ⟨List.mem_of_getElem? (i := 71) (by decide +kernel), by decide +kernel⟩, rfl, by decide +kernel⟩
set_option maxRecDepth 100000 in
theorem ok_cl_Md : am_clok am_Tb am_df 8 "TypeStartsModel" T_Md 36 := ⟨by decide +kernel, by decide +kernel, by decide +kernel, List.mem_filter.mpr ⟨List.mem_of_getElem? (i := 747) (by decide +kernel), by decide +kernel⟩, List.mem_filter.mpr ⟨List.mem_of_getElem? (i := 72) (by decide +kernel), by decide +kernel⟩, rfl, by decide +kernel⟩
theorem ok_cl : ∀ (ci : Nat) (Cn : String) (T : u_T) (N : Nat), am_cl[ci]? = some (Cn, T, N) → am_clok am_Tb am_df ci Cn T N := by
  intro ci Cn T N h
  match ci, h with
  | 0, h => cases h; exact ok_cl_TS
  | 1, h => cases h; exact ok_cl_Types
  | 2, h => cases h; exact ok_cl_Bodies
  | 3, h => cases h; exact ok_cl_Run
  | 4, h => cases h; exact ok_cl_Log
  | 5, h => cases h; exact ok_cl_Search
  | 6, h => cases h; exact ok_cl_Points
  | 7, h => cases h; exact ok_cl_Outcomes
  | 8, h => cases h; exact ok_cl_Md
  | k + 9, h => simp [am_cl] at h
set_option maxRecDepth 100000 in
theorem ok_all : am_Good am_Tb am_wd am_cl am_tyL am_df am_MT := ⟨ok_words, ok_cl, fun z M h => okMT M (List.mem_of_getElem? h), List.mem_filter.mpr ⟨List.mem_of_getElem? (i := 81) (by decide +kernel), by decide +kernel⟩, List.mem_filter.mpr ⟨List.mem_of_getElem? (i := 82) (by decide +kernel), by decide +kernel⟩, fun t ty ht h => by
  match t, ht, h with
  | 4, _, h => cases h; rfl
  | k + 5, _, h => simp [am_tyL] at h, ok_wd, ok_wn⟩
def lw_chk (j : Nat) : Bool := match c_law[j]? with
  | some e => am_ok am_wd am_cl am_tyL am_MT "TypeStartsLaw" "law" code 4 (some .boolean) c_law j e
  | none => true
set_option maxRecDepth 100000 in
theorem ok_lw_0 : (List.range 40).all (fun i => lw_chk (0 + i)) = true := by decide +kernel
set_option maxRecDepth 100000 in
theorem ok_lw_1 : (List.range 40).all (fun i => lw_chk (40 + i)) = true := by decide +kernel
set_option maxRecDepth 100000 in
theorem ok_lw_2 : (List.range 40).all (fun i => lw_chk (80 + i)) = true := by decide +kernel
set_option maxRecDepth 100000 in
theorem ok_lw_3 : (List.range 40).all (fun i => lw_chk (120 + i)) = true := by decide +kernel
set_option maxRecDepth 100000 in
theorem ok_lw_4 : (List.range 40).all (fun i => lw_chk (160 + i)) = true := by decide +kernel
set_option maxRecDepth 100000 in
theorem ok_lw_5 : (List.range 40).all (fun i => lw_chk (200 + i)) = true := by decide +kernel
set_option maxRecDepth 100000 in
theorem ok_lw_6 : (List.range 40).all (fun i => lw_chk (240 + i)) = true := by decide +kernel
set_option maxRecDepth 100000 in
theorem ok_lw_7 : (List.range 40).all (fun i => lw_chk (280 + i)) = true := by decide +kernel
set_option maxRecDepth 100000 in
theorem ok_lw_8 : (List.range 40).all (fun i => lw_chk (320 + i)) = true := by decide +kernel
set_option maxRecDepth 100000 in
theorem ok_lw_9 : (List.range 40).all (fun i => lw_chk (360 + i)) = true := by decide +kernel
set_option maxRecDepth 100000 in
theorem ok_lw_10 : (List.range 40).all (fun i => lw_chk (400 + i)) = true := by decide +kernel
set_option maxRecDepth 100000 in
theorem ok_lw_11 : (List.range 40).all (fun i => lw_chk (440 + i)) = true := by decide +kernel
set_option maxRecDepth 100000 in
theorem ok_lw_12 : (List.range 40).all (fun i => lw_chk (480 + i)) = true := by decide +kernel
set_option maxRecDepth 100000 in
theorem ok_ln : c_law.length = 516 := by decide +kernel
theorem ok_law : ∀ (j : Nat) (E : am_I), c_law[j]? = some E → am_ok am_wd am_cl am_tyL am_MT "TypeStartsLaw" "law" code 4 (some .boolean) c_law j E = true := by
  intro j E he
  have hj : j < 516 := by
    have a := (List.getElem?_eq_some_iff.mp he).1
    rw [ok_ln] at a
    exact a
  have q : ∀ k, k < 13 → (List.range 40).all (fun i => lw_chk (40 * k + i)) = true := by
    intro k hk
    match k, hk with
    | 0, _ => exact ok_lw_0
    | 1, _ => exact ok_lw_1
    | 2, _ => exact ok_lw_2
    | 3, _ => exact ok_lw_3
    | 4, _ => exact ok_lw_4
    | 5, _ => exact ok_lw_5
    | 6, _ => exact ok_lw_6
    | 7, _ => exact ok_lw_7
    | 8, _ => exact ok_lw_8
    | 9, _ => exact ok_lw_9
    | 10, _ => exact ok_lw_10
    | 11, _ => exact ok_lw_11
    | 12, _ => exact ok_lw_12
    | k + 13, h => omega
  have z : lw_chk (40 * (j / 40) + j % 40) = true := List.all_eq_true.mp (q (j / 40) (by omega)) (j % 40) (List.mem_range.mpr (by omega))
  rw [show 40 * (j / 40) + j % 40 = j by omega] at z
  unfold lw_chk at z
  rw [he] at z
  exact z
set_option maxRecDepth 100000 in
theorem ok_aI : Jvm.Cond.arrayClass .int ∈ lw_tbl := List.mem_of_getElem? (i := 135) (by decide +kernel)
set_option maxRecDepth 100000 in
theorem ok_aJ : Jvm.Cond.arrayClass .long ∈ lw_tbl := List.mem_of_getElem? (i := 273) (by decide +kernel)
set_option maxRecDepth 100000 in
theorem ok_aZ : Jvm.Cond.arrayClass .boolean ∈ lw_tbl := List.mem_of_getElem? (i := 134) (by decide +kernel)
set_option maxRecDepth 100000 in
theorem ok_aO : Jvm.Cond.arrayOver (.array .int) ∈ lw_tbl := List.mem_of_getElem? (i := 90) (by decide +kernel)
