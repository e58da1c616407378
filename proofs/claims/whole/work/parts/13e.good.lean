set_option maxRecDepth 100000 in
theorem ok_wd_1 : ∀ w ∈ wd_1, w ∈ lw_tbl := fun w hw => List.mem_of_mem_drop (List.mem_of_mem_take (i := 32) (show w ∈ (lw_tbl.drop 32).take 32 from (show (lw_tbl.drop 32).take 32 = wd_1 by decide +kernel) ▸ hw))
set_option maxRecDepth 100000 in
theorem ok_wd_2 : ∀ w ∈ wd_2, w ∈ lw_tbl := fun w hw => List.mem_of_mem_drop (List.mem_of_mem_take (i := 32) (show w ∈ (lw_tbl.drop 64).take 32 from (show (lw_tbl.drop 64).take 32 = wd_2 by decide +kernel) ▸ hw))
set_option maxRecDepth 100000 in
theorem ok_wd_3 : ∀ w ∈ wd_3, w ∈ lw_tbl := fun w hw => List.mem_of_mem_drop (List.mem_of_mem_take (i := 32) (show w ∈ (lw_tbl.drop 96).take 32 from (show (lw_tbl.drop 96).take 32 = wd_3 by decide +kernel) ▸ hw))
set_option maxRecDepth 100000 in
theorem ok_wd_4 : ∀ w ∈ wd_4, w ∈ lw_tbl := fun w hw => List.mem_of_mem_drop (List.mem_of_mem_take (i := 32) (show w ∈ (lw_tbl.drop 128).take 32 from (show (lw_tbl.drop 128).take 32 = wd_4 by decide +kernel) ▸ hw))
set_option maxRecDepth 100000 in
theorem ok_wd_5 : ∀ w ∈ wd_5, w ∈ lw_tbl := fun w hw => List.mem_of_mem_drop (List.mem_of_mem_take (i := 32) (show w ∈ (lw_tbl.drop 160).take 32 from (show (lw_tbl.drop 160).take 32 = wd_5 by decide +kernel) ▸ hw))
set_option maxRecDepth 100000 in
theorem ok_wd_6 : ∀ w ∈ wd_6, w ∈ lw_tbl := fun w hw => List.mem_of_mem_drop (List.mem_of_mem_take (i := 32) (show w ∈ (lw_tbl.drop 192).take 32 from (show (lw_tbl.drop 192).take 32 = wd_6 by decide +kernel) ▸ hw))
set_option maxRecDepth 100000 in
theorem ok_wd_7 : ∀ w ∈ wd_7, w ∈ lw_tbl := fun w hw => List.mem_of_mem_drop (List.mem_of_mem_take (i := 32) (show w ∈ (lw_tbl.drop 224).take 32 from (show (lw_tbl.drop 224).take 32 = wd_7 by decide +kernel) ▸ hw))
set_option maxRecDepth 100000 in
theorem ok_wd_8 : ∀ w ∈ wd_8, w ∈ lw_tbl := fun w hw => List.mem_of_mem_drop (List.mem_of_mem_take (i := 32) (show w ∈ (lw_tbl.drop 256).take 32 from (show (lw_tbl.drop 256).take 32 = wd_8 by decide +kernel) ▸ hw))
set_option maxRecDepth 100000 in
theorem ok_wd_9 : ∀ w ∈ wd_9, w ∈ lw_tbl := fun w hw => List.mem_of_mem_drop (List.mem_of_mem_take (i := 32) (show w ∈ (lw_tbl.drop 288).take 32 from (show (lw_tbl.drop 288).take 32 = wd_9 by decide +kernel) ▸ hw))
set_option maxRecDepth 100000 in
theorem ok_wd_10 : ∀ w ∈ wd_10, w ∈ lw_tbl := fun w hw => List.mem_of_mem_drop (List.mem_of_mem_take (i := 32) (show w ∈ (lw_tbl.drop 320).take 32 from (show (lw_tbl.drop 320).take 32 = wd_10 by decide +kernel) ▸ hw))
set_option maxRecDepth 100000 in
theorem ok_wd_11 : ∀ w ∈ wd_11, w ∈ lw_tbl := fun w hw => List.mem_of_mem_drop (List.mem_of_mem_take (i := 32) (show w ∈ (lw_tbl.drop 352).take 32 from (show (lw_tbl.drop 352).take 32 = wd_11 by decide +kernel) ▸ hw))
set_option maxRecDepth 100000 in
theorem ok_wd_12 : ∀ w ∈ wd_12, w ∈ lw_tbl := fun w hw => List.mem_of_mem_drop (List.mem_of_mem_take (i := 32) (show w ∈ (lw_tbl.drop 384).take 32 from (show (lw_tbl.drop 384).take 32 = wd_12 by decide +kernel) ▸ hw))
set_option maxRecDepth 100000 in
theorem ok_wd_13 : ∀ w ∈ wd_13, w ∈ lw_tbl := fun w hw => List.mem_of_mem_drop (List.mem_of_mem_take (i := 32) (show w ∈ (lw_tbl.drop 416).take 32 from (show (lw_tbl.drop 416).take 32 = wd_13 by decide +kernel) ▸ hw))
set_option maxRecDepth 100000 in
theorem ok_wd_14 : ∀ w ∈ wd_14, w ∈ lw_tbl := fun w hw => List.mem_of_mem_drop (List.mem_of_mem_take (i := 32) (show w ∈ (lw_tbl.drop 448).take 32 from (show (lw_tbl.drop 448).take 32 = wd_14 by decide +kernel) ▸ hw))
set_option maxRecDepth 100000 in
theorem ok_wd_15 : ∀ w ∈ wd_15, w ∈ lw_tbl := fun w hw => List.mem_of_mem_drop (List.mem_of_mem_take (i := 32) (show w ∈ (lw_tbl.drop 480).take 32 from (show (lw_tbl.drop 480).take 32 = wd_15 by decide +kernel) ▸ hw))
set_option maxRecDepth 100000 in
theorem ok_wd_16 : ∀ w ∈ wd_16, w ∈ lw_tbl := fun w hw => List.mem_of_mem_drop (List.mem_of_mem_take (i := 32) (show w ∈ (lw_tbl.drop 512).take 32 from (show (lw_tbl.drop 512).take 32 = wd_16 by decide +kernel) ▸ hw))
set_option maxRecDepth 100000 in
theorem ok_wd_17 : ∀ w ∈ wd_17, w ∈ lw_tbl := fun w hw => List.mem_of_mem_drop (List.mem_of_mem_take (i := 32) (show w ∈ (lw_tbl.drop 544).take 32 from (show (lw_tbl.drop 544).take 32 = wd_17 by decide +kernel) ▸ hw))
set_option maxRecDepth 100000 in
theorem ok_wd_18 : ∀ w ∈ wd_18, w ∈ lw_tbl := fun w hw => List.mem_of_mem_drop (List.mem_of_mem_take (i := 32) (show w ∈ (lw_tbl.drop 576).take 32 from (show (lw_tbl.drop 576).take 32 = wd_18 by decide +kernel) ▸ hw))
set_option maxRecDepth 100000 in
theorem ok_wd_19 : ∀ w ∈ wd_19, w ∈ lw_tbl := fun w hw => List.mem_of_mem_drop (List.mem_of_mem_take (i := 32) (show w ∈ (lw_tbl.drop 608).take 32 from (show (lw_tbl.drop 608).take 32 = wd_19 by decide +kernel) ▸ hw))
set_option maxRecDepth 100000 in
theorem ok_wd_20 : ∀ w ∈ wd_20, w ∈ lw_tbl := fun w hw => List.mem_of_mem_drop (List.mem_of_mem_take (i := 32) (show w ∈ (lw_tbl.drop 640).take 32 from (show (lw_tbl.drop 640).take 32 = wd_20 by decide +kernel) ▸ hw))
set_option maxRecDepth 100000 in
theorem ok_wd_21 : ∀ w ∈ wd_21, w ∈ lw_tbl := fun w hw => List.mem_of_mem_drop (List.mem_of_mem_take (i := 32) (show w ∈ (lw_tbl.drop 672).take 32 from (show (lw_tbl.drop 672).take 32 = wd_21 by decide +kernel) ▸ hw))
set_option maxRecDepth 100000 in
theorem ok_wd_22 : ∀ w ∈ wd_22, w ∈ lw_tbl := fun w hw => List.mem_of_mem_drop (List.mem_of_mem_take (i := 32) (show w ∈ (lw_tbl.drop 704).take 32 from (show (lw_tbl.drop 704).take 32 = wd_22 by decide +kernel) ▸ hw))
set_option maxRecDepth 100000 in
theorem ok_wd_23 : ∀ w ∈ wd_23, w ∈ lw_tbl := fun w hw => List.mem_of_mem_drop (List.mem_of_mem_take (i := 32) (show w ∈ (lw_tbl.drop 736).take 32 from (show (lw_tbl.drop 736).take 32 = wd_23 by decide +kernel) ▸ hw))
set_option maxRecDepth 100000 in
theorem ok_wd_24 : ∀ w ∈ wd_24, w ∈ lw_tbl := fun w hw => List.mem_of_mem_drop (List.mem_of_mem_take (i := 32) (show w ∈ (lw_tbl.drop 768).take 32 from (show (lw_tbl.drop 768).take 32 = wd_24 by decide +kernel) ▸ hw))
set_option maxRecDepth 100000 in
theorem ok_wd_25 : ∀ w ∈ wd_25, w ∈ lw_tbl := fun w hw => List.mem_of_mem_drop (List.mem_of_mem_take (i := 32) (show w ∈ (lw_tbl.drop 800).take 32 from (show (lw_tbl.drop 800).take 32 = wd_25 by decide +kernel) ▸ hw))
set_option maxRecDepth 100000 in
theorem ok_wd_26 : ∀ w ∈ wd_26, w ∈ lw_tbl := fun w hw => List.mem_of_mem_drop (List.mem_of_mem_take (i := 32) (show w ∈ (lw_tbl.drop 832).take 32 from (show (lw_tbl.drop 832).take 32 = wd_26 by decide +kernel) ▸ hw))
set_option maxRecDepth 100000 in
theorem ok_wd_27 : ∀ w ∈ wd_27, w ∈ lw_tbl := fun w hw => List.mem_of_mem_drop (List.mem_of_mem_take (i := 32) (show w ∈ (lw_tbl.drop 864).take 32 from (show (lw_tbl.drop 864).take 32 = wd_27 by decide +kernel) ▸ hw))
set_option maxRecDepth 100000 in
theorem ok_wd_28 : ∀ w ∈ wd_28, w ∈ lw_tbl := fun w hw => List.mem_of_mem_drop (List.mem_of_mem_take (i := 32) (show w ∈ (lw_tbl.drop 896).take 32 from (show (lw_tbl.drop 896).take 32 = wd_28 by decide +kernel) ▸ hw))
set_option maxRecDepth 100000 in
theorem ok_wd_29 : ∀ w ∈ wd_29, w ∈ lw_tbl := fun w hw => List.mem_of_mem_drop (List.mem_of_mem_take (i := 32) (show w ∈ (lw_tbl.drop 928).take 32 from (show (lw_tbl.drop 928).take 32 = wd_29 by decide +kernel) ▸ hw))
set_option maxRecDepth 100000 in
theorem ok_wd_30 : ∀ w ∈ wd_30, w ∈ lw_tbl := fun w hw => List.mem_of_mem_drop (List.mem_of_mem_take (i := 32) (show w ∈ (lw_tbl.drop 960).take 32 from (show (lw_tbl.drop 960).take 32 = wd_30 by decide +kernel) ▸ hw))
set_option maxRecDepth 100000 in
theorem ok_wd_31 : ∀ w ∈ wd_31, w ∈ lw_tbl := fun w hw => List.mem_of_mem_drop (List.mem_of_mem_take (i := 32) (show w ∈ (lw_tbl.drop 992).take 32 from (show (lw_tbl.drop 992).take 32 = wd_31 by decide +kernel) ▸ hw))
set_option maxRecDepth 100000 in
theorem ok_wd_32 : ∀ w ∈ wd_32, w ∈ lw_tbl := fun w hw => List.mem_of_mem_drop (List.mem_of_mem_take (i := 32) (show w ∈ (lw_tbl.drop 1024).take 32 from (show (lw_tbl.drop 1024).take 32 = wd_32 by decide +kernel) ▸ hw))
set_option maxRecDepth 100000 in
theorem ok_wd_33 : ∀ w ∈ wd_33, w ∈ lw_tbl := fun w hw => List.mem_of_mem_drop (List.mem_of_mem_take (i := 32) (show w ∈ (lw_tbl.drop 1056).take 32 from (show (lw_tbl.drop 1056).take 32 = wd_33 by decide +kernel) ▸ hw))
set_option maxRecDepth 100000 in
theorem ok_wd_34 : ∀ w ∈ wd_34, w ∈ lw_tbl := fun w hw => List.mem_of_mem_drop (List.mem_of_mem_take (i := 32) (show w ∈ (lw_tbl.drop 1088).take 32 from (show (lw_tbl.drop 1088).take 32 = wd_34 by decide +kernel) ▸ hw))
theorem ok_wd_all : ∀ l ∈ wd_all, ∀ w ∈ l, w ∈ lw_tbl := List.forall_mem_cons.mpr ⟨ok_wd_0, List.forall_mem_cons.mpr ⟨ok_wd_1, List.forall_mem_cons.mpr ⟨ok_wd_2, List.forall_mem_cons.mpr ⟨ok_wd_3, List.forall_mem_cons.mpr ⟨ok_wd_4, List.forall_mem_cons.mpr ⟨ok_wd_5, List.forall_mem_cons.mpr ⟨ok_wd_6, List.forall_mem_cons.mpr ⟨ok_wd_7, List.forall_mem_cons.mpr ⟨ok_wd_8, List.forall_mem_cons.mpr ⟨ok_wd_9, List.forall_mem_cons.mpr ⟨ok_wd_10, List.forall_mem_cons.mpr ⟨ok_wd_11, List.forall_mem_cons.mpr ⟨ok_wd_12, List.forall_mem_cons.mpr ⟨ok_wd_13, List.forall_mem_cons.mpr ⟨ok_wd_14, List.forall_mem_cons.mpr ⟨ok_wd_15, List.forall_mem_cons.mpr ⟨ok_wd_16, List.forall_mem_cons.mpr ⟨ok_wd_17, List.forall_mem_cons.mpr ⟨ok_wd_18, List.forall_mem_cons.mpr ⟨ok_wd_19, List.forall_mem_cons.mpr ⟨ok_wd_20, List.forall_mem_cons.mpr ⟨ok_wd_21, List.forall_mem_cons.mpr ⟨ok_wd_22, List.forall_mem_cons.mpr ⟨ok_wd_23, List.forall_mem_cons.mpr ⟨ok_wd_24, List.forall_mem_cons.mpr ⟨ok_wd_25, List.forall_mem_cons.mpr ⟨ok_wd_26, List.forall_mem_cons.mpr ⟨ok_wd_27, List.forall_mem_cons.mpr ⟨ok_wd_28, List.forall_mem_cons.mpr ⟨ok_wd_29, List.forall_mem_cons.mpr ⟨ok_wd_30, List.forall_mem_cons.mpr ⟨ok_wd_31, List.forall_mem_cons.mpr ⟨ok_wd_32, List.forall_mem_cons.mpr ⟨ok_wd_33, List.forall_mem_cons.mpr ⟨ok_wd_34, List.forall_mem_nil _⟩⟩⟩⟩⟩⟩⟩⟩⟩⟩⟩⟩⟩⟩⟩⟩⟩⟩⟩⟩⟩⟩⟩⟩⟩⟩⟩⟩⟩⟩⟩⟩⟩⟩⟩
theorem ok_w0 : ∀ (q : Nat) (w : Jvm.Cond), am_wd q = some w → w ∈ lw_tbl ∧ (goodWord w || am_hard w) = true := by
  intro q w h
  unfold am_wd am_w0 at h
  cases hl : wd_all[q / 32]? with
  | none => rw [hl] at h; cases h
  | some l =>
    rw [hl] at h
    cases h2 : l[q % 32]? with
    | none =>
      simp only [Option.bind_some, h2] at h
      cases h
    | some v =>
      simp only [Option.bind_some, h2] at h
      split at h
      · rename_i hg
        have e := Option.some.inj h
        subst e
        exact ⟨ok_wd_all l (List.mem_of_getElem? hl) v (List.mem_of_getElem? h2), hg⟩
      · cases h
theorem ok_wd : ∀ (q : Nat) (w : Jvm.Cond), am_wd q = some w → am_hard w = false → w ∈ am_Tb := by
  intro q w h hh
  obtain ⟨h1, h2⟩ := ok_w0 q w h
  rw [hh, Bool.or_false] at h2
  exact List.mem_filter.mpr ⟨h1, h2⟩
set_option maxRecDepth 100000 in
theorem ok_hd : lw_tbl.all (fun w => !am_hard w || decide (w ∈ am_Nd)) = true := by decide +kernel
theorem ok_wn : ∀ (q : Nat) (w : Jvm.Cond), am_wd q = some w → am_hard w = true → w ∈ am_Nd := by
  intro q w h hh
  have a := List.all_eq_true.mp ok_hd w (ok_w0 q w h).1
  rw [hh] at a
  exact of_decide_eq_true a
set_option maxRecDepth 100000 in
theorem ok_nd : am_Nd.all (fun w => decide (w ∈ lw_tbl)) = true := by decide +kernel
theorem ok_words : ∀ w ∈ am_Tb, goodWord w = true := fun w hw => (List.mem_filter.mp hw).2
set_option maxRecDepth 100000 in
theorem ok_cl_TS : am_clok am_Tb am_df 0 "TypeStarts" T_TS 5 := ⟨by decide +kernel, by decide +kernel, by decide +kernel, List.mem_filter.mpr ⟨List.mem_of_getElem? (i := 76) (by decide +kernel), by decide +kernel⟩, List.mem_filter.mpr ⟨List.mem_of_getElem? (i := 64) (by decide +kernel), by decide +kernel⟩, rfl, by decide +kernel⟩
set_option maxRecDepth 100000 in
theorem ok_cl_Types : am_clok am_Tb am_df 1 "TypeStarts$Types" T_Types 10 := ⟨by decide +kernel, by decide +kernel, by decide +kernel, List.mem_filter.mpr ⟨List.mem_of_getElem? (i := 84) (by decide +kernel), by decide +kernel⟩, List.mem_filter.mpr ⟨List.mem_of_getElem? (i := 65) (by decide +kernel), by decide +kernel⟩, rfl, by decide +kernel⟩
set_option maxRecDepth 100000 in
theorem ok_cl_Bodies : am_clok am_Tb am_df 2 "TypeStarts$Bodies" T_Bodies 9 := ⟨by decide +kernel, by decide +kernel, by decide +kernel, List.mem_filter.mpr ⟨List.mem_of_getElem? (i := 137) (by decide +kernel), by decide +kernel⟩, List.mem_filter.mpr ⟨List.mem_of_getElem? (i := 66) (by decide +kernel), by decide +kernel⟩, rfl, by decide +kernel⟩
set_option maxRecDepth 100000 in
theorem ok_cl_Run : am_clok am_Tb am_df 3 "TypeStarts$Run" T_Run 14 := ⟨by decide +kernel, by decide +kernel, by decide +kernel, List.mem_filter.mpr ⟨List.mem_of_getElem? (i := 180) (by decide +kernel), by decide +kernel⟩, List.mem_filter.mpr ⟨List.mem_of_getElem? (i := 67) (by decide +kernel), by decide +kernel⟩, rfl, by decide +kernel⟩
set_option maxRecDepth 100000 in
theorem ok_cl_Log : am_clok am_Tb am_df 4 "TypeStarts$Log" T_Log 2 := ⟨by decide +kernel, by decide +kernel, by decide +kernel, List.mem_filter.mpr ⟨List.mem_of_getElem? (i := 186) (by decide +kernel), by decide +kernel⟩, List.mem_filter.mpr ⟨List.mem_of_getElem? (i := 68) (by decide +kernel), by decide +kernel⟩, rfl, by decide +kernel⟩
set_option maxRecDepth 100000 in
theorem ok_cl_Search : am_clok am_Tb am_df 5 "TypeStarts$Search" T_Search 7 := ⟨by decide +kernel, by decide +kernel, by decide +kernel, List.mem_filter.mpr ⟨List.mem_of_getElem? (i := 250) (by decide +kernel), by decide +kernel⟩, List.mem_filter.mpr ⟨List.mem_of_getElem? (i := 69) (by decide +kernel), by decide +kernel⟩, rfl, by decide +kernel⟩
