set_option maxRecDepth 100000 in
theorem ok_Md_nextIn : am_mok am_wd am_cl am_tyL am_MT m_Md_nextIn = true := by decide +kernel
set_option maxRecDepth 100000 in
theorem ok_Md_isPassed : am_mok am_wd am_cl am_tyL am_MT m_Md_isPassed = true := by decide +kernel
set_option maxRecDepth 100000 in
theorem ok_Md_asked : am_mok am_wd am_cl am_tyL am_MT m_Md_asked = true := by decide +kernel
set_option maxRecDepth 100000 in
theorem ok_Md_fieldThrough : am_mok am_wd am_cl am_tyL am_MT m_Md_fieldThrough = true := by decide +kernel
set_option maxRecDepth 100000 in
theorem ok_Md_makes : am_mok am_wd am_cl am_tyL am_MT m_Md_makes = true := by decide +kernel
set_option maxRecDepth 100000 in
theorem ok_Md_stepsI : am_mok am_wd am_cl am_tyL am_MT m_Md_stepsI = true := by decide +kernel
set_option maxRecDepth 100000 in
theorem ok_Md_begins : am_mok am_wd am_cl am_tyL am_MT m_Md_begins = true := by decide +kernel
set_option maxRecDepth 100000 in
theorem ok_Md_logs : am_mok am_wd am_cl am_tyL am_MT m_Md_logs = true := by decide +kernel
set_option maxRecDepth 100000 in
theorem ok_Md_throwsOn : am_mok am_wd am_cl am_tyL am_MT m_Md_throwsOn = true := by decide +kernel
set_option maxRecDepth 100000 in
theorem ok_Md_behind : am_mok am_wd am_cl am_tyL am_MT m_Md_behind = true := by decide +kernel
set_option maxRecDepth 100000 in
theorem ok_Md_ends : am_mok am_wd am_cl am_tyL am_MT m_Md_ends = true := by decide +kernel
set_option maxRecDepth 100000 in
theorem ok_Md_goes : am_mok am_wd am_cl am_tyL am_MT m_Md_goes = true := by decide +kernel
set_option maxRecDepth 100000 in
theorem ok_Md_acts : am_mok am_wd am_cl am_tyL am_MT m_Md_acts = true := by decide +kernel
set_option maxRecDepth 100000 in
theorem ok_Md_go : am_mok am_wd am_cl am_tyL am_MT m_Md_go = true := by decide +kernel
set_option maxRecDepth 100000 in
theorem ok_Md_steps : am_mok am_wd am_cl am_tyL am_MT m_Md_steps = true := by decide +kernel
set_option maxRecDepth 100000 in
theorem ok_Md_state : am_mok am_wd am_cl am_tyL am_MT m_Md_state = true := by decide +kernel
set_option maxRecDepth 100000 in
theorem ok_Md_in : am_mok am_wd am_cl am_tyL am_MT m_Md_in = true := by decide +kernel
set_option maxRecDepth 100000 in
theorem ok_Md_value : am_mok am_wd am_cl am_tyL am_MT m_Md_value = true := by decide +kernel
set_option maxRecDepth 100000 in
theorem ok_Md_end : am_mok am_wd am_cl am_tyL am_MT m_Md_end = true := by decide +kernel
set_option maxRecDepth 100000 in
theorem ok_Md_endOf : am_mok am_wd am_cl am_tyL am_MT m_Md_endOf = true := by decide +kernel
set_option maxRecDepth 100000 in
theorem ok_Md_waits : am_mok am_wd am_cl am_tyL am_MT m_Md_waits = true := by decide +kernel
set_option maxRecDepth 100000 in
theorem ok_Md_start : am_mok am_wd am_cl am_tyL am_MT m_Md_start = true := by decide +kernel
set_option maxRecDepth 100000 in
theorem ok_Md_log : am_mok am_wd am_cl am_tyL am_MT m_Md_log = true := by decide +kernel
set_option maxRecDepth 100000 in
theorem ok_Md_list : am_mok am_wd am_cl am_tyL am_MT m_Md_list = true := by decide +kernel
set_option maxRecDepth 100000 in
theorem ok_Md_through : am_mok am_wd am_cl am_tyL am_MT m_Md_through = true := by decide +kernel
set_option maxRecDepth 100000 in
theorem ok_Md_needs : am_mok am_wd am_cl am_tyL am_MT m_Md_needs = true := by decide +kernel
set_option maxRecDepth 100000 in
theorem ok_Md_findNeeds : am_mok am_wd am_cl am_tyL am_MT m_Md_findNeeds = true := by decide +kernel
set_option maxRecDepth 100000 in
theorem ok_Md_search : am_mok am_wd am_cl am_tyL am_MT m_Md_search = true := by decide +kernel
set_option maxRecDepth 100000 in
theorem ok_Md_searches : am_mok am_wd am_cl am_tyL am_MT m_Md_searches = true := by decide +kernel
set_option maxRecDepth 100000 in
theorem ok_Md_hash : am_mok am_wd am_cl am_tyL am_MT m_Md_hash = true := by decide +kernel
set_option maxRecDepth 100000 in
theorem ok_Md_keep : am_mok am_wd am_cl am_tyL am_MT m_Md_keep = true := by decide +kernel
set_option maxRecDepth 100000 in
theorem ok_Md_load : am_mok am_wd am_cl am_tyL am_MT m_Md_load = true := by decide +kernel
set_option maxRecDepth 100000 in
theorem ok_Md_outcomes : am_mok am_wd am_cl am_tyL am_MT m_Md_outcomes = true := by decide +kernel
set_option maxRecDepth 100000 in
theorem ok_Md_against : am_mok am_wd am_cl am_tyL am_MT m_Md_against = true := by decide +kernel
set_option maxRecDepth 100000 in
theorem ok_Md_met : am_mok am_wd am_cl am_tyL am_MT m_Md_met = true := by decide +kernel
set_option maxRecDepth 100000 in
theorem ok_Md_points : am_mok am_wd am_cl am_tyL am_MT m_Md_points = true := by decide +kernel
set_option maxRecDepth 100000 in
theorem ok_Md_stuck : am_mok am_wd am_cl am_tyL am_MT m_Md_stuck = true := by decide +kernel
set_option maxRecDepth 100000 in
theorem ok_Md_isStuck : am_mok am_wd am_cl am_tyL am_MT m_Md_isStuck = true := by decide +kernel
set_option maxRecDepth 100000 in
theorem ok_Md_outcome : am_mok am_wd am_cl am_tyL am_MT m_Md_outcome = true := by decide +kernel
set_option maxRecDepth 100000 in
theorem ok_Md_witness : am_mok am_wd am_cl am_tyL am_MT m_Md_witness = true := by decide +kernel
set_option maxRecDepth 100000 in
theorem ok_Md_holds : am_mok am_wd am_cl am_tyL am_MT m_Md_holds = true := by decide +kernel
theorem okMT_0 : ∀ M ∈ MT_0, am_mok am_wd am_cl am_tyL am_MT M = true := List.forall_mem_cons.mpr ⟨ok_TS_init, List.forall_mem_cons.mpr ⟨ok_Types_init, List.forall_mem_cons.mpr ⟨ok_Bodies_init, List.forall_mem_cons.mpr ⟨ok_Run_init, List.forall_mem_cons.mpr ⟨ok_Log_init, List.forall_mem_cons.mpr ⟨ok_Search_init, List.forall_mem_cons.mpr ⟨ok_Points_init, List.forall_mem_cons.mpr ⟨ok_Outcomes_init, List.forall_mem_cons.mpr ⟨ok_TS_type, List.forall_mem_cons.mpr ⟨ok_Types_has, List.forall_mem_cons.mpr ⟨ok_Types_isClass, List.forall_mem_cons.mpr ⟨ok_Types_addType, List.forall_mem_cons.mpr ⟨ok_TS_settle, List.forall_mem_cons.mpr ⟨ok_Types_settle, List.forall_mem_cons.mpr ⟨ok_Types_findOwner, List.forall_mem_cons.mpr ⟨ok_Types_fillRow, List.forall_mem_nil _⟩⟩⟩⟩⟩⟩⟩⟩⟩⟩⟩⟩⟩⟩⟩⟩
theorem okMT_1 : ∀ M ∈ MT_1, am_mok am_wd am_cl am_tyL am_MT M = true := List.forall_mem_cons.mpr ⟨ok_Types_addToRow, List.forall_mem_cons.mpr ⟨ok_Bodies_settle, List.forall_mem_cons.mpr ⟨ok_Bodies_settleAction, List.forall_mem_cons.mpr ⟨ok_TS_startAnew, List.forall_mem_cons.mpr ⟨ok_Run_reset, List.forall_mem_cons.mpr ⟨ok_Log_empty, List.forall_mem_cons.mpr ⟨ok_Arrays_fillII, List.forall_mem_cons.mpr ⟨ok_Run_takeAway, List.forall_mem_cons.mpr ⟨ok_TS_face, List.forall_mem_cons.mpr ⟨ok_Types_hasFace, List.forall_mem_cons.mpr ⟨ok_Types_addFace, List.forall_mem_cons.mpr ⟨ok_TS_field, List.forall_mem_cons.mpr ⟨ok_Types_addField, List.forall_mem_cons.mpr ⟨ok_TS_thread, List.forall_mem_cons.mpr ⟨ok_TS_clear, List.forall_mem_cons.mpr ⟨ok_Types_removeAll, List.forall_mem_nil _⟩⟩⟩⟩⟩⟩⟩⟩⟩⟩⟩⟩⟩⟩⟩⟩
theorem okMT_2 : ∀ M ∈ MT_2, am_mok am_wd am_cl am_tyL am_MT M = true := List.forall_mem_cons.mpr ⟨ok_Bodies_removeAll, List.forall_mem_cons.mpr ⟨ok_TS_action, List.forall_mem_cons.mpr ⟨ok_Bodies_innerBody, List.forall_mem_cons.mpr ⟨ok_Bodies_hasThread, List.forall_mem_cons.mpr ⟨ok_Bodies_isInRange, List.forall_mem_cons.mpr ⟨ok_Bodies_addAction, List.forall_mem_cons.mpr ⟨ok_TS_begin, List.forall_mem_cons.mpr ⟨ok_TS_turn, List.forall_mem_cons.mpr ⟨ok_Run_endOf, List.forall_mem_cons.mpr ⟨ok_Run_awaited, List.forall_mem_cons.mpr ⟨ok_Run_top, List.forall_mem_cons.mpr ⟨ok_Run_isInList, List.forall_mem_cons.mpr ⟨ok_Run_nextInList, List.forall_mem_cons.mpr ⟨ok_TS_makeStep, List.forall_mem_cons.mpr ⟨ok_Run_step, List.forall_mem_cons.mpr ⟨ok_Run_stepInList, List.forall_mem_nil _⟩⟩⟩⟩⟩⟩⟩⟩⟩⟩⟩⟩⟩⟩⟩⟩
theorem okMT_3 : ∀ M ∈ MT_3, am_mok am_wd am_cl am_tyL am_MT M = true := List.forall_mem_cons.mpr ⟨ok_Run_raise, List.forall_mem_cons.mpr ⟨ok_Bodies_isGuarded, List.forall_mem_cons.mpr ⟨ok_Log_add, List.forall_mem_cons.mpr ⟨ok_Run_endThread, List.forall_mem_cons.mpr ⟨ok_Run_enter, List.forall_mem_cons.mpr ⟨ok_Run_stepAction, List.forall_mem_cons.mpr ⟨ok_Run_perform, List.forall_mem_cons.mpr ⟨ok_Run_finish, List.forall_mem_cons.mpr ⟨ok_TS_go, List.forall_mem_cons.mpr ⟨ok_Run_ableThreads, List.forall_mem_cons.mpr ⟨ok_Integer_bitCount, List.forall_mem_cons.mpr ⟨ok_TS_memberAt, List.forall_mem_cons.mpr ⟨ok_TS_steps, List.forall_mem_cons.mpr ⟨ok_TS_state, List.forall_mem_cons.mpr ⟨ok_TS_in, List.forall_mem_cons.mpr ⟨ok_TS_value, List.forall_mem_nil _⟩⟩⟩⟩⟩⟩⟩⟩⟩⟩⟩⟩⟩⟩⟩⟩
theorem okMT_4 : ∀ M ∈ MT_4, am_mok am_wd am_cl am_tyL am_MT M = true := List.forall_mem_cons.mpr ⟨ok_TS_end, List.forall_mem_cons.mpr ⟨ok_TS_waits, List.forall_mem_cons.mpr ⟨ok_TS_start, List.forall_mem_cons.mpr ⟨ok_TS_log, List.forall_mem_cons.mpr ⟨ok_Log_numberAt, List.forall_mem_cons.mpr ⟨ok_TS_list, List.forall_mem_cons.mpr ⟨ok_TS_through, List.forall_mem_cons.mpr ⟨ok_TS_needs, List.forall_mem_cons.mpr ⟨ok_Bodies_isNeeded, List.forall_mem_cons.mpr ⟨ok_Bodies_allNeeded, List.forall_mem_cons.mpr ⟨ok_Bodies_firstNeeded, List.forall_mem_cons.mpr ⟨ok_TS_search, List.forall_mem_cons.mpr ⟨ok_Search_explore, List.forall_mem_cons.mpr ⟨ok_Points_empty, List.forall_mem_cons.mpr ⟨ok_Arrays_fillJJ, List.forall_mem_cons.mpr ⟨ok_Outcomes_empty, List.forall_mem_nil _⟩⟩⟩⟩⟩⟩⟩⟩⟩⟩⟩⟩⟩⟩⟩⟩
theorem okMT_5 : ∀ M ∈ MT_5, am_mok am_wd am_cl am_tyL am_MT M = true := List.forall_mem_cons.mpr ⟨ok_Search_arrive, List.forall_mem_cons.mpr ⟨ok_Points_add, List.forall_mem_cons.mpr ⟨ok_Run_pack, List.forall_mem_cons.mpr ⟨ok_Run_packTypes, List.forall_mem_cons.mpr ⟨ok_Points_firstSlot, List.forall_mem_cons.mpr ⟨ok_Points_slotAt, List.forall_mem_cons.mpr ⟨ok_Points_isSame, List.forall_mem_cons.mpr ⟨ok_Points_fillSlot, List.forall_mem_cons.mpr ⟨ok_Run_packOutcome, List.forall_mem_cons.mpr ⟨ok_Outcomes_add, List.forall_mem_cons.mpr ⟨ok_Outcomes_keepWitness, List.forall_mem_cons.mpr ⟨ok_Run_unpack, List.forall_mem_cons.mpr ⟨ok_Run_unpackTypes, List.forall_mem_cons.mpr ⟨ok_TS_points, List.forall_mem_cons.mpr ⟨ok_TS_isFound, List.forall_mem_cons.mpr ⟨ok_TS_stuck, List.forall_mem_nil _⟩⟩⟩⟩⟩⟩⟩⟩⟩⟩⟩⟩⟩⟩⟩⟩
theorem okMT_6 : ∀ M ∈ MT_6, am_mok am_wd am_cl am_tyL am_MT M = true := List.forall_mem_cons.mpr ⟨ok_Outcomes_countStuck, List.forall_mem_cons.mpr ⟨ok_Outcomes_isStuck, List.forall_mem_cons.mpr ⟨ok_Outcomes_numberAt, List.forall_mem_cons.mpr ⟨ok_TS_outcome, List.forall_mem_cons.mpr ⟨ok_TS_witness, List.forall_mem_cons.mpr ⟨ok_Outcomes_witnessAt, List.forall_mem_cons.mpr ⟨ok_TS_holds, List.forall_mem_cons.mpr ⟨ok_Bodies_someNeedsItself, List.forall_mem_cons.mpr ⟨ok_Md_init, List.forall_mem_cons.mpr ⟨ok_Md_first, List.forall_mem_cons.mpr ⟨ok_Md_type, List.forall_mem_cons.mpr ⟨ok_Md_isType, List.forall_mem_cons.mpr ⟨ok_Md_within, List.forall_mem_cons.mpr ⟨ok_Md_relist, List.forall_mem_cons.mpr ⟨ok_Md_adds, List.forall_mem_cons.mpr ⟨ok_Md_refind, List.forall_mem_nil _⟩⟩⟩⟩⟩⟩⟩⟩⟩⟩⟩⟩⟩⟩⟩⟩
theorem okMT_7 : ∀ M ∈ MT_7, am_mok am_wd am_cl am_tyL am_MT M = true := List.forall_mem_cons.mpr ⟨ok_Md_face, List.forall_mem_cons.mpr ⟨ok_Md_field, List.forall_mem_cons.mpr ⟨ok_Md_thread, List.forall_mem_cons.mpr ⟨ok_Md_clear, List.forall_mem_cons.mpr ⟨ok_Md_action, List.forall_mem_cons.mpr ⟨ok_Md_bodyOf, List.forall_mem_cons.mpr ⟨ok_Md_isThread, List.forall_mem_cons.mpr ⟨ok_Md_begin, List.forall_mem_cons.mpr ⟨ok_Md_turn, List.forall_mem_cons.mpr ⟨ok_Md_hasStep, List.forall_mem_cons.mpr ⟨ok_Md_waitsFor, List.forall_mem_cons.mpr ⟨ok_Md_comes, List.forall_mem_cons.mpr ⟨ok_Md_top, List.forall_mem_cons.mpr ⟨ok_Md_nextIn, List.forall_mem_cons.mpr ⟨ok_Md_isPassed, List.forall_mem_cons.mpr ⟨ok_Md_asked, List.forall_mem_nil _⟩⟩⟩⟩⟩⟩⟩⟩⟩⟩⟩⟩⟩⟩⟩⟩
theorem okMT_8 : ∀ M ∈ MT_8, am_mok am_wd am_cl am_tyL am_MT M = true := List.forall_mem_cons.mpr ⟨ok_Md_fieldThrough, List.forall_mem_cons.mpr ⟨ok_Md_makes, List.forall_mem_cons.mpr ⟨ok_Md_stepsI, List.forall_mem_cons.mpr ⟨ok_Md_begins, List.forall_mem_cons.mpr ⟨ok_Md_logs, List.forall_mem_cons.mpr ⟨ok_Md_throwsOn, List.forall_mem_cons.mpr ⟨ok_Md_behind, List.forall_mem_cons.mpr ⟨ok_Md_ends, List.forall_mem_cons.mpr ⟨ok_Md_goes, List.forall_mem_cons.mpr ⟨ok_Md_acts, List.forall_mem_cons.mpr ⟨ok_Md_go, List.forall_mem_cons.mpr ⟨ok_Md_steps, List.forall_mem_cons.mpr ⟨ok_Md_state, List.forall_mem_cons.mpr ⟨ok_Md_in, List.forall_mem_cons.mpr ⟨ok_Md_value, List.forall_mem_cons.mpr ⟨ok_Md_end, List.forall_mem_nil _⟩⟩⟩⟩⟩⟩⟩⟩⟩⟩⟩⟩⟩⟩⟩⟩
theorem okMT_9 : ∀ M ∈ MT_9, am_mok am_wd am_cl am_tyL am_MT M = true := List.forall_mem_cons.mpr ⟨ok_Md_endOf, List.forall_mem_cons.mpr ⟨ok_Md_waits, List.forall_mem_cons.mpr ⟨ok_Md_start, List.forall_mem_cons.mpr ⟨ok_Md_log, List.forall_mem_cons.mpr ⟨ok_Md_list, List.forall_mem_cons.mpr ⟨ok_Md_through, List.forall_mem_cons.mpr ⟨ok_Md_needs, List.forall_mem_cons.mpr ⟨ok_Md_findNeeds, List.forall_mem_cons.mpr ⟨ok_Md_search, List.forall_mem_cons.mpr ⟨ok_Md_searches, List.forall_mem_cons.mpr ⟨ok_Md_hash, List.forall_mem_cons.mpr ⟨ok_Md_keep, List.forall_mem_cons.mpr ⟨ok_Md_load, List.forall_mem_cons.mpr ⟨ok_Md_outcomes, List.forall_mem_cons.mpr ⟨ok_Md_against, List.forall_mem_cons.mpr ⟨ok_Md_met, List.forall_mem_nil _⟩⟩⟩⟩⟩⟩⟩⟩⟩⟩⟩⟩⟩⟩⟩⟩
theorem okMT_10 : ∀ M ∈ MT_10, am_mok am_wd am_cl am_tyL am_MT M = true := List.forall_mem_cons.mpr ⟨ok_Md_points, List.forall_mem_cons.mpr ⟨ok_Md_stuck, List.forall_mem_cons.mpr ⟨ok_Md_isStuck, List.forall_mem_cons.mpr ⟨ok_Md_outcome, List.forall_mem_cons.mpr ⟨ok_Md_witness, List.forall_mem_cons.mpr ⟨ok_Md_holds, List.forall_mem_nil _⟩⟩⟩⟩⟩⟩
theorem okMT : ∀ M ∈ am_MT, am_mok am_wd am_cl am_tyL am_MT M = true := fun M h => (List.mem_append.mp h).elim (okMT_0 M) ((fun M h => (List.mem_append.mp h).elim (okMT_1 M) ((fun M h => (List.mem_append.mp h).elim (okMT_2 M) ((fun M h => (List.mem_append.mp h).elim (okMT_3 M) ((fun M h => (List.mem_append.mp h).elim (okMT_4 M) ((fun M h => (List.mem_append.mp h).elim (okMT_5 M) ((fun M h => (List.mem_append.mp h).elim (okMT_6 M) ((fun M h => (List.mem_append.mp h).elim (okMT_7 M) ((fun M h => (List.mem_append.mp h).elim (okMT_8 M) ((fun M h => (List.mem_append.mp h).elim (okMT_9 M) (okMT_10 M)) M)) M)) M)) M)) M)) M)) M)) M)) M)
set_option maxRecDepth 100000 in
theorem ok_wd_0 : ∀ w ∈ wd_0, w ∈ lw_tbl := fun w hw => List.mem_of_mem_drop (List.mem_of_mem_take (i := 32) (show w ∈ (lw_tbl.drop 0).take 32 from (show (lw_tbl.drop 0).take 32 = wd_0 by decide +kernel) ▸ hw))
