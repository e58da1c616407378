set_option maxRecDepth 100000 in
theorem ok_Run_packTypes : am_mok am_wd am_cl am_tyL am_MT m_Run_packTypes = true := by decide +kernel
set_option maxRecDepth 100000 in
theorem ok_Points_firstSlot : am_mok am_wd am_cl am_tyL am_MT m_Points_firstSlot = true := by decide +kernel
set_option maxRecDepth 100000 in
theorem ok_Points_slotAt : am_mok am_wd am_cl am_tyL am_MT m_Points_slotAt = true := by decide +kernel
set_option maxRecDepth 100000 in
theorem ok_Points_isSame : am_mok am_wd am_cl am_tyL am_MT m_Points_isSame = true := by decide +kernel
set_option maxRecDepth 100000 in
theorem ok_Points_fillSlot : am_mok am_wd am_cl am_tyL am_MT m_Points_fillSlot = true := by decide +kernel
set_option maxRecDepth 100000 in
theorem ok_Run_packOutcome : am_mok am_wd am_cl am_tyL am_MT m_Run_packOutcome = true := by decide +kernel
set_option maxRecDepth 100000 in
theorem ok_Outcomes_add : am_mok am_wd am_cl am_tyL am_MT m_Outcomes_add = true := by decide +kernel
set_option maxRecDepth 100000 in
theorem ok_Outcomes_keepWitness : am_mok am_wd am_cl am_tyL am_MT m_Outcomes_keepWitness = true := by decide +kernel
set_option maxRecDepth 100000 in
theorem ok_Run_unpack : am_mok am_wd am_cl am_tyL am_MT m_Run_unpack = true := by decide +kernel
set_option maxRecDepth 100000 in
theorem ok_Run_unpackTypes : am_mok am_wd am_cl am_tyL am_MT m_Run_unpackTypes = true := by decide +kernel
set_option maxRecDepth 100000 in
theorem ok_TS_points : am_mok am_wd am_cl am_tyL am_MT m_TS_points = true := by decide +kernel
set_option maxRecDepth 100000 in
theorem ok_TS_isFound : am_mok am_wd am_cl am_tyL am_MT m_TS_isFound = true := by decide +kernel
set_option maxRecDepth 100000 in
theorem ok_TS_stuck : am_mok am_wd am_cl am_tyL am_MT m_TS_stuck = true := by decide +kernel
set_option maxRecDepth 100000 in
theorem ok_Outcomes_countStuck : am_mok am_wd am_cl am_tyL am_MT m_Outcomes_countStuck = true := by decide +kernel
set_option maxRecDepth 100000 in
theorem ok_Outcomes_isStuck : am_mok am_wd am_cl am_tyL am_MT m_Outcomes_isStuck = true := by decide +kernel
set_option maxRecDepth 100000 in
theorem ok_Outcomes_numberAt : am_mok am_wd am_cl am_tyL am_MT m_Outcomes_numberAt = true := by decide +kernel
set_option maxRecDepth 100000 in
theorem ok_TS_outcome : am_mok am_wd am_cl am_tyL am_MT m_TS_outcome = true := by decide +kernel
set_option maxRecDepth 100000 in
theorem ok_TS_witness : am_mok am_wd am_cl am_tyL am_MT m_TS_witness = true := by decide +kernel
set_option maxRecDepth 100000 in
theorem ok_Outcomes_witnessAt : am_mok am_wd am_cl am_tyL am_MT m_Outcomes_witnessAt = true := by decide +kernel
set_option maxRecDepth 100000 in
theorem ok_TS_holds : am_mok am_wd am_cl am_tyL am_MT m_TS_holds = true := by decide +kernel
set_option maxRecDepth 100000 in
theorem ok_Bodies_someNeedsItself : am_mok am_wd am_cl am_tyL am_MT m_Bodies_someNeedsItself = true := by decide +kernel
set_option maxRecDepth 100000 in
theorem ok_Md_init : am_mok am_wd am_cl am_tyL am_MT m_Md_init = true := by decide +kernel
set_option maxRecDepth 100000 in
theorem ok_Md_first : am_mok am_wd am_cl am_tyL am_MT m_Md_first = true := by decide +kernel
set_option maxRecDepth 100000 in
theorem ok_Md_type : am_mok am_wd am_cl am_tyL am_MT m_Md_type = true := by decide +kernel
set_option maxRecDepth 100000 in
theorem ok_Md_isType : am_mok am_wd am_cl am_tyL am_MT m_Md_isType = true := by decide +kernel
set_option maxRecDepth 100000 in
theorem ok_Md_within : am_mok am_wd am_cl am_tyL am_MT m_Md_within = true := by decide +kernel
set_option maxRecDepth 100000 in
theorem ok_Md_relist : am_mok am_wd am_cl am_tyL am_MT m_Md_relist = true := by decide +kernel
set_option maxRecDepth 100000 in
theorem ok_Md_adds : am_mok am_wd am_cl am_tyL am_MT m_Md_adds = true := by decide +kernel
set_option maxRecDepth 100000 in
theorem ok_Md_refind : am_mok am_wd am_cl am_tyL am_MT m_Md_refind = true := by decide +kernel
set_option maxRecDepth 100000 in
theorem ok_Md_face : am_mok am_wd am_cl am_tyL am_MT m_Md_face = true := by decide +kernel
set_option maxRecDepth 100000 in
theorem ok_Md_field : am_mok am_wd am_cl am_tyL am_MT m_Md_field = true := by decide +kernel
set_option maxRecDepth 100000 in
theorem ok_Md_thread : am_mok am_wd am_cl am_tyL am_MT m_Md_thread = true := by decide +kernel
set_option maxRecDepth 100000 in
theorem ok_Md_clear : am_mok am_wd am_cl am_tyL am_MT m_Md_clear = true := by decide +kernel
set_option maxRecDepth 100000 in
theorem ok_Md_action : am_mok am_wd am_cl am_tyL am_MT m_Md_action = true := by decide +kernel
set_option maxRecDepth 100000 in
theorem ok_Md_bodyOf : am_mok am_wd am_cl am_tyL am_MT m_Md_bodyOf = true := by decide +kernel
set_option maxRecDepth 100000 in
theorem ok_Md_isThread : am_mok am_wd am_cl am_tyL am_MT m_Md_isThread = true := by decide +kernel
set_option maxRecDepth 100000 in
theorem ok_Md_begin : am_mok am_wd am_cl am_tyL am_MT m_Md_begin = true := by decide +kernel
set_option maxRecDepth 100000 in
theorem ok_Md_turn : am_mok am_wd am_cl am_tyL am_MT m_Md_turn = true := by decide +kernel
set_option maxRecDepth 100000 in
theorem ok_Md_hasStep : am_mok am_wd am_cl am_tyL am_MT m_Md_hasStep = true := by decide +kernel
set_option maxRecDepth 100000 in
theorem ok_Md_waitsFor : am_mok am_wd am_cl am_tyL am_MT m_Md_waitsFor = true := by decide +kernel
set_option maxRecDepth 100000 in
theorem ok_Md_comes : am_mok am_wd am_cl am_tyL am_MT m_Md_comes = true := by decide +kernel
set_option maxRecDepth 100000 in
theorem ok_Md_top : am_mok am_wd am_cl am_tyL am_MT m_Md_top = true := by decide +kernel
