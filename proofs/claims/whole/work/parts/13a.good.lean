/-! By program: the rows are those of the bytes. -/
set_option maxRecDepth 100000 in
theorem ok_TS_init : am_mok am_wd am_cl am_tyL am_MT m_TS_init = true := by decide +kernel
set_option maxRecDepth 100000 in
theorem ok_Types_init : am_mok am_wd am_cl am_tyL am_MT m_Types_init = true := by decide +kernel
set_option maxRecDepth 100000 in
theorem ok_Bodies_init : am_mok am_wd am_cl am_tyL am_MT m_Bodies_init = true := by decide +kernel
set_option maxRecDepth 100000 in
theorem ok_Run_init : am_mok am_wd am_cl am_tyL am_MT m_Run_init = true := by decide +kernel
set_option maxRecDepth 100000 in
theorem ok_Log_init : am_mok am_wd am_cl am_tyL am_MT m_Log_init = true := by decide +kernel
set_option maxRecDepth 100000 in
theorem ok_Search_init : am_mok am_wd am_cl am_tyL am_MT m_Search_init = true := by decide +kernel
set_option maxRecDepth 100000 in
theorem ok_Points_init : am_mok am_wd am_cl am_tyL am_MT m_Points_init = true := by decide +kernel
set_option maxRecDepth 100000 in
theorem ok_Outcomes_init : am_mok am_wd am_cl am_tyL am_MT m_Outcomes_init = true := by decide +kernel
set_option maxRecDepth 100000 in
theorem ok_TS_type : am_mok am_wd am_cl am_tyL am_MT m_TS_type = true := by decide +kernel
set_option maxRecDepth 100000 in
theorem ok_Types_has : am_mok am_wd am_cl am_tyL am_MT m_Types_has = true := by decide +kernel
set_option maxRecDepth 100000 in
theorem ok_Types_isClass : am_mok am_wd am_cl am_tyL am_MT m_Types_isClass = true := by decide +kernel
set_option maxRecDepth 100000 in
theorem ok_Types_addType : am_mok am_wd am_cl am_tyL am_MT m_Types_addType = true := by decide +kernel
set_option maxRecDepth 100000 in
theorem ok_TS_settle : am_mok am_wd am_cl am_tyL am_MT m_TS_settle = true := by decide +kernel
set_option maxRecDepth 100000 in
theorem ok_Types_settle : am_mok am_wd am_cl am_tyL am_MT m_Types_settle = true := by decide +kernel
set_option maxRecDepth 100000 in
theorem ok_Types_findOwner : am_mok am_wd am_cl am_tyL am_MT m_Types_findOwner = true := by decide +kernel
set_option maxRecDepth 100000 in
theorem ok_Types_fillRow : am_mok am_wd am_cl am_tyL am_MT m_Types_fillRow = true := by decide +kernel
set_option maxRecDepth 100000 in
theorem ok_Types_addToRow : am_mok am_wd am_cl am_tyL am_MT m_Types_addToRow = true := by decide +kernel
set_option maxRecDepth 100000 in
theorem ok_Bodies_settle : am_mok am_wd am_cl am_tyL am_MT m_Bodies_settle = true := by decide +kernel
set_option maxRecDepth 100000 in
theorem ok_Bodies_settleAction : am_mok am_wd am_cl am_tyL am_MT m_Bodies_settleAction = true := by decide +kernel
set_option maxRecDepth 100000 in
theorem ok_TS_startAnew : am_mok am_wd am_cl am_tyL am_MT m_TS_startAnew = true := by decide +kernel
set_option maxRecDepth 100000 in
theorem ok_Run_reset : am_mok am_wd am_cl am_tyL am_MT m_Run_reset = true := by decide +kernel
set_option maxRecDepth 100000 in
theorem ok_Log_empty : am_mok am_wd am_cl am_tyL am_MT m_Log_empty = true := by decide +kernel
set_option maxRecDepth 100000 in
theorem ok_Arrays_fillII : am_mok am_wd am_cl am_tyL am_MT m_Arrays_fillII = true := by decide +kernel
set_option maxRecDepth 100000 in
theorem ok_Run_takeAway : am_mok am_wd am_cl am_tyL am_MT m_Run_takeAway = true := by decide +kernel
set_option maxRecDepth 100000 in
theorem ok_TS_face : am_mok am_wd am_cl am_tyL am_MT m_TS_face = true := by decide +kernel
set_option maxRecDepth 100000 in
theorem ok_Types_hasFace : am_mok am_wd am_cl am_tyL am_MT m_Types_hasFace = true := by decide +kernel
set_option maxRecDepth 100000 in
theorem ok_Types_addFace : am_mok am_wd am_cl am_tyL am_MT m_Types_addFace = true := by decide +kernel
set_option maxRecDepth 100000 in
theorem ok_TS_field : am_mok am_wd am_cl am_tyL am_MT m_TS_field = true := by decide +kernel
set_option maxRecDepth 100000 in
theorem ok_Types_addField : am_mok am_wd am_cl am_tyL am_MT m_Types_addField = true := by decide +kernel
set_option maxRecDepth 100000 in
theorem ok_TS_thread : am_mok am_wd am_cl am_tyL am_MT m_TS_thread = true := by decide +kernel
set_option maxRecDepth 100000 in
theorem ok_TS_clear : am_mok am_wd am_cl am_tyL am_MT m_TS_clear = true := by decide +kernel
set_option maxRecDepth 100000 in
theorem ok_Types_removeAll : am_mok am_wd am_cl am_tyL am_MT m_Types_removeAll = true := by decide +kernel
set_option maxRecDepth 100000 in
theorem ok_Bodies_removeAll : am_mok am_wd am_cl am_tyL am_MT m_Bodies_removeAll = true := by decide +kernel
set_option maxRecDepth 100000 in
theorem ok_TS_action : am_mok am_wd am_cl am_tyL am_MT m_TS_action = true := by decide +kernel
set_option maxRecDepth 100000 in
theorem ok_Bodies_innerBody : am_mok am_wd am_cl am_tyL am_MT m_Bodies_innerBody = true := by decide +kernel
set_option maxRecDepth 100000 in
theorem ok_Bodies_hasThread : am_mok am_wd am_cl am_tyL am_MT m_Bodies_hasThread = true := by decide +kernel
set_option maxRecDepth 100000 in
theorem ok_Bodies_isInRange : am_mok am_wd am_cl am_tyL am_MT m_Bodies_isInRange = true := by decide +kernel
set_option maxRecDepth 100000 in
theorem ok_Bodies_addAction : am_mok am_wd am_cl am_tyL am_MT m_Bodies_addAction = true := by decide +kernel
set_option maxRecDepth 100000 in
theorem ok_TS_begin : am_mok am_wd am_cl am_tyL am_MT m_TS_begin = true := by decide +kernel
set_option maxRecDepth 100000 in
theorem ok_TS_turn : am_mok am_wd am_cl am_tyL am_MT m_TS_turn = true := by decide +kernel
set_option maxRecDepth 100000 in
theorem ok_Run_endOf : am_mok am_wd am_cl am_tyL am_MT m_Run_endOf = true := by decide +kernel
