set_option maxRecDepth 100000 in
theorem ok_Run_awaited : am_mok am_wd am_cl am_tyL am_MT m_Run_awaited = true := by decide +kernel
set_option maxRecDepth 100000 in
theorem ok_Run_top : am_mok am_wd am_cl am_tyL am_MT m_Run_top = true := by decide +kernel
set_option maxRecDepth 100000 in
theorem ok_Run_isInList : am_mok am_wd am_cl am_tyL am_MT m_Run_isInList = true := by decide +kernel
set_option maxRecDepth 100000 in
theorem ok_Run_nextInList : am_mok am_wd am_cl am_tyL am_MT m_Run_nextInList = true := by decide +kernel
set_option maxRecDepth 100000 in
theorem ok_TS_makeStep : am_mok am_wd am_cl am_tyL am_MT m_TS_makeStep = true := by decide +kernel
set_option maxRecDepth 100000 in
theorem ok_Run_step : am_mok am_wd am_cl am_tyL am_MT m_Run_step = true := by decide +kernel
set_option maxRecDepth 100000 in
theorem ok_Run_stepInList : am_mok am_wd am_cl am_tyL am_MT m_Run_stepInList = true := by decide +kernel
set_option maxRecDepth 100000 in
theorem ok_Run_raise : am_mok am_wd am_cl am_tyL am_MT m_Run_raise = true := by decide +kernel
set_option maxRecDepth 100000 in
theorem ok_Bodies_isGuarded : am_mok am_wd am_cl am_tyL am_MT m_Bodies_isGuarded = true := by decide +kernel
set_option maxRecDepth 100000 in
theorem ok_Log_add : am_mok am_wd am_cl am_tyL am_MT m_Log_add = true := by decide +kernel
set_option maxRecDepth 100000 in
theorem ok_Run_endThread : am_mok am_wd am_cl am_tyL am_MT m_Run_endThread = true := by decide +kernel
set_option maxRecDepth 100000 in
theorem ok_Run_enter : am_mok am_wd am_cl am_tyL am_MT m_Run_enter = true := by decide +kernel
set_option maxRecDepth 100000 in
theorem ok_Run_stepAction : am_mok am_wd am_cl am_tyL am_MT m_Run_stepAction = true := by decide +kernel
set_option maxRecDepth 100000 in
theorem ok_Run_perform : am_mok am_wd am_cl am_tyL am_MT m_Run_perform = true := by decide +kernel
set_option maxRecDepth 100000 in
theorem ok_Run_finish : am_mok am_wd am_cl am_tyL am_MT m_Run_finish = true := by decide +kernel
set_option maxRecDepth 100000 in
theorem ok_TS_go : am_mok am_wd am_cl am_tyL am_MT m_TS_go = true := by decide +kernel
set_option maxRecDepth 100000 in
theorem ok_Run_ableThreads : am_mok am_wd am_cl am_tyL am_MT m_Run_ableThreads = true := by decide +kernel
set_option maxRecDepth 100000 in
theorem ok_Integer_bitCount : am_mok am_wd am_cl am_tyL am_MT m_Integer_bitCount = true := by decide +kernel
set_option maxRecDepth 100000 in
theorem ok_TS_memberAt : am_mok am_wd am_cl am_tyL am_MT m_TS_memberAt = true := by decide +kernel
set_option maxRecDepth 100000 in
theorem ok_TS_steps : am_mok am_wd am_cl am_tyL am_MT m_TS_steps = true := by decide +kernel
set_option maxRecDepth 100000 in
theorem ok_TS_state : am_mok am_wd am_cl am_tyL am_MT m_TS_state = true := by decide +kernel
set_option maxRecDepth 100000 in
theorem ok_TS_in : am_mok am_wd am_cl am_tyL am_MT m_TS_in = true := by decide +kernel
set_option maxRecDepth 100000 in
theorem ok_TS_value : am_mok am_wd am_cl am_tyL am_MT m_TS_value = true := by decide +kernel
set_option maxRecDepth 100000 in
theorem ok_TS_end : am_mok am_wd am_cl am_tyL am_MT m_TS_end = true := by decide +kernel
set_option maxRecDepth 100000 in
theorem ok_TS_waits : am_mok am_wd am_cl am_tyL am_MT m_TS_waits = true := by decide +kernel
set_option maxRecDepth 100000 in
theorem ok_TS_start : am_mok am_wd am_cl am_tyL am_MT m_TS_start = true := by decide +kernel
set_option maxRecDepth 100000 in
theorem ok_TS_log : am_mok am_wd am_cl am_tyL am_MT m_TS_log = true := by decide +kernel
set_option maxRecDepth 100000 in
theorem ok_Log_numberAt : am_mok am_wd am_cl am_tyL am_MT m_Log_numberAt = true := by decide +kernel
set_option maxRecDepth 100000 in
theorem ok_TS_list : am_mok am_wd am_cl am_tyL am_MT m_TS_list = true := by decide +kernel
set_option maxRecDepth 100000 in
theorem ok_TS_through : am_mok am_wd am_cl am_tyL am_MT m_TS_through = true := by decide +kernel
set_option maxRecDepth 100000 in
theorem ok_TS_needs : am_mok am_wd am_cl am_tyL am_MT m_TS_needs = true := by decide +kernel
set_option maxRecDepth 100000 in
theorem ok_Bodies_isNeeded : am_mok am_wd am_cl am_tyL am_MT m_Bodies_isNeeded = true := by decide +kernel
set_option maxRecDepth 100000 in
theorem ok_Bodies_allNeeded : am_mok am_wd am_cl am_tyL am_MT m_Bodies_allNeeded = true := by decide +kernel
set_option maxRecDepth 100000 in
theorem ok_Bodies_firstNeeded : am_mok am_wd am_cl am_tyL am_MT m_Bodies_firstNeeded = true := by decide +kernel
set_option maxRecDepth 100000 in
theorem ok_TS_search : am_mok am_wd am_cl am_tyL am_MT m_TS_search = true := by decide +kernel
set_option maxRecDepth 100000 in
theorem ok_Search_explore : am_mok am_wd am_cl am_tyL am_MT m_Search_explore = true := by decide +kernel
set_option maxRecDepth 100000 in
theorem ok_Points_empty : am_mok am_wd am_cl am_tyL am_MT m_Points_empty = true := by decide +kernel
set_option maxRecDepth 100000 in
theorem ok_Arrays_fillJJ : am_mok am_wd am_cl am_tyL am_MT m_Arrays_fillJJ = true := by decide +kernel
set_option maxRecDepth 100000 in
theorem ok_Outcomes_empty : am_mok am_wd am_cl am_tyL am_MT m_Outcomes_empty = true := by decide +kernel
set_option maxRecDepth 100000 in
theorem ok_Search_arrive : am_mok am_wd am_cl am_tyL am_MT m_Search_arrive = true := by decide +kernel
set_option maxRecDepth 100000 in
theorem ok_Points_add : am_mok am_wd am_cl am_tyL am_MT m_Points_add = true := by decide +kernel
set_option maxRecDepth 100000 in
theorem ok_Run_pack : am_mok am_wd am_cl am_tyL am_MT m_Run_pack = true := by decide +kernel
