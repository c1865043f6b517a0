set_option maxRecDepth 20000 in
theorem R_person : ∀ q ∈ C_X11_person, qNr (some .int) q.2 := by
  unfold C_X11_person
  refine qconsR qNr_os ?_
  refine qconsR qNr_os ?_
  refine qconsR nr_calls ?_
  refine qconsR nr_ifeq ?_
  refine qconsR qNr_os ?_
  refine qconsR nr_calls ?_
  refine qconsR nr_ifne ?_
  refine qconsR qNr_os ?_
  refine qconsR qNr_ret ?_
  refine qconsR qNr_os ?_
  refine qconsR qNr_os ?_
  refine qconsR nr_calls ?_
  refine qconsR nr_ifne ?_
  refine qconsR qNr_os ?_
  refine qconsR qNr_ret ?_
  refine qconsR qNr_os ?_
  refine qconsR nr_getR ?_
  refine qconsR nr_getI ?_
  refine qconsR qNr_os ?_
  refine qconsR nr_iclt ?_
  refine qconsR qNr_os ?_
  refine qconsR qNr_ret ?_
  refine qconsR qNr_os ?_
  refine qconsR nr_getR ?_
  refine qconsR qNr_os ?_
  refine qconsR qNr_os ?_
  refine qconsR qNr_os ?_
  refine qconsR nr_callv ?_
  refine qconsR qNr_ret ?_
  exact qnilR
theorem V_person {as : List qV} {h h' : qH} {v : qV} (e : S_X11_person as h = some (some v, h')) : ∃ z : Int, v = qI z := qchk_int (qM_R R_person e)
set_option maxRecDepth 20000 in
theorem R_of : ∀ q ∈ C_X11_of, qNr (some .int) q.2 := by
  unfold C_X11_of
  refine qconsR qNr_os ?_
  refine qconsR qNr_os ?_
  refine qconsR nr_callv ?_
  refine qconsR nr_ifne ?_
  refine qconsR qNr_os ?_
  refine qconsR qNr_ret ?_
  refine qconsR qNr_os ?_
  refine qconsR nr_tsw ?_
  refine qconsR qNr_os ?_
  refine qconsR nr_getR ?_
  refine qconsR nr_getR ?_
  refine qconsR qNr_os ?_
  refine qconsR nr_iaload ?_
  refine qconsR qNr_ret ?_
  refine qconsR qNr_os ?_
  refine qconsR nr_getR ?_
  refine qconsR nr_getR ?_
  refine qconsR qNr_os ?_
  refine qconsR nr_iaload ?_
  refine qconsR qNr_ret ?_
  refine qconsR qNr_os ?_
  refine qconsR nr_getR ?_
  refine qconsR nr_getR ?_
  refine qconsR qNr_os ?_
  refine qconsR nr_iaload ?_
  refine qconsR qNr_ret ?_
  refine qconsR qNr_os ?_
  refine qconsR nr_getR ?_
  refine qconsR nr_getR ?_
  refine qconsR qNr_os ?_
  refine qconsR nr_iaload ?_
  refine qconsR qNr_ret ?_
  refine qconsR qNr_os ?_
  refine qconsR nr_getR ?_
  refine qconsR nr_getR ?_
  refine qconsR qNr_os ?_
  refine qconsR nr_iaload ?_
  refine qconsR qNr_ret ?_
  refine qconsR qNr_os ?_
  refine qconsR nr_getR ?_
  refine qconsR nr_getR ?_
  refine qconsR qNr_os ?_
  refine qconsR nr_zaload ?_
  refine qconsR nr_ifeq ?_
  refine qconsR qNr_os ?_
  refine qconsR nr_goto ?_
  refine qconsR qNr_os ?_
  refine qconsR qNr_ret ?_
  refine qconsR qNr_os ?_
  refine qconsR nr_getR ?_
  refine qconsR nr_getD ?_
  refine qconsR qNr_os ?_
  refine qconsR nr_getR ?_
  refine qconsR qNr_os ?_
  refine qconsR nr_callv ?_
  refine qconsR qNr_ret ?_
  refine qconsR qNr_os ?_
  refine qconsR nr_getR ?_
  refine qconsR qNr_os ?_
  refine qconsR nr_callv ?_
  refine qconsR qNr_ret ?_
  refine qconsR qNr_os ?_
  refine qconsR qNr_ret ?_
  exact qnilR
theorem V_of {as : List qV} {h h' : qH} {v : qV} (e : S_X11_of as h = some (some v, h')) : ∃ z : Int, v = qI z := qchk_int (qM_R R_of e)
set_option maxRecDepth 20000 in
theorem R_work : ∀ q ∈ C_X11_work, qNr (some .int) q.2 := by
  unfold C_X11_work
  refine qconsR qNr_os ?_
  refine qconsR qNr_os ?_
  refine qconsR nr_callv ?_
  refine qconsR nr_ifeq ?_
  refine qconsR qNr_os ?_
  refine qconsR nr_calls ?_
  refine qconsR nr_ifne ?_
  refine qconsR qNr_os ?_
  refine qconsR qNr_ret ?_
  refine qconsR qNr_os ?_
  refine qconsR nr_getR ?_
  refine qconsR nr_getR ?_
  refine qconsR qNr_os ?_
  refine qconsR nr_iaload ?_
  refine qconsR nr_istore ?_
  refine qconsR qNr_os ?_
  refine qconsR nr_getR ?_
  refine qconsR nr_getR ?_
  refine qconsR qNr_os ?_
  refine qconsR qNr_os ?_
  refine qconsR nr_iastore ?_
  refine qconsR qNr_os ?_
  refine qconsR qNr_ret ?_
  exact qnilR
theorem V_work {as : List qV} {h h' : qH} {v : qV} (e : S_X11_work as h = some (some v, h')) : ∃ z : Int, v = qI z := qchk_int (qM_R R_work e)
set_option maxRecDepth 20000 in
theorem R_home : ∀ q ∈ C_X11_home, qNr (some .int) q.2 := by
  unfold C_X11_home
  refine qconsR qNr_os ?_
  refine qconsR qNr_os ?_
  refine qconsR nr_callv ?_
  refine qconsR nr_ifne ?_
  refine qconsR qNr_os ?_
  refine qconsR qNr_ret ?_
  refine qconsR qNr_os ?_
  refine qconsR nr_getR ?_
  refine qconsR nr_getR ?_
  refine qconsR qNr_os ?_
  refine qconsR nr_zaload ?_
  refine qconsR nr_ifeq ?_
  refine qconsR qNr_os ?_
  refine qconsR nr_goto ?_
  refine qconsR qNr_os ?_
  refine qconsR nr_istore ?_
  refine qconsR qNr_os ?_
  refine qconsR nr_getR ?_
  refine qconsR nr_getR ?_
  refine qconsR qNr_os ?_
  refine qconsR qNr_os ?_
  refine qconsR nr_zastore ?_
  refine qconsR qNr_os ?_
  refine qconsR qNr_ret ?_
  exact qnilR
theorem V_home {as : List qV} {h h' : qH} {v : qV} (e : S_X11_home as h = some (some v, h')) : ∃ z : Int, v = qI z := qchk_int (qM_R R_home e)
set_option maxRecDepth 20000 in
theorem R_row : ∀ q ∈ C_X11_row, qNr (some .int) q.2 := by
  unfold C_X11_row
  refine qconsR qNr_os ?_
  refine qconsR qNr_os ?_
  refine qconsR nr_callv ?_
  refine qconsR nr_ifeq ?_
  refine qconsR qNr_os ?_
  refine qconsR qNr_os ?_
  refine qconsR nr_calls ?_
  refine qconsR nr_ifne ?_
  refine qconsR qNr_os ?_
  refine qconsR qNr_ret ?_
  refine qconsR qNr_os ?_
  refine qconsR qNr_os ?_
  refine qconsR nr_calls ?_
  refine qconsR nr_ifne ?_
  refine qconsR qNr_os ?_
  refine qconsR qNr_ret ?_
  refine qconsR qNr_os ?_
  refine qconsR nr_getR ?_
  refine qconsR nr_getR ?_
  refine qconsR qNr_os ?_
  refine qconsR nr_iaload ?_
  refine qconsR qNr_os ?_
  refine qconsR nr_iceq ?_
  refine qconsR qNr_os ?_
  refine qconsR qNr_ret ?_
  refine qconsR qNr_os ?_
  refine qconsR qNr_os ?_
  refine qconsR qNr_os ?_
  refine qconsR qNr_os ?_
  refine qconsR qNr_os ?_
  refine qconsR nr_istore ?_
  refine qconsR qNr_os ?_
  refine qconsR nr_getR ?_
  refine qconsR nr_getR ?_
  refine qconsR qNr_os ?_
  refine qconsR nr_iaload ?_
  refine qconsR nr_istore ?_
  refine qconsR qNr_os ?_
  refine qconsR nr_getR ?_
  refine qconsR nr_getR ?_
  refine qconsR qNr_os ?_
  refine qconsR qNr_os ?_
  refine qconsR nr_iastore ?_
  refine qconsR qNr_os ?_
  refine qconsR qNr_ret ?_
  exact qnilR
theorem V_row {as : List qV} {h h' : qH} {v : qV} (e : S_X11_row as h = some (some v, h')) : ∃ z : Int, v = qI z := qchk_int (qM_R R_row e)
set_option maxRecDepth 20000 in
theorem R_heap : ∀ q ∈ C_X11_heap, qNr (some .int) q.2 := by
  unfold C_X11_heap
  refine qconsR qNr_os ?_
  refine qconsR nr_calls ?_
  refine qconsR nr_ifne ?_
  refine qconsR qNr_os ?_
  refine qconsR qNr_ret ?_
  refine qconsR qNr_os ?_
  refine qconsR qNr_os ?_
  refine qconsR nr_calls ?_
  refine qconsR nr_ifne ?_
  refine qconsR qNr_os ?_
  refine qconsR qNr_ret ?_
  refine qconsR qNr_os ?_
  refine qconsR nr_getR ?_
  refine qconsR nr_getR ?_
  refine qconsR qNr_os ?_
  refine qconsR nr_iaload ?_
  refine qconsR nr_istore ?_
  refine qconsR qNr_os ?_
  refine qconsR nr_getR ?_
  refine qconsR nr_getR ?_
  refine qconsR qNr_os ?_
  refine qconsR qNr_os ?_
  refine qconsR nr_iastore ?_
  refine qconsR qNr_os ?_
  refine qconsR qNr_ret ?_
  exact qnilR
theorem V_heap {as : List qV} {h h' : qH} {v : qV} (e : S_X11_heap as h = some (some v, h')) : ∃ z : Int, v = qI z := qchk_int (qM_R R_heap e)
set_option maxRecDepth 20000 in
theorem R_feed : ∀ q ∈ C_X11_feed, qNr (some .int) q.2 := by
  unfold C_X11_feed
  refine qconsR qNr_os ?_
  refine qconsR qNr_os ?_
  refine qconsR nr_calls ?_
  refine qconsR nr_ifne ?_
  refine qconsR qNr_os ?_
  refine qconsR qNr_ret ?_
  refine qconsR qNr_os ?_
  refine qconsR nr_getI ?_
  refine qconsR qNr_os ?_
  refine qconsR nr_iclt ?_
  refine qconsR qNr_os ?_
  refine qconsR qNr_ret ?_
  refine qconsR qNr_os ?_
  refine qconsR nr_getR ?_
  refine qconsR qNr_os ?_
  refine qconsR nr_getI ?_
  refine qconsR qNr_os ?_
  refine qconsR qNr_os ?_
  refine qconsR nr_bastore ?_
  refine qconsR qNr_os ?_
  refine qconsR qNr_os ?_
  refine qconsR nr_getI ?_
  refine qconsR qNr_os ?_
  refine qconsR qNr_os ?_
  refine qconsR nr_putI ?_
  refine qconsR qNr_os ?_
  refine qconsR nr_getI ?_
  refine qconsR qNr_ret ?_
  exact qnilR
theorem V_feed {as : List qV} {h h' : qH} {v : qV} (e : S_X11_feed as h = some (some v, h')) : ∃ z : Int, v = qI z := qchk_int (qM_R R_feed e)
set_option maxRecDepth 20000 in
theorem R_hall : ∀ q ∈ C_X11_hall, qNr (some .int) q.2 := by
  unfold C_X11_hall
  refine qconsR qNr_os ?_
  refine qconsR nr_getI ?_
  refine qconsR qNr_os ?_
  refine qconsR nr_iclt ?_
  refine qconsR qNr_os ?_
  refine qconsR qNr_ret ?_
  refine qconsR qNr_os ?_
  refine qconsR nr_getR ?_
  refine qconsR qNr_os ?_
  refine qconsR nr_getI ?_
  refine qconsR nr_aaload ?_
  refine qconsR nr_astore ?_
  refine qconsR qNr_os ?_
  refine qconsR qNr_os ?_
  refine qconsR nr_getR ?_
  refine qconsR qNr_os ?_
  refine qconsR nr_getI ?_
  refine qconsR nr_callv ?_
  refine qconsR nr_istore ?_
  refine qconsR qNr_os ?_
  refine qconsR qNr_os ?_
  refine qconsR nr_putI ?_
  refine qconsR qNr_os ?_
  refine qconsR nr_ifne ?_
  refine qconsR qNr_os ?_
  refine qconsR qNr_os ?_
  refine qconsR nr_getI ?_
  refine qconsR qNr_os ?_
  refine qconsR qNr_ret ?_
  refine qconsR qNr_os ?_
  refine qconsR nr_getR ?_
  refine qconsR qNr_os ?_
  refine qconsR nr_callv ?_
  refine qconsR qNr_os ?_
  refine qconsR qNr_os ?_
  refine qconsR nr_getI ?_
  refine qconsR qNr_os ?_
  refine qconsR qNr_os ?_
  refine qconsR nr_putI ?_
  refine qconsR qNr_os ?_
  refine qconsR nr_getI ?_
  refine qconsR qNr_os ?_
  refine qconsR qNr_os ?_
  refine qconsR qNr_ret ?_
  exact qnilR
theorem V_hall {as : List qV} {h h' : qH} {v : qV} (e : S_X11_hall as h = some (some v, h')) : ∃ z : Int, v = qI z := qchk_int (qM_R R_hall e)
set_option maxRecDepth 20000 in
theorem R_told : ∀ q ∈ C_X11_told, qNr (some .int) q.2 := by
  unfold C_X11_told
  refine qconsR qNr_os ?_
  refine qconsR nr_tsw ?_
  refine qconsR qNr_os ?_
  refine qconsR nr_getR ?_
  refine qconsR nr_getI ?_
  refine qconsR qNr_ret ?_
  refine qconsR qNr_os ?_
  refine qconsR nr_getR ?_
  refine qconsR nr_getI ?_
  refine qconsR qNr_ret ?_
  refine qconsR qNr_os ?_
  refine qconsR nr_getR ?_
  refine qconsR nr_getD ?_
  refine qconsR nr_getI ?_
  refine qconsR qNr_ret ?_
  refine qconsR qNr_os ?_
  refine qconsR qNr_os ?_
  refine qconsR nr_iclt ?_
  refine qconsR qNr_os ?_
  refine qconsR qNr_os ?_
  refine qconsR nr_icge ?_
  refine qconsR qNr_os ?_
  refine qconsR nr_getR ?_
  refine qconsR nr_getR ?_
  refine qconsR qNr_os ?_
  refine qconsR qNr_os ?_
  refine qconsR qNr_os ?_
  refine qconsR nr_iaload ?_
  refine qconsR nr_goto ?_
  refine qconsR qNr_os ?_
  refine qconsR qNr_ret ?_
  exact qnilR
theorem V_told {as : List qV} {h h' : qH} {v : qV} (e : S_X11_told as h = some (some v, h')) : ∃ z : Int, v = qI z := qchk_int (qM_R R_told e)
set_option maxRecDepth 20000 in
theorem R_pass : ∀ q ∈ C_X11_pass, qNr (some .int) q.2 := by
  unfold C_X11_pass
  refine qconsR qNr_os ?_
  refine qconsR qNr_os ?_
  refine qconsR nr_calls ?_
  refine qconsR nr_ifne ?_
  refine qconsR qNr_os ?_
  refine qconsR qNr_ret ?_
  refine qconsR qNr_os ?_
  refine qconsR nr_getR ?_
  refine qconsR nr_getI ?_
  refine qconsR qNr_os ?_
  refine qconsR qNr_os ?_
  refine qconsR qNr_os ?_
  refine qconsR nr_icle ?_
  refine qconsR qNr_os ?_
  refine qconsR qNr_ret ?_
  refine qconsR qNr_os ?_
  refine qconsR nr_getR ?_
  refine qconsR qNr_os ?_
  refine qconsR nr_callv ?_
  refine qconsR qNr_ret ?_
  exact qnilR
theorem V_pass {as : List qV} {h h' : qH} {v : qV} (e : S_X11_pass as h = some (some v, h')) : ∃ z : Int, v = qI z := qchk_int (qM_R R_pass e)
set_option maxRecDepth 20000 in
theorem R_on : ∀ q ∈ C_X11_on, qNr (some .int) q.2 := by
  unfold C_X11_on
  refine qconsR qNr_os ?_
  refine qconsR qNr_os ?_
  refine qconsR nr_iclt ?_
  refine qconsR qNr_os ?_
  refine qconsR qNr_os ?_
  refine qconsR qNr_os ?_
  refine qconsR nr_calls ?_
  refine qconsR nr_ifeq ?_
  refine qconsR qNr_os ?_
  refine qconsR nr_goto ?_
  refine qconsR qNr_os ?_
  refine qconsR nr_istore ?_
  refine qconsR qNr_os ?_
  refine qconsR qNr_os ?_
  refine qconsR nr_iclt ?_
  refine qconsR qNr_os ?_
  refine qconsR qNr_os ?_
  refine qconsR nr_icge ?_
  refine qconsR qNr_os ?_
  refine qconsR qNr_os ?_
  refine qconsR qNr_os ?_
  refine qconsR qNr_os ?_
  refine qconsR nr_callv ?_
  refine qconsR nr_ifeq ?_
  refine qconsR qNr_os ?_
  refine qconsR nr_goto ?_
  refine qconsR qNr_os ?_
  refine qconsR nr_istore ?_
  refine qconsR qNr_os ?_
  refine qconsR nr_ifne ?_
  refine qconsR qNr_os ?_
  refine qconsR nr_ifne ?_
  refine qconsR qNr_os ?_
  refine qconsR qNr_ret ?_
  refine qconsR qNr_os ?_
  refine qconsR qNr_os ?_
  refine qconsR nr_calls ?_
  refine qconsR nr_ifne ?_
  refine qconsR qNr_os ?_
  refine qconsR qNr_ret ?_
  refine qconsR qNr_os ?_
  refine qconsR nr_getR ?_
  refine qconsR qNr_os ?_
  refine qconsR nr_getR ?_
  refine qconsR nr_callv ?_
  refine qconsR qNr_os ?_
  refine qconsR nr_getR ?_
  refine qconsR qNr_os ?_
  refine qconsR nr_callv ?_
  refine qconsR qNr_os ?_
  refine qconsR qNr_os ?_
  refine qconsR nr_ifeq ?_
  refine qconsR qNr_os ?_
  refine qconsR nr_getR ?_
  refine qconsR nr_getR ?_
  refine qconsR qNr_os ?_
  refine qconsR qNr_os ?_
  refine qconsR qNr_os ?_
  refine qconsR nr_iaload ?_
  refine qconsR qNr_ret ?_
  refine qconsR qNr_os ?_
  refine qconsR qNr_os ?_
  refine qconsR nr_icge ?_
  refine qconsR qNr_os ?_
  refine qconsR nr_getR ?_
  refine qconsR nr_getR ?_
  refine qconsR qNr_os ?_
  refine qconsR qNr_os ?_
  refine qconsR qNr_os ?_
  refine qconsR nr_iaload ?_
  refine qconsR nr_goto ?_
  refine qconsR qNr_os ?_
  refine qconsR nr_getR ?_
  refine qconsR nr_getR ?_
  refine qconsR qNr_os ?_
  refine qconsR qNr_os ?_
  refine qconsR qNr_os ?_
  refine qconsR nr_iaload ?_
  refine qconsR qNr_ret ?_
  exact qnilR
theorem V_on {as : List qV} {h h' : qH} {v : qV} (e : S_X11_on as h = some (some v, h')) : ∃ z : Int, v = qI z := qchk_int (qM_R R_on e)
set_option maxRecDepth 20000 in
theorem R_ready : ∀ q ∈ C_X11_ready, qNr (some .int) q.2 := by
  unfold C_X11_ready
  refine qconsR qNr_os ?_
  refine qconsR qNr_os ?_
  refine qconsR nr_calls ?_
  refine qconsR nr_ifne ?_
  refine qconsR qNr_os ?_
  refine qconsR qNr_ret ?_
  refine qconsR qNr_os ?_
  refine qconsR nr_getR ?_
  refine qconsR qNr_os ?_
  refine qconsR nr_getR ?_
  refine qconsR nr_callv ?_
  refine qconsR qNr_os ?_
  refine qconsR nr_istore ?_
  refine qconsR qNr_os ?_
  refine qconsR qNr_os ?_
  refine qconsR nr_icgt ?_
  refine qconsR qNr_os ?_
  refine qconsR nr_getR ?_
  refine qconsR nr_getR ?_
  refine qconsR qNr_os ?_
  refine qconsR nr_iaload ?_
  refine qconsR qNr_os ?_
  refine qconsR nr_iclt ?_
  refine qconsR qNr_os ?_
  refine qconsR qNr_ret ?_
  refine qconsR qNr_os ?_
  refine qconsR nr_getR ?_
  refine qconsR qNr_os ?_
  refine qconsR nr_callv ?_
  refine qconsR qNr_os ?_
  refine qconsR nr_iinc ?_
  refine qconsR nr_goto ?_
  refine qconsR qNr_os ?_
  refine qconsR qNr_ret ?_
  exact qnilR
theorem V_ready {as : List qV} {h h' : qH} {v : qV} (e : S_X11_ready as h = some (some v, h')) : ∃ z : Int, v = qI z := qchk_int (qM_R R_ready e)
set_option maxRecDepth 20000 in
theorem R_best : ∀ q ∈ C_X11_best, qNr (some .int) q.2 := by
  unfold C_X11_best
  refine qconsR qNr_os ?_
  refine qconsR nr_tsw ?_
  refine qconsR qNr_os ?_
  refine qconsR nr_callv ?_
  refine qconsR qNr_ret ?_
  refine qconsR qNr_os ?_
  refine qconsR nr_callv ?_
  refine qconsR qNr_ret ?_
  refine qconsR qNr_os ?_
  refine qconsR nr_callv ?_
  refine qconsR qNr_ret ?_
  refine qconsR qNr_os ?_
  refine qconsR nr_callv ?_
  refine qconsR qNr_ret ?_
  refine qconsR qNr_os ?_
  refine qconsR nr_callv ?_
  refine qconsR qNr_ret ?_
  refine qconsR qNr_os ?_
  refine qconsR qNr_ret ?_
  exact qnilR
theorem V_best {as : List qV} {h h' : qH} {v : qV} (e : S_X11_best as h = some (some v, h')) : ∃ z : Int, v = qI z := qchk_int (qM_R R_best e)
set_option maxRecDepth 20000 in
theorem R_when : ∀ q ∈ C_X11_when, qNr (some .int) q.2 := by
  unfold C_X11_when
  refine qconsR qNr_os ?_
  refine qconsR qNr_os ?_
  refine qconsR nr_callv ?_
  refine qconsR nr_ifeq ?_
  refine qconsR qNr_os ?_
  refine qconsR nr_calls ?_
  refine qconsR nr_ifne ?_
  refine qconsR qNr_os ?_
  refine qconsR qNr_ret ?_
  refine qconsR qNr_os ?_
  refine qconsR nr_istore ?_
  refine qconsR qNr_os ?_
  refine qconsR nr_istore ?_
  refine qconsR qNr_os ?_
  refine qconsR nr_istore ?_
  refine qconsR qNr_os ?_
  refine qconsR qNr_os ?_
  refine qconsR nr_icgt ?_
  refine qconsR qNr_os ?_
  refine qconsR nr_getR ?_
  refine qconsR qNr_os ?_
  refine qconsR nr_getR ?_
  refine qconsR nr_callv ?_
  refine qconsR qNr_os ?_
  refine qconsR nr_getR ?_
  refine qconsR qNr_os ?_
  refine qconsR nr_callv ?_
  refine qconsR qNr_os ?_
  refine qconsR qNr_os ?_
  refine qconsR nr_getR ?_
  refine qconsR nr_getR ?_
  refine qconsR qNr_os ?_
  refine qconsR qNr_os ?_
  refine qconsR nr_iastore ?_
  refine qconsR qNr_os ?_
  refine qconsR nr_getR ?_
  refine qconsR qNr_os ?_
  refine qconsR qNr_os ?_
  refine qconsR qNr_os ?_
  refine qconsR nr_callv ?_
  refine qconsR nr_istore ?_
  refine qconsR qNr_os ?_
  refine qconsR qNr_os ?_
  refine qconsR nr_icle ?_
  refine qconsR qNr_os ?_
  refine qconsR nr_istore ?_
  refine qconsR qNr_os ?_
  refine qconsR nr_istore ?_
  refine qconsR nr_iinc ?_
  refine qconsR nr_goto ?_
  refine qconsR qNr_os ?_
  refine qconsR qNr_ret ?_
  exact qnilR
theorem V_when {as : List qV} {h h' : qH} {v : qV} (e : S_X11_when as h = some (some v, h')) : ∃ z : Int, v = qI z := qchk_int (qM_R R_when e)
set_option maxRecDepth 20000 in
theorem R_without : ∀ q ∈ C_X11_without, qNr (some .int) q.2 := by
  unfold C_X11_without
  refine qconsR qNr_os ?_
  refine qconsR qNr_os ?_
  refine qconsR nr_callv ?_
  refine qconsR nr_ifeq ?_
  refine qconsR qNr_os ?_
  refine qconsR qNr_os ?_
  refine qconsR qNr_os ?_
  refine qconsR nr_callv ?_
  refine qconsR nr_goto ?_
  refine qconsR qNr_os ?_
  refine qconsR qNr_ret ?_
  exact qnilR
theorem V_without {as : List qV} {h h' : qH} {v : qV} (e : S_X11_without as h = some (some v, h')) : ∃ z : Int, v = qI z := qchk_int (qM_R R_without e)
set_option maxRecDepth 20000 in
theorem R_see : ∀ q ∈ C_X11_see, qNr (some .int) q.2 := by
  unfold C_X11_see
  refine qconsR qNr_os ?_
  refine qconsR qNr_os ?_
  refine qconsR nr_icne ?_
  refine qconsR qNr_os ?_
  refine qconsR nr_getR ?_
  refine qconsR qNr_os ?_
  refine qconsR nr_putI ?_
  refine qconsR qNr_os ?_
  refine qconsR qNr_ret ?_
  refine qconsR qNr_os ?_
  refine qconsR nr_calls ?_
  refine qconsR nr_ifne ?_
  refine qconsR qNr_os ?_
  refine qconsR qNr_ret ?_
  refine qconsR qNr_os ?_
  refine qconsR qNr_os ?_
  refine qconsR nr_calls ?_
  refine qconsR nr_ifeq ?_
  refine qconsR qNr_os ?_
  refine qconsR qNr_os ?_
  refine qconsR nr_calls ?_
  refine qconsR nr_ifne ?_
  refine qconsR qNr_os ?_
  refine qconsR qNr_ret ?_
  refine qconsR qNr_os ?_
  refine qconsR nr_getR ?_
  refine qconsR qNr_os ?_
  refine qconsR qNr_os ?_
  refine qconsR qNr_os ?_
  refine qconsR nr_callv ?_
  refine qconsR qNr_ret ?_
  exact qnilR
theorem V_see {as : List qV} {h h' : qH} {v : qV} (e : S_X11_see as h = some (some v, h')) : ∃ z : Int, v = qI z := qchk_int (qM_R R_see e)
set_option maxRecDepth 20000 in
theorem R_were : ∀ q ∈ C_X11_were, qNr (some .int) q.2 := by
  unfold C_X11_were
  refine qconsR qNr_os ?_
  refine qconsR nr_calls ?_
  refine qconsR nr_ifeq ?_
  refine qconsR qNr_os ?_
  refine qconsR qNr_os ?_
  refine qconsR nr_calls ?_
  refine qconsR nr_ifne ?_
  refine qconsR qNr_os ?_
  refine qconsR qNr_ret ?_
  refine qconsR qNr_os ?_
  refine qconsR qNr_os ?_
  refine qconsR nr_getR ?_
  refine qconsR nr_getR ?_
  refine qconsR qNr_os ?_
  refine qconsR qNr_os ?_
  refine qconsR qNr_os ?_
  refine qconsR nr_callv ?_
  refine qconsR qNr_ret ?_
  exact qnilR
theorem V_were {as : List qV} {h h' : qH} {v : qV} (e : S_X11_were as h = some (some v, h')) : ∃ z : Int, v = qI z := qchk_int (qM_R R_were e)
set_option maxRecDepth 20000 in
theorem R_can : ∀ q ∈ C_X11_can, qNr (some .int) q.2 := by
  unfold C_X11_can
  refine qconsR qNr_os ?_
  refine qconsR qNr_os ?_
  refine qconsR nr_callv ?_
  refine qconsR nr_ifeq ?_
  refine qconsR qNr_os ?_
  refine qconsR qNr_os ?_
  refine qconsR nr_calls ?_
  refine qconsR nr_ifne ?_
  refine qconsR qNr_os ?_
  refine qconsR qNr_ret ?_
  refine qconsR qNr_os ?_
  refine qconsR qNr_os ?_
  refine qconsR nr_getR ?_
  refine qconsR nr_getR ?_
  refine qconsR qNr_os ?_
  refine qconsR qNr_os ?_
  refine qconsR qNr_os ?_
  refine qconsR nr_callv ?_
  refine qconsR qNr_ret ?_
  exact qnilR
theorem V_can {as : List qV} {h h' : qH} {v : qV} (e : S_X11_can as h = some (some v, h')) : ∃ z : Int, v = qI z := qchk_int (qM_R R_can e)
