/-! The methods, and what each of their instructions asks -/
def mi_X0_init : MI := (yX0_init, cX0_init, 1, none)
def mi_X0_make : MI := (yX0_make, cX0_make, 4, none)
def mi_X0_moveBack : MI := (yX0_moveBack, cX0_moveBack, 5, some .int)
def mi_X1_init : MI := (yX1_init, cX1_init, 2, none)
def mi_X1_begin : MI := (yX1_begin, cX1_begin, 3, none)
def mi_X1_isVetoed : MI := (yX1_isVetoed, cX1_isVetoed, 1, some .boolean)
def mi_X2_init : MI := (yX2_init, cX2_init, 1, none)
def mi_X2_find : MI := (yX2_find, cX2_find, 2, some (.object "ShowDesk$Listener"))
def mi_X2_findFirst : MI := (yX2_findFirst, cX2_findFirst, 2, some (.object "ShowDesk$Listener"))
def mi_X2_isFull : MI := (yX2_isFull, cX2_isFull, 1, some .boolean)
def mi_X2_seat : MI := (yX2_seat, cX2_seat, 4, none)
def mi_X2_seatLike : MI := (yX2_seatLike, cX2_seatLike, 4, some .int)
def mi_X2_letGo : MI := (yX2_letGo, cX2_letGo, 2, none)
def mi_X2_sendAway : MI := (yX2_sendAway, cX2_sendAway, 3, some .int)
def mi_X2_nameTurn : MI := (yX2_nameTurn, cX2_nameTurn, 6, some .int)
def mi_X2_openScene : MI := (yX2_openScene, cX2_openScene, 1, some .int)
def mi_X2_hadScene : MI := (yX2_hadScene, cX2_hadScene, 2, some .boolean)
def mi_X2_isOpen : MI := (yX2_isOpen, cX2_isOpen, 2, some .boolean)
def mi_X2_admits : MI := (yX2_admits, cX2_admits, 2, some .boolean)
def mi_X2_shut : MI := (yX2_shut, cX2_shut, 5, some .int)
def mi_X3_init : MI := (yX3_init, cX3_init, 3, none)
def mi_X3_isUnder : MI := (yX3_isUnder, cX3_isUnder, 2, some .boolean)
def mi_X4_init : MI := (yX4_init, cX4_init, 1, none)
def mi_X4_find : MI := (yX4_find, cX4_find, 2, some (.object "ShowDesk$Kind"))
def mi_X4_add : MI := (yX4_add, cX4_add, 2, some .int)
def mi_X5_init : MI := (yX5_init, cX5_init, 6, none)
def mi_X5_hears : MI := (yX5_hears, cX5_hears, 2, some .boolean)
def mi_X5_lets : MI := (yX5_lets, cX5_lets, 3, some .boolean)
def mi_X5_isAheadOf : MI := (yX5_isAheadOf, cX5_isAheadOf, 2, some .boolean)
def mi_X6_init : MI := (yX6_init, cX6_init, 1, none)
def mi_X6_add : MI := (yX6_add, cX6_add, 3, some .boolean)
def mi_X6_takeOver : MI := (yX6_takeOver, cX6_takeOver, 3, none)
def mi_X7_init : MI := (yX7_init, cX7_init, 1, none)
def mi_X7_begin : MI := (yX7_begin, cX7_begin, 1, none)
def mi_X7_addCue : MI := (yX7_addCue, cX7_addCue, 2, none)
def mi_X7_addLogged : MI := (yX7_addLogged, cX7_addLogged, 3, none)
def mi_X7_addFailure : MI := (yX7_addFailure, cX7_addFailure, 4, none)
def mi_X7_isHushed : MI := (yX7_isHushed, cX7_isHushed, 1, some .boolean)
def mi_X8_init : MI := (yX8_init, cX8_init, 2, none)
def mi_X8_tellAll : MI := (yX8_tellAll, cX8_tellAll, 9, some .int)
def mi_X8_tell : MI := (yX8_tell, cX8_tell, 8, none)
def mi_X8_tellListener : MI := (yX8_tellListener, cX8_tellListener, 6, none)
def mi_X8_doStep : MI := (yX8_doStep, cX8_doStep, 5, some .int)
def mi_X8_divide : MI := (yX8_divide, cX8_divide, 3, some .int)
def mi_X8_takeRemainder : MI := (yX8_takeRemainder, cX8_takeRemainder, 3, some .int)
def mi_X8_tellNow : MI := (yX8_tellNow, cX8_tellNow, 5, some .int)
def mi_X8_tellLater : MI := (yX8_tellLater, cX8_tellLater, 4, some .int)
def mi_X8_closeScene : MI := (yX8_closeScene, cX8_closeScene, 2, some .int)
def mi_X8_touchTray : MI := (yX8_touchTray, cX8_touchTray, 7, some .int)
def mi_X8_chooseTray : MI := (yX8_chooseTray, cX8_chooseTray, 3, some .int)
def mi_X9_init : MI := (yX9_init, cX9_init, 1, none)
def mi_X9_renew : MI := (yX9_renew, cX9_renew, 4, none)
def mi_X9_layInts : MI := (yX9_layInts, cX9_layInts, 2, some .int)
def mi_X9_hasCell : MI := (yX9_hasCell, cX9_hasCell, 2, some .boolean)
def mi_X9_put : MI := (yX9_put, cX9_put, 4, none)
def mi_X9_faultAsInts : MI := (yX9_faultAsInts, cX9_faultAsInts, 2, some .int)
def mi_X10_init : MI := (yX10_init, cX10_init, 1, none)
def mi_X10_add : MI := (yX10_add, cX10_add, 5, some .boolean)
def mi_X10_firstKind : MI := (yX10_firstKind, cX10_firstKind, 1, some (.object "ShowDesk$Kind"))
def mi_X10_firstValue : MI := (yX10_firstValue, cX10_firstValue, 1, some .long)
def mi_X10_dropFirst : MI := (yX10_dropFirst, cX10_dropFirst, 1, none)
def mi_X10_forget : MI := (yX10_forget, cX10_forget, 1, none)
def mi_X11_init : MI := (yX11_init, cX11_init, 1, none)
def mi_X11_kind : MI := (yX11_kind, cX11_kind, 3, some .int)
def mi_X11_scene : MI := (yX11_scene, cX11_scene, 1, some .int)
def mi_X11_close : MI := (yX11_close, cX11_close, 2, some .int)
def mi_X11_listen : MI := (yX11_listen, cX11_listen, 7, some .int)
def mi_X11_filter : MI := (yX11_filter, cX11_filter, 7, some .int)
def mi_X11_once : MI := (yX11_once, cX11_once, 5, some .int)
def mi_X11_step : MI := (yX11_step, cX11_step, 5, some .int)
def mi_X11_leave : MI := (yX11_leave, cX11_leave, 3, some .int)
def mi_X11_tray : MI := (yX11_tray, cX11_tray, 5, some .int)
def mi_X11_lay : MI := (yX11_lay, cX11_lay, 6, some .int)
def mi_X11_cell : MI := (yX11_cell, cX11_cell, 4, some .long)
def mi_X11_cells : MI := (yX11_cells, cX11_cells, 3, some .int)
def mi_X11_send : MI := (yX11_send, cX11_send, 5, some .int)
def mi_X11_told : MI := (yX11_told, cX11_told, 2, some .int)
def mi_X11_value : MI := (yX11_value, cX11_value, 1, some .long)
def mi_X11_logged : MI := (yX11_logged, cX11_logged, 2, some .long)
def mi_X11_failure : MI := (yX11_failure, cX11_failure, 3, some .int)
def mi_X11_meter : MI := (yX11_meter, cX11_meter, 3, some .long)
def mi_X11_back : MI := (yX11_back, cX11_back, 2, some .int)
def mi_X11_listener : MI := (yX11_listener, cX11_listener, 4, some .int)
def mi_X11_turn : MI := (yX11_turn, cX11_turn, 5, some .int)
def mi_X11_under : MI := (yX11_under, cX11_under, 5, some .int)
def mi_X11_count : MI := (yX11_count, cX11_count, 2, some .int)
def mi_X11_isPhase : MI := (yX11_isPhase, cX11_isPhase, 1, some .boolean)
def mi_X11_findTray : MI := (yX11_findTray, cX11_findTray, 2, some (.object "ShowDesk$Tray"))
def mi_X11_asNumber : MI := (yX11_asNumber, cX11_asNumber, 1, some .int)
def mi_X12_init : MI := (yX12_init, cX12_init, 1, none)
def mi_X12_in : MI := (yX12_in, cX12_in, 6, some .boolean)
def mi_X12_isKind : MI := (yX12_isKind, cX12_isKind, 2, some .boolean)
def mi_X12_isListener : MI := (yX12_isListener, cX12_isListener, 2, some .boolean)
def mi_X12_kind : MI := (yX12_kind, cX12_kind, 4, some .int)
def mi_X12_scene : MI := (yX12_scene, cX12_scene, 1, some .int)
def mi_X12_shut : MI := (yX12_shut, cX12_shut, 4, some .int)
def mi_X12_close : MI := (yX12_close, cX12_close, 2, some .int)
def mi_X12_listen : MI := (yX12_listen, cX12_listen, 6, some .int)
def mi_X12_filter : MI := (yX12_filter, cX12_filter, 6, some .int)
def mi_X12_once : MI := (yX12_once, cX12_once, 4, some .int)
def mi_X12_step : MI := (yX12_step, cX12_step, 4, some .int)
def mi_X12_leave : MI := (yX12_leave, cX12_leave, 2, some .int)
def mi_X12_lay1 : MI := (yX12_lay1, cX12_lay1, 5, none)
def mi_X12_tray : MI := (yX12_tray, cX12_tray, 4, some .int)
def mi_X12_lay : MI := (yX12_lay, cX12_lay, 5, some .int)
def mi_X12_cell : MI := (yX12_cell, cX12_cell, 3, some .long)
def mi_X12_cells : MI := (yX12_cells, cX12_cells, 2, some .int)
def mi_X12_above : MI := (yX12_above, cX12_above, 5, some .int)
def mi_X12_isAhead : MI := (yX12_isAhead, cX12_isAhead, 6, some .boolean)
def mi_X12_findTurns : MI := (yX12_findTurns, cX12_findTurns, 5, none)
def mi_X12_beginPhase : MI := (yX12_beginPhase, cX12_beginPhase, 4, none)
def mi_X12_begin : MI := (yX12_begin, cX12_begin, 5, none)
def mi_X12_act : MI := (yX12_act, cX12_act, 3, none)
def mi_X12_ends : MI := (yX12_ends, cX12_ends, 3, none)
def mi_X12_fails : MI := (yX12_fails, cX12_fails, 3, none)
def mi_X12_against : MI := (yX12_against, cX12_against, 3, some .int)
def mi_X12_does : MI := (yX12_does, cX12_does, 9, none)
def mi_X12_doesMore : MI := (yX12_doesMore, cX12_doesMore, 7, some .int)
def mi_X12_trays : MI := (yX12_trays, cX12_trays, 8, some .int)
def mi_X12_goOn : MI := (yX12_goOn, cX12_goOn, 5, none)
def mi_X12_send : MI := (yX12_send, cX12_send, 8, some .int)
def mi_X12_told : MI := (yX12_told, cX12_told, 2, some .int)
def mi_X12_value : MI := (yX12_value, cX12_value, 1, some .long)
def mi_X12_logged : MI := (yX12_logged, cX12_logged, 2, some .long)
def mi_X12_failure : MI := (yX12_failure, cX12_failure, 3, some .int)
def mi_X12_meter : MI := (yX12_meter, cX12_meter, 2, some .long)
def mi_X12_back : MI := (yX12_back, cX12_back, 3, some .int)
def mi_X12_listener : MI := (yX12_listener, cX12_listener, 3, some .int)
def mi_X12_turn : MI := (yX12_turn, cX12_turn, 4, some .int)
def mi_X12_under : MI := (yX12_under, cX12_under, 3, some .int)
def mi_X12_count : MI := (yX12_count, cX12_count, 5, some .int)
def mi_Math_max : MI := (⟨"java/lang/Math", "max", "(II)I"⟩, prog_15_method_65_code, 2, some .int)
def mi_Math_min : MI := (⟨"java/lang/Math", "min", "(II)I"⟩, prog_15_method_69_code, 2, some .int)
def mis : List MI := [mi_X0_init, mi_X0_make, mi_X0_moveBack, mi_X1_init, mi_X1_begin, mi_X1_isVetoed, mi_X2_init, mi_X2_find, mi_X2_findFirst, mi_X2_isFull, mi_X2_seat, mi_X2_seatLike, mi_X2_letGo, mi_X2_sendAway, mi_X2_nameTurn, mi_X2_openScene, mi_X2_hadScene, mi_X2_isOpen, mi_X2_admits, mi_X2_shut, mi_X3_init, mi_X3_isUnder, mi_X4_init, mi_X4_find, mi_X4_add, mi_X5_init, mi_X5_hears, mi_X5_lets, mi_X5_isAheadOf, mi_X6_init, mi_X6_add, mi_X6_takeOver, mi_X7_init, mi_X7_begin, mi_X7_addCue, mi_X7_addLogged, mi_X7_addFailure, mi_X7_isHushed, mi_X8_init, mi_X8_tellAll, mi_X8_tell, mi_X8_tellListener, mi_X8_doStep, mi_X8_divide, mi_X8_takeRemainder, mi_X8_tellNow, mi_X8_tellLater, mi_X8_closeScene, mi_X8_touchTray, mi_X8_chooseTray, mi_X9_init, mi_X9_renew, mi_X9_layInts, mi_X9_hasCell, mi_X9_put, mi_X9_faultAsInts, mi_X10_init, mi_X10_add, mi_X10_firstKind, mi_X10_firstValue, mi_X10_dropFirst, mi_X10_forget, mi_X11_init, mi_X11_kind, mi_X11_scene, mi_X11_close, mi_X11_listen, mi_X11_filter, mi_X11_once, mi_X11_step, mi_X11_leave, mi_X11_tray, mi_X11_lay, mi_X11_cell, mi_X11_cells, mi_X11_send, mi_X11_told, mi_X11_value, mi_X11_logged, mi_X11_failure, mi_X11_meter, mi_X11_back, mi_X11_listener, mi_X11_turn, mi_X11_under, mi_X11_count, mi_X11_isPhase, mi_X11_findTray, mi_X11_asNumber, mi_X12_init, mi_X12_in, mi_X12_isKind, mi_X12_isListener, mi_X12_kind, mi_X12_scene, mi_X12_shut, mi_X12_close, mi_X12_listen, mi_X12_filter, mi_X12_once, mi_X12_step, mi_X12_leave, mi_X12_lay1, mi_X12_tray, mi_X12_lay, mi_X12_cell, mi_X12_cells, mi_X12_above, mi_X12_isAhead, mi_X12_findTurns, mi_X12_beginPhase, mi_X12_begin, mi_X12_act, mi_X12_ends, mi_X12_fails, mi_X12_against, mi_X12_does, mi_X12_doesMore, mi_X12_trays, mi_X12_goOn, mi_X12_send, mi_X12_told, mi_X12_value, mi_X12_logged, mi_X12_failure, mi_X12_meter, mi_X12_back, mi_X12_listener, mi_X12_turn, mi_X12_under, mi_X12_count, mi_Math_max, mi_Math_min]
def mi (i : Nat) : MI := (mis[i]?).getD mi_X0_init
def Snd (D : DD) (d : Nat) (C : Nat → Sp) : Prop := ∀ i av M Q, C i av M Q → Call D d (mi i) av M Q
set_option maxRecDepth 20000 in
theorem mok_X0_init : MOk mi_X0_init 0 := ⟨(gm 114 rfl rfl), (gm 32 (by decide +kernel) rfl), ⟨by decide +kernel, by decide +kernel, by decide +kernel⟩, by decide⟩
set_option maxRecDepth 20000 in
theorem mok_X0_make : MOk mi_X0_make 2 := ⟨(gm 575 rfl rfl), (gm 32 (by decide +kernel) rfl), ⟨by decide +kernel, by decide +kernel, by decide +kernel⟩, by decide⟩
set_option maxRecDepth 20000 in
theorem mok_X0_moveBack : MOk mi_X0_moveBack 1 := ⟨(gm 723 rfl rfl), (gm 32 (by decide +kernel) rfl), ⟨by decide +kernel, by decide +kernel, by decide +kernel⟩, by decide⟩
set_option maxRecDepth 20000 in
theorem mok_X1_init : MOk mi_X1_init 1 := ⟨(gm 237 rfl rfl), (gm 36 (by decide +kernel) rfl), ⟨by decide +kernel, by decide +kernel, by decide +kernel⟩, by decide⟩
set_option maxRecDepth 20000 in
theorem mok_X1_begin : MOk mi_X1_begin 1 := ⟨(gm 564 rfl rfl), (gm 36 (by decide +kernel) rfl), ⟨by decide +kernel, by decide +kernel, by decide +kernel⟩, by decide⟩
set_option maxRecDepth 20000 in
theorem mok_X1_isVetoed : MOk mi_X1_isVetoed 0 := ⟨(gm 642 rfl rfl), (gm 36 (by decide +kernel) rfl), ⟨by decide +kernel, by decide +kernel, by decide +kernel⟩, by decide⟩
set_option maxRecDepth 20000 in
theorem mok_X2_init : MOk mi_X2_init 0 := ⟨(gm 76 rfl rfl), (gm 31 (by decide +kernel) rfl), ⟨by decide +kernel, by decide +kernel, by decide +kernel⟩, by decide⟩
set_option maxRecDepth 20000 in
theorem mok_X2_find : MOk mi_X2_find 1 := ⟨(gm 492 rfl rfl), (gm 31 (by decide +kernel) rfl), ⟨by decide +kernel, by decide +kernel, by decide +kernel⟩, by decide⟩
set_option maxRecDepth 20000 in
theorem mok_X2_findFirst : MOk mi_X2_findFirst 1 := ⟨(gm 579 rfl rfl), (gm 31 (by decide +kernel) rfl), ⟨by decide +kernel, by decide +kernel, by decide +kernel⟩, by decide⟩
set_option maxRecDepth 20000 in
theorem mok_X2_isFull : MOk mi_X2_isFull 0 := ⟨(gm 381 rfl rfl), (gm 31 (by decide +kernel) rfl), ⟨by decide +kernel, by decide +kernel, by decide +kernel⟩, by decide⟩
set_option maxRecDepth 20000 in
theorem mok_X2_seat : MOk mi_X2_seat 1 := ⟨(gm 478 rfl rfl), (gm 31 (by decide +kernel) rfl), ⟨by decide +kernel, by decide +kernel, by decide +kernel⟩, by decide⟩
set_option maxRecDepth 20000 in
theorem mok_X2_seatLike : MOk mi_X2_seatLike 1 := ⟨(gm 620 rfl rfl), (gm 31 (by decide +kernel) rfl), ⟨by decide +kernel, by decide +kernel, by decide +kernel⟩, by decide⟩
set_option maxRecDepth 20000 in
theorem mok_X2_letGo : MOk mi_X2_letGo 1 := ⟨(gm 366 rfl rfl), (gm 31 (by decide +kernel) rfl), ⟨by decide +kernel, by decide +kernel, by decide +kernel⟩, by decide⟩
set_option maxRecDepth 20000 in
theorem mok_X2_sendAway : MOk mi_X2_sendAway 1 := ⟨(gm 633 rfl rfl), (gm 31 (by decide +kernel) rfl), ⟨by decide +kernel, by decide +kernel, by decide +kernel⟩, by decide⟩
set_option maxRecDepth 20000 in
theorem mok_X2_nameTurn : MOk mi_X2_nameTurn 3 := ⟨(gm 738 rfl rfl), (gm 31 (by decide +kernel) rfl), ⟨by decide +kernel, by decide +kernel, by decide +kernel⟩, by decide⟩
set_option maxRecDepth 20000 in
theorem mok_X2_openScene : MOk mi_X2_openScene 0 := ⟨(gm 345 rfl rfl), (gm 31 (by decide +kernel) rfl), ⟨by decide +kernel, by decide +kernel, by decide +kernel⟩, by decide⟩
set_option maxRecDepth 20000 in
theorem mok_X2_hadScene : MOk mi_X2_hadScene 1 := ⟨(gm 353 rfl rfl), (gm 31 (by decide +kernel) rfl), ⟨by decide +kernel, by decide +kernel, by decide +kernel⟩, by decide⟩
set_option maxRecDepth 20000 in
theorem mok_X2_isOpen : MOk mi_X2_isOpen 1 := ⟨(gm 357 rfl rfl), (gm 31 (by decide +kernel) rfl), ⟨by decide +kernel, by decide +kernel, by decide +kernel⟩, by decide⟩
set_option maxRecDepth 20000 in
theorem mok_X2_admits : MOk mi_X2_admits 1 := ⟨(gm 377 rfl rfl), (gm 31 (by decide +kernel) rfl), ⟨by decide +kernel, by decide +kernel, by decide +kernel⟩, by decide⟩
set_option maxRecDepth 20000 in
theorem mok_X2_shut : MOk mi_X2_shut 1 := ⟨(gm 361 rfl rfl), (gm 31 (by decide +kernel) rfl), ⟨by decide +kernel, by decide +kernel, by decide +kernel⟩, by decide⟩
set_option maxRecDepth 20000 in
theorem mok_X3_init : MOk mi_X3_init 2 := ⟨(gm 319 rfl rfl), (gm 38 (by decide +kernel) rfl), ⟨by decide +kernel, by decide +kernel, by decide +kernel⟩, by decide⟩
set_option maxRecDepth 20000 in
theorem mok_X3_isUnder : MOk mi_X3_isUnder 1 := ⟨(gm 591 rfl rfl), (gm 38 (by decide +kernel) rfl), ⟨by decide +kernel, by decide +kernel, by decide +kernel⟩, by decide⟩
set_option maxRecDepth 20000 in
theorem mok_X4_init : MOk mi_X4_init 0 := ⟨(gm 60 rfl rfl), (gm 30 (by decide +kernel) rfl), ⟨by decide +kernel, by decide +kernel, by decide +kernel⟩, by decide⟩
set_option maxRecDepth 20000 in
theorem mok_X4_find : MOk mi_X4_find 1 := ⟨(gm 311 rfl rfl), (gm 30 (by decide +kernel) rfl), ⟨by decide +kernel, by decide +kernel, by decide +kernel⟩, by decide⟩
set_option maxRecDepth 20000 in
theorem mok_X4_add : MOk mi_X4_add 1 := ⟨(gm 315 rfl rfl), (gm 30 (by decide +kernel) rfl), ⟨by decide +kernel, by decide +kernel, by decide +kernel⟩, by decide⟩
set_option maxRecDepth 20000 in
theorem mok_X5_init : MOk mi_X5_init 5 := ⟨(gm 386 rfl rfl), (gm 39 (by decide +kernel) rfl), ⟨by decide +kernel, by decide +kernel, by decide +kernel⟩, by decide⟩
set_option maxRecDepth 20000 in
theorem mok_X5_hears : MOk mi_X5_hears 1 := ⟨(gm 587 rfl rfl), (gm 39 (by decide +kernel) rfl), ⟨by decide +kernel, by decide +kernel, by decide +kernel⟩, by decide⟩
set_option maxRecDepth 20000 in
theorem mok_X5_lets : MOk mi_X5_lets 1 := ⟨(gm 595 rfl rfl), (gm 39 (by decide +kernel) rfl), ⟨by decide +kernel, by decide +kernel, by decide +kernel⟩, by decide⟩
set_option maxRecDepth 20000 in
theorem mok_X5_isAheadOf : MOk mi_X5_isAheadOf 1 := ⟨(gm 484 rfl rfl), (gm 39 (by decide +kernel) rfl), ⟨by decide +kernel, by decide +kernel, by decide +kernel⟩, by decide⟩
set_option maxRecDepth 20000 in
theorem mok_X6_init : MOk mi_X6_init 0 := ⟨(gm 392 rfl rfl), (gm 40 (by decide +kernel) rfl), ⟨by decide +kernel, by decide +kernel, by decide +kernel⟩, by decide⟩
set_option maxRecDepth 20000 in
theorem mok_X6_add : MOk mi_X6_add 2 := ⟨(gm 507 rfl rfl), (gm 40 (by decide +kernel) rfl), ⟨by decide +kernel, by decide +kernel, by decide +kernel⟩, by decide⟩
set_option maxRecDepth 20000 in
theorem mok_X6_takeOver : MOk mi_X6_takeOver 1 := ⟨(gm 627 rfl rfl), (gm 40 (by decide +kernel) rfl), ⟨by decide +kernel, by decide +kernel, by decide +kernel⟩, by decide⟩
set_option maxRecDepth 20000 in
theorem mok_X7_init : MOk mi_X7_init 0 := ⟨(gm 136 rfl rfl), (gm 33 (by decide +kernel) rfl), ⟨by decide +kernel, by decide +kernel, by decide +kernel⟩, by decide⟩
set_option maxRecDepth 20000 in
theorem mok_X7_begin : MOk mi_X7_begin 0 := ⟨(gm 556 rfl rfl), (gm 33 (by decide +kernel) rfl), ⟨by decide +kernel, by decide +kernel, by decide +kernel⟩, by decide⟩
set_option maxRecDepth 20000 in
theorem mok_X7_addCue : MOk mi_X7_addCue 1 := ⟨(gm 568 rfl rfl), (gm 33 (by decide +kernel) rfl), ⟨by decide +kernel, by decide +kernel, by decide +kernel⟩, by decide⟩
set_option maxRecDepth 20000 in
theorem mok_X7_addLogged : MOk mi_X7_addLogged 1 := ⟨(gm 616 rfl rfl), (gm 33 (by decide +kernel) rfl), ⟨by decide +kernel, by decide +kernel, by decide +kernel⟩, by decide⟩
set_option maxRecDepth 20000 in
theorem mok_X7_addFailure : MOk mi_X7_addFailure 3 := ⟨(gm 679 rfl rfl), (gm 33 (by decide +kernel) rfl), ⟨by decide +kernel, by decide +kernel, by decide +kernel⟩, by decide⟩
set_option maxRecDepth 20000 in
theorem mok_X7_isHushed : MOk mi_X7_isHushed 0 := ⟨(gm 583 rfl rfl), (gm 33 (by decide +kernel) rfl), ⟨by decide +kernel, by decide +kernel, by decide +kernel⟩, by decide⟩
set_option maxRecDepth 20000 in
theorem mok_X8_init : MOk mi_X8_init 0 := ⟨(gm 54 rfl rfl), (gm 29 (by decide +kernel) rfl), ⟨by decide +kernel, by decide +kernel, by decide +kernel⟩, by decide⟩
set_option maxRecDepth 20000 in
theorem mok_X8_tellAll : MOk mi_X8_tellAll 2 := ⟨(gm 552 rfl rfl), (gm 29 (by decide +kernel) rfl), ⟨by decide +kernel, by decide +kernel, by decide +kernel⟩, by decide⟩
set_option maxRecDepth 20000 in
theorem mok_X8_tell : MOk mi_X8_tell 3 := ⟨(gm 560 rfl rfl), (gm 29 (by decide +kernel) rfl), ⟨by decide +kernel, by decide +kernel, by decide +kernel⟩, by decide⟩
set_option maxRecDepth 20000 in
theorem mok_X8_tellListener : MOk mi_X8_tellListener 2 := ⟨(gm 599 rfl rfl), (gm 29 (by decide +kernel) rfl), ⟨by decide +kernel, by decide +kernel, by decide +kernel⟩, by decide⟩
set_option maxRecDepth 20000 in
theorem mok_X8_doStep : MOk mi_X8_doStep 4 := ⟨(gm 604 rfl rfl), (gm 29 (by decide +kernel) rfl), ⟨by decide +kernel, by decide +kernel, by decide +kernel⟩, by decide⟩
set_option maxRecDepth 20000 in
theorem mok_X8_divide : MOk mi_X8_divide 2 := ⟨(gm 608 rfl rfl), (gm 29 (by decide +kernel) rfl), ⟨by decide +kernel, by decide +kernel, by decide +kernel⟩, by decide⟩
set_option maxRecDepth 20000 in
theorem mok_X8_takeRemainder : MOk mi_X8_takeRemainder 2 := ⟨(gm 612 rfl rfl), (gm 29 (by decide +kernel) rfl), ⟨by decide +kernel, by decide +kernel, by decide +kernel⟩, by decide⟩
set_option maxRecDepth 20000 in
theorem mok_X8_tellNow : MOk mi_X8_tellNow 2 := ⟨(gm 637 rfl rfl), (gm 29 (by decide +kernel) rfl), ⟨by decide +kernel, by decide +kernel, by decide +kernel⟩, by decide⟩
set_option maxRecDepth 20000 in
theorem mok_X8_tellLater : MOk mi_X8_tellLater 2 := ⟨(gm 646 rfl rfl), (gm 29 (by decide +kernel) rfl), ⟨by decide +kernel, by decide +kernel, by decide +kernel⟩, by decide⟩
set_option maxRecDepth 20000 in
theorem mok_X8_closeScene : MOk mi_X8_closeScene 1 := ⟨(gm 654 rfl rfl), (gm 29 (by decide +kernel) rfl), ⟨by decide +kernel, by decide +kernel, by decide +kernel⟩, by decide⟩
set_option maxRecDepth 20000 in
theorem mok_X8_touchTray : MOk mi_X8_touchTray 4 := ⟨(gm 660 rfl rfl), (gm 29 (by decide +kernel) rfl), ⟨by decide +kernel, by decide +kernel, by decide +kernel⟩, by decide⟩
set_option maxRecDepth 20000 in
theorem mok_X8_chooseTray : MOk mi_X8_chooseTray 2 := ⟨(gm 664 rfl rfl), (gm 29 (by decide +kernel) rfl), ⟨by decide +kernel, by decide +kernel, by decide +kernel⟩, by decide⟩
set_option maxRecDepth 20000 in
theorem mok_X9_init : MOk mi_X9_init 0 := ⟨(gm 218 rfl rfl), (gm 35 (by decide +kernel) rfl), ⟨by decide +kernel, by decide +kernel, by decide +kernel⟩, by decide⟩
set_option maxRecDepth 20000 in
theorem mok_X9_renew : MOk mi_X9_renew 2 := ⟨(gm 523 rfl rfl), (gm 35 (by decide +kernel) rfl), ⟨by decide +kernel, by decide +kernel, by decide +kernel⟩, by decide⟩
set_option maxRecDepth 20000 in
theorem mok_X9_layInts : MOk mi_X9_layInts 1 := ⟨(gm 669 rfl rfl), (gm 35 (by decide +kernel) rfl), ⟨by decide +kernel, by decide +kernel, by decide +kernel⟩, by decide⟩
set_option maxRecDepth 20000 in
theorem mok_X9_hasCell : MOk mi_X9_hasCell 1 := ⟨(gm 531 rfl rfl), (gm 35 (by decide +kernel) rfl), ⟨by decide +kernel, by decide +kernel, by decide +kernel⟩, by decide⟩
set_option maxRecDepth 20000 in
theorem mok_X9_put : MOk mi_X9_put 2 := ⟨(gm 535 rfl rfl), (gm 35 (by decide +kernel) rfl), ⟨by decide +kernel, by decide +kernel, by decide +kernel⟩, by decide⟩
set_option maxRecDepth 20000 in
theorem mok_X9_faultAsInts : MOk mi_X9_faultAsInts 1 := ⟨(gm 674 rfl rfl), (gm 35 (by decide +kernel) rfl), ⟨by decide +kernel, by decide +kernel, by decide +kernel⟩, by decide⟩
set_option maxRecDepth 20000 in
theorem mok_X10_init : MOk mi_X10_init 0 := ⟨(gm 196 rfl rfl), (gm 34 (by decide +kernel) rfl), ⟨by decide +kernel, by decide +kernel, by decide +kernel⟩, by decide⟩
set_option maxRecDepth 20000 in
theorem mok_X10_add : MOk mi_X10_add 2 := ⟨(gm 650 rfl rfl), (gm 34 (by decide +kernel) rfl), ⟨by decide +kernel, by decide +kernel, by decide +kernel⟩, by decide⟩
set_option maxRecDepth 20000 in
theorem mok_X10_firstKind : MOk mi_X10_firstKind 0 := ⟨(gm 683 rfl rfl), (gm 34 (by decide +kernel) rfl), ⟨by decide +kernel, by decide +kernel, by decide +kernel⟩, by decide⟩
set_option maxRecDepth 20000 in
theorem mok_X10_firstValue : MOk mi_X10_firstValue 0 := ⟨(gm 687 rfl rfl), (gm 34 (by decide +kernel) rfl), ⟨by decide +kernel, by decide +kernel, by decide +kernel⟩, by decide⟩
set_option maxRecDepth 20000 in
theorem mok_X10_dropFirst : MOk mi_X10_dropFirst 0 := ⟨(gm 691 rfl rfl), (gm 34 (by decide +kernel) rfl), ⟨by decide +kernel, by decide +kernel, by decide +kernel⟩, by decide⟩
set_option maxRecDepth 20000 in
theorem mok_X10_forget : MOk mi_X10_forget 0 := ⟨(gm 695 rfl rfl), (gm 34 (by decide +kernel) rfl), ⟨by decide +kernel, by decide +kernel, by decide +kernel⟩, by decide⟩
set_option maxRecDepth 20000 in
theorem mok_X11_init : MOk mi_X11_init 0 := ⟨(gm 46 rfl rfl), (gm 28 (by decide +kernel) rfl), ⟨by decide +kernel, by decide +kernel, by decide +kernel⟩, by decide⟩
set_option maxRecDepth 20000 in
theorem mok_X11_kind : MOk mi_X11_kind 1 := ⟨(gm 307 rfl rfl), (gm 28 (by decide +kernel) rfl), ⟨by decide +kernel, by decide +kernel, by decide +kernel⟩, by decide⟩
set_option maxRecDepth 20000 in
theorem mok_X11_scene : MOk mi_X11_scene 0 := ⟨(gm 341 rfl rfl), (gm 28 (by decide +kernel) rfl), ⟨by decide +kernel, by decide +kernel, by decide +kernel⟩, by decide⟩
set_option maxRecDepth 20000 in
theorem mok_X11_close : MOk mi_X11_close 1 := ⟨(gm 349 rfl rfl), (gm 28 (by decide +kernel) rfl), ⟨by decide +kernel, by decide +kernel, by decide +kernel⟩, by decide⟩
set_option maxRecDepth 20000 in
theorem mok_X11_listen : MOk mi_X11_listen 4 := ⟨(gm 370 rfl rfl), (gm 28 (by decide +kernel) rfl), ⟨by decide +kernel, by decide +kernel, by decide +kernel⟩, by decide⟩
set_option maxRecDepth 20000 in
theorem mok_X11_filter : MOk mi_X11_filter 3 := ⟨(gm 488 rfl rfl), (gm 28 (by decide +kernel) rfl), ⟨by decide +kernel, by decide +kernel, by decide +kernel⟩, by decide⟩
set_option maxRecDepth 20000 in
theorem mok_X11_once : MOk mi_X11_once 2 := ⟨(gm 496 rfl rfl), (gm 28 (by decide +kernel) rfl), ⟨by decide +kernel, by decide +kernel, by decide +kernel⟩, by decide⟩
set_option maxRecDepth 20000 in
theorem mok_X11_step : MOk mi_X11_step 3 := ⟨(gm 503 rfl rfl), (gm 28 (by decide +kernel) rfl), ⟨by decide +kernel, by decide +kernel, by decide +kernel⟩, by decide⟩
set_option maxRecDepth 20000 in
theorem mok_X11_leave : MOk mi_X11_leave 1 := ⟨(gm 511 rfl rfl), (gm 28 (by decide +kernel) rfl), ⟨by decide +kernel, by decide +kernel, by decide +kernel⟩, by decide⟩
set_option maxRecDepth 20000 in
theorem mok_X11_tray : MOk mi_X11_tray 3 := ⟨(gm 516 rfl rfl), (gm 28 (by decide +kernel) rfl), ⟨by decide +kernel, by decide +kernel, by decide +kernel⟩, by decide⟩
set_option maxRecDepth 20000 in
theorem mok_X11_lay : MOk mi_X11_lay 3 := ⟨(gm 527 rfl rfl), (gm 28 (by decide +kernel) rfl), ⟨by decide +kernel, by decide +kernel, by decide +kernel⟩, by decide⟩
set_option maxRecDepth 20000 in
theorem mok_X11_cell : MOk mi_X11_cell 2 := ⟨(gm 540 rfl rfl), (gm 28 (by decide +kernel) rfl), ⟨by decide +kernel, by decide +kernel, by decide +kernel⟩, by decide⟩
set_option maxRecDepth 20000 in
theorem mok_X11_cells : MOk mi_X11_cells 1 := ⟨(gm 544 rfl rfl), (gm 28 (by decide +kernel) rfl), ⟨by decide +kernel, by decide +kernel, by decide +kernel⟩, by decide⟩
set_option maxRecDepth 20000 in
theorem mok_X11_send : MOk mi_X11_send 2 := ⟨(gm 548 rfl rfl), (gm 28 (by decide +kernel) rfl), ⟨by decide +kernel, by decide +kernel, by decide +kernel⟩, by decide⟩
set_option maxRecDepth 20000 in
theorem mok_X11_told : MOk mi_X11_told 1 := ⟨(gm 699 rfl rfl), (gm 28 (by decide +kernel) rfl), ⟨by decide +kernel, by decide +kernel, by decide +kernel⟩, by decide⟩
set_option maxRecDepth 20000 in
theorem mok_X11_value : MOk mi_X11_value 0 := ⟨(gm 703 rfl rfl), (gm 28 (by decide +kernel) rfl), ⟨by decide +kernel, by decide +kernel, by decide +kernel⟩, by decide⟩
set_option maxRecDepth 20000 in
theorem mok_X11_logged : MOk mi_X11_logged 1 := ⟨(gm 707 rfl rfl), (gm 28 (by decide +kernel) rfl), ⟨by decide +kernel, by decide +kernel, by decide +kernel⟩, by decide⟩
set_option maxRecDepth 20000 in
theorem mok_X11_failure : MOk mi_X11_failure 2 := ⟨(gm 711 rfl rfl), (gm 28 (by decide +kernel) rfl), ⟨by decide +kernel, by decide +kernel, by decide +kernel⟩, by decide⟩
set_option maxRecDepth 20000 in
theorem mok_X11_meter : MOk mi_X11_meter 1 := ⟨(gm 715 rfl rfl), (gm 28 (by decide +kernel) rfl), ⟨by decide +kernel, by decide +kernel, by decide +kernel⟩, by decide⟩
set_option maxRecDepth 20000 in
theorem mok_X11_back : MOk mi_X11_back 1 := ⟨(gm 719 rfl rfl), (gm 28 (by decide +kernel) rfl), ⟨by decide +kernel, by decide +kernel, by decide +kernel⟩, by decide⟩
set_option maxRecDepth 20000 in
theorem mok_X11_listener : MOk mi_X11_listener 2 := ⟨(gm 730 rfl rfl), (gm 28 (by decide +kernel) rfl), ⟨by decide +kernel, by decide +kernel, by decide +kernel⟩, by decide⟩
set_option maxRecDepth 20000 in
theorem mok_X11_turn : MOk mi_X11_turn 3 := ⟨(gm 734 rfl rfl), (gm 28 (by decide +kernel) rfl), ⟨by decide +kernel, by decide +kernel, by decide +kernel⟩, by decide⟩
set_option maxRecDepth 20000 in
theorem mok_X11_under : MOk mi_X11_under 2 := ⟨(gm 744 rfl rfl), (gm 28 (by decide +kernel) rfl), ⟨by decide +kernel, by decide +kernel, by decide +kernel⟩, by decide⟩
set_option maxRecDepth 20000 in
theorem mok_X11_count : MOk mi_X11_count 1 := ⟨(gm 749 rfl rfl), (gm 28 (by decide +kernel) rfl), ⟨by decide +kernel, by decide +kernel, by decide +kernel⟩, by decide⟩
set_option maxRecDepth 20000 in
theorem mok_X11_isPhase : MOk mi_X11_isPhase 1 := ⟨(gm 373 rfl rfl), (gm 28 (by decide +kernel) rfl), ⟨by decide +kernel, by decide +kernel, by decide +kernel⟩, by decide⟩
set_option maxRecDepth 20000 in
theorem mok_X11_findTray : MOk mi_X11_findTray 2 := ⟨(gm 519 rfl rfl), (gm 28 (by decide +kernel) rfl), ⟨by decide +kernel, by decide +kernel, by decide +kernel⟩, by decide⟩
set_option maxRecDepth 20000 in
theorem mok_X11_asNumber : MOk mi_X11_asNumber 1 := ⟨(gm 499 rfl rfl), (gm 28 (by decide +kernel) rfl), ⟨by decide +kernel, by decide +kernel, by decide +kernel⟩, by decide⟩
set_option maxRecDepth 20000 in
theorem mok_X12_init : MOk mi_X12_init 0 := ⟨(gm 754 rfl rfl), (gm 37 (by decide +kernel) rfl), ⟨by decide +kernel, by decide +kernel, by decide +kernel⟩, by decide⟩
set_option maxRecDepth 20000 in
theorem mok_X12_in : MOk mi_X12_in 3 := ⟨(gm 932 rfl rfl), (gm 37 (by decide +kernel) rfl), ⟨by decide +kernel, by decide +kernel, by decide +kernel⟩, by decide⟩
set_option maxRecDepth 20000 in
theorem mok_X12_isKind : MOk mi_X12_isKind 1 := ⟨(gm 929 rfl rfl), (gm 37 (by decide +kernel) rfl), ⟨by decide +kernel, by decide +kernel, by decide +kernel⟩, by decide⟩
set_option maxRecDepth 20000 in
theorem mok_X12_isListener : MOk mi_X12_isListener 1 := ⟨(gm 959 rfl rfl), (gm 37 (by decide +kernel) rfl), ⟨by decide +kernel, by decide +kernel, by decide +kernel⟩, by decide⟩
set_option maxRecDepth 20000 in
theorem mok_X12_kind : MOk mi_X12_kind 1 := ⟨(gm 925 rfl rfl), (gm 37 (by decide +kernel) rfl), ⟨by decide +kernel, by decide +kernel, by decide +kernel⟩, by decide⟩
set_option maxRecDepth 20000 in
theorem mok_X12_scene : MOk mi_X12_scene 0 := ⟨(gm 936 rfl rfl), (gm 37 (by decide +kernel) rfl), ⟨by decide +kernel, by decide +kernel, by decide +kernel⟩, by decide⟩
set_option maxRecDepth 20000 in
theorem mok_X12_shut : MOk mi_X12_shut 1 := ⟨(gm 944 rfl rfl), (gm 37 (by decide +kernel) rfl), ⟨by decide +kernel, by decide +kernel, by decide +kernel⟩, by decide⟩
set_option maxRecDepth 20000 in
theorem mok_X12_close : MOk mi_X12_close 1 := ⟨(gm 940 rfl rfl), (gm 37 (by decide +kernel) rfl), ⟨by decide +kernel, by decide +kernel, by decide +kernel⟩, by decide⟩
set_option maxRecDepth 20000 in
theorem mok_X12_listen : MOk mi_X12_listen 4 := ⟨(gm 948 rfl rfl), (gm 37 (by decide +kernel) rfl), ⟨by decide +kernel, by decide +kernel, by decide +kernel⟩, by decide⟩
set_option maxRecDepth 20000 in
theorem mok_X12_filter : MOk mi_X12_filter 3 := ⟨(gm 955 rfl rfl), (gm 37 (by decide +kernel) rfl), ⟨by decide +kernel, by decide +kernel, by decide +kernel⟩, by decide⟩
set_option maxRecDepth 20000 in
theorem mok_X12_once : MOk mi_X12_once 2 := ⟨(gm 963 rfl rfl), (gm 37 (by decide +kernel) rfl), ⟨by decide +kernel, by decide +kernel, by decide +kernel⟩, by decide⟩
set_option maxRecDepth 20000 in
theorem mok_X12_step : MOk mi_X12_step 3 := ⟨(gm 967 rfl rfl), (gm 37 (by decide +kernel) rfl), ⟨by decide +kernel, by decide +kernel, by decide +kernel⟩, by decide⟩
set_option maxRecDepth 20000 in
theorem mok_X12_leave : MOk mi_X12_leave 1 := ⟨(gm 974 rfl rfl), (gm 37 (by decide +kernel) rfl), ⟨by decide +kernel, by decide +kernel, by decide +kernel⟩, by decide⟩
set_option maxRecDepth 20000 in
theorem mok_X12_lay1 : MOk mi_X12_lay1 3 := ⟨(gm 983 rfl rfl), (gm 37 (by decide +kernel) rfl), ⟨by decide +kernel, by decide +kernel, by decide +kernel⟩, by decide⟩
set_option maxRecDepth 20000 in
theorem mok_X12_tray : MOk mi_X12_tray 3 := ⟨(gm 978 rfl rfl), (gm 37 (by decide +kernel) rfl), ⟨by decide +kernel, by decide +kernel, by decide +kernel⟩, by decide⟩
set_option maxRecDepth 20000 in
theorem mok_X12_lay : MOk mi_X12_lay 3 := ⟨(gm 987 rfl rfl), (gm 37 (by decide +kernel) rfl), ⟨by decide +kernel, by decide +kernel, by decide +kernel⟩, by decide⟩
set_option maxRecDepth 20000 in
theorem mok_X12_cell : MOk mi_X12_cell 2 := ⟨(gm 991 rfl rfl), (gm 37 (by decide +kernel) rfl), ⟨by decide +kernel, by decide +kernel, by decide +kernel⟩, by decide⟩
set_option maxRecDepth 20000 in
theorem mok_X12_cells : MOk mi_X12_cells 1 := ⟨(gm 995 rfl rfl), (gm 37 (by decide +kernel) rfl), ⟨by decide +kernel, by decide +kernel, by decide +kernel⟩, by decide⟩
set_option maxRecDepth 20000 in
theorem mok_X12_above : MOk mi_X12_above 2 := ⟨(gm 1015 rfl rfl), (gm 37 (by decide +kernel) rfl), ⟨by decide +kernel, by decide +kernel, by decide +kernel⟩, by decide⟩
set_option maxRecDepth 20000 in
theorem mok_X12_isAhead : MOk mi_X12_isAhead 3 := ⟨(gm 1019 rfl rfl), (gm 37 (by decide +kernel) rfl), ⟨by decide +kernel, by decide +kernel, by decide +kernel⟩, by decide⟩
set_option maxRecDepth 20000 in
theorem mok_X12_findTurns : MOk mi_X12_findTurns 2 := ⟨(gm 1011 rfl rfl), (gm 37 (by decide +kernel) rfl), ⟨by decide +kernel, by decide +kernel, by decide +kernel⟩, by decide⟩
set_option maxRecDepth 20000 in
theorem mok_X12_beginPhase : MOk mi_X12_beginPhase 1 := ⟨(gm 1007 rfl rfl), (gm 37 (by decide +kernel) rfl), ⟨by decide +kernel, by decide +kernel, by decide +kernel⟩, by decide⟩
set_option maxRecDepth 20000 in
theorem mok_X12_begin : MOk mi_X12_begin 2 := ⟨(gm 1003 rfl rfl), (gm 37 (by decide +kernel) rfl), ⟨by decide +kernel, by decide +kernel, by decide +kernel⟩, by decide⟩
set_option maxRecDepth 20000 in
theorem mok_X12_act : MOk mi_X12_act 0 := ⟨(gm 1052 rfl rfl), (gm 37 (by decide +kernel) rfl), ⟨by decide +kernel, by decide +kernel, by decide +kernel⟩, by decide⟩
set_option maxRecDepth 20000 in
theorem mok_X12_ends : MOk mi_X12_ends 1 := ⟨(gm 1031 rfl rfl), (gm 37 (by decide +kernel) rfl), ⟨by decide +kernel, by decide +kernel, by decide +kernel⟩, by decide⟩
set_option maxRecDepth 20000 in
theorem mok_X12_fails : MOk mi_X12_fails 1 := ⟨(gm 1048 rfl rfl), (gm 37 (by decide +kernel) rfl), ⟨by decide +kernel, by decide +kernel, by decide +kernel⟩, by decide⟩
set_option maxRecDepth 20000 in
theorem mok_X12_against : MOk mi_X12_against 2 := ⟨(gm 1044 rfl rfl), (gm 37 (by decide +kernel) rfl), ⟨by decide +kernel, by decide +kernel, by decide +kernel⟩, by decide⟩
set_option maxRecDepth 20000 in
theorem mok_X12_does : MOk mi_X12_does 3 := ⟨(gm 1027 rfl rfl), (gm 37 (by decide +kernel) rfl), ⟨by decide +kernel, by decide +kernel, by decide +kernel⟩, by decide⟩
set_option maxRecDepth 20000 in
theorem mok_X12_doesMore : MOk mi_X12_doesMore 3 := ⟨(gm 1035 rfl rfl), (gm 37 (by decide +kernel) rfl), ⟨by decide +kernel, by decide +kernel, by decide +kernel⟩, by decide⟩
set_option maxRecDepth 20000 in
theorem mok_X12_trays : MOk mi_X12_trays 4 := ⟨(gm 1040 rfl rfl), (gm 37 (by decide +kernel) rfl), ⟨by decide +kernel, by decide +kernel, by decide +kernel⟩, by decide⟩
set_option maxRecDepth 20000 in
theorem mok_X12_goOn : MOk mi_X12_goOn 1 := ⟨(gm 1023 rfl rfl), (gm 37 (by decide +kernel) rfl), ⟨by decide +kernel, by decide +kernel, by decide +kernel⟩, by decide⟩
set_option maxRecDepth 20000 in
theorem mok_X12_send : MOk mi_X12_send 2 := ⟨(gm 999 rfl rfl), (gm 37 (by decide +kernel) rfl), ⟨by decide +kernel, by decide +kernel, by decide +kernel⟩, by decide⟩
set_option maxRecDepth 20000 in
theorem mok_X12_told : MOk mi_X12_told 1 := ⟨(gm 1056 rfl rfl), (gm 37 (by decide +kernel) rfl), ⟨by decide +kernel, by decide +kernel, by decide +kernel⟩, by decide⟩
set_option maxRecDepth 20000 in
theorem mok_X12_value : MOk mi_X12_value 0 := ⟨(gm 1060 rfl rfl), (gm 37 (by decide +kernel) rfl), ⟨by decide +kernel, by decide +kernel, by decide +kernel⟩, by decide⟩
set_option maxRecDepth 20000 in
theorem mok_X12_logged : MOk mi_X12_logged 1 := ⟨(gm 1064 rfl rfl), (gm 37 (by decide +kernel) rfl), ⟨by decide +kernel, by decide +kernel, by decide +kernel⟩, by decide⟩
set_option maxRecDepth 20000 in
theorem mok_X12_failure : MOk mi_X12_failure 2 := ⟨(gm 1069 rfl rfl), (gm 37 (by decide +kernel) rfl), ⟨by decide +kernel, by decide +kernel, by decide +kernel⟩, by decide⟩
set_option maxRecDepth 20000 in
theorem mok_X12_meter : MOk mi_X12_meter 1 := ⟨(gm 1073 rfl rfl), (gm 37 (by decide +kernel) rfl), ⟨by decide +kernel, by decide +kernel, by decide +kernel⟩, by decide⟩
set_option maxRecDepth 20000 in
theorem mok_X12_back : MOk mi_X12_back 1 := ⟨(gm 1077 rfl rfl), (gm 37 (by decide +kernel) rfl), ⟨by decide +kernel, by decide +kernel, by decide +kernel⟩, by decide⟩
set_option maxRecDepth 20000 in
theorem mok_X12_listener : MOk mi_X12_listener 2 := ⟨(gm 1082 rfl rfl), (gm 37 (by decide +kernel) rfl), ⟨by decide +kernel, by decide +kernel, by decide +kernel⟩, by decide⟩
set_option maxRecDepth 20000 in
theorem mok_X12_turn : MOk mi_X12_turn 3 := ⟨(gm 1086 rfl rfl), (gm 37 (by decide +kernel) rfl), ⟨by decide +kernel, by decide +kernel, by decide +kernel⟩, by decide⟩
set_option maxRecDepth 20000 in
theorem mok_X12_under : MOk mi_X12_under 2 := ⟨(gm 1090 rfl rfl), (gm 37 (by decide +kernel) rfl), ⟨by decide +kernel, by decide +kernel, by decide +kernel⟩, by decide⟩
set_option maxRecDepth 20000 in
theorem mok_X12_count : MOk mi_X12_count 1 := ⟨(gm 1094 rfl rfl), (gm 37 (by decide +kernel) rfl), ⟨by decide +kernel, by decide +kernel, by decide +kernel⟩, by decide⟩
set_option maxRecDepth 20000 in
theorem mok_Math_max : MOk mi_Math_max 2 := ⟨(gm 571 rfl rfl), (gm 41 (by decide +kernel) rfl), ⟨by decide +kernel, by decide +kernel, by decide +kernel⟩, by decide⟩
set_option maxRecDepth 20000 in
theorem mok_Math_min : MOk mi_Math_min 2 := ⟨(gm 726 rfl rfl), (gm 41 (by decide +kernel) rfl), ⟨by decide +kernel, by decide +kernel, by decide +kernel⟩, by decide⟩
