/-- the reference: its rows stand behind it in the order in which they were made: key, place, colour, length -/
def rmF : List (Nat × Nat × Nat × Nat) := [(1201, 1, 1089007, 40), (1202, 2, 2089015, 40), (1204, 3, 3089023, 30), (1206, 4, 1089032, 200), (1207, 5, 1089041, 200), (1208, 6, 1089050, 200), (1209, 7, 1089059, 200), (1210, 8, 2089068, 200), (1211, 9, 2089077, 200), (1212, 10, 3089086, 200), (1213, 11, 3089095, 200), (1214, 12, 1089104, 200), (1215, 13, 1089113, 2000), (1216, 14, 1089122, 2000), (1217, 15, 1089131, 200), (1218, 16, 1089140, 200), (1219, 17, 1089148, 8), (1220, 18, 1089198, 8), (1221, 19, 2089207, 128), (1222, 20, 1089216, 2400), (1223, 21, 1089225, 200), (1226, 22, 1089233, 12), (1227, 23, 2089241, 12), (1228, 24, 1089249, 12), (1229, 25, 1089257, 12), (1230, 26, 1089265, 12), (1231, 27, 3089273, 12), (1232, 28, 3089281, 12), (1233, 29, 1089289, 12), (1234, 30, 1089297, 12), (1235, 31, 2089305, 12), (1237, 32, 1089313, 40), (1238, 33, 2089321, 40), (1248, 34, 2089335, 100), (1249, 35, 1089343, 64), (1250, 36, 1089351, 64), (1251, 37, 1089359, 64), (1253, 38, 1089367, 50), (1254, 39, 2089375, 50)]
def RM (M : Mem) (h : Nat) : Prop := mK M h = 13 ∧ ∀ q ∈ rmF, mR M q.1 h 0 = some (h + q.2.1) ∧ mK M (h + q.2.1) = q.2.2.1 ∧ mN M (h + q.2.1) = q.2.2.2
theorem rm_parent {M : Mem} {h : Nat} (H : RM M h) : mR M 1201 h 0 = some (h + 1) ∧ mK M (h + 1) = 1089007 ∧ mN M (h + 1) = 40 := H.2 (1201, 1, 1089007, 40) (by decide)
theorem rm_meters {M : Mem} {h : Nat} (H : RM M h) : mR M 1202 h 0 = some (h + 2) ∧ mK M (h + 2) = 2089015 ∧ mN M (h + 2) = 40 := H.2 (1202, 2, 2089015, 40) (by decide)
theorem rm_isOpen {M : Mem} {h : Nat} (H : RM M h) : mR M 1204 h 0 = some (h + 3) ∧ mK M (h + 3) = 3089023 ∧ mN M (h + 3) = 30 := H.2 (1204, 3, 3089023, 30) (by decide)
theorem rm_kindOf {M : Mem} {h : Nat} (H : RM M h) : mR M 1206 h 0 = some (h + 4) ∧ mK M (h + 4) = 1089032 ∧ mN M (h + 4) = 200 := H.2 (1206, 4, 1089032, 200) (by decide)
theorem rm_phaseOf {M : Mem} {h : Nat} (H : RM M h) : mR M 1207 h 0 = some (h + 5) ∧ mK M (h + 5) = 1089041 ∧ mN M (h + 5) = 200 := H.2 (1207, 5, 1089041, 200) (by decide)
theorem rm_rankOf {M : Mem} {h : Nat} (H : RM M h) : mR M 1208 h 0 = some (h + 6) ∧ mK M (h + 6) = 1089050 ∧ mN M (h + 6) = 200 := H.2 (1208, 6, 1089050, 200) (by decide)
theorem rm_sceneOf {M : Mem} {h : Nat} (H : RM M h) : mR M 1209 h 0 = some (h + 7) ∧ mK M (h + 7) = 1089059 ∧ mN M (h + 7) = 200 := H.2 (1209, 7, 1089059, 200) (by decide)
theorem rm_lowOf {M : Mem} {h : Nat} (H : RM M h) : mR M 1210 h 0 = some (h + 8) ∧ mK M (h + 8) = 2089068 ∧ mN M (h + 8) = 200 := H.2 (1210, 8, 2089068, 200) (by decide)
theorem rm_highOf {M : Mem} {h : Nat} (H : RM M h) : mR M 1211 h 0 = some (h + 9) ∧ mK M (h + 9) = 2089077 ∧ mN M (h + 9) = 200 := H.2 (1211, 9, 2089077, 200) (by decide)
theorem rm_isOnce {M : Mem} {h : Nat} (H : RM M h) : mR M 1212 h 0 = some (h + 10) ∧ mK M (h + 10) = 3089086 ∧ mN M (h + 10) = 200 := H.2 (1212, 10, 3089086, 200) (by decide)
theorem rm_there {M : Mem} {h : Nat} (H : RM M h) : mR M 1213 h 0 = some (h + 11) ∧ mK M (h + 11) = 3089095 ∧ mN M (h + 11) = 200 := H.2 (1213, 11, 3089095, 200) (by decide)
theorem rm_stepMany {M : Mem} {h : Nat} (H : RM M h) : mR M 1214 h 0 = some (h + 12) ∧ mK M (h + 12) = 1089104 ∧ mN M (h + 12) = 200 := H.2 (1214, 12, 1089104, 200) (by decide)
theorem rm_ops {M : Mem} {h : Nat} (H : RM M h) : mR M 1215 h 0 = some (h + 13) ∧ mK M (h + 13) = 1089113 ∧ mN M (h + 13) = 2000 := H.2 (1215, 13, 1089113, 2000) (by decide)
theorem rm_numbers {M : Mem} {h : Nat} (H : RM M h) : mR M 1216 h 0 = some (h + 14) ∧ mK M (h + 14) = 1089122 ∧ mN M (h + 14) = 2000 := H.2 (1216, 14, 1089122, 2000) (by decide)
theorem rm_toldOften {M : Mem} {h : Nat} (H : RM M h) : mR M 1217 h 0 = some (h + 15) ∧ mK M (h + 15) = 1089131 ∧ mN M (h + 15) = 200 := H.2 (1217, 15, 1089131, 200) (by decide)
theorem rm_trayOf {M : Mem} {h : Nat} (H : RM M h) : mR M 1218 h 0 = some (h + 16) ∧ mK M (h + 16) = 1089140 ∧ mN M (h + 16) = 200 := H.2 (1218, 16, 1089140, 200) (by decide)
theorem rm_lanes {M : Mem} {h : Nat} (H : RM M h) : mR M 1219 h 0 = some (h + 17) ∧ mK M (h + 17) = 1089148 ∧ mN M (h + 17) = 8 := H.2 (1219, 17, 1089148, 8) (by decide)
theorem rm_sizes {M : Mem} {h : Nat} (H : RM M h) : mR M 1220 h 0 = some (h + 18) ∧ mK M (h + 18) = 1089198 ∧ mN M (h + 18) = 8 := H.2 (1220, 18, 1089198, 8) (by decide)
theorem rm_cell {M : Mem} {h : Nat} (H : RM M h) : mR M 1221 h 0 = some (h + 19) ∧ mK M (h + 19) = 2089207 ∧ mN M (h + 19) = 128 := H.2 (1221, 19, 2089207, 128) (by decide)
theorem rm_turns {M : Mem} {h : Nat} (H : RM M h) : mR M 1222 h 0 = some (h + 20) ∧ mK M (h + 20) = 1089216 ∧ mN M (h + 20) = 2400 := H.2 (1222, 20, 1089216, 2400) (by decide)
theorem rm_found {M : Mem} {h : Nat} (H : RM M h) : mR M 1223 h 0 = some (h + 21) ∧ mK M (h + 21) = 1089225 ∧ mN M (h + 21) = 200 := H.2 (1223, 21, 1089225, 200) (by decide)
theorem rm_cKind {M : Mem} {h : Nat} (H : RM M h) : mR M 1226 h 0 = some (h + 22) ∧ mK M (h + 22) = 1089233 ∧ mN M (h + 22) = 12 := H.2 (1226, 22, 1089233, 12) (by decide)
theorem rm_cValue {M : Mem} {h : Nat} (H : RM M h) : mR M 1227 h 0 = some (h + 23) ∧ mK M (h + 23) = 2089241 ∧ mN M (h + 23) = 12 := H.2 (1227, 23, 2089241, 12) (by decide)
theorem rm_cPhase {M : Mem} {h : Nat} (H : RM M h) : mR M 1228 h 0 = some (h + 24) ∧ mK M (h + 24) = 1089249 ∧ mN M (h + 24) = 12 := H.2 (1228, 24, 1089249, 12) (by decide)
theorem rm_cMany {M : Mem} {h : Nat} (H : RM M h) : mR M 1229 h 0 = some (h + 25) ∧ mK M (h + 25) = 1089257 ∧ mN M (h + 25) = 12 := H.2 (1229, 25, 1089257, 12) (by decide)
theorem rm_cNext {M : Mem} {h : Nat} (H : RM M h) : mR M 1230 h 0 = some (h + 26) ∧ mK M (h + 26) = 1089265 ∧ mN M (h + 26) = 12 := H.2 (1230, 26, 1089265, 12) (by decide)
theorem rm_cVetoed {M : Mem} {h : Nat} (H : RM M h) : mR M 1231 h 0 = some (h + 27) ∧ mK M (h + 27) = 3089273 ∧ mN M (h + 27) = 12 := H.2 (1231, 27, 3089273, 12) (by decide)
theorem rm_isUnder {M : Mem} {h : Nat} (H : RM M h) : mR M 1232 h 0 = some (h + 28) ∧ mK M (h + 28) = 3089281 ∧ mN M (h + 28) = 12 := H.2 (1232, 28, 3089281, 12) (by decide)
theorem rm_pListener {M : Mem} {h : Nat} (H : RM M h) : mR M 1233 h 0 = some (h + 29) ∧ mK M (h + 29) = 1089289 ∧ mN M (h + 29) = 12 := H.2 (1233, 29, 1089289, 12) (by decide)
theorem rm_pStep {M : Mem} {h : Nat} (H : RM M h) : mR M 1234 h 0 = some (h + 30) ∧ mK M (h + 30) = 1089297 ∧ mN M (h + 30) = 12 := H.2 (1234, 30, 1089297, 12) (by decide)
theorem rm_pValue {M : Mem} {h : Nat} (H : RM M h) : mR M 1235 h 0 = some (h + 31) ∧ mK M (h + 31) = 2089305 ∧ mN M (h + 31) = 12 := H.2 (1235, 31, 2089305, 12) (by decide)
theorem rm_laterKind {M : Mem} {h : Nat} (H : RM M h) : mR M 1237 h 0 = some (h + 32) ∧ mK M (h + 32) = 1089313 ∧ mN M (h + 32) = 40 := H.2 (1237, 32, 1089313, 40) (by decide)
theorem rm_laterValue {M : Mem} {h : Nat} (H : RM M h) : mR M 1238 h 0 = some (h + 33) ∧ mK M (h + 33) = 2089321 ∧ mN M (h + 33) = 40 := H.2 (1238, 33, 2089321, 40) (by decide)
theorem rm_log {M : Mem} {h : Nat} (H : RM M h) : mR M 1248 h 0 = some (h + 34) ∧ mK M (h + 34) = 2089335 ∧ mN M (h + 34) = 100 := H.2 (1248, 34, 2089335, 100) (by decide)
theorem rm_fWhat {M : Mem} {h : Nat} (H : RM M h) : mR M 1249 h 0 = some (h + 35) ∧ mK M (h + 35) = 1089343 ∧ mN M (h + 35) = 64 := H.2 (1249, 35, 1089343, 64) (by decide)
theorem rm_fListener {M : Mem} {h : Nat} (H : RM M h) : mR M 1250 h 0 = some (h + 36) ∧ mK M (h + 36) = 1089351 ∧ mN M (h + 36) = 64 := H.2 (1250, 36, 1089351, 64) (by decide)
theorem rm_fStep {M : Mem} {h : Nat} (H : RM M h) : mR M 1251 h 0 = some (h + 37) ∧ mK M (h + 37) = 1089359 ∧ mN M (h + 37) = 64 := H.2 (1251, 37, 1089359, 64) (by decide)
theorem rm_actKind {M : Mem} {h : Nat} (H : RM M h) : mR M 1253 h 0 = some (h + 38) ∧ mK M (h + 38) = 1089367 ∧ mN M (h + 38) = 50 := H.2 (1253, 38, 1089367, 50) (by decide)
theorem rm_actValue {M : Mem} {h : Nat} (H : RM M h) : mR M 1254 h 0 = some (h + 39) ∧ mK M (h + 39) = 2089375 ∧ mN M (h + 39) = 50 := H.2 (1254, 39, 2089375, 50) (by decide)
theorem mn_X0_init : mi 0 = mi_X0_init := rfl
theorem mn_X0_make : mi 1 = mi_X0_make := rfl
theorem mn_X0_moveBack : mi 2 = mi_X0_moveBack := rfl
theorem mn_X1_init : mi 3 = mi_X1_init := rfl
theorem mn_X1_begin : mi 4 = mi_X1_begin := rfl
theorem mn_X1_isVetoed : mi 5 = mi_X1_isVetoed := rfl
theorem mn_X2_init : mi 6 = mi_X2_init := rfl
theorem mn_X2_find : mi 7 = mi_X2_find := rfl
theorem mn_X2_findFirst : mi 8 = mi_X2_findFirst := rfl
theorem mn_X2_isFull : mi 9 = mi_X2_isFull := rfl
theorem mn_X2_seat : mi 10 = mi_X2_seat := rfl
theorem mn_X2_seatLike : mi 11 = mi_X2_seatLike := rfl
theorem mn_X2_letGo : mi 12 = mi_X2_letGo := rfl
theorem mn_X2_sendAway : mi 13 = mi_X2_sendAway := rfl
theorem mn_X2_nameTurn : mi 14 = mi_X2_nameTurn := rfl
theorem mn_X2_openScene : mi 15 = mi_X2_openScene := rfl
theorem mn_X2_hadScene : mi 16 = mi_X2_hadScene := rfl
theorem mn_X2_isOpen : mi 17 = mi_X2_isOpen := rfl
theorem mn_X2_admits : mi 18 = mi_X2_admits := rfl
theorem mn_X2_shut : mi 19 = mi_X2_shut := rfl
theorem mn_X3_init : mi 20 = mi_X3_init := rfl
theorem mn_X3_isUnder : mi 21 = mi_X3_isUnder := rfl
theorem mn_X4_init : mi 22 = mi_X4_init := rfl
theorem mn_X4_find : mi 23 = mi_X4_find := rfl
theorem mn_X4_add : mi 24 = mi_X4_add := rfl
theorem mn_X5_init : mi 25 = mi_X5_init := rfl
theorem mn_X5_hears : mi 26 = mi_X5_hears := rfl
theorem mn_X5_lets : mi 27 = mi_X5_lets := rfl
theorem mn_X5_isAheadOf : mi 28 = mi_X5_isAheadOf := rfl
theorem mn_X6_init : mi 29 = mi_X6_init := rfl
theorem mn_X6_add : mi 30 = mi_X6_add := rfl
theorem mn_X6_takeOver : mi 31 = mi_X6_takeOver := rfl
theorem mn_X7_init : mi 32 = mi_X7_init := rfl
theorem mn_X7_begin : mi 33 = mi_X7_begin := rfl
theorem mn_X7_addCue : mi 34 = mi_X7_addCue := rfl
theorem mn_X7_addLogged : mi 35 = mi_X7_addLogged := rfl
theorem mn_X7_addFailure : mi 36 = mi_X7_addFailure := rfl
theorem mn_X7_isHushed : mi 37 = mi_X7_isHushed := rfl
theorem mn_X8_init : mi 38 = mi_X8_init := rfl
theorem mn_X8_tellAll : mi 39 = mi_X8_tellAll := rfl
theorem mn_X8_tell : mi 40 = mi_X8_tell := rfl
theorem mn_X8_tellListener : mi 41 = mi_X8_tellListener := rfl
theorem mn_X8_doStep : mi 42 = mi_X8_doStep := rfl
theorem mn_X8_divide : mi 43 = mi_X8_divide := rfl
theorem mn_X8_takeRemainder : mi 44 = mi_X8_takeRemainder := rfl
theorem mn_X8_tellNow : mi 45 = mi_X8_tellNow := rfl
theorem mn_X8_tellLater : mi 46 = mi_X8_tellLater := rfl
theorem mn_X8_closeScene : mi 47 = mi_X8_closeScene := rfl
theorem mn_X8_touchTray : mi 48 = mi_X8_touchTray := rfl
theorem mn_X8_chooseTray : mi 49 = mi_X8_chooseTray := rfl
theorem mn_X9_init : mi 50 = mi_X9_init := rfl
theorem mn_X9_renew : mi 51 = mi_X9_renew := rfl
theorem mn_X9_layInts : mi 52 = mi_X9_layInts := rfl
theorem mn_X9_hasCell : mi 53 = mi_X9_hasCell := rfl
theorem mn_X9_put : mi 54 = mi_X9_put := rfl
theorem mn_X9_faultAsInts : mi 55 = mi_X9_faultAsInts := rfl
theorem mn_X10_init : mi 56 = mi_X10_init := rfl
theorem mn_X10_add : mi 57 = mi_X10_add := rfl
theorem mn_X10_firstKind : mi 58 = mi_X10_firstKind := rfl
theorem mn_X10_firstValue : mi 59 = mi_X10_firstValue := rfl
theorem mn_X10_dropFirst : mi 60 = mi_X10_dropFirst := rfl
theorem mn_X10_forget : mi 61 = mi_X10_forget := rfl
theorem mn_X11_init : mi 62 = mi_X11_init := rfl
theorem mn_X11_kind : mi 63 = mi_X11_kind := rfl
theorem mn_X11_scene : mi 64 = mi_X11_scene := rfl
theorem mn_X11_close : mi 65 = mi_X11_close := rfl
theorem mn_X11_listen : mi 66 = mi_X11_listen := rfl
theorem mn_X11_filter : mi 67 = mi_X11_filter := rfl
theorem mn_X11_once : mi 68 = mi_X11_once := rfl
theorem mn_X11_step : mi 69 = mi_X11_step := rfl
theorem mn_X11_leave : mi 70 = mi_X11_leave := rfl
theorem mn_X11_tray : mi 71 = mi_X11_tray := rfl
theorem mn_X11_lay : mi 72 = mi_X11_lay := rfl
theorem mn_X11_cell : mi 73 = mi_X11_cell := rfl
theorem mn_X11_cells : mi 74 = mi_X11_cells := rfl
theorem mn_X11_send : mi 75 = mi_X11_send := rfl
theorem mn_X11_told : mi 76 = mi_X11_told := rfl
theorem mn_X11_value : mi 77 = mi_X11_value := rfl
theorem mn_X11_logged : mi 78 = mi_X11_logged := rfl
theorem mn_X11_failure : mi 79 = mi_X11_failure := rfl
theorem mn_X11_meter : mi 80 = mi_X11_meter := rfl
theorem mn_X11_back : mi 81 = mi_X11_back := rfl
theorem mn_X11_listener : mi 82 = mi_X11_listener := rfl
theorem mn_X11_turn : mi 83 = mi_X11_turn := rfl
theorem mn_X11_under : mi 84 = mi_X11_under := rfl
theorem mn_X11_count : mi 85 = mi_X11_count := rfl
theorem mn_X11_isPhase : mi 86 = mi_X11_isPhase := rfl
theorem mn_X11_findTray : mi 87 = mi_X11_findTray := rfl
theorem mn_X11_asNumber : mi 88 = mi_X11_asNumber := rfl
theorem mn_X12_init : mi 89 = mi_X12_init := rfl
theorem mn_X12_in : mi 90 = mi_X12_in := rfl
theorem mn_X12_isKind : mi 91 = mi_X12_isKind := rfl
theorem mn_X12_isListener : mi 92 = mi_X12_isListener := rfl
theorem mn_X12_kind : mi 93 = mi_X12_kind := rfl
theorem mn_X12_scene : mi 94 = mi_X12_scene := rfl
theorem mn_X12_shut : mi 95 = mi_X12_shut := rfl
theorem mn_X12_close : mi 96 = mi_X12_close := rfl
theorem mn_X12_listen : mi 97 = mi_X12_listen := rfl
theorem mn_X12_filter : mi 98 = mi_X12_filter := rfl
theorem mn_X12_once : mi 99 = mi_X12_once := rfl
theorem mn_X12_step : mi 100 = mi_X12_step := rfl
theorem mn_X12_leave : mi 101 = mi_X12_leave := rfl
theorem mn_X12_lay1 : mi 102 = mi_X12_lay1 := rfl
theorem mn_X12_tray : mi 103 = mi_X12_tray := rfl
theorem mn_X12_lay : mi 104 = mi_X12_lay := rfl
theorem mn_X12_cell : mi 105 = mi_X12_cell := rfl
theorem mn_X12_cells : mi 106 = mi_X12_cells := rfl
theorem mn_X12_above : mi 107 = mi_X12_above := rfl
theorem mn_X12_isAhead : mi 108 = mi_X12_isAhead := rfl
theorem mn_X12_findTurns : mi 109 = mi_X12_findTurns := rfl
theorem mn_X12_beginPhase : mi 110 = mi_X12_beginPhase := rfl
theorem mn_X12_begin : mi 111 = mi_X12_begin := rfl
theorem mn_X12_act : mi 112 = mi_X12_act := rfl
theorem mn_X12_ends : mi 113 = mi_X12_ends := rfl
theorem mn_X12_fails : mi 114 = mi_X12_fails := rfl
theorem mn_X12_against : mi 115 = mi_X12_against := rfl
theorem mn_X12_does : mi 116 = mi_X12_does := rfl
theorem mn_X12_doesMore : mi 117 = mi_X12_doesMore := rfl
theorem mn_X12_trays : mi 118 = mi_X12_trays := rfl
theorem mn_X12_goOn : mi 119 = mi_X12_goOn := rfl
theorem mn_X12_send : mi 120 = mi_X12_send := rfl
theorem mn_X12_told : mi 121 = mi_X12_told := rfl
theorem mn_X12_value : mi 122 = mi_X12_value := rfl
theorem mn_X12_logged : mi 123 = mi_X12_logged := rfl
theorem mn_X12_failure : mi 124 = mi_X12_failure := rfl
theorem mn_X12_meter : mi 125 = mi_X12_meter := rfl
theorem mn_X12_back : mi 126 = mi_X12_back := rfl
theorem mn_X12_listener : mi 127 = mi_X12_listener := rfl
theorem mn_X12_turn : mi 128 = mi_X12_turn := rfl
theorem mn_X12_under : mi 129 = mi_X12_under := rfl
theorem mn_X12_count : mi 130 = mi_X12_count := rfl
theorem mn_Math_max : mi 131 = mi_Math_max := rfl
theorem mn_Math_min : mi 132 = mi_Math_min := rfl

theorem RM.sI {M : Mem} {h k a i : Nat} {v : Int32} (H : RM M h) : RM (sI M k a i v) h := H
theorem RM.sL {M : Mem} {h k a i : Nat} {v : Int64} (H : RM M h) : RM (sL M k a i v) h := H
theorem i10 : ((1 : Int32) = 0) = False := by decide
theorem i01 : ((0 : Int32) = 1) = False := by decide
theorem go_0 (tab : Tab) (Q : Qt) (n pc : Nat) (lv : LV) (st : List Value) (M : Mem) : go tab K0 Q (n + 1) pc lv st M = tab pc lv st M (go tab K0 Q n) Q := rfl
def K1 (h : Nat) (P : LV → List Value → Mem → Prop) : St := fun pc => if pc = h then some P else none
theorem go_1 (tab : Tab) (Q : Qt) (h : Nat) (P : LV → List Value → Mem → Prop) (n pc : Nat) (lv : LV) (st : List Value) (M : Mem) : go tab (K1 h P) Q (n + 1) pc lv st M = if pc = h then P lv st M else tab pc lv st M (go tab (K1 h P) Q n) Q := by
  by_cases e : pc = h
  · simp [go, K1, e]
  · simp [go, K1, e]
/-- a run up to one place -/
theorem run1 {D : DD} {d : Nat} {μ : MI} {M0 : Mem} {tab : Tab} {Q : Qt} (hd : Nat) (P : LV → List Value → Mem → Prop) (h : ∀ pc, TrOk D d μ pc (tab pc)) (hP : ∀ lv st M, P lv st M → wp D d μ M0 M hd lv st Q) (n : Nat) {pc : Nat} {lv : LV} {st : List Value} {M : Mem} (hg : tab pc lv st M (go tab (K1 hd P) Q n) Q) : wp D d μ M0 M pc lv st Q := by
  refine run_ok (K1 hd P) h (fun pc' P' hK lv st M hp => ?_) n hg
  unfold K1 at hK
  by_cases e : pc' = hd
  · rw [if_pos e] at hK; cases hK; rw [e]; exact hP lv st M hp
  · rw [if_neg e] at hK; cases hK
/-- callees by their numbers -/
def cs (L : List (Nat × Sp)) (i : Nat) : Sp := match L with
  | [] => fun _ _ _ => False
  | q :: r => if i = q.1 then q.2 else cs r i
theorem cs_n {D : DD} {d : Nat} : Snd D d (cs []) := fun _ _ _ _ h => h.elim
theorem cs_c {D : DD} {d j : Nat} {s : Sp} {μ' : MI} {L : List (Nat × Sp)} (hj : mi j = μ') (h : ∀ av M Q, s av M Q → Call D d μ' av M Q) (t : Snd D d (cs L)) : Snd D d (cs ((j, s) :: L)) := by
  intro i av M Q hq
  by_cases e : i = j
  · subst e
    simp only [cs, if_true] at hq
    rw [hj]
    exact h av M Q hq
  · simp only [cs, if_neg e] at hq
    exact t i av M Q hq
abbrev inN (x : Int32) (n : Nat) : Prop := 0 ≤ x.toInt ∧ x.toInt < (n : Int)
theorem inN_in {x : Int32} {n : Nat} (h : inN x n) : vp_in x n := vp_in_iff.mpr h
theorem inN_of {x : Int32} {n : Nat} (h : inN x n) (hn : n < 2 ^ 31) : ∃ j : Nat, j < n ∧ x = nI j := vp_in_of (inN_in h) hn
theorem nI_inN {j n : Nat} (h : j < n) (hn : n < 2 ^ 31) : inN (nI j) n := vp_in_iff.mp (vp_in_nI h hn)
theorem vp_in_mono {x : Int32} {n m : Nat} (h : vp_in x n) (hm : n ≤ m) : vp_in x m := by
  rw [vp_in_iff] at h ⊢; omega
theorem nI_pred_toInt {n : Nat} (hn : n < 2 ^ 30) : (nI n - 1).toInt = (n : Int) - 1 := pk_sub_toInt (b := 1) hn (by decide)
theorem in_n {x : Int32} {n : Nat} (hn : n < 2 ^ 30) : ((0 : Int64) ≤ x.toInt64 ∧ x.toInt64 ≤ (nI n - 1).toInt64) = inN x n := by
  apply propext
  rw [Int64.le_iff_toInt_le, Int64.le_iff_toInt_le, Int32.toInt_toInt64, Int32.toInt_toInt64, nI_pred_toInt hn]
  show (0 ≤ x.toInt ∧ x.toInt ≤ (n : Int) - 1) ↔ (0 ≤ x.toInt ∧ x.toInt < (n : Int))
  omega
def sp_in : Sp := fun av M Q => match av with
  | [.long v, .long lo, .long hi] => (lo ≤ v ∧ v ≤ hi → Q M (some (.int 1))) ∧ (¬ (lo ≤ v ∧ v ≤ hi) → Q M (some (.int 0)))
  | _ => False
set_option maxRecDepth 20000 in
theorem c_in {D : DD} {d : Nat} : ∀ av M Q, sp_in av M Q → Call D (d + 1) mi_X12_in av M Q := by
  intro av M Q h
  match av, h with
  | [.long v, .long lo, .long hi], h =>
    obtain ⟨h1, h0⟩ := h
    refine call_of (by decide) (Nat.le_of_ble_eq_true rfl) (run0 (tbk_X12_in cs_n) 30 ?_)
    simp -implicitDefEqProofs only [go_0, pI_i, pL_i, pA_i, pA_s, pV_i, oI_i, oL_i, oV_i, lk, rm1, rm2, isR_rf, isR_ref, isR_null, rfo_rf, rfo_ref, rfo_null, rf_some, rf_none, rf_eq_null, rf_eq_ref, ↓nl_n, ↓nl_r, nl_rf, cat_i, cat_l, cat_r, cat_n, cat_rf, lv_args, pN_0, pN_s, tr_ic, tr_lc, tr_null, tr_iload, tr_lload, tr_aload, tr_istore, tr_lstore, tr_astore, tr_iinc, tr_iadd, tr_isub, tr_imul, tr_iand, tr_irem, tr_ladd, tr_lsub, tr_land, tr_lor, tr_lshl, tr_ldiv, tr_lrem, tr_i2l, tr_l2i, tr_i2b, tr_lcmp, tr_dup, tr_dup2, tr_pop, tr_goto, tr_ifeq, tr_ifne, tr_iflt, tr_ifge, tr_ifgt, tr_ifle, tr_iceq, tr_icne, tr_iclt, tr_icge, tr_icgt, tr_icle, tr_ifnull, tr_ifnonnull, tr_sw, tr_getI, tr_getL, tr_getR, tr_putI, tr_putZ, tr_putL, tr_putR, tr_iald, tr_lald, tr_bald, tr_aald, tr_alen, tr_iast, tr_bast, tr_last, tr_aast, tr_newa, tr_anew, tr_new, tr_callV, tr_callS, tr_callI, tr_obj, tr_iret, tr_zret, tr_lret, tr_aret, tr_ret, Nat.reduceAdd, Nat.reduceMul, Nat.reduceDiv, Nat.reduceEqDiff, Nat.reduceLT, Nat.reduceLeDiff, ↓reduceIte, true_and, and_true, true_or, or_true, List.length_nil, List.length_cons, List.nil_append, List.cons_append, Option.toList_some, Option.toList_none, and_self, or_false, false_or, false_and, and_false, imp_self, forall_const, Nat.one_ne_zero, Nat.succ_ne_self, not_true_eq_false, not_false_eq_true, reduceCtorEq, Nat.add_eq_right, Nat.add_eq_left, Nat.add_left_cancel_iff, Nat.zero_add, Int32.reduceLT, Int32.reduceLE, Int32.reduceAdd, Int32.reduceSub, Int32.reduceMul, lg_cmp_ge, lg_cmp_le, lg_cmp_gt, lg_cmp_lt, lg_cmp_eq, i10, i01, eq_self, false_implies, true_implies, implies_true, a_X12_in_0, a_X12_in_1, a_X12_in_2, a_X12_in_3, a_X12_in_6, a_X12_in_7, a_X12_in_9, a_X12_in_10, a_X12_in_13, a_X12_in_14, a_X12_in_17, a_X12_in_18]
    by_cases e1 : v < lo
    · rw [if_pos e1]; exact h0 (by rw [Int64.lt_iff_toInt_lt] at e1; rw [Int64.le_iff_toInt_le]; omega)
    · rw [if_neg e1]
      by_cases e2 : hi < v
      · rw [if_pos e2]; exact h0 (by rw [Int64.lt_iff_toInt_lt] at e2; rw [Int64.le_iff_toInt_le, Int64.le_iff_toInt_le]; omega)
      · rw [if_neg e2]; exact h1 (by rw [Int64.lt_iff_toInt_lt] at e1 e2; rw [Int64.le_iff_toInt_le, Int64.le_iff_toInt_le]; omega)
def sp_is (n : Nat) (key : Nat) : Sp := fun av M Q => match av with
  | [.ref h, .int x] => mK M h = 13 ∧ mI M key h 0 = nI n ∧ (inN x n → Q M (some (.int 1))) ∧ (¬ inN x n → Q M (some (.int 0)))
  | _ => False
set_option maxRecDepth 20000 in
theorem c_isKind {D : DD} {d n : Nat} (hn : n < 2 ^ 30) : ∀ av M Q, sp_is n 1200 av M Q → Call D (d + 2) mi_X12_isKind av M Q := by
  intro av M Q hz
  match av, hz with
  | [.ref h, .int x], hz =>
    obtain ⟨hK, hk, h1, h0⟩ := hz
    refine call_of (by decide) (Nat.le_of_ble_eq_true rfl) (run0 (tbk_X12_isKind (cs_c mn_X12_in c_in cs_n)) 30 ?_)
    simp -implicitDefEqProofs only [go_0, pI_i, pL_i, pA_i, pA_s, pV_i, oI_i, oL_i, oV_i, lk, rm1, rm2, isR_rf, isR_ref, isR_null, rfo_rf, rfo_ref, rfo_null, rf_some, rf_none, rf_eq_null, rf_eq_ref, ↓nl_n, ↓nl_r, nl_rf, cat_i, cat_l, cat_r, cat_n, cat_rf, lv_args, pN_0, pN_s, tr_ic, tr_lc, tr_null, tr_iload, tr_lload, tr_aload, tr_istore, tr_lstore, tr_astore, tr_iinc, tr_iadd, tr_isub, tr_imul, tr_iand, tr_irem, tr_ladd, tr_lsub, tr_land, tr_lor, tr_lshl, tr_ldiv, tr_lrem, tr_i2l, tr_l2i, tr_i2b, tr_lcmp, tr_dup, tr_dup2, tr_pop, tr_goto, tr_ifeq, tr_ifne, tr_iflt, tr_ifge, tr_ifgt, tr_ifle, tr_iceq, tr_icne, tr_iclt, tr_icge, tr_icgt, tr_icle, tr_ifnull, tr_ifnonnull, tr_sw, tr_getI, tr_getL, tr_getR, tr_putI, tr_putZ, tr_putL, tr_putR, tr_iald, tr_lald, tr_bald, tr_aald, tr_alen, tr_iast, tr_bast, tr_last, tr_aast, tr_newa, tr_anew, tr_new, tr_callV, tr_callS, tr_callI, tr_obj, tr_iret, tr_zret, tr_lret, tr_aret, tr_ret, Nat.reduceAdd, Nat.reduceMul, Nat.reduceDiv, Nat.reduceEqDiff, Nat.reduceLT, Nat.reduceLeDiff, ↓reduceIte, true_and, and_true, true_or, or_true, List.length_nil, List.length_cons, List.nil_append, List.cons_append, Option.toList_some, Option.toList_none, and_self, or_false, false_or, false_and, and_false, imp_self, forall_const, Nat.one_ne_zero, Nat.succ_ne_self, not_true_eq_false, not_false_eq_true, reduceCtorEq, Nat.add_eq_right, Nat.add_eq_left, Nat.add_left_cancel_iff, Nat.zero_add, Int32.reduceLT, Int32.reduceLE, Int32.reduceAdd, Int32.reduceSub, Int32.reduceMul, lg_cmp_ge, lg_cmp_le, lg_cmp_gt, lg_cmp_lt, lg_cmp_eq, i10, i01, eq_self, false_implies, true_implies, implies_true, cs, sp_in, hK, hk, in_n hn, a_X12_isKind_0, a_X12_isKind_1, a_X12_isKind_2, a_X12_isKind_3, a_X12_isKind_4, a_X12_isKind_7, a_X12_isKind_8, a_X12_isKind_9, a_X12_isKind_10, a_X12_isKind_13]
    exact ⟨h1, h0⟩
