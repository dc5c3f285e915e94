def wsL_late_r4 : List Cond := [Cond.instanceMethod yX3_goBackTo, Cond.selects RX3 yX3_goBackTo yX3_goBackTo, Cond.code yX3_goBackTo cX3_goBackTo 2 (some .int), Cond.methodLink RX3 174 arraycopyName, Cond.instanceMethod yX2_row, Cond.selects RX2 yX2_row yX2_row, Cond.code yX2_row cX2_row 2 (some (.array .float)), Cond.fieldLink RX2 17 "StateKeeper$Snapshots" "rows" "[[F", Cond.instanceMethod yX2_dropBehind, Cond.selects RX2 yX2_dropBehind yX2_dropBehind, Cond.code yX2_dropBehind cX2_dropBehind 3 (some .int), Cond.methodLink RX3 94 yX3_doSteps, Cond.instanceMethod yX3_doSteps, Cond.selects RX3 yX3_doSteps yX3_doSteps, Cond.code yX3_doSteps cX3_doSteps 3 none, Cond.fieldLink RX3 16 "StateKeeper" "driftList" "LStateKeeper$Drifts;", Cond.fieldLink RX3 150 "StateKeeper" "stepsDone" "I", Cond.fieldLink RX3 69 "StateKeeper" "interval" "I", Cond.instanceMethod yX1_putIn, Cond.selects RX1 yX1_putIn yX1_putIn, Cond.code yX1_putIn cX1_putIn 6 none, Cond.methodLink RX1 43 yX1_changed, Cond.static yX1_changed, Cond.code yX1_changed cX1_changed 3 (some .float)]
def wsL_late_r5 : List Cond := [Cond.static yX3_held, Cond.code yX3_held cX3_held 1 (some .float), Cond.instanceMethod yX0_flow, Cond.initialized RX0, Cond.selects RX0 yX0_flow yX0_flow, Cond.code yX0_flow cX0_flow 4 none, Cond.fieldLink RX0 22 "StateKeeper$Drifts" "size" "I", Cond.fieldLink RX0 15 "StateKeeper$Drifts" "targets" "[I", Cond.fieldLink RX0 9 "StateKeeper$Drifts" "sources" "[I", Cond.fieldLink RX0 18 "StateKeeper$Drifts" "factors" "[F", Cond.methodLink RX3 97 yX3_keepPresent, Cond.instanceMethod yX3_keepPresent, Cond.selects RX3 yX3_keepPresent yX3_keepPresent, Cond.code yX3_keepPresent cX3_keepPresent 2 none, Cond.instanceMethod yX2_take, Cond.selects RX2 yX2_take yX2_take, Cond.code yX2_take cX2_take 6 (some .boolean), Cond.methodLink RX2 37 arraycopyName, Cond.instanceMethod yX1_dropBelow, Cond.selects RX1 yX1_dropBelow yX1_dropBelow, Cond.code yX1_dropBelow cX1_dropBelow 3 none]
def wsL_late : List Cond := .codeWith yL_late cL_late 7 (some .int) [(0, 14, 17, 13), (0, 14, 21, 15), (0, 14, 25, 17)] :: ((wsL_late_r1 ++ (wsL_late_r2 ++ (wsL_late_r3 ++ (wsL_late_r4 ++ wsL_late_r5)))) ++ wsX30 ++ wsX10 ++ wsX20 ++ wsX00 ++ (vx_atS RX3 45 "java/lang/IllegalArgumentException" ["java/lang/RuntimeException", "java/lang/Exception"]).filter goodWord ++ (vx_atS RX3 56 "java/lang/IllegalStateException" ["java/lang/RuntimeException", "java/lang/Exception"]).filter goodWord ++ (vx_atS RX3 130 "java/lang/IndexOutOfBoundsException" ["java/lang/RuntimeException", "java/lang/Exception"]).filter goodWord)
def wsL_cell_ : List Cond := .codeWith yL_cell_ cL_cell_ 4 (some .int) [(0, 9, 12, 13)] :: ([.classLink RL 13 "java/lang/IndexOutOfBoundsException", .methodLink RL 43 yX3_cell, .instanceMethod yX3_cell, .selects RX3 yX3_cell yX3_cell, .initialized RX3, .code yX3_cell cX3_cell 2 (some .float), .fieldLink RX3 9 "StateKeeper" "cells" "[F", .methodLink RX3 36 yX3_needCell, .instanceMethod yX3_needCell, .selects RX3 yX3_needCell yX3_needCell, .code yX3_needCell cX3_needCell 2 none, .classLink RX3 126 "java/lang/IndexOutOfBoundsException", .initialized "java/lang/IndexOutOfBoundsException"] ++ wsX30 ++ (vx_atS RX3 130 "java/lang/IndexOutOfBoundsException" ["java/lang/RuntimeException", "java/lang/Exception"]).filter goodWord)
def wsL_kept_r1 : List Cond := [Cond.classLink RL 13 "java/lang/IndexOutOfBoundsException", Cond.methodLink RL 47 yX3_kept, Cond.instanceMethod yX3_kept, Cond.selects RX3 yX3_kept yX3_kept, Cond.initialized RX3, Cond.code yX3_kept cX3_kept 3 (some .float), Cond.fieldLink RX3 32 "StateKeeper" "snapshots" "LStateKeeper$Snapshots;", Cond.methodLink RX3 36 yX3_needCell, Cond.instanceMethod yX3_needCell, Cond.selects RX3 yX3_needCell yX3_needCell, Cond.code yX3_needCell cX3_needCell 2 none, Cond.classLink RX3 126 "java/lang/IndexOutOfBoundsException", Cond.initialized "java/lang/IndexOutOfBoundsException", Cond.fieldLink RX3 9 "StateKeeper" "cells" "[F", Cond.methodLink RX3 101 yX3_neededSnapshot, Cond.instanceMethod yX3_neededSnapshot, Cond.selects RX3 yX3_neededSnapshot yX3_neededSnapshot, Cond.code yX3_neededSnapshot cX3_neededSnapshot 3 (some .int), Cond.instanceMethod yX2_find, Cond.initialized RX2, Cond.selects RX2 yX2_find yX2_find, Cond.code yX2_find cX2_find 3 (some .int), Cond.methodLink RX2 31 yX2_highestNotAbove, Cond.instanceMethod yX2_highestNotAbove]
def wsL_kept_r2 : List Cond := [Cond.selects RX2 yX2_highestNotAbove yX2_highestNotAbove, Cond.code yX2_highestNotAbove cX2_highestNotAbove 3 (some .int), Cond.fieldLink RX2 20 "StateKeeper$Snapshots" "size" "I", Cond.methodLink RX2 34 yX2_stepOf, Cond.instanceMethod yX2_stepOf, Cond.selects RX2 yX2_stepOf yX2_stepOf, Cond.code yX2_stepOf cX2_stepOf 2 (some .int), Cond.fieldLink RX2 9 "StateKeeper$Snapshots" "steps" "[I", Cond.methodLink RX2 27 yX2_slot, Cond.instanceMethod yX2_slot, Cond.selects RX2 yX2_slot yX2_slot, Cond.code yX2_slot cX2_slot 2 (some .int), Cond.fieldLink RX2 24 "StateKeeper$Snapshots" "first" "I", Cond.instanceMethod yX2_row, Cond.selects RX2 yX2_row yX2_row, Cond.code yX2_row cX2_row 2 (some (.array .float)), Cond.fieldLink RX2 17 "StateKeeper$Snapshots" "rows" "[[F"]
def wsL_kept : List Cond := .codeWith yL_kept cL_kept 5 (some .int) [(0, 10, 13, 13)] :: ((wsL_kept_r1 ++ wsL_kept_r2) ++ wsX30 ++ wsX20 ++ (vx_atS RX3 130 "java/lang/IndexOutOfBoundsException" ["java/lang/RuntimeException", "java/lang/Exception"]).filter goodWord)
def wsL_differs_r1 : List Cond := [Cond.classLink RL 13 "java/lang/IndexOutOfBoundsException", Cond.methodLink RL 51 yX3_differs, Cond.instanceMethod yX3_differs, Cond.selects RX3 yX3_differs yX3_differs, Cond.initialized RX3, Cond.code yX3_differs cX3_differs 4 (some .int), Cond.fieldLink RX3 32 "StateKeeper" "snapshots" "LStateKeeper$Snapshots;", Cond.fieldLink RX3 9 "StateKeeper" "cells" "[F", Cond.methodLink RX3 101 yX3_neededSnapshot, Cond.instanceMethod yX3_neededSnapshot, Cond.selects RX3 yX3_neededSnapshot yX3_neededSnapshot, Cond.code yX3_neededSnapshot cX3_neededSnapshot 3 (some .int), Cond.classLink RX3 126 "java/lang/IndexOutOfBoundsException", Cond.initialized "java/lang/IndexOutOfBoundsException", Cond.instanceMethod yX2_find, Cond.initialized RX2, Cond.selects RX2 yX2_find yX2_find, Cond.code yX2_find cX2_find 3 (some .int), Cond.methodLink RX2 31 yX2_highestNotAbove, Cond.instanceMethod yX2_highestNotAbove, Cond.selects RX2 yX2_highestNotAbove yX2_highestNotAbove, Cond.code yX2_highestNotAbove cX2_highestNotAbove 3 (some .int), Cond.fieldLink RX2 20 "StateKeeper$Snapshots" "size" "I", Cond.methodLink RX2 34 yX2_stepOf]
def wsL_differs_r2 : List Cond := [Cond.instanceMethod yX2_stepOf, Cond.selects RX2 yX2_stepOf yX2_stepOf, Cond.code yX2_stepOf cX2_stepOf 2 (some .int), Cond.fieldLink RX2 9 "StateKeeper$Snapshots" "steps" "[I", Cond.methodLink RX2 27 yX2_slot, Cond.instanceMethod yX2_slot, Cond.selects RX2 yX2_slot yX2_slot, Cond.code yX2_slot cX2_slot 2 (some .int), Cond.fieldLink RX2 24 "StateKeeper$Snapshots" "first" "I", Cond.instanceMethod yX2_row, Cond.selects RX2 yX2_row yX2_row, Cond.code yX2_row cX2_row 2 (some (.array .float)), Cond.fieldLink RX2 17 "StateKeeper$Snapshots" "rows" "[[F"]
def wsL_differs : List Cond := .codeWith yL_differs cL_differs 4 (some .int) [(0, 9, 12, 13)] :: ((wsL_differs_r1 ++ wsL_differs_r2) ++ wsX30 ++ wsX20 ++ (vx_atS RX3 130 "java/lang/IndexOutOfBoundsException" ["java/lang/RuntimeException", "java/lang/Exception"]).filter goodWord)
def wsL_snapshot : List Cond := .codeWith yL_snapshot cL_snapshot 4 (some .int) [(0, 9, 12, 13)] :: ([.classLink RL 13 "java/lang/IndexOutOfBoundsException", .methodLink RL 54 yX3_snapshot, .instanceMethod yX3_snapshot, .selects RX3 yX3_snapshot yX3_snapshot, .initialized RX3, .code yX3_snapshot cX3_snapshot 2 (some .int), .classLink RX3 126 "java/lang/IndexOutOfBoundsException", .initialized "java/lang/IndexOutOfBoundsException", .fieldLink RX3 32 "StateKeeper" "snapshots" "LStateKeeper$Snapshots;", .instanceMethod yX2_stepOf, .initialized RX2, .selects RX2 yX2_stepOf yX2_stepOf, .code yX2_stepOf cX2_stepOf 2 (some .int), .fieldLink RX2 9 "StateKeeper$Snapshots" "steps" "[I", .methodLink RX2 27 yX2_slot, .instanceMethod yX2_slot, .selects RX2 yX2_slot yX2_slot, .code yX2_slot cX2_slot 2 (some .int), .fieldLink RX2 24 "StateKeeper$Snapshots" "first" "I"] ++ wsX30 ++ wsX20 ++ (vx_atS RX3 130 "java/lang/IndexOutOfBoundsException" ["java/lang/RuntimeException", "java/lang/Exception"]).filter goodWord)
def wsL_record : List Cond := .codeWith yL_record cL_record 6 (some .int) [(0, 12, 15, 13)] :: ([.classLink RL 13 "java/lang/IndexOutOfBoundsException", .methodLink RL 57 yX3_record, .instanceMethod yX3_record, .selects RX3 yX3_record yX3_record, .initialized RX3, .code yX3_record cX3_record 5 (some .int), .classLink RX3 126 "java/lang/IndexOutOfBoundsException", .initialized "java/lang/IndexOutOfBoundsException", .fieldLink RX3 23 "StateKeeper" "inputRecord" "LStateKeeper$InputRecord;", .methodLink RX3 134 yX3_neededPlace, .instanceMethod yX3_neededPlace, .selects RX3 yX3_neededPlace yX3_neededPlace, .code yX3_neededPlace cX3_neededPlace 3 (some .int), .instanceMethod yX1_sizeOf, .initialized RX1, .selects RX1 yX1_sizeOf yX1_sizeOf, .code yX1_sizeOf cX1_sizeOf 2 (some .int), .methodLink RX1 29 yX1_sizeBelow, .instanceMethod yX1_sizeBelow, .selects RX1 yX1_sizeBelow yX1_sizeBelow, .code yX1_sizeBelow cX1_sizeBelow 6 (some .int), .fieldLink RX1 25 "StateKeeper$InputRecord" "size" "I", .fieldLink RX1 9 "StateKeeper$InputRecord" "steps" "[I"] ++ wsX30 ++ wsX10 ++ (vx_atS RX3 130 "java/lang/IndexOutOfBoundsException" ["java/lang/RuntimeException", "java/lang/Exception"]).filter goodWord)
def wsL_recorded : List Cond := .codeWith yL_recorded cL_recorded 5 (some .int) [(0, 10, 13, 13)] :: ([.classLink RL 13 "java/lang/IndexOutOfBoundsException", .methodLink RL 61 yX3_recorded, .instanceMethod yX3_recorded, .selects RX3 yX3_recorded yX3_recorded, .initialized RX3, .code yX3_recorded cX3_recorded 3 (some .float), .fieldLink RX3 23 "StateKeeper" "inputRecord" "LStateKeeper$InputRecord;", .methodLink RX3 134 yX3_neededPlace, .instanceMethod yX3_neededPlace, .selects RX3 yX3_neededPlace yX3_neededPlace, .code yX3_neededPlace cX3_neededPlace 3 (some .int), .classLink RX3 126 "java/lang/IndexOutOfBoundsException", .initialized "java/lang/IndexOutOfBoundsException", .instanceMethod yX1_sizeOf, .initialized RX1, .selects RX1 yX1_sizeOf yX1_sizeOf, .code yX1_sizeOf cX1_sizeOf 2 (some .int), .methodLink RX1 29 yX1_sizeBelow, .instanceMethod yX1_sizeBelow, .selects RX1 yX1_sizeBelow yX1_sizeBelow, .code yX1_sizeBelow cX1_sizeBelow 6 (some .int), .fieldLink RX1 25 "StateKeeper$InputRecord" "size" "I", .fieldLink RX1 9 "StateKeeper$InputRecord" "steps" "[I"] ++ wsX30 ++ wsX10 ++ (vx_atS RX3 130 "java/lang/IndexOutOfBoundsException" ["java/lang/RuntimeException", "java/lang/Exception"]).filter goodWord)
def wsL_count_r1 : List Cond := [Cond.classLink RL 13 "java/lang/IndexOutOfBoundsException", Cond.methodLink RL 64 yX3_count, Cond.instanceMethod yX3_count, Cond.selects RX3 yX3_count yX3_count, Cond.initialized RX3, Cond.code yX3_count cX3_count 2 (some .int), Cond.classLink RX3 126 "java/lang/IndexOutOfBoundsException", Cond.initialized "java/lang/IndexOutOfBoundsException", Cond.fieldLink RX3 57 "StateKeeper" "present" "I", Cond.fieldLink RX3 9 "StateKeeper" "cells" "[F", Cond.fieldLink RX3 32 "StateKeeper" "snapshots" "LStateKeeper$Snapshots;", Cond.fieldLink RX3 23 "StateKeeper" "inputRecord" "LStateKeeper$InputRecord;", Cond.fieldLink RX3 16 "StateKeeper" "driftList" "LStateKeeper$Drifts;", Cond.fieldLink RX3 150 "StateKeeper" "stepsDone" "I", Cond.instanceMethod yX1_sizeOf, Cond.initialized RX1, Cond.selects RX1 yX1_sizeOf yX1_sizeOf, Cond.code yX1_sizeOf cX1_sizeOf 2 (some .int), Cond.methodLink RX1 29 yX1_sizeBelow, Cond.instanceMethod yX1_sizeBelow, Cond.selects RX1 yX1_sizeBelow yX1_sizeBelow, Cond.code yX1_sizeBelow cX1_sizeBelow 6 (some .int), Cond.fieldLink RX1 25 "StateKeeper$InputRecord" "size" "I", Cond.fieldLink RX1 9 "StateKeeper$InputRecord" "steps" "[I"]
def wsL_count_r2 : List Cond := [Cond.methodLink RX3 153 yX3_cellsNotZero, Cond.instanceMethod yX3_cellsNotZero, Cond.selects RX3 yX3_cellsNotZero yX3_cellsNotZero, Cond.code yX3_cellsNotZero cX3_cellsNotZero 3 (some .int)]
def wsL_count : List Cond := .codeWith yL_count cL_count 4 (some .int) [(0, 9, 12, 13)] :: ((wsL_count_r1 ++ wsL_count_r2) ++ wsX30 ++ wsX20 ++ wsX10 ++ wsX00 ++ (vx_atS RX3 130 "java/lang/IndexOutOfBoundsException" ["java/lang/RuntimeException", "java/lang/Exception"]).filter goodWord)
def wsL_law0_r1 : List Cond := [Cond.classLink RL 8 RX3, Cond.instantiable RX3 7, Cond.initialized RX3, Cond.classLink RL 75 RX4, Cond.instantiable RX4 18, Cond.initialized RX4, Cond.arrayClass .long, Cond.arrayClass .double, Cond.constantFloat RL 78 (1040187392), Cond.methodLink RL 67 yL_cell, Cond.static yL_cell, Cond.initialized RL, Cond.code yL_cell cL_cell 2 (some .int), Cond.methodLink RL 72 yX3_init, Cond.instanceMethod yX3_init, Cond.code yX3_init cX3_init 3 none, Cond.methodLink RX3 1 objectInit, Cond.instanceMethod objectInit, Cond.code objectInit ⟨#[0xb1]⟩ 1 none, Cond.arrayClass .float, Cond.fieldLink RX3 9 "StateKeeper" "cells" "[F", Cond.classLink RX3 13 RX0, Cond.instantiable RX0 4, Cond.initialized RX0]
def wsL_law0_r2 : List Cond := [Cond.fieldLink RX3 16 "StateKeeper" "driftList" "LStateKeeper$Drifts;", Cond.classLink RX3 20 RX1, Cond.instantiable RX1 5, Cond.initialized RX1, Cond.fieldLink RX3 23 "StateKeeper" "inputRecord" "LStateKeeper$InputRecord;", Cond.classLink RX3 27 RX2, Cond.instantiable RX2 4, Cond.initialized RX2, Cond.fieldLink RX3 32 "StateKeeper" "snapshots" "LStateKeeper$Snapshots;", Cond.instanceMethod yX0_init, Cond.code yX0_init cX0_init 1 none, Cond.methodLink RX0 3 objectInit, Cond.arrayClass .int, Cond.fieldLink RX0 9 "StateKeeper$Drifts" "sources" "[I", Cond.fieldLink RX0 15 "StateKeeper$Drifts" "targets" "[I", Cond.fieldLink RX0 18 "StateKeeper$Drifts" "factors" "[F", Cond.instanceMethod yX1_init, Cond.code yX1_init cX1_init 1 none, Cond.methodLink RX1 3 objectInit, Cond.fieldLink RX1 9 "StateKeeper$InputRecord" "steps" "[I", Cond.fieldLink RX1 15 "StateKeeper$InputRecord" "targets" "[I", Cond.fieldLink RX1 18 "StateKeeper$InputRecord" "ways" "[I", Cond.fieldLink RX1 21 "StateKeeper$InputRecord" "numbers" "[F", Cond.instanceMethod yX2_init]
def wsL_law0_r3 : List Cond := [Cond.code yX2_init cX2_init 2 none, Cond.methodLink RX2 3 objectInit, Cond.fieldLink RX2 9 "StateKeeper$Snapshots" "steps" "[I", Cond.classLink RX2 15 "[[F", Cond.fieldLink RX2 17 "StateKeeper$Snapshots" "rows" "[[F", Cond.fieldLink RX2 20 "StateKeeper$Snapshots" "size" "I", Cond.methodLink RL 77 yX4_init, Cond.instanceMethod yX4_init, Cond.code yX4_init cX4_init 2 none, Cond.methodLink RX4 1 objectInit, Cond.fieldLink RX4 7 "StateKeeperModel" "cells" "[F", Cond.fieldLink RX4 13 "StateKeeperModel" "from" "[I", Cond.fieldLink RX4 17 "StateKeeperModel" "to" "[I", Cond.fieldLink RX4 20 "StateKeeperModel" "factors" "[F", Cond.fieldLink RX4 23 "StateKeeperModel" "steps" "[I", Cond.fieldLink RX4 26 "StateKeeperModel" "which" "[I", Cond.fieldLink RX4 29 "StateKeeperModel" "ways" "[I", Cond.fieldLink RX4 32 "StateKeeperModel" "values" "[F", Cond.fieldLink RX4 35 "StateKeeperModel" "keptSteps" "[I", Cond.fieldLink RX4 38 "StateKeeperModel" "keptCells" "[F", Cond.fieldLink RX4 41 "StateKeeperModel" "n" "I", Cond.methodLink RX4 45 yX4_keepNow, Cond.instanceMethod yX4_keepNow, Cond.selects RX4 yX4_keepNow yX4_keepNow]
def wsL_law0_r4 : List Cond := [Cond.code yX4_keepNow cX4_keepNow 3 none, Cond.fieldLink RX4 62 "StateKeeperModel" "now" "I", Cond.fieldLink RX4 101 "StateKeeperModel" "snapshots" "I", Cond.methodLink RX4 104 yX4_placeOf, Cond.instanceMethod yX4_placeOf, Cond.selects RX4 yX4_placeOf yX4_placeOf, Cond.code yX4_placeOf cX4_placeOf 3 (some .int), Cond.methodLink RX4 107 yX4_moveDown, Cond.instanceMethod yX4_moveDown, Cond.selects RX4 yX4_moveDown yX4_moveDown, Cond.code yX4_moveDown cX4_moveDown 3 none, Cond.methodLink RX4 110 yX4_drop, Cond.instanceMethod yX4_drop, Cond.selects RX4 yX4_drop yX4_drop, Cond.code yX4_drop cX4_drop 6 (some .int), Cond.fieldLink RX4 65 "StateKeeperModel" "inputs" "I", Cond.methodLink RL 79 yL_drift, Cond.static yL_drift, Cond.codeWith yL_drift cL_drift 6 (some .int) [(0, 12, 15, 13), (0, 12, 19, 15), (0, 12, 23, 17)], Cond.classLink RL 13 "java/lang/IndexOutOfBoundsException", Cond.classLink RL 15 "java/lang/IllegalArgumentException", Cond.classLink RL 17 "java/lang/IllegalStateException", Cond.methodLink RL 7 yX3_drift, Cond.instanceMethod yX3_drift]
def wsL_law0_r5 : List Cond := [Cond.selects RX3 yX3_drift yX3_drift, Cond.code yX3_drift cX3_drift 4 (some .int), Cond.classLink RX3 41 "java/lang/IllegalArgumentException", Cond.initialized "java/lang/IllegalArgumentException", Cond.classLink RX3 52 "java/lang/IllegalStateException", Cond.initialized "java/lang/IllegalStateException", Cond.constantFloat RX3 39 (3229614080), Cond.constantFloat RX3 40 (1082130432), Cond.fieldLink RX3 57 "StateKeeper" "present" "I", Cond.methodLink RX3 36 yX3_needCell, Cond.instanceMethod yX3_needCell, Cond.selects RX3 yX3_needCell yX3_needCell, Cond.code yX3_needCell cX3_needCell 2 none, Cond.classLink RX3 126 "java/lang/IndexOutOfBoundsException", Cond.initialized "java/lang/IndexOutOfBoundsException", Cond.instanceMethod yX0_append, Cond.selects RX0 yX0_append yX0_append, Cond.code yX0_append cX0_append 4 none, Cond.fieldLink RX0 22 "StateKeeper$Drifts" "size" "I", Cond.methodLink RL 82 yX4_drift, Cond.instanceMethod yX4_drift, Cond.selects RX4 yX4_drift yX4_drift, Cond.code yX4_drift cX4_drift 4 (some .int), Cond.constantFloat RX4 57 (3229614080)]
def wsL_law0_r6 : List Cond := [Cond.constantFloat RX4 58 (1082130432), Cond.fieldLink RX4 59 "StateKeeperModel" "drifts" "I", Cond.methodLink RX4 53 yX4_known, Cond.instanceMethod yX4_known, Cond.selects RX4 yX4_known yX4_known, Cond.code yX4_known cX4_known 2 (some .boolean), Cond.methodLink RX4 68 yX4_goes, Cond.instanceMethod yX4_goes, Cond.selects RX4 yX4_goes yX4_goes, Cond.code yX4_goes cX4_goes 4 (some .boolean), Cond.fieldLink RX4 48 "StateKeeperModel" "thrown" "I", Cond.methodLink RL 83 yX4_thrown, Cond.instanceMethod yX4_thrown, Cond.selects RX4 yX4_thrown yX4_thrown, Cond.code yX4_thrown cX4_thrown 1 (some .int), Cond.methodLink RL 87 yL_every, Cond.static yL_every, Cond.codeWith yL_every cL_every 4 (some .int) [(0, 9, 12, 15)], Cond.methodLink RL 19 yX3_every, Cond.instanceMethod yX3_every, Cond.selects RX3 yX3_every yX3_every, Cond.code yX3_every cX3_every 3 (some .int), Cond.fieldLink RX3 69 "StateKeeper" "interval" "I", Cond.methodLink RL 90 yX4_every]
def wsL_law0_r7 : List Cond := [Cond.instanceMethod yX4_every, Cond.selects RX4 yX4_every yX4_every, Cond.code yX4_every cX4_every 3 (some .int), Cond.fieldLink RX4 72 "StateKeeperModel" "every" "I", Cond.methodLink RL 91 yL_input, Cond.static yL_input, Cond.codeWith yL_input cL_input 6 (some .int) [(0, 12, 15, 13), (0, 12, 19, 15), (0, 12, 23, 17)], Cond.methodLink RL 23 yX3_input, Cond.instanceMethod yX3_input, Cond.selects RX3 yX3_input yX3_input, Cond.code yX3_input cX3_input 4 (some .int), Cond.methodLink RX3 72 yX3_needWayAndNumber, Cond.static yX3_needWayAndNumber, Cond.code yX3_needWayAndNumber cX3_needWayAndNumber 2 none, Cond.constantFloat RX3 189 (3347054592), Cond.constantFloat RX3 190 (1199570944), Cond.methodLink RX3 76 yX3_needRoom, Cond.instanceMethod yX3_needRoom, Cond.selects RX3 yX3_needRoom yX3_needRoom, Cond.code yX3_needRoom cX3_needRoom 2 none, Cond.instanceMethod yX1_append, Cond.selects RX1 yX1_append yX1_append, Cond.code yX1_append cX1_append 6 none, Cond.fieldLink RX1 25 "StateKeeper$InputRecord" "size" "I"]
def wsL_law0_r8 : List Cond := [Cond.methodLink RX1 29 yX1_sizeBelow, Cond.instanceMethod yX1_sizeBelow, Cond.selects RX1 yX1_sizeBelow yX1_sizeBelow, Cond.code yX1_sizeBelow cX1_sizeBelow 6 (some .int), Cond.methodLink RX1 33 yX1_moveRest, Cond.instanceMethod yX1_moveRest, Cond.selects RX1 yX1_moveRest yX1_moveRest, Cond.code yX1_moveRest cX1_moveRest 4 none, Cond.methodLink RX1 37 arraycopyName, Cond.native arraycopyName, Cond.static arraycopyName, Cond.initialized "java/lang/System", Cond.instanceMethod yX1_sizeOf, Cond.selects RX1 yX1_sizeOf yX1_sizeOf, Cond.code yX1_sizeOf cX1_sizeOf 2 (some .int), Cond.methodLink RL 93 yX4_input, Cond.instanceMethod yX4_input, Cond.selects RX4 yX4_input yX4_input, Cond.code yX4_input cX4_input 4 (some .int), Cond.methodLink RX4 75 yX4_within, Cond.static yX4_within, Cond.code yX4_within cX4_within 1 (some .boolean), Cond.constantFloat RX4 51 (3347054592), Cond.constantFloat RX4 52 (1199570944)]
def wsL_law0_r9 : List Cond := [Cond.methodLink RX4 79 yX4_put, Cond.instanceMethod yX4_put, Cond.selects RX4 yX4_put yX4_put, Cond.code yX4_put cX4_put 5 none, Cond.methodLink RX4 83 yX4_inputsOf, Cond.instanceMethod yX4_inputsOf, Cond.selects RX4 yX4_inputsOf yX4_inputsOf, Cond.code yX4_inputsOf cX4_inputsOf 4 (some .int), Cond.methodLink RL 94 yL_inputs, Cond.static yL_inputs, Cond.codeWith yL_inputs cL_inputs 8 (some .int) [(0, 16, 19, 13), (0, 16, 23, 15), (0, 16, 27, 17)], Cond.methodLink RL 26 yX3_inputs, Cond.instanceMethod yX3_inputs, Cond.selects RX3 yX3_inputs yX3_inputs, Cond.code yX3_inputs cX3_inputs 7 (some .int), Cond.methodLink RX3 88 yX3_needLastCell, Cond.instanceMethod yX3_needLastCell, Cond.selects RX3 yX3_needLastCell yX3_needLastCell, Cond.code yX3_needLastCell cX3_needLastCell 6 none, Cond.methodLink RL 97 yX4_inputs, Cond.instanceMethod yX4_inputs, Cond.selects RX4 yX4_inputs yX4_inputs, Cond.code yX4_inputs cX4_inputs 11 (some .int), Cond.methodLink RL 98 yL_step]
def wsL_law0_r10 : List Cond := [Cond.static yL_step, Cond.codeWith yL_step cL_step 4 (some .int) [(0, 9, 12, 15)], Cond.methodLink RL 30 yX3_step, Cond.instanceMethod yX3_step, Cond.selects RX3 yX3_step yX3_step, Cond.code yX3_step cX3_step 2 (some .int), Cond.methodLink RX3 94 yX3_doSteps, Cond.instanceMethod yX3_doSteps, Cond.selects RX3 yX3_doSteps yX3_doSteps, Cond.code yX3_doSteps cX3_doSteps 3 none, Cond.fieldLink RX3 150 "StateKeeper" "stepsDone" "I", Cond.instanceMethod yX1_putIn, Cond.selects RX1 yX1_putIn yX1_putIn, Cond.code yX1_putIn cX1_putIn 6 none, Cond.methodLink RX1 43 yX1_changed, Cond.static yX1_changed, Cond.code yX1_changed cX1_changed 3 (some .float), Cond.static yX3_held, Cond.code yX3_held cX3_held 1 (some .float), Cond.instanceMethod yX0_flow, Cond.selects RX0 yX0_flow yX0_flow, Cond.code yX0_flow cX0_flow 4 none, Cond.methodLink RX3 97 yX3_keepPresent, Cond.instanceMethod yX3_keepPresent]
def wsL_law0_r11 : List Cond := [Cond.selects RX3 yX3_keepPresent yX3_keepPresent, Cond.code yX3_keepPresent cX3_keepPresent 2 none, Cond.instanceMethod yX2_take, Cond.selects RX2 yX2_take yX2_take, Cond.code yX2_take cX2_take 6 (some .boolean), Cond.fieldLink RX2 24 "StateKeeper$Snapshots" "first" "I", Cond.methodLink RX2 37 arraycopyName, Cond.methodLink RX2 34 yX2_stepOf, Cond.instanceMethod yX2_stepOf, Cond.selects RX2 yX2_stepOf yX2_stepOf, Cond.code yX2_stepOf cX2_stepOf 2 (some .int), Cond.methodLink RX2 27 yX2_slot, Cond.instanceMethod yX2_slot, Cond.selects RX2 yX2_slot yX2_slot, Cond.code yX2_slot cX2_slot 2 (some .int), Cond.instanceMethod yX1_dropBelow, Cond.selects RX1 yX1_dropBelow yX1_dropBelow, Cond.code yX1_dropBelow cX1_dropBelow 3 none, Cond.methodLink RL 100 yX4_step, Cond.instanceMethod yX4_step, Cond.selects RX4 yX4_step yX4_step, Cond.code yX4_step cX4_step 3 (some .int), Cond.methodLink RX4 98 yX4_once, Cond.instanceMethod yX4_once]
def wsL_law0_r12 : List Cond := [Cond.selects RX4 yX4_once yX4_once, Cond.code yX4_once cX4_once 2 none, Cond.fieldLink RX4 95 "StateKeeperModel" "done" "I", Cond.methodLink RX4 91 yX4_act, Cond.instanceMethod yX4_act, Cond.selects RX4 yX4_act yX4_act, Cond.code yX4_act cX4_act 3 none, Cond.methodLink RX4 87 yX4_held, Cond.static yX4_held, Cond.code yX4_held cX4_held 1 (some .float), Cond.methodLink RL 101 yX3_keep, Cond.instanceMethod yX3_keep, Cond.selects RX3 yX3_keep yX3_keep, Cond.code yX3_keep cX3_keep 1 (some .int), Cond.methodLink RL 104 yX4_keep, Cond.instanceMethod yX4_keep, Cond.selects RX4 yX4_keep yX4_keep, Cond.code yX4_keep cX4_keep 1 (some .int), Cond.methodLink RL 105 yL_back, Cond.static yL_back, Cond.codeWith yL_back cL_back 4 (some .int) [(0, 9, 12, 13)], Cond.methodLink RL 33 yX3_back, Cond.instanceMethod yX3_back, Cond.selects RX3 yX3_back yX3_back]
def wsL_law0_r13 : List Cond := [Cond.code yX3_back cX3_back 2 (some .int), Cond.methodLink RX3 101 yX3_neededSnapshot, Cond.instanceMethod yX3_neededSnapshot, Cond.selects RX3 yX3_neededSnapshot yX3_neededSnapshot, Cond.code yX3_neededSnapshot cX3_neededSnapshot 3 (some .int), Cond.instanceMethod yX2_find, Cond.selects RX2 yX2_find yX2_find, Cond.code yX2_find cX2_find 3 (some .int), Cond.methodLink RX2 31 yX2_highestNotAbove, Cond.instanceMethod yX2_highestNotAbove, Cond.selects RX2 yX2_highestNotAbove yX2_highestNotAbove, Cond.code yX2_highestNotAbove cX2_highestNotAbove 3 (some .int), Cond.methodLink RX3 104 yX3_goBackTo, Cond.instanceMethod yX3_goBackTo, Cond.selects RX3 yX3_goBackTo yX3_goBackTo, Cond.code yX3_goBackTo cX3_goBackTo 2 (some .int), Cond.methodLink RX3 174 arraycopyName, Cond.instanceMethod yX2_row, Cond.selects RX2 yX2_row yX2_row, Cond.code yX2_row cX2_row 2 (some (.array .float)), Cond.instanceMethod yX2_dropBehind, Cond.selects RX2 yX2_dropBehind yX2_dropBehind, Cond.code yX2_dropBehind cX2_dropBehind 3 (some .int), Cond.methodLink RL 107 yX4_back]
def wsL_law0_r14 : List Cond := [Cond.instanceMethod yX4_back, Cond.selects RX4 yX4_back yX4_back, Cond.code yX4_back cX4_back 3 (some .int), Cond.methodLink RX4 114 yX4_goBack, Cond.instanceMethod yX4_goBack, Cond.selects RX4 yX4_goBack yX4_goBack, Cond.code yX4_goBack cX4_goBack 4 (some .int), Cond.methodLink RL 108 yL_forget, Cond.static yL_forget, Cond.codeWith yL_forget cL_forget 4 (some .int) [(0, 9, 12, 15)], Cond.methodLink RL 36 yX3_forget, Cond.instanceMethod yX3_forget, Cond.selects RX3 yX3_forget yX3_forget, Cond.code yX3_forget cX3_forget 2 (some .int), Cond.instanceMethod yX1_dropFrom, Cond.selects RX1 yX1_dropFrom yX1_dropFrom, Cond.code yX1_dropFrom cX1_dropFrom 3 (some .int), Cond.methodLink RL 110 yX4_forget, Cond.instanceMethod yX4_forget, Cond.selects RX4 yX4_forget yX4_forget, Cond.code yX4_forget cX4_forget 2 (some .int), Cond.constant RX4 117 (2147483647), Cond.methodLink RL 111 yL_late, Cond.static yL_late]
def wsL_law0_r15 : List Cond := [Cond.codeWith yL_late cL_late 7 (some .int) [(0, 14, 17, 13), (0, 14, 21, 15), (0, 14, 25, 17)], Cond.methodLink RL 39 yX3_late, Cond.instanceMethod yX3_late, Cond.selects RX3 yX3_late yX3_late, Cond.code yX3_late cX3_late 6 (some .int), Cond.methodLink RX3 119 yX3_stepAgainFrom, Cond.instanceMethod yX3_stepAgainFrom, Cond.selects RX3 yX3_stepAgainFrom yX3_stepAgainFrom, Cond.code yX3_stepAgainFrom cX3_stepAgainFrom 4 (some .int), Cond.methodLink RL 114 yX4_late, Cond.instanceMethod yX4_late, Cond.selects RX4 yX4_late yX4_late, Cond.code yX4_late cX4_late 11 (some .int), Cond.methodLink RX4 118 yX4_highest, Cond.instanceMethod yX4_highest, Cond.selects RX4 yX4_highest yX4_highest, Cond.code yX4_highest cX4_highest 4 (some .int), Cond.methodLink RL 115 yL_cell_, Cond.static yL_cell_, Cond.codeWith yL_cell_ cL_cell_ 4 (some .int) [(0, 9, 12, 13)], Cond.methodLink RL 43 yX3_cell, Cond.instanceMethod yX3_cell, Cond.selects RX3 yX3_cell yX3_cell, Cond.code yX3_cell cX3_cell 2 (some .float)]
def wsL_law0_r16 : List Cond := [Cond.methodLink RL 118 yX4_cell, Cond.instanceMethod yX4_cell, Cond.selects RX4 yX4_cell yX4_cell, Cond.code yX4_cell cX4_cell 2 (some .float), Cond.methodLink RL 119 yL_kept, Cond.static yL_kept, Cond.codeWith yL_kept cL_kept 5 (some .int) [(0, 10, 13, 13)], Cond.methodLink RL 47 yX3_kept, Cond.instanceMethod yX3_kept, Cond.selects RX3 yX3_kept yX3_kept, Cond.code yX3_kept cX3_kept 3 (some .float), Cond.methodLink RL 122 yX4_kept, Cond.instanceMethod yX4_kept, Cond.selects RX4 yX4_kept yX4_kept, Cond.code yX4_kept cX4_kept 4 (some .float), Cond.methodLink RL 123 yL_differs, Cond.static yL_differs, Cond.codeWith yL_differs cL_differs 4 (some .int) [(0, 9, 12, 13)], Cond.methodLink RL 51 yX3_differs, Cond.instanceMethod yX3_differs, Cond.selects RX3 yX3_differs yX3_differs, Cond.code yX3_differs cX3_differs 4 (some .int), Cond.methodLink RL 125 yX4_differs, Cond.instanceMethod yX4_differs]
def wsL_law0_r17 : List Cond := [Cond.selects RX4 yX4_differs yX4_differs, Cond.code yX4_differs cX4_differs 4 (some .int), Cond.methodLink RL 126 yL_snapshot, Cond.static yL_snapshot, Cond.codeWith yL_snapshot cL_snapshot 4 (some .int) [(0, 9, 12, 13)], Cond.methodLink RL 54 yX3_snapshot, Cond.instanceMethod yX3_snapshot, Cond.selects RX3 yX3_snapshot yX3_snapshot, Cond.code yX3_snapshot cX3_snapshot 2 (some .int), Cond.methodLink RL 128 yX4_snapshot, Cond.instanceMethod yX4_snapshot, Cond.selects RX4 yX4_snapshot yX4_snapshot, Cond.code yX4_snapshot cX4_snapshot 2 (some .int), Cond.methodLink RL 129 yL_record, Cond.static yL_record, Cond.codeWith yL_record cL_record 6 (some .int) [(0, 12, 15, 13)], Cond.methodLink RL 57 yX3_record, Cond.instanceMethod yX3_record, Cond.selects RX3 yX3_record yX3_record, Cond.code yX3_record cX3_record 5 (some .int), Cond.methodLink RX3 134 yX3_neededPlace, Cond.instanceMethod yX3_neededPlace, Cond.selects RX3 yX3_neededPlace yX3_neededPlace, Cond.code yX3_neededPlace cX3_neededPlace 3 (some .int)]
def wsL_law0_r18 : List Cond := [Cond.methodLink RL 132 yX4_record, Cond.instanceMethod yX4_record, Cond.selects RX4 yX4_record yX4_record, Cond.code yX4_record cX4_record 5 (some .int), Cond.methodLink RX4 121 yX4_find, Cond.instanceMethod yX4_find, Cond.selects RX4 yX4_find yX4_find, Cond.code yX4_find cX4_find 5 (some .int), Cond.methodLink RL 133 yL_recorded, Cond.static yL_recorded, Cond.codeWith yL_recorded cL_recorded 5 (some .int) [(0, 10, 13, 13)], Cond.methodLink RL 61 yX3_recorded, Cond.instanceMethod yX3_recorded, Cond.selects RX3 yX3_recorded yX3_recorded, Cond.code yX3_recorded cX3_recorded 3 (some .float), Cond.methodLink RL 135 yX4_recorded, Cond.instanceMethod yX4_recorded, Cond.selects RX4 yX4_recorded yX4_recorded, Cond.code yX4_recorded cX4_recorded 4 (some .float), Cond.methodLink RL 136 yL_count, Cond.static yL_count, Cond.codeWith yL_count cL_count 4 (some .int) [(0, 9, 12, 13)], Cond.methodLink RL 64 yX3_count, Cond.instanceMethod yX3_count]
def wsL_law0_r19 : List Cond := [Cond.selects RX3 yX3_count yX3_count, Cond.code yX3_count cX3_count 2 (some .int), Cond.methodLink RX3 153 yX3_cellsNotZero, Cond.instanceMethod yX3_cellsNotZero, Cond.selects RX3 yX3_cellsNotZero yX3_cellsNotZero, Cond.code yX3_cellsNotZero cX3_cellsNotZero 3 (some .int), Cond.methodLink RL 138 yX4_count, Cond.instanceMethod yX4_count, Cond.selects RX4 yX4_count yX4_count, Cond.code yX4_count cX4_count 4 (some .int), Cond.methodLink RL 139 yX3_sum, Cond.instanceMethod yX3_sum, Cond.selects RX3 yX3_sum yX3_sum, Cond.code yX3_sum cX3_sum 3 (some .float), Cond.methodLink RL 143 yX4_sum, Cond.instanceMethod yX4_sum, Cond.selects RX4 yX4_sum yX4_sum, Cond.code yX4_sum cX4_sum 3 (some .float)]
def wsL_law0 : List Cond := (wsL_law0_r1 ++ (wsL_law0_r2 ++ (wsL_law0_r3 ++ (wsL_law0_r4 ++ (wsL_law0_r5 ++ (wsL_law0_r6 ++ (wsL_law0_r7 ++ (wsL_law0_r8 ++ (wsL_law0_r9 ++ (wsL_law0_r10 ++ (wsL_law0_r11 ++ (wsL_law0_r12 ++ (wsL_law0_r13 ++ (wsL_law0_r14 ++ (wsL_law0_r15 ++ (wsL_law0_r16 ++ (wsL_law0_r17 ++ (wsL_law0_r18 ++ wsL_law0_r19)))))))))))))))))) ++ wsX30 ++ wsX40 ++ wsX00 ++ wsX10 ++ wsX20 ++ ([] : List Cond)
def wsL_law : List Cond := wsL_law0 ++ (vx_atS RX3 45 "java/lang/IllegalArgumentException" ["java/lang/RuntimeException", "java/lang/Exception"]).filter goodWord ++ (vx_atS RX3 56 "java/lang/IllegalStateException" ["java/lang/RuntimeException", "java/lang/Exception"]).filter goodWord ++ (vx_atS RX3 130 "java/lang/IndexOutOfBoundsException" ["java/lang/RuntimeException", "java/lang/Exception"]).filter goodWord
theorem mem_r {big ws : List Cond} (ps : List Nat) (hp : ws = ps.filterMap (fun i => big[i]?)) : ∀ w ∈ ws, w ∈ big := by
  intro w hw
  rw [hp] at hw
  obtain ⟨i, -, hi⟩ := List.mem_filterMap.mp hw
  exact List.mem_of_getElem? hi
set_option maxRecDepth 20000 in
theorem wsL_i1 : ∀ w ∈ wsL_law0_r1, w ∈ lw_tbl := mem_r [53, 54, 41, 514, 515, 45, 711, 712, 710, 194, 195, 40, 196, 55, 56, 57, 58, 59, 60, 81, 131, 61, 62, 42] (by decide +kernel)
set_option maxRecDepth 20000 in
theorem wsL_i2 : ∀ w ∈ wsL_law0_r2, w ∈ lw_tbl := mem_r [132, 83, 84, 43, 133, 109, 110, 44, 134, 64, 65, 66, 82, 67, 68, 69, 86, 87, 88, 89, 90, 92, 94, 112] (by decide +kernel)
set_option maxRecDepth 20000 in
theorem wsL_i3 : ∀ w ∈ wsL_law0_r3, w ∈ lw_tbl := mem_r [113, 114, 117, 115, 118, 120, 516, 517, 518, 519, 538, 543, 544, 545, 547, 548, 549, 550, 552, 553, 537, 520, 522, 27] (by decide +kernel)
set_option maxRecDepth 20000 in
theorem wsL_i4 : ∀ w ∈ wsL_law0_r4, w ∈ lw_tbl := mem_r [523, 539, 551, 524, 526, 28, 527, 528, 530, 29, 531, 532, 534, 30, 535, 546, 197, 198, 199, 200, 201, 202, 203, 204] (by decide +kernel)
set_option maxRecDepth 20000 in
theorem wsL_i5 : ∀ w ∈ wsL_law0_r5, w ∈ lw_tbl := mem_r [205, 206, 281, 50, 297, 51, 279, 280, 135, 207, 209, 7, 210, 211, 49, 316, 9, 317, 70, 595, 596, 597, 598, 603] (by decide +kernel)
set_option maxRecDepth 20000 in
theorem wsL_i6 : ∀ w ∈ wsL_law0_r6, w ∈ lw_tbl := mem_r [604, 542, 599, 601, 31, 602, 605, 607, 32, 608, 536, 591, 592, 593, 594, 318, 319, 320, 321, 322, 323, 324, 136, 609] (by decide +kernel)
set_option maxRecDepth 20000 in
theorem wsL_i7 : ∀ w ∈ wsL_law0_r7, w ∈ lw_tbl := mem_r [610, 611, 612, 540, 326, 327, 328, 329, 330, 331, 332, 333, 334, 335, 337, 338, 340, 342, 10, 343, 347, 11, 348, 96] (by decide +kernel)
set_option maxRecDepth 20000 in
theorem wsL_i8 : ∀ w ∈ wsL_law0_r8, w ∈ lw_tbl := mem_r [181, 183, 5, 184, 185, 187, 6, 188, 189, 175, 174, 52, 351, 12, 352, 613, 614, 615, 616, 617, 618, 619, 620, 621] (by decide +kernel)
set_option maxRecDepth 20000 in
theorem wsL_i9 : ∀ w ∈ wsL_law0_r9, w ∈ lw_tbl := mem_r [622, 624, 33, 625, 626, 628, 34, 629, 353, 354, 355, 356, 357, 358, 359, 361, 363, 13, 364, 630, 631, 632, 633, 366] (by decide +kernel)
set_option maxRecDepth 20000 in
theorem wsL_i10 : ∀ w ∈ wsL_law0_r10, w ∈ lw_tbl := mem_r [367, 368, 369, 370, 371, 372, 374, 376, 14, 377, 137, 380, 15, 381, 382, 383, 384, 386, 387, 390, 16, 391, 157, 159] (by decide +kernel)
set_option maxRecDepth 20000 in
theorem wsL_i11 : ∀ w ∈ wsL_law0_r11, w ∈ lw_tbl := mem_r [0, 160, 163, 1, 164, 119, 173, 165, 167, 2, 168, 169, 171, 3, 172, 179, 4, 180, 634, 635, 636, 637, 638, 640] (by decide +kernel)
set_option maxRecDepth 20000 in
theorem wsL_i12 : ∀ w ∈ wsL_law0_r12, w ∈ lw_tbl := mem_r [35, 641, 541, 642, 644, 36, 645, 646, 647, 648, 153, 154, 155, 156, 649, 650, 651, 652, 393, 394, 395, 396, 397, 398] (by decide +kernel)
set_option maxRecDepth 20000 in
theorem wsL_i13 : ∀ w ∈ wsL_law0_r13, w ∈ lw_tbl := mem_r [399, 400, 402, 17, 403, 406, 18, 407, 408, 410, 19, 411, 413, 415, 20, 416, 421, 419, 21, 420, 424, 22, 425, 653] (by decide +kernel)
set_option maxRecDepth 20000 in
theorem wsL_i14 : ∀ w ∈ wsL_law0_r14, w ∈ lw_tbl := mem_r [654, 655, 656, 657, 659, 37, 660, 426, 427, 428, 429, 430, 431, 432, 436, 23, 437, 661, 662, 663, 664, 665, 438, 439] (by decide +kernel)
set_option maxRecDepth 20000 in
theorem wsL_i15 : ∀ w ∈ wsL_law0_r15, w ∈ lw_tbl := mem_r [440, 441, 442, 443, 444, 448, 450, 24, 451, 666, 667, 668, 669, 670, 672, 38, 673, 452, 453, 454, 455, 456, 457, 458] (by decide +kernel)
set_option maxRecDepth 20000 in
theorem wsL_i16 : ∀ w ∈ wsL_law0_r16, w ∈ lw_tbl := mem_r [674, 675, 676, 677, 459, 460, 461, 462, 463, 464, 465, 678, 679, 680, 681, 466, 467, 468, 469, 470, 471, 472, 682, 683] (by decide +kernel)
set_option maxRecDepth 20000 in
theorem wsL_i17 : ∀ w ∈ wsL_law0_r17, w ∈ lw_tbl := mem_r [684, 685, 473, 474, 475, 476, 477, 478, 479, 686, 687, 688, 689, 481, 482, 483, 484, 485, 486, 487, 488, 490, 25, 491] (by decide +kernel)
set_option maxRecDepth 20000 in
theorem wsL_i18 : ∀ w ∈ wsL_law0_r18, w ∈ lw_tbl := mem_r [690, 691, 692, 693, 694, 696, 39, 697, 495, 496, 497, 498, 499, 500, 501, 698, 699, 700, 701, 502, 503, 504, 505, 506] (by decide +kernel)
set_option maxRecDepth 20000 in
theorem wsL_i19 : ∀ w ∈ wsL_law0_r19, w ∈ lw_tbl := mem_r [507, 508, 509, 511, 26, 512, 702, 703, 704, 705, 190, 191, 192, 193, 706, 707, 708, 709] (by decide +kernel)
set_option maxRecDepth 20000 in
theorem wsL_iX3 : ∀ w ∈ wsX30, w ∈ lw_tbl := mem_r [138, 140, 142, 144, 146, 148, 150] (by decide +kernel)
set_option maxRecDepth 20000 in
theorem wsL_iX4 : ∀ w ∈ wsX40, w ∈ lw_tbl := mem_r [554, 556, 558, 560, 562, 564, 566, 568, 570, 572, 574, 576, 578, 580, 582, 584, 586, 588] (by decide +kernel)
set_option maxRecDepth 20000 in
theorem wsL_iX0 : ∀ w ∈ wsX00, w ∈ lw_tbl := mem_r [72, 74, 76, 78] (by decide +kernel)
set_option maxRecDepth 20000 in
theorem wsL_iX1 : ∀ w ∈ wsX10, w ∈ lw_tbl := mem_r [98, 100, 102, 104, 106] (by decide +kernel)
set_option maxRecDepth 20000 in
theorem wsL_iX2 : ∀ w ∈ wsX20, w ∈ lw_tbl := mem_r [122, 124, 126, 128] (by decide +kernel)
theorem wsL_law_in0 : ∀ w ∈ wsL_law0, w ∈ lw_tbl := (List.forall_mem_append.mpr ⟨(List.forall_mem_append.mpr ⟨(List.forall_mem_append.mpr ⟨(List.forall_mem_append.mpr ⟨(List.forall_mem_append.mpr ⟨(List.forall_mem_append.mpr ⟨(List.forall_mem_append.mpr ⟨wsL_i1, (List.forall_mem_append.mpr ⟨wsL_i2, (List.forall_mem_append.mpr ⟨wsL_i3, (List.forall_mem_append.mpr ⟨wsL_i4, (List.forall_mem_append.mpr ⟨wsL_i5, (List.forall_mem_append.mpr ⟨wsL_i6, (List.forall_mem_append.mpr ⟨wsL_i7, (List.forall_mem_append.mpr ⟨wsL_i8, (List.forall_mem_append.mpr ⟨wsL_i9, (List.forall_mem_append.mpr ⟨wsL_i10, (List.forall_mem_append.mpr ⟨wsL_i11, (List.forall_mem_append.mpr ⟨wsL_i12, (List.forall_mem_append.mpr ⟨wsL_i13, (List.forall_mem_append.mpr ⟨wsL_i14, (List.forall_mem_append.mpr ⟨wsL_i15, (List.forall_mem_append.mpr ⟨wsL_i16, (List.forall_mem_append.mpr ⟨wsL_i17, (List.forall_mem_append.mpr ⟨wsL_i18, wsL_i19⟩)⟩)⟩)⟩)⟩)⟩)⟩)⟩)⟩)⟩)⟩)⟩)⟩)⟩)⟩)⟩)⟩)⟩), wsL_iX3⟩), wsL_iX4⟩), wsL_iX0⟩), wsL_iX1⟩), wsL_iX2⟩), fun _ h => nomatch h⟩)
theorem wsL_law_x0 : ∀ w ∈ (vx_atS RX3 45 "java/lang/IllegalArgumentException" ["java/lang/RuntimeException", "java/lang/Exception"]).filter goodWord, w ∈ lw_tbl := by decide +kernel
theorem wsL_law_x1 : ∀ w ∈ (vx_atS RX3 56 "java/lang/IllegalStateException" ["java/lang/RuntimeException", "java/lang/Exception"]).filter goodWord, w ∈ lw_tbl := by decide +kernel
theorem wsL_law_x2 : ∀ w ∈ (vx_atS RX3 130 "java/lang/IndexOutOfBoundsException" ["java/lang/RuntimeException", "java/lang/Exception"]).filter goodWord, w ∈ lw_tbl := by decide +kernel
theorem wsL_law_in : ∀ w ∈ wsL_law, w ∈ lw_tbl := fun w h => (List.mem_append.mp h).elim (fun h => (List.mem_append.mp h).elim (fun h => (List.mem_append.mp h).elim (fun h => wsL_law_in0 w h) (fun h => wsL_law_x0 w h)) (fun h => wsL_law_x1 w h)) (fun h => wsL_law_x2 w h)
theorem inlX0 : ∀ w ∈ wsX00, w ∈ wsL_law := fun _ h => List.mem_append_left _ (List.mem_append_left _ (List.mem_append_left _ (List.mem_append_left _ (List.mem_append_left _ (List.mem_append_left _ (List.mem_append_right _ h))))))
theorem inX0 : ∀ w ∈ wsX00, w ∈ lw_tbl := fun w h => wsL_law_in w (inlX0 w h)
theorem inlX1 : ∀ w ∈ wsX10, w ∈ wsL_law := fun _ h => List.mem_append_left _ (List.mem_append_left _ (List.mem_append_left _ (List.mem_append_left _ (List.mem_append_left _ (List.mem_append_right _ h)))))
theorem inX1 : ∀ w ∈ wsX10, w ∈ lw_tbl := fun w h => wsL_law_in w (inlX1 w h)
theorem inlX2 : ∀ w ∈ wsX20, w ∈ wsL_law := fun _ h => List.mem_append_left _ (List.mem_append_left _ (List.mem_append_left _ (List.mem_append_left _ (List.mem_append_right _ h))))
theorem inX2 : ∀ w ∈ wsX20, w ∈ lw_tbl := fun w h => wsL_law_in w (inlX2 w h)
theorem inlX3 : ∀ w ∈ wsX30, w ∈ wsL_law := fun _ h => List.mem_append_left _ (List.mem_append_left _ (List.mem_append_left _ (List.mem_append_left _ (List.mem_append_left _ (List.mem_append_left _ (List.mem_append_left _ (List.mem_append_left _ (List.mem_append_right _ h))))))))
theorem inX3 : ∀ w ∈ wsX30, w ∈ lw_tbl := fun w h => wsL_law_in w (inlX3 w h)
theorem inlX4 : ∀ w ∈ wsX40, w ∈ wsL_law := fun _ h => List.mem_append_left _ (List.mem_append_left _ (List.mem_append_left _ (List.mem_append_left _ (List.mem_append_left _ (List.mem_append_left _ (List.mem_append_left _ (List.mem_append_right _ h)))))))
theorem inX4 : ∀ w ∈ wsX40, w ∈ lw_tbl := fun w h => wsL_law_in w (inlX4 w h)
theorem inJ0 : ∀ w ∈ wsJ00, w ∈ lw_tbl := by decide +kernel
theorem inJ10 : ∀ w ∈ wsJ100, w ∈ lw_tbl := by decide +kernel
theorem dX0_init_0 : decode cX0_init 0 = .ok (.aload_n 0, 1) := by decide +kernel
theorem dX0_init_1 : decode cX0_init 1 = .ok (.invokespecial 3, 3) := by decide +kernel
theorem dX0_init_4 : decode cX0_init 4 = .ok (.aload_n 0, 1) := by decide +kernel
theorem dX0_init_5 : decode cX0_init 5 = .ok (.bipush 64, 2) := by decide +kernel
theorem dX0_init_7 : decode cX0_init 7 = .ok (.newarray .int, 2) := by decide +kernel
theorem dX0_init_9 : decode cX0_init 9 = .ok (.putfield 9, 3) := by decide +kernel
theorem dX0_init_12 : decode cX0_init 12 = .ok (.aload_n 0, 1) := by decide +kernel
theorem dX0_init_13 : decode cX0_init 13 = .ok (.bipush 64, 2) := by decide +kernel
theorem dX0_init_15 : decode cX0_init 15 = .ok (.newarray .int, 2) := by decide +kernel
theorem dX0_init_17 : decode cX0_init 17 = .ok (.putfield 15, 3) := by decide +kernel
theorem dX0_init_20 : decode cX0_init 20 = .ok (.aload_n 0, 1) := by decide +kernel
theorem dX0_init_21 : decode cX0_init 21 = .ok (.bipush 64, 2) := by decide +kernel
theorem dX0_init_23 : decode cX0_init 23 = .ok (.newarray .float, 2) := by decide +kernel
theorem dX0_init_25 : decode cX0_init 25 = .ok (.putfield 18, 3) := by decide +kernel
theorem dX0_init_28 : decode cX0_init 28 = .ok (.return_, 1) := by decide +kernel
theorem dX0_append_0 : decode cX0_append 0 = .ok (.aload_n 0, 1) := by decide +kernel
theorem dX0_append_1 : decode cX0_append 1 = .ok (.getfield 9, 3) := by decide +kernel
theorem dX0_append_4 : decode cX0_append 4 = .ok (.aload_n 0, 1) := by decide +kernel
theorem dX0_append_5 : decode cX0_append 5 = .ok (.getfield 22, 3) := by decide +kernel
theorem dX0_append_8 : decode cX0_append 8 = .ok (.iload_n 1, 1) := by decide +kernel
theorem dX0_append_9 : decode cX0_append 9 = .ok (.iastore, 1) := by decide +kernel
theorem dX0_append_10 : decode cX0_append 10 = .ok (.aload_n 0, 1) := by decide +kernel
theorem dX0_append_11 : decode cX0_append 11 = .ok (.getfield 15, 3) := by decide +kernel
theorem dX0_append_14 : decode cX0_append 14 = .ok (.aload_n 0, 1) := by decide +kernel
theorem dX0_append_15 : decode cX0_append 15 = .ok (.getfield 22, 3) := by decide +kernel
theorem dX0_append_18 : decode cX0_append 18 = .ok (.iload_n 2, 1) := by decide +kernel
theorem dX0_append_19 : decode cX0_append 19 = .ok (.iastore, 1) := by decide +kernel
theorem dX0_append_20 : decode cX0_append 20 = .ok (.aload_n 0, 1) := by decide +kernel
theorem dX0_append_21 : decode cX0_append 21 = .ok (.getfield 18, 3) := by decide +kernel
theorem dX0_append_24 : decode cX0_append 24 = .ok (.aload_n 0, 1) := by decide +kernel
theorem dX0_append_25 : decode cX0_append 25 = .ok (.getfield 22, 3) := by decide +kernel
theorem dX0_append_28 : decode cX0_append 28 = .ok (.fload_n 3, 1) := by decide +kernel
theorem dX0_append_29 : decode cX0_append 29 = .ok (.fastore, 1) := by decide +kernel
theorem dX0_append_30 : decode cX0_append 30 = .ok (.aload_n 0, 1) := by decide +kernel
theorem dX0_append_31 : decode cX0_append 31 = .ok (.dup, 1) := by decide +kernel
theorem dX0_append_32 : decode cX0_append 32 = .ok (.getfield 22, 3) := by decide +kernel
theorem dX0_append_35 : decode cX0_append 35 = .ok (.iconst 1, 1) := by decide +kernel
theorem dX0_append_36 : decode cX0_append 36 = .ok (.iadd, 1) := by decide +kernel
theorem dX0_append_37 : decode cX0_append 37 = .ok (.putfield 22, 3) := by decide +kernel
theorem dX0_append_40 : decode cX0_append 40 = .ok (.return_, 1) := by decide +kernel
set_option maxRecDepth 20000 in
theorem ggX0_flow_X3_held : GoodIn wsX0_flow wsX3_held := goodIn_r _ [7, 8, 9] (by decide +kernel) (by decide +kernel)
set_option maxRecDepth 20000 in
theorem gX0_flow_X3_held_n26 : GoodIn wsX0_flow (wsX3_held) := ggX0_flow_X3_held
theorem dX0_flow_0 : decode cX0_flow 0 = .ok (.iconst 0, 1) := by decide +kernel
theorem dX0_flow_1 : decode cX0_flow 1 = .ok (.istore_n 2, 1) := by decide +kernel
theorem dX0_flow_2 : decode cX0_flow 2 = .ok (.iload_n 2, 1) := by decide +kernel
theorem dX0_flow_3 : decode cX0_flow 3 = .ok (.aload_n 0, 1) := by decide +kernel
theorem dX0_flow_4 : decode cX0_flow 4 = .ok (.getfield 22, 3) := by decide +kernel
theorem dX0_flow_7 : decode cX0_flow 7 = .ok (.if_icmp .ge 41, 3) := by decide +kernel
theorem dX0_flow_10 : decode cX0_flow 10 = .ok (.aload_n 0, 1) := by decide +kernel
theorem dX0_flow_11 : decode cX0_flow 11 = .ok (.getfield 15, 3) := by decide +kernel
theorem dX0_flow_14 : decode cX0_flow 14 = .ok (.iload_n 2, 1) := by decide +kernel
theorem dX0_flow_15 : decode cX0_flow 15 = .ok (.iaload, 1) := by decide +kernel
theorem dX0_flow_16 : decode cX0_flow 16 = .ok (.istore_n 3, 1) := by decide +kernel
theorem dX0_flow_17 : decode cX0_flow 17 = .ok (.aload_n 1, 1) := by decide +kernel
theorem dX0_flow_18 : decode cX0_flow 18 = .ok (.iload_n 3, 1) := by decide +kernel
theorem dX0_flow_19 : decode cX0_flow 19 = .ok (.aload_n 1, 1) := by decide +kernel
theorem dX0_flow_20 : decode cX0_flow 20 = .ok (.iload_n 3, 1) := by decide +kernel
theorem dX0_flow_21 : decode cX0_flow 21 = .ok (.faload, 1) := by decide +kernel
theorem dX0_flow_22 : decode cX0_flow 22 = .ok (.aload_n 1, 1) := by decide +kernel
theorem dX0_flow_23 : decode cX0_flow 23 = .ok (.aload_n 0, 1) := by decide +kernel
theorem dX0_flow_24 : decode cX0_flow 24 = .ok (.getfield 9, 3) := by decide +kernel
theorem dX0_flow_27 : decode cX0_flow 27 = .ok (.iload_n 2, 1) := by decide +kernel
theorem dX0_flow_28 : decode cX0_flow 28 = .ok (.iaload, 1) := by decide +kernel
theorem dX0_flow_29 : decode cX0_flow 29 = .ok (.faload, 1) := by decide +kernel
theorem dX0_flow_30 : decode cX0_flow 30 = .ok (.aload_n 0, 1) := by decide +kernel
theorem dX0_flow_31 : decode cX0_flow 31 = .ok (.getfield 18, 3) := by decide +kernel
theorem dX0_flow_34 : decode cX0_flow 34 = .ok (.iload_n 2, 1) := by decide +kernel
theorem dX0_flow_35 : decode cX0_flow 35 = .ok (.faload, 1) := by decide +kernel
theorem dX0_flow_36 : decode cX0_flow 36 = .ok (.fmul, 1) := by decide +kernel
theorem dX0_flow_37 : decode cX0_flow 37 = .ok (.fadd, 1) := by decide +kernel
theorem dX0_flow_38 : decode cX0_flow 38 = .ok (.invokestatic 26, 3) := by decide +kernel
theorem dX0_flow_41 : decode cX0_flow 41 = .ok (.fastore, 1) := by decide +kernel
theorem dX0_flow_42 : decode cX0_flow 42 = .ok (.iinc 2 1, 3) := by decide +kernel
theorem dX0_flow_45 : decode cX0_flow 45 = .ok (.goto (-43), 3) := by decide +kernel
theorem dX0_flow_48 : decode cX0_flow 48 = .ok (.return_, 1) := by decide +kernel
theorem dX1_init_0 : decode cX1_init 0 = .ok (.aload_n 0, 1) := by decide +kernel
theorem dX1_init_1 : decode cX1_init 1 = .ok (.invokespecial 3, 3) := by decide +kernel
theorem dX1_init_4 : decode cX1_init 4 = .ok (.aload_n 0, 1) := by decide +kernel
theorem dX1_init_5 : decode cX1_init 5 = .ok (.sipush 512, 3) := by decide +kernel
theorem dX1_init_8 : decode cX1_init 8 = .ok (.newarray .int, 2) := by decide +kernel
theorem dX1_init_10 : decode cX1_init 10 = .ok (.putfield 9, 3) := by decide +kernel
theorem dX1_init_13 : decode cX1_init 13 = .ok (.aload_n 0, 1) := by decide +kernel
theorem dX1_init_14 : decode cX1_init 14 = .ok (.sipush 512, 3) := by decide +kernel
theorem dX1_init_17 : decode cX1_init 17 = .ok (.newarray .int, 2) := by decide +kernel
theorem dX1_init_19 : decode cX1_init 19 = .ok (.putfield 15, 3) := by decide +kernel
theorem dX1_init_22 : decode cX1_init 22 = .ok (.aload_n 0, 1) := by decide +kernel
theorem dX1_init_23 : decode cX1_init 23 = .ok (.sipush 512, 3) := by decide +kernel
theorem dX1_init_26 : decode cX1_init 26 = .ok (.newarray .int, 2) := by decide +kernel
theorem dX1_init_28 : decode cX1_init 28 = .ok (.putfield 18, 3) := by decide +kernel
theorem dX1_init_31 : decode cX1_init 31 = .ok (.aload_n 0, 1) := by decide +kernel
theorem dX1_init_32 : decode cX1_init 32 = .ok (.sipush 512, 3) := by decide +kernel
theorem dX1_init_35 : decode cX1_init 35 = .ok (.newarray .float, 2) := by decide +kernel
theorem dX1_init_37 : decode cX1_init 37 = .ok (.putfield 21, 3) := by decide +kernel
theorem dX1_init_40 : decode cX1_init 40 = .ok (.return_, 1) := by decide +kernel
theorem dX1_sizeBelow_0 : decode cX1_sizeBelow 0 = .ok (.iconst 0, 1) := by decide +kernel
theorem dX1_sizeBelow_1 : decode cX1_sizeBelow 1 = .ok (.istore_n 3, 1) := by decide +kernel
theorem dX1_sizeBelow_2 : decode cX1_sizeBelow 2 = .ok (.sipush 512, 3) := by decide +kernel
theorem dX1_sizeBelow_5 : decode cX1_sizeBelow 5 = .ok (.istore 4, 2) := by decide +kernel
theorem dX1_sizeBelow_7 : decode cX1_sizeBelow 7 = .ok (.iload 4, 2) := by decide +kernel
theorem dX1_sizeBelow_9 : decode cX1_sizeBelow 9 = .ok (.ifCond .le 45, 3) := by decide +kernel
theorem dX1_sizeBelow_12 : decode cX1_sizeBelow 12 = .ok (.iload_n 3, 1) := by decide +kernel
theorem dX1_sizeBelow_13 : decode cX1_sizeBelow 13 = .ok (.iload 4, 2) := by decide +kernel
theorem dX1_sizeBelow_15 : decode cX1_sizeBelow 15 = .ok (.iadd, 1) := by decide +kernel
theorem dX1_sizeBelow_16 : decode cX1_sizeBelow 16 = .ok (.istore 5, 2) := by decide +kernel
theorem dX1_sizeBelow_18 : decode cX1_sizeBelow 18 = .ok (.iload 5, 2) := by decide +kernel
theorem dX1_sizeBelow_20 : decode cX1_sizeBelow 20 = .ok (.aload_n 0, 1) := by decide +kernel
theorem dX1_sizeBelow_21 : decode cX1_sizeBelow 21 = .ok (.getfield 25, 3) := by decide +kernel
theorem dX1_sizeBelow_24 : decode cX1_sizeBelow 24 = .ok (.if_icmp .gt 21, 3) := by decide +kernel
theorem dX1_sizeBelow_27 : decode cX1_sizeBelow 27 = .ok (.aload_n 0, 1) := by decide +kernel
theorem dX1_sizeBelow_28 : decode cX1_sizeBelow 28 = .ok (.getfield 9, 3) := by decide +kernel
theorem dX1_sizeBelow_31 : decode cX1_sizeBelow 31 = .ok (.iload 5, 2) := by decide +kernel
theorem dX1_sizeBelow_33 : decode cX1_sizeBelow 33 = .ok (.iconst 1, 1) := by decide +kernel
theorem dX1_sizeBelow_34 : decode cX1_sizeBelow 34 = .ok (.isub, 1) := by decide +kernel
theorem dX1_sizeBelow_35 : decode cX1_sizeBelow 35 = .ok (.iaload, 1) := by decide +kernel
theorem dX1_sizeBelow_36 : decode cX1_sizeBelow 36 = .ok (.i2l, 1) := by decide +kernel
theorem dX1_sizeBelow_37 : decode cX1_sizeBelow 37 = .ok (.lload_n 1, 1) := by decide +kernel
theorem dX1_sizeBelow_38 : decode cX1_sizeBelow 38 = .ok (.lcmp, 1) := by decide +kernel
theorem dX1_sizeBelow_39 : decode cX1_sizeBelow 39 = .ok (.ifCond .ge 6, 3) := by decide +kernel
theorem dX1_sizeBelow_42 : decode cX1_sizeBelow 42 = .ok (.iload 5, 2) := by decide +kernel
theorem dX1_sizeBelow_44 : decode cX1_sizeBelow 44 = .ok (.istore_n 3, 1) := by decide +kernel
theorem dX1_sizeBelow_45 : decode cX1_sizeBelow 45 = .ok (.iload 4, 2) := by decide +kernel
theorem dX1_sizeBelow_47 : decode cX1_sizeBelow 47 = .ok (.iconst 2, 1) := by decide +kernel
theorem dX1_sizeBelow_48 : decode cX1_sizeBelow 48 = .ok (.idiv, 1) := by decide +kernel
theorem dX1_sizeBelow_49 : decode cX1_sizeBelow 49 = .ok (.istore 4, 2) := by decide +kernel
theorem dX1_sizeBelow_51 : decode cX1_sizeBelow 51 = .ok (.goto (-44), 3) := by decide +kernel
theorem dX1_sizeBelow_54 : decode cX1_sizeBelow 54 = .ok (.iload_n 3, 1) := by decide +kernel
theorem dX1_sizeBelow_55 : decode cX1_sizeBelow 55 = .ok (.ireturn, 1) := by decide +kernel
set_option maxRecDepth 20000 in
theorem ggX1_sizeOf_X1_sizeBelow : GoodIn wsX1_sizeOf wsX1_sizeBelow := goodIn_r _ [5, 6, 7, 8, 9, 10, 11, 12] (by decide +kernel) (by decide +kernel)
set_option maxRecDepth 20000 in
theorem gX1_sizeOf_X1_sizeBelow : GoodIn wsX1_sizeOf (wsV RX1 29 RX1 yX1_sizeBelow wsX1_sizeBelow) := goodIn_app (goodIn_of _ (by decide +kernel)) ggX1_sizeOf_X1_sizeBelow
theorem dX1_sizeOf_0 : decode cX1_sizeOf 0 = .ok (.aload_n 0, 1) := by decide +kernel
theorem dX1_sizeOf_1 : decode cX1_sizeOf 1 = .ok (.iload_n 1, 1) := by decide +kernel
theorem dX1_sizeOf_2 : decode cX1_sizeOf 2 = .ok (.i2l, 1) := by decide +kernel
theorem dX1_sizeOf_3 : decode cX1_sizeOf 3 = .ok (.lconst 1, 1) := by decide +kernel
theorem dX1_sizeOf_4 : decode cX1_sizeOf 4 = .ok (.ladd, 1) := by decide +kernel
theorem dX1_sizeOf_5 : decode cX1_sizeOf 5 = .ok (.invokevirtual 29, 3) := by decide +kernel
theorem dX1_sizeOf_8 : decode cX1_sizeOf 8 = .ok (.aload_n 0, 1) := by decide +kernel
theorem dX1_sizeOf_9 : decode cX1_sizeOf 9 = .ok (.iload_n 1, 1) := by decide +kernel
theorem dX1_sizeOf_10 : decode cX1_sizeOf 10 = .ok (.i2l, 1) := by decide +kernel
theorem dX1_sizeOf_11 : decode cX1_sizeOf 11 = .ok (.invokevirtual 29, 3) := by decide +kernel
theorem dX1_sizeOf_14 : decode cX1_sizeOf 14 = .ok (.isub, 1) := by decide +kernel
theorem dX1_sizeOf_15 : decode cX1_sizeOf 15 = .ok (.ireturn, 1) := by decide +kernel
set_option maxRecDepth 20000 in
theorem ggX1_append_X1_sizeBelow : GoodIn wsX1_append wsX1_sizeBelow := goodIn_r _ [10, 5, 1, 19, 20, 21, 22, 23] (by decide +kernel) (by decide +kernel)
set_option maxRecDepth 20000 in
theorem gX1_append_X1_sizeBelow : GoodIn wsX1_append (wsV RX1 29 RX1 yX1_sizeBelow wsX1_sizeBelow) := goodIn_app (goodIn_of _ (by decide +kernel)) ggX1_append_X1_sizeBelow
set_option maxRecDepth 20000 in
theorem ggX1_append_X1_moveRest : GoodIn wsX1_append wsX1_moveRest := goodIn_r _ [14, 5, 1, 15, 16, 17, 18, 2, 3, 4, 19, 20, 21, 22, 23] (by decide +kernel) (by decide +kernel)
set_option maxRecDepth 20000 in
theorem gX1_append_X1_moveRest : GoodIn wsX1_append (wsV RX1 33 RX1 yX1_moveRest wsX1_moveRest) := goodIn_app (goodIn_of _ (by decide +kernel)) ggX1_append_X1_moveRest
theorem dX1_append_0 : decode cX1_append 0 = .ok (.aload_n 0, 1) := by decide +kernel
theorem dX1_append_1 : decode cX1_append 1 = .ok (.iload_n 1, 1) := by decide +kernel
theorem dX1_append_2 : decode cX1_append 2 = .ok (.i2l, 1) := by decide +kernel
theorem dX1_append_3 : decode cX1_append 3 = .ok (.lconst 1, 1) := by decide +kernel
theorem dX1_append_4 : decode cX1_append 4 = .ok (.ladd, 1) := by decide +kernel
theorem dX1_append_5 : decode cX1_append 5 = .ok (.invokevirtual 29, 3) := by decide +kernel
theorem dX1_append_8 : decode cX1_append 8 = .ok (.istore 5, 2) := by decide +kernel
theorem dX1_append_10 : decode cX1_append 10 = .ok (.aload_n 0, 1) := by decide +kernel
theorem dX1_append_11 : decode cX1_append 11 = .ok (.iload 5, 2) := by decide +kernel
theorem dX1_append_13 : decode cX1_append 13 = .ok (.iload 5, 2) := by decide +kernel
theorem dX1_append_15 : decode cX1_append 15 = .ok (.iconst 1, 1) := by decide +kernel
theorem dX1_append_16 : decode cX1_append 16 = .ok (.iadd, 1) := by decide +kernel
theorem dX1_append_17 : decode cX1_append 17 = .ok (.invokevirtual 33, 3) := by decide +kernel
theorem dX1_append_20 : decode cX1_append 20 = .ok (.aload_n 0, 1) := by decide +kernel
theorem dX1_append_21 : decode cX1_append 21 = .ok (.getfield 9, 3) := by decide +kernel
theorem dX1_append_24 : decode cX1_append 24 = .ok (.iload 5, 2) := by decide +kernel
theorem dX1_append_26 : decode cX1_append 26 = .ok (.iload_n 1, 1) := by decide +kernel
theorem dX1_append_27 : decode cX1_append 27 = .ok (.iastore, 1) := by decide +kernel
theorem dX1_append_28 : decode cX1_append 28 = .ok (.aload_n 0, 1) := by decide +kernel
theorem dX1_append_29 : decode cX1_append 29 = .ok (.getfield 15, 3) := by decide +kernel
theorem dX1_append_32 : decode cX1_append 32 = .ok (.iload 5, 2) := by decide +kernel
theorem dX1_append_34 : decode cX1_append 34 = .ok (.iload_n 2, 1) := by decide +kernel
theorem dX1_append_35 : decode cX1_append 35 = .ok (.iastore, 1) := by decide +kernel
theorem dX1_append_36 : decode cX1_append 36 = .ok (.aload_n 0, 1) := by decide +kernel
theorem dX1_append_37 : decode cX1_append 37 = .ok (.getfield 18, 3) := by decide +kernel
theorem dX1_append_40 : decode cX1_append 40 = .ok (.iload 5, 2) := by decide +kernel
theorem dX1_append_42 : decode cX1_append 42 = .ok (.iload_n 3, 1) := by decide +kernel
theorem dX1_append_43 : decode cX1_append 43 = .ok (.iastore, 1) := by decide +kernel
theorem dX1_append_44 : decode cX1_append 44 = .ok (.aload_n 0, 1) := by decide +kernel
theorem dX1_append_45 : decode cX1_append 45 = .ok (.getfield 21, 3) := by decide +kernel
theorem dX1_append_48 : decode cX1_append 48 = .ok (.iload 5, 2) := by decide +kernel
theorem dX1_append_50 : decode cX1_append 50 = .ok (.fload 4, 2) := by decide +kernel
theorem dX1_append_52 : decode cX1_append 52 = .ok (.fastore, 1) := by decide +kernel
theorem dX1_append_53 : decode cX1_append 53 = .ok (.aload_n 0, 1) := by decide +kernel
theorem dX1_append_54 : decode cX1_append 54 = .ok (.dup, 1) := by decide +kernel
theorem dX1_append_55 : decode cX1_append 55 = .ok (.getfield 25, 3) := by decide +kernel
theorem dX1_append_58 : decode cX1_append 58 = .ok (.iconst 1, 1) := by decide +kernel
theorem dX1_append_59 : decode cX1_append 59 = .ok (.iadd, 1) := by decide +kernel
theorem dX1_append_60 : decode cX1_append 60 = .ok (.putfield 25, 3) := by decide +kernel
theorem dX1_append_63 : decode cX1_append 63 = .ok (.return_, 1) := by decide +kernel
set_option maxRecDepth 20000 in
theorem ggX1_dropBelow_X1_sizeBelow : GoodIn wsX1_dropBelow wsX1_sizeBelow := goodIn_r _ [6, 1, 7, 19, 20, 21, 22, 23] (by decide +kernel) (by decide +kernel)
set_option maxRecDepth 20000 in
theorem gX1_dropBelow_X1_sizeBelow : GoodIn wsX1_dropBelow (wsV RX1 29 RX1 yX1_sizeBelow wsX1_sizeBelow) := goodIn_app (goodIn_of _ (by decide +kernel)) ggX1_dropBelow_X1_sizeBelow
set_option maxRecDepth 20000 in
theorem ggX1_dropBelow_X1_moveRest : GoodIn wsX1_dropBelow wsX1_moveRest := goodIn_r _ [11, 1, 7, 12, 13, 14, 15, 16, 17, 18, 19, 20, 21, 22, 23] (by decide +kernel) (by decide +kernel)
set_option maxRecDepth 20000 in
theorem gX1_dropBelow_X1_moveRest : GoodIn wsX1_dropBelow (wsV RX1 33 RX1 yX1_moveRest wsX1_moveRest) := goodIn_app (goodIn_of _ (by decide +kernel)) ggX1_dropBelow_X1_moveRest
theorem dX1_dropBelow_0 : decode cX1_dropBelow 0 = .ok (.aload_n 0, 1) := by decide +kernel
theorem dX1_dropBelow_1 : decode cX1_dropBelow 1 = .ok (.iload_n 1, 1) := by decide +kernel
theorem dX1_dropBelow_2 : decode cX1_dropBelow 2 = .ok (.i2l, 1) := by decide +kernel
theorem dX1_dropBelow_3 : decode cX1_dropBelow 3 = .ok (.invokevirtual 29, 3) := by decide +kernel
theorem dX1_dropBelow_6 : decode cX1_dropBelow 6 = .ok (.istore_n 2, 1) := by decide +kernel
theorem dX1_dropBelow_7 : decode cX1_dropBelow 7 = .ok (.aload_n 0, 1) := by decide +kernel
theorem dX1_dropBelow_8 : decode cX1_dropBelow 8 = .ok (.iload_n 2, 1) := by decide +kernel
theorem dX1_dropBelow_9 : decode cX1_dropBelow 9 = .ok (.iconst 0, 1) := by decide +kernel
theorem dX1_dropBelow_10 : decode cX1_dropBelow 10 = .ok (.invokevirtual 33, 3) := by decide +kernel
theorem dX1_dropBelow_13 : decode cX1_dropBelow 13 = .ok (.aload_n 0, 1) := by decide +kernel
theorem dX1_dropBelow_14 : decode cX1_dropBelow 14 = .ok (.dup, 1) := by decide +kernel
theorem dX1_dropBelow_15 : decode cX1_dropBelow 15 = .ok (.getfield 25, 3) := by decide +kernel
theorem dX1_dropBelow_18 : decode cX1_dropBelow 18 = .ok (.iload_n 2, 1) := by decide +kernel
theorem dX1_dropBelow_19 : decode cX1_dropBelow 19 = .ok (.isub, 1) := by decide +kernel
theorem dX1_dropBelow_20 : decode cX1_dropBelow 20 = .ok (.putfield 25, 3) := by decide +kernel
