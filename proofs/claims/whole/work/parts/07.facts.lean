theorem tM1 {w : Cond} (h : w ∈ tables_1_1) : w ∈ lw_tbl := List.mem_append_right _ (List.mem_append_left _ h)
theorem tG1 {w : Cond} {i : Nat} (h : tables_1_1[i]? = some w) (hg : goodWord w = true) : w ∈ tblG := List.mem_filter.mpr ⟨tM1 (List.mem_of_getElem? h), hg⟩
theorem tM2 {w : Cond} (h : w ∈ tables_1_2) : w ∈ lw_tbl := List.mem_append_right _ (List.mem_append_right _ (List.mem_append_left _ h))
theorem tG2 {w : Cond} {i : Nat} (h : tables_1_2[i]? = some w) (hg : goodWord w = true) : w ∈ tblG := List.mem_filter.mpr ⟨tM2 (List.mem_of_getElem? h), hg⟩
theorem tM3 {w : Cond} (h : w ∈ tables_1_3) : w ∈ lw_tbl := List.mem_append_right _ (List.mem_append_right _ (List.mem_append_right _ (List.mem_append_left _ h)))
theorem tG3 {w : Cond} {i : Nat} (h : tables_1_3[i]? = some w) (hg : goodWord w = true) : w ∈ tblG := List.mem_filter.mpr ⟨tM3 (List.mem_of_getElem? h), hg⟩
theorem tM4 {w : Cond} (h : w ∈ tables_1_4) : w ∈ lw_tbl := List.mem_append_right _ (List.mem_append_right _ (List.mem_append_right _ (List.mem_append_right _ (List.mem_append_left _ h))))
theorem tG4 {w : Cond} {i : Nat} (h : tables_1_4[i]? = some w) (hg : goodWord w = true) : w ∈ tblG := List.mem_filter.mpr ⟨tM4 (List.mem_of_getElem? h), hg⟩
theorem tM5 {w : Cond} (h : w ∈ tables_1_5) : w ∈ lw_tbl := List.mem_append_right _ (List.mem_append_right _ (List.mem_append_right _ (List.mem_append_right _ (List.mem_append_right _ (List.mem_append_left _ h)))))
theorem tG5 {w : Cond} {i : Nat} (h : tables_1_5[i]? = some w) (hg : goodWord w = true) : w ∈ tblG := List.mem_filter.mpr ⟨tM5 (List.mem_of_getElem? h), hg⟩
theorem tM6 {w : Cond} (h : w ∈ tables_1_6) : w ∈ lw_tbl := List.mem_append_right _ (List.mem_append_right _ (List.mem_append_right _ (List.mem_append_right _ (List.mem_append_right _ (List.mem_append_right _ (h))))))
theorem tG6 {w : Cond} {i : Nat} (h : tables_1_6[i]? = some w) (hg : goodWord w = true) : w ∈ tblG := List.mem_filter.mpr ⟨tM6 (List.mem_of_getElem? h), hg⟩
theorem tGs {w : Cond} {i : Nat} (h : (k2_sels lw_privs)[i]? = some w) (hg : goodWord w = true) : w ∈ tblG := List.mem_filter.mpr ⟨List.mem_append_left _ (List.mem_of_getElem? h), hg⟩
def m_X0_init : MI := (yX0_init, cX0_init, 1, none, none, { frames := 1, cells := 0, slots := 0, locals := 24 })
def m_X0_copyFrom : MI := (yX0_copyFrom, cX0_copyFrom, 2, none, none, { frames := 0, cells := 0, slots := 0, locals := 0 })
def m_X0_usesSoFar : MI := (yX0_usesSoFar, cX0_usesSoFar, 1, some .int, none, { frames := 0, cells := 0, slots := 0, locals := 0 })
def m_X0_dance : MI := (yX0_dance, cX0_dance, 2, none, none, { frames := 0, cells := 0, slots := 0, locals := 0 })
def m_X0_riseWith : MI := (yX0_riseWith, cX0_riseWith, 2, none, none, { frames := 0, cells := 0, slots := 0, locals := 0 })
def m_X1_init : MI := (yX1_init, cX1_init, 1, none, none, { frames := 1, cells := 0, slots := 0, locals := 24 })
def m_X1_copyFrom : MI := (yX1_copyFrom, cX1_copyFrom, 2, none, none, { frames := 0, cells := 0, slots := 0, locals := 0 })
def m_X1_hasSpringFor : MI := (yX1_hasSpringFor, cX1_hasSpringFor, 3, some .boolean, none, { frames := 0, cells := 0, slots := 0, locals := 0 })
def m_X1_hasBarreFor : MI := (yX1_hasBarreFor, cX1_hasBarreFor, 3, some .boolean, none, { frames := 0, cells := 0, slots := 0, locals := 0 })
def m_X1_hasMirrorsFor : MI := (yX1_hasMirrorsFor, cX1_hasMirrorsFor, 3, some .boolean, none, { frames := 0, cells := 0, slots := 0, locals := 0 })
def m_X1_roomFor : MI := (yX1_roomFor, cX1_roomFor, 2, some .int, none, { frames := 1, cells := 0, slots := 0, locals := 21 })
def m_X2_init : MI := (yX2_init, cX2_init, 2, none, none, { frames := 3, cells := 519, slots := 2968, locals := 65 })
def m_X2_remember : MI := (yX2_remember, cX2_remember, 2, none, none, { frames := 3, cells := 0, slots := 0, locals := 64 })
def m_X2_takeBack : MI := (yX2_takeBack, cX2_takeBack, 2, some .int, none, { frames := 3, cells := 0, slots := 0, locals := 64 })
def m_X2_forgetAll : MI := (yX2_forgetAll, cX2_forgetAll, 1, none, none, { frames := 0, cells := 0, slots := 0, locals := 0 })
def m_X3_init : MI := (yX3_init, cX3_init, 1, none, none, { frames := 1, cells := 0, slots := 0, locals := 24 })
def m_X3_copyFrom : MI := (yX3_copyFrom, cX3_copyFrom, 2, none, none, { frames := 0, cells := 0, slots := 0, locals := 0 })
def m_X3_isAt : MI := (yX3_isAt, cX3_isAt, 3, some .boolean, none, { frames := 0, cells := 0, slots := 0, locals := 0 })
def m_X3_seatsDancer : MI := (yX3_seatsDancer, cX3_seatsDancer, 2, some .boolean, none, { frames := 0, cells := 0, slots := 0, locals := 0 })
def m_X3_countSeats : MI := (yX3_countSeats, cX3_countSeats, 1, some .int, none, { frames := 1, cells := 0, slots := 0, locals := 20 })
def m_X4_init : MI := (yX4_init, cX4_init, 2, none, none, { frames := 2, cells := 36, slots := 197, locals := 44 })
def m_X4_makeNew : MI := (yX4_makeNew, cX4_makeNew, 1, none, none, { frames := 0, cells := 0, slots := 0, locals := 0 })
def m_X4_copyFrom : MI := (yX4_copyFrom, cX4_copyFrom, 2, none, none, { frames := 2, cells := 0, slots := 0, locals := 43 })
def m_X4_copyRowsFrom : MI := (yX4_copyRowsFrom, cX4_copyRowsFrom, 3, none, none, { frames := 1, cells := 0, slots := 0, locals := 21 })
def m_X4_hasFloor : MI := (yX4_hasFloor, cX4_hasFloor, 2, some .boolean, none, { frames := 0, cells := 0, slots := 0, locals := 0 })
def m_X4_hasTeacher : MI := (yX4_hasTeacher, cX4_hasTeacher, 2, some .boolean, none, { frames := 0, cells := 0, slots := 0, locals := 0 })
def m_X4_hasLesson : MI := (yX4_hasLesson, cX4_hasLesson, 2, some .boolean, none, { frames := 0, cells := 0, slots := 0, locals := 0 })
def m_X4_hasDancer : MI := (yX4_hasDancer, cX4_hasDancer, 2, some .boolean, none, { frames := 0, cells := 0, slots := 0, locals := 0 })
def m_X4_hasSeat : MI := (yX4_hasSeat, cX4_hasSeat, 3, some .boolean, none, { frames := 1, cells := 0, slots := 0, locals := 21 })
def m_X4_mayHavePass : MI := (yX4_mayHavePass, cX4_mayHavePass, 2, some .boolean, none, { frames := 1, cells := 0, slots := 0, locals := 21 })
def m_X4_addFloor : MI := (yX4_addFloor, cX4_addFloor, 6, some .int, none, { frames := 0, cells := 0, slots := 0, locals := 0 })
def m_X4_addTeacher : MI := (yX4_addTeacher, cX4_addTeacher, 4, some .int, none, { frames := 0, cells := 0, slots := 0, locals := 0 })
def m_X4_addDancer : MI := (yX4_addDancer, cX4_addDancer, 2, some .int, none, { frames := 0, cells := 0, slots := 0, locals := 0 })
def m_X4_addLesson : MI := (yX4_addLesson, cX4_addLesson, 9, some .int, none, { frames := 3, cells := 0, slots := 0, locals := 72 })
def m_X4_dropLesson : MI := (yX4_dropLesson, cX4_dropLesson, 4, some .int, none, { frames := 2, cells := 0, slots := 0, locals := 40 })
def m_X4_givePass : MI := (yX4_givePass, cX4_givePass, 2, some .int, none, { frames := 2, cells := 0, slots := 0, locals := 42 })
def m_X4_takeSeat : MI := (yX4_takeSeat, cX4_takeSeat, 4, some .int, none, { frames := 4, cells := 0, slots := 0, locals := 86 })
def m_X4_giveUpSeat : MI := (yX4_giveUpSeat, cX4_giveUpSeat, 3, some .int, none, { frames := 2, cells := 0, slots := 0, locals := 43 })
def m_X4_countRefusal : MI := (yX4_countRefusal, cX4_countRefusal, 2, some .int, none, { frames := 0, cells := 0, slots := 0, locals := 0 })
def m_X4_reasonAgainstLesson : MI := (yX4_reasonAgainstLesson, cX4_reasonAgainstLesson, 7, some .int, none, { frames := 2, cells := 0, slots := 0, locals := 46 })
def m_X4_isFloorInUse : MI := (yX4_isFloorInUse, cX4_isFloorInUse, 5, some .boolean, none, { frames := 1, cells := 0, slots := 0, locals := 22 })
def m_X4_isTeacherInUse : MI := (yX4_isTeacherInUse, cX4_isTeacherInUse, 5, some .boolean, none, { frames := 1, cells := 0, slots := 0, locals := 22 })
def m_X4_reasonAgainstSeat : MI := (yX4_reasonAgainstSeat, cX4_reasonAgainstSeat, 4, some .int, none, { frames := 3, cells := 0, slots := 0, locals := 63 })
def m_X4_isDancerSeatedAt : MI := (yX4_isDancerSeatedAt, cX4_isDancerSeatedAt, 5, some .boolean, none, { frames := 1, cells := 0, slots := 0, locals := 22 })
def m_X4_roomIn : MI := (yX4_roomIn, cX4_roomIn, 2, some .int, none, { frames := 2, cells := 0, slots := 0, locals := 42 })
def m_X4_roomiestFloor : MI := (yX4_roomiestFloor, cX4_roomiestFloor, 10, some .int, none, { frames := 3, cells := 0, slots := 0, locals := 72 })
def m_X4_passWeeks : MI := (yX4_passWeeks, cX4_passWeeks, 4, some .int, none, { frames := 4, cells := 0, slots := 0, locals := 90 })
def m_X4_passWeek : MI := (yX4_passWeek, cX4_passWeek, 3, some .int, none, { frames := 3, cells := 0, slots := 0, locals := 68 })
def m_X4_holdLesson : MI := (yX4_holdLesson, cX4_holdLesson, 5, some .int, none, { frames := 2, cells := 0, slots := 0, locals := 44 })
def m_X4_comersOf : MI := (yX4_comersOf, cX4_comersOf, 4, some .int, none, { frames := 1, cells := 0, slots := 0, locals := 21 })
def m_X4_countSeats : MI := (yX4_countSeats, cX4_countSeats, 3, some .int, none, { frames := 2, cells := 0, slots := 0, locals := 40 })
def m_X4_countSeatsOfDancer : MI := (yX4_countSeatsOfDancer, cX4_countSeatsOfDancer, 4, some .int, none, { frames := 1, cells := 0, slots := 0, locals := 21 })
def m_X4_countLessonsOnFloor : MI := (yX4_countLessonsOnFloor, cX4_countLessonsOnFloor, 4, some .int, none, { frames := 0, cells := 0, slots := 0, locals := 0 })
def m_X4_countLessonsOfTeacher : MI := (yX4_countLessonsOfTeacher, cX4_countLessonsOfTeacher, 4, some .int, none, { frames := 0, cells := 0, slots := 0, locals := 0 })
def m_X4_countDaysOfTeacher : MI := (yX4_countDaysOfTeacher, cX4_countDaysOfTeacher, 4, some .int, none, { frames := 1, cells := 0, slots := 0, locals := 20 })
def m_X4_countPasses : MI := (yX4_countPasses, cX4_countPasses, 3, some .int, none, { frames := 0, cells := 0, slots := 0, locals := 0 })
def m_X4_countLeft : MI := (yX4_countLeft, cX4_countLeft, 3, some .int, none, { frames := 0, cells := 0, slots := 0, locals := 0 })
def m_X4_countUsesByDancers : MI := (yX4_countUsesByDancers, cX4_countUsesByDancers, 3, some .int, none, { frames := 1, cells := 0, slots := 0, locals := 20 })
def m_X4_countUsesByLessons : MI := (yX4_countUsesByLessons, cX4_countUsesByLessons, 3, some .int, none, { frames := 0, cells := 0, slots := 0, locals := 0 })
def m_X5_init : MI := (yX5_init, cX5_init, 1, none, none, { frames := 1, cells := 0, slots := 0, locals := 24 })
def m_X5_copyFrom : MI := (yX5_copyFrom, cX5_copyFrom, 2, none, none, { frames := 0, cells := 0, slots := 0, locals := 0 })
def m_X5_teaches : MI := (yX5_teaches, cX5_teaches, 3, some .boolean, none, { frames := 0, cells := 0, slots := 0, locals := 0 })
def m_X6_init : MI := (yX6_init, cX6_init, 1, none, none, { frames := 1, cells := 2, slots := 126, locals := 24 })
def m_X6_addSign : MI := (yX6_addSign, cX6_addSign, 2, some .int, none, { frames := 0, cells := 0, slots := 0, locals := 0 })
def m_X6_makeEmpty : MI := (yX6_makeEmpty, cX6_makeEmpty, 2, some .int, none, { frames := 0, cells := 0, slots := 0, locals := 0 })
def m_X6_findError : MI := (yX6_findError, cX6_findError, 2, some .int, none, { frames := 5, cells := 0, slots := 0, locals := 108 })
def m_X6_hasMore : MI := (yX6_hasMore, cX6_hasMore, 1, some .boolean, none, { frames := 0, cells := 0, slots := 0, locals := 0 })
def m_X6_readStart : MI := (yX6_readStart, cX6_readStart, 1, some .boolean, none, { frames := 1, cells := 0, slots := 0, locals := 20 })
def m_X6_readCommand : MI := (yX6_readCommand, cX6_readCommand, 1, some .boolean, none, { frames := 4, cells := 0, slots := 0, locals := 88 })
def m_X6_readKind : MI := (yX6_readKind, cX6_readKind, 1, some .boolean, none, { frames := 3, cells := 0, slots := 0, locals := 67 })
def m_X6_readPlace : MI := (yX6_readPlace, cX6_readPlace, 1, some .boolean, none, { frames := 3, cells := 0, slots := 0, locals := 67 })
def m_X6_readLesson : MI := (yX6_readLesson, cX6_readLesson, 1, some .boolean, none, { frames := 3, cells := 0, slots := 0, locals := 67 })
def m_X6_readDancer : MI := (yX6_readDancer, cX6_readDancer, 1, some .boolean, none, { frames := 3, cells := 0, slots := 0, locals := 68 })
def m_X6_readDigit : MI := (yX6_readDigit, cX6_readDigit, 4, some .boolean, none, { frames := 2, cells := 0, slots := 0, locals := 44 })
def m_X6_readTwoDigits : MI := (yX6_readTwoDigits, cX6_readTwoDigits, 5, some .boolean, none, { frames := 2, cells := 0, slots := 0, locals := 44 })
def m_X6_digitWithin : MI := (yX6_digitWithin, cX6_digitWithin, 3, some .int, none, { frames := 1, cells := 0, slots := 0, locals := 22 })
def m_X6_keepNumber : MI := (yX6_keepNumber, cX6_keepNumber, 2, some .boolean, none, { frames := 0, cells := 0, slots := 0, locals := 0 })
def m_X7_init : MI := (yX7_init, cX7_init, 2, none, none, { frames := 4, cells := 673, slots := 3951, locals := 86 })
def m_X7_append : MI := (yX7_append, cX7_append, 2, some .int, none, { frames := 7, cells := 2, slots := 12, locals := 112 })
def m_X7_clearText : MI := (yX7_clearText, cX7_clearText, 1, some .int, none, { frames := 1, cells := 0, slots := 0, locals := 21 })
def m_X7_errorPosition : MI := (yX7_errorPosition, cX7_errorPosition, 1, some .int, none, { frames := 6, cells := 0, slots := 0, locals := 129 })
def m_X7_load : MI := (yX7_load, cX7_load, 3, some .int, none, { frames := 7, cells := 1, slots := 6, locals := 135 })
def m_X7_about : MI := (yX7_about, cX7_about, 2, some .int, none, { frames := 6, cells := 1, slots := 6, locals := 92 })
def m_X7_floorOf : MI := (yX7_floorOf, cX7_floorOf, 4, some .int, none, { frames := 7, cells := 2, slots := 12, locals := 112 })
def m_X7_teacherOf : MI := (yX7_teacherOf, cX7_teacherOf, 4, some .int, none, { frames := 7, cells := 2, slots := 12, locals := 112 })
def m_X7_classOf : MI := (yX7_classOf, cX7_classOf, 4, some .int, none, { frames := 7, cells := 2, slots := 12, locals := 112 })
def m_X7_dancerOf : MI := (yX7_dancerOf, cX7_dancerOf, 4, some .int, none, { frames := 7, cells := 2, slots := 12, locals := 112 })
def m_X7_uses : MI := (yX7_uses, cX7_uses, 2, some .int, none, { frames := 7, cells := 1, slots := 6, locals := 112 })
def m_X7_setting : MI := (yX7_setting, cX7_setting, 2, some .int, none, { frames := 7, cells := 1, slots := 6, locals := 112 })
def m_X7_floor : MI := (yX7_floor, cX7_floor, 5, some .int, none, { frames := 7, cells := 5, slots := 30, locals := 112 })
def m_X7_teacher : MI := (yX7_teacher, cX7_teacher, 3, some .int, none, { frames := 7, cells := 3, slots := 18, locals := 112 })
def m_X7_set : MI := (yX7_set, cX7_set, 7, some .int, none, { frames := 8, cells := 7, slots := 42, locals := 135 })
def m_X7_drop : MI := (yX7_drop, cX7_drop, 2, some .int, none, { frames := 7, cells := 1, slots := 6, locals := 112 })
def m_X7_dancer : MI := (yX7_dancer, cX7_dancer, 1, some .int, none, { frames := 7, cells := 1, slots := 6, locals := 112 })
def m_X7_pass : MI := (yX7_pass, cX7_pass, 2, some .int, none, { frames := 7, cells := 2, slots := 12, locals := 112 })
def m_X7_enter : MI := (yX7_enter, cX7_enter, 3, some .int, none, { frames := 7, cells := 2, slots := 12, locals := 112 })
def m_X7_leave : MI := (yX7_leave, cX7_leave, 3, some .int, none, { frames := 7, cells := 3, slots := 18, locals := 112 })
def m_X7_weeks : MI := (yX7_weeks, cX7_weeks, 2, some .int, none, { frames := 7, cells := 1, slots := 6, locals := 113 })
def m_X7_tune : MI := (yX7_tune, cX7_tune, 4, some .int, none, { frames := 7, cells := 2, slots := 12, locals := 112 })
def m_X7_undo : MI := (yX7_undo, cX7_undo, 1, some .int, none, { frames := 7, cells := 1, slots := 6, locals := 112 })
def m_X7_why : MI := (yX7_why, cX7_why, 7, some .int, none, { frames := 8, cells := 6, slots := 36, locals := 135 })
def m_X7_whySeat : MI := (yX7_whySeat, cX7_whySeat, 3, some .int, none, { frames := 7, cells := 2, slots := 12, locals := 112 })
def m_X7_bestFloor : MI := (yX7_bestFloor, cX7_bestFloor, 6, some .int, none, { frames := 8, cells := 5, slots := 30, locals := 135 })
def m_X7_emptyIn : MI := (yX7_emptyIn, cX7_emptyIn, 3, some .int, none, { frames := 7, cells := 1, slots := 6, locals := 112 })
def m_X7_held : MI := (yX7_held, cX7_held, 3, some .int, none, { frames := 4, cells := 0, slots := 0, locals := 90 })
def m_X7_runScript : MI := (yX7_runScript, cX7_runScript, 5, some .int, none, { frames := 7, cells := 2, slots := 12, locals := 139 })
def m_X7_simulate : MI := (yX7_simulate, cX7_simulate, 8, some .int, none, { frames := 7, cells := 1, slots := 6, locals := 135 })
def m_X7_save : MI := (yX7_save, cX7_save, 2, some .int, none, { frames := 7, cells := 1, slots := 6, locals := 112 })
def m_X7_restore : MI := (yX7_restore, cX7_restore, 2, some .int, none, { frames := 7, cells := 2, slots := 12, locals := 112 })
def m_X7_isWithin : MI := (yX7_isWithin, cX7_isWithin, 3, some .boolean, none, { frames := 0, cells := 0, slots := 0, locals := 0 })
def m_X7_requireIndex : MI := (yX7_requireIndex, cX7_requireIndex, 1, none, none, { frames := 6, cells := 1, slots := 6, locals := 92 })
def m_X7_requireArgument : MI := (yX7_requireArgument, cX7_requireArgument, 1, none, none, { frames := 6, cells := 1, slots := 6, locals := 92 })
def m_X7_requireState : MI := (yX7_requireState, cX7_requireState, 1, none, none, { frames := 6, cells := 1, slots := 6, locals := 92 })
def m_X7_requireLessonArguments : MI := (yX7_requireLessonArguments, cX7_requireLessonArguments, 4, none, none, { frames := 7, cells := 4, slots := 24, locals := 112 })
def m_X7_beginAnew : MI := (yX7_beginAnew, cX7_beginAnew, 2, none, none, { frames := 1, cells := 0, slots := 0, locals := 20 })
def m_X7_doCommand : MI := (yX7_doCommand, cX7_doCommand, 3, some .boolean, none, { frames := 5, cells := 0, slots := 0, locals := 113 })
def m_X7_withoutGroups : MI := (yX7_withoutGroups, cX7_withoutGroups, 6, some .long, none, { frames := 0, cells := 0, slots := 0, locals := 0 })
def m_X7_tryGroup : MI := (yX7_tryGroup, cX7_tryGroup, 7, some .boolean, none, { frames := 5, cells := 0, slots := 0, locals := 113 })
def m_X7_tryTurn : MI := (yX7_tryTurn, cX7_tryTurn, 3, some .int, none, { frames := 5, cells := 0, slots := 0, locals := 113 })
def m_X7_tryLeaving : MI := (yX7_tryLeaving, cX7_tryLeaving, 2, none, none, { frames := 3, cells := 0, slots := 0, locals := 65 })
def m_X8_init : MI := (yX8_init, cX8_init, 1, none, none, { frames := 1, cells := 4, slots := 3530, locals := 24 })
def m_X8_thrown : MI := (yX8_thrown, cX8_thrown, 1, some .int, none, { frames := 0, cells := 0, slots := 0, locals := 0 })
def m_X8_in : MI := (yX8_in, cX8_in, 3, some .boolean, none, { frames := 0, cells := 0, slots := 0, locals := 0 })
def m_X8_holds : MI := (yX8_holds, cX8_holds, 2, some .boolean, none, { frames := 0, cells := 0, slots := 0, locals := 0 })
def m_X8_anew : MI := (yX8_anew, cX8_anew, 2, none, none, { frames := 0, cells := 0, slots := 0, locals := 0 })
def m_X8_isFloor : MI := (yX8_isFloor, cX8_isFloor, 2, some .boolean, none, { frames := 1, cells := 0, slots := 0, locals := 22 })
def m_X8_isTeacher : MI := (yX8_isTeacher, cX8_isTeacher, 2, some .boolean, none, { frames := 1, cells := 0, slots := 0, locals := 22 })
def m_X8_isClass : MI := (yX8_isClass, cX8_isClass, 2, some .boolean, none, { frames := 1, cells := 0, slots := 0, locals := 22 })
def m_X8_isDancer : MI := (yX8_isDancer, cX8_isDancer, 2, some .boolean, none, { frames := 1, cells := 0, slots := 0, locals := 22 })
def m_X8_ofClass : MI := (yX8_ofClass, cX8_ofClass, 3, some .int, none, { frames := 0, cells := 0, slots := 0, locals := 0 })
def m_X8_ofDancer : MI := (yX8_ofDancer, cX8_ofDancer, 3, some .int, none, { frames := 0, cells := 0, slots := 0, locals := 0 })
def m_X8_adds : MI := (yX8_adds, cX8_adds, 3, none, none, { frames := 0, cells := 0, slots := 0, locals := 0 })
def m_X8_bits : MI := (yX8_bits, cX8_bits, 3, some .int, none, { frames := 0, cells := 0, slots := 0, locals := 0 })
def m_X8_spring : MI := (yX8_spring, cX8_spring, 2, some .int, none, { frames := 0, cells := 0, slots := 0, locals := 0 })
def m_X8_mirrors : MI := (yX8_mirrors, cX8_mirrors, 2, some .int, none, { frames := 0, cells := 0, slots := 0, locals := 0 })
def m_X8_barre : MI := (yX8_barre, cX8_barre, 2, some .int, none, { frames := 0, cells := 0, slots := 0, locals := 0 })
def m_X8_takes : MI := (yX8_takes, cX8_takes, 5, some .int, none, { frames := 1, cells := 0, slots := 0, locals := 21 })
def m_X8_isSpring : MI := (yX8_isSpring, cX8_isSpring, 4, some .boolean, none, { frames := 1, cells := 0, slots := 0, locals := 21 })
def m_X8_whyNo : MI := (yX8_whyNo, cX8_whyNo, 11, some .int, none, { frames := 2, cells := 0, slots := 0, locals := 44 })
def m_X8_hasSeat : MI := (yX8_hasSeat, cX8_hasSeat, 3, some .boolean, none, { frames := 1, cells := 0, slots := 0, locals := 22 })
def m_X8_classTakes : MI := (yX8_classTakes, cX8_classTakes, 2, some .int, none, { frames := 2, cells := 0, slots := 0, locals := 45 })
def m_X8_whyNoSeat : MI := (yX8_whyNoSeat, cX8_whyNoSeat, 4, some .int, none, { frames := 3, cells := 0, slots := 0, locals := 66 })
def m_X8_floors : MI := (yX8_floors, cX8_floors, 6, some .int, none, { frames := 0, cells := 0, slots := 0, locals := 0 })
def m_X8_teachers : MI := (yX8_teachers, cX8_teachers, 3, some .int, none, { frames := 0, cells := 0, slots := 0, locals := 0 })
def m_X8_sets : MI := (yX8_sets, cX8_sets, 8, none, none, { frames := 0, cells := 0, slots := 0, locals := 0 })
def m_X8_drops : MI := (yX8_drops, cX8_drops, 4, some .int, none, { frames := 1, cells := 0, slots := 0, locals := 22 })
def m_X8_dancers : MI := (yX8_dancers, cX8_dancers, 3, some .int, none, { frames := 0, cells := 0, slots := 0, locals := 0 })
def m_X8_passes : MI := (yX8_passes, cX8_passes, 2, some .int, none, { frames := 1, cells := 0, slots := 0, locals := 22 })
def m_X8_enters : MI := (yX8_enters, cX8_enters, 3, none, none, { frames := 1, cells := 0, slots := 0, locals := 22 })
def m_X8_leaves : MI := (yX8_leaves, cX8_leaves, 3, some .int, none, { frames := 1, cells := 0, slots := 0, locals := 22 })
def m_X8_coming : MI := (yX8_coming, cX8_coming, 4, some .int, none, { frames := 2, cells := 0, slots := 0, locals := 44 })
def m_X8_dances : MI := (yX8_dances, cX8_dances, 5, none, none, { frames := 1, cells := 0, slots := 0, locals := 22 })
def m_X8_week : MI := (yX8_week, cX8_week, 5, some .int, none, { frames := 3, cells := 0, slots := 0, locals := 67 })
def m_X8_weeksGo : MI := (yX8_weeksGo, cX8_weeksGo, 4, some .int, none, { frames := 4, cells := 0, slots := 0, locals := 91 })
def m_X8_copies : MI := (yX8_copies, cX8_copies, 4, none, none, { frames := 0, cells := 0, slots := 0, locals := 0 })
def m_X8_remember : MI := (yX8_remember, cX8_remember, 2, none, none, { frames := 1, cells := 0, slots := 0, locals := 23 })
def m_X8_append : MI := (yX8_append, cX8_append, 2, some .int, none, { frames := 1, cells := 0, slots := 0, locals := 22 })
def m_X8_clearText : MI := (yX8_clearText, cX8_clearText, 2, some .int, none, { frames := 0, cells := 0, slots := 0, locals := 0 })
def m_X8_sign : MI := (yX8_sign, cX8_sign, 1, some .int, none, { frames := 0, cells := 0, slots := 0, locals := 0 })
def m_X8_takesSign : MI := (yX8_takesSign, cX8_takesSign, 3, some .boolean, none, { frames := 1, cells := 0, slots := 0, locals := 20 })
def m_X8_figure : MI := (yX8_figure, cX8_figure, 5, some .boolean, none, { frames := 1, cells := 0, slots := 0, locals := 22 })
def m_X8_figures : MI := (yX8_figures, cX8_figures, 6, some .boolean, none, { frames := 2, cells := 0, slots := 0, locals := 46 })
def m_X8_readsClass : MI := (yX8_readsClass, cX8_readsClass, 1, some .boolean, none, { frames := 2, cells := 0, slots := 0, locals := 46 })
def m_X8_readsCommand : MI := (yX8_readsCommand, cX8_readsCommand, 1, some .boolean, none, { frames := 3, cells := 0, slots := 0, locals := 71 })
def m_X8_isStudio : MI := (yX8_isStudio, cX8_isStudio, 1, some .boolean, none, { frames := 4, cells := 0, slots := 0, locals := 91 })
def m_X8_errorPosition : MI := (yX8_errorPosition, cX8_errorPosition, 1, some .int, none, { frames := 5, cells := 0, slots := 0, locals := 111 })
def m_X8_canSet : MI := (yX8_canSet, cX8_canSet, 1, some .boolean, none, { frames := 2, cells := 0, slots := 0, locals := 43 })
def m_X8_areBoth : MI := (yX8_areBoth, cX8_areBoth, 1, some .boolean, none, { frames := 2, cells := 0, slots := 0, locals := 43 })
def m_X8_canPass : MI := (yX8_canPass, cX8_canPass, 2, some .boolean, none, { frames := 2, cells := 0, slots := 0, locals := 43 })
def m_X8_can : MI := (yX8_can, cX8_can, 1, some .boolean, none, { frames := 4, cells := 0, slots := 0, locals := 89 })
def m_X8_does : MI := (yX8_does, cX8_does, 1, none, none, { frames := 5, cells := 0, slots := 0, locals := 114 })
def m_X8_load : MI := (yX8_load, cX8_load, 2, some .int, none, { frames := 6, cells := 0, slots := 0, locals := 134 })
def m_X8_seats : MI := (yX8_seats, cX8_seats, 3, some .int, none, { frames := 1, cells := 0, slots := 0, locals := 22 })
def m_X8_left : MI := (yX8_left, cX8_left, 3, some .int, none, { frames := 1, cells := 0, slots := 0, locals := 22 })
def m_X8_tells : MI := (yX8_tells, cX8_tells, 2, some .int, none, { frames := 2, cells := 0, slots := 0, locals := 44 })
def m_X8_about : MI := (yX8_about, cX8_about, 2, some .int, none, { frames := 3, cells := 0, slots := 0, locals := 65 })
def m_X8_classes : MI := (yX8_classes, cX8_classes, 5, some .int, none, { frames := 1, cells := 0, slots := 0, locals := 22 })
def m_X8_floorOf : MI := (yX8_floorOf, cX8_floorOf, 3, some .int, none, { frames := 2, cells := 0, slots := 0, locals := 46 })
def m_X8_daysOf : MI := (yX8_daysOf, cX8_daysOf, 4, some .int, none, { frames := 1, cells := 0, slots := 0, locals := 22 })
def m_X8_teacherOf : MI := (yX8_teacherOf, cX8_teacherOf, 3, some .int, none, { frames := 2, cells := 0, slots := 0, locals := 46 })
def m_X8_classOf : MI := (yX8_classOf, cX8_classOf, 3, some .int, none, { frames := 3, cells := 0, slots := 0, locals := 66 })
def m_X8_seatsOf : MI := (yX8_seatsOf, cX8_seatsOf, 4, some .int, none, { frames := 2, cells := 0, slots := 0, locals := 44 })
def m_X8_dancerOf : MI := (yX8_dancerOf, cX8_dancerOf, 3, some .int, none, { frames := 3, cells := 0, slots := 0, locals := 67 })
def m_X8_uses : MI := (yX8_uses, cX8_uses, 2, some .int, none, { frames := 1, cells := 0, slots := 0, locals := 22 })
def m_X8_setting : MI := (yX8_setting, cX8_setting, 2, some .int, none, { frames := 1, cells := 0, slots := 0, locals := 22 })
def m_X8_isFloorLike : MI := (yX8_isFloorLike, cX8_isFloorLike, 4, some .boolean, none, { frames := 1, cells := 0, slots := 0, locals := 22 })
def m_X8_floor : MI := (yX8_floor, cX8_floor, 5, some .int, none, { frames := 2, cells := 0, slots := 0, locals := 45 })
def m_X8_teacher : MI := (yX8_teacher, cX8_teacher, 4, some .int, none, { frames := 2, cells := 0, slots := 0, locals := 44 })
def m_X8_isTime : MI := (yX8_isTime, cX8_isTime, 4, some .boolean, none, { frames := 1, cells := 0, slots := 0, locals := 22 })
def m_X8_triesClass : MI := (yX8_triesClass, cX8_triesClass, 8, some .int, none, { frames := 3, cells := 0, slots := 0, locals := 74 })
def m_X8_triesSeat : MI := (yX8_triesSeat, cX8_triesSeat, 4, some .int, none, { frames := 4, cells := 0, slots := 0, locals := 89 })
def m_X8_set : MI := (yX8_set, cX8_set, 8, some .int, none, { frames := 4, cells := 0, slots := 0, locals := 101 })
def m_X8_drop : MI := (yX8_drop, cX8_drop, 2, some .int, none, { frames := 2, cells := 0, slots := 0, locals := 45 })
def m_X8_dancer : MI := (yX8_dancer, cX8_dancer, 1, some .int, none, { frames := 2, cells := 0, slots := 0, locals := 44 })
def m_X8_pass : MI := (yX8_pass, cX8_pass, 2, some .int, none, { frames := 3, cells := 0, slots := 0, locals := 64 })
def m_X8_enter : MI := (yX8_enter, cX8_enter, 3, some .int, none, { frames := 5, cells := 0, slots := 0, locals := 112 })
def m_X8_leave : MI := (yX8_leave, cX8_leave, 4, some .int, none, { frames := 2, cells := 0, slots := 0, locals := 44 })
def m_X8_weeks : MI := (yX8_weeks, cX8_weeks, 2, some .int, none, { frames := 5, cells := 0, slots := 0, locals := 114 })
def m_X8_tune : MI := (yX8_tune, cX8_tune, 4, some .int, none, { frames := 2, cells := 0, slots := 0, locals := 44 })
def m_X8_undo : MI := (yX8_undo, cX8_undo, 1, some .int, none, { frames := 1, cells := 0, slots := 0, locals := 23 })
def m_X8_why : MI := (yX8_why, cX8_why, 8, some .int, none, { frames := 3, cells := 0, slots := 0, locals := 74 })
def m_X8_whySeat : MI := (yX8_whySeat, cX8_whySeat, 3, some .int, none, { frames := 4, cells := 0, slots := 0, locals := 89 })
def m_X8_bestFloor : MI := (yX8_bestFloor, cX8_bestFloor, 10, some .int, none, { frames := 3, cells := 0, slots := 0, locals := 74 })
def m_X8_emptyIn : MI := (yX8_emptyIn, cX8_emptyIn, 4, some .int, none, { frames := 4, cells := 0, slots := 0, locals := 91 })
def m_X8_held : MI := (yX8_held, cX8_held, 2, some .int, none, { frames := 4, cells := 0, slots := 0, locals := 91 })
def m_X8_isCommand : MI := (yX8_isCommand, cX8_isCommand, 6, some .boolean, none, { frames := 5, cells := 0, slots := 0, locals := 114 })
def m_X8_size : MI := (yX8_size, cX8_size, 1, some .long, none, { frames := 0, cells := 0, slots := 0, locals := 0 })
def m_X8_runScript : MI := (yX8_runScript, cX8_runScript, 10, some .int, none, { frames := 6, cells := 0, slots := 0, locals := 139 })
def m_X8_turns : MI := (yX8_turns, cX8_turns, 5, none, none, { frames := 4, cells := 0, slots := 0, locals := 101 })
def m_X8_dancersTurn : MI := (yX8_dancersTurn, cX8_dancersTurn, 5, none, none, { frames := 5, cells := 0, slots := 0, locals := 114 })
def m_X8_simulate : MI := (yX8_simulate, cX8_simulate, 9, some .int, none, { frames := 6, cells := 0, slots := 0, locals := 138 })
def m_X8_save : MI := (yX8_save, cX8_save, 2, some .int, none, { frames := 1, cells := 0, slots := 0, locals := 23 })
def m_X8_restore : MI := (yX8_restore, cX8_restore, 3, some .int, none, { frames := 1, cells := 0, slots := 0, locals := 23 })
def m_J6_bitCount_0f7a4 : MI := (yJ6_bitCount_0f7a4, cJ6_bitCount_0f7a4, 1, some .int, none, { frames := 0, cells := 0, slots := 0, locals := 0 })
def m_J9_max_7cf53 : MI := (yJ9_max_7cf53, cJ9_max_7cf53, 2, some .int, none, { frames := 0, cells := 0, slots := 0, locals := 0 })
def m_J9_min_7cf53 : MI := (yJ9_min_7cf53, cJ9_min_7cf53, 2, some .int, none, { frames := 0, cells := 0, slots := 0, locals := 0 })
def m_L_append : MI := (yL_append, cL_append, 4, some .int, some [(0, 9, 12, 13), (0, 9, 15, 15)], { frames := 8, cells := 2, slots := 12, locals := 133 })
def m_L_load : MI := (yL_load, cL_load, 3, some .int, some [(0, 8, 11, 15)], { frames := 8, cells := 1, slots := 6, locals := 157 })
def m_L_about : MI := (yL_about, cL_about, 4, some .int, some [(0, 9, 12, 13)], { frames := 7, cells := 1, slots := 6, locals := 113 })
def m_L_floorOf : MI := (yL_floorOf, cL_floorOf, 5, some .int, some [(0, 10, 13, 28), (0, 10, 17, 13)], { frames := 8, cells := 2, slots := 12, locals := 135 })
def m_L_teacherOf : MI := (yL_teacherOf, cL_teacherOf, 5, some .int, some [(0, 10, 13, 28), (0, 10, 17, 13)], { frames := 8, cells := 2, slots := 12, locals := 135 })
def m_L_classOf : MI := (yL_classOf, cL_classOf, 5, some .int, some [(0, 10, 13, 28), (0, 10, 17, 13)], { frames := 8, cells := 2, slots := 12, locals := 135 })
def m_L_dancerOf : MI := (yL_dancerOf, cL_dancerOf, 5, some .int, some [(0, 10, 13, 28), (0, 10, 17, 13)], { frames := 8, cells := 2, slots := 12, locals := 135 })
def m_L_uses : MI := (yL_uses, cL_uses, 4, some .int, some [(0, 9, 12, 13)], { frames := 8, cells := 1, slots := 6, locals := 133 })
def m_L_setting : MI := (yL_setting, cL_setting, 4, some .int, some [(0, 9, 12, 13)], { frames := 8, cells := 1, slots := 6, locals := 133 })
def m_L_floor : MI := (yL_floor, cL_floor, 7, some .int, some [(0, 14, 17, 13), (0, 14, 21, 15)], { frames := 8, cells := 5, slots := 30, locals := 136 })
def m_L_teacher : MI := (yL_teacher, cL_teacher, 5, some .int, some [(0, 10, 13, 13), (0, 10, 17, 15)], { frames := 8, cells := 3, slots := 18, locals := 134 })
def m_L_set : MI := (yL_set, cL_set, 9, some .int, some [(0, 18, 21, 28), (0, 18, 25, 13), (0, 18, 29, 15)], { frames := 9, cells := 7, slots := 42, locals := 161 })
def m_L_drop : MI := (yL_drop, cL_drop, 4, some .int, some [(0, 9, 12, 28)], { frames := 8, cells := 1, slots := 6, locals := 133 })
def m_L_dancer : MI := (yL_dancer, cL_dancer, 3, some .int, some [(0, 8, 11, 15)], { frames := 8, cells := 1, slots := 6, locals := 132 })
def m_L_pass : MI := (yL_pass, cL_pass, 4, some .int, some [(0, 9, 12, 28), (0, 9, 15, 15)], { frames := 8, cells := 2, slots := 12, locals := 133 })
def m_L_enter : MI := (yL_enter, cL_enter, 5, some .int, some [(0, 10, 13, 28)], { frames := 8, cells := 2, slots := 12, locals := 134 })
def m_L_leave : MI := (yL_leave, cL_leave, 5, some .int, some [(0, 10, 13, 28), (0, 10, 17, 15)], { frames := 8, cells := 3, slots := 18, locals := 134 })
def m_L_weeks : MI := (yL_weeks, cL_weeks, 4, some .int, some [(0, 9, 12, 13)], { frames := 8, cells := 1, slots := 6, locals := 134 })
def m_L_tune : MI := (yL_tune, cL_tune, 5, some .int, some [(0, 10, 13, 13)], { frames := 8, cells := 2, slots := 12, locals := 135 })
def m_L_undo : MI := (yL_undo, cL_undo, 3, some .int, some [(0, 8, 11, 15)], { frames := 8, cells := 1, slots := 6, locals := 132 })
def m_L_why : MI := (yL_why, cL_why, 9, some .int, some [(0, 18, 21, 28), (0, 18, 25, 13)], { frames := 9, cells := 6, slots := 36, locals := 161 })
def m_L_whySeat : MI := (yL_whySeat, cL_whySeat, 5, some .int, some [(0, 10, 13, 28)], { frames := 8, cells := 2, slots := 12, locals := 134 })
def m_L_bestFloor : MI := (yL_bestFloor, cL_bestFloor, 8, some .int, some [(0, 16, 19, 28), (0, 16, 23, 13)], { frames := 9, cells := 5, slots := 30, locals := 160 })
def m_L_emptyIn : MI := (yL_emptyIn, cL_emptyIn, 4, some .int, some [(0, 9, 12, 28)], { frames := 8, cells := 1, slots := 6, locals := 134 })
def m_L_runScript : MI := (yL_runScript, cL_runScript, 6, some .int, some [(0, 11, 14, 13)], { frames := 8, cells := 2, slots := 12, locals := 163 })
def m_L_simulate : MI := (yL_simulate, cL_simulate, 6, some .int, some [(0, 11, 14, 13)], { frames := 8, cells := 1, slots := 6, locals := 162 })
def m_L_save : MI := (yL_save, cL_save, 4, some .int, some [(0, 9, 12, 28)], { frames := 8, cells := 1, slots := 6, locals := 133 })
def m_L_restore : MI := (yL_restore, cL_restore, 4, some .int, some [(0, 9, 12, 28), (0, 9, 15, 15)], { frames := 8, cells := 2, slots := 12, locals := 133 })
def m_L_law : MI := (x, code, maxLocals, ret, none, room_1)
theorem cw_X0_init : cwOf m_X0_init ∈ tblG := tG1 (i := 165) (by decide +kernel) (by decide +kernel)
theorem mk_X0_init : MK m_X0_init 0 := ⟨cw_X0_init, tG1 (i := 7) (by decide +kernel) (by decide +kernel), rfl, by decide +kernel⟩
theorem im_X0_init : Cond.instanceMethod (m_X0_init.1) ∈ tblG := tG1 (i := 164) (by decide +kernel) (by decide +kernel)
theorem cw_X0_copyFrom : cwOf m_X0_copyFrom ∈ tblG := tG2 (i := 144) (by decide +kernel) (by decide +kernel)
theorem mk_X0_copyFrom : MK m_X0_copyFrom 1 := ⟨cw_X0_copyFrom, tG1 (i := 7) (by decide +kernel) (by decide +kernel), rfl, by decide +kernel⟩
theorem im_X0_copyFrom : Cond.instanceMethod (m_X0_copyFrom.1) ∈ tblG := tG2 (i := 142) (by decide +kernel) (by decide +kernel)
theorem se_X0_copyFrom : Cond.selects m_X0_copyFrom.1.cls m_X0_copyFrom.1 m_X0_copyFrom.1 ∈ tblG := tG2 (i := 143) (by decide +kernel) (by decide +kernel)
theorem cw_X0_usesSoFar : cwOf m_X0_usesSoFar ∈ tblG := tG3 (i := 199) (by decide +kernel) (by decide +kernel)
theorem mk_X0_usesSoFar : MK m_X0_usesSoFar 0 := ⟨cw_X0_usesSoFar, tG1 (i := 7) (by decide +kernel) (by decide +kernel), rfl, by decide +kernel⟩
theorem im_X0_usesSoFar : Cond.instanceMethod (m_X0_usesSoFar.1) ∈ tblG := tG3 (i := 197) (by decide +kernel) (by decide +kernel)
theorem se_X0_usesSoFar : Cond.selects m_X0_usesSoFar.1.cls m_X0_usesSoFar.1 m_X0_usesSoFar.1 ∈ tblG := tG3 (i := 198) (by decide +kernel) (by decide +kernel)
theorem cw_X0_dance : cwOf m_X0_dance ∈ tblG := tG2 (i := 170) (by decide +kernel) (by decide +kernel)
theorem mk_X0_dance : MK m_X0_dance 1 := ⟨cw_X0_dance, tG1 (i := 7) (by decide +kernel) (by decide +kernel), rfl, by decide +kernel⟩
theorem im_X0_dance : Cond.instanceMethod (m_X0_dance.1) ∈ tblG := tG2 (i := 168) (by decide +kernel) (by decide +kernel)
theorem se_X0_dance : Cond.selects m_X0_dance.1.cls m_X0_dance.1 m_X0_dance.1 ∈ tblG := tG2 (i := 169) (by decide +kernel) (by decide +kernel)
theorem cw_X0_riseWith : cwOf m_X0_riseWith ∈ tblG := tG2 (i := 174) (by decide +kernel) (by decide +kernel)
theorem mk_X0_riseWith : MK m_X0_riseWith 1 := ⟨cw_X0_riseWith, tG1 (i := 7) (by decide +kernel) (by decide +kernel), rfl, by decide +kernel⟩
theorem im_X0_riseWith : Cond.instanceMethod (m_X0_riseWith.1) ∈ tblG := tG2 (i := 172) (by decide +kernel) (by decide +kernel)
theorem se_X0_riseWith : Cond.selects m_X0_riseWith.1.cls m_X0_riseWith.1 m_X0_riseWith.1 ∈ tblG := tG2 (i := 173) (by decide +kernel) (by decide +kernel)
theorem cw_X1_init : cwOf m_X1_init ∈ tblG := tG1 (i := 67) (by decide +kernel) (by decide +kernel)
theorem mk_X1_init : MK m_X1_init 0 := ⟨cw_X1_init, tG1 (i := 4) (by decide +kernel) (by decide +kernel), rfl, by decide +kernel⟩
theorem im_X1_init : Cond.instanceMethod (m_X1_init.1) ∈ tblG := tG1 (i := 66) (by decide +kernel) (by decide +kernel)
theorem cw_X1_copyFrom : cwOf m_X1_copyFrom ∈ tblG := tG2 (i := 132) (by decide +kernel) (by decide +kernel)
theorem mk_X1_copyFrom : MK m_X1_copyFrom 1 := ⟨cw_X1_copyFrom, tG1 (i := 4) (by decide +kernel) (by decide +kernel), rfl, by decide +kernel⟩
theorem im_X1_copyFrom : Cond.instanceMethod (m_X1_copyFrom.1) ∈ tblG := tG2 (i := 130) (by decide +kernel) (by decide +kernel)
theorem se_X1_copyFrom : Cond.selects m_X1_copyFrom.1.cls m_X1_copyFrom.1 m_X1_copyFrom.1 ∈ tblG := tG2 (i := 131) (by decide +kernel) (by decide +kernel)
theorem cw_X1_hasSpringFor : cwOf m_X1_hasSpringFor ∈ tblG := tG3 (i := 105) (by decide +kernel) (by decide +kernel)
theorem mk_X1_hasSpringFor : MK m_X1_hasSpringFor 2 := ⟨cw_X1_hasSpringFor, tG1 (i := 4) (by decide +kernel) (by decide +kernel), rfl, by decide +kernel⟩
theorem im_X1_hasSpringFor : Cond.instanceMethod (m_X1_hasSpringFor.1) ∈ tblG := tG3 (i := 103) (by decide +kernel) (by decide +kernel)
theorem se_X1_hasSpringFor : Cond.selects m_X1_hasSpringFor.1.cls m_X1_hasSpringFor.1 m_X1_hasSpringFor.1 ∈ tblG := tG3 (i := 104) (by decide +kernel) (by decide +kernel)
theorem cw_X1_hasBarreFor : cwOf m_X1_hasBarreFor ∈ tblG := tG3 (i := 109) (by decide +kernel) (by decide +kernel)
theorem mk_X1_hasBarreFor : MK m_X1_hasBarreFor 2 := ⟨cw_X1_hasBarreFor, tG1 (i := 4) (by decide +kernel) (by decide +kernel), rfl, by decide +kernel⟩
theorem im_X1_hasBarreFor : Cond.instanceMethod (m_X1_hasBarreFor.1) ∈ tblG := tG3 (i := 107) (by decide +kernel) (by decide +kernel)
theorem se_X1_hasBarreFor : Cond.selects m_X1_hasBarreFor.1.cls m_X1_hasBarreFor.1 m_X1_hasBarreFor.1 ∈ tblG := tG3 (i := 108) (by decide +kernel) (by decide +kernel)
theorem cw_X1_hasMirrorsFor : cwOf m_X1_hasMirrorsFor ∈ tblG := tG3 (i := 113) (by decide +kernel) (by decide +kernel)
theorem mk_X1_hasMirrorsFor : MK m_X1_hasMirrorsFor 2 := ⟨cw_X1_hasMirrorsFor, tG1 (i := 4) (by decide +kernel) (by decide +kernel), rfl, by decide +kernel⟩
theorem im_X1_hasMirrorsFor : Cond.instanceMethod (m_X1_hasMirrorsFor.1) ∈ tblG := tG3 (i := 111) (by decide +kernel) (by decide +kernel)
theorem se_X1_hasMirrorsFor : Cond.selects m_X1_hasMirrorsFor.1.cls m_X1_hasMirrorsFor.1 m_X1_hasMirrorsFor.1 ∈ tblG := tG3 (i := 112) (by decide +kernel) (by decide +kernel)
theorem cw_X1_roomFor : cwOf m_X1_roomFor ∈ tblG := tG3 (i := 158) (by decide +kernel) (by decide +kernel)
theorem mk_X1_roomFor : MK m_X1_roomFor 1 := ⟨cw_X1_roomFor, tG1 (i := 4) (by decide +kernel) (by decide +kernel), rfl, by decide +kernel⟩
theorem im_X1_roomFor : Cond.instanceMethod (m_X1_roomFor.1) ∈ tblG := tG3 (i := 156) (by decide +kernel) (by decide +kernel)
theorem se_X1_roomFor : Cond.selects m_X1_roomFor.1.cls m_X1_roomFor.1 m_X1_roomFor.1 ∈ tblG := tG3 (i := 157) (by decide +kernel) (by decide +kernel)
theorem cw_X2_init : cwOf m_X2_init ∈ tblG := tG2 (i := 12) (by decide +kernel) (by decide +kernel)
theorem mk_X2_init : MK m_X2_init 0 := ⟨cw_X2_init, tG1 (i := 8) (by decide +kernel) (by decide +kernel), rfl, by decide +kernel⟩
theorem im_X2_init : Cond.instanceMethod (m_X2_init.1) ∈ tblG := tG2 (i := 11) (by decide +kernel) (by decide +kernel)
theorem cw_X2_remember : cwOf m_X2_remember ∈ tblG := tG4 (i := 64) (by decide +kernel) (by decide +kernel)
theorem mk_X2_remember : MK m_X2_remember 1 := ⟨cw_X2_remember, tG1 (i := 8) (by decide +kernel) (by decide +kernel), rfl, by decide +kernel⟩
theorem im_X2_remember : Cond.instanceMethod (m_X2_remember.1) ∈ tblG := tG4 (i := 62) (by decide +kernel) (by decide +kernel)
theorem se_X2_remember : Cond.selects m_X2_remember.1.cls m_X2_remember.1 m_X2_remember.1 ∈ tblG := tG4 (i := 63) (by decide +kernel) (by decide +kernel)
theorem cw_X2_takeBack : cwOf m_X2_takeBack ∈ tblG := tG4 (i := 148) (by decide +kernel) (by decide +kernel)
theorem mk_X2_takeBack : MK m_X2_takeBack 1 := ⟨cw_X2_takeBack, tG1 (i := 8) (by decide +kernel) (by decide +kernel), rfl, by decide +kernel⟩
theorem im_X2_takeBack : Cond.instanceMethod (m_X2_takeBack.1) ∈ tblG := tG4 (i := 146) (by decide +kernel) (by decide +kernel)
theorem se_X2_takeBack : Cond.selects m_X2_takeBack.1.cls m_X2_takeBack.1 m_X2_takeBack.1 ∈ tblG := tG4 (i := 147) (by decide +kernel) (by decide +kernel)
theorem cw_X2_forgetAll : cwOf m_X2_forgetAll ∈ tblG := tG3 (i := 54) (by decide +kernel) (by decide +kernel)
theorem mk_X2_forgetAll : MK m_X2_forgetAll 0 := ⟨cw_X2_forgetAll, tG1 (i := 8) (by decide +kernel) (by decide +kernel), rfl, by decide +kernel⟩
theorem im_X2_forgetAll : Cond.instanceMethod (m_X2_forgetAll.1) ∈ tblG := tG3 (i := 52) (by decide +kernel) (by decide +kernel)
theorem se_X2_forgetAll : Cond.selects m_X2_forgetAll.1.cls m_X2_forgetAll.1 m_X2_forgetAll.1 ∈ tblG := tG3 (i := 53) (by decide +kernel) (by decide +kernel)
theorem cw_X3_init : cwOf m_X3_init ∈ tblG := tG1 (i := 113) (by decide +kernel) (by decide +kernel)
theorem mk_X3_init : MK m_X3_init 0 := ⟨cw_X3_init, tG1 (i := 6) (by decide +kernel) (by decide +kernel), rfl, by decide +kernel⟩
theorem im_X3_init : Cond.instanceMethod (m_X3_init.1) ∈ tblG := tG1 (i := 112) (by decide +kernel) (by decide +kernel)
theorem cw_X3_copyFrom : cwOf m_X3_copyFrom ∈ tblG := tG2 (i := 140) (by decide +kernel) (by decide +kernel)
theorem mk_X3_copyFrom : MK m_X3_copyFrom 1 := ⟨cw_X3_copyFrom, tG1 (i := 6) (by decide +kernel) (by decide +kernel), rfl, by decide +kernel⟩
theorem im_X3_copyFrom : Cond.instanceMethod (m_X3_copyFrom.1) ∈ tblG := tG2 (i := 138) (by decide +kernel) (by decide +kernel)
theorem se_X3_copyFrom : Cond.selects m_X3_copyFrom.1.cls m_X3_copyFrom.1 m_X3_copyFrom.1 ∈ tblG := tG2 (i := 139) (by decide +kernel) (by decide +kernel)
theorem cw_X3_isAt : cwOf m_X3_isAt ∈ tblG := tG3 (i := 93) (by decide +kernel) (by decide +kernel)
theorem mk_X3_isAt : MK m_X3_isAt 2 := ⟨cw_X3_isAt, tG1 (i := 6) (by decide +kernel) (by decide +kernel), rfl, by decide +kernel⟩
theorem im_X3_isAt : Cond.instanceMethod (m_X3_isAt.1) ∈ tblG := tG3 (i := 91) (by decide +kernel) (by decide +kernel)
theorem se_X3_isAt : Cond.selects m_X3_isAt.1.cls m_X3_isAt.1 m_X3_isAt.1 ∈ tblG := tG3 (i := 92) (by decide +kernel) (by decide +kernel)
theorem cw_X3_seatsDancer : cwOf m_X3_seatsDancer ∈ tblG := tG2 (i := 160) (by decide +kernel) (by decide +kernel)
theorem mk_X3_seatsDancer : MK m_X3_seatsDancer 1 := ⟨cw_X3_seatsDancer, tG1 (i := 6) (by decide +kernel) (by decide +kernel), rfl, by decide +kernel⟩
theorem im_X3_seatsDancer : Cond.instanceMethod (m_X3_seatsDancer.1) ∈ tblG := tG2 (i := 158) (by decide +kernel) (by decide +kernel)
theorem se_X3_seatsDancer : Cond.selects m_X3_seatsDancer.1.cls m_X3_seatsDancer.1 m_X3_seatsDancer.1 ∈ tblG := tG2 (i := 159) (by decide +kernel) (by decide +kernel)
theorem cw_X3_countSeats : cwOf m_X3_countSeats ∈ tblG := tG3 (i := 149) (by decide +kernel) (by decide +kernel)
theorem mk_X3_countSeats : MK m_X3_countSeats 0 := ⟨cw_X3_countSeats, tG1 (i := 6) (by decide +kernel) (by decide +kernel), rfl, by decide +kernel⟩
theorem im_X3_countSeats : Cond.instanceMethod (m_X3_countSeats.1) ∈ tblG := tG3 (i := 147) (by decide +kernel) (by decide +kernel)
theorem se_X3_countSeats : Cond.selects m_X3_countSeats.1.cls m_X3_countSeats.1 m_X3_countSeats.1 ∈ tblG := tG3 (i := 148) (by decide +kernel) (by decide +kernel)
theorem cw_X4_init : cwOf m_X4_init ∈ tblG := tG1 (i := 60) (by decide +kernel) (by decide +kernel)
theorem mk_X4_init : MK m_X4_init 0 := ⟨cw_X4_init, tG1 (i := 3) (by decide +kernel) (by decide +kernel), rfl, by decide +kernel⟩
theorem im_X4_init : Cond.instanceMethod (m_X4_init.1) ∈ tblG := tG1 (i := 59) (by decide +kernel) (by decide +kernel)
theorem cw_X4_makeNew : cwOf m_X4_makeNew ∈ tblG := tG1 (i := 191) (by decide +kernel) (by decide +kernel)
theorem mk_X4_makeNew : MK m_X4_makeNew 0 := ⟨cw_X4_makeNew, tG1 (i := 3) (by decide +kernel) (by decide +kernel), rfl, by decide +kernel⟩
theorem im_X4_makeNew : Cond.instanceMethod (m_X4_makeNew.1) ∈ tblG := tG1 (i := 189) (by decide +kernel) (by decide +kernel)
theorem se_X4_makeNew : Cond.selects m_X4_makeNew.1.cls m_X4_makeNew.1 m_X4_makeNew.1 ∈ tblG := tG1 (i := 190) (by decide +kernel) (by decide +kernel)
theorem cw_X4_copyFrom : cwOf m_X4_copyFrom ∈ tblG := tG2 (i := 124) (by decide +kernel) (by decide +kernel)
theorem mk_X4_copyFrom : MK m_X4_copyFrom 1 := ⟨cw_X4_copyFrom, tG1 (i := 3) (by decide +kernel) (by decide +kernel), rfl, by decide +kernel⟩
theorem im_X4_copyFrom : Cond.instanceMethod (m_X4_copyFrom.1) ∈ tblG := tG2 (i := 122) (by decide +kernel) (by decide +kernel)
theorem se_X4_copyFrom : Cond.selects m_X4_copyFrom.1.cls m_X4_copyFrom.1 m_X4_copyFrom.1 ∈ tblG := tG2 (i := 123) (by decide +kernel) (by decide +kernel)
theorem cw_X4_copyRowsFrom : cwOf m_X4_copyRowsFrom ∈ tblG := tG2 (i := 128) (by decide +kernel) (by decide +kernel)
theorem mk_X4_copyRowsFrom : MK m_X4_copyRowsFrom 1 := ⟨cw_X4_copyRowsFrom, tG1 (i := 3) (by decide +kernel) (by decide +kernel), rfl, by decide +kernel⟩
theorem im_X4_copyRowsFrom : Cond.instanceMethod (m_X4_copyRowsFrom.1) ∈ tblG := tG2 (i := 127) (by decide +kernel) (by decide +kernel)
theorem se_X4_copyRowsFrom : Cond.selects m_X4_copyRowsFrom.1.cls m_X4_copyRowsFrom.1 m_X4_copyRowsFrom.1 ∈ tblG := tGs (i := 8) (by decide +kernel) (by decide +kernel)
theorem cw_X4_hasFloor : cwOf m_X4_hasFloor ∈ tblG := tG3 (i := 77) (by decide +kernel) (by decide +kernel)
theorem mk_X4_hasFloor : MK m_X4_hasFloor 1 := ⟨cw_X4_hasFloor, tG1 (i := 3) (by decide +kernel) (by decide +kernel), rfl, by decide +kernel⟩
theorem im_X4_hasFloor : Cond.instanceMethod (m_X4_hasFloor.1) ∈ tblG := tG3 (i := 75) (by decide +kernel) (by decide +kernel)
theorem se_X4_hasFloor : Cond.selects m_X4_hasFloor.1.cls m_X4_hasFloor.1 m_X4_hasFloor.1 ∈ tblG := tG3 (i := 76) (by decide +kernel) (by decide +kernel)
theorem cw_X4_hasTeacher : cwOf m_X4_hasTeacher ∈ tblG := tG3 (i := 81) (by decide +kernel) (by decide +kernel)
theorem mk_X4_hasTeacher : MK m_X4_hasTeacher 1 := ⟨cw_X4_hasTeacher, tG1 (i := 3) (by decide +kernel) (by decide +kernel), rfl, by decide +kernel⟩
theorem im_X4_hasTeacher : Cond.instanceMethod (m_X4_hasTeacher.1) ∈ tblG := tG3 (i := 79) (by decide +kernel) (by decide +kernel)
theorem se_X4_hasTeacher : Cond.selects m_X4_hasTeacher.1.cls m_X4_hasTeacher.1 m_X4_hasTeacher.1 ∈ tblG := tG3 (i := 80) (by decide +kernel) (by decide +kernel)
theorem cw_X4_hasLesson : cwOf m_X4_hasLesson ∈ tblG := tG3 (i := 137) (by decide +kernel) (by decide +kernel)
theorem mk_X4_hasLesson : MK m_X4_hasLesson 1 := ⟨cw_X4_hasLesson, tG1 (i := 3) (by decide +kernel) (by decide +kernel), rfl, by decide +kernel⟩
theorem im_X4_hasLesson : Cond.instanceMethod (m_X4_hasLesson.1) ∈ tblG := tG3 (i := 135) (by decide +kernel) (by decide +kernel)
theorem se_X4_hasLesson : Cond.selects m_X4_hasLesson.1.cls m_X4_hasLesson.1 m_X4_hasLesson.1 ∈ tblG := tG3 (i := 136) (by decide +kernel) (by decide +kernel)
theorem cw_X4_hasDancer : cwOf m_X4_hasDancer ∈ tblG := tG3 (i := 129) (by decide +kernel) (by decide +kernel)
theorem mk_X4_hasDancer : MK m_X4_hasDancer 1 := ⟨cw_X4_hasDancer, tG1 (i := 3) (by decide +kernel) (by decide +kernel), rfl, by decide +kernel⟩
theorem im_X4_hasDancer : Cond.instanceMethod (m_X4_hasDancer.1) ∈ tblG := tG3 (i := 127) (by decide +kernel) (by decide +kernel)
theorem se_X4_hasDancer : Cond.selects m_X4_hasDancer.1.cls m_X4_hasDancer.1 m_X4_hasDancer.1 ∈ tblG := tG3 (i := 128) (by decide +kernel) (by decide +kernel)
theorem cw_X4_hasSeat : cwOf m_X4_hasSeat ∈ tblG := tG3 (i := 167) (by decide +kernel) (by decide +kernel)
theorem mk_X4_hasSeat : MK m_X4_hasSeat 2 := ⟨cw_X4_hasSeat, tG1 (i := 3) (by decide +kernel) (by decide +kernel), rfl, by decide +kernel⟩
theorem im_X4_hasSeat : Cond.instanceMethod (m_X4_hasSeat.1) ∈ tblG := tG3 (i := 165) (by decide +kernel) (by decide +kernel)
theorem se_X4_hasSeat : Cond.selects m_X4_hasSeat.1.cls m_X4_hasSeat.1 m_X4_hasSeat.1 ∈ tblG := tG3 (i := 166) (by decide +kernel) (by decide +kernel)
theorem cw_X4_mayHavePass : cwOf m_X4_mayHavePass ∈ tblG := tG3 (i := 125) (by decide +kernel) (by decide +kernel)
theorem mk_X4_mayHavePass : MK m_X4_mayHavePass 1 := ⟨cw_X4_mayHavePass, tG1 (i := 3) (by decide +kernel) (by decide +kernel), rfl, by decide +kernel⟩
theorem im_X4_mayHavePass : Cond.instanceMethod (m_X4_mayHavePass.1) ∈ tblG := tG3 (i := 123) (by decide +kernel) (by decide +kernel)
theorem se_X4_mayHavePass : Cond.selects m_X4_mayHavePass.1.cls m_X4_mayHavePass.1 m_X4_mayHavePass.1 ∈ tblG := tG3 (i := 124) (by decide +kernel) (by decide +kernel)
theorem cw_X4_addFloor : cwOf m_X4_addFloor ∈ tblG := tG3 (i := 65) (by decide +kernel) (by decide +kernel)
theorem mk_X4_addFloor : MK m_X4_addFloor 4 := ⟨cw_X4_addFloor, tG1 (i := 3) (by decide +kernel) (by decide +kernel), rfl, by decide +kernel⟩
theorem im_X4_addFloor : Cond.instanceMethod (m_X4_addFloor.1) ∈ tblG := tG3 (i := 63) (by decide +kernel) (by decide +kernel)
theorem se_X4_addFloor : Cond.selects m_X4_addFloor.1.cls m_X4_addFloor.1 m_X4_addFloor.1 ∈ tblG := tG3 (i := 64) (by decide +kernel) (by decide +kernel)
theorem cw_X4_addTeacher : cwOf m_X4_addTeacher ∈ tblG := tG3 (i := 69) (by decide +kernel) (by decide +kernel)
theorem mk_X4_addTeacher : MK m_X4_addTeacher 2 := ⟨cw_X4_addTeacher, tG1 (i := 3) (by decide +kernel) (by decide +kernel), rfl, by decide +kernel⟩
theorem im_X4_addTeacher : Cond.instanceMethod (m_X4_addTeacher.1) ∈ tblG := tG3 (i := 67) (by decide +kernel) (by decide +kernel)
theorem se_X4_addTeacher : Cond.selects m_X4_addTeacher.1.cls m_X4_addTeacher.1 m_X4_addTeacher.1 ∈ tblG := tG3 (i := 68) (by decide +kernel) (by decide +kernel)
theorem cw_X4_addDancer : cwOf m_X4_addDancer ∈ tblG := tG3 (i := 117) (by decide +kernel) (by decide +kernel)
theorem mk_X4_addDancer : MK m_X4_addDancer 0 := ⟨cw_X4_addDancer, tG1 (i := 3) (by decide +kernel) (by decide +kernel), rfl, by decide +kernel⟩
theorem im_X4_addDancer : Cond.instanceMethod (m_X4_addDancer.1) ∈ tblG := tG3 (i := 115) (by decide +kernel) (by decide +kernel)
theorem se_X4_addDancer : Cond.selects m_X4_addDancer.1.cls m_X4_addDancer.1 m_X4_addDancer.1 ∈ tblG := tG3 (i := 116) (by decide +kernel) (by decide +kernel)
theorem cw_X4_addLesson : cwOf m_X4_addLesson ∈ tblG := tG3 (i := 73) (by decide +kernel) (by decide +kernel)
theorem mk_X4_addLesson : MK m_X4_addLesson 6 := ⟨cw_X4_addLesson, tG1 (i := 3) (by decide +kernel) (by decide +kernel), rfl, by decide +kernel⟩
theorem im_X4_addLesson : Cond.instanceMethod (m_X4_addLesson.1) ∈ tblG := tG3 (i := 71) (by decide +kernel) (by decide +kernel)
theorem se_X4_addLesson : Cond.selects m_X4_addLesson.1.cls m_X4_addLesson.1 m_X4_addLesson.1 ∈ tblG := tG3 (i := 72) (by decide +kernel) (by decide +kernel)
theorem cw_X4_dropLesson : cwOf m_X4_dropLesson ∈ tblG := tG3 (i := 171) (by decide +kernel) (by decide +kernel)
theorem mk_X4_dropLesson : MK m_X4_dropLesson 1 := ⟨cw_X4_dropLesson, tG1 (i := 3) (by decide +kernel) (by decide +kernel), rfl, by decide +kernel⟩
theorem im_X4_dropLesson : Cond.instanceMethod (m_X4_dropLesson.1) ∈ tblG := tG3 (i := 169) (by decide +kernel) (by decide +kernel)
theorem se_X4_dropLesson : Cond.selects m_X4_dropLesson.1.cls m_X4_dropLesson.1 m_X4_dropLesson.1 ∈ tblG := tG3 (i := 170) (by decide +kernel) (by decide +kernel)
theorem cw_X4_givePass : cwOf m_X4_givePass ∈ tblG := tG3 (i := 121) (by decide +kernel) (by decide +kernel)
theorem mk_X4_givePass : MK m_X4_givePass 1 := ⟨cw_X4_givePass, tG1 (i := 3) (by decide +kernel) (by decide +kernel), rfl, by decide +kernel⟩
theorem im_X4_givePass : Cond.instanceMethod (m_X4_givePass.1) ∈ tblG := tG3 (i := 119) (by decide +kernel) (by decide +kernel)
theorem se_X4_givePass : Cond.selects m_X4_givePass.1.cls m_X4_givePass.1 m_X4_givePass.1 ∈ tblG := tG3 (i := 120) (by decide +kernel) (by decide +kernel)
theorem cw_X4_takeSeat : cwOf m_X4_takeSeat ∈ tblG := tG3 (i := 133) (by decide +kernel) (by decide +kernel)
theorem mk_X4_takeSeat : MK m_X4_takeSeat 2 := ⟨cw_X4_takeSeat, tG1 (i := 3) (by decide +kernel) (by decide +kernel), rfl, by decide +kernel⟩
theorem im_X4_takeSeat : Cond.instanceMethod (m_X4_takeSeat.1) ∈ tblG := tG3 (i := 131) (by decide +kernel) (by decide +kernel)
theorem se_X4_takeSeat : Cond.selects m_X4_takeSeat.1.cls m_X4_takeSeat.1 m_X4_takeSeat.1 ∈ tblG := tG3 (i := 132) (by decide +kernel) (by decide +kernel)
theorem cw_X4_giveUpSeat : cwOf m_X4_giveUpSeat ∈ tblG := tG3 (i := 163) (by decide +kernel) (by decide +kernel)
theorem mk_X4_giveUpSeat : MK m_X4_giveUpSeat 2 := ⟨cw_X4_giveUpSeat, tG1 (i := 3) (by decide +kernel) (by decide +kernel), rfl, by decide +kernel⟩
theorem im_X4_giveUpSeat : Cond.instanceMethod (m_X4_giveUpSeat.1) ∈ tblG := tG3 (i := 161) (by decide +kernel) (by decide +kernel)
theorem se_X4_giveUpSeat : Cond.selects m_X4_giveUpSeat.1.cls m_X4_giveUpSeat.1 m_X4_giveUpSeat.1 ∈ tblG := tG3 (i := 162) (by decide +kernel) (by decide +kernel)
theorem cw_X4_countRefusal : cwOf m_X4_countRefusal ∈ tblG := tG4 (i := 86) (by decide +kernel) (by decide +kernel)
theorem mk_X4_countRefusal : MK m_X4_countRefusal 1 := ⟨cw_X4_countRefusal, tG1 (i := 3) (by decide +kernel) (by decide +kernel), rfl, by decide +kernel⟩
theorem im_X4_countRefusal : Cond.instanceMethod (m_X4_countRefusal.1) ∈ tblG := tG4 (i := 84) (by decide +kernel) (by decide +kernel)
theorem se_X4_countRefusal : Cond.selects m_X4_countRefusal.1.cls m_X4_countRefusal.1 m_X4_countRefusal.1 ∈ tblG := tG4 (i := 85) (by decide +kernel) (by decide +kernel)
theorem cw_X4_reasonAgainstLesson : cwOf m_X4_reasonAgainstLesson ∈ tblG := tG3 (i := 85) (by decide +kernel) (by decide +kernel)
theorem mk_X4_reasonAgainstLesson : MK m_X4_reasonAgainstLesson 6 := ⟨cw_X4_reasonAgainstLesson, tG1 (i := 3) (by decide +kernel) (by decide +kernel), rfl, by decide +kernel⟩
theorem im_X4_reasonAgainstLesson : Cond.instanceMethod (m_X4_reasonAgainstLesson.1) ∈ tblG := tG3 (i := 83) (by decide +kernel) (by decide +kernel)
theorem se_X4_reasonAgainstLesson : Cond.selects m_X4_reasonAgainstLesson.1.cls m_X4_reasonAgainstLesson.1 m_X4_reasonAgainstLesson.1 ∈ tblG := tG3 (i := 84) (by decide +kernel) (by decide +kernel)
theorem cw_X4_isFloorInUse : cwOf m_X4_isFloorInUse ∈ tblG := tG3 (i := 89) (by decide +kernel) (by decide +kernel)
theorem mk_X4_isFloorInUse : MK m_X4_isFloorInUse 3 := ⟨cw_X4_isFloorInUse, tG1 (i := 3) (by decide +kernel) (by decide +kernel), rfl, by decide +kernel⟩
theorem im_X4_isFloorInUse : Cond.instanceMethod (m_X4_isFloorInUse.1) ∈ tblG := tG3 (i := 88) (by decide +kernel) (by decide +kernel)
theorem se_X4_isFloorInUse : Cond.selects m_X4_isFloorInUse.1.cls m_X4_isFloorInUse.1 m_X4_isFloorInUse.1 ∈ tblG := tGs (i := 14) (by decide +kernel) (by decide +kernel)
theorem cw_X4_isTeacherInUse : cwOf m_X4_isTeacherInUse ∈ tblG := tG3 (i := 97) (by decide +kernel) (by decide +kernel)
theorem mk_X4_isTeacherInUse : MK m_X4_isTeacherInUse 3 := ⟨cw_X4_isTeacherInUse, tG1 (i := 3) (by decide +kernel) (by decide +kernel), rfl, by decide +kernel⟩
theorem im_X4_isTeacherInUse : Cond.instanceMethod (m_X4_isTeacherInUse.1) ∈ tblG := tG3 (i := 96) (by decide +kernel) (by decide +kernel)
theorem se_X4_isTeacherInUse : Cond.selects m_X4_isTeacherInUse.1.cls m_X4_isTeacherInUse.1 m_X4_isTeacherInUse.1 ∈ tblG := tGs (i := 15) (by decide +kernel) (by decide +kernel)
theorem cw_X4_reasonAgainstSeat : cwOf m_X4_reasonAgainstSeat ∈ tblG := tG3 (i := 141) (by decide +kernel) (by decide +kernel)
theorem mk_X4_reasonAgainstSeat : MK m_X4_reasonAgainstSeat 2 := ⟨cw_X4_reasonAgainstSeat, tG1 (i := 3) (by decide +kernel) (by decide +kernel), rfl, by decide +kernel⟩
theorem im_X4_reasonAgainstSeat : Cond.instanceMethod (m_X4_reasonAgainstSeat.1) ∈ tblG := tG3 (i := 139) (by decide +kernel) (by decide +kernel)
theorem se_X4_reasonAgainstSeat : Cond.selects m_X4_reasonAgainstSeat.1.cls m_X4_reasonAgainstSeat.1 m_X4_reasonAgainstSeat.1 ∈ tblG := tG3 (i := 140) (by decide +kernel) (by decide +kernel)
theorem cw_X4_isDancerSeatedAt : cwOf m_X4_isDancerSeatedAt ∈ tblG := tG3 (i := 145) (by decide +kernel) (by decide +kernel)
theorem mk_X4_isDancerSeatedAt : MK m_X4_isDancerSeatedAt 3 := ⟨cw_X4_isDancerSeatedAt, tG1 (i := 3) (by decide +kernel) (by decide +kernel), rfl, by decide +kernel⟩
theorem im_X4_isDancerSeatedAt : Cond.instanceMethod (m_X4_isDancerSeatedAt.1) ∈ tblG := tG3 (i := 144) (by decide +kernel) (by decide +kernel)
theorem se_X4_isDancerSeatedAt : Cond.selects m_X4_isDancerSeatedAt.1.cls m_X4_isDancerSeatedAt.1 m_X4_isDancerSeatedAt.1 ∈ tblG := tGs (i := 16) (by decide +kernel) (by decide +kernel)
theorem cw_X4_roomIn : cwOf m_X4_roomIn ∈ tblG := tG3 (i := 154) (by decide +kernel) (by decide +kernel)
theorem mk_X4_roomIn : MK m_X4_roomIn 1 := ⟨cw_X4_roomIn, tG1 (i := 3) (by decide +kernel) (by decide +kernel), rfl, by decide +kernel⟩
theorem im_X4_roomIn : Cond.instanceMethod (m_X4_roomIn.1) ∈ tblG := tG3 (i := 152) (by decide +kernel) (by decide +kernel)
theorem se_X4_roomIn : Cond.selects m_X4_roomIn.1.cls m_X4_roomIn.1 m_X4_roomIn.1 ∈ tblG := tG3 (i := 153) (by decide +kernel) (by decide +kernel)
theorem cw_X4_roomiestFloor : cwOf m_X4_roomiestFloor ∈ tblG := tG4 (i := 175) (by decide +kernel) (by decide +kernel)
theorem mk_X4_roomiestFloor : MK m_X4_roomiestFloor 5 := ⟨cw_X4_roomiestFloor, tG1 (i := 3) (by decide +kernel) (by decide +kernel), rfl, by decide +kernel⟩
theorem im_X4_roomiestFloor : Cond.instanceMethod (m_X4_roomiestFloor.1) ∈ tblG := tG4 (i := 173) (by decide +kernel) (by decide +kernel)
theorem se_X4_roomiestFloor : Cond.selects m_X4_roomiestFloor.1.cls m_X4_roomiestFloor.1 m_X4_roomiestFloor.1 ∈ tblG := tG4 (i := 174) (by decide +kernel) (by decide +kernel)
theorem cw_X4_passWeeks : cwOf m_X4_passWeeks ∈ tblG := tG3 (i := 175) (by decide +kernel) (by decide +kernel)
theorem mk_X4_passWeeks : MK m_X4_passWeeks 1 := ⟨cw_X4_passWeeks, tG1 (i := 3) (by decide +kernel) (by decide +kernel), rfl, by decide +kernel⟩
theorem im_X4_passWeeks : Cond.instanceMethod (m_X4_passWeeks.1) ∈ tblG := tG3 (i := 173) (by decide +kernel) (by decide +kernel)
theorem se_X4_passWeeks : Cond.selects m_X4_passWeeks.1.cls m_X4_passWeeks.1 m_X4_passWeeks.1 ∈ tblG := tG3 (i := 174) (by decide +kernel) (by decide +kernel)
theorem cw_X4_passWeek : cwOf m_X4_passWeek ∈ tblG := tG2 (i := 148) (by decide +kernel) (by decide +kernel)
theorem mk_X4_passWeek : MK m_X4_passWeek 0 := ⟨cw_X4_passWeek, tG1 (i := 3) (by decide +kernel) (by decide +kernel), rfl, by decide +kernel⟩
theorem im_X4_passWeek : Cond.instanceMethod (m_X4_passWeek.1) ∈ tblG := tG2 (i := 146) (by decide +kernel) (by decide +kernel)
theorem se_X4_passWeek : Cond.selects m_X4_passWeek.1.cls m_X4_passWeek.1 m_X4_passWeek.1 ∈ tblG := tG2 (i := 147) (by decide +kernel) (by decide +kernel)
theorem cw_X4_holdLesson : cwOf m_X4_holdLesson ∈ tblG := tG2 (i := 152) (by decide +kernel) (by decide +kernel)
theorem mk_X4_holdLesson : MK m_X4_holdLesson 1 := ⟨cw_X4_holdLesson, tG1 (i := 3) (by decide +kernel) (by decide +kernel), rfl, by decide +kernel⟩
theorem im_X4_holdLesson : Cond.instanceMethod (m_X4_holdLesson.1) ∈ tblG := tG2 (i := 151) (by decide +kernel) (by decide +kernel)
theorem se_X4_holdLesson : Cond.selects m_X4_holdLesson.1.cls m_X4_holdLesson.1 m_X4_holdLesson.1 ∈ tblG := tGs (i := 9) (by decide +kernel) (by decide +kernel)
theorem cw_X4_comersOf : cwOf m_X4_comersOf ∈ tblG := tG2 (i := 156) (by decide +kernel) (by decide +kernel)
theorem mk_X4_comersOf : MK m_X4_comersOf 1 := ⟨cw_X4_comersOf, tG1 (i := 3) (by decide +kernel) (by decide +kernel), rfl, by decide +kernel⟩
theorem im_X4_comersOf : Cond.instanceMethod (m_X4_comersOf.1) ∈ tblG := tG2 (i := 155) (by decide +kernel) (by decide +kernel)
theorem se_X4_comersOf : Cond.selects m_X4_comersOf.1.cls m_X4_comersOf.1 m_X4_comersOf.1 ∈ tblG := tGs (i := 10) (by decide +kernel) (by decide +kernel)
theorem cw_X4_countSeats : cwOf m_X4_countSeats ∈ tblG := tG3 (i := 187) (by decide +kernel) (by decide +kernel)
theorem mk_X4_countSeats : MK m_X4_countSeats 0 := ⟨cw_X4_countSeats, tG1 (i := 3) (by decide +kernel) (by decide +kernel), rfl, by decide +kernel⟩
theorem im_X4_countSeats : Cond.instanceMethod (m_X4_countSeats.1) ∈ tblG := tG3 (i := 185) (by decide +kernel) (by decide +kernel)
theorem se_X4_countSeats : Cond.selects m_X4_countSeats.1.cls m_X4_countSeats.1 m_X4_countSeats.1 ∈ tblG := tG3 (i := 186) (by decide +kernel) (by decide +kernel)
theorem cw_X4_countSeatsOfDancer : cwOf m_X4_countSeatsOfDancer ∈ tblG := tG4 (i := 35) (by decide +kernel) (by decide +kernel)
theorem mk_X4_countSeatsOfDancer : MK m_X4_countSeatsOfDancer 1 := ⟨cw_X4_countSeatsOfDancer, tG1 (i := 3) (by decide +kernel) (by decide +kernel), rfl, by decide +kernel⟩
theorem im_X4_countSeatsOfDancer : Cond.instanceMethod (m_X4_countSeatsOfDancer.1) ∈ tblG := tG4 (i := 33) (by decide +kernel) (by decide +kernel)
theorem se_X4_countSeatsOfDancer : Cond.selects m_X4_countSeatsOfDancer.1.cls m_X4_countSeatsOfDancer.1 m_X4_countSeatsOfDancer.1 ∈ tblG := tG4 (i := 34) (by decide +kernel) (by decide +kernel)
theorem cw_X4_countLessonsOnFloor : cwOf m_X4_countLessonsOnFloor ∈ tblG := tG3 (i := 236) (by decide +kernel) (by decide +kernel)
theorem mk_X4_countLessonsOnFloor : MK m_X4_countLessonsOnFloor 1 := ⟨cw_X4_countLessonsOnFloor, tG1 (i := 3) (by decide +kernel) (by decide +kernel), rfl, by decide +kernel⟩
theorem im_X4_countLessonsOnFloor : Cond.instanceMethod (m_X4_countLessonsOnFloor.1) ∈ tblG := tG3 (i := 234) (by decide +kernel) (by decide +kernel)
theorem se_X4_countLessonsOnFloor : Cond.selects m_X4_countLessonsOnFloor.1.cls m_X4_countLessonsOnFloor.1 m_X4_countLessonsOnFloor.1 ∈ tblG := tG3 (i := 235) (by decide +kernel) (by decide +kernel)
theorem cw_X4_countLessonsOfTeacher : cwOf m_X4_countLessonsOfTeacher ∈ tblG := tG4 (i := 8) (by decide +kernel) (by decide +kernel)
theorem mk_X4_countLessonsOfTeacher : MK m_X4_countLessonsOfTeacher 1 := ⟨cw_X4_countLessonsOfTeacher, tG1 (i := 3) (by decide +kernel) (by decide +kernel), rfl, by decide +kernel⟩
theorem im_X4_countLessonsOfTeacher : Cond.instanceMethod (m_X4_countLessonsOfTeacher.1) ∈ tblG := tG4 (i := 6) (by decide +kernel) (by decide +kernel)
theorem se_X4_countLessonsOfTeacher : Cond.selects m_X4_countLessonsOfTeacher.1.cls m_X4_countLessonsOfTeacher.1 m_X4_countLessonsOfTeacher.1 ∈ tblG := tG4 (i := 7) (by decide +kernel) (by decide +kernel)
theorem cw_X4_countDaysOfTeacher : cwOf m_X4_countDaysOfTeacher ∈ tblG := tG4 (i := 12) (by decide +kernel) (by decide +kernel)
theorem mk_X4_countDaysOfTeacher : MK m_X4_countDaysOfTeacher 1 := ⟨cw_X4_countDaysOfTeacher, tG1 (i := 3) (by decide +kernel) (by decide +kernel), rfl, by decide +kernel⟩
theorem im_X4_countDaysOfTeacher : Cond.instanceMethod (m_X4_countDaysOfTeacher.1) ∈ tblG := tG4 (i := 10) (by decide +kernel) (by decide +kernel)
theorem se_X4_countDaysOfTeacher : Cond.selects m_X4_countDaysOfTeacher.1.cls m_X4_countDaysOfTeacher.1 m_X4_countDaysOfTeacher.1 ∈ tblG := tG4 (i := 11) (by decide +kernel) (by decide +kernel)
theorem cw_X4_countPasses : cwOf m_X4_countPasses ∈ tblG := tG3 (i := 191) (by decide +kernel) (by decide +kernel)
theorem mk_X4_countPasses : MK m_X4_countPasses 0 := ⟨cw_X4_countPasses, tG1 (i := 3) (by decide +kernel) (by decide +kernel), rfl, by decide +kernel⟩
theorem im_X4_countPasses : Cond.instanceMethod (m_X4_countPasses.1) ∈ tblG := tG3 (i := 189) (by decide +kernel) (by decide +kernel)
theorem se_X4_countPasses : Cond.selects m_X4_countPasses.1.cls m_X4_countPasses.1 m_X4_countPasses.1 ∈ tblG := tG3 (i := 190) (by decide +kernel) (by decide +kernel)
theorem cw_X4_countLeft : cwOf m_X4_countLeft ∈ tblG := tG3 (i := 203) (by decide +kernel) (by decide +kernel)
theorem mk_X4_countLeft : MK m_X4_countLeft 0 := ⟨cw_X4_countLeft, tG1 (i := 3) (by decide +kernel) (by decide +kernel), rfl, by decide +kernel⟩
theorem im_X4_countLeft : Cond.instanceMethod (m_X4_countLeft.1) ∈ tblG := tG3 (i := 201) (by decide +kernel) (by decide +kernel)
theorem se_X4_countLeft : Cond.selects m_X4_countLeft.1.cls m_X4_countLeft.1 m_X4_countLeft.1 ∈ tblG := tG3 (i := 202) (by decide +kernel) (by decide +kernel)
theorem cw_X4_countUsesByDancers : cwOf m_X4_countUsesByDancers ∈ tblG := tG3 (i := 195) (by decide +kernel) (by decide +kernel)
theorem mk_X4_countUsesByDancers : MK m_X4_countUsesByDancers 0 := ⟨cw_X4_countUsesByDancers, tG1 (i := 3) (by decide +kernel) (by decide +kernel), rfl, by decide +kernel⟩
theorem im_X4_countUsesByDancers : Cond.instanceMethod (m_X4_countUsesByDancers.1) ∈ tblG := tG3 (i := 193) (by decide +kernel) (by decide +kernel)
theorem se_X4_countUsesByDancers : Cond.selects m_X4_countUsesByDancers.1.cls m_X4_countUsesByDancers.1 m_X4_countUsesByDancers.1 ∈ tblG := tG3 (i := 194) (by decide +kernel) (by decide +kernel)
theorem cw_X4_countUsesByLessons : cwOf m_X4_countUsesByLessons ∈ tblG := tG4 (i := 46) (by decide +kernel) (by decide +kernel)
theorem mk_X4_countUsesByLessons : MK m_X4_countUsesByLessons 0 := ⟨cw_X4_countUsesByLessons, tG1 (i := 3) (by decide +kernel) (by decide +kernel), rfl, by decide +kernel⟩
theorem im_X4_countUsesByLessons : Cond.instanceMethod (m_X4_countUsesByLessons.1) ∈ tblG := tG4 (i := 44) (by decide +kernel) (by decide +kernel)
theorem se_X4_countUsesByLessons : Cond.selects m_X4_countUsesByLessons.1.cls m_X4_countUsesByLessons.1 m_X4_countUsesByLessons.1 ∈ tblG := tG4 (i := 45) (by decide +kernel) (by decide +kernel)
theorem cw_X5_init : cwOf m_X5_init ∈ tblG := tG1 (i := 95) (by decide +kernel) (by decide +kernel)
theorem mk_X5_init : MK m_X5_init 0 := ⟨cw_X5_init, tG1 (i := 5) (by decide +kernel) (by decide +kernel), rfl, by decide +kernel⟩
theorem im_X5_init : Cond.instanceMethod (m_X5_init.1) ∈ tblG := tG1 (i := 94) (by decide +kernel) (by decide +kernel)
theorem cw_X5_copyFrom : cwOf m_X5_copyFrom ∈ tblG := tG2 (i := 136) (by decide +kernel) (by decide +kernel)
theorem mk_X5_copyFrom : MK m_X5_copyFrom 1 := ⟨cw_X5_copyFrom, tG1 (i := 5) (by decide +kernel) (by decide +kernel), rfl, by decide +kernel⟩
theorem im_X5_copyFrom : Cond.instanceMethod (m_X5_copyFrom.1) ∈ tblG := tG2 (i := 134) (by decide +kernel) (by decide +kernel)
theorem se_X5_copyFrom : Cond.selects m_X5_copyFrom.1.cls m_X5_copyFrom.1 m_X5_copyFrom.1 ∈ tblG := tG2 (i := 135) (by decide +kernel) (by decide +kernel)
theorem cw_X5_teaches : cwOf m_X5_teaches ∈ tblG := tG3 (i := 101) (by decide +kernel) (by decide +kernel)
theorem mk_X5_teaches : MK m_X5_teaches 2 := ⟨cw_X5_teaches, tG1 (i := 5) (by decide +kernel) (by decide +kernel), rfl, by decide +kernel⟩
theorem im_X5_teaches : Cond.instanceMethod (m_X5_teaches.1) ∈ tblG := tG3 (i := 99) (by decide +kernel) (by decide +kernel)
theorem se_X5_teaches : Cond.selects m_X5_teaches.1.cls m_X5_teaches.1 m_X5_teaches.1 ∈ tblG := tG3 (i := 100) (by decide +kernel) (by decide +kernel)
theorem cw_X6_init : cwOf m_X6_init ∈ tblG := tG1 (i := 30) (by decide +kernel) (by decide +kernel)
theorem mk_X6_init : MK m_X6_init 0 := ⟨cw_X6_init, tG1 (i := 2) (by decide +kernel) (by decide +kernel), rfl, by decide +kernel⟩
theorem im_X6_init : Cond.instanceMethod (m_X6_init.1) ∈ tblG := tG1 (i := 29) (by decide +kernel) (by decide +kernel)
theorem cw_X6_addSign : cwOf m_X6_addSign ∈ tblG := tG3 (i := 38) (by decide +kernel) (by decide +kernel)
theorem mk_X6_addSign : MK m_X6_addSign 1 := ⟨cw_X6_addSign, tG1 (i := 2) (by decide +kernel) (by decide +kernel), rfl, by decide +kernel⟩
theorem im_X6_addSign : Cond.instanceMethod (m_X6_addSign.1) ∈ tblG := tG3 (i := 36) (by decide +kernel) (by decide +kernel)
theorem se_X6_addSign : Cond.selects m_X6_addSign.1.cls m_X6_addSign.1 m_X6_addSign.1 ∈ tblG := tG3 (i := 37) (by decide +kernel) (by decide +kernel)
theorem cw_X6_makeEmpty : cwOf m_X6_makeEmpty ∈ tblG := tG2 (i := 55) (by decide +kernel) (by decide +kernel)
theorem mk_X6_makeEmpty : MK m_X6_makeEmpty 0 := ⟨cw_X6_makeEmpty, tG1 (i := 2) (by decide +kernel) (by decide +kernel), rfl, by decide +kernel⟩
theorem im_X6_makeEmpty : Cond.instanceMethod (m_X6_makeEmpty.1) ∈ tblG := tG2 (i := 53) (by decide +kernel) (by decide +kernel)
theorem se_X6_makeEmpty : Cond.selects m_X6_makeEmpty.1.cls m_X6_makeEmpty.1 m_X6_makeEmpty.1 ∈ tblG := tG2 (i := 54) (by decide +kernel) (by decide +kernel)
theorem cw_X6_findError : cwOf m_X6_findError ∈ tblG := tG2 (i := 63) (by decide +kernel) (by decide +kernel)
theorem mk_X6_findError : MK m_X6_findError 0 := ⟨cw_X6_findError, tG1 (i := 2) (by decide +kernel) (by decide +kernel), rfl, by decide +kernel⟩
theorem im_X6_findError : Cond.instanceMethod (m_X6_findError.1) ∈ tblG := tG2 (i := 61) (by decide +kernel) (by decide +kernel)
theorem se_X6_findError : Cond.selects m_X6_findError.1.cls m_X6_findError.1 m_X6_findError.1 ∈ tblG := tG2 (i := 62) (by decide +kernel) (by decide +kernel)
theorem cw_X6_hasMore : cwOf m_X6_hasMore ∈ tblG := tG2 (i := 71) (by decide +kernel) (by decide +kernel)
theorem mk_X6_hasMore : MK m_X6_hasMore 0 := ⟨cw_X6_hasMore, tG1 (i := 2) (by decide +kernel) (by decide +kernel), rfl, by decide +kernel⟩
theorem im_X6_hasMore : Cond.instanceMethod (m_X6_hasMore.1) ∈ tblG := tG2 (i := 69) (by decide +kernel) (by decide +kernel)
theorem se_X6_hasMore : Cond.selects m_X6_hasMore.1.cls m_X6_hasMore.1 m_X6_hasMore.1 ∈ tblG := tG2 (i := 70) (by decide +kernel) (by decide +kernel)
theorem cw_X6_readStart : cwOf m_X6_readStart ∈ tblG := tG2 (i := 67) (by decide +kernel) (by decide +kernel)
theorem mk_X6_readStart : MK m_X6_readStart 0 := ⟨cw_X6_readStart, tG1 (i := 2) (by decide +kernel) (by decide +kernel), rfl, by decide +kernel⟩
theorem im_X6_readStart : Cond.instanceMethod (m_X6_readStart.1) ∈ tblG := tG2 (i := 65) (by decide +kernel) (by decide +kernel)
theorem se_X6_readStart : Cond.selects m_X6_readStart.1.cls m_X6_readStart.1 m_X6_readStart.1 ∈ tblG := tG2 (i := 66) (by decide +kernel) (by decide +kernel)
theorem cw_X6_readCommand : cwOf m_X6_readCommand ∈ tblG := tG2 (i := 75) (by decide +kernel) (by decide +kernel)
theorem mk_X6_readCommand : MK m_X6_readCommand 0 := ⟨cw_X6_readCommand, tG1 (i := 2) (by decide +kernel) (by decide +kernel), rfl, by decide +kernel⟩
theorem im_X6_readCommand : Cond.instanceMethod (m_X6_readCommand.1) ∈ tblG := tG2 (i := 73) (by decide +kernel) (by decide +kernel)
theorem se_X6_readCommand : Cond.selects m_X6_readCommand.1.cls m_X6_readCommand.1 m_X6_readCommand.1 ∈ tblG := tG2 (i := 74) (by decide +kernel) (by decide +kernel)
theorem cw_X6_readKind : cwOf m_X6_readKind ∈ tblG := tG2 (i := 104) (by decide +kernel) (by decide +kernel)
theorem mk_X6_readKind : MK m_X6_readKind 0 := ⟨cw_X6_readKind, tG1 (i := 2) (by decide +kernel) (by decide +kernel), rfl, by decide +kernel⟩
theorem im_X6_readKind : Cond.instanceMethod (m_X6_readKind.1) ∈ tblG := tG2 (i := 103) (by decide +kernel) (by decide +kernel)
theorem se_X6_readKind : Cond.selects m_X6_readKind.1.cls m_X6_readKind.1 m_X6_readKind.1 ∈ tblG := tGs (i := 4) (by decide +kernel) (by decide +kernel)
theorem cw_X6_readPlace : cwOf m_X6_readPlace ∈ tblG := tG2 (i := 108) (by decide +kernel) (by decide +kernel)
theorem mk_X6_readPlace : MK m_X6_readPlace 0 := ⟨cw_X6_readPlace, tG1 (i := 2) (by decide +kernel) (by decide +kernel), rfl, by decide +kernel⟩
theorem im_X6_readPlace : Cond.instanceMethod (m_X6_readPlace.1) ∈ tblG := tG2 (i := 107) (by decide +kernel) (by decide +kernel)
theorem se_X6_readPlace : Cond.selects m_X6_readPlace.1.cls m_X6_readPlace.1 m_X6_readPlace.1 ∈ tblG := tGs (i := 5) (by decide +kernel) (by decide +kernel)
theorem cw_X6_readLesson : cwOf m_X6_readLesson ∈ tblG := tG2 (i := 116) (by decide +kernel) (by decide +kernel)
theorem mk_X6_readLesson : MK m_X6_readLesson 0 := ⟨cw_X6_readLesson, tG1 (i := 2) (by decide +kernel) (by decide +kernel), rfl, by decide +kernel⟩
theorem im_X6_readLesson : Cond.instanceMethod (m_X6_readLesson.1) ∈ tblG := tG2 (i := 115) (by decide +kernel) (by decide +kernel)
theorem se_X6_readLesson : Cond.selects m_X6_readLesson.1.cls m_X6_readLesson.1 m_X6_readLesson.1 ∈ tblG := tGs (i := 7) (by decide +kernel) (by decide +kernel)
theorem cw_X6_readDancer : cwOf m_X6_readDancer ∈ tblG := tG2 (i := 112) (by decide +kernel) (by decide +kernel)
theorem mk_X6_readDancer : MK m_X6_readDancer 0 := ⟨cw_X6_readDancer, tG1 (i := 2) (by decide +kernel) (by decide +kernel), rfl, by decide +kernel⟩
theorem im_X6_readDancer : Cond.instanceMethod (m_X6_readDancer.1) ∈ tblG := tG2 (i := 111) (by decide +kernel) (by decide +kernel)
theorem se_X6_readDancer : Cond.selects m_X6_readDancer.1.cls m_X6_readDancer.1 m_X6_readDancer.1 ∈ tblG := tGs (i := 6) (by decide +kernel) (by decide +kernel)
theorem cw_X6_readDigit : cwOf m_X6_readDigit ∈ tblG := tG2 (i := 79) (by decide +kernel) (by decide +kernel)
theorem mk_X6_readDigit : MK m_X6_readDigit 2 := ⟨cw_X6_readDigit, tG1 (i := 2) (by decide +kernel) (by decide +kernel), rfl, by decide +kernel⟩
theorem im_X6_readDigit : Cond.instanceMethod (m_X6_readDigit.1) ∈ tblG := tG2 (i := 78) (by decide +kernel) (by decide +kernel)
theorem se_X6_readDigit : Cond.selects m_X6_readDigit.1.cls m_X6_readDigit.1 m_X6_readDigit.1 ∈ tblG := tGs (i := 0) (by decide +kernel) (by decide +kernel)
theorem cw_X6_readTwoDigits : cwOf m_X6_readTwoDigits ∈ tblG := tG2 (i := 94) (by decide +kernel) (by decide +kernel)
theorem mk_X6_readTwoDigits : MK m_X6_readTwoDigits 2 := ⟨cw_X6_readTwoDigits, tG1 (i := 2) (by decide +kernel) (by decide +kernel), rfl, by decide +kernel⟩
theorem im_X6_readTwoDigits : Cond.instanceMethod (m_X6_readTwoDigits.1) ∈ tblG := tG2 (i := 93) (by decide +kernel) (by decide +kernel)
theorem se_X6_readTwoDigits : Cond.selects m_X6_readTwoDigits.1.cls m_X6_readTwoDigits.1 m_X6_readTwoDigits.1 ∈ tblG := tGs (i := 3) (by decide +kernel) (by decide +kernel)
theorem cw_X6_digitWithin : cwOf m_X6_digitWithin ∈ tblG := tG2 (i := 83) (by decide +kernel) (by decide +kernel)
theorem mk_X6_digitWithin : MK m_X6_digitWithin 2 := ⟨cw_X6_digitWithin, tG1 (i := 2) (by decide +kernel) (by decide +kernel), rfl, by decide +kernel⟩
theorem im_X6_digitWithin : Cond.instanceMethod (m_X6_digitWithin.1) ∈ tblG := tG2 (i := 82) (by decide +kernel) (by decide +kernel)
theorem se_X6_digitWithin : Cond.selects m_X6_digitWithin.1.cls m_X6_digitWithin.1 m_X6_digitWithin.1 ∈ tblG := tGs (i := 1) (by decide +kernel) (by decide +kernel)
theorem cw_X6_keepNumber : cwOf m_X6_keepNumber ∈ tblG := tG2 (i := 90) (by decide +kernel) (by decide +kernel)
theorem mk_X6_keepNumber : MK m_X6_keepNumber 1 := ⟨cw_X6_keepNumber, tG1 (i := 2) (by decide +kernel) (by decide +kernel), rfl, by decide +kernel⟩
theorem im_X6_keepNumber : Cond.instanceMethod (m_X6_keepNumber.1) ∈ tblG := tG2 (i := 89) (by decide +kernel) (by decide +kernel)
theorem se_X6_keepNumber : Cond.selects m_X6_keepNumber.1.cls m_X6_keepNumber.1 m_X6_keepNumber.1 ∈ tblG := tGs (i := 2) (by decide +kernel) (by decide +kernel)
theorem cw_X7_init : cwOf m_X7_init ∈ tblG := tG1 (i := 22) (by decide +kernel) (by decide +kernel)
theorem mk_X7_init : MK m_X7_init 0 := ⟨cw_X7_init, tG1 (i := 1) (by decide +kernel) (by decide +kernel), rfl, by decide +kernel⟩
theorem im_X7_init : Cond.instanceMethod (m_X7_init.1) ∈ tblG := tG1 (i := 21) (by decide +kernel) (by decide +kernel)
theorem cw_X7_append : cwOf m_X7_append ∈ tblG := tG2 (i := 183) (by decide +kernel) (by decide +kernel)
theorem mk_X7_append : MK m_X7_append 1 := ⟨cw_X7_append, tG1 (i := 1) (by decide +kernel) (by decide +kernel), rfl, by decide +kernel⟩
theorem im_X7_append : Cond.instanceMethod (m_X7_append.1) ∈ tblG := tG2 (i := 181) (by decide +kernel) (by decide +kernel)
theorem se_X7_append : Cond.selects m_X7_append.1.cls m_X7_append.1 m_X7_append.1 ∈ tblG := tG2 (i := 182) (by decide +kernel) (by decide +kernel)
theorem cw_X7_clearText : cwOf m_X7_clearText ∈ tblG := tG2 (i := 51) (by decide +kernel) (by decide +kernel)
theorem mk_X7_clearText : MK m_X7_clearText 0 := ⟨cw_X7_clearText, tG1 (i := 1) (by decide +kernel) (by decide +kernel), rfl, by decide +kernel⟩
theorem im_X7_clearText : Cond.instanceMethod (m_X7_clearText.1) ∈ tblG := tG2 (i := 49) (by decide +kernel) (by decide +kernel)
theorem se_X7_clearText : Cond.selects m_X7_clearText.1.cls m_X7_clearText.1 m_X7_clearText.1 ∈ tblG := tG2 (i := 50) (by decide +kernel) (by decide +kernel)
theorem cw_X7_errorPosition : cwOf m_X7_errorPosition ∈ tblG := tG2 (i := 59) (by decide +kernel) (by decide +kernel)
theorem mk_X7_errorPosition : MK m_X7_errorPosition 0 := ⟨cw_X7_errorPosition, tG1 (i := 1) (by decide +kernel) (by decide +kernel), rfl, by decide +kernel⟩
theorem im_X7_errorPosition : Cond.instanceMethod (m_X7_errorPosition.1) ∈ tblG := tG2 (i := 57) (by decide +kernel) (by decide +kernel)
theorem se_X7_errorPosition : Cond.selects m_X7_errorPosition.1.cls m_X7_errorPosition.1 m_X7_errorPosition.1 ∈ tblG := tG2 (i := 58) (by decide +kernel) (by decide +kernel)
theorem cw_X7_load : cwOf m_X7_load ∈ tblG := tG3 (i := 45) (by decide +kernel) (by decide +kernel)
theorem mk_X7_load : MK m_X7_load 0 := ⟨cw_X7_load, tG1 (i := 1) (by decide +kernel) (by decide +kernel), rfl, by decide +kernel⟩
theorem im_X7_load : Cond.instanceMethod (m_X7_load.1) ∈ tblG := tG3 (i := 43) (by decide +kernel) (by decide +kernel)
theorem se_X7_load : Cond.selects m_X7_load.1.cls m_X7_load.1 m_X7_load.1 ∈ tblG := tG3 (i := 44) (by decide +kernel) (by decide +kernel)
theorem cw_X7_about : cwOf m_X7_about ∈ tblG := tG3 (i := 183) (by decide +kernel) (by decide +kernel)
theorem mk_X7_about : MK m_X7_about 1 := ⟨cw_X7_about, tG1 (i := 1) (by decide +kernel) (by decide +kernel), rfl, by decide +kernel⟩
theorem im_X7_about : Cond.instanceMethod (m_X7_about.1) ∈ tblG := tG3 (i := 181) (by decide +kernel) (by decide +kernel)
theorem se_X7_about : Cond.selects m_X7_about.1.cls m_X7_about.1 m_X7_about.1 ∈ tblG := tG3 (i := 182) (by decide +kernel) (by decide +kernel)
theorem cw_X7_floorOf : cwOf m_X7_floorOf ∈ tblG := tG3 (i := 212) (by decide +kernel) (by decide +kernel)
theorem mk_X7_floorOf : MK m_X7_floorOf 2 := ⟨cw_X7_floorOf, tG1 (i := 1) (by decide +kernel) (by decide +kernel), rfl, by decide +kernel⟩
theorem im_X7_floorOf : Cond.instanceMethod (m_X7_floorOf.1) ∈ tblG := tG3 (i := 210) (by decide +kernel) (by decide +kernel)
theorem se_X7_floorOf : Cond.selects m_X7_floorOf.1.cls m_X7_floorOf.1 m_X7_floorOf.1 ∈ tblG := tG3 (i := 211) (by decide +kernel) (by decide +kernel)
theorem cw_X7_teacherOf : cwOf m_X7_teacherOf ∈ tblG := tG4 (i := 3) (by decide +kernel) (by decide +kernel)
theorem mk_X7_teacherOf : MK m_X7_teacherOf 2 := ⟨cw_X7_teacherOf, tG1 (i := 1) (by decide +kernel) (by decide +kernel), rfl, by decide +kernel⟩
theorem im_X7_teacherOf : Cond.instanceMethod (m_X7_teacherOf.1) ∈ tblG := tG4 (i := 1) (by decide +kernel) (by decide +kernel)
theorem se_X7_teacherOf : Cond.selects m_X7_teacherOf.1.cls m_X7_teacherOf.1 m_X7_teacherOf.1 ∈ tblG := tG4 (i := 2) (by decide +kernel) (by decide +kernel)
theorem cw_X7_classOf : cwOf m_X7_classOf ∈ tblG := tG4 (i := 19) (by decide +kernel) (by decide +kernel)
theorem mk_X7_classOf : MK m_X7_classOf 2 := ⟨cw_X7_classOf, tG1 (i := 1) (by decide +kernel) (by decide +kernel), rfl, by decide +kernel⟩
theorem im_X7_classOf : Cond.instanceMethod (m_X7_classOf.1) ∈ tblG := tG4 (i := 17) (by decide +kernel) (by decide +kernel)
theorem se_X7_classOf : Cond.selects m_X7_classOf.1.cls m_X7_classOf.1 m_X7_classOf.1 ∈ tblG := tG4 (i := 18) (by decide +kernel) (by decide +kernel)
theorem cw_X7_dancerOf : cwOf m_X7_dancerOf ∈ tblG := tG4 (i := 29) (by decide +kernel) (by decide +kernel)
theorem mk_X7_dancerOf : MK m_X7_dancerOf 2 := ⟨cw_X7_dancerOf, tG1 (i := 1) (by decide +kernel) (by decide +kernel), rfl, by decide +kernel⟩
theorem im_X7_dancerOf : Cond.instanceMethod (m_X7_dancerOf.1) ∈ tblG := tG4 (i := 27) (by decide +kernel) (by decide +kernel)
theorem se_X7_dancerOf : Cond.selects m_X7_dancerOf.1.cls m_X7_dancerOf.1 m_X7_dancerOf.1 ∈ tblG := tG4 (i := 28) (by decide +kernel) (by decide +kernel)
theorem cw_X7_uses : cwOf m_X7_uses ∈ tblG := tG4 (i := 42) (by decide +kernel) (by decide +kernel)
theorem mk_X7_uses : MK m_X7_uses 1 := ⟨cw_X7_uses, tG1 (i := 1) (by decide +kernel) (by decide +kernel), rfl, by decide +kernel⟩
theorem im_X7_uses : Cond.instanceMethod (m_X7_uses.1) ∈ tblG := tG4 (i := 40) (by decide +kernel) (by decide +kernel)
theorem se_X7_uses : Cond.selects m_X7_uses.1.cls m_X7_uses.1 m_X7_uses.1 ∈ tblG := tG4 (i := 41) (by decide +kernel) (by decide +kernel)
theorem cw_X7_setting : cwOf m_X7_setting ∈ tblG := tG4 (i := 53) (by decide +kernel) (by decide +kernel)
theorem mk_X7_setting : MK m_X7_setting 1 := ⟨cw_X7_setting, tG1 (i := 1) (by decide +kernel) (by decide +kernel), rfl, by decide +kernel⟩
theorem im_X7_setting : Cond.instanceMethod (m_X7_setting.1) ∈ tblG := tG4 (i := 51) (by decide +kernel) (by decide +kernel)
theorem se_X7_setting : Cond.selects m_X7_setting.1.cls m_X7_setting.1 m_X7_setting.1 ∈ tblG := tG4 (i := 52) (by decide +kernel) (by decide +kernel)
theorem cw_X7_floor : cwOf m_X7_floor ∈ tblG := tG4 (i := 60) (by decide +kernel) (by decide +kernel)
theorem mk_X7_floor : MK m_X7_floor 4 := ⟨cw_X7_floor, tG1 (i := 1) (by decide +kernel) (by decide +kernel), rfl, by decide +kernel⟩
theorem im_X7_floor : Cond.instanceMethod (m_X7_floor.1) ∈ tblG := tG4 (i := 58) (by decide +kernel) (by decide +kernel)
theorem se_X7_floor : Cond.selects m_X7_floor.1.cls m_X7_floor.1 m_X7_floor.1 ∈ tblG := tG4 (i := 59) (by decide +kernel) (by decide +kernel)
theorem cw_X7_teacher : cwOf m_X7_teacher ∈ tblG := tG4 (i := 72) (by decide +kernel) (by decide +kernel)
theorem mk_X7_teacher : MK m_X7_teacher 2 := ⟨cw_X7_teacher, tG1 (i := 1) (by decide +kernel) (by decide +kernel), rfl, by decide +kernel⟩
theorem im_X7_teacher : Cond.instanceMethod (m_X7_teacher.1) ∈ tblG := tG4 (i := 70) (by decide +kernel) (by decide +kernel)
theorem se_X7_teacher : Cond.selects m_X7_teacher.1.cls m_X7_teacher.1 m_X7_teacher.1 ∈ tblG := tG4 (i := 71) (by decide +kernel) (by decide +kernel)
theorem cw_X7_set : cwOf m_X7_set ∈ tblG := tG4 (i := 79) (by decide +kernel) (by decide +kernel)
theorem mk_X7_set : MK m_X7_set 6 := ⟨cw_X7_set, tG1 (i := 1) (by decide +kernel) (by decide +kernel), rfl, by decide +kernel⟩
theorem im_X7_set : Cond.instanceMethod (m_X7_set.1) ∈ tblG := tG4 (i := 77) (by decide +kernel) (by decide +kernel)
theorem se_X7_set : Cond.selects m_X7_set.1.cls m_X7_set.1 m_X7_set.1 ∈ tblG := tG4 (i := 78) (by decide +kernel) (by decide +kernel)
theorem cw_X7_drop : cwOf m_X7_drop ∈ tblG := tG4 (i := 93) (by decide +kernel) (by decide +kernel)
theorem mk_X7_drop : MK m_X7_drop 1 := ⟨cw_X7_drop, tG1 (i := 1) (by decide +kernel) (by decide +kernel), rfl, by decide +kernel⟩
theorem im_X7_drop : Cond.instanceMethod (m_X7_drop.1) ∈ tblG := tG4 (i := 91) (by decide +kernel) (by decide +kernel)
theorem se_X7_drop : Cond.selects m_X7_drop.1.cls m_X7_drop.1 m_X7_drop.1 ∈ tblG := tG4 (i := 92) (by decide +kernel) (by decide +kernel)
theorem cw_X7_dancer : cwOf m_X7_dancer ∈ tblG := tG4 (i := 100) (by decide +kernel) (by decide +kernel)
theorem mk_X7_dancer : MK m_X7_dancer 0 := ⟨cw_X7_dancer, tG1 (i := 1) (by decide +kernel) (by decide +kernel), rfl, by decide +kernel⟩
theorem im_X7_dancer : Cond.instanceMethod (m_X7_dancer.1) ∈ tblG := tG4 (i := 98) (by decide +kernel) (by decide +kernel)
theorem se_X7_dancer : Cond.selects m_X7_dancer.1.cls m_X7_dancer.1 m_X7_dancer.1 ∈ tblG := tG4 (i := 99) (by decide +kernel) (by decide +kernel)
theorem cw_X7_pass : cwOf m_X7_pass ∈ tblG := tG4 (i := 107) (by decide +kernel) (by decide +kernel)
theorem mk_X7_pass : MK m_X7_pass 1 := ⟨cw_X7_pass, tG1 (i := 1) (by decide +kernel) (by decide +kernel), rfl, by decide +kernel⟩
theorem im_X7_pass : Cond.instanceMethod (m_X7_pass.1) ∈ tblG := tG4 (i := 105) (by decide +kernel) (by decide +kernel)
theorem se_X7_pass : Cond.selects m_X7_pass.1.cls m_X7_pass.1 m_X7_pass.1 ∈ tblG := tG4 (i := 106) (by decide +kernel) (by decide +kernel)
theorem cw_X7_enter : cwOf m_X7_enter ∈ tblG := tG4 (i := 115) (by decide +kernel) (by decide +kernel)
theorem mk_X7_enter : MK m_X7_enter 2 := ⟨cw_X7_enter, tG1 (i := 1) (by decide +kernel) (by decide +kernel), rfl, by decide +kernel⟩
theorem im_X7_enter : Cond.instanceMethod (m_X7_enter.1) ∈ tblG := tG4 (i := 113) (by decide +kernel) (by decide +kernel)
theorem se_X7_enter : Cond.selects m_X7_enter.1.cls m_X7_enter.1 m_X7_enter.1 ∈ tblG := tG4 (i := 114) (by decide +kernel) (by decide +kernel)
theorem cw_X7_leave : cwOf m_X7_leave ∈ tblG := tG4 (i := 122) (by decide +kernel) (by decide +kernel)
theorem mk_X7_leave : MK m_X7_leave 2 := ⟨cw_X7_leave, tG1 (i := 1) (by decide +kernel) (by decide +kernel), rfl, by decide +kernel⟩
theorem im_X7_leave : Cond.instanceMethod (m_X7_leave.1) ∈ tblG := tG4 (i := 120) (by decide +kernel) (by decide +kernel)
theorem se_X7_leave : Cond.selects m_X7_leave.1.cls m_X7_leave.1 m_X7_leave.1 ∈ tblG := tG4 (i := 121) (by decide +kernel) (by decide +kernel)
theorem cw_X7_weeks : cwOf m_X7_weeks ∈ tblG := tG4 (i := 130) (by decide +kernel) (by decide +kernel)
theorem mk_X7_weeks : MK m_X7_weeks 1 := ⟨cw_X7_weeks, tG1 (i := 1) (by decide +kernel) (by decide +kernel), rfl, by decide +kernel⟩
theorem im_X7_weeks : Cond.instanceMethod (m_X7_weeks.1) ∈ tblG := tG4 (i := 128) (by decide +kernel) (by decide +kernel)
theorem se_X7_weeks : Cond.selects m_X7_weeks.1.cls m_X7_weeks.1 m_X7_weeks.1 ∈ tblG := tG4 (i := 129) (by decide +kernel) (by decide +kernel)
theorem cw_X7_tune : cwOf m_X7_tune ∈ tblG := tG4 (i := 137) (by decide +kernel) (by decide +kernel)
theorem mk_X7_tune : MK m_X7_tune 2 := ⟨cw_X7_tune, tG1 (i := 1) (by decide +kernel) (by decide +kernel), rfl, by decide +kernel⟩
theorem im_X7_tune : Cond.instanceMethod (m_X7_tune.1) ∈ tblG := tG4 (i := 135) (by decide +kernel) (by decide +kernel)
theorem se_X7_tune : Cond.selects m_X7_tune.1.cls m_X7_tune.1 m_X7_tune.1 ∈ tblG := tG4 (i := 136) (by decide +kernel) (by decide +kernel)
theorem cw_X7_undo : cwOf m_X7_undo ∈ tblG := tG4 (i := 144) (by decide +kernel) (by decide +kernel)
theorem mk_X7_undo : MK m_X7_undo 0 := ⟨cw_X7_undo, tG1 (i := 1) (by decide +kernel) (by decide +kernel), rfl, by decide +kernel⟩
theorem im_X7_undo : Cond.instanceMethod (m_X7_undo.1) ∈ tblG := tG4 (i := 142) (by decide +kernel) (by decide +kernel)
theorem se_X7_undo : Cond.selects m_X7_undo.1.cls m_X7_undo.1 m_X7_undo.1 ∈ tblG := tG4 (i := 143) (by decide +kernel) (by decide +kernel)
theorem cw_X7_why : cwOf m_X7_why ∈ tblG := tG4 (i := 155) (by decide +kernel) (by decide +kernel)
theorem mk_X7_why : MK m_X7_why 6 := ⟨cw_X7_why, tG1 (i := 1) (by decide +kernel) (by decide +kernel), rfl, by decide +kernel⟩
theorem im_X7_why : Cond.instanceMethod (m_X7_why.1) ∈ tblG := tG4 (i := 153) (by decide +kernel) (by decide +kernel)
theorem se_X7_why : Cond.selects m_X7_why.1.cls m_X7_why.1 m_X7_why.1 ∈ tblG := tG4 (i := 154) (by decide +kernel) (by decide +kernel)
theorem cw_X7_whySeat : cwOf m_X7_whySeat ∈ tblG := tG4 (i := 163) (by decide +kernel) (by decide +kernel)
theorem mk_X7_whySeat : MK m_X7_whySeat 2 := ⟨cw_X7_whySeat, tG1 (i := 1) (by decide +kernel) (by decide +kernel), rfl, by decide +kernel⟩
theorem im_X7_whySeat : Cond.instanceMethod (m_X7_whySeat.1) ∈ tblG := tG4 (i := 161) (by decide +kernel) (by decide +kernel)
theorem se_X7_whySeat : Cond.selects m_X7_whySeat.1.cls m_X7_whySeat.1 m_X7_whySeat.1 ∈ tblG := tG4 (i := 162) (by decide +kernel) (by decide +kernel)
theorem cw_X7_bestFloor : cwOf m_X7_bestFloor ∈ tblG := tG4 (i := 171) (by decide +kernel) (by decide +kernel)
theorem mk_X7_bestFloor : MK m_X7_bestFloor 5 := ⟨cw_X7_bestFloor, tG1 (i := 1) (by decide +kernel) (by decide +kernel), rfl, by decide +kernel⟩
theorem im_X7_bestFloor : Cond.instanceMethod (m_X7_bestFloor.1) ∈ tblG := tG4 (i := 169) (by decide +kernel) (by decide +kernel)
theorem se_X7_bestFloor : Cond.selects m_X7_bestFloor.1.cls m_X7_bestFloor.1 m_X7_bestFloor.1 ∈ tblG := tG4 (i := 170) (by decide +kernel) (by decide +kernel)
theorem cw_X7_emptyIn : cwOf m_X7_emptyIn ∈ tblG := tG4 (i := 182) (by decide +kernel) (by decide +kernel)
theorem mk_X7_emptyIn : MK m_X7_emptyIn 1 := ⟨cw_X7_emptyIn, tG1 (i := 1) (by decide +kernel) (by decide +kernel), rfl, by decide +kernel⟩
theorem im_X7_emptyIn : Cond.instanceMethod (m_X7_emptyIn.1) ∈ tblG := tG4 (i := 180) (by decide +kernel) (by decide +kernel)
theorem se_X7_emptyIn : Cond.selects m_X7_emptyIn.1.cls m_X7_emptyIn.1 m_X7_emptyIn.1 ∈ tblG := tG4 (i := 181) (by decide +kernel) (by decide +kernel)
theorem cw_X7_held : cwOf m_X7_held ∈ tblG := tG2 (i := 120) (by decide +kernel) (by decide +kernel)
theorem mk_X7_held : MK m_X7_held 0 := ⟨cw_X7_held, tG1 (i := 1) (by decide +kernel) (by decide +kernel), rfl, by decide +kernel⟩
theorem im_X7_held : Cond.instanceMethod (m_X7_held.1) ∈ tblG := tG2 (i := 118) (by decide +kernel) (by decide +kernel)
theorem se_X7_held : Cond.selects m_X7_held.1.cls m_X7_held.1 m_X7_held.1 ∈ tblG := tG2 (i := 119) (by decide +kernel) (by decide +kernel)
theorem cw_X7_runScript : cwOf m_X7_runScript ∈ tblG := tG4 (i := 189) (by decide +kernel) (by decide +kernel)
theorem mk_X7_runScript : MK m_X7_runScript 2 := ⟨cw_X7_runScript, tG1 (i := 1) (by decide +kernel) (by decide +kernel), rfl, by decide +kernel⟩
theorem im_X7_runScript : Cond.instanceMethod (m_X7_runScript.1) ∈ tblG := tG4 (i := 187) (by decide +kernel) (by decide +kernel)
theorem se_X7_runScript : Cond.selects m_X7_runScript.1.cls m_X7_runScript.1 m_X7_runScript.1 ∈ tblG := tG4 (i := 188) (by decide +kernel) (by decide +kernel)
theorem cw_X7_simulate : cwOf m_X7_simulate ∈ tblG := tG4 (i := 204) (by decide +kernel) (by decide +kernel)
theorem mk_X7_simulate : MK m_X7_simulate 2 := ⟨cw_X7_simulate, tG1 (i := 1) (by decide +kernel) (by decide +kernel), rfl, by decide +kernel⟩
theorem im_X7_simulate : Cond.instanceMethod (m_X7_simulate.1) ∈ tblG := tG4 (i := 202) (by decide +kernel) (by decide +kernel)
theorem se_X7_simulate : Cond.selects m_X7_simulate.1.cls m_X7_simulate.1 m_X7_simulate.1 ∈ tblG := tG4 (i := 203) (by decide +kernel) (by decide +kernel)
theorem cw_X7_save : cwOf m_X7_save ∈ tblG := tG4 (i := 221) (by decide +kernel) (by decide +kernel)
theorem mk_X7_save : MK m_X7_save 1 := ⟨cw_X7_save, tG1 (i := 1) (by decide +kernel) (by decide +kernel), rfl, by decide +kernel⟩
theorem im_X7_save : Cond.instanceMethod (m_X7_save.1) ∈ tblG := tG4 (i := 219) (by decide +kernel) (by decide +kernel)
theorem se_X7_save : Cond.selects m_X7_save.1.cls m_X7_save.1 m_X7_save.1 ∈ tblG := tG4 (i := 220) (by decide +kernel) (by decide +kernel)
theorem cw_X7_restore : cwOf m_X7_restore ∈ tblG := tG4 (i := 228) (by decide +kernel) (by decide +kernel)
theorem mk_X7_restore : MK m_X7_restore 1 := ⟨cw_X7_restore, tG1 (i := 1) (by decide +kernel) (by decide +kernel), rfl, by decide +kernel⟩
theorem im_X7_restore : Cond.instanceMethod (m_X7_restore.1) ∈ tblG := tG4 (i := 226) (by decide +kernel) (by decide +kernel)
theorem se_X7_restore : Cond.selects m_X7_restore.1.cls m_X7_restore.1 m_X7_restore.1 ∈ tblG := tG4 (i := 227) (by decide +kernel) (by decide +kernel)
theorem cw_X7_isWithin : cwOf m_X7_isWithin ∈ tblG := tG2 (i := 86) (by decide +kernel) (by decide +kernel)
theorem mk_X7_isWithin : MK m_X7_isWithin 3 := ⟨cw_X7_isWithin, tG1 (i := 1) (by decide +kernel) (by decide +kernel), rfl, by decide +kernel⟩
theorem sm_X7_isWithin : Cond.static (m_X7_isWithin.1) ∈ tblG := tG2 (i := 85) (by decide +kernel) (by decide +kernel)
theorem cw_X7_requireIndex : cwOf m_X7_requireIndex ∈ tblG := tG3 (i := 216) (by decide +kernel) (by decide +kernel)
theorem mk_X7_requireIndex : MK m_X7_requireIndex 1 := ⟨cw_X7_requireIndex, tG1 (i := 1) (by decide +kernel) (by decide +kernel), rfl, by decide +kernel⟩
theorem sm_X7_requireIndex : Cond.static (m_X7_requireIndex.1) ∈ tblG := tG3 (i := 215) (by decide +kernel) (by decide +kernel)
theorem cw_X7_requireArgument : cwOf m_X7_requireArgument ∈ tblG := tG2 (i := 187) (by decide +kernel) (by decide +kernel)
theorem mk_X7_requireArgument : MK m_X7_requireArgument 1 := ⟨cw_X7_requireArgument, tG1 (i := 1) (by decide +kernel) (by decide +kernel), rfl, by decide +kernel⟩
theorem sm_X7_requireArgument : Cond.static (m_X7_requireArgument.1) ∈ tblG := tG2 (i := 186) (by decide +kernel) (by decide +kernel)
theorem cw_X7_requireState : cwOf m_X7_requireState ∈ tblG := tG3 (i := 18) (by decide +kernel) (by decide +kernel)
theorem mk_X7_requireState : MK m_X7_requireState 1 := ⟨cw_X7_requireState, tG1 (i := 1) (by decide +kernel) (by decide +kernel), rfl, by decide +kernel⟩
theorem sm_X7_requireState : Cond.static (m_X7_requireState.1) ∈ tblG := tG3 (i := 17) (by decide +kernel) (by decide +kernel)
theorem cw_X7_requireLessonArguments : cwOf m_X7_requireLessonArguments ∈ tblG := tG4 (i := 82) (by decide +kernel) (by decide +kernel)
theorem mk_X7_requireLessonArguments : MK m_X7_requireLessonArguments 4 := ⟨cw_X7_requireLessonArguments, tG1 (i := 1) (by decide +kernel) (by decide +kernel), rfl, by decide +kernel⟩
theorem sm_X7_requireLessonArguments : Cond.static (m_X7_requireLessonArguments.1) ∈ tblG := tG4 (i := 81) (by decide +kernel) (by decide +kernel)
theorem cw_X7_beginAnew : cwOf m_X7_beginAnew ∈ tblG := tG3 (i := 49) (by decide +kernel) (by decide +kernel)
theorem mk_X7_beginAnew : MK m_X7_beginAnew 0 := ⟨cw_X7_beginAnew, tG1 (i := 1) (by decide +kernel) (by decide +kernel), rfl, by decide +kernel⟩
theorem im_X7_beginAnew : Cond.instanceMethod (m_X7_beginAnew.1) ∈ tblG := tG3 (i := 48) (by decide +kernel) (by decide +kernel)
theorem se_X7_beginAnew : Cond.selects m_X7_beginAnew.1.cls m_X7_beginAnew.1 m_X7_beginAnew.1 ∈ tblG := tGs (i := 12) (by decide +kernel) (by decide +kernel)
theorem cw_X7_doCommand : cwOf m_X7_doCommand ∈ tblG := tG3 (i := 61) (by decide +kernel) (by decide +kernel)
theorem mk_X7_doCommand : MK m_X7_doCommand 2 := ⟨cw_X7_doCommand, tG1 (i := 1) (by decide +kernel) (by decide +kernel), rfl, by decide +kernel⟩
theorem im_X7_doCommand : Cond.instanceMethod (m_X7_doCommand.1) ∈ tblG := tG3 (i := 60) (by decide +kernel) (by decide +kernel)
theorem se_X7_doCommand : Cond.selects m_X7_doCommand.1.cls m_X7_doCommand.1 m_X7_doCommand.1 ∈ tblG := tGs (i := 13) (by decide +kernel) (by decide +kernel)
theorem cw_X7_withoutGroups : cwOf m_X7_withoutGroups ∈ tblG := tG4 (i := 192) (by decide +kernel) (by decide +kernel)
theorem mk_X7_withoutGroups : MK m_X7_withoutGroups 2 := ⟨cw_X7_withoutGroups, tG1 (i := 1) (by decide +kernel) (by decide +kernel), rfl, by decide +kernel⟩
theorem sm_X7_withoutGroups : Cond.static (m_X7_withoutGroups.1) ∈ tblG := tG4 (i := 191) (by decide +kernel) (by decide +kernel)
theorem cw_X7_tryGroup : cwOf m_X7_tryGroup ∈ tblG := tG4 (i := 197) (by decide +kernel) (by decide +kernel)
theorem mk_X7_tryGroup : MK m_X7_tryGroup 1 := ⟨cw_X7_tryGroup, tG1 (i := 1) (by decide +kernel) (by decide +kernel), rfl, by decide +kernel⟩
theorem im_X7_tryGroup : Cond.instanceMethod (m_X7_tryGroup.1) ∈ tblG := tG4 (i := 196) (by decide +kernel) (by decide +kernel)
theorem se_X7_tryGroup : Cond.selects m_X7_tryGroup.1.cls m_X7_tryGroup.1 m_X7_tryGroup.1 ∈ tblG := tGs (i := 17) (by decide +kernel) (by decide +kernel)
theorem cw_X7_tryTurn : cwOf m_X7_tryTurn ∈ tblG := tG4 (i := 210) (by decide +kernel) (by decide +kernel)
theorem mk_X7_tryTurn : MK m_X7_tryTurn 1 := ⟨cw_X7_tryTurn, tG1 (i := 1) (by decide +kernel) (by decide +kernel), rfl, by decide +kernel⟩
theorem im_X7_tryTurn : Cond.instanceMethod (m_X7_tryTurn.1) ∈ tblG := tG4 (i := 209) (by decide +kernel) (by decide +kernel)
theorem se_X7_tryTurn : Cond.selects m_X7_tryTurn.1.cls m_X7_tryTurn.1 m_X7_tryTurn.1 ∈ tblG := tGs (i := 18) (by decide +kernel) (by decide +kernel)
theorem cw_X7_tryLeaving : cwOf m_X7_tryLeaving ∈ tblG := tG4 (i := 214) (by decide +kernel) (by decide +kernel)
theorem mk_X7_tryLeaving : MK m_X7_tryLeaving 1 := ⟨cw_X7_tryLeaving, tG1 (i := 1) (by decide +kernel) (by decide +kernel), rfl, by decide +kernel⟩
theorem im_X7_tryLeaving : Cond.instanceMethod (m_X7_tryLeaving.1) ∈ tblG := tG4 (i := 213) (by decide +kernel) (by decide +kernel)
theorem se_X7_tryLeaving : Cond.selects m_X7_tryLeaving.1.cls m_X7_tryLeaving.1 m_X7_tryLeaving.1 ∈ tblG := tGs (i := 19) (by decide +kernel) (by decide +kernel)
theorem cw_X8_init : cwOf m_X8_init ∈ tblG := tG4 (i := 233) (by decide +kernel) (by decide +kernel)
theorem mk_X8_init : MK m_X8_init 0 := ⟨cw_X8_init, tG1 (i := 9) (by decide +kernel) (by decide +kernel), rfl, by decide +kernel⟩
theorem im_X8_init : Cond.instanceMethod (m_X8_init.1) ∈ tblG := tG4 (i := 232) (by decide +kernel) (by decide +kernel)
theorem cw_X8_thrown : cwOf m_X8_thrown ∈ tblG := tG5 (i := 30) (by decide +kernel) (by decide +kernel)
theorem mk_X8_thrown : MK m_X8_thrown 0 := ⟨cw_X8_thrown, tG1 (i := 9) (by decide +kernel) (by decide +kernel), rfl, by decide +kernel⟩
theorem im_X8_thrown : Cond.instanceMethod (m_X8_thrown.1) ∈ tblG := tG5 (i := 28) (by decide +kernel) (by decide +kernel)
theorem se_X8_thrown : Cond.selects m_X8_thrown.1.cls m_X8_thrown.1 m_X8_thrown.1 ∈ tblG := tG5 (i := 29) (by decide +kernel) (by decide +kernel)
theorem cw_X8_in : cwOf m_X8_in ∈ tblG := tG5 (i := 37) (by decide +kernel) (by decide +kernel)
theorem mk_X8_in : MK m_X8_in 3 := ⟨cw_X8_in, tG1 (i := 9) (by decide +kernel) (by decide +kernel), rfl, by decide +kernel⟩
theorem sm_X8_in : Cond.static (m_X8_in.1) ∈ tblG := tG5 (i := 36) (by decide +kernel) (by decide +kernel)
theorem cw_X8_holds : cwOf m_X8_holds ∈ tblG := tG5 (i := 41) (by decide +kernel) (by decide +kernel)
theorem mk_X8_holds : MK m_X8_holds 1 := ⟨cw_X8_holds, tG1 (i := 9) (by decide +kernel) (by decide +kernel), rfl, by decide +kernel⟩
theorem im_X8_holds : Cond.instanceMethod (m_X8_holds.1) ∈ tblG := tG5 (i := 40) (by decide +kernel) (by decide +kernel)
theorem se_X8_holds : Cond.selects m_X8_holds.1.cls m_X8_holds.1 m_X8_holds.1 ∈ tblG := tGs (i := 21) (by decide +kernel) (by decide +kernel)
theorem cw_X8_anew : cwOf m_X8_anew ∈ tblG := tG4 (i := 238) (by decide +kernel) (by decide +kernel)
theorem mk_X8_anew : MK m_X8_anew 0 := ⟨cw_X8_anew, tG1 (i := 9) (by decide +kernel) (by decide +kernel), rfl, by decide +kernel⟩
theorem im_X8_anew : Cond.instanceMethod (m_X8_anew.1) ∈ tblG := tG4 (i := 237) (by decide +kernel) (by decide +kernel)
theorem se_X8_anew : Cond.selects m_X8_anew.1.cls m_X8_anew.1 m_X8_anew.1 ∈ tblG := tGs (i := 20) (by decide +kernel) (by decide +kernel)
theorem cw_X8_isFloor : cwOf m_X8_isFloor ∈ tblG := tG5 (i := 93) (by decide +kernel) (by decide +kernel)
theorem mk_X8_isFloor : MK m_X8_isFloor 1 := ⟨cw_X8_isFloor, tG1 (i := 9) (by decide +kernel) (by decide +kernel), rfl, by decide +kernel⟩
theorem im_X8_isFloor : Cond.instanceMethod (m_X8_isFloor.1) ∈ tblG := tG5 (i := 92) (by decide +kernel) (by decide +kernel)
theorem se_X8_isFloor : Cond.selects m_X8_isFloor.1.cls m_X8_isFloor.1 m_X8_isFloor.1 ∈ tblG := tGs (i := 31) (by decide +kernel) (by decide +kernel)
theorem cw_X8_isTeacher : cwOf m_X8_isTeacher ∈ tblG := tG5 (i := 97) (by decide +kernel) (by decide +kernel)
theorem mk_X8_isTeacher : MK m_X8_isTeacher 1 := ⟨cw_X8_isTeacher, tG1 (i := 9) (by decide +kernel) (by decide +kernel), rfl, by decide +kernel⟩
theorem im_X8_isTeacher : Cond.instanceMethod (m_X8_isTeacher.1) ∈ tblG := tG5 (i := 96) (by decide +kernel) (by decide +kernel)
theorem se_X8_isTeacher : Cond.selects m_X8_isTeacher.1.cls m_X8_isTeacher.1 m_X8_isTeacher.1 ∈ tblG := tGs (i := 32) (by decide +kernel) (by decide +kernel)
theorem cw_X8_isClass : cwOf m_X8_isClass ∈ tblG := tG5 (i := 141) (by decide +kernel) (by decide +kernel)
theorem mk_X8_isClass : MK m_X8_isClass 1 := ⟨cw_X8_isClass, tG1 (i := 9) (by decide +kernel) (by decide +kernel), rfl, by decide +kernel⟩
theorem im_X8_isClass : Cond.instanceMethod (m_X8_isClass.1) ∈ tblG := tG5 (i := 140) (by decide +kernel) (by decide +kernel)
theorem se_X8_isClass : Cond.selects m_X8_isClass.1.cls m_X8_isClass.1 m_X8_isClass.1 ∈ tblG := tGs (i := 43) (by decide +kernel) (by decide +kernel)
theorem cw_X8_isDancer : cwOf m_X8_isDancer ∈ tblG := tG5 (i := 129) (by decide +kernel) (by decide +kernel)
theorem mk_X8_isDancer : MK m_X8_isDancer 1 := ⟨cw_X8_isDancer, tG1 (i := 9) (by decide +kernel) (by decide +kernel), rfl, by decide +kernel⟩
theorem im_X8_isDancer : Cond.instanceMethod (m_X8_isDancer.1) ∈ tblG := tG5 (i := 128) (by decide +kernel) (by decide +kernel)
theorem se_X8_isDancer : Cond.selects m_X8_isDancer.1.cls m_X8_isDancer.1 m_X8_isDancer.1 ∈ tblG := tGs (i := 40) (by decide +kernel) (by decide +kernel)
theorem cw_X8_ofClass : cwOf m_X8_ofClass ∈ tblG := tG5 (i := 105) (by decide +kernel) (by decide +kernel)
theorem mk_X8_ofClass : MK m_X8_ofClass 2 := ⟨cw_X8_ofClass, tG1 (i := 9) (by decide +kernel) (by decide +kernel), rfl, by decide +kernel⟩
theorem im_X8_ofClass : Cond.instanceMethod (m_X8_ofClass.1) ∈ tblG := tG5 (i := 104) (by decide +kernel) (by decide +kernel)
theorem se_X8_ofClass : Cond.selects m_X8_ofClass.1.cls m_X8_ofClass.1 m_X8_ofClass.1 ∈ tblG := tGs (i := 34) (by decide +kernel) (by decide +kernel)
theorem cw_X8_ofDancer : cwOf m_X8_ofDancer ∈ tblG := tG5 (i := 133) (by decide +kernel) (by decide +kernel)
theorem mk_X8_ofDancer : MK m_X8_ofDancer 2 := ⟨cw_X8_ofDancer, tG1 (i := 9) (by decide +kernel) (by decide +kernel), rfl, by decide +kernel⟩
theorem im_X8_ofDancer : Cond.instanceMethod (m_X8_ofDancer.1) ∈ tblG := tG5 (i := 132) (by decide +kernel) (by decide +kernel)
theorem se_X8_ofDancer : Cond.selects m_X8_ofDancer.1.cls m_X8_ofDancer.1 m_X8_ofDancer.1 ∈ tblG := tGs (i := 41) (by decide +kernel) (by decide +kernel)
theorem cw_X8_adds : cwOf m_X8_adds ∈ tblG := tG5 (i := 188) (by decide +kernel) (by decide +kernel)
theorem mk_X8_adds : MK m_X8_adds 2 := ⟨cw_X8_adds, tG1 (i := 9) (by decide +kernel) (by decide +kernel), rfl, by decide +kernel⟩
theorem im_X8_adds : Cond.instanceMethod (m_X8_adds.1) ∈ tblG := tG5 (i := 187) (by decide +kernel) (by decide +kernel)
theorem se_X8_adds : Cond.selects m_X8_adds.1.cls m_X8_adds.1 m_X8_adds.1 ∈ tblG := tGs (i := 54) (by decide +kernel) (by decide +kernel)
theorem cw_X8_bits : cwOf m_X8_bits ∈ tblG := tG5 (i := 152) (by decide +kernel) (by decide +kernel)
theorem mk_X8_bits : MK m_X8_bits 1 := ⟨cw_X8_bits, tG1 (i := 9) (by decide +kernel) (by decide +kernel), rfl, by decide +kernel⟩
theorem sm_X8_bits : Cond.static (m_X8_bits.1) ∈ tblG := tG5 (i := 151) (by decide +kernel) (by decide +kernel)
theorem cw_X8_spring : cwOf m_X8_spring ∈ tblG := tG5 (i := 113) (by decide +kernel) (by decide +kernel)
theorem mk_X8_spring : MK m_X8_spring 1 := ⟨cw_X8_spring, tG1 (i := 9) (by decide +kernel) (by decide +kernel), rfl, by decide +kernel⟩
theorem im_X8_spring : Cond.instanceMethod (m_X8_spring.1) ∈ tblG := tG5 (i := 112) (by decide +kernel) (by decide +kernel)
theorem se_X8_spring : Cond.selects m_X8_spring.1.cls m_X8_spring.1 m_X8_spring.1 ∈ tblG := tGs (i := 36) (by decide +kernel) (by decide +kernel)
theorem cw_X8_mirrors : cwOf m_X8_mirrors ∈ tblG := tG5 (i := 121) (by decide +kernel) (by decide +kernel)
theorem mk_X8_mirrors : MK m_X8_mirrors 1 := ⟨cw_X8_mirrors, tG1 (i := 9) (by decide +kernel) (by decide +kernel), rfl, by decide +kernel⟩
theorem im_X8_mirrors : Cond.instanceMethod (m_X8_mirrors.1) ∈ tblG := tG5 (i := 120) (by decide +kernel) (by decide +kernel)
theorem se_X8_mirrors : Cond.selects m_X8_mirrors.1.cls m_X8_mirrors.1 m_X8_mirrors.1 ∈ tblG := tGs (i := 38) (by decide +kernel) (by decide +kernel)
theorem cw_X8_barre : cwOf m_X8_barre ∈ tblG := tG5 (i := 117) (by decide +kernel) (by decide +kernel)
theorem mk_X8_barre : MK m_X8_barre 1 := ⟨cw_X8_barre, tG1 (i := 9) (by decide +kernel) (by decide +kernel), rfl, by decide +kernel⟩
theorem im_X8_barre : Cond.instanceMethod (m_X8_barre.1) ∈ tblG := tG5 (i := 116) (by decide +kernel) (by decide +kernel)
theorem se_X8_barre : Cond.selects m_X8_barre.1.cls m_X8_barre.1 m_X8_barre.1 ∈ tblG := tGs (i := 37) (by decide +kernel) (by decide +kernel)
theorem cw_X8_takes : cwOf m_X8_takes ∈ tblG := tG5 (i := 160) (by decide +kernel) (by decide +kernel)
theorem mk_X8_takes : MK m_X8_takes 2 := ⟨cw_X8_takes, tG1 (i := 9) (by decide +kernel) (by decide +kernel), rfl, by decide +kernel⟩
theorem im_X8_takes : Cond.instanceMethod (m_X8_takes.1) ∈ tblG := tG5 (i := 159) (by decide +kernel) (by decide +kernel)
theorem se_X8_takes : Cond.selects m_X8_takes.1.cls m_X8_takes.1 m_X8_takes.1 ∈ tblG := tGs (i := 47) (by decide +kernel) (by decide +kernel)
theorem cw_X8_isSpring : cwOf m_X8_isSpring ∈ tblG := tG5 (i := 109) (by decide +kernel) (by decide +kernel)
theorem mk_X8_isSpring : MK m_X8_isSpring 3 := ⟨cw_X8_isSpring, tG1 (i := 9) (by decide +kernel) (by decide +kernel), rfl, by decide +kernel⟩
theorem im_X8_isSpring : Cond.instanceMethod (m_X8_isSpring.1) ∈ tblG := tG5 (i := 108) (by decide +kernel) (by decide +kernel)
theorem se_X8_isSpring : Cond.selects m_X8_isSpring.1.cls m_X8_isSpring.1 m_X8_isSpring.1 ∈ tblG := tGs (i := 35) (by decide +kernel) (by decide +kernel)
theorem cw_X8_whyNo : cwOf m_X8_whyNo ∈ tblG := tG5 (i := 101) (by decide +kernel) (by decide +kernel)
theorem mk_X8_whyNo : MK m_X8_whyNo 6 := ⟨cw_X8_whyNo, tG1 (i := 9) (by decide +kernel) (by decide +kernel), rfl, by decide +kernel⟩
theorem im_X8_whyNo : Cond.instanceMethod (m_X8_whyNo.1) ∈ tblG := tG5 (i := 100) (by decide +kernel) (by decide +kernel)
theorem se_X8_whyNo : Cond.selects m_X8_whyNo.1.cls m_X8_whyNo.1 m_X8_whyNo.1 ∈ tblG := tGs (i := 33) (by decide +kernel) (by decide +kernel)
theorem cw_X8_hasSeat : cwOf m_X8_hasSeat ∈ tblG := tG5 (i := 149) (by decide +kernel) (by decide +kernel)
theorem mk_X8_hasSeat : MK m_X8_hasSeat 2 := ⟨cw_X8_hasSeat, tG1 (i := 9) (by decide +kernel) (by decide +kernel), rfl, by decide +kernel⟩
theorem im_X8_hasSeat : Cond.instanceMethod (m_X8_hasSeat.1) ∈ tblG := tG5 (i := 148) (by decide +kernel) (by decide +kernel)
theorem se_X8_hasSeat : Cond.selects m_X8_hasSeat.1.cls m_X8_hasSeat.1 m_X8_hasSeat.1 ∈ tblG := tGs (i := 45) (by decide +kernel) (by decide +kernel)
theorem cw_X8_classTakes : cwOf m_X8_classTakes ∈ tblG := tG5 (i := 156) (by decide +kernel) (by decide +kernel)
theorem mk_X8_classTakes : MK m_X8_classTakes 1 := ⟨cw_X8_classTakes, tG1 (i := 9) (by decide +kernel) (by decide +kernel), rfl, by decide +kernel⟩
theorem im_X8_classTakes : Cond.instanceMethod (m_X8_classTakes.1) ∈ tblG := tG5 (i := 155) (by decide +kernel) (by decide +kernel)
theorem se_X8_classTakes : Cond.selects m_X8_classTakes.1.cls m_X8_classTakes.1 m_X8_classTakes.1 ∈ tblG := tGs (i := 46) (by decide +kernel) (by decide +kernel)
theorem cw_X8_whyNoSeat : cwOf m_X8_whyNoSeat ∈ tblG := tG5 (i := 145) (by decide +kernel) (by decide +kernel)
theorem mk_X8_whyNoSeat : MK m_X8_whyNoSeat 2 := ⟨cw_X8_whyNoSeat, tG1 (i := 9) (by decide +kernel) (by decide +kernel), rfl, by decide +kernel⟩
theorem im_X8_whyNoSeat : Cond.instanceMethod (m_X8_whyNoSeat.1) ∈ tblG := tG5 (i := 144) (by decide +kernel) (by decide +kernel)
theorem se_X8_whyNoSeat : Cond.selects m_X8_whyNoSeat.1.cls m_X8_whyNoSeat.1 m_X8_whyNoSeat.1 ∈ tblG := tGs (i := 44) (by decide +kernel) (by decide +kernel)
theorem cw_X8_floors : cwOf m_X8_floors ∈ tblG := tG5 (i := 168) (by decide +kernel) (by decide +kernel)
theorem mk_X8_floors : MK m_X8_floors 4 := ⟨cw_X8_floors, tG1 (i := 9) (by decide +kernel) (by decide +kernel), rfl, by decide +kernel⟩
theorem im_X8_floors : Cond.instanceMethod (m_X8_floors.1) ∈ tblG := tG5 (i := 167) (by decide +kernel) (by decide +kernel)
theorem se_X8_floors : Cond.selects m_X8_floors.1.cls m_X8_floors.1 m_X8_floors.1 ∈ tblG := tGs (i := 49) (by decide +kernel) (by decide +kernel)
theorem cw_X8_teachers : cwOf m_X8_teachers ∈ tblG := tG5 (i := 172) (by decide +kernel) (by decide +kernel)
theorem mk_X8_teachers : MK m_X8_teachers 2 := ⟨cw_X8_teachers, tG1 (i := 9) (by decide +kernel) (by decide +kernel), rfl, by decide +kernel⟩
theorem im_X8_teachers : Cond.instanceMethod (m_X8_teachers.1) ∈ tblG := tG5 (i := 171) (by decide +kernel) (by decide +kernel)
theorem se_X8_teachers : Cond.selects m_X8_teachers.1.cls m_X8_teachers.1 m_X8_teachers.1 ∈ tblG := tGs (i := 50) (by decide +kernel) (by decide +kernel)
theorem cw_X8_sets : cwOf m_X8_sets ∈ tblG := tG5 (i := 176) (by decide +kernel) (by decide +kernel)
theorem mk_X8_sets : MK m_X8_sets 6 := ⟨cw_X8_sets, tG1 (i := 9) (by decide +kernel) (by decide +kernel), rfl, by decide +kernel⟩
theorem im_X8_sets : Cond.instanceMethod (m_X8_sets.1) ∈ tblG := tG5 (i := 175) (by decide +kernel) (by decide +kernel)
theorem se_X8_sets : Cond.selects m_X8_sets.1.cls m_X8_sets.1 m_X8_sets.1 ∈ tblG := tGs (i := 51) (by decide +kernel) (by decide +kernel)
theorem cw_X8_drops : cwOf m_X8_drops ∈ tblG := tG5 (i := 200) (by decide +kernel) (by decide +kernel)
theorem mk_X8_drops : MK m_X8_drops 1 := ⟨cw_X8_drops, tG1 (i := 9) (by decide +kernel) (by decide +kernel), rfl, by decide +kernel⟩
theorem im_X8_drops : Cond.instanceMethod (m_X8_drops.1) ∈ tblG := tG5 (i := 199) (by decide +kernel) (by decide +kernel)
theorem se_X8_drops : Cond.selects m_X8_drops.1.cls m_X8_drops.1 m_X8_drops.1 ∈ tblG := tGs (i := 57) (by decide +kernel) (by decide +kernel)
theorem cw_X8_dancers : cwOf m_X8_dancers ∈ tblG := tG5 (i := 180) (by decide +kernel) (by decide +kernel)
theorem mk_X8_dancers : MK m_X8_dancers 0 := ⟨cw_X8_dancers, tG1 (i := 9) (by decide +kernel) (by decide +kernel), rfl, by decide +kernel⟩
theorem im_X8_dancers : Cond.instanceMethod (m_X8_dancers.1) ∈ tblG := tG5 (i := 179) (by decide +kernel) (by decide +kernel)
theorem se_X8_dancers : Cond.selects m_X8_dancers.1.cls m_X8_dancers.1 m_X8_dancers.1 ∈ tblG := tGs (i := 52) (by decide +kernel) (by decide +kernel)
theorem cw_X8_passes : cwOf m_X8_passes ∈ tblG := tG5 (i := 184) (by decide +kernel) (by decide +kernel)
theorem mk_X8_passes : MK m_X8_passes 1 := ⟨cw_X8_passes, tG1 (i := 9) (by decide +kernel) (by decide +kernel), rfl, by decide +kernel⟩
theorem im_X8_passes : Cond.instanceMethod (m_X8_passes.1) ∈ tblG := tG5 (i := 183) (by decide +kernel) (by decide +kernel)
theorem se_X8_passes : Cond.selects m_X8_passes.1.cls m_X8_passes.1 m_X8_passes.1 ∈ tblG := tGs (i := 53) (by decide +kernel) (by decide +kernel)
theorem cw_X8_enters : cwOf m_X8_enters ∈ tblG := tG5 (i := 192) (by decide +kernel) (by decide +kernel)
theorem mk_X8_enters : MK m_X8_enters 2 := ⟨cw_X8_enters, tG1 (i := 9) (by decide +kernel) (by decide +kernel), rfl, by decide +kernel⟩
theorem im_X8_enters : Cond.instanceMethod (m_X8_enters.1) ∈ tblG := tG5 (i := 191) (by decide +kernel) (by decide +kernel)
theorem se_X8_enters : Cond.selects m_X8_enters.1.cls m_X8_enters.1 m_X8_enters.1 ∈ tblG := tGs (i := 55) (by decide +kernel) (by decide +kernel)
theorem cw_X8_leaves : cwOf m_X8_leaves ∈ tblG := tG5 (i := 196) (by decide +kernel) (by decide +kernel)
theorem mk_X8_leaves : MK m_X8_leaves 2 := ⟨cw_X8_leaves, tG1 (i := 9) (by decide +kernel) (by decide +kernel), rfl, by decide +kernel⟩
theorem im_X8_leaves : Cond.instanceMethod (m_X8_leaves.1) ∈ tblG := tG5 (i := 195) (by decide +kernel) (by decide +kernel)
theorem se_X8_leaves : Cond.selects m_X8_leaves.1.cls m_X8_leaves.1 m_X8_leaves.1 ∈ tblG := tGs (i := 56) (by decide +kernel) (by decide +kernel)
theorem cw_X8_coming : cwOf m_X8_coming ∈ tblG := tG5 (i := 212) (by decide +kernel) (by decide +kernel)
theorem mk_X8_coming : MK m_X8_coming 1 := ⟨cw_X8_coming, tG1 (i := 9) (by decide +kernel) (by decide +kernel), rfl, by decide +kernel⟩
theorem im_X8_coming : Cond.instanceMethod (m_X8_coming.1) ∈ tblG := tG5 (i := 211) (by decide +kernel) (by decide +kernel)
theorem se_X8_coming : Cond.selects m_X8_coming.1.cls m_X8_coming.1 m_X8_coming.1 ∈ tblG := tGs (i := 60) (by decide +kernel) (by decide +kernel)
theorem cw_X8_dances : cwOf m_X8_dances ∈ tblG := tG5 (i := 216) (by decide +kernel) (by decide +kernel)
theorem mk_X8_dances : MK m_X8_dances 2 := ⟨cw_X8_dances, tG1 (i := 9) (by decide +kernel) (by decide +kernel), rfl, by decide +kernel⟩
theorem im_X8_dances : Cond.instanceMethod (m_X8_dances.1) ∈ tblG := tG5 (i := 215) (by decide +kernel) (by decide +kernel)
theorem se_X8_dances : Cond.selects m_X8_dances.1.cls m_X8_dances.1 m_X8_dances.1 ∈ tblG := tGs (i := 61) (by decide +kernel) (by decide +kernel)
theorem cw_X8_week : cwOf m_X8_week ∈ tblG := tG5 (i := 208) (by decide +kernel) (by decide +kernel)
theorem mk_X8_week : MK m_X8_week 0 := ⟨cw_X8_week, tG1 (i := 9) (by decide +kernel) (by decide +kernel), rfl, by decide +kernel⟩
theorem im_X8_week : Cond.instanceMethod (m_X8_week.1) ∈ tblG := tG5 (i := 207) (by decide +kernel) (by decide +kernel)
theorem se_X8_week : Cond.selects m_X8_week.1.cls m_X8_week.1 m_X8_week.1 ∈ tblG := tGs (i := 59) (by decide +kernel) (by decide +kernel)
theorem cw_X8_weeksGo : cwOf m_X8_weeksGo ∈ tblG := tG5 (i := 204) (by decide +kernel) (by decide +kernel)
theorem mk_X8_weeksGo : MK m_X8_weeksGo 1 := ⟨cw_X8_weeksGo, tG1 (i := 9) (by decide +kernel) (by decide +kernel), rfl, by decide +kernel⟩
theorem im_X8_weeksGo : Cond.instanceMethod (m_X8_weeksGo.1) ∈ tblG := tG5 (i := 203) (by decide +kernel) (by decide +kernel)
theorem se_X8_weeksGo : Cond.selects m_X8_weeksGo.1.cls m_X8_weeksGo.1 m_X8_weeksGo.1 ∈ tblG := tGs (i := 58) (by decide +kernel) (by decide +kernel)
theorem cw_X8_copies : cwOf m_X8_copies ∈ tblG := tG6 (i := 43) (by decide +kernel) (by decide +kernel)
theorem mk_X8_copies : MK m_X8_copies 2 := ⟨cw_X8_copies, tG1 (i := 9) (by decide +kernel) (by decide +kernel), rfl, by decide +kernel⟩
theorem im_X8_copies : Cond.instanceMethod (m_X8_copies.1) ∈ tblG := tG6 (i := 42) (by decide +kernel) (by decide +kernel)
theorem se_X8_copies : Cond.selects m_X8_copies.1.cls m_X8_copies.1 m_X8_copies.1 ∈ tblG := tGs (i := 69) (by decide +kernel) (by decide +kernel)
theorem cw_X8_remember : cwOf m_X8_remember ∈ tblG := tG6 (i := 39) (by decide +kernel) (by decide +kernel)
theorem mk_X8_remember : MK m_X8_remember 0 := ⟨cw_X8_remember, tG1 (i := 9) (by decide +kernel) (by decide +kernel), rfl, by decide +kernel⟩
theorem im_X8_remember : Cond.instanceMethod (m_X8_remember.1) ∈ tblG := tG6 (i := 38) (by decide +kernel) (by decide +kernel)
theorem se_X8_remember : Cond.selects m_X8_remember.1.cls m_X8_remember.1 m_X8_remember.1 ∈ tblG := tGs (i := 68) (by decide +kernel) (by decide +kernel)
theorem cw_X8_append : cwOf m_X8_append ∈ tblG := tG5 (i := 34) (by decide +kernel) (by decide +kernel)
theorem mk_X8_append : MK m_X8_append 1 := ⟨cw_X8_append, tG1 (i := 9) (by decide +kernel) (by decide +kernel), rfl, by decide +kernel⟩
theorem im_X8_append : Cond.instanceMethod (m_X8_append.1) ∈ tblG := tG5 (i := 32) (by decide +kernel) (by decide +kernel)
theorem se_X8_append : Cond.selects m_X8_append.1.cls m_X8_append.1 m_X8_append.1 ∈ tblG := tG5 (i := 33) (by decide +kernel) (by decide +kernel)
theorem cw_X8_clearText : cwOf m_X8_clearText ∈ tblG := tG5 (i := 45) (by decide +kernel) (by decide +kernel)
theorem mk_X8_clearText : MK m_X8_clearText 0 := ⟨cw_X8_clearText, tG1 (i := 9) (by decide +kernel) (by decide +kernel), rfl, by decide +kernel⟩
theorem im_X8_clearText : Cond.instanceMethod (m_X8_clearText.1) ∈ tblG := tG5 (i := 43) (by decide +kernel) (by decide +kernel)
theorem se_X8_clearText : Cond.selects m_X8_clearText.1.cls m_X8_clearText.1 m_X8_clearText.1 ∈ tblG := tG5 (i := 44) (by decide +kernel) (by decide +kernel)
theorem cw_X8_sign : cwOf m_X8_sign ∈ tblG := tG5 (i := 61) (by decide +kernel) (by decide +kernel)
theorem mk_X8_sign : MK m_X8_sign 0 := ⟨cw_X8_sign, tG1 (i := 9) (by decide +kernel) (by decide +kernel), rfl, by decide +kernel⟩
theorem im_X8_sign : Cond.instanceMethod (m_X8_sign.1) ∈ tblG := tG5 (i := 60) (by decide +kernel) (by decide +kernel)
theorem se_X8_sign : Cond.selects m_X8_sign.1.cls m_X8_sign.1 m_X8_sign.1 ∈ tblG := tGs (i := 24) (by decide +kernel) (by decide +kernel)
theorem cw_X8_takesSign : cwOf m_X8_takesSign ∈ tblG := tG5 (i := 57) (by decide +kernel) (by decide +kernel)
theorem mk_X8_takesSign : MK m_X8_takesSign 1 := ⟨cw_X8_takesSign, tG1 (i := 9) (by decide +kernel) (by decide +kernel), rfl, by decide +kernel⟩
theorem im_X8_takesSign : Cond.instanceMethod (m_X8_takesSign.1) ∈ tblG := tG5 (i := 56) (by decide +kernel) (by decide +kernel)
theorem se_X8_takesSign : Cond.selects m_X8_takesSign.1.cls m_X8_takesSign.1 m_X8_takesSign.1 ∈ tblG := tGs (i := 23) (by decide +kernel) (by decide +kernel)
theorem cw_X8_figure : cwOf m_X8_figure ∈ tblG := tG5 (i := 69) (by decide +kernel) (by decide +kernel)
theorem mk_X8_figure : MK m_X8_figure 3 := ⟨cw_X8_figure, tG1 (i := 9) (by decide +kernel) (by decide +kernel), rfl, by decide +kernel⟩
theorem im_X8_figure : Cond.instanceMethod (m_X8_figure.1) ∈ tblG := tG5 (i := 68) (by decide +kernel) (by decide +kernel)
theorem se_X8_figure : Cond.selects m_X8_figure.1.cls m_X8_figure.1 m_X8_figure.1 ∈ tblG := tGs (i := 26) (by decide +kernel) (by decide +kernel)
theorem cw_X8_figures : cwOf m_X8_figures ∈ tblG := tG5 (i := 73) (by decide +kernel) (by decide +kernel)
theorem mk_X8_figures : MK m_X8_figures 3 := ⟨cw_X8_figures, tG1 (i := 9) (by decide +kernel) (by decide +kernel), rfl, by decide +kernel⟩
theorem im_X8_figures : Cond.instanceMethod (m_X8_figures.1) ∈ tblG := tG5 (i := 72) (by decide +kernel) (by decide +kernel)
theorem se_X8_figures : Cond.selects m_X8_figures.1.cls m_X8_figures.1 m_X8_figures.1 ∈ tblG := tGs (i := 27) (by decide +kernel) (by decide +kernel)
theorem cw_X8_readsClass : cwOf m_X8_readsClass ∈ tblG := tG5 (i := 77) (by decide +kernel) (by decide +kernel)
theorem mk_X8_readsClass : MK m_X8_readsClass 0 := ⟨cw_X8_readsClass, tG1 (i := 9) (by decide +kernel) (by decide +kernel), rfl, by decide +kernel⟩
theorem im_X8_readsClass : Cond.instanceMethod (m_X8_readsClass.1) ∈ tblG := tG5 (i := 76) (by decide +kernel) (by decide +kernel)
theorem se_X8_readsClass : Cond.selects m_X8_readsClass.1.cls m_X8_readsClass.1 m_X8_readsClass.1 ∈ tblG := tGs (i := 28) (by decide +kernel) (by decide +kernel)
theorem cw_X8_readsCommand : cwOf m_X8_readsCommand ∈ tblG := tG5 (i := 65) (by decide +kernel) (by decide +kernel)
theorem mk_X8_readsCommand : MK m_X8_readsCommand 0 := ⟨cw_X8_readsCommand, tG1 (i := 9) (by decide +kernel) (by decide +kernel), rfl, by decide +kernel⟩
theorem im_X8_readsCommand : Cond.instanceMethod (m_X8_readsCommand.1) ∈ tblG := tG5 (i := 64) (by decide +kernel) (by decide +kernel)
theorem se_X8_readsCommand : Cond.selects m_X8_readsCommand.1.cls m_X8_readsCommand.1 m_X8_readsCommand.1 ∈ tblG := tGs (i := 25) (by decide +kernel) (by decide +kernel)
theorem cw_X8_isStudio : cwOf m_X8_isStudio ∈ tblG := tG5 (i := 53) (by decide +kernel) (by decide +kernel)
theorem mk_X8_isStudio : MK m_X8_isStudio 0 := ⟨cw_X8_isStudio, tG1 (i := 9) (by decide +kernel) (by decide +kernel), rfl, by decide +kernel⟩
theorem im_X8_isStudio : Cond.instanceMethod (m_X8_isStudio.1) ∈ tblG := tG5 (i := 52) (by decide +kernel) (by decide +kernel)
theorem se_X8_isStudio : Cond.selects m_X8_isStudio.1.cls m_X8_isStudio.1 m_X8_isStudio.1 ∈ tblG := tGs (i := 22) (by decide +kernel) (by decide +kernel)
theorem cw_X8_errorPosition : cwOf m_X8_errorPosition ∈ tblG := tG5 (i := 49) (by decide +kernel) (by decide +kernel)
theorem mk_X8_errorPosition : MK m_X8_errorPosition 0 := ⟨cw_X8_errorPosition, tG1 (i := 9) (by decide +kernel) (by decide +kernel), rfl, by decide +kernel⟩
theorem im_X8_errorPosition : Cond.instanceMethod (m_X8_errorPosition.1) ∈ tblG := tG5 (i := 47) (by decide +kernel) (by decide +kernel)
theorem se_X8_errorPosition : Cond.selects m_X8_errorPosition.1.cls m_X8_errorPosition.1 m_X8_errorPosition.1 ∈ tblG := tG5 (i := 48) (by decide +kernel) (by decide +kernel)
theorem cw_X8_canSet : cwOf m_X8_canSet ∈ tblG := tG5 (i := 89) (by decide +kernel) (by decide +kernel)
theorem mk_X8_canSet : MK m_X8_canSet 0 := ⟨cw_X8_canSet, tG1 (i := 9) (by decide +kernel) (by decide +kernel), rfl, by decide +kernel⟩
theorem im_X8_canSet : Cond.instanceMethod (m_X8_canSet.1) ∈ tblG := tG5 (i := 88) (by decide +kernel) (by decide +kernel)
theorem se_X8_canSet : Cond.selects m_X8_canSet.1.cls m_X8_canSet.1 m_X8_canSet.1 ∈ tblG := tGs (i := 30) (by decide +kernel) (by decide +kernel)
theorem cw_X8_areBoth : cwOf m_X8_areBoth ∈ tblG := tG5 (i := 137) (by decide +kernel) (by decide +kernel)
theorem mk_X8_areBoth : MK m_X8_areBoth 0 := ⟨cw_X8_areBoth, tG1 (i := 9) (by decide +kernel) (by decide +kernel), rfl, by decide +kernel⟩
theorem im_X8_areBoth : Cond.instanceMethod (m_X8_areBoth.1) ∈ tblG := tG5 (i := 136) (by decide +kernel) (by decide +kernel)
theorem se_X8_areBoth : Cond.selects m_X8_areBoth.1.cls m_X8_areBoth.1 m_X8_areBoth.1 ∈ tblG := tGs (i := 42) (by decide +kernel) (by decide +kernel)
theorem cw_X8_canPass : cwOf m_X8_canPass ∈ tblG := tG5 (i := 125) (by decide +kernel) (by decide +kernel)
theorem mk_X8_canPass : MK m_X8_canPass 1 := ⟨cw_X8_canPass, tG1 (i := 9) (by decide +kernel) (by decide +kernel), rfl, by decide +kernel⟩
theorem im_X8_canPass : Cond.instanceMethod (m_X8_canPass.1) ∈ tblG := tG5 (i := 124) (by decide +kernel) (by decide +kernel)
theorem se_X8_canPass : Cond.selects m_X8_canPass.1.cls m_X8_canPass.1 m_X8_canPass.1 ∈ tblG := tGs (i := 39) (by decide +kernel) (by decide +kernel)
theorem cw_X8_can : cwOf m_X8_can ∈ tblG := tG5 (i := 85) (by decide +kernel) (by decide +kernel)
theorem mk_X8_can : MK m_X8_can 0 := ⟨cw_X8_can, tG1 (i := 9) (by decide +kernel) (by decide +kernel), rfl, by decide +kernel⟩
theorem im_X8_can : Cond.instanceMethod (m_X8_can.1) ∈ tblG := tG5 (i := 84) (by decide +kernel) (by decide +kernel)
theorem se_X8_can : Cond.selects m_X8_can.1.cls m_X8_can.1 m_X8_can.1 ∈ tblG := tGs (i := 29) (by decide +kernel) (by decide +kernel)
theorem cw_X8_does : cwOf m_X8_does ∈ tblG := tG5 (i := 164) (by decide +kernel) (by decide +kernel)
theorem mk_X8_does : MK m_X8_does 0 := ⟨cw_X8_does, tG1 (i := 9) (by decide +kernel) (by decide +kernel), rfl, by decide +kernel⟩
theorem im_X8_does : Cond.instanceMethod (m_X8_does.1) ∈ tblG := tG5 (i := 163) (by decide +kernel) (by decide +kernel)
theorem se_X8_does : Cond.selects m_X8_does.1.cls m_X8_does.1 m_X8_does.1 ∈ tblG := tGs (i := 48) (by decide +kernel) (by decide +kernel)
theorem cw_X8_load : cwOf m_X8_load ∈ tblG := tG5 (i := 81) (by decide +kernel) (by decide +kernel)
theorem mk_X8_load : MK m_X8_load 0 := ⟨cw_X8_load, tG1 (i := 9) (by decide +kernel) (by decide +kernel), rfl, by decide +kernel⟩
theorem im_X8_load : Cond.instanceMethod (m_X8_load.1) ∈ tblG := tG5 (i := 79) (by decide +kernel) (by decide +kernel)
theorem se_X8_load : Cond.selects m_X8_load.1.cls m_X8_load.1 m_X8_load.1 ∈ tblG := tG5 (i := 80) (by decide +kernel) (by decide +kernel)
theorem cw_X8_seats : cwOf m_X8_seats ∈ tblG := tG5 (i := 228) (by decide +kernel) (by decide +kernel)
theorem mk_X8_seats : MK m_X8_seats 0 := ⟨cw_X8_seats, tG1 (i := 9) (by decide +kernel) (by decide +kernel), rfl, by decide +kernel⟩
theorem im_X8_seats : Cond.instanceMethod (m_X8_seats.1) ∈ tblG := tG5 (i := 227) (by decide +kernel) (by decide +kernel)
theorem se_X8_seats : Cond.selects m_X8_seats.1.cls m_X8_seats.1 m_X8_seats.1 ∈ tblG := tGs (i := 63) (by decide +kernel) (by decide +kernel)
theorem cw_X8_left : cwOf m_X8_left ∈ tblG := tG5 (i := 232) (by decide +kernel) (by decide +kernel)
theorem mk_X8_left : MK m_X8_left 0 := ⟨cw_X8_left, tG1 (i := 9) (by decide +kernel) (by decide +kernel), rfl, by decide +kernel⟩
theorem im_X8_left : Cond.instanceMethod (m_X8_left.1) ∈ tblG := tG5 (i := 231) (by decide +kernel) (by decide +kernel)
theorem se_X8_left : Cond.selects m_X8_left.1.cls m_X8_left.1 m_X8_left.1 ∈ tblG := tGs (i := 64) (by decide +kernel) (by decide +kernel)
theorem cw_X8_tells : cwOf m_X8_tells ∈ tblG := tG5 (i := 224) (by decide +kernel) (by decide +kernel)
theorem mk_X8_tells : MK m_X8_tells 1 := ⟨cw_X8_tells, tG1 (i := 9) (by decide +kernel) (by decide +kernel), rfl, by decide +kernel⟩
theorem im_X8_tells : Cond.instanceMethod (m_X8_tells.1) ∈ tblG := tG5 (i := 223) (by decide +kernel) (by decide +kernel)
theorem se_X8_tells : Cond.selects m_X8_tells.1.cls m_X8_tells.1 m_X8_tells.1 ∈ tblG := tGs (i := 62) (by decide +kernel) (by decide +kernel)
theorem cw_X8_about : cwOf m_X8_about ∈ tblG := tG5 (i := 220) (by decide +kernel) (by decide +kernel)
theorem mk_X8_about : MK m_X8_about 1 := ⟨cw_X8_about, tG1 (i := 9) (by decide +kernel) (by decide +kernel), rfl, by decide +kernel⟩
theorem im_X8_about : Cond.instanceMethod (m_X8_about.1) ∈ tblG := tG5 (i := 218) (by decide +kernel) (by decide +kernel)
theorem se_X8_about : Cond.selects m_X8_about.1.cls m_X8_about.1 m_X8_about.1 ∈ tblG := tG5 (i := 219) (by decide +kernel) (by decide +kernel)
theorem cw_X8_classes : cwOf m_X8_classes ∈ tblG := tG6 (i := 0) (by decide +kernel) (by decide +kernel)
theorem mk_X8_classes : MK m_X8_classes 2 := ⟨cw_X8_classes, tG1 (i := 9) (by decide +kernel) (by decide +kernel), rfl, by decide +kernel⟩
theorem im_X8_classes : Cond.instanceMethod (m_X8_classes.1) ∈ tblG := tG5 (i := 239) (by decide +kernel) (by decide +kernel)
theorem se_X8_classes : Cond.selects m_X8_classes.1.cls m_X8_classes.1 m_X8_classes.1 ∈ tblG := tGs (i := 65) (by decide +kernel) (by decide +kernel)
theorem cw_X8_floorOf : cwOf m_X8_floorOf ∈ tblG := tG5 (i := 236) (by decide +kernel) (by decide +kernel)
theorem mk_X8_floorOf : MK m_X8_floorOf 2 := ⟨cw_X8_floorOf, tG1 (i := 9) (by decide +kernel) (by decide +kernel), rfl, by decide +kernel⟩
theorem im_X8_floorOf : Cond.instanceMethod (m_X8_floorOf.1) ∈ tblG := tG5 (i := 234) (by decide +kernel) (by decide +kernel)
theorem se_X8_floorOf : Cond.selects m_X8_floorOf.1.cls m_X8_floorOf.1 m_X8_floorOf.1 ∈ tblG := tG5 (i := 235) (by decide +kernel) (by decide +kernel)
theorem cw_X8_daysOf : cwOf m_X8_daysOf ∈ tblG := tG6 (i := 8) (by decide +kernel) (by decide +kernel)
theorem mk_X8_daysOf : MK m_X8_daysOf 1 := ⟨cw_X8_daysOf, tG1 (i := 9) (by decide +kernel) (by decide +kernel), rfl, by decide +kernel⟩
theorem im_X8_daysOf : Cond.instanceMethod (m_X8_daysOf.1) ∈ tblG := tG6 (i := 7) (by decide +kernel) (by decide +kernel)
theorem se_X8_daysOf : Cond.selects m_X8_daysOf.1.cls m_X8_daysOf.1 m_X8_daysOf.1 ∈ tblG := tGs (i := 66) (by decide +kernel) (by decide +kernel)
theorem cw_X8_teacherOf : cwOf m_X8_teacherOf ∈ tblG := tG6 (i := 4) (by decide +kernel) (by decide +kernel)
theorem mk_X8_teacherOf : MK m_X8_teacherOf 2 := ⟨cw_X8_teacherOf, tG1 (i := 9) (by decide +kernel) (by decide +kernel), rfl, by decide +kernel⟩
theorem im_X8_teacherOf : Cond.instanceMethod (m_X8_teacherOf.1) ∈ tblG := tG6 (i := 2) (by decide +kernel) (by decide +kernel)
theorem se_X8_teacherOf : Cond.selects m_X8_teacherOf.1.cls m_X8_teacherOf.1 m_X8_teacherOf.1 ∈ tblG := tG6 (i := 3) (by decide +kernel) (by decide +kernel)
theorem cw_X8_classOf : cwOf m_X8_classOf ∈ tblG := tG6 (i := 12) (by decide +kernel) (by decide +kernel)
theorem mk_X8_classOf : MK m_X8_classOf 2 := ⟨cw_X8_classOf, tG1 (i := 9) (by decide +kernel) (by decide +kernel), rfl, by decide +kernel⟩
theorem im_X8_classOf : Cond.instanceMethod (m_X8_classOf.1) ∈ tblG := tG6 (i := 10) (by decide +kernel) (by decide +kernel)
theorem se_X8_classOf : Cond.selects m_X8_classOf.1.cls m_X8_classOf.1 m_X8_classOf.1 ∈ tblG := tG6 (i := 11) (by decide +kernel) (by decide +kernel)
theorem cw_X8_seatsOf : cwOf m_X8_seatsOf ∈ tblG := tG6 (i := 20) (by decide +kernel) (by decide +kernel)
theorem mk_X8_seatsOf : MK m_X8_seatsOf 1 := ⟨cw_X8_seatsOf, tG1 (i := 9) (by decide +kernel) (by decide +kernel), rfl, by decide +kernel⟩
theorem im_X8_seatsOf : Cond.instanceMethod (m_X8_seatsOf.1) ∈ tblG := tG6 (i := 19) (by decide +kernel) (by decide +kernel)
theorem se_X8_seatsOf : Cond.selects m_X8_seatsOf.1.cls m_X8_seatsOf.1 m_X8_seatsOf.1 ∈ tblG := tGs (i := 67) (by decide +kernel) (by decide +kernel)
theorem cw_X8_dancerOf : cwOf m_X8_dancerOf ∈ tblG := tG6 (i := 16) (by decide +kernel) (by decide +kernel)
theorem mk_X8_dancerOf : MK m_X8_dancerOf 2 := ⟨cw_X8_dancerOf, tG1 (i := 9) (by decide +kernel) (by decide +kernel), rfl, by decide +kernel⟩
theorem im_X8_dancerOf : Cond.instanceMethod (m_X8_dancerOf.1) ∈ tblG := tG6 (i := 14) (by decide +kernel) (by decide +kernel)
theorem se_X8_dancerOf : Cond.selects m_X8_dancerOf.1.cls m_X8_dancerOf.1 m_X8_dancerOf.1 ∈ tblG := tG6 (i := 15) (by decide +kernel) (by decide +kernel)
theorem cw_X8_uses : cwOf m_X8_uses ∈ tblG := tG6 (i := 24) (by decide +kernel) (by decide +kernel)
theorem mk_X8_uses : MK m_X8_uses 1 := ⟨cw_X8_uses, tG1 (i := 9) (by decide +kernel) (by decide +kernel), rfl, by decide +kernel⟩
theorem im_X8_uses : Cond.instanceMethod (m_X8_uses.1) ∈ tblG := tG6 (i := 22) (by decide +kernel) (by decide +kernel)
theorem se_X8_uses : Cond.selects m_X8_uses.1.cls m_X8_uses.1 m_X8_uses.1 ∈ tblG := tG6 (i := 23) (by decide +kernel) (by decide +kernel)
theorem cw_X8_setting : cwOf m_X8_setting ∈ tblG := tG6 (i := 28) (by decide +kernel) (by decide +kernel)
theorem mk_X8_setting : MK m_X8_setting 1 := ⟨cw_X8_setting, tG1 (i := 9) (by decide +kernel) (by decide +kernel), rfl, by decide +kernel⟩
theorem im_X8_setting : Cond.instanceMethod (m_X8_setting.1) ∈ tblG := tG6 (i := 26) (by decide +kernel) (by decide +kernel)
theorem se_X8_setting : Cond.selects m_X8_setting.1.cls m_X8_setting.1 m_X8_setting.1 ∈ tblG := tG6 (i := 27) (by decide +kernel) (by decide +kernel)
theorem cw_X8_isFloorLike : cwOf m_X8_isFloorLike ∈ tblG := tG6 (i := 35) (by decide +kernel) (by decide +kernel)
theorem mk_X8_isFloorLike : MK m_X8_isFloorLike 4 := ⟨cw_X8_isFloorLike, tG1 (i := 9) (by decide +kernel) (by decide +kernel), rfl, by decide +kernel⟩
theorem sm_X8_isFloorLike : Cond.static (m_X8_isFloorLike.1) ∈ tblG := tG6 (i := 34) (by decide +kernel) (by decide +kernel)
theorem cw_X8_floor : cwOf m_X8_floor ∈ tblG := tG6 (i := 32) (by decide +kernel) (by decide +kernel)
theorem mk_X8_floor : MK m_X8_floor 4 := ⟨cw_X8_floor, tG1 (i := 9) (by decide +kernel) (by decide +kernel), rfl, by decide +kernel⟩
theorem im_X8_floor : Cond.instanceMethod (m_X8_floor.1) ∈ tblG := tG6 (i := 30) (by decide +kernel) (by decide +kernel)
theorem se_X8_floor : Cond.selects m_X8_floor.1.cls m_X8_floor.1 m_X8_floor.1 ∈ tblG := tG6 (i := 31) (by decide +kernel) (by decide +kernel)
theorem cw_X8_teacher : cwOf m_X8_teacher ∈ tblG := tG6 (i := 47) (by decide +kernel) (by decide +kernel)
theorem mk_X8_teacher : MK m_X8_teacher 2 := ⟨cw_X8_teacher, tG1 (i := 9) (by decide +kernel) (by decide +kernel), rfl, by decide +kernel⟩
theorem im_X8_teacher : Cond.instanceMethod (m_X8_teacher.1) ∈ tblG := tG6 (i := 45) (by decide +kernel) (by decide +kernel)
theorem se_X8_teacher : Cond.selects m_X8_teacher.1.cls m_X8_teacher.1 m_X8_teacher.1 ∈ tblG := tG6 (i := 46) (by decide +kernel) (by decide +kernel)
theorem cw_X8_isTime : cwOf m_X8_isTime ∈ tblG := tG6 (i := 54) (by decide +kernel) (by decide +kernel)
theorem mk_X8_isTime : MK m_X8_isTime 4 := ⟨cw_X8_isTime, tG1 (i := 9) (by decide +kernel) (by decide +kernel), rfl, by decide +kernel⟩
theorem sm_X8_isTime : Cond.static (m_X8_isTime.1) ∈ tblG := tG6 (i := 53) (by decide +kernel) (by decide +kernel)
theorem cw_X8_triesClass : cwOf m_X8_triesClass ∈ tblG := tG6 (i := 58) (by decide +kernel) (by decide +kernel)
theorem mk_X8_triesClass : MK m_X8_triesClass 6 := ⟨cw_X8_triesClass, tG1 (i := 9) (by decide +kernel) (by decide +kernel), rfl, by decide +kernel⟩
theorem im_X8_triesClass : Cond.instanceMethod (m_X8_triesClass.1) ∈ tblG := tG6 (i := 57) (by decide +kernel) (by decide +kernel)
theorem se_X8_triesClass : Cond.selects m_X8_triesClass.1.cls m_X8_triesClass.1 m_X8_triesClass.1 ∈ tblG := tGs (i := 70) (by decide +kernel) (by decide +kernel)
theorem cw_X8_triesSeat : cwOf m_X8_triesSeat ∈ tblG := tG6 (i := 78) (by decide +kernel) (by decide +kernel)
theorem mk_X8_triesSeat : MK m_X8_triesSeat 2 := ⟨cw_X8_triesSeat, tG1 (i := 9) (by decide +kernel) (by decide +kernel), rfl, by decide +kernel⟩
theorem im_X8_triesSeat : Cond.instanceMethod (m_X8_triesSeat.1) ∈ tblG := tG6 (i := 77) (by decide +kernel) (by decide +kernel)
theorem se_X8_triesSeat : Cond.selects m_X8_triesSeat.1.cls m_X8_triesSeat.1 m_X8_triesSeat.1 ∈ tblG := tGs (i := 71) (by decide +kernel) (by decide +kernel)
theorem cw_X8_set : cwOf m_X8_set ∈ tblG := tG6 (i := 51) (by decide +kernel) (by decide +kernel)
theorem mk_X8_set : MK m_X8_set 6 := ⟨cw_X8_set, tG1 (i := 9) (by decide +kernel) (by decide +kernel), rfl, by decide +kernel⟩
theorem im_X8_set : Cond.instanceMethod (m_X8_set.1) ∈ tblG := tG6 (i := 49) (by decide +kernel) (by decide +kernel)
theorem se_X8_set : Cond.selects m_X8_set.1.cls m_X8_set.1 m_X8_set.1 ∈ tblG := tG6 (i := 50) (by decide +kernel) (by decide +kernel)
theorem cw_X8_drop : cwOf m_X8_drop ∈ tblG := tG6 (i := 62) (by decide +kernel) (by decide +kernel)
theorem mk_X8_drop : MK m_X8_drop 1 := ⟨cw_X8_drop, tG1 (i := 9) (by decide +kernel) (by decide +kernel), rfl, by decide +kernel⟩
theorem im_X8_drop : Cond.instanceMethod (m_X8_drop.1) ∈ tblG := tG6 (i := 60) (by decide +kernel) (by decide +kernel)
theorem se_X8_drop : Cond.selects m_X8_drop.1.cls m_X8_drop.1 m_X8_drop.1 ∈ tblG := tG6 (i := 61) (by decide +kernel) (by decide +kernel)
theorem cw_X8_dancer : cwOf m_X8_dancer ∈ tblG := tG6 (i := 66) (by decide +kernel) (by decide +kernel)
theorem mk_X8_dancer : MK m_X8_dancer 0 := ⟨cw_X8_dancer, tG1 (i := 9) (by decide +kernel) (by decide +kernel), rfl, by decide +kernel⟩
theorem im_X8_dancer : Cond.instanceMethod (m_X8_dancer.1) ∈ tblG := tG6 (i := 64) (by decide +kernel) (by decide +kernel)
theorem se_X8_dancer : Cond.selects m_X8_dancer.1.cls m_X8_dancer.1 m_X8_dancer.1 ∈ tblG := tG6 (i := 65) (by decide +kernel) (by decide +kernel)
theorem cw_X8_pass : cwOf m_X8_pass ∈ tblG := tG6 (i := 70) (by decide +kernel) (by decide +kernel)
theorem mk_X8_pass : MK m_X8_pass 1 := ⟨cw_X8_pass, tG1 (i := 9) (by decide +kernel) (by decide +kernel), rfl, by decide +kernel⟩
theorem im_X8_pass : Cond.instanceMethod (m_X8_pass.1) ∈ tblG := tG6 (i := 68) (by decide +kernel) (by decide +kernel)
theorem se_X8_pass : Cond.selects m_X8_pass.1.cls m_X8_pass.1 m_X8_pass.1 ∈ tblG := tG6 (i := 69) (by decide +kernel) (by decide +kernel)
theorem cw_X8_enter : cwOf m_X8_enter ∈ tblG := tG6 (i := 74) (by decide +kernel) (by decide +kernel)
theorem mk_X8_enter : MK m_X8_enter 2 := ⟨cw_X8_enter, tG1 (i := 9) (by decide +kernel) (by decide +kernel), rfl, by decide +kernel⟩
theorem im_X8_enter : Cond.instanceMethod (m_X8_enter.1) ∈ tblG := tG6 (i := 72) (by decide +kernel) (by decide +kernel)
theorem se_X8_enter : Cond.selects m_X8_enter.1.cls m_X8_enter.1 m_X8_enter.1 ∈ tblG := tG6 (i := 73) (by decide +kernel) (by decide +kernel)
theorem cw_X8_leave : cwOf m_X8_leave ∈ tblG := tG6 (i := 82) (by decide +kernel) (by decide +kernel)
theorem mk_X8_leave : MK m_X8_leave 2 := ⟨cw_X8_leave, tG1 (i := 9) (by decide +kernel) (by decide +kernel), rfl, by decide +kernel⟩
theorem im_X8_leave : Cond.instanceMethod (m_X8_leave.1) ∈ tblG := tG6 (i := 80) (by decide +kernel) (by decide +kernel)
theorem se_X8_leave : Cond.selects m_X8_leave.1.cls m_X8_leave.1 m_X8_leave.1 ∈ tblG := tG6 (i := 81) (by decide +kernel) (by decide +kernel)
theorem cw_X8_weeks : cwOf m_X8_weeks ∈ tblG := tG6 (i := 86) (by decide +kernel) (by decide +kernel)
theorem mk_X8_weeks : MK m_X8_weeks 1 := ⟨cw_X8_weeks, tG1 (i := 9) (by decide +kernel) (by decide +kernel), rfl, by decide +kernel⟩
theorem im_X8_weeks : Cond.instanceMethod (m_X8_weeks.1) ∈ tblG := tG6 (i := 84) (by decide +kernel) (by decide +kernel)
theorem se_X8_weeks : Cond.selects m_X8_weeks.1.cls m_X8_weeks.1 m_X8_weeks.1 ∈ tblG := tG6 (i := 85) (by decide +kernel) (by decide +kernel)
theorem cw_X8_tune : cwOf m_X8_tune ∈ tblG := tG6 (i := 90) (by decide +kernel) (by decide +kernel)
theorem mk_X8_tune : MK m_X8_tune 2 := ⟨cw_X8_tune, tG1 (i := 9) (by decide +kernel) (by decide +kernel), rfl, by decide +kernel⟩
theorem im_X8_tune : Cond.instanceMethod (m_X8_tune.1) ∈ tblG := tG6 (i := 88) (by decide +kernel) (by decide +kernel)
theorem se_X8_tune : Cond.selects m_X8_tune.1.cls m_X8_tune.1 m_X8_tune.1 ∈ tblG := tG6 (i := 89) (by decide +kernel) (by decide +kernel)
theorem cw_X8_undo : cwOf m_X8_undo ∈ tblG := tG6 (i := 94) (by decide +kernel) (by decide +kernel)
theorem mk_X8_undo : MK m_X8_undo 0 := ⟨cw_X8_undo, tG1 (i := 9) (by decide +kernel) (by decide +kernel), rfl, by decide +kernel⟩
theorem im_X8_undo : Cond.instanceMethod (m_X8_undo.1) ∈ tblG := tG6 (i := 92) (by decide +kernel) (by decide +kernel)
theorem se_X8_undo : Cond.selects m_X8_undo.1.cls m_X8_undo.1 m_X8_undo.1 ∈ tblG := tG6 (i := 93) (by decide +kernel) (by decide +kernel)
theorem cw_X8_why : cwOf m_X8_why ∈ tblG := tG6 (i := 98) (by decide +kernel) (by decide +kernel)
theorem mk_X8_why : MK m_X8_why 6 := ⟨cw_X8_why, tG1 (i := 9) (by decide +kernel) (by decide +kernel), rfl, by decide +kernel⟩
theorem im_X8_why : Cond.instanceMethod (m_X8_why.1) ∈ tblG := tG6 (i := 96) (by decide +kernel) (by decide +kernel)
theorem se_X8_why : Cond.selects m_X8_why.1.cls m_X8_why.1 m_X8_why.1 ∈ tblG := tG6 (i := 97) (by decide +kernel) (by decide +kernel)
theorem cw_X8_whySeat : cwOf m_X8_whySeat ∈ tblG := tG6 (i := 102) (by decide +kernel) (by decide +kernel)
theorem mk_X8_whySeat : MK m_X8_whySeat 2 := ⟨cw_X8_whySeat, tG1 (i := 9) (by decide +kernel) (by decide +kernel), rfl, by decide +kernel⟩
theorem im_X8_whySeat : Cond.instanceMethod (m_X8_whySeat.1) ∈ tblG := tG6 (i := 100) (by decide +kernel) (by decide +kernel)
theorem se_X8_whySeat : Cond.selects m_X8_whySeat.1.cls m_X8_whySeat.1 m_X8_whySeat.1 ∈ tblG := tG6 (i := 101) (by decide +kernel) (by decide +kernel)
theorem cw_X8_bestFloor : cwOf m_X8_bestFloor ∈ tblG := tG6 (i := 106) (by decide +kernel) (by decide +kernel)
theorem mk_X8_bestFloor : MK m_X8_bestFloor 5 := ⟨cw_X8_bestFloor, tG1 (i := 9) (by decide +kernel) (by decide +kernel), rfl, by decide +kernel⟩
theorem im_X8_bestFloor : Cond.instanceMethod (m_X8_bestFloor.1) ∈ tblG := tG6 (i := 104) (by decide +kernel) (by decide +kernel)
theorem se_X8_bestFloor : Cond.selects m_X8_bestFloor.1.cls m_X8_bestFloor.1 m_X8_bestFloor.1 ∈ tblG := tG6 (i := 105) (by decide +kernel) (by decide +kernel)
theorem cw_X8_emptyIn : cwOf m_X8_emptyIn ∈ tblG := tG6 (i := 110) (by decide +kernel) (by decide +kernel)
theorem mk_X8_emptyIn : MK m_X8_emptyIn 1 := ⟨cw_X8_emptyIn, tG1 (i := 9) (by decide +kernel) (by decide +kernel), rfl, by decide +kernel⟩
theorem im_X8_emptyIn : Cond.instanceMethod (m_X8_emptyIn.1) ∈ tblG := tG6 (i := 108) (by decide +kernel) (by decide +kernel)
theorem se_X8_emptyIn : Cond.selects m_X8_emptyIn.1.cls m_X8_emptyIn.1 m_X8_emptyIn.1 ∈ tblG := tG6 (i := 109) (by decide +kernel) (by decide +kernel)
theorem cw_X8_held : cwOf m_X8_held ∈ tblG := tG6 (i := 114) (by decide +kernel) (by decide +kernel)
theorem mk_X8_held : MK m_X8_held 0 := ⟨cw_X8_held, tG1 (i := 9) (by decide +kernel) (by decide +kernel), rfl, by decide +kernel⟩
theorem im_X8_held : Cond.instanceMethod (m_X8_held.1) ∈ tblG := tG6 (i := 112) (by decide +kernel) (by decide +kernel)
theorem se_X8_held : Cond.selects m_X8_held.1.cls m_X8_held.1 m_X8_held.1 ∈ tblG := tG6 (i := 113) (by decide +kernel) (by decide +kernel)
theorem cw_X8_isCommand : cwOf m_X8_isCommand ∈ tblG := tG6 (i := 128) (by decide +kernel) (by decide +kernel)
theorem mk_X8_isCommand : MK m_X8_isCommand 1 := ⟨cw_X8_isCommand, tG1 (i := 9) (by decide +kernel) (by decide +kernel), rfl, by decide +kernel⟩
theorem im_X8_isCommand : Cond.instanceMethod (m_X8_isCommand.1) ∈ tblG := tG6 (i := 127) (by decide +kernel) (by decide +kernel)
theorem se_X8_isCommand : Cond.selects m_X8_isCommand.1.cls m_X8_isCommand.1 m_X8_isCommand.1 ∈ tblG := tGs (i := 72) (by decide +kernel) (by decide +kernel)
theorem cw_X8_size : cwOf m_X8_size ∈ tblG := tG6 (i := 121) (by decide +kernel) (by decide +kernel)
theorem mk_X8_size : MK m_X8_size 1 := ⟨cw_X8_size, tG1 (i := 9) (by decide +kernel) (by decide +kernel), rfl, by decide +kernel⟩
theorem sm_X8_size : Cond.static (m_X8_size.1) ∈ tblG := tG6 (i := 120) (by decide +kernel) (by decide +kernel)
theorem cw_X8_runScript : cwOf m_X8_runScript ∈ tblG := tG6 (i := 118) (by decide +kernel) (by decide +kernel)
theorem mk_X8_runScript : MK m_X8_runScript 2 := ⟨cw_X8_runScript, tG1 (i := 9) (by decide +kernel) (by decide +kernel), rfl, by decide +kernel⟩
theorem im_X8_runScript : Cond.instanceMethod (m_X8_runScript.1) ∈ tblG := tG6 (i := 116) (by decide +kernel) (by decide +kernel)
theorem se_X8_runScript : Cond.selects m_X8_runScript.1.cls m_X8_runScript.1 m_X8_runScript.1 ∈ tblG := tG6 (i := 117) (by decide +kernel) (by decide +kernel)
theorem cw_X8_turns : cwOf m_X8_turns ∈ tblG := tG6 (i := 138) (by decide +kernel) (by decide +kernel)
theorem mk_X8_turns : MK m_X8_turns 2 := ⟨cw_X8_turns, tG1 (i := 9) (by decide +kernel) (by decide +kernel), rfl, by decide +kernel⟩
theorem im_X8_turns : Cond.instanceMethod (m_X8_turns.1) ∈ tblG := tG6 (i := 137) (by decide +kernel) (by decide +kernel)
theorem se_X8_turns : Cond.selects m_X8_turns.1.cls m_X8_turns.1 m_X8_turns.1 ∈ tblG := tGs (i := 73) (by decide +kernel) (by decide +kernel)
theorem cw_X8_dancersTurn : cwOf m_X8_dancersTurn ∈ tblG := tG6 (i := 142) (by decide +kernel) (by decide +kernel)
theorem mk_X8_dancersTurn : MK m_X8_dancersTurn 2 := ⟨cw_X8_dancersTurn, tG1 (i := 9) (by decide +kernel) (by decide +kernel), rfl, by decide +kernel⟩
theorem im_X8_dancersTurn : Cond.instanceMethod (m_X8_dancersTurn.1) ∈ tblG := tG6 (i := 141) (by decide +kernel) (by decide +kernel)
theorem se_X8_dancersTurn : Cond.selects m_X8_dancersTurn.1.cls m_X8_dancersTurn.1 m_X8_dancersTurn.1 ∈ tblG := tGs (i := 74) (by decide +kernel) (by decide +kernel)
theorem cw_X8_simulate : cwOf m_X8_simulate ∈ tblG := tG6 (i := 132) (by decide +kernel) (by decide +kernel)
theorem mk_X8_simulate : MK m_X8_simulate 2 := ⟨cw_X8_simulate, tG1 (i := 9) (by decide +kernel) (by decide +kernel), rfl, by decide +kernel⟩
theorem im_X8_simulate : Cond.instanceMethod (m_X8_simulate.1) ∈ tblG := tG6 (i := 130) (by decide +kernel) (by decide +kernel)
theorem se_X8_simulate : Cond.selects m_X8_simulate.1.cls m_X8_simulate.1 m_X8_simulate.1 ∈ tblG := tG6 (i := 131) (by decide +kernel) (by decide +kernel)
theorem cw_X8_save : cwOf m_X8_save ∈ tblG := tG6 (i := 146) (by decide +kernel) (by decide +kernel)
theorem mk_X8_save : MK m_X8_save 1 := ⟨cw_X8_save, tG1 (i := 9) (by decide +kernel) (by decide +kernel), rfl, by decide +kernel⟩
theorem im_X8_save : Cond.instanceMethod (m_X8_save.1) ∈ tblG := tG6 (i := 144) (by decide +kernel) (by decide +kernel)
theorem se_X8_save : Cond.selects m_X8_save.1.cls m_X8_save.1 m_X8_save.1 ∈ tblG := tG6 (i := 145) (by decide +kernel) (by decide +kernel)
theorem cw_X8_restore : cwOf m_X8_restore ∈ tblG := tG6 (i := 150) (by decide +kernel) (by decide +kernel)
theorem mk_X8_restore : MK m_X8_restore 1 := ⟨cw_X8_restore, tG1 (i := 9) (by decide +kernel) (by decide +kernel), rfl, by decide +kernel⟩
theorem im_X8_restore : Cond.instanceMethod (m_X8_restore.1) ∈ tblG := tG6 (i := 148) (by decide +kernel) (by decide +kernel)
theorem se_X8_restore : Cond.selects m_X8_restore.1.cls m_X8_restore.1 m_X8_restore.1 ∈ tblG := tG6 (i := 149) (by decide +kernel) (by decide +kernel)
theorem cw_J6_bitCount_0f7a4 : cwOf m_J6_bitCount_0f7a4 ∈ tblG := tG2 (i := 163) (by decide +kernel) (by decide +kernel)
theorem mk_J6_bitCount_0f7a4 : MK m_J6_bitCount_0f7a4 1 := ⟨cw_J6_bitCount_0f7a4, tG1 (i := 16) (by decide +kernel) (by decide +kernel), rfl, by decide +kernel⟩
theorem sm_J6_bitCount_0f7a4 : Cond.static (m_J6_bitCount_0f7a4.1) ∈ tblG := tG2 (i := 162) (by decide +kernel) (by decide +kernel)
theorem cw_J9_max_7cf53 : cwOf m_J9_max_7cf53 ∈ tblG := tG2 (i := 97) (by decide +kernel) (by decide +kernel)
theorem mk_J9_max_7cf53 : MK m_J9_max_7cf53 2 := ⟨cw_J9_max_7cf53, tG1 (i := 15) (by decide +kernel) (by decide +kernel), rfl, by decide +kernel⟩
theorem sm_J9_max_7cf53 : Cond.static (m_J9_max_7cf53.1) ∈ tblG := tG2 (i := 96) (by decide +kernel) (by decide +kernel)
theorem cw_J9_min_7cf53 : cwOf m_J9_min_7cf53 ∈ tblG := tG2 (i := 100) (by decide +kernel) (by decide +kernel)
theorem mk_J9_min_7cf53 : MK m_J9_min_7cf53 2 := ⟨cw_J9_min_7cf53, tG1 (i := 15) (by decide +kernel) (by decide +kernel), rfl, by decide +kernel⟩
theorem sm_J9_min_7cf53 : Cond.static (m_J9_min_7cf53.1) ∈ tblG := tG2 (i := 99) (by decide +kernel) (by decide +kernel)
theorem cw_L_append : cwOf m_L_append ∈ tblG := tG2 (i := 177) (by decide +kernel) (by decide +kernel)
theorem sm_L_append : Cond.static (m_L_append.1) ∈ tblG := tG2 (i := 176) (by decide +kernel) (by decide +kernel)
theorem cw_L_load : cwOf m_L_load ∈ tblG := tG3 (i := 41) (by decide +kernel) (by decide +kernel)
theorem sm_L_load : Cond.static (m_L_load.1) ∈ tblG := tG3 (i := 40) (by decide +kernel) (by decide +kernel)
theorem cw_L_about : cwOf m_L_about ∈ tblG := tG3 (i := 179) (by decide +kernel) (by decide +kernel)
theorem sm_L_about : Cond.static (m_L_about.1) ∈ tblG := tG3 (i := 178) (by decide +kernel) (by decide +kernel)
theorem cw_L_floorOf : cwOf m_L_floorOf ∈ tblG := tG3 (i := 207) (by decide +kernel) (by decide +kernel)
theorem sm_L_floorOf : Cond.static (m_L_floorOf.1) ∈ tblG := tG3 (i := 206) (by decide +kernel) (by decide +kernel)
theorem cw_L_teacherOf : cwOf m_L_teacherOf ∈ tblG := tG3 (i := 239) (by decide +kernel) (by decide +kernel)
theorem sm_L_teacherOf : Cond.static (m_L_teacherOf.1) ∈ tblG := tG3 (i := 238) (by decide +kernel) (by decide +kernel)
theorem cw_L_classOf : cwOf m_L_classOf ∈ tblG := tG4 (i := 15) (by decide +kernel) (by decide +kernel)
theorem sm_L_classOf : Cond.static (m_L_classOf.1) ∈ tblG := tG4 (i := 14) (by decide +kernel) (by decide +kernel)
theorem cw_L_dancerOf : cwOf m_L_dancerOf ∈ tblG := tG4 (i := 25) (by decide +kernel) (by decide +kernel)
theorem sm_L_dancerOf : Cond.static (m_L_dancerOf.1) ∈ tblG := tG4 (i := 24) (by decide +kernel) (by decide +kernel)
theorem cw_L_uses : cwOf m_L_uses ∈ tblG := tG4 (i := 38) (by decide +kernel) (by decide +kernel)
theorem sm_L_uses : Cond.static (m_L_uses.1) ∈ tblG := tG4 (i := 37) (by decide +kernel) (by decide +kernel)
theorem cw_L_setting : cwOf m_L_setting ∈ tblG := tG4 (i := 49) (by decide +kernel) (by decide +kernel)
theorem sm_L_setting : Cond.static (m_L_setting.1) ∈ tblG := tG4 (i := 48) (by decide +kernel) (by decide +kernel)
theorem cw_L_floor : cwOf m_L_floor ∈ tblG := tG4 (i := 56) (by decide +kernel) (by decide +kernel)
theorem sm_L_floor : Cond.static (m_L_floor.1) ∈ tblG := tG4 (i := 55) (by decide +kernel) (by decide +kernel)
theorem cw_L_teacher : cwOf m_L_teacher ∈ tblG := tG4 (i := 68) (by decide +kernel) (by decide +kernel)
theorem sm_L_teacher : Cond.static (m_L_teacher.1) ∈ tblG := tG4 (i := 67) (by decide +kernel) (by decide +kernel)
theorem cw_L_set : cwOf m_L_set ∈ tblG := tG4 (i := 75) (by decide +kernel) (by decide +kernel)
theorem sm_L_set : Cond.static (m_L_set.1) ∈ tblG := tG4 (i := 74) (by decide +kernel) (by decide +kernel)
theorem cw_L_drop : cwOf m_L_drop ∈ tblG := tG4 (i := 89) (by decide +kernel) (by decide +kernel)
theorem sm_L_drop : Cond.static (m_L_drop.1) ∈ tblG := tG4 (i := 88) (by decide +kernel) (by decide +kernel)
theorem cw_L_dancer : cwOf m_L_dancer ∈ tblG := tG4 (i := 96) (by decide +kernel) (by decide +kernel)
theorem sm_L_dancer : Cond.static (m_L_dancer.1) ∈ tblG := tG4 (i := 95) (by decide +kernel) (by decide +kernel)
theorem cw_L_pass : cwOf m_L_pass ∈ tblG := tG4 (i := 103) (by decide +kernel) (by decide +kernel)
theorem sm_L_pass : Cond.static (m_L_pass.1) ∈ tblG := tG4 (i := 102) (by decide +kernel) (by decide +kernel)
theorem cw_L_enter : cwOf m_L_enter ∈ tblG := tG4 (i := 111) (by decide +kernel) (by decide +kernel)
theorem sm_L_enter : Cond.static (m_L_enter.1) ∈ tblG := tG4 (i := 110) (by decide +kernel) (by decide +kernel)
theorem cw_L_leave : cwOf m_L_leave ∈ tblG := tG4 (i := 118) (by decide +kernel) (by decide +kernel)
theorem sm_L_leave : Cond.static (m_L_leave.1) ∈ tblG := tG4 (i := 117) (by decide +kernel) (by decide +kernel)
theorem cw_L_weeks : cwOf m_L_weeks ∈ tblG := tG4 (i := 126) (by decide +kernel) (by decide +kernel)
theorem sm_L_weeks : Cond.static (m_L_weeks.1) ∈ tblG := tG4 (i := 125) (by decide +kernel) (by decide +kernel)
theorem cw_L_tune : cwOf m_L_tune ∈ tblG := tG4 (i := 133) (by decide +kernel) (by decide +kernel)
theorem sm_L_tune : Cond.static (m_L_tune.1) ∈ tblG := tG4 (i := 132) (by decide +kernel) (by decide +kernel)
theorem cw_L_undo : cwOf m_L_undo ∈ tblG := tG4 (i := 140) (by decide +kernel) (by decide +kernel)
theorem sm_L_undo : Cond.static (m_L_undo.1) ∈ tblG := tG4 (i := 139) (by decide +kernel) (by decide +kernel)
theorem cw_L_why : cwOf m_L_why ∈ tblG := tG4 (i := 151) (by decide +kernel) (by decide +kernel)
theorem sm_L_why : Cond.static (m_L_why.1) ∈ tblG := tG4 (i := 150) (by decide +kernel) (by decide +kernel)
theorem cw_L_whySeat : cwOf m_L_whySeat ∈ tblG := tG4 (i := 159) (by decide +kernel) (by decide +kernel)
theorem sm_L_whySeat : Cond.static (m_L_whySeat.1) ∈ tblG := tG4 (i := 158) (by decide +kernel) (by decide +kernel)
theorem cw_L_bestFloor : cwOf m_L_bestFloor ∈ tblG := tG4 (i := 167) (by decide +kernel) (by decide +kernel)
theorem sm_L_bestFloor : Cond.static (m_L_bestFloor.1) ∈ tblG := tG4 (i := 166) (by decide +kernel) (by decide +kernel)
theorem cw_L_emptyIn : cwOf m_L_emptyIn ∈ tblG := tG4 (i := 178) (by decide +kernel) (by decide +kernel)
theorem sm_L_emptyIn : Cond.static (m_L_emptyIn.1) ∈ tblG := tG4 (i := 177) (by decide +kernel) (by decide +kernel)
theorem cw_L_runScript : cwOf m_L_runScript ∈ tblG := tG4 (i := 185) (by decide +kernel) (by decide +kernel)
theorem sm_L_runScript : Cond.static (m_L_runScript.1) ∈ tblG := tG4 (i := 184) (by decide +kernel) (by decide +kernel)
theorem cw_L_simulate : cwOf m_L_simulate ∈ tblG := tG4 (i := 200) (by decide +kernel) (by decide +kernel)
theorem sm_L_simulate : Cond.static (m_L_simulate.1) ∈ tblG := tG4 (i := 199) (by decide +kernel) (by decide +kernel)
theorem cw_L_save : cwOf m_L_save ∈ tblG := tG4 (i := 217) (by decide +kernel) (by decide +kernel)
theorem sm_L_save : Cond.static (m_L_save.1) ∈ tblG := tG4 (i := 216) (by decide +kernel) (by decide +kernel)
theorem cw_L_restore : cwOf m_L_restore ∈ tblG := tG4 (i := 224) (by decide +kernel) (by decide +kernel)
theorem sm_L_restore : Cond.static (m_L_restore.1) ∈ tblG := tG4 (i := 223) (by decide +kernel) (by decide +kernel)
theorem ml_L_7 : Cond.methodLink RL 7 (m_X7_append.1) ∈ tblG := tG2 (i := 180) (by decide +kernel) (by decide +kernel)
theorem ml_L_17 : Cond.methodLink RL 17 (m_X7_load.1) ∈ tblG := tG3 (i := 42) (by decide +kernel) (by decide +kernel)
theorem ml_L_21 : Cond.methodLink RL 21 (m_X7_about.1) ∈ tblG := tG3 (i := 180) (by decide +kernel) (by decide +kernel)
theorem ml_L_24 : Cond.methodLink RL 24 (m_X7_floorOf.1) ∈ tblG := tG3 (i := 209) (by decide +kernel) (by decide +kernel)
theorem ml_L_30 : Cond.methodLink RL 30 (m_X7_teacherOf.1) ∈ tblG := tG4 (i := 0) (by decide +kernel) (by decide +kernel)
theorem ml_L_33 : Cond.methodLink RL 33 (m_X7_classOf.1) ∈ tblG := tG4 (i := 16) (by decide +kernel) (by decide +kernel)
theorem ml_L_36 : Cond.methodLink RL 36 (m_X7_dancerOf.1) ∈ tblG := tG4 (i := 26) (by decide +kernel) (by decide +kernel)
theorem ml_L_39 : Cond.methodLink RL 39 (m_X7_uses.1) ∈ tblG := tG4 (i := 39) (by decide +kernel) (by decide +kernel)
theorem ml_L_42 : Cond.methodLink RL 42 (m_X7_setting.1) ∈ tblG := tG4 (i := 50) (by decide +kernel) (by decide +kernel)
theorem ml_L_45 : Cond.methodLink RL 45 (m_X7_floor.1) ∈ tblG := tG4 (i := 57) (by decide +kernel) (by decide +kernel)
theorem ml_L_49 : Cond.methodLink RL 49 (m_X7_teacher.1) ∈ tblG := tG4 (i := 69) (by decide +kernel) (by decide +kernel)
theorem ml_L_52 : Cond.methodLink RL 52 (m_X7_set.1) ∈ tblG := tG4 (i := 76) (by decide +kernel) (by decide +kernel)
theorem ml_L_56 : Cond.methodLink RL 56 (m_X7_drop.1) ∈ tblG := tG4 (i := 90) (by decide +kernel) (by decide +kernel)
theorem ml_L_59 : Cond.methodLink RL 59 (m_X7_dancer.1) ∈ tblG := tG4 (i := 97) (by decide +kernel) (by decide +kernel)
theorem ml_L_62 : Cond.methodLink RL 62 (m_X7_pass.1) ∈ tblG := tG4 (i := 104) (by decide +kernel) (by decide +kernel)
theorem ml_L_65 : Cond.methodLink RL 65 (m_X7_enter.1) ∈ tblG := tG4 (i := 112) (by decide +kernel) (by decide +kernel)
theorem ml_L_68 : Cond.methodLink RL 68 (m_X7_leave.1) ∈ tblG := tG4 (i := 119) (by decide +kernel) (by decide +kernel)
theorem ml_L_71 : Cond.methodLink RL 71 (m_X7_weeks.1) ∈ tblG := tG4 (i := 127) (by decide +kernel) (by decide +kernel)
theorem ml_L_74 : Cond.methodLink RL 74 (m_X7_tune.1) ∈ tblG := tG4 (i := 134) (by decide +kernel) (by decide +kernel)
theorem ml_L_77 : Cond.methodLink RL 77 (m_X7_undo.1) ∈ tblG := tG4 (i := 141) (by decide +kernel) (by decide +kernel)
theorem ml_L_80 : Cond.methodLink RL 80 (m_X7_why.1) ∈ tblG := tG4 (i := 152) (by decide +kernel) (by decide +kernel)
theorem ml_L_83 : Cond.methodLink RL 83 (m_X7_whySeat.1) ∈ tblG := tG4 (i := 160) (by decide +kernel) (by decide +kernel)
theorem ml_L_86 : Cond.methodLink RL 86 (m_X7_bestFloor.1) ∈ tblG := tG4 (i := 168) (by decide +kernel) (by decide +kernel)
theorem ml_L_90 : Cond.methodLink RL 90 (m_X7_emptyIn.1) ∈ tblG := tG4 (i := 179) (by decide +kernel) (by decide +kernel)
theorem ml_L_93 : Cond.methodLink RL 93 (m_X7_runScript.1) ∈ tblG := tG4 (i := 186) (by decide +kernel) (by decide +kernel)
theorem ml_L_97 : Cond.methodLink RL 97 (m_X7_simulate.1) ∈ tblG := tG4 (i := 201) (by decide +kernel) (by decide +kernel)
theorem ml_L_101 : Cond.methodLink RL 101 (m_X7_save.1) ∈ tblG := tG4 (i := 218) (by decide +kernel) (by decide +kernel)
theorem ml_L_104 : Cond.methodLink RL 104 (m_X7_restore.1) ∈ tblG := tG4 (i := 225) (by decide +kernel) (by decide +kernel)
theorem ml_L_107 : Cond.methodLink RL 107 (m_X7_init.1) ∈ tblG := tG1 (i := 20) (by decide +kernel) (by decide +kernel)
theorem ml_L_110 : Cond.methodLink RL 110 (m_X8_init.1) ∈ tblG := tG4 (i := 231) (by decide +kernel) (by decide +kernel)
theorem ml_L_111 : Cond.methodLink RL 111 (m_L_append.1) ∈ tblG := tG2 (i := 175) (by decide +kernel) (by decide +kernel)
theorem ml_L_116 : Cond.methodLink RL 116 (m_X8_append.1) ∈ tblG := tG5 (i := 31) (by decide +kernel) (by decide +kernel)
theorem ml_L_117 : Cond.methodLink RL 117 (m_X8_thrown.1) ∈ tblG := tG5 (i := 27) (by decide +kernel) (by decide +kernel)
theorem ml_L_120 : Cond.methodLink RL 120 (m_X7_clearText.1) ∈ tblG := tG2 (i := 48) (by decide +kernel) (by decide +kernel)
theorem ml_L_123 : Cond.methodLink RL 123 (m_X8_clearText.1) ∈ tblG := tG5 (i := 42) (by decide +kernel) (by decide +kernel)
theorem ml_L_124 : Cond.methodLink RL 124 (m_X7_errorPosition.1) ∈ tblG := tG2 (i := 56) (by decide +kernel) (by decide +kernel)
theorem ml_L_127 : Cond.methodLink RL 127 (m_X8_errorPosition.1) ∈ tblG := tG5 (i := 46) (by decide +kernel) (by decide +kernel)
theorem ml_L_128 : Cond.methodLink RL 128 (m_L_load.1) ∈ tblG := tG3 (i := 39) (by decide +kernel) (by decide +kernel)
theorem ml_L_131 : Cond.methodLink RL 131 (m_X8_load.1) ∈ tblG := tG5 (i := 78) (by decide +kernel) (by decide +kernel)
theorem ml_L_132 : Cond.methodLink RL 132 (m_L_about.1) ∈ tblG := tG3 (i := 177) (by decide +kernel) (by decide +kernel)
theorem ml_L_134 : Cond.methodLink RL 134 (m_X8_about.1) ∈ tblG := tG5 (i := 217) (by decide +kernel) (by decide +kernel)
theorem ml_L_135 : Cond.methodLink RL 135 (m_L_floorOf.1) ∈ tblG := tG3 (i := 205) (by decide +kernel) (by decide +kernel)
theorem ml_L_138 : Cond.methodLink RL 138 (m_X8_floorOf.1) ∈ tblG := tG5 (i := 233) (by decide +kernel) (by decide +kernel)
theorem ml_L_139 : Cond.methodLink RL 139 (m_L_teacherOf.1) ∈ tblG := tG3 (i := 237) (by decide +kernel) (by decide +kernel)
theorem ml_L_141 : Cond.methodLink RL 141 (m_X8_teacherOf.1) ∈ tblG := tG6 (i := 1) (by decide +kernel) (by decide +kernel)
theorem ml_L_142 : Cond.methodLink RL 142 (m_L_classOf.1) ∈ tblG := tG4 (i := 13) (by decide +kernel) (by decide +kernel)
theorem ml_L_144 : Cond.methodLink RL 144 (m_X8_classOf.1) ∈ tblG := tG6 (i := 9) (by decide +kernel) (by decide +kernel)
theorem ml_L_145 : Cond.methodLink RL 145 (m_L_dancerOf.1) ∈ tblG := tG4 (i := 23) (by decide +kernel) (by decide +kernel)
theorem ml_L_147 : Cond.methodLink RL 147 (m_X8_dancerOf.1) ∈ tblG := tG6 (i := 13) (by decide +kernel) (by decide +kernel)
theorem ml_L_148 : Cond.methodLink RL 148 (m_L_uses.1) ∈ tblG := tG4 (i := 36) (by decide +kernel) (by decide +kernel)
theorem ml_L_150 : Cond.methodLink RL 150 (m_X8_uses.1) ∈ tblG := tG6 (i := 21) (by decide +kernel) (by decide +kernel)
theorem ml_L_151 : Cond.methodLink RL 151 (m_L_setting.1) ∈ tblG := tG4 (i := 47) (by decide +kernel) (by decide +kernel)
theorem ml_L_153 : Cond.methodLink RL 153 (m_X8_setting.1) ∈ tblG := tG6 (i := 25) (by decide +kernel) (by decide +kernel)
theorem ml_L_154 : Cond.methodLink RL 154 (m_L_floor.1) ∈ tblG := tG4 (i := 54) (by decide +kernel) (by decide +kernel)
theorem ml_L_157 : Cond.methodLink RL 157 (m_X8_floor.1) ∈ tblG := tG6 (i := 29) (by decide +kernel) (by decide +kernel)
theorem ml_L_158 : Cond.methodLink RL 158 (m_L_teacher.1) ∈ tblG := tG4 (i := 66) (by decide +kernel) (by decide +kernel)
theorem ml_L_160 : Cond.methodLink RL 160 (m_X8_teacher.1) ∈ tblG := tG6 (i := 44) (by decide +kernel) (by decide +kernel)
theorem ml_L_161 : Cond.methodLink RL 161 (m_L_set.1) ∈ tblG := tG4 (i := 73) (by decide +kernel) (by decide +kernel)
theorem ml_L_164 : Cond.methodLink RL 164 (m_X8_set.1) ∈ tblG := tG6 (i := 48) (by decide +kernel) (by decide +kernel)
theorem ml_L_165 : Cond.methodLink RL 165 (m_L_drop.1) ∈ tblG := tG4 (i := 87) (by decide +kernel) (by decide +kernel)
theorem ml_L_167 : Cond.methodLink RL 167 (m_X8_drop.1) ∈ tblG := tG6 (i := 59) (by decide +kernel) (by decide +kernel)
theorem ml_L_168 : Cond.methodLink RL 168 (m_L_dancer.1) ∈ tblG := tG4 (i := 94) (by decide +kernel) (by decide +kernel)
theorem ml_L_170 : Cond.methodLink RL 170 (m_X8_dancer.1) ∈ tblG := tG6 (i := 63) (by decide +kernel) (by decide +kernel)
theorem ml_L_171 : Cond.methodLink RL 171 (m_L_pass.1) ∈ tblG := tG4 (i := 101) (by decide +kernel) (by decide +kernel)
theorem ml_L_173 : Cond.methodLink RL 173 (m_X8_pass.1) ∈ tblG := tG6 (i := 67) (by decide +kernel) (by decide +kernel)
theorem ml_L_174 : Cond.methodLink RL 174 (m_L_enter.1) ∈ tblG := tG4 (i := 109) (by decide +kernel) (by decide +kernel)
theorem ml_L_176 : Cond.methodLink RL 176 (m_X8_enter.1) ∈ tblG := tG6 (i := 71) (by decide +kernel) (by decide +kernel)
theorem ml_L_177 : Cond.methodLink RL 177 (m_L_leave.1) ∈ tblG := tG4 (i := 116) (by decide +kernel) (by decide +kernel)
theorem ml_L_179 : Cond.methodLink RL 179 (m_X8_leave.1) ∈ tblG := tG6 (i := 79) (by decide +kernel) (by decide +kernel)
theorem ml_L_180 : Cond.methodLink RL 180 (m_L_weeks.1) ∈ tblG := tG4 (i := 124) (by decide +kernel) (by decide +kernel)
theorem ml_L_182 : Cond.methodLink RL 182 (m_X8_weeks.1) ∈ tblG := tG6 (i := 83) (by decide +kernel) (by decide +kernel)
theorem ml_L_183 : Cond.methodLink RL 183 (m_L_tune.1) ∈ tblG := tG4 (i := 131) (by decide +kernel) (by decide +kernel)
theorem ml_L_185 : Cond.methodLink RL 185 (m_X8_tune.1) ∈ tblG := tG6 (i := 87) (by decide +kernel) (by decide +kernel)
theorem ml_L_186 : Cond.methodLink RL 186 (m_L_undo.1) ∈ tblG := tG4 (i := 138) (by decide +kernel) (by decide +kernel)
theorem ml_L_188 : Cond.methodLink RL 188 (m_X8_undo.1) ∈ tblG := tG6 (i := 91) (by decide +kernel) (by decide +kernel)
theorem ml_L_189 : Cond.methodLink RL 189 (m_L_why.1) ∈ tblG := tG4 (i := 149) (by decide +kernel) (by decide +kernel)
theorem ml_L_191 : Cond.methodLink RL 191 (m_X8_why.1) ∈ tblG := tG6 (i := 95) (by decide +kernel) (by decide +kernel)
theorem ml_L_192 : Cond.methodLink RL 192 (m_L_whySeat.1) ∈ tblG := tG4 (i := 157) (by decide +kernel) (by decide +kernel)
theorem ml_L_194 : Cond.methodLink RL 194 (m_X8_whySeat.1) ∈ tblG := tG6 (i := 99) (by decide +kernel) (by decide +kernel)
theorem ml_L_195 : Cond.methodLink RL 195 (m_L_bestFloor.1) ∈ tblG := tG4 (i := 165) (by decide +kernel) (by decide +kernel)
theorem ml_L_198 : Cond.methodLink RL 198 (m_X8_bestFloor.1) ∈ tblG := tG6 (i := 103) (by decide +kernel) (by decide +kernel)
theorem ml_L_199 : Cond.methodLink RL 199 (m_L_emptyIn.1) ∈ tblG := tG4 (i := 176) (by decide +kernel) (by decide +kernel)
theorem ml_L_201 : Cond.methodLink RL 201 (m_X8_emptyIn.1) ∈ tblG := tG6 (i := 107) (by decide +kernel) (by decide +kernel)
theorem ml_L_202 : Cond.methodLink RL 202 (m_X7_held.1) ∈ tblG := tG2 (i := 117) (by decide +kernel) (by decide +kernel)
theorem ml_L_205 : Cond.methodLink RL 205 (m_X8_held.1) ∈ tblG := tG6 (i := 111) (by decide +kernel) (by decide +kernel)
theorem ml_L_208 : Cond.methodLink RL 208 (m_L_runScript.1) ∈ tblG := tG4 (i := 183) (by decide +kernel) (by decide +kernel)
theorem ml_L_211 : Cond.methodLink RL 211 (m_X8_runScript.1) ∈ tblG := tG6 (i := 115) (by decide +kernel) (by decide +kernel)
theorem ml_L_212 : Cond.methodLink RL 212 (m_L_simulate.1) ∈ tblG := tG4 (i := 198) (by decide +kernel) (by decide +kernel)
theorem ml_L_215 : Cond.methodLink RL 215 (m_X8_simulate.1) ∈ tblG := tG6 (i := 129) (by decide +kernel) (by decide +kernel)
theorem ml_L_216 : Cond.methodLink RL 216 (m_L_save.1) ∈ tblG := tG4 (i := 215) (by decide +kernel) (by decide +kernel)
theorem ml_L_218 : Cond.methodLink RL 218 (m_X8_save.1) ∈ tblG := tG6 (i := 143) (by decide +kernel) (by decide +kernel)
theorem ml_L_219 : Cond.methodLink RL 219 (m_L_restore.1) ∈ tblG := tG4 (i := 222) (by decide +kernel) (by decide +kernel)
theorem ml_L_221 : Cond.methodLink RL 221 (m_X8_restore.1) ∈ tblG := tG6 (i := 147) (by decide +kernel) (by decide +kernel)
theorem ml_X0_3 : Cond.methodLink RX0 3 Lib.objectInit ∈ tblG := tG1 (i := 166) (by decide +kernel) (by decide +kernel)
theorem ml_X1_3 : Cond.methodLink RX1 3 Lib.objectInit ∈ tblG := tG1 (i := 68) (by decide +kernel) (by decide +kernel)
theorem ml_X1_24 : Cond.methodLink RX1 24 (m_J9_min_7cf53.1) ∈ tblG := tG3 (i := 159) (by decide +kernel) (by decide +kernel)
theorem ml_X2_3 : Cond.methodLink RX2 3 Lib.objectInit ∈ tblG := tG2 (i := 13) (by decide +kernel) (by decide +kernel)
theorem ml_X2_17 : Cond.methodLink RX2 17 (m_X4_init.1) ∈ tblG := tG2 (i := 16) (by decide +kernel) (by decide +kernel)
theorem ml_X2_25 : Cond.methodLink RX2 25 (m_X4_copyFrom.1) ∈ tblG := tG4 (i := 65) (by decide +kernel) (by decide +kernel)
theorem ml_X3_1 : Cond.methodLink RX3 1 Lib.objectInit ∈ tblG := tG1 (i := 114) (by decide +kernel) (by decide +kernel)
theorem ml_X3_37 : Cond.methodLink RX3 37 (m_J6_bitCount_0f7a4.1) ∈ tblG := tG3 (i := 150) (by decide +kernel) (by decide +kernel)
theorem ml_X4_3 : Cond.methodLink RX4 3 Lib.objectInit ∈ tblG := tG1 (i := 61) (by decide +kernel) (by decide +kernel)
theorem ml_X4_43 : Cond.methodLink RX4 43 (m_X4_makeNew.1) ∈ tblG := tG1 (i := 188) (by decide +kernel) (by decide +kernel)
theorem ml_X4_74 : Cond.methodLink RX4 74 (m_X4_copyRowsFrom.1) ∈ tblG := tG2 (i := 125) (by decide +kernel) (by decide +kernel)
theorem ml_X4_78 : Cond.methodLink RX4 78 (m_X1_copyFrom.1) ∈ tblG := tG2 (i := 129) (by decide +kernel) (by decide +kernel)
theorem ml_X4_82 : Cond.methodLink RX4 82 (m_X5_copyFrom.1) ∈ tblG := tG2 (i := 133) (by decide +kernel) (by decide +kernel)
theorem ml_X4_85 : Cond.methodLink RX4 85 (m_X3_copyFrom.1) ∈ tblG := tG2 (i := 137) (by decide +kernel) (by decide +kernel)
theorem ml_X4_88 : Cond.methodLink RX4 88 (m_X0_copyFrom.1) ∈ tblG := tG2 (i := 141) (by decide +kernel) (by decide +kernel)
theorem ml_X4_91 : Cond.methodLink RX4 91 (m_X4_hasDancer.1) ∈ tblG := tG3 (i := 126) (by decide +kernel) (by decide +kernel)
theorem ml_X4_95 : Cond.methodLink RX4 95 (m_X4_hasLesson.1) ∈ tblG := tG3 (i := 134) (by decide +kernel) (by decide +kernel)
theorem ml_X4_98 : Cond.methodLink RX4 98 (m_X3_seatsDancer.1) ∈ tblG := tG2 (i := 157) (by decide +kernel) (by decide +kernel)
theorem ml_X4_131 : Cond.methodLink RX4 131 (m_X4_hasFloor.1) ∈ tblG := tG3 (i := 74) (by decide +kernel) (by decide +kernel)
theorem ml_X4_134 : Cond.methodLink RX4 134 (m_X4_hasTeacher.1) ∈ tblG := tG3 (i := 78) (by decide +kernel) (by decide +kernel)
theorem ml_X4_137 : Cond.methodLink RX4 137 (m_X4_reasonAgainstLesson.1) ∈ tblG := tG3 (i := 82) (by decide +kernel) (by decide +kernel)
theorem ml_X4_166 : Cond.methodLink RX4 166 (m_X3_countSeats.1) ∈ tblG := tG3 (i := 146) (by decide +kernel) (by decide +kernel)
theorem ml_X4_170 : Cond.methodLink RX4 170 (m_X4_mayHavePass.1) ∈ tblG := tG3 (i := 122) (by decide +kernel) (by decide +kernel)
theorem ml_X4_173 : Cond.methodLink RX4 173 (m_X4_reasonAgainstSeat.1) ∈ tblG := tG3 (i := 138) (by decide +kernel) (by decide +kernel)
theorem ml_X4_177 : Cond.methodLink RX4 177 (m_X4_hasSeat.1) ∈ tblG := tG3 (i := 164) (by decide +kernel) (by decide +kernel)
theorem ml_X4_181 : Cond.methodLink RX4 181 (m_X4_isFloorInUse.1) ∈ tblG := tG3 (i := 86) (by decide +kernel) (by decide +kernel)
theorem ml_X4_185 : Cond.methodLink RX4 185 (m_X4_isTeacherInUse.1) ∈ tblG := tG3 (i := 94) (by decide +kernel) (by decide +kernel)
theorem ml_X4_188 : Cond.methodLink RX4 188 (m_X5_teaches.1) ∈ tblG := tG3 (i := 98) (by decide +kernel) (by decide +kernel)
theorem ml_X4_191 : Cond.methodLink RX4 191 (m_X1_hasSpringFor.1) ∈ tblG := tG3 (i := 102) (by decide +kernel) (by decide +kernel)
theorem ml_X4_194 : Cond.methodLink RX4 194 (m_X1_hasBarreFor.1) ∈ tblG := tG3 (i := 106) (by decide +kernel) (by decide +kernel)
theorem ml_X4_197 : Cond.methodLink RX4 197 (m_X1_hasMirrorsFor.1) ∈ tblG := tG3 (i := 110) (by decide +kernel) (by decide +kernel)
theorem ml_X4_200 : Cond.methodLink RX4 200 (m_X3_isAt.1) ∈ tblG := tG3 (i := 90) (by decide +kernel) (by decide +kernel)
theorem ml_X4_203 : Cond.methodLink RX4 203 (m_X4_isDancerSeatedAt.1) ∈ tblG := tG3 (i := 142) (by decide +kernel) (by decide +kernel)
theorem ml_X4_206 : Cond.methodLink RX4 206 (m_X4_roomIn.1) ∈ tblG := tG3 (i := 151) (by decide +kernel) (by decide +kernel)
theorem ml_X4_210 : Cond.methodLink RX4 210 (m_X1_roomFor.1) ∈ tblG := tG3 (i := 155) (by decide +kernel) (by decide +kernel)
theorem ml_X4_214 : Cond.methodLink RX4 214 (m_X4_passWeek.1) ∈ tblG := tG3 (i := 176) (by decide +kernel) (by decide +kernel)
theorem ml_X4_217 : Cond.methodLink RX4 217 (m_X4_holdLesson.1) ∈ tblG := tG2 (i := 149) (by decide +kernel) (by decide +kernel)
theorem ml_X4_220 : Cond.methodLink RX4 220 (m_X0_riseWith.1) ∈ tblG := tG2 (i := 171) (by decide +kernel) (by decide +kernel)
theorem ml_X4_224 : Cond.methodLink RX4 224 (m_X4_comersOf.1) ∈ tblG := tG2 (i := 153) (by decide +kernel) (by decide +kernel)
theorem ml_X4_227 : Cond.methodLink RX4 227 (m_J6_bitCount_0f7a4.1) ∈ tblG := tG2 (i := 161) (by decide +kernel) (by decide +kernel)
theorem ml_X4_232 : Cond.methodLink RX4 232 (m_X0_dance.1) ∈ tblG := tG2 (i := 167) (by decide +kernel) (by decide +kernel)
theorem ml_X4_235 : Cond.methodLink RX4 235 (m_X0_usesSoFar.1) ∈ tblG := tG3 (i := 196) (by decide +kernel) (by decide +kernel)
theorem ml_X5_1 : Cond.methodLink RX5 1 Lib.objectInit ∈ tblG := tG1 (i := 96) (by decide +kernel) (by decide +kernel)
theorem ml_X6_3 : Cond.methodLink RX6 3 Lib.objectInit ∈ tblG := tG1 (i := 31) (by decide +kernel) (by decide +kernel)
theorem ml_X6_23 : Cond.methodLink RX6 23 (m_X6_readStart.1) ∈ tblG := tG2 (i := 64) (by decide +kernel) (by decide +kernel)
theorem ml_X6_30 : Cond.methodLink RX6 30 (m_X6_hasMore.1) ∈ tblG := tG2 (i := 68) (by decide +kernel) (by decide +kernel)
theorem ml_X6_33 : Cond.methodLink RX6 33 (m_X6_readCommand.1) ∈ tblG := tG2 (i := 72) (by decide +kernel) (by decide +kernel)
theorem ml_X6_43 : Cond.methodLink RX6 43 (m_X6_readDigit.1) ∈ tblG := tG2 (i := 76) (by decide +kernel) (by decide +kernel)
theorem ml_X6_47 : Cond.methodLink RX6 47 (m_X6_readTwoDigits.1) ∈ tblG := tG2 (i := 91) (by decide +kernel) (by decide +kernel)
theorem ml_X6_50 : Cond.methodLink RX6 50 (m_X6_readKind.1) ∈ tblG := tG2 (i := 101) (by decide +kernel) (by decide +kernel)
theorem ml_X6_53 : Cond.methodLink RX6 53 (m_X6_readPlace.1) ∈ tblG := tG2 (i := 105) (by decide +kernel) (by decide +kernel)
theorem ml_X6_56 : Cond.methodLink RX6 56 (m_X6_readDancer.1) ∈ tblG := tG2 (i := 109) (by decide +kernel) (by decide +kernel)
theorem ml_X6_59 : Cond.methodLink RX6 59 (m_X6_readLesson.1) ∈ tblG := tG2 (i := 113) (by decide +kernel) (by decide +kernel)
theorem ml_X6_62 : Cond.methodLink RX6 62 (m_X6_digitWithin.1) ∈ tblG := tG2 (i := 80) (by decide +kernel) (by decide +kernel)
theorem ml_X6_66 : Cond.methodLink RX6 66 (m_X6_keepNumber.1) ∈ tblG := tG2 (i := 87) (by decide +kernel) (by decide +kernel)
theorem ml_X6_70 : Cond.methodLink RX6 70 (m_J9_max_7cf53.1) ∈ tblG := tG2 (i := 95) (by decide +kernel) (by decide +kernel)
theorem ml_X6_75 : Cond.methodLink RX6 75 (m_J9_min_7cf53.1) ∈ tblG := tG2 (i := 98) (by decide +kernel) (by decide +kernel)
theorem ml_X7_1 : Cond.methodLink RX7 1 Lib.objectInit ∈ tblG := tG1 (i := 23) (by decide +kernel) (by decide +kernel)
theorem ml_X7_9 : Cond.methodLink RX7 9 (m_X6_init.1) ∈ tblG := tG1 (i := 28) (by decide +kernel) (by decide +kernel)
theorem ml_X7_18 : Cond.methodLink RX7 18 (m_X4_init.1) ∈ tblG := tG1 (i := 58) (by decide +kernel) (by decide +kernel)
theorem ml_X7_28 : Cond.methodLink RX7 28 (m_X2_init.1) ∈ tblG := tG2 (i := 10) (by decide +kernel) (by decide +kernel)
theorem ml_X7_41 : Cond.methodLink RX7 41 (m_X7_isWithin.1) ∈ tblG := tG2 (i := 184) (by decide +kernel) (by decide +kernel)
theorem ml_X7_45 : Cond.methodLink RX7 45 (m_X7_requireArgument.1) ∈ tblG := tG2 (i := 185) (by decide +kernel) (by decide +kernel)
theorem ml_X7_53 : Cond.methodLink RX7 53 (m_X7_requireState.1) ∈ tblG := tG3 (i := 16) (by decide +kernel) (by decide +kernel)
theorem ml_X7_56 : Cond.methodLink RX7 56 (m_X6_addSign.1) ∈ tblG := tG3 (i := 35) (by decide +kernel) (by decide +kernel)
theorem ml_X7_60 : Cond.methodLink RX7 60 (m_X6_makeEmpty.1) ∈ tblG := tG2 (i := 52) (by decide +kernel) (by decide +kernel)
theorem ml_X7_64 : Cond.methodLink RX7 64 (m_X6_findError.1) ∈ tblG := tG2 (i := 60) (by decide +kernel) (by decide +kernel)
theorem ml_X7_67 : Cond.methodLink RX7 67 (m_X7_beginAnew.1) ∈ tblG := tG3 (i := 46) (by decide +kernel) (by decide +kernel)
theorem ml_X7_70 : Cond.methodLink RX7 70 (m_X6_readStart.1) ∈ tblG := tG3 (i := 55) (by decide +kernel) (by decide +kernel)
theorem ml_X7_74 : Cond.methodLink RX7 74 (m_X6_hasMore.1) ∈ tblG := tG3 (i := 56) (by decide +kernel) (by decide +kernel)
theorem ml_X7_77 : Cond.methodLink RX7 77 (m_X6_readCommand.1) ∈ tblG := tG3 (i := 57) (by decide +kernel) (by decide +kernel)
theorem ml_X7_88 : Cond.methodLink RX7 88 (m_X7_doCommand.1) ∈ tblG := tG3 (i := 58) (by decide +kernel) (by decide +kernel)
theorem ml_X7_107 : Cond.methodLink RX7 107 (m_X4_countSeats.1) ∈ tblG := tG3 (i := 184) (by decide +kernel) (by decide +kernel)
theorem ml_X7_110 : Cond.methodLink RX7 110 (m_X4_countPasses.1) ∈ tblG := tG3 (i := 188) (by decide +kernel) (by decide +kernel)
theorem ml_X7_113 : Cond.methodLink RX7 113 (m_X4_countUsesByDancers.1) ∈ tblG := tG3 (i := 192) (by decide +kernel) (by decide +kernel)
theorem ml_X7_116 : Cond.methodLink RX7 116 (m_X4_countLeft.1) ∈ tblG := tG3 (i := 200) (by decide +kernel) (by decide +kernel)
theorem ml_X7_135 : Cond.methodLink RX7 135 (m_X4_hasFloor.1) ∈ tblG := tG3 (i := 213) (by decide +kernel) (by decide +kernel)
theorem ml_X7_139 : Cond.methodLink RX7 139 (m_X7_requireIndex.1) ∈ tblG := tG3 (i := 214) (by decide +kernel) (by decide +kernel)
theorem ml_X7_160 : Cond.methodLink RX7 160 (m_X4_countLessonsOnFloor.1) ∈ tblG := tG3 (i := 233) (by decide +kernel) (by decide +kernel)
theorem ml_X7_164 : Cond.methodLink RX7 164 (m_X4_hasTeacher.1) ∈ tblG := tG4 (i := 4) (by decide +kernel) (by decide +kernel)
theorem ml_X7_179 : Cond.methodLink RX7 179 (m_X4_countLessonsOfTeacher.1) ∈ tblG := tG4 (i := 5) (by decide +kernel) (by decide +kernel)
theorem ml_X7_182 : Cond.methodLink RX7 182 (m_X4_countDaysOfTeacher.1) ∈ tblG := tG4 (i := 9) (by decide +kernel) (by decide +kernel)
theorem ml_X7_185 : Cond.methodLink RX7 185 (m_X4_hasLesson.1) ∈ tblG := tG4 (i := 20) (by decide +kernel) (by decide +kernel)
theorem ml_X7_212 : Cond.methodLink RX7 212 (m_X4_roomIn.1) ∈ tblG := tG4 (i := 21) (by decide +kernel) (by decide +kernel)
theorem ml_X7_216 : Cond.methodLink RX7 216 (m_X3_countSeats.1) ∈ tblG := tG4 (i := 22) (by decide +kernel) (by decide +kernel)
theorem ml_X7_223 : Cond.methodLink RX7 223 (m_X4_hasDancer.1) ∈ tblG := tG4 (i := 30) (by decide +kernel) (by decide +kernel)
theorem ml_X7_239 : Cond.methodLink RX7 239 (m_X0_usesSoFar.1) ∈ tblG := tG4 (i := 31) (by decide +kernel) (by decide +kernel)
theorem ml_X7_245 : Cond.methodLink RX7 245 (m_X4_countSeatsOfDancer.1) ∈ tblG := tG4 (i := 32) (by decide +kernel) (by decide +kernel)
theorem ml_X7_248 : Cond.methodLink RX7 248 (m_X4_countUsesByLessons.1) ∈ tblG := tG4 (i := 43) (by decide +kernel) (by decide +kernel)
theorem ml_X7_254 : Cond.methodLink RX7 254 (m_X2_remember.1) ∈ tblG := tG4 (i := 61) (by decide +kernel) (by decide +kernel)
theorem ml_X7_258 : Cond.methodLink RX7 258 (m_X4_addFloor.1) ∈ tblG := tG3 (i := 62) (by decide +kernel) (by decide +kernel)
theorem ml_X7_262 : Cond.methodLink RX7 262 (m_X4_addTeacher.1) ∈ tblG := tG3 (i := 66) (by decide +kernel) (by decide +kernel)
theorem ml_X7_266 : Cond.methodLink RX7 266 (m_X7_requireLessonArguments.1) ∈ tblG := tG4 (i := 80) (by decide +kernel) (by decide +kernel)
theorem ml_X7_270 : Cond.methodLink RX7 270 (m_X4_addLesson.1) ∈ tblG := tG3 (i := 70) (by decide +kernel) (by decide +kernel)
theorem ml_X7_274 : Cond.methodLink RX7 274 (m_X4_countRefusal.1) ∈ tblG := tG4 (i := 83) (by decide +kernel) (by decide +kernel)
theorem ml_X7_277 : Cond.methodLink RX7 277 (m_X4_dropLesson.1) ∈ tblG := tG3 (i := 168) (by decide +kernel) (by decide +kernel)
theorem ml_X7_280 : Cond.methodLink RX7 280 (m_X4_addDancer.1) ∈ tblG := tG3 (i := 114) (by decide +kernel) (by decide +kernel)
theorem ml_X7_283 : Cond.methodLink RX7 283 (m_X4_mayHavePass.1) ∈ tblG := tG4 (i := 108) (by decide +kernel) (by decide +kernel)
theorem ml_X7_286 : Cond.methodLink RX7 286 (m_X4_givePass.1) ∈ tblG := tG3 (i := 118) (by decide +kernel) (by decide +kernel)
theorem ml_X7_289 : Cond.methodLink RX7 289 (m_X4_takeSeat.1) ∈ tblG := tG3 (i := 130) (by decide +kernel) (by decide +kernel)
theorem ml_X7_292 : Cond.methodLink RX7 292 (m_X4_hasSeat.1) ∈ tblG := tG4 (i := 123) (by decide +kernel) (by decide +kernel)
theorem ml_X7_296 : Cond.methodLink RX7 296 (m_X4_giveUpSeat.1) ∈ tblG := tG3 (i := 160) (by decide +kernel) (by decide +kernel)
theorem ml_X7_299 : Cond.methodLink RX7 299 (m_X4_passWeeks.1) ∈ tblG := tG3 (i := 172) (by decide +kernel) (by decide +kernel)
theorem ml_X7_305 : Cond.methodLink RX7 305 (m_X2_takeBack.1) ∈ tblG := tG4 (i := 145) (by decide +kernel) (by decide +kernel)
theorem ml_X7_309 : Cond.methodLink RX7 309 (m_X4_reasonAgainstLesson.1) ∈ tblG := tG4 (i := 156) (by decide +kernel) (by decide +kernel)
theorem ml_X7_312 : Cond.methodLink RX7 312 (m_X4_reasonAgainstSeat.1) ∈ tblG := tG4 (i := 164) (by decide +kernel) (by decide +kernel)
theorem ml_X7_315 : Cond.methodLink RX7 315 (m_X4_roomiestFloor.1) ∈ tblG := tG4 (i := 172) (by decide +kernel) (by decide +kernel)
theorem ml_X7_319 : Cond.methodLink RX7 319 (m_X4_copyFrom.1) ∈ tblG := tG2 (i := 121) (by decide +kernel) (by decide +kernel)
theorem ml_X7_322 : Cond.methodLink RX7 322 (m_X4_passWeek.1) ∈ tblG := tG2 (i := 145) (by decide +kernel) (by decide +kernel)
theorem ml_X7_325 : Cond.methodLink RX7 325 (m_X7_withoutGroups.1) ∈ tblG := tG4 (i := 190) (by decide +kernel) (by decide +kernel)
theorem ml_X7_331 : Cond.methodLink RX7 331 (m_X7_tryGroup.1) ∈ tblG := tG4 (i := 194) (by decide +kernel) (by decide +kernel)
theorem ml_X7_338 : Cond.methodLink RX7 338 (m_X7_tryTurn.1) ∈ tblG := tG4 (i := 207) (by decide +kernel) (by decide +kernel)
theorem ml_X7_341 : Cond.methodLink RX7 341 (m_X2_forgetAll.1) ∈ tblG := tG3 (i := 51) (by decide +kernel) (by decide +kernel)
theorem ml_X7_356 : Cond.methodLink RX7 356 (m_X4_makeNew.1) ∈ tblG := tG3 (i := 50) (by decide +kernel) (by decide +kernel)
theorem ml_X7_359 : Cond.methodLink RX7 359 (m_X7_tryLeaving.1) ∈ tblG := tG4 (i := 211) (by decide +kernel) (by decide +kernel)
theorem ml_X8_1 : Cond.methodLink RX8 1 Lib.objectInit ∈ tblG := tG4 (i := 234) (by decide +kernel) (by decide +kernel)
theorem ml_X8_22 : Cond.methodLink RX8 22 (m_X8_anew.1) ∈ tblG := tG4 (i := 235) (by decide +kernel) (by decide +kernel)
theorem ml_X8_29 : Cond.methodLink RX8 29 (m_X8_in.1) ∈ tblG := tG5 (i := 35) (by decide +kernel) (by decide +kernel)
theorem ml_X8_33 : Cond.methodLink RX8 33 (m_X8_barre.1) ∈ tblG := tG5 (i := 114) (by decide +kernel) (by decide +kernel)
theorem ml_X8_37 : Cond.methodLink RX8 37 (m_X8_spring.1) ∈ tblG := tG5 (i := 110) (by decide +kernel) (by decide +kernel)
theorem ml_X8_40 : Cond.methodLink RX8 40 (m_X8_ofClass.1) ∈ tblG := tG5 (i := 102) (by decide +kernel) (by decide +kernel)
theorem ml_X8_44 : Cond.methodLink RX8 44 (m_X8_isSpring.1) ∈ tblG := tG5 (i := 106) (by decide +kernel) (by decide +kernel)
theorem ml_X8_47 : Cond.methodLink RX8 47 (m_X8_mirrors.1) ∈ tblG := tG5 (i := 118) (by decide +kernel) (by decide +kernel)
theorem ml_X8_50 : Cond.methodLink RX8 50 (m_X8_takes.1) ∈ tblG := tG5 (i := 157) (by decide +kernel) (by decide +kernel)
theorem ml_X8_53 : Cond.methodLink RX8 53 (m_X8_hasSeat.1) ∈ tblG := tG5 (i := 146) (by decide +kernel) (by decide +kernel)
theorem ml_X8_57 : Cond.methodLink RX8 57 (m_X8_ofDancer.1) ∈ tblG := tG5 (i := 130) (by decide +kernel) (by decide +kernel)
theorem ml_X8_60 : Cond.methodLink RX8 60 (m_X8_bits.1) ∈ tblG := tG5 (i := 150) (by decide +kernel) (by decide +kernel)
theorem ml_X8_63 : Cond.methodLink RX8 63 (m_X8_classTakes.1) ∈ tblG := tG5 (i := 153) (by decide +kernel) (by decide +kernel)
theorem ml_X8_66 : Cond.methodLink RX8 66 (m_X8_adds.1) ∈ tblG := tG5 (i := 185) (by decide +kernel) (by decide +kernel)
theorem ml_X8_70 : Cond.methodLink RX8 70 (m_X8_coming.1) ∈ tblG := tG5 (i := 209) (by decide +kernel) (by decide +kernel)
theorem ml_X8_73 : Cond.methodLink RX8 73 (m_X8_dances.1) ∈ tblG := tG5 (i := 213) (by decide +kernel) (by decide +kernel)
theorem ml_X8_76 : Cond.methodLink RX8 76 (m_X8_week.1) ∈ tblG := tG5 (i := 205) (by decide +kernel) (by decide +kernel)
theorem ml_X8_83 : Cond.methodLink RX8 83 (m_X8_copies.1) ∈ tblG := tG6 (i := 40) (by decide +kernel) (by decide +kernel)
theorem ml_X8_89 : Cond.methodLink RX8 89 (m_X8_holds.1) ∈ tblG := tG5 (i := 38) (by decide +kernel) (by decide +kernel)
theorem ml_X8_96 : Cond.methodLink RX8 96 (m_X8_sign.1) ∈ tblG := tG5 (i := 58) (by decide +kernel) (by decide +kernel)
theorem ml_X8_99 : Cond.methodLink RX8 99 (m_X8_figure.1) ∈ tblG := tG5 (i := 66) (by decide +kernel) (by decide +kernel)
theorem ml_X8_105 : Cond.methodLink RX8 105 (m_X8_takesSign.1) ∈ tblG := tG5 (i := 54) (by decide +kernel) (by decide +kernel)
theorem ml_X8_108 : Cond.methodLink RX8 108 (m_X8_figures.1) ∈ tblG := tG5 (i := 70) (by decide +kernel) (by decide +kernel)
theorem ml_X8_111 : Cond.methodLink RX8 111 (m_X8_readsClass.1) ∈ tblG := tG5 (i := 74) (by decide +kernel) (by decide +kernel)
theorem ml_X8_115 : Cond.methodLink RX8 115 (m_X8_readsCommand.1) ∈ tblG := tG5 (i := 62) (by decide +kernel) (by decide +kernel)
theorem ml_X8_118 : Cond.methodLink RX8 118 (m_X8_isStudio.1) ∈ tblG := tG5 (i := 50) (by decide +kernel) (by decide +kernel)
theorem ml_X8_121 : Cond.methodLink RX8 121 (m_X8_isFloor.1) ∈ tblG := tG5 (i := 90) (by decide +kernel) (by decide +kernel)
theorem ml_X8_124 : Cond.methodLink RX8 124 (m_X8_isTeacher.1) ∈ tblG := tG5 (i := 94) (by decide +kernel) (by decide +kernel)
theorem ml_X8_127 : Cond.methodLink RX8 127 (m_X8_isDancer.1) ∈ tblG := tG5 (i := 126) (by decide +kernel) (by decide +kernel)
theorem ml_X8_130 : Cond.methodLink RX8 130 (m_X8_isClass.1) ∈ tblG := tG5 (i := 138) (by decide +kernel) (by decide +kernel)
theorem ml_X8_133 : Cond.methodLink RX8 133 (m_X8_canSet.1) ∈ tblG := tG5 (i := 86) (by decide +kernel) (by decide +kernel)
theorem ml_X8_136 : Cond.methodLink RX8 136 (m_X8_whyNo.1) ∈ tblG := tG5 (i := 98) (by decide +kernel) (by decide +kernel)
theorem ml_X8_140 : Cond.methodLink RX8 140 (m_X8_canPass.1) ∈ tblG := tG5 (i := 122) (by decide +kernel) (by decide +kernel)
theorem ml_X8_143 : Cond.methodLink RX8 143 (m_X8_areBoth.1) ∈ tblG := tG5 (i := 134) (by decide +kernel) (by decide +kernel)
theorem ml_X8_146 : Cond.methodLink RX8 146 (m_X8_whyNoSeat.1) ∈ tblG := tG5 (i := 142) (by decide +kernel) (by decide +kernel)
theorem ml_X8_149 : Cond.methodLink RX8 149 (m_X8_floors.1) ∈ tblG := tG5 (i := 165) (by decide +kernel) (by decide +kernel)
theorem ml_X8_153 : Cond.methodLink RX8 153 (m_X8_teachers.1) ∈ tblG := tG5 (i := 169) (by decide +kernel) (by decide +kernel)
theorem ml_X8_156 : Cond.methodLink RX8 156 (m_X8_sets.1) ∈ tblG := tG5 (i := 173) (by decide +kernel) (by decide +kernel)
theorem ml_X8_160 : Cond.methodLink RX8 160 (m_X8_dancers.1) ∈ tblG := tG5 (i := 177) (by decide +kernel) (by decide +kernel)
theorem ml_X8_163 : Cond.methodLink RX8 163 (m_X8_passes.1) ∈ tblG := tG5 (i := 181) (by decide +kernel) (by decide +kernel)
theorem ml_X8_166 : Cond.methodLink RX8 166 (m_X8_enters.1) ∈ tblG := tG5 (i := 189) (by decide +kernel) (by decide +kernel)
theorem ml_X8_169 : Cond.methodLink RX8 169 (m_X8_leaves.1) ∈ tblG := tG5 (i := 193) (by decide +kernel) (by decide +kernel)
theorem ml_X8_172 : Cond.methodLink RX8 172 (m_X8_drops.1) ∈ tblG := tG5 (i := 197) (by decide +kernel) (by decide +kernel)
theorem ml_X8_175 : Cond.methodLink RX8 175 (m_X8_weeksGo.1) ∈ tblG := tG5 (i := 201) (by decide +kernel) (by decide +kernel)
theorem ml_X8_178 : Cond.methodLink RX8 178 (m_X8_can.1) ∈ tblG := tG5 (i := 82) (by decide +kernel) (by decide +kernel)
theorem ml_X8_181 : Cond.methodLink RX8 181 (m_X8_does.1) ∈ tblG := tG5 (i := 161) (by decide +kernel) (by decide +kernel)
theorem ml_X8_184 : Cond.methodLink RX8 184 (m_X8_seats.1) ∈ tblG := tG5 (i := 225) (by decide +kernel) (by decide +kernel)
theorem ml_X8_187 : Cond.methodLink RX8 187 (m_X8_left.1) ∈ tblG := tG5 (i := 229) (by decide +kernel) (by decide +kernel)
theorem ml_X8_190 : Cond.methodLink RX8 190 (m_X8_tells.1) ∈ tblG := tG5 (i := 221) (by decide +kernel) (by decide +kernel)
theorem ml_X8_193 : Cond.methodLink RX8 193 (m_X8_classes.1) ∈ tblG := tG5 (i := 237) (by decide +kernel) (by decide +kernel)
theorem ml_X8_196 : Cond.methodLink RX8 196 (m_X8_daysOf.1) ∈ tblG := tG6 (i := 5) (by decide +kernel) (by decide +kernel)
theorem ml_X8_199 : Cond.methodLink RX8 199 (m_X8_seatsOf.1) ∈ tblG := tG6 (i := 17) (by decide +kernel) (by decide +kernel)
theorem ml_X8_202 : Cond.methodLink RX8 202 (m_X8_isFloorLike.1) ∈ tblG := tG6 (i := 33) (by decide +kernel) (by decide +kernel)
theorem ml_X8_206 : Cond.methodLink RX8 206 (m_X8_remember.1) ∈ tblG := tG6 (i := 36) (by decide +kernel) (by decide +kernel)
theorem ml_X8_209 : Cond.methodLink RX8 209 (m_X8_isTime.1) ∈ tblG := tG6 (i := 52) (by decide +kernel) (by decide +kernel)
theorem ml_X8_212 : Cond.methodLink RX8 212 (m_X8_triesClass.1) ∈ tblG := tG6 (i := 55) (by decide +kernel) (by decide +kernel)
theorem ml_X8_215 : Cond.methodLink RX8 215 (m_X8_triesSeat.1) ∈ tblG := tG6 (i := 75) (by decide +kernel) (by decide +kernel)
theorem ml_X8_224 : Cond.methodLink RX8 224 (m_X8_size.1) ∈ tblG := tG6 (i := 119) (by decide +kernel) (by decide +kernel)
theorem ml_X8_228 : Cond.methodLink RX8 228 (m_X8_isCommand.1) ∈ tblG := tG6 (i := 125) (by decide +kernel) (by decide +kernel)
theorem ml_X8_235 : Cond.methodLink RX8 235 (m_X8_turns.1) ∈ tblG := tG6 (i := 135) (by decide +kernel) (by decide +kernel)
theorem ml_X8_238 : Cond.methodLink RX8 238 (m_X8_dancersTurn.1) ∈ tblG := tG6 (i := 139) (by decide +kernel) (by decide +kernel)
theorem obj_im : Cond.instanceMethod Lib.objectInit ∈ tblG := tG1 (i := 24) (by decide +kernel) (by decide +kernel)
theorem obj_cd : Cond.code Lib.objectInit ⟨#[0xb1]⟩ 1 none ∈ tblG := tG1 (i := 25) (by decide +kernel) (by decide +kernel)
theorem uw_X0 : ∀ w ∈ u_ws RX0 TX0 4, w ∈ tblG := List.forall_mem_cons.mpr ⟨tG1 (i := 179) (by decide +kernel) (by decide +kernel), List.forall_mem_cons.mpr ⟨tG1 (i := 181) (by decide +kernel) (by decide +kernel), List.forall_mem_cons.mpr ⟨tG1 (i := 183) (by decide +kernel) (by decide +kernel), List.forall_mem_cons.mpr ⟨tG1 (i := 185) (by decide +kernel) (by decide +kernel), List.forall_mem_nil _⟩⟩⟩⟩
theorem uw_X1 : ∀ w ∈ u_ws RX1 TX1 4, w ∈ tblG := List.forall_mem_cons.mpr ⟨tG1 (i := 81) (by decide +kernel) (by decide +kernel), List.forall_mem_cons.mpr ⟨tG1 (i := 83) (by decide +kernel) (by decide +kernel), List.forall_mem_cons.mpr ⟨tG1 (i := 85) (by decide +kernel) (by decide +kernel), List.forall_mem_cons.mpr ⟨tG1 (i := 87) (by decide +kernel) (by decide +kernel), List.forall_mem_nil _⟩⟩⟩⟩
theorem uw_X2 : ∀ w ∈ u_ws RX2 TX2 3, w ∈ tblG := List.forall_mem_cons.mpr ⟨tG2 (i := 21) (by decide +kernel) (by decide +kernel), List.forall_mem_cons.mpr ⟨tG2 (i := 23) (by decide +kernel) (by decide +kernel), List.forall_mem_cons.mpr ⟨tG2 (i := 25) (by decide +kernel) (by decide +kernel), List.forall_mem_nil _⟩⟩⟩
theorem uw_X3 : ∀ w ∈ u_ws RX3 TX3 9, w ∈ tblG := List.forall_mem_cons.mpr ⟨tG1 (i := 141) (by decide +kernel) (by decide +kernel), List.forall_mem_cons.mpr ⟨tG1 (i := 143) (by decide +kernel) (by decide +kernel), List.forall_mem_cons.mpr ⟨tG1 (i := 145) (by decide +kernel) (by decide +kernel), List.forall_mem_cons.mpr ⟨tG1 (i := 147) (by decide +kernel) (by decide +kernel), List.forall_mem_cons.mpr ⟨tG1 (i := 149) (by decide +kernel) (by decide +kernel), List.forall_mem_cons.mpr ⟨tG1 (i := 151) (by decide +kernel) (by decide +kernel), List.forall_mem_cons.mpr ⟨tG1 (i := 153) (by decide +kernel) (by decide +kernel), List.forall_mem_cons.mpr ⟨tG1 (i := 155) (by decide +kernel) (by decide +kernel), List.forall_mem_cons.mpr ⟨tG1 (i := 157) (by decide +kernel) (by decide +kernel), List.forall_mem_nil _⟩⟩⟩⟩⟩⟩⟩⟩⟩
theorem uw_X4 : ∀ w ∈ u_ws RX4 TX4 14, w ∈ tblG := List.forall_mem_cons.mpr ⟨tG1 (i := 219) (by decide +kernel) (by decide +kernel), List.forall_mem_cons.mpr ⟨tG1 (i := 221) (by decide +kernel) (by decide +kernel), List.forall_mem_cons.mpr ⟨tG1 (i := 223) (by decide +kernel) (by decide +kernel), List.forall_mem_cons.mpr ⟨tG1 (i := 225) (by decide +kernel) (by decide +kernel), List.forall_mem_cons.mpr ⟨tG1 (i := 227) (by decide +kernel) (by decide +kernel), List.forall_mem_cons.mpr ⟨tG1 (i := 229) (by decide +kernel) (by decide +kernel), List.forall_mem_cons.mpr ⟨tG1 (i := 231) (by decide +kernel) (by decide +kernel), List.forall_mem_cons.mpr ⟨tG1 (i := 233) (by decide +kernel) (by decide +kernel), List.forall_mem_cons.mpr ⟨tG1 (i := 235) (by decide +kernel) (by decide +kernel), List.forall_mem_cons.mpr ⟨tG1 (i := 237) (by decide +kernel) (by decide +kernel), List.forall_mem_cons.mpr ⟨tG1 (i := 239) (by decide +kernel) (by decide +kernel), List.forall_mem_cons.mpr ⟨tG2 (i := 1) (by decide +kernel) (by decide +kernel), List.forall_mem_cons.mpr ⟨tG2 (i := 3) (by decide +kernel) (by decide +kernel), List.forall_mem_cons.mpr ⟨tG2 (i := 5) (by decide +kernel) (by decide +kernel), List.forall_mem_nil _⟩⟩⟩⟩⟩⟩⟩⟩⟩⟩⟩⟩⟩⟩
theorem uw_X5 : ∀ w ∈ u_ws RX5 TX5 2, w ∈ tblG := List.forall_mem_cons.mpr ⟨tG1 (i := 103) (by decide +kernel) (by decide +kernel), List.forall_mem_cons.mpr ⟨tG1 (i := 105) (by decide +kernel) (by decide +kernel), List.forall_mem_nil _⟩⟩
theorem uw_X6 : ∀ w ∈ u_ws RX6 TX6 6, w ∈ tblG := List.forall_mem_cons.mpr ⟨tG1 (i := 41) (by decide +kernel) (by decide +kernel), List.forall_mem_cons.mpr ⟨tG1 (i := 43) (by decide +kernel) (by decide +kernel), List.forall_mem_cons.mpr ⟨tG1 (i := 45) (by decide +kernel) (by decide +kernel), List.forall_mem_cons.mpr ⟨tG1 (i := 47) (by decide +kernel) (by decide +kernel), List.forall_mem_cons.mpr ⟨tG1 (i := 49) (by decide +kernel) (by decide +kernel), List.forall_mem_cons.mpr ⟨tG1 (i := 51) (by decide +kernel) (by decide +kernel), List.forall_mem_nil _⟩⟩⟩⟩⟩⟩
theorem uw_X7 : ∀ w ∈ u_ws RX7 TX7 6, w ∈ tblG := List.forall_mem_cons.mpr ⟨tG2 (i := 34) (by decide +kernel) (by decide +kernel), List.forall_mem_cons.mpr ⟨tG2 (i := 36) (by decide +kernel) (by decide +kernel), List.forall_mem_cons.mpr ⟨tG2 (i := 38) (by decide +kernel) (by decide +kernel), List.forall_mem_cons.mpr ⟨tG2 (i := 40) (by decide +kernel) (by decide +kernel), List.forall_mem_cons.mpr ⟨tG2 (i := 42) (by decide +kernel) (by decide +kernel), List.forall_mem_cons.mpr ⟨tG2 (i := 44) (by decide +kernel) (by decide +kernel), List.forall_mem_nil _⟩⟩⟩⟩⟩⟩
theorem uw_X8 : ∀ w ∈ u_ws RX8 TX8 9, w ∈ tblG := List.forall_mem_cons.mpr ⟨tG5 (i := 8) (by decide +kernel) (by decide +kernel), List.forall_mem_cons.mpr ⟨tG5 (i := 10) (by decide +kernel) (by decide +kernel), List.forall_mem_cons.mpr ⟨tG5 (i := 12) (by decide +kernel) (by decide +kernel), List.forall_mem_cons.mpr ⟨tG5 (i := 14) (by decide +kernel) (by decide +kernel), List.forall_mem_cons.mpr ⟨tG5 (i := 16) (by decide +kernel) (by decide +kernel), List.forall_mem_cons.mpr ⟨tG5 (i := 18) (by decide +kernel) (by decide +kernel), List.forall_mem_cons.mpr ⟨tG5 (i := 20) (by decide +kernel) (by decide +kernel), List.forall_mem_cons.mpr ⟨tG5 (i := 22) (by decide +kernel) (by decide +kernel), List.forall_mem_cons.mpr ⟨tG5 (i := 24) (by decide +kernel) (by decide +kernel), List.forall_mem_nil _⟩⟩⟩⟩⟩⟩⟩⟩⟩
theorem fl_X0_9 : FL RX0 9 0 0 := ⟨(RX0, TX0, 4), rfl, nle rfl, tG1 (i := 167) (by decide +kernel) (by decide +kernel), uw_X0⟩
theorem pl_X0_9 : PL RX0 9 0 0 .int false := ⟨(RX0, TX0, 4), rfl, nle rfl, tG1 (i := 167) (by decide +kernel) (by decide +kernel), uw_X0, nmX0, ⟨tyX0, tyX0_ok⟩, rfl, by decide +kernel, (fun h => by cases h)⟩
theorem fl_X0_15 : FL RX0 15 0 1 := ⟨(RX0, TX0, 4), rfl, nle rfl, tG1 (i := 170) (by decide +kernel) (by decide +kernel), uw_X0⟩
theorem pl_X0_15 : PL RX0 15 0 1 .int false := ⟨(RX0, TX0, 4), rfl, nle rfl, tG1 (i := 170) (by decide +kernel) (by decide +kernel), uw_X0, nmX0, ⟨tyX0, tyX0_ok⟩, rfl, by decide +kernel, (fun h => by cases h)⟩
theorem fl_X0_18 : FL RX0 18 0 2 := ⟨(RX0, TX0, 4), rfl, nle rfl, tG1 (i := 173) (by decide +kernel) (by decide +kernel), uw_X0⟩
theorem pl_X0_18 : PL RX0 18 0 2 .int false := ⟨(RX0, TX0, 4), rfl, nle rfl, tG1 (i := 173) (by decide +kernel) (by decide +kernel), uw_X0, nmX0, ⟨tyX0, tyX0_ok⟩, rfl, by decide +kernel, (fun h => by cases h)⟩
theorem fl_X0_21 : FL RX0 21 0 3 := ⟨(RX0, TX0, 4), rfl, nle rfl, tG1 (i := 176) (by decide +kernel) (by decide +kernel), uw_X0⟩
theorem pl_X0_21 : PL RX0 21 0 3 .int false := ⟨(RX0, TX0, 4), rfl, nle rfl, tG1 (i := 176) (by decide +kernel) (by decide +kernel), uw_X0, nmX0, ⟨tyX0, tyX0_ok⟩, rfl, by decide +kernel, (fun h => by cases h)⟩
theorem fl_X1_9 : FL RX1 9 1 0 := ⟨(RX1, TX1, 4), rfl, nle rfl, tG1 (i := 69) (by decide +kernel) (by decide +kernel), uw_X1⟩
theorem pl_X1_9 : PL RX1 9 1 0 .int false := ⟨(RX1, TX1, 4), rfl, nle rfl, tG1 (i := 69) (by decide +kernel) (by decide +kernel), uw_X1, nmX1, ⟨tyX1, tyX1_ok⟩, rfl, by decide +kernel, (fun h => by cases h)⟩
theorem fl_X1_15 : FL RX1 15 1 1 := ⟨(RX1, TX1, 4), rfl, nle rfl, tG1 (i := 72) (by decide +kernel) (by decide +kernel), uw_X1⟩
theorem pl_X1_15 : PL RX1 15 1 1 .int false := ⟨(RX1, TX1, 4), rfl, nle rfl, tG1 (i := 72) (by decide +kernel) (by decide +kernel), uw_X1, nmX1, ⟨tyX1, tyX1_ok⟩, rfl, by decide +kernel, (fun h => by cases h)⟩
theorem fl_X1_18 : FL RX1 18 1 2 := ⟨(RX1, TX1, 4), rfl, nle rfl, tG1 (i := 75) (by decide +kernel) (by decide +kernel), uw_X1⟩
theorem pl_X1_18 : PL RX1 18 1 2 .int false := ⟨(RX1, TX1, 4), rfl, nle rfl, tG1 (i := 75) (by decide +kernel) (by decide +kernel), uw_X1, nmX1, ⟨tyX1, tyX1_ok⟩, rfl, by decide +kernel, (fun h => by cases h)⟩
theorem fl_X1_21 : FL RX1 21 1 3 := ⟨(RX1, TX1, 4), rfl, nle rfl, tG1 (i := 78) (by decide +kernel) (by decide +kernel), uw_X1⟩
theorem pl_X1_21 : PL RX1 21 1 3 .int false := ⟨(RX1, TX1, 4), rfl, nle rfl, tG1 (i := 78) (by decide +kernel) (by decide +kernel), uw_X1, nmX1, ⟨tyX1, tyX1_ok⟩, rfl, by decide +kernel, (fun h => by cases h)⟩
theorem fl_X2_11 : FL RX2 11 2 0 := ⟨(RX2, TX2, 3), rfl, nle rfl, tG2 (i := 17) (by decide +kernel) (by decide +kernel), uw_X2⟩
theorem pl_X2_11 : PL RX2 11 2 0 (.array (.object "DanceFloors$Studio")) true := ⟨(RX2, TX2, 3), rfl, nle rfl, tG2 (i := 17) (by decide +kernel) (by decide +kernel), uw_X2, nmX2, ⟨tyX2, tyX2_ok⟩, rfl, by decide +kernel, (fun _ => rfl)⟩
theorem fl_X2_18 : FL RX2 18 2 1 := ⟨(RX2, TX2, 3), rfl, nle rfl, tG2 (i := 18) (by decide +kernel) (by decide +kernel), uw_X2⟩
theorem pl_X2_18 : PL RX2 18 2 1 .int false := ⟨(RX2, TX2, 3), rfl, nle rfl, tG2 (i := 18) (by decide +kernel) (by decide +kernel), uw_X2, nmX2, ⟨tyX2, tyX2_ok⟩, rfl, by decide +kernel, (fun h => by cases h)⟩
theorem fl_X2_22 : FL RX2 22 2 2 := ⟨(RX2, TX2, 3), rfl, nle rfl, tG2 (i := 19) (by decide +kernel) (by decide +kernel), uw_X2⟩
theorem pl_X2_22 : PL RX2 22 2 2 .int false := ⟨(RX2, TX2, 3), rfl, nle rfl, tG2 (i := 19) (by decide +kernel) (by decide +kernel), uw_X2, nmX2, ⟨tyX2, tyX2_ok⟩, rfl, by decide +kernel, (fun h => by cases h)⟩
theorem fl_X3_7 : FL RX3 7 3 0 := ⟨(RX3, TX3, 9), rfl, nle rfl, tG1 (i := 115) (by decide +kernel) (by decide +kernel), uw_X3⟩
theorem pl_X3_7 : PL RX3 7 3 0 .int false := ⟨(RX3, TX3, 9), rfl, nle rfl, tG1 (i := 115) (by decide +kernel) (by decide +kernel), uw_X3, nmX3, ⟨tyX3, tyX3_ok⟩, rfl, by decide +kernel, (fun h => by cases h)⟩
theorem fl_X3_13 : FL RX3 13 3 1 := ⟨(RX3, TX3, 9), rfl, nle rfl, tG1 (i := 118) (by decide +kernel) (by decide +kernel), uw_X3⟩
theorem pl_X3_13 : PL RX3 13 3 1 .int false := ⟨(RX3, TX3, 9), rfl, nle rfl, tG1 (i := 118) (by decide +kernel) (by decide +kernel), uw_X3, nmX3, ⟨tyX3, tyX3_ok⟩, rfl, by decide +kernel, (fun h => by cases h)⟩
theorem fl_X3_16 : FL RX3 16 3 2 := ⟨(RX3, TX3, 9), rfl, nle rfl, tG1 (i := 121) (by decide +kernel) (by decide +kernel), uw_X3⟩
theorem pl_X3_16 : PL RX3 16 3 2 .int false := ⟨(RX3, TX3, 9), rfl, nle rfl, tG1 (i := 121) (by decide +kernel) (by decide +kernel), uw_X3, nmX3, ⟨tyX3, tyX3_ok⟩, rfl, by decide +kernel, (fun h => by cases h)⟩
theorem fl_X3_19 : FL RX3 19 3 3 := ⟨(RX3, TX3, 9), rfl, nle rfl, tG1 (i := 124) (by decide +kernel) (by decide +kernel), uw_X3⟩
theorem pl_X3_19 : PL RX3 19 3 3 .int false := ⟨(RX3, TX3, 9), rfl, nle rfl, tG1 (i := 124) (by decide +kernel) (by decide +kernel), uw_X3, nmX3, ⟨tyX3, tyX3_ok⟩, rfl, by decide +kernel, (fun h => by cases h)⟩
theorem fl_X3_22 : FL RX3 22 3 4 := ⟨(RX3, TX3, 9), rfl, nle rfl, tG1 (i := 127) (by decide +kernel) (by decide +kernel), uw_X3⟩
theorem pl_X3_22 : PL RX3 22 3 4 .int false := ⟨(RX3, TX3, 9), rfl, nle rfl, tG1 (i := 127) (by decide +kernel) (by decide +kernel), uw_X3, nmX3, ⟨tyX3, tyX3_ok⟩, rfl, by decide +kernel, (fun h => by cases h)⟩
theorem fl_X3_25 : FL RX3 25 3 5 := ⟨(RX3, TX3, 9), rfl, nle rfl, tG1 (i := 130) (by decide +kernel) (by decide +kernel), uw_X3⟩
theorem pl_X3_25 : PL RX3 25 3 5 .int false := ⟨(RX3, TX3, 9), rfl, nle rfl, tG1 (i := 130) (by decide +kernel) (by decide +kernel), uw_X3, nmX3, ⟨tyX3, tyX3_ok⟩, rfl, by decide +kernel, (fun h => by cases h)⟩
theorem fl_X3_28 : FL RX3 28 3 6 := ⟨(RX3, TX3, 9), rfl, nle rfl, tG1 (i := 133) (by decide +kernel) (by decide +kernel), uw_X3⟩
theorem pl_X3_28 : PL RX3 28 3 6 .int false := ⟨(RX3, TX3, 9), rfl, nle rfl, tG1 (i := 133) (by decide +kernel) (by decide +kernel), uw_X3, nmX3, ⟨tyX3, tyX3_ok⟩, rfl, by decide +kernel, (fun h => by cases h)⟩
theorem fl_X3_31 : FL RX3 31 3 7 := ⟨(RX3, TX3, 9), rfl, nle rfl, tG1 (i := 135) (by decide +kernel) (by decide +kernel), uw_X3⟩
theorem pl_X3_31 : PL RX3 31 3 7 .int false := ⟨(RX3, TX3, 9), rfl, nle rfl, tG1 (i := 135) (by decide +kernel) (by decide +kernel), uw_X3, nmX3, ⟨tyX3, tyX3_ok⟩, rfl, by decide +kernel, (fun h => by cases h)⟩
theorem fl_X3_34 : FL RX3 34 3 8 := ⟨(RX3, TX3, 9), rfl, nle rfl, tG1 (i := 138) (by decide +kernel) (by decide +kernel), uw_X3⟩
theorem pl_X3_34 : PL RX3 34 3 8 .int false := ⟨(RX3, TX3, 9), rfl, nle rfl, tG1 (i := 138) (by decide +kernel) (by decide +kernel), uw_X3, nmX3, ⟨tyX3, tyX3_ok⟩, rfl, by decide +kernel, (fun h => by cases h)⟩
theorem fl_X4_11 : FL RX4 11 4 0 := ⟨(RX4, TX4, 14), rfl, nle rfl, tG1 (i := 192) (by decide +kernel) (by decide +kernel), uw_X4⟩
theorem pl_X4_11 : PL RX4 11 4 0 (.array (.object "DanceFloors$Floor")) true := ⟨(RX4, TX4, 14), rfl, nle rfl, tG1 (i := 192) (by decide +kernel) (by decide +kernel), uw_X4, nmX4, ⟨tyX4, tyX4_ok⟩, rfl, by decide +kernel, (fun _ => rfl)⟩
theorem fl_X4_20 : FL RX4 20 4 1 := ⟨(RX4, TX4, 14), rfl, nle rfl, tG1 (i := 194) (by decide +kernel) (by decide +kernel), uw_X4⟩
theorem pl_X4_20 : PL RX4 20 4 1 (.array (.object "DanceFloors$Teacher")) true := ⟨(RX4, TX4, 14), rfl, nle rfl, tG1 (i := 194) (by decide +kernel) (by decide +kernel), uw_X4, nmX4, ⟨tyX4, tyX4_ok⟩, rfl, by decide +kernel, (fun _ => rfl)⟩
theorem fl_X4_27 : FL RX4 27 4 2 := ⟨(RX4, TX4, 14), rfl, nle rfl, tG1 (i := 196) (by decide +kernel) (by decide +kernel), uw_X4⟩
theorem pl_X4_27 : PL RX4 27 4 2 (.array (.object "DanceFloors$Lesson")) true := ⟨(RX4, TX4, 14), rfl, nle rfl, tG1 (i := 196) (by decide +kernel) (by decide +kernel), uw_X4, nmX4, ⟨tyX4, tyX4_ok⟩, rfl, by decide +kernel, (fun _ => rfl)⟩
theorem fl_X4_34 : FL RX4 34 4 3 := ⟨(RX4, TX4, 14), rfl, nle rfl, tG1 (i := 198) (by decide +kernel) (by decide +kernel), uw_X4⟩
theorem pl_X4_34 : PL RX4 34 4 3 (.array (.object "DanceFloors$Dancer")) true := ⟨(RX4, TX4, 14), rfl, nle rfl, tG1 (i := 198) (by decide +kernel) (by decide +kernel), uw_X4, nmX4, ⟨tyX4, tyX4_ok⟩, rfl, by decide +kernel, (fun _ => rfl)⟩
theorem fl_X4_39 : FL RX4 39 4 4 := ⟨(RX4, TX4, 14), rfl, nle rfl, tG1 (i := 200) (by decide +kernel) (by decide +kernel), uw_X4⟩
theorem pl_X4_39 : PL RX4 39 4 4 (.array .int) true := ⟨(RX4, TX4, 14), rfl, nle rfl, tG1 (i := 200) (by decide +kernel) (by decide +kernel), uw_X4, nmX4, ⟨tyX4, tyX4_ok⟩, rfl, by decide +kernel, (fun _ => rfl)⟩
theorem fl_X4_46 : FL RX4 46 4 5 := ⟨(RX4, TX4, 14), rfl, nle rfl, tG1 (i := 202) (by decide +kernel) (by decide +kernel), uw_X4⟩
theorem pl_X4_46 : PL RX4 46 4 5 .int false := ⟨(RX4, TX4, 14), rfl, nle rfl, tG1 (i := 202) (by decide +kernel) (by decide +kernel), uw_X4, nmX4, ⟨tyX4, tyX4_ok⟩, rfl, by decide +kernel, (fun h => by cases h)⟩
theorem fl_X4_50 : FL RX4 50 4 6 := ⟨(RX4, TX4, 14), rfl, nle rfl, tG1 (i := 204) (by decide +kernel) (by decide +kernel), uw_X4⟩
theorem pl_X4_50 : PL RX4 50 4 6 .int false := ⟨(RX4, TX4, 14), rfl, nle rfl, tG1 (i := 204) (by decide +kernel) (by decide +kernel), uw_X4, nmX4, ⟨tyX4, tyX4_ok⟩, rfl, by decide +kernel, (fun h => by cases h)⟩
theorem fl_X4_53 : FL RX4 53 4 7 := ⟨(RX4, TX4, 14), rfl, nle rfl, tG1 (i := 206) (by decide +kernel) (by decide +kernel), uw_X4⟩
theorem pl_X4_53 : PL RX4 53 4 7 .int false := ⟨(RX4, TX4, 14), rfl, nle rfl, tG1 (i := 206) (by decide +kernel) (by decide +kernel), uw_X4, nmX4, ⟨tyX4, tyX4_ok⟩, rfl, by decide +kernel, (fun h => by cases h)⟩
theorem fl_X4_56 : FL RX4 56 4 8 := ⟨(RX4, TX4, 14), rfl, nle rfl, tG1 (i := 208) (by decide +kernel) (by decide +kernel), uw_X4⟩
theorem pl_X4_56 : PL RX4 56 4 8 .int false := ⟨(RX4, TX4, 14), rfl, nle rfl, tG1 (i := 208) (by decide +kernel) (by decide +kernel), uw_X4, nmX4, ⟨tyX4, tyX4_ok⟩, rfl, by decide +kernel, (fun h => by cases h)⟩
theorem fl_X4_59 : FL RX4 59 4 9 := ⟨(RX4, TX4, 14), rfl, nle rfl, tG1 (i := 210) (by decide +kernel) (by decide +kernel), uw_X4⟩
theorem pl_X4_59 : PL RX4 59 4 9 .int false := ⟨(RX4, TX4, 14), rfl, nle rfl, tG1 (i := 210) (by decide +kernel) (by decide +kernel), uw_X4, nmX4, ⟨tyX4, tyX4_ok⟩, rfl, by decide +kernel, (fun h => by cases h)⟩
theorem fl_X4_62 : FL RX4 62 4 10 := ⟨(RX4, TX4, 14), rfl, nle rfl, tG1 (i := 212) (by decide +kernel) (by decide +kernel), uw_X4⟩
theorem pl_X4_62 : PL RX4 62 4 10 .int false := ⟨(RX4, TX4, 14), rfl, nle rfl, tG1 (i := 212) (by decide +kernel) (by decide +kernel), uw_X4, nmX4, ⟨tyX4, tyX4_ok⟩, rfl, by decide +kernel, (fun h => by cases h)⟩
theorem fl_X4_65 : FL RX4 65 4 11 := ⟨(RX4, TX4, 14), rfl, nle rfl, tG1 (i := 214) (by decide +kernel) (by decide +kernel), uw_X4⟩
theorem pl_X4_65 : PL RX4 65 4 11 .int false := ⟨(RX4, TX4, 14), rfl, nle rfl, tG1 (i := 214) (by decide +kernel) (by decide +kernel), uw_X4, nmX4, ⟨tyX4, tyX4_ok⟩, rfl, by decide +kernel, (fun h => by cases h)⟩
theorem fl_X4_68 : FL RX4 68 4 12 := ⟨(RX4, TX4, 14), rfl, nle rfl, tG1 (i := 216) (by decide +kernel) (by decide +kernel), uw_X4⟩
theorem pl_X4_68 : PL RX4 68 4 12 .int false := ⟨(RX4, TX4, 14), rfl, nle rfl, tG1 (i := 216) (by decide +kernel) (by decide +kernel), uw_X4, nmX4, ⟨tyX4, tyX4_ok⟩, rfl, by decide +kernel, (fun h => by cases h)⟩
theorem fl_X4_71 : FL RX4 71 4 13 := ⟨(RX4, TX4, 14), rfl, nle rfl, tG1 (i := 218) (by decide +kernel) (by decide +kernel), uw_X4⟩
theorem pl_X4_71 : PL RX4 71 4 13 .int false := ⟨(RX4, TX4, 14), rfl, nle rfl, tG1 (i := 218) (by decide +kernel) (by decide +kernel), uw_X4, nmX4, ⟨tyX4, tyX4_ok⟩, rfl, by decide +kernel, (fun h => by cases h)⟩
theorem fl_X4_101 : FL RX4 101 0 2 := ⟨(RX0, TX0, 4), rfl, nle rfl, tG1 (i := 174) (by decide +kernel) (by decide +kernel), uw_X0⟩
theorem pl_X4_101 : PL RX4 101 0 2 .int false := ⟨(RX0, TX0, 4), rfl, nle rfl, tG1 (i := 174) (by decide +kernel) (by decide +kernel), uw_X0, nmX0, ⟨tyX0, tyX0_ok⟩, rfl, by decide +kernel, (fun h => by cases h)⟩
theorem pl_X4_104 : PL RX4 104 1 0 .int false := ⟨(RX1, TX1, 4), rfl, nle rfl, tG1 (i := 71) (by decide +kernel) (by decide +kernel), uw_X1, nmX1, ⟨tyX1, tyX1_ok⟩, rfl, by decide +kernel, (fun h => by cases h)⟩
theorem pl_X4_107 : PL RX4 107 1 1 .int false := ⟨(RX1, TX1, 4), rfl, nle rfl, tG1 (i := 74) (by decide +kernel) (by decide +kernel), uw_X1, nmX1, ⟨tyX1, tyX1_ok⟩, rfl, by decide +kernel, (fun h => by cases h)⟩
theorem pl_X4_110 : PL RX4 110 1 2 .int false := ⟨(RX1, TX1, 4), rfl, nle rfl, tG1 (i := 77) (by decide +kernel) (by decide +kernel), uw_X1, nmX1, ⟨tyX1, tyX1_ok⟩, rfl, by decide +kernel, (fun h => by cases h)⟩
theorem pl_X4_113 : PL RX4 113 1 3 .int false := ⟨(RX1, TX1, 4), rfl, nle rfl, tG1 (i := 80) (by decide +kernel) (by decide +kernel), uw_X1, nmX1, ⟨tyX1, tyX1_ok⟩, rfl, by decide +kernel, (fun h => by cases h)⟩
theorem pl_X4_116 : PL RX4 116 5 0 .int false := ⟨(RX5, TX5, 2), rfl, nle rfl, tG1 (i := 99) (by decide +kernel) (by decide +kernel), uw_X5, nmX5, ⟨tyX5, tyX5_ok⟩, rfl, by decide +kernel, (fun h => by cases h)⟩
theorem pl_X4_119 : PL RX4 119 5 1 .int false := ⟨(RX5, TX5, 2), rfl, nle rfl, tG1 (i := 102) (by decide +kernel) (by decide +kernel), uw_X5, nmX5, ⟨tyX5, tyX5_ok⟩, rfl, by decide +kernel, (fun h => by cases h)⟩
theorem fl_X4_122 : FL RX4 122 0 0 := ⟨(RX0, TX0, 4), rfl, nle rfl, tG1 (i := 169) (by decide +kernel) (by decide +kernel), uw_X0⟩
theorem pl_X4_122 : PL RX4 122 0 0 .int false := ⟨(RX0, TX0, 4), rfl, nle rfl, tG1 (i := 169) (by decide +kernel) (by decide +kernel), uw_X0, nmX0, ⟨tyX0, tyX0_ok⟩, rfl, by decide +kernel, (fun h => by cases h)⟩
theorem pl_X4_125 : PL RX4 125 0 1 .int false := ⟨(RX0, TX0, 4), rfl, nle rfl, tG1 (i := 172) (by decide +kernel) (by decide +kernel), uw_X0, nmX0, ⟨tyX0, tyX0_ok⟩, rfl, by decide +kernel, (fun h => by cases h)⟩
theorem fl_X4_128 : FL RX4 128 0 3 := ⟨(RX0, TX0, 4), rfl, nle rfl, tG1 (i := 178) (by decide +kernel) (by decide +kernel), uw_X0⟩
theorem pl_X4_128 : PL RX4 128 0 3 .int false := ⟨(RX0, TX0, 4), rfl, nle rfl, tG1 (i := 178) (by decide +kernel) (by decide +kernel), uw_X0, nmX0, ⟨tyX0, tyX0_ok⟩, rfl, by decide +kernel, (fun h => by cases h)⟩
theorem fl_X4_141 : FL RX4 141 3 0 := ⟨(RX3, TX3, 9), rfl, nle rfl, tG1 (i := 117) (by decide +kernel) (by decide +kernel), uw_X3⟩
theorem pl_X4_141 : PL RX4 141 3 0 .int false := ⟨(RX3, TX3, 9), rfl, nle rfl, tG1 (i := 117) (by decide +kernel) (by decide +kernel), uw_X3, nmX3, ⟨tyX3, tyX3_ok⟩, rfl, by decide +kernel, (fun h => by cases h)⟩
theorem fl_X4_144 : FL RX4 144 3 1 := ⟨(RX3, TX3, 9), rfl, nle rfl, tG1 (i := 120) (by decide +kernel) (by decide +kernel), uw_X3⟩
theorem pl_X4_144 : PL RX4 144 3 1 .int false := ⟨(RX3, TX3, 9), rfl, nle rfl, tG1 (i := 120) (by decide +kernel) (by decide +kernel), uw_X3, nmX3, ⟨tyX3, tyX3_ok⟩, rfl, by decide +kernel, (fun h => by cases h)⟩
theorem fl_X4_145 : FL RX4 145 3 2 := ⟨(RX3, TX3, 9), rfl, nle rfl, tG1 (i := 123) (by decide +kernel) (by decide +kernel), uw_X3⟩
theorem pl_X4_145 : PL RX4 145 3 2 .int false := ⟨(RX3, TX3, 9), rfl, nle rfl, tG1 (i := 123) (by decide +kernel) (by decide +kernel), uw_X3, nmX3, ⟨tyX3, tyX3_ok⟩, rfl, by decide +kernel, (fun h => by cases h)⟩
theorem fl_X4_148 : FL RX4 148 3 3 := ⟨(RX3, TX3, 9), rfl, nle rfl, tG1 (i := 126) (by decide +kernel) (by decide +kernel), uw_X3⟩
theorem pl_X4_148 : PL RX4 148 3 3 .int false := ⟨(RX3, TX3, 9), rfl, nle rfl, tG1 (i := 126) (by decide +kernel) (by decide +kernel), uw_X3, nmX3, ⟨tyX3, tyX3_ok⟩, rfl, by decide +kernel, (fun h => by cases h)⟩
theorem fl_X4_151 : FL RX4 151 3 4 := ⟨(RX3, TX3, 9), rfl, nle rfl, tG1 (i := 129) (by decide +kernel) (by decide +kernel), uw_X3⟩
theorem pl_X4_151 : PL RX4 151 3 4 .int false := ⟨(RX3, TX3, 9), rfl, nle rfl, tG1 (i := 129) (by decide +kernel) (by decide +kernel), uw_X3, nmX3, ⟨tyX3, tyX3_ok⟩, rfl, by decide +kernel, (fun h => by cases h)⟩
theorem fl_X4_154 : FL RX4 154 3 5 := ⟨(RX3, TX3, 9), rfl, nle rfl, tG1 (i := 132) (by decide +kernel) (by decide +kernel), uw_X3⟩
theorem pl_X4_154 : PL RX4 154 3 5 .int false := ⟨(RX3, TX3, 9), rfl, nle rfl, tG1 (i := 132) (by decide +kernel) (by decide +kernel), uw_X3, nmX3, ⟨tyX3, tyX3_ok⟩, rfl, by decide +kernel, (fun h => by cases h)⟩
theorem fl_X4_157 : FL RX4 157 3 6 := ⟨(RX3, TX3, 9), rfl, nle rfl, tG1 (i := 134) (by decide +kernel) (by decide +kernel), uw_X3⟩
theorem pl_X4_157 : PL RX4 157 3 6 .int false := ⟨(RX3, TX3, 9), rfl, nle rfl, tG1 (i := 134) (by decide +kernel) (by decide +kernel), uw_X3, nmX3, ⟨tyX3, tyX3_ok⟩, rfl, by decide +kernel, (fun h => by cases h)⟩
theorem fl_X4_160 : FL RX4 160 3 7 := ⟨(RX3, TX3, 9), rfl, nle rfl, tG1 (i := 137) (by decide +kernel) (by decide +kernel), uw_X3⟩
theorem pl_X4_160 : PL RX4 160 3 7 .int false := ⟨(RX3, TX3, 9), rfl, nle rfl, tG1 (i := 137) (by decide +kernel) (by decide +kernel), uw_X3, nmX3, ⟨tyX3, tyX3_ok⟩, rfl, by decide +kernel, (fun h => by cases h)⟩
theorem fl_X4_163 : FL RX4 163 3 8 := ⟨(RX3, TX3, 9), rfl, nle rfl, tG1 (i := 140) (by decide +kernel) (by decide +kernel), uw_X3⟩
theorem pl_X4_163 : PL RX4 163 3 8 .int false := ⟨(RX3, TX3, 9), rfl, nle rfl, tG1 (i := 140) (by decide +kernel) (by decide +kernel), uw_X3, nmX3, ⟨tyX3, tyX3_ok⟩, rfl, by decide +kernel, (fun h => by cases h)⟩
theorem fl_X5_7 : FL RX5 7 5 0 := ⟨(RX5, TX5, 2), rfl, nle rfl, tG1 (i := 97) (by decide +kernel) (by decide +kernel), uw_X5⟩
theorem pl_X5_7 : PL RX5 7 5 0 .int false := ⟨(RX5, TX5, 2), rfl, nle rfl, tG1 (i := 97) (by decide +kernel) (by decide +kernel), uw_X5, nmX5, ⟨tyX5, tyX5_ok⟩, rfl, by decide +kernel, (fun h => by cases h)⟩
theorem fl_X5_13 : FL RX5 13 5 1 := ⟨(RX5, TX5, 2), rfl, nle rfl, tG1 (i := 100) (by decide +kernel) (by decide +kernel), uw_X5⟩
theorem pl_X5_13 : PL RX5 13 5 1 .int false := ⟨(RX5, TX5, 2), rfl, nle rfl, tG1 (i := 100) (by decide +kernel) (by decide +kernel), uw_X5, nmX5, ⟨tyX5, tyX5_ok⟩, rfl, by decide +kernel, (fun h => by cases h)⟩
theorem fl_X6_9 : FL RX6 9 6 0 := ⟨(RX6, TX6, 6), rfl, nle rfl, tG1 (i := 32) (by decide +kernel) (by decide +kernel), uw_X6⟩
theorem pl_X6_9 : PL RX6 9 6 0 (.array .char) true := ⟨(RX6, TX6, 6), rfl, nle rfl, tG1 (i := 32) (by decide +kernel) (by decide +kernel), uw_X6, nmX6, ⟨tyX6, tyX6_ok⟩, rfl, by decide +kernel, (fun _ => rfl)⟩
theorem fl_X6_15 : FL RX6 15 6 1 := ⟨(RX6, TX6, 6), rfl, nle rfl, tG1 (i := 33) (by decide +kernel) (by decide +kernel), uw_X6⟩
theorem pl_X6_15 : PL RX6 15 6 1 (.array .int) true := ⟨(RX6, TX6, 6), rfl, nle rfl, tG1 (i := 33) (by decide +kernel) (by decide +kernel), uw_X6, nmX6, ⟨tyX6, tyX6_ok⟩, rfl, by decide +kernel, (fun _ => rfl)⟩
theorem fl_X6_19 : FL RX6 19 6 2 := ⟨(RX6, TX6, 6), rfl, nle rfl, tG1 (i := 35) (by decide +kernel) (by decide +kernel), uw_X6⟩
theorem pl_X6_19 : PL RX6 19 6 2 .int false := ⟨(RX6, TX6, 6), rfl, nle rfl, tG1 (i := 35) (by decide +kernel) (by decide +kernel), uw_X6, nmX6, ⟨tyX6, tyX6_ok⟩, rfl, by decide +kernel, (fun h => by cases h)⟩
theorem fl_X6_27 : FL RX6 27 6 3 := ⟨(RX6, TX6, 6), rfl, nle rfl, tG1 (i := 37) (by decide +kernel) (by decide +kernel), uw_X6⟩
theorem pl_X6_27 : PL RX6 27 6 3 .int false := ⟨(RX6, TX6, 6), rfl, nle rfl, tG1 (i := 37) (by decide +kernel) (by decide +kernel), uw_X6, nmX6, ⟨tyX6, tyX6_ok⟩, rfl, by decide +kernel, (fun h => by cases h)⟩
theorem fl_X6_36 : FL RX6 36 6 5 := ⟨(RX6, TX6, 6), rfl, nle rfl, tG1 (i := 40) (by decide +kernel) (by decide +kernel), uw_X6⟩
theorem pl_X6_36 : PL RX6 36 6 5 .char false := ⟨(RX6, TX6, 6), rfl, nle rfl, tG1 (i := 40) (by decide +kernel) (by decide +kernel), uw_X6, nmX6, ⟨tyX6, tyX6_ok⟩, rfl, by decide +kernel, (fun h => by cases h)⟩
theorem fl_X6_40 : FL RX6 40 6 4 := ⟨(RX6, TX6, 6), rfl, nle rfl, tG1 (i := 38) (by decide +kernel) (by decide +kernel), uw_X6⟩
theorem pl_X6_40 : PL RX6 40 6 4 .int false := ⟨(RX6, TX6, 6), rfl, nle rfl, tG1 (i := 38) (by decide +kernel) (by decide +kernel), uw_X6, nmX6, ⟨tyX6, tyX6_ok⟩, rfl, by decide +kernel, (fun h => by cases h)⟩
theorem fl_X7_10 : FL RX7 10 7 0 := ⟨(RX7, TX7, 6), rfl, nle rfl, tG2 (i := 28) (by decide +kernel) (by decide +kernel), uw_X7⟩
theorem pl_X7_10 : PL RX7 10 7 0 (.object "DanceFloors$Text") true := ⟨(RX7, TX7, 6), rfl, nle rfl, tG2 (i := 28) (by decide +kernel) (by decide +kernel), uw_X7, nmX7, ⟨tyX7, tyX7_ok⟩, rfl, by decide +kernel, (fun _ => rfl)⟩
theorem fl_X7_19 : FL RX7 19 7 1 := ⟨(RX7, TX7, 6), rfl, nle rfl, tG2 (i := 29) (by decide +kernel) (by decide +kernel), uw_X7⟩
theorem pl_X7_19 : PL RX7 19 7 1 (.object "DanceFloors$Studio") true := ⟨(RX7, TX7, 6), rfl, nle rfl, tG2 (i := 29) (by decide +kernel) (by decide +kernel), uw_X7, nmX7, ⟨tyX7, tyX7_ok⟩, rfl, by decide +kernel, (fun _ => rfl)⟩
theorem fl_X7_23 : FL RX7 23 7 2 := ⟨(RX7, TX7, 6), rfl, nle rfl, tG2 (i := 30) (by decide +kernel) (by decide +kernel), uw_X7⟩
theorem pl_X7_23 : PL RX7 23 7 2 (.object "DanceFloors$Studio") true := ⟨(RX7, TX7, 6), rfl, nle rfl, tG2 (i := 30) (by decide +kernel) (by decide +kernel), uw_X7, nmX7, ⟨tyX7, tyX7_ok⟩, rfl, by decide +kernel, (fun _ => rfl)⟩
theorem fl_X7_29 : FL RX7 29 7 3 := ⟨(RX7, TX7, 6), rfl, nle rfl, tG2 (i := 31) (by decide +kernel) (by decide +kernel), uw_X7⟩
theorem pl_X7_29 : PL RX7 29 7 3 (.object "DanceFloors$History") true := ⟨(RX7, TX7, 6), rfl, nle rfl, tG2 (i := 31) (by decide +kernel) (by decide +kernel), uw_X7, nmX7, ⟨tyX7, tyX7_ok⟩, rfl, by decide +kernel, (fun _ => rfl)⟩
theorem fl_X7_33 : FL RX7 33 7 4 := ⟨(RX7, TX7, 6), rfl, nle rfl, tG2 (i := 32) (by decide +kernel) (by decide +kernel), uw_X7⟩
theorem pl_X7_33 : PL RX7 33 7 4 (.array (.object "DanceFloors$Studio")) true := ⟨(RX7, TX7, 6), rfl, nle rfl, tG2 (i := 32) (by decide +kernel) (by decide +kernel), uw_X7, nmX7, ⟨tyX7, tyX7_ok⟩, rfl, by decide +kernel, (fun _ => rfl)⟩
theorem fl_X7_37 : FL RX7 37 7 5 := ⟨(RX7, TX7, 6), rfl, nle rfl, tG2 (i := 33) (by decide +kernel) (by decide +kernel), uw_X7⟩
theorem pl_X7_37 : PL RX7 37 7 5 (.array .boolean) true := ⟨(RX7, TX7, 6), rfl, nle rfl, tG2 (i := 33) (by decide +kernel) (by decide +kernel), uw_X7, nmX7, ⟨tyX7, tyX7_ok⟩, rfl, by decide +kernel, (fun _ => rfl)⟩
theorem fl_X7_49 : FL RX7 49 6 2 := ⟨(RX6, TX6, 6), rfl, nle rfl, tG1 (i := 36) (by decide +kernel) (by decide +kernel), uw_X6⟩
theorem fl_X7_80 : FL RX7 80 6 5 := ⟨(RX6, TX6, 6), rfl, nle rfl, tG1 (i := 39) (by decide +kernel) (by decide +kernel), uw_X6⟩
theorem fl_X7_84 : FL RX7 84 6 1 := ⟨(RX6, TX6, 6), rfl, nle rfl, tG1 (i := 34) (by decide +kernel) (by decide +kernel), uw_X6⟩
theorem fl_X7_92 : FL RX7 92 4 5 := ⟨(RX4, TX4, 14), rfl, nle rfl, tG1 (i := 203) (by decide +kernel) (by decide +kernel), uw_X4⟩
theorem fl_X7_95 : FL RX7 95 4 6 := ⟨(RX4, TX4, 14), rfl, nle rfl, tG1 (i := 205) (by decide +kernel) (by decide +kernel), uw_X4⟩
theorem fl_X7_98 : FL RX7 98 4 7 := ⟨(RX4, TX4, 14), rfl, nle rfl, tG1 (i := 207) (by decide +kernel) (by decide +kernel), uw_X4⟩
theorem fl_X7_101 : FL RX7 101 4 8 := ⟨(RX4, TX4, 14), rfl, nle rfl, tG1 (i := 209) (by decide +kernel) (by decide +kernel), uw_X4⟩
theorem fl_X7_104 : FL RX7 104 4 9 := ⟨(RX4, TX4, 14), rfl, nle rfl, tG1 (i := 211) (by decide +kernel) (by decide +kernel), uw_X4⟩
theorem fl_X7_119 : FL RX7 119 4 10 := ⟨(RX4, TX4, 14), rfl, nle rfl, tG1 (i := 213) (by decide +kernel) (by decide +kernel), uw_X4⟩
theorem fl_X7_122 : FL RX7 122 4 11 := ⟨(RX4, TX4, 14), rfl, nle rfl, tG1 (i := 215) (by decide +kernel) (by decide +kernel), uw_X4⟩
theorem fl_X7_125 : FL RX7 125 4 12 := ⟨(RX4, TX4, 14), rfl, nle rfl, tG1 (i := 217) (by decide +kernel) (by decide +kernel), uw_X4⟩
theorem fl_X7_142 : FL RX7 142 4 0 := ⟨(RX4, TX4, 14), rfl, nle rfl, tG1 (i := 193) (by decide +kernel) (by decide +kernel), uw_X4⟩
theorem fl_X7_146 : FL RX7 146 1 0 := ⟨(RX1, TX1, 4), rfl, nle rfl, tG1 (i := 70) (by decide +kernel) (by decide +kernel), uw_X1⟩
theorem fl_X7_151 : FL RX7 151 1 1 := ⟨(RX1, TX1, 4), rfl, nle rfl, tG1 (i := 73) (by decide +kernel) (by decide +kernel), uw_X1⟩
theorem fl_X7_154 : FL RX7 154 1 2 := ⟨(RX1, TX1, 4), rfl, nle rfl, tG1 (i := 76) (by decide +kernel) (by decide +kernel), uw_X1⟩
theorem fl_X7_157 : FL RX7 157 1 3 := ⟨(RX1, TX1, 4), rfl, nle rfl, tG1 (i := 79) (by decide +kernel) (by decide +kernel), uw_X1⟩
theorem fl_X7_167 : FL RX7 167 4 1 := ⟨(RX4, TX4, 14), rfl, nle rfl, tG1 (i := 195) (by decide +kernel) (by decide +kernel), uw_X4⟩
theorem fl_X7_171 : FL RX7 171 5 0 := ⟨(RX5, TX5, 2), rfl, nle rfl, tG1 (i := 98) (by decide +kernel) (by decide +kernel), uw_X5⟩
theorem fl_X7_176 : FL RX7 176 5 1 := ⟨(RX5, TX5, 2), rfl, nle rfl, tG1 (i := 101) (by decide +kernel) (by decide +kernel), uw_X5⟩
theorem fl_X7_188 : FL RX7 188 4 2 := ⟨(RX4, TX4, 14), rfl, nle rfl, tG1 (i := 197) (by decide +kernel) (by decide +kernel), uw_X4⟩
theorem fl_X7_192 : FL RX7 192 3 0 := ⟨(RX3, TX3, 9), rfl, nle rfl, tG1 (i := 116) (by decide +kernel) (by decide +kernel), uw_X3⟩
theorem fl_X7_197 : FL RX7 197 3 1 := ⟨(RX3, TX3, 9), rfl, nle rfl, tG1 (i := 119) (by decide +kernel) (by decide +kernel), uw_X3⟩
theorem fl_X7_200 : FL RX7 200 3 2 := ⟨(RX3, TX3, 9), rfl, nle rfl, tG1 (i := 122) (by decide +kernel) (by decide +kernel), uw_X3⟩
theorem fl_X7_203 : FL RX7 203 3 3 := ⟨(RX3, TX3, 9), rfl, nle rfl, tG1 (i := 125) (by decide +kernel) (by decide +kernel), uw_X3⟩
theorem fl_X7_206 : FL RX7 206 3 4 := ⟨(RX3, TX3, 9), rfl, nle rfl, tG1 (i := 128) (by decide +kernel) (by decide +kernel), uw_X3⟩
theorem fl_X7_209 : FL RX7 209 3 5 := ⟨(RX3, TX3, 9), rfl, nle rfl, tG1 (i := 131) (by decide +kernel) (by decide +kernel), uw_X3⟩
theorem fl_X7_217 : FL RX7 217 3 7 := ⟨(RX3, TX3, 9), rfl, nle rfl, tG1 (i := 136) (by decide +kernel) (by decide +kernel), uw_X3⟩
theorem fl_X7_220 : FL RX7 220 3 8 := ⟨(RX3, TX3, 9), rfl, nle rfl, tG1 (i := 139) (by decide +kernel) (by decide +kernel), uw_X3⟩
theorem fl_X7_226 : FL RX7 226 4 3 := ⟨(RX4, TX4, 14), rfl, nle rfl, tG1 (i := 199) (by decide +kernel) (by decide +kernel), uw_X4⟩
theorem fl_X7_230 : FL RX7 230 0 0 := ⟨(RX0, TX0, 4), rfl, nle rfl, tG1 (i := 168) (by decide +kernel) (by decide +kernel), uw_X0⟩
theorem fl_X7_233 : FL RX7 233 0 1 := ⟨(RX0, TX0, 4), rfl, nle rfl, tG1 (i := 171) (by decide +kernel) (by decide +kernel), uw_X0⟩
theorem fl_X7_236 : FL RX7 236 0 2 := ⟨(RX0, TX0, 4), rfl, nle rfl, tG1 (i := 175) (by decide +kernel) (by decide +kernel), uw_X0⟩
theorem fl_X7_242 : FL RX7 242 0 3 := ⟨(RX0, TX0, 4), rfl, nle rfl, tG1 (i := 177) (by decide +kernel) (by decide +kernel), uw_X0⟩
theorem fl_X7_251 : FL RX7 251 4 4 := ⟨(RX4, TX4, 14), rfl, nle rfl, tG1 (i := 201) (by decide +kernel) (by decide +kernel), uw_X4⟩
theorem fl_X7_302 : FL RX7 302 2 2 := ⟨(RX2, TX2, 3), rfl, nle rfl, tG2 (i := 20) (by decide +kernel) (by decide +kernel), uw_X2⟩
theorem fl_X8_7 : FL RX8 7 8 1 := ⟨(RX8, TX8, 9), rfl, nle rfl, tG5 (i := 0) (by decide +kernel) (by decide +kernel), uw_X8⟩
theorem pl_X8_7 : PL RX8 7 8 1 (.array .int) true := ⟨(RX8, TX8, 9), rfl, nle rfl, tG5 (i := 0) (by decide +kernel) (by decide +kernel), uw_X8, nmX8, ⟨tyX8, tyX8_ok⟩, rfl, by decide +kernel, (fun _ => rfl)⟩
theorem fl_X8_13 : FL RX8 13 8 3 := ⟨(RX8, TX8, 9), rfl, nle rfl, tG5 (i := 2) (by decide +kernel) (by decide +kernel), uw_X8⟩
theorem pl_X8_13 : PL RX8 13 8 3 (.array .int) true := ⟨(RX8, TX8, 9), rfl, nle rfl, tG5 (i := 2) (by decide +kernel) (by decide +kernel), uw_X8, nmX8, ⟨tyX8, tyX8_ok⟩, rfl, by decide +kernel, (fun _ => rfl)⟩
theorem fl_X8_16 : FL RX8 16 8 4 := ⟨(RX8, TX8, 9), rfl, nle rfl, tG5 (i := 3) (by decide +kernel) (by decide +kernel), uw_X8⟩
theorem pl_X8_16 : PL RX8 16 8 4 (.array .int) true := ⟨(RX8, TX8, 9), rfl, nle rfl, tG5 (i := 3) (by decide +kernel) (by decide +kernel), uw_X8, nmX8, ⟨tyX8, tyX8_ok⟩, rfl, by decide +kernel, (fun _ => rfl)⟩
theorem fl_X8_19 : FL RX8 19 8 8 := ⟨(RX8, TX8, 9), rfl, nle rfl, tG5 (i := 7) (by decide +kernel) (by decide +kernel), uw_X8⟩
theorem pl_X8_19 : PL RX8 19 8 8 (.array .int) true := ⟨(RX8, TX8, 9), rfl, nle rfl, tG5 (i := 7) (by decide +kernel) (by decide +kernel), uw_X8, nmX8, ⟨tyX8, tyX8_ok⟩, rfl, by decide +kernel, (fun _ => rfl)⟩
theorem fl_X8_25 : FL RX8 25 8 0 := ⟨(RX8, TX8, 9), rfl, nle rfl, tG4 (i := 239) (by decide +kernel) (by decide +kernel), uw_X8⟩
theorem pl_X8_25 : PL RX8 25 8 0 .int false := ⟨(RX8, TX8, 9), rfl, nle rfl, tG4 (i := 239) (by decide +kernel) (by decide +kernel), uw_X8, nmX8, ⟨tyX8, tyX8_ok⟩, rfl, by decide +kernel, (fun h => by cases h)⟩
theorem fl_X8_80 : FL RX8 80 8 2 := ⟨(RX8, TX8, 9), rfl, nle rfl, tG5 (i := 1) (by decide +kernel) (by decide +kernel), uw_X8⟩
theorem pl_X8_80 : PL RX8 80 8 2 .int false := ⟨(RX8, TX8, 9), rfl, nle rfl, tG5 (i := 1) (by decide +kernel) (by decide +kernel), uw_X8, nmX8, ⟨tyX8, tyX8_ok⟩, rfl, by decide +kernel, (fun h => by cases h)⟩
theorem fl_X8_86 : FL RX8 86 8 5 := ⟨(RX8, TX8, 9), rfl, nle rfl, tG5 (i := 4) (by decide +kernel) (by decide +kernel), uw_X8⟩
theorem pl_X8_86 : PL RX8 86 8 5 .int false := ⟨(RX8, TX8, 9), rfl, nle rfl, tG5 (i := 4) (by decide +kernel) (by decide +kernel), uw_X8, nmX8, ⟨tyX8, tyX8_ok⟩, rfl, by decide +kernel, (fun h => by cases h)⟩
theorem fl_X8_93 : FL RX8 93 8 6 := ⟨(RX8, TX8, 9), rfl, nle rfl, tG5 (i := 5) (by decide +kernel) (by decide +kernel), uw_X8⟩
theorem pl_X8_93 : PL RX8 93 8 6 .int false := ⟨(RX8, TX8, 9), rfl, nle rfl, tG5 (i := 5) (by decide +kernel) (by decide +kernel), uw_X8, nmX8, ⟨tyX8, tyX8_ok⟩, rfl, by decide +kernel, (fun h => by cases h)⟩
theorem fl_X8_102 : FL RX8 102 8 7 := ⟨(RX8, TX8, 9), rfl, nle rfl, tG5 (i := 6) (by decide +kernel) (by decide +kernel), uw_X8⟩
theorem pl_X8_102 : PL RX8 102 8 7 .int false := ⟨(RX8, TX8, 9), rfl, nle rfl, tG5 (i := 6) (by decide +kernel) (by decide +kernel), uw_X8, nmX8, ⟨tyX8, tyX8_ok⟩, rfl, by decide +kernel, (fun h => by cases h)⟩
theorem kc_X7_329 : Cond.constantLong RX7 329 100000 ∈ tblG := tG4 (i := 193) (by decide +kernel) (by decide +kernel)
theorem kc_X7_334 : Cond.constantLong RX7 334 6364136223846793005 ∈ tblG := tG4 (i := 205) (by decide +kernel) (by decide +kernel)
theorem kc_X7_336 : Cond.constantLong RX7 336 1442695040888963407 ∈ tblG := tG4 (i := 206) (by decide +kernel) (by decide +kernel)
theorem kc_L_206 : Cond.constantLong RL 206 4294967295 ∈ tblG := tG6 (i := 151) (by decide +kernel) (by decide +kernel)
theorem kc_X8_218 : Cond.constantLong RX8 218 100000 ∈ tblG := tG6 (i := 122) (by decide +kernel) (by decide +kernel)
theorem kc_X8_220 : Cond.constantLong RX8 220 10000000000 ∈ tblG := tG6 (i := 123) (by decide +kernel) (by decide +kernel)
theorem kc_X8_222 : Cond.constantLong RX8 222 1000000000000000 ∈ tblG := tG6 (i := 124) (by decide +kernel) (by decide +kernel)
theorem kc_X8_231 : Cond.constantLong RX8 231 6364136223846793005 ∈ tblG := tG6 (i := 133) (by decide +kernel) (by decide +kernel)
theorem kc_X8_233 : Cond.constantLong RX8 233 1442695040888963407 ∈ tblG := tG6 (i := 134) (by decide +kernel) (by decide +kernel)
theorem kc_J6_265 : Cond.constant RJ6 265 1431655765 ∈ tblG := tG2 (i := 164) (by decide +kernel) (by decide +kernel)
theorem kc_J6_266 : Cond.constant RJ6 266 858993459 ∈ tblG := tG2 (i := 165) (by decide +kernel) (by decide +kernel)
theorem kc_J6_267 : Cond.constant RJ6 267 252645135 ∈ tblG := tG2 (i := 166) (by decide +kernel) (by decide +kernel)
theorem bk_6 : (Int8.ofInt (6)).toInt32 = 6 := by decide
theorem bk_7 : (Int8.ofInt (7)).toInt32 = 7 := by decide
theorem bk_8 : (Int8.ofInt (8)).toInt32 = 8 := by decide
theorem bk_9 : (Int8.ofInt (9)).toInt32 = 9 := by decide
theorem bk_10 : (Int8.ofInt (10)).toInt32 = 10 := by decide
theorem bk_11 : (Int8.ofInt (11)).toInt32 = 11 := by decide
theorem bk_12 : (Int8.ofInt (12)).toInt32 = 12 := by decide
theorem bk_13 : (Int8.ofInt (13)).toInt32 = 13 := by decide
theorem bk_14 : (Int8.ofInt (14)).toInt32 = 14 := by decide
theorem bk_15 : (Int8.ofInt (15)).toInt32 = 15 := by decide
theorem bk_16 : (Int8.ofInt (16)).toInt32 = 16 := by decide
theorem bk_17 : (Int8.ofInt (17)).toInt32 = 17 := by decide
theorem bk_29 : (Int8.ofInt (29)).toInt32 = 29 := by decide
theorem bk_30 : (Int8.ofInt (30)).toInt32 = 30 := by decide
theorem bk_31 : (Int8.ofInt (31)).toInt32 = 31 := by decide
theorem bk_32 : (Int8.ofInt (32)).toInt32 = 32 := by decide
theorem bk_33 : (Int8.ofInt (33)).toInt32 = 33 := by decide
theorem bk_36 : (Int8.ofInt (36)).toInt32 = 36 := by decide
theorem bk_39 : (Int8.ofInt (39)).toInt32 = 39 := by decide
theorem bk_48 : (Int8.ofInt (48)).toInt32 = 48 := by decide
theorem bk_50 : (Int8.ofInt (50)).toInt32 = 50 := by decide
theorem bk_60 : (Int8.ofInt (60)).toInt32 = 60 := by decide
theorem bk_61 : (Int8.ofInt (61)).toInt32 = 61 := by decide
theorem bk_63 : (Int8.ofInt (63)).toInt32 = 63 := by decide
theorem bk_83 : (Int8.ofInt (83)).toInt32 = 83 := by decide
theorem bk_90 : (Int8.ofInt (90)).toInt32 = 90 := by decide
theorem bk_99 : (Int8.ofInt (99)).toInt32 = 99 := by decide
theorem bk_100 : (Int8.ofInt (100)).toInt32 = 100 := by decide
theorem bk_101 : (Int8.ofInt (101)).toInt32 = 101 := by decide
theorem bk_102 : (Int8.ofInt (102)).toInt32 = 102 := by decide
theorem bk_108 : (Int8.ofInt (108)).toInt32 = 108 := by decide
theorem bk_112 : (Int8.ofInt (112)).toInt32 = 112 := by decide
theorem bk_116 : (Int8.ofInt (116)).toInt32 = 116 := by decide
theorem bk_119 : (Int8.ofInt (119)).toInt32 = 119 := by decide
theorem bk_120 : (Int8.ofInt (120)).toInt32 = 120 := by decide
theorem ik_m1 : Int32.ofInt (-1) = -1 := by decide
theorem ik_0 : Int32.ofInt (0) = 0 := by decide
theorem ik_1 : Int32.ofInt (1) = 1 := by decide
theorem ik_2 : Int32.ofInt (2) = 2 := by decide
theorem ik_3 : Int32.ofInt (3) = 3 := by decide
theorem ik_4 : Int32.ofInt (4) = 4 := by decide
theorem ik_5 : Int32.ofInt (5) = 5 := by decide
theorem sk_128 : (Int16.ofInt (128)).toInt32 = 128 := by decide
theorem sk_129 : (Int16.ofInt (129)).toInt32 = 129 := by decide
theorem sk_189 : (Int16.ofInt (189)).toInt32 = 189 := by decide
theorem sk_255 : (Int16.ofInt (255)).toInt32 = 255 := by decide
theorem sk_256 : (Int16.ofInt (256)).toInt32 = 256 := by decide
theorem sk_1000 : (Int16.ofInt (1000)).toInt32 = 1000 := by decide
theorem sk_1024 : (Int16.ofInt (1024)).toInt32 = 1024 := by decide
theorem sk_3402 : (Int16.ofInt (3402)).toInt32 = 3402 := by decide
theorem sk_8192 : (Int16.ofInt (8192)).toInt32 = 8192 := by decide
theorem sk_10000 : (Int16.ofInt (10000)).toInt32 = 10000 := by decide
theorem sk_30001 : (Int16.ofInt (30001)).toInt32 = 30001 := by decide
theorem sk_30009 : (Int16.ofInt (30009)).toInt32 = 30009 := by decide
