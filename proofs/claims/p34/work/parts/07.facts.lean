theorem tM1 {w : Cond} (h : w ∈ tables_1_1) : w ∈ lw_tbl := List.mem_append_right _ (List.mem_append_left _ h)
theorem tG1 {w : Cond} {i : Nat} (h : tables_1_1[i]? = some w) (hg : goodWord w = true) : w ∈ tblG := List.mem_filter.mpr ⟨tM1 (List.mem_of_getElem? h), hg⟩
theorem tM2 {w : Cond} (h : w ∈ tables_1_2) : w ∈ lw_tbl := List.mem_append_right _ (List.mem_append_right _ (List.mem_append_left _ h))
theorem tG2 {w : Cond} {i : Nat} (h : tables_1_2[i]? = some w) (hg : goodWord w = true) : w ∈ tblG := List.mem_filter.mpr ⟨tM2 (List.mem_of_getElem? h), hg⟩
theorem tM3 {w : Cond} (h : w ∈ tables_1_3) : w ∈ lw_tbl := List.mem_append_right _ (List.mem_append_right _ (List.mem_append_right _ (List.mem_append_left _ h)))
theorem tG3 {w : Cond} {i : Nat} (h : tables_1_3[i]? = some w) (hg : goodWord w = true) : w ∈ tblG := List.mem_filter.mpr ⟨tM3 (List.mem_of_getElem? h), hg⟩
theorem tM4 {w : Cond} (h : w ∈ tables_1_4) : w ∈ lw_tbl := List.mem_append_right _ (List.mem_append_right _ (List.mem_append_right _ (List.mem_append_right _ (h))))
theorem tG4 {w : Cond} {i : Nat} (h : tables_1_4[i]? = some w) (hg : goodWord w = true) : w ∈ tblG := List.mem_filter.mpr ⟨tM4 (List.mem_of_getElem? h), hg⟩
theorem tGs {w : Cond} {i : Nat} (h : (k2_sels lw_privs)[i]? = some w) (hg : goodWord w = true) : w ∈ tblG := List.mem_filter.mpr ⟨List.mem_append_left _ (List.mem_of_getElem? h), hg⟩
def m_X0_init : MI := (yX0_init, cX0_init, 1, none, none, { frames := 1, cells := 0, slots := 0, locals := 24 })
def m_X0_copyFrom : MI := (yX0_copyFrom, cX0_copyFrom, 2, none, none, { frames := 0, cells := 0, slots := 0, locals := 0 })
def m_X0_usesSoFar : MI := (yX0_usesSoFar, cX0_usesSoFar, 1, some .int, none, { frames := 0, cells := 0, slots := 0, locals := 0 })
def m_X0_dance : MI := (yX0_dance, cX0_dance, 2, none, none, { frames := 0, cells := 0, slots := 0, locals := 0 })
def m_X0_riseWith : MI := (yX0_riseWith, cX0_riseWith, 2, none, none, { frames := 0, cells := 0, slots := 0, locals := 0 })
def m_X1_init : MI := (yX1_init, cX1_init, 1, none, none, { frames := 1, cells := 0, slots := 0, locals := 24 })
def m_X1_copyFrom : MI := (yX1_copyFrom, cX1_copyFrom, 2, none, none, { frames := 0, cells := 0, slots := 0, locals := 0 })
def m_X1_hasSpringFor : MI := (yX1_hasSpringFor, cX1_hasSpringFor, 3, some .boolean, none, { frames := 0, cells := 0, slots := 0, locals := 0 })
def m_X1_hasBarreFor : MI := (yX1_hasBarreFor, cX1_hasBarreFor, 3, some .boolean, none, { frames := 0, cells := 0, slots := 0, locals := 0 })
def m_X1_hasMirrorsFor : MI := (yX1_hasMirrorsFor, cX1_hasMirrorsFor, 3, some .boolean, none, { frames := 0, cells := 0, slots := 0, locals := 0 })
def m_X1_roomFor : MI := (yX1_roomFor, cX1_roomFor, 2, some .int, none, { frames := 1, cells := 0, slots := 0, locals := 21 })
def m_X2_init : MI := (yX2_init, cX2_init, 2, none, none, { frames := 3, cells := 519, slots := 2968, locals := 65 })
def m_X2_remember : MI := (yX2_remember, cX2_remember, 2, none, none, { frames := 3, cells := 0, slots := 0, locals := 64 })
def m_X2_takeBack : MI := (yX2_takeBack, cX2_takeBack, 2, some .int, none, { frames := 3, cells := 0, slots := 0, locals := 64 })
def m_X2_forgetAll : MI := (yX2_forgetAll, cX2_forgetAll, 1, none, none, { frames := 0, cells := 0, slots := 0, locals := 0 })
def m_X3_init : MI := (yX3_init, cX3_init, 1, none, none, { frames := 1, cells := 0, slots := 0, locals := 24 })
def m_X3_copyFrom : MI := (yX3_copyFrom, cX3_copyFrom, 2, none, none, { frames := 0, cells := 0, slots := 0, locals := 0 })
def m_X3_isAt : MI := (yX3_isAt, cX3_isAt, 3, some .boolean, none, { frames := 0, cells := 0, slots := 0, locals := 0 })
def m_X3_seatsDancer : MI := (yX3_seatsDancer, cX3_seatsDancer, 2, some .boolean, none, { frames := 0, cells := 0, slots := 0, locals := 0 })
def m_X3_countSeats : MI := (yX3_countSeats, cX3_countSeats, 1, some .int, none, { frames := 1, cells := 0, slots := 0, locals := 20 })
def m_X4_init : MI := (yX4_init, cX4_init, 2, none, none, { frames := 2, cells := 36, slots := 197, locals := 44 })
def m_X4_makeNew : MI := (yX4_makeNew, cX4_makeNew, 1, none, none, { frames := 0, cells := 0, slots := 0, locals := 0 })
def m_X4_copyFrom : MI := (yX4_copyFrom, cX4_copyFrom, 2, none, none, { frames := 2, cells := 0, slots := 0, locals := 43 })
def m_X4_copyRowsFrom : MI := (yX4_copyRowsFrom, cX4_copyRowsFrom, 3, none, none, { frames := 1, cells := 0, slots := 0, locals := 21 })
def m_X4_hasFloor : MI := (yX4_hasFloor, cX4_hasFloor, 2, some .boolean, none, { frames := 0, cells := 0, slots := 0, locals := 0 })
def m_X4_hasTeacher : MI := (yX4_hasTeacher, cX4_hasTeacher, 2, some .boolean, none, { frames := 0, cells := 0, slots := 0, locals := 0 })
def m_X4_hasLesson : MI := (yX4_hasLesson, cX4_hasLesson, 2, some .boolean, none, { frames := 0, cells := 0, slots := 0, locals := 0 })
def m_X4_hasDancer : MI := (yX4_hasDancer, cX4_hasDancer, 2, some .boolean, none, { frames := 0, cells := 0, slots := 0, locals := 0 })
def m_X4_hasSeat : MI := (yX4_hasSeat, cX4_hasSeat, 3, some .boolean, none, { frames := 1, cells := 0, slots := 0, locals := 21 })
def m_X4_mayHavePass : MI := (yX4_mayHavePass, cX4_mayHavePass, 2, some .boolean, none, { frames := 1, cells := 0, slots := 0, locals := 21 })
def m_X4_addFloor : MI := (yX4_addFloor, cX4_addFloor, 6, some .int, none, { frames := 0, cells := 0, slots := 0, locals := 0 })
def m_X4_addTeacher : MI := (yX4_addTeacher, cX4_addTeacher, 4, some .int, none, { frames := 0, cells := 0, slots := 0, locals := 0 })
def m_X4_addDancer : MI := (yX4_addDancer, cX4_addDancer, 2, some .int, none, { frames := 0, cells := 0, slots := 0, locals := 0 })
def m_X4_addLesson : MI := (yX4_addLesson, cX4_addLesson, 9, some .int, none, { frames := 3, cells := 0, slots := 0, locals := 72 })
def m_X4_dropLesson : MI := (yX4_dropLesson, cX4_dropLesson, 4, some .int, none, { frames := 2, cells := 0, slots := 0, locals := 40 })
def m_X4_givePass : MI := (yX4_givePass, cX4_givePass, 2, some .int, none, { frames := 2, cells := 0, slots := 0, locals := 42 })
def m_X4_takeSeat : MI := (yX4_takeSeat, cX4_takeSeat, 4, some .int, none, { frames := 4, cells := 0, slots := 0, locals := 86 })
def m_X4_giveUpSeat : MI := (yX4_giveUpSeat, cX4_giveUpSeat, 3, some .int, none, { frames := 2, cells := 0, slots := 0, locals := 43 })
def m_X4_countRefusal : MI := (yX4_countRefusal, cX4_countRefusal, 2, some .int, none, { frames := 0, cells := 0, slots := 0, locals := 0 })
def m_X4_reasonAgainstLesson : MI := (yX4_reasonAgainstLesson, cX4_reasonAgainstLesson, 7, some .int, none, { frames := 2, cells := 0, slots := 0, locals := 46 })
def m_X4_isFloorInUse : MI := (yX4_isFloorInUse, cX4_isFloorInUse, 5, some .boolean, none, { frames := 1, cells := 0, slots := 0, locals := 22 })
def m_X4_isTeacherInUse : MI := (yX4_isTeacherInUse, cX4_isTeacherInUse, 5, some .boolean, none, { frames := 1, cells := 0, slots := 0, locals := 22 })
def m_X4_reasonAgainstSeat : MI := (yX4_reasonAgainstSeat, cX4_reasonAgainstSeat, 4, some .int, none, { frames := 3, cells := 0, slots := 0, locals := 63 })
def m_X4_isDancerSeatedAt : MI := (yX4_isDancerSeatedAt, cX4_isDancerSeatedAt, 5, some .boolean, none, { frames := 1, cells := 0, slots := 0, locals := 22 })
def m_X4_roomIn : MI := (yX4_roomIn, cX4_roomIn, 2, some .int, none, { frames := 2, cells := 0, slots := 0, locals := 42 })
def m_X4_roomiestFloor : MI := (yX4_roomiestFloor, cX4_roomiestFloor, 10, some .int, none, { frames := 3, cells := 0, slots := 0, locals := 72 })
def m_X4_passWeeks : MI := (yX4_passWeeks, cX4_passWeeks, 4, some .int, none, { frames := 4, cells := 0, slots := 0, locals := 90 })
def m_X4_passWeek : MI := (yX4_passWeek, cX4_passWeek, 3, some .int, none, { frames := 3, cells := 0, slots := 0, locals := 68 })
def m_X4_holdLesson : MI := (yX4_holdLesson, cX4_holdLesson, 5, some .int, none, { frames := 2, cells := 0, slots := 0, locals := 44 })
def m_X4_comersOf : MI := (yX4_comersOf, cX4_comersOf, 4, some .int, none, { frames := 1, cells := 0, slots := 0, locals := 21 })
def m_X4_countSeats : MI := (yX4_countSeats, cX4_countSeats, 3, some .int, none, { frames := 2, cells := 0, slots := 0, locals := 40 })
def m_X4_countSeatsOfDancer : MI := (yX4_countSeatsOfDancer, cX4_countSeatsOfDancer, 4, some .int, none, { frames := 1, cells := 0, slots := 0, locals := 21 })
def m_X4_countLessonsOnFloor : MI := (yX4_countLessonsOnFloor, cX4_countLessonsOnFloor, 4, some .int, none, { frames := 0, cells := 0, slots := 0, locals := 0 })
def m_X4_countLessonsOfTeacher : MI := (yX4_countLessonsOfTeacher, cX4_countLessonsOfTeacher, 4, some .int, none, { frames := 0, cells := 0, slots := 0, locals := 0 })
def m_X4_countDaysOfTeacher : MI := (yX4_countDaysOfTeacher, cX4_countDaysOfTeacher, 4, some .int, none, { frames := 1, cells := 0, slots := 0, locals := 20 })
def m_X4_countPasses : MI := (yX4_countPasses, cX4_countPasses, 3, some .int, none, { frames := 0, cells := 0, slots := 0, locals := 0 })
def m_X4_countLeft : MI := (yX4_countLeft, cX4_countLeft, 3, some .int, none, { frames := 0, cells := 0, slots := 0, locals := 0 })
def m_X4_countUsesByDancers : MI := (yX4_countUsesByDancers, cX4_countUsesByDancers, 3, some .int, none, { frames := 1, cells := 0, slots := 0, locals := 20 })
def m_X4_countUsesByLessons : MI := (yX4_countUsesByLessons, cX4_countUsesByLessons, 3, some .int, none, { frames := 0, cells := 0, slots := 0, locals := 0 })
def m_X5_init : MI := (yX5_init, cX5_init, 1, none, none, { frames := 1, cells := 0, slots := 0, locals := 24 })
def m_X5_copyFrom : MI := (yX5_copyFrom, cX5_copyFrom, 2, none, none, { frames := 0, cells := 0, slots := 0, locals := 0 })
def m_X5_teaches : MI := (yX5_teaches, cX5_teaches, 3, some .boolean, none, { frames := 0, cells := 0, slots := 0, locals := 0 })
def m_X6_init : MI := (yX6_init, cX6_init, 1, none, none, { frames := 1, cells := 2, slots := 126, locals := 24 })
def m_X6_findError : MI := (yX6_findError, cX6_findError, 2, some .int, none, { frames := 5, cells := 0, slots := 0, locals := 108 })
def m_X6_hasMore : MI := (yX6_hasMore, cX6_hasMore, 1, some .boolean, none, { frames := 0, cells := 0, slots := 0, locals := 0 })
def m_X6_readStart : MI := (yX6_readStart, cX6_readStart, 1, some .boolean, none, { frames := 1, cells := 0, slots := 0, locals := 20 })
def m_X6_readCommand : MI := (yX6_readCommand, cX6_readCommand, 1, some .boolean, none, { frames := 4, cells := 0, slots := 0, locals := 88 })
def m_X6_readKind : MI := (yX6_readKind, cX6_readKind, 1, some .boolean, none, { frames := 3, cells := 0, slots := 0, locals := 67 })
def m_X6_readPlace : MI := (yX6_readPlace, cX6_readPlace, 1, some .boolean, none, { frames := 3, cells := 0, slots := 0, locals := 67 })
def m_X6_readLesson : MI := (yX6_readLesson, cX6_readLesson, 1, some .boolean, none, { frames := 3, cells := 0, slots := 0, locals := 67 })
def m_X6_readDancer : MI := (yX6_readDancer, cX6_readDancer, 1, some .boolean, none, { frames := 3, cells := 0, slots := 0, locals := 68 })
def m_X6_readDigit : MI := (yX6_readDigit, cX6_readDigit, 4, some .boolean, none, { frames := 2, cells := 0, slots := 0, locals := 44 })
def m_X6_readTwoDigits : MI := (yX6_readTwoDigits, cX6_readTwoDigits, 5, some .boolean, none, { frames := 2, cells := 0, slots := 0, locals := 44 })
def m_X6_digitWithin : MI := (yX6_digitWithin, cX6_digitWithin, 3, some .int, none, { frames := 1, cells := 0, slots := 0, locals := 22 })
def m_X6_keepNumber : MI := (yX6_keepNumber, cX6_keepNumber, 2, some .boolean, none, { frames := 0, cells := 0, slots := 0, locals := 0 })
def m_X7_init : MI := (yX7_init, cX7_init, 2, none, none, { frames := 4, cells := 673, slots := 3951, locals := 86 })
def m_X7_errorPosition : MI := (yX7_errorPosition, cX7_errorPosition, 1, some .int, none, { frames := 6, cells := 0, slots := 0, locals := 129 })
def m_X7_about : MI := (yX7_about, cX7_about, 2, some .int, none, { frames := 3, cells := 0, slots := 0, locals := 62 })
def m_X7_floorOf : MI := (yX7_floorOf, cX7_floorOf, 4, some .int, none, { frames := 1, cells := 0, slots := 0, locals := 23 })
def m_X7_teacherOf : MI := (yX7_teacherOf, cX7_teacherOf, 4, some .int, none, { frames := 2, cells := 0, slots := 0, locals := 43 })
def m_X7_classOf : MI := (yX7_classOf, cX7_classOf, 4, some .int, none, { frames := 3, cells := 0, slots := 0, locals := 63 })
def m_X7_dancerOf : MI := (yX7_dancerOf, cX7_dancerOf, 4, some .int, none, { frames := 2, cells := 0, slots := 0, locals := 44 })
def m_X7_uses : MI := (yX7_uses, cX7_uses, 2, some .int, none, { frames := 2, cells := 0, slots := 0, locals := 42 })
def m_X7_setting : MI := (yX7_setting, cX7_setting, 2, some .int, none, { frames := 1, cells := 0, slots := 0, locals := 22 })
def m_X7_floor : MI := (yX7_floor, cX7_floor, 5, some .int, none, { frames := 4, cells := 0, slots := 0, locals := 85 })
def m_X7_teacher : MI := (yX7_teacher, cX7_teacher, 3, some .int, none, { frames := 4, cells := 0, slots := 0, locals := 85 })
def m_X7_set : MI := (yX7_set, cX7_set, 7, some .int, none, { frames := 4, cells := 0, slots := 0, locals := 100 })
def m_X7_drop : MI := (yX7_drop, cX7_drop, 2, some .int, none, { frames := 4, cells := 0, slots := 0, locals := 85 })
def m_X7_dancer : MI := (yX7_dancer, cX7_dancer, 1, some .int, none, { frames := 4, cells := 0, slots := 0, locals := 85 })
def m_X7_pass : MI := (yX7_pass, cX7_pass, 2, some .int, none, { frames := 4, cells := 0, slots := 0, locals := 85 })
def m_X7_enter : MI := (yX7_enter, cX7_enter, 3, some .int, none, { frames := 5, cells := 0, slots := 0, locals := 109 })
def m_X7_leave : MI := (yX7_leave, cX7_leave, 3, some .int, none, { frames := 4, cells := 0, slots := 0, locals := 85 })
def m_X7_weeks : MI := (yX7_weeks, cX7_weeks, 2, some .int, none, { frames := 5, cells := 0, slots := 0, locals := 113 })
def m_X7_tune : MI := (yX7_tune, cX7_tune, 4, some .int, none, { frames := 4, cells := 0, slots := 0, locals := 85 })
def m_X7_undo : MI := (yX7_undo, cX7_undo, 1, some .int, none, { frames := 4, cells := 0, slots := 0, locals := 85 })
def m_X7_why : MI := (yX7_why, cX7_why, 7, some .int, none, { frames := 3, cells := 0, slots := 0, locals := 72 })
def m_X7_whySeat : MI := (yX7_whySeat, cX7_whySeat, 3, some .int, none, { frames := 4, cells := 0, slots := 0, locals := 86 })
def m_X7_bestFloor : MI := (yX7_bestFloor, cX7_bestFloor, 6, some .int, none, { frames := 4, cells := 0, slots := 0, locals := 101 })
def m_X7_emptyIn : MI := (yX7_emptyIn, cX7_emptyIn, 3, some .int, none, { frames := 4, cells := 0, slots := 0, locals := 90 })
def m_X7_held : MI := (yX7_held, cX7_held, 3, some .int, none, { frames := 4, cells := 0, slots := 0, locals := 90 })
def m_X7_runScript : MI := (yX7_runScript, cX7_runScript, 5, some .int, none, { frames := 6, cells := 0, slots := 0, locals := 139 })
def m_X7_simulate : MI := (yX7_simulate, cX7_simulate, 8, some .int, none, { frames := 6, cells := 0, slots := 0, locals := 135 })
def m_X7_save : MI := (yX7_save, cX7_save, 2, some .int, none, { frames := 3, cells := 0, slots := 0, locals := 64 })
def m_X7_restore : MI := (yX7_restore, cX7_restore, 2, some .int, none, { frames := 3, cells := 0, slots := 0, locals := 64 })
def m_X7_isWithin : MI := (yX7_isWithin, cX7_isWithin, 3, some .boolean, none, { frames := 0, cells := 0, slots := 0, locals := 0 })
def m_X7_requireIndex : MI := (yX7_requireIndex, cX7_requireIndex, 1, none, none, { frames := 0, cells := 0, slots := 0, locals := 0 })
def m_X7_requireArgument : MI := (yX7_requireArgument, cX7_requireArgument, 1, none, none, { frames := 0, cells := 0, slots := 0, locals := 0 })
def m_X7_requireState : MI := (yX7_requireState, cX7_requireState, 1, none, none, { frames := 0, cells := 0, slots := 0, locals := 0 })
def m_X7_requireLessonArguments : MI := (yX7_requireLessonArguments, cX7_requireLessonArguments, 4, none, none, { frames := 1, cells := 0, slots := 0, locals := 22 })
def m_X7_withoutGroups : MI := (yX7_withoutGroups, cX7_withoutGroups, 6, some .long, none, { frames := 0, cells := 0, slots := 0, locals := 0 })
def m_X7_tryGroup : MI := (yX7_tryGroup, cX7_tryGroup, 7, some .boolean, none, { frames := 5, cells := 0, slots := 0, locals := 113 })
def m_X7_tryTurn : MI := (yX7_tryTurn, cX7_tryTurn, 3, some .int, none, { frames := 5, cells := 0, slots := 0, locals := 113 })
def m_X7_tryLeaving : MI := (yX7_tryLeaving, cX7_tryLeaving, 2, none, none, { frames := 3, cells := 0, slots := 0, locals := 65 })
def m_J6_bitCount_0f7a4 : MI := (yJ6_bitCount_0f7a4, cJ6_bitCount_0f7a4, 1, some .int, none, { frames := 0, cells := 0, slots := 0, locals := 0 })
def m_J9_max_7cf53 : MI := (yJ9_max_7cf53, cJ9_max_7cf53, 2, some .int, none, { frames := 0, cells := 0, slots := 0, locals := 0 })
def m_J9_min_7cf53 : MI := (yJ9_min_7cf53, cJ9_min_7cf53, 2, some .int, none, { frames := 0, cells := 0, slots := 0, locals := 0 })
def m_L_cell : MI := (yL_cell, cL_cell, 2, some .int, none, { frames := 0, cells := 0, slots := 0, locals := 0 })
def m_L_up : MI := (yL_up, cL_up, 2, some .int, none, { frames := 0, cells := 0, slots := 0, locals := 0 })
def m_L_looks : MI := (yL_looks, cL_looks, 4, some .long, none, { frames := 4, cells := 0, slots := 0, locals := 86 })
def m_L_act : MI := (yL_act, cL_act, 13, some .int, none, { frames := 6, cells := 0, slots := 0, locals := 134 })
def m_L_sums : MI := (yL_sums, cL_sums, 3, some (.array .int), none, { frames := 4, cells := 1, slots := 6, locals := 86 })
def m_L_holds : MI := (yL_holds, cL_holds, 10, some .boolean, none, { frames := 7, cells := 1, slots := 6, locals := 149 })
def m_L_isAhead : MI := (yL_isAhead, cL_isAhead, 16, some .boolean, none, { frames := 7, cells := 0, slots := 0, locals := 163 })
def m_L_law : MI := (x, code, maxLocals, ret, none, room_1)
theorem cw_X0_init : cwOf m_X0_init ∈ tblG := tG1 (i := 161) (by decide +kernel) (by decide +kernel)
theorem mk_X0_init : MK m_X0_init 0 := ⟨cw_X0_init, tG1 (i := 7) (by decide +kernel) (by decide +kernel), rfl, by decide +kernel⟩
theorem im_X0_init : Cond.instanceMethod (m_X0_init.1) ∈ tblG := tG1 (i := 160) (by decide +kernel) (by decide +kernel)
theorem cw_X0_copyFrom : cwOf m_X0_copyFrom ∈ tblG := tG2 (i := 146) (by decide +kernel) (by decide +kernel)
theorem mk_X0_copyFrom : MK m_X0_copyFrom 1 := ⟨cw_X0_copyFrom, tG1 (i := 7) (by decide +kernel) (by decide +kernel), rfl, by decide +kernel⟩
theorem im_X0_copyFrom : Cond.instanceMethod (m_X0_copyFrom.1) ∈ tblG := tG2 (i := 144) (by decide +kernel) (by decide +kernel)
theorem se_X0_copyFrom : Cond.selects m_X0_copyFrom.1.cls m_X0_copyFrom.1 m_X0_copyFrom.1 ∈ tblG := tG2 (i := 145) (by decide +kernel) (by decide +kernel)
theorem cw_X0_usesSoFar : cwOf m_X0_usesSoFar ∈ tblG := tG2 (i := 220) (by decide +kernel) (by decide +kernel)
theorem mk_X0_usesSoFar : MK m_X0_usesSoFar 0 := ⟨cw_X0_usesSoFar, tG1 (i := 7) (by decide +kernel) (by decide +kernel), rfl, by decide +kernel⟩
theorem im_X0_usesSoFar : Cond.instanceMethod (m_X0_usesSoFar.1) ∈ tblG := tG2 (i := 218) (by decide +kernel) (by decide +kernel)
theorem se_X0_usesSoFar : Cond.selects m_X0_usesSoFar.1.cls m_X0_usesSoFar.1 m_X0_usesSoFar.1 ∈ tblG := tG2 (i := 219) (by decide +kernel) (by decide +kernel)
theorem cw_X0_dance : cwOf m_X0_dance ∈ tblG := tG3 (i := 213) (by decide +kernel) (by decide +kernel)
theorem mk_X0_dance : MK m_X0_dance 1 := ⟨cw_X0_dance, tG1 (i := 7) (by decide +kernel) (by decide +kernel), rfl, by decide +kernel⟩
theorem im_X0_dance : Cond.instanceMethod (m_X0_dance.1) ∈ tblG := tG3 (i := 211) (by decide +kernel) (by decide +kernel)
theorem se_X0_dance : Cond.selects m_X0_dance.1.cls m_X0_dance.1 m_X0_dance.1 ∈ tblG := tG3 (i := 212) (by decide +kernel) (by decide +kernel)
theorem cw_X0_riseWith : cwOf m_X0_riseWith ∈ tblG := tG3 (i := 217) (by decide +kernel) (by decide +kernel)
theorem mk_X0_riseWith : MK m_X0_riseWith 1 := ⟨cw_X0_riseWith, tG1 (i := 7) (by decide +kernel) (by decide +kernel), rfl, by decide +kernel⟩
theorem im_X0_riseWith : Cond.instanceMethod (m_X0_riseWith.1) ∈ tblG := tG3 (i := 215) (by decide +kernel) (by decide +kernel)
theorem se_X0_riseWith : Cond.selects m_X0_riseWith.1.cls m_X0_riseWith.1 m_X0_riseWith.1 ∈ tblG := tG3 (i := 216) (by decide +kernel) (by decide +kernel)
theorem cw_X1_init : cwOf m_X1_init ∈ tblG := tG1 (i := 63) (by decide +kernel) (by decide +kernel)
theorem mk_X1_init : MK m_X1_init 0 := ⟨cw_X1_init, tG1 (i := 4) (by decide +kernel) (by decide +kernel), rfl, by decide +kernel⟩
theorem im_X1_init : Cond.instanceMethod (m_X1_init.1) ∈ tblG := tG1 (i := 62) (by decide +kernel) (by decide +kernel)
theorem cw_X1_copyFrom : cwOf m_X1_copyFrom ∈ tblG := tG2 (i := 134) (by decide +kernel) (by decide +kernel)
theorem mk_X1_copyFrom : MK m_X1_copyFrom 1 := ⟨cw_X1_copyFrom, tG1 (i := 4) (by decide +kernel) (by decide +kernel), rfl, by decide +kernel⟩
theorem im_X1_copyFrom : Cond.instanceMethod (m_X1_copyFrom.1) ∈ tblG := tG2 (i := 132) (by decide +kernel) (by decide +kernel)
theorem se_X1_copyFrom : Cond.selects m_X1_copyFrom.1.cls m_X1_copyFrom.1 m_X1_copyFrom.1 ∈ tblG := tG2 (i := 133) (by decide +kernel) (by decide +kernel)
theorem cw_X1_hasSpringFor : cwOf m_X1_hasSpringFor ∈ tblG := tG3 (i := 144) (by decide +kernel) (by decide +kernel)
theorem mk_X1_hasSpringFor : MK m_X1_hasSpringFor 2 := ⟨cw_X1_hasSpringFor, tG1 (i := 4) (by decide +kernel) (by decide +kernel), rfl, by decide +kernel⟩
theorem im_X1_hasSpringFor : Cond.instanceMethod (m_X1_hasSpringFor.1) ∈ tblG := tG3 (i := 142) (by decide +kernel) (by decide +kernel)
theorem se_X1_hasSpringFor : Cond.selects m_X1_hasSpringFor.1.cls m_X1_hasSpringFor.1 m_X1_hasSpringFor.1 ∈ tblG := tG3 (i := 143) (by decide +kernel) (by decide +kernel)
theorem cw_X1_hasBarreFor : cwOf m_X1_hasBarreFor ∈ tblG := tG3 (i := 148) (by decide +kernel) (by decide +kernel)
theorem mk_X1_hasBarreFor : MK m_X1_hasBarreFor 2 := ⟨cw_X1_hasBarreFor, tG1 (i := 4) (by decide +kernel) (by decide +kernel), rfl, by decide +kernel⟩
theorem im_X1_hasBarreFor : Cond.instanceMethod (m_X1_hasBarreFor.1) ∈ tblG := tG3 (i := 146) (by decide +kernel) (by decide +kernel)
theorem se_X1_hasBarreFor : Cond.selects m_X1_hasBarreFor.1.cls m_X1_hasBarreFor.1 m_X1_hasBarreFor.1 ∈ tblG := tG3 (i := 147) (by decide +kernel) (by decide +kernel)
theorem cw_X1_hasMirrorsFor : cwOf m_X1_hasMirrorsFor ∈ tblG := tG3 (i := 152) (by decide +kernel) (by decide +kernel)
theorem mk_X1_hasMirrorsFor : MK m_X1_hasMirrorsFor 2 := ⟨cw_X1_hasMirrorsFor, tG1 (i := 4) (by decide +kernel) (by decide +kernel), rfl, by decide +kernel⟩
theorem im_X1_hasMirrorsFor : Cond.instanceMethod (m_X1_hasMirrorsFor.1) ∈ tblG := tG3 (i := 150) (by decide +kernel) (by decide +kernel)
theorem se_X1_hasMirrorsFor : Cond.selects m_X1_hasMirrorsFor.1.cls m_X1_hasMirrorsFor.1 m_X1_hasMirrorsFor.1 ∈ tblG := tG3 (i := 151) (by decide +kernel) (by decide +kernel)
theorem cw_X1_roomFor : cwOf m_X1_roomFor ∈ tblG := tG3 (i := 16) (by decide +kernel) (by decide +kernel)
theorem mk_X1_roomFor : MK m_X1_roomFor 1 := ⟨cw_X1_roomFor, tG1 (i := 4) (by decide +kernel) (by decide +kernel), rfl, by decide +kernel⟩
theorem im_X1_roomFor : Cond.instanceMethod (m_X1_roomFor.1) ∈ tblG := tG3 (i := 14) (by decide +kernel) (by decide +kernel)
theorem se_X1_roomFor : Cond.selects m_X1_roomFor.1.cls m_X1_roomFor.1 m_X1_roomFor.1 ∈ tblG := tG3 (i := 15) (by decide +kernel) (by decide +kernel)
theorem cw_X2_init : cwOf m_X2_init ∈ tblG := tG2 (i := 8) (by decide +kernel) (by decide +kernel)
theorem mk_X2_init : MK m_X2_init 0 := ⟨cw_X2_init, tG1 (i := 8) (by decide +kernel) (by decide +kernel), rfl, by decide +kernel⟩
theorem im_X2_init : Cond.instanceMethod (m_X2_init.1) ∈ tblG := tG2 (i := 7) (by decide +kernel) (by decide +kernel)
theorem cw_X2_remember : cwOf m_X2_remember ∈ tblG := tG3 (i := 89) (by decide +kernel) (by decide +kernel)
theorem mk_X2_remember : MK m_X2_remember 1 := ⟨cw_X2_remember, tG1 (i := 8) (by decide +kernel) (by decide +kernel), rfl, by decide +kernel⟩
theorem im_X2_remember : Cond.instanceMethod (m_X2_remember.1) ∈ tblG := tG3 (i := 87) (by decide +kernel) (by decide +kernel)
theorem se_X2_remember : Cond.selects m_X2_remember.1.cls m_X2_remember.1 m_X2_remember.1 ∈ tblG := tG3 (i := 88) (by decide +kernel) (by decide +kernel)
theorem cw_X2_takeBack : cwOf m_X2_takeBack ∈ tblG := tG2 (i := 122) (by decide +kernel) (by decide +kernel)
theorem mk_X2_takeBack : MK m_X2_takeBack 1 := ⟨cw_X2_takeBack, tG1 (i := 8) (by decide +kernel) (by decide +kernel), rfl, by decide +kernel⟩
theorem im_X2_takeBack : Cond.instanceMethod (m_X2_takeBack.1) ∈ tblG := tG2 (i := 120) (by decide +kernel) (by decide +kernel)
theorem se_X2_takeBack : Cond.selects m_X2_takeBack.1.cls m_X2_takeBack.1 m_X2_takeBack.1 ∈ tblG := tG2 (i := 121) (by decide +kernel) (by decide +kernel)
theorem cw_X2_forgetAll : cwOf m_X2_forgetAll ∈ tblG := tG2 (i := 181) (by decide +kernel) (by decide +kernel)
theorem mk_X2_forgetAll : MK m_X2_forgetAll 0 := ⟨cw_X2_forgetAll, tG1 (i := 8) (by decide +kernel) (by decide +kernel), rfl, by decide +kernel⟩
theorem im_X2_forgetAll : Cond.instanceMethod (m_X2_forgetAll.1) ∈ tblG := tG2 (i := 179) (by decide +kernel) (by decide +kernel)
theorem se_X2_forgetAll : Cond.selects m_X2_forgetAll.1.cls m_X2_forgetAll.1 m_X2_forgetAll.1 ∈ tblG := tG2 (i := 180) (by decide +kernel) (by decide +kernel)
theorem cw_X3_init : cwOf m_X3_init ∈ tblG := tG1 (i := 109) (by decide +kernel) (by decide +kernel)
theorem mk_X3_init : MK m_X3_init 0 := ⟨cw_X3_init, tG1 (i := 6) (by decide +kernel) (by decide +kernel), rfl, by decide +kernel⟩
theorem im_X3_init : Cond.instanceMethod (m_X3_init.1) ∈ tblG := tG1 (i := 108) (by decide +kernel) (by decide +kernel)
theorem cw_X3_copyFrom : cwOf m_X3_copyFrom ∈ tblG := tG2 (i := 142) (by decide +kernel) (by decide +kernel)
theorem mk_X3_copyFrom : MK m_X3_copyFrom 1 := ⟨cw_X3_copyFrom, tG1 (i := 6) (by decide +kernel) (by decide +kernel), rfl, by decide +kernel⟩
theorem im_X3_copyFrom : Cond.instanceMethod (m_X3_copyFrom.1) ∈ tblG := tG2 (i := 140) (by decide +kernel) (by decide +kernel)
theorem se_X3_copyFrom : Cond.selects m_X3_copyFrom.1.cls m_X3_copyFrom.1 m_X3_copyFrom.1 ∈ tblG := tG2 (i := 141) (by decide +kernel) (by decide +kernel)
theorem cw_X3_isAt : cwOf m_X3_isAt ∈ tblG := tG3 (i := 132) (by decide +kernel) (by decide +kernel)
theorem mk_X3_isAt : MK m_X3_isAt 2 := ⟨cw_X3_isAt, tG1 (i := 6) (by decide +kernel) (by decide +kernel), rfl, by decide +kernel⟩
theorem im_X3_isAt : Cond.instanceMethod (m_X3_isAt.1) ∈ tblG := tG3 (i := 130) (by decide +kernel) (by decide +kernel)
theorem se_X3_isAt : Cond.selects m_X3_isAt.1.cls m_X3_isAt.1 m_X3_isAt.1 ∈ tblG := tG3 (i := 131) (by decide +kernel) (by decide +kernel)
theorem cw_X3_seatsDancer : cwOf m_X3_seatsDancer ∈ tblG := tG3 (i := 37) (by decide +kernel) (by decide +kernel)
theorem mk_X3_seatsDancer : MK m_X3_seatsDancer 1 := ⟨cw_X3_seatsDancer, tG1 (i := 6) (by decide +kernel) (by decide +kernel), rfl, by decide +kernel⟩
theorem im_X3_seatsDancer : Cond.instanceMethod (m_X3_seatsDancer.1) ∈ tblG := tG3 (i := 35) (by decide +kernel) (by decide +kernel)
theorem se_X3_seatsDancer : Cond.selects m_X3_seatsDancer.1.cls m_X3_seatsDancer.1 m_X3_seatsDancer.1 ∈ tblG := tG3 (i := 36) (by decide +kernel) (by decide +kernel)
theorem cw_X3_countSeats : cwOf m_X3_countSeats ∈ tblG := tG2 (i := 202) (by decide +kernel) (by decide +kernel)
theorem mk_X3_countSeats : MK m_X3_countSeats 0 := ⟨cw_X3_countSeats, tG1 (i := 6) (by decide +kernel) (by decide +kernel), rfl, by decide +kernel⟩
theorem im_X3_countSeats : Cond.instanceMethod (m_X3_countSeats.1) ∈ tblG := tG2 (i := 200) (by decide +kernel) (by decide +kernel)
theorem se_X3_countSeats : Cond.selects m_X3_countSeats.1.cls m_X3_countSeats.1 m_X3_countSeats.1 ∈ tblG := tG2 (i := 201) (by decide +kernel) (by decide +kernel)
theorem cw_X4_init : cwOf m_X4_init ∈ tblG := tG1 (i := 56) (by decide +kernel) (by decide +kernel)
theorem mk_X4_init : MK m_X4_init 0 := ⟨cw_X4_init, tG1 (i := 3) (by decide +kernel) (by decide +kernel), rfl, by decide +kernel⟩
theorem im_X4_init : Cond.instanceMethod (m_X4_init.1) ∈ tblG := tG1 (i := 55) (by decide +kernel) (by decide +kernel)
theorem cw_X4_makeNew : cwOf m_X4_makeNew ∈ tblG := tG1 (i := 187) (by decide +kernel) (by decide +kernel)
theorem mk_X4_makeNew : MK m_X4_makeNew 0 := ⟨cw_X4_makeNew, tG1 (i := 3) (by decide +kernel) (by decide +kernel), rfl, by decide +kernel⟩
theorem im_X4_makeNew : Cond.instanceMethod (m_X4_makeNew.1) ∈ tblG := tG1 (i := 185) (by decide +kernel) (by decide +kernel)
theorem se_X4_makeNew : Cond.selects m_X4_makeNew.1.cls m_X4_makeNew.1 m_X4_makeNew.1 ∈ tblG := tG1 (i := 186) (by decide +kernel) (by decide +kernel)
theorem cw_X4_copyFrom : cwOf m_X4_copyFrom ∈ tblG := tG2 (i := 126) (by decide +kernel) (by decide +kernel)
theorem mk_X4_copyFrom : MK m_X4_copyFrom 1 := ⟨cw_X4_copyFrom, tG1 (i := 3) (by decide +kernel) (by decide +kernel), rfl, by decide +kernel⟩
theorem im_X4_copyFrom : Cond.instanceMethod (m_X4_copyFrom.1) ∈ tblG := tG2 (i := 124) (by decide +kernel) (by decide +kernel)
theorem se_X4_copyFrom : Cond.selects m_X4_copyFrom.1.cls m_X4_copyFrom.1 m_X4_copyFrom.1 ∈ tblG := tG2 (i := 125) (by decide +kernel) (by decide +kernel)
theorem cw_X4_copyRowsFrom : cwOf m_X4_copyRowsFrom ∈ tblG := tG2 (i := 130) (by decide +kernel) (by decide +kernel)
theorem mk_X4_copyRowsFrom : MK m_X4_copyRowsFrom 1 := ⟨cw_X4_copyRowsFrom, tG1 (i := 3) (by decide +kernel) (by decide +kernel), rfl, by decide +kernel⟩
theorem im_X4_copyRowsFrom : Cond.instanceMethod (m_X4_copyRowsFrom.1) ∈ tblG := tG2 (i := 129) (by decide +kernel) (by decide +kernel)
theorem se_X4_copyRowsFrom : Cond.selects m_X4_copyRowsFrom.1.cls m_X4_copyRowsFrom.1 m_X4_copyRowsFrom.1 ∈ tblG := tGs (i := 1) (by decide +kernel) (by decide +kernel)
theorem cw_X4_hasFloor : cwOf m_X4_hasFloor ∈ tblG := tG3 (i := 45) (by decide +kernel) (by decide +kernel)
theorem mk_X4_hasFloor : MK m_X4_hasFloor 1 := ⟨cw_X4_hasFloor, tG1 (i := 3) (by decide +kernel) (by decide +kernel), rfl, by decide +kernel⟩
theorem im_X4_hasFloor : Cond.instanceMethod (m_X4_hasFloor.1) ∈ tblG := tG3 (i := 43) (by decide +kernel) (by decide +kernel)
theorem se_X4_hasFloor : Cond.selects m_X4_hasFloor.1.cls m_X4_hasFloor.1 m_X4_hasFloor.1 ∈ tblG := tG3 (i := 44) (by decide +kernel) (by decide +kernel)
theorem cw_X4_hasTeacher : cwOf m_X4_hasTeacher ∈ tblG := tG3 (i := 57) (by decide +kernel) (by decide +kernel)
theorem mk_X4_hasTeacher : MK m_X4_hasTeacher 1 := ⟨cw_X4_hasTeacher, tG1 (i := 3) (by decide +kernel) (by decide +kernel), rfl, by decide +kernel⟩
theorem im_X4_hasTeacher : Cond.instanceMethod (m_X4_hasTeacher.1) ∈ tblG := tG3 (i := 55) (by decide +kernel) (by decide +kernel)
theorem se_X4_hasTeacher : Cond.selects m_X4_hasTeacher.1.cls m_X4_hasTeacher.1 m_X4_hasTeacher.1 ∈ tblG := tG3 (i := 56) (by decide +kernel) (by decide +kernel)
theorem cw_X4_hasLesson : cwOf m_X4_hasLesson ∈ tblG := tG3 (i := 8) (by decide +kernel) (by decide +kernel)
theorem mk_X4_hasLesson : MK m_X4_hasLesson 1 := ⟨cw_X4_hasLesson, tG1 (i := 3) (by decide +kernel) (by decide +kernel), rfl, by decide +kernel⟩
theorem im_X4_hasLesson : Cond.instanceMethod (m_X4_hasLesson.1) ∈ tblG := tG3 (i := 6) (by decide +kernel) (by decide +kernel)
theorem se_X4_hasLesson : Cond.selects m_X4_hasLesson.1.cls m_X4_hasLesson.1 m_X4_hasLesson.1 ∈ tblG := tG3 (i := 7) (by decide +kernel) (by decide +kernel)
theorem cw_X4_hasDancer : cwOf m_X4_hasDancer ∈ tblG := tG3 (i := 28) (by decide +kernel) (by decide +kernel)
theorem mk_X4_hasDancer : MK m_X4_hasDancer 1 := ⟨cw_X4_hasDancer, tG1 (i := 3) (by decide +kernel) (by decide +kernel), rfl, by decide +kernel⟩
theorem im_X4_hasDancer : Cond.instanceMethod (m_X4_hasDancer.1) ∈ tblG := tG3 (i := 26) (by decide +kernel) (by decide +kernel)
theorem se_X4_hasDancer : Cond.selects m_X4_hasDancer.1.cls m_X4_hasDancer.1 m_X4_hasDancer.1 ∈ tblG := tG3 (i := 27) (by decide +kernel) (by decide +kernel)
theorem cw_X4_hasSeat : cwOf m_X4_hasSeat ∈ tblG := tG3 (i := 238) (by decide +kernel) (by decide +kernel)
theorem mk_X4_hasSeat : MK m_X4_hasSeat 2 := ⟨cw_X4_hasSeat, tG1 (i := 3) (by decide +kernel) (by decide +kernel), rfl, by decide +kernel⟩
theorem im_X4_hasSeat : Cond.instanceMethod (m_X4_hasSeat.1) ∈ tblG := tG3 (i := 236) (by decide +kernel) (by decide +kernel)
theorem se_X4_hasSeat : Cond.selects m_X4_hasSeat.1.cls m_X4_hasSeat.1 m_X4_hasSeat.1 ∈ tblG := tG3 (i := 237) (by decide +kernel) (by decide +kernel)
theorem cw_X4_mayHavePass : cwOf m_X4_mayHavePass ∈ tblG := tG3 (i := 183) (by decide +kernel) (by decide +kernel)
theorem mk_X4_mayHavePass : MK m_X4_mayHavePass 1 := ⟨cw_X4_mayHavePass, tG1 (i := 3) (by decide +kernel) (by decide +kernel), rfl, by decide +kernel⟩
theorem im_X4_mayHavePass : Cond.instanceMethod (m_X4_mayHavePass.1) ∈ tblG := tG3 (i := 181) (by decide +kernel) (by decide +kernel)
theorem se_X4_mayHavePass : Cond.selects m_X4_mayHavePass.1.cls m_X4_mayHavePass.1 m_X4_mayHavePass.1 ∈ tblG := tG3 (i := 182) (by decide +kernel) (by decide +kernel)
theorem cw_X4_addFloor : cwOf m_X4_addFloor ∈ tblG := tG3 (i := 93) (by decide +kernel) (by decide +kernel)
theorem mk_X4_addFloor : MK m_X4_addFloor 4 := ⟨cw_X4_addFloor, tG1 (i := 3) (by decide +kernel) (by decide +kernel), rfl, by decide +kernel⟩
theorem im_X4_addFloor : Cond.instanceMethod (m_X4_addFloor.1) ∈ tblG := tG3 (i := 91) (by decide +kernel) (by decide +kernel)
theorem se_X4_addFloor : Cond.selects m_X4_addFloor.1.cls m_X4_addFloor.1 m_X4_addFloor.1 ∈ tblG := tG3 (i := 92) (by decide +kernel) (by decide +kernel)
theorem cw_X4_addTeacher : cwOf m_X4_addTeacher ∈ tblG := tG3 (i := 101) (by decide +kernel) (by decide +kernel)
theorem mk_X4_addTeacher : MK m_X4_addTeacher 2 := ⟨cw_X4_addTeacher, tG1 (i := 3) (by decide +kernel) (by decide +kernel), rfl, by decide +kernel⟩
theorem im_X4_addTeacher : Cond.instanceMethod (m_X4_addTeacher.1) ∈ tblG := tG3 (i := 99) (by decide +kernel) (by decide +kernel)
theorem se_X4_addTeacher : Cond.selects m_X4_addTeacher.1.cls m_X4_addTeacher.1 m_X4_addTeacher.1 ∈ tblG := tG3 (i := 100) (by decide +kernel) (by decide +kernel)
theorem cw_X4_addDancer : cwOf m_X4_addDancer ∈ tblG := tG3 (i := 109) (by decide +kernel) (by decide +kernel)
theorem mk_X4_addDancer : MK m_X4_addDancer 0 := ⟨cw_X4_addDancer, tG1 (i := 3) (by decide +kernel) (by decide +kernel), rfl, by decide +kernel⟩
theorem im_X4_addDancer : Cond.instanceMethod (m_X4_addDancer.1) ∈ tblG := tG3 (i := 107) (by decide +kernel) (by decide +kernel)
theorem se_X4_addDancer : Cond.selects m_X4_addDancer.1.cls m_X4_addDancer.1 m_X4_addDancer.1 ∈ tblG := tG3 (i := 108) (by decide +kernel) (by decide +kernel)
theorem cw_X4_addLesson : cwOf m_X4_addLesson ∈ tblG := tG3 (i := 160) (by decide +kernel) (by decide +kernel)
theorem mk_X4_addLesson : MK m_X4_addLesson 6 := ⟨cw_X4_addLesson, tG1 (i := 3) (by decide +kernel) (by decide +kernel), rfl, by decide +kernel⟩
theorem im_X4_addLesson : Cond.instanceMethod (m_X4_addLesson.1) ∈ tblG := tG3 (i := 158) (by decide +kernel) (by decide +kernel)
theorem se_X4_addLesson : Cond.selects m_X4_addLesson.1.cls m_X4_addLesson.1 m_X4_addLesson.1 ∈ tblG := tG3 (i := 159) (by decide +kernel) (by decide +kernel)
theorem cw_X4_dropLesson : cwOf m_X4_dropLesson ∈ tblG := tG3 (i := 174) (by decide +kernel) (by decide +kernel)
theorem mk_X4_dropLesson : MK m_X4_dropLesson 1 := ⟨cw_X4_dropLesson, tG1 (i := 3) (by decide +kernel) (by decide +kernel), rfl, by decide +kernel⟩
theorem im_X4_dropLesson : Cond.instanceMethod (m_X4_dropLesson.1) ∈ tblG := tG3 (i := 172) (by decide +kernel) (by decide +kernel)
theorem se_X4_dropLesson : Cond.selects m_X4_dropLesson.1.cls m_X4_dropLesson.1 m_X4_dropLesson.1 ∈ tblG := tG3 (i := 173) (by decide +kernel) (by decide +kernel)
theorem cw_X4_givePass : cwOf m_X4_givePass ∈ tblG := tG3 (i := 188) (by decide +kernel) (by decide +kernel)
theorem mk_X4_givePass : MK m_X4_givePass 1 := ⟨cw_X4_givePass, tG1 (i := 3) (by decide +kernel) (by decide +kernel), rfl, by decide +kernel⟩
theorem im_X4_givePass : Cond.instanceMethod (m_X4_givePass.1) ∈ tblG := tG3 (i := 186) (by decide +kernel) (by decide +kernel)
theorem se_X4_givePass : Cond.selects m_X4_givePass.1.cls m_X4_givePass.1 m_X4_givePass.1 ∈ tblG := tG3 (i := 187) (by decide +kernel) (by decide +kernel)
theorem cw_X4_takeSeat : cwOf m_X4_takeSeat ∈ tblG := tG4 (i := 11) (by decide +kernel) (by decide +kernel)
theorem mk_X4_takeSeat : MK m_X4_takeSeat 2 := ⟨cw_X4_takeSeat, tG1 (i := 3) (by decide +kernel) (by decide +kernel), rfl, by decide +kernel⟩
theorem im_X4_takeSeat : Cond.instanceMethod (m_X4_takeSeat.1) ∈ tblG := tG4 (i := 9) (by decide +kernel) (by decide +kernel)
theorem se_X4_takeSeat : Cond.selects m_X4_takeSeat.1.cls m_X4_takeSeat.1 m_X4_takeSeat.1 ∈ tblG := tG4 (i := 10) (by decide +kernel) (by decide +kernel)
theorem cw_X4_giveUpSeat : cwOf m_X4_giveUpSeat ∈ tblG := tG4 (i := 2) (by decide +kernel) (by decide +kernel)
theorem mk_X4_giveUpSeat : MK m_X4_giveUpSeat 2 := ⟨cw_X4_giveUpSeat, tG1 (i := 3) (by decide +kernel) (by decide +kernel), rfl, by decide +kernel⟩
theorem im_X4_giveUpSeat : Cond.instanceMethod (m_X4_giveUpSeat.1) ∈ tblG := tG4 (i := 0) (by decide +kernel) (by decide +kernel)
theorem se_X4_giveUpSeat : Cond.selects m_X4_giveUpSeat.1.cls m_X4_giveUpSeat.1 m_X4_giveUpSeat.1 ∈ tblG := tG4 (i := 1) (by decide +kernel) (by decide +kernel)
theorem cw_X4_countRefusal : cwOf m_X4_countRefusal ∈ tblG := tG3 (i := 166) (by decide +kernel) (by decide +kernel)
theorem mk_X4_countRefusal : MK m_X4_countRefusal 1 := ⟨cw_X4_countRefusal, tG1 (i := 3) (by decide +kernel) (by decide +kernel), rfl, by decide +kernel⟩
theorem im_X4_countRefusal : Cond.instanceMethod (m_X4_countRefusal.1) ∈ tblG := tG3 (i := 164) (by decide +kernel) (by decide +kernel)
theorem se_X4_countRefusal : Cond.selects m_X4_countRefusal.1.cls m_X4_countRefusal.1 m_X4_countRefusal.1 ∈ tblG := tG3 (i := 165) (by decide +kernel) (by decide +kernel)
theorem cw_X4_reasonAgainstLesson : cwOf m_X4_reasonAgainstLesson ∈ tblG := tG3 (i := 124) (by decide +kernel) (by decide +kernel)
theorem mk_X4_reasonAgainstLesson : MK m_X4_reasonAgainstLesson 6 := ⟨cw_X4_reasonAgainstLesson, tG1 (i := 3) (by decide +kernel) (by decide +kernel), rfl, by decide +kernel⟩
theorem im_X4_reasonAgainstLesson : Cond.instanceMethod (m_X4_reasonAgainstLesson.1) ∈ tblG := tG3 (i := 122) (by decide +kernel) (by decide +kernel)
theorem se_X4_reasonAgainstLesson : Cond.selects m_X4_reasonAgainstLesson.1.cls m_X4_reasonAgainstLesson.1 m_X4_reasonAgainstLesson.1 ∈ tblG := tG3 (i := 123) (by decide +kernel) (by decide +kernel)
theorem cw_X4_isFloorInUse : cwOf m_X4_isFloorInUse ∈ tblG := tG3 (i := 128) (by decide +kernel) (by decide +kernel)
theorem mk_X4_isFloorInUse : MK m_X4_isFloorInUse 3 := ⟨cw_X4_isFloorInUse, tG1 (i := 3) (by decide +kernel) (by decide +kernel), rfl, by decide +kernel⟩
theorem im_X4_isFloorInUse : Cond.instanceMethod (m_X4_isFloorInUse.1) ∈ tblG := tG3 (i := 127) (by decide +kernel) (by decide +kernel)
theorem se_X4_isFloorInUse : Cond.selects m_X4_isFloorInUse.1.cls m_X4_isFloorInUse.1 m_X4_isFloorInUse.1 ∈ tblG := tGs (i := 2) (by decide +kernel) (by decide +kernel)
theorem cw_X4_isTeacherInUse : cwOf m_X4_isTeacherInUse ∈ tblG := tG3 (i := 136) (by decide +kernel) (by decide +kernel)
theorem mk_X4_isTeacherInUse : MK m_X4_isTeacherInUse 3 := ⟨cw_X4_isTeacherInUse, tG1 (i := 3) (by decide +kernel) (by decide +kernel), rfl, by decide +kernel⟩
theorem im_X4_isTeacherInUse : Cond.instanceMethod (m_X4_isTeacherInUse.1) ∈ tblG := tG3 (i := 135) (by decide +kernel) (by decide +kernel)
theorem se_X4_isTeacherInUse : Cond.selects m_X4_isTeacherInUse.1.cls m_X4_isTeacherInUse.1 m_X4_isTeacherInUse.1 ∈ tblG := tGs (i := 3) (by decide +kernel) (by decide +kernel)
theorem cw_X4_reasonAgainstSeat : cwOf m_X4_reasonAgainstSeat ∈ tblG := tG3 (i := 225) (by decide +kernel) (by decide +kernel)
theorem mk_X4_reasonAgainstSeat : MK m_X4_reasonAgainstSeat 2 := ⟨cw_X4_reasonAgainstSeat, tG1 (i := 3) (by decide +kernel) (by decide +kernel), rfl, by decide +kernel⟩
theorem im_X4_reasonAgainstSeat : Cond.instanceMethod (m_X4_reasonAgainstSeat.1) ∈ tblG := tG3 (i := 223) (by decide +kernel) (by decide +kernel)
theorem se_X4_reasonAgainstSeat : Cond.selects m_X4_reasonAgainstSeat.1.cls m_X4_reasonAgainstSeat.1 m_X4_reasonAgainstSeat.1 ∈ tblG := tG3 (i := 224) (by decide +kernel) (by decide +kernel)
theorem cw_X4_isDancerSeatedAt : cwOf m_X4_isDancerSeatedAt ∈ tblG := tG3 (i := 229) (by decide +kernel) (by decide +kernel)
theorem mk_X4_isDancerSeatedAt : MK m_X4_isDancerSeatedAt 3 := ⟨cw_X4_isDancerSeatedAt, tG1 (i := 3) (by decide +kernel) (by decide +kernel), rfl, by decide +kernel⟩
theorem im_X4_isDancerSeatedAt : Cond.instanceMethod (m_X4_isDancerSeatedAt.1) ∈ tblG := tG3 (i := 228) (by decide +kernel) (by decide +kernel)
theorem se_X4_isDancerSeatedAt : Cond.selects m_X4_isDancerSeatedAt.1.cls m_X4_isDancerSeatedAt.1 m_X4_isDancerSeatedAt.1 ∈ tblG := tGs (i := 6) (by decide +kernel) (by decide +kernel)
theorem cw_X4_roomIn : cwOf m_X4_roomIn ∈ tblG := tG3 (i := 12) (by decide +kernel) (by decide +kernel)
theorem mk_X4_roomIn : MK m_X4_roomIn 1 := ⟨cw_X4_roomIn, tG1 (i := 3) (by decide +kernel) (by decide +kernel), rfl, by decide +kernel⟩
theorem im_X4_roomIn : Cond.instanceMethod (m_X4_roomIn.1) ∈ tblG := tG3 (i := 10) (by decide +kernel) (by decide +kernel)
theorem se_X4_roomIn : Cond.selects m_X4_roomIn.1.cls m_X4_roomIn.1 m_X4_roomIn.1 ∈ tblG := tG3 (i := 11) (by decide +kernel) (by decide +kernel)
theorem cw_X4_roomiestFloor : cwOf m_X4_roomiestFloor ∈ tblG := tG3 (i := 120) (by decide +kernel) (by decide +kernel)
theorem mk_X4_roomiestFloor : MK m_X4_roomiestFloor 5 := ⟨cw_X4_roomiestFloor, tG1 (i := 3) (by decide +kernel) (by decide +kernel), rfl, by decide +kernel⟩
theorem im_X4_roomiestFloor : Cond.instanceMethod (m_X4_roomiestFloor.1) ∈ tblG := tG3 (i := 118) (by decide +kernel) (by decide +kernel)
theorem se_X4_roomiestFloor : Cond.selects m_X4_roomiestFloor.1.cls m_X4_roomiestFloor.1 m_X4_roomiestFloor.1 ∈ tblG := tG3 (i := 119) (by decide +kernel) (by decide +kernel)
theorem cw_X4_passWeeks : cwOf m_X4_passWeeks ∈ tblG := tG3 (i := 197) (by decide +kernel) (by decide +kernel)
theorem mk_X4_passWeeks : MK m_X4_passWeeks 1 := ⟨cw_X4_passWeeks, tG1 (i := 3) (by decide +kernel) (by decide +kernel), rfl, by decide +kernel⟩
theorem im_X4_passWeeks : Cond.instanceMethod (m_X4_passWeeks.1) ∈ tblG := tG3 (i := 195) (by decide +kernel) (by decide +kernel)
theorem se_X4_passWeeks : Cond.selects m_X4_passWeeks.1.cls m_X4_passWeeks.1 m_X4_passWeeks.1 ∈ tblG := tG3 (i := 196) (by decide +kernel) (by decide +kernel)
theorem cw_X4_passWeek : cwOf m_X4_passWeek ∈ tblG := tG3 (i := 201) (by decide +kernel) (by decide +kernel)
theorem mk_X4_passWeek : MK m_X4_passWeek 0 := ⟨cw_X4_passWeek, tG1 (i := 3) (by decide +kernel) (by decide +kernel), rfl, by decide +kernel⟩
theorem im_X4_passWeek : Cond.instanceMethod (m_X4_passWeek.1) ∈ tblG := tG3 (i := 199) (by decide +kernel) (by decide +kernel)
theorem se_X4_passWeek : Cond.selects m_X4_passWeek.1.cls m_X4_passWeek.1 m_X4_passWeek.1 ∈ tblG := tG3 (i := 200) (by decide +kernel) (by decide +kernel)
theorem cw_X4_holdLesson : cwOf m_X4_holdLesson ∈ tblG := tG3 (i := 205) (by decide +kernel) (by decide +kernel)
theorem mk_X4_holdLesson : MK m_X4_holdLesson 1 := ⟨cw_X4_holdLesson, tG1 (i := 3) (by decide +kernel) (by decide +kernel), rfl, by decide +kernel⟩
theorem im_X4_holdLesson : Cond.instanceMethod (m_X4_holdLesson.1) ∈ tblG := tG3 (i := 204) (by decide +kernel) (by decide +kernel)
theorem se_X4_holdLesson : Cond.selects m_X4_holdLesson.1.cls m_X4_holdLesson.1 m_X4_holdLesson.1 ∈ tblG := tGs (i := 4) (by decide +kernel) (by decide +kernel)
theorem cw_X4_comersOf : cwOf m_X4_comersOf ∈ tblG := tG3 (i := 209) (by decide +kernel) (by decide +kernel)
theorem mk_X4_comersOf : MK m_X4_comersOf 1 := ⟨cw_X4_comersOf, tG1 (i := 3) (by decide +kernel) (by decide +kernel), rfl, by decide +kernel⟩
theorem im_X4_comersOf : Cond.instanceMethod (m_X4_comersOf.1) ∈ tblG := tG3 (i := 208) (by decide +kernel) (by decide +kernel)
theorem se_X4_comersOf : Cond.selects m_X4_comersOf.1.cls m_X4_comersOf.1 m_X4_comersOf.1 ∈ tblG := tGs (i := 5) (by decide +kernel) (by decide +kernel)
theorem cw_X4_countSeats : cwOf m_X4_countSeats ∈ tblG := tG2 (i := 198) (by decide +kernel) (by decide +kernel)
theorem mk_X4_countSeats : MK m_X4_countSeats 0 := ⟨cw_X4_countSeats, tG1 (i := 3) (by decide +kernel) (by decide +kernel), rfl, by decide +kernel⟩
theorem im_X4_countSeats : Cond.instanceMethod (m_X4_countSeats.1) ∈ tblG := tG2 (i := 196) (by decide +kernel) (by decide +kernel)
theorem se_X4_countSeats : Cond.selects m_X4_countSeats.1.cls m_X4_countSeats.1 m_X4_countSeats.1 ∈ tblG := tG2 (i := 197) (by decide +kernel) (by decide +kernel)
theorem cw_X4_countSeatsOfDancer : cwOf m_X4_countSeatsOfDancer ∈ tblG := tG3 (i := 33) (by decide +kernel) (by decide +kernel)
theorem mk_X4_countSeatsOfDancer : MK m_X4_countSeatsOfDancer 1 := ⟨cw_X4_countSeatsOfDancer, tG1 (i := 3) (by decide +kernel) (by decide +kernel), rfl, by decide +kernel⟩
theorem im_X4_countSeatsOfDancer : Cond.instanceMethod (m_X4_countSeatsOfDancer.1) ∈ tblG := tG3 (i := 31) (by decide +kernel) (by decide +kernel)
theorem se_X4_countSeatsOfDancer : Cond.selects m_X4_countSeatsOfDancer.1.cls m_X4_countSeatsOfDancer.1 m_X4_countSeatsOfDancer.1 ∈ tblG := tG3 (i := 32) (by decide +kernel) (by decide +kernel)
theorem cw_X4_countLessonsOnFloor : cwOf m_X4_countLessonsOnFloor ∈ tblG := tG3 (i := 49) (by decide +kernel) (by decide +kernel)
theorem mk_X4_countLessonsOnFloor : MK m_X4_countLessonsOnFloor 1 := ⟨cw_X4_countLessonsOnFloor, tG1 (i := 3) (by decide +kernel) (by decide +kernel), rfl, by decide +kernel⟩
theorem im_X4_countLessonsOnFloor : Cond.instanceMethod (m_X4_countLessonsOnFloor.1) ∈ tblG := tG3 (i := 47) (by decide +kernel) (by decide +kernel)
theorem se_X4_countLessonsOnFloor : Cond.selects m_X4_countLessonsOnFloor.1.cls m_X4_countLessonsOnFloor.1 m_X4_countLessonsOnFloor.1 ∈ tblG := tG3 (i := 48) (by decide +kernel) (by decide +kernel)
theorem cw_X4_countLessonsOfTeacher : cwOf m_X4_countLessonsOfTeacher ∈ tblG := tG3 (i := 61) (by decide +kernel) (by decide +kernel)
theorem mk_X4_countLessonsOfTeacher : MK m_X4_countLessonsOfTeacher 1 := ⟨cw_X4_countLessonsOfTeacher, tG1 (i := 3) (by decide +kernel) (by decide +kernel), rfl, by decide +kernel⟩
theorem im_X4_countLessonsOfTeacher : Cond.instanceMethod (m_X4_countLessonsOfTeacher.1) ∈ tblG := tG3 (i := 59) (by decide +kernel) (by decide +kernel)
theorem se_X4_countLessonsOfTeacher : Cond.selects m_X4_countLessonsOfTeacher.1.cls m_X4_countLessonsOfTeacher.1 m_X4_countLessonsOfTeacher.1 ∈ tblG := tG3 (i := 60) (by decide +kernel) (by decide +kernel)
theorem cw_X4_countDaysOfTeacher : cwOf m_X4_countDaysOfTeacher ∈ tblG := tG3 (i := 65) (by decide +kernel) (by decide +kernel)
theorem mk_X4_countDaysOfTeacher : MK m_X4_countDaysOfTeacher 1 := ⟨cw_X4_countDaysOfTeacher, tG1 (i := 3) (by decide +kernel) (by decide +kernel), rfl, by decide +kernel⟩
theorem im_X4_countDaysOfTeacher : Cond.instanceMethod (m_X4_countDaysOfTeacher.1) ∈ tblG := tG3 (i := 63) (by decide +kernel) (by decide +kernel)
theorem se_X4_countDaysOfTeacher : Cond.selects m_X4_countDaysOfTeacher.1.cls m_X4_countDaysOfTeacher.1 m_X4_countDaysOfTeacher.1 ∈ tblG := tG3 (i := 64) (by decide +kernel) (by decide +kernel)
theorem cw_X4_countPasses : cwOf m_X4_countPasses ∈ tblG := tG2 (i := 212) (by decide +kernel) (by decide +kernel)
theorem mk_X4_countPasses : MK m_X4_countPasses 0 := ⟨cw_X4_countPasses, tG1 (i := 3) (by decide +kernel) (by decide +kernel), rfl, by decide +kernel⟩
theorem im_X4_countPasses : Cond.instanceMethod (m_X4_countPasses.1) ∈ tblG := tG2 (i := 210) (by decide +kernel) (by decide +kernel)
theorem se_X4_countPasses : Cond.selects m_X4_countPasses.1.cls m_X4_countPasses.1 m_X4_countPasses.1 ∈ tblG := tG2 (i := 211) (by decide +kernel) (by decide +kernel)
theorem cw_X4_countLeft : cwOf m_X4_countLeft ∈ tblG := tG2 (i := 224) (by decide +kernel) (by decide +kernel)
theorem mk_X4_countLeft : MK m_X4_countLeft 0 := ⟨cw_X4_countLeft, tG1 (i := 3) (by decide +kernel) (by decide +kernel), rfl, by decide +kernel⟩
theorem im_X4_countLeft : Cond.instanceMethod (m_X4_countLeft.1) ∈ tblG := tG2 (i := 222) (by decide +kernel) (by decide +kernel)
theorem se_X4_countLeft : Cond.selects m_X4_countLeft.1.cls m_X4_countLeft.1 m_X4_countLeft.1 ∈ tblG := tG2 (i := 223) (by decide +kernel) (by decide +kernel)
theorem cw_X4_countUsesByDancers : cwOf m_X4_countUsesByDancers ∈ tblG := tG2 (i := 216) (by decide +kernel) (by decide +kernel)
theorem mk_X4_countUsesByDancers : MK m_X4_countUsesByDancers 0 := ⟨cw_X4_countUsesByDancers, tG1 (i := 3) (by decide +kernel) (by decide +kernel), rfl, by decide +kernel⟩
theorem im_X4_countUsesByDancers : Cond.instanceMethod (m_X4_countUsesByDancers.1) ∈ tblG := tG2 (i := 214) (by decide +kernel) (by decide +kernel)
theorem se_X4_countUsesByDancers : Cond.selects m_X4_countUsesByDancers.1.cls m_X4_countUsesByDancers.1 m_X4_countUsesByDancers.1 ∈ tblG := tG2 (i := 215) (by decide +kernel) (by decide +kernel)
theorem cw_X4_countUsesByLessons : cwOf m_X4_countUsesByLessons ∈ tblG := tG4 (i := 30) (by decide +kernel) (by decide +kernel)
theorem mk_X4_countUsesByLessons : MK m_X4_countUsesByLessons 0 := ⟨cw_X4_countUsesByLessons, tG1 (i := 3) (by decide +kernel) (by decide +kernel), rfl, by decide +kernel⟩
theorem im_X4_countUsesByLessons : Cond.instanceMethod (m_X4_countUsesByLessons.1) ∈ tblG := tG4 (i := 28) (by decide +kernel) (by decide +kernel)
theorem se_X4_countUsesByLessons : Cond.selects m_X4_countUsesByLessons.1.cls m_X4_countUsesByLessons.1 m_X4_countUsesByLessons.1 ∈ tblG := tG4 (i := 29) (by decide +kernel) (by decide +kernel)
theorem cw_X5_init : cwOf m_X5_init ∈ tblG := tG1 (i := 91) (by decide +kernel) (by decide +kernel)
theorem mk_X5_init : MK m_X5_init 0 := ⟨cw_X5_init, tG1 (i := 5) (by decide +kernel) (by decide +kernel), rfl, by decide +kernel⟩
theorem im_X5_init : Cond.instanceMethod (m_X5_init.1) ∈ tblG := tG1 (i := 90) (by decide +kernel) (by decide +kernel)
theorem cw_X5_copyFrom : cwOf m_X5_copyFrom ∈ tblG := tG2 (i := 138) (by decide +kernel) (by decide +kernel)
theorem mk_X5_copyFrom : MK m_X5_copyFrom 1 := ⟨cw_X5_copyFrom, tG1 (i := 5) (by decide +kernel) (by decide +kernel), rfl, by decide +kernel⟩
theorem im_X5_copyFrom : Cond.instanceMethod (m_X5_copyFrom.1) ∈ tblG := tG2 (i := 136) (by decide +kernel) (by decide +kernel)
theorem se_X5_copyFrom : Cond.selects m_X5_copyFrom.1.cls m_X5_copyFrom.1 m_X5_copyFrom.1 ∈ tblG := tG2 (i := 137) (by decide +kernel) (by decide +kernel)
theorem cw_X5_teaches : cwOf m_X5_teaches ∈ tblG := tG3 (i := 140) (by decide +kernel) (by decide +kernel)
theorem mk_X5_teaches : MK m_X5_teaches 2 := ⟨cw_X5_teaches, tG1 (i := 5) (by decide +kernel) (by decide +kernel), rfl, by decide +kernel⟩
theorem im_X5_teaches : Cond.instanceMethod (m_X5_teaches.1) ∈ tblG := tG3 (i := 138) (by decide +kernel) (by decide +kernel)
theorem se_X5_teaches : Cond.selects m_X5_teaches.1.cls m_X5_teaches.1 m_X5_teaches.1 ∈ tblG := tG3 (i := 139) (by decide +kernel) (by decide +kernel)
theorem cw_X6_init : cwOf m_X6_init ∈ tblG := tG1 (i := 29) (by decide +kernel) (by decide +kernel)
theorem mk_X6_init : MK m_X6_init 0 := ⟨cw_X6_init, tG1 (i := 2) (by decide +kernel) (by decide +kernel), rfl, by decide +kernel⟩
theorem im_X6_init : Cond.instanceMethod (m_X6_init.1) ∈ tblG := tG1 (i := 28) (by decide +kernel) (by decide +kernel)
theorem cw_X6_findError : cwOf m_X6_findError ∈ tblG := tG4 (i := 43) (by decide +kernel) (by decide +kernel)
theorem mk_X6_findError : MK m_X6_findError 0 := ⟨cw_X6_findError, tG1 (i := 2) (by decide +kernel) (by decide +kernel), rfl, by decide +kernel⟩
theorem im_X6_findError : Cond.instanceMethod (m_X6_findError.1) ∈ tblG := tG4 (i := 41) (by decide +kernel) (by decide +kernel)
theorem se_X6_findError : Cond.selects m_X6_findError.1.cls m_X6_findError.1 m_X6_findError.1 ∈ tblG := tG4 (i := 42) (by decide +kernel) (by decide +kernel)
theorem cw_X6_hasMore : cwOf m_X6_hasMore ∈ tblG := tG4 (i := 51) (by decide +kernel) (by decide +kernel)
theorem mk_X6_hasMore : MK m_X6_hasMore 0 := ⟨cw_X6_hasMore, tG1 (i := 2) (by decide +kernel) (by decide +kernel), rfl, by decide +kernel⟩
theorem im_X6_hasMore : Cond.instanceMethod (m_X6_hasMore.1) ∈ tblG := tG4 (i := 49) (by decide +kernel) (by decide +kernel)
theorem se_X6_hasMore : Cond.selects m_X6_hasMore.1.cls m_X6_hasMore.1 m_X6_hasMore.1 ∈ tblG := tG4 (i := 50) (by decide +kernel) (by decide +kernel)
theorem cw_X6_readStart : cwOf m_X6_readStart ∈ tblG := tG4 (i := 47) (by decide +kernel) (by decide +kernel)
theorem mk_X6_readStart : MK m_X6_readStart 0 := ⟨cw_X6_readStart, tG1 (i := 2) (by decide +kernel) (by decide +kernel), rfl, by decide +kernel⟩
theorem im_X6_readStart : Cond.instanceMethod (m_X6_readStart.1) ∈ tblG := tG4 (i := 45) (by decide +kernel) (by decide +kernel)
theorem se_X6_readStart : Cond.selects m_X6_readStart.1.cls m_X6_readStart.1 m_X6_readStart.1 ∈ tblG := tG4 (i := 46) (by decide +kernel) (by decide +kernel)
theorem cw_X6_readCommand : cwOf m_X6_readCommand ∈ tblG := tG4 (i := 55) (by decide +kernel) (by decide +kernel)
theorem mk_X6_readCommand : MK m_X6_readCommand 0 := ⟨cw_X6_readCommand, tG1 (i := 2) (by decide +kernel) (by decide +kernel), rfl, by decide +kernel⟩
theorem im_X6_readCommand : Cond.instanceMethod (m_X6_readCommand.1) ∈ tblG := tG4 (i := 53) (by decide +kernel) (by decide +kernel)
theorem se_X6_readCommand : Cond.selects m_X6_readCommand.1.cls m_X6_readCommand.1 m_X6_readCommand.1 ∈ tblG := tG4 (i := 54) (by decide +kernel) (by decide +kernel)
theorem cw_X6_readKind : cwOf m_X6_readKind ∈ tblG := tG4 (i := 80) (by decide +kernel) (by decide +kernel)
theorem mk_X6_readKind : MK m_X6_readKind 0 := ⟨cw_X6_readKind, tG1 (i := 2) (by decide +kernel) (by decide +kernel), rfl, by decide +kernel⟩
theorem im_X6_readKind : Cond.instanceMethod (m_X6_readKind.1) ∈ tblG := tG4 (i := 79) (by decide +kernel) (by decide +kernel)
theorem se_X6_readKind : Cond.selects m_X6_readKind.1.cls m_X6_readKind.1 m_X6_readKind.1 ∈ tblG := tGs (i := 11) (by decide +kernel) (by decide +kernel)
theorem cw_X6_readPlace : cwOf m_X6_readPlace ∈ tblG := tG4 (i := 84) (by decide +kernel) (by decide +kernel)
theorem mk_X6_readPlace : MK m_X6_readPlace 0 := ⟨cw_X6_readPlace, tG1 (i := 2) (by decide +kernel) (by decide +kernel), rfl, by decide +kernel⟩
theorem im_X6_readPlace : Cond.instanceMethod (m_X6_readPlace.1) ∈ tblG := tG4 (i := 83) (by decide +kernel) (by decide +kernel)
theorem se_X6_readPlace : Cond.selects m_X6_readPlace.1.cls m_X6_readPlace.1 m_X6_readPlace.1 ∈ tblG := tGs (i := 12) (by decide +kernel) (by decide +kernel)
theorem cw_X6_readLesson : cwOf m_X6_readLesson ∈ tblG := tG4 (i := 92) (by decide +kernel) (by decide +kernel)
theorem mk_X6_readLesson : MK m_X6_readLesson 0 := ⟨cw_X6_readLesson, tG1 (i := 2) (by decide +kernel) (by decide +kernel), rfl, by decide +kernel⟩
theorem im_X6_readLesson : Cond.instanceMethod (m_X6_readLesson.1) ∈ tblG := tG4 (i := 91) (by decide +kernel) (by decide +kernel)
theorem se_X6_readLesson : Cond.selects m_X6_readLesson.1.cls m_X6_readLesson.1 m_X6_readLesson.1 ∈ tblG := tGs (i := 14) (by decide +kernel) (by decide +kernel)
theorem cw_X6_readDancer : cwOf m_X6_readDancer ∈ tblG := tG4 (i := 88) (by decide +kernel) (by decide +kernel)
theorem mk_X6_readDancer : MK m_X6_readDancer 0 := ⟨cw_X6_readDancer, tG1 (i := 2) (by decide +kernel) (by decide +kernel), rfl, by decide +kernel⟩
theorem im_X6_readDancer : Cond.instanceMethod (m_X6_readDancer.1) ∈ tblG := tG4 (i := 87) (by decide +kernel) (by decide +kernel)
theorem se_X6_readDancer : Cond.selects m_X6_readDancer.1.cls m_X6_readDancer.1 m_X6_readDancer.1 ∈ tblG := tGs (i := 13) (by decide +kernel) (by decide +kernel)
theorem cw_X6_readDigit : cwOf m_X6_readDigit ∈ tblG := tG4 (i := 59) (by decide +kernel) (by decide +kernel)
theorem mk_X6_readDigit : MK m_X6_readDigit 2 := ⟨cw_X6_readDigit, tG1 (i := 2) (by decide +kernel) (by decide +kernel), rfl, by decide +kernel⟩
theorem im_X6_readDigit : Cond.instanceMethod (m_X6_readDigit.1) ∈ tblG := tG4 (i := 58) (by decide +kernel) (by decide +kernel)
theorem se_X6_readDigit : Cond.selects m_X6_readDigit.1.cls m_X6_readDigit.1 m_X6_readDigit.1 ∈ tblG := tGs (i := 7) (by decide +kernel) (by decide +kernel)
theorem cw_X6_readTwoDigits : cwOf m_X6_readTwoDigits ∈ tblG := tG4 (i := 72) (by decide +kernel) (by decide +kernel)
theorem mk_X6_readTwoDigits : MK m_X6_readTwoDigits 2 := ⟨cw_X6_readTwoDigits, tG1 (i := 2) (by decide +kernel) (by decide +kernel), rfl, by decide +kernel⟩
theorem im_X6_readTwoDigits : Cond.instanceMethod (m_X6_readTwoDigits.1) ∈ tblG := tG4 (i := 71) (by decide +kernel) (by decide +kernel)
theorem se_X6_readTwoDigits : Cond.selects m_X6_readTwoDigits.1.cls m_X6_readTwoDigits.1 m_X6_readTwoDigits.1 ∈ tblG := tGs (i := 10) (by decide +kernel) (by decide +kernel)
theorem cw_X6_digitWithin : cwOf m_X6_digitWithin ∈ tblG := tG4 (i := 63) (by decide +kernel) (by decide +kernel)
theorem mk_X6_digitWithin : MK m_X6_digitWithin 2 := ⟨cw_X6_digitWithin, tG1 (i := 2) (by decide +kernel) (by decide +kernel), rfl, by decide +kernel⟩
theorem im_X6_digitWithin : Cond.instanceMethod (m_X6_digitWithin.1) ∈ tblG := tG4 (i := 62) (by decide +kernel) (by decide +kernel)
theorem se_X6_digitWithin : Cond.selects m_X6_digitWithin.1.cls m_X6_digitWithin.1 m_X6_digitWithin.1 ∈ tblG := tGs (i := 8) (by decide +kernel) (by decide +kernel)
theorem cw_X6_keepNumber : cwOf m_X6_keepNumber ∈ tblG := tG4 (i := 68) (by decide +kernel) (by decide +kernel)
theorem mk_X6_keepNumber : MK m_X6_keepNumber 1 := ⟨cw_X6_keepNumber, tG1 (i := 2) (by decide +kernel) (by decide +kernel), rfl, by decide +kernel⟩
theorem im_X6_keepNumber : Cond.instanceMethod (m_X6_keepNumber.1) ∈ tblG := tG4 (i := 67) (by decide +kernel) (by decide +kernel)
theorem se_X6_keepNumber : Cond.selects m_X6_keepNumber.1.cls m_X6_keepNumber.1 m_X6_keepNumber.1 ∈ tblG := tGs (i := 9) (by decide +kernel) (by decide +kernel)
theorem cw_X7_init : cwOf m_X7_init ∈ tblG := tG1 (i := 21) (by decide +kernel) (by decide +kernel)
theorem mk_X7_init : MK m_X7_init 0 := ⟨cw_X7_init, tG1 (i := 1) (by decide +kernel) (by decide +kernel), rfl, by decide +kernel⟩
theorem im_X7_init : Cond.instanceMethod (m_X7_init.1) ∈ tblG := tG1 (i := 20) (by decide +kernel) (by decide +kernel)
theorem cw_X7_errorPosition : cwOf m_X7_errorPosition ∈ tblG := tG4 (i := 39) (by decide +kernel) (by decide +kernel)
theorem mk_X7_errorPosition : MK m_X7_errorPosition 0 := ⟨cw_X7_errorPosition, tG1 (i := 1) (by decide +kernel) (by decide +kernel), rfl, by decide +kernel⟩
theorem im_X7_errorPosition : Cond.instanceMethod (m_X7_errorPosition.1) ∈ tblG := tG4 (i := 37) (by decide +kernel) (by decide +kernel)
theorem se_X7_errorPosition : Cond.selects m_X7_errorPosition.1.cls m_X7_errorPosition.1 m_X7_errorPosition.1 ∈ tblG := tG4 (i := 38) (by decide +kernel) (by decide +kernel)
theorem cw_X7_about : cwOf m_X7_about ∈ tblG := tG2 (i := 194) (by decide +kernel) (by decide +kernel)
theorem mk_X7_about : MK m_X7_about 1 := ⟨cw_X7_about, tG1 (i := 1) (by decide +kernel) (by decide +kernel), rfl, by decide +kernel⟩
theorem im_X7_about : Cond.instanceMethod (m_X7_about.1) ∈ tblG := tG2 (i := 192) (by decide +kernel) (by decide +kernel)
theorem se_X7_about : Cond.selects m_X7_about.1.cls m_X7_about.1 m_X7_about.1 ∈ tblG := tG2 (i := 193) (by decide +kernel) (by decide +kernel)
theorem cw_X7_floorOf : cwOf m_X7_floorOf ∈ tblG := tG3 (i := 41) (by decide +kernel) (by decide +kernel)
theorem mk_X7_floorOf : MK m_X7_floorOf 2 := ⟨cw_X7_floorOf, tG1 (i := 1) (by decide +kernel) (by decide +kernel), rfl, by decide +kernel⟩
theorem im_X7_floorOf : Cond.instanceMethod (m_X7_floorOf.1) ∈ tblG := tG3 (i := 39) (by decide +kernel) (by decide +kernel)
theorem se_X7_floorOf : Cond.selects m_X7_floorOf.1.cls m_X7_floorOf.1 m_X7_floorOf.1 ∈ tblG := tG3 (i := 40) (by decide +kernel) (by decide +kernel)
theorem cw_X7_teacherOf : cwOf m_X7_teacherOf ∈ tblG := tG3 (i := 53) (by decide +kernel) (by decide +kernel)
theorem mk_X7_teacherOf : MK m_X7_teacherOf 2 := ⟨cw_X7_teacherOf, tG1 (i := 1) (by decide +kernel) (by decide +kernel), rfl, by decide +kernel⟩
theorem im_X7_teacherOf : Cond.instanceMethod (m_X7_teacherOf.1) ∈ tblG := tG3 (i := 51) (by decide +kernel) (by decide +kernel)
theorem se_X7_teacherOf : Cond.selects m_X7_teacherOf.1.cls m_X7_teacherOf.1 m_X7_teacherOf.1 ∈ tblG := tG3 (i := 52) (by decide +kernel) (by decide +kernel)
theorem cw_X7_classOf : cwOf m_X7_classOf ∈ tblG := tG3 (i := 4) (by decide +kernel) (by decide +kernel)
theorem mk_X7_classOf : MK m_X7_classOf 2 := ⟨cw_X7_classOf, tG1 (i := 1) (by decide +kernel) (by decide +kernel), rfl, by decide +kernel⟩
theorem im_X7_classOf : Cond.instanceMethod (m_X7_classOf.1) ∈ tblG := tG3 (i := 2) (by decide +kernel) (by decide +kernel)
theorem se_X7_classOf : Cond.selects m_X7_classOf.1.cls m_X7_classOf.1 m_X7_classOf.1 ∈ tblG := tG3 (i := 3) (by decide +kernel) (by decide +kernel)
theorem cw_X7_dancerOf : cwOf m_X7_dancerOf ∈ tblG := tG3 (i := 24) (by decide +kernel) (by decide +kernel)
theorem mk_X7_dancerOf : MK m_X7_dancerOf 2 := ⟨cw_X7_dancerOf, tG1 (i := 1) (by decide +kernel) (by decide +kernel), rfl, by decide +kernel⟩
theorem im_X7_dancerOf : Cond.instanceMethod (m_X7_dancerOf.1) ∈ tblG := tG3 (i := 22) (by decide +kernel) (by decide +kernel)
theorem se_X7_dancerOf : Cond.selects m_X7_dancerOf.1.cls m_X7_dancerOf.1 m_X7_dancerOf.1 ∈ tblG := tG3 (i := 23) (by decide +kernel) (by decide +kernel)
theorem cw_X7_uses : cwOf m_X7_uses ∈ tblG := tG4 (i := 26) (by decide +kernel) (by decide +kernel)
theorem mk_X7_uses : MK m_X7_uses 1 := ⟨cw_X7_uses, tG1 (i := 1) (by decide +kernel) (by decide +kernel), rfl, by decide +kernel⟩
theorem im_X7_uses : Cond.instanceMethod (m_X7_uses.1) ∈ tblG := tG4 (i := 24) (by decide +kernel) (by decide +kernel)
theorem se_X7_uses : Cond.selects m_X7_uses.1.cls m_X7_uses.1 m_X7_uses.1 ∈ tblG := tG4 (i := 25) (by decide +kernel) (by decide +kernel)
theorem cw_X7_setting : cwOf m_X7_setting ∈ tblG := tG3 (i := 70) (by decide +kernel) (by decide +kernel)
theorem mk_X7_setting : MK m_X7_setting 1 := ⟨cw_X7_setting, tG1 (i := 1) (by decide +kernel) (by decide +kernel), rfl, by decide +kernel⟩
theorem im_X7_setting : Cond.instanceMethod (m_X7_setting.1) ∈ tblG := tG3 (i := 68) (by decide +kernel) (by decide +kernel)
theorem se_X7_setting : Cond.selects m_X7_setting.1.cls m_X7_setting.1 m_X7_setting.1 ∈ tblG := tG3 (i := 69) (by decide +kernel) (by decide +kernel)
theorem cw_X7_floor : cwOf m_X7_floor ∈ tblG := tG3 (i := 85) (by decide +kernel) (by decide +kernel)
theorem mk_X7_floor : MK m_X7_floor 4 := ⟨cw_X7_floor, tG1 (i := 1) (by decide +kernel) (by decide +kernel), rfl, by decide +kernel⟩
theorem im_X7_floor : Cond.instanceMethod (m_X7_floor.1) ∈ tblG := tG3 (i := 83) (by decide +kernel) (by decide +kernel)
theorem se_X7_floor : Cond.selects m_X7_floor.1.cls m_X7_floor.1 m_X7_floor.1 ∈ tblG := tG3 (i := 84) (by decide +kernel) (by decide +kernel)
theorem cw_X7_teacher : cwOf m_X7_teacher ∈ tblG := tG3 (i := 97) (by decide +kernel) (by decide +kernel)
theorem mk_X7_teacher : MK m_X7_teacher 2 := ⟨cw_X7_teacher, tG1 (i := 1) (by decide +kernel) (by decide +kernel), rfl, by decide +kernel⟩
theorem im_X7_teacher : Cond.instanceMethod (m_X7_teacher.1) ∈ tblG := tG3 (i := 95) (by decide +kernel) (by decide +kernel)
theorem se_X7_teacher : Cond.selects m_X7_teacher.1.cls m_X7_teacher.1 m_X7_teacher.1 ∈ tblG := tG3 (i := 96) (by decide +kernel) (by decide +kernel)
theorem cw_X7_set : cwOf m_X7_set ∈ tblG := tG3 (i := 156) (by decide +kernel) (by decide +kernel)
theorem mk_X7_set : MK m_X7_set 6 := ⟨cw_X7_set, tG1 (i := 1) (by decide +kernel) (by decide +kernel), rfl, by decide +kernel⟩
theorem im_X7_set : Cond.instanceMethod (m_X7_set.1) ∈ tblG := tG3 (i := 154) (by decide +kernel) (by decide +kernel)
theorem se_X7_set : Cond.selects m_X7_set.1.cls m_X7_set.1 m_X7_set.1 ∈ tblG := tG3 (i := 155) (by decide +kernel) (by decide +kernel)
theorem cw_X7_drop : cwOf m_X7_drop ∈ tblG := tG3 (i := 170) (by decide +kernel) (by decide +kernel)
theorem mk_X7_drop : MK m_X7_drop 1 := ⟨cw_X7_drop, tG1 (i := 1) (by decide +kernel) (by decide +kernel), rfl, by decide +kernel⟩
theorem im_X7_drop : Cond.instanceMethod (m_X7_drop.1) ∈ tblG := tG3 (i := 168) (by decide +kernel) (by decide +kernel)
theorem se_X7_drop : Cond.selects m_X7_drop.1.cls m_X7_drop.1 m_X7_drop.1 ∈ tblG := tG3 (i := 169) (by decide +kernel) (by decide +kernel)
theorem cw_X7_dancer : cwOf m_X7_dancer ∈ tblG := tG3 (i := 105) (by decide +kernel) (by decide +kernel)
theorem mk_X7_dancer : MK m_X7_dancer 0 := ⟨cw_X7_dancer, tG1 (i := 1) (by decide +kernel) (by decide +kernel), rfl, by decide +kernel⟩
theorem im_X7_dancer : Cond.instanceMethod (m_X7_dancer.1) ∈ tblG := tG3 (i := 103) (by decide +kernel) (by decide +kernel)
theorem se_X7_dancer : Cond.selects m_X7_dancer.1.cls m_X7_dancer.1 m_X7_dancer.1 ∈ tblG := tG3 (i := 104) (by decide +kernel) (by decide +kernel)
theorem cw_X7_pass : cwOf m_X7_pass ∈ tblG := tG3 (i := 179) (by decide +kernel) (by decide +kernel)
theorem mk_X7_pass : MK m_X7_pass 1 := ⟨cw_X7_pass, tG1 (i := 1) (by decide +kernel) (by decide +kernel), rfl, by decide +kernel⟩
theorem im_X7_pass : Cond.instanceMethod (m_X7_pass.1) ∈ tblG := tG3 (i := 177) (by decide +kernel) (by decide +kernel)
theorem se_X7_pass : Cond.selects m_X7_pass.1.cls m_X7_pass.1 m_X7_pass.1 ∈ tblG := tG3 (i := 178) (by decide +kernel) (by decide +kernel)
theorem cw_X7_enter : cwOf m_X7_enter ∈ tblG := tG4 (i := 7) (by decide +kernel) (by decide +kernel)
theorem mk_X7_enter : MK m_X7_enter 2 := ⟨cw_X7_enter, tG1 (i := 1) (by decide +kernel) (by decide +kernel), rfl, by decide +kernel⟩
theorem im_X7_enter : Cond.instanceMethod (m_X7_enter.1) ∈ tblG := tG4 (i := 5) (by decide +kernel) (by decide +kernel)
theorem se_X7_enter : Cond.selects m_X7_enter.1.cls m_X7_enter.1 m_X7_enter.1 ∈ tblG := tG4 (i := 6) (by decide +kernel) (by decide +kernel)
theorem cw_X7_leave : cwOf m_X7_leave ∈ tblG := tG3 (i := 234) (by decide +kernel) (by decide +kernel)
theorem mk_X7_leave : MK m_X7_leave 2 := ⟨cw_X7_leave, tG1 (i := 1) (by decide +kernel) (by decide +kernel), rfl, by decide +kernel⟩
theorem im_X7_leave : Cond.instanceMethod (m_X7_leave.1) ∈ tblG := tG3 (i := 232) (by decide +kernel) (by decide +kernel)
theorem se_X7_leave : Cond.selects m_X7_leave.1.cls m_X7_leave.1 m_X7_leave.1 ∈ tblG := tG3 (i := 233) (by decide +kernel) (by decide +kernel)
theorem cw_X7_weeks : cwOf m_X7_weeks ∈ tblG := tG3 (i := 193) (by decide +kernel) (by decide +kernel)
theorem mk_X7_weeks : MK m_X7_weeks 1 := ⟨cw_X7_weeks, tG1 (i := 1) (by decide +kernel) (by decide +kernel), rfl, by decide +kernel⟩
theorem im_X7_weeks : Cond.instanceMethod (m_X7_weeks.1) ∈ tblG := tG3 (i := 191) (by decide +kernel) (by decide +kernel)
theorem se_X7_weeks : Cond.selects m_X7_weeks.1.cls m_X7_weeks.1 m_X7_weeks.1 ∈ tblG := tG3 (i := 192) (by decide +kernel) (by decide +kernel)
theorem cw_X7_tune : cwOf m_X7_tune ∈ tblG := tG4 (i := 16) (by decide +kernel) (by decide +kernel)
theorem mk_X7_tune : MK m_X7_tune 2 := ⟨cw_X7_tune, tG1 (i := 1) (by decide +kernel) (by decide +kernel), rfl, by decide +kernel⟩
theorem im_X7_tune : Cond.instanceMethod (m_X7_tune.1) ∈ tblG := tG4 (i := 14) (by decide +kernel) (by decide +kernel)
theorem se_X7_tune : Cond.selects m_X7_tune.1.cls m_X7_tune.1 m_X7_tune.1 ∈ tblG := tG4 (i := 15) (by decide +kernel) (by decide +kernel)
theorem cw_X7_undo : cwOf m_X7_undo ∈ tblG := tG2 (i := 47) (by decide +kernel) (by decide +kernel)
theorem mk_X7_undo : MK m_X7_undo 0 := ⟨cw_X7_undo, tG1 (i := 1) (by decide +kernel) (by decide +kernel), rfl, by decide +kernel⟩
theorem im_X7_undo : Cond.instanceMethod (m_X7_undo.1) ∈ tblG := tG2 (i := 45) (by decide +kernel) (by decide +kernel)
theorem se_X7_undo : Cond.selects m_X7_undo.1.cls m_X7_undo.1 m_X7_undo.1 ∈ tblG := tG2 (i := 46) (by decide +kernel) (by decide +kernel)
theorem cw_X7_why : cwOf m_X7_why ∈ tblG := tG4 (i := 99) (by decide +kernel) (by decide +kernel)
theorem mk_X7_why : MK m_X7_why 6 := ⟨cw_X7_why, tG1 (i := 1) (by decide +kernel) (by decide +kernel), rfl, by decide +kernel⟩
theorem im_X7_why : Cond.instanceMethod (m_X7_why.1) ∈ tblG := tG4 (i := 97) (by decide +kernel) (by decide +kernel)
theorem se_X7_why : Cond.selects m_X7_why.1.cls m_X7_why.1 m_X7_why.1 ∈ tblG := tG4 (i := 98) (by decide +kernel) (by decide +kernel)
theorem cw_X7_whySeat : cwOf m_X7_whySeat ∈ tblG := tG3 (i := 221) (by decide +kernel) (by decide +kernel)
theorem mk_X7_whySeat : MK m_X7_whySeat 2 := ⟨cw_X7_whySeat, tG1 (i := 1) (by decide +kernel) (by decide +kernel), rfl, by decide +kernel⟩
theorem im_X7_whySeat : Cond.instanceMethod (m_X7_whySeat.1) ∈ tblG := tG3 (i := 219) (by decide +kernel) (by decide +kernel)
theorem se_X7_whySeat : Cond.selects m_X7_whySeat.1.cls m_X7_whySeat.1 m_X7_whySeat.1 ∈ tblG := tG3 (i := 220) (by decide +kernel) (by decide +kernel)
theorem cw_X7_bestFloor : cwOf m_X7_bestFloor ∈ tblG := tG3 (i := 113) (by decide +kernel) (by decide +kernel)
theorem mk_X7_bestFloor : MK m_X7_bestFloor 5 := ⟨cw_X7_bestFloor, tG1 (i := 1) (by decide +kernel) (by decide +kernel), rfl, by decide +kernel⟩
theorem im_X7_bestFloor : Cond.instanceMethod (m_X7_bestFloor.1) ∈ tblG := tG3 (i := 111) (by decide +kernel) (by decide +kernel)
theorem se_X7_bestFloor : Cond.selects m_X7_bestFloor.1.cls m_X7_bestFloor.1 m_X7_bestFloor.1 ∈ tblG := tG3 (i := 112) (by decide +kernel) (by decide +kernel)
theorem cw_X7_emptyIn : cwOf m_X7_emptyIn ∈ tblG := tG4 (i := 34) (by decide +kernel) (by decide +kernel)
theorem mk_X7_emptyIn : MK m_X7_emptyIn 1 := ⟨cw_X7_emptyIn, tG1 (i := 1) (by decide +kernel) (by decide +kernel), rfl, by decide +kernel⟩
theorem im_X7_emptyIn : Cond.instanceMethod (m_X7_emptyIn.1) ∈ tblG := tG4 (i := 32) (by decide +kernel) (by decide +kernel)
theorem se_X7_emptyIn : Cond.selects m_X7_emptyIn.1.cls m_X7_emptyIn.1 m_X7_emptyIn.1 ∈ tblG := tG4 (i := 33) (by decide +kernel) (by decide +kernel)
theorem cw_X7_held : cwOf m_X7_held ∈ tblG := tG4 (i := 104) (by decide +kernel) (by decide +kernel)
theorem mk_X7_held : MK m_X7_held 0 := ⟨cw_X7_held, tG1 (i := 1) (by decide +kernel) (by decide +kernel), rfl, by decide +kernel⟩
theorem im_X7_held : Cond.instanceMethod (m_X7_held.1) ∈ tblG := tG4 (i := 102) (by decide +kernel) (by decide +kernel)
theorem se_X7_held : Cond.selects m_X7_held.1.cls m_X7_held.1 m_X7_held.1 ∈ tblG := tG4 (i := 103) (by decide +kernel) (by decide +kernel)
theorem cw_X7_runScript : cwOf m_X7_runScript ∈ tblG := tG4 (i := 109) (by decide +kernel) (by decide +kernel)
theorem mk_X7_runScript : MK m_X7_runScript 2 := ⟨cw_X7_runScript, tG1 (i := 1) (by decide +kernel) (by decide +kernel), rfl, by decide +kernel⟩
theorem im_X7_runScript : Cond.instanceMethod (m_X7_runScript.1) ∈ tblG := tG4 (i := 107) (by decide +kernel) (by decide +kernel)
theorem se_X7_runScript : Cond.selects m_X7_runScript.1.cls m_X7_runScript.1 m_X7_runScript.1 ∈ tblG := tG4 (i := 108) (by decide +kernel) (by decide +kernel)
theorem cw_X7_simulate : cwOf m_X7_simulate ∈ tblG := tG4 (i := 121) (by decide +kernel) (by decide +kernel)
theorem mk_X7_simulate : MK m_X7_simulate 2 := ⟨cw_X7_simulate, tG1 (i := 1) (by decide +kernel) (by decide +kernel), rfl, by decide +kernel⟩
theorem im_X7_simulate : Cond.instanceMethod (m_X7_simulate.1) ∈ tblG := tG4 (i := 119) (by decide +kernel) (by decide +kernel)
theorem se_X7_simulate : Cond.selects m_X7_simulate.1.cls m_X7_simulate.1 m_X7_simulate.1 ∈ tblG := tG4 (i := 120) (by decide +kernel) (by decide +kernel)
theorem cw_X7_save : cwOf m_X7_save ∈ tblG := tG2 (i := 150) (by decide +kernel) (by decide +kernel)
theorem mk_X7_save : MK m_X7_save 1 := ⟨cw_X7_save, tG1 (i := 1) (by decide +kernel) (by decide +kernel), rfl, by decide +kernel⟩
theorem im_X7_save : Cond.instanceMethod (m_X7_save.1) ∈ tblG := tG2 (i := 148) (by decide +kernel) (by decide +kernel)
theorem se_X7_save : Cond.selects m_X7_save.1.cls m_X7_save.1 m_X7_save.1 ∈ tblG := tG2 (i := 149) (by decide +kernel) (by decide +kernel)
theorem cw_X7_restore : cwOf m_X7_restore ∈ tblG := tG2 (i := 177) (by decide +kernel) (by decide +kernel)
theorem mk_X7_restore : MK m_X7_restore 1 := ⟨cw_X7_restore, tG1 (i := 1) (by decide +kernel) (by decide +kernel), rfl, by decide +kernel⟩
theorem im_X7_restore : Cond.instanceMethod (m_X7_restore.1) ∈ tblG := tG2 (i := 175) (by decide +kernel) (by decide +kernel)
theorem se_X7_restore : Cond.selects m_X7_restore.1.cls m_X7_restore.1 m_X7_restore.1 ∈ tblG := tG2 (i := 176) (by decide +kernel) (by decide +kernel)
theorem cw_X7_isWithin : cwOf m_X7_isWithin ∈ tblG := tG2 (i := 153) (by decide +kernel) (by decide +kernel)
theorem mk_X7_isWithin : MK m_X7_isWithin 3 := ⟨cw_X7_isWithin, tG1 (i := 1) (by decide +kernel) (by decide +kernel), rfl, by decide +kernel⟩
theorem sm_X7_isWithin : Cond.static (m_X7_isWithin.1) ∈ tblG := tG2 (i := 152) (by decide +kernel) (by decide +kernel)
theorem cw_X7_requireIndex : cwOf m_X7_requireIndex ∈ tblG := tG2 (i := 156) (by decide +kernel) (by decide +kernel)
theorem mk_X7_requireIndex : MK m_X7_requireIndex 1 := ⟨cw_X7_requireIndex, tG1 (i := 1) (by decide +kernel) (by decide +kernel), rfl, by decide +kernel⟩
theorem sm_X7_requireIndex : Cond.static (m_X7_requireIndex.1) ∈ tblG := tG2 (i := 155) (by decide +kernel) (by decide +kernel)
theorem cw_X7_requireArgument : cwOf m_X7_requireArgument ∈ tblG := tG3 (i := 73) (by decide +kernel) (by decide +kernel)
theorem mk_X7_requireArgument : MK m_X7_requireArgument 1 := ⟨cw_X7_requireArgument, tG1 (i := 1) (by decide +kernel) (by decide +kernel), rfl, by decide +kernel⟩
theorem sm_X7_requireArgument : Cond.static (m_X7_requireArgument.1) ∈ tblG := tG3 (i := 72) (by decide +kernel) (by decide +kernel)
theorem cw_X7_requireState : cwOf m_X7_requireState ∈ tblG := tG2 (i := 50) (by decide +kernel) (by decide +kernel)
theorem mk_X7_requireState : MK m_X7_requireState 1 := ⟨cw_X7_requireState, tG1 (i := 1) (by decide +kernel) (by decide +kernel), rfl, by decide +kernel⟩
theorem sm_X7_requireState : Cond.static (m_X7_requireState.1) ∈ tblG := tG2 (i := 49) (by decide +kernel) (by decide +kernel)
theorem cw_X7_requireLessonArguments : cwOf m_X7_requireLessonArguments ∈ tblG := tG3 (i := 116) (by decide +kernel) (by decide +kernel)
theorem mk_X7_requireLessonArguments : MK m_X7_requireLessonArguments 4 := ⟨cw_X7_requireLessonArguments, tG1 (i := 1) (by decide +kernel) (by decide +kernel), rfl, by decide +kernel⟩
theorem sm_X7_requireLessonArguments : Cond.static (m_X7_requireLessonArguments.1) ∈ tblG := tG3 (i := 115) (by decide +kernel) (by decide +kernel)
theorem cw_X7_withoutGroups : cwOf m_X7_withoutGroups ∈ tblG := tG4 (i := 112) (by decide +kernel) (by decide +kernel)
theorem mk_X7_withoutGroups : MK m_X7_withoutGroups 2 := ⟨cw_X7_withoutGroups, tG1 (i := 1) (by decide +kernel) (by decide +kernel), rfl, by decide +kernel⟩
theorem sm_X7_withoutGroups : Cond.static (m_X7_withoutGroups.1) ∈ tblG := tG4 (i := 111) (by decide +kernel) (by decide +kernel)
theorem cw_X7_tryGroup : cwOf m_X7_tryGroup ∈ tblG := tG4 (i := 117) (by decide +kernel) (by decide +kernel)
theorem mk_X7_tryGroup : MK m_X7_tryGroup 1 := ⟨cw_X7_tryGroup, tG1 (i := 1) (by decide +kernel) (by decide +kernel), rfl, by decide +kernel⟩
theorem im_X7_tryGroup : Cond.instanceMethod (m_X7_tryGroup.1) ∈ tblG := tG4 (i := 116) (by decide +kernel) (by decide +kernel)
theorem se_X7_tryGroup : Cond.selects m_X7_tryGroup.1.cls m_X7_tryGroup.1 m_X7_tryGroup.1 ∈ tblG := tGs (i := 15) (by decide +kernel) (by decide +kernel)
theorem cw_X7_tryTurn : cwOf m_X7_tryTurn ∈ tblG := tG4 (i := 127) (by decide +kernel) (by decide +kernel)
theorem mk_X7_tryTurn : MK m_X7_tryTurn 1 := ⟨cw_X7_tryTurn, tG1 (i := 1) (by decide +kernel) (by decide +kernel), rfl, by decide +kernel⟩
theorem im_X7_tryTurn : Cond.instanceMethod (m_X7_tryTurn.1) ∈ tblG := tG4 (i := 126) (by decide +kernel) (by decide +kernel)
theorem se_X7_tryTurn : Cond.selects m_X7_tryTurn.1.cls m_X7_tryTurn.1 m_X7_tryTurn.1 ∈ tblG := tGs (i := 16) (by decide +kernel) (by decide +kernel)
theorem cw_X7_tryLeaving : cwOf m_X7_tryLeaving ∈ tblG := tG4 (i := 131) (by decide +kernel) (by decide +kernel)
theorem mk_X7_tryLeaving : MK m_X7_tryLeaving 1 := ⟨cw_X7_tryLeaving, tG1 (i := 1) (by decide +kernel) (by decide +kernel), rfl, by decide +kernel⟩
theorem im_X7_tryLeaving : Cond.instanceMethod (m_X7_tryLeaving.1) ∈ tblG := tG4 (i := 130) (by decide +kernel) (by decide +kernel)
theorem se_X7_tryLeaving : Cond.selects m_X7_tryLeaving.1.cls m_X7_tryLeaving.1 m_X7_tryLeaving.1 ∈ tblG := tGs (i := 17) (by decide +kernel) (by decide +kernel)
theorem cw_J6_bitCount_0f7a4 : cwOf m_J6_bitCount_0f7a4 ∈ tblG := tG2 (i := 205) (by decide +kernel) (by decide +kernel)
theorem mk_J6_bitCount_0f7a4 : MK m_J6_bitCount_0f7a4 1 := ⟨cw_J6_bitCount_0f7a4, tG1 (i := 9) (by decide +kernel) (by decide +kernel), rfl, by decide +kernel⟩
theorem sm_J6_bitCount_0f7a4 : Cond.static (m_J6_bitCount_0f7a4.1) ∈ tblG := tG2 (i := 204) (by decide +kernel) (by decide +kernel)
theorem cw_J9_max_7cf53 : cwOf m_J9_max_7cf53 ∈ tblG := tG4 (i := 75) (by decide +kernel) (by decide +kernel)
theorem mk_J9_max_7cf53 : MK m_J9_max_7cf53 2 := ⟨cw_J9_max_7cf53, tG1 (i := 15) (by decide +kernel) (by decide +kernel), rfl, by decide +kernel⟩
theorem sm_J9_max_7cf53 : Cond.static (m_J9_max_7cf53.1) ∈ tblG := tG4 (i := 74) (by decide +kernel) (by decide +kernel)
theorem cw_J9_min_7cf53 : cwOf m_J9_min_7cf53 ∈ tblG := tG3 (i := 19) (by decide +kernel) (by decide +kernel)
theorem mk_J9_min_7cf53 : MK m_J9_min_7cf53 2 := ⟨cw_J9_min_7cf53, tG1 (i := 15) (by decide +kernel) (by decide +kernel), rfl, by decide +kernel⟩
theorem sm_J9_min_7cf53 : Cond.static (m_J9_min_7cf53.1) ∈ tblG := tG3 (i := 18) (by decide +kernel) (by decide +kernel)
theorem cw_L_cell : cwOf m_L_cell ∈ tblG := tG2 (i := 184) (by decide +kernel) (by decide +kernel)
theorem mk_L_cell : MK m_L_cell 2 := ⟨cw_L_cell, tG1 (i := 0) (by decide +kernel) (by decide +kernel), rfl, by decide +kernel⟩
theorem sm_L_cell : Cond.static (m_L_cell.1) ∈ tblG := tG2 (i := 183) (by decide +kernel) (by decide +kernel)
theorem cw_L_up : cwOf m_L_up ∈ tblG := tG3 (i := 80) (by decide +kernel) (by decide +kernel)
theorem mk_L_up : MK m_L_up 2 := ⟨cw_L_up, tG1 (i := 0) (by decide +kernel) (by decide +kernel), rfl, by decide +kernel⟩
theorem sm_L_up : Cond.static (m_L_up.1) ∈ tblG := tG3 (i := 79) (by decide +kernel) (by decide +kernel)
theorem cw_L_looks : cwOf m_L_looks ∈ tblG := tG2 (i := 188) (by decide +kernel) (by decide +kernel)
theorem mk_L_looks : MK m_L_looks 1 := ⟨cw_L_looks, tG1 (i := 0) (by decide +kernel) (by decide +kernel), rfl, by decide +kernel⟩
theorem sm_L_looks : Cond.static (m_L_looks.1) ∈ tblG := tG2 (i := 187) (by decide +kernel) (by decide +kernel)
theorem cw_L_act : cwOf m_L_act ∈ tblG := tG3 (i := 77) (by decide +kernel) (by decide +kernel)
theorem mk_L_act : MK m_L_act 3 := ⟨cw_L_act, tG1 (i := 0) (by decide +kernel) (by decide +kernel), rfl, by decide +kernel⟩
theorem sm_L_act : Cond.static (m_L_act.1) ∈ tblG := tG3 (i := 76) (by decide +kernel) (by decide +kernel)
theorem cw_L_sums : cwOf m_L_sums ∈ tblG := tG4 (i := 22) (by decide +kernel) (by decide +kernel)
theorem mk_L_sums : MK m_L_sums 1 := ⟨cw_L_sums, tG1 (i := 0) (by decide +kernel) (by decide +kernel), rfl, by decide +kernel⟩
theorem sm_L_sums : Cond.static (m_L_sums.1) ∈ tblG := tG4 (i := 21) (by decide +kernel) (by decide +kernel)
theorem cw_L_holds : cwOf m_L_holds ∈ tblG := tG4 (i := 19) rfl (by decide +kernel)
theorem mk_L_holds : MK m_L_holds 1 := ⟨cw_L_holds, tG1 (i := 0) (by decide +kernel) (by decide +kernel), rfl, by decide +kernel⟩
theorem sm_L_holds : Cond.static (m_L_holds.1) ∈ tblG := tG4 (i := 18) (by decide +kernel) (by decide +kernel)
theorem cw_L_isAhead : cwOf m_L_isAhead ∈ tblG := tG4 (i := 95) rfl (by decide +kernel)
theorem mk_L_isAhead : MK m_L_isAhead 3 := ⟨cw_L_isAhead, tG1 (i := 0) (by decide +kernel) (by decide +kernel), rfl, by decide +kernel⟩
theorem sm_L_isAhead : Cond.static (m_L_isAhead.1) ∈ tblG := tG4 (i := 94) (by decide +kernel) (by decide +kernel)
theorem ml_L_13 : Cond.methodLink RL 13 (m_X7_about.1) ∈ tblG := tG2 (i := 191) (by decide +kernel) (by decide +kernel)
theorem ml_L_19 : Cond.methodLink RL 19 (m_X7_classOf.1) ∈ tblG := tG3 (i := 1) (by decide +kernel) (by decide +kernel)
theorem ml_L_23 : Cond.methodLink RL 23 (m_X7_dancerOf.1) ∈ tblG := tG3 (i := 21) (by decide +kernel) (by decide +kernel)
theorem ml_L_26 : Cond.methodLink RL 26 (m_X7_floorOf.1) ∈ tblG := tG3 (i := 38) (by decide +kernel) (by decide +kernel)
theorem ml_L_29 : Cond.methodLink RL 29 (m_X7_teacherOf.1) ∈ tblG := tG3 (i := 50) (by decide +kernel) (by decide +kernel)
theorem ml_L_32 : Cond.methodLink RL 32 (m_X7_setting.1) ∈ tblG := tG3 (i := 67) (by decide +kernel) (by decide +kernel)
theorem ml_L_35 : Cond.methodLink RL 35 (m_L_up.1) ∈ tblG := tG3 (i := 78) (by decide +kernel) (by decide +kernel)
theorem ml_L_40 : Cond.methodLink RL 40 (m_X7_floor.1) ∈ tblG := tG3 (i := 82) (by decide +kernel) (by decide +kernel)
theorem ml_L_44 : Cond.methodLink RL 44 (m_X7_teacher.1) ∈ tblG := tG3 (i := 94) (by decide +kernel) (by decide +kernel)
theorem ml_L_47 : Cond.methodLink RL 47 (m_X7_dancer.1) ∈ tblG := tG3 (i := 102) (by decide +kernel) (by decide +kernel)
theorem ml_L_51 : Cond.methodLink RL 51 (m_X7_bestFloor.1) ∈ tblG := tG3 (i := 110) (by decide +kernel) (by decide +kernel)
theorem ml_L_55 : Cond.methodLink RL 55 (m_X7_set.1) ∈ tblG := tG3 (i := 153) (by decide +kernel) (by decide +kernel)
theorem ml_L_59 : Cond.methodLink RL 59 (m_X7_drop.1) ∈ tblG := tG3 (i := 167) (by decide +kernel) (by decide +kernel)
theorem ml_L_62 : Cond.methodLink RL 62 (m_X7_pass.1) ∈ tblG := tG3 (i := 176) (by decide +kernel) (by decide +kernel)
theorem ml_L_65 : Cond.methodLink RL 65 (m_X7_weeks.1) ∈ tblG := tG3 (i := 190) (by decide +kernel) (by decide +kernel)
theorem ml_L_68 : Cond.methodLink RL 68 (m_X7_whySeat.1) ∈ tblG := tG3 (i := 218) (by decide +kernel) (by decide +kernel)
theorem ml_L_71 : Cond.methodLink RL 71 (m_X7_leave.1) ∈ tblG := tG3 (i := 231) (by decide +kernel) (by decide +kernel)
theorem ml_L_74 : Cond.methodLink RL 74 (m_X7_enter.1) ∈ tblG := tG4 (i := 4) (by decide +kernel) (by decide +kernel)
theorem ml_L_77 : Cond.methodLink RL 77 (m_X7_tune.1) ∈ tblG := tG4 (i := 13) (by decide +kernel) (by decide +kernel)
theorem ml_L_80 : Cond.methodLink RL 80 (m_L_sums.1) ∈ tblG := tG4 (i := 20) (by decide +kernel) (by decide +kernel)
theorem ml_L_84 : Cond.methodLink RL 84 (m_X7_uses.1) ∈ tblG := tG4 (i := 23) (by decide +kernel) (by decide +kernel)
theorem ml_L_87 : Cond.methodLink RL 87 (m_X7_emptyIn.1) ∈ tblG := tG4 (i := 31) (by decide +kernel) (by decide +kernel)
theorem ml_L_90 : Cond.methodLink RL 90 (m_X7_errorPosition.1) ∈ tblG := tG4 (i := 36) (by decide +kernel) (by decide +kernel)
theorem ml_L_93 : Cond.methodLink RL 93 (m_L_looks.1) ∈ tblG := tG2 (i := 186) (by decide +kernel) (by decide +kernel)
theorem ml_L_97 : Cond.methodLink RL 97 (m_X7_why.1) ∈ tblG := tG4 (i := 96) (by decide +kernel) (by decide +kernel)
theorem ml_L_100 : Cond.methodLink RL 100 (m_X7_undo.1) ∈ tblG := tG2 (i := 44) (by decide +kernel) (by decide +kernel)
theorem ml_L_103 : Cond.methodLink RL 103 (m_X7_held.1) ∈ tblG := tG4 (i := 101) (by decide +kernel) (by decide +kernel)
theorem ml_L_108 : Cond.methodLink RL 108 (m_X7_runScript.1) ∈ tblG := tG4 (i := 106) (by decide +kernel) (by decide +kernel)
theorem ml_L_112 : Cond.methodLink RL 112 (m_X7_simulate.1) ∈ tblG := tG4 (i := 118) (by decide +kernel) (by decide +kernel)
theorem ml_L_116 : Cond.methodLink RL 116 (m_X7_init.1) ∈ tblG := tG1 (i := 19) (by decide +kernel) (by decide +kernel)
theorem ml_L_117 : Cond.methodLink RL 117 (m_L_holds.1) ∈ tblG := tG4 (i := 17) (by decide +kernel) (by decide +kernel)
theorem ml_L_121 : Cond.methodLink RL 121 (m_X7_save.1) ∈ tblG := tG2 (i := 147) (by decide +kernel) (by decide +kernel)
theorem ml_L_124 : Cond.methodLink RL 124 (m_L_cell.1) ∈ tblG := tG2 (i := 182) (by decide +kernel) (by decide +kernel)
theorem ml_L_128 : Cond.methodLink RL 128 (m_L_act.1) ∈ tblG := tG3 (i := 75) (by decide +kernel) (by decide +kernel)
theorem ml_L_132 : Cond.methodLink RL 132 (m_L_isAhead.1) ∈ tblG := tG4 (i := 93) (by decide +kernel) (by decide +kernel)
theorem ml_L_136 : Cond.methodLink RL 136 (m_X7_restore.1) ∈ tblG := tG2 (i := 174) (by decide +kernel) (by decide +kernel)
theorem ml_X0_3 : Cond.methodLink RX0 3 Lib.objectInit ∈ tblG := tG1 (i := 162) (by decide +kernel) (by decide +kernel)
theorem ml_X1_3 : Cond.methodLink RX1 3 Lib.objectInit ∈ tblG := tG1 (i := 64) (by decide +kernel) (by decide +kernel)
theorem ml_X1_24 : Cond.methodLink RX1 24 (m_J9_min_7cf53.1) ∈ tblG := tG3 (i := 17) (by decide +kernel) (by decide +kernel)
theorem ml_X2_3 : Cond.methodLink RX2 3 Lib.objectInit ∈ tblG := tG2 (i := 9) (by decide +kernel) (by decide +kernel)
theorem ml_X2_17 : Cond.methodLink RX2 17 (m_X4_init.1) ∈ tblG := tG2 (i := 12) (by decide +kernel) (by decide +kernel)
theorem ml_X2_25 : Cond.methodLink RX2 25 (m_X4_copyFrom.1) ∈ tblG := tG2 (i := 123) (by decide +kernel) (by decide +kernel)
theorem ml_X3_1 : Cond.methodLink RX3 1 Lib.objectInit ∈ tblG := tG1 (i := 110) (by decide +kernel) (by decide +kernel)
theorem ml_X3_37 : Cond.methodLink RX3 37 (m_J6_bitCount_0f7a4.1) ∈ tblG := tG2 (i := 203) (by decide +kernel) (by decide +kernel)
theorem ml_X4_3 : Cond.methodLink RX4 3 Lib.objectInit ∈ tblG := tG1 (i := 57) (by decide +kernel) (by decide +kernel)
theorem ml_X4_43 : Cond.methodLink RX4 43 (m_X4_makeNew.1) ∈ tblG := tG1 (i := 184) (by decide +kernel) (by decide +kernel)
theorem ml_X4_74 : Cond.methodLink RX4 74 (m_X4_copyRowsFrom.1) ∈ tblG := tG2 (i := 127) (by decide +kernel) (by decide +kernel)
theorem ml_X4_78 : Cond.methodLink RX4 78 (m_X1_copyFrom.1) ∈ tblG := tG2 (i := 131) (by decide +kernel) (by decide +kernel)
theorem ml_X4_82 : Cond.methodLink RX4 82 (m_X5_copyFrom.1) ∈ tblG := tG2 (i := 135) (by decide +kernel) (by decide +kernel)
theorem ml_X4_85 : Cond.methodLink RX4 85 (m_X3_copyFrom.1) ∈ tblG := tG2 (i := 139) (by decide +kernel) (by decide +kernel)
theorem ml_X4_88 : Cond.methodLink RX4 88 (m_X0_copyFrom.1) ∈ tblG := tG2 (i := 143) (by decide +kernel) (by decide +kernel)
theorem ml_X4_91 : Cond.methodLink RX4 91 (m_X4_hasDancer.1) ∈ tblG := tG3 (i := 184) (by decide +kernel) (by decide +kernel)
theorem ml_X4_95 : Cond.methodLink RX4 95 (m_X4_hasLesson.1) ∈ tblG := tG3 (i := 175) (by decide +kernel) (by decide +kernel)
theorem ml_X4_98 : Cond.methodLink RX4 98 (m_X3_seatsDancer.1) ∈ tblG := tG3 (i := 34) (by decide +kernel) (by decide +kernel)
theorem ml_X4_131 : Cond.methodLink RX4 131 (m_X4_hasFloor.1) ∈ tblG := tG3 (i := 161) (by decide +kernel) (by decide +kernel)
theorem ml_X4_134 : Cond.methodLink RX4 134 (m_X4_hasTeacher.1) ∈ tblG := tG3 (i := 162) (by decide +kernel) (by decide +kernel)
theorem ml_X4_137 : Cond.methodLink RX4 137 (m_X4_reasonAgainstLesson.1) ∈ tblG := tG3 (i := 121) (by decide +kernel) (by decide +kernel)
theorem ml_X4_166 : Cond.methodLink RX4 166 (m_X3_countSeats.1) ∈ tblG := tG2 (i := 199) (by decide +kernel) (by decide +kernel)
theorem ml_X4_170 : Cond.methodLink RX4 170 (m_X4_mayHavePass.1) ∈ tblG := tG3 (i := 189) (by decide +kernel) (by decide +kernel)
theorem ml_X4_173 : Cond.methodLink RX4 173 (m_X4_reasonAgainstSeat.1) ∈ tblG := tG4 (i := 12) (by decide +kernel) (by decide +kernel)
theorem ml_X4_177 : Cond.methodLink RX4 177 (m_X4_hasSeat.1) ∈ tblG := tG4 (i := 3) (by decide +kernel) (by decide +kernel)
theorem ml_X4_181 : Cond.methodLink RX4 181 (m_X4_isFloorInUse.1) ∈ tblG := tG3 (i := 125) (by decide +kernel) (by decide +kernel)
theorem ml_X4_185 : Cond.methodLink RX4 185 (m_X4_isTeacherInUse.1) ∈ tblG := tG3 (i := 133) (by decide +kernel) (by decide +kernel)
theorem ml_X4_188 : Cond.methodLink RX4 188 (m_X5_teaches.1) ∈ tblG := tG3 (i := 137) (by decide +kernel) (by decide +kernel)
theorem ml_X4_191 : Cond.methodLink RX4 191 (m_X1_hasSpringFor.1) ∈ tblG := tG3 (i := 141) (by decide +kernel) (by decide +kernel)
theorem ml_X4_194 : Cond.methodLink RX4 194 (m_X1_hasBarreFor.1) ∈ tblG := tG3 (i := 145) (by decide +kernel) (by decide +kernel)
theorem ml_X4_197 : Cond.methodLink RX4 197 (m_X1_hasMirrorsFor.1) ∈ tblG := tG3 (i := 149) (by decide +kernel) (by decide +kernel)
theorem ml_X4_200 : Cond.methodLink RX4 200 (m_X3_isAt.1) ∈ tblG := tG3 (i := 129) (by decide +kernel) (by decide +kernel)
theorem ml_X4_203 : Cond.methodLink RX4 203 (m_X4_isDancerSeatedAt.1) ∈ tblG := tG3 (i := 226) (by decide +kernel) (by decide +kernel)
theorem ml_X4_206 : Cond.methodLink RX4 206 (m_X4_roomIn.1) ∈ tblG := tG3 (i := 230) (by decide +kernel) (by decide +kernel)
theorem ml_X4_210 : Cond.methodLink RX4 210 (m_X1_roomFor.1) ∈ tblG := tG3 (i := 13) (by decide +kernel) (by decide +kernel)
theorem ml_X4_214 : Cond.methodLink RX4 214 (m_X4_passWeek.1) ∈ tblG := tG3 (i := 198) (by decide +kernel) (by decide +kernel)
theorem ml_X4_217 : Cond.methodLink RX4 217 (m_X4_holdLesson.1) ∈ tblG := tG3 (i := 202) (by decide +kernel) (by decide +kernel)
theorem ml_X4_220 : Cond.methodLink RX4 220 (m_X0_riseWith.1) ∈ tblG := tG3 (i := 214) (by decide +kernel) (by decide +kernel)
theorem ml_X4_224 : Cond.methodLink RX4 224 (m_X4_comersOf.1) ∈ tblG := tG3 (i := 206) (by decide +kernel) (by decide +kernel)
theorem ml_X4_227 : Cond.methodLink RX4 227 (m_J6_bitCount_0f7a4.1) ∈ tblG := tG3 (i := 66) (by decide +kernel) (by decide +kernel)
theorem ml_X4_232 : Cond.methodLink RX4 232 (m_X0_dance.1) ∈ tblG := tG3 (i := 210) (by decide +kernel) (by decide +kernel)
theorem ml_X4_235 : Cond.methodLink RX4 235 (m_X0_usesSoFar.1) ∈ tblG := tG2 (i := 217) (by decide +kernel) (by decide +kernel)
theorem ml_X5_1 : Cond.methodLink RX5 1 Lib.objectInit ∈ tblG := tG1 (i := 92) (by decide +kernel) (by decide +kernel)
theorem ml_X6_3 : Cond.methodLink RX6 3 Lib.objectInit ∈ tblG := tG1 (i := 30) (by decide +kernel) (by decide +kernel)
theorem ml_X6_23 : Cond.methodLink RX6 23 (m_X6_readStart.1) ∈ tblG := tG4 (i := 44) (by decide +kernel) (by decide +kernel)
theorem ml_X6_30 : Cond.methodLink RX6 30 (m_X6_hasMore.1) ∈ tblG := tG4 (i := 48) (by decide +kernel) (by decide +kernel)
theorem ml_X6_33 : Cond.methodLink RX6 33 (m_X6_readCommand.1) ∈ tblG := tG4 (i := 52) (by decide +kernel) (by decide +kernel)
theorem ml_X6_43 : Cond.methodLink RX6 43 (m_X6_readDigit.1) ∈ tblG := tG4 (i := 56) (by decide +kernel) (by decide +kernel)
theorem ml_X6_47 : Cond.methodLink RX6 47 (m_X6_readTwoDigits.1) ∈ tblG := tG4 (i := 69) (by decide +kernel) (by decide +kernel)
theorem ml_X6_50 : Cond.methodLink RX6 50 (m_X6_readKind.1) ∈ tblG := tG4 (i := 77) (by decide +kernel) (by decide +kernel)
theorem ml_X6_53 : Cond.methodLink RX6 53 (m_X6_readPlace.1) ∈ tblG := tG4 (i := 81) (by decide +kernel) (by decide +kernel)
theorem ml_X6_56 : Cond.methodLink RX6 56 (m_X6_readDancer.1) ∈ tblG := tG4 (i := 85) (by decide +kernel) (by decide +kernel)
theorem ml_X6_59 : Cond.methodLink RX6 59 (m_X6_readLesson.1) ∈ tblG := tG4 (i := 89) (by decide +kernel) (by decide +kernel)
theorem ml_X6_62 : Cond.methodLink RX6 62 (m_X6_digitWithin.1) ∈ tblG := tG4 (i := 60) (by decide +kernel) (by decide +kernel)
theorem ml_X6_66 : Cond.methodLink RX6 66 (m_X6_keepNumber.1) ∈ tblG := tG4 (i := 65) (by decide +kernel) (by decide +kernel)
theorem ml_X6_70 : Cond.methodLink RX6 70 (m_J9_max_7cf53.1) ∈ tblG := tG4 (i := 73) (by decide +kernel) (by decide +kernel)
theorem ml_X6_75 : Cond.methodLink RX6 75 (m_J9_min_7cf53.1) ∈ tblG := tG4 (i := 76) (by decide +kernel) (by decide +kernel)
theorem ml_X7_1 : Cond.methodLink RX7 1 Lib.objectInit ∈ tblG := tG1 (i := 22) (by decide +kernel) (by decide +kernel)
theorem ml_X7_9 : Cond.methodLink RX7 9 (m_X6_init.1) ∈ tblG := tG1 (i := 27) (by decide +kernel) (by decide +kernel)
theorem ml_X7_18 : Cond.methodLink RX7 18 (m_X4_init.1) ∈ tblG := tG1 (i := 54) (by decide +kernel) (by decide +kernel)
theorem ml_X7_28 : Cond.methodLink RX7 28 (m_X2_init.1) ∈ tblG := tG2 (i := 6) (by decide +kernel) (by decide +kernel)
theorem ml_X7_41 : Cond.methodLink RX7 41 (m_X7_isWithin.1) ∈ tblG := tG2 (i := 151) (by decide +kernel) (by decide +kernel)
theorem ml_X7_45 : Cond.methodLink RX7 45 (m_X7_requireArgument.1) ∈ tblG := tG3 (i := 71) (by decide +kernel) (by decide +kernel)
theorem ml_X7_53 : Cond.methodLink RX7 53 (m_X7_requireState.1) ∈ tblG := tG2 (i := 48) (by decide +kernel) (by decide +kernel)
theorem ml_X7_64 : Cond.methodLink RX7 64 (m_X6_findError.1) ∈ tblG := tG4 (i := 40) (by decide +kernel) (by decide +kernel)
theorem ml_X7_107 : Cond.methodLink RX7 107 (m_X4_countSeats.1) ∈ tblG := tG2 (i := 195) (by decide +kernel) (by decide +kernel)
theorem ml_X7_110 : Cond.methodLink RX7 110 (m_X4_countPasses.1) ∈ tblG := tG2 (i := 209) (by decide +kernel) (by decide +kernel)
theorem ml_X7_113 : Cond.methodLink RX7 113 (m_X4_countUsesByDancers.1) ∈ tblG := tG2 (i := 213) (by decide +kernel) (by decide +kernel)
theorem ml_X7_116 : Cond.methodLink RX7 116 (m_X4_countLeft.1) ∈ tblG := tG2 (i := 221) (by decide +kernel) (by decide +kernel)
theorem ml_X7_135 : Cond.methodLink RX7 135 (m_X4_hasFloor.1) ∈ tblG := tG3 (i := 42) (by decide +kernel) (by decide +kernel)
theorem ml_X7_139 : Cond.methodLink RX7 139 (m_X7_requireIndex.1) ∈ tblG := tG2 (i := 154) (by decide +kernel) (by decide +kernel)
theorem ml_X7_160 : Cond.methodLink RX7 160 (m_X4_countLessonsOnFloor.1) ∈ tblG := tG3 (i := 46) (by decide +kernel) (by decide +kernel)
theorem ml_X7_164 : Cond.methodLink RX7 164 (m_X4_hasTeacher.1) ∈ tblG := tG3 (i := 54) (by decide +kernel) (by decide +kernel)
theorem ml_X7_179 : Cond.methodLink RX7 179 (m_X4_countLessonsOfTeacher.1) ∈ tblG := tG3 (i := 58) (by decide +kernel) (by decide +kernel)
theorem ml_X7_182 : Cond.methodLink RX7 182 (m_X4_countDaysOfTeacher.1) ∈ tblG := tG3 (i := 62) (by decide +kernel) (by decide +kernel)
theorem ml_X7_185 : Cond.methodLink RX7 185 (m_X4_hasLesson.1) ∈ tblG := tG3 (i := 5) (by decide +kernel) (by decide +kernel)
theorem ml_X7_212 : Cond.methodLink RX7 212 (m_X4_roomIn.1) ∈ tblG := tG3 (i := 9) (by decide +kernel) (by decide +kernel)
theorem ml_X7_216 : Cond.methodLink RX7 216 (m_X3_countSeats.1) ∈ tblG := tG3 (i := 20) (by decide +kernel) (by decide +kernel)
theorem ml_X7_223 : Cond.methodLink RX7 223 (m_X4_hasDancer.1) ∈ tblG := tG3 (i := 25) (by decide +kernel) (by decide +kernel)
theorem ml_X7_239 : Cond.methodLink RX7 239 (m_X0_usesSoFar.1) ∈ tblG := tG3 (i := 29) (by decide +kernel) (by decide +kernel)
theorem ml_X7_245 : Cond.methodLink RX7 245 (m_X4_countSeatsOfDancer.1) ∈ tblG := tG3 (i := 30) (by decide +kernel) (by decide +kernel)
theorem ml_X7_248 : Cond.methodLink RX7 248 (m_X4_countUsesByLessons.1) ∈ tblG := tG4 (i := 27) (by decide +kernel) (by decide +kernel)
theorem ml_X7_254 : Cond.methodLink RX7 254 (m_X2_remember.1) ∈ tblG := tG3 (i := 86) (by decide +kernel) (by decide +kernel)
theorem ml_X7_258 : Cond.methodLink RX7 258 (m_X4_addFloor.1) ∈ tblG := tG3 (i := 90) (by decide +kernel) (by decide +kernel)
theorem ml_X7_262 : Cond.methodLink RX7 262 (m_X4_addTeacher.1) ∈ tblG := tG3 (i := 98) (by decide +kernel) (by decide +kernel)
theorem ml_X7_266 : Cond.methodLink RX7 266 (m_X7_requireLessonArguments.1) ∈ tblG := tG3 (i := 114) (by decide +kernel) (by decide +kernel)
theorem ml_X7_270 : Cond.methodLink RX7 270 (m_X4_addLesson.1) ∈ tblG := tG3 (i := 157) (by decide +kernel) (by decide +kernel)
theorem ml_X7_274 : Cond.methodLink RX7 274 (m_X4_countRefusal.1) ∈ tblG := tG3 (i := 163) (by decide +kernel) (by decide +kernel)
theorem ml_X7_277 : Cond.methodLink RX7 277 (m_X4_dropLesson.1) ∈ tblG := tG3 (i := 171) (by decide +kernel) (by decide +kernel)
theorem ml_X7_280 : Cond.methodLink RX7 280 (m_X4_addDancer.1) ∈ tblG := tG3 (i := 106) (by decide +kernel) (by decide +kernel)
theorem ml_X7_283 : Cond.methodLink RX7 283 (m_X4_mayHavePass.1) ∈ tblG := tG3 (i := 180) (by decide +kernel) (by decide +kernel)
theorem ml_X7_286 : Cond.methodLink RX7 286 (m_X4_givePass.1) ∈ tblG := tG3 (i := 185) (by decide +kernel) (by decide +kernel)
theorem ml_X7_289 : Cond.methodLink RX7 289 (m_X4_takeSeat.1) ∈ tblG := tG4 (i := 8) (by decide +kernel) (by decide +kernel)
theorem ml_X7_292 : Cond.methodLink RX7 292 (m_X4_hasSeat.1) ∈ tblG := tG3 (i := 235) (by decide +kernel) (by decide +kernel)
theorem ml_X7_296 : Cond.methodLink RX7 296 (m_X4_giveUpSeat.1) ∈ tblG := tG3 (i := 239) (by decide +kernel) (by decide +kernel)
theorem ml_X7_299 : Cond.methodLink RX7 299 (m_X4_passWeeks.1) ∈ tblG := tG3 (i := 194) (by decide +kernel) (by decide +kernel)
theorem ml_X7_305 : Cond.methodLink RX7 305 (m_X2_takeBack.1) ∈ tblG := tG2 (i := 119) (by decide +kernel) (by decide +kernel)
theorem ml_X7_309 : Cond.methodLink RX7 309 (m_X4_reasonAgainstLesson.1) ∈ tblG := tG4 (i := 100) (by decide +kernel) (by decide +kernel)
theorem ml_X7_312 : Cond.methodLink RX7 312 (m_X4_reasonAgainstSeat.1) ∈ tblG := tG3 (i := 222) (by decide +kernel) (by decide +kernel)
theorem ml_X7_315 : Cond.methodLink RX7 315 (m_X4_roomiestFloor.1) ∈ tblG := tG3 (i := 117) (by decide +kernel) (by decide +kernel)
theorem ml_X7_319 : Cond.methodLink RX7 319 (m_X4_copyFrom.1) ∈ tblG := tG2 (i := 173) (by decide +kernel) (by decide +kernel)
theorem ml_X7_322 : Cond.methodLink RX7 322 (m_X4_passWeek.1) ∈ tblG := tG4 (i := 35) (by decide +kernel) (by decide +kernel)
theorem ml_X7_325 : Cond.methodLink RX7 325 (m_X7_withoutGroups.1) ∈ tblG := tG4 (i := 110) (by decide +kernel) (by decide +kernel)
theorem ml_X7_331 : Cond.methodLink RX7 331 (m_X7_tryGroup.1) ∈ tblG := tG4 (i := 114) (by decide +kernel) (by decide +kernel)
theorem ml_X7_338 : Cond.methodLink RX7 338 (m_X7_tryTurn.1) ∈ tblG := tG4 (i := 124) (by decide +kernel) (by decide +kernel)
theorem ml_X7_341 : Cond.methodLink RX7 341 (m_X2_forgetAll.1) ∈ tblG := tG2 (i := 178) (by decide +kernel) (by decide +kernel)
theorem ml_X7_359 : Cond.methodLink RX7 359 (m_X7_tryLeaving.1) ∈ tblG := tG4 (i := 128) (by decide +kernel) (by decide +kernel)
theorem obj_im : Cond.instanceMethod Lib.objectInit ∈ tblG := tG1 (i := 23) (by decide +kernel) (by decide +kernel)
theorem obj_cd : Cond.code Lib.objectInit ⟨#[0xb1]⟩ 1 none ∈ tblG := tG1 (i := 24) (by decide +kernel) (by decide +kernel)
theorem uw_X0 : ∀ w ∈ u_ws RX0 TX0 4, w ∈ tblG := List.forall_mem_cons.mpr ⟨tG1 (i := 175) (by decide +kernel) (by decide +kernel), List.forall_mem_cons.mpr ⟨tG1 (i := 177) (by decide +kernel) (by decide +kernel), List.forall_mem_cons.mpr ⟨tG1 (i := 179) (by decide +kernel) (by decide +kernel), List.forall_mem_cons.mpr ⟨tG1 (i := 181) (by decide +kernel) (by decide +kernel), List.forall_mem_nil _⟩⟩⟩⟩
theorem uw_X1 : ∀ w ∈ u_ws RX1 TX1 4, w ∈ tblG := List.forall_mem_cons.mpr ⟨tG1 (i := 77) (by decide +kernel) (by decide +kernel), List.forall_mem_cons.mpr ⟨tG1 (i := 79) (by decide +kernel) (by decide +kernel), List.forall_mem_cons.mpr ⟨tG1 (i := 81) (by decide +kernel) (by decide +kernel), List.forall_mem_cons.mpr ⟨tG1 (i := 83) (by decide +kernel) (by decide +kernel), List.forall_mem_nil _⟩⟩⟩⟩
theorem uw_X2 : ∀ w ∈ u_ws RX2 TX2 3, w ∈ tblG := List.forall_mem_cons.mpr ⟨tG2 (i := 17) (by decide +kernel) (by decide +kernel), List.forall_mem_cons.mpr ⟨tG2 (i := 19) (by decide +kernel) (by decide +kernel), List.forall_mem_cons.mpr ⟨tG2 (i := 21) (by decide +kernel) (by decide +kernel), List.forall_mem_nil _⟩⟩⟩
theorem uw_X3 : ∀ w ∈ u_ws RX3 TX3 9, w ∈ tblG := List.forall_mem_cons.mpr ⟨tG1 (i := 137) (by decide +kernel) (by decide +kernel), List.forall_mem_cons.mpr ⟨tG1 (i := 139) (by decide +kernel) (by decide +kernel), List.forall_mem_cons.mpr ⟨tG1 (i := 141) (by decide +kernel) (by decide +kernel), List.forall_mem_cons.mpr ⟨tG1 (i := 143) (by decide +kernel) (by decide +kernel), List.forall_mem_cons.mpr ⟨tG1 (i := 145) (by decide +kernel) (by decide +kernel), List.forall_mem_cons.mpr ⟨tG1 (i := 147) (by decide +kernel) (by decide +kernel), List.forall_mem_cons.mpr ⟨tG1 (i := 149) (by decide +kernel) (by decide +kernel), List.forall_mem_cons.mpr ⟨tG1 (i := 151) (by decide +kernel) (by decide +kernel), List.forall_mem_cons.mpr ⟨tG1 (i := 153) (by decide +kernel) (by decide +kernel), List.forall_mem_nil _⟩⟩⟩⟩⟩⟩⟩⟩⟩
theorem uw_X4 : ∀ w ∈ u_ws RX4 TX4 14, w ∈ tblG := List.forall_mem_cons.mpr ⟨tG1 (i := 215) (by decide +kernel) (by decide +kernel), List.forall_mem_cons.mpr ⟨tG1 (i := 217) (by decide +kernel) (by decide +kernel), List.forall_mem_cons.mpr ⟨tG1 (i := 219) (by decide +kernel) (by decide +kernel), List.forall_mem_cons.mpr ⟨tG1 (i := 221) (by decide +kernel) (by decide +kernel), List.forall_mem_cons.mpr ⟨tG1 (i := 223) (by decide +kernel) (by decide +kernel), List.forall_mem_cons.mpr ⟨tG1 (i := 225) (by decide +kernel) (by decide +kernel), List.forall_mem_cons.mpr ⟨tG1 (i := 227) (by decide +kernel) (by decide +kernel), List.forall_mem_cons.mpr ⟨tG1 (i := 229) (by decide +kernel) (by decide +kernel), List.forall_mem_cons.mpr ⟨tG1 (i := 231) (by decide +kernel) (by decide +kernel), List.forall_mem_cons.mpr ⟨tG1 (i := 233) (by decide +kernel) (by decide +kernel), List.forall_mem_cons.mpr ⟨tG1 (i := 235) (by decide +kernel) (by decide +kernel), List.forall_mem_cons.mpr ⟨tG1 (i := 237) (by decide +kernel) (by decide +kernel), List.forall_mem_cons.mpr ⟨tG1 (i := 239) (by decide +kernel) (by decide +kernel), List.forall_mem_cons.mpr ⟨tG2 (i := 1) (by decide +kernel) (by decide +kernel), List.forall_mem_nil _⟩⟩⟩⟩⟩⟩⟩⟩⟩⟩⟩⟩⟩⟩
theorem uw_X5 : ∀ w ∈ u_ws RX5 TX5 2, w ∈ tblG := List.forall_mem_cons.mpr ⟨tG1 (i := 99) (by decide +kernel) (by decide +kernel), List.forall_mem_cons.mpr ⟨tG1 (i := 101) (by decide +kernel) (by decide +kernel), List.forall_mem_nil _⟩⟩
theorem uw_X6 : ∀ w ∈ u_ws RX6 TX6 6, w ∈ tblG := List.forall_mem_cons.mpr ⟨tG1 (i := 37) (by decide +kernel) (by decide +kernel), List.forall_mem_cons.mpr ⟨tG1 (i := 39) (by decide +kernel) (by decide +kernel), List.forall_mem_cons.mpr ⟨tG1 (i := 41) (by decide +kernel) (by decide +kernel), List.forall_mem_cons.mpr ⟨tG1 (i := 43) (by decide +kernel) (by decide +kernel), List.forall_mem_cons.mpr ⟨tG1 (i := 45) (by decide +kernel) (by decide +kernel), List.forall_mem_cons.mpr ⟨tG1 (i := 47) (by decide +kernel) (by decide +kernel), List.forall_mem_nil _⟩⟩⟩⟩⟩⟩
theorem uw_X7 : ∀ w ∈ u_ws RX7 TX7 6, w ∈ tblG := List.forall_mem_cons.mpr ⟨tG2 (i := 30) (by decide +kernel) (by decide +kernel), List.forall_mem_cons.mpr ⟨tG2 (i := 32) (by decide +kernel) (by decide +kernel), List.forall_mem_cons.mpr ⟨tG2 (i := 34) (by decide +kernel) (by decide +kernel), List.forall_mem_cons.mpr ⟨tG2 (i := 36) (by decide +kernel) (by decide +kernel), List.forall_mem_cons.mpr ⟨tG2 (i := 38) (by decide +kernel) (by decide +kernel), List.forall_mem_cons.mpr ⟨tG2 (i := 40) (by decide +kernel) (by decide +kernel), List.forall_mem_nil _⟩⟩⟩⟩⟩⟩
theorem fl_X0_9 : FL RX0 9 0 0 := ⟨(RX0, TX0, 4), rfl, nle rfl, tG1 (i := 163) (by decide +kernel) (by decide +kernel), uw_X0⟩
theorem pl_X0_9 : PL RX0 9 0 0 .int false := ⟨(RX0, TX0, 4), rfl, nle rfl, tG1 (i := 163) (by decide +kernel) (by decide +kernel), uw_X0, nmX0, ⟨tyX0, tyX0_ok⟩, rfl, by decide +kernel, (fun h => by cases h)⟩
theorem fl_X0_15 : FL RX0 15 0 1 := ⟨(RX0, TX0, 4), rfl, nle rfl, tG1 (i := 166) (by decide +kernel) (by decide +kernel), uw_X0⟩
theorem pl_X0_15 : PL RX0 15 0 1 .int false := ⟨(RX0, TX0, 4), rfl, nle rfl, tG1 (i := 166) (by decide +kernel) (by decide +kernel), uw_X0, nmX0, ⟨tyX0, tyX0_ok⟩, rfl, by decide +kernel, (fun h => by cases h)⟩
theorem fl_X0_18 : FL RX0 18 0 2 := ⟨(RX0, TX0, 4), rfl, nle rfl, tG1 (i := 169) (by decide +kernel) (by decide +kernel), uw_X0⟩
theorem pl_X0_18 : PL RX0 18 0 2 .int false := ⟨(RX0, TX0, 4), rfl, nle rfl, tG1 (i := 169) (by decide +kernel) (by decide +kernel), uw_X0, nmX0, ⟨tyX0, tyX0_ok⟩, rfl, by decide +kernel, (fun h => by cases h)⟩
theorem fl_X0_21 : FL RX0 21 0 3 := ⟨(RX0, TX0, 4), rfl, nle rfl, tG1 (i := 172) (by decide +kernel) (by decide +kernel), uw_X0⟩
theorem pl_X0_21 : PL RX0 21 0 3 .int false := ⟨(RX0, TX0, 4), rfl, nle rfl, tG1 (i := 172) (by decide +kernel) (by decide +kernel), uw_X0, nmX0, ⟨tyX0, tyX0_ok⟩, rfl, by decide +kernel, (fun h => by cases h)⟩
theorem fl_X1_9 : FL RX1 9 1 0 := ⟨(RX1, TX1, 4), rfl, nle rfl, tG1 (i := 65) (by decide +kernel) (by decide +kernel), uw_X1⟩
theorem pl_X1_9 : PL RX1 9 1 0 .int false := ⟨(RX1, TX1, 4), rfl, nle rfl, tG1 (i := 65) (by decide +kernel) (by decide +kernel), uw_X1, nmX1, ⟨tyX1, tyX1_ok⟩, rfl, by decide +kernel, (fun h => by cases h)⟩
theorem fl_X1_15 : FL RX1 15 1 1 := ⟨(RX1, TX1, 4), rfl, nle rfl, tG1 (i := 68) (by decide +kernel) (by decide +kernel), uw_X1⟩
theorem pl_X1_15 : PL RX1 15 1 1 .int false := ⟨(RX1, TX1, 4), rfl, nle rfl, tG1 (i := 68) (by decide +kernel) (by decide +kernel), uw_X1, nmX1, ⟨tyX1, tyX1_ok⟩, rfl, by decide +kernel, (fun h => by cases h)⟩
theorem fl_X1_18 : FL RX1 18 1 2 := ⟨(RX1, TX1, 4), rfl, nle rfl, tG1 (i := 71) (by decide +kernel) (by decide +kernel), uw_X1⟩
theorem pl_X1_18 : PL RX1 18 1 2 .int false := ⟨(RX1, TX1, 4), rfl, nle rfl, tG1 (i := 71) (by decide +kernel) (by decide +kernel), uw_X1, nmX1, ⟨tyX1, tyX1_ok⟩, rfl, by decide +kernel, (fun h => by cases h)⟩
theorem fl_X1_21 : FL RX1 21 1 3 := ⟨(RX1, TX1, 4), rfl, nle rfl, tG1 (i := 74) (by decide +kernel) (by decide +kernel), uw_X1⟩
theorem pl_X1_21 : PL RX1 21 1 3 .int false := ⟨(RX1, TX1, 4), rfl, nle rfl, tG1 (i := 74) (by decide +kernel) (by decide +kernel), uw_X1, nmX1, ⟨tyX1, tyX1_ok⟩, rfl, by decide +kernel, (fun h => by cases h)⟩
theorem fl_X2_11 : FL RX2 11 2 0 := ⟨(RX2, TX2, 3), rfl, nle rfl, tG2 (i := 13) (by decide +kernel) (by decide +kernel), uw_X2⟩
theorem pl_X2_11 : PL RX2 11 2 0 (.array (.object "DanceFloors$Studio")) true := ⟨(RX2, TX2, 3), rfl, nle rfl, tG2 (i := 13) (by decide +kernel) (by decide +kernel), uw_X2, nmX2, ⟨tyX2, tyX2_ok⟩, rfl, by decide +kernel, (fun _ => rfl)⟩
theorem fl_X2_18 : FL RX2 18 2 1 := ⟨(RX2, TX2, 3), rfl, nle rfl, tG2 (i := 14) (by decide +kernel) (by decide +kernel), uw_X2⟩
theorem pl_X2_18 : PL RX2 18 2 1 .int false := ⟨(RX2, TX2, 3), rfl, nle rfl, tG2 (i := 14) (by decide +kernel) (by decide +kernel), uw_X2, nmX2, ⟨tyX2, tyX2_ok⟩, rfl, by decide +kernel, (fun h => by cases h)⟩
theorem fl_X2_22 : FL RX2 22 2 2 := ⟨(RX2, TX2, 3), rfl, nle rfl, tG2 (i := 15) (by decide +kernel) (by decide +kernel), uw_X2⟩
theorem pl_X2_22 : PL RX2 22 2 2 .int false := ⟨(RX2, TX2, 3), rfl, nle rfl, tG2 (i := 15) (by decide +kernel) (by decide +kernel), uw_X2, nmX2, ⟨tyX2, tyX2_ok⟩, rfl, by decide +kernel, (fun h => by cases h)⟩
theorem fl_X3_7 : FL RX3 7 3 0 := ⟨(RX3, TX3, 9), rfl, nle rfl, tG1 (i := 111) (by decide +kernel) (by decide +kernel), uw_X3⟩
theorem pl_X3_7 : PL RX3 7 3 0 .int false := ⟨(RX3, TX3, 9), rfl, nle rfl, tG1 (i := 111) (by decide +kernel) (by decide +kernel), uw_X3, nmX3, ⟨tyX3, tyX3_ok⟩, rfl, by decide +kernel, (fun h => by cases h)⟩
theorem fl_X3_13 : FL RX3 13 3 1 := ⟨(RX3, TX3, 9), rfl, nle rfl, tG1 (i := 114) (by decide +kernel) (by decide +kernel), uw_X3⟩
theorem pl_X3_13 : PL RX3 13 3 1 .int false := ⟨(RX3, TX3, 9), rfl, nle rfl, tG1 (i := 114) (by decide +kernel) (by decide +kernel), uw_X3, nmX3, ⟨tyX3, tyX3_ok⟩, rfl, by decide +kernel, (fun h => by cases h)⟩
theorem fl_X3_16 : FL RX3 16 3 2 := ⟨(RX3, TX3, 9), rfl, nle rfl, tG1 (i := 117) (by decide +kernel) (by decide +kernel), uw_X3⟩
theorem pl_X3_16 : PL RX3 16 3 2 .int false := ⟨(RX3, TX3, 9), rfl, nle rfl, tG1 (i := 117) (by decide +kernel) (by decide +kernel), uw_X3, nmX3, ⟨tyX3, tyX3_ok⟩, rfl, by decide +kernel, (fun h => by cases h)⟩
theorem fl_X3_19 : FL RX3 19 3 3 := ⟨(RX3, TX3, 9), rfl, nle rfl, tG1 (i := 120) (by decide +kernel) (by decide +kernel), uw_X3⟩
theorem pl_X3_19 : PL RX3 19 3 3 .int false := ⟨(RX3, TX3, 9), rfl, nle rfl, tG1 (i := 120) (by decide +kernel) (by decide +kernel), uw_X3, nmX3, ⟨tyX3, tyX3_ok⟩, rfl, by decide +kernel, (fun h => by cases h)⟩
theorem fl_X3_22 : FL RX3 22 3 4 := ⟨(RX3, TX3, 9), rfl, nle rfl, tG1 (i := 123) (by decide +kernel) (by decide +kernel), uw_X3⟩
theorem pl_X3_22 : PL RX3 22 3 4 .int false := ⟨(RX3, TX3, 9), rfl, nle rfl, tG1 (i := 123) (by decide +kernel) (by decide +kernel), uw_X3, nmX3, ⟨tyX3, tyX3_ok⟩, rfl, by decide +kernel, (fun h => by cases h)⟩
theorem fl_X3_25 : FL RX3 25 3 5 := ⟨(RX3, TX3, 9), rfl, nle rfl, tG1 (i := 126) (by decide +kernel) (by decide +kernel), uw_X3⟩
theorem pl_X3_25 : PL RX3 25 3 5 .int false := ⟨(RX3, TX3, 9), rfl, nle rfl, tG1 (i := 126) (by decide +kernel) (by decide +kernel), uw_X3, nmX3, ⟨tyX3, tyX3_ok⟩, rfl, by decide +kernel, (fun h => by cases h)⟩
theorem fl_X3_28 : FL RX3 28 3 6 := ⟨(RX3, TX3, 9), rfl, nle rfl, tG1 (i := 129) (by decide +kernel) (by decide +kernel), uw_X3⟩
theorem pl_X3_28 : PL RX3 28 3 6 .int false := ⟨(RX3, TX3, 9), rfl, nle rfl, tG1 (i := 129) (by decide +kernel) (by decide +kernel), uw_X3, nmX3, ⟨tyX3, tyX3_ok⟩, rfl, by decide +kernel, (fun h => by cases h)⟩
theorem fl_X3_31 : FL RX3 31 3 7 := ⟨(RX3, TX3, 9), rfl, nle rfl, tG1 (i := 131) (by decide +kernel) (by decide +kernel), uw_X3⟩
theorem pl_X3_31 : PL RX3 31 3 7 .int false := ⟨(RX3, TX3, 9), rfl, nle rfl, tG1 (i := 131) (by decide +kernel) (by decide +kernel), uw_X3, nmX3, ⟨tyX3, tyX3_ok⟩, rfl, by decide +kernel, (fun h => by cases h)⟩
theorem fl_X3_34 : FL RX3 34 3 8 := ⟨(RX3, TX3, 9), rfl, nle rfl, tG1 (i := 134) (by decide +kernel) (by decide +kernel), uw_X3⟩
theorem pl_X3_34 : PL RX3 34 3 8 .int false := ⟨(RX3, TX3, 9), rfl, nle rfl, tG1 (i := 134) (by decide +kernel) (by decide +kernel), uw_X3, nmX3, ⟨tyX3, tyX3_ok⟩, rfl, by decide +kernel, (fun h => by cases h)⟩
theorem fl_X4_11 : FL RX4 11 4 0 := ⟨(RX4, TX4, 14), rfl, nle rfl, tG1 (i := 188) (by decide +kernel) (by decide +kernel), uw_X4⟩
theorem pl_X4_11 : PL RX4 11 4 0 (.array (.object "DanceFloors$Floor")) true := ⟨(RX4, TX4, 14), rfl, nle rfl, tG1 (i := 188) (by decide +kernel) (by decide +kernel), uw_X4, nmX4, ⟨tyX4, tyX4_ok⟩, rfl, by decide +kernel, (fun _ => rfl)⟩
theorem fl_X4_20 : FL RX4 20 4 1 := ⟨(RX4, TX4, 14), rfl, nle rfl, tG1 (i := 190) (by decide +kernel) (by decide +kernel), uw_X4⟩
theorem pl_X4_20 : PL RX4 20 4 1 (.array (.object "DanceFloors$Teacher")) true := ⟨(RX4, TX4, 14), rfl, nle rfl, tG1 (i := 190) (by decide +kernel) (by decide +kernel), uw_X4, nmX4, ⟨tyX4, tyX4_ok⟩, rfl, by decide +kernel, (fun _ => rfl)⟩
theorem fl_X4_27 : FL RX4 27 4 2 := ⟨(RX4, TX4, 14), rfl, nle rfl, tG1 (i := 192) (by decide +kernel) (by decide +kernel), uw_X4⟩
theorem pl_X4_27 : PL RX4 27 4 2 (.array (.object "DanceFloors$Lesson")) true := ⟨(RX4, TX4, 14), rfl, nle rfl, tG1 (i := 192) (by decide +kernel) (by decide +kernel), uw_X4, nmX4, ⟨tyX4, tyX4_ok⟩, rfl, by decide +kernel, (fun _ => rfl)⟩
theorem fl_X4_34 : FL RX4 34 4 3 := ⟨(RX4, TX4, 14), rfl, nle rfl, tG1 (i := 194) (by decide +kernel) (by decide +kernel), uw_X4⟩
theorem pl_X4_34 : PL RX4 34 4 3 (.array (.object "DanceFloors$Dancer")) true := ⟨(RX4, TX4, 14), rfl, nle rfl, tG1 (i := 194) (by decide +kernel) (by decide +kernel), uw_X4, nmX4, ⟨tyX4, tyX4_ok⟩, rfl, by decide +kernel, (fun _ => rfl)⟩
theorem fl_X4_39 : FL RX4 39 4 4 := ⟨(RX4, TX4, 14), rfl, nle rfl, tG1 (i := 196) (by decide +kernel) (by decide +kernel), uw_X4⟩
theorem pl_X4_39 : PL RX4 39 4 4 (.array .int) true := ⟨(RX4, TX4, 14), rfl, nle rfl, tG1 (i := 196) (by decide +kernel) (by decide +kernel), uw_X4, nmX4, ⟨tyX4, tyX4_ok⟩, rfl, by decide +kernel, (fun _ => rfl)⟩
theorem fl_X4_46 : FL RX4 46 4 5 := ⟨(RX4, TX4, 14), rfl, nle rfl, tG1 (i := 198) (by decide +kernel) (by decide +kernel), uw_X4⟩
theorem pl_X4_46 : PL RX4 46 4 5 .int false := ⟨(RX4, TX4, 14), rfl, nle rfl, tG1 (i := 198) (by decide +kernel) (by decide +kernel), uw_X4, nmX4, ⟨tyX4, tyX4_ok⟩, rfl, by decide +kernel, (fun h => by cases h)⟩
theorem fl_X4_50 : FL RX4 50 4 6 := ⟨(RX4, TX4, 14), rfl, nle rfl, tG1 (i := 200) (by decide +kernel) (by decide +kernel), uw_X4⟩
theorem pl_X4_50 : PL RX4 50 4 6 .int false := ⟨(RX4, TX4, 14), rfl, nle rfl, tG1 (i := 200) (by decide +kernel) (by decide +kernel), uw_X4, nmX4, ⟨tyX4, tyX4_ok⟩, rfl, by decide +kernel, (fun h => by cases h)⟩
theorem fl_X4_53 : FL RX4 53 4 7 := ⟨(RX4, TX4, 14), rfl, nle rfl, tG1 (i := 202) (by decide +kernel) (by decide +kernel), uw_X4⟩
theorem pl_X4_53 : PL RX4 53 4 7 .int false := ⟨(RX4, TX4, 14), rfl, nle rfl, tG1 (i := 202) (by decide +kernel) (by decide +kernel), uw_X4, nmX4, ⟨tyX4, tyX4_ok⟩, rfl, by decide +kernel, (fun h => by cases h)⟩
theorem fl_X4_56 : FL RX4 56 4 8 := ⟨(RX4, TX4, 14), rfl, nle rfl, tG1 (i := 204) (by decide +kernel) (by decide +kernel), uw_X4⟩
theorem pl_X4_56 : PL RX4 56 4 8 .int false := ⟨(RX4, TX4, 14), rfl, nle rfl, tG1 (i := 204) (by decide +kernel) (by decide +kernel), uw_X4, nmX4, ⟨tyX4, tyX4_ok⟩, rfl, by decide +kernel, (fun h => by cases h)⟩
theorem fl_X4_59 : FL RX4 59 4 9 := ⟨(RX4, TX4, 14), rfl, nle rfl, tG1 (i := 206) (by decide +kernel) (by decide +kernel), uw_X4⟩
theorem pl_X4_59 : PL RX4 59 4 9 .int false := ⟨(RX4, TX4, 14), rfl, nle rfl, tG1 (i := 206) (by decide +kernel) (by decide +kernel), uw_X4, nmX4, ⟨tyX4, tyX4_ok⟩, rfl, by decide +kernel, (fun h => by cases h)⟩
theorem fl_X4_62 : FL RX4 62 4 10 := ⟨(RX4, TX4, 14), rfl, nle rfl, tG1 (i := 208) (by decide +kernel) (by decide +kernel), uw_X4⟩
theorem pl_X4_62 : PL RX4 62 4 10 .int false := ⟨(RX4, TX4, 14), rfl, nle rfl, tG1 (i := 208) (by decide +kernel) (by decide +kernel), uw_X4, nmX4, ⟨tyX4, tyX4_ok⟩, rfl, by decide +kernel, (fun h => by cases h)⟩
theorem fl_X4_65 : FL RX4 65 4 11 := ⟨(RX4, TX4, 14), rfl, nle rfl, tG1 (i := 210) (by decide +kernel) (by decide +kernel), uw_X4⟩
theorem pl_X4_65 : PL RX4 65 4 11 .int false := ⟨(RX4, TX4, 14), rfl, nle rfl, tG1 (i := 210) (by decide +kernel) (by decide +kernel), uw_X4, nmX4, ⟨tyX4, tyX4_ok⟩, rfl, by decide +kernel, (fun h => by cases h)⟩
theorem fl_X4_68 : FL RX4 68 4 12 := ⟨(RX4, TX4, 14), rfl, nle rfl, tG1 (i := 212) (by decide +kernel) (by decide +kernel), uw_X4⟩
theorem pl_X4_68 : PL RX4 68 4 12 .int false := ⟨(RX4, TX4, 14), rfl, nle rfl, tG1 (i := 212) (by decide +kernel) (by decide +kernel), uw_X4, nmX4, ⟨tyX4, tyX4_ok⟩, rfl, by decide +kernel, (fun h => by cases h)⟩
theorem fl_X4_71 : FL RX4 71 4 13 := ⟨(RX4, TX4, 14), rfl, nle rfl, tG1 (i := 214) (by decide +kernel) (by decide +kernel), uw_X4⟩
theorem pl_X4_71 : PL RX4 71 4 13 .int false := ⟨(RX4, TX4, 14), rfl, nle rfl, tG1 (i := 214) (by decide +kernel) (by decide +kernel), uw_X4, nmX4, ⟨tyX4, tyX4_ok⟩, rfl, by decide +kernel, (fun h => by cases h)⟩
theorem fl_X4_101 : FL RX4 101 0 2 := ⟨(RX0, TX0, 4), rfl, nle rfl, tG1 (i := 170) (by decide +kernel) (by decide +kernel), uw_X0⟩
theorem pl_X4_101 : PL RX4 101 0 2 .int false := ⟨(RX0, TX0, 4), rfl, nle rfl, tG1 (i := 170) (by decide +kernel) (by decide +kernel), uw_X0, nmX0, ⟨tyX0, tyX0_ok⟩, rfl, by decide +kernel, (fun h => by cases h)⟩
theorem pl_X4_104 : PL RX4 104 1 0 .int false := ⟨(RX1, TX1, 4), rfl, nle rfl, tG1 (i := 67) (by decide +kernel) (by decide +kernel), uw_X1, nmX1, ⟨tyX1, tyX1_ok⟩, rfl, by decide +kernel, (fun h => by cases h)⟩
theorem pl_X4_107 : PL RX4 107 1 1 .int false := ⟨(RX1, TX1, 4), rfl, nle rfl, tG1 (i := 70) (by decide +kernel) (by decide +kernel), uw_X1, nmX1, ⟨tyX1, tyX1_ok⟩, rfl, by decide +kernel, (fun h => by cases h)⟩
theorem pl_X4_110 : PL RX4 110 1 2 .int false := ⟨(RX1, TX1, 4), rfl, nle rfl, tG1 (i := 73) (by decide +kernel) (by decide +kernel), uw_X1, nmX1, ⟨tyX1, tyX1_ok⟩, rfl, by decide +kernel, (fun h => by cases h)⟩
theorem pl_X4_113 : PL RX4 113 1 3 .int false := ⟨(RX1, TX1, 4), rfl, nle rfl, tG1 (i := 76) (by decide +kernel) (by decide +kernel), uw_X1, nmX1, ⟨tyX1, tyX1_ok⟩, rfl, by decide +kernel, (fun h => by cases h)⟩
theorem pl_X4_116 : PL RX4 116 5 0 .int false := ⟨(RX5, TX5, 2), rfl, nle rfl, tG1 (i := 95) (by decide +kernel) (by decide +kernel), uw_X5, nmX5, ⟨tyX5, tyX5_ok⟩, rfl, by decide +kernel, (fun h => by cases h)⟩
theorem pl_X4_119 : PL RX4 119 5 1 .int false := ⟨(RX5, TX5, 2), rfl, nle rfl, tG1 (i := 98) (by decide +kernel) (by decide +kernel), uw_X5, nmX5, ⟨tyX5, tyX5_ok⟩, rfl, by decide +kernel, (fun h => by cases h)⟩
theorem fl_X4_122 : FL RX4 122 0 0 := ⟨(RX0, TX0, 4), rfl, nle rfl, tG1 (i := 165) (by decide +kernel) (by decide +kernel), uw_X0⟩
theorem pl_X4_122 : PL RX4 122 0 0 .int false := ⟨(RX0, TX0, 4), rfl, nle rfl, tG1 (i := 165) (by decide +kernel) (by decide +kernel), uw_X0, nmX0, ⟨tyX0, tyX0_ok⟩, rfl, by decide +kernel, (fun h => by cases h)⟩
theorem pl_X4_125 : PL RX4 125 0 1 .int false := ⟨(RX0, TX0, 4), rfl, nle rfl, tG1 (i := 168) (by decide +kernel) (by decide +kernel), uw_X0, nmX0, ⟨tyX0, tyX0_ok⟩, rfl, by decide +kernel, (fun h => by cases h)⟩
theorem fl_X4_128 : FL RX4 128 0 3 := ⟨(RX0, TX0, 4), rfl, nle rfl, tG1 (i := 174) (by decide +kernel) (by decide +kernel), uw_X0⟩
theorem pl_X4_128 : PL RX4 128 0 3 .int false := ⟨(RX0, TX0, 4), rfl, nle rfl, tG1 (i := 174) (by decide +kernel) (by decide +kernel), uw_X0, nmX0, ⟨tyX0, tyX0_ok⟩, rfl, by decide +kernel, (fun h => by cases h)⟩
theorem fl_X4_141 : FL RX4 141 3 0 := ⟨(RX3, TX3, 9), rfl, nle rfl, tG1 (i := 113) (by decide +kernel) (by decide +kernel), uw_X3⟩
theorem pl_X4_141 : PL RX4 141 3 0 .int false := ⟨(RX3, TX3, 9), rfl, nle rfl, tG1 (i := 113) (by decide +kernel) (by decide +kernel), uw_X3, nmX3, ⟨tyX3, tyX3_ok⟩, rfl, by decide +kernel, (fun h => by cases h)⟩
theorem fl_X4_144 : FL RX4 144 3 1 := ⟨(RX3, TX3, 9), rfl, nle rfl, tG1 (i := 116) (by decide +kernel) (by decide +kernel), uw_X3⟩
theorem pl_X4_144 : PL RX4 144 3 1 .int false := ⟨(RX3, TX3, 9), rfl, nle rfl, tG1 (i := 116) (by decide +kernel) (by decide +kernel), uw_X3, nmX3, ⟨tyX3, tyX3_ok⟩, rfl, by decide +kernel, (fun h => by cases h)⟩
theorem fl_X4_145 : FL RX4 145 3 2 := ⟨(RX3, TX3, 9), rfl, nle rfl, tG1 (i := 119) (by decide +kernel) (by decide +kernel), uw_X3⟩
theorem pl_X4_145 : PL RX4 145 3 2 .int false := ⟨(RX3, TX3, 9), rfl, nle rfl, tG1 (i := 119) (by decide +kernel) (by decide +kernel), uw_X3, nmX3, ⟨tyX3, tyX3_ok⟩, rfl, by decide +kernel, (fun h => by cases h)⟩
theorem fl_X4_148 : FL RX4 148 3 3 := ⟨(RX3, TX3, 9), rfl, nle rfl, tG1 (i := 122) (by decide +kernel) (by decide +kernel), uw_X3⟩
theorem pl_X4_148 : PL RX4 148 3 3 .int false := ⟨(RX3, TX3, 9), rfl, nle rfl, tG1 (i := 122) (by decide +kernel) (by decide +kernel), uw_X3, nmX3, ⟨tyX3, tyX3_ok⟩, rfl, by decide +kernel, (fun h => by cases h)⟩
theorem fl_X4_151 : FL RX4 151 3 4 := ⟨(RX3, TX3, 9), rfl, nle rfl, tG1 (i := 125) (by decide +kernel) (by decide +kernel), uw_X3⟩
theorem pl_X4_151 : PL RX4 151 3 4 .int false := ⟨(RX3, TX3, 9), rfl, nle rfl, tG1 (i := 125) (by decide +kernel) (by decide +kernel), uw_X3, nmX3, ⟨tyX3, tyX3_ok⟩, rfl, by decide +kernel, (fun h => by cases h)⟩
theorem fl_X4_154 : FL RX4 154 3 5 := ⟨(RX3, TX3, 9), rfl, nle rfl, tG1 (i := 128) (by decide +kernel) (by decide +kernel), uw_X3⟩
theorem pl_X4_154 : PL RX4 154 3 5 .int false := ⟨(RX3, TX3, 9), rfl, nle rfl, tG1 (i := 128) (by decide +kernel) (by decide +kernel), uw_X3, nmX3, ⟨tyX3, tyX3_ok⟩, rfl, by decide +kernel, (fun h => by cases h)⟩
theorem fl_X4_157 : FL RX4 157 3 6 := ⟨(RX3, TX3, 9), rfl, nle rfl, tG1 (i := 130) (by decide +kernel) (by decide +kernel), uw_X3⟩
theorem pl_X4_157 : PL RX4 157 3 6 .int false := ⟨(RX3, TX3, 9), rfl, nle rfl, tG1 (i := 130) (by decide +kernel) (by decide +kernel), uw_X3, nmX3, ⟨tyX3, tyX3_ok⟩, rfl, by decide +kernel, (fun h => by cases h)⟩
theorem fl_X4_160 : FL RX4 160 3 7 := ⟨(RX3, TX3, 9), rfl, nle rfl, tG1 (i := 133) (by decide +kernel) (by decide +kernel), uw_X3⟩
theorem pl_X4_160 : PL RX4 160 3 7 .int false := ⟨(RX3, TX3, 9), rfl, nle rfl, tG1 (i := 133) (by decide +kernel) (by decide +kernel), uw_X3, nmX3, ⟨tyX3, tyX3_ok⟩, rfl, by decide +kernel, (fun h => by cases h)⟩
theorem fl_X4_163 : FL RX4 163 3 8 := ⟨(RX3, TX3, 9), rfl, nle rfl, tG1 (i := 136) (by decide +kernel) (by decide +kernel), uw_X3⟩
theorem pl_X4_163 : PL RX4 163 3 8 .int false := ⟨(RX3, TX3, 9), rfl, nle rfl, tG1 (i := 136) (by decide +kernel) (by decide +kernel), uw_X3, nmX3, ⟨tyX3, tyX3_ok⟩, rfl, by decide +kernel, (fun h => by cases h)⟩
theorem fl_X5_7 : FL RX5 7 5 0 := ⟨(RX5, TX5, 2), rfl, nle rfl, tG1 (i := 93) (by decide +kernel) (by decide +kernel), uw_X5⟩
theorem pl_X5_7 : PL RX5 7 5 0 .int false := ⟨(RX5, TX5, 2), rfl, nle rfl, tG1 (i := 93) (by decide +kernel) (by decide +kernel), uw_X5, nmX5, ⟨tyX5, tyX5_ok⟩, rfl, by decide +kernel, (fun h => by cases h)⟩
theorem fl_X5_13 : FL RX5 13 5 1 := ⟨(RX5, TX5, 2), rfl, nle rfl, tG1 (i := 96) (by decide +kernel) (by decide +kernel), uw_X5⟩
theorem pl_X5_13 : PL RX5 13 5 1 .int false := ⟨(RX5, TX5, 2), rfl, nle rfl, tG1 (i := 96) (by decide +kernel) (by decide +kernel), uw_X5, nmX5, ⟨tyX5, tyX5_ok⟩, rfl, by decide +kernel, (fun h => by cases h)⟩
theorem fl_X6_9 : FL RX6 9 6 0 := ⟨(RX6, TX6, 6), rfl, nle rfl, tG1 (i := 31) (by decide +kernel) (by decide +kernel), uw_X6⟩
theorem pl_X6_9 : PL RX6 9 6 0 (.array .char) true := ⟨(RX6, TX6, 6), rfl, nle rfl, tG1 (i := 31) (by decide +kernel) (by decide +kernel), uw_X6, nmX6, ⟨tyX6, tyX6_ok⟩, rfl, by decide +kernel, (fun _ => rfl)⟩
theorem fl_X6_15 : FL RX6 15 6 1 := ⟨(RX6, TX6, 6), rfl, nle rfl, tG1 (i := 32) (by decide +kernel) (by decide +kernel), uw_X6⟩
theorem pl_X6_15 : PL RX6 15 6 1 (.array .int) true := ⟨(RX6, TX6, 6), rfl, nle rfl, tG1 (i := 32) (by decide +kernel) (by decide +kernel), uw_X6, nmX6, ⟨tyX6, tyX6_ok⟩, rfl, by decide +kernel, (fun _ => rfl)⟩
theorem fl_X6_19 : FL RX6 19 6 2 := ⟨(RX6, TX6, 6), rfl, nle rfl, tG1 (i := 33) (by decide +kernel) (by decide +kernel), uw_X6⟩
theorem fl_X6_27 : FL RX6 27 6 3 := ⟨(RX6, TX6, 6), rfl, nle rfl, tG1 (i := 34) (by decide +kernel) (by decide +kernel), uw_X6⟩
theorem pl_X6_27 : PL RX6 27 6 3 .int false := ⟨(RX6, TX6, 6), rfl, nle rfl, tG1 (i := 34) (by decide +kernel) (by decide +kernel), uw_X6, nmX6, ⟨tyX6, tyX6_ok⟩, rfl, by decide +kernel, (fun h => by cases h)⟩
theorem fl_X6_36 : FL RX6 36 6 5 := ⟨(RX6, TX6, 6), rfl, nle rfl, tG1 (i := 36) (by decide +kernel) (by decide +kernel), uw_X6⟩
theorem pl_X6_36 : PL RX6 36 6 5 .char false := ⟨(RX6, TX6, 6), rfl, nle rfl, tG1 (i := 36) (by decide +kernel) (by decide +kernel), uw_X6, nmX6, ⟨tyX6, tyX6_ok⟩, rfl, by decide +kernel, (fun h => by cases h)⟩
theorem fl_X6_40 : FL RX6 40 6 4 := ⟨(RX6, TX6, 6), rfl, nle rfl, tG1 (i := 35) (by decide +kernel) (by decide +kernel), uw_X6⟩
theorem pl_X6_40 : PL RX6 40 6 4 .int false := ⟨(RX6, TX6, 6), rfl, nle rfl, tG1 (i := 35) (by decide +kernel) (by decide +kernel), uw_X6, nmX6, ⟨tyX6, tyX6_ok⟩, rfl, by decide +kernel, (fun h => by cases h)⟩
theorem fl_X7_10 : FL RX7 10 7 0 := ⟨(RX7, TX7, 6), rfl, nle rfl, tG2 (i := 24) (by decide +kernel) (by decide +kernel), uw_X7⟩
theorem pl_X7_10 : PL RX7 10 7 0 (.object "DanceFloors$Text") true := ⟨(RX7, TX7, 6), rfl, nle rfl, tG2 (i := 24) (by decide +kernel) (by decide +kernel), uw_X7, nmX7, ⟨tyX7, tyX7_ok⟩, rfl, by decide +kernel, (fun _ => rfl)⟩
theorem fl_X7_19 : FL RX7 19 7 1 := ⟨(RX7, TX7, 6), rfl, nle rfl, tG2 (i := 25) (by decide +kernel) (by decide +kernel), uw_X7⟩
theorem pl_X7_19 : PL RX7 19 7 1 (.object "DanceFloors$Studio") true := ⟨(RX7, TX7, 6), rfl, nle rfl, tG2 (i := 25) (by decide +kernel) (by decide +kernel), uw_X7, nmX7, ⟨tyX7, tyX7_ok⟩, rfl, by decide +kernel, (fun _ => rfl)⟩
theorem fl_X7_23 : FL RX7 23 7 2 := ⟨(RX7, TX7, 6), rfl, nle rfl, tG2 (i := 26) (by decide +kernel) (by decide +kernel), uw_X7⟩
theorem pl_X7_23 : PL RX7 23 7 2 (.object "DanceFloors$Studio") true := ⟨(RX7, TX7, 6), rfl, nle rfl, tG2 (i := 26) (by decide +kernel) (by decide +kernel), uw_X7, nmX7, ⟨tyX7, tyX7_ok⟩, rfl, by decide +kernel, (fun _ => rfl)⟩
theorem fl_X7_29 : FL RX7 29 7 3 := ⟨(RX7, TX7, 6), rfl, nle rfl, tG2 (i := 27) (by decide +kernel) (by decide +kernel), uw_X7⟩
theorem pl_X7_29 : PL RX7 29 7 3 (.object "DanceFloors$History") true := ⟨(RX7, TX7, 6), rfl, nle rfl, tG2 (i := 27) (by decide +kernel) (by decide +kernel), uw_X7, nmX7, ⟨tyX7, tyX7_ok⟩, rfl, by decide +kernel, (fun _ => rfl)⟩
theorem fl_X7_33 : FL RX7 33 7 4 := ⟨(RX7, TX7, 6), rfl, nle rfl, tG2 (i := 28) (by decide +kernel) (by decide +kernel), uw_X7⟩
theorem pl_X7_33 : PL RX7 33 7 4 (.array (.object "DanceFloors$Studio")) true := ⟨(RX7, TX7, 6), rfl, nle rfl, tG2 (i := 28) (by decide +kernel) (by decide +kernel), uw_X7, nmX7, ⟨tyX7, tyX7_ok⟩, rfl, by decide +kernel, (fun _ => rfl)⟩
theorem fl_X7_37 : FL RX7 37 7 5 := ⟨(RX7, TX7, 6), rfl, nle rfl, tG2 (i := 29) (by decide +kernel) (by decide +kernel), uw_X7⟩
theorem pl_X7_37 : PL RX7 37 7 5 (.array .boolean) true := ⟨(RX7, TX7, 6), rfl, nle rfl, tG2 (i := 29) (by decide +kernel) (by decide +kernel), uw_X7, nmX7, ⟨tyX7, tyX7_ok⟩, rfl, by decide +kernel, (fun _ => rfl)⟩
theorem fl_X7_92 : FL RX7 92 4 5 := ⟨(RX4, TX4, 14), rfl, nle rfl, tG1 (i := 199) (by decide +kernel) (by decide +kernel), uw_X4⟩
theorem fl_X7_95 : FL RX7 95 4 6 := ⟨(RX4, TX4, 14), rfl, nle rfl, tG1 (i := 201) (by decide +kernel) (by decide +kernel), uw_X4⟩
theorem fl_X7_98 : FL RX7 98 4 7 := ⟨(RX4, TX4, 14), rfl, nle rfl, tG1 (i := 203) (by decide +kernel) (by decide +kernel), uw_X4⟩
theorem fl_X7_101 : FL RX7 101 4 8 := ⟨(RX4, TX4, 14), rfl, nle rfl, tG1 (i := 205) (by decide +kernel) (by decide +kernel), uw_X4⟩
theorem fl_X7_104 : FL RX7 104 4 9 := ⟨(RX4, TX4, 14), rfl, nle rfl, tG1 (i := 207) (by decide +kernel) (by decide +kernel), uw_X4⟩
theorem fl_X7_119 : FL RX7 119 4 10 := ⟨(RX4, TX4, 14), rfl, nle rfl, tG1 (i := 209) (by decide +kernel) (by decide +kernel), uw_X4⟩
theorem fl_X7_122 : FL RX7 122 4 11 := ⟨(RX4, TX4, 14), rfl, nle rfl, tG1 (i := 211) (by decide +kernel) (by decide +kernel), uw_X4⟩
theorem fl_X7_125 : FL RX7 125 4 12 := ⟨(RX4, TX4, 14), rfl, nle rfl, tG1 (i := 213) (by decide +kernel) (by decide +kernel), uw_X4⟩
theorem fl_X7_142 : FL RX7 142 4 0 := ⟨(RX4, TX4, 14), rfl, nle rfl, tG1 (i := 189) (by decide +kernel) (by decide +kernel), uw_X4⟩
theorem fl_X7_146 : FL RX7 146 1 0 := ⟨(RX1, TX1, 4), rfl, nle rfl, tG1 (i := 66) (by decide +kernel) (by decide +kernel), uw_X1⟩
theorem fl_X7_151 : FL RX7 151 1 1 := ⟨(RX1, TX1, 4), rfl, nle rfl, tG1 (i := 69) (by decide +kernel) (by decide +kernel), uw_X1⟩
theorem fl_X7_154 : FL RX7 154 1 2 := ⟨(RX1, TX1, 4), rfl, nle rfl, tG1 (i := 72) (by decide +kernel) (by decide +kernel), uw_X1⟩
theorem fl_X7_157 : FL RX7 157 1 3 := ⟨(RX1, TX1, 4), rfl, nle rfl, tG1 (i := 75) (by decide +kernel) (by decide +kernel), uw_X1⟩
theorem fl_X7_167 : FL RX7 167 4 1 := ⟨(RX4, TX4, 14), rfl, nle rfl, tG1 (i := 191) (by decide +kernel) (by decide +kernel), uw_X4⟩
theorem fl_X7_171 : FL RX7 171 5 0 := ⟨(RX5, TX5, 2), rfl, nle rfl, tG1 (i := 94) (by decide +kernel) (by decide +kernel), uw_X5⟩
theorem fl_X7_176 : FL RX7 176 5 1 := ⟨(RX5, TX5, 2), rfl, nle rfl, tG1 (i := 97) (by decide +kernel) (by decide +kernel), uw_X5⟩
theorem fl_X7_188 : FL RX7 188 4 2 := ⟨(RX4, TX4, 14), rfl, nle rfl, tG1 (i := 193) (by decide +kernel) (by decide +kernel), uw_X4⟩
theorem fl_X7_192 : FL RX7 192 3 0 := ⟨(RX3, TX3, 9), rfl, nle rfl, tG1 (i := 112) (by decide +kernel) (by decide +kernel), uw_X3⟩
theorem fl_X7_197 : FL RX7 197 3 1 := ⟨(RX3, TX3, 9), rfl, nle rfl, tG1 (i := 115) (by decide +kernel) (by decide +kernel), uw_X3⟩
theorem fl_X7_200 : FL RX7 200 3 2 := ⟨(RX3, TX3, 9), rfl, nle rfl, tG1 (i := 118) (by decide +kernel) (by decide +kernel), uw_X3⟩
theorem fl_X7_203 : FL RX7 203 3 3 := ⟨(RX3, TX3, 9), rfl, nle rfl, tG1 (i := 121) (by decide +kernel) (by decide +kernel), uw_X3⟩
theorem fl_X7_206 : FL RX7 206 3 4 := ⟨(RX3, TX3, 9), rfl, nle rfl, tG1 (i := 124) (by decide +kernel) (by decide +kernel), uw_X3⟩
theorem fl_X7_209 : FL RX7 209 3 5 := ⟨(RX3, TX3, 9), rfl, nle rfl, tG1 (i := 127) (by decide +kernel) (by decide +kernel), uw_X3⟩
theorem fl_X7_217 : FL RX7 217 3 7 := ⟨(RX3, TX3, 9), rfl, nle rfl, tG1 (i := 132) (by decide +kernel) (by decide +kernel), uw_X3⟩
theorem fl_X7_220 : FL RX7 220 3 8 := ⟨(RX3, TX3, 9), rfl, nle rfl, tG1 (i := 135) (by decide +kernel) (by decide +kernel), uw_X3⟩
theorem fl_X7_226 : FL RX7 226 4 3 := ⟨(RX4, TX4, 14), rfl, nle rfl, tG1 (i := 195) (by decide +kernel) (by decide +kernel), uw_X4⟩
theorem fl_X7_230 : FL RX7 230 0 0 := ⟨(RX0, TX0, 4), rfl, nle rfl, tG1 (i := 164) (by decide +kernel) (by decide +kernel), uw_X0⟩
theorem fl_X7_233 : FL RX7 233 0 1 := ⟨(RX0, TX0, 4), rfl, nle rfl, tG1 (i := 167) (by decide +kernel) (by decide +kernel), uw_X0⟩
theorem fl_X7_236 : FL RX7 236 0 2 := ⟨(RX0, TX0, 4), rfl, nle rfl, tG1 (i := 171) (by decide +kernel) (by decide +kernel), uw_X0⟩
theorem fl_X7_242 : FL RX7 242 0 3 := ⟨(RX0, TX0, 4), rfl, nle rfl, tG1 (i := 173) (by decide +kernel) (by decide +kernel), uw_X0⟩
theorem fl_X7_251 : FL RX7 251 4 4 := ⟨(RX4, TX4, 14), rfl, nle rfl, tG1 (i := 197) (by decide +kernel) (by decide +kernel), uw_X4⟩
theorem fl_X7_302 : FL RX7 302 2 2 := ⟨(RX2, TX2, 3), rfl, nle rfl, tG2 (i := 16) (by decide +kernel) (by decide +kernel), uw_X2⟩
theorem kc_X7_329 : Cond.constantLong RX7 329 100000 ∈ tblG := tG4 (i := 113) (by decide +kernel) (by decide +kernel)
theorem kc_X7_334 : Cond.constantLong RX7 334 6364136223846793005 ∈ tblG := tG4 (i := 122) (by decide +kernel) (by decide +kernel)
theorem kc_X7_336 : Cond.constantLong RX7 336 1442695040888963407 ∈ tblG := tG4 (i := 123) (by decide +kernel) (by decide +kernel)
theorem kc_L_7 : Cond.constant RL 7 1812433253 ∈ tblG := tG2 (i := 185) (by decide +kernel) (by decide +kernel)
theorem kc_L_8 : Cond.constant RL 8 2147483647 ∈ tblG := tG3 (i := 81) (by decide +kernel) (by decide +kernel)
theorem kc_L_9 : Cond.constantLong RL 9 173 ∈ tblG := tG2 (i := 189) (by decide +kernel) (by decide +kernel)
theorem kc_L_11 : Cond.constantLong RL 11 31 ∈ tblG := tG2 (i := 190) (by decide +kernel) (by decide +kernel)
theorem kc_L_106 : Cond.constantLong RL 106 30009 ∈ tblG := tG4 (i := 105) (by decide +kernel) (by decide +kernel)
theorem kc_J6_265 : Cond.constant RJ6 265 1431655765 ∈ tblG := tG2 (i := 206) (by decide +kernel) (by decide +kernel)
theorem kc_J6_266 : Cond.constant RJ6 266 858993459 ∈ tblG := tG2 (i := 207) (by decide +kernel) (by decide +kernel)
theorem kc_J6_267 : Cond.constant RJ6 267 252645135 ∈ tblG := tG2 (i := 208) (by decide +kernel) (by decide +kernel)
theorem bk_6 : (Int8.ofInt (6)).toInt32 = 6 := by decide
theorem bk_7 : (Int8.ofInt (7)).toInt32 = 7 := by decide
theorem bk_8 : (Int8.ofInt (8)).toInt32 = 8 := by decide
theorem bk_9 : (Int8.ofInt (9)).toInt32 = 9 := by decide
theorem bk_10 : (Int8.ofInt (10)).toInt32 = 10 := by decide
theorem bk_11 : (Int8.ofInt (11)).toInt32 = 11 := by decide
theorem bk_12 : (Int8.ofInt (12)).toInt32 = 12 := by decide
theorem bk_13 : (Int8.ofInt (13)).toInt32 = 13 := by decide
theorem bk_14 : (Int8.ofInt (14)).toInt32 = 14 := by decide
theorem bk_15 : (Int8.ofInt (15)).toInt32 = 15 := by decide
theorem bk_16 : (Int8.ofInt (16)).toInt32 = 16 := by decide
theorem bk_17 : (Int8.ofInt (17)).toInt32 = 17 := by decide
theorem bk_20 : (Int8.ofInt (20)).toInt32 = 20 := by decide
theorem bk_30 : (Int8.ofInt (30)).toInt32 = 30 := by decide
theorem bk_32 : (Int8.ofInt (32)).toInt32 = 32 := by decide
theorem bk_33 : (Int8.ofInt (33)).toInt32 = 33 := by decide
theorem bk_36 : (Int8.ofInt (36)).toInt32 = 36 := by decide
theorem bk_48 : (Int8.ofInt (48)).toInt32 = 48 := by decide
theorem bk_50 : (Int8.ofInt (50)).toInt32 = 50 := by decide
theorem bk_60 : (Int8.ofInt (60)).toInt32 = 60 := by decide
theorem bk_61 : (Int8.ofInt (61)).toInt32 = 61 := by decide
theorem bk_63 : (Int8.ofInt (63)).toInt32 = 63 := by decide
theorem bk_64 : (Int8.ofInt (64)).toInt32 = 64 := by decide
theorem bk_83 : (Int8.ofInt (83)).toInt32 = 83 := by decide
theorem bk_90 : (Int8.ofInt (90)).toInt32 = 90 := by decide
theorem bk_99 : (Int8.ofInt (99)).toInt32 = 99 := by decide
theorem bk_100 : (Int8.ofInt (100)).toInt32 = 100 := by decide
theorem bk_120 : (Int8.ofInt (120)).toInt32 = 120 := by decide
theorem ik_m1 : Int32.ofInt (-1) = -1 := by decide
theorem ik_0 : Int32.ofInt (0) = 0 := by decide
theorem ik_1 : Int32.ofInt (1) = 1 := by decide
theorem ik_2 : Int32.ofInt (2) = 2 := by decide
theorem ik_3 : Int32.ofInt (3) = 3 := by decide
theorem ik_4 : Int32.ofInt (4) = 4 := by decide
theorem ik_5 : Int32.ofInt (5) = 5 := by decide
theorem sk_128 : (Int16.ofInt (128)).toInt32 = 128 := by decide
theorem sk_256 : (Int16.ofInt (256)).toInt32 = 256 := by decide
theorem sk_383 : (Int16.ofInt (383)).toInt32 = 383 := by decide
theorem sk_1000 : (Int16.ofInt (1000)).toInt32 = 1000 := by decide
theorem sk_1024 : (Int16.ofInt (1024)).toInt32 = 1024 := by decide
theorem sk_8192 : (Int16.ofInt (8192)).toInt32 = 8192 := by decide
theorem sk_10000 : (Int16.ofInt (10000)).toInt32 = 10000 := by decide
