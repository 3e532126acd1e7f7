/-! THE METHODS AND THE CONSTANT POOLS: by a program out of the names and the tables' words -/
def mdJ6_bitCount_0f7a4 : MD := (yJ6_bitCount_0f7a4, cJ6_bitCount_0f7a4, 1, (some .int), 10, 0, [])
def mdJ7_fill_53178 : MD := (yJ7_fill_53178, cJ7_fill_53178, 4, none, 12, 0, [])
def mdJ9_min_7cf53 : MD := (yJ9_min_7cf53, cJ9_min_7cf53, 2, (some .int), 11, 0, [])
def mdL_addGuard : MD := (yL_addGuard, cL_addGuard, 6, (some .int), 8, 10, [(0, 12, 15, 23), (0, 12, 19, 13), (0, 12, 23, 15)])
def mdL_addHoliday : MD := (yL_addHoliday, cL_addHoliday, 5, (some .int), 8, 10, [(0, 10, 13, 13), (0, 10, 17, 15)])
def mdL_addPost : MD := (yL_addPost, cL_addPost, 5, (some .int), 8, 10, [(0, 10, 13, 13), (0, 10, 17, 15)])
def mdL_append : MD := (yL_append, cL_append, 4, (some .int), 8, 10, [(0, 9, 12, 13), (0, 9, 15, 15)])
def mdL_best : MD := (yL_best, cL_best, 6, (some .int), 8, 10, [(0, 12, 15, 13)])
def mdL_bestHome : MD := (yL_bestHome, cL_bestHome, 4, (some .int), 8, 10, [(0, 9, 12, 13), (0, 9, 15, 15)])
def mdL_complain : MD := (yL_complain, cL_complain, 4, (some .int), 8, 10, [(0, 9, 12, 23), (0, 9, 15, 15)])
def mdL_guard : MD := (yL_guard, cL_guard, 5, (some .int), 8, 10, [(0, 10, 13, 23), (0, 10, 17, 13)])
def mdL_holiday : MD := (yL_holiday, cL_holiday, 5, (some .int), 8, 10, [(0, 10, 13, 23)])
def mdL_law : MD := (yL_law, cL_law, 9, (some .boolean), 8, 11, [])
def mdL_missed : MD := (yL_missed, cL_missed, 5, (some .int), 8, 10, [(0, 10, 13, 23), (0, 10, 17, 13)])
def mdL_needed : MD := (yL_needed, cL_needed, 5, (some .int), 8, 10, [(0, 10, 13, 13)])
def mdL_open : MD := (yL_open, cL_open, 5, (some .int), 8, 10, [(0, 10, 13, 13)])
def mdL_pass : MD := (yL_pass, cL_pass, 4, (some .int), 8, 10, [(0, 9, 12, 13), (0, 9, 15, 15)])
def mdL_post : MD := (yL_post, cL_post, 5, (some .int), 8, 10, [(0, 10, 13, 23), (0, 10, 17, 13)])
def mdL_setNeeds : MD := (yL_setNeeds, cL_setNeeds, 5, (some .int), 8, 10, [(0, 10, 13, 23), (0, 10, 17, 13)])
def mdL_setPost : MD := (yL_setPost, cL_setPost, 5, (some .int), 8, 10, [(0, 10, 13, 23), (0, 10, 17, 15)])
def mdL_sick : MD := (yL_sick, cL_sick, 5, (some .int), 8, 10, [(0, 10, 13, 23), (0, 10, 17, 13)])
def mdL_standing : MD := (yL_standing, cL_standing, 6, (some .int), 8, 10, [(0, 12, 15, 23), (0, 12, 19, 13)])
def mdL_step : MD := (yL_step, cL_step, 3, (some .int), 8, 10, [(0, 8, 11, 15)])
def mdL_undo : MD := (yL_undo, cL_undo, 3, (some .int), 8, 10, [(0, 8, 11, 15)])
def mdL_value : MD := (yL_value, cL_value, 4, (some .int), 8, 10, [(0, 9, 12, 13)])
def mdX0_about : MD := (yX0_about, cX0_about, 3, (some .int), 0, 1, [])
def mdX0_begin : MD := (yX0_begin, cX0_begin, 4, none, 0, 0, [])
def mdX0_copyFrom : MD := (yX0_copyFrom, cX0_copyFrom, 2, none, 0, 0, [])
def mdX0_distanceFrom : MD := (yX0_distanceFrom, cX0_distanceFrom, 2, (some .int), 0, 0, [])
def mdX0_init : MD := (yX0_init, cX0_init, 1, none, 0, 1, [])
def mdX0_isSickOn : MD := (yX0_isSickOn, cX0_isSickOn, 2, (some .boolean), 0, 0, [])
def mdX0_standAt : MD := (yX0_standAt, cX0_standAt, 3, none, 0, 1, [])
def mdX1_addByte : MD := (yX1_addByte, cX1_addByte, 2, (some .int), 1, 0, [])
def mdX1_byteNow : MD := (yX1_byteNow, cX1_byteNow, 1, (some .int), 1, 0, [])
def mdX1_init : MD := (yX1_init, cX1_init, 1, none, 1, 1, [])
def mdX1_isAtDigit : MD := (yX1_isAtDigit, cX1_isAtDigit, 1, (some .boolean), 1, 1, [])
def mdX1_read : MD := (yX1_read, cX1_read, 2, (some .boolean), 1, 4, [])
def mdX1_readDays : MD := (yX1_readDays, cX1_readDays, 3, (some .boolean), 1, 2, [])
def mdX1_readDigit : MD := (yX1_readDigit, cX1_readDigit, 2, (some .boolean), 1, 1, [])
def mdX1_readOrder : MD := (yX1_readOrder, cX1_readOrder, 4, (some .boolean), 1, 3, [])
def mdX1_readSign : MD := (yX1_readSign, cX1_readSign, 2, (some .boolean), 1, 1, [])
def mdX2_allowsComplaint : MD := (yX2_allowsComplaint, cX2_allowsComplaint, 2, (some .boolean), 2, 0, [])
def mdX2_begin : MD := (yX2_begin, cX2_begin, 3, none, 2, 0, [])
def mdX2_copyFrom : MD := (yX2_copyFrom, cX2_copyFrom, 2, none, 2, 0, [])
def mdX2_fileComplaint : MD := (yX2_fileComplaint, cX2_fileComplaint, 2, none, 2, 0, [])
def mdX2_hasPriority : MD := (yX2_hasPriority, cX2_hasPriority, 2, (some .boolean), 2, 0, [])
def mdX2_init : MD := (yX2_init, cX2_init, 1, none, 2, 1, [])
def mdX2_note : MD := (yX2_note, cX2_note, 4, none, 2, 0, [])
def mdX3_addGuardToWays : MD := (yX3_addGuardToWays, cX3_addGuardToWays, 5, none, 3, 1, [])
def mdX3_choose : MD := (yX3_choose, cX3_choose, 4, none, 3, 1, [])
def mdX3_collectPlaces : MD := (yX3_collectPlaces, cX3_collectPlaces, 4, none, 3, 2, [])
def mdX3_find : MD := (yX3_find, cX3_find, 4, none, 3, 3, [])
def mdX3_init : MD := (yX3_init, cX3_init, 1, none, 3, 1, [])
def mdX4_draw : MD := (yX4_draw, cX4_draw, 8, none, 4, 2, [])
def mdX4_drawOwn : MD := (yX4_drawOwn, cX4_drawOwn, 6, none, 4, 1, [])
def mdX4_init : MD := (yX4_init, cX4_init, 1, none, 4, 1, [])
def mdX4_lacksGuard : MD := (yX4_lacksGuard, cX4_lacksGuard, 2, (some .boolean), 4, 1, [])
def mdX4_nearest : MD := (yX4_nearest, cX4_nearest, 9, (some .int), 4, 1, [])
def mdX4_place : MD := (yX4_place, cX4_place, 3, none, 4, 0, [])
def mdX4_placeOrLeaveOpen : MD := (yX4_placeOrLeaveOpen, cX4_placeOrLeaveOpen, 3, none, 4, 1, [])
def mdX4_reasonNow : MD := (yX4_reasonNow, cX4_reasonNow, 1, (some .int), 4, 0, [])
def mdX5_about : MD := (yX5_about, cX5_about, 2, (some .int), 5, 2, [])
def mdX5_aboutPost : MD := (yX5_aboutPost, cX5_aboutPost, 4, (some .int), 5, 1, [])
def mdX5_allowsComplaint : MD := (yX5_allowsComplaint, cX5_allowsComplaint, 2, (some .boolean), 5, 1, [])
def mdX5_allowsDays : MD := (yX5_allowsDays, cX5_allowsDays, 2, (some .boolean), 5, 1, [])
def mdX5_complaints : MD := (yX5_complaints, cX5_complaints, 3, (some .int), 5, 0, [])
def mdX5_copyFrom : MD := (yX5_copyFrom, cX5_copyFrom, 3, none, 5, 1, [])
def mdX5_earnings : MD := (yX5_earnings, cX5_earnings, 3, (some .int), 5, 0, [])
def mdX5_fileComplaint : MD := (yX5_fileComplaint, cX5_fileComplaint, 2, (some .int), 5, 1, [])
def mdX5_hasGuard : MD := (yX5_hasGuard, cX5_hasGuard, 2, (some .boolean), 5, 1, [])
def mdX5_hasPost : MD := (yX5_hasPost, cX5_hasPost, 2, (some .boolean), 5, 1, [])
def mdX5_init : MD := (yX5_init, cX5_init, 2, none, 5, 2, [])
def mdX5_isSchoolDay : MD := (yX5_isSchoolDay, cX5_isSchoolDay, 3, (some .boolean), 5, 0, [])
def mdX5_neededPosts : MD := (yX5_neededPosts, cX5_neededPosts, 6, (some .int), 5, 1, [])
def mdX5_newGuard : MD := (yX5_newGuard, cX5_newGuard, 4, (some .int), 5, 1, [])
def mdX5_newHoliday : MD := (yX5_newHoliday, cX5_newHoliday, 3, (some .int), 5, 0, [])
def mdX5_newPost : MD := (yX5_newPost, cX5_newPost, 3, (some .int), 5, 1, [])
def mdX5_nextDay : MD := (yX5_nextDay, cX5_nextDay, 1, (some .int), 5, 0, [])
def mdX5_ownerOf : MD := (yX5_ownerOf, cX5_ownerOf, 3, (some .int), 5, 0, [])
def mdX5_reportSick : MD := (yX5_reportSick, cX5_reportSick, 3, (some .int), 5, 1, [])
def mdX5_takeDays : MD := (yX5_takeDays, cX5_takeDays, 6, (some .int), 5, 4, [])
def mdX5_takeNext : MD := (yX5_takeNext, cX5_takeNext, 5, (some .int), 5, 3, [])
def mdX5_timesOpen : MD := (yX5_timesOpen, cX5_timesOpen, 3, (some .int), 5, 0, [])
def mdX5_wellGuards : MD := (yX5_wellGuards, cX5_wellGuards, 4, (some .int), 5, 1, [])
def mdX6_addGuard : MD := (yX6_addGuard, cX6_addGuard, 4, (some .int), 6, 9, [])
def mdX6_addHoliday : MD := (yX6_addHoliday, cX6_addHoliday, 3, (some .int), 6, 9, [])
def mdX6_addPost : MD := (yX6_addPost, cX6_addPost, 3, (some .int), 6, 9, [])
def mdX6_append : MD := (yX6_append, cX6_append, 2, (some .int), 6, 9, [])
def mdX6_best : MD := (yX6_best, cX6_best, 4, (some .int), 6, 9, [])
def mdX6_bestHome : MD := (yX6_bestHome, cX6_bestHome, 7, (some .int), 6, 9, [])
def mdX6_carriesOut : MD := (yX6_carriesOut, cX6_carriesOut, 4, (some .boolean), 6, 5, [])
def mdX6_carryOut : MD := (yX6_carryOut, cX6_carryOut, 2, (some .int), 6, 6, [])
def mdX6_clearText : MD := (yX6_clearText, cX6_clearText, 2, (some .int), 6, 0, [])
def mdX6_complain : MD := (yX6_complain, cX6_complain, 2, (some .int), 6, 9, [])
def mdX6_daysToOpen : MD := (yX6_daysToOpen, cX6_daysToOpen, 5, (some .int), 6, 4, [])
def mdX6_digest : MD := (yX6_digest, cX6_digest, 5, (some .long), 6, 3, [])
def mdX6_filled : MD := (yX6_filled, cX6_filled, 2, (some .double), 6, 1, [])
def mdX6_guard : MD := (yX6_guard, cX6_guard, 3, (some .int), 6, 9, [])
def mdX6_holiday : MD := (yX6_holiday, cX6_holiday, 3, (some .int), 6, 9, [])
def mdX6_init : MD := (yX6_init, cX6_init, 2, none, 6, 3, [])
def mdX6_isDay : MD := (yX6_isDay, cX6_isDay, 1, (some .boolean), 6, 1, [])
def mdX6_isIn : MD := (yX6_isIn, cX6_isIn, 2, (some .boolean), 6, 0, [])
def mdX6_isPlace : MD := (yX6_isPlace, cX6_isPlace, 1, (some .boolean), 6, 1, [])
def mdX6_isSession : MD := (yX6_isSession, cX6_isSession, 1, (some .boolean), 6, 1, [])
def mdX6_isWithin : MD := (yX6_isWithin, cX6_isWithin, 3, (some .boolean), 6, 0, [])
def mdX6_missed : MD := (yX6_missed, cX6_missed, 3, (some .int), 6, 9, [])
def mdX6_mixed : MD := (yX6_mixed, cX6_mixed, 3, (some .long), 6, 0, [])
def mdX6_needed : MD := (yX6_needed, cX6_needed, 3, (some .int), 6, 9, [])
def mdX6_open : MD := (yX6_open, cX6_open, 3, (some .int), 6, 9, [])
def mdX6_openOnDay : MD := (yX6_openOnDay, cX6_openOnDay, 5, (some .int), 6, 3, [])
def mdX6_pass : MD := (yX6_pass, cX6_pass, 2, (some .int), 6, 9, [])
def mdX6_post : MD := (yX6_post, cX6_post, 3, (some .int), 6, 9, [])
def mdX6_save : MD := (yX6_save, cX6_save, 3, none, 6, 2, [])
def mdX6_setNeeds : MD := (yX6_setNeeds, cX6_setNeeds, 4, (some .int), 6, 9, [])
def mdX6_setPost : MD := (yX6_setPost, cX6_setPost, 4, (some .int), 6, 9, [])
def mdX6_sick : MD := (yX6_sick, cX6_sick, 3, (some .int), 6, 9, [])
def mdX6_standing : MD := (yX6_standing, cX6_standing, 4, (some .int), 6, 9, [])
def mdX6_step : MD := (yX6_step, cX6_step, 1, (some .int), 6, 9, [])
def mdX6_undo : MD := (yX6_undo, cX6_undo, 1, (some .int), 6, 9, [])
def mdX6_value : MD := (yX6_value, cX6_value, 2, (some .int), 6, 9, [])
def mdX7_addGuard : MD := (yX7_addGuard, cX7_addGuard, 5, (some .int), 7, 2, [])
def mdX7_addHoliday : MD := (yX7_addHoliday, cX7_addHoliday, 3, (some .int), 7, 1, [])
def mdX7_addPost : MD := (yX7_addPost, cX7_addPost, 4, (some .int), 7, 1, [])
def mdX7_addTo : MD := (yX7_addTo, cX7_addTo, 6, none, 7, 1, [])
def mdX7_append : MD := (yX7_append, cX7_append, 2, (some .int), 7, 1, [])
def mdX7_best : MD := (yX7_best, cX7_best, 8, (some .int), 7, 4, [])
def mdX7_bestHome : MD := (yX7_bestHome, cX7_bestHome, 6, (some .int), 7, 6, [])
def mdX7_by : MD := (yX7_by, cX7_by, 3, (some .int), 7, 0, [])
def mdX7_canComplain : MD := (yX7_canComplain, cX7_canComplain, 3, (some .boolean), 7, 1, [])
def mdX7_canPass : MD := (yX7_canPass, cX7_canPass, 2, (some .boolean), 7, 0, [])
def mdX7_carry : MD := (yX7_carry, cX7_carry, 5, (some .boolean), 7, 7, [])
def mdX7_carryOut : MD := (yX7_carryOut, cX7_carryOut, 5, (some .int), 7, 8, [])
def mdX7_clearText : MD := (yX7_clearText, cX7_clearText, 2, (some .int), 7, 0, [])
def mdX7_complain : MD := (yX7_complain, cX7_complain, 2, (some .int), 7, 2, [])
def mdX7_complainNow : MD := (yX7_complainNow, cX7_complainNow, 2, (some .int), 7, 1, [])
def mdX7_daysToOpen : MD := (yX7_daysToOpen, cX7_daysToOpen, 2, (some .int), 7, 6, [])
def mdX7_digest : MD := (yX7_digest, cX7_digest, 5, (some .long), 7, 4, [])
def mdX7_distance : MD := (yX7_distance, cX7_distance, 4, (some .int), 7, 1, [])
def mdX7_expect : MD := (yX7_expect, cX7_expect, 2, none, 7, 1, [])
def mdX7_fail : MD := (yX7_fail, cX7_fail, 2, none, 7, 0, [])
def mdX7_filled : MD := (yX7_filled, cX7_filled, 1, (some .double), 7, 0, [])
def mdX7_give : MD := (yX7_give, cX7_give, 4, none, 7, 0, [])
def mdX7_go : MD := (yX7_go, cX7_go, 5, (some .int), 7, 5, [])
def mdX7_guard : MD := (yX7_guard, cX7_guard, 3, (some .int), 7, 2, [])
def mdX7_guardValue : MD := (yX7_guardValue, cX7_guardValue, 3, (some .int), 7, 1, [])
def mdX7_here : MD := (yX7_here, cX7_here, 1, (some .int), 7, 0, [])
def mdX7_holiday : MD := (yX7_holiday, cX7_holiday, 3, (some .int), 7, 1, [])
def mdX7_in : MD := (yX7_in, cX7_in, 3, (some .boolean), 7, 0, [])
def mdX7_init : MD := (yX7_init, cX7_init, 1, none, 7, 1, [])
def mdX7_isAhead : MD := (yX7_isAhead, cX7_isAhead, 6, (some .boolean), 7, 2, [])
def mdX7_isDigit : MD := (yX7_isDigit, cX7_isDigit, 2, (some .boolean), 7, 1, [])
def mdX7_isGuard : MD := (yX7_isGuard, cX7_isGuard, 2, (some .boolean), 7, 1, [])
def mdX7_isNeeded : MD := (yX7_isNeeded, cX7_isNeeded, 4, (some .boolean), 7, 2, [])
def mdX7_isPost : MD := (yX7_isPost, cX7_isPost, 2, (some .boolean), 7, 1, [])
def mdX7_isSchoolDay : MD := (yX7_isSchoolDay, cX7_isSchoolDay, 4, (some .boolean), 7, 1, [])
def mdX7_isSick : MD := (yX7_isSick, cX7_isSick, 4, (some .boolean), 7, 1, [])
def mdX7_isTime : MD := (yX7_isTime, cX7_isTime, 2, (some .boolean), 7, 1, [])
def mdX7_look : MD := (yX7_look, cX7_look, 10, (some .int), 7, 4, [])
def mdX7_many : MD := (yX7_many, cX7_many, 3, (some .int), 7, 0, [])
def mdX7_missed : MD := (yX7_missed, cX7_missed, 5, (some .int), 7, 6, [])
def mdX7_needed : MD := (yX7_needed, cX7_needed, 5, (some .int), 7, 3, [])
def mdX7_numberOf : MD := (yX7_numberOf, cX7_numberOf, 1, (some .int), 7, 0, [])
def mdX7_of : MD := (yX7_of, cX7_of, 3, (some .int), 7, 0, [])
def mdX7_open : MD := (yX7_open, cX7_open, 3, (some .int), 7, 5, [])
def mdX7_opensOn : MD := (yX7_opensOn, cX7_opensOn, 3, (some .int), 7, 5, [])
def mdX7_ownerOf : MD := (yX7_ownerOf, cX7_ownerOf, 4, (some .int), 7, 1, [])
def mdX7_pass : MD := (yX7_pass, cX7_pass, 2, (some .int), 7, 7, [])
def mdX7_passNow : MD := (yX7_passNow, cX7_passNow, 4, (some .int), 7, 6, [])
def mdX7_pay : MD := (yX7_pay, cX7_pay, 7, none, 7, 2, [])
def mdX7_post : MD := (yX7_post, cX7_post, 3, (some .int), 7, 3, [])
def mdX7_postValue : MD := (yX7_postValue, cX7_postValue, 3, (some .int), 7, 2, [])
def mdX7_put : MD := (yX7_put, cX7_put, 4, none, 7, 0, [])
def mdX7_readDays : MD := (yX7_readDays, cX7_readDays, 2, none, 7, 3, [])
def mdX7_readDigit : MD := (yX7_readDigit, cX7_readDigit, 3, (some .int), 7, 2, [])
def mdX7_readOrder : MD := (yX7_readOrder, cX7_readOrder, 2, (some .int), 7, 1, [])
def mdX7_readRest : MD := (yX7_readRest, cX7_readRest, 3, (some .int), 7, 4, [])
def mdX7_reasonOn : MD := (yX7_reasonOn, cX7_reasonOn, 7, (some .int), 7, 2, [])
def mdX7_reckonSums : MD := (yX7_reckonSums, cX7_reckonSums, 9, none, 7, 3, [])
def mdX7_replacementFor : MD := (yX7_replacementFor, cX7_replacementFor, 7, (some .int), 7, 3, [])
def mdX7_save : MD := (yX7_save, cX7_save, 2, none, 7, 0, [])
def mdX7_setNeeds : MD := (yX7_setNeeds, cX7_setNeeds, 4, (some .int), 7, 2, [])
def mdX7_setPost : MD := (yX7_setPost, cX7_setPost, 6, (some .int), 7, 2, [])
def mdX7_sick : MD := (yX7_sick, cX7_sick, 3, (some .int), 7, 2, [])
def mdX7_standAtOwn : MD := (yX7_standAtOwn, cX7_standAtOwn, 6, none, 7, 3, [])
def mdX7_standing : MD := (yX7_standing, cX7_standing, 5, (some .int), 7, 5, [])
def mdX7_step : MD := (yX7_step, cX7_step, 1, (some .int), 7, 6, [])
def mdX7_sumOf : MD := (yX7_sumOf, cX7_sumOf, 4, (some .int), 7, 2, [])
def mdX7_thrown : MD := (yX7_thrown, cX7_thrown, 1, (some .int), 7, 0, [])
def mdX7_tryNow : MD := (yX7_tryNow, cX7_tryNow, 2, none, 7, 0, [])
def mdX7_undo : MD := (yX7_undo, cX7_undo, 2, (some .int), 7, 0, [])
def mdX7_value : MD := (yX7_value, cX7_value, 2, (some .int), 7, 4, [])
def mdX7_valueNow : MD := (yX7_valueNow, cX7_valueNow, 2, (some .int), 7, 3, [])
def ow (c : Nat) : String := match c with
  | 8 => RL
  | 10 => RJ6
  | 11 => RJ9
  | 12 => RJ7
  | k => cR k
/-- fields: class, entry, class of the field, its slot, the word's place in the tables -/
def fRT : List (Nat × Nat × Nat × Nat × Nat) := [(0, 9, 0, 0, 135), (0, 15, 0, 1, 137), (0, 18, 0, 2, 140), (0, 21, 0, 3, 144), (0, 24, 0, 4, 146), (0, 27, 0, 5, 147), (0, 30, 0, 6, 149), (0, 33, 0, 7, 152), (0, 36, 0, 8, 153), (1, 9, 1, 0, 285), (1, 15, 1, 2, 288), (1, 18, 1, 3, 290), (1, 21, 1, 4, 292), (1, 24, 1, 1, 286), (1, 28, 1, 6, 296), (1, 31, 1, 5, 294), (1, 42, 1, 7, 298), (2, 9, 2, 0, 91), (2, 15, 2, 1, 95), (2, 18, 2, 2, 98), (2, 21, 2, 3, 100), (2, 24, 2, 4, 102), (2, 27, 2, 5, 104), (2, 30, 2, 6, 105), (2, 33, 2, 7, 106), (2, 36, 2, 8, 108), (3, 9, 3, 0, 261), (3, 15, 3, 2, 263), (3, 29, 5, 6, 192), (3, 35, 4, 5, 240), (3, 44, 5, 5, 188), (3, 55, 3, 1, 262), (3, 58, 5, 4, 185), (3, 65, 5, 3, 181), (3, 69, 2, 0, 93), (3, 80, 0, 1, 138), (3, 89, 3, 3, 264), (3, 92, 3, 4, 266), (4, 9, 4, 0, 229), (4, 15, 4, 1, 232), (4, 32, 5, 4, 184), (4, 36, 5, 3, 180), (4, 44, 5, 7, 196), (4, 52, 2, 0, 92), (4, 69, 4, 3, 236), (4, 72, 4, 2, 234), (4, 74, 4, 4, 239), (4, 76, 4, 5, 241), (4, 79, 5, 6, 193), (4, 82, 5, 5, 189), (4, 86, 0, 2, 141), (4, 104, 0, 1, 139), (4, 107, 0, 3, 145), (5, 9, 5, 0, 173), (5, 15, 5, 1, 175), (5, 20, 5, 3, 179), (5, 26, 5, 5, 187), (5, 32, 5, 2, 177), (5, 36, 5, 4, 183), (5, 39, 5, 6, 191), (5, 42, 5, 7, 195), (5, 45, 5, 8, 198), (5, 48, 5, 9, 199), (5, 75, 0, 2, 143), (5, 82, 0, 6, 150), (5, 93, 2, 3, 101), (5, 99, 2, 1, 97), (5, 111, 4, 0, 230), (5, 114, 4, 1, 233), (5, 123, 2, 0, 94), (5, 129, 4, 2, 235), (5, 138, 4, 3, 238), (5, 145, 2, 2, 99), (5, 148, 0, 5, 148), (5, 154, 2, 4, 103), (5, 160, 2, 7, 107), (5, 163, 2, 8, 109), (6, 12, 6, 0, 316), (6, 16, 6, 1, 317), (6, 19, 6, 2, 318), (6, 26, 6, 4, 320), (6, 33, 6, 5, 321), (6, 40, 6, 6, 322), (6, 59, 5, 2, 178), (6, 80, 5, 4, 186), (6, 98, 5, 3, 182), (6, 102, 2, 1, 96), (6, 109, 5, 6, 194), (6, 129, 5, 5, 190), (6, 133, 0, 2, 142), (6, 184, 5, 1, 176), (6, 188, 5, 0, 174), (6, 203, 4, 3, 237), (6, 206, 4, 0, 231), (6, 221, 3, 3, 265), (6, 224, 3, 4, 267), (6, 236, 0, 6, 151), (6, 243, 5, 7, 197), (6, 246, 0, 0, 136), (6, 249, 5, 9, 200), (6, 257, 1, 1, 287), (6, 269, 1, 6, 297), (6, 272, 1, 5, 295), (6, 278, 6, 3, 319), (6, 296, 1, 3, 291), (6, 299, 1, 4, 293), (6, 302, 1, 2, 289), (7, 7, 7, 1, 918), (7, 13, 7, 2, 919), (7, 16, 7, 3, 920), (7, 19, 7, 5, 922), (7, 22, 7, 7, 924), (7, 25, 7, 8, 925), (7, 28, 7, 9, 926), (7, 31, 7, 11, 928), (7, 34, 7, 0, 917), (7, 38, 7, 10, 927), (7, 41, 7, 4, 921), (7, 165, 7, 6, 923), (7, 168, 7, 12, 929), (7, 175, 7, 13, 930), (7, 188, 7, 14, 931)]
def fRes (c i : Nat) : Option (Nat × Nat) := (fRT.find? (fun q => q.1 == c && q.2.1 == i)).map (fun q => (q.2.2.1, q.2.2.2.1))
/-- calls: class, entry, the method, how (0 static, 1 by the receiver, 2 a constructor, 3 static of a nest mate, 4 a nest mate's constructor, 5 may throw, 6 static with a table, 7 Object(), 8 arraycopy), parameters, the words' places -/
def mR_0 : List (Nat × Nat × MD × Nat × Nat × List Nat) := [
  (0, 3, mdX6_isWithin, 7, 0, [134, 74, 75]),
  (0, 39, mdX0_distanceFrom, 1, 1, [439, 53, 415, 413, 414]),
  (0, 43, mdX6_isWithin, 9, 2, [440, 441, 66, 442]),
  (0, 49, mdX0_isSickOn, 1, 1, [572, 53, 385, 383, 384]),
  (1, 3, mdX6_isWithin, 7, 0, [284, 74, 75]),
  (1, 34, mdX1_readOrder, 1, 0, [469, 56, 472, 471, 4]),
  (1, 38, mdX1_byteNow, 1, 0, [473, 56, 476, 475, 5]),
  (1, 45, mdX1_readDays, 1, 0, [477, 56, 480, 479, 6]),
  (1, 48, mdX1_readDigit, 1, 1, [486, 56, 489, 488, 8]),
  (1, 52, mdX1_readSign, 1, 1, [490, 56, 493, 492, 9]),
  (1, 55, mdX6_isWithin, 3, 3, [50, 434, 433]),
  (1, 59, mdX1_isAtDigit, 1, 0, [481, 56, 484, 483, 7])]
def mR_1 : List (Nat × Nat × MD × Nat × Nat × List Nat) := [
  (2, 3, mdX6_isWithin, 7, 0, [90, 74, 75]),
  (3, 3, mdX6_isWithin, 7, 0, [260, 74, 75]),
  (3, 18, mdX3_collectPlaces, 1, 2, [850, 55, 853, 852, 13]),
  (3, 23, mdJ7_fill_53178, 0, 2, [856, 65, 392, 391]),
  (3, 40, mdX6_isIn, 3, 2, [50, 395, 394]),
  (3, 48, mdX3_addGuardToWays, 1, 1, [858, 55, 861, 860, 14]),
  (3, 52, mdX3_choose, 1, 0, [864, 55, 867, 866, 15]),
  (3, 61, mdX4_lacksGuard, 1, 1, [854, 54, 403, 401, 402]),
  (3, 74, mdX0_distanceFrom, 1, 1, [862, 53, 415, 413, 414]),
  (3, 83, mdX6_isWithin, 9, 2, [863, 441, 66, 442]),
  (3, 95, mdJ6_bitCount_0f7a4, 0, 1, [868, 67, 445, 444]),
  (4, 3, mdX6_isWithin, 7, 0, [228, 74, 75])]
def mR_2 : List (Nat × Nat × MD × Nat × Nat × List Nat) := [
  (4, 18, mdX5_neededPosts, 1, 2, [370, 51, 373, 371, 372]),
  (4, 24, mdX5_wellGuards, 1, 1, [378, 51, 381, 379, 380]),
  (4, 28, mdX4_drawOwn, 1, 3, [386, 54, 389, 387, 388]),
  (4, 40, mdX4_lacksGuard, 1, 1, [400, 54, 403, 401, 402]),
  (4, 47, mdX2_hasPriority, 1, 1, [404, 52, 407, 405, 406]),
  (4, 55, mdX4_nearest, 1, 2, [408, 54, 411, 410, 1]),
  (4, 59, mdX4_placeOrLeaveOpen, 1, 2, [416, 54, 419, 418, 2]),
  (4, 63, mdJ7_fill_53178, 0, 2, [390, 65, 392, 391]),
  (4, 91, mdX6_isIn, 3, 2, [50, 395, 394]),
  (4, 95, mdX4_place, 1, 2, [396, 54, 399, 398, 0]),
  (4, 97, mdX4_reasonNow, 1, 0, [420, 54, 423, 422, 3]),
  (4, 101, mdX0_distanceFrom, 1, 1, [412, 53, 415, 413, 414])]
def mR_3 : List (Nat × Nat × MD × Nat × Nat × List Nat) := [
  (5, 3, mdX6_isWithin, 7, 0, [81, 74, 75]),
  (5, 30, mdX2_init, 4, 0, [52, 89, 88]),
  (5, 31, mdX0_init, 4, 0, [53, 133, 132]),
  (5, 51, mdX6_isWithin, 8, 5, [346, 348, 347, 63]),
  (5, 57, mdX2_copyFrom, 1, 1, [349, 52, 352, 350, 351]),
  (5, 61, mdX0_copyFrom, 1, 1, [353, 53, 356, 354, 355]),
  (5, 64, mdX6_isWithin, 3, 3, [50, 434, 433]),
  (5, 68, mdX2_begin, 1, 2, [690, 52, 693, 691, 692]),
  (5, 72, mdX0_begin, 1, 3, [734, 53, 737, 735, 736]),
  (5, 78, mdX5_nextDay, 1, 0, [365, 51, 360, 358, 359]),
  (5, 85, mdX2_allowsComplaint, 1, 1, [524, 52, 527, 525, 526]),
  (5, 89, mdX2_fileComplaint, 1, 1, [532, 52, 535, 533, 534])]
def mR_4 : List (Nat × Nat × MD × Nat × Nat × List Nat) := [
  (5, 96, mdX5_isSchoolDay, 1, 1, [374, 51, 377, 375, 376]),
  (5, 102, mdX0_isSickOn, 1, 1, [382, 53, 385, 383, 384]),
  (5, 105, mdX4_draw, 1, 3, [366, 54, 369, 367, 368]),
  (5, 117, mdX2_note, 1, 3, [424, 52, 427, 425, 426]),
  (5, 120, mdX5_hasGuard, 1, 1, [428, 51, 431, 429, 430]),
  (5, 126, mdX0_standAt, 1, 2, [435, 53, 438, 436, 437]),
  (5, 132, mdJ6_bitCount_0f7a4, 0, 1, [443, 67, 445, 444]),
  (5, 141, mdX5_takeNext, 1, 1, [510, 51, 364, 362, 363]),
  (5, 151, mdX5_ownerOf, 1, 1, [563, 51, 566, 564, 565]),
  (5, 157, mdX2_hasPriority, 1, 1, [567, 52, 407, 405, 406]),
  (5, 166, mdX5_timesOpen, 1, 0, [549, 51, 456, 454, 455]),
  (5, 168, mdX5_complaints, 1, 0, [550, 51, 553, 551, 552])]
def mR_5 : List (Nat × Nat × MD × Nat × Nat × List Nat) := [
  (5, 170, mdX5_earnings, 1, 0, [554, 51, 557, 555, 556]),
  (5, 172, mdX5_wellGuards, 1, 1, [558, 51, 381, 379, 380]),
  (6, 3, mdX6_isWithin, 7, 0, [73, 74, 75]),
  (6, 11, mdX5_init, 2, 0, [78, 51, 80, 79]),
  (6, 25, mdX4_init, 4, 0, [54, 227, 226]),
  (6, 32, mdX3_init, 4, 0, [55, 259, 258]),
  (6, 39, mdX1_init, 4, 0, [56, 283, 282]),
  (6, 44, mdX6_isDay, 0, 1, [582, 50, 584, 583]),
  (6, 48, mdX6_isWithin, 0, 3, [585, 50, 434, 433]),
  (6, 68, mdX6_save, 1, 0, [494, 50, 497, 496, 10]),
  (6, 71, mdX5_newHoliday, 1, 2, [670, 51, 673, 671, 672]),
  (6, 75, mdX6_isPlace, 0, 1, [681, 50, 683, 682])]
def mR_6 : List (Nat × Nat × MD × Nat × Nat × List Nat) := [
  (6, 85, mdX5_newPost, 1, 2, [686, 51, 689, 687, 688]),
  (6, 88, mdX5_hasPost, 1, 1, [516, 51, 519, 517, 518]),
  (6, 114, mdX5_ownerOf, 1, 1, [728, 51, 566, 564, 565]),
  (6, 120, mdX5_newGuard, 1, 3, [730, 51, 733, 731, 732]),
  (6, 124, mdX5_hasGuard, 1, 1, [511, 51, 431, 429, 430]),
  (6, 142, mdX5_reportSick, 1, 2, [512, 51, 515, 513, 514]),
  (6, 145, mdX5_allowsComplaint, 1, 1, [520, 51, 523, 521, 522]),
  (6, 150, mdX5_fileComplaint, 1, 1, [528, 51, 531, 529, 530]),
  (6, 153, mdX5_nextDay, 1, 0, [357, 51, 360, 358, 359]),
  (6, 159, mdX5_takeNext, 1, 1, [361, 51, 364, 362, 363]),
  (6, 163, mdX5_allowsDays, 1, 1, [502, 51, 505, 503, 504]),
  (6, 168, mdX5_takeDays, 1, 2, [506, 51, 509, 507, 508])]
def mR_7 : List (Nat × Nat × MD × Nat × Nat × List Nat) := [
  (6, 174, mdX5_aboutPost, 1, 2, [559, 51, 562, 560, 561]),
  (6, 177, mdX0_about, 1, 2, [568, 53, 571, 569, 570]),
  (6, 180, mdX5_about, 1, 1, [545, 51, 548, 546, 547]),
  (6, 191, mdX6_isSession, 0, 1, [816, 50, 818, 817]),
  (6, 196, mdX5_neededPosts, 1, 2, [820, 51, 373, 371, 372]),
  (6, 199, mdX4_draw, 1, 3, [828, 54, 369, 367, 368]),
  (6, 211, mdX5_wellGuards, 1, 1, [844, 51, 381, 379, 380]),
  (6, 214, mdX4_drawOwn, 1, 3, [845, 54, 389, 387, 388]),
  (6, 217, mdX3_find, 1, 2, [846, 55, 849, 847, 848]),
  (6, 229, mdX0_isSickOn, 1, 1, [877, 53, 385, 383, 384]),
  (6, 232, mdX5_copyFrom, 1, 1, [342, 51, 345, 343, 344]),
  (6, 239, mdX6_openOnDay, 1, 2, [878, 50, 881, 880, 16])]
def mR_8 : List (Nat × Nat × MD × Nat × Nat × List Nat) := [
  (6, 252, mdX5_timesOpen, 1, 0, [453, 51, 456, 454, 455]),
  (6, 262, mdX1_addByte, 1, 1, [899, 56, 902, 900, 901]),
  (6, 265, mdX1_read, 1, 0, [465, 56, 468, 466, 467]),
  (6, 275, mdX6_carriesOut, 1, 1, [498, 50, 501, 500, 11]),
  (6, 285, mdX6_mixed, 0, 2, [541, 50, 543, 542]),
  (6, 291, mdJ6_bitCount_0f7a4, 0, 1, [882, 67, 445, 444]),
  (7, 1, mdX6_isWithin, 7, 0, [916, 74, 75]),
  (7, 44, mdX7_in, 0, 3, [971, 57, 973, 972]),
  (7, 48, mdX7_of, 0, 3, [993, 57, 995, 994]),
  (7, 52, mdX7_isSchoolDay, 0, 2, [1063, 57, 1065, 1064]),
  (7, 56, mdX7_by, 0, 3, [1004, 57, 1006, 1005]),
  (7, 59, mdX7_isSick, 1, 3, [1056, 57, 1059, 1058, 26])]
def mR_9 : List (Nat × Nat × MD × Nat × Nat × List Nat) := [
  (7, 63, mdX7_isNeeded, 0, 4, [1060, 57, 1062, 1061]),
  (7, 67, mdX7_distance, 0, 3, [1070, 57, 1072, 1071]),
  (7, 70, mdX7_isAhead, 1, 4, [1073, 57, 1076, 1075, 28]),
  (7, 73, mdX7_standAtOwn, 1, 3, [1052, 57, 1055, 1054, 25]),
  (7, 77, mdX7_replacementFor, 1, 3, [1066, 57, 1069, 1068, 27]),
  (7, 80, mdX7_reasonOn, 1, 2, [1077, 57, 1080, 1079, 29]),
  (7, 84, mdX7_give, 0, 4, [1010, 57, 1012, 1011]),
  (7, 88, mdX7_numberOf, 0, 1, [1033, 57, 1035, 1034]),
  (7, 92, mdX7_look, 1, 4, [1048, 57, 1051, 1050, 24]),
  (7, 96, mdX7_many, 0, 1, [1081, 57, 1083, 1082]),
  (7, 100, mdX7_put, 0, 4, [982, 57, 984, 983]),
  (7, 103, mdX7_pay, 1, 3, [1084, 57, 1087, 1086, 30])]
def mR_10 : List (Nat × Nat × MD × Nat × Nat × List Nat) := [
  (7, 106, mdX7_go, 1, 1, [1044, 57, 1047, 1046, 23]),
  (7, 109, mdX7_save, 1, 0, [974, 57, 977, 976, 17]),
  (7, 112, mdX7_isPost, 1, 1, [989, 57, 992, 991, 18]),
  (7, 116, mdX7_ownerOf, 1, 1, [1000, 57, 1003, 1002, 19]),
  (7, 119, mdX7_addTo, 0, 4, [1007, 57, 1009, 1008]),
  (7, 122, mdX7_isGuard, 1, 1, [1017, 57, 1020, 1019, 20]),
  (7, 125, mdX7_canComplain, 1, 1, [1029, 57, 1032, 1031, 21]),
  (7, 128, mdX7_complainNow, 1, 1, [1036, 57, 1039, 1038, 22]),
  (7, 131, mdX7_canPass, 1, 1, [1092, 57, 1095, 1094, 31]),
  (7, 134, mdX7_passNow, 1, 1, [1096, 57, 1099, 1098, 32]),
  (7, 137, mdX7_postValue, 1, 2, [1104, 57, 1107, 1106, 33]),
  (7, 141, mdX7_guardValue, 1, 2, [1112, 57, 1115, 1114, 34])]
def mR_11 : List (Nat × Nat × MD × Nat × Nat × List Nat) := [
  (7, 144, mdX7_sumOf, 1, 1, [1124, 57, 1127, 1126, 36]),
  (7, 147, mdX7_valueNow, 1, 1, [1120, 57, 1123, 1122, 35]),
  (7, 150, mdX7_isTime, 0, 2, [1136, 57, 1138, 1137]),
  (7, 155, mdX7_reckonSums, 1, 2, [1151, 57, 1154, 1153, 37]),
  (7, 159, mdX7_opensOn, 1, 2, [1160, 57, 1163, 1162, 38]),
  (7, 162, mdX7_tryNow, 1, 0, [1168, 57, 1171, 1170, 39]),
  (7, 171, mdX7_here, 1, 0, [1196, 57, 1199, 1198, 41]),
  (7, 178, mdX7_isDigit, 1, 1, [1212, 57, 1215, 1214, 45]),
  (7, 181, mdX7_fail, 1, 1, [1200, 57, 1203, 1202, 42]),
  (7, 185, mdX7_readDigit, 1, 1, [1208, 57, 1211, 1210, 44]),
  (7, 191, mdX7_expect, 1, 1, [1216, 57, 1219, 1218, 46]),
  (7, 194, mdX7_readDays, 1, 0, [1220, 57, 1223, 1222, 47])]
def mR_12 : List (Nat × Nat × MD × Nat × Nat × List Nat) := [
  (7, 197, mdX7_readOrder, 1, 0, [1192, 57, 1195, 1194, 40]),
  (7, 200, mdX7_readRest, 1, 1, [1204, 57, 1207, 1206, 43]),
  (7, 203, mdX7_carry, 1, 2, [1224, 57, 1227, 1226, 48]),
  (8, 7, mdX6_addHoliday, 5, 2, [578, 50, 581, 579, 580]),
  (8, 17, mdX6_addPost, 5, 2, [677, 50, 680, 678, 679]),
  (8, 20, mdX6_setNeeds, 5, 2, [698, 50, 701, 699, 700]),
  (8, 25, mdX6_addGuard, 5, 3, [722, 50, 725, 723, 724]),
  (8, 29, mdX6_setPost, 5, 2, [741, 50, 744, 742, 743]),
  (8, 32, mdX6_sick, 5, 2, [749, 50, 752, 750, 751]),
  (8, 35, mdX6_complain, 5, 1, [758, 50, 761, 759, 760]),
  (8, 39, mdX6_step, 5, 0, [766, 50, 769, 767, 768]),
  (8, 43, mdX6_pass, 5, 1, [774, 50, 777, 775, 776])]
def mR_13 : List (Nat × Nat × MD × Nat × Nat × List Nat) := [
  (8, 46, mdX6_post, 5, 2, [782, 50, 785, 783, 784]),
  (8, 49, mdX6_guard, 5, 2, [790, 50, 793, 791, 792]),
  (8, 52, mdX6_value, 5, 1, [797, 50, 800, 798, 799]),
  (8, 55, mdX6_holiday, 5, 2, [804, 50, 807, 805, 806]),
  (8, 59, mdX6_needed, 5, 2, [812, 50, 815, 813, 814]),
  (8, 62, mdX6_open, 5, 2, [824, 50, 827, 825, 826]),
  (8, 65, mdX6_standing, 5, 3, [832, 50, 835, 833, 834]),
  (8, 68, mdX6_best, 5, 3, [839, 50, 842, 840, 841]),
  (8, 71, mdX6_missed, 5, 2, [872, 50, 875, 873, 874]),
  (8, 74, mdX6_bestHome, 5, 1, [886, 50, 889, 887, 888]),
  (8, 77, mdX6_append, 5, 1, [893, 50, 896, 894, 895]),
  (8, 80, mdX6_undo, 5, 0, [906, 50, 909, 907, 908])]
def mR_14 : List (Nat × Nat × MD × Nat × Nat × List Nat) := [
  (8, 83, mdX6_init, 2, 0, [70, 50, 72, 71]),
  (8, 86, mdX7_init, 2, 0, [913, 57, 915, 914]),
  (8, 87, mdL_addHoliday, 6, 4, [573, 49, 575, 574]),
  (8, 92, mdX7_addHoliday, 1, 2, [967, 57, 970, 968, 969]),
  (8, 93, mdX7_thrown, 1, 0, [963, 57, 966, 964, 965]),
  (8, 96, mdL_addPost, 6, 4, [674, 49, 676, 675]),
  (8, 98, mdX7_addPost, 1, 2, [978, 57, 981, 979, 980]),
  (8, 99, mdL_setNeeds, 6, 4, [694, 49, 696, 695]),
  (8, 101, mdX7_setNeeds, 1, 2, [985, 57, 988, 986, 987]),
  (8, 102, mdL_addGuard, 6, 5, [719, 49, 721, 720]),
  (8, 105, mdX7_addGuard, 1, 3, [996, 57, 999, 997, 998]),
  (8, 106, mdL_setPost, 6, 4, [738, 49, 740, 739])]
def mR_15 : List (Nat × Nat × MD × Nat × Nat × List Nat) := [
  (8, 108, mdX7_setPost, 1, 2, [1013, 57, 1016, 1014, 1015]),
  (8, 109, mdL_sick, 6, 4, [746, 49, 748, 747]),
  (8, 111, mdX7_sick, 1, 2, [1021, 57, 1024, 1022, 1023]),
  (8, 112, mdL_complain, 6, 3, [755, 49, 757, 756]),
  (8, 115, mdX7_complain, 1, 1, [1025, 57, 1028, 1026, 1027]),
  (8, 116, mdL_step, 6, 2, [763, 49, 765, 764]),
  (8, 119, mdX7_step, 1, 0, [1040, 57, 1043, 1041, 1042]),
  (8, 120, mdL_pass, 6, 3, [771, 49, 773, 772]),
  (8, 122, mdX7_pass, 1, 1, [1088, 57, 1091, 1089, 1090]),
  (8, 123, mdL_post, 6, 4, [779, 49, 781, 780]),
  (8, 125, mdX7_post, 1, 2, [1100, 57, 1103, 1101, 1102]),
  (8, 126, mdL_guard, 6, 4, [787, 49, 789, 788])]
def mR_16 : List (Nat × Nat × MD × Nat × Nat × List Nat) := [
  (8, 128, mdX7_guard, 1, 2, [1108, 57, 1111, 1109, 1110]),
  (8, 129, mdL_value, 6, 3, [794, 49, 796, 795]),
  (8, 131, mdX7_value, 1, 1, [1116, 57, 1119, 1117, 1118]),
  (8, 132, mdL_holiday, 6, 4, [801, 49, 803, 802]),
  (8, 135, mdX7_holiday, 1, 2, [1128, 57, 1131, 1129, 1130]),
  (8, 136, mdL_needed, 6, 4, [809, 49, 811, 810]),
  (8, 138, mdX7_needed, 1, 2, [1132, 57, 1135, 1133, 1134]),
  (8, 139, mdL_open, 6, 4, [821, 49, 823, 822]),
  (8, 141, mdX7_open, 1, 2, [1139, 57, 1142, 1140, 1141]),
  (8, 142, mdL_standing, 6, 5, [829, 49, 831, 830]),
  (8, 144, mdX7_standing, 1, 3, [1143, 57, 1146, 1144, 1145]),
  (8, 145, mdL_best, 6, 5, [836, 49, 838, 837])]
def mR_17 : List (Nat × Nat × MD × Nat × Nat × List Nat) := [
  (8, 147, mdX7_best, 1, 3, [1147, 57, 1150, 1148, 1149]),
  (8, 148, mdL_missed, 6, 4, [869, 49, 871, 870]),
  (8, 150, mdX7_missed, 1, 2, [1156, 57, 1159, 1157, 1158]),
  (8, 151, mdX6_daysToOpen, 1, 0, [338, 50, 341, 339, 340]),
  (8, 154, mdX7_daysToOpen, 1, 0, [1164, 57, 1167, 1165, 1166]),
  (8, 155, mdL_bestHome, 6, 3, [883, 49, 885, 884]),
  (8, 157, mdX7_bestHome, 1, 1, [1172, 57, 1175, 1173, 1174]),
  (8, 158, mdX6_filled, 1, 0, [449, 50, 452, 450, 451]),
  (8, 162, mdX7_filled, 1, 0, [1176, 57, 1179, 1177, 1178]),
  (8, 163, mdL_append, 6, 3, [890, 49, 892, 891]),
  (8, 165, mdX7_append, 1, 1, [1180, 57, 1183, 1181, 1182]),
  (8, 166, mdX6_clearText, 1, 0, [457, 50, 460, 458, 459])]
def mR_18 : List (Nat × Nat × MD × Nat × Nat × List Nat) := [
  (8, 169, mdX7_clearText, 1, 0, [1184, 57, 1187, 1185, 1186]),
  (8, 170, mdX6_carryOut, 1, 0, [461, 50, 464, 462, 463]),
  (8, 173, mdX7_carryOut, 1, 0, [1188, 57, 1191, 1189, 1190]),
  (8, 174, mdL_undo, 6, 2, [903, 49, 905, 904]),
  (8, 176, mdX7_undo, 1, 0, [1228, 57, 1231, 1229, 1230]),
  (8, 177, mdX6_digest, 1, 0, [536, 50, 539, 537, 538]),
  (8, 181, mdX7_digest, 1, 0, [1232, 57, 1235, 1233, 1234])]
def mRT : List (Nat × Nat × MD × Nat × Nat × List Nat) := mR_0 ++ (mR_1 ++ (mR_2 ++ (mR_3 ++ (mR_4 ++ (mR_5 ++ (mR_6 ++ (mR_7 ++ (mR_8 ++ (mR_9 ++ (mR_10 ++ (mR_11 ++ (mR_12 ++ (mR_13 ++ (mR_14 ++ (mR_15 ++ (mR_16 ++ (mR_17 ++ (mR_18))))))))))))))))))
def mRes (c i : Nat) : Option (MD × Nat × Nat) := (mRT.find? (fun q => q.1 == c && q.2.1 == i)).map (fun q => (q.2.2.1, q.2.2.2.1, q.2.2.2.2.1))
/-- classes that are made: class, entry, the class; arrays of references: class, entry, kind -/
def nRT : List (Nat × Nat × Nat × List Nat) := [(5, 18, 2, [82, 86, 52]), (5, 24, 0, [84, 130, 53]), (6, 9, 5, [76, 77, 51]), (6, 23, 4, [223, 224, 54]), (6, 30, 3, [255, 256, 55]), (6, 37, 1, [279, 280, 56]), (8, 8, 6, [68, 69, 50]), (8, 84, 7, [911, 912, 57])]
def nRes (c i : Nat) : Option Nat := (nRT.find? (fun q => q.1 == c && q.2.1 == i)).map (fun q => q.2.2.1)
def qRT : List (Nat × Nat × Nat × Nat) := [(5, 18, 10, 82), (5, 24, 9, 84), (6, 9, 11, 76)]
def qRes (c i : Nat) : Option Nat := (qRT.find? (fun q => q.1 == c && q.2.1 == i)).map (fun q => q.2.2.1)
/-- constants -/
def iRT : List (Nat × Nat × Int32 × Nat) := [(3, 22, 1000000, 855), (7, 154, 100000, 1155), (10, 265, 1431655765, 446), (10, 266, 858993459, 447), (10, 267, 252645135, 448)]
def iRes (c i : Nat) : Option Int32 := (iRT.find? (fun q => q.1 == c && q.2.1 == i)).map (fun q => q.2.2.1)
def lRT : List (Nat × Nat × Int64 × Nat) := [(6, 283, 3617, 540), (6, 289, 31, 544), (7, 206, 112127, 1236), (7, 208, 31, 1237)]
def lRes (c i : Nat) : Option Int64 := (lRT.find? (fun q => q.1 == c && q.2.1 == i)).map (fun q => q.2.2.1)
/-- the three exceptions: entry of the class in CrossingPosts, of its constructor, its name; the class's entry in the law; the texts -/
def xRT : List (Nat × Nat × String × Nat) := [(52, 56, "java/lang/IllegalArgumentException", 586), (63, 67, "java/lang/IllegalStateException", 654), (91, 95, "java/lang/IndexOutOfBoundsException", 702)]
def eRT : List (Nat × String × Nat) := [(13, "java/lang/IllegalArgumentException", 576), (15, "java/lang/IllegalStateException", 577), (23, "java/lang/IndexOutOfBoundsException", 697)]
def sRT : List (Nat × String) := [(54, "a day is out of range"), (65, "there are 6 holidays"), (78, "place or needs are out of range"), (83, "there are 8 posts"), (93, "there is no such post"), (96, "needs are out of range"), (107, "home or reach is out of range"), (112, "there are 10 guards"), (118, "the post is another guard's own"), (127, "there is no such guard or post"), (138, "there is no such guard"), (140, "days are out of range"), (148, "there can be no complaint about the post"), (157, "the day is above 3000"), (166, "a day would be above 3000"), (172, "what is out of range"), (182, "there is no such holiday"), (194, "day or session is out of range"), (209, "day, session or what is out of range"), (227, "day is out of range"), (255, "the byte is out of range"), (260, "the text has 90 bytes"), (281, "there is no saved state")]
def xRes (ik ic : Nat) : Option String := (xRT.find? (fun q => q.1 == ik && q.2.1 == ic)).map (fun q => q.2.2.1)
def eRes (j : Nat) : Option String := (eRT.find? (fun q => q.1 == j)).map (fun q => q.2.1)
def nestL : List (String × Nat × MethodName) := [(ow 1, 55, yX6_isWithin), (ow 3, 40, yX6_isIn), (ow 4, 91, yX6_isIn), (ow 5, 30, yX2_init), (ow 5, 31, yX0_init), (ow 5, 64, yX6_isWithin), (ow 6, 25, yX4_init), (ow 6, 32, yX3_init), (ow 6, 39, yX1_init)]
