/-! THE METHODS AND THE CONSTANT POOLS: by a program out of the names and the tables' words -/
def mdJ6_bitCount_0f7a4 : MD := (yJ6_bitCount_0f7a4, cJ6_bitCount_0f7a4, 1, (some .int), 10, 0, [])
def mdJ7_fill_53178 : MD := (yJ7_fill_53178, cJ7_fill_53178, 4, none, 12, 0, [])
def mdJ9_min_7cf53 : MD := (yJ9_min_7cf53, cJ9_min_7cf53, 2, (some .int), 11, 0, [])
def mdL_act : MD := (yL_act, cL_act, 10, none, 8, 9, [])
def mdL_addsUp : MD := (yL_addsUp, cL_addsUp, 10, (some .boolean), 8, 9, [])
def mdL_cell : MD := (yL_cell, cL_cell, 2, (some .int), 8, 0, [])
def mdL_isLooked : MD := (yL_isLooked, cL_isLooked, 9, (some .boolean), 8, 9, [])
def mdL_isStepped : MD := (yL_isStepped, cL_isStepped, 9, (some .boolean), 8, 9, [])
def mdL_law : MD := (yL_law, cL_law, 15, (some .boolean), 8, 10, [])
def mdL_low : MD := (yL_low, cL_low, 2, (some .int), 8, 0, [])
def mdL_many : MD := (yL_many, cL_many, 3, (some .int), 8, 0, [])
def mdX0_about : MD := (yX0_about, cX0_about, 3, (some .int), 0, 1, [])
def mdX0_begin : MD := (yX0_begin, cX0_begin, 4, none, 0, 0, [])
def mdX0_copyFrom : MD := (yX0_copyFrom, cX0_copyFrom, 2, none, 0, 0, [])
def mdX0_distanceFrom : MD := (yX0_distanceFrom, cX0_distanceFrom, 2, (some .int), 0, 0, [])
def mdX0_init : MD := (yX0_init, cX0_init, 1, none, 0, 1, [])
def mdX0_isSickOn : MD := (yX0_isSickOn, cX0_isSickOn, 2, (some .boolean), 0, 0, [])
def mdX0_standAt : MD := (yX0_standAt, cX0_standAt, 3, none, 0, 1, [])
def mdX1_init : MD := (yX1_init, cX1_init, 1, none, 1, 1, [])
def mdX2_allowsComplaint : MD := (yX2_allowsComplaint, cX2_allowsComplaint, 2, (some .boolean), 2, 0, [])
def mdX2_begin : MD := (yX2_begin, cX2_begin, 3, none, 2, 0, [])
def mdX2_copyFrom : MD := (yX2_copyFrom, cX2_copyFrom, 2, none, 2, 0, [])
def mdX2_fileComplaint : MD := (yX2_fileComplaint, cX2_fileComplaint, 2, none, 2, 0, [])
def mdX2_hasPriority : MD := (yX2_hasPriority, cX2_hasPriority, 2, (some .boolean), 2, 0, [])
def mdX2_init : MD := (yX2_init, cX2_init, 1, none, 2, 1, [])
def mdX2_note : MD := (yX2_note, cX2_note, 4, none, 2, 0, [])
def mdX3_addGuardToWays : MD := (yX3_addGuardToWays, cX3_addGuardToWays, 5, none, 3, 1, [])
def mdX3_choose : MD := (yX3_choose, cX3_choose, 4, none, 3, 1, [])
def mdX3_collectPlaces : MD := (yX3_collectPlaces, cX3_collectPlaces, 4, none, 3, 2, [])
def mdX3_find : MD := (yX3_find, cX3_find, 4, none, 3, 3, [])
def mdX3_init : MD := (yX3_init, cX3_init, 1, none, 3, 1, [])
def mdX4_draw : MD := (yX4_draw, cX4_draw, 8, none, 4, 2, [])
def mdX4_drawOwn : MD := (yX4_drawOwn, cX4_drawOwn, 6, none, 4, 1, [])
def mdX4_init : MD := (yX4_init, cX4_init, 1, none, 4, 1, [])
def mdX4_lacksGuard : MD := (yX4_lacksGuard, cX4_lacksGuard, 2, (some .boolean), 4, 1, [])
def mdX4_nearest : MD := (yX4_nearest, cX4_nearest, 9, (some .int), 4, 1, [])
def mdX4_place : MD := (yX4_place, cX4_place, 3, none, 4, 0, [])
def mdX4_placeOrLeaveOpen : MD := (yX4_placeOrLeaveOpen, cX4_placeOrLeaveOpen, 3, none, 4, 1, [])
def mdX4_reasonNow : MD := (yX4_reasonNow, cX4_reasonNow, 1, (some .int), 4, 0, [])
def mdX5_about : MD := (yX5_about, cX5_about, 2, (some .int), 5, 2, [])
def mdX5_aboutPost : MD := (yX5_aboutPost, cX5_aboutPost, 4, (some .int), 5, 1, [])
def mdX5_allowsComplaint : MD := (yX5_allowsComplaint, cX5_allowsComplaint, 2, (some .boolean), 5, 1, [])
def mdX5_allowsDays : MD := (yX5_allowsDays, cX5_allowsDays, 2, (some .boolean), 5, 1, [])
def mdX5_complaints : MD := (yX5_complaints, cX5_complaints, 3, (some .int), 5, 0, [])
def mdX5_copyFrom : MD := (yX5_copyFrom, cX5_copyFrom, 3, none, 5, 2, [])
def mdX5_earnings : MD := (yX5_earnings, cX5_earnings, 3, (some .int), 5, 0, [])
def mdX5_fileComplaint : MD := (yX5_fileComplaint, cX5_fileComplaint, 2, (some .int), 5, 1, [])
def mdX5_hasGuard : MD := (yX5_hasGuard, cX5_hasGuard, 2, (some .boolean), 5, 1, [])
def mdX5_hasPost : MD := (yX5_hasPost, cX5_hasPost, 2, (some .boolean), 5, 1, [])
def mdX5_init : MD := (yX5_init, cX5_init, 2, none, 5, 2, [])
def mdX5_isSchoolDay : MD := (yX5_isSchoolDay, cX5_isSchoolDay, 3, (some .boolean), 5, 0, [])
def mdX5_neededPosts : MD := (yX5_neededPosts, cX5_neededPosts, 6, (some .int), 5, 1, [])
def mdX5_newGuard : MD := (yX5_newGuard, cX5_newGuard, 4, (some .int), 5, 1, [])
def mdX5_newHoliday : MD := (yX5_newHoliday, cX5_newHoliday, 3, (some .int), 5, 0, [])
def mdX5_newPost : MD := (yX5_newPost, cX5_newPost, 3, (some .int), 5, 1, [])
def mdX5_nextDay : MD := (yX5_nextDay, cX5_nextDay, 1, (some .int), 5, 0, [])
def mdX5_ownerOf : MD := (yX5_ownerOf, cX5_ownerOf, 3, (some .int), 5, 0, [])
def mdX5_reportSick : MD := (yX5_reportSick, cX5_reportSick, 3, (some .int), 5, 1, [])
def mdX5_takeDays : MD := (yX5_takeDays, cX5_takeDays, 6, (some .int), 5, 4, [])
def mdX5_takeNext : MD := (yX5_takeNext, cX5_takeNext, 5, (some .int), 5, 3, [])
def mdX5_timesOpen : MD := (yX5_timesOpen, cX5_timesOpen, 3, (some .int), 5, 0, [])
def mdX5_wellGuards : MD := (yX5_wellGuards, cX5_wellGuards, 4, (some .int), 5, 1, [])
def mdX6_addGuard : MD := (yX6_addGuard, cX6_addGuard, 4, (some .int), 6, 8, [])
def mdX6_addHoliday : MD := (yX6_addHoliday, cX6_addHoliday, 3, (some .int), 6, 8, [])
def mdX6_addPost : MD := (yX6_addPost, cX6_addPost, 3, (some .int), 6, 8, [])
def mdX6_best : MD := (yX6_best, cX6_best, 4, (some .int), 6, 8, [])
def mdX6_bestHome : MD := (yX6_bestHome, cX6_bestHome, 7, (some .int), 6, 8, [])
def mdX6_complain : MD := (yX6_complain, cX6_complain, 2, (some .int), 6, 8, [])
def mdX6_daysToOpen : MD := (yX6_daysToOpen, cX6_daysToOpen, 5, (some .int), 6, 4, [])
def mdX6_digest : MD := (yX6_digest, cX6_digest, 5, (some .long), 6, 3, [])
def mdX6_filled : MD := (yX6_filled, cX6_filled, 2, (some .double), 6, 1, [])
def mdX6_guard : MD := (yX6_guard, cX6_guard, 3, (some .int), 6, 8, [])
def mdX6_init : MD := (yX6_init, cX6_init, 2, none, 6, 3, [])
def mdX6_isDay : MD := (yX6_isDay, cX6_isDay, 1, (some .boolean), 6, 1, [])
def mdX6_isIn : MD := (yX6_isIn, cX6_isIn, 2, (some .boolean), 6, 0, [])
def mdX6_isPlace : MD := (yX6_isPlace, cX6_isPlace, 1, (some .boolean), 6, 1, [])
def mdX6_isSession : MD := (yX6_isSession, cX6_isSession, 1, (some .boolean), 6, 1, [])
def mdX6_isWithin : MD := (yX6_isWithin, cX6_isWithin, 3, (some .boolean), 6, 0, [])
def mdX6_missed : MD := (yX6_missed, cX6_missed, 3, (some .int), 6, 8, [])
def mdX6_mixed : MD := (yX6_mixed, cX6_mixed, 3, (some .long), 6, 0, [])
def mdX6_needed : MD := (yX6_needed, cX6_needed, 3, (some .int), 6, 8, [])
def mdX6_open : MD := (yX6_open, cX6_open, 3, (some .int), 6, 8, [])
def mdX6_openOnDay : MD := (yX6_openOnDay, cX6_openOnDay, 5, (some .int), 6, 3, [])
def mdX6_pass : MD := (yX6_pass, cX6_pass, 2, (some .int), 6, 8, [])
def mdX6_post : MD := (yX6_post, cX6_post, 3, (some .int), 6, 8, [])
def mdX6_save : MD := (yX6_save, cX6_save, 3, none, 6, 3, [])
def mdX6_setNeeds : MD := (yX6_setNeeds, cX6_setNeeds, 4, (some .int), 6, 8, [])
def mdX6_setPost : MD := (yX6_setPost, cX6_setPost, 4, (some .int), 6, 8, [])
def mdX6_sick : MD := (yX6_sick, cX6_sick, 3, (some .int), 6, 8, [])
def mdX6_standing : MD := (yX6_standing, cX6_standing, 4, (some .int), 6, 8, [])
def mdX6_step : MD := (yX6_step, cX6_step, 1, (some .int), 6, 8, [])
def mdX6_undo : MD := (yX6_undo, cX6_undo, 1, (some .int), 6, 8, [])
def mdX6_value : MD := (yX6_value, cX6_value, 2, (some .int), 6, 8, [])
def ow (c : Nat) : String := match c with
  | 8 => RL
  | 10 => RJ6
  | 11 => RJ9
  | 12 => RJ7
  | k => cR k
/-- fields: class, entry, class of the field, its slot, the word's place in the tables -/
def fRT : List (Nat × Nat × Nat × Nat × Nat) := [(0, 9, 0, 0, 95), (0, 15, 0, 1, 97), (0, 18, 0, 2, 100), (0, 21, 0, 3, 104), (0, 24, 0, 4, 106), (0, 27, 0, 5, 107), (0, 30, 0, 6, 109), (0, 33, 0, 7, 112), (0, 36, 0, 8, 113), (1, 9, 1, 0, 245), (1, 15, 1, 2, 247), (1, 18, 1, 3, 248), (1, 21, 1, 4, 249), (2, 9, 2, 0, 51), (2, 15, 2, 1, 55), (2, 18, 2, 2, 58), (2, 21, 2, 3, 60), (2, 24, 2, 4, 62), (2, 27, 2, 5, 64), (2, 30, 2, 6, 65), (2, 33, 2, 7, 66), (2, 36, 2, 8, 68), (3, 9, 3, 0, 221), (3, 15, 3, 2, 223), (3, 29, 5, 6, 152), (3, 35, 4, 5, 200), (3, 44, 5, 5, 148), (3, 55, 3, 1, 222), (3, 58, 5, 4, 145), (3, 65, 5, 3, 141), (3, 69, 2, 0, 53), (3, 80, 0, 1, 98), (3, 89, 3, 3, 224), (3, 92, 3, 4, 226), (4, 9, 4, 0, 189), (4, 15, 4, 1, 192), (4, 32, 5, 4, 144), (4, 36, 5, 3, 140), (4, 44, 5, 7, 156), (4, 52, 2, 0, 52), (4, 69, 4, 3, 196), (4, 72, 4, 2, 194), (4, 74, 4, 4, 199), (4, 76, 4, 5, 201), (4, 79, 5, 6, 153), (4, 82, 5, 5, 149), (4, 86, 0, 2, 101), (4, 104, 0, 1, 99), (4, 107, 0, 3, 105), (5, 9, 5, 0, 133), (5, 15, 5, 1, 135), (5, 20, 5, 3, 139), (5, 26, 5, 5, 147), (5, 32, 5, 2, 137), (5, 36, 5, 4, 143), (5, 39, 5, 6, 151), (5, 42, 5, 7, 155), (5, 45, 5, 8, 158), (5, 48, 5, 9, 159), (5, 75, 0, 2, 103), (5, 82, 0, 6, 110), (5, 93, 2, 3, 61), (5, 99, 2, 1, 57), (5, 111, 4, 0, 190), (5, 114, 4, 1, 193), (5, 123, 2, 0, 54), (5, 129, 4, 2, 195), (5, 138, 4, 3, 198), (5, 145, 2, 2, 59), (5, 148, 0, 5, 108), (5, 154, 2, 4, 63), (5, 160, 2, 7, 67), (5, 163, 2, 8, 69), (6, 12, 6, 0, 267), (6, 16, 6, 1, 268), (6, 19, 6, 2, 269), (6, 26, 6, 4, 271), (6, 33, 6, 5, 272), (6, 40, 6, 6, 273), (6, 59, 5, 2, 138), (6, 80, 5, 4, 146), (6, 98, 5, 3, 142), (6, 102, 2, 1, 56), (6, 109, 5, 6, 154), (6, 129, 5, 5, 150), (6, 133, 0, 2, 102), (6, 184, 5, 1, 136), (6, 188, 5, 0, 134), (6, 203, 4, 3, 197), (6, 206, 4, 0, 191), (6, 221, 3, 3, 225), (6, 224, 3, 4, 227), (6, 236, 0, 6, 111), (6, 243, 5, 7, 157), (6, 246, 0, 0, 96), (6, 249, 5, 9, 160), (6, 257, 1, 1, 246), (6, 278, 6, 3, 270)]
def fRes (c i : Nat) : Option (Nat × Nat) := (fRT.find? (fun q => q.1 == c && q.2.1 == i)).map (fun q => (q.2.2.1, q.2.2.2.1))
/-- calls: class, entry, the method, how (0 static, 1 by the receiver, 2 a constructor, 3 static of a nest mate, 4 a nest mate's constructor, 5 may throw, 6 static with a table, 7 Object(), 8 arraycopy), parameters, the words' places -/
def mR_0 : List (Nat × Nat × MD × Nat × Nat × List Nat) := [
  (0, 3, mdX6_isWithin, 7, 0, [94, 34, 35]),
  (0, 39, mdX0_distanceFrom, 1, 1, [542, 14, 521, 519, 520]),
  (0, 43, mdX6_isWithin, 9, 2, [543, 544, 27, 545]),
  (0, 49, mdX0_isSickOn, 1, 1, [564, 14, 491, 489, 490]),
  (1, 3, mdX6_isWithin, 7, 0, [244, 34, 35]),
  (2, 3, mdX6_isWithin, 7, 0, [50, 34, 35]),
  (3, 3, mdX6_isWithin, 7, 0, [220, 34, 35]),
  (3, 18, mdX3_collectPlaces, 1, 2, [680, 16, 683, 682, 7]),
  (3, 23, mdJ7_fill_53178, 0, 2, [686, 26, 498, 497]),
  (3, 40, mdX6_isIn, 3, 2, [11, 501, 500]),
  (3, 48, mdX3_addGuardToWays, 1, 1, [688, 16, 691, 690, 8]),
  (3, 52, mdX3_choose, 1, 0, [694, 16, 697, 696, 9])]
def mR_1 : List (Nat × Nat × MD × Nat × Nat × List Nat) := [
  (3, 61, mdX4_lacksGuard, 1, 1, [684, 15, 509, 507, 508]),
  (3, 74, mdX0_distanceFrom, 1, 1, [692, 14, 521, 519, 520]),
  (3, 83, mdX6_isWithin, 9, 2, [693, 544, 27, 545]),
  (3, 95, mdJ6_bitCount_0f7a4, 0, 1, [698, 25, 548, 547]),
  (4, 3, mdX6_isWithin, 7, 0, [188, 34, 35]),
  (4, 18, mdX5_neededPosts, 1, 2, [476, 12, 479, 477, 478]),
  (4, 24, mdX5_wellGuards, 1, 1, [484, 12, 487, 485, 486]),
  (4, 28, mdX4_drawOwn, 1, 3, [492, 15, 495, 493, 494]),
  (4, 40, mdX4_lacksGuard, 1, 1, [506, 15, 509, 507, 508]),
  (4, 47, mdX2_hasPriority, 1, 1, [510, 13, 513, 511, 512]),
  (4, 55, mdX4_nearest, 1, 2, [514, 15, 517, 516, 3]),
  (4, 59, mdX4_placeOrLeaveOpen, 1, 2, [522, 15, 525, 524, 4])]
def mR_2 : List (Nat × Nat × MD × Nat × Nat × List Nat) := [
  (4, 63, mdJ7_fill_53178, 0, 2, [496, 26, 498, 497]),
  (4, 91, mdX6_isIn, 3, 2, [11, 501, 500]),
  (4, 95, mdX4_place, 1, 2, [502, 15, 505, 504, 2]),
  (4, 97, mdX4_reasonNow, 1, 0, [526, 15, 529, 528, 5]),
  (4, 101, mdX0_distanceFrom, 1, 1, [518, 14, 521, 519, 520]),
  (5, 3, mdX6_isWithin, 7, 0, [41, 34, 35]),
  (5, 30, mdX2_init, 4, 0, [13, 49, 48]),
  (5, 31, mdX0_init, 4, 0, [14, 93, 92]),
  (5, 51, mdX6_isWithin, 8, 5, [391, 393, 392, 23]),
  (5, 57, mdX2_copyFrom, 1, 1, [394, 13, 397, 395, 396]),
  (5, 61, mdX0_copyFrom, 1, 1, [398, 14, 401, 399, 400]),
  (5, 64, mdX6_isWithin, 3, 3, [11, 298, 297])]
def mR_3 : List (Nat × Nat × MD × Nat × Nat × List Nat) := [
  (5, 68, mdX2_begin, 1, 2, [406, 13, 409, 407, 408]),
  (5, 72, mdX0_begin, 1, 3, [446, 14, 449, 447, 448]),
  (5, 78, mdX5_nextDay, 1, 0, [459, 12, 462, 460, 461]),
  (5, 85, mdX2_allowsComplaint, 1, 1, [749, 13, 752, 750, 751]),
  (5, 89, mdX2_fileComplaint, 1, 1, [758, 13, 761, 759, 760]),
  (5, 96, mdX5_isSchoolDay, 1, 1, [480, 12, 483, 481, 482]),
  (5, 102, mdX0_isSickOn, 1, 1, [488, 14, 491, 489, 490]),
  (5, 105, mdX4_draw, 1, 3, [472, 15, 475, 473, 474]),
  (5, 117, mdX2_note, 1, 3, [530, 13, 533, 531, 532]),
  (5, 120, mdX5_hasGuard, 1, 1, [534, 12, 537, 535, 536]),
  (5, 126, mdX0_standAt, 1, 2, [538, 14, 541, 539, 540]),
  (5, 132, mdJ6_bitCount_0f7a4, 0, 1, [546, 25, 548, 547])]
def mR_4 : List (Nat × Nat × MD × Nat × Nat × List Nat) := [
  (5, 141, mdX5_takeNext, 1, 1, [468, 12, 471, 469, 470]),
  (5, 151, mdX5_ownerOf, 1, 1, [628, 12, 440, 438, 439]),
  (5, 157, mdX2_hasPriority, 1, 1, [629, 13, 513, 511, 512]),
  (5, 166, mdX5_timesOpen, 1, 0, [573, 12, 576, 574, 575]),
  (5, 168, mdX5_complaints, 1, 0, [577, 12, 580, 578, 579]),
  (5, 170, mdX5_earnings, 1, 0, [581, 12, 584, 582, 583]),
  (5, 172, mdX5_wellGuards, 1, 1, [585, 12, 487, 485, 486]),
  (6, 3, mdX6_isWithin, 7, 0, [33, 34, 35]),
  (6, 11, mdX5_init, 2, 0, [38, 12, 40, 39]),
  (6, 25, mdX4_init, 4, 0, [15, 187, 186]),
  (6, 32, mdX3_init, 4, 0, [16, 219, 218]),
  (6, 39, mdX1_init, 4, 0, [17, 243, 242])]
def mR_5 : List (Nat × Nat × MD × Nat × Nat × List Nat) := [
  (6, 44, mdX6_isDay, 0, 1, [590, 11, 592, 591]),
  (6, 48, mdX6_isWithin, 0, 3, [296, 11, 298, 297]),
  (6, 68, mdX6_save, 1, 0, [383, 11, 386, 385, 1]),
  (6, 71, mdX5_newHoliday, 1, 2, [719, 12, 722, 720, 721]),
  (6, 75, mdX6_isPlace, 0, 1, [293, 11, 295, 294]),
  (6, 85, mdX5_newPost, 1, 2, [402, 12, 405, 403, 404]),
  (6, 88, mdX5_hasPost, 1, 1, [414, 12, 417, 415, 416]),
  (6, 114, mdX5_ownerOf, 1, 1, [437, 12, 440, 438, 439]),
  (6, 120, mdX5_newGuard, 1, 3, [442, 12, 445, 443, 444]),
  (6, 124, mdX5_hasGuard, 1, 1, [556, 12, 537, 535, 536]),
  (6, 142, mdX5_reportSick, 1, 2, [737, 12, 740, 738, 739]),
  (6, 145, mdX5_allowsComplaint, 1, 1, [745, 12, 748, 746, 747])]
def mR_6 : List (Nat × Nat × MD × Nat × Nat × List Nat) := [
  (6, 150, mdX5_fileComplaint, 1, 1, [754, 12, 757, 755, 756]),
  (6, 153, mdX5_nextDay, 1, 0, [559, 12, 462, 460, 461]),
  (6, 159, mdX5_takeNext, 1, 1, [605, 12, 471, 469, 470]),
  (6, 163, mdX5_allowsDays, 1, 1, [455, 12, 458, 456, 457]),
  (6, 168, mdX5_takeDays, 1, 2, [464, 12, 467, 465, 466]),
  (6, 174, mdX5_aboutPost, 1, 2, [624, 12, 627, 625, 626]),
  (6, 177, mdX0_about, 1, 2, [560, 14, 563, 561, 562]),
  (6, 180, mdX5_about, 1, 1, [569, 12, 572, 570, 571]),
  (6, 191, mdX6_isSession, 0, 1, [656, 11, 658, 657]),
  (6, 196, mdX5_neededPosts, 1, 2, [660, 12, 479, 477, 478]),
  (6, 199, mdX4_draw, 1, 3, [599, 15, 475, 473, 474]),
  (6, 211, mdX5_wellGuards, 1, 1, [674, 12, 487, 485, 486])]
def mR_7 : List (Nat × Nat × MD × Nat × Nat × List Nat) := [
  (6, 214, mdX4_drawOwn, 1, 3, [675, 15, 495, 493, 494]),
  (6, 217, mdX3_find, 1, 2, [676, 16, 679, 677, 678]),
  (6, 229, mdX0_isSickOn, 1, 1, [594, 14, 491, 489, 490]),
  (6, 232, mdX5_copyFrom, 1, 1, [387, 12, 390, 388, 389]),
  (6, 239, mdX6_openOnDay, 1, 2, [595, 11, 598, 597, 6]),
  (6, 252, mdX5_timesOpen, 1, 0, [648, 12, 576, 574, 575]),
  (6, 285, mdX6_mixed, 0, 2, [620, 11, 622, 621]),
  (6, 291, mdJ6_bitCount_0f7a4, 0, 1, [600, 25, 548, 547]),
  (8, 8, mdX6_value, 5, 1, [565, 11, 568, 566, 567]),
  (8, 14, mdX6_post, 5, 2, [640, 11, 643, 641, 642]),
  (8, 18, mdX6_guard, 5, 2, [552, 11, 555, 553, 554]),
  (8, 21, mdX6_filled, 1, 0, [644, 11, 647, 645, 646])]
def mR_8 : List (Nat × Nat × MD × Nat × Nat × List Nat) := [
  (8, 25, mdX6_needed, 5, 2, [652, 11, 655, 653, 654]),
  (8, 28, mdX6_open, 5, 2, [661, 11, 664, 662, 663]),
  (8, 31, mdX6_standing, 5, 3, [665, 11, 668, 666, 667]),
  (8, 35, mdX6_best, 5, 3, [669, 11, 672, 670, 671]),
  (8, 38, mdL_many, 0, 1, [699, 10, 701, 700]),
  (8, 43, mdX6_step, 5, 0, [705, 11, 708, 706, 707]),
  (8, 47, mdL_low, 0, 2, [633, 10, 635, 634]),
  (8, 50, mdX6_addPost, 5, 2, [289, 11, 292, 290, 291]),
  (8, 53, mdX6_addGuard, 5, 3, [410, 11, 413, 411, 412]),
  (8, 56, mdX6_addHoliday, 5, 2, [713, 11, 716, 714, 715]),
  (8, 59, mdX6_setNeeds, 5, 2, [723, 11, 726, 724, 725]),
  (8, 62, mdX6_setPost, 5, 2, [728, 11, 731, 729, 730])]
def mR_9 : List (Nat × Nat × MD × Nat × Nat × List Nat) := [
  (8, 65, mdX6_sick, 5, 2, [733, 11, 736, 734, 735]),
  (8, 68, mdX6_complain, 5, 1, [741, 11, 744, 742, 743]),
  (8, 71, mdX6_pass, 5, 1, [450, 11, 453, 451, 452]),
  (8, 74, mdX6_init, 2, 0, [30, 11, 32, 31]),
  (8, 75, mdL_cell, 0, 2, [630, 10, 632, 631]),
  (8, 79, mdX6_digest, 1, 0, [615, 11, 618, 616, 617]),
  (8, 83, mdL_act, 0, 3, [710, 10, 712, 711]),
  (8, 87, mdX6_undo, 5, 0, [610, 11, 613, 611, 612]),
  (8, 90, mdL_addsUp, 0, 1, [637, 10, 639, 638]),
  (8, 94, mdL_isLooked, 0, 3, [649, 10, 651, 650]),
  (8, 98, mdX6_missed, 5, 2, [586, 11, 589, 587, 588]),
  (8, 101, mdX6_bestHome, 5, 1, [606, 11, 609, 607, 608])]
def mR_10 : List (Nat × Nat × MD × Nat × Nat × List Nat) := [
  (8, 104, mdL_isStepped, 0, 1, [702, 10, 704, 703]),
  (8, 107, mdX6_daysToOpen, 1, 0, [601, 11, 604, 602, 603])]
def mRT : List (Nat × Nat × MD × Nat × Nat × List Nat) := mR_0 ++ (mR_1 ++ (mR_2 ++ (mR_3 ++ (mR_4 ++ (mR_5 ++ (mR_6 ++ (mR_7 ++ (mR_8 ++ (mR_9 ++ (mR_10))))))))))
def mRes (c i : Nat) : Option (MD × Nat × Nat) := (mRT.find? (fun q => q.1 == c && q.2.1 == i)).map (fun q => (q.2.2.1, q.2.2.2.1, q.2.2.2.2.1))
/-- classes that are made: class, entry, the class; arrays of references: class, entry, kind -/
def nRT : List (Nat × Nat × Nat × List Nat) := [(5, 18, 2, [42, 46, 13]), (5, 24, 0, [44, 90, 14]), (6, 9, 5, [36, 37, 12]), (6, 23, 4, [183, 184, 15]), (6, 30, 3, [215, 216, 16]), (6, 37, 1, [239, 240, 17]), (8, 9, 6, [28, 29, 11])]
def nRes (c i : Nat) : Option Nat := (nRT.find? (fun q => q.1 == c && q.2.1 == i)).map (fun q => q.2.2.1)
def qRT : List (Nat × Nat × Nat × Nat) := [(5, 18, 10, 42), (5, 24, 9, 44), (6, 9, 11, 36)]
def qRes (c i : Nat) : Option Nat := (qRT.find? (fun q => q.1 == c && q.2.1 == i)).map (fun q => q.2.2.1)
/-- constants -/
def iRT : List (Nat × Nat × Int32 × Nat) := [(3, 22, 1000000, 685), (8, 7, 2147483647, 636), (10, 265, 1431655765, 549), (10, 266, 858993459, 550), (10, 267, 252645135, 551)]
def iRes (c i : Nat) : Option Int32 := (iRT.find? (fun q => q.1 == c && q.2.1 == i)).map (fun q => q.2.2.1)
def lRT : List (Nat × Nat × Int64 × Nat) := [(6, 283, 3617, 619), (6, 289, 31, 623)]
def lRes (c i : Nat) : Option Int64 := (lRT.find? (fun q => q.1 == c && q.2.1 == i)).map (fun q => q.2.2.1)
/-- the three exceptions: entry of the class in CrossingPosts, of its constructor, its name; the class's entry in the law; the texts -/
def xRT : List (Nat × Nat × String × Nat) := [(52, 56, "java/lang/IllegalArgumentException", 299), (63, 67, "java/lang/IllegalStateException", 367), (91, 95, "java/lang/IndexOutOfBoundsException", 419)]
def eRT : List (Nat × String × Nat) := []
def sRT : List (Nat × String) := [(54, "a day is out of range"), (65, "there are 6 holidays"), (78, "place or needs are out of range"), (83, "there are 8 posts"), (93, "there is no such post"), (96, "needs are out of range"), (107, "home or reach is out of range"), (112, "there are 10 guards"), (118, "the post is another guard's own"), (127, "there is no such guard or post"), (138, "there is no such guard"), (140, "days are out of range"), (148, "there can be no complaint about the post"), (157, "the day is above 3000"), (166, "a day would be above 3000"), (172, "what is out of range"), (194, "day or session is out of range"), (209, "day, session or what is out of range"), (227, "day is out of range"), (281, "there is no saved state")]
def xRes (ik ic : Nat) : Option String := (xRT.find? (fun q => q.1 == ik && q.2.1 == ic)).map (fun q => q.2.2.1)
def eRes (j : Nat) : Option String := (eRT.find? (fun q => q.1 == j)).map (fun q => q.2.1)
def nestL : List (String × Nat × MethodName) := [(ow 3, 40, yX6_isIn), (ow 4, 91, yX6_isIn), (ow 5, 30, yX2_init), (ow 5, 31, yX0_init), (ow 5, 64, yX6_isWithin), (ow 6, 25, yX4_init), (ow 6, 32, yX3_init), (ow 6, 39, yX1_init)]
