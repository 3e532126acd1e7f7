section
variable {L : Nat} {xs : Nat → Int32}
theorem mr_0_3 : mRes 0 3 = some (mdX6_isWithin, 7, 0) := rfl
theorem mr_0_39 : mRes 0 39 = some (mdX0_distanceFrom, 1, 1) := rfl
theorem mr_0_43 : mRes 0 43 = some (mdX6_isWithin, 9, 2) := rfl
theorem mr_0_49 : mRes 0 49 = some (mdX0_isSickOn, 1, 1) := rfl
theorem mr_1_3 : mRes 1 3 = some (mdX6_isWithin, 7, 0) := rfl
theorem mr_2_3 : mRes 2 3 = some (mdX6_isWithin, 7, 0) := rfl
theorem mr_3_3 : mRes 3 3 = some (mdX6_isWithin, 7, 0) := rfl
theorem mr_3_18 : mRes 3 18 = some (mdX3_collectPlaces, 1, 2) := rfl
theorem mr_3_23 : mRes 3 23 = some (mdJ7_fill_53178, 0, 2) := rfl
theorem mr_3_40 : mRes 3 40 = some (mdX6_isIn, 3, 2) := rfl
theorem mr_3_48 : mRes 3 48 = some (mdX3_addGuardToWays, 1, 1) := rfl
theorem mr_3_52 : mRes 3 52 = some (mdX3_choose, 1, 0) := rfl
theorem mr_3_61 : mRes 3 61 = some (mdX4_lacksGuard, 1, 1) := rfl
theorem mr_3_74 : mRes 3 74 = some (mdX0_distanceFrom, 1, 1) := rfl
theorem mr_3_83 : mRes 3 83 = some (mdX6_isWithin, 9, 2) := rfl
theorem mr_3_95 : mRes 3 95 = some (mdJ6_bitCount_0f7a4, 0, 1) := rfl
theorem mr_4_3 : mRes 4 3 = some (mdX6_isWithin, 7, 0) := rfl
theorem mr_4_18 : mRes 4 18 = some (mdX5_neededPosts, 1, 2) := rfl
theorem mr_4_24 : mRes 4 24 = some (mdX5_wellGuards, 1, 1) := rfl
theorem mr_4_28 : mRes 4 28 = some (mdX4_drawOwn, 1, 3) := rfl
theorem mr_4_40 : mRes 4 40 = some (mdX4_lacksGuard, 1, 1) := rfl
theorem mr_4_47 : mRes 4 47 = some (mdX2_hasPriority, 1, 1) := rfl
theorem mr_4_55 : mRes 4 55 = some (mdX4_nearest, 1, 2) := rfl
theorem mr_4_59 : mRes 4 59 = some (mdX4_placeOrLeaveOpen, 1, 2) := rfl
theorem mr_4_63 : mRes 4 63 = some (mdJ7_fill_53178, 0, 2) := rfl
theorem mr_4_91 : mRes 4 91 = some (mdX6_isIn, 3, 2) := rfl
theorem mr_4_95 : mRes 4 95 = some (mdX4_place, 1, 2) := rfl
theorem mr_4_97 : mRes 4 97 = some (mdX4_reasonNow, 1, 0) := rfl
theorem mr_4_101 : mRes 4 101 = some (mdX0_distanceFrom, 1, 1) := rfl
theorem mr_5_3 : mRes 5 3 = some (mdX6_isWithin, 7, 0) := rfl
theorem mr_5_30 : mRes 5 30 = some (mdX2_init, 4, 0) := rfl
theorem mr_5_31 : mRes 5 31 = some (mdX0_init, 4, 0) := rfl
theorem mr_5_51 : mRes 5 51 = some (mdX6_isWithin, 8, 5) := rfl
theorem mr_5_57 : mRes 5 57 = some (mdX2_copyFrom, 1, 1) := rfl
theorem mr_5_61 : mRes 5 61 = some (mdX0_copyFrom, 1, 1) := rfl
theorem mr_5_64 : mRes 5 64 = some (mdX6_isWithin, 3, 3) := rfl
theorem mr_5_68 : mRes 5 68 = some (mdX2_begin, 1, 2) := rfl
theorem mr_5_72 : mRes 5 72 = some (mdX0_begin, 1, 3) := rfl
theorem mr_5_78 : mRes 5 78 = some (mdX5_nextDay, 1, 0) := rfl
theorem mr_5_85 : mRes 5 85 = some (mdX2_allowsComplaint, 1, 1) := rfl
theorem mr_5_89 : mRes 5 89 = some (mdX2_fileComplaint, 1, 1) := rfl
theorem mr_5_96 : mRes 5 96 = some (mdX5_isSchoolDay, 1, 1) := rfl
theorem mr_5_102 : mRes 5 102 = some (mdX0_isSickOn, 1, 1) := rfl
theorem mr_5_105 : mRes 5 105 = some (mdX4_draw, 1, 3) := rfl
theorem mr_5_117 : mRes 5 117 = some (mdX2_note, 1, 3) := rfl
theorem mr_5_120 : mRes 5 120 = some (mdX5_hasGuard, 1, 1) := rfl
theorem mr_5_126 : mRes 5 126 = some (mdX0_standAt, 1, 2) := rfl
theorem mr_5_132 : mRes 5 132 = some (mdJ6_bitCount_0f7a4, 0, 1) := rfl
theorem mr_5_141 : mRes 5 141 = some (mdX5_takeNext, 1, 1) := rfl
theorem mr_5_151 : mRes 5 151 = some (mdX5_ownerOf, 1, 1) := rfl
theorem mr_5_157 : mRes 5 157 = some (mdX2_hasPriority, 1, 1) := rfl
theorem mr_5_166 : mRes 5 166 = some (mdX5_timesOpen, 1, 0) := rfl
theorem mr_5_168 : mRes 5 168 = some (mdX5_complaints, 1, 0) := rfl
theorem mr_5_170 : mRes 5 170 = some (mdX5_earnings, 1, 0) := rfl
theorem mr_5_172 : mRes 5 172 = some (mdX5_wellGuards, 1, 1) := rfl
theorem mr_6_3 : mRes 6 3 = some (mdX6_isWithin, 7, 0) := rfl
theorem mr_6_11 : mRes 6 11 = some (mdX5_init, 2, 0) := rfl
theorem mr_6_25 : mRes 6 25 = some (mdX4_init, 4, 0) := rfl
theorem mr_6_32 : mRes 6 32 = some (mdX3_init, 4, 0) := rfl
theorem mr_6_39 : mRes 6 39 = some (mdX1_init, 4, 0) := rfl
theorem mr_6_44 : mRes 6 44 = some (mdX6_isDay, 0, 1) := rfl
theorem mr_6_48 : mRes 6 48 = some (mdX6_isWithin, 0, 3) := rfl
theorem mr_6_68 : mRes 6 68 = some (mdX6_save, 1, 0) := rfl
theorem mr_6_71 : mRes 6 71 = some (mdX5_newHoliday, 1, 2) := rfl
theorem mr_6_75 : mRes 6 75 = some (mdX6_isPlace, 0, 1) := rfl
theorem mr_6_85 : mRes 6 85 = some (mdX5_newPost, 1, 2) := rfl
theorem mr_6_88 : mRes 6 88 = some (mdX5_hasPost, 1, 1) := rfl
theorem mr_6_114 : mRes 6 114 = some (mdX5_ownerOf, 1, 1) := rfl
theorem mr_6_120 : mRes 6 120 = some (mdX5_newGuard, 1, 3) := rfl
theorem mr_6_124 : mRes 6 124 = some (mdX5_hasGuard, 1, 1) := rfl
theorem mr_6_142 : mRes 6 142 = some (mdX5_reportSick, 1, 2) := rfl
theorem mr_6_145 : mRes 6 145 = some (mdX5_allowsComplaint, 1, 1) := rfl
theorem mr_6_150 : mRes 6 150 = some (mdX5_fileComplaint, 1, 1) := rfl
theorem mr_6_153 : mRes 6 153 = some (mdX5_nextDay, 1, 0) := rfl
theorem mr_6_159 : mRes 6 159 = some (mdX5_takeNext, 1, 1) := rfl
theorem mr_6_163 : mRes 6 163 = some (mdX5_allowsDays, 1, 1) := rfl
theorem mr_6_168 : mRes 6 168 = some (mdX5_takeDays, 1, 2) := rfl
theorem mr_6_174 : mRes 6 174 = some (mdX5_aboutPost, 1, 2) := rfl
theorem mr_6_177 : mRes 6 177 = some (mdX0_about, 1, 2) := rfl
theorem mr_6_180 : mRes 6 180 = some (mdX5_about, 1, 1) := rfl
theorem mr_6_191 : mRes 6 191 = some (mdX6_isSession, 0, 1) := rfl
theorem mr_6_196 : mRes 6 196 = some (mdX5_neededPosts, 1, 2) := rfl
theorem mr_6_199 : mRes 6 199 = some (mdX4_draw, 1, 3) := rfl
theorem mr_6_211 : mRes 6 211 = some (mdX5_wellGuards, 1, 1) := rfl
theorem mr_6_214 : mRes 6 214 = some (mdX4_drawOwn, 1, 3) := rfl
theorem mr_6_217 : mRes 6 217 = some (mdX3_find, 1, 2) := rfl
theorem mr_6_229 : mRes 6 229 = some (mdX0_isSickOn, 1, 1) := rfl
theorem mr_6_232 : mRes 6 232 = some (mdX5_copyFrom, 1, 1) := rfl
theorem mr_6_239 : mRes 6 239 = some (mdX6_openOnDay, 1, 2) := rfl
theorem mr_6_252 : mRes 6 252 = some (mdX5_timesOpen, 1, 0) := rfl
theorem mr_6_285 : mRes 6 285 = some (mdX6_mixed, 0, 2) := rfl
theorem mr_6_291 : mRes 6 291 = some (mdJ6_bitCount_0f7a4, 0, 1) := rfl
theorem mr_8_8 : mRes 8 8 = some (mdX6_value, 5, 1) := rfl
theorem mr_8_14 : mRes 8 14 = some (mdX6_post, 5, 2) := rfl
theorem mr_8_18 : mRes 8 18 = some (mdX6_guard, 5, 2) := rfl
theorem mr_8_21 : mRes 8 21 = some (mdX6_filled, 1, 0) := rfl
theorem mr_8_25 : mRes 8 25 = some (mdX6_needed, 5, 2) := rfl
theorem mr_8_28 : mRes 8 28 = some (mdX6_open, 5, 2) := rfl
theorem mr_8_31 : mRes 8 31 = some (mdX6_standing, 5, 3) := rfl
theorem mr_8_35 : mRes 8 35 = some (mdX6_best, 5, 3) := rfl
theorem mr_8_38 : mRes 8 38 = some (mdL_many, 0, 1) := rfl
theorem mr_8_43 : mRes 8 43 = some (mdX6_step, 5, 0) := rfl
theorem mr_8_47 : mRes 8 47 = some (mdL_low, 0, 2) := rfl
theorem mr_8_50 : mRes 8 50 = some (mdX6_addPost, 5, 2) := rfl
theorem mr_8_53 : mRes 8 53 = some (mdX6_addGuard, 5, 3) := rfl
theorem mr_8_56 : mRes 8 56 = some (mdX6_addHoliday, 5, 2) := rfl
theorem mr_8_59 : mRes 8 59 = some (mdX6_setNeeds, 5, 2) := rfl
theorem mr_8_62 : mRes 8 62 = some (mdX6_setPost, 5, 2) := rfl
theorem mr_8_65 : mRes 8 65 = some (mdX6_sick, 5, 2) := rfl
theorem mr_8_68 : mRes 8 68 = some (mdX6_complain, 5, 1) := rfl
theorem mr_8_71 : mRes 8 71 = some (mdX6_pass, 5, 1) := rfl
theorem mr_8_74 : mRes 8 74 = some (mdX6_init, 2, 0) := rfl
theorem mr_8_75 : mRes 8 75 = some (mdL_cell, 0, 2) := rfl
theorem mr_8_79 : mRes 8 79 = some (mdX6_digest, 1, 0) := rfl
theorem mr_8_83 : mRes 8 83 = some (mdL_act, 0, 3) := rfl
theorem mr_8_87 : mRes 8 87 = some (mdX6_undo, 5, 0) := rfl
theorem mr_8_90 : mRes 8 90 = some (mdL_addsUp, 0, 1) := rfl
theorem mr_8_94 : mRes 8 94 = some (mdL_isLooked, 0, 3) := rfl
theorem mr_8_98 : mRes 8 98 = some (mdX6_missed, 5, 2) := rfl
theorem mr_8_101 : mRes 8 101 = some (mdX6_bestHome, 5, 1) := rfl
theorem mr_8_104 : mRes 8 104 = some (mdL_isStepped, 0, 1) := rfl
theorem mr_8_107 : mRes 8 107 = some (mdX6_daysToOpen, 1, 0) := rfl
theorem dJ6_bitCount_0f7a4_0 : decode cJ6_bitCount_0f7a4 0 = .ok (.iload_n 0, 1) := by decide +kernel
theorem dJ6_bitCount_0f7a4_1 : decode cJ6_bitCount_0f7a4 1 = .ok (.iload_n 0, 1) := by decide +kernel
theorem dJ6_bitCount_0f7a4_2 : decode cJ6_bitCount_0f7a4 2 = .ok (.iconst 1, 1) := by decide +kernel
theorem dJ6_bitCount_0f7a4_3 : decode cJ6_bitCount_0f7a4 3 = .ok (.iushr, 1) := by decide +kernel
theorem dJ6_bitCount_0f7a4_4 : decode cJ6_bitCount_0f7a4 4 = .ok (.ldc_w 265, 3) := by decide +kernel
theorem dJ6_bitCount_0f7a4_7 : decode cJ6_bitCount_0f7a4 7 = .ok (.iand, 1) := by decide +kernel
theorem dJ6_bitCount_0f7a4_8 : decode cJ6_bitCount_0f7a4 8 = .ok (.isub, 1) := by decide +kernel
theorem dJ6_bitCount_0f7a4_9 : decode cJ6_bitCount_0f7a4 9 = .ok (.istore_n 0, 1) := by decide +kernel
theorem dJ6_bitCount_0f7a4_10 : decode cJ6_bitCount_0f7a4 10 = .ok (.iload_n 0, 1) := by decide +kernel
theorem dJ6_bitCount_0f7a4_11 : decode cJ6_bitCount_0f7a4 11 = .ok (.ldc_w 266, 3) := by decide +kernel
theorem dJ6_bitCount_0f7a4_14 : decode cJ6_bitCount_0f7a4 14 = .ok (.iand, 1) := by decide +kernel
theorem dJ6_bitCount_0f7a4_15 : decode cJ6_bitCount_0f7a4 15 = .ok (.iload_n 0, 1) := by decide +kernel
theorem dJ6_bitCount_0f7a4_16 : decode cJ6_bitCount_0f7a4 16 = .ok (.iconst 2, 1) := by decide +kernel
theorem dJ6_bitCount_0f7a4_17 : decode cJ6_bitCount_0f7a4 17 = .ok (.iushr, 1) := by decide +kernel
theorem dJ6_bitCount_0f7a4_18 : decode cJ6_bitCount_0f7a4 18 = .ok (.ldc_w 266, 3) := by decide +kernel
theorem dJ6_bitCount_0f7a4_21 : decode cJ6_bitCount_0f7a4 21 = .ok (.iand, 1) := by decide +kernel
theorem dJ6_bitCount_0f7a4_22 : decode cJ6_bitCount_0f7a4 22 = .ok (.iadd, 1) := by decide +kernel
theorem dJ6_bitCount_0f7a4_23 : decode cJ6_bitCount_0f7a4 23 = .ok (.istore_n 0, 1) := by decide +kernel
theorem dJ6_bitCount_0f7a4_24 : decode cJ6_bitCount_0f7a4 24 = .ok (.iload_n 0, 1) := by decide +kernel
theorem dJ6_bitCount_0f7a4_25 : decode cJ6_bitCount_0f7a4 25 = .ok (.iload_n 0, 1) := by decide +kernel
theorem dJ6_bitCount_0f7a4_26 : decode cJ6_bitCount_0f7a4 26 = .ok (.iconst 4, 1) := by decide +kernel
theorem dJ6_bitCount_0f7a4_27 : decode cJ6_bitCount_0f7a4 27 = .ok (.iushr, 1) := by decide +kernel
theorem dJ6_bitCount_0f7a4_28 : decode cJ6_bitCount_0f7a4 28 = .ok (.iadd, 1) := by decide +kernel
theorem dJ6_bitCount_0f7a4_29 : decode cJ6_bitCount_0f7a4 29 = .ok (.ldc_w 267, 3) := by decide +kernel
theorem dJ6_bitCount_0f7a4_32 : decode cJ6_bitCount_0f7a4 32 = .ok (.iand, 1) := by decide +kernel
theorem dJ6_bitCount_0f7a4_33 : decode cJ6_bitCount_0f7a4 33 = .ok (.istore_n 0, 1) := by decide +kernel
theorem dJ6_bitCount_0f7a4_34 : decode cJ6_bitCount_0f7a4 34 = .ok (.iload_n 0, 1) := by decide +kernel
theorem dJ6_bitCount_0f7a4_35 : decode cJ6_bitCount_0f7a4 35 = .ok (.iload_n 0, 1) := by decide +kernel
theorem dJ6_bitCount_0f7a4_36 : decode cJ6_bitCount_0f7a4 36 = .ok (.bipush 8, 2) := by decide +kernel
theorem dJ6_bitCount_0f7a4_38 : decode cJ6_bitCount_0f7a4 38 = .ok (.iushr, 1) := by decide +kernel
theorem dJ6_bitCount_0f7a4_39 : decode cJ6_bitCount_0f7a4 39 = .ok (.iadd, 1) := by decide +kernel
theorem dJ6_bitCount_0f7a4_40 : decode cJ6_bitCount_0f7a4 40 = .ok (.istore_n 0, 1) := by decide +kernel
theorem dJ6_bitCount_0f7a4_41 : decode cJ6_bitCount_0f7a4 41 = .ok (.iload_n 0, 1) := by decide +kernel
theorem dJ6_bitCount_0f7a4_42 : decode cJ6_bitCount_0f7a4 42 = .ok (.iload_n 0, 1) := by decide +kernel
theorem dJ6_bitCount_0f7a4_43 : decode cJ6_bitCount_0f7a4 43 = .ok (.bipush 16, 2) := by decide +kernel
theorem dJ6_bitCount_0f7a4_45 : decode cJ6_bitCount_0f7a4 45 = .ok (.iushr, 1) := by decide +kernel
theorem dJ6_bitCount_0f7a4_46 : decode cJ6_bitCount_0f7a4 46 = .ok (.iadd, 1) := by decide +kernel
theorem dJ6_bitCount_0f7a4_47 : decode cJ6_bitCount_0f7a4 47 = .ok (.istore_n 0, 1) := by decide +kernel
theorem dJ6_bitCount_0f7a4_48 : decode cJ6_bitCount_0f7a4 48 = .ok (.iload_n 0, 1) := by decide +kernel
theorem dJ6_bitCount_0f7a4_49 : decode cJ6_bitCount_0f7a4 49 = .ok (.bipush 63, 2) := by decide +kernel
theorem dJ6_bitCount_0f7a4_51 : decode cJ6_bitCount_0f7a4 51 = .ok (.iand, 1) := by decide +kernel
theorem dJ6_bitCount_0f7a4_52 : decode cJ6_bitCount_0f7a4 52 = .ok (.ireturn, 1) := by decide +kernel
theorem iJ6_bitCount_0f7a4_0 {x : Int32} {Ls st : List Value} {h : AH} : ev L xs mdJ6_bitCount_0f7a4 0 (.int x :: Ls) (st) h = ev L xs mdJ6_bitCount_0f7a4 1 (.int x :: Ls) (.int x :: st) (h) := e_iload_n dJ6_bitCount_0f7a4_0 rfl
theorem iJ6_bitCount_0f7a4_1 {x : Int32} {Ls st : List Value} {h : AH} : ev L xs mdJ6_bitCount_0f7a4 1 (.int x :: Ls) (st) h = ev L xs mdJ6_bitCount_0f7a4 2 (.int x :: Ls) (.int x :: st) (h) := e_iload_n dJ6_bitCount_0f7a4_1 rfl
theorem iJ6_bitCount_0f7a4_2  {Ls st : List Value} {h : AH} : ev L xs mdJ6_bitCount_0f7a4 2 (Ls) (st) h = ev L xs mdJ6_bitCount_0f7a4 3 (Ls) (.int (nI 1) :: st) (h) := e_iconst dJ6_bitCount_0f7a4_2 (by decide)
theorem iJ6_bitCount_0f7a4_3 {x z : Int32} {Ls st : List Value} {h : AH} : ev L xs mdJ6_bitCount_0f7a4 3 (Ls) (.int z :: .int x :: st) h = ev L xs mdJ6_bitCount_0f7a4 4 (Ls) (.int ((x.toUInt32 >>> (z.toUInt32 &&& Int32.toUInt32 31)).toInt32) :: st) (h) := e_iushr dJ6_bitCount_0f7a4_3
theorem iJ6_bitCount_0f7a4_4  {Ls st : List Value} {h : AH} : ev L xs mdJ6_bitCount_0f7a4 4 (Ls) (st) h = ev L xs mdJ6_bitCount_0f7a4 7 (Ls) (.int (nI 1431655765) :: st) (h) := e_ldcw dJ6_bitCount_0f7a4_4 (by decide +kernel)
theorem iJ6_bitCount_0f7a4_7 {x z : Int32} {Ls st : List Value} {h : AH} : ev L xs mdJ6_bitCount_0f7a4 7 (Ls) (.int z :: .int x :: st) h = ev L xs mdJ6_bitCount_0f7a4 8 (Ls) (.int (x &&& z) :: st) (h) := e_iand dJ6_bitCount_0f7a4_7
theorem iJ6_bitCount_0f7a4_8 {x z : Int32} {Ls st : List Value} {h : AH} : ev L xs mdJ6_bitCount_0f7a4 8 (Ls) (.int z :: .int x :: st) h = ev L xs mdJ6_bitCount_0f7a4 9 (Ls) (.int (x - z) :: st) (h) := e_isub dJ6_bitCount_0f7a4_8
theorem iJ6_bitCount_0f7a4_9 {v0 : Value} {x : Int32} {Ls st : List Value} {h : AH} : ev L xs mdJ6_bitCount_0f7a4 9 (v0 :: Ls) (.int x :: st) h = ev L xs mdJ6_bitCount_0f7a4 10 (.int x :: Ls) (st) (h) := e_istore_n dJ6_bitCount_0f7a4_9 rfl (by decide) rfl
theorem iJ6_bitCount_0f7a4_10 {x : Int32} {Ls st : List Value} {h : AH} : ev L xs mdJ6_bitCount_0f7a4 10 (.int x :: Ls) (st) h = ev L xs mdJ6_bitCount_0f7a4 11 (.int x :: Ls) (.int x :: st) (h) := e_iload_n dJ6_bitCount_0f7a4_10 rfl
theorem iJ6_bitCount_0f7a4_11  {Ls st : List Value} {h : AH} : ev L xs mdJ6_bitCount_0f7a4 11 (Ls) (st) h = ev L xs mdJ6_bitCount_0f7a4 14 (Ls) (.int (nI 858993459) :: st) (h) := e_ldcw dJ6_bitCount_0f7a4_11 (by decide +kernel)
theorem iJ6_bitCount_0f7a4_14 {x z : Int32} {Ls st : List Value} {h : AH} : ev L xs mdJ6_bitCount_0f7a4 14 (Ls) (.int z :: .int x :: st) h = ev L xs mdJ6_bitCount_0f7a4 15 (Ls) (.int (x &&& z) :: st) (h) := e_iand dJ6_bitCount_0f7a4_14
theorem iJ6_bitCount_0f7a4_15 {x : Int32} {Ls st : List Value} {h : AH} : ev L xs mdJ6_bitCount_0f7a4 15 (.int x :: Ls) (st) h = ev L xs mdJ6_bitCount_0f7a4 16 (.int x :: Ls) (.int x :: st) (h) := e_iload_n dJ6_bitCount_0f7a4_15 rfl
theorem iJ6_bitCount_0f7a4_16  {Ls st : List Value} {h : AH} : ev L xs mdJ6_bitCount_0f7a4 16 (Ls) (st) h = ev L xs mdJ6_bitCount_0f7a4 17 (Ls) (.int (nI 2) :: st) (h) := e_iconst dJ6_bitCount_0f7a4_16 (by decide)
theorem iJ6_bitCount_0f7a4_17 {x z : Int32} {Ls st : List Value} {h : AH} : ev L xs mdJ6_bitCount_0f7a4 17 (Ls) (.int z :: .int x :: st) h = ev L xs mdJ6_bitCount_0f7a4 18 (Ls) (.int ((x.toUInt32 >>> (z.toUInt32 &&& Int32.toUInt32 31)).toInt32) :: st) (h) := e_iushr dJ6_bitCount_0f7a4_17
theorem iJ6_bitCount_0f7a4_18  {Ls st : List Value} {h : AH} : ev L xs mdJ6_bitCount_0f7a4 18 (Ls) (st) h = ev L xs mdJ6_bitCount_0f7a4 21 (Ls) (.int (nI 858993459) :: st) (h) := e_ldcw dJ6_bitCount_0f7a4_18 (by decide +kernel)
theorem iJ6_bitCount_0f7a4_21 {x z : Int32} {Ls st : List Value} {h : AH} : ev L xs mdJ6_bitCount_0f7a4 21 (Ls) (.int z :: .int x :: st) h = ev L xs mdJ6_bitCount_0f7a4 22 (Ls) (.int (x &&& z) :: st) (h) := e_iand dJ6_bitCount_0f7a4_21
theorem iJ6_bitCount_0f7a4_22 {x z : Int32} {Ls st : List Value} {h : AH} : ev L xs mdJ6_bitCount_0f7a4 22 (Ls) (.int z :: .int x :: st) h = ev L xs mdJ6_bitCount_0f7a4 23 (Ls) (.int (x + z) :: st) (h) := e_iadd dJ6_bitCount_0f7a4_22
theorem iJ6_bitCount_0f7a4_23 {v0 : Value} {x : Int32} {Ls st : List Value} {h : AH} : ev L xs mdJ6_bitCount_0f7a4 23 (v0 :: Ls) (.int x :: st) h = ev L xs mdJ6_bitCount_0f7a4 24 (.int x :: Ls) (st) (h) := e_istore_n dJ6_bitCount_0f7a4_23 rfl (by decide) rfl
theorem iJ6_bitCount_0f7a4_24 {x : Int32} {Ls st : List Value} {h : AH} : ev L xs mdJ6_bitCount_0f7a4 24 (.int x :: Ls) (st) h = ev L xs mdJ6_bitCount_0f7a4 25 (.int x :: Ls) (.int x :: st) (h) := e_iload_n dJ6_bitCount_0f7a4_24 rfl
theorem iJ6_bitCount_0f7a4_25 {x : Int32} {Ls st : List Value} {h : AH} : ev L xs mdJ6_bitCount_0f7a4 25 (.int x :: Ls) (st) h = ev L xs mdJ6_bitCount_0f7a4 26 (.int x :: Ls) (.int x :: st) (h) := e_iload_n dJ6_bitCount_0f7a4_25 rfl
theorem iJ6_bitCount_0f7a4_26  {Ls st : List Value} {h : AH} : ev L xs mdJ6_bitCount_0f7a4 26 (Ls) (st) h = ev L xs mdJ6_bitCount_0f7a4 27 (Ls) (.int (nI 4) :: st) (h) := e_iconst dJ6_bitCount_0f7a4_26 (by decide)
theorem iJ6_bitCount_0f7a4_27 {x z : Int32} {Ls st : List Value} {h : AH} : ev L xs mdJ6_bitCount_0f7a4 27 (Ls) (.int z :: .int x :: st) h = ev L xs mdJ6_bitCount_0f7a4 28 (Ls) (.int ((x.toUInt32 >>> (z.toUInt32 &&& Int32.toUInt32 31)).toInt32) :: st) (h) := e_iushr dJ6_bitCount_0f7a4_27
theorem iJ6_bitCount_0f7a4_28 {x z : Int32} {Ls st : List Value} {h : AH} : ev L xs mdJ6_bitCount_0f7a4 28 (Ls) (.int z :: .int x :: st) h = ev L xs mdJ6_bitCount_0f7a4 29 (Ls) (.int (x + z) :: st) (h) := e_iadd dJ6_bitCount_0f7a4_28
theorem iJ6_bitCount_0f7a4_29  {Ls st : List Value} {h : AH} : ev L xs mdJ6_bitCount_0f7a4 29 (Ls) (st) h = ev L xs mdJ6_bitCount_0f7a4 32 (Ls) (.int (nI 252645135) :: st) (h) := e_ldcw dJ6_bitCount_0f7a4_29 (by decide +kernel)
theorem iJ6_bitCount_0f7a4_32 {x z : Int32} {Ls st : List Value} {h : AH} : ev L xs mdJ6_bitCount_0f7a4 32 (Ls) (.int z :: .int x :: st) h = ev L xs mdJ6_bitCount_0f7a4 33 (Ls) (.int (x &&& z) :: st) (h) := e_iand dJ6_bitCount_0f7a4_32
theorem iJ6_bitCount_0f7a4_33 {v0 : Value} {x : Int32} {Ls st : List Value} {h : AH} : ev L xs mdJ6_bitCount_0f7a4 33 (v0 :: Ls) (.int x :: st) h = ev L xs mdJ6_bitCount_0f7a4 34 (.int x :: Ls) (st) (h) := e_istore_n dJ6_bitCount_0f7a4_33 rfl (by decide) rfl
theorem iJ6_bitCount_0f7a4_34 {x : Int32} {Ls st : List Value} {h : AH} : ev L xs mdJ6_bitCount_0f7a4 34 (.int x :: Ls) (st) h = ev L xs mdJ6_bitCount_0f7a4 35 (.int x :: Ls) (.int x :: st) (h) := e_iload_n dJ6_bitCount_0f7a4_34 rfl
theorem iJ6_bitCount_0f7a4_35 {x : Int32} {Ls st : List Value} {h : AH} : ev L xs mdJ6_bitCount_0f7a4 35 (.int x :: Ls) (st) h = ev L xs mdJ6_bitCount_0f7a4 36 (.int x :: Ls) (.int x :: st) (h) := e_iload_n dJ6_bitCount_0f7a4_35 rfl
theorem iJ6_bitCount_0f7a4_36  {Ls st : List Value} {h : AH} : ev L xs mdJ6_bitCount_0f7a4 36 (Ls) (st) h = ev L xs mdJ6_bitCount_0f7a4 38 (Ls) (.int (nI 8) :: st) (h) := e_bipush dJ6_bitCount_0f7a4_36 (by decide)
theorem iJ6_bitCount_0f7a4_38 {x z : Int32} {Ls st : List Value} {h : AH} : ev L xs mdJ6_bitCount_0f7a4 38 (Ls) (.int z :: .int x :: st) h = ev L xs mdJ6_bitCount_0f7a4 39 (Ls) (.int ((x.toUInt32 >>> (z.toUInt32 &&& Int32.toUInt32 31)).toInt32) :: st) (h) := e_iushr dJ6_bitCount_0f7a4_38
theorem iJ6_bitCount_0f7a4_39 {x z : Int32} {Ls st : List Value} {h : AH} : ev L xs mdJ6_bitCount_0f7a4 39 (Ls) (.int z :: .int x :: st) h = ev L xs mdJ6_bitCount_0f7a4 40 (Ls) (.int (x + z) :: st) (h) := e_iadd dJ6_bitCount_0f7a4_39
theorem iJ6_bitCount_0f7a4_40 {v0 : Value} {x : Int32} {Ls st : List Value} {h : AH} : ev L xs mdJ6_bitCount_0f7a4 40 (v0 :: Ls) (.int x :: st) h = ev L xs mdJ6_bitCount_0f7a4 41 (.int x :: Ls) (st) (h) := e_istore_n dJ6_bitCount_0f7a4_40 rfl (by decide) rfl
theorem iJ6_bitCount_0f7a4_41 {x : Int32} {Ls st : List Value} {h : AH} : ev L xs mdJ6_bitCount_0f7a4 41 (.int x :: Ls) (st) h = ev L xs mdJ6_bitCount_0f7a4 42 (.int x :: Ls) (.int x :: st) (h) := e_iload_n dJ6_bitCount_0f7a4_41 rfl
theorem iJ6_bitCount_0f7a4_42 {x : Int32} {Ls st : List Value} {h : AH} : ev L xs mdJ6_bitCount_0f7a4 42 (.int x :: Ls) (st) h = ev L xs mdJ6_bitCount_0f7a4 43 (.int x :: Ls) (.int x :: st) (h) := e_iload_n dJ6_bitCount_0f7a4_42 rfl
theorem iJ6_bitCount_0f7a4_43  {Ls st : List Value} {h : AH} : ev L xs mdJ6_bitCount_0f7a4 43 (Ls) (st) h = ev L xs mdJ6_bitCount_0f7a4 45 (Ls) (.int (nI 16) :: st) (h) := e_bipush dJ6_bitCount_0f7a4_43 (by decide)
theorem iJ6_bitCount_0f7a4_45 {x z : Int32} {Ls st : List Value} {h : AH} : ev L xs mdJ6_bitCount_0f7a4 45 (Ls) (.int z :: .int x :: st) h = ev L xs mdJ6_bitCount_0f7a4 46 (Ls) (.int ((x.toUInt32 >>> (z.toUInt32 &&& Int32.toUInt32 31)).toInt32) :: st) (h) := e_iushr dJ6_bitCount_0f7a4_45
theorem iJ6_bitCount_0f7a4_46 {x z : Int32} {Ls st : List Value} {h : AH} : ev L xs mdJ6_bitCount_0f7a4 46 (Ls) (.int z :: .int x :: st) h = ev L xs mdJ6_bitCount_0f7a4 47 (Ls) (.int (x + z) :: st) (h) := e_iadd dJ6_bitCount_0f7a4_46
theorem iJ6_bitCount_0f7a4_47 {v0 : Value} {x : Int32} {Ls st : List Value} {h : AH} : ev L xs mdJ6_bitCount_0f7a4 47 (v0 :: Ls) (.int x :: st) h = ev L xs mdJ6_bitCount_0f7a4 48 (.int x :: Ls) (st) (h) := e_istore_n dJ6_bitCount_0f7a4_47 rfl (by decide) rfl
theorem iJ6_bitCount_0f7a4_48 {x : Int32} {Ls st : List Value} {h : AH} : ev L xs mdJ6_bitCount_0f7a4 48 (.int x :: Ls) (st) h = ev L xs mdJ6_bitCount_0f7a4 49 (.int x :: Ls) (.int x :: st) (h) := e_iload_n dJ6_bitCount_0f7a4_48 rfl
theorem iJ6_bitCount_0f7a4_49  {Ls st : List Value} {h : AH} : ev L xs mdJ6_bitCount_0f7a4 49 (Ls) (st) h = ev L xs mdJ6_bitCount_0f7a4 51 (Ls) (.int (nI 63) :: st) (h) := e_bipush dJ6_bitCount_0f7a4_49 (by decide)
theorem iJ6_bitCount_0f7a4_51 {x z : Int32} {Ls st : List Value} {h : AH} : ev L xs mdJ6_bitCount_0f7a4 51 (Ls) (.int z :: .int x :: st) h = ev L xs mdJ6_bitCount_0f7a4 52 (Ls) (.int (x &&& z) :: st) (h) := e_iand dJ6_bitCount_0f7a4_51
theorem iJ6_bitCount_0f7a4_52 {v : Int32} {Ls : List Value} {h : AH} : ev L xs mdJ6_bitCount_0f7a4 52 Ls [.int v] h = some (.inl (some (.int v), h)) := e_iret dJ6_bitCount_0f7a4_52 rfl
theorem dJ7_fill_53178_0 : decode cJ7_fill_53178 0 = .ok (.iconst 0, 1) := by decide +kernel
theorem dJ7_fill_53178_1 : decode cJ7_fill_53178 1 = .ok (.istore_n 2, 1) := by decide +kernel
theorem dJ7_fill_53178_2 : decode cJ7_fill_53178 2 = .ok (.aload_n 0, 1) := by decide +kernel
theorem dJ7_fill_53178_3 : decode cJ7_fill_53178 3 = .ok (.arraylength, 1) := by decide +kernel
theorem dJ7_fill_53178_4 : decode cJ7_fill_53178 4 = .ok (.istore_n 3, 1) := by decide +kernel
theorem dJ7_fill_53178_5 : decode cJ7_fill_53178 5 = .ok (.iload_n 2, 1) := by decide +kernel
theorem dJ7_fill_53178_6 : decode cJ7_fill_53178 6 = .ok (.iload_n 3, 1) := by decide +kernel
theorem dJ7_fill_53178_7 : decode cJ7_fill_53178 7 = .ok (.if_icmp .ge 13, 3) := by decide +kernel
theorem dJ7_fill_53178_10 : decode cJ7_fill_53178 10 = .ok (.aload_n 0, 1) := by decide +kernel
theorem dJ7_fill_53178_11 : decode cJ7_fill_53178 11 = .ok (.iload_n 2, 1) := by decide +kernel
theorem dJ7_fill_53178_12 : decode cJ7_fill_53178 12 = .ok (.iload_n 1, 1) := by decide +kernel
theorem dJ7_fill_53178_13 : decode cJ7_fill_53178 13 = .ok (.iastore, 1) := by decide +kernel
theorem dJ7_fill_53178_14 : decode cJ7_fill_53178 14 = .ok (.iinc 2 1, 3) := by decide +kernel
theorem dJ7_fill_53178_17 : decode cJ7_fill_53178 17 = .ok (.goto (-12), 3) := by decide +kernel
theorem dJ7_fill_53178_20 : decode cJ7_fill_53178 20 = .ok (.return_, 1) := by decide +kernel
theorem iJ7_fill_53178_0  {Ls st : List Value} {h : AH} : ev L xs mdJ7_fill_53178 0 (Ls) (st) h = ev L xs mdJ7_fill_53178 1 (Ls) (.int (nI 0) :: st) (h) := e_iconst dJ7_fill_53178_0 (by decide)
theorem iJ7_fill_53178_1 {v0 : Value} {v1 : Value} {v2 : Value} {x : Int32} {Ls st : List Value} {h : AH} (hc9 : v1.category = 1) : ev L xs mdJ7_fill_53178 1 (v0 :: v1 :: v2 :: Ls) (.int x :: st) h = ev L xs mdJ7_fill_53178 2 (v0 :: v1 :: .int x :: Ls) (st) (h) := e_istore_n dJ7_fill_53178_1 rfl (by decide) (by unfold catOK; show (_ || (v1.category == 1)) = true; rw [hc9]; rfl)
theorem iJ7_fill_53178_2 {x : Nat} {Ls st : List Value} {h : AH} : ev L xs mdJ7_fill_53178 2 (.ref x :: Ls) (st) h = ev L xs mdJ7_fill_53178 3 (.ref x :: Ls) (.ref x :: st) (h) := e_aload_n dJ7_fill_53178_2 rfl
theorem iJ7_fill_53178_3 {a : Nat} {Ls st : List Value} {h : AH} (hk : hK h a = 8) : ev L xs mdJ7_fill_53178 3 (Ls) (.ref a :: st) h = ev L xs mdJ7_fill_53178 4 (Ls) (.int (Int32.ofNat (hN h a)) :: st) (h) := e_alen dJ7_fill_53178_3 hk
theorem iJ7_fill_53178_4 {v0 : Value} {v1 : Value} {v2 : Value} {v3 : Value} {x : Int32} {Ls st : List Value} {h : AH} (hc9 : v2.category = 1) : ev L xs mdJ7_fill_53178 4 (v0 :: v1 :: v2 :: v3 :: Ls) (.int x :: st) h = ev L xs mdJ7_fill_53178 5 (v0 :: v1 :: v2 :: .int x :: Ls) (st) (h) := e_istore_n dJ7_fill_53178_4 rfl (by decide) (by unfold catOK; show (_ || (v2.category == 1)) = true; rw [hc9]; rfl)
theorem iJ7_fill_53178_5 {v0 : Value} {v1 : Value} {x : Int32} {Ls st : List Value} {h : AH} : ev L xs mdJ7_fill_53178 5 (v0 :: v1 :: .int x :: Ls) (st) h = ev L xs mdJ7_fill_53178 6 (v0 :: v1 :: .int x :: Ls) (.int x :: st) (h) := e_iload_n dJ7_fill_53178_5 rfl
theorem iJ7_fill_53178_6 {v0 : Value} {v1 : Value} {v2 : Value} {x : Int32} {Ls st : List Value} {h : AH} : ev L xs mdJ7_fill_53178 6 (v0 :: v1 :: v2 :: .int x :: Ls) (st) h = ev L xs mdJ7_fill_53178 7 (v0 :: v1 :: v2 :: .int x :: Ls) (.int x :: st) (h) := e_iload_n dJ7_fill_53178_6 rfl
theorem iJ7_fill_53178_7 {x z : Int32} {Ls st : List Value} {h : AH} : ev L xs mdJ7_fill_53178 7 Ls (.int z :: .int x :: st) h = if z ≤ x then ev L xs mdJ7_fill_53178 20 Ls st h else ev L xs mdJ7_fill_53178 10 Ls st h := e_ic_ge dJ7_fill_53178_7 (by decide)
theorem iJ7_fill_53178_10 {x : Nat} {Ls st : List Value} {h : AH} : ev L xs mdJ7_fill_53178 10 (.ref x :: Ls) (st) h = ev L xs mdJ7_fill_53178 11 (.ref x :: Ls) (.ref x :: st) (h) := e_aload_n dJ7_fill_53178_10 rfl
theorem iJ7_fill_53178_11 {v0 : Value} {v1 : Value} {x : Int32} {Ls st : List Value} {h : AH} : ev L xs mdJ7_fill_53178 11 (v0 :: v1 :: .int x :: Ls) (st) h = ev L xs mdJ7_fill_53178 12 (v0 :: v1 :: .int x :: Ls) (.int x :: st) (h) := e_iload_n dJ7_fill_53178_11 rfl
theorem iJ7_fill_53178_12 {v0 : Value} {x : Int32} {Ls st : List Value} {h : AH} : ev L xs mdJ7_fill_53178 12 (v0 :: .int x :: Ls) (st) h = ev L xs mdJ7_fill_53178 13 (v0 :: .int x :: Ls) (.int x :: st) (h) := e_iload_n dJ7_fill_53178_12 rfl
theorem iJ7_fill_53178_13 {a : Nat} {j : Int32} {v : Int32} {Ls st : List Value} {h : AH} (hk : hK h a = 8) (hi : inA j (hN h a) = true) : ev L xs mdJ7_fill_53178 13 (Ls) (.int v :: .int j :: .ref a :: st) h = ev L xs mdJ7_fill_53178 14 (Ls) (st) (sA h a j.toNatClampNeg v) := e_iast dJ7_fill_53178_13 hk hi
theorem iJ7_fill_53178_14 {v0 : Value} {v1 : Value} {x : Int32} {Ls st : List Value} {h : AH} (hc9 : v1.category = 1) : ev L xs mdJ7_fill_53178 14 (v0 :: v1 :: .int x :: Ls) (st) h = ev L xs mdJ7_fill_53178 17 (v0 :: v1 :: .int (x + (nI 1)) :: Ls) (st) (h) := e_iinc dJ7_fill_53178_14 rfl rfl rfl (by decide) (by unfold catOK; show (_ || (v1.category == 1)) = true; rw [hc9]; rfl)
theorem iJ7_fill_53178_17  {Ls st : List Value} {h : AH} : ev L xs mdJ7_fill_53178 17 (Ls) (st) h = ev L xs mdJ7_fill_53178 5 (Ls) (st) (h) := e_goto dJ7_fill_53178_17 (by decide)
theorem iJ7_fill_53178_20 {Ls : List Value} {h : AH} : ev L xs mdJ7_fill_53178 20 Ls [] h = some (.inl (none, h)) := e_vret dJ7_fill_53178_20 rfl
theorem dX0_about_0 : decode cX0_about 0 = .ok (.iload_n 1, 1) := by decide +kernel
theorem dX0_about_1 : decode cX0_about 1 = .ok (.tableswitch 114 0 9 #[55, 60, 65, 70, 75, 80, 85, 99, 104, 109], 55) := by decide +kernel
theorem dX0_about_56 : decode cX0_about 56 = .ok (.aload_n 0, 1) := by decide +kernel
theorem dX0_about_57 : decode cX0_about 57 = .ok (.getfield 9, 3) := by decide +kernel
theorem dX0_about_60 : decode cX0_about 60 = .ok (.ireturn, 1) := by decide +kernel
theorem dX0_about_61 : decode cX0_about 61 = .ok (.aload_n 0, 1) := by decide +kernel
theorem dX0_about_62 : decode cX0_about 62 = .ok (.getfield 15, 3) := by decide +kernel
theorem dX0_about_65 : decode cX0_about 65 = .ok (.ireturn, 1) := by decide +kernel
theorem dX0_about_66 : decode cX0_about 66 = .ok (.aload_n 0, 1) := by decide +kernel
theorem dX0_about_67 : decode cX0_about 67 = .ok (.getfield 18, 3) := by decide +kernel
theorem dX0_about_70 : decode cX0_about 70 = .ok (.ireturn, 1) := by decide +kernel
theorem dX0_about_71 : decode cX0_about 71 = .ok (.aload_n 0, 1) := by decide +kernel
theorem dX0_about_72 : decode cX0_about 72 = .ok (.getfield 21, 3) := by decide +kernel
theorem dX0_about_75 : decode cX0_about 75 = .ok (.ireturn, 1) := by decide +kernel
theorem dX0_about_76 : decode cX0_about 76 = .ok (.aload_n 0, 1) := by decide +kernel
theorem dX0_about_77 : decode cX0_about 77 = .ok (.getfield 24, 3) := by decide +kernel
theorem dX0_about_80 : decode cX0_about 80 = .ok (.ireturn, 1) := by decide +kernel
theorem dX0_about_81 : decode cX0_about 81 = .ok (.aload_n 0, 1) := by decide +kernel
theorem dX0_about_82 : decode cX0_about 82 = .ok (.getfield 27, 3) := by decide +kernel
theorem dX0_about_85 : decode cX0_about 85 = .ok (.ireturn, 1) := by decide +kernel
theorem dX0_about_86 : decode cX0_about 86 = .ok (.aload_n 0, 1) := by decide +kernel
theorem dX0_about_87 : decode cX0_about 87 = .ok (.iload_n 2, 1) := by decide +kernel
theorem dX0_about_88 : decode cX0_about 88 = .ok (.invokevirtual 49, 3) := by decide +kernel
theorem dX0_about_91 : decode cX0_about 91 = .ok (.ifCond .eq 7, 3) := by decide +kernel
theorem dX0_about_94 : decode cX0_about 94 = .ok (.iconst 1, 1) := by decide +kernel
theorem dX0_about_95 : decode cX0_about 95 = .ok (.goto 4, 3) := by decide +kernel
theorem dX0_about_98 : decode cX0_about 98 = .ok (.iconst 0, 1) := by decide +kernel
theorem dX0_about_99 : decode cX0_about 99 = .ok (.ireturn, 1) := by decide +kernel
theorem dX0_about_100 : decode cX0_about 100 = .ok (.aload_n 0, 1) := by decide +kernel
theorem dX0_about_101 : decode cX0_about 101 = .ok (.getfield 30, 3) := by decide +kernel
theorem dX0_about_104 : decode cX0_about 104 = .ok (.ireturn, 1) := by decide +kernel
theorem dX0_about_105 : decode cX0_about 105 = .ok (.aload_n 0, 1) := by decide +kernel
theorem dX0_about_106 : decode cX0_about 106 = .ok (.getfield 33, 3) := by decide +kernel
theorem dX0_about_109 : decode cX0_about 109 = .ok (.ireturn, 1) := by decide +kernel
theorem dX0_about_110 : decode cX0_about 110 = .ok (.aload_n 0, 1) := by decide +kernel
theorem dX0_about_111 : decode cX0_about 111 = .ok (.getfield 36, 3) := by decide +kernel
theorem dX0_about_114 : decode cX0_about 114 = .ok (.ireturn, 1) := by decide +kernel
theorem dX0_about_115 : decode cX0_about 115 = .ok (.aload_n 0, 1) := by decide +kernel
theorem dX0_about_116 : decode cX0_about 116 = .ok (.getfield 21, 3) := by decide +kernel
theorem dX0_about_119 : decode cX0_about 119 = .ok (.iconst 5, 1) := by decide +kernel
theorem dX0_about_120 : decode cX0_about 120 = .ok (.if_icmp .ne 7, 3) := by decide +kernel
theorem dX0_about_123 : decode cX0_about 123 = .ok (.iconst (-1), 1) := by decide +kernel
theorem dX0_about_124 : decode cX0_about 124 = .ok (.goto 10, 3) := by decide +kernel
theorem dX0_about_127 : decode cX0_about 127 = .ok (.bipush 20, 2) := by decide +kernel
theorem dX0_about_129 : decode cX0_about 129 = .ok (.aload_n 0, 1) := by decide +kernel
theorem dX0_about_130 : decode cX0_about 130 = .ok (.getfield 24, 3) := by decide +kernel
theorem dX0_about_133 : decode cX0_about 133 = .ok (.isub, 1) := by decide +kernel
theorem dX0_about_134 : decode cX0_about 134 = .ok (.ireturn, 1) := by decide +kernel
theorem iX0_about_0 {v0 : Value} {x : Int32} {Ls st : List Value} {h : AH} : ev L xs mdX0_about 0 (v0 :: .int x :: Ls) (st) h = ev L xs mdX0_about 1 (v0 :: .int x :: Ls) (.int x :: st) (h) := e_iload_n dX0_about_0 rfl
theorem iX0_about_1_0 {Ls st : List Value} {h : AH} : ev L xs mdX0_about 1 Ls (.int (nI 0) :: st) h = ev L xs mdX0_about 56 Ls st h := e_tsw dX0_about_1 rfl (by decide)
theorem iX0_about_1_1 {Ls st : List Value} {h : AH} : ev L xs mdX0_about 1 Ls (.int (nI 1) :: st) h = ev L xs mdX0_about 61 Ls st h := e_tsw dX0_about_1 rfl (by decide)
theorem iX0_about_1_2 {Ls st : List Value} {h : AH} : ev L xs mdX0_about 1 Ls (.int (nI 2) :: st) h = ev L xs mdX0_about 66 Ls st h := e_tsw dX0_about_1 rfl (by decide)
theorem iX0_about_1_3 {Ls st : List Value} {h : AH} : ev L xs mdX0_about 1 Ls (.int (nI 3) :: st) h = ev L xs mdX0_about 71 Ls st h := e_tsw dX0_about_1 rfl (by decide)
theorem iX0_about_1_4 {Ls st : List Value} {h : AH} : ev L xs mdX0_about 1 Ls (.int (nI 4) :: st) h = ev L xs mdX0_about 76 Ls st h := e_tsw dX0_about_1 rfl (by decide)
theorem iX0_about_1_5 {Ls st : List Value} {h : AH} : ev L xs mdX0_about 1 Ls (.int (nI 5) :: st) h = ev L xs mdX0_about 81 Ls st h := e_tsw dX0_about_1 rfl (by decide)
theorem iX0_about_1_6 {Ls st : List Value} {h : AH} : ev L xs mdX0_about 1 Ls (.int (nI 6) :: st) h = ev L xs mdX0_about 86 Ls st h := e_tsw dX0_about_1 rfl (by decide)
theorem iX0_about_1_7 {Ls st : List Value} {h : AH} : ev L xs mdX0_about 1 Ls (.int (nI 7) :: st) h = ev L xs mdX0_about 100 Ls st h := e_tsw dX0_about_1 rfl (by decide)
theorem iX0_about_1_8 {Ls st : List Value} {h : AH} : ev L xs mdX0_about 1 Ls (.int (nI 8) :: st) h = ev L xs mdX0_about 105 Ls st h := e_tsw dX0_about_1 rfl (by decide)
theorem iX0_about_1_9 {Ls st : List Value} {h : AH} : ev L xs mdX0_about 1 Ls (.int (nI 9) :: st) h = ev L xs mdX0_about 110 Ls st h := e_tsw dX0_about_1 rfl (by decide)
theorem iX0_about_1_d {x : Int32} {Ls st : List Value} {h : AH} (hx : x.toInt < 0 ∨ 9 < x.toInt) : ev L xs mdX0_about 1 Ls (.int x :: st) h = ev L xs mdX0_about 115 Ls st h := e_tsw (o := 114) dX0_about_1 (if_pos hx) (by decide)
theorem iX0_about_56 {x : Nat} {Ls st : List Value} {h : AH} : ev L xs mdX0_about 56 (.ref x :: Ls) (st) h = ev L xs mdX0_about 57 (.ref x :: Ls) (.ref x :: st) (h) := e_aload_n dX0_about_56 rfl
theorem iX0_about_57 {a : Nat} {Ls st : List Value} {h : AH} (hk : hK h a = 0) : ev L xs mdX0_about 57 (Ls) (.ref a :: st) h = ev L xs mdX0_about 60 (Ls) (.int (hI h 0 a) :: st) (h) := e_getI (k := 0) (f := 0) (F := 0) dX0_about_57 (by decide +kernel) rfl rfl hk
theorem iX0_about_60 {v : Int32} {Ls : List Value} {h : AH} : ev L xs mdX0_about 60 Ls [.int v] h = some (.inl (some (.int v), h)) := e_iret dX0_about_60 rfl
theorem iX0_about_61 {x : Nat} {Ls st : List Value} {h : AH} : ev L xs mdX0_about 61 (.ref x :: Ls) (st) h = ev L xs mdX0_about 62 (.ref x :: Ls) (.ref x :: st) (h) := e_aload_n dX0_about_61 rfl
theorem iX0_about_62 {a : Nat} {Ls st : List Value} {h : AH} (hk : hK h a = 0) : ev L xs mdX0_about 62 (Ls) (.ref a :: st) h = ev L xs mdX0_about 65 (Ls) (.int (hI h 1 a) :: st) (h) := e_getI (k := 0) (f := 1) (F := 1) dX0_about_62 (by decide +kernel) rfl rfl hk
theorem iX0_about_65 {v : Int32} {Ls : List Value} {h : AH} : ev L xs mdX0_about 65 Ls [.int v] h = some (.inl (some (.int v), h)) := e_iret dX0_about_65 rfl
theorem iX0_about_66 {x : Nat} {Ls st : List Value} {h : AH} : ev L xs mdX0_about 66 (.ref x :: Ls) (st) h = ev L xs mdX0_about 67 (.ref x :: Ls) (.ref x :: st) (h) := e_aload_n dX0_about_66 rfl
theorem iX0_about_67 {a : Nat} {Ls st : List Value} {h : AH} (hk : hK h a = 0) : ev L xs mdX0_about 67 (Ls) (.ref a :: st) h = ev L xs mdX0_about 70 (Ls) (.int (hI h 2 a) :: st) (h) := e_getI (k := 0) (f := 2) (F := 2) dX0_about_67 (by decide +kernel) rfl rfl hk
theorem iX0_about_70 {v : Int32} {Ls : List Value} {h : AH} : ev L xs mdX0_about 70 Ls [.int v] h = some (.inl (some (.int v), h)) := e_iret dX0_about_70 rfl
theorem iX0_about_71 {x : Nat} {Ls st : List Value} {h : AH} : ev L xs mdX0_about 71 (.ref x :: Ls) (st) h = ev L xs mdX0_about 72 (.ref x :: Ls) (.ref x :: st) (h) := e_aload_n dX0_about_71 rfl
theorem iX0_about_72 {a : Nat} {Ls st : List Value} {h : AH} (hk : hK h a = 0) : ev L xs mdX0_about 72 (Ls) (.ref a :: st) h = ev L xs mdX0_about 75 (Ls) (.int (hI h 3 a) :: st) (h) := e_getI (k := 0) (f := 3) (F := 3) dX0_about_72 (by decide +kernel) rfl rfl hk
theorem iX0_about_75 {v : Int32} {Ls : List Value} {h : AH} : ev L xs mdX0_about 75 Ls [.int v] h = some (.inl (some (.int v), h)) := e_iret dX0_about_75 rfl
theorem iX0_about_76 {x : Nat} {Ls st : List Value} {h : AH} : ev L xs mdX0_about 76 (.ref x :: Ls) (st) h = ev L xs mdX0_about 77 (.ref x :: Ls) (.ref x :: st) (h) := e_aload_n dX0_about_76 rfl
theorem iX0_about_77 {a : Nat} {Ls st : List Value} {h : AH} (hk : hK h a = 0) : ev L xs mdX0_about 77 (Ls) (.ref a :: st) h = ev L xs mdX0_about 80 (Ls) (.int (hI h 4 a) :: st) (h) := e_getI (k := 0) (f := 4) (F := 4) dX0_about_77 (by decide +kernel) rfl rfl hk
theorem iX0_about_80 {v : Int32} {Ls : List Value} {h : AH} : ev L xs mdX0_about 80 Ls [.int v] h = some (.inl (some (.int v), h)) := e_iret dX0_about_80 rfl
theorem iX0_about_81 {x : Nat} {Ls st : List Value} {h : AH} : ev L xs mdX0_about 81 (.ref x :: Ls) (st) h = ev L xs mdX0_about 82 (.ref x :: Ls) (.ref x :: st) (h) := e_aload_n dX0_about_81 rfl
theorem iX0_about_82 {a : Nat} {Ls st : List Value} {h : AH} (hk : hK h a = 0) : ev L xs mdX0_about 82 (Ls) (.ref a :: st) h = ev L xs mdX0_about 85 (Ls) (.int (hI h 5 a) :: st) (h) := e_getI (k := 0) (f := 5) (F := 5) dX0_about_82 (by decide +kernel) rfl rfl hk
theorem iX0_about_85 {v : Int32} {Ls : List Value} {h : AH} : ev L xs mdX0_about 85 Ls [.int v] h = some (.inl (some (.int v), h)) := e_iret dX0_about_85 rfl
theorem iX0_about_86 {x : Nat} {Ls st : List Value} {h : AH} : ev L xs mdX0_about 86 (.ref x :: Ls) (st) h = ev L xs mdX0_about 87 (.ref x :: Ls) (.ref x :: st) (h) := e_aload_n dX0_about_86 rfl
theorem iX0_about_87 {v0 : Value} {v1 : Value} {x : Int32} {Ls st : List Value} {h : AH} : ev L xs mdX0_about 87 (v0 :: v1 :: .int x :: Ls) (st) h = ev L xs mdX0_about 88 (v0 :: v1 :: .int x :: Ls) (.int x :: st) (h) := e_iload_n dX0_about_87 rfl
theorem iX0_about_88 {a : Nat} {p0 : Int32} {Ls st : List Value} {h : AH} (hk : hK h a = 0) (hw : wds st ≤ 8) : ev L xs mdX0_about 88 Ls (.int p0 :: .ref a :: st) h = kn L xs mdX0_about 88 91 Ls st (ev L xs mdX0_isSickOn 0 [.ref a, .int p0] [] h) := e_callV (as := [.int p0]) dX0_about_88 mr_0_49 (by decide) (by decide) rfl (by simp [wds, Value.category]; decide) rfl (by decide) hk hw
theorem iX0_about_91 {x : Int32} {Ls st : List Value} {h : AH} : ev L xs mdX0_about 91 Ls (.int x :: st) h = if x = nI 0 then ev L xs mdX0_about 98 Ls st h else ev L xs mdX0_about 94 Ls st h := e_if_eq dX0_about_91 (by decide)
theorem iX0_about_94  {Ls st : List Value} {h : AH} : ev L xs mdX0_about 94 (Ls) (st) h = ev L xs mdX0_about 95 (Ls) (.int (nI 1) :: st) (h) := e_iconst dX0_about_94 (by decide)
theorem iX0_about_95  {Ls st : List Value} {h : AH} : ev L xs mdX0_about 95 (Ls) (st) h = ev L xs mdX0_about 99 (Ls) (st) (h) := e_goto dX0_about_95 (by decide)
theorem iX0_about_98  {Ls st : List Value} {h : AH} : ev L xs mdX0_about 98 (Ls) (st) h = ev L xs mdX0_about 99 (Ls) (.int (nI 0) :: st) (h) := e_iconst dX0_about_98 (by decide)
theorem iX0_about_99 {v : Int32} {Ls : List Value} {h : AH} : ev L xs mdX0_about 99 Ls [.int v] h = some (.inl (some (.int v), h)) := e_iret dX0_about_99 rfl
theorem iX0_about_100 {x : Nat} {Ls st : List Value} {h : AH} : ev L xs mdX0_about 100 (.ref x :: Ls) (st) h = ev L xs mdX0_about 101 (.ref x :: Ls) (.ref x :: st) (h) := e_aload_n dX0_about_100 rfl
theorem iX0_about_101 {a : Nat} {Ls st : List Value} {h : AH} (hk : hK h a = 0) : ev L xs mdX0_about 101 (Ls) (.ref a :: st) h = ev L xs mdX0_about 104 (Ls) (.int (hI h 6 a) :: st) (h) := e_getI (k := 0) (f := 6) (F := 6) dX0_about_101 (by decide +kernel) rfl rfl hk
theorem iX0_about_104 {v : Int32} {Ls : List Value} {h : AH} : ev L xs mdX0_about 104 Ls [.int v] h = some (.inl (some (.int v), h)) := e_iret dX0_about_104 rfl
theorem iX0_about_105 {x : Nat} {Ls st : List Value} {h : AH} : ev L xs mdX0_about 105 (.ref x :: Ls) (st) h = ev L xs mdX0_about 106 (.ref x :: Ls) (.ref x :: st) (h) := e_aload_n dX0_about_105 rfl
theorem iX0_about_106 {a : Nat} {Ls st : List Value} {h : AH} (hk : hK h a = 0) : ev L xs mdX0_about 106 (Ls) (.ref a :: st) h = ev L xs mdX0_about 109 (Ls) (.int (hI h 7 a) :: st) (h) := e_getI (k := 0) (f := 7) (F := 7) dX0_about_106 (by decide +kernel) rfl rfl hk
theorem iX0_about_109 {v : Int32} {Ls : List Value} {h : AH} : ev L xs mdX0_about 109 Ls [.int v] h = some (.inl (some (.int v), h)) := e_iret dX0_about_109 rfl
theorem iX0_about_110 {x : Nat} {Ls st : List Value} {h : AH} : ev L xs mdX0_about 110 (.ref x :: Ls) (st) h = ev L xs mdX0_about 111 (.ref x :: Ls) (.ref x :: st) (h) := e_aload_n dX0_about_110 rfl
theorem iX0_about_111 {a : Nat} {Ls st : List Value} {h : AH} (hk : hK h a = 0) : ev L xs mdX0_about 111 (Ls) (.ref a :: st) h = ev L xs mdX0_about 114 (Ls) (.int (hI h 8 a) :: st) (h) := e_getI (k := 0) (f := 8) (F := 8) dX0_about_111 (by decide +kernel) rfl rfl hk
theorem iX0_about_114 {v : Int32} {Ls : List Value} {h : AH} : ev L xs mdX0_about 114 Ls [.int v] h = some (.inl (some (.int v), h)) := e_iret dX0_about_114 rfl
theorem iX0_about_115 {x : Nat} {Ls st : List Value} {h : AH} : ev L xs mdX0_about 115 (.ref x :: Ls) (st) h = ev L xs mdX0_about 116 (.ref x :: Ls) (.ref x :: st) (h) := e_aload_n dX0_about_115 rfl
theorem iX0_about_116 {a : Nat} {Ls st : List Value} {h : AH} (hk : hK h a = 0) : ev L xs mdX0_about 116 (Ls) (.ref a :: st) h = ev L xs mdX0_about 119 (Ls) (.int (hI h 3 a) :: st) (h) := e_getI (k := 0) (f := 3) (F := 3) dX0_about_116 (by decide +kernel) rfl rfl hk
theorem iX0_about_119  {Ls st : List Value} {h : AH} : ev L xs mdX0_about 119 (Ls) (st) h = ev L xs mdX0_about 120 (Ls) (.int (nI 5) :: st) (h) := e_iconst dX0_about_119 (by decide)
theorem iX0_about_120 {x z : Int32} {Ls st : List Value} {h : AH} : ev L xs mdX0_about 120 Ls (.int z :: .int x :: st) h = if x = z then ev L xs mdX0_about 123 Ls st h else ev L xs mdX0_about 127 Ls st h := e_ic_ne dX0_about_120 (by decide)
theorem iX0_about_123  {Ls st : List Value} {h : AH} : ev L xs mdX0_about 123 (Ls) (st) h = ev L xs mdX0_about 124 (Ls) (.int (-1) :: st) (h) := e_iconst dX0_about_123 (by decide)
theorem iX0_about_124  {Ls st : List Value} {h : AH} : ev L xs mdX0_about 124 (Ls) (st) h = ev L xs mdX0_about 134 (Ls) (st) (h) := e_goto dX0_about_124 (by decide)
theorem iX0_about_127  {Ls st : List Value} {h : AH} : ev L xs mdX0_about 127 (Ls) (st) h = ev L xs mdX0_about 129 (Ls) (.int (nI 20) :: st) (h) := e_bipush dX0_about_127 (by decide)
theorem iX0_about_129 {x : Nat} {Ls st : List Value} {h : AH} : ev L xs mdX0_about 129 (.ref x :: Ls) (st) h = ev L xs mdX0_about 130 (.ref x :: Ls) (.ref x :: st) (h) := e_aload_n dX0_about_129 rfl
theorem iX0_about_130 {a : Nat} {Ls st : List Value} {h : AH} (hk : hK h a = 0) : ev L xs mdX0_about 130 (Ls) (.ref a :: st) h = ev L xs mdX0_about 133 (Ls) (.int (hI h 4 a) :: st) (h) := e_getI (k := 0) (f := 4) (F := 4) dX0_about_130 (by decide +kernel) rfl rfl hk
theorem iX0_about_133 {x z : Int32} {Ls st : List Value} {h : AH} : ev L xs mdX0_about 133 (Ls) (.int z :: .int x :: st) h = ev L xs mdX0_about 134 (Ls) (.int (x - z) :: st) (h) := e_isub dX0_about_133
theorem iX0_about_134 {v : Int32} {Ls : List Value} {h : AH} : ev L xs mdX0_about 134 Ls [.int v] h = some (.inl (some (.int v), h)) := e_iret dX0_about_134 rfl
theorem dX0_begin_0 : decode cX0_begin 0 = .ok (.aload_n 0, 1) := by decide +kernel
theorem dX0_begin_1 : decode cX0_begin 1 = .ok (.iload_n 1, 1) := by decide +kernel
theorem dX0_begin_2 : decode cX0_begin 2 = .ok (.putfield 9, 3) := by decide +kernel
theorem dX0_begin_5 : decode cX0_begin 5 = .ok (.aload_n 0, 1) := by decide +kernel
theorem dX0_begin_6 : decode cX0_begin 6 = .ok (.iload_n 2, 1) := by decide +kernel
theorem dX0_begin_7 : decode cX0_begin 7 = .ok (.putfield 15, 3) := by decide +kernel
theorem dX0_begin_10 : decode cX0_begin 10 = .ok (.aload_n 0, 1) := by decide +kernel
theorem dX0_begin_11 : decode cX0_begin 11 = .ok (.iload_n 3, 1) := by decide +kernel
theorem dX0_begin_12 : decode cX0_begin 12 = .ok (.putfield 18, 3) := by decide +kernel
theorem dX0_begin_15 : decode cX0_begin 15 = .ok (.aload_n 0, 1) := by decide +kernel
theorem dX0_begin_16 : decode cX0_begin 16 = .ok (.iconst 0, 1) := by decide +kernel
theorem dX0_begin_17 : decode cX0_begin 17 = .ok (.putfield 21, 3) := by decide +kernel
theorem dX0_begin_20 : decode cX0_begin 20 = .ok (.aload_n 0, 1) := by decide +kernel
theorem dX0_begin_21 : decode cX0_begin 21 = .ok (.iconst 0, 1) := by decide +kernel
theorem dX0_begin_22 : decode cX0_begin 22 = .ok (.putfield 24, 3) := by decide +kernel
theorem dX0_begin_25 : decode cX0_begin 25 = .ok (.aload_n 0, 1) := by decide +kernel
theorem dX0_begin_26 : decode cX0_begin 26 = .ok (.iconst 0, 1) := by decide +kernel
theorem dX0_begin_27 : decode cX0_begin 27 = .ok (.putfield 27, 3) := by decide +kernel
theorem dX0_begin_30 : decode cX0_begin 30 = .ok (.aload_n 0, 1) := by decide +kernel
theorem dX0_begin_31 : decode cX0_begin 31 = .ok (.iconst 0, 1) := by decide +kernel
theorem dX0_begin_32 : decode cX0_begin 32 = .ok (.putfield 30, 3) := by decide +kernel
theorem dX0_begin_35 : decode cX0_begin 35 = .ok (.aload_n 0, 1) := by decide +kernel
theorem dX0_begin_36 : decode cX0_begin 36 = .ok (.iconst 0, 1) := by decide +kernel
theorem dX0_begin_37 : decode cX0_begin 37 = .ok (.putfield 33, 3) := by decide +kernel
theorem dX0_begin_40 : decode cX0_begin 40 = .ok (.aload_n 0, 1) := by decide +kernel
theorem dX0_begin_41 : decode cX0_begin 41 = .ok (.iconst 0, 1) := by decide +kernel
theorem dX0_begin_42 : decode cX0_begin 42 = .ok (.putfield 36, 3) := by decide +kernel
theorem dX0_begin_45 : decode cX0_begin 45 = .ok (.return_, 1) := by decide +kernel
theorem iX0_begin_0 {x : Nat} {Ls st : List Value} {h : AH} : ev L xs mdX0_begin 0 (.ref x :: Ls) (st) h = ev L xs mdX0_begin 1 (.ref x :: Ls) (.ref x :: st) (h) := e_aload_n dX0_begin_0 rfl
theorem iX0_begin_1 {v0 : Value} {x : Int32} {Ls st : List Value} {h : AH} : ev L xs mdX0_begin 1 (v0 :: .int x :: Ls) (st) h = ev L xs mdX0_begin 2 (v0 :: .int x :: Ls) (.int x :: st) (h) := e_iload_n dX0_begin_1 rfl
theorem iX0_begin_2 {a : Nat} {v : Int32} {Ls st : List Value} {h : AH} (hk : hK h a = 0) : ev L xs mdX0_begin 2 (Ls) (.int v :: .ref a :: st) h = ev L xs mdX0_begin 5 (Ls) (st) (sI h 0 a v) := e_putI (k := 0) (f := 0) (F := 0) dX0_begin_2 (by decide +kernel) rfl (by decide +kernel) rfl hk
theorem iX0_begin_5 {x : Nat} {Ls st : List Value} {h : AH} : ev L xs mdX0_begin 5 (.ref x :: Ls) (st) h = ev L xs mdX0_begin 6 (.ref x :: Ls) (.ref x :: st) (h) := e_aload_n dX0_begin_5 rfl
theorem iX0_begin_6 {v0 : Value} {v1 : Value} {x : Int32} {Ls st : List Value} {h : AH} : ev L xs mdX0_begin 6 (v0 :: v1 :: .int x :: Ls) (st) h = ev L xs mdX0_begin 7 (v0 :: v1 :: .int x :: Ls) (.int x :: st) (h) := e_iload_n dX0_begin_6 rfl
theorem iX0_begin_7 {a : Nat} {v : Int32} {Ls st : List Value} {h : AH} (hk : hK h a = 0) : ev L xs mdX0_begin 7 (Ls) (.int v :: .ref a :: st) h = ev L xs mdX0_begin 10 (Ls) (st) (sI h 1 a v) := e_putI (k := 0) (f := 1) (F := 1) dX0_begin_7 (by decide +kernel) rfl (by decide +kernel) rfl hk
theorem iX0_begin_10 {x : Nat} {Ls st : List Value} {h : AH} : ev L xs mdX0_begin 10 (.ref x :: Ls) (st) h = ev L xs mdX0_begin 11 (.ref x :: Ls) (.ref x :: st) (h) := e_aload_n dX0_begin_10 rfl
theorem iX0_begin_11 {v0 : Value} {v1 : Value} {v2 : Value} {x : Int32} {Ls st : List Value} {h : AH} : ev L xs mdX0_begin 11 (v0 :: v1 :: v2 :: .int x :: Ls) (st) h = ev L xs mdX0_begin 12 (v0 :: v1 :: v2 :: .int x :: Ls) (.int x :: st) (h) := e_iload_n dX0_begin_11 rfl
theorem iX0_begin_12 {a : Nat} {v : Int32} {Ls st : List Value} {h : AH} (hk : hK h a = 0) : ev L xs mdX0_begin 12 (Ls) (.int v :: .ref a :: st) h = ev L xs mdX0_begin 15 (Ls) (st) (sI h 2 a v) := e_putI (k := 0) (f := 2) (F := 2) dX0_begin_12 (by decide +kernel) rfl (by decide +kernel) rfl hk
theorem iX0_begin_15 {x : Nat} {Ls st : List Value} {h : AH} : ev L xs mdX0_begin 15 (.ref x :: Ls) (st) h = ev L xs mdX0_begin 16 (.ref x :: Ls) (.ref x :: st) (h) := e_aload_n dX0_begin_15 rfl
theorem iX0_begin_16  {Ls st : List Value} {h : AH} : ev L xs mdX0_begin 16 (Ls) (st) h = ev L xs mdX0_begin 17 (Ls) (.int (nI 0) :: st) (h) := e_iconst dX0_begin_16 (by decide)
theorem iX0_begin_17 {a : Nat} {v : Int32} {Ls st : List Value} {h : AH} (hk : hK h a = 0) : ev L xs mdX0_begin 17 (Ls) (.int v :: .ref a :: st) h = ev L xs mdX0_begin 20 (Ls) (st) (sI h 3 a v) := e_putI (k := 0) (f := 3) (F := 3) dX0_begin_17 (by decide +kernel) rfl (by decide +kernel) rfl hk
theorem iX0_begin_20 {x : Nat} {Ls st : List Value} {h : AH} : ev L xs mdX0_begin 20 (.ref x :: Ls) (st) h = ev L xs mdX0_begin 21 (.ref x :: Ls) (.ref x :: st) (h) := e_aload_n dX0_begin_20 rfl
theorem iX0_begin_21  {Ls st : List Value} {h : AH} : ev L xs mdX0_begin 21 (Ls) (st) h = ev L xs mdX0_begin 22 (Ls) (.int (nI 0) :: st) (h) := e_iconst dX0_begin_21 (by decide)
theorem iX0_begin_22 {a : Nat} {v : Int32} {Ls st : List Value} {h : AH} (hk : hK h a = 0) : ev L xs mdX0_begin 22 (Ls) (.int v :: .ref a :: st) h = ev L xs mdX0_begin 25 (Ls) (st) (sI h 4 a v) := e_putI (k := 0) (f := 4) (F := 4) dX0_begin_22 (by decide +kernel) rfl (by decide +kernel) rfl hk
theorem iX0_begin_25 {x : Nat} {Ls st : List Value} {h : AH} : ev L xs mdX0_begin 25 (.ref x :: Ls) (st) h = ev L xs mdX0_begin 26 (.ref x :: Ls) (.ref x :: st) (h) := e_aload_n dX0_begin_25 rfl
theorem iX0_begin_26  {Ls st : List Value} {h : AH} : ev L xs mdX0_begin 26 (Ls) (st) h = ev L xs mdX0_begin 27 (Ls) (.int (nI 0) :: st) (h) := e_iconst dX0_begin_26 (by decide)
theorem iX0_begin_27 {a : Nat} {v : Int32} {Ls st : List Value} {h : AH} (hk : hK h a = 0) : ev L xs mdX0_begin 27 (Ls) (.int v :: .ref a :: st) h = ev L xs mdX0_begin 30 (Ls) (st) (sI h 5 a v) := e_putI (k := 0) (f := 5) (F := 5) dX0_begin_27 (by decide +kernel) rfl (by decide +kernel) rfl hk
theorem iX0_begin_30 {x : Nat} {Ls st : List Value} {h : AH} : ev L xs mdX0_begin 30 (.ref x :: Ls) (st) h = ev L xs mdX0_begin 31 (.ref x :: Ls) (.ref x :: st) (h) := e_aload_n dX0_begin_30 rfl
theorem iX0_begin_31  {Ls st : List Value} {h : AH} : ev L xs mdX0_begin 31 (Ls) (st) h = ev L xs mdX0_begin 32 (Ls) (.int (nI 0) :: st) (h) := e_iconst dX0_begin_31 (by decide)
theorem iX0_begin_32 {a : Nat} {v : Int32} {Ls st : List Value} {h : AH} (hk : hK h a = 0) : ev L xs mdX0_begin 32 (Ls) (.int v :: .ref a :: st) h = ev L xs mdX0_begin 35 (Ls) (st) (sI h 6 a v) := e_putI (k := 0) (f := 6) (F := 6) dX0_begin_32 (by decide +kernel) rfl (by decide +kernel) rfl hk
theorem iX0_begin_35 {x : Nat} {Ls st : List Value} {h : AH} : ev L xs mdX0_begin 35 (.ref x :: Ls) (st) h = ev L xs mdX0_begin 36 (.ref x :: Ls) (.ref x :: st) (h) := e_aload_n dX0_begin_35 rfl
theorem iX0_begin_36  {Ls st : List Value} {h : AH} : ev L xs mdX0_begin 36 (Ls) (st) h = ev L xs mdX0_begin 37 (Ls) (.int (nI 0) :: st) (h) := e_iconst dX0_begin_36 (by decide)
theorem iX0_begin_37 {a : Nat} {v : Int32} {Ls st : List Value} {h : AH} (hk : hK h a = 0) : ev L xs mdX0_begin 37 (Ls) (.int v :: .ref a :: st) h = ev L xs mdX0_begin 40 (Ls) (st) (sI h 7 a v) := e_putI (k := 0) (f := 7) (F := 7) dX0_begin_37 (by decide +kernel) rfl (by decide +kernel) rfl hk
theorem iX0_begin_40 {x : Nat} {Ls st : List Value} {h : AH} : ev L xs mdX0_begin 40 (.ref x :: Ls) (st) h = ev L xs mdX0_begin 41 (.ref x :: Ls) (.ref x :: st) (h) := e_aload_n dX0_begin_40 rfl
theorem iX0_begin_41  {Ls st : List Value} {h : AH} : ev L xs mdX0_begin 41 (Ls) (st) h = ev L xs mdX0_begin 42 (Ls) (.int (nI 0) :: st) (h) := e_iconst dX0_begin_41 (by decide)
theorem iX0_begin_42 {a : Nat} {v : Int32} {Ls st : List Value} {h : AH} (hk : hK h a = 0) : ev L xs mdX0_begin 42 (Ls) (.int v :: .ref a :: st) h = ev L xs mdX0_begin 45 (Ls) (st) (sI h 8 a v) := e_putI (k := 0) (f := 8) (F := 8) dX0_begin_42 (by decide +kernel) rfl (by decide +kernel) rfl hk
theorem iX0_begin_45 {Ls : List Value} {h : AH} : ev L xs mdX0_begin 45 Ls [] h = some (.inl (none, h)) := e_vret dX0_begin_45 rfl
theorem dX0_copyFrom_0 : decode cX0_copyFrom 0 = .ok (.aload_n 0, 1) := by decide +kernel
theorem dX0_copyFrom_1 : decode cX0_copyFrom 1 = .ok (.aload_n 1, 1) := by decide +kernel
theorem dX0_copyFrom_2 : decode cX0_copyFrom 2 = .ok (.getfield 9, 3) := by decide +kernel
theorem dX0_copyFrom_5 : decode cX0_copyFrom 5 = .ok (.putfield 9, 3) := by decide +kernel
theorem dX0_copyFrom_8 : decode cX0_copyFrom 8 = .ok (.aload_n 0, 1) := by decide +kernel
theorem dX0_copyFrom_9 : decode cX0_copyFrom 9 = .ok (.aload_n 1, 1) := by decide +kernel
theorem dX0_copyFrom_10 : decode cX0_copyFrom 10 = .ok (.getfield 15, 3) := by decide +kernel
theorem dX0_copyFrom_13 : decode cX0_copyFrom 13 = .ok (.putfield 15, 3) := by decide +kernel
theorem dX0_copyFrom_16 : decode cX0_copyFrom 16 = .ok (.aload_n 0, 1) := by decide +kernel
theorem dX0_copyFrom_17 : decode cX0_copyFrom 17 = .ok (.aload_n 1, 1) := by decide +kernel
theorem dX0_copyFrom_18 : decode cX0_copyFrom 18 = .ok (.getfield 18, 3) := by decide +kernel
theorem dX0_copyFrom_21 : decode cX0_copyFrom 21 = .ok (.putfield 18, 3) := by decide +kernel
theorem dX0_copyFrom_24 : decode cX0_copyFrom 24 = .ok (.aload_n 0, 1) := by decide +kernel
theorem dX0_copyFrom_25 : decode cX0_copyFrom 25 = .ok (.aload_n 1, 1) := by decide +kernel
theorem dX0_copyFrom_26 : decode cX0_copyFrom 26 = .ok (.getfield 21, 3) := by decide +kernel
theorem dX0_copyFrom_29 : decode cX0_copyFrom 29 = .ok (.putfield 21, 3) := by decide +kernel
theorem dX0_copyFrom_32 : decode cX0_copyFrom 32 = .ok (.aload_n 0, 1) := by decide +kernel
theorem dX0_copyFrom_33 : decode cX0_copyFrom 33 = .ok (.aload_n 1, 1) := by decide +kernel
theorem dX0_copyFrom_34 : decode cX0_copyFrom 34 = .ok (.getfield 24, 3) := by decide +kernel
theorem dX0_copyFrom_37 : decode cX0_copyFrom 37 = .ok (.putfield 24, 3) := by decide +kernel
theorem dX0_copyFrom_40 : decode cX0_copyFrom 40 = .ok (.aload_n 0, 1) := by decide +kernel
theorem dX0_copyFrom_41 : decode cX0_copyFrom 41 = .ok (.aload_n 1, 1) := by decide +kernel
theorem dX0_copyFrom_42 : decode cX0_copyFrom 42 = .ok (.getfield 27, 3) := by decide +kernel
theorem dX0_copyFrom_45 : decode cX0_copyFrom 45 = .ok (.putfield 27, 3) := by decide +kernel
theorem dX0_copyFrom_48 : decode cX0_copyFrom 48 = .ok (.aload_n 0, 1) := by decide +kernel
theorem dX0_copyFrom_49 : decode cX0_copyFrom 49 = .ok (.aload_n 1, 1) := by decide +kernel
theorem dX0_copyFrom_50 : decode cX0_copyFrom 50 = .ok (.getfield 30, 3) := by decide +kernel
theorem dX0_copyFrom_53 : decode cX0_copyFrom 53 = .ok (.putfield 30, 3) := by decide +kernel
theorem dX0_copyFrom_56 : decode cX0_copyFrom 56 = .ok (.aload_n 0, 1) := by decide +kernel
theorem dX0_copyFrom_57 : decode cX0_copyFrom 57 = .ok (.aload_n 1, 1) := by decide +kernel
theorem dX0_copyFrom_58 : decode cX0_copyFrom 58 = .ok (.getfield 33, 3) := by decide +kernel
theorem dX0_copyFrom_61 : decode cX0_copyFrom 61 = .ok (.putfield 33, 3) := by decide +kernel
theorem dX0_copyFrom_64 : decode cX0_copyFrom 64 = .ok (.aload_n 0, 1) := by decide +kernel
theorem dX0_copyFrom_65 : decode cX0_copyFrom 65 = .ok (.aload_n 1, 1) := by decide +kernel
theorem dX0_copyFrom_66 : decode cX0_copyFrom 66 = .ok (.getfield 36, 3) := by decide +kernel
theorem dX0_copyFrom_69 : decode cX0_copyFrom 69 = .ok (.putfield 36, 3) := by decide +kernel
theorem dX0_copyFrom_72 : decode cX0_copyFrom 72 = .ok (.return_, 1) := by decide +kernel
theorem iX0_copyFrom_0 {x : Nat} {Ls st : List Value} {h : AH} : ev L xs mdX0_copyFrom 0 (.ref x :: Ls) (st) h = ev L xs mdX0_copyFrom 1 (.ref x :: Ls) (.ref x :: st) (h) := e_aload_n dX0_copyFrom_0 rfl
theorem iX0_copyFrom_1 {v0 : Value} {x : Nat} {Ls st : List Value} {h : AH} : ev L xs mdX0_copyFrom 1 (v0 :: .ref x :: Ls) (st) h = ev L xs mdX0_copyFrom 2 (v0 :: .ref x :: Ls) (.ref x :: st) (h) := e_aload_n dX0_copyFrom_1 rfl
theorem iX0_copyFrom_2 {a : Nat} {Ls st : List Value} {h : AH} (hk : hK h a = 0) : ev L xs mdX0_copyFrom 2 (Ls) (.ref a :: st) h = ev L xs mdX0_copyFrom 5 (Ls) (.int (hI h 0 a) :: st) (h) := e_getI (k := 0) (f := 0) (F := 0) dX0_copyFrom_2 (by decide +kernel) rfl rfl hk
theorem iX0_copyFrom_5 {a : Nat} {v : Int32} {Ls st : List Value} {h : AH} (hk : hK h a = 0) : ev L xs mdX0_copyFrom 5 (Ls) (.int v :: .ref a :: st) h = ev L xs mdX0_copyFrom 8 (Ls) (st) (sI h 0 a v) := e_putI (k := 0) (f := 0) (F := 0) dX0_copyFrom_5 (by decide +kernel) rfl (by decide +kernel) rfl hk
theorem iX0_copyFrom_8 {x : Nat} {Ls st : List Value} {h : AH} : ev L xs mdX0_copyFrom 8 (.ref x :: Ls) (st) h = ev L xs mdX0_copyFrom 9 (.ref x :: Ls) (.ref x :: st) (h) := e_aload_n dX0_copyFrom_8 rfl
theorem iX0_copyFrom_9 {v0 : Value} {x : Nat} {Ls st : List Value} {h : AH} : ev L xs mdX0_copyFrom 9 (v0 :: .ref x :: Ls) (st) h = ev L xs mdX0_copyFrom 10 (v0 :: .ref x :: Ls) (.ref x :: st) (h) := e_aload_n dX0_copyFrom_9 rfl
theorem iX0_copyFrom_10 {a : Nat} {Ls st : List Value} {h : AH} (hk : hK h a = 0) : ev L xs mdX0_copyFrom 10 (Ls) (.ref a :: st) h = ev L xs mdX0_copyFrom 13 (Ls) (.int (hI h 1 a) :: st) (h) := e_getI (k := 0) (f := 1) (F := 1) dX0_copyFrom_10 (by decide +kernel) rfl rfl hk
theorem iX0_copyFrom_13 {a : Nat} {v : Int32} {Ls st : List Value} {h : AH} (hk : hK h a = 0) : ev L xs mdX0_copyFrom 13 (Ls) (.int v :: .ref a :: st) h = ev L xs mdX0_copyFrom 16 (Ls) (st) (sI h 1 a v) := e_putI (k := 0) (f := 1) (F := 1) dX0_copyFrom_13 (by decide +kernel) rfl (by decide +kernel) rfl hk
theorem iX0_copyFrom_16 {x : Nat} {Ls st : List Value} {h : AH} : ev L xs mdX0_copyFrom 16 (.ref x :: Ls) (st) h = ev L xs mdX0_copyFrom 17 (.ref x :: Ls) (.ref x :: st) (h) := e_aload_n dX0_copyFrom_16 rfl
theorem iX0_copyFrom_17 {v0 : Value} {x : Nat} {Ls st : List Value} {h : AH} : ev L xs mdX0_copyFrom 17 (v0 :: .ref x :: Ls) (st) h = ev L xs mdX0_copyFrom 18 (v0 :: .ref x :: Ls) (.ref x :: st) (h) := e_aload_n dX0_copyFrom_17 rfl
theorem iX0_copyFrom_18 {a : Nat} {Ls st : List Value} {h : AH} (hk : hK h a = 0) : ev L xs mdX0_copyFrom 18 (Ls) (.ref a :: st) h = ev L xs mdX0_copyFrom 21 (Ls) (.int (hI h 2 a) :: st) (h) := e_getI (k := 0) (f := 2) (F := 2) dX0_copyFrom_18 (by decide +kernel) rfl rfl hk
theorem iX0_copyFrom_21 {a : Nat} {v : Int32} {Ls st : List Value} {h : AH} (hk : hK h a = 0) : ev L xs mdX0_copyFrom 21 (Ls) (.int v :: .ref a :: st) h = ev L xs mdX0_copyFrom 24 (Ls) (st) (sI h 2 a v) := e_putI (k := 0) (f := 2) (F := 2) dX0_copyFrom_21 (by decide +kernel) rfl (by decide +kernel) rfl hk
theorem iX0_copyFrom_24 {x : Nat} {Ls st : List Value} {h : AH} : ev L xs mdX0_copyFrom 24 (.ref x :: Ls) (st) h = ev L xs mdX0_copyFrom 25 (.ref x :: Ls) (.ref x :: st) (h) := e_aload_n dX0_copyFrom_24 rfl
theorem iX0_copyFrom_25 {v0 : Value} {x : Nat} {Ls st : List Value} {h : AH} : ev L xs mdX0_copyFrom 25 (v0 :: .ref x :: Ls) (st) h = ev L xs mdX0_copyFrom 26 (v0 :: .ref x :: Ls) (.ref x :: st) (h) := e_aload_n dX0_copyFrom_25 rfl
theorem iX0_copyFrom_26 {a : Nat} {Ls st : List Value} {h : AH} (hk : hK h a = 0) : ev L xs mdX0_copyFrom 26 (Ls) (.ref a :: st) h = ev L xs mdX0_copyFrom 29 (Ls) (.int (hI h 3 a) :: st) (h) := e_getI (k := 0) (f := 3) (F := 3) dX0_copyFrom_26 (by decide +kernel) rfl rfl hk
theorem iX0_copyFrom_29 {a : Nat} {v : Int32} {Ls st : List Value} {h : AH} (hk : hK h a = 0) : ev L xs mdX0_copyFrom 29 (Ls) (.int v :: .ref a :: st) h = ev L xs mdX0_copyFrom 32 (Ls) (st) (sI h 3 a v) := e_putI (k := 0) (f := 3) (F := 3) dX0_copyFrom_29 (by decide +kernel) rfl (by decide +kernel) rfl hk
theorem iX0_copyFrom_32 {x : Nat} {Ls st : List Value} {h : AH} : ev L xs mdX0_copyFrom 32 (.ref x :: Ls) (st) h = ev L xs mdX0_copyFrom 33 (.ref x :: Ls) (.ref x :: st) (h) := e_aload_n dX0_copyFrom_32 rfl
theorem iX0_copyFrom_33 {v0 : Value} {x : Nat} {Ls st : List Value} {h : AH} : ev L xs mdX0_copyFrom 33 (v0 :: .ref x :: Ls) (st) h = ev L xs mdX0_copyFrom 34 (v0 :: .ref x :: Ls) (.ref x :: st) (h) := e_aload_n dX0_copyFrom_33 rfl
theorem iX0_copyFrom_34 {a : Nat} {Ls st : List Value} {h : AH} (hk : hK h a = 0) : ev L xs mdX0_copyFrom 34 (Ls) (.ref a :: st) h = ev L xs mdX0_copyFrom 37 (Ls) (.int (hI h 4 a) :: st) (h) := e_getI (k := 0) (f := 4) (F := 4) dX0_copyFrom_34 (by decide +kernel) rfl rfl hk
theorem iX0_copyFrom_37 {a : Nat} {v : Int32} {Ls st : List Value} {h : AH} (hk : hK h a = 0) : ev L xs mdX0_copyFrom 37 (Ls) (.int v :: .ref a :: st) h = ev L xs mdX0_copyFrom 40 (Ls) (st) (sI h 4 a v) := e_putI (k := 0) (f := 4) (F := 4) dX0_copyFrom_37 (by decide +kernel) rfl (by decide +kernel) rfl hk
theorem iX0_copyFrom_40 {x : Nat} {Ls st : List Value} {h : AH} : ev L xs mdX0_copyFrom 40 (.ref x :: Ls) (st) h = ev L xs mdX0_copyFrom 41 (.ref x :: Ls) (.ref x :: st) (h) := e_aload_n dX0_copyFrom_40 rfl
theorem iX0_copyFrom_41 {v0 : Value} {x : Nat} {Ls st : List Value} {h : AH} : ev L xs mdX0_copyFrom 41 (v0 :: .ref x :: Ls) (st) h = ev L xs mdX0_copyFrom 42 (v0 :: .ref x :: Ls) (.ref x :: st) (h) := e_aload_n dX0_copyFrom_41 rfl
theorem iX0_copyFrom_42 {a : Nat} {Ls st : List Value} {h : AH} (hk : hK h a = 0) : ev L xs mdX0_copyFrom 42 (Ls) (.ref a :: st) h = ev L xs mdX0_copyFrom 45 (Ls) (.int (hI h 5 a) :: st) (h) := e_getI (k := 0) (f := 5) (F := 5) dX0_copyFrom_42 (by decide +kernel) rfl rfl hk
theorem iX0_copyFrom_45 {a : Nat} {v : Int32} {Ls st : List Value} {h : AH} (hk : hK h a = 0) : ev L xs mdX0_copyFrom 45 (Ls) (.int v :: .ref a :: st) h = ev L xs mdX0_copyFrom 48 (Ls) (st) (sI h 5 a v) := e_putI (k := 0) (f := 5) (F := 5) dX0_copyFrom_45 (by decide +kernel) rfl (by decide +kernel) rfl hk
theorem iX0_copyFrom_48 {x : Nat} {Ls st : List Value} {h : AH} : ev L xs mdX0_copyFrom 48 (.ref x :: Ls) (st) h = ev L xs mdX0_copyFrom 49 (.ref x :: Ls) (.ref x :: st) (h) := e_aload_n dX0_copyFrom_48 rfl
theorem iX0_copyFrom_49 {v0 : Value} {x : Nat} {Ls st : List Value} {h : AH} : ev L xs mdX0_copyFrom 49 (v0 :: .ref x :: Ls) (st) h = ev L xs mdX0_copyFrom 50 (v0 :: .ref x :: Ls) (.ref x :: st) (h) := e_aload_n dX0_copyFrom_49 rfl
theorem iX0_copyFrom_50 {a : Nat} {Ls st : List Value} {h : AH} (hk : hK h a = 0) : ev L xs mdX0_copyFrom 50 (Ls) (.ref a :: st) h = ev L xs mdX0_copyFrom 53 (Ls) (.int (hI h 6 a) :: st) (h) := e_getI (k := 0) (f := 6) (F := 6) dX0_copyFrom_50 (by decide +kernel) rfl rfl hk
theorem iX0_copyFrom_53 {a : Nat} {v : Int32} {Ls st : List Value} {h : AH} (hk : hK h a = 0) : ev L xs mdX0_copyFrom 53 (Ls) (.int v :: .ref a :: st) h = ev L xs mdX0_copyFrom 56 (Ls) (st) (sI h 6 a v) := e_putI (k := 0) (f := 6) (F := 6) dX0_copyFrom_53 (by decide +kernel) rfl (by decide +kernel) rfl hk
theorem iX0_copyFrom_56 {x : Nat} {Ls st : List Value} {h : AH} : ev L xs mdX0_copyFrom 56 (.ref x :: Ls) (st) h = ev L xs mdX0_copyFrom 57 (.ref x :: Ls) (.ref x :: st) (h) := e_aload_n dX0_copyFrom_56 rfl
theorem iX0_copyFrom_57 {v0 : Value} {x : Nat} {Ls st : List Value} {h : AH} : ev L xs mdX0_copyFrom 57 (v0 :: .ref x :: Ls) (st) h = ev L xs mdX0_copyFrom 58 (v0 :: .ref x :: Ls) (.ref x :: st) (h) := e_aload_n dX0_copyFrom_57 rfl
theorem iX0_copyFrom_58 {a : Nat} {Ls st : List Value} {h : AH} (hk : hK h a = 0) : ev L xs mdX0_copyFrom 58 (Ls) (.ref a :: st) h = ev L xs mdX0_copyFrom 61 (Ls) (.int (hI h 7 a) :: st) (h) := e_getI (k := 0) (f := 7) (F := 7) dX0_copyFrom_58 (by decide +kernel) rfl rfl hk
theorem iX0_copyFrom_61 {a : Nat} {v : Int32} {Ls st : List Value} {h : AH} (hk : hK h a = 0) : ev L xs mdX0_copyFrom 61 (Ls) (.int v :: .ref a :: st) h = ev L xs mdX0_copyFrom 64 (Ls) (st) (sI h 7 a v) := e_putI (k := 0) (f := 7) (F := 7) dX0_copyFrom_61 (by decide +kernel) rfl (by decide +kernel) rfl hk
theorem iX0_copyFrom_64 {x : Nat} {Ls st : List Value} {h : AH} : ev L xs mdX0_copyFrom 64 (.ref x :: Ls) (st) h = ev L xs mdX0_copyFrom 65 (.ref x :: Ls) (.ref x :: st) (h) := e_aload_n dX0_copyFrom_64 rfl
theorem iX0_copyFrom_65 {v0 : Value} {x : Nat} {Ls st : List Value} {h : AH} : ev L xs mdX0_copyFrom 65 (v0 :: .ref x :: Ls) (st) h = ev L xs mdX0_copyFrom 66 (v0 :: .ref x :: Ls) (.ref x :: st) (h) := e_aload_n dX0_copyFrom_65 rfl
theorem iX0_copyFrom_66 {a : Nat} {Ls st : List Value} {h : AH} (hk : hK h a = 0) : ev L xs mdX0_copyFrom 66 (Ls) (.ref a :: st) h = ev L xs mdX0_copyFrom 69 (Ls) (.int (hI h 8 a) :: st) (h) := e_getI (k := 0) (f := 8) (F := 8) dX0_copyFrom_66 (by decide +kernel) rfl rfl hk
theorem iX0_copyFrom_69 {a : Nat} {v : Int32} {Ls st : List Value} {h : AH} (hk : hK h a = 0) : ev L xs mdX0_copyFrom 69 (Ls) (.int v :: .ref a :: st) h = ev L xs mdX0_copyFrom 72 (Ls) (st) (sI h 8 a v) := e_putI (k := 0) (f := 8) (F := 8) dX0_copyFrom_69 (by decide +kernel) rfl (by decide +kernel) rfl hk
theorem iX0_copyFrom_72 {Ls : List Value} {h : AH} : ev L xs mdX0_copyFrom 72 Ls [] h = some (.inl (none, h)) := e_vret dX0_copyFrom_72 rfl
theorem dX0_distanceFrom_0 : decode cX0_distanceFrom 0 = .ok (.aload_n 0, 1) := by decide +kernel
theorem dX0_distanceFrom_1 : decode cX0_distanceFrom 1 = .ok (.getfield 9, 3) := by decide +kernel
theorem dX0_distanceFrom_4 : decode cX0_distanceFrom 4 = .ok (.iload_n 1, 1) := by decide +kernel
theorem dX0_distanceFrom_5 : decode cX0_distanceFrom 5 = .ok (.if_icmp .lt 12, 3) := by decide +kernel
theorem dX0_distanceFrom_8 : decode cX0_distanceFrom 8 = .ok (.aload_n 0, 1) := by decide +kernel
theorem dX0_distanceFrom_9 : decode cX0_distanceFrom 9 = .ok (.getfield 9, 3) := by decide +kernel
theorem dX0_distanceFrom_12 : decode cX0_distanceFrom 12 = .ok (.iload_n 1, 1) := by decide +kernel
theorem dX0_distanceFrom_13 : decode cX0_distanceFrom 13 = .ok (.isub, 1) := by decide +kernel
theorem dX0_distanceFrom_14 : decode cX0_distanceFrom 14 = .ok (.goto 9, 3) := by decide +kernel
theorem dX0_distanceFrom_17 : decode cX0_distanceFrom 17 = .ok (.iload_n 1, 1) := by decide +kernel
theorem dX0_distanceFrom_18 : decode cX0_distanceFrom 18 = .ok (.aload_n 0, 1) := by decide +kernel
theorem dX0_distanceFrom_19 : decode cX0_distanceFrom 19 = .ok (.getfield 9, 3) := by decide +kernel
theorem dX0_distanceFrom_22 : decode cX0_distanceFrom 22 = .ok (.isub, 1) := by decide +kernel
theorem dX0_distanceFrom_23 : decode cX0_distanceFrom 23 = .ok (.ireturn, 1) := by decide +kernel
theorem iX0_distanceFrom_0 {x : Nat} {Ls st : List Value} {h : AH} : ev L xs mdX0_distanceFrom 0 (.ref x :: Ls) (st) h = ev L xs mdX0_distanceFrom 1 (.ref x :: Ls) (.ref x :: st) (h) := e_aload_n dX0_distanceFrom_0 rfl
theorem iX0_distanceFrom_1 {a : Nat} {Ls st : List Value} {h : AH} (hk : hK h a = 0) : ev L xs mdX0_distanceFrom 1 (Ls) (.ref a :: st) h = ev L xs mdX0_distanceFrom 4 (Ls) (.int (hI h 0 a) :: st) (h) := e_getI (k := 0) (f := 0) (F := 0) dX0_distanceFrom_1 (by decide +kernel) rfl rfl hk
theorem iX0_distanceFrom_4 {v0 : Value} {x : Int32} {Ls st : List Value} {h : AH} : ev L xs mdX0_distanceFrom 4 (v0 :: .int x :: Ls) (st) h = ev L xs mdX0_distanceFrom 5 (v0 :: .int x :: Ls) (.int x :: st) (h) := e_iload_n dX0_distanceFrom_4 rfl
theorem iX0_distanceFrom_5 {x z : Int32} {Ls st : List Value} {h : AH} : ev L xs mdX0_distanceFrom 5 Ls (.int z :: .int x :: st) h = if x < z then ev L xs mdX0_distanceFrom 17 Ls st h else ev L xs mdX0_distanceFrom 8 Ls st h := e_ic_lt dX0_distanceFrom_5 (by decide)
theorem iX0_distanceFrom_8 {x : Nat} {Ls st : List Value} {h : AH} : ev L xs mdX0_distanceFrom 8 (.ref x :: Ls) (st) h = ev L xs mdX0_distanceFrom 9 (.ref x :: Ls) (.ref x :: st) (h) := e_aload_n dX0_distanceFrom_8 rfl
theorem iX0_distanceFrom_9 {a : Nat} {Ls st : List Value} {h : AH} (hk : hK h a = 0) : ev L xs mdX0_distanceFrom 9 (Ls) (.ref a :: st) h = ev L xs mdX0_distanceFrom 12 (Ls) (.int (hI h 0 a) :: st) (h) := e_getI (k := 0) (f := 0) (F := 0) dX0_distanceFrom_9 (by decide +kernel) rfl rfl hk
theorem iX0_distanceFrom_12 {v0 : Value} {x : Int32} {Ls st : List Value} {h : AH} : ev L xs mdX0_distanceFrom 12 (v0 :: .int x :: Ls) (st) h = ev L xs mdX0_distanceFrom 13 (v0 :: .int x :: Ls) (.int x :: st) (h) := e_iload_n dX0_distanceFrom_12 rfl
theorem iX0_distanceFrom_13 {x z : Int32} {Ls st : List Value} {h : AH} : ev L xs mdX0_distanceFrom 13 (Ls) (.int z :: .int x :: st) h = ev L xs mdX0_distanceFrom 14 (Ls) (.int (x - z) :: st) (h) := e_isub dX0_distanceFrom_13
theorem iX0_distanceFrom_14  {Ls st : List Value} {h : AH} : ev L xs mdX0_distanceFrom 14 (Ls) (st) h = ev L xs mdX0_distanceFrom 23 (Ls) (st) (h) := e_goto dX0_distanceFrom_14 (by decide)
theorem iX0_distanceFrom_17 {v0 : Value} {x : Int32} {Ls st : List Value} {h : AH} : ev L xs mdX0_distanceFrom 17 (v0 :: .int x :: Ls) (st) h = ev L xs mdX0_distanceFrom 18 (v0 :: .int x :: Ls) (.int x :: st) (h) := e_iload_n dX0_distanceFrom_17 rfl
theorem iX0_distanceFrom_18 {x : Nat} {Ls st : List Value} {h : AH} : ev L xs mdX0_distanceFrom 18 (.ref x :: Ls) (st) h = ev L xs mdX0_distanceFrom 19 (.ref x :: Ls) (.ref x :: st) (h) := e_aload_n dX0_distanceFrom_18 rfl
theorem iX0_distanceFrom_19 {a : Nat} {Ls st : List Value} {h : AH} (hk : hK h a = 0) : ev L xs mdX0_distanceFrom 19 (Ls) (.ref a :: st) h = ev L xs mdX0_distanceFrom 22 (Ls) (.int (hI h 0 a) :: st) (h) := e_getI (k := 0) (f := 0) (F := 0) dX0_distanceFrom_19 (by decide +kernel) rfl rfl hk
theorem iX0_distanceFrom_22 {x z : Int32} {Ls st : List Value} {h : AH} : ev L xs mdX0_distanceFrom 22 (Ls) (.int z :: .int x :: st) h = ev L xs mdX0_distanceFrom 23 (Ls) (.int (x - z) :: st) (h) := e_isub dX0_distanceFrom_22
theorem iX0_distanceFrom_23 {v : Int32} {Ls : List Value} {h : AH} : ev L xs mdX0_distanceFrom 23 Ls [.int v] h = some (.inl (some (.int v), h)) := e_iret dX0_distanceFrom_23 rfl
theorem dX0_init_0 : decode cX0_init 0 = .ok (.aload_n 0, 1) := by decide +kernel
theorem dX0_init_1 : decode cX0_init 1 = .ok (.invokespecial 3, 3) := by decide +kernel
theorem dX0_init_4 : decode cX0_init 4 = .ok (.return_, 1) := by decide +kernel
theorem iX0_init_0 {x : Nat} {Ls st : List Value} {h : AH} : ev L xs mdX0_init 0 (.ref x :: Ls) (st) h = ev L xs mdX0_init 1 (.ref x :: Ls) (.ref x :: st) (h) := e_aload_n dX0_init_0 rfl
theorem iX0_init_1 {a : Nat} {Ls st : List Value} {h : AH} (hw : wds st ≤ 8) : ev L xs mdX0_init 1 (Ls) (.ref a :: st) h = ev L xs mdX0_init 4 (Ls) (st) (h) := e_obj dX0_init_1 mr_0_3 (by decide) hw
theorem iX0_init_4 {Ls : List Value} {h : AH} : ev L xs mdX0_init 4 Ls [] h = some (.inl (none, h)) := e_vret dX0_init_4 rfl
theorem dX0_isSickOn_0 : decode cX0_isSickOn 0 = .ok (.iload_n 1, 1) := by decide +kernel
theorem dX0_isSickOn_1 : decode cX0_isSickOn 1 = .ok (.aload_n 0, 1) := by decide +kernel
theorem dX0_isSickOn_2 : decode cX0_isSickOn 2 = .ok (.getfield 30, 3) := by decide +kernel
theorem dX0_isSickOn_5 : decode cX0_isSickOn 5 = .ok (.if_icmp .ge 7, 3) := by decide +kernel
theorem dX0_isSickOn_8 : decode cX0_isSickOn 8 = .ok (.iconst 1, 1) := by decide +kernel
theorem dX0_isSickOn_9 : decode cX0_isSickOn 9 = .ok (.goto 4, 3) := by decide +kernel
theorem dX0_isSickOn_12 : decode cX0_isSickOn 12 = .ok (.iconst 0, 1) := by decide +kernel
theorem dX0_isSickOn_13 : decode cX0_isSickOn 13 = .ok (.ireturn, 1) := by decide +kernel
theorem iX0_isSickOn_0 {v0 : Value} {x : Int32} {Ls st : List Value} {h : AH} : ev L xs mdX0_isSickOn 0 (v0 :: .int x :: Ls) (st) h = ev L xs mdX0_isSickOn 1 (v0 :: .int x :: Ls) (.int x :: st) (h) := e_iload_n dX0_isSickOn_0 rfl
theorem iX0_isSickOn_1 {x : Nat} {Ls st : List Value} {h : AH} : ev L xs mdX0_isSickOn 1 (.ref x :: Ls) (st) h = ev L xs mdX0_isSickOn 2 (.ref x :: Ls) (.ref x :: st) (h) := e_aload_n dX0_isSickOn_1 rfl
theorem iX0_isSickOn_2 {a : Nat} {Ls st : List Value} {h : AH} (hk : hK h a = 0) : ev L xs mdX0_isSickOn 2 (Ls) (.ref a :: st) h = ev L xs mdX0_isSickOn 5 (Ls) (.int (hI h 6 a) :: st) (h) := e_getI (k := 0) (f := 6) (F := 6) dX0_isSickOn_2 (by decide +kernel) rfl rfl hk
theorem iX0_isSickOn_5 {x z : Int32} {Ls st : List Value} {h : AH} : ev L xs mdX0_isSickOn 5 Ls (.int z :: .int x :: st) h = if z ≤ x then ev L xs mdX0_isSickOn 12 Ls st h else ev L xs mdX0_isSickOn 8 Ls st h := e_ic_ge dX0_isSickOn_5 (by decide)
theorem iX0_isSickOn_8  {Ls st : List Value} {h : AH} : ev L xs mdX0_isSickOn 8 (Ls) (st) h = ev L xs mdX0_isSickOn 9 (Ls) (.int (nI 1) :: st) (h) := e_iconst dX0_isSickOn_8 (by decide)
theorem iX0_isSickOn_9  {Ls st : List Value} {h : AH} : ev L xs mdX0_isSickOn 9 (Ls) (st) h = ev L xs mdX0_isSickOn 13 (Ls) (st) (h) := e_goto dX0_isSickOn_9 (by decide)
theorem iX0_isSickOn_12  {Ls st : List Value} {h : AH} : ev L xs mdX0_isSickOn 12 (Ls) (st) h = ev L xs mdX0_isSickOn 13 (Ls) (.int (nI 0) :: st) (h) := e_iconst dX0_isSickOn_12 (by decide)
theorem iX0_isSickOn_13 {v : Int32} {Ls : List Value} {h : AH} (hv : v = nI 0 ∨ v = nI 1) : ev L xs mdX0_isSickOn 13 Ls [.int v] h = some (.inl (some (.int v), h)) := e_zret dX0_isSickOn_13 rfl hv
theorem dX0_standAt_0 : decode cX0_standAt 0 = .ok (.aload_n 0, 1) := by decide +kernel
theorem dX0_standAt_1 : decode cX0_standAt 1 = .ok (.dup, 1) := by decide +kernel
theorem dX0_standAt_2 : decode cX0_standAt 2 = .ok (.getfield 27, 3) := by decide +kernel
theorem dX0_standAt_5 : decode cX0_standAt 5 = .ok (.bipush 10, 2) := by decide +kernel
theorem dX0_standAt_7 : decode cX0_standAt 7 = .ok (.iconst 2, 1) := by decide +kernel
theorem dX0_standAt_8 : decode cX0_standAt 8 = .ok (.aload_n 0, 1) := by decide +kernel
theorem dX0_standAt_9 : decode cX0_standAt 9 = .ok (.getfield 21, 3) := by decide +kernel
theorem dX0_standAt_12 : decode cX0_standAt 12 = .ok (.imul, 1) := by decide +kernel
theorem dX0_standAt_13 : decode cX0_standAt 13 = .ok (.iadd, 1) := by decide +kernel
theorem dX0_standAt_14 : decode cX0_standAt 14 = .ok (.iadd, 1) := by decide +kernel
theorem dX0_standAt_15 : decode cX0_standAt 15 = .ok (.putfield 27, 3) := by decide +kernel
theorem dX0_standAt_18 : decode cX0_standAt 18 = .ok (.iload_n 1, 1) := by decide +kernel
theorem dX0_standAt_19 : decode cX0_standAt 19 = .ok (.aload_n 0, 1) := by decide +kernel
theorem dX0_standAt_20 : decode cX0_standAt 20 = .ok (.getfield 18, 3) := by decide +kernel
theorem dX0_standAt_23 : decode cX0_standAt 23 = .ok (.if_icmp .ne 16, 3) := by decide +kernel
theorem dX0_standAt_26 : decode cX0_standAt 26 = .ok (.aload_n 0, 1) := by decide +kernel
theorem dX0_standAt_27 : decode cX0_standAt 27 = .ok (.dup, 1) := by decide +kernel
theorem dX0_standAt_28 : decode cX0_standAt 28 = .ok (.getfield 33, 3) := by decide +kernel
theorem dX0_standAt_31 : decode cX0_standAt 31 = .ok (.iconst 1, 1) := by decide +kernel
theorem dX0_standAt_32 : decode cX0_standAt 32 = .ok (.iadd, 1) := by decide +kernel
theorem dX0_standAt_33 : decode cX0_standAt 33 = .ok (.putfield 33, 3) := by decide +kernel
theorem dX0_standAt_36 : decode cX0_standAt 36 = .ok (.goto 29, 3) := by decide +kernel
theorem dX0_standAt_39 : decode cX0_standAt 39 = .ok (.aload_n 0, 1) := by decide +kernel
theorem dX0_standAt_40 : decode cX0_standAt 40 = .ok (.dup, 1) := by decide +kernel
theorem dX0_standAt_41 : decode cX0_standAt 41 = .ok (.getfield 36, 3) := by decide +kernel
theorem dX0_standAt_44 : decode cX0_standAt 44 = .ok (.iconst 1, 1) := by decide +kernel
theorem dX0_standAt_45 : decode cX0_standAt 45 = .ok (.iadd, 1) := by decide +kernel
theorem dX0_standAt_46 : decode cX0_standAt 46 = .ok (.putfield 36, 3) := by decide +kernel
theorem dX0_standAt_49 : decode cX0_standAt 49 = .ok (.aload_n 0, 1) := by decide +kernel
theorem dX0_standAt_50 : decode cX0_standAt 50 = .ok (.dup, 1) := by decide +kernel
theorem dX0_standAt_51 : decode cX0_standAt 51 = .ok (.getfield 27, 3) := by decide +kernel
theorem dX0_standAt_54 : decode cX0_standAt 54 = .ok (.aload_n 0, 1) := by decide +kernel
theorem dX0_standAt_55 : decode cX0_standAt 55 = .ok (.iload_n 2, 1) := by decide +kernel
theorem dX0_standAt_56 : decode cX0_standAt 56 = .ok (.invokevirtual 39, 3) := by decide +kernel
theorem dX0_standAt_59 : decode cX0_standAt 59 = .ok (.iconst 5, 1) := by decide +kernel
theorem dX0_standAt_60 : decode cX0_standAt 60 = .ok (.idiv, 1) := by decide +kernel
theorem dX0_standAt_61 : decode cX0_standAt 61 = .ok (.iadd, 1) := by decide +kernel
theorem dX0_standAt_62 : decode cX0_standAt 62 = .ok (.putfield 27, 3) := by decide +kernel
theorem dX0_standAt_65 : decode cX0_standAt 65 = .ok (.aload_n 0, 1) := by decide +kernel
theorem dX0_standAt_66 : decode cX0_standAt 66 = .ok (.dup, 1) := by decide +kernel
theorem dX0_standAt_67 : decode cX0_standAt 67 = .ok (.getfield 24, 3) := by decide +kernel
theorem dX0_standAt_70 : decode cX0_standAt 70 = .ok (.iconst 1, 1) := by decide +kernel
theorem dX0_standAt_71 : decode cX0_standAt 71 = .ok (.iadd, 1) := by decide +kernel
theorem dX0_standAt_72 : decode cX0_standAt 72 = .ok (.putfield 24, 3) := by decide +kernel
theorem dX0_standAt_75 : decode cX0_standAt 75 = .ok (.aload_n 0, 1) := by decide +kernel
theorem dX0_standAt_76 : decode cX0_standAt 76 = .ok (.getfield 24, 3) := by decide +kernel
theorem dX0_standAt_79 : decode cX0_standAt 79 = .ok (.bipush 20, 2) := by decide +kernel
theorem dX0_standAt_81 : decode cX0_standAt 81 = .ok (.if_icmp .ne 22, 3) := by decide +kernel
theorem dX0_standAt_84 : decode cX0_standAt 84 = .ok (.aload_n 0, 1) := by decide +kernel
theorem dX0_standAt_85 : decode cX0_standAt 85 = .ok (.iconst 0, 1) := by decide +kernel
theorem dX0_standAt_86 : decode cX0_standAt 86 = .ok (.putfield 24, 3) := by decide +kernel
theorem dX0_standAt_89 : decode cX0_standAt 89 = .ok (.aload_n 0, 1) := by decide +kernel
theorem dX0_standAt_90 : decode cX0_standAt 90 = .ok (.aload_n 0, 1) := by decide +kernel
theorem dX0_standAt_91 : decode cX0_standAt 91 = .ok (.getfield 21, 3) := by decide +kernel
theorem dX0_standAt_94 : decode cX0_standAt 94 = .ok (.iconst 1, 1) := by decide +kernel
theorem dX0_standAt_95 : decode cX0_standAt 95 = .ok (.iadd, 1) := by decide +kernel
theorem dX0_standAt_96 : decode cX0_standAt 96 = .ok (.iconst 5, 1) := by decide +kernel
theorem dX0_standAt_97 : decode cX0_standAt 97 = .ok (.invokestatic 43, 3) := by decide +kernel
theorem dX0_standAt_100 : decode cX0_standAt 100 = .ok (.putfield 21, 3) := by decide +kernel
theorem dX0_standAt_103 : decode cX0_standAt 103 = .ok (.return_, 1) := by decide +kernel
theorem iX0_standAt_0 {x : Nat} {Ls st : List Value} {h : AH} : ev L xs mdX0_standAt 0 (.ref x :: Ls) (st) h = ev L xs mdX0_standAt 1 (.ref x :: Ls) (.ref x :: st) (h) := e_aload_n dX0_standAt_0 rfl
theorem iX0_standAt_1 {a : Nat} {Ls st : List Value} {h : AH} : ev L xs mdX0_standAt 1 (Ls) (.ref a :: st) h = ev L xs mdX0_standAt 2 (Ls) (.ref a :: .ref a :: st) (h) := e_dup dX0_standAt_1 rfl
theorem iX0_standAt_1i {a : Int32} {Ls st : List Value} {h : AH} : ev L xs mdX0_standAt 1 (Ls) (.int a :: st) h = ev L xs mdX0_standAt 2 (Ls) (.int a :: .int a :: st) (h) := e_dup dX0_standAt_1 rfl
theorem iX0_standAt_2 {a : Nat} {Ls st : List Value} {h : AH} (hk : hK h a = 0) : ev L xs mdX0_standAt 2 (Ls) (.ref a :: st) h = ev L xs mdX0_standAt 5 (Ls) (.int (hI h 5 a) :: st) (h) := e_getI (k := 0) (f := 5) (F := 5) dX0_standAt_2 (by decide +kernel) rfl rfl hk
theorem iX0_standAt_5  {Ls st : List Value} {h : AH} : ev L xs mdX0_standAt 5 (Ls) (st) h = ev L xs mdX0_standAt 7 (Ls) (.int (nI 10) :: st) (h) := e_bipush dX0_standAt_5 (by decide)
theorem iX0_standAt_7  {Ls st : List Value} {h : AH} : ev L xs mdX0_standAt 7 (Ls) (st) h = ev L xs mdX0_standAt 8 (Ls) (.int (nI 2) :: st) (h) := e_iconst dX0_standAt_7 (by decide)
theorem iX0_standAt_8 {x : Nat} {Ls st : List Value} {h : AH} : ev L xs mdX0_standAt 8 (.ref x :: Ls) (st) h = ev L xs mdX0_standAt 9 (.ref x :: Ls) (.ref x :: st) (h) := e_aload_n dX0_standAt_8 rfl
theorem iX0_standAt_9 {a : Nat} {Ls st : List Value} {h : AH} (hk : hK h a = 0) : ev L xs mdX0_standAt 9 (Ls) (.ref a :: st) h = ev L xs mdX0_standAt 12 (Ls) (.int (hI h 3 a) :: st) (h) := e_getI (k := 0) (f := 3) (F := 3) dX0_standAt_9 (by decide +kernel) rfl rfl hk
theorem iX0_standAt_12 {x z : Int32} {Ls st : List Value} {h : AH} : ev L xs mdX0_standAt 12 (Ls) (.int z :: .int x :: st) h = ev L xs mdX0_standAt 13 (Ls) (.int (x * z) :: st) (h) := e_imul dX0_standAt_12
theorem iX0_standAt_13 {x z : Int32} {Ls st : List Value} {h : AH} : ev L xs mdX0_standAt 13 (Ls) (.int z :: .int x :: st) h = ev L xs mdX0_standAt 14 (Ls) (.int (x + z) :: st) (h) := e_iadd dX0_standAt_13
theorem iX0_standAt_14 {x z : Int32} {Ls st : List Value} {h : AH} : ev L xs mdX0_standAt 14 (Ls) (.int z :: .int x :: st) h = ev L xs mdX0_standAt 15 (Ls) (.int (x + z) :: st) (h) := e_iadd dX0_standAt_14
theorem iX0_standAt_15 {a : Nat} {v : Int32} {Ls st : List Value} {h : AH} (hk : hK h a = 0) : ev L xs mdX0_standAt 15 (Ls) (.int v :: .ref a :: st) h = ev L xs mdX0_standAt 18 (Ls) (st) (sI h 5 a v) := e_putI (k := 0) (f := 5) (F := 5) dX0_standAt_15 (by decide +kernel) rfl (by decide +kernel) rfl hk
theorem iX0_standAt_18 {v0 : Value} {x : Int32} {Ls st : List Value} {h : AH} : ev L xs mdX0_standAt 18 (v0 :: .int x :: Ls) (st) h = ev L xs mdX0_standAt 19 (v0 :: .int x :: Ls) (.int x :: st) (h) := e_iload_n dX0_standAt_18 rfl
theorem iX0_standAt_19 {x : Nat} {Ls st : List Value} {h : AH} : ev L xs mdX0_standAt 19 (.ref x :: Ls) (st) h = ev L xs mdX0_standAt 20 (.ref x :: Ls) (.ref x :: st) (h) := e_aload_n dX0_standAt_19 rfl
theorem iX0_standAt_20 {a : Nat} {Ls st : List Value} {h : AH} (hk : hK h a = 0) : ev L xs mdX0_standAt 20 (Ls) (.ref a :: st) h = ev L xs mdX0_standAt 23 (Ls) (.int (hI h 2 a) :: st) (h) := e_getI (k := 0) (f := 2) (F := 2) dX0_standAt_20 (by decide +kernel) rfl rfl hk
theorem iX0_standAt_23 {x z : Int32} {Ls st : List Value} {h : AH} : ev L xs mdX0_standAt 23 Ls (.int z :: .int x :: st) h = if x = z then ev L xs mdX0_standAt 26 Ls st h else ev L xs mdX0_standAt 39 Ls st h := e_ic_ne dX0_standAt_23 (by decide)
theorem iX0_standAt_26 {x : Nat} {Ls st : List Value} {h : AH} : ev L xs mdX0_standAt 26 (.ref x :: Ls) (st) h = ev L xs mdX0_standAt 27 (.ref x :: Ls) (.ref x :: st) (h) := e_aload_n dX0_standAt_26 rfl
theorem iX0_standAt_27 {a : Nat} {Ls st : List Value} {h : AH} : ev L xs mdX0_standAt 27 (Ls) (.ref a :: st) h = ev L xs mdX0_standAt 28 (Ls) (.ref a :: .ref a :: st) (h) := e_dup dX0_standAt_27 rfl
theorem iX0_standAt_27i {a : Int32} {Ls st : List Value} {h : AH} : ev L xs mdX0_standAt 27 (Ls) (.int a :: st) h = ev L xs mdX0_standAt 28 (Ls) (.int a :: .int a :: st) (h) := e_dup dX0_standAt_27 rfl
theorem iX0_standAt_28 {a : Nat} {Ls st : List Value} {h : AH} (hk : hK h a = 0) : ev L xs mdX0_standAt 28 (Ls) (.ref a :: st) h = ev L xs mdX0_standAt 31 (Ls) (.int (hI h 7 a) :: st) (h) := e_getI (k := 0) (f := 7) (F := 7) dX0_standAt_28 (by decide +kernel) rfl rfl hk
theorem iX0_standAt_31  {Ls st : List Value} {h : AH} : ev L xs mdX0_standAt 31 (Ls) (st) h = ev L xs mdX0_standAt 32 (Ls) (.int (nI 1) :: st) (h) := e_iconst dX0_standAt_31 (by decide)
theorem iX0_standAt_32 {x z : Int32} {Ls st : List Value} {h : AH} : ev L xs mdX0_standAt 32 (Ls) (.int z :: .int x :: st) h = ev L xs mdX0_standAt 33 (Ls) (.int (x + z) :: st) (h) := e_iadd dX0_standAt_32
theorem iX0_standAt_33 {a : Nat} {v : Int32} {Ls st : List Value} {h : AH} (hk : hK h a = 0) : ev L xs mdX0_standAt 33 (Ls) (.int v :: .ref a :: st) h = ev L xs mdX0_standAt 36 (Ls) (st) (sI h 7 a v) := e_putI (k := 0) (f := 7) (F := 7) dX0_standAt_33 (by decide +kernel) rfl (by decide +kernel) rfl hk
theorem iX0_standAt_36  {Ls st : List Value} {h : AH} : ev L xs mdX0_standAt 36 (Ls) (st) h = ev L xs mdX0_standAt 65 (Ls) (st) (h) := e_goto dX0_standAt_36 (by decide)
theorem iX0_standAt_39 {x : Nat} {Ls st : List Value} {h : AH} : ev L xs mdX0_standAt 39 (.ref x :: Ls) (st) h = ev L xs mdX0_standAt 40 (.ref x :: Ls) (.ref x :: st) (h) := e_aload_n dX0_standAt_39 rfl
theorem iX0_standAt_40 {a : Nat} {Ls st : List Value} {h : AH} : ev L xs mdX0_standAt 40 (Ls) (.ref a :: st) h = ev L xs mdX0_standAt 41 (Ls) (.ref a :: .ref a :: st) (h) := e_dup dX0_standAt_40 rfl
theorem iX0_standAt_40i {a : Int32} {Ls st : List Value} {h : AH} : ev L xs mdX0_standAt 40 (Ls) (.int a :: st) h = ev L xs mdX0_standAt 41 (Ls) (.int a :: .int a :: st) (h) := e_dup dX0_standAt_40 rfl
theorem iX0_standAt_41 {a : Nat} {Ls st : List Value} {h : AH} (hk : hK h a = 0) : ev L xs mdX0_standAt 41 (Ls) (.ref a :: st) h = ev L xs mdX0_standAt 44 (Ls) (.int (hI h 8 a) :: st) (h) := e_getI (k := 0) (f := 8) (F := 8) dX0_standAt_41 (by decide +kernel) rfl rfl hk
theorem iX0_standAt_44  {Ls st : List Value} {h : AH} : ev L xs mdX0_standAt 44 (Ls) (st) h = ev L xs mdX0_standAt 45 (Ls) (.int (nI 1) :: st) (h) := e_iconst dX0_standAt_44 (by decide)
theorem iX0_standAt_45 {x z : Int32} {Ls st : List Value} {h : AH} : ev L xs mdX0_standAt 45 (Ls) (.int z :: .int x :: st) h = ev L xs mdX0_standAt 46 (Ls) (.int (x + z) :: st) (h) := e_iadd dX0_standAt_45
theorem iX0_standAt_46 {a : Nat} {v : Int32} {Ls st : List Value} {h : AH} (hk : hK h a = 0) : ev L xs mdX0_standAt 46 (Ls) (.int v :: .ref a :: st) h = ev L xs mdX0_standAt 49 (Ls) (st) (sI h 8 a v) := e_putI (k := 0) (f := 8) (F := 8) dX0_standAt_46 (by decide +kernel) rfl (by decide +kernel) rfl hk
theorem iX0_standAt_49 {x : Nat} {Ls st : List Value} {h : AH} : ev L xs mdX0_standAt 49 (.ref x :: Ls) (st) h = ev L xs mdX0_standAt 50 (.ref x :: Ls) (.ref x :: st) (h) := e_aload_n dX0_standAt_49 rfl
theorem iX0_standAt_50 {a : Nat} {Ls st : List Value} {h : AH} : ev L xs mdX0_standAt 50 (Ls) (.ref a :: st) h = ev L xs mdX0_standAt 51 (Ls) (.ref a :: .ref a :: st) (h) := e_dup dX0_standAt_50 rfl
theorem iX0_standAt_50i {a : Int32} {Ls st : List Value} {h : AH} : ev L xs mdX0_standAt 50 (Ls) (.int a :: st) h = ev L xs mdX0_standAt 51 (Ls) (.int a :: .int a :: st) (h) := e_dup dX0_standAt_50 rfl
theorem iX0_standAt_51 {a : Nat} {Ls st : List Value} {h : AH} (hk : hK h a = 0) : ev L xs mdX0_standAt 51 (Ls) (.ref a :: st) h = ev L xs mdX0_standAt 54 (Ls) (.int (hI h 5 a) :: st) (h) := e_getI (k := 0) (f := 5) (F := 5) dX0_standAt_51 (by decide +kernel) rfl rfl hk
theorem iX0_standAt_54 {x : Nat} {Ls st : List Value} {h : AH} : ev L xs mdX0_standAt 54 (.ref x :: Ls) (st) h = ev L xs mdX0_standAt 55 (.ref x :: Ls) (.ref x :: st) (h) := e_aload_n dX0_standAt_54 rfl
theorem iX0_standAt_55 {v0 : Value} {v1 : Value} {x : Int32} {Ls st : List Value} {h : AH} : ev L xs mdX0_standAt 55 (v0 :: v1 :: .int x :: Ls) (st) h = ev L xs mdX0_standAt 56 (v0 :: v1 :: .int x :: Ls) (.int x :: st) (h) := e_iload_n dX0_standAt_55 rfl
theorem iX0_standAt_56 {a : Nat} {p0 : Int32} {Ls st : List Value} {h : AH} (hk : hK h a = 0) (hw : wds st ≤ 8) : ev L xs mdX0_standAt 56 Ls (.int p0 :: .ref a :: st) h = kn L xs mdX0_standAt 56 59 Ls st (ev L xs mdX0_distanceFrom 0 [.ref a, .int p0] [] h) := e_callV (as := [.int p0]) dX0_standAt_56 mr_0_39 (by decide) (by decide) rfl (by simp [wds, Value.category]; decide) rfl (by decide) hk hw
theorem iX0_standAt_59  {Ls st : List Value} {h : AH} : ev L xs mdX0_standAt 59 (Ls) (st) h = ev L xs mdX0_standAt 60 (Ls) (.int (nI 5) :: st) (h) := e_iconst dX0_standAt_59 (by decide)
theorem iX0_standAt_60 {x z : Int32} {Ls st : List Value} {h : AH} (hz : ¬ z = 0) : ev L xs mdX0_standAt 60 (Ls) (.int z :: .int x :: st) h = ev L xs mdX0_standAt 61 (Ls) (.int (x / z) :: st) (h) := e_idiv dX0_standAt_60 hz
theorem iX0_standAt_61 {x z : Int32} {Ls st : List Value} {h : AH} : ev L xs mdX0_standAt 61 (Ls) (.int z :: .int x :: st) h = ev L xs mdX0_standAt 62 (Ls) (.int (x + z) :: st) (h) := e_iadd dX0_standAt_61
theorem iX0_standAt_62 {a : Nat} {v : Int32} {Ls st : List Value} {h : AH} (hk : hK h a = 0) : ev L xs mdX0_standAt 62 (Ls) (.int v :: .ref a :: st) h = ev L xs mdX0_standAt 65 (Ls) (st) (sI h 5 a v) := e_putI (k := 0) (f := 5) (F := 5) dX0_standAt_62 (by decide +kernel) rfl (by decide +kernel) rfl hk
theorem iX0_standAt_65 {x : Nat} {Ls st : List Value} {h : AH} : ev L xs mdX0_standAt 65 (.ref x :: Ls) (st) h = ev L xs mdX0_standAt 66 (.ref x :: Ls) (.ref x :: st) (h) := e_aload_n dX0_standAt_65 rfl
theorem iX0_standAt_66 {a : Nat} {Ls st : List Value} {h : AH} : ev L xs mdX0_standAt 66 (Ls) (.ref a :: st) h = ev L xs mdX0_standAt 67 (Ls) (.ref a :: .ref a :: st) (h) := e_dup dX0_standAt_66 rfl
theorem iX0_standAt_66i {a : Int32} {Ls st : List Value} {h : AH} : ev L xs mdX0_standAt 66 (Ls) (.int a :: st) h = ev L xs mdX0_standAt 67 (Ls) (.int a :: .int a :: st) (h) := e_dup dX0_standAt_66 rfl
theorem iX0_standAt_67 {a : Nat} {Ls st : List Value} {h : AH} (hk : hK h a = 0) : ev L xs mdX0_standAt 67 (Ls) (.ref a :: st) h = ev L xs mdX0_standAt 70 (Ls) (.int (hI h 4 a) :: st) (h) := e_getI (k := 0) (f := 4) (F := 4) dX0_standAt_67 (by decide +kernel) rfl rfl hk
theorem iX0_standAt_70  {Ls st : List Value} {h : AH} : ev L xs mdX0_standAt 70 (Ls) (st) h = ev L xs mdX0_standAt 71 (Ls) (.int (nI 1) :: st) (h) := e_iconst dX0_standAt_70 (by decide)
theorem iX0_standAt_71 {x z : Int32} {Ls st : List Value} {h : AH} : ev L xs mdX0_standAt 71 (Ls) (.int z :: .int x :: st) h = ev L xs mdX0_standAt 72 (Ls) (.int (x + z) :: st) (h) := e_iadd dX0_standAt_71
theorem iX0_standAt_72 {a : Nat} {v : Int32} {Ls st : List Value} {h : AH} (hk : hK h a = 0) : ev L xs mdX0_standAt 72 (Ls) (.int v :: .ref a :: st) h = ev L xs mdX0_standAt 75 (Ls) (st) (sI h 4 a v) := e_putI (k := 0) (f := 4) (F := 4) dX0_standAt_72 (by decide +kernel) rfl (by decide +kernel) rfl hk
theorem iX0_standAt_75 {x : Nat} {Ls st : List Value} {h : AH} : ev L xs mdX0_standAt 75 (.ref x :: Ls) (st) h = ev L xs mdX0_standAt 76 (.ref x :: Ls) (.ref x :: st) (h) := e_aload_n dX0_standAt_75 rfl
theorem iX0_standAt_76 {a : Nat} {Ls st : List Value} {h : AH} (hk : hK h a = 0) : ev L xs mdX0_standAt 76 (Ls) (.ref a :: st) h = ev L xs mdX0_standAt 79 (Ls) (.int (hI h 4 a) :: st) (h) := e_getI (k := 0) (f := 4) (F := 4) dX0_standAt_76 (by decide +kernel) rfl rfl hk
theorem iX0_standAt_79  {Ls st : List Value} {h : AH} : ev L xs mdX0_standAt 79 (Ls) (st) h = ev L xs mdX0_standAt 81 (Ls) (.int (nI 20) :: st) (h) := e_bipush dX0_standAt_79 (by decide)
theorem iX0_standAt_81 {x z : Int32} {Ls st : List Value} {h : AH} : ev L xs mdX0_standAt 81 Ls (.int z :: .int x :: st) h = if x = z then ev L xs mdX0_standAt 84 Ls st h else ev L xs mdX0_standAt 103 Ls st h := e_ic_ne dX0_standAt_81 (by decide)
theorem iX0_standAt_84 {x : Nat} {Ls st : List Value} {h : AH} : ev L xs mdX0_standAt 84 (.ref x :: Ls) (st) h = ev L xs mdX0_standAt 85 (.ref x :: Ls) (.ref x :: st) (h) := e_aload_n dX0_standAt_84 rfl
theorem iX0_standAt_85  {Ls st : List Value} {h : AH} : ev L xs mdX0_standAt 85 (Ls) (st) h = ev L xs mdX0_standAt 86 (Ls) (.int (nI 0) :: st) (h) := e_iconst dX0_standAt_85 (by decide)
theorem iX0_standAt_86 {a : Nat} {v : Int32} {Ls st : List Value} {h : AH} (hk : hK h a = 0) : ev L xs mdX0_standAt 86 (Ls) (.int v :: .ref a :: st) h = ev L xs mdX0_standAt 89 (Ls) (st) (sI h 4 a v) := e_putI (k := 0) (f := 4) (F := 4) dX0_standAt_86 (by decide +kernel) rfl (by decide +kernel) rfl hk
theorem iX0_standAt_89 {x : Nat} {Ls st : List Value} {h : AH} : ev L xs mdX0_standAt 89 (.ref x :: Ls) (st) h = ev L xs mdX0_standAt 90 (.ref x :: Ls) (.ref x :: st) (h) := e_aload_n dX0_standAt_89 rfl
theorem iX0_standAt_90 {x : Nat} {Ls st : List Value} {h : AH} : ev L xs mdX0_standAt 90 (.ref x :: Ls) (st) h = ev L xs mdX0_standAt 91 (.ref x :: Ls) (.ref x :: st) (h) := e_aload_n dX0_standAt_90 rfl
theorem iX0_standAt_91 {a : Nat} {Ls st : List Value} {h : AH} (hk : hK h a = 0) : ev L xs mdX0_standAt 91 (Ls) (.ref a :: st) h = ev L xs mdX0_standAt 94 (Ls) (.int (hI h 3 a) :: st) (h) := e_getI (k := 0) (f := 3) (F := 3) dX0_standAt_91 (by decide +kernel) rfl rfl hk
theorem iX0_standAt_94  {Ls st : List Value} {h : AH} : ev L xs mdX0_standAt 94 (Ls) (st) h = ev L xs mdX0_standAt 95 (Ls) (.int (nI 1) :: st) (h) := e_iconst dX0_standAt_94 (by decide)
theorem iX0_standAt_95 {x z : Int32} {Ls st : List Value} {h : AH} : ev L xs mdX0_standAt 95 (Ls) (.int z :: .int x :: st) h = ev L xs mdX0_standAt 96 (Ls) (.int (x + z) :: st) (h) := e_iadd dX0_standAt_95
theorem iX0_standAt_96  {Ls st : List Value} {h : AH} : ev L xs mdX0_standAt 96 (Ls) (st) h = ev L xs mdX0_standAt 97 (Ls) (.int (nI 5) :: st) (h) := e_iconst dX0_standAt_96 (by decide)
theorem iX0_standAt_97 {x z : Int32} {Ls st : List Value} {h : AH} (hw : wds st ≤ 8) : ev L xs mdX0_standAt 97 (Ls) (.int z :: .int x :: st) h = ev L xs mdX0_standAt 100 (Ls) (.int (if z < x then z else x) :: st) (h) := e_min dX0_standAt_97 mr_0_43 (by decide) hw
theorem iX0_standAt_100 {a : Nat} {v : Int32} {Ls st : List Value} {h : AH} (hk : hK h a = 0) : ev L xs mdX0_standAt 100 (Ls) (.int v :: .ref a :: st) h = ev L xs mdX0_standAt 103 (Ls) (st) (sI h 3 a v) := e_putI (k := 0) (f := 3) (F := 3) dX0_standAt_100 (by decide +kernel) rfl (by decide +kernel) rfl hk
theorem iX0_standAt_103 {Ls : List Value} {h : AH} : ev L xs mdX0_standAt 103 Ls [] h = some (.inl (none, h)) := e_vret dX0_standAt_103 rfl
theorem dX1_init_0 : decode cX1_init 0 = .ok (.aload_n 0, 1) := by decide +kernel
theorem dX1_init_1 : decode cX1_init 1 = .ok (.invokespecial 3, 3) := by decide +kernel
theorem dX1_init_4 : decode cX1_init 4 = .ok (.aload_n 0, 1) := by decide +kernel
theorem dX1_init_5 : decode cX1_init 5 = .ok (.bipush 90, 2) := by decide +kernel
theorem dX1_init_7 : decode cX1_init 7 = .ok (.newarray .int, 2) := by decide +kernel
theorem dX1_init_9 : decode cX1_init 9 = .ok (.putfield 9, 3) := by decide +kernel
theorem dX1_init_12 : decode cX1_init 12 = .ok (.aload_n 0, 1) := by decide +kernel
theorem dX1_init_13 : decode cX1_init 13 = .ok (.bipush 30, 2) := by decide +kernel
theorem dX1_init_15 : decode cX1_init 15 = .ok (.newarray .int, 2) := by decide +kernel
theorem dX1_init_17 : decode cX1_init 17 = .ok (.putfield 15, 3) := by decide +kernel
theorem dX1_init_20 : decode cX1_init 20 = .ok (.aload_n 0, 1) := by decide +kernel
theorem dX1_init_21 : decode cX1_init 21 = .ok (.bipush 30, 2) := by decide +kernel
theorem dX1_init_23 : decode cX1_init 23 = .ok (.newarray .int, 2) := by decide +kernel
theorem dX1_init_25 : decode cX1_init 25 = .ok (.putfield 18, 3) := by decide +kernel
theorem dX1_init_28 : decode cX1_init 28 = .ok (.aload_n 0, 1) := by decide +kernel
theorem dX1_init_29 : decode cX1_init 29 = .ok (.bipush 30, 2) := by decide +kernel
theorem dX1_init_31 : decode cX1_init 31 = .ok (.newarray .int, 2) := by decide +kernel
theorem dX1_init_33 : decode cX1_init 33 = .ok (.putfield 21, 3) := by decide +kernel
theorem dX1_init_36 : decode cX1_init 36 = .ok (.return_, 1) := by decide +kernel
theorem iX1_init_0 {x : Nat} {Ls st : List Value} {h : AH} : ev L xs mdX1_init 0 (.ref x :: Ls) (st) h = ev L xs mdX1_init 1 (.ref x :: Ls) (.ref x :: st) (h) := e_aload_n dX1_init_0 rfl
theorem iX1_init_1 {a : Nat} {Ls st : List Value} {h : AH} (hw : wds st ≤ 8) : ev L xs mdX1_init 1 (Ls) (.ref a :: st) h = ev L xs mdX1_init 4 (Ls) (st) (h) := e_obj dX1_init_1 mr_1_3 (by decide) hw
theorem iX1_init_4 {x : Nat} {Ls st : List Value} {h : AH} : ev L xs mdX1_init 4 (.ref x :: Ls) (st) h = ev L xs mdX1_init 5 (.ref x :: Ls) (.ref x :: st) (h) := e_aload_n dX1_init_4 rfl
theorem iX1_init_5  {Ls st : List Value} {h : AH} : ev L xs mdX1_init 5 (Ls) (st) h = ev L xs mdX1_init 7 (Ls) (.int (nI 90) :: st) (h) := e_bipush dX1_init_5 (by decide)
theorem iX1_init_7 {c : Int32} {Ls st : List Value} {h : AH} (h0 : 0 ≤ c) (h1 : c ≤ 10000) : ev L xs mdX1_init 7 (Ls) (.int c :: st) h = ev L xs mdX1_init 9 (Ls) (.ref (hn h) :: st) (nw h 8 c.toNatClampNeg c.toNatClampNeg) := e_newI dX1_init_7 h0 h1
theorem iX1_init_9 {a v : Nat} {Ls st : List Value} {h : AH} (hk : hK h a = 1) : ev L xs mdX1_init 9 (Ls) (.ref v :: .ref a :: st) h = ev L xs mdX1_init 12 (Ls) (st) (sR h 16 a v) := e_putR (k := 1) (f := 0) (F := 16) dX1_init_9 (by decide +kernel) rfl (by decide +kernel) rfl hk
theorem iX1_init_12 {x : Nat} {Ls st : List Value} {h : AH} : ev L xs mdX1_init 12 (.ref x :: Ls) (st) h = ev L xs mdX1_init 13 (.ref x :: Ls) (.ref x :: st) (h) := e_aload_n dX1_init_12 rfl
theorem iX1_init_13  {Ls st : List Value} {h : AH} : ev L xs mdX1_init 13 (Ls) (st) h = ev L xs mdX1_init 15 (Ls) (.int (nI 30) :: st) (h) := e_bipush dX1_init_13 (by decide)
theorem iX1_init_15 {c : Int32} {Ls st : List Value} {h : AH} (h0 : 0 ≤ c) (h1 : c ≤ 10000) : ev L xs mdX1_init 15 (Ls) (.int c :: st) h = ev L xs mdX1_init 17 (Ls) (.ref (hn h) :: st) (nw h 8 c.toNatClampNeg c.toNatClampNeg) := e_newI dX1_init_15 h0 h1
theorem iX1_init_17 {a v : Nat} {Ls st : List Value} {h : AH} (hk : hK h a = 1) : ev L xs mdX1_init 17 (Ls) (.ref v :: .ref a :: st) h = ev L xs mdX1_init 20 (Ls) (st) (sR h 18 a v) := e_putR (k := 1) (f := 2) (F := 18) dX1_init_17 (by decide +kernel) rfl (by decide +kernel) rfl hk
theorem iX1_init_20 {x : Nat} {Ls st : List Value} {h : AH} : ev L xs mdX1_init 20 (.ref x :: Ls) (st) h = ev L xs mdX1_init 21 (.ref x :: Ls) (.ref x :: st) (h) := e_aload_n dX1_init_20 rfl
theorem iX1_init_21  {Ls st : List Value} {h : AH} : ev L xs mdX1_init 21 (Ls) (st) h = ev L xs mdX1_init 23 (Ls) (.int (nI 30) :: st) (h) := e_bipush dX1_init_21 (by decide)
theorem iX1_init_23 {c : Int32} {Ls st : List Value} {h : AH} (h0 : 0 ≤ c) (h1 : c ≤ 10000) : ev L xs mdX1_init 23 (Ls) (.int c :: st) h = ev L xs mdX1_init 25 (Ls) (.ref (hn h) :: st) (nw h 8 c.toNatClampNeg c.toNatClampNeg) := e_newI dX1_init_23 h0 h1
theorem iX1_init_25 {a v : Nat} {Ls st : List Value} {h : AH} (hk : hK h a = 1) : ev L xs mdX1_init 25 (Ls) (.ref v :: .ref a :: st) h = ev L xs mdX1_init 28 (Ls) (st) (sR h 19 a v) := e_putR (k := 1) (f := 3) (F := 19) dX1_init_25 (by decide +kernel) rfl (by decide +kernel) rfl hk
theorem iX1_init_28 {x : Nat} {Ls st : List Value} {h : AH} : ev L xs mdX1_init 28 (.ref x :: Ls) (st) h = ev L xs mdX1_init 29 (.ref x :: Ls) (.ref x :: st) (h) := e_aload_n dX1_init_28 rfl
theorem iX1_init_29  {Ls st : List Value} {h : AH} : ev L xs mdX1_init 29 (Ls) (st) h = ev L xs mdX1_init 31 (Ls) (.int (nI 30) :: st) (h) := e_bipush dX1_init_29 (by decide)
theorem iX1_init_31 {c : Int32} {Ls st : List Value} {h : AH} (h0 : 0 ≤ c) (h1 : c ≤ 10000) : ev L xs mdX1_init 31 (Ls) (.int c :: st) h = ev L xs mdX1_init 33 (Ls) (.ref (hn h) :: st) (nw h 8 c.toNatClampNeg c.toNatClampNeg) := e_newI dX1_init_31 h0 h1
theorem iX1_init_33 {a v : Nat} {Ls st : List Value} {h : AH} (hk : hK h a = 1) : ev L xs mdX1_init 33 (Ls) (.ref v :: .ref a :: st) h = ev L xs mdX1_init 36 (Ls) (st) (sR h 20 a v) := e_putR (k := 1) (f := 4) (F := 20) dX1_init_33 (by decide +kernel) rfl (by decide +kernel) rfl hk
theorem iX1_init_36 {Ls : List Value} {h : AH} : ev L xs mdX1_init 36 Ls [] h = some (.inl (none, h)) := e_vret dX1_init_36 rfl
theorem dX2_allowsComplaint_0 : decode cX2_allowsComplaint 0 = .ok (.aload_n 0, 1) := by decide +kernel
theorem dX2_allowsComplaint_1 : decode cX2_allowsComplaint 1 = .ok (.getfield 24, 3) := by decide +kernel
theorem dX2_allowsComplaint_4 : decode cX2_allowsComplaint 4 = .ok (.iconst (-1), 1) := by decide +kernel
theorem dX2_allowsComplaint_5 : decode cX2_allowsComplaint 5 = .ok (.if_icmp .eq 29, 3) := by decide +kernel
theorem dX2_allowsComplaint_8 : decode cX2_allowsComplaint 8 = .ok (.aload_n 0, 1) := by decide +kernel
theorem dX2_allowsComplaint_9 : decode cX2_allowsComplaint 9 = .ok (.getfield 24, 3) := by decide +kernel
theorem dX2_allowsComplaint_12 : decode cX2_allowsComplaint 12 = .ok (.iload_n 1, 1) := by decide +kernel
theorem dX2_allowsComplaint_13 : decode cX2_allowsComplaint 13 = .ok (.bipush 10, 2) := by decide +kernel
theorem dX2_allowsComplaint_15 : decode cX2_allowsComplaint 15 = .ok (.isub, 1) := by decide +kernel
theorem dX2_allowsComplaint_16 : decode cX2_allowsComplaint 16 = .ok (.if_icmp .lt 18, 3) := by decide +kernel
theorem dX2_allowsComplaint_19 : decode cX2_allowsComplaint 19 = .ok (.aload_n 0, 1) := by decide +kernel
theorem dX2_allowsComplaint_20 : decode cX2_allowsComplaint 20 = .ok (.getfield 27, 3) := by decide +kernel
theorem dX2_allowsComplaint_23 : decode cX2_allowsComplaint 23 = .ok (.aload_n 0, 1) := by decide +kernel
theorem dX2_allowsComplaint_24 : decode cX2_allowsComplaint 24 = .ok (.getfield 24, 3) := by decide +kernel
theorem dX2_allowsComplaint_27 : decode cX2_allowsComplaint 27 = .ok (.if_icmp .gt 7, 3) := by decide +kernel
theorem dX2_allowsComplaint_30 : decode cX2_allowsComplaint 30 = .ok (.iconst 1, 1) := by decide +kernel
theorem dX2_allowsComplaint_31 : decode cX2_allowsComplaint 31 = .ok (.goto 4, 3) := by decide +kernel
theorem dX2_allowsComplaint_34 : decode cX2_allowsComplaint 34 = .ok (.iconst 0, 1) := by decide +kernel
theorem dX2_allowsComplaint_35 : decode cX2_allowsComplaint 35 = .ok (.ireturn, 1) := by decide +kernel
theorem iX2_allowsComplaint_0 {x : Nat} {Ls st : List Value} {h : AH} : ev L xs mdX2_allowsComplaint 0 (.ref x :: Ls) (st) h = ev L xs mdX2_allowsComplaint 1 (.ref x :: Ls) (.ref x :: st) (h) := e_aload_n dX2_allowsComplaint_0 rfl
theorem iX2_allowsComplaint_1 {a : Nat} {Ls st : List Value} {h : AH} (hk : hK h a = 2) : ev L xs mdX2_allowsComplaint 1 (Ls) (.ref a :: st) h = ev L xs mdX2_allowsComplaint 4 (Ls) (.int (hI h 36 a) :: st) (h) := e_getI (k := 2) (f := 4) (F := 36) dX2_allowsComplaint_1 (by decide +kernel) rfl rfl hk
theorem iX2_allowsComplaint_4  {Ls st : List Value} {h : AH} : ev L xs mdX2_allowsComplaint 4 (Ls) (st) h = ev L xs mdX2_allowsComplaint 5 (Ls) (.int (-1) :: st) (h) := e_iconst dX2_allowsComplaint_4 (by decide)
theorem iX2_allowsComplaint_5 {x z : Int32} {Ls st : List Value} {h : AH} : ev L xs mdX2_allowsComplaint 5 Ls (.int z :: .int x :: st) h = if x = z then ev L xs mdX2_allowsComplaint 34 Ls st h else ev L xs mdX2_allowsComplaint 8 Ls st h := e_ic_eq dX2_allowsComplaint_5 (by decide)
theorem iX2_allowsComplaint_8 {x : Nat} {Ls st : List Value} {h : AH} : ev L xs mdX2_allowsComplaint 8 (.ref x :: Ls) (st) h = ev L xs mdX2_allowsComplaint 9 (.ref x :: Ls) (.ref x :: st) (h) := e_aload_n dX2_allowsComplaint_8 rfl
theorem iX2_allowsComplaint_9 {a : Nat} {Ls st : List Value} {h : AH} (hk : hK h a = 2) : ev L xs mdX2_allowsComplaint 9 (Ls) (.ref a :: st) h = ev L xs mdX2_allowsComplaint 12 (Ls) (.int (hI h 36 a) :: st) (h) := e_getI (k := 2) (f := 4) (F := 36) dX2_allowsComplaint_9 (by decide +kernel) rfl rfl hk
theorem iX2_allowsComplaint_12 {v0 : Value} {x : Int32} {Ls st : List Value} {h : AH} : ev L xs mdX2_allowsComplaint 12 (v0 :: .int x :: Ls) (st) h = ev L xs mdX2_allowsComplaint 13 (v0 :: .int x :: Ls) (.int x :: st) (h) := e_iload_n dX2_allowsComplaint_12 rfl
theorem iX2_allowsComplaint_13  {Ls st : List Value} {h : AH} : ev L xs mdX2_allowsComplaint 13 (Ls) (st) h = ev L xs mdX2_allowsComplaint 15 (Ls) (.int (nI 10) :: st) (h) := e_bipush dX2_allowsComplaint_13 (by decide)
theorem iX2_allowsComplaint_15 {x z : Int32} {Ls st : List Value} {h : AH} : ev L xs mdX2_allowsComplaint 15 (Ls) (.int z :: .int x :: st) h = ev L xs mdX2_allowsComplaint 16 (Ls) (.int (x - z) :: st) (h) := e_isub dX2_allowsComplaint_15
theorem iX2_allowsComplaint_16 {x z : Int32} {Ls st : List Value} {h : AH} : ev L xs mdX2_allowsComplaint 16 Ls (.int z :: .int x :: st) h = if x < z then ev L xs mdX2_allowsComplaint 34 Ls st h else ev L xs mdX2_allowsComplaint 19 Ls st h := e_ic_lt dX2_allowsComplaint_16 (by decide)
theorem iX2_allowsComplaint_19 {x : Nat} {Ls st : List Value} {h : AH} : ev L xs mdX2_allowsComplaint 19 (.ref x :: Ls) (st) h = ev L xs mdX2_allowsComplaint 20 (.ref x :: Ls) (.ref x :: st) (h) := e_aload_n dX2_allowsComplaint_19 rfl
theorem iX2_allowsComplaint_20 {a : Nat} {Ls st : List Value} {h : AH} (hk : hK h a = 2) : ev L xs mdX2_allowsComplaint 20 (Ls) (.ref a :: st) h = ev L xs mdX2_allowsComplaint 23 (Ls) (.int (hI h 37 a) :: st) (h) := e_getI (k := 2) (f := 5) (F := 37) dX2_allowsComplaint_20 (by decide +kernel) rfl rfl hk
theorem iX2_allowsComplaint_23 {x : Nat} {Ls st : List Value} {h : AH} : ev L xs mdX2_allowsComplaint 23 (.ref x :: Ls) (st) h = ev L xs mdX2_allowsComplaint 24 (.ref x :: Ls) (.ref x :: st) (h) := e_aload_n dX2_allowsComplaint_23 rfl
theorem iX2_allowsComplaint_24 {a : Nat} {Ls st : List Value} {h : AH} (hk : hK h a = 2) : ev L xs mdX2_allowsComplaint 24 (Ls) (.ref a :: st) h = ev L xs mdX2_allowsComplaint 27 (Ls) (.int (hI h 36 a) :: st) (h) := e_getI (k := 2) (f := 4) (F := 36) dX2_allowsComplaint_24 (by decide +kernel) rfl rfl hk
theorem iX2_allowsComplaint_27 {x z : Int32} {Ls st : List Value} {h : AH} : ev L xs mdX2_allowsComplaint 27 Ls (.int z :: .int x :: st) h = if z < x then ev L xs mdX2_allowsComplaint 34 Ls st h else ev L xs mdX2_allowsComplaint 30 Ls st h := e_ic_gt dX2_allowsComplaint_27 (by decide)
theorem iX2_allowsComplaint_30  {Ls st : List Value} {h : AH} : ev L xs mdX2_allowsComplaint 30 (Ls) (st) h = ev L xs mdX2_allowsComplaint 31 (Ls) (.int (nI 1) :: st) (h) := e_iconst dX2_allowsComplaint_30 (by decide)
theorem iX2_allowsComplaint_31  {Ls st : List Value} {h : AH} : ev L xs mdX2_allowsComplaint 31 (Ls) (st) h = ev L xs mdX2_allowsComplaint 35 (Ls) (st) (h) := e_goto dX2_allowsComplaint_31 (by decide)
theorem iX2_allowsComplaint_34  {Ls st : List Value} {h : AH} : ev L xs mdX2_allowsComplaint 34 (Ls) (st) h = ev L xs mdX2_allowsComplaint 35 (Ls) (.int (nI 0) :: st) (h) := e_iconst dX2_allowsComplaint_34 (by decide)
theorem iX2_allowsComplaint_35 {v : Int32} {Ls : List Value} {h : AH} (hv : v = nI 0 ∨ v = nI 1) : ev L xs mdX2_allowsComplaint 35 Ls [.int v] h = some (.inl (some (.int v), h)) := e_zret dX2_allowsComplaint_35 rfl hv
theorem dX2_begin_0 : decode cX2_begin 0 = .ok (.aload_n 0, 1) := by decide +kernel
theorem dX2_begin_1 : decode cX2_begin 1 = .ok (.iload_n 1, 1) := by decide +kernel
theorem dX2_begin_2 : decode cX2_begin 2 = .ok (.putfield 9, 3) := by decide +kernel
theorem dX2_begin_5 : decode cX2_begin 5 = .ok (.aload_n 0, 1) := by decide +kernel
theorem dX2_begin_6 : decode cX2_begin 6 = .ok (.iload_n 2, 1) := by decide +kernel
theorem dX2_begin_7 : decode cX2_begin 7 = .ok (.putfield 15, 3) := by decide +kernel
theorem dX2_begin_10 : decode cX2_begin 10 = .ok (.aload_n 0, 1) := by decide +kernel
theorem dX2_begin_11 : decode cX2_begin 11 = .ok (.iconst 0, 1) := by decide +kernel
theorem dX2_begin_12 : decode cX2_begin 12 = .ok (.putfield 18, 3) := by decide +kernel
theorem dX2_begin_15 : decode cX2_begin 15 = .ok (.aload_n 0, 1) := by decide +kernel
theorem dX2_begin_16 : decode cX2_begin 16 = .ok (.iconst 0, 1) := by decide +kernel
theorem dX2_begin_17 : decode cX2_begin 17 = .ok (.putfield 21, 3) := by decide +kernel
theorem dX2_begin_20 : decode cX2_begin 20 = .ok (.aload_n 0, 1) := by decide +kernel
theorem dX2_begin_21 : decode cX2_begin 21 = .ok (.iconst (-1), 1) := by decide +kernel
theorem dX2_begin_22 : decode cX2_begin 22 = .ok (.putfield 24, 3) := by decide +kernel
theorem dX2_begin_25 : decode cX2_begin 25 = .ok (.aload_n 0, 1) := by decide +kernel
theorem dX2_begin_26 : decode cX2_begin 26 = .ok (.iconst (-1), 1) := by decide +kernel
theorem dX2_begin_27 : decode cX2_begin 27 = .ok (.putfield 27, 3) := by decide +kernel
theorem dX2_begin_30 : decode cX2_begin 30 = .ok (.aload_n 0, 1) := by decide +kernel
theorem dX2_begin_31 : decode cX2_begin 31 = .ok (.iconst 0, 1) := by decide +kernel
theorem dX2_begin_32 : decode cX2_begin 32 = .ok (.putfield 30, 3) := by decide +kernel
theorem dX2_begin_35 : decode cX2_begin 35 = .ok (.aload_n 0, 1) := by decide +kernel
theorem dX2_begin_36 : decode cX2_begin 36 = .ok (.iconst (-1), 1) := by decide +kernel
theorem dX2_begin_37 : decode cX2_begin 37 = .ok (.putfield 33, 3) := by decide +kernel
theorem dX2_begin_40 : decode cX2_begin 40 = .ok (.aload_n 0, 1) := by decide +kernel
theorem dX2_begin_41 : decode cX2_begin 41 = .ok (.iconst 0, 1) := by decide +kernel
theorem dX2_begin_42 : decode cX2_begin 42 = .ok (.putfield 36, 3) := by decide +kernel
theorem dX2_begin_45 : decode cX2_begin 45 = .ok (.return_, 1) := by decide +kernel
theorem iX2_begin_0 {x : Nat} {Ls st : List Value} {h : AH} : ev L xs mdX2_begin 0 (.ref x :: Ls) (st) h = ev L xs mdX2_begin 1 (.ref x :: Ls) (.ref x :: st) (h) := e_aload_n dX2_begin_0 rfl
theorem iX2_begin_1 {v0 : Value} {x : Int32} {Ls st : List Value} {h : AH} : ev L xs mdX2_begin 1 (v0 :: .int x :: Ls) (st) h = ev L xs mdX2_begin 2 (v0 :: .int x :: Ls) (.int x :: st) (h) := e_iload_n dX2_begin_1 rfl
theorem iX2_begin_2 {a : Nat} {v : Int32} {Ls st : List Value} {h : AH} (hk : hK h a = 2) : ev L xs mdX2_begin 2 (Ls) (.int v :: .ref a :: st) h = ev L xs mdX2_begin 5 (Ls) (st) (sI h 32 a v) := e_putI (k := 2) (f := 0) (F := 32) dX2_begin_2 (by decide +kernel) rfl (by decide +kernel) rfl hk
theorem iX2_begin_5 {x : Nat} {Ls st : List Value} {h : AH} : ev L xs mdX2_begin 5 (.ref x :: Ls) (st) h = ev L xs mdX2_begin 6 (.ref x :: Ls) (.ref x :: st) (h) := e_aload_n dX2_begin_5 rfl
theorem iX2_begin_6 {v0 : Value} {v1 : Value} {x : Int32} {Ls st : List Value} {h : AH} : ev L xs mdX2_begin 6 (v0 :: v1 :: .int x :: Ls) (st) h = ev L xs mdX2_begin 7 (v0 :: v1 :: .int x :: Ls) (.int x :: st) (h) := e_iload_n dX2_begin_6 rfl
theorem iX2_begin_7 {a : Nat} {v : Int32} {Ls st : List Value} {h : AH} (hk : hK h a = 2) : ev L xs mdX2_begin 7 (Ls) (.int v :: .ref a :: st) h = ev L xs mdX2_begin 10 (Ls) (st) (sI h 33 a v) := e_putI (k := 2) (f := 1) (F := 33) dX2_begin_7 (by decide +kernel) rfl (by decide +kernel) rfl hk
theorem iX2_begin_10 {x : Nat} {Ls st : List Value} {h : AH} : ev L xs mdX2_begin 10 (.ref x :: Ls) (st) h = ev L xs mdX2_begin 11 (.ref x :: Ls) (.ref x :: st) (h) := e_aload_n dX2_begin_10 rfl
theorem iX2_begin_11  {Ls st : List Value} {h : AH} : ev L xs mdX2_begin 11 (Ls) (st) h = ev L xs mdX2_begin 12 (Ls) (.int (nI 0) :: st) (h) := e_iconst dX2_begin_11 (by decide)
theorem iX2_begin_12 {a : Nat} {v : Int32} {Ls st : List Value} {h : AH} (hk : hK h a = 2) : ev L xs mdX2_begin 12 (Ls) (.int v :: .ref a :: st) h = ev L xs mdX2_begin 15 (Ls) (st) (sI h 34 a v) := e_putI (k := 2) (f := 2) (F := 34) dX2_begin_12 (by decide +kernel) rfl (by decide +kernel) rfl hk
theorem iX2_begin_15 {x : Nat} {Ls st : List Value} {h : AH} : ev L xs mdX2_begin 15 (.ref x :: Ls) (st) h = ev L xs mdX2_begin 16 (.ref x :: Ls) (.ref x :: st) (h) := e_aload_n dX2_begin_15 rfl
theorem iX2_begin_16  {Ls st : List Value} {h : AH} : ev L xs mdX2_begin 16 (Ls) (st) h = ev L xs mdX2_begin 17 (Ls) (.int (nI 0) :: st) (h) := e_iconst dX2_begin_16 (by decide)
theorem iX2_begin_17 {a : Nat} {v : Int32} {Ls st : List Value} {h : AH} (hk : hK h a = 2) : ev L xs mdX2_begin 17 (Ls) (.int v :: .ref a :: st) h = ev L xs mdX2_begin 20 (Ls) (st) (sI h 35 a v) := e_putI (k := 2) (f := 3) (F := 35) dX2_begin_17 (by decide +kernel) rfl (by decide +kernel) rfl hk
theorem iX2_begin_20 {x : Nat} {Ls st : List Value} {h : AH} : ev L xs mdX2_begin 20 (.ref x :: Ls) (st) h = ev L xs mdX2_begin 21 (.ref x :: Ls) (.ref x :: st) (h) := e_aload_n dX2_begin_20 rfl
theorem iX2_begin_21  {Ls st : List Value} {h : AH} : ev L xs mdX2_begin 21 (Ls) (st) h = ev L xs mdX2_begin 22 (Ls) (.int (-1) :: st) (h) := e_iconst dX2_begin_21 (by decide)
theorem iX2_begin_22 {a : Nat} {v : Int32} {Ls st : List Value} {h : AH} (hk : hK h a = 2) : ev L xs mdX2_begin 22 (Ls) (.int v :: .ref a :: st) h = ev L xs mdX2_begin 25 (Ls) (st) (sI h 36 a v) := e_putI (k := 2) (f := 4) (F := 36) dX2_begin_22 (by decide +kernel) rfl (by decide +kernel) rfl hk
theorem iX2_begin_25 {x : Nat} {Ls st : List Value} {h : AH} : ev L xs mdX2_begin 25 (.ref x :: Ls) (st) h = ev L xs mdX2_begin 26 (.ref x :: Ls) (.ref x :: st) (h) := e_aload_n dX2_begin_25 rfl
theorem iX2_begin_26  {Ls st : List Value} {h : AH} : ev L xs mdX2_begin 26 (Ls) (st) h = ev L xs mdX2_begin 27 (Ls) (.int (-1) :: st) (h) := e_iconst dX2_begin_26 (by decide)
theorem iX2_begin_27 {a : Nat} {v : Int32} {Ls st : List Value} {h : AH} (hk : hK h a = 2) : ev L xs mdX2_begin 27 (Ls) (.int v :: .ref a :: st) h = ev L xs mdX2_begin 30 (Ls) (st) (sI h 37 a v) := e_putI (k := 2) (f := 5) (F := 37) dX2_begin_27 (by decide +kernel) rfl (by decide +kernel) rfl hk
theorem iX2_begin_30 {x : Nat} {Ls st : List Value} {h : AH} : ev L xs mdX2_begin 30 (.ref x :: Ls) (st) h = ev L xs mdX2_begin 31 (.ref x :: Ls) (.ref x :: st) (h) := e_aload_n dX2_begin_30 rfl
theorem iX2_begin_31  {Ls st : List Value} {h : AH} : ev L xs mdX2_begin 31 (Ls) (st) h = ev L xs mdX2_begin 32 (Ls) (.int (nI 0) :: st) (h) := e_iconst dX2_begin_31 (by decide)
theorem iX2_begin_32 {a : Nat} {v : Int32} {Ls st : List Value} {h : AH} (hk : hK h a = 2) : ev L xs mdX2_begin 32 (Ls) (.int v :: .ref a :: st) h = ev L xs mdX2_begin 35 (Ls) (st) (sI h 38 a v) := e_putI (k := 2) (f := 6) (F := 38) dX2_begin_32 (by decide +kernel) rfl (by decide +kernel) rfl hk
theorem iX2_begin_35 {x : Nat} {Ls st : List Value} {h : AH} : ev L xs mdX2_begin 35 (.ref x :: Ls) (st) h = ev L xs mdX2_begin 36 (.ref x :: Ls) (.ref x :: st) (h) := e_aload_n dX2_begin_35 rfl
theorem iX2_begin_36  {Ls st : List Value} {h : AH} : ev L xs mdX2_begin 36 (Ls) (st) h = ev L xs mdX2_begin 37 (Ls) (.int (-1) :: st) (h) := e_iconst dX2_begin_36 (by decide)
theorem iX2_begin_37 {a : Nat} {v : Int32} {Ls st : List Value} {h : AH} (hk : hK h a = 2) : ev L xs mdX2_begin 37 (Ls) (.int v :: .ref a :: st) h = ev L xs mdX2_begin 40 (Ls) (st) (sI h 39 a v) := e_putI (k := 2) (f := 7) (F := 39) dX2_begin_37 (by decide +kernel) rfl (by decide +kernel) rfl hk
theorem iX2_begin_40 {x : Nat} {Ls st : List Value} {h : AH} : ev L xs mdX2_begin 40 (.ref x :: Ls) (st) h = ev L xs mdX2_begin 41 (.ref x :: Ls) (.ref x :: st) (h) := e_aload_n dX2_begin_40 rfl
theorem iX2_begin_41  {Ls st : List Value} {h : AH} : ev L xs mdX2_begin 41 (Ls) (st) h = ev L xs mdX2_begin 42 (Ls) (.int (nI 0) :: st) (h) := e_iconst dX2_begin_41 (by decide)
theorem iX2_begin_42 {a : Nat} {v : Int32} {Ls st : List Value} {h : AH} (hk : hK h a = 2) : ev L xs mdX2_begin 42 (Ls) (.int v :: .ref a :: st) h = ev L xs mdX2_begin 45 (Ls) (st) (sI h 40 a v) := e_putI (k := 2) (f := 8) (F := 40) dX2_begin_42 (by decide +kernel) rfl (by decide +kernel) rfl hk
theorem iX2_begin_45 {Ls : List Value} {h : AH} : ev L xs mdX2_begin 45 Ls [] h = some (.inl (none, h)) := e_vret dX2_begin_45 rfl
theorem dX2_copyFrom_0 : decode cX2_copyFrom 0 = .ok (.aload_n 0, 1) := by decide +kernel
theorem dX2_copyFrom_1 : decode cX2_copyFrom 1 = .ok (.aload_n 1, 1) := by decide +kernel
theorem dX2_copyFrom_2 : decode cX2_copyFrom 2 = .ok (.getfield 9, 3) := by decide +kernel
theorem dX2_copyFrom_5 : decode cX2_copyFrom 5 = .ok (.putfield 9, 3) := by decide +kernel
theorem dX2_copyFrom_8 : decode cX2_copyFrom 8 = .ok (.aload_n 0, 1) := by decide +kernel
theorem dX2_copyFrom_9 : decode cX2_copyFrom 9 = .ok (.aload_n 1, 1) := by decide +kernel
theorem dX2_copyFrom_10 : decode cX2_copyFrom 10 = .ok (.getfield 15, 3) := by decide +kernel
theorem dX2_copyFrom_13 : decode cX2_copyFrom 13 = .ok (.putfield 15, 3) := by decide +kernel
theorem dX2_copyFrom_16 : decode cX2_copyFrom 16 = .ok (.aload_n 0, 1) := by decide +kernel
theorem dX2_copyFrom_17 : decode cX2_copyFrom 17 = .ok (.aload_n 1, 1) := by decide +kernel
theorem dX2_copyFrom_18 : decode cX2_copyFrom 18 = .ok (.getfield 18, 3) := by decide +kernel
theorem dX2_copyFrom_21 : decode cX2_copyFrom 21 = .ok (.putfield 18, 3) := by decide +kernel
theorem dX2_copyFrom_24 : decode cX2_copyFrom 24 = .ok (.aload_n 0, 1) := by decide +kernel
theorem dX2_copyFrom_25 : decode cX2_copyFrom 25 = .ok (.aload_n 1, 1) := by decide +kernel
theorem dX2_copyFrom_26 : decode cX2_copyFrom 26 = .ok (.getfield 21, 3) := by decide +kernel
theorem dX2_copyFrom_29 : decode cX2_copyFrom 29 = .ok (.putfield 21, 3) := by decide +kernel
theorem dX2_copyFrom_32 : decode cX2_copyFrom 32 = .ok (.aload_n 0, 1) := by decide +kernel
theorem dX2_copyFrom_33 : decode cX2_copyFrom 33 = .ok (.aload_n 1, 1) := by decide +kernel
theorem dX2_copyFrom_34 : decode cX2_copyFrom 34 = .ok (.getfield 24, 3) := by decide +kernel
theorem dX2_copyFrom_37 : decode cX2_copyFrom 37 = .ok (.putfield 24, 3) := by decide +kernel
theorem dX2_copyFrom_40 : decode cX2_copyFrom 40 = .ok (.aload_n 0, 1) := by decide +kernel
theorem dX2_copyFrom_41 : decode cX2_copyFrom 41 = .ok (.aload_n 1, 1) := by decide +kernel
theorem dX2_copyFrom_42 : decode cX2_copyFrom 42 = .ok (.getfield 27, 3) := by decide +kernel
theorem dX2_copyFrom_45 : decode cX2_copyFrom 45 = .ok (.putfield 27, 3) := by decide +kernel
theorem dX2_copyFrom_48 : decode cX2_copyFrom 48 = .ok (.aload_n 0, 1) := by decide +kernel
theorem dX2_copyFrom_49 : decode cX2_copyFrom 49 = .ok (.aload_n 1, 1) := by decide +kernel
theorem dX2_copyFrom_50 : decode cX2_copyFrom 50 = .ok (.getfield 30, 3) := by decide +kernel
theorem dX2_copyFrom_53 : decode cX2_copyFrom 53 = .ok (.putfield 30, 3) := by decide +kernel
theorem dX2_copyFrom_56 : decode cX2_copyFrom 56 = .ok (.aload_n 0, 1) := by decide +kernel
theorem dX2_copyFrom_57 : decode cX2_copyFrom 57 = .ok (.aload_n 1, 1) := by decide +kernel
theorem dX2_copyFrom_58 : decode cX2_copyFrom 58 = .ok (.getfield 33, 3) := by decide +kernel
theorem dX2_copyFrom_61 : decode cX2_copyFrom 61 = .ok (.putfield 33, 3) := by decide +kernel
theorem dX2_copyFrom_64 : decode cX2_copyFrom 64 = .ok (.aload_n 0, 1) := by decide +kernel
theorem dX2_copyFrom_65 : decode cX2_copyFrom 65 = .ok (.aload_n 1, 1) := by decide +kernel
theorem dX2_copyFrom_66 : decode cX2_copyFrom 66 = .ok (.getfield 36, 3) := by decide +kernel
theorem dX2_copyFrom_69 : decode cX2_copyFrom 69 = .ok (.putfield 36, 3) := by decide +kernel
theorem dX2_copyFrom_72 : decode cX2_copyFrom 72 = .ok (.return_, 1) := by decide +kernel
theorem iX2_copyFrom_0 {x : Nat} {Ls st : List Value} {h : AH} : ev L xs mdX2_copyFrom 0 (.ref x :: Ls) (st) h = ev L xs mdX2_copyFrom 1 (.ref x :: Ls) (.ref x :: st) (h) := e_aload_n dX2_copyFrom_0 rfl
theorem iX2_copyFrom_1 {v0 : Value} {x : Nat} {Ls st : List Value} {h : AH} : ev L xs mdX2_copyFrom 1 (v0 :: .ref x :: Ls) (st) h = ev L xs mdX2_copyFrom 2 (v0 :: .ref x :: Ls) (.ref x :: st) (h) := e_aload_n dX2_copyFrom_1 rfl
theorem iX2_copyFrom_2 {a : Nat} {Ls st : List Value} {h : AH} (hk : hK h a = 2) : ev L xs mdX2_copyFrom 2 (Ls) (.ref a :: st) h = ev L xs mdX2_copyFrom 5 (Ls) (.int (hI h 32 a) :: st) (h) := e_getI (k := 2) (f := 0) (F := 32) dX2_copyFrom_2 (by decide +kernel) rfl rfl hk
theorem iX2_copyFrom_5 {a : Nat} {v : Int32} {Ls st : List Value} {h : AH} (hk : hK h a = 2) : ev L xs mdX2_copyFrom 5 (Ls) (.int v :: .ref a :: st) h = ev L xs mdX2_copyFrom 8 (Ls) (st) (sI h 32 a v) := e_putI (k := 2) (f := 0) (F := 32) dX2_copyFrom_5 (by decide +kernel) rfl (by decide +kernel) rfl hk
theorem iX2_copyFrom_8 {x : Nat} {Ls st : List Value} {h : AH} : ev L xs mdX2_copyFrom 8 (.ref x :: Ls) (st) h = ev L xs mdX2_copyFrom 9 (.ref x :: Ls) (.ref x :: st) (h) := e_aload_n dX2_copyFrom_8 rfl
theorem iX2_copyFrom_9 {v0 : Value} {x : Nat} {Ls st : List Value} {h : AH} : ev L xs mdX2_copyFrom 9 (v0 :: .ref x :: Ls) (st) h = ev L xs mdX2_copyFrom 10 (v0 :: .ref x :: Ls) (.ref x :: st) (h) := e_aload_n dX2_copyFrom_9 rfl
theorem iX2_copyFrom_10 {a : Nat} {Ls st : List Value} {h : AH} (hk : hK h a = 2) : ev L xs mdX2_copyFrom 10 (Ls) (.ref a :: st) h = ev L xs mdX2_copyFrom 13 (Ls) (.int (hI h 33 a) :: st) (h) := e_getI (k := 2) (f := 1) (F := 33) dX2_copyFrom_10 (by decide +kernel) rfl rfl hk
theorem iX2_copyFrom_13 {a : Nat} {v : Int32} {Ls st : List Value} {h : AH} (hk : hK h a = 2) : ev L xs mdX2_copyFrom 13 (Ls) (.int v :: .ref a :: st) h = ev L xs mdX2_copyFrom 16 (Ls) (st) (sI h 33 a v) := e_putI (k := 2) (f := 1) (F := 33) dX2_copyFrom_13 (by decide +kernel) rfl (by decide +kernel) rfl hk
theorem iX2_copyFrom_16 {x : Nat} {Ls st : List Value} {h : AH} : ev L xs mdX2_copyFrom 16 (.ref x :: Ls) (st) h = ev L xs mdX2_copyFrom 17 (.ref x :: Ls) (.ref x :: st) (h) := e_aload_n dX2_copyFrom_16 rfl
theorem iX2_copyFrom_17 {v0 : Value} {x : Nat} {Ls st : List Value} {h : AH} : ev L xs mdX2_copyFrom 17 (v0 :: .ref x :: Ls) (st) h = ev L xs mdX2_copyFrom 18 (v0 :: .ref x :: Ls) (.ref x :: st) (h) := e_aload_n dX2_copyFrom_17 rfl
theorem iX2_copyFrom_18 {a : Nat} {Ls st : List Value} {h : AH} (hk : hK h a = 2) : ev L xs mdX2_copyFrom 18 (Ls) (.ref a :: st) h = ev L xs mdX2_copyFrom 21 (Ls) (.int (hI h 34 a) :: st) (h) := e_getI (k := 2) (f := 2) (F := 34) dX2_copyFrom_18 (by decide +kernel) rfl rfl hk
theorem iX2_copyFrom_21 {a : Nat} {v : Int32} {Ls st : List Value} {h : AH} (hk : hK h a = 2) : ev L xs mdX2_copyFrom 21 (Ls) (.int v :: .ref a :: st) h = ev L xs mdX2_copyFrom 24 (Ls) (st) (sI h 34 a v) := e_putI (k := 2) (f := 2) (F := 34) dX2_copyFrom_21 (by decide +kernel) rfl (by decide +kernel) rfl hk
theorem iX2_copyFrom_24 {x : Nat} {Ls st : List Value} {h : AH} : ev L xs mdX2_copyFrom 24 (.ref x :: Ls) (st) h = ev L xs mdX2_copyFrom 25 (.ref x :: Ls) (.ref x :: st) (h) := e_aload_n dX2_copyFrom_24 rfl
theorem iX2_copyFrom_25 {v0 : Value} {x : Nat} {Ls st : List Value} {h : AH} : ev L xs mdX2_copyFrom 25 (v0 :: .ref x :: Ls) (st) h = ev L xs mdX2_copyFrom 26 (v0 :: .ref x :: Ls) (.ref x :: st) (h) := e_aload_n dX2_copyFrom_25 rfl
theorem iX2_copyFrom_26 {a : Nat} {Ls st : List Value} {h : AH} (hk : hK h a = 2) : ev L xs mdX2_copyFrom 26 (Ls) (.ref a :: st) h = ev L xs mdX2_copyFrom 29 (Ls) (.int (hI h 35 a) :: st) (h) := e_getI (k := 2) (f := 3) (F := 35) dX2_copyFrom_26 (by decide +kernel) rfl rfl hk
theorem iX2_copyFrom_29 {a : Nat} {v : Int32} {Ls st : List Value} {h : AH} (hk : hK h a = 2) : ev L xs mdX2_copyFrom 29 (Ls) (.int v :: .ref a :: st) h = ev L xs mdX2_copyFrom 32 (Ls) (st) (sI h 35 a v) := e_putI (k := 2) (f := 3) (F := 35) dX2_copyFrom_29 (by decide +kernel) rfl (by decide +kernel) rfl hk
theorem iX2_copyFrom_32 {x : Nat} {Ls st : List Value} {h : AH} : ev L xs mdX2_copyFrom 32 (.ref x :: Ls) (st) h = ev L xs mdX2_copyFrom 33 (.ref x :: Ls) (.ref x :: st) (h) := e_aload_n dX2_copyFrom_32 rfl
theorem iX2_copyFrom_33 {v0 : Value} {x : Nat} {Ls st : List Value} {h : AH} : ev L xs mdX2_copyFrom 33 (v0 :: .ref x :: Ls) (st) h = ev L xs mdX2_copyFrom 34 (v0 :: .ref x :: Ls) (.ref x :: st) (h) := e_aload_n dX2_copyFrom_33 rfl
theorem iX2_copyFrom_34 {a : Nat} {Ls st : List Value} {h : AH} (hk : hK h a = 2) : ev L xs mdX2_copyFrom 34 (Ls) (.ref a :: st) h = ev L xs mdX2_copyFrom 37 (Ls) (.int (hI h 36 a) :: st) (h) := e_getI (k := 2) (f := 4) (F := 36) dX2_copyFrom_34 (by decide +kernel) rfl rfl hk
theorem iX2_copyFrom_37 {a : Nat} {v : Int32} {Ls st : List Value} {h : AH} (hk : hK h a = 2) : ev L xs mdX2_copyFrom 37 (Ls) (.int v :: .ref a :: st) h = ev L xs mdX2_copyFrom 40 (Ls) (st) (sI h 36 a v) := e_putI (k := 2) (f := 4) (F := 36) dX2_copyFrom_37 (by decide +kernel) rfl (by decide +kernel) rfl hk
theorem iX2_copyFrom_40 {x : Nat} {Ls st : List Value} {h : AH} : ev L xs mdX2_copyFrom 40 (.ref x :: Ls) (st) h = ev L xs mdX2_copyFrom 41 (.ref x :: Ls) (.ref x :: st) (h) := e_aload_n dX2_copyFrom_40 rfl
theorem iX2_copyFrom_41 {v0 : Value} {x : Nat} {Ls st : List Value} {h : AH} : ev L xs mdX2_copyFrom 41 (v0 :: .ref x :: Ls) (st) h = ev L xs mdX2_copyFrom 42 (v0 :: .ref x :: Ls) (.ref x :: st) (h) := e_aload_n dX2_copyFrom_41 rfl
theorem iX2_copyFrom_42 {a : Nat} {Ls st : List Value} {h : AH} (hk : hK h a = 2) : ev L xs mdX2_copyFrom 42 (Ls) (.ref a :: st) h = ev L xs mdX2_copyFrom 45 (Ls) (.int (hI h 37 a) :: st) (h) := e_getI (k := 2) (f := 5) (F := 37) dX2_copyFrom_42 (by decide +kernel) rfl rfl hk
theorem iX2_copyFrom_45 {a : Nat} {v : Int32} {Ls st : List Value} {h : AH} (hk : hK h a = 2) : ev L xs mdX2_copyFrom 45 (Ls) (.int v :: .ref a :: st) h = ev L xs mdX2_copyFrom 48 (Ls) (st) (sI h 37 a v) := e_putI (k := 2) (f := 5) (F := 37) dX2_copyFrom_45 (by decide +kernel) rfl (by decide +kernel) rfl hk
theorem iX2_copyFrom_48 {x : Nat} {Ls st : List Value} {h : AH} : ev L xs mdX2_copyFrom 48 (.ref x :: Ls) (st) h = ev L xs mdX2_copyFrom 49 (.ref x :: Ls) (.ref x :: st) (h) := e_aload_n dX2_copyFrom_48 rfl
theorem iX2_copyFrom_49 {v0 : Value} {x : Nat} {Ls st : List Value} {h : AH} : ev L xs mdX2_copyFrom 49 (v0 :: .ref x :: Ls) (st) h = ev L xs mdX2_copyFrom 50 (v0 :: .ref x :: Ls) (.ref x :: st) (h) := e_aload_n dX2_copyFrom_49 rfl
theorem iX2_copyFrom_50 {a : Nat} {Ls st : List Value} {h : AH} (hk : hK h a = 2) : ev L xs mdX2_copyFrom 50 (Ls) (.ref a :: st) h = ev L xs mdX2_copyFrom 53 (Ls) (.int (hI h 38 a) :: st) (h) := e_getI (k := 2) (f := 6) (F := 38) dX2_copyFrom_50 (by decide +kernel) rfl rfl hk
theorem iX2_copyFrom_53 {a : Nat} {v : Int32} {Ls st : List Value} {h : AH} (hk : hK h a = 2) : ev L xs mdX2_copyFrom 53 (Ls) (.int v :: .ref a :: st) h = ev L xs mdX2_copyFrom 56 (Ls) (st) (sI h 38 a v) := e_putI (k := 2) (f := 6) (F := 38) dX2_copyFrom_53 (by decide +kernel) rfl (by decide +kernel) rfl hk
theorem iX2_copyFrom_56 {x : Nat} {Ls st : List Value} {h : AH} : ev L xs mdX2_copyFrom 56 (.ref x :: Ls) (st) h = ev L xs mdX2_copyFrom 57 (.ref x :: Ls) (.ref x :: st) (h) := e_aload_n dX2_copyFrom_56 rfl
theorem iX2_copyFrom_57 {v0 : Value} {x : Nat} {Ls st : List Value} {h : AH} : ev L xs mdX2_copyFrom 57 (v0 :: .ref x :: Ls) (st) h = ev L xs mdX2_copyFrom 58 (v0 :: .ref x :: Ls) (.ref x :: st) (h) := e_aload_n dX2_copyFrom_57 rfl
theorem iX2_copyFrom_58 {a : Nat} {Ls st : List Value} {h : AH} (hk : hK h a = 2) : ev L xs mdX2_copyFrom 58 (Ls) (.ref a :: st) h = ev L xs mdX2_copyFrom 61 (Ls) (.int (hI h 39 a) :: st) (h) := e_getI (k := 2) (f := 7) (F := 39) dX2_copyFrom_58 (by decide +kernel) rfl rfl hk
theorem iX2_copyFrom_61 {a : Nat} {v : Int32} {Ls st : List Value} {h : AH} (hk : hK h a = 2) : ev L xs mdX2_copyFrom 61 (Ls) (.int v :: .ref a :: st) h = ev L xs mdX2_copyFrom 64 (Ls) (st) (sI h 39 a v) := e_putI (k := 2) (f := 7) (F := 39) dX2_copyFrom_61 (by decide +kernel) rfl (by decide +kernel) rfl hk
theorem iX2_copyFrom_64 {x : Nat} {Ls st : List Value} {h : AH} : ev L xs mdX2_copyFrom 64 (.ref x :: Ls) (st) h = ev L xs mdX2_copyFrom 65 (.ref x :: Ls) (.ref x :: st) (h) := e_aload_n dX2_copyFrom_64 rfl
theorem iX2_copyFrom_65 {v0 : Value} {x : Nat} {Ls st : List Value} {h : AH} : ev L xs mdX2_copyFrom 65 (v0 :: .ref x :: Ls) (st) h = ev L xs mdX2_copyFrom 66 (v0 :: .ref x :: Ls) (.ref x :: st) (h) := e_aload_n dX2_copyFrom_65 rfl
theorem iX2_copyFrom_66 {a : Nat} {Ls st : List Value} {h : AH} (hk : hK h a = 2) : ev L xs mdX2_copyFrom 66 (Ls) (.ref a :: st) h = ev L xs mdX2_copyFrom 69 (Ls) (.int (hI h 40 a) :: st) (h) := e_getI (k := 2) (f := 8) (F := 40) dX2_copyFrom_66 (by decide +kernel) rfl rfl hk
theorem iX2_copyFrom_69 {a : Nat} {v : Int32} {Ls st : List Value} {h : AH} (hk : hK h a = 2) : ev L xs mdX2_copyFrom 69 (Ls) (.int v :: .ref a :: st) h = ev L xs mdX2_copyFrom 72 (Ls) (st) (sI h 40 a v) := e_putI (k := 2) (f := 8) (F := 40) dX2_copyFrom_69 (by decide +kernel) rfl (by decide +kernel) rfl hk
theorem iX2_copyFrom_72 {Ls : List Value} {h : AH} : ev L xs mdX2_copyFrom 72 Ls [] h = some (.inl (none, h)) := e_vret dX2_copyFrom_72 rfl
theorem dX2_fileComplaint_0 : decode cX2_fileComplaint 0 = .ok (.aload_n 0, 1) := by decide +kernel
theorem dX2_fileComplaint_1 : decode cX2_fileComplaint 1 = .ok (.dup, 1) := by decide +kernel
theorem dX2_fileComplaint_2 : decode cX2_fileComplaint 2 = .ok (.getfield 21, 3) := by decide +kernel
theorem dX2_fileComplaint_5 : decode cX2_fileComplaint 5 = .ok (.iconst 1, 1) := by decide +kernel
theorem dX2_fileComplaint_6 : decode cX2_fileComplaint 6 = .ok (.iadd, 1) := by decide +kernel
theorem dX2_fileComplaint_7 : decode cX2_fileComplaint 7 = .ok (.putfield 21, 3) := by decide +kernel
theorem dX2_fileComplaint_10 : decode cX2_fileComplaint 10 = .ok (.aload_n 0, 1) := by decide +kernel
theorem dX2_fileComplaint_11 : decode cX2_fileComplaint 11 = .ok (.iload_n 1, 1) := by decide +kernel
theorem dX2_fileComplaint_12 : decode cX2_fileComplaint 12 = .ok (.putfield 27, 3) := by decide +kernel
theorem dX2_fileComplaint_15 : decode cX2_fileComplaint 15 = .ok (.aload_n 0, 1) := by decide +kernel
theorem dX2_fileComplaint_16 : decode cX2_fileComplaint 16 = .ok (.iload_n 1, 1) := by decide +kernel
theorem dX2_fileComplaint_17 : decode cX2_fileComplaint 17 = .ok (.bipush 20, 2) := by decide +kernel
theorem dX2_fileComplaint_19 : decode cX2_fileComplaint 19 = .ok (.iadd, 1) := by decide +kernel
theorem dX2_fileComplaint_20 : decode cX2_fileComplaint 20 = .ok (.putfield 30, 3) := by decide +kernel
theorem dX2_fileComplaint_23 : decode cX2_fileComplaint 23 = .ok (.return_, 1) := by decide +kernel
theorem iX2_fileComplaint_0 {x : Nat} {Ls st : List Value} {h : AH} : ev L xs mdX2_fileComplaint 0 (.ref x :: Ls) (st) h = ev L xs mdX2_fileComplaint 1 (.ref x :: Ls) (.ref x :: st) (h) := e_aload_n dX2_fileComplaint_0 rfl
theorem iX2_fileComplaint_1 {a : Nat} {Ls st : List Value} {h : AH} : ev L xs mdX2_fileComplaint 1 (Ls) (.ref a :: st) h = ev L xs mdX2_fileComplaint 2 (Ls) (.ref a :: .ref a :: st) (h) := e_dup dX2_fileComplaint_1 rfl
theorem iX2_fileComplaint_1i {a : Int32} {Ls st : List Value} {h : AH} : ev L xs mdX2_fileComplaint 1 (Ls) (.int a :: st) h = ev L xs mdX2_fileComplaint 2 (Ls) (.int a :: .int a :: st) (h) := e_dup dX2_fileComplaint_1 rfl
theorem iX2_fileComplaint_2 {a : Nat} {Ls st : List Value} {h : AH} (hk : hK h a = 2) : ev L xs mdX2_fileComplaint 2 (Ls) (.ref a :: st) h = ev L xs mdX2_fileComplaint 5 (Ls) (.int (hI h 35 a) :: st) (h) := e_getI (k := 2) (f := 3) (F := 35) dX2_fileComplaint_2 (by decide +kernel) rfl rfl hk
theorem iX2_fileComplaint_5  {Ls st : List Value} {h : AH} : ev L xs mdX2_fileComplaint 5 (Ls) (st) h = ev L xs mdX2_fileComplaint 6 (Ls) (.int (nI 1) :: st) (h) := e_iconst dX2_fileComplaint_5 (by decide)
theorem iX2_fileComplaint_6 {x z : Int32} {Ls st : List Value} {h : AH} : ev L xs mdX2_fileComplaint 6 (Ls) (.int z :: .int x :: st) h = ev L xs mdX2_fileComplaint 7 (Ls) (.int (x + z) :: st) (h) := e_iadd dX2_fileComplaint_6
theorem iX2_fileComplaint_7 {a : Nat} {v : Int32} {Ls st : List Value} {h : AH} (hk : hK h a = 2) : ev L xs mdX2_fileComplaint 7 (Ls) (.int v :: .ref a :: st) h = ev L xs mdX2_fileComplaint 10 (Ls) (st) (sI h 35 a v) := e_putI (k := 2) (f := 3) (F := 35) dX2_fileComplaint_7 (by decide +kernel) rfl (by decide +kernel) rfl hk
theorem iX2_fileComplaint_10 {x : Nat} {Ls st : List Value} {h : AH} : ev L xs mdX2_fileComplaint 10 (.ref x :: Ls) (st) h = ev L xs mdX2_fileComplaint 11 (.ref x :: Ls) (.ref x :: st) (h) := e_aload_n dX2_fileComplaint_10 rfl
theorem iX2_fileComplaint_11 {v0 : Value} {x : Int32} {Ls st : List Value} {h : AH} : ev L xs mdX2_fileComplaint 11 (v0 :: .int x :: Ls) (st) h = ev L xs mdX2_fileComplaint 12 (v0 :: .int x :: Ls) (.int x :: st) (h) := e_iload_n dX2_fileComplaint_11 rfl
theorem iX2_fileComplaint_12 {a : Nat} {v : Int32} {Ls st : List Value} {h : AH} (hk : hK h a = 2) : ev L xs mdX2_fileComplaint 12 (Ls) (.int v :: .ref a :: st) h = ev L xs mdX2_fileComplaint 15 (Ls) (st) (sI h 37 a v) := e_putI (k := 2) (f := 5) (F := 37) dX2_fileComplaint_12 (by decide +kernel) rfl (by decide +kernel) rfl hk
theorem iX2_fileComplaint_15 {x : Nat} {Ls st : List Value} {h : AH} : ev L xs mdX2_fileComplaint 15 (.ref x :: Ls) (st) h = ev L xs mdX2_fileComplaint 16 (.ref x :: Ls) (.ref x :: st) (h) := e_aload_n dX2_fileComplaint_15 rfl
theorem iX2_fileComplaint_16 {v0 : Value} {x : Int32} {Ls st : List Value} {h : AH} : ev L xs mdX2_fileComplaint 16 (v0 :: .int x :: Ls) (st) h = ev L xs mdX2_fileComplaint 17 (v0 :: .int x :: Ls) (.int x :: st) (h) := e_iload_n dX2_fileComplaint_16 rfl
theorem iX2_fileComplaint_17  {Ls st : List Value} {h : AH} : ev L xs mdX2_fileComplaint 17 (Ls) (st) h = ev L xs mdX2_fileComplaint 19 (Ls) (.int (nI 20) :: st) (h) := e_bipush dX2_fileComplaint_17 (by decide)
theorem iX2_fileComplaint_19 {x z : Int32} {Ls st : List Value} {h : AH} : ev L xs mdX2_fileComplaint 19 (Ls) (.int z :: .int x :: st) h = ev L xs mdX2_fileComplaint 20 (Ls) (.int (x + z) :: st) (h) := e_iadd dX2_fileComplaint_19
theorem iX2_fileComplaint_20 {a : Nat} {v : Int32} {Ls st : List Value} {h : AH} (hk : hK h a = 2) : ev L xs mdX2_fileComplaint 20 (Ls) (.int v :: .ref a :: st) h = ev L xs mdX2_fileComplaint 23 (Ls) (st) (sI h 38 a v) := e_putI (k := 2) (f := 6) (F := 38) dX2_fileComplaint_20 (by decide +kernel) rfl (by decide +kernel) rfl hk
theorem iX2_fileComplaint_23 {Ls : List Value} {h : AH} : ev L xs mdX2_fileComplaint 23 Ls [] h = some (.inl (none, h)) := e_vret dX2_fileComplaint_23 rfl
theorem dX2_hasPriority_0 : decode cX2_hasPriority 0 = .ok (.iload_n 1, 1) := by decide +kernel
theorem dX2_hasPriority_1 : decode cX2_hasPriority 1 = .ok (.aload_n 0, 1) := by decide +kernel
theorem dX2_hasPriority_2 : decode cX2_hasPriority 2 = .ok (.getfield 30, 3) := by decide +kernel
theorem dX2_hasPriority_5 : decode cX2_hasPriority 5 = .ok (.if_icmp .ge 7, 3) := by decide +kernel
theorem dX2_hasPriority_8 : decode cX2_hasPriority 8 = .ok (.iconst 1, 1) := by decide +kernel
theorem dX2_hasPriority_9 : decode cX2_hasPriority 9 = .ok (.goto 4, 3) := by decide +kernel
theorem dX2_hasPriority_12 : decode cX2_hasPriority 12 = .ok (.iconst 0, 1) := by decide +kernel
theorem dX2_hasPriority_13 : decode cX2_hasPriority 13 = .ok (.ireturn, 1) := by decide +kernel
theorem iX2_hasPriority_0 {v0 : Value} {x : Int32} {Ls st : List Value} {h : AH} : ev L xs mdX2_hasPriority 0 (v0 :: .int x :: Ls) (st) h = ev L xs mdX2_hasPriority 1 (v0 :: .int x :: Ls) (.int x :: st) (h) := e_iload_n dX2_hasPriority_0 rfl
theorem iX2_hasPriority_1 {x : Nat} {Ls st : List Value} {h : AH} : ev L xs mdX2_hasPriority 1 (.ref x :: Ls) (st) h = ev L xs mdX2_hasPriority 2 (.ref x :: Ls) (.ref x :: st) (h) := e_aload_n dX2_hasPriority_1 rfl
theorem iX2_hasPriority_2 {a : Nat} {Ls st : List Value} {h : AH} (hk : hK h a = 2) : ev L xs mdX2_hasPriority 2 (Ls) (.ref a :: st) h = ev L xs mdX2_hasPriority 5 (Ls) (.int (hI h 38 a) :: st) (h) := e_getI (k := 2) (f := 6) (F := 38) dX2_hasPriority_2 (by decide +kernel) rfl rfl hk
theorem iX2_hasPriority_5 {x z : Int32} {Ls st : List Value} {h : AH} : ev L xs mdX2_hasPriority 5 Ls (.int z :: .int x :: st) h = if z ≤ x then ev L xs mdX2_hasPriority 12 Ls st h else ev L xs mdX2_hasPriority 8 Ls st h := e_ic_ge dX2_hasPriority_5 (by decide)
theorem iX2_hasPriority_8  {Ls st : List Value} {h : AH} : ev L xs mdX2_hasPriority 8 (Ls) (st) h = ev L xs mdX2_hasPriority 9 (Ls) (.int (nI 1) :: st) (h) := e_iconst dX2_hasPriority_8 (by decide)
theorem iX2_hasPriority_9  {Ls st : List Value} {h : AH} : ev L xs mdX2_hasPriority 9 (Ls) (st) h = ev L xs mdX2_hasPriority 13 (Ls) (st) (h) := e_goto dX2_hasPriority_9 (by decide)
theorem iX2_hasPriority_12  {Ls st : List Value} {h : AH} : ev L xs mdX2_hasPriority 12 (Ls) (st) h = ev L xs mdX2_hasPriority 13 (Ls) (.int (nI 0) :: st) (h) := e_iconst dX2_hasPriority_12 (by decide)
theorem iX2_hasPriority_13 {v : Int32} {Ls : List Value} {h : AH} (hv : v = nI 0 ∨ v = nI 1) : ev L xs mdX2_hasPriority 13 Ls [.int v] h = some (.inl (some (.int v), h)) := e_zret dX2_hasPriority_13 rfl hv
theorem dX2_init_0 : decode cX2_init 0 = .ok (.aload_n 0, 1) := by decide +kernel
theorem dX2_init_1 : decode cX2_init 1 = .ok (.invokespecial 3, 3) := by decide +kernel
theorem dX2_init_4 : decode cX2_init 4 = .ok (.return_, 1) := by decide +kernel
theorem iX2_init_0 {x : Nat} {Ls st : List Value} {h : AH} : ev L xs mdX2_init 0 (.ref x :: Ls) (st) h = ev L xs mdX2_init 1 (.ref x :: Ls) (.ref x :: st) (h) := e_aload_n dX2_init_0 rfl
theorem iX2_init_1 {a : Nat} {Ls st : List Value} {h : AH} (hw : wds st ≤ 8) : ev L xs mdX2_init 1 (Ls) (.ref a :: st) h = ev L xs mdX2_init 4 (Ls) (st) (h) := e_obj dX2_init_1 mr_2_3 (by decide) hw
theorem iX2_init_4 {Ls : List Value} {h : AH} : ev L xs mdX2_init 4 Ls [] h = some (.inl (none, h)) := e_vret dX2_init_4 rfl
theorem dX2_note_0 : decode cX2_note 0 = .ok (.aload_n 0, 1) := by decide +kernel
theorem dX2_note_1 : decode cX2_note 1 = .ok (.iload_n 1, 1) := by decide +kernel
theorem dX2_note_2 : decode cX2_note 2 = .ok (.putfield 33, 3) := by decide +kernel
theorem dX2_note_5 : decode cX2_note 5 = .ok (.aload_n 0, 1) := by decide +kernel
theorem dX2_note_6 : decode cX2_note 6 = .ok (.iload_n 2, 1) := by decide +kernel
theorem dX2_note_7 : decode cX2_note 7 = .ok (.putfield 36, 3) := by decide +kernel
theorem dX2_note_10 : decode cX2_note 10 = .ok (.iload_n 2, 1) := by decide +kernel
theorem dX2_note_11 : decode cX2_note 11 = .ok (.ifCond .eq 18, 3) := by decide +kernel
theorem dX2_note_14 : decode cX2_note 14 = .ok (.aload_n 0, 1) := by decide +kernel
theorem dX2_note_15 : decode cX2_note 15 = .ok (.dup, 1) := by decide +kernel
theorem dX2_note_16 : decode cX2_note 16 = .ok (.getfield 18, 3) := by decide +kernel
theorem dX2_note_19 : decode cX2_note 19 = .ok (.iconst 1, 1) := by decide +kernel
theorem dX2_note_20 : decode cX2_note 20 = .ok (.iadd, 1) := by decide +kernel
theorem dX2_note_21 : decode cX2_note 21 = .ok (.putfield 18, 3) := by decide +kernel
theorem dX2_note_24 : decode cX2_note 24 = .ok (.aload_n 0, 1) := by decide +kernel
theorem dX2_note_25 : decode cX2_note 25 = .ok (.iload_n 3, 1) := by decide +kernel
theorem dX2_note_26 : decode cX2_note 26 = .ok (.putfield 24, 3) := by decide +kernel
theorem dX2_note_29 : decode cX2_note 29 = .ok (.return_, 1) := by decide +kernel
theorem iX2_note_0 {x : Nat} {Ls st : List Value} {h : AH} : ev L xs mdX2_note 0 (.ref x :: Ls) (st) h = ev L xs mdX2_note 1 (.ref x :: Ls) (.ref x :: st) (h) := e_aload_n dX2_note_0 rfl
theorem iX2_note_1 {v0 : Value} {x : Int32} {Ls st : List Value} {h : AH} : ev L xs mdX2_note 1 (v0 :: .int x :: Ls) (st) h = ev L xs mdX2_note 2 (v0 :: .int x :: Ls) (.int x :: st) (h) := e_iload_n dX2_note_1 rfl
theorem iX2_note_2 {a : Nat} {v : Int32} {Ls st : List Value} {h : AH} (hk : hK h a = 2) : ev L xs mdX2_note 2 (Ls) (.int v :: .ref a :: st) h = ev L xs mdX2_note 5 (Ls) (st) (sI h 39 a v) := e_putI (k := 2) (f := 7) (F := 39) dX2_note_2 (by decide +kernel) rfl (by decide +kernel) rfl hk
theorem iX2_note_5 {x : Nat} {Ls st : List Value} {h : AH} : ev L xs mdX2_note 5 (.ref x :: Ls) (st) h = ev L xs mdX2_note 6 (.ref x :: Ls) (.ref x :: st) (h) := e_aload_n dX2_note_5 rfl
theorem iX2_note_6 {v0 : Value} {v1 : Value} {x : Int32} {Ls st : List Value} {h : AH} : ev L xs mdX2_note 6 (v0 :: v1 :: .int x :: Ls) (st) h = ev L xs mdX2_note 7 (v0 :: v1 :: .int x :: Ls) (.int x :: st) (h) := e_iload_n dX2_note_6 rfl
theorem iX2_note_7 {a : Nat} {v : Int32} {Ls st : List Value} {h : AH} (hk : hK h a = 2) : ev L xs mdX2_note 7 (Ls) (.int v :: .ref a :: st) h = ev L xs mdX2_note 10 (Ls) (st) (sI h 40 a v) := e_putI (k := 2) (f := 8) (F := 40) dX2_note_7 (by decide +kernel) rfl (by decide +kernel) rfl hk
theorem iX2_note_10 {v0 : Value} {v1 : Value} {x : Int32} {Ls st : List Value} {h : AH} : ev L xs mdX2_note 10 (v0 :: v1 :: .int x :: Ls) (st) h = ev L xs mdX2_note 11 (v0 :: v1 :: .int x :: Ls) (.int x :: st) (h) := e_iload_n dX2_note_10 rfl
theorem iX2_note_11 {x : Int32} {Ls st : List Value} {h : AH} : ev L xs mdX2_note 11 Ls (.int x :: st) h = if x = nI 0 then ev L xs mdX2_note 29 Ls st h else ev L xs mdX2_note 14 Ls st h := e_if_eq dX2_note_11 (by decide)
theorem iX2_note_14 {x : Nat} {Ls st : List Value} {h : AH} : ev L xs mdX2_note 14 (.ref x :: Ls) (st) h = ev L xs mdX2_note 15 (.ref x :: Ls) (.ref x :: st) (h) := e_aload_n dX2_note_14 rfl
theorem iX2_note_15 {a : Nat} {Ls st : List Value} {h : AH} : ev L xs mdX2_note 15 (Ls) (.ref a :: st) h = ev L xs mdX2_note 16 (Ls) (.ref a :: .ref a :: st) (h) := e_dup dX2_note_15 rfl
theorem iX2_note_15i {a : Int32} {Ls st : List Value} {h : AH} : ev L xs mdX2_note 15 (Ls) (.int a :: st) h = ev L xs mdX2_note 16 (Ls) (.int a :: .int a :: st) (h) := e_dup dX2_note_15 rfl
theorem iX2_note_16 {a : Nat} {Ls st : List Value} {h : AH} (hk : hK h a = 2) : ev L xs mdX2_note 16 (Ls) (.ref a :: st) h = ev L xs mdX2_note 19 (Ls) (.int (hI h 34 a) :: st) (h) := e_getI (k := 2) (f := 2) (F := 34) dX2_note_16 (by decide +kernel) rfl rfl hk
theorem iX2_note_19  {Ls st : List Value} {h : AH} : ev L xs mdX2_note 19 (Ls) (st) h = ev L xs mdX2_note 20 (Ls) (.int (nI 1) :: st) (h) := e_iconst dX2_note_19 (by decide)
theorem iX2_note_20 {x z : Int32} {Ls st : List Value} {h : AH} : ev L xs mdX2_note 20 (Ls) (.int z :: .int x :: st) h = ev L xs mdX2_note 21 (Ls) (.int (x + z) :: st) (h) := e_iadd dX2_note_20
theorem iX2_note_21 {a : Nat} {v : Int32} {Ls st : List Value} {h : AH} (hk : hK h a = 2) : ev L xs mdX2_note 21 (Ls) (.int v :: .ref a :: st) h = ev L xs mdX2_note 24 (Ls) (st) (sI h 34 a v) := e_putI (k := 2) (f := 2) (F := 34) dX2_note_21 (by decide +kernel) rfl (by decide +kernel) rfl hk
theorem iX2_note_24 {x : Nat} {Ls st : List Value} {h : AH} : ev L xs mdX2_note 24 (.ref x :: Ls) (st) h = ev L xs mdX2_note 25 (.ref x :: Ls) (.ref x :: st) (h) := e_aload_n dX2_note_24 rfl
theorem iX2_note_25 {v0 : Value} {v1 : Value} {v2 : Value} {x : Int32} {Ls st : List Value} {h : AH} : ev L xs mdX2_note 25 (v0 :: v1 :: v2 :: .int x :: Ls) (st) h = ev L xs mdX2_note 26 (v0 :: v1 :: v2 :: .int x :: Ls) (.int x :: st) (h) := e_iload_n dX2_note_25 rfl
theorem iX2_note_26 {a : Nat} {v : Int32} {Ls st : List Value} {h : AH} (hk : hK h a = 2) : ev L xs mdX2_note 26 (Ls) (.int v :: .ref a :: st) h = ev L xs mdX2_note 29 (Ls) (st) (sI h 36 a v) := e_putI (k := 2) (f := 4) (F := 36) dX2_note_26 (by decide +kernel) rfl (by decide +kernel) rfl hk
theorem iX2_note_29 {Ls : List Value} {h : AH} : ev L xs mdX2_note 29 Ls [] h = some (.inl (none, h)) := e_vret dX2_note_29 rfl
theorem dX3_addGuardToWays_0 : decode cX3_addGuardToWays 0 = .ok (.iconst 1, 1) := by decide +kernel
theorem dX3_addGuardToWays_1 : decode cX3_addGuardToWays 1 = .ok (.aload_n 0, 1) := by decide +kernel
theorem dX3_addGuardToWays_2 : decode cX3_addGuardToWays 2 = .ok (.getfield 55, 3) := by decide +kernel
theorem dX3_addGuardToWays_5 : decode cX3_addGuardToWays 5 = .ok (.ishl, 1) := by decide +kernel
theorem dX3_addGuardToWays_6 : decode cX3_addGuardToWays 6 = .ok (.iconst 1, 1) := by decide +kernel
theorem dX3_addGuardToWays_7 : decode cX3_addGuardToWays 7 = .ok (.isub, 1) := by decide +kernel
theorem dX3_addGuardToWays_8 : decode cX3_addGuardToWays 8 = .ok (.istore_n 2, 1) := by decide +kernel
theorem dX3_addGuardToWays_9 : decode cX3_addGuardToWays 9 = .ok (.iload_n 2, 1) := by decide +kernel
theorem dX3_addGuardToWays_10 : decode cX3_addGuardToWays 10 = .ok (.ifCond .le 84, 3) := by decide +kernel
theorem dX3_addGuardToWays_13 : decode cX3_addGuardToWays 13 = .ok (.iconst 0, 1) := by decide +kernel
theorem dX3_addGuardToWays_14 : decode cX3_addGuardToWays 14 = .ok (.istore_n 3, 1) := by decide +kernel
theorem dX3_addGuardToWays_15 : decode cX3_addGuardToWays 15 = .ok (.iload_n 3, 1) := by decide +kernel
theorem dX3_addGuardToWays_16 : decode cX3_addGuardToWays 16 = .ok (.aload_n 0, 1) := by decide +kernel
theorem dX3_addGuardToWays_17 : decode cX3_addGuardToWays 17 = .ok (.getfield 55, 3) := by decide +kernel
theorem dX3_addGuardToWays_20 : decode cX3_addGuardToWays 20 = .ok (.if_icmp .ge 68, 3) := by decide +kernel
theorem dX3_addGuardToWays_23 : decode cX3_addGuardToWays 23 = .ok (.aload_n 1, 1) := by decide +kernel
theorem dX3_addGuardToWays_24 : decode cX3_addGuardToWays 24 = .ok (.aload_n 0, 1) := by decide +kernel
theorem dX3_addGuardToWays_25 : decode cX3_addGuardToWays 25 = .ok (.getfield 9, 3) := by decide +kernel
theorem dX3_addGuardToWays_28 : decode cX3_addGuardToWays 28 = .ok (.iload_n 3, 1) := by decide +kernel
theorem dX3_addGuardToWays_29 : decode cX3_addGuardToWays 29 = .ok (.iaload, 1) := by decide +kernel
theorem dX3_addGuardToWays_30 : decode cX3_addGuardToWays 30 = .ok (.invokevirtual 74, 3) := by decide +kernel
theorem dX3_addGuardToWays_33 : decode cX3_addGuardToWays 33 = .ok (.istore 4, 2) := by decide +kernel
theorem dX3_addGuardToWays_35 : decode cX3_addGuardToWays 35 = .ok (.iload_n 2, 1) := by decide +kernel
theorem dX3_addGuardToWays_36 : decode cX3_addGuardToWays 36 = .ok (.iload_n 3, 1) := by decide +kernel
theorem dX3_addGuardToWays_37 : decode cX3_addGuardToWays 37 = .ok (.invokestatic 40, 3) := by decide +kernel
theorem dX3_addGuardToWays_40 : decode cX3_addGuardToWays 40 = .ok (.ifCond .eq 42, 3) := by decide +kernel
theorem dX3_addGuardToWays_43 : decode cX3_addGuardToWays 43 = .ok (.iload 4, 2) := by decide +kernel
theorem dX3_addGuardToWays_45 : decode cX3_addGuardToWays 45 = .ok (.aload_n 1, 1) := by decide +kernel
theorem dX3_addGuardToWays_46 : decode cX3_addGuardToWays 46 = .ok (.getfield 80, 3) := by decide +kernel
theorem dX3_addGuardToWays_49 : decode cX3_addGuardToWays 49 = .ok (.if_icmp .gt 33, 3) := by decide +kernel
theorem dX3_addGuardToWays_52 : decode cX3_addGuardToWays 52 = .ok (.aload_n 0, 1) := by decide +kernel
theorem dX3_addGuardToWays_53 : decode cX3_addGuardToWays 53 = .ok (.getfield 15, 3) := by decide +kernel
theorem dX3_addGuardToWays_56 : decode cX3_addGuardToWays 56 = .ok (.iload_n 2, 1) := by decide +kernel
theorem dX3_addGuardToWays_57 : decode cX3_addGuardToWays 57 = .ok (.aload_n 0, 1) := by decide +kernel
theorem dX3_addGuardToWays_58 : decode cX3_addGuardToWays 58 = .ok (.getfield 15, 3) := by decide +kernel
theorem dX3_addGuardToWays_61 : decode cX3_addGuardToWays 61 = .ok (.iload_n 2, 1) := by decide +kernel
theorem dX3_addGuardToWays_62 : decode cX3_addGuardToWays 62 = .ok (.iaload, 1) := by decide +kernel
theorem dX3_addGuardToWays_63 : decode cX3_addGuardToWays 63 = .ok (.aload_n 0, 1) := by decide +kernel
theorem dX3_addGuardToWays_64 : decode cX3_addGuardToWays 64 = .ok (.getfield 15, 3) := by decide +kernel
theorem dX3_addGuardToWays_67 : decode cX3_addGuardToWays 67 = .ok (.iload_n 2, 1) := by decide +kernel
theorem dX3_addGuardToWays_68 : decode cX3_addGuardToWays 68 = .ok (.iconst 1, 1) := by decide +kernel
theorem dX3_addGuardToWays_69 : decode cX3_addGuardToWays 69 = .ok (.iload_n 3, 1) := by decide +kernel
theorem dX3_addGuardToWays_70 : decode cX3_addGuardToWays 70 = .ok (.ishl, 1) := by decide +kernel
theorem dX3_addGuardToWays_71 : decode cX3_addGuardToWays 71 = .ok (.iconst (-1), 1) := by decide +kernel
theorem dX3_addGuardToWays_72 : decode cX3_addGuardToWays 72 = .ok (.ixor, 1) := by decide +kernel
theorem dX3_addGuardToWays_73 : decode cX3_addGuardToWays 73 = .ok (.iand, 1) := by decide +kernel
theorem dX3_addGuardToWays_74 : decode cX3_addGuardToWays 74 = .ok (.iaload, 1) := by decide +kernel
theorem dX3_addGuardToWays_75 : decode cX3_addGuardToWays 75 = .ok (.iload 4, 2) := by decide +kernel
theorem dX3_addGuardToWays_77 : decode cX3_addGuardToWays 77 = .ok (.iadd, 1) := by decide +kernel
theorem dX3_addGuardToWays_78 : decode cX3_addGuardToWays 78 = .ok (.invokestatic 83, 3) := by decide +kernel
theorem dX3_addGuardToWays_81 : decode cX3_addGuardToWays 81 = .ok (.iastore, 1) := by decide +kernel
theorem dX3_addGuardToWays_82 : decode cX3_addGuardToWays 82 = .ok (.iinc 3 1, 3) := by decide +kernel
theorem dX3_addGuardToWays_85 : decode cX3_addGuardToWays 85 = .ok (.goto (-70), 3) := by decide +kernel
theorem dX3_addGuardToWays_88 : decode cX3_addGuardToWays 88 = .ok (.iinc 2 (-1), 3) := by decide +kernel
theorem dX3_addGuardToWays_91 : decode cX3_addGuardToWays 91 = .ok (.goto (-82), 3) := by decide +kernel
theorem dX3_addGuardToWays_94 : decode cX3_addGuardToWays 94 = .ok (.return_, 1) := by decide +kernel
theorem iX3_addGuardToWays_0  {Ls st : List Value} {h : AH} : ev L xs mdX3_addGuardToWays 0 (Ls) (st) h = ev L xs mdX3_addGuardToWays 1 (Ls) (.int (nI 1) :: st) (h) := e_iconst dX3_addGuardToWays_0 (by decide)
theorem iX3_addGuardToWays_1 {x : Nat} {Ls st : List Value} {h : AH} : ev L xs mdX3_addGuardToWays 1 (.ref x :: Ls) (st) h = ev L xs mdX3_addGuardToWays 2 (.ref x :: Ls) (.ref x :: st) (h) := e_aload_n dX3_addGuardToWays_1 rfl
theorem iX3_addGuardToWays_2 {a : Nat} {Ls st : List Value} {h : AH} (hk : hK h a = 3) : ev L xs mdX3_addGuardToWays 2 (Ls) (.ref a :: st) h = ev L xs mdX3_addGuardToWays 5 (Ls) (.int (hI h 49 a) :: st) (h) := e_getI (k := 3) (f := 1) (F := 49) dX3_addGuardToWays_2 (by decide +kernel) rfl rfl hk
theorem iX3_addGuardToWays_5 {x z : Int32} {Ls st : List Value} {h : AH} : ev L xs mdX3_addGuardToWays 5 (Ls) (.int z :: .int x :: st) h = ev L xs mdX3_addGuardToWays 6 (Ls) (.int (x <<< (z &&& nI 31)) :: st) (h) := e_ishl dX3_addGuardToWays_5
theorem iX3_addGuardToWays_6  {Ls st : List Value} {h : AH} : ev L xs mdX3_addGuardToWays 6 (Ls) (st) h = ev L xs mdX3_addGuardToWays 7 (Ls) (.int (nI 1) :: st) (h) := e_iconst dX3_addGuardToWays_6 (by decide)
theorem iX3_addGuardToWays_7 {x z : Int32} {Ls st : List Value} {h : AH} : ev L xs mdX3_addGuardToWays 7 (Ls) (.int z :: .int x :: st) h = ev L xs mdX3_addGuardToWays 8 (Ls) (.int (x - z) :: st) (h) := e_isub dX3_addGuardToWays_7
theorem iX3_addGuardToWays_8 {v0 : Value} {v1 : Value} {v2 : Value} {x : Int32} {Ls st : List Value} {h : AH} (hc9 : v1.category = 1) : ev L xs mdX3_addGuardToWays 8 (v0 :: v1 :: v2 :: Ls) (.int x :: st) h = ev L xs mdX3_addGuardToWays 9 (v0 :: v1 :: .int x :: Ls) (st) (h) := e_istore_n dX3_addGuardToWays_8 rfl (by decide) (by unfold catOK; show (_ || (v1.category == 1)) = true; rw [hc9]; rfl)
theorem iX3_addGuardToWays_9 {v0 : Value} {v1 : Value} {x : Int32} {Ls st : List Value} {h : AH} : ev L xs mdX3_addGuardToWays 9 (v0 :: v1 :: .int x :: Ls) (st) h = ev L xs mdX3_addGuardToWays 10 (v0 :: v1 :: .int x :: Ls) (.int x :: st) (h) := e_iload_n dX3_addGuardToWays_9 rfl
theorem iX3_addGuardToWays_10 {x : Int32} {Ls st : List Value} {h : AH} : ev L xs mdX3_addGuardToWays 10 Ls (.int x :: st) h = if x ≤ nI 0 then ev L xs mdX3_addGuardToWays 94 Ls st h else ev L xs mdX3_addGuardToWays 13 Ls st h := e_if_le dX3_addGuardToWays_10 (by decide)
theorem iX3_addGuardToWays_13  {Ls st : List Value} {h : AH} : ev L xs mdX3_addGuardToWays 13 (Ls) (st) h = ev L xs mdX3_addGuardToWays 14 (Ls) (.int (nI 0) :: st) (h) := e_iconst dX3_addGuardToWays_13 (by decide)
theorem iX3_addGuardToWays_14 {v0 : Value} {v1 : Value} {v2 : Value} {v3 : Value} {x : Int32} {Ls st : List Value} {h : AH} (hc9 : v2.category = 1) : ev L xs mdX3_addGuardToWays 14 (v0 :: v1 :: v2 :: v3 :: Ls) (.int x :: st) h = ev L xs mdX3_addGuardToWays 15 (v0 :: v1 :: v2 :: .int x :: Ls) (st) (h) := e_istore_n dX3_addGuardToWays_14 rfl (by decide) (by unfold catOK; show (_ || (v2.category == 1)) = true; rw [hc9]; rfl)
theorem iX3_addGuardToWays_15 {v0 : Value} {v1 : Value} {v2 : Value} {x : Int32} {Ls st : List Value} {h : AH} : ev L xs mdX3_addGuardToWays 15 (v0 :: v1 :: v2 :: .int x :: Ls) (st) h = ev L xs mdX3_addGuardToWays 16 (v0 :: v1 :: v2 :: .int x :: Ls) (.int x :: st) (h) := e_iload_n dX3_addGuardToWays_15 rfl
theorem iX3_addGuardToWays_16 {x : Nat} {Ls st : List Value} {h : AH} : ev L xs mdX3_addGuardToWays 16 (.ref x :: Ls) (st) h = ev L xs mdX3_addGuardToWays 17 (.ref x :: Ls) (.ref x :: st) (h) := e_aload_n dX3_addGuardToWays_16 rfl
theorem iX3_addGuardToWays_17 {a : Nat} {Ls st : List Value} {h : AH} (hk : hK h a = 3) : ev L xs mdX3_addGuardToWays 17 (Ls) (.ref a :: st) h = ev L xs mdX3_addGuardToWays 20 (Ls) (.int (hI h 49 a) :: st) (h) := e_getI (k := 3) (f := 1) (F := 49) dX3_addGuardToWays_17 (by decide +kernel) rfl rfl hk
theorem iX3_addGuardToWays_20 {x z : Int32} {Ls st : List Value} {h : AH} : ev L xs mdX3_addGuardToWays 20 Ls (.int z :: .int x :: st) h = if z ≤ x then ev L xs mdX3_addGuardToWays 88 Ls st h else ev L xs mdX3_addGuardToWays 23 Ls st h := e_ic_ge dX3_addGuardToWays_20 (by decide)
theorem iX3_addGuardToWays_23 {v0 : Value} {x : Nat} {Ls st : List Value} {h : AH} : ev L xs mdX3_addGuardToWays 23 (v0 :: .ref x :: Ls) (st) h = ev L xs mdX3_addGuardToWays 24 (v0 :: .ref x :: Ls) (.ref x :: st) (h) := e_aload_n dX3_addGuardToWays_23 rfl
theorem iX3_addGuardToWays_24 {x : Nat} {Ls st : List Value} {h : AH} : ev L xs mdX3_addGuardToWays 24 (.ref x :: Ls) (st) h = ev L xs mdX3_addGuardToWays 25 (.ref x :: Ls) (.ref x :: st) (h) := e_aload_n dX3_addGuardToWays_24 rfl
theorem iX3_addGuardToWays_25 {a : Nat} {Ls st : List Value} {h : AH} (hk : hK h a = 3) (hj : (hR h 48 a).isSome = true) : ev L xs mdX3_addGuardToWays 25 (Ls) (.ref a :: st) h = ev L xs mdX3_addGuardToWays 28 (Ls) (.ref ((hR h 48 a).getD 0) :: st) (h) := e_getR (k := 3) (f := 0) (F := 48) dX3_addGuardToWays_25 (by decide +kernel) rfl rfl hk hj
theorem iX3_addGuardToWays_28 {v0 : Value} {v1 : Value} {v2 : Value} {x : Int32} {Ls st : List Value} {h : AH} : ev L xs mdX3_addGuardToWays 28 (v0 :: v1 :: v2 :: .int x :: Ls) (st) h = ev L xs mdX3_addGuardToWays 29 (v0 :: v1 :: v2 :: .int x :: Ls) (.int x :: st) (h) := e_iload_n dX3_addGuardToWays_28 rfl
theorem iX3_addGuardToWays_29 {a : Nat} {j : Int32} {Ls st : List Value} {h : AH} (hk : hK h a = 8) (hi : inA j (hN h a) = true) : ev L xs mdX3_addGuardToWays 29 (Ls) (.int j :: .ref a :: st) h = ev L xs mdX3_addGuardToWays 30 (Ls) (.int (hA h a j.toNatClampNeg) :: st) (h) := e_iald dX3_addGuardToWays_29 hk hi
theorem iX3_addGuardToWays_30 {a : Nat} {p0 : Int32} {Ls st : List Value} {h : AH} (hk : hK h a = 0) (hw : wds st ≤ 8) : ev L xs mdX3_addGuardToWays 30 Ls (.int p0 :: .ref a :: st) h = kn L xs mdX3_addGuardToWays 30 33 Ls st (ev L xs mdX0_distanceFrom 0 [.ref a, .int p0] [] h) := e_callV (as := [.int p0]) dX3_addGuardToWays_30 mr_3_74 (by decide) (by decide) rfl (by simp [wds, Value.category]; decide) rfl (by decide) hk hw
theorem iX3_addGuardToWays_33 {v0 : Value} {v1 : Value} {v2 : Value} {v3 : Value} {v4 : Value} {x : Int32} {Ls st : List Value} {h : AH} (hc9 : v3.category = 1) : ev L xs mdX3_addGuardToWays 33 (v0 :: v1 :: v2 :: v3 :: v4 :: Ls) (.int x :: st) h = ev L xs mdX3_addGuardToWays 35 (v0 :: v1 :: v2 :: v3 :: .int x :: Ls) (st) (h) := e_istore dX3_addGuardToWays_33 rfl (by decide) (by unfold catOK; show (_ || (v3.category == 1)) = true; rw [hc9]; rfl)
theorem iX3_addGuardToWays_35 {v0 : Value} {v1 : Value} {x : Int32} {Ls st : List Value} {h : AH} : ev L xs mdX3_addGuardToWays 35 (v0 :: v1 :: .int x :: Ls) (st) h = ev L xs mdX3_addGuardToWays 36 (v0 :: v1 :: .int x :: Ls) (.int x :: st) (h) := e_iload_n dX3_addGuardToWays_35 rfl
theorem iX3_addGuardToWays_36 {v0 : Value} {v1 : Value} {v2 : Value} {x : Int32} {Ls st : List Value} {h : AH} : ev L xs mdX3_addGuardToWays 36 (v0 :: v1 :: v2 :: .int x :: Ls) (st) h = ev L xs mdX3_addGuardToWays 37 (v0 :: v1 :: v2 :: .int x :: Ls) (.int x :: st) (h) := e_iload_n dX3_addGuardToWays_36 rfl
theorem iX3_addGuardToWays_37 {p0 : Int32} {p1 : Int32} {Ls st : List Value} {h : AH} (hw : wds st ≤ 8) : ev L xs mdX3_addGuardToWays 37 Ls (.int p1 :: .int p0 :: st) h = kn L xs mdX3_addGuardToWays 37 40 Ls st (ev L xs mdX6_isIn 0 [.int p0, .int p1] [] h) := e_callS (as := [.int p1, .int p0]) dX3_addGuardToWays_37 mr_3_40 (by decide) (by decide) rfl (by simp [wds, Value.category]; decide) rfl hw
theorem iX3_addGuardToWays_40 {x : Int32} {Ls st : List Value} {h : AH} : ev L xs mdX3_addGuardToWays 40 Ls (.int x :: st) h = if x = nI 0 then ev L xs mdX3_addGuardToWays 82 Ls st h else ev L xs mdX3_addGuardToWays 43 Ls st h := e_if_eq dX3_addGuardToWays_40 (by decide)
theorem iX3_addGuardToWays_43 {v0 : Value} {v1 : Value} {v2 : Value} {v3 : Value} {x : Int32} {Ls st : List Value} {h : AH} : ev L xs mdX3_addGuardToWays 43 (v0 :: v1 :: v2 :: v3 :: .int x :: Ls) (st) h = ev L xs mdX3_addGuardToWays 45 (v0 :: v1 :: v2 :: v3 :: .int x :: Ls) (.int x :: st) (h) := e_iload dX3_addGuardToWays_43 rfl
theorem iX3_addGuardToWays_45 {v0 : Value} {x : Nat} {Ls st : List Value} {h : AH} : ev L xs mdX3_addGuardToWays 45 (v0 :: .ref x :: Ls) (st) h = ev L xs mdX3_addGuardToWays 46 (v0 :: .ref x :: Ls) (.ref x :: st) (h) := e_aload_n dX3_addGuardToWays_45 rfl
theorem iX3_addGuardToWays_46 {a : Nat} {Ls st : List Value} {h : AH} (hk : hK h a = 0) : ev L xs mdX3_addGuardToWays 46 (Ls) (.ref a :: st) h = ev L xs mdX3_addGuardToWays 49 (Ls) (.int (hI h 1 a) :: st) (h) := e_getI (k := 0) (f := 1) (F := 1) dX3_addGuardToWays_46 (by decide +kernel) rfl rfl hk
theorem iX3_addGuardToWays_49 {x z : Int32} {Ls st : List Value} {h : AH} : ev L xs mdX3_addGuardToWays 49 Ls (.int z :: .int x :: st) h = if z < x then ev L xs mdX3_addGuardToWays 82 Ls st h else ev L xs mdX3_addGuardToWays 52 Ls st h := e_ic_gt dX3_addGuardToWays_49 (by decide)
theorem iX3_addGuardToWays_52 {x : Nat} {Ls st : List Value} {h : AH} : ev L xs mdX3_addGuardToWays 52 (.ref x :: Ls) (st) h = ev L xs mdX3_addGuardToWays 53 (.ref x :: Ls) (.ref x :: st) (h) := e_aload_n dX3_addGuardToWays_52 rfl
theorem iX3_addGuardToWays_53 {a : Nat} {Ls st : List Value} {h : AH} (hk : hK h a = 3) (hj : (hR h 50 a).isSome = true) : ev L xs mdX3_addGuardToWays 53 (Ls) (.ref a :: st) h = ev L xs mdX3_addGuardToWays 56 (Ls) (.ref ((hR h 50 a).getD 0) :: st) (h) := e_getR (k := 3) (f := 2) (F := 50) dX3_addGuardToWays_53 (by decide +kernel) rfl rfl hk hj
theorem iX3_addGuardToWays_56 {v0 : Value} {v1 : Value} {x : Int32} {Ls st : List Value} {h : AH} : ev L xs mdX3_addGuardToWays 56 (v0 :: v1 :: .int x :: Ls) (st) h = ev L xs mdX3_addGuardToWays 57 (v0 :: v1 :: .int x :: Ls) (.int x :: st) (h) := e_iload_n dX3_addGuardToWays_56 rfl
theorem iX3_addGuardToWays_57 {x : Nat} {Ls st : List Value} {h : AH} : ev L xs mdX3_addGuardToWays 57 (.ref x :: Ls) (st) h = ev L xs mdX3_addGuardToWays 58 (.ref x :: Ls) (.ref x :: st) (h) := e_aload_n dX3_addGuardToWays_57 rfl
theorem iX3_addGuardToWays_58 {a : Nat} {Ls st : List Value} {h : AH} (hk : hK h a = 3) (hj : (hR h 50 a).isSome = true) : ev L xs mdX3_addGuardToWays 58 (Ls) (.ref a :: st) h = ev L xs mdX3_addGuardToWays 61 (Ls) (.ref ((hR h 50 a).getD 0) :: st) (h) := e_getR (k := 3) (f := 2) (F := 50) dX3_addGuardToWays_58 (by decide +kernel) rfl rfl hk hj
theorem iX3_addGuardToWays_61 {v0 : Value} {v1 : Value} {x : Int32} {Ls st : List Value} {h : AH} : ev L xs mdX3_addGuardToWays 61 (v0 :: v1 :: .int x :: Ls) (st) h = ev L xs mdX3_addGuardToWays 62 (v0 :: v1 :: .int x :: Ls) (.int x :: st) (h) := e_iload_n dX3_addGuardToWays_61 rfl
theorem iX3_addGuardToWays_62 {a : Nat} {j : Int32} {Ls st : List Value} {h : AH} (hk : hK h a = 8) (hi : inA j (hN h a) = true) : ev L xs mdX3_addGuardToWays 62 (Ls) (.int j :: .ref a :: st) h = ev L xs mdX3_addGuardToWays 63 (Ls) (.int (hA h a j.toNatClampNeg) :: st) (h) := e_iald dX3_addGuardToWays_62 hk hi
theorem iX3_addGuardToWays_63 {x : Nat} {Ls st : List Value} {h : AH} : ev L xs mdX3_addGuardToWays 63 (.ref x :: Ls) (st) h = ev L xs mdX3_addGuardToWays 64 (.ref x :: Ls) (.ref x :: st) (h) := e_aload_n dX3_addGuardToWays_63 rfl
theorem iX3_addGuardToWays_64 {a : Nat} {Ls st : List Value} {h : AH} (hk : hK h a = 3) (hj : (hR h 50 a).isSome = true) : ev L xs mdX3_addGuardToWays 64 (Ls) (.ref a :: st) h = ev L xs mdX3_addGuardToWays 67 (Ls) (.ref ((hR h 50 a).getD 0) :: st) (h) := e_getR (k := 3) (f := 2) (F := 50) dX3_addGuardToWays_64 (by decide +kernel) rfl rfl hk hj
theorem iX3_addGuardToWays_67 {v0 : Value} {v1 : Value} {x : Int32} {Ls st : List Value} {h : AH} : ev L xs mdX3_addGuardToWays 67 (v0 :: v1 :: .int x :: Ls) (st) h = ev L xs mdX3_addGuardToWays 68 (v0 :: v1 :: .int x :: Ls) (.int x :: st) (h) := e_iload_n dX3_addGuardToWays_67 rfl
theorem iX3_addGuardToWays_68  {Ls st : List Value} {h : AH} : ev L xs mdX3_addGuardToWays 68 (Ls) (st) h = ev L xs mdX3_addGuardToWays 69 (Ls) (.int (nI 1) :: st) (h) := e_iconst dX3_addGuardToWays_68 (by decide)
theorem iX3_addGuardToWays_69 {v0 : Value} {v1 : Value} {v2 : Value} {x : Int32} {Ls st : List Value} {h : AH} : ev L xs mdX3_addGuardToWays 69 (v0 :: v1 :: v2 :: .int x :: Ls) (st) h = ev L xs mdX3_addGuardToWays 70 (v0 :: v1 :: v2 :: .int x :: Ls) (.int x :: st) (h) := e_iload_n dX3_addGuardToWays_69 rfl
theorem iX3_addGuardToWays_70 {x z : Int32} {Ls st : List Value} {h : AH} : ev L xs mdX3_addGuardToWays 70 (Ls) (.int z :: .int x :: st) h = ev L xs mdX3_addGuardToWays 71 (Ls) (.int (x <<< (z &&& nI 31)) :: st) (h) := e_ishl dX3_addGuardToWays_70
theorem iX3_addGuardToWays_71  {Ls st : List Value} {h : AH} : ev L xs mdX3_addGuardToWays 71 (Ls) (st) h = ev L xs mdX3_addGuardToWays 72 (Ls) (.int (-1) :: st) (h) := e_iconst dX3_addGuardToWays_71 (by decide)
theorem iX3_addGuardToWays_72 {x z : Int32} {Ls st : List Value} {h : AH} : ev L xs mdX3_addGuardToWays 72 (Ls) (.int z :: .int x :: st) h = ev L xs mdX3_addGuardToWays 73 (Ls) (.int (x ^^^ z) :: st) (h) := e_ixor dX3_addGuardToWays_72
theorem iX3_addGuardToWays_73 {x z : Int32} {Ls st : List Value} {h : AH} : ev L xs mdX3_addGuardToWays 73 (Ls) (.int z :: .int x :: st) h = ev L xs mdX3_addGuardToWays 74 (Ls) (.int (x &&& z) :: st) (h) := e_iand dX3_addGuardToWays_73
theorem iX3_addGuardToWays_74 {a : Nat} {j : Int32} {Ls st : List Value} {h : AH} (hk : hK h a = 8) (hi : inA j (hN h a) = true) : ev L xs mdX3_addGuardToWays 74 (Ls) (.int j :: .ref a :: st) h = ev L xs mdX3_addGuardToWays 75 (Ls) (.int (hA h a j.toNatClampNeg) :: st) (h) := e_iald dX3_addGuardToWays_74 hk hi
theorem iX3_addGuardToWays_75 {v0 : Value} {v1 : Value} {v2 : Value} {v3 : Value} {x : Int32} {Ls st : List Value} {h : AH} : ev L xs mdX3_addGuardToWays 75 (v0 :: v1 :: v2 :: v3 :: .int x :: Ls) (st) h = ev L xs mdX3_addGuardToWays 77 (v0 :: v1 :: v2 :: v3 :: .int x :: Ls) (.int x :: st) (h) := e_iload dX3_addGuardToWays_75 rfl
theorem iX3_addGuardToWays_77 {x z : Int32} {Ls st : List Value} {h : AH} : ev L xs mdX3_addGuardToWays 77 (Ls) (.int z :: .int x :: st) h = ev L xs mdX3_addGuardToWays 78 (Ls) (.int (x + z) :: st) (h) := e_iadd dX3_addGuardToWays_77
theorem iX3_addGuardToWays_78 {x z : Int32} {Ls st : List Value} {h : AH} (hw : wds st ≤ 8) : ev L xs mdX3_addGuardToWays 78 (Ls) (.int z :: .int x :: st) h = ev L xs mdX3_addGuardToWays 81 (Ls) (.int (if z < x then z else x) :: st) (h) := e_min dX3_addGuardToWays_78 mr_3_83 (by decide) hw
theorem iX3_addGuardToWays_81 {a : Nat} {j : Int32} {v : Int32} {Ls st : List Value} {h : AH} (hk : hK h a = 8) (hi : inA j (hN h a) = true) : ev L xs mdX3_addGuardToWays 81 (Ls) (.int v :: .int j :: .ref a :: st) h = ev L xs mdX3_addGuardToWays 82 (Ls) (st) (sA h a j.toNatClampNeg v) := e_iast dX3_addGuardToWays_81 hk hi
theorem iX3_addGuardToWays_82 {v0 : Value} {v1 : Value} {v2 : Value} {x : Int32} {Ls st : List Value} {h : AH} (hc9 : v2.category = 1) : ev L xs mdX3_addGuardToWays 82 (v0 :: v1 :: v2 :: .int x :: Ls) (st) h = ev L xs mdX3_addGuardToWays 85 (v0 :: v1 :: v2 :: .int (x + (nI 1)) :: Ls) (st) (h) := e_iinc dX3_addGuardToWays_82 rfl rfl rfl (by decide) (by unfold catOK; show (_ || (v2.category == 1)) = true; rw [hc9]; rfl)
theorem iX3_addGuardToWays_85  {Ls st : List Value} {h : AH} : ev L xs mdX3_addGuardToWays 85 (Ls) (st) h = ev L xs mdX3_addGuardToWays 15 (Ls) (st) (h) := e_goto dX3_addGuardToWays_85 (by decide)
theorem iX3_addGuardToWays_88 {v0 : Value} {v1 : Value} {x : Int32} {Ls st : List Value} {h : AH} (hc9 : v1.category = 1) : ev L xs mdX3_addGuardToWays 88 (v0 :: v1 :: .int x :: Ls) (st) h = ev L xs mdX3_addGuardToWays 91 (v0 :: v1 :: .int (x + (-1)) :: Ls) (st) (h) := e_iinc dX3_addGuardToWays_88 rfl rfl rfl (by decide) (by unfold catOK; show (_ || (v1.category == 1)) = true; rw [hc9]; rfl)
theorem iX3_addGuardToWays_91  {Ls st : List Value} {h : AH} : ev L xs mdX3_addGuardToWays 91 (Ls) (st) h = ev L xs mdX3_addGuardToWays 9 (Ls) (st) (h) := e_goto dX3_addGuardToWays_91 (by decide)
theorem iX3_addGuardToWays_94 {Ls : List Value} {h : AH} : ev L xs mdX3_addGuardToWays 94 Ls [] h = some (.inl (none, h)) := e_vret dX3_addGuardToWays_94 rfl
theorem dX3_choose_0 : decode cX3_choose 0 = .ok (.aload_n 0, 1) := by decide +kernel
theorem dX3_choose_1 : decode cX3_choose 1 = .ok (.aload_n 0, 1) := by decide +kernel
theorem dX3_choose_2 : decode cX3_choose 2 = .ok (.getfield 55, 3) := by decide +kernel
theorem dX3_choose_5 : decode cX3_choose 5 = .ok (.putfield 89, 3) := by decide +kernel
theorem dX3_choose_8 : decode cX3_choose 8 = .ok (.aload_n 0, 1) := by decide +kernel
theorem dX3_choose_9 : decode cX3_choose 9 = .ok (.iconst 0, 1) := by decide +kernel
theorem dX3_choose_10 : decode cX3_choose 10 = .ok (.putfield 92, 3) := by decide +kernel
theorem dX3_choose_13 : decode cX3_choose 13 = .ok (.iconst 1, 1) := by decide +kernel
theorem dX3_choose_14 : decode cX3_choose 14 = .ok (.istore_n 1, 1) := by decide +kernel
theorem dX3_choose_15 : decode cX3_choose 15 = .ok (.iload_n 1, 1) := by decide +kernel
theorem dX3_choose_16 : decode cX3_choose 16 = .ok (.iconst 1, 1) := by decide +kernel
theorem dX3_choose_17 : decode cX3_choose 17 = .ok (.aload_n 0, 1) := by decide +kernel
theorem dX3_choose_18 : decode cX3_choose 18 = .ok (.getfield 55, 3) := by decide +kernel
theorem dX3_choose_21 : decode cX3_choose 21 = .ok (.ishl, 1) := by decide +kernel
theorem dX3_choose_22 : decode cX3_choose 22 = .ok (.if_icmp .ge 84, 3) := by decide +kernel
theorem dX3_choose_25 : decode cX3_choose 25 = .ok (.aload_n 0, 1) := by decide +kernel
theorem dX3_choose_26 : decode cX3_choose 26 = .ok (.getfield 55, 3) := by decide +kernel
theorem dX3_choose_29 : decode cX3_choose 29 = .ok (.iload_n 1, 1) := by decide +kernel
theorem dX3_choose_30 : decode cX3_choose 30 = .ok (.invokestatic 95, 3) := by decide +kernel
theorem dX3_choose_33 : decode cX3_choose 33 = .ok (.isub, 1) := by decide +kernel
theorem dX3_choose_34 : decode cX3_choose 34 = .ok (.istore_n 2, 1) := by decide +kernel
theorem dX3_choose_35 : decode cX3_choose 35 = .ok (.aload_n 0, 1) := by decide +kernel
theorem dX3_choose_36 : decode cX3_choose 36 = .ok (.getfield 15, 3) := by decide +kernel
theorem dX3_choose_39 : decode cX3_choose 39 = .ok (.iload_n 1, 1) := by decide +kernel
theorem dX3_choose_40 : decode cX3_choose 40 = .ok (.iaload, 1) := by decide +kernel
theorem dX3_choose_41 : decode cX3_choose 41 = .ok (.ldc 22, 2) := by decide +kernel
theorem dX3_choose_43 : decode cX3_choose 43 = .ok (.if_icmp .ge 7, 3) := by decide +kernel
theorem dX3_choose_46 : decode cX3_choose 46 = .ok (.iconst 1, 1) := by decide +kernel
theorem dX3_choose_47 : decode cX3_choose 47 = .ok (.goto 4, 3) := by decide +kernel
theorem dX3_choose_50 : decode cX3_choose 50 = .ok (.iconst 0, 1) := by decide +kernel
theorem dX3_choose_51 : decode cX3_choose 51 = .ok (.istore_n 3, 1) := by decide +kernel
theorem dX3_choose_52 : decode cX3_choose 52 = .ok (.iload_n 3, 1) := by decide +kernel
theorem dX3_choose_53 : decode cX3_choose 53 = .ok (.ifCond .eq 47, 3) := by decide +kernel
theorem dX3_choose_56 : decode cX3_choose 56 = .ok (.iload_n 2, 1) := by decide +kernel
theorem dX3_choose_57 : decode cX3_choose 57 = .ok (.aload_n 0, 1) := by decide +kernel
theorem dX3_choose_58 : decode cX3_choose 58 = .ok (.getfield 89, 3) := by decide +kernel
theorem dX3_choose_61 : decode cX3_choose 61 = .ok (.if_icmp .lt 24, 3) := by decide +kernel
theorem dX3_choose_64 : decode cX3_choose 64 = .ok (.iload_n 2, 1) := by decide +kernel
theorem dX3_choose_65 : decode cX3_choose 65 = .ok (.aload_n 0, 1) := by decide +kernel
theorem dX3_choose_66 : decode cX3_choose 66 = .ok (.getfield 89, 3) := by decide +kernel
theorem dX3_choose_69 : decode cX3_choose 69 = .ok (.if_icmp .ne 31, 3) := by decide +kernel
theorem dX3_choose_72 : decode cX3_choose 72 = .ok (.aload_n 0, 1) := by decide +kernel
theorem dX3_choose_73 : decode cX3_choose 73 = .ok (.getfield 15, 3) := by decide +kernel
theorem dX3_choose_76 : decode cX3_choose 76 = .ok (.iload_n 1, 1) := by decide +kernel
theorem dX3_choose_77 : decode cX3_choose 77 = .ok (.iaload, 1) := by decide +kernel
theorem dX3_choose_78 : decode cX3_choose 78 = .ok (.aload_n 0, 1) := by decide +kernel
theorem dX3_choose_79 : decode cX3_choose 79 = .ok (.getfield 92, 3) := by decide +kernel
theorem dX3_choose_82 : decode cX3_choose 82 = .ok (.if_icmp .ge 18, 3) := by decide +kernel
theorem dX3_choose_85 : decode cX3_choose 85 = .ok (.aload_n 0, 1) := by decide +kernel
theorem dX3_choose_86 : decode cX3_choose 86 = .ok (.iload_n 2, 1) := by decide +kernel
theorem dX3_choose_87 : decode cX3_choose 87 = .ok (.putfield 89, 3) := by decide +kernel
theorem dX3_choose_90 : decode cX3_choose 90 = .ok (.aload_n 0, 1) := by decide +kernel
theorem dX3_choose_91 : decode cX3_choose 91 = .ok (.aload_n 0, 1) := by decide +kernel
theorem dX3_choose_92 : decode cX3_choose 92 = .ok (.getfield 15, 3) := by decide +kernel
theorem dX3_choose_95 : decode cX3_choose 95 = .ok (.iload_n 1, 1) := by decide +kernel
theorem dX3_choose_96 : decode cX3_choose 96 = .ok (.iaload, 1) := by decide +kernel
theorem dX3_choose_97 : decode cX3_choose 97 = .ok (.putfield 92, 3) := by decide +kernel
theorem dX3_choose_100 : decode cX3_choose 100 = .ok (.iinc 1 1, 3) := by decide +kernel
theorem dX3_choose_103 : decode cX3_choose 103 = .ok (.goto (-88), 3) := by decide +kernel
theorem dX3_choose_106 : decode cX3_choose 106 = .ok (.return_, 1) := by decide +kernel
theorem iX3_choose_0 {x : Nat} {Ls st : List Value} {h : AH} : ev L xs mdX3_choose 0 (.ref x :: Ls) (st) h = ev L xs mdX3_choose 1 (.ref x :: Ls) (.ref x :: st) (h) := e_aload_n dX3_choose_0 rfl
theorem iX3_choose_1 {x : Nat} {Ls st : List Value} {h : AH} : ev L xs mdX3_choose 1 (.ref x :: Ls) (st) h = ev L xs mdX3_choose 2 (.ref x :: Ls) (.ref x :: st) (h) := e_aload_n dX3_choose_1 rfl
theorem iX3_choose_2 {a : Nat} {Ls st : List Value} {h : AH} (hk : hK h a = 3) : ev L xs mdX3_choose 2 (Ls) (.ref a :: st) h = ev L xs mdX3_choose 5 (Ls) (.int (hI h 49 a) :: st) (h) := e_getI (k := 3) (f := 1) (F := 49) dX3_choose_2 (by decide +kernel) rfl rfl hk
theorem iX3_choose_5 {a : Nat} {v : Int32} {Ls st : List Value} {h : AH} (hk : hK h a = 3) : ev L xs mdX3_choose 5 (Ls) (.int v :: .ref a :: st) h = ev L xs mdX3_choose 8 (Ls) (st) (sI h 51 a v) := e_putI (k := 3) (f := 3) (F := 51) dX3_choose_5 (by decide +kernel) rfl (by decide +kernel) rfl hk
theorem iX3_choose_8 {x : Nat} {Ls st : List Value} {h : AH} : ev L xs mdX3_choose 8 (.ref x :: Ls) (st) h = ev L xs mdX3_choose 9 (.ref x :: Ls) (.ref x :: st) (h) := e_aload_n dX3_choose_8 rfl
theorem iX3_choose_9  {Ls st : List Value} {h : AH} : ev L xs mdX3_choose 9 (Ls) (st) h = ev L xs mdX3_choose 10 (Ls) (.int (nI 0) :: st) (h) := e_iconst dX3_choose_9 (by decide)
theorem iX3_choose_10 {a : Nat} {v : Int32} {Ls st : List Value} {h : AH} (hk : hK h a = 3) : ev L xs mdX3_choose 10 (Ls) (.int v :: .ref a :: st) h = ev L xs mdX3_choose 13 (Ls) (st) (sI h 52 a v) := e_putI (k := 3) (f := 4) (F := 52) dX3_choose_10 (by decide +kernel) rfl (by decide +kernel) rfl hk
theorem iX3_choose_13  {Ls st : List Value} {h : AH} : ev L xs mdX3_choose 13 (Ls) (st) h = ev L xs mdX3_choose 14 (Ls) (.int (nI 1) :: st) (h) := e_iconst dX3_choose_13 (by decide)
theorem iX3_choose_14 {v0 : Value} {v1 : Value} {x : Int32} {Ls st : List Value} {h : AH} (hc9 : v0.category = 1) : ev L xs mdX3_choose 14 (v0 :: v1 :: Ls) (.int x :: st) h = ev L xs mdX3_choose 15 (v0 :: .int x :: Ls) (st) (h) := e_istore_n dX3_choose_14 rfl (by decide) (by unfold catOK; show (_ || (v0.category == 1)) = true; rw [hc9]; rfl)
theorem iX3_choose_15 {v0 : Value} {x : Int32} {Ls st : List Value} {h : AH} : ev L xs mdX3_choose 15 (v0 :: .int x :: Ls) (st) h = ev L xs mdX3_choose 16 (v0 :: .int x :: Ls) (.int x :: st) (h) := e_iload_n dX3_choose_15 rfl
theorem iX3_choose_16  {Ls st : List Value} {h : AH} : ev L xs mdX3_choose 16 (Ls) (st) h = ev L xs mdX3_choose 17 (Ls) (.int (nI 1) :: st) (h) := e_iconst dX3_choose_16 (by decide)
theorem iX3_choose_17 {x : Nat} {Ls st : List Value} {h : AH} : ev L xs mdX3_choose 17 (.ref x :: Ls) (st) h = ev L xs mdX3_choose 18 (.ref x :: Ls) (.ref x :: st) (h) := e_aload_n dX3_choose_17 rfl
theorem iX3_choose_18 {a : Nat} {Ls st : List Value} {h : AH} (hk : hK h a = 3) : ev L xs mdX3_choose 18 (Ls) (.ref a :: st) h = ev L xs mdX3_choose 21 (Ls) (.int (hI h 49 a) :: st) (h) := e_getI (k := 3) (f := 1) (F := 49) dX3_choose_18 (by decide +kernel) rfl rfl hk
theorem iX3_choose_21 {x z : Int32} {Ls st : List Value} {h : AH} : ev L xs mdX3_choose 21 (Ls) (.int z :: .int x :: st) h = ev L xs mdX3_choose 22 (Ls) (.int (x <<< (z &&& nI 31)) :: st) (h) := e_ishl dX3_choose_21
theorem iX3_choose_22 {x z : Int32} {Ls st : List Value} {h : AH} : ev L xs mdX3_choose 22 Ls (.int z :: .int x :: st) h = if z ≤ x then ev L xs mdX3_choose 106 Ls st h else ev L xs mdX3_choose 25 Ls st h := e_ic_ge dX3_choose_22 (by decide)
theorem iX3_choose_25 {x : Nat} {Ls st : List Value} {h : AH} : ev L xs mdX3_choose 25 (.ref x :: Ls) (st) h = ev L xs mdX3_choose 26 (.ref x :: Ls) (.ref x :: st) (h) := e_aload_n dX3_choose_25 rfl
theorem iX3_choose_26 {a : Nat} {Ls st : List Value} {h : AH} (hk : hK h a = 3) : ev L xs mdX3_choose 26 (Ls) (.ref a :: st) h = ev L xs mdX3_choose 29 (Ls) (.int (hI h 49 a) :: st) (h) := e_getI (k := 3) (f := 1) (F := 49) dX3_choose_26 (by decide +kernel) rfl rfl hk
theorem iX3_choose_29 {v0 : Value} {x : Int32} {Ls st : List Value} {h : AH} : ev L xs mdX3_choose 29 (v0 :: .int x :: Ls) (st) h = ev L xs mdX3_choose 30 (v0 :: .int x :: Ls) (.int x :: st) (h) := e_iload_n dX3_choose_29 rfl
theorem iX3_choose_30 {p0 : Int32} {Ls st : List Value} {h : AH} (hw : wds st ≤ 8) : ev L xs mdX3_choose 30 Ls (.int p0 :: st) h = kn L xs mdX3_choose 30 33 Ls st (ev L xs mdJ6_bitCount_0f7a4 0 [.int p0] [] h) := e_callS (as := [.int p0]) dX3_choose_30 mr_3_95 (by decide) (by decide) rfl (by simp [wds, Value.category]; decide) rfl hw
theorem iX3_choose_33 {x z : Int32} {Ls st : List Value} {h : AH} : ev L xs mdX3_choose 33 (Ls) (.int z :: .int x :: st) h = ev L xs mdX3_choose 34 (Ls) (.int (x - z) :: st) (h) := e_isub dX3_choose_33
theorem iX3_choose_34 {v0 : Value} {v1 : Value} {v2 : Value} {x : Int32} {Ls st : List Value} {h : AH} (hc9 : v1.category = 1) : ev L xs mdX3_choose 34 (v0 :: v1 :: v2 :: Ls) (.int x :: st) h = ev L xs mdX3_choose 35 (v0 :: v1 :: .int x :: Ls) (st) (h) := e_istore_n dX3_choose_34 rfl (by decide) (by unfold catOK; show (_ || (v1.category == 1)) = true; rw [hc9]; rfl)
theorem iX3_choose_35 {x : Nat} {Ls st : List Value} {h : AH} : ev L xs mdX3_choose 35 (.ref x :: Ls) (st) h = ev L xs mdX3_choose 36 (.ref x :: Ls) (.ref x :: st) (h) := e_aload_n dX3_choose_35 rfl
theorem iX3_choose_36 {a : Nat} {Ls st : List Value} {h : AH} (hk : hK h a = 3) (hj : (hR h 50 a).isSome = true) : ev L xs mdX3_choose 36 (Ls) (.ref a :: st) h = ev L xs mdX3_choose 39 (Ls) (.ref ((hR h 50 a).getD 0) :: st) (h) := e_getR (k := 3) (f := 2) (F := 50) dX3_choose_36 (by decide +kernel) rfl rfl hk hj
theorem iX3_choose_39 {v0 : Value} {x : Int32} {Ls st : List Value} {h : AH} : ev L xs mdX3_choose 39 (v0 :: .int x :: Ls) (st) h = ev L xs mdX3_choose 40 (v0 :: .int x :: Ls) (.int x :: st) (h) := e_iload_n dX3_choose_39 rfl
theorem iX3_choose_40 {a : Nat} {j : Int32} {Ls st : List Value} {h : AH} (hk : hK h a = 8) (hi : inA j (hN h a) = true) : ev L xs mdX3_choose 40 (Ls) (.int j :: .ref a :: st) h = ev L xs mdX3_choose 41 (Ls) (.int (hA h a j.toNatClampNeg) :: st) (h) := e_iald dX3_choose_40 hk hi
theorem iX3_choose_41  {Ls st : List Value} {h : AH} : ev L xs mdX3_choose 41 (Ls) (st) h = ev L xs mdX3_choose 43 (Ls) (.int (nI 1000000) :: st) (h) := e_ldc dX3_choose_41 (by decide +kernel)
theorem iX3_choose_43 {x z : Int32} {Ls st : List Value} {h : AH} : ev L xs mdX3_choose 43 Ls (.int z :: .int x :: st) h = if z ≤ x then ev L xs mdX3_choose 50 Ls st h else ev L xs mdX3_choose 46 Ls st h := e_ic_ge dX3_choose_43 (by decide)
theorem iX3_choose_46  {Ls st : List Value} {h : AH} : ev L xs mdX3_choose 46 (Ls) (st) h = ev L xs mdX3_choose 47 (Ls) (.int (nI 1) :: st) (h) := e_iconst dX3_choose_46 (by decide)
theorem iX3_choose_47  {Ls st : List Value} {h : AH} : ev L xs mdX3_choose 47 (Ls) (st) h = ev L xs mdX3_choose 51 (Ls) (st) (h) := e_goto dX3_choose_47 (by decide)
theorem iX3_choose_50  {Ls st : List Value} {h : AH} : ev L xs mdX3_choose 50 (Ls) (st) h = ev L xs mdX3_choose 51 (Ls) (.int (nI 0) :: st) (h) := e_iconst dX3_choose_50 (by decide)
theorem iX3_choose_51 {v0 : Value} {v1 : Value} {v2 : Value} {v3 : Value} {x : Int32} {Ls st : List Value} {h : AH} (hc9 : v2.category = 1) : ev L xs mdX3_choose 51 (v0 :: v1 :: v2 :: v3 :: Ls) (.int x :: st) h = ev L xs mdX3_choose 52 (v0 :: v1 :: v2 :: .int x :: Ls) (st) (h) := e_istore_n dX3_choose_51 rfl (by decide) (by unfold catOK; show (_ || (v2.category == 1)) = true; rw [hc9]; rfl)
theorem iX3_choose_52 {v0 : Value} {v1 : Value} {v2 : Value} {x : Int32} {Ls st : List Value} {h : AH} : ev L xs mdX3_choose 52 (v0 :: v1 :: v2 :: .int x :: Ls) (st) h = ev L xs mdX3_choose 53 (v0 :: v1 :: v2 :: .int x :: Ls) (.int x :: st) (h) := e_iload_n dX3_choose_52 rfl
theorem iX3_choose_53 {x : Int32} {Ls st : List Value} {h : AH} : ev L xs mdX3_choose 53 Ls (.int x :: st) h = if x = nI 0 then ev L xs mdX3_choose 100 Ls st h else ev L xs mdX3_choose 56 Ls st h := e_if_eq dX3_choose_53 (by decide)
theorem iX3_choose_56 {v0 : Value} {v1 : Value} {x : Int32} {Ls st : List Value} {h : AH} : ev L xs mdX3_choose 56 (v0 :: v1 :: .int x :: Ls) (st) h = ev L xs mdX3_choose 57 (v0 :: v1 :: .int x :: Ls) (.int x :: st) (h) := e_iload_n dX3_choose_56 rfl
theorem iX3_choose_57 {x : Nat} {Ls st : List Value} {h : AH} : ev L xs mdX3_choose 57 (.ref x :: Ls) (st) h = ev L xs mdX3_choose 58 (.ref x :: Ls) (.ref x :: st) (h) := e_aload_n dX3_choose_57 rfl
theorem iX3_choose_58 {a : Nat} {Ls st : List Value} {h : AH} (hk : hK h a = 3) : ev L xs mdX3_choose 58 (Ls) (.ref a :: st) h = ev L xs mdX3_choose 61 (Ls) (.int (hI h 51 a) :: st) (h) := e_getI (k := 3) (f := 3) (F := 51) dX3_choose_58 (by decide +kernel) rfl rfl hk
theorem iX3_choose_61 {x z : Int32} {Ls st : List Value} {h : AH} : ev L xs mdX3_choose 61 Ls (.int z :: .int x :: st) h = if x < z then ev L xs mdX3_choose 85 Ls st h else ev L xs mdX3_choose 64 Ls st h := e_ic_lt dX3_choose_61 (by decide)
theorem iX3_choose_64 {v0 : Value} {v1 : Value} {x : Int32} {Ls st : List Value} {h : AH} : ev L xs mdX3_choose 64 (v0 :: v1 :: .int x :: Ls) (st) h = ev L xs mdX3_choose 65 (v0 :: v1 :: .int x :: Ls) (.int x :: st) (h) := e_iload_n dX3_choose_64 rfl
theorem iX3_choose_65 {x : Nat} {Ls st : List Value} {h : AH} : ev L xs mdX3_choose 65 (.ref x :: Ls) (st) h = ev L xs mdX3_choose 66 (.ref x :: Ls) (.ref x :: st) (h) := e_aload_n dX3_choose_65 rfl
theorem iX3_choose_66 {a : Nat} {Ls st : List Value} {h : AH} (hk : hK h a = 3) : ev L xs mdX3_choose 66 (Ls) (.ref a :: st) h = ev L xs mdX3_choose 69 (Ls) (.int (hI h 51 a) :: st) (h) := e_getI (k := 3) (f := 3) (F := 51) dX3_choose_66 (by decide +kernel) rfl rfl hk
theorem iX3_choose_69 {x z : Int32} {Ls st : List Value} {h : AH} : ev L xs mdX3_choose 69 Ls (.int z :: .int x :: st) h = if x = z then ev L xs mdX3_choose 72 Ls st h else ev L xs mdX3_choose 100 Ls st h := e_ic_ne dX3_choose_69 (by decide)
theorem iX3_choose_72 {x : Nat} {Ls st : List Value} {h : AH} : ev L xs mdX3_choose 72 (.ref x :: Ls) (st) h = ev L xs mdX3_choose 73 (.ref x :: Ls) (.ref x :: st) (h) := e_aload_n dX3_choose_72 rfl
theorem iX3_choose_73 {a : Nat} {Ls st : List Value} {h : AH} (hk : hK h a = 3) (hj : (hR h 50 a).isSome = true) : ev L xs mdX3_choose 73 (Ls) (.ref a :: st) h = ev L xs mdX3_choose 76 (Ls) (.ref ((hR h 50 a).getD 0) :: st) (h) := e_getR (k := 3) (f := 2) (F := 50) dX3_choose_73 (by decide +kernel) rfl rfl hk hj
theorem iX3_choose_76 {v0 : Value} {x : Int32} {Ls st : List Value} {h : AH} : ev L xs mdX3_choose 76 (v0 :: .int x :: Ls) (st) h = ev L xs mdX3_choose 77 (v0 :: .int x :: Ls) (.int x :: st) (h) := e_iload_n dX3_choose_76 rfl
theorem iX3_choose_77 {a : Nat} {j : Int32} {Ls st : List Value} {h : AH} (hk : hK h a = 8) (hi : inA j (hN h a) = true) : ev L xs mdX3_choose 77 (Ls) (.int j :: .ref a :: st) h = ev L xs mdX3_choose 78 (Ls) (.int (hA h a j.toNatClampNeg) :: st) (h) := e_iald dX3_choose_77 hk hi
theorem iX3_choose_78 {x : Nat} {Ls st : List Value} {h : AH} : ev L xs mdX3_choose 78 (.ref x :: Ls) (st) h = ev L xs mdX3_choose 79 (.ref x :: Ls) (.ref x :: st) (h) := e_aload_n dX3_choose_78 rfl
theorem iX3_choose_79 {a : Nat} {Ls st : List Value} {h : AH} (hk : hK h a = 3) : ev L xs mdX3_choose 79 (Ls) (.ref a :: st) h = ev L xs mdX3_choose 82 (Ls) (.int (hI h 52 a) :: st) (h) := e_getI (k := 3) (f := 4) (F := 52) dX3_choose_79 (by decide +kernel) rfl rfl hk
theorem iX3_choose_82 {x z : Int32} {Ls st : List Value} {h : AH} : ev L xs mdX3_choose 82 Ls (.int z :: .int x :: st) h = if z ≤ x then ev L xs mdX3_choose 100 Ls st h else ev L xs mdX3_choose 85 Ls st h := e_ic_ge dX3_choose_82 (by decide)
theorem iX3_choose_85 {x : Nat} {Ls st : List Value} {h : AH} : ev L xs mdX3_choose 85 (.ref x :: Ls) (st) h = ev L xs mdX3_choose 86 (.ref x :: Ls) (.ref x :: st) (h) := e_aload_n dX3_choose_85 rfl
theorem iX3_choose_86 {v0 : Value} {v1 : Value} {x : Int32} {Ls st : List Value} {h : AH} : ev L xs mdX3_choose 86 (v0 :: v1 :: .int x :: Ls) (st) h = ev L xs mdX3_choose 87 (v0 :: v1 :: .int x :: Ls) (.int x :: st) (h) := e_iload_n dX3_choose_86 rfl
theorem iX3_choose_87 {a : Nat} {v : Int32} {Ls st : List Value} {h : AH} (hk : hK h a = 3) : ev L xs mdX3_choose 87 (Ls) (.int v :: .ref a :: st) h = ev L xs mdX3_choose 90 (Ls) (st) (sI h 51 a v) := e_putI (k := 3) (f := 3) (F := 51) dX3_choose_87 (by decide +kernel) rfl (by decide +kernel) rfl hk
theorem iX3_choose_90 {x : Nat} {Ls st : List Value} {h : AH} : ev L xs mdX3_choose 90 (.ref x :: Ls) (st) h = ev L xs mdX3_choose 91 (.ref x :: Ls) (.ref x :: st) (h) := e_aload_n dX3_choose_90 rfl
theorem iX3_choose_91 {x : Nat} {Ls st : List Value} {h : AH} : ev L xs mdX3_choose 91 (.ref x :: Ls) (st) h = ev L xs mdX3_choose 92 (.ref x :: Ls) (.ref x :: st) (h) := e_aload_n dX3_choose_91 rfl
theorem iX3_choose_92 {a : Nat} {Ls st : List Value} {h : AH} (hk : hK h a = 3) (hj : (hR h 50 a).isSome = true) : ev L xs mdX3_choose 92 (Ls) (.ref a :: st) h = ev L xs mdX3_choose 95 (Ls) (.ref ((hR h 50 a).getD 0) :: st) (h) := e_getR (k := 3) (f := 2) (F := 50) dX3_choose_92 (by decide +kernel) rfl rfl hk hj
theorem iX3_choose_95 {v0 : Value} {x : Int32} {Ls st : List Value} {h : AH} : ev L xs mdX3_choose 95 (v0 :: .int x :: Ls) (st) h = ev L xs mdX3_choose 96 (v0 :: .int x :: Ls) (.int x :: st) (h) := e_iload_n dX3_choose_95 rfl
theorem iX3_choose_96 {a : Nat} {j : Int32} {Ls st : List Value} {h : AH} (hk : hK h a = 8) (hi : inA j (hN h a) = true) : ev L xs mdX3_choose 96 (Ls) (.int j :: .ref a :: st) h = ev L xs mdX3_choose 97 (Ls) (.int (hA h a j.toNatClampNeg) :: st) (h) := e_iald dX3_choose_96 hk hi
theorem iX3_choose_97 {a : Nat} {v : Int32} {Ls st : List Value} {h : AH} (hk : hK h a = 3) : ev L xs mdX3_choose 97 (Ls) (.int v :: .ref a :: st) h = ev L xs mdX3_choose 100 (Ls) (st) (sI h 52 a v) := e_putI (k := 3) (f := 4) (F := 52) dX3_choose_97 (by decide +kernel) rfl (by decide +kernel) rfl hk
theorem iX3_choose_100 {v0 : Value} {x : Int32} {Ls st : List Value} {h : AH} (hc9 : v0.category = 1) : ev L xs mdX3_choose 100 (v0 :: .int x :: Ls) (st) h = ev L xs mdX3_choose 103 (v0 :: .int (x + (nI 1)) :: Ls) (st) (h) := e_iinc dX3_choose_100 rfl rfl rfl (by decide) (by unfold catOK; show (_ || (v0.category == 1)) = true; rw [hc9]; rfl)
theorem iX3_choose_103  {Ls st : List Value} {h : AH} : ev L xs mdX3_choose 103 (Ls) (st) h = ev L xs mdX3_choose 15 (Ls) (st) (h) := e_goto dX3_choose_103 (by decide)
theorem iX3_choose_106 {Ls : List Value} {h : AH} : ev L xs mdX3_choose 106 Ls [] h = some (.inl (none, h)) := e_vret dX3_choose_106 rfl
theorem dX3_collectPlaces_0 : decode cX3_collectPlaces 0 = .ok (.aload_n 0, 1) := by decide +kernel
theorem dX3_collectPlaces_1 : decode cX3_collectPlaces 1 = .ok (.iconst 0, 1) := by decide +kernel
theorem dX3_collectPlaces_2 : decode cX3_collectPlaces 2 = .ok (.putfield 55, 3) := by decide +kernel
theorem dX3_collectPlaces_5 : decode cX3_collectPlaces 5 = .ok (.iconst 0, 1) := by decide +kernel
theorem dX3_collectPlaces_6 : decode cX3_collectPlaces 6 = .ok (.istore_n 3, 1) := by decide +kernel
theorem dX3_collectPlaces_7 : decode cX3_collectPlaces 7 = .ok (.iload_n 3, 1) := by decide +kernel
theorem dX3_collectPlaces_8 : decode cX3_collectPlaces 8 = .ok (.aload_n 1, 1) := by decide +kernel
theorem dX3_collectPlaces_9 : decode cX3_collectPlaces 9 = .ok (.getfield 58, 3) := by decide +kernel
theorem dX3_collectPlaces_12 : decode cX3_collectPlaces 12 = .ok (.if_icmp .ge 45, 3) := by decide +kernel
theorem dX3_collectPlaces_15 : decode cX3_collectPlaces 15 = .ok (.aload_n 2, 1) := by decide +kernel
theorem dX3_collectPlaces_16 : decode cX3_collectPlaces 16 = .ok (.iload_n 3, 1) := by decide +kernel
theorem dX3_collectPlaces_17 : decode cX3_collectPlaces 17 = .ok (.invokevirtual 61, 3) := by decide +kernel
theorem dX3_collectPlaces_20 : decode cX3_collectPlaces 20 = .ok (.ifCond .eq 31, 3) := by decide +kernel
theorem dX3_collectPlaces_23 : decode cX3_collectPlaces 23 = .ok (.aload_n 0, 1) := by decide +kernel
theorem dX3_collectPlaces_24 : decode cX3_collectPlaces 24 = .ok (.getfield 9, 3) := by decide +kernel
theorem dX3_collectPlaces_27 : decode cX3_collectPlaces 27 = .ok (.aload_n 0, 1) := by decide +kernel
theorem dX3_collectPlaces_28 : decode cX3_collectPlaces 28 = .ok (.getfield 55, 3) := by decide +kernel
theorem dX3_collectPlaces_31 : decode cX3_collectPlaces 31 = .ok (.aload_n 1, 1) := by decide +kernel
theorem dX3_collectPlaces_32 : decode cX3_collectPlaces 32 = .ok (.getfield 65, 3) := by decide +kernel
theorem dX3_collectPlaces_35 : decode cX3_collectPlaces 35 = .ok (.iload_n 3, 1) := by decide +kernel
theorem dX3_collectPlaces_36 : decode cX3_collectPlaces 36 = .ok (.aaload, 1) := by decide +kernel
theorem dX3_collectPlaces_37 : decode cX3_collectPlaces 37 = .ok (.getfield 69, 3) := by decide +kernel
theorem dX3_collectPlaces_40 : decode cX3_collectPlaces 40 = .ok (.iastore, 1) := by decide +kernel
theorem dX3_collectPlaces_41 : decode cX3_collectPlaces 41 = .ok (.aload_n 0, 1) := by decide +kernel
theorem dX3_collectPlaces_42 : decode cX3_collectPlaces 42 = .ok (.dup, 1) := by decide +kernel
theorem dX3_collectPlaces_43 : decode cX3_collectPlaces 43 = .ok (.getfield 55, 3) := by decide +kernel
theorem dX3_collectPlaces_46 : decode cX3_collectPlaces 46 = .ok (.iconst 1, 1) := by decide +kernel
theorem dX3_collectPlaces_47 : decode cX3_collectPlaces 47 = .ok (.iadd, 1) := by decide +kernel
theorem dX3_collectPlaces_48 : decode cX3_collectPlaces 48 = .ok (.putfield 55, 3) := by decide +kernel
theorem dX3_collectPlaces_51 : decode cX3_collectPlaces 51 = .ok (.iinc 3 1, 3) := by decide +kernel
theorem dX3_collectPlaces_54 : decode cX3_collectPlaces 54 = .ok (.goto (-47), 3) := by decide +kernel
theorem dX3_collectPlaces_57 : decode cX3_collectPlaces 57 = .ok (.return_, 1) := by decide +kernel
theorem iX3_collectPlaces_0 {x : Nat} {Ls st : List Value} {h : AH} : ev L xs mdX3_collectPlaces 0 (.ref x :: Ls) (st) h = ev L xs mdX3_collectPlaces 1 (.ref x :: Ls) (.ref x :: st) (h) := e_aload_n dX3_collectPlaces_0 rfl
theorem iX3_collectPlaces_1  {Ls st : List Value} {h : AH} : ev L xs mdX3_collectPlaces 1 (Ls) (st) h = ev L xs mdX3_collectPlaces 2 (Ls) (.int (nI 0) :: st) (h) := e_iconst dX3_collectPlaces_1 (by decide)
theorem iX3_collectPlaces_2 {a : Nat} {v : Int32} {Ls st : List Value} {h : AH} (hk : hK h a = 3) : ev L xs mdX3_collectPlaces 2 (Ls) (.int v :: .ref a :: st) h = ev L xs mdX3_collectPlaces 5 (Ls) (st) (sI h 49 a v) := e_putI (k := 3) (f := 1) (F := 49) dX3_collectPlaces_2 (by decide +kernel) rfl (by decide +kernel) rfl hk
theorem iX3_collectPlaces_5  {Ls st : List Value} {h : AH} : ev L xs mdX3_collectPlaces 5 (Ls) (st) h = ev L xs mdX3_collectPlaces 6 (Ls) (.int (nI 0) :: st) (h) := e_iconst dX3_collectPlaces_5 (by decide)
theorem iX3_collectPlaces_6 {v0 : Value} {v1 : Value} {v2 : Value} {v3 : Value} {x : Int32} {Ls st : List Value} {h : AH} (hc9 : v2.category = 1) : ev L xs mdX3_collectPlaces 6 (v0 :: v1 :: v2 :: v3 :: Ls) (.int x :: st) h = ev L xs mdX3_collectPlaces 7 (v0 :: v1 :: v2 :: .int x :: Ls) (st) (h) := e_istore_n dX3_collectPlaces_6 rfl (by decide) (by unfold catOK; show (_ || (v2.category == 1)) = true; rw [hc9]; rfl)
theorem iX3_collectPlaces_7 {v0 : Value} {v1 : Value} {v2 : Value} {x : Int32} {Ls st : List Value} {h : AH} : ev L xs mdX3_collectPlaces 7 (v0 :: v1 :: v2 :: .int x :: Ls) (st) h = ev L xs mdX3_collectPlaces 8 (v0 :: v1 :: v2 :: .int x :: Ls) (.int x :: st) (h) := e_iload_n dX3_collectPlaces_7 rfl
theorem iX3_collectPlaces_8 {v0 : Value} {x : Nat} {Ls st : List Value} {h : AH} : ev L xs mdX3_collectPlaces 8 (v0 :: .ref x :: Ls) (st) h = ev L xs mdX3_collectPlaces 9 (v0 :: .ref x :: Ls) (.ref x :: st) (h) := e_aload_n dX3_collectPlaces_8 rfl
theorem iX3_collectPlaces_9 {a : Nat} {Ls st : List Value} {h : AH} (hk : hK h a = 5) : ev L xs mdX3_collectPlaces 9 (Ls) (.ref a :: st) h = ev L xs mdX3_collectPlaces 12 (Ls) (.int (hI h 84 a) :: st) (h) := e_getI (k := 5) (f := 4) (F := 84) dX3_collectPlaces_9 (by decide +kernel) rfl rfl hk
theorem iX3_collectPlaces_12 {x z : Int32} {Ls st : List Value} {h : AH} : ev L xs mdX3_collectPlaces 12 Ls (.int z :: .int x :: st) h = if z ≤ x then ev L xs mdX3_collectPlaces 57 Ls st h else ev L xs mdX3_collectPlaces 15 Ls st h := e_ic_ge dX3_collectPlaces_12 (by decide)
theorem iX3_collectPlaces_15 {v0 : Value} {v1 : Value} {x : Nat} {Ls st : List Value} {h : AH} : ev L xs mdX3_collectPlaces 15 (v0 :: v1 :: .ref x :: Ls) (st) h = ev L xs mdX3_collectPlaces 16 (v0 :: v1 :: .ref x :: Ls) (.ref x :: st) (h) := e_aload_n dX3_collectPlaces_15 rfl
theorem iX3_collectPlaces_16 {v0 : Value} {v1 : Value} {v2 : Value} {x : Int32} {Ls st : List Value} {h : AH} : ev L xs mdX3_collectPlaces 16 (v0 :: v1 :: v2 :: .int x :: Ls) (st) h = ev L xs mdX3_collectPlaces 17 (v0 :: v1 :: v2 :: .int x :: Ls) (.int x :: st) (h) := e_iload_n dX3_collectPlaces_16 rfl
theorem iX3_collectPlaces_17 {a : Nat} {p0 : Int32} {Ls st : List Value} {h : AH} (hk : hK h a = 4) (hw : wds st ≤ 8) : ev L xs mdX3_collectPlaces 17 Ls (.int p0 :: .ref a :: st) h = kn L xs mdX3_collectPlaces 17 20 Ls st (ev L xs mdX4_lacksGuard 0 [.ref a, .int p0] [] h) := e_callV (as := [.int p0]) dX3_collectPlaces_17 mr_3_61 (by decide) (by decide) rfl (by simp [wds, Value.category]; decide) rfl (by decide) hk hw
theorem iX3_collectPlaces_20 {x : Int32} {Ls st : List Value} {h : AH} : ev L xs mdX3_collectPlaces 20 Ls (.int x :: st) h = if x = nI 0 then ev L xs mdX3_collectPlaces 51 Ls st h else ev L xs mdX3_collectPlaces 23 Ls st h := e_if_eq dX3_collectPlaces_20 (by decide)
theorem iX3_collectPlaces_23 {x : Nat} {Ls st : List Value} {h : AH} : ev L xs mdX3_collectPlaces 23 (.ref x :: Ls) (st) h = ev L xs mdX3_collectPlaces 24 (.ref x :: Ls) (.ref x :: st) (h) := e_aload_n dX3_collectPlaces_23 rfl
theorem iX3_collectPlaces_24 {a : Nat} {Ls st : List Value} {h : AH} (hk : hK h a = 3) (hj : (hR h 48 a).isSome = true) : ev L xs mdX3_collectPlaces 24 (Ls) (.ref a :: st) h = ev L xs mdX3_collectPlaces 27 (Ls) (.ref ((hR h 48 a).getD 0) :: st) (h) := e_getR (k := 3) (f := 0) (F := 48) dX3_collectPlaces_24 (by decide +kernel) rfl rfl hk hj
theorem iX3_collectPlaces_27 {x : Nat} {Ls st : List Value} {h : AH} : ev L xs mdX3_collectPlaces 27 (.ref x :: Ls) (st) h = ev L xs mdX3_collectPlaces 28 (.ref x :: Ls) (.ref x :: st) (h) := e_aload_n dX3_collectPlaces_27 rfl
theorem iX3_collectPlaces_28 {a : Nat} {Ls st : List Value} {h : AH} (hk : hK h a = 3) : ev L xs mdX3_collectPlaces 28 (Ls) (.ref a :: st) h = ev L xs mdX3_collectPlaces 31 (Ls) (.int (hI h 49 a) :: st) (h) := e_getI (k := 3) (f := 1) (F := 49) dX3_collectPlaces_28 (by decide +kernel) rfl rfl hk
theorem iX3_collectPlaces_31 {v0 : Value} {x : Nat} {Ls st : List Value} {h : AH} : ev L xs mdX3_collectPlaces 31 (v0 :: .ref x :: Ls) (st) h = ev L xs mdX3_collectPlaces 32 (v0 :: .ref x :: Ls) (.ref x :: st) (h) := e_aload_n dX3_collectPlaces_31 rfl
theorem iX3_collectPlaces_32 {a : Nat} {Ls st : List Value} {h : AH} (hk : hK h a = 5) (hj : (hR h 83 a).isSome = true) : ev L xs mdX3_collectPlaces 32 (Ls) (.ref a :: st) h = ev L xs mdX3_collectPlaces 35 (Ls) (.ref ((hR h 83 a).getD 0) :: st) (h) := e_getR (k := 5) (f := 3) (F := 83) dX3_collectPlaces_32 (by decide +kernel) rfl rfl hk hj
theorem iX3_collectPlaces_35 {v0 : Value} {v1 : Value} {v2 : Value} {x : Int32} {Ls st : List Value} {h : AH} : ev L xs mdX3_collectPlaces 35 (v0 :: v1 :: v2 :: .int x :: Ls) (st) h = ev L xs mdX3_collectPlaces 36 (v0 :: v1 :: v2 :: .int x :: Ls) (.int x :: st) (h) := e_iload_n dX3_collectPlaces_35 rfl
theorem iX3_collectPlaces_36 {a : Nat} {j : Int32} {Ls st : List Value} {h : AH} (hk : hK h a = 9 ∨ hK h a = 10 ∨ hK h a = 11) (hi : inA j (hN h a) = true) (hq : (hQ h a j.toNatClampNeg).isSome = true) : ev L xs mdX3_collectPlaces 36 (Ls) (.int j :: .ref a :: st) h = ev L xs mdX3_collectPlaces 37 (Ls) (.ref ((hQ h a j.toNatClampNeg).getD 0) :: st) (h) := e_aald dX3_collectPlaces_36 hk hi hq
theorem iX3_collectPlaces_37 {a : Nat} {Ls st : List Value} {h : AH} (hk : hK h a = 2) : ev L xs mdX3_collectPlaces 37 (Ls) (.ref a :: st) h = ev L xs mdX3_collectPlaces 40 (Ls) (.int (hI h 32 a) :: st) (h) := e_getI (k := 2) (f := 0) (F := 32) dX3_collectPlaces_37 (by decide +kernel) rfl rfl hk
theorem iX3_collectPlaces_40 {a : Nat} {j : Int32} {v : Int32} {Ls st : List Value} {h : AH} (hk : hK h a = 8) (hi : inA j (hN h a) = true) : ev L xs mdX3_collectPlaces 40 (Ls) (.int v :: .int j :: .ref a :: st) h = ev L xs mdX3_collectPlaces 41 (Ls) (st) (sA h a j.toNatClampNeg v) := e_iast dX3_collectPlaces_40 hk hi
theorem iX3_collectPlaces_41 {x : Nat} {Ls st : List Value} {h : AH} : ev L xs mdX3_collectPlaces 41 (.ref x :: Ls) (st) h = ev L xs mdX3_collectPlaces 42 (.ref x :: Ls) (.ref x :: st) (h) := e_aload_n dX3_collectPlaces_41 rfl
theorem iX3_collectPlaces_42 {a : Nat} {Ls st : List Value} {h : AH} : ev L xs mdX3_collectPlaces 42 (Ls) (.ref a :: st) h = ev L xs mdX3_collectPlaces 43 (Ls) (.ref a :: .ref a :: st) (h) := e_dup dX3_collectPlaces_42 rfl
theorem iX3_collectPlaces_42i {a : Int32} {Ls st : List Value} {h : AH} : ev L xs mdX3_collectPlaces 42 (Ls) (.int a :: st) h = ev L xs mdX3_collectPlaces 43 (Ls) (.int a :: .int a :: st) (h) := e_dup dX3_collectPlaces_42 rfl
theorem iX3_collectPlaces_43 {a : Nat} {Ls st : List Value} {h : AH} (hk : hK h a = 3) : ev L xs mdX3_collectPlaces 43 (Ls) (.ref a :: st) h = ev L xs mdX3_collectPlaces 46 (Ls) (.int (hI h 49 a) :: st) (h) := e_getI (k := 3) (f := 1) (F := 49) dX3_collectPlaces_43 (by decide +kernel) rfl rfl hk
theorem iX3_collectPlaces_46  {Ls st : List Value} {h : AH} : ev L xs mdX3_collectPlaces 46 (Ls) (st) h = ev L xs mdX3_collectPlaces 47 (Ls) (.int (nI 1) :: st) (h) := e_iconst dX3_collectPlaces_46 (by decide)
theorem iX3_collectPlaces_47 {x z : Int32} {Ls st : List Value} {h : AH} : ev L xs mdX3_collectPlaces 47 (Ls) (.int z :: .int x :: st) h = ev L xs mdX3_collectPlaces 48 (Ls) (.int (x + z) :: st) (h) := e_iadd dX3_collectPlaces_47
theorem iX3_collectPlaces_48 {a : Nat} {v : Int32} {Ls st : List Value} {h : AH} (hk : hK h a = 3) : ev L xs mdX3_collectPlaces 48 (Ls) (.int v :: .ref a :: st) h = ev L xs mdX3_collectPlaces 51 (Ls) (st) (sI h 49 a v) := e_putI (k := 3) (f := 1) (F := 49) dX3_collectPlaces_48 (by decide +kernel) rfl (by decide +kernel) rfl hk
theorem iX3_collectPlaces_51 {v0 : Value} {v1 : Value} {v2 : Value} {x : Int32} {Ls st : List Value} {h : AH} (hc9 : v2.category = 1) : ev L xs mdX3_collectPlaces 51 (v0 :: v1 :: v2 :: .int x :: Ls) (st) h = ev L xs mdX3_collectPlaces 54 (v0 :: v1 :: v2 :: .int (x + (nI 1)) :: Ls) (st) (h) := e_iinc dX3_collectPlaces_51 rfl rfl rfl (by decide) (by unfold catOK; show (_ || (v2.category == 1)) = true; rw [hc9]; rfl)
theorem iX3_collectPlaces_54  {Ls st : List Value} {h : AH} : ev L xs mdX3_collectPlaces 54 (Ls) (st) h = ev L xs mdX3_collectPlaces 7 (Ls) (st) (h) := e_goto dX3_collectPlaces_54 (by decide)
theorem iX3_collectPlaces_57 {Ls : List Value} {h : AH} : ev L xs mdX3_collectPlaces 57 Ls [] h = some (.inl (none, h)) := e_vret dX3_collectPlaces_57 rfl
theorem dX3_find_0 : decode cX3_find 0 = .ok (.aload_n 0, 1) := by decide +kernel
theorem dX3_find_1 : decode cX3_find 1 = .ok (.aload_n 1, 1) := by decide +kernel
theorem dX3_find_2 : decode cX3_find 2 = .ok (.aload_n 2, 1) := by decide +kernel
theorem dX3_find_3 : decode cX3_find 3 = .ok (.invokevirtual 18, 3) := by decide +kernel
theorem dX3_find_6 : decode cX3_find 6 = .ok (.aload_n 0, 1) := by decide +kernel
theorem dX3_find_7 : decode cX3_find 7 = .ok (.getfield 15, 3) := by decide +kernel
theorem dX3_find_10 : decode cX3_find 10 = .ok (.ldc 22, 2) := by decide +kernel
theorem dX3_find_12 : decode cX3_find 12 = .ok (.invokestatic 23, 3) := by decide +kernel
theorem dX3_find_15 : decode cX3_find 15 = .ok (.aload_n 0, 1) := by decide +kernel
theorem dX3_find_16 : decode cX3_find 16 = .ok (.getfield 15, 3) := by decide +kernel
theorem dX3_find_19 : decode cX3_find 19 = .ok (.iconst 0, 1) := by decide +kernel
theorem dX3_find_20 : decode cX3_find 20 = .ok (.iconst 0, 1) := by decide +kernel
theorem dX3_find_21 : decode cX3_find 21 = .ok (.iastore, 1) := by decide +kernel
theorem dX3_find_22 : decode cX3_find 22 = .ok (.iconst 0, 1) := by decide +kernel
theorem dX3_find_23 : decode cX3_find 23 = .ok (.istore_n 3, 1) := by decide +kernel
theorem dX3_find_24 : decode cX3_find 24 = .ok (.iload_n 3, 1) := by decide +kernel
theorem dX3_find_25 : decode cX3_find 25 = .ok (.aload_n 1, 1) := by decide +kernel
theorem dX3_find_26 : decode cX3_find 26 = .ok (.getfield 29, 3) := by decide +kernel
theorem dX3_find_29 : decode cX3_find 29 = .ok (.if_icmp .ge 30, 3) := by decide +kernel
theorem dX3_find_32 : decode cX3_find 32 = .ok (.aload_n 2, 1) := by decide +kernel
theorem dX3_find_33 : decode cX3_find 33 = .ok (.getfield 35, 3) := by decide +kernel
theorem dX3_find_36 : decode cX3_find 36 = .ok (.iload_n 3, 1) := by decide +kernel
theorem dX3_find_37 : decode cX3_find 37 = .ok (.invokestatic 40, 3) := by decide +kernel
theorem dX3_find_40 : decode cX3_find 40 = .ok (.ifCond .eq 13, 3) := by decide +kernel
theorem dX3_find_43 : decode cX3_find 43 = .ok (.aload_n 0, 1) := by decide +kernel
theorem dX3_find_44 : decode cX3_find 44 = .ok (.aload_n 1, 1) := by decide +kernel
theorem dX3_find_45 : decode cX3_find 45 = .ok (.getfield 44, 3) := by decide +kernel
theorem dX3_find_48 : decode cX3_find 48 = .ok (.iload_n 3, 1) := by decide +kernel
theorem dX3_find_49 : decode cX3_find 49 = .ok (.aaload, 1) := by decide +kernel
theorem dX3_find_50 : decode cX3_find 50 = .ok (.invokevirtual 48, 3) := by decide +kernel
theorem dX3_find_53 : decode cX3_find 53 = .ok (.iinc 3 1, 3) := by decide +kernel
theorem dX3_find_56 : decode cX3_find 56 = .ok (.goto (-32), 3) := by decide +kernel
theorem dX3_find_59 : decode cX3_find 59 = .ok (.aload_n 0, 1) := by decide +kernel
theorem dX3_find_60 : decode cX3_find 60 = .ok (.invokevirtual 52, 3) := by decide +kernel
theorem dX3_find_63 : decode cX3_find 63 = .ok (.return_, 1) := by decide +kernel
theorem iX3_find_0 {x : Nat} {Ls st : List Value} {h : AH} : ev L xs mdX3_find 0 (.ref x :: Ls) (st) h = ev L xs mdX3_find 1 (.ref x :: Ls) (.ref x :: st) (h) := e_aload_n dX3_find_0 rfl
theorem iX3_find_1 {v0 : Value} {x : Nat} {Ls st : List Value} {h : AH} : ev L xs mdX3_find 1 (v0 :: .ref x :: Ls) (st) h = ev L xs mdX3_find 2 (v0 :: .ref x :: Ls) (.ref x :: st) (h) := e_aload_n dX3_find_1 rfl
theorem iX3_find_2 {v0 : Value} {v1 : Value} {x : Nat} {Ls st : List Value} {h : AH} : ev L xs mdX3_find 2 (v0 :: v1 :: .ref x :: Ls) (st) h = ev L xs mdX3_find 3 (v0 :: v1 :: .ref x :: Ls) (.ref x :: st) (h) := e_aload_n dX3_find_2 rfl
theorem iX3_find_3 {a : Nat} {p0 : Nat} {p1 : Nat} {Ls st : List Value} {h : AH} (hk : hK h a = 3) (hw : wds st ≤ 8) : ev L xs mdX3_find 3 Ls (.ref p1 :: .ref p0 :: .ref a :: st) h = kn L xs mdX3_find 3 6 Ls st (ev L xs mdX3_collectPlaces 0 [.ref a, .ref p0, .ref p1, .null] [] h) := e_callV (as := [.ref p1, .ref p0]) dX3_find_3 mr_3_18 (by decide) (by decide) rfl (by simp [wds, Value.category]; decide) rfl (by decide) hk hw
theorem iX3_find_6 {x : Nat} {Ls st : List Value} {h : AH} : ev L xs mdX3_find 6 (.ref x :: Ls) (st) h = ev L xs mdX3_find 7 (.ref x :: Ls) (.ref x :: st) (h) := e_aload_n dX3_find_6 rfl
theorem iX3_find_7 {a : Nat} {Ls st : List Value} {h : AH} (hk : hK h a = 3) (hj : (hR h 50 a).isSome = true) : ev L xs mdX3_find 7 (Ls) (.ref a :: st) h = ev L xs mdX3_find 10 (Ls) (.ref ((hR h 50 a).getD 0) :: st) (h) := e_getR (k := 3) (f := 2) (F := 50) dX3_find_7 (by decide +kernel) rfl rfl hk hj
theorem iX3_find_10  {Ls st : List Value} {h : AH} : ev L xs mdX3_find 10 (Ls) (st) h = ev L xs mdX3_find 12 (Ls) (.int (nI 1000000) :: st) (h) := e_ldc dX3_find_10 (by decide +kernel)
theorem iX3_find_12 {p0 : Nat} {p1 : Int32} {Ls st : List Value} {h : AH} (hw : wds st ≤ 8) : ev L xs mdX3_find 12 Ls (.int p1 :: .ref p0 :: st) h = kn L xs mdX3_find 12 15 Ls st (ev L xs mdJ7_fill_53178 0 [.ref p0, .int p1, .null, .null] [] h) := e_callS (as := [.int p1, .ref p0]) dX3_find_12 mr_3_23 (by decide) (by decide) rfl (by simp [wds, Value.category]; decide) rfl hw
theorem iX3_find_15 {x : Nat} {Ls st : List Value} {h : AH} : ev L xs mdX3_find 15 (.ref x :: Ls) (st) h = ev L xs mdX3_find 16 (.ref x :: Ls) (.ref x :: st) (h) := e_aload_n dX3_find_15 rfl
theorem iX3_find_16 {a : Nat} {Ls st : List Value} {h : AH} (hk : hK h a = 3) (hj : (hR h 50 a).isSome = true) : ev L xs mdX3_find 16 (Ls) (.ref a :: st) h = ev L xs mdX3_find 19 (Ls) (.ref ((hR h 50 a).getD 0) :: st) (h) := e_getR (k := 3) (f := 2) (F := 50) dX3_find_16 (by decide +kernel) rfl rfl hk hj
theorem iX3_find_19  {Ls st : List Value} {h : AH} : ev L xs mdX3_find 19 (Ls) (st) h = ev L xs mdX3_find 20 (Ls) (.int (nI 0) :: st) (h) := e_iconst dX3_find_19 (by decide)
theorem iX3_find_20  {Ls st : List Value} {h : AH} : ev L xs mdX3_find 20 (Ls) (st) h = ev L xs mdX3_find 21 (Ls) (.int (nI 0) :: st) (h) := e_iconst dX3_find_20 (by decide)
theorem iX3_find_21 {a : Nat} {j : Int32} {v : Int32} {Ls st : List Value} {h : AH} (hk : hK h a = 8) (hi : inA j (hN h a) = true) : ev L xs mdX3_find 21 (Ls) (.int v :: .int j :: .ref a :: st) h = ev L xs mdX3_find 22 (Ls) (st) (sA h a j.toNatClampNeg v) := e_iast dX3_find_21 hk hi
theorem iX3_find_22  {Ls st : List Value} {h : AH} : ev L xs mdX3_find 22 (Ls) (st) h = ev L xs mdX3_find 23 (Ls) (.int (nI 0) :: st) (h) := e_iconst dX3_find_22 (by decide)
theorem iX3_find_23 {v0 : Value} {v1 : Value} {v2 : Value} {v3 : Value} {x : Int32} {Ls st : List Value} {h : AH} (hc9 : v2.category = 1) : ev L xs mdX3_find 23 (v0 :: v1 :: v2 :: v3 :: Ls) (.int x :: st) h = ev L xs mdX3_find 24 (v0 :: v1 :: v2 :: .int x :: Ls) (st) (h) := e_istore_n dX3_find_23 rfl (by decide) (by unfold catOK; show (_ || (v2.category == 1)) = true; rw [hc9]; rfl)
theorem iX3_find_24 {v0 : Value} {v1 : Value} {v2 : Value} {x : Int32} {Ls st : List Value} {h : AH} : ev L xs mdX3_find 24 (v0 :: v1 :: v2 :: .int x :: Ls) (st) h = ev L xs mdX3_find 25 (v0 :: v1 :: v2 :: .int x :: Ls) (.int x :: st) (h) := e_iload_n dX3_find_24 rfl
theorem iX3_find_25 {v0 : Value} {x : Nat} {Ls st : List Value} {h : AH} : ev L xs mdX3_find 25 (v0 :: .ref x :: Ls) (st) h = ev L xs mdX3_find 26 (v0 :: .ref x :: Ls) (.ref x :: st) (h) := e_aload_n dX3_find_25 rfl
theorem iX3_find_26 {a : Nat} {Ls st : List Value} {h : AH} (hk : hK h a = 5) : ev L xs mdX3_find 26 (Ls) (.ref a :: st) h = ev L xs mdX3_find 29 (Ls) (.int (hI h 86 a) :: st) (h) := e_getI (k := 5) (f := 6) (F := 86) dX3_find_26 (by decide +kernel) rfl rfl hk
theorem iX3_find_29 {x z : Int32} {Ls st : List Value} {h : AH} : ev L xs mdX3_find 29 Ls (.int z :: .int x :: st) h = if z ≤ x then ev L xs mdX3_find 59 Ls st h else ev L xs mdX3_find 32 Ls st h := e_ic_ge dX3_find_29 (by decide)
theorem iX3_find_32 {v0 : Value} {v1 : Value} {x : Nat} {Ls st : List Value} {h : AH} : ev L xs mdX3_find 32 (v0 :: v1 :: .ref x :: Ls) (st) h = ev L xs mdX3_find 33 (v0 :: v1 :: .ref x :: Ls) (.ref x :: st) (h) := e_aload_n dX3_find_32 rfl
theorem iX3_find_33 {a : Nat} {Ls st : List Value} {h : AH} (hk : hK h a = 4) : ev L xs mdX3_find 33 (Ls) (.ref a :: st) h = ev L xs mdX3_find 36 (Ls) (.int (hI h 69 a) :: st) (h) := e_getI (k := 4) (f := 5) (F := 69) dX3_find_33 (by decide +kernel) rfl rfl hk
theorem iX3_find_36 {v0 : Value} {v1 : Value} {v2 : Value} {x : Int32} {Ls st : List Value} {h : AH} : ev L xs mdX3_find 36 (v0 :: v1 :: v2 :: .int x :: Ls) (st) h = ev L xs mdX3_find 37 (v0 :: v1 :: v2 :: .int x :: Ls) (.int x :: st) (h) := e_iload_n dX3_find_36 rfl
theorem iX3_find_37 {p0 : Int32} {p1 : Int32} {Ls st : List Value} {h : AH} (hw : wds st ≤ 8) : ev L xs mdX3_find 37 Ls (.int p1 :: .int p0 :: st) h = kn L xs mdX3_find 37 40 Ls st (ev L xs mdX6_isIn 0 [.int p0, .int p1] [] h) := e_callS (as := [.int p1, .int p0]) dX3_find_37 mr_3_40 (by decide) (by decide) rfl (by simp [wds, Value.category]; decide) rfl hw
theorem iX3_find_40 {x : Int32} {Ls st : List Value} {h : AH} : ev L xs mdX3_find 40 Ls (.int x :: st) h = if x = nI 0 then ev L xs mdX3_find 53 Ls st h else ev L xs mdX3_find 43 Ls st h := e_if_eq dX3_find_40 (by decide)
theorem iX3_find_43 {x : Nat} {Ls st : List Value} {h : AH} : ev L xs mdX3_find 43 (.ref x :: Ls) (st) h = ev L xs mdX3_find 44 (.ref x :: Ls) (.ref x :: st) (h) := e_aload_n dX3_find_43 rfl
theorem iX3_find_44 {v0 : Value} {x : Nat} {Ls st : List Value} {h : AH} : ev L xs mdX3_find 44 (v0 :: .ref x :: Ls) (st) h = ev L xs mdX3_find 45 (v0 :: .ref x :: Ls) (.ref x :: st) (h) := e_aload_n dX3_find_44 rfl
theorem iX3_find_45 {a : Nat} {Ls st : List Value} {h : AH} (hk : hK h a = 5) (hj : (hR h 85 a).isSome = true) : ev L xs mdX3_find 45 (Ls) (.ref a :: st) h = ev L xs mdX3_find 48 (Ls) (.ref ((hR h 85 a).getD 0) :: st) (h) := e_getR (k := 5) (f := 5) (F := 85) dX3_find_45 (by decide +kernel) rfl rfl hk hj
theorem iX3_find_48 {v0 : Value} {v1 : Value} {v2 : Value} {x : Int32} {Ls st : List Value} {h : AH} : ev L xs mdX3_find 48 (v0 :: v1 :: v2 :: .int x :: Ls) (st) h = ev L xs mdX3_find 49 (v0 :: v1 :: v2 :: .int x :: Ls) (.int x :: st) (h) := e_iload_n dX3_find_48 rfl
theorem iX3_find_49 {a : Nat} {j : Int32} {Ls st : List Value} {h : AH} (hk : hK h a = 9 ∨ hK h a = 10 ∨ hK h a = 11) (hi : inA j (hN h a) = true) (hq : (hQ h a j.toNatClampNeg).isSome = true) : ev L xs mdX3_find 49 (Ls) (.int j :: .ref a :: st) h = ev L xs mdX3_find 50 (Ls) (.ref ((hQ h a j.toNatClampNeg).getD 0) :: st) (h) := e_aald dX3_find_49 hk hi hq
theorem iX3_find_50 {a : Nat} {p0 : Nat} {Ls st : List Value} {h : AH} (hk : hK h a = 3) (hw : wds st ≤ 8) : ev L xs mdX3_find 50 Ls (.ref p0 :: .ref a :: st) h = kn L xs mdX3_find 50 53 Ls st (ev L xs mdX3_addGuardToWays 0 [.ref a, .ref p0, .null, .null, .null] [] h) := e_callV (as := [.ref p0]) dX3_find_50 mr_3_48 (by decide) (by decide) rfl (by simp [wds, Value.category]; decide) rfl (by decide) hk hw
theorem iX3_find_53 {v0 : Value} {v1 : Value} {v2 : Value} {x : Int32} {Ls st : List Value} {h : AH} (hc9 : v2.category = 1) : ev L xs mdX3_find 53 (v0 :: v1 :: v2 :: .int x :: Ls) (st) h = ev L xs mdX3_find 56 (v0 :: v1 :: v2 :: .int (x + (nI 1)) :: Ls) (st) (h) := e_iinc dX3_find_53 rfl rfl rfl (by decide) (by unfold catOK; show (_ || (v2.category == 1)) = true; rw [hc9]; rfl)
theorem iX3_find_56  {Ls st : List Value} {h : AH} : ev L xs mdX3_find 56 (Ls) (st) h = ev L xs mdX3_find 24 (Ls) (st) (h) := e_goto dX3_find_56 (by decide)
theorem iX3_find_59 {x : Nat} {Ls st : List Value} {h : AH} : ev L xs mdX3_find 59 (.ref x :: Ls) (st) h = ev L xs mdX3_find 60 (.ref x :: Ls) (.ref x :: st) (h) := e_aload_n dX3_find_59 rfl
theorem iX3_find_60 {a : Nat} {Ls st : List Value} {h : AH} (hk : hK h a = 3) (hw : wds st ≤ 8) : ev L xs mdX3_find 60 Ls (.ref a :: st) h = kn L xs mdX3_find 60 63 Ls st (ev L xs mdX3_choose 0 [.ref a, .null, .null, .null] [] h) := e_callV (as := []) dX3_find_60 mr_3_52 (by decide) (by decide) rfl (by simp [wds, Value.category]; decide) rfl (by decide) hk hw
theorem iX3_find_63 {Ls : List Value} {h : AH} : ev L xs mdX3_find 63 Ls [] h = some (.inl (none, h)) := e_vret dX3_find_63 rfl
theorem dX3_init_0 : decode cX3_init 0 = .ok (.aload_n 0, 1) := by decide +kernel
theorem dX3_init_1 : decode cX3_init 1 = .ok (.invokespecial 3, 3) := by decide +kernel
theorem dX3_init_4 : decode cX3_init 4 = .ok (.aload_n 0, 1) := by decide +kernel
theorem dX3_init_5 : decode cX3_init 5 = .ok (.bipush 8, 2) := by decide +kernel
theorem dX3_init_7 : decode cX3_init 7 = .ok (.newarray .int, 2) := by decide +kernel
theorem dX3_init_9 : decode cX3_init 9 = .ok (.putfield 9, 3) := by decide +kernel
theorem dX3_init_12 : decode cX3_init 12 = .ok (.aload_n 0, 1) := by decide +kernel
theorem dX3_init_13 : decode cX3_init 13 = .ok (.sipush 256, 3) := by decide +kernel
theorem dX3_init_16 : decode cX3_init 16 = .ok (.newarray .int, 2) := by decide +kernel
theorem dX3_init_18 : decode cX3_init 18 = .ok (.putfield 15, 3) := by decide +kernel
theorem dX3_init_21 : decode cX3_init 21 = .ok (.return_, 1) := by decide +kernel
theorem iX3_init_0 {x : Nat} {Ls st : List Value} {h : AH} : ev L xs mdX3_init 0 (.ref x :: Ls) (st) h = ev L xs mdX3_init 1 (.ref x :: Ls) (.ref x :: st) (h) := e_aload_n dX3_init_0 rfl
theorem iX3_init_1 {a : Nat} {Ls st : List Value} {h : AH} (hw : wds st ≤ 8) : ev L xs mdX3_init 1 (Ls) (.ref a :: st) h = ev L xs mdX3_init 4 (Ls) (st) (h) := e_obj dX3_init_1 mr_3_3 (by decide) hw
theorem iX3_init_4 {x : Nat} {Ls st : List Value} {h : AH} : ev L xs mdX3_init 4 (.ref x :: Ls) (st) h = ev L xs mdX3_init 5 (.ref x :: Ls) (.ref x :: st) (h) := e_aload_n dX3_init_4 rfl
theorem iX3_init_5  {Ls st : List Value} {h : AH} : ev L xs mdX3_init 5 (Ls) (st) h = ev L xs mdX3_init 7 (Ls) (.int (nI 8) :: st) (h) := e_bipush dX3_init_5 (by decide)
theorem iX3_init_7 {c : Int32} {Ls st : List Value} {h : AH} (h0 : 0 ≤ c) (h1 : c ≤ 10000) : ev L xs mdX3_init 7 (Ls) (.int c :: st) h = ev L xs mdX3_init 9 (Ls) (.ref (hn h) :: st) (nw h 8 c.toNatClampNeg c.toNatClampNeg) := e_newI dX3_init_7 h0 h1
theorem iX3_init_9 {a v : Nat} {Ls st : List Value} {h : AH} (hk : hK h a = 3) : ev L xs mdX3_init 9 (Ls) (.ref v :: .ref a :: st) h = ev L xs mdX3_init 12 (Ls) (st) (sR h 48 a v) := e_putR (k := 3) (f := 0) (F := 48) dX3_init_9 (by decide +kernel) rfl (by decide +kernel) rfl hk
theorem iX3_init_12 {x : Nat} {Ls st : List Value} {h : AH} : ev L xs mdX3_init 12 (.ref x :: Ls) (st) h = ev L xs mdX3_init 13 (.ref x :: Ls) (.ref x :: st) (h) := e_aload_n dX3_init_12 rfl
theorem iX3_init_13  {Ls st : List Value} {h : AH} : ev L xs mdX3_init 13 (Ls) (st) h = ev L xs mdX3_init 16 (Ls) (.int (nI 256) :: st) (h) := e_sipush dX3_init_13 (by decide)
theorem iX3_init_16 {c : Int32} {Ls st : List Value} {h : AH} (h0 : 0 ≤ c) (h1 : c ≤ 10000) : ev L xs mdX3_init 16 (Ls) (.int c :: st) h = ev L xs mdX3_init 18 (Ls) (.ref (hn h) :: st) (nw h 8 c.toNatClampNeg c.toNatClampNeg) := e_newI dX3_init_16 h0 h1
theorem iX3_init_18 {a v : Nat} {Ls st : List Value} {h : AH} (hk : hK h a = 3) : ev L xs mdX3_init 18 (Ls) (.ref v :: .ref a :: st) h = ev L xs mdX3_init 21 (Ls) (st) (sR h 50 a v) := e_putR (k := 3) (f := 2) (F := 50) dX3_init_18 (by decide +kernel) rfl (by decide +kernel) rfl hk
theorem iX3_init_21 {Ls : List Value} {h : AH} : ev L xs mdX3_init 21 Ls [] h = some (.inl (none, h)) := e_vret dX3_init_21 rfl
theorem dX4_draw_0 : decode cX4_draw 0 = .ok (.aload_n 0, 1) := by decide +kernel
theorem dX4_draw_1 : decode cX4_draw 1 = .ok (.aload_n 1, 1) := by decide +kernel
theorem dX4_draw_2 : decode cX4_draw 2 = .ok (.aload_n 1, 1) := by decide +kernel
theorem dX4_draw_3 : decode cX4_draw 3 = .ok (.iload_n 2, 1) := by decide +kernel
theorem dX4_draw_4 : decode cX4_draw 4 = .ok (.iload_n 3, 1) := by decide +kernel
theorem dX4_draw_5 : decode cX4_draw 5 = .ok (.invokevirtual 18, 3) := by decide +kernel
theorem dX4_draw_8 : decode cX4_draw 8 = .ok (.aload_n 1, 1) := by decide +kernel
theorem dX4_draw_9 : decode cX4_draw 9 = .ok (.iload_n 2, 1) := by decide +kernel
theorem dX4_draw_10 : decode cX4_draw 10 = .ok (.invokevirtual 24, 3) := by decide +kernel
theorem dX4_draw_13 : decode cX4_draw 13 = .ok (.invokevirtual 28, 3) := by decide +kernel
theorem dX4_draw_16 : decode cX4_draw 16 = .ok (.iconst 0, 1) := by decide +kernel
theorem dX4_draw_17 : decode cX4_draw 17 = .ok (.istore 4, 2) := by decide +kernel
theorem dX4_draw_19 : decode cX4_draw 19 = .ok (.iload 4, 2) := by decide +kernel
theorem dX4_draw_21 : decode cX4_draw 21 = .ok (.iconst 2, 1) := by decide +kernel
theorem dX4_draw_22 : decode cX4_draw 22 = .ok (.if_icmp .ge 87, 3) := by decide +kernel
theorem dX4_draw_25 : decode cX4_draw 25 = .ok (.iload 4, 2) := by decide +kernel
theorem dX4_draw_27 : decode cX4_draw 27 = .ok (.ifCond .ne 7, 3) := by decide +kernel
theorem dX4_draw_30 : decode cX4_draw 30 = .ok (.iconst 1, 1) := by decide +kernel
theorem dX4_draw_31 : decode cX4_draw 31 = .ok (.goto 4, 3) := by decide +kernel
theorem dX4_draw_34 : decode cX4_draw 34 = .ok (.iconst 0, 1) := by decide +kernel
theorem dX4_draw_35 : decode cX4_draw 35 = .ok (.istore 5, 2) := by decide +kernel
theorem dX4_draw_37 : decode cX4_draw 37 = .ok (.iconst 0, 1) := by decide +kernel
theorem dX4_draw_38 : decode cX4_draw 38 = .ok (.istore 6, 2) := by decide +kernel
theorem dX4_draw_40 : decode cX4_draw 40 = .ok (.iload 6, 2) := by decide +kernel
theorem dX4_draw_42 : decode cX4_draw 42 = .ok (.aload_n 1, 1) := by decide +kernel
theorem dX4_draw_43 : decode cX4_draw 43 = .ok (.getfield 32, 3) := by decide +kernel
theorem dX4_draw_46 : decode cX4_draw 46 = .ok (.if_icmp .ge 57, 3) := by decide +kernel
theorem dX4_draw_49 : decode cX4_draw 49 = .ok (.aload_n 1, 1) := by decide +kernel
theorem dX4_draw_50 : decode cX4_draw 50 = .ok (.getfield 36, 3) := by decide +kernel
theorem dX4_draw_53 : decode cX4_draw 53 = .ok (.iload 6, 2) := by decide +kernel
theorem dX4_draw_55 : decode cX4_draw 55 = .ok (.aaload, 1) := by decide +kernel
theorem dX4_draw_56 : decode cX4_draw 56 = .ok (.astore 7, 2) := by decide +kernel
theorem dX4_draw_58 : decode cX4_draw 58 = .ok (.aload_n 0, 1) := by decide +kernel
theorem dX4_draw_59 : decode cX4_draw 59 = .ok (.iload 6, 2) := by decide +kernel
theorem dX4_draw_61 : decode cX4_draw 61 = .ok (.invokevirtual 40, 3) := by decide +kernel
theorem dX4_draw_64 : decode cX4_draw 64 = .ok (.ifCond .eq 33, 3) := by decide +kernel
theorem dX4_draw_67 : decode cX4_draw 67 = .ok (.aload 7, 2) := by decide +kernel
theorem dX4_draw_69 : decode cX4_draw 69 = .ok (.aload_n 1, 1) := by decide +kernel
theorem dX4_draw_70 : decode cX4_draw 70 = .ok (.getfield 44, 3) := by decide +kernel
theorem dX4_draw_73 : decode cX4_draw 73 = .ok (.invokevirtual 47, 3) := by decide +kernel
theorem dX4_draw_76 : decode cX4_draw 76 = .ok (.iload 5, 2) := by decide +kernel
theorem dX4_draw_78 : decode cX4_draw 78 = .ok (.if_icmp .ne 19, 3) := by decide +kernel
theorem dX4_draw_81 : decode cX4_draw 81 = .ok (.aload_n 0, 1) := by decide +kernel
theorem dX4_draw_82 : decode cX4_draw 82 = .ok (.aload_n 0, 1) := by decide +kernel
theorem dX4_draw_83 : decode cX4_draw 83 = .ok (.aload_n 1, 1) := by decide +kernel
theorem dX4_draw_84 : decode cX4_draw 84 = .ok (.aload 7, 2) := by decide +kernel
theorem dX4_draw_86 : decode cX4_draw 86 = .ok (.getfield 52, 3) := by decide +kernel
theorem dX4_draw_89 : decode cX4_draw 89 = .ok (.invokevirtual 55, 3) := by decide +kernel
theorem dX4_draw_92 : decode cX4_draw 92 = .ok (.iload 6, 2) := by decide +kernel
theorem dX4_draw_94 : decode cX4_draw 94 = .ok (.invokevirtual 59, 3) := by decide +kernel
theorem dX4_draw_97 : decode cX4_draw 97 = .ok (.iinc 6 1, 3) := by decide +kernel
theorem dX4_draw_100 : decode cX4_draw 100 = .ok (.goto (-60), 3) := by decide +kernel
theorem dX4_draw_103 : decode cX4_draw 103 = .ok (.iinc 4 1, 3) := by decide +kernel
theorem dX4_draw_106 : decode cX4_draw 106 = .ok (.goto (-87), 3) := by decide +kernel
theorem dX4_draw_109 : decode cX4_draw 109 = .ok (.return_, 1) := by decide +kernel
theorem iX4_draw_0 {x : Nat} {Ls st : List Value} {h : AH} : ev L xs mdX4_draw 0 (.ref x :: Ls) (st) h = ev L xs mdX4_draw 1 (.ref x :: Ls) (.ref x :: st) (h) := e_aload_n dX4_draw_0 rfl
theorem iX4_draw_1 {v0 : Value} {x : Nat} {Ls st : List Value} {h : AH} : ev L xs mdX4_draw 1 (v0 :: .ref x :: Ls) (st) h = ev L xs mdX4_draw 2 (v0 :: .ref x :: Ls) (.ref x :: st) (h) := e_aload_n dX4_draw_1 rfl
theorem iX4_draw_2 {v0 : Value} {x : Nat} {Ls st : List Value} {h : AH} : ev L xs mdX4_draw 2 (v0 :: .ref x :: Ls) (st) h = ev L xs mdX4_draw 3 (v0 :: .ref x :: Ls) (.ref x :: st) (h) := e_aload_n dX4_draw_2 rfl
theorem iX4_draw_3 {v0 : Value} {v1 : Value} {x : Int32} {Ls st : List Value} {h : AH} : ev L xs mdX4_draw 3 (v0 :: v1 :: .int x :: Ls) (st) h = ev L xs mdX4_draw 4 (v0 :: v1 :: .int x :: Ls) (.int x :: st) (h) := e_iload_n dX4_draw_3 rfl
theorem iX4_draw_4 {v0 : Value} {v1 : Value} {v2 : Value} {x : Int32} {Ls st : List Value} {h : AH} : ev L xs mdX4_draw 4 (v0 :: v1 :: v2 :: .int x :: Ls) (st) h = ev L xs mdX4_draw 5 (v0 :: v1 :: v2 :: .int x :: Ls) (.int x :: st) (h) := e_iload_n dX4_draw_4 rfl
theorem iX4_draw_5 {a : Nat} {p0 : Int32} {p1 : Int32} {Ls st : List Value} {h : AH} (hk : hK h a = 5) (hw : wds st ≤ 8) : ev L xs mdX4_draw 5 Ls (.int p1 :: .int p0 :: .ref a :: st) h = kn L xs mdX4_draw 5 8 Ls st (ev L xs mdX5_neededPosts 0 [.ref a, .int p0, .int p1, .null, .null, .null] [] h) := e_callV (as := [.int p1, .int p0]) dX4_draw_5 mr_4_18 (by decide) (by decide) rfl (by simp [wds, Value.category]; decide) rfl (by decide) hk hw
theorem iX4_draw_8 {v0 : Value} {x : Nat} {Ls st : List Value} {h : AH} : ev L xs mdX4_draw 8 (v0 :: .ref x :: Ls) (st) h = ev L xs mdX4_draw 9 (v0 :: .ref x :: Ls) (.ref x :: st) (h) := e_aload_n dX4_draw_8 rfl
theorem iX4_draw_9 {v0 : Value} {v1 : Value} {x : Int32} {Ls st : List Value} {h : AH} : ev L xs mdX4_draw 9 (v0 :: v1 :: .int x :: Ls) (st) h = ev L xs mdX4_draw 10 (v0 :: v1 :: .int x :: Ls) (.int x :: st) (h) := e_iload_n dX4_draw_9 rfl
theorem iX4_draw_10 {a : Nat} {p0 : Int32} {Ls st : List Value} {h : AH} (hk : hK h a = 5) (hw : wds st ≤ 8) : ev L xs mdX4_draw 10 Ls (.int p0 :: .ref a :: st) h = kn L xs mdX4_draw 10 13 Ls st (ev L xs mdX5_wellGuards 0 [.ref a, .int p0, .null, .null] [] h) := e_callV (as := [.int p0]) dX4_draw_10 mr_4_24 (by decide) (by decide) rfl (by simp [wds, Value.category]; decide) rfl (by decide) hk hw
theorem iX4_draw_13 {a : Nat} {p0 : Nat} {p1 : Int32} {p2 : Int32} {Ls st : List Value} {h : AH} (hk : hK h a = 4) (hw : wds st ≤ 8) : ev L xs mdX4_draw 13 Ls (.int p2 :: .int p1 :: .ref p0 :: .ref a :: st) h = kn L xs mdX4_draw 13 16 Ls st (ev L xs mdX4_drawOwn 0 [.ref a, .ref p0, .int p1, .int p2, .null, .null] [] h) := e_callV (as := [.int p2, .int p1, .ref p0]) dX4_draw_13 mr_4_28 (by decide) (by decide) rfl (by simp [wds, Value.category]; decide) rfl (by decide) hk hw
theorem iX4_draw_16  {Ls st : List Value} {h : AH} : ev L xs mdX4_draw 16 (Ls) (st) h = ev L xs mdX4_draw 17 (Ls) (.int (nI 0) :: st) (h) := e_iconst dX4_draw_16 (by decide)
theorem iX4_draw_17 {v0 : Value} {v1 : Value} {v2 : Value} {v3 : Value} {v4 : Value} {x : Int32} {Ls st : List Value} {h : AH} (hc9 : v3.category = 1) : ev L xs mdX4_draw 17 (v0 :: v1 :: v2 :: v3 :: v4 :: Ls) (.int x :: st) h = ev L xs mdX4_draw 19 (v0 :: v1 :: v2 :: v3 :: .int x :: Ls) (st) (h) := e_istore dX4_draw_17 rfl (by decide) (by unfold catOK; show (_ || (v3.category == 1)) = true; rw [hc9]; rfl)
theorem iX4_draw_19 {v0 : Value} {v1 : Value} {v2 : Value} {v3 : Value} {x : Int32} {Ls st : List Value} {h : AH} : ev L xs mdX4_draw 19 (v0 :: v1 :: v2 :: v3 :: .int x :: Ls) (st) h = ev L xs mdX4_draw 21 (v0 :: v1 :: v2 :: v3 :: .int x :: Ls) (.int x :: st) (h) := e_iload dX4_draw_19 rfl
theorem iX4_draw_21  {Ls st : List Value} {h : AH} : ev L xs mdX4_draw 21 (Ls) (st) h = ev L xs mdX4_draw 22 (Ls) (.int (nI 2) :: st) (h) := e_iconst dX4_draw_21 (by decide)
theorem iX4_draw_22 {x z : Int32} {Ls st : List Value} {h : AH} : ev L xs mdX4_draw 22 Ls (.int z :: .int x :: st) h = if z ≤ x then ev L xs mdX4_draw 109 Ls st h else ev L xs mdX4_draw 25 Ls st h := e_ic_ge dX4_draw_22 (by decide)
theorem iX4_draw_25 {v0 : Value} {v1 : Value} {v2 : Value} {v3 : Value} {x : Int32} {Ls st : List Value} {h : AH} : ev L xs mdX4_draw 25 (v0 :: v1 :: v2 :: v3 :: .int x :: Ls) (st) h = ev L xs mdX4_draw 27 (v0 :: v1 :: v2 :: v3 :: .int x :: Ls) (.int x :: st) (h) := e_iload dX4_draw_25 rfl
theorem iX4_draw_27 {x : Int32} {Ls st : List Value} {h : AH} : ev L xs mdX4_draw 27 Ls (.int x :: st) h = if x = nI 0 then ev L xs mdX4_draw 30 Ls st h else ev L xs mdX4_draw 34 Ls st h := e_if_ne dX4_draw_27 (by decide)
theorem iX4_draw_30  {Ls st : List Value} {h : AH} : ev L xs mdX4_draw 30 (Ls) (st) h = ev L xs mdX4_draw 31 (Ls) (.int (nI 1) :: st) (h) := e_iconst dX4_draw_30 (by decide)
theorem iX4_draw_31  {Ls st : List Value} {h : AH} : ev L xs mdX4_draw 31 (Ls) (st) h = ev L xs mdX4_draw 35 (Ls) (st) (h) := e_goto dX4_draw_31 (by decide)
theorem iX4_draw_34  {Ls st : List Value} {h : AH} : ev L xs mdX4_draw 34 (Ls) (st) h = ev L xs mdX4_draw 35 (Ls) (.int (nI 0) :: st) (h) := e_iconst dX4_draw_34 (by decide)
theorem iX4_draw_35 {v0 : Value} {v1 : Value} {v2 : Value} {v3 : Value} {v4 : Value} {v5 : Value} {x : Int32} {Ls st : List Value} {h : AH} (hc9 : v4.category = 1) : ev L xs mdX4_draw 35 (v0 :: v1 :: v2 :: v3 :: v4 :: v5 :: Ls) (.int x :: st) h = ev L xs mdX4_draw 37 (v0 :: v1 :: v2 :: v3 :: v4 :: .int x :: Ls) (st) (h) := e_istore dX4_draw_35 rfl (by decide) (by unfold catOK; show (_ || (v4.category == 1)) = true; rw [hc9]; rfl)
theorem iX4_draw_37  {Ls st : List Value} {h : AH} : ev L xs mdX4_draw 37 (Ls) (st) h = ev L xs mdX4_draw 38 (Ls) (.int (nI 0) :: st) (h) := e_iconst dX4_draw_37 (by decide)
theorem iX4_draw_38 {v0 : Value} {v1 : Value} {v2 : Value} {v3 : Value} {v4 : Value} {v5 : Value} {v6 : Value} {x : Int32} {Ls st : List Value} {h : AH} (hc9 : v5.category = 1) : ev L xs mdX4_draw 38 (v0 :: v1 :: v2 :: v3 :: v4 :: v5 :: v6 :: Ls) (.int x :: st) h = ev L xs mdX4_draw 40 (v0 :: v1 :: v2 :: v3 :: v4 :: v5 :: .int x :: Ls) (st) (h) := e_istore dX4_draw_38 rfl (by decide) (by unfold catOK; show (_ || (v5.category == 1)) = true; rw [hc9]; rfl)
theorem iX4_draw_40 {v0 : Value} {v1 : Value} {v2 : Value} {v3 : Value} {v4 : Value} {v5 : Value} {x : Int32} {Ls st : List Value} {h : AH} : ev L xs mdX4_draw 40 (v0 :: v1 :: v2 :: v3 :: v4 :: v5 :: .int x :: Ls) (st) h = ev L xs mdX4_draw 42 (v0 :: v1 :: v2 :: v3 :: v4 :: v5 :: .int x :: Ls) (.int x :: st) (h) := e_iload dX4_draw_40 rfl
theorem iX4_draw_42 {v0 : Value} {x : Nat} {Ls st : List Value} {h : AH} : ev L xs mdX4_draw 42 (v0 :: .ref x :: Ls) (st) h = ev L xs mdX4_draw 43 (v0 :: .ref x :: Ls) (.ref x :: st) (h) := e_aload_n dX4_draw_42 rfl
theorem iX4_draw_43 {a : Nat} {Ls st : List Value} {h : AH} (hk : hK h a = 5) : ev L xs mdX4_draw 43 (Ls) (.ref a :: st) h = ev L xs mdX4_draw 46 (Ls) (.int (hI h 84 a) :: st) (h) := e_getI (k := 5) (f := 4) (F := 84) dX4_draw_43 (by decide +kernel) rfl rfl hk
theorem iX4_draw_46 {x z : Int32} {Ls st : List Value} {h : AH} : ev L xs mdX4_draw 46 Ls (.int z :: .int x :: st) h = if z ≤ x then ev L xs mdX4_draw 103 Ls st h else ev L xs mdX4_draw 49 Ls st h := e_ic_ge dX4_draw_46 (by decide)
theorem iX4_draw_49 {v0 : Value} {x : Nat} {Ls st : List Value} {h : AH} : ev L xs mdX4_draw 49 (v0 :: .ref x :: Ls) (st) h = ev L xs mdX4_draw 50 (v0 :: .ref x :: Ls) (.ref x :: st) (h) := e_aload_n dX4_draw_49 rfl
theorem iX4_draw_50 {a : Nat} {Ls st : List Value} {h : AH} (hk : hK h a = 5) (hj : (hR h 83 a).isSome = true) : ev L xs mdX4_draw 50 (Ls) (.ref a :: st) h = ev L xs mdX4_draw 53 (Ls) (.ref ((hR h 83 a).getD 0) :: st) (h) := e_getR (k := 5) (f := 3) (F := 83) dX4_draw_50 (by decide +kernel) rfl rfl hk hj
theorem iX4_draw_53 {v0 : Value} {v1 : Value} {v2 : Value} {v3 : Value} {v4 : Value} {v5 : Value} {x : Int32} {Ls st : List Value} {h : AH} : ev L xs mdX4_draw 53 (v0 :: v1 :: v2 :: v3 :: v4 :: v5 :: .int x :: Ls) (st) h = ev L xs mdX4_draw 55 (v0 :: v1 :: v2 :: v3 :: v4 :: v5 :: .int x :: Ls) (.int x :: st) (h) := e_iload dX4_draw_53 rfl
theorem iX4_draw_55 {a : Nat} {j : Int32} {Ls st : List Value} {h : AH} (hk : hK h a = 9 ∨ hK h a = 10 ∨ hK h a = 11) (hi : inA j (hN h a) = true) (hq : (hQ h a j.toNatClampNeg).isSome = true) : ev L xs mdX4_draw 55 (Ls) (.int j :: .ref a :: st) h = ev L xs mdX4_draw 56 (Ls) (.ref ((hQ h a j.toNatClampNeg).getD 0) :: st) (h) := e_aald dX4_draw_55 hk hi hq
theorem iX4_draw_56 {v0 : Value} {v1 : Value} {v2 : Value} {v3 : Value} {v4 : Value} {v5 : Value} {v6 : Value} {v7 : Value} {x : Nat} {Ls st : List Value} {h : AH} (hc9 : v6.category = 1) : ev L xs mdX4_draw 56 (v0 :: v1 :: v2 :: v3 :: v4 :: v5 :: v6 :: v7 :: Ls) (.ref x :: st) h = ev L xs mdX4_draw 58 (v0 :: v1 :: v2 :: v3 :: v4 :: v5 :: v6 :: .ref x :: Ls) (st) (h) := e_astore dX4_draw_56 rfl (by decide) (by unfold catOK; show (_ || (v6.category == 1)) = true; rw [hc9]; rfl)
theorem iX4_draw_58 {x : Nat} {Ls st : List Value} {h : AH} : ev L xs mdX4_draw 58 (.ref x :: Ls) (st) h = ev L xs mdX4_draw 59 (.ref x :: Ls) (.ref x :: st) (h) := e_aload_n dX4_draw_58 rfl
theorem iX4_draw_59 {v0 : Value} {v1 : Value} {v2 : Value} {v3 : Value} {v4 : Value} {v5 : Value} {x : Int32} {Ls st : List Value} {h : AH} : ev L xs mdX4_draw 59 (v0 :: v1 :: v2 :: v3 :: v4 :: v5 :: .int x :: Ls) (st) h = ev L xs mdX4_draw 61 (v0 :: v1 :: v2 :: v3 :: v4 :: v5 :: .int x :: Ls) (.int x :: st) (h) := e_iload dX4_draw_59 rfl
theorem iX4_draw_61 {a : Nat} {p0 : Int32} {Ls st : List Value} {h : AH} (hk : hK h a = 4) (hw : wds st ≤ 8) : ev L xs mdX4_draw 61 Ls (.int p0 :: .ref a :: st) h = kn L xs mdX4_draw 61 64 Ls st (ev L xs mdX4_lacksGuard 0 [.ref a, .int p0] [] h) := e_callV (as := [.int p0]) dX4_draw_61 mr_4_40 (by decide) (by decide) rfl (by simp [wds, Value.category]; decide) rfl (by decide) hk hw
theorem iX4_draw_64 {x : Int32} {Ls st : List Value} {h : AH} : ev L xs mdX4_draw 64 Ls (.int x :: st) h = if x = nI 0 then ev L xs mdX4_draw 97 Ls st h else ev L xs mdX4_draw 67 Ls st h := e_if_eq dX4_draw_64 (by decide)
theorem iX4_draw_67 {v0 : Value} {v1 : Value} {v2 : Value} {v3 : Value} {v4 : Value} {v5 : Value} {v6 : Value} {x : Nat} {Ls st : List Value} {h : AH} : ev L xs mdX4_draw 67 (v0 :: v1 :: v2 :: v3 :: v4 :: v5 :: v6 :: .ref x :: Ls) (st) h = ev L xs mdX4_draw 69 (v0 :: v1 :: v2 :: v3 :: v4 :: v5 :: v6 :: .ref x :: Ls) (.ref x :: st) (h) := e_aload dX4_draw_67 rfl
theorem iX4_draw_69 {v0 : Value} {x : Nat} {Ls st : List Value} {h : AH} : ev L xs mdX4_draw 69 (v0 :: .ref x :: Ls) (st) h = ev L xs mdX4_draw 70 (v0 :: .ref x :: Ls) (.ref x :: st) (h) := e_aload_n dX4_draw_69 rfl
theorem iX4_draw_70 {a : Nat} {Ls st : List Value} {h : AH} (hk : hK h a = 5) : ev L xs mdX4_draw 70 (Ls) (.ref a :: st) h = ev L xs mdX4_draw 73 (Ls) (.int (hI h 87 a) :: st) (h) := e_getI (k := 5) (f := 7) (F := 87) dX4_draw_70 (by decide +kernel) rfl rfl hk
theorem iX4_draw_73 {a : Nat} {p0 : Int32} {Ls st : List Value} {h : AH} (hk : hK h a = 2) (hw : wds st ≤ 8) : ev L xs mdX4_draw 73 Ls (.int p0 :: .ref a :: st) h = kn L xs mdX4_draw 73 76 Ls st (ev L xs mdX2_hasPriority 0 [.ref a, .int p0] [] h) := e_callV (as := [.int p0]) dX4_draw_73 mr_4_47 (by decide) (by decide) rfl (by simp [wds, Value.category]; decide) rfl (by decide) hk hw
theorem iX4_draw_76 {v0 : Value} {v1 : Value} {v2 : Value} {v3 : Value} {v4 : Value} {x : Int32} {Ls st : List Value} {h : AH} : ev L xs mdX4_draw 76 (v0 :: v1 :: v2 :: v3 :: v4 :: .int x :: Ls) (st) h = ev L xs mdX4_draw 78 (v0 :: v1 :: v2 :: v3 :: v4 :: .int x :: Ls) (.int x :: st) (h) := e_iload dX4_draw_76 rfl
theorem iX4_draw_78 {x z : Int32} {Ls st : List Value} {h : AH} : ev L xs mdX4_draw 78 Ls (.int z :: .int x :: st) h = if x = z then ev L xs mdX4_draw 81 Ls st h else ev L xs mdX4_draw 97 Ls st h := e_ic_ne dX4_draw_78 (by decide)
theorem iX4_draw_81 {x : Nat} {Ls st : List Value} {h : AH} : ev L xs mdX4_draw 81 (.ref x :: Ls) (st) h = ev L xs mdX4_draw 82 (.ref x :: Ls) (.ref x :: st) (h) := e_aload_n dX4_draw_81 rfl
theorem iX4_draw_82 {x : Nat} {Ls st : List Value} {h : AH} : ev L xs mdX4_draw 82 (.ref x :: Ls) (st) h = ev L xs mdX4_draw 83 (.ref x :: Ls) (.ref x :: st) (h) := e_aload_n dX4_draw_82 rfl
theorem iX4_draw_83 {v0 : Value} {x : Nat} {Ls st : List Value} {h : AH} : ev L xs mdX4_draw 83 (v0 :: .ref x :: Ls) (st) h = ev L xs mdX4_draw 84 (v0 :: .ref x :: Ls) (.ref x :: st) (h) := e_aload_n dX4_draw_83 rfl
theorem iX4_draw_84 {v0 : Value} {v1 : Value} {v2 : Value} {v3 : Value} {v4 : Value} {v5 : Value} {v6 : Value} {x : Nat} {Ls st : List Value} {h : AH} : ev L xs mdX4_draw 84 (v0 :: v1 :: v2 :: v3 :: v4 :: v5 :: v6 :: .ref x :: Ls) (st) h = ev L xs mdX4_draw 86 (v0 :: v1 :: v2 :: v3 :: v4 :: v5 :: v6 :: .ref x :: Ls) (.ref x :: st) (h) := e_aload dX4_draw_84 rfl
theorem iX4_draw_86 {a : Nat} {Ls st : List Value} {h : AH} (hk : hK h a = 2) : ev L xs mdX4_draw 86 (Ls) (.ref a :: st) h = ev L xs mdX4_draw 89 (Ls) (.int (hI h 32 a) :: st) (h) := e_getI (k := 2) (f := 0) (F := 32) dX4_draw_86 (by decide +kernel) rfl rfl hk
theorem iX4_draw_89 {a : Nat} {p0 : Nat} {p1 : Int32} {Ls st : List Value} {h : AH} (hk : hK h a = 4) (hw : wds st ≤ 8) : ev L xs mdX4_draw 89 Ls (.int p1 :: .ref p0 :: .ref a :: st) h = kn L xs mdX4_draw 89 92 Ls st (ev L xs mdX4_nearest 0 [.ref a, .ref p0, .int p1, .null, .null, .null, .null, .null, .null] [] h) := e_callV (as := [.int p1, .ref p0]) dX4_draw_89 mr_4_55 (by decide) (by decide) rfl (by simp [wds, Value.category]; decide) rfl (by decide) hk hw
theorem iX4_draw_92 {v0 : Value} {v1 : Value} {v2 : Value} {v3 : Value} {v4 : Value} {v5 : Value} {x : Int32} {Ls st : List Value} {h : AH} : ev L xs mdX4_draw 92 (v0 :: v1 :: v2 :: v3 :: v4 :: v5 :: .int x :: Ls) (st) h = ev L xs mdX4_draw 94 (v0 :: v1 :: v2 :: v3 :: v4 :: v5 :: .int x :: Ls) (.int x :: st) (h) := e_iload dX4_draw_92 rfl
theorem iX4_draw_94 {a : Nat} {p0 : Int32} {p1 : Int32} {Ls st : List Value} {h : AH} (hk : hK h a = 4) (hw : wds st ≤ 8) : ev L xs mdX4_draw 94 Ls (.int p1 :: .int p0 :: .ref a :: st) h = kn L xs mdX4_draw 94 97 Ls st (ev L xs mdX4_placeOrLeaveOpen 0 [.ref a, .int p0, .int p1] [] h) := e_callV (as := [.int p1, .int p0]) dX4_draw_94 mr_4_59 (by decide) (by decide) rfl (by simp [wds, Value.category]; decide) rfl (by decide) hk hw
theorem iX4_draw_97 {v0 : Value} {v1 : Value} {v2 : Value} {v3 : Value} {v4 : Value} {v5 : Value} {x : Int32} {Ls st : List Value} {h : AH} (hc9 : v5.category = 1) : ev L xs mdX4_draw 97 (v0 :: v1 :: v2 :: v3 :: v4 :: v5 :: .int x :: Ls) (st) h = ev L xs mdX4_draw 100 (v0 :: v1 :: v2 :: v3 :: v4 :: v5 :: .int (x + (nI 1)) :: Ls) (st) (h) := e_iinc dX4_draw_97 rfl rfl rfl (by decide) (by unfold catOK; show (_ || (v5.category == 1)) = true; rw [hc9]; rfl)
theorem iX4_draw_100  {Ls st : List Value} {h : AH} : ev L xs mdX4_draw 100 (Ls) (st) h = ev L xs mdX4_draw 40 (Ls) (st) (h) := e_goto dX4_draw_100 (by decide)
theorem iX4_draw_103 {v0 : Value} {v1 : Value} {v2 : Value} {v3 : Value} {x : Int32} {Ls st : List Value} {h : AH} (hc9 : v3.category = 1) : ev L xs mdX4_draw 103 (v0 :: v1 :: v2 :: v3 :: .int x :: Ls) (st) h = ev L xs mdX4_draw 106 (v0 :: v1 :: v2 :: v3 :: .int (x + (nI 1)) :: Ls) (st) (h) := e_iinc dX4_draw_103 rfl rfl rfl (by decide) (by unfold catOK; show (_ || (v3.category == 1)) = true; rw [hc9]; rfl)
theorem iX4_draw_106  {Ls st : List Value} {h : AH} : ev L xs mdX4_draw 106 (Ls) (st) h = ev L xs mdX4_draw 19 (Ls) (st) (h) := e_goto dX4_draw_106 (by decide)
theorem iX4_draw_109 {Ls : List Value} {h : AH} : ev L xs mdX4_draw 109 Ls [] h = some (.inl (none, h)) := e_vret dX4_draw_109 rfl
theorem dX4_drawOwn_0 : decode cX4_drawOwn 0 = .ok (.aload_n 0, 1) := by decide +kernel
theorem dX4_drawOwn_1 : decode cX4_drawOwn 1 = .ok (.getfield 9, 3) := by decide +kernel
theorem dX4_drawOwn_4 : decode cX4_drawOwn 4 = .ok (.iconst (-1), 1) := by decide +kernel
theorem dX4_drawOwn_5 : decode cX4_drawOwn 5 = .ok (.invokestatic 63, 3) := by decide +kernel
theorem dX4_drawOwn_8 : decode cX4_drawOwn 8 = .ok (.aload_n 0, 1) := by decide +kernel
theorem dX4_drawOwn_9 : decode cX4_drawOwn 9 = .ok (.getfield 15, 3) := by decide +kernel
theorem dX4_drawOwn_12 : decode cX4_drawOwn 12 = .ok (.iconst 0, 1) := by decide +kernel
theorem dX4_drawOwn_13 : decode cX4_drawOwn 13 = .ok (.invokestatic 63, 3) := by decide +kernel
theorem dX4_drawOwn_16 : decode cX4_drawOwn 16 = .ok (.aload_n 0, 1) := by decide +kernel
theorem dX4_drawOwn_17 : decode cX4_drawOwn 17 = .ok (.iconst 0, 1) := by decide +kernel
theorem dX4_drawOwn_18 : decode cX4_drawOwn 18 = .ok (.putfield 69, 3) := by decide +kernel
theorem dX4_drawOwn_21 : decode cX4_drawOwn 21 = .ok (.aload_n 0, 1) := by decide +kernel
theorem dX4_drawOwn_22 : decode cX4_drawOwn 22 = .ok (.iload_n 2, 1) := by decide +kernel
theorem dX4_drawOwn_23 : decode cX4_drawOwn 23 = .ok (.putfield 72, 3) := by decide +kernel
theorem dX4_drawOwn_26 : decode cX4_drawOwn 26 = .ok (.aload_n 0, 1) := by decide +kernel
theorem dX4_drawOwn_27 : decode cX4_drawOwn 27 = .ok (.iload_n 3, 1) := by decide +kernel
theorem dX4_drawOwn_28 : decode cX4_drawOwn 28 = .ok (.putfield 74, 3) := by decide +kernel
theorem dX4_drawOwn_31 : decode cX4_drawOwn 31 = .ok (.aload_n 0, 1) := by decide +kernel
theorem dX4_drawOwn_32 : decode cX4_drawOwn 32 = .ok (.iload_n 3, 1) := by decide +kernel
theorem dX4_drawOwn_33 : decode cX4_drawOwn 33 = .ok (.putfield 76, 3) := by decide +kernel
theorem dX4_drawOwn_36 : decode cX4_drawOwn 36 = .ok (.iconst 0, 1) := by decide +kernel
theorem dX4_drawOwn_37 : decode cX4_drawOwn 37 = .ok (.istore 4, 2) := by decide +kernel
theorem dX4_drawOwn_39 : decode cX4_drawOwn 39 = .ok (.iload 4, 2) := by decide +kernel
theorem dX4_drawOwn_41 : decode cX4_drawOwn 41 = .ok (.aload_n 1, 1) := by decide +kernel
theorem dX4_drawOwn_42 : decode cX4_drawOwn 42 = .ok (.getfield 79, 3) := by decide +kernel
theorem dX4_drawOwn_45 : decode cX4_drawOwn 45 = .ok (.if_icmp .ge 59, 3) := by decide +kernel
theorem dX4_drawOwn_48 : decode cX4_drawOwn 48 = .ok (.aload_n 1, 1) := by decide +kernel
theorem dX4_drawOwn_49 : decode cX4_drawOwn 49 = .ok (.getfield 82, 3) := by decide +kernel
theorem dX4_drawOwn_52 : decode cX4_drawOwn 52 = .ok (.iload 4, 2) := by decide +kernel
theorem dX4_drawOwn_54 : decode cX4_drawOwn 54 = .ok (.aaload, 1) := by decide +kernel
theorem dX4_drawOwn_55 : decode cX4_drawOwn 55 = .ok (.getfield 86, 3) := by decide +kernel
theorem dX4_drawOwn_58 : decode cX4_drawOwn 58 = .ok (.istore 5, 2) := by decide +kernel
theorem dX4_drawOwn_60 : decode cX4_drawOwn 60 = .ok (.iload 5, 2) := by decide +kernel
theorem dX4_drawOwn_62 : decode cX4_drawOwn 62 = .ok (.ifCond .lt 36, 3) := by decide +kernel
theorem dX4_drawOwn_65 : decode cX4_drawOwn 65 = .ok (.iload 5, 2) := by decide +kernel
theorem dX4_drawOwn_67 : decode cX4_drawOwn 67 = .ok (.bipush 8, 2) := by decide +kernel
theorem dX4_drawOwn_69 : decode cX4_drawOwn 69 = .ok (.if_icmp .ge 29, 3) := by decide +kernel
theorem dX4_drawOwn_72 : decode cX4_drawOwn 72 = .ok (.iload_n 3, 1) := by decide +kernel
theorem dX4_drawOwn_73 : decode cX4_drawOwn 73 = .ok (.iload 4, 2) := by decide +kernel
theorem dX4_drawOwn_75 : decode cX4_drawOwn 75 = .ok (.invokestatic 91, 3) := by decide +kernel
theorem dX4_drawOwn_78 : decode cX4_drawOwn 78 = .ok (.ifCond .eq 20, 3) := by decide +kernel
theorem dX4_drawOwn_81 : decode cX4_drawOwn 81 = .ok (.iload_n 2, 1) := by decide +kernel
theorem dX4_drawOwn_82 : decode cX4_drawOwn 82 = .ok (.iload 5, 2) := by decide +kernel
theorem dX4_drawOwn_84 : decode cX4_drawOwn 84 = .ok (.invokestatic 91, 3) := by decide +kernel
theorem dX4_drawOwn_87 : decode cX4_drawOwn 87 = .ok (.ifCond .eq 11, 3) := by decide +kernel
theorem dX4_drawOwn_90 : decode cX4_drawOwn 90 = .ok (.aload_n 0, 1) := by decide +kernel
theorem dX4_drawOwn_91 : decode cX4_drawOwn 91 = .ok (.iload 4, 2) := by decide +kernel
theorem dX4_drawOwn_93 : decode cX4_drawOwn 93 = .ok (.iload 5, 2) := by decide +kernel
theorem dX4_drawOwn_95 : decode cX4_drawOwn 95 = .ok (.invokevirtual 95, 3) := by decide +kernel
theorem dX4_drawOwn_98 : decode cX4_drawOwn 98 = .ok (.iinc 4 1, 3) := by decide +kernel
theorem dX4_drawOwn_101 : decode cX4_drawOwn 101 = .ok (.goto (-62), 3) := by decide +kernel
theorem dX4_drawOwn_104 : decode cX4_drawOwn 104 = .ok (.return_, 1) := by decide +kernel
theorem iX4_drawOwn_0 {x : Nat} {Ls st : List Value} {h : AH} : ev L xs mdX4_drawOwn 0 (.ref x :: Ls) (st) h = ev L xs mdX4_drawOwn 1 (.ref x :: Ls) (.ref x :: st) (h) := e_aload_n dX4_drawOwn_0 rfl
theorem iX4_drawOwn_1 {a : Nat} {Ls st : List Value} {h : AH} (hk : hK h a = 4) (hj : (hR h 64 a).isSome = true) : ev L xs mdX4_drawOwn 1 (Ls) (.ref a :: st) h = ev L xs mdX4_drawOwn 4 (Ls) (.ref ((hR h 64 a).getD 0) :: st) (h) := e_getR (k := 4) (f := 0) (F := 64) dX4_drawOwn_1 (by decide +kernel) rfl rfl hk hj
theorem iX4_drawOwn_4  {Ls st : List Value} {h : AH} : ev L xs mdX4_drawOwn 4 (Ls) (st) h = ev L xs mdX4_drawOwn 5 (Ls) (.int (-1) :: st) (h) := e_iconst dX4_drawOwn_4 (by decide)
theorem iX4_drawOwn_5 {p0 : Nat} {p1 : Int32} {Ls st : List Value} {h : AH} (hw : wds st ≤ 8) : ev L xs mdX4_drawOwn 5 Ls (.int p1 :: .ref p0 :: st) h = kn L xs mdX4_drawOwn 5 8 Ls st (ev L xs mdJ7_fill_53178 0 [.ref p0, .int p1, .null, .null] [] h) := e_callS (as := [.int p1, .ref p0]) dX4_drawOwn_5 mr_4_63 (by decide) (by decide) rfl (by simp [wds, Value.category]; decide) rfl hw
theorem iX4_drawOwn_8 {x : Nat} {Ls st : List Value} {h : AH} : ev L xs mdX4_drawOwn 8 (.ref x :: Ls) (st) h = ev L xs mdX4_drawOwn 9 (.ref x :: Ls) (.ref x :: st) (h) := e_aload_n dX4_drawOwn_8 rfl
theorem iX4_drawOwn_9 {a : Nat} {Ls st : List Value} {h : AH} (hk : hK h a = 4) (hj : (hR h 65 a).isSome = true) : ev L xs mdX4_drawOwn 9 (Ls) (.ref a :: st) h = ev L xs mdX4_drawOwn 12 (Ls) (.ref ((hR h 65 a).getD 0) :: st) (h) := e_getR (k := 4) (f := 1) (F := 65) dX4_drawOwn_9 (by decide +kernel) rfl rfl hk hj
theorem iX4_drawOwn_12  {Ls st : List Value} {h : AH} : ev L xs mdX4_drawOwn 12 (Ls) (st) h = ev L xs mdX4_drawOwn 13 (Ls) (.int (nI 0) :: st) (h) := e_iconst dX4_drawOwn_12 (by decide)
theorem iX4_drawOwn_13 {p0 : Nat} {p1 : Int32} {Ls st : List Value} {h : AH} (hw : wds st ≤ 8) : ev L xs mdX4_drawOwn 13 Ls (.int p1 :: .ref p0 :: st) h = kn L xs mdX4_drawOwn 13 16 Ls st (ev L xs mdJ7_fill_53178 0 [.ref p0, .int p1, .null, .null] [] h) := e_callS (as := [.int p1, .ref p0]) dX4_drawOwn_13 mr_4_63 (by decide) (by decide) rfl (by simp [wds, Value.category]; decide) rfl hw
theorem iX4_drawOwn_16 {x : Nat} {Ls st : List Value} {h : AH} : ev L xs mdX4_drawOwn 16 (.ref x :: Ls) (st) h = ev L xs mdX4_drawOwn 17 (.ref x :: Ls) (.ref x :: st) (h) := e_aload_n dX4_drawOwn_16 rfl
theorem iX4_drawOwn_17  {Ls st : List Value} {h : AH} : ev L xs mdX4_drawOwn 17 (Ls) (st) h = ev L xs mdX4_drawOwn 18 (Ls) (.int (nI 0) :: st) (h) := e_iconst dX4_drawOwn_17 (by decide)
theorem iX4_drawOwn_18 {a : Nat} {v : Int32} {Ls st : List Value} {h : AH} (hk : hK h a = 4) : ev L xs mdX4_drawOwn 18 (Ls) (.int v :: .ref a :: st) h = ev L xs mdX4_drawOwn 21 (Ls) (st) (sI h 67 a v) := e_putI (k := 4) (f := 3) (F := 67) dX4_drawOwn_18 (by decide +kernel) rfl (by decide +kernel) rfl hk
theorem iX4_drawOwn_21 {x : Nat} {Ls st : List Value} {h : AH} : ev L xs mdX4_drawOwn 21 (.ref x :: Ls) (st) h = ev L xs mdX4_drawOwn 22 (.ref x :: Ls) (.ref x :: st) (h) := e_aload_n dX4_drawOwn_21 rfl
theorem iX4_drawOwn_22 {v0 : Value} {v1 : Value} {x : Int32} {Ls st : List Value} {h : AH} : ev L xs mdX4_drawOwn 22 (v0 :: v1 :: .int x :: Ls) (st) h = ev L xs mdX4_drawOwn 23 (v0 :: v1 :: .int x :: Ls) (.int x :: st) (h) := e_iload_n dX4_drawOwn_22 rfl
theorem iX4_drawOwn_23 {a : Nat} {v : Int32} {Ls st : List Value} {h : AH} (hk : hK h a = 4) : ev L xs mdX4_drawOwn 23 (Ls) (.int v :: .ref a :: st) h = ev L xs mdX4_drawOwn 26 (Ls) (st) (sI h 66 a v) := e_putI (k := 4) (f := 2) (F := 66) dX4_drawOwn_23 (by decide +kernel) rfl (by decide +kernel) rfl hk
theorem iX4_drawOwn_26 {x : Nat} {Ls st : List Value} {h : AH} : ev L xs mdX4_drawOwn 26 (.ref x :: Ls) (st) h = ev L xs mdX4_drawOwn 27 (.ref x :: Ls) (.ref x :: st) (h) := e_aload_n dX4_drawOwn_26 rfl
theorem iX4_drawOwn_27 {v0 : Value} {v1 : Value} {v2 : Value} {x : Int32} {Ls st : List Value} {h : AH} : ev L xs mdX4_drawOwn 27 (v0 :: v1 :: v2 :: .int x :: Ls) (st) h = ev L xs mdX4_drawOwn 28 (v0 :: v1 :: v2 :: .int x :: Ls) (.int x :: st) (h) := e_iload_n dX4_drawOwn_27 rfl
theorem iX4_drawOwn_28 {a : Nat} {v : Int32} {Ls st : List Value} {h : AH} (hk : hK h a = 4) : ev L xs mdX4_drawOwn 28 (Ls) (.int v :: .ref a :: st) h = ev L xs mdX4_drawOwn 31 (Ls) (st) (sI h 68 a v) := e_putI (k := 4) (f := 4) (F := 68) dX4_drawOwn_28 (by decide +kernel) rfl (by decide +kernel) rfl hk
theorem iX4_drawOwn_31 {x : Nat} {Ls st : List Value} {h : AH} : ev L xs mdX4_drawOwn 31 (.ref x :: Ls) (st) h = ev L xs mdX4_drawOwn 32 (.ref x :: Ls) (.ref x :: st) (h) := e_aload_n dX4_drawOwn_31 rfl
theorem iX4_drawOwn_32 {v0 : Value} {v1 : Value} {v2 : Value} {x : Int32} {Ls st : List Value} {h : AH} : ev L xs mdX4_drawOwn 32 (v0 :: v1 :: v2 :: .int x :: Ls) (st) h = ev L xs mdX4_drawOwn 33 (v0 :: v1 :: v2 :: .int x :: Ls) (.int x :: st) (h) := e_iload_n dX4_drawOwn_32 rfl
theorem iX4_drawOwn_33 {a : Nat} {v : Int32} {Ls st : List Value} {h : AH} (hk : hK h a = 4) : ev L xs mdX4_drawOwn 33 (Ls) (.int v :: .ref a :: st) h = ev L xs mdX4_drawOwn 36 (Ls) (st) (sI h 69 a v) := e_putI (k := 4) (f := 5) (F := 69) dX4_drawOwn_33 (by decide +kernel) rfl (by decide +kernel) rfl hk
theorem iX4_drawOwn_36  {Ls st : List Value} {h : AH} : ev L xs mdX4_drawOwn 36 (Ls) (st) h = ev L xs mdX4_drawOwn 37 (Ls) (.int (nI 0) :: st) (h) := e_iconst dX4_drawOwn_36 (by decide)
theorem iX4_drawOwn_37 {v0 : Value} {v1 : Value} {v2 : Value} {v3 : Value} {v4 : Value} {x : Int32} {Ls st : List Value} {h : AH} (hc9 : v3.category = 1) : ev L xs mdX4_drawOwn 37 (v0 :: v1 :: v2 :: v3 :: v4 :: Ls) (.int x :: st) h = ev L xs mdX4_drawOwn 39 (v0 :: v1 :: v2 :: v3 :: .int x :: Ls) (st) (h) := e_istore dX4_drawOwn_37 rfl (by decide) (by unfold catOK; show (_ || (v3.category == 1)) = true; rw [hc9]; rfl)
theorem iX4_drawOwn_39 {v0 : Value} {v1 : Value} {v2 : Value} {v3 : Value} {x : Int32} {Ls st : List Value} {h : AH} : ev L xs mdX4_drawOwn 39 (v0 :: v1 :: v2 :: v3 :: .int x :: Ls) (st) h = ev L xs mdX4_drawOwn 41 (v0 :: v1 :: v2 :: v3 :: .int x :: Ls) (.int x :: st) (h) := e_iload dX4_drawOwn_39 rfl
theorem iX4_drawOwn_41 {v0 : Value} {x : Nat} {Ls st : List Value} {h : AH} : ev L xs mdX4_drawOwn 41 (v0 :: .ref x :: Ls) (st) h = ev L xs mdX4_drawOwn 42 (v0 :: .ref x :: Ls) (.ref x :: st) (h) := e_aload_n dX4_drawOwn_41 rfl
theorem iX4_drawOwn_42 {a : Nat} {Ls st : List Value} {h : AH} (hk : hK h a = 5) : ev L xs mdX4_drawOwn 42 (Ls) (.ref a :: st) h = ev L xs mdX4_drawOwn 45 (Ls) (.int (hI h 86 a) :: st) (h) := e_getI (k := 5) (f := 6) (F := 86) dX4_drawOwn_42 (by decide +kernel) rfl rfl hk
theorem iX4_drawOwn_45 {x z : Int32} {Ls st : List Value} {h : AH} : ev L xs mdX4_drawOwn 45 Ls (.int z :: .int x :: st) h = if z ≤ x then ev L xs mdX4_drawOwn 104 Ls st h else ev L xs mdX4_drawOwn 48 Ls st h := e_ic_ge dX4_drawOwn_45 (by decide)
theorem iX4_drawOwn_48 {v0 : Value} {x : Nat} {Ls st : List Value} {h : AH} : ev L xs mdX4_drawOwn 48 (v0 :: .ref x :: Ls) (st) h = ev L xs mdX4_drawOwn 49 (v0 :: .ref x :: Ls) (.ref x :: st) (h) := e_aload_n dX4_drawOwn_48 rfl
theorem iX4_drawOwn_49 {a : Nat} {Ls st : List Value} {h : AH} (hk : hK h a = 5) (hj : (hR h 85 a).isSome = true) : ev L xs mdX4_drawOwn 49 (Ls) (.ref a :: st) h = ev L xs mdX4_drawOwn 52 (Ls) (.ref ((hR h 85 a).getD 0) :: st) (h) := e_getR (k := 5) (f := 5) (F := 85) dX4_drawOwn_49 (by decide +kernel) rfl rfl hk hj
theorem iX4_drawOwn_52 {v0 : Value} {v1 : Value} {v2 : Value} {v3 : Value} {x : Int32} {Ls st : List Value} {h : AH} : ev L xs mdX4_drawOwn 52 (v0 :: v1 :: v2 :: v3 :: .int x :: Ls) (st) h = ev L xs mdX4_drawOwn 54 (v0 :: v1 :: v2 :: v3 :: .int x :: Ls) (.int x :: st) (h) := e_iload dX4_drawOwn_52 rfl
theorem iX4_drawOwn_54 {a : Nat} {j : Int32} {Ls st : List Value} {h : AH} (hk : hK h a = 9 ∨ hK h a = 10 ∨ hK h a = 11) (hi : inA j (hN h a) = true) (hq : (hQ h a j.toNatClampNeg).isSome = true) : ev L xs mdX4_drawOwn 54 (Ls) (.int j :: .ref a :: st) h = ev L xs mdX4_drawOwn 55 (Ls) (.ref ((hQ h a j.toNatClampNeg).getD 0) :: st) (h) := e_aald dX4_drawOwn_54 hk hi hq
theorem iX4_drawOwn_55 {a : Nat} {Ls st : List Value} {h : AH} (hk : hK h a = 0) : ev L xs mdX4_drawOwn 55 (Ls) (.ref a :: st) h = ev L xs mdX4_drawOwn 58 (Ls) (.int (hI h 2 a) :: st) (h) := e_getI (k := 0) (f := 2) (F := 2) dX4_drawOwn_55 (by decide +kernel) rfl rfl hk
theorem iX4_drawOwn_58 {v0 : Value} {v1 : Value} {v2 : Value} {v3 : Value} {v4 : Value} {v5 : Value} {x : Int32} {Ls st : List Value} {h : AH} (hc9 : v4.category = 1) : ev L xs mdX4_drawOwn 58 (v0 :: v1 :: v2 :: v3 :: v4 :: v5 :: Ls) (.int x :: st) h = ev L xs mdX4_drawOwn 60 (v0 :: v1 :: v2 :: v3 :: v4 :: .int x :: Ls) (st) (h) := e_istore dX4_drawOwn_58 rfl (by decide) (by unfold catOK; show (_ || (v4.category == 1)) = true; rw [hc9]; rfl)
theorem iX4_drawOwn_60 {v0 : Value} {v1 : Value} {v2 : Value} {v3 : Value} {v4 : Value} {x : Int32} {Ls st : List Value} {h : AH} : ev L xs mdX4_drawOwn 60 (v0 :: v1 :: v2 :: v3 :: v4 :: .int x :: Ls) (st) h = ev L xs mdX4_drawOwn 62 (v0 :: v1 :: v2 :: v3 :: v4 :: .int x :: Ls) (.int x :: st) (h) := e_iload dX4_drawOwn_60 rfl
theorem iX4_drawOwn_62 {x : Int32} {Ls st : List Value} {h : AH} : ev L xs mdX4_drawOwn 62 Ls (.int x :: st) h = if x < nI 0 then ev L xs mdX4_drawOwn 98 Ls st h else ev L xs mdX4_drawOwn 65 Ls st h := e_if_lt dX4_drawOwn_62 (by decide)
theorem iX4_drawOwn_65 {v0 : Value} {v1 : Value} {v2 : Value} {v3 : Value} {v4 : Value} {x : Int32} {Ls st : List Value} {h : AH} : ev L xs mdX4_drawOwn 65 (v0 :: v1 :: v2 :: v3 :: v4 :: .int x :: Ls) (st) h = ev L xs mdX4_drawOwn 67 (v0 :: v1 :: v2 :: v3 :: v4 :: .int x :: Ls) (.int x :: st) (h) := e_iload dX4_drawOwn_65 rfl
theorem iX4_drawOwn_67  {Ls st : List Value} {h : AH} : ev L xs mdX4_drawOwn 67 (Ls) (st) h = ev L xs mdX4_drawOwn 69 (Ls) (.int (nI 8) :: st) (h) := e_bipush dX4_drawOwn_67 (by decide)
theorem iX4_drawOwn_69 {x z : Int32} {Ls st : List Value} {h : AH} : ev L xs mdX4_drawOwn 69 Ls (.int z :: .int x :: st) h = if z ≤ x then ev L xs mdX4_drawOwn 98 Ls st h else ev L xs mdX4_drawOwn 72 Ls st h := e_ic_ge dX4_drawOwn_69 (by decide)
theorem iX4_drawOwn_72 {v0 : Value} {v1 : Value} {v2 : Value} {x : Int32} {Ls st : List Value} {h : AH} : ev L xs mdX4_drawOwn 72 (v0 :: v1 :: v2 :: .int x :: Ls) (st) h = ev L xs mdX4_drawOwn 73 (v0 :: v1 :: v2 :: .int x :: Ls) (.int x :: st) (h) := e_iload_n dX4_drawOwn_72 rfl
theorem iX4_drawOwn_73 {v0 : Value} {v1 : Value} {v2 : Value} {v3 : Value} {x : Int32} {Ls st : List Value} {h : AH} : ev L xs mdX4_drawOwn 73 (v0 :: v1 :: v2 :: v3 :: .int x :: Ls) (st) h = ev L xs mdX4_drawOwn 75 (v0 :: v1 :: v2 :: v3 :: .int x :: Ls) (.int x :: st) (h) := e_iload dX4_drawOwn_73 rfl
theorem iX4_drawOwn_75 {p0 : Int32} {p1 : Int32} {Ls st : List Value} {h : AH} (hw : wds st ≤ 8) : ev L xs mdX4_drawOwn 75 Ls (.int p1 :: .int p0 :: st) h = kn L xs mdX4_drawOwn 75 78 Ls st (ev L xs mdX6_isIn 0 [.int p0, .int p1] [] h) := e_callS (as := [.int p1, .int p0]) dX4_drawOwn_75 mr_4_91 (by decide) (by decide) rfl (by simp [wds, Value.category]; decide) rfl hw
theorem iX4_drawOwn_78 {x : Int32} {Ls st : List Value} {h : AH} : ev L xs mdX4_drawOwn 78 Ls (.int x :: st) h = if x = nI 0 then ev L xs mdX4_drawOwn 98 Ls st h else ev L xs mdX4_drawOwn 81 Ls st h := e_if_eq dX4_drawOwn_78 (by decide)
theorem iX4_drawOwn_81 {v0 : Value} {v1 : Value} {x : Int32} {Ls st : List Value} {h : AH} : ev L xs mdX4_drawOwn 81 (v0 :: v1 :: .int x :: Ls) (st) h = ev L xs mdX4_drawOwn 82 (v0 :: v1 :: .int x :: Ls) (.int x :: st) (h) := e_iload_n dX4_drawOwn_81 rfl
theorem iX4_drawOwn_82 {v0 : Value} {v1 : Value} {v2 : Value} {v3 : Value} {v4 : Value} {x : Int32} {Ls st : List Value} {h : AH} : ev L xs mdX4_drawOwn 82 (v0 :: v1 :: v2 :: v3 :: v4 :: .int x :: Ls) (st) h = ev L xs mdX4_drawOwn 84 (v0 :: v1 :: v2 :: v3 :: v4 :: .int x :: Ls) (.int x :: st) (h) := e_iload dX4_drawOwn_82 rfl
theorem iX4_drawOwn_84 {p0 : Int32} {p1 : Int32} {Ls st : List Value} {h : AH} (hw : wds st ≤ 8) : ev L xs mdX4_drawOwn 84 Ls (.int p1 :: .int p0 :: st) h = kn L xs mdX4_drawOwn 84 87 Ls st (ev L xs mdX6_isIn 0 [.int p0, .int p1] [] h) := e_callS (as := [.int p1, .int p0]) dX4_drawOwn_84 mr_4_91 (by decide) (by decide) rfl (by simp [wds, Value.category]; decide) rfl hw
theorem iX4_drawOwn_87 {x : Int32} {Ls st : List Value} {h : AH} : ev L xs mdX4_drawOwn 87 Ls (.int x :: st) h = if x = nI 0 then ev L xs mdX4_drawOwn 98 Ls st h else ev L xs mdX4_drawOwn 90 Ls st h := e_if_eq dX4_drawOwn_87 (by decide)
theorem iX4_drawOwn_90 {x : Nat} {Ls st : List Value} {h : AH} : ev L xs mdX4_drawOwn 90 (.ref x :: Ls) (st) h = ev L xs mdX4_drawOwn 91 (.ref x :: Ls) (.ref x :: st) (h) := e_aload_n dX4_drawOwn_90 rfl
theorem iX4_drawOwn_91 {v0 : Value} {v1 : Value} {v2 : Value} {v3 : Value} {x : Int32} {Ls st : List Value} {h : AH} : ev L xs mdX4_drawOwn 91 (v0 :: v1 :: v2 :: v3 :: .int x :: Ls) (st) h = ev L xs mdX4_drawOwn 93 (v0 :: v1 :: v2 :: v3 :: .int x :: Ls) (.int x :: st) (h) := e_iload dX4_drawOwn_91 rfl
theorem iX4_drawOwn_93 {v0 : Value} {v1 : Value} {v2 : Value} {v3 : Value} {v4 : Value} {x : Int32} {Ls st : List Value} {h : AH} : ev L xs mdX4_drawOwn 93 (v0 :: v1 :: v2 :: v3 :: v4 :: .int x :: Ls) (st) h = ev L xs mdX4_drawOwn 95 (v0 :: v1 :: v2 :: v3 :: v4 :: .int x :: Ls) (.int x :: st) (h) := e_iload dX4_drawOwn_93 rfl
theorem iX4_drawOwn_95 {a : Nat} {p0 : Int32} {p1 : Int32} {Ls st : List Value} {h : AH} (hk : hK h a = 4) (hw : wds st ≤ 8) : ev L xs mdX4_drawOwn 95 Ls (.int p1 :: .int p0 :: .ref a :: st) h = kn L xs mdX4_drawOwn 95 98 Ls st (ev L xs mdX4_place 0 [.ref a, .int p0, .int p1] [] h) := e_callV (as := [.int p1, .int p0]) dX4_drawOwn_95 mr_4_95 (by decide) (by decide) rfl (by simp [wds, Value.category]; decide) rfl (by decide) hk hw
theorem iX4_drawOwn_98 {v0 : Value} {v1 : Value} {v2 : Value} {v3 : Value} {x : Int32} {Ls st : List Value} {h : AH} (hc9 : v3.category = 1) : ev L xs mdX4_drawOwn 98 (v0 :: v1 :: v2 :: v3 :: .int x :: Ls) (st) h = ev L xs mdX4_drawOwn 101 (v0 :: v1 :: v2 :: v3 :: .int (x + (nI 1)) :: Ls) (st) (h) := e_iinc dX4_drawOwn_98 rfl rfl rfl (by decide) (by unfold catOK; show (_ || (v3.category == 1)) = true; rw [hc9]; rfl)
theorem iX4_drawOwn_101  {Ls st : List Value} {h : AH} : ev L xs mdX4_drawOwn 101 (Ls) (st) h = ev L xs mdX4_drawOwn 39 (Ls) (st) (h) := e_goto dX4_drawOwn_101 (by decide)
theorem iX4_drawOwn_104 {Ls : List Value} {h : AH} : ev L xs mdX4_drawOwn 104 Ls [] h = some (.inl (none, h)) := e_vret dX4_drawOwn_104 rfl
theorem dX4_init_0 : decode cX4_init 0 = .ok (.aload_n 0, 1) := by decide +kernel
theorem dX4_init_1 : decode cX4_init 1 = .ok (.invokespecial 3, 3) := by decide +kernel
theorem dX4_init_4 : decode cX4_init 4 = .ok (.aload_n 0, 1) := by decide +kernel
theorem dX4_init_5 : decode cX4_init 5 = .ok (.bipush 8, 2) := by decide +kernel
theorem dX4_init_7 : decode cX4_init 7 = .ok (.newarray .int, 2) := by decide +kernel
theorem dX4_init_9 : decode cX4_init 9 = .ok (.putfield 9, 3) := by decide +kernel
theorem dX4_init_12 : decode cX4_init 12 = .ok (.aload_n 0, 1) := by decide +kernel
theorem dX4_init_13 : decode cX4_init 13 = .ok (.bipush 8, 2) := by decide +kernel
theorem dX4_init_15 : decode cX4_init 15 = .ok (.newarray .int, 2) := by decide +kernel
theorem dX4_init_17 : decode cX4_init 17 = .ok (.putfield 15, 3) := by decide +kernel
theorem dX4_init_20 : decode cX4_init 20 = .ok (.return_, 1) := by decide +kernel
theorem iX4_init_0 {x : Nat} {Ls st : List Value} {h : AH} : ev L xs mdX4_init 0 (.ref x :: Ls) (st) h = ev L xs mdX4_init 1 (.ref x :: Ls) (.ref x :: st) (h) := e_aload_n dX4_init_0 rfl
theorem iX4_init_1 {a : Nat} {Ls st : List Value} {h : AH} (hw : wds st ≤ 8) : ev L xs mdX4_init 1 (Ls) (.ref a :: st) h = ev L xs mdX4_init 4 (Ls) (st) (h) := e_obj dX4_init_1 mr_4_3 (by decide) hw
theorem iX4_init_4 {x : Nat} {Ls st : List Value} {h : AH} : ev L xs mdX4_init 4 (.ref x :: Ls) (st) h = ev L xs mdX4_init 5 (.ref x :: Ls) (.ref x :: st) (h) := e_aload_n dX4_init_4 rfl
theorem iX4_init_5  {Ls st : List Value} {h : AH} : ev L xs mdX4_init 5 (Ls) (st) h = ev L xs mdX4_init 7 (Ls) (.int (nI 8) :: st) (h) := e_bipush dX4_init_5 (by decide)
theorem iX4_init_7 {c : Int32} {Ls st : List Value} {h : AH} (h0 : 0 ≤ c) (h1 : c ≤ 10000) : ev L xs mdX4_init 7 (Ls) (.int c :: st) h = ev L xs mdX4_init 9 (Ls) (.ref (hn h) :: st) (nw h 8 c.toNatClampNeg c.toNatClampNeg) := e_newI dX4_init_7 h0 h1
theorem iX4_init_9 {a v : Nat} {Ls st : List Value} {h : AH} (hk : hK h a = 4) : ev L xs mdX4_init 9 (Ls) (.ref v :: .ref a :: st) h = ev L xs mdX4_init 12 (Ls) (st) (sR h 64 a v) := e_putR (k := 4) (f := 0) (F := 64) dX4_init_9 (by decide +kernel) rfl (by decide +kernel) rfl hk
theorem iX4_init_12 {x : Nat} {Ls st : List Value} {h : AH} : ev L xs mdX4_init 12 (.ref x :: Ls) (st) h = ev L xs mdX4_init 13 (.ref x :: Ls) (.ref x :: st) (h) := e_aload_n dX4_init_12 rfl
theorem iX4_init_13  {Ls st : List Value} {h : AH} : ev L xs mdX4_init 13 (Ls) (st) h = ev L xs mdX4_init 15 (Ls) (.int (nI 8) :: st) (h) := e_bipush dX4_init_13 (by decide)
theorem iX4_init_15 {c : Int32} {Ls st : List Value} {h : AH} (h0 : 0 ≤ c) (h1 : c ≤ 10000) : ev L xs mdX4_init 15 (Ls) (.int c :: st) h = ev L xs mdX4_init 17 (Ls) (.ref (hn h) :: st) (nw h 8 c.toNatClampNeg c.toNatClampNeg) := e_newI dX4_init_15 h0 h1
theorem iX4_init_17 {a v : Nat} {Ls st : List Value} {h : AH} (hk : hK h a = 4) : ev L xs mdX4_init 17 (Ls) (.ref v :: .ref a :: st) h = ev L xs mdX4_init 20 (Ls) (st) (sR h 65 a v) := e_putR (k := 4) (f := 1) (F := 65) dX4_init_17 (by decide +kernel) rfl (by decide +kernel) rfl hk
theorem iX4_init_20 {Ls : List Value} {h : AH} : ev L xs mdX4_init 20 Ls [] h = some (.inl (none, h)) := e_vret dX4_init_20 rfl
theorem dX4_lacksGuard_0 : decode cX4_lacksGuard 0 = .ok (.aload_n 0, 1) := by decide +kernel
theorem dX4_lacksGuard_1 : decode cX4_lacksGuard 1 = .ok (.getfield 72, 3) := by decide +kernel
theorem dX4_lacksGuard_4 : decode cX4_lacksGuard 4 = .ok (.iload_n 1, 1) := by decide +kernel
theorem dX4_lacksGuard_5 : decode cX4_lacksGuard 5 = .ok (.invokestatic 91, 3) := by decide +kernel
theorem dX4_lacksGuard_8 : decode cX4_lacksGuard 8 = .ok (.ifCond .eq 17, 3) := by decide +kernel
theorem dX4_lacksGuard_11 : decode cX4_lacksGuard 11 = .ok (.aload_n 0, 1) := by decide +kernel
theorem dX4_lacksGuard_12 : decode cX4_lacksGuard 12 = .ok (.getfield 9, 3) := by decide +kernel
theorem dX4_lacksGuard_15 : decode cX4_lacksGuard 15 = .ok (.iload_n 1, 1) := by decide +kernel
theorem dX4_lacksGuard_16 : decode cX4_lacksGuard 16 = .ok (.iaload, 1) := by decide +kernel
theorem dX4_lacksGuard_17 : decode cX4_lacksGuard 17 = .ok (.iconst (-1), 1) := by decide +kernel
theorem dX4_lacksGuard_18 : decode cX4_lacksGuard 18 = .ok (.if_icmp .ne 7, 3) := by decide +kernel
theorem dX4_lacksGuard_21 : decode cX4_lacksGuard 21 = .ok (.iconst 1, 1) := by decide +kernel
theorem dX4_lacksGuard_22 : decode cX4_lacksGuard 22 = .ok (.goto 4, 3) := by decide +kernel
theorem dX4_lacksGuard_25 : decode cX4_lacksGuard 25 = .ok (.iconst 0, 1) := by decide +kernel
theorem dX4_lacksGuard_26 : decode cX4_lacksGuard 26 = .ok (.ireturn, 1) := by decide +kernel
theorem iX4_lacksGuard_0 {x : Nat} {Ls st : List Value} {h : AH} : ev L xs mdX4_lacksGuard 0 (.ref x :: Ls) (st) h = ev L xs mdX4_lacksGuard 1 (.ref x :: Ls) (.ref x :: st) (h) := e_aload_n dX4_lacksGuard_0 rfl
theorem iX4_lacksGuard_1 {a : Nat} {Ls st : List Value} {h : AH} (hk : hK h a = 4) : ev L xs mdX4_lacksGuard 1 (Ls) (.ref a :: st) h = ev L xs mdX4_lacksGuard 4 (Ls) (.int (hI h 66 a) :: st) (h) := e_getI (k := 4) (f := 2) (F := 66) dX4_lacksGuard_1 (by decide +kernel) rfl rfl hk
theorem iX4_lacksGuard_4 {v0 : Value} {x : Int32} {Ls st : List Value} {h : AH} : ev L xs mdX4_lacksGuard 4 (v0 :: .int x :: Ls) (st) h = ev L xs mdX4_lacksGuard 5 (v0 :: .int x :: Ls) (.int x :: st) (h) := e_iload_n dX4_lacksGuard_4 rfl
theorem iX4_lacksGuard_5 {p0 : Int32} {p1 : Int32} {Ls st : List Value} {h : AH} (hw : wds st ≤ 8) : ev L xs mdX4_lacksGuard 5 Ls (.int p1 :: .int p0 :: st) h = kn L xs mdX4_lacksGuard 5 8 Ls st (ev L xs mdX6_isIn 0 [.int p0, .int p1] [] h) := e_callS (as := [.int p1, .int p0]) dX4_lacksGuard_5 mr_4_91 (by decide) (by decide) rfl (by simp [wds, Value.category]; decide) rfl hw
theorem iX4_lacksGuard_8 {x : Int32} {Ls st : List Value} {h : AH} : ev L xs mdX4_lacksGuard 8 Ls (.int x :: st) h = if x = nI 0 then ev L xs mdX4_lacksGuard 25 Ls st h else ev L xs mdX4_lacksGuard 11 Ls st h := e_if_eq dX4_lacksGuard_8 (by decide)
theorem iX4_lacksGuard_11 {x : Nat} {Ls st : List Value} {h : AH} : ev L xs mdX4_lacksGuard 11 (.ref x :: Ls) (st) h = ev L xs mdX4_lacksGuard 12 (.ref x :: Ls) (.ref x :: st) (h) := e_aload_n dX4_lacksGuard_11 rfl
theorem iX4_lacksGuard_12 {a : Nat} {Ls st : List Value} {h : AH} (hk : hK h a = 4) (hj : (hR h 64 a).isSome = true) : ev L xs mdX4_lacksGuard 12 (Ls) (.ref a :: st) h = ev L xs mdX4_lacksGuard 15 (Ls) (.ref ((hR h 64 a).getD 0) :: st) (h) := e_getR (k := 4) (f := 0) (F := 64) dX4_lacksGuard_12 (by decide +kernel) rfl rfl hk hj
theorem iX4_lacksGuard_15 {v0 : Value} {x : Int32} {Ls st : List Value} {h : AH} : ev L xs mdX4_lacksGuard 15 (v0 :: .int x :: Ls) (st) h = ev L xs mdX4_lacksGuard 16 (v0 :: .int x :: Ls) (.int x :: st) (h) := e_iload_n dX4_lacksGuard_15 rfl
theorem iX4_lacksGuard_16 {a : Nat} {j : Int32} {Ls st : List Value} {h : AH} (hk : hK h a = 8) (hi : inA j (hN h a) = true) : ev L xs mdX4_lacksGuard 16 (Ls) (.int j :: .ref a :: st) h = ev L xs mdX4_lacksGuard 17 (Ls) (.int (hA h a j.toNatClampNeg) :: st) (h) := e_iald dX4_lacksGuard_16 hk hi
theorem iX4_lacksGuard_17  {Ls st : List Value} {h : AH} : ev L xs mdX4_lacksGuard 17 (Ls) (st) h = ev L xs mdX4_lacksGuard 18 (Ls) (.int (-1) :: st) (h) := e_iconst dX4_lacksGuard_17 (by decide)
theorem iX4_lacksGuard_18 {x z : Int32} {Ls st : List Value} {h : AH} : ev L xs mdX4_lacksGuard 18 Ls (.int z :: .int x :: st) h = if x = z then ev L xs mdX4_lacksGuard 21 Ls st h else ev L xs mdX4_lacksGuard 25 Ls st h := e_ic_ne dX4_lacksGuard_18 (by decide)
theorem iX4_lacksGuard_21  {Ls st : List Value} {h : AH} : ev L xs mdX4_lacksGuard 21 (Ls) (st) h = ev L xs mdX4_lacksGuard 22 (Ls) (.int (nI 1) :: st) (h) := e_iconst dX4_lacksGuard_21 (by decide)
theorem iX4_lacksGuard_22  {Ls st : List Value} {h : AH} : ev L xs mdX4_lacksGuard 22 (Ls) (st) h = ev L xs mdX4_lacksGuard 26 (Ls) (st) (h) := e_goto dX4_lacksGuard_22 (by decide)
theorem iX4_lacksGuard_25  {Ls st : List Value} {h : AH} : ev L xs mdX4_lacksGuard 25 (Ls) (st) h = ev L xs mdX4_lacksGuard 26 (Ls) (.int (nI 0) :: st) (h) := e_iconst dX4_lacksGuard_25 (by decide)
theorem iX4_lacksGuard_26 {v : Int32} {Ls : List Value} {h : AH} (hv : v = nI 0 ∨ v = nI 1) : ev L xs mdX4_lacksGuard 26 Ls [.int v] h = some (.inl (some (.int v), h)) := e_zret dX4_lacksGuard_26 rfl hv
theorem dX4_nearest_0 : decode cX4_nearest 0 = .ok (.iconst (-1), 1) := by decide +kernel
theorem dX4_nearest_1 : decode cX4_nearest 1 = .ok (.istore_n 3, 1) := by decide +kernel
theorem dX4_nearest_2 : decode cX4_nearest 2 = .ok (.iconst 0, 1) := by decide +kernel
theorem dX4_nearest_3 : decode cX4_nearest 3 = .ok (.istore 4, 2) := by decide +kernel
theorem dX4_nearest_5 : decode cX4_nearest 5 = .ok (.iconst 0, 1) := by decide +kernel
theorem dX4_nearest_6 : decode cX4_nearest 6 = .ok (.istore 5, 2) := by decide +kernel
theorem dX4_nearest_8 : decode cX4_nearest 8 = .ok (.iconst 0, 1) := by decide +kernel
theorem dX4_nearest_9 : decode cX4_nearest 9 = .ok (.istore 6, 2) := by decide +kernel
theorem dX4_nearest_11 : decode cX4_nearest 11 = .ok (.iload 6, 2) := by decide +kernel
theorem dX4_nearest_13 : decode cX4_nearest 13 = .ok (.aload_n 1, 1) := by decide +kernel
theorem dX4_nearest_14 : decode cX4_nearest 14 = .ok (.getfield 79, 3) := by decide +kernel
theorem dX4_nearest_17 : decode cX4_nearest 17 = .ok (.if_icmp .ge 91, 3) := by decide +kernel
theorem dX4_nearest_20 : decode cX4_nearest 20 = .ok (.aload_n 1, 1) := by decide +kernel
theorem dX4_nearest_21 : decode cX4_nearest 21 = .ok (.getfield 82, 3) := by decide +kernel
theorem dX4_nearest_24 : decode cX4_nearest 24 = .ok (.iload 6, 2) := by decide +kernel
theorem dX4_nearest_26 : decode cX4_nearest 26 = .ok (.aaload, 1) := by decide +kernel
theorem dX4_nearest_27 : decode cX4_nearest 27 = .ok (.astore 7, 2) := by decide +kernel
theorem dX4_nearest_29 : decode cX4_nearest 29 = .ok (.aload 7, 2) := by decide +kernel
theorem dX4_nearest_31 : decode cX4_nearest 31 = .ok (.iload_n 2, 1) := by decide +kernel
theorem dX4_nearest_32 : decode cX4_nearest 32 = .ok (.invokevirtual 101, 3) := by decide +kernel
theorem dX4_nearest_35 : decode cX4_nearest 35 = .ok (.istore 8, 2) := by decide +kernel
theorem dX4_nearest_37 : decode cX4_nearest 37 = .ok (.aload_n 0, 1) := by decide +kernel
theorem dX4_nearest_38 : decode cX4_nearest 38 = .ok (.getfield 76, 3) := by decide +kernel
theorem dX4_nearest_41 : decode cX4_nearest 41 = .ok (.iload 6, 2) := by decide +kernel
theorem dX4_nearest_43 : decode cX4_nearest 43 = .ok (.invokestatic 91, 3) := by decide +kernel
theorem dX4_nearest_46 : decode cX4_nearest 46 = .ok (.ifCond .eq 56, 3) := by decide +kernel
theorem dX4_nearest_49 : decode cX4_nearest 49 = .ok (.iload 8, 2) := by decide +kernel
theorem dX4_nearest_51 : decode cX4_nearest 51 = .ok (.aload 7, 2) := by decide +kernel
theorem dX4_nearest_53 : decode cX4_nearest 53 = .ok (.getfield 104, 3) := by decide +kernel
theorem dX4_nearest_56 : decode cX4_nearest 56 = .ok (.if_icmp .gt 46, 3) := by decide +kernel
theorem dX4_nearest_59 : decode cX4_nearest 59 = .ok (.iload_n 3, 1) := by decide +kernel
theorem dX4_nearest_60 : decode cX4_nearest 60 = .ok (.iconst (-1), 1) := by decide +kernel
theorem dX4_nearest_61 : decode cX4_nearest 61 = .ok (.if_icmp .eq 27, 3) := by decide +kernel
theorem dX4_nearest_64 : decode cX4_nearest 64 = .ok (.iload 8, 2) := by decide +kernel
theorem dX4_nearest_66 : decode cX4_nearest 66 = .ok (.iload 4, 2) := by decide +kernel
theorem dX4_nearest_68 : decode cX4_nearest 68 = .ok (.if_icmp .lt 20, 3) := by decide +kernel
theorem dX4_nearest_71 : decode cX4_nearest 71 = .ok (.iload 8, 2) := by decide +kernel
theorem dX4_nearest_73 : decode cX4_nearest 73 = .ok (.iload 4, 2) := by decide +kernel
theorem dX4_nearest_75 : decode cX4_nearest 75 = .ok (.if_icmp .ne 27, 3) := by decide +kernel
theorem dX4_nearest_78 : decode cX4_nearest 78 = .ok (.aload 7, 2) := by decide +kernel
theorem dX4_nearest_80 : decode cX4_nearest 80 = .ok (.getfield 107, 3) := by decide +kernel
theorem dX4_nearest_83 : decode cX4_nearest 83 = .ok (.iload 5, 2) := by decide +kernel
theorem dX4_nearest_85 : decode cX4_nearest 85 = .ok (.if_icmp .ge 17, 3) := by decide +kernel
theorem dX4_nearest_88 : decode cX4_nearest 88 = .ok (.iload 6, 2) := by decide +kernel
theorem dX4_nearest_90 : decode cX4_nearest 90 = .ok (.istore_n 3, 1) := by decide +kernel
theorem dX4_nearest_91 : decode cX4_nearest 91 = .ok (.iload 8, 2) := by decide +kernel
theorem dX4_nearest_93 : decode cX4_nearest 93 = .ok (.istore 4, 2) := by decide +kernel
theorem dX4_nearest_95 : decode cX4_nearest 95 = .ok (.aload 7, 2) := by decide +kernel
theorem dX4_nearest_97 : decode cX4_nearest 97 = .ok (.getfield 107, 3) := by decide +kernel
theorem dX4_nearest_100 : decode cX4_nearest 100 = .ok (.istore 5, 2) := by decide +kernel
theorem dX4_nearest_102 : decode cX4_nearest 102 = .ok (.iinc 6 1, 3) := by decide +kernel
theorem dX4_nearest_105 : decode cX4_nearest 105 = .ok (.goto (-94), 3) := by decide +kernel
theorem dX4_nearest_108 : decode cX4_nearest 108 = .ok (.iload_n 3, 1) := by decide +kernel
theorem dX4_nearest_109 : decode cX4_nearest 109 = .ok (.ireturn, 1) := by decide +kernel
theorem iX4_nearest_0  {Ls st : List Value} {h : AH} : ev L xs mdX4_nearest 0 (Ls) (st) h = ev L xs mdX4_nearest 1 (Ls) (.int (-1) :: st) (h) := e_iconst dX4_nearest_0 (by decide)
theorem iX4_nearest_1 {v0 : Value} {v1 : Value} {v2 : Value} {v3 : Value} {x : Int32} {Ls st : List Value} {h : AH} (hc9 : v2.category = 1) : ev L xs mdX4_nearest 1 (v0 :: v1 :: v2 :: v3 :: Ls) (.int x :: st) h = ev L xs mdX4_nearest 2 (v0 :: v1 :: v2 :: .int x :: Ls) (st) (h) := e_istore_n dX4_nearest_1 rfl (by decide) (by unfold catOK; show (_ || (v2.category == 1)) = true; rw [hc9]; rfl)
theorem iX4_nearest_2  {Ls st : List Value} {h : AH} : ev L xs mdX4_nearest 2 (Ls) (st) h = ev L xs mdX4_nearest 3 (Ls) (.int (nI 0) :: st) (h) := e_iconst dX4_nearest_2 (by decide)
theorem iX4_nearest_3 {v0 : Value} {v1 : Value} {v2 : Value} {v3 : Value} {v4 : Value} {x : Int32} {Ls st : List Value} {h : AH} (hc9 : v3.category = 1) : ev L xs mdX4_nearest 3 (v0 :: v1 :: v2 :: v3 :: v4 :: Ls) (.int x :: st) h = ev L xs mdX4_nearest 5 (v0 :: v1 :: v2 :: v3 :: .int x :: Ls) (st) (h) := e_istore dX4_nearest_3 rfl (by decide) (by unfold catOK; show (_ || (v3.category == 1)) = true; rw [hc9]; rfl)
theorem iX4_nearest_5  {Ls st : List Value} {h : AH} : ev L xs mdX4_nearest 5 (Ls) (st) h = ev L xs mdX4_nearest 6 (Ls) (.int (nI 0) :: st) (h) := e_iconst dX4_nearest_5 (by decide)
theorem iX4_nearest_6 {v0 : Value} {v1 : Value} {v2 : Value} {v3 : Value} {v4 : Value} {v5 : Value} {x : Int32} {Ls st : List Value} {h : AH} (hc9 : v4.category = 1) : ev L xs mdX4_nearest 6 (v0 :: v1 :: v2 :: v3 :: v4 :: v5 :: Ls) (.int x :: st) h = ev L xs mdX4_nearest 8 (v0 :: v1 :: v2 :: v3 :: v4 :: .int x :: Ls) (st) (h) := e_istore dX4_nearest_6 rfl (by decide) (by unfold catOK; show (_ || (v4.category == 1)) = true; rw [hc9]; rfl)
theorem iX4_nearest_8  {Ls st : List Value} {h : AH} : ev L xs mdX4_nearest 8 (Ls) (st) h = ev L xs mdX4_nearest 9 (Ls) (.int (nI 0) :: st) (h) := e_iconst dX4_nearest_8 (by decide)
theorem iX4_nearest_9 {v0 : Value} {v1 : Value} {v2 : Value} {v3 : Value} {v4 : Value} {v5 : Value} {v6 : Value} {x : Int32} {Ls st : List Value} {h : AH} (hc9 : v5.category = 1) : ev L xs mdX4_nearest 9 (v0 :: v1 :: v2 :: v3 :: v4 :: v5 :: v6 :: Ls) (.int x :: st) h = ev L xs mdX4_nearest 11 (v0 :: v1 :: v2 :: v3 :: v4 :: v5 :: .int x :: Ls) (st) (h) := e_istore dX4_nearest_9 rfl (by decide) (by unfold catOK; show (_ || (v5.category == 1)) = true; rw [hc9]; rfl)
theorem iX4_nearest_11 {v0 : Value} {v1 : Value} {v2 : Value} {v3 : Value} {v4 : Value} {v5 : Value} {x : Int32} {Ls st : List Value} {h : AH} : ev L xs mdX4_nearest 11 (v0 :: v1 :: v2 :: v3 :: v4 :: v5 :: .int x :: Ls) (st) h = ev L xs mdX4_nearest 13 (v0 :: v1 :: v2 :: v3 :: v4 :: v5 :: .int x :: Ls) (.int x :: st) (h) := e_iload dX4_nearest_11 rfl
theorem iX4_nearest_13 {v0 : Value} {x : Nat} {Ls st : List Value} {h : AH} : ev L xs mdX4_nearest 13 (v0 :: .ref x :: Ls) (st) h = ev L xs mdX4_nearest 14 (v0 :: .ref x :: Ls) (.ref x :: st) (h) := e_aload_n dX4_nearest_13 rfl
theorem iX4_nearest_14 {a : Nat} {Ls st : List Value} {h : AH} (hk : hK h a = 5) : ev L xs mdX4_nearest 14 (Ls) (.ref a :: st) h = ev L xs mdX4_nearest 17 (Ls) (.int (hI h 86 a) :: st) (h) := e_getI (k := 5) (f := 6) (F := 86) dX4_nearest_14 (by decide +kernel) rfl rfl hk
theorem iX4_nearest_17 {x z : Int32} {Ls st : List Value} {h : AH} : ev L xs mdX4_nearest 17 Ls (.int z :: .int x :: st) h = if z ≤ x then ev L xs mdX4_nearest 108 Ls st h else ev L xs mdX4_nearest 20 Ls st h := e_ic_ge dX4_nearest_17 (by decide)
theorem iX4_nearest_20 {v0 : Value} {x : Nat} {Ls st : List Value} {h : AH} : ev L xs mdX4_nearest 20 (v0 :: .ref x :: Ls) (st) h = ev L xs mdX4_nearest 21 (v0 :: .ref x :: Ls) (.ref x :: st) (h) := e_aload_n dX4_nearest_20 rfl
theorem iX4_nearest_21 {a : Nat} {Ls st : List Value} {h : AH} (hk : hK h a = 5) (hj : (hR h 85 a).isSome = true) : ev L xs mdX4_nearest 21 (Ls) (.ref a :: st) h = ev L xs mdX4_nearest 24 (Ls) (.ref ((hR h 85 a).getD 0) :: st) (h) := e_getR (k := 5) (f := 5) (F := 85) dX4_nearest_21 (by decide +kernel) rfl rfl hk hj
theorem iX4_nearest_24 {v0 : Value} {v1 : Value} {v2 : Value} {v3 : Value} {v4 : Value} {v5 : Value} {x : Int32} {Ls st : List Value} {h : AH} : ev L xs mdX4_nearest 24 (v0 :: v1 :: v2 :: v3 :: v4 :: v5 :: .int x :: Ls) (st) h = ev L xs mdX4_nearest 26 (v0 :: v1 :: v2 :: v3 :: v4 :: v5 :: .int x :: Ls) (.int x :: st) (h) := e_iload dX4_nearest_24 rfl
theorem iX4_nearest_26 {a : Nat} {j : Int32} {Ls st : List Value} {h : AH} (hk : hK h a = 9 ∨ hK h a = 10 ∨ hK h a = 11) (hi : inA j (hN h a) = true) (hq : (hQ h a j.toNatClampNeg).isSome = true) : ev L xs mdX4_nearest 26 (Ls) (.int j :: .ref a :: st) h = ev L xs mdX4_nearest 27 (Ls) (.ref ((hQ h a j.toNatClampNeg).getD 0) :: st) (h) := e_aald dX4_nearest_26 hk hi hq
theorem iX4_nearest_27 {v0 : Value} {v1 : Value} {v2 : Value} {v3 : Value} {v4 : Value} {v5 : Value} {v6 : Value} {v7 : Value} {x : Nat} {Ls st : List Value} {h : AH} (hc9 : v6.category = 1) : ev L xs mdX4_nearest 27 (v0 :: v1 :: v2 :: v3 :: v4 :: v5 :: v6 :: v7 :: Ls) (.ref x :: st) h = ev L xs mdX4_nearest 29 (v0 :: v1 :: v2 :: v3 :: v4 :: v5 :: v6 :: .ref x :: Ls) (st) (h) := e_astore dX4_nearest_27 rfl (by decide) (by unfold catOK; show (_ || (v6.category == 1)) = true; rw [hc9]; rfl)
theorem iX4_nearest_29 {v0 : Value} {v1 : Value} {v2 : Value} {v3 : Value} {v4 : Value} {v5 : Value} {v6 : Value} {x : Nat} {Ls st : List Value} {h : AH} : ev L xs mdX4_nearest 29 (v0 :: v1 :: v2 :: v3 :: v4 :: v5 :: v6 :: .ref x :: Ls) (st) h = ev L xs mdX4_nearest 31 (v0 :: v1 :: v2 :: v3 :: v4 :: v5 :: v6 :: .ref x :: Ls) (.ref x :: st) (h) := e_aload dX4_nearest_29 rfl
theorem iX4_nearest_31 {v0 : Value} {v1 : Value} {x : Int32} {Ls st : List Value} {h : AH} : ev L xs mdX4_nearest 31 (v0 :: v1 :: .int x :: Ls) (st) h = ev L xs mdX4_nearest 32 (v0 :: v1 :: .int x :: Ls) (.int x :: st) (h) := e_iload_n dX4_nearest_31 rfl
theorem iX4_nearest_32 {a : Nat} {p0 : Int32} {Ls st : List Value} {h : AH} (hk : hK h a = 0) (hw : wds st ≤ 8) : ev L xs mdX4_nearest 32 Ls (.int p0 :: .ref a :: st) h = kn L xs mdX4_nearest 32 35 Ls st (ev L xs mdX0_distanceFrom 0 [.ref a, .int p0] [] h) := e_callV (as := [.int p0]) dX4_nearest_32 mr_4_101 (by decide) (by decide) rfl (by simp [wds, Value.category]; decide) rfl (by decide) hk hw
theorem iX4_nearest_35 {v0 : Value} {v1 : Value} {v2 : Value} {v3 : Value} {v4 : Value} {v5 : Value} {v6 : Value} {v7 : Value} {v8 : Value} {x : Int32} {Ls st : List Value} {h : AH} (hc9 : v7.category = 1) : ev L xs mdX4_nearest 35 (v0 :: v1 :: v2 :: v3 :: v4 :: v5 :: v6 :: v7 :: v8 :: Ls) (.int x :: st) h = ev L xs mdX4_nearest 37 (v0 :: v1 :: v2 :: v3 :: v4 :: v5 :: v6 :: v7 :: .int x :: Ls) (st) (h) := e_istore dX4_nearest_35 rfl (by decide) (by unfold catOK; show (_ || (v7.category == 1)) = true; rw [hc9]; rfl)
theorem iX4_nearest_37 {x : Nat} {Ls st : List Value} {h : AH} : ev L xs mdX4_nearest 37 (.ref x :: Ls) (st) h = ev L xs mdX4_nearest 38 (.ref x :: Ls) (.ref x :: st) (h) := e_aload_n dX4_nearest_37 rfl
theorem iX4_nearest_38 {a : Nat} {Ls st : List Value} {h : AH} (hk : hK h a = 4) : ev L xs mdX4_nearest 38 (Ls) (.ref a :: st) h = ev L xs mdX4_nearest 41 (Ls) (.int (hI h 69 a) :: st) (h) := e_getI (k := 4) (f := 5) (F := 69) dX4_nearest_38 (by decide +kernel) rfl rfl hk
theorem iX4_nearest_41 {v0 : Value} {v1 : Value} {v2 : Value} {v3 : Value} {v4 : Value} {v5 : Value} {x : Int32} {Ls st : List Value} {h : AH} : ev L xs mdX4_nearest 41 (v0 :: v1 :: v2 :: v3 :: v4 :: v5 :: .int x :: Ls) (st) h = ev L xs mdX4_nearest 43 (v0 :: v1 :: v2 :: v3 :: v4 :: v5 :: .int x :: Ls) (.int x :: st) (h) := e_iload dX4_nearest_41 rfl
theorem iX4_nearest_43 {p0 : Int32} {p1 : Int32} {Ls st : List Value} {h : AH} (hw : wds st ≤ 8) : ev L xs mdX4_nearest 43 Ls (.int p1 :: .int p0 :: st) h = kn L xs mdX4_nearest 43 46 Ls st (ev L xs mdX6_isIn 0 [.int p0, .int p1] [] h) := e_callS (as := [.int p1, .int p0]) dX4_nearest_43 mr_4_91 (by decide) (by decide) rfl (by simp [wds, Value.category]; decide) rfl hw
theorem iX4_nearest_46 {x : Int32} {Ls st : List Value} {h : AH} : ev L xs mdX4_nearest 46 Ls (.int x :: st) h = if x = nI 0 then ev L xs mdX4_nearest 102 Ls st h else ev L xs mdX4_nearest 49 Ls st h := e_if_eq dX4_nearest_46 (by decide)
theorem iX4_nearest_49 {v0 : Value} {v1 : Value} {v2 : Value} {v3 : Value} {v4 : Value} {v5 : Value} {v6 : Value} {v7 : Value} {x : Int32} {Ls st : List Value} {h : AH} : ev L xs mdX4_nearest 49 (v0 :: v1 :: v2 :: v3 :: v4 :: v5 :: v6 :: v7 :: .int x :: Ls) (st) h = ev L xs mdX4_nearest 51 (v0 :: v1 :: v2 :: v3 :: v4 :: v5 :: v6 :: v7 :: .int x :: Ls) (.int x :: st) (h) := e_iload dX4_nearest_49 rfl
theorem iX4_nearest_51 {v0 : Value} {v1 : Value} {v2 : Value} {v3 : Value} {v4 : Value} {v5 : Value} {v6 : Value} {x : Nat} {Ls st : List Value} {h : AH} : ev L xs mdX4_nearest 51 (v0 :: v1 :: v2 :: v3 :: v4 :: v5 :: v6 :: .ref x :: Ls) (st) h = ev L xs mdX4_nearest 53 (v0 :: v1 :: v2 :: v3 :: v4 :: v5 :: v6 :: .ref x :: Ls) (.ref x :: st) (h) := e_aload dX4_nearest_51 rfl
theorem iX4_nearest_53 {a : Nat} {Ls st : List Value} {h : AH} (hk : hK h a = 0) : ev L xs mdX4_nearest 53 (Ls) (.ref a :: st) h = ev L xs mdX4_nearest 56 (Ls) (.int (hI h 1 a) :: st) (h) := e_getI (k := 0) (f := 1) (F := 1) dX4_nearest_53 (by decide +kernel) rfl rfl hk
theorem iX4_nearest_56 {x z : Int32} {Ls st : List Value} {h : AH} : ev L xs mdX4_nearest 56 Ls (.int z :: .int x :: st) h = if z < x then ev L xs mdX4_nearest 102 Ls st h else ev L xs mdX4_nearest 59 Ls st h := e_ic_gt dX4_nearest_56 (by decide)
theorem iX4_nearest_59 {v0 : Value} {v1 : Value} {v2 : Value} {x : Int32} {Ls st : List Value} {h : AH} : ev L xs mdX4_nearest 59 (v0 :: v1 :: v2 :: .int x :: Ls) (st) h = ev L xs mdX4_nearest 60 (v0 :: v1 :: v2 :: .int x :: Ls) (.int x :: st) (h) := e_iload_n dX4_nearest_59 rfl
theorem iX4_nearest_60  {Ls st : List Value} {h : AH} : ev L xs mdX4_nearest 60 (Ls) (st) h = ev L xs mdX4_nearest 61 (Ls) (.int (-1) :: st) (h) := e_iconst dX4_nearest_60 (by decide)
theorem iX4_nearest_61 {x z : Int32} {Ls st : List Value} {h : AH} : ev L xs mdX4_nearest 61 Ls (.int z :: .int x :: st) h = if x = z then ev L xs mdX4_nearest 88 Ls st h else ev L xs mdX4_nearest 64 Ls st h := e_ic_eq dX4_nearest_61 (by decide)
theorem iX4_nearest_64 {v0 : Value} {v1 : Value} {v2 : Value} {v3 : Value} {v4 : Value} {v5 : Value} {v6 : Value} {v7 : Value} {x : Int32} {Ls st : List Value} {h : AH} : ev L xs mdX4_nearest 64 (v0 :: v1 :: v2 :: v3 :: v4 :: v5 :: v6 :: v7 :: .int x :: Ls) (st) h = ev L xs mdX4_nearest 66 (v0 :: v1 :: v2 :: v3 :: v4 :: v5 :: v6 :: v7 :: .int x :: Ls) (.int x :: st) (h) := e_iload dX4_nearest_64 rfl
theorem iX4_nearest_66 {v0 : Value} {v1 : Value} {v2 : Value} {v3 : Value} {x : Int32} {Ls st : List Value} {h : AH} : ev L xs mdX4_nearest 66 (v0 :: v1 :: v2 :: v3 :: .int x :: Ls) (st) h = ev L xs mdX4_nearest 68 (v0 :: v1 :: v2 :: v3 :: .int x :: Ls) (.int x :: st) (h) := e_iload dX4_nearest_66 rfl
theorem iX4_nearest_68 {x z : Int32} {Ls st : List Value} {h : AH} : ev L xs mdX4_nearest 68 Ls (.int z :: .int x :: st) h = if x < z then ev L xs mdX4_nearest 88 Ls st h else ev L xs mdX4_nearest 71 Ls st h := e_ic_lt dX4_nearest_68 (by decide)
theorem iX4_nearest_71 {v0 : Value} {v1 : Value} {v2 : Value} {v3 : Value} {v4 : Value} {v5 : Value} {v6 : Value} {v7 : Value} {x : Int32} {Ls st : List Value} {h : AH} : ev L xs mdX4_nearest 71 (v0 :: v1 :: v2 :: v3 :: v4 :: v5 :: v6 :: v7 :: .int x :: Ls) (st) h = ev L xs mdX4_nearest 73 (v0 :: v1 :: v2 :: v3 :: v4 :: v5 :: v6 :: v7 :: .int x :: Ls) (.int x :: st) (h) := e_iload dX4_nearest_71 rfl
theorem iX4_nearest_73 {v0 : Value} {v1 : Value} {v2 : Value} {v3 : Value} {x : Int32} {Ls st : List Value} {h : AH} : ev L xs mdX4_nearest 73 (v0 :: v1 :: v2 :: v3 :: .int x :: Ls) (st) h = ev L xs mdX4_nearest 75 (v0 :: v1 :: v2 :: v3 :: .int x :: Ls) (.int x :: st) (h) := e_iload dX4_nearest_73 rfl
theorem iX4_nearest_75 {x z : Int32} {Ls st : List Value} {h : AH} : ev L xs mdX4_nearest 75 Ls (.int z :: .int x :: st) h = if x = z then ev L xs mdX4_nearest 78 Ls st h else ev L xs mdX4_nearest 102 Ls st h := e_ic_ne dX4_nearest_75 (by decide)
theorem iX4_nearest_78 {v0 : Value} {v1 : Value} {v2 : Value} {v3 : Value} {v4 : Value} {v5 : Value} {v6 : Value} {x : Nat} {Ls st : List Value} {h : AH} : ev L xs mdX4_nearest 78 (v0 :: v1 :: v2 :: v3 :: v4 :: v5 :: v6 :: .ref x :: Ls) (st) h = ev L xs mdX4_nearest 80 (v0 :: v1 :: v2 :: v3 :: v4 :: v5 :: v6 :: .ref x :: Ls) (.ref x :: st) (h) := e_aload dX4_nearest_78 rfl
theorem iX4_nearest_80 {a : Nat} {Ls st : List Value} {h : AH} (hk : hK h a = 0) : ev L xs mdX4_nearest 80 (Ls) (.ref a :: st) h = ev L xs mdX4_nearest 83 (Ls) (.int (hI h 3 a) :: st) (h) := e_getI (k := 0) (f := 3) (F := 3) dX4_nearest_80 (by decide +kernel) rfl rfl hk
theorem iX4_nearest_83 {v0 : Value} {v1 : Value} {v2 : Value} {v3 : Value} {v4 : Value} {x : Int32} {Ls st : List Value} {h : AH} : ev L xs mdX4_nearest 83 (v0 :: v1 :: v2 :: v3 :: v4 :: .int x :: Ls) (st) h = ev L xs mdX4_nearest 85 (v0 :: v1 :: v2 :: v3 :: v4 :: .int x :: Ls) (.int x :: st) (h) := e_iload dX4_nearest_83 rfl
theorem iX4_nearest_85 {x z : Int32} {Ls st : List Value} {h : AH} : ev L xs mdX4_nearest 85 Ls (.int z :: .int x :: st) h = if z ≤ x then ev L xs mdX4_nearest 102 Ls st h else ev L xs mdX4_nearest 88 Ls st h := e_ic_ge dX4_nearest_85 (by decide)
theorem iX4_nearest_88 {v0 : Value} {v1 : Value} {v2 : Value} {v3 : Value} {v4 : Value} {v5 : Value} {x : Int32} {Ls st : List Value} {h : AH} : ev L xs mdX4_nearest 88 (v0 :: v1 :: v2 :: v3 :: v4 :: v5 :: .int x :: Ls) (st) h = ev L xs mdX4_nearest 90 (v0 :: v1 :: v2 :: v3 :: v4 :: v5 :: .int x :: Ls) (.int x :: st) (h) := e_iload dX4_nearest_88 rfl
theorem iX4_nearest_90 {v0 : Value} {v1 : Value} {v2 : Value} {v3 : Value} {x : Int32} {Ls st : List Value} {h : AH} (hc9 : v2.category = 1) : ev L xs mdX4_nearest 90 (v0 :: v1 :: v2 :: v3 :: Ls) (.int x :: st) h = ev L xs mdX4_nearest 91 (v0 :: v1 :: v2 :: .int x :: Ls) (st) (h) := e_istore_n dX4_nearest_90 rfl (by decide) (by unfold catOK; show (_ || (v2.category == 1)) = true; rw [hc9]; rfl)
theorem iX4_nearest_91 {v0 : Value} {v1 : Value} {v2 : Value} {v3 : Value} {v4 : Value} {v5 : Value} {v6 : Value} {v7 : Value} {x : Int32} {Ls st : List Value} {h : AH} : ev L xs mdX4_nearest 91 (v0 :: v1 :: v2 :: v3 :: v4 :: v5 :: v6 :: v7 :: .int x :: Ls) (st) h = ev L xs mdX4_nearest 93 (v0 :: v1 :: v2 :: v3 :: v4 :: v5 :: v6 :: v7 :: .int x :: Ls) (.int x :: st) (h) := e_iload dX4_nearest_91 rfl
theorem iX4_nearest_93 {v0 : Value} {v1 : Value} {v2 : Value} {v3 : Value} {v4 : Value} {x : Int32} {Ls st : List Value} {h : AH} (hc9 : v3.category = 1) : ev L xs mdX4_nearest 93 (v0 :: v1 :: v2 :: v3 :: v4 :: Ls) (.int x :: st) h = ev L xs mdX4_nearest 95 (v0 :: v1 :: v2 :: v3 :: .int x :: Ls) (st) (h) := e_istore dX4_nearest_93 rfl (by decide) (by unfold catOK; show (_ || (v3.category == 1)) = true; rw [hc9]; rfl)
theorem iX4_nearest_95 {v0 : Value} {v1 : Value} {v2 : Value} {v3 : Value} {v4 : Value} {v5 : Value} {v6 : Value} {x : Nat} {Ls st : List Value} {h : AH} : ev L xs mdX4_nearest 95 (v0 :: v1 :: v2 :: v3 :: v4 :: v5 :: v6 :: .ref x :: Ls) (st) h = ev L xs mdX4_nearest 97 (v0 :: v1 :: v2 :: v3 :: v4 :: v5 :: v6 :: .ref x :: Ls) (.ref x :: st) (h) := e_aload dX4_nearest_95 rfl
theorem iX4_nearest_97 {a : Nat} {Ls st : List Value} {h : AH} (hk : hK h a = 0) : ev L xs mdX4_nearest 97 (Ls) (.ref a :: st) h = ev L xs mdX4_nearest 100 (Ls) (.int (hI h 3 a) :: st) (h) := e_getI (k := 0) (f := 3) (F := 3) dX4_nearest_97 (by decide +kernel) rfl rfl hk
theorem iX4_nearest_100 {v0 : Value} {v1 : Value} {v2 : Value} {v3 : Value} {v4 : Value} {v5 : Value} {x : Int32} {Ls st : List Value} {h : AH} (hc9 : v4.category = 1) : ev L xs mdX4_nearest 100 (v0 :: v1 :: v2 :: v3 :: v4 :: v5 :: Ls) (.int x :: st) h = ev L xs mdX4_nearest 102 (v0 :: v1 :: v2 :: v3 :: v4 :: .int x :: Ls) (st) (h) := e_istore dX4_nearest_100 rfl (by decide) (by unfold catOK; show (_ || (v4.category == 1)) = true; rw [hc9]; rfl)
theorem iX4_nearest_102 {v0 : Value} {v1 : Value} {v2 : Value} {v3 : Value} {v4 : Value} {v5 : Value} {x : Int32} {Ls st : List Value} {h : AH} (hc9 : v5.category = 1) : ev L xs mdX4_nearest 102 (v0 :: v1 :: v2 :: v3 :: v4 :: v5 :: .int x :: Ls) (st) h = ev L xs mdX4_nearest 105 (v0 :: v1 :: v2 :: v3 :: v4 :: v5 :: .int (x + (nI 1)) :: Ls) (st) (h) := e_iinc dX4_nearest_102 rfl rfl rfl (by decide) (by unfold catOK; show (_ || (v5.category == 1)) = true; rw [hc9]; rfl)
theorem iX4_nearest_105  {Ls st : List Value} {h : AH} : ev L xs mdX4_nearest 105 (Ls) (st) h = ev L xs mdX4_nearest 11 (Ls) (st) (h) := e_goto dX4_nearest_105 (by decide)
theorem iX4_nearest_108 {v0 : Value} {v1 : Value} {v2 : Value} {x : Int32} {Ls st : List Value} {h : AH} : ev L xs mdX4_nearest 108 (v0 :: v1 :: v2 :: .int x :: Ls) (st) h = ev L xs mdX4_nearest 109 (v0 :: v1 :: v2 :: .int x :: Ls) (.int x :: st) (h) := e_iload_n dX4_nearest_108 rfl
theorem iX4_nearest_109 {v : Int32} {Ls : List Value} {h : AH} : ev L xs mdX4_nearest 109 Ls [.int v] h = some (.inl (some (.int v), h)) := e_iret dX4_nearest_109 rfl
theorem dX4_place_0 : decode cX4_place 0 = .ok (.aload_n 0, 1) := by decide +kernel
theorem dX4_place_1 : decode cX4_place 1 = .ok (.getfield 9, 3) := by decide +kernel
theorem dX4_place_4 : decode cX4_place 4 = .ok (.iload_n 2, 1) := by decide +kernel
theorem dX4_place_5 : decode cX4_place 5 = .ok (.iload_n 1, 1) := by decide +kernel
theorem dX4_place_6 : decode cX4_place 6 = .ok (.iastore, 1) := by decide +kernel
theorem dX4_place_7 : decode cX4_place 7 = .ok (.aload_n 0, 1) := by decide +kernel
theorem dX4_place_8 : decode cX4_place 8 = .ok (.dup, 1) := by decide +kernel
theorem dX4_place_9 : decode cX4_place 9 = .ok (.getfield 76, 3) := by decide +kernel
theorem dX4_place_12 : decode cX4_place 12 = .ok (.iconst 1, 1) := by decide +kernel
theorem dX4_place_13 : decode cX4_place 13 = .ok (.iload_n 1, 1) := by decide +kernel
theorem dX4_place_14 : decode cX4_place 14 = .ok (.ishl, 1) := by decide +kernel
theorem dX4_place_15 : decode cX4_place 15 = .ok (.iconst (-1), 1) := by decide +kernel
theorem dX4_place_16 : decode cX4_place 16 = .ok (.ixor, 1) := by decide +kernel
theorem dX4_place_17 : decode cX4_place 17 = .ok (.iand, 1) := by decide +kernel
theorem dX4_place_18 : decode cX4_place 18 = .ok (.putfield 76, 3) := by decide +kernel
theorem dX4_place_21 : decode cX4_place 21 = .ok (.return_, 1) := by decide +kernel
theorem iX4_place_0 {x : Nat} {Ls st : List Value} {h : AH} : ev L xs mdX4_place 0 (.ref x :: Ls) (st) h = ev L xs mdX4_place 1 (.ref x :: Ls) (.ref x :: st) (h) := e_aload_n dX4_place_0 rfl
theorem iX4_place_1 {a : Nat} {Ls st : List Value} {h : AH} (hk : hK h a = 4) (hj : (hR h 64 a).isSome = true) : ev L xs mdX4_place 1 (Ls) (.ref a :: st) h = ev L xs mdX4_place 4 (Ls) (.ref ((hR h 64 a).getD 0) :: st) (h) := e_getR (k := 4) (f := 0) (F := 64) dX4_place_1 (by decide +kernel) rfl rfl hk hj
theorem iX4_place_4 {v0 : Value} {v1 : Value} {x : Int32} {Ls st : List Value} {h : AH} : ev L xs mdX4_place 4 (v0 :: v1 :: .int x :: Ls) (st) h = ev L xs mdX4_place 5 (v0 :: v1 :: .int x :: Ls) (.int x :: st) (h) := e_iload_n dX4_place_4 rfl
theorem iX4_place_5 {v0 : Value} {x : Int32} {Ls st : List Value} {h : AH} : ev L xs mdX4_place 5 (v0 :: .int x :: Ls) (st) h = ev L xs mdX4_place 6 (v0 :: .int x :: Ls) (.int x :: st) (h) := e_iload_n dX4_place_5 rfl
theorem iX4_place_6 {a : Nat} {j : Int32} {v : Int32} {Ls st : List Value} {h : AH} (hk : hK h a = 8) (hi : inA j (hN h a) = true) : ev L xs mdX4_place 6 (Ls) (.int v :: .int j :: .ref a :: st) h = ev L xs mdX4_place 7 (Ls) (st) (sA h a j.toNatClampNeg v) := e_iast dX4_place_6 hk hi
theorem iX4_place_7 {x : Nat} {Ls st : List Value} {h : AH} : ev L xs mdX4_place 7 (.ref x :: Ls) (st) h = ev L xs mdX4_place 8 (.ref x :: Ls) (.ref x :: st) (h) := e_aload_n dX4_place_7 rfl
theorem iX4_place_8 {a : Nat} {Ls st : List Value} {h : AH} : ev L xs mdX4_place 8 (Ls) (.ref a :: st) h = ev L xs mdX4_place 9 (Ls) (.ref a :: .ref a :: st) (h) := e_dup dX4_place_8 rfl
theorem iX4_place_8i {a : Int32} {Ls st : List Value} {h : AH} : ev L xs mdX4_place 8 (Ls) (.int a :: st) h = ev L xs mdX4_place 9 (Ls) (.int a :: .int a :: st) (h) := e_dup dX4_place_8 rfl
theorem iX4_place_9 {a : Nat} {Ls st : List Value} {h : AH} (hk : hK h a = 4) : ev L xs mdX4_place 9 (Ls) (.ref a :: st) h = ev L xs mdX4_place 12 (Ls) (.int (hI h 69 a) :: st) (h) := e_getI (k := 4) (f := 5) (F := 69) dX4_place_9 (by decide +kernel) rfl rfl hk
theorem iX4_place_12  {Ls st : List Value} {h : AH} : ev L xs mdX4_place 12 (Ls) (st) h = ev L xs mdX4_place 13 (Ls) (.int (nI 1) :: st) (h) := e_iconst dX4_place_12 (by decide)
theorem iX4_place_13 {v0 : Value} {x : Int32} {Ls st : List Value} {h : AH} : ev L xs mdX4_place 13 (v0 :: .int x :: Ls) (st) h = ev L xs mdX4_place 14 (v0 :: .int x :: Ls) (.int x :: st) (h) := e_iload_n dX4_place_13 rfl
theorem iX4_place_14 {x z : Int32} {Ls st : List Value} {h : AH} : ev L xs mdX4_place 14 (Ls) (.int z :: .int x :: st) h = ev L xs mdX4_place 15 (Ls) (.int (x <<< (z &&& nI 31)) :: st) (h) := e_ishl dX4_place_14
theorem iX4_place_15  {Ls st : List Value} {h : AH} : ev L xs mdX4_place 15 (Ls) (st) h = ev L xs mdX4_place 16 (Ls) (.int (-1) :: st) (h) := e_iconst dX4_place_15 (by decide)
theorem iX4_place_16 {x z : Int32} {Ls st : List Value} {h : AH} : ev L xs mdX4_place 16 (Ls) (.int z :: .int x :: st) h = ev L xs mdX4_place 17 (Ls) (.int (x ^^^ z) :: st) (h) := e_ixor dX4_place_16
theorem iX4_place_17 {x z : Int32} {Ls st : List Value} {h : AH} : ev L xs mdX4_place 17 (Ls) (.int z :: .int x :: st) h = ev L xs mdX4_place 18 (Ls) (.int (x &&& z) :: st) (h) := e_iand dX4_place_17
theorem iX4_place_18 {a : Nat} {v : Int32} {Ls st : List Value} {h : AH} (hk : hK h a = 4) : ev L xs mdX4_place 18 (Ls) (.int v :: .ref a :: st) h = ev L xs mdX4_place 21 (Ls) (st) (sI h 69 a v) := e_putI (k := 4) (f := 5) (F := 69) dX4_place_18 (by decide +kernel) rfl (by decide +kernel) rfl hk
theorem iX4_place_21 {Ls : List Value} {h : AH} : ev L xs mdX4_place 21 Ls [] h = some (.inl (none, h)) := e_vret dX4_place_21 rfl
theorem dX4_placeOrLeaveOpen_0 : decode cX4_placeOrLeaveOpen 0 = .ok (.iload_n 1, 1) := by decide +kernel
theorem dX4_placeOrLeaveOpen_1 : decode cX4_placeOrLeaveOpen 1 = .ok (.iconst (-1), 1) := by decide +kernel
theorem dX4_placeOrLeaveOpen_2 : decode cX4_placeOrLeaveOpen 2 = .ok (.if_icmp .ne 28, 3) := by decide +kernel
theorem dX4_placeOrLeaveOpen_5 : decode cX4_placeOrLeaveOpen 5 = .ok (.aload_n 0, 1) := by decide +kernel
theorem dX4_placeOrLeaveOpen_6 : decode cX4_placeOrLeaveOpen 6 = .ok (.dup, 1) := by decide +kernel
theorem dX4_placeOrLeaveOpen_7 : decode cX4_placeOrLeaveOpen 7 = .ok (.getfield 69, 3) := by decide +kernel
theorem dX4_placeOrLeaveOpen_10 : decode cX4_placeOrLeaveOpen 10 = .ok (.iconst 1, 1) := by decide +kernel
theorem dX4_placeOrLeaveOpen_11 : decode cX4_placeOrLeaveOpen 11 = .ok (.iload_n 2, 1) := by decide +kernel
theorem dX4_placeOrLeaveOpen_12 : decode cX4_placeOrLeaveOpen 12 = .ok (.ishl, 1) := by decide +kernel
theorem dX4_placeOrLeaveOpen_13 : decode cX4_placeOrLeaveOpen 13 = .ok (.ior, 1) := by decide +kernel
theorem dX4_placeOrLeaveOpen_14 : decode cX4_placeOrLeaveOpen 14 = .ok (.putfield 69, 3) := by decide +kernel
theorem dX4_placeOrLeaveOpen_17 : decode cX4_placeOrLeaveOpen 17 = .ok (.aload_n 0, 1) := by decide +kernel
theorem dX4_placeOrLeaveOpen_18 : decode cX4_placeOrLeaveOpen 18 = .ok (.getfield 15, 3) := by decide +kernel
theorem dX4_placeOrLeaveOpen_21 : decode cX4_placeOrLeaveOpen 21 = .ok (.iload_n 2, 1) := by decide +kernel
theorem dX4_placeOrLeaveOpen_22 : decode cX4_placeOrLeaveOpen 22 = .ok (.aload_n 0, 1) := by decide +kernel
theorem dX4_placeOrLeaveOpen_23 : decode cX4_placeOrLeaveOpen 23 = .ok (.invokevirtual 97, 3) := by decide +kernel
theorem dX4_placeOrLeaveOpen_26 : decode cX4_placeOrLeaveOpen 26 = .ok (.iastore, 1) := by decide +kernel
theorem dX4_placeOrLeaveOpen_27 : decode cX4_placeOrLeaveOpen 27 = .ok (.goto 9, 3) := by decide +kernel
theorem dX4_placeOrLeaveOpen_30 : decode cX4_placeOrLeaveOpen 30 = .ok (.aload_n 0, 1) := by decide +kernel
theorem dX4_placeOrLeaveOpen_31 : decode cX4_placeOrLeaveOpen 31 = .ok (.iload_n 1, 1) := by decide +kernel
theorem dX4_placeOrLeaveOpen_32 : decode cX4_placeOrLeaveOpen 32 = .ok (.iload_n 2, 1) := by decide +kernel
theorem dX4_placeOrLeaveOpen_33 : decode cX4_placeOrLeaveOpen 33 = .ok (.invokevirtual 95, 3) := by decide +kernel
theorem dX4_placeOrLeaveOpen_36 : decode cX4_placeOrLeaveOpen 36 = .ok (.return_, 1) := by decide +kernel
theorem iX4_placeOrLeaveOpen_0 {v0 : Value} {x : Int32} {Ls st : List Value} {h : AH} : ev L xs mdX4_placeOrLeaveOpen 0 (v0 :: .int x :: Ls) (st) h = ev L xs mdX4_placeOrLeaveOpen 1 (v0 :: .int x :: Ls) (.int x :: st) (h) := e_iload_n dX4_placeOrLeaveOpen_0 rfl
theorem iX4_placeOrLeaveOpen_1  {Ls st : List Value} {h : AH} : ev L xs mdX4_placeOrLeaveOpen 1 (Ls) (st) h = ev L xs mdX4_placeOrLeaveOpen 2 (Ls) (.int (-1) :: st) (h) := e_iconst dX4_placeOrLeaveOpen_1 (by decide)
theorem iX4_placeOrLeaveOpen_2 {x z : Int32} {Ls st : List Value} {h : AH} : ev L xs mdX4_placeOrLeaveOpen 2 Ls (.int z :: .int x :: st) h = if x = z then ev L xs mdX4_placeOrLeaveOpen 5 Ls st h else ev L xs mdX4_placeOrLeaveOpen 30 Ls st h := e_ic_ne dX4_placeOrLeaveOpen_2 (by decide)
theorem iX4_placeOrLeaveOpen_5 {x : Nat} {Ls st : List Value} {h : AH} : ev L xs mdX4_placeOrLeaveOpen 5 (.ref x :: Ls) (st) h = ev L xs mdX4_placeOrLeaveOpen 6 (.ref x :: Ls) (.ref x :: st) (h) := e_aload_n dX4_placeOrLeaveOpen_5 rfl
theorem iX4_placeOrLeaveOpen_6 {a : Nat} {Ls st : List Value} {h : AH} : ev L xs mdX4_placeOrLeaveOpen 6 (Ls) (.ref a :: st) h = ev L xs mdX4_placeOrLeaveOpen 7 (Ls) (.ref a :: .ref a :: st) (h) := e_dup dX4_placeOrLeaveOpen_6 rfl
theorem iX4_placeOrLeaveOpen_6i {a : Int32} {Ls st : List Value} {h : AH} : ev L xs mdX4_placeOrLeaveOpen 6 (Ls) (.int a :: st) h = ev L xs mdX4_placeOrLeaveOpen 7 (Ls) (.int a :: .int a :: st) (h) := e_dup dX4_placeOrLeaveOpen_6 rfl
theorem iX4_placeOrLeaveOpen_7 {a : Nat} {Ls st : List Value} {h : AH} (hk : hK h a = 4) : ev L xs mdX4_placeOrLeaveOpen 7 (Ls) (.ref a :: st) h = ev L xs mdX4_placeOrLeaveOpen 10 (Ls) (.int (hI h 67 a) :: st) (h) := e_getI (k := 4) (f := 3) (F := 67) dX4_placeOrLeaveOpen_7 (by decide +kernel) rfl rfl hk
theorem iX4_placeOrLeaveOpen_10  {Ls st : List Value} {h : AH} : ev L xs mdX4_placeOrLeaveOpen 10 (Ls) (st) h = ev L xs mdX4_placeOrLeaveOpen 11 (Ls) (.int (nI 1) :: st) (h) := e_iconst dX4_placeOrLeaveOpen_10 (by decide)
theorem iX4_placeOrLeaveOpen_11 {v0 : Value} {v1 : Value} {x : Int32} {Ls st : List Value} {h : AH} : ev L xs mdX4_placeOrLeaveOpen 11 (v0 :: v1 :: .int x :: Ls) (st) h = ev L xs mdX4_placeOrLeaveOpen 12 (v0 :: v1 :: .int x :: Ls) (.int x :: st) (h) := e_iload_n dX4_placeOrLeaveOpen_11 rfl
theorem iX4_placeOrLeaveOpen_12 {x z : Int32} {Ls st : List Value} {h : AH} : ev L xs mdX4_placeOrLeaveOpen 12 (Ls) (.int z :: .int x :: st) h = ev L xs mdX4_placeOrLeaveOpen 13 (Ls) (.int (x <<< (z &&& nI 31)) :: st) (h) := e_ishl dX4_placeOrLeaveOpen_12
theorem iX4_placeOrLeaveOpen_13 {x z : Int32} {Ls st : List Value} {h : AH} : ev L xs mdX4_placeOrLeaveOpen 13 (Ls) (.int z :: .int x :: st) h = ev L xs mdX4_placeOrLeaveOpen 14 (Ls) (.int (x ||| z) :: st) (h) := e_ior dX4_placeOrLeaveOpen_13
theorem iX4_placeOrLeaveOpen_14 {a : Nat} {v : Int32} {Ls st : List Value} {h : AH} (hk : hK h a = 4) : ev L xs mdX4_placeOrLeaveOpen 14 (Ls) (.int v :: .ref a :: st) h = ev L xs mdX4_placeOrLeaveOpen 17 (Ls) (st) (sI h 67 a v) := e_putI (k := 4) (f := 3) (F := 67) dX4_placeOrLeaveOpen_14 (by decide +kernel) rfl (by decide +kernel) rfl hk
theorem iX4_placeOrLeaveOpen_17 {x : Nat} {Ls st : List Value} {h : AH} : ev L xs mdX4_placeOrLeaveOpen 17 (.ref x :: Ls) (st) h = ev L xs mdX4_placeOrLeaveOpen 18 (.ref x :: Ls) (.ref x :: st) (h) := e_aload_n dX4_placeOrLeaveOpen_17 rfl
theorem iX4_placeOrLeaveOpen_18 {a : Nat} {Ls st : List Value} {h : AH} (hk : hK h a = 4) (hj : (hR h 65 a).isSome = true) : ev L xs mdX4_placeOrLeaveOpen 18 (Ls) (.ref a :: st) h = ev L xs mdX4_placeOrLeaveOpen 21 (Ls) (.ref ((hR h 65 a).getD 0) :: st) (h) := e_getR (k := 4) (f := 1) (F := 65) dX4_placeOrLeaveOpen_18 (by decide +kernel) rfl rfl hk hj
theorem iX4_placeOrLeaveOpen_21 {v0 : Value} {v1 : Value} {x : Int32} {Ls st : List Value} {h : AH} : ev L xs mdX4_placeOrLeaveOpen 21 (v0 :: v1 :: .int x :: Ls) (st) h = ev L xs mdX4_placeOrLeaveOpen 22 (v0 :: v1 :: .int x :: Ls) (.int x :: st) (h) := e_iload_n dX4_placeOrLeaveOpen_21 rfl
theorem iX4_placeOrLeaveOpen_22 {x : Nat} {Ls st : List Value} {h : AH} : ev L xs mdX4_placeOrLeaveOpen 22 (.ref x :: Ls) (st) h = ev L xs mdX4_placeOrLeaveOpen 23 (.ref x :: Ls) (.ref x :: st) (h) := e_aload_n dX4_placeOrLeaveOpen_22 rfl
theorem iX4_placeOrLeaveOpen_23 {a : Nat} {Ls st : List Value} {h : AH} (hk : hK h a = 4) (hw : wds st ≤ 8) : ev L xs mdX4_placeOrLeaveOpen 23 Ls (.ref a :: st) h = kn L xs mdX4_placeOrLeaveOpen 23 26 Ls st (ev L xs mdX4_reasonNow 0 [.ref a] [] h) := e_callV (as := []) dX4_placeOrLeaveOpen_23 mr_4_97 (by decide) (by decide) rfl (by simp [wds, Value.category]; decide) rfl (by decide) hk hw
theorem iX4_placeOrLeaveOpen_26 {a : Nat} {j : Int32} {v : Int32} {Ls st : List Value} {h : AH} (hk : hK h a = 8) (hi : inA j (hN h a) = true) : ev L xs mdX4_placeOrLeaveOpen 26 (Ls) (.int v :: .int j :: .ref a :: st) h = ev L xs mdX4_placeOrLeaveOpen 27 (Ls) (st) (sA h a j.toNatClampNeg v) := e_iast dX4_placeOrLeaveOpen_26 hk hi
theorem iX4_placeOrLeaveOpen_27  {Ls st : List Value} {h : AH} : ev L xs mdX4_placeOrLeaveOpen 27 (Ls) (st) h = ev L xs mdX4_placeOrLeaveOpen 36 (Ls) (st) (h) := e_goto dX4_placeOrLeaveOpen_27 (by decide)
theorem iX4_placeOrLeaveOpen_30 {x : Nat} {Ls st : List Value} {h : AH} : ev L xs mdX4_placeOrLeaveOpen 30 (.ref x :: Ls) (st) h = ev L xs mdX4_placeOrLeaveOpen 31 (.ref x :: Ls) (.ref x :: st) (h) := e_aload_n dX4_placeOrLeaveOpen_30 rfl
theorem iX4_placeOrLeaveOpen_31 {v0 : Value} {x : Int32} {Ls st : List Value} {h : AH} : ev L xs mdX4_placeOrLeaveOpen 31 (v0 :: .int x :: Ls) (st) h = ev L xs mdX4_placeOrLeaveOpen 32 (v0 :: .int x :: Ls) (.int x :: st) (h) := e_iload_n dX4_placeOrLeaveOpen_31 rfl
theorem iX4_placeOrLeaveOpen_32 {v0 : Value} {v1 : Value} {x : Int32} {Ls st : List Value} {h : AH} : ev L xs mdX4_placeOrLeaveOpen 32 (v0 :: v1 :: .int x :: Ls) (st) h = ev L xs mdX4_placeOrLeaveOpen 33 (v0 :: v1 :: .int x :: Ls) (.int x :: st) (h) := e_iload_n dX4_placeOrLeaveOpen_32 rfl
theorem iX4_placeOrLeaveOpen_33 {a : Nat} {p0 : Int32} {p1 : Int32} {Ls st : List Value} {h : AH} (hk : hK h a = 4) (hw : wds st ≤ 8) : ev L xs mdX4_placeOrLeaveOpen 33 Ls (.int p1 :: .int p0 :: .ref a :: st) h = kn L xs mdX4_placeOrLeaveOpen 33 36 Ls st (ev L xs mdX4_place 0 [.ref a, .int p0, .int p1] [] h) := e_callV (as := [.int p1, .int p0]) dX4_placeOrLeaveOpen_33 mr_4_95 (by decide) (by decide) rfl (by simp [wds, Value.category]; decide) rfl (by decide) hk hw
theorem iX4_placeOrLeaveOpen_36 {Ls : List Value} {h : AH} : ev L xs mdX4_placeOrLeaveOpen 36 Ls [] h = some (.inl (none, h)) := e_vret dX4_placeOrLeaveOpen_36 rfl
theorem dX4_reasonNow_0 : decode cX4_reasonNow 0 = .ok (.aload_n 0, 1) := by decide +kernel
theorem dX4_reasonNow_1 : decode cX4_reasonNow 1 = .ok (.getfield 74, 3) := by decide +kernel
theorem dX4_reasonNow_4 : decode cX4_reasonNow 4 = .ok (.ifCond .ne 5, 3) := by decide +kernel
theorem dX4_reasonNow_7 : decode cX4_reasonNow 7 = .ok (.iconst 1, 1) := by decide +kernel
theorem dX4_reasonNow_8 : decode cX4_reasonNow 8 = .ok (.ireturn, 1) := by decide +kernel
theorem dX4_reasonNow_9 : decode cX4_reasonNow 9 = .ok (.aload_n 0, 1) := by decide +kernel
theorem dX4_reasonNow_10 : decode cX4_reasonNow 10 = .ok (.getfield 76, 3) := by decide +kernel
theorem dX4_reasonNow_13 : decode cX4_reasonNow 13 = .ok (.ifCond .ne 7, 3) := by decide +kernel
theorem dX4_reasonNow_16 : decode cX4_reasonNow 16 = .ok (.iconst 2, 1) := by decide +kernel
theorem dX4_reasonNow_17 : decode cX4_reasonNow 17 = .ok (.goto 4, 3) := by decide +kernel
theorem dX4_reasonNow_20 : decode cX4_reasonNow 20 = .ok (.iconst 3, 1) := by decide +kernel
theorem dX4_reasonNow_21 : decode cX4_reasonNow 21 = .ok (.ireturn, 1) := by decide +kernel
theorem iX4_reasonNow_0 {x : Nat} {Ls st : List Value} {h : AH} : ev L xs mdX4_reasonNow 0 (.ref x :: Ls) (st) h = ev L xs mdX4_reasonNow 1 (.ref x :: Ls) (.ref x :: st) (h) := e_aload_n dX4_reasonNow_0 rfl
theorem iX4_reasonNow_1 {a : Nat} {Ls st : List Value} {h : AH} (hk : hK h a = 4) : ev L xs mdX4_reasonNow 1 (Ls) (.ref a :: st) h = ev L xs mdX4_reasonNow 4 (Ls) (.int (hI h 68 a) :: st) (h) := e_getI (k := 4) (f := 4) (F := 68) dX4_reasonNow_1 (by decide +kernel) rfl rfl hk
theorem iX4_reasonNow_4 {x : Int32} {Ls st : List Value} {h : AH} : ev L xs mdX4_reasonNow 4 Ls (.int x :: st) h = if x = nI 0 then ev L xs mdX4_reasonNow 7 Ls st h else ev L xs mdX4_reasonNow 9 Ls st h := e_if_ne dX4_reasonNow_4 (by decide)
theorem iX4_reasonNow_7  {Ls st : List Value} {h : AH} : ev L xs mdX4_reasonNow 7 (Ls) (st) h = ev L xs mdX4_reasonNow 8 (Ls) (.int (nI 1) :: st) (h) := e_iconst dX4_reasonNow_7 (by decide)
theorem iX4_reasonNow_8 {v : Int32} {Ls : List Value} {h : AH} : ev L xs mdX4_reasonNow 8 Ls [.int v] h = some (.inl (some (.int v), h)) := e_iret dX4_reasonNow_8 rfl
theorem iX4_reasonNow_9 {x : Nat} {Ls st : List Value} {h : AH} : ev L xs mdX4_reasonNow 9 (.ref x :: Ls) (st) h = ev L xs mdX4_reasonNow 10 (.ref x :: Ls) (.ref x :: st) (h) := e_aload_n dX4_reasonNow_9 rfl
theorem iX4_reasonNow_10 {a : Nat} {Ls st : List Value} {h : AH} (hk : hK h a = 4) : ev L xs mdX4_reasonNow 10 (Ls) (.ref a :: st) h = ev L xs mdX4_reasonNow 13 (Ls) (.int (hI h 69 a) :: st) (h) := e_getI (k := 4) (f := 5) (F := 69) dX4_reasonNow_10 (by decide +kernel) rfl rfl hk
theorem iX4_reasonNow_13 {x : Int32} {Ls st : List Value} {h : AH} : ev L xs mdX4_reasonNow 13 Ls (.int x :: st) h = if x = nI 0 then ev L xs mdX4_reasonNow 16 Ls st h else ev L xs mdX4_reasonNow 20 Ls st h := e_if_ne dX4_reasonNow_13 (by decide)
theorem iX4_reasonNow_16  {Ls st : List Value} {h : AH} : ev L xs mdX4_reasonNow 16 (Ls) (st) h = ev L xs mdX4_reasonNow 17 (Ls) (.int (nI 2) :: st) (h) := e_iconst dX4_reasonNow_16 (by decide)
theorem iX4_reasonNow_17  {Ls st : List Value} {h : AH} : ev L xs mdX4_reasonNow 17 (Ls) (st) h = ev L xs mdX4_reasonNow 21 (Ls) (st) (h) := e_goto dX4_reasonNow_17 (by decide)
theorem iX4_reasonNow_20  {Ls st : List Value} {h : AH} : ev L xs mdX4_reasonNow 20 (Ls) (st) h = ev L xs mdX4_reasonNow 21 (Ls) (.int (nI 3) :: st) (h) := e_iconst dX4_reasonNow_20 (by decide)
theorem iX4_reasonNow_21 {v : Int32} {Ls : List Value} {h : AH} : ev L xs mdX4_reasonNow 21 Ls [.int v] h = some (.inl (some (.int v), h)) := e_iret dX4_reasonNow_21 rfl
theorem dX5_about_0 : decode cX5_about 0 = .ok (.iload_n 1, 1) := by decide +kernel
theorem dX5_about_1 : decode cX5_about 1 = .ok (.tableswitch 107 0 9 #[55, 60, 65, 70, 75, 82, 87, 92, 97, 102], 55) := by decide +kernel
theorem dX5_about_56 : decode cX5_about 56 = .ok (.aload_n 0, 1) := by decide +kernel
theorem dX5_about_57 : decode cX5_about 57 = .ok (.getfield 32, 3) := by decide +kernel
theorem dX5_about_60 : decode cX5_about 60 = .ok (.ireturn, 1) := by decide +kernel
theorem dX5_about_61 : decode cX5_about 61 = .ok (.aload_n 0, 1) := by decide +kernel
theorem dX5_about_62 : decode cX5_about 62 = .ok (.getfield 36, 3) := by decide +kernel
theorem dX5_about_65 : decode cX5_about 65 = .ok (.ireturn, 1) := by decide +kernel
theorem dX5_about_66 : decode cX5_about 66 = .ok (.aload_n 0, 1) := by decide +kernel
theorem dX5_about_67 : decode cX5_about 67 = .ok (.getfield 39, 3) := by decide +kernel
theorem dX5_about_70 : decode cX5_about 70 = .ok (.ireturn, 1) := by decide +kernel
theorem dX5_about_71 : decode cX5_about 71 = .ok (.aload_n 0, 1) := by decide +kernel
theorem dX5_about_72 : decode cX5_about 72 = .ok (.invokevirtual 78, 3) := by decide +kernel
theorem dX5_about_75 : decode cX5_about 75 = .ok (.ireturn, 1) := by decide +kernel
theorem dX5_about_76 : decode cX5_about 76 = .ok (.aload_n 0, 1) := by decide +kernel
theorem dX5_about_77 : decode cX5_about 77 = .ok (.getfield 42, 3) := by decide +kernel
theorem dX5_about_80 : decode cX5_about 80 = .ok (.iconst 2, 1) := by decide +kernel
theorem dX5_about_81 : decode cX5_about 81 = .ok (.irem, 1) := by decide +kernel
theorem dX5_about_82 : decode cX5_about 82 = .ok (.ireturn, 1) := by decide +kernel
theorem dX5_about_83 : decode cX5_about 83 = .ok (.aload_n 0, 1) := by decide +kernel
theorem dX5_about_84 : decode cX5_about 84 = .ok (.getfield 45, 3) := by decide +kernel
theorem dX5_about_87 : decode cX5_about 87 = .ok (.ireturn, 1) := by decide +kernel
theorem dX5_about_88 : decode cX5_about 88 = .ok (.aload_n 0, 1) := by decide +kernel
theorem dX5_about_89 : decode cX5_about 89 = .ok (.getfield 48, 3) := by decide +kernel
theorem dX5_about_92 : decode cX5_about 92 = .ok (.ireturn, 1) := by decide +kernel
theorem dX5_about_93 : decode cX5_about 93 = .ok (.aload_n 0, 1) := by decide +kernel
theorem dX5_about_94 : decode cX5_about 94 = .ok (.invokevirtual 166, 3) := by decide +kernel
theorem dX5_about_97 : decode cX5_about 97 = .ok (.ireturn, 1) := by decide +kernel
theorem dX5_about_98 : decode cX5_about 98 = .ok (.aload_n 0, 1) := by decide +kernel
theorem dX5_about_99 : decode cX5_about 99 = .ok (.invokevirtual 168, 3) := by decide +kernel
theorem dX5_about_102 : decode cX5_about 102 = .ok (.ireturn, 1) := by decide +kernel
theorem dX5_about_103 : decode cX5_about 103 = .ok (.aload_n 0, 1) := by decide +kernel
theorem dX5_about_104 : decode cX5_about 104 = .ok (.invokevirtual 170, 3) := by decide +kernel
theorem dX5_about_107 : decode cX5_about 107 = .ok (.ireturn, 1) := by decide +kernel
theorem dX5_about_108 : decode cX5_about 108 = .ok (.aload_n 0, 1) := by decide +kernel
theorem dX5_about_109 : decode cX5_about 109 = .ok (.getfield 39, 3) := by decide +kernel
theorem dX5_about_112 : decode cX5_about 112 = .ok (.aload_n 0, 1) := by decide +kernel
theorem dX5_about_113 : decode cX5_about 113 = .ok (.aload_n 0, 1) := by decide +kernel
theorem dX5_about_114 : decode cX5_about 114 = .ok (.invokevirtual 78, 3) := by decide +kernel
theorem dX5_about_117 : decode cX5_about 117 = .ok (.invokevirtual 172, 3) := by decide +kernel
theorem dX5_about_120 : decode cX5_about 120 = .ok (.invokestatic 132, 3) := by decide +kernel
theorem dX5_about_123 : decode cX5_about 123 = .ok (.isub, 1) := by decide +kernel
theorem dX5_about_124 : decode cX5_about 124 = .ok (.ireturn, 1) := by decide +kernel
theorem iX5_about_0 {v0 : Value} {x : Int32} {Ls st : List Value} {h : AH} : ev L xs mdX5_about 0 (v0 :: .int x :: Ls) (st) h = ev L xs mdX5_about 1 (v0 :: .int x :: Ls) (.int x :: st) (h) := e_iload_n dX5_about_0 rfl
theorem iX5_about_1_0 {Ls st : List Value} {h : AH} : ev L xs mdX5_about 1 Ls (.int (nI 0) :: st) h = ev L xs mdX5_about 56 Ls st h := e_tsw dX5_about_1 rfl (by decide)
theorem iX5_about_1_1 {Ls st : List Value} {h : AH} : ev L xs mdX5_about 1 Ls (.int (nI 1) :: st) h = ev L xs mdX5_about 61 Ls st h := e_tsw dX5_about_1 rfl (by decide)
theorem iX5_about_1_2 {Ls st : List Value} {h : AH} : ev L xs mdX5_about 1 Ls (.int (nI 2) :: st) h = ev L xs mdX5_about 66 Ls st h := e_tsw dX5_about_1 rfl (by decide)
theorem iX5_about_1_3 {Ls st : List Value} {h : AH} : ev L xs mdX5_about 1 Ls (.int (nI 3) :: st) h = ev L xs mdX5_about 71 Ls st h := e_tsw dX5_about_1 rfl (by decide)
theorem iX5_about_1_4 {Ls st : List Value} {h : AH} : ev L xs mdX5_about 1 Ls (.int (nI 4) :: st) h = ev L xs mdX5_about 76 Ls st h := e_tsw dX5_about_1 rfl (by decide)
theorem iX5_about_1_5 {Ls st : List Value} {h : AH} : ev L xs mdX5_about 1 Ls (.int (nI 5) :: st) h = ev L xs mdX5_about 83 Ls st h := e_tsw dX5_about_1 rfl (by decide)
theorem iX5_about_1_6 {Ls st : List Value} {h : AH} : ev L xs mdX5_about 1 Ls (.int (nI 6) :: st) h = ev L xs mdX5_about 88 Ls st h := e_tsw dX5_about_1 rfl (by decide)
theorem iX5_about_1_7 {Ls st : List Value} {h : AH} : ev L xs mdX5_about 1 Ls (.int (nI 7) :: st) h = ev L xs mdX5_about 93 Ls st h := e_tsw dX5_about_1 rfl (by decide)
theorem iX5_about_1_8 {Ls st : List Value} {h : AH} : ev L xs mdX5_about 1 Ls (.int (nI 8) :: st) h = ev L xs mdX5_about 98 Ls st h := e_tsw dX5_about_1 rfl (by decide)
theorem iX5_about_1_9 {Ls st : List Value} {h : AH} : ev L xs mdX5_about 1 Ls (.int (nI 9) :: st) h = ev L xs mdX5_about 103 Ls st h := e_tsw dX5_about_1 rfl (by decide)
theorem iX5_about_1_d {x : Int32} {Ls st : List Value} {h : AH} (hx : x.toInt < 0 ∨ 9 < x.toInt) : ev L xs mdX5_about 1 Ls (.int x :: st) h = ev L xs mdX5_about 108 Ls st h := e_tsw (o := 107) dX5_about_1 (if_pos hx) (by decide)
theorem iX5_about_56 {x : Nat} {Ls st : List Value} {h : AH} : ev L xs mdX5_about 56 (.ref x :: Ls) (st) h = ev L xs mdX5_about 57 (.ref x :: Ls) (.ref x :: st) (h) := e_aload_n dX5_about_56 rfl
theorem iX5_about_57 {a : Nat} {Ls st : List Value} {h : AH} (hk : hK h a = 5) : ev L xs mdX5_about 57 (Ls) (.ref a :: st) h = ev L xs mdX5_about 60 (Ls) (.int (hI h 82 a) :: st) (h) := e_getI (k := 5) (f := 2) (F := 82) dX5_about_57 (by decide +kernel) rfl rfl hk
theorem iX5_about_60 {v : Int32} {Ls : List Value} {h : AH} : ev L xs mdX5_about 60 Ls [.int v] h = some (.inl (some (.int v), h)) := e_iret dX5_about_60 rfl
theorem iX5_about_61 {x : Nat} {Ls st : List Value} {h : AH} : ev L xs mdX5_about 61 (.ref x :: Ls) (st) h = ev L xs mdX5_about 62 (.ref x :: Ls) (.ref x :: st) (h) := e_aload_n dX5_about_61 rfl
theorem iX5_about_62 {a : Nat} {Ls st : List Value} {h : AH} (hk : hK h a = 5) : ev L xs mdX5_about 62 (Ls) (.ref a :: st) h = ev L xs mdX5_about 65 (Ls) (.int (hI h 84 a) :: st) (h) := e_getI (k := 5) (f := 4) (F := 84) dX5_about_62 (by decide +kernel) rfl rfl hk
theorem iX5_about_65 {v : Int32} {Ls : List Value} {h : AH} : ev L xs mdX5_about 65 Ls [.int v] h = some (.inl (some (.int v), h)) := e_iret dX5_about_65 rfl
theorem iX5_about_66 {x : Nat} {Ls st : List Value} {h : AH} : ev L xs mdX5_about 66 (.ref x :: Ls) (st) h = ev L xs mdX5_about 67 (.ref x :: Ls) (.ref x :: st) (h) := e_aload_n dX5_about_66 rfl
theorem iX5_about_67 {a : Nat} {Ls st : List Value} {h : AH} (hk : hK h a = 5) : ev L xs mdX5_about 67 (Ls) (.ref a :: st) h = ev L xs mdX5_about 70 (Ls) (.int (hI h 86 a) :: st) (h) := e_getI (k := 5) (f := 6) (F := 86) dX5_about_67 (by decide +kernel) rfl rfl hk
theorem iX5_about_70 {v : Int32} {Ls : List Value} {h : AH} : ev L xs mdX5_about 70 Ls [.int v] h = some (.inl (some (.int v), h)) := e_iret dX5_about_70 rfl
theorem iX5_about_71 {x : Nat} {Ls st : List Value} {h : AH} : ev L xs mdX5_about 71 (.ref x :: Ls) (st) h = ev L xs mdX5_about 72 (.ref x :: Ls) (.ref x :: st) (h) := e_aload_n dX5_about_71 rfl
theorem iX5_about_72 {a : Nat} {Ls st : List Value} {h : AH} (hk : hK h a = 5) (hw : wds st ≤ 8) : ev L xs mdX5_about 72 Ls (.ref a :: st) h = kn L xs mdX5_about 72 75 Ls st (ev L xs mdX5_nextDay 0 [.ref a] [] h) := e_callV (as := []) dX5_about_72 mr_5_78 (by decide) (by decide) rfl (by simp [wds, Value.category]; decide) rfl (by decide) hk hw
theorem iX5_about_75 {v : Int32} {Ls : List Value} {h : AH} : ev L xs mdX5_about 75 Ls [.int v] h = some (.inl (some (.int v), h)) := e_iret dX5_about_75 rfl
theorem iX5_about_76 {x : Nat} {Ls st : List Value} {h : AH} : ev L xs mdX5_about 76 (.ref x :: Ls) (st) h = ev L xs mdX5_about 77 (.ref x :: Ls) (.ref x :: st) (h) := e_aload_n dX5_about_76 rfl
theorem iX5_about_77 {a : Nat} {Ls st : List Value} {h : AH} (hk : hK h a = 5) : ev L xs mdX5_about 77 (Ls) (.ref a :: st) h = ev L xs mdX5_about 80 (Ls) (.int (hI h 87 a) :: st) (h) := e_getI (k := 5) (f := 7) (F := 87) dX5_about_77 (by decide +kernel) rfl rfl hk
theorem iX5_about_80  {Ls st : List Value} {h : AH} : ev L xs mdX5_about 80 (Ls) (st) h = ev L xs mdX5_about 81 (Ls) (.int (nI 2) :: st) (h) := e_iconst dX5_about_80 (by decide)
theorem iX5_about_81 {x z : Int32} {Ls st : List Value} {h : AH} (hz : ¬ z = 0) : ev L xs mdX5_about 81 (Ls) (.int z :: .int x :: st) h = ev L xs mdX5_about 82 (Ls) (.int (x - x / z * z) :: st) (h) := e_irem dX5_about_81 hz
theorem iX5_about_82 {v : Int32} {Ls : List Value} {h : AH} : ev L xs mdX5_about 82 Ls [.int v] h = some (.inl (some (.int v), h)) := e_iret dX5_about_82 rfl
theorem iX5_about_83 {x : Nat} {Ls st : List Value} {h : AH} : ev L xs mdX5_about 83 (.ref x :: Ls) (st) h = ev L xs mdX5_about 84 (.ref x :: Ls) (.ref x :: st) (h) := e_aload_n dX5_about_83 rfl
theorem iX5_about_84 {a : Nat} {Ls st : List Value} {h : AH} (hk : hK h a = 5) : ev L xs mdX5_about 84 (Ls) (.ref a :: st) h = ev L xs mdX5_about 87 (Ls) (.int (hI h 88 a) :: st) (h) := e_getI (k := 5) (f := 8) (F := 88) dX5_about_84 (by decide +kernel) rfl rfl hk
theorem iX5_about_87 {v : Int32} {Ls : List Value} {h : AH} : ev L xs mdX5_about 87 Ls [.int v] h = some (.inl (some (.int v), h)) := e_iret dX5_about_87 rfl
theorem iX5_about_88 {x : Nat} {Ls st : List Value} {h : AH} : ev L xs mdX5_about 88 (.ref x :: Ls) (st) h = ev L xs mdX5_about 89 (.ref x :: Ls) (.ref x :: st) (h) := e_aload_n dX5_about_88 rfl
theorem iX5_about_89 {a : Nat} {Ls st : List Value} {h : AH} (hk : hK h a = 5) : ev L xs mdX5_about 89 (Ls) (.ref a :: st) h = ev L xs mdX5_about 92 (Ls) (.int (hI h 89 a) :: st) (h) := e_getI (k := 5) (f := 9) (F := 89) dX5_about_89 (by decide +kernel) rfl rfl hk
theorem iX5_about_92 {v : Int32} {Ls : List Value} {h : AH} : ev L xs mdX5_about 92 Ls [.int v] h = some (.inl (some (.int v), h)) := e_iret dX5_about_92 rfl
theorem iX5_about_93 {x : Nat} {Ls st : List Value} {h : AH} : ev L xs mdX5_about 93 (.ref x :: Ls) (st) h = ev L xs mdX5_about 94 (.ref x :: Ls) (.ref x :: st) (h) := e_aload_n dX5_about_93 rfl
theorem iX5_about_94 {a : Nat} {Ls st : List Value} {h : AH} (hk : hK h a = 5) (hw : wds st ≤ 8) : ev L xs mdX5_about 94 Ls (.ref a :: st) h = kn L xs mdX5_about 94 97 Ls st (ev L xs mdX5_timesOpen 0 [.ref a, .null, .null] [] h) := e_callV (as := []) dX5_about_94 mr_5_166 (by decide) (by decide) rfl (by simp [wds, Value.category]; decide) rfl (by decide) hk hw
theorem iX5_about_97 {v : Int32} {Ls : List Value} {h : AH} : ev L xs mdX5_about 97 Ls [.int v] h = some (.inl (some (.int v), h)) := e_iret dX5_about_97 rfl
theorem iX5_about_98 {x : Nat} {Ls st : List Value} {h : AH} : ev L xs mdX5_about 98 (.ref x :: Ls) (st) h = ev L xs mdX5_about 99 (.ref x :: Ls) (.ref x :: st) (h) := e_aload_n dX5_about_98 rfl
theorem iX5_about_99 {a : Nat} {Ls st : List Value} {h : AH} (hk : hK h a = 5) (hw : wds st ≤ 8) : ev L xs mdX5_about 99 Ls (.ref a :: st) h = kn L xs mdX5_about 99 102 Ls st (ev L xs mdX5_complaints 0 [.ref a, .null, .null] [] h) := e_callV (as := []) dX5_about_99 mr_5_168 (by decide) (by decide) rfl (by simp [wds, Value.category]; decide) rfl (by decide) hk hw
theorem iX5_about_102 {v : Int32} {Ls : List Value} {h : AH} : ev L xs mdX5_about 102 Ls [.int v] h = some (.inl (some (.int v), h)) := e_iret dX5_about_102 rfl
theorem iX5_about_103 {x : Nat} {Ls st : List Value} {h : AH} : ev L xs mdX5_about 103 (.ref x :: Ls) (st) h = ev L xs mdX5_about 104 (.ref x :: Ls) (.ref x :: st) (h) := e_aload_n dX5_about_103 rfl
theorem iX5_about_104 {a : Nat} {Ls st : List Value} {h : AH} (hk : hK h a = 5) (hw : wds st ≤ 8) : ev L xs mdX5_about 104 Ls (.ref a :: st) h = kn L xs mdX5_about 104 107 Ls st (ev L xs mdX5_earnings 0 [.ref a, .null, .null] [] h) := e_callV (as := []) dX5_about_104 mr_5_170 (by decide) (by decide) rfl (by simp [wds, Value.category]; decide) rfl (by decide) hk hw
theorem iX5_about_107 {v : Int32} {Ls : List Value} {h : AH} : ev L xs mdX5_about 107 Ls [.int v] h = some (.inl (some (.int v), h)) := e_iret dX5_about_107 rfl
theorem iX5_about_108 {x : Nat} {Ls st : List Value} {h : AH} : ev L xs mdX5_about 108 (.ref x :: Ls) (st) h = ev L xs mdX5_about 109 (.ref x :: Ls) (.ref x :: st) (h) := e_aload_n dX5_about_108 rfl
theorem iX5_about_109 {a : Nat} {Ls st : List Value} {h : AH} (hk : hK h a = 5) : ev L xs mdX5_about 109 (Ls) (.ref a :: st) h = ev L xs mdX5_about 112 (Ls) (.int (hI h 86 a) :: st) (h) := e_getI (k := 5) (f := 6) (F := 86) dX5_about_109 (by decide +kernel) rfl rfl hk
theorem iX5_about_112 {x : Nat} {Ls st : List Value} {h : AH} : ev L xs mdX5_about 112 (.ref x :: Ls) (st) h = ev L xs mdX5_about 113 (.ref x :: Ls) (.ref x :: st) (h) := e_aload_n dX5_about_112 rfl
theorem iX5_about_113 {x : Nat} {Ls st : List Value} {h : AH} : ev L xs mdX5_about 113 (.ref x :: Ls) (st) h = ev L xs mdX5_about 114 (.ref x :: Ls) (.ref x :: st) (h) := e_aload_n dX5_about_113 rfl
theorem iX5_about_114 {a : Nat} {Ls st : List Value} {h : AH} (hk : hK h a = 5) (hw : wds st ≤ 8) : ev L xs mdX5_about 114 Ls (.ref a :: st) h = kn L xs mdX5_about 114 117 Ls st (ev L xs mdX5_nextDay 0 [.ref a] [] h) := e_callV (as := []) dX5_about_114 mr_5_78 (by decide) (by decide) rfl (by simp [wds, Value.category]; decide) rfl (by decide) hk hw
theorem iX5_about_117 {a : Nat} {p0 : Int32} {Ls st : List Value} {h : AH} (hk : hK h a = 5) (hw : wds st ≤ 8) : ev L xs mdX5_about 117 Ls (.int p0 :: .ref a :: st) h = kn L xs mdX5_about 117 120 Ls st (ev L xs mdX5_wellGuards 0 [.ref a, .int p0, .null, .null] [] h) := e_callV (as := [.int p0]) dX5_about_117 mr_5_172 (by decide) (by decide) rfl (by simp [wds, Value.category]; decide) rfl (by decide) hk hw
theorem iX5_about_120 {p0 : Int32} {Ls st : List Value} {h : AH} (hw : wds st ≤ 8) : ev L xs mdX5_about 120 Ls (.int p0 :: st) h = kn L xs mdX5_about 120 123 Ls st (ev L xs mdJ6_bitCount_0f7a4 0 [.int p0] [] h) := e_callS (as := [.int p0]) dX5_about_120 mr_5_132 (by decide) (by decide) rfl (by simp [wds, Value.category]; decide) rfl hw
theorem iX5_about_123 {x z : Int32} {Ls st : List Value} {h : AH} : ev L xs mdX5_about 123 (Ls) (.int z :: .int x :: st) h = ev L xs mdX5_about 124 (Ls) (.int (x - z) :: st) (h) := e_isub dX5_about_123
theorem iX5_about_124 {v : Int32} {Ls : List Value} {h : AH} : ev L xs mdX5_about 124 Ls [.int v] h = some (.inl (some (.int v), h)) := e_iret dX5_about_124 rfl
theorem dX5_aboutPost_0 : decode cX5_aboutPost 0 = .ok (.aload_n 0, 1) := by decide +kernel
theorem dX5_aboutPost_1 : decode cX5_aboutPost 1 = .ok (.getfield 20, 3) := by decide +kernel
theorem dX5_aboutPost_4 : decode cX5_aboutPost 4 = .ok (.iload_n 1, 1) := by decide +kernel
theorem dX5_aboutPost_5 : decode cX5_aboutPost 5 = .ok (.aaload, 1) := by decide +kernel
theorem dX5_aboutPost_6 : decode cX5_aboutPost 6 = .ok (.astore_n 3, 1) := by decide +kernel
theorem dX5_aboutPost_7 : decode cX5_aboutPost 7 = .ok (.iload_n 2, 1) := by decide +kernel
theorem dX5_aboutPost_8 : decode cX5_aboutPost 8 = .ok (.tableswitch 101 0 7 #[48, 53, 58, 64, 69, 74, 79, 96], 48) := by decide +kernel
theorem dX5_aboutPost_56 : decode cX5_aboutPost 56 = .ok (.aload_n 3, 1) := by decide +kernel
theorem dX5_aboutPost_57 : decode cX5_aboutPost 57 = .ok (.getfield 123, 3) := by decide +kernel
theorem dX5_aboutPost_60 : decode cX5_aboutPost 60 = .ok (.ireturn, 1) := by decide +kernel
theorem dX5_aboutPost_61 : decode cX5_aboutPost 61 = .ok (.aload_n 3, 1) := by decide +kernel
theorem dX5_aboutPost_62 : decode cX5_aboutPost 62 = .ok (.getfield 99, 3) := by decide +kernel
theorem dX5_aboutPost_65 : decode cX5_aboutPost 65 = .ok (.ireturn, 1) := by decide +kernel
theorem dX5_aboutPost_66 : decode cX5_aboutPost 66 = .ok (.aload_n 0, 1) := by decide +kernel
theorem dX5_aboutPost_67 : decode cX5_aboutPost 67 = .ok (.iload_n 1, 1) := by decide +kernel
theorem dX5_aboutPost_68 : decode cX5_aboutPost 68 = .ok (.invokevirtual 151, 3) := by decide +kernel
theorem dX5_aboutPost_71 : decode cX5_aboutPost 71 = .ok (.ireturn, 1) := by decide +kernel
theorem dX5_aboutPost_72 : decode cX5_aboutPost 72 = .ok (.aload_n 3, 1) := by decide +kernel
theorem dX5_aboutPost_73 : decode cX5_aboutPost 73 = .ok (.getfield 145, 3) := by decide +kernel
theorem dX5_aboutPost_76 : decode cX5_aboutPost 76 = .ok (.ireturn, 1) := by decide +kernel
theorem dX5_aboutPost_77 : decode cX5_aboutPost 77 = .ok (.aload_n 3, 1) := by decide +kernel
theorem dX5_aboutPost_78 : decode cX5_aboutPost 78 = .ok (.getfield 93, 3) := by decide +kernel
theorem dX5_aboutPost_81 : decode cX5_aboutPost 81 = .ok (.ireturn, 1) := by decide +kernel
theorem dX5_aboutPost_82 : decode cX5_aboutPost 82 = .ok (.aload_n 3, 1) := by decide +kernel
theorem dX5_aboutPost_83 : decode cX5_aboutPost 83 = .ok (.getfield 154, 3) := by decide +kernel
theorem dX5_aboutPost_86 : decode cX5_aboutPost 86 = .ok (.ireturn, 1) := by decide +kernel
theorem dX5_aboutPost_87 : decode cX5_aboutPost 87 = .ok (.aload_n 3, 1) := by decide +kernel
theorem dX5_aboutPost_88 : decode cX5_aboutPost 88 = .ok (.aload_n 0, 1) := by decide +kernel
theorem dX5_aboutPost_89 : decode cX5_aboutPost 89 = .ok (.getfield 42, 3) := by decide +kernel
theorem dX5_aboutPost_92 : decode cX5_aboutPost 92 = .ok (.invokevirtual 157, 3) := by decide +kernel
theorem dX5_aboutPost_95 : decode cX5_aboutPost 95 = .ok (.ifCond .eq 7, 3) := by decide +kernel
theorem dX5_aboutPost_98 : decode cX5_aboutPost 98 = .ok (.iconst 1, 1) := by decide +kernel
theorem dX5_aboutPost_99 : decode cX5_aboutPost 99 = .ok (.goto 4, 3) := by decide +kernel
theorem dX5_aboutPost_102 : decode cX5_aboutPost 102 = .ok (.iconst 0, 1) := by decide +kernel
theorem dX5_aboutPost_103 : decode cX5_aboutPost 103 = .ok (.ireturn, 1) := by decide +kernel
theorem dX5_aboutPost_104 : decode cX5_aboutPost 104 = .ok (.aload_n 3, 1) := by decide +kernel
theorem dX5_aboutPost_105 : decode cX5_aboutPost 105 = .ok (.getfield 160, 3) := by decide +kernel
theorem dX5_aboutPost_108 : decode cX5_aboutPost 108 = .ok (.ireturn, 1) := by decide +kernel
theorem dX5_aboutPost_109 : decode cX5_aboutPost 109 = .ok (.aload_n 3, 1) := by decide +kernel
theorem dX5_aboutPost_110 : decode cX5_aboutPost 110 = .ok (.getfield 163, 3) := by decide +kernel
theorem dX5_aboutPost_113 : decode cX5_aboutPost 113 = .ok (.ireturn, 1) := by decide +kernel
theorem iX5_aboutPost_0 {x : Nat} {Ls st : List Value} {h : AH} : ev L xs mdX5_aboutPost 0 (.ref x :: Ls) (st) h = ev L xs mdX5_aboutPost 1 (.ref x :: Ls) (.ref x :: st) (h) := e_aload_n dX5_aboutPost_0 rfl
theorem iX5_aboutPost_1 {a : Nat} {Ls st : List Value} {h : AH} (hk : hK h a = 5) (hj : (hR h 83 a).isSome = true) : ev L xs mdX5_aboutPost 1 (Ls) (.ref a :: st) h = ev L xs mdX5_aboutPost 4 (Ls) (.ref ((hR h 83 a).getD 0) :: st) (h) := e_getR (k := 5) (f := 3) (F := 83) dX5_aboutPost_1 (by decide +kernel) rfl rfl hk hj
theorem iX5_aboutPost_4 {v0 : Value} {x : Int32} {Ls st : List Value} {h : AH} : ev L xs mdX5_aboutPost 4 (v0 :: .int x :: Ls) (st) h = ev L xs mdX5_aboutPost 5 (v0 :: .int x :: Ls) (.int x :: st) (h) := e_iload_n dX5_aboutPost_4 rfl
theorem iX5_aboutPost_5 {a : Nat} {j : Int32} {Ls st : List Value} {h : AH} (hk : hK h a = 9 ∨ hK h a = 10 ∨ hK h a = 11) (hi : inA j (hN h a) = true) (hq : (hQ h a j.toNatClampNeg).isSome = true) : ev L xs mdX5_aboutPost 5 (Ls) (.int j :: .ref a :: st) h = ev L xs mdX5_aboutPost 6 (Ls) (.ref ((hQ h a j.toNatClampNeg).getD 0) :: st) (h) := e_aald dX5_aboutPost_5 hk hi hq
theorem iX5_aboutPost_6 {v0 : Value} {v1 : Value} {v2 : Value} {v3 : Value} {x : Nat} {Ls st : List Value} {h : AH} (hc9 : v2.category = 1) : ev L xs mdX5_aboutPost 6 (v0 :: v1 :: v2 :: v3 :: Ls) (.ref x :: st) h = ev L xs mdX5_aboutPost 7 (v0 :: v1 :: v2 :: .ref x :: Ls) (st) (h) := e_astore_n dX5_aboutPost_6 rfl (by decide) (by unfold catOK; show (_ || (v2.category == 1)) = true; rw [hc9]; rfl)
theorem iX5_aboutPost_7 {v0 : Value} {v1 : Value} {x : Int32} {Ls st : List Value} {h : AH} : ev L xs mdX5_aboutPost 7 (v0 :: v1 :: .int x :: Ls) (st) h = ev L xs mdX5_aboutPost 8 (v0 :: v1 :: .int x :: Ls) (.int x :: st) (h) := e_iload_n dX5_aboutPost_7 rfl
theorem iX5_aboutPost_8_0 {Ls st : List Value} {h : AH} : ev L xs mdX5_aboutPost 8 Ls (.int (nI 0) :: st) h = ev L xs mdX5_aboutPost 56 Ls st h := e_tsw dX5_aboutPost_8 rfl (by decide)
theorem iX5_aboutPost_8_1 {Ls st : List Value} {h : AH} : ev L xs mdX5_aboutPost 8 Ls (.int (nI 1) :: st) h = ev L xs mdX5_aboutPost 61 Ls st h := e_tsw dX5_aboutPost_8 rfl (by decide)
theorem iX5_aboutPost_8_2 {Ls st : List Value} {h : AH} : ev L xs mdX5_aboutPost 8 Ls (.int (nI 2) :: st) h = ev L xs mdX5_aboutPost 66 Ls st h := e_tsw dX5_aboutPost_8 rfl (by decide)
theorem iX5_aboutPost_8_3 {Ls st : List Value} {h : AH} : ev L xs mdX5_aboutPost 8 Ls (.int (nI 3) :: st) h = ev L xs mdX5_aboutPost 72 Ls st h := e_tsw dX5_aboutPost_8 rfl (by decide)
theorem iX5_aboutPost_8_4 {Ls st : List Value} {h : AH} : ev L xs mdX5_aboutPost 8 Ls (.int (nI 4) :: st) h = ev L xs mdX5_aboutPost 77 Ls st h := e_tsw dX5_aboutPost_8 rfl (by decide)
theorem iX5_aboutPost_8_5 {Ls st : List Value} {h : AH} : ev L xs mdX5_aboutPost 8 Ls (.int (nI 5) :: st) h = ev L xs mdX5_aboutPost 82 Ls st h := e_tsw dX5_aboutPost_8 rfl (by decide)
theorem iX5_aboutPost_8_6 {Ls st : List Value} {h : AH} : ev L xs mdX5_aboutPost 8 Ls (.int (nI 6) :: st) h = ev L xs mdX5_aboutPost 87 Ls st h := e_tsw dX5_aboutPost_8 rfl (by decide)
theorem iX5_aboutPost_8_7 {Ls st : List Value} {h : AH} : ev L xs mdX5_aboutPost 8 Ls (.int (nI 7) :: st) h = ev L xs mdX5_aboutPost 104 Ls st h := e_tsw dX5_aboutPost_8 rfl (by decide)
theorem iX5_aboutPost_8_d {x : Int32} {Ls st : List Value} {h : AH} (hx : x.toInt < 0 ∨ 7 < x.toInt) : ev L xs mdX5_aboutPost 8 Ls (.int x :: st) h = ev L xs mdX5_aboutPost 109 Ls st h := e_tsw (o := 101) dX5_aboutPost_8 (if_pos hx) (by decide)
theorem iX5_aboutPost_56 {v0 : Value} {v1 : Value} {v2 : Value} {x : Nat} {Ls st : List Value} {h : AH} : ev L xs mdX5_aboutPost 56 (v0 :: v1 :: v2 :: .ref x :: Ls) (st) h = ev L xs mdX5_aboutPost 57 (v0 :: v1 :: v2 :: .ref x :: Ls) (.ref x :: st) (h) := e_aload_n dX5_aboutPost_56 rfl
theorem iX5_aboutPost_57 {a : Nat} {Ls st : List Value} {h : AH} (hk : hK h a = 2) : ev L xs mdX5_aboutPost 57 (Ls) (.ref a :: st) h = ev L xs mdX5_aboutPost 60 (Ls) (.int (hI h 32 a) :: st) (h) := e_getI (k := 2) (f := 0) (F := 32) dX5_aboutPost_57 (by decide +kernel) rfl rfl hk
theorem iX5_aboutPost_60 {v : Int32} {Ls : List Value} {h : AH} : ev L xs mdX5_aboutPost 60 Ls [.int v] h = some (.inl (some (.int v), h)) := e_iret dX5_aboutPost_60 rfl
theorem iX5_aboutPost_61 {v0 : Value} {v1 : Value} {v2 : Value} {x : Nat} {Ls st : List Value} {h : AH} : ev L xs mdX5_aboutPost 61 (v0 :: v1 :: v2 :: .ref x :: Ls) (st) h = ev L xs mdX5_aboutPost 62 (v0 :: v1 :: v2 :: .ref x :: Ls) (.ref x :: st) (h) := e_aload_n dX5_aboutPost_61 rfl
theorem iX5_aboutPost_62 {a : Nat} {Ls st : List Value} {h : AH} (hk : hK h a = 2) : ev L xs mdX5_aboutPost 62 (Ls) (.ref a :: st) h = ev L xs mdX5_aboutPost 65 (Ls) (.int (hI h 33 a) :: st) (h) := e_getI (k := 2) (f := 1) (F := 33) dX5_aboutPost_62 (by decide +kernel) rfl rfl hk
theorem iX5_aboutPost_65 {v : Int32} {Ls : List Value} {h : AH} : ev L xs mdX5_aboutPost 65 Ls [.int v] h = some (.inl (some (.int v), h)) := e_iret dX5_aboutPost_65 rfl
theorem iX5_aboutPost_66 {x : Nat} {Ls st : List Value} {h : AH} : ev L xs mdX5_aboutPost 66 (.ref x :: Ls) (st) h = ev L xs mdX5_aboutPost 67 (.ref x :: Ls) (.ref x :: st) (h) := e_aload_n dX5_aboutPost_66 rfl
theorem iX5_aboutPost_67 {v0 : Value} {x : Int32} {Ls st : List Value} {h : AH} : ev L xs mdX5_aboutPost 67 (v0 :: .int x :: Ls) (st) h = ev L xs mdX5_aboutPost 68 (v0 :: .int x :: Ls) (.int x :: st) (h) := e_iload_n dX5_aboutPost_67 rfl
theorem iX5_aboutPost_68 {a : Nat} {p0 : Int32} {Ls st : List Value} {h : AH} (hk : hK h a = 5) (hw : wds st ≤ 8) : ev L xs mdX5_aboutPost 68 Ls (.int p0 :: .ref a :: st) h = kn L xs mdX5_aboutPost 68 71 Ls st (ev L xs mdX5_ownerOf 0 [.ref a, .int p0, .null] [] h) := e_callV (as := [.int p0]) dX5_aboutPost_68 mr_5_151 (by decide) (by decide) rfl (by simp [wds, Value.category]; decide) rfl (by decide) hk hw
theorem iX5_aboutPost_71 {v : Int32} {Ls : List Value} {h : AH} : ev L xs mdX5_aboutPost 71 Ls [.int v] h = some (.inl (some (.int v), h)) := e_iret dX5_aboutPost_71 rfl
theorem iX5_aboutPost_72 {v0 : Value} {v1 : Value} {v2 : Value} {x : Nat} {Ls st : List Value} {h : AH} : ev L xs mdX5_aboutPost 72 (v0 :: v1 :: v2 :: .ref x :: Ls) (st) h = ev L xs mdX5_aboutPost 73 (v0 :: v1 :: v2 :: .ref x :: Ls) (.ref x :: st) (h) := e_aload_n dX5_aboutPost_72 rfl
theorem iX5_aboutPost_73 {a : Nat} {Ls st : List Value} {h : AH} (hk : hK h a = 2) : ev L xs mdX5_aboutPost 73 (Ls) (.ref a :: st) h = ev L xs mdX5_aboutPost 76 (Ls) (.int (hI h 34 a) :: st) (h) := e_getI (k := 2) (f := 2) (F := 34) dX5_aboutPost_73 (by decide +kernel) rfl rfl hk
theorem iX5_aboutPost_76 {v : Int32} {Ls : List Value} {h : AH} : ev L xs mdX5_aboutPost 76 Ls [.int v] h = some (.inl (some (.int v), h)) := e_iret dX5_aboutPost_76 rfl
theorem iX5_aboutPost_77 {v0 : Value} {v1 : Value} {v2 : Value} {x : Nat} {Ls st : List Value} {h : AH} : ev L xs mdX5_aboutPost 77 (v0 :: v1 :: v2 :: .ref x :: Ls) (st) h = ev L xs mdX5_aboutPost 78 (v0 :: v1 :: v2 :: .ref x :: Ls) (.ref x :: st) (h) := e_aload_n dX5_aboutPost_77 rfl
theorem iX5_aboutPost_78 {a : Nat} {Ls st : List Value} {h : AH} (hk : hK h a = 2) : ev L xs mdX5_aboutPost 78 (Ls) (.ref a :: st) h = ev L xs mdX5_aboutPost 81 (Ls) (.int (hI h 35 a) :: st) (h) := e_getI (k := 2) (f := 3) (F := 35) dX5_aboutPost_78 (by decide +kernel) rfl rfl hk
theorem iX5_aboutPost_81 {v : Int32} {Ls : List Value} {h : AH} : ev L xs mdX5_aboutPost 81 Ls [.int v] h = some (.inl (some (.int v), h)) := e_iret dX5_aboutPost_81 rfl
theorem iX5_aboutPost_82 {v0 : Value} {v1 : Value} {v2 : Value} {x : Nat} {Ls st : List Value} {h : AH} : ev L xs mdX5_aboutPost 82 (v0 :: v1 :: v2 :: .ref x :: Ls) (st) h = ev L xs mdX5_aboutPost 83 (v0 :: v1 :: v2 :: .ref x :: Ls) (.ref x :: st) (h) := e_aload_n dX5_aboutPost_82 rfl
theorem iX5_aboutPost_83 {a : Nat} {Ls st : List Value} {h : AH} (hk : hK h a = 2) : ev L xs mdX5_aboutPost 83 (Ls) (.ref a :: st) h = ev L xs mdX5_aboutPost 86 (Ls) (.int (hI h 36 a) :: st) (h) := e_getI (k := 2) (f := 4) (F := 36) dX5_aboutPost_83 (by decide +kernel) rfl rfl hk
theorem iX5_aboutPost_86 {v : Int32} {Ls : List Value} {h : AH} : ev L xs mdX5_aboutPost 86 Ls [.int v] h = some (.inl (some (.int v), h)) := e_iret dX5_aboutPost_86 rfl
theorem iX5_aboutPost_87 {v0 : Value} {v1 : Value} {v2 : Value} {x : Nat} {Ls st : List Value} {h : AH} : ev L xs mdX5_aboutPost 87 (v0 :: v1 :: v2 :: .ref x :: Ls) (st) h = ev L xs mdX5_aboutPost 88 (v0 :: v1 :: v2 :: .ref x :: Ls) (.ref x :: st) (h) := e_aload_n dX5_aboutPost_87 rfl
theorem iX5_aboutPost_88 {x : Nat} {Ls st : List Value} {h : AH} : ev L xs mdX5_aboutPost 88 (.ref x :: Ls) (st) h = ev L xs mdX5_aboutPost 89 (.ref x :: Ls) (.ref x :: st) (h) := e_aload_n dX5_aboutPost_88 rfl
theorem iX5_aboutPost_89 {a : Nat} {Ls st : List Value} {h : AH} (hk : hK h a = 5) : ev L xs mdX5_aboutPost 89 (Ls) (.ref a :: st) h = ev L xs mdX5_aboutPost 92 (Ls) (.int (hI h 87 a) :: st) (h) := e_getI (k := 5) (f := 7) (F := 87) dX5_aboutPost_89 (by decide +kernel) rfl rfl hk
theorem iX5_aboutPost_92 {a : Nat} {p0 : Int32} {Ls st : List Value} {h : AH} (hk : hK h a = 2) (hw : wds st ≤ 8) : ev L xs mdX5_aboutPost 92 Ls (.int p0 :: .ref a :: st) h = kn L xs mdX5_aboutPost 92 95 Ls st (ev L xs mdX2_hasPriority 0 [.ref a, .int p0] [] h) := e_callV (as := [.int p0]) dX5_aboutPost_92 mr_5_157 (by decide) (by decide) rfl (by simp [wds, Value.category]; decide) rfl (by decide) hk hw
theorem iX5_aboutPost_95 {x : Int32} {Ls st : List Value} {h : AH} : ev L xs mdX5_aboutPost 95 Ls (.int x :: st) h = if x = nI 0 then ev L xs mdX5_aboutPost 102 Ls st h else ev L xs mdX5_aboutPost 98 Ls st h := e_if_eq dX5_aboutPost_95 (by decide)
theorem iX5_aboutPost_98  {Ls st : List Value} {h : AH} : ev L xs mdX5_aboutPost 98 (Ls) (st) h = ev L xs mdX5_aboutPost 99 (Ls) (.int (nI 1) :: st) (h) := e_iconst dX5_aboutPost_98 (by decide)
theorem iX5_aboutPost_99  {Ls st : List Value} {h : AH} : ev L xs mdX5_aboutPost 99 (Ls) (st) h = ev L xs mdX5_aboutPost 103 (Ls) (st) (h) := e_goto dX5_aboutPost_99 (by decide)
theorem iX5_aboutPost_102  {Ls st : List Value} {h : AH} : ev L xs mdX5_aboutPost 102 (Ls) (st) h = ev L xs mdX5_aboutPost 103 (Ls) (.int (nI 0) :: st) (h) := e_iconst dX5_aboutPost_102 (by decide)
theorem iX5_aboutPost_103 {v : Int32} {Ls : List Value} {h : AH} : ev L xs mdX5_aboutPost 103 Ls [.int v] h = some (.inl (some (.int v), h)) := e_iret dX5_aboutPost_103 rfl
theorem iX5_aboutPost_104 {v0 : Value} {v1 : Value} {v2 : Value} {x : Nat} {Ls st : List Value} {h : AH} : ev L xs mdX5_aboutPost 104 (v0 :: v1 :: v2 :: .ref x :: Ls) (st) h = ev L xs mdX5_aboutPost 105 (v0 :: v1 :: v2 :: .ref x :: Ls) (.ref x :: st) (h) := e_aload_n dX5_aboutPost_104 rfl
theorem iX5_aboutPost_105 {a : Nat} {Ls st : List Value} {h : AH} (hk : hK h a = 2) : ev L xs mdX5_aboutPost 105 (Ls) (.ref a :: st) h = ev L xs mdX5_aboutPost 108 (Ls) (.int (hI h 39 a) :: st) (h) := e_getI (k := 2) (f := 7) (F := 39) dX5_aboutPost_105 (by decide +kernel) rfl rfl hk
theorem iX5_aboutPost_108 {v : Int32} {Ls : List Value} {h : AH} : ev L xs mdX5_aboutPost 108 Ls [.int v] h = some (.inl (some (.int v), h)) := e_iret dX5_aboutPost_108 rfl
theorem iX5_aboutPost_109 {v0 : Value} {v1 : Value} {v2 : Value} {x : Nat} {Ls st : List Value} {h : AH} : ev L xs mdX5_aboutPost 109 (v0 :: v1 :: v2 :: .ref x :: Ls) (st) h = ev L xs mdX5_aboutPost 110 (v0 :: v1 :: v2 :: .ref x :: Ls) (.ref x :: st) (h) := e_aload_n dX5_aboutPost_109 rfl
theorem iX5_aboutPost_110 {a : Nat} {Ls st : List Value} {h : AH} (hk : hK h a = 2) : ev L xs mdX5_aboutPost 110 (Ls) (.ref a :: st) h = ev L xs mdX5_aboutPost 113 (Ls) (.int (hI h 40 a) :: st) (h) := e_getI (k := 2) (f := 8) (F := 40) dX5_aboutPost_110 (by decide +kernel) rfl rfl hk
theorem iX5_aboutPost_113 {v : Int32} {Ls : List Value} {h : AH} : ev L xs mdX5_aboutPost 113 Ls [.int v] h = some (.inl (some (.int v), h)) := e_iret dX5_aboutPost_113 rfl
theorem dX5_allowsComplaint_0 : decode cX5_allowsComplaint 0 = .ok (.aload_n 0, 1) := by decide +kernel
theorem dX5_allowsComplaint_1 : decode cX5_allowsComplaint 1 = .ok (.getfield 20, 3) := by decide +kernel
theorem dX5_allowsComplaint_4 : decode cX5_allowsComplaint 4 = .ok (.iload_n 1, 1) := by decide +kernel
theorem dX5_allowsComplaint_5 : decode cX5_allowsComplaint 5 = .ok (.aaload, 1) := by decide +kernel
theorem dX5_allowsComplaint_6 : decode cX5_allowsComplaint 6 = .ok (.aload_n 0, 1) := by decide +kernel
theorem dX5_allowsComplaint_7 : decode cX5_allowsComplaint 7 = .ok (.getfield 42, 3) := by decide +kernel
theorem dX5_allowsComplaint_10 : decode cX5_allowsComplaint 10 = .ok (.invokevirtual 85, 3) := by decide +kernel
theorem dX5_allowsComplaint_13 : decode cX5_allowsComplaint 13 = .ok (.ireturn, 1) := by decide +kernel
theorem iX5_allowsComplaint_0 {x : Nat} {Ls st : List Value} {h : AH} : ev L xs mdX5_allowsComplaint 0 (.ref x :: Ls) (st) h = ev L xs mdX5_allowsComplaint 1 (.ref x :: Ls) (.ref x :: st) (h) := e_aload_n dX5_allowsComplaint_0 rfl
theorem iX5_allowsComplaint_1 {a : Nat} {Ls st : List Value} {h : AH} (hk : hK h a = 5) (hj : (hR h 83 a).isSome = true) : ev L xs mdX5_allowsComplaint 1 (Ls) (.ref a :: st) h = ev L xs mdX5_allowsComplaint 4 (Ls) (.ref ((hR h 83 a).getD 0) :: st) (h) := e_getR (k := 5) (f := 3) (F := 83) dX5_allowsComplaint_1 (by decide +kernel) rfl rfl hk hj
theorem iX5_allowsComplaint_4 {v0 : Value} {x : Int32} {Ls st : List Value} {h : AH} : ev L xs mdX5_allowsComplaint 4 (v0 :: .int x :: Ls) (st) h = ev L xs mdX5_allowsComplaint 5 (v0 :: .int x :: Ls) (.int x :: st) (h) := e_iload_n dX5_allowsComplaint_4 rfl
theorem iX5_allowsComplaint_5 {a : Nat} {j : Int32} {Ls st : List Value} {h : AH} (hk : hK h a = 9 ∨ hK h a = 10 ∨ hK h a = 11) (hi : inA j (hN h a) = true) (hq : (hQ h a j.toNatClampNeg).isSome = true) : ev L xs mdX5_allowsComplaint 5 (Ls) (.int j :: .ref a :: st) h = ev L xs mdX5_allowsComplaint 6 (Ls) (.ref ((hQ h a j.toNatClampNeg).getD 0) :: st) (h) := e_aald dX5_allowsComplaint_5 hk hi hq
theorem iX5_allowsComplaint_6 {x : Nat} {Ls st : List Value} {h : AH} : ev L xs mdX5_allowsComplaint 6 (.ref x :: Ls) (st) h = ev L xs mdX5_allowsComplaint 7 (.ref x :: Ls) (.ref x :: st) (h) := e_aload_n dX5_allowsComplaint_6 rfl
theorem iX5_allowsComplaint_7 {a : Nat} {Ls st : List Value} {h : AH} (hk : hK h a = 5) : ev L xs mdX5_allowsComplaint 7 (Ls) (.ref a :: st) h = ev L xs mdX5_allowsComplaint 10 (Ls) (.int (hI h 87 a) :: st) (h) := e_getI (k := 5) (f := 7) (F := 87) dX5_allowsComplaint_7 (by decide +kernel) rfl rfl hk
theorem iX5_allowsComplaint_10 {a : Nat} {p0 : Int32} {Ls st : List Value} {h : AH} (hk : hK h a = 2) (hw : wds st ≤ 8) : ev L xs mdX5_allowsComplaint 10 Ls (.int p0 :: .ref a :: st) h = kn L xs mdX5_allowsComplaint 10 13 Ls st (ev L xs mdX2_allowsComplaint 0 [.ref a, .int p0] [] h) := e_callV (as := [.int p0]) dX5_allowsComplaint_10 mr_5_85 (by decide) (by decide) rfl (by simp [wds, Value.category]; decide) rfl (by decide) hk hw
theorem iX5_allowsComplaint_13 {v : Int32} {Ls : List Value} {h : AH} (hv : v = nI 0 ∨ v = nI 1) : ev L xs mdX5_allowsComplaint 13 Ls [.int v] h = some (.inl (some (.int v), h)) := e_zret dX5_allowsComplaint_13 rfl hv
theorem dX5_allowsDays_0 : decode cX5_allowsDays 0 = .ok (.aload_n 0, 1) := by decide +kernel
theorem dX5_allowsDays_1 : decode cX5_allowsDays 1 = .ok (.invokevirtual 78, 3) := by decide +kernel
theorem dX5_allowsDays_4 : decode cX5_allowsDays 4 = .ok (.iload_n 1, 1) := by decide +kernel
theorem dX5_allowsDays_5 : decode cX5_allowsDays 5 = .ok (.iadd, 1) := by decide +kernel
theorem dX5_allowsDays_6 : decode cX5_allowsDays 6 = .ok (.iconst 1, 1) := by decide +kernel
theorem dX5_allowsDays_7 : decode cX5_allowsDays 7 = .ok (.isub, 1) := by decide +kernel
theorem dX5_allowsDays_8 : decode cX5_allowsDays 8 = .ok (.sipush 3000, 3) := by decide +kernel
theorem dX5_allowsDays_11 : decode cX5_allowsDays 11 = .ok (.if_icmp .gt 7, 3) := by decide +kernel
theorem dX5_allowsDays_14 : decode cX5_allowsDays 14 = .ok (.iconst 1, 1) := by decide +kernel
theorem dX5_allowsDays_15 : decode cX5_allowsDays 15 = .ok (.goto 4, 3) := by decide +kernel
theorem dX5_allowsDays_18 : decode cX5_allowsDays 18 = .ok (.iconst 0, 1) := by decide +kernel
theorem dX5_allowsDays_19 : decode cX5_allowsDays 19 = .ok (.ireturn, 1) := by decide +kernel
theorem iX5_allowsDays_0 {x : Nat} {Ls st : List Value} {h : AH} : ev L xs mdX5_allowsDays 0 (.ref x :: Ls) (st) h = ev L xs mdX5_allowsDays 1 (.ref x :: Ls) (.ref x :: st) (h) := e_aload_n dX5_allowsDays_0 rfl
theorem iX5_allowsDays_1 {a : Nat} {Ls st : List Value} {h : AH} (hk : hK h a = 5) (hw : wds st ≤ 8) : ev L xs mdX5_allowsDays 1 Ls (.ref a :: st) h = kn L xs mdX5_allowsDays 1 4 Ls st (ev L xs mdX5_nextDay 0 [.ref a] [] h) := e_callV (as := []) dX5_allowsDays_1 mr_5_78 (by decide) (by decide) rfl (by simp [wds, Value.category]; decide) rfl (by decide) hk hw
theorem iX5_allowsDays_4 {v0 : Value} {x : Int32} {Ls st : List Value} {h : AH} : ev L xs mdX5_allowsDays 4 (v0 :: .int x :: Ls) (st) h = ev L xs mdX5_allowsDays 5 (v0 :: .int x :: Ls) (.int x :: st) (h) := e_iload_n dX5_allowsDays_4 rfl
theorem iX5_allowsDays_5 {x z : Int32} {Ls st : List Value} {h : AH} : ev L xs mdX5_allowsDays 5 (Ls) (.int z :: .int x :: st) h = ev L xs mdX5_allowsDays 6 (Ls) (.int (x + z) :: st) (h) := e_iadd dX5_allowsDays_5
theorem iX5_allowsDays_6  {Ls st : List Value} {h : AH} : ev L xs mdX5_allowsDays 6 (Ls) (st) h = ev L xs mdX5_allowsDays 7 (Ls) (.int (nI 1) :: st) (h) := e_iconst dX5_allowsDays_6 (by decide)
theorem iX5_allowsDays_7 {x z : Int32} {Ls st : List Value} {h : AH} : ev L xs mdX5_allowsDays 7 (Ls) (.int z :: .int x :: st) h = ev L xs mdX5_allowsDays 8 (Ls) (.int (x - z) :: st) (h) := e_isub dX5_allowsDays_7
theorem iX5_allowsDays_8  {Ls st : List Value} {h : AH} : ev L xs mdX5_allowsDays 8 (Ls) (st) h = ev L xs mdX5_allowsDays 11 (Ls) (.int (nI 3000) :: st) (h) := e_sipush dX5_allowsDays_8 (by decide)
theorem iX5_allowsDays_11 {x z : Int32} {Ls st : List Value} {h : AH} : ev L xs mdX5_allowsDays 11 Ls (.int z :: .int x :: st) h = if z < x then ev L xs mdX5_allowsDays 18 Ls st h else ev L xs mdX5_allowsDays 14 Ls st h := e_ic_gt dX5_allowsDays_11 (by decide)
theorem iX5_allowsDays_14  {Ls st : List Value} {h : AH} : ev L xs mdX5_allowsDays 14 (Ls) (st) h = ev L xs mdX5_allowsDays 15 (Ls) (.int (nI 1) :: st) (h) := e_iconst dX5_allowsDays_14 (by decide)
theorem iX5_allowsDays_15  {Ls st : List Value} {h : AH} : ev L xs mdX5_allowsDays 15 (Ls) (st) h = ev L xs mdX5_allowsDays 19 (Ls) (st) (h) := e_goto dX5_allowsDays_15 (by decide)
theorem iX5_allowsDays_18  {Ls st : List Value} {h : AH} : ev L xs mdX5_allowsDays 18 (Ls) (st) h = ev L xs mdX5_allowsDays 19 (Ls) (.int (nI 0) :: st) (h) := e_iconst dX5_allowsDays_18 (by decide)
theorem iX5_allowsDays_19 {v : Int32} {Ls : List Value} {h : AH} (hv : v = nI 0 ∨ v = nI 1) : ev L xs mdX5_allowsDays 19 Ls [.int v] h = some (.inl (some (.int v), h)) := e_zret dX5_allowsDays_19 rfl hv
theorem dX5_complaints_0 : decode cX5_complaints 0 = .ok (.iconst 0, 1) := by decide +kernel
theorem dX5_complaints_1 : decode cX5_complaints 1 = .ok (.istore_n 1, 1) := by decide +kernel
theorem dX5_complaints_2 : decode cX5_complaints 2 = .ok (.iconst 0, 1) := by decide +kernel
theorem dX5_complaints_3 : decode cX5_complaints 3 = .ok (.istore_n 2, 1) := by decide +kernel
theorem dX5_complaints_4 : decode cX5_complaints 4 = .ok (.iload_n 2, 1) := by decide +kernel
theorem dX5_complaints_5 : decode cX5_complaints 5 = .ok (.aload_n 0, 1) := by decide +kernel
theorem dX5_complaints_6 : decode cX5_complaints 6 = .ok (.getfield 36, 3) := by decide +kernel
theorem dX5_complaints_9 : decode cX5_complaints 9 = .ok (.if_icmp .ge 21, 3) := by decide +kernel
theorem dX5_complaints_12 : decode cX5_complaints 12 = .ok (.iload_n 1, 1) := by decide +kernel
theorem dX5_complaints_13 : decode cX5_complaints 13 = .ok (.aload_n 0, 1) := by decide +kernel
theorem dX5_complaints_14 : decode cX5_complaints 14 = .ok (.getfield 20, 3) := by decide +kernel
theorem dX5_complaints_17 : decode cX5_complaints 17 = .ok (.iload_n 2, 1) := by decide +kernel
theorem dX5_complaints_18 : decode cX5_complaints 18 = .ok (.aaload, 1) := by decide +kernel
theorem dX5_complaints_19 : decode cX5_complaints 19 = .ok (.getfield 93, 3) := by decide +kernel
theorem dX5_complaints_22 : decode cX5_complaints 22 = .ok (.iadd, 1) := by decide +kernel
theorem dX5_complaints_23 : decode cX5_complaints 23 = .ok (.istore_n 1, 1) := by decide +kernel
theorem dX5_complaints_24 : decode cX5_complaints 24 = .ok (.iinc 2 1, 3) := by decide +kernel
theorem dX5_complaints_27 : decode cX5_complaints 27 = .ok (.goto (-23), 3) := by decide +kernel
theorem dX5_complaints_30 : decode cX5_complaints 30 = .ok (.iload_n 1, 1) := by decide +kernel
theorem dX5_complaints_31 : decode cX5_complaints 31 = .ok (.ireturn, 1) := by decide +kernel
theorem iX5_complaints_0  {Ls st : List Value} {h : AH} : ev L xs mdX5_complaints 0 (Ls) (st) h = ev L xs mdX5_complaints 1 (Ls) (.int (nI 0) :: st) (h) := e_iconst dX5_complaints_0 (by decide)
theorem iX5_complaints_1 {v0 : Value} {v1 : Value} {x : Int32} {Ls st : List Value} {h : AH} (hc9 : v0.category = 1) : ev L xs mdX5_complaints 1 (v0 :: v1 :: Ls) (.int x :: st) h = ev L xs mdX5_complaints 2 (v0 :: .int x :: Ls) (st) (h) := e_istore_n dX5_complaints_1 rfl (by decide) (by unfold catOK; show (_ || (v0.category == 1)) = true; rw [hc9]; rfl)
theorem iX5_complaints_2  {Ls st : List Value} {h : AH} : ev L xs mdX5_complaints 2 (Ls) (st) h = ev L xs mdX5_complaints 3 (Ls) (.int (nI 0) :: st) (h) := e_iconst dX5_complaints_2 (by decide)
theorem iX5_complaints_3 {v0 : Value} {v1 : Value} {v2 : Value} {x : Int32} {Ls st : List Value} {h : AH} (hc9 : v1.category = 1) : ev L xs mdX5_complaints 3 (v0 :: v1 :: v2 :: Ls) (.int x :: st) h = ev L xs mdX5_complaints 4 (v0 :: v1 :: .int x :: Ls) (st) (h) := e_istore_n dX5_complaints_3 rfl (by decide) (by unfold catOK; show (_ || (v1.category == 1)) = true; rw [hc9]; rfl)
theorem iX5_complaints_4 {v0 : Value} {v1 : Value} {x : Int32} {Ls st : List Value} {h : AH} : ev L xs mdX5_complaints 4 (v0 :: v1 :: .int x :: Ls) (st) h = ev L xs mdX5_complaints 5 (v0 :: v1 :: .int x :: Ls) (.int x :: st) (h) := e_iload_n dX5_complaints_4 rfl
theorem iX5_complaints_5 {x : Nat} {Ls st : List Value} {h : AH} : ev L xs mdX5_complaints 5 (.ref x :: Ls) (st) h = ev L xs mdX5_complaints 6 (.ref x :: Ls) (.ref x :: st) (h) := e_aload_n dX5_complaints_5 rfl
theorem iX5_complaints_6 {a : Nat} {Ls st : List Value} {h : AH} (hk : hK h a = 5) : ev L xs mdX5_complaints 6 (Ls) (.ref a :: st) h = ev L xs mdX5_complaints 9 (Ls) (.int (hI h 84 a) :: st) (h) := e_getI (k := 5) (f := 4) (F := 84) dX5_complaints_6 (by decide +kernel) rfl rfl hk
theorem iX5_complaints_9 {x z : Int32} {Ls st : List Value} {h : AH} : ev L xs mdX5_complaints 9 Ls (.int z :: .int x :: st) h = if z ≤ x then ev L xs mdX5_complaints 30 Ls st h else ev L xs mdX5_complaints 12 Ls st h := e_ic_ge dX5_complaints_9 (by decide)
theorem iX5_complaints_12 {v0 : Value} {x : Int32} {Ls st : List Value} {h : AH} : ev L xs mdX5_complaints 12 (v0 :: .int x :: Ls) (st) h = ev L xs mdX5_complaints 13 (v0 :: .int x :: Ls) (.int x :: st) (h) := e_iload_n dX5_complaints_12 rfl
theorem iX5_complaints_13 {x : Nat} {Ls st : List Value} {h : AH} : ev L xs mdX5_complaints 13 (.ref x :: Ls) (st) h = ev L xs mdX5_complaints 14 (.ref x :: Ls) (.ref x :: st) (h) := e_aload_n dX5_complaints_13 rfl
theorem iX5_complaints_14 {a : Nat} {Ls st : List Value} {h : AH} (hk : hK h a = 5) (hj : (hR h 83 a).isSome = true) : ev L xs mdX5_complaints 14 (Ls) (.ref a :: st) h = ev L xs mdX5_complaints 17 (Ls) (.ref ((hR h 83 a).getD 0) :: st) (h) := e_getR (k := 5) (f := 3) (F := 83) dX5_complaints_14 (by decide +kernel) rfl rfl hk hj
theorem iX5_complaints_17 {v0 : Value} {v1 : Value} {x : Int32} {Ls st : List Value} {h : AH} : ev L xs mdX5_complaints 17 (v0 :: v1 :: .int x :: Ls) (st) h = ev L xs mdX5_complaints 18 (v0 :: v1 :: .int x :: Ls) (.int x :: st) (h) := e_iload_n dX5_complaints_17 rfl
theorem iX5_complaints_18 {a : Nat} {j : Int32} {Ls st : List Value} {h : AH} (hk : hK h a = 9 ∨ hK h a = 10 ∨ hK h a = 11) (hi : inA j (hN h a) = true) (hq : (hQ h a j.toNatClampNeg).isSome = true) : ev L xs mdX5_complaints 18 (Ls) (.int j :: .ref a :: st) h = ev L xs mdX5_complaints 19 (Ls) (.ref ((hQ h a j.toNatClampNeg).getD 0) :: st) (h) := e_aald dX5_complaints_18 hk hi hq
theorem iX5_complaints_19 {a : Nat} {Ls st : List Value} {h : AH} (hk : hK h a = 2) : ev L xs mdX5_complaints 19 (Ls) (.ref a :: st) h = ev L xs mdX5_complaints 22 (Ls) (.int (hI h 35 a) :: st) (h) := e_getI (k := 2) (f := 3) (F := 35) dX5_complaints_19 (by decide +kernel) rfl rfl hk
theorem iX5_complaints_22 {x z : Int32} {Ls st : List Value} {h : AH} : ev L xs mdX5_complaints 22 (Ls) (.int z :: .int x :: st) h = ev L xs mdX5_complaints 23 (Ls) (.int (x + z) :: st) (h) := e_iadd dX5_complaints_22
theorem iX5_complaints_23 {v0 : Value} {v1 : Value} {x : Int32} {Ls st : List Value} {h : AH} (hc9 : v0.category = 1) : ev L xs mdX5_complaints 23 (v0 :: v1 :: Ls) (.int x :: st) h = ev L xs mdX5_complaints 24 (v0 :: .int x :: Ls) (st) (h) := e_istore_n dX5_complaints_23 rfl (by decide) (by unfold catOK; show (_ || (v0.category == 1)) = true; rw [hc9]; rfl)
theorem iX5_complaints_24 {v0 : Value} {v1 : Value} {x : Int32} {Ls st : List Value} {h : AH} (hc9 : v1.category = 1) : ev L xs mdX5_complaints 24 (v0 :: v1 :: .int x :: Ls) (st) h = ev L xs mdX5_complaints 27 (v0 :: v1 :: .int (x + (nI 1)) :: Ls) (st) (h) := e_iinc dX5_complaints_24 rfl rfl rfl (by decide) (by unfold catOK; show (_ || (v1.category == 1)) = true; rw [hc9]; rfl)
theorem iX5_complaints_27  {Ls st : List Value} {h : AH} : ev L xs mdX5_complaints 27 (Ls) (st) h = ev L xs mdX5_complaints 4 (Ls) (st) (h) := e_goto dX5_complaints_27 (by decide)
theorem iX5_complaints_30 {v0 : Value} {x : Int32} {Ls st : List Value} {h : AH} : ev L xs mdX5_complaints 30 (v0 :: .int x :: Ls) (st) h = ev L xs mdX5_complaints 31 (v0 :: .int x :: Ls) (.int x :: st) (h) := e_iload_n dX5_complaints_30 rfl
theorem iX5_complaints_31 {v : Int32} {Ls : List Value} {h : AH} : ev L xs mdX5_complaints 31 Ls [.int v] h = some (.inl (some (.int v), h)) := e_iret dX5_complaints_31 rfl
theorem dX5_copyFrom_0 : decode cX5_copyFrom 0 = .ok (.aload_n 0, 1) := by decide +kernel
theorem dX5_copyFrom_1 : decode cX5_copyFrom 1 = .ok (.aload_n 1, 1) := by decide +kernel
theorem dX5_copyFrom_2 : decode cX5_copyFrom 2 = .ok (.getfield 32, 3) := by decide +kernel
theorem dX5_copyFrom_5 : decode cX5_copyFrom 5 = .ok (.putfield 32, 3) := by decide +kernel
theorem dX5_copyFrom_8 : decode cX5_copyFrom 8 = .ok (.aload_n 0, 1) := by decide +kernel
theorem dX5_copyFrom_9 : decode cX5_copyFrom 9 = .ok (.aload_n 1, 1) := by decide +kernel
theorem dX5_copyFrom_10 : decode cX5_copyFrom 10 = .ok (.getfield 36, 3) := by decide +kernel
theorem dX5_copyFrom_13 : decode cX5_copyFrom 13 = .ok (.putfield 36, 3) := by decide +kernel
theorem dX5_copyFrom_16 : decode cX5_copyFrom 16 = .ok (.aload_n 0, 1) := by decide +kernel
theorem dX5_copyFrom_17 : decode cX5_copyFrom 17 = .ok (.aload_n 1, 1) := by decide +kernel
theorem dX5_copyFrom_18 : decode cX5_copyFrom 18 = .ok (.getfield 39, 3) := by decide +kernel
theorem dX5_copyFrom_21 : decode cX5_copyFrom 21 = .ok (.putfield 39, 3) := by decide +kernel
theorem dX5_copyFrom_24 : decode cX5_copyFrom 24 = .ok (.aload_n 0, 1) := by decide +kernel
theorem dX5_copyFrom_25 : decode cX5_copyFrom 25 = .ok (.aload_n 1, 1) := by decide +kernel
theorem dX5_copyFrom_26 : decode cX5_copyFrom 26 = .ok (.getfield 42, 3) := by decide +kernel
theorem dX5_copyFrom_29 : decode cX5_copyFrom 29 = .ok (.putfield 42, 3) := by decide +kernel
theorem dX5_copyFrom_32 : decode cX5_copyFrom 32 = .ok (.aload_n 0, 1) := by decide +kernel
theorem dX5_copyFrom_33 : decode cX5_copyFrom 33 = .ok (.aload_n 1, 1) := by decide +kernel
theorem dX5_copyFrom_34 : decode cX5_copyFrom 34 = .ok (.getfield 45, 3) := by decide +kernel
theorem dX5_copyFrom_37 : decode cX5_copyFrom 37 = .ok (.putfield 45, 3) := by decide +kernel
theorem dX5_copyFrom_40 : decode cX5_copyFrom 40 = .ok (.aload_n 0, 1) := by decide +kernel
theorem dX5_copyFrom_41 : decode cX5_copyFrom 41 = .ok (.aload_n 1, 1) := by decide +kernel
theorem dX5_copyFrom_42 : decode cX5_copyFrom 42 = .ok (.getfield 48, 3) := by decide +kernel
theorem dX5_copyFrom_45 : decode cX5_copyFrom 45 = .ok (.putfield 48, 3) := by decide +kernel
theorem dX5_copyFrom_48 : decode cX5_copyFrom 48 = .ok (.aload_n 1, 1) := by decide +kernel
theorem dX5_copyFrom_49 : decode cX5_copyFrom 49 = .ok (.getfield 9, 3) := by decide +kernel
theorem dX5_copyFrom_52 : decode cX5_copyFrom 52 = .ok (.iconst 0, 1) := by decide +kernel
theorem dX5_copyFrom_53 : decode cX5_copyFrom 53 = .ok (.aload_n 0, 1) := by decide +kernel
theorem dX5_copyFrom_54 : decode cX5_copyFrom 54 = .ok (.getfield 9, 3) := by decide +kernel
theorem dX5_copyFrom_57 : decode cX5_copyFrom 57 = .ok (.iconst 0, 1) := by decide +kernel
theorem dX5_copyFrom_58 : decode cX5_copyFrom 58 = .ok (.bipush 6, 2) := by decide +kernel
theorem dX5_copyFrom_60 : decode cX5_copyFrom 60 = .ok (.invokestatic 51, 3) := by decide +kernel
theorem dX5_copyFrom_63 : decode cX5_copyFrom 63 = .ok (.aload_n 1, 1) := by decide +kernel
theorem dX5_copyFrom_64 : decode cX5_copyFrom 64 = .ok (.getfield 15, 3) := by decide +kernel
theorem dX5_copyFrom_67 : decode cX5_copyFrom 67 = .ok (.iconst 0, 1) := by decide +kernel
theorem dX5_copyFrom_68 : decode cX5_copyFrom 68 = .ok (.aload_n 0, 1) := by decide +kernel
theorem dX5_copyFrom_69 : decode cX5_copyFrom 69 = .ok (.getfield 15, 3) := by decide +kernel
theorem dX5_copyFrom_72 : decode cX5_copyFrom 72 = .ok (.iconst 0, 1) := by decide +kernel
theorem dX5_copyFrom_73 : decode cX5_copyFrom 73 = .ok (.bipush 6, 2) := by decide +kernel
theorem dX5_copyFrom_75 : decode cX5_copyFrom 75 = .ok (.invokestatic 51, 3) := by decide +kernel
theorem dX5_copyFrom_78 : decode cX5_copyFrom 78 = .ok (.iconst 0, 1) := by decide +kernel
theorem dX5_copyFrom_79 : decode cX5_copyFrom 79 = .ok (.istore_n 2, 1) := by decide +kernel
theorem dX5_copyFrom_80 : decode cX5_copyFrom 80 = .ok (.iload_n 2, 1) := by decide +kernel
theorem dX5_copyFrom_81 : decode cX5_copyFrom 81 = .ok (.aload_n 0, 1) := by decide +kernel
theorem dX5_copyFrom_82 : decode cX5_copyFrom 82 = .ok (.getfield 36, 3) := by decide +kernel
theorem dX5_copyFrom_85 : decode cX5_copyFrom 85 = .ok (.if_icmp .ge 24, 3) := by decide +kernel
theorem dX5_copyFrom_88 : decode cX5_copyFrom 88 = .ok (.aload_n 0, 1) := by decide +kernel
theorem dX5_copyFrom_89 : decode cX5_copyFrom 89 = .ok (.getfield 20, 3) := by decide +kernel
theorem dX5_copyFrom_92 : decode cX5_copyFrom 92 = .ok (.iload_n 2, 1) := by decide +kernel
theorem dX5_copyFrom_93 : decode cX5_copyFrom 93 = .ok (.aaload, 1) := by decide +kernel
theorem dX5_copyFrom_94 : decode cX5_copyFrom 94 = .ok (.aload_n 1, 1) := by decide +kernel
theorem dX5_copyFrom_95 : decode cX5_copyFrom 95 = .ok (.getfield 20, 3) := by decide +kernel
theorem dX5_copyFrom_98 : decode cX5_copyFrom 98 = .ok (.iload_n 2, 1) := by decide +kernel
theorem dX5_copyFrom_99 : decode cX5_copyFrom 99 = .ok (.aaload, 1) := by decide +kernel
theorem dX5_copyFrom_100 : decode cX5_copyFrom 100 = .ok (.invokevirtual 57, 3) := by decide +kernel
theorem dX5_copyFrom_103 : decode cX5_copyFrom 103 = .ok (.iinc 2 1, 3) := by decide +kernel
theorem dX5_copyFrom_106 : decode cX5_copyFrom 106 = .ok (.goto (-26), 3) := by decide +kernel
theorem dX5_copyFrom_109 : decode cX5_copyFrom 109 = .ok (.iconst 0, 1) := by decide +kernel
theorem dX5_copyFrom_110 : decode cX5_copyFrom 110 = .ok (.istore_n 2, 1) := by decide +kernel
theorem dX5_copyFrom_111 : decode cX5_copyFrom 111 = .ok (.iload_n 2, 1) := by decide +kernel
theorem dX5_copyFrom_112 : decode cX5_copyFrom 112 = .ok (.aload_n 0, 1) := by decide +kernel
theorem dX5_copyFrom_113 : decode cX5_copyFrom 113 = .ok (.getfield 39, 3) := by decide +kernel
theorem dX5_copyFrom_116 : decode cX5_copyFrom 116 = .ok (.if_icmp .ge 24, 3) := by decide +kernel
theorem dX5_copyFrom_119 : decode cX5_copyFrom 119 = .ok (.aload_n 0, 1) := by decide +kernel
theorem dX5_copyFrom_120 : decode cX5_copyFrom 120 = .ok (.getfield 26, 3) := by decide +kernel
theorem dX5_copyFrom_123 : decode cX5_copyFrom 123 = .ok (.iload_n 2, 1) := by decide +kernel
theorem dX5_copyFrom_124 : decode cX5_copyFrom 124 = .ok (.aaload, 1) := by decide +kernel
theorem dX5_copyFrom_125 : decode cX5_copyFrom 125 = .ok (.aload_n 1, 1) := by decide +kernel
theorem dX5_copyFrom_126 : decode cX5_copyFrom 126 = .ok (.getfield 26, 3) := by decide +kernel
theorem dX5_copyFrom_129 : decode cX5_copyFrom 129 = .ok (.iload_n 2, 1) := by decide +kernel
theorem dX5_copyFrom_130 : decode cX5_copyFrom 130 = .ok (.aaload, 1) := by decide +kernel
theorem dX5_copyFrom_131 : decode cX5_copyFrom 131 = .ok (.invokevirtual 61, 3) := by decide +kernel
theorem dX5_copyFrom_134 : decode cX5_copyFrom 134 = .ok (.iinc 2 1, 3) := by decide +kernel
theorem dX5_copyFrom_137 : decode cX5_copyFrom 137 = .ok (.goto (-26), 3) := by decide +kernel
theorem dX5_copyFrom_140 : decode cX5_copyFrom 140 = .ok (.return_, 1) := by decide +kernel
theorem iX5_copyFrom_0 {x : Nat} {Ls st : List Value} {h : AH} : ev L xs mdX5_copyFrom 0 (.ref x :: Ls) (st) h = ev L xs mdX5_copyFrom 1 (.ref x :: Ls) (.ref x :: st) (h) := e_aload_n dX5_copyFrom_0 rfl
theorem iX5_copyFrom_1 {v0 : Value} {x : Nat} {Ls st : List Value} {h : AH} : ev L xs mdX5_copyFrom 1 (v0 :: .ref x :: Ls) (st) h = ev L xs mdX5_copyFrom 2 (v0 :: .ref x :: Ls) (.ref x :: st) (h) := e_aload_n dX5_copyFrom_1 rfl
theorem iX5_copyFrom_2 {a : Nat} {Ls st : List Value} {h : AH} (hk : hK h a = 5) : ev L xs mdX5_copyFrom 2 (Ls) (.ref a :: st) h = ev L xs mdX5_copyFrom 5 (Ls) (.int (hI h 82 a) :: st) (h) := e_getI (k := 5) (f := 2) (F := 82) dX5_copyFrom_2 (by decide +kernel) rfl rfl hk
theorem iX5_copyFrom_5 {a : Nat} {v : Int32} {Ls st : List Value} {h : AH} (hk : hK h a = 5) : ev L xs mdX5_copyFrom 5 (Ls) (.int v :: .ref a :: st) h = ev L xs mdX5_copyFrom 8 (Ls) (st) (sI h 82 a v) := e_putI (k := 5) (f := 2) (F := 82) dX5_copyFrom_5 (by decide +kernel) rfl (by decide +kernel) rfl hk
theorem iX5_copyFrom_8 {x : Nat} {Ls st : List Value} {h : AH} : ev L xs mdX5_copyFrom 8 (.ref x :: Ls) (st) h = ev L xs mdX5_copyFrom 9 (.ref x :: Ls) (.ref x :: st) (h) := e_aload_n dX5_copyFrom_8 rfl
theorem iX5_copyFrom_9 {v0 : Value} {x : Nat} {Ls st : List Value} {h : AH} : ev L xs mdX5_copyFrom 9 (v0 :: .ref x :: Ls) (st) h = ev L xs mdX5_copyFrom 10 (v0 :: .ref x :: Ls) (.ref x :: st) (h) := e_aload_n dX5_copyFrom_9 rfl
theorem iX5_copyFrom_10 {a : Nat} {Ls st : List Value} {h : AH} (hk : hK h a = 5) : ev L xs mdX5_copyFrom 10 (Ls) (.ref a :: st) h = ev L xs mdX5_copyFrom 13 (Ls) (.int (hI h 84 a) :: st) (h) := e_getI (k := 5) (f := 4) (F := 84) dX5_copyFrom_10 (by decide +kernel) rfl rfl hk
theorem iX5_copyFrom_13 {a : Nat} {v : Int32} {Ls st : List Value} {h : AH} (hk : hK h a = 5) : ev L xs mdX5_copyFrom 13 (Ls) (.int v :: .ref a :: st) h = ev L xs mdX5_copyFrom 16 (Ls) (st) (sI h 84 a v) := e_putI (k := 5) (f := 4) (F := 84) dX5_copyFrom_13 (by decide +kernel) rfl (by decide +kernel) rfl hk
theorem iX5_copyFrom_16 {x : Nat} {Ls st : List Value} {h : AH} : ev L xs mdX5_copyFrom 16 (.ref x :: Ls) (st) h = ev L xs mdX5_copyFrom 17 (.ref x :: Ls) (.ref x :: st) (h) := e_aload_n dX5_copyFrom_16 rfl
theorem iX5_copyFrom_17 {v0 : Value} {x : Nat} {Ls st : List Value} {h : AH} : ev L xs mdX5_copyFrom 17 (v0 :: .ref x :: Ls) (st) h = ev L xs mdX5_copyFrom 18 (v0 :: .ref x :: Ls) (.ref x :: st) (h) := e_aload_n dX5_copyFrom_17 rfl
theorem iX5_copyFrom_18 {a : Nat} {Ls st : List Value} {h : AH} (hk : hK h a = 5) : ev L xs mdX5_copyFrom 18 (Ls) (.ref a :: st) h = ev L xs mdX5_copyFrom 21 (Ls) (.int (hI h 86 a) :: st) (h) := e_getI (k := 5) (f := 6) (F := 86) dX5_copyFrom_18 (by decide +kernel) rfl rfl hk
theorem iX5_copyFrom_21 {a : Nat} {v : Int32} {Ls st : List Value} {h : AH} (hk : hK h a = 5) : ev L xs mdX5_copyFrom 21 (Ls) (.int v :: .ref a :: st) h = ev L xs mdX5_copyFrom 24 (Ls) (st) (sI h 86 a v) := e_putI (k := 5) (f := 6) (F := 86) dX5_copyFrom_21 (by decide +kernel) rfl (by decide +kernel) rfl hk
theorem iX5_copyFrom_24 {x : Nat} {Ls st : List Value} {h : AH} : ev L xs mdX5_copyFrom 24 (.ref x :: Ls) (st) h = ev L xs mdX5_copyFrom 25 (.ref x :: Ls) (.ref x :: st) (h) := e_aload_n dX5_copyFrom_24 rfl
theorem iX5_copyFrom_25 {v0 : Value} {x : Nat} {Ls st : List Value} {h : AH} : ev L xs mdX5_copyFrom 25 (v0 :: .ref x :: Ls) (st) h = ev L xs mdX5_copyFrom 26 (v0 :: .ref x :: Ls) (.ref x :: st) (h) := e_aload_n dX5_copyFrom_25 rfl
theorem iX5_copyFrom_26 {a : Nat} {Ls st : List Value} {h : AH} (hk : hK h a = 5) : ev L xs mdX5_copyFrom 26 (Ls) (.ref a :: st) h = ev L xs mdX5_copyFrom 29 (Ls) (.int (hI h 87 a) :: st) (h) := e_getI (k := 5) (f := 7) (F := 87) dX5_copyFrom_26 (by decide +kernel) rfl rfl hk
theorem iX5_copyFrom_29 {a : Nat} {v : Int32} {Ls st : List Value} {h : AH} (hk : hK h a = 5) : ev L xs mdX5_copyFrom 29 (Ls) (.int v :: .ref a :: st) h = ev L xs mdX5_copyFrom 32 (Ls) (st) (sI h 87 a v) := e_putI (k := 5) (f := 7) (F := 87) dX5_copyFrom_29 (by decide +kernel) rfl (by decide +kernel) rfl hk
theorem iX5_copyFrom_32 {x : Nat} {Ls st : List Value} {h : AH} : ev L xs mdX5_copyFrom 32 (.ref x :: Ls) (st) h = ev L xs mdX5_copyFrom 33 (.ref x :: Ls) (.ref x :: st) (h) := e_aload_n dX5_copyFrom_32 rfl
theorem iX5_copyFrom_33 {v0 : Value} {x : Nat} {Ls st : List Value} {h : AH} : ev L xs mdX5_copyFrom 33 (v0 :: .ref x :: Ls) (st) h = ev L xs mdX5_copyFrom 34 (v0 :: .ref x :: Ls) (.ref x :: st) (h) := e_aload_n dX5_copyFrom_33 rfl
theorem iX5_copyFrom_34 {a : Nat} {Ls st : List Value} {h : AH} (hk : hK h a = 5) : ev L xs mdX5_copyFrom 34 (Ls) (.ref a :: st) h = ev L xs mdX5_copyFrom 37 (Ls) (.int (hI h 88 a) :: st) (h) := e_getI (k := 5) (f := 8) (F := 88) dX5_copyFrom_34 (by decide +kernel) rfl rfl hk
theorem iX5_copyFrom_37 {a : Nat} {v : Int32} {Ls st : List Value} {h : AH} (hk : hK h a = 5) : ev L xs mdX5_copyFrom 37 (Ls) (.int v :: .ref a :: st) h = ev L xs mdX5_copyFrom 40 (Ls) (st) (sI h 88 a v) := e_putI (k := 5) (f := 8) (F := 88) dX5_copyFrom_37 (by decide +kernel) rfl (by decide +kernel) rfl hk
theorem iX5_copyFrom_40 {x : Nat} {Ls st : List Value} {h : AH} : ev L xs mdX5_copyFrom 40 (.ref x :: Ls) (st) h = ev L xs mdX5_copyFrom 41 (.ref x :: Ls) (.ref x :: st) (h) := e_aload_n dX5_copyFrom_40 rfl
theorem iX5_copyFrom_41 {v0 : Value} {x : Nat} {Ls st : List Value} {h : AH} : ev L xs mdX5_copyFrom 41 (v0 :: .ref x :: Ls) (st) h = ev L xs mdX5_copyFrom 42 (v0 :: .ref x :: Ls) (.ref x :: st) (h) := e_aload_n dX5_copyFrom_41 rfl
theorem iX5_copyFrom_42 {a : Nat} {Ls st : List Value} {h : AH} (hk : hK h a = 5) : ev L xs mdX5_copyFrom 42 (Ls) (.ref a :: st) h = ev L xs mdX5_copyFrom 45 (Ls) (.int (hI h 89 a) :: st) (h) := e_getI (k := 5) (f := 9) (F := 89) dX5_copyFrom_42 (by decide +kernel) rfl rfl hk
theorem iX5_copyFrom_45 {a : Nat} {v : Int32} {Ls st : List Value} {h : AH} (hk : hK h a = 5) : ev L xs mdX5_copyFrom 45 (Ls) (.int v :: .ref a :: st) h = ev L xs mdX5_copyFrom 48 (Ls) (st) (sI h 89 a v) := e_putI (k := 5) (f := 9) (F := 89) dX5_copyFrom_45 (by decide +kernel) rfl (by decide +kernel) rfl hk
theorem iX5_copyFrom_48 {v0 : Value} {x : Nat} {Ls st : List Value} {h : AH} : ev L xs mdX5_copyFrom 48 (v0 :: .ref x :: Ls) (st) h = ev L xs mdX5_copyFrom 49 (v0 :: .ref x :: Ls) (.ref x :: st) (h) := e_aload_n dX5_copyFrom_48 rfl
theorem iX5_copyFrom_49 {a : Nat} {Ls st : List Value} {h : AH} (hk : hK h a = 5) (hj : (hR h 80 a).isSome = true) : ev L xs mdX5_copyFrom 49 (Ls) (.ref a :: st) h = ev L xs mdX5_copyFrom 52 (Ls) (.ref ((hR h 80 a).getD 0) :: st) (h) := e_getR (k := 5) (f := 0) (F := 80) dX5_copyFrom_49 (by decide +kernel) rfl rfl hk hj
theorem iX5_copyFrom_52  {Ls st : List Value} {h : AH} : ev L xs mdX5_copyFrom 52 (Ls) (st) h = ev L xs mdX5_copyFrom 53 (Ls) (.int (nI 0) :: st) (h) := e_iconst dX5_copyFrom_52 (by decide)
theorem iX5_copyFrom_53 {x : Nat} {Ls st : List Value} {h : AH} : ev L xs mdX5_copyFrom 53 (.ref x :: Ls) (st) h = ev L xs mdX5_copyFrom 54 (.ref x :: Ls) (.ref x :: st) (h) := e_aload_n dX5_copyFrom_53 rfl
theorem iX5_copyFrom_54 {a : Nat} {Ls st : List Value} {h : AH} (hk : hK h a = 5) (hj : (hR h 80 a).isSome = true) : ev L xs mdX5_copyFrom 54 (Ls) (.ref a :: st) h = ev L xs mdX5_copyFrom 57 (Ls) (.ref ((hR h 80 a).getD 0) :: st) (h) := e_getR (k := 5) (f := 0) (F := 80) dX5_copyFrom_54 (by decide +kernel) rfl rfl hk hj
theorem iX5_copyFrom_57  {Ls st : List Value} {h : AH} : ev L xs mdX5_copyFrom 57 (Ls) (st) h = ev L xs mdX5_copyFrom 58 (Ls) (.int (nI 0) :: st) (h) := e_iconst dX5_copyFrom_57 (by decide)
theorem iX5_copyFrom_58  {Ls st : List Value} {h : AH} : ev L xs mdX5_copyFrom 58 (Ls) (st) h = ev L xs mdX5_copyFrom 60 (Ls) (.int (nI 6) :: st) (h) := e_bipush dX5_copyFrom_58 (by decide)
theorem iX5_copyFrom_60 {a d : Nat} {sp dp c : Int32} {Ls st : List Value} {h : AH} (hw : wds st ≤ 8) (hk : hK h a = 8) (hk2 : hK h d = 8) (h1 : 0 ≤ sp) (h2 : 0 ≤ dp) (h3 : 0 ≤ c) (h4 : sp.toNatClampNeg + c.toNatClampNeg ≤ hN h a) (h5 : dp.toNatClampNeg + c.toNatClampNeg ≤ hN h d) : ev L xs mdX5_copyFrom 60 (Ls) (.int c :: .int dp :: .ref d :: .int sp :: .ref a :: st) h = ev L xs mdX5_copyFrom 63 (Ls) (st) (cpA h a sp.toNatClampNeg d dp.toNatClampNeg c.toNatClampNeg) := e_copy dX5_copyFrom_60 mr_5_51 (by decide) hw hk hk2 h1 h2 h3 h4 h5
theorem iX5_copyFrom_63 {v0 : Value} {x : Nat} {Ls st : List Value} {h : AH} : ev L xs mdX5_copyFrom 63 (v0 :: .ref x :: Ls) (st) h = ev L xs mdX5_copyFrom 64 (v0 :: .ref x :: Ls) (.ref x :: st) (h) := e_aload_n dX5_copyFrom_63 rfl
theorem iX5_copyFrom_64 {a : Nat} {Ls st : List Value} {h : AH} (hk : hK h a = 5) (hj : (hR h 81 a).isSome = true) : ev L xs mdX5_copyFrom 64 (Ls) (.ref a :: st) h = ev L xs mdX5_copyFrom 67 (Ls) (.ref ((hR h 81 a).getD 0) :: st) (h) := e_getR (k := 5) (f := 1) (F := 81) dX5_copyFrom_64 (by decide +kernel) rfl rfl hk hj
theorem iX5_copyFrom_67  {Ls st : List Value} {h : AH} : ev L xs mdX5_copyFrom 67 (Ls) (st) h = ev L xs mdX5_copyFrom 68 (Ls) (.int (nI 0) :: st) (h) := e_iconst dX5_copyFrom_67 (by decide)
theorem iX5_copyFrom_68 {x : Nat} {Ls st : List Value} {h : AH} : ev L xs mdX5_copyFrom 68 (.ref x :: Ls) (st) h = ev L xs mdX5_copyFrom 69 (.ref x :: Ls) (.ref x :: st) (h) := e_aload_n dX5_copyFrom_68 rfl
theorem iX5_copyFrom_69 {a : Nat} {Ls st : List Value} {h : AH} (hk : hK h a = 5) (hj : (hR h 81 a).isSome = true) : ev L xs mdX5_copyFrom 69 (Ls) (.ref a :: st) h = ev L xs mdX5_copyFrom 72 (Ls) (.ref ((hR h 81 a).getD 0) :: st) (h) := e_getR (k := 5) (f := 1) (F := 81) dX5_copyFrom_69 (by decide +kernel) rfl rfl hk hj
theorem iX5_copyFrom_72  {Ls st : List Value} {h : AH} : ev L xs mdX5_copyFrom 72 (Ls) (st) h = ev L xs mdX5_copyFrom 73 (Ls) (.int (nI 0) :: st) (h) := e_iconst dX5_copyFrom_72 (by decide)
theorem iX5_copyFrom_73  {Ls st : List Value} {h : AH} : ev L xs mdX5_copyFrom 73 (Ls) (st) h = ev L xs mdX5_copyFrom 75 (Ls) (.int (nI 6) :: st) (h) := e_bipush dX5_copyFrom_73 (by decide)
theorem iX5_copyFrom_75 {a d : Nat} {sp dp c : Int32} {Ls st : List Value} {h : AH} (hw : wds st ≤ 8) (hk : hK h a = 8) (hk2 : hK h d = 8) (h1 : 0 ≤ sp) (h2 : 0 ≤ dp) (h3 : 0 ≤ c) (h4 : sp.toNatClampNeg + c.toNatClampNeg ≤ hN h a) (h5 : dp.toNatClampNeg + c.toNatClampNeg ≤ hN h d) : ev L xs mdX5_copyFrom 75 (Ls) (.int c :: .int dp :: .ref d :: .int sp :: .ref a :: st) h = ev L xs mdX5_copyFrom 78 (Ls) (st) (cpA h a sp.toNatClampNeg d dp.toNatClampNeg c.toNatClampNeg) := e_copy dX5_copyFrom_75 mr_5_51 (by decide) hw hk hk2 h1 h2 h3 h4 h5
theorem iX5_copyFrom_78  {Ls st : List Value} {h : AH} : ev L xs mdX5_copyFrom 78 (Ls) (st) h = ev L xs mdX5_copyFrom 79 (Ls) (.int (nI 0) :: st) (h) := e_iconst dX5_copyFrom_78 (by decide)
theorem iX5_copyFrom_79 {v0 : Value} {v1 : Value} {v2 : Value} {x : Int32} {Ls st : List Value} {h : AH} (hc9 : v1.category = 1) : ev L xs mdX5_copyFrom 79 (v0 :: v1 :: v2 :: Ls) (.int x :: st) h = ev L xs mdX5_copyFrom 80 (v0 :: v1 :: .int x :: Ls) (st) (h) := e_istore_n dX5_copyFrom_79 rfl (by decide) (by unfold catOK; show (_ || (v1.category == 1)) = true; rw [hc9]; rfl)
theorem iX5_copyFrom_80 {v0 : Value} {v1 : Value} {x : Int32} {Ls st : List Value} {h : AH} : ev L xs mdX5_copyFrom 80 (v0 :: v1 :: .int x :: Ls) (st) h = ev L xs mdX5_copyFrom 81 (v0 :: v1 :: .int x :: Ls) (.int x :: st) (h) := e_iload_n dX5_copyFrom_80 rfl
theorem iX5_copyFrom_81 {x : Nat} {Ls st : List Value} {h : AH} : ev L xs mdX5_copyFrom 81 (.ref x :: Ls) (st) h = ev L xs mdX5_copyFrom 82 (.ref x :: Ls) (.ref x :: st) (h) := e_aload_n dX5_copyFrom_81 rfl
theorem iX5_copyFrom_82 {a : Nat} {Ls st : List Value} {h : AH} (hk : hK h a = 5) : ev L xs mdX5_copyFrom 82 (Ls) (.ref a :: st) h = ev L xs mdX5_copyFrom 85 (Ls) (.int (hI h 84 a) :: st) (h) := e_getI (k := 5) (f := 4) (F := 84) dX5_copyFrom_82 (by decide +kernel) rfl rfl hk
theorem iX5_copyFrom_85 {x z : Int32} {Ls st : List Value} {h : AH} : ev L xs mdX5_copyFrom 85 Ls (.int z :: .int x :: st) h = if z ≤ x then ev L xs mdX5_copyFrom 109 Ls st h else ev L xs mdX5_copyFrom 88 Ls st h := e_ic_ge dX5_copyFrom_85 (by decide)
theorem iX5_copyFrom_88 {x : Nat} {Ls st : List Value} {h : AH} : ev L xs mdX5_copyFrom 88 (.ref x :: Ls) (st) h = ev L xs mdX5_copyFrom 89 (.ref x :: Ls) (.ref x :: st) (h) := e_aload_n dX5_copyFrom_88 rfl
theorem iX5_copyFrom_89 {a : Nat} {Ls st : List Value} {h : AH} (hk : hK h a = 5) (hj : (hR h 83 a).isSome = true) : ev L xs mdX5_copyFrom 89 (Ls) (.ref a :: st) h = ev L xs mdX5_copyFrom 92 (Ls) (.ref ((hR h 83 a).getD 0) :: st) (h) := e_getR (k := 5) (f := 3) (F := 83) dX5_copyFrom_89 (by decide +kernel) rfl rfl hk hj
theorem iX5_copyFrom_92 {v0 : Value} {v1 : Value} {x : Int32} {Ls st : List Value} {h : AH} : ev L xs mdX5_copyFrom 92 (v0 :: v1 :: .int x :: Ls) (st) h = ev L xs mdX5_copyFrom 93 (v0 :: v1 :: .int x :: Ls) (.int x :: st) (h) := e_iload_n dX5_copyFrom_92 rfl
theorem iX5_copyFrom_93 {a : Nat} {j : Int32} {Ls st : List Value} {h : AH} (hk : hK h a = 9 ∨ hK h a = 10 ∨ hK h a = 11) (hi : inA j (hN h a) = true) (hq : (hQ h a j.toNatClampNeg).isSome = true) : ev L xs mdX5_copyFrom 93 (Ls) (.int j :: .ref a :: st) h = ev L xs mdX5_copyFrom 94 (Ls) (.ref ((hQ h a j.toNatClampNeg).getD 0) :: st) (h) := e_aald dX5_copyFrom_93 hk hi hq
theorem iX5_copyFrom_94 {v0 : Value} {x : Nat} {Ls st : List Value} {h : AH} : ev L xs mdX5_copyFrom 94 (v0 :: .ref x :: Ls) (st) h = ev L xs mdX5_copyFrom 95 (v0 :: .ref x :: Ls) (.ref x :: st) (h) := e_aload_n dX5_copyFrom_94 rfl
theorem iX5_copyFrom_95 {a : Nat} {Ls st : List Value} {h : AH} (hk : hK h a = 5) (hj : (hR h 83 a).isSome = true) : ev L xs mdX5_copyFrom 95 (Ls) (.ref a :: st) h = ev L xs mdX5_copyFrom 98 (Ls) (.ref ((hR h 83 a).getD 0) :: st) (h) := e_getR (k := 5) (f := 3) (F := 83) dX5_copyFrom_95 (by decide +kernel) rfl rfl hk hj
theorem iX5_copyFrom_98 {v0 : Value} {v1 : Value} {x : Int32} {Ls st : List Value} {h : AH} : ev L xs mdX5_copyFrom 98 (v0 :: v1 :: .int x :: Ls) (st) h = ev L xs mdX5_copyFrom 99 (v0 :: v1 :: .int x :: Ls) (.int x :: st) (h) := e_iload_n dX5_copyFrom_98 rfl
theorem iX5_copyFrom_99 {a : Nat} {j : Int32} {Ls st : List Value} {h : AH} (hk : hK h a = 9 ∨ hK h a = 10 ∨ hK h a = 11) (hi : inA j (hN h a) = true) (hq : (hQ h a j.toNatClampNeg).isSome = true) : ev L xs mdX5_copyFrom 99 (Ls) (.int j :: .ref a :: st) h = ev L xs mdX5_copyFrom 100 (Ls) (.ref ((hQ h a j.toNatClampNeg).getD 0) :: st) (h) := e_aald dX5_copyFrom_99 hk hi hq
theorem iX5_copyFrom_100 {a : Nat} {p0 : Nat} {Ls st : List Value} {h : AH} (hk : hK h a = 2) (hw : wds st ≤ 8) : ev L xs mdX5_copyFrom 100 Ls (.ref p0 :: .ref a :: st) h = kn L xs mdX5_copyFrom 100 103 Ls st (ev L xs mdX2_copyFrom 0 [.ref a, .ref p0] [] h) := e_callV (as := [.ref p0]) dX5_copyFrom_100 mr_5_57 (by decide) (by decide) rfl (by simp [wds, Value.category]; decide) rfl (by decide) hk hw
theorem iX5_copyFrom_103 {v0 : Value} {v1 : Value} {x : Int32} {Ls st : List Value} {h : AH} (hc9 : v1.category = 1) : ev L xs mdX5_copyFrom 103 (v0 :: v1 :: .int x :: Ls) (st) h = ev L xs mdX5_copyFrom 106 (v0 :: v1 :: .int (x + (nI 1)) :: Ls) (st) (h) := e_iinc dX5_copyFrom_103 rfl rfl rfl (by decide) (by unfold catOK; show (_ || (v1.category == 1)) = true; rw [hc9]; rfl)
theorem iX5_copyFrom_106  {Ls st : List Value} {h : AH} : ev L xs mdX5_copyFrom 106 (Ls) (st) h = ev L xs mdX5_copyFrom 80 (Ls) (st) (h) := e_goto dX5_copyFrom_106 (by decide)
theorem iX5_copyFrom_109  {Ls st : List Value} {h : AH} : ev L xs mdX5_copyFrom 109 (Ls) (st) h = ev L xs mdX5_copyFrom 110 (Ls) (.int (nI 0) :: st) (h) := e_iconst dX5_copyFrom_109 (by decide)
theorem iX5_copyFrom_110 {v0 : Value} {v1 : Value} {v2 : Value} {x : Int32} {Ls st : List Value} {h : AH} (hc9 : v1.category = 1) : ev L xs mdX5_copyFrom 110 (v0 :: v1 :: v2 :: Ls) (.int x :: st) h = ev L xs mdX5_copyFrom 111 (v0 :: v1 :: .int x :: Ls) (st) (h) := e_istore_n dX5_copyFrom_110 rfl (by decide) (by unfold catOK; show (_ || (v1.category == 1)) = true; rw [hc9]; rfl)
theorem iX5_copyFrom_111 {v0 : Value} {v1 : Value} {x : Int32} {Ls st : List Value} {h : AH} : ev L xs mdX5_copyFrom 111 (v0 :: v1 :: .int x :: Ls) (st) h = ev L xs mdX5_copyFrom 112 (v0 :: v1 :: .int x :: Ls) (.int x :: st) (h) := e_iload_n dX5_copyFrom_111 rfl
theorem iX5_copyFrom_112 {x : Nat} {Ls st : List Value} {h : AH} : ev L xs mdX5_copyFrom 112 (.ref x :: Ls) (st) h = ev L xs mdX5_copyFrom 113 (.ref x :: Ls) (.ref x :: st) (h) := e_aload_n dX5_copyFrom_112 rfl
theorem iX5_copyFrom_113 {a : Nat} {Ls st : List Value} {h : AH} (hk : hK h a = 5) : ev L xs mdX5_copyFrom 113 (Ls) (.ref a :: st) h = ev L xs mdX5_copyFrom 116 (Ls) (.int (hI h 86 a) :: st) (h) := e_getI (k := 5) (f := 6) (F := 86) dX5_copyFrom_113 (by decide +kernel) rfl rfl hk
theorem iX5_copyFrom_116 {x z : Int32} {Ls st : List Value} {h : AH} : ev L xs mdX5_copyFrom 116 Ls (.int z :: .int x :: st) h = if z ≤ x then ev L xs mdX5_copyFrom 140 Ls st h else ev L xs mdX5_copyFrom 119 Ls st h := e_ic_ge dX5_copyFrom_116 (by decide)
theorem iX5_copyFrom_119 {x : Nat} {Ls st : List Value} {h : AH} : ev L xs mdX5_copyFrom 119 (.ref x :: Ls) (st) h = ev L xs mdX5_copyFrom 120 (.ref x :: Ls) (.ref x :: st) (h) := e_aload_n dX5_copyFrom_119 rfl
theorem iX5_copyFrom_120 {a : Nat} {Ls st : List Value} {h : AH} (hk : hK h a = 5) (hj : (hR h 85 a).isSome = true) : ev L xs mdX5_copyFrom 120 (Ls) (.ref a :: st) h = ev L xs mdX5_copyFrom 123 (Ls) (.ref ((hR h 85 a).getD 0) :: st) (h) := e_getR (k := 5) (f := 5) (F := 85) dX5_copyFrom_120 (by decide +kernel) rfl rfl hk hj
theorem iX5_copyFrom_123 {v0 : Value} {v1 : Value} {x : Int32} {Ls st : List Value} {h : AH} : ev L xs mdX5_copyFrom 123 (v0 :: v1 :: .int x :: Ls) (st) h = ev L xs mdX5_copyFrom 124 (v0 :: v1 :: .int x :: Ls) (.int x :: st) (h) := e_iload_n dX5_copyFrom_123 rfl
theorem iX5_copyFrom_124 {a : Nat} {j : Int32} {Ls st : List Value} {h : AH} (hk : hK h a = 9 ∨ hK h a = 10 ∨ hK h a = 11) (hi : inA j (hN h a) = true) (hq : (hQ h a j.toNatClampNeg).isSome = true) : ev L xs mdX5_copyFrom 124 (Ls) (.int j :: .ref a :: st) h = ev L xs mdX5_copyFrom 125 (Ls) (.ref ((hQ h a j.toNatClampNeg).getD 0) :: st) (h) := e_aald dX5_copyFrom_124 hk hi hq
theorem iX5_copyFrom_125 {v0 : Value} {x : Nat} {Ls st : List Value} {h : AH} : ev L xs mdX5_copyFrom 125 (v0 :: .ref x :: Ls) (st) h = ev L xs mdX5_copyFrom 126 (v0 :: .ref x :: Ls) (.ref x :: st) (h) := e_aload_n dX5_copyFrom_125 rfl
theorem iX5_copyFrom_126 {a : Nat} {Ls st : List Value} {h : AH} (hk : hK h a = 5) (hj : (hR h 85 a).isSome = true) : ev L xs mdX5_copyFrom 126 (Ls) (.ref a :: st) h = ev L xs mdX5_copyFrom 129 (Ls) (.ref ((hR h 85 a).getD 0) :: st) (h) := e_getR (k := 5) (f := 5) (F := 85) dX5_copyFrom_126 (by decide +kernel) rfl rfl hk hj
theorem iX5_copyFrom_129 {v0 : Value} {v1 : Value} {x : Int32} {Ls st : List Value} {h : AH} : ev L xs mdX5_copyFrom 129 (v0 :: v1 :: .int x :: Ls) (st) h = ev L xs mdX5_copyFrom 130 (v0 :: v1 :: .int x :: Ls) (.int x :: st) (h) := e_iload_n dX5_copyFrom_129 rfl
theorem iX5_copyFrom_130 {a : Nat} {j : Int32} {Ls st : List Value} {h : AH} (hk : hK h a = 9 ∨ hK h a = 10 ∨ hK h a = 11) (hi : inA j (hN h a) = true) (hq : (hQ h a j.toNatClampNeg).isSome = true) : ev L xs mdX5_copyFrom 130 (Ls) (.int j :: .ref a :: st) h = ev L xs mdX5_copyFrom 131 (Ls) (.ref ((hQ h a j.toNatClampNeg).getD 0) :: st) (h) := e_aald dX5_copyFrom_130 hk hi hq
theorem iX5_copyFrom_131 {a : Nat} {p0 : Nat} {Ls st : List Value} {h : AH} (hk : hK h a = 0) (hw : wds st ≤ 8) : ev L xs mdX5_copyFrom 131 Ls (.ref p0 :: .ref a :: st) h = kn L xs mdX5_copyFrom 131 134 Ls st (ev L xs mdX0_copyFrom 0 [.ref a, .ref p0] [] h) := e_callV (as := [.ref p0]) dX5_copyFrom_131 mr_5_61 (by decide) (by decide) rfl (by simp [wds, Value.category]; decide) rfl (by decide) hk hw
theorem iX5_copyFrom_134 {v0 : Value} {v1 : Value} {x : Int32} {Ls st : List Value} {h : AH} (hc9 : v1.category = 1) : ev L xs mdX5_copyFrom 134 (v0 :: v1 :: .int x :: Ls) (st) h = ev L xs mdX5_copyFrom 137 (v0 :: v1 :: .int (x + (nI 1)) :: Ls) (st) (h) := e_iinc dX5_copyFrom_134 rfl rfl rfl (by decide) (by unfold catOK; show (_ || (v1.category == 1)) = true; rw [hc9]; rfl)
theorem iX5_copyFrom_137  {Ls st : List Value} {h : AH} : ev L xs mdX5_copyFrom 137 (Ls) (st) h = ev L xs mdX5_copyFrom 111 (Ls) (st) (h) := e_goto dX5_copyFrom_137 (by decide)
theorem iX5_copyFrom_140 {Ls : List Value} {h : AH} : ev L xs mdX5_copyFrom 140 Ls [] h = some (.inl (none, h)) := e_vret dX5_copyFrom_140 rfl
theorem dX5_earnings_0 : decode cX5_earnings 0 = .ok (.iconst 0, 1) := by decide +kernel
theorem dX5_earnings_1 : decode cX5_earnings 1 = .ok (.istore_n 1, 1) := by decide +kernel
theorem dX5_earnings_2 : decode cX5_earnings 2 = .ok (.iconst 0, 1) := by decide +kernel
theorem dX5_earnings_3 : decode cX5_earnings 3 = .ok (.istore_n 2, 1) := by decide +kernel
theorem dX5_earnings_4 : decode cX5_earnings 4 = .ok (.iload_n 2, 1) := by decide +kernel
theorem dX5_earnings_5 : decode cX5_earnings 5 = .ok (.aload_n 0, 1) := by decide +kernel
theorem dX5_earnings_6 : decode cX5_earnings 6 = .ok (.getfield 39, 3) := by decide +kernel
theorem dX5_earnings_9 : decode cX5_earnings 9 = .ok (.if_icmp .ge 21, 3) := by decide +kernel
theorem dX5_earnings_12 : decode cX5_earnings 12 = .ok (.iload_n 1, 1) := by decide +kernel
theorem dX5_earnings_13 : decode cX5_earnings 13 = .ok (.aload_n 0, 1) := by decide +kernel
theorem dX5_earnings_14 : decode cX5_earnings 14 = .ok (.getfield 26, 3) := by decide +kernel
theorem dX5_earnings_17 : decode cX5_earnings 17 = .ok (.iload_n 2, 1) := by decide +kernel
theorem dX5_earnings_18 : decode cX5_earnings 18 = .ok (.aaload, 1) := by decide +kernel
theorem dX5_earnings_19 : decode cX5_earnings 19 = .ok (.getfield 148, 3) := by decide +kernel
theorem dX5_earnings_22 : decode cX5_earnings 22 = .ok (.iadd, 1) := by decide +kernel
theorem dX5_earnings_23 : decode cX5_earnings 23 = .ok (.istore_n 1, 1) := by decide +kernel
theorem dX5_earnings_24 : decode cX5_earnings 24 = .ok (.iinc 2 1, 3) := by decide +kernel
theorem dX5_earnings_27 : decode cX5_earnings 27 = .ok (.goto (-23), 3) := by decide +kernel
theorem dX5_earnings_30 : decode cX5_earnings 30 = .ok (.iload_n 1, 1) := by decide +kernel
theorem dX5_earnings_31 : decode cX5_earnings 31 = .ok (.ireturn, 1) := by decide +kernel
theorem iX5_earnings_0  {Ls st : List Value} {h : AH} : ev L xs mdX5_earnings 0 (Ls) (st) h = ev L xs mdX5_earnings 1 (Ls) (.int (nI 0) :: st) (h) := e_iconst dX5_earnings_0 (by decide)
theorem iX5_earnings_1 {v0 : Value} {v1 : Value} {x : Int32} {Ls st : List Value} {h : AH} (hc9 : v0.category = 1) : ev L xs mdX5_earnings 1 (v0 :: v1 :: Ls) (.int x :: st) h = ev L xs mdX5_earnings 2 (v0 :: .int x :: Ls) (st) (h) := e_istore_n dX5_earnings_1 rfl (by decide) (by unfold catOK; show (_ || (v0.category == 1)) = true; rw [hc9]; rfl)
theorem iX5_earnings_2  {Ls st : List Value} {h : AH} : ev L xs mdX5_earnings 2 (Ls) (st) h = ev L xs mdX5_earnings 3 (Ls) (.int (nI 0) :: st) (h) := e_iconst dX5_earnings_2 (by decide)
theorem iX5_earnings_3 {v0 : Value} {v1 : Value} {v2 : Value} {x : Int32} {Ls st : List Value} {h : AH} (hc9 : v1.category = 1) : ev L xs mdX5_earnings 3 (v0 :: v1 :: v2 :: Ls) (.int x :: st) h = ev L xs mdX5_earnings 4 (v0 :: v1 :: .int x :: Ls) (st) (h) := e_istore_n dX5_earnings_3 rfl (by decide) (by unfold catOK; show (_ || (v1.category == 1)) = true; rw [hc9]; rfl)
theorem iX5_earnings_4 {v0 : Value} {v1 : Value} {x : Int32} {Ls st : List Value} {h : AH} : ev L xs mdX5_earnings 4 (v0 :: v1 :: .int x :: Ls) (st) h = ev L xs mdX5_earnings 5 (v0 :: v1 :: .int x :: Ls) (.int x :: st) (h) := e_iload_n dX5_earnings_4 rfl
theorem iX5_earnings_5 {x : Nat} {Ls st : List Value} {h : AH} : ev L xs mdX5_earnings 5 (.ref x :: Ls) (st) h = ev L xs mdX5_earnings 6 (.ref x :: Ls) (.ref x :: st) (h) := e_aload_n dX5_earnings_5 rfl
theorem iX5_earnings_6 {a : Nat} {Ls st : List Value} {h : AH} (hk : hK h a = 5) : ev L xs mdX5_earnings 6 (Ls) (.ref a :: st) h = ev L xs mdX5_earnings 9 (Ls) (.int (hI h 86 a) :: st) (h) := e_getI (k := 5) (f := 6) (F := 86) dX5_earnings_6 (by decide +kernel) rfl rfl hk
theorem iX5_earnings_9 {x z : Int32} {Ls st : List Value} {h : AH} : ev L xs mdX5_earnings 9 Ls (.int z :: .int x :: st) h = if z ≤ x then ev L xs mdX5_earnings 30 Ls st h else ev L xs mdX5_earnings 12 Ls st h := e_ic_ge dX5_earnings_9 (by decide)
theorem iX5_earnings_12 {v0 : Value} {x : Int32} {Ls st : List Value} {h : AH} : ev L xs mdX5_earnings 12 (v0 :: .int x :: Ls) (st) h = ev L xs mdX5_earnings 13 (v0 :: .int x :: Ls) (.int x :: st) (h) := e_iload_n dX5_earnings_12 rfl
theorem iX5_earnings_13 {x : Nat} {Ls st : List Value} {h : AH} : ev L xs mdX5_earnings 13 (.ref x :: Ls) (st) h = ev L xs mdX5_earnings 14 (.ref x :: Ls) (.ref x :: st) (h) := e_aload_n dX5_earnings_13 rfl
theorem iX5_earnings_14 {a : Nat} {Ls st : List Value} {h : AH} (hk : hK h a = 5) (hj : (hR h 85 a).isSome = true) : ev L xs mdX5_earnings 14 (Ls) (.ref a :: st) h = ev L xs mdX5_earnings 17 (Ls) (.ref ((hR h 85 a).getD 0) :: st) (h) := e_getR (k := 5) (f := 5) (F := 85) dX5_earnings_14 (by decide +kernel) rfl rfl hk hj
theorem iX5_earnings_17 {v0 : Value} {v1 : Value} {x : Int32} {Ls st : List Value} {h : AH} : ev L xs mdX5_earnings 17 (v0 :: v1 :: .int x :: Ls) (st) h = ev L xs mdX5_earnings 18 (v0 :: v1 :: .int x :: Ls) (.int x :: st) (h) := e_iload_n dX5_earnings_17 rfl
theorem iX5_earnings_18 {a : Nat} {j : Int32} {Ls st : List Value} {h : AH} (hk : hK h a = 9 ∨ hK h a = 10 ∨ hK h a = 11) (hi : inA j (hN h a) = true) (hq : (hQ h a j.toNatClampNeg).isSome = true) : ev L xs mdX5_earnings 18 (Ls) (.int j :: .ref a :: st) h = ev L xs mdX5_earnings 19 (Ls) (.ref ((hQ h a j.toNatClampNeg).getD 0) :: st) (h) := e_aald dX5_earnings_18 hk hi hq
theorem iX5_earnings_19 {a : Nat} {Ls st : List Value} {h : AH} (hk : hK h a = 0) : ev L xs mdX5_earnings 19 (Ls) (.ref a :: st) h = ev L xs mdX5_earnings 22 (Ls) (.int (hI h 5 a) :: st) (h) := e_getI (k := 0) (f := 5) (F := 5) dX5_earnings_19 (by decide +kernel) rfl rfl hk
theorem iX5_earnings_22 {x z : Int32} {Ls st : List Value} {h : AH} : ev L xs mdX5_earnings 22 (Ls) (.int z :: .int x :: st) h = ev L xs mdX5_earnings 23 (Ls) (.int (x + z) :: st) (h) := e_iadd dX5_earnings_22
theorem iX5_earnings_23 {v0 : Value} {v1 : Value} {x : Int32} {Ls st : List Value} {h : AH} (hc9 : v0.category = 1) : ev L xs mdX5_earnings 23 (v0 :: v1 :: Ls) (.int x :: st) h = ev L xs mdX5_earnings 24 (v0 :: .int x :: Ls) (st) (h) := e_istore_n dX5_earnings_23 rfl (by decide) (by unfold catOK; show (_ || (v0.category == 1)) = true; rw [hc9]; rfl)
theorem iX5_earnings_24 {v0 : Value} {v1 : Value} {x : Int32} {Ls st : List Value} {h : AH} (hc9 : v1.category = 1) : ev L xs mdX5_earnings 24 (v0 :: v1 :: .int x :: Ls) (st) h = ev L xs mdX5_earnings 27 (v0 :: v1 :: .int (x + (nI 1)) :: Ls) (st) (h) := e_iinc dX5_earnings_24 rfl rfl rfl (by decide) (by unfold catOK; show (_ || (v1.category == 1)) = true; rw [hc9]; rfl)
theorem iX5_earnings_27  {Ls st : List Value} {h : AH} : ev L xs mdX5_earnings 27 (Ls) (st) h = ev L xs mdX5_earnings 4 (Ls) (st) (h) := e_goto dX5_earnings_27 (by decide)
theorem iX5_earnings_30 {v0 : Value} {x : Int32} {Ls st : List Value} {h : AH} : ev L xs mdX5_earnings 30 (v0 :: .int x :: Ls) (st) h = ev L xs mdX5_earnings 31 (v0 :: .int x :: Ls) (.int x :: st) (h) := e_iload_n dX5_earnings_30 rfl
theorem iX5_earnings_31 {v : Int32} {Ls : List Value} {h : AH} : ev L xs mdX5_earnings 31 Ls [.int v] h = some (.inl (some (.int v), h)) := e_iret dX5_earnings_31 rfl
theorem dX5_fileComplaint_0 : decode cX5_fileComplaint 0 = .ok (.aload_n 0, 1) := by decide +kernel
theorem dX5_fileComplaint_1 : decode cX5_fileComplaint 1 = .ok (.getfield 20, 3) := by decide +kernel
theorem dX5_fileComplaint_4 : decode cX5_fileComplaint 4 = .ok (.iload_n 1, 1) := by decide +kernel
theorem dX5_fileComplaint_5 : decode cX5_fileComplaint 5 = .ok (.aaload, 1) := by decide +kernel
theorem dX5_fileComplaint_6 : decode cX5_fileComplaint 6 = .ok (.aload_n 0, 1) := by decide +kernel
theorem dX5_fileComplaint_7 : decode cX5_fileComplaint 7 = .ok (.getfield 42, 3) := by decide +kernel
theorem dX5_fileComplaint_10 : decode cX5_fileComplaint 10 = .ok (.invokevirtual 89, 3) := by decide +kernel
theorem dX5_fileComplaint_13 : decode cX5_fileComplaint 13 = .ok (.aload_n 0, 1) := by decide +kernel
theorem dX5_fileComplaint_14 : decode cX5_fileComplaint 14 = .ok (.getfield 20, 3) := by decide +kernel
theorem dX5_fileComplaint_17 : decode cX5_fileComplaint 17 = .ok (.iload_n 1, 1) := by decide +kernel
theorem dX5_fileComplaint_18 : decode cX5_fileComplaint 18 = .ok (.aaload, 1) := by decide +kernel
theorem dX5_fileComplaint_19 : decode cX5_fileComplaint 19 = .ok (.getfield 93, 3) := by decide +kernel
theorem dX5_fileComplaint_22 : decode cX5_fileComplaint 22 = .ok (.ireturn, 1) := by decide +kernel
theorem iX5_fileComplaint_0 {x : Nat} {Ls st : List Value} {h : AH} : ev L xs mdX5_fileComplaint 0 (.ref x :: Ls) (st) h = ev L xs mdX5_fileComplaint 1 (.ref x :: Ls) (.ref x :: st) (h) := e_aload_n dX5_fileComplaint_0 rfl
theorem iX5_fileComplaint_1 {a : Nat} {Ls st : List Value} {h : AH} (hk : hK h a = 5) (hj : (hR h 83 a).isSome = true) : ev L xs mdX5_fileComplaint 1 (Ls) (.ref a :: st) h = ev L xs mdX5_fileComplaint 4 (Ls) (.ref ((hR h 83 a).getD 0) :: st) (h) := e_getR (k := 5) (f := 3) (F := 83) dX5_fileComplaint_1 (by decide +kernel) rfl rfl hk hj
theorem iX5_fileComplaint_4 {v0 : Value} {x : Int32} {Ls st : List Value} {h : AH} : ev L xs mdX5_fileComplaint 4 (v0 :: .int x :: Ls) (st) h = ev L xs mdX5_fileComplaint 5 (v0 :: .int x :: Ls) (.int x :: st) (h) := e_iload_n dX5_fileComplaint_4 rfl
theorem iX5_fileComplaint_5 {a : Nat} {j : Int32} {Ls st : List Value} {h : AH} (hk : hK h a = 9 ∨ hK h a = 10 ∨ hK h a = 11) (hi : inA j (hN h a) = true) (hq : (hQ h a j.toNatClampNeg).isSome = true) : ev L xs mdX5_fileComplaint 5 (Ls) (.int j :: .ref a :: st) h = ev L xs mdX5_fileComplaint 6 (Ls) (.ref ((hQ h a j.toNatClampNeg).getD 0) :: st) (h) := e_aald dX5_fileComplaint_5 hk hi hq
theorem iX5_fileComplaint_6 {x : Nat} {Ls st : List Value} {h : AH} : ev L xs mdX5_fileComplaint 6 (.ref x :: Ls) (st) h = ev L xs mdX5_fileComplaint 7 (.ref x :: Ls) (.ref x :: st) (h) := e_aload_n dX5_fileComplaint_6 rfl
theorem iX5_fileComplaint_7 {a : Nat} {Ls st : List Value} {h : AH} (hk : hK h a = 5) : ev L xs mdX5_fileComplaint 7 (Ls) (.ref a :: st) h = ev L xs mdX5_fileComplaint 10 (Ls) (.int (hI h 87 a) :: st) (h) := e_getI (k := 5) (f := 7) (F := 87) dX5_fileComplaint_7 (by decide +kernel) rfl rfl hk
theorem iX5_fileComplaint_10 {a : Nat} {p0 : Int32} {Ls st : List Value} {h : AH} (hk : hK h a = 2) (hw : wds st ≤ 8) : ev L xs mdX5_fileComplaint 10 Ls (.int p0 :: .ref a :: st) h = kn L xs mdX5_fileComplaint 10 13 Ls st (ev L xs mdX2_fileComplaint 0 [.ref a, .int p0] [] h) := e_callV (as := [.int p0]) dX5_fileComplaint_10 mr_5_89 (by decide) (by decide) rfl (by simp [wds, Value.category]; decide) rfl (by decide) hk hw
theorem iX5_fileComplaint_13 {x : Nat} {Ls st : List Value} {h : AH} : ev L xs mdX5_fileComplaint 13 (.ref x :: Ls) (st) h = ev L xs mdX5_fileComplaint 14 (.ref x :: Ls) (.ref x :: st) (h) := e_aload_n dX5_fileComplaint_13 rfl
theorem iX5_fileComplaint_14 {a : Nat} {Ls st : List Value} {h : AH} (hk : hK h a = 5) (hj : (hR h 83 a).isSome = true) : ev L xs mdX5_fileComplaint 14 (Ls) (.ref a :: st) h = ev L xs mdX5_fileComplaint 17 (Ls) (.ref ((hR h 83 a).getD 0) :: st) (h) := e_getR (k := 5) (f := 3) (F := 83) dX5_fileComplaint_14 (by decide +kernel) rfl rfl hk hj
theorem iX5_fileComplaint_17 {v0 : Value} {x : Int32} {Ls st : List Value} {h : AH} : ev L xs mdX5_fileComplaint 17 (v0 :: .int x :: Ls) (st) h = ev L xs mdX5_fileComplaint 18 (v0 :: .int x :: Ls) (.int x :: st) (h) := e_iload_n dX5_fileComplaint_17 rfl
theorem iX5_fileComplaint_18 {a : Nat} {j : Int32} {Ls st : List Value} {h : AH} (hk : hK h a = 9 ∨ hK h a = 10 ∨ hK h a = 11) (hi : inA j (hN h a) = true) (hq : (hQ h a j.toNatClampNeg).isSome = true) : ev L xs mdX5_fileComplaint 18 (Ls) (.int j :: .ref a :: st) h = ev L xs mdX5_fileComplaint 19 (Ls) (.ref ((hQ h a j.toNatClampNeg).getD 0) :: st) (h) := e_aald dX5_fileComplaint_18 hk hi hq
theorem iX5_fileComplaint_19 {a : Nat} {Ls st : List Value} {h : AH} (hk : hK h a = 2) : ev L xs mdX5_fileComplaint 19 (Ls) (.ref a :: st) h = ev L xs mdX5_fileComplaint 22 (Ls) (.int (hI h 35 a) :: st) (h) := e_getI (k := 2) (f := 3) (F := 35) dX5_fileComplaint_19 (by decide +kernel) rfl rfl hk
theorem iX5_fileComplaint_22 {v : Int32} {Ls : List Value} {h : AH} : ev L xs mdX5_fileComplaint 22 Ls [.int v] h = some (.inl (some (.int v), h)) := e_iret dX5_fileComplaint_22 rfl
theorem dX5_hasGuard_0 : decode cX5_hasGuard 0 = .ok (.iload_n 1, 1) := by decide +kernel
theorem dX5_hasGuard_1 : decode cX5_hasGuard 1 = .ok (.iconst 0, 1) := by decide +kernel
theorem dX5_hasGuard_2 : decode cX5_hasGuard 2 = .ok (.aload_n 0, 1) := by decide +kernel
theorem dX5_hasGuard_3 : decode cX5_hasGuard 3 = .ok (.getfield 39, 3) := by decide +kernel
theorem dX5_hasGuard_6 : decode cX5_hasGuard 6 = .ok (.iconst 1, 1) := by decide +kernel
theorem dX5_hasGuard_7 : decode cX5_hasGuard 7 = .ok (.isub, 1) := by decide +kernel
theorem dX5_hasGuard_8 : decode cX5_hasGuard 8 = .ok (.invokestatic 64, 3) := by decide +kernel
theorem dX5_hasGuard_11 : decode cX5_hasGuard 11 = .ok (.ireturn, 1) := by decide +kernel
theorem iX5_hasGuard_0 {v0 : Value} {x : Int32} {Ls st : List Value} {h : AH} : ev L xs mdX5_hasGuard 0 (v0 :: .int x :: Ls) (st) h = ev L xs mdX5_hasGuard 1 (v0 :: .int x :: Ls) (.int x :: st) (h) := e_iload_n dX5_hasGuard_0 rfl
theorem iX5_hasGuard_1  {Ls st : List Value} {h : AH} : ev L xs mdX5_hasGuard 1 (Ls) (st) h = ev L xs mdX5_hasGuard 2 (Ls) (.int (nI 0) :: st) (h) := e_iconst dX5_hasGuard_1 (by decide)
theorem iX5_hasGuard_2 {x : Nat} {Ls st : List Value} {h : AH} : ev L xs mdX5_hasGuard 2 (.ref x :: Ls) (st) h = ev L xs mdX5_hasGuard 3 (.ref x :: Ls) (.ref x :: st) (h) := e_aload_n dX5_hasGuard_2 rfl
theorem iX5_hasGuard_3 {a : Nat} {Ls st : List Value} {h : AH} (hk : hK h a = 5) : ev L xs mdX5_hasGuard 3 (Ls) (.ref a :: st) h = ev L xs mdX5_hasGuard 6 (Ls) (.int (hI h 86 a) :: st) (h) := e_getI (k := 5) (f := 6) (F := 86) dX5_hasGuard_3 (by decide +kernel) rfl rfl hk
theorem iX5_hasGuard_6  {Ls st : List Value} {h : AH} : ev L xs mdX5_hasGuard 6 (Ls) (st) h = ev L xs mdX5_hasGuard 7 (Ls) (.int (nI 1) :: st) (h) := e_iconst dX5_hasGuard_6 (by decide)
theorem iX5_hasGuard_7 {x z : Int32} {Ls st : List Value} {h : AH} : ev L xs mdX5_hasGuard 7 (Ls) (.int z :: .int x :: st) h = ev L xs mdX5_hasGuard 8 (Ls) (.int (x - z) :: st) (h) := e_isub dX5_hasGuard_7
theorem iX5_hasGuard_8 {p0 : Int32} {p1 : Int32} {p2 : Int32} {Ls st : List Value} {h : AH} (hw : wds st ≤ 8) : ev L xs mdX5_hasGuard 8 Ls (.int p2 :: .int p1 :: .int p0 :: st) h = kn L xs mdX5_hasGuard 8 11 Ls st (ev L xs mdX6_isWithin 0 [.int p0, .int p1, .int p2] [] h) := e_callS (as := [.int p2, .int p1, .int p0]) dX5_hasGuard_8 mr_5_64 (by decide) (by decide) rfl (by simp [wds, Value.category]; decide) rfl hw
theorem iX5_hasGuard_11 {v : Int32} {Ls : List Value} {h : AH} (hv : v = nI 0 ∨ v = nI 1) : ev L xs mdX5_hasGuard 11 Ls [.int v] h = some (.inl (some (.int v), h)) := e_zret dX5_hasGuard_11 rfl hv
theorem dX5_hasPost_0 : decode cX5_hasPost 0 = .ok (.iload_n 1, 1) := by decide +kernel
theorem dX5_hasPost_1 : decode cX5_hasPost 1 = .ok (.iconst 0, 1) := by decide +kernel
theorem dX5_hasPost_2 : decode cX5_hasPost 2 = .ok (.aload_n 0, 1) := by decide +kernel
theorem dX5_hasPost_3 : decode cX5_hasPost 3 = .ok (.getfield 36, 3) := by decide +kernel
theorem dX5_hasPost_6 : decode cX5_hasPost 6 = .ok (.iconst 1, 1) := by decide +kernel
theorem dX5_hasPost_7 : decode cX5_hasPost 7 = .ok (.isub, 1) := by decide +kernel
theorem dX5_hasPost_8 : decode cX5_hasPost 8 = .ok (.invokestatic 64, 3) := by decide +kernel
theorem dX5_hasPost_11 : decode cX5_hasPost 11 = .ok (.ireturn, 1) := by decide +kernel
theorem iX5_hasPost_0 {v0 : Value} {x : Int32} {Ls st : List Value} {h : AH} : ev L xs mdX5_hasPost 0 (v0 :: .int x :: Ls) (st) h = ev L xs mdX5_hasPost 1 (v0 :: .int x :: Ls) (.int x :: st) (h) := e_iload_n dX5_hasPost_0 rfl
theorem iX5_hasPost_1  {Ls st : List Value} {h : AH} : ev L xs mdX5_hasPost 1 (Ls) (st) h = ev L xs mdX5_hasPost 2 (Ls) (.int (nI 0) :: st) (h) := e_iconst dX5_hasPost_1 (by decide)
theorem iX5_hasPost_2 {x : Nat} {Ls st : List Value} {h : AH} : ev L xs mdX5_hasPost 2 (.ref x :: Ls) (st) h = ev L xs mdX5_hasPost 3 (.ref x :: Ls) (.ref x :: st) (h) := e_aload_n dX5_hasPost_2 rfl
theorem iX5_hasPost_3 {a : Nat} {Ls st : List Value} {h : AH} (hk : hK h a = 5) : ev L xs mdX5_hasPost 3 (Ls) (.ref a :: st) h = ev L xs mdX5_hasPost 6 (Ls) (.int (hI h 84 a) :: st) (h) := e_getI (k := 5) (f := 4) (F := 84) dX5_hasPost_3 (by decide +kernel) rfl rfl hk
theorem iX5_hasPost_6  {Ls st : List Value} {h : AH} : ev L xs mdX5_hasPost 6 (Ls) (st) h = ev L xs mdX5_hasPost 7 (Ls) (.int (nI 1) :: st) (h) := e_iconst dX5_hasPost_6 (by decide)
theorem iX5_hasPost_7 {x z : Int32} {Ls st : List Value} {h : AH} : ev L xs mdX5_hasPost 7 (Ls) (.int z :: .int x :: st) h = ev L xs mdX5_hasPost 8 (Ls) (.int (x - z) :: st) (h) := e_isub dX5_hasPost_7
theorem iX5_hasPost_8 {p0 : Int32} {p1 : Int32} {p2 : Int32} {Ls st : List Value} {h : AH} (hw : wds st ≤ 8) : ev L xs mdX5_hasPost 8 Ls (.int p2 :: .int p1 :: .int p0 :: st) h = kn L xs mdX5_hasPost 8 11 Ls st (ev L xs mdX6_isWithin 0 [.int p0, .int p1, .int p2] [] h) := e_callS (as := [.int p2, .int p1, .int p0]) dX5_hasPost_8 mr_5_64 (by decide) (by decide) rfl (by simp [wds, Value.category]; decide) rfl hw
theorem iX5_hasPost_11 {v : Int32} {Ls : List Value} {h : AH} (hv : v = nI 0 ∨ v = nI 1) : ev L xs mdX5_hasPost 11 Ls [.int v] h = some (.inl (some (.int v), h)) := e_zret dX5_hasPost_11 rfl hv
theorem dX5_init_0 : decode cX5_init 0 = .ok (.aload_n 0, 1) := by decide +kernel
theorem dX5_init_1 : decode cX5_init 1 = .ok (.invokespecial 3, 3) := by decide +kernel
theorem dX5_init_4 : decode cX5_init 4 = .ok (.aload_n 0, 1) := by decide +kernel
theorem dX5_init_5 : decode cX5_init 5 = .ok (.bipush 6, 2) := by decide +kernel
theorem dX5_init_7 : decode cX5_init 7 = .ok (.newarray .int, 2) := by decide +kernel
theorem dX5_init_9 : decode cX5_init 9 = .ok (.putfield 9, 3) := by decide +kernel
theorem dX5_init_12 : decode cX5_init 12 = .ok (.aload_n 0, 1) := by decide +kernel
theorem dX5_init_13 : decode cX5_init 13 = .ok (.bipush 6, 2) := by decide +kernel
theorem dX5_init_15 : decode cX5_init 15 = .ok (.newarray .int, 2) := by decide +kernel
theorem dX5_init_17 : decode cX5_init 17 = .ok (.putfield 15, 3) := by decide +kernel
theorem dX5_init_20 : decode cX5_init 20 = .ok (.aload_n 0, 1) := by decide +kernel
theorem dX5_init_21 : decode cX5_init 21 = .ok (.bipush 8, 2) := by decide +kernel
theorem dX5_init_23 : decode cX5_init 23 = .ok (.anewarray 18, 3) := by decide +kernel
theorem dX5_init_26 : decode cX5_init 26 = .ok (.putfield 20, 3) := by decide +kernel
theorem dX5_init_29 : decode cX5_init 29 = .ok (.aload_n 0, 1) := by decide +kernel
theorem dX5_init_30 : decode cX5_init 30 = .ok (.bipush 10, 2) := by decide +kernel
theorem dX5_init_32 : decode cX5_init 32 = .ok (.anewarray 24, 3) := by decide +kernel
theorem dX5_init_35 : decode cX5_init 35 = .ok (.putfield 26, 3) := by decide +kernel
theorem dX5_init_38 : decode cX5_init 38 = .ok (.iconst 0, 1) := by decide +kernel
theorem dX5_init_39 : decode cX5_init 39 = .ok (.istore_n 1, 1) := by decide +kernel
theorem dX5_init_40 : decode cX5_init 40 = .ok (.iload_n 1, 1) := by decide +kernel
theorem dX5_init_41 : decode cX5_init 41 = .ok (.bipush 8, 2) := by decide +kernel
theorem dX5_init_43 : decode cX5_init 43 = .ok (.if_icmp .ge 22, 3) := by decide +kernel
theorem dX5_init_46 : decode cX5_init 46 = .ok (.aload_n 0, 1) := by decide +kernel
theorem dX5_init_47 : decode cX5_init 47 = .ok (.getfield 20, 3) := by decide +kernel
theorem dX5_init_50 : decode cX5_init 50 = .ok (.iload_n 1, 1) := by decide +kernel
theorem dX5_init_51 : decode cX5_init 51 = .ok (.new 18, 3) := by decide +kernel
theorem dX5_init_54 : decode cX5_init 54 = .ok (.dup, 1) := by decide +kernel
theorem dX5_init_55 : decode cX5_init 55 = .ok (.invokespecial 30, 3) := by decide +kernel
theorem dX5_init_58 : decode cX5_init 58 = .ok (.aastore, 1) := by decide +kernel
theorem dX5_init_59 : decode cX5_init 59 = .ok (.iinc 1 1, 3) := by decide +kernel
theorem dX5_init_62 : decode cX5_init 62 = .ok (.goto (-22), 3) := by decide +kernel
theorem dX5_init_65 : decode cX5_init 65 = .ok (.iconst 0, 1) := by decide +kernel
theorem dX5_init_66 : decode cX5_init 66 = .ok (.istore_n 1, 1) := by decide +kernel
theorem dX5_init_67 : decode cX5_init 67 = .ok (.iload_n 1, 1) := by decide +kernel
theorem dX5_init_68 : decode cX5_init 68 = .ok (.bipush 10, 2) := by decide +kernel
theorem dX5_init_70 : decode cX5_init 70 = .ok (.if_icmp .ge 22, 3) := by decide +kernel
theorem dX5_init_73 : decode cX5_init 73 = .ok (.aload_n 0, 1) := by decide +kernel
theorem dX5_init_74 : decode cX5_init 74 = .ok (.getfield 26, 3) := by decide +kernel
theorem dX5_init_77 : decode cX5_init 77 = .ok (.iload_n 1, 1) := by decide +kernel
theorem dX5_init_78 : decode cX5_init 78 = .ok (.new 24, 3) := by decide +kernel
theorem dX5_init_81 : decode cX5_init 81 = .ok (.dup, 1) := by decide +kernel
theorem dX5_init_82 : decode cX5_init 82 = .ok (.invokespecial 31, 3) := by decide +kernel
theorem dX5_init_85 : decode cX5_init 85 = .ok (.aastore, 1) := by decide +kernel
theorem dX5_init_86 : decode cX5_init 86 = .ok (.iinc 1 1, 3) := by decide +kernel
theorem dX5_init_89 : decode cX5_init 89 = .ok (.goto (-22), 3) := by decide +kernel
theorem dX5_init_92 : decode cX5_init 92 = .ok (.return_, 1) := by decide +kernel
theorem iX5_init_0 {x : Nat} {Ls st : List Value} {h : AH} : ev L xs mdX5_init 0 (.ref x :: Ls) (st) h = ev L xs mdX5_init 1 (.ref x :: Ls) (.ref x :: st) (h) := e_aload_n dX5_init_0 rfl
theorem iX5_init_1 {a : Nat} {Ls st : List Value} {h : AH} (hw : wds st ≤ 8) : ev L xs mdX5_init 1 (Ls) (.ref a :: st) h = ev L xs mdX5_init 4 (Ls) (st) (h) := e_obj dX5_init_1 mr_5_3 (by decide) hw
theorem iX5_init_4 {x : Nat} {Ls st : List Value} {h : AH} : ev L xs mdX5_init 4 (.ref x :: Ls) (st) h = ev L xs mdX5_init 5 (.ref x :: Ls) (.ref x :: st) (h) := e_aload_n dX5_init_4 rfl
theorem iX5_init_5  {Ls st : List Value} {h : AH} : ev L xs mdX5_init 5 (Ls) (st) h = ev L xs mdX5_init 7 (Ls) (.int (nI 6) :: st) (h) := e_bipush dX5_init_5 (by decide)
theorem iX5_init_7 {c : Int32} {Ls st : List Value} {h : AH} (h0 : 0 ≤ c) (h1 : c ≤ 10000) : ev L xs mdX5_init 7 (Ls) (.int c :: st) h = ev L xs mdX5_init 9 (Ls) (.ref (hn h) :: st) (nw h 8 c.toNatClampNeg c.toNatClampNeg) := e_newI dX5_init_7 h0 h1
theorem iX5_init_9 {a v : Nat} {Ls st : List Value} {h : AH} (hk : hK h a = 5) : ev L xs mdX5_init 9 (Ls) (.ref v :: .ref a :: st) h = ev L xs mdX5_init 12 (Ls) (st) (sR h 80 a v) := e_putR (k := 5) (f := 0) (F := 80) dX5_init_9 (by decide +kernel) rfl (by decide +kernel) rfl hk
theorem iX5_init_12 {x : Nat} {Ls st : List Value} {h : AH} : ev L xs mdX5_init 12 (.ref x :: Ls) (st) h = ev L xs mdX5_init 13 (.ref x :: Ls) (.ref x :: st) (h) := e_aload_n dX5_init_12 rfl
theorem iX5_init_13  {Ls st : List Value} {h : AH} : ev L xs mdX5_init 13 (Ls) (st) h = ev L xs mdX5_init 15 (Ls) (.int (nI 6) :: st) (h) := e_bipush dX5_init_13 (by decide)
theorem iX5_init_15 {c : Int32} {Ls st : List Value} {h : AH} (h0 : 0 ≤ c) (h1 : c ≤ 10000) : ev L xs mdX5_init 15 (Ls) (.int c :: st) h = ev L xs mdX5_init 17 (Ls) (.ref (hn h) :: st) (nw h 8 c.toNatClampNeg c.toNatClampNeg) := e_newI dX5_init_15 h0 h1
theorem iX5_init_17 {a v : Nat} {Ls st : List Value} {h : AH} (hk : hK h a = 5) : ev L xs mdX5_init 17 (Ls) (.ref v :: .ref a :: st) h = ev L xs mdX5_init 20 (Ls) (st) (sR h 81 a v) := e_putR (k := 5) (f := 1) (F := 81) dX5_init_17 (by decide +kernel) rfl (by decide +kernel) rfl hk
theorem iX5_init_20 {x : Nat} {Ls st : List Value} {h : AH} : ev L xs mdX5_init 20 (.ref x :: Ls) (st) h = ev L xs mdX5_init 21 (.ref x :: Ls) (.ref x :: st) (h) := e_aload_n dX5_init_20 rfl
theorem iX5_init_21  {Ls st : List Value} {h : AH} : ev L xs mdX5_init 21 (Ls) (st) h = ev L xs mdX5_init 23 (Ls) (.int (nI 8) :: st) (h) := e_bipush dX5_init_21 (by decide)
theorem iX5_init_23 {c : Int32} {Ls st : List Value} {h : AH} (h0 : 0 ≤ c) (h1 : c ≤ 10000) : ev L xs mdX5_init 23 (Ls) (.int c :: st) h = ev L xs mdX5_init 26 (Ls) (.ref (hn h) :: st) (nw h 10 c.toNatClampNeg c.toNatClampNeg) := e_newQ dX5_init_23 (by decide +kernel) h0 h1
theorem iX5_init_26 {a v : Nat} {Ls st : List Value} {h : AH} (hk : hK h a = 5) : ev L xs mdX5_init 26 (Ls) (.ref v :: .ref a :: st) h = ev L xs mdX5_init 29 (Ls) (st) (sR h 83 a v) := e_putR (k := 5) (f := 3) (F := 83) dX5_init_26 (by decide +kernel) rfl (by decide +kernel) rfl hk
theorem iX5_init_29 {x : Nat} {Ls st : List Value} {h : AH} : ev L xs mdX5_init 29 (.ref x :: Ls) (st) h = ev L xs mdX5_init 30 (.ref x :: Ls) (.ref x :: st) (h) := e_aload_n dX5_init_29 rfl
theorem iX5_init_30  {Ls st : List Value} {h : AH} : ev L xs mdX5_init 30 (Ls) (st) h = ev L xs mdX5_init 32 (Ls) (.int (nI 10) :: st) (h) := e_bipush dX5_init_30 (by decide)
theorem iX5_init_32 {c : Int32} {Ls st : List Value} {h : AH} (h0 : 0 ≤ c) (h1 : c ≤ 10000) : ev L xs mdX5_init 32 (Ls) (.int c :: st) h = ev L xs mdX5_init 35 (Ls) (.ref (hn h) :: st) (nw h 9 c.toNatClampNeg c.toNatClampNeg) := e_newQ dX5_init_32 (by decide +kernel) h0 h1
theorem iX5_init_35 {a v : Nat} {Ls st : List Value} {h : AH} (hk : hK h a = 5) : ev L xs mdX5_init 35 (Ls) (.ref v :: .ref a :: st) h = ev L xs mdX5_init 38 (Ls) (st) (sR h 85 a v) := e_putR (k := 5) (f := 5) (F := 85) dX5_init_35 (by decide +kernel) rfl (by decide +kernel) rfl hk
theorem iX5_init_38  {Ls st : List Value} {h : AH} : ev L xs mdX5_init 38 (Ls) (st) h = ev L xs mdX5_init 39 (Ls) (.int (nI 0) :: st) (h) := e_iconst dX5_init_38 (by decide)
theorem iX5_init_39 {v0 : Value} {v1 : Value} {x : Int32} {Ls st : List Value} {h : AH} (hc9 : v0.category = 1) : ev L xs mdX5_init 39 (v0 :: v1 :: Ls) (.int x :: st) h = ev L xs mdX5_init 40 (v0 :: .int x :: Ls) (st) (h) := e_istore_n dX5_init_39 rfl (by decide) (by unfold catOK; show (_ || (v0.category == 1)) = true; rw [hc9]; rfl)
theorem iX5_init_40 {v0 : Value} {x : Int32} {Ls st : List Value} {h : AH} : ev L xs mdX5_init 40 (v0 :: .int x :: Ls) (st) h = ev L xs mdX5_init 41 (v0 :: .int x :: Ls) (.int x :: st) (h) := e_iload_n dX5_init_40 rfl
theorem iX5_init_41  {Ls st : List Value} {h : AH} : ev L xs mdX5_init 41 (Ls) (st) h = ev L xs mdX5_init 43 (Ls) (.int (nI 8) :: st) (h) := e_bipush dX5_init_41 (by decide)
theorem iX5_init_43 {x z : Int32} {Ls st : List Value} {h : AH} : ev L xs mdX5_init 43 Ls (.int z :: .int x :: st) h = if z ≤ x then ev L xs mdX5_init 65 Ls st h else ev L xs mdX5_init 46 Ls st h := e_ic_ge dX5_init_43 (by decide)
theorem iX5_init_46 {x : Nat} {Ls st : List Value} {h : AH} : ev L xs mdX5_init 46 (.ref x :: Ls) (st) h = ev L xs mdX5_init 47 (.ref x :: Ls) (.ref x :: st) (h) := e_aload_n dX5_init_46 rfl
theorem iX5_init_47 {a : Nat} {Ls st : List Value} {h : AH} (hk : hK h a = 5) (hj : (hR h 83 a).isSome = true) : ev L xs mdX5_init 47 (Ls) (.ref a :: st) h = ev L xs mdX5_init 50 (Ls) (.ref ((hR h 83 a).getD 0) :: st) (h) := e_getR (k := 5) (f := 3) (F := 83) dX5_init_47 (by decide +kernel) rfl rfl hk hj
theorem iX5_init_50 {v0 : Value} {x : Int32} {Ls st : List Value} {h : AH} : ev L xs mdX5_init 50 (v0 :: .int x :: Ls) (st) h = ev L xs mdX5_init 51 (v0 :: .int x :: Ls) (.int x :: st) (h) := e_iload_n dX5_init_50 rfl
theorem iX5_init_51  {Ls st : List Value} {h : AH} : ev L xs mdX5_init 51 (Ls) (st) h = ev L xs mdX5_init 54 (Ls) (.ref (hn h) :: st) (nw h 2 0 9) := e_new dX5_init_51 (by decide +kernel)
theorem iX5_init_54 {a : Nat} {Ls st : List Value} {h : AH} : ev L xs mdX5_init 54 (Ls) (.ref a :: st) h = ev L xs mdX5_init 55 (Ls) (.ref a :: .ref a :: st) (h) := e_dup dX5_init_54 rfl
theorem iX5_init_54i {a : Int32} {Ls st : List Value} {h : AH} : ev L xs mdX5_init 54 (Ls) (.int a :: st) h = ev L xs mdX5_init 55 (Ls) (.int a :: .int a :: st) (h) := e_dup dX5_init_54 rfl
theorem iX5_init_55 {a : Nat} {Ls st : List Value} {h : AH} (hk : hK h a = 2) (hw : wds st ≤ 8) : ev L xs mdX5_init 55 Ls (.ref a :: st) h = kn L xs mdX5_init 55 58 Ls st (ev L xs mdX2_init 0 [.ref a] [] h) := e_callI (as := []) dX5_init_55 mr_5_30 (by decide) (by decide) rfl (by simp [wds, Value.category]; decide) rfl (by decide) hk hw
theorem iX5_init_58 {a v : Nat} {j : Int32} {Ls st : List Value} {h : AH} (hk : hK h a = 9 ∨ hK h a = 10 ∨ hK h a = 11) (hi : inA j (hN h a) = true) (hv : hK h v = rowK (hK h a)) : ev L xs mdX5_init 58 (Ls) (.ref v :: .int j :: .ref a :: st) h = ev L xs mdX5_init 59 (Ls) (st) (sQ h a j.toNatClampNeg v) := e_aast dX5_init_58 hk hi hv
theorem iX5_init_59 {v0 : Value} {x : Int32} {Ls st : List Value} {h : AH} (hc9 : v0.category = 1) : ev L xs mdX5_init 59 (v0 :: .int x :: Ls) (st) h = ev L xs mdX5_init 62 (v0 :: .int (x + (nI 1)) :: Ls) (st) (h) := e_iinc dX5_init_59 rfl rfl rfl (by decide) (by unfold catOK; show (_ || (v0.category == 1)) = true; rw [hc9]; rfl)
theorem iX5_init_62  {Ls st : List Value} {h : AH} : ev L xs mdX5_init 62 (Ls) (st) h = ev L xs mdX5_init 40 (Ls) (st) (h) := e_goto dX5_init_62 (by decide)
theorem iX5_init_65  {Ls st : List Value} {h : AH} : ev L xs mdX5_init 65 (Ls) (st) h = ev L xs mdX5_init 66 (Ls) (.int (nI 0) :: st) (h) := e_iconst dX5_init_65 (by decide)
theorem iX5_init_66 {v0 : Value} {v1 : Value} {x : Int32} {Ls st : List Value} {h : AH} (hc9 : v0.category = 1) : ev L xs mdX5_init 66 (v0 :: v1 :: Ls) (.int x :: st) h = ev L xs mdX5_init 67 (v0 :: .int x :: Ls) (st) (h) := e_istore_n dX5_init_66 rfl (by decide) (by unfold catOK; show (_ || (v0.category == 1)) = true; rw [hc9]; rfl)
theorem iX5_init_67 {v0 : Value} {x : Int32} {Ls st : List Value} {h : AH} : ev L xs mdX5_init 67 (v0 :: .int x :: Ls) (st) h = ev L xs mdX5_init 68 (v0 :: .int x :: Ls) (.int x :: st) (h) := e_iload_n dX5_init_67 rfl
theorem iX5_init_68  {Ls st : List Value} {h : AH} : ev L xs mdX5_init 68 (Ls) (st) h = ev L xs mdX5_init 70 (Ls) (.int (nI 10) :: st) (h) := e_bipush dX5_init_68 (by decide)
theorem iX5_init_70 {x z : Int32} {Ls st : List Value} {h : AH} : ev L xs mdX5_init 70 Ls (.int z :: .int x :: st) h = if z ≤ x then ev L xs mdX5_init 92 Ls st h else ev L xs mdX5_init 73 Ls st h := e_ic_ge dX5_init_70 (by decide)
theorem iX5_init_73 {x : Nat} {Ls st : List Value} {h : AH} : ev L xs mdX5_init 73 (.ref x :: Ls) (st) h = ev L xs mdX5_init 74 (.ref x :: Ls) (.ref x :: st) (h) := e_aload_n dX5_init_73 rfl
theorem iX5_init_74 {a : Nat} {Ls st : List Value} {h : AH} (hk : hK h a = 5) (hj : (hR h 85 a).isSome = true) : ev L xs mdX5_init 74 (Ls) (.ref a :: st) h = ev L xs mdX5_init 77 (Ls) (.ref ((hR h 85 a).getD 0) :: st) (h) := e_getR (k := 5) (f := 5) (F := 85) dX5_init_74 (by decide +kernel) rfl rfl hk hj
theorem iX5_init_77 {v0 : Value} {x : Int32} {Ls st : List Value} {h : AH} : ev L xs mdX5_init 77 (v0 :: .int x :: Ls) (st) h = ev L xs mdX5_init 78 (v0 :: .int x :: Ls) (.int x :: st) (h) := e_iload_n dX5_init_77 rfl
theorem iX5_init_78  {Ls st : List Value} {h : AH} : ev L xs mdX5_init 78 (Ls) (st) h = ev L xs mdX5_init 81 (Ls) (.ref (hn h) :: st) (nw h 0 0 9) := e_new dX5_init_78 (by decide +kernel)
theorem iX5_init_81 {a : Nat} {Ls st : List Value} {h : AH} : ev L xs mdX5_init 81 (Ls) (.ref a :: st) h = ev L xs mdX5_init 82 (Ls) (.ref a :: .ref a :: st) (h) := e_dup dX5_init_81 rfl
theorem iX5_init_81i {a : Int32} {Ls st : List Value} {h : AH} : ev L xs mdX5_init 81 (Ls) (.int a :: st) h = ev L xs mdX5_init 82 (Ls) (.int a :: .int a :: st) (h) := e_dup dX5_init_81 rfl
theorem iX5_init_82 {a : Nat} {Ls st : List Value} {h : AH} (hk : hK h a = 0) (hw : wds st ≤ 8) : ev L xs mdX5_init 82 Ls (.ref a :: st) h = kn L xs mdX5_init 82 85 Ls st (ev L xs mdX0_init 0 [.ref a] [] h) := e_callI (as := []) dX5_init_82 mr_5_31 (by decide) (by decide) rfl (by simp [wds, Value.category]; decide) rfl (by decide) hk hw
theorem iX5_init_85 {a v : Nat} {j : Int32} {Ls st : List Value} {h : AH} (hk : hK h a = 9 ∨ hK h a = 10 ∨ hK h a = 11) (hi : inA j (hN h a) = true) (hv : hK h v = rowK (hK h a)) : ev L xs mdX5_init 85 (Ls) (.ref v :: .int j :: .ref a :: st) h = ev L xs mdX5_init 86 (Ls) (st) (sQ h a j.toNatClampNeg v) := e_aast dX5_init_85 hk hi hv
theorem iX5_init_86 {v0 : Value} {x : Int32} {Ls st : List Value} {h : AH} (hc9 : v0.category = 1) : ev L xs mdX5_init 86 (v0 :: .int x :: Ls) (st) h = ev L xs mdX5_init 89 (v0 :: .int (x + (nI 1)) :: Ls) (st) (h) := e_iinc dX5_init_86 rfl rfl rfl (by decide) (by unfold catOK; show (_ || (v0.category == 1)) = true; rw [hc9]; rfl)
theorem iX5_init_89  {Ls st : List Value} {h : AH} : ev L xs mdX5_init 89 (Ls) (st) h = ev L xs mdX5_init 67 (Ls) (st) (h) := e_goto dX5_init_89 (by decide)
theorem iX5_init_92 {Ls : List Value} {h : AH} : ev L xs mdX5_init 92 Ls [] h = some (.inl (none, h)) := e_vret dX5_init_92 rfl
theorem dX5_isSchoolDay_0 : decode cX5_isSchoolDay 0 = .ok (.iload_n 1, 1) := by decide +kernel
theorem dX5_isSchoolDay_1 : decode cX5_isSchoolDay 1 = .ok (.bipush 7, 2) := by decide +kernel
theorem dX5_isSchoolDay_3 : decode cX5_isSchoolDay 3 = .ok (.irem, 1) := by decide +kernel
theorem dX5_isSchoolDay_4 : decode cX5_isSchoolDay 4 = .ok (.iconst 5, 1) := by decide +kernel
theorem dX5_isSchoolDay_5 : decode cX5_isSchoolDay 5 = .ok (.if_icmp .lt 5, 3) := by decide +kernel
theorem dX5_isSchoolDay_8 : decode cX5_isSchoolDay 8 = .ok (.iconst 0, 1) := by decide +kernel
theorem dX5_isSchoolDay_9 : decode cX5_isSchoolDay 9 = .ok (.ireturn, 1) := by decide +kernel
theorem dX5_isSchoolDay_10 : decode cX5_isSchoolDay 10 = .ok (.iconst 0, 1) := by decide +kernel
theorem dX5_isSchoolDay_11 : decode cX5_isSchoolDay 11 = .ok (.istore_n 2, 1) := by decide +kernel
theorem dX5_isSchoolDay_12 : decode cX5_isSchoolDay 12 = .ok (.iload_n 2, 1) := by decide +kernel
theorem dX5_isSchoolDay_13 : decode cX5_isSchoolDay 13 = .ok (.aload_n 0, 1) := by decide +kernel
theorem dX5_isSchoolDay_14 : decode cX5_isSchoolDay 14 = .ok (.getfield 32, 3) := by decide +kernel
theorem dX5_isSchoolDay_17 : decode cX5_isSchoolDay 17 = .ok (.if_icmp .ge 31, 3) := by decide +kernel
theorem dX5_isSchoolDay_20 : decode cX5_isSchoolDay 20 = .ok (.iload_n 1, 1) := by decide +kernel
theorem dX5_isSchoolDay_21 : decode cX5_isSchoolDay 21 = .ok (.aload_n 0, 1) := by decide +kernel
theorem dX5_isSchoolDay_22 : decode cX5_isSchoolDay 22 = .ok (.getfield 9, 3) := by decide +kernel
theorem dX5_isSchoolDay_25 : decode cX5_isSchoolDay 25 = .ok (.iload_n 2, 1) := by decide +kernel
theorem dX5_isSchoolDay_26 : decode cX5_isSchoolDay 26 = .ok (.iaload, 1) := by decide +kernel
theorem dX5_isSchoolDay_27 : decode cX5_isSchoolDay 27 = .ok (.if_icmp .lt 15, 3) := by decide +kernel
theorem dX5_isSchoolDay_30 : decode cX5_isSchoolDay 30 = .ok (.iload_n 1, 1) := by decide +kernel
theorem dX5_isSchoolDay_31 : decode cX5_isSchoolDay 31 = .ok (.aload_n 0, 1) := by decide +kernel
theorem dX5_isSchoolDay_32 : decode cX5_isSchoolDay 32 = .ok (.getfield 15, 3) := by decide +kernel
theorem dX5_isSchoolDay_35 : decode cX5_isSchoolDay 35 = .ok (.iload_n 2, 1) := by decide +kernel
theorem dX5_isSchoolDay_36 : decode cX5_isSchoolDay 36 = .ok (.iaload, 1) := by decide +kernel
theorem dX5_isSchoolDay_37 : decode cX5_isSchoolDay 37 = .ok (.if_icmp .gt 5, 3) := by decide +kernel
theorem dX5_isSchoolDay_40 : decode cX5_isSchoolDay 40 = .ok (.iconst 0, 1) := by decide +kernel
theorem dX5_isSchoolDay_41 : decode cX5_isSchoolDay 41 = .ok (.ireturn, 1) := by decide +kernel
theorem dX5_isSchoolDay_42 : decode cX5_isSchoolDay 42 = .ok (.iinc 2 1, 3) := by decide +kernel
theorem dX5_isSchoolDay_45 : decode cX5_isSchoolDay 45 = .ok (.goto (-33), 3) := by decide +kernel
theorem dX5_isSchoolDay_48 : decode cX5_isSchoolDay 48 = .ok (.iconst 1, 1) := by decide +kernel
theorem dX5_isSchoolDay_49 : decode cX5_isSchoolDay 49 = .ok (.ireturn, 1) := by decide +kernel
theorem iX5_isSchoolDay_0 {v0 : Value} {x : Int32} {Ls st : List Value} {h : AH} : ev L xs mdX5_isSchoolDay 0 (v0 :: .int x :: Ls) (st) h = ev L xs mdX5_isSchoolDay 1 (v0 :: .int x :: Ls) (.int x :: st) (h) := e_iload_n dX5_isSchoolDay_0 rfl
theorem iX5_isSchoolDay_1  {Ls st : List Value} {h : AH} : ev L xs mdX5_isSchoolDay 1 (Ls) (st) h = ev L xs mdX5_isSchoolDay 3 (Ls) (.int (nI 7) :: st) (h) := e_bipush dX5_isSchoolDay_1 (by decide)
theorem iX5_isSchoolDay_3 {x z : Int32} {Ls st : List Value} {h : AH} (hz : ¬ z = 0) : ev L xs mdX5_isSchoolDay 3 (Ls) (.int z :: .int x :: st) h = ev L xs mdX5_isSchoolDay 4 (Ls) (.int (x - x / z * z) :: st) (h) := e_irem dX5_isSchoolDay_3 hz
theorem iX5_isSchoolDay_4  {Ls st : List Value} {h : AH} : ev L xs mdX5_isSchoolDay 4 (Ls) (st) h = ev L xs mdX5_isSchoolDay 5 (Ls) (.int (nI 5) :: st) (h) := e_iconst dX5_isSchoolDay_4 (by decide)
theorem iX5_isSchoolDay_5 {x z : Int32} {Ls st : List Value} {h : AH} : ev L xs mdX5_isSchoolDay 5 Ls (.int z :: .int x :: st) h = if x < z then ev L xs mdX5_isSchoolDay 10 Ls st h else ev L xs mdX5_isSchoolDay 8 Ls st h := e_ic_lt dX5_isSchoolDay_5 (by decide)
theorem iX5_isSchoolDay_8  {Ls st : List Value} {h : AH} : ev L xs mdX5_isSchoolDay 8 (Ls) (st) h = ev L xs mdX5_isSchoolDay 9 (Ls) (.int (nI 0) :: st) (h) := e_iconst dX5_isSchoolDay_8 (by decide)
theorem iX5_isSchoolDay_9 {v : Int32} {Ls : List Value} {h : AH} (hv : v = nI 0 ∨ v = nI 1) : ev L xs mdX5_isSchoolDay 9 Ls [.int v] h = some (.inl (some (.int v), h)) := e_zret dX5_isSchoolDay_9 rfl hv
theorem iX5_isSchoolDay_10  {Ls st : List Value} {h : AH} : ev L xs mdX5_isSchoolDay 10 (Ls) (st) h = ev L xs mdX5_isSchoolDay 11 (Ls) (.int (nI 0) :: st) (h) := e_iconst dX5_isSchoolDay_10 (by decide)
theorem iX5_isSchoolDay_11 {v0 : Value} {v1 : Value} {v2 : Value} {x : Int32} {Ls st : List Value} {h : AH} (hc9 : v1.category = 1) : ev L xs mdX5_isSchoolDay 11 (v0 :: v1 :: v2 :: Ls) (.int x :: st) h = ev L xs mdX5_isSchoolDay 12 (v0 :: v1 :: .int x :: Ls) (st) (h) := e_istore_n dX5_isSchoolDay_11 rfl (by decide) (by unfold catOK; show (_ || (v1.category == 1)) = true; rw [hc9]; rfl)
theorem iX5_isSchoolDay_12 {v0 : Value} {v1 : Value} {x : Int32} {Ls st : List Value} {h : AH} : ev L xs mdX5_isSchoolDay 12 (v0 :: v1 :: .int x :: Ls) (st) h = ev L xs mdX5_isSchoolDay 13 (v0 :: v1 :: .int x :: Ls) (.int x :: st) (h) := e_iload_n dX5_isSchoolDay_12 rfl
theorem iX5_isSchoolDay_13 {x : Nat} {Ls st : List Value} {h : AH} : ev L xs mdX5_isSchoolDay 13 (.ref x :: Ls) (st) h = ev L xs mdX5_isSchoolDay 14 (.ref x :: Ls) (.ref x :: st) (h) := e_aload_n dX5_isSchoolDay_13 rfl
theorem iX5_isSchoolDay_14 {a : Nat} {Ls st : List Value} {h : AH} (hk : hK h a = 5) : ev L xs mdX5_isSchoolDay 14 (Ls) (.ref a :: st) h = ev L xs mdX5_isSchoolDay 17 (Ls) (.int (hI h 82 a) :: st) (h) := e_getI (k := 5) (f := 2) (F := 82) dX5_isSchoolDay_14 (by decide +kernel) rfl rfl hk
theorem iX5_isSchoolDay_17 {x z : Int32} {Ls st : List Value} {h : AH} : ev L xs mdX5_isSchoolDay 17 Ls (.int z :: .int x :: st) h = if z ≤ x then ev L xs mdX5_isSchoolDay 48 Ls st h else ev L xs mdX5_isSchoolDay 20 Ls st h := e_ic_ge dX5_isSchoolDay_17 (by decide)
theorem iX5_isSchoolDay_20 {v0 : Value} {x : Int32} {Ls st : List Value} {h : AH} : ev L xs mdX5_isSchoolDay 20 (v0 :: .int x :: Ls) (st) h = ev L xs mdX5_isSchoolDay 21 (v0 :: .int x :: Ls) (.int x :: st) (h) := e_iload_n dX5_isSchoolDay_20 rfl
theorem iX5_isSchoolDay_21 {x : Nat} {Ls st : List Value} {h : AH} : ev L xs mdX5_isSchoolDay 21 (.ref x :: Ls) (st) h = ev L xs mdX5_isSchoolDay 22 (.ref x :: Ls) (.ref x :: st) (h) := e_aload_n dX5_isSchoolDay_21 rfl
theorem iX5_isSchoolDay_22 {a : Nat} {Ls st : List Value} {h : AH} (hk : hK h a = 5) (hj : (hR h 80 a).isSome = true) : ev L xs mdX5_isSchoolDay 22 (Ls) (.ref a :: st) h = ev L xs mdX5_isSchoolDay 25 (Ls) (.ref ((hR h 80 a).getD 0) :: st) (h) := e_getR (k := 5) (f := 0) (F := 80) dX5_isSchoolDay_22 (by decide +kernel) rfl rfl hk hj
theorem iX5_isSchoolDay_25 {v0 : Value} {v1 : Value} {x : Int32} {Ls st : List Value} {h : AH} : ev L xs mdX5_isSchoolDay 25 (v0 :: v1 :: .int x :: Ls) (st) h = ev L xs mdX5_isSchoolDay 26 (v0 :: v1 :: .int x :: Ls) (.int x :: st) (h) := e_iload_n dX5_isSchoolDay_25 rfl
theorem iX5_isSchoolDay_26 {a : Nat} {j : Int32} {Ls st : List Value} {h : AH} (hk : hK h a = 8) (hi : inA j (hN h a) = true) : ev L xs mdX5_isSchoolDay 26 (Ls) (.int j :: .ref a :: st) h = ev L xs mdX5_isSchoolDay 27 (Ls) (.int (hA h a j.toNatClampNeg) :: st) (h) := e_iald dX5_isSchoolDay_26 hk hi
theorem iX5_isSchoolDay_27 {x z : Int32} {Ls st : List Value} {h : AH} : ev L xs mdX5_isSchoolDay 27 Ls (.int z :: .int x :: st) h = if x < z then ev L xs mdX5_isSchoolDay 42 Ls st h else ev L xs mdX5_isSchoolDay 30 Ls st h := e_ic_lt dX5_isSchoolDay_27 (by decide)
theorem iX5_isSchoolDay_30 {v0 : Value} {x : Int32} {Ls st : List Value} {h : AH} : ev L xs mdX5_isSchoolDay 30 (v0 :: .int x :: Ls) (st) h = ev L xs mdX5_isSchoolDay 31 (v0 :: .int x :: Ls) (.int x :: st) (h) := e_iload_n dX5_isSchoolDay_30 rfl
theorem iX5_isSchoolDay_31 {x : Nat} {Ls st : List Value} {h : AH} : ev L xs mdX5_isSchoolDay 31 (.ref x :: Ls) (st) h = ev L xs mdX5_isSchoolDay 32 (.ref x :: Ls) (.ref x :: st) (h) := e_aload_n dX5_isSchoolDay_31 rfl
theorem iX5_isSchoolDay_32 {a : Nat} {Ls st : List Value} {h : AH} (hk : hK h a = 5) (hj : (hR h 81 a).isSome = true) : ev L xs mdX5_isSchoolDay 32 (Ls) (.ref a :: st) h = ev L xs mdX5_isSchoolDay 35 (Ls) (.ref ((hR h 81 a).getD 0) :: st) (h) := e_getR (k := 5) (f := 1) (F := 81) dX5_isSchoolDay_32 (by decide +kernel) rfl rfl hk hj
theorem iX5_isSchoolDay_35 {v0 : Value} {v1 : Value} {x : Int32} {Ls st : List Value} {h : AH} : ev L xs mdX5_isSchoolDay 35 (v0 :: v1 :: .int x :: Ls) (st) h = ev L xs mdX5_isSchoolDay 36 (v0 :: v1 :: .int x :: Ls) (.int x :: st) (h) := e_iload_n dX5_isSchoolDay_35 rfl
theorem iX5_isSchoolDay_36 {a : Nat} {j : Int32} {Ls st : List Value} {h : AH} (hk : hK h a = 8) (hi : inA j (hN h a) = true) : ev L xs mdX5_isSchoolDay 36 (Ls) (.int j :: .ref a :: st) h = ev L xs mdX5_isSchoolDay 37 (Ls) (.int (hA h a j.toNatClampNeg) :: st) (h) := e_iald dX5_isSchoolDay_36 hk hi
theorem iX5_isSchoolDay_37 {x z : Int32} {Ls st : List Value} {h : AH} : ev L xs mdX5_isSchoolDay 37 Ls (.int z :: .int x :: st) h = if z < x then ev L xs mdX5_isSchoolDay 42 Ls st h else ev L xs mdX5_isSchoolDay 40 Ls st h := e_ic_gt dX5_isSchoolDay_37 (by decide)
theorem iX5_isSchoolDay_40  {Ls st : List Value} {h : AH} : ev L xs mdX5_isSchoolDay 40 (Ls) (st) h = ev L xs mdX5_isSchoolDay 41 (Ls) (.int (nI 0) :: st) (h) := e_iconst dX5_isSchoolDay_40 (by decide)
theorem iX5_isSchoolDay_41 {v : Int32} {Ls : List Value} {h : AH} (hv : v = nI 0 ∨ v = nI 1) : ev L xs mdX5_isSchoolDay 41 Ls [.int v] h = some (.inl (some (.int v), h)) := e_zret dX5_isSchoolDay_41 rfl hv
theorem iX5_isSchoolDay_42 {v0 : Value} {v1 : Value} {x : Int32} {Ls st : List Value} {h : AH} (hc9 : v1.category = 1) : ev L xs mdX5_isSchoolDay 42 (v0 :: v1 :: .int x :: Ls) (st) h = ev L xs mdX5_isSchoolDay 45 (v0 :: v1 :: .int (x + (nI 1)) :: Ls) (st) (h) := e_iinc dX5_isSchoolDay_42 rfl rfl rfl (by decide) (by unfold catOK; show (_ || (v1.category == 1)) = true; rw [hc9]; rfl)
theorem iX5_isSchoolDay_45  {Ls st : List Value} {h : AH} : ev L xs mdX5_isSchoolDay 45 (Ls) (st) h = ev L xs mdX5_isSchoolDay 12 (Ls) (st) (h) := e_goto dX5_isSchoolDay_45 (by decide)
theorem iX5_isSchoolDay_48  {Ls st : List Value} {h : AH} : ev L xs mdX5_isSchoolDay 48 (Ls) (st) h = ev L xs mdX5_isSchoolDay 49 (Ls) (.int (nI 1) :: st) (h) := e_iconst dX5_isSchoolDay_48 (by decide)
theorem iX5_isSchoolDay_49 {v : Int32} {Ls : List Value} {h : AH} (hv : v = nI 0 ∨ v = nI 1) : ev L xs mdX5_isSchoolDay 49 Ls [.int v] h = some (.inl (some (.int v), h)) := e_zret dX5_isSchoolDay_49 rfl hv
theorem dX5_neededPosts_0 : decode cX5_neededPosts 0 = .ok (.iconst 0, 1) := by decide +kernel
theorem dX5_neededPosts_1 : decode cX5_neededPosts 1 = .ok (.istore_n 3, 1) := by decide +kernel
theorem dX5_neededPosts_2 : decode cX5_neededPosts 2 = .ok (.aload_n 0, 1) := by decide +kernel
theorem dX5_neededPosts_3 : decode cX5_neededPosts 3 = .ok (.iload_n 1, 1) := by decide +kernel
theorem dX5_neededPosts_4 : decode cX5_neededPosts 4 = .ok (.invokevirtual 96, 3) := by decide +kernel
theorem dX5_neededPosts_7 : decode cX5_neededPosts 7 = .ok (.ifCond .eq 52, 3) := by decide +kernel
theorem dX5_neededPosts_10 : decode cX5_neededPosts 10 = .ok (.iconst 2, 1) := by decide +kernel
theorem dX5_neededPosts_11 : decode cX5_neededPosts 11 = .ok (.iload_n 1, 1) := by decide +kernel
theorem dX5_neededPosts_12 : decode cX5_neededPosts 12 = .ok (.bipush 7, 2) := by decide +kernel
theorem dX5_neededPosts_14 : decode cX5_neededPosts 14 = .ok (.irem, 1) := by decide +kernel
theorem dX5_neededPosts_15 : decode cX5_neededPosts 15 = .ok (.imul, 1) := by decide +kernel
theorem dX5_neededPosts_16 : decode cX5_neededPosts 16 = .ok (.iload_n 2, 1) := by decide +kernel
theorem dX5_neededPosts_17 : decode cX5_neededPosts 17 = .ok (.iadd, 1) := by decide +kernel
theorem dX5_neededPosts_18 : decode cX5_neededPosts 18 = .ok (.istore 4, 2) := by decide +kernel
theorem dX5_neededPosts_20 : decode cX5_neededPosts 20 = .ok (.iconst 0, 1) := by decide +kernel
theorem dX5_neededPosts_21 : decode cX5_neededPosts 21 = .ok (.istore 5, 2) := by decide +kernel
theorem dX5_neededPosts_23 : decode cX5_neededPosts 23 = .ok (.iload 5, 2) := by decide +kernel
theorem dX5_neededPosts_25 : decode cX5_neededPosts 25 = .ok (.aload_n 0, 1) := by decide +kernel
theorem dX5_neededPosts_26 : decode cX5_neededPosts 26 = .ok (.getfield 36, 3) := by decide +kernel
theorem dX5_neededPosts_29 : decode cX5_neededPosts 29 = .ok (.if_icmp .ge 30, 3) := by decide +kernel
theorem dX5_neededPosts_32 : decode cX5_neededPosts 32 = .ok (.iload_n 3, 1) := by decide +kernel
theorem dX5_neededPosts_33 : decode cX5_neededPosts 33 = .ok (.aload_n 0, 1) := by decide +kernel
theorem dX5_neededPosts_34 : decode cX5_neededPosts 34 = .ok (.getfield 20, 3) := by decide +kernel
theorem dX5_neededPosts_37 : decode cX5_neededPosts 37 = .ok (.iload 5, 2) := by decide +kernel
theorem dX5_neededPosts_39 : decode cX5_neededPosts 39 = .ok (.aaload, 1) := by decide +kernel
theorem dX5_neededPosts_40 : decode cX5_neededPosts 40 = .ok (.getfield 99, 3) := by decide +kernel
theorem dX5_neededPosts_43 : decode cX5_neededPosts 43 = .ok (.iload 4, 2) := by decide +kernel
theorem dX5_neededPosts_45 : decode cX5_neededPosts 45 = .ok (.ishr, 1) := by decide +kernel
theorem dX5_neededPosts_46 : decode cX5_neededPosts 46 = .ok (.iconst 1, 1) := by decide +kernel
theorem dX5_neededPosts_47 : decode cX5_neededPosts 47 = .ok (.iand, 1) := by decide +kernel
theorem dX5_neededPosts_48 : decode cX5_neededPosts 48 = .ok (.iload 5, 2) := by decide +kernel
theorem dX5_neededPosts_50 : decode cX5_neededPosts 50 = .ok (.ishl, 1) := by decide +kernel
theorem dX5_neededPosts_51 : decode cX5_neededPosts 51 = .ok (.ior, 1) := by decide +kernel
theorem dX5_neededPosts_52 : decode cX5_neededPosts 52 = .ok (.istore_n 3, 1) := by decide +kernel
theorem dX5_neededPosts_53 : decode cX5_neededPosts 53 = .ok (.iinc 5 1, 3) := by decide +kernel
theorem dX5_neededPosts_56 : decode cX5_neededPosts 56 = .ok (.goto (-33), 3) := by decide +kernel
theorem dX5_neededPosts_59 : decode cX5_neededPosts 59 = .ok (.iload_n 3, 1) := by decide +kernel
theorem dX5_neededPosts_60 : decode cX5_neededPosts 60 = .ok (.ireturn, 1) := by decide +kernel
theorem iX5_neededPosts_0  {Ls st : List Value} {h : AH} : ev L xs mdX5_neededPosts 0 (Ls) (st) h = ev L xs mdX5_neededPosts 1 (Ls) (.int (nI 0) :: st) (h) := e_iconst dX5_neededPosts_0 (by decide)
theorem iX5_neededPosts_1 {v0 : Value} {v1 : Value} {v2 : Value} {v3 : Value} {x : Int32} {Ls st : List Value} {h : AH} (hc9 : v2.category = 1) : ev L xs mdX5_neededPosts 1 (v0 :: v1 :: v2 :: v3 :: Ls) (.int x :: st) h = ev L xs mdX5_neededPosts 2 (v0 :: v1 :: v2 :: .int x :: Ls) (st) (h) := e_istore_n dX5_neededPosts_1 rfl (by decide) (by unfold catOK; show (_ || (v2.category == 1)) = true; rw [hc9]; rfl)
theorem iX5_neededPosts_2 {x : Nat} {Ls st : List Value} {h : AH} : ev L xs mdX5_neededPosts 2 (.ref x :: Ls) (st) h = ev L xs mdX5_neededPosts 3 (.ref x :: Ls) (.ref x :: st) (h) := e_aload_n dX5_neededPosts_2 rfl
theorem iX5_neededPosts_3 {v0 : Value} {x : Int32} {Ls st : List Value} {h : AH} : ev L xs mdX5_neededPosts 3 (v0 :: .int x :: Ls) (st) h = ev L xs mdX5_neededPosts 4 (v0 :: .int x :: Ls) (.int x :: st) (h) := e_iload_n dX5_neededPosts_3 rfl
theorem iX5_neededPosts_4 {a : Nat} {p0 : Int32} {Ls st : List Value} {h : AH} (hk : hK h a = 5) (hw : wds st ≤ 8) : ev L xs mdX5_neededPosts 4 Ls (.int p0 :: .ref a :: st) h = kn L xs mdX5_neededPosts 4 7 Ls st (ev L xs mdX5_isSchoolDay 0 [.ref a, .int p0, .null] [] h) := e_callV (as := [.int p0]) dX5_neededPosts_4 mr_5_96 (by decide) (by decide) rfl (by simp [wds, Value.category]; decide) rfl (by decide) hk hw
theorem iX5_neededPosts_7 {x : Int32} {Ls st : List Value} {h : AH} : ev L xs mdX5_neededPosts 7 Ls (.int x :: st) h = if x = nI 0 then ev L xs mdX5_neededPosts 59 Ls st h else ev L xs mdX5_neededPosts 10 Ls st h := e_if_eq dX5_neededPosts_7 (by decide)
theorem iX5_neededPosts_10  {Ls st : List Value} {h : AH} : ev L xs mdX5_neededPosts 10 (Ls) (st) h = ev L xs mdX5_neededPosts 11 (Ls) (.int (nI 2) :: st) (h) := e_iconst dX5_neededPosts_10 (by decide)
theorem iX5_neededPosts_11 {v0 : Value} {x : Int32} {Ls st : List Value} {h : AH} : ev L xs mdX5_neededPosts 11 (v0 :: .int x :: Ls) (st) h = ev L xs mdX5_neededPosts 12 (v0 :: .int x :: Ls) (.int x :: st) (h) := e_iload_n dX5_neededPosts_11 rfl
theorem iX5_neededPosts_12  {Ls st : List Value} {h : AH} : ev L xs mdX5_neededPosts 12 (Ls) (st) h = ev L xs mdX5_neededPosts 14 (Ls) (.int (nI 7) :: st) (h) := e_bipush dX5_neededPosts_12 (by decide)
theorem iX5_neededPosts_14 {x z : Int32} {Ls st : List Value} {h : AH} (hz : ¬ z = 0) : ev L xs mdX5_neededPosts 14 (Ls) (.int z :: .int x :: st) h = ev L xs mdX5_neededPosts 15 (Ls) (.int (x - x / z * z) :: st) (h) := e_irem dX5_neededPosts_14 hz
theorem iX5_neededPosts_15 {x z : Int32} {Ls st : List Value} {h : AH} : ev L xs mdX5_neededPosts 15 (Ls) (.int z :: .int x :: st) h = ev L xs mdX5_neededPosts 16 (Ls) (.int (x * z) :: st) (h) := e_imul dX5_neededPosts_15
theorem iX5_neededPosts_16 {v0 : Value} {v1 : Value} {x : Int32} {Ls st : List Value} {h : AH} : ev L xs mdX5_neededPosts 16 (v0 :: v1 :: .int x :: Ls) (st) h = ev L xs mdX5_neededPosts 17 (v0 :: v1 :: .int x :: Ls) (.int x :: st) (h) := e_iload_n dX5_neededPosts_16 rfl
theorem iX5_neededPosts_17 {x z : Int32} {Ls st : List Value} {h : AH} : ev L xs mdX5_neededPosts 17 (Ls) (.int z :: .int x :: st) h = ev L xs mdX5_neededPosts 18 (Ls) (.int (x + z) :: st) (h) := e_iadd dX5_neededPosts_17
theorem iX5_neededPosts_18 {v0 : Value} {v1 : Value} {v2 : Value} {v3 : Value} {v4 : Value} {x : Int32} {Ls st : List Value} {h : AH} (hc9 : v3.category = 1) : ev L xs mdX5_neededPosts 18 (v0 :: v1 :: v2 :: v3 :: v4 :: Ls) (.int x :: st) h = ev L xs mdX5_neededPosts 20 (v0 :: v1 :: v2 :: v3 :: .int x :: Ls) (st) (h) := e_istore dX5_neededPosts_18 rfl (by decide) (by unfold catOK; show (_ || (v3.category == 1)) = true; rw [hc9]; rfl)
theorem iX5_neededPosts_20  {Ls st : List Value} {h : AH} : ev L xs mdX5_neededPosts 20 (Ls) (st) h = ev L xs mdX5_neededPosts 21 (Ls) (.int (nI 0) :: st) (h) := e_iconst dX5_neededPosts_20 (by decide)
theorem iX5_neededPosts_21 {v0 : Value} {v1 : Value} {v2 : Value} {v3 : Value} {v4 : Value} {v5 : Value} {x : Int32} {Ls st : List Value} {h : AH} (hc9 : v4.category = 1) : ev L xs mdX5_neededPosts 21 (v0 :: v1 :: v2 :: v3 :: v4 :: v5 :: Ls) (.int x :: st) h = ev L xs mdX5_neededPosts 23 (v0 :: v1 :: v2 :: v3 :: v4 :: .int x :: Ls) (st) (h) := e_istore dX5_neededPosts_21 rfl (by decide) (by unfold catOK; show (_ || (v4.category == 1)) = true; rw [hc9]; rfl)
theorem iX5_neededPosts_23 {v0 : Value} {v1 : Value} {v2 : Value} {v3 : Value} {v4 : Value} {x : Int32} {Ls st : List Value} {h : AH} : ev L xs mdX5_neededPosts 23 (v0 :: v1 :: v2 :: v3 :: v4 :: .int x :: Ls) (st) h = ev L xs mdX5_neededPosts 25 (v0 :: v1 :: v2 :: v3 :: v4 :: .int x :: Ls) (.int x :: st) (h) := e_iload dX5_neededPosts_23 rfl
theorem iX5_neededPosts_25 {x : Nat} {Ls st : List Value} {h : AH} : ev L xs mdX5_neededPosts 25 (.ref x :: Ls) (st) h = ev L xs mdX5_neededPosts 26 (.ref x :: Ls) (.ref x :: st) (h) := e_aload_n dX5_neededPosts_25 rfl
theorem iX5_neededPosts_26 {a : Nat} {Ls st : List Value} {h : AH} (hk : hK h a = 5) : ev L xs mdX5_neededPosts 26 (Ls) (.ref a :: st) h = ev L xs mdX5_neededPosts 29 (Ls) (.int (hI h 84 a) :: st) (h) := e_getI (k := 5) (f := 4) (F := 84) dX5_neededPosts_26 (by decide +kernel) rfl rfl hk
theorem iX5_neededPosts_29 {x z : Int32} {Ls st : List Value} {h : AH} : ev L xs mdX5_neededPosts 29 Ls (.int z :: .int x :: st) h = if z ≤ x then ev L xs mdX5_neededPosts 59 Ls st h else ev L xs mdX5_neededPosts 32 Ls st h := e_ic_ge dX5_neededPosts_29 (by decide)
theorem iX5_neededPosts_32 {v0 : Value} {v1 : Value} {v2 : Value} {x : Int32} {Ls st : List Value} {h : AH} : ev L xs mdX5_neededPosts 32 (v0 :: v1 :: v2 :: .int x :: Ls) (st) h = ev L xs mdX5_neededPosts 33 (v0 :: v1 :: v2 :: .int x :: Ls) (.int x :: st) (h) := e_iload_n dX5_neededPosts_32 rfl
theorem iX5_neededPosts_33 {x : Nat} {Ls st : List Value} {h : AH} : ev L xs mdX5_neededPosts 33 (.ref x :: Ls) (st) h = ev L xs mdX5_neededPosts 34 (.ref x :: Ls) (.ref x :: st) (h) := e_aload_n dX5_neededPosts_33 rfl
theorem iX5_neededPosts_34 {a : Nat} {Ls st : List Value} {h : AH} (hk : hK h a = 5) (hj : (hR h 83 a).isSome = true) : ev L xs mdX5_neededPosts 34 (Ls) (.ref a :: st) h = ev L xs mdX5_neededPosts 37 (Ls) (.ref ((hR h 83 a).getD 0) :: st) (h) := e_getR (k := 5) (f := 3) (F := 83) dX5_neededPosts_34 (by decide +kernel) rfl rfl hk hj
theorem iX5_neededPosts_37 {v0 : Value} {v1 : Value} {v2 : Value} {v3 : Value} {v4 : Value} {x : Int32} {Ls st : List Value} {h : AH} : ev L xs mdX5_neededPosts 37 (v0 :: v1 :: v2 :: v3 :: v4 :: .int x :: Ls) (st) h = ev L xs mdX5_neededPosts 39 (v0 :: v1 :: v2 :: v3 :: v4 :: .int x :: Ls) (.int x :: st) (h) := e_iload dX5_neededPosts_37 rfl
theorem iX5_neededPosts_39 {a : Nat} {j : Int32} {Ls st : List Value} {h : AH} (hk : hK h a = 9 ∨ hK h a = 10 ∨ hK h a = 11) (hi : inA j (hN h a) = true) (hq : (hQ h a j.toNatClampNeg).isSome = true) : ev L xs mdX5_neededPosts 39 (Ls) (.int j :: .ref a :: st) h = ev L xs mdX5_neededPosts 40 (Ls) (.ref ((hQ h a j.toNatClampNeg).getD 0) :: st) (h) := e_aald dX5_neededPosts_39 hk hi hq
theorem iX5_neededPosts_40 {a : Nat} {Ls st : List Value} {h : AH} (hk : hK h a = 2) : ev L xs mdX5_neededPosts 40 (Ls) (.ref a :: st) h = ev L xs mdX5_neededPosts 43 (Ls) (.int (hI h 33 a) :: st) (h) := e_getI (k := 2) (f := 1) (F := 33) dX5_neededPosts_40 (by decide +kernel) rfl rfl hk
theorem iX5_neededPosts_43 {v0 : Value} {v1 : Value} {v2 : Value} {v3 : Value} {x : Int32} {Ls st : List Value} {h : AH} : ev L xs mdX5_neededPosts 43 (v0 :: v1 :: v2 :: v3 :: .int x :: Ls) (st) h = ev L xs mdX5_neededPosts 45 (v0 :: v1 :: v2 :: v3 :: .int x :: Ls) (.int x :: st) (h) := e_iload dX5_neededPosts_43 rfl
theorem iX5_neededPosts_45 {x z : Int32} {Ls st : List Value} {h : AH} : ev L xs mdX5_neededPosts 45 (Ls) (.int z :: .int x :: st) h = ev L xs mdX5_neededPosts 46 (Ls) (.int (x >>> (z &&& nI 31)) :: st) (h) := e_ishr dX5_neededPosts_45
theorem iX5_neededPosts_46  {Ls st : List Value} {h : AH} : ev L xs mdX5_neededPosts 46 (Ls) (st) h = ev L xs mdX5_neededPosts 47 (Ls) (.int (nI 1) :: st) (h) := e_iconst dX5_neededPosts_46 (by decide)
theorem iX5_neededPosts_47 {x z : Int32} {Ls st : List Value} {h : AH} : ev L xs mdX5_neededPosts 47 (Ls) (.int z :: .int x :: st) h = ev L xs mdX5_neededPosts 48 (Ls) (.int (x &&& z) :: st) (h) := e_iand dX5_neededPosts_47
theorem iX5_neededPosts_48 {v0 : Value} {v1 : Value} {v2 : Value} {v3 : Value} {v4 : Value} {x : Int32} {Ls st : List Value} {h : AH} : ev L xs mdX5_neededPosts 48 (v0 :: v1 :: v2 :: v3 :: v4 :: .int x :: Ls) (st) h = ev L xs mdX5_neededPosts 50 (v0 :: v1 :: v2 :: v3 :: v4 :: .int x :: Ls) (.int x :: st) (h) := e_iload dX5_neededPosts_48 rfl
theorem iX5_neededPosts_50 {x z : Int32} {Ls st : List Value} {h : AH} : ev L xs mdX5_neededPosts 50 (Ls) (.int z :: .int x :: st) h = ev L xs mdX5_neededPosts 51 (Ls) (.int (x <<< (z &&& nI 31)) :: st) (h) := e_ishl dX5_neededPosts_50
theorem iX5_neededPosts_51 {x z : Int32} {Ls st : List Value} {h : AH} : ev L xs mdX5_neededPosts 51 (Ls) (.int z :: .int x :: st) h = ev L xs mdX5_neededPosts 52 (Ls) (.int (x ||| z) :: st) (h) := e_ior dX5_neededPosts_51
theorem iX5_neededPosts_52 {v0 : Value} {v1 : Value} {v2 : Value} {v3 : Value} {x : Int32} {Ls st : List Value} {h : AH} (hc9 : v2.category = 1) : ev L xs mdX5_neededPosts 52 (v0 :: v1 :: v2 :: v3 :: Ls) (.int x :: st) h = ev L xs mdX5_neededPosts 53 (v0 :: v1 :: v2 :: .int x :: Ls) (st) (h) := e_istore_n dX5_neededPosts_52 rfl (by decide) (by unfold catOK; show (_ || (v2.category == 1)) = true; rw [hc9]; rfl)
theorem iX5_neededPosts_53 {v0 : Value} {v1 : Value} {v2 : Value} {v3 : Value} {v4 : Value} {x : Int32} {Ls st : List Value} {h : AH} (hc9 : v4.category = 1) : ev L xs mdX5_neededPosts 53 (v0 :: v1 :: v2 :: v3 :: v4 :: .int x :: Ls) (st) h = ev L xs mdX5_neededPosts 56 (v0 :: v1 :: v2 :: v3 :: v4 :: .int (x + (nI 1)) :: Ls) (st) (h) := e_iinc dX5_neededPosts_53 rfl rfl rfl (by decide) (by unfold catOK; show (_ || (v4.category == 1)) = true; rw [hc9]; rfl)
theorem iX5_neededPosts_56  {Ls st : List Value} {h : AH} : ev L xs mdX5_neededPosts 56 (Ls) (st) h = ev L xs mdX5_neededPosts 23 (Ls) (st) (h) := e_goto dX5_neededPosts_56 (by decide)
theorem iX5_neededPosts_59 {v0 : Value} {v1 : Value} {v2 : Value} {x : Int32} {Ls st : List Value} {h : AH} : ev L xs mdX5_neededPosts 59 (v0 :: v1 :: v2 :: .int x :: Ls) (st) h = ev L xs mdX5_neededPosts 60 (v0 :: v1 :: v2 :: .int x :: Ls) (.int x :: st) (h) := e_iload_n dX5_neededPosts_59 rfl
theorem iX5_neededPosts_60 {v : Int32} {Ls : List Value} {h : AH} : ev L xs mdX5_neededPosts 60 Ls [.int v] h = some (.inl (some (.int v), h)) := e_iret dX5_neededPosts_60 rfl
theorem dX5_newGuard_0 : decode cX5_newGuard 0 = .ok (.aload_n 0, 1) := by decide +kernel
theorem dX5_newGuard_1 : decode cX5_newGuard 1 = .ok (.getfield 26, 3) := by decide +kernel
theorem dX5_newGuard_4 : decode cX5_newGuard 4 = .ok (.aload_n 0, 1) := by decide +kernel
theorem dX5_newGuard_5 : decode cX5_newGuard 5 = .ok (.getfield 39, 3) := by decide +kernel
theorem dX5_newGuard_8 : decode cX5_newGuard 8 = .ok (.aaload, 1) := by decide +kernel
theorem dX5_newGuard_9 : decode cX5_newGuard 9 = .ok (.iload_n 1, 1) := by decide +kernel
theorem dX5_newGuard_10 : decode cX5_newGuard 10 = .ok (.iload_n 2, 1) := by decide +kernel
theorem dX5_newGuard_11 : decode cX5_newGuard 11 = .ok (.iload_n 3, 1) := by decide +kernel
theorem dX5_newGuard_12 : decode cX5_newGuard 12 = .ok (.invokevirtual 72, 3) := by decide +kernel
theorem dX5_newGuard_15 : decode cX5_newGuard 15 = .ok (.aload_n 0, 1) := by decide +kernel
theorem dX5_newGuard_16 : decode cX5_newGuard 16 = .ok (.dup, 1) := by decide +kernel
theorem dX5_newGuard_17 : decode cX5_newGuard 17 = .ok (.getfield 39, 3) := by decide +kernel
theorem dX5_newGuard_20 : decode cX5_newGuard 20 = .ok (.iconst 1, 1) := by decide +kernel
theorem dX5_newGuard_21 : decode cX5_newGuard 21 = .ok (.iadd, 1) := by decide +kernel
theorem dX5_newGuard_22 : decode cX5_newGuard 22 = .ok (.putfield 39, 3) := by decide +kernel
theorem dX5_newGuard_25 : decode cX5_newGuard 25 = .ok (.aload_n 0, 1) := by decide +kernel
theorem dX5_newGuard_26 : decode cX5_newGuard 26 = .ok (.getfield 39, 3) := by decide +kernel
theorem dX5_newGuard_29 : decode cX5_newGuard 29 = .ok (.iconst 1, 1) := by decide +kernel
theorem dX5_newGuard_30 : decode cX5_newGuard 30 = .ok (.isub, 1) := by decide +kernel
theorem dX5_newGuard_31 : decode cX5_newGuard 31 = .ok (.ireturn, 1) := by decide +kernel
theorem iX5_newGuard_0 {x : Nat} {Ls st : List Value} {h : AH} : ev L xs mdX5_newGuard 0 (.ref x :: Ls) (st) h = ev L xs mdX5_newGuard 1 (.ref x :: Ls) (.ref x :: st) (h) := e_aload_n dX5_newGuard_0 rfl
theorem iX5_newGuard_1 {a : Nat} {Ls st : List Value} {h : AH} (hk : hK h a = 5) (hj : (hR h 85 a).isSome = true) : ev L xs mdX5_newGuard 1 (Ls) (.ref a :: st) h = ev L xs mdX5_newGuard 4 (Ls) (.ref ((hR h 85 a).getD 0) :: st) (h) := e_getR (k := 5) (f := 5) (F := 85) dX5_newGuard_1 (by decide +kernel) rfl rfl hk hj
theorem iX5_newGuard_4 {x : Nat} {Ls st : List Value} {h : AH} : ev L xs mdX5_newGuard 4 (.ref x :: Ls) (st) h = ev L xs mdX5_newGuard 5 (.ref x :: Ls) (.ref x :: st) (h) := e_aload_n dX5_newGuard_4 rfl
theorem iX5_newGuard_5 {a : Nat} {Ls st : List Value} {h : AH} (hk : hK h a = 5) : ev L xs mdX5_newGuard 5 (Ls) (.ref a :: st) h = ev L xs mdX5_newGuard 8 (Ls) (.int (hI h 86 a) :: st) (h) := e_getI (k := 5) (f := 6) (F := 86) dX5_newGuard_5 (by decide +kernel) rfl rfl hk
theorem iX5_newGuard_8 {a : Nat} {j : Int32} {Ls st : List Value} {h : AH} (hk : hK h a = 9 ∨ hK h a = 10 ∨ hK h a = 11) (hi : inA j (hN h a) = true) (hq : (hQ h a j.toNatClampNeg).isSome = true) : ev L xs mdX5_newGuard 8 (Ls) (.int j :: .ref a :: st) h = ev L xs mdX5_newGuard 9 (Ls) (.ref ((hQ h a j.toNatClampNeg).getD 0) :: st) (h) := e_aald dX5_newGuard_8 hk hi hq
theorem iX5_newGuard_9 {v0 : Value} {x : Int32} {Ls st : List Value} {h : AH} : ev L xs mdX5_newGuard 9 (v0 :: .int x :: Ls) (st) h = ev L xs mdX5_newGuard 10 (v0 :: .int x :: Ls) (.int x :: st) (h) := e_iload_n dX5_newGuard_9 rfl
theorem iX5_newGuard_10 {v0 : Value} {v1 : Value} {x : Int32} {Ls st : List Value} {h : AH} : ev L xs mdX5_newGuard 10 (v0 :: v1 :: .int x :: Ls) (st) h = ev L xs mdX5_newGuard 11 (v0 :: v1 :: .int x :: Ls) (.int x :: st) (h) := e_iload_n dX5_newGuard_10 rfl
theorem iX5_newGuard_11 {v0 : Value} {v1 : Value} {v2 : Value} {x : Int32} {Ls st : List Value} {h : AH} : ev L xs mdX5_newGuard 11 (v0 :: v1 :: v2 :: .int x :: Ls) (st) h = ev L xs mdX5_newGuard 12 (v0 :: v1 :: v2 :: .int x :: Ls) (.int x :: st) (h) := e_iload_n dX5_newGuard_11 rfl
theorem iX5_newGuard_12 {a : Nat} {p0 : Int32} {p1 : Int32} {p2 : Int32} {Ls st : List Value} {h : AH} (hk : hK h a = 0) (hw : wds st ≤ 8) : ev L xs mdX5_newGuard 12 Ls (.int p2 :: .int p1 :: .int p0 :: .ref a :: st) h = kn L xs mdX5_newGuard 12 15 Ls st (ev L xs mdX0_begin 0 [.ref a, .int p0, .int p1, .int p2] [] h) := e_callV (as := [.int p2, .int p1, .int p0]) dX5_newGuard_12 mr_5_72 (by decide) (by decide) rfl (by simp [wds, Value.category]; decide) rfl (by decide) hk hw
theorem iX5_newGuard_15 {x : Nat} {Ls st : List Value} {h : AH} : ev L xs mdX5_newGuard 15 (.ref x :: Ls) (st) h = ev L xs mdX5_newGuard 16 (.ref x :: Ls) (.ref x :: st) (h) := e_aload_n dX5_newGuard_15 rfl
theorem iX5_newGuard_16 {a : Nat} {Ls st : List Value} {h : AH} : ev L xs mdX5_newGuard 16 (Ls) (.ref a :: st) h = ev L xs mdX5_newGuard 17 (Ls) (.ref a :: .ref a :: st) (h) := e_dup dX5_newGuard_16 rfl
theorem iX5_newGuard_16i {a : Int32} {Ls st : List Value} {h : AH} : ev L xs mdX5_newGuard 16 (Ls) (.int a :: st) h = ev L xs mdX5_newGuard 17 (Ls) (.int a :: .int a :: st) (h) := e_dup dX5_newGuard_16 rfl
theorem iX5_newGuard_17 {a : Nat} {Ls st : List Value} {h : AH} (hk : hK h a = 5) : ev L xs mdX5_newGuard 17 (Ls) (.ref a :: st) h = ev L xs mdX5_newGuard 20 (Ls) (.int (hI h 86 a) :: st) (h) := e_getI (k := 5) (f := 6) (F := 86) dX5_newGuard_17 (by decide +kernel) rfl rfl hk
theorem iX5_newGuard_20  {Ls st : List Value} {h : AH} : ev L xs mdX5_newGuard 20 (Ls) (st) h = ev L xs mdX5_newGuard 21 (Ls) (.int (nI 1) :: st) (h) := e_iconst dX5_newGuard_20 (by decide)
theorem iX5_newGuard_21 {x z : Int32} {Ls st : List Value} {h : AH} : ev L xs mdX5_newGuard 21 (Ls) (.int z :: .int x :: st) h = ev L xs mdX5_newGuard 22 (Ls) (.int (x + z) :: st) (h) := e_iadd dX5_newGuard_21
theorem iX5_newGuard_22 {a : Nat} {v : Int32} {Ls st : List Value} {h : AH} (hk : hK h a = 5) : ev L xs mdX5_newGuard 22 (Ls) (.int v :: .ref a :: st) h = ev L xs mdX5_newGuard 25 (Ls) (st) (sI h 86 a v) := e_putI (k := 5) (f := 6) (F := 86) dX5_newGuard_22 (by decide +kernel) rfl (by decide +kernel) rfl hk
theorem iX5_newGuard_25 {x : Nat} {Ls st : List Value} {h : AH} : ev L xs mdX5_newGuard 25 (.ref x :: Ls) (st) h = ev L xs mdX5_newGuard 26 (.ref x :: Ls) (.ref x :: st) (h) := e_aload_n dX5_newGuard_25 rfl
theorem iX5_newGuard_26 {a : Nat} {Ls st : List Value} {h : AH} (hk : hK h a = 5) : ev L xs mdX5_newGuard 26 (Ls) (.ref a :: st) h = ev L xs mdX5_newGuard 29 (Ls) (.int (hI h 86 a) :: st) (h) := e_getI (k := 5) (f := 6) (F := 86) dX5_newGuard_26 (by decide +kernel) rfl rfl hk
theorem iX5_newGuard_29  {Ls st : List Value} {h : AH} : ev L xs mdX5_newGuard 29 (Ls) (st) h = ev L xs mdX5_newGuard 30 (Ls) (.int (nI 1) :: st) (h) := e_iconst dX5_newGuard_29 (by decide)
theorem iX5_newGuard_30 {x z : Int32} {Ls st : List Value} {h : AH} : ev L xs mdX5_newGuard 30 (Ls) (.int z :: .int x :: st) h = ev L xs mdX5_newGuard 31 (Ls) (.int (x - z) :: st) (h) := e_isub dX5_newGuard_30
theorem iX5_newGuard_31 {v : Int32} {Ls : List Value} {h : AH} : ev L xs mdX5_newGuard 31 Ls [.int v] h = some (.inl (some (.int v), h)) := e_iret dX5_newGuard_31 rfl
theorem dX5_newHoliday_0 : decode cX5_newHoliday 0 = .ok (.aload_n 0, 1) := by decide +kernel
theorem dX5_newHoliday_1 : decode cX5_newHoliday 1 = .ok (.getfield 9, 3) := by decide +kernel
theorem dX5_newHoliday_4 : decode cX5_newHoliday 4 = .ok (.aload_n 0, 1) := by decide +kernel
theorem dX5_newHoliday_5 : decode cX5_newHoliday 5 = .ok (.getfield 32, 3) := by decide +kernel
theorem dX5_newHoliday_8 : decode cX5_newHoliday 8 = .ok (.iload_n 1, 1) := by decide +kernel
theorem dX5_newHoliday_9 : decode cX5_newHoliday 9 = .ok (.iastore, 1) := by decide +kernel
theorem dX5_newHoliday_10 : decode cX5_newHoliday 10 = .ok (.aload_n 0, 1) := by decide +kernel
theorem dX5_newHoliday_11 : decode cX5_newHoliday 11 = .ok (.getfield 15, 3) := by decide +kernel
theorem dX5_newHoliday_14 : decode cX5_newHoliday 14 = .ok (.aload_n 0, 1) := by decide +kernel
theorem dX5_newHoliday_15 : decode cX5_newHoliday 15 = .ok (.getfield 32, 3) := by decide +kernel
theorem dX5_newHoliday_18 : decode cX5_newHoliday 18 = .ok (.iload_n 2, 1) := by decide +kernel
theorem dX5_newHoliday_19 : decode cX5_newHoliday 19 = .ok (.iastore, 1) := by decide +kernel
theorem dX5_newHoliday_20 : decode cX5_newHoliday 20 = .ok (.aload_n 0, 1) := by decide +kernel
theorem dX5_newHoliday_21 : decode cX5_newHoliday 21 = .ok (.dup, 1) := by decide +kernel
theorem dX5_newHoliday_22 : decode cX5_newHoliday 22 = .ok (.getfield 32, 3) := by decide +kernel
theorem dX5_newHoliday_25 : decode cX5_newHoliday 25 = .ok (.iconst 1, 1) := by decide +kernel
theorem dX5_newHoliday_26 : decode cX5_newHoliday 26 = .ok (.iadd, 1) := by decide +kernel
theorem dX5_newHoliday_27 : decode cX5_newHoliday 27 = .ok (.putfield 32, 3) := by decide +kernel
theorem dX5_newHoliday_30 : decode cX5_newHoliday 30 = .ok (.aload_n 0, 1) := by decide +kernel
theorem dX5_newHoliday_31 : decode cX5_newHoliday 31 = .ok (.getfield 32, 3) := by decide +kernel
theorem dX5_newHoliday_34 : decode cX5_newHoliday 34 = .ok (.iconst 1, 1) := by decide +kernel
theorem dX5_newHoliday_35 : decode cX5_newHoliday 35 = .ok (.isub, 1) := by decide +kernel
theorem dX5_newHoliday_36 : decode cX5_newHoliday 36 = .ok (.ireturn, 1) := by decide +kernel
theorem iX5_newHoliday_0 {x : Nat} {Ls st : List Value} {h : AH} : ev L xs mdX5_newHoliday 0 (.ref x :: Ls) (st) h = ev L xs mdX5_newHoliday 1 (.ref x :: Ls) (.ref x :: st) (h) := e_aload_n dX5_newHoliday_0 rfl
theorem iX5_newHoliday_1 {a : Nat} {Ls st : List Value} {h : AH} (hk : hK h a = 5) (hj : (hR h 80 a).isSome = true) : ev L xs mdX5_newHoliday 1 (Ls) (.ref a :: st) h = ev L xs mdX5_newHoliday 4 (Ls) (.ref ((hR h 80 a).getD 0) :: st) (h) := e_getR (k := 5) (f := 0) (F := 80) dX5_newHoliday_1 (by decide +kernel) rfl rfl hk hj
theorem iX5_newHoliday_4 {x : Nat} {Ls st : List Value} {h : AH} : ev L xs mdX5_newHoliday 4 (.ref x :: Ls) (st) h = ev L xs mdX5_newHoliday 5 (.ref x :: Ls) (.ref x :: st) (h) := e_aload_n dX5_newHoliday_4 rfl
theorem iX5_newHoliday_5 {a : Nat} {Ls st : List Value} {h : AH} (hk : hK h a = 5) : ev L xs mdX5_newHoliday 5 (Ls) (.ref a :: st) h = ev L xs mdX5_newHoliday 8 (Ls) (.int (hI h 82 a) :: st) (h) := e_getI (k := 5) (f := 2) (F := 82) dX5_newHoliday_5 (by decide +kernel) rfl rfl hk
theorem iX5_newHoliday_8 {v0 : Value} {x : Int32} {Ls st : List Value} {h : AH} : ev L xs mdX5_newHoliday 8 (v0 :: .int x :: Ls) (st) h = ev L xs mdX5_newHoliday 9 (v0 :: .int x :: Ls) (.int x :: st) (h) := e_iload_n dX5_newHoliday_8 rfl
theorem iX5_newHoliday_9 {a : Nat} {j : Int32} {v : Int32} {Ls st : List Value} {h : AH} (hk : hK h a = 8) (hi : inA j (hN h a) = true) : ev L xs mdX5_newHoliday 9 (Ls) (.int v :: .int j :: .ref a :: st) h = ev L xs mdX5_newHoliday 10 (Ls) (st) (sA h a j.toNatClampNeg v) := e_iast dX5_newHoliday_9 hk hi
theorem iX5_newHoliday_10 {x : Nat} {Ls st : List Value} {h : AH} : ev L xs mdX5_newHoliday 10 (.ref x :: Ls) (st) h = ev L xs mdX5_newHoliday 11 (.ref x :: Ls) (.ref x :: st) (h) := e_aload_n dX5_newHoliday_10 rfl
theorem iX5_newHoliday_11 {a : Nat} {Ls st : List Value} {h : AH} (hk : hK h a = 5) (hj : (hR h 81 a).isSome = true) : ev L xs mdX5_newHoliday 11 (Ls) (.ref a :: st) h = ev L xs mdX5_newHoliday 14 (Ls) (.ref ((hR h 81 a).getD 0) :: st) (h) := e_getR (k := 5) (f := 1) (F := 81) dX5_newHoliday_11 (by decide +kernel) rfl rfl hk hj
theorem iX5_newHoliday_14 {x : Nat} {Ls st : List Value} {h : AH} : ev L xs mdX5_newHoliday 14 (.ref x :: Ls) (st) h = ev L xs mdX5_newHoliday 15 (.ref x :: Ls) (.ref x :: st) (h) := e_aload_n dX5_newHoliday_14 rfl
theorem iX5_newHoliday_15 {a : Nat} {Ls st : List Value} {h : AH} (hk : hK h a = 5) : ev L xs mdX5_newHoliday 15 (Ls) (.ref a :: st) h = ev L xs mdX5_newHoliday 18 (Ls) (.int (hI h 82 a) :: st) (h) := e_getI (k := 5) (f := 2) (F := 82) dX5_newHoliday_15 (by decide +kernel) rfl rfl hk
theorem iX5_newHoliday_18 {v0 : Value} {v1 : Value} {x : Int32} {Ls st : List Value} {h : AH} : ev L xs mdX5_newHoliday 18 (v0 :: v1 :: .int x :: Ls) (st) h = ev L xs mdX5_newHoliday 19 (v0 :: v1 :: .int x :: Ls) (.int x :: st) (h) := e_iload_n dX5_newHoliday_18 rfl
theorem iX5_newHoliday_19 {a : Nat} {j : Int32} {v : Int32} {Ls st : List Value} {h : AH} (hk : hK h a = 8) (hi : inA j (hN h a) = true) : ev L xs mdX5_newHoliday 19 (Ls) (.int v :: .int j :: .ref a :: st) h = ev L xs mdX5_newHoliday 20 (Ls) (st) (sA h a j.toNatClampNeg v) := e_iast dX5_newHoliday_19 hk hi
theorem iX5_newHoliday_20 {x : Nat} {Ls st : List Value} {h : AH} : ev L xs mdX5_newHoliday 20 (.ref x :: Ls) (st) h = ev L xs mdX5_newHoliday 21 (.ref x :: Ls) (.ref x :: st) (h) := e_aload_n dX5_newHoliday_20 rfl
theorem iX5_newHoliday_21 {a : Nat} {Ls st : List Value} {h : AH} : ev L xs mdX5_newHoliday 21 (Ls) (.ref a :: st) h = ev L xs mdX5_newHoliday 22 (Ls) (.ref a :: .ref a :: st) (h) := e_dup dX5_newHoliday_21 rfl
theorem iX5_newHoliday_21i {a : Int32} {Ls st : List Value} {h : AH} : ev L xs mdX5_newHoliday 21 (Ls) (.int a :: st) h = ev L xs mdX5_newHoliday 22 (Ls) (.int a :: .int a :: st) (h) := e_dup dX5_newHoliday_21 rfl
theorem iX5_newHoliday_22 {a : Nat} {Ls st : List Value} {h : AH} (hk : hK h a = 5) : ev L xs mdX5_newHoliday 22 (Ls) (.ref a :: st) h = ev L xs mdX5_newHoliday 25 (Ls) (.int (hI h 82 a) :: st) (h) := e_getI (k := 5) (f := 2) (F := 82) dX5_newHoliday_22 (by decide +kernel) rfl rfl hk
theorem iX5_newHoliday_25  {Ls st : List Value} {h : AH} : ev L xs mdX5_newHoliday 25 (Ls) (st) h = ev L xs mdX5_newHoliday 26 (Ls) (.int (nI 1) :: st) (h) := e_iconst dX5_newHoliday_25 (by decide)
theorem iX5_newHoliday_26 {x z : Int32} {Ls st : List Value} {h : AH} : ev L xs mdX5_newHoliday 26 (Ls) (.int z :: .int x :: st) h = ev L xs mdX5_newHoliday 27 (Ls) (.int (x + z) :: st) (h) := e_iadd dX5_newHoliday_26
theorem iX5_newHoliday_27 {a : Nat} {v : Int32} {Ls st : List Value} {h : AH} (hk : hK h a = 5) : ev L xs mdX5_newHoliday 27 (Ls) (.int v :: .ref a :: st) h = ev L xs mdX5_newHoliday 30 (Ls) (st) (sI h 82 a v) := e_putI (k := 5) (f := 2) (F := 82) dX5_newHoliday_27 (by decide +kernel) rfl (by decide +kernel) rfl hk
theorem iX5_newHoliday_30 {x : Nat} {Ls st : List Value} {h : AH} : ev L xs mdX5_newHoliday 30 (.ref x :: Ls) (st) h = ev L xs mdX5_newHoliday 31 (.ref x :: Ls) (.ref x :: st) (h) := e_aload_n dX5_newHoliday_30 rfl
theorem iX5_newHoliday_31 {a : Nat} {Ls st : List Value} {h : AH} (hk : hK h a = 5) : ev L xs mdX5_newHoliday 31 (Ls) (.ref a :: st) h = ev L xs mdX5_newHoliday 34 (Ls) (.int (hI h 82 a) :: st) (h) := e_getI (k := 5) (f := 2) (F := 82) dX5_newHoliday_31 (by decide +kernel) rfl rfl hk
theorem iX5_newHoliday_34  {Ls st : List Value} {h : AH} : ev L xs mdX5_newHoliday 34 (Ls) (st) h = ev L xs mdX5_newHoliday 35 (Ls) (.int (nI 1) :: st) (h) := e_iconst dX5_newHoliday_34 (by decide)
theorem iX5_newHoliday_35 {x z : Int32} {Ls st : List Value} {h : AH} : ev L xs mdX5_newHoliday 35 (Ls) (.int z :: .int x :: st) h = ev L xs mdX5_newHoliday 36 (Ls) (.int (x - z) :: st) (h) := e_isub dX5_newHoliday_35
theorem iX5_newHoliday_36 {v : Int32} {Ls : List Value} {h : AH} : ev L xs mdX5_newHoliday 36 Ls [.int v] h = some (.inl (some (.int v), h)) := e_iret dX5_newHoliday_36 rfl
theorem dX5_newPost_0 : decode cX5_newPost 0 = .ok (.aload_n 0, 1) := by decide +kernel
theorem dX5_newPost_1 : decode cX5_newPost 1 = .ok (.getfield 20, 3) := by decide +kernel
theorem dX5_newPost_4 : decode cX5_newPost 4 = .ok (.aload_n 0, 1) := by decide +kernel
theorem dX5_newPost_5 : decode cX5_newPost 5 = .ok (.getfield 36, 3) := by decide +kernel
theorem dX5_newPost_8 : decode cX5_newPost 8 = .ok (.aaload, 1) := by decide +kernel
theorem dX5_newPost_9 : decode cX5_newPost 9 = .ok (.iload_n 1, 1) := by decide +kernel
theorem dX5_newPost_10 : decode cX5_newPost 10 = .ok (.iload_n 2, 1) := by decide +kernel
theorem dX5_newPost_11 : decode cX5_newPost 11 = .ok (.invokevirtual 68, 3) := by decide +kernel
theorem dX5_newPost_14 : decode cX5_newPost 14 = .ok (.aload_n 0, 1) := by decide +kernel
theorem dX5_newPost_15 : decode cX5_newPost 15 = .ok (.dup, 1) := by decide +kernel
theorem dX5_newPost_16 : decode cX5_newPost 16 = .ok (.getfield 36, 3) := by decide +kernel
theorem dX5_newPost_19 : decode cX5_newPost 19 = .ok (.iconst 1, 1) := by decide +kernel
theorem dX5_newPost_20 : decode cX5_newPost 20 = .ok (.iadd, 1) := by decide +kernel
theorem dX5_newPost_21 : decode cX5_newPost 21 = .ok (.putfield 36, 3) := by decide +kernel
theorem dX5_newPost_24 : decode cX5_newPost 24 = .ok (.aload_n 0, 1) := by decide +kernel
theorem dX5_newPost_25 : decode cX5_newPost 25 = .ok (.getfield 36, 3) := by decide +kernel
theorem dX5_newPost_28 : decode cX5_newPost 28 = .ok (.iconst 1, 1) := by decide +kernel
theorem dX5_newPost_29 : decode cX5_newPost 29 = .ok (.isub, 1) := by decide +kernel
theorem dX5_newPost_30 : decode cX5_newPost 30 = .ok (.ireturn, 1) := by decide +kernel
theorem iX5_newPost_0 {x : Nat} {Ls st : List Value} {h : AH} : ev L xs mdX5_newPost 0 (.ref x :: Ls) (st) h = ev L xs mdX5_newPost 1 (.ref x :: Ls) (.ref x :: st) (h) := e_aload_n dX5_newPost_0 rfl
theorem iX5_newPost_1 {a : Nat} {Ls st : List Value} {h : AH} (hk : hK h a = 5) (hj : (hR h 83 a).isSome = true) : ev L xs mdX5_newPost 1 (Ls) (.ref a :: st) h = ev L xs mdX5_newPost 4 (Ls) (.ref ((hR h 83 a).getD 0) :: st) (h) := e_getR (k := 5) (f := 3) (F := 83) dX5_newPost_1 (by decide +kernel) rfl rfl hk hj
theorem iX5_newPost_4 {x : Nat} {Ls st : List Value} {h : AH} : ev L xs mdX5_newPost 4 (.ref x :: Ls) (st) h = ev L xs mdX5_newPost 5 (.ref x :: Ls) (.ref x :: st) (h) := e_aload_n dX5_newPost_4 rfl
theorem iX5_newPost_5 {a : Nat} {Ls st : List Value} {h : AH} (hk : hK h a = 5) : ev L xs mdX5_newPost 5 (Ls) (.ref a :: st) h = ev L xs mdX5_newPost 8 (Ls) (.int (hI h 84 a) :: st) (h) := e_getI (k := 5) (f := 4) (F := 84) dX5_newPost_5 (by decide +kernel) rfl rfl hk
theorem iX5_newPost_8 {a : Nat} {j : Int32} {Ls st : List Value} {h : AH} (hk : hK h a = 9 ∨ hK h a = 10 ∨ hK h a = 11) (hi : inA j (hN h a) = true) (hq : (hQ h a j.toNatClampNeg).isSome = true) : ev L xs mdX5_newPost 8 (Ls) (.int j :: .ref a :: st) h = ev L xs mdX5_newPost 9 (Ls) (.ref ((hQ h a j.toNatClampNeg).getD 0) :: st) (h) := e_aald dX5_newPost_8 hk hi hq
theorem iX5_newPost_9 {v0 : Value} {x : Int32} {Ls st : List Value} {h : AH} : ev L xs mdX5_newPost 9 (v0 :: .int x :: Ls) (st) h = ev L xs mdX5_newPost 10 (v0 :: .int x :: Ls) (.int x :: st) (h) := e_iload_n dX5_newPost_9 rfl
theorem iX5_newPost_10 {v0 : Value} {v1 : Value} {x : Int32} {Ls st : List Value} {h : AH} : ev L xs mdX5_newPost 10 (v0 :: v1 :: .int x :: Ls) (st) h = ev L xs mdX5_newPost 11 (v0 :: v1 :: .int x :: Ls) (.int x :: st) (h) := e_iload_n dX5_newPost_10 rfl
theorem iX5_newPost_11 {a : Nat} {p0 : Int32} {p1 : Int32} {Ls st : List Value} {h : AH} (hk : hK h a = 2) (hw : wds st ≤ 8) : ev L xs mdX5_newPost 11 Ls (.int p1 :: .int p0 :: .ref a :: st) h = kn L xs mdX5_newPost 11 14 Ls st (ev L xs mdX2_begin 0 [.ref a, .int p0, .int p1] [] h) := e_callV (as := [.int p1, .int p0]) dX5_newPost_11 mr_5_68 (by decide) (by decide) rfl (by simp [wds, Value.category]; decide) rfl (by decide) hk hw
theorem iX5_newPost_14 {x : Nat} {Ls st : List Value} {h : AH} : ev L xs mdX5_newPost 14 (.ref x :: Ls) (st) h = ev L xs mdX5_newPost 15 (.ref x :: Ls) (.ref x :: st) (h) := e_aload_n dX5_newPost_14 rfl
theorem iX5_newPost_15 {a : Nat} {Ls st : List Value} {h : AH} : ev L xs mdX5_newPost 15 (Ls) (.ref a :: st) h = ev L xs mdX5_newPost 16 (Ls) (.ref a :: .ref a :: st) (h) := e_dup dX5_newPost_15 rfl
theorem iX5_newPost_15i {a : Int32} {Ls st : List Value} {h : AH} : ev L xs mdX5_newPost 15 (Ls) (.int a :: st) h = ev L xs mdX5_newPost 16 (Ls) (.int a :: .int a :: st) (h) := e_dup dX5_newPost_15 rfl
theorem iX5_newPost_16 {a : Nat} {Ls st : List Value} {h : AH} (hk : hK h a = 5) : ev L xs mdX5_newPost 16 (Ls) (.ref a :: st) h = ev L xs mdX5_newPost 19 (Ls) (.int (hI h 84 a) :: st) (h) := e_getI (k := 5) (f := 4) (F := 84) dX5_newPost_16 (by decide +kernel) rfl rfl hk
theorem iX5_newPost_19  {Ls st : List Value} {h : AH} : ev L xs mdX5_newPost 19 (Ls) (st) h = ev L xs mdX5_newPost 20 (Ls) (.int (nI 1) :: st) (h) := e_iconst dX5_newPost_19 (by decide)
theorem iX5_newPost_20 {x z : Int32} {Ls st : List Value} {h : AH} : ev L xs mdX5_newPost 20 (Ls) (.int z :: .int x :: st) h = ev L xs mdX5_newPost 21 (Ls) (.int (x + z) :: st) (h) := e_iadd dX5_newPost_20
theorem iX5_newPost_21 {a : Nat} {v : Int32} {Ls st : List Value} {h : AH} (hk : hK h a = 5) : ev L xs mdX5_newPost 21 (Ls) (.int v :: .ref a :: st) h = ev L xs mdX5_newPost 24 (Ls) (st) (sI h 84 a v) := e_putI (k := 5) (f := 4) (F := 84) dX5_newPost_21 (by decide +kernel) rfl (by decide +kernel) rfl hk
theorem iX5_newPost_24 {x : Nat} {Ls st : List Value} {h : AH} : ev L xs mdX5_newPost 24 (.ref x :: Ls) (st) h = ev L xs mdX5_newPost 25 (.ref x :: Ls) (.ref x :: st) (h) := e_aload_n dX5_newPost_24 rfl
theorem iX5_newPost_25 {a : Nat} {Ls st : List Value} {h : AH} (hk : hK h a = 5) : ev L xs mdX5_newPost 25 (Ls) (.ref a :: st) h = ev L xs mdX5_newPost 28 (Ls) (.int (hI h 84 a) :: st) (h) := e_getI (k := 5) (f := 4) (F := 84) dX5_newPost_25 (by decide +kernel) rfl rfl hk
theorem iX5_newPost_28  {Ls st : List Value} {h : AH} : ev L xs mdX5_newPost 28 (Ls) (st) h = ev L xs mdX5_newPost 29 (Ls) (.int (nI 1) :: st) (h) := e_iconst dX5_newPost_28 (by decide)
theorem iX5_newPost_29 {x z : Int32} {Ls st : List Value} {h : AH} : ev L xs mdX5_newPost 29 (Ls) (.int z :: .int x :: st) h = ev L xs mdX5_newPost 30 (Ls) (.int (x - z) :: st) (h) := e_isub dX5_newPost_29
theorem iX5_newPost_30 {v : Int32} {Ls : List Value} {h : AH} : ev L xs mdX5_newPost 30 Ls [.int v] h = some (.inl (some (.int v), h)) := e_iret dX5_newPost_30 rfl
theorem dX5_nextDay_0 : decode cX5_nextDay 0 = .ok (.aload_n 0, 1) := by decide +kernel
theorem dX5_nextDay_1 : decode cX5_nextDay 1 = .ok (.getfield 42, 3) := by decide +kernel
theorem dX5_nextDay_4 : decode cX5_nextDay 4 = .ok (.iconst 2, 1) := by decide +kernel
theorem dX5_nextDay_5 : decode cX5_nextDay 5 = .ok (.idiv, 1) := by decide +kernel
theorem dX5_nextDay_6 : decode cX5_nextDay 6 = .ok (.ireturn, 1) := by decide +kernel
theorem iX5_nextDay_0 {x : Nat} {Ls st : List Value} {h : AH} : ev L xs mdX5_nextDay 0 (.ref x :: Ls) (st) h = ev L xs mdX5_nextDay 1 (.ref x :: Ls) (.ref x :: st) (h) := e_aload_n dX5_nextDay_0 rfl
theorem iX5_nextDay_1 {a : Nat} {Ls st : List Value} {h : AH} (hk : hK h a = 5) : ev L xs mdX5_nextDay 1 (Ls) (.ref a :: st) h = ev L xs mdX5_nextDay 4 (Ls) (.int (hI h 87 a) :: st) (h) := e_getI (k := 5) (f := 7) (F := 87) dX5_nextDay_1 (by decide +kernel) rfl rfl hk
theorem iX5_nextDay_4  {Ls st : List Value} {h : AH} : ev L xs mdX5_nextDay 4 (Ls) (st) h = ev L xs mdX5_nextDay 5 (Ls) (.int (nI 2) :: st) (h) := e_iconst dX5_nextDay_4 (by decide)
theorem iX5_nextDay_5 {x z : Int32} {Ls st : List Value} {h : AH} (hz : ¬ z = 0) : ev L xs mdX5_nextDay 5 (Ls) (.int z :: .int x :: st) h = ev L xs mdX5_nextDay 6 (Ls) (.int (x / z) :: st) (h) := e_idiv dX5_nextDay_5 hz
theorem iX5_nextDay_6 {v : Int32} {Ls : List Value} {h : AH} : ev L xs mdX5_nextDay 6 Ls [.int v] h = some (.inl (some (.int v), h)) := e_iret dX5_nextDay_6 rfl
theorem dX5_ownerOf_0 : decode cX5_ownerOf 0 = .ok (.iconst 0, 1) := by decide +kernel
theorem dX5_ownerOf_1 : decode cX5_ownerOf 1 = .ok (.istore_n 2, 1) := by decide +kernel
theorem dX5_ownerOf_2 : decode cX5_ownerOf 2 = .ok (.iload_n 2, 1) := by decide +kernel
theorem dX5_ownerOf_3 : decode cX5_ownerOf 3 = .ok (.aload_n 0, 1) := by decide +kernel
theorem dX5_ownerOf_4 : decode cX5_ownerOf 4 = .ok (.getfield 39, 3) := by decide +kernel
theorem dX5_ownerOf_7 : decode cX5_ownerOf 7 = .ok (.if_icmp .ge 24, 3) := by decide +kernel
theorem dX5_ownerOf_10 : decode cX5_ownerOf 10 = .ok (.aload_n 0, 1) := by decide +kernel
theorem dX5_ownerOf_11 : decode cX5_ownerOf 11 = .ok (.getfield 26, 3) := by decide +kernel
theorem dX5_ownerOf_14 : decode cX5_ownerOf 14 = .ok (.iload_n 2, 1) := by decide +kernel
theorem dX5_ownerOf_15 : decode cX5_ownerOf 15 = .ok (.aaload, 1) := by decide +kernel
theorem dX5_ownerOf_16 : decode cX5_ownerOf 16 = .ok (.getfield 75, 3) := by decide +kernel
theorem dX5_ownerOf_19 : decode cX5_ownerOf 19 = .ok (.iload_n 1, 1) := by decide +kernel
theorem dX5_ownerOf_20 : decode cX5_ownerOf 20 = .ok (.if_icmp .ne 5, 3) := by decide +kernel
theorem dX5_ownerOf_23 : decode cX5_ownerOf 23 = .ok (.iload_n 2, 1) := by decide +kernel
theorem dX5_ownerOf_24 : decode cX5_ownerOf 24 = .ok (.ireturn, 1) := by decide +kernel
theorem dX5_ownerOf_25 : decode cX5_ownerOf 25 = .ok (.iinc 2 1, 3) := by decide +kernel
theorem dX5_ownerOf_28 : decode cX5_ownerOf 28 = .ok (.goto (-26), 3) := by decide +kernel
theorem dX5_ownerOf_31 : decode cX5_ownerOf 31 = .ok (.iconst (-1), 1) := by decide +kernel
theorem dX5_ownerOf_32 : decode cX5_ownerOf 32 = .ok (.ireturn, 1) := by decide +kernel
theorem iX5_ownerOf_0  {Ls st : List Value} {h : AH} : ev L xs mdX5_ownerOf 0 (Ls) (st) h = ev L xs mdX5_ownerOf 1 (Ls) (.int (nI 0) :: st) (h) := e_iconst dX5_ownerOf_0 (by decide)
theorem iX5_ownerOf_1 {v0 : Value} {v1 : Value} {v2 : Value} {x : Int32} {Ls st : List Value} {h : AH} (hc9 : v1.category = 1) : ev L xs mdX5_ownerOf 1 (v0 :: v1 :: v2 :: Ls) (.int x :: st) h = ev L xs mdX5_ownerOf 2 (v0 :: v1 :: .int x :: Ls) (st) (h) := e_istore_n dX5_ownerOf_1 rfl (by decide) (by unfold catOK; show (_ || (v1.category == 1)) = true; rw [hc9]; rfl)
theorem iX5_ownerOf_2 {v0 : Value} {v1 : Value} {x : Int32} {Ls st : List Value} {h : AH} : ev L xs mdX5_ownerOf 2 (v0 :: v1 :: .int x :: Ls) (st) h = ev L xs mdX5_ownerOf 3 (v0 :: v1 :: .int x :: Ls) (.int x :: st) (h) := e_iload_n dX5_ownerOf_2 rfl
theorem iX5_ownerOf_3 {x : Nat} {Ls st : List Value} {h : AH} : ev L xs mdX5_ownerOf 3 (.ref x :: Ls) (st) h = ev L xs mdX5_ownerOf 4 (.ref x :: Ls) (.ref x :: st) (h) := e_aload_n dX5_ownerOf_3 rfl
theorem iX5_ownerOf_4 {a : Nat} {Ls st : List Value} {h : AH} (hk : hK h a = 5) : ev L xs mdX5_ownerOf 4 (Ls) (.ref a :: st) h = ev L xs mdX5_ownerOf 7 (Ls) (.int (hI h 86 a) :: st) (h) := e_getI (k := 5) (f := 6) (F := 86) dX5_ownerOf_4 (by decide +kernel) rfl rfl hk
theorem iX5_ownerOf_7 {x z : Int32} {Ls st : List Value} {h : AH} : ev L xs mdX5_ownerOf 7 Ls (.int z :: .int x :: st) h = if z ≤ x then ev L xs mdX5_ownerOf 31 Ls st h else ev L xs mdX5_ownerOf 10 Ls st h := e_ic_ge dX5_ownerOf_7 (by decide)
theorem iX5_ownerOf_10 {x : Nat} {Ls st : List Value} {h : AH} : ev L xs mdX5_ownerOf 10 (.ref x :: Ls) (st) h = ev L xs mdX5_ownerOf 11 (.ref x :: Ls) (.ref x :: st) (h) := e_aload_n dX5_ownerOf_10 rfl
theorem iX5_ownerOf_11 {a : Nat} {Ls st : List Value} {h : AH} (hk : hK h a = 5) (hj : (hR h 85 a).isSome = true) : ev L xs mdX5_ownerOf 11 (Ls) (.ref a :: st) h = ev L xs mdX5_ownerOf 14 (Ls) (.ref ((hR h 85 a).getD 0) :: st) (h) := e_getR (k := 5) (f := 5) (F := 85) dX5_ownerOf_11 (by decide +kernel) rfl rfl hk hj
theorem iX5_ownerOf_14 {v0 : Value} {v1 : Value} {x : Int32} {Ls st : List Value} {h : AH} : ev L xs mdX5_ownerOf 14 (v0 :: v1 :: .int x :: Ls) (st) h = ev L xs mdX5_ownerOf 15 (v0 :: v1 :: .int x :: Ls) (.int x :: st) (h) := e_iload_n dX5_ownerOf_14 rfl
theorem iX5_ownerOf_15 {a : Nat} {j : Int32} {Ls st : List Value} {h : AH} (hk : hK h a = 9 ∨ hK h a = 10 ∨ hK h a = 11) (hi : inA j (hN h a) = true) (hq : (hQ h a j.toNatClampNeg).isSome = true) : ev L xs mdX5_ownerOf 15 (Ls) (.int j :: .ref a :: st) h = ev L xs mdX5_ownerOf 16 (Ls) (.ref ((hQ h a j.toNatClampNeg).getD 0) :: st) (h) := e_aald dX5_ownerOf_15 hk hi hq
theorem iX5_ownerOf_16 {a : Nat} {Ls st : List Value} {h : AH} (hk : hK h a = 0) : ev L xs mdX5_ownerOf 16 (Ls) (.ref a :: st) h = ev L xs mdX5_ownerOf 19 (Ls) (.int (hI h 2 a) :: st) (h) := e_getI (k := 0) (f := 2) (F := 2) dX5_ownerOf_16 (by decide +kernel) rfl rfl hk
theorem iX5_ownerOf_19 {v0 : Value} {x : Int32} {Ls st : List Value} {h : AH} : ev L xs mdX5_ownerOf 19 (v0 :: .int x :: Ls) (st) h = ev L xs mdX5_ownerOf 20 (v0 :: .int x :: Ls) (.int x :: st) (h) := e_iload_n dX5_ownerOf_19 rfl
theorem iX5_ownerOf_20 {x z : Int32} {Ls st : List Value} {h : AH} : ev L xs mdX5_ownerOf 20 Ls (.int z :: .int x :: st) h = if x = z then ev L xs mdX5_ownerOf 23 Ls st h else ev L xs mdX5_ownerOf 25 Ls st h := e_ic_ne dX5_ownerOf_20 (by decide)
theorem iX5_ownerOf_23 {v0 : Value} {v1 : Value} {x : Int32} {Ls st : List Value} {h : AH} : ev L xs mdX5_ownerOf 23 (v0 :: v1 :: .int x :: Ls) (st) h = ev L xs mdX5_ownerOf 24 (v0 :: v1 :: .int x :: Ls) (.int x :: st) (h) := e_iload_n dX5_ownerOf_23 rfl
theorem iX5_ownerOf_24 {v : Int32} {Ls : List Value} {h : AH} : ev L xs mdX5_ownerOf 24 Ls [.int v] h = some (.inl (some (.int v), h)) := e_iret dX5_ownerOf_24 rfl
theorem iX5_ownerOf_25 {v0 : Value} {v1 : Value} {x : Int32} {Ls st : List Value} {h : AH} (hc9 : v1.category = 1) : ev L xs mdX5_ownerOf 25 (v0 :: v1 :: .int x :: Ls) (st) h = ev L xs mdX5_ownerOf 28 (v0 :: v1 :: .int (x + (nI 1)) :: Ls) (st) (h) := e_iinc dX5_ownerOf_25 rfl rfl rfl (by decide) (by unfold catOK; show (_ || (v1.category == 1)) = true; rw [hc9]; rfl)
theorem iX5_ownerOf_28  {Ls st : List Value} {h : AH} : ev L xs mdX5_ownerOf 28 (Ls) (st) h = ev L xs mdX5_ownerOf 2 (Ls) (st) (h) := e_goto dX5_ownerOf_28 (by decide)
theorem iX5_ownerOf_31  {Ls st : List Value} {h : AH} : ev L xs mdX5_ownerOf 31 (Ls) (st) h = ev L xs mdX5_ownerOf 32 (Ls) (.int (-1) :: st) (h) := e_iconst dX5_ownerOf_31 (by decide)
theorem iX5_ownerOf_32 {v : Int32} {Ls : List Value} {h : AH} : ev L xs mdX5_ownerOf 32 Ls [.int v] h = some (.inl (some (.int v), h)) := e_iret dX5_ownerOf_32 rfl
theorem dX5_reportSick_0 : decode cX5_reportSick 0 = .ok (.aload_n 0, 1) := by decide +kernel
theorem dX5_reportSick_1 : decode cX5_reportSick 1 = .ok (.getfield 26, 3) := by decide +kernel
theorem dX5_reportSick_4 : decode cX5_reportSick 4 = .ok (.iload_n 1, 1) := by decide +kernel
theorem dX5_reportSick_5 : decode cX5_reportSick 5 = .ok (.aaload, 1) := by decide +kernel
theorem dX5_reportSick_6 : decode cX5_reportSick 6 = .ok (.aload_n 0, 1) := by decide +kernel
theorem dX5_reportSick_7 : decode cX5_reportSick 7 = .ok (.invokevirtual 78, 3) := by decide +kernel
theorem dX5_reportSick_10 : decode cX5_reportSick 10 = .ok (.iload_n 2, 1) := by decide +kernel
theorem dX5_reportSick_11 : decode cX5_reportSick 11 = .ok (.iadd, 1) := by decide +kernel
theorem dX5_reportSick_12 : decode cX5_reportSick 12 = .ok (.putfield 82, 3) := by decide +kernel
theorem dX5_reportSick_15 : decode cX5_reportSick 15 = .ok (.aload_n 0, 1) := by decide +kernel
theorem dX5_reportSick_16 : decode cX5_reportSick 16 = .ok (.getfield 26, 3) := by decide +kernel
theorem dX5_reportSick_19 : decode cX5_reportSick 19 = .ok (.iload_n 1, 1) := by decide +kernel
theorem dX5_reportSick_20 : decode cX5_reportSick 20 = .ok (.aaload, 1) := by decide +kernel
theorem dX5_reportSick_21 : decode cX5_reportSick 21 = .ok (.getfield 82, 3) := by decide +kernel
theorem dX5_reportSick_24 : decode cX5_reportSick 24 = .ok (.ireturn, 1) := by decide +kernel
theorem iX5_reportSick_0 {x : Nat} {Ls st : List Value} {h : AH} : ev L xs mdX5_reportSick 0 (.ref x :: Ls) (st) h = ev L xs mdX5_reportSick 1 (.ref x :: Ls) (.ref x :: st) (h) := e_aload_n dX5_reportSick_0 rfl
theorem iX5_reportSick_1 {a : Nat} {Ls st : List Value} {h : AH} (hk : hK h a = 5) (hj : (hR h 85 a).isSome = true) : ev L xs mdX5_reportSick 1 (Ls) (.ref a :: st) h = ev L xs mdX5_reportSick 4 (Ls) (.ref ((hR h 85 a).getD 0) :: st) (h) := e_getR (k := 5) (f := 5) (F := 85) dX5_reportSick_1 (by decide +kernel) rfl rfl hk hj
theorem iX5_reportSick_4 {v0 : Value} {x : Int32} {Ls st : List Value} {h : AH} : ev L xs mdX5_reportSick 4 (v0 :: .int x :: Ls) (st) h = ev L xs mdX5_reportSick 5 (v0 :: .int x :: Ls) (.int x :: st) (h) := e_iload_n dX5_reportSick_4 rfl
theorem iX5_reportSick_5 {a : Nat} {j : Int32} {Ls st : List Value} {h : AH} (hk : hK h a = 9 ∨ hK h a = 10 ∨ hK h a = 11) (hi : inA j (hN h a) = true) (hq : (hQ h a j.toNatClampNeg).isSome = true) : ev L xs mdX5_reportSick 5 (Ls) (.int j :: .ref a :: st) h = ev L xs mdX5_reportSick 6 (Ls) (.ref ((hQ h a j.toNatClampNeg).getD 0) :: st) (h) := e_aald dX5_reportSick_5 hk hi hq
theorem iX5_reportSick_6 {x : Nat} {Ls st : List Value} {h : AH} : ev L xs mdX5_reportSick 6 (.ref x :: Ls) (st) h = ev L xs mdX5_reportSick 7 (.ref x :: Ls) (.ref x :: st) (h) := e_aload_n dX5_reportSick_6 rfl
theorem iX5_reportSick_7 {a : Nat} {Ls st : List Value} {h : AH} (hk : hK h a = 5) (hw : wds st ≤ 8) : ev L xs mdX5_reportSick 7 Ls (.ref a :: st) h = kn L xs mdX5_reportSick 7 10 Ls st (ev L xs mdX5_nextDay 0 [.ref a] [] h) := e_callV (as := []) dX5_reportSick_7 mr_5_78 (by decide) (by decide) rfl (by simp [wds, Value.category]; decide) rfl (by decide) hk hw
theorem iX5_reportSick_10 {v0 : Value} {v1 : Value} {x : Int32} {Ls st : List Value} {h : AH} : ev L xs mdX5_reportSick 10 (v0 :: v1 :: .int x :: Ls) (st) h = ev L xs mdX5_reportSick 11 (v0 :: v1 :: .int x :: Ls) (.int x :: st) (h) := e_iload_n dX5_reportSick_10 rfl
theorem iX5_reportSick_11 {x z : Int32} {Ls st : List Value} {h : AH} : ev L xs mdX5_reportSick 11 (Ls) (.int z :: .int x :: st) h = ev L xs mdX5_reportSick 12 (Ls) (.int (x + z) :: st) (h) := e_iadd dX5_reportSick_11
theorem iX5_reportSick_12 {a : Nat} {v : Int32} {Ls st : List Value} {h : AH} (hk : hK h a = 0) : ev L xs mdX5_reportSick 12 (Ls) (.int v :: .ref a :: st) h = ev L xs mdX5_reportSick 15 (Ls) (st) (sI h 6 a v) := e_putI (k := 0) (f := 6) (F := 6) dX5_reportSick_12 (by decide +kernel) rfl (by decide +kernel) rfl hk
theorem iX5_reportSick_15 {x : Nat} {Ls st : List Value} {h : AH} : ev L xs mdX5_reportSick 15 (.ref x :: Ls) (st) h = ev L xs mdX5_reportSick 16 (.ref x :: Ls) (.ref x :: st) (h) := e_aload_n dX5_reportSick_15 rfl
theorem iX5_reportSick_16 {a : Nat} {Ls st : List Value} {h : AH} (hk : hK h a = 5) (hj : (hR h 85 a).isSome = true) : ev L xs mdX5_reportSick 16 (Ls) (.ref a :: st) h = ev L xs mdX5_reportSick 19 (Ls) (.ref ((hR h 85 a).getD 0) :: st) (h) := e_getR (k := 5) (f := 5) (F := 85) dX5_reportSick_16 (by decide +kernel) rfl rfl hk hj
theorem iX5_reportSick_19 {v0 : Value} {x : Int32} {Ls st : List Value} {h : AH} : ev L xs mdX5_reportSick 19 (v0 :: .int x :: Ls) (st) h = ev L xs mdX5_reportSick 20 (v0 :: .int x :: Ls) (.int x :: st) (h) := e_iload_n dX5_reportSick_19 rfl
theorem iX5_reportSick_20 {a : Nat} {j : Int32} {Ls st : List Value} {h : AH} (hk : hK h a = 9 ∨ hK h a = 10 ∨ hK h a = 11) (hi : inA j (hN h a) = true) (hq : (hQ h a j.toNatClampNeg).isSome = true) : ev L xs mdX5_reportSick 20 (Ls) (.int j :: .ref a :: st) h = ev L xs mdX5_reportSick 21 (Ls) (.ref ((hQ h a j.toNatClampNeg).getD 0) :: st) (h) := e_aald dX5_reportSick_20 hk hi hq
theorem iX5_reportSick_21 {a : Nat} {Ls st : List Value} {h : AH} (hk : hK h a = 0) : ev L xs mdX5_reportSick 21 (Ls) (.ref a :: st) h = ev L xs mdX5_reportSick 24 (Ls) (.int (hI h 6 a) :: st) (h) := e_getI (k := 0) (f := 6) (F := 6) dX5_reportSick_21 (by decide +kernel) rfl rfl hk
theorem iX5_reportSick_24 {v : Int32} {Ls : List Value} {h : AH} : ev L xs mdX5_reportSick 24 Ls [.int v] h = some (.inl (some (.int v), h)) := e_iret dX5_reportSick_24 rfl
theorem dX5_takeDays_0 : decode cX5_takeDays 0 = .ok (.iconst 0, 1) := by decide +kernel
theorem dX5_takeDays_1 : decode cX5_takeDays 1 = .ok (.istore_n 3, 1) := by decide +kernel
theorem dX5_takeDays_2 : decode cX5_takeDays 2 = .ok (.iconst 2, 1) := by decide +kernel
theorem dX5_takeDays_3 : decode cX5_takeDays 3 = .ok (.aload_n 0, 1) := by decide +kernel
theorem dX5_takeDays_4 : decode cX5_takeDays 4 = .ok (.invokevirtual 78, 3) := by decide +kernel
theorem dX5_takeDays_7 : decode cX5_takeDays 7 = .ok (.iload_n 1, 1) := by decide +kernel
theorem dX5_takeDays_8 : decode cX5_takeDays 8 = .ok (.iadd, 1) := by decide +kernel
theorem dX5_takeDays_9 : decode cX5_takeDays 9 = .ok (.imul, 1) := by decide +kernel
theorem dX5_takeDays_10 : decode cX5_takeDays 10 = .ok (.aload_n 0, 1) := by decide +kernel
theorem dX5_takeDays_11 : decode cX5_takeDays 11 = .ok (.getfield 42, 3) := by decide +kernel
theorem dX5_takeDays_14 : decode cX5_takeDays 14 = .ok (.isub, 1) := by decide +kernel
theorem dX5_takeDays_15 : decode cX5_takeDays 15 = .ok (.istore 4, 2) := by decide +kernel
theorem dX5_takeDays_17 : decode cX5_takeDays 17 = .ok (.iconst 0, 1) := by decide +kernel
theorem dX5_takeDays_18 : decode cX5_takeDays 18 = .ok (.istore 5, 2) := by decide +kernel
theorem dX5_takeDays_20 : decode cX5_takeDays 20 = .ok (.iload 5, 2) := by decide +kernel
theorem dX5_takeDays_22 : decode cX5_takeDays 22 = .ok (.iload 4, 2) := by decide +kernel
theorem dX5_takeDays_24 : decode cX5_takeDays 24 = .ok (.if_icmp .ge 20, 3) := by decide +kernel
theorem dX5_takeDays_27 : decode cX5_takeDays 27 = .ok (.iload_n 3, 1) := by decide +kernel
theorem dX5_takeDays_28 : decode cX5_takeDays 28 = .ok (.aload_n 0, 1) := by decide +kernel
theorem dX5_takeDays_29 : decode cX5_takeDays 29 = .ok (.aload_n 2, 1) := by decide +kernel
theorem dX5_takeDays_30 : decode cX5_takeDays 30 = .ok (.invokevirtual 141, 3) := by decide +kernel
theorem dX5_takeDays_33 : decode cX5_takeDays 33 = .ok (.invokestatic 132, 3) := by decide +kernel
theorem dX5_takeDays_36 : decode cX5_takeDays 36 = .ok (.iadd, 1) := by decide +kernel
theorem dX5_takeDays_37 : decode cX5_takeDays 37 = .ok (.istore_n 3, 1) := by decide +kernel
theorem dX5_takeDays_38 : decode cX5_takeDays 38 = .ok (.iinc 5 1, 3) := by decide +kernel
theorem dX5_takeDays_41 : decode cX5_takeDays 41 = .ok (.goto (-21), 3) := by decide +kernel
theorem dX5_takeDays_44 : decode cX5_takeDays 44 = .ok (.iload_n 3, 1) := by decide +kernel
theorem dX5_takeDays_45 : decode cX5_takeDays 45 = .ok (.ireturn, 1) := by decide +kernel
theorem iX5_takeDays_0  {Ls st : List Value} {h : AH} : ev L xs mdX5_takeDays 0 (Ls) (st) h = ev L xs mdX5_takeDays 1 (Ls) (.int (nI 0) :: st) (h) := e_iconst dX5_takeDays_0 (by decide)
theorem iX5_takeDays_1 {v0 : Value} {v1 : Value} {v2 : Value} {v3 : Value} {x : Int32} {Ls st : List Value} {h : AH} (hc9 : v2.category = 1) : ev L xs mdX5_takeDays 1 (v0 :: v1 :: v2 :: v3 :: Ls) (.int x :: st) h = ev L xs mdX5_takeDays 2 (v0 :: v1 :: v2 :: .int x :: Ls) (st) (h) := e_istore_n dX5_takeDays_1 rfl (by decide) (by unfold catOK; show (_ || (v2.category == 1)) = true; rw [hc9]; rfl)
theorem iX5_takeDays_2  {Ls st : List Value} {h : AH} : ev L xs mdX5_takeDays 2 (Ls) (st) h = ev L xs mdX5_takeDays 3 (Ls) (.int (nI 2) :: st) (h) := e_iconst dX5_takeDays_2 (by decide)
theorem iX5_takeDays_3 {x : Nat} {Ls st : List Value} {h : AH} : ev L xs mdX5_takeDays 3 (.ref x :: Ls) (st) h = ev L xs mdX5_takeDays 4 (.ref x :: Ls) (.ref x :: st) (h) := e_aload_n dX5_takeDays_3 rfl
theorem iX5_takeDays_4 {a : Nat} {Ls st : List Value} {h : AH} (hk : hK h a = 5) (hw : wds st ≤ 8) : ev L xs mdX5_takeDays 4 Ls (.ref a :: st) h = kn L xs mdX5_takeDays 4 7 Ls st (ev L xs mdX5_nextDay 0 [.ref a] [] h) := e_callV (as := []) dX5_takeDays_4 mr_5_78 (by decide) (by decide) rfl (by simp [wds, Value.category]; decide) rfl (by decide) hk hw
theorem iX5_takeDays_7 {v0 : Value} {x : Int32} {Ls st : List Value} {h : AH} : ev L xs mdX5_takeDays 7 (v0 :: .int x :: Ls) (st) h = ev L xs mdX5_takeDays 8 (v0 :: .int x :: Ls) (.int x :: st) (h) := e_iload_n dX5_takeDays_7 rfl
theorem iX5_takeDays_8 {x z : Int32} {Ls st : List Value} {h : AH} : ev L xs mdX5_takeDays 8 (Ls) (.int z :: .int x :: st) h = ev L xs mdX5_takeDays 9 (Ls) (.int (x + z) :: st) (h) := e_iadd dX5_takeDays_8
theorem iX5_takeDays_9 {x z : Int32} {Ls st : List Value} {h : AH} : ev L xs mdX5_takeDays 9 (Ls) (.int z :: .int x :: st) h = ev L xs mdX5_takeDays 10 (Ls) (.int (x * z) :: st) (h) := e_imul dX5_takeDays_9
theorem iX5_takeDays_10 {x : Nat} {Ls st : List Value} {h : AH} : ev L xs mdX5_takeDays 10 (.ref x :: Ls) (st) h = ev L xs mdX5_takeDays 11 (.ref x :: Ls) (.ref x :: st) (h) := e_aload_n dX5_takeDays_10 rfl
theorem iX5_takeDays_11 {a : Nat} {Ls st : List Value} {h : AH} (hk : hK h a = 5) : ev L xs mdX5_takeDays 11 (Ls) (.ref a :: st) h = ev L xs mdX5_takeDays 14 (Ls) (.int (hI h 87 a) :: st) (h) := e_getI (k := 5) (f := 7) (F := 87) dX5_takeDays_11 (by decide +kernel) rfl rfl hk
theorem iX5_takeDays_14 {x z : Int32} {Ls st : List Value} {h : AH} : ev L xs mdX5_takeDays 14 (Ls) (.int z :: .int x :: st) h = ev L xs mdX5_takeDays 15 (Ls) (.int (x - z) :: st) (h) := e_isub dX5_takeDays_14
theorem iX5_takeDays_15 {v0 : Value} {v1 : Value} {v2 : Value} {v3 : Value} {v4 : Value} {x : Int32} {Ls st : List Value} {h : AH} (hc9 : v3.category = 1) : ev L xs mdX5_takeDays 15 (v0 :: v1 :: v2 :: v3 :: v4 :: Ls) (.int x :: st) h = ev L xs mdX5_takeDays 17 (v0 :: v1 :: v2 :: v3 :: .int x :: Ls) (st) (h) := e_istore dX5_takeDays_15 rfl (by decide) (by unfold catOK; show (_ || (v3.category == 1)) = true; rw [hc9]; rfl)
theorem iX5_takeDays_17  {Ls st : List Value} {h : AH} : ev L xs mdX5_takeDays 17 (Ls) (st) h = ev L xs mdX5_takeDays 18 (Ls) (.int (nI 0) :: st) (h) := e_iconst dX5_takeDays_17 (by decide)
theorem iX5_takeDays_18 {v0 : Value} {v1 : Value} {v2 : Value} {v3 : Value} {v4 : Value} {v5 : Value} {x : Int32} {Ls st : List Value} {h : AH} (hc9 : v4.category = 1) : ev L xs mdX5_takeDays 18 (v0 :: v1 :: v2 :: v3 :: v4 :: v5 :: Ls) (.int x :: st) h = ev L xs mdX5_takeDays 20 (v0 :: v1 :: v2 :: v3 :: v4 :: .int x :: Ls) (st) (h) := e_istore dX5_takeDays_18 rfl (by decide) (by unfold catOK; show (_ || (v4.category == 1)) = true; rw [hc9]; rfl)
theorem iX5_takeDays_20 {v0 : Value} {v1 : Value} {v2 : Value} {v3 : Value} {v4 : Value} {x : Int32} {Ls st : List Value} {h : AH} : ev L xs mdX5_takeDays 20 (v0 :: v1 :: v2 :: v3 :: v4 :: .int x :: Ls) (st) h = ev L xs mdX5_takeDays 22 (v0 :: v1 :: v2 :: v3 :: v4 :: .int x :: Ls) (.int x :: st) (h) := e_iload dX5_takeDays_20 rfl
theorem iX5_takeDays_22 {v0 : Value} {v1 : Value} {v2 : Value} {v3 : Value} {x : Int32} {Ls st : List Value} {h : AH} : ev L xs mdX5_takeDays 22 (v0 :: v1 :: v2 :: v3 :: .int x :: Ls) (st) h = ev L xs mdX5_takeDays 24 (v0 :: v1 :: v2 :: v3 :: .int x :: Ls) (.int x :: st) (h) := e_iload dX5_takeDays_22 rfl
theorem iX5_takeDays_24 {x z : Int32} {Ls st : List Value} {h : AH} : ev L xs mdX5_takeDays 24 Ls (.int z :: .int x :: st) h = if z ≤ x then ev L xs mdX5_takeDays 44 Ls st h else ev L xs mdX5_takeDays 27 Ls st h := e_ic_ge dX5_takeDays_24 (by decide)
theorem iX5_takeDays_27 {v0 : Value} {v1 : Value} {v2 : Value} {x : Int32} {Ls st : List Value} {h : AH} : ev L xs mdX5_takeDays 27 (v0 :: v1 :: v2 :: .int x :: Ls) (st) h = ev L xs mdX5_takeDays 28 (v0 :: v1 :: v2 :: .int x :: Ls) (.int x :: st) (h) := e_iload_n dX5_takeDays_27 rfl
theorem iX5_takeDays_28 {x : Nat} {Ls st : List Value} {h : AH} : ev L xs mdX5_takeDays 28 (.ref x :: Ls) (st) h = ev L xs mdX5_takeDays 29 (.ref x :: Ls) (.ref x :: st) (h) := e_aload_n dX5_takeDays_28 rfl
theorem iX5_takeDays_29 {v0 : Value} {v1 : Value} {x : Nat} {Ls st : List Value} {h : AH} : ev L xs mdX5_takeDays 29 (v0 :: v1 :: .ref x :: Ls) (st) h = ev L xs mdX5_takeDays 30 (v0 :: v1 :: .ref x :: Ls) (.ref x :: st) (h) := e_aload_n dX5_takeDays_29 rfl
theorem iX5_takeDays_30 {a : Nat} {p0 : Nat} {Ls st : List Value} {h : AH} (hk : hK h a = 5) (hw : wds st ≤ 8) : ev L xs mdX5_takeDays 30 Ls (.ref p0 :: .ref a :: st) h = kn L xs mdX5_takeDays 30 33 Ls st (ev L xs mdX5_takeNext 0 [.ref a, .ref p0, .null, .null, .null] [] h) := e_callV (as := [.ref p0]) dX5_takeDays_30 mr_5_141 (by decide) (by decide) rfl (by simp [wds, Value.category]; decide) rfl (by decide) hk hw
theorem iX5_takeDays_33 {p0 : Int32} {Ls st : List Value} {h : AH} (hw : wds st ≤ 8) : ev L xs mdX5_takeDays 33 Ls (.int p0 :: st) h = kn L xs mdX5_takeDays 33 36 Ls st (ev L xs mdJ6_bitCount_0f7a4 0 [.int p0] [] h) := e_callS (as := [.int p0]) dX5_takeDays_33 mr_5_132 (by decide) (by decide) rfl (by simp [wds, Value.category]; decide) rfl hw
theorem iX5_takeDays_36 {x z : Int32} {Ls st : List Value} {h : AH} : ev L xs mdX5_takeDays 36 (Ls) (.int z :: .int x :: st) h = ev L xs mdX5_takeDays 37 (Ls) (.int (x + z) :: st) (h) := e_iadd dX5_takeDays_36
theorem iX5_takeDays_37 {v0 : Value} {v1 : Value} {v2 : Value} {v3 : Value} {x : Int32} {Ls st : List Value} {h : AH} (hc9 : v2.category = 1) : ev L xs mdX5_takeDays 37 (v0 :: v1 :: v2 :: v3 :: Ls) (.int x :: st) h = ev L xs mdX5_takeDays 38 (v0 :: v1 :: v2 :: .int x :: Ls) (st) (h) := e_istore_n dX5_takeDays_37 rfl (by decide) (by unfold catOK; show (_ || (v2.category == 1)) = true; rw [hc9]; rfl)
theorem iX5_takeDays_38 {v0 : Value} {v1 : Value} {v2 : Value} {v3 : Value} {v4 : Value} {x : Int32} {Ls st : List Value} {h : AH} (hc9 : v4.category = 1) : ev L xs mdX5_takeDays 38 (v0 :: v1 :: v2 :: v3 :: v4 :: .int x :: Ls) (st) h = ev L xs mdX5_takeDays 41 (v0 :: v1 :: v2 :: v3 :: v4 :: .int (x + (nI 1)) :: Ls) (st) (h) := e_iinc dX5_takeDays_38 rfl rfl rfl (by decide) (by unfold catOK; show (_ || (v4.category == 1)) = true; rw [hc9]; rfl)
theorem iX5_takeDays_41  {Ls st : List Value} {h : AH} : ev L xs mdX5_takeDays 41 (Ls) (st) h = ev L xs mdX5_takeDays 20 (Ls) (st) (h) := e_goto dX5_takeDays_41 (by decide)
theorem iX5_takeDays_44 {v0 : Value} {v1 : Value} {v2 : Value} {x : Int32} {Ls st : List Value} {h : AH} : ev L xs mdX5_takeDays 44 (v0 :: v1 :: v2 :: .int x :: Ls) (st) h = ev L xs mdX5_takeDays 45 (v0 :: v1 :: v2 :: .int x :: Ls) (.int x :: st) (h) := e_iload_n dX5_takeDays_44 rfl
theorem iX5_takeDays_45 {v : Int32} {Ls : List Value} {h : AH} : ev L xs mdX5_takeDays 45 Ls [.int v] h = some (.inl (some (.int v), h)) := e_iret dX5_takeDays_45 rfl
theorem dX5_takeNext_0 : decode cX5_takeNext 0 = .ok (.aload_n 0, 1) := by decide +kernel
theorem dX5_takeNext_1 : decode cX5_takeNext 1 = .ok (.invokevirtual 78, 3) := by decide +kernel
theorem dX5_takeNext_4 : decode cX5_takeNext 4 = .ok (.istore_n 2, 1) := by decide +kernel
theorem dX5_takeNext_5 : decode cX5_takeNext 5 = .ok (.aload_n 1, 1) := by decide +kernel
theorem dX5_takeNext_6 : decode cX5_takeNext 6 = .ok (.aload_n 0, 1) := by decide +kernel
theorem dX5_takeNext_7 : decode cX5_takeNext 7 = .ok (.iload_n 2, 1) := by decide +kernel
theorem dX5_takeNext_8 : decode cX5_takeNext 8 = .ok (.aload_n 0, 1) := by decide +kernel
theorem dX5_takeNext_9 : decode cX5_takeNext 9 = .ok (.getfield 42, 3) := by decide +kernel
theorem dX5_takeNext_12 : decode cX5_takeNext 12 = .ok (.iconst 2, 1) := by decide +kernel
theorem dX5_takeNext_13 : decode cX5_takeNext 13 = .ok (.irem, 1) := by decide +kernel
theorem dX5_takeNext_14 : decode cX5_takeNext 14 = .ok (.invokevirtual 105, 3) := by decide +kernel
theorem dX5_takeNext_17 : decode cX5_takeNext 17 = .ok (.iconst 0, 1) := by decide +kernel
theorem dX5_takeNext_18 : decode cX5_takeNext 18 = .ok (.istore_n 3, 1) := by decide +kernel
theorem dX5_takeNext_19 : decode cX5_takeNext 19 = .ok (.iload_n 3, 1) := by decide +kernel
theorem dX5_takeNext_20 : decode cX5_takeNext 20 = .ok (.aload_n 0, 1) := by decide +kernel
theorem dX5_takeNext_21 : decode cX5_takeNext 21 = .ok (.getfield 36, 3) := by decide +kernel
theorem dX5_takeNext_24 : decode cX5_takeNext 24 = .ok (.if_icmp .ge 67, 3) := by decide +kernel
theorem dX5_takeNext_27 : decode cX5_takeNext 27 = .ok (.aload_n 1, 1) := by decide +kernel
theorem dX5_takeNext_28 : decode cX5_takeNext 28 = .ok (.getfield 111, 3) := by decide +kernel
theorem dX5_takeNext_31 : decode cX5_takeNext 31 = .ok (.iload_n 3, 1) := by decide +kernel
theorem dX5_takeNext_32 : decode cX5_takeNext 32 = .ok (.iaload, 1) := by decide +kernel
theorem dX5_takeNext_33 : decode cX5_takeNext 33 = .ok (.istore 4, 2) := by decide +kernel
theorem dX5_takeNext_35 : decode cX5_takeNext 35 = .ok (.aload_n 0, 1) := by decide +kernel
theorem dX5_takeNext_36 : decode cX5_takeNext 36 = .ok (.getfield 20, 3) := by decide +kernel
theorem dX5_takeNext_39 : decode cX5_takeNext 39 = .ok (.iload_n 3, 1) := by decide +kernel
theorem dX5_takeNext_40 : decode cX5_takeNext 40 = .ok (.aaload, 1) := by decide +kernel
theorem dX5_takeNext_41 : decode cX5_takeNext 41 = .ok (.iload 4, 2) := by decide +kernel
theorem dX5_takeNext_43 : decode cX5_takeNext 43 = .ok (.aload_n 1, 1) := by decide +kernel
theorem dX5_takeNext_44 : decode cX5_takeNext 44 = .ok (.getfield 114, 3) := by decide +kernel
theorem dX5_takeNext_47 : decode cX5_takeNext 47 = .ok (.iload_n 3, 1) := by decide +kernel
theorem dX5_takeNext_48 : decode cX5_takeNext 48 = .ok (.iaload, 1) := by decide +kernel
theorem dX5_takeNext_49 : decode cX5_takeNext 49 = .ok (.aload_n 0, 1) := by decide +kernel
theorem dX5_takeNext_50 : decode cX5_takeNext 50 = .ok (.getfield 42, 3) := by decide +kernel
theorem dX5_takeNext_53 : decode cX5_takeNext 53 = .ok (.invokevirtual 117, 3) := by decide +kernel
theorem dX5_takeNext_56 : decode cX5_takeNext 56 = .ok (.aload_n 0, 1) := by decide +kernel
theorem dX5_takeNext_57 : decode cX5_takeNext 57 = .ok (.iload 4, 2) := by decide +kernel
theorem dX5_takeNext_59 : decode cX5_takeNext 59 = .ok (.invokevirtual 120, 3) := by decide +kernel
theorem dX5_takeNext_62 : decode cX5_takeNext 62 = .ok (.ifCond .eq 23, 3) := by decide +kernel
theorem dX5_takeNext_65 : decode cX5_takeNext 65 = .ok (.aload_n 0, 1) := by decide +kernel
theorem dX5_takeNext_66 : decode cX5_takeNext 66 = .ok (.getfield 26, 3) := by decide +kernel
theorem dX5_takeNext_69 : decode cX5_takeNext 69 = .ok (.iload 4, 2) := by decide +kernel
theorem dX5_takeNext_71 : decode cX5_takeNext 71 = .ok (.aaload, 1) := by decide +kernel
theorem dX5_takeNext_72 : decode cX5_takeNext 72 = .ok (.iload_n 3, 1) := by decide +kernel
theorem dX5_takeNext_73 : decode cX5_takeNext 73 = .ok (.aload_n 0, 1) := by decide +kernel
theorem dX5_takeNext_74 : decode cX5_takeNext 74 = .ok (.getfield 20, 3) := by decide +kernel
theorem dX5_takeNext_77 : decode cX5_takeNext 77 = .ok (.iload_n 3, 1) := by decide +kernel
theorem dX5_takeNext_78 : decode cX5_takeNext 78 = .ok (.aaload, 1) := by decide +kernel
theorem dX5_takeNext_79 : decode cX5_takeNext 79 = .ok (.getfield 123, 3) := by decide +kernel
theorem dX5_takeNext_82 : decode cX5_takeNext 82 = .ok (.invokevirtual 126, 3) := by decide +kernel
theorem dX5_takeNext_85 : decode cX5_takeNext 85 = .ok (.iinc 3 1, 3) := by decide +kernel
theorem dX5_takeNext_88 : decode cX5_takeNext 88 = .ok (.goto (-69), 3) := by decide +kernel
theorem dX5_takeNext_91 : decode cX5_takeNext 91 = .ok (.aload_n 0, 1) := by decide +kernel
theorem dX5_takeNext_92 : decode cX5_takeNext 92 = .ok (.iload_n 2, 1) := by decide +kernel
theorem dX5_takeNext_93 : decode cX5_takeNext 93 = .ok (.invokevirtual 96, 3) := by decide +kernel
theorem dX5_takeNext_96 : decode cX5_takeNext 96 = .ok (.ifCond .eq 13, 3) := by decide +kernel
theorem dX5_takeNext_99 : decode cX5_takeNext 99 = .ok (.aload_n 0, 1) := by decide +kernel
theorem dX5_takeNext_100 : decode cX5_takeNext 100 = .ok (.dup, 1) := by decide +kernel
theorem dX5_takeNext_101 : decode cX5_takeNext 101 = .ok (.getfield 45, 3) := by decide +kernel
theorem dX5_takeNext_104 : decode cX5_takeNext 104 = .ok (.iconst 1, 1) := by decide +kernel
theorem dX5_takeNext_105 : decode cX5_takeNext 105 = .ok (.iadd, 1) := by decide +kernel
theorem dX5_takeNext_106 : decode cX5_takeNext 106 = .ok (.putfield 45, 3) := by decide +kernel
theorem dX5_takeNext_109 : decode cX5_takeNext 109 = .ok (.aload_n 0, 1) := by decide +kernel
theorem dX5_takeNext_110 : decode cX5_takeNext 110 = .ok (.dup, 1) := by decide +kernel
theorem dX5_takeNext_111 : decode cX5_takeNext 111 = .ok (.getfield 48, 3) := by decide +kernel
theorem dX5_takeNext_114 : decode cX5_takeNext 114 = .ok (.aload_n 1, 1) := by decide +kernel
theorem dX5_takeNext_115 : decode cX5_takeNext 115 = .ok (.getfield 129, 3) := by decide +kernel
theorem dX5_takeNext_118 : decode cX5_takeNext 118 = .ok (.invokestatic 132, 3) := by decide +kernel
theorem dX5_takeNext_121 : decode cX5_takeNext 121 = .ok (.iadd, 1) := by decide +kernel
theorem dX5_takeNext_122 : decode cX5_takeNext 122 = .ok (.putfield 48, 3) := by decide +kernel
theorem dX5_takeNext_125 : decode cX5_takeNext 125 = .ok (.aload_n 0, 1) := by decide +kernel
theorem dX5_takeNext_126 : decode cX5_takeNext 126 = .ok (.dup, 1) := by decide +kernel
theorem dX5_takeNext_127 : decode cX5_takeNext 127 = .ok (.getfield 42, 3) := by decide +kernel
theorem dX5_takeNext_130 : decode cX5_takeNext 130 = .ok (.iconst 1, 1) := by decide +kernel
theorem dX5_takeNext_131 : decode cX5_takeNext 131 = .ok (.iadd, 1) := by decide +kernel
theorem dX5_takeNext_132 : decode cX5_takeNext 132 = .ok (.putfield 42, 3) := by decide +kernel
theorem dX5_takeNext_135 : decode cX5_takeNext 135 = .ok (.aload_n 1, 1) := by decide +kernel
theorem dX5_takeNext_136 : decode cX5_takeNext 136 = .ok (.getfield 138, 3) := by decide +kernel
theorem dX5_takeNext_139 : decode cX5_takeNext 139 = .ok (.ireturn, 1) := by decide +kernel
theorem iX5_takeNext_0 {x : Nat} {Ls st : List Value} {h : AH} : ev L xs mdX5_takeNext 0 (.ref x :: Ls) (st) h = ev L xs mdX5_takeNext 1 (.ref x :: Ls) (.ref x :: st) (h) := e_aload_n dX5_takeNext_0 rfl
theorem iX5_takeNext_1 {a : Nat} {Ls st : List Value} {h : AH} (hk : hK h a = 5) (hw : wds st ≤ 8) : ev L xs mdX5_takeNext 1 Ls (.ref a :: st) h = kn L xs mdX5_takeNext 1 4 Ls st (ev L xs mdX5_nextDay 0 [.ref a] [] h) := e_callV (as := []) dX5_takeNext_1 mr_5_78 (by decide) (by decide) rfl (by simp [wds, Value.category]; decide) rfl (by decide) hk hw
theorem iX5_takeNext_4 {v0 : Value} {v1 : Value} {v2 : Value} {x : Int32} {Ls st : List Value} {h : AH} (hc9 : v1.category = 1) : ev L xs mdX5_takeNext 4 (v0 :: v1 :: v2 :: Ls) (.int x :: st) h = ev L xs mdX5_takeNext 5 (v0 :: v1 :: .int x :: Ls) (st) (h) := e_istore_n dX5_takeNext_4 rfl (by decide) (by unfold catOK; show (_ || (v1.category == 1)) = true; rw [hc9]; rfl)
theorem iX5_takeNext_5 {v0 : Value} {x : Nat} {Ls st : List Value} {h : AH} : ev L xs mdX5_takeNext 5 (v0 :: .ref x :: Ls) (st) h = ev L xs mdX5_takeNext 6 (v0 :: .ref x :: Ls) (.ref x :: st) (h) := e_aload_n dX5_takeNext_5 rfl
theorem iX5_takeNext_6 {x : Nat} {Ls st : List Value} {h : AH} : ev L xs mdX5_takeNext 6 (.ref x :: Ls) (st) h = ev L xs mdX5_takeNext 7 (.ref x :: Ls) (.ref x :: st) (h) := e_aload_n dX5_takeNext_6 rfl
theorem iX5_takeNext_7 {v0 : Value} {v1 : Value} {x : Int32} {Ls st : List Value} {h : AH} : ev L xs mdX5_takeNext 7 (v0 :: v1 :: .int x :: Ls) (st) h = ev L xs mdX5_takeNext 8 (v0 :: v1 :: .int x :: Ls) (.int x :: st) (h) := e_iload_n dX5_takeNext_7 rfl
theorem iX5_takeNext_8 {x : Nat} {Ls st : List Value} {h : AH} : ev L xs mdX5_takeNext 8 (.ref x :: Ls) (st) h = ev L xs mdX5_takeNext 9 (.ref x :: Ls) (.ref x :: st) (h) := e_aload_n dX5_takeNext_8 rfl
theorem iX5_takeNext_9 {a : Nat} {Ls st : List Value} {h : AH} (hk : hK h a = 5) : ev L xs mdX5_takeNext 9 (Ls) (.ref a :: st) h = ev L xs mdX5_takeNext 12 (Ls) (.int (hI h 87 a) :: st) (h) := e_getI (k := 5) (f := 7) (F := 87) dX5_takeNext_9 (by decide +kernel) rfl rfl hk
theorem iX5_takeNext_12  {Ls st : List Value} {h : AH} : ev L xs mdX5_takeNext 12 (Ls) (st) h = ev L xs mdX5_takeNext 13 (Ls) (.int (nI 2) :: st) (h) := e_iconst dX5_takeNext_12 (by decide)
theorem iX5_takeNext_13 {x z : Int32} {Ls st : List Value} {h : AH} (hz : ¬ z = 0) : ev L xs mdX5_takeNext 13 (Ls) (.int z :: .int x :: st) h = ev L xs mdX5_takeNext 14 (Ls) (.int (x - x / z * z) :: st) (h) := e_irem dX5_takeNext_13 hz
theorem iX5_takeNext_14 {a : Nat} {p0 : Nat} {p1 : Int32} {p2 : Int32} {Ls st : List Value} {h : AH} (hk : hK h a = 4) (hw : wds st ≤ 8) : ev L xs mdX5_takeNext 14 Ls (.int p2 :: .int p1 :: .ref p0 :: .ref a :: st) h = kn L xs mdX5_takeNext 14 17 Ls st (ev L xs mdX4_draw 0 [.ref a, .ref p0, .int p1, .int p2, .null, .null, .null, .null] [] h) := e_callV (as := [.int p2, .int p1, .ref p0]) dX5_takeNext_14 mr_5_105 (by decide) (by decide) rfl (by simp [wds, Value.category]; decide) rfl (by decide) hk hw
theorem iX5_takeNext_17  {Ls st : List Value} {h : AH} : ev L xs mdX5_takeNext 17 (Ls) (st) h = ev L xs mdX5_takeNext 18 (Ls) (.int (nI 0) :: st) (h) := e_iconst dX5_takeNext_17 (by decide)
theorem iX5_takeNext_18 {v0 : Value} {v1 : Value} {v2 : Value} {v3 : Value} {x : Int32} {Ls st : List Value} {h : AH} (hc9 : v2.category = 1) : ev L xs mdX5_takeNext 18 (v0 :: v1 :: v2 :: v3 :: Ls) (.int x :: st) h = ev L xs mdX5_takeNext 19 (v0 :: v1 :: v2 :: .int x :: Ls) (st) (h) := e_istore_n dX5_takeNext_18 rfl (by decide) (by unfold catOK; show (_ || (v2.category == 1)) = true; rw [hc9]; rfl)
theorem iX5_takeNext_19 {v0 : Value} {v1 : Value} {v2 : Value} {x : Int32} {Ls st : List Value} {h : AH} : ev L xs mdX5_takeNext 19 (v0 :: v1 :: v2 :: .int x :: Ls) (st) h = ev L xs mdX5_takeNext 20 (v0 :: v1 :: v2 :: .int x :: Ls) (.int x :: st) (h) := e_iload_n dX5_takeNext_19 rfl
theorem iX5_takeNext_20 {x : Nat} {Ls st : List Value} {h : AH} : ev L xs mdX5_takeNext 20 (.ref x :: Ls) (st) h = ev L xs mdX5_takeNext 21 (.ref x :: Ls) (.ref x :: st) (h) := e_aload_n dX5_takeNext_20 rfl
theorem iX5_takeNext_21 {a : Nat} {Ls st : List Value} {h : AH} (hk : hK h a = 5) : ev L xs mdX5_takeNext 21 (Ls) (.ref a :: st) h = ev L xs mdX5_takeNext 24 (Ls) (.int (hI h 84 a) :: st) (h) := e_getI (k := 5) (f := 4) (F := 84) dX5_takeNext_21 (by decide +kernel) rfl rfl hk
theorem iX5_takeNext_24 {x z : Int32} {Ls st : List Value} {h : AH} : ev L xs mdX5_takeNext 24 Ls (.int z :: .int x :: st) h = if z ≤ x then ev L xs mdX5_takeNext 91 Ls st h else ev L xs mdX5_takeNext 27 Ls st h := e_ic_ge dX5_takeNext_24 (by decide)
theorem iX5_takeNext_27 {v0 : Value} {x : Nat} {Ls st : List Value} {h : AH} : ev L xs mdX5_takeNext 27 (v0 :: .ref x :: Ls) (st) h = ev L xs mdX5_takeNext 28 (v0 :: .ref x :: Ls) (.ref x :: st) (h) := e_aload_n dX5_takeNext_27 rfl
theorem iX5_takeNext_28 {a : Nat} {Ls st : List Value} {h : AH} (hk : hK h a = 4) (hj : (hR h 64 a).isSome = true) : ev L xs mdX5_takeNext 28 (Ls) (.ref a :: st) h = ev L xs mdX5_takeNext 31 (Ls) (.ref ((hR h 64 a).getD 0) :: st) (h) := e_getR (k := 4) (f := 0) (F := 64) dX5_takeNext_28 (by decide +kernel) rfl rfl hk hj
theorem iX5_takeNext_31 {v0 : Value} {v1 : Value} {v2 : Value} {x : Int32} {Ls st : List Value} {h : AH} : ev L xs mdX5_takeNext 31 (v0 :: v1 :: v2 :: .int x :: Ls) (st) h = ev L xs mdX5_takeNext 32 (v0 :: v1 :: v2 :: .int x :: Ls) (.int x :: st) (h) := e_iload_n dX5_takeNext_31 rfl
theorem iX5_takeNext_32 {a : Nat} {j : Int32} {Ls st : List Value} {h : AH} (hk : hK h a = 8) (hi : inA j (hN h a) = true) : ev L xs mdX5_takeNext 32 (Ls) (.int j :: .ref a :: st) h = ev L xs mdX5_takeNext 33 (Ls) (.int (hA h a j.toNatClampNeg) :: st) (h) := e_iald dX5_takeNext_32 hk hi
theorem iX5_takeNext_33 {v0 : Value} {v1 : Value} {v2 : Value} {v3 : Value} {v4 : Value} {x : Int32} {Ls st : List Value} {h : AH} (hc9 : v3.category = 1) : ev L xs mdX5_takeNext 33 (v0 :: v1 :: v2 :: v3 :: v4 :: Ls) (.int x :: st) h = ev L xs mdX5_takeNext 35 (v0 :: v1 :: v2 :: v3 :: .int x :: Ls) (st) (h) := e_istore dX5_takeNext_33 rfl (by decide) (by unfold catOK; show (_ || (v3.category == 1)) = true; rw [hc9]; rfl)
theorem iX5_takeNext_35 {x : Nat} {Ls st : List Value} {h : AH} : ev L xs mdX5_takeNext 35 (.ref x :: Ls) (st) h = ev L xs mdX5_takeNext 36 (.ref x :: Ls) (.ref x :: st) (h) := e_aload_n dX5_takeNext_35 rfl
theorem iX5_takeNext_36 {a : Nat} {Ls st : List Value} {h : AH} (hk : hK h a = 5) (hj : (hR h 83 a).isSome = true) : ev L xs mdX5_takeNext 36 (Ls) (.ref a :: st) h = ev L xs mdX5_takeNext 39 (Ls) (.ref ((hR h 83 a).getD 0) :: st) (h) := e_getR (k := 5) (f := 3) (F := 83) dX5_takeNext_36 (by decide +kernel) rfl rfl hk hj
theorem iX5_takeNext_39 {v0 : Value} {v1 : Value} {v2 : Value} {x : Int32} {Ls st : List Value} {h : AH} : ev L xs mdX5_takeNext 39 (v0 :: v1 :: v2 :: .int x :: Ls) (st) h = ev L xs mdX5_takeNext 40 (v0 :: v1 :: v2 :: .int x :: Ls) (.int x :: st) (h) := e_iload_n dX5_takeNext_39 rfl
theorem iX5_takeNext_40 {a : Nat} {j : Int32} {Ls st : List Value} {h : AH} (hk : hK h a = 9 ∨ hK h a = 10 ∨ hK h a = 11) (hi : inA j (hN h a) = true) (hq : (hQ h a j.toNatClampNeg).isSome = true) : ev L xs mdX5_takeNext 40 (Ls) (.int j :: .ref a :: st) h = ev L xs mdX5_takeNext 41 (Ls) (.ref ((hQ h a j.toNatClampNeg).getD 0) :: st) (h) := e_aald dX5_takeNext_40 hk hi hq
theorem iX5_takeNext_41 {v0 : Value} {v1 : Value} {v2 : Value} {v3 : Value} {x : Int32} {Ls st : List Value} {h : AH} : ev L xs mdX5_takeNext 41 (v0 :: v1 :: v2 :: v3 :: .int x :: Ls) (st) h = ev L xs mdX5_takeNext 43 (v0 :: v1 :: v2 :: v3 :: .int x :: Ls) (.int x :: st) (h) := e_iload dX5_takeNext_41 rfl
theorem iX5_takeNext_43 {v0 : Value} {x : Nat} {Ls st : List Value} {h : AH} : ev L xs mdX5_takeNext 43 (v0 :: .ref x :: Ls) (st) h = ev L xs mdX5_takeNext 44 (v0 :: .ref x :: Ls) (.ref x :: st) (h) := e_aload_n dX5_takeNext_43 rfl
theorem iX5_takeNext_44 {a : Nat} {Ls st : List Value} {h : AH} (hk : hK h a = 4) (hj : (hR h 65 a).isSome = true) : ev L xs mdX5_takeNext 44 (Ls) (.ref a :: st) h = ev L xs mdX5_takeNext 47 (Ls) (.ref ((hR h 65 a).getD 0) :: st) (h) := e_getR (k := 4) (f := 1) (F := 65) dX5_takeNext_44 (by decide +kernel) rfl rfl hk hj
theorem iX5_takeNext_47 {v0 : Value} {v1 : Value} {v2 : Value} {x : Int32} {Ls st : List Value} {h : AH} : ev L xs mdX5_takeNext 47 (v0 :: v1 :: v2 :: .int x :: Ls) (st) h = ev L xs mdX5_takeNext 48 (v0 :: v1 :: v2 :: .int x :: Ls) (.int x :: st) (h) := e_iload_n dX5_takeNext_47 rfl
theorem iX5_takeNext_48 {a : Nat} {j : Int32} {Ls st : List Value} {h : AH} (hk : hK h a = 8) (hi : inA j (hN h a) = true) : ev L xs mdX5_takeNext 48 (Ls) (.int j :: .ref a :: st) h = ev L xs mdX5_takeNext 49 (Ls) (.int (hA h a j.toNatClampNeg) :: st) (h) := e_iald dX5_takeNext_48 hk hi
theorem iX5_takeNext_49 {x : Nat} {Ls st : List Value} {h : AH} : ev L xs mdX5_takeNext 49 (.ref x :: Ls) (st) h = ev L xs mdX5_takeNext 50 (.ref x :: Ls) (.ref x :: st) (h) := e_aload_n dX5_takeNext_49 rfl
theorem iX5_takeNext_50 {a : Nat} {Ls st : List Value} {h : AH} (hk : hK h a = 5) : ev L xs mdX5_takeNext 50 (Ls) (.ref a :: st) h = ev L xs mdX5_takeNext 53 (Ls) (.int (hI h 87 a) :: st) (h) := e_getI (k := 5) (f := 7) (F := 87) dX5_takeNext_50 (by decide +kernel) rfl rfl hk
theorem iX5_takeNext_53 {a : Nat} {p0 : Int32} {p1 : Int32} {p2 : Int32} {Ls st : List Value} {h : AH} (hk : hK h a = 2) (hw : wds st ≤ 8) : ev L xs mdX5_takeNext 53 Ls (.int p2 :: .int p1 :: .int p0 :: .ref a :: st) h = kn L xs mdX5_takeNext 53 56 Ls st (ev L xs mdX2_note 0 [.ref a, .int p0, .int p1, .int p2] [] h) := e_callV (as := [.int p2, .int p1, .int p0]) dX5_takeNext_53 mr_5_117 (by decide) (by decide) rfl (by simp [wds, Value.category]; decide) rfl (by decide) hk hw
theorem iX5_takeNext_56 {x : Nat} {Ls st : List Value} {h : AH} : ev L xs mdX5_takeNext 56 (.ref x :: Ls) (st) h = ev L xs mdX5_takeNext 57 (.ref x :: Ls) (.ref x :: st) (h) := e_aload_n dX5_takeNext_56 rfl
theorem iX5_takeNext_57 {v0 : Value} {v1 : Value} {v2 : Value} {v3 : Value} {x : Int32} {Ls st : List Value} {h : AH} : ev L xs mdX5_takeNext 57 (v0 :: v1 :: v2 :: v3 :: .int x :: Ls) (st) h = ev L xs mdX5_takeNext 59 (v0 :: v1 :: v2 :: v3 :: .int x :: Ls) (.int x :: st) (h) := e_iload dX5_takeNext_57 rfl
theorem iX5_takeNext_59 {a : Nat} {p0 : Int32} {Ls st : List Value} {h : AH} (hk : hK h a = 5) (hw : wds st ≤ 8) : ev L xs mdX5_takeNext 59 Ls (.int p0 :: .ref a :: st) h = kn L xs mdX5_takeNext 59 62 Ls st (ev L xs mdX5_hasGuard 0 [.ref a, .int p0] [] h) := e_callV (as := [.int p0]) dX5_takeNext_59 mr_5_120 (by decide) (by decide) rfl (by simp [wds, Value.category]; decide) rfl (by decide) hk hw
theorem iX5_takeNext_62 {x : Int32} {Ls st : List Value} {h : AH} : ev L xs mdX5_takeNext 62 Ls (.int x :: st) h = if x = nI 0 then ev L xs mdX5_takeNext 85 Ls st h else ev L xs mdX5_takeNext 65 Ls st h := e_if_eq dX5_takeNext_62 (by decide)
theorem iX5_takeNext_65 {x : Nat} {Ls st : List Value} {h : AH} : ev L xs mdX5_takeNext 65 (.ref x :: Ls) (st) h = ev L xs mdX5_takeNext 66 (.ref x :: Ls) (.ref x :: st) (h) := e_aload_n dX5_takeNext_65 rfl
theorem iX5_takeNext_66 {a : Nat} {Ls st : List Value} {h : AH} (hk : hK h a = 5) (hj : (hR h 85 a).isSome = true) : ev L xs mdX5_takeNext 66 (Ls) (.ref a :: st) h = ev L xs mdX5_takeNext 69 (Ls) (.ref ((hR h 85 a).getD 0) :: st) (h) := e_getR (k := 5) (f := 5) (F := 85) dX5_takeNext_66 (by decide +kernel) rfl rfl hk hj
theorem iX5_takeNext_69 {v0 : Value} {v1 : Value} {v2 : Value} {v3 : Value} {x : Int32} {Ls st : List Value} {h : AH} : ev L xs mdX5_takeNext 69 (v0 :: v1 :: v2 :: v3 :: .int x :: Ls) (st) h = ev L xs mdX5_takeNext 71 (v0 :: v1 :: v2 :: v3 :: .int x :: Ls) (.int x :: st) (h) := e_iload dX5_takeNext_69 rfl
theorem iX5_takeNext_71 {a : Nat} {j : Int32} {Ls st : List Value} {h : AH} (hk : hK h a = 9 ∨ hK h a = 10 ∨ hK h a = 11) (hi : inA j (hN h a) = true) (hq : (hQ h a j.toNatClampNeg).isSome = true) : ev L xs mdX5_takeNext 71 (Ls) (.int j :: .ref a :: st) h = ev L xs mdX5_takeNext 72 (Ls) (.ref ((hQ h a j.toNatClampNeg).getD 0) :: st) (h) := e_aald dX5_takeNext_71 hk hi hq
theorem iX5_takeNext_72 {v0 : Value} {v1 : Value} {v2 : Value} {x : Int32} {Ls st : List Value} {h : AH} : ev L xs mdX5_takeNext 72 (v0 :: v1 :: v2 :: .int x :: Ls) (st) h = ev L xs mdX5_takeNext 73 (v0 :: v1 :: v2 :: .int x :: Ls) (.int x :: st) (h) := e_iload_n dX5_takeNext_72 rfl
theorem iX5_takeNext_73 {x : Nat} {Ls st : List Value} {h : AH} : ev L xs mdX5_takeNext 73 (.ref x :: Ls) (st) h = ev L xs mdX5_takeNext 74 (.ref x :: Ls) (.ref x :: st) (h) := e_aload_n dX5_takeNext_73 rfl
theorem iX5_takeNext_74 {a : Nat} {Ls st : List Value} {h : AH} (hk : hK h a = 5) (hj : (hR h 83 a).isSome = true) : ev L xs mdX5_takeNext 74 (Ls) (.ref a :: st) h = ev L xs mdX5_takeNext 77 (Ls) (.ref ((hR h 83 a).getD 0) :: st) (h) := e_getR (k := 5) (f := 3) (F := 83) dX5_takeNext_74 (by decide +kernel) rfl rfl hk hj
theorem iX5_takeNext_77 {v0 : Value} {v1 : Value} {v2 : Value} {x : Int32} {Ls st : List Value} {h : AH} : ev L xs mdX5_takeNext 77 (v0 :: v1 :: v2 :: .int x :: Ls) (st) h = ev L xs mdX5_takeNext 78 (v0 :: v1 :: v2 :: .int x :: Ls) (.int x :: st) (h) := e_iload_n dX5_takeNext_77 rfl
theorem iX5_takeNext_78 {a : Nat} {j : Int32} {Ls st : List Value} {h : AH} (hk : hK h a = 9 ∨ hK h a = 10 ∨ hK h a = 11) (hi : inA j (hN h a) = true) (hq : (hQ h a j.toNatClampNeg).isSome = true) : ev L xs mdX5_takeNext 78 (Ls) (.int j :: .ref a :: st) h = ev L xs mdX5_takeNext 79 (Ls) (.ref ((hQ h a j.toNatClampNeg).getD 0) :: st) (h) := e_aald dX5_takeNext_78 hk hi hq
theorem iX5_takeNext_79 {a : Nat} {Ls st : List Value} {h : AH} (hk : hK h a = 2) : ev L xs mdX5_takeNext 79 (Ls) (.ref a :: st) h = ev L xs mdX5_takeNext 82 (Ls) (.int (hI h 32 a) :: st) (h) := e_getI (k := 2) (f := 0) (F := 32) dX5_takeNext_79 (by decide +kernel) rfl rfl hk
theorem iX5_takeNext_82 {a : Nat} {p0 : Int32} {p1 : Int32} {Ls st : List Value} {h : AH} (hk : hK h a = 0) (hw : wds st ≤ 8) : ev L xs mdX5_takeNext 82 Ls (.int p1 :: .int p0 :: .ref a :: st) h = kn L xs mdX5_takeNext 82 85 Ls st (ev L xs mdX0_standAt 0 [.ref a, .int p0, .int p1] [] h) := e_callV (as := [.int p1, .int p0]) dX5_takeNext_82 mr_5_126 (by decide) (by decide) rfl (by simp [wds, Value.category]; decide) rfl (by decide) hk hw
theorem iX5_takeNext_85 {v0 : Value} {v1 : Value} {v2 : Value} {x : Int32} {Ls st : List Value} {h : AH} (hc9 : v2.category = 1) : ev L xs mdX5_takeNext 85 (v0 :: v1 :: v2 :: .int x :: Ls) (st) h = ev L xs mdX5_takeNext 88 (v0 :: v1 :: v2 :: .int (x + (nI 1)) :: Ls) (st) (h) := e_iinc dX5_takeNext_85 rfl rfl rfl (by decide) (by unfold catOK; show (_ || (v2.category == 1)) = true; rw [hc9]; rfl)
theorem iX5_takeNext_88  {Ls st : List Value} {h : AH} : ev L xs mdX5_takeNext 88 (Ls) (st) h = ev L xs mdX5_takeNext 19 (Ls) (st) (h) := e_goto dX5_takeNext_88 (by decide)
theorem iX5_takeNext_91 {x : Nat} {Ls st : List Value} {h : AH} : ev L xs mdX5_takeNext 91 (.ref x :: Ls) (st) h = ev L xs mdX5_takeNext 92 (.ref x :: Ls) (.ref x :: st) (h) := e_aload_n dX5_takeNext_91 rfl
theorem iX5_takeNext_92 {v0 : Value} {v1 : Value} {x : Int32} {Ls st : List Value} {h : AH} : ev L xs mdX5_takeNext 92 (v0 :: v1 :: .int x :: Ls) (st) h = ev L xs mdX5_takeNext 93 (v0 :: v1 :: .int x :: Ls) (.int x :: st) (h) := e_iload_n dX5_takeNext_92 rfl
theorem iX5_takeNext_93 {a : Nat} {p0 : Int32} {Ls st : List Value} {h : AH} (hk : hK h a = 5) (hw : wds st ≤ 8) : ev L xs mdX5_takeNext 93 Ls (.int p0 :: .ref a :: st) h = kn L xs mdX5_takeNext 93 96 Ls st (ev L xs mdX5_isSchoolDay 0 [.ref a, .int p0, .null] [] h) := e_callV (as := [.int p0]) dX5_takeNext_93 mr_5_96 (by decide) (by decide) rfl (by simp [wds, Value.category]; decide) rfl (by decide) hk hw
theorem iX5_takeNext_96 {x : Int32} {Ls st : List Value} {h : AH} : ev L xs mdX5_takeNext 96 Ls (.int x :: st) h = if x = nI 0 then ev L xs mdX5_takeNext 109 Ls st h else ev L xs mdX5_takeNext 99 Ls st h := e_if_eq dX5_takeNext_96 (by decide)
theorem iX5_takeNext_99 {x : Nat} {Ls st : List Value} {h : AH} : ev L xs mdX5_takeNext 99 (.ref x :: Ls) (st) h = ev L xs mdX5_takeNext 100 (.ref x :: Ls) (.ref x :: st) (h) := e_aload_n dX5_takeNext_99 rfl
theorem iX5_takeNext_100 {a : Nat} {Ls st : List Value} {h : AH} : ev L xs mdX5_takeNext 100 (Ls) (.ref a :: st) h = ev L xs mdX5_takeNext 101 (Ls) (.ref a :: .ref a :: st) (h) := e_dup dX5_takeNext_100 rfl
theorem iX5_takeNext_100i {a : Int32} {Ls st : List Value} {h : AH} : ev L xs mdX5_takeNext 100 (Ls) (.int a :: st) h = ev L xs mdX5_takeNext 101 (Ls) (.int a :: .int a :: st) (h) := e_dup dX5_takeNext_100 rfl
theorem iX5_takeNext_101 {a : Nat} {Ls st : List Value} {h : AH} (hk : hK h a = 5) : ev L xs mdX5_takeNext 101 (Ls) (.ref a :: st) h = ev L xs mdX5_takeNext 104 (Ls) (.int (hI h 88 a) :: st) (h) := e_getI (k := 5) (f := 8) (F := 88) dX5_takeNext_101 (by decide +kernel) rfl rfl hk
theorem iX5_takeNext_104  {Ls st : List Value} {h : AH} : ev L xs mdX5_takeNext 104 (Ls) (st) h = ev L xs mdX5_takeNext 105 (Ls) (.int (nI 1) :: st) (h) := e_iconst dX5_takeNext_104 (by decide)
theorem iX5_takeNext_105 {x z : Int32} {Ls st : List Value} {h : AH} : ev L xs mdX5_takeNext 105 (Ls) (.int z :: .int x :: st) h = ev L xs mdX5_takeNext 106 (Ls) (.int (x + z) :: st) (h) := e_iadd dX5_takeNext_105
theorem iX5_takeNext_106 {a : Nat} {v : Int32} {Ls st : List Value} {h : AH} (hk : hK h a = 5) : ev L xs mdX5_takeNext 106 (Ls) (.int v :: .ref a :: st) h = ev L xs mdX5_takeNext 109 (Ls) (st) (sI h 88 a v) := e_putI (k := 5) (f := 8) (F := 88) dX5_takeNext_106 (by decide +kernel) rfl (by decide +kernel) rfl hk
theorem iX5_takeNext_109 {x : Nat} {Ls st : List Value} {h : AH} : ev L xs mdX5_takeNext 109 (.ref x :: Ls) (st) h = ev L xs mdX5_takeNext 110 (.ref x :: Ls) (.ref x :: st) (h) := e_aload_n dX5_takeNext_109 rfl
theorem iX5_takeNext_110 {a : Nat} {Ls st : List Value} {h : AH} : ev L xs mdX5_takeNext 110 (Ls) (.ref a :: st) h = ev L xs mdX5_takeNext 111 (Ls) (.ref a :: .ref a :: st) (h) := e_dup dX5_takeNext_110 rfl
theorem iX5_takeNext_110i {a : Int32} {Ls st : List Value} {h : AH} : ev L xs mdX5_takeNext 110 (Ls) (.int a :: st) h = ev L xs mdX5_takeNext 111 (Ls) (.int a :: .int a :: st) (h) := e_dup dX5_takeNext_110 rfl
theorem iX5_takeNext_111 {a : Nat} {Ls st : List Value} {h : AH} (hk : hK h a = 5) : ev L xs mdX5_takeNext 111 (Ls) (.ref a :: st) h = ev L xs mdX5_takeNext 114 (Ls) (.int (hI h 89 a) :: st) (h) := e_getI (k := 5) (f := 9) (F := 89) dX5_takeNext_111 (by decide +kernel) rfl rfl hk
theorem iX5_takeNext_114 {v0 : Value} {x : Nat} {Ls st : List Value} {h : AH} : ev L xs mdX5_takeNext 114 (v0 :: .ref x :: Ls) (st) h = ev L xs mdX5_takeNext 115 (v0 :: .ref x :: Ls) (.ref x :: st) (h) := e_aload_n dX5_takeNext_114 rfl
theorem iX5_takeNext_115 {a : Nat} {Ls st : List Value} {h : AH} (hk : hK h a = 4) : ev L xs mdX5_takeNext 115 (Ls) (.ref a :: st) h = ev L xs mdX5_takeNext 118 (Ls) (.int (hI h 66 a) :: st) (h) := e_getI (k := 4) (f := 2) (F := 66) dX5_takeNext_115 (by decide +kernel) rfl rfl hk
theorem iX5_takeNext_118 {p0 : Int32} {Ls st : List Value} {h : AH} (hw : wds st ≤ 8) : ev L xs mdX5_takeNext 118 Ls (.int p0 :: st) h = kn L xs mdX5_takeNext 118 121 Ls st (ev L xs mdJ6_bitCount_0f7a4 0 [.int p0] [] h) := e_callS (as := [.int p0]) dX5_takeNext_118 mr_5_132 (by decide) (by decide) rfl (by simp [wds, Value.category]; decide) rfl hw
theorem iX5_takeNext_121 {x z : Int32} {Ls st : List Value} {h : AH} : ev L xs mdX5_takeNext 121 (Ls) (.int z :: .int x :: st) h = ev L xs mdX5_takeNext 122 (Ls) (.int (x + z) :: st) (h) := e_iadd dX5_takeNext_121
theorem iX5_takeNext_122 {a : Nat} {v : Int32} {Ls st : List Value} {h : AH} (hk : hK h a = 5) : ev L xs mdX5_takeNext 122 (Ls) (.int v :: .ref a :: st) h = ev L xs mdX5_takeNext 125 (Ls) (st) (sI h 89 a v) := e_putI (k := 5) (f := 9) (F := 89) dX5_takeNext_122 (by decide +kernel) rfl (by decide +kernel) rfl hk
theorem iX5_takeNext_125 {x : Nat} {Ls st : List Value} {h : AH} : ev L xs mdX5_takeNext 125 (.ref x :: Ls) (st) h = ev L xs mdX5_takeNext 126 (.ref x :: Ls) (.ref x :: st) (h) := e_aload_n dX5_takeNext_125 rfl
theorem iX5_takeNext_126 {a : Nat} {Ls st : List Value} {h : AH} : ev L xs mdX5_takeNext 126 (Ls) (.ref a :: st) h = ev L xs mdX5_takeNext 127 (Ls) (.ref a :: .ref a :: st) (h) := e_dup dX5_takeNext_126 rfl
theorem iX5_takeNext_126i {a : Int32} {Ls st : List Value} {h : AH} : ev L xs mdX5_takeNext 126 (Ls) (.int a :: st) h = ev L xs mdX5_takeNext 127 (Ls) (.int a :: .int a :: st) (h) := e_dup dX5_takeNext_126 rfl
theorem iX5_takeNext_127 {a : Nat} {Ls st : List Value} {h : AH} (hk : hK h a = 5) : ev L xs mdX5_takeNext 127 (Ls) (.ref a :: st) h = ev L xs mdX5_takeNext 130 (Ls) (.int (hI h 87 a) :: st) (h) := e_getI (k := 5) (f := 7) (F := 87) dX5_takeNext_127 (by decide +kernel) rfl rfl hk
theorem iX5_takeNext_130  {Ls st : List Value} {h : AH} : ev L xs mdX5_takeNext 130 (Ls) (st) h = ev L xs mdX5_takeNext 131 (Ls) (.int (nI 1) :: st) (h) := e_iconst dX5_takeNext_130 (by decide)
theorem iX5_takeNext_131 {x z : Int32} {Ls st : List Value} {h : AH} : ev L xs mdX5_takeNext 131 (Ls) (.int z :: .int x :: st) h = ev L xs mdX5_takeNext 132 (Ls) (.int (x + z) :: st) (h) := e_iadd dX5_takeNext_131
theorem iX5_takeNext_132 {a : Nat} {v : Int32} {Ls st : List Value} {h : AH} (hk : hK h a = 5) : ev L xs mdX5_takeNext 132 (Ls) (.int v :: .ref a :: st) h = ev L xs mdX5_takeNext 135 (Ls) (st) (sI h 87 a v) := e_putI (k := 5) (f := 7) (F := 87) dX5_takeNext_132 (by decide +kernel) rfl (by decide +kernel) rfl hk
theorem iX5_takeNext_135 {v0 : Value} {x : Nat} {Ls st : List Value} {h : AH} : ev L xs mdX5_takeNext 135 (v0 :: .ref x :: Ls) (st) h = ev L xs mdX5_takeNext 136 (v0 :: .ref x :: Ls) (.ref x :: st) (h) := e_aload_n dX5_takeNext_135 rfl
theorem iX5_takeNext_136 {a : Nat} {Ls st : List Value} {h : AH} (hk : hK h a = 4) : ev L xs mdX5_takeNext 136 (Ls) (.ref a :: st) h = ev L xs mdX5_takeNext 139 (Ls) (.int (hI h 67 a) :: st) (h) := e_getI (k := 4) (f := 3) (F := 67) dX5_takeNext_136 (by decide +kernel) rfl rfl hk
theorem iX5_takeNext_139 {v : Int32} {Ls : List Value} {h : AH} : ev L xs mdX5_takeNext 139 Ls [.int v] h = some (.inl (some (.int v), h)) := e_iret dX5_takeNext_139 rfl
theorem dX5_timesOpen_0 : decode cX5_timesOpen 0 = .ok (.iconst 0, 1) := by decide +kernel
theorem dX5_timesOpen_1 : decode cX5_timesOpen 1 = .ok (.istore_n 1, 1) := by decide +kernel
theorem dX5_timesOpen_2 : decode cX5_timesOpen 2 = .ok (.iconst 0, 1) := by decide +kernel
theorem dX5_timesOpen_3 : decode cX5_timesOpen 3 = .ok (.istore_n 2, 1) := by decide +kernel
theorem dX5_timesOpen_4 : decode cX5_timesOpen 4 = .ok (.iload_n 2, 1) := by decide +kernel
theorem dX5_timesOpen_5 : decode cX5_timesOpen 5 = .ok (.aload_n 0, 1) := by decide +kernel
theorem dX5_timesOpen_6 : decode cX5_timesOpen 6 = .ok (.getfield 36, 3) := by decide +kernel
theorem dX5_timesOpen_9 : decode cX5_timesOpen 9 = .ok (.if_icmp .ge 21, 3) := by decide +kernel
theorem dX5_timesOpen_12 : decode cX5_timesOpen 12 = .ok (.iload_n 1, 1) := by decide +kernel
theorem dX5_timesOpen_13 : decode cX5_timesOpen 13 = .ok (.aload_n 0, 1) := by decide +kernel
theorem dX5_timesOpen_14 : decode cX5_timesOpen 14 = .ok (.getfield 20, 3) := by decide +kernel
theorem dX5_timesOpen_17 : decode cX5_timesOpen 17 = .ok (.iload_n 2, 1) := by decide +kernel
theorem dX5_timesOpen_18 : decode cX5_timesOpen 18 = .ok (.aaload, 1) := by decide +kernel
theorem dX5_timesOpen_19 : decode cX5_timesOpen 19 = .ok (.getfield 145, 3) := by decide +kernel
theorem dX5_timesOpen_22 : decode cX5_timesOpen 22 = .ok (.iadd, 1) := by decide +kernel
theorem dX5_timesOpen_23 : decode cX5_timesOpen 23 = .ok (.istore_n 1, 1) := by decide +kernel
theorem dX5_timesOpen_24 : decode cX5_timesOpen 24 = .ok (.iinc 2 1, 3) := by decide +kernel
theorem dX5_timesOpen_27 : decode cX5_timesOpen 27 = .ok (.goto (-23), 3) := by decide +kernel
theorem dX5_timesOpen_30 : decode cX5_timesOpen 30 = .ok (.iload_n 1, 1) := by decide +kernel
theorem dX5_timesOpen_31 : decode cX5_timesOpen 31 = .ok (.ireturn, 1) := by decide +kernel
theorem iX5_timesOpen_0  {Ls st : List Value} {h : AH} : ev L xs mdX5_timesOpen 0 (Ls) (st) h = ev L xs mdX5_timesOpen 1 (Ls) (.int (nI 0) :: st) (h) := e_iconst dX5_timesOpen_0 (by decide)
theorem iX5_timesOpen_1 {v0 : Value} {v1 : Value} {x : Int32} {Ls st : List Value} {h : AH} (hc9 : v0.category = 1) : ev L xs mdX5_timesOpen 1 (v0 :: v1 :: Ls) (.int x :: st) h = ev L xs mdX5_timesOpen 2 (v0 :: .int x :: Ls) (st) (h) := e_istore_n dX5_timesOpen_1 rfl (by decide) (by unfold catOK; show (_ || (v0.category == 1)) = true; rw [hc9]; rfl)
theorem iX5_timesOpen_2  {Ls st : List Value} {h : AH} : ev L xs mdX5_timesOpen 2 (Ls) (st) h = ev L xs mdX5_timesOpen 3 (Ls) (.int (nI 0) :: st) (h) := e_iconst dX5_timesOpen_2 (by decide)
theorem iX5_timesOpen_3 {v0 : Value} {v1 : Value} {v2 : Value} {x : Int32} {Ls st : List Value} {h : AH} (hc9 : v1.category = 1) : ev L xs mdX5_timesOpen 3 (v0 :: v1 :: v2 :: Ls) (.int x :: st) h = ev L xs mdX5_timesOpen 4 (v0 :: v1 :: .int x :: Ls) (st) (h) := e_istore_n dX5_timesOpen_3 rfl (by decide) (by unfold catOK; show (_ || (v1.category == 1)) = true; rw [hc9]; rfl)
theorem iX5_timesOpen_4 {v0 : Value} {v1 : Value} {x : Int32} {Ls st : List Value} {h : AH} : ev L xs mdX5_timesOpen 4 (v0 :: v1 :: .int x :: Ls) (st) h = ev L xs mdX5_timesOpen 5 (v0 :: v1 :: .int x :: Ls) (.int x :: st) (h) := e_iload_n dX5_timesOpen_4 rfl
theorem iX5_timesOpen_5 {x : Nat} {Ls st : List Value} {h : AH} : ev L xs mdX5_timesOpen 5 (.ref x :: Ls) (st) h = ev L xs mdX5_timesOpen 6 (.ref x :: Ls) (.ref x :: st) (h) := e_aload_n dX5_timesOpen_5 rfl
theorem iX5_timesOpen_6 {a : Nat} {Ls st : List Value} {h : AH} (hk : hK h a = 5) : ev L xs mdX5_timesOpen 6 (Ls) (.ref a :: st) h = ev L xs mdX5_timesOpen 9 (Ls) (.int (hI h 84 a) :: st) (h) := e_getI (k := 5) (f := 4) (F := 84) dX5_timesOpen_6 (by decide +kernel) rfl rfl hk
theorem iX5_timesOpen_9 {x z : Int32} {Ls st : List Value} {h : AH} : ev L xs mdX5_timesOpen 9 Ls (.int z :: .int x :: st) h = if z ≤ x then ev L xs mdX5_timesOpen 30 Ls st h else ev L xs mdX5_timesOpen 12 Ls st h := e_ic_ge dX5_timesOpen_9 (by decide)
theorem iX5_timesOpen_12 {v0 : Value} {x : Int32} {Ls st : List Value} {h : AH} : ev L xs mdX5_timesOpen 12 (v0 :: .int x :: Ls) (st) h = ev L xs mdX5_timesOpen 13 (v0 :: .int x :: Ls) (.int x :: st) (h) := e_iload_n dX5_timesOpen_12 rfl
theorem iX5_timesOpen_13 {x : Nat} {Ls st : List Value} {h : AH} : ev L xs mdX5_timesOpen 13 (.ref x :: Ls) (st) h = ev L xs mdX5_timesOpen 14 (.ref x :: Ls) (.ref x :: st) (h) := e_aload_n dX5_timesOpen_13 rfl
theorem iX5_timesOpen_14 {a : Nat} {Ls st : List Value} {h : AH} (hk : hK h a = 5) (hj : (hR h 83 a).isSome = true) : ev L xs mdX5_timesOpen 14 (Ls) (.ref a :: st) h = ev L xs mdX5_timesOpen 17 (Ls) (.ref ((hR h 83 a).getD 0) :: st) (h) := e_getR (k := 5) (f := 3) (F := 83) dX5_timesOpen_14 (by decide +kernel) rfl rfl hk hj
theorem iX5_timesOpen_17 {v0 : Value} {v1 : Value} {x : Int32} {Ls st : List Value} {h : AH} : ev L xs mdX5_timesOpen 17 (v0 :: v1 :: .int x :: Ls) (st) h = ev L xs mdX5_timesOpen 18 (v0 :: v1 :: .int x :: Ls) (.int x :: st) (h) := e_iload_n dX5_timesOpen_17 rfl
theorem iX5_timesOpen_18 {a : Nat} {j : Int32} {Ls st : List Value} {h : AH} (hk : hK h a = 9 ∨ hK h a = 10 ∨ hK h a = 11) (hi : inA j (hN h a) = true) (hq : (hQ h a j.toNatClampNeg).isSome = true) : ev L xs mdX5_timesOpen 18 (Ls) (.int j :: .ref a :: st) h = ev L xs mdX5_timesOpen 19 (Ls) (.ref ((hQ h a j.toNatClampNeg).getD 0) :: st) (h) := e_aald dX5_timesOpen_18 hk hi hq
theorem iX5_timesOpen_19 {a : Nat} {Ls st : List Value} {h : AH} (hk : hK h a = 2) : ev L xs mdX5_timesOpen 19 (Ls) (.ref a :: st) h = ev L xs mdX5_timesOpen 22 (Ls) (.int (hI h 34 a) :: st) (h) := e_getI (k := 2) (f := 2) (F := 34) dX5_timesOpen_19 (by decide +kernel) rfl rfl hk
theorem iX5_timesOpen_22 {x z : Int32} {Ls st : List Value} {h : AH} : ev L xs mdX5_timesOpen 22 (Ls) (.int z :: .int x :: st) h = ev L xs mdX5_timesOpen 23 (Ls) (.int (x + z) :: st) (h) := e_iadd dX5_timesOpen_22
theorem iX5_timesOpen_23 {v0 : Value} {v1 : Value} {x : Int32} {Ls st : List Value} {h : AH} (hc9 : v0.category = 1) : ev L xs mdX5_timesOpen 23 (v0 :: v1 :: Ls) (.int x :: st) h = ev L xs mdX5_timesOpen 24 (v0 :: .int x :: Ls) (st) (h) := e_istore_n dX5_timesOpen_23 rfl (by decide) (by unfold catOK; show (_ || (v0.category == 1)) = true; rw [hc9]; rfl)
theorem iX5_timesOpen_24 {v0 : Value} {v1 : Value} {x : Int32} {Ls st : List Value} {h : AH} (hc9 : v1.category = 1) : ev L xs mdX5_timesOpen 24 (v0 :: v1 :: .int x :: Ls) (st) h = ev L xs mdX5_timesOpen 27 (v0 :: v1 :: .int (x + (nI 1)) :: Ls) (st) (h) := e_iinc dX5_timesOpen_24 rfl rfl rfl (by decide) (by unfold catOK; show (_ || (v1.category == 1)) = true; rw [hc9]; rfl)
theorem iX5_timesOpen_27  {Ls st : List Value} {h : AH} : ev L xs mdX5_timesOpen 27 (Ls) (st) h = ev L xs mdX5_timesOpen 4 (Ls) (st) (h) := e_goto dX5_timesOpen_27 (by decide)
theorem iX5_timesOpen_30 {v0 : Value} {x : Int32} {Ls st : List Value} {h : AH} : ev L xs mdX5_timesOpen 30 (v0 :: .int x :: Ls) (st) h = ev L xs mdX5_timesOpen 31 (v0 :: .int x :: Ls) (.int x :: st) (h) := e_iload_n dX5_timesOpen_30 rfl
theorem iX5_timesOpen_31 {v : Int32} {Ls : List Value} {h : AH} : ev L xs mdX5_timesOpen 31 Ls [.int v] h = some (.inl (some (.int v), h)) := e_iret dX5_timesOpen_31 rfl
theorem dX5_wellGuards_0 : decode cX5_wellGuards 0 = .ok (.iconst 0, 1) := by decide +kernel
theorem dX5_wellGuards_1 : decode cX5_wellGuards 1 = .ok (.istore_n 2, 1) := by decide +kernel
theorem dX5_wellGuards_2 : decode cX5_wellGuards 2 = .ok (.iconst 0, 1) := by decide +kernel
theorem dX5_wellGuards_3 : decode cX5_wellGuards 3 = .ok (.istore_n 3, 1) := by decide +kernel
theorem dX5_wellGuards_4 : decode cX5_wellGuards 4 = .ok (.iload_n 3, 1) := by decide +kernel
theorem dX5_wellGuards_5 : decode cX5_wellGuards 5 = .ok (.aload_n 0, 1) := by decide +kernel
theorem dX5_wellGuards_6 : decode cX5_wellGuards 6 = .ok (.getfield 39, 3) := by decide +kernel
theorem dX5_wellGuards_9 : decode cX5_wellGuards 9 = .ok (.if_icmp .ge 28, 3) := by decide +kernel
theorem dX5_wellGuards_12 : decode cX5_wellGuards 12 = .ok (.aload_n 0, 1) := by decide +kernel
theorem dX5_wellGuards_13 : decode cX5_wellGuards 13 = .ok (.getfield 26, 3) := by decide +kernel
theorem dX5_wellGuards_16 : decode cX5_wellGuards 16 = .ok (.iload_n 3, 1) := by decide +kernel
theorem dX5_wellGuards_17 : decode cX5_wellGuards 17 = .ok (.aaload, 1) := by decide +kernel
theorem dX5_wellGuards_18 : decode cX5_wellGuards 18 = .ok (.iload_n 1, 1) := by decide +kernel
theorem dX5_wellGuards_19 : decode cX5_wellGuards 19 = .ok (.invokevirtual 102, 3) := by decide +kernel
theorem dX5_wellGuards_22 : decode cX5_wellGuards 22 = .ok (.ifCond .ne 9, 3) := by decide +kernel
theorem dX5_wellGuards_25 : decode cX5_wellGuards 25 = .ok (.iload_n 2, 1) := by decide +kernel
theorem dX5_wellGuards_26 : decode cX5_wellGuards 26 = .ok (.iconst 1, 1) := by decide +kernel
theorem dX5_wellGuards_27 : decode cX5_wellGuards 27 = .ok (.iload_n 3, 1) := by decide +kernel
theorem dX5_wellGuards_28 : decode cX5_wellGuards 28 = .ok (.ishl, 1) := by decide +kernel
theorem dX5_wellGuards_29 : decode cX5_wellGuards 29 = .ok (.ior, 1) := by decide +kernel
theorem dX5_wellGuards_30 : decode cX5_wellGuards 30 = .ok (.istore_n 2, 1) := by decide +kernel
theorem dX5_wellGuards_31 : decode cX5_wellGuards 31 = .ok (.iinc 3 1, 3) := by decide +kernel
theorem dX5_wellGuards_34 : decode cX5_wellGuards 34 = .ok (.goto (-30), 3) := by decide +kernel
theorem dX5_wellGuards_37 : decode cX5_wellGuards 37 = .ok (.iload_n 2, 1) := by decide +kernel
theorem dX5_wellGuards_38 : decode cX5_wellGuards 38 = .ok (.ireturn, 1) := by decide +kernel
theorem iX5_wellGuards_0  {Ls st : List Value} {h : AH} : ev L xs mdX5_wellGuards 0 (Ls) (st) h = ev L xs mdX5_wellGuards 1 (Ls) (.int (nI 0) :: st) (h) := e_iconst dX5_wellGuards_0 (by decide)
theorem iX5_wellGuards_1 {v0 : Value} {v1 : Value} {v2 : Value} {x : Int32} {Ls st : List Value} {h : AH} (hc9 : v1.category = 1) : ev L xs mdX5_wellGuards 1 (v0 :: v1 :: v2 :: Ls) (.int x :: st) h = ev L xs mdX5_wellGuards 2 (v0 :: v1 :: .int x :: Ls) (st) (h) := e_istore_n dX5_wellGuards_1 rfl (by decide) (by unfold catOK; show (_ || (v1.category == 1)) = true; rw [hc9]; rfl)
theorem iX5_wellGuards_2  {Ls st : List Value} {h : AH} : ev L xs mdX5_wellGuards 2 (Ls) (st) h = ev L xs mdX5_wellGuards 3 (Ls) (.int (nI 0) :: st) (h) := e_iconst dX5_wellGuards_2 (by decide)
theorem iX5_wellGuards_3 {v0 : Value} {v1 : Value} {v2 : Value} {v3 : Value} {x : Int32} {Ls st : List Value} {h : AH} (hc9 : v2.category = 1) : ev L xs mdX5_wellGuards 3 (v0 :: v1 :: v2 :: v3 :: Ls) (.int x :: st) h = ev L xs mdX5_wellGuards 4 (v0 :: v1 :: v2 :: .int x :: Ls) (st) (h) := e_istore_n dX5_wellGuards_3 rfl (by decide) (by unfold catOK; show (_ || (v2.category == 1)) = true; rw [hc9]; rfl)
theorem iX5_wellGuards_4 {v0 : Value} {v1 : Value} {v2 : Value} {x : Int32} {Ls st : List Value} {h : AH} : ev L xs mdX5_wellGuards 4 (v0 :: v1 :: v2 :: .int x :: Ls) (st) h = ev L xs mdX5_wellGuards 5 (v0 :: v1 :: v2 :: .int x :: Ls) (.int x :: st) (h) := e_iload_n dX5_wellGuards_4 rfl
theorem iX5_wellGuards_5 {x : Nat} {Ls st : List Value} {h : AH} : ev L xs mdX5_wellGuards 5 (.ref x :: Ls) (st) h = ev L xs mdX5_wellGuards 6 (.ref x :: Ls) (.ref x :: st) (h) := e_aload_n dX5_wellGuards_5 rfl
theorem iX5_wellGuards_6 {a : Nat} {Ls st : List Value} {h : AH} (hk : hK h a = 5) : ev L xs mdX5_wellGuards 6 (Ls) (.ref a :: st) h = ev L xs mdX5_wellGuards 9 (Ls) (.int (hI h 86 a) :: st) (h) := e_getI (k := 5) (f := 6) (F := 86) dX5_wellGuards_6 (by decide +kernel) rfl rfl hk
theorem iX5_wellGuards_9 {x z : Int32} {Ls st : List Value} {h : AH} : ev L xs mdX5_wellGuards 9 Ls (.int z :: .int x :: st) h = if z ≤ x then ev L xs mdX5_wellGuards 37 Ls st h else ev L xs mdX5_wellGuards 12 Ls st h := e_ic_ge dX5_wellGuards_9 (by decide)
theorem iX5_wellGuards_12 {x : Nat} {Ls st : List Value} {h : AH} : ev L xs mdX5_wellGuards 12 (.ref x :: Ls) (st) h = ev L xs mdX5_wellGuards 13 (.ref x :: Ls) (.ref x :: st) (h) := e_aload_n dX5_wellGuards_12 rfl
theorem iX5_wellGuards_13 {a : Nat} {Ls st : List Value} {h : AH} (hk : hK h a = 5) (hj : (hR h 85 a).isSome = true) : ev L xs mdX5_wellGuards 13 (Ls) (.ref a :: st) h = ev L xs mdX5_wellGuards 16 (Ls) (.ref ((hR h 85 a).getD 0) :: st) (h) := e_getR (k := 5) (f := 5) (F := 85) dX5_wellGuards_13 (by decide +kernel) rfl rfl hk hj
theorem iX5_wellGuards_16 {v0 : Value} {v1 : Value} {v2 : Value} {x : Int32} {Ls st : List Value} {h : AH} : ev L xs mdX5_wellGuards 16 (v0 :: v1 :: v2 :: .int x :: Ls) (st) h = ev L xs mdX5_wellGuards 17 (v0 :: v1 :: v2 :: .int x :: Ls) (.int x :: st) (h) := e_iload_n dX5_wellGuards_16 rfl
theorem iX5_wellGuards_17 {a : Nat} {j : Int32} {Ls st : List Value} {h : AH} (hk : hK h a = 9 ∨ hK h a = 10 ∨ hK h a = 11) (hi : inA j (hN h a) = true) (hq : (hQ h a j.toNatClampNeg).isSome = true) : ev L xs mdX5_wellGuards 17 (Ls) (.int j :: .ref a :: st) h = ev L xs mdX5_wellGuards 18 (Ls) (.ref ((hQ h a j.toNatClampNeg).getD 0) :: st) (h) := e_aald dX5_wellGuards_17 hk hi hq
theorem iX5_wellGuards_18 {v0 : Value} {x : Int32} {Ls st : List Value} {h : AH} : ev L xs mdX5_wellGuards 18 (v0 :: .int x :: Ls) (st) h = ev L xs mdX5_wellGuards 19 (v0 :: .int x :: Ls) (.int x :: st) (h) := e_iload_n dX5_wellGuards_18 rfl
theorem iX5_wellGuards_19 {a : Nat} {p0 : Int32} {Ls st : List Value} {h : AH} (hk : hK h a = 0) (hw : wds st ≤ 8) : ev L xs mdX5_wellGuards 19 Ls (.int p0 :: .ref a :: st) h = kn L xs mdX5_wellGuards 19 22 Ls st (ev L xs mdX0_isSickOn 0 [.ref a, .int p0] [] h) := e_callV (as := [.int p0]) dX5_wellGuards_19 mr_5_102 (by decide) (by decide) rfl (by simp [wds, Value.category]; decide) rfl (by decide) hk hw
theorem iX5_wellGuards_22 {x : Int32} {Ls st : List Value} {h : AH} : ev L xs mdX5_wellGuards 22 Ls (.int x :: st) h = if x = nI 0 then ev L xs mdX5_wellGuards 25 Ls st h else ev L xs mdX5_wellGuards 31 Ls st h := e_if_ne dX5_wellGuards_22 (by decide)
theorem iX5_wellGuards_25 {v0 : Value} {v1 : Value} {x : Int32} {Ls st : List Value} {h : AH} : ev L xs mdX5_wellGuards 25 (v0 :: v1 :: .int x :: Ls) (st) h = ev L xs mdX5_wellGuards 26 (v0 :: v1 :: .int x :: Ls) (.int x :: st) (h) := e_iload_n dX5_wellGuards_25 rfl
theorem iX5_wellGuards_26  {Ls st : List Value} {h : AH} : ev L xs mdX5_wellGuards 26 (Ls) (st) h = ev L xs mdX5_wellGuards 27 (Ls) (.int (nI 1) :: st) (h) := e_iconst dX5_wellGuards_26 (by decide)
theorem iX5_wellGuards_27 {v0 : Value} {v1 : Value} {v2 : Value} {x : Int32} {Ls st : List Value} {h : AH} : ev L xs mdX5_wellGuards 27 (v0 :: v1 :: v2 :: .int x :: Ls) (st) h = ev L xs mdX5_wellGuards 28 (v0 :: v1 :: v2 :: .int x :: Ls) (.int x :: st) (h) := e_iload_n dX5_wellGuards_27 rfl
theorem iX5_wellGuards_28 {x z : Int32} {Ls st : List Value} {h : AH} : ev L xs mdX5_wellGuards 28 (Ls) (.int z :: .int x :: st) h = ev L xs mdX5_wellGuards 29 (Ls) (.int (x <<< (z &&& nI 31)) :: st) (h) := e_ishl dX5_wellGuards_28
theorem iX5_wellGuards_29 {x z : Int32} {Ls st : List Value} {h : AH} : ev L xs mdX5_wellGuards 29 (Ls) (.int z :: .int x :: st) h = ev L xs mdX5_wellGuards 30 (Ls) (.int (x ||| z) :: st) (h) := e_ior dX5_wellGuards_29
theorem iX5_wellGuards_30 {v0 : Value} {v1 : Value} {v2 : Value} {x : Int32} {Ls st : List Value} {h : AH} (hc9 : v1.category = 1) : ev L xs mdX5_wellGuards 30 (v0 :: v1 :: v2 :: Ls) (.int x :: st) h = ev L xs mdX5_wellGuards 31 (v0 :: v1 :: .int x :: Ls) (st) (h) := e_istore_n dX5_wellGuards_30 rfl (by decide) (by unfold catOK; show (_ || (v1.category == 1)) = true; rw [hc9]; rfl)
theorem iX5_wellGuards_31 {v0 : Value} {v1 : Value} {v2 : Value} {x : Int32} {Ls st : List Value} {h : AH} (hc9 : v2.category = 1) : ev L xs mdX5_wellGuards 31 (v0 :: v1 :: v2 :: .int x :: Ls) (st) h = ev L xs mdX5_wellGuards 34 (v0 :: v1 :: v2 :: .int (x + (nI 1)) :: Ls) (st) (h) := e_iinc dX5_wellGuards_31 rfl rfl rfl (by decide) (by unfold catOK; show (_ || (v2.category == 1)) = true; rw [hc9]; rfl)
theorem iX5_wellGuards_34  {Ls st : List Value} {h : AH} : ev L xs mdX5_wellGuards 34 (Ls) (st) h = ev L xs mdX5_wellGuards 4 (Ls) (st) (h) := e_goto dX5_wellGuards_34 (by decide)
theorem iX5_wellGuards_37 {v0 : Value} {v1 : Value} {x : Int32} {Ls st : List Value} {h : AH} : ev L xs mdX5_wellGuards 37 (v0 :: v1 :: .int x :: Ls) (st) h = ev L xs mdX5_wellGuards 38 (v0 :: v1 :: .int x :: Ls) (.int x :: st) (h) := e_iload_n dX5_wellGuards_37 rfl
theorem iX5_wellGuards_38 {v : Int32} {Ls : List Value} {h : AH} : ev L xs mdX5_wellGuards 38 Ls [.int v] h = some (.inl (some (.int v), h)) := e_iret dX5_wellGuards_38 rfl
end
