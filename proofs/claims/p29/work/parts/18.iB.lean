section
variable {L : Nat} {xs : Nat → Int32}
theorem dX6_addGuard_0 : decode cX6_addGuard 0 = .ok (.iload_n 3, 1) := by decide +kernel
theorem dX6_addGuard_1 : decode cX6_addGuard 1 = .ok (.iconst (-1), 1) := by decide +kernel
theorem dX6_addGuard_2 : decode cX6_addGuard 2 = .ok (.if_icmp .eq 24, 3) := by decide +kernel
theorem dX6_addGuard_5 : decode cX6_addGuard 5 = .ok (.aload_n 0, 1) := by decide +kernel
theorem dX6_addGuard_6 : decode cX6_addGuard 6 = .ok (.getfield 12, 3) := by decide +kernel
theorem dX6_addGuard_9 : decode cX6_addGuard 9 = .ok (.iload_n 3, 1) := by decide +kernel
theorem dX6_addGuard_10 : decode cX6_addGuard 10 = .ok (.invokevirtual 88, 3) := by decide +kernel
theorem dX6_addGuard_13 : decode cX6_addGuard 13 = .ok (.ifCond .ne 13, 3) := by decide +kernel
theorem dX6_addGuard_16 : decode cX6_addGuard 16 = .ok (.new 91, 3) := by decide +kernel
theorem dX6_addGuard_19 : decode cX6_addGuard 19 = .ok (.dup, 1) := by decide +kernel
theorem dX6_addGuard_20 : decode cX6_addGuard 20 = .ok (.ldc 93, 2) := by decide +kernel
theorem dX6_addGuard_22 : decode cX6_addGuard 22 = .ok (.invokespecial 95, 3) := by decide +kernel
theorem dX6_addGuard_25 : decode cX6_addGuard 25 = .ok (.athrow, 1) := by decide +kernel
theorem dX6_addGuard_26 : decode cX6_addGuard 26 = .ok (.iload_n 1, 1) := by decide +kernel
theorem dX6_addGuard_27 : decode cX6_addGuard 27 = .ok (.invokestatic 75, 3) := by decide +kernel
theorem dX6_addGuard_30 : decode cX6_addGuard 30 = .ok (.ifCond .eq 10, 3) := by decide +kernel
theorem dX6_addGuard_33 : decode cX6_addGuard 33 = .ok (.iload_n 2, 1) := by decide +kernel
theorem dX6_addGuard_34 : decode cX6_addGuard 34 = .ok (.invokestatic 75, 3) := by decide +kernel
theorem dX6_addGuard_37 : decode cX6_addGuard 37 = .ok (.ifCond .ne 13, 3) := by decide +kernel
theorem dX6_addGuard_40 : decode cX6_addGuard 40 = .ok (.new 52, 3) := by decide +kernel
theorem dX6_addGuard_43 : decode cX6_addGuard 43 = .ok (.dup, 1) := by decide +kernel
theorem dX6_addGuard_44 : decode cX6_addGuard 44 = .ok (.ldc 107, 2) := by decide +kernel
theorem dX6_addGuard_46 : decode cX6_addGuard 46 = .ok (.invokespecial 56, 3) := by decide +kernel
theorem dX6_addGuard_49 : decode cX6_addGuard 49 = .ok (.athrow, 1) := by decide +kernel
theorem dX6_addGuard_50 : decode cX6_addGuard 50 = .ok (.aload_n 0, 1) := by decide +kernel
theorem dX6_addGuard_51 : decode cX6_addGuard 51 = .ok (.getfield 12, 3) := by decide +kernel
theorem dX6_addGuard_54 : decode cX6_addGuard 54 = .ok (.getfield 109, 3) := by decide +kernel
theorem dX6_addGuard_57 : decode cX6_addGuard 57 = .ok (.bipush 10, 2) := by decide +kernel
theorem dX6_addGuard_59 : decode cX6_addGuard 59 = .ok (.if_icmp .lt 13, 3) := by decide +kernel
theorem dX6_addGuard_62 : decode cX6_addGuard 62 = .ok (.new 63, 3) := by decide +kernel
theorem dX6_addGuard_65 : decode cX6_addGuard 65 = .ok (.dup, 1) := by decide +kernel
theorem dX6_addGuard_66 : decode cX6_addGuard 66 = .ok (.ldc 112, 2) := by decide +kernel
theorem dX6_addGuard_68 : decode cX6_addGuard 68 = .ok (.invokespecial 67, 3) := by decide +kernel
theorem dX6_addGuard_71 : decode cX6_addGuard 71 = .ok (.athrow, 1) := by decide +kernel
theorem dX6_addGuard_72 : decode cX6_addGuard 72 = .ok (.iload_n 3, 1) := by decide +kernel
theorem dX6_addGuard_73 : decode cX6_addGuard 73 = .ok (.iconst (-1), 1) := by decide +kernel
theorem dX6_addGuard_74 : decode cX6_addGuard 74 = .ok (.if_icmp .eq 25, 3) := by decide +kernel
theorem dX6_addGuard_77 : decode cX6_addGuard 77 = .ok (.aload_n 0, 1) := by decide +kernel
theorem dX6_addGuard_78 : decode cX6_addGuard 78 = .ok (.getfield 12, 3) := by decide +kernel
theorem dX6_addGuard_81 : decode cX6_addGuard 81 = .ok (.iload_n 3, 1) := by decide +kernel
theorem dX6_addGuard_82 : decode cX6_addGuard 82 = .ok (.invokevirtual 114, 3) := by decide +kernel
theorem dX6_addGuard_85 : decode cX6_addGuard 85 = .ok (.iconst (-1), 1) := by decide +kernel
theorem dX6_addGuard_86 : decode cX6_addGuard 86 = .ok (.if_icmp .eq 13, 3) := by decide +kernel
theorem dX6_addGuard_89 : decode cX6_addGuard 89 = .ok (.new 63, 3) := by decide +kernel
theorem dX6_addGuard_92 : decode cX6_addGuard 92 = .ok (.dup, 1) := by decide +kernel
theorem dX6_addGuard_93 : decode cX6_addGuard 93 = .ok (.ldc 118, 2) := by decide +kernel
theorem dX6_addGuard_95 : decode cX6_addGuard 95 = .ok (.invokespecial 67, 3) := by decide +kernel
theorem dX6_addGuard_98 : decode cX6_addGuard 98 = .ok (.athrow, 1) := by decide +kernel
theorem dX6_addGuard_99 : decode cX6_addGuard 99 = .ok (.aload_n 0, 1) := by decide +kernel
theorem dX6_addGuard_100 : decode cX6_addGuard 100 = .ok (.invokevirtual 68, 3) := by decide +kernel
theorem dX6_addGuard_103 : decode cX6_addGuard 103 = .ok (.aload_n 0, 1) := by decide +kernel
theorem dX6_addGuard_104 : decode cX6_addGuard 104 = .ok (.getfield 12, 3) := by decide +kernel
theorem dX6_addGuard_107 : decode cX6_addGuard 107 = .ok (.iload_n 1, 1) := by decide +kernel
theorem dX6_addGuard_108 : decode cX6_addGuard 108 = .ok (.iload_n 2, 1) := by decide +kernel
theorem dX6_addGuard_109 : decode cX6_addGuard 109 = .ok (.iload_n 3, 1) := by decide +kernel
theorem dX6_addGuard_110 : decode cX6_addGuard 110 = .ok (.invokevirtual 120, 3) := by decide +kernel
theorem dX6_addGuard_113 : decode cX6_addGuard 113 = .ok (.ireturn, 1) := by decide +kernel
theorem iX6_addGuard_0 {v0 : Value} {v1 : Value} {v2 : Value} {x : Int32} {Ls st : List Value} {h : AH} : ev L xs mdX6_addGuard 0 (v0 :: v1 :: v2 :: .int x :: Ls) (st) h = ev L xs mdX6_addGuard 1 (v0 :: v1 :: v2 :: .int x :: Ls) (.int x :: st) (h) := e_iload_n dX6_addGuard_0 rfl
theorem iX6_addGuard_1  {Ls st : List Value} {h : AH} : ev L xs mdX6_addGuard 1 (Ls) (st) h = ev L xs mdX6_addGuard 2 (Ls) (.int (-1) :: st) (h) := e_iconst dX6_addGuard_1 (by decide)
theorem iX6_addGuard_2 {x z : Int32} {Ls st : List Value} {h : AH} : ev L xs mdX6_addGuard 2 Ls (.int z :: .int x :: st) h = if x = z then ev L xs mdX6_addGuard 26 Ls st h else ev L xs mdX6_addGuard 5 Ls st h := e_ic_eq dX6_addGuard_2 (by decide)
theorem iX6_addGuard_5 {x : Nat} {Ls st : List Value} {h : AH} : ev L xs mdX6_addGuard 5 (.ref x :: Ls) (st) h = ev L xs mdX6_addGuard 6 (.ref x :: Ls) (.ref x :: st) (h) := e_aload_n dX6_addGuard_5 rfl
theorem iX6_addGuard_6 {a : Nat} {Ls st : List Value} {h : AH} (hk : hK h a = 6) (hj : (hR h 96 a).isSome = true) : ev L xs mdX6_addGuard 6 (Ls) (.ref a :: st) h = ev L xs mdX6_addGuard 9 (Ls) (.ref ((hR h 96 a).getD 0) :: st) (h) := e_getR (k := 6) (f := 0) (F := 96) dX6_addGuard_6 (by decide +kernel) rfl rfl hk hj
theorem iX6_addGuard_9 {v0 : Value} {v1 : Value} {v2 : Value} {x : Int32} {Ls st : List Value} {h : AH} : ev L xs mdX6_addGuard 9 (v0 :: v1 :: v2 :: .int x :: Ls) (st) h = ev L xs mdX6_addGuard 10 (v0 :: v1 :: v2 :: .int x :: Ls) (.int x :: st) (h) := e_iload_n dX6_addGuard_9 rfl
theorem iX6_addGuard_10 {a : Nat} {p0 : Int32} {Ls st : List Value} {h : AH} (hk : hK h a = 5) (hw : wds st ≤ 8) : ev L xs mdX6_addGuard 10 Ls (.int p0 :: .ref a :: st) h = kn L xs mdX6_addGuard 10 13 Ls st (ev L xs mdX5_hasPost 0 [.ref a, .int p0] [] h) := e_callV (as := [.int p0]) dX6_addGuard_10 mr_6_88 (by decide) (by decide) rfl (by simp [wds, Value.category]; decide) rfl (by decide) hk hw
theorem iX6_addGuard_13 {x : Int32} {Ls st : List Value} {h : AH} : ev L xs mdX6_addGuard 13 Ls (.int x :: st) h = if x = nI 0 then ev L xs mdX6_addGuard 16 Ls st h else ev L xs mdX6_addGuard 26 Ls st h := e_if_ne dX6_addGuard_13 (by decide)
theorem iX6_addGuard_16 {Ls : List Value} {h : AH} : ev L xs mdX6_addGuard 16 Ls [] h = some (.inr ("java/lang/IndexOutOfBoundsException", bump h)) := e_throw dX6_addGuard_16 (by decide +kernel) dX6_addGuard_19 dX6_addGuard_20 dX6_addGuard_22 dX6_addGuard_25 (by decide +kernel) (by decide +kernel)
theorem iX6_addGuard_26 {v0 : Value} {x : Int32} {Ls st : List Value} {h : AH} : ev L xs mdX6_addGuard 26 (v0 :: .int x :: Ls) (st) h = ev L xs mdX6_addGuard 27 (v0 :: .int x :: Ls) (.int x :: st) (h) := e_iload_n dX6_addGuard_26 rfl
theorem iX6_addGuard_27 {p0 : Int32} {Ls st : List Value} {h : AH} (hw : wds st ≤ 8) : ev L xs mdX6_addGuard 27 Ls (.int p0 :: st) h = kn L xs mdX6_addGuard 27 30 Ls st (ev L xs mdX6_isPlace 0 [.int p0] [] h) := e_callS (as := [.int p0]) dX6_addGuard_27 mr_6_75 (by decide) (by decide) rfl (by simp [wds, Value.category]; decide) rfl hw
theorem iX6_addGuard_30 {x : Int32} {Ls st : List Value} {h : AH} : ev L xs mdX6_addGuard 30 Ls (.int x :: st) h = if x = nI 0 then ev L xs mdX6_addGuard 40 Ls st h else ev L xs mdX6_addGuard 33 Ls st h := e_if_eq dX6_addGuard_30 (by decide)
theorem iX6_addGuard_33 {v0 : Value} {v1 : Value} {x : Int32} {Ls st : List Value} {h : AH} : ev L xs mdX6_addGuard 33 (v0 :: v1 :: .int x :: Ls) (st) h = ev L xs mdX6_addGuard 34 (v0 :: v1 :: .int x :: Ls) (.int x :: st) (h) := e_iload_n dX6_addGuard_33 rfl
theorem iX6_addGuard_34 {p0 : Int32} {Ls st : List Value} {h : AH} (hw : wds st ≤ 8) : ev L xs mdX6_addGuard 34 Ls (.int p0 :: st) h = kn L xs mdX6_addGuard 34 37 Ls st (ev L xs mdX6_isPlace 0 [.int p0] [] h) := e_callS (as := [.int p0]) dX6_addGuard_34 mr_6_75 (by decide) (by decide) rfl (by simp [wds, Value.category]; decide) rfl hw
theorem iX6_addGuard_37 {x : Int32} {Ls st : List Value} {h : AH} : ev L xs mdX6_addGuard 37 Ls (.int x :: st) h = if x = nI 0 then ev L xs mdX6_addGuard 40 Ls st h else ev L xs mdX6_addGuard 50 Ls st h := e_if_ne dX6_addGuard_37 (by decide)
theorem iX6_addGuard_40 {Ls : List Value} {h : AH} : ev L xs mdX6_addGuard 40 Ls [] h = some (.inr ("java/lang/IllegalArgumentException", bump h)) := e_throw dX6_addGuard_40 (by decide +kernel) dX6_addGuard_43 dX6_addGuard_44 dX6_addGuard_46 dX6_addGuard_49 (by decide +kernel) (by decide +kernel)
theorem iX6_addGuard_50 {x : Nat} {Ls st : List Value} {h : AH} : ev L xs mdX6_addGuard 50 (.ref x :: Ls) (st) h = ev L xs mdX6_addGuard 51 (.ref x :: Ls) (.ref x :: st) (h) := e_aload_n dX6_addGuard_50 rfl
theorem iX6_addGuard_51 {a : Nat} {Ls st : List Value} {h : AH} (hk : hK h a = 6) (hj : (hR h 96 a).isSome = true) : ev L xs mdX6_addGuard 51 (Ls) (.ref a :: st) h = ev L xs mdX6_addGuard 54 (Ls) (.ref ((hR h 96 a).getD 0) :: st) (h) := e_getR (k := 6) (f := 0) (F := 96) dX6_addGuard_51 (by decide +kernel) rfl rfl hk hj
theorem iX6_addGuard_54 {a : Nat} {Ls st : List Value} {h : AH} (hk : hK h a = 5) : ev L xs mdX6_addGuard 54 (Ls) (.ref a :: st) h = ev L xs mdX6_addGuard 57 (Ls) (.int (hI h 86 a) :: st) (h) := e_getI (k := 5) (f := 6) (F := 86) dX6_addGuard_54 (by decide +kernel) rfl rfl hk
theorem iX6_addGuard_57  {Ls st : List Value} {h : AH} : ev L xs mdX6_addGuard 57 (Ls) (st) h = ev L xs mdX6_addGuard 59 (Ls) (.int (nI 10) :: st) (h) := e_bipush dX6_addGuard_57 (by decide)
theorem iX6_addGuard_59 {x z : Int32} {Ls st : List Value} {h : AH} : ev L xs mdX6_addGuard 59 Ls (.int z :: .int x :: st) h = if x < z then ev L xs mdX6_addGuard 72 Ls st h else ev L xs mdX6_addGuard 62 Ls st h := e_ic_lt dX6_addGuard_59 (by decide)
theorem iX6_addGuard_62 {Ls : List Value} {h : AH} : ev L xs mdX6_addGuard 62 Ls [] h = some (.inr ("java/lang/IllegalStateException", bump h)) := e_throw dX6_addGuard_62 (by decide +kernel) dX6_addGuard_65 dX6_addGuard_66 dX6_addGuard_68 dX6_addGuard_71 (by decide +kernel) (by decide +kernel)
theorem iX6_addGuard_72 {v0 : Value} {v1 : Value} {v2 : Value} {x : Int32} {Ls st : List Value} {h : AH} : ev L xs mdX6_addGuard 72 (v0 :: v1 :: v2 :: .int x :: Ls) (st) h = ev L xs mdX6_addGuard 73 (v0 :: v1 :: v2 :: .int x :: Ls) (.int x :: st) (h) := e_iload_n dX6_addGuard_72 rfl
theorem iX6_addGuard_73  {Ls st : List Value} {h : AH} : ev L xs mdX6_addGuard 73 (Ls) (st) h = ev L xs mdX6_addGuard 74 (Ls) (.int (-1) :: st) (h) := e_iconst dX6_addGuard_73 (by decide)
theorem iX6_addGuard_74 {x z : Int32} {Ls st : List Value} {h : AH} : ev L xs mdX6_addGuard 74 Ls (.int z :: .int x :: st) h = if x = z then ev L xs mdX6_addGuard 99 Ls st h else ev L xs mdX6_addGuard 77 Ls st h := e_ic_eq dX6_addGuard_74 (by decide)
theorem iX6_addGuard_77 {x : Nat} {Ls st : List Value} {h : AH} : ev L xs mdX6_addGuard 77 (.ref x :: Ls) (st) h = ev L xs mdX6_addGuard 78 (.ref x :: Ls) (.ref x :: st) (h) := e_aload_n dX6_addGuard_77 rfl
theorem iX6_addGuard_78 {a : Nat} {Ls st : List Value} {h : AH} (hk : hK h a = 6) (hj : (hR h 96 a).isSome = true) : ev L xs mdX6_addGuard 78 (Ls) (.ref a :: st) h = ev L xs mdX6_addGuard 81 (Ls) (.ref ((hR h 96 a).getD 0) :: st) (h) := e_getR (k := 6) (f := 0) (F := 96) dX6_addGuard_78 (by decide +kernel) rfl rfl hk hj
theorem iX6_addGuard_81 {v0 : Value} {v1 : Value} {v2 : Value} {x : Int32} {Ls st : List Value} {h : AH} : ev L xs mdX6_addGuard 81 (v0 :: v1 :: v2 :: .int x :: Ls) (st) h = ev L xs mdX6_addGuard 82 (v0 :: v1 :: v2 :: .int x :: Ls) (.int x :: st) (h) := e_iload_n dX6_addGuard_81 rfl
theorem iX6_addGuard_82 {a : Nat} {p0 : Int32} {Ls st : List Value} {h : AH} (hk : hK h a = 5) (hw : wds st ≤ 8) : ev L xs mdX6_addGuard 82 Ls (.int p0 :: .ref a :: st) h = kn L xs mdX6_addGuard 82 85 Ls st (ev L xs mdX5_ownerOf 0 [.ref a, .int p0, .null] [] h) := e_callV (as := [.int p0]) dX6_addGuard_82 mr_6_114 (by decide) (by decide) rfl (by simp [wds, Value.category]; decide) rfl (by decide) hk hw
theorem iX6_addGuard_85  {Ls st : List Value} {h : AH} : ev L xs mdX6_addGuard 85 (Ls) (st) h = ev L xs mdX6_addGuard 86 (Ls) (.int (-1) :: st) (h) := e_iconst dX6_addGuard_85 (by decide)
theorem iX6_addGuard_86 {x z : Int32} {Ls st : List Value} {h : AH} : ev L xs mdX6_addGuard 86 Ls (.int z :: .int x :: st) h = if x = z then ev L xs mdX6_addGuard 99 Ls st h else ev L xs mdX6_addGuard 89 Ls st h := e_ic_eq dX6_addGuard_86 (by decide)
theorem iX6_addGuard_89 {Ls : List Value} {h : AH} : ev L xs mdX6_addGuard 89 Ls [] h = some (.inr ("java/lang/IllegalStateException", bump h)) := e_throw dX6_addGuard_89 (by decide +kernel) dX6_addGuard_92 dX6_addGuard_93 dX6_addGuard_95 dX6_addGuard_98 (by decide +kernel) (by decide +kernel)
theorem iX6_addGuard_99 {x : Nat} {Ls st : List Value} {h : AH} : ev L xs mdX6_addGuard 99 (.ref x :: Ls) (st) h = ev L xs mdX6_addGuard 100 (.ref x :: Ls) (.ref x :: st) (h) := e_aload_n dX6_addGuard_99 rfl
theorem iX6_addGuard_100 {a : Nat} {Ls st : List Value} {h : AH} (hk : hK h a = 6) (hw : wds st ≤ 8) : ev L xs mdX6_addGuard 100 Ls (.ref a :: st) h = kn L xs mdX6_addGuard 100 103 Ls st (ev L xs mdX6_save 0 [.ref a, .null, .null] [] h) := e_callV (as := []) dX6_addGuard_100 mr_6_68 (by decide) (by decide) rfl (by simp [wds, Value.category]; decide) rfl (by decide) hk hw
theorem iX6_addGuard_103 {x : Nat} {Ls st : List Value} {h : AH} : ev L xs mdX6_addGuard 103 (.ref x :: Ls) (st) h = ev L xs mdX6_addGuard 104 (.ref x :: Ls) (.ref x :: st) (h) := e_aload_n dX6_addGuard_103 rfl
theorem iX6_addGuard_104 {a : Nat} {Ls st : List Value} {h : AH} (hk : hK h a = 6) (hj : (hR h 96 a).isSome = true) : ev L xs mdX6_addGuard 104 (Ls) (.ref a :: st) h = ev L xs mdX6_addGuard 107 (Ls) (.ref ((hR h 96 a).getD 0) :: st) (h) := e_getR (k := 6) (f := 0) (F := 96) dX6_addGuard_104 (by decide +kernel) rfl rfl hk hj
theorem iX6_addGuard_107 {v0 : Value} {x : Int32} {Ls st : List Value} {h : AH} : ev L xs mdX6_addGuard 107 (v0 :: .int x :: Ls) (st) h = ev L xs mdX6_addGuard 108 (v0 :: .int x :: Ls) (.int x :: st) (h) := e_iload_n dX6_addGuard_107 rfl
theorem iX6_addGuard_108 {v0 : Value} {v1 : Value} {x : Int32} {Ls st : List Value} {h : AH} : ev L xs mdX6_addGuard 108 (v0 :: v1 :: .int x :: Ls) (st) h = ev L xs mdX6_addGuard 109 (v0 :: v1 :: .int x :: Ls) (.int x :: st) (h) := e_iload_n dX6_addGuard_108 rfl
theorem iX6_addGuard_109 {v0 : Value} {v1 : Value} {v2 : Value} {x : Int32} {Ls st : List Value} {h : AH} : ev L xs mdX6_addGuard 109 (v0 :: v1 :: v2 :: .int x :: Ls) (st) h = ev L xs mdX6_addGuard 110 (v0 :: v1 :: v2 :: .int x :: Ls) (.int x :: st) (h) := e_iload_n dX6_addGuard_109 rfl
theorem iX6_addGuard_110 {a : Nat} {p0 : Int32} {p1 : Int32} {p2 : Int32} {Ls st : List Value} {h : AH} (hk : hK h a = 5) (hw : wds st ≤ 8) : ev L xs mdX6_addGuard 110 Ls (.int p2 :: .int p1 :: .int p0 :: .ref a :: st) h = kn L xs mdX6_addGuard 110 113 Ls st (ev L xs mdX5_newGuard 0 [.ref a, .int p0, .int p1, .int p2] [] h) := e_callV (as := [.int p2, .int p1, .int p0]) dX6_addGuard_110 mr_6_120 (by decide) (by decide) rfl (by simp [wds, Value.category]; decide) rfl (by decide) hk hw
theorem iX6_addGuard_113 {v : Int32} {Ls : List Value} {h : AH} : ev L xs mdX6_addGuard 113 Ls [.int v] h = some (.inl (some (.int v), h)) := e_iret dX6_addGuard_113 rfl
theorem dX6_addHoliday_0 : decode cX6_addHoliday 0 = .ok (.iload_n 1, 1) := by decide +kernel
theorem dX6_addHoliday_1 : decode cX6_addHoliday 1 = .ok (.invokestatic 44, 3) := by decide +kernel
theorem dX6_addHoliday_4 : decode cX6_addHoliday 4 = .ok (.ifCond .eq 14, 3) := by decide +kernel
theorem dX6_addHoliday_7 : decode cX6_addHoliday 7 = .ok (.iload_n 2, 1) := by decide +kernel
theorem dX6_addHoliday_8 : decode cX6_addHoliday 8 = .ok (.iload_n 1, 1) := by decide +kernel
theorem dX6_addHoliday_9 : decode cX6_addHoliday 9 = .ok (.sipush 3000, 3) := by decide +kernel
theorem dX6_addHoliday_12 : decode cX6_addHoliday 12 = .ok (.invokestatic 48, 3) := by decide +kernel
theorem dX6_addHoliday_15 : decode cX6_addHoliday 15 = .ok (.ifCond .ne 13, 3) := by decide +kernel
theorem dX6_addHoliday_18 : decode cX6_addHoliday 18 = .ok (.new 52, 3) := by decide +kernel
theorem dX6_addHoliday_21 : decode cX6_addHoliday 21 = .ok (.dup, 1) := by decide +kernel
theorem dX6_addHoliday_22 : decode cX6_addHoliday 22 = .ok (.ldc 54, 2) := by decide +kernel
theorem dX6_addHoliday_24 : decode cX6_addHoliday 24 = .ok (.invokespecial 56, 3) := by decide +kernel
theorem dX6_addHoliday_27 : decode cX6_addHoliday 27 = .ok (.athrow, 1) := by decide +kernel
theorem dX6_addHoliday_28 : decode cX6_addHoliday 28 = .ok (.aload_n 0, 1) := by decide +kernel
theorem dX6_addHoliday_29 : decode cX6_addHoliday 29 = .ok (.getfield 12, 3) := by decide +kernel
theorem dX6_addHoliday_32 : decode cX6_addHoliday 32 = .ok (.getfield 59, 3) := by decide +kernel
theorem dX6_addHoliday_35 : decode cX6_addHoliday 35 = .ok (.bipush 6, 2) := by decide +kernel
theorem dX6_addHoliday_37 : decode cX6_addHoliday 37 = .ok (.if_icmp .lt 13, 3) := by decide +kernel
theorem dX6_addHoliday_40 : decode cX6_addHoliday 40 = .ok (.new 63, 3) := by decide +kernel
theorem dX6_addHoliday_43 : decode cX6_addHoliday 43 = .ok (.dup, 1) := by decide +kernel
theorem dX6_addHoliday_44 : decode cX6_addHoliday 44 = .ok (.ldc 65, 2) := by decide +kernel
theorem dX6_addHoliday_46 : decode cX6_addHoliday 46 = .ok (.invokespecial 67, 3) := by decide +kernel
theorem dX6_addHoliday_49 : decode cX6_addHoliday 49 = .ok (.athrow, 1) := by decide +kernel
theorem dX6_addHoliday_50 : decode cX6_addHoliday 50 = .ok (.aload_n 0, 1) := by decide +kernel
theorem dX6_addHoliday_51 : decode cX6_addHoliday 51 = .ok (.invokevirtual 68, 3) := by decide +kernel
theorem dX6_addHoliday_54 : decode cX6_addHoliday 54 = .ok (.aload_n 0, 1) := by decide +kernel
theorem dX6_addHoliday_55 : decode cX6_addHoliday 55 = .ok (.getfield 12, 3) := by decide +kernel
theorem dX6_addHoliday_58 : decode cX6_addHoliday 58 = .ok (.iload_n 1, 1) := by decide +kernel
theorem dX6_addHoliday_59 : decode cX6_addHoliday 59 = .ok (.iload_n 2, 1) := by decide +kernel
theorem dX6_addHoliday_60 : decode cX6_addHoliday 60 = .ok (.invokevirtual 71, 3) := by decide +kernel
theorem dX6_addHoliday_63 : decode cX6_addHoliday 63 = .ok (.ireturn, 1) := by decide +kernel
theorem iX6_addHoliday_0 {v0 : Value} {x : Int32} {Ls st : List Value} {h : AH} : ev L xs mdX6_addHoliday 0 (v0 :: .int x :: Ls) (st) h = ev L xs mdX6_addHoliday 1 (v0 :: .int x :: Ls) (.int x :: st) (h) := e_iload_n dX6_addHoliday_0 rfl
theorem iX6_addHoliday_1 {p0 : Int32} {Ls st : List Value} {h : AH} (hw : wds st ≤ 8) : ev L xs mdX6_addHoliday 1 Ls (.int p0 :: st) h = kn L xs mdX6_addHoliday 1 4 Ls st (ev L xs mdX6_isDay 0 [.int p0] [] h) := e_callS (as := [.int p0]) dX6_addHoliday_1 mr_6_44 (by decide) (by decide) rfl (by simp [wds, Value.category]; decide) rfl hw
theorem iX6_addHoliday_4 {x : Int32} {Ls st : List Value} {h : AH} : ev L xs mdX6_addHoliday 4 Ls (.int x :: st) h = if x = nI 0 then ev L xs mdX6_addHoliday 18 Ls st h else ev L xs mdX6_addHoliday 7 Ls st h := e_if_eq dX6_addHoliday_4 (by decide)
theorem iX6_addHoliday_7 {v0 : Value} {v1 : Value} {x : Int32} {Ls st : List Value} {h : AH} : ev L xs mdX6_addHoliday 7 (v0 :: v1 :: .int x :: Ls) (st) h = ev L xs mdX6_addHoliday 8 (v0 :: v1 :: .int x :: Ls) (.int x :: st) (h) := e_iload_n dX6_addHoliday_7 rfl
theorem iX6_addHoliday_8 {v0 : Value} {x : Int32} {Ls st : List Value} {h : AH} : ev L xs mdX6_addHoliday 8 (v0 :: .int x :: Ls) (st) h = ev L xs mdX6_addHoliday 9 (v0 :: .int x :: Ls) (.int x :: st) (h) := e_iload_n dX6_addHoliday_8 rfl
theorem iX6_addHoliday_9  {Ls st : List Value} {h : AH} : ev L xs mdX6_addHoliday 9 (Ls) (st) h = ev L xs mdX6_addHoliday 12 (Ls) (.int (nI 3000) :: st) (h) := e_sipush dX6_addHoliday_9 (by decide)
theorem iX6_addHoliday_12 {p0 : Int32} {p1 : Int32} {p2 : Int32} {Ls st : List Value} {h : AH} (hw : wds st ≤ 8) : ev L xs mdX6_addHoliday 12 Ls (.int p2 :: .int p1 :: .int p0 :: st) h = kn L xs mdX6_addHoliday 12 15 Ls st (ev L xs mdX6_isWithin 0 [.int p0, .int p1, .int p2] [] h) := e_callS (as := [.int p2, .int p1, .int p0]) dX6_addHoliday_12 mr_6_48 (by decide) (by decide) rfl (by simp [wds, Value.category]; decide) rfl hw
theorem iX6_addHoliday_15 {x : Int32} {Ls st : List Value} {h : AH} : ev L xs mdX6_addHoliday 15 Ls (.int x :: st) h = if x = nI 0 then ev L xs mdX6_addHoliday 18 Ls st h else ev L xs mdX6_addHoliday 28 Ls st h := e_if_ne dX6_addHoliday_15 (by decide)
theorem iX6_addHoliday_18 {Ls : List Value} {h : AH} : ev L xs mdX6_addHoliday 18 Ls [] h = some (.inr ("java/lang/IllegalArgumentException", bump h)) := e_throw dX6_addHoliday_18 (by decide +kernel) dX6_addHoliday_21 dX6_addHoliday_22 dX6_addHoliday_24 dX6_addHoliday_27 (by decide +kernel) (by decide +kernel)
theorem iX6_addHoliday_28 {x : Nat} {Ls st : List Value} {h : AH} : ev L xs mdX6_addHoliday 28 (.ref x :: Ls) (st) h = ev L xs mdX6_addHoliday 29 (.ref x :: Ls) (.ref x :: st) (h) := e_aload_n dX6_addHoliday_28 rfl
theorem iX6_addHoliday_29 {a : Nat} {Ls st : List Value} {h : AH} (hk : hK h a = 6) (hj : (hR h 96 a).isSome = true) : ev L xs mdX6_addHoliday 29 (Ls) (.ref a :: st) h = ev L xs mdX6_addHoliday 32 (Ls) (.ref ((hR h 96 a).getD 0) :: st) (h) := e_getR (k := 6) (f := 0) (F := 96) dX6_addHoliday_29 (by decide +kernel) rfl rfl hk hj
theorem iX6_addHoliday_32 {a : Nat} {Ls st : List Value} {h : AH} (hk : hK h a = 5) : ev L xs mdX6_addHoliday 32 (Ls) (.ref a :: st) h = ev L xs mdX6_addHoliday 35 (Ls) (.int (hI h 82 a) :: st) (h) := e_getI (k := 5) (f := 2) (F := 82) dX6_addHoliday_32 (by decide +kernel) rfl rfl hk
theorem iX6_addHoliday_35  {Ls st : List Value} {h : AH} : ev L xs mdX6_addHoliday 35 (Ls) (st) h = ev L xs mdX6_addHoliday 37 (Ls) (.int (nI 6) :: st) (h) := e_bipush dX6_addHoliday_35 (by decide)
theorem iX6_addHoliday_37 {x z : Int32} {Ls st : List Value} {h : AH} : ev L xs mdX6_addHoliday 37 Ls (.int z :: .int x :: st) h = if x < z then ev L xs mdX6_addHoliday 50 Ls st h else ev L xs mdX6_addHoliday 40 Ls st h := e_ic_lt dX6_addHoliday_37 (by decide)
theorem iX6_addHoliday_40 {Ls : List Value} {h : AH} : ev L xs mdX6_addHoliday 40 Ls [] h = some (.inr ("java/lang/IllegalStateException", bump h)) := e_throw dX6_addHoliday_40 (by decide +kernel) dX6_addHoliday_43 dX6_addHoliday_44 dX6_addHoliday_46 dX6_addHoliday_49 (by decide +kernel) (by decide +kernel)
theorem iX6_addHoliday_50 {x : Nat} {Ls st : List Value} {h : AH} : ev L xs mdX6_addHoliday 50 (.ref x :: Ls) (st) h = ev L xs mdX6_addHoliday 51 (.ref x :: Ls) (.ref x :: st) (h) := e_aload_n dX6_addHoliday_50 rfl
theorem iX6_addHoliday_51 {a : Nat} {Ls st : List Value} {h : AH} (hk : hK h a = 6) (hw : wds st ≤ 8) : ev L xs mdX6_addHoliday 51 Ls (.ref a :: st) h = kn L xs mdX6_addHoliday 51 54 Ls st (ev L xs mdX6_save 0 [.ref a, .null, .null] [] h) := e_callV (as := []) dX6_addHoliday_51 mr_6_68 (by decide) (by decide) rfl (by simp [wds, Value.category]; decide) rfl (by decide) hk hw
theorem iX6_addHoliday_54 {x : Nat} {Ls st : List Value} {h : AH} : ev L xs mdX6_addHoliday 54 (.ref x :: Ls) (st) h = ev L xs mdX6_addHoliday 55 (.ref x :: Ls) (.ref x :: st) (h) := e_aload_n dX6_addHoliday_54 rfl
theorem iX6_addHoliday_55 {a : Nat} {Ls st : List Value} {h : AH} (hk : hK h a = 6) (hj : (hR h 96 a).isSome = true) : ev L xs mdX6_addHoliday 55 (Ls) (.ref a :: st) h = ev L xs mdX6_addHoliday 58 (Ls) (.ref ((hR h 96 a).getD 0) :: st) (h) := e_getR (k := 6) (f := 0) (F := 96) dX6_addHoliday_55 (by decide +kernel) rfl rfl hk hj
theorem iX6_addHoliday_58 {v0 : Value} {x : Int32} {Ls st : List Value} {h : AH} : ev L xs mdX6_addHoliday 58 (v0 :: .int x :: Ls) (st) h = ev L xs mdX6_addHoliday 59 (v0 :: .int x :: Ls) (.int x :: st) (h) := e_iload_n dX6_addHoliday_58 rfl
theorem iX6_addHoliday_59 {v0 : Value} {v1 : Value} {x : Int32} {Ls st : List Value} {h : AH} : ev L xs mdX6_addHoliday 59 (v0 :: v1 :: .int x :: Ls) (st) h = ev L xs mdX6_addHoliday 60 (v0 :: v1 :: .int x :: Ls) (.int x :: st) (h) := e_iload_n dX6_addHoliday_59 rfl
theorem iX6_addHoliday_60 {a : Nat} {p0 : Int32} {p1 : Int32} {Ls st : List Value} {h : AH} (hk : hK h a = 5) (hw : wds st ≤ 8) : ev L xs mdX6_addHoliday 60 Ls (.int p1 :: .int p0 :: .ref a :: st) h = kn L xs mdX6_addHoliday 60 63 Ls st (ev L xs mdX5_newHoliday 0 [.ref a, .int p0, .int p1] [] h) := e_callV (as := [.int p1, .int p0]) dX6_addHoliday_60 mr_6_71 (by decide) (by decide) rfl (by simp [wds, Value.category]; decide) rfl (by decide) hk hw
theorem iX6_addHoliday_63 {v : Int32} {Ls : List Value} {h : AH} : ev L xs mdX6_addHoliday 63 Ls [.int v] h = some (.inl (some (.int v), h)) := e_iret dX6_addHoliday_63 rfl
theorem dX6_addPost_0 : decode cX6_addPost 0 = .ok (.iload_n 1, 1) := by decide +kernel
theorem dX6_addPost_1 : decode cX6_addPost 1 = .ok (.invokestatic 75, 3) := by decide +kernel
theorem dX6_addPost_4 : decode cX6_addPost 4 = .ok (.ifCond .eq 14, 3) := by decide +kernel
theorem dX6_addPost_7 : decode cX6_addPost 7 = .ok (.iload_n 2, 1) := by decide +kernel
theorem dX6_addPost_8 : decode cX6_addPost 8 = .ok (.iconst 0, 1) := by decide +kernel
theorem dX6_addPost_9 : decode cX6_addPost 9 = .ok (.sipush 1023, 3) := by decide +kernel
theorem dX6_addPost_12 : decode cX6_addPost 12 = .ok (.invokestatic 48, 3) := by decide +kernel
theorem dX6_addPost_15 : decode cX6_addPost 15 = .ok (.ifCond .ne 13, 3) := by decide +kernel
theorem dX6_addPost_18 : decode cX6_addPost 18 = .ok (.new 52, 3) := by decide +kernel
theorem dX6_addPost_21 : decode cX6_addPost 21 = .ok (.dup, 1) := by decide +kernel
theorem dX6_addPost_22 : decode cX6_addPost 22 = .ok (.ldc 78, 2) := by decide +kernel
theorem dX6_addPost_24 : decode cX6_addPost 24 = .ok (.invokespecial 56, 3) := by decide +kernel
theorem dX6_addPost_27 : decode cX6_addPost 27 = .ok (.athrow, 1) := by decide +kernel
theorem dX6_addPost_28 : decode cX6_addPost 28 = .ok (.aload_n 0, 1) := by decide +kernel
theorem dX6_addPost_29 : decode cX6_addPost 29 = .ok (.getfield 12, 3) := by decide +kernel
theorem dX6_addPost_32 : decode cX6_addPost 32 = .ok (.getfield 80, 3) := by decide +kernel
theorem dX6_addPost_35 : decode cX6_addPost 35 = .ok (.bipush 8, 2) := by decide +kernel
theorem dX6_addPost_37 : decode cX6_addPost 37 = .ok (.if_icmp .lt 13, 3) := by decide +kernel
theorem dX6_addPost_40 : decode cX6_addPost 40 = .ok (.new 63, 3) := by decide +kernel
theorem dX6_addPost_43 : decode cX6_addPost 43 = .ok (.dup, 1) := by decide +kernel
theorem dX6_addPost_44 : decode cX6_addPost 44 = .ok (.ldc 83, 2) := by decide +kernel
theorem dX6_addPost_46 : decode cX6_addPost 46 = .ok (.invokespecial 67, 3) := by decide +kernel
theorem dX6_addPost_49 : decode cX6_addPost 49 = .ok (.athrow, 1) := by decide +kernel
theorem dX6_addPost_50 : decode cX6_addPost 50 = .ok (.aload_n 0, 1) := by decide +kernel
theorem dX6_addPost_51 : decode cX6_addPost 51 = .ok (.invokevirtual 68, 3) := by decide +kernel
theorem dX6_addPost_54 : decode cX6_addPost 54 = .ok (.aload_n 0, 1) := by decide +kernel
theorem dX6_addPost_55 : decode cX6_addPost 55 = .ok (.getfield 12, 3) := by decide +kernel
theorem dX6_addPost_58 : decode cX6_addPost 58 = .ok (.iload_n 1, 1) := by decide +kernel
theorem dX6_addPost_59 : decode cX6_addPost 59 = .ok (.iload_n 2, 1) := by decide +kernel
theorem dX6_addPost_60 : decode cX6_addPost 60 = .ok (.invokevirtual 85, 3) := by decide +kernel
theorem dX6_addPost_63 : decode cX6_addPost 63 = .ok (.ireturn, 1) := by decide +kernel
theorem iX6_addPost_0 {v0 : Value} {x : Int32} {Ls st : List Value} {h : AH} : ev L xs mdX6_addPost 0 (v0 :: .int x :: Ls) (st) h = ev L xs mdX6_addPost 1 (v0 :: .int x :: Ls) (.int x :: st) (h) := e_iload_n dX6_addPost_0 rfl
theorem iX6_addPost_1 {p0 : Int32} {Ls st : List Value} {h : AH} (hw : wds st ≤ 8) : ev L xs mdX6_addPost 1 Ls (.int p0 :: st) h = kn L xs mdX6_addPost 1 4 Ls st (ev L xs mdX6_isPlace 0 [.int p0] [] h) := e_callS (as := [.int p0]) dX6_addPost_1 mr_6_75 (by decide) (by decide) rfl (by simp [wds, Value.category]; decide) rfl hw
theorem iX6_addPost_4 {x : Int32} {Ls st : List Value} {h : AH} : ev L xs mdX6_addPost 4 Ls (.int x :: st) h = if x = nI 0 then ev L xs mdX6_addPost 18 Ls st h else ev L xs mdX6_addPost 7 Ls st h := e_if_eq dX6_addPost_4 (by decide)
theorem iX6_addPost_7 {v0 : Value} {v1 : Value} {x : Int32} {Ls st : List Value} {h : AH} : ev L xs mdX6_addPost 7 (v0 :: v1 :: .int x :: Ls) (st) h = ev L xs mdX6_addPost 8 (v0 :: v1 :: .int x :: Ls) (.int x :: st) (h) := e_iload_n dX6_addPost_7 rfl
theorem iX6_addPost_8  {Ls st : List Value} {h : AH} : ev L xs mdX6_addPost 8 (Ls) (st) h = ev L xs mdX6_addPost 9 (Ls) (.int (nI 0) :: st) (h) := e_iconst dX6_addPost_8 (by decide)
theorem iX6_addPost_9  {Ls st : List Value} {h : AH} : ev L xs mdX6_addPost 9 (Ls) (st) h = ev L xs mdX6_addPost 12 (Ls) (.int (nI 1023) :: st) (h) := e_sipush dX6_addPost_9 (by decide)
theorem iX6_addPost_12 {p0 : Int32} {p1 : Int32} {p2 : Int32} {Ls st : List Value} {h : AH} (hw : wds st ≤ 8) : ev L xs mdX6_addPost 12 Ls (.int p2 :: .int p1 :: .int p0 :: st) h = kn L xs mdX6_addPost 12 15 Ls st (ev L xs mdX6_isWithin 0 [.int p0, .int p1, .int p2] [] h) := e_callS (as := [.int p2, .int p1, .int p0]) dX6_addPost_12 mr_6_48 (by decide) (by decide) rfl (by simp [wds, Value.category]; decide) rfl hw
theorem iX6_addPost_15 {x : Int32} {Ls st : List Value} {h : AH} : ev L xs mdX6_addPost 15 Ls (.int x :: st) h = if x = nI 0 then ev L xs mdX6_addPost 18 Ls st h else ev L xs mdX6_addPost 28 Ls st h := e_if_ne dX6_addPost_15 (by decide)
theorem iX6_addPost_18 {Ls : List Value} {h : AH} : ev L xs mdX6_addPost 18 Ls [] h = some (.inr ("java/lang/IllegalArgumentException", bump h)) := e_throw dX6_addPost_18 (by decide +kernel) dX6_addPost_21 dX6_addPost_22 dX6_addPost_24 dX6_addPost_27 (by decide +kernel) (by decide +kernel)
theorem iX6_addPost_28 {x : Nat} {Ls st : List Value} {h : AH} : ev L xs mdX6_addPost 28 (.ref x :: Ls) (st) h = ev L xs mdX6_addPost 29 (.ref x :: Ls) (.ref x :: st) (h) := e_aload_n dX6_addPost_28 rfl
theorem iX6_addPost_29 {a : Nat} {Ls st : List Value} {h : AH} (hk : hK h a = 6) (hj : (hR h 96 a).isSome = true) : ev L xs mdX6_addPost 29 (Ls) (.ref a :: st) h = ev L xs mdX6_addPost 32 (Ls) (.ref ((hR h 96 a).getD 0) :: st) (h) := e_getR (k := 6) (f := 0) (F := 96) dX6_addPost_29 (by decide +kernel) rfl rfl hk hj
theorem iX6_addPost_32 {a : Nat} {Ls st : List Value} {h : AH} (hk : hK h a = 5) : ev L xs mdX6_addPost 32 (Ls) (.ref a :: st) h = ev L xs mdX6_addPost 35 (Ls) (.int (hI h 84 a) :: st) (h) := e_getI (k := 5) (f := 4) (F := 84) dX6_addPost_32 (by decide +kernel) rfl rfl hk
theorem iX6_addPost_35  {Ls st : List Value} {h : AH} : ev L xs mdX6_addPost 35 (Ls) (st) h = ev L xs mdX6_addPost 37 (Ls) (.int (nI 8) :: st) (h) := e_bipush dX6_addPost_35 (by decide)
theorem iX6_addPost_37 {x z : Int32} {Ls st : List Value} {h : AH} : ev L xs mdX6_addPost 37 Ls (.int z :: .int x :: st) h = if x < z then ev L xs mdX6_addPost 50 Ls st h else ev L xs mdX6_addPost 40 Ls st h := e_ic_lt dX6_addPost_37 (by decide)
theorem iX6_addPost_40 {Ls : List Value} {h : AH} : ev L xs mdX6_addPost 40 Ls [] h = some (.inr ("java/lang/IllegalStateException", bump h)) := e_throw dX6_addPost_40 (by decide +kernel) dX6_addPost_43 dX6_addPost_44 dX6_addPost_46 dX6_addPost_49 (by decide +kernel) (by decide +kernel)
theorem iX6_addPost_50 {x : Nat} {Ls st : List Value} {h : AH} : ev L xs mdX6_addPost 50 (.ref x :: Ls) (st) h = ev L xs mdX6_addPost 51 (.ref x :: Ls) (.ref x :: st) (h) := e_aload_n dX6_addPost_50 rfl
theorem iX6_addPost_51 {a : Nat} {Ls st : List Value} {h : AH} (hk : hK h a = 6) (hw : wds st ≤ 8) : ev L xs mdX6_addPost 51 Ls (.ref a :: st) h = kn L xs mdX6_addPost 51 54 Ls st (ev L xs mdX6_save 0 [.ref a, .null, .null] [] h) := e_callV (as := []) dX6_addPost_51 mr_6_68 (by decide) (by decide) rfl (by simp [wds, Value.category]; decide) rfl (by decide) hk hw
theorem iX6_addPost_54 {x : Nat} {Ls st : List Value} {h : AH} : ev L xs mdX6_addPost 54 (.ref x :: Ls) (st) h = ev L xs mdX6_addPost 55 (.ref x :: Ls) (.ref x :: st) (h) := e_aload_n dX6_addPost_54 rfl
theorem iX6_addPost_55 {a : Nat} {Ls st : List Value} {h : AH} (hk : hK h a = 6) (hj : (hR h 96 a).isSome = true) : ev L xs mdX6_addPost 55 (Ls) (.ref a :: st) h = ev L xs mdX6_addPost 58 (Ls) (.ref ((hR h 96 a).getD 0) :: st) (h) := e_getR (k := 6) (f := 0) (F := 96) dX6_addPost_55 (by decide +kernel) rfl rfl hk hj
theorem iX6_addPost_58 {v0 : Value} {x : Int32} {Ls st : List Value} {h : AH} : ev L xs mdX6_addPost 58 (v0 :: .int x :: Ls) (st) h = ev L xs mdX6_addPost 59 (v0 :: .int x :: Ls) (.int x :: st) (h) := e_iload_n dX6_addPost_58 rfl
theorem iX6_addPost_59 {v0 : Value} {v1 : Value} {x : Int32} {Ls st : List Value} {h : AH} : ev L xs mdX6_addPost 59 (v0 :: v1 :: .int x :: Ls) (st) h = ev L xs mdX6_addPost 60 (v0 :: v1 :: .int x :: Ls) (.int x :: st) (h) := e_iload_n dX6_addPost_59 rfl
theorem iX6_addPost_60 {a : Nat} {p0 : Int32} {p1 : Int32} {Ls st : List Value} {h : AH} (hk : hK h a = 5) (hw : wds st ≤ 8) : ev L xs mdX6_addPost 60 Ls (.int p1 :: .int p0 :: .ref a :: st) h = kn L xs mdX6_addPost 60 63 Ls st (ev L xs mdX5_newPost 0 [.ref a, .int p0, .int p1] [] h) := e_callV (as := [.int p1, .int p0]) dX6_addPost_60 mr_6_85 (by decide) (by decide) rfl (by simp [wds, Value.category]; decide) rfl (by decide) hk hw
theorem iX6_addPost_63 {v : Int32} {Ls : List Value} {h : AH} : ev L xs mdX6_addPost 63 Ls [.int v] h = some (.inl (some (.int v), h)) := e_iret dX6_addPost_63 rfl
theorem dX6_best_0 : decode cX6_best 0 = .ok (.iload_n 1, 1) := by decide +kernel
theorem dX6_best_1 : decode cX6_best 1 = .ok (.invokestatic 44, 3) := by decide +kernel
theorem dX6_best_4 : decode cX6_best 4 = .ok (.ifCond .eq 19, 3) := by decide +kernel
theorem dX6_best_7 : decode cX6_best 7 = .ok (.iload_n 2, 1) := by decide +kernel
theorem dX6_best_8 : decode cX6_best 8 = .ok (.invokestatic 191, 3) := by decide +kernel
theorem dX6_best_11 : decode cX6_best 11 = .ok (.ifCond .eq 12, 3) := by decide +kernel
theorem dX6_best_14 : decode cX6_best 14 = .ok (.iload_n 3, 1) := by decide +kernel
theorem dX6_best_15 : decode cX6_best 15 = .ok (.iconst 0, 1) := by decide +kernel
theorem dX6_best_16 : decode cX6_best 16 = .ok (.iconst 1, 1) := by decide +kernel
theorem dX6_best_17 : decode cX6_best 17 = .ok (.invokestatic 48, 3) := by decide +kernel
theorem dX6_best_20 : decode cX6_best 20 = .ok (.ifCond .ne 13, 3) := by decide +kernel
theorem dX6_best_23 : decode cX6_best 23 = .ok (.new 52, 3) := by decide +kernel
theorem dX6_best_26 : decode cX6_best 26 = .ok (.dup, 1) := by decide +kernel
theorem dX6_best_27 : decode cX6_best 27 = .ok (.ldc 209, 2) := by decide +kernel
theorem dX6_best_29 : decode cX6_best 29 = .ok (.invokespecial 56, 3) := by decide +kernel
theorem dX6_best_32 : decode cX6_best 32 = .ok (.athrow, 1) := by decide +kernel
theorem dX6_best_33 : decode cX6_best 33 = .ok (.aload_n 0, 1) := by decide +kernel
theorem dX6_best_34 : decode cX6_best 34 = .ok (.getfield 26, 3) := by decide +kernel
theorem dX6_best_37 : decode cX6_best 37 = .ok (.aload_n 0, 1) := by decide +kernel
theorem dX6_best_38 : decode cX6_best 38 = .ok (.getfield 12, 3) := by decide +kernel
theorem dX6_best_41 : decode cX6_best 41 = .ok (.aload_n 0, 1) := by decide +kernel
theorem dX6_best_42 : decode cX6_best 42 = .ok (.getfield 12, 3) := by decide +kernel
theorem dX6_best_45 : decode cX6_best 45 = .ok (.iload_n 1, 1) := by decide +kernel
theorem dX6_best_46 : decode cX6_best 46 = .ok (.iload_n 2, 1) := by decide +kernel
theorem dX6_best_47 : decode cX6_best 47 = .ok (.invokevirtual 196, 3) := by decide +kernel
theorem dX6_best_50 : decode cX6_best 50 = .ok (.aload_n 0, 1) := by decide +kernel
theorem dX6_best_51 : decode cX6_best 51 = .ok (.getfield 12, 3) := by decide +kernel
theorem dX6_best_54 : decode cX6_best 54 = .ok (.iload_n 1, 1) := by decide +kernel
theorem dX6_best_55 : decode cX6_best 55 = .ok (.invokevirtual 211, 3) := by decide +kernel
theorem dX6_best_58 : decode cX6_best 58 = .ok (.invokevirtual 214, 3) := by decide +kernel
theorem dX6_best_61 : decode cX6_best 61 = .ok (.aload_n 0, 1) := by decide +kernel
theorem dX6_best_62 : decode cX6_best 62 = .ok (.getfield 33, 3) := by decide +kernel
theorem dX6_best_65 : decode cX6_best 65 = .ok (.aload_n 0, 1) := by decide +kernel
theorem dX6_best_66 : decode cX6_best 66 = .ok (.getfield 12, 3) := by decide +kernel
theorem dX6_best_69 : decode cX6_best 69 = .ok (.aload_n 0, 1) := by decide +kernel
theorem dX6_best_70 : decode cX6_best 70 = .ok (.getfield 26, 3) := by decide +kernel
theorem dX6_best_73 : decode cX6_best 73 = .ok (.invokevirtual 217, 3) := by decide +kernel
theorem dX6_best_76 : decode cX6_best 76 = .ok (.iload_n 3, 1) := by decide +kernel
theorem dX6_best_77 : decode cX6_best 77 = .ok (.ifCond .ne 13, 3) := by decide +kernel
theorem dX6_best_80 : decode cX6_best 80 = .ok (.aload_n 0, 1) := by decide +kernel
theorem dX6_best_81 : decode cX6_best 81 = .ok (.getfield 33, 3) := by decide +kernel
theorem dX6_best_84 : decode cX6_best 84 = .ok (.getfield 221, 3) := by decide +kernel
theorem dX6_best_87 : decode cX6_best 87 = .ok (.goto 10, 3) := by decide +kernel
theorem dX6_best_90 : decode cX6_best 90 = .ok (.aload_n 0, 1) := by decide +kernel
theorem dX6_best_91 : decode cX6_best 91 = .ok (.getfield 33, 3) := by decide +kernel
theorem dX6_best_94 : decode cX6_best 94 = .ok (.getfield 224, 3) := by decide +kernel
theorem dX6_best_97 : decode cX6_best 97 = .ok (.ireturn, 1) := by decide +kernel
theorem iX6_best_0 {v0 : Value} {x : Int32} {Ls st : List Value} {h : AH} : ev L xs mdX6_best 0 (v0 :: .int x :: Ls) (st) h = ev L xs mdX6_best 1 (v0 :: .int x :: Ls) (.int x :: st) (h) := e_iload_n dX6_best_0 rfl
theorem iX6_best_1 {p0 : Int32} {Ls st : List Value} {h : AH} (hw : wds st ≤ 8) : ev L xs mdX6_best 1 Ls (.int p0 :: st) h = kn L xs mdX6_best 1 4 Ls st (ev L xs mdX6_isDay 0 [.int p0] [] h) := e_callS (as := [.int p0]) dX6_best_1 mr_6_44 (by decide) (by decide) rfl (by simp [wds, Value.category]; decide) rfl hw
theorem iX6_best_4 {x : Int32} {Ls st : List Value} {h : AH} : ev L xs mdX6_best 4 Ls (.int x :: st) h = if x = nI 0 then ev L xs mdX6_best 23 Ls st h else ev L xs mdX6_best 7 Ls st h := e_if_eq dX6_best_4 (by decide)
theorem iX6_best_7 {v0 : Value} {v1 : Value} {x : Int32} {Ls st : List Value} {h : AH} : ev L xs mdX6_best 7 (v0 :: v1 :: .int x :: Ls) (st) h = ev L xs mdX6_best 8 (v0 :: v1 :: .int x :: Ls) (.int x :: st) (h) := e_iload_n dX6_best_7 rfl
theorem iX6_best_8 {p0 : Int32} {Ls st : List Value} {h : AH} (hw : wds st ≤ 8) : ev L xs mdX6_best 8 Ls (.int p0 :: st) h = kn L xs mdX6_best 8 11 Ls st (ev L xs mdX6_isSession 0 [.int p0] [] h) := e_callS (as := [.int p0]) dX6_best_8 mr_6_191 (by decide) (by decide) rfl (by simp [wds, Value.category]; decide) rfl hw
theorem iX6_best_11 {x : Int32} {Ls st : List Value} {h : AH} : ev L xs mdX6_best 11 Ls (.int x :: st) h = if x = nI 0 then ev L xs mdX6_best 23 Ls st h else ev L xs mdX6_best 14 Ls st h := e_if_eq dX6_best_11 (by decide)
theorem iX6_best_14 {v0 : Value} {v1 : Value} {v2 : Value} {x : Int32} {Ls st : List Value} {h : AH} : ev L xs mdX6_best 14 (v0 :: v1 :: v2 :: .int x :: Ls) (st) h = ev L xs mdX6_best 15 (v0 :: v1 :: v2 :: .int x :: Ls) (.int x :: st) (h) := e_iload_n dX6_best_14 rfl
theorem iX6_best_15  {Ls st : List Value} {h : AH} : ev L xs mdX6_best 15 (Ls) (st) h = ev L xs mdX6_best 16 (Ls) (.int (nI 0) :: st) (h) := e_iconst dX6_best_15 (by decide)
theorem iX6_best_16  {Ls st : List Value} {h : AH} : ev L xs mdX6_best 16 (Ls) (st) h = ev L xs mdX6_best 17 (Ls) (.int (nI 1) :: st) (h) := e_iconst dX6_best_16 (by decide)
theorem iX6_best_17 {p0 : Int32} {p1 : Int32} {p2 : Int32} {Ls st : List Value} {h : AH} (hw : wds st ≤ 8) : ev L xs mdX6_best 17 Ls (.int p2 :: .int p1 :: .int p0 :: st) h = kn L xs mdX6_best 17 20 Ls st (ev L xs mdX6_isWithin 0 [.int p0, .int p1, .int p2] [] h) := e_callS (as := [.int p2, .int p1, .int p0]) dX6_best_17 mr_6_48 (by decide) (by decide) rfl (by simp [wds, Value.category]; decide) rfl hw
theorem iX6_best_20 {x : Int32} {Ls st : List Value} {h : AH} : ev L xs mdX6_best 20 Ls (.int x :: st) h = if x = nI 0 then ev L xs mdX6_best 23 Ls st h else ev L xs mdX6_best 33 Ls st h := e_if_ne dX6_best_20 (by decide)
theorem iX6_best_23 {Ls : List Value} {h : AH} : ev L xs mdX6_best 23 Ls [] h = some (.inr ("java/lang/IllegalArgumentException", bump h)) := e_throw dX6_best_23 (by decide +kernel) dX6_best_26 dX6_best_27 dX6_best_29 dX6_best_32 (by decide +kernel) (by decide +kernel)
theorem iX6_best_33 {x : Nat} {Ls st : List Value} {h : AH} : ev L xs mdX6_best 33 (.ref x :: Ls) (st) h = ev L xs mdX6_best 34 (.ref x :: Ls) (.ref x :: st) (h) := e_aload_n dX6_best_33 rfl
theorem iX6_best_34 {a : Nat} {Ls st : List Value} {h : AH} (hk : hK h a = 6) (hj : (hR h 100 a).isSome = true) : ev L xs mdX6_best 34 (Ls) (.ref a :: st) h = ev L xs mdX6_best 37 (Ls) (.ref ((hR h 100 a).getD 0) :: st) (h) := e_getR (k := 6) (f := 4) (F := 100) dX6_best_34 (by decide +kernel) rfl rfl hk hj
theorem iX6_best_37 {x : Nat} {Ls st : List Value} {h : AH} : ev L xs mdX6_best 37 (.ref x :: Ls) (st) h = ev L xs mdX6_best 38 (.ref x :: Ls) (.ref x :: st) (h) := e_aload_n dX6_best_37 rfl
theorem iX6_best_38 {a : Nat} {Ls st : List Value} {h : AH} (hk : hK h a = 6) (hj : (hR h 96 a).isSome = true) : ev L xs mdX6_best 38 (Ls) (.ref a :: st) h = ev L xs mdX6_best 41 (Ls) (.ref ((hR h 96 a).getD 0) :: st) (h) := e_getR (k := 6) (f := 0) (F := 96) dX6_best_38 (by decide +kernel) rfl rfl hk hj
theorem iX6_best_41 {x : Nat} {Ls st : List Value} {h : AH} : ev L xs mdX6_best 41 (.ref x :: Ls) (st) h = ev L xs mdX6_best 42 (.ref x :: Ls) (.ref x :: st) (h) := e_aload_n dX6_best_41 rfl
theorem iX6_best_42 {a : Nat} {Ls st : List Value} {h : AH} (hk : hK h a = 6) (hj : (hR h 96 a).isSome = true) : ev L xs mdX6_best 42 (Ls) (.ref a :: st) h = ev L xs mdX6_best 45 (Ls) (.ref ((hR h 96 a).getD 0) :: st) (h) := e_getR (k := 6) (f := 0) (F := 96) dX6_best_42 (by decide +kernel) rfl rfl hk hj
theorem iX6_best_45 {v0 : Value} {x : Int32} {Ls st : List Value} {h : AH} : ev L xs mdX6_best 45 (v0 :: .int x :: Ls) (st) h = ev L xs mdX6_best 46 (v0 :: .int x :: Ls) (.int x :: st) (h) := e_iload_n dX6_best_45 rfl
theorem iX6_best_46 {v0 : Value} {v1 : Value} {x : Int32} {Ls st : List Value} {h : AH} : ev L xs mdX6_best 46 (v0 :: v1 :: .int x :: Ls) (st) h = ev L xs mdX6_best 47 (v0 :: v1 :: .int x :: Ls) (.int x :: st) (h) := e_iload_n dX6_best_46 rfl
theorem iX6_best_47 {a : Nat} {p0 : Int32} {p1 : Int32} {Ls st : List Value} {h : AH} (hk : hK h a = 5) (hw : wds st ≤ 8) : ev L xs mdX6_best 47 Ls (.int p1 :: .int p0 :: .ref a :: st) h = kn L xs mdX6_best 47 50 Ls st (ev L xs mdX5_neededPosts 0 [.ref a, .int p0, .int p1, .null, .null, .null] [] h) := e_callV (as := [.int p1, .int p0]) dX6_best_47 mr_6_196 (by decide) (by decide) rfl (by simp [wds, Value.category]; decide) rfl (by decide) hk hw
theorem iX6_best_50 {x : Nat} {Ls st : List Value} {h : AH} : ev L xs mdX6_best 50 (.ref x :: Ls) (st) h = ev L xs mdX6_best 51 (.ref x :: Ls) (.ref x :: st) (h) := e_aload_n dX6_best_50 rfl
theorem iX6_best_51 {a : Nat} {Ls st : List Value} {h : AH} (hk : hK h a = 6) (hj : (hR h 96 a).isSome = true) : ev L xs mdX6_best 51 (Ls) (.ref a :: st) h = ev L xs mdX6_best 54 (Ls) (.ref ((hR h 96 a).getD 0) :: st) (h) := e_getR (k := 6) (f := 0) (F := 96) dX6_best_51 (by decide +kernel) rfl rfl hk hj
theorem iX6_best_54 {v0 : Value} {x : Int32} {Ls st : List Value} {h : AH} : ev L xs mdX6_best 54 (v0 :: .int x :: Ls) (st) h = ev L xs mdX6_best 55 (v0 :: .int x :: Ls) (.int x :: st) (h) := e_iload_n dX6_best_54 rfl
theorem iX6_best_55 {a : Nat} {p0 : Int32} {Ls st : List Value} {h : AH} (hk : hK h a = 5) (hw : wds st ≤ 8) : ev L xs mdX6_best 55 Ls (.int p0 :: .ref a :: st) h = kn L xs mdX6_best 55 58 Ls st (ev L xs mdX5_wellGuards 0 [.ref a, .int p0, .null, .null] [] h) := e_callV (as := [.int p0]) dX6_best_55 mr_6_211 (by decide) (by decide) rfl (by simp [wds, Value.category]; decide) rfl (by decide) hk hw
theorem iX6_best_58 {a : Nat} {p0 : Nat} {p1 : Int32} {p2 : Int32} {Ls st : List Value} {h : AH} (hk : hK h a = 4) (hw : wds st ≤ 8) : ev L xs mdX6_best 58 Ls (.int p2 :: .int p1 :: .ref p0 :: .ref a :: st) h = kn L xs mdX6_best 58 61 Ls st (ev L xs mdX4_drawOwn 0 [.ref a, .ref p0, .int p1, .int p2, .null, .null] [] h) := e_callV (as := [.int p2, .int p1, .ref p0]) dX6_best_58 mr_6_214 (by decide) (by decide) rfl (by simp [wds, Value.category]; decide) rfl (by decide) hk hw
theorem iX6_best_61 {x : Nat} {Ls st : List Value} {h : AH} : ev L xs mdX6_best 61 (.ref x :: Ls) (st) h = ev L xs mdX6_best 62 (.ref x :: Ls) (.ref x :: st) (h) := e_aload_n dX6_best_61 rfl
theorem iX6_best_62 {a : Nat} {Ls st : List Value} {h : AH} (hk : hK h a = 6) (hj : (hR h 101 a).isSome = true) : ev L xs mdX6_best 62 (Ls) (.ref a :: st) h = ev L xs mdX6_best 65 (Ls) (.ref ((hR h 101 a).getD 0) :: st) (h) := e_getR (k := 6) (f := 5) (F := 101) dX6_best_62 (by decide +kernel) rfl rfl hk hj
theorem iX6_best_65 {x : Nat} {Ls st : List Value} {h : AH} : ev L xs mdX6_best 65 (.ref x :: Ls) (st) h = ev L xs mdX6_best 66 (.ref x :: Ls) (.ref x :: st) (h) := e_aload_n dX6_best_65 rfl
theorem iX6_best_66 {a : Nat} {Ls st : List Value} {h : AH} (hk : hK h a = 6) (hj : (hR h 96 a).isSome = true) : ev L xs mdX6_best 66 (Ls) (.ref a :: st) h = ev L xs mdX6_best 69 (Ls) (.ref ((hR h 96 a).getD 0) :: st) (h) := e_getR (k := 6) (f := 0) (F := 96) dX6_best_66 (by decide +kernel) rfl rfl hk hj
theorem iX6_best_69 {x : Nat} {Ls st : List Value} {h : AH} : ev L xs mdX6_best 69 (.ref x :: Ls) (st) h = ev L xs mdX6_best 70 (.ref x :: Ls) (.ref x :: st) (h) := e_aload_n dX6_best_69 rfl
theorem iX6_best_70 {a : Nat} {Ls st : List Value} {h : AH} (hk : hK h a = 6) (hj : (hR h 100 a).isSome = true) : ev L xs mdX6_best 70 (Ls) (.ref a :: st) h = ev L xs mdX6_best 73 (Ls) (.ref ((hR h 100 a).getD 0) :: st) (h) := e_getR (k := 6) (f := 4) (F := 100) dX6_best_70 (by decide +kernel) rfl rfl hk hj
theorem iX6_best_73 {a : Nat} {p0 : Nat} {p1 : Nat} {Ls st : List Value} {h : AH} (hk : hK h a = 3) (hw : wds st ≤ 8) : ev L xs mdX6_best 73 Ls (.ref p1 :: .ref p0 :: .ref a :: st) h = kn L xs mdX6_best 73 76 Ls st (ev L xs mdX3_find 0 [.ref a, .ref p0, .ref p1, .null] [] h) := e_callV (as := [.ref p1, .ref p0]) dX6_best_73 mr_6_217 (by decide) (by decide) rfl (by simp [wds, Value.category]; decide) rfl (by decide) hk hw
theorem iX6_best_76 {v0 : Value} {v1 : Value} {v2 : Value} {x : Int32} {Ls st : List Value} {h : AH} : ev L xs mdX6_best 76 (v0 :: v1 :: v2 :: .int x :: Ls) (st) h = ev L xs mdX6_best 77 (v0 :: v1 :: v2 :: .int x :: Ls) (.int x :: st) (h) := e_iload_n dX6_best_76 rfl
theorem iX6_best_77 {x : Int32} {Ls st : List Value} {h : AH} : ev L xs mdX6_best 77 Ls (.int x :: st) h = if x = nI 0 then ev L xs mdX6_best 80 Ls st h else ev L xs mdX6_best 90 Ls st h := e_if_ne dX6_best_77 (by decide)
theorem iX6_best_80 {x : Nat} {Ls st : List Value} {h : AH} : ev L xs mdX6_best 80 (.ref x :: Ls) (st) h = ev L xs mdX6_best 81 (.ref x :: Ls) (.ref x :: st) (h) := e_aload_n dX6_best_80 rfl
theorem iX6_best_81 {a : Nat} {Ls st : List Value} {h : AH} (hk : hK h a = 6) (hj : (hR h 101 a).isSome = true) : ev L xs mdX6_best 81 (Ls) (.ref a :: st) h = ev L xs mdX6_best 84 (Ls) (.ref ((hR h 101 a).getD 0) :: st) (h) := e_getR (k := 6) (f := 5) (F := 101) dX6_best_81 (by decide +kernel) rfl rfl hk hj
theorem iX6_best_84 {a : Nat} {Ls st : List Value} {h : AH} (hk : hK h a = 3) : ev L xs mdX6_best 84 (Ls) (.ref a :: st) h = ev L xs mdX6_best 87 (Ls) (.int (hI h 51 a) :: st) (h) := e_getI (k := 3) (f := 3) (F := 51) dX6_best_84 (by decide +kernel) rfl rfl hk
theorem iX6_best_87  {Ls st : List Value} {h : AH} : ev L xs mdX6_best 87 (Ls) (st) h = ev L xs mdX6_best 97 (Ls) (st) (h) := e_goto dX6_best_87 (by decide)
theorem iX6_best_90 {x : Nat} {Ls st : List Value} {h : AH} : ev L xs mdX6_best 90 (.ref x :: Ls) (st) h = ev L xs mdX6_best 91 (.ref x :: Ls) (.ref x :: st) (h) := e_aload_n dX6_best_90 rfl
theorem iX6_best_91 {a : Nat} {Ls st : List Value} {h : AH} (hk : hK h a = 6) (hj : (hR h 101 a).isSome = true) : ev L xs mdX6_best 91 (Ls) (.ref a :: st) h = ev L xs mdX6_best 94 (Ls) (.ref ((hR h 101 a).getD 0) :: st) (h) := e_getR (k := 6) (f := 5) (F := 101) dX6_best_91 (by decide +kernel) rfl rfl hk hj
theorem iX6_best_94 {a : Nat} {Ls st : List Value} {h : AH} (hk : hK h a = 3) : ev L xs mdX6_best 94 (Ls) (.ref a :: st) h = ev L xs mdX6_best 97 (Ls) (.int (hI h 52 a) :: st) (h) := e_getI (k := 3) (f := 4) (F := 52) dX6_best_94 (by decide +kernel) rfl rfl hk
theorem iX6_best_97 {v : Int32} {Ls : List Value} {h : AH} : ev L xs mdX6_best 97 Ls [.int v] h = some (.inl (some (.int v), h)) := e_iret dX6_best_97 rfl
theorem dX6_bestHome_0 : decode cX6_bestHome 0 = .ok (.iload_n 1, 1) := by decide +kernel
theorem dX6_bestHome_1 : decode cX6_bestHome 1 = .ok (.invokestatic 44, 3) := by decide +kernel
theorem dX6_bestHome_4 : decode cX6_bestHome 4 = .ok (.ifCond .ne 13, 3) := by decide +kernel
theorem dX6_bestHome_7 : decode cX6_bestHome 7 = .ok (.new 52, 3) := by decide +kernel
theorem dX6_bestHome_10 : decode cX6_bestHome 10 = .ok (.dup, 1) := by decide +kernel
theorem dX6_bestHome_11 : decode cX6_bestHome 11 = .ok (.ldc 227, 2) := by decide +kernel
theorem dX6_bestHome_13 : decode cX6_bestHome 13 = .ok (.invokespecial 56, 3) := by decide +kernel
theorem dX6_bestHome_16 : decode cX6_bestHome 16 = .ok (.athrow, 1) := by decide +kernel
theorem dX6_bestHome_17 : decode cX6_bestHome 17 = .ok (.aload_n 0, 1) := by decide +kernel
theorem dX6_bestHome_18 : decode cX6_bestHome 18 = .ok (.getfield 12, 3) := by decide +kernel
theorem dX6_bestHome_21 : decode cX6_bestHome 21 = .ok (.getfield 109, 3) := by decide +kernel
theorem dX6_bestHome_24 : decode cX6_bestHome 24 = .ok (.bipush 10, 2) := by decide +kernel
theorem dX6_bestHome_26 : decode cX6_bestHome 26 = .ok (.if_icmp .lt 13, 3) := by decide +kernel
theorem dX6_bestHome_29 : decode cX6_bestHome 29 = .ok (.new 63, 3) := by decide +kernel
theorem dX6_bestHome_32 : decode cX6_bestHome 32 = .ok (.dup, 1) := by decide +kernel
theorem dX6_bestHome_33 : decode cX6_bestHome 33 = .ok (.ldc 112, 2) := by decide +kernel
theorem dX6_bestHome_35 : decode cX6_bestHome 35 = .ok (.invokespecial 67, 3) := by decide +kernel
theorem dX6_bestHome_38 : decode cX6_bestHome 38 = .ok (.athrow, 1) := by decide +kernel
theorem dX6_bestHome_39 : decode cX6_bestHome 39 = .ok (.aload_n 0, 1) := by decide +kernel
theorem dX6_bestHome_40 : decode cX6_bestHome 40 = .ok (.getfield 16, 3) := by decide +kernel
theorem dX6_bestHome_43 : decode cX6_bestHome 43 = .ok (.aload_n 0, 1) := by decide +kernel
theorem dX6_bestHome_44 : decode cX6_bestHome 44 = .ok (.getfield 12, 3) := by decide +kernel
theorem dX6_bestHome_47 : decode cX6_bestHome 47 = .ok (.invokevirtual 232, 3) := by decide +kernel
theorem dX6_bestHome_50 : decode cX6_bestHome 50 = .ok (.aload_n 0, 1) := by decide +kernel
theorem dX6_bestHome_51 : decode cX6_bestHome 51 = .ok (.getfield 16, 3) := by decide +kernel
theorem dX6_bestHome_54 : decode cX6_bestHome 54 = .ok (.iconst 0, 1) := by decide +kernel
theorem dX6_bestHome_55 : decode cX6_bestHome 55 = .ok (.bipush 20, 2) := by decide +kernel
theorem dX6_bestHome_57 : decode cX6_bestHome 57 = .ok (.iconst (-1), 1) := by decide +kernel
theorem dX6_bestHome_58 : decode cX6_bestHome 58 = .ok (.invokevirtual 120, 3) := by decide +kernel
theorem dX6_bestHome_61 : decode cX6_bestHome 61 = .ok (.istore_n 2, 1) := by decide +kernel
theorem dX6_bestHome_62 : decode cX6_bestHome 62 = .ok (.iconst 0, 1) := by decide +kernel
theorem dX6_bestHome_63 : decode cX6_bestHome 63 = .ok (.istore_n 3, 1) := by decide +kernel
theorem dX6_bestHome_64 : decode cX6_bestHome 64 = .ok (.aload_n 0, 1) := by decide +kernel
theorem dX6_bestHome_65 : decode cX6_bestHome 65 = .ok (.aload_n 0, 1) := by decide +kernel
theorem dX6_bestHome_66 : decode cX6_bestHome 66 = .ok (.getfield 16, 3) := by decide +kernel
theorem dX6_bestHome_69 : decode cX6_bestHome 69 = .ok (.iload_n 1, 1) := by decide +kernel
theorem dX6_bestHome_70 : decode cX6_bestHome 70 = .ok (.invokevirtual 239, 3) := by decide +kernel
theorem dX6_bestHome_73 : decode cX6_bestHome 73 = .ok (.istore 4, 2) := by decide +kernel
theorem dX6_bestHome_75 : decode cX6_bestHome 75 = .ok (.iconst 1, 1) := by decide +kernel
theorem dX6_bestHome_76 : decode cX6_bestHome 76 = .ok (.istore 5, 2) := by decide +kernel
theorem dX6_bestHome_78 : decode cX6_bestHome 78 = .ok (.iload 5, 2) := by decide +kernel
theorem dX6_bestHome_80 : decode cX6_bestHome 80 = .ok (.bipush 99, 2) := by decide +kernel
theorem dX6_bestHome_82 : decode cX6_bestHome 82 = .ok (.if_icmp .gt 53, 3) := by decide +kernel
theorem dX6_bestHome_85 : decode cX6_bestHome 85 = .ok (.iload 4, 2) := by decide +kernel
theorem dX6_bestHome_87 : decode cX6_bestHome 87 = .ok (.ifCond .le 48, 3) := by decide +kernel
theorem dX6_bestHome_90 : decode cX6_bestHome 90 = .ok (.aload_n 0, 1) := by decide +kernel
theorem dX6_bestHome_91 : decode cX6_bestHome 91 = .ok (.getfield 16, 3) := by decide +kernel
theorem dX6_bestHome_94 : decode cX6_bestHome 94 = .ok (.getfield 129, 3) := by decide +kernel
theorem dX6_bestHome_97 : decode cX6_bestHome 97 = .ok (.iload_n 2, 1) := by decide +kernel
theorem dX6_bestHome_98 : decode cX6_bestHome 98 = .ok (.aaload, 1) := by decide +kernel
theorem dX6_bestHome_99 : decode cX6_bestHome 99 = .ok (.iload 5, 2) := by decide +kernel
theorem dX6_bestHome_101 : decode cX6_bestHome 101 = .ok (.putfield 246, 3) := by decide +kernel
theorem dX6_bestHome_104 : decode cX6_bestHome 104 = .ok (.aload_n 0, 1) := by decide +kernel
theorem dX6_bestHome_105 : decode cX6_bestHome 105 = .ok (.aload_n 0, 1) := by decide +kernel
theorem dX6_bestHome_106 : decode cX6_bestHome 106 = .ok (.getfield 16, 3) := by decide +kernel
theorem dX6_bestHome_109 : decode cX6_bestHome 109 = .ok (.iload_n 1, 1) := by decide +kernel
theorem dX6_bestHome_110 : decode cX6_bestHome 110 = .ok (.invokevirtual 239, 3) := by decide +kernel
theorem dX6_bestHome_113 : decode cX6_bestHome 113 = .ok (.istore 6, 2) := by decide +kernel
theorem dX6_bestHome_115 : decode cX6_bestHome 115 = .ok (.iload 6, 2) := by decide +kernel
theorem dX6_bestHome_117 : decode cX6_bestHome 117 = .ok (.iload 4, 2) := by decide +kernel
theorem dX6_bestHome_119 : decode cX6_bestHome 119 = .ok (.if_icmp .ge 10, 3) := by decide +kernel
theorem dX6_bestHome_122 : decode cX6_bestHome 122 = .ok (.iload 5, 2) := by decide +kernel
theorem dX6_bestHome_124 : decode cX6_bestHome 124 = .ok (.istore_n 3, 1) := by decide +kernel
theorem dX6_bestHome_125 : decode cX6_bestHome 125 = .ok (.iload 6, 2) := by decide +kernel
theorem dX6_bestHome_127 : decode cX6_bestHome 127 = .ok (.istore 4, 2) := by decide +kernel
theorem dX6_bestHome_129 : decode cX6_bestHome 129 = .ok (.iinc 5 1, 3) := by decide +kernel
theorem dX6_bestHome_132 : decode cX6_bestHome 132 = .ok (.goto (-54), 3) := by decide +kernel
theorem dX6_bestHome_135 : decode cX6_bestHome 135 = .ok (.iload_n 3, 1) := by decide +kernel
theorem dX6_bestHome_136 : decode cX6_bestHome 136 = .ok (.ireturn, 1) := by decide +kernel
theorem iX6_bestHome_0 {v0 : Value} {x : Int32} {Ls st : List Value} {h : AH} : ev L xs mdX6_bestHome 0 (v0 :: .int x :: Ls) (st) h = ev L xs mdX6_bestHome 1 (v0 :: .int x :: Ls) (.int x :: st) (h) := e_iload_n dX6_bestHome_0 rfl
theorem iX6_bestHome_1 {p0 : Int32} {Ls st : List Value} {h : AH} (hw : wds st ≤ 8) : ev L xs mdX6_bestHome 1 Ls (.int p0 :: st) h = kn L xs mdX6_bestHome 1 4 Ls st (ev L xs mdX6_isDay 0 [.int p0] [] h) := e_callS (as := [.int p0]) dX6_bestHome_1 mr_6_44 (by decide) (by decide) rfl (by simp [wds, Value.category]; decide) rfl hw
theorem iX6_bestHome_4 {x : Int32} {Ls st : List Value} {h : AH} : ev L xs mdX6_bestHome 4 Ls (.int x :: st) h = if x = nI 0 then ev L xs mdX6_bestHome 7 Ls st h else ev L xs mdX6_bestHome 17 Ls st h := e_if_ne dX6_bestHome_4 (by decide)
theorem iX6_bestHome_7 {Ls : List Value} {h : AH} : ev L xs mdX6_bestHome 7 Ls [] h = some (.inr ("java/lang/IllegalArgumentException", bump h)) := e_throw dX6_bestHome_7 (by decide +kernel) dX6_bestHome_10 dX6_bestHome_11 dX6_bestHome_13 dX6_bestHome_16 (by decide +kernel) (by decide +kernel)
theorem iX6_bestHome_17 {x : Nat} {Ls st : List Value} {h : AH} : ev L xs mdX6_bestHome 17 (.ref x :: Ls) (st) h = ev L xs mdX6_bestHome 18 (.ref x :: Ls) (.ref x :: st) (h) := e_aload_n dX6_bestHome_17 rfl
theorem iX6_bestHome_18 {a : Nat} {Ls st : List Value} {h : AH} (hk : hK h a = 6) (hj : (hR h 96 a).isSome = true) : ev L xs mdX6_bestHome 18 (Ls) (.ref a :: st) h = ev L xs mdX6_bestHome 21 (Ls) (.ref ((hR h 96 a).getD 0) :: st) (h) := e_getR (k := 6) (f := 0) (F := 96) dX6_bestHome_18 (by decide +kernel) rfl rfl hk hj
theorem iX6_bestHome_21 {a : Nat} {Ls st : List Value} {h : AH} (hk : hK h a = 5) : ev L xs mdX6_bestHome 21 (Ls) (.ref a :: st) h = ev L xs mdX6_bestHome 24 (Ls) (.int (hI h 86 a) :: st) (h) := e_getI (k := 5) (f := 6) (F := 86) dX6_bestHome_21 (by decide +kernel) rfl rfl hk
theorem iX6_bestHome_24  {Ls st : List Value} {h : AH} : ev L xs mdX6_bestHome 24 (Ls) (st) h = ev L xs mdX6_bestHome 26 (Ls) (.int (nI 10) :: st) (h) := e_bipush dX6_bestHome_24 (by decide)
theorem iX6_bestHome_26 {x z : Int32} {Ls st : List Value} {h : AH} : ev L xs mdX6_bestHome 26 Ls (.int z :: .int x :: st) h = if x < z then ev L xs mdX6_bestHome 39 Ls st h else ev L xs mdX6_bestHome 29 Ls st h := e_ic_lt dX6_bestHome_26 (by decide)
theorem iX6_bestHome_29 {Ls : List Value} {h : AH} : ev L xs mdX6_bestHome 29 Ls [] h = some (.inr ("java/lang/IllegalStateException", bump h)) := e_throw dX6_bestHome_29 (by decide +kernel) dX6_bestHome_32 dX6_bestHome_33 dX6_bestHome_35 dX6_bestHome_38 (by decide +kernel) (by decide +kernel)
theorem iX6_bestHome_39 {x : Nat} {Ls st : List Value} {h : AH} : ev L xs mdX6_bestHome 39 (.ref x :: Ls) (st) h = ev L xs mdX6_bestHome 40 (.ref x :: Ls) (.ref x :: st) (h) := e_aload_n dX6_bestHome_39 rfl
theorem iX6_bestHome_40 {a : Nat} {Ls st : List Value} {h : AH} (hk : hK h a = 6) (hj : (hR h 97 a).isSome = true) : ev L xs mdX6_bestHome 40 (Ls) (.ref a :: st) h = ev L xs mdX6_bestHome 43 (Ls) (.ref ((hR h 97 a).getD 0) :: st) (h) := e_getR (k := 6) (f := 1) (F := 97) dX6_bestHome_40 (by decide +kernel) rfl rfl hk hj
theorem iX6_bestHome_43 {x : Nat} {Ls st : List Value} {h : AH} : ev L xs mdX6_bestHome 43 (.ref x :: Ls) (st) h = ev L xs mdX6_bestHome 44 (.ref x :: Ls) (.ref x :: st) (h) := e_aload_n dX6_bestHome_43 rfl
theorem iX6_bestHome_44 {a : Nat} {Ls st : List Value} {h : AH} (hk : hK h a = 6) (hj : (hR h 96 a).isSome = true) : ev L xs mdX6_bestHome 44 (Ls) (.ref a :: st) h = ev L xs mdX6_bestHome 47 (Ls) (.ref ((hR h 96 a).getD 0) :: st) (h) := e_getR (k := 6) (f := 0) (F := 96) dX6_bestHome_44 (by decide +kernel) rfl rfl hk hj
theorem iX6_bestHome_47 {a : Nat} {p0 : Nat} {Ls st : List Value} {h : AH} (hk : hK h a = 5) (hw : wds st ≤ 8) : ev L xs mdX6_bestHome 47 Ls (.ref p0 :: .ref a :: st) h = kn L xs mdX6_bestHome 47 50 Ls st (ev L xs mdX5_copyFrom 0 [.ref a, .ref p0, .null] [] h) := e_callV (as := [.ref p0]) dX6_bestHome_47 mr_6_232 (by decide) (by decide) rfl (by simp [wds, Value.category]; decide) rfl (by decide) hk hw
theorem iX6_bestHome_50 {x : Nat} {Ls st : List Value} {h : AH} : ev L xs mdX6_bestHome 50 (.ref x :: Ls) (st) h = ev L xs mdX6_bestHome 51 (.ref x :: Ls) (.ref x :: st) (h) := e_aload_n dX6_bestHome_50 rfl
theorem iX6_bestHome_51 {a : Nat} {Ls st : List Value} {h : AH} (hk : hK h a = 6) (hj : (hR h 97 a).isSome = true) : ev L xs mdX6_bestHome 51 (Ls) (.ref a :: st) h = ev L xs mdX6_bestHome 54 (Ls) (.ref ((hR h 97 a).getD 0) :: st) (h) := e_getR (k := 6) (f := 1) (F := 97) dX6_bestHome_51 (by decide +kernel) rfl rfl hk hj
theorem iX6_bestHome_54  {Ls st : List Value} {h : AH} : ev L xs mdX6_bestHome 54 (Ls) (st) h = ev L xs mdX6_bestHome 55 (Ls) (.int (nI 0) :: st) (h) := e_iconst dX6_bestHome_54 (by decide)
theorem iX6_bestHome_55  {Ls st : List Value} {h : AH} : ev L xs mdX6_bestHome 55 (Ls) (st) h = ev L xs mdX6_bestHome 57 (Ls) (.int (nI 20) :: st) (h) := e_bipush dX6_bestHome_55 (by decide)
theorem iX6_bestHome_57  {Ls st : List Value} {h : AH} : ev L xs mdX6_bestHome 57 (Ls) (st) h = ev L xs mdX6_bestHome 58 (Ls) (.int (-1) :: st) (h) := e_iconst dX6_bestHome_57 (by decide)
theorem iX6_bestHome_58 {a : Nat} {p0 : Int32} {p1 : Int32} {p2 : Int32} {Ls st : List Value} {h : AH} (hk : hK h a = 5) (hw : wds st ≤ 8) : ev L xs mdX6_bestHome 58 Ls (.int p2 :: .int p1 :: .int p0 :: .ref a :: st) h = kn L xs mdX6_bestHome 58 61 Ls st (ev L xs mdX5_newGuard 0 [.ref a, .int p0, .int p1, .int p2] [] h) := e_callV (as := [.int p2, .int p1, .int p0]) dX6_bestHome_58 mr_6_120 (by decide) (by decide) rfl (by simp [wds, Value.category]; decide) rfl (by decide) hk hw
theorem iX6_bestHome_61 {v0 : Value} {v1 : Value} {v2 : Value} {x : Int32} {Ls st : List Value} {h : AH} (hc9 : v1.category = 1) : ev L xs mdX6_bestHome 61 (v0 :: v1 :: v2 :: Ls) (.int x :: st) h = ev L xs mdX6_bestHome 62 (v0 :: v1 :: .int x :: Ls) (st) (h) := e_istore_n dX6_bestHome_61 rfl (by decide) (by unfold catOK; show (_ || (v1.category == 1)) = true; rw [hc9]; rfl)
theorem iX6_bestHome_62  {Ls st : List Value} {h : AH} : ev L xs mdX6_bestHome 62 (Ls) (st) h = ev L xs mdX6_bestHome 63 (Ls) (.int (nI 0) :: st) (h) := e_iconst dX6_bestHome_62 (by decide)
theorem iX6_bestHome_63 {v0 : Value} {v1 : Value} {v2 : Value} {v3 : Value} {x : Int32} {Ls st : List Value} {h : AH} (hc9 : v2.category = 1) : ev L xs mdX6_bestHome 63 (v0 :: v1 :: v2 :: v3 :: Ls) (.int x :: st) h = ev L xs mdX6_bestHome 64 (v0 :: v1 :: v2 :: .int x :: Ls) (st) (h) := e_istore_n dX6_bestHome_63 rfl (by decide) (by unfold catOK; show (_ || (v2.category == 1)) = true; rw [hc9]; rfl)
theorem iX6_bestHome_64 {x : Nat} {Ls st : List Value} {h : AH} : ev L xs mdX6_bestHome 64 (.ref x :: Ls) (st) h = ev L xs mdX6_bestHome 65 (.ref x :: Ls) (.ref x :: st) (h) := e_aload_n dX6_bestHome_64 rfl
theorem iX6_bestHome_65 {x : Nat} {Ls st : List Value} {h : AH} : ev L xs mdX6_bestHome 65 (.ref x :: Ls) (st) h = ev L xs mdX6_bestHome 66 (.ref x :: Ls) (.ref x :: st) (h) := e_aload_n dX6_bestHome_65 rfl
theorem iX6_bestHome_66 {a : Nat} {Ls st : List Value} {h : AH} (hk : hK h a = 6) (hj : (hR h 97 a).isSome = true) : ev L xs mdX6_bestHome 66 (Ls) (.ref a :: st) h = ev L xs mdX6_bestHome 69 (Ls) (.ref ((hR h 97 a).getD 0) :: st) (h) := e_getR (k := 6) (f := 1) (F := 97) dX6_bestHome_66 (by decide +kernel) rfl rfl hk hj
theorem iX6_bestHome_69 {v0 : Value} {x : Int32} {Ls st : List Value} {h : AH} : ev L xs mdX6_bestHome 69 (v0 :: .int x :: Ls) (st) h = ev L xs mdX6_bestHome 70 (v0 :: .int x :: Ls) (.int x :: st) (h) := e_iload_n dX6_bestHome_69 rfl
theorem iX6_bestHome_70 {a : Nat} {p0 : Nat} {p1 : Int32} {Ls st : List Value} {h : AH} (hk : hK h a = 6) (hw : wds st ≤ 8) : ev L xs mdX6_bestHome 70 Ls (.int p1 :: .ref p0 :: .ref a :: st) h = kn L xs mdX6_bestHome 70 73 Ls st (ev L xs mdX6_openOnDay 0 [.ref a, .ref p0, .int p1, .null, .null] [] h) := e_callV (as := [.int p1, .ref p0]) dX6_bestHome_70 mr_6_239 (by decide) (by decide) rfl (by simp [wds, Value.category]; decide) rfl (by decide) hk hw
theorem iX6_bestHome_73 {v0 : Value} {v1 : Value} {v2 : Value} {v3 : Value} {v4 : Value} {x : Int32} {Ls st : List Value} {h : AH} (hc9 : v3.category = 1) : ev L xs mdX6_bestHome 73 (v0 :: v1 :: v2 :: v3 :: v4 :: Ls) (.int x :: st) h = ev L xs mdX6_bestHome 75 (v0 :: v1 :: v2 :: v3 :: .int x :: Ls) (st) (h) := e_istore dX6_bestHome_73 rfl (by decide) (by unfold catOK; show (_ || (v3.category == 1)) = true; rw [hc9]; rfl)
theorem iX6_bestHome_75  {Ls st : List Value} {h : AH} : ev L xs mdX6_bestHome 75 (Ls) (st) h = ev L xs mdX6_bestHome 76 (Ls) (.int (nI 1) :: st) (h) := e_iconst dX6_bestHome_75 (by decide)
theorem iX6_bestHome_76 {v0 : Value} {v1 : Value} {v2 : Value} {v3 : Value} {v4 : Value} {v5 : Value} {x : Int32} {Ls st : List Value} {h : AH} (hc9 : v4.category = 1) : ev L xs mdX6_bestHome 76 (v0 :: v1 :: v2 :: v3 :: v4 :: v5 :: Ls) (.int x :: st) h = ev L xs mdX6_bestHome 78 (v0 :: v1 :: v2 :: v3 :: v4 :: .int x :: Ls) (st) (h) := e_istore dX6_bestHome_76 rfl (by decide) (by unfold catOK; show (_ || (v4.category == 1)) = true; rw [hc9]; rfl)
theorem iX6_bestHome_78 {v0 : Value} {v1 : Value} {v2 : Value} {v3 : Value} {v4 : Value} {x : Int32} {Ls st : List Value} {h : AH} : ev L xs mdX6_bestHome 78 (v0 :: v1 :: v2 :: v3 :: v4 :: .int x :: Ls) (st) h = ev L xs mdX6_bestHome 80 (v0 :: v1 :: v2 :: v3 :: v4 :: .int x :: Ls) (.int x :: st) (h) := e_iload dX6_bestHome_78 rfl
theorem iX6_bestHome_80  {Ls st : List Value} {h : AH} : ev L xs mdX6_bestHome 80 (Ls) (st) h = ev L xs mdX6_bestHome 82 (Ls) (.int (nI 99) :: st) (h) := e_bipush dX6_bestHome_80 (by decide)
theorem iX6_bestHome_82 {x z : Int32} {Ls st : List Value} {h : AH} : ev L xs mdX6_bestHome 82 Ls (.int z :: .int x :: st) h = if z < x then ev L xs mdX6_bestHome 135 Ls st h else ev L xs mdX6_bestHome 85 Ls st h := e_ic_gt dX6_bestHome_82 (by decide)
theorem iX6_bestHome_85 {v0 : Value} {v1 : Value} {v2 : Value} {v3 : Value} {x : Int32} {Ls st : List Value} {h : AH} : ev L xs mdX6_bestHome 85 (v0 :: v1 :: v2 :: v3 :: .int x :: Ls) (st) h = ev L xs mdX6_bestHome 87 (v0 :: v1 :: v2 :: v3 :: .int x :: Ls) (.int x :: st) (h) := e_iload dX6_bestHome_85 rfl
theorem iX6_bestHome_87 {x : Int32} {Ls st : List Value} {h : AH} : ev L xs mdX6_bestHome 87 Ls (.int x :: st) h = if x ≤ nI 0 then ev L xs mdX6_bestHome 135 Ls st h else ev L xs mdX6_bestHome 90 Ls st h := e_if_le dX6_bestHome_87 (by decide)
theorem iX6_bestHome_90 {x : Nat} {Ls st : List Value} {h : AH} : ev L xs mdX6_bestHome 90 (.ref x :: Ls) (st) h = ev L xs mdX6_bestHome 91 (.ref x :: Ls) (.ref x :: st) (h) := e_aload_n dX6_bestHome_90 rfl
theorem iX6_bestHome_91 {a : Nat} {Ls st : List Value} {h : AH} (hk : hK h a = 6) (hj : (hR h 97 a).isSome = true) : ev L xs mdX6_bestHome 91 (Ls) (.ref a :: st) h = ev L xs mdX6_bestHome 94 (Ls) (.ref ((hR h 97 a).getD 0) :: st) (h) := e_getR (k := 6) (f := 1) (F := 97) dX6_bestHome_91 (by decide +kernel) rfl rfl hk hj
theorem iX6_bestHome_94 {a : Nat} {Ls st : List Value} {h : AH} (hk : hK h a = 5) (hj : (hR h 85 a).isSome = true) : ev L xs mdX6_bestHome 94 (Ls) (.ref a :: st) h = ev L xs mdX6_bestHome 97 (Ls) (.ref ((hR h 85 a).getD 0) :: st) (h) := e_getR (k := 5) (f := 5) (F := 85) dX6_bestHome_94 (by decide +kernel) rfl rfl hk hj
theorem iX6_bestHome_97 {v0 : Value} {v1 : Value} {x : Int32} {Ls st : List Value} {h : AH} : ev L xs mdX6_bestHome 97 (v0 :: v1 :: .int x :: Ls) (st) h = ev L xs mdX6_bestHome 98 (v0 :: v1 :: .int x :: Ls) (.int x :: st) (h) := e_iload_n dX6_bestHome_97 rfl
theorem iX6_bestHome_98 {a : Nat} {j : Int32} {Ls st : List Value} {h : AH} (hk : hK h a = 9 ∨ hK h a = 10 ∨ hK h a = 11) (hi : inA j (hN h a) = true) (hq : (hQ h a j.toNatClampNeg).isSome = true) : ev L xs mdX6_bestHome 98 (Ls) (.int j :: .ref a :: st) h = ev L xs mdX6_bestHome 99 (Ls) (.ref ((hQ h a j.toNatClampNeg).getD 0) :: st) (h) := e_aald dX6_bestHome_98 hk hi hq
theorem iX6_bestHome_99 {v0 : Value} {v1 : Value} {v2 : Value} {v3 : Value} {v4 : Value} {x : Int32} {Ls st : List Value} {h : AH} : ev L xs mdX6_bestHome 99 (v0 :: v1 :: v2 :: v3 :: v4 :: .int x :: Ls) (st) h = ev L xs mdX6_bestHome 101 (v0 :: v1 :: v2 :: v3 :: v4 :: .int x :: Ls) (.int x :: st) (h) := e_iload dX6_bestHome_99 rfl
theorem iX6_bestHome_101 {a : Nat} {v : Int32} {Ls st : List Value} {h : AH} (hk : hK h a = 0) : ev L xs mdX6_bestHome 101 (Ls) (.int v :: .ref a :: st) h = ev L xs mdX6_bestHome 104 (Ls) (st) (sI h 0 a v) := e_putI (k := 0) (f := 0) (F := 0) dX6_bestHome_101 (by decide +kernel) rfl (by decide +kernel) rfl hk
theorem iX6_bestHome_104 {x : Nat} {Ls st : List Value} {h : AH} : ev L xs mdX6_bestHome 104 (.ref x :: Ls) (st) h = ev L xs mdX6_bestHome 105 (.ref x :: Ls) (.ref x :: st) (h) := e_aload_n dX6_bestHome_104 rfl
theorem iX6_bestHome_105 {x : Nat} {Ls st : List Value} {h : AH} : ev L xs mdX6_bestHome 105 (.ref x :: Ls) (st) h = ev L xs mdX6_bestHome 106 (.ref x :: Ls) (.ref x :: st) (h) := e_aload_n dX6_bestHome_105 rfl
theorem iX6_bestHome_106 {a : Nat} {Ls st : List Value} {h : AH} (hk : hK h a = 6) (hj : (hR h 97 a).isSome = true) : ev L xs mdX6_bestHome 106 (Ls) (.ref a :: st) h = ev L xs mdX6_bestHome 109 (Ls) (.ref ((hR h 97 a).getD 0) :: st) (h) := e_getR (k := 6) (f := 1) (F := 97) dX6_bestHome_106 (by decide +kernel) rfl rfl hk hj
theorem iX6_bestHome_109 {v0 : Value} {x : Int32} {Ls st : List Value} {h : AH} : ev L xs mdX6_bestHome 109 (v0 :: .int x :: Ls) (st) h = ev L xs mdX6_bestHome 110 (v0 :: .int x :: Ls) (.int x :: st) (h) := e_iload_n dX6_bestHome_109 rfl
theorem iX6_bestHome_110 {a : Nat} {p0 : Nat} {p1 : Int32} {Ls st : List Value} {h : AH} (hk : hK h a = 6) (hw : wds st ≤ 8) : ev L xs mdX6_bestHome 110 Ls (.int p1 :: .ref p0 :: .ref a :: st) h = kn L xs mdX6_bestHome 110 113 Ls st (ev L xs mdX6_openOnDay 0 [.ref a, .ref p0, .int p1, .null, .null] [] h) := e_callV (as := [.int p1, .ref p0]) dX6_bestHome_110 mr_6_239 (by decide) (by decide) rfl (by simp [wds, Value.category]; decide) rfl (by decide) hk hw
theorem iX6_bestHome_113 {v0 : Value} {v1 : Value} {v2 : Value} {v3 : Value} {v4 : Value} {v5 : Value} {v6 : Value} {x : Int32} {Ls st : List Value} {h : AH} (hc9 : v5.category = 1) : ev L xs mdX6_bestHome 113 (v0 :: v1 :: v2 :: v3 :: v4 :: v5 :: v6 :: Ls) (.int x :: st) h = ev L xs mdX6_bestHome 115 (v0 :: v1 :: v2 :: v3 :: v4 :: v5 :: .int x :: Ls) (st) (h) := e_istore dX6_bestHome_113 rfl (by decide) (by unfold catOK; show (_ || (v5.category == 1)) = true; rw [hc9]; rfl)
theorem iX6_bestHome_115 {v0 : Value} {v1 : Value} {v2 : Value} {v3 : Value} {v4 : Value} {v5 : Value} {x : Int32} {Ls st : List Value} {h : AH} : ev L xs mdX6_bestHome 115 (v0 :: v1 :: v2 :: v3 :: v4 :: v5 :: .int x :: Ls) (st) h = ev L xs mdX6_bestHome 117 (v0 :: v1 :: v2 :: v3 :: v4 :: v5 :: .int x :: Ls) (.int x :: st) (h) := e_iload dX6_bestHome_115 rfl
theorem iX6_bestHome_117 {v0 : Value} {v1 : Value} {v2 : Value} {v3 : Value} {x : Int32} {Ls st : List Value} {h : AH} : ev L xs mdX6_bestHome 117 (v0 :: v1 :: v2 :: v3 :: .int x :: Ls) (st) h = ev L xs mdX6_bestHome 119 (v0 :: v1 :: v2 :: v3 :: .int x :: Ls) (.int x :: st) (h) := e_iload dX6_bestHome_117 rfl
theorem iX6_bestHome_119 {x z : Int32} {Ls st : List Value} {h : AH} : ev L xs mdX6_bestHome 119 Ls (.int z :: .int x :: st) h = if z ≤ x then ev L xs mdX6_bestHome 129 Ls st h else ev L xs mdX6_bestHome 122 Ls st h := e_ic_ge dX6_bestHome_119 (by decide)
theorem iX6_bestHome_122 {v0 : Value} {v1 : Value} {v2 : Value} {v3 : Value} {v4 : Value} {x : Int32} {Ls st : List Value} {h : AH} : ev L xs mdX6_bestHome 122 (v0 :: v1 :: v2 :: v3 :: v4 :: .int x :: Ls) (st) h = ev L xs mdX6_bestHome 124 (v0 :: v1 :: v2 :: v3 :: v4 :: .int x :: Ls) (.int x :: st) (h) := e_iload dX6_bestHome_122 rfl
theorem iX6_bestHome_124 {v0 : Value} {v1 : Value} {v2 : Value} {v3 : Value} {x : Int32} {Ls st : List Value} {h : AH} (hc9 : v2.category = 1) : ev L xs mdX6_bestHome 124 (v0 :: v1 :: v2 :: v3 :: Ls) (.int x :: st) h = ev L xs mdX6_bestHome 125 (v0 :: v1 :: v2 :: .int x :: Ls) (st) (h) := e_istore_n dX6_bestHome_124 rfl (by decide) (by unfold catOK; show (_ || (v2.category == 1)) = true; rw [hc9]; rfl)
theorem iX6_bestHome_125 {v0 : Value} {v1 : Value} {v2 : Value} {v3 : Value} {v4 : Value} {v5 : Value} {x : Int32} {Ls st : List Value} {h : AH} : ev L xs mdX6_bestHome 125 (v0 :: v1 :: v2 :: v3 :: v4 :: v5 :: .int x :: Ls) (st) h = ev L xs mdX6_bestHome 127 (v0 :: v1 :: v2 :: v3 :: v4 :: v5 :: .int x :: Ls) (.int x :: st) (h) := e_iload dX6_bestHome_125 rfl
theorem iX6_bestHome_127 {v0 : Value} {v1 : Value} {v2 : Value} {v3 : Value} {v4 : Value} {x : Int32} {Ls st : List Value} {h : AH} (hc9 : v3.category = 1) : ev L xs mdX6_bestHome 127 (v0 :: v1 :: v2 :: v3 :: v4 :: Ls) (.int x :: st) h = ev L xs mdX6_bestHome 129 (v0 :: v1 :: v2 :: v3 :: .int x :: Ls) (st) (h) := e_istore dX6_bestHome_127 rfl (by decide) (by unfold catOK; show (_ || (v3.category == 1)) = true; rw [hc9]; rfl)
theorem iX6_bestHome_129 {v0 : Value} {v1 : Value} {v2 : Value} {v3 : Value} {v4 : Value} {x : Int32} {Ls st : List Value} {h : AH} (hc9 : v4.category = 1) : ev L xs mdX6_bestHome 129 (v0 :: v1 :: v2 :: v3 :: v4 :: .int x :: Ls) (st) h = ev L xs mdX6_bestHome 132 (v0 :: v1 :: v2 :: v3 :: v4 :: .int (x + (nI 1)) :: Ls) (st) (h) := e_iinc dX6_bestHome_129 rfl rfl rfl (by decide) (by unfold catOK; show (_ || (v4.category == 1)) = true; rw [hc9]; rfl)
theorem iX6_bestHome_132  {Ls st : List Value} {h : AH} : ev L xs mdX6_bestHome 132 (Ls) (st) h = ev L xs mdX6_bestHome 78 (Ls) (st) (h) := e_goto dX6_bestHome_132 (by decide)
theorem iX6_bestHome_135 {v0 : Value} {v1 : Value} {v2 : Value} {x : Int32} {Ls st : List Value} {h : AH} : ev L xs mdX6_bestHome 135 (v0 :: v1 :: v2 :: .int x :: Ls) (st) h = ev L xs mdX6_bestHome 136 (v0 :: v1 :: v2 :: .int x :: Ls) (.int x :: st) (h) := e_iload_n dX6_bestHome_135 rfl
theorem iX6_bestHome_136 {v : Int32} {Ls : List Value} {h : AH} : ev L xs mdX6_bestHome 136 Ls [.int v] h = some (.inl (some (.int v), h)) := e_iret dX6_bestHome_136 rfl
theorem dX6_complain_0 : decode cX6_complain 0 = .ok (.aload_n 0, 1) := by decide +kernel
theorem dX6_complain_1 : decode cX6_complain 1 = .ok (.getfield 12, 3) := by decide +kernel
theorem dX6_complain_4 : decode cX6_complain 4 = .ok (.iload_n 1, 1) := by decide +kernel
theorem dX6_complain_5 : decode cX6_complain 5 = .ok (.invokevirtual 88, 3) := by decide +kernel
theorem dX6_complain_8 : decode cX6_complain 8 = .ok (.ifCond .ne 13, 3) := by decide +kernel
theorem dX6_complain_11 : decode cX6_complain 11 = .ok (.new 91, 3) := by decide +kernel
theorem dX6_complain_14 : decode cX6_complain 14 = .ok (.dup, 1) := by decide +kernel
theorem dX6_complain_15 : decode cX6_complain 15 = .ok (.ldc 93, 2) := by decide +kernel
theorem dX6_complain_17 : decode cX6_complain 17 = .ok (.invokespecial 95, 3) := by decide +kernel
theorem dX6_complain_20 : decode cX6_complain 20 = .ok (.athrow, 1) := by decide +kernel
theorem dX6_complain_21 : decode cX6_complain 21 = .ok (.aload_n 0, 1) := by decide +kernel
theorem dX6_complain_22 : decode cX6_complain 22 = .ok (.getfield 12, 3) := by decide +kernel
theorem dX6_complain_25 : decode cX6_complain 25 = .ok (.iload_n 1, 1) := by decide +kernel
theorem dX6_complain_26 : decode cX6_complain 26 = .ok (.invokevirtual 145, 3) := by decide +kernel
theorem dX6_complain_29 : decode cX6_complain 29 = .ok (.ifCond .ne 13, 3) := by decide +kernel
theorem dX6_complain_32 : decode cX6_complain 32 = .ok (.new 63, 3) := by decide +kernel
theorem dX6_complain_35 : decode cX6_complain 35 = .ok (.dup, 1) := by decide +kernel
theorem dX6_complain_36 : decode cX6_complain 36 = .ok (.ldc 148, 2) := by decide +kernel
theorem dX6_complain_38 : decode cX6_complain 38 = .ok (.invokespecial 67, 3) := by decide +kernel
theorem dX6_complain_41 : decode cX6_complain 41 = .ok (.athrow, 1) := by decide +kernel
theorem dX6_complain_42 : decode cX6_complain 42 = .ok (.aload_n 0, 1) := by decide +kernel
theorem dX6_complain_43 : decode cX6_complain 43 = .ok (.invokevirtual 68, 3) := by decide +kernel
theorem dX6_complain_46 : decode cX6_complain 46 = .ok (.aload_n 0, 1) := by decide +kernel
theorem dX6_complain_47 : decode cX6_complain 47 = .ok (.getfield 12, 3) := by decide +kernel
theorem dX6_complain_50 : decode cX6_complain 50 = .ok (.iload_n 1, 1) := by decide +kernel
theorem dX6_complain_51 : decode cX6_complain 51 = .ok (.invokevirtual 150, 3) := by decide +kernel
theorem dX6_complain_54 : decode cX6_complain 54 = .ok (.ireturn, 1) := by decide +kernel
theorem iX6_complain_0 {x : Nat} {Ls st : List Value} {h : AH} : ev L xs mdX6_complain 0 (.ref x :: Ls) (st) h = ev L xs mdX6_complain 1 (.ref x :: Ls) (.ref x :: st) (h) := e_aload_n dX6_complain_0 rfl
theorem iX6_complain_1 {a : Nat} {Ls st : List Value} {h : AH} (hk : hK h a = 6) (hj : (hR h 96 a).isSome = true) : ev L xs mdX6_complain 1 (Ls) (.ref a :: st) h = ev L xs mdX6_complain 4 (Ls) (.ref ((hR h 96 a).getD 0) :: st) (h) := e_getR (k := 6) (f := 0) (F := 96) dX6_complain_1 (by decide +kernel) rfl rfl hk hj
theorem iX6_complain_4 {v0 : Value} {x : Int32} {Ls st : List Value} {h : AH} : ev L xs mdX6_complain 4 (v0 :: .int x :: Ls) (st) h = ev L xs mdX6_complain 5 (v0 :: .int x :: Ls) (.int x :: st) (h) := e_iload_n dX6_complain_4 rfl
theorem iX6_complain_5 {a : Nat} {p0 : Int32} {Ls st : List Value} {h : AH} (hk : hK h a = 5) (hw : wds st ≤ 8) : ev L xs mdX6_complain 5 Ls (.int p0 :: .ref a :: st) h = kn L xs mdX6_complain 5 8 Ls st (ev L xs mdX5_hasPost 0 [.ref a, .int p0] [] h) := e_callV (as := [.int p0]) dX6_complain_5 mr_6_88 (by decide) (by decide) rfl (by simp [wds, Value.category]; decide) rfl (by decide) hk hw
theorem iX6_complain_8 {x : Int32} {Ls st : List Value} {h : AH} : ev L xs mdX6_complain 8 Ls (.int x :: st) h = if x = nI 0 then ev L xs mdX6_complain 11 Ls st h else ev L xs mdX6_complain 21 Ls st h := e_if_ne dX6_complain_8 (by decide)
theorem iX6_complain_11 {Ls : List Value} {h : AH} : ev L xs mdX6_complain 11 Ls [] h = some (.inr ("java/lang/IndexOutOfBoundsException", bump h)) := e_throw dX6_complain_11 (by decide +kernel) dX6_complain_14 dX6_complain_15 dX6_complain_17 dX6_complain_20 (by decide +kernel) (by decide +kernel)
theorem iX6_complain_21 {x : Nat} {Ls st : List Value} {h : AH} : ev L xs mdX6_complain 21 (.ref x :: Ls) (st) h = ev L xs mdX6_complain 22 (.ref x :: Ls) (.ref x :: st) (h) := e_aload_n dX6_complain_21 rfl
theorem iX6_complain_22 {a : Nat} {Ls st : List Value} {h : AH} (hk : hK h a = 6) (hj : (hR h 96 a).isSome = true) : ev L xs mdX6_complain 22 (Ls) (.ref a :: st) h = ev L xs mdX6_complain 25 (Ls) (.ref ((hR h 96 a).getD 0) :: st) (h) := e_getR (k := 6) (f := 0) (F := 96) dX6_complain_22 (by decide +kernel) rfl rfl hk hj
theorem iX6_complain_25 {v0 : Value} {x : Int32} {Ls st : List Value} {h : AH} : ev L xs mdX6_complain 25 (v0 :: .int x :: Ls) (st) h = ev L xs mdX6_complain 26 (v0 :: .int x :: Ls) (.int x :: st) (h) := e_iload_n dX6_complain_25 rfl
theorem iX6_complain_26 {a : Nat} {p0 : Int32} {Ls st : List Value} {h : AH} (hk : hK h a = 5) (hw : wds st ≤ 8) : ev L xs mdX6_complain 26 Ls (.int p0 :: .ref a :: st) h = kn L xs mdX6_complain 26 29 Ls st (ev L xs mdX5_allowsComplaint 0 [.ref a, .int p0] [] h) := e_callV (as := [.int p0]) dX6_complain_26 mr_6_145 (by decide) (by decide) rfl (by simp [wds, Value.category]; decide) rfl (by decide) hk hw
theorem iX6_complain_29 {x : Int32} {Ls st : List Value} {h : AH} : ev L xs mdX6_complain 29 Ls (.int x :: st) h = if x = nI 0 then ev L xs mdX6_complain 32 Ls st h else ev L xs mdX6_complain 42 Ls st h := e_if_ne dX6_complain_29 (by decide)
theorem iX6_complain_32 {Ls : List Value} {h : AH} : ev L xs mdX6_complain 32 Ls [] h = some (.inr ("java/lang/IllegalStateException", bump h)) := e_throw dX6_complain_32 (by decide +kernel) dX6_complain_35 dX6_complain_36 dX6_complain_38 dX6_complain_41 (by decide +kernel) (by decide +kernel)
theorem iX6_complain_42 {x : Nat} {Ls st : List Value} {h : AH} : ev L xs mdX6_complain 42 (.ref x :: Ls) (st) h = ev L xs mdX6_complain 43 (.ref x :: Ls) (.ref x :: st) (h) := e_aload_n dX6_complain_42 rfl
theorem iX6_complain_43 {a : Nat} {Ls st : List Value} {h : AH} (hk : hK h a = 6) (hw : wds st ≤ 8) : ev L xs mdX6_complain 43 Ls (.ref a :: st) h = kn L xs mdX6_complain 43 46 Ls st (ev L xs mdX6_save 0 [.ref a, .null, .null] [] h) := e_callV (as := []) dX6_complain_43 mr_6_68 (by decide) (by decide) rfl (by simp [wds, Value.category]; decide) rfl (by decide) hk hw
theorem iX6_complain_46 {x : Nat} {Ls st : List Value} {h : AH} : ev L xs mdX6_complain 46 (.ref x :: Ls) (st) h = ev L xs mdX6_complain 47 (.ref x :: Ls) (.ref x :: st) (h) := e_aload_n dX6_complain_46 rfl
theorem iX6_complain_47 {a : Nat} {Ls st : List Value} {h : AH} (hk : hK h a = 6) (hj : (hR h 96 a).isSome = true) : ev L xs mdX6_complain 47 (Ls) (.ref a :: st) h = ev L xs mdX6_complain 50 (Ls) (.ref ((hR h 96 a).getD 0) :: st) (h) := e_getR (k := 6) (f := 0) (F := 96) dX6_complain_47 (by decide +kernel) rfl rfl hk hj
theorem iX6_complain_50 {v0 : Value} {x : Int32} {Ls st : List Value} {h : AH} : ev L xs mdX6_complain 50 (v0 :: .int x :: Ls) (st) h = ev L xs mdX6_complain 51 (v0 :: .int x :: Ls) (.int x :: st) (h) := e_iload_n dX6_complain_50 rfl
theorem iX6_complain_51 {a : Nat} {p0 : Int32} {Ls st : List Value} {h : AH} (hk : hK h a = 5) (hw : wds st ≤ 8) : ev L xs mdX6_complain 51 Ls (.int p0 :: .ref a :: st) h = kn L xs mdX6_complain 51 54 Ls st (ev L xs mdX5_fileComplaint 0 [.ref a, .int p0] [] h) := e_callV (as := [.int p0]) dX6_complain_51 mr_6_150 (by decide) (by decide) rfl (by simp [wds, Value.category]; decide) rfl (by decide) hk hw
theorem iX6_complain_54 {v : Int32} {Ls : List Value} {h : AH} : ev L xs mdX6_complain 54 Ls [.int v] h = some (.inl (some (.int v), h)) := e_iret dX6_complain_54 rfl
theorem dX6_daysToOpen_0 : decode cX6_daysToOpen 0 = .ok (.aload_n 0, 1) := by decide +kernel
theorem dX6_daysToOpen_1 : decode cX6_daysToOpen 1 = .ok (.getfield 16, 3) := by decide +kernel
theorem dX6_daysToOpen_4 : decode cX6_daysToOpen 4 = .ok (.aload_n 0, 1) := by decide +kernel
theorem dX6_daysToOpen_5 : decode cX6_daysToOpen 5 = .ok (.getfield 12, 3) := by decide +kernel
theorem dX6_daysToOpen_8 : decode cX6_daysToOpen 8 = .ok (.invokevirtual 232, 3) := by decide +kernel
theorem dX6_daysToOpen_11 : decode cX6_daysToOpen 11 = .ok (.aload_n 0, 1) := by decide +kernel
theorem dX6_daysToOpen_12 : decode cX6_daysToOpen 12 = .ok (.getfield 16, 3) := by decide +kernel
theorem dX6_daysToOpen_15 : decode cX6_daysToOpen 15 = .ok (.invokevirtual 153, 3) := by decide +kernel
theorem dX6_daysToOpen_18 : decode cX6_daysToOpen 18 = .ok (.istore_n 1, 1) := by decide +kernel
theorem dX6_daysToOpen_19 : decode cX6_daysToOpen 19 = .ok (.iconst 2, 1) := by decide +kernel
theorem dX6_daysToOpen_20 : decode cX6_daysToOpen 20 = .ok (.iload_n 1, 1) := by decide +kernel
theorem dX6_daysToOpen_21 : decode cX6_daysToOpen 21 = .ok (.bipush 60, 2) := by decide +kernel
theorem dX6_daysToOpen_23 : decode cX6_daysToOpen 23 = .ok (.iadd, 1) := by decide +kernel
theorem dX6_daysToOpen_24 : decode cX6_daysToOpen 24 = .ok (.iconst 1, 1) := by decide +kernel
theorem dX6_daysToOpen_25 : decode cX6_daysToOpen 25 = .ok (.iadd, 1) := by decide +kernel
theorem dX6_daysToOpen_26 : decode cX6_daysToOpen 26 = .ok (.imul, 1) := by decide +kernel
theorem dX6_daysToOpen_27 : decode cX6_daysToOpen 27 = .ok (.aload_n 0, 1) := by decide +kernel
theorem dX6_daysToOpen_28 : decode cX6_daysToOpen 28 = .ok (.getfield 16, 3) := by decide +kernel
theorem dX6_daysToOpen_31 : decode cX6_daysToOpen 31 = .ok (.getfield 243, 3) := by decide +kernel
theorem dX6_daysToOpen_34 : decode cX6_daysToOpen 34 = .ok (.isub, 1) := by decide +kernel
theorem dX6_daysToOpen_35 : decode cX6_daysToOpen 35 = .ok (.istore_n 2, 1) := by decide +kernel
theorem dX6_daysToOpen_36 : decode cX6_daysToOpen 36 = .ok (.iconst 0, 1) := by decide +kernel
theorem dX6_daysToOpen_37 : decode cX6_daysToOpen 37 = .ok (.istore_n 3, 1) := by decide +kernel
theorem dX6_daysToOpen_38 : decode cX6_daysToOpen 38 = .ok (.iload_n 3, 1) := by decide +kernel
theorem dX6_daysToOpen_39 : decode cX6_daysToOpen 39 = .ok (.iload_n 2, 1) := by decide +kernel
theorem dX6_daysToOpen_40 : decode cX6_daysToOpen 40 = .ok (.if_icmp .ge 37, 3) := by decide +kernel
theorem dX6_daysToOpen_43 : decode cX6_daysToOpen 43 = .ok (.aload_n 0, 1) := by decide +kernel
theorem dX6_daysToOpen_44 : decode cX6_daysToOpen 44 = .ok (.getfield 16, 3) := by decide +kernel
theorem dX6_daysToOpen_47 : decode cX6_daysToOpen 47 = .ok (.invokevirtual 153, 3) := by decide +kernel
theorem dX6_daysToOpen_50 : decode cX6_daysToOpen 50 = .ok (.istore 4, 2) := by decide +kernel
theorem dX6_daysToOpen_52 : decode cX6_daysToOpen 52 = .ok (.aload_n 0, 1) := by decide +kernel
theorem dX6_daysToOpen_53 : decode cX6_daysToOpen 53 = .ok (.getfield 16, 3) := by decide +kernel
theorem dX6_daysToOpen_56 : decode cX6_daysToOpen 56 = .ok (.aload_n 0, 1) := by decide +kernel
theorem dX6_daysToOpen_57 : decode cX6_daysToOpen 57 = .ok (.getfield 26, 3) := by decide +kernel
theorem dX6_daysToOpen_60 : decode cX6_daysToOpen 60 = .ok (.invokevirtual 159, 3) := by decide +kernel
theorem dX6_daysToOpen_63 : decode cX6_daysToOpen 63 = .ok (.ifCond .eq 8, 3) := by decide +kernel
theorem dX6_daysToOpen_66 : decode cX6_daysToOpen 66 = .ok (.iload 4, 2) := by decide +kernel
theorem dX6_daysToOpen_68 : decode cX6_daysToOpen 68 = .ok (.iload_n 1, 1) := by decide +kernel
theorem dX6_daysToOpen_69 : decode cX6_daysToOpen 69 = .ok (.isub, 1) := by decide +kernel
theorem dX6_daysToOpen_70 : decode cX6_daysToOpen 70 = .ok (.ireturn, 1) := by decide +kernel
theorem dX6_daysToOpen_71 : decode cX6_daysToOpen 71 = .ok (.iinc 3 1, 3) := by decide +kernel
theorem dX6_daysToOpen_74 : decode cX6_daysToOpen 74 = .ok (.goto (-36), 3) := by decide +kernel
theorem dX6_daysToOpen_77 : decode cX6_daysToOpen 77 = .ok (.iconst (-1), 1) := by decide +kernel
theorem dX6_daysToOpen_78 : decode cX6_daysToOpen 78 = .ok (.ireturn, 1) := by decide +kernel
theorem iX6_daysToOpen_0 {x : Nat} {Ls st : List Value} {h : AH} : ev L xs mdX6_daysToOpen 0 (.ref x :: Ls) (st) h = ev L xs mdX6_daysToOpen 1 (.ref x :: Ls) (.ref x :: st) (h) := e_aload_n dX6_daysToOpen_0 rfl
theorem iX6_daysToOpen_1 {a : Nat} {Ls st : List Value} {h : AH} (hk : hK h a = 6) (hj : (hR h 97 a).isSome = true) : ev L xs mdX6_daysToOpen 1 (Ls) (.ref a :: st) h = ev L xs mdX6_daysToOpen 4 (Ls) (.ref ((hR h 97 a).getD 0) :: st) (h) := e_getR (k := 6) (f := 1) (F := 97) dX6_daysToOpen_1 (by decide +kernel) rfl rfl hk hj
theorem iX6_daysToOpen_4 {x : Nat} {Ls st : List Value} {h : AH} : ev L xs mdX6_daysToOpen 4 (.ref x :: Ls) (st) h = ev L xs mdX6_daysToOpen 5 (.ref x :: Ls) (.ref x :: st) (h) := e_aload_n dX6_daysToOpen_4 rfl
theorem iX6_daysToOpen_5 {a : Nat} {Ls st : List Value} {h : AH} (hk : hK h a = 6) (hj : (hR h 96 a).isSome = true) : ev L xs mdX6_daysToOpen 5 (Ls) (.ref a :: st) h = ev L xs mdX6_daysToOpen 8 (Ls) (.ref ((hR h 96 a).getD 0) :: st) (h) := e_getR (k := 6) (f := 0) (F := 96) dX6_daysToOpen_5 (by decide +kernel) rfl rfl hk hj
theorem iX6_daysToOpen_8 {a : Nat} {p0 : Nat} {Ls st : List Value} {h : AH} (hk : hK h a = 5) (hw : wds st ≤ 8) : ev L xs mdX6_daysToOpen 8 Ls (.ref p0 :: .ref a :: st) h = kn L xs mdX6_daysToOpen 8 11 Ls st (ev L xs mdX5_copyFrom 0 [.ref a, .ref p0, .null] [] h) := e_callV (as := [.ref p0]) dX6_daysToOpen_8 mr_6_232 (by decide) (by decide) rfl (by simp [wds, Value.category]; decide) rfl (by decide) hk hw
theorem iX6_daysToOpen_11 {x : Nat} {Ls st : List Value} {h : AH} : ev L xs mdX6_daysToOpen 11 (.ref x :: Ls) (st) h = ev L xs mdX6_daysToOpen 12 (.ref x :: Ls) (.ref x :: st) (h) := e_aload_n dX6_daysToOpen_11 rfl
theorem iX6_daysToOpen_12 {a : Nat} {Ls st : List Value} {h : AH} (hk : hK h a = 6) (hj : (hR h 97 a).isSome = true) : ev L xs mdX6_daysToOpen 12 (Ls) (.ref a :: st) h = ev L xs mdX6_daysToOpen 15 (Ls) (.ref ((hR h 97 a).getD 0) :: st) (h) := e_getR (k := 6) (f := 1) (F := 97) dX6_daysToOpen_12 (by decide +kernel) rfl rfl hk hj
theorem iX6_daysToOpen_15 {a : Nat} {Ls st : List Value} {h : AH} (hk : hK h a = 5) (hw : wds st ≤ 8) : ev L xs mdX6_daysToOpen 15 Ls (.ref a :: st) h = kn L xs mdX6_daysToOpen 15 18 Ls st (ev L xs mdX5_nextDay 0 [.ref a] [] h) := e_callV (as := []) dX6_daysToOpen_15 mr_6_153 (by decide) (by decide) rfl (by simp [wds, Value.category]; decide) rfl (by decide) hk hw
theorem iX6_daysToOpen_18 {v0 : Value} {v1 : Value} {x : Int32} {Ls st : List Value} {h : AH} (hc9 : v0.category = 1) : ev L xs mdX6_daysToOpen 18 (v0 :: v1 :: Ls) (.int x :: st) h = ev L xs mdX6_daysToOpen 19 (v0 :: .int x :: Ls) (st) (h) := e_istore_n dX6_daysToOpen_18 rfl (by decide) (by unfold catOK; show (_ || (v0.category == 1)) = true; rw [hc9]; rfl)
theorem iX6_daysToOpen_19  {Ls st : List Value} {h : AH} : ev L xs mdX6_daysToOpen 19 (Ls) (st) h = ev L xs mdX6_daysToOpen 20 (Ls) (.int (nI 2) :: st) (h) := e_iconst dX6_daysToOpen_19 (by decide)
theorem iX6_daysToOpen_20 {v0 : Value} {x : Int32} {Ls st : List Value} {h : AH} : ev L xs mdX6_daysToOpen 20 (v0 :: .int x :: Ls) (st) h = ev L xs mdX6_daysToOpen 21 (v0 :: .int x :: Ls) (.int x :: st) (h) := e_iload_n dX6_daysToOpen_20 rfl
theorem iX6_daysToOpen_21  {Ls st : List Value} {h : AH} : ev L xs mdX6_daysToOpen 21 (Ls) (st) h = ev L xs mdX6_daysToOpen 23 (Ls) (.int (nI 60) :: st) (h) := e_bipush dX6_daysToOpen_21 (by decide)
theorem iX6_daysToOpen_23 {x z : Int32} {Ls st : List Value} {h : AH} : ev L xs mdX6_daysToOpen 23 (Ls) (.int z :: .int x :: st) h = ev L xs mdX6_daysToOpen 24 (Ls) (.int (x + z) :: st) (h) := e_iadd dX6_daysToOpen_23
theorem iX6_daysToOpen_24  {Ls st : List Value} {h : AH} : ev L xs mdX6_daysToOpen 24 (Ls) (st) h = ev L xs mdX6_daysToOpen 25 (Ls) (.int (nI 1) :: st) (h) := e_iconst dX6_daysToOpen_24 (by decide)
theorem iX6_daysToOpen_25 {x z : Int32} {Ls st : List Value} {h : AH} : ev L xs mdX6_daysToOpen 25 (Ls) (.int z :: .int x :: st) h = ev L xs mdX6_daysToOpen 26 (Ls) (.int (x + z) :: st) (h) := e_iadd dX6_daysToOpen_25
theorem iX6_daysToOpen_26 {x z : Int32} {Ls st : List Value} {h : AH} : ev L xs mdX6_daysToOpen 26 (Ls) (.int z :: .int x :: st) h = ev L xs mdX6_daysToOpen 27 (Ls) (.int (x * z) :: st) (h) := e_imul dX6_daysToOpen_26
theorem iX6_daysToOpen_27 {x : Nat} {Ls st : List Value} {h : AH} : ev L xs mdX6_daysToOpen 27 (.ref x :: Ls) (st) h = ev L xs mdX6_daysToOpen 28 (.ref x :: Ls) (.ref x :: st) (h) := e_aload_n dX6_daysToOpen_27 rfl
theorem iX6_daysToOpen_28 {a : Nat} {Ls st : List Value} {h : AH} (hk : hK h a = 6) (hj : (hR h 97 a).isSome = true) : ev L xs mdX6_daysToOpen 28 (Ls) (.ref a :: st) h = ev L xs mdX6_daysToOpen 31 (Ls) (.ref ((hR h 97 a).getD 0) :: st) (h) := e_getR (k := 6) (f := 1) (F := 97) dX6_daysToOpen_28 (by decide +kernel) rfl rfl hk hj
theorem iX6_daysToOpen_31 {a : Nat} {Ls st : List Value} {h : AH} (hk : hK h a = 5) : ev L xs mdX6_daysToOpen 31 (Ls) (.ref a :: st) h = ev L xs mdX6_daysToOpen 34 (Ls) (.int (hI h 87 a) :: st) (h) := e_getI (k := 5) (f := 7) (F := 87) dX6_daysToOpen_31 (by decide +kernel) rfl rfl hk
theorem iX6_daysToOpen_34 {x z : Int32} {Ls st : List Value} {h : AH} : ev L xs mdX6_daysToOpen 34 (Ls) (.int z :: .int x :: st) h = ev L xs mdX6_daysToOpen 35 (Ls) (.int (x - z) :: st) (h) := e_isub dX6_daysToOpen_34
theorem iX6_daysToOpen_35 {v0 : Value} {v1 : Value} {v2 : Value} {x : Int32} {Ls st : List Value} {h : AH} (hc9 : v1.category = 1) : ev L xs mdX6_daysToOpen 35 (v0 :: v1 :: v2 :: Ls) (.int x :: st) h = ev L xs mdX6_daysToOpen 36 (v0 :: v1 :: .int x :: Ls) (st) (h) := e_istore_n dX6_daysToOpen_35 rfl (by decide) (by unfold catOK; show (_ || (v1.category == 1)) = true; rw [hc9]; rfl)
theorem iX6_daysToOpen_36  {Ls st : List Value} {h : AH} : ev L xs mdX6_daysToOpen 36 (Ls) (st) h = ev L xs mdX6_daysToOpen 37 (Ls) (.int (nI 0) :: st) (h) := e_iconst dX6_daysToOpen_36 (by decide)
theorem iX6_daysToOpen_37 {v0 : Value} {v1 : Value} {v2 : Value} {v3 : Value} {x : Int32} {Ls st : List Value} {h : AH} (hc9 : v2.category = 1) : ev L xs mdX6_daysToOpen 37 (v0 :: v1 :: v2 :: v3 :: Ls) (.int x :: st) h = ev L xs mdX6_daysToOpen 38 (v0 :: v1 :: v2 :: .int x :: Ls) (st) (h) := e_istore_n dX6_daysToOpen_37 rfl (by decide) (by unfold catOK; show (_ || (v2.category == 1)) = true; rw [hc9]; rfl)
theorem iX6_daysToOpen_38 {v0 : Value} {v1 : Value} {v2 : Value} {x : Int32} {Ls st : List Value} {h : AH} : ev L xs mdX6_daysToOpen 38 (v0 :: v1 :: v2 :: .int x :: Ls) (st) h = ev L xs mdX6_daysToOpen 39 (v0 :: v1 :: v2 :: .int x :: Ls) (.int x :: st) (h) := e_iload_n dX6_daysToOpen_38 rfl
theorem iX6_daysToOpen_39 {v0 : Value} {v1 : Value} {x : Int32} {Ls st : List Value} {h : AH} : ev L xs mdX6_daysToOpen 39 (v0 :: v1 :: .int x :: Ls) (st) h = ev L xs mdX6_daysToOpen 40 (v0 :: v1 :: .int x :: Ls) (.int x :: st) (h) := e_iload_n dX6_daysToOpen_39 rfl
theorem iX6_daysToOpen_40 {x z : Int32} {Ls st : List Value} {h : AH} : ev L xs mdX6_daysToOpen 40 Ls (.int z :: .int x :: st) h = if z ≤ x then ev L xs mdX6_daysToOpen 77 Ls st h else ev L xs mdX6_daysToOpen 43 Ls st h := e_ic_ge dX6_daysToOpen_40 (by decide)
theorem iX6_daysToOpen_43 {x : Nat} {Ls st : List Value} {h : AH} : ev L xs mdX6_daysToOpen 43 (.ref x :: Ls) (st) h = ev L xs mdX6_daysToOpen 44 (.ref x :: Ls) (.ref x :: st) (h) := e_aload_n dX6_daysToOpen_43 rfl
theorem iX6_daysToOpen_44 {a : Nat} {Ls st : List Value} {h : AH} (hk : hK h a = 6) (hj : (hR h 97 a).isSome = true) : ev L xs mdX6_daysToOpen 44 (Ls) (.ref a :: st) h = ev L xs mdX6_daysToOpen 47 (Ls) (.ref ((hR h 97 a).getD 0) :: st) (h) := e_getR (k := 6) (f := 1) (F := 97) dX6_daysToOpen_44 (by decide +kernel) rfl rfl hk hj
theorem iX6_daysToOpen_47 {a : Nat} {Ls st : List Value} {h : AH} (hk : hK h a = 5) (hw : wds st ≤ 8) : ev L xs mdX6_daysToOpen 47 Ls (.ref a :: st) h = kn L xs mdX6_daysToOpen 47 50 Ls st (ev L xs mdX5_nextDay 0 [.ref a] [] h) := e_callV (as := []) dX6_daysToOpen_47 mr_6_153 (by decide) (by decide) rfl (by simp [wds, Value.category]; decide) rfl (by decide) hk hw
theorem iX6_daysToOpen_50 {v0 : Value} {v1 : Value} {v2 : Value} {v3 : Value} {v4 : Value} {x : Int32} {Ls st : List Value} {h : AH} (hc9 : v3.category = 1) : ev L xs mdX6_daysToOpen 50 (v0 :: v1 :: v2 :: v3 :: v4 :: Ls) (.int x :: st) h = ev L xs mdX6_daysToOpen 52 (v0 :: v1 :: v2 :: v3 :: .int x :: Ls) (st) (h) := e_istore dX6_daysToOpen_50 rfl (by decide) (by unfold catOK; show (_ || (v3.category == 1)) = true; rw [hc9]; rfl)
theorem iX6_daysToOpen_52 {x : Nat} {Ls st : List Value} {h : AH} : ev L xs mdX6_daysToOpen 52 (.ref x :: Ls) (st) h = ev L xs mdX6_daysToOpen 53 (.ref x :: Ls) (.ref x :: st) (h) := e_aload_n dX6_daysToOpen_52 rfl
theorem iX6_daysToOpen_53 {a : Nat} {Ls st : List Value} {h : AH} (hk : hK h a = 6) (hj : (hR h 97 a).isSome = true) : ev L xs mdX6_daysToOpen 53 (Ls) (.ref a :: st) h = ev L xs mdX6_daysToOpen 56 (Ls) (.ref ((hR h 97 a).getD 0) :: st) (h) := e_getR (k := 6) (f := 1) (F := 97) dX6_daysToOpen_53 (by decide +kernel) rfl rfl hk hj
theorem iX6_daysToOpen_56 {x : Nat} {Ls st : List Value} {h : AH} : ev L xs mdX6_daysToOpen 56 (.ref x :: Ls) (st) h = ev L xs mdX6_daysToOpen 57 (.ref x :: Ls) (.ref x :: st) (h) := e_aload_n dX6_daysToOpen_56 rfl
theorem iX6_daysToOpen_57 {a : Nat} {Ls st : List Value} {h : AH} (hk : hK h a = 6) (hj : (hR h 100 a).isSome = true) : ev L xs mdX6_daysToOpen 57 (Ls) (.ref a :: st) h = ev L xs mdX6_daysToOpen 60 (Ls) (.ref ((hR h 100 a).getD 0) :: st) (h) := e_getR (k := 6) (f := 4) (F := 100) dX6_daysToOpen_57 (by decide +kernel) rfl rfl hk hj
theorem iX6_daysToOpen_60 {a : Nat} {p0 : Nat} {Ls st : List Value} {h : AH} (hk : hK h a = 5) (hw : wds st ≤ 8) : ev L xs mdX6_daysToOpen 60 Ls (.ref p0 :: .ref a :: st) h = kn L xs mdX6_daysToOpen 60 63 Ls st (ev L xs mdX5_takeNext 0 [.ref a, .ref p0, .null, .null, .null] [] h) := e_callV (as := [.ref p0]) dX6_daysToOpen_60 mr_6_159 (by decide) (by decide) rfl (by simp [wds, Value.category]; decide) rfl (by decide) hk hw
theorem iX6_daysToOpen_63 {x : Int32} {Ls st : List Value} {h : AH} : ev L xs mdX6_daysToOpen 63 Ls (.int x :: st) h = if x = nI 0 then ev L xs mdX6_daysToOpen 71 Ls st h else ev L xs mdX6_daysToOpen 66 Ls st h := e_if_eq dX6_daysToOpen_63 (by decide)
theorem iX6_daysToOpen_66 {v0 : Value} {v1 : Value} {v2 : Value} {v3 : Value} {x : Int32} {Ls st : List Value} {h : AH} : ev L xs mdX6_daysToOpen 66 (v0 :: v1 :: v2 :: v3 :: .int x :: Ls) (st) h = ev L xs mdX6_daysToOpen 68 (v0 :: v1 :: v2 :: v3 :: .int x :: Ls) (.int x :: st) (h) := e_iload dX6_daysToOpen_66 rfl
theorem iX6_daysToOpen_68 {v0 : Value} {x : Int32} {Ls st : List Value} {h : AH} : ev L xs mdX6_daysToOpen 68 (v0 :: .int x :: Ls) (st) h = ev L xs mdX6_daysToOpen 69 (v0 :: .int x :: Ls) (.int x :: st) (h) := e_iload_n dX6_daysToOpen_68 rfl
theorem iX6_daysToOpen_69 {x z : Int32} {Ls st : List Value} {h : AH} : ev L xs mdX6_daysToOpen 69 (Ls) (.int z :: .int x :: st) h = ev L xs mdX6_daysToOpen 70 (Ls) (.int (x - z) :: st) (h) := e_isub dX6_daysToOpen_69
theorem iX6_daysToOpen_70 {v : Int32} {Ls : List Value} {h : AH} : ev L xs mdX6_daysToOpen 70 Ls [.int v] h = some (.inl (some (.int v), h)) := e_iret dX6_daysToOpen_70 rfl
theorem iX6_daysToOpen_71 {v0 : Value} {v1 : Value} {v2 : Value} {x : Int32} {Ls st : List Value} {h : AH} (hc9 : v2.category = 1) : ev L xs mdX6_daysToOpen 71 (v0 :: v1 :: v2 :: .int x :: Ls) (st) h = ev L xs mdX6_daysToOpen 74 (v0 :: v1 :: v2 :: .int (x + (nI 1)) :: Ls) (st) (h) := e_iinc dX6_daysToOpen_71 rfl rfl rfl (by decide) (by unfold catOK; show (_ || (v2.category == 1)) = true; rw [hc9]; rfl)
theorem iX6_daysToOpen_74  {Ls st : List Value} {h : AH} : ev L xs mdX6_daysToOpen 74 (Ls) (st) h = ev L xs mdX6_daysToOpen 38 (Ls) (st) (h) := e_goto dX6_daysToOpen_74 (by decide)
theorem iX6_daysToOpen_77  {Ls st : List Value} {h : AH} : ev L xs mdX6_daysToOpen 77 (Ls) (st) h = ev L xs mdX6_daysToOpen 78 (Ls) (.int (-1) :: st) (h) := e_iconst dX6_daysToOpen_77 (by decide)
theorem iX6_daysToOpen_78 {v : Int32} {Ls : List Value} {h : AH} : ev L xs mdX6_daysToOpen 78 Ls [.int v] h = some (.inl (some (.int v), h)) := e_iret dX6_daysToOpen_78 rfl
theorem dX6_digest_0 : decode cX6_digest 0 = .ok (.ldc2_w 283, 3) := by decide +kernel
theorem dX6_digest_3 : decode cX6_digest 3 = .ok (.aload_n 0, 1) := by decide +kernel
theorem dX6_digest_4 : decode cX6_digest 4 = .ok (.getfield 40, 3) := by decide +kernel
theorem dX6_digest_7 : decode cX6_digest 7 = .ok (.getfield 257, 3) := by decide +kernel
theorem dX6_digest_10 : decode cX6_digest 10 = .ok (.invokestatic 285, 3) := by decide +kernel
theorem dX6_digest_13 : decode cX6_digest 13 = .ok (.lstore_n 1, 1) := by decide +kernel
theorem dX6_digest_14 : decode cX6_digest 14 = .ok (.iconst 0, 1) := by decide +kernel
theorem dX6_digest_15 : decode cX6_digest 15 = .ok (.istore_n 3, 1) := by decide +kernel
theorem dX6_digest_16 : decode cX6_digest 16 = .ok (.iload_n 3, 1) := by decide +kernel
theorem dX6_digest_17 : decode cX6_digest 17 = .ok (.bipush 10, 2) := by decide +kernel
theorem dX6_digest_19 : decode cX6_digest 19 = .ok (.if_icmp .gt 22, 3) := by decide +kernel
theorem dX6_digest_22 : decode cX6_digest 22 = .ok (.lload_n 1, 1) := by decide +kernel
theorem dX6_digest_23 : decode cX6_digest 23 = .ok (.aload_n 0, 1) := by decide +kernel
theorem dX6_digest_24 : decode cX6_digest 24 = .ok (.getfield 12, 3) := by decide +kernel
theorem dX6_digest_27 : decode cX6_digest 27 = .ok (.iload_n 3, 1) := by decide +kernel
theorem dX6_digest_28 : decode cX6_digest 28 = .ok (.invokevirtual 180, 3) := by decide +kernel
theorem dX6_digest_31 : decode cX6_digest 31 = .ok (.invokestatic 285, 3) := by decide +kernel
theorem dX6_digest_34 : decode cX6_digest 34 = .ok (.lstore_n 1, 1) := by decide +kernel
theorem dX6_digest_35 : decode cX6_digest 35 = .ok (.iinc 3 1, 3) := by decide +kernel
theorem dX6_digest_38 : decode cX6_digest 38 = .ok (.goto (-22), 3) := by decide +kernel
theorem dX6_digest_41 : decode cX6_digest 41 = .ok (.iconst 0, 1) := by decide +kernel
theorem dX6_digest_42 : decode cX6_digest 42 = .ok (.istore_n 3, 1) := by decide +kernel
theorem dX6_digest_43 : decode cX6_digest 43 = .ok (.iload_n 3, 1) := by decide +kernel
theorem dX6_digest_44 : decode cX6_digest 44 = .ok (.aload_n 0, 1) := by decide +kernel
theorem dX6_digest_45 : decode cX6_digest 45 = .ok (.getfield 12, 3) := by decide +kernel
theorem dX6_digest_48 : decode cX6_digest 48 = .ok (.getfield 59, 3) := by decide +kernel
theorem dX6_digest_51 : decode cX6_digest 51 = .ok (.if_icmp .ge 35, 3) := by decide +kernel
theorem dX6_digest_54 : decode cX6_digest 54 = .ok (.lload_n 1, 1) := by decide +kernel
theorem dX6_digest_55 : decode cX6_digest 55 = .ok (.aload_n 0, 1) := by decide +kernel
theorem dX6_digest_56 : decode cX6_digest 56 = .ok (.getfield 12, 3) := by decide +kernel
theorem dX6_digest_59 : decode cX6_digest 59 = .ok (.getfield 188, 3) := by decide +kernel
theorem dX6_digest_62 : decode cX6_digest 62 = .ok (.iload_n 3, 1) := by decide +kernel
theorem dX6_digest_63 : decode cX6_digest 63 = .ok (.iaload, 1) := by decide +kernel
theorem dX6_digest_64 : decode cX6_digest 64 = .ok (.invokestatic 285, 3) := by decide +kernel
theorem dX6_digest_67 : decode cX6_digest 67 = .ok (.aload_n 0, 1) := by decide +kernel
theorem dX6_digest_68 : decode cX6_digest 68 = .ok (.getfield 12, 3) := by decide +kernel
theorem dX6_digest_71 : decode cX6_digest 71 = .ok (.getfield 184, 3) := by decide +kernel
theorem dX6_digest_74 : decode cX6_digest 74 = .ok (.iload_n 3, 1) := by decide +kernel
theorem dX6_digest_75 : decode cX6_digest 75 = .ok (.iaload, 1) := by decide +kernel
theorem dX6_digest_76 : decode cX6_digest 76 = .ok (.invokestatic 285, 3) := by decide +kernel
theorem dX6_digest_79 : decode cX6_digest 79 = .ok (.lstore_n 1, 1) := by decide +kernel
theorem dX6_digest_80 : decode cX6_digest 80 = .ok (.iinc 3 1, 3) := by decide +kernel
theorem dX6_digest_83 : decode cX6_digest 83 = .ok (.goto (-40), 3) := by decide +kernel
theorem dX6_digest_86 : decode cX6_digest 86 = .ok (.iconst 0, 1) := by decide +kernel
theorem dX6_digest_87 : decode cX6_digest 87 = .ok (.istore_n 3, 1) := by decide +kernel
theorem dX6_digest_88 : decode cX6_digest 88 = .ok (.iload_n 3, 1) := by decide +kernel
theorem dX6_digest_89 : decode cX6_digest 89 = .ok (.aload_n 0, 1) := by decide +kernel
theorem dX6_digest_90 : decode cX6_digest 90 = .ok (.getfield 12, 3) := by decide +kernel
theorem dX6_digest_93 : decode cX6_digest 93 = .ok (.getfield 80, 3) := by decide +kernel
theorem dX6_digest_96 : decode cX6_digest 96 = .ok (.if_icmp .ge 40, 3) := by decide +kernel
theorem dX6_digest_99 : decode cX6_digest 99 = .ok (.iconst 0, 1) := by decide +kernel
theorem dX6_digest_100 : decode cX6_digest 100 = .ok (.istore 4, 2) := by decide +kernel
theorem dX6_digest_102 : decode cX6_digest 102 = .ok (.iload 4, 2) := by decide +kernel
theorem dX6_digest_104 : decode cX6_digest 104 = .ok (.bipush 8, 2) := by decide +kernel
theorem dX6_digest_106 : decode cX6_digest 106 = .ok (.if_icmp .gt 24, 3) := by decide +kernel
theorem dX6_digest_109 : decode cX6_digest 109 = .ok (.lload_n 1, 1) := by decide +kernel
theorem dX6_digest_110 : decode cX6_digest 110 = .ok (.aload_n 0, 1) := by decide +kernel
theorem dX6_digest_111 : decode cX6_digest 111 = .ok (.getfield 12, 3) := by decide +kernel
theorem dX6_digest_114 : decode cX6_digest 114 = .ok (.iload_n 3, 1) := by decide +kernel
theorem dX6_digest_115 : decode cX6_digest 115 = .ok (.iload 4, 2) := by decide +kernel
theorem dX6_digest_117 : decode cX6_digest 117 = .ok (.invokevirtual 174, 3) := by decide +kernel
theorem dX6_digest_120 : decode cX6_digest 120 = .ok (.invokestatic 285, 3) := by decide +kernel
theorem dX6_digest_123 : decode cX6_digest 123 = .ok (.lstore_n 1, 1) := by decide +kernel
theorem dX6_digest_124 : decode cX6_digest 124 = .ok (.iinc 4 1, 3) := by decide +kernel
theorem dX6_digest_127 : decode cX6_digest 127 = .ok (.goto (-25), 3) := by decide +kernel
theorem dX6_digest_130 : decode cX6_digest 130 = .ok (.iinc 3 1, 3) := by decide +kernel
theorem dX6_digest_133 : decode cX6_digest 133 = .ok (.goto (-45), 3) := by decide +kernel
theorem dX6_digest_136 : decode cX6_digest 136 = .ok (.iconst 0, 1) := by decide +kernel
theorem dX6_digest_137 : decode cX6_digest 137 = .ok (.istore_n 3, 1) := by decide +kernel
theorem dX6_digest_138 : decode cX6_digest 138 = .ok (.iload_n 3, 1) := by decide +kernel
theorem dX6_digest_139 : decode cX6_digest 139 = .ok (.aload_n 0, 1) := by decide +kernel
theorem dX6_digest_140 : decode cX6_digest 140 = .ok (.getfield 12, 3) := by decide +kernel
theorem dX6_digest_143 : decode cX6_digest 143 = .ok (.getfield 109, 3) := by decide +kernel
theorem dX6_digest_146 : decode cX6_digest 146 = .ok (.if_icmp .ge 51, 3) := by decide +kernel
theorem dX6_digest_149 : decode cX6_digest 149 = .ok (.iconst 0, 1) := by decide +kernel
theorem dX6_digest_150 : decode cX6_digest 150 = .ok (.istore 4, 2) := by decide +kernel
theorem dX6_digest_152 : decode cX6_digest 152 = .ok (.iload 4, 2) := by decide +kernel
theorem dX6_digest_154 : decode cX6_digest 154 = .ok (.bipush 10, 2) := by decide +kernel
theorem dX6_digest_156 : decode cX6_digest 156 = .ok (.if_icmp .gt 35, 3) := by decide +kernel
theorem dX6_digest_159 : decode cX6_digest 159 = .ok (.lload_n 1, 1) := by decide +kernel
theorem dX6_digest_160 : decode cX6_digest 160 = .ok (.aload_n 0, 1) := by decide +kernel
theorem dX6_digest_161 : decode cX6_digest 161 = .ok (.getfield 12, 3) := by decide +kernel
theorem dX6_digest_164 : decode cX6_digest 164 = .ok (.getfield 129, 3) := by decide +kernel
theorem dX6_digest_167 : decode cX6_digest 167 = .ok (.iload_n 3, 1) := by decide +kernel
theorem dX6_digest_168 : decode cX6_digest 168 = .ok (.aaload, 1) := by decide +kernel
theorem dX6_digest_169 : decode cX6_digest 169 = .ok (.iload 4, 2) := by decide +kernel
theorem dX6_digest_171 : decode cX6_digest 171 = .ok (.aload_n 0, 1) := by decide +kernel
theorem dX6_digest_172 : decode cX6_digest 172 = .ok (.getfield 12, 3) := by decide +kernel
theorem dX6_digest_175 : decode cX6_digest 175 = .ok (.invokevirtual 153, 3) := by decide +kernel
theorem dX6_digest_178 : decode cX6_digest 178 = .ok (.invokevirtual 177, 3) := by decide +kernel
theorem dX6_digest_181 : decode cX6_digest 181 = .ok (.invokestatic 285, 3) := by decide +kernel
theorem dX6_digest_184 : decode cX6_digest 184 = .ok (.lstore_n 1, 1) := by decide +kernel
theorem dX6_digest_185 : decode cX6_digest 185 = .ok (.iinc 4 1, 3) := by decide +kernel
theorem dX6_digest_188 : decode cX6_digest 188 = .ok (.goto (-36), 3) := by decide +kernel
theorem dX6_digest_191 : decode cX6_digest 191 = .ok (.iinc 3 1, 3) := by decide +kernel
theorem dX6_digest_194 : decode cX6_digest 194 = .ok (.goto (-56), 3) := by decide +kernel
theorem dX6_digest_197 : decode cX6_digest 197 = .ok (.lload_n 1, 1) := by decide +kernel
theorem dX6_digest_198 : decode cX6_digest 198 = .ok (.aload_n 0, 1) := by decide +kernel
theorem dX6_digest_199 : decode cX6_digest 199 = .ok (.getfield 278, 3) := by decide +kernel
theorem dX6_digest_202 : decode cX6_digest 202 = .ok (.invokestatic 285, 3) := by decide +kernel
theorem dX6_digest_205 : decode cX6_digest 205 = .ok (.lreturn, 1) := by decide +kernel
theorem iX6_digest_0  {Ls st : List Value} {h : AH} : ev L xs mdX6_digest 0 (Ls) (st) h = ev L xs mdX6_digest 3 (Ls) (.long (3617) :: st) (h) := e_ldc2 dX6_digest_0 (by decide +kernel)
theorem iX6_digest_3 {x : Nat} {Ls st : List Value} {h : AH} : ev L xs mdX6_digest 3 (.ref x :: Ls) (st) h = ev L xs mdX6_digest 4 (.ref x :: Ls) (.ref x :: st) (h) := e_aload_n dX6_digest_3 rfl
theorem iX6_digest_4 {a : Nat} {Ls st : List Value} {h : AH} (hk : hK h a = 6) (hj : (hR h 102 a).isSome = true) : ev L xs mdX6_digest 4 (Ls) (.ref a :: st) h = ev L xs mdX6_digest 7 (Ls) (.ref ((hR h 102 a).getD 0) :: st) (h) := e_getR (k := 6) (f := 6) (F := 102) dX6_digest_4 (by decide +kernel) rfl rfl hk hj
theorem iX6_digest_7 {a : Nat} {Ls st : List Value} {h : AH} (hk : hK h a = 1) : ev L xs mdX6_digest 7 (Ls) (.ref a :: st) h = ev L xs mdX6_digest 10 (Ls) (.int (hI h 17 a) :: st) (h) := e_getI (k := 1) (f := 1) (F := 17) dX6_digest_7 (by decide +kernel) rfl rfl hk
theorem iX6_digest_10 {p0 : Int64} {p1 : Int32} {Ls st : List Value} {h : AH} (hw : wds st ≤ 8) : ev L xs mdX6_digest 10 Ls (.int p1 :: .long p0 :: st) h = kn L xs mdX6_digest 10 13 Ls st (ev L xs mdX6_mixed 0 [.long p0, .null, .int p1] [] h) := e_callS (as := [.int p1, .long p0]) dX6_digest_10 mr_6_285 (by decide) (by decide) rfl (by simp [wds, Value.category]; decide) rfl hw
theorem iX6_digest_13 {v0 : Value} {v1 : Value} {v2 : Value} {x : Int64} {Ls st : List Value} {h : AH} (hc9 : v0.category = 1) : ev L xs mdX6_digest 13 (v0 :: v1 :: v2 :: Ls) (.long x :: st) h = ev L xs mdX6_digest 14 (v0 :: .long x :: .null :: Ls) (st) (h) := e_lstore_n dX6_digest_13 rfl (by decide) (by unfold catOK; show (_ || (v0.category == 1)) = true; rw [hc9]; rfl)
theorem iX6_digest_14  {Ls st : List Value} {h : AH} : ev L xs mdX6_digest 14 (Ls) (st) h = ev L xs mdX6_digest 15 (Ls) (.int (nI 0) :: st) (h) := e_iconst dX6_digest_14 (by decide)
theorem iX6_digest_15 {v0 : Value} {v1 : Value} {v2 : Value} {v3 : Value} {x : Int32} {Ls st : List Value} {h : AH} (hc9 : v2.category = 1) : ev L xs mdX6_digest 15 (v0 :: v1 :: v2 :: v3 :: Ls) (.int x :: st) h = ev L xs mdX6_digest 16 (v0 :: v1 :: v2 :: .int x :: Ls) (st) (h) := e_istore_n dX6_digest_15 rfl (by decide) (by unfold catOK; show (_ || (v2.category == 1)) = true; rw [hc9]; rfl)
theorem iX6_digest_16 {v0 : Value} {v1 : Value} {v2 : Value} {x : Int32} {Ls st : List Value} {h : AH} : ev L xs mdX6_digest 16 (v0 :: v1 :: v2 :: .int x :: Ls) (st) h = ev L xs mdX6_digest 17 (v0 :: v1 :: v2 :: .int x :: Ls) (.int x :: st) (h) := e_iload_n dX6_digest_16 rfl
theorem iX6_digest_17  {Ls st : List Value} {h : AH} : ev L xs mdX6_digest 17 (Ls) (st) h = ev L xs mdX6_digest 19 (Ls) (.int (nI 10) :: st) (h) := e_bipush dX6_digest_17 (by decide)
theorem iX6_digest_19 {x z : Int32} {Ls st : List Value} {h : AH} : ev L xs mdX6_digest 19 Ls (.int z :: .int x :: st) h = if z < x then ev L xs mdX6_digest 41 Ls st h else ev L xs mdX6_digest 22 Ls st h := e_ic_gt dX6_digest_19 (by decide)
theorem iX6_digest_22 {v0 : Value} {x : Int64} {Ls st : List Value} {h : AH} : ev L xs mdX6_digest 22 (v0 :: .long x :: Ls) (st) h = ev L xs mdX6_digest 23 (v0 :: .long x :: Ls) (.long x :: st) (h) := e_lload_n dX6_digest_22 rfl
theorem iX6_digest_23 {x : Nat} {Ls st : List Value} {h : AH} : ev L xs mdX6_digest 23 (.ref x :: Ls) (st) h = ev L xs mdX6_digest 24 (.ref x :: Ls) (.ref x :: st) (h) := e_aload_n dX6_digest_23 rfl
theorem iX6_digest_24 {a : Nat} {Ls st : List Value} {h : AH} (hk : hK h a = 6) (hj : (hR h 96 a).isSome = true) : ev L xs mdX6_digest 24 (Ls) (.ref a :: st) h = ev L xs mdX6_digest 27 (Ls) (.ref ((hR h 96 a).getD 0) :: st) (h) := e_getR (k := 6) (f := 0) (F := 96) dX6_digest_24 (by decide +kernel) rfl rfl hk hj
theorem iX6_digest_27 {v0 : Value} {v1 : Value} {v2 : Value} {x : Int32} {Ls st : List Value} {h : AH} : ev L xs mdX6_digest 27 (v0 :: v1 :: v2 :: .int x :: Ls) (st) h = ev L xs mdX6_digest 28 (v0 :: v1 :: v2 :: .int x :: Ls) (.int x :: st) (h) := e_iload_n dX6_digest_27 rfl
theorem iX6_digest_28 {a : Nat} {p0 : Int32} {Ls st : List Value} {h : AH} (hk : hK h a = 5) (hw : wds st ≤ 8) : ev L xs mdX6_digest 28 Ls (.int p0 :: .ref a :: st) h = kn L xs mdX6_digest 28 31 Ls st (ev L xs mdX5_about 0 [.ref a, .int p0] [] h) := e_callV (as := [.int p0]) dX6_digest_28 mr_6_180 (by decide) (by decide) rfl (by simp [wds, Value.category]; decide) rfl (by decide) hk hw
theorem iX6_digest_31 {p0 : Int64} {p1 : Int32} {Ls st : List Value} {h : AH} (hw : wds st ≤ 8) : ev L xs mdX6_digest 31 Ls (.int p1 :: .long p0 :: st) h = kn L xs mdX6_digest 31 34 Ls st (ev L xs mdX6_mixed 0 [.long p0, .null, .int p1] [] h) := e_callS (as := [.int p1, .long p0]) dX6_digest_31 mr_6_285 (by decide) (by decide) rfl (by simp [wds, Value.category]; decide) rfl hw
theorem iX6_digest_34 {v0 : Value} {v1 : Value} {v2 : Value} {x : Int64} {Ls st : List Value} {h : AH} (hc9 : v0.category = 1) : ev L xs mdX6_digest 34 (v0 :: v1 :: v2 :: Ls) (.long x :: st) h = ev L xs mdX6_digest 35 (v0 :: .long x :: .null :: Ls) (st) (h) := e_lstore_n dX6_digest_34 rfl (by decide) (by unfold catOK; show (_ || (v0.category == 1)) = true; rw [hc9]; rfl)
theorem iX6_digest_35 {v0 : Value} {v1 : Value} {v2 : Value} {x : Int32} {Ls st : List Value} {h : AH} (hc9 : v2.category = 1) : ev L xs mdX6_digest 35 (v0 :: v1 :: v2 :: .int x :: Ls) (st) h = ev L xs mdX6_digest 38 (v0 :: v1 :: v2 :: .int (x + (nI 1)) :: Ls) (st) (h) := e_iinc dX6_digest_35 rfl rfl rfl (by decide) (by unfold catOK; show (_ || (v2.category == 1)) = true; rw [hc9]; rfl)
theorem iX6_digest_38  {Ls st : List Value} {h : AH} : ev L xs mdX6_digest 38 (Ls) (st) h = ev L xs mdX6_digest 16 (Ls) (st) (h) := e_goto dX6_digest_38 (by decide)
theorem iX6_digest_41  {Ls st : List Value} {h : AH} : ev L xs mdX6_digest 41 (Ls) (st) h = ev L xs mdX6_digest 42 (Ls) (.int (nI 0) :: st) (h) := e_iconst dX6_digest_41 (by decide)
theorem iX6_digest_42 {v0 : Value} {v1 : Value} {v2 : Value} {v3 : Value} {x : Int32} {Ls st : List Value} {h : AH} (hc9 : v2.category = 1) : ev L xs mdX6_digest 42 (v0 :: v1 :: v2 :: v3 :: Ls) (.int x :: st) h = ev L xs mdX6_digest 43 (v0 :: v1 :: v2 :: .int x :: Ls) (st) (h) := e_istore_n dX6_digest_42 rfl (by decide) (by unfold catOK; show (_ || (v2.category == 1)) = true; rw [hc9]; rfl)
theorem iX6_digest_43 {v0 : Value} {v1 : Value} {v2 : Value} {x : Int32} {Ls st : List Value} {h : AH} : ev L xs mdX6_digest 43 (v0 :: v1 :: v2 :: .int x :: Ls) (st) h = ev L xs mdX6_digest 44 (v0 :: v1 :: v2 :: .int x :: Ls) (.int x :: st) (h) := e_iload_n dX6_digest_43 rfl
theorem iX6_digest_44 {x : Nat} {Ls st : List Value} {h : AH} : ev L xs mdX6_digest 44 (.ref x :: Ls) (st) h = ev L xs mdX6_digest 45 (.ref x :: Ls) (.ref x :: st) (h) := e_aload_n dX6_digest_44 rfl
theorem iX6_digest_45 {a : Nat} {Ls st : List Value} {h : AH} (hk : hK h a = 6) (hj : (hR h 96 a).isSome = true) : ev L xs mdX6_digest 45 (Ls) (.ref a :: st) h = ev L xs mdX6_digest 48 (Ls) (.ref ((hR h 96 a).getD 0) :: st) (h) := e_getR (k := 6) (f := 0) (F := 96) dX6_digest_45 (by decide +kernel) rfl rfl hk hj
theorem iX6_digest_48 {a : Nat} {Ls st : List Value} {h : AH} (hk : hK h a = 5) : ev L xs mdX6_digest 48 (Ls) (.ref a :: st) h = ev L xs mdX6_digest 51 (Ls) (.int (hI h 82 a) :: st) (h) := e_getI (k := 5) (f := 2) (F := 82) dX6_digest_48 (by decide +kernel) rfl rfl hk
theorem iX6_digest_51 {x z : Int32} {Ls st : List Value} {h : AH} : ev L xs mdX6_digest 51 Ls (.int z :: .int x :: st) h = if z ≤ x then ev L xs mdX6_digest 86 Ls st h else ev L xs mdX6_digest 54 Ls st h := e_ic_ge dX6_digest_51 (by decide)
theorem iX6_digest_54 {v0 : Value} {x : Int64} {Ls st : List Value} {h : AH} : ev L xs mdX6_digest 54 (v0 :: .long x :: Ls) (st) h = ev L xs mdX6_digest 55 (v0 :: .long x :: Ls) (.long x :: st) (h) := e_lload_n dX6_digest_54 rfl
theorem iX6_digest_55 {x : Nat} {Ls st : List Value} {h : AH} : ev L xs mdX6_digest 55 (.ref x :: Ls) (st) h = ev L xs mdX6_digest 56 (.ref x :: Ls) (.ref x :: st) (h) := e_aload_n dX6_digest_55 rfl
theorem iX6_digest_56 {a : Nat} {Ls st : List Value} {h : AH} (hk : hK h a = 6) (hj : (hR h 96 a).isSome = true) : ev L xs mdX6_digest 56 (Ls) (.ref a :: st) h = ev L xs mdX6_digest 59 (Ls) (.ref ((hR h 96 a).getD 0) :: st) (h) := e_getR (k := 6) (f := 0) (F := 96) dX6_digest_56 (by decide +kernel) rfl rfl hk hj
theorem iX6_digest_59 {a : Nat} {Ls st : List Value} {h : AH} (hk : hK h a = 5) (hj : (hR h 80 a).isSome = true) : ev L xs mdX6_digest 59 (Ls) (.ref a :: st) h = ev L xs mdX6_digest 62 (Ls) (.ref ((hR h 80 a).getD 0) :: st) (h) := e_getR (k := 5) (f := 0) (F := 80) dX6_digest_59 (by decide +kernel) rfl rfl hk hj
theorem iX6_digest_62 {v0 : Value} {v1 : Value} {v2 : Value} {x : Int32} {Ls st : List Value} {h : AH} : ev L xs mdX6_digest 62 (v0 :: v1 :: v2 :: .int x :: Ls) (st) h = ev L xs mdX6_digest 63 (v0 :: v1 :: v2 :: .int x :: Ls) (.int x :: st) (h) := e_iload_n dX6_digest_62 rfl
theorem iX6_digest_63 {a : Nat} {j : Int32} {Ls st : List Value} {h : AH} (hk : hK h a = 8) (hi : inA j (hN h a) = true) : ev L xs mdX6_digest 63 (Ls) (.int j :: .ref a :: st) h = ev L xs mdX6_digest 64 (Ls) (.int (hA h a j.toNatClampNeg) :: st) (h) := e_iald dX6_digest_63 hk hi
theorem iX6_digest_64 {p0 : Int64} {p1 : Int32} {Ls st : List Value} {h : AH} (hw : wds st ≤ 8) : ev L xs mdX6_digest 64 Ls (.int p1 :: .long p0 :: st) h = kn L xs mdX6_digest 64 67 Ls st (ev L xs mdX6_mixed 0 [.long p0, .null, .int p1] [] h) := e_callS (as := [.int p1, .long p0]) dX6_digest_64 mr_6_285 (by decide) (by decide) rfl (by simp [wds, Value.category]; decide) rfl hw
theorem iX6_digest_67 {x : Nat} {Ls st : List Value} {h : AH} : ev L xs mdX6_digest 67 (.ref x :: Ls) (st) h = ev L xs mdX6_digest 68 (.ref x :: Ls) (.ref x :: st) (h) := e_aload_n dX6_digest_67 rfl
theorem iX6_digest_68 {a : Nat} {Ls st : List Value} {h : AH} (hk : hK h a = 6) (hj : (hR h 96 a).isSome = true) : ev L xs mdX6_digest 68 (Ls) (.ref a :: st) h = ev L xs mdX6_digest 71 (Ls) (.ref ((hR h 96 a).getD 0) :: st) (h) := e_getR (k := 6) (f := 0) (F := 96) dX6_digest_68 (by decide +kernel) rfl rfl hk hj
theorem iX6_digest_71 {a : Nat} {Ls st : List Value} {h : AH} (hk : hK h a = 5) (hj : (hR h 81 a).isSome = true) : ev L xs mdX6_digest 71 (Ls) (.ref a :: st) h = ev L xs mdX6_digest 74 (Ls) (.ref ((hR h 81 a).getD 0) :: st) (h) := e_getR (k := 5) (f := 1) (F := 81) dX6_digest_71 (by decide +kernel) rfl rfl hk hj
theorem iX6_digest_74 {v0 : Value} {v1 : Value} {v2 : Value} {x : Int32} {Ls st : List Value} {h : AH} : ev L xs mdX6_digest 74 (v0 :: v1 :: v2 :: .int x :: Ls) (st) h = ev L xs mdX6_digest 75 (v0 :: v1 :: v2 :: .int x :: Ls) (.int x :: st) (h) := e_iload_n dX6_digest_74 rfl
theorem iX6_digest_75 {a : Nat} {j : Int32} {Ls st : List Value} {h : AH} (hk : hK h a = 8) (hi : inA j (hN h a) = true) : ev L xs mdX6_digest 75 (Ls) (.int j :: .ref a :: st) h = ev L xs mdX6_digest 76 (Ls) (.int (hA h a j.toNatClampNeg) :: st) (h) := e_iald dX6_digest_75 hk hi
theorem iX6_digest_76 {p0 : Int64} {p1 : Int32} {Ls st : List Value} {h : AH} (hw : wds st ≤ 8) : ev L xs mdX6_digest 76 Ls (.int p1 :: .long p0 :: st) h = kn L xs mdX6_digest 76 79 Ls st (ev L xs mdX6_mixed 0 [.long p0, .null, .int p1] [] h) := e_callS (as := [.int p1, .long p0]) dX6_digest_76 mr_6_285 (by decide) (by decide) rfl (by simp [wds, Value.category]; decide) rfl hw
theorem iX6_digest_79 {v0 : Value} {v1 : Value} {v2 : Value} {x : Int64} {Ls st : List Value} {h : AH} (hc9 : v0.category = 1) : ev L xs mdX6_digest 79 (v0 :: v1 :: v2 :: Ls) (.long x :: st) h = ev L xs mdX6_digest 80 (v0 :: .long x :: .null :: Ls) (st) (h) := e_lstore_n dX6_digest_79 rfl (by decide) (by unfold catOK; show (_ || (v0.category == 1)) = true; rw [hc9]; rfl)
theorem iX6_digest_80 {v0 : Value} {v1 : Value} {v2 : Value} {x : Int32} {Ls st : List Value} {h : AH} (hc9 : v2.category = 1) : ev L xs mdX6_digest 80 (v0 :: v1 :: v2 :: .int x :: Ls) (st) h = ev L xs mdX6_digest 83 (v0 :: v1 :: v2 :: .int (x + (nI 1)) :: Ls) (st) (h) := e_iinc dX6_digest_80 rfl rfl rfl (by decide) (by unfold catOK; show (_ || (v2.category == 1)) = true; rw [hc9]; rfl)
theorem iX6_digest_83  {Ls st : List Value} {h : AH} : ev L xs mdX6_digest 83 (Ls) (st) h = ev L xs mdX6_digest 43 (Ls) (st) (h) := e_goto dX6_digest_83 (by decide)
theorem iX6_digest_86  {Ls st : List Value} {h : AH} : ev L xs mdX6_digest 86 (Ls) (st) h = ev L xs mdX6_digest 87 (Ls) (.int (nI 0) :: st) (h) := e_iconst dX6_digest_86 (by decide)
theorem iX6_digest_87 {v0 : Value} {v1 : Value} {v2 : Value} {v3 : Value} {x : Int32} {Ls st : List Value} {h : AH} (hc9 : v2.category = 1) : ev L xs mdX6_digest 87 (v0 :: v1 :: v2 :: v3 :: Ls) (.int x :: st) h = ev L xs mdX6_digest 88 (v0 :: v1 :: v2 :: .int x :: Ls) (st) (h) := e_istore_n dX6_digest_87 rfl (by decide) (by unfold catOK; show (_ || (v2.category == 1)) = true; rw [hc9]; rfl)
theorem iX6_digest_88 {v0 : Value} {v1 : Value} {v2 : Value} {x : Int32} {Ls st : List Value} {h : AH} : ev L xs mdX6_digest 88 (v0 :: v1 :: v2 :: .int x :: Ls) (st) h = ev L xs mdX6_digest 89 (v0 :: v1 :: v2 :: .int x :: Ls) (.int x :: st) (h) := e_iload_n dX6_digest_88 rfl
theorem iX6_digest_89 {x : Nat} {Ls st : List Value} {h : AH} : ev L xs mdX6_digest 89 (.ref x :: Ls) (st) h = ev L xs mdX6_digest 90 (.ref x :: Ls) (.ref x :: st) (h) := e_aload_n dX6_digest_89 rfl
theorem iX6_digest_90 {a : Nat} {Ls st : List Value} {h : AH} (hk : hK h a = 6) (hj : (hR h 96 a).isSome = true) : ev L xs mdX6_digest 90 (Ls) (.ref a :: st) h = ev L xs mdX6_digest 93 (Ls) (.ref ((hR h 96 a).getD 0) :: st) (h) := e_getR (k := 6) (f := 0) (F := 96) dX6_digest_90 (by decide +kernel) rfl rfl hk hj
theorem iX6_digest_93 {a : Nat} {Ls st : List Value} {h : AH} (hk : hK h a = 5) : ev L xs mdX6_digest 93 (Ls) (.ref a :: st) h = ev L xs mdX6_digest 96 (Ls) (.int (hI h 84 a) :: st) (h) := e_getI (k := 5) (f := 4) (F := 84) dX6_digest_93 (by decide +kernel) rfl rfl hk
theorem iX6_digest_96 {x z : Int32} {Ls st : List Value} {h : AH} : ev L xs mdX6_digest 96 Ls (.int z :: .int x :: st) h = if z ≤ x then ev L xs mdX6_digest 136 Ls st h else ev L xs mdX6_digest 99 Ls st h := e_ic_ge dX6_digest_96 (by decide)
theorem iX6_digest_99  {Ls st : List Value} {h : AH} : ev L xs mdX6_digest 99 (Ls) (st) h = ev L xs mdX6_digest 100 (Ls) (.int (nI 0) :: st) (h) := e_iconst dX6_digest_99 (by decide)
theorem iX6_digest_100 {v0 : Value} {v1 : Value} {v2 : Value} {v3 : Value} {v4 : Value} {x : Int32} {Ls st : List Value} {h : AH} (hc9 : v3.category = 1) : ev L xs mdX6_digest 100 (v0 :: v1 :: v2 :: v3 :: v4 :: Ls) (.int x :: st) h = ev L xs mdX6_digest 102 (v0 :: v1 :: v2 :: v3 :: .int x :: Ls) (st) (h) := e_istore dX6_digest_100 rfl (by decide) (by unfold catOK; show (_ || (v3.category == 1)) = true; rw [hc9]; rfl)
theorem iX6_digest_102 {v0 : Value} {v1 : Value} {v2 : Value} {v3 : Value} {x : Int32} {Ls st : List Value} {h : AH} : ev L xs mdX6_digest 102 (v0 :: v1 :: v2 :: v3 :: .int x :: Ls) (st) h = ev L xs mdX6_digest 104 (v0 :: v1 :: v2 :: v3 :: .int x :: Ls) (.int x :: st) (h) := e_iload dX6_digest_102 rfl
theorem iX6_digest_104  {Ls st : List Value} {h : AH} : ev L xs mdX6_digest 104 (Ls) (st) h = ev L xs mdX6_digest 106 (Ls) (.int (nI 8) :: st) (h) := e_bipush dX6_digest_104 (by decide)
theorem iX6_digest_106 {x z : Int32} {Ls st : List Value} {h : AH} : ev L xs mdX6_digest 106 Ls (.int z :: .int x :: st) h = if z < x then ev L xs mdX6_digest 130 Ls st h else ev L xs mdX6_digest 109 Ls st h := e_ic_gt dX6_digest_106 (by decide)
theorem iX6_digest_109 {v0 : Value} {x : Int64} {Ls st : List Value} {h : AH} : ev L xs mdX6_digest 109 (v0 :: .long x :: Ls) (st) h = ev L xs mdX6_digest 110 (v0 :: .long x :: Ls) (.long x :: st) (h) := e_lload_n dX6_digest_109 rfl
theorem iX6_digest_110 {x : Nat} {Ls st : List Value} {h : AH} : ev L xs mdX6_digest 110 (.ref x :: Ls) (st) h = ev L xs mdX6_digest 111 (.ref x :: Ls) (.ref x :: st) (h) := e_aload_n dX6_digest_110 rfl
theorem iX6_digest_111 {a : Nat} {Ls st : List Value} {h : AH} (hk : hK h a = 6) (hj : (hR h 96 a).isSome = true) : ev L xs mdX6_digest 111 (Ls) (.ref a :: st) h = ev L xs mdX6_digest 114 (Ls) (.ref ((hR h 96 a).getD 0) :: st) (h) := e_getR (k := 6) (f := 0) (F := 96) dX6_digest_111 (by decide +kernel) rfl rfl hk hj
theorem iX6_digest_114 {v0 : Value} {v1 : Value} {v2 : Value} {x : Int32} {Ls st : List Value} {h : AH} : ev L xs mdX6_digest 114 (v0 :: v1 :: v2 :: .int x :: Ls) (st) h = ev L xs mdX6_digest 115 (v0 :: v1 :: v2 :: .int x :: Ls) (.int x :: st) (h) := e_iload_n dX6_digest_114 rfl
theorem iX6_digest_115 {v0 : Value} {v1 : Value} {v2 : Value} {v3 : Value} {x : Int32} {Ls st : List Value} {h : AH} : ev L xs mdX6_digest 115 (v0 :: v1 :: v2 :: v3 :: .int x :: Ls) (st) h = ev L xs mdX6_digest 117 (v0 :: v1 :: v2 :: v3 :: .int x :: Ls) (.int x :: st) (h) := e_iload dX6_digest_115 rfl
theorem iX6_digest_117 {a : Nat} {p0 : Int32} {p1 : Int32} {Ls st : List Value} {h : AH} (hk : hK h a = 5) (hw : wds st ≤ 8) : ev L xs mdX6_digest 117 Ls (.int p1 :: .int p0 :: .ref a :: st) h = kn L xs mdX6_digest 117 120 Ls st (ev L xs mdX5_aboutPost 0 [.ref a, .int p0, .int p1, .null] [] h) := e_callV (as := [.int p1, .int p0]) dX6_digest_117 mr_6_174 (by decide) (by decide) rfl (by simp [wds, Value.category]; decide) rfl (by decide) hk hw
theorem iX6_digest_120 {p0 : Int64} {p1 : Int32} {Ls st : List Value} {h : AH} (hw : wds st ≤ 8) : ev L xs mdX6_digest 120 Ls (.int p1 :: .long p0 :: st) h = kn L xs mdX6_digest 120 123 Ls st (ev L xs mdX6_mixed 0 [.long p0, .null, .int p1] [] h) := e_callS (as := [.int p1, .long p0]) dX6_digest_120 mr_6_285 (by decide) (by decide) rfl (by simp [wds, Value.category]; decide) rfl hw
theorem iX6_digest_123 {v0 : Value} {v1 : Value} {v2 : Value} {x : Int64} {Ls st : List Value} {h : AH} (hc9 : v0.category = 1) : ev L xs mdX6_digest 123 (v0 :: v1 :: v2 :: Ls) (.long x :: st) h = ev L xs mdX6_digest 124 (v0 :: .long x :: .null :: Ls) (st) (h) := e_lstore_n dX6_digest_123 rfl (by decide) (by unfold catOK; show (_ || (v0.category == 1)) = true; rw [hc9]; rfl)
theorem iX6_digest_124 {v0 : Value} {v1 : Value} {v2 : Value} {v3 : Value} {x : Int32} {Ls st : List Value} {h : AH} (hc9 : v3.category = 1) : ev L xs mdX6_digest 124 (v0 :: v1 :: v2 :: v3 :: .int x :: Ls) (st) h = ev L xs mdX6_digest 127 (v0 :: v1 :: v2 :: v3 :: .int (x + (nI 1)) :: Ls) (st) (h) := e_iinc dX6_digest_124 rfl rfl rfl (by decide) (by unfold catOK; show (_ || (v3.category == 1)) = true; rw [hc9]; rfl)
theorem iX6_digest_127  {Ls st : List Value} {h : AH} : ev L xs mdX6_digest 127 (Ls) (st) h = ev L xs mdX6_digest 102 (Ls) (st) (h) := e_goto dX6_digest_127 (by decide)
theorem iX6_digest_130 {v0 : Value} {v1 : Value} {v2 : Value} {x : Int32} {Ls st : List Value} {h : AH} (hc9 : v2.category = 1) : ev L xs mdX6_digest 130 (v0 :: v1 :: v2 :: .int x :: Ls) (st) h = ev L xs mdX6_digest 133 (v0 :: v1 :: v2 :: .int (x + (nI 1)) :: Ls) (st) (h) := e_iinc dX6_digest_130 rfl rfl rfl (by decide) (by unfold catOK; show (_ || (v2.category == 1)) = true; rw [hc9]; rfl)
theorem iX6_digest_133  {Ls st : List Value} {h : AH} : ev L xs mdX6_digest 133 (Ls) (st) h = ev L xs mdX6_digest 88 (Ls) (st) (h) := e_goto dX6_digest_133 (by decide)
theorem iX6_digest_136  {Ls st : List Value} {h : AH} : ev L xs mdX6_digest 136 (Ls) (st) h = ev L xs mdX6_digest 137 (Ls) (.int (nI 0) :: st) (h) := e_iconst dX6_digest_136 (by decide)
theorem iX6_digest_137 {v0 : Value} {v1 : Value} {v2 : Value} {v3 : Value} {x : Int32} {Ls st : List Value} {h : AH} (hc9 : v2.category = 1) : ev L xs mdX6_digest 137 (v0 :: v1 :: v2 :: v3 :: Ls) (.int x :: st) h = ev L xs mdX6_digest 138 (v0 :: v1 :: v2 :: .int x :: Ls) (st) (h) := e_istore_n dX6_digest_137 rfl (by decide) (by unfold catOK; show (_ || (v2.category == 1)) = true; rw [hc9]; rfl)
theorem iX6_digest_138 {v0 : Value} {v1 : Value} {v2 : Value} {x : Int32} {Ls st : List Value} {h : AH} : ev L xs mdX6_digest 138 (v0 :: v1 :: v2 :: .int x :: Ls) (st) h = ev L xs mdX6_digest 139 (v0 :: v1 :: v2 :: .int x :: Ls) (.int x :: st) (h) := e_iload_n dX6_digest_138 rfl
theorem iX6_digest_139 {x : Nat} {Ls st : List Value} {h : AH} : ev L xs mdX6_digest 139 (.ref x :: Ls) (st) h = ev L xs mdX6_digest 140 (.ref x :: Ls) (.ref x :: st) (h) := e_aload_n dX6_digest_139 rfl
theorem iX6_digest_140 {a : Nat} {Ls st : List Value} {h : AH} (hk : hK h a = 6) (hj : (hR h 96 a).isSome = true) : ev L xs mdX6_digest 140 (Ls) (.ref a :: st) h = ev L xs mdX6_digest 143 (Ls) (.ref ((hR h 96 a).getD 0) :: st) (h) := e_getR (k := 6) (f := 0) (F := 96) dX6_digest_140 (by decide +kernel) rfl rfl hk hj
theorem iX6_digest_143 {a : Nat} {Ls st : List Value} {h : AH} (hk : hK h a = 5) : ev L xs mdX6_digest 143 (Ls) (.ref a :: st) h = ev L xs mdX6_digest 146 (Ls) (.int (hI h 86 a) :: st) (h) := e_getI (k := 5) (f := 6) (F := 86) dX6_digest_143 (by decide +kernel) rfl rfl hk
theorem iX6_digest_146 {x z : Int32} {Ls st : List Value} {h : AH} : ev L xs mdX6_digest 146 Ls (.int z :: .int x :: st) h = if z ≤ x then ev L xs mdX6_digest 197 Ls st h else ev L xs mdX6_digest 149 Ls st h := e_ic_ge dX6_digest_146 (by decide)
theorem iX6_digest_149  {Ls st : List Value} {h : AH} : ev L xs mdX6_digest 149 (Ls) (st) h = ev L xs mdX6_digest 150 (Ls) (.int (nI 0) :: st) (h) := e_iconst dX6_digest_149 (by decide)
theorem iX6_digest_150 {v0 : Value} {v1 : Value} {v2 : Value} {v3 : Value} {v4 : Value} {x : Int32} {Ls st : List Value} {h : AH} (hc9 : v3.category = 1) : ev L xs mdX6_digest 150 (v0 :: v1 :: v2 :: v3 :: v4 :: Ls) (.int x :: st) h = ev L xs mdX6_digest 152 (v0 :: v1 :: v2 :: v3 :: .int x :: Ls) (st) (h) := e_istore dX6_digest_150 rfl (by decide) (by unfold catOK; show (_ || (v3.category == 1)) = true; rw [hc9]; rfl)
theorem iX6_digest_152 {v0 : Value} {v1 : Value} {v2 : Value} {v3 : Value} {x : Int32} {Ls st : List Value} {h : AH} : ev L xs mdX6_digest 152 (v0 :: v1 :: v2 :: v3 :: .int x :: Ls) (st) h = ev L xs mdX6_digest 154 (v0 :: v1 :: v2 :: v3 :: .int x :: Ls) (.int x :: st) (h) := e_iload dX6_digest_152 rfl
theorem iX6_digest_154  {Ls st : List Value} {h : AH} : ev L xs mdX6_digest 154 (Ls) (st) h = ev L xs mdX6_digest 156 (Ls) (.int (nI 10) :: st) (h) := e_bipush dX6_digest_154 (by decide)
theorem iX6_digest_156 {x z : Int32} {Ls st : List Value} {h : AH} : ev L xs mdX6_digest 156 Ls (.int z :: .int x :: st) h = if z < x then ev L xs mdX6_digest 191 Ls st h else ev L xs mdX6_digest 159 Ls st h := e_ic_gt dX6_digest_156 (by decide)
theorem iX6_digest_159 {v0 : Value} {x : Int64} {Ls st : List Value} {h : AH} : ev L xs mdX6_digest 159 (v0 :: .long x :: Ls) (st) h = ev L xs mdX6_digest 160 (v0 :: .long x :: Ls) (.long x :: st) (h) := e_lload_n dX6_digest_159 rfl
theorem iX6_digest_160 {x : Nat} {Ls st : List Value} {h : AH} : ev L xs mdX6_digest 160 (.ref x :: Ls) (st) h = ev L xs mdX6_digest 161 (.ref x :: Ls) (.ref x :: st) (h) := e_aload_n dX6_digest_160 rfl
theorem iX6_digest_161 {a : Nat} {Ls st : List Value} {h : AH} (hk : hK h a = 6) (hj : (hR h 96 a).isSome = true) : ev L xs mdX6_digest 161 (Ls) (.ref a :: st) h = ev L xs mdX6_digest 164 (Ls) (.ref ((hR h 96 a).getD 0) :: st) (h) := e_getR (k := 6) (f := 0) (F := 96) dX6_digest_161 (by decide +kernel) rfl rfl hk hj
theorem iX6_digest_164 {a : Nat} {Ls st : List Value} {h : AH} (hk : hK h a = 5) (hj : (hR h 85 a).isSome = true) : ev L xs mdX6_digest 164 (Ls) (.ref a :: st) h = ev L xs mdX6_digest 167 (Ls) (.ref ((hR h 85 a).getD 0) :: st) (h) := e_getR (k := 5) (f := 5) (F := 85) dX6_digest_164 (by decide +kernel) rfl rfl hk hj
theorem iX6_digest_167 {v0 : Value} {v1 : Value} {v2 : Value} {x : Int32} {Ls st : List Value} {h : AH} : ev L xs mdX6_digest 167 (v0 :: v1 :: v2 :: .int x :: Ls) (st) h = ev L xs mdX6_digest 168 (v0 :: v1 :: v2 :: .int x :: Ls) (.int x :: st) (h) := e_iload_n dX6_digest_167 rfl
theorem iX6_digest_168 {a : Nat} {j : Int32} {Ls st : List Value} {h : AH} (hk : hK h a = 9 ∨ hK h a = 10 ∨ hK h a = 11) (hi : inA j (hN h a) = true) (hq : (hQ h a j.toNatClampNeg).isSome = true) : ev L xs mdX6_digest 168 (Ls) (.int j :: .ref a :: st) h = ev L xs mdX6_digest 169 (Ls) (.ref ((hQ h a j.toNatClampNeg).getD 0) :: st) (h) := e_aald dX6_digest_168 hk hi hq
theorem iX6_digest_169 {v0 : Value} {v1 : Value} {v2 : Value} {v3 : Value} {x : Int32} {Ls st : List Value} {h : AH} : ev L xs mdX6_digest 169 (v0 :: v1 :: v2 :: v3 :: .int x :: Ls) (st) h = ev L xs mdX6_digest 171 (v0 :: v1 :: v2 :: v3 :: .int x :: Ls) (.int x :: st) (h) := e_iload dX6_digest_169 rfl
theorem iX6_digest_171 {x : Nat} {Ls st : List Value} {h : AH} : ev L xs mdX6_digest 171 (.ref x :: Ls) (st) h = ev L xs mdX6_digest 172 (.ref x :: Ls) (.ref x :: st) (h) := e_aload_n dX6_digest_171 rfl
theorem iX6_digest_172 {a : Nat} {Ls st : List Value} {h : AH} (hk : hK h a = 6) (hj : (hR h 96 a).isSome = true) : ev L xs mdX6_digest 172 (Ls) (.ref a :: st) h = ev L xs mdX6_digest 175 (Ls) (.ref ((hR h 96 a).getD 0) :: st) (h) := e_getR (k := 6) (f := 0) (F := 96) dX6_digest_172 (by decide +kernel) rfl rfl hk hj
theorem iX6_digest_175 {a : Nat} {Ls st : List Value} {h : AH} (hk : hK h a = 5) (hw : wds st ≤ 8) : ev L xs mdX6_digest 175 Ls (.ref a :: st) h = kn L xs mdX6_digest 175 178 Ls st (ev L xs mdX5_nextDay 0 [.ref a] [] h) := e_callV (as := []) dX6_digest_175 mr_6_153 (by decide) (by decide) rfl (by simp [wds, Value.category]; decide) rfl (by decide) hk hw
theorem iX6_digest_178 {a : Nat} {p0 : Int32} {p1 : Int32} {Ls st : List Value} {h : AH} (hk : hK h a = 0) (hw : wds st ≤ 8) : ev L xs mdX6_digest 178 Ls (.int p1 :: .int p0 :: .ref a :: st) h = kn L xs mdX6_digest 178 181 Ls st (ev L xs mdX0_about 0 [.ref a, .int p0, .int p1] [] h) := e_callV (as := [.int p1, .int p0]) dX6_digest_178 mr_6_177 (by decide) (by decide) rfl (by simp [wds, Value.category]; decide) rfl (by decide) hk hw
theorem iX6_digest_181 {p0 : Int64} {p1 : Int32} {Ls st : List Value} {h : AH} (hw : wds st ≤ 8) : ev L xs mdX6_digest 181 Ls (.int p1 :: .long p0 :: st) h = kn L xs mdX6_digest 181 184 Ls st (ev L xs mdX6_mixed 0 [.long p0, .null, .int p1] [] h) := e_callS (as := [.int p1, .long p0]) dX6_digest_181 mr_6_285 (by decide) (by decide) rfl (by simp [wds, Value.category]; decide) rfl hw
theorem iX6_digest_184 {v0 : Value} {v1 : Value} {v2 : Value} {x : Int64} {Ls st : List Value} {h : AH} (hc9 : v0.category = 1) : ev L xs mdX6_digest 184 (v0 :: v1 :: v2 :: Ls) (.long x :: st) h = ev L xs mdX6_digest 185 (v0 :: .long x :: .null :: Ls) (st) (h) := e_lstore_n dX6_digest_184 rfl (by decide) (by unfold catOK; show (_ || (v0.category == 1)) = true; rw [hc9]; rfl)
theorem iX6_digest_185 {v0 : Value} {v1 : Value} {v2 : Value} {v3 : Value} {x : Int32} {Ls st : List Value} {h : AH} (hc9 : v3.category = 1) : ev L xs mdX6_digest 185 (v0 :: v1 :: v2 :: v3 :: .int x :: Ls) (st) h = ev L xs mdX6_digest 188 (v0 :: v1 :: v2 :: v3 :: .int (x + (nI 1)) :: Ls) (st) (h) := e_iinc dX6_digest_185 rfl rfl rfl (by decide) (by unfold catOK; show (_ || (v3.category == 1)) = true; rw [hc9]; rfl)
theorem iX6_digest_188  {Ls st : List Value} {h : AH} : ev L xs mdX6_digest 188 (Ls) (st) h = ev L xs mdX6_digest 152 (Ls) (st) (h) := e_goto dX6_digest_188 (by decide)
theorem iX6_digest_191 {v0 : Value} {v1 : Value} {v2 : Value} {x : Int32} {Ls st : List Value} {h : AH} (hc9 : v2.category = 1) : ev L xs mdX6_digest 191 (v0 :: v1 :: v2 :: .int x :: Ls) (st) h = ev L xs mdX6_digest 194 (v0 :: v1 :: v2 :: .int (x + (nI 1)) :: Ls) (st) (h) := e_iinc dX6_digest_191 rfl rfl rfl (by decide) (by unfold catOK; show (_ || (v2.category == 1)) = true; rw [hc9]; rfl)
theorem iX6_digest_194  {Ls st : List Value} {h : AH} : ev L xs mdX6_digest 194 (Ls) (st) h = ev L xs mdX6_digest 138 (Ls) (st) (h) := e_goto dX6_digest_194 (by decide)
theorem iX6_digest_197 {v0 : Value} {x : Int64} {Ls st : List Value} {h : AH} : ev L xs mdX6_digest 197 (v0 :: .long x :: Ls) (st) h = ev L xs mdX6_digest 198 (v0 :: .long x :: Ls) (.long x :: st) (h) := e_lload_n dX6_digest_197 rfl
theorem iX6_digest_198 {x : Nat} {Ls st : List Value} {h : AH} : ev L xs mdX6_digest 198 (.ref x :: Ls) (st) h = ev L xs mdX6_digest 199 (.ref x :: Ls) (.ref x :: st) (h) := e_aload_n dX6_digest_198 rfl
theorem iX6_digest_199 {a : Nat} {Ls st : List Value} {h : AH} (hk : hK h a = 6) : ev L xs mdX6_digest 199 (Ls) (.ref a :: st) h = ev L xs mdX6_digest 202 (Ls) (.int (hI h 99 a) :: st) (h) := e_getI (k := 6) (f := 3) (F := 99) dX6_digest_199 (by decide +kernel) rfl rfl hk
theorem iX6_digest_202 {p0 : Int64} {p1 : Int32} {Ls st : List Value} {h : AH} (hw : wds st ≤ 8) : ev L xs mdX6_digest 202 Ls (.int p1 :: .long p0 :: st) h = kn L xs mdX6_digest 202 205 Ls st (ev L xs mdX6_mixed 0 [.long p0, .null, .int p1] [] h) := e_callS (as := [.int p1, .long p0]) dX6_digest_202 mr_6_285 (by decide) (by decide) rfl (by simp [wds, Value.category]; decide) rfl hw
theorem iX6_digest_205 {v : Int64} {Ls : List Value} {h : AH} : ev L xs mdX6_digest 205 Ls [.long v] h = some (.inl (some (.long v), h)) := e_lret dX6_digest_205 rfl
theorem dX6_filled_0 : decode cX6_filled 0 = .ok (.aload_n 0, 1) := by decide +kernel
theorem dX6_filled_1 : decode cX6_filled 1 = .ok (.getfield 12, 3) := by decide +kernel
theorem dX6_filled_4 : decode cX6_filled 4 = .ok (.getfield 249, 3) := by decide +kernel
theorem dX6_filled_7 : decode cX6_filled 7 = .ok (.istore_n 1, 1) := by decide +kernel
theorem dX6_filled_8 : decode cX6_filled 8 = .ok (.iload_n 1, 1) := by decide +kernel
theorem dX6_filled_9 : decode cX6_filled 9 = .ok (.ifCond .gt 5, 3) := by decide +kernel
theorem dX6_filled_12 : decode cX6_filled 12 = .ok (.dconst 1, 1) := by decide +kernel
theorem dX6_filled_13 : decode cX6_filled 13 = .ok (.dreturn, 1) := by decide +kernel
theorem dX6_filled_14 : decode cX6_filled 14 = .ok (.iload_n 1, 1) := by decide +kernel
theorem dX6_filled_15 : decode cX6_filled 15 = .ok (.aload_n 0, 1) := by decide +kernel
theorem dX6_filled_16 : decode cX6_filled 16 = .ok (.getfield 12, 3) := by decide +kernel
theorem dX6_filled_19 : decode cX6_filled 19 = .ok (.invokevirtual 252, 3) := by decide +kernel
theorem dX6_filled_22 : decode cX6_filled 22 = .ok (.isub, 1) := by decide +kernel
theorem dX6_filled_23 : decode cX6_filled 23 = .ok (.i2d, 1) := by decide +kernel
theorem dX6_filled_24 : decode cX6_filled 24 = .ok (.iload_n 1, 1) := by decide +kernel
theorem dX6_filled_25 : decode cX6_filled 25 = .ok (.i2d, 1) := by decide +kernel
theorem dX6_filled_26 : decode cX6_filled 26 = .ok (.ddiv, 1) := by decide +kernel
theorem dX6_filled_27 : decode cX6_filled 27 = .ok (.dreturn, 1) := by decide +kernel
theorem iX6_filled_0 {x : Nat} {Ls st : List Value} {h : AH} : ev L xs mdX6_filled 0 (.ref x :: Ls) (st) h = ev L xs mdX6_filled 1 (.ref x :: Ls) (.ref x :: st) (h) := e_aload_n dX6_filled_0 rfl
theorem iX6_filled_1 {a : Nat} {Ls st : List Value} {h : AH} (hk : hK h a = 6) (hj : (hR h 96 a).isSome = true) : ev L xs mdX6_filled 1 (Ls) (.ref a :: st) h = ev L xs mdX6_filled 4 (Ls) (.ref ((hR h 96 a).getD 0) :: st) (h) := e_getR (k := 6) (f := 0) (F := 96) dX6_filled_1 (by decide +kernel) rfl rfl hk hj
theorem iX6_filled_4 {a : Nat} {Ls st : List Value} {h : AH} (hk : hK h a = 5) : ev L xs mdX6_filled 4 (Ls) (.ref a :: st) h = ev L xs mdX6_filled 7 (Ls) (.int (hI h 89 a) :: st) (h) := e_getI (k := 5) (f := 9) (F := 89) dX6_filled_4 (by decide +kernel) rfl rfl hk
theorem iX6_filled_7 {v0 : Value} {v1 : Value} {x : Int32} {Ls st : List Value} {h : AH} (hc9 : v0.category = 1) : ev L xs mdX6_filled 7 (v0 :: v1 :: Ls) (.int x :: st) h = ev L xs mdX6_filled 8 (v0 :: .int x :: Ls) (st) (h) := e_istore_n dX6_filled_7 rfl (by decide) (by unfold catOK; show (_ || (v0.category == 1)) = true; rw [hc9]; rfl)
theorem iX6_filled_8 {v0 : Value} {x : Int32} {Ls st : List Value} {h : AH} : ev L xs mdX6_filled 8 (v0 :: .int x :: Ls) (st) h = ev L xs mdX6_filled 9 (v0 :: .int x :: Ls) (.int x :: st) (h) := e_iload_n dX6_filled_8 rfl
theorem iX6_filled_9 {x : Int32} {Ls st : List Value} {h : AH} : ev L xs mdX6_filled 9 Ls (.int x :: st) h = if nI 0 < x then ev L xs mdX6_filled 14 Ls st h else ev L xs mdX6_filled 12 Ls st h := e_if_gt dX6_filled_9 (by decide)
theorem iX6_filled_12  {Ls st : List Value} {h : AH} : ev L xs mdX6_filled 12 (Ls) (st) h = ev L xs mdX6_filled 13 (Ls) (.double FP.dconst1 :: st) (h) := e_dconst1 dX6_filled_12
theorem iX6_filled_13 {v : UInt64} {Ls : List Value} {h : AH} : ev L xs mdX6_filled 13 Ls [.double v] h = some (.inl (some (.double v), h)) := e_dret dX6_filled_13 rfl
theorem iX6_filled_14 {v0 : Value} {x : Int32} {Ls st : List Value} {h : AH} : ev L xs mdX6_filled 14 (v0 :: .int x :: Ls) (st) h = ev L xs mdX6_filled 15 (v0 :: .int x :: Ls) (.int x :: st) (h) := e_iload_n dX6_filled_14 rfl
theorem iX6_filled_15 {x : Nat} {Ls st : List Value} {h : AH} : ev L xs mdX6_filled 15 (.ref x :: Ls) (st) h = ev L xs mdX6_filled 16 (.ref x :: Ls) (.ref x :: st) (h) := e_aload_n dX6_filled_15 rfl
theorem iX6_filled_16 {a : Nat} {Ls st : List Value} {h : AH} (hk : hK h a = 6) (hj : (hR h 96 a).isSome = true) : ev L xs mdX6_filled 16 (Ls) (.ref a :: st) h = ev L xs mdX6_filled 19 (Ls) (.ref ((hR h 96 a).getD 0) :: st) (h) := e_getR (k := 6) (f := 0) (F := 96) dX6_filled_16 (by decide +kernel) rfl rfl hk hj
theorem iX6_filled_19 {a : Nat} {Ls st : List Value} {h : AH} (hk : hK h a = 5) (hw : wds st ≤ 8) : ev L xs mdX6_filled 19 Ls (.ref a :: st) h = kn L xs mdX6_filled 19 22 Ls st (ev L xs mdX5_timesOpen 0 [.ref a, .null, .null] [] h) := e_callV (as := []) dX6_filled_19 mr_6_252 (by decide) (by decide) rfl (by simp [wds, Value.category]; decide) rfl (by decide) hk hw
theorem iX6_filled_22 {x z : Int32} {Ls st : List Value} {h : AH} : ev L xs mdX6_filled 22 (Ls) (.int z :: .int x :: st) h = ev L xs mdX6_filled 23 (Ls) (.int (x - z) :: st) (h) := e_isub dX6_filled_22
theorem iX6_filled_23 {x : Int32} {Ls st : List Value} {h : AH} : ev L xs mdX6_filled 23 (Ls) (.int x :: st) h = ev L xs mdX6_filled 24 (Ls) (.double (FP.i2d x) :: st) (h) := e_i2d dX6_filled_23
theorem iX6_filled_24 {v0 : Value} {x : Int32} {Ls st : List Value} {h : AH} : ev L xs mdX6_filled 24 (v0 :: .int x :: Ls) (st) h = ev L xs mdX6_filled 25 (v0 :: .int x :: Ls) (.int x :: st) (h) := e_iload_n dX6_filled_24 rfl
theorem iX6_filled_25 {x : Int32} {Ls st : List Value} {h : AH} : ev L xs mdX6_filled 25 (Ls) (.int x :: st) h = ev L xs mdX6_filled 26 (Ls) (.double (FP.i2d x) :: st) (h) := e_i2d dX6_filled_25
theorem iX6_filled_26 {x z : UInt64} {Ls st : List Value} {h : AH} (hv : FP.ddiv x z &&& 0x7fffffffffffffff ≤ 0x7ff0000000000000) : ev L xs mdX6_filled 26 (Ls) (.double z :: .double x :: st) h = ev L xs mdX6_filled 27 (Ls) (.double (FP.ddiv x z) :: st) (h) := e_ddiv dX6_filled_26 hv
theorem iX6_filled_27 {v : UInt64} {Ls : List Value} {h : AH} : ev L xs mdX6_filled 27 Ls [.double v] h = some (.inl (some (.double v), h)) := e_dret dX6_filled_27 rfl
theorem dX6_guard_0 : decode cX6_guard 0 = .ok (.aload_n 0, 1) := by decide +kernel
theorem dX6_guard_1 : decode cX6_guard 1 = .ok (.getfield 12, 3) := by decide +kernel
theorem dX6_guard_4 : decode cX6_guard 4 = .ok (.iload_n 1, 1) := by decide +kernel
theorem dX6_guard_5 : decode cX6_guard 5 = .ok (.invokevirtual 124, 3) := by decide +kernel
theorem dX6_guard_8 : decode cX6_guard 8 = .ok (.ifCond .ne 13, 3) := by decide +kernel
theorem dX6_guard_11 : decode cX6_guard 11 = .ok (.new 91, 3) := by decide +kernel
theorem dX6_guard_14 : decode cX6_guard 14 = .ok (.dup, 1) := by decide +kernel
theorem dX6_guard_15 : decode cX6_guard 15 = .ok (.ldc 138, 2) := by decide +kernel
theorem dX6_guard_17 : decode cX6_guard 17 = .ok (.invokespecial 95, 3) := by decide +kernel
theorem dX6_guard_20 : decode cX6_guard 20 = .ok (.athrow, 1) := by decide +kernel
theorem dX6_guard_21 : decode cX6_guard 21 = .ok (.iload_n 2, 1) := by decide +kernel
theorem dX6_guard_22 : decode cX6_guard 22 = .ok (.iconst 0, 1) := by decide +kernel
theorem dX6_guard_23 : decode cX6_guard 23 = .ok (.bipush 10, 2) := by decide +kernel
theorem dX6_guard_25 : decode cX6_guard 25 = .ok (.invokestatic 48, 3) := by decide +kernel
theorem dX6_guard_28 : decode cX6_guard 28 = .ok (.ifCond .ne 13, 3) := by decide +kernel
theorem dX6_guard_31 : decode cX6_guard 31 = .ok (.new 52, 3) := by decide +kernel
theorem dX6_guard_34 : decode cX6_guard 34 = .ok (.dup, 1) := by decide +kernel
theorem dX6_guard_35 : decode cX6_guard 35 = .ok (.ldc 172, 2) := by decide +kernel
theorem dX6_guard_37 : decode cX6_guard 37 = .ok (.invokespecial 56, 3) := by decide +kernel
theorem dX6_guard_40 : decode cX6_guard 40 = .ok (.athrow, 1) := by decide +kernel
theorem dX6_guard_41 : decode cX6_guard 41 = .ok (.aload_n 0, 1) := by decide +kernel
theorem dX6_guard_42 : decode cX6_guard 42 = .ok (.getfield 12, 3) := by decide +kernel
theorem dX6_guard_45 : decode cX6_guard 45 = .ok (.getfield 129, 3) := by decide +kernel
theorem dX6_guard_48 : decode cX6_guard 48 = .ok (.iload_n 1, 1) := by decide +kernel
theorem dX6_guard_49 : decode cX6_guard 49 = .ok (.aaload, 1) := by decide +kernel
theorem dX6_guard_50 : decode cX6_guard 50 = .ok (.iload_n 2, 1) := by decide +kernel
theorem dX6_guard_51 : decode cX6_guard 51 = .ok (.aload_n 0, 1) := by decide +kernel
theorem dX6_guard_52 : decode cX6_guard 52 = .ok (.getfield 12, 3) := by decide +kernel
theorem dX6_guard_55 : decode cX6_guard 55 = .ok (.invokevirtual 153, 3) := by decide +kernel
theorem dX6_guard_58 : decode cX6_guard 58 = .ok (.invokevirtual 177, 3) := by decide +kernel
theorem dX6_guard_61 : decode cX6_guard 61 = .ok (.ireturn, 1) := by decide +kernel
theorem iX6_guard_0 {x : Nat} {Ls st : List Value} {h : AH} : ev L xs mdX6_guard 0 (.ref x :: Ls) (st) h = ev L xs mdX6_guard 1 (.ref x :: Ls) (.ref x :: st) (h) := e_aload_n dX6_guard_0 rfl
theorem iX6_guard_1 {a : Nat} {Ls st : List Value} {h : AH} (hk : hK h a = 6) (hj : (hR h 96 a).isSome = true) : ev L xs mdX6_guard 1 (Ls) (.ref a :: st) h = ev L xs mdX6_guard 4 (Ls) (.ref ((hR h 96 a).getD 0) :: st) (h) := e_getR (k := 6) (f := 0) (F := 96) dX6_guard_1 (by decide +kernel) rfl rfl hk hj
theorem iX6_guard_4 {v0 : Value} {x : Int32} {Ls st : List Value} {h : AH} : ev L xs mdX6_guard 4 (v0 :: .int x :: Ls) (st) h = ev L xs mdX6_guard 5 (v0 :: .int x :: Ls) (.int x :: st) (h) := e_iload_n dX6_guard_4 rfl
theorem iX6_guard_5 {a : Nat} {p0 : Int32} {Ls st : List Value} {h : AH} (hk : hK h a = 5) (hw : wds st ≤ 8) : ev L xs mdX6_guard 5 Ls (.int p0 :: .ref a :: st) h = kn L xs mdX6_guard 5 8 Ls st (ev L xs mdX5_hasGuard 0 [.ref a, .int p0] [] h) := e_callV (as := [.int p0]) dX6_guard_5 mr_6_124 (by decide) (by decide) rfl (by simp [wds, Value.category]; decide) rfl (by decide) hk hw
theorem iX6_guard_8 {x : Int32} {Ls st : List Value} {h : AH} : ev L xs mdX6_guard 8 Ls (.int x :: st) h = if x = nI 0 then ev L xs mdX6_guard 11 Ls st h else ev L xs mdX6_guard 21 Ls st h := e_if_ne dX6_guard_8 (by decide)
theorem iX6_guard_11 {Ls : List Value} {h : AH} : ev L xs mdX6_guard 11 Ls [] h = some (.inr ("java/lang/IndexOutOfBoundsException", bump h)) := e_throw dX6_guard_11 (by decide +kernel) dX6_guard_14 dX6_guard_15 dX6_guard_17 dX6_guard_20 (by decide +kernel) (by decide +kernel)
theorem iX6_guard_21 {v0 : Value} {v1 : Value} {x : Int32} {Ls st : List Value} {h : AH} : ev L xs mdX6_guard 21 (v0 :: v1 :: .int x :: Ls) (st) h = ev L xs mdX6_guard 22 (v0 :: v1 :: .int x :: Ls) (.int x :: st) (h) := e_iload_n dX6_guard_21 rfl
theorem iX6_guard_22  {Ls st : List Value} {h : AH} : ev L xs mdX6_guard 22 (Ls) (st) h = ev L xs mdX6_guard 23 (Ls) (.int (nI 0) :: st) (h) := e_iconst dX6_guard_22 (by decide)
theorem iX6_guard_23  {Ls st : List Value} {h : AH} : ev L xs mdX6_guard 23 (Ls) (st) h = ev L xs mdX6_guard 25 (Ls) (.int (nI 10) :: st) (h) := e_bipush dX6_guard_23 (by decide)
theorem iX6_guard_25 {p0 : Int32} {p1 : Int32} {p2 : Int32} {Ls st : List Value} {h : AH} (hw : wds st ≤ 8) : ev L xs mdX6_guard 25 Ls (.int p2 :: .int p1 :: .int p0 :: st) h = kn L xs mdX6_guard 25 28 Ls st (ev L xs mdX6_isWithin 0 [.int p0, .int p1, .int p2] [] h) := e_callS (as := [.int p2, .int p1, .int p0]) dX6_guard_25 mr_6_48 (by decide) (by decide) rfl (by simp [wds, Value.category]; decide) rfl hw
theorem iX6_guard_28 {x : Int32} {Ls st : List Value} {h : AH} : ev L xs mdX6_guard 28 Ls (.int x :: st) h = if x = nI 0 then ev L xs mdX6_guard 31 Ls st h else ev L xs mdX6_guard 41 Ls st h := e_if_ne dX6_guard_28 (by decide)
theorem iX6_guard_31 {Ls : List Value} {h : AH} : ev L xs mdX6_guard 31 Ls [] h = some (.inr ("java/lang/IllegalArgumentException", bump h)) := e_throw dX6_guard_31 (by decide +kernel) dX6_guard_34 dX6_guard_35 dX6_guard_37 dX6_guard_40 (by decide +kernel) (by decide +kernel)
theorem iX6_guard_41 {x : Nat} {Ls st : List Value} {h : AH} : ev L xs mdX6_guard 41 (.ref x :: Ls) (st) h = ev L xs mdX6_guard 42 (.ref x :: Ls) (.ref x :: st) (h) := e_aload_n dX6_guard_41 rfl
theorem iX6_guard_42 {a : Nat} {Ls st : List Value} {h : AH} (hk : hK h a = 6) (hj : (hR h 96 a).isSome = true) : ev L xs mdX6_guard 42 (Ls) (.ref a :: st) h = ev L xs mdX6_guard 45 (Ls) (.ref ((hR h 96 a).getD 0) :: st) (h) := e_getR (k := 6) (f := 0) (F := 96) dX6_guard_42 (by decide +kernel) rfl rfl hk hj
theorem iX6_guard_45 {a : Nat} {Ls st : List Value} {h : AH} (hk : hK h a = 5) (hj : (hR h 85 a).isSome = true) : ev L xs mdX6_guard 45 (Ls) (.ref a :: st) h = ev L xs mdX6_guard 48 (Ls) (.ref ((hR h 85 a).getD 0) :: st) (h) := e_getR (k := 5) (f := 5) (F := 85) dX6_guard_45 (by decide +kernel) rfl rfl hk hj
theorem iX6_guard_48 {v0 : Value} {x : Int32} {Ls st : List Value} {h : AH} : ev L xs mdX6_guard 48 (v0 :: .int x :: Ls) (st) h = ev L xs mdX6_guard 49 (v0 :: .int x :: Ls) (.int x :: st) (h) := e_iload_n dX6_guard_48 rfl
theorem iX6_guard_49 {a : Nat} {j : Int32} {Ls st : List Value} {h : AH} (hk : hK h a = 9 ∨ hK h a = 10 ∨ hK h a = 11) (hi : inA j (hN h a) = true) (hq : (hQ h a j.toNatClampNeg).isSome = true) : ev L xs mdX6_guard 49 (Ls) (.int j :: .ref a :: st) h = ev L xs mdX6_guard 50 (Ls) (.ref ((hQ h a j.toNatClampNeg).getD 0) :: st) (h) := e_aald dX6_guard_49 hk hi hq
theorem iX6_guard_50 {v0 : Value} {v1 : Value} {x : Int32} {Ls st : List Value} {h : AH} : ev L xs mdX6_guard 50 (v0 :: v1 :: .int x :: Ls) (st) h = ev L xs mdX6_guard 51 (v0 :: v1 :: .int x :: Ls) (.int x :: st) (h) := e_iload_n dX6_guard_50 rfl
theorem iX6_guard_51 {x : Nat} {Ls st : List Value} {h : AH} : ev L xs mdX6_guard 51 (.ref x :: Ls) (st) h = ev L xs mdX6_guard 52 (.ref x :: Ls) (.ref x :: st) (h) := e_aload_n dX6_guard_51 rfl
theorem iX6_guard_52 {a : Nat} {Ls st : List Value} {h : AH} (hk : hK h a = 6) (hj : (hR h 96 a).isSome = true) : ev L xs mdX6_guard 52 (Ls) (.ref a :: st) h = ev L xs mdX6_guard 55 (Ls) (.ref ((hR h 96 a).getD 0) :: st) (h) := e_getR (k := 6) (f := 0) (F := 96) dX6_guard_52 (by decide +kernel) rfl rfl hk hj
theorem iX6_guard_55 {a : Nat} {Ls st : List Value} {h : AH} (hk : hK h a = 5) (hw : wds st ≤ 8) : ev L xs mdX6_guard 55 Ls (.ref a :: st) h = kn L xs mdX6_guard 55 58 Ls st (ev L xs mdX5_nextDay 0 [.ref a] [] h) := e_callV (as := []) dX6_guard_55 mr_6_153 (by decide) (by decide) rfl (by simp [wds, Value.category]; decide) rfl (by decide) hk hw
theorem iX6_guard_58 {a : Nat} {p0 : Int32} {p1 : Int32} {Ls st : List Value} {h : AH} (hk : hK h a = 0) (hw : wds st ≤ 8) : ev L xs mdX6_guard 58 Ls (.int p1 :: .int p0 :: .ref a :: st) h = kn L xs mdX6_guard 58 61 Ls st (ev L xs mdX0_about 0 [.ref a, .int p0, .int p1] [] h) := e_callV (as := [.int p1, .int p0]) dX6_guard_58 mr_6_177 (by decide) (by decide) rfl (by simp [wds, Value.category]; decide) rfl (by decide) hk hw
theorem iX6_guard_61 {v : Int32} {Ls : List Value} {h : AH} : ev L xs mdX6_guard 61 Ls [.int v] h = some (.inl (some (.int v), h)) := e_iret dX6_guard_61 rfl
theorem dX6_init_0 : decode cX6_init 0 = .ok (.aload_n 0, 1) := by decide +kernel
theorem dX6_init_1 : decode cX6_init 1 = .ok (.invokespecial 3, 3) := by decide +kernel
theorem dX6_init_4 : decode cX6_init 4 = .ok (.aload_n 0, 1) := by decide +kernel
theorem dX6_init_5 : decode cX6_init 5 = .ok (.new 9, 3) := by decide +kernel
theorem dX6_init_8 : decode cX6_init 8 = .ok (.dup, 1) := by decide +kernel
theorem dX6_init_9 : decode cX6_init 9 = .ok (.invokespecial 11, 3) := by decide +kernel
theorem dX6_init_12 : decode cX6_init 12 = .ok (.putfield 12, 3) := by decide +kernel
theorem dX6_init_15 : decode cX6_init 15 = .ok (.aload_n 0, 1) := by decide +kernel
theorem dX6_init_16 : decode cX6_init 16 = .ok (.new 9, 3) := by decide +kernel
theorem dX6_init_19 : decode cX6_init 19 = .ok (.dup, 1) := by decide +kernel
theorem dX6_init_20 : decode cX6_init 20 = .ok (.invokespecial 11, 3) := by decide +kernel
theorem dX6_init_23 : decode cX6_init 23 = .ok (.putfield 16, 3) := by decide +kernel
theorem dX6_init_26 : decode cX6_init 26 = .ok (.aload_n 0, 1) := by decide +kernel
theorem dX6_init_27 : decode cX6_init 27 = .ok (.iconst 4, 1) := by decide +kernel
theorem dX6_init_28 : decode cX6_init 28 = .ok (.anewarray 9, 3) := by decide +kernel
theorem dX6_init_31 : decode cX6_init 31 = .ok (.putfield 19, 3) := by decide +kernel
theorem dX6_init_34 : decode cX6_init 34 = .ok (.aload_n 0, 1) := by decide +kernel
theorem dX6_init_35 : decode cX6_init 35 = .ok (.new 23, 3) := by decide +kernel
theorem dX6_init_38 : decode cX6_init 38 = .ok (.dup, 1) := by decide +kernel
theorem dX6_init_39 : decode cX6_init 39 = .ok (.invokespecial 25, 3) := by decide +kernel
theorem dX6_init_42 : decode cX6_init 42 = .ok (.putfield 26, 3) := by decide +kernel
theorem dX6_init_45 : decode cX6_init 45 = .ok (.aload_n 0, 1) := by decide +kernel
theorem dX6_init_46 : decode cX6_init 46 = .ok (.new 30, 3) := by decide +kernel
theorem dX6_init_49 : decode cX6_init 49 = .ok (.dup, 1) := by decide +kernel
theorem dX6_init_50 : decode cX6_init 50 = .ok (.invokespecial 32, 3) := by decide +kernel
theorem dX6_init_53 : decode cX6_init 53 = .ok (.putfield 33, 3) := by decide +kernel
theorem dX6_init_56 : decode cX6_init 56 = .ok (.aload_n 0, 1) := by decide +kernel
theorem dX6_init_57 : decode cX6_init 57 = .ok (.new 37, 3) := by decide +kernel
theorem dX6_init_60 : decode cX6_init 60 = .ok (.dup, 1) := by decide +kernel
theorem dX6_init_61 : decode cX6_init 61 = .ok (.invokespecial 39, 3) := by decide +kernel
theorem dX6_init_64 : decode cX6_init 64 = .ok (.putfield 40, 3) := by decide +kernel
theorem dX6_init_67 : decode cX6_init 67 = .ok (.iconst 0, 1) := by decide +kernel
theorem dX6_init_68 : decode cX6_init 68 = .ok (.istore_n 1, 1) := by decide +kernel
theorem dX6_init_69 : decode cX6_init 69 = .ok (.iload_n 1, 1) := by decide +kernel
theorem dX6_init_70 : decode cX6_init 70 = .ok (.iconst 4, 1) := by decide +kernel
theorem dX6_init_71 : decode cX6_init 71 = .ok (.if_icmp .ge 22, 3) := by decide +kernel
theorem dX6_init_74 : decode cX6_init 74 = .ok (.aload_n 0, 1) := by decide +kernel
theorem dX6_init_75 : decode cX6_init 75 = .ok (.getfield 19, 3) := by decide +kernel
theorem dX6_init_78 : decode cX6_init 78 = .ok (.iload_n 1, 1) := by decide +kernel
theorem dX6_init_79 : decode cX6_init 79 = .ok (.new 9, 3) := by decide +kernel
theorem dX6_init_82 : decode cX6_init 82 = .ok (.dup, 1) := by decide +kernel
theorem dX6_init_83 : decode cX6_init 83 = .ok (.invokespecial 11, 3) := by decide +kernel
theorem dX6_init_86 : decode cX6_init 86 = .ok (.aastore, 1) := by decide +kernel
theorem dX6_init_87 : decode cX6_init 87 = .ok (.iinc 1 1, 3) := by decide +kernel
theorem dX6_init_90 : decode cX6_init 90 = .ok (.goto (-21), 3) := by decide +kernel
theorem dX6_init_93 : decode cX6_init 93 = .ok (.return_, 1) := by decide +kernel
theorem iX6_init_0 {x : Nat} {Ls st : List Value} {h : AH} : ev L xs mdX6_init 0 (.ref x :: Ls) (st) h = ev L xs mdX6_init 1 (.ref x :: Ls) (.ref x :: st) (h) := e_aload_n dX6_init_0 rfl
theorem iX6_init_1 {a : Nat} {Ls st : List Value} {h : AH} (hw : wds st ≤ 8) : ev L xs mdX6_init 1 (Ls) (.ref a :: st) h = ev L xs mdX6_init 4 (Ls) (st) (h) := e_obj dX6_init_1 mr_6_3 (by decide) hw
theorem iX6_init_4 {x : Nat} {Ls st : List Value} {h : AH} : ev L xs mdX6_init 4 (.ref x :: Ls) (st) h = ev L xs mdX6_init 5 (.ref x :: Ls) (.ref x :: st) (h) := e_aload_n dX6_init_4 rfl
theorem iX6_init_5  {Ls st : List Value} {h : AH} : ev L xs mdX6_init 5 (Ls) (st) h = ev L xs mdX6_init 8 (Ls) (.ref (hn h) :: st) (nw h 5 0 10) := e_new dX6_init_5 (by decide +kernel)
theorem iX6_init_8 {a : Nat} {Ls st : List Value} {h : AH} : ev L xs mdX6_init 8 (Ls) (.ref a :: st) h = ev L xs mdX6_init 9 (Ls) (.ref a :: .ref a :: st) (h) := e_dup dX6_init_8 rfl
theorem iX6_init_8i {a : Int32} {Ls st : List Value} {h : AH} : ev L xs mdX6_init 8 (Ls) (.int a :: st) h = ev L xs mdX6_init 9 (Ls) (.int a :: .int a :: st) (h) := e_dup dX6_init_8 rfl
theorem iX6_init_9 {a : Nat} {Ls st : List Value} {h : AH} (hk : hK h a = 5) (hw : wds st ≤ 8) : ev L xs mdX6_init 9 Ls (.ref a :: st) h = kn L xs mdX6_init 9 12 Ls st (ev L xs mdX5_init 0 [.ref a, .null] [] h) := e_callI (as := []) dX6_init_9 mr_6_11 (by decide) (by decide) rfl (by simp [wds, Value.category]; decide) rfl (by decide) hk hw
theorem iX6_init_12 {a v : Nat} {Ls st : List Value} {h : AH} (hk : hK h a = 6) : ev L xs mdX6_init 12 (Ls) (.ref v :: .ref a :: st) h = ev L xs mdX6_init 15 (Ls) (st) (sR h 96 a v) := e_putR (k := 6) (f := 0) (F := 96) dX6_init_12 (by decide +kernel) rfl (by decide +kernel) rfl hk
theorem iX6_init_15 {x : Nat} {Ls st : List Value} {h : AH} : ev L xs mdX6_init 15 (.ref x :: Ls) (st) h = ev L xs mdX6_init 16 (.ref x :: Ls) (.ref x :: st) (h) := e_aload_n dX6_init_15 rfl
theorem iX6_init_16  {Ls st : List Value} {h : AH} : ev L xs mdX6_init 16 (Ls) (st) h = ev L xs mdX6_init 19 (Ls) (.ref (hn h) :: st) (nw h 5 0 10) := e_new dX6_init_16 (by decide +kernel)
theorem iX6_init_19 {a : Nat} {Ls st : List Value} {h : AH} : ev L xs mdX6_init 19 (Ls) (.ref a :: st) h = ev L xs mdX6_init 20 (Ls) (.ref a :: .ref a :: st) (h) := e_dup dX6_init_19 rfl
theorem iX6_init_19i {a : Int32} {Ls st : List Value} {h : AH} : ev L xs mdX6_init 19 (Ls) (.int a :: st) h = ev L xs mdX6_init 20 (Ls) (.int a :: .int a :: st) (h) := e_dup dX6_init_19 rfl
theorem iX6_init_20 {a : Nat} {Ls st : List Value} {h : AH} (hk : hK h a = 5) (hw : wds st ≤ 8) : ev L xs mdX6_init 20 Ls (.ref a :: st) h = kn L xs mdX6_init 20 23 Ls st (ev L xs mdX5_init 0 [.ref a, .null] [] h) := e_callI (as := []) dX6_init_20 mr_6_11 (by decide) (by decide) rfl (by simp [wds, Value.category]; decide) rfl (by decide) hk hw
theorem iX6_init_23 {a v : Nat} {Ls st : List Value} {h : AH} (hk : hK h a = 6) : ev L xs mdX6_init 23 (Ls) (.ref v :: .ref a :: st) h = ev L xs mdX6_init 26 (Ls) (st) (sR h 97 a v) := e_putR (k := 6) (f := 1) (F := 97) dX6_init_23 (by decide +kernel) rfl (by decide +kernel) rfl hk
theorem iX6_init_26 {x : Nat} {Ls st : List Value} {h : AH} : ev L xs mdX6_init 26 (.ref x :: Ls) (st) h = ev L xs mdX6_init 27 (.ref x :: Ls) (.ref x :: st) (h) := e_aload_n dX6_init_26 rfl
theorem iX6_init_27  {Ls st : List Value} {h : AH} : ev L xs mdX6_init 27 (Ls) (st) h = ev L xs mdX6_init 28 (Ls) (.int (nI 4) :: st) (h) := e_iconst dX6_init_27 (by decide)
theorem iX6_init_28 {c : Int32} {Ls st : List Value} {h : AH} (h0 : 0 ≤ c) (h1 : c ≤ 10000) : ev L xs mdX6_init 28 (Ls) (.int c :: st) h = ev L xs mdX6_init 31 (Ls) (.ref (hn h) :: st) (nw h 11 c.toNatClampNeg c.toNatClampNeg) := e_newQ dX6_init_28 (by decide +kernel) h0 h1
theorem iX6_init_31 {a v : Nat} {Ls st : List Value} {h : AH} (hk : hK h a = 6) : ev L xs mdX6_init 31 (Ls) (.ref v :: .ref a :: st) h = ev L xs mdX6_init 34 (Ls) (st) (sR h 98 a v) := e_putR (k := 6) (f := 2) (F := 98) dX6_init_31 (by decide +kernel) rfl (by decide +kernel) rfl hk
theorem iX6_init_34 {x : Nat} {Ls st : List Value} {h : AH} : ev L xs mdX6_init 34 (.ref x :: Ls) (st) h = ev L xs mdX6_init 35 (.ref x :: Ls) (.ref x :: st) (h) := e_aload_n dX6_init_34 rfl
theorem iX6_init_35  {Ls st : List Value} {h : AH} : ev L xs mdX6_init 35 (Ls) (st) h = ev L xs mdX6_init 38 (Ls) (.ref (hn h) :: st) (nw h 4 0 6) := e_new dX6_init_35 (by decide +kernel)
theorem iX6_init_38 {a : Nat} {Ls st : List Value} {h : AH} : ev L xs mdX6_init 38 (Ls) (.ref a :: st) h = ev L xs mdX6_init 39 (Ls) (.ref a :: .ref a :: st) (h) := e_dup dX6_init_38 rfl
theorem iX6_init_38i {a : Int32} {Ls st : List Value} {h : AH} : ev L xs mdX6_init 38 (Ls) (.int a :: st) h = ev L xs mdX6_init 39 (Ls) (.int a :: .int a :: st) (h) := e_dup dX6_init_38 rfl
theorem iX6_init_39 {a : Nat} {Ls st : List Value} {h : AH} (hk : hK h a = 4) (hw : wds st ≤ 8) : ev L xs mdX6_init 39 Ls (.ref a :: st) h = kn L xs mdX6_init 39 42 Ls st (ev L xs mdX4_init 0 [.ref a] [] h) := e_callI (as := []) dX6_init_39 mr_6_25 (by decide) (by decide) rfl (by simp [wds, Value.category]; decide) rfl (by decide) hk hw
theorem iX6_init_42 {a v : Nat} {Ls st : List Value} {h : AH} (hk : hK h a = 6) : ev L xs mdX6_init 42 (Ls) (.ref v :: .ref a :: st) h = ev L xs mdX6_init 45 (Ls) (st) (sR h 100 a v) := e_putR (k := 6) (f := 4) (F := 100) dX6_init_42 (by decide +kernel) rfl (by decide +kernel) rfl hk
theorem iX6_init_45 {x : Nat} {Ls st : List Value} {h : AH} : ev L xs mdX6_init 45 (.ref x :: Ls) (st) h = ev L xs mdX6_init 46 (.ref x :: Ls) (.ref x :: st) (h) := e_aload_n dX6_init_45 rfl
theorem iX6_init_46  {Ls st : List Value} {h : AH} : ev L xs mdX6_init 46 (Ls) (st) h = ev L xs mdX6_init 49 (Ls) (.ref (hn h) :: st) (nw h 3 0 5) := e_new dX6_init_46 (by decide +kernel)
theorem iX6_init_49 {a : Nat} {Ls st : List Value} {h : AH} : ev L xs mdX6_init 49 (Ls) (.ref a :: st) h = ev L xs mdX6_init 50 (Ls) (.ref a :: .ref a :: st) (h) := e_dup dX6_init_49 rfl
theorem iX6_init_49i {a : Int32} {Ls st : List Value} {h : AH} : ev L xs mdX6_init 49 (Ls) (.int a :: st) h = ev L xs mdX6_init 50 (Ls) (.int a :: .int a :: st) (h) := e_dup dX6_init_49 rfl
theorem iX6_init_50 {a : Nat} {Ls st : List Value} {h : AH} (hk : hK h a = 3) (hw : wds st ≤ 8) : ev L xs mdX6_init 50 Ls (.ref a :: st) h = kn L xs mdX6_init 50 53 Ls st (ev L xs mdX3_init 0 [.ref a] [] h) := e_callI (as := []) dX6_init_50 mr_6_32 (by decide) (by decide) rfl (by simp [wds, Value.category]; decide) rfl (by decide) hk hw
theorem iX6_init_53 {a v : Nat} {Ls st : List Value} {h : AH} (hk : hK h a = 6) : ev L xs mdX6_init 53 (Ls) (.ref v :: .ref a :: st) h = ev L xs mdX6_init 56 (Ls) (st) (sR h 101 a v) := e_putR (k := 6) (f := 5) (F := 101) dX6_init_53 (by decide +kernel) rfl (by decide +kernel) rfl hk
theorem iX6_init_56 {x : Nat} {Ls st : List Value} {h : AH} : ev L xs mdX6_init 56 (.ref x :: Ls) (st) h = ev L xs mdX6_init 57 (.ref x :: Ls) (.ref x :: st) (h) := e_aload_n dX6_init_56 rfl
theorem iX6_init_57  {Ls st : List Value} {h : AH} : ev L xs mdX6_init 57 (Ls) (st) h = ev L xs mdX6_init 60 (Ls) (.ref (hn h) :: st) (nw h 1 0 8) := e_new dX6_init_57 (by decide +kernel)
theorem iX6_init_60 {a : Nat} {Ls st : List Value} {h : AH} : ev L xs mdX6_init 60 (Ls) (.ref a :: st) h = ev L xs mdX6_init 61 (Ls) (.ref a :: .ref a :: st) (h) := e_dup dX6_init_60 rfl
theorem iX6_init_60i {a : Int32} {Ls st : List Value} {h : AH} : ev L xs mdX6_init 60 (Ls) (.int a :: st) h = ev L xs mdX6_init 61 (Ls) (.int a :: .int a :: st) (h) := e_dup dX6_init_60 rfl
theorem iX6_init_61 {a : Nat} {Ls st : List Value} {h : AH} (hk : hK h a = 1) (hw : wds st ≤ 8) : ev L xs mdX6_init 61 Ls (.ref a :: st) h = kn L xs mdX6_init 61 64 Ls st (ev L xs mdX1_init 0 [.ref a] [] h) := e_callI (as := []) dX6_init_61 mr_6_39 (by decide) (by decide) rfl (by simp [wds, Value.category]; decide) rfl (by decide) hk hw
theorem iX6_init_64 {a v : Nat} {Ls st : List Value} {h : AH} (hk : hK h a = 6) : ev L xs mdX6_init 64 (Ls) (.ref v :: .ref a :: st) h = ev L xs mdX6_init 67 (Ls) (st) (sR h 102 a v) := e_putR (k := 6) (f := 6) (F := 102) dX6_init_64 (by decide +kernel) rfl (by decide +kernel) rfl hk
theorem iX6_init_67  {Ls st : List Value} {h : AH} : ev L xs mdX6_init 67 (Ls) (st) h = ev L xs mdX6_init 68 (Ls) (.int (nI 0) :: st) (h) := e_iconst dX6_init_67 (by decide)
theorem iX6_init_68 {v0 : Value} {v1 : Value} {x : Int32} {Ls st : List Value} {h : AH} (hc9 : v0.category = 1) : ev L xs mdX6_init 68 (v0 :: v1 :: Ls) (.int x :: st) h = ev L xs mdX6_init 69 (v0 :: .int x :: Ls) (st) (h) := e_istore_n dX6_init_68 rfl (by decide) (by unfold catOK; show (_ || (v0.category == 1)) = true; rw [hc9]; rfl)
theorem iX6_init_69 {v0 : Value} {x : Int32} {Ls st : List Value} {h : AH} : ev L xs mdX6_init 69 (v0 :: .int x :: Ls) (st) h = ev L xs mdX6_init 70 (v0 :: .int x :: Ls) (.int x :: st) (h) := e_iload_n dX6_init_69 rfl
theorem iX6_init_70  {Ls st : List Value} {h : AH} : ev L xs mdX6_init 70 (Ls) (st) h = ev L xs mdX6_init 71 (Ls) (.int (nI 4) :: st) (h) := e_iconst dX6_init_70 (by decide)
theorem iX6_init_71 {x z : Int32} {Ls st : List Value} {h : AH} : ev L xs mdX6_init 71 Ls (.int z :: .int x :: st) h = if z ≤ x then ev L xs mdX6_init 93 Ls st h else ev L xs mdX6_init 74 Ls st h := e_ic_ge dX6_init_71 (by decide)
theorem iX6_init_74 {x : Nat} {Ls st : List Value} {h : AH} : ev L xs mdX6_init 74 (.ref x :: Ls) (st) h = ev L xs mdX6_init 75 (.ref x :: Ls) (.ref x :: st) (h) := e_aload_n dX6_init_74 rfl
theorem iX6_init_75 {a : Nat} {Ls st : List Value} {h : AH} (hk : hK h a = 6) (hj : (hR h 98 a).isSome = true) : ev L xs mdX6_init 75 (Ls) (.ref a :: st) h = ev L xs mdX6_init 78 (Ls) (.ref ((hR h 98 a).getD 0) :: st) (h) := e_getR (k := 6) (f := 2) (F := 98) dX6_init_75 (by decide +kernel) rfl rfl hk hj
theorem iX6_init_78 {v0 : Value} {x : Int32} {Ls st : List Value} {h : AH} : ev L xs mdX6_init 78 (v0 :: .int x :: Ls) (st) h = ev L xs mdX6_init 79 (v0 :: .int x :: Ls) (.int x :: st) (h) := e_iload_n dX6_init_78 rfl
theorem iX6_init_79  {Ls st : List Value} {h : AH} : ev L xs mdX6_init 79 (Ls) (st) h = ev L xs mdX6_init 82 (Ls) (.ref (hn h) :: st) (nw h 5 0 10) := e_new dX6_init_79 (by decide +kernel)
theorem iX6_init_82 {a : Nat} {Ls st : List Value} {h : AH} : ev L xs mdX6_init 82 (Ls) (.ref a :: st) h = ev L xs mdX6_init 83 (Ls) (.ref a :: .ref a :: st) (h) := e_dup dX6_init_82 rfl
theorem iX6_init_82i {a : Int32} {Ls st : List Value} {h : AH} : ev L xs mdX6_init 82 (Ls) (.int a :: st) h = ev L xs mdX6_init 83 (Ls) (.int a :: .int a :: st) (h) := e_dup dX6_init_82 rfl
theorem iX6_init_83 {a : Nat} {Ls st : List Value} {h : AH} (hk : hK h a = 5) (hw : wds st ≤ 8) : ev L xs mdX6_init 83 Ls (.ref a :: st) h = kn L xs mdX6_init 83 86 Ls st (ev L xs mdX5_init 0 [.ref a, .null] [] h) := e_callI (as := []) dX6_init_83 mr_6_11 (by decide) (by decide) rfl (by simp [wds, Value.category]; decide) rfl (by decide) hk hw
theorem iX6_init_86 {a v : Nat} {j : Int32} {Ls st : List Value} {h : AH} (hk : hK h a = 9 ∨ hK h a = 10 ∨ hK h a = 11) (hi : inA j (hN h a) = true) (hv : hK h v = rowK (hK h a)) : ev L xs mdX6_init 86 (Ls) (.ref v :: .int j :: .ref a :: st) h = ev L xs mdX6_init 87 (Ls) (st) (sQ h a j.toNatClampNeg v) := e_aast dX6_init_86 hk hi hv
theorem iX6_init_87 {v0 : Value} {x : Int32} {Ls st : List Value} {h : AH} (hc9 : v0.category = 1) : ev L xs mdX6_init 87 (v0 :: .int x :: Ls) (st) h = ev L xs mdX6_init 90 (v0 :: .int (x + (nI 1)) :: Ls) (st) (h) := e_iinc dX6_init_87 rfl rfl rfl (by decide) (by unfold catOK; show (_ || (v0.category == 1)) = true; rw [hc9]; rfl)
theorem iX6_init_90  {Ls st : List Value} {h : AH} : ev L xs mdX6_init 90 (Ls) (st) h = ev L xs mdX6_init 69 (Ls) (st) (h) := e_goto dX6_init_90 (by decide)
theorem iX6_init_93 {Ls : List Value} {h : AH} : ev L xs mdX6_init 93 Ls [] h = some (.inl (none, h)) := e_vret dX6_init_93 rfl
theorem dX6_isDay_0 : decode cX6_isDay 0 = .ok (.iload_n 0, 1) := by decide +kernel
theorem dX6_isDay_1 : decode cX6_isDay 1 = .ok (.iconst 0, 1) := by decide +kernel
theorem dX6_isDay_2 : decode cX6_isDay 2 = .ok (.sipush 3000, 3) := by decide +kernel
theorem dX6_isDay_5 : decode cX6_isDay 5 = .ok (.invokestatic 48, 3) := by decide +kernel
theorem dX6_isDay_8 : decode cX6_isDay 8 = .ok (.ireturn, 1) := by decide +kernel
theorem iX6_isDay_0 {x : Int32} {Ls st : List Value} {h : AH} : ev L xs mdX6_isDay 0 (.int x :: Ls) (st) h = ev L xs mdX6_isDay 1 (.int x :: Ls) (.int x :: st) (h) := e_iload_n dX6_isDay_0 rfl
theorem iX6_isDay_1  {Ls st : List Value} {h : AH} : ev L xs mdX6_isDay 1 (Ls) (st) h = ev L xs mdX6_isDay 2 (Ls) (.int (nI 0) :: st) (h) := e_iconst dX6_isDay_1 (by decide)
theorem iX6_isDay_2  {Ls st : List Value} {h : AH} : ev L xs mdX6_isDay 2 (Ls) (st) h = ev L xs mdX6_isDay 5 (Ls) (.int (nI 3000) :: st) (h) := e_sipush dX6_isDay_2 (by decide)
theorem iX6_isDay_5 {p0 : Int32} {p1 : Int32} {p2 : Int32} {Ls st : List Value} {h : AH} (hw : wds st ≤ 8) : ev L xs mdX6_isDay 5 Ls (.int p2 :: .int p1 :: .int p0 :: st) h = kn L xs mdX6_isDay 5 8 Ls st (ev L xs mdX6_isWithin 0 [.int p0, .int p1, .int p2] [] h) := e_callS (as := [.int p2, .int p1, .int p0]) dX6_isDay_5 mr_6_48 (by decide) (by decide) rfl (by simp [wds, Value.category]; decide) rfl hw
theorem iX6_isDay_8 {v : Int32} {Ls : List Value} {h : AH} (hv : v = nI 0 ∨ v = nI 1) : ev L xs mdX6_isDay 8 Ls [.int v] h = some (.inl (some (.int v), h)) := e_zret dX6_isDay_8 rfl hv
theorem dX6_isIn_0 : decode cX6_isIn 0 = .ok (.iload_n 0, 1) := by decide +kernel
theorem dX6_isIn_1 : decode cX6_isIn 1 = .ok (.iload_n 1, 1) := by decide +kernel
theorem dX6_isIn_2 : decode cX6_isIn 2 = .ok (.ishr, 1) := by decide +kernel
theorem dX6_isIn_3 : decode cX6_isIn 3 = .ok (.iconst 1, 1) := by decide +kernel
theorem dX6_isIn_4 : decode cX6_isIn 4 = .ok (.iand, 1) := by decide +kernel
theorem dX6_isIn_5 : decode cX6_isIn 5 = .ok (.ifCond .eq 7, 3) := by decide +kernel
theorem dX6_isIn_8 : decode cX6_isIn 8 = .ok (.iconst 1, 1) := by decide +kernel
theorem dX6_isIn_9 : decode cX6_isIn 9 = .ok (.goto 4, 3) := by decide +kernel
theorem dX6_isIn_12 : decode cX6_isIn 12 = .ok (.iconst 0, 1) := by decide +kernel
theorem dX6_isIn_13 : decode cX6_isIn 13 = .ok (.ireturn, 1) := by decide +kernel
theorem iX6_isIn_0 {x : Int32} {Ls st : List Value} {h : AH} : ev L xs mdX6_isIn 0 (.int x :: Ls) (st) h = ev L xs mdX6_isIn 1 (.int x :: Ls) (.int x :: st) (h) := e_iload_n dX6_isIn_0 rfl
theorem iX6_isIn_1 {v0 : Value} {x : Int32} {Ls st : List Value} {h : AH} : ev L xs mdX6_isIn 1 (v0 :: .int x :: Ls) (st) h = ev L xs mdX6_isIn 2 (v0 :: .int x :: Ls) (.int x :: st) (h) := e_iload_n dX6_isIn_1 rfl
theorem iX6_isIn_2 {x z : Int32} {Ls st : List Value} {h : AH} : ev L xs mdX6_isIn 2 (Ls) (.int z :: .int x :: st) h = ev L xs mdX6_isIn 3 (Ls) (.int (x >>> (z &&& nI 31)) :: st) (h) := e_ishr dX6_isIn_2
theorem iX6_isIn_3  {Ls st : List Value} {h : AH} : ev L xs mdX6_isIn 3 (Ls) (st) h = ev L xs mdX6_isIn 4 (Ls) (.int (nI 1) :: st) (h) := e_iconst dX6_isIn_3 (by decide)
theorem iX6_isIn_4 {x z : Int32} {Ls st : List Value} {h : AH} : ev L xs mdX6_isIn 4 (Ls) (.int z :: .int x :: st) h = ev L xs mdX6_isIn 5 (Ls) (.int (x &&& z) :: st) (h) := e_iand dX6_isIn_4
theorem iX6_isIn_5 {x : Int32} {Ls st : List Value} {h : AH} : ev L xs mdX6_isIn 5 Ls (.int x :: st) h = if x = nI 0 then ev L xs mdX6_isIn 12 Ls st h else ev L xs mdX6_isIn 8 Ls st h := e_if_eq dX6_isIn_5 (by decide)
theorem iX6_isIn_8  {Ls st : List Value} {h : AH} : ev L xs mdX6_isIn 8 (Ls) (st) h = ev L xs mdX6_isIn 9 (Ls) (.int (nI 1) :: st) (h) := e_iconst dX6_isIn_8 (by decide)
theorem iX6_isIn_9  {Ls st : List Value} {h : AH} : ev L xs mdX6_isIn 9 (Ls) (st) h = ev L xs mdX6_isIn 13 (Ls) (st) (h) := e_goto dX6_isIn_9 (by decide)
theorem iX6_isIn_12  {Ls st : List Value} {h : AH} : ev L xs mdX6_isIn 12 (Ls) (st) h = ev L xs mdX6_isIn 13 (Ls) (.int (nI 0) :: st) (h) := e_iconst dX6_isIn_12 (by decide)
theorem iX6_isIn_13 {v : Int32} {Ls : List Value} {h : AH} (hv : v = nI 0 ∨ v = nI 1) : ev L xs mdX6_isIn 13 Ls [.int v] h = some (.inl (some (.int v), h)) := e_zret dX6_isIn_13 rfl hv
theorem dX6_isPlace_0 : decode cX6_isPlace 0 = .ok (.iload_n 0, 1) := by decide +kernel
theorem dX6_isPlace_1 : decode cX6_isPlace 1 = .ok (.iconst 0, 1) := by decide +kernel
theorem dX6_isPlace_2 : decode cX6_isPlace 2 = .ok (.bipush 99, 2) := by decide +kernel
theorem dX6_isPlace_4 : decode cX6_isPlace 4 = .ok (.invokestatic 48, 3) := by decide +kernel
theorem dX6_isPlace_7 : decode cX6_isPlace 7 = .ok (.ireturn, 1) := by decide +kernel
theorem iX6_isPlace_0 {x : Int32} {Ls st : List Value} {h : AH} : ev L xs mdX6_isPlace 0 (.int x :: Ls) (st) h = ev L xs mdX6_isPlace 1 (.int x :: Ls) (.int x :: st) (h) := e_iload_n dX6_isPlace_0 rfl
theorem iX6_isPlace_1  {Ls st : List Value} {h : AH} : ev L xs mdX6_isPlace 1 (Ls) (st) h = ev L xs mdX6_isPlace 2 (Ls) (.int (nI 0) :: st) (h) := e_iconst dX6_isPlace_1 (by decide)
theorem iX6_isPlace_2  {Ls st : List Value} {h : AH} : ev L xs mdX6_isPlace 2 (Ls) (st) h = ev L xs mdX6_isPlace 4 (Ls) (.int (nI 99) :: st) (h) := e_bipush dX6_isPlace_2 (by decide)
theorem iX6_isPlace_4 {p0 : Int32} {p1 : Int32} {p2 : Int32} {Ls st : List Value} {h : AH} (hw : wds st ≤ 8) : ev L xs mdX6_isPlace 4 Ls (.int p2 :: .int p1 :: .int p0 :: st) h = kn L xs mdX6_isPlace 4 7 Ls st (ev L xs mdX6_isWithin 0 [.int p0, .int p1, .int p2] [] h) := e_callS (as := [.int p2, .int p1, .int p0]) dX6_isPlace_4 mr_6_48 (by decide) (by decide) rfl (by simp [wds, Value.category]; decide) rfl hw
theorem iX6_isPlace_7 {v : Int32} {Ls : List Value} {h : AH} (hv : v = nI 0 ∨ v = nI 1) : ev L xs mdX6_isPlace 7 Ls [.int v] h = some (.inl (some (.int v), h)) := e_zret dX6_isPlace_7 rfl hv
theorem dX6_isSession_0 : decode cX6_isSession 0 = .ok (.iload_n 0, 1) := by decide +kernel
theorem dX6_isSession_1 : decode cX6_isSession 1 = .ok (.iconst 0, 1) := by decide +kernel
theorem dX6_isSession_2 : decode cX6_isSession 2 = .ok (.iconst 1, 1) := by decide +kernel
theorem dX6_isSession_3 : decode cX6_isSession 3 = .ok (.invokestatic 48, 3) := by decide +kernel
theorem dX6_isSession_6 : decode cX6_isSession 6 = .ok (.ireturn, 1) := by decide +kernel
theorem iX6_isSession_0 {x : Int32} {Ls st : List Value} {h : AH} : ev L xs mdX6_isSession 0 (.int x :: Ls) (st) h = ev L xs mdX6_isSession 1 (.int x :: Ls) (.int x :: st) (h) := e_iload_n dX6_isSession_0 rfl
theorem iX6_isSession_1  {Ls st : List Value} {h : AH} : ev L xs mdX6_isSession 1 (Ls) (st) h = ev L xs mdX6_isSession 2 (Ls) (.int (nI 0) :: st) (h) := e_iconst dX6_isSession_1 (by decide)
theorem iX6_isSession_2  {Ls st : List Value} {h : AH} : ev L xs mdX6_isSession 2 (Ls) (st) h = ev L xs mdX6_isSession 3 (Ls) (.int (nI 1) :: st) (h) := e_iconst dX6_isSession_2 (by decide)
theorem iX6_isSession_3 {p0 : Int32} {p1 : Int32} {p2 : Int32} {Ls st : List Value} {h : AH} (hw : wds st ≤ 8) : ev L xs mdX6_isSession 3 Ls (.int p2 :: .int p1 :: .int p0 :: st) h = kn L xs mdX6_isSession 3 6 Ls st (ev L xs mdX6_isWithin 0 [.int p0, .int p1, .int p2] [] h) := e_callS (as := [.int p2, .int p1, .int p0]) dX6_isSession_3 mr_6_48 (by decide) (by decide) rfl (by simp [wds, Value.category]; decide) rfl hw
theorem iX6_isSession_6 {v : Int32} {Ls : List Value} {h : AH} (hv : v = nI 0 ∨ v = nI 1) : ev L xs mdX6_isSession 6 Ls [.int v] h = some (.inl (some (.int v), h)) := e_zret dX6_isSession_6 rfl hv
theorem dX6_isWithin_0 : decode cX6_isWithin 0 = .ok (.iload_n 0, 1) := by decide +kernel
theorem dX6_isWithin_1 : decode cX6_isWithin 1 = .ok (.iload_n 1, 1) := by decide +kernel
theorem dX6_isWithin_2 : decode cX6_isWithin 2 = .ok (.if_icmp .lt 12, 3) := by decide +kernel
theorem dX6_isWithin_5 : decode cX6_isWithin 5 = .ok (.iload_n 0, 1) := by decide +kernel
theorem dX6_isWithin_6 : decode cX6_isWithin 6 = .ok (.iload_n 2, 1) := by decide +kernel
theorem dX6_isWithin_7 : decode cX6_isWithin 7 = .ok (.if_icmp .gt 7, 3) := by decide +kernel
theorem dX6_isWithin_10 : decode cX6_isWithin 10 = .ok (.iconst 1, 1) := by decide +kernel
theorem dX6_isWithin_11 : decode cX6_isWithin 11 = .ok (.goto 4, 3) := by decide +kernel
theorem dX6_isWithin_14 : decode cX6_isWithin 14 = .ok (.iconst 0, 1) := by decide +kernel
theorem dX6_isWithin_15 : decode cX6_isWithin 15 = .ok (.ireturn, 1) := by decide +kernel
theorem iX6_isWithin_0 {x : Int32} {Ls st : List Value} {h : AH} : ev L xs mdX6_isWithin 0 (.int x :: Ls) (st) h = ev L xs mdX6_isWithin 1 (.int x :: Ls) (.int x :: st) (h) := e_iload_n dX6_isWithin_0 rfl
theorem iX6_isWithin_1 {v0 : Value} {x : Int32} {Ls st : List Value} {h : AH} : ev L xs mdX6_isWithin 1 (v0 :: .int x :: Ls) (st) h = ev L xs mdX6_isWithin 2 (v0 :: .int x :: Ls) (.int x :: st) (h) := e_iload_n dX6_isWithin_1 rfl
theorem iX6_isWithin_2 {x z : Int32} {Ls st : List Value} {h : AH} : ev L xs mdX6_isWithin 2 Ls (.int z :: .int x :: st) h = if x < z then ev L xs mdX6_isWithin 14 Ls st h else ev L xs mdX6_isWithin 5 Ls st h := e_ic_lt dX6_isWithin_2 (by decide)
theorem iX6_isWithin_5 {x : Int32} {Ls st : List Value} {h : AH} : ev L xs mdX6_isWithin 5 (.int x :: Ls) (st) h = ev L xs mdX6_isWithin 6 (.int x :: Ls) (.int x :: st) (h) := e_iload_n dX6_isWithin_5 rfl
theorem iX6_isWithin_6 {v0 : Value} {v1 : Value} {x : Int32} {Ls st : List Value} {h : AH} : ev L xs mdX6_isWithin 6 (v0 :: v1 :: .int x :: Ls) (st) h = ev L xs mdX6_isWithin 7 (v0 :: v1 :: .int x :: Ls) (.int x :: st) (h) := e_iload_n dX6_isWithin_6 rfl
theorem iX6_isWithin_7 {x z : Int32} {Ls st : List Value} {h : AH} : ev L xs mdX6_isWithin 7 Ls (.int z :: .int x :: st) h = if z < x then ev L xs mdX6_isWithin 14 Ls st h else ev L xs mdX6_isWithin 10 Ls st h := e_ic_gt dX6_isWithin_7 (by decide)
theorem iX6_isWithin_10  {Ls st : List Value} {h : AH} : ev L xs mdX6_isWithin 10 (Ls) (st) h = ev L xs mdX6_isWithin 11 (Ls) (.int (nI 1) :: st) (h) := e_iconst dX6_isWithin_10 (by decide)
theorem iX6_isWithin_11  {Ls st : List Value} {h : AH} : ev L xs mdX6_isWithin 11 (Ls) (st) h = ev L xs mdX6_isWithin 15 (Ls) (st) (h) := e_goto dX6_isWithin_11 (by decide)
theorem iX6_isWithin_14  {Ls st : List Value} {h : AH} : ev L xs mdX6_isWithin 14 (Ls) (st) h = ev L xs mdX6_isWithin 15 (Ls) (.int (nI 0) :: st) (h) := e_iconst dX6_isWithin_14 (by decide)
theorem iX6_isWithin_15 {v : Int32} {Ls : List Value} {h : AH} (hv : v = nI 0 ∨ v = nI 1) : ev L xs mdX6_isWithin 15 Ls [.int v] h = some (.inl (some (.int v), h)) := e_zret dX6_isWithin_15 rfl hv
theorem dX6_missed_0 : decode cX6_missed 0 = .ok (.aload_n 0, 1) := by decide +kernel
theorem dX6_missed_1 : decode cX6_missed 1 = .ok (.getfield 12, 3) := by decide +kernel
theorem dX6_missed_4 : decode cX6_missed 4 = .ok (.iload_n 1, 1) := by decide +kernel
theorem dX6_missed_5 : decode cX6_missed 5 = .ok (.invokevirtual 124, 3) := by decide +kernel
theorem dX6_missed_8 : decode cX6_missed 8 = .ok (.ifCond .ne 13, 3) := by decide +kernel
theorem dX6_missed_11 : decode cX6_missed 11 = .ok (.new 91, 3) := by decide +kernel
theorem dX6_missed_14 : decode cX6_missed 14 = .ok (.dup, 1) := by decide +kernel
theorem dX6_missed_15 : decode cX6_missed 15 = .ok (.ldc 138, 2) := by decide +kernel
theorem dX6_missed_17 : decode cX6_missed 17 = .ok (.invokespecial 95, 3) := by decide +kernel
theorem dX6_missed_20 : decode cX6_missed 20 = .ok (.athrow, 1) := by decide +kernel
theorem dX6_missed_21 : decode cX6_missed 21 = .ok (.iload_n 2, 1) := by decide +kernel
theorem dX6_missed_22 : decode cX6_missed 22 = .ok (.invokestatic 44, 3) := by decide +kernel
theorem dX6_missed_25 : decode cX6_missed 25 = .ok (.ifCond .ne 13, 3) := by decide +kernel
theorem dX6_missed_28 : decode cX6_missed 28 = .ok (.new 52, 3) := by decide +kernel
theorem dX6_missed_31 : decode cX6_missed 31 = .ok (.dup, 1) := by decide +kernel
theorem dX6_missed_32 : decode cX6_missed 32 = .ok (.ldc 227, 2) := by decide +kernel
theorem dX6_missed_34 : decode cX6_missed 34 = .ok (.invokespecial 56, 3) := by decide +kernel
theorem dX6_missed_37 : decode cX6_missed 37 = .ok (.athrow, 1) := by decide +kernel
theorem dX6_missed_38 : decode cX6_missed 38 = .ok (.aload_n 0, 1) := by decide +kernel
theorem dX6_missed_39 : decode cX6_missed 39 = .ok (.getfield 12, 3) := by decide +kernel
theorem dX6_missed_42 : decode cX6_missed 42 = .ok (.getfield 129, 3) := by decide +kernel
theorem dX6_missed_45 : decode cX6_missed 45 = .ok (.iload_n 1, 1) := by decide +kernel
theorem dX6_missed_46 : decode cX6_missed 46 = .ok (.aaload, 1) := by decide +kernel
theorem dX6_missed_47 : decode cX6_missed 47 = .ok (.iload_n 2, 1) := by decide +kernel
theorem dX6_missed_48 : decode cX6_missed 48 = .ok (.invokevirtual 229, 3) := by decide +kernel
theorem dX6_missed_51 : decode cX6_missed 51 = .ok (.ifCond .eq 5, 3) := by decide +kernel
theorem dX6_missed_54 : decode cX6_missed 54 = .ok (.iconst 0, 1) := by decide +kernel
theorem dX6_missed_55 : decode cX6_missed 55 = .ok (.ireturn, 1) := by decide +kernel
theorem dX6_missed_56 : decode cX6_missed 56 = .ok (.aload_n 0, 1) := by decide +kernel
theorem dX6_missed_57 : decode cX6_missed 57 = .ok (.getfield 16, 3) := by decide +kernel
theorem dX6_missed_60 : decode cX6_missed 60 = .ok (.aload_n 0, 1) := by decide +kernel
theorem dX6_missed_61 : decode cX6_missed 61 = .ok (.getfield 12, 3) := by decide +kernel
theorem dX6_missed_64 : decode cX6_missed 64 = .ok (.invokevirtual 232, 3) := by decide +kernel
theorem dX6_missed_67 : decode cX6_missed 67 = .ok (.aload_n 0, 1) := by decide +kernel
theorem dX6_missed_68 : decode cX6_missed 68 = .ok (.getfield 16, 3) := by decide +kernel
theorem dX6_missed_71 : decode cX6_missed 71 = .ok (.getfield 129, 3) := by decide +kernel
theorem dX6_missed_74 : decode cX6_missed 74 = .ok (.iload_n 1, 1) := by decide +kernel
theorem dX6_missed_75 : decode cX6_missed 75 = .ok (.aaload, 1) := by decide +kernel
theorem dX6_missed_76 : decode cX6_missed 76 = .ok (.iload_n 2, 1) := by decide +kernel
theorem dX6_missed_77 : decode cX6_missed 77 = .ok (.iconst 1, 1) := by decide +kernel
theorem dX6_missed_78 : decode cX6_missed 78 = .ok (.iadd, 1) := by decide +kernel
theorem dX6_missed_79 : decode cX6_missed 79 = .ok (.putfield 236, 3) := by decide +kernel
theorem dX6_missed_82 : decode cX6_missed 82 = .ok (.aload_n 0, 1) := by decide +kernel
theorem dX6_missed_83 : decode cX6_missed 83 = .ok (.aload_n 0, 1) := by decide +kernel
theorem dX6_missed_84 : decode cX6_missed 84 = .ok (.getfield 16, 3) := by decide +kernel
theorem dX6_missed_87 : decode cX6_missed 87 = .ok (.iload_n 2, 1) := by decide +kernel
theorem dX6_missed_88 : decode cX6_missed 88 = .ok (.invokevirtual 239, 3) := by decide +kernel
theorem dX6_missed_91 : decode cX6_missed 91 = .ok (.aload_n 0, 1) := by decide +kernel
theorem dX6_missed_92 : decode cX6_missed 92 = .ok (.aload_n 0, 1) := by decide +kernel
theorem dX6_missed_93 : decode cX6_missed 93 = .ok (.getfield 12, 3) := by decide +kernel
theorem dX6_missed_96 : decode cX6_missed 96 = .ok (.iload_n 2, 1) := by decide +kernel
theorem dX6_missed_97 : decode cX6_missed 97 = .ok (.invokevirtual 239, 3) := by decide +kernel
theorem dX6_missed_100 : decode cX6_missed 100 = .ok (.isub, 1) := by decide +kernel
theorem dX6_missed_101 : decode cX6_missed 101 = .ok (.ireturn, 1) := by decide +kernel
theorem iX6_missed_0 {x : Nat} {Ls st : List Value} {h : AH} : ev L xs mdX6_missed 0 (.ref x :: Ls) (st) h = ev L xs mdX6_missed 1 (.ref x :: Ls) (.ref x :: st) (h) := e_aload_n dX6_missed_0 rfl
theorem iX6_missed_1 {a : Nat} {Ls st : List Value} {h : AH} (hk : hK h a = 6) (hj : (hR h 96 a).isSome = true) : ev L xs mdX6_missed 1 (Ls) (.ref a :: st) h = ev L xs mdX6_missed 4 (Ls) (.ref ((hR h 96 a).getD 0) :: st) (h) := e_getR (k := 6) (f := 0) (F := 96) dX6_missed_1 (by decide +kernel) rfl rfl hk hj
theorem iX6_missed_4 {v0 : Value} {x : Int32} {Ls st : List Value} {h : AH} : ev L xs mdX6_missed 4 (v0 :: .int x :: Ls) (st) h = ev L xs mdX6_missed 5 (v0 :: .int x :: Ls) (.int x :: st) (h) := e_iload_n dX6_missed_4 rfl
theorem iX6_missed_5 {a : Nat} {p0 : Int32} {Ls st : List Value} {h : AH} (hk : hK h a = 5) (hw : wds st ≤ 8) : ev L xs mdX6_missed 5 Ls (.int p0 :: .ref a :: st) h = kn L xs mdX6_missed 5 8 Ls st (ev L xs mdX5_hasGuard 0 [.ref a, .int p0] [] h) := e_callV (as := [.int p0]) dX6_missed_5 mr_6_124 (by decide) (by decide) rfl (by simp [wds, Value.category]; decide) rfl (by decide) hk hw
theorem iX6_missed_8 {x : Int32} {Ls st : List Value} {h : AH} : ev L xs mdX6_missed 8 Ls (.int x :: st) h = if x = nI 0 then ev L xs mdX6_missed 11 Ls st h else ev L xs mdX6_missed 21 Ls st h := e_if_ne dX6_missed_8 (by decide)
theorem iX6_missed_11 {Ls : List Value} {h : AH} : ev L xs mdX6_missed 11 Ls [] h = some (.inr ("java/lang/IndexOutOfBoundsException", bump h)) := e_throw dX6_missed_11 (by decide +kernel) dX6_missed_14 dX6_missed_15 dX6_missed_17 dX6_missed_20 (by decide +kernel) (by decide +kernel)
theorem iX6_missed_21 {v0 : Value} {v1 : Value} {x : Int32} {Ls st : List Value} {h : AH} : ev L xs mdX6_missed 21 (v0 :: v1 :: .int x :: Ls) (st) h = ev L xs mdX6_missed 22 (v0 :: v1 :: .int x :: Ls) (.int x :: st) (h) := e_iload_n dX6_missed_21 rfl
theorem iX6_missed_22 {p0 : Int32} {Ls st : List Value} {h : AH} (hw : wds st ≤ 8) : ev L xs mdX6_missed 22 Ls (.int p0 :: st) h = kn L xs mdX6_missed 22 25 Ls st (ev L xs mdX6_isDay 0 [.int p0] [] h) := e_callS (as := [.int p0]) dX6_missed_22 mr_6_44 (by decide) (by decide) rfl (by simp [wds, Value.category]; decide) rfl hw
theorem iX6_missed_25 {x : Int32} {Ls st : List Value} {h : AH} : ev L xs mdX6_missed 25 Ls (.int x :: st) h = if x = nI 0 then ev L xs mdX6_missed 28 Ls st h else ev L xs mdX6_missed 38 Ls st h := e_if_ne dX6_missed_25 (by decide)
theorem iX6_missed_28 {Ls : List Value} {h : AH} : ev L xs mdX6_missed 28 Ls [] h = some (.inr ("java/lang/IllegalArgumentException", bump h)) := e_throw dX6_missed_28 (by decide +kernel) dX6_missed_31 dX6_missed_32 dX6_missed_34 dX6_missed_37 (by decide +kernel) (by decide +kernel)
theorem iX6_missed_38 {x : Nat} {Ls st : List Value} {h : AH} : ev L xs mdX6_missed 38 (.ref x :: Ls) (st) h = ev L xs mdX6_missed 39 (.ref x :: Ls) (.ref x :: st) (h) := e_aload_n dX6_missed_38 rfl
theorem iX6_missed_39 {a : Nat} {Ls st : List Value} {h : AH} (hk : hK h a = 6) (hj : (hR h 96 a).isSome = true) : ev L xs mdX6_missed 39 (Ls) (.ref a :: st) h = ev L xs mdX6_missed 42 (Ls) (.ref ((hR h 96 a).getD 0) :: st) (h) := e_getR (k := 6) (f := 0) (F := 96) dX6_missed_39 (by decide +kernel) rfl rfl hk hj
theorem iX6_missed_42 {a : Nat} {Ls st : List Value} {h : AH} (hk : hK h a = 5) (hj : (hR h 85 a).isSome = true) : ev L xs mdX6_missed 42 (Ls) (.ref a :: st) h = ev L xs mdX6_missed 45 (Ls) (.ref ((hR h 85 a).getD 0) :: st) (h) := e_getR (k := 5) (f := 5) (F := 85) dX6_missed_42 (by decide +kernel) rfl rfl hk hj
theorem iX6_missed_45 {v0 : Value} {x : Int32} {Ls st : List Value} {h : AH} : ev L xs mdX6_missed 45 (v0 :: .int x :: Ls) (st) h = ev L xs mdX6_missed 46 (v0 :: .int x :: Ls) (.int x :: st) (h) := e_iload_n dX6_missed_45 rfl
theorem iX6_missed_46 {a : Nat} {j : Int32} {Ls st : List Value} {h : AH} (hk : hK h a = 9 ∨ hK h a = 10 ∨ hK h a = 11) (hi : inA j (hN h a) = true) (hq : (hQ h a j.toNatClampNeg).isSome = true) : ev L xs mdX6_missed 46 (Ls) (.int j :: .ref a :: st) h = ev L xs mdX6_missed 47 (Ls) (.ref ((hQ h a j.toNatClampNeg).getD 0) :: st) (h) := e_aald dX6_missed_46 hk hi hq
theorem iX6_missed_47 {v0 : Value} {v1 : Value} {x : Int32} {Ls st : List Value} {h : AH} : ev L xs mdX6_missed 47 (v0 :: v1 :: .int x :: Ls) (st) h = ev L xs mdX6_missed 48 (v0 :: v1 :: .int x :: Ls) (.int x :: st) (h) := e_iload_n dX6_missed_47 rfl
theorem iX6_missed_48 {a : Nat} {p0 : Int32} {Ls st : List Value} {h : AH} (hk : hK h a = 0) (hw : wds st ≤ 8) : ev L xs mdX6_missed 48 Ls (.int p0 :: .ref a :: st) h = kn L xs mdX6_missed 48 51 Ls st (ev L xs mdX0_isSickOn 0 [.ref a, .int p0] [] h) := e_callV (as := [.int p0]) dX6_missed_48 mr_6_229 (by decide) (by decide) rfl (by simp [wds, Value.category]; decide) rfl (by decide) hk hw
theorem iX6_missed_51 {x : Int32} {Ls st : List Value} {h : AH} : ev L xs mdX6_missed 51 Ls (.int x :: st) h = if x = nI 0 then ev L xs mdX6_missed 56 Ls st h else ev L xs mdX6_missed 54 Ls st h := e_if_eq dX6_missed_51 (by decide)
theorem iX6_missed_54  {Ls st : List Value} {h : AH} : ev L xs mdX6_missed 54 (Ls) (st) h = ev L xs mdX6_missed 55 (Ls) (.int (nI 0) :: st) (h) := e_iconst dX6_missed_54 (by decide)
theorem iX6_missed_55 {v : Int32} {Ls : List Value} {h : AH} : ev L xs mdX6_missed 55 Ls [.int v] h = some (.inl (some (.int v), h)) := e_iret dX6_missed_55 rfl
theorem iX6_missed_56 {x : Nat} {Ls st : List Value} {h : AH} : ev L xs mdX6_missed 56 (.ref x :: Ls) (st) h = ev L xs mdX6_missed 57 (.ref x :: Ls) (.ref x :: st) (h) := e_aload_n dX6_missed_56 rfl
theorem iX6_missed_57 {a : Nat} {Ls st : List Value} {h : AH} (hk : hK h a = 6) (hj : (hR h 97 a).isSome = true) : ev L xs mdX6_missed 57 (Ls) (.ref a :: st) h = ev L xs mdX6_missed 60 (Ls) (.ref ((hR h 97 a).getD 0) :: st) (h) := e_getR (k := 6) (f := 1) (F := 97) dX6_missed_57 (by decide +kernel) rfl rfl hk hj
theorem iX6_missed_60 {x : Nat} {Ls st : List Value} {h : AH} : ev L xs mdX6_missed 60 (.ref x :: Ls) (st) h = ev L xs mdX6_missed 61 (.ref x :: Ls) (.ref x :: st) (h) := e_aload_n dX6_missed_60 rfl
theorem iX6_missed_61 {a : Nat} {Ls st : List Value} {h : AH} (hk : hK h a = 6) (hj : (hR h 96 a).isSome = true) : ev L xs mdX6_missed 61 (Ls) (.ref a :: st) h = ev L xs mdX6_missed 64 (Ls) (.ref ((hR h 96 a).getD 0) :: st) (h) := e_getR (k := 6) (f := 0) (F := 96) dX6_missed_61 (by decide +kernel) rfl rfl hk hj
theorem iX6_missed_64 {a : Nat} {p0 : Nat} {Ls st : List Value} {h : AH} (hk : hK h a = 5) (hw : wds st ≤ 8) : ev L xs mdX6_missed 64 Ls (.ref p0 :: .ref a :: st) h = kn L xs mdX6_missed 64 67 Ls st (ev L xs mdX5_copyFrom 0 [.ref a, .ref p0, .null] [] h) := e_callV (as := [.ref p0]) dX6_missed_64 mr_6_232 (by decide) (by decide) rfl (by simp [wds, Value.category]; decide) rfl (by decide) hk hw
theorem iX6_missed_67 {x : Nat} {Ls st : List Value} {h : AH} : ev L xs mdX6_missed 67 (.ref x :: Ls) (st) h = ev L xs mdX6_missed 68 (.ref x :: Ls) (.ref x :: st) (h) := e_aload_n dX6_missed_67 rfl
theorem iX6_missed_68 {a : Nat} {Ls st : List Value} {h : AH} (hk : hK h a = 6) (hj : (hR h 97 a).isSome = true) : ev L xs mdX6_missed 68 (Ls) (.ref a :: st) h = ev L xs mdX6_missed 71 (Ls) (.ref ((hR h 97 a).getD 0) :: st) (h) := e_getR (k := 6) (f := 1) (F := 97) dX6_missed_68 (by decide +kernel) rfl rfl hk hj
theorem iX6_missed_71 {a : Nat} {Ls st : List Value} {h : AH} (hk : hK h a = 5) (hj : (hR h 85 a).isSome = true) : ev L xs mdX6_missed 71 (Ls) (.ref a :: st) h = ev L xs mdX6_missed 74 (Ls) (.ref ((hR h 85 a).getD 0) :: st) (h) := e_getR (k := 5) (f := 5) (F := 85) dX6_missed_71 (by decide +kernel) rfl rfl hk hj
theorem iX6_missed_74 {v0 : Value} {x : Int32} {Ls st : List Value} {h : AH} : ev L xs mdX6_missed 74 (v0 :: .int x :: Ls) (st) h = ev L xs mdX6_missed 75 (v0 :: .int x :: Ls) (.int x :: st) (h) := e_iload_n dX6_missed_74 rfl
theorem iX6_missed_75 {a : Nat} {j : Int32} {Ls st : List Value} {h : AH} (hk : hK h a = 9 ∨ hK h a = 10 ∨ hK h a = 11) (hi : inA j (hN h a) = true) (hq : (hQ h a j.toNatClampNeg).isSome = true) : ev L xs mdX6_missed 75 (Ls) (.int j :: .ref a :: st) h = ev L xs mdX6_missed 76 (Ls) (.ref ((hQ h a j.toNatClampNeg).getD 0) :: st) (h) := e_aald dX6_missed_75 hk hi hq
theorem iX6_missed_76 {v0 : Value} {v1 : Value} {x : Int32} {Ls st : List Value} {h : AH} : ev L xs mdX6_missed 76 (v0 :: v1 :: .int x :: Ls) (st) h = ev L xs mdX6_missed 77 (v0 :: v1 :: .int x :: Ls) (.int x :: st) (h) := e_iload_n dX6_missed_76 rfl
theorem iX6_missed_77  {Ls st : List Value} {h : AH} : ev L xs mdX6_missed 77 (Ls) (st) h = ev L xs mdX6_missed 78 (Ls) (.int (nI 1) :: st) (h) := e_iconst dX6_missed_77 (by decide)
theorem iX6_missed_78 {x z : Int32} {Ls st : List Value} {h : AH} : ev L xs mdX6_missed 78 (Ls) (.int z :: .int x :: st) h = ev L xs mdX6_missed 79 (Ls) (.int (x + z) :: st) (h) := e_iadd dX6_missed_78
theorem iX6_missed_79 {a : Nat} {v : Int32} {Ls st : List Value} {h : AH} (hk : hK h a = 0) : ev L xs mdX6_missed 79 (Ls) (.int v :: .ref a :: st) h = ev L xs mdX6_missed 82 (Ls) (st) (sI h 6 a v) := e_putI (k := 0) (f := 6) (F := 6) dX6_missed_79 (by decide +kernel) rfl (by decide +kernel) rfl hk
theorem iX6_missed_82 {x : Nat} {Ls st : List Value} {h : AH} : ev L xs mdX6_missed 82 (.ref x :: Ls) (st) h = ev L xs mdX6_missed 83 (.ref x :: Ls) (.ref x :: st) (h) := e_aload_n dX6_missed_82 rfl
theorem iX6_missed_83 {x : Nat} {Ls st : List Value} {h : AH} : ev L xs mdX6_missed 83 (.ref x :: Ls) (st) h = ev L xs mdX6_missed 84 (.ref x :: Ls) (.ref x :: st) (h) := e_aload_n dX6_missed_83 rfl
theorem iX6_missed_84 {a : Nat} {Ls st : List Value} {h : AH} (hk : hK h a = 6) (hj : (hR h 97 a).isSome = true) : ev L xs mdX6_missed 84 (Ls) (.ref a :: st) h = ev L xs mdX6_missed 87 (Ls) (.ref ((hR h 97 a).getD 0) :: st) (h) := e_getR (k := 6) (f := 1) (F := 97) dX6_missed_84 (by decide +kernel) rfl rfl hk hj
theorem iX6_missed_87 {v0 : Value} {v1 : Value} {x : Int32} {Ls st : List Value} {h : AH} : ev L xs mdX6_missed 87 (v0 :: v1 :: .int x :: Ls) (st) h = ev L xs mdX6_missed 88 (v0 :: v1 :: .int x :: Ls) (.int x :: st) (h) := e_iload_n dX6_missed_87 rfl
theorem iX6_missed_88 {a : Nat} {p0 : Nat} {p1 : Int32} {Ls st : List Value} {h : AH} (hk : hK h a = 6) (hw : wds st ≤ 8) : ev L xs mdX6_missed 88 Ls (.int p1 :: .ref p0 :: .ref a :: st) h = kn L xs mdX6_missed 88 91 Ls st (ev L xs mdX6_openOnDay 0 [.ref a, .ref p0, .int p1, .null, .null] [] h) := e_callV (as := [.int p1, .ref p0]) dX6_missed_88 mr_6_239 (by decide) (by decide) rfl (by simp [wds, Value.category]; decide) rfl (by decide) hk hw
theorem iX6_missed_91 {x : Nat} {Ls st : List Value} {h : AH} : ev L xs mdX6_missed 91 (.ref x :: Ls) (st) h = ev L xs mdX6_missed 92 (.ref x :: Ls) (.ref x :: st) (h) := e_aload_n dX6_missed_91 rfl
theorem iX6_missed_92 {x : Nat} {Ls st : List Value} {h : AH} : ev L xs mdX6_missed 92 (.ref x :: Ls) (st) h = ev L xs mdX6_missed 93 (.ref x :: Ls) (.ref x :: st) (h) := e_aload_n dX6_missed_92 rfl
theorem iX6_missed_93 {a : Nat} {Ls st : List Value} {h : AH} (hk : hK h a = 6) (hj : (hR h 96 a).isSome = true) : ev L xs mdX6_missed 93 (Ls) (.ref a :: st) h = ev L xs mdX6_missed 96 (Ls) (.ref ((hR h 96 a).getD 0) :: st) (h) := e_getR (k := 6) (f := 0) (F := 96) dX6_missed_93 (by decide +kernel) rfl rfl hk hj
theorem iX6_missed_96 {v0 : Value} {v1 : Value} {x : Int32} {Ls st : List Value} {h : AH} : ev L xs mdX6_missed 96 (v0 :: v1 :: .int x :: Ls) (st) h = ev L xs mdX6_missed 97 (v0 :: v1 :: .int x :: Ls) (.int x :: st) (h) := e_iload_n dX6_missed_96 rfl
theorem iX6_missed_97 {a : Nat} {p0 : Nat} {p1 : Int32} {Ls st : List Value} {h : AH} (hk : hK h a = 6) (hw : wds st ≤ 8) : ev L xs mdX6_missed 97 Ls (.int p1 :: .ref p0 :: .ref a :: st) h = kn L xs mdX6_missed 97 100 Ls st (ev L xs mdX6_openOnDay 0 [.ref a, .ref p0, .int p1, .null, .null] [] h) := e_callV (as := [.int p1, .ref p0]) dX6_missed_97 mr_6_239 (by decide) (by decide) rfl (by simp [wds, Value.category]; decide) rfl (by decide) hk hw
theorem iX6_missed_100 {x z : Int32} {Ls st : List Value} {h : AH} : ev L xs mdX6_missed 100 (Ls) (.int z :: .int x :: st) h = ev L xs mdX6_missed 101 (Ls) (.int (x - z) :: st) (h) := e_isub dX6_missed_100
theorem iX6_missed_101 {v : Int32} {Ls : List Value} {h : AH} : ev L xs mdX6_missed 101 Ls [.int v] h = some (.inl (some (.int v), h)) := e_iret dX6_missed_101 rfl
theorem dX6_mixed_0 : decode cX6_mixed 0 = .ok (.ldc2_w 289, 3) := by decide +kernel
theorem dX6_mixed_3 : decode cX6_mixed 3 = .ok (.lload_n 0, 1) := by decide +kernel
theorem dX6_mixed_4 : decode cX6_mixed 4 = .ok (.lmul, 1) := by decide +kernel
theorem dX6_mixed_5 : decode cX6_mixed 5 = .ok (.iload_n 2, 1) := by decide +kernel
theorem dX6_mixed_6 : decode cX6_mixed 6 = .ok (.i2l, 1) := by decide +kernel
theorem dX6_mixed_7 : decode cX6_mixed 7 = .ok (.ladd, 1) := by decide +kernel
theorem dX6_mixed_8 : decode cX6_mixed 8 = .ok (.lreturn, 1) := by decide +kernel
theorem iX6_mixed_0  {Ls st : List Value} {h : AH} : ev L xs mdX6_mixed 0 (Ls) (st) h = ev L xs mdX6_mixed 3 (Ls) (.long (31) :: st) (h) := e_ldc2 dX6_mixed_0 (by decide +kernel)
theorem iX6_mixed_3 {x : Int64} {Ls st : List Value} {h : AH} : ev L xs mdX6_mixed 3 (.long x :: Ls) (st) h = ev L xs mdX6_mixed 4 (.long x :: Ls) (.long x :: st) (h) := e_lload_n dX6_mixed_3 rfl
theorem iX6_mixed_4 {x z : Int64} {Ls st : List Value} {h : AH} : ev L xs mdX6_mixed 4 (Ls) (.long z :: .long x :: st) h = ev L xs mdX6_mixed 5 (Ls) (.long (x * z) :: st) (h) := e_lmul dX6_mixed_4
theorem iX6_mixed_5 {v0 : Value} {v1 : Value} {x : Int32} {Ls st : List Value} {h : AH} : ev L xs mdX6_mixed 5 (v0 :: v1 :: .int x :: Ls) (st) h = ev L xs mdX6_mixed 6 (v0 :: v1 :: .int x :: Ls) (.int x :: st) (h) := e_iload_n dX6_mixed_5 rfl
theorem iX6_mixed_6 {x : Int32} {Ls st : List Value} {h : AH} : ev L xs mdX6_mixed 6 (Ls) (.int x :: st) h = ev L xs mdX6_mixed 7 (Ls) (.long x.toInt64 :: st) (h) := e_i2l dX6_mixed_6
theorem iX6_mixed_7 {x z : Int64} {Ls st : List Value} {h : AH} : ev L xs mdX6_mixed 7 (Ls) (.long z :: .long x :: st) h = ev L xs mdX6_mixed 8 (Ls) (.long (x + z) :: st) (h) := e_ladd dX6_mixed_7
theorem iX6_mixed_8 {v : Int64} {Ls : List Value} {h : AH} : ev L xs mdX6_mixed 8 Ls [.long v] h = some (.inl (some (.long v), h)) := e_lret dX6_mixed_8 rfl
theorem dX6_needed_0 : decode cX6_needed 0 = .ok (.iload_n 1, 1) := by decide +kernel
theorem dX6_needed_1 : decode cX6_needed 1 = .ok (.invokestatic 44, 3) := by decide +kernel
theorem dX6_needed_4 : decode cX6_needed 4 = .ok (.ifCond .eq 10, 3) := by decide +kernel
theorem dX6_needed_7 : decode cX6_needed 7 = .ok (.iload_n 2, 1) := by decide +kernel
theorem dX6_needed_8 : decode cX6_needed 8 = .ok (.invokestatic 191, 3) := by decide +kernel
theorem dX6_needed_11 : decode cX6_needed 11 = .ok (.ifCond .ne 13, 3) := by decide +kernel
theorem dX6_needed_14 : decode cX6_needed 14 = .ok (.new 52, 3) := by decide +kernel
theorem dX6_needed_17 : decode cX6_needed 17 = .ok (.dup, 1) := by decide +kernel
theorem dX6_needed_18 : decode cX6_needed 18 = .ok (.ldc 194, 2) := by decide +kernel
theorem dX6_needed_20 : decode cX6_needed 20 = .ok (.invokespecial 56, 3) := by decide +kernel
theorem dX6_needed_23 : decode cX6_needed 23 = .ok (.athrow, 1) := by decide +kernel
theorem dX6_needed_24 : decode cX6_needed 24 = .ok (.aload_n 0, 1) := by decide +kernel
theorem dX6_needed_25 : decode cX6_needed 25 = .ok (.getfield 12, 3) := by decide +kernel
theorem dX6_needed_28 : decode cX6_needed 28 = .ok (.iload_n 1, 1) := by decide +kernel
theorem dX6_needed_29 : decode cX6_needed 29 = .ok (.iload_n 2, 1) := by decide +kernel
theorem dX6_needed_30 : decode cX6_needed 30 = .ok (.invokevirtual 196, 3) := by decide +kernel
theorem dX6_needed_33 : decode cX6_needed 33 = .ok (.ireturn, 1) := by decide +kernel
theorem iX6_needed_0 {v0 : Value} {x : Int32} {Ls st : List Value} {h : AH} : ev L xs mdX6_needed 0 (v0 :: .int x :: Ls) (st) h = ev L xs mdX6_needed 1 (v0 :: .int x :: Ls) (.int x :: st) (h) := e_iload_n dX6_needed_0 rfl
theorem iX6_needed_1 {p0 : Int32} {Ls st : List Value} {h : AH} (hw : wds st ≤ 8) : ev L xs mdX6_needed 1 Ls (.int p0 :: st) h = kn L xs mdX6_needed 1 4 Ls st (ev L xs mdX6_isDay 0 [.int p0] [] h) := e_callS (as := [.int p0]) dX6_needed_1 mr_6_44 (by decide) (by decide) rfl (by simp [wds, Value.category]; decide) rfl hw
theorem iX6_needed_4 {x : Int32} {Ls st : List Value} {h : AH} : ev L xs mdX6_needed 4 Ls (.int x :: st) h = if x = nI 0 then ev L xs mdX6_needed 14 Ls st h else ev L xs mdX6_needed 7 Ls st h := e_if_eq dX6_needed_4 (by decide)
theorem iX6_needed_7 {v0 : Value} {v1 : Value} {x : Int32} {Ls st : List Value} {h : AH} : ev L xs mdX6_needed 7 (v0 :: v1 :: .int x :: Ls) (st) h = ev L xs mdX6_needed 8 (v0 :: v1 :: .int x :: Ls) (.int x :: st) (h) := e_iload_n dX6_needed_7 rfl
theorem iX6_needed_8 {p0 : Int32} {Ls st : List Value} {h : AH} (hw : wds st ≤ 8) : ev L xs mdX6_needed 8 Ls (.int p0 :: st) h = kn L xs mdX6_needed 8 11 Ls st (ev L xs mdX6_isSession 0 [.int p0] [] h) := e_callS (as := [.int p0]) dX6_needed_8 mr_6_191 (by decide) (by decide) rfl (by simp [wds, Value.category]; decide) rfl hw
theorem iX6_needed_11 {x : Int32} {Ls st : List Value} {h : AH} : ev L xs mdX6_needed 11 Ls (.int x :: st) h = if x = nI 0 then ev L xs mdX6_needed 14 Ls st h else ev L xs mdX6_needed 24 Ls st h := e_if_ne dX6_needed_11 (by decide)
theorem iX6_needed_14 {Ls : List Value} {h : AH} : ev L xs mdX6_needed 14 Ls [] h = some (.inr ("java/lang/IllegalArgumentException", bump h)) := e_throw dX6_needed_14 (by decide +kernel) dX6_needed_17 dX6_needed_18 dX6_needed_20 dX6_needed_23 (by decide +kernel) (by decide +kernel)
theorem iX6_needed_24 {x : Nat} {Ls st : List Value} {h : AH} : ev L xs mdX6_needed 24 (.ref x :: Ls) (st) h = ev L xs mdX6_needed 25 (.ref x :: Ls) (.ref x :: st) (h) := e_aload_n dX6_needed_24 rfl
theorem iX6_needed_25 {a : Nat} {Ls st : List Value} {h : AH} (hk : hK h a = 6) (hj : (hR h 96 a).isSome = true) : ev L xs mdX6_needed 25 (Ls) (.ref a :: st) h = ev L xs mdX6_needed 28 (Ls) (.ref ((hR h 96 a).getD 0) :: st) (h) := e_getR (k := 6) (f := 0) (F := 96) dX6_needed_25 (by decide +kernel) rfl rfl hk hj
theorem iX6_needed_28 {v0 : Value} {x : Int32} {Ls st : List Value} {h : AH} : ev L xs mdX6_needed 28 (v0 :: .int x :: Ls) (st) h = ev L xs mdX6_needed 29 (v0 :: .int x :: Ls) (.int x :: st) (h) := e_iload_n dX6_needed_28 rfl
theorem iX6_needed_29 {v0 : Value} {v1 : Value} {x : Int32} {Ls st : List Value} {h : AH} : ev L xs mdX6_needed 29 (v0 :: v1 :: .int x :: Ls) (st) h = ev L xs mdX6_needed 30 (v0 :: v1 :: .int x :: Ls) (.int x :: st) (h) := e_iload_n dX6_needed_29 rfl
theorem iX6_needed_30 {a : Nat} {p0 : Int32} {p1 : Int32} {Ls st : List Value} {h : AH} (hk : hK h a = 5) (hw : wds st ≤ 8) : ev L xs mdX6_needed 30 Ls (.int p1 :: .int p0 :: .ref a :: st) h = kn L xs mdX6_needed 30 33 Ls st (ev L xs mdX5_neededPosts 0 [.ref a, .int p0, .int p1, .null, .null, .null] [] h) := e_callV (as := [.int p1, .int p0]) dX6_needed_30 mr_6_196 (by decide) (by decide) rfl (by simp [wds, Value.category]; decide) rfl (by decide) hk hw
theorem iX6_needed_33 {v : Int32} {Ls : List Value} {h : AH} : ev L xs mdX6_needed 33 Ls [.int v] h = some (.inl (some (.int v), h)) := e_iret dX6_needed_33 rfl
theorem dX6_open_0 : decode cX6_open 0 = .ok (.iload_n 1, 1) := by decide +kernel
theorem dX6_open_1 : decode cX6_open 1 = .ok (.invokestatic 44, 3) := by decide +kernel
theorem dX6_open_4 : decode cX6_open 4 = .ok (.ifCond .eq 10, 3) := by decide +kernel
theorem dX6_open_7 : decode cX6_open 7 = .ok (.iload_n 2, 1) := by decide +kernel
theorem dX6_open_8 : decode cX6_open 8 = .ok (.invokestatic 191, 3) := by decide +kernel
theorem dX6_open_11 : decode cX6_open 11 = .ok (.ifCond .ne 13, 3) := by decide +kernel
theorem dX6_open_14 : decode cX6_open 14 = .ok (.new 52, 3) := by decide +kernel
theorem dX6_open_17 : decode cX6_open 17 = .ok (.dup, 1) := by decide +kernel
theorem dX6_open_18 : decode cX6_open 18 = .ok (.ldc 194, 2) := by decide +kernel
theorem dX6_open_20 : decode cX6_open 20 = .ok (.invokespecial 56, 3) := by decide +kernel
theorem dX6_open_23 : decode cX6_open 23 = .ok (.athrow, 1) := by decide +kernel
theorem dX6_open_24 : decode cX6_open 24 = .ok (.aload_n 0, 1) := by decide +kernel
theorem dX6_open_25 : decode cX6_open 25 = .ok (.getfield 26, 3) := by decide +kernel
theorem dX6_open_28 : decode cX6_open 28 = .ok (.aload_n 0, 1) := by decide +kernel
theorem dX6_open_29 : decode cX6_open 29 = .ok (.getfield 12, 3) := by decide +kernel
theorem dX6_open_32 : decode cX6_open 32 = .ok (.iload_n 1, 1) := by decide +kernel
theorem dX6_open_33 : decode cX6_open 33 = .ok (.iload_n 2, 1) := by decide +kernel
theorem dX6_open_34 : decode cX6_open 34 = .ok (.invokevirtual 199, 3) := by decide +kernel
theorem dX6_open_37 : decode cX6_open 37 = .ok (.aload_n 0, 1) := by decide +kernel
theorem dX6_open_38 : decode cX6_open 38 = .ok (.getfield 26, 3) := by decide +kernel
theorem dX6_open_41 : decode cX6_open 41 = .ok (.getfield 203, 3) := by decide +kernel
theorem dX6_open_44 : decode cX6_open 44 = .ok (.ireturn, 1) := by decide +kernel
theorem iX6_open_0 {v0 : Value} {x : Int32} {Ls st : List Value} {h : AH} : ev L xs mdX6_open 0 (v0 :: .int x :: Ls) (st) h = ev L xs mdX6_open 1 (v0 :: .int x :: Ls) (.int x :: st) (h) := e_iload_n dX6_open_0 rfl
theorem iX6_open_1 {p0 : Int32} {Ls st : List Value} {h : AH} (hw : wds st ≤ 8) : ev L xs mdX6_open 1 Ls (.int p0 :: st) h = kn L xs mdX6_open 1 4 Ls st (ev L xs mdX6_isDay 0 [.int p0] [] h) := e_callS (as := [.int p0]) dX6_open_1 mr_6_44 (by decide) (by decide) rfl (by simp [wds, Value.category]; decide) rfl hw
theorem iX6_open_4 {x : Int32} {Ls st : List Value} {h : AH} : ev L xs mdX6_open 4 Ls (.int x :: st) h = if x = nI 0 then ev L xs mdX6_open 14 Ls st h else ev L xs mdX6_open 7 Ls st h := e_if_eq dX6_open_4 (by decide)
theorem iX6_open_7 {v0 : Value} {v1 : Value} {x : Int32} {Ls st : List Value} {h : AH} : ev L xs mdX6_open 7 (v0 :: v1 :: .int x :: Ls) (st) h = ev L xs mdX6_open 8 (v0 :: v1 :: .int x :: Ls) (.int x :: st) (h) := e_iload_n dX6_open_7 rfl
theorem iX6_open_8 {p0 : Int32} {Ls st : List Value} {h : AH} (hw : wds st ≤ 8) : ev L xs mdX6_open 8 Ls (.int p0 :: st) h = kn L xs mdX6_open 8 11 Ls st (ev L xs mdX6_isSession 0 [.int p0] [] h) := e_callS (as := [.int p0]) dX6_open_8 mr_6_191 (by decide) (by decide) rfl (by simp [wds, Value.category]; decide) rfl hw
theorem iX6_open_11 {x : Int32} {Ls st : List Value} {h : AH} : ev L xs mdX6_open 11 Ls (.int x :: st) h = if x = nI 0 then ev L xs mdX6_open 14 Ls st h else ev L xs mdX6_open 24 Ls st h := e_if_ne dX6_open_11 (by decide)
theorem iX6_open_14 {Ls : List Value} {h : AH} : ev L xs mdX6_open 14 Ls [] h = some (.inr ("java/lang/IllegalArgumentException", bump h)) := e_throw dX6_open_14 (by decide +kernel) dX6_open_17 dX6_open_18 dX6_open_20 dX6_open_23 (by decide +kernel) (by decide +kernel)
theorem iX6_open_24 {x : Nat} {Ls st : List Value} {h : AH} : ev L xs mdX6_open 24 (.ref x :: Ls) (st) h = ev L xs mdX6_open 25 (.ref x :: Ls) (.ref x :: st) (h) := e_aload_n dX6_open_24 rfl
theorem iX6_open_25 {a : Nat} {Ls st : List Value} {h : AH} (hk : hK h a = 6) (hj : (hR h 100 a).isSome = true) : ev L xs mdX6_open 25 (Ls) (.ref a :: st) h = ev L xs mdX6_open 28 (Ls) (.ref ((hR h 100 a).getD 0) :: st) (h) := e_getR (k := 6) (f := 4) (F := 100) dX6_open_25 (by decide +kernel) rfl rfl hk hj
theorem iX6_open_28 {x : Nat} {Ls st : List Value} {h : AH} : ev L xs mdX6_open 28 (.ref x :: Ls) (st) h = ev L xs mdX6_open 29 (.ref x :: Ls) (.ref x :: st) (h) := e_aload_n dX6_open_28 rfl
theorem iX6_open_29 {a : Nat} {Ls st : List Value} {h : AH} (hk : hK h a = 6) (hj : (hR h 96 a).isSome = true) : ev L xs mdX6_open 29 (Ls) (.ref a :: st) h = ev L xs mdX6_open 32 (Ls) (.ref ((hR h 96 a).getD 0) :: st) (h) := e_getR (k := 6) (f := 0) (F := 96) dX6_open_29 (by decide +kernel) rfl rfl hk hj
theorem iX6_open_32 {v0 : Value} {x : Int32} {Ls st : List Value} {h : AH} : ev L xs mdX6_open 32 (v0 :: .int x :: Ls) (st) h = ev L xs mdX6_open 33 (v0 :: .int x :: Ls) (.int x :: st) (h) := e_iload_n dX6_open_32 rfl
theorem iX6_open_33 {v0 : Value} {v1 : Value} {x : Int32} {Ls st : List Value} {h : AH} : ev L xs mdX6_open 33 (v0 :: v1 :: .int x :: Ls) (st) h = ev L xs mdX6_open 34 (v0 :: v1 :: .int x :: Ls) (.int x :: st) (h) := e_iload_n dX6_open_33 rfl
theorem iX6_open_34 {a : Nat} {p0 : Nat} {p1 : Int32} {p2 : Int32} {Ls st : List Value} {h : AH} (hk : hK h a = 4) (hw : wds st ≤ 8) : ev L xs mdX6_open 34 Ls (.int p2 :: .int p1 :: .ref p0 :: .ref a :: st) h = kn L xs mdX6_open 34 37 Ls st (ev L xs mdX4_draw 0 [.ref a, .ref p0, .int p1, .int p2, .null, .null, .null, .null] [] h) := e_callV (as := [.int p2, .int p1, .ref p0]) dX6_open_34 mr_6_199 (by decide) (by decide) rfl (by simp [wds, Value.category]; decide) rfl (by decide) hk hw
theorem iX6_open_37 {x : Nat} {Ls st : List Value} {h : AH} : ev L xs mdX6_open 37 (.ref x :: Ls) (st) h = ev L xs mdX6_open 38 (.ref x :: Ls) (.ref x :: st) (h) := e_aload_n dX6_open_37 rfl
theorem iX6_open_38 {a : Nat} {Ls st : List Value} {h : AH} (hk : hK h a = 6) (hj : (hR h 100 a).isSome = true) : ev L xs mdX6_open 38 (Ls) (.ref a :: st) h = ev L xs mdX6_open 41 (Ls) (.ref ((hR h 100 a).getD 0) :: st) (h) := e_getR (k := 6) (f := 4) (F := 100) dX6_open_38 (by decide +kernel) rfl rfl hk hj
theorem iX6_open_41 {a : Nat} {Ls st : List Value} {h : AH} (hk : hK h a = 4) : ev L xs mdX6_open 41 (Ls) (.ref a :: st) h = ev L xs mdX6_open 44 (Ls) (.int (hI h 67 a) :: st) (h) := e_getI (k := 4) (f := 3) (F := 67) dX6_open_41 (by decide +kernel) rfl rfl hk
theorem iX6_open_44 {v : Int32} {Ls : List Value} {h : AH} : ev L xs mdX6_open 44 Ls [.int v] h = some (.inl (some (.int v), h)) := e_iret dX6_open_44 rfl
theorem dX6_openOnDay_0 : decode cX6_openOnDay 0 = .ok (.iconst 0, 1) := by decide +kernel
theorem dX6_openOnDay_1 : decode cX6_openOnDay 1 = .ok (.istore_n 3, 1) := by decide +kernel
theorem dX6_openOnDay_2 : decode cX6_openOnDay 2 = .ok (.iconst 0, 1) := by decide +kernel
theorem dX6_openOnDay_3 : decode cX6_openOnDay 3 = .ok (.istore 4, 2) := by decide +kernel
theorem dX6_openOnDay_5 : decode cX6_openOnDay 5 = .ok (.iload 4, 2) := by decide +kernel
theorem dX6_openOnDay_7 : decode cX6_openOnDay 7 = .ok (.iconst 2, 1) := by decide +kernel
theorem dX6_openOnDay_8 : decode cX6_openOnDay 8 = .ok (.if_icmp .ge 33, 3) := by decide +kernel
theorem dX6_openOnDay_11 : decode cX6_openOnDay 11 = .ok (.aload_n 0, 1) := by decide +kernel
theorem dX6_openOnDay_12 : decode cX6_openOnDay 12 = .ok (.getfield 26, 3) := by decide +kernel
theorem dX6_openOnDay_15 : decode cX6_openOnDay 15 = .ok (.aload_n 1, 1) := by decide +kernel
theorem dX6_openOnDay_16 : decode cX6_openOnDay 16 = .ok (.iload_n 2, 1) := by decide +kernel
theorem dX6_openOnDay_17 : decode cX6_openOnDay 17 = .ok (.iload 4, 2) := by decide +kernel
theorem dX6_openOnDay_19 : decode cX6_openOnDay 19 = .ok (.invokevirtual 199, 3) := by decide +kernel
theorem dX6_openOnDay_22 : decode cX6_openOnDay 22 = .ok (.iload_n 3, 1) := by decide +kernel
theorem dX6_openOnDay_23 : decode cX6_openOnDay 23 = .ok (.aload_n 0, 1) := by decide +kernel
theorem dX6_openOnDay_24 : decode cX6_openOnDay 24 = .ok (.getfield 26, 3) := by decide +kernel
theorem dX6_openOnDay_27 : decode cX6_openOnDay 27 = .ok (.getfield 203, 3) := by decide +kernel
theorem dX6_openOnDay_30 : decode cX6_openOnDay 30 = .ok (.invokestatic 291, 3) := by decide +kernel
theorem dX6_openOnDay_33 : decode cX6_openOnDay 33 = .ok (.iadd, 1) := by decide +kernel
theorem dX6_openOnDay_34 : decode cX6_openOnDay 34 = .ok (.istore_n 3, 1) := by decide +kernel
theorem dX6_openOnDay_35 : decode cX6_openOnDay 35 = .ok (.iinc 4 1, 3) := by decide +kernel
theorem dX6_openOnDay_38 : decode cX6_openOnDay 38 = .ok (.goto (-33), 3) := by decide +kernel
theorem dX6_openOnDay_41 : decode cX6_openOnDay 41 = .ok (.iload_n 3, 1) := by decide +kernel
theorem dX6_openOnDay_42 : decode cX6_openOnDay 42 = .ok (.ireturn, 1) := by decide +kernel
theorem iX6_openOnDay_0  {Ls st : List Value} {h : AH} : ev L xs mdX6_openOnDay 0 (Ls) (st) h = ev L xs mdX6_openOnDay 1 (Ls) (.int (nI 0) :: st) (h) := e_iconst dX6_openOnDay_0 (by decide)
theorem iX6_openOnDay_1 {v0 : Value} {v1 : Value} {v2 : Value} {v3 : Value} {x : Int32} {Ls st : List Value} {h : AH} (hc9 : v2.category = 1) : ev L xs mdX6_openOnDay 1 (v0 :: v1 :: v2 :: v3 :: Ls) (.int x :: st) h = ev L xs mdX6_openOnDay 2 (v0 :: v1 :: v2 :: .int x :: Ls) (st) (h) := e_istore_n dX6_openOnDay_1 rfl (by decide) (by unfold catOK; show (_ || (v2.category == 1)) = true; rw [hc9]; rfl)
theorem iX6_openOnDay_2  {Ls st : List Value} {h : AH} : ev L xs mdX6_openOnDay 2 (Ls) (st) h = ev L xs mdX6_openOnDay 3 (Ls) (.int (nI 0) :: st) (h) := e_iconst dX6_openOnDay_2 (by decide)
theorem iX6_openOnDay_3 {v0 : Value} {v1 : Value} {v2 : Value} {v3 : Value} {v4 : Value} {x : Int32} {Ls st : List Value} {h : AH} (hc9 : v3.category = 1) : ev L xs mdX6_openOnDay 3 (v0 :: v1 :: v2 :: v3 :: v4 :: Ls) (.int x :: st) h = ev L xs mdX6_openOnDay 5 (v0 :: v1 :: v2 :: v3 :: .int x :: Ls) (st) (h) := e_istore dX6_openOnDay_3 rfl (by decide) (by unfold catOK; show (_ || (v3.category == 1)) = true; rw [hc9]; rfl)
theorem iX6_openOnDay_5 {v0 : Value} {v1 : Value} {v2 : Value} {v3 : Value} {x : Int32} {Ls st : List Value} {h : AH} : ev L xs mdX6_openOnDay 5 (v0 :: v1 :: v2 :: v3 :: .int x :: Ls) (st) h = ev L xs mdX6_openOnDay 7 (v0 :: v1 :: v2 :: v3 :: .int x :: Ls) (.int x :: st) (h) := e_iload dX6_openOnDay_5 rfl
theorem iX6_openOnDay_7  {Ls st : List Value} {h : AH} : ev L xs mdX6_openOnDay 7 (Ls) (st) h = ev L xs mdX6_openOnDay 8 (Ls) (.int (nI 2) :: st) (h) := e_iconst dX6_openOnDay_7 (by decide)
theorem iX6_openOnDay_8 {x z : Int32} {Ls st : List Value} {h : AH} : ev L xs mdX6_openOnDay 8 Ls (.int z :: .int x :: st) h = if z ≤ x then ev L xs mdX6_openOnDay 41 Ls st h else ev L xs mdX6_openOnDay 11 Ls st h := e_ic_ge dX6_openOnDay_8 (by decide)
theorem iX6_openOnDay_11 {x : Nat} {Ls st : List Value} {h : AH} : ev L xs mdX6_openOnDay 11 (.ref x :: Ls) (st) h = ev L xs mdX6_openOnDay 12 (.ref x :: Ls) (.ref x :: st) (h) := e_aload_n dX6_openOnDay_11 rfl
theorem iX6_openOnDay_12 {a : Nat} {Ls st : List Value} {h : AH} (hk : hK h a = 6) (hj : (hR h 100 a).isSome = true) : ev L xs mdX6_openOnDay 12 (Ls) (.ref a :: st) h = ev L xs mdX6_openOnDay 15 (Ls) (.ref ((hR h 100 a).getD 0) :: st) (h) := e_getR (k := 6) (f := 4) (F := 100) dX6_openOnDay_12 (by decide +kernel) rfl rfl hk hj
theorem iX6_openOnDay_15 {v0 : Value} {x : Nat} {Ls st : List Value} {h : AH} : ev L xs mdX6_openOnDay 15 (v0 :: .ref x :: Ls) (st) h = ev L xs mdX6_openOnDay 16 (v0 :: .ref x :: Ls) (.ref x :: st) (h) := e_aload_n dX6_openOnDay_15 rfl
theorem iX6_openOnDay_16 {v0 : Value} {v1 : Value} {x : Int32} {Ls st : List Value} {h : AH} : ev L xs mdX6_openOnDay 16 (v0 :: v1 :: .int x :: Ls) (st) h = ev L xs mdX6_openOnDay 17 (v0 :: v1 :: .int x :: Ls) (.int x :: st) (h) := e_iload_n dX6_openOnDay_16 rfl
theorem iX6_openOnDay_17 {v0 : Value} {v1 : Value} {v2 : Value} {v3 : Value} {x : Int32} {Ls st : List Value} {h : AH} : ev L xs mdX6_openOnDay 17 (v0 :: v1 :: v2 :: v3 :: .int x :: Ls) (st) h = ev L xs mdX6_openOnDay 19 (v0 :: v1 :: v2 :: v3 :: .int x :: Ls) (.int x :: st) (h) := e_iload dX6_openOnDay_17 rfl
theorem iX6_openOnDay_19 {a : Nat} {p0 : Nat} {p1 : Int32} {p2 : Int32} {Ls st : List Value} {h : AH} (hk : hK h a = 4) (hw : wds st ≤ 8) : ev L xs mdX6_openOnDay 19 Ls (.int p2 :: .int p1 :: .ref p0 :: .ref a :: st) h = kn L xs mdX6_openOnDay 19 22 Ls st (ev L xs mdX4_draw 0 [.ref a, .ref p0, .int p1, .int p2, .null, .null, .null, .null] [] h) := e_callV (as := [.int p2, .int p1, .ref p0]) dX6_openOnDay_19 mr_6_199 (by decide) (by decide) rfl (by simp [wds, Value.category]; decide) rfl (by decide) hk hw
theorem iX6_openOnDay_22 {v0 : Value} {v1 : Value} {v2 : Value} {x : Int32} {Ls st : List Value} {h : AH} : ev L xs mdX6_openOnDay 22 (v0 :: v1 :: v2 :: .int x :: Ls) (st) h = ev L xs mdX6_openOnDay 23 (v0 :: v1 :: v2 :: .int x :: Ls) (.int x :: st) (h) := e_iload_n dX6_openOnDay_22 rfl
theorem iX6_openOnDay_23 {x : Nat} {Ls st : List Value} {h : AH} : ev L xs mdX6_openOnDay 23 (.ref x :: Ls) (st) h = ev L xs mdX6_openOnDay 24 (.ref x :: Ls) (.ref x :: st) (h) := e_aload_n dX6_openOnDay_23 rfl
theorem iX6_openOnDay_24 {a : Nat} {Ls st : List Value} {h : AH} (hk : hK h a = 6) (hj : (hR h 100 a).isSome = true) : ev L xs mdX6_openOnDay 24 (Ls) (.ref a :: st) h = ev L xs mdX6_openOnDay 27 (Ls) (.ref ((hR h 100 a).getD 0) :: st) (h) := e_getR (k := 6) (f := 4) (F := 100) dX6_openOnDay_24 (by decide +kernel) rfl rfl hk hj
theorem iX6_openOnDay_27 {a : Nat} {Ls st : List Value} {h : AH} (hk : hK h a = 4) : ev L xs mdX6_openOnDay 27 (Ls) (.ref a :: st) h = ev L xs mdX6_openOnDay 30 (Ls) (.int (hI h 67 a) :: st) (h) := e_getI (k := 4) (f := 3) (F := 67) dX6_openOnDay_27 (by decide +kernel) rfl rfl hk
theorem iX6_openOnDay_30 {p0 : Int32} {Ls st : List Value} {h : AH} (hw : wds st ≤ 8) : ev L xs mdX6_openOnDay 30 Ls (.int p0 :: st) h = kn L xs mdX6_openOnDay 30 33 Ls st (ev L xs mdJ6_bitCount_0f7a4 0 [.int p0] [] h) := e_callS (as := [.int p0]) dX6_openOnDay_30 mr_6_291 (by decide) (by decide) rfl (by simp [wds, Value.category]; decide) rfl hw
theorem iX6_openOnDay_33 {x z : Int32} {Ls st : List Value} {h : AH} : ev L xs mdX6_openOnDay 33 (Ls) (.int z :: .int x :: st) h = ev L xs mdX6_openOnDay 34 (Ls) (.int (x + z) :: st) (h) := e_iadd dX6_openOnDay_33
theorem iX6_openOnDay_34 {v0 : Value} {v1 : Value} {v2 : Value} {v3 : Value} {x : Int32} {Ls st : List Value} {h : AH} (hc9 : v2.category = 1) : ev L xs mdX6_openOnDay 34 (v0 :: v1 :: v2 :: v3 :: Ls) (.int x :: st) h = ev L xs mdX6_openOnDay 35 (v0 :: v1 :: v2 :: .int x :: Ls) (st) (h) := e_istore_n dX6_openOnDay_34 rfl (by decide) (by unfold catOK; show (_ || (v2.category == 1)) = true; rw [hc9]; rfl)
theorem iX6_openOnDay_35 {v0 : Value} {v1 : Value} {v2 : Value} {v3 : Value} {x : Int32} {Ls st : List Value} {h : AH} (hc9 : v3.category = 1) : ev L xs mdX6_openOnDay 35 (v0 :: v1 :: v2 :: v3 :: .int x :: Ls) (st) h = ev L xs mdX6_openOnDay 38 (v0 :: v1 :: v2 :: v3 :: .int (x + (nI 1)) :: Ls) (st) (h) := e_iinc dX6_openOnDay_35 rfl rfl rfl (by decide) (by unfold catOK; show (_ || (v3.category == 1)) = true; rw [hc9]; rfl)
theorem iX6_openOnDay_38  {Ls st : List Value} {h : AH} : ev L xs mdX6_openOnDay 38 (Ls) (st) h = ev L xs mdX6_openOnDay 5 (Ls) (st) (h) := e_goto dX6_openOnDay_38 (by decide)
theorem iX6_openOnDay_41 {v0 : Value} {v1 : Value} {v2 : Value} {x : Int32} {Ls st : List Value} {h : AH} : ev L xs mdX6_openOnDay 41 (v0 :: v1 :: v2 :: .int x :: Ls) (st) h = ev L xs mdX6_openOnDay 42 (v0 :: v1 :: v2 :: .int x :: Ls) (.int x :: st) (h) := e_iload_n dX6_openOnDay_41 rfl
theorem iX6_openOnDay_42 {v : Int32} {Ls : List Value} {h : AH} : ev L xs mdX6_openOnDay 42 Ls [.int v] h = some (.inl (some (.int v), h)) := e_iret dX6_openOnDay_42 rfl
theorem dX6_pass_0 : decode cX6_pass 0 = .ok (.iload_n 1, 1) := by decide +kernel
theorem dX6_pass_1 : decode cX6_pass 1 = .ok (.iconst 1, 1) := by decide +kernel
theorem dX6_pass_2 : decode cX6_pass 2 = .ok (.bipush 60, 2) := by decide +kernel
theorem dX6_pass_4 : decode cX6_pass 4 = .ok (.invokestatic 48, 3) := by decide +kernel
theorem dX6_pass_7 : decode cX6_pass 7 = .ok (.ifCond .ne 13, 3) := by decide +kernel
theorem dX6_pass_10 : decode cX6_pass 10 = .ok (.new 52, 3) := by decide +kernel
theorem dX6_pass_13 : decode cX6_pass 13 = .ok (.dup, 1) := by decide +kernel
theorem dX6_pass_14 : decode cX6_pass 14 = .ok (.ldc 140, 2) := by decide +kernel
theorem dX6_pass_16 : decode cX6_pass 16 = .ok (.invokespecial 56, 3) := by decide +kernel
theorem dX6_pass_19 : decode cX6_pass 19 = .ok (.athrow, 1) := by decide +kernel
theorem dX6_pass_20 : decode cX6_pass 20 = .ok (.aload_n 0, 1) := by decide +kernel
theorem dX6_pass_21 : decode cX6_pass 21 = .ok (.getfield 12, 3) := by decide +kernel
theorem dX6_pass_24 : decode cX6_pass 24 = .ok (.iload_n 1, 1) := by decide +kernel
theorem dX6_pass_25 : decode cX6_pass 25 = .ok (.invokevirtual 163, 3) := by decide +kernel
theorem dX6_pass_28 : decode cX6_pass 28 = .ok (.ifCond .ne 13, 3) := by decide +kernel
theorem dX6_pass_31 : decode cX6_pass 31 = .ok (.new 63, 3) := by decide +kernel
theorem dX6_pass_34 : decode cX6_pass 34 = .ok (.dup, 1) := by decide +kernel
theorem dX6_pass_35 : decode cX6_pass 35 = .ok (.ldc 166, 2) := by decide +kernel
theorem dX6_pass_37 : decode cX6_pass 37 = .ok (.invokespecial 67, 3) := by decide +kernel
theorem dX6_pass_40 : decode cX6_pass 40 = .ok (.athrow, 1) := by decide +kernel
theorem dX6_pass_41 : decode cX6_pass 41 = .ok (.aload_n 0, 1) := by decide +kernel
theorem dX6_pass_42 : decode cX6_pass 42 = .ok (.invokevirtual 68, 3) := by decide +kernel
theorem dX6_pass_45 : decode cX6_pass 45 = .ok (.aload_n 0, 1) := by decide +kernel
theorem dX6_pass_46 : decode cX6_pass 46 = .ok (.getfield 12, 3) := by decide +kernel
theorem dX6_pass_49 : decode cX6_pass 49 = .ok (.iload_n 1, 1) := by decide +kernel
theorem dX6_pass_50 : decode cX6_pass 50 = .ok (.aload_n 0, 1) := by decide +kernel
theorem dX6_pass_51 : decode cX6_pass 51 = .ok (.getfield 26, 3) := by decide +kernel
theorem dX6_pass_54 : decode cX6_pass 54 = .ok (.invokevirtual 168, 3) := by decide +kernel
theorem dX6_pass_57 : decode cX6_pass 57 = .ok (.ireturn, 1) := by decide +kernel
theorem iX6_pass_0 {v0 : Value} {x : Int32} {Ls st : List Value} {h : AH} : ev L xs mdX6_pass 0 (v0 :: .int x :: Ls) (st) h = ev L xs mdX6_pass 1 (v0 :: .int x :: Ls) (.int x :: st) (h) := e_iload_n dX6_pass_0 rfl
theorem iX6_pass_1  {Ls st : List Value} {h : AH} : ev L xs mdX6_pass 1 (Ls) (st) h = ev L xs mdX6_pass 2 (Ls) (.int (nI 1) :: st) (h) := e_iconst dX6_pass_1 (by decide)
theorem iX6_pass_2  {Ls st : List Value} {h : AH} : ev L xs mdX6_pass 2 (Ls) (st) h = ev L xs mdX6_pass 4 (Ls) (.int (nI 60) :: st) (h) := e_bipush dX6_pass_2 (by decide)
theorem iX6_pass_4 {p0 : Int32} {p1 : Int32} {p2 : Int32} {Ls st : List Value} {h : AH} (hw : wds st ≤ 8) : ev L xs mdX6_pass 4 Ls (.int p2 :: .int p1 :: .int p0 :: st) h = kn L xs mdX6_pass 4 7 Ls st (ev L xs mdX6_isWithin 0 [.int p0, .int p1, .int p2] [] h) := e_callS (as := [.int p2, .int p1, .int p0]) dX6_pass_4 mr_6_48 (by decide) (by decide) rfl (by simp [wds, Value.category]; decide) rfl hw
theorem iX6_pass_7 {x : Int32} {Ls st : List Value} {h : AH} : ev L xs mdX6_pass 7 Ls (.int x :: st) h = if x = nI 0 then ev L xs mdX6_pass 10 Ls st h else ev L xs mdX6_pass 20 Ls st h := e_if_ne dX6_pass_7 (by decide)
theorem iX6_pass_10 {Ls : List Value} {h : AH} : ev L xs mdX6_pass 10 Ls [] h = some (.inr ("java/lang/IllegalArgumentException", bump h)) := e_throw dX6_pass_10 (by decide +kernel) dX6_pass_13 dX6_pass_14 dX6_pass_16 dX6_pass_19 (by decide +kernel) (by decide +kernel)
theorem iX6_pass_20 {x : Nat} {Ls st : List Value} {h : AH} : ev L xs mdX6_pass 20 (.ref x :: Ls) (st) h = ev L xs mdX6_pass 21 (.ref x :: Ls) (.ref x :: st) (h) := e_aload_n dX6_pass_20 rfl
theorem iX6_pass_21 {a : Nat} {Ls st : List Value} {h : AH} (hk : hK h a = 6) (hj : (hR h 96 a).isSome = true) : ev L xs mdX6_pass 21 (Ls) (.ref a :: st) h = ev L xs mdX6_pass 24 (Ls) (.ref ((hR h 96 a).getD 0) :: st) (h) := e_getR (k := 6) (f := 0) (F := 96) dX6_pass_21 (by decide +kernel) rfl rfl hk hj
theorem iX6_pass_24 {v0 : Value} {x : Int32} {Ls st : List Value} {h : AH} : ev L xs mdX6_pass 24 (v0 :: .int x :: Ls) (st) h = ev L xs mdX6_pass 25 (v0 :: .int x :: Ls) (.int x :: st) (h) := e_iload_n dX6_pass_24 rfl
theorem iX6_pass_25 {a : Nat} {p0 : Int32} {Ls st : List Value} {h : AH} (hk : hK h a = 5) (hw : wds st ≤ 8) : ev L xs mdX6_pass 25 Ls (.int p0 :: .ref a :: st) h = kn L xs mdX6_pass 25 28 Ls st (ev L xs mdX5_allowsDays 0 [.ref a, .int p0] [] h) := e_callV (as := [.int p0]) dX6_pass_25 mr_6_163 (by decide) (by decide) rfl (by simp [wds, Value.category]; decide) rfl (by decide) hk hw
theorem iX6_pass_28 {x : Int32} {Ls st : List Value} {h : AH} : ev L xs mdX6_pass 28 Ls (.int x :: st) h = if x = nI 0 then ev L xs mdX6_pass 31 Ls st h else ev L xs mdX6_pass 41 Ls st h := e_if_ne dX6_pass_28 (by decide)
theorem iX6_pass_31 {Ls : List Value} {h : AH} : ev L xs mdX6_pass 31 Ls [] h = some (.inr ("java/lang/IllegalStateException", bump h)) := e_throw dX6_pass_31 (by decide +kernel) dX6_pass_34 dX6_pass_35 dX6_pass_37 dX6_pass_40 (by decide +kernel) (by decide +kernel)
theorem iX6_pass_41 {x : Nat} {Ls st : List Value} {h : AH} : ev L xs mdX6_pass 41 (.ref x :: Ls) (st) h = ev L xs mdX6_pass 42 (.ref x :: Ls) (.ref x :: st) (h) := e_aload_n dX6_pass_41 rfl
theorem iX6_pass_42 {a : Nat} {Ls st : List Value} {h : AH} (hk : hK h a = 6) (hw : wds st ≤ 8) : ev L xs mdX6_pass 42 Ls (.ref a :: st) h = kn L xs mdX6_pass 42 45 Ls st (ev L xs mdX6_save 0 [.ref a, .null, .null] [] h) := e_callV (as := []) dX6_pass_42 mr_6_68 (by decide) (by decide) rfl (by simp [wds, Value.category]; decide) rfl (by decide) hk hw
theorem iX6_pass_45 {x : Nat} {Ls st : List Value} {h : AH} : ev L xs mdX6_pass 45 (.ref x :: Ls) (st) h = ev L xs mdX6_pass 46 (.ref x :: Ls) (.ref x :: st) (h) := e_aload_n dX6_pass_45 rfl
theorem iX6_pass_46 {a : Nat} {Ls st : List Value} {h : AH} (hk : hK h a = 6) (hj : (hR h 96 a).isSome = true) : ev L xs mdX6_pass 46 (Ls) (.ref a :: st) h = ev L xs mdX6_pass 49 (Ls) (.ref ((hR h 96 a).getD 0) :: st) (h) := e_getR (k := 6) (f := 0) (F := 96) dX6_pass_46 (by decide +kernel) rfl rfl hk hj
theorem iX6_pass_49 {v0 : Value} {x : Int32} {Ls st : List Value} {h : AH} : ev L xs mdX6_pass 49 (v0 :: .int x :: Ls) (st) h = ev L xs mdX6_pass 50 (v0 :: .int x :: Ls) (.int x :: st) (h) := e_iload_n dX6_pass_49 rfl
theorem iX6_pass_50 {x : Nat} {Ls st : List Value} {h : AH} : ev L xs mdX6_pass 50 (.ref x :: Ls) (st) h = ev L xs mdX6_pass 51 (.ref x :: Ls) (.ref x :: st) (h) := e_aload_n dX6_pass_50 rfl
theorem iX6_pass_51 {a : Nat} {Ls st : List Value} {h : AH} (hk : hK h a = 6) (hj : (hR h 100 a).isSome = true) : ev L xs mdX6_pass 51 (Ls) (.ref a :: st) h = ev L xs mdX6_pass 54 (Ls) (.ref ((hR h 100 a).getD 0) :: st) (h) := e_getR (k := 6) (f := 4) (F := 100) dX6_pass_51 (by decide +kernel) rfl rfl hk hj
theorem iX6_pass_54 {a : Nat} {p0 : Int32} {p1 : Nat} {Ls st : List Value} {h : AH} (hk : hK h a = 5) (hw : wds st ≤ 8) : ev L xs mdX6_pass 54 Ls (.ref p1 :: .int p0 :: .ref a :: st) h = kn L xs mdX6_pass 54 57 Ls st (ev L xs mdX5_takeDays 0 [.ref a, .int p0, .ref p1, .null, .null, .null] [] h) := e_callV (as := [.ref p1, .int p0]) dX6_pass_54 mr_6_168 (by decide) (by decide) rfl (by simp [wds, Value.category]; decide) rfl (by decide) hk hw
theorem iX6_pass_57 {v : Int32} {Ls : List Value} {h : AH} : ev L xs mdX6_pass 57 Ls [.int v] h = some (.inl (some (.int v), h)) := e_iret dX6_pass_57 rfl
theorem dX6_post_0 : decode cX6_post 0 = .ok (.aload_n 0, 1) := by decide +kernel
theorem dX6_post_1 : decode cX6_post 1 = .ok (.getfield 12, 3) := by decide +kernel
theorem dX6_post_4 : decode cX6_post 4 = .ok (.iload_n 1, 1) := by decide +kernel
theorem dX6_post_5 : decode cX6_post 5 = .ok (.invokevirtual 88, 3) := by decide +kernel
theorem dX6_post_8 : decode cX6_post 8 = .ok (.ifCond .ne 13, 3) := by decide +kernel
theorem dX6_post_11 : decode cX6_post 11 = .ok (.new 91, 3) := by decide +kernel
theorem dX6_post_14 : decode cX6_post 14 = .ok (.dup, 1) := by decide +kernel
theorem dX6_post_15 : decode cX6_post 15 = .ok (.ldc 93, 2) := by decide +kernel
theorem dX6_post_17 : decode cX6_post 17 = .ok (.invokespecial 95, 3) := by decide +kernel
theorem dX6_post_20 : decode cX6_post 20 = .ok (.athrow, 1) := by decide +kernel
theorem dX6_post_21 : decode cX6_post 21 = .ok (.iload_n 2, 1) := by decide +kernel
theorem dX6_post_22 : decode cX6_post 22 = .ok (.iconst 0, 1) := by decide +kernel
theorem dX6_post_23 : decode cX6_post 23 = .ok (.bipush 8, 2) := by decide +kernel
theorem dX6_post_25 : decode cX6_post 25 = .ok (.invokestatic 48, 3) := by decide +kernel
theorem dX6_post_28 : decode cX6_post 28 = .ok (.ifCond .ne 13, 3) := by decide +kernel
theorem dX6_post_31 : decode cX6_post 31 = .ok (.new 52, 3) := by decide +kernel
theorem dX6_post_34 : decode cX6_post 34 = .ok (.dup, 1) := by decide +kernel
theorem dX6_post_35 : decode cX6_post 35 = .ok (.ldc 172, 2) := by decide +kernel
theorem dX6_post_37 : decode cX6_post 37 = .ok (.invokespecial 56, 3) := by decide +kernel
theorem dX6_post_40 : decode cX6_post 40 = .ok (.athrow, 1) := by decide +kernel
theorem dX6_post_41 : decode cX6_post 41 = .ok (.aload_n 0, 1) := by decide +kernel
theorem dX6_post_42 : decode cX6_post 42 = .ok (.getfield 12, 3) := by decide +kernel
theorem dX6_post_45 : decode cX6_post 45 = .ok (.iload_n 1, 1) := by decide +kernel
theorem dX6_post_46 : decode cX6_post 46 = .ok (.iload_n 2, 1) := by decide +kernel
theorem dX6_post_47 : decode cX6_post 47 = .ok (.invokevirtual 174, 3) := by decide +kernel
theorem dX6_post_50 : decode cX6_post 50 = .ok (.ireturn, 1) := by decide +kernel
theorem iX6_post_0 {x : Nat} {Ls st : List Value} {h : AH} : ev L xs mdX6_post 0 (.ref x :: Ls) (st) h = ev L xs mdX6_post 1 (.ref x :: Ls) (.ref x :: st) (h) := e_aload_n dX6_post_0 rfl
theorem iX6_post_1 {a : Nat} {Ls st : List Value} {h : AH} (hk : hK h a = 6) (hj : (hR h 96 a).isSome = true) : ev L xs mdX6_post 1 (Ls) (.ref a :: st) h = ev L xs mdX6_post 4 (Ls) (.ref ((hR h 96 a).getD 0) :: st) (h) := e_getR (k := 6) (f := 0) (F := 96) dX6_post_1 (by decide +kernel) rfl rfl hk hj
theorem iX6_post_4 {v0 : Value} {x : Int32} {Ls st : List Value} {h : AH} : ev L xs mdX6_post 4 (v0 :: .int x :: Ls) (st) h = ev L xs mdX6_post 5 (v0 :: .int x :: Ls) (.int x :: st) (h) := e_iload_n dX6_post_4 rfl
theorem iX6_post_5 {a : Nat} {p0 : Int32} {Ls st : List Value} {h : AH} (hk : hK h a = 5) (hw : wds st ≤ 8) : ev L xs mdX6_post 5 Ls (.int p0 :: .ref a :: st) h = kn L xs mdX6_post 5 8 Ls st (ev L xs mdX5_hasPost 0 [.ref a, .int p0] [] h) := e_callV (as := [.int p0]) dX6_post_5 mr_6_88 (by decide) (by decide) rfl (by simp [wds, Value.category]; decide) rfl (by decide) hk hw
theorem iX6_post_8 {x : Int32} {Ls st : List Value} {h : AH} : ev L xs mdX6_post 8 Ls (.int x :: st) h = if x = nI 0 then ev L xs mdX6_post 11 Ls st h else ev L xs mdX6_post 21 Ls st h := e_if_ne dX6_post_8 (by decide)
theorem iX6_post_11 {Ls : List Value} {h : AH} : ev L xs mdX6_post 11 Ls [] h = some (.inr ("java/lang/IndexOutOfBoundsException", bump h)) := e_throw dX6_post_11 (by decide +kernel) dX6_post_14 dX6_post_15 dX6_post_17 dX6_post_20 (by decide +kernel) (by decide +kernel)
theorem iX6_post_21 {v0 : Value} {v1 : Value} {x : Int32} {Ls st : List Value} {h : AH} : ev L xs mdX6_post 21 (v0 :: v1 :: .int x :: Ls) (st) h = ev L xs mdX6_post 22 (v0 :: v1 :: .int x :: Ls) (.int x :: st) (h) := e_iload_n dX6_post_21 rfl
theorem iX6_post_22  {Ls st : List Value} {h : AH} : ev L xs mdX6_post 22 (Ls) (st) h = ev L xs mdX6_post 23 (Ls) (.int (nI 0) :: st) (h) := e_iconst dX6_post_22 (by decide)
theorem iX6_post_23  {Ls st : List Value} {h : AH} : ev L xs mdX6_post 23 (Ls) (st) h = ev L xs mdX6_post 25 (Ls) (.int (nI 8) :: st) (h) := e_bipush dX6_post_23 (by decide)
theorem iX6_post_25 {p0 : Int32} {p1 : Int32} {p2 : Int32} {Ls st : List Value} {h : AH} (hw : wds st ≤ 8) : ev L xs mdX6_post 25 Ls (.int p2 :: .int p1 :: .int p0 :: st) h = kn L xs mdX6_post 25 28 Ls st (ev L xs mdX6_isWithin 0 [.int p0, .int p1, .int p2] [] h) := e_callS (as := [.int p2, .int p1, .int p0]) dX6_post_25 mr_6_48 (by decide) (by decide) rfl (by simp [wds, Value.category]; decide) rfl hw
theorem iX6_post_28 {x : Int32} {Ls st : List Value} {h : AH} : ev L xs mdX6_post 28 Ls (.int x :: st) h = if x = nI 0 then ev L xs mdX6_post 31 Ls st h else ev L xs mdX6_post 41 Ls st h := e_if_ne dX6_post_28 (by decide)
theorem iX6_post_31 {Ls : List Value} {h : AH} : ev L xs mdX6_post 31 Ls [] h = some (.inr ("java/lang/IllegalArgumentException", bump h)) := e_throw dX6_post_31 (by decide +kernel) dX6_post_34 dX6_post_35 dX6_post_37 dX6_post_40 (by decide +kernel) (by decide +kernel)
theorem iX6_post_41 {x : Nat} {Ls st : List Value} {h : AH} : ev L xs mdX6_post 41 (.ref x :: Ls) (st) h = ev L xs mdX6_post 42 (.ref x :: Ls) (.ref x :: st) (h) := e_aload_n dX6_post_41 rfl
theorem iX6_post_42 {a : Nat} {Ls st : List Value} {h : AH} (hk : hK h a = 6) (hj : (hR h 96 a).isSome = true) : ev L xs mdX6_post 42 (Ls) (.ref a :: st) h = ev L xs mdX6_post 45 (Ls) (.ref ((hR h 96 a).getD 0) :: st) (h) := e_getR (k := 6) (f := 0) (F := 96) dX6_post_42 (by decide +kernel) rfl rfl hk hj
theorem iX6_post_45 {v0 : Value} {x : Int32} {Ls st : List Value} {h : AH} : ev L xs mdX6_post 45 (v0 :: .int x :: Ls) (st) h = ev L xs mdX6_post 46 (v0 :: .int x :: Ls) (.int x :: st) (h) := e_iload_n dX6_post_45 rfl
theorem iX6_post_46 {v0 : Value} {v1 : Value} {x : Int32} {Ls st : List Value} {h : AH} : ev L xs mdX6_post 46 (v0 :: v1 :: .int x :: Ls) (st) h = ev L xs mdX6_post 47 (v0 :: v1 :: .int x :: Ls) (.int x :: st) (h) := e_iload_n dX6_post_46 rfl
theorem iX6_post_47 {a : Nat} {p0 : Int32} {p1 : Int32} {Ls st : List Value} {h : AH} (hk : hK h a = 5) (hw : wds st ≤ 8) : ev L xs mdX6_post 47 Ls (.int p1 :: .int p0 :: .ref a :: st) h = kn L xs mdX6_post 47 50 Ls st (ev L xs mdX5_aboutPost 0 [.ref a, .int p0, .int p1, .null] [] h) := e_callV (as := [.int p1, .int p0]) dX6_post_47 mr_6_174 (by decide) (by decide) rfl (by simp [wds, Value.category]; decide) rfl (by decide) hk hw
theorem iX6_post_50 {v : Int32} {Ls : List Value} {h : AH} : ev L xs mdX6_post 50 Ls [.int v] h = some (.inl (some (.int v), h)) := e_iret dX6_post_50 rfl
theorem dX6_save_0 : decode cX6_save 0 = .ok (.aload_n 0, 1) := by decide +kernel
theorem dX6_save_1 : decode cX6_save 1 = .ok (.getfield 278, 3) := by decide +kernel
theorem dX6_save_4 : decode cX6_save 4 = .ok (.iconst 4, 1) := by decide +kernel
theorem dX6_save_5 : decode cX6_save 5 = .ok (.if_icmp .ne 54, 3) := by decide +kernel
theorem dX6_save_8 : decode cX6_save 8 = .ok (.aload_n 0, 1) := by decide +kernel
theorem dX6_save_9 : decode cX6_save 9 = .ok (.getfield 19, 3) := by decide +kernel
theorem dX6_save_12 : decode cX6_save 12 = .ok (.iconst 0, 1) := by decide +kernel
theorem dX6_save_13 : decode cX6_save 13 = .ok (.aaload, 1) := by decide +kernel
theorem dX6_save_14 : decode cX6_save 14 = .ok (.astore_n 1, 1) := by decide +kernel
theorem dX6_save_15 : decode cX6_save 15 = .ok (.iconst 1, 1) := by decide +kernel
theorem dX6_save_16 : decode cX6_save 16 = .ok (.istore_n 2, 1) := by decide +kernel
theorem dX6_save_17 : decode cX6_save 17 = .ok (.iload_n 2, 1) := by decide +kernel
theorem dX6_save_18 : decode cX6_save 18 = .ok (.iconst 4, 1) := by decide +kernel
theorem dX6_save_19 : decode cX6_save 19 = .ok (.if_icmp .ge 23, 3) := by decide +kernel
theorem dX6_save_22 : decode cX6_save 22 = .ok (.aload_n 0, 1) := by decide +kernel
theorem dX6_save_23 : decode cX6_save 23 = .ok (.getfield 19, 3) := by decide +kernel
theorem dX6_save_26 : decode cX6_save 26 = .ok (.iload_n 2, 1) := by decide +kernel
theorem dX6_save_27 : decode cX6_save 27 = .ok (.iconst 1, 1) := by decide +kernel
theorem dX6_save_28 : decode cX6_save 28 = .ok (.isub, 1) := by decide +kernel
theorem dX6_save_29 : decode cX6_save 29 = .ok (.aload_n 0, 1) := by decide +kernel
theorem dX6_save_30 : decode cX6_save 30 = .ok (.getfield 19, 3) := by decide +kernel
theorem dX6_save_33 : decode cX6_save 33 = .ok (.iload_n 2, 1) := by decide +kernel
theorem dX6_save_34 : decode cX6_save 34 = .ok (.aaload, 1) := by decide +kernel
theorem dX6_save_35 : decode cX6_save 35 = .ok (.aastore, 1) := by decide +kernel
theorem dX6_save_36 : decode cX6_save 36 = .ok (.iinc 2 1, 3) := by decide +kernel
theorem dX6_save_39 : decode cX6_save 39 = .ok (.goto (-22), 3) := by decide +kernel
theorem dX6_save_42 : decode cX6_save 42 = .ok (.aload_n 0, 1) := by decide +kernel
theorem dX6_save_43 : decode cX6_save 43 = .ok (.getfield 19, 3) := by decide +kernel
theorem dX6_save_46 : decode cX6_save 46 = .ok (.iconst 3, 1) := by decide +kernel
theorem dX6_save_47 : decode cX6_save 47 = .ok (.aload_n 1, 1) := by decide +kernel
theorem dX6_save_48 : decode cX6_save 48 = .ok (.aastore, 1) := by decide +kernel
theorem dX6_save_49 : decode cX6_save 49 = .ok (.aload_n 0, 1) := by decide +kernel
theorem dX6_save_50 : decode cX6_save 50 = .ok (.dup, 1) := by decide +kernel
theorem dX6_save_51 : decode cX6_save 51 = .ok (.getfield 278, 3) := by decide +kernel
theorem dX6_save_54 : decode cX6_save 54 = .ok (.iconst 1, 1) := by decide +kernel
theorem dX6_save_55 : decode cX6_save 55 = .ok (.isub, 1) := by decide +kernel
theorem dX6_save_56 : decode cX6_save 56 = .ok (.putfield 278, 3) := by decide +kernel
theorem dX6_save_59 : decode cX6_save 59 = .ok (.aload_n 0, 1) := by decide +kernel
theorem dX6_save_60 : decode cX6_save 60 = .ok (.getfield 19, 3) := by decide +kernel
theorem dX6_save_63 : decode cX6_save 63 = .ok (.aload_n 0, 1) := by decide +kernel
theorem dX6_save_64 : decode cX6_save 64 = .ok (.getfield 278, 3) := by decide +kernel
theorem dX6_save_67 : decode cX6_save 67 = .ok (.aaload, 1) := by decide +kernel
theorem dX6_save_68 : decode cX6_save 68 = .ok (.aload_n 0, 1) := by decide +kernel
theorem dX6_save_69 : decode cX6_save 69 = .ok (.getfield 12, 3) := by decide +kernel
theorem dX6_save_72 : decode cX6_save 72 = .ok (.invokevirtual 232, 3) := by decide +kernel
theorem dX6_save_75 : decode cX6_save 75 = .ok (.aload_n 0, 1) := by decide +kernel
theorem dX6_save_76 : decode cX6_save 76 = .ok (.dup, 1) := by decide +kernel
theorem dX6_save_77 : decode cX6_save 77 = .ok (.getfield 278, 3) := by decide +kernel
theorem dX6_save_80 : decode cX6_save 80 = .ok (.iconst 1, 1) := by decide +kernel
theorem dX6_save_81 : decode cX6_save 81 = .ok (.iadd, 1) := by decide +kernel
theorem dX6_save_82 : decode cX6_save 82 = .ok (.putfield 278, 3) := by decide +kernel
theorem dX6_save_85 : decode cX6_save 85 = .ok (.return_, 1) := by decide +kernel
theorem iX6_save_0 {x : Nat} {Ls st : List Value} {h : AH} : ev L xs mdX6_save 0 (.ref x :: Ls) (st) h = ev L xs mdX6_save 1 (.ref x :: Ls) (.ref x :: st) (h) := e_aload_n dX6_save_0 rfl
theorem iX6_save_1 {a : Nat} {Ls st : List Value} {h : AH} (hk : hK h a = 6) : ev L xs mdX6_save 1 (Ls) (.ref a :: st) h = ev L xs mdX6_save 4 (Ls) (.int (hI h 99 a) :: st) (h) := e_getI (k := 6) (f := 3) (F := 99) dX6_save_1 (by decide +kernel) rfl rfl hk
theorem iX6_save_4  {Ls st : List Value} {h : AH} : ev L xs mdX6_save 4 (Ls) (st) h = ev L xs mdX6_save 5 (Ls) (.int (nI 4) :: st) (h) := e_iconst dX6_save_4 (by decide)
theorem iX6_save_5 {x z : Int32} {Ls st : List Value} {h : AH} : ev L xs mdX6_save 5 Ls (.int z :: .int x :: st) h = if x = z then ev L xs mdX6_save 8 Ls st h else ev L xs mdX6_save 59 Ls st h := e_ic_ne dX6_save_5 (by decide)
theorem iX6_save_8 {x : Nat} {Ls st : List Value} {h : AH} : ev L xs mdX6_save 8 (.ref x :: Ls) (st) h = ev L xs mdX6_save 9 (.ref x :: Ls) (.ref x :: st) (h) := e_aload_n dX6_save_8 rfl
theorem iX6_save_9 {a : Nat} {Ls st : List Value} {h : AH} (hk : hK h a = 6) (hj : (hR h 98 a).isSome = true) : ev L xs mdX6_save 9 (Ls) (.ref a :: st) h = ev L xs mdX6_save 12 (Ls) (.ref ((hR h 98 a).getD 0) :: st) (h) := e_getR (k := 6) (f := 2) (F := 98) dX6_save_9 (by decide +kernel) rfl rfl hk hj
theorem iX6_save_12  {Ls st : List Value} {h : AH} : ev L xs mdX6_save 12 (Ls) (st) h = ev L xs mdX6_save 13 (Ls) (.int (nI 0) :: st) (h) := e_iconst dX6_save_12 (by decide)
theorem iX6_save_13 {a : Nat} {j : Int32} {Ls st : List Value} {h : AH} (hk : hK h a = 9 ∨ hK h a = 10 ∨ hK h a = 11) (hi : inA j (hN h a) = true) (hq : (hQ h a j.toNatClampNeg).isSome = true) : ev L xs mdX6_save 13 (Ls) (.int j :: .ref a :: st) h = ev L xs mdX6_save 14 (Ls) (.ref ((hQ h a j.toNatClampNeg).getD 0) :: st) (h) := e_aald dX6_save_13 hk hi hq
theorem iX6_save_14 {v0 : Value} {v1 : Value} {x : Nat} {Ls st : List Value} {h : AH} (hc9 : v0.category = 1) : ev L xs mdX6_save 14 (v0 :: v1 :: Ls) (.ref x :: st) h = ev L xs mdX6_save 15 (v0 :: .ref x :: Ls) (st) (h) := e_astore_n dX6_save_14 rfl (by decide) (by unfold catOK; show (_ || (v0.category == 1)) = true; rw [hc9]; rfl)
theorem iX6_save_15  {Ls st : List Value} {h : AH} : ev L xs mdX6_save 15 (Ls) (st) h = ev L xs mdX6_save 16 (Ls) (.int (nI 1) :: st) (h) := e_iconst dX6_save_15 (by decide)
theorem iX6_save_16 {v0 : Value} {v1 : Value} {v2 : Value} {x : Int32} {Ls st : List Value} {h : AH} (hc9 : v1.category = 1) : ev L xs mdX6_save 16 (v0 :: v1 :: v2 :: Ls) (.int x :: st) h = ev L xs mdX6_save 17 (v0 :: v1 :: .int x :: Ls) (st) (h) := e_istore_n dX6_save_16 rfl (by decide) (by unfold catOK; show (_ || (v1.category == 1)) = true; rw [hc9]; rfl)
theorem iX6_save_17 {v0 : Value} {v1 : Value} {x : Int32} {Ls st : List Value} {h : AH} : ev L xs mdX6_save 17 (v0 :: v1 :: .int x :: Ls) (st) h = ev L xs mdX6_save 18 (v0 :: v1 :: .int x :: Ls) (.int x :: st) (h) := e_iload_n dX6_save_17 rfl
theorem iX6_save_18  {Ls st : List Value} {h : AH} : ev L xs mdX6_save 18 (Ls) (st) h = ev L xs mdX6_save 19 (Ls) (.int (nI 4) :: st) (h) := e_iconst dX6_save_18 (by decide)
theorem iX6_save_19 {x z : Int32} {Ls st : List Value} {h : AH} : ev L xs mdX6_save 19 Ls (.int z :: .int x :: st) h = if z ≤ x then ev L xs mdX6_save 42 Ls st h else ev L xs mdX6_save 22 Ls st h := e_ic_ge dX6_save_19 (by decide)
theorem iX6_save_22 {x : Nat} {Ls st : List Value} {h : AH} : ev L xs mdX6_save 22 (.ref x :: Ls) (st) h = ev L xs mdX6_save 23 (.ref x :: Ls) (.ref x :: st) (h) := e_aload_n dX6_save_22 rfl
theorem iX6_save_23 {a : Nat} {Ls st : List Value} {h : AH} (hk : hK h a = 6) (hj : (hR h 98 a).isSome = true) : ev L xs mdX6_save 23 (Ls) (.ref a :: st) h = ev L xs mdX6_save 26 (Ls) (.ref ((hR h 98 a).getD 0) :: st) (h) := e_getR (k := 6) (f := 2) (F := 98) dX6_save_23 (by decide +kernel) rfl rfl hk hj
theorem iX6_save_26 {v0 : Value} {v1 : Value} {x : Int32} {Ls st : List Value} {h : AH} : ev L xs mdX6_save 26 (v0 :: v1 :: .int x :: Ls) (st) h = ev L xs mdX6_save 27 (v0 :: v1 :: .int x :: Ls) (.int x :: st) (h) := e_iload_n dX6_save_26 rfl
theorem iX6_save_27  {Ls st : List Value} {h : AH} : ev L xs mdX6_save 27 (Ls) (st) h = ev L xs mdX6_save 28 (Ls) (.int (nI 1) :: st) (h) := e_iconst dX6_save_27 (by decide)
theorem iX6_save_28 {x z : Int32} {Ls st : List Value} {h : AH} : ev L xs mdX6_save 28 (Ls) (.int z :: .int x :: st) h = ev L xs mdX6_save 29 (Ls) (.int (x - z) :: st) (h) := e_isub dX6_save_28
theorem iX6_save_29 {x : Nat} {Ls st : List Value} {h : AH} : ev L xs mdX6_save 29 (.ref x :: Ls) (st) h = ev L xs mdX6_save 30 (.ref x :: Ls) (.ref x :: st) (h) := e_aload_n dX6_save_29 rfl
theorem iX6_save_30 {a : Nat} {Ls st : List Value} {h : AH} (hk : hK h a = 6) (hj : (hR h 98 a).isSome = true) : ev L xs mdX6_save 30 (Ls) (.ref a :: st) h = ev L xs mdX6_save 33 (Ls) (.ref ((hR h 98 a).getD 0) :: st) (h) := e_getR (k := 6) (f := 2) (F := 98) dX6_save_30 (by decide +kernel) rfl rfl hk hj
theorem iX6_save_33 {v0 : Value} {v1 : Value} {x : Int32} {Ls st : List Value} {h : AH} : ev L xs mdX6_save 33 (v0 :: v1 :: .int x :: Ls) (st) h = ev L xs mdX6_save 34 (v0 :: v1 :: .int x :: Ls) (.int x :: st) (h) := e_iload_n dX6_save_33 rfl
theorem iX6_save_34 {a : Nat} {j : Int32} {Ls st : List Value} {h : AH} (hk : hK h a = 9 ∨ hK h a = 10 ∨ hK h a = 11) (hi : inA j (hN h a) = true) (hq : (hQ h a j.toNatClampNeg).isSome = true) : ev L xs mdX6_save 34 (Ls) (.int j :: .ref a :: st) h = ev L xs mdX6_save 35 (Ls) (.ref ((hQ h a j.toNatClampNeg).getD 0) :: st) (h) := e_aald dX6_save_34 hk hi hq
theorem iX6_save_35 {a v : Nat} {j : Int32} {Ls st : List Value} {h : AH} (hk : hK h a = 9 ∨ hK h a = 10 ∨ hK h a = 11) (hi : inA j (hN h a) = true) (hv : hK h v = rowK (hK h a)) : ev L xs mdX6_save 35 (Ls) (.ref v :: .int j :: .ref a :: st) h = ev L xs mdX6_save 36 (Ls) (st) (sQ h a j.toNatClampNeg v) := e_aast dX6_save_35 hk hi hv
theorem iX6_save_36 {v0 : Value} {v1 : Value} {x : Int32} {Ls st : List Value} {h : AH} (hc9 : v1.category = 1) : ev L xs mdX6_save 36 (v0 :: v1 :: .int x :: Ls) (st) h = ev L xs mdX6_save 39 (v0 :: v1 :: .int (x + (nI 1)) :: Ls) (st) (h) := e_iinc dX6_save_36 rfl rfl rfl (by decide) (by unfold catOK; show (_ || (v1.category == 1)) = true; rw [hc9]; rfl)
theorem iX6_save_39  {Ls st : List Value} {h : AH} : ev L xs mdX6_save 39 (Ls) (st) h = ev L xs mdX6_save 17 (Ls) (st) (h) := e_goto dX6_save_39 (by decide)
theorem iX6_save_42 {x : Nat} {Ls st : List Value} {h : AH} : ev L xs mdX6_save 42 (.ref x :: Ls) (st) h = ev L xs mdX6_save 43 (.ref x :: Ls) (.ref x :: st) (h) := e_aload_n dX6_save_42 rfl
theorem iX6_save_43 {a : Nat} {Ls st : List Value} {h : AH} (hk : hK h a = 6) (hj : (hR h 98 a).isSome = true) : ev L xs mdX6_save 43 (Ls) (.ref a :: st) h = ev L xs mdX6_save 46 (Ls) (.ref ((hR h 98 a).getD 0) :: st) (h) := e_getR (k := 6) (f := 2) (F := 98) dX6_save_43 (by decide +kernel) rfl rfl hk hj
theorem iX6_save_46  {Ls st : List Value} {h : AH} : ev L xs mdX6_save 46 (Ls) (st) h = ev L xs mdX6_save 47 (Ls) (.int (nI 3) :: st) (h) := e_iconst dX6_save_46 (by decide)
theorem iX6_save_47 {v0 : Value} {x : Nat} {Ls st : List Value} {h : AH} : ev L xs mdX6_save 47 (v0 :: .ref x :: Ls) (st) h = ev L xs mdX6_save 48 (v0 :: .ref x :: Ls) (.ref x :: st) (h) := e_aload_n dX6_save_47 rfl
theorem iX6_save_48 {a v : Nat} {j : Int32} {Ls st : List Value} {h : AH} (hk : hK h a = 9 ∨ hK h a = 10 ∨ hK h a = 11) (hi : inA j (hN h a) = true) (hv : hK h v = rowK (hK h a)) : ev L xs mdX6_save 48 (Ls) (.ref v :: .int j :: .ref a :: st) h = ev L xs mdX6_save 49 (Ls) (st) (sQ h a j.toNatClampNeg v) := e_aast dX6_save_48 hk hi hv
theorem iX6_save_49 {x : Nat} {Ls st : List Value} {h : AH} : ev L xs mdX6_save 49 (.ref x :: Ls) (st) h = ev L xs mdX6_save 50 (.ref x :: Ls) (.ref x :: st) (h) := e_aload_n dX6_save_49 rfl
theorem iX6_save_50 {a : Nat} {Ls st : List Value} {h : AH} : ev L xs mdX6_save 50 (Ls) (.ref a :: st) h = ev L xs mdX6_save 51 (Ls) (.ref a :: .ref a :: st) (h) := e_dup dX6_save_50 rfl
theorem iX6_save_50i {a : Int32} {Ls st : List Value} {h : AH} : ev L xs mdX6_save 50 (Ls) (.int a :: st) h = ev L xs mdX6_save 51 (Ls) (.int a :: .int a :: st) (h) := e_dup dX6_save_50 rfl
theorem iX6_save_51 {a : Nat} {Ls st : List Value} {h : AH} (hk : hK h a = 6) : ev L xs mdX6_save 51 (Ls) (.ref a :: st) h = ev L xs mdX6_save 54 (Ls) (.int (hI h 99 a) :: st) (h) := e_getI (k := 6) (f := 3) (F := 99) dX6_save_51 (by decide +kernel) rfl rfl hk
theorem iX6_save_54  {Ls st : List Value} {h : AH} : ev L xs mdX6_save 54 (Ls) (st) h = ev L xs mdX6_save 55 (Ls) (.int (nI 1) :: st) (h) := e_iconst dX6_save_54 (by decide)
theorem iX6_save_55 {x z : Int32} {Ls st : List Value} {h : AH} : ev L xs mdX6_save 55 (Ls) (.int z :: .int x :: st) h = ev L xs mdX6_save 56 (Ls) (.int (x - z) :: st) (h) := e_isub dX6_save_55
theorem iX6_save_56 {a : Nat} {v : Int32} {Ls st : List Value} {h : AH} (hk : hK h a = 6) : ev L xs mdX6_save 56 (Ls) (.int v :: .ref a :: st) h = ev L xs mdX6_save 59 (Ls) (st) (sI h 99 a v) := e_putI (k := 6) (f := 3) (F := 99) dX6_save_56 (by decide +kernel) rfl (by decide +kernel) rfl hk
theorem iX6_save_59 {x : Nat} {Ls st : List Value} {h : AH} : ev L xs mdX6_save 59 (.ref x :: Ls) (st) h = ev L xs mdX6_save 60 (.ref x :: Ls) (.ref x :: st) (h) := e_aload_n dX6_save_59 rfl
theorem iX6_save_60 {a : Nat} {Ls st : List Value} {h : AH} (hk : hK h a = 6) (hj : (hR h 98 a).isSome = true) : ev L xs mdX6_save 60 (Ls) (.ref a :: st) h = ev L xs mdX6_save 63 (Ls) (.ref ((hR h 98 a).getD 0) :: st) (h) := e_getR (k := 6) (f := 2) (F := 98) dX6_save_60 (by decide +kernel) rfl rfl hk hj
theorem iX6_save_63 {x : Nat} {Ls st : List Value} {h : AH} : ev L xs mdX6_save 63 (.ref x :: Ls) (st) h = ev L xs mdX6_save 64 (.ref x :: Ls) (.ref x :: st) (h) := e_aload_n dX6_save_63 rfl
theorem iX6_save_64 {a : Nat} {Ls st : List Value} {h : AH} (hk : hK h a = 6) : ev L xs mdX6_save 64 (Ls) (.ref a :: st) h = ev L xs mdX6_save 67 (Ls) (.int (hI h 99 a) :: st) (h) := e_getI (k := 6) (f := 3) (F := 99) dX6_save_64 (by decide +kernel) rfl rfl hk
theorem iX6_save_67 {a : Nat} {j : Int32} {Ls st : List Value} {h : AH} (hk : hK h a = 9 ∨ hK h a = 10 ∨ hK h a = 11) (hi : inA j (hN h a) = true) (hq : (hQ h a j.toNatClampNeg).isSome = true) : ev L xs mdX6_save 67 (Ls) (.int j :: .ref a :: st) h = ev L xs mdX6_save 68 (Ls) (.ref ((hQ h a j.toNatClampNeg).getD 0) :: st) (h) := e_aald dX6_save_67 hk hi hq
theorem iX6_save_68 {x : Nat} {Ls st : List Value} {h : AH} : ev L xs mdX6_save 68 (.ref x :: Ls) (st) h = ev L xs mdX6_save 69 (.ref x :: Ls) (.ref x :: st) (h) := e_aload_n dX6_save_68 rfl
theorem iX6_save_69 {a : Nat} {Ls st : List Value} {h : AH} (hk : hK h a = 6) (hj : (hR h 96 a).isSome = true) : ev L xs mdX6_save 69 (Ls) (.ref a :: st) h = ev L xs mdX6_save 72 (Ls) (.ref ((hR h 96 a).getD 0) :: st) (h) := e_getR (k := 6) (f := 0) (F := 96) dX6_save_69 (by decide +kernel) rfl rfl hk hj
theorem iX6_save_72 {a : Nat} {p0 : Nat} {Ls st : List Value} {h : AH} (hk : hK h a = 5) (hw : wds st ≤ 8) : ev L xs mdX6_save 72 Ls (.ref p0 :: .ref a :: st) h = kn L xs mdX6_save 72 75 Ls st (ev L xs mdX5_copyFrom 0 [.ref a, .ref p0, .null] [] h) := e_callV (as := [.ref p0]) dX6_save_72 mr_6_232 (by decide) (by decide) rfl (by simp [wds, Value.category]; decide) rfl (by decide) hk hw
theorem iX6_save_75 {x : Nat} {Ls st : List Value} {h : AH} : ev L xs mdX6_save 75 (.ref x :: Ls) (st) h = ev L xs mdX6_save 76 (.ref x :: Ls) (.ref x :: st) (h) := e_aload_n dX6_save_75 rfl
theorem iX6_save_76 {a : Nat} {Ls st : List Value} {h : AH} : ev L xs mdX6_save 76 (Ls) (.ref a :: st) h = ev L xs mdX6_save 77 (Ls) (.ref a :: .ref a :: st) (h) := e_dup dX6_save_76 rfl
theorem iX6_save_76i {a : Int32} {Ls st : List Value} {h : AH} : ev L xs mdX6_save 76 (Ls) (.int a :: st) h = ev L xs mdX6_save 77 (Ls) (.int a :: .int a :: st) (h) := e_dup dX6_save_76 rfl
theorem iX6_save_77 {a : Nat} {Ls st : List Value} {h : AH} (hk : hK h a = 6) : ev L xs mdX6_save 77 (Ls) (.ref a :: st) h = ev L xs mdX6_save 80 (Ls) (.int (hI h 99 a) :: st) (h) := e_getI (k := 6) (f := 3) (F := 99) dX6_save_77 (by decide +kernel) rfl rfl hk
theorem iX6_save_80  {Ls st : List Value} {h : AH} : ev L xs mdX6_save 80 (Ls) (st) h = ev L xs mdX6_save 81 (Ls) (.int (nI 1) :: st) (h) := e_iconst dX6_save_80 (by decide)
theorem iX6_save_81 {x z : Int32} {Ls st : List Value} {h : AH} : ev L xs mdX6_save 81 (Ls) (.int z :: .int x :: st) h = ev L xs mdX6_save 82 (Ls) (.int (x + z) :: st) (h) := e_iadd dX6_save_81
theorem iX6_save_82 {a : Nat} {v : Int32} {Ls st : List Value} {h : AH} (hk : hK h a = 6) : ev L xs mdX6_save 82 (Ls) (.int v :: .ref a :: st) h = ev L xs mdX6_save 85 (Ls) (st) (sI h 99 a v) := e_putI (k := 6) (f := 3) (F := 99) dX6_save_82 (by decide +kernel) rfl (by decide +kernel) rfl hk
theorem iX6_save_85 {Ls : List Value} {h : AH} : ev L xs mdX6_save 85 Ls [] h = some (.inl (none, h)) := e_vret dX6_save_85 rfl
theorem dX6_setNeeds_0 : decode cX6_setNeeds 0 = .ok (.aload_n 0, 1) := by decide +kernel
theorem dX6_setNeeds_1 : decode cX6_setNeeds 1 = .ok (.getfield 12, 3) := by decide +kernel
theorem dX6_setNeeds_4 : decode cX6_setNeeds 4 = .ok (.iload_n 1, 1) := by decide +kernel
theorem dX6_setNeeds_5 : decode cX6_setNeeds 5 = .ok (.invokevirtual 88, 3) := by decide +kernel
theorem dX6_setNeeds_8 : decode cX6_setNeeds 8 = .ok (.ifCond .ne 13, 3) := by decide +kernel
theorem dX6_setNeeds_11 : decode cX6_setNeeds 11 = .ok (.new 91, 3) := by decide +kernel
theorem dX6_setNeeds_14 : decode cX6_setNeeds 14 = .ok (.dup, 1) := by decide +kernel
theorem dX6_setNeeds_15 : decode cX6_setNeeds 15 = .ok (.ldc 93, 2) := by decide +kernel
theorem dX6_setNeeds_17 : decode cX6_setNeeds 17 = .ok (.invokespecial 95, 3) := by decide +kernel
theorem dX6_setNeeds_20 : decode cX6_setNeeds 20 = .ok (.athrow, 1) := by decide +kernel
theorem dX6_setNeeds_21 : decode cX6_setNeeds 21 = .ok (.iload_n 2, 1) := by decide +kernel
theorem dX6_setNeeds_22 : decode cX6_setNeeds 22 = .ok (.iconst 0, 1) := by decide +kernel
theorem dX6_setNeeds_23 : decode cX6_setNeeds 23 = .ok (.sipush 1023, 3) := by decide +kernel
theorem dX6_setNeeds_26 : decode cX6_setNeeds 26 = .ok (.invokestatic 48, 3) := by decide +kernel
theorem dX6_setNeeds_29 : decode cX6_setNeeds 29 = .ok (.ifCond .ne 13, 3) := by decide +kernel
theorem dX6_setNeeds_32 : decode cX6_setNeeds 32 = .ok (.new 52, 3) := by decide +kernel
theorem dX6_setNeeds_35 : decode cX6_setNeeds 35 = .ok (.dup, 1) := by decide +kernel
theorem dX6_setNeeds_36 : decode cX6_setNeeds 36 = .ok (.ldc 96, 2) := by decide +kernel
theorem dX6_setNeeds_38 : decode cX6_setNeeds 38 = .ok (.invokespecial 56, 3) := by decide +kernel
theorem dX6_setNeeds_41 : decode cX6_setNeeds 41 = .ok (.athrow, 1) := by decide +kernel
theorem dX6_setNeeds_42 : decode cX6_setNeeds 42 = .ok (.aload_n 0, 1) := by decide +kernel
theorem dX6_setNeeds_43 : decode cX6_setNeeds 43 = .ok (.invokevirtual 68, 3) := by decide +kernel
theorem dX6_setNeeds_46 : decode cX6_setNeeds 46 = .ok (.aload_n 0, 1) := by decide +kernel
theorem dX6_setNeeds_47 : decode cX6_setNeeds 47 = .ok (.getfield 12, 3) := by decide +kernel
theorem dX6_setNeeds_50 : decode cX6_setNeeds 50 = .ok (.getfield 98, 3) := by decide +kernel
theorem dX6_setNeeds_53 : decode cX6_setNeeds 53 = .ok (.iload_n 1, 1) := by decide +kernel
theorem dX6_setNeeds_54 : decode cX6_setNeeds 54 = .ok (.aaload, 1) := by decide +kernel
theorem dX6_setNeeds_55 : decode cX6_setNeeds 55 = .ok (.getfield 102, 3) := by decide +kernel
theorem dX6_setNeeds_58 : decode cX6_setNeeds 58 = .ok (.istore_n 3, 1) := by decide +kernel
theorem dX6_setNeeds_59 : decode cX6_setNeeds 59 = .ok (.aload_n 0, 1) := by decide +kernel
theorem dX6_setNeeds_60 : decode cX6_setNeeds 60 = .ok (.getfield 12, 3) := by decide +kernel
theorem dX6_setNeeds_63 : decode cX6_setNeeds 63 = .ok (.getfield 98, 3) := by decide +kernel
theorem dX6_setNeeds_66 : decode cX6_setNeeds 66 = .ok (.iload_n 1, 1) := by decide +kernel
theorem dX6_setNeeds_67 : decode cX6_setNeeds 67 = .ok (.aaload, 1) := by decide +kernel
theorem dX6_setNeeds_68 : decode cX6_setNeeds 68 = .ok (.iload_n 2, 1) := by decide +kernel
theorem dX6_setNeeds_69 : decode cX6_setNeeds 69 = .ok (.putfield 102, 3) := by decide +kernel
theorem dX6_setNeeds_72 : decode cX6_setNeeds 72 = .ok (.iload_n 3, 1) := by decide +kernel
theorem dX6_setNeeds_73 : decode cX6_setNeeds 73 = .ok (.ireturn, 1) := by decide +kernel
theorem iX6_setNeeds_0 {x : Nat} {Ls st : List Value} {h : AH} : ev L xs mdX6_setNeeds 0 (.ref x :: Ls) (st) h = ev L xs mdX6_setNeeds 1 (.ref x :: Ls) (.ref x :: st) (h) := e_aload_n dX6_setNeeds_0 rfl
theorem iX6_setNeeds_1 {a : Nat} {Ls st : List Value} {h : AH} (hk : hK h a = 6) (hj : (hR h 96 a).isSome = true) : ev L xs mdX6_setNeeds 1 (Ls) (.ref a :: st) h = ev L xs mdX6_setNeeds 4 (Ls) (.ref ((hR h 96 a).getD 0) :: st) (h) := e_getR (k := 6) (f := 0) (F := 96) dX6_setNeeds_1 (by decide +kernel) rfl rfl hk hj
theorem iX6_setNeeds_4 {v0 : Value} {x : Int32} {Ls st : List Value} {h : AH} : ev L xs mdX6_setNeeds 4 (v0 :: .int x :: Ls) (st) h = ev L xs mdX6_setNeeds 5 (v0 :: .int x :: Ls) (.int x :: st) (h) := e_iload_n dX6_setNeeds_4 rfl
theorem iX6_setNeeds_5 {a : Nat} {p0 : Int32} {Ls st : List Value} {h : AH} (hk : hK h a = 5) (hw : wds st ≤ 8) : ev L xs mdX6_setNeeds 5 Ls (.int p0 :: .ref a :: st) h = kn L xs mdX6_setNeeds 5 8 Ls st (ev L xs mdX5_hasPost 0 [.ref a, .int p0] [] h) := e_callV (as := [.int p0]) dX6_setNeeds_5 mr_6_88 (by decide) (by decide) rfl (by simp [wds, Value.category]; decide) rfl (by decide) hk hw
theorem iX6_setNeeds_8 {x : Int32} {Ls st : List Value} {h : AH} : ev L xs mdX6_setNeeds 8 Ls (.int x :: st) h = if x = nI 0 then ev L xs mdX6_setNeeds 11 Ls st h else ev L xs mdX6_setNeeds 21 Ls st h := e_if_ne dX6_setNeeds_8 (by decide)
theorem iX6_setNeeds_11 {Ls : List Value} {h : AH} : ev L xs mdX6_setNeeds 11 Ls [] h = some (.inr ("java/lang/IndexOutOfBoundsException", bump h)) := e_throw dX6_setNeeds_11 (by decide +kernel) dX6_setNeeds_14 dX6_setNeeds_15 dX6_setNeeds_17 dX6_setNeeds_20 (by decide +kernel) (by decide +kernel)
theorem iX6_setNeeds_21 {v0 : Value} {v1 : Value} {x : Int32} {Ls st : List Value} {h : AH} : ev L xs mdX6_setNeeds 21 (v0 :: v1 :: .int x :: Ls) (st) h = ev L xs mdX6_setNeeds 22 (v0 :: v1 :: .int x :: Ls) (.int x :: st) (h) := e_iload_n dX6_setNeeds_21 rfl
theorem iX6_setNeeds_22  {Ls st : List Value} {h : AH} : ev L xs mdX6_setNeeds 22 (Ls) (st) h = ev L xs mdX6_setNeeds 23 (Ls) (.int (nI 0) :: st) (h) := e_iconst dX6_setNeeds_22 (by decide)
theorem iX6_setNeeds_23  {Ls st : List Value} {h : AH} : ev L xs mdX6_setNeeds 23 (Ls) (st) h = ev L xs mdX6_setNeeds 26 (Ls) (.int (nI 1023) :: st) (h) := e_sipush dX6_setNeeds_23 (by decide)
theorem iX6_setNeeds_26 {p0 : Int32} {p1 : Int32} {p2 : Int32} {Ls st : List Value} {h : AH} (hw : wds st ≤ 8) : ev L xs mdX6_setNeeds 26 Ls (.int p2 :: .int p1 :: .int p0 :: st) h = kn L xs mdX6_setNeeds 26 29 Ls st (ev L xs mdX6_isWithin 0 [.int p0, .int p1, .int p2] [] h) := e_callS (as := [.int p2, .int p1, .int p0]) dX6_setNeeds_26 mr_6_48 (by decide) (by decide) rfl (by simp [wds, Value.category]; decide) rfl hw
theorem iX6_setNeeds_29 {x : Int32} {Ls st : List Value} {h : AH} : ev L xs mdX6_setNeeds 29 Ls (.int x :: st) h = if x = nI 0 then ev L xs mdX6_setNeeds 32 Ls st h else ev L xs mdX6_setNeeds 42 Ls st h := e_if_ne dX6_setNeeds_29 (by decide)
theorem iX6_setNeeds_32 {Ls : List Value} {h : AH} : ev L xs mdX6_setNeeds 32 Ls [] h = some (.inr ("java/lang/IllegalArgumentException", bump h)) := e_throw dX6_setNeeds_32 (by decide +kernel) dX6_setNeeds_35 dX6_setNeeds_36 dX6_setNeeds_38 dX6_setNeeds_41 (by decide +kernel) (by decide +kernel)
theorem iX6_setNeeds_42 {x : Nat} {Ls st : List Value} {h : AH} : ev L xs mdX6_setNeeds 42 (.ref x :: Ls) (st) h = ev L xs mdX6_setNeeds 43 (.ref x :: Ls) (.ref x :: st) (h) := e_aload_n dX6_setNeeds_42 rfl
theorem iX6_setNeeds_43 {a : Nat} {Ls st : List Value} {h : AH} (hk : hK h a = 6) (hw : wds st ≤ 8) : ev L xs mdX6_setNeeds 43 Ls (.ref a :: st) h = kn L xs mdX6_setNeeds 43 46 Ls st (ev L xs mdX6_save 0 [.ref a, .null, .null] [] h) := e_callV (as := []) dX6_setNeeds_43 mr_6_68 (by decide) (by decide) rfl (by simp [wds, Value.category]; decide) rfl (by decide) hk hw
theorem iX6_setNeeds_46 {x : Nat} {Ls st : List Value} {h : AH} : ev L xs mdX6_setNeeds 46 (.ref x :: Ls) (st) h = ev L xs mdX6_setNeeds 47 (.ref x :: Ls) (.ref x :: st) (h) := e_aload_n dX6_setNeeds_46 rfl
theorem iX6_setNeeds_47 {a : Nat} {Ls st : List Value} {h : AH} (hk : hK h a = 6) (hj : (hR h 96 a).isSome = true) : ev L xs mdX6_setNeeds 47 (Ls) (.ref a :: st) h = ev L xs mdX6_setNeeds 50 (Ls) (.ref ((hR h 96 a).getD 0) :: st) (h) := e_getR (k := 6) (f := 0) (F := 96) dX6_setNeeds_47 (by decide +kernel) rfl rfl hk hj
theorem iX6_setNeeds_50 {a : Nat} {Ls st : List Value} {h : AH} (hk : hK h a = 5) (hj : (hR h 83 a).isSome = true) : ev L xs mdX6_setNeeds 50 (Ls) (.ref a :: st) h = ev L xs mdX6_setNeeds 53 (Ls) (.ref ((hR h 83 a).getD 0) :: st) (h) := e_getR (k := 5) (f := 3) (F := 83) dX6_setNeeds_50 (by decide +kernel) rfl rfl hk hj
theorem iX6_setNeeds_53 {v0 : Value} {x : Int32} {Ls st : List Value} {h : AH} : ev L xs mdX6_setNeeds 53 (v0 :: .int x :: Ls) (st) h = ev L xs mdX6_setNeeds 54 (v0 :: .int x :: Ls) (.int x :: st) (h) := e_iload_n dX6_setNeeds_53 rfl
theorem iX6_setNeeds_54 {a : Nat} {j : Int32} {Ls st : List Value} {h : AH} (hk : hK h a = 9 ∨ hK h a = 10 ∨ hK h a = 11) (hi : inA j (hN h a) = true) (hq : (hQ h a j.toNatClampNeg).isSome = true) : ev L xs mdX6_setNeeds 54 (Ls) (.int j :: .ref a :: st) h = ev L xs mdX6_setNeeds 55 (Ls) (.ref ((hQ h a j.toNatClampNeg).getD 0) :: st) (h) := e_aald dX6_setNeeds_54 hk hi hq
theorem iX6_setNeeds_55 {a : Nat} {Ls st : List Value} {h : AH} (hk : hK h a = 2) : ev L xs mdX6_setNeeds 55 (Ls) (.ref a :: st) h = ev L xs mdX6_setNeeds 58 (Ls) (.int (hI h 33 a) :: st) (h) := e_getI (k := 2) (f := 1) (F := 33) dX6_setNeeds_55 (by decide +kernel) rfl rfl hk
theorem iX6_setNeeds_58 {v0 : Value} {v1 : Value} {v2 : Value} {v3 : Value} {x : Int32} {Ls st : List Value} {h : AH} (hc9 : v2.category = 1) : ev L xs mdX6_setNeeds 58 (v0 :: v1 :: v2 :: v3 :: Ls) (.int x :: st) h = ev L xs mdX6_setNeeds 59 (v0 :: v1 :: v2 :: .int x :: Ls) (st) (h) := e_istore_n dX6_setNeeds_58 rfl (by decide) (by unfold catOK; show (_ || (v2.category == 1)) = true; rw [hc9]; rfl)
theorem iX6_setNeeds_59 {x : Nat} {Ls st : List Value} {h : AH} : ev L xs mdX6_setNeeds 59 (.ref x :: Ls) (st) h = ev L xs mdX6_setNeeds 60 (.ref x :: Ls) (.ref x :: st) (h) := e_aload_n dX6_setNeeds_59 rfl
theorem iX6_setNeeds_60 {a : Nat} {Ls st : List Value} {h : AH} (hk : hK h a = 6) (hj : (hR h 96 a).isSome = true) : ev L xs mdX6_setNeeds 60 (Ls) (.ref a :: st) h = ev L xs mdX6_setNeeds 63 (Ls) (.ref ((hR h 96 a).getD 0) :: st) (h) := e_getR (k := 6) (f := 0) (F := 96) dX6_setNeeds_60 (by decide +kernel) rfl rfl hk hj
theorem iX6_setNeeds_63 {a : Nat} {Ls st : List Value} {h : AH} (hk : hK h a = 5) (hj : (hR h 83 a).isSome = true) : ev L xs mdX6_setNeeds 63 (Ls) (.ref a :: st) h = ev L xs mdX6_setNeeds 66 (Ls) (.ref ((hR h 83 a).getD 0) :: st) (h) := e_getR (k := 5) (f := 3) (F := 83) dX6_setNeeds_63 (by decide +kernel) rfl rfl hk hj
theorem iX6_setNeeds_66 {v0 : Value} {x : Int32} {Ls st : List Value} {h : AH} : ev L xs mdX6_setNeeds 66 (v0 :: .int x :: Ls) (st) h = ev L xs mdX6_setNeeds 67 (v0 :: .int x :: Ls) (.int x :: st) (h) := e_iload_n dX6_setNeeds_66 rfl
theorem iX6_setNeeds_67 {a : Nat} {j : Int32} {Ls st : List Value} {h : AH} (hk : hK h a = 9 ∨ hK h a = 10 ∨ hK h a = 11) (hi : inA j (hN h a) = true) (hq : (hQ h a j.toNatClampNeg).isSome = true) : ev L xs mdX6_setNeeds 67 (Ls) (.int j :: .ref a :: st) h = ev L xs mdX6_setNeeds 68 (Ls) (.ref ((hQ h a j.toNatClampNeg).getD 0) :: st) (h) := e_aald dX6_setNeeds_67 hk hi hq
theorem iX6_setNeeds_68 {v0 : Value} {v1 : Value} {x : Int32} {Ls st : List Value} {h : AH} : ev L xs mdX6_setNeeds 68 (v0 :: v1 :: .int x :: Ls) (st) h = ev L xs mdX6_setNeeds 69 (v0 :: v1 :: .int x :: Ls) (.int x :: st) (h) := e_iload_n dX6_setNeeds_68 rfl
theorem iX6_setNeeds_69 {a : Nat} {v : Int32} {Ls st : List Value} {h : AH} (hk : hK h a = 2) : ev L xs mdX6_setNeeds 69 (Ls) (.int v :: .ref a :: st) h = ev L xs mdX6_setNeeds 72 (Ls) (st) (sI h 33 a v) := e_putI (k := 2) (f := 1) (F := 33) dX6_setNeeds_69 (by decide +kernel) rfl (by decide +kernel) rfl hk
theorem iX6_setNeeds_72 {v0 : Value} {v1 : Value} {v2 : Value} {x : Int32} {Ls st : List Value} {h : AH} : ev L xs mdX6_setNeeds 72 (v0 :: v1 :: v2 :: .int x :: Ls) (st) h = ev L xs mdX6_setNeeds 73 (v0 :: v1 :: v2 :: .int x :: Ls) (.int x :: st) (h) := e_iload_n dX6_setNeeds_72 rfl
theorem iX6_setNeeds_73 {v : Int32} {Ls : List Value} {h : AH} : ev L xs mdX6_setNeeds 73 Ls [.int v] h = some (.inl (some (.int v), h)) := e_iret dX6_setNeeds_73 rfl
theorem dX6_setPost_0 : decode cX6_setPost 0 = .ok (.aload_n 0, 1) := by decide +kernel
theorem dX6_setPost_1 : decode cX6_setPost 1 = .ok (.getfield 12, 3) := by decide +kernel
theorem dX6_setPost_4 : decode cX6_setPost 4 = .ok (.iload_n 1, 1) := by decide +kernel
theorem dX6_setPost_5 : decode cX6_setPost 5 = .ok (.invokevirtual 124, 3) := by decide +kernel
theorem dX6_setPost_8 : decode cX6_setPost 8 = .ok (.ifCond .eq 19, 3) := by decide +kernel
theorem dX6_setPost_11 : decode cX6_setPost 11 = .ok (.iload_n 2, 1) := by decide +kernel
theorem dX6_setPost_12 : decode cX6_setPost 12 = .ok (.iconst (-1), 1) := by decide +kernel
theorem dX6_setPost_13 : decode cX6_setPost 13 = .ok (.if_icmp .eq 24, 3) := by decide +kernel
theorem dX6_setPost_16 : decode cX6_setPost 16 = .ok (.aload_n 0, 1) := by decide +kernel
theorem dX6_setPost_17 : decode cX6_setPost 17 = .ok (.getfield 12, 3) := by decide +kernel
theorem dX6_setPost_20 : decode cX6_setPost 20 = .ok (.iload_n 2, 1) := by decide +kernel
theorem dX6_setPost_21 : decode cX6_setPost 21 = .ok (.invokevirtual 88, 3) := by decide +kernel
theorem dX6_setPost_24 : decode cX6_setPost 24 = .ok (.ifCond .ne 13, 3) := by decide +kernel
theorem dX6_setPost_27 : decode cX6_setPost 27 = .ok (.new 91, 3) := by decide +kernel
theorem dX6_setPost_30 : decode cX6_setPost 30 = .ok (.dup, 1) := by decide +kernel
theorem dX6_setPost_31 : decode cX6_setPost 31 = .ok (.ldc 127, 2) := by decide +kernel
theorem dX6_setPost_33 : decode cX6_setPost 33 = .ok (.invokespecial 95, 3) := by decide +kernel
theorem dX6_setPost_36 : decode cX6_setPost 36 = .ok (.athrow, 1) := by decide +kernel
theorem dX6_setPost_37 : decode cX6_setPost 37 = .ok (.aload_n 0, 1) := by decide +kernel
theorem dX6_setPost_38 : decode cX6_setPost 38 = .ok (.getfield 12, 3) := by decide +kernel
theorem dX6_setPost_41 : decode cX6_setPost 41 = .ok (.getfield 129, 3) := by decide +kernel
theorem dX6_setPost_44 : decode cX6_setPost 44 = .ok (.iload_n 1, 1) := by decide +kernel
theorem dX6_setPost_45 : decode cX6_setPost 45 = .ok (.aaload, 1) := by decide +kernel
theorem dX6_setPost_46 : decode cX6_setPost 46 = .ok (.getfield 133, 3) := by decide +kernel
theorem dX6_setPost_49 : decode cX6_setPost 49 = .ok (.istore_n 3, 1) := by decide +kernel
theorem dX6_setPost_50 : decode cX6_setPost 50 = .ok (.iload_n 2, 1) := by decide +kernel
theorem dX6_setPost_51 : decode cX6_setPost 51 = .ok (.iconst (-1), 1) := by decide +kernel
theorem dX6_setPost_52 : decode cX6_setPost 52 = .ok (.if_icmp .eq 30, 3) := by decide +kernel
theorem dX6_setPost_55 : decode cX6_setPost 55 = .ok (.iload_n 2, 1) := by decide +kernel
theorem dX6_setPost_56 : decode cX6_setPost 56 = .ok (.iload_n 3, 1) := by decide +kernel
theorem dX6_setPost_57 : decode cX6_setPost 57 = .ok (.if_icmp .eq 25, 3) := by decide +kernel
theorem dX6_setPost_60 : decode cX6_setPost 60 = .ok (.aload_n 0, 1) := by decide +kernel
theorem dX6_setPost_61 : decode cX6_setPost 61 = .ok (.getfield 12, 3) := by decide +kernel
theorem dX6_setPost_64 : decode cX6_setPost 64 = .ok (.iload_n 2, 1) := by decide +kernel
theorem dX6_setPost_65 : decode cX6_setPost 65 = .ok (.invokevirtual 114, 3) := by decide +kernel
theorem dX6_setPost_68 : decode cX6_setPost 68 = .ok (.iconst (-1), 1) := by decide +kernel
theorem dX6_setPost_69 : decode cX6_setPost 69 = .ok (.if_icmp .eq 13, 3) := by decide +kernel
theorem dX6_setPost_72 : decode cX6_setPost 72 = .ok (.new 63, 3) := by decide +kernel
theorem dX6_setPost_75 : decode cX6_setPost 75 = .ok (.dup, 1) := by decide +kernel
theorem dX6_setPost_76 : decode cX6_setPost 76 = .ok (.ldc 118, 2) := by decide +kernel
theorem dX6_setPost_78 : decode cX6_setPost 78 = .ok (.invokespecial 67, 3) := by decide +kernel
theorem dX6_setPost_81 : decode cX6_setPost 81 = .ok (.athrow, 1) := by decide +kernel
theorem dX6_setPost_82 : decode cX6_setPost 82 = .ok (.aload_n 0, 1) := by decide +kernel
theorem dX6_setPost_83 : decode cX6_setPost 83 = .ok (.invokevirtual 68, 3) := by decide +kernel
theorem dX6_setPost_86 : decode cX6_setPost 86 = .ok (.aload_n 0, 1) := by decide +kernel
theorem dX6_setPost_87 : decode cX6_setPost 87 = .ok (.getfield 12, 3) := by decide +kernel
theorem dX6_setPost_90 : decode cX6_setPost 90 = .ok (.getfield 129, 3) := by decide +kernel
theorem dX6_setPost_93 : decode cX6_setPost 93 = .ok (.iload_n 1, 1) := by decide +kernel
theorem dX6_setPost_94 : decode cX6_setPost 94 = .ok (.aaload, 1) := by decide +kernel
theorem dX6_setPost_95 : decode cX6_setPost 95 = .ok (.iload_n 2, 1) := by decide +kernel
theorem dX6_setPost_96 : decode cX6_setPost 96 = .ok (.putfield 133, 3) := by decide +kernel
theorem dX6_setPost_99 : decode cX6_setPost 99 = .ok (.iload_n 3, 1) := by decide +kernel
theorem dX6_setPost_100 : decode cX6_setPost 100 = .ok (.ireturn, 1) := by decide +kernel
theorem iX6_setPost_0 {x : Nat} {Ls st : List Value} {h : AH} : ev L xs mdX6_setPost 0 (.ref x :: Ls) (st) h = ev L xs mdX6_setPost 1 (.ref x :: Ls) (.ref x :: st) (h) := e_aload_n dX6_setPost_0 rfl
theorem iX6_setPost_1 {a : Nat} {Ls st : List Value} {h : AH} (hk : hK h a = 6) (hj : (hR h 96 a).isSome = true) : ev L xs mdX6_setPost 1 (Ls) (.ref a :: st) h = ev L xs mdX6_setPost 4 (Ls) (.ref ((hR h 96 a).getD 0) :: st) (h) := e_getR (k := 6) (f := 0) (F := 96) dX6_setPost_1 (by decide +kernel) rfl rfl hk hj
theorem iX6_setPost_4 {v0 : Value} {x : Int32} {Ls st : List Value} {h : AH} : ev L xs mdX6_setPost 4 (v0 :: .int x :: Ls) (st) h = ev L xs mdX6_setPost 5 (v0 :: .int x :: Ls) (.int x :: st) (h) := e_iload_n dX6_setPost_4 rfl
theorem iX6_setPost_5 {a : Nat} {p0 : Int32} {Ls st : List Value} {h : AH} (hk : hK h a = 5) (hw : wds st ≤ 8) : ev L xs mdX6_setPost 5 Ls (.int p0 :: .ref a :: st) h = kn L xs mdX6_setPost 5 8 Ls st (ev L xs mdX5_hasGuard 0 [.ref a, .int p0] [] h) := e_callV (as := [.int p0]) dX6_setPost_5 mr_6_124 (by decide) (by decide) rfl (by simp [wds, Value.category]; decide) rfl (by decide) hk hw
theorem iX6_setPost_8 {x : Int32} {Ls st : List Value} {h : AH} : ev L xs mdX6_setPost 8 Ls (.int x :: st) h = if x = nI 0 then ev L xs mdX6_setPost 27 Ls st h else ev L xs mdX6_setPost 11 Ls st h := e_if_eq dX6_setPost_8 (by decide)
theorem iX6_setPost_11 {v0 : Value} {v1 : Value} {x : Int32} {Ls st : List Value} {h : AH} : ev L xs mdX6_setPost 11 (v0 :: v1 :: .int x :: Ls) (st) h = ev L xs mdX6_setPost 12 (v0 :: v1 :: .int x :: Ls) (.int x :: st) (h) := e_iload_n dX6_setPost_11 rfl
theorem iX6_setPost_12  {Ls st : List Value} {h : AH} : ev L xs mdX6_setPost 12 (Ls) (st) h = ev L xs mdX6_setPost 13 (Ls) (.int (-1) :: st) (h) := e_iconst dX6_setPost_12 (by decide)
theorem iX6_setPost_13 {x z : Int32} {Ls st : List Value} {h : AH} : ev L xs mdX6_setPost 13 Ls (.int z :: .int x :: st) h = if x = z then ev L xs mdX6_setPost 37 Ls st h else ev L xs mdX6_setPost 16 Ls st h := e_ic_eq dX6_setPost_13 (by decide)
theorem iX6_setPost_16 {x : Nat} {Ls st : List Value} {h : AH} : ev L xs mdX6_setPost 16 (.ref x :: Ls) (st) h = ev L xs mdX6_setPost 17 (.ref x :: Ls) (.ref x :: st) (h) := e_aload_n dX6_setPost_16 rfl
theorem iX6_setPost_17 {a : Nat} {Ls st : List Value} {h : AH} (hk : hK h a = 6) (hj : (hR h 96 a).isSome = true) : ev L xs mdX6_setPost 17 (Ls) (.ref a :: st) h = ev L xs mdX6_setPost 20 (Ls) (.ref ((hR h 96 a).getD 0) :: st) (h) := e_getR (k := 6) (f := 0) (F := 96) dX6_setPost_17 (by decide +kernel) rfl rfl hk hj
theorem iX6_setPost_20 {v0 : Value} {v1 : Value} {x : Int32} {Ls st : List Value} {h : AH} : ev L xs mdX6_setPost 20 (v0 :: v1 :: .int x :: Ls) (st) h = ev L xs mdX6_setPost 21 (v0 :: v1 :: .int x :: Ls) (.int x :: st) (h) := e_iload_n dX6_setPost_20 rfl
theorem iX6_setPost_21 {a : Nat} {p0 : Int32} {Ls st : List Value} {h : AH} (hk : hK h a = 5) (hw : wds st ≤ 8) : ev L xs mdX6_setPost 21 Ls (.int p0 :: .ref a :: st) h = kn L xs mdX6_setPost 21 24 Ls st (ev L xs mdX5_hasPost 0 [.ref a, .int p0] [] h) := e_callV (as := [.int p0]) dX6_setPost_21 mr_6_88 (by decide) (by decide) rfl (by simp [wds, Value.category]; decide) rfl (by decide) hk hw
theorem iX6_setPost_24 {x : Int32} {Ls st : List Value} {h : AH} : ev L xs mdX6_setPost 24 Ls (.int x :: st) h = if x = nI 0 then ev L xs mdX6_setPost 27 Ls st h else ev L xs mdX6_setPost 37 Ls st h := e_if_ne dX6_setPost_24 (by decide)
theorem iX6_setPost_27 {Ls : List Value} {h : AH} : ev L xs mdX6_setPost 27 Ls [] h = some (.inr ("java/lang/IndexOutOfBoundsException", bump h)) := e_throw dX6_setPost_27 (by decide +kernel) dX6_setPost_30 dX6_setPost_31 dX6_setPost_33 dX6_setPost_36 (by decide +kernel) (by decide +kernel)
theorem iX6_setPost_37 {x : Nat} {Ls st : List Value} {h : AH} : ev L xs mdX6_setPost 37 (.ref x :: Ls) (st) h = ev L xs mdX6_setPost 38 (.ref x :: Ls) (.ref x :: st) (h) := e_aload_n dX6_setPost_37 rfl
theorem iX6_setPost_38 {a : Nat} {Ls st : List Value} {h : AH} (hk : hK h a = 6) (hj : (hR h 96 a).isSome = true) : ev L xs mdX6_setPost 38 (Ls) (.ref a :: st) h = ev L xs mdX6_setPost 41 (Ls) (.ref ((hR h 96 a).getD 0) :: st) (h) := e_getR (k := 6) (f := 0) (F := 96) dX6_setPost_38 (by decide +kernel) rfl rfl hk hj
theorem iX6_setPost_41 {a : Nat} {Ls st : List Value} {h : AH} (hk : hK h a = 5) (hj : (hR h 85 a).isSome = true) : ev L xs mdX6_setPost 41 (Ls) (.ref a :: st) h = ev L xs mdX6_setPost 44 (Ls) (.ref ((hR h 85 a).getD 0) :: st) (h) := e_getR (k := 5) (f := 5) (F := 85) dX6_setPost_41 (by decide +kernel) rfl rfl hk hj
theorem iX6_setPost_44 {v0 : Value} {x : Int32} {Ls st : List Value} {h : AH} : ev L xs mdX6_setPost 44 (v0 :: .int x :: Ls) (st) h = ev L xs mdX6_setPost 45 (v0 :: .int x :: Ls) (.int x :: st) (h) := e_iload_n dX6_setPost_44 rfl
theorem iX6_setPost_45 {a : Nat} {j : Int32} {Ls st : List Value} {h : AH} (hk : hK h a = 9 ∨ hK h a = 10 ∨ hK h a = 11) (hi : inA j (hN h a) = true) (hq : (hQ h a j.toNatClampNeg).isSome = true) : ev L xs mdX6_setPost 45 (Ls) (.int j :: .ref a :: st) h = ev L xs mdX6_setPost 46 (Ls) (.ref ((hQ h a j.toNatClampNeg).getD 0) :: st) (h) := e_aald dX6_setPost_45 hk hi hq
theorem iX6_setPost_46 {a : Nat} {Ls st : List Value} {h : AH} (hk : hK h a = 0) : ev L xs mdX6_setPost 46 (Ls) (.ref a :: st) h = ev L xs mdX6_setPost 49 (Ls) (.int (hI h 2 a) :: st) (h) := e_getI (k := 0) (f := 2) (F := 2) dX6_setPost_46 (by decide +kernel) rfl rfl hk
theorem iX6_setPost_49 {v0 : Value} {v1 : Value} {v2 : Value} {v3 : Value} {x : Int32} {Ls st : List Value} {h : AH} (hc9 : v2.category = 1) : ev L xs mdX6_setPost 49 (v0 :: v1 :: v2 :: v3 :: Ls) (.int x :: st) h = ev L xs mdX6_setPost 50 (v0 :: v1 :: v2 :: .int x :: Ls) (st) (h) := e_istore_n dX6_setPost_49 rfl (by decide) (by unfold catOK; show (_ || (v2.category == 1)) = true; rw [hc9]; rfl)
theorem iX6_setPost_50 {v0 : Value} {v1 : Value} {x : Int32} {Ls st : List Value} {h : AH} : ev L xs mdX6_setPost 50 (v0 :: v1 :: .int x :: Ls) (st) h = ev L xs mdX6_setPost 51 (v0 :: v1 :: .int x :: Ls) (.int x :: st) (h) := e_iload_n dX6_setPost_50 rfl
theorem iX6_setPost_51  {Ls st : List Value} {h : AH} : ev L xs mdX6_setPost 51 (Ls) (st) h = ev L xs mdX6_setPost 52 (Ls) (.int (-1) :: st) (h) := e_iconst dX6_setPost_51 (by decide)
theorem iX6_setPost_52 {x z : Int32} {Ls st : List Value} {h : AH} : ev L xs mdX6_setPost 52 Ls (.int z :: .int x :: st) h = if x = z then ev L xs mdX6_setPost 82 Ls st h else ev L xs mdX6_setPost 55 Ls st h := e_ic_eq dX6_setPost_52 (by decide)
theorem iX6_setPost_55 {v0 : Value} {v1 : Value} {x : Int32} {Ls st : List Value} {h : AH} : ev L xs mdX6_setPost 55 (v0 :: v1 :: .int x :: Ls) (st) h = ev L xs mdX6_setPost 56 (v0 :: v1 :: .int x :: Ls) (.int x :: st) (h) := e_iload_n dX6_setPost_55 rfl
theorem iX6_setPost_56 {v0 : Value} {v1 : Value} {v2 : Value} {x : Int32} {Ls st : List Value} {h : AH} : ev L xs mdX6_setPost 56 (v0 :: v1 :: v2 :: .int x :: Ls) (st) h = ev L xs mdX6_setPost 57 (v0 :: v1 :: v2 :: .int x :: Ls) (.int x :: st) (h) := e_iload_n dX6_setPost_56 rfl
theorem iX6_setPost_57 {x z : Int32} {Ls st : List Value} {h : AH} : ev L xs mdX6_setPost 57 Ls (.int z :: .int x :: st) h = if x = z then ev L xs mdX6_setPost 82 Ls st h else ev L xs mdX6_setPost 60 Ls st h := e_ic_eq dX6_setPost_57 (by decide)
theorem iX6_setPost_60 {x : Nat} {Ls st : List Value} {h : AH} : ev L xs mdX6_setPost 60 (.ref x :: Ls) (st) h = ev L xs mdX6_setPost 61 (.ref x :: Ls) (.ref x :: st) (h) := e_aload_n dX6_setPost_60 rfl
theorem iX6_setPost_61 {a : Nat} {Ls st : List Value} {h : AH} (hk : hK h a = 6) (hj : (hR h 96 a).isSome = true) : ev L xs mdX6_setPost 61 (Ls) (.ref a :: st) h = ev L xs mdX6_setPost 64 (Ls) (.ref ((hR h 96 a).getD 0) :: st) (h) := e_getR (k := 6) (f := 0) (F := 96) dX6_setPost_61 (by decide +kernel) rfl rfl hk hj
theorem iX6_setPost_64 {v0 : Value} {v1 : Value} {x : Int32} {Ls st : List Value} {h : AH} : ev L xs mdX6_setPost 64 (v0 :: v1 :: .int x :: Ls) (st) h = ev L xs mdX6_setPost 65 (v0 :: v1 :: .int x :: Ls) (.int x :: st) (h) := e_iload_n dX6_setPost_64 rfl
theorem iX6_setPost_65 {a : Nat} {p0 : Int32} {Ls st : List Value} {h : AH} (hk : hK h a = 5) (hw : wds st ≤ 8) : ev L xs mdX6_setPost 65 Ls (.int p0 :: .ref a :: st) h = kn L xs mdX6_setPost 65 68 Ls st (ev L xs mdX5_ownerOf 0 [.ref a, .int p0, .null] [] h) := e_callV (as := [.int p0]) dX6_setPost_65 mr_6_114 (by decide) (by decide) rfl (by simp [wds, Value.category]; decide) rfl (by decide) hk hw
theorem iX6_setPost_68  {Ls st : List Value} {h : AH} : ev L xs mdX6_setPost 68 (Ls) (st) h = ev L xs mdX6_setPost 69 (Ls) (.int (-1) :: st) (h) := e_iconst dX6_setPost_68 (by decide)
theorem iX6_setPost_69 {x z : Int32} {Ls st : List Value} {h : AH} : ev L xs mdX6_setPost 69 Ls (.int z :: .int x :: st) h = if x = z then ev L xs mdX6_setPost 82 Ls st h else ev L xs mdX6_setPost 72 Ls st h := e_ic_eq dX6_setPost_69 (by decide)
theorem iX6_setPost_72 {Ls : List Value} {h : AH} : ev L xs mdX6_setPost 72 Ls [] h = some (.inr ("java/lang/IllegalStateException", bump h)) := e_throw dX6_setPost_72 (by decide +kernel) dX6_setPost_75 dX6_setPost_76 dX6_setPost_78 dX6_setPost_81 (by decide +kernel) (by decide +kernel)
theorem iX6_setPost_82 {x : Nat} {Ls st : List Value} {h : AH} : ev L xs mdX6_setPost 82 (.ref x :: Ls) (st) h = ev L xs mdX6_setPost 83 (.ref x :: Ls) (.ref x :: st) (h) := e_aload_n dX6_setPost_82 rfl
theorem iX6_setPost_83 {a : Nat} {Ls st : List Value} {h : AH} (hk : hK h a = 6) (hw : wds st ≤ 8) : ev L xs mdX6_setPost 83 Ls (.ref a :: st) h = kn L xs mdX6_setPost 83 86 Ls st (ev L xs mdX6_save 0 [.ref a, .null, .null] [] h) := e_callV (as := []) dX6_setPost_83 mr_6_68 (by decide) (by decide) rfl (by simp [wds, Value.category]; decide) rfl (by decide) hk hw
theorem iX6_setPost_86 {x : Nat} {Ls st : List Value} {h : AH} : ev L xs mdX6_setPost 86 (.ref x :: Ls) (st) h = ev L xs mdX6_setPost 87 (.ref x :: Ls) (.ref x :: st) (h) := e_aload_n dX6_setPost_86 rfl
theorem iX6_setPost_87 {a : Nat} {Ls st : List Value} {h : AH} (hk : hK h a = 6) (hj : (hR h 96 a).isSome = true) : ev L xs mdX6_setPost 87 (Ls) (.ref a :: st) h = ev L xs mdX6_setPost 90 (Ls) (.ref ((hR h 96 a).getD 0) :: st) (h) := e_getR (k := 6) (f := 0) (F := 96) dX6_setPost_87 (by decide +kernel) rfl rfl hk hj
theorem iX6_setPost_90 {a : Nat} {Ls st : List Value} {h : AH} (hk : hK h a = 5) (hj : (hR h 85 a).isSome = true) : ev L xs mdX6_setPost 90 (Ls) (.ref a :: st) h = ev L xs mdX6_setPost 93 (Ls) (.ref ((hR h 85 a).getD 0) :: st) (h) := e_getR (k := 5) (f := 5) (F := 85) dX6_setPost_90 (by decide +kernel) rfl rfl hk hj
theorem iX6_setPost_93 {v0 : Value} {x : Int32} {Ls st : List Value} {h : AH} : ev L xs mdX6_setPost 93 (v0 :: .int x :: Ls) (st) h = ev L xs mdX6_setPost 94 (v0 :: .int x :: Ls) (.int x :: st) (h) := e_iload_n dX6_setPost_93 rfl
theorem iX6_setPost_94 {a : Nat} {j : Int32} {Ls st : List Value} {h : AH} (hk : hK h a = 9 ∨ hK h a = 10 ∨ hK h a = 11) (hi : inA j (hN h a) = true) (hq : (hQ h a j.toNatClampNeg).isSome = true) : ev L xs mdX6_setPost 94 (Ls) (.int j :: .ref a :: st) h = ev L xs mdX6_setPost 95 (Ls) (.ref ((hQ h a j.toNatClampNeg).getD 0) :: st) (h) := e_aald dX6_setPost_94 hk hi hq
theorem iX6_setPost_95 {v0 : Value} {v1 : Value} {x : Int32} {Ls st : List Value} {h : AH} : ev L xs mdX6_setPost 95 (v0 :: v1 :: .int x :: Ls) (st) h = ev L xs mdX6_setPost 96 (v0 :: v1 :: .int x :: Ls) (.int x :: st) (h) := e_iload_n dX6_setPost_95 rfl
theorem iX6_setPost_96 {a : Nat} {v : Int32} {Ls st : List Value} {h : AH} (hk : hK h a = 0) : ev L xs mdX6_setPost 96 (Ls) (.int v :: .ref a :: st) h = ev L xs mdX6_setPost 99 (Ls) (st) (sI h 2 a v) := e_putI (k := 0) (f := 2) (F := 2) dX6_setPost_96 (by decide +kernel) rfl (by decide +kernel) rfl hk
theorem iX6_setPost_99 {v0 : Value} {v1 : Value} {v2 : Value} {x : Int32} {Ls st : List Value} {h : AH} : ev L xs mdX6_setPost 99 (v0 :: v1 :: v2 :: .int x :: Ls) (st) h = ev L xs mdX6_setPost 100 (v0 :: v1 :: v2 :: .int x :: Ls) (.int x :: st) (h) := e_iload_n dX6_setPost_99 rfl
theorem iX6_setPost_100 {v : Int32} {Ls : List Value} {h : AH} : ev L xs mdX6_setPost 100 Ls [.int v] h = some (.inl (some (.int v), h)) := e_iret dX6_setPost_100 rfl
theorem dX6_sick_0 : decode cX6_sick 0 = .ok (.aload_n 0, 1) := by decide +kernel
theorem dX6_sick_1 : decode cX6_sick 1 = .ok (.getfield 12, 3) := by decide +kernel
theorem dX6_sick_4 : decode cX6_sick 4 = .ok (.iload_n 1, 1) := by decide +kernel
theorem dX6_sick_5 : decode cX6_sick 5 = .ok (.invokevirtual 124, 3) := by decide +kernel
theorem dX6_sick_8 : decode cX6_sick 8 = .ok (.ifCond .ne 13, 3) := by decide +kernel
theorem dX6_sick_11 : decode cX6_sick 11 = .ok (.new 91, 3) := by decide +kernel
theorem dX6_sick_14 : decode cX6_sick 14 = .ok (.dup, 1) := by decide +kernel
theorem dX6_sick_15 : decode cX6_sick 15 = .ok (.ldc 138, 2) := by decide +kernel
theorem dX6_sick_17 : decode cX6_sick 17 = .ok (.invokespecial 95, 3) := by decide +kernel
theorem dX6_sick_20 : decode cX6_sick 20 = .ok (.athrow, 1) := by decide +kernel
theorem dX6_sick_21 : decode cX6_sick 21 = .ok (.iload_n 2, 1) := by decide +kernel
theorem dX6_sick_22 : decode cX6_sick 22 = .ok (.iconst 0, 1) := by decide +kernel
theorem dX6_sick_23 : decode cX6_sick 23 = .ok (.bipush 60, 2) := by decide +kernel
theorem dX6_sick_25 : decode cX6_sick 25 = .ok (.invokestatic 48, 3) := by decide +kernel
theorem dX6_sick_28 : decode cX6_sick 28 = .ok (.ifCond .ne 13, 3) := by decide +kernel
theorem dX6_sick_31 : decode cX6_sick 31 = .ok (.new 52, 3) := by decide +kernel
theorem dX6_sick_34 : decode cX6_sick 34 = .ok (.dup, 1) := by decide +kernel
theorem dX6_sick_35 : decode cX6_sick 35 = .ok (.ldc 140, 2) := by decide +kernel
theorem dX6_sick_37 : decode cX6_sick 37 = .ok (.invokespecial 56, 3) := by decide +kernel
theorem dX6_sick_40 : decode cX6_sick 40 = .ok (.athrow, 1) := by decide +kernel
theorem dX6_sick_41 : decode cX6_sick 41 = .ok (.aload_n 0, 1) := by decide +kernel
theorem dX6_sick_42 : decode cX6_sick 42 = .ok (.invokevirtual 68, 3) := by decide +kernel
theorem dX6_sick_45 : decode cX6_sick 45 = .ok (.aload_n 0, 1) := by decide +kernel
theorem dX6_sick_46 : decode cX6_sick 46 = .ok (.getfield 12, 3) := by decide +kernel
theorem dX6_sick_49 : decode cX6_sick 49 = .ok (.iload_n 1, 1) := by decide +kernel
theorem dX6_sick_50 : decode cX6_sick 50 = .ok (.iload_n 2, 1) := by decide +kernel
theorem dX6_sick_51 : decode cX6_sick 51 = .ok (.invokevirtual 142, 3) := by decide +kernel
theorem dX6_sick_54 : decode cX6_sick 54 = .ok (.ireturn, 1) := by decide +kernel
theorem iX6_sick_0 {x : Nat} {Ls st : List Value} {h : AH} : ev L xs mdX6_sick 0 (.ref x :: Ls) (st) h = ev L xs mdX6_sick 1 (.ref x :: Ls) (.ref x :: st) (h) := e_aload_n dX6_sick_0 rfl
theorem iX6_sick_1 {a : Nat} {Ls st : List Value} {h : AH} (hk : hK h a = 6) (hj : (hR h 96 a).isSome = true) : ev L xs mdX6_sick 1 (Ls) (.ref a :: st) h = ev L xs mdX6_sick 4 (Ls) (.ref ((hR h 96 a).getD 0) :: st) (h) := e_getR (k := 6) (f := 0) (F := 96) dX6_sick_1 (by decide +kernel) rfl rfl hk hj
theorem iX6_sick_4 {v0 : Value} {x : Int32} {Ls st : List Value} {h : AH} : ev L xs mdX6_sick 4 (v0 :: .int x :: Ls) (st) h = ev L xs mdX6_sick 5 (v0 :: .int x :: Ls) (.int x :: st) (h) := e_iload_n dX6_sick_4 rfl
theorem iX6_sick_5 {a : Nat} {p0 : Int32} {Ls st : List Value} {h : AH} (hk : hK h a = 5) (hw : wds st ≤ 8) : ev L xs mdX6_sick 5 Ls (.int p0 :: .ref a :: st) h = kn L xs mdX6_sick 5 8 Ls st (ev L xs mdX5_hasGuard 0 [.ref a, .int p0] [] h) := e_callV (as := [.int p0]) dX6_sick_5 mr_6_124 (by decide) (by decide) rfl (by simp [wds, Value.category]; decide) rfl (by decide) hk hw
theorem iX6_sick_8 {x : Int32} {Ls st : List Value} {h : AH} : ev L xs mdX6_sick 8 Ls (.int x :: st) h = if x = nI 0 then ev L xs mdX6_sick 11 Ls st h else ev L xs mdX6_sick 21 Ls st h := e_if_ne dX6_sick_8 (by decide)
theorem iX6_sick_11 {Ls : List Value} {h : AH} : ev L xs mdX6_sick 11 Ls [] h = some (.inr ("java/lang/IndexOutOfBoundsException", bump h)) := e_throw dX6_sick_11 (by decide +kernel) dX6_sick_14 dX6_sick_15 dX6_sick_17 dX6_sick_20 (by decide +kernel) (by decide +kernel)
theorem iX6_sick_21 {v0 : Value} {v1 : Value} {x : Int32} {Ls st : List Value} {h : AH} : ev L xs mdX6_sick 21 (v0 :: v1 :: .int x :: Ls) (st) h = ev L xs mdX6_sick 22 (v0 :: v1 :: .int x :: Ls) (.int x :: st) (h) := e_iload_n dX6_sick_21 rfl
theorem iX6_sick_22  {Ls st : List Value} {h : AH} : ev L xs mdX6_sick 22 (Ls) (st) h = ev L xs mdX6_sick 23 (Ls) (.int (nI 0) :: st) (h) := e_iconst dX6_sick_22 (by decide)
theorem iX6_sick_23  {Ls st : List Value} {h : AH} : ev L xs mdX6_sick 23 (Ls) (st) h = ev L xs mdX6_sick 25 (Ls) (.int (nI 60) :: st) (h) := e_bipush dX6_sick_23 (by decide)
theorem iX6_sick_25 {p0 : Int32} {p1 : Int32} {p2 : Int32} {Ls st : List Value} {h : AH} (hw : wds st ≤ 8) : ev L xs mdX6_sick 25 Ls (.int p2 :: .int p1 :: .int p0 :: st) h = kn L xs mdX6_sick 25 28 Ls st (ev L xs mdX6_isWithin 0 [.int p0, .int p1, .int p2] [] h) := e_callS (as := [.int p2, .int p1, .int p0]) dX6_sick_25 mr_6_48 (by decide) (by decide) rfl (by simp [wds, Value.category]; decide) rfl hw
theorem iX6_sick_28 {x : Int32} {Ls st : List Value} {h : AH} : ev L xs mdX6_sick 28 Ls (.int x :: st) h = if x = nI 0 then ev L xs mdX6_sick 31 Ls st h else ev L xs mdX6_sick 41 Ls st h := e_if_ne dX6_sick_28 (by decide)
theorem iX6_sick_31 {Ls : List Value} {h : AH} : ev L xs mdX6_sick 31 Ls [] h = some (.inr ("java/lang/IllegalArgumentException", bump h)) := e_throw dX6_sick_31 (by decide +kernel) dX6_sick_34 dX6_sick_35 dX6_sick_37 dX6_sick_40 (by decide +kernel) (by decide +kernel)
theorem iX6_sick_41 {x : Nat} {Ls st : List Value} {h : AH} : ev L xs mdX6_sick 41 (.ref x :: Ls) (st) h = ev L xs mdX6_sick 42 (.ref x :: Ls) (.ref x :: st) (h) := e_aload_n dX6_sick_41 rfl
theorem iX6_sick_42 {a : Nat} {Ls st : List Value} {h : AH} (hk : hK h a = 6) (hw : wds st ≤ 8) : ev L xs mdX6_sick 42 Ls (.ref a :: st) h = kn L xs mdX6_sick 42 45 Ls st (ev L xs mdX6_save 0 [.ref a, .null, .null] [] h) := e_callV (as := []) dX6_sick_42 mr_6_68 (by decide) (by decide) rfl (by simp [wds, Value.category]; decide) rfl (by decide) hk hw
theorem iX6_sick_45 {x : Nat} {Ls st : List Value} {h : AH} : ev L xs mdX6_sick 45 (.ref x :: Ls) (st) h = ev L xs mdX6_sick 46 (.ref x :: Ls) (.ref x :: st) (h) := e_aload_n dX6_sick_45 rfl
theorem iX6_sick_46 {a : Nat} {Ls st : List Value} {h : AH} (hk : hK h a = 6) (hj : (hR h 96 a).isSome = true) : ev L xs mdX6_sick 46 (Ls) (.ref a :: st) h = ev L xs mdX6_sick 49 (Ls) (.ref ((hR h 96 a).getD 0) :: st) (h) := e_getR (k := 6) (f := 0) (F := 96) dX6_sick_46 (by decide +kernel) rfl rfl hk hj
theorem iX6_sick_49 {v0 : Value} {x : Int32} {Ls st : List Value} {h : AH} : ev L xs mdX6_sick 49 (v0 :: .int x :: Ls) (st) h = ev L xs mdX6_sick 50 (v0 :: .int x :: Ls) (.int x :: st) (h) := e_iload_n dX6_sick_49 rfl
theorem iX6_sick_50 {v0 : Value} {v1 : Value} {x : Int32} {Ls st : List Value} {h : AH} : ev L xs mdX6_sick 50 (v0 :: v1 :: .int x :: Ls) (st) h = ev L xs mdX6_sick 51 (v0 :: v1 :: .int x :: Ls) (.int x :: st) (h) := e_iload_n dX6_sick_50 rfl
theorem iX6_sick_51 {a : Nat} {p0 : Int32} {p1 : Int32} {Ls st : List Value} {h : AH} (hk : hK h a = 5) (hw : wds st ≤ 8) : ev L xs mdX6_sick 51 Ls (.int p1 :: .int p0 :: .ref a :: st) h = kn L xs mdX6_sick 51 54 Ls st (ev L xs mdX5_reportSick 0 [.ref a, .int p0, .int p1] [] h) := e_callV (as := [.int p1, .int p0]) dX6_sick_51 mr_6_142 (by decide) (by decide) rfl (by simp [wds, Value.category]; decide) rfl (by decide) hk hw
theorem iX6_sick_54 {v : Int32} {Ls : List Value} {h : AH} : ev L xs mdX6_sick 54 Ls [.int v] h = some (.inl (some (.int v), h)) := e_iret dX6_sick_54 rfl
theorem dX6_standing_0 : decode cX6_standing 0 = .ok (.aload_n 0, 1) := by decide +kernel
theorem dX6_standing_1 : decode cX6_standing 1 = .ok (.getfield 12, 3) := by decide +kernel
theorem dX6_standing_4 : decode cX6_standing 4 = .ok (.iload_n 1, 1) := by decide +kernel
theorem dX6_standing_5 : decode cX6_standing 5 = .ok (.invokevirtual 88, 3) := by decide +kernel
theorem dX6_standing_8 : decode cX6_standing 8 = .ok (.ifCond .ne 13, 3) := by decide +kernel
theorem dX6_standing_11 : decode cX6_standing 11 = .ok (.new 91, 3) := by decide +kernel
theorem dX6_standing_14 : decode cX6_standing 14 = .ok (.dup, 1) := by decide +kernel
theorem dX6_standing_15 : decode cX6_standing 15 = .ok (.ldc 93, 2) := by decide +kernel
theorem dX6_standing_17 : decode cX6_standing 17 = .ok (.invokespecial 95, 3) := by decide +kernel
theorem dX6_standing_20 : decode cX6_standing 20 = .ok (.athrow, 1) := by decide +kernel
theorem dX6_standing_21 : decode cX6_standing 21 = .ok (.iload_n 2, 1) := by decide +kernel
theorem dX6_standing_22 : decode cX6_standing 22 = .ok (.invokestatic 44, 3) := by decide +kernel
theorem dX6_standing_25 : decode cX6_standing 25 = .ok (.ifCond .eq 10, 3) := by decide +kernel
theorem dX6_standing_28 : decode cX6_standing 28 = .ok (.iload_n 3, 1) := by decide +kernel
theorem dX6_standing_29 : decode cX6_standing 29 = .ok (.invokestatic 191, 3) := by decide +kernel
theorem dX6_standing_32 : decode cX6_standing 32 = .ok (.ifCond .ne 13, 3) := by decide +kernel
theorem dX6_standing_35 : decode cX6_standing 35 = .ok (.new 52, 3) := by decide +kernel
theorem dX6_standing_38 : decode cX6_standing 38 = .ok (.dup, 1) := by decide +kernel
theorem dX6_standing_39 : decode cX6_standing 39 = .ok (.ldc 194, 2) := by decide +kernel
theorem dX6_standing_41 : decode cX6_standing 41 = .ok (.invokespecial 56, 3) := by decide +kernel
theorem dX6_standing_44 : decode cX6_standing 44 = .ok (.athrow, 1) := by decide +kernel
theorem dX6_standing_45 : decode cX6_standing 45 = .ok (.aload_n 0, 1) := by decide +kernel
theorem dX6_standing_46 : decode cX6_standing 46 = .ok (.getfield 26, 3) := by decide +kernel
theorem dX6_standing_49 : decode cX6_standing 49 = .ok (.aload_n 0, 1) := by decide +kernel
theorem dX6_standing_50 : decode cX6_standing 50 = .ok (.getfield 12, 3) := by decide +kernel
theorem dX6_standing_53 : decode cX6_standing 53 = .ok (.iload_n 2, 1) := by decide +kernel
theorem dX6_standing_54 : decode cX6_standing 54 = .ok (.iload_n 3, 1) := by decide +kernel
theorem dX6_standing_55 : decode cX6_standing 55 = .ok (.invokevirtual 199, 3) := by decide +kernel
theorem dX6_standing_58 : decode cX6_standing 58 = .ok (.aload_n 0, 1) := by decide +kernel
theorem dX6_standing_59 : decode cX6_standing 59 = .ok (.getfield 26, 3) := by decide +kernel
theorem dX6_standing_62 : decode cX6_standing 62 = .ok (.getfield 206, 3) := by decide +kernel
theorem dX6_standing_65 : decode cX6_standing 65 = .ok (.iload_n 1, 1) := by decide +kernel
theorem dX6_standing_66 : decode cX6_standing 66 = .ok (.iaload, 1) := by decide +kernel
theorem dX6_standing_67 : decode cX6_standing 67 = .ok (.ireturn, 1) := by decide +kernel
theorem iX6_standing_0 {x : Nat} {Ls st : List Value} {h : AH} : ev L xs mdX6_standing 0 (.ref x :: Ls) (st) h = ev L xs mdX6_standing 1 (.ref x :: Ls) (.ref x :: st) (h) := e_aload_n dX6_standing_0 rfl
theorem iX6_standing_1 {a : Nat} {Ls st : List Value} {h : AH} (hk : hK h a = 6) (hj : (hR h 96 a).isSome = true) : ev L xs mdX6_standing 1 (Ls) (.ref a :: st) h = ev L xs mdX6_standing 4 (Ls) (.ref ((hR h 96 a).getD 0) :: st) (h) := e_getR (k := 6) (f := 0) (F := 96) dX6_standing_1 (by decide +kernel) rfl rfl hk hj
theorem iX6_standing_4 {v0 : Value} {x : Int32} {Ls st : List Value} {h : AH} : ev L xs mdX6_standing 4 (v0 :: .int x :: Ls) (st) h = ev L xs mdX6_standing 5 (v0 :: .int x :: Ls) (.int x :: st) (h) := e_iload_n dX6_standing_4 rfl
theorem iX6_standing_5 {a : Nat} {p0 : Int32} {Ls st : List Value} {h : AH} (hk : hK h a = 5) (hw : wds st ≤ 8) : ev L xs mdX6_standing 5 Ls (.int p0 :: .ref a :: st) h = kn L xs mdX6_standing 5 8 Ls st (ev L xs mdX5_hasPost 0 [.ref a, .int p0] [] h) := e_callV (as := [.int p0]) dX6_standing_5 mr_6_88 (by decide) (by decide) rfl (by simp [wds, Value.category]; decide) rfl (by decide) hk hw
theorem iX6_standing_8 {x : Int32} {Ls st : List Value} {h : AH} : ev L xs mdX6_standing 8 Ls (.int x :: st) h = if x = nI 0 then ev L xs mdX6_standing 11 Ls st h else ev L xs mdX6_standing 21 Ls st h := e_if_ne dX6_standing_8 (by decide)
theorem iX6_standing_11 {Ls : List Value} {h : AH} : ev L xs mdX6_standing 11 Ls [] h = some (.inr ("java/lang/IndexOutOfBoundsException", bump h)) := e_throw dX6_standing_11 (by decide +kernel) dX6_standing_14 dX6_standing_15 dX6_standing_17 dX6_standing_20 (by decide +kernel) (by decide +kernel)
theorem iX6_standing_21 {v0 : Value} {v1 : Value} {x : Int32} {Ls st : List Value} {h : AH} : ev L xs mdX6_standing 21 (v0 :: v1 :: .int x :: Ls) (st) h = ev L xs mdX6_standing 22 (v0 :: v1 :: .int x :: Ls) (.int x :: st) (h) := e_iload_n dX6_standing_21 rfl
theorem iX6_standing_22 {p0 : Int32} {Ls st : List Value} {h : AH} (hw : wds st ≤ 8) : ev L xs mdX6_standing 22 Ls (.int p0 :: st) h = kn L xs mdX6_standing 22 25 Ls st (ev L xs mdX6_isDay 0 [.int p0] [] h) := e_callS (as := [.int p0]) dX6_standing_22 mr_6_44 (by decide) (by decide) rfl (by simp [wds, Value.category]; decide) rfl hw
theorem iX6_standing_25 {x : Int32} {Ls st : List Value} {h : AH} : ev L xs mdX6_standing 25 Ls (.int x :: st) h = if x = nI 0 then ev L xs mdX6_standing 35 Ls st h else ev L xs mdX6_standing 28 Ls st h := e_if_eq dX6_standing_25 (by decide)
theorem iX6_standing_28 {v0 : Value} {v1 : Value} {v2 : Value} {x : Int32} {Ls st : List Value} {h : AH} : ev L xs mdX6_standing 28 (v0 :: v1 :: v2 :: .int x :: Ls) (st) h = ev L xs mdX6_standing 29 (v0 :: v1 :: v2 :: .int x :: Ls) (.int x :: st) (h) := e_iload_n dX6_standing_28 rfl
theorem iX6_standing_29 {p0 : Int32} {Ls st : List Value} {h : AH} (hw : wds st ≤ 8) : ev L xs mdX6_standing 29 Ls (.int p0 :: st) h = kn L xs mdX6_standing 29 32 Ls st (ev L xs mdX6_isSession 0 [.int p0] [] h) := e_callS (as := [.int p0]) dX6_standing_29 mr_6_191 (by decide) (by decide) rfl (by simp [wds, Value.category]; decide) rfl hw
theorem iX6_standing_32 {x : Int32} {Ls st : List Value} {h : AH} : ev L xs mdX6_standing 32 Ls (.int x :: st) h = if x = nI 0 then ev L xs mdX6_standing 35 Ls st h else ev L xs mdX6_standing 45 Ls st h := e_if_ne dX6_standing_32 (by decide)
theorem iX6_standing_35 {Ls : List Value} {h : AH} : ev L xs mdX6_standing 35 Ls [] h = some (.inr ("java/lang/IllegalArgumentException", bump h)) := e_throw dX6_standing_35 (by decide +kernel) dX6_standing_38 dX6_standing_39 dX6_standing_41 dX6_standing_44 (by decide +kernel) (by decide +kernel)
theorem iX6_standing_45 {x : Nat} {Ls st : List Value} {h : AH} : ev L xs mdX6_standing 45 (.ref x :: Ls) (st) h = ev L xs mdX6_standing 46 (.ref x :: Ls) (.ref x :: st) (h) := e_aload_n dX6_standing_45 rfl
theorem iX6_standing_46 {a : Nat} {Ls st : List Value} {h : AH} (hk : hK h a = 6) (hj : (hR h 100 a).isSome = true) : ev L xs mdX6_standing 46 (Ls) (.ref a :: st) h = ev L xs mdX6_standing 49 (Ls) (.ref ((hR h 100 a).getD 0) :: st) (h) := e_getR (k := 6) (f := 4) (F := 100) dX6_standing_46 (by decide +kernel) rfl rfl hk hj
theorem iX6_standing_49 {x : Nat} {Ls st : List Value} {h : AH} : ev L xs mdX6_standing 49 (.ref x :: Ls) (st) h = ev L xs mdX6_standing 50 (.ref x :: Ls) (.ref x :: st) (h) := e_aload_n dX6_standing_49 rfl
theorem iX6_standing_50 {a : Nat} {Ls st : List Value} {h : AH} (hk : hK h a = 6) (hj : (hR h 96 a).isSome = true) : ev L xs mdX6_standing 50 (Ls) (.ref a :: st) h = ev L xs mdX6_standing 53 (Ls) (.ref ((hR h 96 a).getD 0) :: st) (h) := e_getR (k := 6) (f := 0) (F := 96) dX6_standing_50 (by decide +kernel) rfl rfl hk hj
theorem iX6_standing_53 {v0 : Value} {v1 : Value} {x : Int32} {Ls st : List Value} {h : AH} : ev L xs mdX6_standing 53 (v0 :: v1 :: .int x :: Ls) (st) h = ev L xs mdX6_standing 54 (v0 :: v1 :: .int x :: Ls) (.int x :: st) (h) := e_iload_n dX6_standing_53 rfl
theorem iX6_standing_54 {v0 : Value} {v1 : Value} {v2 : Value} {x : Int32} {Ls st : List Value} {h : AH} : ev L xs mdX6_standing 54 (v0 :: v1 :: v2 :: .int x :: Ls) (st) h = ev L xs mdX6_standing 55 (v0 :: v1 :: v2 :: .int x :: Ls) (.int x :: st) (h) := e_iload_n dX6_standing_54 rfl
theorem iX6_standing_55 {a : Nat} {p0 : Nat} {p1 : Int32} {p2 : Int32} {Ls st : List Value} {h : AH} (hk : hK h a = 4) (hw : wds st ≤ 8) : ev L xs mdX6_standing 55 Ls (.int p2 :: .int p1 :: .ref p0 :: .ref a :: st) h = kn L xs mdX6_standing 55 58 Ls st (ev L xs mdX4_draw 0 [.ref a, .ref p0, .int p1, .int p2, .null, .null, .null, .null] [] h) := e_callV (as := [.int p2, .int p1, .ref p0]) dX6_standing_55 mr_6_199 (by decide) (by decide) rfl (by simp [wds, Value.category]; decide) rfl (by decide) hk hw
theorem iX6_standing_58 {x : Nat} {Ls st : List Value} {h : AH} : ev L xs mdX6_standing 58 (.ref x :: Ls) (st) h = ev L xs mdX6_standing 59 (.ref x :: Ls) (.ref x :: st) (h) := e_aload_n dX6_standing_58 rfl
theorem iX6_standing_59 {a : Nat} {Ls st : List Value} {h : AH} (hk : hK h a = 6) (hj : (hR h 100 a).isSome = true) : ev L xs mdX6_standing 59 (Ls) (.ref a :: st) h = ev L xs mdX6_standing 62 (Ls) (.ref ((hR h 100 a).getD 0) :: st) (h) := e_getR (k := 6) (f := 4) (F := 100) dX6_standing_59 (by decide +kernel) rfl rfl hk hj
theorem iX6_standing_62 {a : Nat} {Ls st : List Value} {h : AH} (hk : hK h a = 4) (hj : (hR h 64 a).isSome = true) : ev L xs mdX6_standing 62 (Ls) (.ref a :: st) h = ev L xs mdX6_standing 65 (Ls) (.ref ((hR h 64 a).getD 0) :: st) (h) := e_getR (k := 4) (f := 0) (F := 64) dX6_standing_62 (by decide +kernel) rfl rfl hk hj
theorem iX6_standing_65 {v0 : Value} {x : Int32} {Ls st : List Value} {h : AH} : ev L xs mdX6_standing 65 (v0 :: .int x :: Ls) (st) h = ev L xs mdX6_standing 66 (v0 :: .int x :: Ls) (.int x :: st) (h) := e_iload_n dX6_standing_65 rfl
theorem iX6_standing_66 {a : Nat} {j : Int32} {Ls st : List Value} {h : AH} (hk : hK h a = 8) (hi : inA j (hN h a) = true) : ev L xs mdX6_standing 66 (Ls) (.int j :: .ref a :: st) h = ev L xs mdX6_standing 67 (Ls) (.int (hA h a j.toNatClampNeg) :: st) (h) := e_iald dX6_standing_66 hk hi
theorem iX6_standing_67 {v : Int32} {Ls : List Value} {h : AH} : ev L xs mdX6_standing 67 Ls [.int v] h = some (.inl (some (.int v), h)) := e_iret dX6_standing_67 rfl
theorem dX6_step_0 : decode cX6_step 0 = .ok (.aload_n 0, 1) := by decide +kernel
theorem dX6_step_1 : decode cX6_step 1 = .ok (.getfield 12, 3) := by decide +kernel
theorem dX6_step_4 : decode cX6_step 4 = .ok (.invokevirtual 153, 3) := by decide +kernel
theorem dX6_step_7 : decode cX6_step 7 = .ok (.sipush 3000, 3) := by decide +kernel
theorem dX6_step_10 : decode cX6_step 10 = .ok (.if_icmp .le 13, 3) := by decide +kernel
theorem dX6_step_13 : decode cX6_step 13 = .ok (.new 63, 3) := by decide +kernel
theorem dX6_step_16 : decode cX6_step 16 = .ok (.dup, 1) := by decide +kernel
theorem dX6_step_17 : decode cX6_step 17 = .ok (.ldc 157, 2) := by decide +kernel
theorem dX6_step_19 : decode cX6_step 19 = .ok (.invokespecial 67, 3) := by decide +kernel
theorem dX6_step_22 : decode cX6_step 22 = .ok (.athrow, 1) := by decide +kernel
theorem dX6_step_23 : decode cX6_step 23 = .ok (.aload_n 0, 1) := by decide +kernel
theorem dX6_step_24 : decode cX6_step 24 = .ok (.invokevirtual 68, 3) := by decide +kernel
theorem dX6_step_27 : decode cX6_step 27 = .ok (.aload_n 0, 1) := by decide +kernel
theorem dX6_step_28 : decode cX6_step 28 = .ok (.getfield 12, 3) := by decide +kernel
theorem dX6_step_31 : decode cX6_step 31 = .ok (.aload_n 0, 1) := by decide +kernel
theorem dX6_step_32 : decode cX6_step 32 = .ok (.getfield 26, 3) := by decide +kernel
theorem dX6_step_35 : decode cX6_step 35 = .ok (.invokevirtual 159, 3) := by decide +kernel
theorem dX6_step_38 : decode cX6_step 38 = .ok (.ireturn, 1) := by decide +kernel
theorem iX6_step_0 {x : Nat} {Ls st : List Value} {h : AH} : ev L xs mdX6_step 0 (.ref x :: Ls) (st) h = ev L xs mdX6_step 1 (.ref x :: Ls) (.ref x :: st) (h) := e_aload_n dX6_step_0 rfl
theorem iX6_step_1 {a : Nat} {Ls st : List Value} {h : AH} (hk : hK h a = 6) (hj : (hR h 96 a).isSome = true) : ev L xs mdX6_step 1 (Ls) (.ref a :: st) h = ev L xs mdX6_step 4 (Ls) (.ref ((hR h 96 a).getD 0) :: st) (h) := e_getR (k := 6) (f := 0) (F := 96) dX6_step_1 (by decide +kernel) rfl rfl hk hj
theorem iX6_step_4 {a : Nat} {Ls st : List Value} {h : AH} (hk : hK h a = 5) (hw : wds st ≤ 8) : ev L xs mdX6_step 4 Ls (.ref a :: st) h = kn L xs mdX6_step 4 7 Ls st (ev L xs mdX5_nextDay 0 [.ref a] [] h) := e_callV (as := []) dX6_step_4 mr_6_153 (by decide) (by decide) rfl (by simp [wds, Value.category]; decide) rfl (by decide) hk hw
theorem iX6_step_7  {Ls st : List Value} {h : AH} : ev L xs mdX6_step 7 (Ls) (st) h = ev L xs mdX6_step 10 (Ls) (.int (nI 3000) :: st) (h) := e_sipush dX6_step_7 (by decide)
theorem iX6_step_10 {x z : Int32} {Ls st : List Value} {h : AH} : ev L xs mdX6_step 10 Ls (.int z :: .int x :: st) h = if x ≤ z then ev L xs mdX6_step 23 Ls st h else ev L xs mdX6_step 13 Ls st h := e_ic_le dX6_step_10 (by decide)
theorem iX6_step_13 {Ls : List Value} {h : AH} : ev L xs mdX6_step 13 Ls [] h = some (.inr ("java/lang/IllegalStateException", bump h)) := e_throw dX6_step_13 (by decide +kernel) dX6_step_16 dX6_step_17 dX6_step_19 dX6_step_22 (by decide +kernel) (by decide +kernel)
theorem iX6_step_23 {x : Nat} {Ls st : List Value} {h : AH} : ev L xs mdX6_step 23 (.ref x :: Ls) (st) h = ev L xs mdX6_step 24 (.ref x :: Ls) (.ref x :: st) (h) := e_aload_n dX6_step_23 rfl
theorem iX6_step_24 {a : Nat} {Ls st : List Value} {h : AH} (hk : hK h a = 6) (hw : wds st ≤ 8) : ev L xs mdX6_step 24 Ls (.ref a :: st) h = kn L xs mdX6_step 24 27 Ls st (ev L xs mdX6_save 0 [.ref a, .null, .null] [] h) := e_callV (as := []) dX6_step_24 mr_6_68 (by decide) (by decide) rfl (by simp [wds, Value.category]; decide) rfl (by decide) hk hw
theorem iX6_step_27 {x : Nat} {Ls st : List Value} {h : AH} : ev L xs mdX6_step 27 (.ref x :: Ls) (st) h = ev L xs mdX6_step 28 (.ref x :: Ls) (.ref x :: st) (h) := e_aload_n dX6_step_27 rfl
theorem iX6_step_28 {a : Nat} {Ls st : List Value} {h : AH} (hk : hK h a = 6) (hj : (hR h 96 a).isSome = true) : ev L xs mdX6_step 28 (Ls) (.ref a :: st) h = ev L xs mdX6_step 31 (Ls) (.ref ((hR h 96 a).getD 0) :: st) (h) := e_getR (k := 6) (f := 0) (F := 96) dX6_step_28 (by decide +kernel) rfl rfl hk hj
theorem iX6_step_31 {x : Nat} {Ls st : List Value} {h : AH} : ev L xs mdX6_step 31 (.ref x :: Ls) (st) h = ev L xs mdX6_step 32 (.ref x :: Ls) (.ref x :: st) (h) := e_aload_n dX6_step_31 rfl
theorem iX6_step_32 {a : Nat} {Ls st : List Value} {h : AH} (hk : hK h a = 6) (hj : (hR h 100 a).isSome = true) : ev L xs mdX6_step 32 (Ls) (.ref a :: st) h = ev L xs mdX6_step 35 (Ls) (.ref ((hR h 100 a).getD 0) :: st) (h) := e_getR (k := 6) (f := 4) (F := 100) dX6_step_32 (by decide +kernel) rfl rfl hk hj
theorem iX6_step_35 {a : Nat} {p0 : Nat} {Ls st : List Value} {h : AH} (hk : hK h a = 5) (hw : wds st ≤ 8) : ev L xs mdX6_step 35 Ls (.ref p0 :: .ref a :: st) h = kn L xs mdX6_step 35 38 Ls st (ev L xs mdX5_takeNext 0 [.ref a, .ref p0, .null, .null, .null] [] h) := e_callV (as := [.ref p0]) dX6_step_35 mr_6_159 (by decide) (by decide) rfl (by simp [wds, Value.category]; decide) rfl (by decide) hk hw
theorem iX6_step_38 {v : Int32} {Ls : List Value} {h : AH} : ev L xs mdX6_step 38 Ls [.int v] h = some (.inl (some (.int v), h)) := e_iret dX6_step_38 rfl
theorem dX6_undo_0 : decode cX6_undo 0 = .ok (.aload_n 0, 1) := by decide +kernel
theorem dX6_undo_1 : decode cX6_undo 1 = .ok (.getfield 278, 3) := by decide +kernel
theorem dX6_undo_4 : decode cX6_undo 4 = .ok (.ifCond .gt 14, 3) := by decide +kernel
theorem dX6_undo_7 : decode cX6_undo 7 = .ok (.new 63, 3) := by decide +kernel
theorem dX6_undo_10 : decode cX6_undo 10 = .ok (.dup, 1) := by decide +kernel
theorem dX6_undo_11 : decode cX6_undo 11 = .ok (.ldc_w 281, 3) := by decide +kernel
theorem dX6_undo_14 : decode cX6_undo 14 = .ok (.invokespecial 67, 3) := by decide +kernel
theorem dX6_undo_17 : decode cX6_undo 17 = .ok (.athrow, 1) := by decide +kernel
theorem dX6_undo_18 : decode cX6_undo 18 = .ok (.aload_n 0, 1) := by decide +kernel
theorem dX6_undo_19 : decode cX6_undo 19 = .ok (.dup, 1) := by decide +kernel
theorem dX6_undo_20 : decode cX6_undo 20 = .ok (.getfield 278, 3) := by decide +kernel
theorem dX6_undo_23 : decode cX6_undo 23 = .ok (.iconst 1, 1) := by decide +kernel
theorem dX6_undo_24 : decode cX6_undo 24 = .ok (.isub, 1) := by decide +kernel
theorem dX6_undo_25 : decode cX6_undo 25 = .ok (.putfield 278, 3) := by decide +kernel
theorem dX6_undo_28 : decode cX6_undo 28 = .ok (.aload_n 0, 1) := by decide +kernel
theorem dX6_undo_29 : decode cX6_undo 29 = .ok (.getfield 12, 3) := by decide +kernel
theorem dX6_undo_32 : decode cX6_undo 32 = .ok (.aload_n 0, 1) := by decide +kernel
theorem dX6_undo_33 : decode cX6_undo 33 = .ok (.getfield 19, 3) := by decide +kernel
theorem dX6_undo_36 : decode cX6_undo 36 = .ok (.aload_n 0, 1) := by decide +kernel
theorem dX6_undo_37 : decode cX6_undo 37 = .ok (.getfield 278, 3) := by decide +kernel
theorem dX6_undo_40 : decode cX6_undo 40 = .ok (.aaload, 1) := by decide +kernel
theorem dX6_undo_41 : decode cX6_undo 41 = .ok (.invokevirtual 232, 3) := by decide +kernel
theorem dX6_undo_44 : decode cX6_undo 44 = .ok (.aload_n 0, 1) := by decide +kernel
theorem dX6_undo_45 : decode cX6_undo 45 = .ok (.getfield 278, 3) := by decide +kernel
theorem dX6_undo_48 : decode cX6_undo 48 = .ok (.ireturn, 1) := by decide +kernel
theorem iX6_undo_0 {x : Nat} {Ls st : List Value} {h : AH} : ev L xs mdX6_undo 0 (.ref x :: Ls) (st) h = ev L xs mdX6_undo 1 (.ref x :: Ls) (.ref x :: st) (h) := e_aload_n dX6_undo_0 rfl
theorem iX6_undo_1 {a : Nat} {Ls st : List Value} {h : AH} (hk : hK h a = 6) : ev L xs mdX6_undo 1 (Ls) (.ref a :: st) h = ev L xs mdX6_undo 4 (Ls) (.int (hI h 99 a) :: st) (h) := e_getI (k := 6) (f := 3) (F := 99) dX6_undo_1 (by decide +kernel) rfl rfl hk
theorem iX6_undo_4 {x : Int32} {Ls st : List Value} {h : AH} : ev L xs mdX6_undo 4 Ls (.int x :: st) h = if nI 0 < x then ev L xs mdX6_undo 18 Ls st h else ev L xs mdX6_undo 7 Ls st h := e_if_gt dX6_undo_4 (by decide)
theorem iX6_undo_7 {Ls : List Value} {h : AH} : ev L xs mdX6_undo 7 Ls [] h = some (.inr ("java/lang/IllegalStateException", bump h)) := e_throwW dX6_undo_7 (by decide +kernel) dX6_undo_10 dX6_undo_11 dX6_undo_14 dX6_undo_17 (by decide +kernel) (by decide +kernel)
theorem iX6_undo_18 {x : Nat} {Ls st : List Value} {h : AH} : ev L xs mdX6_undo 18 (.ref x :: Ls) (st) h = ev L xs mdX6_undo 19 (.ref x :: Ls) (.ref x :: st) (h) := e_aload_n dX6_undo_18 rfl
theorem iX6_undo_19 {a : Nat} {Ls st : List Value} {h : AH} : ev L xs mdX6_undo 19 (Ls) (.ref a :: st) h = ev L xs mdX6_undo 20 (Ls) (.ref a :: .ref a :: st) (h) := e_dup dX6_undo_19 rfl
theorem iX6_undo_19i {a : Int32} {Ls st : List Value} {h : AH} : ev L xs mdX6_undo 19 (Ls) (.int a :: st) h = ev L xs mdX6_undo 20 (Ls) (.int a :: .int a :: st) (h) := e_dup dX6_undo_19 rfl
theorem iX6_undo_20 {a : Nat} {Ls st : List Value} {h : AH} (hk : hK h a = 6) : ev L xs mdX6_undo 20 (Ls) (.ref a :: st) h = ev L xs mdX6_undo 23 (Ls) (.int (hI h 99 a) :: st) (h) := e_getI (k := 6) (f := 3) (F := 99) dX6_undo_20 (by decide +kernel) rfl rfl hk
theorem iX6_undo_23  {Ls st : List Value} {h : AH} : ev L xs mdX6_undo 23 (Ls) (st) h = ev L xs mdX6_undo 24 (Ls) (.int (nI 1) :: st) (h) := e_iconst dX6_undo_23 (by decide)
theorem iX6_undo_24 {x z : Int32} {Ls st : List Value} {h : AH} : ev L xs mdX6_undo 24 (Ls) (.int z :: .int x :: st) h = ev L xs mdX6_undo 25 (Ls) (.int (x - z) :: st) (h) := e_isub dX6_undo_24
theorem iX6_undo_25 {a : Nat} {v : Int32} {Ls st : List Value} {h : AH} (hk : hK h a = 6) : ev L xs mdX6_undo 25 (Ls) (.int v :: .ref a :: st) h = ev L xs mdX6_undo 28 (Ls) (st) (sI h 99 a v) := e_putI (k := 6) (f := 3) (F := 99) dX6_undo_25 (by decide +kernel) rfl (by decide +kernel) rfl hk
theorem iX6_undo_28 {x : Nat} {Ls st : List Value} {h : AH} : ev L xs mdX6_undo 28 (.ref x :: Ls) (st) h = ev L xs mdX6_undo 29 (.ref x :: Ls) (.ref x :: st) (h) := e_aload_n dX6_undo_28 rfl
theorem iX6_undo_29 {a : Nat} {Ls st : List Value} {h : AH} (hk : hK h a = 6) (hj : (hR h 96 a).isSome = true) : ev L xs mdX6_undo 29 (Ls) (.ref a :: st) h = ev L xs mdX6_undo 32 (Ls) (.ref ((hR h 96 a).getD 0) :: st) (h) := e_getR (k := 6) (f := 0) (F := 96) dX6_undo_29 (by decide +kernel) rfl rfl hk hj
theorem iX6_undo_32 {x : Nat} {Ls st : List Value} {h : AH} : ev L xs mdX6_undo 32 (.ref x :: Ls) (st) h = ev L xs mdX6_undo 33 (.ref x :: Ls) (.ref x :: st) (h) := e_aload_n dX6_undo_32 rfl
theorem iX6_undo_33 {a : Nat} {Ls st : List Value} {h : AH} (hk : hK h a = 6) (hj : (hR h 98 a).isSome = true) : ev L xs mdX6_undo 33 (Ls) (.ref a :: st) h = ev L xs mdX6_undo 36 (Ls) (.ref ((hR h 98 a).getD 0) :: st) (h) := e_getR (k := 6) (f := 2) (F := 98) dX6_undo_33 (by decide +kernel) rfl rfl hk hj
theorem iX6_undo_36 {x : Nat} {Ls st : List Value} {h : AH} : ev L xs mdX6_undo 36 (.ref x :: Ls) (st) h = ev L xs mdX6_undo 37 (.ref x :: Ls) (.ref x :: st) (h) := e_aload_n dX6_undo_36 rfl
theorem iX6_undo_37 {a : Nat} {Ls st : List Value} {h : AH} (hk : hK h a = 6) : ev L xs mdX6_undo 37 (Ls) (.ref a :: st) h = ev L xs mdX6_undo 40 (Ls) (.int (hI h 99 a) :: st) (h) := e_getI (k := 6) (f := 3) (F := 99) dX6_undo_37 (by decide +kernel) rfl rfl hk
theorem iX6_undo_40 {a : Nat} {j : Int32} {Ls st : List Value} {h : AH} (hk : hK h a = 9 ∨ hK h a = 10 ∨ hK h a = 11) (hi : inA j (hN h a) = true) (hq : (hQ h a j.toNatClampNeg).isSome = true) : ev L xs mdX6_undo 40 (Ls) (.int j :: .ref a :: st) h = ev L xs mdX6_undo 41 (Ls) (.ref ((hQ h a j.toNatClampNeg).getD 0) :: st) (h) := e_aald dX6_undo_40 hk hi hq
theorem iX6_undo_41 {a : Nat} {p0 : Nat} {Ls st : List Value} {h : AH} (hk : hK h a = 5) (hw : wds st ≤ 8) : ev L xs mdX6_undo 41 Ls (.ref p0 :: .ref a :: st) h = kn L xs mdX6_undo 41 44 Ls st (ev L xs mdX5_copyFrom 0 [.ref a, .ref p0, .null] [] h) := e_callV (as := [.ref p0]) dX6_undo_41 mr_6_232 (by decide) (by decide) rfl (by simp [wds, Value.category]; decide) rfl (by decide) hk hw
theorem iX6_undo_44 {x : Nat} {Ls st : List Value} {h : AH} : ev L xs mdX6_undo 44 (.ref x :: Ls) (st) h = ev L xs mdX6_undo 45 (.ref x :: Ls) (.ref x :: st) (h) := e_aload_n dX6_undo_44 rfl
theorem iX6_undo_45 {a : Nat} {Ls st : List Value} {h : AH} (hk : hK h a = 6) : ev L xs mdX6_undo 45 (Ls) (.ref a :: st) h = ev L xs mdX6_undo 48 (Ls) (.int (hI h 99 a) :: st) (h) := e_getI (k := 6) (f := 3) (F := 99) dX6_undo_45 (by decide +kernel) rfl rfl hk
theorem iX6_undo_48 {v : Int32} {Ls : List Value} {h : AH} : ev L xs mdX6_undo 48 Ls [.int v] h = some (.inl (some (.int v), h)) := e_iret dX6_undo_48 rfl
theorem dX6_value_0 : decode cX6_value 0 = .ok (.iload_n 1, 1) := by decide +kernel
theorem dX6_value_1 : decode cX6_value 1 = .ok (.iconst 0, 1) := by decide +kernel
theorem dX6_value_2 : decode cX6_value 2 = .ok (.bipush 10, 2) := by decide +kernel
theorem dX6_value_4 : decode cX6_value 4 = .ok (.invokestatic 48, 3) := by decide +kernel
theorem dX6_value_7 : decode cX6_value 7 = .ok (.ifCond .ne 13, 3) := by decide +kernel
theorem dX6_value_10 : decode cX6_value 10 = .ok (.new 52, 3) := by decide +kernel
theorem dX6_value_13 : decode cX6_value 13 = .ok (.dup, 1) := by decide +kernel
theorem dX6_value_14 : decode cX6_value 14 = .ok (.ldc 172, 2) := by decide +kernel
theorem dX6_value_16 : decode cX6_value 16 = .ok (.invokespecial 56, 3) := by decide +kernel
theorem dX6_value_19 : decode cX6_value 19 = .ok (.athrow, 1) := by decide +kernel
theorem dX6_value_20 : decode cX6_value 20 = .ok (.aload_n 0, 1) := by decide +kernel
theorem dX6_value_21 : decode cX6_value 21 = .ok (.getfield 12, 3) := by decide +kernel
theorem dX6_value_24 : decode cX6_value 24 = .ok (.iload_n 1, 1) := by decide +kernel
theorem dX6_value_25 : decode cX6_value 25 = .ok (.invokevirtual 180, 3) := by decide +kernel
theorem dX6_value_28 : decode cX6_value 28 = .ok (.ireturn, 1) := by decide +kernel
theorem iX6_value_0 {v0 : Value} {x : Int32} {Ls st : List Value} {h : AH} : ev L xs mdX6_value 0 (v0 :: .int x :: Ls) (st) h = ev L xs mdX6_value 1 (v0 :: .int x :: Ls) (.int x :: st) (h) := e_iload_n dX6_value_0 rfl
theorem iX6_value_1  {Ls st : List Value} {h : AH} : ev L xs mdX6_value 1 (Ls) (st) h = ev L xs mdX6_value 2 (Ls) (.int (nI 0) :: st) (h) := e_iconst dX6_value_1 (by decide)
theorem iX6_value_2  {Ls st : List Value} {h : AH} : ev L xs mdX6_value 2 (Ls) (st) h = ev L xs mdX6_value 4 (Ls) (.int (nI 10) :: st) (h) := e_bipush dX6_value_2 (by decide)
theorem iX6_value_4 {p0 : Int32} {p1 : Int32} {p2 : Int32} {Ls st : List Value} {h : AH} (hw : wds st ≤ 8) : ev L xs mdX6_value 4 Ls (.int p2 :: .int p1 :: .int p0 :: st) h = kn L xs mdX6_value 4 7 Ls st (ev L xs mdX6_isWithin 0 [.int p0, .int p1, .int p2] [] h) := e_callS (as := [.int p2, .int p1, .int p0]) dX6_value_4 mr_6_48 (by decide) (by decide) rfl (by simp [wds, Value.category]; decide) rfl hw
theorem iX6_value_7 {x : Int32} {Ls st : List Value} {h : AH} : ev L xs mdX6_value 7 Ls (.int x :: st) h = if x = nI 0 then ev L xs mdX6_value 10 Ls st h else ev L xs mdX6_value 20 Ls st h := e_if_ne dX6_value_7 (by decide)
theorem iX6_value_10 {Ls : List Value} {h : AH} : ev L xs mdX6_value 10 Ls [] h = some (.inr ("java/lang/IllegalArgumentException", bump h)) := e_throw dX6_value_10 (by decide +kernel) dX6_value_13 dX6_value_14 dX6_value_16 dX6_value_19 (by decide +kernel) (by decide +kernel)
theorem iX6_value_20 {x : Nat} {Ls st : List Value} {h : AH} : ev L xs mdX6_value 20 (.ref x :: Ls) (st) h = ev L xs mdX6_value 21 (.ref x :: Ls) (.ref x :: st) (h) := e_aload_n dX6_value_20 rfl
theorem iX6_value_21 {a : Nat} {Ls st : List Value} {h : AH} (hk : hK h a = 6) (hj : (hR h 96 a).isSome = true) : ev L xs mdX6_value 21 (Ls) (.ref a :: st) h = ev L xs mdX6_value 24 (Ls) (.ref ((hR h 96 a).getD 0) :: st) (h) := e_getR (k := 6) (f := 0) (F := 96) dX6_value_21 (by decide +kernel) rfl rfl hk hj
theorem iX6_value_24 {v0 : Value} {x : Int32} {Ls st : List Value} {h : AH} : ev L xs mdX6_value 24 (v0 :: .int x :: Ls) (st) h = ev L xs mdX6_value 25 (v0 :: .int x :: Ls) (.int x :: st) (h) := e_iload_n dX6_value_24 rfl
theorem iX6_value_25 {a : Nat} {p0 : Int32} {Ls st : List Value} {h : AH} (hk : hK h a = 5) (hw : wds st ≤ 8) : ev L xs mdX6_value 25 Ls (.int p0 :: .ref a :: st) h = kn L xs mdX6_value 25 28 Ls st (ev L xs mdX5_about 0 [.ref a, .int p0] [] h) := e_callV (as := [.int p0]) dX6_value_25 mr_6_180 (by decide) (by decide) rfl (by simp [wds, Value.category]; decide) rfl (by decide) hk hw
theorem iX6_value_28 {v : Int32} {Ls : List Value} {h : AH} : ev L xs mdX6_value 28 Ls [.int v] h = some (.inl (some (.int v), h)) := e_iret dX6_value_28 rfl
end
