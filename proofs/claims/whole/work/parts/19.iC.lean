section
variable {L : Nat} {xs : Nat → Int32}
theorem dX7_addGuard_0 : decode cX7_addGuard 0 = .ok (.iload_n 3, 1) := by decide +kernel
theorem dX7_addGuard_1 : decode cX7_addGuard 1 = .ok (.iconst (-1), 1) := by decide +kernel
theorem dX7_addGuard_2 : decode cX7_addGuard 2 = .ok (.if_icmp .eq 16, 3) := by decide +kernel
theorem dX7_addGuard_5 : decode cX7_addGuard 5 = .ok (.aload_n 0, 1) := by decide +kernel
theorem dX7_addGuard_6 : decode cX7_addGuard 6 = .ok (.iload_n 3, 1) := by decide +kernel
theorem dX7_addGuard_7 : decode cX7_addGuard 7 = .ok (.invokevirtual 116, 3) := by decide +kernel
theorem dX7_addGuard_10 : decode cX7_addGuard 10 = .ok (.iconst (-1), 1) := by decide +kernel
theorem dX7_addGuard_11 : decode cX7_addGuard 11 = .ok (.if_icmp .eq 7, 3) := by decide +kernel
theorem dX7_addGuard_14 : decode cX7_addGuard 14 = .ok (.iconst 1, 1) := by decide +kernel
theorem dX7_addGuard_15 : decode cX7_addGuard 15 = .ok (.goto 4, 3) := by decide +kernel
theorem dX7_addGuard_18 : decode cX7_addGuard 18 = .ok (.iconst 0, 1) := by decide +kernel
theorem dX7_addGuard_19 : decode cX7_addGuard 19 = .ok (.istore 4, 2) := by decide +kernel
theorem dX7_addGuard_21 : decode cX7_addGuard 21 = .ok (.aload_n 0, 1) := by decide +kernel
theorem dX7_addGuard_22 : decode cX7_addGuard 22 = .ok (.iload_n 3, 1) := by decide +kernel
theorem dX7_addGuard_23 : decode cX7_addGuard 23 = .ok (.iconst (-1), 1) := by decide +kernel
theorem dX7_addGuard_24 : decode cX7_addGuard 24 = .ok (.if_icmp .eq 15, 3) := by decide +kernel
theorem dX7_addGuard_27 : decode cX7_addGuard 27 = .ok (.aload_n 0, 1) := by decide +kernel
theorem dX7_addGuard_28 : decode cX7_addGuard 28 = .ok (.iload_n 3, 1) := by decide +kernel
theorem dX7_addGuard_29 : decode cX7_addGuard 29 = .ok (.invokevirtual 112, 3) := by decide +kernel
theorem dX7_addGuard_32 : decode cX7_addGuard 32 = .ok (.ifCond .ne 7, 3) := by decide +kernel
theorem dX7_addGuard_35 : decode cX7_addGuard 35 = .ok (.iconst 1, 1) := by decide +kernel
theorem dX7_addGuard_36 : decode cX7_addGuard 36 = .ok (.goto 48, 3) := by decide +kernel
theorem dX7_addGuard_39 : decode cX7_addGuard 39 = .ok (.iload_n 1, 1) := by decide +kernel
theorem dX7_addGuard_40 : decode cX7_addGuard 40 = .ok (.iconst 0, 1) := by decide +kernel
theorem dX7_addGuard_41 : decode cX7_addGuard 41 = .ok (.bipush 99, 2) := by decide +kernel
theorem dX7_addGuard_43 : decode cX7_addGuard 43 = .ok (.invokestatic 44, 3) := by decide +kernel
theorem dX7_addGuard_46 : decode cX7_addGuard 46 = .ok (.ifCond .eq 13, 3) := by decide +kernel
theorem dX7_addGuard_49 : decode cX7_addGuard 49 = .ok (.iload_n 2, 1) := by decide +kernel
theorem dX7_addGuard_50 : decode cX7_addGuard 50 = .ok (.iconst 0, 1) := by decide +kernel
theorem dX7_addGuard_51 : decode cX7_addGuard 51 = .ok (.bipush 99, 2) := by decide +kernel
theorem dX7_addGuard_53 : decode cX7_addGuard 53 = .ok (.invokestatic 44, 3) := by decide +kernel
theorem dX7_addGuard_56 : decode cX7_addGuard 56 = .ok (.ifCond .ne 7, 3) := by decide +kernel
theorem dX7_addGuard_59 : decode cX7_addGuard 59 = .ok (.iconst 2, 1) := by decide +kernel
theorem dX7_addGuard_60 : decode cX7_addGuard 60 = .ok (.goto 24, 3) := by decide +kernel
theorem dX7_addGuard_63 : decode cX7_addGuard 63 = .ok (.aload_n 0, 1) := by decide +kernel
theorem dX7_addGuard_64 : decode cX7_addGuard 64 = .ok (.getfield 7, 3) := by decide +kernel
theorem dX7_addGuard_67 : decode cX7_addGuard 67 = .ok (.iconst 4, 1) := by decide +kernel
theorem dX7_addGuard_68 : decode cX7_addGuard 68 = .ok (.iaload, 1) := by decide +kernel
theorem dX7_addGuard_69 : decode cX7_addGuard 69 = .ok (.bipush 10, 2) := by decide +kernel
theorem dX7_addGuard_71 : decode cX7_addGuard 71 = .ok (.if_icmp .eq 8, 3) := by decide +kernel
theorem dX7_addGuard_74 : decode cX7_addGuard 74 = .ok (.iload 4, 2) := by decide +kernel
theorem dX7_addGuard_76 : decode cX7_addGuard 76 = .ok (.ifCond .eq 7, 3) := by decide +kernel
theorem dX7_addGuard_79 : decode cX7_addGuard 79 = .ok (.iconst 3, 1) := by decide +kernel
theorem dX7_addGuard_80 : decode cX7_addGuard 80 = .ok (.goto 4, 3) := by decide +kernel
theorem dX7_addGuard_83 : decode cX7_addGuard 83 = .ok (.iconst 0, 1) := by decide +kernel
theorem dX7_addGuard_84 : decode cX7_addGuard 84 = .ok (.putfield 34, 3) := by decide +kernel
theorem dX7_addGuard_87 : decode cX7_addGuard 87 = .ok (.aload_n 0, 1) := by decide +kernel
theorem dX7_addGuard_88 : decode cX7_addGuard 88 = .ok (.getfield 34, 3) := by decide +kernel
theorem dX7_addGuard_91 : decode cX7_addGuard 91 = .ok (.ifCond .le 5, 3) := by decide +kernel
theorem dX7_addGuard_94 : decode cX7_addGuard 94 = .ok (.iconst 0, 1) := by decide +kernel
theorem dX7_addGuard_95 : decode cX7_addGuard 95 = .ok (.ireturn, 1) := by decide +kernel
theorem dX7_addGuard_96 : decode cX7_addGuard 96 = .ok (.aload_n 0, 1) := by decide +kernel
theorem dX7_addGuard_97 : decode cX7_addGuard 97 = .ok (.invokevirtual 109, 3) := by decide +kernel
theorem dX7_addGuard_100 : decode cX7_addGuard 100 = .ok (.aload_n 0, 1) := by decide +kernel
theorem dX7_addGuard_101 : decode cX7_addGuard 101 = .ok (.getfield 7, 3) := by decide +kernel
theorem dX7_addGuard_104 : decode cX7_addGuard 104 = .ok (.iload_n 1, 1) := by decide +kernel
theorem dX7_addGuard_105 : decode cX7_addGuard 105 = .ok (.iload_n 2, 1) := by decide +kernel
theorem dX7_addGuard_106 : decode cX7_addGuard 106 = .ok (.iload_n 3, 1) := by decide +kernel
theorem dX7_addGuard_107 : decode cX7_addGuard 107 = .ok (.invokestatic 119, 3) := by decide +kernel
theorem dX7_addGuard_110 : decode cX7_addGuard 110 = .ok (.aload_n 0, 1) := by decide +kernel
theorem dX7_addGuard_111 : decode cX7_addGuard 111 = .ok (.getfield 7, 3) := by decide +kernel
theorem dX7_addGuard_114 : decode cX7_addGuard 114 = .ok (.iconst 4, 1) := by decide +kernel
theorem dX7_addGuard_115 : decode cX7_addGuard 115 = .ok (.iaload, 1) := by decide +kernel
theorem dX7_addGuard_116 : decode cX7_addGuard 116 = .ok (.iconst 1, 1) := by decide +kernel
theorem dX7_addGuard_117 : decode cX7_addGuard 117 = .ok (.isub, 1) := by decide +kernel
theorem dX7_addGuard_118 : decode cX7_addGuard 118 = .ok (.ireturn, 1) := by decide +kernel
theorem iX7_addGuard_0 {v0 : Value} {v1 : Value} {v2 : Value} {x : Int32} {Ls st : List Value} {h : AH} : ev L xs mdX7_addGuard 0 (v0 :: v1 :: v2 :: .int x :: Ls) (st) h = ev L xs mdX7_addGuard 1 (v0 :: v1 :: v2 :: .int x :: Ls) (.int x :: st) (h) := e_iload_n dX7_addGuard_0 rfl
theorem iX7_addGuard_1  {Ls st : List Value} {h : AH} : ev L xs mdX7_addGuard 1 (Ls) (st) h = ev L xs mdX7_addGuard 2 (Ls) (.int (-1) :: st) (h) := e_iconst dX7_addGuard_1 (by decide)
theorem iX7_addGuard_2 {x z : Int32} {Ls st : List Value} {h : AH} : ev L xs mdX7_addGuard 2 Ls (.int z :: .int x :: st) h = if x = z then ev L xs mdX7_addGuard 18 Ls st h else ev L xs mdX7_addGuard 5 Ls st h := e_ic_eq dX7_addGuard_2 (by decide)
theorem iX7_addGuard_5 {x : Nat} {Ls st : List Value} {h : AH} : ev L xs mdX7_addGuard 5 (.ref x :: Ls) (st) h = ev L xs mdX7_addGuard 6 (.ref x :: Ls) (.ref x :: st) (h) := e_aload_n dX7_addGuard_5 rfl
theorem iX7_addGuard_6 {v0 : Value} {v1 : Value} {v2 : Value} {x : Int32} {Ls st : List Value} {h : AH} : ev L xs mdX7_addGuard 6 (v0 :: v1 :: v2 :: .int x :: Ls) (st) h = ev L xs mdX7_addGuard 7 (v0 :: v1 :: v2 :: .int x :: Ls) (.int x :: st) (h) := e_iload_n dX7_addGuard_6 rfl
theorem iX7_addGuard_7 {a : Nat} {p0 : Int32} {Ls st : List Value} {h : AH} (hk : hK h a = 7) (hw : wds st ≤ 8) : ev L xs mdX7_addGuard 7 Ls (.int p0 :: .ref a :: st) h = kn L xs mdX7_addGuard 7 10 Ls st (ev L xs mdX7_ownerOf 0 [.ref a, .int p0, .null, .null] [] h) := e_callV (as := [.int p0]) dX7_addGuard_7 mr_7_116 (by decide) (by decide) rfl (by simp [wds, Value.category]; decide) rfl (by decide) hk hw
theorem iX7_addGuard_10  {Ls st : List Value} {h : AH} : ev L xs mdX7_addGuard 10 (Ls) (st) h = ev L xs mdX7_addGuard 11 (Ls) (.int (-1) :: st) (h) := e_iconst dX7_addGuard_10 (by decide)
theorem iX7_addGuard_11 {x z : Int32} {Ls st : List Value} {h : AH} : ev L xs mdX7_addGuard 11 Ls (.int z :: .int x :: st) h = if x = z then ev L xs mdX7_addGuard 18 Ls st h else ev L xs mdX7_addGuard 14 Ls st h := e_ic_eq dX7_addGuard_11 (by decide)
theorem iX7_addGuard_14  {Ls st : List Value} {h : AH} : ev L xs mdX7_addGuard 14 (Ls) (st) h = ev L xs mdX7_addGuard 15 (Ls) (.int (nI 1) :: st) (h) := e_iconst dX7_addGuard_14 (by decide)
theorem iX7_addGuard_15  {Ls st : List Value} {h : AH} : ev L xs mdX7_addGuard 15 (Ls) (st) h = ev L xs mdX7_addGuard 19 (Ls) (st) (h) := e_goto dX7_addGuard_15 (by decide)
theorem iX7_addGuard_18  {Ls st : List Value} {h : AH} : ev L xs mdX7_addGuard 18 (Ls) (st) h = ev L xs mdX7_addGuard 19 (Ls) (.int (nI 0) :: st) (h) := e_iconst dX7_addGuard_18 (by decide)
theorem iX7_addGuard_19 {v0 : Value} {v1 : Value} {v2 : Value} {v3 : Value} {v4 : Value} {x : Int32} {Ls st : List Value} {h : AH} (hc9 : v3.category = 1) : ev L xs mdX7_addGuard 19 (v0 :: v1 :: v2 :: v3 :: v4 :: Ls) (.int x :: st) h = ev L xs mdX7_addGuard 21 (v0 :: v1 :: v2 :: v3 :: .int x :: Ls) (st) (h) := e_istore dX7_addGuard_19 rfl (by decide) (by unfold catOK; show (_ || (v3.category == 1)) = true; rw [hc9]; rfl)
theorem iX7_addGuard_21 {x : Nat} {Ls st : List Value} {h : AH} : ev L xs mdX7_addGuard 21 (.ref x :: Ls) (st) h = ev L xs mdX7_addGuard 22 (.ref x :: Ls) (.ref x :: st) (h) := e_aload_n dX7_addGuard_21 rfl
theorem iX7_addGuard_22 {v0 : Value} {v1 : Value} {v2 : Value} {x : Int32} {Ls st : List Value} {h : AH} : ev L xs mdX7_addGuard 22 (v0 :: v1 :: v2 :: .int x :: Ls) (st) h = ev L xs mdX7_addGuard 23 (v0 :: v1 :: v2 :: .int x :: Ls) (.int x :: st) (h) := e_iload_n dX7_addGuard_22 rfl
theorem iX7_addGuard_23  {Ls st : List Value} {h : AH} : ev L xs mdX7_addGuard 23 (Ls) (st) h = ev L xs mdX7_addGuard 24 (Ls) (.int (-1) :: st) (h) := e_iconst dX7_addGuard_23 (by decide)
theorem iX7_addGuard_24 {x z : Int32} {Ls st : List Value} {h : AH} : ev L xs mdX7_addGuard 24 Ls (.int z :: .int x :: st) h = if x = z then ev L xs mdX7_addGuard 39 Ls st h else ev L xs mdX7_addGuard 27 Ls st h := e_ic_eq dX7_addGuard_24 (by decide)
theorem iX7_addGuard_27 {x : Nat} {Ls st : List Value} {h : AH} : ev L xs mdX7_addGuard 27 (.ref x :: Ls) (st) h = ev L xs mdX7_addGuard 28 (.ref x :: Ls) (.ref x :: st) (h) := e_aload_n dX7_addGuard_27 rfl
theorem iX7_addGuard_28 {v0 : Value} {v1 : Value} {v2 : Value} {x : Int32} {Ls st : List Value} {h : AH} : ev L xs mdX7_addGuard 28 (v0 :: v1 :: v2 :: .int x :: Ls) (st) h = ev L xs mdX7_addGuard 29 (v0 :: v1 :: v2 :: .int x :: Ls) (.int x :: st) (h) := e_iload_n dX7_addGuard_28 rfl
theorem iX7_addGuard_29 {a : Nat} {p0 : Int32} {Ls st : List Value} {h : AH} (hk : hK h a = 7) (hw : wds st ≤ 8) : ev L xs mdX7_addGuard 29 Ls (.int p0 :: .ref a :: st) h = kn L xs mdX7_addGuard 29 32 Ls st (ev L xs mdX7_isPost 0 [.ref a, .int p0] [] h) := e_callV (as := [.int p0]) dX7_addGuard_29 mr_7_112 (by decide) (by decide) rfl (by simp [wds, Value.category]; decide) rfl (by decide) hk hw
theorem iX7_addGuard_32 {x : Int32} {Ls st : List Value} {h : AH} : ev L xs mdX7_addGuard 32 Ls (.int x :: st) h = if x = nI 0 then ev L xs mdX7_addGuard 35 Ls st h else ev L xs mdX7_addGuard 39 Ls st h := e_if_ne dX7_addGuard_32 (by decide)
theorem iX7_addGuard_35  {Ls st : List Value} {h : AH} : ev L xs mdX7_addGuard 35 (Ls) (st) h = ev L xs mdX7_addGuard 36 (Ls) (.int (nI 1) :: st) (h) := e_iconst dX7_addGuard_35 (by decide)
theorem iX7_addGuard_36  {Ls st : List Value} {h : AH} : ev L xs mdX7_addGuard 36 (Ls) (st) h = ev L xs mdX7_addGuard 84 (Ls) (st) (h) := e_goto dX7_addGuard_36 (by decide)
theorem iX7_addGuard_39 {v0 : Value} {x : Int32} {Ls st : List Value} {h : AH} : ev L xs mdX7_addGuard 39 (v0 :: .int x :: Ls) (st) h = ev L xs mdX7_addGuard 40 (v0 :: .int x :: Ls) (.int x :: st) (h) := e_iload_n dX7_addGuard_39 rfl
theorem iX7_addGuard_40  {Ls st : List Value} {h : AH} : ev L xs mdX7_addGuard 40 (Ls) (st) h = ev L xs mdX7_addGuard 41 (Ls) (.int (nI 0) :: st) (h) := e_iconst dX7_addGuard_40 (by decide)
theorem iX7_addGuard_41  {Ls st : List Value} {h : AH} : ev L xs mdX7_addGuard 41 (Ls) (st) h = ev L xs mdX7_addGuard 43 (Ls) (.int (nI 99) :: st) (h) := e_bipush dX7_addGuard_41 (by decide)
theorem iX7_addGuard_43 {p0 : Int32} {p1 : Int32} {p2 : Int32} {Ls st : List Value} {h : AH} (hw : wds st ≤ 8) : ev L xs mdX7_addGuard 43 Ls (.int p2 :: .int p1 :: .int p0 :: st) h = kn L xs mdX7_addGuard 43 46 Ls st (ev L xs mdX7_in 0 [.int p0, .int p1, .int p2] [] h) := e_callS (as := [.int p2, .int p1, .int p0]) dX7_addGuard_43 mr_7_44 (by decide) (by decide) rfl (by simp [wds, Value.category]; decide) rfl hw
theorem iX7_addGuard_46 {x : Int32} {Ls st : List Value} {h : AH} : ev L xs mdX7_addGuard 46 Ls (.int x :: st) h = if x = nI 0 then ev L xs mdX7_addGuard 59 Ls st h else ev L xs mdX7_addGuard 49 Ls st h := e_if_eq dX7_addGuard_46 (by decide)
theorem iX7_addGuard_49 {v0 : Value} {v1 : Value} {x : Int32} {Ls st : List Value} {h : AH} : ev L xs mdX7_addGuard 49 (v0 :: v1 :: .int x :: Ls) (st) h = ev L xs mdX7_addGuard 50 (v0 :: v1 :: .int x :: Ls) (.int x :: st) (h) := e_iload_n dX7_addGuard_49 rfl
theorem iX7_addGuard_50  {Ls st : List Value} {h : AH} : ev L xs mdX7_addGuard 50 (Ls) (st) h = ev L xs mdX7_addGuard 51 (Ls) (.int (nI 0) :: st) (h) := e_iconst dX7_addGuard_50 (by decide)
theorem iX7_addGuard_51  {Ls st : List Value} {h : AH} : ev L xs mdX7_addGuard 51 (Ls) (st) h = ev L xs mdX7_addGuard 53 (Ls) (.int (nI 99) :: st) (h) := e_bipush dX7_addGuard_51 (by decide)
theorem iX7_addGuard_53 {p0 : Int32} {p1 : Int32} {p2 : Int32} {Ls st : List Value} {h : AH} (hw : wds st ≤ 8) : ev L xs mdX7_addGuard 53 Ls (.int p2 :: .int p1 :: .int p0 :: st) h = kn L xs mdX7_addGuard 53 56 Ls st (ev L xs mdX7_in 0 [.int p0, .int p1, .int p2] [] h) := e_callS (as := [.int p2, .int p1, .int p0]) dX7_addGuard_53 mr_7_44 (by decide) (by decide) rfl (by simp [wds, Value.category]; decide) rfl hw
theorem iX7_addGuard_56 {x : Int32} {Ls st : List Value} {h : AH} : ev L xs mdX7_addGuard 56 Ls (.int x :: st) h = if x = nI 0 then ev L xs mdX7_addGuard 59 Ls st h else ev L xs mdX7_addGuard 63 Ls st h := e_if_ne dX7_addGuard_56 (by decide)
theorem iX7_addGuard_59  {Ls st : List Value} {h : AH} : ev L xs mdX7_addGuard 59 (Ls) (st) h = ev L xs mdX7_addGuard 60 (Ls) (.int (nI 2) :: st) (h) := e_iconst dX7_addGuard_59 (by decide)
theorem iX7_addGuard_60  {Ls st : List Value} {h : AH} : ev L xs mdX7_addGuard 60 (Ls) (st) h = ev L xs mdX7_addGuard 84 (Ls) (st) (h) := e_goto dX7_addGuard_60 (by decide)
theorem iX7_addGuard_63 {x : Nat} {Ls st : List Value} {h : AH} : ev L xs mdX7_addGuard 63 (.ref x :: Ls) (st) h = ev L xs mdX7_addGuard 64 (.ref x :: Ls) (.ref x :: st) (h) := e_aload_n dX7_addGuard_63 rfl
theorem iX7_addGuard_64 {a : Nat} {Ls st : List Value} {h : AH} (hk : hK h a = 7) (hj : (hR h 113 a).isSome = true) : ev L xs mdX7_addGuard 64 (Ls) (.ref a :: st) h = ev L xs mdX7_addGuard 67 (Ls) (.ref ((hR h 113 a).getD 0) :: st) (h) := e_getR (k := 7) (f := 1) (F := 113) dX7_addGuard_64 (by decide +kernel) rfl rfl hk hj
theorem iX7_addGuard_67  {Ls st : List Value} {h : AH} : ev L xs mdX7_addGuard 67 (Ls) (st) h = ev L xs mdX7_addGuard 68 (Ls) (.int (nI 4) :: st) (h) := e_iconst dX7_addGuard_67 (by decide)
theorem iX7_addGuard_68 {a : Nat} {j : Int32} {Ls st : List Value} {h : AH} (hk : hK h a = 8) (hi : inA j (hN h a) = true) : ev L xs mdX7_addGuard 68 (Ls) (.int j :: .ref a :: st) h = ev L xs mdX7_addGuard 69 (Ls) (.int (hA h a j.toNatClampNeg) :: st) (h) := e_iald dX7_addGuard_68 hk hi
theorem iX7_addGuard_69  {Ls st : List Value} {h : AH} : ev L xs mdX7_addGuard 69 (Ls) (st) h = ev L xs mdX7_addGuard 71 (Ls) (.int (nI 10) :: st) (h) := e_bipush dX7_addGuard_69 (by decide)
theorem iX7_addGuard_71 {x z : Int32} {Ls st : List Value} {h : AH} : ev L xs mdX7_addGuard 71 Ls (.int z :: .int x :: st) h = if x = z then ev L xs mdX7_addGuard 79 Ls st h else ev L xs mdX7_addGuard 74 Ls st h := e_ic_eq dX7_addGuard_71 (by decide)
theorem iX7_addGuard_74 {v0 : Value} {v1 : Value} {v2 : Value} {v3 : Value} {x : Int32} {Ls st : List Value} {h : AH} : ev L xs mdX7_addGuard 74 (v0 :: v1 :: v2 :: v3 :: .int x :: Ls) (st) h = ev L xs mdX7_addGuard 76 (v0 :: v1 :: v2 :: v3 :: .int x :: Ls) (.int x :: st) (h) := e_iload dX7_addGuard_74 rfl
theorem iX7_addGuard_76 {x : Int32} {Ls st : List Value} {h : AH} : ev L xs mdX7_addGuard 76 Ls (.int x :: st) h = if x = nI 0 then ev L xs mdX7_addGuard 83 Ls st h else ev L xs mdX7_addGuard 79 Ls st h := e_if_eq dX7_addGuard_76 (by decide)
theorem iX7_addGuard_79  {Ls st : List Value} {h : AH} : ev L xs mdX7_addGuard 79 (Ls) (st) h = ev L xs mdX7_addGuard 80 (Ls) (.int (nI 3) :: st) (h) := e_iconst dX7_addGuard_79 (by decide)
theorem iX7_addGuard_80  {Ls st : List Value} {h : AH} : ev L xs mdX7_addGuard 80 (Ls) (st) h = ev L xs mdX7_addGuard 84 (Ls) (st) (h) := e_goto dX7_addGuard_80 (by decide)
theorem iX7_addGuard_83  {Ls st : List Value} {h : AH} : ev L xs mdX7_addGuard 83 (Ls) (st) h = ev L xs mdX7_addGuard 84 (Ls) (.int (nI 0) :: st) (h) := e_iconst dX7_addGuard_83 (by decide)
theorem iX7_addGuard_84 {a : Nat} {v : Int32} {Ls st : List Value} {h : AH} (hk : hK h a = 7) : ev L xs mdX7_addGuard 84 (Ls) (.int v :: .ref a :: st) h = ev L xs mdX7_addGuard 87 (Ls) (st) (sI h 112 a v) := e_putI (k := 7) (f := 0) (F := 112) dX7_addGuard_84 (by decide +kernel) rfl (by decide +kernel) rfl hk
theorem iX7_addGuard_87 {x : Nat} {Ls st : List Value} {h : AH} : ev L xs mdX7_addGuard 87 (.ref x :: Ls) (st) h = ev L xs mdX7_addGuard 88 (.ref x :: Ls) (.ref x :: st) (h) := e_aload_n dX7_addGuard_87 rfl
theorem iX7_addGuard_88 {a : Nat} {Ls st : List Value} {h : AH} (hk : hK h a = 7) : ev L xs mdX7_addGuard 88 (Ls) (.ref a :: st) h = ev L xs mdX7_addGuard 91 (Ls) (.int (hI h 112 a) :: st) (h) := e_getI (k := 7) (f := 0) (F := 112) dX7_addGuard_88 (by decide +kernel) rfl rfl hk
theorem iX7_addGuard_91 {x : Int32} {Ls st : List Value} {h : AH} : ev L xs mdX7_addGuard 91 Ls (.int x :: st) h = if x ≤ nI 0 then ev L xs mdX7_addGuard 96 Ls st h else ev L xs mdX7_addGuard 94 Ls st h := e_if_le dX7_addGuard_91 (by decide)
theorem iX7_addGuard_94  {Ls st : List Value} {h : AH} : ev L xs mdX7_addGuard 94 (Ls) (st) h = ev L xs mdX7_addGuard 95 (Ls) (.int (nI 0) :: st) (h) := e_iconst dX7_addGuard_94 (by decide)
theorem iX7_addGuard_95 {v : Int32} {Ls : List Value} {h : AH} : ev L xs mdX7_addGuard 95 Ls [.int v] h = some (.inl (some (.int v), h)) := e_iret dX7_addGuard_95 rfl
theorem iX7_addGuard_96 {x : Nat} {Ls st : List Value} {h : AH} : ev L xs mdX7_addGuard 96 (.ref x :: Ls) (st) h = ev L xs mdX7_addGuard 97 (.ref x :: Ls) (.ref x :: st) (h) := e_aload_n dX7_addGuard_96 rfl
theorem iX7_addGuard_97 {a : Nat} {Ls st : List Value} {h : AH} (hk : hK h a = 7) (hw : wds st ≤ 8) : ev L xs mdX7_addGuard 97 Ls (.ref a :: st) h = kn L xs mdX7_addGuard 97 100 Ls st (ev L xs mdX7_save 0 [.ref a, .null] [] h) := e_callV (as := []) dX7_addGuard_97 mr_7_109 (by decide) (by decide) rfl (by simp [wds, Value.category]; decide) rfl (by decide) hk hw
theorem iX7_addGuard_100 {x : Nat} {Ls st : List Value} {h : AH} : ev L xs mdX7_addGuard 100 (.ref x :: Ls) (st) h = ev L xs mdX7_addGuard 101 (.ref x :: Ls) (.ref x :: st) (h) := e_aload_n dX7_addGuard_100 rfl
theorem iX7_addGuard_101 {a : Nat} {Ls st : List Value} {h : AH} (hk : hK h a = 7) (hj : (hR h 113 a).isSome = true) : ev L xs mdX7_addGuard 101 (Ls) (.ref a :: st) h = ev L xs mdX7_addGuard 104 (Ls) (.ref ((hR h 113 a).getD 0) :: st) (h) := e_getR (k := 7) (f := 1) (F := 113) dX7_addGuard_101 (by decide +kernel) rfl rfl hk hj
theorem iX7_addGuard_104 {v0 : Value} {x : Int32} {Ls st : List Value} {h : AH} : ev L xs mdX7_addGuard 104 (v0 :: .int x :: Ls) (st) h = ev L xs mdX7_addGuard 105 (v0 :: .int x :: Ls) (.int x :: st) (h) := e_iload_n dX7_addGuard_104 rfl
theorem iX7_addGuard_105 {v0 : Value} {v1 : Value} {x : Int32} {Ls st : List Value} {h : AH} : ev L xs mdX7_addGuard 105 (v0 :: v1 :: .int x :: Ls) (st) h = ev L xs mdX7_addGuard 106 (v0 :: v1 :: .int x :: Ls) (.int x :: st) (h) := e_iload_n dX7_addGuard_105 rfl
theorem iX7_addGuard_106 {v0 : Value} {v1 : Value} {v2 : Value} {x : Int32} {Ls st : List Value} {h : AH} : ev L xs mdX7_addGuard 106 (v0 :: v1 :: v2 :: .int x :: Ls) (st) h = ev L xs mdX7_addGuard 107 (v0 :: v1 :: v2 :: .int x :: Ls) (.int x :: st) (h) := e_iload_n dX7_addGuard_106 rfl
theorem iX7_addGuard_107 {p0 : Nat} {p1 : Int32} {p2 : Int32} {p3 : Int32} {Ls st : List Value} {h : AH} (hw : wds st ≤ 8) : ev L xs mdX7_addGuard 107 Ls (.int p3 :: .int p2 :: .int p1 :: .ref p0 :: st) h = kn L xs mdX7_addGuard 107 110 Ls st (ev L xs mdX7_addTo 0 [.ref p0, .int p1, .int p2, .int p3, .null, .null] [] h) := e_callS (as := [.int p3, .int p2, .int p1, .ref p0]) dX7_addGuard_107 mr_7_119 (by decide) (by decide) rfl (by simp [wds, Value.category]; decide) rfl hw
theorem iX7_addGuard_110 {x : Nat} {Ls st : List Value} {h : AH} : ev L xs mdX7_addGuard 110 (.ref x :: Ls) (st) h = ev L xs mdX7_addGuard 111 (.ref x :: Ls) (.ref x :: st) (h) := e_aload_n dX7_addGuard_110 rfl
theorem iX7_addGuard_111 {a : Nat} {Ls st : List Value} {h : AH} (hk : hK h a = 7) (hj : (hR h 113 a).isSome = true) : ev L xs mdX7_addGuard 111 (Ls) (.ref a :: st) h = ev L xs mdX7_addGuard 114 (Ls) (.ref ((hR h 113 a).getD 0) :: st) (h) := e_getR (k := 7) (f := 1) (F := 113) dX7_addGuard_111 (by decide +kernel) rfl rfl hk hj
theorem iX7_addGuard_114  {Ls st : List Value} {h : AH} : ev L xs mdX7_addGuard 114 (Ls) (st) h = ev L xs mdX7_addGuard 115 (Ls) (.int (nI 4) :: st) (h) := e_iconst dX7_addGuard_114 (by decide)
theorem iX7_addGuard_115 {a : Nat} {j : Int32} {Ls st : List Value} {h : AH} (hk : hK h a = 8) (hi : inA j (hN h a) = true) : ev L xs mdX7_addGuard 115 (Ls) (.int j :: .ref a :: st) h = ev L xs mdX7_addGuard 116 (Ls) (.int (hA h a j.toNatClampNeg) :: st) (h) := e_iald dX7_addGuard_115 hk hi
theorem iX7_addGuard_116  {Ls st : List Value} {h : AH} : ev L xs mdX7_addGuard 116 (Ls) (st) h = ev L xs mdX7_addGuard 117 (Ls) (.int (nI 1) :: st) (h) := e_iconst dX7_addGuard_116 (by decide)
theorem iX7_addGuard_117 {x z : Int32} {Ls st : List Value} {h : AH} : ev L xs mdX7_addGuard 117 (Ls) (.int z :: .int x :: st) h = ev L xs mdX7_addGuard 118 (Ls) (.int (x - z) :: st) (h) := e_isub dX7_addGuard_117
theorem iX7_addGuard_118 {v : Int32} {Ls : List Value} {h : AH} : ev L xs mdX7_addGuard 118 Ls [.int v] h = some (.inl (some (.int v), h)) := e_iret dX7_addGuard_118 rfl
theorem dX7_addHoliday_0 : decode cX7_addHoliday 0 = .ok (.aload_n 0, 1) := by decide +kernel
theorem dX7_addHoliday_1 : decode cX7_addHoliday 1 = .ok (.iload_n 1, 1) := by decide +kernel
theorem dX7_addHoliday_2 : decode cX7_addHoliday 2 = .ok (.iconst 0, 1) := by decide +kernel
theorem dX7_addHoliday_3 : decode cX7_addHoliday 3 = .ok (.sipush 3000, 3) := by decide +kernel
theorem dX7_addHoliday_6 : decode cX7_addHoliday 6 = .ok (.invokestatic 44, 3) := by decide +kernel
theorem dX7_addHoliday_9 : decode cX7_addHoliday 9 = .ok (.ifCond .eq 14, 3) := by decide +kernel
theorem dX7_addHoliday_12 : decode cX7_addHoliday 12 = .ok (.iload_n 2, 1) := by decide +kernel
theorem dX7_addHoliday_13 : decode cX7_addHoliday 13 = .ok (.iload_n 1, 1) := by decide +kernel
theorem dX7_addHoliday_14 : decode cX7_addHoliday 14 = .ok (.sipush 3000, 3) := by decide +kernel
theorem dX7_addHoliday_17 : decode cX7_addHoliday 17 = .ok (.invokestatic 44, 3) := by decide +kernel
theorem dX7_addHoliday_20 : decode cX7_addHoliday 20 = .ok (.ifCond .ne 7, 3) := by decide +kernel
theorem dX7_addHoliday_23 : decode cX7_addHoliday 23 = .ok (.iconst 1, 1) := by decide +kernel
theorem dX7_addHoliday_24 : decode cX7_addHoliday 24 = .ok (.goto 19, 3) := by decide +kernel
theorem dX7_addHoliday_27 : decode cX7_addHoliday 27 = .ok (.aload_n 0, 1) := by decide +kernel
theorem dX7_addHoliday_28 : decode cX7_addHoliday 28 = .ok (.getfield 7, 3) := by decide +kernel
theorem dX7_addHoliday_31 : decode cX7_addHoliday 31 = .ok (.iconst 2, 1) := by decide +kernel
theorem dX7_addHoliday_32 : decode cX7_addHoliday 32 = .ok (.iaload, 1) := by decide +kernel
theorem dX7_addHoliday_33 : decode cX7_addHoliday 33 = .ok (.bipush 6, 2) := by decide +kernel
theorem dX7_addHoliday_35 : decode cX7_addHoliday 35 = .ok (.if_icmp .ne 7, 3) := by decide +kernel
theorem dX7_addHoliday_38 : decode cX7_addHoliday 38 = .ok (.iconst 2, 1) := by decide +kernel
theorem dX7_addHoliday_39 : decode cX7_addHoliday 39 = .ok (.goto 4, 3) := by decide +kernel
theorem dX7_addHoliday_42 : decode cX7_addHoliday 42 = .ok (.iconst 0, 1) := by decide +kernel
theorem dX7_addHoliday_43 : decode cX7_addHoliday 43 = .ok (.putfield 34, 3) := by decide +kernel
theorem dX7_addHoliday_46 : decode cX7_addHoliday 46 = .ok (.aload_n 0, 1) := by decide +kernel
theorem dX7_addHoliday_47 : decode cX7_addHoliday 47 = .ok (.getfield 34, 3) := by decide +kernel
theorem dX7_addHoliday_50 : decode cX7_addHoliday 50 = .ok (.ifCond .le 5, 3) := by decide +kernel
theorem dX7_addHoliday_53 : decode cX7_addHoliday 53 = .ok (.iconst 0, 1) := by decide +kernel
theorem dX7_addHoliday_54 : decode cX7_addHoliday 54 = .ok (.ireturn, 1) := by decide +kernel
theorem dX7_addHoliday_55 : decode cX7_addHoliday 55 = .ok (.aload_n 0, 1) := by decide +kernel
theorem dX7_addHoliday_56 : decode cX7_addHoliday 56 = .ok (.invokevirtual 109, 3) := by decide +kernel
theorem dX7_addHoliday_59 : decode cX7_addHoliday 59 = .ok (.aload_n 0, 1) := by decide +kernel
theorem dX7_addHoliday_60 : decode cX7_addHoliday 60 = .ok (.getfield 7, 3) := by decide +kernel
theorem dX7_addHoliday_63 : decode cX7_addHoliday 63 = .ok (.bipush 9, 2) := by decide +kernel
theorem dX7_addHoliday_65 : decode cX7_addHoliday 65 = .ok (.iconst 2, 1) := by decide +kernel
theorem dX7_addHoliday_66 : decode cX7_addHoliday 66 = .ok (.aload_n 0, 1) := by decide +kernel
theorem dX7_addHoliday_67 : decode cX7_addHoliday 67 = .ok (.getfield 7, 3) := by decide +kernel
theorem dX7_addHoliday_70 : decode cX7_addHoliday 70 = .ok (.iconst 2, 1) := by decide +kernel
theorem dX7_addHoliday_71 : decode cX7_addHoliday 71 = .ok (.iaload, 1) := by decide +kernel
theorem dX7_addHoliday_72 : decode cX7_addHoliday 72 = .ok (.imul, 1) := by decide +kernel
theorem dX7_addHoliday_73 : decode cX7_addHoliday 73 = .ok (.iadd, 1) := by decide +kernel
theorem dX7_addHoliday_74 : decode cX7_addHoliday 74 = .ok (.iload_n 1, 1) := by decide +kernel
theorem dX7_addHoliday_75 : decode cX7_addHoliday 75 = .ok (.iastore, 1) := by decide +kernel
theorem dX7_addHoliday_76 : decode cX7_addHoliday 76 = .ok (.aload_n 0, 1) := by decide +kernel
theorem dX7_addHoliday_77 : decode cX7_addHoliday 77 = .ok (.getfield 7, 3) := by decide +kernel
theorem dX7_addHoliday_80 : decode cX7_addHoliday 80 = .ok (.bipush 9, 2) := by decide +kernel
theorem dX7_addHoliday_82 : decode cX7_addHoliday 82 = .ok (.iconst 2, 1) := by decide +kernel
theorem dX7_addHoliday_83 : decode cX7_addHoliday 83 = .ok (.aload_n 0, 1) := by decide +kernel
theorem dX7_addHoliday_84 : decode cX7_addHoliday 84 = .ok (.getfield 7, 3) := by decide +kernel
theorem dX7_addHoliday_87 : decode cX7_addHoliday 87 = .ok (.iconst 2, 1) := by decide +kernel
theorem dX7_addHoliday_88 : decode cX7_addHoliday 88 = .ok (.iaload, 1) := by decide +kernel
theorem dX7_addHoliday_89 : decode cX7_addHoliday 89 = .ok (.imul, 1) := by decide +kernel
theorem dX7_addHoliday_90 : decode cX7_addHoliday 90 = .ok (.iadd, 1) := by decide +kernel
theorem dX7_addHoliday_91 : decode cX7_addHoliday 91 = .ok (.iconst 1, 1) := by decide +kernel
theorem dX7_addHoliday_92 : decode cX7_addHoliday 92 = .ok (.iadd, 1) := by decide +kernel
theorem dX7_addHoliday_93 : decode cX7_addHoliday 93 = .ok (.iload_n 2, 1) := by decide +kernel
theorem dX7_addHoliday_94 : decode cX7_addHoliday 94 = .ok (.iastore, 1) := by decide +kernel
theorem dX7_addHoliday_95 : decode cX7_addHoliday 95 = .ok (.aload_n 0, 1) := by decide +kernel
theorem dX7_addHoliday_96 : decode cX7_addHoliday 96 = .ok (.getfield 7, 3) := by decide +kernel
theorem dX7_addHoliday_99 : decode cX7_addHoliday 99 = .ok (.iconst 2, 1) := by decide +kernel
theorem dX7_addHoliday_100 : decode cX7_addHoliday 100 = .ok (.dup2, 1) := by decide +kernel
theorem dX7_addHoliday_101 : decode cX7_addHoliday 101 = .ok (.iaload, 1) := by decide +kernel
theorem dX7_addHoliday_102 : decode cX7_addHoliday 102 = .ok (.iconst 1, 1) := by decide +kernel
theorem dX7_addHoliday_103 : decode cX7_addHoliday 103 = .ok (.iadd, 1) := by decide +kernel
theorem dX7_addHoliday_104 : decode cX7_addHoliday 104 = .ok (.iastore, 1) := by decide +kernel
theorem dX7_addHoliday_105 : decode cX7_addHoliday 105 = .ok (.aload_n 0, 1) := by decide +kernel
theorem dX7_addHoliday_106 : decode cX7_addHoliday 106 = .ok (.getfield 7, 3) := by decide +kernel
theorem dX7_addHoliday_109 : decode cX7_addHoliday 109 = .ok (.iconst 2, 1) := by decide +kernel
theorem dX7_addHoliday_110 : decode cX7_addHoliday 110 = .ok (.iaload, 1) := by decide +kernel
theorem dX7_addHoliday_111 : decode cX7_addHoliday 111 = .ok (.iconst 1, 1) := by decide +kernel
theorem dX7_addHoliday_112 : decode cX7_addHoliday 112 = .ok (.isub, 1) := by decide +kernel
theorem dX7_addHoliday_113 : decode cX7_addHoliday 113 = .ok (.ireturn, 1) := by decide +kernel
theorem iX7_addHoliday_0 {x : Nat} {Ls st : List Value} {h : AH} : ev L xs mdX7_addHoliday 0 (.ref x :: Ls) (st) h = ev L xs mdX7_addHoliday 1 (.ref x :: Ls) (.ref x :: st) (h) := e_aload_n dX7_addHoliday_0 rfl
theorem iX7_addHoliday_1 {v0 : Value} {x : Int32} {Ls st : List Value} {h : AH} : ev L xs mdX7_addHoliday 1 (v0 :: .int x :: Ls) (st) h = ev L xs mdX7_addHoliday 2 (v0 :: .int x :: Ls) (.int x :: st) (h) := e_iload_n dX7_addHoliday_1 rfl
theorem iX7_addHoliday_2  {Ls st : List Value} {h : AH} : ev L xs mdX7_addHoliday 2 (Ls) (st) h = ev L xs mdX7_addHoliday 3 (Ls) (.int (nI 0) :: st) (h) := e_iconst dX7_addHoliday_2 (by decide)
theorem iX7_addHoliday_3  {Ls st : List Value} {h : AH} : ev L xs mdX7_addHoliday 3 (Ls) (st) h = ev L xs mdX7_addHoliday 6 (Ls) (.int (nI 3000) :: st) (h) := e_sipush dX7_addHoliday_3 (by decide)
theorem iX7_addHoliday_6 {p0 : Int32} {p1 : Int32} {p2 : Int32} {Ls st : List Value} {h : AH} (hw : wds st ≤ 8) : ev L xs mdX7_addHoliday 6 Ls (.int p2 :: .int p1 :: .int p0 :: st) h = kn L xs mdX7_addHoliday 6 9 Ls st (ev L xs mdX7_in 0 [.int p0, .int p1, .int p2] [] h) := e_callS (as := [.int p2, .int p1, .int p0]) dX7_addHoliday_6 mr_7_44 (by decide) (by decide) rfl (by simp [wds, Value.category]; decide) rfl hw
theorem iX7_addHoliday_9 {x : Int32} {Ls st : List Value} {h : AH} : ev L xs mdX7_addHoliday 9 Ls (.int x :: st) h = if x = nI 0 then ev L xs mdX7_addHoliday 23 Ls st h else ev L xs mdX7_addHoliday 12 Ls st h := e_if_eq dX7_addHoliday_9 (by decide)
theorem iX7_addHoliday_12 {v0 : Value} {v1 : Value} {x : Int32} {Ls st : List Value} {h : AH} : ev L xs mdX7_addHoliday 12 (v0 :: v1 :: .int x :: Ls) (st) h = ev L xs mdX7_addHoliday 13 (v0 :: v1 :: .int x :: Ls) (.int x :: st) (h) := e_iload_n dX7_addHoliday_12 rfl
theorem iX7_addHoliday_13 {v0 : Value} {x : Int32} {Ls st : List Value} {h : AH} : ev L xs mdX7_addHoliday 13 (v0 :: .int x :: Ls) (st) h = ev L xs mdX7_addHoliday 14 (v0 :: .int x :: Ls) (.int x :: st) (h) := e_iload_n dX7_addHoliday_13 rfl
theorem iX7_addHoliday_14  {Ls st : List Value} {h : AH} : ev L xs mdX7_addHoliday 14 (Ls) (st) h = ev L xs mdX7_addHoliday 17 (Ls) (.int (nI 3000) :: st) (h) := e_sipush dX7_addHoliday_14 (by decide)
theorem iX7_addHoliday_17 {p0 : Int32} {p1 : Int32} {p2 : Int32} {Ls st : List Value} {h : AH} (hw : wds st ≤ 8) : ev L xs mdX7_addHoliday 17 Ls (.int p2 :: .int p1 :: .int p0 :: st) h = kn L xs mdX7_addHoliday 17 20 Ls st (ev L xs mdX7_in 0 [.int p0, .int p1, .int p2] [] h) := e_callS (as := [.int p2, .int p1, .int p0]) dX7_addHoliday_17 mr_7_44 (by decide) (by decide) rfl (by simp [wds, Value.category]; decide) rfl hw
theorem iX7_addHoliday_20 {x : Int32} {Ls st : List Value} {h : AH} : ev L xs mdX7_addHoliday 20 Ls (.int x :: st) h = if x = nI 0 then ev L xs mdX7_addHoliday 23 Ls st h else ev L xs mdX7_addHoliday 27 Ls st h := e_if_ne dX7_addHoliday_20 (by decide)
theorem iX7_addHoliday_23  {Ls st : List Value} {h : AH} : ev L xs mdX7_addHoliday 23 (Ls) (st) h = ev L xs mdX7_addHoliday 24 (Ls) (.int (nI 1) :: st) (h) := e_iconst dX7_addHoliday_23 (by decide)
theorem iX7_addHoliday_24  {Ls st : List Value} {h : AH} : ev L xs mdX7_addHoliday 24 (Ls) (st) h = ev L xs mdX7_addHoliday 43 (Ls) (st) (h) := e_goto dX7_addHoliday_24 (by decide)
theorem iX7_addHoliday_27 {x : Nat} {Ls st : List Value} {h : AH} : ev L xs mdX7_addHoliday 27 (.ref x :: Ls) (st) h = ev L xs mdX7_addHoliday 28 (.ref x :: Ls) (.ref x :: st) (h) := e_aload_n dX7_addHoliday_27 rfl
theorem iX7_addHoliday_28 {a : Nat} {Ls st : List Value} {h : AH} (hk : hK h a = 7) (hj : (hR h 113 a).isSome = true) : ev L xs mdX7_addHoliday 28 (Ls) (.ref a :: st) h = ev L xs mdX7_addHoliday 31 (Ls) (.ref ((hR h 113 a).getD 0) :: st) (h) := e_getR (k := 7) (f := 1) (F := 113) dX7_addHoliday_28 (by decide +kernel) rfl rfl hk hj
theorem iX7_addHoliday_31  {Ls st : List Value} {h : AH} : ev L xs mdX7_addHoliday 31 (Ls) (st) h = ev L xs mdX7_addHoliday 32 (Ls) (.int (nI 2) :: st) (h) := e_iconst dX7_addHoliday_31 (by decide)
theorem iX7_addHoliday_32 {a : Nat} {j : Int32} {Ls st : List Value} {h : AH} (hk : hK h a = 8) (hi : inA j (hN h a) = true) : ev L xs mdX7_addHoliday 32 (Ls) (.int j :: .ref a :: st) h = ev L xs mdX7_addHoliday 33 (Ls) (.int (hA h a j.toNatClampNeg) :: st) (h) := e_iald dX7_addHoliday_32 hk hi
theorem iX7_addHoliday_33  {Ls st : List Value} {h : AH} : ev L xs mdX7_addHoliday 33 (Ls) (st) h = ev L xs mdX7_addHoliday 35 (Ls) (.int (nI 6) :: st) (h) := e_bipush dX7_addHoliday_33 (by decide)
theorem iX7_addHoliday_35 {x z : Int32} {Ls st : List Value} {h : AH} : ev L xs mdX7_addHoliday 35 Ls (.int z :: .int x :: st) h = if x = z then ev L xs mdX7_addHoliday 38 Ls st h else ev L xs mdX7_addHoliday 42 Ls st h := e_ic_ne dX7_addHoliday_35 (by decide)
theorem iX7_addHoliday_38  {Ls st : List Value} {h : AH} : ev L xs mdX7_addHoliday 38 (Ls) (st) h = ev L xs mdX7_addHoliday 39 (Ls) (.int (nI 2) :: st) (h) := e_iconst dX7_addHoliday_38 (by decide)
theorem iX7_addHoliday_39  {Ls st : List Value} {h : AH} : ev L xs mdX7_addHoliday 39 (Ls) (st) h = ev L xs mdX7_addHoliday 43 (Ls) (st) (h) := e_goto dX7_addHoliday_39 (by decide)
theorem iX7_addHoliday_42  {Ls st : List Value} {h : AH} : ev L xs mdX7_addHoliday 42 (Ls) (st) h = ev L xs mdX7_addHoliday 43 (Ls) (.int (nI 0) :: st) (h) := e_iconst dX7_addHoliday_42 (by decide)
theorem iX7_addHoliday_43 {a : Nat} {v : Int32} {Ls st : List Value} {h : AH} (hk : hK h a = 7) : ev L xs mdX7_addHoliday 43 (Ls) (.int v :: .ref a :: st) h = ev L xs mdX7_addHoliday 46 (Ls) (st) (sI h 112 a v) := e_putI (k := 7) (f := 0) (F := 112) dX7_addHoliday_43 (by decide +kernel) rfl (by decide +kernel) rfl hk
theorem iX7_addHoliday_46 {x : Nat} {Ls st : List Value} {h : AH} : ev L xs mdX7_addHoliday 46 (.ref x :: Ls) (st) h = ev L xs mdX7_addHoliday 47 (.ref x :: Ls) (.ref x :: st) (h) := e_aload_n dX7_addHoliday_46 rfl
theorem iX7_addHoliday_47 {a : Nat} {Ls st : List Value} {h : AH} (hk : hK h a = 7) : ev L xs mdX7_addHoliday 47 (Ls) (.ref a :: st) h = ev L xs mdX7_addHoliday 50 (Ls) (.int (hI h 112 a) :: st) (h) := e_getI (k := 7) (f := 0) (F := 112) dX7_addHoliday_47 (by decide +kernel) rfl rfl hk
theorem iX7_addHoliday_50 {x : Int32} {Ls st : List Value} {h : AH} : ev L xs mdX7_addHoliday 50 Ls (.int x :: st) h = if x ≤ nI 0 then ev L xs mdX7_addHoliday 55 Ls st h else ev L xs mdX7_addHoliday 53 Ls st h := e_if_le dX7_addHoliday_50 (by decide)
theorem iX7_addHoliday_53  {Ls st : List Value} {h : AH} : ev L xs mdX7_addHoliday 53 (Ls) (st) h = ev L xs mdX7_addHoliday 54 (Ls) (.int (nI 0) :: st) (h) := e_iconst dX7_addHoliday_53 (by decide)
theorem iX7_addHoliday_54 {v : Int32} {Ls : List Value} {h : AH} : ev L xs mdX7_addHoliday 54 Ls [.int v] h = some (.inl (some (.int v), h)) := e_iret dX7_addHoliday_54 rfl
theorem iX7_addHoliday_55 {x : Nat} {Ls st : List Value} {h : AH} : ev L xs mdX7_addHoliday 55 (.ref x :: Ls) (st) h = ev L xs mdX7_addHoliday 56 (.ref x :: Ls) (.ref x :: st) (h) := e_aload_n dX7_addHoliday_55 rfl
theorem iX7_addHoliday_56 {a : Nat} {Ls st : List Value} {h : AH} (hk : hK h a = 7) (hw : wds st ≤ 8) : ev L xs mdX7_addHoliday 56 Ls (.ref a :: st) h = kn L xs mdX7_addHoliday 56 59 Ls st (ev L xs mdX7_save 0 [.ref a, .null] [] h) := e_callV (as := []) dX7_addHoliday_56 mr_7_109 (by decide) (by decide) rfl (by simp [wds, Value.category]; decide) rfl (by decide) hk hw
theorem iX7_addHoliday_59 {x : Nat} {Ls st : List Value} {h : AH} : ev L xs mdX7_addHoliday 59 (.ref x :: Ls) (st) h = ev L xs mdX7_addHoliday 60 (.ref x :: Ls) (.ref x :: st) (h) := e_aload_n dX7_addHoliday_59 rfl
theorem iX7_addHoliday_60 {a : Nat} {Ls st : List Value} {h : AH} (hk : hK h a = 7) (hj : (hR h 113 a).isSome = true) : ev L xs mdX7_addHoliday 60 (Ls) (.ref a :: st) h = ev L xs mdX7_addHoliday 63 (Ls) (.ref ((hR h 113 a).getD 0) :: st) (h) := e_getR (k := 7) (f := 1) (F := 113) dX7_addHoliday_60 (by decide +kernel) rfl rfl hk hj
theorem iX7_addHoliday_63  {Ls st : List Value} {h : AH} : ev L xs mdX7_addHoliday 63 (Ls) (st) h = ev L xs mdX7_addHoliday 65 (Ls) (.int (nI 9) :: st) (h) := e_bipush dX7_addHoliday_63 (by decide)
theorem iX7_addHoliday_65  {Ls st : List Value} {h : AH} : ev L xs mdX7_addHoliday 65 (Ls) (st) h = ev L xs mdX7_addHoliday 66 (Ls) (.int (nI 2) :: st) (h) := e_iconst dX7_addHoliday_65 (by decide)
theorem iX7_addHoliday_66 {x : Nat} {Ls st : List Value} {h : AH} : ev L xs mdX7_addHoliday 66 (.ref x :: Ls) (st) h = ev L xs mdX7_addHoliday 67 (.ref x :: Ls) (.ref x :: st) (h) := e_aload_n dX7_addHoliday_66 rfl
theorem iX7_addHoliday_67 {a : Nat} {Ls st : List Value} {h : AH} (hk : hK h a = 7) (hj : (hR h 113 a).isSome = true) : ev L xs mdX7_addHoliday 67 (Ls) (.ref a :: st) h = ev L xs mdX7_addHoliday 70 (Ls) (.ref ((hR h 113 a).getD 0) :: st) (h) := e_getR (k := 7) (f := 1) (F := 113) dX7_addHoliday_67 (by decide +kernel) rfl rfl hk hj
theorem iX7_addHoliday_70  {Ls st : List Value} {h : AH} : ev L xs mdX7_addHoliday 70 (Ls) (st) h = ev L xs mdX7_addHoliday 71 (Ls) (.int (nI 2) :: st) (h) := e_iconst dX7_addHoliday_70 (by decide)
theorem iX7_addHoliday_71 {a : Nat} {j : Int32} {Ls st : List Value} {h : AH} (hk : hK h a = 8) (hi : inA j (hN h a) = true) : ev L xs mdX7_addHoliday 71 (Ls) (.int j :: .ref a :: st) h = ev L xs mdX7_addHoliday 72 (Ls) (.int (hA h a j.toNatClampNeg) :: st) (h) := e_iald dX7_addHoliday_71 hk hi
theorem iX7_addHoliday_72 {x z : Int32} {Ls st : List Value} {h : AH} : ev L xs mdX7_addHoliday 72 (Ls) (.int z :: .int x :: st) h = ev L xs mdX7_addHoliday 73 (Ls) (.int (x * z) :: st) (h) := e_imul dX7_addHoliday_72
theorem iX7_addHoliday_73 {x z : Int32} {Ls st : List Value} {h : AH} : ev L xs mdX7_addHoliday 73 (Ls) (.int z :: .int x :: st) h = ev L xs mdX7_addHoliday 74 (Ls) (.int (x + z) :: st) (h) := e_iadd dX7_addHoliday_73
theorem iX7_addHoliday_74 {v0 : Value} {x : Int32} {Ls st : List Value} {h : AH} : ev L xs mdX7_addHoliday 74 (v0 :: .int x :: Ls) (st) h = ev L xs mdX7_addHoliday 75 (v0 :: .int x :: Ls) (.int x :: st) (h) := e_iload_n dX7_addHoliday_74 rfl
theorem iX7_addHoliday_75 {a : Nat} {j : Int32} {v : Int32} {Ls st : List Value} {h : AH} (hk : hK h a = 8) (hi : inA j (hN h a) = true) : ev L xs mdX7_addHoliday 75 (Ls) (.int v :: .int j :: .ref a :: st) h = ev L xs mdX7_addHoliday 76 (Ls) (st) (sA h a j.toNatClampNeg v) := e_iast dX7_addHoliday_75 hk hi
theorem iX7_addHoliday_76 {x : Nat} {Ls st : List Value} {h : AH} : ev L xs mdX7_addHoliday 76 (.ref x :: Ls) (st) h = ev L xs mdX7_addHoliday 77 (.ref x :: Ls) (.ref x :: st) (h) := e_aload_n dX7_addHoliday_76 rfl
theorem iX7_addHoliday_77 {a : Nat} {Ls st : List Value} {h : AH} (hk : hK h a = 7) (hj : (hR h 113 a).isSome = true) : ev L xs mdX7_addHoliday 77 (Ls) (.ref a :: st) h = ev L xs mdX7_addHoliday 80 (Ls) (.ref ((hR h 113 a).getD 0) :: st) (h) := e_getR (k := 7) (f := 1) (F := 113) dX7_addHoliday_77 (by decide +kernel) rfl rfl hk hj
theorem iX7_addHoliday_80  {Ls st : List Value} {h : AH} : ev L xs mdX7_addHoliday 80 (Ls) (st) h = ev L xs mdX7_addHoliday 82 (Ls) (.int (nI 9) :: st) (h) := e_bipush dX7_addHoliday_80 (by decide)
theorem iX7_addHoliday_82  {Ls st : List Value} {h : AH} : ev L xs mdX7_addHoliday 82 (Ls) (st) h = ev L xs mdX7_addHoliday 83 (Ls) (.int (nI 2) :: st) (h) := e_iconst dX7_addHoliday_82 (by decide)
theorem iX7_addHoliday_83 {x : Nat} {Ls st : List Value} {h : AH} : ev L xs mdX7_addHoliday 83 (.ref x :: Ls) (st) h = ev L xs mdX7_addHoliday 84 (.ref x :: Ls) (.ref x :: st) (h) := e_aload_n dX7_addHoliday_83 rfl
theorem iX7_addHoliday_84 {a : Nat} {Ls st : List Value} {h : AH} (hk : hK h a = 7) (hj : (hR h 113 a).isSome = true) : ev L xs mdX7_addHoliday 84 (Ls) (.ref a :: st) h = ev L xs mdX7_addHoliday 87 (Ls) (.ref ((hR h 113 a).getD 0) :: st) (h) := e_getR (k := 7) (f := 1) (F := 113) dX7_addHoliday_84 (by decide +kernel) rfl rfl hk hj
theorem iX7_addHoliday_87  {Ls st : List Value} {h : AH} : ev L xs mdX7_addHoliday 87 (Ls) (st) h = ev L xs mdX7_addHoliday 88 (Ls) (.int (nI 2) :: st) (h) := e_iconst dX7_addHoliday_87 (by decide)
theorem iX7_addHoliday_88 {a : Nat} {j : Int32} {Ls st : List Value} {h : AH} (hk : hK h a = 8) (hi : inA j (hN h a) = true) : ev L xs mdX7_addHoliday 88 (Ls) (.int j :: .ref a :: st) h = ev L xs mdX7_addHoliday 89 (Ls) (.int (hA h a j.toNatClampNeg) :: st) (h) := e_iald dX7_addHoliday_88 hk hi
theorem iX7_addHoliday_89 {x z : Int32} {Ls st : List Value} {h : AH} : ev L xs mdX7_addHoliday 89 (Ls) (.int z :: .int x :: st) h = ev L xs mdX7_addHoliday 90 (Ls) (.int (x * z) :: st) (h) := e_imul dX7_addHoliday_89
theorem iX7_addHoliday_90 {x z : Int32} {Ls st : List Value} {h : AH} : ev L xs mdX7_addHoliday 90 (Ls) (.int z :: .int x :: st) h = ev L xs mdX7_addHoliday 91 (Ls) (.int (x + z) :: st) (h) := e_iadd dX7_addHoliday_90
theorem iX7_addHoliday_91  {Ls st : List Value} {h : AH} : ev L xs mdX7_addHoliday 91 (Ls) (st) h = ev L xs mdX7_addHoliday 92 (Ls) (.int (nI 1) :: st) (h) := e_iconst dX7_addHoliday_91 (by decide)
theorem iX7_addHoliday_92 {x z : Int32} {Ls st : List Value} {h : AH} : ev L xs mdX7_addHoliday 92 (Ls) (.int z :: .int x :: st) h = ev L xs mdX7_addHoliday 93 (Ls) (.int (x + z) :: st) (h) := e_iadd dX7_addHoliday_92
theorem iX7_addHoliday_93 {v0 : Value} {v1 : Value} {x : Int32} {Ls st : List Value} {h : AH} : ev L xs mdX7_addHoliday 93 (v0 :: v1 :: .int x :: Ls) (st) h = ev L xs mdX7_addHoliday 94 (v0 :: v1 :: .int x :: Ls) (.int x :: st) (h) := e_iload_n dX7_addHoliday_93 rfl
theorem iX7_addHoliday_94 {a : Nat} {j : Int32} {v : Int32} {Ls st : List Value} {h : AH} (hk : hK h a = 8) (hi : inA j (hN h a) = true) : ev L xs mdX7_addHoliday 94 (Ls) (.int v :: .int j :: .ref a :: st) h = ev L xs mdX7_addHoliday 95 (Ls) (st) (sA h a j.toNatClampNeg v) := e_iast dX7_addHoliday_94 hk hi
theorem iX7_addHoliday_95 {x : Nat} {Ls st : List Value} {h : AH} : ev L xs mdX7_addHoliday 95 (.ref x :: Ls) (st) h = ev L xs mdX7_addHoliday 96 (.ref x :: Ls) (.ref x :: st) (h) := e_aload_n dX7_addHoliday_95 rfl
theorem iX7_addHoliday_96 {a : Nat} {Ls st : List Value} {h : AH} (hk : hK h a = 7) (hj : (hR h 113 a).isSome = true) : ev L xs mdX7_addHoliday 96 (Ls) (.ref a :: st) h = ev L xs mdX7_addHoliday 99 (Ls) (.ref ((hR h 113 a).getD 0) :: st) (h) := e_getR (k := 7) (f := 1) (F := 113) dX7_addHoliday_96 (by decide +kernel) rfl rfl hk hj
theorem iX7_addHoliday_99  {Ls st : List Value} {h : AH} : ev L xs mdX7_addHoliday 99 (Ls) (st) h = ev L xs mdX7_addHoliday 100 (Ls) (.int (nI 2) :: st) (h) := e_iconst dX7_addHoliday_99 (by decide)
theorem iX7_addHoliday_100 {a : Nat} {j : Int32} {Ls st : List Value} {h : AH} : ev L xs mdX7_addHoliday 100 (Ls) (.int j :: .ref a :: st) h = ev L xs mdX7_addHoliday 101 (Ls) (.int j :: .ref a :: .int j :: .ref a :: st) (h) := e_dup2 dX7_addHoliday_100 rfl rfl
theorem iX7_addHoliday_101 {a : Nat} {j : Int32} {Ls st : List Value} {h : AH} (hk : hK h a = 8) (hi : inA j (hN h a) = true) : ev L xs mdX7_addHoliday 101 (Ls) (.int j :: .ref a :: st) h = ev L xs mdX7_addHoliday 102 (Ls) (.int (hA h a j.toNatClampNeg) :: st) (h) := e_iald dX7_addHoliday_101 hk hi
theorem iX7_addHoliday_102  {Ls st : List Value} {h : AH} : ev L xs mdX7_addHoliday 102 (Ls) (st) h = ev L xs mdX7_addHoliday 103 (Ls) (.int (nI 1) :: st) (h) := e_iconst dX7_addHoliday_102 (by decide)
theorem iX7_addHoliday_103 {x z : Int32} {Ls st : List Value} {h : AH} : ev L xs mdX7_addHoliday 103 (Ls) (.int z :: .int x :: st) h = ev L xs mdX7_addHoliday 104 (Ls) (.int (x + z) :: st) (h) := e_iadd dX7_addHoliday_103
theorem iX7_addHoliday_104 {a : Nat} {j : Int32} {v : Int32} {Ls st : List Value} {h : AH} (hk : hK h a = 8) (hi : inA j (hN h a) = true) : ev L xs mdX7_addHoliday 104 (Ls) (.int v :: .int j :: .ref a :: st) h = ev L xs mdX7_addHoliday 105 (Ls) (st) (sA h a j.toNatClampNeg v) := e_iast dX7_addHoliday_104 hk hi
theorem iX7_addHoliday_105 {x : Nat} {Ls st : List Value} {h : AH} : ev L xs mdX7_addHoliday 105 (.ref x :: Ls) (st) h = ev L xs mdX7_addHoliday 106 (.ref x :: Ls) (.ref x :: st) (h) := e_aload_n dX7_addHoliday_105 rfl
theorem iX7_addHoliday_106 {a : Nat} {Ls st : List Value} {h : AH} (hk : hK h a = 7) (hj : (hR h 113 a).isSome = true) : ev L xs mdX7_addHoliday 106 (Ls) (.ref a :: st) h = ev L xs mdX7_addHoliday 109 (Ls) (.ref ((hR h 113 a).getD 0) :: st) (h) := e_getR (k := 7) (f := 1) (F := 113) dX7_addHoliday_106 (by decide +kernel) rfl rfl hk hj
theorem iX7_addHoliday_109  {Ls st : List Value} {h : AH} : ev L xs mdX7_addHoliday 109 (Ls) (st) h = ev L xs mdX7_addHoliday 110 (Ls) (.int (nI 2) :: st) (h) := e_iconst dX7_addHoliday_109 (by decide)
theorem iX7_addHoliday_110 {a : Nat} {j : Int32} {Ls st : List Value} {h : AH} (hk : hK h a = 8) (hi : inA j (hN h a) = true) : ev L xs mdX7_addHoliday 110 (Ls) (.int j :: .ref a :: st) h = ev L xs mdX7_addHoliday 111 (Ls) (.int (hA h a j.toNatClampNeg) :: st) (h) := e_iald dX7_addHoliday_110 hk hi
theorem iX7_addHoliday_111  {Ls st : List Value} {h : AH} : ev L xs mdX7_addHoliday 111 (Ls) (st) h = ev L xs mdX7_addHoliday 112 (Ls) (.int (nI 1) :: st) (h) := e_iconst dX7_addHoliday_111 (by decide)
theorem iX7_addHoliday_112 {x z : Int32} {Ls st : List Value} {h : AH} : ev L xs mdX7_addHoliday 112 (Ls) (.int z :: .int x :: st) h = ev L xs mdX7_addHoliday 113 (Ls) (.int (x - z) :: st) (h) := e_isub dX7_addHoliday_112
theorem iX7_addHoliday_113 {v : Int32} {Ls : List Value} {h : AH} : ev L xs mdX7_addHoliday 113 Ls [.int v] h = some (.inl (some (.int v), h)) := e_iret dX7_addHoliday_113 rfl
theorem dX7_addPost_0 : decode cX7_addPost 0 = .ok (.aload_n 0, 1) := by decide +kernel
theorem dX7_addPost_1 : decode cX7_addPost 1 = .ok (.iload_n 1, 1) := by decide +kernel
theorem dX7_addPost_2 : decode cX7_addPost 2 = .ok (.iconst 0, 1) := by decide +kernel
theorem dX7_addPost_3 : decode cX7_addPost 3 = .ok (.bipush 99, 2) := by decide +kernel
theorem dX7_addPost_5 : decode cX7_addPost 5 = .ok (.invokestatic 44, 3) := by decide +kernel
theorem dX7_addPost_8 : decode cX7_addPost 8 = .ok (.ifCond .eq 14, 3) := by decide +kernel
theorem dX7_addPost_11 : decode cX7_addPost 11 = .ok (.iload_n 2, 1) := by decide +kernel
theorem dX7_addPost_12 : decode cX7_addPost 12 = .ok (.iconst 0, 1) := by decide +kernel
theorem dX7_addPost_13 : decode cX7_addPost 13 = .ok (.sipush 1023, 3) := by decide +kernel
theorem dX7_addPost_16 : decode cX7_addPost 16 = .ok (.invokestatic 44, 3) := by decide +kernel
theorem dX7_addPost_19 : decode cX7_addPost 19 = .ok (.ifCond .ne 7, 3) := by decide +kernel
theorem dX7_addPost_22 : decode cX7_addPost 22 = .ok (.iconst 1, 1) := by decide +kernel
theorem dX7_addPost_23 : decode cX7_addPost 23 = .ok (.goto 19, 3) := by decide +kernel
theorem dX7_addPost_26 : decode cX7_addPost 26 = .ok (.aload_n 0, 1) := by decide +kernel
theorem dX7_addPost_27 : decode cX7_addPost 27 = .ok (.getfield 7, 3) := by decide +kernel
theorem dX7_addPost_30 : decode cX7_addPost 30 = .ok (.iconst 3, 1) := by decide +kernel
theorem dX7_addPost_31 : decode cX7_addPost 31 = .ok (.iaload, 1) := by decide +kernel
theorem dX7_addPost_32 : decode cX7_addPost 32 = .ok (.bipush 8, 2) := by decide +kernel
theorem dX7_addPost_34 : decode cX7_addPost 34 = .ok (.if_icmp .ne 7, 3) := by decide +kernel
theorem dX7_addPost_37 : decode cX7_addPost 37 = .ok (.iconst 2, 1) := by decide +kernel
theorem dX7_addPost_38 : decode cX7_addPost 38 = .ok (.goto 4, 3) := by decide +kernel
theorem dX7_addPost_41 : decode cX7_addPost 41 = .ok (.iconst 0, 1) := by decide +kernel
theorem dX7_addPost_42 : decode cX7_addPost 42 = .ok (.putfield 34, 3) := by decide +kernel
theorem dX7_addPost_45 : decode cX7_addPost 45 = .ok (.aload_n 0, 1) := by decide +kernel
theorem dX7_addPost_46 : decode cX7_addPost 46 = .ok (.getfield 34, 3) := by decide +kernel
theorem dX7_addPost_49 : decode cX7_addPost 49 = .ok (.ifCond .le 5, 3) := by decide +kernel
theorem dX7_addPost_52 : decode cX7_addPost 52 = .ok (.iconst 0, 1) := by decide +kernel
theorem dX7_addPost_53 : decode cX7_addPost 53 = .ok (.ireturn, 1) := by decide +kernel
theorem dX7_addPost_54 : decode cX7_addPost 54 = .ok (.aload_n 0, 1) := by decide +kernel
theorem dX7_addPost_55 : decode cX7_addPost 55 = .ok (.invokevirtual 109, 3) := by decide +kernel
theorem dX7_addPost_58 : decode cX7_addPost 58 = .ok (.aload_n 0, 1) := by decide +kernel
theorem dX7_addPost_59 : decode cX7_addPost 59 = .ok (.getfield 7, 3) := by decide +kernel
theorem dX7_addPost_62 : decode cX7_addPost 62 = .ok (.iconst 3, 1) := by decide +kernel
theorem dX7_addPost_63 : decode cX7_addPost 63 = .ok (.iaload, 1) := by decide +kernel
theorem dX7_addPost_64 : decode cX7_addPost 64 = .ok (.istore_n 3, 1) := by decide +kernel
theorem dX7_addPost_65 : decode cX7_addPost 65 = .ok (.aload_n 0, 1) := by decide +kernel
theorem dX7_addPost_66 : decode cX7_addPost 66 = .ok (.getfield 7, 3) := by decide +kernel
theorem dX7_addPost_69 : decode cX7_addPost 69 = .ok (.iconst 3, 1) := by decide +kernel
theorem dX7_addPost_70 : decode cX7_addPost 70 = .ok (.dup2, 1) := by decide +kernel
theorem dX7_addPost_71 : decode cX7_addPost 71 = .ok (.iaload, 1) := by decide +kernel
theorem dX7_addPost_72 : decode cX7_addPost 72 = .ok (.iconst 1, 1) := by decide +kernel
theorem dX7_addPost_73 : decode cX7_addPost 73 = .ok (.iadd, 1) := by decide +kernel
theorem dX7_addPost_74 : decode cX7_addPost 74 = .ok (.iastore, 1) := by decide +kernel
theorem dX7_addPost_75 : decode cX7_addPost 75 = .ok (.aload_n 0, 1) := by decide +kernel
theorem dX7_addPost_76 : decode cX7_addPost 76 = .ok (.getfield 7, 3) := by decide +kernel
theorem dX7_addPost_79 : decode cX7_addPost 79 = .ok (.iload_n 3, 1) := by decide +kernel
theorem dX7_addPost_80 : decode cX7_addPost 80 = .ok (.iconst 0, 1) := by decide +kernel
theorem dX7_addPost_81 : decode cX7_addPost 81 = .ok (.iload_n 1, 1) := by decide +kernel
theorem dX7_addPost_82 : decode cX7_addPost 82 = .ok (.invokestatic 100, 3) := by decide +kernel
theorem dX7_addPost_85 : decode cX7_addPost 85 = .ok (.aload_n 0, 1) := by decide +kernel
theorem dX7_addPost_86 : decode cX7_addPost 86 = .ok (.getfield 7, 3) := by decide +kernel
theorem dX7_addPost_89 : decode cX7_addPost 89 = .ok (.iload_n 3, 1) := by decide +kernel
theorem dX7_addPost_90 : decode cX7_addPost 90 = .ok (.iconst 1, 1) := by decide +kernel
theorem dX7_addPost_91 : decode cX7_addPost 91 = .ok (.iload_n 2, 1) := by decide +kernel
theorem dX7_addPost_92 : decode cX7_addPost 92 = .ok (.invokestatic 100, 3) := by decide +kernel
theorem dX7_addPost_95 : decode cX7_addPost 95 = .ok (.aload_n 0, 1) := by decide +kernel
theorem dX7_addPost_96 : decode cX7_addPost 96 = .ok (.getfield 7, 3) := by decide +kernel
theorem dX7_addPost_99 : decode cX7_addPost 99 = .ok (.iload_n 3, 1) := by decide +kernel
theorem dX7_addPost_100 : decode cX7_addPost 100 = .ok (.iconst 2, 1) := by decide +kernel
theorem dX7_addPost_101 : decode cX7_addPost 101 = .ok (.iconst 0, 1) := by decide +kernel
theorem dX7_addPost_102 : decode cX7_addPost 102 = .ok (.invokestatic 100, 3) := by decide +kernel
theorem dX7_addPost_105 : decode cX7_addPost 105 = .ok (.aload_n 0, 1) := by decide +kernel
theorem dX7_addPost_106 : decode cX7_addPost 106 = .ok (.getfield 7, 3) := by decide +kernel
theorem dX7_addPost_109 : decode cX7_addPost 109 = .ok (.iload_n 3, 1) := by decide +kernel
theorem dX7_addPost_110 : decode cX7_addPost 110 = .ok (.iconst 3, 1) := by decide +kernel
theorem dX7_addPost_111 : decode cX7_addPost 111 = .ok (.iconst 0, 1) := by decide +kernel
theorem dX7_addPost_112 : decode cX7_addPost 112 = .ok (.invokestatic 100, 3) := by decide +kernel
theorem dX7_addPost_115 : decode cX7_addPost 115 = .ok (.aload_n 0, 1) := by decide +kernel
theorem dX7_addPost_116 : decode cX7_addPost 116 = .ok (.getfield 7, 3) := by decide +kernel
theorem dX7_addPost_119 : decode cX7_addPost 119 = .ok (.iload_n 3, 1) := by decide +kernel
theorem dX7_addPost_120 : decode cX7_addPost 120 = .ok (.iconst 4, 1) := by decide +kernel
theorem dX7_addPost_121 : decode cX7_addPost 121 = .ok (.iconst (-1), 1) := by decide +kernel
theorem dX7_addPost_122 : decode cX7_addPost 122 = .ok (.invokestatic 100, 3) := by decide +kernel
theorem dX7_addPost_125 : decode cX7_addPost 125 = .ok (.aload_n 0, 1) := by decide +kernel
theorem dX7_addPost_126 : decode cX7_addPost 126 = .ok (.getfield 7, 3) := by decide +kernel
theorem dX7_addPost_129 : decode cX7_addPost 129 = .ok (.iload_n 3, 1) := by decide +kernel
theorem dX7_addPost_130 : decode cX7_addPost 130 = .ok (.iconst 5, 1) := by decide +kernel
theorem dX7_addPost_131 : decode cX7_addPost 131 = .ok (.iconst 0, 1) := by decide +kernel
theorem dX7_addPost_132 : decode cX7_addPost 132 = .ok (.invokestatic 100, 3) := by decide +kernel
theorem dX7_addPost_135 : decode cX7_addPost 135 = .ok (.aload_n 0, 1) := by decide +kernel
theorem dX7_addPost_136 : decode cX7_addPost 136 = .ok (.getfield 7, 3) := by decide +kernel
theorem dX7_addPost_139 : decode cX7_addPost 139 = .ok (.iload_n 3, 1) := by decide +kernel
theorem dX7_addPost_140 : decode cX7_addPost 140 = .ok (.bipush 6, 2) := by decide +kernel
theorem dX7_addPost_142 : decode cX7_addPost 142 = .ok (.iconst (-1), 1) := by decide +kernel
theorem dX7_addPost_143 : decode cX7_addPost 143 = .ok (.invokestatic 100, 3) := by decide +kernel
theorem dX7_addPost_146 : decode cX7_addPost 146 = .ok (.aload_n 0, 1) := by decide +kernel
theorem dX7_addPost_147 : decode cX7_addPost 147 = .ok (.getfield 7, 3) := by decide +kernel
theorem dX7_addPost_150 : decode cX7_addPost 150 = .ok (.iload_n 3, 1) := by decide +kernel
theorem dX7_addPost_151 : decode cX7_addPost 151 = .ok (.bipush 7, 2) := by decide +kernel
theorem dX7_addPost_153 : decode cX7_addPost 153 = .ok (.iconst (-1), 1) := by decide +kernel
theorem dX7_addPost_154 : decode cX7_addPost 154 = .ok (.invokestatic 100, 3) := by decide +kernel
theorem dX7_addPost_157 : decode cX7_addPost 157 = .ok (.aload_n 0, 1) := by decide +kernel
theorem dX7_addPost_158 : decode cX7_addPost 158 = .ok (.getfield 7, 3) := by decide +kernel
theorem dX7_addPost_161 : decode cX7_addPost 161 = .ok (.iload_n 3, 1) := by decide +kernel
theorem dX7_addPost_162 : decode cX7_addPost 162 = .ok (.bipush 8, 2) := by decide +kernel
theorem dX7_addPost_164 : decode cX7_addPost 164 = .ok (.iconst 0, 1) := by decide +kernel
theorem dX7_addPost_165 : decode cX7_addPost 165 = .ok (.invokestatic 100, 3) := by decide +kernel
theorem dX7_addPost_168 : decode cX7_addPost 168 = .ok (.iload_n 3, 1) := by decide +kernel
theorem dX7_addPost_169 : decode cX7_addPost 169 = .ok (.ireturn, 1) := by decide +kernel
theorem iX7_addPost_0 {x : Nat} {Ls st : List Value} {h : AH} : ev L xs mdX7_addPost 0 (.ref x :: Ls) (st) h = ev L xs mdX7_addPost 1 (.ref x :: Ls) (.ref x :: st) (h) := e_aload_n dX7_addPost_0 rfl
theorem iX7_addPost_1 {v0 : Value} {x : Int32} {Ls st : List Value} {h : AH} : ev L xs mdX7_addPost 1 (v0 :: .int x :: Ls) (st) h = ev L xs mdX7_addPost 2 (v0 :: .int x :: Ls) (.int x :: st) (h) := e_iload_n dX7_addPost_1 rfl
theorem iX7_addPost_2  {Ls st : List Value} {h : AH} : ev L xs mdX7_addPost 2 (Ls) (st) h = ev L xs mdX7_addPost 3 (Ls) (.int (nI 0) :: st) (h) := e_iconst dX7_addPost_2 (by decide)
theorem iX7_addPost_3  {Ls st : List Value} {h : AH} : ev L xs mdX7_addPost 3 (Ls) (st) h = ev L xs mdX7_addPost 5 (Ls) (.int (nI 99) :: st) (h) := e_bipush dX7_addPost_3 (by decide)
theorem iX7_addPost_5 {p0 : Int32} {p1 : Int32} {p2 : Int32} {Ls st : List Value} {h : AH} (hw : wds st ≤ 8) : ev L xs mdX7_addPost 5 Ls (.int p2 :: .int p1 :: .int p0 :: st) h = kn L xs mdX7_addPost 5 8 Ls st (ev L xs mdX7_in 0 [.int p0, .int p1, .int p2] [] h) := e_callS (as := [.int p2, .int p1, .int p0]) dX7_addPost_5 mr_7_44 (by decide) (by decide) rfl (by simp [wds, Value.category]; decide) rfl hw
theorem iX7_addPost_8 {x : Int32} {Ls st : List Value} {h : AH} : ev L xs mdX7_addPost 8 Ls (.int x :: st) h = if x = nI 0 then ev L xs mdX7_addPost 22 Ls st h else ev L xs mdX7_addPost 11 Ls st h := e_if_eq dX7_addPost_8 (by decide)
theorem iX7_addPost_11 {v0 : Value} {v1 : Value} {x : Int32} {Ls st : List Value} {h : AH} : ev L xs mdX7_addPost 11 (v0 :: v1 :: .int x :: Ls) (st) h = ev L xs mdX7_addPost 12 (v0 :: v1 :: .int x :: Ls) (.int x :: st) (h) := e_iload_n dX7_addPost_11 rfl
theorem iX7_addPost_12  {Ls st : List Value} {h : AH} : ev L xs mdX7_addPost 12 (Ls) (st) h = ev L xs mdX7_addPost 13 (Ls) (.int (nI 0) :: st) (h) := e_iconst dX7_addPost_12 (by decide)
theorem iX7_addPost_13  {Ls st : List Value} {h : AH} : ev L xs mdX7_addPost 13 (Ls) (st) h = ev L xs mdX7_addPost 16 (Ls) (.int (nI 1023) :: st) (h) := e_sipush dX7_addPost_13 (by decide)
theorem iX7_addPost_16 {p0 : Int32} {p1 : Int32} {p2 : Int32} {Ls st : List Value} {h : AH} (hw : wds st ≤ 8) : ev L xs mdX7_addPost 16 Ls (.int p2 :: .int p1 :: .int p0 :: st) h = kn L xs mdX7_addPost 16 19 Ls st (ev L xs mdX7_in 0 [.int p0, .int p1, .int p2] [] h) := e_callS (as := [.int p2, .int p1, .int p0]) dX7_addPost_16 mr_7_44 (by decide) (by decide) rfl (by simp [wds, Value.category]; decide) rfl hw
theorem iX7_addPost_19 {x : Int32} {Ls st : List Value} {h : AH} : ev L xs mdX7_addPost 19 Ls (.int x :: st) h = if x = nI 0 then ev L xs mdX7_addPost 22 Ls st h else ev L xs mdX7_addPost 26 Ls st h := e_if_ne dX7_addPost_19 (by decide)
theorem iX7_addPost_22  {Ls st : List Value} {h : AH} : ev L xs mdX7_addPost 22 (Ls) (st) h = ev L xs mdX7_addPost 23 (Ls) (.int (nI 1) :: st) (h) := e_iconst dX7_addPost_22 (by decide)
theorem iX7_addPost_23  {Ls st : List Value} {h : AH} : ev L xs mdX7_addPost 23 (Ls) (st) h = ev L xs mdX7_addPost 42 (Ls) (st) (h) := e_goto dX7_addPost_23 (by decide)
theorem iX7_addPost_26 {x : Nat} {Ls st : List Value} {h : AH} : ev L xs mdX7_addPost 26 (.ref x :: Ls) (st) h = ev L xs mdX7_addPost 27 (.ref x :: Ls) (.ref x :: st) (h) := e_aload_n dX7_addPost_26 rfl
theorem iX7_addPost_27 {a : Nat} {Ls st : List Value} {h : AH} (hk : hK h a = 7) (hj : (hR h 113 a).isSome = true) : ev L xs mdX7_addPost 27 (Ls) (.ref a :: st) h = ev L xs mdX7_addPost 30 (Ls) (.ref ((hR h 113 a).getD 0) :: st) (h) := e_getR (k := 7) (f := 1) (F := 113) dX7_addPost_27 (by decide +kernel) rfl rfl hk hj
theorem iX7_addPost_30  {Ls st : List Value} {h : AH} : ev L xs mdX7_addPost 30 (Ls) (st) h = ev L xs mdX7_addPost 31 (Ls) (.int (nI 3) :: st) (h) := e_iconst dX7_addPost_30 (by decide)
theorem iX7_addPost_31 {a : Nat} {j : Int32} {Ls st : List Value} {h : AH} (hk : hK h a = 8) (hi : inA j (hN h a) = true) : ev L xs mdX7_addPost 31 (Ls) (.int j :: .ref a :: st) h = ev L xs mdX7_addPost 32 (Ls) (.int (hA h a j.toNatClampNeg) :: st) (h) := e_iald dX7_addPost_31 hk hi
theorem iX7_addPost_32  {Ls st : List Value} {h : AH} : ev L xs mdX7_addPost 32 (Ls) (st) h = ev L xs mdX7_addPost 34 (Ls) (.int (nI 8) :: st) (h) := e_bipush dX7_addPost_32 (by decide)
theorem iX7_addPost_34 {x z : Int32} {Ls st : List Value} {h : AH} : ev L xs mdX7_addPost 34 Ls (.int z :: .int x :: st) h = if x = z then ev L xs mdX7_addPost 37 Ls st h else ev L xs mdX7_addPost 41 Ls st h := e_ic_ne dX7_addPost_34 (by decide)
theorem iX7_addPost_37  {Ls st : List Value} {h : AH} : ev L xs mdX7_addPost 37 (Ls) (st) h = ev L xs mdX7_addPost 38 (Ls) (.int (nI 2) :: st) (h) := e_iconst dX7_addPost_37 (by decide)
theorem iX7_addPost_38  {Ls st : List Value} {h : AH} : ev L xs mdX7_addPost 38 (Ls) (st) h = ev L xs mdX7_addPost 42 (Ls) (st) (h) := e_goto dX7_addPost_38 (by decide)
theorem iX7_addPost_41  {Ls st : List Value} {h : AH} : ev L xs mdX7_addPost 41 (Ls) (st) h = ev L xs mdX7_addPost 42 (Ls) (.int (nI 0) :: st) (h) := e_iconst dX7_addPost_41 (by decide)
theorem iX7_addPost_42 {a : Nat} {v : Int32} {Ls st : List Value} {h : AH} (hk : hK h a = 7) : ev L xs mdX7_addPost 42 (Ls) (.int v :: .ref a :: st) h = ev L xs mdX7_addPost 45 (Ls) (st) (sI h 112 a v) := e_putI (k := 7) (f := 0) (F := 112) dX7_addPost_42 (by decide +kernel) rfl (by decide +kernel) rfl hk
theorem iX7_addPost_45 {x : Nat} {Ls st : List Value} {h : AH} : ev L xs mdX7_addPost 45 (.ref x :: Ls) (st) h = ev L xs mdX7_addPost 46 (.ref x :: Ls) (.ref x :: st) (h) := e_aload_n dX7_addPost_45 rfl
theorem iX7_addPost_46 {a : Nat} {Ls st : List Value} {h : AH} (hk : hK h a = 7) : ev L xs mdX7_addPost 46 (Ls) (.ref a :: st) h = ev L xs mdX7_addPost 49 (Ls) (.int (hI h 112 a) :: st) (h) := e_getI (k := 7) (f := 0) (F := 112) dX7_addPost_46 (by decide +kernel) rfl rfl hk
theorem iX7_addPost_49 {x : Int32} {Ls st : List Value} {h : AH} : ev L xs mdX7_addPost 49 Ls (.int x :: st) h = if x ≤ nI 0 then ev L xs mdX7_addPost 54 Ls st h else ev L xs mdX7_addPost 52 Ls st h := e_if_le dX7_addPost_49 (by decide)
theorem iX7_addPost_52  {Ls st : List Value} {h : AH} : ev L xs mdX7_addPost 52 (Ls) (st) h = ev L xs mdX7_addPost 53 (Ls) (.int (nI 0) :: st) (h) := e_iconst dX7_addPost_52 (by decide)
theorem iX7_addPost_53 {v : Int32} {Ls : List Value} {h : AH} : ev L xs mdX7_addPost 53 Ls [.int v] h = some (.inl (some (.int v), h)) := e_iret dX7_addPost_53 rfl
theorem iX7_addPost_54 {x : Nat} {Ls st : List Value} {h : AH} : ev L xs mdX7_addPost 54 (.ref x :: Ls) (st) h = ev L xs mdX7_addPost 55 (.ref x :: Ls) (.ref x :: st) (h) := e_aload_n dX7_addPost_54 rfl
theorem iX7_addPost_55 {a : Nat} {Ls st : List Value} {h : AH} (hk : hK h a = 7) (hw : wds st ≤ 8) : ev L xs mdX7_addPost 55 Ls (.ref a :: st) h = kn L xs mdX7_addPost 55 58 Ls st (ev L xs mdX7_save 0 [.ref a, .null] [] h) := e_callV (as := []) dX7_addPost_55 mr_7_109 (by decide) (by decide) rfl (by simp [wds, Value.category]; decide) rfl (by decide) hk hw
theorem iX7_addPost_58 {x : Nat} {Ls st : List Value} {h : AH} : ev L xs mdX7_addPost 58 (.ref x :: Ls) (st) h = ev L xs mdX7_addPost 59 (.ref x :: Ls) (.ref x :: st) (h) := e_aload_n dX7_addPost_58 rfl
theorem iX7_addPost_59 {a : Nat} {Ls st : List Value} {h : AH} (hk : hK h a = 7) (hj : (hR h 113 a).isSome = true) : ev L xs mdX7_addPost 59 (Ls) (.ref a :: st) h = ev L xs mdX7_addPost 62 (Ls) (.ref ((hR h 113 a).getD 0) :: st) (h) := e_getR (k := 7) (f := 1) (F := 113) dX7_addPost_59 (by decide +kernel) rfl rfl hk hj
theorem iX7_addPost_62  {Ls st : List Value} {h : AH} : ev L xs mdX7_addPost 62 (Ls) (st) h = ev L xs mdX7_addPost 63 (Ls) (.int (nI 3) :: st) (h) := e_iconst dX7_addPost_62 (by decide)
theorem iX7_addPost_63 {a : Nat} {j : Int32} {Ls st : List Value} {h : AH} (hk : hK h a = 8) (hi : inA j (hN h a) = true) : ev L xs mdX7_addPost 63 (Ls) (.int j :: .ref a :: st) h = ev L xs mdX7_addPost 64 (Ls) (.int (hA h a j.toNatClampNeg) :: st) (h) := e_iald dX7_addPost_63 hk hi
theorem iX7_addPost_64 {v0 : Value} {v1 : Value} {v2 : Value} {v3 : Value} {x : Int32} {Ls st : List Value} {h : AH} (hc9 : v2.category = 1) : ev L xs mdX7_addPost 64 (v0 :: v1 :: v2 :: v3 :: Ls) (.int x :: st) h = ev L xs mdX7_addPost 65 (v0 :: v1 :: v2 :: .int x :: Ls) (st) (h) := e_istore_n dX7_addPost_64 rfl (by decide) (by unfold catOK; show (_ || (v2.category == 1)) = true; rw [hc9]; rfl)
theorem iX7_addPost_65 {x : Nat} {Ls st : List Value} {h : AH} : ev L xs mdX7_addPost 65 (.ref x :: Ls) (st) h = ev L xs mdX7_addPost 66 (.ref x :: Ls) (.ref x :: st) (h) := e_aload_n dX7_addPost_65 rfl
theorem iX7_addPost_66 {a : Nat} {Ls st : List Value} {h : AH} (hk : hK h a = 7) (hj : (hR h 113 a).isSome = true) : ev L xs mdX7_addPost 66 (Ls) (.ref a :: st) h = ev L xs mdX7_addPost 69 (Ls) (.ref ((hR h 113 a).getD 0) :: st) (h) := e_getR (k := 7) (f := 1) (F := 113) dX7_addPost_66 (by decide +kernel) rfl rfl hk hj
theorem iX7_addPost_69  {Ls st : List Value} {h : AH} : ev L xs mdX7_addPost 69 (Ls) (st) h = ev L xs mdX7_addPost 70 (Ls) (.int (nI 3) :: st) (h) := e_iconst dX7_addPost_69 (by decide)
theorem iX7_addPost_70 {a : Nat} {j : Int32} {Ls st : List Value} {h : AH} : ev L xs mdX7_addPost 70 (Ls) (.int j :: .ref a :: st) h = ev L xs mdX7_addPost 71 (Ls) (.int j :: .ref a :: .int j :: .ref a :: st) (h) := e_dup2 dX7_addPost_70 rfl rfl
theorem iX7_addPost_71 {a : Nat} {j : Int32} {Ls st : List Value} {h : AH} (hk : hK h a = 8) (hi : inA j (hN h a) = true) : ev L xs mdX7_addPost 71 (Ls) (.int j :: .ref a :: st) h = ev L xs mdX7_addPost 72 (Ls) (.int (hA h a j.toNatClampNeg) :: st) (h) := e_iald dX7_addPost_71 hk hi
theorem iX7_addPost_72  {Ls st : List Value} {h : AH} : ev L xs mdX7_addPost 72 (Ls) (st) h = ev L xs mdX7_addPost 73 (Ls) (.int (nI 1) :: st) (h) := e_iconst dX7_addPost_72 (by decide)
theorem iX7_addPost_73 {x z : Int32} {Ls st : List Value} {h : AH} : ev L xs mdX7_addPost 73 (Ls) (.int z :: .int x :: st) h = ev L xs mdX7_addPost 74 (Ls) (.int (x + z) :: st) (h) := e_iadd dX7_addPost_73
theorem iX7_addPost_74 {a : Nat} {j : Int32} {v : Int32} {Ls st : List Value} {h : AH} (hk : hK h a = 8) (hi : inA j (hN h a) = true) : ev L xs mdX7_addPost 74 (Ls) (.int v :: .int j :: .ref a :: st) h = ev L xs mdX7_addPost 75 (Ls) (st) (sA h a j.toNatClampNeg v) := e_iast dX7_addPost_74 hk hi
theorem iX7_addPost_75 {x : Nat} {Ls st : List Value} {h : AH} : ev L xs mdX7_addPost 75 (.ref x :: Ls) (st) h = ev L xs mdX7_addPost 76 (.ref x :: Ls) (.ref x :: st) (h) := e_aload_n dX7_addPost_75 rfl
theorem iX7_addPost_76 {a : Nat} {Ls st : List Value} {h : AH} (hk : hK h a = 7) (hj : (hR h 113 a).isSome = true) : ev L xs mdX7_addPost 76 (Ls) (.ref a :: st) h = ev L xs mdX7_addPost 79 (Ls) (.ref ((hR h 113 a).getD 0) :: st) (h) := e_getR (k := 7) (f := 1) (F := 113) dX7_addPost_76 (by decide +kernel) rfl rfl hk hj
theorem iX7_addPost_79 {v0 : Value} {v1 : Value} {v2 : Value} {x : Int32} {Ls st : List Value} {h : AH} : ev L xs mdX7_addPost 79 (v0 :: v1 :: v2 :: .int x :: Ls) (st) h = ev L xs mdX7_addPost 80 (v0 :: v1 :: v2 :: .int x :: Ls) (.int x :: st) (h) := e_iload_n dX7_addPost_79 rfl
theorem iX7_addPost_80  {Ls st : List Value} {h : AH} : ev L xs mdX7_addPost 80 (Ls) (st) h = ev L xs mdX7_addPost 81 (Ls) (.int (nI 0) :: st) (h) := e_iconst dX7_addPost_80 (by decide)
theorem iX7_addPost_81 {v0 : Value} {x : Int32} {Ls st : List Value} {h : AH} : ev L xs mdX7_addPost 81 (v0 :: .int x :: Ls) (st) h = ev L xs mdX7_addPost 82 (v0 :: .int x :: Ls) (.int x :: st) (h) := e_iload_n dX7_addPost_81 rfl
theorem iX7_addPost_82 {p0 : Nat} {p1 : Int32} {p2 : Int32} {p3 : Int32} {Ls st : List Value} {h : AH} (hw : wds st ≤ 8) : ev L xs mdX7_addPost 82 Ls (.int p3 :: .int p2 :: .int p1 :: .ref p0 :: st) h = kn L xs mdX7_addPost 82 85 Ls st (ev L xs mdX7_put 0 [.ref p0, .int p1, .int p2, .int p3] [] h) := e_callS (as := [.int p3, .int p2, .int p1, .ref p0]) dX7_addPost_82 mr_7_100 (by decide) (by decide) rfl (by simp [wds, Value.category]; decide) rfl hw
theorem iX7_addPost_85 {x : Nat} {Ls st : List Value} {h : AH} : ev L xs mdX7_addPost 85 (.ref x :: Ls) (st) h = ev L xs mdX7_addPost 86 (.ref x :: Ls) (.ref x :: st) (h) := e_aload_n dX7_addPost_85 rfl
theorem iX7_addPost_86 {a : Nat} {Ls st : List Value} {h : AH} (hk : hK h a = 7) (hj : (hR h 113 a).isSome = true) : ev L xs mdX7_addPost 86 (Ls) (.ref a :: st) h = ev L xs mdX7_addPost 89 (Ls) (.ref ((hR h 113 a).getD 0) :: st) (h) := e_getR (k := 7) (f := 1) (F := 113) dX7_addPost_86 (by decide +kernel) rfl rfl hk hj
theorem iX7_addPost_89 {v0 : Value} {v1 : Value} {v2 : Value} {x : Int32} {Ls st : List Value} {h : AH} : ev L xs mdX7_addPost 89 (v0 :: v1 :: v2 :: .int x :: Ls) (st) h = ev L xs mdX7_addPost 90 (v0 :: v1 :: v2 :: .int x :: Ls) (.int x :: st) (h) := e_iload_n dX7_addPost_89 rfl
theorem iX7_addPost_90  {Ls st : List Value} {h : AH} : ev L xs mdX7_addPost 90 (Ls) (st) h = ev L xs mdX7_addPost 91 (Ls) (.int (nI 1) :: st) (h) := e_iconst dX7_addPost_90 (by decide)
theorem iX7_addPost_91 {v0 : Value} {v1 : Value} {x : Int32} {Ls st : List Value} {h : AH} : ev L xs mdX7_addPost 91 (v0 :: v1 :: .int x :: Ls) (st) h = ev L xs mdX7_addPost 92 (v0 :: v1 :: .int x :: Ls) (.int x :: st) (h) := e_iload_n dX7_addPost_91 rfl
theorem iX7_addPost_92 {p0 : Nat} {p1 : Int32} {p2 : Int32} {p3 : Int32} {Ls st : List Value} {h : AH} (hw : wds st ≤ 8) : ev L xs mdX7_addPost 92 Ls (.int p3 :: .int p2 :: .int p1 :: .ref p0 :: st) h = kn L xs mdX7_addPost 92 95 Ls st (ev L xs mdX7_put 0 [.ref p0, .int p1, .int p2, .int p3] [] h) := e_callS (as := [.int p3, .int p2, .int p1, .ref p0]) dX7_addPost_92 mr_7_100 (by decide) (by decide) rfl (by simp [wds, Value.category]; decide) rfl hw
theorem iX7_addPost_95 {x : Nat} {Ls st : List Value} {h : AH} : ev L xs mdX7_addPost 95 (.ref x :: Ls) (st) h = ev L xs mdX7_addPost 96 (.ref x :: Ls) (.ref x :: st) (h) := e_aload_n dX7_addPost_95 rfl
theorem iX7_addPost_96 {a : Nat} {Ls st : List Value} {h : AH} (hk : hK h a = 7) (hj : (hR h 113 a).isSome = true) : ev L xs mdX7_addPost 96 (Ls) (.ref a :: st) h = ev L xs mdX7_addPost 99 (Ls) (.ref ((hR h 113 a).getD 0) :: st) (h) := e_getR (k := 7) (f := 1) (F := 113) dX7_addPost_96 (by decide +kernel) rfl rfl hk hj
theorem iX7_addPost_99 {v0 : Value} {v1 : Value} {v2 : Value} {x : Int32} {Ls st : List Value} {h : AH} : ev L xs mdX7_addPost 99 (v0 :: v1 :: v2 :: .int x :: Ls) (st) h = ev L xs mdX7_addPost 100 (v0 :: v1 :: v2 :: .int x :: Ls) (.int x :: st) (h) := e_iload_n dX7_addPost_99 rfl
theorem iX7_addPost_100  {Ls st : List Value} {h : AH} : ev L xs mdX7_addPost 100 (Ls) (st) h = ev L xs mdX7_addPost 101 (Ls) (.int (nI 2) :: st) (h) := e_iconst dX7_addPost_100 (by decide)
theorem iX7_addPost_101  {Ls st : List Value} {h : AH} : ev L xs mdX7_addPost 101 (Ls) (st) h = ev L xs mdX7_addPost 102 (Ls) (.int (nI 0) :: st) (h) := e_iconst dX7_addPost_101 (by decide)
theorem iX7_addPost_102 {p0 : Nat} {p1 : Int32} {p2 : Int32} {p3 : Int32} {Ls st : List Value} {h : AH} (hw : wds st ≤ 8) : ev L xs mdX7_addPost 102 Ls (.int p3 :: .int p2 :: .int p1 :: .ref p0 :: st) h = kn L xs mdX7_addPost 102 105 Ls st (ev L xs mdX7_put 0 [.ref p0, .int p1, .int p2, .int p3] [] h) := e_callS (as := [.int p3, .int p2, .int p1, .ref p0]) dX7_addPost_102 mr_7_100 (by decide) (by decide) rfl (by simp [wds, Value.category]; decide) rfl hw
theorem iX7_addPost_105 {x : Nat} {Ls st : List Value} {h : AH} : ev L xs mdX7_addPost 105 (.ref x :: Ls) (st) h = ev L xs mdX7_addPost 106 (.ref x :: Ls) (.ref x :: st) (h) := e_aload_n dX7_addPost_105 rfl
theorem iX7_addPost_106 {a : Nat} {Ls st : List Value} {h : AH} (hk : hK h a = 7) (hj : (hR h 113 a).isSome = true) : ev L xs mdX7_addPost 106 (Ls) (.ref a :: st) h = ev L xs mdX7_addPost 109 (Ls) (.ref ((hR h 113 a).getD 0) :: st) (h) := e_getR (k := 7) (f := 1) (F := 113) dX7_addPost_106 (by decide +kernel) rfl rfl hk hj
theorem iX7_addPost_109 {v0 : Value} {v1 : Value} {v2 : Value} {x : Int32} {Ls st : List Value} {h : AH} : ev L xs mdX7_addPost 109 (v0 :: v1 :: v2 :: .int x :: Ls) (st) h = ev L xs mdX7_addPost 110 (v0 :: v1 :: v2 :: .int x :: Ls) (.int x :: st) (h) := e_iload_n dX7_addPost_109 rfl
theorem iX7_addPost_110  {Ls st : List Value} {h : AH} : ev L xs mdX7_addPost 110 (Ls) (st) h = ev L xs mdX7_addPost 111 (Ls) (.int (nI 3) :: st) (h) := e_iconst dX7_addPost_110 (by decide)
theorem iX7_addPost_111  {Ls st : List Value} {h : AH} : ev L xs mdX7_addPost 111 (Ls) (st) h = ev L xs mdX7_addPost 112 (Ls) (.int (nI 0) :: st) (h) := e_iconst dX7_addPost_111 (by decide)
theorem iX7_addPost_112 {p0 : Nat} {p1 : Int32} {p2 : Int32} {p3 : Int32} {Ls st : List Value} {h : AH} (hw : wds st ≤ 8) : ev L xs mdX7_addPost 112 Ls (.int p3 :: .int p2 :: .int p1 :: .ref p0 :: st) h = kn L xs mdX7_addPost 112 115 Ls st (ev L xs mdX7_put 0 [.ref p0, .int p1, .int p2, .int p3] [] h) := e_callS (as := [.int p3, .int p2, .int p1, .ref p0]) dX7_addPost_112 mr_7_100 (by decide) (by decide) rfl (by simp [wds, Value.category]; decide) rfl hw
theorem iX7_addPost_115 {x : Nat} {Ls st : List Value} {h : AH} : ev L xs mdX7_addPost 115 (.ref x :: Ls) (st) h = ev L xs mdX7_addPost 116 (.ref x :: Ls) (.ref x :: st) (h) := e_aload_n dX7_addPost_115 rfl
theorem iX7_addPost_116 {a : Nat} {Ls st : List Value} {h : AH} (hk : hK h a = 7) (hj : (hR h 113 a).isSome = true) : ev L xs mdX7_addPost 116 (Ls) (.ref a :: st) h = ev L xs mdX7_addPost 119 (Ls) (.ref ((hR h 113 a).getD 0) :: st) (h) := e_getR (k := 7) (f := 1) (F := 113) dX7_addPost_116 (by decide +kernel) rfl rfl hk hj
theorem iX7_addPost_119 {v0 : Value} {v1 : Value} {v2 : Value} {x : Int32} {Ls st : List Value} {h : AH} : ev L xs mdX7_addPost 119 (v0 :: v1 :: v2 :: .int x :: Ls) (st) h = ev L xs mdX7_addPost 120 (v0 :: v1 :: v2 :: .int x :: Ls) (.int x :: st) (h) := e_iload_n dX7_addPost_119 rfl
theorem iX7_addPost_120  {Ls st : List Value} {h : AH} : ev L xs mdX7_addPost 120 (Ls) (st) h = ev L xs mdX7_addPost 121 (Ls) (.int (nI 4) :: st) (h) := e_iconst dX7_addPost_120 (by decide)
theorem iX7_addPost_121  {Ls st : List Value} {h : AH} : ev L xs mdX7_addPost 121 (Ls) (st) h = ev L xs mdX7_addPost 122 (Ls) (.int (-1) :: st) (h) := e_iconst dX7_addPost_121 (by decide)
theorem iX7_addPost_122 {p0 : Nat} {p1 : Int32} {p2 : Int32} {p3 : Int32} {Ls st : List Value} {h : AH} (hw : wds st ≤ 8) : ev L xs mdX7_addPost 122 Ls (.int p3 :: .int p2 :: .int p1 :: .ref p0 :: st) h = kn L xs mdX7_addPost 122 125 Ls st (ev L xs mdX7_put 0 [.ref p0, .int p1, .int p2, .int p3] [] h) := e_callS (as := [.int p3, .int p2, .int p1, .ref p0]) dX7_addPost_122 mr_7_100 (by decide) (by decide) rfl (by simp [wds, Value.category]; decide) rfl hw
theorem iX7_addPost_125 {x : Nat} {Ls st : List Value} {h : AH} : ev L xs mdX7_addPost 125 (.ref x :: Ls) (st) h = ev L xs mdX7_addPost 126 (.ref x :: Ls) (.ref x :: st) (h) := e_aload_n dX7_addPost_125 rfl
theorem iX7_addPost_126 {a : Nat} {Ls st : List Value} {h : AH} (hk : hK h a = 7) (hj : (hR h 113 a).isSome = true) : ev L xs mdX7_addPost 126 (Ls) (.ref a :: st) h = ev L xs mdX7_addPost 129 (Ls) (.ref ((hR h 113 a).getD 0) :: st) (h) := e_getR (k := 7) (f := 1) (F := 113) dX7_addPost_126 (by decide +kernel) rfl rfl hk hj
theorem iX7_addPost_129 {v0 : Value} {v1 : Value} {v2 : Value} {x : Int32} {Ls st : List Value} {h : AH} : ev L xs mdX7_addPost 129 (v0 :: v1 :: v2 :: .int x :: Ls) (st) h = ev L xs mdX7_addPost 130 (v0 :: v1 :: v2 :: .int x :: Ls) (.int x :: st) (h) := e_iload_n dX7_addPost_129 rfl
theorem iX7_addPost_130  {Ls st : List Value} {h : AH} : ev L xs mdX7_addPost 130 (Ls) (st) h = ev L xs mdX7_addPost 131 (Ls) (.int (nI 5) :: st) (h) := e_iconst dX7_addPost_130 (by decide)
theorem iX7_addPost_131  {Ls st : List Value} {h : AH} : ev L xs mdX7_addPost 131 (Ls) (st) h = ev L xs mdX7_addPost 132 (Ls) (.int (nI 0) :: st) (h) := e_iconst dX7_addPost_131 (by decide)
theorem iX7_addPost_132 {p0 : Nat} {p1 : Int32} {p2 : Int32} {p3 : Int32} {Ls st : List Value} {h : AH} (hw : wds st ≤ 8) : ev L xs mdX7_addPost 132 Ls (.int p3 :: .int p2 :: .int p1 :: .ref p0 :: st) h = kn L xs mdX7_addPost 132 135 Ls st (ev L xs mdX7_put 0 [.ref p0, .int p1, .int p2, .int p3] [] h) := e_callS (as := [.int p3, .int p2, .int p1, .ref p0]) dX7_addPost_132 mr_7_100 (by decide) (by decide) rfl (by simp [wds, Value.category]; decide) rfl hw
theorem iX7_addPost_135 {x : Nat} {Ls st : List Value} {h : AH} : ev L xs mdX7_addPost 135 (.ref x :: Ls) (st) h = ev L xs mdX7_addPost 136 (.ref x :: Ls) (.ref x :: st) (h) := e_aload_n dX7_addPost_135 rfl
theorem iX7_addPost_136 {a : Nat} {Ls st : List Value} {h : AH} (hk : hK h a = 7) (hj : (hR h 113 a).isSome = true) : ev L xs mdX7_addPost 136 (Ls) (.ref a :: st) h = ev L xs mdX7_addPost 139 (Ls) (.ref ((hR h 113 a).getD 0) :: st) (h) := e_getR (k := 7) (f := 1) (F := 113) dX7_addPost_136 (by decide +kernel) rfl rfl hk hj
theorem iX7_addPost_139 {v0 : Value} {v1 : Value} {v2 : Value} {x : Int32} {Ls st : List Value} {h : AH} : ev L xs mdX7_addPost 139 (v0 :: v1 :: v2 :: .int x :: Ls) (st) h = ev L xs mdX7_addPost 140 (v0 :: v1 :: v2 :: .int x :: Ls) (.int x :: st) (h) := e_iload_n dX7_addPost_139 rfl
theorem iX7_addPost_140  {Ls st : List Value} {h : AH} : ev L xs mdX7_addPost 140 (Ls) (st) h = ev L xs mdX7_addPost 142 (Ls) (.int (nI 6) :: st) (h) := e_bipush dX7_addPost_140 (by decide)
theorem iX7_addPost_142  {Ls st : List Value} {h : AH} : ev L xs mdX7_addPost 142 (Ls) (st) h = ev L xs mdX7_addPost 143 (Ls) (.int (-1) :: st) (h) := e_iconst dX7_addPost_142 (by decide)
theorem iX7_addPost_143 {p0 : Nat} {p1 : Int32} {p2 : Int32} {p3 : Int32} {Ls st : List Value} {h : AH} (hw : wds st ≤ 8) : ev L xs mdX7_addPost 143 Ls (.int p3 :: .int p2 :: .int p1 :: .ref p0 :: st) h = kn L xs mdX7_addPost 143 146 Ls st (ev L xs mdX7_put 0 [.ref p0, .int p1, .int p2, .int p3] [] h) := e_callS (as := [.int p3, .int p2, .int p1, .ref p0]) dX7_addPost_143 mr_7_100 (by decide) (by decide) rfl (by simp [wds, Value.category]; decide) rfl hw
theorem iX7_addPost_146 {x : Nat} {Ls st : List Value} {h : AH} : ev L xs mdX7_addPost 146 (.ref x :: Ls) (st) h = ev L xs mdX7_addPost 147 (.ref x :: Ls) (.ref x :: st) (h) := e_aload_n dX7_addPost_146 rfl
theorem iX7_addPost_147 {a : Nat} {Ls st : List Value} {h : AH} (hk : hK h a = 7) (hj : (hR h 113 a).isSome = true) : ev L xs mdX7_addPost 147 (Ls) (.ref a :: st) h = ev L xs mdX7_addPost 150 (Ls) (.ref ((hR h 113 a).getD 0) :: st) (h) := e_getR (k := 7) (f := 1) (F := 113) dX7_addPost_147 (by decide +kernel) rfl rfl hk hj
theorem iX7_addPost_150 {v0 : Value} {v1 : Value} {v2 : Value} {x : Int32} {Ls st : List Value} {h : AH} : ev L xs mdX7_addPost 150 (v0 :: v1 :: v2 :: .int x :: Ls) (st) h = ev L xs mdX7_addPost 151 (v0 :: v1 :: v2 :: .int x :: Ls) (.int x :: st) (h) := e_iload_n dX7_addPost_150 rfl
theorem iX7_addPost_151  {Ls st : List Value} {h : AH} : ev L xs mdX7_addPost 151 (Ls) (st) h = ev L xs mdX7_addPost 153 (Ls) (.int (nI 7) :: st) (h) := e_bipush dX7_addPost_151 (by decide)
theorem iX7_addPost_153  {Ls st : List Value} {h : AH} : ev L xs mdX7_addPost 153 (Ls) (st) h = ev L xs mdX7_addPost 154 (Ls) (.int (-1) :: st) (h) := e_iconst dX7_addPost_153 (by decide)
theorem iX7_addPost_154 {p0 : Nat} {p1 : Int32} {p2 : Int32} {p3 : Int32} {Ls st : List Value} {h : AH} (hw : wds st ≤ 8) : ev L xs mdX7_addPost 154 Ls (.int p3 :: .int p2 :: .int p1 :: .ref p0 :: st) h = kn L xs mdX7_addPost 154 157 Ls st (ev L xs mdX7_put 0 [.ref p0, .int p1, .int p2, .int p3] [] h) := e_callS (as := [.int p3, .int p2, .int p1, .ref p0]) dX7_addPost_154 mr_7_100 (by decide) (by decide) rfl (by simp [wds, Value.category]; decide) rfl hw
theorem iX7_addPost_157 {x : Nat} {Ls st : List Value} {h : AH} : ev L xs mdX7_addPost 157 (.ref x :: Ls) (st) h = ev L xs mdX7_addPost 158 (.ref x :: Ls) (.ref x :: st) (h) := e_aload_n dX7_addPost_157 rfl
theorem iX7_addPost_158 {a : Nat} {Ls st : List Value} {h : AH} (hk : hK h a = 7) (hj : (hR h 113 a).isSome = true) : ev L xs mdX7_addPost 158 (Ls) (.ref a :: st) h = ev L xs mdX7_addPost 161 (Ls) (.ref ((hR h 113 a).getD 0) :: st) (h) := e_getR (k := 7) (f := 1) (F := 113) dX7_addPost_158 (by decide +kernel) rfl rfl hk hj
theorem iX7_addPost_161 {v0 : Value} {v1 : Value} {v2 : Value} {x : Int32} {Ls st : List Value} {h : AH} : ev L xs mdX7_addPost 161 (v0 :: v1 :: v2 :: .int x :: Ls) (st) h = ev L xs mdX7_addPost 162 (v0 :: v1 :: v2 :: .int x :: Ls) (.int x :: st) (h) := e_iload_n dX7_addPost_161 rfl
theorem iX7_addPost_162  {Ls st : List Value} {h : AH} : ev L xs mdX7_addPost 162 (Ls) (st) h = ev L xs mdX7_addPost 164 (Ls) (.int (nI 8) :: st) (h) := e_bipush dX7_addPost_162 (by decide)
theorem iX7_addPost_164  {Ls st : List Value} {h : AH} : ev L xs mdX7_addPost 164 (Ls) (st) h = ev L xs mdX7_addPost 165 (Ls) (.int (nI 0) :: st) (h) := e_iconst dX7_addPost_164 (by decide)
theorem iX7_addPost_165 {p0 : Nat} {p1 : Int32} {p2 : Int32} {p3 : Int32} {Ls st : List Value} {h : AH} (hw : wds st ≤ 8) : ev L xs mdX7_addPost 165 Ls (.int p3 :: .int p2 :: .int p1 :: .ref p0 :: st) h = kn L xs mdX7_addPost 165 168 Ls st (ev L xs mdX7_put 0 [.ref p0, .int p1, .int p2, .int p3] [] h) := e_callS (as := [.int p3, .int p2, .int p1, .ref p0]) dX7_addPost_165 mr_7_100 (by decide) (by decide) rfl (by simp [wds, Value.category]; decide) rfl hw
theorem iX7_addPost_168 {v0 : Value} {v1 : Value} {v2 : Value} {x : Int32} {Ls st : List Value} {h : AH} : ev L xs mdX7_addPost 168 (v0 :: v1 :: v2 :: .int x :: Ls) (st) h = ev L xs mdX7_addPost 169 (v0 :: v1 :: v2 :: .int x :: Ls) (.int x :: st) (h) := e_iload_n dX7_addPost_168 rfl
theorem iX7_addPost_169 {v : Int32} {Ls : List Value} {h : AH} : ev L xs mdX7_addPost 169 Ls [.int v] h = some (.inl (some (.int v), h)) := e_iret dX7_addPost_169 rfl
theorem dX7_addTo_0 : decode cX7_addTo 0 = .ok (.aload_n 0, 1) := by decide +kernel
theorem dX7_addTo_1 : decode cX7_addTo 1 = .ok (.iconst 4, 1) := by decide +kernel
theorem dX7_addTo_2 : decode cX7_addTo 2 = .ok (.iaload, 1) := by decide +kernel
theorem dX7_addTo_3 : decode cX7_addTo 3 = .ok (.istore 4, 2) := by decide +kernel
theorem dX7_addTo_5 : decode cX7_addTo 5 = .ok (.aload_n 0, 1) := by decide +kernel
theorem dX7_addTo_6 : decode cX7_addTo 6 = .ok (.iconst 4, 1) := by decide +kernel
theorem dX7_addTo_7 : decode cX7_addTo 7 = .ok (.dup2, 1) := by decide +kernel
theorem dX7_addTo_8 : decode cX7_addTo 8 = .ok (.iaload, 1) := by decide +kernel
theorem dX7_addTo_9 : decode cX7_addTo 9 = .ok (.iconst 1, 1) := by decide +kernel
theorem dX7_addTo_10 : decode cX7_addTo 10 = .ok (.iadd, 1) := by decide +kernel
theorem dX7_addTo_11 : decode cX7_addTo 11 = .ok (.iastore, 1) := by decide +kernel
theorem dX7_addTo_12 : decode cX7_addTo 12 = .ok (.iconst 0, 1) := by decide +kernel
theorem dX7_addTo_13 : decode cX7_addTo 13 = .ok (.istore 5, 2) := by decide +kernel
theorem dX7_addTo_15 : decode cX7_addTo 15 = .ok (.iload 5, 2) := by decide +kernel
theorem dX7_addTo_17 : decode cX7_addTo 17 = .ok (.bipush 9, 2) := by decide +kernel
theorem dX7_addTo_19 : decode cX7_addTo 19 = .ok (.if_icmp .ge 18, 3) := by decide +kernel
theorem dX7_addTo_22 : decode cX7_addTo 22 = .ok (.aload_n 0, 1) := by decide +kernel
theorem dX7_addTo_23 : decode cX7_addTo 23 = .ok (.iload 4, 2) := by decide +kernel
theorem dX7_addTo_25 : decode cX7_addTo 25 = .ok (.iload 5, 2) := by decide +kernel
theorem dX7_addTo_27 : decode cX7_addTo 27 = .ok (.iconst 0, 1) := by decide +kernel
theorem dX7_addTo_28 : decode cX7_addTo 28 = .ok (.invokestatic 84, 3) := by decide +kernel
theorem dX7_addTo_31 : decode cX7_addTo 31 = .ok (.iinc 5 1, 3) := by decide +kernel
theorem dX7_addTo_34 : decode cX7_addTo 34 = .ok (.goto (-19), 3) := by decide +kernel
theorem dX7_addTo_37 : decode cX7_addTo 37 = .ok (.aload_n 0, 1) := by decide +kernel
theorem dX7_addTo_38 : decode cX7_addTo 38 = .ok (.iload 4, 2) := by decide +kernel
theorem dX7_addTo_40 : decode cX7_addTo 40 = .ok (.iconst 0, 1) := by decide +kernel
theorem dX7_addTo_41 : decode cX7_addTo 41 = .ok (.iload_n 1, 1) := by decide +kernel
theorem dX7_addTo_42 : decode cX7_addTo 42 = .ok (.invokestatic 84, 3) := by decide +kernel
theorem dX7_addTo_45 : decode cX7_addTo 45 = .ok (.aload_n 0, 1) := by decide +kernel
theorem dX7_addTo_46 : decode cX7_addTo 46 = .ok (.iload 4, 2) := by decide +kernel
theorem dX7_addTo_48 : decode cX7_addTo 48 = .ok (.iconst 1, 1) := by decide +kernel
theorem dX7_addTo_49 : decode cX7_addTo 49 = .ok (.iload_n 2, 1) := by decide +kernel
theorem dX7_addTo_50 : decode cX7_addTo 50 = .ok (.invokestatic 84, 3) := by decide +kernel
theorem dX7_addTo_53 : decode cX7_addTo 53 = .ok (.aload_n 0, 1) := by decide +kernel
theorem dX7_addTo_54 : decode cX7_addTo 54 = .ok (.iload 4, 2) := by decide +kernel
theorem dX7_addTo_56 : decode cX7_addTo 56 = .ok (.iconst 2, 1) := by decide +kernel
theorem dX7_addTo_57 : decode cX7_addTo 57 = .ok (.iload_n 3, 1) := by decide +kernel
theorem dX7_addTo_58 : decode cX7_addTo 58 = .ok (.invokestatic 84, 3) := by decide +kernel
theorem dX7_addTo_61 : decode cX7_addTo 61 = .ok (.return_, 1) := by decide +kernel
theorem iX7_addTo_0 {x : Nat} {Ls st : List Value} {h : AH} : ev L xs mdX7_addTo 0 (.ref x :: Ls) (st) h = ev L xs mdX7_addTo 1 (.ref x :: Ls) (.ref x :: st) (h) := e_aload_n dX7_addTo_0 rfl
theorem iX7_addTo_1  {Ls st : List Value} {h : AH} : ev L xs mdX7_addTo 1 (Ls) (st) h = ev L xs mdX7_addTo 2 (Ls) (.int (nI 4) :: st) (h) := e_iconst dX7_addTo_1 (by decide)
theorem iX7_addTo_2 {a : Nat} {j : Int32} {Ls st : List Value} {h : AH} (hk : hK h a = 8) (hi : inA j (hN h a) = true) : ev L xs mdX7_addTo 2 (Ls) (.int j :: .ref a :: st) h = ev L xs mdX7_addTo 3 (Ls) (.int (hA h a j.toNatClampNeg) :: st) (h) := e_iald dX7_addTo_2 hk hi
theorem iX7_addTo_3 {v0 : Value} {v1 : Value} {v2 : Value} {v3 : Value} {v4 : Value} {x : Int32} {Ls st : List Value} {h : AH} (hc9 : v3.category = 1) : ev L xs mdX7_addTo 3 (v0 :: v1 :: v2 :: v3 :: v4 :: Ls) (.int x :: st) h = ev L xs mdX7_addTo 5 (v0 :: v1 :: v2 :: v3 :: .int x :: Ls) (st) (h) := e_istore dX7_addTo_3 rfl (by decide) (by unfold catOK; show (_ || (v3.category == 1)) = true; rw [hc9]; rfl)
theorem iX7_addTo_5 {x : Nat} {Ls st : List Value} {h : AH} : ev L xs mdX7_addTo 5 (.ref x :: Ls) (st) h = ev L xs mdX7_addTo 6 (.ref x :: Ls) (.ref x :: st) (h) := e_aload_n dX7_addTo_5 rfl
theorem iX7_addTo_6  {Ls st : List Value} {h : AH} : ev L xs mdX7_addTo 6 (Ls) (st) h = ev L xs mdX7_addTo 7 (Ls) (.int (nI 4) :: st) (h) := e_iconst dX7_addTo_6 (by decide)
theorem iX7_addTo_7 {a : Nat} {j : Int32} {Ls st : List Value} {h : AH} : ev L xs mdX7_addTo 7 (Ls) (.int j :: .ref a :: st) h = ev L xs mdX7_addTo 8 (Ls) (.int j :: .ref a :: .int j :: .ref a :: st) (h) := e_dup2 dX7_addTo_7 rfl rfl
theorem iX7_addTo_8 {a : Nat} {j : Int32} {Ls st : List Value} {h : AH} (hk : hK h a = 8) (hi : inA j (hN h a) = true) : ev L xs mdX7_addTo 8 (Ls) (.int j :: .ref a :: st) h = ev L xs mdX7_addTo 9 (Ls) (.int (hA h a j.toNatClampNeg) :: st) (h) := e_iald dX7_addTo_8 hk hi
theorem iX7_addTo_9  {Ls st : List Value} {h : AH} : ev L xs mdX7_addTo 9 (Ls) (st) h = ev L xs mdX7_addTo 10 (Ls) (.int (nI 1) :: st) (h) := e_iconst dX7_addTo_9 (by decide)
theorem iX7_addTo_10 {x z : Int32} {Ls st : List Value} {h : AH} : ev L xs mdX7_addTo 10 (Ls) (.int z :: .int x :: st) h = ev L xs mdX7_addTo 11 (Ls) (.int (x + z) :: st) (h) := e_iadd dX7_addTo_10
theorem iX7_addTo_11 {a : Nat} {j : Int32} {v : Int32} {Ls st : List Value} {h : AH} (hk : hK h a = 8) (hi : inA j (hN h a) = true) : ev L xs mdX7_addTo 11 (Ls) (.int v :: .int j :: .ref a :: st) h = ev L xs mdX7_addTo 12 (Ls) (st) (sA h a j.toNatClampNeg v) := e_iast dX7_addTo_11 hk hi
theorem iX7_addTo_12  {Ls st : List Value} {h : AH} : ev L xs mdX7_addTo 12 (Ls) (st) h = ev L xs mdX7_addTo 13 (Ls) (.int (nI 0) :: st) (h) := e_iconst dX7_addTo_12 (by decide)
theorem iX7_addTo_13 {v0 : Value} {v1 : Value} {v2 : Value} {v3 : Value} {v4 : Value} {v5 : Value} {x : Int32} {Ls st : List Value} {h : AH} (hc9 : v4.category = 1) : ev L xs mdX7_addTo 13 (v0 :: v1 :: v2 :: v3 :: v4 :: v5 :: Ls) (.int x :: st) h = ev L xs mdX7_addTo 15 (v0 :: v1 :: v2 :: v3 :: v4 :: .int x :: Ls) (st) (h) := e_istore dX7_addTo_13 rfl (by decide) (by unfold catOK; show (_ || (v4.category == 1)) = true; rw [hc9]; rfl)
theorem iX7_addTo_15 {v0 : Value} {v1 : Value} {v2 : Value} {v3 : Value} {v4 : Value} {x : Int32} {Ls st : List Value} {h : AH} : ev L xs mdX7_addTo 15 (v0 :: v1 :: v2 :: v3 :: v4 :: .int x :: Ls) (st) h = ev L xs mdX7_addTo 17 (v0 :: v1 :: v2 :: v3 :: v4 :: .int x :: Ls) (.int x :: st) (h) := e_iload dX7_addTo_15 rfl
theorem iX7_addTo_17  {Ls st : List Value} {h : AH} : ev L xs mdX7_addTo 17 (Ls) (st) h = ev L xs mdX7_addTo 19 (Ls) (.int (nI 9) :: st) (h) := e_bipush dX7_addTo_17 (by decide)
theorem iX7_addTo_19 {x z : Int32} {Ls st : List Value} {h : AH} : ev L xs mdX7_addTo 19 Ls (.int z :: .int x :: st) h = if z ≤ x then ev L xs mdX7_addTo 37 Ls st h else ev L xs mdX7_addTo 22 Ls st h := e_ic_ge dX7_addTo_19 (by decide)
theorem iX7_addTo_22 {x : Nat} {Ls st : List Value} {h : AH} : ev L xs mdX7_addTo 22 (.ref x :: Ls) (st) h = ev L xs mdX7_addTo 23 (.ref x :: Ls) (.ref x :: st) (h) := e_aload_n dX7_addTo_22 rfl
theorem iX7_addTo_23 {v0 : Value} {v1 : Value} {v2 : Value} {v3 : Value} {x : Int32} {Ls st : List Value} {h : AH} : ev L xs mdX7_addTo 23 (v0 :: v1 :: v2 :: v3 :: .int x :: Ls) (st) h = ev L xs mdX7_addTo 25 (v0 :: v1 :: v2 :: v3 :: .int x :: Ls) (.int x :: st) (h) := e_iload dX7_addTo_23 rfl
theorem iX7_addTo_25 {v0 : Value} {v1 : Value} {v2 : Value} {v3 : Value} {v4 : Value} {x : Int32} {Ls st : List Value} {h : AH} : ev L xs mdX7_addTo 25 (v0 :: v1 :: v2 :: v3 :: v4 :: .int x :: Ls) (st) h = ev L xs mdX7_addTo 27 (v0 :: v1 :: v2 :: v3 :: v4 :: .int x :: Ls) (.int x :: st) (h) := e_iload dX7_addTo_25 rfl
theorem iX7_addTo_27  {Ls st : List Value} {h : AH} : ev L xs mdX7_addTo 27 (Ls) (st) h = ev L xs mdX7_addTo 28 (Ls) (.int (nI 0) :: st) (h) := e_iconst dX7_addTo_27 (by decide)
theorem iX7_addTo_28 {p0 : Nat} {p1 : Int32} {p2 : Int32} {p3 : Int32} {Ls st : List Value} {h : AH} (hw : wds st ≤ 8) : ev L xs mdX7_addTo 28 Ls (.int p3 :: .int p2 :: .int p1 :: .ref p0 :: st) h = kn L xs mdX7_addTo 28 31 Ls st (ev L xs mdX7_give 0 [.ref p0, .int p1, .int p2, .int p3] [] h) := e_callS (as := [.int p3, .int p2, .int p1, .ref p0]) dX7_addTo_28 mr_7_84 (by decide) (by decide) rfl (by simp [wds, Value.category]; decide) rfl hw
theorem iX7_addTo_31 {v0 : Value} {v1 : Value} {v2 : Value} {v3 : Value} {v4 : Value} {x : Int32} {Ls st : List Value} {h : AH} (hc9 : v4.category = 1) : ev L xs mdX7_addTo 31 (v0 :: v1 :: v2 :: v3 :: v4 :: .int x :: Ls) (st) h = ev L xs mdX7_addTo 34 (v0 :: v1 :: v2 :: v3 :: v4 :: .int (x + (nI 1)) :: Ls) (st) (h) := e_iinc dX7_addTo_31 rfl rfl rfl (by decide) (by unfold catOK; show (_ || (v4.category == 1)) = true; rw [hc9]; rfl)
theorem iX7_addTo_34  {Ls st : List Value} {h : AH} : ev L xs mdX7_addTo 34 (Ls) (st) h = ev L xs mdX7_addTo 15 (Ls) (st) (h) := e_goto dX7_addTo_34 (by decide)
theorem iX7_addTo_37 {x : Nat} {Ls st : List Value} {h : AH} : ev L xs mdX7_addTo 37 (.ref x :: Ls) (st) h = ev L xs mdX7_addTo 38 (.ref x :: Ls) (.ref x :: st) (h) := e_aload_n dX7_addTo_37 rfl
theorem iX7_addTo_38 {v0 : Value} {v1 : Value} {v2 : Value} {v3 : Value} {x : Int32} {Ls st : List Value} {h : AH} : ev L xs mdX7_addTo 38 (v0 :: v1 :: v2 :: v3 :: .int x :: Ls) (st) h = ev L xs mdX7_addTo 40 (v0 :: v1 :: v2 :: v3 :: .int x :: Ls) (.int x :: st) (h) := e_iload dX7_addTo_38 rfl
theorem iX7_addTo_40  {Ls st : List Value} {h : AH} : ev L xs mdX7_addTo 40 (Ls) (st) h = ev L xs mdX7_addTo 41 (Ls) (.int (nI 0) :: st) (h) := e_iconst dX7_addTo_40 (by decide)
theorem iX7_addTo_41 {v0 : Value} {x : Int32} {Ls st : List Value} {h : AH} : ev L xs mdX7_addTo 41 (v0 :: .int x :: Ls) (st) h = ev L xs mdX7_addTo 42 (v0 :: .int x :: Ls) (.int x :: st) (h) := e_iload_n dX7_addTo_41 rfl
theorem iX7_addTo_42 {p0 : Nat} {p1 : Int32} {p2 : Int32} {p3 : Int32} {Ls st : List Value} {h : AH} (hw : wds st ≤ 8) : ev L xs mdX7_addTo 42 Ls (.int p3 :: .int p2 :: .int p1 :: .ref p0 :: st) h = kn L xs mdX7_addTo 42 45 Ls st (ev L xs mdX7_give 0 [.ref p0, .int p1, .int p2, .int p3] [] h) := e_callS (as := [.int p3, .int p2, .int p1, .ref p0]) dX7_addTo_42 mr_7_84 (by decide) (by decide) rfl (by simp [wds, Value.category]; decide) rfl hw
theorem iX7_addTo_45 {x : Nat} {Ls st : List Value} {h : AH} : ev L xs mdX7_addTo 45 (.ref x :: Ls) (st) h = ev L xs mdX7_addTo 46 (.ref x :: Ls) (.ref x :: st) (h) := e_aload_n dX7_addTo_45 rfl
theorem iX7_addTo_46 {v0 : Value} {v1 : Value} {v2 : Value} {v3 : Value} {x : Int32} {Ls st : List Value} {h : AH} : ev L xs mdX7_addTo 46 (v0 :: v1 :: v2 :: v3 :: .int x :: Ls) (st) h = ev L xs mdX7_addTo 48 (v0 :: v1 :: v2 :: v3 :: .int x :: Ls) (.int x :: st) (h) := e_iload dX7_addTo_46 rfl
theorem iX7_addTo_48  {Ls st : List Value} {h : AH} : ev L xs mdX7_addTo 48 (Ls) (st) h = ev L xs mdX7_addTo 49 (Ls) (.int (nI 1) :: st) (h) := e_iconst dX7_addTo_48 (by decide)
theorem iX7_addTo_49 {v0 : Value} {v1 : Value} {x : Int32} {Ls st : List Value} {h : AH} : ev L xs mdX7_addTo 49 (v0 :: v1 :: .int x :: Ls) (st) h = ev L xs mdX7_addTo 50 (v0 :: v1 :: .int x :: Ls) (.int x :: st) (h) := e_iload_n dX7_addTo_49 rfl
theorem iX7_addTo_50 {p0 : Nat} {p1 : Int32} {p2 : Int32} {p3 : Int32} {Ls st : List Value} {h : AH} (hw : wds st ≤ 8) : ev L xs mdX7_addTo 50 Ls (.int p3 :: .int p2 :: .int p1 :: .ref p0 :: st) h = kn L xs mdX7_addTo 50 53 Ls st (ev L xs mdX7_give 0 [.ref p0, .int p1, .int p2, .int p3] [] h) := e_callS (as := [.int p3, .int p2, .int p1, .ref p0]) dX7_addTo_50 mr_7_84 (by decide) (by decide) rfl (by simp [wds, Value.category]; decide) rfl hw
theorem iX7_addTo_53 {x : Nat} {Ls st : List Value} {h : AH} : ev L xs mdX7_addTo 53 (.ref x :: Ls) (st) h = ev L xs mdX7_addTo 54 (.ref x :: Ls) (.ref x :: st) (h) := e_aload_n dX7_addTo_53 rfl
theorem iX7_addTo_54 {v0 : Value} {v1 : Value} {v2 : Value} {v3 : Value} {x : Int32} {Ls st : List Value} {h : AH} : ev L xs mdX7_addTo 54 (v0 :: v1 :: v2 :: v3 :: .int x :: Ls) (st) h = ev L xs mdX7_addTo 56 (v0 :: v1 :: v2 :: v3 :: .int x :: Ls) (.int x :: st) (h) := e_iload dX7_addTo_54 rfl
theorem iX7_addTo_56  {Ls st : List Value} {h : AH} : ev L xs mdX7_addTo 56 (Ls) (st) h = ev L xs mdX7_addTo 57 (Ls) (.int (nI 2) :: st) (h) := e_iconst dX7_addTo_56 (by decide)
theorem iX7_addTo_57 {v0 : Value} {v1 : Value} {v2 : Value} {x : Int32} {Ls st : List Value} {h : AH} : ev L xs mdX7_addTo 57 (v0 :: v1 :: v2 :: .int x :: Ls) (st) h = ev L xs mdX7_addTo 58 (v0 :: v1 :: v2 :: .int x :: Ls) (.int x :: st) (h) := e_iload_n dX7_addTo_57 rfl
theorem iX7_addTo_58 {p0 : Nat} {p1 : Int32} {p2 : Int32} {p3 : Int32} {Ls st : List Value} {h : AH} (hw : wds st ≤ 8) : ev L xs mdX7_addTo 58 Ls (.int p3 :: .int p2 :: .int p1 :: .ref p0 :: st) h = kn L xs mdX7_addTo 58 61 Ls st (ev L xs mdX7_give 0 [.ref p0, .int p1, .int p2, .int p3] [] h) := e_callS (as := [.int p3, .int p2, .int p1, .ref p0]) dX7_addTo_58 mr_7_84 (by decide) (by decide) rfl (by simp [wds, Value.category]; decide) rfl hw
theorem iX7_addTo_61 {Ls : List Value} {h : AH} : ev L xs mdX7_addTo 61 Ls [] h = some (.inl (none, h)) := e_vret dX7_addTo_61 rfl
theorem dX7_append_0 : decode cX7_append 0 = .ok (.aload_n 0, 1) := by decide +kernel
theorem dX7_append_1 : decode cX7_append 1 = .ok (.iload_n 1, 1) := by decide +kernel
theorem dX7_append_2 : decode cX7_append 2 = .ok (.iconst 0, 1) := by decide +kernel
theorem dX7_append_3 : decode cX7_append 3 = .ok (.bipush 127, 2) := by decide +kernel
theorem dX7_append_5 : decode cX7_append 5 = .ok (.invokestatic 44, 3) := by decide +kernel
theorem dX7_append_8 : decode cX7_append 8 = .ok (.ifCond .ne 7, 3) := by decide +kernel
theorem dX7_append_11 : decode cX7_append 11 = .ok (.iconst 1, 1) := by decide +kernel
theorem dX7_append_12 : decode cX7_append 12 = .ok (.goto 17, 3) := by decide +kernel
theorem dX7_append_15 : decode cX7_append 15 = .ok (.aload_n 0, 1) := by decide +kernel
theorem dX7_append_16 : decode cX7_append 16 = .ok (.getfield 165, 3) := by decide +kernel
theorem dX7_append_19 : decode cX7_append 19 = .ok (.bipush 90, 2) := by decide +kernel
theorem dX7_append_21 : decode cX7_append 21 = .ok (.if_icmp .ne 7, 3) := by decide +kernel
theorem dX7_append_24 : decode cX7_append 24 = .ok (.iconst 2, 1) := by decide +kernel
theorem dX7_append_25 : decode cX7_append 25 = .ok (.goto 4, 3) := by decide +kernel
theorem dX7_append_28 : decode cX7_append 28 = .ok (.iconst 0, 1) := by decide +kernel
theorem dX7_append_29 : decode cX7_append 29 = .ok (.putfield 34, 3) := by decide +kernel
theorem dX7_append_32 : decode cX7_append 32 = .ok (.aload_n 0, 1) := by decide +kernel
theorem dX7_append_33 : decode cX7_append 33 = .ok (.getfield 34, 3) := by decide +kernel
theorem dX7_append_36 : decode cX7_append 36 = .ok (.ifCond .le 5, 3) := by decide +kernel
theorem dX7_append_39 : decode cX7_append 39 = .ok (.iconst 0, 1) := by decide +kernel
theorem dX7_append_40 : decode cX7_append 40 = .ok (.ireturn, 1) := by decide +kernel
theorem dX7_append_41 : decode cX7_append 41 = .ok (.aload_n 0, 1) := by decide +kernel
theorem dX7_append_42 : decode cX7_append 42 = .ok (.getfield 19, 3) := by decide +kernel
theorem dX7_append_45 : decode cX7_append 45 = .ok (.aload_n 0, 1) := by decide +kernel
theorem dX7_append_46 : decode cX7_append 46 = .ok (.getfield 165, 3) := by decide +kernel
theorem dX7_append_49 : decode cX7_append 49 = .ok (.iload_n 1, 1) := by decide +kernel
theorem dX7_append_50 : decode cX7_append 50 = .ok (.iastore, 1) := by decide +kernel
theorem dX7_append_51 : decode cX7_append 51 = .ok (.aload_n 0, 1) := by decide +kernel
theorem dX7_append_52 : decode cX7_append 52 = .ok (.dup, 1) := by decide +kernel
theorem dX7_append_53 : decode cX7_append 53 = .ok (.getfield 165, 3) := by decide +kernel
theorem dX7_append_56 : decode cX7_append 56 = .ok (.iconst 1, 1) := by decide +kernel
theorem dX7_append_57 : decode cX7_append 57 = .ok (.iadd, 1) := by decide +kernel
theorem dX7_append_58 : decode cX7_append 58 = .ok (.putfield 165, 3) := by decide +kernel
theorem dX7_append_61 : decode cX7_append 61 = .ok (.aload_n 0, 1) := by decide +kernel
theorem dX7_append_62 : decode cX7_append 62 = .ok (.getfield 165, 3) := by decide +kernel
theorem dX7_append_65 : decode cX7_append 65 = .ok (.ireturn, 1) := by decide +kernel
theorem iX7_append_0 {x : Nat} {Ls st : List Value} {h : AH} : ev L xs mdX7_append 0 (.ref x :: Ls) (st) h = ev L xs mdX7_append 1 (.ref x :: Ls) (.ref x :: st) (h) := e_aload_n dX7_append_0 rfl
theorem iX7_append_1 {v0 : Value} {x : Int32} {Ls st : List Value} {h : AH} : ev L xs mdX7_append 1 (v0 :: .int x :: Ls) (st) h = ev L xs mdX7_append 2 (v0 :: .int x :: Ls) (.int x :: st) (h) := e_iload_n dX7_append_1 rfl
theorem iX7_append_2  {Ls st : List Value} {h : AH} : ev L xs mdX7_append 2 (Ls) (st) h = ev L xs mdX7_append 3 (Ls) (.int (nI 0) :: st) (h) := e_iconst dX7_append_2 (by decide)
theorem iX7_append_3  {Ls st : List Value} {h : AH} : ev L xs mdX7_append 3 (Ls) (st) h = ev L xs mdX7_append 5 (Ls) (.int (nI 127) :: st) (h) := e_bipush dX7_append_3 (by decide)
theorem iX7_append_5 {p0 : Int32} {p1 : Int32} {p2 : Int32} {Ls st : List Value} {h : AH} (hw : wds st ≤ 8) : ev L xs mdX7_append 5 Ls (.int p2 :: .int p1 :: .int p0 :: st) h = kn L xs mdX7_append 5 8 Ls st (ev L xs mdX7_in 0 [.int p0, .int p1, .int p2] [] h) := e_callS (as := [.int p2, .int p1, .int p0]) dX7_append_5 mr_7_44 (by decide) (by decide) rfl (by simp [wds, Value.category]; decide) rfl hw
theorem iX7_append_8 {x : Int32} {Ls st : List Value} {h : AH} : ev L xs mdX7_append 8 Ls (.int x :: st) h = if x = nI 0 then ev L xs mdX7_append 11 Ls st h else ev L xs mdX7_append 15 Ls st h := e_if_ne dX7_append_8 (by decide)
theorem iX7_append_11  {Ls st : List Value} {h : AH} : ev L xs mdX7_append 11 (Ls) (st) h = ev L xs mdX7_append 12 (Ls) (.int (nI 1) :: st) (h) := e_iconst dX7_append_11 (by decide)
theorem iX7_append_12  {Ls st : List Value} {h : AH} : ev L xs mdX7_append 12 (Ls) (st) h = ev L xs mdX7_append 29 (Ls) (st) (h) := e_goto dX7_append_12 (by decide)
theorem iX7_append_15 {x : Nat} {Ls st : List Value} {h : AH} : ev L xs mdX7_append 15 (.ref x :: Ls) (st) h = ev L xs mdX7_append 16 (.ref x :: Ls) (.ref x :: st) (h) := e_aload_n dX7_append_15 rfl
theorem iX7_append_16 {a : Nat} {Ls st : List Value} {h : AH} (hk : hK h a = 7) : ev L xs mdX7_append 16 (Ls) (.ref a :: st) h = ev L xs mdX7_append 19 (Ls) (.int (hI h 118 a) :: st) (h) := e_getI (k := 7) (f := 6) (F := 118) dX7_append_16 (by decide +kernel) rfl rfl hk
theorem iX7_append_19  {Ls st : List Value} {h : AH} : ev L xs mdX7_append 19 (Ls) (st) h = ev L xs mdX7_append 21 (Ls) (.int (nI 90) :: st) (h) := e_bipush dX7_append_19 (by decide)
theorem iX7_append_21 {x z : Int32} {Ls st : List Value} {h : AH} : ev L xs mdX7_append 21 Ls (.int z :: .int x :: st) h = if x = z then ev L xs mdX7_append 24 Ls st h else ev L xs mdX7_append 28 Ls st h := e_ic_ne dX7_append_21 (by decide)
theorem iX7_append_24  {Ls st : List Value} {h : AH} : ev L xs mdX7_append 24 (Ls) (st) h = ev L xs mdX7_append 25 (Ls) (.int (nI 2) :: st) (h) := e_iconst dX7_append_24 (by decide)
theorem iX7_append_25  {Ls st : List Value} {h : AH} : ev L xs mdX7_append 25 (Ls) (st) h = ev L xs mdX7_append 29 (Ls) (st) (h) := e_goto dX7_append_25 (by decide)
theorem iX7_append_28  {Ls st : List Value} {h : AH} : ev L xs mdX7_append 28 (Ls) (st) h = ev L xs mdX7_append 29 (Ls) (.int (nI 0) :: st) (h) := e_iconst dX7_append_28 (by decide)
theorem iX7_append_29 {a : Nat} {v : Int32} {Ls st : List Value} {h : AH} (hk : hK h a = 7) : ev L xs mdX7_append 29 (Ls) (.int v :: .ref a :: st) h = ev L xs mdX7_append 32 (Ls) (st) (sI h 112 a v) := e_putI (k := 7) (f := 0) (F := 112) dX7_append_29 (by decide +kernel) rfl (by decide +kernel) rfl hk
theorem iX7_append_32 {x : Nat} {Ls st : List Value} {h : AH} : ev L xs mdX7_append 32 (.ref x :: Ls) (st) h = ev L xs mdX7_append 33 (.ref x :: Ls) (.ref x :: st) (h) := e_aload_n dX7_append_32 rfl
theorem iX7_append_33 {a : Nat} {Ls st : List Value} {h : AH} (hk : hK h a = 7) : ev L xs mdX7_append 33 (Ls) (.ref a :: st) h = ev L xs mdX7_append 36 (Ls) (.int (hI h 112 a) :: st) (h) := e_getI (k := 7) (f := 0) (F := 112) dX7_append_33 (by decide +kernel) rfl rfl hk
theorem iX7_append_36 {x : Int32} {Ls st : List Value} {h : AH} : ev L xs mdX7_append 36 Ls (.int x :: st) h = if x ≤ nI 0 then ev L xs mdX7_append 41 Ls st h else ev L xs mdX7_append 39 Ls st h := e_if_le dX7_append_36 (by decide)
theorem iX7_append_39  {Ls st : List Value} {h : AH} : ev L xs mdX7_append 39 (Ls) (st) h = ev L xs mdX7_append 40 (Ls) (.int (nI 0) :: st) (h) := e_iconst dX7_append_39 (by decide)
theorem iX7_append_40 {v : Int32} {Ls : List Value} {h : AH} : ev L xs mdX7_append 40 Ls [.int v] h = some (.inl (some (.int v), h)) := e_iret dX7_append_40 rfl
theorem iX7_append_41 {x : Nat} {Ls st : List Value} {h : AH} : ev L xs mdX7_append 41 (.ref x :: Ls) (st) h = ev L xs mdX7_append 42 (.ref x :: Ls) (.ref x :: st) (h) := e_aload_n dX7_append_41 rfl
theorem iX7_append_42 {a : Nat} {Ls st : List Value} {h : AH} (hk : hK h a = 7) (hj : (hR h 117 a).isSome = true) : ev L xs mdX7_append 42 (Ls) (.ref a :: st) h = ev L xs mdX7_append 45 (Ls) (.ref ((hR h 117 a).getD 0) :: st) (h) := e_getR (k := 7) (f := 5) (F := 117) dX7_append_42 (by decide +kernel) rfl rfl hk hj
theorem iX7_append_45 {x : Nat} {Ls st : List Value} {h : AH} : ev L xs mdX7_append 45 (.ref x :: Ls) (st) h = ev L xs mdX7_append 46 (.ref x :: Ls) (.ref x :: st) (h) := e_aload_n dX7_append_45 rfl
theorem iX7_append_46 {a : Nat} {Ls st : List Value} {h : AH} (hk : hK h a = 7) : ev L xs mdX7_append 46 (Ls) (.ref a :: st) h = ev L xs mdX7_append 49 (Ls) (.int (hI h 118 a) :: st) (h) := e_getI (k := 7) (f := 6) (F := 118) dX7_append_46 (by decide +kernel) rfl rfl hk
theorem iX7_append_49 {v0 : Value} {x : Int32} {Ls st : List Value} {h : AH} : ev L xs mdX7_append 49 (v0 :: .int x :: Ls) (st) h = ev L xs mdX7_append 50 (v0 :: .int x :: Ls) (.int x :: st) (h) := e_iload_n dX7_append_49 rfl
theorem iX7_append_50 {a : Nat} {j : Int32} {v : Int32} {Ls st : List Value} {h : AH} (hk : hK h a = 8) (hi : inA j (hN h a) = true) : ev L xs mdX7_append 50 (Ls) (.int v :: .int j :: .ref a :: st) h = ev L xs mdX7_append 51 (Ls) (st) (sA h a j.toNatClampNeg v) := e_iast dX7_append_50 hk hi
theorem iX7_append_51 {x : Nat} {Ls st : List Value} {h : AH} : ev L xs mdX7_append 51 (.ref x :: Ls) (st) h = ev L xs mdX7_append 52 (.ref x :: Ls) (.ref x :: st) (h) := e_aload_n dX7_append_51 rfl
theorem iX7_append_52 {a : Nat} {Ls st : List Value} {h : AH} : ev L xs mdX7_append 52 (Ls) (.ref a :: st) h = ev L xs mdX7_append 53 (Ls) (.ref a :: .ref a :: st) (h) := e_dup dX7_append_52 rfl
theorem iX7_append_52i {a : Int32} {Ls st : List Value} {h : AH} : ev L xs mdX7_append 52 (Ls) (.int a :: st) h = ev L xs mdX7_append 53 (Ls) (.int a :: .int a :: st) (h) := e_dup dX7_append_52 rfl
theorem iX7_append_53 {a : Nat} {Ls st : List Value} {h : AH} (hk : hK h a = 7) : ev L xs mdX7_append 53 (Ls) (.ref a :: st) h = ev L xs mdX7_append 56 (Ls) (.int (hI h 118 a) :: st) (h) := e_getI (k := 7) (f := 6) (F := 118) dX7_append_53 (by decide +kernel) rfl rfl hk
theorem iX7_append_56  {Ls st : List Value} {h : AH} : ev L xs mdX7_append 56 (Ls) (st) h = ev L xs mdX7_append 57 (Ls) (.int (nI 1) :: st) (h) := e_iconst dX7_append_56 (by decide)
theorem iX7_append_57 {x z : Int32} {Ls st : List Value} {h : AH} : ev L xs mdX7_append 57 (Ls) (.int z :: .int x :: st) h = ev L xs mdX7_append 58 (Ls) (.int (x + z) :: st) (h) := e_iadd dX7_append_57
theorem iX7_append_58 {a : Nat} {v : Int32} {Ls st : List Value} {h : AH} (hk : hK h a = 7) : ev L xs mdX7_append 58 (Ls) (.int v :: .ref a :: st) h = ev L xs mdX7_append 61 (Ls) (st) (sI h 118 a v) := e_putI (k := 7) (f := 6) (F := 118) dX7_append_58 (by decide +kernel) rfl (by decide +kernel) rfl hk
theorem iX7_append_61 {x : Nat} {Ls st : List Value} {h : AH} : ev L xs mdX7_append 61 (.ref x :: Ls) (st) h = ev L xs mdX7_append 62 (.ref x :: Ls) (.ref x :: st) (h) := e_aload_n dX7_append_61 rfl
theorem iX7_append_62 {a : Nat} {Ls st : List Value} {h : AH} (hk : hK h a = 7) : ev L xs mdX7_append 62 (Ls) (.ref a :: st) h = ev L xs mdX7_append 65 (Ls) (.int (hI h 118 a) :: st) (h) := e_getI (k := 7) (f := 6) (F := 118) dX7_append_62 (by decide +kernel) rfl rfl hk
theorem iX7_append_65 {v : Int32} {Ls : List Value} {h : AH} : ev L xs mdX7_append 65 Ls [.int v] h = some (.inl (some (.int v), h)) := e_iret dX7_append_65 rfl
theorem dX7_best_0 : decode cX7_best 0 = .ok (.aload_n 0, 1) := by decide +kernel
theorem dX7_best_1 : decode cX7_best 1 = .ok (.iload_n 1, 1) := by decide +kernel
theorem dX7_best_2 : decode cX7_best 2 = .ok (.iload_n 2, 1) := by decide +kernel
theorem dX7_best_3 : decode cX7_best 3 = .ok (.invokestatic 150, 3) := by decide +kernel
theorem dX7_best_6 : decode cX7_best 6 = .ok (.ifCond .eq 16, 3) := by decide +kernel
theorem dX7_best_9 : decode cX7_best 9 = .ok (.iload_n 3, 1) := by decide +kernel
theorem dX7_best_10 : decode cX7_best 10 = .ok (.iconst 0, 1) := by decide +kernel
theorem dX7_best_11 : decode cX7_best 11 = .ok (.iconst 1, 1) := by decide +kernel
theorem dX7_best_12 : decode cX7_best 12 = .ok (.invokestatic 44, 3) := by decide +kernel
theorem dX7_best_15 : decode cX7_best 15 = .ok (.ifCond .eq 7, 3) := by decide +kernel
theorem dX7_best_18 : decode cX7_best 18 = .ok (.iconst 0, 1) := by decide +kernel
theorem dX7_best_19 : decode cX7_best 19 = .ok (.goto 4, 3) := by decide +kernel
theorem dX7_best_22 : decode cX7_best 22 = .ok (.iconst 1, 1) := by decide +kernel
theorem dX7_best_23 : decode cX7_best 23 = .ok (.putfield 34, 3) := by decide +kernel
theorem dX7_best_26 : decode cX7_best 26 = .ok (.aload_n 0, 1) := by decide +kernel
theorem dX7_best_27 : decode cX7_best 27 = .ok (.getfield 34, 3) := by decide +kernel
theorem dX7_best_30 : decode cX7_best 30 = .ok (.ifCond .le 5, 3) := by decide +kernel
theorem dX7_best_33 : decode cX7_best 33 = .ok (.iconst 0, 1) := by decide +kernel
theorem dX7_best_34 : decode cX7_best 34 = .ok (.ireturn, 1) := by decide +kernel
theorem dX7_best_35 : decode cX7_best 35 = .ok (.aload_n 0, 1) := by decide +kernel
theorem dX7_best_36 : decode cX7_best 36 = .ok (.aload_n 0, 1) := by decide +kernel
theorem dX7_best_37 : decode cX7_best 37 = .ok (.getfield 7, 3) := by decide +kernel
theorem dX7_best_40 : decode cX7_best 40 = .ok (.iload_n 1, 1) := by decide +kernel
theorem dX7_best_41 : decode cX7_best 41 = .ok (.iload_n 2, 1) := by decide +kernel
theorem dX7_best_42 : decode cX7_best 42 = .ok (.invokevirtual 73, 3) := by decide +kernel
theorem dX7_best_45 : decode cX7_best 45 = .ok (.aload_n 0, 1) := by decide +kernel
theorem dX7_best_46 : decode cX7_best 46 = .ok (.iload_n 1, 1) := by decide +kernel
theorem dX7_best_47 : decode cX7_best 47 = .ok (.iload_n 2, 1) := by decide +kernel
theorem dX7_best_48 : decode cX7_best 48 = .ok (.invokevirtual 155, 3) := by decide +kernel
theorem dX7_best_51 : decode cX7_best 51 = .ok (.iconst 0, 1) := by decide +kernel
theorem dX7_best_52 : decode cX7_best 52 = .ok (.istore 4, 2) := by decide +kernel
theorem dX7_best_54 : decode cX7_best 54 = .ok (.iconst 0, 1) := by decide +kernel
theorem dX7_best_55 : decode cX7_best 55 = .ok (.istore 5, 2) := by decide +kernel
theorem dX7_best_57 : decode cX7_best 57 = .ok (.iload 5, 2) := by decide +kernel
theorem dX7_best_59 : decode cX7_best 59 = .ok (.aload_n 0, 1) := by decide +kernel
theorem dX7_best_60 : decode cX7_best 60 = .ok (.getfield 7, 3) := by decide +kernel
theorem dX7_best_63 : decode cX7_best 63 = .ok (.iconst 3, 1) := by decide +kernel
theorem dX7_best_64 : decode cX7_best 64 = .ok (.iaload, 1) := by decide +kernel
theorem dX7_best_65 : decode cX7_best 65 = .ok (.if_icmp .ge 44, 3) := by decide +kernel
theorem dX7_best_68 : decode cX7_best 68 = .ok (.iload 4, 2) := by decide +kernel
theorem dX7_best_70 : decode cX7_best 70 = .ok (.aload_n 0, 1) := by decide +kernel
theorem dX7_best_71 : decode cX7_best 71 = .ok (.getfield 22, 3) := by decide +kernel
theorem dX7_best_74 : decode cX7_best 74 = .ok (.iload 5, 2) := by decide +kernel
theorem dX7_best_76 : decode cX7_best 76 = .ok (.iaload, 1) := by decide +kernel
theorem dX7_best_77 : decode cX7_best 77 = .ok (.iconst (-1), 1) := by decide +kernel
theorem dX7_best_78 : decode cX7_best 78 = .ok (.if_icmp .ne 21, 3) := by decide +kernel
theorem dX7_best_81 : decode cX7_best 81 = .ok (.aload_n 0, 1) := by decide +kernel
theorem dX7_best_82 : decode cX7_best 82 = .ok (.getfield 7, 3) := by decide +kernel
theorem dX7_best_85 : decode cX7_best 85 = .ok (.iload 5, 2) := by decide +kernel
theorem dX7_best_87 : decode cX7_best 87 = .ok (.iload_n 1, 1) := by decide +kernel
theorem dX7_best_88 : decode cX7_best 88 = .ok (.iload_n 2, 1) := by decide +kernel
theorem dX7_best_89 : decode cX7_best 89 = .ok (.invokestatic 63, 3) := by decide +kernel
theorem dX7_best_92 : decode cX7_best 92 = .ok (.ifCond .eq 7, 3) := by decide +kernel
theorem dX7_best_95 : decode cX7_best 95 = .ok (.iconst 1, 1) := by decide +kernel
theorem dX7_best_96 : decode cX7_best 96 = .ok (.goto 4, 3) := by decide +kernel
theorem dX7_best_99 : decode cX7_best 99 = .ok (.iconst 0, 1) := by decide +kernel
theorem dX7_best_100 : decode cX7_best 100 = .ok (.iadd, 1) := by decide +kernel
theorem dX7_best_101 : decode cX7_best 101 = .ok (.istore 4, 2) := by decide +kernel
theorem dX7_best_103 : decode cX7_best 103 = .ok (.iinc 5 1, 3) := by decide +kernel
theorem dX7_best_106 : decode cX7_best 106 = .ok (.goto (-49), 3) := by decide +kernel
theorem dX7_best_109 : decode cX7_best 109 = .ok (.iconst 0, 1) := by decide +kernel
theorem dX7_best_110 : decode cX7_best 110 = .ok (.istore 5, 2) := by decide +kernel
theorem dX7_best_112 : decode cX7_best 112 = .ok (.iconst 1, 1) := by decide +kernel
theorem dX7_best_113 : decode cX7_best 113 = .ok (.istore 6, 2) := by decide +kernel
theorem dX7_best_115 : decode cX7_best 115 = .ok (.iload 6, 2) := by decide +kernel
theorem dX7_best_117 : decode cX7_best 117 = .ok (.sipush 256, 3) := by decide +kernel
theorem dX7_best_120 : decode cX7_best 120 = .ok (.if_icmp .ge 85, 3) := by decide +kernel
theorem dX7_best_123 : decode cX7_best 123 = .ok (.iload 6, 2) := by decide +kernel
theorem dX7_best_125 : decode cX7_best 125 = .ok (.invokestatic 96, 3) := by decide +kernel
theorem dX7_best_128 : decode cX7_best 128 = .ok (.iload 5, 2) := by decide +kernel
theorem dX7_best_130 : decode cX7_best 130 = .ok (.invokestatic 96, 3) := by decide +kernel
theorem dX7_best_133 : decode cX7_best 133 = .ok (.if_icmp .gt 33, 3) := by decide +kernel
theorem dX7_best_136 : decode cX7_best 136 = .ok (.iload 6, 2) := by decide +kernel
theorem dX7_best_138 : decode cX7_best 138 = .ok (.invokestatic 96, 3) := by decide +kernel
theorem dX7_best_141 : decode cX7_best 141 = .ok (.iload 5, 2) := by decide +kernel
theorem dX7_best_143 : decode cX7_best 143 = .ok (.invokestatic 96, 3) := by decide +kernel
theorem dX7_best_146 : decode cX7_best 146 = .ok (.if_icmp .ne 24, 3) := by decide +kernel
theorem dX7_best_149 : decode cX7_best 149 = .ok (.aload_n 0, 1) := by decide +kernel
theorem dX7_best_150 : decode cX7_best 150 = .ok (.getfield 31, 3) := by decide +kernel
theorem dX7_best_153 : decode cX7_best 153 = .ok (.iload 6, 2) := by decide +kernel
theorem dX7_best_155 : decode cX7_best 155 = .ok (.iaload, 1) := by decide +kernel
theorem dX7_best_156 : decode cX7_best 156 = .ok (.aload_n 0, 1) := by decide +kernel
theorem dX7_best_157 : decode cX7_best 157 = .ok (.getfield 31, 3) := by decide +kernel
theorem dX7_best_160 : decode cX7_best 160 = .ok (.iload 5, 2) := by decide +kernel
theorem dX7_best_162 : decode cX7_best 162 = .ok (.iaload, 1) := by decide +kernel
theorem dX7_best_163 : decode cX7_best 163 = .ok (.if_icmp .ge 7, 3) := by decide +kernel
theorem dX7_best_166 : decode cX7_best 166 = .ok (.iconst 1, 1) := by decide +kernel
theorem dX7_best_167 : decode cX7_best 167 = .ok (.goto 4, 3) := by decide +kernel
theorem dX7_best_170 : decode cX7_best 170 = .ok (.iconst 0, 1) := by decide +kernel
theorem dX7_best_171 : decode cX7_best 171 = .ok (.istore 7, 2) := by decide +kernel
theorem dX7_best_173 : decode cX7_best 173 = .ok (.aload_n 0, 1) := by decide +kernel
theorem dX7_best_174 : decode cX7_best 174 = .ok (.getfield 31, 3) := by decide +kernel
theorem dX7_best_177 : decode cX7_best 177 = .ok (.iload 6, 2) := by decide +kernel
theorem dX7_best_179 : decode cX7_best 179 = .ok (.iaload, 1) := by decide +kernel
theorem dX7_best_180 : decode cX7_best 180 = .ok (.ldc 154, 2) := by decide +kernel
theorem dX7_best_182 : decode cX7_best 182 = .ok (.if_icmp .ge 13, 3) := by decide +kernel
theorem dX7_best_185 : decode cX7_best 185 = .ok (.iload 7, 2) := by decide +kernel
theorem dX7_best_187 : decode cX7_best 187 = .ok (.ifCond .eq 8, 3) := by decide +kernel
theorem dX7_best_190 : decode cX7_best 190 = .ok (.iload 6, 2) := by decide +kernel
theorem dX7_best_192 : decode cX7_best 192 = .ok (.goto 5, 3) := by decide +kernel
theorem dX7_best_195 : decode cX7_best 195 = .ok (.iload 5, 2) := by decide +kernel
theorem dX7_best_197 : decode cX7_best 197 = .ok (.istore 5, 2) := by decide +kernel
theorem dX7_best_199 : decode cX7_best 199 = .ok (.iinc 6 1, 3) := by decide +kernel
theorem dX7_best_202 : decode cX7_best 202 = .ok (.goto (-87), 3) := by decide +kernel
theorem dX7_best_205 : decode cX7_best 205 = .ok (.iload_n 3, 1) := by decide +kernel
theorem dX7_best_206 : decode cX7_best 206 = .ok (.ifCond .ne 14, 3) := by decide +kernel
theorem dX7_best_209 : decode cX7_best 209 = .ok (.iload 4, 2) := by decide +kernel
theorem dX7_best_211 : decode cX7_best 211 = .ok (.iload 5, 2) := by decide +kernel
theorem dX7_best_213 : decode cX7_best 213 = .ok (.invokestatic 96, 3) := by decide +kernel
theorem dX7_best_216 : decode cX7_best 216 = .ok (.isub, 1) := by decide +kernel
theorem dX7_best_217 : decode cX7_best 217 = .ok (.goto 10, 3) := by decide +kernel
theorem dX7_best_220 : decode cX7_best 220 = .ok (.aload_n 0, 1) := by decide +kernel
theorem dX7_best_221 : decode cX7_best 221 = .ok (.getfield 31, 3) := by decide +kernel
theorem dX7_best_224 : decode cX7_best 224 = .ok (.iload 5, 2) := by decide +kernel
theorem dX7_best_226 : decode cX7_best 226 = .ok (.iaload, 1) := by decide +kernel
theorem dX7_best_227 : decode cX7_best 227 = .ok (.ireturn, 1) := by decide +kernel
theorem iX7_best_0 {x : Nat} {Ls st : List Value} {h : AH} : ev L xs mdX7_best 0 (.ref x :: Ls) (st) h = ev L xs mdX7_best 1 (.ref x :: Ls) (.ref x :: st) (h) := e_aload_n dX7_best_0 rfl
theorem iX7_best_1 {v0 : Value} {x : Int32} {Ls st : List Value} {h : AH} : ev L xs mdX7_best 1 (v0 :: .int x :: Ls) (st) h = ev L xs mdX7_best 2 (v0 :: .int x :: Ls) (.int x :: st) (h) := e_iload_n dX7_best_1 rfl
theorem iX7_best_2 {v0 : Value} {v1 : Value} {x : Int32} {Ls st : List Value} {h : AH} : ev L xs mdX7_best 2 (v0 :: v1 :: .int x :: Ls) (st) h = ev L xs mdX7_best 3 (v0 :: v1 :: .int x :: Ls) (.int x :: st) (h) := e_iload_n dX7_best_2 rfl
theorem iX7_best_3 {p0 : Int32} {p1 : Int32} {Ls st : List Value} {h : AH} (hw : wds st ≤ 8) : ev L xs mdX7_best 3 Ls (.int p1 :: .int p0 :: st) h = kn L xs mdX7_best 3 6 Ls st (ev L xs mdX7_isTime 0 [.int p0, .int p1] [] h) := e_callS (as := [.int p1, .int p0]) dX7_best_3 mr_7_150 (by decide) (by decide) rfl (by simp [wds, Value.category]; decide) rfl hw
theorem iX7_best_6 {x : Int32} {Ls st : List Value} {h : AH} : ev L xs mdX7_best 6 Ls (.int x :: st) h = if x = nI 0 then ev L xs mdX7_best 22 Ls st h else ev L xs mdX7_best 9 Ls st h := e_if_eq dX7_best_6 (by decide)
theorem iX7_best_9 {v0 : Value} {v1 : Value} {v2 : Value} {x : Int32} {Ls st : List Value} {h : AH} : ev L xs mdX7_best 9 (v0 :: v1 :: v2 :: .int x :: Ls) (st) h = ev L xs mdX7_best 10 (v0 :: v1 :: v2 :: .int x :: Ls) (.int x :: st) (h) := e_iload_n dX7_best_9 rfl
theorem iX7_best_10  {Ls st : List Value} {h : AH} : ev L xs mdX7_best 10 (Ls) (st) h = ev L xs mdX7_best 11 (Ls) (.int (nI 0) :: st) (h) := e_iconst dX7_best_10 (by decide)
theorem iX7_best_11  {Ls st : List Value} {h : AH} : ev L xs mdX7_best 11 (Ls) (st) h = ev L xs mdX7_best 12 (Ls) (.int (nI 1) :: st) (h) := e_iconst dX7_best_11 (by decide)
theorem iX7_best_12 {p0 : Int32} {p1 : Int32} {p2 : Int32} {Ls st : List Value} {h : AH} (hw : wds st ≤ 8) : ev L xs mdX7_best 12 Ls (.int p2 :: .int p1 :: .int p0 :: st) h = kn L xs mdX7_best 12 15 Ls st (ev L xs mdX7_in 0 [.int p0, .int p1, .int p2] [] h) := e_callS (as := [.int p2, .int p1, .int p0]) dX7_best_12 mr_7_44 (by decide) (by decide) rfl (by simp [wds, Value.category]; decide) rfl hw
theorem iX7_best_15 {x : Int32} {Ls st : List Value} {h : AH} : ev L xs mdX7_best 15 Ls (.int x :: st) h = if x = nI 0 then ev L xs mdX7_best 22 Ls st h else ev L xs mdX7_best 18 Ls st h := e_if_eq dX7_best_15 (by decide)
theorem iX7_best_18  {Ls st : List Value} {h : AH} : ev L xs mdX7_best 18 (Ls) (st) h = ev L xs mdX7_best 19 (Ls) (.int (nI 0) :: st) (h) := e_iconst dX7_best_18 (by decide)
theorem iX7_best_19  {Ls st : List Value} {h : AH} : ev L xs mdX7_best 19 (Ls) (st) h = ev L xs mdX7_best 23 (Ls) (st) (h) := e_goto dX7_best_19 (by decide)
theorem iX7_best_22  {Ls st : List Value} {h : AH} : ev L xs mdX7_best 22 (Ls) (st) h = ev L xs mdX7_best 23 (Ls) (.int (nI 1) :: st) (h) := e_iconst dX7_best_22 (by decide)
theorem iX7_best_23 {a : Nat} {v : Int32} {Ls st : List Value} {h : AH} (hk : hK h a = 7) : ev L xs mdX7_best 23 (Ls) (.int v :: .ref a :: st) h = ev L xs mdX7_best 26 (Ls) (st) (sI h 112 a v) := e_putI (k := 7) (f := 0) (F := 112) dX7_best_23 (by decide +kernel) rfl (by decide +kernel) rfl hk
theorem iX7_best_26 {x : Nat} {Ls st : List Value} {h : AH} : ev L xs mdX7_best 26 (.ref x :: Ls) (st) h = ev L xs mdX7_best 27 (.ref x :: Ls) (.ref x :: st) (h) := e_aload_n dX7_best_26 rfl
theorem iX7_best_27 {a : Nat} {Ls st : List Value} {h : AH} (hk : hK h a = 7) : ev L xs mdX7_best 27 (Ls) (.ref a :: st) h = ev L xs mdX7_best 30 (Ls) (.int (hI h 112 a) :: st) (h) := e_getI (k := 7) (f := 0) (F := 112) dX7_best_27 (by decide +kernel) rfl rfl hk
theorem iX7_best_30 {x : Int32} {Ls st : List Value} {h : AH} : ev L xs mdX7_best 30 Ls (.int x :: st) h = if x ≤ nI 0 then ev L xs mdX7_best 35 Ls st h else ev L xs mdX7_best 33 Ls st h := e_if_le dX7_best_30 (by decide)
theorem iX7_best_33  {Ls st : List Value} {h : AH} : ev L xs mdX7_best 33 (Ls) (st) h = ev L xs mdX7_best 34 (Ls) (.int (nI 0) :: st) (h) := e_iconst dX7_best_33 (by decide)
theorem iX7_best_34 {v : Int32} {Ls : List Value} {h : AH} : ev L xs mdX7_best 34 Ls [.int v] h = some (.inl (some (.int v), h)) := e_iret dX7_best_34 rfl
theorem iX7_best_35 {x : Nat} {Ls st : List Value} {h : AH} : ev L xs mdX7_best 35 (.ref x :: Ls) (st) h = ev L xs mdX7_best 36 (.ref x :: Ls) (.ref x :: st) (h) := e_aload_n dX7_best_35 rfl
theorem iX7_best_36 {x : Nat} {Ls st : List Value} {h : AH} : ev L xs mdX7_best 36 (.ref x :: Ls) (st) h = ev L xs mdX7_best 37 (.ref x :: Ls) (.ref x :: st) (h) := e_aload_n dX7_best_36 rfl
theorem iX7_best_37 {a : Nat} {Ls st : List Value} {h : AH} (hk : hK h a = 7) (hj : (hR h 113 a).isSome = true) : ev L xs mdX7_best 37 (Ls) (.ref a :: st) h = ev L xs mdX7_best 40 (Ls) (.ref ((hR h 113 a).getD 0) :: st) (h) := e_getR (k := 7) (f := 1) (F := 113) dX7_best_37 (by decide +kernel) rfl rfl hk hj
theorem iX7_best_40 {v0 : Value} {x : Int32} {Ls st : List Value} {h : AH} : ev L xs mdX7_best 40 (v0 :: .int x :: Ls) (st) h = ev L xs mdX7_best 41 (v0 :: .int x :: Ls) (.int x :: st) (h) := e_iload_n dX7_best_40 rfl
theorem iX7_best_41 {v0 : Value} {v1 : Value} {x : Int32} {Ls st : List Value} {h : AH} : ev L xs mdX7_best 41 (v0 :: v1 :: .int x :: Ls) (st) h = ev L xs mdX7_best 42 (v0 :: v1 :: .int x :: Ls) (.int x :: st) (h) := e_iload_n dX7_best_41 rfl
theorem iX7_best_42 {a : Nat} {p0 : Nat} {p1 : Int32} {p2 : Int32} {Ls st : List Value} {h : AH} (hk : hK h a = 7) (hw : wds st ≤ 8) : ev L xs mdX7_best 42 Ls (.int p2 :: .int p1 :: .ref p0 :: .ref a :: st) h = kn L xs mdX7_best 42 45 Ls st (ev L xs mdX7_standAtOwn 0 [.ref a, .ref p0, .int p1, .int p2, .null, .null] [] h) := e_callV (as := [.int p2, .int p1, .ref p0]) dX7_best_42 mr_7_73 (by decide) (by decide) rfl (by simp [wds, Value.category]; decide) rfl (by decide) hk hw
theorem iX7_best_45 {x : Nat} {Ls st : List Value} {h : AH} : ev L xs mdX7_best 45 (.ref x :: Ls) (st) h = ev L xs mdX7_best 46 (.ref x :: Ls) (.ref x :: st) (h) := e_aload_n dX7_best_45 rfl
theorem iX7_best_46 {v0 : Value} {x : Int32} {Ls st : List Value} {h : AH} : ev L xs mdX7_best 46 (v0 :: .int x :: Ls) (st) h = ev L xs mdX7_best 47 (v0 :: .int x :: Ls) (.int x :: st) (h) := e_iload_n dX7_best_46 rfl
theorem iX7_best_47 {v0 : Value} {v1 : Value} {x : Int32} {Ls st : List Value} {h : AH} : ev L xs mdX7_best 47 (v0 :: v1 :: .int x :: Ls) (st) h = ev L xs mdX7_best 48 (v0 :: v1 :: .int x :: Ls) (.int x :: st) (h) := e_iload_n dX7_best_47 rfl
theorem iX7_best_48 {a : Nat} {p0 : Int32} {p1 : Int32} {Ls st : List Value} {h : AH} (hk : hK h a = 7) (hw : wds st ≤ 8) : ev L xs mdX7_best 48 Ls (.int p1 :: .int p0 :: .ref a :: st) h = kn L xs mdX7_best 48 51 Ls st (ev L xs mdX7_reckonSums 0 [.ref a, .int p0, .int p1, .null, .null, .null, .null, .null, .null] [] h) := e_callV (as := [.int p1, .int p0]) dX7_best_48 mr_7_155 (by decide) (by decide) rfl (by simp [wds, Value.category]; decide) rfl (by decide) hk hw
theorem iX7_best_51  {Ls st : List Value} {h : AH} : ev L xs mdX7_best 51 (Ls) (st) h = ev L xs mdX7_best 52 (Ls) (.int (nI 0) :: st) (h) := e_iconst dX7_best_51 (by decide)
theorem iX7_best_52 {v0 : Value} {v1 : Value} {v2 : Value} {v3 : Value} {v4 : Value} {x : Int32} {Ls st : List Value} {h : AH} (hc9 : v3.category = 1) : ev L xs mdX7_best 52 (v0 :: v1 :: v2 :: v3 :: v4 :: Ls) (.int x :: st) h = ev L xs mdX7_best 54 (v0 :: v1 :: v2 :: v3 :: .int x :: Ls) (st) (h) := e_istore dX7_best_52 rfl (by decide) (by unfold catOK; show (_ || (v3.category == 1)) = true; rw [hc9]; rfl)
theorem iX7_best_54  {Ls st : List Value} {h : AH} : ev L xs mdX7_best 54 (Ls) (st) h = ev L xs mdX7_best 55 (Ls) (.int (nI 0) :: st) (h) := e_iconst dX7_best_54 (by decide)
theorem iX7_best_55 {v0 : Value} {v1 : Value} {v2 : Value} {v3 : Value} {v4 : Value} {v5 : Value} {x : Int32} {Ls st : List Value} {h : AH} (hc9 : v4.category = 1) : ev L xs mdX7_best 55 (v0 :: v1 :: v2 :: v3 :: v4 :: v5 :: Ls) (.int x :: st) h = ev L xs mdX7_best 57 (v0 :: v1 :: v2 :: v3 :: v4 :: .int x :: Ls) (st) (h) := e_istore dX7_best_55 rfl (by decide) (by unfold catOK; show (_ || (v4.category == 1)) = true; rw [hc9]; rfl)
theorem iX7_best_57 {v0 : Value} {v1 : Value} {v2 : Value} {v3 : Value} {v4 : Value} {x : Int32} {Ls st : List Value} {h : AH} : ev L xs mdX7_best 57 (v0 :: v1 :: v2 :: v3 :: v4 :: .int x :: Ls) (st) h = ev L xs mdX7_best 59 (v0 :: v1 :: v2 :: v3 :: v4 :: .int x :: Ls) (.int x :: st) (h) := e_iload dX7_best_57 rfl
theorem iX7_best_59 {x : Nat} {Ls st : List Value} {h : AH} : ev L xs mdX7_best 59 (.ref x :: Ls) (st) h = ev L xs mdX7_best 60 (.ref x :: Ls) (.ref x :: st) (h) := e_aload_n dX7_best_59 rfl
theorem iX7_best_60 {a : Nat} {Ls st : List Value} {h : AH} (hk : hK h a = 7) (hj : (hR h 113 a).isSome = true) : ev L xs mdX7_best 60 (Ls) (.ref a :: st) h = ev L xs mdX7_best 63 (Ls) (.ref ((hR h 113 a).getD 0) :: st) (h) := e_getR (k := 7) (f := 1) (F := 113) dX7_best_60 (by decide +kernel) rfl rfl hk hj
theorem iX7_best_63  {Ls st : List Value} {h : AH} : ev L xs mdX7_best 63 (Ls) (st) h = ev L xs mdX7_best 64 (Ls) (.int (nI 3) :: st) (h) := e_iconst dX7_best_63 (by decide)
theorem iX7_best_64 {a : Nat} {j : Int32} {Ls st : List Value} {h : AH} (hk : hK h a = 8) (hi : inA j (hN h a) = true) : ev L xs mdX7_best 64 (Ls) (.int j :: .ref a :: st) h = ev L xs mdX7_best 65 (Ls) (.int (hA h a j.toNatClampNeg) :: st) (h) := e_iald dX7_best_64 hk hi
theorem iX7_best_65 {x z : Int32} {Ls st : List Value} {h : AH} : ev L xs mdX7_best 65 Ls (.int z :: .int x :: st) h = if z ≤ x then ev L xs mdX7_best 109 Ls st h else ev L xs mdX7_best 68 Ls st h := e_ic_ge dX7_best_65 (by decide)
theorem iX7_best_68 {v0 : Value} {v1 : Value} {v2 : Value} {v3 : Value} {x : Int32} {Ls st : List Value} {h : AH} : ev L xs mdX7_best 68 (v0 :: v1 :: v2 :: v3 :: .int x :: Ls) (st) h = ev L xs mdX7_best 70 (v0 :: v1 :: v2 :: v3 :: .int x :: Ls) (.int x :: st) (h) := e_iload dX7_best_68 rfl
theorem iX7_best_70 {x : Nat} {Ls st : List Value} {h : AH} : ev L xs mdX7_best 70 (.ref x :: Ls) (st) h = ev L xs mdX7_best 71 (.ref x :: Ls) (.ref x :: st) (h) := e_aload_n dX7_best_70 rfl
theorem iX7_best_71 {a : Nat} {Ls st : List Value} {h : AH} (hk : hK h a = 7) (hj : (hR h 119 a).isSome = true) : ev L xs mdX7_best 71 (Ls) (.ref a :: st) h = ev L xs mdX7_best 74 (Ls) (.ref ((hR h 119 a).getD 0) :: st) (h) := e_getR (k := 7) (f := 7) (F := 119) dX7_best_71 (by decide +kernel) rfl rfl hk hj
theorem iX7_best_74 {v0 : Value} {v1 : Value} {v2 : Value} {v3 : Value} {v4 : Value} {x : Int32} {Ls st : List Value} {h : AH} : ev L xs mdX7_best 74 (v0 :: v1 :: v2 :: v3 :: v4 :: .int x :: Ls) (st) h = ev L xs mdX7_best 76 (v0 :: v1 :: v2 :: v3 :: v4 :: .int x :: Ls) (.int x :: st) (h) := e_iload dX7_best_74 rfl
theorem iX7_best_76 {a : Nat} {j : Int32} {Ls st : List Value} {h : AH} (hk : hK h a = 8) (hi : inA j (hN h a) = true) : ev L xs mdX7_best 76 (Ls) (.int j :: .ref a :: st) h = ev L xs mdX7_best 77 (Ls) (.int (hA h a j.toNatClampNeg) :: st) (h) := e_iald dX7_best_76 hk hi
theorem iX7_best_77  {Ls st : List Value} {h : AH} : ev L xs mdX7_best 77 (Ls) (st) h = ev L xs mdX7_best 78 (Ls) (.int (-1) :: st) (h) := e_iconst dX7_best_77 (by decide)
theorem iX7_best_78 {x z : Int32} {Ls st : List Value} {h : AH} : ev L xs mdX7_best 78 Ls (.int z :: .int x :: st) h = if x = z then ev L xs mdX7_best 81 Ls st h else ev L xs mdX7_best 99 Ls st h := e_ic_ne dX7_best_78 (by decide)
theorem iX7_best_81 {x : Nat} {Ls st : List Value} {h : AH} : ev L xs mdX7_best 81 (.ref x :: Ls) (st) h = ev L xs mdX7_best 82 (.ref x :: Ls) (.ref x :: st) (h) := e_aload_n dX7_best_81 rfl
theorem iX7_best_82 {a : Nat} {Ls st : List Value} {h : AH} (hk : hK h a = 7) (hj : (hR h 113 a).isSome = true) : ev L xs mdX7_best 82 (Ls) (.ref a :: st) h = ev L xs mdX7_best 85 (Ls) (.ref ((hR h 113 a).getD 0) :: st) (h) := e_getR (k := 7) (f := 1) (F := 113) dX7_best_82 (by decide +kernel) rfl rfl hk hj
theorem iX7_best_85 {v0 : Value} {v1 : Value} {v2 : Value} {v3 : Value} {v4 : Value} {x : Int32} {Ls st : List Value} {h : AH} : ev L xs mdX7_best 85 (v0 :: v1 :: v2 :: v3 :: v4 :: .int x :: Ls) (st) h = ev L xs mdX7_best 87 (v0 :: v1 :: v2 :: v3 :: v4 :: .int x :: Ls) (.int x :: st) (h) := e_iload dX7_best_85 rfl
theorem iX7_best_87 {v0 : Value} {x : Int32} {Ls st : List Value} {h : AH} : ev L xs mdX7_best 87 (v0 :: .int x :: Ls) (st) h = ev L xs mdX7_best 88 (v0 :: .int x :: Ls) (.int x :: st) (h) := e_iload_n dX7_best_87 rfl
theorem iX7_best_88 {v0 : Value} {v1 : Value} {x : Int32} {Ls st : List Value} {h : AH} : ev L xs mdX7_best 88 (v0 :: v1 :: .int x :: Ls) (st) h = ev L xs mdX7_best 89 (v0 :: v1 :: .int x :: Ls) (.int x :: st) (h) := e_iload_n dX7_best_88 rfl
theorem iX7_best_89 {p0 : Nat} {p1 : Int32} {p2 : Int32} {p3 : Int32} {Ls st : List Value} {h : AH} (hw : wds st ≤ 8) : ev L xs mdX7_best 89 Ls (.int p3 :: .int p2 :: .int p1 :: .ref p0 :: st) h = kn L xs mdX7_best 89 92 Ls st (ev L xs mdX7_isNeeded 0 [.ref p0, .int p1, .int p2, .int p3] [] h) := e_callS (as := [.int p3, .int p2, .int p1, .ref p0]) dX7_best_89 mr_7_63 (by decide) (by decide) rfl (by simp [wds, Value.category]; decide) rfl hw
theorem iX7_best_92 {x : Int32} {Ls st : List Value} {h : AH} : ev L xs mdX7_best 92 Ls (.int x :: st) h = if x = nI 0 then ev L xs mdX7_best 99 Ls st h else ev L xs mdX7_best 95 Ls st h := e_if_eq dX7_best_92 (by decide)
theorem iX7_best_95  {Ls st : List Value} {h : AH} : ev L xs mdX7_best 95 (Ls) (st) h = ev L xs mdX7_best 96 (Ls) (.int (nI 1) :: st) (h) := e_iconst dX7_best_95 (by decide)
theorem iX7_best_96  {Ls st : List Value} {h : AH} : ev L xs mdX7_best 96 (Ls) (st) h = ev L xs mdX7_best 100 (Ls) (st) (h) := e_goto dX7_best_96 (by decide)
theorem iX7_best_99  {Ls st : List Value} {h : AH} : ev L xs mdX7_best 99 (Ls) (st) h = ev L xs mdX7_best 100 (Ls) (.int (nI 0) :: st) (h) := e_iconst dX7_best_99 (by decide)
theorem iX7_best_100 {x z : Int32} {Ls st : List Value} {h : AH} : ev L xs mdX7_best 100 (Ls) (.int z :: .int x :: st) h = ev L xs mdX7_best 101 (Ls) (.int (x + z) :: st) (h) := e_iadd dX7_best_100
theorem iX7_best_101 {v0 : Value} {v1 : Value} {v2 : Value} {v3 : Value} {v4 : Value} {x : Int32} {Ls st : List Value} {h : AH} (hc9 : v3.category = 1) : ev L xs mdX7_best 101 (v0 :: v1 :: v2 :: v3 :: v4 :: Ls) (.int x :: st) h = ev L xs mdX7_best 103 (v0 :: v1 :: v2 :: v3 :: .int x :: Ls) (st) (h) := e_istore dX7_best_101 rfl (by decide) (by unfold catOK; show (_ || (v3.category == 1)) = true; rw [hc9]; rfl)
theorem iX7_best_103 {v0 : Value} {v1 : Value} {v2 : Value} {v3 : Value} {v4 : Value} {x : Int32} {Ls st : List Value} {h : AH} (hc9 : v4.category = 1) : ev L xs mdX7_best 103 (v0 :: v1 :: v2 :: v3 :: v4 :: .int x :: Ls) (st) h = ev L xs mdX7_best 106 (v0 :: v1 :: v2 :: v3 :: v4 :: .int (x + (nI 1)) :: Ls) (st) (h) := e_iinc dX7_best_103 rfl rfl rfl (by decide) (by unfold catOK; show (_ || (v4.category == 1)) = true; rw [hc9]; rfl)
theorem iX7_best_106  {Ls st : List Value} {h : AH} : ev L xs mdX7_best 106 (Ls) (st) h = ev L xs mdX7_best 57 (Ls) (st) (h) := e_goto dX7_best_106 (by decide)
theorem iX7_best_109  {Ls st : List Value} {h : AH} : ev L xs mdX7_best 109 (Ls) (st) h = ev L xs mdX7_best 110 (Ls) (.int (nI 0) :: st) (h) := e_iconst dX7_best_109 (by decide)
theorem iX7_best_110 {v0 : Value} {v1 : Value} {v2 : Value} {v3 : Value} {v4 : Value} {v5 : Value} {x : Int32} {Ls st : List Value} {h : AH} (hc9 : v4.category = 1) : ev L xs mdX7_best 110 (v0 :: v1 :: v2 :: v3 :: v4 :: v5 :: Ls) (.int x :: st) h = ev L xs mdX7_best 112 (v0 :: v1 :: v2 :: v3 :: v4 :: .int x :: Ls) (st) (h) := e_istore dX7_best_110 rfl (by decide) (by unfold catOK; show (_ || (v4.category == 1)) = true; rw [hc9]; rfl)
theorem iX7_best_112  {Ls st : List Value} {h : AH} : ev L xs mdX7_best 112 (Ls) (st) h = ev L xs mdX7_best 113 (Ls) (.int (nI 1) :: st) (h) := e_iconst dX7_best_112 (by decide)
theorem iX7_best_113 {v0 : Value} {v1 : Value} {v2 : Value} {v3 : Value} {v4 : Value} {v5 : Value} {v6 : Value} {x : Int32} {Ls st : List Value} {h : AH} (hc9 : v5.category = 1) : ev L xs mdX7_best 113 (v0 :: v1 :: v2 :: v3 :: v4 :: v5 :: v6 :: Ls) (.int x :: st) h = ev L xs mdX7_best 115 (v0 :: v1 :: v2 :: v3 :: v4 :: v5 :: .int x :: Ls) (st) (h) := e_istore dX7_best_113 rfl (by decide) (by unfold catOK; show (_ || (v5.category == 1)) = true; rw [hc9]; rfl)
theorem iX7_best_115 {v0 : Value} {v1 : Value} {v2 : Value} {v3 : Value} {v4 : Value} {v5 : Value} {x : Int32} {Ls st : List Value} {h : AH} : ev L xs mdX7_best 115 (v0 :: v1 :: v2 :: v3 :: v4 :: v5 :: .int x :: Ls) (st) h = ev L xs mdX7_best 117 (v0 :: v1 :: v2 :: v3 :: v4 :: v5 :: .int x :: Ls) (.int x :: st) (h) := e_iload dX7_best_115 rfl
theorem iX7_best_117  {Ls st : List Value} {h : AH} : ev L xs mdX7_best 117 (Ls) (st) h = ev L xs mdX7_best 120 (Ls) (.int (nI 256) :: st) (h) := e_sipush dX7_best_117 (by decide)
theorem iX7_best_120 {x z : Int32} {Ls st : List Value} {h : AH} : ev L xs mdX7_best 120 Ls (.int z :: .int x :: st) h = if z ≤ x then ev L xs mdX7_best 205 Ls st h else ev L xs mdX7_best 123 Ls st h := e_ic_ge dX7_best_120 (by decide)
theorem iX7_best_123 {v0 : Value} {v1 : Value} {v2 : Value} {v3 : Value} {v4 : Value} {v5 : Value} {x : Int32} {Ls st : List Value} {h : AH} : ev L xs mdX7_best 123 (v0 :: v1 :: v2 :: v3 :: v4 :: v5 :: .int x :: Ls) (st) h = ev L xs mdX7_best 125 (v0 :: v1 :: v2 :: v3 :: v4 :: v5 :: .int x :: Ls) (.int x :: st) (h) := e_iload dX7_best_123 rfl
theorem iX7_best_125 {p0 : Int32} {Ls st : List Value} {h : AH} (hw : wds st ≤ 8) : ev L xs mdX7_best 125 Ls (.int p0 :: st) h = kn L xs mdX7_best 125 128 Ls st (ev L xs mdX7_many 0 [.int p0, .null, .null] [] h) := e_callS (as := [.int p0]) dX7_best_125 mr_7_96 (by decide) (by decide) rfl (by simp [wds, Value.category]; decide) rfl hw
theorem iX7_best_128 {v0 : Value} {v1 : Value} {v2 : Value} {v3 : Value} {v4 : Value} {x : Int32} {Ls st : List Value} {h : AH} : ev L xs mdX7_best 128 (v0 :: v1 :: v2 :: v3 :: v4 :: .int x :: Ls) (st) h = ev L xs mdX7_best 130 (v0 :: v1 :: v2 :: v3 :: v4 :: .int x :: Ls) (.int x :: st) (h) := e_iload dX7_best_128 rfl
theorem iX7_best_130 {p0 : Int32} {Ls st : List Value} {h : AH} (hw : wds st ≤ 8) : ev L xs mdX7_best 130 Ls (.int p0 :: st) h = kn L xs mdX7_best 130 133 Ls st (ev L xs mdX7_many 0 [.int p0, .null, .null] [] h) := e_callS (as := [.int p0]) dX7_best_130 mr_7_96 (by decide) (by decide) rfl (by simp [wds, Value.category]; decide) rfl hw
theorem iX7_best_133 {x z : Int32} {Ls st : List Value} {h : AH} : ev L xs mdX7_best 133 Ls (.int z :: .int x :: st) h = if z < x then ev L xs mdX7_best 166 Ls st h else ev L xs mdX7_best 136 Ls st h := e_ic_gt dX7_best_133 (by decide)
theorem iX7_best_136 {v0 : Value} {v1 : Value} {v2 : Value} {v3 : Value} {v4 : Value} {v5 : Value} {x : Int32} {Ls st : List Value} {h : AH} : ev L xs mdX7_best 136 (v0 :: v1 :: v2 :: v3 :: v4 :: v5 :: .int x :: Ls) (st) h = ev L xs mdX7_best 138 (v0 :: v1 :: v2 :: v3 :: v4 :: v5 :: .int x :: Ls) (.int x :: st) (h) := e_iload dX7_best_136 rfl
theorem iX7_best_138 {p0 : Int32} {Ls st : List Value} {h : AH} (hw : wds st ≤ 8) : ev L xs mdX7_best 138 Ls (.int p0 :: st) h = kn L xs mdX7_best 138 141 Ls st (ev L xs mdX7_many 0 [.int p0, .null, .null] [] h) := e_callS (as := [.int p0]) dX7_best_138 mr_7_96 (by decide) (by decide) rfl (by simp [wds, Value.category]; decide) rfl hw
theorem iX7_best_141 {v0 : Value} {v1 : Value} {v2 : Value} {v3 : Value} {v4 : Value} {x : Int32} {Ls st : List Value} {h : AH} : ev L xs mdX7_best 141 (v0 :: v1 :: v2 :: v3 :: v4 :: .int x :: Ls) (st) h = ev L xs mdX7_best 143 (v0 :: v1 :: v2 :: v3 :: v4 :: .int x :: Ls) (.int x :: st) (h) := e_iload dX7_best_141 rfl
theorem iX7_best_143 {p0 : Int32} {Ls st : List Value} {h : AH} (hw : wds st ≤ 8) : ev L xs mdX7_best 143 Ls (.int p0 :: st) h = kn L xs mdX7_best 143 146 Ls st (ev L xs mdX7_many 0 [.int p0, .null, .null] [] h) := e_callS (as := [.int p0]) dX7_best_143 mr_7_96 (by decide) (by decide) rfl (by simp [wds, Value.category]; decide) rfl hw
theorem iX7_best_146 {x z : Int32} {Ls st : List Value} {h : AH} : ev L xs mdX7_best 146 Ls (.int z :: .int x :: st) h = if x = z then ev L xs mdX7_best 149 Ls st h else ev L xs mdX7_best 170 Ls st h := e_ic_ne dX7_best_146 (by decide)
theorem iX7_best_149 {x : Nat} {Ls st : List Value} {h : AH} : ev L xs mdX7_best 149 (.ref x :: Ls) (st) h = ev L xs mdX7_best 150 (.ref x :: Ls) (.ref x :: st) (h) := e_aload_n dX7_best_149 rfl
theorem iX7_best_150 {a : Nat} {Ls st : List Value} {h : AH} (hk : hK h a = 7) (hj : (hR h 123 a).isSome = true) : ev L xs mdX7_best 150 (Ls) (.ref a :: st) h = ev L xs mdX7_best 153 (Ls) (.ref ((hR h 123 a).getD 0) :: st) (h) := e_getR (k := 7) (f := 11) (F := 123) dX7_best_150 (by decide +kernel) rfl rfl hk hj
theorem iX7_best_153 {v0 : Value} {v1 : Value} {v2 : Value} {v3 : Value} {v4 : Value} {v5 : Value} {x : Int32} {Ls st : List Value} {h : AH} : ev L xs mdX7_best 153 (v0 :: v1 :: v2 :: v3 :: v4 :: v5 :: .int x :: Ls) (st) h = ev L xs mdX7_best 155 (v0 :: v1 :: v2 :: v3 :: v4 :: v5 :: .int x :: Ls) (.int x :: st) (h) := e_iload dX7_best_153 rfl
theorem iX7_best_155 {a : Nat} {j : Int32} {Ls st : List Value} {h : AH} (hk : hK h a = 8) (hi : inA j (hN h a) = true) : ev L xs mdX7_best 155 (Ls) (.int j :: .ref a :: st) h = ev L xs mdX7_best 156 (Ls) (.int (hA h a j.toNatClampNeg) :: st) (h) := e_iald dX7_best_155 hk hi
theorem iX7_best_156 {x : Nat} {Ls st : List Value} {h : AH} : ev L xs mdX7_best 156 (.ref x :: Ls) (st) h = ev L xs mdX7_best 157 (.ref x :: Ls) (.ref x :: st) (h) := e_aload_n dX7_best_156 rfl
theorem iX7_best_157 {a : Nat} {Ls st : List Value} {h : AH} (hk : hK h a = 7) (hj : (hR h 123 a).isSome = true) : ev L xs mdX7_best 157 (Ls) (.ref a :: st) h = ev L xs mdX7_best 160 (Ls) (.ref ((hR h 123 a).getD 0) :: st) (h) := e_getR (k := 7) (f := 11) (F := 123) dX7_best_157 (by decide +kernel) rfl rfl hk hj
theorem iX7_best_160 {v0 : Value} {v1 : Value} {v2 : Value} {v3 : Value} {v4 : Value} {x : Int32} {Ls st : List Value} {h : AH} : ev L xs mdX7_best 160 (v0 :: v1 :: v2 :: v3 :: v4 :: .int x :: Ls) (st) h = ev L xs mdX7_best 162 (v0 :: v1 :: v2 :: v3 :: v4 :: .int x :: Ls) (.int x :: st) (h) := e_iload dX7_best_160 rfl
theorem iX7_best_162 {a : Nat} {j : Int32} {Ls st : List Value} {h : AH} (hk : hK h a = 8) (hi : inA j (hN h a) = true) : ev L xs mdX7_best 162 (Ls) (.int j :: .ref a :: st) h = ev L xs mdX7_best 163 (Ls) (.int (hA h a j.toNatClampNeg) :: st) (h) := e_iald dX7_best_162 hk hi
theorem iX7_best_163 {x z : Int32} {Ls st : List Value} {h : AH} : ev L xs mdX7_best 163 Ls (.int z :: .int x :: st) h = if z ≤ x then ev L xs mdX7_best 170 Ls st h else ev L xs mdX7_best 166 Ls st h := e_ic_ge dX7_best_163 (by decide)
theorem iX7_best_166  {Ls st : List Value} {h : AH} : ev L xs mdX7_best 166 (Ls) (st) h = ev L xs mdX7_best 167 (Ls) (.int (nI 1) :: st) (h) := e_iconst dX7_best_166 (by decide)
theorem iX7_best_167  {Ls st : List Value} {h : AH} : ev L xs mdX7_best 167 (Ls) (st) h = ev L xs mdX7_best 171 (Ls) (st) (h) := e_goto dX7_best_167 (by decide)
theorem iX7_best_170  {Ls st : List Value} {h : AH} : ev L xs mdX7_best 170 (Ls) (st) h = ev L xs mdX7_best 171 (Ls) (.int (nI 0) :: st) (h) := e_iconst dX7_best_170 (by decide)
theorem iX7_best_171 {v0 : Value} {v1 : Value} {v2 : Value} {v3 : Value} {v4 : Value} {v5 : Value} {v6 : Value} {v7 : Value} {x : Int32} {Ls st : List Value} {h : AH} (hc9 : v6.category = 1) : ev L xs mdX7_best 171 (v0 :: v1 :: v2 :: v3 :: v4 :: v5 :: v6 :: v7 :: Ls) (.int x :: st) h = ev L xs mdX7_best 173 (v0 :: v1 :: v2 :: v3 :: v4 :: v5 :: v6 :: .int x :: Ls) (st) (h) := e_istore dX7_best_171 rfl (by decide) (by unfold catOK; show (_ || (v6.category == 1)) = true; rw [hc9]; rfl)
theorem iX7_best_173 {x : Nat} {Ls st : List Value} {h : AH} : ev L xs mdX7_best 173 (.ref x :: Ls) (st) h = ev L xs mdX7_best 174 (.ref x :: Ls) (.ref x :: st) (h) := e_aload_n dX7_best_173 rfl
theorem iX7_best_174 {a : Nat} {Ls st : List Value} {h : AH} (hk : hK h a = 7) (hj : (hR h 123 a).isSome = true) : ev L xs mdX7_best 174 (Ls) (.ref a :: st) h = ev L xs mdX7_best 177 (Ls) (.ref ((hR h 123 a).getD 0) :: st) (h) := e_getR (k := 7) (f := 11) (F := 123) dX7_best_174 (by decide +kernel) rfl rfl hk hj
theorem iX7_best_177 {v0 : Value} {v1 : Value} {v2 : Value} {v3 : Value} {v4 : Value} {v5 : Value} {x : Int32} {Ls st : List Value} {h : AH} : ev L xs mdX7_best 177 (v0 :: v1 :: v2 :: v3 :: v4 :: v5 :: .int x :: Ls) (st) h = ev L xs mdX7_best 179 (v0 :: v1 :: v2 :: v3 :: v4 :: v5 :: .int x :: Ls) (.int x :: st) (h) := e_iload dX7_best_177 rfl
theorem iX7_best_179 {a : Nat} {j : Int32} {Ls st : List Value} {h : AH} (hk : hK h a = 8) (hi : inA j (hN h a) = true) : ev L xs mdX7_best 179 (Ls) (.int j :: .ref a :: st) h = ev L xs mdX7_best 180 (Ls) (.int (hA h a j.toNatClampNeg) :: st) (h) := e_iald dX7_best_179 hk hi
theorem iX7_best_180  {Ls st : List Value} {h : AH} : ev L xs mdX7_best 180 (Ls) (st) h = ev L xs mdX7_best 182 (Ls) (.int (nI 100000) :: st) (h) := e_ldc dX7_best_180 (by decide +kernel)
theorem iX7_best_182 {x z : Int32} {Ls st : List Value} {h : AH} : ev L xs mdX7_best 182 Ls (.int z :: .int x :: st) h = if z ≤ x then ev L xs mdX7_best 195 Ls st h else ev L xs mdX7_best 185 Ls st h := e_ic_ge dX7_best_182 (by decide)
theorem iX7_best_185 {v0 : Value} {v1 : Value} {v2 : Value} {v3 : Value} {v4 : Value} {v5 : Value} {v6 : Value} {x : Int32} {Ls st : List Value} {h : AH} : ev L xs mdX7_best 185 (v0 :: v1 :: v2 :: v3 :: v4 :: v5 :: v6 :: .int x :: Ls) (st) h = ev L xs mdX7_best 187 (v0 :: v1 :: v2 :: v3 :: v4 :: v5 :: v6 :: .int x :: Ls) (.int x :: st) (h) := e_iload dX7_best_185 rfl
theorem iX7_best_187 {x : Int32} {Ls st : List Value} {h : AH} : ev L xs mdX7_best 187 Ls (.int x :: st) h = if x = nI 0 then ev L xs mdX7_best 195 Ls st h else ev L xs mdX7_best 190 Ls st h := e_if_eq dX7_best_187 (by decide)
theorem iX7_best_190 {v0 : Value} {v1 : Value} {v2 : Value} {v3 : Value} {v4 : Value} {v5 : Value} {x : Int32} {Ls st : List Value} {h : AH} : ev L xs mdX7_best 190 (v0 :: v1 :: v2 :: v3 :: v4 :: v5 :: .int x :: Ls) (st) h = ev L xs mdX7_best 192 (v0 :: v1 :: v2 :: v3 :: v4 :: v5 :: .int x :: Ls) (.int x :: st) (h) := e_iload dX7_best_190 rfl
theorem iX7_best_192  {Ls st : List Value} {h : AH} : ev L xs mdX7_best 192 (Ls) (st) h = ev L xs mdX7_best 197 (Ls) (st) (h) := e_goto dX7_best_192 (by decide)
theorem iX7_best_195 {v0 : Value} {v1 : Value} {v2 : Value} {v3 : Value} {v4 : Value} {x : Int32} {Ls st : List Value} {h : AH} : ev L xs mdX7_best 195 (v0 :: v1 :: v2 :: v3 :: v4 :: .int x :: Ls) (st) h = ev L xs mdX7_best 197 (v0 :: v1 :: v2 :: v3 :: v4 :: .int x :: Ls) (.int x :: st) (h) := e_iload dX7_best_195 rfl
theorem iX7_best_197 {v0 : Value} {v1 : Value} {v2 : Value} {v3 : Value} {v4 : Value} {v5 : Value} {x : Int32} {Ls st : List Value} {h : AH} (hc9 : v4.category = 1) : ev L xs mdX7_best 197 (v0 :: v1 :: v2 :: v3 :: v4 :: v5 :: Ls) (.int x :: st) h = ev L xs mdX7_best 199 (v0 :: v1 :: v2 :: v3 :: v4 :: .int x :: Ls) (st) (h) := e_istore dX7_best_197 rfl (by decide) (by unfold catOK; show (_ || (v4.category == 1)) = true; rw [hc9]; rfl)
theorem iX7_best_199 {v0 : Value} {v1 : Value} {v2 : Value} {v3 : Value} {v4 : Value} {v5 : Value} {x : Int32} {Ls st : List Value} {h : AH} (hc9 : v5.category = 1) : ev L xs mdX7_best 199 (v0 :: v1 :: v2 :: v3 :: v4 :: v5 :: .int x :: Ls) (st) h = ev L xs mdX7_best 202 (v0 :: v1 :: v2 :: v3 :: v4 :: v5 :: .int (x + (nI 1)) :: Ls) (st) (h) := e_iinc dX7_best_199 rfl rfl rfl (by decide) (by unfold catOK; show (_ || (v5.category == 1)) = true; rw [hc9]; rfl)
theorem iX7_best_202  {Ls st : List Value} {h : AH} : ev L xs mdX7_best 202 (Ls) (st) h = ev L xs mdX7_best 115 (Ls) (st) (h) := e_goto dX7_best_202 (by decide)
theorem iX7_best_205 {v0 : Value} {v1 : Value} {v2 : Value} {x : Int32} {Ls st : List Value} {h : AH} : ev L xs mdX7_best 205 (v0 :: v1 :: v2 :: .int x :: Ls) (st) h = ev L xs mdX7_best 206 (v0 :: v1 :: v2 :: .int x :: Ls) (.int x :: st) (h) := e_iload_n dX7_best_205 rfl
theorem iX7_best_206 {x : Int32} {Ls st : List Value} {h : AH} : ev L xs mdX7_best 206 Ls (.int x :: st) h = if x = nI 0 then ev L xs mdX7_best 209 Ls st h else ev L xs mdX7_best 220 Ls st h := e_if_ne dX7_best_206 (by decide)
theorem iX7_best_209 {v0 : Value} {v1 : Value} {v2 : Value} {v3 : Value} {x : Int32} {Ls st : List Value} {h : AH} : ev L xs mdX7_best 209 (v0 :: v1 :: v2 :: v3 :: .int x :: Ls) (st) h = ev L xs mdX7_best 211 (v0 :: v1 :: v2 :: v3 :: .int x :: Ls) (.int x :: st) (h) := e_iload dX7_best_209 rfl
theorem iX7_best_211 {v0 : Value} {v1 : Value} {v2 : Value} {v3 : Value} {v4 : Value} {x : Int32} {Ls st : List Value} {h : AH} : ev L xs mdX7_best 211 (v0 :: v1 :: v2 :: v3 :: v4 :: .int x :: Ls) (st) h = ev L xs mdX7_best 213 (v0 :: v1 :: v2 :: v3 :: v4 :: .int x :: Ls) (.int x :: st) (h) := e_iload dX7_best_211 rfl
theorem iX7_best_213 {p0 : Int32} {Ls st : List Value} {h : AH} (hw : wds st ≤ 8) : ev L xs mdX7_best 213 Ls (.int p0 :: st) h = kn L xs mdX7_best 213 216 Ls st (ev L xs mdX7_many 0 [.int p0, .null, .null] [] h) := e_callS (as := [.int p0]) dX7_best_213 mr_7_96 (by decide) (by decide) rfl (by simp [wds, Value.category]; decide) rfl hw
theorem iX7_best_216 {x z : Int32} {Ls st : List Value} {h : AH} : ev L xs mdX7_best 216 (Ls) (.int z :: .int x :: st) h = ev L xs mdX7_best 217 (Ls) (.int (x - z) :: st) (h) := e_isub dX7_best_216
theorem iX7_best_217  {Ls st : List Value} {h : AH} : ev L xs mdX7_best 217 (Ls) (st) h = ev L xs mdX7_best 227 (Ls) (st) (h) := e_goto dX7_best_217 (by decide)
theorem iX7_best_220 {x : Nat} {Ls st : List Value} {h : AH} : ev L xs mdX7_best 220 (.ref x :: Ls) (st) h = ev L xs mdX7_best 221 (.ref x :: Ls) (.ref x :: st) (h) := e_aload_n dX7_best_220 rfl
theorem iX7_best_221 {a : Nat} {Ls st : List Value} {h : AH} (hk : hK h a = 7) (hj : (hR h 123 a).isSome = true) : ev L xs mdX7_best 221 (Ls) (.ref a :: st) h = ev L xs mdX7_best 224 (Ls) (.ref ((hR h 123 a).getD 0) :: st) (h) := e_getR (k := 7) (f := 11) (F := 123) dX7_best_221 (by decide +kernel) rfl rfl hk hj
theorem iX7_best_224 {v0 : Value} {v1 : Value} {v2 : Value} {v3 : Value} {v4 : Value} {x : Int32} {Ls st : List Value} {h : AH} : ev L xs mdX7_best 224 (v0 :: v1 :: v2 :: v3 :: v4 :: .int x :: Ls) (st) h = ev L xs mdX7_best 226 (v0 :: v1 :: v2 :: v3 :: v4 :: .int x :: Ls) (.int x :: st) (h) := e_iload dX7_best_224 rfl
theorem iX7_best_226 {a : Nat} {j : Int32} {Ls st : List Value} {h : AH} (hk : hK h a = 8) (hi : inA j (hN h a) = true) : ev L xs mdX7_best 226 (Ls) (.int j :: .ref a :: st) h = ev L xs mdX7_best 227 (Ls) (.int (hA h a j.toNatClampNeg) :: st) (h) := e_iald dX7_best_226 hk hi
theorem iX7_best_227 {v : Int32} {Ls : List Value} {h : AH} : ev L xs mdX7_best 227 Ls [.int v] h = some (.inl (some (.int v), h)) := e_iret dX7_best_227 rfl
theorem dX7_bestHome_0 : decode cX7_bestHome 0 = .ok (.aload_n 0, 1) := by decide +kernel
theorem dX7_bestHome_1 : decode cX7_bestHome 1 = .ok (.iload_n 1, 1) := by decide +kernel
theorem dX7_bestHome_2 : decode cX7_bestHome 2 = .ok (.iconst 0, 1) := by decide +kernel
theorem dX7_bestHome_3 : decode cX7_bestHome 3 = .ok (.sipush 3000, 3) := by decide +kernel
theorem dX7_bestHome_6 : decode cX7_bestHome 6 = .ok (.invokestatic 44, 3) := by decide +kernel
theorem dX7_bestHome_9 : decode cX7_bestHome 9 = .ok (.ifCond .ne 7, 3) := by decide +kernel
theorem dX7_bestHome_12 : decode cX7_bestHome 12 = .ok (.iconst 1, 1) := by decide +kernel
theorem dX7_bestHome_13 : decode cX7_bestHome 13 = .ok (.goto 19, 3) := by decide +kernel
theorem dX7_bestHome_16 : decode cX7_bestHome 16 = .ok (.aload_n 0, 1) := by decide +kernel
theorem dX7_bestHome_17 : decode cX7_bestHome 17 = .ok (.getfield 7, 3) := by decide +kernel
theorem dX7_bestHome_20 : decode cX7_bestHome 20 = .ok (.iconst 4, 1) := by decide +kernel
theorem dX7_bestHome_21 : decode cX7_bestHome 21 = .ok (.iaload, 1) := by decide +kernel
theorem dX7_bestHome_22 : decode cX7_bestHome 22 = .ok (.bipush 10, 2) := by decide +kernel
theorem dX7_bestHome_24 : decode cX7_bestHome 24 = .ok (.if_icmp .ne 7, 3) := by decide +kernel
theorem dX7_bestHome_27 : decode cX7_bestHome 27 = .ok (.iconst 2, 1) := by decide +kernel
theorem dX7_bestHome_28 : decode cX7_bestHome 28 = .ok (.goto 4, 3) := by decide +kernel
theorem dX7_bestHome_31 : decode cX7_bestHome 31 = .ok (.iconst 0, 1) := by decide +kernel
theorem dX7_bestHome_32 : decode cX7_bestHome 32 = .ok (.putfield 34, 3) := by decide +kernel
theorem dX7_bestHome_35 : decode cX7_bestHome 35 = .ok (.aload_n 0, 1) := by decide +kernel
theorem dX7_bestHome_36 : decode cX7_bestHome 36 = .ok (.getfield 34, 3) := by decide +kernel
theorem dX7_bestHome_39 : decode cX7_bestHome 39 = .ok (.ifCond .le 5, 3) := by decide +kernel
theorem dX7_bestHome_42 : decode cX7_bestHome 42 = .ok (.iconst 0, 1) := by decide +kernel
theorem dX7_bestHome_43 : decode cX7_bestHome 43 = .ok (.ireturn, 1) := by decide +kernel
theorem dX7_bestHome_44 : decode cX7_bestHome 44 = .ok (.aload_n 0, 1) := by decide +kernel
theorem dX7_bestHome_45 : decode cX7_bestHome 45 = .ok (.invokevirtual 162, 3) := by decide +kernel
theorem dX7_bestHome_48 : decode cX7_bestHome 48 = .ok (.aload_n 0, 1) := by decide +kernel
theorem dX7_bestHome_49 : decode cX7_bestHome 49 = .ok (.getfield 13, 3) := by decide +kernel
theorem dX7_bestHome_52 : decode cX7_bestHome 52 = .ok (.iconst 0, 1) := by decide +kernel
theorem dX7_bestHome_53 : decode cX7_bestHome 53 = .ok (.bipush 20, 2) := by decide +kernel
theorem dX7_bestHome_55 : decode cX7_bestHome 55 = .ok (.iconst (-1), 1) := by decide +kernel
theorem dX7_bestHome_56 : decode cX7_bestHome 56 = .ok (.invokestatic 119, 3) := by decide +kernel
theorem dX7_bestHome_59 : decode cX7_bestHome 59 = .ok (.iconst (-1), 1) := by decide +kernel
theorem dX7_bestHome_60 : decode cX7_bestHome 60 = .ok (.istore_n 2, 1) := by decide +kernel
theorem dX7_bestHome_61 : decode cX7_bestHome 61 = .ok (.ldc 154, 2) := by decide +kernel
theorem dX7_bestHome_63 : decode cX7_bestHome 63 = .ok (.istore_n 3, 1) := by decide +kernel
theorem dX7_bestHome_64 : decode cX7_bestHome 64 = .ok (.iconst 0, 1) := by decide +kernel
theorem dX7_bestHome_65 : decode cX7_bestHome 65 = .ok (.istore 4, 2) := by decide +kernel
theorem dX7_bestHome_67 : decode cX7_bestHome 67 = .ok (.iload 4, 2) := by decide +kernel
theorem dX7_bestHome_69 : decode cX7_bestHome 69 = .ok (.bipush 100, 2) := by decide +kernel
theorem dX7_bestHome_71 : decode cX7_bestHome 71 = .ok (.if_icmp .ge 62, 3) := by decide +kernel
theorem dX7_bestHome_74 : decode cX7_bestHome 74 = .ok (.aload_n 0, 1) := by decide +kernel
theorem dX7_bestHome_75 : decode cX7_bestHome 75 = .ok (.getfield 13, 3) := by decide +kernel
theorem dX7_bestHome_78 : decode cX7_bestHome 78 = .ok (.aload_n 0, 1) := by decide +kernel
theorem dX7_bestHome_79 : decode cX7_bestHome 79 = .ok (.getfield 7, 3) := by decide +kernel
theorem dX7_bestHome_82 : decode cX7_bestHome 82 = .ok (.iconst 4, 1) := by decide +kernel
theorem dX7_bestHome_83 : decode cX7_bestHome 83 = .ok (.iaload, 1) := by decide +kernel
theorem dX7_bestHome_84 : decode cX7_bestHome 84 = .ok (.iconst 0, 1) := by decide +kernel
theorem dX7_bestHome_85 : decode cX7_bestHome 85 = .ok (.iload 4, 2) := by decide +kernel
theorem dX7_bestHome_87 : decode cX7_bestHome 87 = .ok (.invokestatic 84, 3) := by decide +kernel
theorem dX7_bestHome_90 : decode cX7_bestHome 90 = .ok (.aload_n 0, 1) := by decide +kernel
theorem dX7_bestHome_91 : decode cX7_bestHome 91 = .ok (.aload_n 0, 1) := by decide +kernel
theorem dX7_bestHome_92 : decode cX7_bestHome 92 = .ok (.getfield 13, 3) := by decide +kernel
theorem dX7_bestHome_95 : decode cX7_bestHome 95 = .ok (.iload_n 1, 1) := by decide +kernel
theorem dX7_bestHome_96 : decode cX7_bestHome 96 = .ok (.invokevirtual 159, 3) := by decide +kernel
theorem dX7_bestHome_99 : decode cX7_bestHome 99 = .ok (.istore 5, 2) := by decide +kernel
theorem dX7_bestHome_101 : decode cX7_bestHome 101 = .ok (.iload 5, 2) := by decide +kernel
theorem dX7_bestHome_103 : decode cX7_bestHome 103 = .ok (.iload_n 3, 1) := by decide +kernel
theorem dX7_bestHome_104 : decode cX7_bestHome 104 = .ok (.if_icmp .ge 8, 3) := by decide +kernel
theorem dX7_bestHome_107 : decode cX7_bestHome 107 = .ok (.iload 4, 2) := by decide +kernel
theorem dX7_bestHome_109 : decode cX7_bestHome 109 = .ok (.goto 4, 3) := by decide +kernel
theorem dX7_bestHome_112 : decode cX7_bestHome 112 = .ok (.iload_n 2, 1) := by decide +kernel
theorem dX7_bestHome_113 : decode cX7_bestHome 113 = .ok (.istore_n 2, 1) := by decide +kernel
theorem dX7_bestHome_114 : decode cX7_bestHome 114 = .ok (.iload 5, 2) := by decide +kernel
theorem dX7_bestHome_116 : decode cX7_bestHome 116 = .ok (.iload_n 3, 1) := by decide +kernel
theorem dX7_bestHome_117 : decode cX7_bestHome 117 = .ok (.if_icmp .ge 8, 3) := by decide +kernel
theorem dX7_bestHome_120 : decode cX7_bestHome 120 = .ok (.iload 5, 2) := by decide +kernel
theorem dX7_bestHome_122 : decode cX7_bestHome 122 = .ok (.goto 4, 3) := by decide +kernel
theorem dX7_bestHome_125 : decode cX7_bestHome 125 = .ok (.iload_n 3, 1) := by decide +kernel
theorem dX7_bestHome_126 : decode cX7_bestHome 126 = .ok (.istore_n 3, 1) := by decide +kernel
theorem dX7_bestHome_127 : decode cX7_bestHome 127 = .ok (.iinc 4 1, 3) := by decide +kernel
theorem dX7_bestHome_130 : decode cX7_bestHome 130 = .ok (.goto (-63), 3) := by decide +kernel
theorem dX7_bestHome_133 : decode cX7_bestHome 133 = .ok (.iload_n 2, 1) := by decide +kernel
theorem dX7_bestHome_134 : decode cX7_bestHome 134 = .ok (.ireturn, 1) := by decide +kernel
theorem iX7_bestHome_0 {x : Nat} {Ls st : List Value} {h : AH} : ev L xs mdX7_bestHome 0 (.ref x :: Ls) (st) h = ev L xs mdX7_bestHome 1 (.ref x :: Ls) (.ref x :: st) (h) := e_aload_n dX7_bestHome_0 rfl
theorem iX7_bestHome_1 {v0 : Value} {x : Int32} {Ls st : List Value} {h : AH} : ev L xs mdX7_bestHome 1 (v0 :: .int x :: Ls) (st) h = ev L xs mdX7_bestHome 2 (v0 :: .int x :: Ls) (.int x :: st) (h) := e_iload_n dX7_bestHome_1 rfl
theorem iX7_bestHome_2  {Ls st : List Value} {h : AH} : ev L xs mdX7_bestHome 2 (Ls) (st) h = ev L xs mdX7_bestHome 3 (Ls) (.int (nI 0) :: st) (h) := e_iconst dX7_bestHome_2 (by decide)
theorem iX7_bestHome_3  {Ls st : List Value} {h : AH} : ev L xs mdX7_bestHome 3 (Ls) (st) h = ev L xs mdX7_bestHome 6 (Ls) (.int (nI 3000) :: st) (h) := e_sipush dX7_bestHome_3 (by decide)
theorem iX7_bestHome_6 {p0 : Int32} {p1 : Int32} {p2 : Int32} {Ls st : List Value} {h : AH} (hw : wds st ≤ 8) : ev L xs mdX7_bestHome 6 Ls (.int p2 :: .int p1 :: .int p0 :: st) h = kn L xs mdX7_bestHome 6 9 Ls st (ev L xs mdX7_in 0 [.int p0, .int p1, .int p2] [] h) := e_callS (as := [.int p2, .int p1, .int p0]) dX7_bestHome_6 mr_7_44 (by decide) (by decide) rfl (by simp [wds, Value.category]; decide) rfl hw
theorem iX7_bestHome_9 {x : Int32} {Ls st : List Value} {h : AH} : ev L xs mdX7_bestHome 9 Ls (.int x :: st) h = if x = nI 0 then ev L xs mdX7_bestHome 12 Ls st h else ev L xs mdX7_bestHome 16 Ls st h := e_if_ne dX7_bestHome_9 (by decide)
theorem iX7_bestHome_12  {Ls st : List Value} {h : AH} : ev L xs mdX7_bestHome 12 (Ls) (st) h = ev L xs mdX7_bestHome 13 (Ls) (.int (nI 1) :: st) (h) := e_iconst dX7_bestHome_12 (by decide)
theorem iX7_bestHome_13  {Ls st : List Value} {h : AH} : ev L xs mdX7_bestHome 13 (Ls) (st) h = ev L xs mdX7_bestHome 32 (Ls) (st) (h) := e_goto dX7_bestHome_13 (by decide)
theorem iX7_bestHome_16 {x : Nat} {Ls st : List Value} {h : AH} : ev L xs mdX7_bestHome 16 (.ref x :: Ls) (st) h = ev L xs mdX7_bestHome 17 (.ref x :: Ls) (.ref x :: st) (h) := e_aload_n dX7_bestHome_16 rfl
theorem iX7_bestHome_17 {a : Nat} {Ls st : List Value} {h : AH} (hk : hK h a = 7) (hj : (hR h 113 a).isSome = true) : ev L xs mdX7_bestHome 17 (Ls) (.ref a :: st) h = ev L xs mdX7_bestHome 20 (Ls) (.ref ((hR h 113 a).getD 0) :: st) (h) := e_getR (k := 7) (f := 1) (F := 113) dX7_bestHome_17 (by decide +kernel) rfl rfl hk hj
theorem iX7_bestHome_20  {Ls st : List Value} {h : AH} : ev L xs mdX7_bestHome 20 (Ls) (st) h = ev L xs mdX7_bestHome 21 (Ls) (.int (nI 4) :: st) (h) := e_iconst dX7_bestHome_20 (by decide)
theorem iX7_bestHome_21 {a : Nat} {j : Int32} {Ls st : List Value} {h : AH} (hk : hK h a = 8) (hi : inA j (hN h a) = true) : ev L xs mdX7_bestHome 21 (Ls) (.int j :: .ref a :: st) h = ev L xs mdX7_bestHome 22 (Ls) (.int (hA h a j.toNatClampNeg) :: st) (h) := e_iald dX7_bestHome_21 hk hi
theorem iX7_bestHome_22  {Ls st : List Value} {h : AH} : ev L xs mdX7_bestHome 22 (Ls) (st) h = ev L xs mdX7_bestHome 24 (Ls) (.int (nI 10) :: st) (h) := e_bipush dX7_bestHome_22 (by decide)
theorem iX7_bestHome_24 {x z : Int32} {Ls st : List Value} {h : AH} : ev L xs mdX7_bestHome 24 Ls (.int z :: .int x :: st) h = if x = z then ev L xs mdX7_bestHome 27 Ls st h else ev L xs mdX7_bestHome 31 Ls st h := e_ic_ne dX7_bestHome_24 (by decide)
theorem iX7_bestHome_27  {Ls st : List Value} {h : AH} : ev L xs mdX7_bestHome 27 (Ls) (st) h = ev L xs mdX7_bestHome 28 (Ls) (.int (nI 2) :: st) (h) := e_iconst dX7_bestHome_27 (by decide)
theorem iX7_bestHome_28  {Ls st : List Value} {h : AH} : ev L xs mdX7_bestHome 28 (Ls) (st) h = ev L xs mdX7_bestHome 32 (Ls) (st) (h) := e_goto dX7_bestHome_28 (by decide)
theorem iX7_bestHome_31  {Ls st : List Value} {h : AH} : ev L xs mdX7_bestHome 31 (Ls) (st) h = ev L xs mdX7_bestHome 32 (Ls) (.int (nI 0) :: st) (h) := e_iconst dX7_bestHome_31 (by decide)
theorem iX7_bestHome_32 {a : Nat} {v : Int32} {Ls st : List Value} {h : AH} (hk : hK h a = 7) : ev L xs mdX7_bestHome 32 (Ls) (.int v :: .ref a :: st) h = ev L xs mdX7_bestHome 35 (Ls) (st) (sI h 112 a v) := e_putI (k := 7) (f := 0) (F := 112) dX7_bestHome_32 (by decide +kernel) rfl (by decide +kernel) rfl hk
theorem iX7_bestHome_35 {x : Nat} {Ls st : List Value} {h : AH} : ev L xs mdX7_bestHome 35 (.ref x :: Ls) (st) h = ev L xs mdX7_bestHome 36 (.ref x :: Ls) (.ref x :: st) (h) := e_aload_n dX7_bestHome_35 rfl
theorem iX7_bestHome_36 {a : Nat} {Ls st : List Value} {h : AH} (hk : hK h a = 7) : ev L xs mdX7_bestHome 36 (Ls) (.ref a :: st) h = ev L xs mdX7_bestHome 39 (Ls) (.int (hI h 112 a) :: st) (h) := e_getI (k := 7) (f := 0) (F := 112) dX7_bestHome_36 (by decide +kernel) rfl rfl hk
theorem iX7_bestHome_39 {x : Int32} {Ls st : List Value} {h : AH} : ev L xs mdX7_bestHome 39 Ls (.int x :: st) h = if x ≤ nI 0 then ev L xs mdX7_bestHome 44 Ls st h else ev L xs mdX7_bestHome 42 Ls st h := e_if_le dX7_bestHome_39 (by decide)
theorem iX7_bestHome_42  {Ls st : List Value} {h : AH} : ev L xs mdX7_bestHome 42 (Ls) (st) h = ev L xs mdX7_bestHome 43 (Ls) (.int (nI 0) :: st) (h) := e_iconst dX7_bestHome_42 (by decide)
theorem iX7_bestHome_43 {v : Int32} {Ls : List Value} {h : AH} : ev L xs mdX7_bestHome 43 Ls [.int v] h = some (.inl (some (.int v), h)) := e_iret dX7_bestHome_43 rfl
theorem iX7_bestHome_44 {x : Nat} {Ls st : List Value} {h : AH} : ev L xs mdX7_bestHome 44 (.ref x :: Ls) (st) h = ev L xs mdX7_bestHome 45 (.ref x :: Ls) (.ref x :: st) (h) := e_aload_n dX7_bestHome_44 rfl
theorem iX7_bestHome_45 {a : Nat} {Ls st : List Value} {h : AH} (hk : hK h a = 7) (hw : wds st ≤ 8) : ev L xs mdX7_bestHome 45 Ls (.ref a :: st) h = kn L xs mdX7_bestHome 45 48 Ls st (ev L xs mdX7_tryNow 0 [.ref a, .null] [] h) := e_callV (as := []) dX7_bestHome_45 mr_7_162 (by decide) (by decide) rfl (by simp [wds, Value.category]; decide) rfl (by decide) hk hw
theorem iX7_bestHome_48 {x : Nat} {Ls st : List Value} {h : AH} : ev L xs mdX7_bestHome 48 (.ref x :: Ls) (st) h = ev L xs mdX7_bestHome 49 (.ref x :: Ls) (.ref x :: st) (h) := e_aload_n dX7_bestHome_48 rfl
theorem iX7_bestHome_49 {a : Nat} {Ls st : List Value} {h : AH} (hk : hK h a = 7) (hj : (hR h 114 a).isSome = true) : ev L xs mdX7_bestHome 49 (Ls) (.ref a :: st) h = ev L xs mdX7_bestHome 52 (Ls) (.ref ((hR h 114 a).getD 0) :: st) (h) := e_getR (k := 7) (f := 2) (F := 114) dX7_bestHome_49 (by decide +kernel) rfl rfl hk hj
theorem iX7_bestHome_52  {Ls st : List Value} {h : AH} : ev L xs mdX7_bestHome 52 (Ls) (st) h = ev L xs mdX7_bestHome 53 (Ls) (.int (nI 0) :: st) (h) := e_iconst dX7_bestHome_52 (by decide)
theorem iX7_bestHome_53  {Ls st : List Value} {h : AH} : ev L xs mdX7_bestHome 53 (Ls) (st) h = ev L xs mdX7_bestHome 55 (Ls) (.int (nI 20) :: st) (h) := e_bipush dX7_bestHome_53 (by decide)
theorem iX7_bestHome_55  {Ls st : List Value} {h : AH} : ev L xs mdX7_bestHome 55 (Ls) (st) h = ev L xs mdX7_bestHome 56 (Ls) (.int (-1) :: st) (h) := e_iconst dX7_bestHome_55 (by decide)
theorem iX7_bestHome_56 {p0 : Nat} {p1 : Int32} {p2 : Int32} {p3 : Int32} {Ls st : List Value} {h : AH} (hw : wds st ≤ 8) : ev L xs mdX7_bestHome 56 Ls (.int p3 :: .int p2 :: .int p1 :: .ref p0 :: st) h = kn L xs mdX7_bestHome 56 59 Ls st (ev L xs mdX7_addTo 0 [.ref p0, .int p1, .int p2, .int p3, .null, .null] [] h) := e_callS (as := [.int p3, .int p2, .int p1, .ref p0]) dX7_bestHome_56 mr_7_119 (by decide) (by decide) rfl (by simp [wds, Value.category]; decide) rfl hw
theorem iX7_bestHome_59  {Ls st : List Value} {h : AH} : ev L xs mdX7_bestHome 59 (Ls) (st) h = ev L xs mdX7_bestHome 60 (Ls) (.int (-1) :: st) (h) := e_iconst dX7_bestHome_59 (by decide)
theorem iX7_bestHome_60 {v0 : Value} {v1 : Value} {v2 : Value} {x : Int32} {Ls st : List Value} {h : AH} (hc9 : v1.category = 1) : ev L xs mdX7_bestHome 60 (v0 :: v1 :: v2 :: Ls) (.int x :: st) h = ev L xs mdX7_bestHome 61 (v0 :: v1 :: .int x :: Ls) (st) (h) := e_istore_n dX7_bestHome_60 rfl (by decide) (by unfold catOK; show (_ || (v1.category == 1)) = true; rw [hc9]; rfl)
theorem iX7_bestHome_61  {Ls st : List Value} {h : AH} : ev L xs mdX7_bestHome 61 (Ls) (st) h = ev L xs mdX7_bestHome 63 (Ls) (.int (nI 100000) :: st) (h) := e_ldc dX7_bestHome_61 (by decide +kernel)
theorem iX7_bestHome_63 {v0 : Value} {v1 : Value} {v2 : Value} {v3 : Value} {x : Int32} {Ls st : List Value} {h : AH} (hc9 : v2.category = 1) : ev L xs mdX7_bestHome 63 (v0 :: v1 :: v2 :: v3 :: Ls) (.int x :: st) h = ev L xs mdX7_bestHome 64 (v0 :: v1 :: v2 :: .int x :: Ls) (st) (h) := e_istore_n dX7_bestHome_63 rfl (by decide) (by unfold catOK; show (_ || (v2.category == 1)) = true; rw [hc9]; rfl)
theorem iX7_bestHome_64  {Ls st : List Value} {h : AH} : ev L xs mdX7_bestHome 64 (Ls) (st) h = ev L xs mdX7_bestHome 65 (Ls) (.int (nI 0) :: st) (h) := e_iconst dX7_bestHome_64 (by decide)
theorem iX7_bestHome_65 {v0 : Value} {v1 : Value} {v2 : Value} {v3 : Value} {v4 : Value} {x : Int32} {Ls st : List Value} {h : AH} (hc9 : v3.category = 1) : ev L xs mdX7_bestHome 65 (v0 :: v1 :: v2 :: v3 :: v4 :: Ls) (.int x :: st) h = ev L xs mdX7_bestHome 67 (v0 :: v1 :: v2 :: v3 :: .int x :: Ls) (st) (h) := e_istore dX7_bestHome_65 rfl (by decide) (by unfold catOK; show (_ || (v3.category == 1)) = true; rw [hc9]; rfl)
theorem iX7_bestHome_67 {v0 : Value} {v1 : Value} {v2 : Value} {v3 : Value} {x : Int32} {Ls st : List Value} {h : AH} : ev L xs mdX7_bestHome 67 (v0 :: v1 :: v2 :: v3 :: .int x :: Ls) (st) h = ev L xs mdX7_bestHome 69 (v0 :: v1 :: v2 :: v3 :: .int x :: Ls) (.int x :: st) (h) := e_iload dX7_bestHome_67 rfl
theorem iX7_bestHome_69  {Ls st : List Value} {h : AH} : ev L xs mdX7_bestHome 69 (Ls) (st) h = ev L xs mdX7_bestHome 71 (Ls) (.int (nI 100) :: st) (h) := e_bipush dX7_bestHome_69 (by decide)
theorem iX7_bestHome_71 {x z : Int32} {Ls st : List Value} {h : AH} : ev L xs mdX7_bestHome 71 Ls (.int z :: .int x :: st) h = if z ≤ x then ev L xs mdX7_bestHome 133 Ls st h else ev L xs mdX7_bestHome 74 Ls st h := e_ic_ge dX7_bestHome_71 (by decide)
theorem iX7_bestHome_74 {x : Nat} {Ls st : List Value} {h : AH} : ev L xs mdX7_bestHome 74 (.ref x :: Ls) (st) h = ev L xs mdX7_bestHome 75 (.ref x :: Ls) (.ref x :: st) (h) := e_aload_n dX7_bestHome_74 rfl
theorem iX7_bestHome_75 {a : Nat} {Ls st : List Value} {h : AH} (hk : hK h a = 7) (hj : (hR h 114 a).isSome = true) : ev L xs mdX7_bestHome 75 (Ls) (.ref a :: st) h = ev L xs mdX7_bestHome 78 (Ls) (.ref ((hR h 114 a).getD 0) :: st) (h) := e_getR (k := 7) (f := 2) (F := 114) dX7_bestHome_75 (by decide +kernel) rfl rfl hk hj
theorem iX7_bestHome_78 {x : Nat} {Ls st : List Value} {h : AH} : ev L xs mdX7_bestHome 78 (.ref x :: Ls) (st) h = ev L xs mdX7_bestHome 79 (.ref x :: Ls) (.ref x :: st) (h) := e_aload_n dX7_bestHome_78 rfl
theorem iX7_bestHome_79 {a : Nat} {Ls st : List Value} {h : AH} (hk : hK h a = 7) (hj : (hR h 113 a).isSome = true) : ev L xs mdX7_bestHome 79 (Ls) (.ref a :: st) h = ev L xs mdX7_bestHome 82 (Ls) (.ref ((hR h 113 a).getD 0) :: st) (h) := e_getR (k := 7) (f := 1) (F := 113) dX7_bestHome_79 (by decide +kernel) rfl rfl hk hj
theorem iX7_bestHome_82  {Ls st : List Value} {h : AH} : ev L xs mdX7_bestHome 82 (Ls) (st) h = ev L xs mdX7_bestHome 83 (Ls) (.int (nI 4) :: st) (h) := e_iconst dX7_bestHome_82 (by decide)
theorem iX7_bestHome_83 {a : Nat} {j : Int32} {Ls st : List Value} {h : AH} (hk : hK h a = 8) (hi : inA j (hN h a) = true) : ev L xs mdX7_bestHome 83 (Ls) (.int j :: .ref a :: st) h = ev L xs mdX7_bestHome 84 (Ls) (.int (hA h a j.toNatClampNeg) :: st) (h) := e_iald dX7_bestHome_83 hk hi
theorem iX7_bestHome_84  {Ls st : List Value} {h : AH} : ev L xs mdX7_bestHome 84 (Ls) (st) h = ev L xs mdX7_bestHome 85 (Ls) (.int (nI 0) :: st) (h) := e_iconst dX7_bestHome_84 (by decide)
theorem iX7_bestHome_85 {v0 : Value} {v1 : Value} {v2 : Value} {v3 : Value} {x : Int32} {Ls st : List Value} {h : AH} : ev L xs mdX7_bestHome 85 (v0 :: v1 :: v2 :: v3 :: .int x :: Ls) (st) h = ev L xs mdX7_bestHome 87 (v0 :: v1 :: v2 :: v3 :: .int x :: Ls) (.int x :: st) (h) := e_iload dX7_bestHome_85 rfl
theorem iX7_bestHome_87 {p0 : Nat} {p1 : Int32} {p2 : Int32} {p3 : Int32} {Ls st : List Value} {h : AH} (hw : wds st ≤ 8) : ev L xs mdX7_bestHome 87 Ls (.int p3 :: .int p2 :: .int p1 :: .ref p0 :: st) h = kn L xs mdX7_bestHome 87 90 Ls st (ev L xs mdX7_give 0 [.ref p0, .int p1, .int p2, .int p3] [] h) := e_callS (as := [.int p3, .int p2, .int p1, .ref p0]) dX7_bestHome_87 mr_7_84 (by decide) (by decide) rfl (by simp [wds, Value.category]; decide) rfl hw
theorem iX7_bestHome_90 {x : Nat} {Ls st : List Value} {h : AH} : ev L xs mdX7_bestHome 90 (.ref x :: Ls) (st) h = ev L xs mdX7_bestHome 91 (.ref x :: Ls) (.ref x :: st) (h) := e_aload_n dX7_bestHome_90 rfl
theorem iX7_bestHome_91 {x : Nat} {Ls st : List Value} {h : AH} : ev L xs mdX7_bestHome 91 (.ref x :: Ls) (st) h = ev L xs mdX7_bestHome 92 (.ref x :: Ls) (.ref x :: st) (h) := e_aload_n dX7_bestHome_91 rfl
theorem iX7_bestHome_92 {a : Nat} {Ls st : List Value} {h : AH} (hk : hK h a = 7) (hj : (hR h 114 a).isSome = true) : ev L xs mdX7_bestHome 92 (Ls) (.ref a :: st) h = ev L xs mdX7_bestHome 95 (Ls) (.ref ((hR h 114 a).getD 0) :: st) (h) := e_getR (k := 7) (f := 2) (F := 114) dX7_bestHome_92 (by decide +kernel) rfl rfl hk hj
theorem iX7_bestHome_95 {v0 : Value} {x : Int32} {Ls st : List Value} {h : AH} : ev L xs mdX7_bestHome 95 (v0 :: .int x :: Ls) (st) h = ev L xs mdX7_bestHome 96 (v0 :: .int x :: Ls) (.int x :: st) (h) := e_iload_n dX7_bestHome_95 rfl
theorem iX7_bestHome_96 {a : Nat} {p0 : Nat} {p1 : Int32} {Ls st : List Value} {h : AH} (hk : hK h a = 7) (hw : wds st ≤ 8) : ev L xs mdX7_bestHome 96 Ls (.int p1 :: .ref p0 :: .ref a :: st) h = kn L xs mdX7_bestHome 96 99 Ls st (ev L xs mdX7_opensOn 0 [.ref a, .ref p0, .int p1] [] h) := e_callV (as := [.int p1, .ref p0]) dX7_bestHome_96 mr_7_159 (by decide) (by decide) rfl (by simp [wds, Value.category]; decide) rfl (by decide) hk hw
theorem iX7_bestHome_99 {v0 : Value} {v1 : Value} {v2 : Value} {v3 : Value} {v4 : Value} {v5 : Value} {x : Int32} {Ls st : List Value} {h : AH} (hc9 : v4.category = 1) : ev L xs mdX7_bestHome 99 (v0 :: v1 :: v2 :: v3 :: v4 :: v5 :: Ls) (.int x :: st) h = ev L xs mdX7_bestHome 101 (v0 :: v1 :: v2 :: v3 :: v4 :: .int x :: Ls) (st) (h) := e_istore dX7_bestHome_99 rfl (by decide) (by unfold catOK; show (_ || (v4.category == 1)) = true; rw [hc9]; rfl)
theorem iX7_bestHome_101 {v0 : Value} {v1 : Value} {v2 : Value} {v3 : Value} {v4 : Value} {x : Int32} {Ls st : List Value} {h : AH} : ev L xs mdX7_bestHome 101 (v0 :: v1 :: v2 :: v3 :: v4 :: .int x :: Ls) (st) h = ev L xs mdX7_bestHome 103 (v0 :: v1 :: v2 :: v3 :: v4 :: .int x :: Ls) (.int x :: st) (h) := e_iload dX7_bestHome_101 rfl
theorem iX7_bestHome_103 {v0 : Value} {v1 : Value} {v2 : Value} {x : Int32} {Ls st : List Value} {h : AH} : ev L xs mdX7_bestHome 103 (v0 :: v1 :: v2 :: .int x :: Ls) (st) h = ev L xs mdX7_bestHome 104 (v0 :: v1 :: v2 :: .int x :: Ls) (.int x :: st) (h) := e_iload_n dX7_bestHome_103 rfl
theorem iX7_bestHome_104 {x z : Int32} {Ls st : List Value} {h : AH} : ev L xs mdX7_bestHome 104 Ls (.int z :: .int x :: st) h = if z ≤ x then ev L xs mdX7_bestHome 112 Ls st h else ev L xs mdX7_bestHome 107 Ls st h := e_ic_ge dX7_bestHome_104 (by decide)
theorem iX7_bestHome_107 {v0 : Value} {v1 : Value} {v2 : Value} {v3 : Value} {x : Int32} {Ls st : List Value} {h : AH} : ev L xs mdX7_bestHome 107 (v0 :: v1 :: v2 :: v3 :: .int x :: Ls) (st) h = ev L xs mdX7_bestHome 109 (v0 :: v1 :: v2 :: v3 :: .int x :: Ls) (.int x :: st) (h) := e_iload dX7_bestHome_107 rfl
theorem iX7_bestHome_109  {Ls st : List Value} {h : AH} : ev L xs mdX7_bestHome 109 (Ls) (st) h = ev L xs mdX7_bestHome 113 (Ls) (st) (h) := e_goto dX7_bestHome_109 (by decide)
theorem iX7_bestHome_112 {v0 : Value} {v1 : Value} {x : Int32} {Ls st : List Value} {h : AH} : ev L xs mdX7_bestHome 112 (v0 :: v1 :: .int x :: Ls) (st) h = ev L xs mdX7_bestHome 113 (v0 :: v1 :: .int x :: Ls) (.int x :: st) (h) := e_iload_n dX7_bestHome_112 rfl
theorem iX7_bestHome_113 {v0 : Value} {v1 : Value} {v2 : Value} {x : Int32} {Ls st : List Value} {h : AH} (hc9 : v1.category = 1) : ev L xs mdX7_bestHome 113 (v0 :: v1 :: v2 :: Ls) (.int x :: st) h = ev L xs mdX7_bestHome 114 (v0 :: v1 :: .int x :: Ls) (st) (h) := e_istore_n dX7_bestHome_113 rfl (by decide) (by unfold catOK; show (_ || (v1.category == 1)) = true; rw [hc9]; rfl)
theorem iX7_bestHome_114 {v0 : Value} {v1 : Value} {v2 : Value} {v3 : Value} {v4 : Value} {x : Int32} {Ls st : List Value} {h : AH} : ev L xs mdX7_bestHome 114 (v0 :: v1 :: v2 :: v3 :: v4 :: .int x :: Ls) (st) h = ev L xs mdX7_bestHome 116 (v0 :: v1 :: v2 :: v3 :: v4 :: .int x :: Ls) (.int x :: st) (h) := e_iload dX7_bestHome_114 rfl
theorem iX7_bestHome_116 {v0 : Value} {v1 : Value} {v2 : Value} {x : Int32} {Ls st : List Value} {h : AH} : ev L xs mdX7_bestHome 116 (v0 :: v1 :: v2 :: .int x :: Ls) (st) h = ev L xs mdX7_bestHome 117 (v0 :: v1 :: v2 :: .int x :: Ls) (.int x :: st) (h) := e_iload_n dX7_bestHome_116 rfl
theorem iX7_bestHome_117 {x z : Int32} {Ls st : List Value} {h : AH} : ev L xs mdX7_bestHome 117 Ls (.int z :: .int x :: st) h = if z ≤ x then ev L xs mdX7_bestHome 125 Ls st h else ev L xs mdX7_bestHome 120 Ls st h := e_ic_ge dX7_bestHome_117 (by decide)
theorem iX7_bestHome_120 {v0 : Value} {v1 : Value} {v2 : Value} {v3 : Value} {v4 : Value} {x : Int32} {Ls st : List Value} {h : AH} : ev L xs mdX7_bestHome 120 (v0 :: v1 :: v2 :: v3 :: v4 :: .int x :: Ls) (st) h = ev L xs mdX7_bestHome 122 (v0 :: v1 :: v2 :: v3 :: v4 :: .int x :: Ls) (.int x :: st) (h) := e_iload dX7_bestHome_120 rfl
theorem iX7_bestHome_122  {Ls st : List Value} {h : AH} : ev L xs mdX7_bestHome 122 (Ls) (st) h = ev L xs mdX7_bestHome 126 (Ls) (st) (h) := e_goto dX7_bestHome_122 (by decide)
theorem iX7_bestHome_125 {v0 : Value} {v1 : Value} {v2 : Value} {x : Int32} {Ls st : List Value} {h : AH} : ev L xs mdX7_bestHome 125 (v0 :: v1 :: v2 :: .int x :: Ls) (st) h = ev L xs mdX7_bestHome 126 (v0 :: v1 :: v2 :: .int x :: Ls) (.int x :: st) (h) := e_iload_n dX7_bestHome_125 rfl
theorem iX7_bestHome_126 {v0 : Value} {v1 : Value} {v2 : Value} {v3 : Value} {x : Int32} {Ls st : List Value} {h : AH} (hc9 : v2.category = 1) : ev L xs mdX7_bestHome 126 (v0 :: v1 :: v2 :: v3 :: Ls) (.int x :: st) h = ev L xs mdX7_bestHome 127 (v0 :: v1 :: v2 :: .int x :: Ls) (st) (h) := e_istore_n dX7_bestHome_126 rfl (by decide) (by unfold catOK; show (_ || (v2.category == 1)) = true; rw [hc9]; rfl)
theorem iX7_bestHome_127 {v0 : Value} {v1 : Value} {v2 : Value} {v3 : Value} {x : Int32} {Ls st : List Value} {h : AH} (hc9 : v3.category = 1) : ev L xs mdX7_bestHome 127 (v0 :: v1 :: v2 :: v3 :: .int x :: Ls) (st) h = ev L xs mdX7_bestHome 130 (v0 :: v1 :: v2 :: v3 :: .int (x + (nI 1)) :: Ls) (st) (h) := e_iinc dX7_bestHome_127 rfl rfl rfl (by decide) (by unfold catOK; show (_ || (v3.category == 1)) = true; rw [hc9]; rfl)
theorem iX7_bestHome_130  {Ls st : List Value} {h : AH} : ev L xs mdX7_bestHome 130 (Ls) (st) h = ev L xs mdX7_bestHome 67 (Ls) (st) (h) := e_goto dX7_bestHome_130 (by decide)
theorem iX7_bestHome_133 {v0 : Value} {v1 : Value} {x : Int32} {Ls st : List Value} {h : AH} : ev L xs mdX7_bestHome 133 (v0 :: v1 :: .int x :: Ls) (st) h = ev L xs mdX7_bestHome 134 (v0 :: v1 :: .int x :: Ls) (.int x :: st) (h) := e_iload_n dX7_bestHome_133 rfl
theorem iX7_bestHome_134 {v : Int32} {Ls : List Value} {h : AH} : ev L xs mdX7_bestHome 134 Ls [.int v] h = some (.inl (some (.int v), h)) := e_iret dX7_bestHome_134 rfl
theorem dX7_by_0 : decode cX7_by 0 = .ok (.aload_n 0, 1) := by decide +kernel
theorem dX7_by_1 : decode cX7_by 1 = .ok (.bipush 93, 2) := by decide +kernel
theorem dX7_by_3 : decode cX7_by 3 = .ok (.bipush 9, 2) := by decide +kernel
theorem dX7_by_5 : decode cX7_by 5 = .ok (.iload_n 1, 1) := by decide +kernel
theorem dX7_by_6 : decode cX7_by 6 = .ok (.imul, 1) := by decide +kernel
theorem dX7_by_7 : decode cX7_by 7 = .ok (.iadd, 1) := by decide +kernel
theorem dX7_by_8 : decode cX7_by 8 = .ok (.iload_n 2, 1) := by decide +kernel
theorem dX7_by_9 : decode cX7_by 9 = .ok (.iadd, 1) := by decide +kernel
theorem dX7_by_10 : decode cX7_by 10 = .ok (.iaload, 1) := by decide +kernel
theorem dX7_by_11 : decode cX7_by 11 = .ok (.ireturn, 1) := by decide +kernel
theorem iX7_by_0 {x : Nat} {Ls st : List Value} {h : AH} : ev L xs mdX7_by 0 (.ref x :: Ls) (st) h = ev L xs mdX7_by 1 (.ref x :: Ls) (.ref x :: st) (h) := e_aload_n dX7_by_0 rfl
theorem iX7_by_1  {Ls st : List Value} {h : AH} : ev L xs mdX7_by 1 (Ls) (st) h = ev L xs mdX7_by 3 (Ls) (.int (nI 93) :: st) (h) := e_bipush dX7_by_1 (by decide)
theorem iX7_by_3  {Ls st : List Value} {h : AH} : ev L xs mdX7_by 3 (Ls) (st) h = ev L xs mdX7_by 5 (Ls) (.int (nI 9) :: st) (h) := e_bipush dX7_by_3 (by decide)
theorem iX7_by_5 {v0 : Value} {x : Int32} {Ls st : List Value} {h : AH} : ev L xs mdX7_by 5 (v0 :: .int x :: Ls) (st) h = ev L xs mdX7_by 6 (v0 :: .int x :: Ls) (.int x :: st) (h) := e_iload_n dX7_by_5 rfl
theorem iX7_by_6 {x z : Int32} {Ls st : List Value} {h : AH} : ev L xs mdX7_by 6 (Ls) (.int z :: .int x :: st) h = ev L xs mdX7_by 7 (Ls) (.int (x * z) :: st) (h) := e_imul dX7_by_6
theorem iX7_by_7 {x z : Int32} {Ls st : List Value} {h : AH} : ev L xs mdX7_by 7 (Ls) (.int z :: .int x :: st) h = ev L xs mdX7_by 8 (Ls) (.int (x + z) :: st) (h) := e_iadd dX7_by_7
theorem iX7_by_8 {v0 : Value} {v1 : Value} {x : Int32} {Ls st : List Value} {h : AH} : ev L xs mdX7_by 8 (v0 :: v1 :: .int x :: Ls) (st) h = ev L xs mdX7_by 9 (v0 :: v1 :: .int x :: Ls) (.int x :: st) (h) := e_iload_n dX7_by_8 rfl
theorem iX7_by_9 {x z : Int32} {Ls st : List Value} {h : AH} : ev L xs mdX7_by 9 (Ls) (.int z :: .int x :: st) h = ev L xs mdX7_by 10 (Ls) (.int (x + z) :: st) (h) := e_iadd dX7_by_9
theorem iX7_by_10 {a : Nat} {j : Int32} {Ls st : List Value} {h : AH} (hk : hK h a = 8) (hi : inA j (hN h a) = true) : ev L xs mdX7_by 10 (Ls) (.int j :: .ref a :: st) h = ev L xs mdX7_by 11 (Ls) (.int (hA h a j.toNatClampNeg) :: st) (h) := e_iald dX7_by_10 hk hi
theorem iX7_by_11 {v : Int32} {Ls : List Value} {h : AH} : ev L xs mdX7_by 11 Ls [.int v] h = some (.inl (some (.int v), h)) := e_iret dX7_by_11 rfl
theorem dX7_canComplain_0 : decode cX7_canComplain 0 = .ok (.aload_n 0, 1) := by decide +kernel
theorem dX7_canComplain_1 : decode cX7_canComplain 1 = .ok (.getfield 7, 3) := by decide +kernel
theorem dX7_canComplain_4 : decode cX7_canComplain 4 = .ok (.iload_n 1, 1) := by decide +kernel
theorem dX7_canComplain_5 : decode cX7_canComplain 5 = .ok (.iconst 4, 1) := by decide +kernel
theorem dX7_canComplain_6 : decode cX7_canComplain 6 = .ok (.invokestatic 48, 3) := by decide +kernel
theorem dX7_canComplain_9 : decode cX7_canComplain 9 = .ok (.istore_n 2, 1) := by decide +kernel
theorem dX7_canComplain_10 : decode cX7_canComplain 10 = .ok (.iload_n 2, 1) := by decide +kernel
theorem dX7_canComplain_11 : decode cX7_canComplain 11 = .ok (.iconst (-1), 1) := by decide +kernel
theorem dX7_canComplain_12 : decode cX7_canComplain 12 = .ok (.if_icmp .eq 35, 3) := by decide +kernel
theorem dX7_canComplain_15 : decode cX7_canComplain 15 = .ok (.iload_n 2, 1) := by decide +kernel
theorem dX7_canComplain_16 : decode cX7_canComplain 16 = .ok (.aload_n 0, 1) := by decide +kernel
theorem dX7_canComplain_17 : decode cX7_canComplain 17 = .ok (.getfield 7, 3) := by decide +kernel
theorem dX7_canComplain_20 : decode cX7_canComplain 20 = .ok (.invokestatic 88, 3) := by decide +kernel
theorem dX7_canComplain_23 : decode cX7_canComplain 23 = .ok (.bipush 10, 2) := by decide +kernel
theorem dX7_canComplain_25 : decode cX7_canComplain 25 = .ok (.isub, 1) := by decide +kernel
theorem dX7_canComplain_26 : decode cX7_canComplain 26 = .ok (.if_icmp .lt 21, 3) := by decide +kernel
theorem dX7_canComplain_29 : decode cX7_canComplain 29 = .ok (.aload_n 0, 1) := by decide +kernel
theorem dX7_canComplain_30 : decode cX7_canComplain 30 = .ok (.getfield 7, 3) := by decide +kernel
theorem dX7_canComplain_33 : decode cX7_canComplain 33 = .ok (.iload_n 1, 1) := by decide +kernel
theorem dX7_canComplain_34 : decode cX7_canComplain 34 = .ok (.bipush 6, 2) := by decide +kernel
theorem dX7_canComplain_36 : decode cX7_canComplain 36 = .ok (.invokestatic 48, 3) := by decide +kernel
theorem dX7_canComplain_39 : decode cX7_canComplain 39 = .ok (.iload_n 2, 1) := by decide +kernel
theorem dX7_canComplain_40 : decode cX7_canComplain 40 = .ok (.if_icmp .gt 7, 3) := by decide +kernel
theorem dX7_canComplain_43 : decode cX7_canComplain 43 = .ok (.iconst 1, 1) := by decide +kernel
theorem dX7_canComplain_44 : decode cX7_canComplain 44 = .ok (.goto 4, 3) := by decide +kernel
theorem dX7_canComplain_47 : decode cX7_canComplain 47 = .ok (.iconst 0, 1) := by decide +kernel
theorem dX7_canComplain_48 : decode cX7_canComplain 48 = .ok (.ireturn, 1) := by decide +kernel
theorem iX7_canComplain_0 {x : Nat} {Ls st : List Value} {h : AH} : ev L xs mdX7_canComplain 0 (.ref x :: Ls) (st) h = ev L xs mdX7_canComplain 1 (.ref x :: Ls) (.ref x :: st) (h) := e_aload_n dX7_canComplain_0 rfl
theorem iX7_canComplain_1 {a : Nat} {Ls st : List Value} {h : AH} (hk : hK h a = 7) (hj : (hR h 113 a).isSome = true) : ev L xs mdX7_canComplain 1 (Ls) (.ref a :: st) h = ev L xs mdX7_canComplain 4 (Ls) (.ref ((hR h 113 a).getD 0) :: st) (h) := e_getR (k := 7) (f := 1) (F := 113) dX7_canComplain_1 (by decide +kernel) rfl rfl hk hj
theorem iX7_canComplain_4 {v0 : Value} {x : Int32} {Ls st : List Value} {h : AH} : ev L xs mdX7_canComplain 4 (v0 :: .int x :: Ls) (st) h = ev L xs mdX7_canComplain 5 (v0 :: .int x :: Ls) (.int x :: st) (h) := e_iload_n dX7_canComplain_4 rfl
theorem iX7_canComplain_5  {Ls st : List Value} {h : AH} : ev L xs mdX7_canComplain 5 (Ls) (st) h = ev L xs mdX7_canComplain 6 (Ls) (.int (nI 4) :: st) (h) := e_iconst dX7_canComplain_5 (by decide)
theorem iX7_canComplain_6 {p0 : Nat} {p1 : Int32} {p2 : Int32} {Ls st : List Value} {h : AH} (hw : wds st ≤ 8) : ev L xs mdX7_canComplain 6 Ls (.int p2 :: .int p1 :: .ref p0 :: st) h = kn L xs mdX7_canComplain 6 9 Ls st (ev L xs mdX7_of 0 [.ref p0, .int p1, .int p2] [] h) := e_callS (as := [.int p2, .int p1, .ref p0]) dX7_canComplain_6 mr_7_48 (by decide) (by decide) rfl (by simp [wds, Value.category]; decide) rfl hw
theorem iX7_canComplain_9 {v0 : Value} {v1 : Value} {v2 : Value} {x : Int32} {Ls st : List Value} {h : AH} (hc9 : v1.category = 1) : ev L xs mdX7_canComplain 9 (v0 :: v1 :: v2 :: Ls) (.int x :: st) h = ev L xs mdX7_canComplain 10 (v0 :: v1 :: .int x :: Ls) (st) (h) := e_istore_n dX7_canComplain_9 rfl (by decide) (by unfold catOK; show (_ || (v1.category == 1)) = true; rw [hc9]; rfl)
theorem iX7_canComplain_10 {v0 : Value} {v1 : Value} {x : Int32} {Ls st : List Value} {h : AH} : ev L xs mdX7_canComplain 10 (v0 :: v1 :: .int x :: Ls) (st) h = ev L xs mdX7_canComplain 11 (v0 :: v1 :: .int x :: Ls) (.int x :: st) (h) := e_iload_n dX7_canComplain_10 rfl
theorem iX7_canComplain_11  {Ls st : List Value} {h : AH} : ev L xs mdX7_canComplain 11 (Ls) (st) h = ev L xs mdX7_canComplain 12 (Ls) (.int (-1) :: st) (h) := e_iconst dX7_canComplain_11 (by decide)
theorem iX7_canComplain_12 {x z : Int32} {Ls st : List Value} {h : AH} : ev L xs mdX7_canComplain 12 Ls (.int z :: .int x :: st) h = if x = z then ev L xs mdX7_canComplain 47 Ls st h else ev L xs mdX7_canComplain 15 Ls st h := e_ic_eq dX7_canComplain_12 (by decide)
theorem iX7_canComplain_15 {v0 : Value} {v1 : Value} {x : Int32} {Ls st : List Value} {h : AH} : ev L xs mdX7_canComplain 15 (v0 :: v1 :: .int x :: Ls) (st) h = ev L xs mdX7_canComplain 16 (v0 :: v1 :: .int x :: Ls) (.int x :: st) (h) := e_iload_n dX7_canComplain_15 rfl
theorem iX7_canComplain_16 {x : Nat} {Ls st : List Value} {h : AH} : ev L xs mdX7_canComplain 16 (.ref x :: Ls) (st) h = ev L xs mdX7_canComplain 17 (.ref x :: Ls) (.ref x :: st) (h) := e_aload_n dX7_canComplain_16 rfl
theorem iX7_canComplain_17 {a : Nat} {Ls st : List Value} {h : AH} (hk : hK h a = 7) (hj : (hR h 113 a).isSome = true) : ev L xs mdX7_canComplain 17 (Ls) (.ref a :: st) h = ev L xs mdX7_canComplain 20 (Ls) (.ref ((hR h 113 a).getD 0) :: st) (h) := e_getR (k := 7) (f := 1) (F := 113) dX7_canComplain_17 (by decide +kernel) rfl rfl hk hj
theorem iX7_canComplain_20 {p0 : Nat} {Ls st : List Value} {h : AH} (hw : wds st ≤ 8) : ev L xs mdX7_canComplain 20 Ls (.ref p0 :: st) h = kn L xs mdX7_canComplain 20 23 Ls st (ev L xs mdX7_numberOf 0 [.ref p0] [] h) := e_callS (as := [.ref p0]) dX7_canComplain_20 mr_7_88 (by decide) (by decide) rfl (by simp [wds, Value.category]; decide) rfl hw
theorem iX7_canComplain_23  {Ls st : List Value} {h : AH} : ev L xs mdX7_canComplain 23 (Ls) (st) h = ev L xs mdX7_canComplain 25 (Ls) (.int (nI 10) :: st) (h) := e_bipush dX7_canComplain_23 (by decide)
theorem iX7_canComplain_25 {x z : Int32} {Ls st : List Value} {h : AH} : ev L xs mdX7_canComplain 25 (Ls) (.int z :: .int x :: st) h = ev L xs mdX7_canComplain 26 (Ls) (.int (x - z) :: st) (h) := e_isub dX7_canComplain_25
theorem iX7_canComplain_26 {x z : Int32} {Ls st : List Value} {h : AH} : ev L xs mdX7_canComplain 26 Ls (.int z :: .int x :: st) h = if x < z then ev L xs mdX7_canComplain 47 Ls st h else ev L xs mdX7_canComplain 29 Ls st h := e_ic_lt dX7_canComplain_26 (by decide)
theorem iX7_canComplain_29 {x : Nat} {Ls st : List Value} {h : AH} : ev L xs mdX7_canComplain 29 (.ref x :: Ls) (st) h = ev L xs mdX7_canComplain 30 (.ref x :: Ls) (.ref x :: st) (h) := e_aload_n dX7_canComplain_29 rfl
theorem iX7_canComplain_30 {a : Nat} {Ls st : List Value} {h : AH} (hk : hK h a = 7) (hj : (hR h 113 a).isSome = true) : ev L xs mdX7_canComplain 30 (Ls) (.ref a :: st) h = ev L xs mdX7_canComplain 33 (Ls) (.ref ((hR h 113 a).getD 0) :: st) (h) := e_getR (k := 7) (f := 1) (F := 113) dX7_canComplain_30 (by decide +kernel) rfl rfl hk hj
theorem iX7_canComplain_33 {v0 : Value} {x : Int32} {Ls st : List Value} {h : AH} : ev L xs mdX7_canComplain 33 (v0 :: .int x :: Ls) (st) h = ev L xs mdX7_canComplain 34 (v0 :: .int x :: Ls) (.int x :: st) (h) := e_iload_n dX7_canComplain_33 rfl
theorem iX7_canComplain_34  {Ls st : List Value} {h : AH} : ev L xs mdX7_canComplain 34 (Ls) (st) h = ev L xs mdX7_canComplain 36 (Ls) (.int (nI 6) :: st) (h) := e_bipush dX7_canComplain_34 (by decide)
theorem iX7_canComplain_36 {p0 : Nat} {p1 : Int32} {p2 : Int32} {Ls st : List Value} {h : AH} (hw : wds st ≤ 8) : ev L xs mdX7_canComplain 36 Ls (.int p2 :: .int p1 :: .ref p0 :: st) h = kn L xs mdX7_canComplain 36 39 Ls st (ev L xs mdX7_of 0 [.ref p0, .int p1, .int p2] [] h) := e_callS (as := [.int p2, .int p1, .ref p0]) dX7_canComplain_36 mr_7_48 (by decide) (by decide) rfl (by simp [wds, Value.category]; decide) rfl hw
theorem iX7_canComplain_39 {v0 : Value} {v1 : Value} {x : Int32} {Ls st : List Value} {h : AH} : ev L xs mdX7_canComplain 39 (v0 :: v1 :: .int x :: Ls) (st) h = ev L xs mdX7_canComplain 40 (v0 :: v1 :: .int x :: Ls) (.int x :: st) (h) := e_iload_n dX7_canComplain_39 rfl
theorem iX7_canComplain_40 {x z : Int32} {Ls st : List Value} {h : AH} : ev L xs mdX7_canComplain 40 Ls (.int z :: .int x :: st) h = if z < x then ev L xs mdX7_canComplain 47 Ls st h else ev L xs mdX7_canComplain 43 Ls st h := e_ic_gt dX7_canComplain_40 (by decide)
theorem iX7_canComplain_43  {Ls st : List Value} {h : AH} : ev L xs mdX7_canComplain 43 (Ls) (st) h = ev L xs mdX7_canComplain 44 (Ls) (.int (nI 1) :: st) (h) := e_iconst dX7_canComplain_43 (by decide)
theorem iX7_canComplain_44  {Ls st : List Value} {h : AH} : ev L xs mdX7_canComplain 44 (Ls) (st) h = ev L xs mdX7_canComplain 48 (Ls) (st) (h) := e_goto dX7_canComplain_44 (by decide)
theorem iX7_canComplain_47  {Ls st : List Value} {h : AH} : ev L xs mdX7_canComplain 47 (Ls) (st) h = ev L xs mdX7_canComplain 48 (Ls) (.int (nI 0) :: st) (h) := e_iconst dX7_canComplain_47 (by decide)
theorem iX7_canComplain_48 {v : Int32} {Ls : List Value} {h : AH} (hv : v = nI 0 ∨ v = nI 1) : ev L xs mdX7_canComplain 48 Ls [.int v] h = some (.inl (some (.int v), h)) := e_zret dX7_canComplain_48 rfl hv
theorem dX7_canPass_0 : decode cX7_canPass 0 = .ok (.aload_n 0, 1) := by decide +kernel
theorem dX7_canPass_1 : decode cX7_canPass 1 = .ok (.getfield 7, 3) := by decide +kernel
theorem dX7_canPass_4 : decode cX7_canPass 4 = .ok (.iconst 0, 1) := by decide +kernel
theorem dX7_canPass_5 : decode cX7_canPass 5 = .ok (.iaload, 1) := by decide +kernel
theorem dX7_canPass_6 : decode cX7_canPass 6 = .ok (.iload_n 1, 1) := by decide +kernel
theorem dX7_canPass_7 : decode cX7_canPass 7 = .ok (.iadd, 1) := by decide +kernel
theorem dX7_canPass_8 : decode cX7_canPass 8 = .ok (.iconst 1, 1) := by decide +kernel
theorem dX7_canPass_9 : decode cX7_canPass 9 = .ok (.isub, 1) := by decide +kernel
theorem dX7_canPass_10 : decode cX7_canPass 10 = .ok (.sipush 3000, 3) := by decide +kernel
theorem dX7_canPass_13 : decode cX7_canPass 13 = .ok (.if_icmp .gt 7, 3) := by decide +kernel
theorem dX7_canPass_16 : decode cX7_canPass 16 = .ok (.iconst 1, 1) := by decide +kernel
theorem dX7_canPass_17 : decode cX7_canPass 17 = .ok (.goto 4, 3) := by decide +kernel
theorem dX7_canPass_20 : decode cX7_canPass 20 = .ok (.iconst 0, 1) := by decide +kernel
theorem dX7_canPass_21 : decode cX7_canPass 21 = .ok (.ireturn, 1) := by decide +kernel
theorem iX7_canPass_0 {x : Nat} {Ls st : List Value} {h : AH} : ev L xs mdX7_canPass 0 (.ref x :: Ls) (st) h = ev L xs mdX7_canPass 1 (.ref x :: Ls) (.ref x :: st) (h) := e_aload_n dX7_canPass_0 rfl
theorem iX7_canPass_1 {a : Nat} {Ls st : List Value} {h : AH} (hk : hK h a = 7) (hj : (hR h 113 a).isSome = true) : ev L xs mdX7_canPass 1 (Ls) (.ref a :: st) h = ev L xs mdX7_canPass 4 (Ls) (.ref ((hR h 113 a).getD 0) :: st) (h) := e_getR (k := 7) (f := 1) (F := 113) dX7_canPass_1 (by decide +kernel) rfl rfl hk hj
theorem iX7_canPass_4  {Ls st : List Value} {h : AH} : ev L xs mdX7_canPass 4 (Ls) (st) h = ev L xs mdX7_canPass 5 (Ls) (.int (nI 0) :: st) (h) := e_iconst dX7_canPass_4 (by decide)
theorem iX7_canPass_5 {a : Nat} {j : Int32} {Ls st : List Value} {h : AH} (hk : hK h a = 8) (hi : inA j (hN h a) = true) : ev L xs mdX7_canPass 5 (Ls) (.int j :: .ref a :: st) h = ev L xs mdX7_canPass 6 (Ls) (.int (hA h a j.toNatClampNeg) :: st) (h) := e_iald dX7_canPass_5 hk hi
theorem iX7_canPass_6 {v0 : Value} {x : Int32} {Ls st : List Value} {h : AH} : ev L xs mdX7_canPass 6 (v0 :: .int x :: Ls) (st) h = ev L xs mdX7_canPass 7 (v0 :: .int x :: Ls) (.int x :: st) (h) := e_iload_n dX7_canPass_6 rfl
theorem iX7_canPass_7 {x z : Int32} {Ls st : List Value} {h : AH} : ev L xs mdX7_canPass 7 (Ls) (.int z :: .int x :: st) h = ev L xs mdX7_canPass 8 (Ls) (.int (x + z) :: st) (h) := e_iadd dX7_canPass_7
theorem iX7_canPass_8  {Ls st : List Value} {h : AH} : ev L xs mdX7_canPass 8 (Ls) (st) h = ev L xs mdX7_canPass 9 (Ls) (.int (nI 1) :: st) (h) := e_iconst dX7_canPass_8 (by decide)
theorem iX7_canPass_9 {x z : Int32} {Ls st : List Value} {h : AH} : ev L xs mdX7_canPass 9 (Ls) (.int z :: .int x :: st) h = ev L xs mdX7_canPass 10 (Ls) (.int (x - z) :: st) (h) := e_isub dX7_canPass_9
theorem iX7_canPass_10  {Ls st : List Value} {h : AH} : ev L xs mdX7_canPass 10 (Ls) (st) h = ev L xs mdX7_canPass 13 (Ls) (.int (nI 3000) :: st) (h) := e_sipush dX7_canPass_10 (by decide)
theorem iX7_canPass_13 {x z : Int32} {Ls st : List Value} {h : AH} : ev L xs mdX7_canPass 13 Ls (.int z :: .int x :: st) h = if z < x then ev L xs mdX7_canPass 20 Ls st h else ev L xs mdX7_canPass 16 Ls st h := e_ic_gt dX7_canPass_13 (by decide)
theorem iX7_canPass_16  {Ls st : List Value} {h : AH} : ev L xs mdX7_canPass 16 (Ls) (st) h = ev L xs mdX7_canPass 17 (Ls) (.int (nI 1) :: st) (h) := e_iconst dX7_canPass_16 (by decide)
theorem iX7_canPass_17  {Ls st : List Value} {h : AH} : ev L xs mdX7_canPass 17 (Ls) (st) h = ev L xs mdX7_canPass 21 (Ls) (st) (h) := e_goto dX7_canPass_17 (by decide)
theorem iX7_canPass_20  {Ls st : List Value} {h : AH} : ev L xs mdX7_canPass 20 (Ls) (st) h = ev L xs mdX7_canPass 21 (Ls) (.int (nI 0) :: st) (h) := e_iconst dX7_canPass_20 (by decide)
theorem iX7_canPass_21 {v : Int32} {Ls : List Value} {h : AH} (hv : v = nI 0 ∨ v = nI 1) : ev L xs mdX7_canPass 21 Ls [.int v] h = some (.inl (some (.int v), h)) := e_zret dX7_canPass_21 rfl hv
theorem dX7_carry_0 : decode cX7_carry 0 = .ok (.iload_n 1, 1) := by decide +kernel
theorem dX7_carry_1 : decode cX7_carry 1 = .ok (.bipush 100, 2) := by decide +kernel
theorem dX7_carry_3 : decode cX7_carry 3 = .ok (.if_icmp .ne 45, 3) := by decide +kernel
theorem dX7_carry_6 : decode cX7_carry 6 = .ok (.aload_n 0, 1) := by decide +kernel
theorem dX7_carry_7 : decode cX7_carry 7 = .ok (.aload_n 0, 1) := by decide +kernel
theorem dX7_carry_8 : decode cX7_carry 8 = .ok (.getfield 188, 3) := by decide +kernel
theorem dX7_carry_11 : decode cX7_carry 11 = .ok (.invokevirtual 131, 3) := by decide +kernel
theorem dX7_carry_14 : decode cX7_carry 14 = .ok (.istore_n 3, 1) := by decide +kernel
theorem dX7_carry_15 : decode cX7_carry 15 = .ok (.iload_n 3, 1) := by decide +kernel
theorem dX7_carry_16 : decode cX7_carry 16 = .ok (.ifCond .eq 14, 3) := by decide +kernel
theorem dX7_carry_19 : decode cX7_carry 19 = .ok (.aload_n 0, 1) := by decide +kernel
theorem dX7_carry_20 : decode cX7_carry 20 = .ok (.aload_n 0, 1) := by decide +kernel
theorem dX7_carry_21 : decode cX7_carry 21 = .ok (.getfield 188, 3) := by decide +kernel
theorem dX7_carry_24 : decode cX7_carry 24 = .ok (.invokevirtual 134, 3) := by decide +kernel
theorem dX7_carry_27 : decode cX7_carry 27 = .ok (.goto 4, 3) := by decide +kernel
theorem dX7_carry_30 : decode cX7_carry 30 = .ok (.iconst 0, 1) := by decide +kernel
theorem dX7_carry_31 : decode cX7_carry 31 = .ok (.istore 4, 2) := by decide +kernel
theorem dX7_carry_33 : decode cX7_carry 33 = .ok (.iload_n 3, 1) := by decide +kernel
theorem dX7_carry_34 : decode cX7_carry 34 = .ok (.ifCond .eq 12, 3) := by decide +kernel
theorem dX7_carry_37 : decode cX7_carry 37 = .ok (.iload 4, 2) := by decide +kernel
theorem dX7_carry_39 : decode cX7_carry 39 = .ok (.ifCond .lt 7, 3) := by decide +kernel
theorem dX7_carry_42 : decode cX7_carry 42 = .ok (.iconst 1, 1) := by decide +kernel
theorem dX7_carry_43 : decode cX7_carry 43 = .ok (.goto 4, 3) := by decide +kernel
theorem dX7_carry_46 : decode cX7_carry 46 = .ok (.iconst 0, 1) := by decide +kernel
theorem dX7_carry_47 : decode cX7_carry 47 = .ok (.ireturn, 1) := by decide +kernel
theorem dX7_carry_48 : decode cX7_carry 48 = .ok (.iload_n 1, 1) := by decide +kernel
theorem dX7_carry_49 : decode cX7_carry 49 = .ok (.bipush 115, 2) := by decide +kernel
theorem dX7_carry_51 : decode cX7_carry 51 = .ok (.if_icmp .ne 38, 3) := by decide +kernel
theorem dX7_carry_54 : decode cX7_carry 54 = .ok (.aload_n 0, 1) := by decide +kernel
theorem dX7_carry_55 : decode cX7_carry 55 = .ok (.iload_n 2, 1) := by decide +kernel
theorem dX7_carry_56 : decode cX7_carry 56 = .ok (.invokevirtual 122, 3) := by decide +kernel
theorem dX7_carry_59 : decode cX7_carry 59 = .ok (.ifCond .eq 24, 3) := by decide +kernel
theorem dX7_carry_62 : decode cX7_carry 62 = .ok (.aload_n 0, 1) := by decide +kernel
theorem dX7_carry_63 : decode cX7_carry 63 = .ok (.getfield 7, 3) := by decide +kernel
theorem dX7_carry_66 : decode cX7_carry 66 = .ok (.iload_n 2, 1) := by decide +kernel
theorem dX7_carry_67 : decode cX7_carry 67 = .ok (.bipush 6, 2) := by decide +kernel
theorem dX7_carry_69 : decode cX7_carry 69 = .ok (.aload_n 0, 1) := by decide +kernel
theorem dX7_carry_70 : decode cX7_carry 70 = .ok (.getfield 7, 3) := by decide +kernel
theorem dX7_carry_73 : decode cX7_carry 73 = .ok (.iconst 0, 1) := by decide +kernel
theorem dX7_carry_74 : decode cX7_carry 74 = .ok (.iaload, 1) := by decide +kernel
theorem dX7_carry_75 : decode cX7_carry 75 = .ok (.aload_n 0, 1) := by decide +kernel
theorem dX7_carry_76 : decode cX7_carry 76 = .ok (.getfield 188, 3) := by decide +kernel
theorem dX7_carry_79 : decode cX7_carry 79 = .ok (.iadd, 1) := by decide +kernel
theorem dX7_carry_80 : decode cX7_carry 80 = .ok (.invokestatic 84, 3) := by decide +kernel
theorem dX7_carry_83 : decode cX7_carry 83 = .ok (.aload_n 0, 1) := by decide +kernel
theorem dX7_carry_84 : decode cX7_carry 84 = .ok (.iload_n 2, 1) := by decide +kernel
theorem dX7_carry_85 : decode cX7_carry 85 = .ok (.invokevirtual 122, 3) := by decide +kernel
theorem dX7_carry_88 : decode cX7_carry 88 = .ok (.ireturn, 1) := by decide +kernel
theorem dX7_carry_89 : decode cX7_carry 89 = .ok (.aload_n 0, 1) := by decide +kernel
theorem dX7_carry_90 : decode cX7_carry 90 = .ok (.iload_n 2, 1) := by decide +kernel
theorem dX7_carry_91 : decode cX7_carry 91 = .ok (.invokevirtual 112, 3) := by decide +kernel
theorem dX7_carry_94 : decode cX7_carry 94 = .ok (.ifCond .eq 15, 3) := by decide +kernel
theorem dX7_carry_97 : decode cX7_carry 97 = .ok (.aload_n 0, 1) := by decide +kernel
theorem dX7_carry_98 : decode cX7_carry 98 = .ok (.iload_n 2, 1) := by decide +kernel
theorem dX7_carry_99 : decode cX7_carry 99 = .ok (.invokevirtual 125, 3) := by decide +kernel
theorem dX7_carry_102 : decode cX7_carry 102 = .ok (.ifCond .eq 7, 3) := by decide +kernel
theorem dX7_carry_105 : decode cX7_carry 105 = .ok (.iconst 1, 1) := by decide +kernel
theorem dX7_carry_106 : decode cX7_carry 106 = .ok (.goto 4, 3) := by decide +kernel
theorem dX7_carry_109 : decode cX7_carry 109 = .ok (.iconst 0, 1) := by decide +kernel
theorem dX7_carry_110 : decode cX7_carry 110 = .ok (.istore_n 3, 1) := by decide +kernel
theorem dX7_carry_111 : decode cX7_carry 111 = .ok (.iload_n 3, 1) := by decide +kernel
theorem dX7_carry_112 : decode cX7_carry 112 = .ok (.ifCond .eq 11, 3) := by decide +kernel
theorem dX7_carry_115 : decode cX7_carry 115 = .ok (.aload_n 0, 1) := by decide +kernel
theorem dX7_carry_116 : decode cX7_carry 116 = .ok (.iload_n 2, 1) := by decide +kernel
theorem dX7_carry_117 : decode cX7_carry 117 = .ok (.invokevirtual 128, 3) := by decide +kernel
theorem dX7_carry_120 : decode cX7_carry 120 = .ok (.goto 4, 3) := by decide +kernel
theorem dX7_carry_123 : decode cX7_carry 123 = .ok (.iconst 0, 1) := by decide +kernel
theorem dX7_carry_124 : decode cX7_carry 124 = .ok (.istore 4, 2) := by decide +kernel
theorem dX7_carry_126 : decode cX7_carry 126 = .ok (.iload_n 3, 1) := by decide +kernel
theorem dX7_carry_127 : decode cX7_carry 127 = .ok (.ifCond .eq 12, 3) := by decide +kernel
theorem dX7_carry_130 : decode cX7_carry 130 = .ok (.iload 4, 2) := by decide +kernel
theorem dX7_carry_132 : decode cX7_carry 132 = .ok (.ifCond .le 7, 3) := by decide +kernel
theorem dX7_carry_135 : decode cX7_carry 135 = .ok (.iconst 1, 1) := by decide +kernel
theorem dX7_carry_136 : decode cX7_carry 136 = .ok (.goto 4, 3) := by decide +kernel
theorem dX7_carry_139 : decode cX7_carry 139 = .ok (.iconst 0, 1) := by decide +kernel
theorem dX7_carry_140 : decode cX7_carry 140 = .ok (.ireturn, 1) := by decide +kernel
theorem iX7_carry_0 {v0 : Value} {x : Int32} {Ls st : List Value} {h : AH} : ev L xs mdX7_carry 0 (v0 :: .int x :: Ls) (st) h = ev L xs mdX7_carry 1 (v0 :: .int x :: Ls) (.int x :: st) (h) := e_iload_n dX7_carry_0 rfl
theorem iX7_carry_1  {Ls st : List Value} {h : AH} : ev L xs mdX7_carry 1 (Ls) (st) h = ev L xs mdX7_carry 3 (Ls) (.int (nI 100) :: st) (h) := e_bipush dX7_carry_1 (by decide)
theorem iX7_carry_3 {x z : Int32} {Ls st : List Value} {h : AH} : ev L xs mdX7_carry 3 Ls (.int z :: .int x :: st) h = if x = z then ev L xs mdX7_carry 6 Ls st h else ev L xs mdX7_carry 48 Ls st h := e_ic_ne dX7_carry_3 (by decide)
theorem iX7_carry_6 {x : Nat} {Ls st : List Value} {h : AH} : ev L xs mdX7_carry 6 (.ref x :: Ls) (st) h = ev L xs mdX7_carry 7 (.ref x :: Ls) (.ref x :: st) (h) := e_aload_n dX7_carry_6 rfl
theorem iX7_carry_7 {x : Nat} {Ls st : List Value} {h : AH} : ev L xs mdX7_carry 7 (.ref x :: Ls) (st) h = ev L xs mdX7_carry 8 (.ref x :: Ls) (.ref x :: st) (h) := e_aload_n dX7_carry_7 rfl
theorem iX7_carry_8 {a : Nat} {Ls st : List Value} {h : AH} (hk : hK h a = 7) : ev L xs mdX7_carry 8 (Ls) (.ref a :: st) h = ev L xs mdX7_carry 11 (Ls) (.int (hI h 126 a) :: st) (h) := e_getI (k := 7) (f := 14) (F := 126) dX7_carry_8 (by decide +kernel) rfl rfl hk
theorem iX7_carry_11 {a : Nat} {p0 : Int32} {Ls st : List Value} {h : AH} (hk : hK h a = 7) (hw : wds st ≤ 8) : ev L xs mdX7_carry 11 Ls (.int p0 :: .ref a :: st) h = kn L xs mdX7_carry 11 14 Ls st (ev L xs mdX7_canPass 0 [.ref a, .int p0] [] h) := e_callV (as := [.int p0]) dX7_carry_11 mr_7_131 (by decide) (by decide) rfl (by simp [wds, Value.category]; decide) rfl (by decide) hk hw
theorem iX7_carry_14 {v0 : Value} {v1 : Value} {v2 : Value} {v3 : Value} {x : Int32} {Ls st : List Value} {h : AH} (hc9 : v2.category = 1) : ev L xs mdX7_carry 14 (v0 :: v1 :: v2 :: v3 :: Ls) (.int x :: st) h = ev L xs mdX7_carry 15 (v0 :: v1 :: v2 :: .int x :: Ls) (st) (h) := e_istore_n dX7_carry_14 rfl (by decide) (by unfold catOK; show (_ || (v2.category == 1)) = true; rw [hc9]; rfl)
theorem iX7_carry_15 {v0 : Value} {v1 : Value} {v2 : Value} {x : Int32} {Ls st : List Value} {h : AH} : ev L xs mdX7_carry 15 (v0 :: v1 :: v2 :: .int x :: Ls) (st) h = ev L xs mdX7_carry 16 (v0 :: v1 :: v2 :: .int x :: Ls) (.int x :: st) (h) := e_iload_n dX7_carry_15 rfl
theorem iX7_carry_16 {x : Int32} {Ls st : List Value} {h : AH} : ev L xs mdX7_carry 16 Ls (.int x :: st) h = if x = nI 0 then ev L xs mdX7_carry 30 Ls st h else ev L xs mdX7_carry 19 Ls st h := e_if_eq dX7_carry_16 (by decide)
theorem iX7_carry_19 {x : Nat} {Ls st : List Value} {h : AH} : ev L xs mdX7_carry 19 (.ref x :: Ls) (st) h = ev L xs mdX7_carry 20 (.ref x :: Ls) (.ref x :: st) (h) := e_aload_n dX7_carry_19 rfl
theorem iX7_carry_20 {x : Nat} {Ls st : List Value} {h : AH} : ev L xs mdX7_carry 20 (.ref x :: Ls) (st) h = ev L xs mdX7_carry 21 (.ref x :: Ls) (.ref x :: st) (h) := e_aload_n dX7_carry_20 rfl
theorem iX7_carry_21 {a : Nat} {Ls st : List Value} {h : AH} (hk : hK h a = 7) : ev L xs mdX7_carry 21 (Ls) (.ref a :: st) h = ev L xs mdX7_carry 24 (Ls) (.int (hI h 126 a) :: st) (h) := e_getI (k := 7) (f := 14) (F := 126) dX7_carry_21 (by decide +kernel) rfl rfl hk
theorem iX7_carry_24 {a : Nat} {p0 : Int32} {Ls st : List Value} {h : AH} (hk : hK h a = 7) (hw : wds st ≤ 8) : ev L xs mdX7_carry 24 Ls (.int p0 :: .ref a :: st) h = kn L xs mdX7_carry 24 27 Ls st (ev L xs mdX7_passNow 0 [.ref a, .int p0, .null, .null] [] h) := e_callV (as := [.int p0]) dX7_carry_24 mr_7_134 (by decide) (by decide) rfl (by simp [wds, Value.category]; decide) rfl (by decide) hk hw
theorem iX7_carry_27  {Ls st : List Value} {h : AH} : ev L xs mdX7_carry 27 (Ls) (st) h = ev L xs mdX7_carry 31 (Ls) (st) (h) := e_goto dX7_carry_27 (by decide)
theorem iX7_carry_30  {Ls st : List Value} {h : AH} : ev L xs mdX7_carry 30 (Ls) (st) h = ev L xs mdX7_carry 31 (Ls) (.int (nI 0) :: st) (h) := e_iconst dX7_carry_30 (by decide)
theorem iX7_carry_31 {v0 : Value} {v1 : Value} {v2 : Value} {v3 : Value} {v4 : Value} {x : Int32} {Ls st : List Value} {h : AH} (hc9 : v3.category = 1) : ev L xs mdX7_carry 31 (v0 :: v1 :: v2 :: v3 :: v4 :: Ls) (.int x :: st) h = ev L xs mdX7_carry 33 (v0 :: v1 :: v2 :: v3 :: .int x :: Ls) (st) (h) := e_istore dX7_carry_31 rfl (by decide) (by unfold catOK; show (_ || (v3.category == 1)) = true; rw [hc9]; rfl)
theorem iX7_carry_33 {v0 : Value} {v1 : Value} {v2 : Value} {x : Int32} {Ls st : List Value} {h : AH} : ev L xs mdX7_carry 33 (v0 :: v1 :: v2 :: .int x :: Ls) (st) h = ev L xs mdX7_carry 34 (v0 :: v1 :: v2 :: .int x :: Ls) (.int x :: st) (h) := e_iload_n dX7_carry_33 rfl
theorem iX7_carry_34 {x : Int32} {Ls st : List Value} {h : AH} : ev L xs mdX7_carry 34 Ls (.int x :: st) h = if x = nI 0 then ev L xs mdX7_carry 46 Ls st h else ev L xs mdX7_carry 37 Ls st h := e_if_eq dX7_carry_34 (by decide)
theorem iX7_carry_37 {v0 : Value} {v1 : Value} {v2 : Value} {v3 : Value} {x : Int32} {Ls st : List Value} {h : AH} : ev L xs mdX7_carry 37 (v0 :: v1 :: v2 :: v3 :: .int x :: Ls) (st) h = ev L xs mdX7_carry 39 (v0 :: v1 :: v2 :: v3 :: .int x :: Ls) (.int x :: st) (h) := e_iload dX7_carry_37 rfl
theorem iX7_carry_39 {x : Int32} {Ls st : List Value} {h : AH} : ev L xs mdX7_carry 39 Ls (.int x :: st) h = if x < nI 0 then ev L xs mdX7_carry 46 Ls st h else ev L xs mdX7_carry 42 Ls st h := e_if_lt dX7_carry_39 (by decide)
theorem iX7_carry_42  {Ls st : List Value} {h : AH} : ev L xs mdX7_carry 42 (Ls) (st) h = ev L xs mdX7_carry 43 (Ls) (.int (nI 1) :: st) (h) := e_iconst dX7_carry_42 (by decide)
theorem iX7_carry_43  {Ls st : List Value} {h : AH} : ev L xs mdX7_carry 43 (Ls) (st) h = ev L xs mdX7_carry 47 (Ls) (st) (h) := e_goto dX7_carry_43 (by decide)
theorem iX7_carry_46  {Ls st : List Value} {h : AH} : ev L xs mdX7_carry 46 (Ls) (st) h = ev L xs mdX7_carry 47 (Ls) (.int (nI 0) :: st) (h) := e_iconst dX7_carry_46 (by decide)
theorem iX7_carry_47 {v : Int32} {Ls : List Value} {h : AH} (hv : v = nI 0 ∨ v = nI 1) : ev L xs mdX7_carry 47 Ls [.int v] h = some (.inl (some (.int v), h)) := e_zret dX7_carry_47 rfl hv
theorem iX7_carry_48 {v0 : Value} {x : Int32} {Ls st : List Value} {h : AH} : ev L xs mdX7_carry 48 (v0 :: .int x :: Ls) (st) h = ev L xs mdX7_carry 49 (v0 :: .int x :: Ls) (.int x :: st) (h) := e_iload_n dX7_carry_48 rfl
theorem iX7_carry_49  {Ls st : List Value} {h : AH} : ev L xs mdX7_carry 49 (Ls) (st) h = ev L xs mdX7_carry 51 (Ls) (.int (nI 115) :: st) (h) := e_bipush dX7_carry_49 (by decide)
theorem iX7_carry_51 {x z : Int32} {Ls st : List Value} {h : AH} : ev L xs mdX7_carry 51 Ls (.int z :: .int x :: st) h = if x = z then ev L xs mdX7_carry 54 Ls st h else ev L xs mdX7_carry 89 Ls st h := e_ic_ne dX7_carry_51 (by decide)
theorem iX7_carry_54 {x : Nat} {Ls st : List Value} {h : AH} : ev L xs mdX7_carry 54 (.ref x :: Ls) (st) h = ev L xs mdX7_carry 55 (.ref x :: Ls) (.ref x :: st) (h) := e_aload_n dX7_carry_54 rfl
theorem iX7_carry_55 {v0 : Value} {v1 : Value} {x : Int32} {Ls st : List Value} {h : AH} : ev L xs mdX7_carry 55 (v0 :: v1 :: .int x :: Ls) (st) h = ev L xs mdX7_carry 56 (v0 :: v1 :: .int x :: Ls) (.int x :: st) (h) := e_iload_n dX7_carry_55 rfl
theorem iX7_carry_56 {a : Nat} {p0 : Int32} {Ls st : List Value} {h : AH} (hk : hK h a = 7) (hw : wds st ≤ 8) : ev L xs mdX7_carry 56 Ls (.int p0 :: .ref a :: st) h = kn L xs mdX7_carry 56 59 Ls st (ev L xs mdX7_isGuard 0 [.ref a, .int p0] [] h) := e_callV (as := [.int p0]) dX7_carry_56 mr_7_122 (by decide) (by decide) rfl (by simp [wds, Value.category]; decide) rfl (by decide) hk hw
theorem iX7_carry_59 {x : Int32} {Ls st : List Value} {h : AH} : ev L xs mdX7_carry 59 Ls (.int x :: st) h = if x = nI 0 then ev L xs mdX7_carry 83 Ls st h else ev L xs mdX7_carry 62 Ls st h := e_if_eq dX7_carry_59 (by decide)
theorem iX7_carry_62 {x : Nat} {Ls st : List Value} {h : AH} : ev L xs mdX7_carry 62 (.ref x :: Ls) (st) h = ev L xs mdX7_carry 63 (.ref x :: Ls) (.ref x :: st) (h) := e_aload_n dX7_carry_62 rfl
theorem iX7_carry_63 {a : Nat} {Ls st : List Value} {h : AH} (hk : hK h a = 7) (hj : (hR h 113 a).isSome = true) : ev L xs mdX7_carry 63 (Ls) (.ref a :: st) h = ev L xs mdX7_carry 66 (Ls) (.ref ((hR h 113 a).getD 0) :: st) (h) := e_getR (k := 7) (f := 1) (F := 113) dX7_carry_63 (by decide +kernel) rfl rfl hk hj
theorem iX7_carry_66 {v0 : Value} {v1 : Value} {x : Int32} {Ls st : List Value} {h : AH} : ev L xs mdX7_carry 66 (v0 :: v1 :: .int x :: Ls) (st) h = ev L xs mdX7_carry 67 (v0 :: v1 :: .int x :: Ls) (.int x :: st) (h) := e_iload_n dX7_carry_66 rfl
theorem iX7_carry_67  {Ls st : List Value} {h : AH} : ev L xs mdX7_carry 67 (Ls) (st) h = ev L xs mdX7_carry 69 (Ls) (.int (nI 6) :: st) (h) := e_bipush dX7_carry_67 (by decide)
theorem iX7_carry_69 {x : Nat} {Ls st : List Value} {h : AH} : ev L xs mdX7_carry 69 (.ref x :: Ls) (st) h = ev L xs mdX7_carry 70 (.ref x :: Ls) (.ref x :: st) (h) := e_aload_n dX7_carry_69 rfl
theorem iX7_carry_70 {a : Nat} {Ls st : List Value} {h : AH} (hk : hK h a = 7) (hj : (hR h 113 a).isSome = true) : ev L xs mdX7_carry 70 (Ls) (.ref a :: st) h = ev L xs mdX7_carry 73 (Ls) (.ref ((hR h 113 a).getD 0) :: st) (h) := e_getR (k := 7) (f := 1) (F := 113) dX7_carry_70 (by decide +kernel) rfl rfl hk hj
theorem iX7_carry_73  {Ls st : List Value} {h : AH} : ev L xs mdX7_carry 73 (Ls) (st) h = ev L xs mdX7_carry 74 (Ls) (.int (nI 0) :: st) (h) := e_iconst dX7_carry_73 (by decide)
theorem iX7_carry_74 {a : Nat} {j : Int32} {Ls st : List Value} {h : AH} (hk : hK h a = 8) (hi : inA j (hN h a) = true) : ev L xs mdX7_carry 74 (Ls) (.int j :: .ref a :: st) h = ev L xs mdX7_carry 75 (Ls) (.int (hA h a j.toNatClampNeg) :: st) (h) := e_iald dX7_carry_74 hk hi
theorem iX7_carry_75 {x : Nat} {Ls st : List Value} {h : AH} : ev L xs mdX7_carry 75 (.ref x :: Ls) (st) h = ev L xs mdX7_carry 76 (.ref x :: Ls) (.ref x :: st) (h) := e_aload_n dX7_carry_75 rfl
theorem iX7_carry_76 {a : Nat} {Ls st : List Value} {h : AH} (hk : hK h a = 7) : ev L xs mdX7_carry 76 (Ls) (.ref a :: st) h = ev L xs mdX7_carry 79 (Ls) (.int (hI h 126 a) :: st) (h) := e_getI (k := 7) (f := 14) (F := 126) dX7_carry_76 (by decide +kernel) rfl rfl hk
theorem iX7_carry_79 {x z : Int32} {Ls st : List Value} {h : AH} : ev L xs mdX7_carry 79 (Ls) (.int z :: .int x :: st) h = ev L xs mdX7_carry 80 (Ls) (.int (x + z) :: st) (h) := e_iadd dX7_carry_79
theorem iX7_carry_80 {p0 : Nat} {p1 : Int32} {p2 : Int32} {p3 : Int32} {Ls st : List Value} {h : AH} (hw : wds st ≤ 8) : ev L xs mdX7_carry 80 Ls (.int p3 :: .int p2 :: .int p1 :: .ref p0 :: st) h = kn L xs mdX7_carry 80 83 Ls st (ev L xs mdX7_give 0 [.ref p0, .int p1, .int p2, .int p3] [] h) := e_callS (as := [.int p3, .int p2, .int p1, .ref p0]) dX7_carry_80 mr_7_84 (by decide) (by decide) rfl (by simp [wds, Value.category]; decide) rfl hw
theorem iX7_carry_83 {x : Nat} {Ls st : List Value} {h : AH} : ev L xs mdX7_carry 83 (.ref x :: Ls) (st) h = ev L xs mdX7_carry 84 (.ref x :: Ls) (.ref x :: st) (h) := e_aload_n dX7_carry_83 rfl
theorem iX7_carry_84 {v0 : Value} {v1 : Value} {x : Int32} {Ls st : List Value} {h : AH} : ev L xs mdX7_carry 84 (v0 :: v1 :: .int x :: Ls) (st) h = ev L xs mdX7_carry 85 (v0 :: v1 :: .int x :: Ls) (.int x :: st) (h) := e_iload_n dX7_carry_84 rfl
theorem iX7_carry_85 {a : Nat} {p0 : Int32} {Ls st : List Value} {h : AH} (hk : hK h a = 7) (hw : wds st ≤ 8) : ev L xs mdX7_carry 85 Ls (.int p0 :: .ref a :: st) h = kn L xs mdX7_carry 85 88 Ls st (ev L xs mdX7_isGuard 0 [.ref a, .int p0] [] h) := e_callV (as := [.int p0]) dX7_carry_85 mr_7_122 (by decide) (by decide) rfl (by simp [wds, Value.category]; decide) rfl (by decide) hk hw
theorem iX7_carry_88 {v : Int32} {Ls : List Value} {h : AH} (hv : v = nI 0 ∨ v = nI 1) : ev L xs mdX7_carry 88 Ls [.int v] h = some (.inl (some (.int v), h)) := e_zret dX7_carry_88 rfl hv
theorem iX7_carry_89 {x : Nat} {Ls st : List Value} {h : AH} : ev L xs mdX7_carry 89 (.ref x :: Ls) (st) h = ev L xs mdX7_carry 90 (.ref x :: Ls) (.ref x :: st) (h) := e_aload_n dX7_carry_89 rfl
theorem iX7_carry_90 {v0 : Value} {v1 : Value} {x : Int32} {Ls st : List Value} {h : AH} : ev L xs mdX7_carry 90 (v0 :: v1 :: .int x :: Ls) (st) h = ev L xs mdX7_carry 91 (v0 :: v1 :: .int x :: Ls) (.int x :: st) (h) := e_iload_n dX7_carry_90 rfl
theorem iX7_carry_91 {a : Nat} {p0 : Int32} {Ls st : List Value} {h : AH} (hk : hK h a = 7) (hw : wds st ≤ 8) : ev L xs mdX7_carry 91 Ls (.int p0 :: .ref a :: st) h = kn L xs mdX7_carry 91 94 Ls st (ev L xs mdX7_isPost 0 [.ref a, .int p0] [] h) := e_callV (as := [.int p0]) dX7_carry_91 mr_7_112 (by decide) (by decide) rfl (by simp [wds, Value.category]; decide) rfl (by decide) hk hw
theorem iX7_carry_94 {x : Int32} {Ls st : List Value} {h : AH} : ev L xs mdX7_carry 94 Ls (.int x :: st) h = if x = nI 0 then ev L xs mdX7_carry 109 Ls st h else ev L xs mdX7_carry 97 Ls st h := e_if_eq dX7_carry_94 (by decide)
theorem iX7_carry_97 {x : Nat} {Ls st : List Value} {h : AH} : ev L xs mdX7_carry 97 (.ref x :: Ls) (st) h = ev L xs mdX7_carry 98 (.ref x :: Ls) (.ref x :: st) (h) := e_aload_n dX7_carry_97 rfl
theorem iX7_carry_98 {v0 : Value} {v1 : Value} {x : Int32} {Ls st : List Value} {h : AH} : ev L xs mdX7_carry 98 (v0 :: v1 :: .int x :: Ls) (st) h = ev L xs mdX7_carry 99 (v0 :: v1 :: .int x :: Ls) (.int x :: st) (h) := e_iload_n dX7_carry_98 rfl
theorem iX7_carry_99 {a : Nat} {p0 : Int32} {Ls st : List Value} {h : AH} (hk : hK h a = 7) (hw : wds st ≤ 8) : ev L xs mdX7_carry 99 Ls (.int p0 :: .ref a :: st) h = kn L xs mdX7_carry 99 102 Ls st (ev L xs mdX7_canComplain 0 [.ref a, .int p0, .null] [] h) := e_callV (as := [.int p0]) dX7_carry_99 mr_7_125 (by decide) (by decide) rfl (by simp [wds, Value.category]; decide) rfl (by decide) hk hw
theorem iX7_carry_102 {x : Int32} {Ls st : List Value} {h : AH} : ev L xs mdX7_carry 102 Ls (.int x :: st) h = if x = nI 0 then ev L xs mdX7_carry 109 Ls st h else ev L xs mdX7_carry 105 Ls st h := e_if_eq dX7_carry_102 (by decide)
theorem iX7_carry_105  {Ls st : List Value} {h : AH} : ev L xs mdX7_carry 105 (Ls) (st) h = ev L xs mdX7_carry 106 (Ls) (.int (nI 1) :: st) (h) := e_iconst dX7_carry_105 (by decide)
theorem iX7_carry_106  {Ls st : List Value} {h : AH} : ev L xs mdX7_carry 106 (Ls) (st) h = ev L xs mdX7_carry 110 (Ls) (st) (h) := e_goto dX7_carry_106 (by decide)
theorem iX7_carry_109  {Ls st : List Value} {h : AH} : ev L xs mdX7_carry 109 (Ls) (st) h = ev L xs mdX7_carry 110 (Ls) (.int (nI 0) :: st) (h) := e_iconst dX7_carry_109 (by decide)
theorem iX7_carry_110 {v0 : Value} {v1 : Value} {v2 : Value} {v3 : Value} {x : Int32} {Ls st : List Value} {h : AH} (hc9 : v2.category = 1) : ev L xs mdX7_carry 110 (v0 :: v1 :: v2 :: v3 :: Ls) (.int x :: st) h = ev L xs mdX7_carry 111 (v0 :: v1 :: v2 :: .int x :: Ls) (st) (h) := e_istore_n dX7_carry_110 rfl (by decide) (by unfold catOK; show (_ || (v2.category == 1)) = true; rw [hc9]; rfl)
theorem iX7_carry_111 {v0 : Value} {v1 : Value} {v2 : Value} {x : Int32} {Ls st : List Value} {h : AH} : ev L xs mdX7_carry 111 (v0 :: v1 :: v2 :: .int x :: Ls) (st) h = ev L xs mdX7_carry 112 (v0 :: v1 :: v2 :: .int x :: Ls) (.int x :: st) (h) := e_iload_n dX7_carry_111 rfl
theorem iX7_carry_112 {x : Int32} {Ls st : List Value} {h : AH} : ev L xs mdX7_carry 112 Ls (.int x :: st) h = if x = nI 0 then ev L xs mdX7_carry 123 Ls st h else ev L xs mdX7_carry 115 Ls st h := e_if_eq dX7_carry_112 (by decide)
theorem iX7_carry_115 {x : Nat} {Ls st : List Value} {h : AH} : ev L xs mdX7_carry 115 (.ref x :: Ls) (st) h = ev L xs mdX7_carry 116 (.ref x :: Ls) (.ref x :: st) (h) := e_aload_n dX7_carry_115 rfl
theorem iX7_carry_116 {v0 : Value} {v1 : Value} {x : Int32} {Ls st : List Value} {h : AH} : ev L xs mdX7_carry 116 (v0 :: v1 :: .int x :: Ls) (st) h = ev L xs mdX7_carry 117 (v0 :: v1 :: .int x :: Ls) (.int x :: st) (h) := e_iload_n dX7_carry_116 rfl
theorem iX7_carry_117 {a : Nat} {p0 : Int32} {Ls st : List Value} {h : AH} (hk : hK h a = 7) (hw : wds st ≤ 8) : ev L xs mdX7_carry 117 Ls (.int p0 :: .ref a :: st) h = kn L xs mdX7_carry 117 120 Ls st (ev L xs mdX7_complainNow 0 [.ref a, .int p0] [] h) := e_callV (as := [.int p0]) dX7_carry_117 mr_7_128 (by decide) (by decide) rfl (by simp [wds, Value.category]; decide) rfl (by decide) hk hw
theorem iX7_carry_120  {Ls st : List Value} {h : AH} : ev L xs mdX7_carry 120 (Ls) (st) h = ev L xs mdX7_carry 124 (Ls) (st) (h) := e_goto dX7_carry_120 (by decide)
theorem iX7_carry_123  {Ls st : List Value} {h : AH} : ev L xs mdX7_carry 123 (Ls) (st) h = ev L xs mdX7_carry 124 (Ls) (.int (nI 0) :: st) (h) := e_iconst dX7_carry_123 (by decide)
theorem iX7_carry_124 {v0 : Value} {v1 : Value} {v2 : Value} {v3 : Value} {v4 : Value} {x : Int32} {Ls st : List Value} {h : AH} (hc9 : v3.category = 1) : ev L xs mdX7_carry 124 (v0 :: v1 :: v2 :: v3 :: v4 :: Ls) (.int x :: st) h = ev L xs mdX7_carry 126 (v0 :: v1 :: v2 :: v3 :: .int x :: Ls) (st) (h) := e_istore dX7_carry_124 rfl (by decide) (by unfold catOK; show (_ || (v3.category == 1)) = true; rw [hc9]; rfl)
theorem iX7_carry_126 {v0 : Value} {v1 : Value} {v2 : Value} {x : Int32} {Ls st : List Value} {h : AH} : ev L xs mdX7_carry 126 (v0 :: v1 :: v2 :: .int x :: Ls) (st) h = ev L xs mdX7_carry 127 (v0 :: v1 :: v2 :: .int x :: Ls) (.int x :: st) (h) := e_iload_n dX7_carry_126 rfl
theorem iX7_carry_127 {x : Int32} {Ls st : List Value} {h : AH} : ev L xs mdX7_carry 127 Ls (.int x :: st) h = if x = nI 0 then ev L xs mdX7_carry 139 Ls st h else ev L xs mdX7_carry 130 Ls st h := e_if_eq dX7_carry_127 (by decide)
theorem iX7_carry_130 {v0 : Value} {v1 : Value} {v2 : Value} {v3 : Value} {x : Int32} {Ls st : List Value} {h : AH} : ev L xs mdX7_carry 130 (v0 :: v1 :: v2 :: v3 :: .int x :: Ls) (st) h = ev L xs mdX7_carry 132 (v0 :: v1 :: v2 :: v3 :: .int x :: Ls) (.int x :: st) (h) := e_iload dX7_carry_130 rfl
theorem iX7_carry_132 {x : Int32} {Ls st : List Value} {h : AH} : ev L xs mdX7_carry 132 Ls (.int x :: st) h = if x ≤ nI 0 then ev L xs mdX7_carry 139 Ls st h else ev L xs mdX7_carry 135 Ls st h := e_if_le dX7_carry_132 (by decide)
theorem iX7_carry_135  {Ls st : List Value} {h : AH} : ev L xs mdX7_carry 135 (Ls) (st) h = ev L xs mdX7_carry 136 (Ls) (.int (nI 1) :: st) (h) := e_iconst dX7_carry_135 (by decide)
theorem iX7_carry_136  {Ls st : List Value} {h : AH} : ev L xs mdX7_carry 136 (Ls) (st) h = ev L xs mdX7_carry 140 (Ls) (st) (h) := e_goto dX7_carry_136 (by decide)
theorem iX7_carry_139  {Ls st : List Value} {h : AH} : ev L xs mdX7_carry 139 (Ls) (st) h = ev L xs mdX7_carry 140 (Ls) (.int (nI 0) :: st) (h) := e_iconst dX7_carry_139 (by decide)
theorem iX7_carry_140 {v : Int32} {Ls : List Value} {h : AH} (hv : v = nI 0 ∨ v = nI 1) : ev L xs mdX7_carry 140 Ls [.int v] h = some (.inl (some (.int v), h)) := e_zret dX7_carry_140 rfl hv
theorem dX7_carryOut_0 : decode cX7_carryOut 0 = .ok (.aload_n 0, 1) := by decide +kernel
theorem dX7_carryOut_1 : decode cX7_carryOut 1 = .ok (.iconst 0, 1) := by decide +kernel
theorem dX7_carryOut_2 : decode cX7_carryOut 2 = .ok (.putfield 34, 3) := by decide +kernel
theorem dX7_carryOut_5 : decode cX7_carryOut 5 = .ok (.aload_n 0, 1) := by decide +kernel
theorem dX7_carryOut_6 : decode cX7_carryOut 6 = .ok (.iconst 0, 1) := by decide +kernel
theorem dX7_carryOut_7 : decode cX7_carryOut 7 = .ok (.putfield 168, 3) := by decide +kernel
theorem dX7_carryOut_10 : decode cX7_carryOut 10 = .ok (.aload_n 0, 1) := by decide +kernel
theorem dX7_carryOut_11 : decode cX7_carryOut 11 = .ok (.iconst (-1), 1) := by decide +kernel
theorem dX7_carryOut_12 : decode cX7_carryOut 12 = .ok (.putfield 175, 3) := by decide +kernel
theorem dX7_carryOut_15 : decode cX7_carryOut 15 = .ok (.aload_n 0, 1) := by decide +kernel
theorem dX7_carryOut_16 : decode cX7_carryOut 16 = .ok (.getfield 175, 3) := by decide +kernel
theorem dX7_carryOut_19 : decode cX7_carryOut 19 = .ok (.ifCond .ge 26, 3) := by decide +kernel
theorem dX7_carryOut_22 : decode cX7_carryOut 22 = .ok (.aload_n 0, 1) := by decide +kernel
theorem dX7_carryOut_23 : decode cX7_carryOut 23 = .ok (.getfield 168, 3) := by decide +kernel
theorem dX7_carryOut_26 : decode cX7_carryOut 26 = .ok (.aload_n 0, 1) := by decide +kernel
theorem dX7_carryOut_27 : decode cX7_carryOut 27 = .ok (.getfield 165, 3) := by decide +kernel
theorem dX7_carryOut_30 : decode cX7_carryOut 30 = .ok (.if_icmp .ge 15, 3) := by decide +kernel
theorem dX7_carryOut_33 : decode cX7_carryOut 33 = .ok (.aload_n 0, 1) := by decide +kernel
theorem dX7_carryOut_34 : decode cX7_carryOut 34 = .ok (.aload_n 0, 1) := by decide +kernel
theorem dX7_carryOut_35 : decode cX7_carryOut 35 = .ok (.invokevirtual 197, 3) := by decide +kernel
theorem dX7_carryOut_38 : decode cX7_carryOut 38 = .ok (.invokevirtual 200, 3) := by decide +kernel
theorem dX7_carryOut_41 : decode cX7_carryOut 41 = .ok (.istore_n 1, 1) := by decide +kernel
theorem dX7_carryOut_42 : decode cX7_carryOut 42 = .ok (.goto (-27), 3) := by decide +kernel
theorem dX7_carryOut_45 : decode cX7_carryOut 45 = .ok (.aload_n 0, 1) := by decide +kernel
theorem dX7_carryOut_46 : decode cX7_carryOut 46 = .ok (.getfield 175, 3) := by decide +kernel
theorem dX7_carryOut_49 : decode cX7_carryOut 49 = .ok (.ifCond .lt 11, 3) := by decide +kernel
theorem dX7_carryOut_52 : decode cX7_carryOut 52 = .ok (.bipush (-10), 2) := by decide +kernel
theorem dX7_carryOut_54 : decode cX7_carryOut 54 = .ok (.aload_n 0, 1) := by decide +kernel
theorem dX7_carryOut_55 : decode cX7_carryOut 55 = .ok (.getfield 175, 3) := by decide +kernel
theorem dX7_carryOut_58 : decode cX7_carryOut 58 = .ok (.isub, 1) := by decide +kernel
theorem dX7_carryOut_59 : decode cX7_carryOut 59 = .ok (.ireturn, 1) := by decide +kernel
theorem dX7_carryOut_60 : decode cX7_carryOut 60 = .ok (.aload_n 0, 1) := by decide +kernel
theorem dX7_carryOut_61 : decode cX7_carryOut 61 = .ok (.invokevirtual 109, 3) := by decide +kernel
theorem dX7_carryOut_64 : decode cX7_carryOut 64 = .ok (.aload_n 0, 1) := by decide +kernel
theorem dX7_carryOut_65 : decode cX7_carryOut 65 = .ok (.iconst 0, 1) := by decide +kernel
theorem dX7_carryOut_66 : decode cX7_carryOut 66 = .ok (.putfield 168, 3) := by decide +kernel
theorem dX7_carryOut_69 : decode cX7_carryOut 69 = .ok (.iconst 0, 1) := by decide +kernel
theorem dX7_carryOut_70 : decode cX7_carryOut 70 = .ok (.istore_n 1, 1) := by decide +kernel
theorem dX7_carryOut_71 : decode cX7_carryOut 71 = .ok (.iconst 1, 1) := by decide +kernel
theorem dX7_carryOut_72 : decode cX7_carryOut 72 = .ok (.istore_n 2, 1) := by decide +kernel
theorem dX7_carryOut_73 : decode cX7_carryOut 73 = .ok (.iload_n 2, 1) := by decide +kernel
theorem dX7_carryOut_74 : decode cX7_carryOut 74 = .ok (.ifCond .eq 49, 3) := by decide +kernel
theorem dX7_carryOut_77 : decode cX7_carryOut 77 = .ok (.aload_n 0, 1) := by decide +kernel
theorem dX7_carryOut_78 : decode cX7_carryOut 78 = .ok (.getfield 168, 3) := by decide +kernel
theorem dX7_carryOut_81 : decode cX7_carryOut 81 = .ok (.aload_n 0, 1) := by decide +kernel
theorem dX7_carryOut_82 : decode cX7_carryOut 82 = .ok (.getfield 165, 3) := by decide +kernel
theorem dX7_carryOut_85 : decode cX7_carryOut 85 = .ok (.if_icmp .ge 38, 3) := by decide +kernel
theorem dX7_carryOut_88 : decode cX7_carryOut 88 = .ok (.aload_n 0, 1) := by decide +kernel
theorem dX7_carryOut_89 : decode cX7_carryOut 89 = .ok (.invokevirtual 197, 3) := by decide +kernel
theorem dX7_carryOut_92 : decode cX7_carryOut 92 = .ok (.istore_n 3, 1) := by decide +kernel
theorem dX7_carryOut_93 : decode cX7_carryOut 93 = .ok (.aload_n 0, 1) := by decide +kernel
theorem dX7_carryOut_94 : decode cX7_carryOut 94 = .ok (.iload_n 3, 1) := by decide +kernel
theorem dX7_carryOut_95 : decode cX7_carryOut 95 = .ok (.invokevirtual 200, 3) := by decide +kernel
theorem dX7_carryOut_98 : decode cX7_carryOut 98 = .ok (.istore 4, 2) := by decide +kernel
theorem dX7_carryOut_100 : decode cX7_carryOut 100 = .ok (.aload_n 0, 1) := by decide +kernel
theorem dX7_carryOut_101 : decode cX7_carryOut 101 = .ok (.iload_n 3, 1) := by decide +kernel
theorem dX7_carryOut_102 : decode cX7_carryOut 102 = .ok (.iload 4, 2) := by decide +kernel
theorem dX7_carryOut_104 : decode cX7_carryOut 104 = .ok (.invokevirtual 203, 3) := by decide +kernel
theorem dX7_carryOut_107 : decode cX7_carryOut 107 = .ok (.istore_n 2, 1) := by decide +kernel
theorem dX7_carryOut_108 : decode cX7_carryOut 108 = .ok (.iload_n 1, 1) := by decide +kernel
theorem dX7_carryOut_109 : decode cX7_carryOut 109 = .ok (.iload_n 2, 1) := by decide +kernel
theorem dX7_carryOut_110 : decode cX7_carryOut 110 = .ok (.ifCond .eq 7, 3) := by decide +kernel
theorem dX7_carryOut_113 : decode cX7_carryOut 113 = .ok (.iconst 1, 1) := by decide +kernel
theorem dX7_carryOut_114 : decode cX7_carryOut 114 = .ok (.goto 4, 3) := by decide +kernel
theorem dX7_carryOut_117 : decode cX7_carryOut 117 = .ok (.iconst 0, 1) := by decide +kernel
theorem dX7_carryOut_118 : decode cX7_carryOut 118 = .ok (.iadd, 1) := by decide +kernel
theorem dX7_carryOut_119 : decode cX7_carryOut 119 = .ok (.istore_n 1, 1) := by decide +kernel
theorem dX7_carryOut_120 : decode cX7_carryOut 120 = .ok (.goto (-47), 3) := by decide +kernel
theorem dX7_carryOut_123 : decode cX7_carryOut 123 = .ok (.iload_n 1, 1) := by decide +kernel
theorem dX7_carryOut_124 : decode cX7_carryOut 124 = .ok (.ireturn, 1) := by decide +kernel
theorem iX7_carryOut_0 {x : Nat} {Ls st : List Value} {h : AH} : ev L xs mdX7_carryOut 0 (.ref x :: Ls) (st) h = ev L xs mdX7_carryOut 1 (.ref x :: Ls) (.ref x :: st) (h) := e_aload_n dX7_carryOut_0 rfl
theorem iX7_carryOut_1  {Ls st : List Value} {h : AH} : ev L xs mdX7_carryOut 1 (Ls) (st) h = ev L xs mdX7_carryOut 2 (Ls) (.int (nI 0) :: st) (h) := e_iconst dX7_carryOut_1 (by decide)
theorem iX7_carryOut_2 {a : Nat} {v : Int32} {Ls st : List Value} {h : AH} (hk : hK h a = 7) : ev L xs mdX7_carryOut 2 (Ls) (.int v :: .ref a :: st) h = ev L xs mdX7_carryOut 5 (Ls) (st) (sI h 112 a v) := e_putI (k := 7) (f := 0) (F := 112) dX7_carryOut_2 (by decide +kernel) rfl (by decide +kernel) rfl hk
theorem iX7_carryOut_5 {x : Nat} {Ls st : List Value} {h : AH} : ev L xs mdX7_carryOut 5 (.ref x :: Ls) (st) h = ev L xs mdX7_carryOut 6 (.ref x :: Ls) (.ref x :: st) (h) := e_aload_n dX7_carryOut_5 rfl
theorem iX7_carryOut_6  {Ls st : List Value} {h : AH} : ev L xs mdX7_carryOut 6 (Ls) (st) h = ev L xs mdX7_carryOut 7 (Ls) (.int (nI 0) :: st) (h) := e_iconst dX7_carryOut_6 (by decide)
theorem iX7_carryOut_7 {a : Nat} {v : Int32} {Ls st : List Value} {h : AH} (hk : hK h a = 7) : ev L xs mdX7_carryOut 7 (Ls) (.int v :: .ref a :: st) h = ev L xs mdX7_carryOut 10 (Ls) (st) (sI h 124 a v) := e_putI (k := 7) (f := 12) (F := 124) dX7_carryOut_7 (by decide +kernel) rfl (by decide +kernel) rfl hk
theorem iX7_carryOut_10 {x : Nat} {Ls st : List Value} {h : AH} : ev L xs mdX7_carryOut 10 (.ref x :: Ls) (st) h = ev L xs mdX7_carryOut 11 (.ref x :: Ls) (.ref x :: st) (h) := e_aload_n dX7_carryOut_10 rfl
theorem iX7_carryOut_11  {Ls st : List Value} {h : AH} : ev L xs mdX7_carryOut 11 (Ls) (st) h = ev L xs mdX7_carryOut 12 (Ls) (.int (-1) :: st) (h) := e_iconst dX7_carryOut_11 (by decide)
theorem iX7_carryOut_12 {a : Nat} {v : Int32} {Ls st : List Value} {h : AH} (hk : hK h a = 7) : ev L xs mdX7_carryOut 12 (Ls) (.int v :: .ref a :: st) h = ev L xs mdX7_carryOut 15 (Ls) (st) (sI h 125 a v) := e_putI (k := 7) (f := 13) (F := 125) dX7_carryOut_12 (by decide +kernel) rfl (by decide +kernel) rfl hk
theorem iX7_carryOut_15 {x : Nat} {Ls st : List Value} {h : AH} : ev L xs mdX7_carryOut 15 (.ref x :: Ls) (st) h = ev L xs mdX7_carryOut 16 (.ref x :: Ls) (.ref x :: st) (h) := e_aload_n dX7_carryOut_15 rfl
theorem iX7_carryOut_16 {a : Nat} {Ls st : List Value} {h : AH} (hk : hK h a = 7) : ev L xs mdX7_carryOut 16 (Ls) (.ref a :: st) h = ev L xs mdX7_carryOut 19 (Ls) (.int (hI h 125 a) :: st) (h) := e_getI (k := 7) (f := 13) (F := 125) dX7_carryOut_16 (by decide +kernel) rfl rfl hk
theorem iX7_carryOut_19 {x : Int32} {Ls st : List Value} {h : AH} : ev L xs mdX7_carryOut 19 Ls (.int x :: st) h = if nI 0 ≤ x then ev L xs mdX7_carryOut 45 Ls st h else ev L xs mdX7_carryOut 22 Ls st h := e_if_ge dX7_carryOut_19 (by decide)
theorem iX7_carryOut_22 {x : Nat} {Ls st : List Value} {h : AH} : ev L xs mdX7_carryOut 22 (.ref x :: Ls) (st) h = ev L xs mdX7_carryOut 23 (.ref x :: Ls) (.ref x :: st) (h) := e_aload_n dX7_carryOut_22 rfl
theorem iX7_carryOut_23 {a : Nat} {Ls st : List Value} {h : AH} (hk : hK h a = 7) : ev L xs mdX7_carryOut 23 (Ls) (.ref a :: st) h = ev L xs mdX7_carryOut 26 (Ls) (.int (hI h 124 a) :: st) (h) := e_getI (k := 7) (f := 12) (F := 124) dX7_carryOut_23 (by decide +kernel) rfl rfl hk
theorem iX7_carryOut_26 {x : Nat} {Ls st : List Value} {h : AH} : ev L xs mdX7_carryOut 26 (.ref x :: Ls) (st) h = ev L xs mdX7_carryOut 27 (.ref x :: Ls) (.ref x :: st) (h) := e_aload_n dX7_carryOut_26 rfl
theorem iX7_carryOut_27 {a : Nat} {Ls st : List Value} {h : AH} (hk : hK h a = 7) : ev L xs mdX7_carryOut 27 (Ls) (.ref a :: st) h = ev L xs mdX7_carryOut 30 (Ls) (.int (hI h 118 a) :: st) (h) := e_getI (k := 7) (f := 6) (F := 118) dX7_carryOut_27 (by decide +kernel) rfl rfl hk
theorem iX7_carryOut_30 {x z : Int32} {Ls st : List Value} {h : AH} : ev L xs mdX7_carryOut 30 Ls (.int z :: .int x :: st) h = if z ≤ x then ev L xs mdX7_carryOut 45 Ls st h else ev L xs mdX7_carryOut 33 Ls st h := e_ic_ge dX7_carryOut_30 (by decide)
theorem iX7_carryOut_33 {x : Nat} {Ls st : List Value} {h : AH} : ev L xs mdX7_carryOut 33 (.ref x :: Ls) (st) h = ev L xs mdX7_carryOut 34 (.ref x :: Ls) (.ref x :: st) (h) := e_aload_n dX7_carryOut_33 rfl
theorem iX7_carryOut_34 {x : Nat} {Ls st : List Value} {h : AH} : ev L xs mdX7_carryOut 34 (.ref x :: Ls) (st) h = ev L xs mdX7_carryOut 35 (.ref x :: Ls) (.ref x :: st) (h) := e_aload_n dX7_carryOut_34 rfl
theorem iX7_carryOut_35 {a : Nat} {Ls st : List Value} {h : AH} (hk : hK h a = 7) (hw : wds st ≤ 8) : ev L xs mdX7_carryOut 35 Ls (.ref a :: st) h = kn L xs mdX7_carryOut 35 38 Ls st (ev L xs mdX7_readOrder 0 [.ref a, .null] [] h) := e_callV (as := []) dX7_carryOut_35 mr_7_197 (by decide) (by decide) rfl (by simp [wds, Value.category]; decide) rfl (by decide) hk hw
theorem iX7_carryOut_38 {a : Nat} {p0 : Int32} {Ls st : List Value} {h : AH} (hk : hK h a = 7) (hw : wds st ≤ 8) : ev L xs mdX7_carryOut 38 Ls (.int p0 :: .ref a :: st) h = kn L xs mdX7_carryOut 38 41 Ls st (ev L xs mdX7_readRest 0 [.ref a, .int p0, .null] [] h) := e_callV (as := [.int p0]) dX7_carryOut_38 mr_7_200 (by decide) (by decide) rfl (by simp [wds, Value.category]; decide) rfl (by decide) hk hw
theorem iX7_carryOut_41 {v0 : Value} {v1 : Value} {x : Int32} {Ls st : List Value} {h : AH} (hc9 : v0.category = 1) : ev L xs mdX7_carryOut 41 (v0 :: v1 :: Ls) (.int x :: st) h = ev L xs mdX7_carryOut 42 (v0 :: .int x :: Ls) (st) (h) := e_istore_n dX7_carryOut_41 rfl (by decide) (by unfold catOK; show (_ || (v0.category == 1)) = true; rw [hc9]; rfl)
theorem iX7_carryOut_42  {Ls st : List Value} {h : AH} : ev L xs mdX7_carryOut 42 (Ls) (st) h = ev L xs mdX7_carryOut 15 (Ls) (st) (h) := e_goto dX7_carryOut_42 (by decide)
theorem iX7_carryOut_45 {x : Nat} {Ls st : List Value} {h : AH} : ev L xs mdX7_carryOut 45 (.ref x :: Ls) (st) h = ev L xs mdX7_carryOut 46 (.ref x :: Ls) (.ref x :: st) (h) := e_aload_n dX7_carryOut_45 rfl
theorem iX7_carryOut_46 {a : Nat} {Ls st : List Value} {h : AH} (hk : hK h a = 7) : ev L xs mdX7_carryOut 46 (Ls) (.ref a :: st) h = ev L xs mdX7_carryOut 49 (Ls) (.int (hI h 125 a) :: st) (h) := e_getI (k := 7) (f := 13) (F := 125) dX7_carryOut_46 (by decide +kernel) rfl rfl hk
theorem iX7_carryOut_49 {x : Int32} {Ls st : List Value} {h : AH} : ev L xs mdX7_carryOut 49 Ls (.int x :: st) h = if x < nI 0 then ev L xs mdX7_carryOut 60 Ls st h else ev L xs mdX7_carryOut 52 Ls st h := e_if_lt dX7_carryOut_49 (by decide)
theorem iX7_carryOut_52  {Ls st : List Value} {h : AH} : ev L xs mdX7_carryOut 52 (Ls) (st) h = ev L xs mdX7_carryOut 54 (Ls) (.int (-10) :: st) (h) := e_bipush dX7_carryOut_52 (by decide)
theorem iX7_carryOut_54 {x : Nat} {Ls st : List Value} {h : AH} : ev L xs mdX7_carryOut 54 (.ref x :: Ls) (st) h = ev L xs mdX7_carryOut 55 (.ref x :: Ls) (.ref x :: st) (h) := e_aload_n dX7_carryOut_54 rfl
theorem iX7_carryOut_55 {a : Nat} {Ls st : List Value} {h : AH} (hk : hK h a = 7) : ev L xs mdX7_carryOut 55 (Ls) (.ref a :: st) h = ev L xs mdX7_carryOut 58 (Ls) (.int (hI h 125 a) :: st) (h) := e_getI (k := 7) (f := 13) (F := 125) dX7_carryOut_55 (by decide +kernel) rfl rfl hk
theorem iX7_carryOut_58 {x z : Int32} {Ls st : List Value} {h : AH} : ev L xs mdX7_carryOut 58 (Ls) (.int z :: .int x :: st) h = ev L xs mdX7_carryOut 59 (Ls) (.int (x - z) :: st) (h) := e_isub dX7_carryOut_58
theorem iX7_carryOut_59 {v : Int32} {Ls : List Value} {h : AH} : ev L xs mdX7_carryOut 59 Ls [.int v] h = some (.inl (some (.int v), h)) := e_iret dX7_carryOut_59 rfl
theorem iX7_carryOut_60 {x : Nat} {Ls st : List Value} {h : AH} : ev L xs mdX7_carryOut 60 (.ref x :: Ls) (st) h = ev L xs mdX7_carryOut 61 (.ref x :: Ls) (.ref x :: st) (h) := e_aload_n dX7_carryOut_60 rfl
theorem iX7_carryOut_61 {a : Nat} {Ls st : List Value} {h : AH} (hk : hK h a = 7) (hw : wds st ≤ 8) : ev L xs mdX7_carryOut 61 Ls (.ref a :: st) h = kn L xs mdX7_carryOut 61 64 Ls st (ev L xs mdX7_save 0 [.ref a, .null] [] h) := e_callV (as := []) dX7_carryOut_61 mr_7_109 (by decide) (by decide) rfl (by simp [wds, Value.category]; decide) rfl (by decide) hk hw
theorem iX7_carryOut_64 {x : Nat} {Ls st : List Value} {h : AH} : ev L xs mdX7_carryOut 64 (.ref x :: Ls) (st) h = ev L xs mdX7_carryOut 65 (.ref x :: Ls) (.ref x :: st) (h) := e_aload_n dX7_carryOut_64 rfl
theorem iX7_carryOut_65  {Ls st : List Value} {h : AH} : ev L xs mdX7_carryOut 65 (Ls) (st) h = ev L xs mdX7_carryOut 66 (Ls) (.int (nI 0) :: st) (h) := e_iconst dX7_carryOut_65 (by decide)
theorem iX7_carryOut_66 {a : Nat} {v : Int32} {Ls st : List Value} {h : AH} (hk : hK h a = 7) : ev L xs mdX7_carryOut 66 (Ls) (.int v :: .ref a :: st) h = ev L xs mdX7_carryOut 69 (Ls) (st) (sI h 124 a v) := e_putI (k := 7) (f := 12) (F := 124) dX7_carryOut_66 (by decide +kernel) rfl (by decide +kernel) rfl hk
theorem iX7_carryOut_69  {Ls st : List Value} {h : AH} : ev L xs mdX7_carryOut 69 (Ls) (st) h = ev L xs mdX7_carryOut 70 (Ls) (.int (nI 0) :: st) (h) := e_iconst dX7_carryOut_69 (by decide)
theorem iX7_carryOut_70 {v0 : Value} {v1 : Value} {x : Int32} {Ls st : List Value} {h : AH} (hc9 : v0.category = 1) : ev L xs mdX7_carryOut 70 (v0 :: v1 :: Ls) (.int x :: st) h = ev L xs mdX7_carryOut 71 (v0 :: .int x :: Ls) (st) (h) := e_istore_n dX7_carryOut_70 rfl (by decide) (by unfold catOK; show (_ || (v0.category == 1)) = true; rw [hc9]; rfl)
theorem iX7_carryOut_71  {Ls st : List Value} {h : AH} : ev L xs mdX7_carryOut 71 (Ls) (st) h = ev L xs mdX7_carryOut 72 (Ls) (.int (nI 1) :: st) (h) := e_iconst dX7_carryOut_71 (by decide)
theorem iX7_carryOut_72 {v0 : Value} {v1 : Value} {v2 : Value} {x : Int32} {Ls st : List Value} {h : AH} (hc9 : v1.category = 1) : ev L xs mdX7_carryOut 72 (v0 :: v1 :: v2 :: Ls) (.int x :: st) h = ev L xs mdX7_carryOut 73 (v0 :: v1 :: .int x :: Ls) (st) (h) := e_istore_n dX7_carryOut_72 rfl (by decide) (by unfold catOK; show (_ || (v1.category == 1)) = true; rw [hc9]; rfl)
theorem iX7_carryOut_73 {v0 : Value} {v1 : Value} {x : Int32} {Ls st : List Value} {h : AH} : ev L xs mdX7_carryOut 73 (v0 :: v1 :: .int x :: Ls) (st) h = ev L xs mdX7_carryOut 74 (v0 :: v1 :: .int x :: Ls) (.int x :: st) (h) := e_iload_n dX7_carryOut_73 rfl
theorem iX7_carryOut_74 {x : Int32} {Ls st : List Value} {h : AH} : ev L xs mdX7_carryOut 74 Ls (.int x :: st) h = if x = nI 0 then ev L xs mdX7_carryOut 123 Ls st h else ev L xs mdX7_carryOut 77 Ls st h := e_if_eq dX7_carryOut_74 (by decide)
theorem iX7_carryOut_77 {x : Nat} {Ls st : List Value} {h : AH} : ev L xs mdX7_carryOut 77 (.ref x :: Ls) (st) h = ev L xs mdX7_carryOut 78 (.ref x :: Ls) (.ref x :: st) (h) := e_aload_n dX7_carryOut_77 rfl
theorem iX7_carryOut_78 {a : Nat} {Ls st : List Value} {h : AH} (hk : hK h a = 7) : ev L xs mdX7_carryOut 78 (Ls) (.ref a :: st) h = ev L xs mdX7_carryOut 81 (Ls) (.int (hI h 124 a) :: st) (h) := e_getI (k := 7) (f := 12) (F := 124) dX7_carryOut_78 (by decide +kernel) rfl rfl hk
theorem iX7_carryOut_81 {x : Nat} {Ls st : List Value} {h : AH} : ev L xs mdX7_carryOut 81 (.ref x :: Ls) (st) h = ev L xs mdX7_carryOut 82 (.ref x :: Ls) (.ref x :: st) (h) := e_aload_n dX7_carryOut_81 rfl
theorem iX7_carryOut_82 {a : Nat} {Ls st : List Value} {h : AH} (hk : hK h a = 7) : ev L xs mdX7_carryOut 82 (Ls) (.ref a :: st) h = ev L xs mdX7_carryOut 85 (Ls) (.int (hI h 118 a) :: st) (h) := e_getI (k := 7) (f := 6) (F := 118) dX7_carryOut_82 (by decide +kernel) rfl rfl hk
theorem iX7_carryOut_85 {x z : Int32} {Ls st : List Value} {h : AH} : ev L xs mdX7_carryOut 85 Ls (.int z :: .int x :: st) h = if z ≤ x then ev L xs mdX7_carryOut 123 Ls st h else ev L xs mdX7_carryOut 88 Ls st h := e_ic_ge dX7_carryOut_85 (by decide)
theorem iX7_carryOut_88 {x : Nat} {Ls st : List Value} {h : AH} : ev L xs mdX7_carryOut 88 (.ref x :: Ls) (st) h = ev L xs mdX7_carryOut 89 (.ref x :: Ls) (.ref x :: st) (h) := e_aload_n dX7_carryOut_88 rfl
theorem iX7_carryOut_89 {a : Nat} {Ls st : List Value} {h : AH} (hk : hK h a = 7) (hw : wds st ≤ 8) : ev L xs mdX7_carryOut 89 Ls (.ref a :: st) h = kn L xs mdX7_carryOut 89 92 Ls st (ev L xs mdX7_readOrder 0 [.ref a, .null] [] h) := e_callV (as := []) dX7_carryOut_89 mr_7_197 (by decide) (by decide) rfl (by simp [wds, Value.category]; decide) rfl (by decide) hk hw
theorem iX7_carryOut_92 {v0 : Value} {v1 : Value} {v2 : Value} {v3 : Value} {x : Int32} {Ls st : List Value} {h : AH} (hc9 : v2.category = 1) : ev L xs mdX7_carryOut 92 (v0 :: v1 :: v2 :: v3 :: Ls) (.int x :: st) h = ev L xs mdX7_carryOut 93 (v0 :: v1 :: v2 :: .int x :: Ls) (st) (h) := e_istore_n dX7_carryOut_92 rfl (by decide) (by unfold catOK; show (_ || (v2.category == 1)) = true; rw [hc9]; rfl)
theorem iX7_carryOut_93 {x : Nat} {Ls st : List Value} {h : AH} : ev L xs mdX7_carryOut 93 (.ref x :: Ls) (st) h = ev L xs mdX7_carryOut 94 (.ref x :: Ls) (.ref x :: st) (h) := e_aload_n dX7_carryOut_93 rfl
theorem iX7_carryOut_94 {v0 : Value} {v1 : Value} {v2 : Value} {x : Int32} {Ls st : List Value} {h : AH} : ev L xs mdX7_carryOut 94 (v0 :: v1 :: v2 :: .int x :: Ls) (st) h = ev L xs mdX7_carryOut 95 (v0 :: v1 :: v2 :: .int x :: Ls) (.int x :: st) (h) := e_iload_n dX7_carryOut_94 rfl
theorem iX7_carryOut_95 {a : Nat} {p0 : Int32} {Ls st : List Value} {h : AH} (hk : hK h a = 7) (hw : wds st ≤ 8) : ev L xs mdX7_carryOut 95 Ls (.int p0 :: .ref a :: st) h = kn L xs mdX7_carryOut 95 98 Ls st (ev L xs mdX7_readRest 0 [.ref a, .int p0, .null] [] h) := e_callV (as := [.int p0]) dX7_carryOut_95 mr_7_200 (by decide) (by decide) rfl (by simp [wds, Value.category]; decide) rfl (by decide) hk hw
theorem iX7_carryOut_98 {v0 : Value} {v1 : Value} {v2 : Value} {v3 : Value} {v4 : Value} {x : Int32} {Ls st : List Value} {h : AH} (hc9 : v3.category = 1) : ev L xs mdX7_carryOut 98 (v0 :: v1 :: v2 :: v3 :: v4 :: Ls) (.int x :: st) h = ev L xs mdX7_carryOut 100 (v0 :: v1 :: v2 :: v3 :: .int x :: Ls) (st) (h) := e_istore dX7_carryOut_98 rfl (by decide) (by unfold catOK; show (_ || (v3.category == 1)) = true; rw [hc9]; rfl)
theorem iX7_carryOut_100 {x : Nat} {Ls st : List Value} {h : AH} : ev L xs mdX7_carryOut 100 (.ref x :: Ls) (st) h = ev L xs mdX7_carryOut 101 (.ref x :: Ls) (.ref x :: st) (h) := e_aload_n dX7_carryOut_100 rfl
theorem iX7_carryOut_101 {v0 : Value} {v1 : Value} {v2 : Value} {x : Int32} {Ls st : List Value} {h : AH} : ev L xs mdX7_carryOut 101 (v0 :: v1 :: v2 :: .int x :: Ls) (st) h = ev L xs mdX7_carryOut 102 (v0 :: v1 :: v2 :: .int x :: Ls) (.int x :: st) (h) := e_iload_n dX7_carryOut_101 rfl
theorem iX7_carryOut_102 {v0 : Value} {v1 : Value} {v2 : Value} {v3 : Value} {x : Int32} {Ls st : List Value} {h : AH} : ev L xs mdX7_carryOut 102 (v0 :: v1 :: v2 :: v3 :: .int x :: Ls) (st) h = ev L xs mdX7_carryOut 104 (v0 :: v1 :: v2 :: v3 :: .int x :: Ls) (.int x :: st) (h) := e_iload dX7_carryOut_102 rfl
theorem iX7_carryOut_104 {a : Nat} {p0 : Int32} {p1 : Int32} {Ls st : List Value} {h : AH} (hk : hK h a = 7) (hw : wds st ≤ 8) : ev L xs mdX7_carryOut 104 Ls (.int p1 :: .int p0 :: .ref a :: st) h = kn L xs mdX7_carryOut 104 107 Ls st (ev L xs mdX7_carry 0 [.ref a, .int p0, .int p1, .null, .null] [] h) := e_callV (as := [.int p1, .int p0]) dX7_carryOut_104 mr_7_203 (by decide) (by decide) rfl (by simp [wds, Value.category]; decide) rfl (by decide) hk hw
theorem iX7_carryOut_107 {v0 : Value} {v1 : Value} {v2 : Value} {x : Int32} {Ls st : List Value} {h : AH} (hc9 : v1.category = 1) : ev L xs mdX7_carryOut 107 (v0 :: v1 :: v2 :: Ls) (.int x :: st) h = ev L xs mdX7_carryOut 108 (v0 :: v1 :: .int x :: Ls) (st) (h) := e_istore_n dX7_carryOut_107 rfl (by decide) (by unfold catOK; show (_ || (v1.category == 1)) = true; rw [hc9]; rfl)
theorem iX7_carryOut_108 {v0 : Value} {x : Int32} {Ls st : List Value} {h : AH} : ev L xs mdX7_carryOut 108 (v0 :: .int x :: Ls) (st) h = ev L xs mdX7_carryOut 109 (v0 :: .int x :: Ls) (.int x :: st) (h) := e_iload_n dX7_carryOut_108 rfl
theorem iX7_carryOut_109 {v0 : Value} {v1 : Value} {x : Int32} {Ls st : List Value} {h : AH} : ev L xs mdX7_carryOut 109 (v0 :: v1 :: .int x :: Ls) (st) h = ev L xs mdX7_carryOut 110 (v0 :: v1 :: .int x :: Ls) (.int x :: st) (h) := e_iload_n dX7_carryOut_109 rfl
theorem iX7_carryOut_110 {x : Int32} {Ls st : List Value} {h : AH} : ev L xs mdX7_carryOut 110 Ls (.int x :: st) h = if x = nI 0 then ev L xs mdX7_carryOut 117 Ls st h else ev L xs mdX7_carryOut 113 Ls st h := e_if_eq dX7_carryOut_110 (by decide)
theorem iX7_carryOut_113  {Ls st : List Value} {h : AH} : ev L xs mdX7_carryOut 113 (Ls) (st) h = ev L xs mdX7_carryOut 114 (Ls) (.int (nI 1) :: st) (h) := e_iconst dX7_carryOut_113 (by decide)
theorem iX7_carryOut_114  {Ls st : List Value} {h : AH} : ev L xs mdX7_carryOut 114 (Ls) (st) h = ev L xs mdX7_carryOut 118 (Ls) (st) (h) := e_goto dX7_carryOut_114 (by decide)
theorem iX7_carryOut_117  {Ls st : List Value} {h : AH} : ev L xs mdX7_carryOut 117 (Ls) (st) h = ev L xs mdX7_carryOut 118 (Ls) (.int (nI 0) :: st) (h) := e_iconst dX7_carryOut_117 (by decide)
theorem iX7_carryOut_118 {x z : Int32} {Ls st : List Value} {h : AH} : ev L xs mdX7_carryOut 118 (Ls) (.int z :: .int x :: st) h = ev L xs mdX7_carryOut 119 (Ls) (.int (x + z) :: st) (h) := e_iadd dX7_carryOut_118
theorem iX7_carryOut_119 {v0 : Value} {v1 : Value} {x : Int32} {Ls st : List Value} {h : AH} (hc9 : v0.category = 1) : ev L xs mdX7_carryOut 119 (v0 :: v1 :: Ls) (.int x :: st) h = ev L xs mdX7_carryOut 120 (v0 :: .int x :: Ls) (st) (h) := e_istore_n dX7_carryOut_119 rfl (by decide) (by unfold catOK; show (_ || (v0.category == 1)) = true; rw [hc9]; rfl)
theorem iX7_carryOut_120  {Ls st : List Value} {h : AH} : ev L xs mdX7_carryOut 120 (Ls) (st) h = ev L xs mdX7_carryOut 73 (Ls) (st) (h) := e_goto dX7_carryOut_120 (by decide)
theorem iX7_carryOut_123 {v0 : Value} {x : Int32} {Ls st : List Value} {h : AH} : ev L xs mdX7_carryOut 123 (v0 :: .int x :: Ls) (st) h = ev L xs mdX7_carryOut 124 (v0 :: .int x :: Ls) (.int x :: st) (h) := e_iload_n dX7_carryOut_123 rfl
theorem iX7_carryOut_124 {v : Int32} {Ls : List Value} {h : AH} : ev L xs mdX7_carryOut 124 Ls [.int v] h = some (.inl (some (.int v), h)) := e_iret dX7_carryOut_124 rfl
theorem dX7_clearText_0 : decode cX7_clearText 0 = .ok (.aload_n 0, 1) := by decide +kernel
theorem dX7_clearText_1 : decode cX7_clearText 1 = .ok (.iconst 0, 1) := by decide +kernel
theorem dX7_clearText_2 : decode cX7_clearText 2 = .ok (.putfield 34, 3) := by decide +kernel
theorem dX7_clearText_5 : decode cX7_clearText 5 = .ok (.aload_n 0, 1) := by decide +kernel
theorem dX7_clearText_6 : decode cX7_clearText 6 = .ok (.getfield 165, 3) := by decide +kernel
theorem dX7_clearText_9 : decode cX7_clearText 9 = .ok (.istore_n 1, 1) := by decide +kernel
theorem dX7_clearText_10 : decode cX7_clearText 10 = .ok (.aload_n 0, 1) := by decide +kernel
theorem dX7_clearText_11 : decode cX7_clearText 11 = .ok (.iconst 0, 1) := by decide +kernel
theorem dX7_clearText_12 : decode cX7_clearText 12 = .ok (.putfield 165, 3) := by decide +kernel
theorem dX7_clearText_15 : decode cX7_clearText 15 = .ok (.iload_n 1, 1) := by decide +kernel
theorem dX7_clearText_16 : decode cX7_clearText 16 = .ok (.ireturn, 1) := by decide +kernel
theorem iX7_clearText_0 {x : Nat} {Ls st : List Value} {h : AH} : ev L xs mdX7_clearText 0 (.ref x :: Ls) (st) h = ev L xs mdX7_clearText 1 (.ref x :: Ls) (.ref x :: st) (h) := e_aload_n dX7_clearText_0 rfl
theorem iX7_clearText_1  {Ls st : List Value} {h : AH} : ev L xs mdX7_clearText 1 (Ls) (st) h = ev L xs mdX7_clearText 2 (Ls) (.int (nI 0) :: st) (h) := e_iconst dX7_clearText_1 (by decide)
theorem iX7_clearText_2 {a : Nat} {v : Int32} {Ls st : List Value} {h : AH} (hk : hK h a = 7) : ev L xs mdX7_clearText 2 (Ls) (.int v :: .ref a :: st) h = ev L xs mdX7_clearText 5 (Ls) (st) (sI h 112 a v) := e_putI (k := 7) (f := 0) (F := 112) dX7_clearText_2 (by decide +kernel) rfl (by decide +kernel) rfl hk
theorem iX7_clearText_5 {x : Nat} {Ls st : List Value} {h : AH} : ev L xs mdX7_clearText 5 (.ref x :: Ls) (st) h = ev L xs mdX7_clearText 6 (.ref x :: Ls) (.ref x :: st) (h) := e_aload_n dX7_clearText_5 rfl
theorem iX7_clearText_6 {a : Nat} {Ls st : List Value} {h : AH} (hk : hK h a = 7) : ev L xs mdX7_clearText 6 (Ls) (.ref a :: st) h = ev L xs mdX7_clearText 9 (Ls) (.int (hI h 118 a) :: st) (h) := e_getI (k := 7) (f := 6) (F := 118) dX7_clearText_6 (by decide +kernel) rfl rfl hk
theorem iX7_clearText_9 {v0 : Value} {v1 : Value} {x : Int32} {Ls st : List Value} {h : AH} (hc9 : v0.category = 1) : ev L xs mdX7_clearText 9 (v0 :: v1 :: Ls) (.int x :: st) h = ev L xs mdX7_clearText 10 (v0 :: .int x :: Ls) (st) (h) := e_istore_n dX7_clearText_9 rfl (by decide) (by unfold catOK; show (_ || (v0.category == 1)) = true; rw [hc9]; rfl)
theorem iX7_clearText_10 {x : Nat} {Ls st : List Value} {h : AH} : ev L xs mdX7_clearText 10 (.ref x :: Ls) (st) h = ev L xs mdX7_clearText 11 (.ref x :: Ls) (.ref x :: st) (h) := e_aload_n dX7_clearText_10 rfl
theorem iX7_clearText_11  {Ls st : List Value} {h : AH} : ev L xs mdX7_clearText 11 (Ls) (st) h = ev L xs mdX7_clearText 12 (Ls) (.int (nI 0) :: st) (h) := e_iconst dX7_clearText_11 (by decide)
theorem iX7_clearText_12 {a : Nat} {v : Int32} {Ls st : List Value} {h : AH} (hk : hK h a = 7) : ev L xs mdX7_clearText 12 (Ls) (.int v :: .ref a :: st) h = ev L xs mdX7_clearText 15 (Ls) (st) (sI h 118 a v) := e_putI (k := 7) (f := 6) (F := 118) dX7_clearText_12 (by decide +kernel) rfl (by decide +kernel) rfl hk
theorem iX7_clearText_15 {v0 : Value} {x : Int32} {Ls st : List Value} {h : AH} : ev L xs mdX7_clearText 15 (v0 :: .int x :: Ls) (st) h = ev L xs mdX7_clearText 16 (v0 :: .int x :: Ls) (.int x :: st) (h) := e_iload_n dX7_clearText_15 rfl
theorem iX7_clearText_16 {v : Int32} {Ls : List Value} {h : AH} : ev L xs mdX7_clearText 16 Ls [.int v] h = some (.inl (some (.int v), h)) := e_iret dX7_clearText_16 rfl
theorem dX7_complain_0 : decode cX7_complain 0 = .ok (.aload_n 0, 1) := by decide +kernel
theorem dX7_complain_1 : decode cX7_complain 1 = .ok (.aload_n 0, 1) := by decide +kernel
theorem dX7_complain_2 : decode cX7_complain 2 = .ok (.iload_n 1, 1) := by decide +kernel
theorem dX7_complain_3 : decode cX7_complain 3 = .ok (.invokevirtual 112, 3) := by decide +kernel
theorem dX7_complain_6 : decode cX7_complain 6 = .ok (.ifCond .ne 7, 3) := by decide +kernel
theorem dX7_complain_9 : decode cX7_complain 9 = .ok (.iconst 1, 1) := by decide +kernel
theorem dX7_complain_10 : decode cX7_complain 10 = .ok (.goto 16, 3) := by decide +kernel
theorem dX7_complain_13 : decode cX7_complain 13 = .ok (.aload_n 0, 1) := by decide +kernel
theorem dX7_complain_14 : decode cX7_complain 14 = .ok (.iload_n 1, 1) := by decide +kernel
theorem dX7_complain_15 : decode cX7_complain 15 = .ok (.invokevirtual 125, 3) := by decide +kernel
theorem dX7_complain_18 : decode cX7_complain 18 = .ok (.ifCond .ne 7, 3) := by decide +kernel
theorem dX7_complain_21 : decode cX7_complain 21 = .ok (.iconst 2, 1) := by decide +kernel
theorem dX7_complain_22 : decode cX7_complain 22 = .ok (.goto 4, 3) := by decide +kernel
theorem dX7_complain_25 : decode cX7_complain 25 = .ok (.iconst 0, 1) := by decide +kernel
theorem dX7_complain_26 : decode cX7_complain 26 = .ok (.putfield 34, 3) := by decide +kernel
theorem dX7_complain_29 : decode cX7_complain 29 = .ok (.aload_n 0, 1) := by decide +kernel
theorem dX7_complain_30 : decode cX7_complain 30 = .ok (.getfield 34, 3) := by decide +kernel
theorem dX7_complain_33 : decode cX7_complain 33 = .ok (.ifCond .le 5, 3) := by decide +kernel
theorem dX7_complain_36 : decode cX7_complain 36 = .ok (.iconst 0, 1) := by decide +kernel
theorem dX7_complain_37 : decode cX7_complain 37 = .ok (.ireturn, 1) := by decide +kernel
theorem dX7_complain_38 : decode cX7_complain 38 = .ok (.aload_n 0, 1) := by decide +kernel
theorem dX7_complain_39 : decode cX7_complain 39 = .ok (.invokevirtual 109, 3) := by decide +kernel
theorem dX7_complain_42 : decode cX7_complain 42 = .ok (.aload_n 0, 1) := by decide +kernel
theorem dX7_complain_43 : decode cX7_complain 43 = .ok (.iload_n 1, 1) := by decide +kernel
theorem dX7_complain_44 : decode cX7_complain 44 = .ok (.invokevirtual 128, 3) := by decide +kernel
theorem dX7_complain_47 : decode cX7_complain 47 = .ok (.ireturn, 1) := by decide +kernel
theorem iX7_complain_0 {x : Nat} {Ls st : List Value} {h : AH} : ev L xs mdX7_complain 0 (.ref x :: Ls) (st) h = ev L xs mdX7_complain 1 (.ref x :: Ls) (.ref x :: st) (h) := e_aload_n dX7_complain_0 rfl
theorem iX7_complain_1 {x : Nat} {Ls st : List Value} {h : AH} : ev L xs mdX7_complain 1 (.ref x :: Ls) (st) h = ev L xs mdX7_complain 2 (.ref x :: Ls) (.ref x :: st) (h) := e_aload_n dX7_complain_1 rfl
theorem iX7_complain_2 {v0 : Value} {x : Int32} {Ls st : List Value} {h : AH} : ev L xs mdX7_complain 2 (v0 :: .int x :: Ls) (st) h = ev L xs mdX7_complain 3 (v0 :: .int x :: Ls) (.int x :: st) (h) := e_iload_n dX7_complain_2 rfl
theorem iX7_complain_3 {a : Nat} {p0 : Int32} {Ls st : List Value} {h : AH} (hk : hK h a = 7) (hw : wds st ≤ 8) : ev L xs mdX7_complain 3 Ls (.int p0 :: .ref a :: st) h = kn L xs mdX7_complain 3 6 Ls st (ev L xs mdX7_isPost 0 [.ref a, .int p0] [] h) := e_callV (as := [.int p0]) dX7_complain_3 mr_7_112 (by decide) (by decide) rfl (by simp [wds, Value.category]; decide) rfl (by decide) hk hw
theorem iX7_complain_6 {x : Int32} {Ls st : List Value} {h : AH} : ev L xs mdX7_complain 6 Ls (.int x :: st) h = if x = nI 0 then ev L xs mdX7_complain 9 Ls st h else ev L xs mdX7_complain 13 Ls st h := e_if_ne dX7_complain_6 (by decide)
theorem iX7_complain_9  {Ls st : List Value} {h : AH} : ev L xs mdX7_complain 9 (Ls) (st) h = ev L xs mdX7_complain 10 (Ls) (.int (nI 1) :: st) (h) := e_iconst dX7_complain_9 (by decide)
theorem iX7_complain_10  {Ls st : List Value} {h : AH} : ev L xs mdX7_complain 10 (Ls) (st) h = ev L xs mdX7_complain 26 (Ls) (st) (h) := e_goto dX7_complain_10 (by decide)
theorem iX7_complain_13 {x : Nat} {Ls st : List Value} {h : AH} : ev L xs mdX7_complain 13 (.ref x :: Ls) (st) h = ev L xs mdX7_complain 14 (.ref x :: Ls) (.ref x :: st) (h) := e_aload_n dX7_complain_13 rfl
theorem iX7_complain_14 {v0 : Value} {x : Int32} {Ls st : List Value} {h : AH} : ev L xs mdX7_complain 14 (v0 :: .int x :: Ls) (st) h = ev L xs mdX7_complain 15 (v0 :: .int x :: Ls) (.int x :: st) (h) := e_iload_n dX7_complain_14 rfl
theorem iX7_complain_15 {a : Nat} {p0 : Int32} {Ls st : List Value} {h : AH} (hk : hK h a = 7) (hw : wds st ≤ 8) : ev L xs mdX7_complain 15 Ls (.int p0 :: .ref a :: st) h = kn L xs mdX7_complain 15 18 Ls st (ev L xs mdX7_canComplain 0 [.ref a, .int p0, .null] [] h) := e_callV (as := [.int p0]) dX7_complain_15 mr_7_125 (by decide) (by decide) rfl (by simp [wds, Value.category]; decide) rfl (by decide) hk hw
theorem iX7_complain_18 {x : Int32} {Ls st : List Value} {h : AH} : ev L xs mdX7_complain 18 Ls (.int x :: st) h = if x = nI 0 then ev L xs mdX7_complain 21 Ls st h else ev L xs mdX7_complain 25 Ls st h := e_if_ne dX7_complain_18 (by decide)
theorem iX7_complain_21  {Ls st : List Value} {h : AH} : ev L xs mdX7_complain 21 (Ls) (st) h = ev L xs mdX7_complain 22 (Ls) (.int (nI 2) :: st) (h) := e_iconst dX7_complain_21 (by decide)
theorem iX7_complain_22  {Ls st : List Value} {h : AH} : ev L xs mdX7_complain 22 (Ls) (st) h = ev L xs mdX7_complain 26 (Ls) (st) (h) := e_goto dX7_complain_22 (by decide)
theorem iX7_complain_25  {Ls st : List Value} {h : AH} : ev L xs mdX7_complain 25 (Ls) (st) h = ev L xs mdX7_complain 26 (Ls) (.int (nI 0) :: st) (h) := e_iconst dX7_complain_25 (by decide)
theorem iX7_complain_26 {a : Nat} {v : Int32} {Ls st : List Value} {h : AH} (hk : hK h a = 7) : ev L xs mdX7_complain 26 (Ls) (.int v :: .ref a :: st) h = ev L xs mdX7_complain 29 (Ls) (st) (sI h 112 a v) := e_putI (k := 7) (f := 0) (F := 112) dX7_complain_26 (by decide +kernel) rfl (by decide +kernel) rfl hk
theorem iX7_complain_29 {x : Nat} {Ls st : List Value} {h : AH} : ev L xs mdX7_complain 29 (.ref x :: Ls) (st) h = ev L xs mdX7_complain 30 (.ref x :: Ls) (.ref x :: st) (h) := e_aload_n dX7_complain_29 rfl
theorem iX7_complain_30 {a : Nat} {Ls st : List Value} {h : AH} (hk : hK h a = 7) : ev L xs mdX7_complain 30 (Ls) (.ref a :: st) h = ev L xs mdX7_complain 33 (Ls) (.int (hI h 112 a) :: st) (h) := e_getI (k := 7) (f := 0) (F := 112) dX7_complain_30 (by decide +kernel) rfl rfl hk
theorem iX7_complain_33 {x : Int32} {Ls st : List Value} {h : AH} : ev L xs mdX7_complain 33 Ls (.int x :: st) h = if x ≤ nI 0 then ev L xs mdX7_complain 38 Ls st h else ev L xs mdX7_complain 36 Ls st h := e_if_le dX7_complain_33 (by decide)
theorem iX7_complain_36  {Ls st : List Value} {h : AH} : ev L xs mdX7_complain 36 (Ls) (st) h = ev L xs mdX7_complain 37 (Ls) (.int (nI 0) :: st) (h) := e_iconst dX7_complain_36 (by decide)
theorem iX7_complain_37 {v : Int32} {Ls : List Value} {h : AH} : ev L xs mdX7_complain 37 Ls [.int v] h = some (.inl (some (.int v), h)) := e_iret dX7_complain_37 rfl
theorem iX7_complain_38 {x : Nat} {Ls st : List Value} {h : AH} : ev L xs mdX7_complain 38 (.ref x :: Ls) (st) h = ev L xs mdX7_complain 39 (.ref x :: Ls) (.ref x :: st) (h) := e_aload_n dX7_complain_38 rfl
theorem iX7_complain_39 {a : Nat} {Ls st : List Value} {h : AH} (hk : hK h a = 7) (hw : wds st ≤ 8) : ev L xs mdX7_complain 39 Ls (.ref a :: st) h = kn L xs mdX7_complain 39 42 Ls st (ev L xs mdX7_save 0 [.ref a, .null] [] h) := e_callV (as := []) dX7_complain_39 mr_7_109 (by decide) (by decide) rfl (by simp [wds, Value.category]; decide) rfl (by decide) hk hw
theorem iX7_complain_42 {x : Nat} {Ls st : List Value} {h : AH} : ev L xs mdX7_complain 42 (.ref x :: Ls) (st) h = ev L xs mdX7_complain 43 (.ref x :: Ls) (.ref x :: st) (h) := e_aload_n dX7_complain_42 rfl
theorem iX7_complain_43 {v0 : Value} {x : Int32} {Ls st : List Value} {h : AH} : ev L xs mdX7_complain 43 (v0 :: .int x :: Ls) (st) h = ev L xs mdX7_complain 44 (v0 :: .int x :: Ls) (.int x :: st) (h) := e_iload_n dX7_complain_43 rfl
theorem iX7_complain_44 {a : Nat} {p0 : Int32} {Ls st : List Value} {h : AH} (hk : hK h a = 7) (hw : wds st ≤ 8) : ev L xs mdX7_complain 44 Ls (.int p0 :: .ref a :: st) h = kn L xs mdX7_complain 44 47 Ls st (ev L xs mdX7_complainNow 0 [.ref a, .int p0] [] h) := e_callV (as := [.int p0]) dX7_complain_44 mr_7_128 (by decide) (by decide) rfl (by simp [wds, Value.category]; decide) rfl (by decide) hk hw
theorem iX7_complain_47 {v : Int32} {Ls : List Value} {h : AH} : ev L xs mdX7_complain 47 Ls [.int v] h = some (.inl (some (.int v), h)) := e_iret dX7_complain_47 rfl
theorem dX7_complainNow_0 : decode cX7_complainNow 0 = .ok (.aload_n 0, 1) := by decide +kernel
theorem dX7_complainNow_1 : decode cX7_complainNow 1 = .ok (.getfield 7, 3) := by decide +kernel
theorem dX7_complainNow_4 : decode cX7_complainNow 4 = .ok (.bipush 8, 2) := by decide +kernel
theorem dX7_complainNow_6 : decode cX7_complainNow 6 = .ok (.dup2, 1) := by decide +kernel
theorem dX7_complainNow_7 : decode cX7_complainNow 7 = .ok (.iaload, 1) := by decide +kernel
theorem dX7_complainNow_8 : decode cX7_complainNow 8 = .ok (.iconst 1, 1) := by decide +kernel
theorem dX7_complainNow_9 : decode cX7_complainNow 9 = .ok (.iadd, 1) := by decide +kernel
theorem dX7_complainNow_10 : decode cX7_complainNow 10 = .ok (.iastore, 1) := by decide +kernel
theorem dX7_complainNow_11 : decode cX7_complainNow 11 = .ok (.aload_n 0, 1) := by decide +kernel
theorem dX7_complainNow_12 : decode cX7_complainNow 12 = .ok (.getfield 7, 3) := by decide +kernel
theorem dX7_complainNow_15 : decode cX7_complainNow 15 = .ok (.iload_n 1, 1) := by decide +kernel
theorem dX7_complainNow_16 : decode cX7_complainNow 16 = .ok (.iconst 3, 1) := by decide +kernel
theorem dX7_complainNow_17 : decode cX7_complainNow 17 = .ok (.aload_n 0, 1) := by decide +kernel
theorem dX7_complainNow_18 : decode cX7_complainNow 18 = .ok (.getfield 7, 3) := by decide +kernel
theorem dX7_complainNow_21 : decode cX7_complainNow 21 = .ok (.iload_n 1, 1) := by decide +kernel
theorem dX7_complainNow_22 : decode cX7_complainNow 22 = .ok (.iconst 3, 1) := by decide +kernel
theorem dX7_complainNow_23 : decode cX7_complainNow 23 = .ok (.invokestatic 48, 3) := by decide +kernel
theorem dX7_complainNow_26 : decode cX7_complainNow 26 = .ok (.iconst 1, 1) := by decide +kernel
theorem dX7_complainNow_27 : decode cX7_complainNow 27 = .ok (.iadd, 1) := by decide +kernel
theorem dX7_complainNow_28 : decode cX7_complainNow 28 = .ok (.invokestatic 100, 3) := by decide +kernel
theorem dX7_complainNow_31 : decode cX7_complainNow 31 = .ok (.aload_n 0, 1) := by decide +kernel
theorem dX7_complainNow_32 : decode cX7_complainNow 32 = .ok (.getfield 7, 3) := by decide +kernel
theorem dX7_complainNow_35 : decode cX7_complainNow 35 = .ok (.iload_n 1, 1) := by decide +kernel
theorem dX7_complainNow_36 : decode cX7_complainNow 36 = .ok (.bipush 6, 2) := by decide +kernel
theorem dX7_complainNow_38 : decode cX7_complainNow 38 = .ok (.aload_n 0, 1) := by decide +kernel
theorem dX7_complainNow_39 : decode cX7_complainNow 39 = .ok (.getfield 7, 3) := by decide +kernel
theorem dX7_complainNow_42 : decode cX7_complainNow 42 = .ok (.invokestatic 88, 3) := by decide +kernel
theorem dX7_complainNow_45 : decode cX7_complainNow 45 = .ok (.invokestatic 100, 3) := by decide +kernel
theorem dX7_complainNow_48 : decode cX7_complainNow 48 = .ok (.aload_n 0, 1) := by decide +kernel
theorem dX7_complainNow_49 : decode cX7_complainNow 49 = .ok (.getfield 7, 3) := by decide +kernel
theorem dX7_complainNow_52 : decode cX7_complainNow 52 = .ok (.iload_n 1, 1) := by decide +kernel
theorem dX7_complainNow_53 : decode cX7_complainNow 53 = .ok (.iconst 5, 1) := by decide +kernel
theorem dX7_complainNow_54 : decode cX7_complainNow 54 = .ok (.aload_n 0, 1) := by decide +kernel
theorem dX7_complainNow_55 : decode cX7_complainNow 55 = .ok (.getfield 7, 3) := by decide +kernel
theorem dX7_complainNow_58 : decode cX7_complainNow 58 = .ok (.invokestatic 88, 3) := by decide +kernel
theorem dX7_complainNow_61 : decode cX7_complainNow 61 = .ok (.bipush 20, 2) := by decide +kernel
theorem dX7_complainNow_63 : decode cX7_complainNow 63 = .ok (.iadd, 1) := by decide +kernel
theorem dX7_complainNow_64 : decode cX7_complainNow 64 = .ok (.invokestatic 100, 3) := by decide +kernel
theorem dX7_complainNow_67 : decode cX7_complainNow 67 = .ok (.aload_n 0, 1) := by decide +kernel
theorem dX7_complainNow_68 : decode cX7_complainNow 68 = .ok (.getfield 7, 3) := by decide +kernel
theorem dX7_complainNow_71 : decode cX7_complainNow 71 = .ok (.iload_n 1, 1) := by decide +kernel
theorem dX7_complainNow_72 : decode cX7_complainNow 72 = .ok (.iconst 3, 1) := by decide +kernel
theorem dX7_complainNow_73 : decode cX7_complainNow 73 = .ok (.invokestatic 48, 3) := by decide +kernel
theorem dX7_complainNow_76 : decode cX7_complainNow 76 = .ok (.ireturn, 1) := by decide +kernel
theorem iX7_complainNow_0 {x : Nat} {Ls st : List Value} {h : AH} : ev L xs mdX7_complainNow 0 (.ref x :: Ls) (st) h = ev L xs mdX7_complainNow 1 (.ref x :: Ls) (.ref x :: st) (h) := e_aload_n dX7_complainNow_0 rfl
theorem iX7_complainNow_1 {a : Nat} {Ls st : List Value} {h : AH} (hk : hK h a = 7) (hj : (hR h 113 a).isSome = true) : ev L xs mdX7_complainNow 1 (Ls) (.ref a :: st) h = ev L xs mdX7_complainNow 4 (Ls) (.ref ((hR h 113 a).getD 0) :: st) (h) := e_getR (k := 7) (f := 1) (F := 113) dX7_complainNow_1 (by decide +kernel) rfl rfl hk hj
theorem iX7_complainNow_4  {Ls st : List Value} {h : AH} : ev L xs mdX7_complainNow 4 (Ls) (st) h = ev L xs mdX7_complainNow 6 (Ls) (.int (nI 8) :: st) (h) := e_bipush dX7_complainNow_4 (by decide)
theorem iX7_complainNow_6 {a : Nat} {j : Int32} {Ls st : List Value} {h : AH} : ev L xs mdX7_complainNow 6 (Ls) (.int j :: .ref a :: st) h = ev L xs mdX7_complainNow 7 (Ls) (.int j :: .ref a :: .int j :: .ref a :: st) (h) := e_dup2 dX7_complainNow_6 rfl rfl
theorem iX7_complainNow_7 {a : Nat} {j : Int32} {Ls st : List Value} {h : AH} (hk : hK h a = 8) (hi : inA j (hN h a) = true) : ev L xs mdX7_complainNow 7 (Ls) (.int j :: .ref a :: st) h = ev L xs mdX7_complainNow 8 (Ls) (.int (hA h a j.toNatClampNeg) :: st) (h) := e_iald dX7_complainNow_7 hk hi
theorem iX7_complainNow_8  {Ls st : List Value} {h : AH} : ev L xs mdX7_complainNow 8 (Ls) (st) h = ev L xs mdX7_complainNow 9 (Ls) (.int (nI 1) :: st) (h) := e_iconst dX7_complainNow_8 (by decide)
theorem iX7_complainNow_9 {x z : Int32} {Ls st : List Value} {h : AH} : ev L xs mdX7_complainNow 9 (Ls) (.int z :: .int x :: st) h = ev L xs mdX7_complainNow 10 (Ls) (.int (x + z) :: st) (h) := e_iadd dX7_complainNow_9
theorem iX7_complainNow_10 {a : Nat} {j : Int32} {v : Int32} {Ls st : List Value} {h : AH} (hk : hK h a = 8) (hi : inA j (hN h a) = true) : ev L xs mdX7_complainNow 10 (Ls) (.int v :: .int j :: .ref a :: st) h = ev L xs mdX7_complainNow 11 (Ls) (st) (sA h a j.toNatClampNeg v) := e_iast dX7_complainNow_10 hk hi
theorem iX7_complainNow_11 {x : Nat} {Ls st : List Value} {h : AH} : ev L xs mdX7_complainNow 11 (.ref x :: Ls) (st) h = ev L xs mdX7_complainNow 12 (.ref x :: Ls) (.ref x :: st) (h) := e_aload_n dX7_complainNow_11 rfl
theorem iX7_complainNow_12 {a : Nat} {Ls st : List Value} {h : AH} (hk : hK h a = 7) (hj : (hR h 113 a).isSome = true) : ev L xs mdX7_complainNow 12 (Ls) (.ref a :: st) h = ev L xs mdX7_complainNow 15 (Ls) (.ref ((hR h 113 a).getD 0) :: st) (h) := e_getR (k := 7) (f := 1) (F := 113) dX7_complainNow_12 (by decide +kernel) rfl rfl hk hj
theorem iX7_complainNow_15 {v0 : Value} {x : Int32} {Ls st : List Value} {h : AH} : ev L xs mdX7_complainNow 15 (v0 :: .int x :: Ls) (st) h = ev L xs mdX7_complainNow 16 (v0 :: .int x :: Ls) (.int x :: st) (h) := e_iload_n dX7_complainNow_15 rfl
theorem iX7_complainNow_16  {Ls st : List Value} {h : AH} : ev L xs mdX7_complainNow 16 (Ls) (st) h = ev L xs mdX7_complainNow 17 (Ls) (.int (nI 3) :: st) (h) := e_iconst dX7_complainNow_16 (by decide)
theorem iX7_complainNow_17 {x : Nat} {Ls st : List Value} {h : AH} : ev L xs mdX7_complainNow 17 (.ref x :: Ls) (st) h = ev L xs mdX7_complainNow 18 (.ref x :: Ls) (.ref x :: st) (h) := e_aload_n dX7_complainNow_17 rfl
theorem iX7_complainNow_18 {a : Nat} {Ls st : List Value} {h : AH} (hk : hK h a = 7) (hj : (hR h 113 a).isSome = true) : ev L xs mdX7_complainNow 18 (Ls) (.ref a :: st) h = ev L xs mdX7_complainNow 21 (Ls) (.ref ((hR h 113 a).getD 0) :: st) (h) := e_getR (k := 7) (f := 1) (F := 113) dX7_complainNow_18 (by decide +kernel) rfl rfl hk hj
theorem iX7_complainNow_21 {v0 : Value} {x : Int32} {Ls st : List Value} {h : AH} : ev L xs mdX7_complainNow 21 (v0 :: .int x :: Ls) (st) h = ev L xs mdX7_complainNow 22 (v0 :: .int x :: Ls) (.int x :: st) (h) := e_iload_n dX7_complainNow_21 rfl
theorem iX7_complainNow_22  {Ls st : List Value} {h : AH} : ev L xs mdX7_complainNow 22 (Ls) (st) h = ev L xs mdX7_complainNow 23 (Ls) (.int (nI 3) :: st) (h) := e_iconst dX7_complainNow_22 (by decide)
theorem iX7_complainNow_23 {p0 : Nat} {p1 : Int32} {p2 : Int32} {Ls st : List Value} {h : AH} (hw : wds st ≤ 8) : ev L xs mdX7_complainNow 23 Ls (.int p2 :: .int p1 :: .ref p0 :: st) h = kn L xs mdX7_complainNow 23 26 Ls st (ev L xs mdX7_of 0 [.ref p0, .int p1, .int p2] [] h) := e_callS (as := [.int p2, .int p1, .ref p0]) dX7_complainNow_23 mr_7_48 (by decide) (by decide) rfl (by simp [wds, Value.category]; decide) rfl hw
theorem iX7_complainNow_26  {Ls st : List Value} {h : AH} : ev L xs mdX7_complainNow 26 (Ls) (st) h = ev L xs mdX7_complainNow 27 (Ls) (.int (nI 1) :: st) (h) := e_iconst dX7_complainNow_26 (by decide)
theorem iX7_complainNow_27 {x z : Int32} {Ls st : List Value} {h : AH} : ev L xs mdX7_complainNow 27 (Ls) (.int z :: .int x :: st) h = ev L xs mdX7_complainNow 28 (Ls) (.int (x + z) :: st) (h) := e_iadd dX7_complainNow_27
theorem iX7_complainNow_28 {p0 : Nat} {p1 : Int32} {p2 : Int32} {p3 : Int32} {Ls st : List Value} {h : AH} (hw : wds st ≤ 8) : ev L xs mdX7_complainNow 28 Ls (.int p3 :: .int p2 :: .int p1 :: .ref p0 :: st) h = kn L xs mdX7_complainNow 28 31 Ls st (ev L xs mdX7_put 0 [.ref p0, .int p1, .int p2, .int p3] [] h) := e_callS (as := [.int p3, .int p2, .int p1, .ref p0]) dX7_complainNow_28 mr_7_100 (by decide) (by decide) rfl (by simp [wds, Value.category]; decide) rfl hw
theorem iX7_complainNow_31 {x : Nat} {Ls st : List Value} {h : AH} : ev L xs mdX7_complainNow 31 (.ref x :: Ls) (st) h = ev L xs mdX7_complainNow 32 (.ref x :: Ls) (.ref x :: st) (h) := e_aload_n dX7_complainNow_31 rfl
theorem iX7_complainNow_32 {a : Nat} {Ls st : List Value} {h : AH} (hk : hK h a = 7) (hj : (hR h 113 a).isSome = true) : ev L xs mdX7_complainNow 32 (Ls) (.ref a :: st) h = ev L xs mdX7_complainNow 35 (Ls) (.ref ((hR h 113 a).getD 0) :: st) (h) := e_getR (k := 7) (f := 1) (F := 113) dX7_complainNow_32 (by decide +kernel) rfl rfl hk hj
theorem iX7_complainNow_35 {v0 : Value} {x : Int32} {Ls st : List Value} {h : AH} : ev L xs mdX7_complainNow 35 (v0 :: .int x :: Ls) (st) h = ev L xs mdX7_complainNow 36 (v0 :: .int x :: Ls) (.int x :: st) (h) := e_iload_n dX7_complainNow_35 rfl
theorem iX7_complainNow_36  {Ls st : List Value} {h : AH} : ev L xs mdX7_complainNow 36 (Ls) (st) h = ev L xs mdX7_complainNow 38 (Ls) (.int (nI 6) :: st) (h) := e_bipush dX7_complainNow_36 (by decide)
theorem iX7_complainNow_38 {x : Nat} {Ls st : List Value} {h : AH} : ev L xs mdX7_complainNow 38 (.ref x :: Ls) (st) h = ev L xs mdX7_complainNow 39 (.ref x :: Ls) (.ref x :: st) (h) := e_aload_n dX7_complainNow_38 rfl
theorem iX7_complainNow_39 {a : Nat} {Ls st : List Value} {h : AH} (hk : hK h a = 7) (hj : (hR h 113 a).isSome = true) : ev L xs mdX7_complainNow 39 (Ls) (.ref a :: st) h = ev L xs mdX7_complainNow 42 (Ls) (.ref ((hR h 113 a).getD 0) :: st) (h) := e_getR (k := 7) (f := 1) (F := 113) dX7_complainNow_39 (by decide +kernel) rfl rfl hk hj
theorem iX7_complainNow_42 {p0 : Nat} {Ls st : List Value} {h : AH} (hw : wds st ≤ 8) : ev L xs mdX7_complainNow 42 Ls (.ref p0 :: st) h = kn L xs mdX7_complainNow 42 45 Ls st (ev L xs mdX7_numberOf 0 [.ref p0] [] h) := e_callS (as := [.ref p0]) dX7_complainNow_42 mr_7_88 (by decide) (by decide) rfl (by simp [wds, Value.category]; decide) rfl hw
theorem iX7_complainNow_45 {p0 : Nat} {p1 : Int32} {p2 : Int32} {p3 : Int32} {Ls st : List Value} {h : AH} (hw : wds st ≤ 8) : ev L xs mdX7_complainNow 45 Ls (.int p3 :: .int p2 :: .int p1 :: .ref p0 :: st) h = kn L xs mdX7_complainNow 45 48 Ls st (ev L xs mdX7_put 0 [.ref p0, .int p1, .int p2, .int p3] [] h) := e_callS (as := [.int p3, .int p2, .int p1, .ref p0]) dX7_complainNow_45 mr_7_100 (by decide) (by decide) rfl (by simp [wds, Value.category]; decide) rfl hw
theorem iX7_complainNow_48 {x : Nat} {Ls st : List Value} {h : AH} : ev L xs mdX7_complainNow 48 (.ref x :: Ls) (st) h = ev L xs mdX7_complainNow 49 (.ref x :: Ls) (.ref x :: st) (h) := e_aload_n dX7_complainNow_48 rfl
theorem iX7_complainNow_49 {a : Nat} {Ls st : List Value} {h : AH} (hk : hK h a = 7) (hj : (hR h 113 a).isSome = true) : ev L xs mdX7_complainNow 49 (Ls) (.ref a :: st) h = ev L xs mdX7_complainNow 52 (Ls) (.ref ((hR h 113 a).getD 0) :: st) (h) := e_getR (k := 7) (f := 1) (F := 113) dX7_complainNow_49 (by decide +kernel) rfl rfl hk hj
theorem iX7_complainNow_52 {v0 : Value} {x : Int32} {Ls st : List Value} {h : AH} : ev L xs mdX7_complainNow 52 (v0 :: .int x :: Ls) (st) h = ev L xs mdX7_complainNow 53 (v0 :: .int x :: Ls) (.int x :: st) (h) := e_iload_n dX7_complainNow_52 rfl
theorem iX7_complainNow_53  {Ls st : List Value} {h : AH} : ev L xs mdX7_complainNow 53 (Ls) (st) h = ev L xs mdX7_complainNow 54 (Ls) (.int (nI 5) :: st) (h) := e_iconst dX7_complainNow_53 (by decide)
theorem iX7_complainNow_54 {x : Nat} {Ls st : List Value} {h : AH} : ev L xs mdX7_complainNow 54 (.ref x :: Ls) (st) h = ev L xs mdX7_complainNow 55 (.ref x :: Ls) (.ref x :: st) (h) := e_aload_n dX7_complainNow_54 rfl
theorem iX7_complainNow_55 {a : Nat} {Ls st : List Value} {h : AH} (hk : hK h a = 7) (hj : (hR h 113 a).isSome = true) : ev L xs mdX7_complainNow 55 (Ls) (.ref a :: st) h = ev L xs mdX7_complainNow 58 (Ls) (.ref ((hR h 113 a).getD 0) :: st) (h) := e_getR (k := 7) (f := 1) (F := 113) dX7_complainNow_55 (by decide +kernel) rfl rfl hk hj
theorem iX7_complainNow_58 {p0 : Nat} {Ls st : List Value} {h : AH} (hw : wds st ≤ 8) : ev L xs mdX7_complainNow 58 Ls (.ref p0 :: st) h = kn L xs mdX7_complainNow 58 61 Ls st (ev L xs mdX7_numberOf 0 [.ref p0] [] h) := e_callS (as := [.ref p0]) dX7_complainNow_58 mr_7_88 (by decide) (by decide) rfl (by simp [wds, Value.category]; decide) rfl hw
theorem iX7_complainNow_61  {Ls st : List Value} {h : AH} : ev L xs mdX7_complainNow 61 (Ls) (st) h = ev L xs mdX7_complainNow 63 (Ls) (.int (nI 20) :: st) (h) := e_bipush dX7_complainNow_61 (by decide)
theorem iX7_complainNow_63 {x z : Int32} {Ls st : List Value} {h : AH} : ev L xs mdX7_complainNow 63 (Ls) (.int z :: .int x :: st) h = ev L xs mdX7_complainNow 64 (Ls) (.int (x + z) :: st) (h) := e_iadd dX7_complainNow_63
theorem iX7_complainNow_64 {p0 : Nat} {p1 : Int32} {p2 : Int32} {p3 : Int32} {Ls st : List Value} {h : AH} (hw : wds st ≤ 8) : ev L xs mdX7_complainNow 64 Ls (.int p3 :: .int p2 :: .int p1 :: .ref p0 :: st) h = kn L xs mdX7_complainNow 64 67 Ls st (ev L xs mdX7_put 0 [.ref p0, .int p1, .int p2, .int p3] [] h) := e_callS (as := [.int p3, .int p2, .int p1, .ref p0]) dX7_complainNow_64 mr_7_100 (by decide) (by decide) rfl (by simp [wds, Value.category]; decide) rfl hw
theorem iX7_complainNow_67 {x : Nat} {Ls st : List Value} {h : AH} : ev L xs mdX7_complainNow 67 (.ref x :: Ls) (st) h = ev L xs mdX7_complainNow 68 (.ref x :: Ls) (.ref x :: st) (h) := e_aload_n dX7_complainNow_67 rfl
theorem iX7_complainNow_68 {a : Nat} {Ls st : List Value} {h : AH} (hk : hK h a = 7) (hj : (hR h 113 a).isSome = true) : ev L xs mdX7_complainNow 68 (Ls) (.ref a :: st) h = ev L xs mdX7_complainNow 71 (Ls) (.ref ((hR h 113 a).getD 0) :: st) (h) := e_getR (k := 7) (f := 1) (F := 113) dX7_complainNow_68 (by decide +kernel) rfl rfl hk hj
theorem iX7_complainNow_71 {v0 : Value} {x : Int32} {Ls st : List Value} {h : AH} : ev L xs mdX7_complainNow 71 (v0 :: .int x :: Ls) (st) h = ev L xs mdX7_complainNow 72 (v0 :: .int x :: Ls) (.int x :: st) (h) := e_iload_n dX7_complainNow_71 rfl
theorem iX7_complainNow_72  {Ls st : List Value} {h : AH} : ev L xs mdX7_complainNow 72 (Ls) (st) h = ev L xs mdX7_complainNow 73 (Ls) (.int (nI 3) :: st) (h) := e_iconst dX7_complainNow_72 (by decide)
theorem iX7_complainNow_73 {p0 : Nat} {p1 : Int32} {p2 : Int32} {Ls st : List Value} {h : AH} (hw : wds st ≤ 8) : ev L xs mdX7_complainNow 73 Ls (.int p2 :: .int p1 :: .ref p0 :: st) h = kn L xs mdX7_complainNow 73 76 Ls st (ev L xs mdX7_of 0 [.ref p0, .int p1, .int p2] [] h) := e_callS (as := [.int p2, .int p1, .ref p0]) dX7_complainNow_73 mr_7_48 (by decide) (by decide) rfl (by simp [wds, Value.category]; decide) rfl hw
theorem iX7_complainNow_76 {v : Int32} {Ls : List Value} {h : AH} : ev L xs mdX7_complainNow 76 Ls [.int v] h = some (.inl (some (.int v), h)) := e_iret dX7_complainNow_76 rfl
theorem dX7_daysToOpen_0 : decode cX7_daysToOpen 0 = .ok (.aload_n 0, 1) := by decide +kernel
theorem dX7_daysToOpen_1 : decode cX7_daysToOpen 1 = .ok (.iconst 0, 1) := by decide +kernel
theorem dX7_daysToOpen_2 : decode cX7_daysToOpen 2 = .ok (.putfield 34, 3) := by decide +kernel
theorem dX7_daysToOpen_5 : decode cX7_daysToOpen 5 = .ok (.aload_n 0, 1) := by decide +kernel
theorem dX7_daysToOpen_6 : decode cX7_daysToOpen 6 = .ok (.invokevirtual 162, 3) := by decide +kernel
theorem dX7_daysToOpen_9 : decode cX7_daysToOpen 9 = .ok (.aload_n 0, 1) := by decide +kernel
theorem dX7_daysToOpen_10 : decode cX7_daysToOpen 10 = .ok (.getfield 13, 3) := by decide +kernel
theorem dX7_daysToOpen_13 : decode cX7_daysToOpen 13 = .ok (.iconst 0, 1) := by decide +kernel
theorem dX7_daysToOpen_14 : decode cX7_daysToOpen 14 = .ok (.iaload, 1) := by decide +kernel
theorem dX7_daysToOpen_15 : decode cX7_daysToOpen 15 = .ok (.aload_n 0, 1) := by decide +kernel
theorem dX7_daysToOpen_16 : decode cX7_daysToOpen 16 = .ok (.getfield 7, 3) := by decide +kernel
theorem dX7_daysToOpen_19 : decode cX7_daysToOpen 19 = .ok (.iconst 0, 1) := by decide +kernel
theorem dX7_daysToOpen_20 : decode cX7_daysToOpen 20 = .ok (.iaload, 1) := by decide +kernel
theorem dX7_daysToOpen_21 : decode cX7_daysToOpen 21 = .ok (.bipush 60, 2) := by decide +kernel
theorem dX7_daysToOpen_23 : decode cX7_daysToOpen 23 = .ok (.iadd, 1) := by decide +kernel
theorem dX7_daysToOpen_24 : decode cX7_daysToOpen 24 = .ok (.if_icmp .gt 33, 3) := by decide +kernel
theorem dX7_daysToOpen_27 : decode cX7_daysToOpen 27 = .ok (.aload_n 0, 1) := by decide +kernel
theorem dX7_daysToOpen_28 : decode cX7_daysToOpen 28 = .ok (.getfield 13, 3) := by decide +kernel
theorem dX7_daysToOpen_31 : decode cX7_daysToOpen 31 = .ok (.iconst 0, 1) := by decide +kernel
theorem dX7_daysToOpen_32 : decode cX7_daysToOpen 32 = .ok (.iaload, 1) := by decide +kernel
theorem dX7_daysToOpen_33 : decode cX7_daysToOpen 33 = .ok (.aload_n 0, 1) := by decide +kernel
theorem dX7_daysToOpen_34 : decode cX7_daysToOpen 34 = .ok (.getfield 7, 3) := by decide +kernel
theorem dX7_daysToOpen_37 : decode cX7_daysToOpen 37 = .ok (.iconst 0, 1) := by decide +kernel
theorem dX7_daysToOpen_38 : decode cX7_daysToOpen 38 = .ok (.iaload, 1) := by decide +kernel
theorem dX7_daysToOpen_39 : decode cX7_daysToOpen 39 = .ok (.isub, 1) := by decide +kernel
theorem dX7_daysToOpen_40 : decode cX7_daysToOpen 40 = .ok (.istore_n 1, 1) := by decide +kernel
theorem dX7_daysToOpen_41 : decode cX7_daysToOpen 41 = .ok (.aload_n 0, 1) := by decide +kernel
theorem dX7_daysToOpen_42 : decode cX7_daysToOpen 42 = .ok (.aload_n 0, 1) := by decide +kernel
theorem dX7_daysToOpen_43 : decode cX7_daysToOpen 43 = .ok (.getfield 13, 3) := by decide +kernel
theorem dX7_daysToOpen_46 : decode cX7_daysToOpen 46 = .ok (.invokevirtual 106, 3) := by decide +kernel
theorem dX7_daysToOpen_49 : decode cX7_daysToOpen 49 = .ok (.ifCond .eq 5, 3) := by decide +kernel
theorem dX7_daysToOpen_52 : decode cX7_daysToOpen 52 = .ok (.iload_n 1, 1) := by decide +kernel
theorem dX7_daysToOpen_53 : decode cX7_daysToOpen 53 = .ok (.ireturn, 1) := by decide +kernel
theorem dX7_daysToOpen_54 : decode cX7_daysToOpen 54 = .ok (.goto (-45), 3) := by decide +kernel
theorem dX7_daysToOpen_57 : decode cX7_daysToOpen 57 = .ok (.iconst (-1), 1) := by decide +kernel
theorem dX7_daysToOpen_58 : decode cX7_daysToOpen 58 = .ok (.ireturn, 1) := by decide +kernel
theorem iX7_daysToOpen_0 {x : Nat} {Ls st : List Value} {h : AH} : ev L xs mdX7_daysToOpen 0 (.ref x :: Ls) (st) h = ev L xs mdX7_daysToOpen 1 (.ref x :: Ls) (.ref x :: st) (h) := e_aload_n dX7_daysToOpen_0 rfl
theorem iX7_daysToOpen_1  {Ls st : List Value} {h : AH} : ev L xs mdX7_daysToOpen 1 (Ls) (st) h = ev L xs mdX7_daysToOpen 2 (Ls) (.int (nI 0) :: st) (h) := e_iconst dX7_daysToOpen_1 (by decide)
theorem iX7_daysToOpen_2 {a : Nat} {v : Int32} {Ls st : List Value} {h : AH} (hk : hK h a = 7) : ev L xs mdX7_daysToOpen 2 (Ls) (.int v :: .ref a :: st) h = ev L xs mdX7_daysToOpen 5 (Ls) (st) (sI h 112 a v) := e_putI (k := 7) (f := 0) (F := 112) dX7_daysToOpen_2 (by decide +kernel) rfl (by decide +kernel) rfl hk
theorem iX7_daysToOpen_5 {x : Nat} {Ls st : List Value} {h : AH} : ev L xs mdX7_daysToOpen 5 (.ref x :: Ls) (st) h = ev L xs mdX7_daysToOpen 6 (.ref x :: Ls) (.ref x :: st) (h) := e_aload_n dX7_daysToOpen_5 rfl
theorem iX7_daysToOpen_6 {a : Nat} {Ls st : List Value} {h : AH} (hk : hK h a = 7) (hw : wds st ≤ 8) : ev L xs mdX7_daysToOpen 6 Ls (.ref a :: st) h = kn L xs mdX7_daysToOpen 6 9 Ls st (ev L xs mdX7_tryNow 0 [.ref a, .null] [] h) := e_callV (as := []) dX7_daysToOpen_6 mr_7_162 (by decide) (by decide) rfl (by simp [wds, Value.category]; decide) rfl (by decide) hk hw
theorem iX7_daysToOpen_9 {x : Nat} {Ls st : List Value} {h : AH} : ev L xs mdX7_daysToOpen 9 (.ref x :: Ls) (st) h = ev L xs mdX7_daysToOpen 10 (.ref x :: Ls) (.ref x :: st) (h) := e_aload_n dX7_daysToOpen_9 rfl
theorem iX7_daysToOpen_10 {a : Nat} {Ls st : List Value} {h : AH} (hk : hK h a = 7) (hj : (hR h 114 a).isSome = true) : ev L xs mdX7_daysToOpen 10 (Ls) (.ref a :: st) h = ev L xs mdX7_daysToOpen 13 (Ls) (.ref ((hR h 114 a).getD 0) :: st) (h) := e_getR (k := 7) (f := 2) (F := 114) dX7_daysToOpen_10 (by decide +kernel) rfl rfl hk hj
theorem iX7_daysToOpen_13  {Ls st : List Value} {h : AH} : ev L xs mdX7_daysToOpen 13 (Ls) (st) h = ev L xs mdX7_daysToOpen 14 (Ls) (.int (nI 0) :: st) (h) := e_iconst dX7_daysToOpen_13 (by decide)
theorem iX7_daysToOpen_14 {a : Nat} {j : Int32} {Ls st : List Value} {h : AH} (hk : hK h a = 8) (hi : inA j (hN h a) = true) : ev L xs mdX7_daysToOpen 14 (Ls) (.int j :: .ref a :: st) h = ev L xs mdX7_daysToOpen 15 (Ls) (.int (hA h a j.toNatClampNeg) :: st) (h) := e_iald dX7_daysToOpen_14 hk hi
theorem iX7_daysToOpen_15 {x : Nat} {Ls st : List Value} {h : AH} : ev L xs mdX7_daysToOpen 15 (.ref x :: Ls) (st) h = ev L xs mdX7_daysToOpen 16 (.ref x :: Ls) (.ref x :: st) (h) := e_aload_n dX7_daysToOpen_15 rfl
theorem iX7_daysToOpen_16 {a : Nat} {Ls st : List Value} {h : AH} (hk : hK h a = 7) (hj : (hR h 113 a).isSome = true) : ev L xs mdX7_daysToOpen 16 (Ls) (.ref a :: st) h = ev L xs mdX7_daysToOpen 19 (Ls) (.ref ((hR h 113 a).getD 0) :: st) (h) := e_getR (k := 7) (f := 1) (F := 113) dX7_daysToOpen_16 (by decide +kernel) rfl rfl hk hj
theorem iX7_daysToOpen_19  {Ls st : List Value} {h : AH} : ev L xs mdX7_daysToOpen 19 (Ls) (st) h = ev L xs mdX7_daysToOpen 20 (Ls) (.int (nI 0) :: st) (h) := e_iconst dX7_daysToOpen_19 (by decide)
theorem iX7_daysToOpen_20 {a : Nat} {j : Int32} {Ls st : List Value} {h : AH} (hk : hK h a = 8) (hi : inA j (hN h a) = true) : ev L xs mdX7_daysToOpen 20 (Ls) (.int j :: .ref a :: st) h = ev L xs mdX7_daysToOpen 21 (Ls) (.int (hA h a j.toNatClampNeg) :: st) (h) := e_iald dX7_daysToOpen_20 hk hi
theorem iX7_daysToOpen_21  {Ls st : List Value} {h : AH} : ev L xs mdX7_daysToOpen 21 (Ls) (st) h = ev L xs mdX7_daysToOpen 23 (Ls) (.int (nI 60) :: st) (h) := e_bipush dX7_daysToOpen_21 (by decide)
theorem iX7_daysToOpen_23 {x z : Int32} {Ls st : List Value} {h : AH} : ev L xs mdX7_daysToOpen 23 (Ls) (.int z :: .int x :: st) h = ev L xs mdX7_daysToOpen 24 (Ls) (.int (x + z) :: st) (h) := e_iadd dX7_daysToOpen_23
theorem iX7_daysToOpen_24 {x z : Int32} {Ls st : List Value} {h : AH} : ev L xs mdX7_daysToOpen 24 Ls (.int z :: .int x :: st) h = if z < x then ev L xs mdX7_daysToOpen 57 Ls st h else ev L xs mdX7_daysToOpen 27 Ls st h := e_ic_gt dX7_daysToOpen_24 (by decide)
theorem iX7_daysToOpen_27 {x : Nat} {Ls st : List Value} {h : AH} : ev L xs mdX7_daysToOpen 27 (.ref x :: Ls) (st) h = ev L xs mdX7_daysToOpen 28 (.ref x :: Ls) (.ref x :: st) (h) := e_aload_n dX7_daysToOpen_27 rfl
theorem iX7_daysToOpen_28 {a : Nat} {Ls st : List Value} {h : AH} (hk : hK h a = 7) (hj : (hR h 114 a).isSome = true) : ev L xs mdX7_daysToOpen 28 (Ls) (.ref a :: st) h = ev L xs mdX7_daysToOpen 31 (Ls) (.ref ((hR h 114 a).getD 0) :: st) (h) := e_getR (k := 7) (f := 2) (F := 114) dX7_daysToOpen_28 (by decide +kernel) rfl rfl hk hj
theorem iX7_daysToOpen_31  {Ls st : List Value} {h : AH} : ev L xs mdX7_daysToOpen 31 (Ls) (st) h = ev L xs mdX7_daysToOpen 32 (Ls) (.int (nI 0) :: st) (h) := e_iconst dX7_daysToOpen_31 (by decide)
theorem iX7_daysToOpen_32 {a : Nat} {j : Int32} {Ls st : List Value} {h : AH} (hk : hK h a = 8) (hi : inA j (hN h a) = true) : ev L xs mdX7_daysToOpen 32 (Ls) (.int j :: .ref a :: st) h = ev L xs mdX7_daysToOpen 33 (Ls) (.int (hA h a j.toNatClampNeg) :: st) (h) := e_iald dX7_daysToOpen_32 hk hi
theorem iX7_daysToOpen_33 {x : Nat} {Ls st : List Value} {h : AH} : ev L xs mdX7_daysToOpen 33 (.ref x :: Ls) (st) h = ev L xs mdX7_daysToOpen 34 (.ref x :: Ls) (.ref x :: st) (h) := e_aload_n dX7_daysToOpen_33 rfl
theorem iX7_daysToOpen_34 {a : Nat} {Ls st : List Value} {h : AH} (hk : hK h a = 7) (hj : (hR h 113 a).isSome = true) : ev L xs mdX7_daysToOpen 34 (Ls) (.ref a :: st) h = ev L xs mdX7_daysToOpen 37 (Ls) (.ref ((hR h 113 a).getD 0) :: st) (h) := e_getR (k := 7) (f := 1) (F := 113) dX7_daysToOpen_34 (by decide +kernel) rfl rfl hk hj
theorem iX7_daysToOpen_37  {Ls st : List Value} {h : AH} : ev L xs mdX7_daysToOpen 37 (Ls) (st) h = ev L xs mdX7_daysToOpen 38 (Ls) (.int (nI 0) :: st) (h) := e_iconst dX7_daysToOpen_37 (by decide)
theorem iX7_daysToOpen_38 {a : Nat} {j : Int32} {Ls st : List Value} {h : AH} (hk : hK h a = 8) (hi : inA j (hN h a) = true) : ev L xs mdX7_daysToOpen 38 (Ls) (.int j :: .ref a :: st) h = ev L xs mdX7_daysToOpen 39 (Ls) (.int (hA h a j.toNatClampNeg) :: st) (h) := e_iald dX7_daysToOpen_38 hk hi
theorem iX7_daysToOpen_39 {x z : Int32} {Ls st : List Value} {h : AH} : ev L xs mdX7_daysToOpen 39 (Ls) (.int z :: .int x :: st) h = ev L xs mdX7_daysToOpen 40 (Ls) (.int (x - z) :: st) (h) := e_isub dX7_daysToOpen_39
theorem iX7_daysToOpen_40 {v0 : Value} {v1 : Value} {x : Int32} {Ls st : List Value} {h : AH} (hc9 : v0.category = 1) : ev L xs mdX7_daysToOpen 40 (v0 :: v1 :: Ls) (.int x :: st) h = ev L xs mdX7_daysToOpen 41 (v0 :: .int x :: Ls) (st) (h) := e_istore_n dX7_daysToOpen_40 rfl (by decide) (by unfold catOK; show (_ || (v0.category == 1)) = true; rw [hc9]; rfl)
theorem iX7_daysToOpen_41 {x : Nat} {Ls st : List Value} {h : AH} : ev L xs mdX7_daysToOpen 41 (.ref x :: Ls) (st) h = ev L xs mdX7_daysToOpen 42 (.ref x :: Ls) (.ref x :: st) (h) := e_aload_n dX7_daysToOpen_41 rfl
theorem iX7_daysToOpen_42 {x : Nat} {Ls st : List Value} {h : AH} : ev L xs mdX7_daysToOpen 42 (.ref x :: Ls) (st) h = ev L xs mdX7_daysToOpen 43 (.ref x :: Ls) (.ref x :: st) (h) := e_aload_n dX7_daysToOpen_42 rfl
theorem iX7_daysToOpen_43 {a : Nat} {Ls st : List Value} {h : AH} (hk : hK h a = 7) (hj : (hR h 114 a).isSome = true) : ev L xs mdX7_daysToOpen 43 (Ls) (.ref a :: st) h = ev L xs mdX7_daysToOpen 46 (Ls) (.ref ((hR h 114 a).getD 0) :: st) (h) := e_getR (k := 7) (f := 2) (F := 114) dX7_daysToOpen_43 (by decide +kernel) rfl rfl hk hj
theorem iX7_daysToOpen_46 {a : Nat} {p0 : Nat} {Ls st : List Value} {h : AH} (hk : hK h a = 7) (hw : wds st ≤ 8) : ev L xs mdX7_daysToOpen 46 Ls (.ref p0 :: .ref a :: st) h = kn L xs mdX7_daysToOpen 46 49 Ls st (ev L xs mdX7_go 0 [.ref a, .ref p0, .null, .null, .null] [] h) := e_callV (as := [.ref p0]) dX7_daysToOpen_46 mr_7_106 (by decide) (by decide) rfl (by simp [wds, Value.category]; decide) rfl (by decide) hk hw
theorem iX7_daysToOpen_49 {x : Int32} {Ls st : List Value} {h : AH} : ev L xs mdX7_daysToOpen 49 Ls (.int x :: st) h = if x = nI 0 then ev L xs mdX7_daysToOpen 54 Ls st h else ev L xs mdX7_daysToOpen 52 Ls st h := e_if_eq dX7_daysToOpen_49 (by decide)
theorem iX7_daysToOpen_52 {v0 : Value} {x : Int32} {Ls st : List Value} {h : AH} : ev L xs mdX7_daysToOpen 52 (v0 :: .int x :: Ls) (st) h = ev L xs mdX7_daysToOpen 53 (v0 :: .int x :: Ls) (.int x :: st) (h) := e_iload_n dX7_daysToOpen_52 rfl
theorem iX7_daysToOpen_53 {v : Int32} {Ls : List Value} {h : AH} : ev L xs mdX7_daysToOpen 53 Ls [.int v] h = some (.inl (some (.int v), h)) := e_iret dX7_daysToOpen_53 rfl
theorem iX7_daysToOpen_54  {Ls st : List Value} {h : AH} : ev L xs mdX7_daysToOpen 54 (Ls) (st) h = ev L xs mdX7_daysToOpen 9 (Ls) (st) (h) := e_goto dX7_daysToOpen_54 (by decide)
theorem iX7_daysToOpen_57  {Ls st : List Value} {h : AH} : ev L xs mdX7_daysToOpen 57 (Ls) (st) h = ev L xs mdX7_daysToOpen 58 (Ls) (.int (-1) :: st) (h) := e_iconst dX7_daysToOpen_57 (by decide)
theorem iX7_daysToOpen_58 {v : Int32} {Ls : List Value} {h : AH} : ev L xs mdX7_daysToOpen 58 Ls [.int v] h = some (.inl (some (.int v), h)) := e_iret dX7_daysToOpen_58 rfl
theorem dX7_digest_0 : decode cX7_digest 0 = .ok (.aload_n 0, 1) := by decide +kernel
theorem dX7_digest_1 : decode cX7_digest 1 = .ok (.iconst 0, 1) := by decide +kernel
theorem dX7_digest_2 : decode cX7_digest 2 = .ok (.putfield 34, 3) := by decide +kernel
theorem dX7_digest_5 : decode cX7_digest 5 = .ok (.ldc2_w 206, 3) := by decide +kernel
theorem dX7_digest_8 : decode cX7_digest 8 = .ok (.aload_n 0, 1) := by decide +kernel
theorem dX7_digest_9 : decode cX7_digest 9 = .ok (.getfield 165, 3) := by decide +kernel
theorem dX7_digest_12 : decode cX7_digest 12 = .ok (.i2l, 1) := by decide +kernel
theorem dX7_digest_13 : decode cX7_digest 13 = .ok (.ladd, 1) := by decide +kernel
theorem dX7_digest_14 : decode cX7_digest 14 = .ok (.lstore_n 1, 1) := by decide +kernel
theorem dX7_digest_15 : decode cX7_digest 15 = .ok (.iconst 0, 1) := by decide +kernel
theorem dX7_digest_16 : decode cX7_digest 16 = .ok (.istore_n 3, 1) := by decide +kernel
theorem dX7_digest_17 : decode cX7_digest 17 = .ok (.iload_n 3, 1) := by decide +kernel
theorem dX7_digest_18 : decode cX7_digest 18 = .ok (.bipush 11, 2) := by decide +kernel
theorem dX7_digest_20 : decode cX7_digest 20 = .ok (.if_icmp .ge 22, 3) := by decide +kernel
theorem dX7_digest_23 : decode cX7_digest 23 = .ok (.ldc2_w 208, 3) := by decide +kernel
theorem dX7_digest_26 : decode cX7_digest 26 = .ok (.lload_n 1, 1) := by decide +kernel
theorem dX7_digest_27 : decode cX7_digest 27 = .ok (.lmul, 1) := by decide +kernel
theorem dX7_digest_28 : decode cX7_digest 28 = .ok (.aload_n 0, 1) := by decide +kernel
theorem dX7_digest_29 : decode cX7_digest 29 = .ok (.iload_n 3, 1) := by decide +kernel
theorem dX7_digest_30 : decode cX7_digest 30 = .ok (.invokevirtual 147, 3) := by decide +kernel
theorem dX7_digest_33 : decode cX7_digest 33 = .ok (.i2l, 1) := by decide +kernel
theorem dX7_digest_34 : decode cX7_digest 34 = .ok (.ladd, 1) := by decide +kernel
theorem dX7_digest_35 : decode cX7_digest 35 = .ok (.lstore_n 1, 1) := by decide +kernel
theorem dX7_digest_36 : decode cX7_digest 36 = .ok (.iinc 3 1, 3) := by decide +kernel
theorem dX7_digest_39 : decode cX7_digest 39 = .ok (.goto (-22), 3) := by decide +kernel
theorem dX7_digest_42 : decode cX7_digest 42 = .ok (.iconst 0, 1) := by decide +kernel
theorem dX7_digest_43 : decode cX7_digest 43 = .ok (.istore_n 3, 1) := by decide +kernel
theorem dX7_digest_44 : decode cX7_digest 44 = .ok (.iload_n 3, 1) := by decide +kernel
theorem dX7_digest_45 : decode cX7_digest 45 = .ok (.iconst 2, 1) := by decide +kernel
theorem dX7_digest_46 : decode cX7_digest 46 = .ok (.aload_n 0, 1) := by decide +kernel
theorem dX7_digest_47 : decode cX7_digest 47 = .ok (.getfield 7, 3) := by decide +kernel
theorem dX7_digest_50 : decode cX7_digest 50 = .ok (.iconst 2, 1) := by decide +kernel
theorem dX7_digest_51 : decode cX7_digest 51 = .ok (.iaload, 1) := by decide +kernel
theorem dX7_digest_52 : decode cX7_digest 52 = .ok (.imul, 1) := by decide +kernel
theorem dX7_digest_53 : decode cX7_digest 53 = .ok (.if_icmp .ge 26, 3) := by decide +kernel
theorem dX7_digest_56 : decode cX7_digest 56 = .ok (.ldc2_w 208, 3) := by decide +kernel
theorem dX7_digest_59 : decode cX7_digest 59 = .ok (.lload_n 1, 1) := by decide +kernel
theorem dX7_digest_60 : decode cX7_digest 60 = .ok (.lmul, 1) := by decide +kernel
theorem dX7_digest_61 : decode cX7_digest 61 = .ok (.aload_n 0, 1) := by decide +kernel
theorem dX7_digest_62 : decode cX7_digest 62 = .ok (.getfield 7, 3) := by decide +kernel
theorem dX7_digest_65 : decode cX7_digest 65 = .ok (.bipush 9, 2) := by decide +kernel
theorem dX7_digest_67 : decode cX7_digest 67 = .ok (.iload_n 3, 1) := by decide +kernel
theorem dX7_digest_68 : decode cX7_digest 68 = .ok (.iadd, 1) := by decide +kernel
theorem dX7_digest_69 : decode cX7_digest 69 = .ok (.iaload, 1) := by decide +kernel
theorem dX7_digest_70 : decode cX7_digest 70 = .ok (.i2l, 1) := by decide +kernel
theorem dX7_digest_71 : decode cX7_digest 71 = .ok (.ladd, 1) := by decide +kernel
theorem dX7_digest_72 : decode cX7_digest 72 = .ok (.lstore_n 1, 1) := by decide +kernel
theorem dX7_digest_73 : decode cX7_digest 73 = .ok (.iinc 3 1, 3) := by decide +kernel
theorem dX7_digest_76 : decode cX7_digest 76 = .ok (.goto (-32), 3) := by decide +kernel
theorem dX7_digest_79 : decode cX7_digest 79 = .ok (.iconst 0, 1) := by decide +kernel
theorem dX7_digest_80 : decode cX7_digest 80 = .ok (.istore_n 3, 1) := by decide +kernel
theorem dX7_digest_81 : decode cX7_digest 81 = .ok (.iload_n 3, 1) := by decide +kernel
theorem dX7_digest_82 : decode cX7_digest 82 = .ok (.aload_n 0, 1) := by decide +kernel
theorem dX7_digest_83 : decode cX7_digest 83 = .ok (.getfield 7, 3) := by decide +kernel
theorem dX7_digest_86 : decode cX7_digest 86 = .ok (.iconst 3, 1) := by decide +kernel
theorem dX7_digest_87 : decode cX7_digest 87 = .ok (.iaload, 1) := by decide +kernel
theorem dX7_digest_88 : decode cX7_digest 88 = .ok (.if_icmp .ge 40, 3) := by decide +kernel
theorem dX7_digest_91 : decode cX7_digest 91 = .ok (.iconst 0, 1) := by decide +kernel
theorem dX7_digest_92 : decode cX7_digest 92 = .ok (.istore 4, 2) := by decide +kernel
theorem dX7_digest_94 : decode cX7_digest 94 = .ok (.iload 4, 2) := by decide +kernel
theorem dX7_digest_96 : decode cX7_digest 96 = .ok (.bipush 9, 2) := by decide +kernel
theorem dX7_digest_98 : decode cX7_digest 98 = .ok (.if_icmp .ge 24, 3) := by decide +kernel
theorem dX7_digest_101 : decode cX7_digest 101 = .ok (.ldc2_w 208, 3) := by decide +kernel
theorem dX7_digest_104 : decode cX7_digest 104 = .ok (.lload_n 1, 1) := by decide +kernel
theorem dX7_digest_105 : decode cX7_digest 105 = .ok (.lmul, 1) := by decide +kernel
theorem dX7_digest_106 : decode cX7_digest 106 = .ok (.aload_n 0, 1) := by decide +kernel
theorem dX7_digest_107 : decode cX7_digest 107 = .ok (.iload_n 3, 1) := by decide +kernel
theorem dX7_digest_108 : decode cX7_digest 108 = .ok (.iload 4, 2) := by decide +kernel
theorem dX7_digest_110 : decode cX7_digest 110 = .ok (.invokevirtual 137, 3) := by decide +kernel
theorem dX7_digest_113 : decode cX7_digest 113 = .ok (.i2l, 1) := by decide +kernel
theorem dX7_digest_114 : decode cX7_digest 114 = .ok (.ladd, 1) := by decide +kernel
theorem dX7_digest_115 : decode cX7_digest 115 = .ok (.lstore_n 1, 1) := by decide +kernel
theorem dX7_digest_116 : decode cX7_digest 116 = .ok (.iinc 4 1, 3) := by decide +kernel
theorem dX7_digest_119 : decode cX7_digest 119 = .ok (.goto (-25), 3) := by decide +kernel
theorem dX7_digest_122 : decode cX7_digest 122 = .ok (.iinc 3 1, 3) := by decide +kernel
theorem dX7_digest_125 : decode cX7_digest 125 = .ok (.goto (-44), 3) := by decide +kernel
theorem dX7_digest_128 : decode cX7_digest 128 = .ok (.iconst 0, 1) := by decide +kernel
theorem dX7_digest_129 : decode cX7_digest 129 = .ok (.istore_n 3, 1) := by decide +kernel
theorem dX7_digest_130 : decode cX7_digest 130 = .ok (.iload_n 3, 1) := by decide +kernel
theorem dX7_digest_131 : decode cX7_digest 131 = .ok (.aload_n 0, 1) := by decide +kernel
theorem dX7_digest_132 : decode cX7_digest 132 = .ok (.getfield 7, 3) := by decide +kernel
theorem dX7_digest_135 : decode cX7_digest 135 = .ok (.iconst 4, 1) := by decide +kernel
theorem dX7_digest_136 : decode cX7_digest 136 = .ok (.iaload, 1) := by decide +kernel
theorem dX7_digest_137 : decode cX7_digest 137 = .ok (.if_icmp .ge 40, 3) := by decide +kernel
theorem dX7_digest_140 : decode cX7_digest 140 = .ok (.iconst 0, 1) := by decide +kernel
theorem dX7_digest_141 : decode cX7_digest 141 = .ok (.istore 4, 2) := by decide +kernel
theorem dX7_digest_143 : decode cX7_digest 143 = .ok (.iload 4, 2) := by decide +kernel
theorem dX7_digest_145 : decode cX7_digest 145 = .ok (.bipush 11, 2) := by decide +kernel
theorem dX7_digest_147 : decode cX7_digest 147 = .ok (.if_icmp .ge 24, 3) := by decide +kernel
theorem dX7_digest_150 : decode cX7_digest 150 = .ok (.ldc2_w 208, 3) := by decide +kernel
theorem dX7_digest_153 : decode cX7_digest 153 = .ok (.lload_n 1, 1) := by decide +kernel
theorem dX7_digest_154 : decode cX7_digest 154 = .ok (.lmul, 1) := by decide +kernel
theorem dX7_digest_155 : decode cX7_digest 155 = .ok (.aload_n 0, 1) := by decide +kernel
theorem dX7_digest_156 : decode cX7_digest 156 = .ok (.iload_n 3, 1) := by decide +kernel
theorem dX7_digest_157 : decode cX7_digest 157 = .ok (.iload 4, 2) := by decide +kernel
theorem dX7_digest_159 : decode cX7_digest 159 = .ok (.invokevirtual 141, 3) := by decide +kernel
theorem dX7_digest_162 : decode cX7_digest 162 = .ok (.i2l, 1) := by decide +kernel
theorem dX7_digest_163 : decode cX7_digest 163 = .ok (.ladd, 1) := by decide +kernel
theorem dX7_digest_164 : decode cX7_digest 164 = .ok (.lstore_n 1, 1) := by decide +kernel
theorem dX7_digest_165 : decode cX7_digest 165 = .ok (.iinc 4 1, 3) := by decide +kernel
theorem dX7_digest_168 : decode cX7_digest 168 = .ok (.goto (-25), 3) := by decide +kernel
theorem dX7_digest_171 : decode cX7_digest 171 = .ok (.iinc 3 1, 3) := by decide +kernel
theorem dX7_digest_174 : decode cX7_digest 174 = .ok (.goto (-44), 3) := by decide +kernel
theorem dX7_digest_177 : decode cX7_digest 177 = .ok (.ldc2_w 208, 3) := by decide +kernel
theorem dX7_digest_180 : decode cX7_digest 180 = .ok (.lload_n 1, 1) := by decide +kernel
theorem dX7_digest_181 : decode cX7_digest 181 = .ok (.lmul, 1) := by decide +kernel
theorem dX7_digest_182 : decode cX7_digest 182 = .ok (.aload_n 0, 1) := by decide +kernel
theorem dX7_digest_183 : decode cX7_digest 183 = .ok (.getfield 41, 3) := by decide +kernel
theorem dX7_digest_186 : decode cX7_digest 186 = .ok (.i2l, 1) := by decide +kernel
theorem dX7_digest_187 : decode cX7_digest 187 = .ok (.ladd, 1) := by decide +kernel
theorem dX7_digest_188 : decode cX7_digest 188 = .ok (.lreturn, 1) := by decide +kernel
theorem iX7_digest_0 {x : Nat} {Ls st : List Value} {h : AH} : ev L xs mdX7_digest 0 (.ref x :: Ls) (st) h = ev L xs mdX7_digest 1 (.ref x :: Ls) (.ref x :: st) (h) := e_aload_n dX7_digest_0 rfl
theorem iX7_digest_1  {Ls st : List Value} {h : AH} : ev L xs mdX7_digest 1 (Ls) (st) h = ev L xs mdX7_digest 2 (Ls) (.int (nI 0) :: st) (h) := e_iconst dX7_digest_1 (by decide)
theorem iX7_digest_2 {a : Nat} {v : Int32} {Ls st : List Value} {h : AH} (hk : hK h a = 7) : ev L xs mdX7_digest 2 (Ls) (.int v :: .ref a :: st) h = ev L xs mdX7_digest 5 (Ls) (st) (sI h 112 a v) := e_putI (k := 7) (f := 0) (F := 112) dX7_digest_2 (by decide +kernel) rfl (by decide +kernel) rfl hk
theorem iX7_digest_5  {Ls st : List Value} {h : AH} : ev L xs mdX7_digest 5 (Ls) (st) h = ev L xs mdX7_digest 8 (Ls) (.long (112127) :: st) (h) := e_ldc2 dX7_digest_5 (by decide +kernel)
theorem iX7_digest_8 {x : Nat} {Ls st : List Value} {h : AH} : ev L xs mdX7_digest 8 (.ref x :: Ls) (st) h = ev L xs mdX7_digest 9 (.ref x :: Ls) (.ref x :: st) (h) := e_aload_n dX7_digest_8 rfl
theorem iX7_digest_9 {a : Nat} {Ls st : List Value} {h : AH} (hk : hK h a = 7) : ev L xs mdX7_digest 9 (Ls) (.ref a :: st) h = ev L xs mdX7_digest 12 (Ls) (.int (hI h 118 a) :: st) (h) := e_getI (k := 7) (f := 6) (F := 118) dX7_digest_9 (by decide +kernel) rfl rfl hk
theorem iX7_digest_12 {x : Int32} {Ls st : List Value} {h : AH} : ev L xs mdX7_digest 12 (Ls) (.int x :: st) h = ev L xs mdX7_digest 13 (Ls) (.long x.toInt64 :: st) (h) := e_i2l dX7_digest_12
theorem iX7_digest_13 {x z : Int64} {Ls st : List Value} {h : AH} : ev L xs mdX7_digest 13 (Ls) (.long z :: .long x :: st) h = ev L xs mdX7_digest 14 (Ls) (.long (x + z) :: st) (h) := e_ladd dX7_digest_13
theorem iX7_digest_14 {v0 : Value} {v1 : Value} {v2 : Value} {x : Int64} {Ls st : List Value} {h : AH} (hc9 : v0.category = 1) : ev L xs mdX7_digest 14 (v0 :: v1 :: v2 :: Ls) (.long x :: st) h = ev L xs mdX7_digest 15 (v0 :: .long x :: .null :: Ls) (st) (h) := e_lstore_n dX7_digest_14 rfl (by decide) (by unfold catOK; show (_ || (v0.category == 1)) = true; rw [hc9]; rfl)
theorem iX7_digest_15  {Ls st : List Value} {h : AH} : ev L xs mdX7_digest 15 (Ls) (st) h = ev L xs mdX7_digest 16 (Ls) (.int (nI 0) :: st) (h) := e_iconst dX7_digest_15 (by decide)
theorem iX7_digest_16 {v0 : Value} {v1 : Value} {v2 : Value} {v3 : Value} {x : Int32} {Ls st : List Value} {h : AH} (hc9 : v2.category = 1) : ev L xs mdX7_digest 16 (v0 :: v1 :: v2 :: v3 :: Ls) (.int x :: st) h = ev L xs mdX7_digest 17 (v0 :: v1 :: v2 :: .int x :: Ls) (st) (h) := e_istore_n dX7_digest_16 rfl (by decide) (by unfold catOK; show (_ || (v2.category == 1)) = true; rw [hc9]; rfl)
theorem iX7_digest_17 {v0 : Value} {v1 : Value} {v2 : Value} {x : Int32} {Ls st : List Value} {h : AH} : ev L xs mdX7_digest 17 (v0 :: v1 :: v2 :: .int x :: Ls) (st) h = ev L xs mdX7_digest 18 (v0 :: v1 :: v2 :: .int x :: Ls) (.int x :: st) (h) := e_iload_n dX7_digest_17 rfl
theorem iX7_digest_18  {Ls st : List Value} {h : AH} : ev L xs mdX7_digest 18 (Ls) (st) h = ev L xs mdX7_digest 20 (Ls) (.int (nI 11) :: st) (h) := e_bipush dX7_digest_18 (by decide)
theorem iX7_digest_20 {x z : Int32} {Ls st : List Value} {h : AH} : ev L xs mdX7_digest 20 Ls (.int z :: .int x :: st) h = if z ≤ x then ev L xs mdX7_digest 42 Ls st h else ev L xs mdX7_digest 23 Ls st h := e_ic_ge dX7_digest_20 (by decide)
theorem iX7_digest_23  {Ls st : List Value} {h : AH} : ev L xs mdX7_digest 23 (Ls) (st) h = ev L xs mdX7_digest 26 (Ls) (.long (31) :: st) (h) := e_ldc2 dX7_digest_23 (by decide +kernel)
theorem iX7_digest_26 {v0 : Value} {x : Int64} {Ls st : List Value} {h : AH} : ev L xs mdX7_digest 26 (v0 :: .long x :: Ls) (st) h = ev L xs mdX7_digest 27 (v0 :: .long x :: Ls) (.long x :: st) (h) := e_lload_n dX7_digest_26 rfl
theorem iX7_digest_27 {x z : Int64} {Ls st : List Value} {h : AH} : ev L xs mdX7_digest 27 (Ls) (.long z :: .long x :: st) h = ev L xs mdX7_digest 28 (Ls) (.long (x * z) :: st) (h) := e_lmul dX7_digest_27
theorem iX7_digest_28 {x : Nat} {Ls st : List Value} {h : AH} : ev L xs mdX7_digest 28 (.ref x :: Ls) (st) h = ev L xs mdX7_digest 29 (.ref x :: Ls) (.ref x :: st) (h) := e_aload_n dX7_digest_28 rfl
theorem iX7_digest_29 {v0 : Value} {v1 : Value} {v2 : Value} {x : Int32} {Ls st : List Value} {h : AH} : ev L xs mdX7_digest 29 (v0 :: v1 :: v2 :: .int x :: Ls) (st) h = ev L xs mdX7_digest 30 (v0 :: v1 :: v2 :: .int x :: Ls) (.int x :: st) (h) := e_iload_n dX7_digest_29 rfl
theorem iX7_digest_30 {a : Nat} {p0 : Int32} {Ls st : List Value} {h : AH} (hk : hK h a = 7) (hw : wds st ≤ 8) : ev L xs mdX7_digest 30 Ls (.int p0 :: .ref a :: st) h = kn L xs mdX7_digest 30 33 Ls st (ev L xs mdX7_valueNow 0 [.ref a, .int p0] [] h) := e_callV (as := [.int p0]) dX7_digest_30 mr_7_147 (by decide) (by decide) rfl (by simp [wds, Value.category]; decide) rfl (by decide) hk hw
theorem iX7_digest_33 {x : Int32} {Ls st : List Value} {h : AH} : ev L xs mdX7_digest 33 (Ls) (.int x :: st) h = ev L xs mdX7_digest 34 (Ls) (.long x.toInt64 :: st) (h) := e_i2l dX7_digest_33
theorem iX7_digest_34 {x z : Int64} {Ls st : List Value} {h : AH} : ev L xs mdX7_digest 34 (Ls) (.long z :: .long x :: st) h = ev L xs mdX7_digest 35 (Ls) (.long (x + z) :: st) (h) := e_ladd dX7_digest_34
theorem iX7_digest_35 {v0 : Value} {v1 : Value} {v2 : Value} {x : Int64} {Ls st : List Value} {h : AH} (hc9 : v0.category = 1) : ev L xs mdX7_digest 35 (v0 :: v1 :: v2 :: Ls) (.long x :: st) h = ev L xs mdX7_digest 36 (v0 :: .long x :: .null :: Ls) (st) (h) := e_lstore_n dX7_digest_35 rfl (by decide) (by unfold catOK; show (_ || (v0.category == 1)) = true; rw [hc9]; rfl)
theorem iX7_digest_36 {v0 : Value} {v1 : Value} {v2 : Value} {x : Int32} {Ls st : List Value} {h : AH} (hc9 : v2.category = 1) : ev L xs mdX7_digest 36 (v0 :: v1 :: v2 :: .int x :: Ls) (st) h = ev L xs mdX7_digest 39 (v0 :: v1 :: v2 :: .int (x + (nI 1)) :: Ls) (st) (h) := e_iinc dX7_digest_36 rfl rfl rfl (by decide) (by unfold catOK; show (_ || (v2.category == 1)) = true; rw [hc9]; rfl)
theorem iX7_digest_39  {Ls st : List Value} {h : AH} : ev L xs mdX7_digest 39 (Ls) (st) h = ev L xs mdX7_digest 17 (Ls) (st) (h) := e_goto dX7_digest_39 (by decide)
theorem iX7_digest_42  {Ls st : List Value} {h : AH} : ev L xs mdX7_digest 42 (Ls) (st) h = ev L xs mdX7_digest 43 (Ls) (.int (nI 0) :: st) (h) := e_iconst dX7_digest_42 (by decide)
theorem iX7_digest_43 {v0 : Value} {v1 : Value} {v2 : Value} {v3 : Value} {x : Int32} {Ls st : List Value} {h : AH} (hc9 : v2.category = 1) : ev L xs mdX7_digest 43 (v0 :: v1 :: v2 :: v3 :: Ls) (.int x :: st) h = ev L xs mdX7_digest 44 (v0 :: v1 :: v2 :: .int x :: Ls) (st) (h) := e_istore_n dX7_digest_43 rfl (by decide) (by unfold catOK; show (_ || (v2.category == 1)) = true; rw [hc9]; rfl)
theorem iX7_digest_44 {v0 : Value} {v1 : Value} {v2 : Value} {x : Int32} {Ls st : List Value} {h : AH} : ev L xs mdX7_digest 44 (v0 :: v1 :: v2 :: .int x :: Ls) (st) h = ev L xs mdX7_digest 45 (v0 :: v1 :: v2 :: .int x :: Ls) (.int x :: st) (h) := e_iload_n dX7_digest_44 rfl
theorem iX7_digest_45  {Ls st : List Value} {h : AH} : ev L xs mdX7_digest 45 (Ls) (st) h = ev L xs mdX7_digest 46 (Ls) (.int (nI 2) :: st) (h) := e_iconst dX7_digest_45 (by decide)
theorem iX7_digest_46 {x : Nat} {Ls st : List Value} {h : AH} : ev L xs mdX7_digest 46 (.ref x :: Ls) (st) h = ev L xs mdX7_digest 47 (.ref x :: Ls) (.ref x :: st) (h) := e_aload_n dX7_digest_46 rfl
theorem iX7_digest_47 {a : Nat} {Ls st : List Value} {h : AH} (hk : hK h a = 7) (hj : (hR h 113 a).isSome = true) : ev L xs mdX7_digest 47 (Ls) (.ref a :: st) h = ev L xs mdX7_digest 50 (Ls) (.ref ((hR h 113 a).getD 0) :: st) (h) := e_getR (k := 7) (f := 1) (F := 113) dX7_digest_47 (by decide +kernel) rfl rfl hk hj
theorem iX7_digest_50  {Ls st : List Value} {h : AH} : ev L xs mdX7_digest 50 (Ls) (st) h = ev L xs mdX7_digest 51 (Ls) (.int (nI 2) :: st) (h) := e_iconst dX7_digest_50 (by decide)
theorem iX7_digest_51 {a : Nat} {j : Int32} {Ls st : List Value} {h : AH} (hk : hK h a = 8) (hi : inA j (hN h a) = true) : ev L xs mdX7_digest 51 (Ls) (.int j :: .ref a :: st) h = ev L xs mdX7_digest 52 (Ls) (.int (hA h a j.toNatClampNeg) :: st) (h) := e_iald dX7_digest_51 hk hi
theorem iX7_digest_52 {x z : Int32} {Ls st : List Value} {h : AH} : ev L xs mdX7_digest 52 (Ls) (.int z :: .int x :: st) h = ev L xs mdX7_digest 53 (Ls) (.int (x * z) :: st) (h) := e_imul dX7_digest_52
theorem iX7_digest_53 {x z : Int32} {Ls st : List Value} {h : AH} : ev L xs mdX7_digest 53 Ls (.int z :: .int x :: st) h = if z ≤ x then ev L xs mdX7_digest 79 Ls st h else ev L xs mdX7_digest 56 Ls st h := e_ic_ge dX7_digest_53 (by decide)
theorem iX7_digest_56  {Ls st : List Value} {h : AH} : ev L xs mdX7_digest 56 (Ls) (st) h = ev L xs mdX7_digest 59 (Ls) (.long (31) :: st) (h) := e_ldc2 dX7_digest_56 (by decide +kernel)
theorem iX7_digest_59 {v0 : Value} {x : Int64} {Ls st : List Value} {h : AH} : ev L xs mdX7_digest 59 (v0 :: .long x :: Ls) (st) h = ev L xs mdX7_digest 60 (v0 :: .long x :: Ls) (.long x :: st) (h) := e_lload_n dX7_digest_59 rfl
theorem iX7_digest_60 {x z : Int64} {Ls st : List Value} {h : AH} : ev L xs mdX7_digest 60 (Ls) (.long z :: .long x :: st) h = ev L xs mdX7_digest 61 (Ls) (.long (x * z) :: st) (h) := e_lmul dX7_digest_60
theorem iX7_digest_61 {x : Nat} {Ls st : List Value} {h : AH} : ev L xs mdX7_digest 61 (.ref x :: Ls) (st) h = ev L xs mdX7_digest 62 (.ref x :: Ls) (.ref x :: st) (h) := e_aload_n dX7_digest_61 rfl
theorem iX7_digest_62 {a : Nat} {Ls st : List Value} {h : AH} (hk : hK h a = 7) (hj : (hR h 113 a).isSome = true) : ev L xs mdX7_digest 62 (Ls) (.ref a :: st) h = ev L xs mdX7_digest 65 (Ls) (.ref ((hR h 113 a).getD 0) :: st) (h) := e_getR (k := 7) (f := 1) (F := 113) dX7_digest_62 (by decide +kernel) rfl rfl hk hj
theorem iX7_digest_65  {Ls st : List Value} {h : AH} : ev L xs mdX7_digest 65 (Ls) (st) h = ev L xs mdX7_digest 67 (Ls) (.int (nI 9) :: st) (h) := e_bipush dX7_digest_65 (by decide)
theorem iX7_digest_67 {v0 : Value} {v1 : Value} {v2 : Value} {x : Int32} {Ls st : List Value} {h : AH} : ev L xs mdX7_digest 67 (v0 :: v1 :: v2 :: .int x :: Ls) (st) h = ev L xs mdX7_digest 68 (v0 :: v1 :: v2 :: .int x :: Ls) (.int x :: st) (h) := e_iload_n dX7_digest_67 rfl
theorem iX7_digest_68 {x z : Int32} {Ls st : List Value} {h : AH} : ev L xs mdX7_digest 68 (Ls) (.int z :: .int x :: st) h = ev L xs mdX7_digest 69 (Ls) (.int (x + z) :: st) (h) := e_iadd dX7_digest_68
theorem iX7_digest_69 {a : Nat} {j : Int32} {Ls st : List Value} {h : AH} (hk : hK h a = 8) (hi : inA j (hN h a) = true) : ev L xs mdX7_digest 69 (Ls) (.int j :: .ref a :: st) h = ev L xs mdX7_digest 70 (Ls) (.int (hA h a j.toNatClampNeg) :: st) (h) := e_iald dX7_digest_69 hk hi
theorem iX7_digest_70 {x : Int32} {Ls st : List Value} {h : AH} : ev L xs mdX7_digest 70 (Ls) (.int x :: st) h = ev L xs mdX7_digest 71 (Ls) (.long x.toInt64 :: st) (h) := e_i2l dX7_digest_70
theorem iX7_digest_71 {x z : Int64} {Ls st : List Value} {h : AH} : ev L xs mdX7_digest 71 (Ls) (.long z :: .long x :: st) h = ev L xs mdX7_digest 72 (Ls) (.long (x + z) :: st) (h) := e_ladd dX7_digest_71
theorem iX7_digest_72 {v0 : Value} {v1 : Value} {v2 : Value} {x : Int64} {Ls st : List Value} {h : AH} (hc9 : v0.category = 1) : ev L xs mdX7_digest 72 (v0 :: v1 :: v2 :: Ls) (.long x :: st) h = ev L xs mdX7_digest 73 (v0 :: .long x :: .null :: Ls) (st) (h) := e_lstore_n dX7_digest_72 rfl (by decide) (by unfold catOK; show (_ || (v0.category == 1)) = true; rw [hc9]; rfl)
theorem iX7_digest_73 {v0 : Value} {v1 : Value} {v2 : Value} {x : Int32} {Ls st : List Value} {h : AH} (hc9 : v2.category = 1) : ev L xs mdX7_digest 73 (v0 :: v1 :: v2 :: .int x :: Ls) (st) h = ev L xs mdX7_digest 76 (v0 :: v1 :: v2 :: .int (x + (nI 1)) :: Ls) (st) (h) := e_iinc dX7_digest_73 rfl rfl rfl (by decide) (by unfold catOK; show (_ || (v2.category == 1)) = true; rw [hc9]; rfl)
theorem iX7_digest_76  {Ls st : List Value} {h : AH} : ev L xs mdX7_digest 76 (Ls) (st) h = ev L xs mdX7_digest 44 (Ls) (st) (h) := e_goto dX7_digest_76 (by decide)
theorem iX7_digest_79  {Ls st : List Value} {h : AH} : ev L xs mdX7_digest 79 (Ls) (st) h = ev L xs mdX7_digest 80 (Ls) (.int (nI 0) :: st) (h) := e_iconst dX7_digest_79 (by decide)
theorem iX7_digest_80 {v0 : Value} {v1 : Value} {v2 : Value} {v3 : Value} {x : Int32} {Ls st : List Value} {h : AH} (hc9 : v2.category = 1) : ev L xs mdX7_digest 80 (v0 :: v1 :: v2 :: v3 :: Ls) (.int x :: st) h = ev L xs mdX7_digest 81 (v0 :: v1 :: v2 :: .int x :: Ls) (st) (h) := e_istore_n dX7_digest_80 rfl (by decide) (by unfold catOK; show (_ || (v2.category == 1)) = true; rw [hc9]; rfl)
theorem iX7_digest_81 {v0 : Value} {v1 : Value} {v2 : Value} {x : Int32} {Ls st : List Value} {h : AH} : ev L xs mdX7_digest 81 (v0 :: v1 :: v2 :: .int x :: Ls) (st) h = ev L xs mdX7_digest 82 (v0 :: v1 :: v2 :: .int x :: Ls) (.int x :: st) (h) := e_iload_n dX7_digest_81 rfl
theorem iX7_digest_82 {x : Nat} {Ls st : List Value} {h : AH} : ev L xs mdX7_digest 82 (.ref x :: Ls) (st) h = ev L xs mdX7_digest 83 (.ref x :: Ls) (.ref x :: st) (h) := e_aload_n dX7_digest_82 rfl
theorem iX7_digest_83 {a : Nat} {Ls st : List Value} {h : AH} (hk : hK h a = 7) (hj : (hR h 113 a).isSome = true) : ev L xs mdX7_digest 83 (Ls) (.ref a :: st) h = ev L xs mdX7_digest 86 (Ls) (.ref ((hR h 113 a).getD 0) :: st) (h) := e_getR (k := 7) (f := 1) (F := 113) dX7_digest_83 (by decide +kernel) rfl rfl hk hj
theorem iX7_digest_86  {Ls st : List Value} {h : AH} : ev L xs mdX7_digest 86 (Ls) (st) h = ev L xs mdX7_digest 87 (Ls) (.int (nI 3) :: st) (h) := e_iconst dX7_digest_86 (by decide)
theorem iX7_digest_87 {a : Nat} {j : Int32} {Ls st : List Value} {h : AH} (hk : hK h a = 8) (hi : inA j (hN h a) = true) : ev L xs mdX7_digest 87 (Ls) (.int j :: .ref a :: st) h = ev L xs mdX7_digest 88 (Ls) (.int (hA h a j.toNatClampNeg) :: st) (h) := e_iald dX7_digest_87 hk hi
theorem iX7_digest_88 {x z : Int32} {Ls st : List Value} {h : AH} : ev L xs mdX7_digest 88 Ls (.int z :: .int x :: st) h = if z ≤ x then ev L xs mdX7_digest 128 Ls st h else ev L xs mdX7_digest 91 Ls st h := e_ic_ge dX7_digest_88 (by decide)
theorem iX7_digest_91  {Ls st : List Value} {h : AH} : ev L xs mdX7_digest 91 (Ls) (st) h = ev L xs mdX7_digest 92 (Ls) (.int (nI 0) :: st) (h) := e_iconst dX7_digest_91 (by decide)
theorem iX7_digest_92 {v0 : Value} {v1 : Value} {v2 : Value} {v3 : Value} {v4 : Value} {x : Int32} {Ls st : List Value} {h : AH} (hc9 : v3.category = 1) : ev L xs mdX7_digest 92 (v0 :: v1 :: v2 :: v3 :: v4 :: Ls) (.int x :: st) h = ev L xs mdX7_digest 94 (v0 :: v1 :: v2 :: v3 :: .int x :: Ls) (st) (h) := e_istore dX7_digest_92 rfl (by decide) (by unfold catOK; show (_ || (v3.category == 1)) = true; rw [hc9]; rfl)
theorem iX7_digest_94 {v0 : Value} {v1 : Value} {v2 : Value} {v3 : Value} {x : Int32} {Ls st : List Value} {h : AH} : ev L xs mdX7_digest 94 (v0 :: v1 :: v2 :: v3 :: .int x :: Ls) (st) h = ev L xs mdX7_digest 96 (v0 :: v1 :: v2 :: v3 :: .int x :: Ls) (.int x :: st) (h) := e_iload dX7_digest_94 rfl
theorem iX7_digest_96  {Ls st : List Value} {h : AH} : ev L xs mdX7_digest 96 (Ls) (st) h = ev L xs mdX7_digest 98 (Ls) (.int (nI 9) :: st) (h) := e_bipush dX7_digest_96 (by decide)
theorem iX7_digest_98 {x z : Int32} {Ls st : List Value} {h : AH} : ev L xs mdX7_digest 98 Ls (.int z :: .int x :: st) h = if z ≤ x then ev L xs mdX7_digest 122 Ls st h else ev L xs mdX7_digest 101 Ls st h := e_ic_ge dX7_digest_98 (by decide)
theorem iX7_digest_101  {Ls st : List Value} {h : AH} : ev L xs mdX7_digest 101 (Ls) (st) h = ev L xs mdX7_digest 104 (Ls) (.long (31) :: st) (h) := e_ldc2 dX7_digest_101 (by decide +kernel)
theorem iX7_digest_104 {v0 : Value} {x : Int64} {Ls st : List Value} {h : AH} : ev L xs mdX7_digest 104 (v0 :: .long x :: Ls) (st) h = ev L xs mdX7_digest 105 (v0 :: .long x :: Ls) (.long x :: st) (h) := e_lload_n dX7_digest_104 rfl
theorem iX7_digest_105 {x z : Int64} {Ls st : List Value} {h : AH} : ev L xs mdX7_digest 105 (Ls) (.long z :: .long x :: st) h = ev L xs mdX7_digest 106 (Ls) (.long (x * z) :: st) (h) := e_lmul dX7_digest_105
theorem iX7_digest_106 {x : Nat} {Ls st : List Value} {h : AH} : ev L xs mdX7_digest 106 (.ref x :: Ls) (st) h = ev L xs mdX7_digest 107 (.ref x :: Ls) (.ref x :: st) (h) := e_aload_n dX7_digest_106 rfl
theorem iX7_digest_107 {v0 : Value} {v1 : Value} {v2 : Value} {x : Int32} {Ls st : List Value} {h : AH} : ev L xs mdX7_digest 107 (v0 :: v1 :: v2 :: .int x :: Ls) (st) h = ev L xs mdX7_digest 108 (v0 :: v1 :: v2 :: .int x :: Ls) (.int x :: st) (h) := e_iload_n dX7_digest_107 rfl
theorem iX7_digest_108 {v0 : Value} {v1 : Value} {v2 : Value} {v3 : Value} {x : Int32} {Ls st : List Value} {h : AH} : ev L xs mdX7_digest 108 (v0 :: v1 :: v2 :: v3 :: .int x :: Ls) (st) h = ev L xs mdX7_digest 110 (v0 :: v1 :: v2 :: v3 :: .int x :: Ls) (.int x :: st) (h) := e_iload dX7_digest_108 rfl
theorem iX7_digest_110 {a : Nat} {p0 : Int32} {p1 : Int32} {Ls st : List Value} {h : AH} (hk : hK h a = 7) (hw : wds st ≤ 8) : ev L xs mdX7_digest 110 Ls (.int p1 :: .int p0 :: .ref a :: st) h = kn L xs mdX7_digest 110 113 Ls st (ev L xs mdX7_postValue 0 [.ref a, .int p0, .int p1] [] h) := e_callV (as := [.int p1, .int p0]) dX7_digest_110 mr_7_137 (by decide) (by decide) rfl (by simp [wds, Value.category]; decide) rfl (by decide) hk hw
theorem iX7_digest_113 {x : Int32} {Ls st : List Value} {h : AH} : ev L xs mdX7_digest 113 (Ls) (.int x :: st) h = ev L xs mdX7_digest 114 (Ls) (.long x.toInt64 :: st) (h) := e_i2l dX7_digest_113
theorem iX7_digest_114 {x z : Int64} {Ls st : List Value} {h : AH} : ev L xs mdX7_digest 114 (Ls) (.long z :: .long x :: st) h = ev L xs mdX7_digest 115 (Ls) (.long (x + z) :: st) (h) := e_ladd dX7_digest_114
theorem iX7_digest_115 {v0 : Value} {v1 : Value} {v2 : Value} {x : Int64} {Ls st : List Value} {h : AH} (hc9 : v0.category = 1) : ev L xs mdX7_digest 115 (v0 :: v1 :: v2 :: Ls) (.long x :: st) h = ev L xs mdX7_digest 116 (v0 :: .long x :: .null :: Ls) (st) (h) := e_lstore_n dX7_digest_115 rfl (by decide) (by unfold catOK; show (_ || (v0.category == 1)) = true; rw [hc9]; rfl)
theorem iX7_digest_116 {v0 : Value} {v1 : Value} {v2 : Value} {v3 : Value} {x : Int32} {Ls st : List Value} {h : AH} (hc9 : v3.category = 1) : ev L xs mdX7_digest 116 (v0 :: v1 :: v2 :: v3 :: .int x :: Ls) (st) h = ev L xs mdX7_digest 119 (v0 :: v1 :: v2 :: v3 :: .int (x + (nI 1)) :: Ls) (st) (h) := e_iinc dX7_digest_116 rfl rfl rfl (by decide) (by unfold catOK; show (_ || (v3.category == 1)) = true; rw [hc9]; rfl)
theorem iX7_digest_119  {Ls st : List Value} {h : AH} : ev L xs mdX7_digest 119 (Ls) (st) h = ev L xs mdX7_digest 94 (Ls) (st) (h) := e_goto dX7_digest_119 (by decide)
theorem iX7_digest_122 {v0 : Value} {v1 : Value} {v2 : Value} {x : Int32} {Ls st : List Value} {h : AH} (hc9 : v2.category = 1) : ev L xs mdX7_digest 122 (v0 :: v1 :: v2 :: .int x :: Ls) (st) h = ev L xs mdX7_digest 125 (v0 :: v1 :: v2 :: .int (x + (nI 1)) :: Ls) (st) (h) := e_iinc dX7_digest_122 rfl rfl rfl (by decide) (by unfold catOK; show (_ || (v2.category == 1)) = true; rw [hc9]; rfl)
theorem iX7_digest_125  {Ls st : List Value} {h : AH} : ev L xs mdX7_digest 125 (Ls) (st) h = ev L xs mdX7_digest 81 (Ls) (st) (h) := e_goto dX7_digest_125 (by decide)
theorem iX7_digest_128  {Ls st : List Value} {h : AH} : ev L xs mdX7_digest 128 (Ls) (st) h = ev L xs mdX7_digest 129 (Ls) (.int (nI 0) :: st) (h) := e_iconst dX7_digest_128 (by decide)
theorem iX7_digest_129 {v0 : Value} {v1 : Value} {v2 : Value} {v3 : Value} {x : Int32} {Ls st : List Value} {h : AH} (hc9 : v2.category = 1) : ev L xs mdX7_digest 129 (v0 :: v1 :: v2 :: v3 :: Ls) (.int x :: st) h = ev L xs mdX7_digest 130 (v0 :: v1 :: v2 :: .int x :: Ls) (st) (h) := e_istore_n dX7_digest_129 rfl (by decide) (by unfold catOK; show (_ || (v2.category == 1)) = true; rw [hc9]; rfl)
theorem iX7_digest_130 {v0 : Value} {v1 : Value} {v2 : Value} {x : Int32} {Ls st : List Value} {h : AH} : ev L xs mdX7_digest 130 (v0 :: v1 :: v2 :: .int x :: Ls) (st) h = ev L xs mdX7_digest 131 (v0 :: v1 :: v2 :: .int x :: Ls) (.int x :: st) (h) := e_iload_n dX7_digest_130 rfl
theorem iX7_digest_131 {x : Nat} {Ls st : List Value} {h : AH} : ev L xs mdX7_digest 131 (.ref x :: Ls) (st) h = ev L xs mdX7_digest 132 (.ref x :: Ls) (.ref x :: st) (h) := e_aload_n dX7_digest_131 rfl
theorem iX7_digest_132 {a : Nat} {Ls st : List Value} {h : AH} (hk : hK h a = 7) (hj : (hR h 113 a).isSome = true) : ev L xs mdX7_digest 132 (Ls) (.ref a :: st) h = ev L xs mdX7_digest 135 (Ls) (.ref ((hR h 113 a).getD 0) :: st) (h) := e_getR (k := 7) (f := 1) (F := 113) dX7_digest_132 (by decide +kernel) rfl rfl hk hj
theorem iX7_digest_135  {Ls st : List Value} {h : AH} : ev L xs mdX7_digest 135 (Ls) (st) h = ev L xs mdX7_digest 136 (Ls) (.int (nI 4) :: st) (h) := e_iconst dX7_digest_135 (by decide)
theorem iX7_digest_136 {a : Nat} {j : Int32} {Ls st : List Value} {h : AH} (hk : hK h a = 8) (hi : inA j (hN h a) = true) : ev L xs mdX7_digest 136 (Ls) (.int j :: .ref a :: st) h = ev L xs mdX7_digest 137 (Ls) (.int (hA h a j.toNatClampNeg) :: st) (h) := e_iald dX7_digest_136 hk hi
theorem iX7_digest_137 {x z : Int32} {Ls st : List Value} {h : AH} : ev L xs mdX7_digest 137 Ls (.int z :: .int x :: st) h = if z ≤ x then ev L xs mdX7_digest 177 Ls st h else ev L xs mdX7_digest 140 Ls st h := e_ic_ge dX7_digest_137 (by decide)
theorem iX7_digest_140  {Ls st : List Value} {h : AH} : ev L xs mdX7_digest 140 (Ls) (st) h = ev L xs mdX7_digest 141 (Ls) (.int (nI 0) :: st) (h) := e_iconst dX7_digest_140 (by decide)
theorem iX7_digest_141 {v0 : Value} {v1 : Value} {v2 : Value} {v3 : Value} {v4 : Value} {x : Int32} {Ls st : List Value} {h : AH} (hc9 : v3.category = 1) : ev L xs mdX7_digest 141 (v0 :: v1 :: v2 :: v3 :: v4 :: Ls) (.int x :: st) h = ev L xs mdX7_digest 143 (v0 :: v1 :: v2 :: v3 :: .int x :: Ls) (st) (h) := e_istore dX7_digest_141 rfl (by decide) (by unfold catOK; show (_ || (v3.category == 1)) = true; rw [hc9]; rfl)
theorem iX7_digest_143 {v0 : Value} {v1 : Value} {v2 : Value} {v3 : Value} {x : Int32} {Ls st : List Value} {h : AH} : ev L xs mdX7_digest 143 (v0 :: v1 :: v2 :: v3 :: .int x :: Ls) (st) h = ev L xs mdX7_digest 145 (v0 :: v1 :: v2 :: v3 :: .int x :: Ls) (.int x :: st) (h) := e_iload dX7_digest_143 rfl
theorem iX7_digest_145  {Ls st : List Value} {h : AH} : ev L xs mdX7_digest 145 (Ls) (st) h = ev L xs mdX7_digest 147 (Ls) (.int (nI 11) :: st) (h) := e_bipush dX7_digest_145 (by decide)
theorem iX7_digest_147 {x z : Int32} {Ls st : List Value} {h : AH} : ev L xs mdX7_digest 147 Ls (.int z :: .int x :: st) h = if z ≤ x then ev L xs mdX7_digest 171 Ls st h else ev L xs mdX7_digest 150 Ls st h := e_ic_ge dX7_digest_147 (by decide)
theorem iX7_digest_150  {Ls st : List Value} {h : AH} : ev L xs mdX7_digest 150 (Ls) (st) h = ev L xs mdX7_digest 153 (Ls) (.long (31) :: st) (h) := e_ldc2 dX7_digest_150 (by decide +kernel)
theorem iX7_digest_153 {v0 : Value} {x : Int64} {Ls st : List Value} {h : AH} : ev L xs mdX7_digest 153 (v0 :: .long x :: Ls) (st) h = ev L xs mdX7_digest 154 (v0 :: .long x :: Ls) (.long x :: st) (h) := e_lload_n dX7_digest_153 rfl
theorem iX7_digest_154 {x z : Int64} {Ls st : List Value} {h : AH} : ev L xs mdX7_digest 154 (Ls) (.long z :: .long x :: st) h = ev L xs mdX7_digest 155 (Ls) (.long (x * z) :: st) (h) := e_lmul dX7_digest_154
theorem iX7_digest_155 {x : Nat} {Ls st : List Value} {h : AH} : ev L xs mdX7_digest 155 (.ref x :: Ls) (st) h = ev L xs mdX7_digest 156 (.ref x :: Ls) (.ref x :: st) (h) := e_aload_n dX7_digest_155 rfl
theorem iX7_digest_156 {v0 : Value} {v1 : Value} {v2 : Value} {x : Int32} {Ls st : List Value} {h : AH} : ev L xs mdX7_digest 156 (v0 :: v1 :: v2 :: .int x :: Ls) (st) h = ev L xs mdX7_digest 157 (v0 :: v1 :: v2 :: .int x :: Ls) (.int x :: st) (h) := e_iload_n dX7_digest_156 rfl
theorem iX7_digest_157 {v0 : Value} {v1 : Value} {v2 : Value} {v3 : Value} {x : Int32} {Ls st : List Value} {h : AH} : ev L xs mdX7_digest 157 (v0 :: v1 :: v2 :: v3 :: .int x :: Ls) (st) h = ev L xs mdX7_digest 159 (v0 :: v1 :: v2 :: v3 :: .int x :: Ls) (.int x :: st) (h) := e_iload dX7_digest_157 rfl
theorem iX7_digest_159 {a : Nat} {p0 : Int32} {p1 : Int32} {Ls st : List Value} {h : AH} (hk : hK h a = 7) (hw : wds st ≤ 8) : ev L xs mdX7_digest 159 Ls (.int p1 :: .int p0 :: .ref a :: st) h = kn L xs mdX7_digest 159 162 Ls st (ev L xs mdX7_guardValue 0 [.ref a, .int p0, .int p1] [] h) := e_callV (as := [.int p1, .int p0]) dX7_digest_159 mr_7_141 (by decide) (by decide) rfl (by simp [wds, Value.category]; decide) rfl (by decide) hk hw
theorem iX7_digest_162 {x : Int32} {Ls st : List Value} {h : AH} : ev L xs mdX7_digest 162 (Ls) (.int x :: st) h = ev L xs mdX7_digest 163 (Ls) (.long x.toInt64 :: st) (h) := e_i2l dX7_digest_162
theorem iX7_digest_163 {x z : Int64} {Ls st : List Value} {h : AH} : ev L xs mdX7_digest 163 (Ls) (.long z :: .long x :: st) h = ev L xs mdX7_digest 164 (Ls) (.long (x + z) :: st) (h) := e_ladd dX7_digest_163
theorem iX7_digest_164 {v0 : Value} {v1 : Value} {v2 : Value} {x : Int64} {Ls st : List Value} {h : AH} (hc9 : v0.category = 1) : ev L xs mdX7_digest 164 (v0 :: v1 :: v2 :: Ls) (.long x :: st) h = ev L xs mdX7_digest 165 (v0 :: .long x :: .null :: Ls) (st) (h) := e_lstore_n dX7_digest_164 rfl (by decide) (by unfold catOK; show (_ || (v0.category == 1)) = true; rw [hc9]; rfl)
theorem iX7_digest_165 {v0 : Value} {v1 : Value} {v2 : Value} {v3 : Value} {x : Int32} {Ls st : List Value} {h : AH} (hc9 : v3.category = 1) : ev L xs mdX7_digest 165 (v0 :: v1 :: v2 :: v3 :: .int x :: Ls) (st) h = ev L xs mdX7_digest 168 (v0 :: v1 :: v2 :: v3 :: .int (x + (nI 1)) :: Ls) (st) (h) := e_iinc dX7_digest_165 rfl rfl rfl (by decide) (by unfold catOK; show (_ || (v3.category == 1)) = true; rw [hc9]; rfl)
theorem iX7_digest_168  {Ls st : List Value} {h : AH} : ev L xs mdX7_digest 168 (Ls) (st) h = ev L xs mdX7_digest 143 (Ls) (st) (h) := e_goto dX7_digest_168 (by decide)
theorem iX7_digest_171 {v0 : Value} {v1 : Value} {v2 : Value} {x : Int32} {Ls st : List Value} {h : AH} (hc9 : v2.category = 1) : ev L xs mdX7_digest 171 (v0 :: v1 :: v2 :: .int x :: Ls) (st) h = ev L xs mdX7_digest 174 (v0 :: v1 :: v2 :: .int (x + (nI 1)) :: Ls) (st) (h) := e_iinc dX7_digest_171 rfl rfl rfl (by decide) (by unfold catOK; show (_ || (v2.category == 1)) = true; rw [hc9]; rfl)
theorem iX7_digest_174  {Ls st : List Value} {h : AH} : ev L xs mdX7_digest 174 (Ls) (st) h = ev L xs mdX7_digest 130 (Ls) (st) (h) := e_goto dX7_digest_174 (by decide)
theorem iX7_digest_177  {Ls st : List Value} {h : AH} : ev L xs mdX7_digest 177 (Ls) (st) h = ev L xs mdX7_digest 180 (Ls) (.long (31) :: st) (h) := e_ldc2 dX7_digest_177 (by decide +kernel)
theorem iX7_digest_180 {v0 : Value} {x : Int64} {Ls st : List Value} {h : AH} : ev L xs mdX7_digest 180 (v0 :: .long x :: Ls) (st) h = ev L xs mdX7_digest 181 (v0 :: .long x :: Ls) (.long x :: st) (h) := e_lload_n dX7_digest_180 rfl
theorem iX7_digest_181 {x z : Int64} {Ls st : List Value} {h : AH} : ev L xs mdX7_digest 181 (Ls) (.long z :: .long x :: st) h = ev L xs mdX7_digest 182 (Ls) (.long (x * z) :: st) (h) := e_lmul dX7_digest_181
theorem iX7_digest_182 {x : Nat} {Ls st : List Value} {h : AH} : ev L xs mdX7_digest 182 (.ref x :: Ls) (st) h = ev L xs mdX7_digest 183 (.ref x :: Ls) (.ref x :: st) (h) := e_aload_n dX7_digest_182 rfl
theorem iX7_digest_183 {a : Nat} {Ls st : List Value} {h : AH} (hk : hK h a = 7) : ev L xs mdX7_digest 183 (Ls) (.ref a :: st) h = ev L xs mdX7_digest 186 (Ls) (.int (hI h 116 a) :: st) (h) := e_getI (k := 7) (f := 4) (F := 116) dX7_digest_183 (by decide +kernel) rfl rfl hk
theorem iX7_digest_186 {x : Int32} {Ls st : List Value} {h : AH} : ev L xs mdX7_digest 186 (Ls) (.int x :: st) h = ev L xs mdX7_digest 187 (Ls) (.long x.toInt64 :: st) (h) := e_i2l dX7_digest_186
theorem iX7_digest_187 {x z : Int64} {Ls st : List Value} {h : AH} : ev L xs mdX7_digest 187 (Ls) (.long z :: .long x :: st) h = ev L xs mdX7_digest 188 (Ls) (.long (x + z) :: st) (h) := e_ladd dX7_digest_187
theorem iX7_digest_188 {v : Int64} {Ls : List Value} {h : AH} : ev L xs mdX7_digest 188 Ls [.long v] h = some (.inl (some (.long v), h)) := e_lret dX7_digest_188 rfl
theorem dX7_distance_0 : decode cX7_distance 0 = .ok (.aload_n 0, 1) := by decide +kernel
theorem dX7_distance_1 : decode cX7_distance 1 = .ok (.iload_n 1, 1) := by decide +kernel
theorem dX7_distance_2 : decode cX7_distance 2 = .ok (.iconst 0, 1) := by decide +kernel
theorem dX7_distance_3 : decode cX7_distance 3 = .ok (.invokestatic 56, 3) := by decide +kernel
theorem dX7_distance_6 : decode cX7_distance 6 = .ok (.aload_n 0, 1) := by decide +kernel
theorem dX7_distance_7 : decode cX7_distance 7 = .ok (.iload_n 2, 1) := by decide +kernel
theorem dX7_distance_8 : decode cX7_distance 8 = .ok (.iconst 0, 1) := by decide +kernel
theorem dX7_distance_9 : decode cX7_distance 9 = .ok (.invokestatic 48, 3) := by decide +kernel
theorem dX7_distance_12 : decode cX7_distance 12 = .ok (.isub, 1) := by decide +kernel
theorem dX7_distance_13 : decode cX7_distance 13 = .ok (.istore_n 3, 1) := by decide +kernel
theorem dX7_distance_14 : decode cX7_distance 14 = .ok (.iload_n 3, 1) := by decide +kernel
theorem dX7_distance_15 : decode cX7_distance 15 = .ok (.ifCond .ge 8, 3) := by decide +kernel
theorem dX7_distance_18 : decode cX7_distance 18 = .ok (.iload_n 3, 1) := by decide +kernel
theorem dX7_distance_19 : decode cX7_distance 19 = .ok (.ineg, 1) := by decide +kernel
theorem dX7_distance_20 : decode cX7_distance 20 = .ok (.goto 4, 3) := by decide +kernel
theorem dX7_distance_23 : decode cX7_distance 23 = .ok (.iload_n 3, 1) := by decide +kernel
theorem dX7_distance_24 : decode cX7_distance 24 = .ok (.ireturn, 1) := by decide +kernel
theorem iX7_distance_0 {x : Nat} {Ls st : List Value} {h : AH} : ev L xs mdX7_distance 0 (.ref x :: Ls) (st) h = ev L xs mdX7_distance 1 (.ref x :: Ls) (.ref x :: st) (h) := e_aload_n dX7_distance_0 rfl
theorem iX7_distance_1 {v0 : Value} {x : Int32} {Ls st : List Value} {h : AH} : ev L xs mdX7_distance 1 (v0 :: .int x :: Ls) (st) h = ev L xs mdX7_distance 2 (v0 :: .int x :: Ls) (.int x :: st) (h) := e_iload_n dX7_distance_1 rfl
theorem iX7_distance_2  {Ls st : List Value} {h : AH} : ev L xs mdX7_distance 2 (Ls) (st) h = ev L xs mdX7_distance 3 (Ls) (.int (nI 0) :: st) (h) := e_iconst dX7_distance_2 (by decide)
theorem iX7_distance_3 {p0 : Nat} {p1 : Int32} {p2 : Int32} {Ls st : List Value} {h : AH} (hw : wds st ≤ 8) : ev L xs mdX7_distance 3 Ls (.int p2 :: .int p1 :: .ref p0 :: st) h = kn L xs mdX7_distance 3 6 Ls st (ev L xs mdX7_by 0 [.ref p0, .int p1, .int p2] [] h) := e_callS (as := [.int p2, .int p1, .ref p0]) dX7_distance_3 mr_7_56 (by decide) (by decide) rfl (by simp [wds, Value.category]; decide) rfl hw
theorem iX7_distance_6 {x : Nat} {Ls st : List Value} {h : AH} : ev L xs mdX7_distance 6 (.ref x :: Ls) (st) h = ev L xs mdX7_distance 7 (.ref x :: Ls) (.ref x :: st) (h) := e_aload_n dX7_distance_6 rfl
theorem iX7_distance_7 {v0 : Value} {v1 : Value} {x : Int32} {Ls st : List Value} {h : AH} : ev L xs mdX7_distance 7 (v0 :: v1 :: .int x :: Ls) (st) h = ev L xs mdX7_distance 8 (v0 :: v1 :: .int x :: Ls) (.int x :: st) (h) := e_iload_n dX7_distance_7 rfl
theorem iX7_distance_8  {Ls st : List Value} {h : AH} : ev L xs mdX7_distance 8 (Ls) (st) h = ev L xs mdX7_distance 9 (Ls) (.int (nI 0) :: st) (h) := e_iconst dX7_distance_8 (by decide)
theorem iX7_distance_9 {p0 : Nat} {p1 : Int32} {p2 : Int32} {Ls st : List Value} {h : AH} (hw : wds st ≤ 8) : ev L xs mdX7_distance 9 Ls (.int p2 :: .int p1 :: .ref p0 :: st) h = kn L xs mdX7_distance 9 12 Ls st (ev L xs mdX7_of 0 [.ref p0, .int p1, .int p2] [] h) := e_callS (as := [.int p2, .int p1, .ref p0]) dX7_distance_9 mr_7_48 (by decide) (by decide) rfl (by simp [wds, Value.category]; decide) rfl hw
theorem iX7_distance_12 {x z : Int32} {Ls st : List Value} {h : AH} : ev L xs mdX7_distance 12 (Ls) (.int z :: .int x :: st) h = ev L xs mdX7_distance 13 (Ls) (.int (x - z) :: st) (h) := e_isub dX7_distance_12
theorem iX7_distance_13 {v0 : Value} {v1 : Value} {v2 : Value} {v3 : Value} {x : Int32} {Ls st : List Value} {h : AH} (hc9 : v2.category = 1) : ev L xs mdX7_distance 13 (v0 :: v1 :: v2 :: v3 :: Ls) (.int x :: st) h = ev L xs mdX7_distance 14 (v0 :: v1 :: v2 :: .int x :: Ls) (st) (h) := e_istore_n dX7_distance_13 rfl (by decide) (by unfold catOK; show (_ || (v2.category == 1)) = true; rw [hc9]; rfl)
theorem iX7_distance_14 {v0 : Value} {v1 : Value} {v2 : Value} {x : Int32} {Ls st : List Value} {h : AH} : ev L xs mdX7_distance 14 (v0 :: v1 :: v2 :: .int x :: Ls) (st) h = ev L xs mdX7_distance 15 (v0 :: v1 :: v2 :: .int x :: Ls) (.int x :: st) (h) := e_iload_n dX7_distance_14 rfl
theorem iX7_distance_15 {x : Int32} {Ls st : List Value} {h : AH} : ev L xs mdX7_distance 15 Ls (.int x :: st) h = if nI 0 ≤ x then ev L xs mdX7_distance 23 Ls st h else ev L xs mdX7_distance 18 Ls st h := e_if_ge dX7_distance_15 (by decide)
theorem iX7_distance_18 {v0 : Value} {v1 : Value} {v2 : Value} {x : Int32} {Ls st : List Value} {h : AH} : ev L xs mdX7_distance 18 (v0 :: v1 :: v2 :: .int x :: Ls) (st) h = ev L xs mdX7_distance 19 (v0 :: v1 :: v2 :: .int x :: Ls) (.int x :: st) (h) := e_iload_n dX7_distance_18 rfl
theorem iX7_distance_19 {x : Int32} {Ls st : List Value} {h : AH} : ev L xs mdX7_distance 19 (Ls) (.int x :: st) h = ev L xs mdX7_distance 20 (Ls) (.int (-x) :: st) (h) := e_ineg dX7_distance_19
theorem iX7_distance_20  {Ls st : List Value} {h : AH} : ev L xs mdX7_distance 20 (Ls) (st) h = ev L xs mdX7_distance 24 (Ls) (st) (h) := e_goto dX7_distance_20 (by decide)
theorem iX7_distance_23 {v0 : Value} {v1 : Value} {v2 : Value} {x : Int32} {Ls st : List Value} {h : AH} : ev L xs mdX7_distance 23 (v0 :: v1 :: v2 :: .int x :: Ls) (st) h = ev L xs mdX7_distance 24 (v0 :: v1 :: v2 :: .int x :: Ls) (.int x :: st) (h) := e_iload_n dX7_distance_23 rfl
theorem iX7_distance_24 {v : Int32} {Ls : List Value} {h : AH} : ev L xs mdX7_distance 24 Ls [.int v] h = some (.inl (some (.int v), h)) := e_iret dX7_distance_24 rfl
theorem dX7_expect_0 : decode cX7_expect 0 = .ok (.aload_n 0, 1) := by decide +kernel
theorem dX7_expect_1 : decode cX7_expect 1 = .ok (.invokevirtual 171, 3) := by decide +kernel
theorem dX7_expect_4 : decode cX7_expect 4 = .ok (.iload_n 1, 1) := by decide +kernel
theorem dX7_expect_5 : decode cX7_expect 5 = .ok (.if_icmp .eq 11, 3) := by decide +kernel
theorem dX7_expect_8 : decode cX7_expect 8 = .ok (.aload_n 0, 1) := by decide +kernel
theorem dX7_expect_9 : decode cX7_expect 9 = .ok (.aload_n 0, 1) := by decide +kernel
theorem dX7_expect_10 : decode cX7_expect 10 = .ok (.getfield 168, 3) := by decide +kernel
theorem dX7_expect_13 : decode cX7_expect 13 = .ok (.invokevirtual 181, 3) := by decide +kernel
theorem dX7_expect_16 : decode cX7_expect 16 = .ok (.aload_n 0, 1) := by decide +kernel
theorem dX7_expect_17 : decode cX7_expect 17 = .ok (.dup, 1) := by decide +kernel
theorem dX7_expect_18 : decode cX7_expect 18 = .ok (.getfield 168, 3) := by decide +kernel
theorem dX7_expect_21 : decode cX7_expect 21 = .ok (.iconst 1, 1) := by decide +kernel
theorem dX7_expect_22 : decode cX7_expect 22 = .ok (.iadd, 1) := by decide +kernel
theorem dX7_expect_23 : decode cX7_expect 23 = .ok (.putfield 168, 3) := by decide +kernel
theorem dX7_expect_26 : decode cX7_expect 26 = .ok (.return_, 1) := by decide +kernel
theorem iX7_expect_0 {x : Nat} {Ls st : List Value} {h : AH} : ev L xs mdX7_expect 0 (.ref x :: Ls) (st) h = ev L xs mdX7_expect 1 (.ref x :: Ls) (.ref x :: st) (h) := e_aload_n dX7_expect_0 rfl
theorem iX7_expect_1 {a : Nat} {Ls st : List Value} {h : AH} (hk : hK h a = 7) (hw : wds st ≤ 8) : ev L xs mdX7_expect 1 Ls (.ref a :: st) h = kn L xs mdX7_expect 1 4 Ls st (ev L xs mdX7_here 0 [.ref a] [] h) := e_callV (as := []) dX7_expect_1 mr_7_171 (by decide) (by decide) rfl (by simp [wds, Value.category]; decide) rfl (by decide) hk hw
theorem iX7_expect_4 {v0 : Value} {x : Int32} {Ls st : List Value} {h : AH} : ev L xs mdX7_expect 4 (v0 :: .int x :: Ls) (st) h = ev L xs mdX7_expect 5 (v0 :: .int x :: Ls) (.int x :: st) (h) := e_iload_n dX7_expect_4 rfl
theorem iX7_expect_5 {x z : Int32} {Ls st : List Value} {h : AH} : ev L xs mdX7_expect 5 Ls (.int z :: .int x :: st) h = if x = z then ev L xs mdX7_expect 16 Ls st h else ev L xs mdX7_expect 8 Ls st h := e_ic_eq dX7_expect_5 (by decide)
theorem iX7_expect_8 {x : Nat} {Ls st : List Value} {h : AH} : ev L xs mdX7_expect 8 (.ref x :: Ls) (st) h = ev L xs mdX7_expect 9 (.ref x :: Ls) (.ref x :: st) (h) := e_aload_n dX7_expect_8 rfl
theorem iX7_expect_9 {x : Nat} {Ls st : List Value} {h : AH} : ev L xs mdX7_expect 9 (.ref x :: Ls) (st) h = ev L xs mdX7_expect 10 (.ref x :: Ls) (.ref x :: st) (h) := e_aload_n dX7_expect_9 rfl
theorem iX7_expect_10 {a : Nat} {Ls st : List Value} {h : AH} (hk : hK h a = 7) : ev L xs mdX7_expect 10 (Ls) (.ref a :: st) h = ev L xs mdX7_expect 13 (Ls) (.int (hI h 124 a) :: st) (h) := e_getI (k := 7) (f := 12) (F := 124) dX7_expect_10 (by decide +kernel) rfl rfl hk
theorem iX7_expect_13 {a : Nat} {p0 : Int32} {Ls st : List Value} {h : AH} (hk : hK h a = 7) (hw : wds st ≤ 8) : ev L xs mdX7_expect 13 Ls (.int p0 :: .ref a :: st) h = kn L xs mdX7_expect 13 16 Ls st (ev L xs mdX7_fail 0 [.ref a, .int p0] [] h) := e_callV (as := [.int p0]) dX7_expect_13 mr_7_181 (by decide) (by decide) rfl (by simp [wds, Value.category]; decide) rfl (by decide) hk hw
theorem iX7_expect_16 {x : Nat} {Ls st : List Value} {h : AH} : ev L xs mdX7_expect 16 (.ref x :: Ls) (st) h = ev L xs mdX7_expect 17 (.ref x :: Ls) (.ref x :: st) (h) := e_aload_n dX7_expect_16 rfl
theorem iX7_expect_17 {a : Nat} {Ls st : List Value} {h : AH} : ev L xs mdX7_expect 17 (Ls) (.ref a :: st) h = ev L xs mdX7_expect 18 (Ls) (.ref a :: .ref a :: st) (h) := e_dup dX7_expect_17 rfl
theorem iX7_expect_17i {a : Int32} {Ls st : List Value} {h : AH} : ev L xs mdX7_expect 17 (Ls) (.int a :: st) h = ev L xs mdX7_expect 18 (Ls) (.int a :: .int a :: st) (h) := e_dup dX7_expect_17 rfl
theorem iX7_expect_18 {a : Nat} {Ls st : List Value} {h : AH} (hk : hK h a = 7) : ev L xs mdX7_expect 18 (Ls) (.ref a :: st) h = ev L xs mdX7_expect 21 (Ls) (.int (hI h 124 a) :: st) (h) := e_getI (k := 7) (f := 12) (F := 124) dX7_expect_18 (by decide +kernel) rfl rfl hk
theorem iX7_expect_21  {Ls st : List Value} {h : AH} : ev L xs mdX7_expect 21 (Ls) (st) h = ev L xs mdX7_expect 22 (Ls) (.int (nI 1) :: st) (h) := e_iconst dX7_expect_21 (by decide)
theorem iX7_expect_22 {x z : Int32} {Ls st : List Value} {h : AH} : ev L xs mdX7_expect 22 (Ls) (.int z :: .int x :: st) h = ev L xs mdX7_expect 23 (Ls) (.int (x + z) :: st) (h) := e_iadd dX7_expect_22
theorem iX7_expect_23 {a : Nat} {v : Int32} {Ls st : List Value} {h : AH} (hk : hK h a = 7) : ev L xs mdX7_expect 23 (Ls) (.int v :: .ref a :: st) h = ev L xs mdX7_expect 26 (Ls) (st) (sI h 124 a v) := e_putI (k := 7) (f := 12) (F := 124) dX7_expect_23 (by decide +kernel) rfl (by decide +kernel) rfl hk
theorem iX7_expect_26 {Ls : List Value} {h : AH} : ev L xs mdX7_expect 26 Ls [] h = some (.inl (none, h)) := e_vret dX7_expect_26 rfl
theorem dX7_fail_0 : decode cX7_fail 0 = .ok (.aload_n 0, 1) := by decide +kernel
theorem dX7_fail_1 : decode cX7_fail 1 = .ok (.aload_n 0, 1) := by decide +kernel
theorem dX7_fail_2 : decode cX7_fail 2 = .ok (.getfield 175, 3) := by decide +kernel
theorem dX7_fail_5 : decode cX7_fail 5 = .ok (.ifCond .ge 7, 3) := by decide +kernel
theorem dX7_fail_8 : decode cX7_fail 8 = .ok (.iload_n 1, 1) := by decide +kernel
theorem dX7_fail_9 : decode cX7_fail 9 = .ok (.goto 7, 3) := by decide +kernel
theorem dX7_fail_12 : decode cX7_fail 12 = .ok (.aload_n 0, 1) := by decide +kernel
theorem dX7_fail_13 : decode cX7_fail 13 = .ok (.getfield 175, 3) := by decide +kernel
theorem dX7_fail_16 : decode cX7_fail 16 = .ok (.putfield 175, 3) := by decide +kernel
theorem dX7_fail_19 : decode cX7_fail 19 = .ok (.return_, 1) := by decide +kernel
theorem iX7_fail_0 {x : Nat} {Ls st : List Value} {h : AH} : ev L xs mdX7_fail 0 (.ref x :: Ls) (st) h = ev L xs mdX7_fail 1 (.ref x :: Ls) (.ref x :: st) (h) := e_aload_n dX7_fail_0 rfl
theorem iX7_fail_1 {x : Nat} {Ls st : List Value} {h : AH} : ev L xs mdX7_fail 1 (.ref x :: Ls) (st) h = ev L xs mdX7_fail 2 (.ref x :: Ls) (.ref x :: st) (h) := e_aload_n dX7_fail_1 rfl
theorem iX7_fail_2 {a : Nat} {Ls st : List Value} {h : AH} (hk : hK h a = 7) : ev L xs mdX7_fail 2 (Ls) (.ref a :: st) h = ev L xs mdX7_fail 5 (Ls) (.int (hI h 125 a) :: st) (h) := e_getI (k := 7) (f := 13) (F := 125) dX7_fail_2 (by decide +kernel) rfl rfl hk
theorem iX7_fail_5 {x : Int32} {Ls st : List Value} {h : AH} : ev L xs mdX7_fail 5 Ls (.int x :: st) h = if nI 0 ≤ x then ev L xs mdX7_fail 12 Ls st h else ev L xs mdX7_fail 8 Ls st h := e_if_ge dX7_fail_5 (by decide)
theorem iX7_fail_8 {v0 : Value} {x : Int32} {Ls st : List Value} {h : AH} : ev L xs mdX7_fail 8 (v0 :: .int x :: Ls) (st) h = ev L xs mdX7_fail 9 (v0 :: .int x :: Ls) (.int x :: st) (h) := e_iload_n dX7_fail_8 rfl
theorem iX7_fail_9  {Ls st : List Value} {h : AH} : ev L xs mdX7_fail 9 (Ls) (st) h = ev L xs mdX7_fail 16 (Ls) (st) (h) := e_goto dX7_fail_9 (by decide)
theorem iX7_fail_12 {x : Nat} {Ls st : List Value} {h : AH} : ev L xs mdX7_fail 12 (.ref x :: Ls) (st) h = ev L xs mdX7_fail 13 (.ref x :: Ls) (.ref x :: st) (h) := e_aload_n dX7_fail_12 rfl
theorem iX7_fail_13 {a : Nat} {Ls st : List Value} {h : AH} (hk : hK h a = 7) : ev L xs mdX7_fail 13 (Ls) (.ref a :: st) h = ev L xs mdX7_fail 16 (Ls) (.int (hI h 125 a) :: st) (h) := e_getI (k := 7) (f := 13) (F := 125) dX7_fail_13 (by decide +kernel) rfl rfl hk
theorem iX7_fail_16 {a : Nat} {v : Int32} {Ls st : List Value} {h : AH} (hk : hK h a = 7) : ev L xs mdX7_fail 16 (Ls) (.int v :: .ref a :: st) h = ev L xs mdX7_fail 19 (Ls) (st) (sI h 125 a v) := e_putI (k := 7) (f := 13) (F := 125) dX7_fail_16 (by decide +kernel) rfl (by decide +kernel) rfl hk
theorem iX7_fail_19 {Ls : List Value} {h : AH} : ev L xs mdX7_fail 19 Ls [] h = some (.inl (none, h)) := e_vret dX7_fail_19 rfl
theorem dX7_filled_0 : decode cX7_filled 0 = .ok (.aload_n 0, 1) := by decide +kernel
theorem dX7_filled_1 : decode cX7_filled 1 = .ok (.iconst 0, 1) := by decide +kernel
theorem dX7_filled_2 : decode cX7_filled 2 = .ok (.putfield 34, 3) := by decide +kernel
theorem dX7_filled_5 : decode cX7_filled 5 = .ok (.aload_n 0, 1) := by decide +kernel
theorem dX7_filled_6 : decode cX7_filled 6 = .ok (.getfield 7, 3) := by decide +kernel
theorem dX7_filled_9 : decode cX7_filled 9 = .ok (.bipush 6, 2) := by decide +kernel
theorem dX7_filled_11 : decode cX7_filled 11 = .ok (.iaload, 1) := by decide +kernel
theorem dX7_filled_12 : decode cX7_filled 12 = .ok (.ifCond .ne 7, 3) := by decide +kernel
theorem dX7_filled_15 : decode cX7_filled 15 = .ok (.dconst 1, 1) := by decide +kernel
theorem dX7_filled_16 : decode cX7_filled 16 = .ok (.goto 28, 3) := by decide +kernel
theorem dX7_filled_19 : decode cX7_filled 19 = .ok (.aload_n 0, 1) := by decide +kernel
theorem dX7_filled_20 : decode cX7_filled 20 = .ok (.getfield 7, 3) := by decide +kernel
theorem dX7_filled_23 : decode cX7_filled 23 = .ok (.bipush 6, 2) := by decide +kernel
theorem dX7_filled_25 : decode cX7_filled 25 = .ok (.iaload, 1) := by decide +kernel
theorem dX7_filled_26 : decode cX7_filled 26 = .ok (.aload_n 0, 1) := by decide +kernel
theorem dX7_filled_27 : decode cX7_filled 27 = .ok (.getfield 7, 3) := by decide +kernel
theorem dX7_filled_30 : decode cX7_filled 30 = .ok (.bipush 7, 2) := by decide +kernel
theorem dX7_filled_32 : decode cX7_filled 32 = .ok (.iaload, 1) := by decide +kernel
theorem dX7_filled_33 : decode cX7_filled 33 = .ok (.isub, 1) := by decide +kernel
theorem dX7_filled_34 : decode cX7_filled 34 = .ok (.i2d, 1) := by decide +kernel
theorem dX7_filled_35 : decode cX7_filled 35 = .ok (.aload_n 0, 1) := by decide +kernel
theorem dX7_filled_36 : decode cX7_filled 36 = .ok (.getfield 7, 3) := by decide +kernel
theorem dX7_filled_39 : decode cX7_filled 39 = .ok (.bipush 6, 2) := by decide +kernel
theorem dX7_filled_41 : decode cX7_filled 41 = .ok (.iaload, 1) := by decide +kernel
theorem dX7_filled_42 : decode cX7_filled 42 = .ok (.i2d, 1) := by decide +kernel
theorem dX7_filled_43 : decode cX7_filled 43 = .ok (.ddiv, 1) := by decide +kernel
theorem dX7_filled_44 : decode cX7_filled 44 = .ok (.dreturn, 1) := by decide +kernel
theorem iX7_filled_0 {x : Nat} {Ls st : List Value} {h : AH} : ev L xs mdX7_filled 0 (.ref x :: Ls) (st) h = ev L xs mdX7_filled 1 (.ref x :: Ls) (.ref x :: st) (h) := e_aload_n dX7_filled_0 rfl
theorem iX7_filled_1  {Ls st : List Value} {h : AH} : ev L xs mdX7_filled 1 (Ls) (st) h = ev L xs mdX7_filled 2 (Ls) (.int (nI 0) :: st) (h) := e_iconst dX7_filled_1 (by decide)
theorem iX7_filled_2 {a : Nat} {v : Int32} {Ls st : List Value} {h : AH} (hk : hK h a = 7) : ev L xs mdX7_filled 2 (Ls) (.int v :: .ref a :: st) h = ev L xs mdX7_filled 5 (Ls) (st) (sI h 112 a v) := e_putI (k := 7) (f := 0) (F := 112) dX7_filled_2 (by decide +kernel) rfl (by decide +kernel) rfl hk
theorem iX7_filled_5 {x : Nat} {Ls st : List Value} {h : AH} : ev L xs mdX7_filled 5 (.ref x :: Ls) (st) h = ev L xs mdX7_filled 6 (.ref x :: Ls) (.ref x :: st) (h) := e_aload_n dX7_filled_5 rfl
theorem iX7_filled_6 {a : Nat} {Ls st : List Value} {h : AH} (hk : hK h a = 7) (hj : (hR h 113 a).isSome = true) : ev L xs mdX7_filled 6 (Ls) (.ref a :: st) h = ev L xs mdX7_filled 9 (Ls) (.ref ((hR h 113 a).getD 0) :: st) (h) := e_getR (k := 7) (f := 1) (F := 113) dX7_filled_6 (by decide +kernel) rfl rfl hk hj
theorem iX7_filled_9  {Ls st : List Value} {h : AH} : ev L xs mdX7_filled 9 (Ls) (st) h = ev L xs mdX7_filled 11 (Ls) (.int (nI 6) :: st) (h) := e_bipush dX7_filled_9 (by decide)
theorem iX7_filled_11 {a : Nat} {j : Int32} {Ls st : List Value} {h : AH} (hk : hK h a = 8) (hi : inA j (hN h a) = true) : ev L xs mdX7_filled 11 (Ls) (.int j :: .ref a :: st) h = ev L xs mdX7_filled 12 (Ls) (.int (hA h a j.toNatClampNeg) :: st) (h) := e_iald dX7_filled_11 hk hi
theorem iX7_filled_12 {x : Int32} {Ls st : List Value} {h : AH} : ev L xs mdX7_filled 12 Ls (.int x :: st) h = if x = nI 0 then ev L xs mdX7_filled 15 Ls st h else ev L xs mdX7_filled 19 Ls st h := e_if_ne dX7_filled_12 (by decide)
theorem iX7_filled_15  {Ls st : List Value} {h : AH} : ev L xs mdX7_filled 15 (Ls) (st) h = ev L xs mdX7_filled 16 (Ls) (.double FP.dconst1 :: st) (h) := e_dconst1 dX7_filled_15
theorem iX7_filled_16  {Ls st : List Value} {h : AH} : ev L xs mdX7_filled 16 (Ls) (st) h = ev L xs mdX7_filled 44 (Ls) (st) (h) := e_goto dX7_filled_16 (by decide)
theorem iX7_filled_19 {x : Nat} {Ls st : List Value} {h : AH} : ev L xs mdX7_filled 19 (.ref x :: Ls) (st) h = ev L xs mdX7_filled 20 (.ref x :: Ls) (.ref x :: st) (h) := e_aload_n dX7_filled_19 rfl
theorem iX7_filled_20 {a : Nat} {Ls st : List Value} {h : AH} (hk : hK h a = 7) (hj : (hR h 113 a).isSome = true) : ev L xs mdX7_filled 20 (Ls) (.ref a :: st) h = ev L xs mdX7_filled 23 (Ls) (.ref ((hR h 113 a).getD 0) :: st) (h) := e_getR (k := 7) (f := 1) (F := 113) dX7_filled_20 (by decide +kernel) rfl rfl hk hj
theorem iX7_filled_23  {Ls st : List Value} {h : AH} : ev L xs mdX7_filled 23 (Ls) (st) h = ev L xs mdX7_filled 25 (Ls) (.int (nI 6) :: st) (h) := e_bipush dX7_filled_23 (by decide)
theorem iX7_filled_25 {a : Nat} {j : Int32} {Ls st : List Value} {h : AH} (hk : hK h a = 8) (hi : inA j (hN h a) = true) : ev L xs mdX7_filled 25 (Ls) (.int j :: .ref a :: st) h = ev L xs mdX7_filled 26 (Ls) (.int (hA h a j.toNatClampNeg) :: st) (h) := e_iald dX7_filled_25 hk hi
theorem iX7_filled_26 {x : Nat} {Ls st : List Value} {h : AH} : ev L xs mdX7_filled 26 (.ref x :: Ls) (st) h = ev L xs mdX7_filled 27 (.ref x :: Ls) (.ref x :: st) (h) := e_aload_n dX7_filled_26 rfl
theorem iX7_filled_27 {a : Nat} {Ls st : List Value} {h : AH} (hk : hK h a = 7) (hj : (hR h 113 a).isSome = true) : ev L xs mdX7_filled 27 (Ls) (.ref a :: st) h = ev L xs mdX7_filled 30 (Ls) (.ref ((hR h 113 a).getD 0) :: st) (h) := e_getR (k := 7) (f := 1) (F := 113) dX7_filled_27 (by decide +kernel) rfl rfl hk hj
theorem iX7_filled_30  {Ls st : List Value} {h : AH} : ev L xs mdX7_filled 30 (Ls) (st) h = ev L xs mdX7_filled 32 (Ls) (.int (nI 7) :: st) (h) := e_bipush dX7_filled_30 (by decide)
theorem iX7_filled_32 {a : Nat} {j : Int32} {Ls st : List Value} {h : AH} (hk : hK h a = 8) (hi : inA j (hN h a) = true) : ev L xs mdX7_filled 32 (Ls) (.int j :: .ref a :: st) h = ev L xs mdX7_filled 33 (Ls) (.int (hA h a j.toNatClampNeg) :: st) (h) := e_iald dX7_filled_32 hk hi
theorem iX7_filled_33 {x z : Int32} {Ls st : List Value} {h : AH} : ev L xs mdX7_filled 33 (Ls) (.int z :: .int x :: st) h = ev L xs mdX7_filled 34 (Ls) (.int (x - z) :: st) (h) := e_isub dX7_filled_33
theorem iX7_filled_34 {x : Int32} {Ls st : List Value} {h : AH} : ev L xs mdX7_filled 34 (Ls) (.int x :: st) h = ev L xs mdX7_filled 35 (Ls) (.double (FP.i2d x) :: st) (h) := e_i2d dX7_filled_34
theorem iX7_filled_35 {x : Nat} {Ls st : List Value} {h : AH} : ev L xs mdX7_filled 35 (.ref x :: Ls) (st) h = ev L xs mdX7_filled 36 (.ref x :: Ls) (.ref x :: st) (h) := e_aload_n dX7_filled_35 rfl
theorem iX7_filled_36 {a : Nat} {Ls st : List Value} {h : AH} (hk : hK h a = 7) (hj : (hR h 113 a).isSome = true) : ev L xs mdX7_filled 36 (Ls) (.ref a :: st) h = ev L xs mdX7_filled 39 (Ls) (.ref ((hR h 113 a).getD 0) :: st) (h) := e_getR (k := 7) (f := 1) (F := 113) dX7_filled_36 (by decide +kernel) rfl rfl hk hj
theorem iX7_filled_39  {Ls st : List Value} {h : AH} : ev L xs mdX7_filled 39 (Ls) (st) h = ev L xs mdX7_filled 41 (Ls) (.int (nI 6) :: st) (h) := e_bipush dX7_filled_39 (by decide)
theorem iX7_filled_41 {a : Nat} {j : Int32} {Ls st : List Value} {h : AH} (hk : hK h a = 8) (hi : inA j (hN h a) = true) : ev L xs mdX7_filled 41 (Ls) (.int j :: .ref a :: st) h = ev L xs mdX7_filled 42 (Ls) (.int (hA h a j.toNatClampNeg) :: st) (h) := e_iald dX7_filled_41 hk hi
theorem iX7_filled_42 {x : Int32} {Ls st : List Value} {h : AH} : ev L xs mdX7_filled 42 (Ls) (.int x :: st) h = ev L xs mdX7_filled 43 (Ls) (.double (FP.i2d x) :: st) (h) := e_i2d dX7_filled_42
theorem iX7_filled_43 {x z : UInt64} {Ls st : List Value} {h : AH} (hv : FP.ddiv x z &&& 0x7fffffffffffffff ≤ 0x7ff0000000000000) : ev L xs mdX7_filled 43 (Ls) (.double z :: .double x :: st) h = ev L xs mdX7_filled 44 (Ls) (.double (FP.ddiv x z) :: st) (h) := e_ddiv dX7_filled_43 hv
theorem iX7_filled_44 {v : UInt64} {Ls : List Value} {h : AH} : ev L xs mdX7_filled 44 Ls [.double v] h = some (.inl (some (.double v), h)) := e_dret dX7_filled_44 rfl
theorem dX7_give_0 : decode cX7_give 0 = .ok (.aload_n 0, 1) := by decide +kernel
theorem dX7_give_1 : decode cX7_give 1 = .ok (.bipush 93, 2) := by decide +kernel
theorem dX7_give_3 : decode cX7_give 3 = .ok (.bipush 9, 2) := by decide +kernel
theorem dX7_give_5 : decode cX7_give 5 = .ok (.iload_n 1, 1) := by decide +kernel
theorem dX7_give_6 : decode cX7_give 6 = .ok (.imul, 1) := by decide +kernel
theorem dX7_give_7 : decode cX7_give 7 = .ok (.iadd, 1) := by decide +kernel
theorem dX7_give_8 : decode cX7_give 8 = .ok (.iload_n 2, 1) := by decide +kernel
theorem dX7_give_9 : decode cX7_give 9 = .ok (.iadd, 1) := by decide +kernel
theorem dX7_give_10 : decode cX7_give 10 = .ok (.iload_n 3, 1) := by decide +kernel
theorem dX7_give_11 : decode cX7_give 11 = .ok (.iastore, 1) := by decide +kernel
theorem dX7_give_12 : decode cX7_give 12 = .ok (.return_, 1) := by decide +kernel
theorem iX7_give_0 {x : Nat} {Ls st : List Value} {h : AH} : ev L xs mdX7_give 0 (.ref x :: Ls) (st) h = ev L xs mdX7_give 1 (.ref x :: Ls) (.ref x :: st) (h) := e_aload_n dX7_give_0 rfl
theorem iX7_give_1  {Ls st : List Value} {h : AH} : ev L xs mdX7_give 1 (Ls) (st) h = ev L xs mdX7_give 3 (Ls) (.int (nI 93) :: st) (h) := e_bipush dX7_give_1 (by decide)
theorem iX7_give_3  {Ls st : List Value} {h : AH} : ev L xs mdX7_give 3 (Ls) (st) h = ev L xs mdX7_give 5 (Ls) (.int (nI 9) :: st) (h) := e_bipush dX7_give_3 (by decide)
theorem iX7_give_5 {v0 : Value} {x : Int32} {Ls st : List Value} {h : AH} : ev L xs mdX7_give 5 (v0 :: .int x :: Ls) (st) h = ev L xs mdX7_give 6 (v0 :: .int x :: Ls) (.int x :: st) (h) := e_iload_n dX7_give_5 rfl
theorem iX7_give_6 {x z : Int32} {Ls st : List Value} {h : AH} : ev L xs mdX7_give 6 (Ls) (.int z :: .int x :: st) h = ev L xs mdX7_give 7 (Ls) (.int (x * z) :: st) (h) := e_imul dX7_give_6
theorem iX7_give_7 {x z : Int32} {Ls st : List Value} {h : AH} : ev L xs mdX7_give 7 (Ls) (.int z :: .int x :: st) h = ev L xs mdX7_give 8 (Ls) (.int (x + z) :: st) (h) := e_iadd dX7_give_7
theorem iX7_give_8 {v0 : Value} {v1 : Value} {x : Int32} {Ls st : List Value} {h : AH} : ev L xs mdX7_give 8 (v0 :: v1 :: .int x :: Ls) (st) h = ev L xs mdX7_give 9 (v0 :: v1 :: .int x :: Ls) (.int x :: st) (h) := e_iload_n dX7_give_8 rfl
theorem iX7_give_9 {x z : Int32} {Ls st : List Value} {h : AH} : ev L xs mdX7_give 9 (Ls) (.int z :: .int x :: st) h = ev L xs mdX7_give 10 (Ls) (.int (x + z) :: st) (h) := e_iadd dX7_give_9
theorem iX7_give_10 {v0 : Value} {v1 : Value} {v2 : Value} {x : Int32} {Ls st : List Value} {h : AH} : ev L xs mdX7_give 10 (v0 :: v1 :: v2 :: .int x :: Ls) (st) h = ev L xs mdX7_give 11 (v0 :: v1 :: v2 :: .int x :: Ls) (.int x :: st) (h) := e_iload_n dX7_give_10 rfl
theorem iX7_give_11 {a : Nat} {j : Int32} {v : Int32} {Ls st : List Value} {h : AH} (hk : hK h a = 8) (hi : inA j (hN h a) = true) : ev L xs mdX7_give 11 (Ls) (.int v :: .int j :: .ref a :: st) h = ev L xs mdX7_give 12 (Ls) (st) (sA h a j.toNatClampNeg v) := e_iast dX7_give_11 hk hi
theorem iX7_give_12 {Ls : List Value} {h : AH} : ev L xs mdX7_give 12 Ls [] h = some (.inl (none, h)) := e_vret dX7_give_12 rfl
theorem dX7_go_0 : decode cX7_go 0 = .ok (.aload_n 1, 1) := by decide +kernel
theorem dX7_go_1 : decode cX7_go 1 = .ok (.invokestatic 88, 3) := by decide +kernel
theorem dX7_go_4 : decode cX7_go 4 = .ok (.istore_n 2, 1) := by decide +kernel
theorem dX7_go_5 : decode cX7_go 5 = .ok (.aload_n 0, 1) := by decide +kernel
theorem dX7_go_6 : decode cX7_go 6 = .ok (.aload_n 1, 1) := by decide +kernel
theorem dX7_go_7 : decode cX7_go 7 = .ok (.aload_n 1, 1) := by decide +kernel
theorem dX7_go_8 : decode cX7_go 8 = .ok (.iconst 0, 1) := by decide +kernel
theorem dX7_go_9 : decode cX7_go 9 = .ok (.iaload, 1) := by decide +kernel
theorem dX7_go_10 : decode cX7_go 10 = .ok (.aload_n 1, 1) := by decide +kernel
theorem dX7_go_11 : decode cX7_go 11 = .ok (.iconst 1, 1) := by decide +kernel
theorem dX7_go_12 : decode cX7_go 12 = .ok (.iaload, 1) := by decide +kernel
theorem dX7_go_13 : decode cX7_go 13 = .ok (.iload_n 2, 1) := by decide +kernel
theorem dX7_go_14 : decode cX7_go 14 = .ok (.invokevirtual 92, 3) := by decide +kernel
theorem dX7_go_17 : decode cX7_go 17 = .ok (.istore_n 3, 1) := by decide +kernel
theorem dX7_go_18 : decode cX7_go 18 = .ok (.aload_n 1, 1) := by decide +kernel
theorem dX7_go_19 : decode cX7_go 19 = .ok (.iconst 5, 1) := by decide +kernel
theorem dX7_go_20 : decode cX7_go 20 = .ok (.dup2, 1) := by decide +kernel
theorem dX7_go_21 : decode cX7_go 21 = .ok (.iaload, 1) := by decide +kernel
theorem dX7_go_22 : decode cX7_go 22 = .ok (.aload_n 1, 1) := by decide +kernel
theorem dX7_go_23 : decode cX7_go 23 = .ok (.aload_n 1, 1) := by decide +kernel
theorem dX7_go_24 : decode cX7_go 24 = .ok (.iconst 0, 1) := by decide +kernel
theorem dX7_go_25 : decode cX7_go 25 = .ok (.iaload, 1) := by decide +kernel
theorem dX7_go_26 : decode cX7_go 26 = .ok (.invokestatic 52, 3) := by decide +kernel
theorem dX7_go_29 : decode cX7_go 29 = .ok (.ifCond .eq 7, 3) := by decide +kernel
theorem dX7_go_32 : decode cX7_go 32 = .ok (.iconst 1, 1) := by decide +kernel
theorem dX7_go_33 : decode cX7_go 33 = .ok (.goto 4, 3) := by decide +kernel
theorem dX7_go_36 : decode cX7_go 36 = .ok (.iconst 0, 1) := by decide +kernel
theorem dX7_go_37 : decode cX7_go 37 = .ok (.iadd, 1) := by decide +kernel
theorem dX7_go_38 : decode cX7_go 38 = .ok (.iastore, 1) := by decide +kernel
theorem dX7_go_39 : decode cX7_go 39 = .ok (.aload_n 1, 1) := by decide +kernel
theorem dX7_go_40 : decode cX7_go 40 = .ok (.bipush 7, 2) := by decide +kernel
theorem dX7_go_42 : decode cX7_go 42 = .ok (.dup2, 1) := by decide +kernel
theorem dX7_go_43 : decode cX7_go 43 = .ok (.iaload, 1) := by decide +kernel
theorem dX7_go_44 : decode cX7_go 44 = .ok (.iload_n 3, 1) := by decide +kernel
theorem dX7_go_45 : decode cX7_go 45 = .ok (.invokestatic 96, 3) := by decide +kernel
theorem dX7_go_48 : decode cX7_go 48 = .ok (.iadd, 1) := by decide +kernel
theorem dX7_go_49 : decode cX7_go 49 = .ok (.iastore, 1) := by decide +kernel
theorem dX7_go_50 : decode cX7_go 50 = .ok (.iconst 0, 1) := by decide +kernel
theorem dX7_go_51 : decode cX7_go 51 = .ok (.istore 4, 2) := by decide +kernel
theorem dX7_go_53 : decode cX7_go 53 = .ok (.iload 4, 2) := by decide +kernel
theorem dX7_go_55 : decode cX7_go 55 = .ok (.aload_n 1, 1) := by decide +kernel
theorem dX7_go_56 : decode cX7_go 56 = .ok (.iconst 3, 1) := by decide +kernel
theorem dX7_go_57 : decode cX7_go 57 = .ok (.iaload, 1) := by decide +kernel
theorem dX7_go_58 : decode cX7_go 58 = .ok (.if_icmp .ge 125, 3) := by decide +kernel
theorem dX7_go_61 : decode cX7_go 61 = .ok (.aload_n 1, 1) := by decide +kernel
theorem dX7_go_62 : decode cX7_go 62 = .ok (.iload 4, 2) := by decide +kernel
theorem dX7_go_64 : decode cX7_go 64 = .ok (.bipush 7, 2) := by decide +kernel
theorem dX7_go_66 : decode cX7_go 66 = .ok (.aload_n 0, 1) := by decide +kernel
theorem dX7_go_67 : decode cX7_go 67 = .ok (.getfield 22, 3) := by decide +kernel
theorem dX7_go_70 : decode cX7_go 70 = .ok (.iload 4, 2) := by decide +kernel
theorem dX7_go_72 : decode cX7_go 72 = .ok (.iaload, 1) := by decide +kernel
theorem dX7_go_73 : decode cX7_go 73 = .ok (.invokestatic 100, 3) := by decide +kernel
theorem dX7_go_76 : decode cX7_go 76 = .ok (.aload_n 1, 1) := by decide +kernel
theorem dX7_go_77 : decode cX7_go 77 = .ok (.iload 4, 2) := by decide +kernel
theorem dX7_go_79 : decode cX7_go 79 = .ok (.bipush 8, 2) := by decide +kernel
theorem dX7_go_81 : decode cX7_go 81 = .ok (.aload_n 0, 1) := by decide +kernel
theorem dX7_go_82 : decode cX7_go 82 = .ok (.getfield 25, 3) := by decide +kernel
theorem dX7_go_85 : decode cX7_go 85 = .ok (.iload 4, 2) := by decide +kernel
theorem dX7_go_87 : decode cX7_go 87 = .ok (.iaload, 1) := by decide +kernel
theorem dX7_go_88 : decode cX7_go 88 = .ok (.invokestatic 100, 3) := by decide +kernel
theorem dX7_go_91 : decode cX7_go 91 = .ok (.aload_n 1, 1) := by decide +kernel
theorem dX7_go_92 : decode cX7_go 92 = .ok (.bipush 6, 2) := by decide +kernel
theorem dX7_go_94 : decode cX7_go 94 = .ok (.dup2, 1) := by decide +kernel
theorem dX7_go_95 : decode cX7_go 95 = .ok (.iaload, 1) := by decide +kernel
theorem dX7_go_96 : decode cX7_go 96 = .ok (.aload_n 1, 1) := by decide +kernel
theorem dX7_go_97 : decode cX7_go 97 = .ok (.iload 4, 2) := by decide +kernel
theorem dX7_go_99 : decode cX7_go 99 = .ok (.aload_n 1, 1) := by decide +kernel
theorem dX7_go_100 : decode cX7_go 100 = .ok (.iconst 0, 1) := by decide +kernel
theorem dX7_go_101 : decode cX7_go 101 = .ok (.iaload, 1) := by decide +kernel
theorem dX7_go_102 : decode cX7_go 102 = .ok (.aload_n 1, 1) := by decide +kernel
theorem dX7_go_103 : decode cX7_go 103 = .ok (.iconst 1, 1) := by decide +kernel
theorem dX7_go_104 : decode cX7_go 104 = .ok (.iaload, 1) := by decide +kernel
theorem dX7_go_105 : decode cX7_go 105 = .ok (.invokestatic 63, 3) := by decide +kernel
theorem dX7_go_108 : decode cX7_go 108 = .ok (.ifCond .eq 7, 3) := by decide +kernel
theorem dX7_go_111 : decode cX7_go 111 = .ok (.iconst 1, 1) := by decide +kernel
theorem dX7_go_112 : decode cX7_go 112 = .ok (.goto 4, 3) := by decide +kernel
theorem dX7_go_115 : decode cX7_go 115 = .ok (.iconst 0, 1) := by decide +kernel
theorem dX7_go_116 : decode cX7_go 116 = .ok (.iadd, 1) := by decide +kernel
theorem dX7_go_117 : decode cX7_go 117 = .ok (.iastore, 1) := by decide +kernel
theorem dX7_go_118 : decode cX7_go 118 = .ok (.iload_n 3, 1) := by decide +kernel
theorem dX7_go_119 : decode cX7_go 119 = .ok (.iload 4, 2) := by decide +kernel
theorem dX7_go_121 : decode cX7_go 121 = .ok (.ishr, 1) := by decide +kernel
theorem dX7_go_122 : decode cX7_go 122 = .ok (.iconst 1, 1) := by decide +kernel
theorem dX7_go_123 : decode cX7_go 123 = .ok (.iand, 1) := by decide +kernel
theorem dX7_go_124 : decode cX7_go 124 = .ok (.iconst 1, 1) := by decide +kernel
theorem dX7_go_125 : decode cX7_go 125 = .ok (.if_icmp .ne 27, 3) := by decide +kernel
theorem dX7_go_128 : decode cX7_go 128 = .ok (.aload_n 1, 1) := by decide +kernel
theorem dX7_go_129 : decode cX7_go 129 = .ok (.iload 4, 2) := by decide +kernel
theorem dX7_go_131 : decode cX7_go 131 = .ok (.iconst 2, 1) := by decide +kernel
theorem dX7_go_132 : decode cX7_go 132 = .ok (.aload_n 1, 1) := by decide +kernel
theorem dX7_go_133 : decode cX7_go 133 = .ok (.iload 4, 2) := by decide +kernel
theorem dX7_go_135 : decode cX7_go 135 = .ok (.iconst 2, 1) := by decide +kernel
theorem dX7_go_136 : decode cX7_go 136 = .ok (.invokestatic 48, 3) := by decide +kernel
theorem dX7_go_139 : decode cX7_go 139 = .ok (.iconst 1, 1) := by decide +kernel
theorem dX7_go_140 : decode cX7_go 140 = .ok (.iadd, 1) := by decide +kernel
theorem dX7_go_141 : decode cX7_go 141 = .ok (.invokestatic 100, 3) := by decide +kernel
theorem dX7_go_144 : decode cX7_go 144 = .ok (.aload_n 1, 1) := by decide +kernel
theorem dX7_go_145 : decode cX7_go 145 = .ok (.iload 4, 2) := by decide +kernel
theorem dX7_go_147 : decode cX7_go 147 = .ok (.iconst 4, 1) := by decide +kernel
theorem dX7_go_148 : decode cX7_go 148 = .ok (.iload_n 2, 1) := by decide +kernel
theorem dX7_go_149 : decode cX7_go 149 = .ok (.invokestatic 100, 3) := by decide +kernel
theorem dX7_go_152 : decode cX7_go 152 = .ok (.aload_n 0, 1) := by decide +kernel
theorem dX7_go_153 : decode cX7_go 153 = .ok (.getfield 22, 3) := by decide +kernel
theorem dX7_go_156 : decode cX7_go 156 = .ok (.iload 4, 2) := by decide +kernel
theorem dX7_go_158 : decode cX7_go 158 = .ok (.iaload, 1) := by decide +kernel
theorem dX7_go_159 : decode cX7_go 159 = .ok (.iconst (-1), 1) := by decide +kernel
theorem dX7_go_160 : decode cX7_go 160 = .ok (.if_icmp .eq 17, 3) := by decide +kernel
theorem dX7_go_163 : decode cX7_go 163 = .ok (.aload_n 0, 1) := by decide +kernel
theorem dX7_go_164 : decode cX7_go 164 = .ok (.aload_n 1, 1) := by decide +kernel
theorem dX7_go_165 : decode cX7_go 165 = .ok (.aload_n 0, 1) := by decide +kernel
theorem dX7_go_166 : decode cX7_go 166 = .ok (.getfield 22, 3) := by decide +kernel
theorem dX7_go_169 : decode cX7_go 169 = .ok (.iload 4, 2) := by decide +kernel
theorem dX7_go_171 : decode cX7_go 171 = .ok (.iaload, 1) := by decide +kernel
theorem dX7_go_172 : decode cX7_go 172 = .ok (.iload 4, 2) := by decide +kernel
theorem dX7_go_174 : decode cX7_go 174 = .ok (.invokevirtual 103, 3) := by decide +kernel
theorem dX7_go_177 : decode cX7_go 177 = .ok (.iinc 4 1, 3) := by decide +kernel
theorem dX7_go_180 : decode cX7_go 180 = .ok (.goto (-127), 3) := by decide +kernel
theorem dX7_go_183 : decode cX7_go 183 = .ok (.aload_n 1, 1) := by decide +kernel
theorem dX7_go_184 : decode cX7_go 184 = .ok (.iconst 0, 1) := by decide +kernel
theorem dX7_go_185 : decode cX7_go 185 = .ok (.dup2, 1) := by decide +kernel
theorem dX7_go_186 : decode cX7_go 186 = .ok (.iaload, 1) := by decide +kernel
theorem dX7_go_187 : decode cX7_go 187 = .ok (.aload_n 1, 1) := by decide +kernel
theorem dX7_go_188 : decode cX7_go 188 = .ok (.iconst 1, 1) := by decide +kernel
theorem dX7_go_189 : decode cX7_go 189 = .ok (.iaload, 1) := by decide +kernel
theorem dX7_go_190 : decode cX7_go 190 = .ok (.iadd, 1) := by decide +kernel
theorem dX7_go_191 : decode cX7_go 191 = .ok (.iastore, 1) := by decide +kernel
theorem dX7_go_192 : decode cX7_go 192 = .ok (.aload_n 1, 1) := by decide +kernel
theorem dX7_go_193 : decode cX7_go 193 = .ok (.iconst 1, 1) := by decide +kernel
theorem dX7_go_194 : decode cX7_go 194 = .ok (.iconst 1, 1) := by decide +kernel
theorem dX7_go_195 : decode cX7_go 195 = .ok (.aload_n 1, 1) := by decide +kernel
theorem dX7_go_196 : decode cX7_go 196 = .ok (.iconst 1, 1) := by decide +kernel
theorem dX7_go_197 : decode cX7_go 197 = .ok (.iaload, 1) := by decide +kernel
theorem dX7_go_198 : decode cX7_go 198 = .ok (.isub, 1) := by decide +kernel
theorem dX7_go_199 : decode cX7_go 199 = .ok (.iastore, 1) := by decide +kernel
theorem dX7_go_200 : decode cX7_go 200 = .ok (.iload_n 3, 1) := by decide +kernel
theorem dX7_go_201 : decode cX7_go 201 = .ok (.ireturn, 1) := by decide +kernel
theorem iX7_go_0 {v0 : Value} {x : Nat} {Ls st : List Value} {h : AH} : ev L xs mdX7_go 0 (v0 :: .ref x :: Ls) (st) h = ev L xs mdX7_go 1 (v0 :: .ref x :: Ls) (.ref x :: st) (h) := e_aload_n dX7_go_0 rfl
theorem iX7_go_1 {p0 : Nat} {Ls st : List Value} {h : AH} (hw : wds st ≤ 8) : ev L xs mdX7_go 1 Ls (.ref p0 :: st) h = kn L xs mdX7_go 1 4 Ls st (ev L xs mdX7_numberOf 0 [.ref p0] [] h) := e_callS (as := [.ref p0]) dX7_go_1 mr_7_88 (by decide) (by decide) rfl (by simp [wds, Value.category]; decide) rfl hw
theorem iX7_go_4 {v0 : Value} {v1 : Value} {v2 : Value} {x : Int32} {Ls st : List Value} {h : AH} (hc9 : v1.category = 1) : ev L xs mdX7_go 4 (v0 :: v1 :: v2 :: Ls) (.int x :: st) h = ev L xs mdX7_go 5 (v0 :: v1 :: .int x :: Ls) (st) (h) := e_istore_n dX7_go_4 rfl (by decide) (by unfold catOK; show (_ || (v1.category == 1)) = true; rw [hc9]; rfl)
theorem iX7_go_5 {x : Nat} {Ls st : List Value} {h : AH} : ev L xs mdX7_go 5 (.ref x :: Ls) (st) h = ev L xs mdX7_go 6 (.ref x :: Ls) (.ref x :: st) (h) := e_aload_n dX7_go_5 rfl
theorem iX7_go_6 {v0 : Value} {x : Nat} {Ls st : List Value} {h : AH} : ev L xs mdX7_go 6 (v0 :: .ref x :: Ls) (st) h = ev L xs mdX7_go 7 (v0 :: .ref x :: Ls) (.ref x :: st) (h) := e_aload_n dX7_go_6 rfl
theorem iX7_go_7 {v0 : Value} {x : Nat} {Ls st : List Value} {h : AH} : ev L xs mdX7_go 7 (v0 :: .ref x :: Ls) (st) h = ev L xs mdX7_go 8 (v0 :: .ref x :: Ls) (.ref x :: st) (h) := e_aload_n dX7_go_7 rfl
theorem iX7_go_8  {Ls st : List Value} {h : AH} : ev L xs mdX7_go 8 (Ls) (st) h = ev L xs mdX7_go 9 (Ls) (.int (nI 0) :: st) (h) := e_iconst dX7_go_8 (by decide)
theorem iX7_go_9 {a : Nat} {j : Int32} {Ls st : List Value} {h : AH} (hk : hK h a = 8) (hi : inA j (hN h a) = true) : ev L xs mdX7_go 9 (Ls) (.int j :: .ref a :: st) h = ev L xs mdX7_go 10 (Ls) (.int (hA h a j.toNatClampNeg) :: st) (h) := e_iald dX7_go_9 hk hi
theorem iX7_go_10 {v0 : Value} {x : Nat} {Ls st : List Value} {h : AH} : ev L xs mdX7_go 10 (v0 :: .ref x :: Ls) (st) h = ev L xs mdX7_go 11 (v0 :: .ref x :: Ls) (.ref x :: st) (h) := e_aload_n dX7_go_10 rfl
theorem iX7_go_11  {Ls st : List Value} {h : AH} : ev L xs mdX7_go 11 (Ls) (st) h = ev L xs mdX7_go 12 (Ls) (.int (nI 1) :: st) (h) := e_iconst dX7_go_11 (by decide)
theorem iX7_go_12 {a : Nat} {j : Int32} {Ls st : List Value} {h : AH} (hk : hK h a = 8) (hi : inA j (hN h a) = true) : ev L xs mdX7_go 12 (Ls) (.int j :: .ref a :: st) h = ev L xs mdX7_go 13 (Ls) (.int (hA h a j.toNatClampNeg) :: st) (h) := e_iald dX7_go_12 hk hi
theorem iX7_go_13 {v0 : Value} {v1 : Value} {x : Int32} {Ls st : List Value} {h : AH} : ev L xs mdX7_go 13 (v0 :: v1 :: .int x :: Ls) (st) h = ev L xs mdX7_go 14 (v0 :: v1 :: .int x :: Ls) (.int x :: st) (h) := e_iload_n dX7_go_13 rfl
theorem iX7_go_14 {a : Nat} {p0 : Nat} {p1 : Int32} {p2 : Int32} {p3 : Int32} {Ls st : List Value} {h : AH} (hk : hK h a = 7) (hw : wds st ≤ 8) : ev L xs mdX7_go 14 Ls (.int p3 :: .int p2 :: .int p1 :: .ref p0 :: .ref a :: st) h = kn L xs mdX7_go 14 17 Ls st (ev L xs mdX7_look 0 [.ref a, .ref p0, .int p1, .int p2, .int p3, .null, .null, .null, .null, .null] [] h) := e_callV (as := [.int p3, .int p2, .int p1, .ref p0]) dX7_go_14 mr_7_92 (by decide) (by decide) rfl (by simp [wds, Value.category]; decide) rfl (by decide) hk hw
theorem iX7_go_17 {v0 : Value} {v1 : Value} {v2 : Value} {v3 : Value} {x : Int32} {Ls st : List Value} {h : AH} (hc9 : v2.category = 1) : ev L xs mdX7_go 17 (v0 :: v1 :: v2 :: v3 :: Ls) (.int x :: st) h = ev L xs mdX7_go 18 (v0 :: v1 :: v2 :: .int x :: Ls) (st) (h) := e_istore_n dX7_go_17 rfl (by decide) (by unfold catOK; show (_ || (v2.category == 1)) = true; rw [hc9]; rfl)
theorem iX7_go_18 {v0 : Value} {x : Nat} {Ls st : List Value} {h : AH} : ev L xs mdX7_go 18 (v0 :: .ref x :: Ls) (st) h = ev L xs mdX7_go 19 (v0 :: .ref x :: Ls) (.ref x :: st) (h) := e_aload_n dX7_go_18 rfl
theorem iX7_go_19  {Ls st : List Value} {h : AH} : ev L xs mdX7_go 19 (Ls) (st) h = ev L xs mdX7_go 20 (Ls) (.int (nI 5) :: st) (h) := e_iconst dX7_go_19 (by decide)
theorem iX7_go_20 {a : Nat} {j : Int32} {Ls st : List Value} {h : AH} : ev L xs mdX7_go 20 (Ls) (.int j :: .ref a :: st) h = ev L xs mdX7_go 21 (Ls) (.int j :: .ref a :: .int j :: .ref a :: st) (h) := e_dup2 dX7_go_20 rfl rfl
theorem iX7_go_21 {a : Nat} {j : Int32} {Ls st : List Value} {h : AH} (hk : hK h a = 8) (hi : inA j (hN h a) = true) : ev L xs mdX7_go 21 (Ls) (.int j :: .ref a :: st) h = ev L xs mdX7_go 22 (Ls) (.int (hA h a j.toNatClampNeg) :: st) (h) := e_iald dX7_go_21 hk hi
theorem iX7_go_22 {v0 : Value} {x : Nat} {Ls st : List Value} {h : AH} : ev L xs mdX7_go 22 (v0 :: .ref x :: Ls) (st) h = ev L xs mdX7_go 23 (v0 :: .ref x :: Ls) (.ref x :: st) (h) := e_aload_n dX7_go_22 rfl
theorem iX7_go_23 {v0 : Value} {x : Nat} {Ls st : List Value} {h : AH} : ev L xs mdX7_go 23 (v0 :: .ref x :: Ls) (st) h = ev L xs mdX7_go 24 (v0 :: .ref x :: Ls) (.ref x :: st) (h) := e_aload_n dX7_go_23 rfl
theorem iX7_go_24  {Ls st : List Value} {h : AH} : ev L xs mdX7_go 24 (Ls) (st) h = ev L xs mdX7_go 25 (Ls) (.int (nI 0) :: st) (h) := e_iconst dX7_go_24 (by decide)
theorem iX7_go_25 {a : Nat} {j : Int32} {Ls st : List Value} {h : AH} (hk : hK h a = 8) (hi : inA j (hN h a) = true) : ev L xs mdX7_go 25 (Ls) (.int j :: .ref a :: st) h = ev L xs mdX7_go 26 (Ls) (.int (hA h a j.toNatClampNeg) :: st) (h) := e_iald dX7_go_25 hk hi
theorem iX7_go_26 {p0 : Nat} {p1 : Int32} {Ls st : List Value} {h : AH} (hw : wds st ≤ 8) : ev L xs mdX7_go 26 Ls (.int p1 :: .ref p0 :: st) h = kn L xs mdX7_go 26 29 Ls st (ev L xs mdX7_isSchoolDay 0 [.ref p0, .int p1, .null, .null] [] h) := e_callS (as := [.int p1, .ref p0]) dX7_go_26 mr_7_52 (by decide) (by decide) rfl (by simp [wds, Value.category]; decide) rfl hw
theorem iX7_go_29 {x : Int32} {Ls st : List Value} {h : AH} : ev L xs mdX7_go 29 Ls (.int x :: st) h = if x = nI 0 then ev L xs mdX7_go 36 Ls st h else ev L xs mdX7_go 32 Ls st h := e_if_eq dX7_go_29 (by decide)
theorem iX7_go_32  {Ls st : List Value} {h : AH} : ev L xs mdX7_go 32 (Ls) (st) h = ev L xs mdX7_go 33 (Ls) (.int (nI 1) :: st) (h) := e_iconst dX7_go_32 (by decide)
theorem iX7_go_33  {Ls st : List Value} {h : AH} : ev L xs mdX7_go 33 (Ls) (st) h = ev L xs mdX7_go 37 (Ls) (st) (h) := e_goto dX7_go_33 (by decide)
theorem iX7_go_36  {Ls st : List Value} {h : AH} : ev L xs mdX7_go 36 (Ls) (st) h = ev L xs mdX7_go 37 (Ls) (.int (nI 0) :: st) (h) := e_iconst dX7_go_36 (by decide)
theorem iX7_go_37 {x z : Int32} {Ls st : List Value} {h : AH} : ev L xs mdX7_go 37 (Ls) (.int z :: .int x :: st) h = ev L xs mdX7_go 38 (Ls) (.int (x + z) :: st) (h) := e_iadd dX7_go_37
theorem iX7_go_38 {a : Nat} {j : Int32} {v : Int32} {Ls st : List Value} {h : AH} (hk : hK h a = 8) (hi : inA j (hN h a) = true) : ev L xs mdX7_go 38 (Ls) (.int v :: .int j :: .ref a :: st) h = ev L xs mdX7_go 39 (Ls) (st) (sA h a j.toNatClampNeg v) := e_iast dX7_go_38 hk hi
theorem iX7_go_39 {v0 : Value} {x : Nat} {Ls st : List Value} {h : AH} : ev L xs mdX7_go 39 (v0 :: .ref x :: Ls) (st) h = ev L xs mdX7_go 40 (v0 :: .ref x :: Ls) (.ref x :: st) (h) := e_aload_n dX7_go_39 rfl
theorem iX7_go_40  {Ls st : List Value} {h : AH} : ev L xs mdX7_go 40 (Ls) (st) h = ev L xs mdX7_go 42 (Ls) (.int (nI 7) :: st) (h) := e_bipush dX7_go_40 (by decide)
theorem iX7_go_42 {a : Nat} {j : Int32} {Ls st : List Value} {h : AH} : ev L xs mdX7_go 42 (Ls) (.int j :: .ref a :: st) h = ev L xs mdX7_go 43 (Ls) (.int j :: .ref a :: .int j :: .ref a :: st) (h) := e_dup2 dX7_go_42 rfl rfl
theorem iX7_go_43 {a : Nat} {j : Int32} {Ls st : List Value} {h : AH} (hk : hK h a = 8) (hi : inA j (hN h a) = true) : ev L xs mdX7_go 43 (Ls) (.int j :: .ref a :: st) h = ev L xs mdX7_go 44 (Ls) (.int (hA h a j.toNatClampNeg) :: st) (h) := e_iald dX7_go_43 hk hi
theorem iX7_go_44 {v0 : Value} {v1 : Value} {v2 : Value} {x : Int32} {Ls st : List Value} {h : AH} : ev L xs mdX7_go 44 (v0 :: v1 :: v2 :: .int x :: Ls) (st) h = ev L xs mdX7_go 45 (v0 :: v1 :: v2 :: .int x :: Ls) (.int x :: st) (h) := e_iload_n dX7_go_44 rfl
theorem iX7_go_45 {p0 : Int32} {Ls st : List Value} {h : AH} (hw : wds st ≤ 8) : ev L xs mdX7_go 45 Ls (.int p0 :: st) h = kn L xs mdX7_go 45 48 Ls st (ev L xs mdX7_many 0 [.int p0, .null, .null] [] h) := e_callS (as := [.int p0]) dX7_go_45 mr_7_96 (by decide) (by decide) rfl (by simp [wds, Value.category]; decide) rfl hw
theorem iX7_go_48 {x z : Int32} {Ls st : List Value} {h : AH} : ev L xs mdX7_go 48 (Ls) (.int z :: .int x :: st) h = ev L xs mdX7_go 49 (Ls) (.int (x + z) :: st) (h) := e_iadd dX7_go_48
theorem iX7_go_49 {a : Nat} {j : Int32} {v : Int32} {Ls st : List Value} {h : AH} (hk : hK h a = 8) (hi : inA j (hN h a) = true) : ev L xs mdX7_go 49 (Ls) (.int v :: .int j :: .ref a :: st) h = ev L xs mdX7_go 50 (Ls) (st) (sA h a j.toNatClampNeg v) := e_iast dX7_go_49 hk hi
theorem iX7_go_50  {Ls st : List Value} {h : AH} : ev L xs mdX7_go 50 (Ls) (st) h = ev L xs mdX7_go 51 (Ls) (.int (nI 0) :: st) (h) := e_iconst dX7_go_50 (by decide)
theorem iX7_go_51 {v0 : Value} {v1 : Value} {v2 : Value} {v3 : Value} {v4 : Value} {x : Int32} {Ls st : List Value} {h : AH} (hc9 : v3.category = 1) : ev L xs mdX7_go 51 (v0 :: v1 :: v2 :: v3 :: v4 :: Ls) (.int x :: st) h = ev L xs mdX7_go 53 (v0 :: v1 :: v2 :: v3 :: .int x :: Ls) (st) (h) := e_istore dX7_go_51 rfl (by decide) (by unfold catOK; show (_ || (v3.category == 1)) = true; rw [hc9]; rfl)
theorem iX7_go_53 {v0 : Value} {v1 : Value} {v2 : Value} {v3 : Value} {x : Int32} {Ls st : List Value} {h : AH} : ev L xs mdX7_go 53 (v0 :: v1 :: v2 :: v3 :: .int x :: Ls) (st) h = ev L xs mdX7_go 55 (v0 :: v1 :: v2 :: v3 :: .int x :: Ls) (.int x :: st) (h) := e_iload dX7_go_53 rfl
theorem iX7_go_55 {v0 : Value} {x : Nat} {Ls st : List Value} {h : AH} : ev L xs mdX7_go 55 (v0 :: .ref x :: Ls) (st) h = ev L xs mdX7_go 56 (v0 :: .ref x :: Ls) (.ref x :: st) (h) := e_aload_n dX7_go_55 rfl
theorem iX7_go_56  {Ls st : List Value} {h : AH} : ev L xs mdX7_go 56 (Ls) (st) h = ev L xs mdX7_go 57 (Ls) (.int (nI 3) :: st) (h) := e_iconst dX7_go_56 (by decide)
theorem iX7_go_57 {a : Nat} {j : Int32} {Ls st : List Value} {h : AH} (hk : hK h a = 8) (hi : inA j (hN h a) = true) : ev L xs mdX7_go 57 (Ls) (.int j :: .ref a :: st) h = ev L xs mdX7_go 58 (Ls) (.int (hA h a j.toNatClampNeg) :: st) (h) := e_iald dX7_go_57 hk hi
theorem iX7_go_58 {x z : Int32} {Ls st : List Value} {h : AH} : ev L xs mdX7_go 58 Ls (.int z :: .int x :: st) h = if z ≤ x then ev L xs mdX7_go 183 Ls st h else ev L xs mdX7_go 61 Ls st h := e_ic_ge dX7_go_58 (by decide)
theorem iX7_go_61 {v0 : Value} {x : Nat} {Ls st : List Value} {h : AH} : ev L xs mdX7_go 61 (v0 :: .ref x :: Ls) (st) h = ev L xs mdX7_go 62 (v0 :: .ref x :: Ls) (.ref x :: st) (h) := e_aload_n dX7_go_61 rfl
theorem iX7_go_62 {v0 : Value} {v1 : Value} {v2 : Value} {v3 : Value} {x : Int32} {Ls st : List Value} {h : AH} : ev L xs mdX7_go 62 (v0 :: v1 :: v2 :: v3 :: .int x :: Ls) (st) h = ev L xs mdX7_go 64 (v0 :: v1 :: v2 :: v3 :: .int x :: Ls) (.int x :: st) (h) := e_iload dX7_go_62 rfl
theorem iX7_go_64  {Ls st : List Value} {h : AH} : ev L xs mdX7_go 64 (Ls) (st) h = ev L xs mdX7_go 66 (Ls) (.int (nI 7) :: st) (h) := e_bipush dX7_go_64 (by decide)
theorem iX7_go_66 {x : Nat} {Ls st : List Value} {h : AH} : ev L xs mdX7_go 66 (.ref x :: Ls) (st) h = ev L xs mdX7_go 67 (.ref x :: Ls) (.ref x :: st) (h) := e_aload_n dX7_go_66 rfl
theorem iX7_go_67 {a : Nat} {Ls st : List Value} {h : AH} (hk : hK h a = 7) (hj : (hR h 119 a).isSome = true) : ev L xs mdX7_go 67 (Ls) (.ref a :: st) h = ev L xs mdX7_go 70 (Ls) (.ref ((hR h 119 a).getD 0) :: st) (h) := e_getR (k := 7) (f := 7) (F := 119) dX7_go_67 (by decide +kernel) rfl rfl hk hj
theorem iX7_go_70 {v0 : Value} {v1 : Value} {v2 : Value} {v3 : Value} {x : Int32} {Ls st : List Value} {h : AH} : ev L xs mdX7_go 70 (v0 :: v1 :: v2 :: v3 :: .int x :: Ls) (st) h = ev L xs mdX7_go 72 (v0 :: v1 :: v2 :: v3 :: .int x :: Ls) (.int x :: st) (h) := e_iload dX7_go_70 rfl
theorem iX7_go_72 {a : Nat} {j : Int32} {Ls st : List Value} {h : AH} (hk : hK h a = 8) (hi : inA j (hN h a) = true) : ev L xs mdX7_go 72 (Ls) (.int j :: .ref a :: st) h = ev L xs mdX7_go 73 (Ls) (.int (hA h a j.toNatClampNeg) :: st) (h) := e_iald dX7_go_72 hk hi
theorem iX7_go_73 {p0 : Nat} {p1 : Int32} {p2 : Int32} {p3 : Int32} {Ls st : List Value} {h : AH} (hw : wds st ≤ 8) : ev L xs mdX7_go 73 Ls (.int p3 :: .int p2 :: .int p1 :: .ref p0 :: st) h = kn L xs mdX7_go 73 76 Ls st (ev L xs mdX7_put 0 [.ref p0, .int p1, .int p2, .int p3] [] h) := e_callS (as := [.int p3, .int p2, .int p1, .ref p0]) dX7_go_73 mr_7_100 (by decide) (by decide) rfl (by simp [wds, Value.category]; decide) rfl hw
theorem iX7_go_76 {v0 : Value} {x : Nat} {Ls st : List Value} {h : AH} : ev L xs mdX7_go 76 (v0 :: .ref x :: Ls) (st) h = ev L xs mdX7_go 77 (v0 :: .ref x :: Ls) (.ref x :: st) (h) := e_aload_n dX7_go_76 rfl
theorem iX7_go_77 {v0 : Value} {v1 : Value} {v2 : Value} {v3 : Value} {x : Int32} {Ls st : List Value} {h : AH} : ev L xs mdX7_go 77 (v0 :: v1 :: v2 :: v3 :: .int x :: Ls) (st) h = ev L xs mdX7_go 79 (v0 :: v1 :: v2 :: v3 :: .int x :: Ls) (.int x :: st) (h) := e_iload dX7_go_77 rfl
theorem iX7_go_79  {Ls st : List Value} {h : AH} : ev L xs mdX7_go 79 (Ls) (st) h = ev L xs mdX7_go 81 (Ls) (.int (nI 8) :: st) (h) := e_bipush dX7_go_79 (by decide)
theorem iX7_go_81 {x : Nat} {Ls st : List Value} {h : AH} : ev L xs mdX7_go 81 (.ref x :: Ls) (st) h = ev L xs mdX7_go 82 (.ref x :: Ls) (.ref x :: st) (h) := e_aload_n dX7_go_81 rfl
theorem iX7_go_82 {a : Nat} {Ls st : List Value} {h : AH} (hk : hK h a = 7) (hj : (hR h 120 a).isSome = true) : ev L xs mdX7_go 82 (Ls) (.ref a :: st) h = ev L xs mdX7_go 85 (Ls) (.ref ((hR h 120 a).getD 0) :: st) (h) := e_getR (k := 7) (f := 8) (F := 120) dX7_go_82 (by decide +kernel) rfl rfl hk hj
theorem iX7_go_85 {v0 : Value} {v1 : Value} {v2 : Value} {v3 : Value} {x : Int32} {Ls st : List Value} {h : AH} : ev L xs mdX7_go 85 (v0 :: v1 :: v2 :: v3 :: .int x :: Ls) (st) h = ev L xs mdX7_go 87 (v0 :: v1 :: v2 :: v3 :: .int x :: Ls) (.int x :: st) (h) := e_iload dX7_go_85 rfl
theorem iX7_go_87 {a : Nat} {j : Int32} {Ls st : List Value} {h : AH} (hk : hK h a = 8) (hi : inA j (hN h a) = true) : ev L xs mdX7_go 87 (Ls) (.int j :: .ref a :: st) h = ev L xs mdX7_go 88 (Ls) (.int (hA h a j.toNatClampNeg) :: st) (h) := e_iald dX7_go_87 hk hi
theorem iX7_go_88 {p0 : Nat} {p1 : Int32} {p2 : Int32} {p3 : Int32} {Ls st : List Value} {h : AH} (hw : wds st ≤ 8) : ev L xs mdX7_go 88 Ls (.int p3 :: .int p2 :: .int p1 :: .ref p0 :: st) h = kn L xs mdX7_go 88 91 Ls st (ev L xs mdX7_put 0 [.ref p0, .int p1, .int p2, .int p3] [] h) := e_callS (as := [.int p3, .int p2, .int p1, .ref p0]) dX7_go_88 mr_7_100 (by decide) (by decide) rfl (by simp [wds, Value.category]; decide) rfl hw
theorem iX7_go_91 {v0 : Value} {x : Nat} {Ls st : List Value} {h : AH} : ev L xs mdX7_go 91 (v0 :: .ref x :: Ls) (st) h = ev L xs mdX7_go 92 (v0 :: .ref x :: Ls) (.ref x :: st) (h) := e_aload_n dX7_go_91 rfl
theorem iX7_go_92  {Ls st : List Value} {h : AH} : ev L xs mdX7_go 92 (Ls) (st) h = ev L xs mdX7_go 94 (Ls) (.int (nI 6) :: st) (h) := e_bipush dX7_go_92 (by decide)
theorem iX7_go_94 {a : Nat} {j : Int32} {Ls st : List Value} {h : AH} : ev L xs mdX7_go 94 (Ls) (.int j :: .ref a :: st) h = ev L xs mdX7_go 95 (Ls) (.int j :: .ref a :: .int j :: .ref a :: st) (h) := e_dup2 dX7_go_94 rfl rfl
theorem iX7_go_95 {a : Nat} {j : Int32} {Ls st : List Value} {h : AH} (hk : hK h a = 8) (hi : inA j (hN h a) = true) : ev L xs mdX7_go 95 (Ls) (.int j :: .ref a :: st) h = ev L xs mdX7_go 96 (Ls) (.int (hA h a j.toNatClampNeg) :: st) (h) := e_iald dX7_go_95 hk hi
theorem iX7_go_96 {v0 : Value} {x : Nat} {Ls st : List Value} {h : AH} : ev L xs mdX7_go 96 (v0 :: .ref x :: Ls) (st) h = ev L xs mdX7_go 97 (v0 :: .ref x :: Ls) (.ref x :: st) (h) := e_aload_n dX7_go_96 rfl
theorem iX7_go_97 {v0 : Value} {v1 : Value} {v2 : Value} {v3 : Value} {x : Int32} {Ls st : List Value} {h : AH} : ev L xs mdX7_go 97 (v0 :: v1 :: v2 :: v3 :: .int x :: Ls) (st) h = ev L xs mdX7_go 99 (v0 :: v1 :: v2 :: v3 :: .int x :: Ls) (.int x :: st) (h) := e_iload dX7_go_97 rfl
theorem iX7_go_99 {v0 : Value} {x : Nat} {Ls st : List Value} {h : AH} : ev L xs mdX7_go 99 (v0 :: .ref x :: Ls) (st) h = ev L xs mdX7_go 100 (v0 :: .ref x :: Ls) (.ref x :: st) (h) := e_aload_n dX7_go_99 rfl
theorem iX7_go_100  {Ls st : List Value} {h : AH} : ev L xs mdX7_go 100 (Ls) (st) h = ev L xs mdX7_go 101 (Ls) (.int (nI 0) :: st) (h) := e_iconst dX7_go_100 (by decide)
theorem iX7_go_101 {a : Nat} {j : Int32} {Ls st : List Value} {h : AH} (hk : hK h a = 8) (hi : inA j (hN h a) = true) : ev L xs mdX7_go 101 (Ls) (.int j :: .ref a :: st) h = ev L xs mdX7_go 102 (Ls) (.int (hA h a j.toNatClampNeg) :: st) (h) := e_iald dX7_go_101 hk hi
theorem iX7_go_102 {v0 : Value} {x : Nat} {Ls st : List Value} {h : AH} : ev L xs mdX7_go 102 (v0 :: .ref x :: Ls) (st) h = ev L xs mdX7_go 103 (v0 :: .ref x :: Ls) (.ref x :: st) (h) := e_aload_n dX7_go_102 rfl
theorem iX7_go_103  {Ls st : List Value} {h : AH} : ev L xs mdX7_go 103 (Ls) (st) h = ev L xs mdX7_go 104 (Ls) (.int (nI 1) :: st) (h) := e_iconst dX7_go_103 (by decide)
theorem iX7_go_104 {a : Nat} {j : Int32} {Ls st : List Value} {h : AH} (hk : hK h a = 8) (hi : inA j (hN h a) = true) : ev L xs mdX7_go 104 (Ls) (.int j :: .ref a :: st) h = ev L xs mdX7_go 105 (Ls) (.int (hA h a j.toNatClampNeg) :: st) (h) := e_iald dX7_go_104 hk hi
theorem iX7_go_105 {p0 : Nat} {p1 : Int32} {p2 : Int32} {p3 : Int32} {Ls st : List Value} {h : AH} (hw : wds st ≤ 8) : ev L xs mdX7_go 105 Ls (.int p3 :: .int p2 :: .int p1 :: .ref p0 :: st) h = kn L xs mdX7_go 105 108 Ls st (ev L xs mdX7_isNeeded 0 [.ref p0, .int p1, .int p2, .int p3] [] h) := e_callS (as := [.int p3, .int p2, .int p1, .ref p0]) dX7_go_105 mr_7_63 (by decide) (by decide) rfl (by simp [wds, Value.category]; decide) rfl hw
theorem iX7_go_108 {x : Int32} {Ls st : List Value} {h : AH} : ev L xs mdX7_go 108 Ls (.int x :: st) h = if x = nI 0 then ev L xs mdX7_go 115 Ls st h else ev L xs mdX7_go 111 Ls st h := e_if_eq dX7_go_108 (by decide)
theorem iX7_go_111  {Ls st : List Value} {h : AH} : ev L xs mdX7_go 111 (Ls) (st) h = ev L xs mdX7_go 112 (Ls) (.int (nI 1) :: st) (h) := e_iconst dX7_go_111 (by decide)
theorem iX7_go_112  {Ls st : List Value} {h : AH} : ev L xs mdX7_go 112 (Ls) (st) h = ev L xs mdX7_go 116 (Ls) (st) (h) := e_goto dX7_go_112 (by decide)
theorem iX7_go_115  {Ls st : List Value} {h : AH} : ev L xs mdX7_go 115 (Ls) (st) h = ev L xs mdX7_go 116 (Ls) (.int (nI 0) :: st) (h) := e_iconst dX7_go_115 (by decide)
theorem iX7_go_116 {x z : Int32} {Ls st : List Value} {h : AH} : ev L xs mdX7_go 116 (Ls) (.int z :: .int x :: st) h = ev L xs mdX7_go 117 (Ls) (.int (x + z) :: st) (h) := e_iadd dX7_go_116
theorem iX7_go_117 {a : Nat} {j : Int32} {v : Int32} {Ls st : List Value} {h : AH} (hk : hK h a = 8) (hi : inA j (hN h a) = true) : ev L xs mdX7_go 117 (Ls) (.int v :: .int j :: .ref a :: st) h = ev L xs mdX7_go 118 (Ls) (st) (sA h a j.toNatClampNeg v) := e_iast dX7_go_117 hk hi
theorem iX7_go_118 {v0 : Value} {v1 : Value} {v2 : Value} {x : Int32} {Ls st : List Value} {h : AH} : ev L xs mdX7_go 118 (v0 :: v1 :: v2 :: .int x :: Ls) (st) h = ev L xs mdX7_go 119 (v0 :: v1 :: v2 :: .int x :: Ls) (.int x :: st) (h) := e_iload_n dX7_go_118 rfl
theorem iX7_go_119 {v0 : Value} {v1 : Value} {v2 : Value} {v3 : Value} {x : Int32} {Ls st : List Value} {h : AH} : ev L xs mdX7_go 119 (v0 :: v1 :: v2 :: v3 :: .int x :: Ls) (st) h = ev L xs mdX7_go 121 (v0 :: v1 :: v2 :: v3 :: .int x :: Ls) (.int x :: st) (h) := e_iload dX7_go_119 rfl
theorem iX7_go_121 {x z : Int32} {Ls st : List Value} {h : AH} : ev L xs mdX7_go 121 (Ls) (.int z :: .int x :: st) h = ev L xs mdX7_go 122 (Ls) (.int (x >>> (z &&& nI 31)) :: st) (h) := e_ishr dX7_go_121
theorem iX7_go_122  {Ls st : List Value} {h : AH} : ev L xs mdX7_go 122 (Ls) (st) h = ev L xs mdX7_go 123 (Ls) (.int (nI 1) :: st) (h) := e_iconst dX7_go_122 (by decide)
theorem iX7_go_123 {x z : Int32} {Ls st : List Value} {h : AH} : ev L xs mdX7_go 123 (Ls) (.int z :: .int x :: st) h = ev L xs mdX7_go 124 (Ls) (.int (x &&& z) :: st) (h) := e_iand dX7_go_123
theorem iX7_go_124  {Ls st : List Value} {h : AH} : ev L xs mdX7_go 124 (Ls) (st) h = ev L xs mdX7_go 125 (Ls) (.int (nI 1) :: st) (h) := e_iconst dX7_go_124 (by decide)
theorem iX7_go_125 {x z : Int32} {Ls st : List Value} {h : AH} : ev L xs mdX7_go 125 Ls (.int z :: .int x :: st) h = if x = z then ev L xs mdX7_go 128 Ls st h else ev L xs mdX7_go 152 Ls st h := e_ic_ne dX7_go_125 (by decide)
theorem iX7_go_128 {v0 : Value} {x : Nat} {Ls st : List Value} {h : AH} : ev L xs mdX7_go 128 (v0 :: .ref x :: Ls) (st) h = ev L xs mdX7_go 129 (v0 :: .ref x :: Ls) (.ref x :: st) (h) := e_aload_n dX7_go_128 rfl
theorem iX7_go_129 {v0 : Value} {v1 : Value} {v2 : Value} {v3 : Value} {x : Int32} {Ls st : List Value} {h : AH} : ev L xs mdX7_go 129 (v0 :: v1 :: v2 :: v3 :: .int x :: Ls) (st) h = ev L xs mdX7_go 131 (v0 :: v1 :: v2 :: v3 :: .int x :: Ls) (.int x :: st) (h) := e_iload dX7_go_129 rfl
theorem iX7_go_131  {Ls st : List Value} {h : AH} : ev L xs mdX7_go 131 (Ls) (st) h = ev L xs mdX7_go 132 (Ls) (.int (nI 2) :: st) (h) := e_iconst dX7_go_131 (by decide)
theorem iX7_go_132 {v0 : Value} {x : Nat} {Ls st : List Value} {h : AH} : ev L xs mdX7_go 132 (v0 :: .ref x :: Ls) (st) h = ev L xs mdX7_go 133 (v0 :: .ref x :: Ls) (.ref x :: st) (h) := e_aload_n dX7_go_132 rfl
theorem iX7_go_133 {v0 : Value} {v1 : Value} {v2 : Value} {v3 : Value} {x : Int32} {Ls st : List Value} {h : AH} : ev L xs mdX7_go 133 (v0 :: v1 :: v2 :: v3 :: .int x :: Ls) (st) h = ev L xs mdX7_go 135 (v0 :: v1 :: v2 :: v3 :: .int x :: Ls) (.int x :: st) (h) := e_iload dX7_go_133 rfl
theorem iX7_go_135  {Ls st : List Value} {h : AH} : ev L xs mdX7_go 135 (Ls) (st) h = ev L xs mdX7_go 136 (Ls) (.int (nI 2) :: st) (h) := e_iconst dX7_go_135 (by decide)
theorem iX7_go_136 {p0 : Nat} {p1 : Int32} {p2 : Int32} {Ls st : List Value} {h : AH} (hw : wds st ≤ 8) : ev L xs mdX7_go 136 Ls (.int p2 :: .int p1 :: .ref p0 :: st) h = kn L xs mdX7_go 136 139 Ls st (ev L xs mdX7_of 0 [.ref p0, .int p1, .int p2] [] h) := e_callS (as := [.int p2, .int p1, .ref p0]) dX7_go_136 mr_7_48 (by decide) (by decide) rfl (by simp [wds, Value.category]; decide) rfl hw
theorem iX7_go_139  {Ls st : List Value} {h : AH} : ev L xs mdX7_go 139 (Ls) (st) h = ev L xs mdX7_go 140 (Ls) (.int (nI 1) :: st) (h) := e_iconst dX7_go_139 (by decide)
theorem iX7_go_140 {x z : Int32} {Ls st : List Value} {h : AH} : ev L xs mdX7_go 140 (Ls) (.int z :: .int x :: st) h = ev L xs mdX7_go 141 (Ls) (.int (x + z) :: st) (h) := e_iadd dX7_go_140
theorem iX7_go_141 {p0 : Nat} {p1 : Int32} {p2 : Int32} {p3 : Int32} {Ls st : List Value} {h : AH} (hw : wds st ≤ 8) : ev L xs mdX7_go 141 Ls (.int p3 :: .int p2 :: .int p1 :: .ref p0 :: st) h = kn L xs mdX7_go 141 144 Ls st (ev L xs mdX7_put 0 [.ref p0, .int p1, .int p2, .int p3] [] h) := e_callS (as := [.int p3, .int p2, .int p1, .ref p0]) dX7_go_141 mr_7_100 (by decide) (by decide) rfl (by simp [wds, Value.category]; decide) rfl hw
theorem iX7_go_144 {v0 : Value} {x : Nat} {Ls st : List Value} {h : AH} : ev L xs mdX7_go 144 (v0 :: .ref x :: Ls) (st) h = ev L xs mdX7_go 145 (v0 :: .ref x :: Ls) (.ref x :: st) (h) := e_aload_n dX7_go_144 rfl
theorem iX7_go_145 {v0 : Value} {v1 : Value} {v2 : Value} {v3 : Value} {x : Int32} {Ls st : List Value} {h : AH} : ev L xs mdX7_go 145 (v0 :: v1 :: v2 :: v3 :: .int x :: Ls) (st) h = ev L xs mdX7_go 147 (v0 :: v1 :: v2 :: v3 :: .int x :: Ls) (.int x :: st) (h) := e_iload dX7_go_145 rfl
theorem iX7_go_147  {Ls st : List Value} {h : AH} : ev L xs mdX7_go 147 (Ls) (st) h = ev L xs mdX7_go 148 (Ls) (.int (nI 4) :: st) (h) := e_iconst dX7_go_147 (by decide)
theorem iX7_go_148 {v0 : Value} {v1 : Value} {x : Int32} {Ls st : List Value} {h : AH} : ev L xs mdX7_go 148 (v0 :: v1 :: .int x :: Ls) (st) h = ev L xs mdX7_go 149 (v0 :: v1 :: .int x :: Ls) (.int x :: st) (h) := e_iload_n dX7_go_148 rfl
theorem iX7_go_149 {p0 : Nat} {p1 : Int32} {p2 : Int32} {p3 : Int32} {Ls st : List Value} {h : AH} (hw : wds st ≤ 8) : ev L xs mdX7_go 149 Ls (.int p3 :: .int p2 :: .int p1 :: .ref p0 :: st) h = kn L xs mdX7_go 149 152 Ls st (ev L xs mdX7_put 0 [.ref p0, .int p1, .int p2, .int p3] [] h) := e_callS (as := [.int p3, .int p2, .int p1, .ref p0]) dX7_go_149 mr_7_100 (by decide) (by decide) rfl (by simp [wds, Value.category]; decide) rfl hw
theorem iX7_go_152 {x : Nat} {Ls st : List Value} {h : AH} : ev L xs mdX7_go 152 (.ref x :: Ls) (st) h = ev L xs mdX7_go 153 (.ref x :: Ls) (.ref x :: st) (h) := e_aload_n dX7_go_152 rfl
theorem iX7_go_153 {a : Nat} {Ls st : List Value} {h : AH} (hk : hK h a = 7) (hj : (hR h 119 a).isSome = true) : ev L xs mdX7_go 153 (Ls) (.ref a :: st) h = ev L xs mdX7_go 156 (Ls) (.ref ((hR h 119 a).getD 0) :: st) (h) := e_getR (k := 7) (f := 7) (F := 119) dX7_go_153 (by decide +kernel) rfl rfl hk hj
theorem iX7_go_156 {v0 : Value} {v1 : Value} {v2 : Value} {v3 : Value} {x : Int32} {Ls st : List Value} {h : AH} : ev L xs mdX7_go 156 (v0 :: v1 :: v2 :: v3 :: .int x :: Ls) (st) h = ev L xs mdX7_go 158 (v0 :: v1 :: v2 :: v3 :: .int x :: Ls) (.int x :: st) (h) := e_iload dX7_go_156 rfl
theorem iX7_go_158 {a : Nat} {j : Int32} {Ls st : List Value} {h : AH} (hk : hK h a = 8) (hi : inA j (hN h a) = true) : ev L xs mdX7_go 158 (Ls) (.int j :: .ref a :: st) h = ev L xs mdX7_go 159 (Ls) (.int (hA h a j.toNatClampNeg) :: st) (h) := e_iald dX7_go_158 hk hi
theorem iX7_go_159  {Ls st : List Value} {h : AH} : ev L xs mdX7_go 159 (Ls) (st) h = ev L xs mdX7_go 160 (Ls) (.int (-1) :: st) (h) := e_iconst dX7_go_159 (by decide)
theorem iX7_go_160 {x z : Int32} {Ls st : List Value} {h : AH} : ev L xs mdX7_go 160 Ls (.int z :: .int x :: st) h = if x = z then ev L xs mdX7_go 177 Ls st h else ev L xs mdX7_go 163 Ls st h := e_ic_eq dX7_go_160 (by decide)
theorem iX7_go_163 {x : Nat} {Ls st : List Value} {h : AH} : ev L xs mdX7_go 163 (.ref x :: Ls) (st) h = ev L xs mdX7_go 164 (.ref x :: Ls) (.ref x :: st) (h) := e_aload_n dX7_go_163 rfl
theorem iX7_go_164 {v0 : Value} {x : Nat} {Ls st : List Value} {h : AH} : ev L xs mdX7_go 164 (v0 :: .ref x :: Ls) (st) h = ev L xs mdX7_go 165 (v0 :: .ref x :: Ls) (.ref x :: st) (h) := e_aload_n dX7_go_164 rfl
theorem iX7_go_165 {x : Nat} {Ls st : List Value} {h : AH} : ev L xs mdX7_go 165 (.ref x :: Ls) (st) h = ev L xs mdX7_go 166 (.ref x :: Ls) (.ref x :: st) (h) := e_aload_n dX7_go_165 rfl
theorem iX7_go_166 {a : Nat} {Ls st : List Value} {h : AH} (hk : hK h a = 7) (hj : (hR h 119 a).isSome = true) : ev L xs mdX7_go 166 (Ls) (.ref a :: st) h = ev L xs mdX7_go 169 (Ls) (.ref ((hR h 119 a).getD 0) :: st) (h) := e_getR (k := 7) (f := 7) (F := 119) dX7_go_166 (by decide +kernel) rfl rfl hk hj
theorem iX7_go_169 {v0 : Value} {v1 : Value} {v2 : Value} {v3 : Value} {x : Int32} {Ls st : List Value} {h : AH} : ev L xs mdX7_go 169 (v0 :: v1 :: v2 :: v3 :: .int x :: Ls) (st) h = ev L xs mdX7_go 171 (v0 :: v1 :: v2 :: v3 :: .int x :: Ls) (.int x :: st) (h) := e_iload dX7_go_169 rfl
theorem iX7_go_171 {a : Nat} {j : Int32} {Ls st : List Value} {h : AH} (hk : hK h a = 8) (hi : inA j (hN h a) = true) : ev L xs mdX7_go 171 (Ls) (.int j :: .ref a :: st) h = ev L xs mdX7_go 172 (Ls) (.int (hA h a j.toNatClampNeg) :: st) (h) := e_iald dX7_go_171 hk hi
theorem iX7_go_172 {v0 : Value} {v1 : Value} {v2 : Value} {v3 : Value} {x : Int32} {Ls st : List Value} {h : AH} : ev L xs mdX7_go 172 (v0 :: v1 :: v2 :: v3 :: .int x :: Ls) (st) h = ev L xs mdX7_go 174 (v0 :: v1 :: v2 :: v3 :: .int x :: Ls) (.int x :: st) (h) := e_iload dX7_go_172 rfl
theorem iX7_go_174 {a : Nat} {p0 : Nat} {p1 : Int32} {p2 : Int32} {Ls st : List Value} {h : AH} (hk : hK h a = 7) (hw : wds st ≤ 8) : ev L xs mdX7_go 174 Ls (.int p2 :: .int p1 :: .ref p0 :: .ref a :: st) h = kn L xs mdX7_go 174 177 Ls st (ev L xs mdX7_pay 0 [.ref a, .ref p0, .int p1, .int p2, .null, .null, .null] [] h) := e_callV (as := [.int p2, .int p1, .ref p0]) dX7_go_174 mr_7_103 (by decide) (by decide) rfl (by simp [wds, Value.category]; decide) rfl (by decide) hk hw
theorem iX7_go_177 {v0 : Value} {v1 : Value} {v2 : Value} {v3 : Value} {x : Int32} {Ls st : List Value} {h : AH} (hc9 : v3.category = 1) : ev L xs mdX7_go 177 (v0 :: v1 :: v2 :: v3 :: .int x :: Ls) (st) h = ev L xs mdX7_go 180 (v0 :: v1 :: v2 :: v3 :: .int (x + (nI 1)) :: Ls) (st) (h) := e_iinc dX7_go_177 rfl rfl rfl (by decide) (by unfold catOK; show (_ || (v3.category == 1)) = true; rw [hc9]; rfl)
theorem iX7_go_180  {Ls st : List Value} {h : AH} : ev L xs mdX7_go 180 (Ls) (st) h = ev L xs mdX7_go 53 (Ls) (st) (h) := e_goto dX7_go_180 (by decide)
theorem iX7_go_183 {v0 : Value} {x : Nat} {Ls st : List Value} {h : AH} : ev L xs mdX7_go 183 (v0 :: .ref x :: Ls) (st) h = ev L xs mdX7_go 184 (v0 :: .ref x :: Ls) (.ref x :: st) (h) := e_aload_n dX7_go_183 rfl
theorem iX7_go_184  {Ls st : List Value} {h : AH} : ev L xs mdX7_go 184 (Ls) (st) h = ev L xs mdX7_go 185 (Ls) (.int (nI 0) :: st) (h) := e_iconst dX7_go_184 (by decide)
theorem iX7_go_185 {a : Nat} {j : Int32} {Ls st : List Value} {h : AH} : ev L xs mdX7_go 185 (Ls) (.int j :: .ref a :: st) h = ev L xs mdX7_go 186 (Ls) (.int j :: .ref a :: .int j :: .ref a :: st) (h) := e_dup2 dX7_go_185 rfl rfl
theorem iX7_go_186 {a : Nat} {j : Int32} {Ls st : List Value} {h : AH} (hk : hK h a = 8) (hi : inA j (hN h a) = true) : ev L xs mdX7_go 186 (Ls) (.int j :: .ref a :: st) h = ev L xs mdX7_go 187 (Ls) (.int (hA h a j.toNatClampNeg) :: st) (h) := e_iald dX7_go_186 hk hi
theorem iX7_go_187 {v0 : Value} {x : Nat} {Ls st : List Value} {h : AH} : ev L xs mdX7_go 187 (v0 :: .ref x :: Ls) (st) h = ev L xs mdX7_go 188 (v0 :: .ref x :: Ls) (.ref x :: st) (h) := e_aload_n dX7_go_187 rfl
theorem iX7_go_188  {Ls st : List Value} {h : AH} : ev L xs mdX7_go 188 (Ls) (st) h = ev L xs mdX7_go 189 (Ls) (.int (nI 1) :: st) (h) := e_iconst dX7_go_188 (by decide)
theorem iX7_go_189 {a : Nat} {j : Int32} {Ls st : List Value} {h : AH} (hk : hK h a = 8) (hi : inA j (hN h a) = true) : ev L xs mdX7_go 189 (Ls) (.int j :: .ref a :: st) h = ev L xs mdX7_go 190 (Ls) (.int (hA h a j.toNatClampNeg) :: st) (h) := e_iald dX7_go_189 hk hi
theorem iX7_go_190 {x z : Int32} {Ls st : List Value} {h : AH} : ev L xs mdX7_go 190 (Ls) (.int z :: .int x :: st) h = ev L xs mdX7_go 191 (Ls) (.int (x + z) :: st) (h) := e_iadd dX7_go_190
theorem iX7_go_191 {a : Nat} {j : Int32} {v : Int32} {Ls st : List Value} {h : AH} (hk : hK h a = 8) (hi : inA j (hN h a) = true) : ev L xs mdX7_go 191 (Ls) (.int v :: .int j :: .ref a :: st) h = ev L xs mdX7_go 192 (Ls) (st) (sA h a j.toNatClampNeg v) := e_iast dX7_go_191 hk hi
theorem iX7_go_192 {v0 : Value} {x : Nat} {Ls st : List Value} {h : AH} : ev L xs mdX7_go 192 (v0 :: .ref x :: Ls) (st) h = ev L xs mdX7_go 193 (v0 :: .ref x :: Ls) (.ref x :: st) (h) := e_aload_n dX7_go_192 rfl
theorem iX7_go_193  {Ls st : List Value} {h : AH} : ev L xs mdX7_go 193 (Ls) (st) h = ev L xs mdX7_go 194 (Ls) (.int (nI 1) :: st) (h) := e_iconst dX7_go_193 (by decide)
theorem iX7_go_194  {Ls st : List Value} {h : AH} : ev L xs mdX7_go 194 (Ls) (st) h = ev L xs mdX7_go 195 (Ls) (.int (nI 1) :: st) (h) := e_iconst dX7_go_194 (by decide)
theorem iX7_go_195 {v0 : Value} {x : Nat} {Ls st : List Value} {h : AH} : ev L xs mdX7_go 195 (v0 :: .ref x :: Ls) (st) h = ev L xs mdX7_go 196 (v0 :: .ref x :: Ls) (.ref x :: st) (h) := e_aload_n dX7_go_195 rfl
theorem iX7_go_196  {Ls st : List Value} {h : AH} : ev L xs mdX7_go 196 (Ls) (st) h = ev L xs mdX7_go 197 (Ls) (.int (nI 1) :: st) (h) := e_iconst dX7_go_196 (by decide)
theorem iX7_go_197 {a : Nat} {j : Int32} {Ls st : List Value} {h : AH} (hk : hK h a = 8) (hi : inA j (hN h a) = true) : ev L xs mdX7_go 197 (Ls) (.int j :: .ref a :: st) h = ev L xs mdX7_go 198 (Ls) (.int (hA h a j.toNatClampNeg) :: st) (h) := e_iald dX7_go_197 hk hi
theorem iX7_go_198 {x z : Int32} {Ls st : List Value} {h : AH} : ev L xs mdX7_go 198 (Ls) (.int z :: .int x :: st) h = ev L xs mdX7_go 199 (Ls) (.int (x - z) :: st) (h) := e_isub dX7_go_198
theorem iX7_go_199 {a : Nat} {j : Int32} {v : Int32} {Ls st : List Value} {h : AH} (hk : hK h a = 8) (hi : inA j (hN h a) = true) : ev L xs mdX7_go 199 (Ls) (.int v :: .int j :: .ref a :: st) h = ev L xs mdX7_go 200 (Ls) (st) (sA h a j.toNatClampNeg v) := e_iast dX7_go_199 hk hi
theorem iX7_go_200 {v0 : Value} {v1 : Value} {v2 : Value} {x : Int32} {Ls st : List Value} {h : AH} : ev L xs mdX7_go 200 (v0 :: v1 :: v2 :: .int x :: Ls) (st) h = ev L xs mdX7_go 201 (v0 :: v1 :: v2 :: .int x :: Ls) (.int x :: st) (h) := e_iload_n dX7_go_200 rfl
theorem iX7_go_201 {v : Int32} {Ls : List Value} {h : AH} : ev L xs mdX7_go 201 Ls [.int v] h = some (.inl (some (.int v), h)) := e_iret dX7_go_201 rfl
theorem dX7_guard_0 : decode cX7_guard 0 = .ok (.aload_n 0, 1) := by decide +kernel
theorem dX7_guard_1 : decode cX7_guard 1 = .ok (.aload_n 0, 1) := by decide +kernel
theorem dX7_guard_2 : decode cX7_guard 2 = .ok (.iload_n 1, 1) := by decide +kernel
theorem dX7_guard_3 : decode cX7_guard 3 = .ok (.invokevirtual 122, 3) := by decide +kernel
theorem dX7_guard_6 : decode cX7_guard 6 = .ok (.ifCond .ne 7, 3) := by decide +kernel
theorem dX7_guard_9 : decode cX7_guard 9 = .ok (.iconst 1, 1) := by decide +kernel
theorem dX7_guard_10 : decode cX7_guard 10 = .ok (.goto 18, 3) := by decide +kernel
theorem dX7_guard_13 : decode cX7_guard 13 = .ok (.iload_n 2, 1) := by decide +kernel
theorem dX7_guard_14 : decode cX7_guard 14 = .ok (.iconst 0, 1) := by decide +kernel
theorem dX7_guard_15 : decode cX7_guard 15 = .ok (.bipush 10, 2) := by decide +kernel
theorem dX7_guard_17 : decode cX7_guard 17 = .ok (.invokestatic 44, 3) := by decide +kernel
theorem dX7_guard_20 : decode cX7_guard 20 = .ok (.ifCond .ne 7, 3) := by decide +kernel
theorem dX7_guard_23 : decode cX7_guard 23 = .ok (.iconst 2, 1) := by decide +kernel
theorem dX7_guard_24 : decode cX7_guard 24 = .ok (.goto 4, 3) := by decide +kernel
theorem dX7_guard_27 : decode cX7_guard 27 = .ok (.iconst 0, 1) := by decide +kernel
theorem dX7_guard_28 : decode cX7_guard 28 = .ok (.putfield 34, 3) := by decide +kernel
theorem dX7_guard_31 : decode cX7_guard 31 = .ok (.aload_n 0, 1) := by decide +kernel
theorem dX7_guard_32 : decode cX7_guard 32 = .ok (.getfield 34, 3) := by decide +kernel
theorem dX7_guard_35 : decode cX7_guard 35 = .ok (.ifCond .le 7, 3) := by decide +kernel
theorem dX7_guard_38 : decode cX7_guard 38 = .ok (.iconst 0, 1) := by decide +kernel
theorem dX7_guard_39 : decode cX7_guard 39 = .ok (.goto 9, 3) := by decide +kernel
theorem dX7_guard_42 : decode cX7_guard 42 = .ok (.aload_n 0, 1) := by decide +kernel
theorem dX7_guard_43 : decode cX7_guard 43 = .ok (.iload_n 1, 1) := by decide +kernel
theorem dX7_guard_44 : decode cX7_guard 44 = .ok (.iload_n 2, 1) := by decide +kernel
theorem dX7_guard_45 : decode cX7_guard 45 = .ok (.invokevirtual 141, 3) := by decide +kernel
theorem dX7_guard_48 : decode cX7_guard 48 = .ok (.ireturn, 1) := by decide +kernel
theorem iX7_guard_0 {x : Nat} {Ls st : List Value} {h : AH} : ev L xs mdX7_guard 0 (.ref x :: Ls) (st) h = ev L xs mdX7_guard 1 (.ref x :: Ls) (.ref x :: st) (h) := e_aload_n dX7_guard_0 rfl
theorem iX7_guard_1 {x : Nat} {Ls st : List Value} {h : AH} : ev L xs mdX7_guard 1 (.ref x :: Ls) (st) h = ev L xs mdX7_guard 2 (.ref x :: Ls) (.ref x :: st) (h) := e_aload_n dX7_guard_1 rfl
theorem iX7_guard_2 {v0 : Value} {x : Int32} {Ls st : List Value} {h : AH} : ev L xs mdX7_guard 2 (v0 :: .int x :: Ls) (st) h = ev L xs mdX7_guard 3 (v0 :: .int x :: Ls) (.int x :: st) (h) := e_iload_n dX7_guard_2 rfl
theorem iX7_guard_3 {a : Nat} {p0 : Int32} {Ls st : List Value} {h : AH} (hk : hK h a = 7) (hw : wds st ≤ 8) : ev L xs mdX7_guard 3 Ls (.int p0 :: .ref a :: st) h = kn L xs mdX7_guard 3 6 Ls st (ev L xs mdX7_isGuard 0 [.ref a, .int p0] [] h) := e_callV (as := [.int p0]) dX7_guard_3 mr_7_122 (by decide) (by decide) rfl (by simp [wds, Value.category]; decide) rfl (by decide) hk hw
theorem iX7_guard_6 {x : Int32} {Ls st : List Value} {h : AH} : ev L xs mdX7_guard 6 Ls (.int x :: st) h = if x = nI 0 then ev L xs mdX7_guard 9 Ls st h else ev L xs mdX7_guard 13 Ls st h := e_if_ne dX7_guard_6 (by decide)
theorem iX7_guard_9  {Ls st : List Value} {h : AH} : ev L xs mdX7_guard 9 (Ls) (st) h = ev L xs mdX7_guard 10 (Ls) (.int (nI 1) :: st) (h) := e_iconst dX7_guard_9 (by decide)
theorem iX7_guard_10  {Ls st : List Value} {h : AH} : ev L xs mdX7_guard 10 (Ls) (st) h = ev L xs mdX7_guard 28 (Ls) (st) (h) := e_goto dX7_guard_10 (by decide)
theorem iX7_guard_13 {v0 : Value} {v1 : Value} {x : Int32} {Ls st : List Value} {h : AH} : ev L xs mdX7_guard 13 (v0 :: v1 :: .int x :: Ls) (st) h = ev L xs mdX7_guard 14 (v0 :: v1 :: .int x :: Ls) (.int x :: st) (h) := e_iload_n dX7_guard_13 rfl
theorem iX7_guard_14  {Ls st : List Value} {h : AH} : ev L xs mdX7_guard 14 (Ls) (st) h = ev L xs mdX7_guard 15 (Ls) (.int (nI 0) :: st) (h) := e_iconst dX7_guard_14 (by decide)
theorem iX7_guard_15  {Ls st : List Value} {h : AH} : ev L xs mdX7_guard 15 (Ls) (st) h = ev L xs mdX7_guard 17 (Ls) (.int (nI 10) :: st) (h) := e_bipush dX7_guard_15 (by decide)
theorem iX7_guard_17 {p0 : Int32} {p1 : Int32} {p2 : Int32} {Ls st : List Value} {h : AH} (hw : wds st ≤ 8) : ev L xs mdX7_guard 17 Ls (.int p2 :: .int p1 :: .int p0 :: st) h = kn L xs mdX7_guard 17 20 Ls st (ev L xs mdX7_in 0 [.int p0, .int p1, .int p2] [] h) := e_callS (as := [.int p2, .int p1, .int p0]) dX7_guard_17 mr_7_44 (by decide) (by decide) rfl (by simp [wds, Value.category]; decide) rfl hw
theorem iX7_guard_20 {x : Int32} {Ls st : List Value} {h : AH} : ev L xs mdX7_guard 20 Ls (.int x :: st) h = if x = nI 0 then ev L xs mdX7_guard 23 Ls st h else ev L xs mdX7_guard 27 Ls st h := e_if_ne dX7_guard_20 (by decide)
theorem iX7_guard_23  {Ls st : List Value} {h : AH} : ev L xs mdX7_guard 23 (Ls) (st) h = ev L xs mdX7_guard 24 (Ls) (.int (nI 2) :: st) (h) := e_iconst dX7_guard_23 (by decide)
theorem iX7_guard_24  {Ls st : List Value} {h : AH} : ev L xs mdX7_guard 24 (Ls) (st) h = ev L xs mdX7_guard 28 (Ls) (st) (h) := e_goto dX7_guard_24 (by decide)
theorem iX7_guard_27  {Ls st : List Value} {h : AH} : ev L xs mdX7_guard 27 (Ls) (st) h = ev L xs mdX7_guard 28 (Ls) (.int (nI 0) :: st) (h) := e_iconst dX7_guard_27 (by decide)
theorem iX7_guard_28 {a : Nat} {v : Int32} {Ls st : List Value} {h : AH} (hk : hK h a = 7) : ev L xs mdX7_guard 28 (Ls) (.int v :: .ref a :: st) h = ev L xs mdX7_guard 31 (Ls) (st) (sI h 112 a v) := e_putI (k := 7) (f := 0) (F := 112) dX7_guard_28 (by decide +kernel) rfl (by decide +kernel) rfl hk
theorem iX7_guard_31 {x : Nat} {Ls st : List Value} {h : AH} : ev L xs mdX7_guard 31 (.ref x :: Ls) (st) h = ev L xs mdX7_guard 32 (.ref x :: Ls) (.ref x :: st) (h) := e_aload_n dX7_guard_31 rfl
theorem iX7_guard_32 {a : Nat} {Ls st : List Value} {h : AH} (hk : hK h a = 7) : ev L xs mdX7_guard 32 (Ls) (.ref a :: st) h = ev L xs mdX7_guard 35 (Ls) (.int (hI h 112 a) :: st) (h) := e_getI (k := 7) (f := 0) (F := 112) dX7_guard_32 (by decide +kernel) rfl rfl hk
theorem iX7_guard_35 {x : Int32} {Ls st : List Value} {h : AH} : ev L xs mdX7_guard 35 Ls (.int x :: st) h = if x ≤ nI 0 then ev L xs mdX7_guard 42 Ls st h else ev L xs mdX7_guard 38 Ls st h := e_if_le dX7_guard_35 (by decide)
theorem iX7_guard_38  {Ls st : List Value} {h : AH} : ev L xs mdX7_guard 38 (Ls) (st) h = ev L xs mdX7_guard 39 (Ls) (.int (nI 0) :: st) (h) := e_iconst dX7_guard_38 (by decide)
theorem iX7_guard_39  {Ls st : List Value} {h : AH} : ev L xs mdX7_guard 39 (Ls) (st) h = ev L xs mdX7_guard 48 (Ls) (st) (h) := e_goto dX7_guard_39 (by decide)
theorem iX7_guard_42 {x : Nat} {Ls st : List Value} {h : AH} : ev L xs mdX7_guard 42 (.ref x :: Ls) (st) h = ev L xs mdX7_guard 43 (.ref x :: Ls) (.ref x :: st) (h) := e_aload_n dX7_guard_42 rfl
theorem iX7_guard_43 {v0 : Value} {x : Int32} {Ls st : List Value} {h : AH} : ev L xs mdX7_guard 43 (v0 :: .int x :: Ls) (st) h = ev L xs mdX7_guard 44 (v0 :: .int x :: Ls) (.int x :: st) (h) := e_iload_n dX7_guard_43 rfl
theorem iX7_guard_44 {v0 : Value} {v1 : Value} {x : Int32} {Ls st : List Value} {h : AH} : ev L xs mdX7_guard 44 (v0 :: v1 :: .int x :: Ls) (st) h = ev L xs mdX7_guard 45 (v0 :: v1 :: .int x :: Ls) (.int x :: st) (h) := e_iload_n dX7_guard_44 rfl
theorem iX7_guard_45 {a : Nat} {p0 : Int32} {p1 : Int32} {Ls st : List Value} {h : AH} (hk : hK h a = 7) (hw : wds st ≤ 8) : ev L xs mdX7_guard 45 Ls (.int p1 :: .int p0 :: .ref a :: st) h = kn L xs mdX7_guard 45 48 Ls st (ev L xs mdX7_guardValue 0 [.ref a, .int p0, .int p1] [] h) := e_callV (as := [.int p1, .int p0]) dX7_guard_45 mr_7_141 (by decide) (by decide) rfl (by simp [wds, Value.category]; decide) rfl (by decide) hk hw
theorem iX7_guard_48 {v : Int32} {Ls : List Value} {h : AH} : ev L xs mdX7_guard 48 Ls [.int v] h = some (.inl (some (.int v), h)) := e_iret dX7_guard_48 rfl
theorem dX7_guardValue_0 : decode cX7_guardValue 0 = .ok (.iload_n 2, 1) := by decide +kernel
theorem dX7_guardValue_1 : decode cX7_guardValue 1 = .ok (.tableswitch 113 6 10 #[35, 60, 71, 71, 83], 35) := by decide +kernel
theorem dX7_guardValue_36 : decode cX7_guardValue 36 = .ok (.aload_n 0, 1) := by decide +kernel
theorem dX7_guardValue_37 : decode cX7_guardValue 37 = .ok (.getfield 7, 3) := by decide +kernel
theorem dX7_guardValue_40 : decode cX7_guardValue 40 = .ok (.iconst 0, 1) := by decide +kernel
theorem dX7_guardValue_41 : decode cX7_guardValue 41 = .ok (.iaload, 1) := by decide +kernel
theorem dX7_guardValue_42 : decode cX7_guardValue 42 = .ok (.aload_n 0, 1) := by decide +kernel
theorem dX7_guardValue_43 : decode cX7_guardValue 43 = .ok (.getfield 7, 3) := by decide +kernel
theorem dX7_guardValue_46 : decode cX7_guardValue 46 = .ok (.iload_n 1, 1) := by decide +kernel
theorem dX7_guardValue_47 : decode cX7_guardValue 47 = .ok (.bipush 6, 2) := by decide +kernel
theorem dX7_guardValue_49 : decode cX7_guardValue 49 = .ok (.invokestatic 56, 3) := by decide +kernel
theorem dX7_guardValue_52 : decode cX7_guardValue 52 = .ok (.if_icmp .ge 7, 3) := by decide +kernel
theorem dX7_guardValue_55 : decode cX7_guardValue 55 = .ok (.iconst 1, 1) := by decide +kernel
theorem dX7_guardValue_56 : decode cX7_guardValue 56 = .ok (.goto 4, 3) := by decide +kernel
theorem dX7_guardValue_59 : decode cX7_guardValue 59 = .ok (.iconst 0, 1) := by decide +kernel
theorem dX7_guardValue_60 : decode cX7_guardValue 60 = .ok (.ireturn, 1) := by decide +kernel
theorem dX7_guardValue_61 : decode cX7_guardValue 61 = .ok (.aload_n 0, 1) := by decide +kernel
theorem dX7_guardValue_62 : decode cX7_guardValue 62 = .ok (.getfield 7, 3) := by decide +kernel
theorem dX7_guardValue_65 : decode cX7_guardValue 65 = .ok (.iload_n 1, 1) := by decide +kernel
theorem dX7_guardValue_66 : decode cX7_guardValue 66 = .ok (.bipush 6, 2) := by decide +kernel
theorem dX7_guardValue_68 : decode cX7_guardValue 68 = .ok (.invokestatic 56, 3) := by decide +kernel
theorem dX7_guardValue_71 : decode cX7_guardValue 71 = .ok (.ireturn, 1) := by decide +kernel
theorem dX7_guardValue_72 : decode cX7_guardValue 72 = .ok (.aload_n 0, 1) := by decide +kernel
theorem dX7_guardValue_73 : decode cX7_guardValue 73 = .ok (.getfield 7, 3) := by decide +kernel
theorem dX7_guardValue_76 : decode cX7_guardValue 76 = .ok (.iload_n 1, 1) := by decide +kernel
theorem dX7_guardValue_77 : decode cX7_guardValue 77 = .ok (.iload_n 2, 1) := by decide +kernel
theorem dX7_guardValue_78 : decode cX7_guardValue 78 = .ok (.iconst 1, 1) := by decide +kernel
theorem dX7_guardValue_79 : decode cX7_guardValue 79 = .ok (.isub, 1) := by decide +kernel
theorem dX7_guardValue_80 : decode cX7_guardValue 80 = .ok (.invokestatic 56, 3) := by decide +kernel
theorem dX7_guardValue_83 : decode cX7_guardValue 83 = .ok (.ireturn, 1) := by decide +kernel
theorem dX7_guardValue_84 : decode cX7_guardValue 84 = .ok (.aload_n 0, 1) := by decide +kernel
theorem dX7_guardValue_85 : decode cX7_guardValue 85 = .ok (.getfield 7, 3) := by decide +kernel
theorem dX7_guardValue_88 : decode cX7_guardValue 88 = .ok (.iload_n 1, 1) := by decide +kernel
theorem dX7_guardValue_89 : decode cX7_guardValue 89 = .ok (.iconst 3, 1) := by decide +kernel
theorem dX7_guardValue_90 : decode cX7_guardValue 90 = .ok (.invokestatic 56, 3) := by decide +kernel
theorem dX7_guardValue_93 : decode cX7_guardValue 93 = .ok (.iconst 5, 1) := by decide +kernel
theorem dX7_guardValue_94 : decode cX7_guardValue 94 = .ok (.if_icmp .ne 7, 3) := by decide +kernel
theorem dX7_guardValue_97 : decode cX7_guardValue 97 = .ok (.iconst (-1), 1) := by decide +kernel
theorem dX7_guardValue_98 : decode cX7_guardValue 98 = .ok (.goto 15, 3) := by decide +kernel
theorem dX7_guardValue_101 : decode cX7_guardValue 101 = .ok (.bipush 20, 2) := by decide +kernel
theorem dX7_guardValue_103 : decode cX7_guardValue 103 = .ok (.aload_n 0, 1) := by decide +kernel
theorem dX7_guardValue_104 : decode cX7_guardValue 104 = .ok (.getfield 7, 3) := by decide +kernel
theorem dX7_guardValue_107 : decode cX7_guardValue 107 = .ok (.iload_n 1, 1) := by decide +kernel
theorem dX7_guardValue_108 : decode cX7_guardValue 108 = .ok (.iconst 4, 1) := by decide +kernel
theorem dX7_guardValue_109 : decode cX7_guardValue 109 = .ok (.invokestatic 56, 3) := by decide +kernel
theorem dX7_guardValue_112 : decode cX7_guardValue 112 = .ok (.isub, 1) := by decide +kernel
theorem dX7_guardValue_113 : decode cX7_guardValue 113 = .ok (.ireturn, 1) := by decide +kernel
theorem dX7_guardValue_114 : decode cX7_guardValue 114 = .ok (.aload_n 0, 1) := by decide +kernel
theorem dX7_guardValue_115 : decode cX7_guardValue 115 = .ok (.getfield 7, 3) := by decide +kernel
theorem dX7_guardValue_118 : decode cX7_guardValue 118 = .ok (.iload_n 1, 1) := by decide +kernel
theorem dX7_guardValue_119 : decode cX7_guardValue 119 = .ok (.iload_n 2, 1) := by decide +kernel
theorem dX7_guardValue_120 : decode cX7_guardValue 120 = .ok (.invokestatic 56, 3) := by decide +kernel
theorem dX7_guardValue_123 : decode cX7_guardValue 123 = .ok (.ireturn, 1) := by decide +kernel
theorem iX7_guardValue_0 {v0 : Value} {v1 : Value} {x : Int32} {Ls st : List Value} {h : AH} : ev L xs mdX7_guardValue 0 (v0 :: v1 :: .int x :: Ls) (st) h = ev L xs mdX7_guardValue 1 (v0 :: v1 :: .int x :: Ls) (.int x :: st) (h) := e_iload_n dX7_guardValue_0 rfl
theorem iX7_guardValue_1_6 {Ls st : List Value} {h : AH} : ev L xs mdX7_guardValue 1 Ls (.int (nI 6) :: st) h = ev L xs mdX7_guardValue 36 Ls st h := e_tsw dX7_guardValue_1 rfl (by decide)
theorem iX7_guardValue_1_7 {Ls st : List Value} {h : AH} : ev L xs mdX7_guardValue 1 Ls (.int (nI 7) :: st) h = ev L xs mdX7_guardValue 61 Ls st h := e_tsw dX7_guardValue_1 rfl (by decide)
theorem iX7_guardValue_1_8 {Ls st : List Value} {h : AH} : ev L xs mdX7_guardValue 1 Ls (.int (nI 8) :: st) h = ev L xs mdX7_guardValue 72 Ls st h := e_tsw dX7_guardValue_1 rfl (by decide)
theorem iX7_guardValue_1_9 {Ls st : List Value} {h : AH} : ev L xs mdX7_guardValue 1 Ls (.int (nI 9) :: st) h = ev L xs mdX7_guardValue 72 Ls st h := e_tsw dX7_guardValue_1 rfl (by decide)
theorem iX7_guardValue_1_10 {Ls st : List Value} {h : AH} : ev L xs mdX7_guardValue 1 Ls (.int (nI 10) :: st) h = ev L xs mdX7_guardValue 84 Ls st h := e_tsw dX7_guardValue_1 rfl (by decide)
theorem iX7_guardValue_1_d {x : Int32} {Ls st : List Value} {h : AH} (hx : x.toInt < 6 ∨ 10 < x.toInt) : ev L xs mdX7_guardValue 1 Ls (.int x :: st) h = ev L xs mdX7_guardValue 114 Ls st h := e_tsw (o := 113) dX7_guardValue_1 (if_pos hx) (by decide)
theorem iX7_guardValue_36 {x : Nat} {Ls st : List Value} {h : AH} : ev L xs mdX7_guardValue 36 (.ref x :: Ls) (st) h = ev L xs mdX7_guardValue 37 (.ref x :: Ls) (.ref x :: st) (h) := e_aload_n dX7_guardValue_36 rfl
theorem iX7_guardValue_37 {a : Nat} {Ls st : List Value} {h : AH} (hk : hK h a = 7) (hj : (hR h 113 a).isSome = true) : ev L xs mdX7_guardValue 37 (Ls) (.ref a :: st) h = ev L xs mdX7_guardValue 40 (Ls) (.ref ((hR h 113 a).getD 0) :: st) (h) := e_getR (k := 7) (f := 1) (F := 113) dX7_guardValue_37 (by decide +kernel) rfl rfl hk hj
theorem iX7_guardValue_40  {Ls st : List Value} {h : AH} : ev L xs mdX7_guardValue 40 (Ls) (st) h = ev L xs mdX7_guardValue 41 (Ls) (.int (nI 0) :: st) (h) := e_iconst dX7_guardValue_40 (by decide)
theorem iX7_guardValue_41 {a : Nat} {j : Int32} {Ls st : List Value} {h : AH} (hk : hK h a = 8) (hi : inA j (hN h a) = true) : ev L xs mdX7_guardValue 41 (Ls) (.int j :: .ref a :: st) h = ev L xs mdX7_guardValue 42 (Ls) (.int (hA h a j.toNatClampNeg) :: st) (h) := e_iald dX7_guardValue_41 hk hi
theorem iX7_guardValue_42 {x : Nat} {Ls st : List Value} {h : AH} : ev L xs mdX7_guardValue 42 (.ref x :: Ls) (st) h = ev L xs mdX7_guardValue 43 (.ref x :: Ls) (.ref x :: st) (h) := e_aload_n dX7_guardValue_42 rfl
theorem iX7_guardValue_43 {a : Nat} {Ls st : List Value} {h : AH} (hk : hK h a = 7) (hj : (hR h 113 a).isSome = true) : ev L xs mdX7_guardValue 43 (Ls) (.ref a :: st) h = ev L xs mdX7_guardValue 46 (Ls) (.ref ((hR h 113 a).getD 0) :: st) (h) := e_getR (k := 7) (f := 1) (F := 113) dX7_guardValue_43 (by decide +kernel) rfl rfl hk hj
theorem iX7_guardValue_46 {v0 : Value} {x : Int32} {Ls st : List Value} {h : AH} : ev L xs mdX7_guardValue 46 (v0 :: .int x :: Ls) (st) h = ev L xs mdX7_guardValue 47 (v0 :: .int x :: Ls) (.int x :: st) (h) := e_iload_n dX7_guardValue_46 rfl
theorem iX7_guardValue_47  {Ls st : List Value} {h : AH} : ev L xs mdX7_guardValue 47 (Ls) (st) h = ev L xs mdX7_guardValue 49 (Ls) (.int (nI 6) :: st) (h) := e_bipush dX7_guardValue_47 (by decide)
theorem iX7_guardValue_49 {p0 : Nat} {p1 : Int32} {p2 : Int32} {Ls st : List Value} {h : AH} (hw : wds st ≤ 8) : ev L xs mdX7_guardValue 49 Ls (.int p2 :: .int p1 :: .ref p0 :: st) h = kn L xs mdX7_guardValue 49 52 Ls st (ev L xs mdX7_by 0 [.ref p0, .int p1, .int p2] [] h) := e_callS (as := [.int p2, .int p1, .ref p0]) dX7_guardValue_49 mr_7_56 (by decide) (by decide) rfl (by simp [wds, Value.category]; decide) rfl hw
theorem iX7_guardValue_52 {x z : Int32} {Ls st : List Value} {h : AH} : ev L xs mdX7_guardValue 52 Ls (.int z :: .int x :: st) h = if z ≤ x then ev L xs mdX7_guardValue 59 Ls st h else ev L xs mdX7_guardValue 55 Ls st h := e_ic_ge dX7_guardValue_52 (by decide)
theorem iX7_guardValue_55  {Ls st : List Value} {h : AH} : ev L xs mdX7_guardValue 55 (Ls) (st) h = ev L xs mdX7_guardValue 56 (Ls) (.int (nI 1) :: st) (h) := e_iconst dX7_guardValue_55 (by decide)
theorem iX7_guardValue_56  {Ls st : List Value} {h : AH} : ev L xs mdX7_guardValue 56 (Ls) (st) h = ev L xs mdX7_guardValue 60 (Ls) (st) (h) := e_goto dX7_guardValue_56 (by decide)
theorem iX7_guardValue_59  {Ls st : List Value} {h : AH} : ev L xs mdX7_guardValue 59 (Ls) (st) h = ev L xs mdX7_guardValue 60 (Ls) (.int (nI 0) :: st) (h) := e_iconst dX7_guardValue_59 (by decide)
theorem iX7_guardValue_60 {v : Int32} {Ls : List Value} {h : AH} : ev L xs mdX7_guardValue 60 Ls [.int v] h = some (.inl (some (.int v), h)) := e_iret dX7_guardValue_60 rfl
theorem iX7_guardValue_61 {x : Nat} {Ls st : List Value} {h : AH} : ev L xs mdX7_guardValue 61 (.ref x :: Ls) (st) h = ev L xs mdX7_guardValue 62 (.ref x :: Ls) (.ref x :: st) (h) := e_aload_n dX7_guardValue_61 rfl
theorem iX7_guardValue_62 {a : Nat} {Ls st : List Value} {h : AH} (hk : hK h a = 7) (hj : (hR h 113 a).isSome = true) : ev L xs mdX7_guardValue 62 (Ls) (.ref a :: st) h = ev L xs mdX7_guardValue 65 (Ls) (.ref ((hR h 113 a).getD 0) :: st) (h) := e_getR (k := 7) (f := 1) (F := 113) dX7_guardValue_62 (by decide +kernel) rfl rfl hk hj
theorem iX7_guardValue_65 {v0 : Value} {x : Int32} {Ls st : List Value} {h : AH} : ev L xs mdX7_guardValue 65 (v0 :: .int x :: Ls) (st) h = ev L xs mdX7_guardValue 66 (v0 :: .int x :: Ls) (.int x :: st) (h) := e_iload_n dX7_guardValue_65 rfl
theorem iX7_guardValue_66  {Ls st : List Value} {h : AH} : ev L xs mdX7_guardValue 66 (Ls) (st) h = ev L xs mdX7_guardValue 68 (Ls) (.int (nI 6) :: st) (h) := e_bipush dX7_guardValue_66 (by decide)
theorem iX7_guardValue_68 {p0 : Nat} {p1 : Int32} {p2 : Int32} {Ls st : List Value} {h : AH} (hw : wds st ≤ 8) : ev L xs mdX7_guardValue 68 Ls (.int p2 :: .int p1 :: .ref p0 :: st) h = kn L xs mdX7_guardValue 68 71 Ls st (ev L xs mdX7_by 0 [.ref p0, .int p1, .int p2] [] h) := e_callS (as := [.int p2, .int p1, .ref p0]) dX7_guardValue_68 mr_7_56 (by decide) (by decide) rfl (by simp [wds, Value.category]; decide) rfl hw
theorem iX7_guardValue_71 {v : Int32} {Ls : List Value} {h : AH} : ev L xs mdX7_guardValue 71 Ls [.int v] h = some (.inl (some (.int v), h)) := e_iret dX7_guardValue_71 rfl
theorem iX7_guardValue_72 {x : Nat} {Ls st : List Value} {h : AH} : ev L xs mdX7_guardValue 72 (.ref x :: Ls) (st) h = ev L xs mdX7_guardValue 73 (.ref x :: Ls) (.ref x :: st) (h) := e_aload_n dX7_guardValue_72 rfl
theorem iX7_guardValue_73 {a : Nat} {Ls st : List Value} {h : AH} (hk : hK h a = 7) (hj : (hR h 113 a).isSome = true) : ev L xs mdX7_guardValue 73 (Ls) (.ref a :: st) h = ev L xs mdX7_guardValue 76 (Ls) (.ref ((hR h 113 a).getD 0) :: st) (h) := e_getR (k := 7) (f := 1) (F := 113) dX7_guardValue_73 (by decide +kernel) rfl rfl hk hj
theorem iX7_guardValue_76 {v0 : Value} {x : Int32} {Ls st : List Value} {h : AH} : ev L xs mdX7_guardValue 76 (v0 :: .int x :: Ls) (st) h = ev L xs mdX7_guardValue 77 (v0 :: .int x :: Ls) (.int x :: st) (h) := e_iload_n dX7_guardValue_76 rfl
theorem iX7_guardValue_77 {v0 : Value} {v1 : Value} {x : Int32} {Ls st : List Value} {h : AH} : ev L xs mdX7_guardValue 77 (v0 :: v1 :: .int x :: Ls) (st) h = ev L xs mdX7_guardValue 78 (v0 :: v1 :: .int x :: Ls) (.int x :: st) (h) := e_iload_n dX7_guardValue_77 rfl
theorem iX7_guardValue_78  {Ls st : List Value} {h : AH} : ev L xs mdX7_guardValue 78 (Ls) (st) h = ev L xs mdX7_guardValue 79 (Ls) (.int (nI 1) :: st) (h) := e_iconst dX7_guardValue_78 (by decide)
theorem iX7_guardValue_79 {x z : Int32} {Ls st : List Value} {h : AH} : ev L xs mdX7_guardValue 79 (Ls) (.int z :: .int x :: st) h = ev L xs mdX7_guardValue 80 (Ls) (.int (x - z) :: st) (h) := e_isub dX7_guardValue_79
theorem iX7_guardValue_80 {p0 : Nat} {p1 : Int32} {p2 : Int32} {Ls st : List Value} {h : AH} (hw : wds st ≤ 8) : ev L xs mdX7_guardValue 80 Ls (.int p2 :: .int p1 :: .ref p0 :: st) h = kn L xs mdX7_guardValue 80 83 Ls st (ev L xs mdX7_by 0 [.ref p0, .int p1, .int p2] [] h) := e_callS (as := [.int p2, .int p1, .ref p0]) dX7_guardValue_80 mr_7_56 (by decide) (by decide) rfl (by simp [wds, Value.category]; decide) rfl hw
theorem iX7_guardValue_83 {v : Int32} {Ls : List Value} {h : AH} : ev L xs mdX7_guardValue 83 Ls [.int v] h = some (.inl (some (.int v), h)) := e_iret dX7_guardValue_83 rfl
theorem iX7_guardValue_84 {x : Nat} {Ls st : List Value} {h : AH} : ev L xs mdX7_guardValue 84 (.ref x :: Ls) (st) h = ev L xs mdX7_guardValue 85 (.ref x :: Ls) (.ref x :: st) (h) := e_aload_n dX7_guardValue_84 rfl
theorem iX7_guardValue_85 {a : Nat} {Ls st : List Value} {h : AH} (hk : hK h a = 7) (hj : (hR h 113 a).isSome = true) : ev L xs mdX7_guardValue 85 (Ls) (.ref a :: st) h = ev L xs mdX7_guardValue 88 (Ls) (.ref ((hR h 113 a).getD 0) :: st) (h) := e_getR (k := 7) (f := 1) (F := 113) dX7_guardValue_85 (by decide +kernel) rfl rfl hk hj
theorem iX7_guardValue_88 {v0 : Value} {x : Int32} {Ls st : List Value} {h : AH} : ev L xs mdX7_guardValue 88 (v0 :: .int x :: Ls) (st) h = ev L xs mdX7_guardValue 89 (v0 :: .int x :: Ls) (.int x :: st) (h) := e_iload_n dX7_guardValue_88 rfl
theorem iX7_guardValue_89  {Ls st : List Value} {h : AH} : ev L xs mdX7_guardValue 89 (Ls) (st) h = ev L xs mdX7_guardValue 90 (Ls) (.int (nI 3) :: st) (h) := e_iconst dX7_guardValue_89 (by decide)
theorem iX7_guardValue_90 {p0 : Nat} {p1 : Int32} {p2 : Int32} {Ls st : List Value} {h : AH} (hw : wds st ≤ 8) : ev L xs mdX7_guardValue 90 Ls (.int p2 :: .int p1 :: .ref p0 :: st) h = kn L xs mdX7_guardValue 90 93 Ls st (ev L xs mdX7_by 0 [.ref p0, .int p1, .int p2] [] h) := e_callS (as := [.int p2, .int p1, .ref p0]) dX7_guardValue_90 mr_7_56 (by decide) (by decide) rfl (by simp [wds, Value.category]; decide) rfl hw
theorem iX7_guardValue_93  {Ls st : List Value} {h : AH} : ev L xs mdX7_guardValue 93 (Ls) (st) h = ev L xs mdX7_guardValue 94 (Ls) (.int (nI 5) :: st) (h) := e_iconst dX7_guardValue_93 (by decide)
theorem iX7_guardValue_94 {x z : Int32} {Ls st : List Value} {h : AH} : ev L xs mdX7_guardValue 94 Ls (.int z :: .int x :: st) h = if x = z then ev L xs mdX7_guardValue 97 Ls st h else ev L xs mdX7_guardValue 101 Ls st h := e_ic_ne dX7_guardValue_94 (by decide)
theorem iX7_guardValue_97  {Ls st : List Value} {h : AH} : ev L xs mdX7_guardValue 97 (Ls) (st) h = ev L xs mdX7_guardValue 98 (Ls) (.int (-1) :: st) (h) := e_iconst dX7_guardValue_97 (by decide)
theorem iX7_guardValue_98  {Ls st : List Value} {h : AH} : ev L xs mdX7_guardValue 98 (Ls) (st) h = ev L xs mdX7_guardValue 113 (Ls) (st) (h) := e_goto dX7_guardValue_98 (by decide)
theorem iX7_guardValue_101  {Ls st : List Value} {h : AH} : ev L xs mdX7_guardValue 101 (Ls) (st) h = ev L xs mdX7_guardValue 103 (Ls) (.int (nI 20) :: st) (h) := e_bipush dX7_guardValue_101 (by decide)
theorem iX7_guardValue_103 {x : Nat} {Ls st : List Value} {h : AH} : ev L xs mdX7_guardValue 103 (.ref x :: Ls) (st) h = ev L xs mdX7_guardValue 104 (.ref x :: Ls) (.ref x :: st) (h) := e_aload_n dX7_guardValue_103 rfl
theorem iX7_guardValue_104 {a : Nat} {Ls st : List Value} {h : AH} (hk : hK h a = 7) (hj : (hR h 113 a).isSome = true) : ev L xs mdX7_guardValue 104 (Ls) (.ref a :: st) h = ev L xs mdX7_guardValue 107 (Ls) (.ref ((hR h 113 a).getD 0) :: st) (h) := e_getR (k := 7) (f := 1) (F := 113) dX7_guardValue_104 (by decide +kernel) rfl rfl hk hj
theorem iX7_guardValue_107 {v0 : Value} {x : Int32} {Ls st : List Value} {h : AH} : ev L xs mdX7_guardValue 107 (v0 :: .int x :: Ls) (st) h = ev L xs mdX7_guardValue 108 (v0 :: .int x :: Ls) (.int x :: st) (h) := e_iload_n dX7_guardValue_107 rfl
theorem iX7_guardValue_108  {Ls st : List Value} {h : AH} : ev L xs mdX7_guardValue 108 (Ls) (st) h = ev L xs mdX7_guardValue 109 (Ls) (.int (nI 4) :: st) (h) := e_iconst dX7_guardValue_108 (by decide)
theorem iX7_guardValue_109 {p0 : Nat} {p1 : Int32} {p2 : Int32} {Ls st : List Value} {h : AH} (hw : wds st ≤ 8) : ev L xs mdX7_guardValue 109 Ls (.int p2 :: .int p1 :: .ref p0 :: st) h = kn L xs mdX7_guardValue 109 112 Ls st (ev L xs mdX7_by 0 [.ref p0, .int p1, .int p2] [] h) := e_callS (as := [.int p2, .int p1, .ref p0]) dX7_guardValue_109 mr_7_56 (by decide) (by decide) rfl (by simp [wds, Value.category]; decide) rfl hw
theorem iX7_guardValue_112 {x z : Int32} {Ls st : List Value} {h : AH} : ev L xs mdX7_guardValue 112 (Ls) (.int z :: .int x :: st) h = ev L xs mdX7_guardValue 113 (Ls) (.int (x - z) :: st) (h) := e_isub dX7_guardValue_112
theorem iX7_guardValue_113 {v : Int32} {Ls : List Value} {h : AH} : ev L xs mdX7_guardValue 113 Ls [.int v] h = some (.inl (some (.int v), h)) := e_iret dX7_guardValue_113 rfl
theorem iX7_guardValue_114 {x : Nat} {Ls st : List Value} {h : AH} : ev L xs mdX7_guardValue 114 (.ref x :: Ls) (st) h = ev L xs mdX7_guardValue 115 (.ref x :: Ls) (.ref x :: st) (h) := e_aload_n dX7_guardValue_114 rfl
theorem iX7_guardValue_115 {a : Nat} {Ls st : List Value} {h : AH} (hk : hK h a = 7) (hj : (hR h 113 a).isSome = true) : ev L xs mdX7_guardValue 115 (Ls) (.ref a :: st) h = ev L xs mdX7_guardValue 118 (Ls) (.ref ((hR h 113 a).getD 0) :: st) (h) := e_getR (k := 7) (f := 1) (F := 113) dX7_guardValue_115 (by decide +kernel) rfl rfl hk hj
theorem iX7_guardValue_118 {v0 : Value} {x : Int32} {Ls st : List Value} {h : AH} : ev L xs mdX7_guardValue 118 (v0 :: .int x :: Ls) (st) h = ev L xs mdX7_guardValue 119 (v0 :: .int x :: Ls) (.int x :: st) (h) := e_iload_n dX7_guardValue_118 rfl
theorem iX7_guardValue_119 {v0 : Value} {v1 : Value} {x : Int32} {Ls st : List Value} {h : AH} : ev L xs mdX7_guardValue 119 (v0 :: v1 :: .int x :: Ls) (st) h = ev L xs mdX7_guardValue 120 (v0 :: v1 :: .int x :: Ls) (.int x :: st) (h) := e_iload_n dX7_guardValue_119 rfl
theorem iX7_guardValue_120 {p0 : Nat} {p1 : Int32} {p2 : Int32} {Ls st : List Value} {h : AH} (hw : wds st ≤ 8) : ev L xs mdX7_guardValue 120 Ls (.int p2 :: .int p1 :: .ref p0 :: st) h = kn L xs mdX7_guardValue 120 123 Ls st (ev L xs mdX7_by 0 [.ref p0, .int p1, .int p2] [] h) := e_callS (as := [.int p2, .int p1, .ref p0]) dX7_guardValue_120 mr_7_56 (by decide) (by decide) rfl (by simp [wds, Value.category]; decide) rfl hw
theorem iX7_guardValue_123 {v : Int32} {Ls : List Value} {h : AH} : ev L xs mdX7_guardValue 123 Ls [.int v] h = some (.inl (some (.int v), h)) := e_iret dX7_guardValue_123 rfl
theorem dX7_here_0 : decode cX7_here 0 = .ok (.aload_n 0, 1) := by decide +kernel
theorem dX7_here_1 : decode cX7_here 1 = .ok (.getfield 168, 3) := by decide +kernel
theorem dX7_here_4 : decode cX7_here 4 = .ok (.aload_n 0, 1) := by decide +kernel
theorem dX7_here_5 : decode cX7_here 5 = .ok (.getfield 165, 3) := by decide +kernel
theorem dX7_here_8 : decode cX7_here 8 = .ok (.if_icmp .ge 15, 3) := by decide +kernel
theorem dX7_here_11 : decode cX7_here 11 = .ok (.aload_n 0, 1) := by decide +kernel
theorem dX7_here_12 : decode cX7_here 12 = .ok (.getfield 19, 3) := by decide +kernel
theorem dX7_here_15 : decode cX7_here 15 = .ok (.aload_n 0, 1) := by decide +kernel
theorem dX7_here_16 : decode cX7_here 16 = .ok (.getfield 168, 3) := by decide +kernel
theorem dX7_here_19 : decode cX7_here 19 = .ok (.iaload, 1) := by decide +kernel
theorem dX7_here_20 : decode cX7_here 20 = .ok (.goto 4, 3) := by decide +kernel
theorem dX7_here_23 : decode cX7_here 23 = .ok (.iconst (-1), 1) := by decide +kernel
theorem dX7_here_24 : decode cX7_here 24 = .ok (.ireturn, 1) := by decide +kernel
theorem iX7_here_0 {x : Nat} {Ls st : List Value} {h : AH} : ev L xs mdX7_here 0 (.ref x :: Ls) (st) h = ev L xs mdX7_here 1 (.ref x :: Ls) (.ref x :: st) (h) := e_aload_n dX7_here_0 rfl
theorem iX7_here_1 {a : Nat} {Ls st : List Value} {h : AH} (hk : hK h a = 7) : ev L xs mdX7_here 1 (Ls) (.ref a :: st) h = ev L xs mdX7_here 4 (Ls) (.int (hI h 124 a) :: st) (h) := e_getI (k := 7) (f := 12) (F := 124) dX7_here_1 (by decide +kernel) rfl rfl hk
theorem iX7_here_4 {x : Nat} {Ls st : List Value} {h : AH} : ev L xs mdX7_here 4 (.ref x :: Ls) (st) h = ev L xs mdX7_here 5 (.ref x :: Ls) (.ref x :: st) (h) := e_aload_n dX7_here_4 rfl
theorem iX7_here_5 {a : Nat} {Ls st : List Value} {h : AH} (hk : hK h a = 7) : ev L xs mdX7_here 5 (Ls) (.ref a :: st) h = ev L xs mdX7_here 8 (Ls) (.int (hI h 118 a) :: st) (h) := e_getI (k := 7) (f := 6) (F := 118) dX7_here_5 (by decide +kernel) rfl rfl hk
theorem iX7_here_8 {x z : Int32} {Ls st : List Value} {h : AH} : ev L xs mdX7_here 8 Ls (.int z :: .int x :: st) h = if z ≤ x then ev L xs mdX7_here 23 Ls st h else ev L xs mdX7_here 11 Ls st h := e_ic_ge dX7_here_8 (by decide)
theorem iX7_here_11 {x : Nat} {Ls st : List Value} {h : AH} : ev L xs mdX7_here 11 (.ref x :: Ls) (st) h = ev L xs mdX7_here 12 (.ref x :: Ls) (.ref x :: st) (h) := e_aload_n dX7_here_11 rfl
theorem iX7_here_12 {a : Nat} {Ls st : List Value} {h : AH} (hk : hK h a = 7) (hj : (hR h 117 a).isSome = true) : ev L xs mdX7_here 12 (Ls) (.ref a :: st) h = ev L xs mdX7_here 15 (Ls) (.ref ((hR h 117 a).getD 0) :: st) (h) := e_getR (k := 7) (f := 5) (F := 117) dX7_here_12 (by decide +kernel) rfl rfl hk hj
theorem iX7_here_15 {x : Nat} {Ls st : List Value} {h : AH} : ev L xs mdX7_here 15 (.ref x :: Ls) (st) h = ev L xs mdX7_here 16 (.ref x :: Ls) (.ref x :: st) (h) := e_aload_n dX7_here_15 rfl
theorem iX7_here_16 {a : Nat} {Ls st : List Value} {h : AH} (hk : hK h a = 7) : ev L xs mdX7_here 16 (Ls) (.ref a :: st) h = ev L xs mdX7_here 19 (Ls) (.int (hI h 124 a) :: st) (h) := e_getI (k := 7) (f := 12) (F := 124) dX7_here_16 (by decide +kernel) rfl rfl hk
theorem iX7_here_19 {a : Nat} {j : Int32} {Ls st : List Value} {h : AH} (hk : hK h a = 8) (hi : inA j (hN h a) = true) : ev L xs mdX7_here 19 (Ls) (.int j :: .ref a :: st) h = ev L xs mdX7_here 20 (Ls) (.int (hA h a j.toNatClampNeg) :: st) (h) := e_iald dX7_here_19 hk hi
theorem iX7_here_20  {Ls st : List Value} {h : AH} : ev L xs mdX7_here 20 (Ls) (st) h = ev L xs mdX7_here 24 (Ls) (st) (h) := e_goto dX7_here_20 (by decide)
theorem iX7_here_23  {Ls st : List Value} {h : AH} : ev L xs mdX7_here 23 (Ls) (st) h = ev L xs mdX7_here 24 (Ls) (.int (-1) :: st) (h) := e_iconst dX7_here_23 (by decide)
theorem iX7_here_24 {v : Int32} {Ls : List Value} {h : AH} : ev L xs mdX7_here 24 Ls [.int v] h = some (.inl (some (.int v), h)) := e_iret dX7_here_24 rfl
theorem dX7_holiday_0 : decode cX7_holiday 0 = .ok (.aload_n 0, 1) := by decide +kernel
theorem dX7_holiday_1 : decode cX7_holiday 1 = .ok (.iload_n 1, 1) := by decide +kernel
theorem dX7_holiday_2 : decode cX7_holiday 2 = .ok (.iconst 0, 1) := by decide +kernel
theorem dX7_holiday_3 : decode cX7_holiday 3 = .ok (.aload_n 0, 1) := by decide +kernel
theorem dX7_holiday_4 : decode cX7_holiday 4 = .ok (.getfield 7, 3) := by decide +kernel
theorem dX7_holiday_7 : decode cX7_holiday 7 = .ok (.iconst 2, 1) := by decide +kernel
theorem dX7_holiday_8 : decode cX7_holiday 8 = .ok (.iaload, 1) := by decide +kernel
theorem dX7_holiday_9 : decode cX7_holiday 9 = .ok (.iconst 1, 1) := by decide +kernel
theorem dX7_holiday_10 : decode cX7_holiday 10 = .ok (.isub, 1) := by decide +kernel
theorem dX7_holiday_11 : decode cX7_holiday 11 = .ok (.invokestatic 44, 3) := by decide +kernel
theorem dX7_holiday_14 : decode cX7_holiday 14 = .ok (.ifCond .eq 7, 3) := by decide +kernel
theorem dX7_holiday_17 : decode cX7_holiday 17 = .ok (.iconst 0, 1) := by decide +kernel
theorem dX7_holiday_18 : decode cX7_holiday 18 = .ok (.goto 4, 3) := by decide +kernel
theorem dX7_holiday_21 : decode cX7_holiday 21 = .ok (.iconst 1, 1) := by decide +kernel
theorem dX7_holiday_22 : decode cX7_holiday 22 = .ok (.putfield 34, 3) := by decide +kernel
theorem dX7_holiday_25 : decode cX7_holiday 25 = .ok (.aload_n 0, 1) := by decide +kernel
theorem dX7_holiday_26 : decode cX7_holiday 26 = .ok (.getfield 34, 3) := by decide +kernel
theorem dX7_holiday_29 : decode cX7_holiday 29 = .ok (.ifCond .le 7, 3) := by decide +kernel
theorem dX7_holiday_32 : decode cX7_holiday 32 = .ok (.iconst 0, 1) := by decide +kernel
theorem dX7_holiday_33 : decode cX7_holiday 33 = .ok (.goto 24, 3) := by decide +kernel
theorem dX7_holiday_36 : decode cX7_holiday 36 = .ok (.aload_n 0, 1) := by decide +kernel
theorem dX7_holiday_37 : decode cX7_holiday 37 = .ok (.getfield 7, 3) := by decide +kernel
theorem dX7_holiday_40 : decode cX7_holiday 40 = .ok (.bipush 9, 2) := by decide +kernel
theorem dX7_holiday_42 : decode cX7_holiday 42 = .ok (.iconst 2, 1) := by decide +kernel
theorem dX7_holiday_43 : decode cX7_holiday 43 = .ok (.iload_n 1, 1) := by decide +kernel
theorem dX7_holiday_44 : decode cX7_holiday 44 = .ok (.imul, 1) := by decide +kernel
theorem dX7_holiday_45 : decode cX7_holiday 45 = .ok (.iadd, 1) := by decide +kernel
theorem dX7_holiday_46 : decode cX7_holiday 46 = .ok (.iload_n 2, 1) := by decide +kernel
theorem dX7_holiday_47 : decode cX7_holiday 47 = .ok (.ifCond .eq 7, 3) := by decide +kernel
theorem dX7_holiday_50 : decode cX7_holiday 50 = .ok (.iconst 1, 1) := by decide +kernel
theorem dX7_holiday_51 : decode cX7_holiday 51 = .ok (.goto 4, 3) := by decide +kernel
theorem dX7_holiday_54 : decode cX7_holiday 54 = .ok (.iconst 0, 1) := by decide +kernel
theorem dX7_holiday_55 : decode cX7_holiday 55 = .ok (.iadd, 1) := by decide +kernel
theorem dX7_holiday_56 : decode cX7_holiday 56 = .ok (.iaload, 1) := by decide +kernel
theorem dX7_holiday_57 : decode cX7_holiday 57 = .ok (.ireturn, 1) := by decide +kernel
theorem iX7_holiday_0 {x : Nat} {Ls st : List Value} {h : AH} : ev L xs mdX7_holiday 0 (.ref x :: Ls) (st) h = ev L xs mdX7_holiday 1 (.ref x :: Ls) (.ref x :: st) (h) := e_aload_n dX7_holiday_0 rfl
theorem iX7_holiday_1 {v0 : Value} {x : Int32} {Ls st : List Value} {h : AH} : ev L xs mdX7_holiday 1 (v0 :: .int x :: Ls) (st) h = ev L xs mdX7_holiday 2 (v0 :: .int x :: Ls) (.int x :: st) (h) := e_iload_n dX7_holiday_1 rfl
theorem iX7_holiday_2  {Ls st : List Value} {h : AH} : ev L xs mdX7_holiday 2 (Ls) (st) h = ev L xs mdX7_holiday 3 (Ls) (.int (nI 0) :: st) (h) := e_iconst dX7_holiday_2 (by decide)
theorem iX7_holiday_3 {x : Nat} {Ls st : List Value} {h : AH} : ev L xs mdX7_holiday 3 (.ref x :: Ls) (st) h = ev L xs mdX7_holiday 4 (.ref x :: Ls) (.ref x :: st) (h) := e_aload_n dX7_holiday_3 rfl
theorem iX7_holiday_4 {a : Nat} {Ls st : List Value} {h : AH} (hk : hK h a = 7) (hj : (hR h 113 a).isSome = true) : ev L xs mdX7_holiday 4 (Ls) (.ref a :: st) h = ev L xs mdX7_holiday 7 (Ls) (.ref ((hR h 113 a).getD 0) :: st) (h) := e_getR (k := 7) (f := 1) (F := 113) dX7_holiday_4 (by decide +kernel) rfl rfl hk hj
theorem iX7_holiday_7  {Ls st : List Value} {h : AH} : ev L xs mdX7_holiday 7 (Ls) (st) h = ev L xs mdX7_holiday 8 (Ls) (.int (nI 2) :: st) (h) := e_iconst dX7_holiday_7 (by decide)
theorem iX7_holiday_8 {a : Nat} {j : Int32} {Ls st : List Value} {h : AH} (hk : hK h a = 8) (hi : inA j (hN h a) = true) : ev L xs mdX7_holiday 8 (Ls) (.int j :: .ref a :: st) h = ev L xs mdX7_holiday 9 (Ls) (.int (hA h a j.toNatClampNeg) :: st) (h) := e_iald dX7_holiday_8 hk hi
theorem iX7_holiday_9  {Ls st : List Value} {h : AH} : ev L xs mdX7_holiday 9 (Ls) (st) h = ev L xs mdX7_holiday 10 (Ls) (.int (nI 1) :: st) (h) := e_iconst dX7_holiday_9 (by decide)
theorem iX7_holiday_10 {x z : Int32} {Ls st : List Value} {h : AH} : ev L xs mdX7_holiday 10 (Ls) (.int z :: .int x :: st) h = ev L xs mdX7_holiday 11 (Ls) (.int (x - z) :: st) (h) := e_isub dX7_holiday_10
theorem iX7_holiday_11 {p0 : Int32} {p1 : Int32} {p2 : Int32} {Ls st : List Value} {h : AH} (hw : wds st ≤ 8) : ev L xs mdX7_holiday 11 Ls (.int p2 :: .int p1 :: .int p0 :: st) h = kn L xs mdX7_holiday 11 14 Ls st (ev L xs mdX7_in 0 [.int p0, .int p1, .int p2] [] h) := e_callS (as := [.int p2, .int p1, .int p0]) dX7_holiday_11 mr_7_44 (by decide) (by decide) rfl (by simp [wds, Value.category]; decide) rfl hw
theorem iX7_holiday_14 {x : Int32} {Ls st : List Value} {h : AH} : ev L xs mdX7_holiday 14 Ls (.int x :: st) h = if x = nI 0 then ev L xs mdX7_holiday 21 Ls st h else ev L xs mdX7_holiday 17 Ls st h := e_if_eq dX7_holiday_14 (by decide)
theorem iX7_holiday_17  {Ls st : List Value} {h : AH} : ev L xs mdX7_holiday 17 (Ls) (st) h = ev L xs mdX7_holiday 18 (Ls) (.int (nI 0) :: st) (h) := e_iconst dX7_holiday_17 (by decide)
theorem iX7_holiday_18  {Ls st : List Value} {h : AH} : ev L xs mdX7_holiday 18 (Ls) (st) h = ev L xs mdX7_holiday 22 (Ls) (st) (h) := e_goto dX7_holiday_18 (by decide)
theorem iX7_holiday_21  {Ls st : List Value} {h : AH} : ev L xs mdX7_holiday 21 (Ls) (st) h = ev L xs mdX7_holiday 22 (Ls) (.int (nI 1) :: st) (h) := e_iconst dX7_holiday_21 (by decide)
theorem iX7_holiday_22 {a : Nat} {v : Int32} {Ls st : List Value} {h : AH} (hk : hK h a = 7) : ev L xs mdX7_holiday 22 (Ls) (.int v :: .ref a :: st) h = ev L xs mdX7_holiday 25 (Ls) (st) (sI h 112 a v) := e_putI (k := 7) (f := 0) (F := 112) dX7_holiday_22 (by decide +kernel) rfl (by decide +kernel) rfl hk
theorem iX7_holiday_25 {x : Nat} {Ls st : List Value} {h : AH} : ev L xs mdX7_holiday 25 (.ref x :: Ls) (st) h = ev L xs mdX7_holiday 26 (.ref x :: Ls) (.ref x :: st) (h) := e_aload_n dX7_holiday_25 rfl
theorem iX7_holiday_26 {a : Nat} {Ls st : List Value} {h : AH} (hk : hK h a = 7) : ev L xs mdX7_holiday 26 (Ls) (.ref a :: st) h = ev L xs mdX7_holiday 29 (Ls) (.int (hI h 112 a) :: st) (h) := e_getI (k := 7) (f := 0) (F := 112) dX7_holiday_26 (by decide +kernel) rfl rfl hk
theorem iX7_holiday_29 {x : Int32} {Ls st : List Value} {h : AH} : ev L xs mdX7_holiday 29 Ls (.int x :: st) h = if x ≤ nI 0 then ev L xs mdX7_holiday 36 Ls st h else ev L xs mdX7_holiday 32 Ls st h := e_if_le dX7_holiday_29 (by decide)
theorem iX7_holiday_32  {Ls st : List Value} {h : AH} : ev L xs mdX7_holiday 32 (Ls) (st) h = ev L xs mdX7_holiday 33 (Ls) (.int (nI 0) :: st) (h) := e_iconst dX7_holiday_32 (by decide)
theorem iX7_holiday_33  {Ls st : List Value} {h : AH} : ev L xs mdX7_holiday 33 (Ls) (st) h = ev L xs mdX7_holiday 57 (Ls) (st) (h) := e_goto dX7_holiday_33 (by decide)
theorem iX7_holiday_36 {x : Nat} {Ls st : List Value} {h : AH} : ev L xs mdX7_holiday 36 (.ref x :: Ls) (st) h = ev L xs mdX7_holiday 37 (.ref x :: Ls) (.ref x :: st) (h) := e_aload_n dX7_holiday_36 rfl
theorem iX7_holiday_37 {a : Nat} {Ls st : List Value} {h : AH} (hk : hK h a = 7) (hj : (hR h 113 a).isSome = true) : ev L xs mdX7_holiday 37 (Ls) (.ref a :: st) h = ev L xs mdX7_holiday 40 (Ls) (.ref ((hR h 113 a).getD 0) :: st) (h) := e_getR (k := 7) (f := 1) (F := 113) dX7_holiday_37 (by decide +kernel) rfl rfl hk hj
theorem iX7_holiday_40  {Ls st : List Value} {h : AH} : ev L xs mdX7_holiday 40 (Ls) (st) h = ev L xs mdX7_holiday 42 (Ls) (.int (nI 9) :: st) (h) := e_bipush dX7_holiday_40 (by decide)
theorem iX7_holiday_42  {Ls st : List Value} {h : AH} : ev L xs mdX7_holiday 42 (Ls) (st) h = ev L xs mdX7_holiday 43 (Ls) (.int (nI 2) :: st) (h) := e_iconst dX7_holiday_42 (by decide)
theorem iX7_holiday_43 {v0 : Value} {x : Int32} {Ls st : List Value} {h : AH} : ev L xs mdX7_holiday 43 (v0 :: .int x :: Ls) (st) h = ev L xs mdX7_holiday 44 (v0 :: .int x :: Ls) (.int x :: st) (h) := e_iload_n dX7_holiday_43 rfl
theorem iX7_holiday_44 {x z : Int32} {Ls st : List Value} {h : AH} : ev L xs mdX7_holiday 44 (Ls) (.int z :: .int x :: st) h = ev L xs mdX7_holiday 45 (Ls) (.int (x * z) :: st) (h) := e_imul dX7_holiday_44
theorem iX7_holiday_45 {x z : Int32} {Ls st : List Value} {h : AH} : ev L xs mdX7_holiday 45 (Ls) (.int z :: .int x :: st) h = ev L xs mdX7_holiday 46 (Ls) (.int (x + z) :: st) (h) := e_iadd dX7_holiday_45
theorem iX7_holiday_46 {v0 : Value} {v1 : Value} {x : Int32} {Ls st : List Value} {h : AH} : ev L xs mdX7_holiday 46 (v0 :: v1 :: .int x :: Ls) (st) h = ev L xs mdX7_holiday 47 (v0 :: v1 :: .int x :: Ls) (.int x :: st) (h) := e_iload_n dX7_holiday_46 rfl
theorem iX7_holiday_47 {x : Int32} {Ls st : List Value} {h : AH} : ev L xs mdX7_holiday 47 Ls (.int x :: st) h = if x = nI 0 then ev L xs mdX7_holiday 54 Ls st h else ev L xs mdX7_holiday 50 Ls st h := e_if_eq dX7_holiday_47 (by decide)
theorem iX7_holiday_50  {Ls st : List Value} {h : AH} : ev L xs mdX7_holiday 50 (Ls) (st) h = ev L xs mdX7_holiday 51 (Ls) (.int (nI 1) :: st) (h) := e_iconst dX7_holiday_50 (by decide)
theorem iX7_holiday_51  {Ls st : List Value} {h : AH} : ev L xs mdX7_holiday 51 (Ls) (st) h = ev L xs mdX7_holiday 55 (Ls) (st) (h) := e_goto dX7_holiday_51 (by decide)
theorem iX7_holiday_54  {Ls st : List Value} {h : AH} : ev L xs mdX7_holiday 54 (Ls) (st) h = ev L xs mdX7_holiday 55 (Ls) (.int (nI 0) :: st) (h) := e_iconst dX7_holiday_54 (by decide)
theorem iX7_holiday_55 {x z : Int32} {Ls st : List Value} {h : AH} : ev L xs mdX7_holiday 55 (Ls) (.int z :: .int x :: st) h = ev L xs mdX7_holiday 56 (Ls) (.int (x + z) :: st) (h) := e_iadd dX7_holiday_55
theorem iX7_holiday_56 {a : Nat} {j : Int32} {Ls st : List Value} {h : AH} (hk : hK h a = 8) (hi : inA j (hN h a) = true) : ev L xs mdX7_holiday 56 (Ls) (.int j :: .ref a :: st) h = ev L xs mdX7_holiday 57 (Ls) (.int (hA h a j.toNatClampNeg) :: st) (h) := e_iald dX7_holiday_56 hk hi
theorem iX7_holiday_57 {v : Int32} {Ls : List Value} {h : AH} : ev L xs mdX7_holiday 57 Ls [.int v] h = some (.inl (some (.int v), h)) := e_iret dX7_holiday_57 rfl
theorem dX7_in_0 : decode cX7_in 0 = .ok (.iload_n 0, 1) := by decide +kernel
theorem dX7_in_1 : decode cX7_in 1 = .ok (.iload_n 1, 1) := by decide +kernel
theorem dX7_in_2 : decode cX7_in 2 = .ok (.if_icmp .lt 12, 3) := by decide +kernel
theorem dX7_in_5 : decode cX7_in 5 = .ok (.iload_n 0, 1) := by decide +kernel
theorem dX7_in_6 : decode cX7_in 6 = .ok (.iload_n 2, 1) := by decide +kernel
theorem dX7_in_7 : decode cX7_in 7 = .ok (.if_icmp .gt 7, 3) := by decide +kernel
theorem dX7_in_10 : decode cX7_in 10 = .ok (.iconst 1, 1) := by decide +kernel
theorem dX7_in_11 : decode cX7_in 11 = .ok (.goto 4, 3) := by decide +kernel
theorem dX7_in_14 : decode cX7_in 14 = .ok (.iconst 0, 1) := by decide +kernel
theorem dX7_in_15 : decode cX7_in 15 = .ok (.ireturn, 1) := by decide +kernel
theorem iX7_in_0 {x : Int32} {Ls st : List Value} {h : AH} : ev L xs mdX7_in 0 (.int x :: Ls) (st) h = ev L xs mdX7_in 1 (.int x :: Ls) (.int x :: st) (h) := e_iload_n dX7_in_0 rfl
theorem iX7_in_1 {v0 : Value} {x : Int32} {Ls st : List Value} {h : AH} : ev L xs mdX7_in 1 (v0 :: .int x :: Ls) (st) h = ev L xs mdX7_in 2 (v0 :: .int x :: Ls) (.int x :: st) (h) := e_iload_n dX7_in_1 rfl
theorem iX7_in_2 {x z : Int32} {Ls st : List Value} {h : AH} : ev L xs mdX7_in 2 Ls (.int z :: .int x :: st) h = if x < z then ev L xs mdX7_in 14 Ls st h else ev L xs mdX7_in 5 Ls st h := e_ic_lt dX7_in_2 (by decide)
theorem iX7_in_5 {x : Int32} {Ls st : List Value} {h : AH} : ev L xs mdX7_in 5 (.int x :: Ls) (st) h = ev L xs mdX7_in 6 (.int x :: Ls) (.int x :: st) (h) := e_iload_n dX7_in_5 rfl
theorem iX7_in_6 {v0 : Value} {v1 : Value} {x : Int32} {Ls st : List Value} {h : AH} : ev L xs mdX7_in 6 (v0 :: v1 :: .int x :: Ls) (st) h = ev L xs mdX7_in 7 (v0 :: v1 :: .int x :: Ls) (.int x :: st) (h) := e_iload_n dX7_in_6 rfl
theorem iX7_in_7 {x z : Int32} {Ls st : List Value} {h : AH} : ev L xs mdX7_in 7 Ls (.int z :: .int x :: st) h = if z < x then ev L xs mdX7_in 14 Ls st h else ev L xs mdX7_in 10 Ls st h := e_ic_gt dX7_in_7 (by decide)
theorem iX7_in_10  {Ls st : List Value} {h : AH} : ev L xs mdX7_in 10 (Ls) (st) h = ev L xs mdX7_in 11 (Ls) (.int (nI 1) :: st) (h) := e_iconst dX7_in_10 (by decide)
theorem iX7_in_11  {Ls st : List Value} {h : AH} : ev L xs mdX7_in 11 (Ls) (st) h = ev L xs mdX7_in 15 (Ls) (st) (h) := e_goto dX7_in_11 (by decide)
theorem iX7_in_14  {Ls st : List Value} {h : AH} : ev L xs mdX7_in 14 (Ls) (st) h = ev L xs mdX7_in 15 (Ls) (.int (nI 0) :: st) (h) := e_iconst dX7_in_14 (by decide)
theorem iX7_in_15 {v : Int32} {Ls : List Value} {h : AH} (hv : v = nI 0 ∨ v = nI 1) : ev L xs mdX7_in 15 Ls [.int v] h = some (.inl (some (.int v), h)) := e_zret dX7_in_15 rfl hv
theorem dX7_init_0 : decode cX7_init 0 = .ok (.aload_n 0, 1) := by decide +kernel
theorem dX7_init_1 : decode cX7_init 1 = .ok (.invokespecial 1, 3) := by decide +kernel
theorem dX7_init_4 : decode cX7_init 4 = .ok (.aload_n 0, 1) := by decide +kernel
theorem dX7_init_5 : decode cX7_init 5 = .ok (.sipush 183, 3) := by decide +kernel
theorem dX7_init_8 : decode cX7_init 8 = .ok (.newarray .int, 2) := by decide +kernel
theorem dX7_init_10 : decode cX7_init 10 = .ok (.putfield 7, 3) := by decide +kernel
theorem dX7_init_13 : decode cX7_init 13 = .ok (.aload_n 0, 1) := by decide +kernel
theorem dX7_init_14 : decode cX7_init 14 = .ok (.sipush 183, 3) := by decide +kernel
theorem dX7_init_17 : decode cX7_init 17 = .ok (.newarray .int, 2) := by decide +kernel
theorem dX7_init_19 : decode cX7_init 19 = .ok (.putfield 13, 3) := by decide +kernel
theorem dX7_init_22 : decode cX7_init 22 = .ok (.aload_n 0, 1) := by decide +kernel
theorem dX7_init_23 : decode cX7_init 23 = .ok (.sipush 732, 3) := by decide +kernel
theorem dX7_init_26 : decode cX7_init 26 = .ok (.newarray .int, 2) := by decide +kernel
theorem dX7_init_28 : decode cX7_init 28 = .ok (.putfield 16, 3) := by decide +kernel
theorem dX7_init_31 : decode cX7_init 31 = .ok (.aload_n 0, 1) := by decide +kernel
theorem dX7_init_32 : decode cX7_init 32 = .ok (.bipush 90, 2) := by decide +kernel
theorem dX7_init_34 : decode cX7_init 34 = .ok (.newarray .int, 2) := by decide +kernel
theorem dX7_init_36 : decode cX7_init 36 = .ok (.putfield 19, 3) := by decide +kernel
theorem dX7_init_39 : decode cX7_init 39 = .ok (.aload_n 0, 1) := by decide +kernel
theorem dX7_init_40 : decode cX7_init 40 = .ok (.bipush 8, 2) := by decide +kernel
theorem dX7_init_42 : decode cX7_init 42 = .ok (.newarray .int, 2) := by decide +kernel
theorem dX7_init_44 : decode cX7_init 44 = .ok (.putfield 22, 3) := by decide +kernel
theorem dX7_init_47 : decode cX7_init 47 = .ok (.aload_n 0, 1) := by decide +kernel
theorem dX7_init_48 : decode cX7_init 48 = .ok (.bipush 8, 2) := by decide +kernel
theorem dX7_init_50 : decode cX7_init 50 = .ok (.newarray .int, 2) := by decide +kernel
theorem dX7_init_52 : decode cX7_init 52 = .ok (.putfield 25, 3) := by decide +kernel
theorem dX7_init_55 : decode cX7_init 55 = .ok (.aload_n 0, 1) := by decide +kernel
theorem dX7_init_56 : decode cX7_init 56 = .ok (.bipush 10, 2) := by decide +kernel
theorem dX7_init_58 : decode cX7_init 58 = .ok (.newarray .int, 2) := by decide +kernel
theorem dX7_init_60 : decode cX7_init 60 = .ok (.putfield 28, 3) := by decide +kernel
theorem dX7_init_63 : decode cX7_init 63 = .ok (.aload_n 0, 1) := by decide +kernel
theorem dX7_init_64 : decode cX7_init 64 = .ok (.sipush 256, 3) := by decide +kernel
theorem dX7_init_67 : decode cX7_init 67 = .ok (.newarray .int, 2) := by decide +kernel
theorem dX7_init_69 : decode cX7_init 69 = .ok (.putfield 31, 3) := by decide +kernel
theorem dX7_init_72 : decode cX7_init 72 = .ok (.aload_n 0, 1) := by decide +kernel
theorem dX7_init_73 : decode cX7_init 73 = .ok (.iconst 0, 1) := by decide +kernel
theorem dX7_init_74 : decode cX7_init 74 = .ok (.putfield 34, 3) := by decide +kernel
theorem dX7_init_77 : decode cX7_init 77 = .ok (.aload_n 0, 1) := by decide +kernel
theorem dX7_init_78 : decode cX7_init 78 = .ok (.iconst (-1), 1) := by decide +kernel
theorem dX7_init_79 : decode cX7_init 79 = .ok (.putfield 38, 3) := by decide +kernel
theorem dX7_init_82 : decode cX7_init 82 = .ok (.return_, 1) := by decide +kernel
theorem iX7_init_0 {x : Nat} {Ls st : List Value} {h : AH} : ev L xs mdX7_init 0 (.ref x :: Ls) (st) h = ev L xs mdX7_init 1 (.ref x :: Ls) (.ref x :: st) (h) := e_aload_n dX7_init_0 rfl
theorem iX7_init_1 {a : Nat} {Ls st : List Value} {h : AH} (hw : wds st ≤ 8) : ev L xs mdX7_init 1 (Ls) (.ref a :: st) h = ev L xs mdX7_init 4 (Ls) (st) (h) := e_obj dX7_init_1 mr_7_1 (by decide) hw
theorem iX7_init_4 {x : Nat} {Ls st : List Value} {h : AH} : ev L xs mdX7_init 4 (.ref x :: Ls) (st) h = ev L xs mdX7_init 5 (.ref x :: Ls) (.ref x :: st) (h) := e_aload_n dX7_init_4 rfl
theorem iX7_init_5  {Ls st : List Value} {h : AH} : ev L xs mdX7_init 5 (Ls) (st) h = ev L xs mdX7_init 8 (Ls) (.int (nI 183) :: st) (h) := e_sipush dX7_init_5 (by decide)
theorem iX7_init_8 {c : Int32} {Ls st : List Value} {h : AH} (h0 : 0 ≤ c) (h1 : c ≤ 10000) : ev L xs mdX7_init 8 (Ls) (.int c :: st) h = ev L xs mdX7_init 10 (Ls) (.ref (hn h) :: st) (nw h 8 c.toNatClampNeg c.toNatClampNeg) := e_newI dX7_init_8 h0 h1
theorem iX7_init_10 {a v : Nat} {Ls st : List Value} {h : AH} (hk : hK h a = 7) : ev L xs mdX7_init 10 (Ls) (.ref v :: .ref a :: st) h = ev L xs mdX7_init 13 (Ls) (st) (sR h 113 a v) := e_putR (k := 7) (f := 1) (F := 113) dX7_init_10 (by decide +kernel) rfl (by decide +kernel) rfl hk
theorem iX7_init_13 {x : Nat} {Ls st : List Value} {h : AH} : ev L xs mdX7_init 13 (.ref x :: Ls) (st) h = ev L xs mdX7_init 14 (.ref x :: Ls) (.ref x :: st) (h) := e_aload_n dX7_init_13 rfl
theorem iX7_init_14  {Ls st : List Value} {h : AH} : ev L xs mdX7_init 14 (Ls) (st) h = ev L xs mdX7_init 17 (Ls) (.int (nI 183) :: st) (h) := e_sipush dX7_init_14 (by decide)
theorem iX7_init_17 {c : Int32} {Ls st : List Value} {h : AH} (h0 : 0 ≤ c) (h1 : c ≤ 10000) : ev L xs mdX7_init 17 (Ls) (.int c :: st) h = ev L xs mdX7_init 19 (Ls) (.ref (hn h) :: st) (nw h 8 c.toNatClampNeg c.toNatClampNeg) := e_newI dX7_init_17 h0 h1
theorem iX7_init_19 {a v : Nat} {Ls st : List Value} {h : AH} (hk : hK h a = 7) : ev L xs mdX7_init 19 (Ls) (.ref v :: .ref a :: st) h = ev L xs mdX7_init 22 (Ls) (st) (sR h 114 a v) := e_putR (k := 7) (f := 2) (F := 114) dX7_init_19 (by decide +kernel) rfl (by decide +kernel) rfl hk
theorem iX7_init_22 {x : Nat} {Ls st : List Value} {h : AH} : ev L xs mdX7_init 22 (.ref x :: Ls) (st) h = ev L xs mdX7_init 23 (.ref x :: Ls) (.ref x :: st) (h) := e_aload_n dX7_init_22 rfl
theorem iX7_init_23  {Ls st : List Value} {h : AH} : ev L xs mdX7_init 23 (Ls) (st) h = ev L xs mdX7_init 26 (Ls) (.int (nI 732) :: st) (h) := e_sipush dX7_init_23 (by decide)
theorem iX7_init_26 {c : Int32} {Ls st : List Value} {h : AH} (h0 : 0 ≤ c) (h1 : c ≤ 10000) : ev L xs mdX7_init 26 (Ls) (.int c :: st) h = ev L xs mdX7_init 28 (Ls) (.ref (hn h) :: st) (nw h 8 c.toNatClampNeg c.toNatClampNeg) := e_newI dX7_init_26 h0 h1
theorem iX7_init_28 {a v : Nat} {Ls st : List Value} {h : AH} (hk : hK h a = 7) : ev L xs mdX7_init 28 (Ls) (.ref v :: .ref a :: st) h = ev L xs mdX7_init 31 (Ls) (st) (sR h 115 a v) := e_putR (k := 7) (f := 3) (F := 115) dX7_init_28 (by decide +kernel) rfl (by decide +kernel) rfl hk
theorem iX7_init_31 {x : Nat} {Ls st : List Value} {h : AH} : ev L xs mdX7_init 31 (.ref x :: Ls) (st) h = ev L xs mdX7_init 32 (.ref x :: Ls) (.ref x :: st) (h) := e_aload_n dX7_init_31 rfl
theorem iX7_init_32  {Ls st : List Value} {h : AH} : ev L xs mdX7_init 32 (Ls) (st) h = ev L xs mdX7_init 34 (Ls) (.int (nI 90) :: st) (h) := e_bipush dX7_init_32 (by decide)
theorem iX7_init_34 {c : Int32} {Ls st : List Value} {h : AH} (h0 : 0 ≤ c) (h1 : c ≤ 10000) : ev L xs mdX7_init 34 (Ls) (.int c :: st) h = ev L xs mdX7_init 36 (Ls) (.ref (hn h) :: st) (nw h 8 c.toNatClampNeg c.toNatClampNeg) := e_newI dX7_init_34 h0 h1
theorem iX7_init_36 {a v : Nat} {Ls st : List Value} {h : AH} (hk : hK h a = 7) : ev L xs mdX7_init 36 (Ls) (.ref v :: .ref a :: st) h = ev L xs mdX7_init 39 (Ls) (st) (sR h 117 a v) := e_putR (k := 7) (f := 5) (F := 117) dX7_init_36 (by decide +kernel) rfl (by decide +kernel) rfl hk
theorem iX7_init_39 {x : Nat} {Ls st : List Value} {h : AH} : ev L xs mdX7_init 39 (.ref x :: Ls) (st) h = ev L xs mdX7_init 40 (.ref x :: Ls) (.ref x :: st) (h) := e_aload_n dX7_init_39 rfl
theorem iX7_init_40  {Ls st : List Value} {h : AH} : ev L xs mdX7_init 40 (Ls) (st) h = ev L xs mdX7_init 42 (Ls) (.int (nI 8) :: st) (h) := e_bipush dX7_init_40 (by decide)
theorem iX7_init_42 {c : Int32} {Ls st : List Value} {h : AH} (h0 : 0 ≤ c) (h1 : c ≤ 10000) : ev L xs mdX7_init 42 (Ls) (.int c :: st) h = ev L xs mdX7_init 44 (Ls) (.ref (hn h) :: st) (nw h 8 c.toNatClampNeg c.toNatClampNeg) := e_newI dX7_init_42 h0 h1
theorem iX7_init_44 {a v : Nat} {Ls st : List Value} {h : AH} (hk : hK h a = 7) : ev L xs mdX7_init 44 (Ls) (.ref v :: .ref a :: st) h = ev L xs mdX7_init 47 (Ls) (st) (sR h 119 a v) := e_putR (k := 7) (f := 7) (F := 119) dX7_init_44 (by decide +kernel) rfl (by decide +kernel) rfl hk
theorem iX7_init_47 {x : Nat} {Ls st : List Value} {h : AH} : ev L xs mdX7_init 47 (.ref x :: Ls) (st) h = ev L xs mdX7_init 48 (.ref x :: Ls) (.ref x :: st) (h) := e_aload_n dX7_init_47 rfl
theorem iX7_init_48  {Ls st : List Value} {h : AH} : ev L xs mdX7_init 48 (Ls) (st) h = ev L xs mdX7_init 50 (Ls) (.int (nI 8) :: st) (h) := e_bipush dX7_init_48 (by decide)
theorem iX7_init_50 {c : Int32} {Ls st : List Value} {h : AH} (h0 : 0 ≤ c) (h1 : c ≤ 10000) : ev L xs mdX7_init 50 (Ls) (.int c :: st) h = ev L xs mdX7_init 52 (Ls) (.ref (hn h) :: st) (nw h 8 c.toNatClampNeg c.toNatClampNeg) := e_newI dX7_init_50 h0 h1
theorem iX7_init_52 {a v : Nat} {Ls st : List Value} {h : AH} (hk : hK h a = 7) : ev L xs mdX7_init 52 (Ls) (.ref v :: .ref a :: st) h = ev L xs mdX7_init 55 (Ls) (st) (sR h 120 a v) := e_putR (k := 7) (f := 8) (F := 120) dX7_init_52 (by decide +kernel) rfl (by decide +kernel) rfl hk
theorem iX7_init_55 {x : Nat} {Ls st : List Value} {h : AH} : ev L xs mdX7_init 55 (.ref x :: Ls) (st) h = ev L xs mdX7_init 56 (.ref x :: Ls) (.ref x :: st) (h) := e_aload_n dX7_init_55 rfl
theorem iX7_init_56  {Ls st : List Value} {h : AH} : ev L xs mdX7_init 56 (Ls) (st) h = ev L xs mdX7_init 58 (Ls) (.int (nI 10) :: st) (h) := e_bipush dX7_init_56 (by decide)
theorem iX7_init_58 {c : Int32} {Ls st : List Value} {h : AH} (h0 : 0 ≤ c) (h1 : c ≤ 10000) : ev L xs mdX7_init 58 (Ls) (.int c :: st) h = ev L xs mdX7_init 60 (Ls) (.ref (hn h) :: st) (nw h 8 c.toNatClampNeg c.toNatClampNeg) := e_newI dX7_init_58 h0 h1
theorem iX7_init_60 {a v : Nat} {Ls st : List Value} {h : AH} (hk : hK h a = 7) : ev L xs mdX7_init 60 (Ls) (.ref v :: .ref a :: st) h = ev L xs mdX7_init 63 (Ls) (st) (sR h 121 a v) := e_putR (k := 7) (f := 9) (F := 121) dX7_init_60 (by decide +kernel) rfl (by decide +kernel) rfl hk
theorem iX7_init_63 {x : Nat} {Ls st : List Value} {h : AH} : ev L xs mdX7_init 63 (.ref x :: Ls) (st) h = ev L xs mdX7_init 64 (.ref x :: Ls) (.ref x :: st) (h) := e_aload_n dX7_init_63 rfl
theorem iX7_init_64  {Ls st : List Value} {h : AH} : ev L xs mdX7_init 64 (Ls) (st) h = ev L xs mdX7_init 67 (Ls) (.int (nI 256) :: st) (h) := e_sipush dX7_init_64 (by decide)
theorem iX7_init_67 {c : Int32} {Ls st : List Value} {h : AH} (h0 : 0 ≤ c) (h1 : c ≤ 10000) : ev L xs mdX7_init 67 (Ls) (.int c :: st) h = ev L xs mdX7_init 69 (Ls) (.ref (hn h) :: st) (nw h 8 c.toNatClampNeg c.toNatClampNeg) := e_newI dX7_init_67 h0 h1
theorem iX7_init_69 {a v : Nat} {Ls st : List Value} {h : AH} (hk : hK h a = 7) : ev L xs mdX7_init 69 (Ls) (.ref v :: .ref a :: st) h = ev L xs mdX7_init 72 (Ls) (st) (sR h 123 a v) := e_putR (k := 7) (f := 11) (F := 123) dX7_init_69 (by decide +kernel) rfl (by decide +kernel) rfl hk
theorem iX7_init_72 {x : Nat} {Ls st : List Value} {h : AH} : ev L xs mdX7_init 72 (.ref x :: Ls) (st) h = ev L xs mdX7_init 73 (.ref x :: Ls) (.ref x :: st) (h) := e_aload_n dX7_init_72 rfl
theorem iX7_init_73  {Ls st : List Value} {h : AH} : ev L xs mdX7_init 73 (Ls) (st) h = ev L xs mdX7_init 74 (Ls) (.int (nI 0) :: st) (h) := e_iconst dX7_init_73 (by decide)
theorem iX7_init_74 {a : Nat} {v : Int32} {Ls st : List Value} {h : AH} (hk : hK h a = 7) : ev L xs mdX7_init 74 (Ls) (.int v :: .ref a :: st) h = ev L xs mdX7_init 77 (Ls) (st) (sI h 112 a v) := e_putI (k := 7) (f := 0) (F := 112) dX7_init_74 (by decide +kernel) rfl (by decide +kernel) rfl hk
theorem iX7_init_77 {x : Nat} {Ls st : List Value} {h : AH} : ev L xs mdX7_init 77 (.ref x :: Ls) (st) h = ev L xs mdX7_init 78 (.ref x :: Ls) (.ref x :: st) (h) := e_aload_n dX7_init_77 rfl
theorem iX7_init_78  {Ls st : List Value} {h : AH} : ev L xs mdX7_init 78 (Ls) (st) h = ev L xs mdX7_init 79 (Ls) (.int (-1) :: st) (h) := e_iconst dX7_init_78 (by decide)
theorem iX7_init_79 {a : Nat} {v : Int32} {Ls st : List Value} {h : AH} (hk : hK h a = 7) : ev L xs mdX7_init 79 (Ls) (.int v :: .ref a :: st) h = ev L xs mdX7_init 82 (Ls) (st) (sI h 122 a v) := e_putI (k := 7) (f := 10) (F := 122) dX7_init_79 (by decide +kernel) rfl (by decide +kernel) rfl hk
theorem iX7_init_82 {Ls : List Value} {h : AH} : ev L xs mdX7_init 82 Ls [] h = some (.inl (none, h)) := e_vret dX7_init_82 rfl
theorem dX7_isAhead_0 : decode cX7_isAhead 0 = .ok (.iload_n 3, 1) := by decide +kernel
theorem dX7_isAhead_1 : decode cX7_isAhead 1 = .ok (.iconst (-1), 1) := by decide +kernel
theorem dX7_isAhead_2 : decode cX7_isAhead 2 = .ok (.if_icmp .ne 5, 3) := by decide +kernel
theorem dX7_isAhead_5 : decode cX7_isAhead 5 = .ok (.iconst 1, 1) := by decide +kernel
theorem dX7_isAhead_6 : decode cX7_isAhead 6 = .ok (.ireturn, 1) := by decide +kernel
theorem dX7_isAhead_7 : decode cX7_isAhead 7 = .ok (.aload_n 1, 1) := by decide +kernel
theorem dX7_isAhead_8 : decode cX7_isAhead 8 = .ok (.iload_n 2, 1) := by decide +kernel
theorem dX7_isAhead_9 : decode cX7_isAhead 9 = .ok (.iload 4, 2) := by decide +kernel
theorem dX7_isAhead_11 : decode cX7_isAhead 11 = .ok (.invokestatic 67, 3) := by decide +kernel
theorem dX7_isAhead_14 : decode cX7_isAhead 14 = .ok (.aload_n 1, 1) := by decide +kernel
theorem dX7_isAhead_15 : decode cX7_isAhead 15 = .ok (.iload_n 3, 1) := by decide +kernel
theorem dX7_isAhead_16 : decode cX7_isAhead 16 = .ok (.iload 4, 2) := by decide +kernel
theorem dX7_isAhead_18 : decode cX7_isAhead 18 = .ok (.invokestatic 67, 3) := by decide +kernel
theorem dX7_isAhead_21 : decode cX7_isAhead 21 = .ok (.isub, 1) := by decide +kernel
theorem dX7_isAhead_22 : decode cX7_isAhead 22 = .ok (.istore 5, 2) := by decide +kernel
theorem dX7_isAhead_24 : decode cX7_isAhead 24 = .ok (.iload 5, 2) := by decide +kernel
theorem dX7_isAhead_26 : decode cX7_isAhead 26 = .ok (.ifCond .lt 23, 3) := by decide +kernel
theorem dX7_isAhead_29 : decode cX7_isAhead 29 = .ok (.iload 5, 2) := by decide +kernel
theorem dX7_isAhead_31 : decode cX7_isAhead 31 = .ok (.ifCond .ne 22, 3) := by decide +kernel
theorem dX7_isAhead_34 : decode cX7_isAhead 34 = .ok (.aload_n 1, 1) := by decide +kernel
theorem dX7_isAhead_35 : decode cX7_isAhead 35 = .ok (.iload_n 2, 1) := by decide +kernel
theorem dX7_isAhead_36 : decode cX7_isAhead 36 = .ok (.iconst 3, 1) := by decide +kernel
theorem dX7_isAhead_37 : decode cX7_isAhead 37 = .ok (.invokestatic 56, 3) := by decide +kernel
theorem dX7_isAhead_40 : decode cX7_isAhead 40 = .ok (.aload_n 1, 1) := by decide +kernel
theorem dX7_isAhead_41 : decode cX7_isAhead 41 = .ok (.iload_n 3, 1) := by decide +kernel
theorem dX7_isAhead_42 : decode cX7_isAhead 42 = .ok (.iconst 3, 1) := by decide +kernel
theorem dX7_isAhead_43 : decode cX7_isAhead 43 = .ok (.invokestatic 56, 3) := by decide +kernel
theorem dX7_isAhead_46 : decode cX7_isAhead 46 = .ok (.if_icmp .ge 7, 3) := by decide +kernel
theorem dX7_isAhead_49 : decode cX7_isAhead 49 = .ok (.iconst 1, 1) := by decide +kernel
theorem dX7_isAhead_50 : decode cX7_isAhead 50 = .ok (.goto 4, 3) := by decide +kernel
theorem dX7_isAhead_53 : decode cX7_isAhead 53 = .ok (.iconst 0, 1) := by decide +kernel
theorem dX7_isAhead_54 : decode cX7_isAhead 54 = .ok (.ireturn, 1) := by decide +kernel
theorem iX7_isAhead_0 {v0 : Value} {v1 : Value} {v2 : Value} {x : Int32} {Ls st : List Value} {h : AH} : ev L xs mdX7_isAhead 0 (v0 :: v1 :: v2 :: .int x :: Ls) (st) h = ev L xs mdX7_isAhead 1 (v0 :: v1 :: v2 :: .int x :: Ls) (.int x :: st) (h) := e_iload_n dX7_isAhead_0 rfl
theorem iX7_isAhead_1  {Ls st : List Value} {h : AH} : ev L xs mdX7_isAhead 1 (Ls) (st) h = ev L xs mdX7_isAhead 2 (Ls) (.int (-1) :: st) (h) := e_iconst dX7_isAhead_1 (by decide)
theorem iX7_isAhead_2 {x z : Int32} {Ls st : List Value} {h : AH} : ev L xs mdX7_isAhead 2 Ls (.int z :: .int x :: st) h = if x = z then ev L xs mdX7_isAhead 5 Ls st h else ev L xs mdX7_isAhead 7 Ls st h := e_ic_ne dX7_isAhead_2 (by decide)
theorem iX7_isAhead_5  {Ls st : List Value} {h : AH} : ev L xs mdX7_isAhead 5 (Ls) (st) h = ev L xs mdX7_isAhead 6 (Ls) (.int (nI 1) :: st) (h) := e_iconst dX7_isAhead_5 (by decide)
theorem iX7_isAhead_6 {v : Int32} {Ls : List Value} {h : AH} (hv : v = nI 0 ∨ v = nI 1) : ev L xs mdX7_isAhead 6 Ls [.int v] h = some (.inl (some (.int v), h)) := e_zret dX7_isAhead_6 rfl hv
theorem iX7_isAhead_7 {v0 : Value} {x : Nat} {Ls st : List Value} {h : AH} : ev L xs mdX7_isAhead 7 (v0 :: .ref x :: Ls) (st) h = ev L xs mdX7_isAhead 8 (v0 :: .ref x :: Ls) (.ref x :: st) (h) := e_aload_n dX7_isAhead_7 rfl
theorem iX7_isAhead_8 {v0 : Value} {v1 : Value} {x : Int32} {Ls st : List Value} {h : AH} : ev L xs mdX7_isAhead 8 (v0 :: v1 :: .int x :: Ls) (st) h = ev L xs mdX7_isAhead 9 (v0 :: v1 :: .int x :: Ls) (.int x :: st) (h) := e_iload_n dX7_isAhead_8 rfl
theorem iX7_isAhead_9 {v0 : Value} {v1 : Value} {v2 : Value} {v3 : Value} {x : Int32} {Ls st : List Value} {h : AH} : ev L xs mdX7_isAhead 9 (v0 :: v1 :: v2 :: v3 :: .int x :: Ls) (st) h = ev L xs mdX7_isAhead 11 (v0 :: v1 :: v2 :: v3 :: .int x :: Ls) (.int x :: st) (h) := e_iload dX7_isAhead_9 rfl
theorem iX7_isAhead_11 {p0 : Nat} {p1 : Int32} {p2 : Int32} {Ls st : List Value} {h : AH} (hw : wds st ≤ 8) : ev L xs mdX7_isAhead 11 Ls (.int p2 :: .int p1 :: .ref p0 :: st) h = kn L xs mdX7_isAhead 11 14 Ls st (ev L xs mdX7_distance 0 [.ref p0, .int p1, .int p2, .null] [] h) := e_callS (as := [.int p2, .int p1, .ref p0]) dX7_isAhead_11 mr_7_67 (by decide) (by decide) rfl (by simp [wds, Value.category]; decide) rfl hw
theorem iX7_isAhead_14 {v0 : Value} {x : Nat} {Ls st : List Value} {h : AH} : ev L xs mdX7_isAhead 14 (v0 :: .ref x :: Ls) (st) h = ev L xs mdX7_isAhead 15 (v0 :: .ref x :: Ls) (.ref x :: st) (h) := e_aload_n dX7_isAhead_14 rfl
theorem iX7_isAhead_15 {v0 : Value} {v1 : Value} {v2 : Value} {x : Int32} {Ls st : List Value} {h : AH} : ev L xs mdX7_isAhead 15 (v0 :: v1 :: v2 :: .int x :: Ls) (st) h = ev L xs mdX7_isAhead 16 (v0 :: v1 :: v2 :: .int x :: Ls) (.int x :: st) (h) := e_iload_n dX7_isAhead_15 rfl
theorem iX7_isAhead_16 {v0 : Value} {v1 : Value} {v2 : Value} {v3 : Value} {x : Int32} {Ls st : List Value} {h : AH} : ev L xs mdX7_isAhead 16 (v0 :: v1 :: v2 :: v3 :: .int x :: Ls) (st) h = ev L xs mdX7_isAhead 18 (v0 :: v1 :: v2 :: v3 :: .int x :: Ls) (.int x :: st) (h) := e_iload dX7_isAhead_16 rfl
theorem iX7_isAhead_18 {p0 : Nat} {p1 : Int32} {p2 : Int32} {Ls st : List Value} {h : AH} (hw : wds st ≤ 8) : ev L xs mdX7_isAhead 18 Ls (.int p2 :: .int p1 :: .ref p0 :: st) h = kn L xs mdX7_isAhead 18 21 Ls st (ev L xs mdX7_distance 0 [.ref p0, .int p1, .int p2, .null] [] h) := e_callS (as := [.int p2, .int p1, .ref p0]) dX7_isAhead_18 mr_7_67 (by decide) (by decide) rfl (by simp [wds, Value.category]; decide) rfl hw
theorem iX7_isAhead_21 {x z : Int32} {Ls st : List Value} {h : AH} : ev L xs mdX7_isAhead 21 (Ls) (.int z :: .int x :: st) h = ev L xs mdX7_isAhead 22 (Ls) (.int (x - z) :: st) (h) := e_isub dX7_isAhead_21
theorem iX7_isAhead_22 {v0 : Value} {v1 : Value} {v2 : Value} {v3 : Value} {v4 : Value} {v5 : Value} {x : Int32} {Ls st : List Value} {h : AH} (hc9 : v4.category = 1) : ev L xs mdX7_isAhead 22 (v0 :: v1 :: v2 :: v3 :: v4 :: v5 :: Ls) (.int x :: st) h = ev L xs mdX7_isAhead 24 (v0 :: v1 :: v2 :: v3 :: v4 :: .int x :: Ls) (st) (h) := e_istore dX7_isAhead_22 rfl (by decide) (by unfold catOK; show (_ || (v4.category == 1)) = true; rw [hc9]; rfl)
theorem iX7_isAhead_24 {v0 : Value} {v1 : Value} {v2 : Value} {v3 : Value} {v4 : Value} {x : Int32} {Ls st : List Value} {h : AH} : ev L xs mdX7_isAhead 24 (v0 :: v1 :: v2 :: v3 :: v4 :: .int x :: Ls) (st) h = ev L xs mdX7_isAhead 26 (v0 :: v1 :: v2 :: v3 :: v4 :: .int x :: Ls) (.int x :: st) (h) := e_iload dX7_isAhead_24 rfl
theorem iX7_isAhead_26 {x : Int32} {Ls st : List Value} {h : AH} : ev L xs mdX7_isAhead 26 Ls (.int x :: st) h = if x < nI 0 then ev L xs mdX7_isAhead 49 Ls st h else ev L xs mdX7_isAhead 29 Ls st h := e_if_lt dX7_isAhead_26 (by decide)
theorem iX7_isAhead_29 {v0 : Value} {v1 : Value} {v2 : Value} {v3 : Value} {v4 : Value} {x : Int32} {Ls st : List Value} {h : AH} : ev L xs mdX7_isAhead 29 (v0 :: v1 :: v2 :: v3 :: v4 :: .int x :: Ls) (st) h = ev L xs mdX7_isAhead 31 (v0 :: v1 :: v2 :: v3 :: v4 :: .int x :: Ls) (.int x :: st) (h) := e_iload dX7_isAhead_29 rfl
theorem iX7_isAhead_31 {x : Int32} {Ls st : List Value} {h : AH} : ev L xs mdX7_isAhead 31 Ls (.int x :: st) h = if x = nI 0 then ev L xs mdX7_isAhead 34 Ls st h else ev L xs mdX7_isAhead 53 Ls st h := e_if_ne dX7_isAhead_31 (by decide)
theorem iX7_isAhead_34 {v0 : Value} {x : Nat} {Ls st : List Value} {h : AH} : ev L xs mdX7_isAhead 34 (v0 :: .ref x :: Ls) (st) h = ev L xs mdX7_isAhead 35 (v0 :: .ref x :: Ls) (.ref x :: st) (h) := e_aload_n dX7_isAhead_34 rfl
theorem iX7_isAhead_35 {v0 : Value} {v1 : Value} {x : Int32} {Ls st : List Value} {h : AH} : ev L xs mdX7_isAhead 35 (v0 :: v1 :: .int x :: Ls) (st) h = ev L xs mdX7_isAhead 36 (v0 :: v1 :: .int x :: Ls) (.int x :: st) (h) := e_iload_n dX7_isAhead_35 rfl
theorem iX7_isAhead_36  {Ls st : List Value} {h : AH} : ev L xs mdX7_isAhead 36 (Ls) (st) h = ev L xs mdX7_isAhead 37 (Ls) (.int (nI 3) :: st) (h) := e_iconst dX7_isAhead_36 (by decide)
theorem iX7_isAhead_37 {p0 : Nat} {p1 : Int32} {p2 : Int32} {Ls st : List Value} {h : AH} (hw : wds st ≤ 8) : ev L xs mdX7_isAhead 37 Ls (.int p2 :: .int p1 :: .ref p0 :: st) h = kn L xs mdX7_isAhead 37 40 Ls st (ev L xs mdX7_by 0 [.ref p0, .int p1, .int p2] [] h) := e_callS (as := [.int p2, .int p1, .ref p0]) dX7_isAhead_37 mr_7_56 (by decide) (by decide) rfl (by simp [wds, Value.category]; decide) rfl hw
theorem iX7_isAhead_40 {v0 : Value} {x : Nat} {Ls st : List Value} {h : AH} : ev L xs mdX7_isAhead 40 (v0 :: .ref x :: Ls) (st) h = ev L xs mdX7_isAhead 41 (v0 :: .ref x :: Ls) (.ref x :: st) (h) := e_aload_n dX7_isAhead_40 rfl
theorem iX7_isAhead_41 {v0 : Value} {v1 : Value} {v2 : Value} {x : Int32} {Ls st : List Value} {h : AH} : ev L xs mdX7_isAhead 41 (v0 :: v1 :: v2 :: .int x :: Ls) (st) h = ev L xs mdX7_isAhead 42 (v0 :: v1 :: v2 :: .int x :: Ls) (.int x :: st) (h) := e_iload_n dX7_isAhead_41 rfl
theorem iX7_isAhead_42  {Ls st : List Value} {h : AH} : ev L xs mdX7_isAhead 42 (Ls) (st) h = ev L xs mdX7_isAhead 43 (Ls) (.int (nI 3) :: st) (h) := e_iconst dX7_isAhead_42 (by decide)
theorem iX7_isAhead_43 {p0 : Nat} {p1 : Int32} {p2 : Int32} {Ls st : List Value} {h : AH} (hw : wds st ≤ 8) : ev L xs mdX7_isAhead 43 Ls (.int p2 :: .int p1 :: .ref p0 :: st) h = kn L xs mdX7_isAhead 43 46 Ls st (ev L xs mdX7_by 0 [.ref p0, .int p1, .int p2] [] h) := e_callS (as := [.int p2, .int p1, .ref p0]) dX7_isAhead_43 mr_7_56 (by decide) (by decide) rfl (by simp [wds, Value.category]; decide) rfl hw
theorem iX7_isAhead_46 {x z : Int32} {Ls st : List Value} {h : AH} : ev L xs mdX7_isAhead 46 Ls (.int z :: .int x :: st) h = if z ≤ x then ev L xs mdX7_isAhead 53 Ls st h else ev L xs mdX7_isAhead 49 Ls st h := e_ic_ge dX7_isAhead_46 (by decide)
theorem iX7_isAhead_49  {Ls st : List Value} {h : AH} : ev L xs mdX7_isAhead 49 (Ls) (st) h = ev L xs mdX7_isAhead 50 (Ls) (.int (nI 1) :: st) (h) := e_iconst dX7_isAhead_49 (by decide)
theorem iX7_isAhead_50  {Ls st : List Value} {h : AH} : ev L xs mdX7_isAhead 50 (Ls) (st) h = ev L xs mdX7_isAhead 54 (Ls) (st) (h) := e_goto dX7_isAhead_50 (by decide)
theorem iX7_isAhead_53  {Ls st : List Value} {h : AH} : ev L xs mdX7_isAhead 53 (Ls) (st) h = ev L xs mdX7_isAhead 54 (Ls) (.int (nI 0) :: st) (h) := e_iconst dX7_isAhead_53 (by decide)
theorem iX7_isAhead_54 {v : Int32} {Ls : List Value} {h : AH} (hv : v = nI 0 ∨ v = nI 1) : ev L xs mdX7_isAhead 54 Ls [.int v] h = some (.inl (some (.int v), h)) := e_zret dX7_isAhead_54 rfl hv
theorem dX7_isDigit_0 : decode cX7_isDigit 0 = .ok (.aload_n 0, 1) := by decide +kernel
theorem dX7_isDigit_1 : decode cX7_isDigit 1 = .ok (.invokevirtual 171, 3) := by decide +kernel
theorem dX7_isDigit_4 : decode cX7_isDigit 4 = .ok (.bipush 48, 2) := by decide +kernel
theorem dX7_isDigit_6 : decode cX7_isDigit 6 = .ok (.iload_n 1, 1) := by decide +kernel
theorem dX7_isDigit_7 : decode cX7_isDigit 7 = .ok (.invokestatic 44, 3) := by decide +kernel
theorem dX7_isDigit_10 : decode cX7_isDigit 10 = .ok (.ireturn, 1) := by decide +kernel
theorem iX7_isDigit_0 {x : Nat} {Ls st : List Value} {h : AH} : ev L xs mdX7_isDigit 0 (.ref x :: Ls) (st) h = ev L xs mdX7_isDigit 1 (.ref x :: Ls) (.ref x :: st) (h) := e_aload_n dX7_isDigit_0 rfl
theorem iX7_isDigit_1 {a : Nat} {Ls st : List Value} {h : AH} (hk : hK h a = 7) (hw : wds st ≤ 8) : ev L xs mdX7_isDigit 1 Ls (.ref a :: st) h = kn L xs mdX7_isDigit 1 4 Ls st (ev L xs mdX7_here 0 [.ref a] [] h) := e_callV (as := []) dX7_isDigit_1 mr_7_171 (by decide) (by decide) rfl (by simp [wds, Value.category]; decide) rfl (by decide) hk hw
theorem iX7_isDigit_4  {Ls st : List Value} {h : AH} : ev L xs mdX7_isDigit 4 (Ls) (st) h = ev L xs mdX7_isDigit 6 (Ls) (.int (nI 48) :: st) (h) := e_bipush dX7_isDigit_4 (by decide)
theorem iX7_isDigit_6 {v0 : Value} {x : Int32} {Ls st : List Value} {h : AH} : ev L xs mdX7_isDigit 6 (v0 :: .int x :: Ls) (st) h = ev L xs mdX7_isDigit 7 (v0 :: .int x :: Ls) (.int x :: st) (h) := e_iload_n dX7_isDigit_6 rfl
theorem iX7_isDigit_7 {p0 : Int32} {p1 : Int32} {p2 : Int32} {Ls st : List Value} {h : AH} (hw : wds st ≤ 8) : ev L xs mdX7_isDigit 7 Ls (.int p2 :: .int p1 :: .int p0 :: st) h = kn L xs mdX7_isDigit 7 10 Ls st (ev L xs mdX7_in 0 [.int p0, .int p1, .int p2] [] h) := e_callS (as := [.int p2, .int p1, .int p0]) dX7_isDigit_7 mr_7_44 (by decide) (by decide) rfl (by simp [wds, Value.category]; decide) rfl hw
theorem iX7_isDigit_10 {v : Int32} {Ls : List Value} {h : AH} (hv : v = nI 0 ∨ v = nI 1) : ev L xs mdX7_isDigit 10 Ls [.int v] h = some (.inl (some (.int v), h)) := e_zret dX7_isDigit_10 rfl hv
theorem dX7_isGuard_0 : decode cX7_isGuard 0 = .ok (.iload_n 1, 1) := by decide +kernel
theorem dX7_isGuard_1 : decode cX7_isGuard 1 = .ok (.iconst 0, 1) := by decide +kernel
theorem dX7_isGuard_2 : decode cX7_isGuard 2 = .ok (.aload_n 0, 1) := by decide +kernel
theorem dX7_isGuard_3 : decode cX7_isGuard 3 = .ok (.getfield 7, 3) := by decide +kernel
theorem dX7_isGuard_6 : decode cX7_isGuard 6 = .ok (.iconst 4, 1) := by decide +kernel
theorem dX7_isGuard_7 : decode cX7_isGuard 7 = .ok (.iaload, 1) := by decide +kernel
theorem dX7_isGuard_8 : decode cX7_isGuard 8 = .ok (.iconst 1, 1) := by decide +kernel
theorem dX7_isGuard_9 : decode cX7_isGuard 9 = .ok (.isub, 1) := by decide +kernel
theorem dX7_isGuard_10 : decode cX7_isGuard 10 = .ok (.invokestatic 44, 3) := by decide +kernel
theorem dX7_isGuard_13 : decode cX7_isGuard 13 = .ok (.ireturn, 1) := by decide +kernel
theorem iX7_isGuard_0 {v0 : Value} {x : Int32} {Ls st : List Value} {h : AH} : ev L xs mdX7_isGuard 0 (v0 :: .int x :: Ls) (st) h = ev L xs mdX7_isGuard 1 (v0 :: .int x :: Ls) (.int x :: st) (h) := e_iload_n dX7_isGuard_0 rfl
theorem iX7_isGuard_1  {Ls st : List Value} {h : AH} : ev L xs mdX7_isGuard 1 (Ls) (st) h = ev L xs mdX7_isGuard 2 (Ls) (.int (nI 0) :: st) (h) := e_iconst dX7_isGuard_1 (by decide)
theorem iX7_isGuard_2 {x : Nat} {Ls st : List Value} {h : AH} : ev L xs mdX7_isGuard 2 (.ref x :: Ls) (st) h = ev L xs mdX7_isGuard 3 (.ref x :: Ls) (.ref x :: st) (h) := e_aload_n dX7_isGuard_2 rfl
theorem iX7_isGuard_3 {a : Nat} {Ls st : List Value} {h : AH} (hk : hK h a = 7) (hj : (hR h 113 a).isSome = true) : ev L xs mdX7_isGuard 3 (Ls) (.ref a :: st) h = ev L xs mdX7_isGuard 6 (Ls) (.ref ((hR h 113 a).getD 0) :: st) (h) := e_getR (k := 7) (f := 1) (F := 113) dX7_isGuard_3 (by decide +kernel) rfl rfl hk hj
theorem iX7_isGuard_6  {Ls st : List Value} {h : AH} : ev L xs mdX7_isGuard 6 (Ls) (st) h = ev L xs mdX7_isGuard 7 (Ls) (.int (nI 4) :: st) (h) := e_iconst dX7_isGuard_6 (by decide)
theorem iX7_isGuard_7 {a : Nat} {j : Int32} {Ls st : List Value} {h : AH} (hk : hK h a = 8) (hi : inA j (hN h a) = true) : ev L xs mdX7_isGuard 7 (Ls) (.int j :: .ref a :: st) h = ev L xs mdX7_isGuard 8 (Ls) (.int (hA h a j.toNatClampNeg) :: st) (h) := e_iald dX7_isGuard_7 hk hi
theorem iX7_isGuard_8  {Ls st : List Value} {h : AH} : ev L xs mdX7_isGuard 8 (Ls) (st) h = ev L xs mdX7_isGuard 9 (Ls) (.int (nI 1) :: st) (h) := e_iconst dX7_isGuard_8 (by decide)
theorem iX7_isGuard_9 {x z : Int32} {Ls st : List Value} {h : AH} : ev L xs mdX7_isGuard 9 (Ls) (.int z :: .int x :: st) h = ev L xs mdX7_isGuard 10 (Ls) (.int (x - z) :: st) (h) := e_isub dX7_isGuard_9
theorem iX7_isGuard_10 {p0 : Int32} {p1 : Int32} {p2 : Int32} {Ls st : List Value} {h : AH} (hw : wds st ≤ 8) : ev L xs mdX7_isGuard 10 Ls (.int p2 :: .int p1 :: .int p0 :: st) h = kn L xs mdX7_isGuard 10 13 Ls st (ev L xs mdX7_in 0 [.int p0, .int p1, .int p2] [] h) := e_callS (as := [.int p2, .int p1, .int p0]) dX7_isGuard_10 mr_7_44 (by decide) (by decide) rfl (by simp [wds, Value.category]; decide) rfl hw
theorem iX7_isGuard_13 {v : Int32} {Ls : List Value} {h : AH} (hv : v = nI 0 ∨ v = nI 1) : ev L xs mdX7_isGuard 13 Ls [.int v] h = some (.inl (some (.int v), h)) := e_zret dX7_isGuard_13 rfl hv
theorem dX7_isNeeded_0 : decode cX7_isNeeded 0 = .ok (.aload_n 0, 1) := by decide +kernel
theorem dX7_isNeeded_1 : decode cX7_isNeeded 1 = .ok (.iload_n 1, 1) := by decide +kernel
theorem dX7_isNeeded_2 : decode cX7_isNeeded 2 = .ok (.iconst 1, 1) := by decide +kernel
theorem dX7_isNeeded_3 : decode cX7_isNeeded 3 = .ok (.invokestatic 48, 3) := by decide +kernel
theorem dX7_isNeeded_6 : decode cX7_isNeeded 6 = .ok (.iconst 2, 1) := by decide +kernel
theorem dX7_isNeeded_7 : decode cX7_isNeeded 7 = .ok (.iload_n 2, 1) := by decide +kernel
theorem dX7_isNeeded_8 : decode cX7_isNeeded 8 = .ok (.bipush 7, 2) := by decide +kernel
theorem dX7_isNeeded_10 : decode cX7_isNeeded 10 = .ok (.irem, 1) := by decide +kernel
theorem dX7_isNeeded_11 : decode cX7_isNeeded 11 = .ok (.imul, 1) := by decide +kernel
theorem dX7_isNeeded_12 : decode cX7_isNeeded 12 = .ok (.iload_n 3, 1) := by decide +kernel
theorem dX7_isNeeded_13 : decode cX7_isNeeded 13 = .ok (.iadd, 1) := by decide +kernel
theorem dX7_isNeeded_14 : decode cX7_isNeeded 14 = .ok (.ishr, 1) := by decide +kernel
theorem dX7_isNeeded_15 : decode cX7_isNeeded 15 = .ok (.iconst 1, 1) := by decide +kernel
theorem dX7_isNeeded_16 : decode cX7_isNeeded 16 = .ok (.iand, 1) := by decide +kernel
theorem dX7_isNeeded_17 : decode cX7_isNeeded 17 = .ok (.iconst 1, 1) := by decide +kernel
theorem dX7_isNeeded_18 : decode cX7_isNeeded 18 = .ok (.if_icmp .ne 15, 3) := by decide +kernel
theorem dX7_isNeeded_21 : decode cX7_isNeeded 21 = .ok (.aload_n 0, 1) := by decide +kernel
theorem dX7_isNeeded_22 : decode cX7_isNeeded 22 = .ok (.iload_n 2, 1) := by decide +kernel
theorem dX7_isNeeded_23 : decode cX7_isNeeded 23 = .ok (.invokestatic 52, 3) := by decide +kernel
theorem dX7_isNeeded_26 : decode cX7_isNeeded 26 = .ok (.ifCond .eq 7, 3) := by decide +kernel
theorem dX7_isNeeded_29 : decode cX7_isNeeded 29 = .ok (.iconst 1, 1) := by decide +kernel
theorem dX7_isNeeded_30 : decode cX7_isNeeded 30 = .ok (.goto 4, 3) := by decide +kernel
theorem dX7_isNeeded_33 : decode cX7_isNeeded 33 = .ok (.iconst 0, 1) := by decide +kernel
theorem dX7_isNeeded_34 : decode cX7_isNeeded 34 = .ok (.ireturn, 1) := by decide +kernel
theorem iX7_isNeeded_0 {x : Nat} {Ls st : List Value} {h : AH} : ev L xs mdX7_isNeeded 0 (.ref x :: Ls) (st) h = ev L xs mdX7_isNeeded 1 (.ref x :: Ls) (.ref x :: st) (h) := e_aload_n dX7_isNeeded_0 rfl
theorem iX7_isNeeded_1 {v0 : Value} {x : Int32} {Ls st : List Value} {h : AH} : ev L xs mdX7_isNeeded 1 (v0 :: .int x :: Ls) (st) h = ev L xs mdX7_isNeeded 2 (v0 :: .int x :: Ls) (.int x :: st) (h) := e_iload_n dX7_isNeeded_1 rfl
theorem iX7_isNeeded_2  {Ls st : List Value} {h : AH} : ev L xs mdX7_isNeeded 2 (Ls) (st) h = ev L xs mdX7_isNeeded 3 (Ls) (.int (nI 1) :: st) (h) := e_iconst dX7_isNeeded_2 (by decide)
theorem iX7_isNeeded_3 {p0 : Nat} {p1 : Int32} {p2 : Int32} {Ls st : List Value} {h : AH} (hw : wds st ≤ 8) : ev L xs mdX7_isNeeded 3 Ls (.int p2 :: .int p1 :: .ref p0 :: st) h = kn L xs mdX7_isNeeded 3 6 Ls st (ev L xs mdX7_of 0 [.ref p0, .int p1, .int p2] [] h) := e_callS (as := [.int p2, .int p1, .ref p0]) dX7_isNeeded_3 mr_7_48 (by decide) (by decide) rfl (by simp [wds, Value.category]; decide) rfl hw
theorem iX7_isNeeded_6  {Ls st : List Value} {h : AH} : ev L xs mdX7_isNeeded 6 (Ls) (st) h = ev L xs mdX7_isNeeded 7 (Ls) (.int (nI 2) :: st) (h) := e_iconst dX7_isNeeded_6 (by decide)
theorem iX7_isNeeded_7 {v0 : Value} {v1 : Value} {x : Int32} {Ls st : List Value} {h : AH} : ev L xs mdX7_isNeeded 7 (v0 :: v1 :: .int x :: Ls) (st) h = ev L xs mdX7_isNeeded 8 (v0 :: v1 :: .int x :: Ls) (.int x :: st) (h) := e_iload_n dX7_isNeeded_7 rfl
theorem iX7_isNeeded_8  {Ls st : List Value} {h : AH} : ev L xs mdX7_isNeeded 8 (Ls) (st) h = ev L xs mdX7_isNeeded 10 (Ls) (.int (nI 7) :: st) (h) := e_bipush dX7_isNeeded_8 (by decide)
theorem iX7_isNeeded_10 {x z : Int32} {Ls st : List Value} {h : AH} (hz : ¬ z = 0) : ev L xs mdX7_isNeeded 10 (Ls) (.int z :: .int x :: st) h = ev L xs mdX7_isNeeded 11 (Ls) (.int (x - x / z * z) :: st) (h) := e_irem dX7_isNeeded_10 hz
theorem iX7_isNeeded_11 {x z : Int32} {Ls st : List Value} {h : AH} : ev L xs mdX7_isNeeded 11 (Ls) (.int z :: .int x :: st) h = ev L xs mdX7_isNeeded 12 (Ls) (.int (x * z) :: st) (h) := e_imul dX7_isNeeded_11
theorem iX7_isNeeded_12 {v0 : Value} {v1 : Value} {v2 : Value} {x : Int32} {Ls st : List Value} {h : AH} : ev L xs mdX7_isNeeded 12 (v0 :: v1 :: v2 :: .int x :: Ls) (st) h = ev L xs mdX7_isNeeded 13 (v0 :: v1 :: v2 :: .int x :: Ls) (.int x :: st) (h) := e_iload_n dX7_isNeeded_12 rfl
theorem iX7_isNeeded_13 {x z : Int32} {Ls st : List Value} {h : AH} : ev L xs mdX7_isNeeded 13 (Ls) (.int z :: .int x :: st) h = ev L xs mdX7_isNeeded 14 (Ls) (.int (x + z) :: st) (h) := e_iadd dX7_isNeeded_13
theorem iX7_isNeeded_14 {x z : Int32} {Ls st : List Value} {h : AH} : ev L xs mdX7_isNeeded 14 (Ls) (.int z :: .int x :: st) h = ev L xs mdX7_isNeeded 15 (Ls) (.int (x >>> (z &&& nI 31)) :: st) (h) := e_ishr dX7_isNeeded_14
theorem iX7_isNeeded_15  {Ls st : List Value} {h : AH} : ev L xs mdX7_isNeeded 15 (Ls) (st) h = ev L xs mdX7_isNeeded 16 (Ls) (.int (nI 1) :: st) (h) := e_iconst dX7_isNeeded_15 (by decide)
theorem iX7_isNeeded_16 {x z : Int32} {Ls st : List Value} {h : AH} : ev L xs mdX7_isNeeded 16 (Ls) (.int z :: .int x :: st) h = ev L xs mdX7_isNeeded 17 (Ls) (.int (x &&& z) :: st) (h) := e_iand dX7_isNeeded_16
theorem iX7_isNeeded_17  {Ls st : List Value} {h : AH} : ev L xs mdX7_isNeeded 17 (Ls) (st) h = ev L xs mdX7_isNeeded 18 (Ls) (.int (nI 1) :: st) (h) := e_iconst dX7_isNeeded_17 (by decide)
theorem iX7_isNeeded_18 {x z : Int32} {Ls st : List Value} {h : AH} : ev L xs mdX7_isNeeded 18 Ls (.int z :: .int x :: st) h = if x = z then ev L xs mdX7_isNeeded 21 Ls st h else ev L xs mdX7_isNeeded 33 Ls st h := e_ic_ne dX7_isNeeded_18 (by decide)
theorem iX7_isNeeded_21 {x : Nat} {Ls st : List Value} {h : AH} : ev L xs mdX7_isNeeded 21 (.ref x :: Ls) (st) h = ev L xs mdX7_isNeeded 22 (.ref x :: Ls) (.ref x :: st) (h) := e_aload_n dX7_isNeeded_21 rfl
theorem iX7_isNeeded_22 {v0 : Value} {v1 : Value} {x : Int32} {Ls st : List Value} {h : AH} : ev L xs mdX7_isNeeded 22 (v0 :: v1 :: .int x :: Ls) (st) h = ev L xs mdX7_isNeeded 23 (v0 :: v1 :: .int x :: Ls) (.int x :: st) (h) := e_iload_n dX7_isNeeded_22 rfl
theorem iX7_isNeeded_23 {p0 : Nat} {p1 : Int32} {Ls st : List Value} {h : AH} (hw : wds st ≤ 8) : ev L xs mdX7_isNeeded 23 Ls (.int p1 :: .ref p0 :: st) h = kn L xs mdX7_isNeeded 23 26 Ls st (ev L xs mdX7_isSchoolDay 0 [.ref p0, .int p1, .null, .null] [] h) := e_callS (as := [.int p1, .ref p0]) dX7_isNeeded_23 mr_7_52 (by decide) (by decide) rfl (by simp [wds, Value.category]; decide) rfl hw
theorem iX7_isNeeded_26 {x : Int32} {Ls st : List Value} {h : AH} : ev L xs mdX7_isNeeded 26 Ls (.int x :: st) h = if x = nI 0 then ev L xs mdX7_isNeeded 33 Ls st h else ev L xs mdX7_isNeeded 29 Ls st h := e_if_eq dX7_isNeeded_26 (by decide)
theorem iX7_isNeeded_29  {Ls st : List Value} {h : AH} : ev L xs mdX7_isNeeded 29 (Ls) (st) h = ev L xs mdX7_isNeeded 30 (Ls) (.int (nI 1) :: st) (h) := e_iconst dX7_isNeeded_29 (by decide)
theorem iX7_isNeeded_30  {Ls st : List Value} {h : AH} : ev L xs mdX7_isNeeded 30 (Ls) (st) h = ev L xs mdX7_isNeeded 34 (Ls) (st) (h) := e_goto dX7_isNeeded_30 (by decide)
theorem iX7_isNeeded_33  {Ls st : List Value} {h : AH} : ev L xs mdX7_isNeeded 33 (Ls) (st) h = ev L xs mdX7_isNeeded 34 (Ls) (.int (nI 0) :: st) (h) := e_iconst dX7_isNeeded_33 (by decide)
theorem iX7_isNeeded_34 {v : Int32} {Ls : List Value} {h : AH} (hv : v = nI 0 ∨ v = nI 1) : ev L xs mdX7_isNeeded 34 Ls [.int v] h = some (.inl (some (.int v), h)) := e_zret dX7_isNeeded_34 rfl hv
theorem dX7_isPost_0 : decode cX7_isPost 0 = .ok (.iload_n 1, 1) := by decide +kernel
theorem dX7_isPost_1 : decode cX7_isPost 1 = .ok (.iconst 0, 1) := by decide +kernel
theorem dX7_isPost_2 : decode cX7_isPost 2 = .ok (.aload_n 0, 1) := by decide +kernel
theorem dX7_isPost_3 : decode cX7_isPost 3 = .ok (.getfield 7, 3) := by decide +kernel
theorem dX7_isPost_6 : decode cX7_isPost 6 = .ok (.iconst 3, 1) := by decide +kernel
theorem dX7_isPost_7 : decode cX7_isPost 7 = .ok (.iaload, 1) := by decide +kernel
theorem dX7_isPost_8 : decode cX7_isPost 8 = .ok (.iconst 1, 1) := by decide +kernel
theorem dX7_isPost_9 : decode cX7_isPost 9 = .ok (.isub, 1) := by decide +kernel
theorem dX7_isPost_10 : decode cX7_isPost 10 = .ok (.invokestatic 44, 3) := by decide +kernel
theorem dX7_isPost_13 : decode cX7_isPost 13 = .ok (.ireturn, 1) := by decide +kernel
theorem iX7_isPost_0 {v0 : Value} {x : Int32} {Ls st : List Value} {h : AH} : ev L xs mdX7_isPost 0 (v0 :: .int x :: Ls) (st) h = ev L xs mdX7_isPost 1 (v0 :: .int x :: Ls) (.int x :: st) (h) := e_iload_n dX7_isPost_0 rfl
theorem iX7_isPost_1  {Ls st : List Value} {h : AH} : ev L xs mdX7_isPost 1 (Ls) (st) h = ev L xs mdX7_isPost 2 (Ls) (.int (nI 0) :: st) (h) := e_iconst dX7_isPost_1 (by decide)
theorem iX7_isPost_2 {x : Nat} {Ls st : List Value} {h : AH} : ev L xs mdX7_isPost 2 (.ref x :: Ls) (st) h = ev L xs mdX7_isPost 3 (.ref x :: Ls) (.ref x :: st) (h) := e_aload_n dX7_isPost_2 rfl
theorem iX7_isPost_3 {a : Nat} {Ls st : List Value} {h : AH} (hk : hK h a = 7) (hj : (hR h 113 a).isSome = true) : ev L xs mdX7_isPost 3 (Ls) (.ref a :: st) h = ev L xs mdX7_isPost 6 (Ls) (.ref ((hR h 113 a).getD 0) :: st) (h) := e_getR (k := 7) (f := 1) (F := 113) dX7_isPost_3 (by decide +kernel) rfl rfl hk hj
theorem iX7_isPost_6  {Ls st : List Value} {h : AH} : ev L xs mdX7_isPost 6 (Ls) (st) h = ev L xs mdX7_isPost 7 (Ls) (.int (nI 3) :: st) (h) := e_iconst dX7_isPost_6 (by decide)
theorem iX7_isPost_7 {a : Nat} {j : Int32} {Ls st : List Value} {h : AH} (hk : hK h a = 8) (hi : inA j (hN h a) = true) : ev L xs mdX7_isPost 7 (Ls) (.int j :: .ref a :: st) h = ev L xs mdX7_isPost 8 (Ls) (.int (hA h a j.toNatClampNeg) :: st) (h) := e_iald dX7_isPost_7 hk hi
theorem iX7_isPost_8  {Ls st : List Value} {h : AH} : ev L xs mdX7_isPost 8 (Ls) (st) h = ev L xs mdX7_isPost 9 (Ls) (.int (nI 1) :: st) (h) := e_iconst dX7_isPost_8 (by decide)
theorem iX7_isPost_9 {x z : Int32} {Ls st : List Value} {h : AH} : ev L xs mdX7_isPost 9 (Ls) (.int z :: .int x :: st) h = ev L xs mdX7_isPost 10 (Ls) (.int (x - z) :: st) (h) := e_isub dX7_isPost_9
theorem iX7_isPost_10 {p0 : Int32} {p1 : Int32} {p2 : Int32} {Ls st : List Value} {h : AH} (hw : wds st ≤ 8) : ev L xs mdX7_isPost 10 Ls (.int p2 :: .int p1 :: .int p0 :: st) h = kn L xs mdX7_isPost 10 13 Ls st (ev L xs mdX7_in 0 [.int p0, .int p1, .int p2] [] h) := e_callS (as := [.int p2, .int p1, .int p0]) dX7_isPost_10 mr_7_44 (by decide) (by decide) rfl (by simp [wds, Value.category]; decide) rfl hw
theorem iX7_isPost_13 {v : Int32} {Ls : List Value} {h : AH} (hv : v = nI 0 ∨ v = nI 1) : ev L xs mdX7_isPost 13 Ls [.int v] h = some (.inl (some (.int v), h)) := e_zret dX7_isPost_13 rfl hv
theorem dX7_isSchoolDay_0 : decode cX7_isSchoolDay 0 = .ok (.iload_n 1, 1) := by decide +kernel
theorem dX7_isSchoolDay_1 : decode cX7_isSchoolDay 1 = .ok (.bipush 7, 2) := by decide +kernel
theorem dX7_isSchoolDay_3 : decode cX7_isSchoolDay 3 = .ok (.irem, 1) := by decide +kernel
theorem dX7_isSchoolDay_4 : decode cX7_isSchoolDay 4 = .ok (.iconst 5, 1) := by decide +kernel
theorem dX7_isSchoolDay_5 : decode cX7_isSchoolDay 5 = .ok (.if_icmp .ge 7, 3) := by decide +kernel
theorem dX7_isSchoolDay_8 : decode cX7_isSchoolDay 8 = .ok (.iconst 1, 1) := by decide +kernel
theorem dX7_isSchoolDay_9 : decode cX7_isSchoolDay 9 = .ok (.goto 4, 3) := by decide +kernel
theorem dX7_isSchoolDay_12 : decode cX7_isSchoolDay 12 = .ok (.iconst 0, 1) := by decide +kernel
theorem dX7_isSchoolDay_13 : decode cX7_isSchoolDay 13 = .ok (.istore_n 2, 1) := by decide +kernel
theorem dX7_isSchoolDay_14 : decode cX7_isSchoolDay 14 = .ok (.iconst 0, 1) := by decide +kernel
theorem dX7_isSchoolDay_15 : decode cX7_isSchoolDay 15 = .ok (.istore_n 3, 1) := by decide +kernel
theorem dX7_isSchoolDay_16 : decode cX7_isSchoolDay 16 = .ok (.iload_n 3, 1) := by decide +kernel
theorem dX7_isSchoolDay_17 : decode cX7_isSchoolDay 17 = .ok (.aload_n 0, 1) := by decide +kernel
theorem dX7_isSchoolDay_18 : decode cX7_isSchoolDay 18 = .ok (.iconst 2, 1) := by decide +kernel
theorem dX7_isSchoolDay_19 : decode cX7_isSchoolDay 19 = .ok (.iaload, 1) := by decide +kernel
theorem dX7_isSchoolDay_20 : decode cX7_isSchoolDay 20 = .ok (.if_icmp .ge 44, 3) := by decide +kernel
theorem dX7_isSchoolDay_23 : decode cX7_isSchoolDay 23 = .ok (.iload_n 2, 1) := by decide +kernel
theorem dX7_isSchoolDay_24 : decode cX7_isSchoolDay 24 = .ok (.ifCond .eq 32, 3) := by decide +kernel
theorem dX7_isSchoolDay_27 : decode cX7_isSchoolDay 27 = .ok (.iload_n 1, 1) := by decide +kernel
theorem dX7_isSchoolDay_28 : decode cX7_isSchoolDay 28 = .ok (.aload_n 0, 1) := by decide +kernel
theorem dX7_isSchoolDay_29 : decode cX7_isSchoolDay 29 = .ok (.bipush 9, 2) := by decide +kernel
theorem dX7_isSchoolDay_31 : decode cX7_isSchoolDay 31 = .ok (.iconst 2, 1) := by decide +kernel
theorem dX7_isSchoolDay_32 : decode cX7_isSchoolDay 32 = .ok (.iload_n 3, 1) := by decide +kernel
theorem dX7_isSchoolDay_33 : decode cX7_isSchoolDay 33 = .ok (.imul, 1) := by decide +kernel
theorem dX7_isSchoolDay_34 : decode cX7_isSchoolDay 34 = .ok (.iadd, 1) := by decide +kernel
theorem dX7_isSchoolDay_35 : decode cX7_isSchoolDay 35 = .ok (.iaload, 1) := by decide +kernel
theorem dX7_isSchoolDay_36 : decode cX7_isSchoolDay 36 = .ok (.aload_n 0, 1) := by decide +kernel
theorem dX7_isSchoolDay_37 : decode cX7_isSchoolDay 37 = .ok (.bipush 9, 2) := by decide +kernel
theorem dX7_isSchoolDay_39 : decode cX7_isSchoolDay 39 = .ok (.iconst 2, 1) := by decide +kernel
theorem dX7_isSchoolDay_40 : decode cX7_isSchoolDay 40 = .ok (.iload_n 3, 1) := by decide +kernel
theorem dX7_isSchoolDay_41 : decode cX7_isSchoolDay 41 = .ok (.imul, 1) := by decide +kernel
theorem dX7_isSchoolDay_42 : decode cX7_isSchoolDay 42 = .ok (.iadd, 1) := by decide +kernel
theorem dX7_isSchoolDay_43 : decode cX7_isSchoolDay 43 = .ok (.iconst 1, 1) := by decide +kernel
theorem dX7_isSchoolDay_44 : decode cX7_isSchoolDay 44 = .ok (.iadd, 1) := by decide +kernel
theorem dX7_isSchoolDay_45 : decode cX7_isSchoolDay 45 = .ok (.iaload, 1) := by decide +kernel
theorem dX7_isSchoolDay_46 : decode cX7_isSchoolDay 46 = .ok (.invokestatic 44, 3) := by decide +kernel
theorem dX7_isSchoolDay_49 : decode cX7_isSchoolDay 49 = .ok (.ifCond .ne 7, 3) := by decide +kernel
theorem dX7_isSchoolDay_52 : decode cX7_isSchoolDay 52 = .ok (.iconst 1, 1) := by decide +kernel
theorem dX7_isSchoolDay_53 : decode cX7_isSchoolDay 53 = .ok (.goto 4, 3) := by decide +kernel
theorem dX7_isSchoolDay_56 : decode cX7_isSchoolDay 56 = .ok (.iconst 0, 1) := by decide +kernel
theorem dX7_isSchoolDay_57 : decode cX7_isSchoolDay 57 = .ok (.istore_n 2, 1) := by decide +kernel
theorem dX7_isSchoolDay_58 : decode cX7_isSchoolDay 58 = .ok (.iinc 3 1, 3) := by decide +kernel
theorem dX7_isSchoolDay_61 : decode cX7_isSchoolDay 61 = .ok (.goto (-45), 3) := by decide +kernel
theorem dX7_isSchoolDay_64 : decode cX7_isSchoolDay 64 = .ok (.iload_n 2, 1) := by decide +kernel
theorem dX7_isSchoolDay_65 : decode cX7_isSchoolDay 65 = .ok (.ireturn, 1) := by decide +kernel
theorem iX7_isSchoolDay_0 {v0 : Value} {x : Int32} {Ls st : List Value} {h : AH} : ev L xs mdX7_isSchoolDay 0 (v0 :: .int x :: Ls) (st) h = ev L xs mdX7_isSchoolDay 1 (v0 :: .int x :: Ls) (.int x :: st) (h) := e_iload_n dX7_isSchoolDay_0 rfl
theorem iX7_isSchoolDay_1  {Ls st : List Value} {h : AH} : ev L xs mdX7_isSchoolDay 1 (Ls) (st) h = ev L xs mdX7_isSchoolDay 3 (Ls) (.int (nI 7) :: st) (h) := e_bipush dX7_isSchoolDay_1 (by decide)
theorem iX7_isSchoolDay_3 {x z : Int32} {Ls st : List Value} {h : AH} (hz : ¬ z = 0) : ev L xs mdX7_isSchoolDay 3 (Ls) (.int z :: .int x :: st) h = ev L xs mdX7_isSchoolDay 4 (Ls) (.int (x - x / z * z) :: st) (h) := e_irem dX7_isSchoolDay_3 hz
theorem iX7_isSchoolDay_4  {Ls st : List Value} {h : AH} : ev L xs mdX7_isSchoolDay 4 (Ls) (st) h = ev L xs mdX7_isSchoolDay 5 (Ls) (.int (nI 5) :: st) (h) := e_iconst dX7_isSchoolDay_4 (by decide)
theorem iX7_isSchoolDay_5 {x z : Int32} {Ls st : List Value} {h : AH} : ev L xs mdX7_isSchoolDay 5 Ls (.int z :: .int x :: st) h = if z ≤ x then ev L xs mdX7_isSchoolDay 12 Ls st h else ev L xs mdX7_isSchoolDay 8 Ls st h := e_ic_ge dX7_isSchoolDay_5 (by decide)
theorem iX7_isSchoolDay_8  {Ls st : List Value} {h : AH} : ev L xs mdX7_isSchoolDay 8 (Ls) (st) h = ev L xs mdX7_isSchoolDay 9 (Ls) (.int (nI 1) :: st) (h) := e_iconst dX7_isSchoolDay_8 (by decide)
theorem iX7_isSchoolDay_9  {Ls st : List Value} {h : AH} : ev L xs mdX7_isSchoolDay 9 (Ls) (st) h = ev L xs mdX7_isSchoolDay 13 (Ls) (st) (h) := e_goto dX7_isSchoolDay_9 (by decide)
theorem iX7_isSchoolDay_12  {Ls st : List Value} {h : AH} : ev L xs mdX7_isSchoolDay 12 (Ls) (st) h = ev L xs mdX7_isSchoolDay 13 (Ls) (.int (nI 0) :: st) (h) := e_iconst dX7_isSchoolDay_12 (by decide)
theorem iX7_isSchoolDay_13 {v0 : Value} {v1 : Value} {v2 : Value} {x : Int32} {Ls st : List Value} {h : AH} (hc9 : v1.category = 1) : ev L xs mdX7_isSchoolDay 13 (v0 :: v1 :: v2 :: Ls) (.int x :: st) h = ev L xs mdX7_isSchoolDay 14 (v0 :: v1 :: .int x :: Ls) (st) (h) := e_istore_n dX7_isSchoolDay_13 rfl (by decide) (by unfold catOK; show (_ || (v1.category == 1)) = true; rw [hc9]; rfl)
theorem iX7_isSchoolDay_14  {Ls st : List Value} {h : AH} : ev L xs mdX7_isSchoolDay 14 (Ls) (st) h = ev L xs mdX7_isSchoolDay 15 (Ls) (.int (nI 0) :: st) (h) := e_iconst dX7_isSchoolDay_14 (by decide)
theorem iX7_isSchoolDay_15 {v0 : Value} {v1 : Value} {v2 : Value} {v3 : Value} {x : Int32} {Ls st : List Value} {h : AH} (hc9 : v2.category = 1) : ev L xs mdX7_isSchoolDay 15 (v0 :: v1 :: v2 :: v3 :: Ls) (.int x :: st) h = ev L xs mdX7_isSchoolDay 16 (v0 :: v1 :: v2 :: .int x :: Ls) (st) (h) := e_istore_n dX7_isSchoolDay_15 rfl (by decide) (by unfold catOK; show (_ || (v2.category == 1)) = true; rw [hc9]; rfl)
theorem iX7_isSchoolDay_16 {v0 : Value} {v1 : Value} {v2 : Value} {x : Int32} {Ls st : List Value} {h : AH} : ev L xs mdX7_isSchoolDay 16 (v0 :: v1 :: v2 :: .int x :: Ls) (st) h = ev L xs mdX7_isSchoolDay 17 (v0 :: v1 :: v2 :: .int x :: Ls) (.int x :: st) (h) := e_iload_n dX7_isSchoolDay_16 rfl
theorem iX7_isSchoolDay_17 {x : Nat} {Ls st : List Value} {h : AH} : ev L xs mdX7_isSchoolDay 17 (.ref x :: Ls) (st) h = ev L xs mdX7_isSchoolDay 18 (.ref x :: Ls) (.ref x :: st) (h) := e_aload_n dX7_isSchoolDay_17 rfl
theorem iX7_isSchoolDay_18  {Ls st : List Value} {h : AH} : ev L xs mdX7_isSchoolDay 18 (Ls) (st) h = ev L xs mdX7_isSchoolDay 19 (Ls) (.int (nI 2) :: st) (h) := e_iconst dX7_isSchoolDay_18 (by decide)
theorem iX7_isSchoolDay_19 {a : Nat} {j : Int32} {Ls st : List Value} {h : AH} (hk : hK h a = 8) (hi : inA j (hN h a) = true) : ev L xs mdX7_isSchoolDay 19 (Ls) (.int j :: .ref a :: st) h = ev L xs mdX7_isSchoolDay 20 (Ls) (.int (hA h a j.toNatClampNeg) :: st) (h) := e_iald dX7_isSchoolDay_19 hk hi
theorem iX7_isSchoolDay_20 {x z : Int32} {Ls st : List Value} {h : AH} : ev L xs mdX7_isSchoolDay 20 Ls (.int z :: .int x :: st) h = if z ≤ x then ev L xs mdX7_isSchoolDay 64 Ls st h else ev L xs mdX7_isSchoolDay 23 Ls st h := e_ic_ge dX7_isSchoolDay_20 (by decide)
theorem iX7_isSchoolDay_23 {v0 : Value} {v1 : Value} {x : Int32} {Ls st : List Value} {h : AH} : ev L xs mdX7_isSchoolDay 23 (v0 :: v1 :: .int x :: Ls) (st) h = ev L xs mdX7_isSchoolDay 24 (v0 :: v1 :: .int x :: Ls) (.int x :: st) (h) := e_iload_n dX7_isSchoolDay_23 rfl
theorem iX7_isSchoolDay_24 {x : Int32} {Ls st : List Value} {h : AH} : ev L xs mdX7_isSchoolDay 24 Ls (.int x :: st) h = if x = nI 0 then ev L xs mdX7_isSchoolDay 56 Ls st h else ev L xs mdX7_isSchoolDay 27 Ls st h := e_if_eq dX7_isSchoolDay_24 (by decide)
theorem iX7_isSchoolDay_27 {v0 : Value} {x : Int32} {Ls st : List Value} {h : AH} : ev L xs mdX7_isSchoolDay 27 (v0 :: .int x :: Ls) (st) h = ev L xs mdX7_isSchoolDay 28 (v0 :: .int x :: Ls) (.int x :: st) (h) := e_iload_n dX7_isSchoolDay_27 rfl
theorem iX7_isSchoolDay_28 {x : Nat} {Ls st : List Value} {h : AH} : ev L xs mdX7_isSchoolDay 28 (.ref x :: Ls) (st) h = ev L xs mdX7_isSchoolDay 29 (.ref x :: Ls) (.ref x :: st) (h) := e_aload_n dX7_isSchoolDay_28 rfl
theorem iX7_isSchoolDay_29  {Ls st : List Value} {h : AH} : ev L xs mdX7_isSchoolDay 29 (Ls) (st) h = ev L xs mdX7_isSchoolDay 31 (Ls) (.int (nI 9) :: st) (h) := e_bipush dX7_isSchoolDay_29 (by decide)
theorem iX7_isSchoolDay_31  {Ls st : List Value} {h : AH} : ev L xs mdX7_isSchoolDay 31 (Ls) (st) h = ev L xs mdX7_isSchoolDay 32 (Ls) (.int (nI 2) :: st) (h) := e_iconst dX7_isSchoolDay_31 (by decide)
theorem iX7_isSchoolDay_32 {v0 : Value} {v1 : Value} {v2 : Value} {x : Int32} {Ls st : List Value} {h : AH} : ev L xs mdX7_isSchoolDay 32 (v0 :: v1 :: v2 :: .int x :: Ls) (st) h = ev L xs mdX7_isSchoolDay 33 (v0 :: v1 :: v2 :: .int x :: Ls) (.int x :: st) (h) := e_iload_n dX7_isSchoolDay_32 rfl
theorem iX7_isSchoolDay_33 {x z : Int32} {Ls st : List Value} {h : AH} : ev L xs mdX7_isSchoolDay 33 (Ls) (.int z :: .int x :: st) h = ev L xs mdX7_isSchoolDay 34 (Ls) (.int (x * z) :: st) (h) := e_imul dX7_isSchoolDay_33
theorem iX7_isSchoolDay_34 {x z : Int32} {Ls st : List Value} {h : AH} : ev L xs mdX7_isSchoolDay 34 (Ls) (.int z :: .int x :: st) h = ev L xs mdX7_isSchoolDay 35 (Ls) (.int (x + z) :: st) (h) := e_iadd dX7_isSchoolDay_34
theorem iX7_isSchoolDay_35 {a : Nat} {j : Int32} {Ls st : List Value} {h : AH} (hk : hK h a = 8) (hi : inA j (hN h a) = true) : ev L xs mdX7_isSchoolDay 35 (Ls) (.int j :: .ref a :: st) h = ev L xs mdX7_isSchoolDay 36 (Ls) (.int (hA h a j.toNatClampNeg) :: st) (h) := e_iald dX7_isSchoolDay_35 hk hi
theorem iX7_isSchoolDay_36 {x : Nat} {Ls st : List Value} {h : AH} : ev L xs mdX7_isSchoolDay 36 (.ref x :: Ls) (st) h = ev L xs mdX7_isSchoolDay 37 (.ref x :: Ls) (.ref x :: st) (h) := e_aload_n dX7_isSchoolDay_36 rfl
theorem iX7_isSchoolDay_37  {Ls st : List Value} {h : AH} : ev L xs mdX7_isSchoolDay 37 (Ls) (st) h = ev L xs mdX7_isSchoolDay 39 (Ls) (.int (nI 9) :: st) (h) := e_bipush dX7_isSchoolDay_37 (by decide)
theorem iX7_isSchoolDay_39  {Ls st : List Value} {h : AH} : ev L xs mdX7_isSchoolDay 39 (Ls) (st) h = ev L xs mdX7_isSchoolDay 40 (Ls) (.int (nI 2) :: st) (h) := e_iconst dX7_isSchoolDay_39 (by decide)
theorem iX7_isSchoolDay_40 {v0 : Value} {v1 : Value} {v2 : Value} {x : Int32} {Ls st : List Value} {h : AH} : ev L xs mdX7_isSchoolDay 40 (v0 :: v1 :: v2 :: .int x :: Ls) (st) h = ev L xs mdX7_isSchoolDay 41 (v0 :: v1 :: v2 :: .int x :: Ls) (.int x :: st) (h) := e_iload_n dX7_isSchoolDay_40 rfl
theorem iX7_isSchoolDay_41 {x z : Int32} {Ls st : List Value} {h : AH} : ev L xs mdX7_isSchoolDay 41 (Ls) (.int z :: .int x :: st) h = ev L xs mdX7_isSchoolDay 42 (Ls) (.int (x * z) :: st) (h) := e_imul dX7_isSchoolDay_41
theorem iX7_isSchoolDay_42 {x z : Int32} {Ls st : List Value} {h : AH} : ev L xs mdX7_isSchoolDay 42 (Ls) (.int z :: .int x :: st) h = ev L xs mdX7_isSchoolDay 43 (Ls) (.int (x + z) :: st) (h) := e_iadd dX7_isSchoolDay_42
theorem iX7_isSchoolDay_43  {Ls st : List Value} {h : AH} : ev L xs mdX7_isSchoolDay 43 (Ls) (st) h = ev L xs mdX7_isSchoolDay 44 (Ls) (.int (nI 1) :: st) (h) := e_iconst dX7_isSchoolDay_43 (by decide)
theorem iX7_isSchoolDay_44 {x z : Int32} {Ls st : List Value} {h : AH} : ev L xs mdX7_isSchoolDay 44 (Ls) (.int z :: .int x :: st) h = ev L xs mdX7_isSchoolDay 45 (Ls) (.int (x + z) :: st) (h) := e_iadd dX7_isSchoolDay_44
theorem iX7_isSchoolDay_45 {a : Nat} {j : Int32} {Ls st : List Value} {h : AH} (hk : hK h a = 8) (hi : inA j (hN h a) = true) : ev L xs mdX7_isSchoolDay 45 (Ls) (.int j :: .ref a :: st) h = ev L xs mdX7_isSchoolDay 46 (Ls) (.int (hA h a j.toNatClampNeg) :: st) (h) := e_iald dX7_isSchoolDay_45 hk hi
theorem iX7_isSchoolDay_46 {p0 : Int32} {p1 : Int32} {p2 : Int32} {Ls st : List Value} {h : AH} (hw : wds st ≤ 8) : ev L xs mdX7_isSchoolDay 46 Ls (.int p2 :: .int p1 :: .int p0 :: st) h = kn L xs mdX7_isSchoolDay 46 49 Ls st (ev L xs mdX7_in 0 [.int p0, .int p1, .int p2] [] h) := e_callS (as := [.int p2, .int p1, .int p0]) dX7_isSchoolDay_46 mr_7_44 (by decide) (by decide) rfl (by simp [wds, Value.category]; decide) rfl hw
theorem iX7_isSchoolDay_49 {x : Int32} {Ls st : List Value} {h : AH} : ev L xs mdX7_isSchoolDay 49 Ls (.int x :: st) h = if x = nI 0 then ev L xs mdX7_isSchoolDay 52 Ls st h else ev L xs mdX7_isSchoolDay 56 Ls st h := e_if_ne dX7_isSchoolDay_49 (by decide)
theorem iX7_isSchoolDay_52  {Ls st : List Value} {h : AH} : ev L xs mdX7_isSchoolDay 52 (Ls) (st) h = ev L xs mdX7_isSchoolDay 53 (Ls) (.int (nI 1) :: st) (h) := e_iconst dX7_isSchoolDay_52 (by decide)
theorem iX7_isSchoolDay_53  {Ls st : List Value} {h : AH} : ev L xs mdX7_isSchoolDay 53 (Ls) (st) h = ev L xs mdX7_isSchoolDay 57 (Ls) (st) (h) := e_goto dX7_isSchoolDay_53 (by decide)
theorem iX7_isSchoolDay_56  {Ls st : List Value} {h : AH} : ev L xs mdX7_isSchoolDay 56 (Ls) (st) h = ev L xs mdX7_isSchoolDay 57 (Ls) (.int (nI 0) :: st) (h) := e_iconst dX7_isSchoolDay_56 (by decide)
theorem iX7_isSchoolDay_57 {v0 : Value} {v1 : Value} {v2 : Value} {x : Int32} {Ls st : List Value} {h : AH} (hc9 : v1.category = 1) : ev L xs mdX7_isSchoolDay 57 (v0 :: v1 :: v2 :: Ls) (.int x :: st) h = ev L xs mdX7_isSchoolDay 58 (v0 :: v1 :: .int x :: Ls) (st) (h) := e_istore_n dX7_isSchoolDay_57 rfl (by decide) (by unfold catOK; show (_ || (v1.category == 1)) = true; rw [hc9]; rfl)
theorem iX7_isSchoolDay_58 {v0 : Value} {v1 : Value} {v2 : Value} {x : Int32} {Ls st : List Value} {h : AH} (hc9 : v2.category = 1) : ev L xs mdX7_isSchoolDay 58 (v0 :: v1 :: v2 :: .int x :: Ls) (st) h = ev L xs mdX7_isSchoolDay 61 (v0 :: v1 :: v2 :: .int (x + (nI 1)) :: Ls) (st) (h) := e_iinc dX7_isSchoolDay_58 rfl rfl rfl (by decide) (by unfold catOK; show (_ || (v2.category == 1)) = true; rw [hc9]; rfl)
theorem iX7_isSchoolDay_61  {Ls st : List Value} {h : AH} : ev L xs mdX7_isSchoolDay 61 (Ls) (st) h = ev L xs mdX7_isSchoolDay 16 (Ls) (st) (h) := e_goto dX7_isSchoolDay_61 (by decide)
theorem iX7_isSchoolDay_64 {v0 : Value} {v1 : Value} {x : Int32} {Ls st : List Value} {h : AH} : ev L xs mdX7_isSchoolDay 64 (v0 :: v1 :: .int x :: Ls) (st) h = ev L xs mdX7_isSchoolDay 65 (v0 :: v1 :: .int x :: Ls) (.int x :: st) (h) := e_iload_n dX7_isSchoolDay_64 rfl
theorem iX7_isSchoolDay_65 {v : Int32} {Ls : List Value} {h : AH} (hv : v = nI 0 ∨ v = nI 1) : ev L xs mdX7_isSchoolDay 65 Ls [.int v] h = some (.inl (some (.int v), h)) := e_zret dX7_isSchoolDay_65 rfl hv
theorem dX7_isSick_0 : decode cX7_isSick 0 = .ok (.iload_n 3, 1) := by decide +kernel
theorem dX7_isSick_1 : decode cX7_isSick 1 = .ok (.aload_n 1, 1) := by decide +kernel
theorem dX7_isSick_2 : decode cX7_isSick 2 = .ok (.iload_n 2, 1) := by decide +kernel
theorem dX7_isSick_3 : decode cX7_isSick 3 = .ok (.bipush 6, 2) := by decide +kernel
theorem dX7_isSick_5 : decode cX7_isSick 5 = .ok (.invokestatic 56, 3) := by decide +kernel
theorem dX7_isSick_8 : decode cX7_isSick 8 = .ok (.if_icmp .lt 11, 3) := by decide +kernel
theorem dX7_isSick_11 : decode cX7_isSick 11 = .ok (.iload_n 2, 1) := by decide +kernel
theorem dX7_isSick_12 : decode cX7_isSick 12 = .ok (.aload_n 0, 1) := by decide +kernel
theorem dX7_isSick_13 : decode cX7_isSick 13 = .ok (.getfield 38, 3) := by decide +kernel
theorem dX7_isSick_16 : decode cX7_isSick 16 = .ok (.if_icmp .ne 7, 3) := by decide +kernel
theorem dX7_isSick_19 : decode cX7_isSick 19 = .ok (.iconst 1, 1) := by decide +kernel
theorem dX7_isSick_20 : decode cX7_isSick 20 = .ok (.goto 4, 3) := by decide +kernel
theorem dX7_isSick_23 : decode cX7_isSick 23 = .ok (.iconst 0, 1) := by decide +kernel
theorem dX7_isSick_24 : decode cX7_isSick 24 = .ok (.ireturn, 1) := by decide +kernel
theorem iX7_isSick_0 {v0 : Value} {v1 : Value} {v2 : Value} {x : Int32} {Ls st : List Value} {h : AH} : ev L xs mdX7_isSick 0 (v0 :: v1 :: v2 :: .int x :: Ls) (st) h = ev L xs mdX7_isSick 1 (v0 :: v1 :: v2 :: .int x :: Ls) (.int x :: st) (h) := e_iload_n dX7_isSick_0 rfl
theorem iX7_isSick_1 {v0 : Value} {x : Nat} {Ls st : List Value} {h : AH} : ev L xs mdX7_isSick 1 (v0 :: .ref x :: Ls) (st) h = ev L xs mdX7_isSick 2 (v0 :: .ref x :: Ls) (.ref x :: st) (h) := e_aload_n dX7_isSick_1 rfl
theorem iX7_isSick_2 {v0 : Value} {v1 : Value} {x : Int32} {Ls st : List Value} {h : AH} : ev L xs mdX7_isSick 2 (v0 :: v1 :: .int x :: Ls) (st) h = ev L xs mdX7_isSick 3 (v0 :: v1 :: .int x :: Ls) (.int x :: st) (h) := e_iload_n dX7_isSick_2 rfl
theorem iX7_isSick_3  {Ls st : List Value} {h : AH} : ev L xs mdX7_isSick 3 (Ls) (st) h = ev L xs mdX7_isSick 5 (Ls) (.int (nI 6) :: st) (h) := e_bipush dX7_isSick_3 (by decide)
theorem iX7_isSick_5 {p0 : Nat} {p1 : Int32} {p2 : Int32} {Ls st : List Value} {h : AH} (hw : wds st ≤ 8) : ev L xs mdX7_isSick 5 Ls (.int p2 :: .int p1 :: .ref p0 :: st) h = kn L xs mdX7_isSick 5 8 Ls st (ev L xs mdX7_by 0 [.ref p0, .int p1, .int p2] [] h) := e_callS (as := [.int p2, .int p1, .ref p0]) dX7_isSick_5 mr_7_56 (by decide) (by decide) rfl (by simp [wds, Value.category]; decide) rfl hw
theorem iX7_isSick_8 {x z : Int32} {Ls st : List Value} {h : AH} : ev L xs mdX7_isSick 8 Ls (.int z :: .int x :: st) h = if x < z then ev L xs mdX7_isSick 19 Ls st h else ev L xs mdX7_isSick 11 Ls st h := e_ic_lt dX7_isSick_8 (by decide)
theorem iX7_isSick_11 {v0 : Value} {v1 : Value} {x : Int32} {Ls st : List Value} {h : AH} : ev L xs mdX7_isSick 11 (v0 :: v1 :: .int x :: Ls) (st) h = ev L xs mdX7_isSick 12 (v0 :: v1 :: .int x :: Ls) (.int x :: st) (h) := e_iload_n dX7_isSick_11 rfl
theorem iX7_isSick_12 {x : Nat} {Ls st : List Value} {h : AH} : ev L xs mdX7_isSick 12 (.ref x :: Ls) (st) h = ev L xs mdX7_isSick 13 (.ref x :: Ls) (.ref x :: st) (h) := e_aload_n dX7_isSick_12 rfl
theorem iX7_isSick_13 {a : Nat} {Ls st : List Value} {h : AH} (hk : hK h a = 7) : ev L xs mdX7_isSick 13 (Ls) (.ref a :: st) h = ev L xs mdX7_isSick 16 (Ls) (.int (hI h 122 a) :: st) (h) := e_getI (k := 7) (f := 10) (F := 122) dX7_isSick_13 (by decide +kernel) rfl rfl hk
theorem iX7_isSick_16 {x z : Int32} {Ls st : List Value} {h : AH} : ev L xs mdX7_isSick 16 Ls (.int z :: .int x :: st) h = if x = z then ev L xs mdX7_isSick 19 Ls st h else ev L xs mdX7_isSick 23 Ls st h := e_ic_ne dX7_isSick_16 (by decide)
theorem iX7_isSick_19  {Ls st : List Value} {h : AH} : ev L xs mdX7_isSick 19 (Ls) (st) h = ev L xs mdX7_isSick 20 (Ls) (.int (nI 1) :: st) (h) := e_iconst dX7_isSick_19 (by decide)
theorem iX7_isSick_20  {Ls st : List Value} {h : AH} : ev L xs mdX7_isSick 20 (Ls) (st) h = ev L xs mdX7_isSick 24 (Ls) (st) (h) := e_goto dX7_isSick_20 (by decide)
theorem iX7_isSick_23  {Ls st : List Value} {h : AH} : ev L xs mdX7_isSick 23 (Ls) (st) h = ev L xs mdX7_isSick 24 (Ls) (.int (nI 0) :: st) (h) := e_iconst dX7_isSick_23 (by decide)
theorem iX7_isSick_24 {v : Int32} {Ls : List Value} {h : AH} (hv : v = nI 0 ∨ v = nI 1) : ev L xs mdX7_isSick 24 Ls [.int v] h = some (.inl (some (.int v), h)) := e_zret dX7_isSick_24 rfl hv
theorem dX7_isTime_0 : decode cX7_isTime 0 = .ok (.iload_n 0, 1) := by decide +kernel
theorem dX7_isTime_1 : decode cX7_isTime 1 = .ok (.iconst 0, 1) := by decide +kernel
theorem dX7_isTime_2 : decode cX7_isTime 2 = .ok (.sipush 3000, 3) := by decide +kernel
theorem dX7_isTime_5 : decode cX7_isTime 5 = .ok (.invokestatic 44, 3) := by decide +kernel
theorem dX7_isTime_8 : decode cX7_isTime 8 = .ok (.ifCond .eq 16, 3) := by decide +kernel
theorem dX7_isTime_11 : decode cX7_isTime 11 = .ok (.iload_n 1, 1) := by decide +kernel
theorem dX7_isTime_12 : decode cX7_isTime 12 = .ok (.iconst 0, 1) := by decide +kernel
theorem dX7_isTime_13 : decode cX7_isTime 13 = .ok (.iconst 1, 1) := by decide +kernel
theorem dX7_isTime_14 : decode cX7_isTime 14 = .ok (.invokestatic 44, 3) := by decide +kernel
theorem dX7_isTime_17 : decode cX7_isTime 17 = .ok (.ifCond .eq 7, 3) := by decide +kernel
theorem dX7_isTime_20 : decode cX7_isTime 20 = .ok (.iconst 1, 1) := by decide +kernel
theorem dX7_isTime_21 : decode cX7_isTime 21 = .ok (.goto 4, 3) := by decide +kernel
theorem dX7_isTime_24 : decode cX7_isTime 24 = .ok (.iconst 0, 1) := by decide +kernel
theorem dX7_isTime_25 : decode cX7_isTime 25 = .ok (.ireturn, 1) := by decide +kernel
theorem iX7_isTime_0 {x : Int32} {Ls st : List Value} {h : AH} : ev L xs mdX7_isTime 0 (.int x :: Ls) (st) h = ev L xs mdX7_isTime 1 (.int x :: Ls) (.int x :: st) (h) := e_iload_n dX7_isTime_0 rfl
theorem iX7_isTime_1  {Ls st : List Value} {h : AH} : ev L xs mdX7_isTime 1 (Ls) (st) h = ev L xs mdX7_isTime 2 (Ls) (.int (nI 0) :: st) (h) := e_iconst dX7_isTime_1 (by decide)
theorem iX7_isTime_2  {Ls st : List Value} {h : AH} : ev L xs mdX7_isTime 2 (Ls) (st) h = ev L xs mdX7_isTime 5 (Ls) (.int (nI 3000) :: st) (h) := e_sipush dX7_isTime_2 (by decide)
theorem iX7_isTime_5 {p0 : Int32} {p1 : Int32} {p2 : Int32} {Ls st : List Value} {h : AH} (hw : wds st ≤ 8) : ev L xs mdX7_isTime 5 Ls (.int p2 :: .int p1 :: .int p0 :: st) h = kn L xs mdX7_isTime 5 8 Ls st (ev L xs mdX7_in 0 [.int p0, .int p1, .int p2] [] h) := e_callS (as := [.int p2, .int p1, .int p0]) dX7_isTime_5 mr_7_44 (by decide) (by decide) rfl (by simp [wds, Value.category]; decide) rfl hw
theorem iX7_isTime_8 {x : Int32} {Ls st : List Value} {h : AH} : ev L xs mdX7_isTime 8 Ls (.int x :: st) h = if x = nI 0 then ev L xs mdX7_isTime 24 Ls st h else ev L xs mdX7_isTime 11 Ls st h := e_if_eq dX7_isTime_8 (by decide)
theorem iX7_isTime_11 {v0 : Value} {x : Int32} {Ls st : List Value} {h : AH} : ev L xs mdX7_isTime 11 (v0 :: .int x :: Ls) (st) h = ev L xs mdX7_isTime 12 (v0 :: .int x :: Ls) (.int x :: st) (h) := e_iload_n dX7_isTime_11 rfl
theorem iX7_isTime_12  {Ls st : List Value} {h : AH} : ev L xs mdX7_isTime 12 (Ls) (st) h = ev L xs mdX7_isTime 13 (Ls) (.int (nI 0) :: st) (h) := e_iconst dX7_isTime_12 (by decide)
theorem iX7_isTime_13  {Ls st : List Value} {h : AH} : ev L xs mdX7_isTime 13 (Ls) (st) h = ev L xs mdX7_isTime 14 (Ls) (.int (nI 1) :: st) (h) := e_iconst dX7_isTime_13 (by decide)
theorem iX7_isTime_14 {p0 : Int32} {p1 : Int32} {p2 : Int32} {Ls st : List Value} {h : AH} (hw : wds st ≤ 8) : ev L xs mdX7_isTime 14 Ls (.int p2 :: .int p1 :: .int p0 :: st) h = kn L xs mdX7_isTime 14 17 Ls st (ev L xs mdX7_in 0 [.int p0, .int p1, .int p2] [] h) := e_callS (as := [.int p2, .int p1, .int p0]) dX7_isTime_14 mr_7_44 (by decide) (by decide) rfl (by simp [wds, Value.category]; decide) rfl hw
theorem iX7_isTime_17 {x : Int32} {Ls st : List Value} {h : AH} : ev L xs mdX7_isTime 17 Ls (.int x :: st) h = if x = nI 0 then ev L xs mdX7_isTime 24 Ls st h else ev L xs mdX7_isTime 20 Ls st h := e_if_eq dX7_isTime_17 (by decide)
theorem iX7_isTime_20  {Ls st : List Value} {h : AH} : ev L xs mdX7_isTime 20 (Ls) (st) h = ev L xs mdX7_isTime 21 (Ls) (.int (nI 1) :: st) (h) := e_iconst dX7_isTime_20 (by decide)
theorem iX7_isTime_21  {Ls st : List Value} {h : AH} : ev L xs mdX7_isTime 21 (Ls) (st) h = ev L xs mdX7_isTime 25 (Ls) (st) (h) := e_goto dX7_isTime_21 (by decide)
theorem iX7_isTime_24  {Ls st : List Value} {h : AH} : ev L xs mdX7_isTime 24 (Ls) (st) h = ev L xs mdX7_isTime 25 (Ls) (.int (nI 0) :: st) (h) := e_iconst dX7_isTime_24 (by decide)
theorem iX7_isTime_25 {v : Int32} {Ls : List Value} {h : AH} (hv : v = nI 0 ∨ v = nI 1) : ev L xs mdX7_isTime 25 Ls [.int v] h = some (.inl (some (.int v), h)) := e_zret dX7_isTime_25 rfl hv
theorem dX7_look_0 : decode cX7_look 0 = .ok (.aload_n 0, 1) := by decide +kernel
theorem dX7_look_1 : decode cX7_look 1 = .ok (.aload_n 1, 1) := by decide +kernel
theorem dX7_look_2 : decode cX7_look 2 = .ok (.iload_n 2, 1) := by decide +kernel
theorem dX7_look_3 : decode cX7_look 3 = .ok (.iload_n 3, 1) := by decide +kernel
theorem dX7_look_4 : decode cX7_look 4 = .ok (.invokevirtual 73, 3) := by decide +kernel
theorem dX7_look_7 : decode cX7_look 7 = .ok (.iconst 0, 1) := by decide +kernel
theorem dX7_look_8 : decode cX7_look 8 = .ok (.istore 5, 2) := by decide +kernel
theorem dX7_look_10 : decode cX7_look 10 = .ok (.iconst 0, 1) := by decide +kernel
theorem dX7_look_11 : decode cX7_look 11 = .ok (.istore 6, 2) := by decide +kernel
theorem dX7_look_13 : decode cX7_look 13 = .ok (.iload 6, 2) := by decide +kernel
theorem dX7_look_15 : decode cX7_look 15 = .ok (.iconst 2, 1) := by decide +kernel
theorem dX7_look_16 : decode cX7_look 16 = .ok (.aload_n 1, 1) := by decide +kernel
theorem dX7_look_17 : decode cX7_look 17 = .ok (.iconst 3, 1) := by decide +kernel
theorem dX7_look_18 : decode cX7_look 18 = .ok (.iaload, 1) := by decide +kernel
theorem dX7_look_19 : decode cX7_look 19 = .ok (.imul, 1) := by decide +kernel
theorem dX7_look_20 : decode cX7_look 20 = .ok (.if_icmp .ge 142, 3) := by decide +kernel
theorem dX7_look_23 : decode cX7_look 23 = .ok (.iload 6, 2) := by decide +kernel
theorem dX7_look_25 : decode cX7_look 25 = .ok (.aload_n 1, 1) := by decide +kernel
theorem dX7_look_26 : decode cX7_look 26 = .ok (.iconst 3, 1) := by decide +kernel
theorem dX7_look_27 : decode cX7_look 27 = .ok (.iaload, 1) := by decide +kernel
theorem dX7_look_28 : decode cX7_look 28 = .ok (.irem, 1) := by decide +kernel
theorem dX7_look_29 : decode cX7_look 29 = .ok (.istore 7, 2) := by decide +kernel
theorem dX7_look_31 : decode cX7_look 31 = .ok (.aload_n 1, 1) := by decide +kernel
theorem dX7_look_32 : decode cX7_look 32 = .ok (.iload 7, 2) := by decide +kernel
theorem dX7_look_34 : decode cX7_look 34 = .ok (.iconst 5, 1) := by decide +kernel
theorem dX7_look_35 : decode cX7_look 35 = .ok (.invokestatic 48, 3) := by decide +kernel
theorem dX7_look_38 : decode cX7_look 38 = .ok (.iload 4, 2) := by decide +kernel
theorem dX7_look_40 : decode cX7_look 40 = .ok (.if_icmp .le 7, 3) := by decide +kernel
theorem dX7_look_43 : decode cX7_look 43 = .ok (.iconst 1, 1) := by decide +kernel
theorem dX7_look_44 : decode cX7_look 44 = .ok (.goto 4, 3) := by decide +kernel
theorem dX7_look_47 : decode cX7_look 47 = .ok (.iconst 0, 1) := by decide +kernel
theorem dX7_look_48 : decode cX7_look 48 = .ok (.iload 6, 2) := by decide +kernel
theorem dX7_look_50 : decode cX7_look 50 = .ok (.aload_n 1, 1) := by decide +kernel
theorem dX7_look_51 : decode cX7_look 51 = .ok (.iconst 3, 1) := by decide +kernel
theorem dX7_look_52 : decode cX7_look 52 = .ok (.iaload, 1) := by decide +kernel
theorem dX7_look_53 : decode cX7_look 53 = .ok (.if_icmp .ge 7, 3) := by decide +kernel
theorem dX7_look_56 : decode cX7_look 56 = .ok (.iconst 1, 1) := by decide +kernel
theorem dX7_look_57 : decode cX7_look 57 = .ok (.goto 4, 3) := by decide +kernel
theorem dX7_look_60 : decode cX7_look 60 = .ok (.iconst 0, 1) := by decide +kernel
theorem dX7_look_61 : decode cX7_look 61 = .ok (.if_icmp .ne 7, 3) := by decide +kernel
theorem dX7_look_64 : decode cX7_look 64 = .ok (.iconst 1, 1) := by decide +kernel
theorem dX7_look_65 : decode cX7_look 65 = .ok (.goto 4, 3) := by decide +kernel
theorem dX7_look_68 : decode cX7_look 68 = .ok (.iconst 0, 1) := by decide +kernel
theorem dX7_look_69 : decode cX7_look 69 = .ok (.istore 8, 2) := by decide +kernel
theorem dX7_look_71 : decode cX7_look 71 = .ok (.iload 8, 2) := by decide +kernel
theorem dX7_look_73 : decode cX7_look 73 = .ok (.ifCond .eq 83, 3) := by decide +kernel
theorem dX7_look_76 : decode cX7_look 76 = .ok (.aload_n 0, 1) := by decide +kernel
theorem dX7_look_77 : decode cX7_look 77 = .ok (.getfield 22, 3) := by decide +kernel
theorem dX7_look_80 : decode cX7_look 80 = .ok (.iload 7, 2) := by decide +kernel
theorem dX7_look_82 : decode cX7_look 82 = .ok (.iaload, 1) := by decide +kernel
theorem dX7_look_83 : decode cX7_look 83 = .ok (.iconst (-1), 1) := by decide +kernel
theorem dX7_look_84 : decode cX7_look 84 = .ok (.if_icmp .ne 72, 3) := by decide +kernel
theorem dX7_look_87 : decode cX7_look 87 = .ok (.aload_n 1, 1) := by decide +kernel
theorem dX7_look_88 : decode cX7_look 88 = .ok (.iload 7, 2) := by decide +kernel
theorem dX7_look_90 : decode cX7_look 90 = .ok (.iload_n 2, 1) := by decide +kernel
theorem dX7_look_91 : decode cX7_look 91 = .ok (.iload_n 3, 1) := by decide +kernel
theorem dX7_look_92 : decode cX7_look 92 = .ok (.invokestatic 63, 3) := by decide +kernel
theorem dX7_look_95 : decode cX7_look 95 = .ok (.ifCond .eq 61, 3) := by decide +kernel
theorem dX7_look_98 : decode cX7_look 98 = .ok (.aload_n 0, 1) := by decide +kernel
theorem dX7_look_99 : decode cX7_look 99 = .ok (.aload_n 1, 1) := by decide +kernel
theorem dX7_look_100 : decode cX7_look 100 = .ok (.iload 7, 2) := by decide +kernel
theorem dX7_look_102 : decode cX7_look 102 = .ok (.iload_n 2, 1) := by decide +kernel
theorem dX7_look_103 : decode cX7_look 103 = .ok (.invokevirtual 77, 3) := by decide +kernel
theorem dX7_look_106 : decode cX7_look 106 = .ok (.istore 9, 2) := by decide +kernel
theorem dX7_look_108 : decode cX7_look 108 = .ok (.aload_n 0, 1) := by decide +kernel
theorem dX7_look_109 : decode cX7_look 109 = .ok (.getfield 22, 3) := by decide +kernel
theorem dX7_look_112 : decode cX7_look 112 = .ok (.iload 7, 2) := by decide +kernel
theorem dX7_look_114 : decode cX7_look 114 = .ok (.iload 9, 2) := by decide +kernel
theorem dX7_look_116 : decode cX7_look 116 = .ok (.iastore, 1) := by decide +kernel
theorem dX7_look_117 : decode cX7_look 117 = .ok (.iload 9, 2) := by decide +kernel
theorem dX7_look_119 : decode cX7_look 119 = .ok (.iconst (-1), 1) := by decide +kernel
theorem dX7_look_120 : decode cX7_look 120 = .ok (.if_icmp .ne 28, 3) := by decide +kernel
theorem dX7_look_123 : decode cX7_look 123 = .ok (.aload_n 0, 1) := by decide +kernel
theorem dX7_look_124 : decode cX7_look 124 = .ok (.getfield 25, 3) := by decide +kernel
theorem dX7_look_127 : decode cX7_look 127 = .ok (.iload 7, 2) := by decide +kernel
theorem dX7_look_129 : decode cX7_look 129 = .ok (.aload_n 0, 1) := by decide +kernel
theorem dX7_look_130 : decode cX7_look 130 = .ok (.aload_n 1, 1) := by decide +kernel
theorem dX7_look_131 : decode cX7_look 131 = .ok (.iload_n 2, 1) := by decide +kernel
theorem dX7_look_132 : decode cX7_look 132 = .ok (.invokevirtual 80, 3) := by decide +kernel
theorem dX7_look_135 : decode cX7_look 135 = .ok (.iastore, 1) := by decide +kernel
theorem dX7_look_136 : decode cX7_look 136 = .ok (.iload 5, 2) := by decide +kernel
theorem dX7_look_138 : decode cX7_look 138 = .ok (.iconst 1, 1) := by decide +kernel
theorem dX7_look_139 : decode cX7_look 139 = .ok (.iload 7, 2) := by decide +kernel
theorem dX7_look_141 : decode cX7_look 141 = .ok (.ishl, 1) := by decide +kernel
theorem dX7_look_142 : decode cX7_look 142 = .ok (.ior, 1) := by decide +kernel
theorem dX7_look_143 : decode cX7_look 143 = .ok (.istore 5, 2) := by decide +kernel
theorem dX7_look_145 : decode cX7_look 145 = .ok (.goto 11, 3) := by decide +kernel
theorem dX7_look_148 : decode cX7_look 148 = .ok (.aload_n 0, 1) := by decide +kernel
theorem dX7_look_149 : decode cX7_look 149 = .ok (.getfield 28, 3) := by decide +kernel
theorem dX7_look_152 : decode cX7_look 152 = .ok (.iload 9, 2) := by decide +kernel
theorem dX7_look_154 : decode cX7_look 154 = .ok (.iconst 1, 1) := by decide +kernel
theorem dX7_look_155 : decode cX7_look 155 = .ok (.iastore, 1) := by decide +kernel
theorem dX7_look_156 : decode cX7_look 156 = .ok (.iinc 6 1, 3) := by decide +kernel
theorem dX7_look_159 : decode cX7_look 159 = .ok (.goto (-146), 3) := by decide +kernel
theorem dX7_look_162 : decode cX7_look 162 = .ok (.iload 5, 2) := by decide +kernel
theorem dX7_look_164 : decode cX7_look 164 = .ok (.ireturn, 1) := by decide +kernel
theorem iX7_look_0 {x : Nat} {Ls st : List Value} {h : AH} : ev L xs mdX7_look 0 (.ref x :: Ls) (st) h = ev L xs mdX7_look 1 (.ref x :: Ls) (.ref x :: st) (h) := e_aload_n dX7_look_0 rfl
theorem iX7_look_1 {v0 : Value} {x : Nat} {Ls st : List Value} {h : AH} : ev L xs mdX7_look 1 (v0 :: .ref x :: Ls) (st) h = ev L xs mdX7_look 2 (v0 :: .ref x :: Ls) (.ref x :: st) (h) := e_aload_n dX7_look_1 rfl
theorem iX7_look_2 {v0 : Value} {v1 : Value} {x : Int32} {Ls st : List Value} {h : AH} : ev L xs mdX7_look 2 (v0 :: v1 :: .int x :: Ls) (st) h = ev L xs mdX7_look 3 (v0 :: v1 :: .int x :: Ls) (.int x :: st) (h) := e_iload_n dX7_look_2 rfl
theorem iX7_look_3 {v0 : Value} {v1 : Value} {v2 : Value} {x : Int32} {Ls st : List Value} {h : AH} : ev L xs mdX7_look 3 (v0 :: v1 :: v2 :: .int x :: Ls) (st) h = ev L xs mdX7_look 4 (v0 :: v1 :: v2 :: .int x :: Ls) (.int x :: st) (h) := e_iload_n dX7_look_3 rfl
theorem iX7_look_4 {a : Nat} {p0 : Nat} {p1 : Int32} {p2 : Int32} {Ls st : List Value} {h : AH} (hk : hK h a = 7) (hw : wds st ≤ 8) : ev L xs mdX7_look 4 Ls (.int p2 :: .int p1 :: .ref p0 :: .ref a :: st) h = kn L xs mdX7_look 4 7 Ls st (ev L xs mdX7_standAtOwn 0 [.ref a, .ref p0, .int p1, .int p2, .null, .null] [] h) := e_callV (as := [.int p2, .int p1, .ref p0]) dX7_look_4 mr_7_73 (by decide) (by decide) rfl (by simp [wds, Value.category]; decide) rfl (by decide) hk hw
theorem iX7_look_7  {Ls st : List Value} {h : AH} : ev L xs mdX7_look 7 (Ls) (st) h = ev L xs mdX7_look 8 (Ls) (.int (nI 0) :: st) (h) := e_iconst dX7_look_7 (by decide)
theorem iX7_look_8 {v0 : Value} {v1 : Value} {v2 : Value} {v3 : Value} {v4 : Value} {v5 : Value} {x : Int32} {Ls st : List Value} {h : AH} (hc9 : v4.category = 1) : ev L xs mdX7_look 8 (v0 :: v1 :: v2 :: v3 :: v4 :: v5 :: Ls) (.int x :: st) h = ev L xs mdX7_look 10 (v0 :: v1 :: v2 :: v3 :: v4 :: .int x :: Ls) (st) (h) := e_istore dX7_look_8 rfl (by decide) (by unfold catOK; show (_ || (v4.category == 1)) = true; rw [hc9]; rfl)
theorem iX7_look_10  {Ls st : List Value} {h : AH} : ev L xs mdX7_look 10 (Ls) (st) h = ev L xs mdX7_look 11 (Ls) (.int (nI 0) :: st) (h) := e_iconst dX7_look_10 (by decide)
theorem iX7_look_11 {v0 : Value} {v1 : Value} {v2 : Value} {v3 : Value} {v4 : Value} {v5 : Value} {v6 : Value} {x : Int32} {Ls st : List Value} {h : AH} (hc9 : v5.category = 1) : ev L xs mdX7_look 11 (v0 :: v1 :: v2 :: v3 :: v4 :: v5 :: v6 :: Ls) (.int x :: st) h = ev L xs mdX7_look 13 (v0 :: v1 :: v2 :: v3 :: v4 :: v5 :: .int x :: Ls) (st) (h) := e_istore dX7_look_11 rfl (by decide) (by unfold catOK; show (_ || (v5.category == 1)) = true; rw [hc9]; rfl)
theorem iX7_look_13 {v0 : Value} {v1 : Value} {v2 : Value} {v3 : Value} {v4 : Value} {v5 : Value} {x : Int32} {Ls st : List Value} {h : AH} : ev L xs mdX7_look 13 (v0 :: v1 :: v2 :: v3 :: v4 :: v5 :: .int x :: Ls) (st) h = ev L xs mdX7_look 15 (v0 :: v1 :: v2 :: v3 :: v4 :: v5 :: .int x :: Ls) (.int x :: st) (h) := e_iload dX7_look_13 rfl
theorem iX7_look_15  {Ls st : List Value} {h : AH} : ev L xs mdX7_look 15 (Ls) (st) h = ev L xs mdX7_look 16 (Ls) (.int (nI 2) :: st) (h) := e_iconst dX7_look_15 (by decide)
theorem iX7_look_16 {v0 : Value} {x : Nat} {Ls st : List Value} {h : AH} : ev L xs mdX7_look 16 (v0 :: .ref x :: Ls) (st) h = ev L xs mdX7_look 17 (v0 :: .ref x :: Ls) (.ref x :: st) (h) := e_aload_n dX7_look_16 rfl
theorem iX7_look_17  {Ls st : List Value} {h : AH} : ev L xs mdX7_look 17 (Ls) (st) h = ev L xs mdX7_look 18 (Ls) (.int (nI 3) :: st) (h) := e_iconst dX7_look_17 (by decide)
theorem iX7_look_18 {a : Nat} {j : Int32} {Ls st : List Value} {h : AH} (hk : hK h a = 8) (hi : inA j (hN h a) = true) : ev L xs mdX7_look 18 (Ls) (.int j :: .ref a :: st) h = ev L xs mdX7_look 19 (Ls) (.int (hA h a j.toNatClampNeg) :: st) (h) := e_iald dX7_look_18 hk hi
theorem iX7_look_19 {x z : Int32} {Ls st : List Value} {h : AH} : ev L xs mdX7_look 19 (Ls) (.int z :: .int x :: st) h = ev L xs mdX7_look 20 (Ls) (.int (x * z) :: st) (h) := e_imul dX7_look_19
theorem iX7_look_20 {x z : Int32} {Ls st : List Value} {h : AH} : ev L xs mdX7_look 20 Ls (.int z :: .int x :: st) h = if z ≤ x then ev L xs mdX7_look 162 Ls st h else ev L xs mdX7_look 23 Ls st h := e_ic_ge dX7_look_20 (by decide)
theorem iX7_look_23 {v0 : Value} {v1 : Value} {v2 : Value} {v3 : Value} {v4 : Value} {v5 : Value} {x : Int32} {Ls st : List Value} {h : AH} : ev L xs mdX7_look 23 (v0 :: v1 :: v2 :: v3 :: v4 :: v5 :: .int x :: Ls) (st) h = ev L xs mdX7_look 25 (v0 :: v1 :: v2 :: v3 :: v4 :: v5 :: .int x :: Ls) (.int x :: st) (h) := e_iload dX7_look_23 rfl
theorem iX7_look_25 {v0 : Value} {x : Nat} {Ls st : List Value} {h : AH} : ev L xs mdX7_look 25 (v0 :: .ref x :: Ls) (st) h = ev L xs mdX7_look 26 (v0 :: .ref x :: Ls) (.ref x :: st) (h) := e_aload_n dX7_look_25 rfl
theorem iX7_look_26  {Ls st : List Value} {h : AH} : ev L xs mdX7_look 26 (Ls) (st) h = ev L xs mdX7_look 27 (Ls) (.int (nI 3) :: st) (h) := e_iconst dX7_look_26 (by decide)
theorem iX7_look_27 {a : Nat} {j : Int32} {Ls st : List Value} {h : AH} (hk : hK h a = 8) (hi : inA j (hN h a) = true) : ev L xs mdX7_look 27 (Ls) (.int j :: .ref a :: st) h = ev L xs mdX7_look 28 (Ls) (.int (hA h a j.toNatClampNeg) :: st) (h) := e_iald dX7_look_27 hk hi
theorem iX7_look_28 {x z : Int32} {Ls st : List Value} {h : AH} (hz : ¬ z = 0) : ev L xs mdX7_look 28 (Ls) (.int z :: .int x :: st) h = ev L xs mdX7_look 29 (Ls) (.int (x - x / z * z) :: st) (h) := e_irem dX7_look_28 hz
theorem iX7_look_29 {v0 : Value} {v1 : Value} {v2 : Value} {v3 : Value} {v4 : Value} {v5 : Value} {v6 : Value} {v7 : Value} {x : Int32} {Ls st : List Value} {h : AH} (hc9 : v6.category = 1) : ev L xs mdX7_look 29 (v0 :: v1 :: v2 :: v3 :: v4 :: v5 :: v6 :: v7 :: Ls) (.int x :: st) h = ev L xs mdX7_look 31 (v0 :: v1 :: v2 :: v3 :: v4 :: v5 :: v6 :: .int x :: Ls) (st) (h) := e_istore dX7_look_29 rfl (by decide) (by unfold catOK; show (_ || (v6.category == 1)) = true; rw [hc9]; rfl)
theorem iX7_look_31 {v0 : Value} {x : Nat} {Ls st : List Value} {h : AH} : ev L xs mdX7_look 31 (v0 :: .ref x :: Ls) (st) h = ev L xs mdX7_look 32 (v0 :: .ref x :: Ls) (.ref x :: st) (h) := e_aload_n dX7_look_31 rfl
theorem iX7_look_32 {v0 : Value} {v1 : Value} {v2 : Value} {v3 : Value} {v4 : Value} {v5 : Value} {v6 : Value} {x : Int32} {Ls st : List Value} {h : AH} : ev L xs mdX7_look 32 (v0 :: v1 :: v2 :: v3 :: v4 :: v5 :: v6 :: .int x :: Ls) (st) h = ev L xs mdX7_look 34 (v0 :: v1 :: v2 :: v3 :: v4 :: v5 :: v6 :: .int x :: Ls) (.int x :: st) (h) := e_iload dX7_look_32 rfl
theorem iX7_look_34  {Ls st : List Value} {h : AH} : ev L xs mdX7_look 34 (Ls) (st) h = ev L xs mdX7_look 35 (Ls) (.int (nI 5) :: st) (h) := e_iconst dX7_look_34 (by decide)
theorem iX7_look_35 {p0 : Nat} {p1 : Int32} {p2 : Int32} {Ls st : List Value} {h : AH} (hw : wds st ≤ 8) : ev L xs mdX7_look 35 Ls (.int p2 :: .int p1 :: .ref p0 :: st) h = kn L xs mdX7_look 35 38 Ls st (ev L xs mdX7_of 0 [.ref p0, .int p1, .int p2] [] h) := e_callS (as := [.int p2, .int p1, .ref p0]) dX7_look_35 mr_7_48 (by decide) (by decide) rfl (by simp [wds, Value.category]; decide) rfl hw
theorem iX7_look_38 {v0 : Value} {v1 : Value} {v2 : Value} {v3 : Value} {x : Int32} {Ls st : List Value} {h : AH} : ev L xs mdX7_look 38 (v0 :: v1 :: v2 :: v3 :: .int x :: Ls) (st) h = ev L xs mdX7_look 40 (v0 :: v1 :: v2 :: v3 :: .int x :: Ls) (.int x :: st) (h) := e_iload dX7_look_38 rfl
theorem iX7_look_40 {x z : Int32} {Ls st : List Value} {h : AH} : ev L xs mdX7_look 40 Ls (.int z :: .int x :: st) h = if x ≤ z then ev L xs mdX7_look 47 Ls st h else ev L xs mdX7_look 43 Ls st h := e_ic_le dX7_look_40 (by decide)
theorem iX7_look_43  {Ls st : List Value} {h : AH} : ev L xs mdX7_look 43 (Ls) (st) h = ev L xs mdX7_look 44 (Ls) (.int (nI 1) :: st) (h) := e_iconst dX7_look_43 (by decide)
theorem iX7_look_44  {Ls st : List Value} {h : AH} : ev L xs mdX7_look 44 (Ls) (st) h = ev L xs mdX7_look 48 (Ls) (st) (h) := e_goto dX7_look_44 (by decide)
theorem iX7_look_47  {Ls st : List Value} {h : AH} : ev L xs mdX7_look 47 (Ls) (st) h = ev L xs mdX7_look 48 (Ls) (.int (nI 0) :: st) (h) := e_iconst dX7_look_47 (by decide)
theorem iX7_look_48 {v0 : Value} {v1 : Value} {v2 : Value} {v3 : Value} {v4 : Value} {v5 : Value} {x : Int32} {Ls st : List Value} {h : AH} : ev L xs mdX7_look 48 (v0 :: v1 :: v2 :: v3 :: v4 :: v5 :: .int x :: Ls) (st) h = ev L xs mdX7_look 50 (v0 :: v1 :: v2 :: v3 :: v4 :: v5 :: .int x :: Ls) (.int x :: st) (h) := e_iload dX7_look_48 rfl
theorem iX7_look_50 {v0 : Value} {x : Nat} {Ls st : List Value} {h : AH} : ev L xs mdX7_look 50 (v0 :: .ref x :: Ls) (st) h = ev L xs mdX7_look 51 (v0 :: .ref x :: Ls) (.ref x :: st) (h) := e_aload_n dX7_look_50 rfl
theorem iX7_look_51  {Ls st : List Value} {h : AH} : ev L xs mdX7_look 51 (Ls) (st) h = ev L xs mdX7_look 52 (Ls) (.int (nI 3) :: st) (h) := e_iconst dX7_look_51 (by decide)
theorem iX7_look_52 {a : Nat} {j : Int32} {Ls st : List Value} {h : AH} (hk : hK h a = 8) (hi : inA j (hN h a) = true) : ev L xs mdX7_look 52 (Ls) (.int j :: .ref a :: st) h = ev L xs mdX7_look 53 (Ls) (.int (hA h a j.toNatClampNeg) :: st) (h) := e_iald dX7_look_52 hk hi
theorem iX7_look_53 {x z : Int32} {Ls st : List Value} {h : AH} : ev L xs mdX7_look 53 Ls (.int z :: .int x :: st) h = if z ≤ x then ev L xs mdX7_look 60 Ls st h else ev L xs mdX7_look 56 Ls st h := e_ic_ge dX7_look_53 (by decide)
theorem iX7_look_56  {Ls st : List Value} {h : AH} : ev L xs mdX7_look 56 (Ls) (st) h = ev L xs mdX7_look 57 (Ls) (.int (nI 1) :: st) (h) := e_iconst dX7_look_56 (by decide)
theorem iX7_look_57  {Ls st : List Value} {h : AH} : ev L xs mdX7_look 57 (Ls) (st) h = ev L xs mdX7_look 61 (Ls) (st) (h) := e_goto dX7_look_57 (by decide)
theorem iX7_look_60  {Ls st : List Value} {h : AH} : ev L xs mdX7_look 60 (Ls) (st) h = ev L xs mdX7_look 61 (Ls) (.int (nI 0) :: st) (h) := e_iconst dX7_look_60 (by decide)
theorem iX7_look_61 {x z : Int32} {Ls st : List Value} {h : AH} : ev L xs mdX7_look 61 Ls (.int z :: .int x :: st) h = if x = z then ev L xs mdX7_look 64 Ls st h else ev L xs mdX7_look 68 Ls st h := e_ic_ne dX7_look_61 (by decide)
theorem iX7_look_64  {Ls st : List Value} {h : AH} : ev L xs mdX7_look 64 (Ls) (st) h = ev L xs mdX7_look 65 (Ls) (.int (nI 1) :: st) (h) := e_iconst dX7_look_64 (by decide)
theorem iX7_look_65  {Ls st : List Value} {h : AH} : ev L xs mdX7_look 65 (Ls) (st) h = ev L xs mdX7_look 69 (Ls) (st) (h) := e_goto dX7_look_65 (by decide)
theorem iX7_look_68  {Ls st : List Value} {h : AH} : ev L xs mdX7_look 68 (Ls) (st) h = ev L xs mdX7_look 69 (Ls) (.int (nI 0) :: st) (h) := e_iconst dX7_look_68 (by decide)
theorem iX7_look_69 {v0 : Value} {v1 : Value} {v2 : Value} {v3 : Value} {v4 : Value} {v5 : Value} {v6 : Value} {v7 : Value} {v8 : Value} {x : Int32} {Ls st : List Value} {h : AH} (hc9 : v7.category = 1) : ev L xs mdX7_look 69 (v0 :: v1 :: v2 :: v3 :: v4 :: v5 :: v6 :: v7 :: v8 :: Ls) (.int x :: st) h = ev L xs mdX7_look 71 (v0 :: v1 :: v2 :: v3 :: v4 :: v5 :: v6 :: v7 :: .int x :: Ls) (st) (h) := e_istore dX7_look_69 rfl (by decide) (by unfold catOK; show (_ || (v7.category == 1)) = true; rw [hc9]; rfl)
theorem iX7_look_71 {v0 : Value} {v1 : Value} {v2 : Value} {v3 : Value} {v4 : Value} {v5 : Value} {v6 : Value} {v7 : Value} {x : Int32} {Ls st : List Value} {h : AH} : ev L xs mdX7_look 71 (v0 :: v1 :: v2 :: v3 :: v4 :: v5 :: v6 :: v7 :: .int x :: Ls) (st) h = ev L xs mdX7_look 73 (v0 :: v1 :: v2 :: v3 :: v4 :: v5 :: v6 :: v7 :: .int x :: Ls) (.int x :: st) (h) := e_iload dX7_look_71 rfl
theorem iX7_look_73 {x : Int32} {Ls st : List Value} {h : AH} : ev L xs mdX7_look 73 Ls (.int x :: st) h = if x = nI 0 then ev L xs mdX7_look 156 Ls st h else ev L xs mdX7_look 76 Ls st h := e_if_eq dX7_look_73 (by decide)
theorem iX7_look_76 {x : Nat} {Ls st : List Value} {h : AH} : ev L xs mdX7_look 76 (.ref x :: Ls) (st) h = ev L xs mdX7_look 77 (.ref x :: Ls) (.ref x :: st) (h) := e_aload_n dX7_look_76 rfl
theorem iX7_look_77 {a : Nat} {Ls st : List Value} {h : AH} (hk : hK h a = 7) (hj : (hR h 119 a).isSome = true) : ev L xs mdX7_look 77 (Ls) (.ref a :: st) h = ev L xs mdX7_look 80 (Ls) (.ref ((hR h 119 a).getD 0) :: st) (h) := e_getR (k := 7) (f := 7) (F := 119) dX7_look_77 (by decide +kernel) rfl rfl hk hj
theorem iX7_look_80 {v0 : Value} {v1 : Value} {v2 : Value} {v3 : Value} {v4 : Value} {v5 : Value} {v6 : Value} {x : Int32} {Ls st : List Value} {h : AH} : ev L xs mdX7_look 80 (v0 :: v1 :: v2 :: v3 :: v4 :: v5 :: v6 :: .int x :: Ls) (st) h = ev L xs mdX7_look 82 (v0 :: v1 :: v2 :: v3 :: v4 :: v5 :: v6 :: .int x :: Ls) (.int x :: st) (h) := e_iload dX7_look_80 rfl
theorem iX7_look_82 {a : Nat} {j : Int32} {Ls st : List Value} {h : AH} (hk : hK h a = 8) (hi : inA j (hN h a) = true) : ev L xs mdX7_look 82 (Ls) (.int j :: .ref a :: st) h = ev L xs mdX7_look 83 (Ls) (.int (hA h a j.toNatClampNeg) :: st) (h) := e_iald dX7_look_82 hk hi
theorem iX7_look_83  {Ls st : List Value} {h : AH} : ev L xs mdX7_look 83 (Ls) (st) h = ev L xs mdX7_look 84 (Ls) (.int (-1) :: st) (h) := e_iconst dX7_look_83 (by decide)
theorem iX7_look_84 {x z : Int32} {Ls st : List Value} {h : AH} : ev L xs mdX7_look 84 Ls (.int z :: .int x :: st) h = if x = z then ev L xs mdX7_look 87 Ls st h else ev L xs mdX7_look 156 Ls st h := e_ic_ne dX7_look_84 (by decide)
theorem iX7_look_87 {v0 : Value} {x : Nat} {Ls st : List Value} {h : AH} : ev L xs mdX7_look 87 (v0 :: .ref x :: Ls) (st) h = ev L xs mdX7_look 88 (v0 :: .ref x :: Ls) (.ref x :: st) (h) := e_aload_n dX7_look_87 rfl
theorem iX7_look_88 {v0 : Value} {v1 : Value} {v2 : Value} {v3 : Value} {v4 : Value} {v5 : Value} {v6 : Value} {x : Int32} {Ls st : List Value} {h : AH} : ev L xs mdX7_look 88 (v0 :: v1 :: v2 :: v3 :: v4 :: v5 :: v6 :: .int x :: Ls) (st) h = ev L xs mdX7_look 90 (v0 :: v1 :: v2 :: v3 :: v4 :: v5 :: v6 :: .int x :: Ls) (.int x :: st) (h) := e_iload dX7_look_88 rfl
theorem iX7_look_90 {v0 : Value} {v1 : Value} {x : Int32} {Ls st : List Value} {h : AH} : ev L xs mdX7_look 90 (v0 :: v1 :: .int x :: Ls) (st) h = ev L xs mdX7_look 91 (v0 :: v1 :: .int x :: Ls) (.int x :: st) (h) := e_iload_n dX7_look_90 rfl
theorem iX7_look_91 {v0 : Value} {v1 : Value} {v2 : Value} {x : Int32} {Ls st : List Value} {h : AH} : ev L xs mdX7_look 91 (v0 :: v1 :: v2 :: .int x :: Ls) (st) h = ev L xs mdX7_look 92 (v0 :: v1 :: v2 :: .int x :: Ls) (.int x :: st) (h) := e_iload_n dX7_look_91 rfl
theorem iX7_look_92 {p0 : Nat} {p1 : Int32} {p2 : Int32} {p3 : Int32} {Ls st : List Value} {h : AH} (hw : wds st ≤ 8) : ev L xs mdX7_look 92 Ls (.int p3 :: .int p2 :: .int p1 :: .ref p0 :: st) h = kn L xs mdX7_look 92 95 Ls st (ev L xs mdX7_isNeeded 0 [.ref p0, .int p1, .int p2, .int p3] [] h) := e_callS (as := [.int p3, .int p2, .int p1, .ref p0]) dX7_look_92 mr_7_63 (by decide) (by decide) rfl (by simp [wds, Value.category]; decide) rfl hw
theorem iX7_look_95 {x : Int32} {Ls st : List Value} {h : AH} : ev L xs mdX7_look 95 Ls (.int x :: st) h = if x = nI 0 then ev L xs mdX7_look 156 Ls st h else ev L xs mdX7_look 98 Ls st h := e_if_eq dX7_look_95 (by decide)
theorem iX7_look_98 {x : Nat} {Ls st : List Value} {h : AH} : ev L xs mdX7_look 98 (.ref x :: Ls) (st) h = ev L xs mdX7_look 99 (.ref x :: Ls) (.ref x :: st) (h) := e_aload_n dX7_look_98 rfl
theorem iX7_look_99 {v0 : Value} {x : Nat} {Ls st : List Value} {h : AH} : ev L xs mdX7_look 99 (v0 :: .ref x :: Ls) (st) h = ev L xs mdX7_look 100 (v0 :: .ref x :: Ls) (.ref x :: st) (h) := e_aload_n dX7_look_99 rfl
theorem iX7_look_100 {v0 : Value} {v1 : Value} {v2 : Value} {v3 : Value} {v4 : Value} {v5 : Value} {v6 : Value} {x : Int32} {Ls st : List Value} {h : AH} : ev L xs mdX7_look 100 (v0 :: v1 :: v2 :: v3 :: v4 :: v5 :: v6 :: .int x :: Ls) (st) h = ev L xs mdX7_look 102 (v0 :: v1 :: v2 :: v3 :: v4 :: v5 :: v6 :: .int x :: Ls) (.int x :: st) (h) := e_iload dX7_look_100 rfl
theorem iX7_look_102 {v0 : Value} {v1 : Value} {x : Int32} {Ls st : List Value} {h : AH} : ev L xs mdX7_look 102 (v0 :: v1 :: .int x :: Ls) (st) h = ev L xs mdX7_look 103 (v0 :: v1 :: .int x :: Ls) (.int x :: st) (h) := e_iload_n dX7_look_102 rfl
theorem iX7_look_103 {a : Nat} {p0 : Nat} {p1 : Int32} {p2 : Int32} {Ls st : List Value} {h : AH} (hk : hK h a = 7) (hw : wds st ≤ 8) : ev L xs mdX7_look 103 Ls (.int p2 :: .int p1 :: .ref p0 :: .ref a :: st) h = kn L xs mdX7_look 103 106 Ls st (ev L xs mdX7_replacementFor 0 [.ref a, .ref p0, .int p1, .int p2, .null, .null, .null] [] h) := e_callV (as := [.int p2, .int p1, .ref p0]) dX7_look_103 mr_7_77 (by decide) (by decide) rfl (by simp [wds, Value.category]; decide) rfl (by decide) hk hw
theorem iX7_look_106 {v0 : Value} {v1 : Value} {v2 : Value} {v3 : Value} {v4 : Value} {v5 : Value} {v6 : Value} {v7 : Value} {v8 : Value} {v9 : Value} {x : Int32} {Ls st : List Value} {h : AH} (hc9 : v8.category = 1) : ev L xs mdX7_look 106 (v0 :: v1 :: v2 :: v3 :: v4 :: v5 :: v6 :: v7 :: v8 :: v9 :: Ls) (.int x :: st) h = ev L xs mdX7_look 108 (v0 :: v1 :: v2 :: v3 :: v4 :: v5 :: v6 :: v7 :: v8 :: .int x :: Ls) (st) (h) := e_istore dX7_look_106 rfl (by decide) (by unfold catOK; show (_ || (v8.category == 1)) = true; rw [hc9]; rfl)
theorem iX7_look_108 {x : Nat} {Ls st : List Value} {h : AH} : ev L xs mdX7_look 108 (.ref x :: Ls) (st) h = ev L xs mdX7_look 109 (.ref x :: Ls) (.ref x :: st) (h) := e_aload_n dX7_look_108 rfl
theorem iX7_look_109 {a : Nat} {Ls st : List Value} {h : AH} (hk : hK h a = 7) (hj : (hR h 119 a).isSome = true) : ev L xs mdX7_look 109 (Ls) (.ref a :: st) h = ev L xs mdX7_look 112 (Ls) (.ref ((hR h 119 a).getD 0) :: st) (h) := e_getR (k := 7) (f := 7) (F := 119) dX7_look_109 (by decide +kernel) rfl rfl hk hj
theorem iX7_look_112 {v0 : Value} {v1 : Value} {v2 : Value} {v3 : Value} {v4 : Value} {v5 : Value} {v6 : Value} {x : Int32} {Ls st : List Value} {h : AH} : ev L xs mdX7_look 112 (v0 :: v1 :: v2 :: v3 :: v4 :: v5 :: v6 :: .int x :: Ls) (st) h = ev L xs mdX7_look 114 (v0 :: v1 :: v2 :: v3 :: v4 :: v5 :: v6 :: .int x :: Ls) (.int x :: st) (h) := e_iload dX7_look_112 rfl
theorem iX7_look_114 {v0 : Value} {v1 : Value} {v2 : Value} {v3 : Value} {v4 : Value} {v5 : Value} {v6 : Value} {v7 : Value} {v8 : Value} {x : Int32} {Ls st : List Value} {h : AH} : ev L xs mdX7_look 114 (v0 :: v1 :: v2 :: v3 :: v4 :: v5 :: v6 :: v7 :: v8 :: .int x :: Ls) (st) h = ev L xs mdX7_look 116 (v0 :: v1 :: v2 :: v3 :: v4 :: v5 :: v6 :: v7 :: v8 :: .int x :: Ls) (.int x :: st) (h) := e_iload dX7_look_114 rfl
theorem iX7_look_116 {a : Nat} {j : Int32} {v : Int32} {Ls st : List Value} {h : AH} (hk : hK h a = 8) (hi : inA j (hN h a) = true) : ev L xs mdX7_look 116 (Ls) (.int v :: .int j :: .ref a :: st) h = ev L xs mdX7_look 117 (Ls) (st) (sA h a j.toNatClampNeg v) := e_iast dX7_look_116 hk hi
theorem iX7_look_117 {v0 : Value} {v1 : Value} {v2 : Value} {v3 : Value} {v4 : Value} {v5 : Value} {v6 : Value} {v7 : Value} {v8 : Value} {x : Int32} {Ls st : List Value} {h : AH} : ev L xs mdX7_look 117 (v0 :: v1 :: v2 :: v3 :: v4 :: v5 :: v6 :: v7 :: v8 :: .int x :: Ls) (st) h = ev L xs mdX7_look 119 (v0 :: v1 :: v2 :: v3 :: v4 :: v5 :: v6 :: v7 :: v8 :: .int x :: Ls) (.int x :: st) (h) := e_iload dX7_look_117 rfl
theorem iX7_look_119  {Ls st : List Value} {h : AH} : ev L xs mdX7_look 119 (Ls) (st) h = ev L xs mdX7_look 120 (Ls) (.int (-1) :: st) (h) := e_iconst dX7_look_119 (by decide)
theorem iX7_look_120 {x z : Int32} {Ls st : List Value} {h : AH} : ev L xs mdX7_look 120 Ls (.int z :: .int x :: st) h = if x = z then ev L xs mdX7_look 123 Ls st h else ev L xs mdX7_look 148 Ls st h := e_ic_ne dX7_look_120 (by decide)
theorem iX7_look_123 {x : Nat} {Ls st : List Value} {h : AH} : ev L xs mdX7_look 123 (.ref x :: Ls) (st) h = ev L xs mdX7_look 124 (.ref x :: Ls) (.ref x :: st) (h) := e_aload_n dX7_look_123 rfl
theorem iX7_look_124 {a : Nat} {Ls st : List Value} {h : AH} (hk : hK h a = 7) (hj : (hR h 120 a).isSome = true) : ev L xs mdX7_look 124 (Ls) (.ref a :: st) h = ev L xs mdX7_look 127 (Ls) (.ref ((hR h 120 a).getD 0) :: st) (h) := e_getR (k := 7) (f := 8) (F := 120) dX7_look_124 (by decide +kernel) rfl rfl hk hj
theorem iX7_look_127 {v0 : Value} {v1 : Value} {v2 : Value} {v3 : Value} {v4 : Value} {v5 : Value} {v6 : Value} {x : Int32} {Ls st : List Value} {h : AH} : ev L xs mdX7_look 127 (v0 :: v1 :: v2 :: v3 :: v4 :: v5 :: v6 :: .int x :: Ls) (st) h = ev L xs mdX7_look 129 (v0 :: v1 :: v2 :: v3 :: v4 :: v5 :: v6 :: .int x :: Ls) (.int x :: st) (h) := e_iload dX7_look_127 rfl
theorem iX7_look_129 {x : Nat} {Ls st : List Value} {h : AH} : ev L xs mdX7_look 129 (.ref x :: Ls) (st) h = ev L xs mdX7_look 130 (.ref x :: Ls) (.ref x :: st) (h) := e_aload_n dX7_look_129 rfl
theorem iX7_look_130 {v0 : Value} {x : Nat} {Ls st : List Value} {h : AH} : ev L xs mdX7_look 130 (v0 :: .ref x :: Ls) (st) h = ev L xs mdX7_look 131 (v0 :: .ref x :: Ls) (.ref x :: st) (h) := e_aload_n dX7_look_130 rfl
theorem iX7_look_131 {v0 : Value} {v1 : Value} {x : Int32} {Ls st : List Value} {h : AH} : ev L xs mdX7_look 131 (v0 :: v1 :: .int x :: Ls) (st) h = ev L xs mdX7_look 132 (v0 :: v1 :: .int x :: Ls) (.int x :: st) (h) := e_iload_n dX7_look_131 rfl
theorem iX7_look_132 {a : Nat} {p0 : Nat} {p1 : Int32} {Ls st : List Value} {h : AH} (hk : hK h a = 7) (hw : wds st ≤ 8) : ev L xs mdX7_look 132 Ls (.int p1 :: .ref p0 :: .ref a :: st) h = kn L xs mdX7_look 132 135 Ls st (ev L xs mdX7_reasonOn 0 [.ref a, .ref p0, .int p1, .null, .null, .null, .null] [] h) := e_callV (as := [.int p1, .ref p0]) dX7_look_132 mr_7_80 (by decide) (by decide) rfl (by simp [wds, Value.category]; decide) rfl (by decide) hk hw
theorem iX7_look_135 {a : Nat} {j : Int32} {v : Int32} {Ls st : List Value} {h : AH} (hk : hK h a = 8) (hi : inA j (hN h a) = true) : ev L xs mdX7_look 135 (Ls) (.int v :: .int j :: .ref a :: st) h = ev L xs mdX7_look 136 (Ls) (st) (sA h a j.toNatClampNeg v) := e_iast dX7_look_135 hk hi
theorem iX7_look_136 {v0 : Value} {v1 : Value} {v2 : Value} {v3 : Value} {v4 : Value} {x : Int32} {Ls st : List Value} {h : AH} : ev L xs mdX7_look 136 (v0 :: v1 :: v2 :: v3 :: v4 :: .int x :: Ls) (st) h = ev L xs mdX7_look 138 (v0 :: v1 :: v2 :: v3 :: v4 :: .int x :: Ls) (.int x :: st) (h) := e_iload dX7_look_136 rfl
theorem iX7_look_138  {Ls st : List Value} {h : AH} : ev L xs mdX7_look 138 (Ls) (st) h = ev L xs mdX7_look 139 (Ls) (.int (nI 1) :: st) (h) := e_iconst dX7_look_138 (by decide)
theorem iX7_look_139 {v0 : Value} {v1 : Value} {v2 : Value} {v3 : Value} {v4 : Value} {v5 : Value} {v6 : Value} {x : Int32} {Ls st : List Value} {h : AH} : ev L xs mdX7_look 139 (v0 :: v1 :: v2 :: v3 :: v4 :: v5 :: v6 :: .int x :: Ls) (st) h = ev L xs mdX7_look 141 (v0 :: v1 :: v2 :: v3 :: v4 :: v5 :: v6 :: .int x :: Ls) (.int x :: st) (h) := e_iload dX7_look_139 rfl
theorem iX7_look_141 {x z : Int32} {Ls st : List Value} {h : AH} : ev L xs mdX7_look 141 (Ls) (.int z :: .int x :: st) h = ev L xs mdX7_look 142 (Ls) (.int (x <<< (z &&& nI 31)) :: st) (h) := e_ishl dX7_look_141
theorem iX7_look_142 {x z : Int32} {Ls st : List Value} {h : AH} : ev L xs mdX7_look 142 (Ls) (.int z :: .int x :: st) h = ev L xs mdX7_look 143 (Ls) (.int (x ||| z) :: st) (h) := e_ior dX7_look_142
theorem iX7_look_143 {v0 : Value} {v1 : Value} {v2 : Value} {v3 : Value} {v4 : Value} {v5 : Value} {x : Int32} {Ls st : List Value} {h : AH} (hc9 : v4.category = 1) : ev L xs mdX7_look 143 (v0 :: v1 :: v2 :: v3 :: v4 :: v5 :: Ls) (.int x :: st) h = ev L xs mdX7_look 145 (v0 :: v1 :: v2 :: v3 :: v4 :: .int x :: Ls) (st) (h) := e_istore dX7_look_143 rfl (by decide) (by unfold catOK; show (_ || (v4.category == 1)) = true; rw [hc9]; rfl)
theorem iX7_look_145  {Ls st : List Value} {h : AH} : ev L xs mdX7_look 145 (Ls) (st) h = ev L xs mdX7_look 156 (Ls) (st) (h) := e_goto dX7_look_145 (by decide)
theorem iX7_look_148 {x : Nat} {Ls st : List Value} {h : AH} : ev L xs mdX7_look 148 (.ref x :: Ls) (st) h = ev L xs mdX7_look 149 (.ref x :: Ls) (.ref x :: st) (h) := e_aload_n dX7_look_148 rfl
theorem iX7_look_149 {a : Nat} {Ls st : List Value} {h : AH} (hk : hK h a = 7) (hj : (hR h 121 a).isSome = true) : ev L xs mdX7_look 149 (Ls) (.ref a :: st) h = ev L xs mdX7_look 152 (Ls) (.ref ((hR h 121 a).getD 0) :: st) (h) := e_getR (k := 7) (f := 9) (F := 121) dX7_look_149 (by decide +kernel) rfl rfl hk hj
theorem iX7_look_152 {v0 : Value} {v1 : Value} {v2 : Value} {v3 : Value} {v4 : Value} {v5 : Value} {v6 : Value} {v7 : Value} {v8 : Value} {x : Int32} {Ls st : List Value} {h : AH} : ev L xs mdX7_look 152 (v0 :: v1 :: v2 :: v3 :: v4 :: v5 :: v6 :: v7 :: v8 :: .int x :: Ls) (st) h = ev L xs mdX7_look 154 (v0 :: v1 :: v2 :: v3 :: v4 :: v5 :: v6 :: v7 :: v8 :: .int x :: Ls) (.int x :: st) (h) := e_iload dX7_look_152 rfl
theorem iX7_look_154  {Ls st : List Value} {h : AH} : ev L xs mdX7_look 154 (Ls) (st) h = ev L xs mdX7_look 155 (Ls) (.int (nI 1) :: st) (h) := e_iconst dX7_look_154 (by decide)
theorem iX7_look_155 {a : Nat} {j : Int32} {v : Int32} {Ls st : List Value} {h : AH} (hk : hK h a = 8) (hi : inA j (hN h a) = true) : ev L xs mdX7_look 155 (Ls) (.int v :: .int j :: .ref a :: st) h = ev L xs mdX7_look 156 (Ls) (st) (sA h a j.toNatClampNeg v) := e_iast dX7_look_155 hk hi
theorem iX7_look_156 {v0 : Value} {v1 : Value} {v2 : Value} {v3 : Value} {v4 : Value} {v5 : Value} {x : Int32} {Ls st : List Value} {h : AH} (hc9 : v5.category = 1) : ev L xs mdX7_look 156 (v0 :: v1 :: v2 :: v3 :: v4 :: v5 :: .int x :: Ls) (st) h = ev L xs mdX7_look 159 (v0 :: v1 :: v2 :: v3 :: v4 :: v5 :: .int (x + (nI 1)) :: Ls) (st) (h) := e_iinc dX7_look_156 rfl rfl rfl (by decide) (by unfold catOK; show (_ || (v5.category == 1)) = true; rw [hc9]; rfl)
theorem iX7_look_159  {Ls st : List Value} {h : AH} : ev L xs mdX7_look 159 (Ls) (st) h = ev L xs mdX7_look 13 (Ls) (st) (h) := e_goto dX7_look_159 (by decide)
theorem iX7_look_162 {v0 : Value} {v1 : Value} {v2 : Value} {v3 : Value} {v4 : Value} {x : Int32} {Ls st : List Value} {h : AH} : ev L xs mdX7_look 162 (v0 :: v1 :: v2 :: v3 :: v4 :: .int x :: Ls) (st) h = ev L xs mdX7_look 164 (v0 :: v1 :: v2 :: v3 :: v4 :: .int x :: Ls) (.int x :: st) (h) := e_iload dX7_look_162 rfl
theorem iX7_look_164 {v : Int32} {Ls : List Value} {h : AH} : ev L xs mdX7_look 164 Ls [.int v] h = some (.inl (some (.int v), h)) := e_iret dX7_look_164 rfl
theorem dX7_many_0 : decode cX7_many 0 = .ok (.iconst 0, 1) := by decide +kernel
theorem dX7_many_1 : decode cX7_many 1 = .ok (.istore_n 1, 1) := by decide +kernel
theorem dX7_many_2 : decode cX7_many 2 = .ok (.iconst 0, 1) := by decide +kernel
theorem dX7_many_3 : decode cX7_many 3 = .ok (.istore_n 2, 1) := by decide +kernel
theorem dX7_many_4 : decode cX7_many 4 = .ok (.iload_n 2, 1) := by decide +kernel
theorem dX7_many_5 : decode cX7_many 5 = .ok (.bipush 8, 2) := by decide +kernel
theorem dX7_many_7 : decode cX7_many 7 = .ok (.if_icmp .ge 17, 3) := by decide +kernel
theorem dX7_many_10 : decode cX7_many 10 = .ok (.iload_n 1, 1) := by decide +kernel
theorem dX7_many_11 : decode cX7_many 11 = .ok (.iload_n 0, 1) := by decide +kernel
theorem dX7_many_12 : decode cX7_many 12 = .ok (.iload_n 2, 1) := by decide +kernel
theorem dX7_many_13 : decode cX7_many 13 = .ok (.ishr, 1) := by decide +kernel
theorem dX7_many_14 : decode cX7_many 14 = .ok (.iconst 1, 1) := by decide +kernel
theorem dX7_many_15 : decode cX7_many 15 = .ok (.iand, 1) := by decide +kernel
theorem dX7_many_16 : decode cX7_many 16 = .ok (.iadd, 1) := by decide +kernel
theorem dX7_many_17 : decode cX7_many 17 = .ok (.istore_n 1, 1) := by decide +kernel
theorem dX7_many_18 : decode cX7_many 18 = .ok (.iinc 2 1, 3) := by decide +kernel
theorem dX7_many_21 : decode cX7_many 21 = .ok (.goto (-17), 3) := by decide +kernel
theorem dX7_many_24 : decode cX7_many 24 = .ok (.iload_n 1, 1) := by decide +kernel
theorem dX7_many_25 : decode cX7_many 25 = .ok (.ireturn, 1) := by decide +kernel
theorem iX7_many_0  {Ls st : List Value} {h : AH} : ev L xs mdX7_many 0 (Ls) (st) h = ev L xs mdX7_many 1 (Ls) (.int (nI 0) :: st) (h) := e_iconst dX7_many_0 (by decide)
theorem iX7_many_1 {v0 : Value} {v1 : Value} {x : Int32} {Ls st : List Value} {h : AH} (hc9 : v0.category = 1) : ev L xs mdX7_many 1 (v0 :: v1 :: Ls) (.int x :: st) h = ev L xs mdX7_many 2 (v0 :: .int x :: Ls) (st) (h) := e_istore_n dX7_many_1 rfl (by decide) (by unfold catOK; show (_ || (v0.category == 1)) = true; rw [hc9]; rfl)
theorem iX7_many_2  {Ls st : List Value} {h : AH} : ev L xs mdX7_many 2 (Ls) (st) h = ev L xs mdX7_many 3 (Ls) (.int (nI 0) :: st) (h) := e_iconst dX7_many_2 (by decide)
theorem iX7_many_3 {v0 : Value} {v1 : Value} {v2 : Value} {x : Int32} {Ls st : List Value} {h : AH} (hc9 : v1.category = 1) : ev L xs mdX7_many 3 (v0 :: v1 :: v2 :: Ls) (.int x :: st) h = ev L xs mdX7_many 4 (v0 :: v1 :: .int x :: Ls) (st) (h) := e_istore_n dX7_many_3 rfl (by decide) (by unfold catOK; show (_ || (v1.category == 1)) = true; rw [hc9]; rfl)
theorem iX7_many_4 {v0 : Value} {v1 : Value} {x : Int32} {Ls st : List Value} {h : AH} : ev L xs mdX7_many 4 (v0 :: v1 :: .int x :: Ls) (st) h = ev L xs mdX7_many 5 (v0 :: v1 :: .int x :: Ls) (.int x :: st) (h) := e_iload_n dX7_many_4 rfl
theorem iX7_many_5  {Ls st : List Value} {h : AH} : ev L xs mdX7_many 5 (Ls) (st) h = ev L xs mdX7_many 7 (Ls) (.int (nI 8) :: st) (h) := e_bipush dX7_many_5 (by decide)
theorem iX7_many_7 {x z : Int32} {Ls st : List Value} {h : AH} : ev L xs mdX7_many 7 Ls (.int z :: .int x :: st) h = if z ≤ x then ev L xs mdX7_many 24 Ls st h else ev L xs mdX7_many 10 Ls st h := e_ic_ge dX7_many_7 (by decide)
theorem iX7_many_10 {v0 : Value} {x : Int32} {Ls st : List Value} {h : AH} : ev L xs mdX7_many 10 (v0 :: .int x :: Ls) (st) h = ev L xs mdX7_many 11 (v0 :: .int x :: Ls) (.int x :: st) (h) := e_iload_n dX7_many_10 rfl
theorem iX7_many_11 {x : Int32} {Ls st : List Value} {h : AH} : ev L xs mdX7_many 11 (.int x :: Ls) (st) h = ev L xs mdX7_many 12 (.int x :: Ls) (.int x :: st) (h) := e_iload_n dX7_many_11 rfl
theorem iX7_many_12 {v0 : Value} {v1 : Value} {x : Int32} {Ls st : List Value} {h : AH} : ev L xs mdX7_many 12 (v0 :: v1 :: .int x :: Ls) (st) h = ev L xs mdX7_many 13 (v0 :: v1 :: .int x :: Ls) (.int x :: st) (h) := e_iload_n dX7_many_12 rfl
theorem iX7_many_13 {x z : Int32} {Ls st : List Value} {h : AH} : ev L xs mdX7_many 13 (Ls) (.int z :: .int x :: st) h = ev L xs mdX7_many 14 (Ls) (.int (x >>> (z &&& nI 31)) :: st) (h) := e_ishr dX7_many_13
theorem iX7_many_14  {Ls st : List Value} {h : AH} : ev L xs mdX7_many 14 (Ls) (st) h = ev L xs mdX7_many 15 (Ls) (.int (nI 1) :: st) (h) := e_iconst dX7_many_14 (by decide)
theorem iX7_many_15 {x z : Int32} {Ls st : List Value} {h : AH} : ev L xs mdX7_many 15 (Ls) (.int z :: .int x :: st) h = ev L xs mdX7_many 16 (Ls) (.int (x &&& z) :: st) (h) := e_iand dX7_many_15
theorem iX7_many_16 {x z : Int32} {Ls st : List Value} {h : AH} : ev L xs mdX7_many 16 (Ls) (.int z :: .int x :: st) h = ev L xs mdX7_many 17 (Ls) (.int (x + z) :: st) (h) := e_iadd dX7_many_16
theorem iX7_many_17 {v0 : Value} {v1 : Value} {x : Int32} {Ls st : List Value} {h : AH} (hc9 : v0.category = 1) : ev L xs mdX7_many 17 (v0 :: v1 :: Ls) (.int x :: st) h = ev L xs mdX7_many 18 (v0 :: .int x :: Ls) (st) (h) := e_istore_n dX7_many_17 rfl (by decide) (by unfold catOK; show (_ || (v0.category == 1)) = true; rw [hc9]; rfl)
theorem iX7_many_18 {v0 : Value} {v1 : Value} {x : Int32} {Ls st : List Value} {h : AH} (hc9 : v1.category = 1) : ev L xs mdX7_many 18 (v0 :: v1 :: .int x :: Ls) (st) h = ev L xs mdX7_many 21 (v0 :: v1 :: .int (x + (nI 1)) :: Ls) (st) (h) := e_iinc dX7_many_18 rfl rfl rfl (by decide) (by unfold catOK; show (_ || (v1.category == 1)) = true; rw [hc9]; rfl)
theorem iX7_many_21  {Ls st : List Value} {h : AH} : ev L xs mdX7_many 21 (Ls) (st) h = ev L xs mdX7_many 4 (Ls) (st) (h) := e_goto dX7_many_21 (by decide)
theorem iX7_many_24 {v0 : Value} {x : Int32} {Ls st : List Value} {h : AH} : ev L xs mdX7_many 24 (v0 :: .int x :: Ls) (st) h = ev L xs mdX7_many 25 (v0 :: .int x :: Ls) (.int x :: st) (h) := e_iload_n dX7_many_24 rfl
theorem iX7_many_25 {v : Int32} {Ls : List Value} {h : AH} : ev L xs mdX7_many 25 Ls [.int v] h = some (.inl (some (.int v), h)) := e_iret dX7_many_25 rfl
theorem dX7_missed_0 : decode cX7_missed 0 = .ok (.aload_n 0, 1) := by decide +kernel
theorem dX7_missed_1 : decode cX7_missed 1 = .ok (.aload_n 0, 1) := by decide +kernel
theorem dX7_missed_2 : decode cX7_missed 2 = .ok (.iload_n 1, 1) := by decide +kernel
theorem dX7_missed_3 : decode cX7_missed 3 = .ok (.invokevirtual 122, 3) := by decide +kernel
theorem dX7_missed_6 : decode cX7_missed 6 = .ok (.ifCond .ne 7, 3) := by decide +kernel
theorem dX7_missed_9 : decode cX7_missed 9 = .ok (.iconst 1, 1) := by decide +kernel
theorem dX7_missed_10 : decode cX7_missed 10 = .ok (.goto 19, 3) := by decide +kernel
theorem dX7_missed_13 : decode cX7_missed 13 = .ok (.iload_n 2, 1) := by decide +kernel
theorem dX7_missed_14 : decode cX7_missed 14 = .ok (.iconst 0, 1) := by decide +kernel
theorem dX7_missed_15 : decode cX7_missed 15 = .ok (.sipush 3000, 3) := by decide +kernel
theorem dX7_missed_18 : decode cX7_missed 18 = .ok (.invokestatic 44, 3) := by decide +kernel
theorem dX7_missed_21 : decode cX7_missed 21 = .ok (.ifCond .ne 7, 3) := by decide +kernel
theorem dX7_missed_24 : decode cX7_missed 24 = .ok (.iconst 2, 1) := by decide +kernel
theorem dX7_missed_25 : decode cX7_missed 25 = .ok (.goto 4, 3) := by decide +kernel
theorem dX7_missed_28 : decode cX7_missed 28 = .ok (.iconst 0, 1) := by decide +kernel
theorem dX7_missed_29 : decode cX7_missed 29 = .ok (.putfield 34, 3) := by decide +kernel
theorem dX7_missed_32 : decode cX7_missed 32 = .ok (.aload_n 0, 1) := by decide +kernel
theorem dX7_missed_33 : decode cX7_missed 33 = .ok (.getfield 34, 3) := by decide +kernel
theorem dX7_missed_36 : decode cX7_missed 36 = .ok (.ifCond .le 5, 3) := by decide +kernel
theorem dX7_missed_39 : decode cX7_missed 39 = .ok (.iconst 0, 1) := by decide +kernel
theorem dX7_missed_40 : decode cX7_missed 40 = .ok (.ireturn, 1) := by decide +kernel
theorem dX7_missed_41 : decode cX7_missed 41 = .ok (.aload_n 0, 1) := by decide +kernel
theorem dX7_missed_42 : decode cX7_missed 42 = .ok (.aload_n 0, 1) := by decide +kernel
theorem dX7_missed_43 : decode cX7_missed 43 = .ok (.getfield 7, 3) := by decide +kernel
theorem dX7_missed_46 : decode cX7_missed 46 = .ok (.iload_n 2, 1) := by decide +kernel
theorem dX7_missed_47 : decode cX7_missed 47 = .ok (.invokevirtual 159, 3) := by decide +kernel
theorem dX7_missed_50 : decode cX7_missed 50 = .ok (.istore_n 3, 1) := by decide +kernel
theorem dX7_missed_51 : decode cX7_missed 51 = .ok (.aload_n 0, 1) := by decide +kernel
theorem dX7_missed_52 : decode cX7_missed 52 = .ok (.iload_n 1, 1) := by decide +kernel
theorem dX7_missed_53 : decode cX7_missed 53 = .ok (.putfield 38, 3) := by decide +kernel
theorem dX7_missed_56 : decode cX7_missed 56 = .ok (.aload_n 0, 1) := by decide +kernel
theorem dX7_missed_57 : decode cX7_missed 57 = .ok (.aload_n 0, 1) := by decide +kernel
theorem dX7_missed_58 : decode cX7_missed 58 = .ok (.getfield 7, 3) := by decide +kernel
theorem dX7_missed_61 : decode cX7_missed 61 = .ok (.iload_n 2, 1) := by decide +kernel
theorem dX7_missed_62 : decode cX7_missed 62 = .ok (.invokevirtual 159, 3) := by decide +kernel
theorem dX7_missed_65 : decode cX7_missed 65 = .ok (.istore 4, 2) := by decide +kernel
theorem dX7_missed_67 : decode cX7_missed 67 = .ok (.aload_n 0, 1) := by decide +kernel
theorem dX7_missed_68 : decode cX7_missed 68 = .ok (.iconst (-1), 1) := by decide +kernel
theorem dX7_missed_69 : decode cX7_missed 69 = .ok (.putfield 38, 3) := by decide +kernel
theorem dX7_missed_72 : decode cX7_missed 72 = .ok (.iload 4, 2) := by decide +kernel
theorem dX7_missed_74 : decode cX7_missed 74 = .ok (.iload_n 3, 1) := by decide +kernel
theorem dX7_missed_75 : decode cX7_missed 75 = .ok (.isub, 1) := by decide +kernel
theorem dX7_missed_76 : decode cX7_missed 76 = .ok (.ireturn, 1) := by decide +kernel
theorem iX7_missed_0 {x : Nat} {Ls st : List Value} {h : AH} : ev L xs mdX7_missed 0 (.ref x :: Ls) (st) h = ev L xs mdX7_missed 1 (.ref x :: Ls) (.ref x :: st) (h) := e_aload_n dX7_missed_0 rfl
theorem iX7_missed_1 {x : Nat} {Ls st : List Value} {h : AH} : ev L xs mdX7_missed 1 (.ref x :: Ls) (st) h = ev L xs mdX7_missed 2 (.ref x :: Ls) (.ref x :: st) (h) := e_aload_n dX7_missed_1 rfl
theorem iX7_missed_2 {v0 : Value} {x : Int32} {Ls st : List Value} {h : AH} : ev L xs mdX7_missed 2 (v0 :: .int x :: Ls) (st) h = ev L xs mdX7_missed 3 (v0 :: .int x :: Ls) (.int x :: st) (h) := e_iload_n dX7_missed_2 rfl
theorem iX7_missed_3 {a : Nat} {p0 : Int32} {Ls st : List Value} {h : AH} (hk : hK h a = 7) (hw : wds st ≤ 8) : ev L xs mdX7_missed 3 Ls (.int p0 :: .ref a :: st) h = kn L xs mdX7_missed 3 6 Ls st (ev L xs mdX7_isGuard 0 [.ref a, .int p0] [] h) := e_callV (as := [.int p0]) dX7_missed_3 mr_7_122 (by decide) (by decide) rfl (by simp [wds, Value.category]; decide) rfl (by decide) hk hw
theorem iX7_missed_6 {x : Int32} {Ls st : List Value} {h : AH} : ev L xs mdX7_missed 6 Ls (.int x :: st) h = if x = nI 0 then ev L xs mdX7_missed 9 Ls st h else ev L xs mdX7_missed 13 Ls st h := e_if_ne dX7_missed_6 (by decide)
theorem iX7_missed_9  {Ls st : List Value} {h : AH} : ev L xs mdX7_missed 9 (Ls) (st) h = ev L xs mdX7_missed 10 (Ls) (.int (nI 1) :: st) (h) := e_iconst dX7_missed_9 (by decide)
theorem iX7_missed_10  {Ls st : List Value} {h : AH} : ev L xs mdX7_missed 10 (Ls) (st) h = ev L xs mdX7_missed 29 (Ls) (st) (h) := e_goto dX7_missed_10 (by decide)
theorem iX7_missed_13 {v0 : Value} {v1 : Value} {x : Int32} {Ls st : List Value} {h : AH} : ev L xs mdX7_missed 13 (v0 :: v1 :: .int x :: Ls) (st) h = ev L xs mdX7_missed 14 (v0 :: v1 :: .int x :: Ls) (.int x :: st) (h) := e_iload_n dX7_missed_13 rfl
theorem iX7_missed_14  {Ls st : List Value} {h : AH} : ev L xs mdX7_missed 14 (Ls) (st) h = ev L xs mdX7_missed 15 (Ls) (.int (nI 0) :: st) (h) := e_iconst dX7_missed_14 (by decide)
theorem iX7_missed_15  {Ls st : List Value} {h : AH} : ev L xs mdX7_missed 15 (Ls) (st) h = ev L xs mdX7_missed 18 (Ls) (.int (nI 3000) :: st) (h) := e_sipush dX7_missed_15 (by decide)
theorem iX7_missed_18 {p0 : Int32} {p1 : Int32} {p2 : Int32} {Ls st : List Value} {h : AH} (hw : wds st ≤ 8) : ev L xs mdX7_missed 18 Ls (.int p2 :: .int p1 :: .int p0 :: st) h = kn L xs mdX7_missed 18 21 Ls st (ev L xs mdX7_in 0 [.int p0, .int p1, .int p2] [] h) := e_callS (as := [.int p2, .int p1, .int p0]) dX7_missed_18 mr_7_44 (by decide) (by decide) rfl (by simp [wds, Value.category]; decide) rfl hw
theorem iX7_missed_21 {x : Int32} {Ls st : List Value} {h : AH} : ev L xs mdX7_missed 21 Ls (.int x :: st) h = if x = nI 0 then ev L xs mdX7_missed 24 Ls st h else ev L xs mdX7_missed 28 Ls st h := e_if_ne dX7_missed_21 (by decide)
theorem iX7_missed_24  {Ls st : List Value} {h : AH} : ev L xs mdX7_missed 24 (Ls) (st) h = ev L xs mdX7_missed 25 (Ls) (.int (nI 2) :: st) (h) := e_iconst dX7_missed_24 (by decide)
theorem iX7_missed_25  {Ls st : List Value} {h : AH} : ev L xs mdX7_missed 25 (Ls) (st) h = ev L xs mdX7_missed 29 (Ls) (st) (h) := e_goto dX7_missed_25 (by decide)
theorem iX7_missed_28  {Ls st : List Value} {h : AH} : ev L xs mdX7_missed 28 (Ls) (st) h = ev L xs mdX7_missed 29 (Ls) (.int (nI 0) :: st) (h) := e_iconst dX7_missed_28 (by decide)
theorem iX7_missed_29 {a : Nat} {v : Int32} {Ls st : List Value} {h : AH} (hk : hK h a = 7) : ev L xs mdX7_missed 29 (Ls) (.int v :: .ref a :: st) h = ev L xs mdX7_missed 32 (Ls) (st) (sI h 112 a v) := e_putI (k := 7) (f := 0) (F := 112) dX7_missed_29 (by decide +kernel) rfl (by decide +kernel) rfl hk
theorem iX7_missed_32 {x : Nat} {Ls st : List Value} {h : AH} : ev L xs mdX7_missed 32 (.ref x :: Ls) (st) h = ev L xs mdX7_missed 33 (.ref x :: Ls) (.ref x :: st) (h) := e_aload_n dX7_missed_32 rfl
theorem iX7_missed_33 {a : Nat} {Ls st : List Value} {h : AH} (hk : hK h a = 7) : ev L xs mdX7_missed 33 (Ls) (.ref a :: st) h = ev L xs mdX7_missed 36 (Ls) (.int (hI h 112 a) :: st) (h) := e_getI (k := 7) (f := 0) (F := 112) dX7_missed_33 (by decide +kernel) rfl rfl hk
theorem iX7_missed_36 {x : Int32} {Ls st : List Value} {h : AH} : ev L xs mdX7_missed 36 Ls (.int x :: st) h = if x ≤ nI 0 then ev L xs mdX7_missed 41 Ls st h else ev L xs mdX7_missed 39 Ls st h := e_if_le dX7_missed_36 (by decide)
theorem iX7_missed_39  {Ls st : List Value} {h : AH} : ev L xs mdX7_missed 39 (Ls) (st) h = ev L xs mdX7_missed 40 (Ls) (.int (nI 0) :: st) (h) := e_iconst dX7_missed_39 (by decide)
theorem iX7_missed_40 {v : Int32} {Ls : List Value} {h : AH} : ev L xs mdX7_missed 40 Ls [.int v] h = some (.inl (some (.int v), h)) := e_iret dX7_missed_40 rfl
theorem iX7_missed_41 {x : Nat} {Ls st : List Value} {h : AH} : ev L xs mdX7_missed 41 (.ref x :: Ls) (st) h = ev L xs mdX7_missed 42 (.ref x :: Ls) (.ref x :: st) (h) := e_aload_n dX7_missed_41 rfl
theorem iX7_missed_42 {x : Nat} {Ls st : List Value} {h : AH} : ev L xs mdX7_missed 42 (.ref x :: Ls) (st) h = ev L xs mdX7_missed 43 (.ref x :: Ls) (.ref x :: st) (h) := e_aload_n dX7_missed_42 rfl
theorem iX7_missed_43 {a : Nat} {Ls st : List Value} {h : AH} (hk : hK h a = 7) (hj : (hR h 113 a).isSome = true) : ev L xs mdX7_missed 43 (Ls) (.ref a :: st) h = ev L xs mdX7_missed 46 (Ls) (.ref ((hR h 113 a).getD 0) :: st) (h) := e_getR (k := 7) (f := 1) (F := 113) dX7_missed_43 (by decide +kernel) rfl rfl hk hj
theorem iX7_missed_46 {v0 : Value} {v1 : Value} {x : Int32} {Ls st : List Value} {h : AH} : ev L xs mdX7_missed 46 (v0 :: v1 :: .int x :: Ls) (st) h = ev L xs mdX7_missed 47 (v0 :: v1 :: .int x :: Ls) (.int x :: st) (h) := e_iload_n dX7_missed_46 rfl
theorem iX7_missed_47 {a : Nat} {p0 : Nat} {p1 : Int32} {Ls st : List Value} {h : AH} (hk : hK h a = 7) (hw : wds st ≤ 8) : ev L xs mdX7_missed 47 Ls (.int p1 :: .ref p0 :: .ref a :: st) h = kn L xs mdX7_missed 47 50 Ls st (ev L xs mdX7_opensOn 0 [.ref a, .ref p0, .int p1] [] h) := e_callV (as := [.int p1, .ref p0]) dX7_missed_47 mr_7_159 (by decide) (by decide) rfl (by simp [wds, Value.category]; decide) rfl (by decide) hk hw
theorem iX7_missed_50 {v0 : Value} {v1 : Value} {v2 : Value} {v3 : Value} {x : Int32} {Ls st : List Value} {h : AH} (hc9 : v2.category = 1) : ev L xs mdX7_missed 50 (v0 :: v1 :: v2 :: v3 :: Ls) (.int x :: st) h = ev L xs mdX7_missed 51 (v0 :: v1 :: v2 :: .int x :: Ls) (st) (h) := e_istore_n dX7_missed_50 rfl (by decide) (by unfold catOK; show (_ || (v2.category == 1)) = true; rw [hc9]; rfl)
theorem iX7_missed_51 {x : Nat} {Ls st : List Value} {h : AH} : ev L xs mdX7_missed 51 (.ref x :: Ls) (st) h = ev L xs mdX7_missed 52 (.ref x :: Ls) (.ref x :: st) (h) := e_aload_n dX7_missed_51 rfl
theorem iX7_missed_52 {v0 : Value} {x : Int32} {Ls st : List Value} {h : AH} : ev L xs mdX7_missed 52 (v0 :: .int x :: Ls) (st) h = ev L xs mdX7_missed 53 (v0 :: .int x :: Ls) (.int x :: st) (h) := e_iload_n dX7_missed_52 rfl
theorem iX7_missed_53 {a : Nat} {v : Int32} {Ls st : List Value} {h : AH} (hk : hK h a = 7) : ev L xs mdX7_missed 53 (Ls) (.int v :: .ref a :: st) h = ev L xs mdX7_missed 56 (Ls) (st) (sI h 122 a v) := e_putI (k := 7) (f := 10) (F := 122) dX7_missed_53 (by decide +kernel) rfl (by decide +kernel) rfl hk
theorem iX7_missed_56 {x : Nat} {Ls st : List Value} {h : AH} : ev L xs mdX7_missed 56 (.ref x :: Ls) (st) h = ev L xs mdX7_missed 57 (.ref x :: Ls) (.ref x :: st) (h) := e_aload_n dX7_missed_56 rfl
theorem iX7_missed_57 {x : Nat} {Ls st : List Value} {h : AH} : ev L xs mdX7_missed 57 (.ref x :: Ls) (st) h = ev L xs mdX7_missed 58 (.ref x :: Ls) (.ref x :: st) (h) := e_aload_n dX7_missed_57 rfl
theorem iX7_missed_58 {a : Nat} {Ls st : List Value} {h : AH} (hk : hK h a = 7) (hj : (hR h 113 a).isSome = true) : ev L xs mdX7_missed 58 (Ls) (.ref a :: st) h = ev L xs mdX7_missed 61 (Ls) (.ref ((hR h 113 a).getD 0) :: st) (h) := e_getR (k := 7) (f := 1) (F := 113) dX7_missed_58 (by decide +kernel) rfl rfl hk hj
theorem iX7_missed_61 {v0 : Value} {v1 : Value} {x : Int32} {Ls st : List Value} {h : AH} : ev L xs mdX7_missed 61 (v0 :: v1 :: .int x :: Ls) (st) h = ev L xs mdX7_missed 62 (v0 :: v1 :: .int x :: Ls) (.int x :: st) (h) := e_iload_n dX7_missed_61 rfl
theorem iX7_missed_62 {a : Nat} {p0 : Nat} {p1 : Int32} {Ls st : List Value} {h : AH} (hk : hK h a = 7) (hw : wds st ≤ 8) : ev L xs mdX7_missed 62 Ls (.int p1 :: .ref p0 :: .ref a :: st) h = kn L xs mdX7_missed 62 65 Ls st (ev L xs mdX7_opensOn 0 [.ref a, .ref p0, .int p1] [] h) := e_callV (as := [.int p1, .ref p0]) dX7_missed_62 mr_7_159 (by decide) (by decide) rfl (by simp [wds, Value.category]; decide) rfl (by decide) hk hw
theorem iX7_missed_65 {v0 : Value} {v1 : Value} {v2 : Value} {v3 : Value} {v4 : Value} {x : Int32} {Ls st : List Value} {h : AH} (hc9 : v3.category = 1) : ev L xs mdX7_missed 65 (v0 :: v1 :: v2 :: v3 :: v4 :: Ls) (.int x :: st) h = ev L xs mdX7_missed 67 (v0 :: v1 :: v2 :: v3 :: .int x :: Ls) (st) (h) := e_istore dX7_missed_65 rfl (by decide) (by unfold catOK; show (_ || (v3.category == 1)) = true; rw [hc9]; rfl)
theorem iX7_missed_67 {x : Nat} {Ls st : List Value} {h : AH} : ev L xs mdX7_missed 67 (.ref x :: Ls) (st) h = ev L xs mdX7_missed 68 (.ref x :: Ls) (.ref x :: st) (h) := e_aload_n dX7_missed_67 rfl
theorem iX7_missed_68  {Ls st : List Value} {h : AH} : ev L xs mdX7_missed 68 (Ls) (st) h = ev L xs mdX7_missed 69 (Ls) (.int (-1) :: st) (h) := e_iconst dX7_missed_68 (by decide)
theorem iX7_missed_69 {a : Nat} {v : Int32} {Ls st : List Value} {h : AH} (hk : hK h a = 7) : ev L xs mdX7_missed 69 (Ls) (.int v :: .ref a :: st) h = ev L xs mdX7_missed 72 (Ls) (st) (sI h 122 a v) := e_putI (k := 7) (f := 10) (F := 122) dX7_missed_69 (by decide +kernel) rfl (by decide +kernel) rfl hk
theorem iX7_missed_72 {v0 : Value} {v1 : Value} {v2 : Value} {v3 : Value} {x : Int32} {Ls st : List Value} {h : AH} : ev L xs mdX7_missed 72 (v0 :: v1 :: v2 :: v3 :: .int x :: Ls) (st) h = ev L xs mdX7_missed 74 (v0 :: v1 :: v2 :: v3 :: .int x :: Ls) (.int x :: st) (h) := e_iload dX7_missed_72 rfl
theorem iX7_missed_74 {v0 : Value} {v1 : Value} {v2 : Value} {x : Int32} {Ls st : List Value} {h : AH} : ev L xs mdX7_missed 74 (v0 :: v1 :: v2 :: .int x :: Ls) (st) h = ev L xs mdX7_missed 75 (v0 :: v1 :: v2 :: .int x :: Ls) (.int x :: st) (h) := e_iload_n dX7_missed_74 rfl
theorem iX7_missed_75 {x z : Int32} {Ls st : List Value} {h : AH} : ev L xs mdX7_missed 75 (Ls) (.int z :: .int x :: st) h = ev L xs mdX7_missed 76 (Ls) (.int (x - z) :: st) (h) := e_isub dX7_missed_75
theorem iX7_missed_76 {v : Int32} {Ls : List Value} {h : AH} : ev L xs mdX7_missed 76 Ls [.int v] h = some (.inl (some (.int v), h)) := e_iret dX7_missed_76 rfl
theorem dX7_needed_0 : decode cX7_needed 0 = .ok (.aload_n 0, 1) := by decide +kernel
theorem dX7_needed_1 : decode cX7_needed 1 = .ok (.iload_n 1, 1) := by decide +kernel
theorem dX7_needed_2 : decode cX7_needed 2 = .ok (.iload_n 2, 1) := by decide +kernel
theorem dX7_needed_3 : decode cX7_needed 3 = .ok (.invokestatic 150, 3) := by decide +kernel
theorem dX7_needed_6 : decode cX7_needed 6 = .ok (.ifCond .eq 7, 3) := by decide +kernel
theorem dX7_needed_9 : decode cX7_needed 9 = .ok (.iconst 0, 1) := by decide +kernel
theorem dX7_needed_10 : decode cX7_needed 10 = .ok (.goto 4, 3) := by decide +kernel
theorem dX7_needed_13 : decode cX7_needed 13 = .ok (.iconst 1, 1) := by decide +kernel
theorem dX7_needed_14 : decode cX7_needed 14 = .ok (.putfield 34, 3) := by decide +kernel
theorem dX7_needed_17 : decode cX7_needed 17 = .ok (.iconst 0, 1) := by decide +kernel
theorem dX7_needed_18 : decode cX7_needed 18 = .ok (.istore_n 3, 1) := by decide +kernel
theorem dX7_needed_19 : decode cX7_needed 19 = .ok (.iconst 0, 1) := by decide +kernel
theorem dX7_needed_20 : decode cX7_needed 20 = .ok (.istore 4, 2) := by decide +kernel
theorem dX7_needed_22 : decode cX7_needed 22 = .ok (.iload 4, 2) := by decide +kernel
theorem dX7_needed_24 : decode cX7_needed 24 = .ok (.aload_n 0, 1) := by decide +kernel
theorem dX7_needed_25 : decode cX7_needed 25 = .ok (.getfield 7, 3) := by decide +kernel
theorem dX7_needed_28 : decode cX7_needed 28 = .ok (.iconst 3, 1) := by decide +kernel
theorem dX7_needed_29 : decode cX7_needed 29 = .ok (.iaload, 1) := by decide +kernel
theorem dX7_needed_30 : decode cX7_needed 30 = .ok (.if_icmp .ge 41, 3) := by decide +kernel
theorem dX7_needed_33 : decode cX7_needed 33 = .ok (.aload_n 0, 1) := by decide +kernel
theorem dX7_needed_34 : decode cX7_needed 34 = .ok (.getfield 34, 3) := by decide +kernel
theorem dX7_needed_37 : decode cX7_needed 37 = .ok (.ifCond .ne 34, 3) := by decide +kernel
theorem dX7_needed_40 : decode cX7_needed 40 = .ok (.iload_n 3, 1) := by decide +kernel
theorem dX7_needed_41 : decode cX7_needed 41 = .ok (.aload_n 0, 1) := by decide +kernel
theorem dX7_needed_42 : decode cX7_needed 42 = .ok (.getfield 7, 3) := by decide +kernel
theorem dX7_needed_45 : decode cX7_needed 45 = .ok (.iload 4, 2) := by decide +kernel
theorem dX7_needed_47 : decode cX7_needed 47 = .ok (.iload_n 1, 1) := by decide +kernel
theorem dX7_needed_48 : decode cX7_needed 48 = .ok (.iload_n 2, 1) := by decide +kernel
theorem dX7_needed_49 : decode cX7_needed 49 = .ok (.invokestatic 63, 3) := by decide +kernel
theorem dX7_needed_52 : decode cX7_needed 52 = .ok (.ifCond .eq 10, 3) := by decide +kernel
theorem dX7_needed_55 : decode cX7_needed 55 = .ok (.iconst 1, 1) := by decide +kernel
theorem dX7_needed_56 : decode cX7_needed 56 = .ok (.iload 4, 2) := by decide +kernel
theorem dX7_needed_58 : decode cX7_needed 58 = .ok (.ishl, 1) := by decide +kernel
theorem dX7_needed_59 : decode cX7_needed 59 = .ok (.goto 4, 3) := by decide +kernel
theorem dX7_needed_62 : decode cX7_needed 62 = .ok (.iconst 0, 1) := by decide +kernel
theorem dX7_needed_63 : decode cX7_needed 63 = .ok (.ior, 1) := by decide +kernel
theorem dX7_needed_64 : decode cX7_needed 64 = .ok (.istore_n 3, 1) := by decide +kernel
theorem dX7_needed_65 : decode cX7_needed 65 = .ok (.iinc 4 1, 3) := by decide +kernel
theorem dX7_needed_68 : decode cX7_needed 68 = .ok (.goto (-46), 3) := by decide +kernel
theorem dX7_needed_71 : decode cX7_needed 71 = .ok (.iload_n 3, 1) := by decide +kernel
theorem dX7_needed_72 : decode cX7_needed 72 = .ok (.ireturn, 1) := by decide +kernel
theorem iX7_needed_0 {x : Nat} {Ls st : List Value} {h : AH} : ev L xs mdX7_needed 0 (.ref x :: Ls) (st) h = ev L xs mdX7_needed 1 (.ref x :: Ls) (.ref x :: st) (h) := e_aload_n dX7_needed_0 rfl
theorem iX7_needed_1 {v0 : Value} {x : Int32} {Ls st : List Value} {h : AH} : ev L xs mdX7_needed 1 (v0 :: .int x :: Ls) (st) h = ev L xs mdX7_needed 2 (v0 :: .int x :: Ls) (.int x :: st) (h) := e_iload_n dX7_needed_1 rfl
theorem iX7_needed_2 {v0 : Value} {v1 : Value} {x : Int32} {Ls st : List Value} {h : AH} : ev L xs mdX7_needed 2 (v0 :: v1 :: .int x :: Ls) (st) h = ev L xs mdX7_needed 3 (v0 :: v1 :: .int x :: Ls) (.int x :: st) (h) := e_iload_n dX7_needed_2 rfl
theorem iX7_needed_3 {p0 : Int32} {p1 : Int32} {Ls st : List Value} {h : AH} (hw : wds st ≤ 8) : ev L xs mdX7_needed 3 Ls (.int p1 :: .int p0 :: st) h = kn L xs mdX7_needed 3 6 Ls st (ev L xs mdX7_isTime 0 [.int p0, .int p1] [] h) := e_callS (as := [.int p1, .int p0]) dX7_needed_3 mr_7_150 (by decide) (by decide) rfl (by simp [wds, Value.category]; decide) rfl hw
theorem iX7_needed_6 {x : Int32} {Ls st : List Value} {h : AH} : ev L xs mdX7_needed 6 Ls (.int x :: st) h = if x = nI 0 then ev L xs mdX7_needed 13 Ls st h else ev L xs mdX7_needed 9 Ls st h := e_if_eq dX7_needed_6 (by decide)
theorem iX7_needed_9  {Ls st : List Value} {h : AH} : ev L xs mdX7_needed 9 (Ls) (st) h = ev L xs mdX7_needed 10 (Ls) (.int (nI 0) :: st) (h) := e_iconst dX7_needed_9 (by decide)
theorem iX7_needed_10  {Ls st : List Value} {h : AH} : ev L xs mdX7_needed 10 (Ls) (st) h = ev L xs mdX7_needed 14 (Ls) (st) (h) := e_goto dX7_needed_10 (by decide)
theorem iX7_needed_13  {Ls st : List Value} {h : AH} : ev L xs mdX7_needed 13 (Ls) (st) h = ev L xs mdX7_needed 14 (Ls) (.int (nI 1) :: st) (h) := e_iconst dX7_needed_13 (by decide)
theorem iX7_needed_14 {a : Nat} {v : Int32} {Ls st : List Value} {h : AH} (hk : hK h a = 7) : ev L xs mdX7_needed 14 (Ls) (.int v :: .ref a :: st) h = ev L xs mdX7_needed 17 (Ls) (st) (sI h 112 a v) := e_putI (k := 7) (f := 0) (F := 112) dX7_needed_14 (by decide +kernel) rfl (by decide +kernel) rfl hk
theorem iX7_needed_17  {Ls st : List Value} {h : AH} : ev L xs mdX7_needed 17 (Ls) (st) h = ev L xs mdX7_needed 18 (Ls) (.int (nI 0) :: st) (h) := e_iconst dX7_needed_17 (by decide)
theorem iX7_needed_18 {v0 : Value} {v1 : Value} {v2 : Value} {v3 : Value} {x : Int32} {Ls st : List Value} {h : AH} (hc9 : v2.category = 1) : ev L xs mdX7_needed 18 (v0 :: v1 :: v2 :: v3 :: Ls) (.int x :: st) h = ev L xs mdX7_needed 19 (v0 :: v1 :: v2 :: .int x :: Ls) (st) (h) := e_istore_n dX7_needed_18 rfl (by decide) (by unfold catOK; show (_ || (v2.category == 1)) = true; rw [hc9]; rfl)
theorem iX7_needed_19  {Ls st : List Value} {h : AH} : ev L xs mdX7_needed 19 (Ls) (st) h = ev L xs mdX7_needed 20 (Ls) (.int (nI 0) :: st) (h) := e_iconst dX7_needed_19 (by decide)
theorem iX7_needed_20 {v0 : Value} {v1 : Value} {v2 : Value} {v3 : Value} {v4 : Value} {x : Int32} {Ls st : List Value} {h : AH} (hc9 : v3.category = 1) : ev L xs mdX7_needed 20 (v0 :: v1 :: v2 :: v3 :: v4 :: Ls) (.int x :: st) h = ev L xs mdX7_needed 22 (v0 :: v1 :: v2 :: v3 :: .int x :: Ls) (st) (h) := e_istore dX7_needed_20 rfl (by decide) (by unfold catOK; show (_ || (v3.category == 1)) = true; rw [hc9]; rfl)
theorem iX7_needed_22 {v0 : Value} {v1 : Value} {v2 : Value} {v3 : Value} {x : Int32} {Ls st : List Value} {h : AH} : ev L xs mdX7_needed 22 (v0 :: v1 :: v2 :: v3 :: .int x :: Ls) (st) h = ev L xs mdX7_needed 24 (v0 :: v1 :: v2 :: v3 :: .int x :: Ls) (.int x :: st) (h) := e_iload dX7_needed_22 rfl
theorem iX7_needed_24 {x : Nat} {Ls st : List Value} {h : AH} : ev L xs mdX7_needed 24 (.ref x :: Ls) (st) h = ev L xs mdX7_needed 25 (.ref x :: Ls) (.ref x :: st) (h) := e_aload_n dX7_needed_24 rfl
theorem iX7_needed_25 {a : Nat} {Ls st : List Value} {h : AH} (hk : hK h a = 7) (hj : (hR h 113 a).isSome = true) : ev L xs mdX7_needed 25 (Ls) (.ref a :: st) h = ev L xs mdX7_needed 28 (Ls) (.ref ((hR h 113 a).getD 0) :: st) (h) := e_getR (k := 7) (f := 1) (F := 113) dX7_needed_25 (by decide +kernel) rfl rfl hk hj
theorem iX7_needed_28  {Ls st : List Value} {h : AH} : ev L xs mdX7_needed 28 (Ls) (st) h = ev L xs mdX7_needed 29 (Ls) (.int (nI 3) :: st) (h) := e_iconst dX7_needed_28 (by decide)
theorem iX7_needed_29 {a : Nat} {j : Int32} {Ls st : List Value} {h : AH} (hk : hK h a = 8) (hi : inA j (hN h a) = true) : ev L xs mdX7_needed 29 (Ls) (.int j :: .ref a :: st) h = ev L xs mdX7_needed 30 (Ls) (.int (hA h a j.toNatClampNeg) :: st) (h) := e_iald dX7_needed_29 hk hi
theorem iX7_needed_30 {x z : Int32} {Ls st : List Value} {h : AH} : ev L xs mdX7_needed 30 Ls (.int z :: .int x :: st) h = if z ≤ x then ev L xs mdX7_needed 71 Ls st h else ev L xs mdX7_needed 33 Ls st h := e_ic_ge dX7_needed_30 (by decide)
theorem iX7_needed_33 {x : Nat} {Ls st : List Value} {h : AH} : ev L xs mdX7_needed 33 (.ref x :: Ls) (st) h = ev L xs mdX7_needed 34 (.ref x :: Ls) (.ref x :: st) (h) := e_aload_n dX7_needed_33 rfl
theorem iX7_needed_34 {a : Nat} {Ls st : List Value} {h : AH} (hk : hK h a = 7) : ev L xs mdX7_needed 34 (Ls) (.ref a :: st) h = ev L xs mdX7_needed 37 (Ls) (.int (hI h 112 a) :: st) (h) := e_getI (k := 7) (f := 0) (F := 112) dX7_needed_34 (by decide +kernel) rfl rfl hk
theorem iX7_needed_37 {x : Int32} {Ls st : List Value} {h : AH} : ev L xs mdX7_needed 37 Ls (.int x :: st) h = if x = nI 0 then ev L xs mdX7_needed 40 Ls st h else ev L xs mdX7_needed 71 Ls st h := e_if_ne dX7_needed_37 (by decide)
theorem iX7_needed_40 {v0 : Value} {v1 : Value} {v2 : Value} {x : Int32} {Ls st : List Value} {h : AH} : ev L xs mdX7_needed 40 (v0 :: v1 :: v2 :: .int x :: Ls) (st) h = ev L xs mdX7_needed 41 (v0 :: v1 :: v2 :: .int x :: Ls) (.int x :: st) (h) := e_iload_n dX7_needed_40 rfl
theorem iX7_needed_41 {x : Nat} {Ls st : List Value} {h : AH} : ev L xs mdX7_needed 41 (.ref x :: Ls) (st) h = ev L xs mdX7_needed 42 (.ref x :: Ls) (.ref x :: st) (h) := e_aload_n dX7_needed_41 rfl
theorem iX7_needed_42 {a : Nat} {Ls st : List Value} {h : AH} (hk : hK h a = 7) (hj : (hR h 113 a).isSome = true) : ev L xs mdX7_needed 42 (Ls) (.ref a :: st) h = ev L xs mdX7_needed 45 (Ls) (.ref ((hR h 113 a).getD 0) :: st) (h) := e_getR (k := 7) (f := 1) (F := 113) dX7_needed_42 (by decide +kernel) rfl rfl hk hj
theorem iX7_needed_45 {v0 : Value} {v1 : Value} {v2 : Value} {v3 : Value} {x : Int32} {Ls st : List Value} {h : AH} : ev L xs mdX7_needed 45 (v0 :: v1 :: v2 :: v3 :: .int x :: Ls) (st) h = ev L xs mdX7_needed 47 (v0 :: v1 :: v2 :: v3 :: .int x :: Ls) (.int x :: st) (h) := e_iload dX7_needed_45 rfl
theorem iX7_needed_47 {v0 : Value} {x : Int32} {Ls st : List Value} {h : AH} : ev L xs mdX7_needed 47 (v0 :: .int x :: Ls) (st) h = ev L xs mdX7_needed 48 (v0 :: .int x :: Ls) (.int x :: st) (h) := e_iload_n dX7_needed_47 rfl
theorem iX7_needed_48 {v0 : Value} {v1 : Value} {x : Int32} {Ls st : List Value} {h : AH} : ev L xs mdX7_needed 48 (v0 :: v1 :: .int x :: Ls) (st) h = ev L xs mdX7_needed 49 (v0 :: v1 :: .int x :: Ls) (.int x :: st) (h) := e_iload_n dX7_needed_48 rfl
theorem iX7_needed_49 {p0 : Nat} {p1 : Int32} {p2 : Int32} {p3 : Int32} {Ls st : List Value} {h : AH} (hw : wds st ≤ 8) : ev L xs mdX7_needed 49 Ls (.int p3 :: .int p2 :: .int p1 :: .ref p0 :: st) h = kn L xs mdX7_needed 49 52 Ls st (ev L xs mdX7_isNeeded 0 [.ref p0, .int p1, .int p2, .int p3] [] h) := e_callS (as := [.int p3, .int p2, .int p1, .ref p0]) dX7_needed_49 mr_7_63 (by decide) (by decide) rfl (by simp [wds, Value.category]; decide) rfl hw
theorem iX7_needed_52 {x : Int32} {Ls st : List Value} {h : AH} : ev L xs mdX7_needed 52 Ls (.int x :: st) h = if x = nI 0 then ev L xs mdX7_needed 62 Ls st h else ev L xs mdX7_needed 55 Ls st h := e_if_eq dX7_needed_52 (by decide)
theorem iX7_needed_55  {Ls st : List Value} {h : AH} : ev L xs mdX7_needed 55 (Ls) (st) h = ev L xs mdX7_needed 56 (Ls) (.int (nI 1) :: st) (h) := e_iconst dX7_needed_55 (by decide)
theorem iX7_needed_56 {v0 : Value} {v1 : Value} {v2 : Value} {v3 : Value} {x : Int32} {Ls st : List Value} {h : AH} : ev L xs mdX7_needed 56 (v0 :: v1 :: v2 :: v3 :: .int x :: Ls) (st) h = ev L xs mdX7_needed 58 (v0 :: v1 :: v2 :: v3 :: .int x :: Ls) (.int x :: st) (h) := e_iload dX7_needed_56 rfl
theorem iX7_needed_58 {x z : Int32} {Ls st : List Value} {h : AH} : ev L xs mdX7_needed 58 (Ls) (.int z :: .int x :: st) h = ev L xs mdX7_needed 59 (Ls) (.int (x <<< (z &&& nI 31)) :: st) (h) := e_ishl dX7_needed_58
theorem iX7_needed_59  {Ls st : List Value} {h : AH} : ev L xs mdX7_needed 59 (Ls) (st) h = ev L xs mdX7_needed 63 (Ls) (st) (h) := e_goto dX7_needed_59 (by decide)
theorem iX7_needed_62  {Ls st : List Value} {h : AH} : ev L xs mdX7_needed 62 (Ls) (st) h = ev L xs mdX7_needed 63 (Ls) (.int (nI 0) :: st) (h) := e_iconst dX7_needed_62 (by decide)
theorem iX7_needed_63 {x z : Int32} {Ls st : List Value} {h : AH} : ev L xs mdX7_needed 63 (Ls) (.int z :: .int x :: st) h = ev L xs mdX7_needed 64 (Ls) (.int (x ||| z) :: st) (h) := e_ior dX7_needed_63
theorem iX7_needed_64 {v0 : Value} {v1 : Value} {v2 : Value} {v3 : Value} {x : Int32} {Ls st : List Value} {h : AH} (hc9 : v2.category = 1) : ev L xs mdX7_needed 64 (v0 :: v1 :: v2 :: v3 :: Ls) (.int x :: st) h = ev L xs mdX7_needed 65 (v0 :: v1 :: v2 :: .int x :: Ls) (st) (h) := e_istore_n dX7_needed_64 rfl (by decide) (by unfold catOK; show (_ || (v2.category == 1)) = true; rw [hc9]; rfl)
theorem iX7_needed_65 {v0 : Value} {v1 : Value} {v2 : Value} {v3 : Value} {x : Int32} {Ls st : List Value} {h : AH} (hc9 : v3.category = 1) : ev L xs mdX7_needed 65 (v0 :: v1 :: v2 :: v3 :: .int x :: Ls) (st) h = ev L xs mdX7_needed 68 (v0 :: v1 :: v2 :: v3 :: .int (x + (nI 1)) :: Ls) (st) (h) := e_iinc dX7_needed_65 rfl rfl rfl (by decide) (by unfold catOK; show (_ || (v3.category == 1)) = true; rw [hc9]; rfl)
theorem iX7_needed_68  {Ls st : List Value} {h : AH} : ev L xs mdX7_needed 68 (Ls) (st) h = ev L xs mdX7_needed 22 (Ls) (st) (h) := e_goto dX7_needed_68 (by decide)
theorem iX7_needed_71 {v0 : Value} {v1 : Value} {v2 : Value} {x : Int32} {Ls st : List Value} {h : AH} : ev L xs mdX7_needed 71 (v0 :: v1 :: v2 :: .int x :: Ls) (st) h = ev L xs mdX7_needed 72 (v0 :: v1 :: v2 :: .int x :: Ls) (.int x :: st) (h) := e_iload_n dX7_needed_71 rfl
theorem iX7_needed_72 {v : Int32} {Ls : List Value} {h : AH} : ev L xs mdX7_needed 72 Ls [.int v] h = some (.inl (some (.int v), h)) := e_iret dX7_needed_72 rfl
theorem dX7_numberOf_0 : decode cX7_numberOf 0 = .ok (.iconst 2, 1) := by decide +kernel
theorem dX7_numberOf_1 : decode cX7_numberOf 1 = .ok (.aload_n 0, 1) := by decide +kernel
theorem dX7_numberOf_2 : decode cX7_numberOf 2 = .ok (.iconst 0, 1) := by decide +kernel
theorem dX7_numberOf_3 : decode cX7_numberOf 3 = .ok (.iaload, 1) := by decide +kernel
theorem dX7_numberOf_4 : decode cX7_numberOf 4 = .ok (.imul, 1) := by decide +kernel
theorem dX7_numberOf_5 : decode cX7_numberOf 5 = .ok (.aload_n 0, 1) := by decide +kernel
theorem dX7_numberOf_6 : decode cX7_numberOf 6 = .ok (.iconst 1, 1) := by decide +kernel
theorem dX7_numberOf_7 : decode cX7_numberOf 7 = .ok (.iaload, 1) := by decide +kernel
theorem dX7_numberOf_8 : decode cX7_numberOf 8 = .ok (.iadd, 1) := by decide +kernel
theorem dX7_numberOf_9 : decode cX7_numberOf 9 = .ok (.ireturn, 1) := by decide +kernel
theorem iX7_numberOf_0  {Ls st : List Value} {h : AH} : ev L xs mdX7_numberOf 0 (Ls) (st) h = ev L xs mdX7_numberOf 1 (Ls) (.int (nI 2) :: st) (h) := e_iconst dX7_numberOf_0 (by decide)
theorem iX7_numberOf_1 {x : Nat} {Ls st : List Value} {h : AH} : ev L xs mdX7_numberOf 1 (.ref x :: Ls) (st) h = ev L xs mdX7_numberOf 2 (.ref x :: Ls) (.ref x :: st) (h) := e_aload_n dX7_numberOf_1 rfl
theorem iX7_numberOf_2  {Ls st : List Value} {h : AH} : ev L xs mdX7_numberOf 2 (Ls) (st) h = ev L xs mdX7_numberOf 3 (Ls) (.int (nI 0) :: st) (h) := e_iconst dX7_numberOf_2 (by decide)
theorem iX7_numberOf_3 {a : Nat} {j : Int32} {Ls st : List Value} {h : AH} (hk : hK h a = 8) (hi : inA j (hN h a) = true) : ev L xs mdX7_numberOf 3 (Ls) (.int j :: .ref a :: st) h = ev L xs mdX7_numberOf 4 (Ls) (.int (hA h a j.toNatClampNeg) :: st) (h) := e_iald dX7_numberOf_3 hk hi
theorem iX7_numberOf_4 {x z : Int32} {Ls st : List Value} {h : AH} : ev L xs mdX7_numberOf 4 (Ls) (.int z :: .int x :: st) h = ev L xs mdX7_numberOf 5 (Ls) (.int (x * z) :: st) (h) := e_imul dX7_numberOf_4
theorem iX7_numberOf_5 {x : Nat} {Ls st : List Value} {h : AH} : ev L xs mdX7_numberOf 5 (.ref x :: Ls) (st) h = ev L xs mdX7_numberOf 6 (.ref x :: Ls) (.ref x :: st) (h) := e_aload_n dX7_numberOf_5 rfl
theorem iX7_numberOf_6  {Ls st : List Value} {h : AH} : ev L xs mdX7_numberOf 6 (Ls) (st) h = ev L xs mdX7_numberOf 7 (Ls) (.int (nI 1) :: st) (h) := e_iconst dX7_numberOf_6 (by decide)
theorem iX7_numberOf_7 {a : Nat} {j : Int32} {Ls st : List Value} {h : AH} (hk : hK h a = 8) (hi : inA j (hN h a) = true) : ev L xs mdX7_numberOf 7 (Ls) (.int j :: .ref a :: st) h = ev L xs mdX7_numberOf 8 (Ls) (.int (hA h a j.toNatClampNeg) :: st) (h) := e_iald dX7_numberOf_7 hk hi
theorem iX7_numberOf_8 {x z : Int32} {Ls st : List Value} {h : AH} : ev L xs mdX7_numberOf 8 (Ls) (.int z :: .int x :: st) h = ev L xs mdX7_numberOf 9 (Ls) (.int (x + z) :: st) (h) := e_iadd dX7_numberOf_8
theorem iX7_numberOf_9 {v : Int32} {Ls : List Value} {h : AH} : ev L xs mdX7_numberOf 9 Ls [.int v] h = some (.inl (some (.int v), h)) := e_iret dX7_numberOf_9 rfl
theorem dX7_of_0 : decode cX7_of 0 = .ok (.aload_n 0, 1) := by decide +kernel
theorem dX7_of_1 : decode cX7_of 1 = .ok (.bipush 21, 2) := by decide +kernel
theorem dX7_of_3 : decode cX7_of 3 = .ok (.bipush 9, 2) := by decide +kernel
theorem dX7_of_5 : decode cX7_of 5 = .ok (.iload_n 1, 1) := by decide +kernel
theorem dX7_of_6 : decode cX7_of 6 = .ok (.imul, 1) := by decide +kernel
theorem dX7_of_7 : decode cX7_of 7 = .ok (.iadd, 1) := by decide +kernel
theorem dX7_of_8 : decode cX7_of 8 = .ok (.iload_n 2, 1) := by decide +kernel
theorem dX7_of_9 : decode cX7_of 9 = .ok (.iadd, 1) := by decide +kernel
theorem dX7_of_10 : decode cX7_of 10 = .ok (.iaload, 1) := by decide +kernel
theorem dX7_of_11 : decode cX7_of 11 = .ok (.ireturn, 1) := by decide +kernel
theorem iX7_of_0 {x : Nat} {Ls st : List Value} {h : AH} : ev L xs mdX7_of 0 (.ref x :: Ls) (st) h = ev L xs mdX7_of 1 (.ref x :: Ls) (.ref x :: st) (h) := e_aload_n dX7_of_0 rfl
theorem iX7_of_1  {Ls st : List Value} {h : AH} : ev L xs mdX7_of 1 (Ls) (st) h = ev L xs mdX7_of 3 (Ls) (.int (nI 21) :: st) (h) := e_bipush dX7_of_1 (by decide)
theorem iX7_of_3  {Ls st : List Value} {h : AH} : ev L xs mdX7_of 3 (Ls) (st) h = ev L xs mdX7_of 5 (Ls) (.int (nI 9) :: st) (h) := e_bipush dX7_of_3 (by decide)
theorem iX7_of_5 {v0 : Value} {x : Int32} {Ls st : List Value} {h : AH} : ev L xs mdX7_of 5 (v0 :: .int x :: Ls) (st) h = ev L xs mdX7_of 6 (v0 :: .int x :: Ls) (.int x :: st) (h) := e_iload_n dX7_of_5 rfl
theorem iX7_of_6 {x z : Int32} {Ls st : List Value} {h : AH} : ev L xs mdX7_of 6 (Ls) (.int z :: .int x :: st) h = ev L xs mdX7_of 7 (Ls) (.int (x * z) :: st) (h) := e_imul dX7_of_6
theorem iX7_of_7 {x z : Int32} {Ls st : List Value} {h : AH} : ev L xs mdX7_of 7 (Ls) (.int z :: .int x :: st) h = ev L xs mdX7_of 8 (Ls) (.int (x + z) :: st) (h) := e_iadd dX7_of_7
theorem iX7_of_8 {v0 : Value} {v1 : Value} {x : Int32} {Ls st : List Value} {h : AH} : ev L xs mdX7_of 8 (v0 :: v1 :: .int x :: Ls) (st) h = ev L xs mdX7_of 9 (v0 :: v1 :: .int x :: Ls) (.int x :: st) (h) := e_iload_n dX7_of_8 rfl
theorem iX7_of_9 {x z : Int32} {Ls st : List Value} {h : AH} : ev L xs mdX7_of 9 (Ls) (.int z :: .int x :: st) h = ev L xs mdX7_of 10 (Ls) (.int (x + z) :: st) (h) := e_iadd dX7_of_9
theorem iX7_of_10 {a : Nat} {j : Int32} {Ls st : List Value} {h : AH} (hk : hK h a = 8) (hi : inA j (hN h a) = true) : ev L xs mdX7_of 10 (Ls) (.int j :: .ref a :: st) h = ev L xs mdX7_of 11 (Ls) (.int (hA h a j.toNatClampNeg) :: st) (h) := e_iald dX7_of_10 hk hi
theorem iX7_of_11 {v : Int32} {Ls : List Value} {h : AH} : ev L xs mdX7_of 11 Ls [.int v] h = some (.inl (some (.int v), h)) := e_iret dX7_of_11 rfl
theorem dX7_open_0 : decode cX7_open 0 = .ok (.aload_n 0, 1) := by decide +kernel
theorem dX7_open_1 : decode cX7_open 1 = .ok (.iload_n 1, 1) := by decide +kernel
theorem dX7_open_2 : decode cX7_open 2 = .ok (.iload_n 2, 1) := by decide +kernel
theorem dX7_open_3 : decode cX7_open 3 = .ok (.invokestatic 150, 3) := by decide +kernel
theorem dX7_open_6 : decode cX7_open 6 = .ok (.ifCond .eq 7, 3) := by decide +kernel
theorem dX7_open_9 : decode cX7_open 9 = .ok (.iconst 0, 1) := by decide +kernel
theorem dX7_open_10 : decode cX7_open 10 = .ok (.goto 4, 3) := by decide +kernel
theorem dX7_open_13 : decode cX7_open 13 = .ok (.iconst 1, 1) := by decide +kernel
theorem dX7_open_14 : decode cX7_open 14 = .ok (.putfield 34, 3) := by decide +kernel
theorem dX7_open_17 : decode cX7_open 17 = .ok (.aload_n 0, 1) := by decide +kernel
theorem dX7_open_18 : decode cX7_open 18 = .ok (.getfield 34, 3) := by decide +kernel
theorem dX7_open_21 : decode cX7_open 21 = .ok (.ifCond .le 7, 3) := by decide +kernel
theorem dX7_open_24 : decode cX7_open 24 = .ok (.iconst 0, 1) := by decide +kernel
theorem dX7_open_25 : decode cX7_open 25 = .ok (.goto 20, 3) := by decide +kernel
theorem dX7_open_28 : decode cX7_open 28 = .ok (.aload_n 0, 1) := by decide +kernel
theorem dX7_open_29 : decode cX7_open 29 = .ok (.aload_n 0, 1) := by decide +kernel
theorem dX7_open_30 : decode cX7_open 30 = .ok (.getfield 7, 3) := by decide +kernel
theorem dX7_open_33 : decode cX7_open 33 = .ok (.iload_n 1, 1) := by decide +kernel
theorem dX7_open_34 : decode cX7_open 34 = .ok (.iload_n 2, 1) := by decide +kernel
theorem dX7_open_35 : decode cX7_open 35 = .ok (.aload_n 0, 1) := by decide +kernel
theorem dX7_open_36 : decode cX7_open 36 = .ok (.getfield 7, 3) := by decide +kernel
theorem dX7_open_39 : decode cX7_open 39 = .ok (.invokestatic 88, 3) := by decide +kernel
theorem dX7_open_42 : decode cX7_open 42 = .ok (.invokevirtual 92, 3) := by decide +kernel
theorem dX7_open_45 : decode cX7_open 45 = .ok (.ireturn, 1) := by decide +kernel
theorem iX7_open_0 {x : Nat} {Ls st : List Value} {h : AH} : ev L xs mdX7_open 0 (.ref x :: Ls) (st) h = ev L xs mdX7_open 1 (.ref x :: Ls) (.ref x :: st) (h) := e_aload_n dX7_open_0 rfl
theorem iX7_open_1 {v0 : Value} {x : Int32} {Ls st : List Value} {h : AH} : ev L xs mdX7_open 1 (v0 :: .int x :: Ls) (st) h = ev L xs mdX7_open 2 (v0 :: .int x :: Ls) (.int x :: st) (h) := e_iload_n dX7_open_1 rfl
theorem iX7_open_2 {v0 : Value} {v1 : Value} {x : Int32} {Ls st : List Value} {h : AH} : ev L xs mdX7_open 2 (v0 :: v1 :: .int x :: Ls) (st) h = ev L xs mdX7_open 3 (v0 :: v1 :: .int x :: Ls) (.int x :: st) (h) := e_iload_n dX7_open_2 rfl
theorem iX7_open_3 {p0 : Int32} {p1 : Int32} {Ls st : List Value} {h : AH} (hw : wds st ≤ 8) : ev L xs mdX7_open 3 Ls (.int p1 :: .int p0 :: st) h = kn L xs mdX7_open 3 6 Ls st (ev L xs mdX7_isTime 0 [.int p0, .int p1] [] h) := e_callS (as := [.int p1, .int p0]) dX7_open_3 mr_7_150 (by decide) (by decide) rfl (by simp [wds, Value.category]; decide) rfl hw
theorem iX7_open_6 {x : Int32} {Ls st : List Value} {h : AH} : ev L xs mdX7_open 6 Ls (.int x :: st) h = if x = nI 0 then ev L xs mdX7_open 13 Ls st h else ev L xs mdX7_open 9 Ls st h := e_if_eq dX7_open_6 (by decide)
theorem iX7_open_9  {Ls st : List Value} {h : AH} : ev L xs mdX7_open 9 (Ls) (st) h = ev L xs mdX7_open 10 (Ls) (.int (nI 0) :: st) (h) := e_iconst dX7_open_9 (by decide)
theorem iX7_open_10  {Ls st : List Value} {h : AH} : ev L xs mdX7_open 10 (Ls) (st) h = ev L xs mdX7_open 14 (Ls) (st) (h) := e_goto dX7_open_10 (by decide)
theorem iX7_open_13  {Ls st : List Value} {h : AH} : ev L xs mdX7_open 13 (Ls) (st) h = ev L xs mdX7_open 14 (Ls) (.int (nI 1) :: st) (h) := e_iconst dX7_open_13 (by decide)
theorem iX7_open_14 {a : Nat} {v : Int32} {Ls st : List Value} {h : AH} (hk : hK h a = 7) : ev L xs mdX7_open 14 (Ls) (.int v :: .ref a :: st) h = ev L xs mdX7_open 17 (Ls) (st) (sI h 112 a v) := e_putI (k := 7) (f := 0) (F := 112) dX7_open_14 (by decide +kernel) rfl (by decide +kernel) rfl hk
theorem iX7_open_17 {x : Nat} {Ls st : List Value} {h : AH} : ev L xs mdX7_open 17 (.ref x :: Ls) (st) h = ev L xs mdX7_open 18 (.ref x :: Ls) (.ref x :: st) (h) := e_aload_n dX7_open_17 rfl
theorem iX7_open_18 {a : Nat} {Ls st : List Value} {h : AH} (hk : hK h a = 7) : ev L xs mdX7_open 18 (Ls) (.ref a :: st) h = ev L xs mdX7_open 21 (Ls) (.int (hI h 112 a) :: st) (h) := e_getI (k := 7) (f := 0) (F := 112) dX7_open_18 (by decide +kernel) rfl rfl hk
theorem iX7_open_21 {x : Int32} {Ls st : List Value} {h : AH} : ev L xs mdX7_open 21 Ls (.int x :: st) h = if x ≤ nI 0 then ev L xs mdX7_open 28 Ls st h else ev L xs mdX7_open 24 Ls st h := e_if_le dX7_open_21 (by decide)
theorem iX7_open_24  {Ls st : List Value} {h : AH} : ev L xs mdX7_open 24 (Ls) (st) h = ev L xs mdX7_open 25 (Ls) (.int (nI 0) :: st) (h) := e_iconst dX7_open_24 (by decide)
theorem iX7_open_25  {Ls st : List Value} {h : AH} : ev L xs mdX7_open 25 (Ls) (st) h = ev L xs mdX7_open 45 (Ls) (st) (h) := e_goto dX7_open_25 (by decide)
theorem iX7_open_28 {x : Nat} {Ls st : List Value} {h : AH} : ev L xs mdX7_open 28 (.ref x :: Ls) (st) h = ev L xs mdX7_open 29 (.ref x :: Ls) (.ref x :: st) (h) := e_aload_n dX7_open_28 rfl
theorem iX7_open_29 {x : Nat} {Ls st : List Value} {h : AH} : ev L xs mdX7_open 29 (.ref x :: Ls) (st) h = ev L xs mdX7_open 30 (.ref x :: Ls) (.ref x :: st) (h) := e_aload_n dX7_open_29 rfl
theorem iX7_open_30 {a : Nat} {Ls st : List Value} {h : AH} (hk : hK h a = 7) (hj : (hR h 113 a).isSome = true) : ev L xs mdX7_open 30 (Ls) (.ref a :: st) h = ev L xs mdX7_open 33 (Ls) (.ref ((hR h 113 a).getD 0) :: st) (h) := e_getR (k := 7) (f := 1) (F := 113) dX7_open_30 (by decide +kernel) rfl rfl hk hj
theorem iX7_open_33 {v0 : Value} {x : Int32} {Ls st : List Value} {h : AH} : ev L xs mdX7_open 33 (v0 :: .int x :: Ls) (st) h = ev L xs mdX7_open 34 (v0 :: .int x :: Ls) (.int x :: st) (h) := e_iload_n dX7_open_33 rfl
theorem iX7_open_34 {v0 : Value} {v1 : Value} {x : Int32} {Ls st : List Value} {h : AH} : ev L xs mdX7_open 34 (v0 :: v1 :: .int x :: Ls) (st) h = ev L xs mdX7_open 35 (v0 :: v1 :: .int x :: Ls) (.int x :: st) (h) := e_iload_n dX7_open_34 rfl
theorem iX7_open_35 {x : Nat} {Ls st : List Value} {h : AH} : ev L xs mdX7_open 35 (.ref x :: Ls) (st) h = ev L xs mdX7_open 36 (.ref x :: Ls) (.ref x :: st) (h) := e_aload_n dX7_open_35 rfl
theorem iX7_open_36 {a : Nat} {Ls st : List Value} {h : AH} (hk : hK h a = 7) (hj : (hR h 113 a).isSome = true) : ev L xs mdX7_open 36 (Ls) (.ref a :: st) h = ev L xs mdX7_open 39 (Ls) (.ref ((hR h 113 a).getD 0) :: st) (h) := e_getR (k := 7) (f := 1) (F := 113) dX7_open_36 (by decide +kernel) rfl rfl hk hj
theorem iX7_open_39 {p0 : Nat} {Ls st : List Value} {h : AH} (hw : wds st ≤ 8) : ev L xs mdX7_open 39 Ls (.ref p0 :: st) h = kn L xs mdX7_open 39 42 Ls st (ev L xs mdX7_numberOf 0 [.ref p0] [] h) := e_callS (as := [.ref p0]) dX7_open_39 mr_7_88 (by decide) (by decide) rfl (by simp [wds, Value.category]; decide) rfl hw
theorem iX7_open_42 {a : Nat} {p0 : Nat} {p1 : Int32} {p2 : Int32} {p3 : Int32} {Ls st : List Value} {h : AH} (hk : hK h a = 7) (hw : wds st ≤ 8) : ev L xs mdX7_open 42 Ls (.int p3 :: .int p2 :: .int p1 :: .ref p0 :: .ref a :: st) h = kn L xs mdX7_open 42 45 Ls st (ev L xs mdX7_look 0 [.ref a, .ref p0, .int p1, .int p2, .int p3, .null, .null, .null, .null, .null] [] h) := e_callV (as := [.int p3, .int p2, .int p1, .ref p0]) dX7_open_42 mr_7_92 (by decide) (by decide) rfl (by simp [wds, Value.category]; decide) rfl (by decide) hk hw
theorem iX7_open_45 {v : Int32} {Ls : List Value} {h : AH} : ev L xs mdX7_open 45 Ls [.int v] h = some (.inl (some (.int v), h)) := e_iret dX7_open_45 rfl
theorem dX7_opensOn_0 : decode cX7_opensOn 0 = .ok (.aload_n 0, 1) := by decide +kernel
theorem dX7_opensOn_1 : decode cX7_opensOn 1 = .ok (.aload_n 1, 1) := by decide +kernel
theorem dX7_opensOn_2 : decode cX7_opensOn 2 = .ok (.iload_n 2, 1) := by decide +kernel
theorem dX7_opensOn_3 : decode cX7_opensOn 3 = .ok (.iconst 0, 1) := by decide +kernel
theorem dX7_opensOn_4 : decode cX7_opensOn 4 = .ok (.aload_n 1, 1) := by decide +kernel
theorem dX7_opensOn_5 : decode cX7_opensOn 5 = .ok (.invokestatic 88, 3) := by decide +kernel
theorem dX7_opensOn_8 : decode cX7_opensOn 8 = .ok (.invokevirtual 92, 3) := by decide +kernel
theorem dX7_opensOn_11 : decode cX7_opensOn 11 = .ok (.invokestatic 96, 3) := by decide +kernel
theorem dX7_opensOn_14 : decode cX7_opensOn 14 = .ok (.aload_n 0, 1) := by decide +kernel
theorem dX7_opensOn_15 : decode cX7_opensOn 15 = .ok (.aload_n 1, 1) := by decide +kernel
theorem dX7_opensOn_16 : decode cX7_opensOn 16 = .ok (.iload_n 2, 1) := by decide +kernel
theorem dX7_opensOn_17 : decode cX7_opensOn 17 = .ok (.iconst 1, 1) := by decide +kernel
theorem dX7_opensOn_18 : decode cX7_opensOn 18 = .ok (.aload_n 1, 1) := by decide +kernel
theorem dX7_opensOn_19 : decode cX7_opensOn 19 = .ok (.invokestatic 88, 3) := by decide +kernel
theorem dX7_opensOn_22 : decode cX7_opensOn 22 = .ok (.invokevirtual 92, 3) := by decide +kernel
theorem dX7_opensOn_25 : decode cX7_opensOn 25 = .ok (.invokestatic 96, 3) := by decide +kernel
theorem dX7_opensOn_28 : decode cX7_opensOn 28 = .ok (.iadd, 1) := by decide +kernel
theorem dX7_opensOn_29 : decode cX7_opensOn 29 = .ok (.ireturn, 1) := by decide +kernel
theorem iX7_opensOn_0 {x : Nat} {Ls st : List Value} {h : AH} : ev L xs mdX7_opensOn 0 (.ref x :: Ls) (st) h = ev L xs mdX7_opensOn 1 (.ref x :: Ls) (.ref x :: st) (h) := e_aload_n dX7_opensOn_0 rfl
theorem iX7_opensOn_1 {v0 : Value} {x : Nat} {Ls st : List Value} {h : AH} : ev L xs mdX7_opensOn 1 (v0 :: .ref x :: Ls) (st) h = ev L xs mdX7_opensOn 2 (v0 :: .ref x :: Ls) (.ref x :: st) (h) := e_aload_n dX7_opensOn_1 rfl
theorem iX7_opensOn_2 {v0 : Value} {v1 : Value} {x : Int32} {Ls st : List Value} {h : AH} : ev L xs mdX7_opensOn 2 (v0 :: v1 :: .int x :: Ls) (st) h = ev L xs mdX7_opensOn 3 (v0 :: v1 :: .int x :: Ls) (.int x :: st) (h) := e_iload_n dX7_opensOn_2 rfl
theorem iX7_opensOn_3  {Ls st : List Value} {h : AH} : ev L xs mdX7_opensOn 3 (Ls) (st) h = ev L xs mdX7_opensOn 4 (Ls) (.int (nI 0) :: st) (h) := e_iconst dX7_opensOn_3 (by decide)
theorem iX7_opensOn_4 {v0 : Value} {x : Nat} {Ls st : List Value} {h : AH} : ev L xs mdX7_opensOn 4 (v0 :: .ref x :: Ls) (st) h = ev L xs mdX7_opensOn 5 (v0 :: .ref x :: Ls) (.ref x :: st) (h) := e_aload_n dX7_opensOn_4 rfl
theorem iX7_opensOn_5 {p0 : Nat} {Ls st : List Value} {h : AH} (hw : wds st ≤ 8) : ev L xs mdX7_opensOn 5 Ls (.ref p0 :: st) h = kn L xs mdX7_opensOn 5 8 Ls st (ev L xs mdX7_numberOf 0 [.ref p0] [] h) := e_callS (as := [.ref p0]) dX7_opensOn_5 mr_7_88 (by decide) (by decide) rfl (by simp [wds, Value.category]; decide) rfl hw
theorem iX7_opensOn_8 {a : Nat} {p0 : Nat} {p1 : Int32} {p2 : Int32} {p3 : Int32} {Ls st : List Value} {h : AH} (hk : hK h a = 7) (hw : wds st ≤ 8) : ev L xs mdX7_opensOn 8 Ls (.int p3 :: .int p2 :: .int p1 :: .ref p0 :: .ref a :: st) h = kn L xs mdX7_opensOn 8 11 Ls st (ev L xs mdX7_look 0 [.ref a, .ref p0, .int p1, .int p2, .int p3, .null, .null, .null, .null, .null] [] h) := e_callV (as := [.int p3, .int p2, .int p1, .ref p0]) dX7_opensOn_8 mr_7_92 (by decide) (by decide) rfl (by simp [wds, Value.category]; decide) rfl (by decide) hk hw
theorem iX7_opensOn_11 {p0 : Int32} {Ls st : List Value} {h : AH} (hw : wds st ≤ 8) : ev L xs mdX7_opensOn 11 Ls (.int p0 :: st) h = kn L xs mdX7_opensOn 11 14 Ls st (ev L xs mdX7_many 0 [.int p0, .null, .null] [] h) := e_callS (as := [.int p0]) dX7_opensOn_11 mr_7_96 (by decide) (by decide) rfl (by simp [wds, Value.category]; decide) rfl hw
theorem iX7_opensOn_14 {x : Nat} {Ls st : List Value} {h : AH} : ev L xs mdX7_opensOn 14 (.ref x :: Ls) (st) h = ev L xs mdX7_opensOn 15 (.ref x :: Ls) (.ref x :: st) (h) := e_aload_n dX7_opensOn_14 rfl
theorem iX7_opensOn_15 {v0 : Value} {x : Nat} {Ls st : List Value} {h : AH} : ev L xs mdX7_opensOn 15 (v0 :: .ref x :: Ls) (st) h = ev L xs mdX7_opensOn 16 (v0 :: .ref x :: Ls) (.ref x :: st) (h) := e_aload_n dX7_opensOn_15 rfl
theorem iX7_opensOn_16 {v0 : Value} {v1 : Value} {x : Int32} {Ls st : List Value} {h : AH} : ev L xs mdX7_opensOn 16 (v0 :: v1 :: .int x :: Ls) (st) h = ev L xs mdX7_opensOn 17 (v0 :: v1 :: .int x :: Ls) (.int x :: st) (h) := e_iload_n dX7_opensOn_16 rfl
theorem iX7_opensOn_17  {Ls st : List Value} {h : AH} : ev L xs mdX7_opensOn 17 (Ls) (st) h = ev L xs mdX7_opensOn 18 (Ls) (.int (nI 1) :: st) (h) := e_iconst dX7_opensOn_17 (by decide)
theorem iX7_opensOn_18 {v0 : Value} {x : Nat} {Ls st : List Value} {h : AH} : ev L xs mdX7_opensOn 18 (v0 :: .ref x :: Ls) (st) h = ev L xs mdX7_opensOn 19 (v0 :: .ref x :: Ls) (.ref x :: st) (h) := e_aload_n dX7_opensOn_18 rfl
theorem iX7_opensOn_19 {p0 : Nat} {Ls st : List Value} {h : AH} (hw : wds st ≤ 8) : ev L xs mdX7_opensOn 19 Ls (.ref p0 :: st) h = kn L xs mdX7_opensOn 19 22 Ls st (ev L xs mdX7_numberOf 0 [.ref p0] [] h) := e_callS (as := [.ref p0]) dX7_opensOn_19 mr_7_88 (by decide) (by decide) rfl (by simp [wds, Value.category]; decide) rfl hw
theorem iX7_opensOn_22 {a : Nat} {p0 : Nat} {p1 : Int32} {p2 : Int32} {p3 : Int32} {Ls st : List Value} {h : AH} (hk : hK h a = 7) (hw : wds st ≤ 8) : ev L xs mdX7_opensOn 22 Ls (.int p3 :: .int p2 :: .int p1 :: .ref p0 :: .ref a :: st) h = kn L xs mdX7_opensOn 22 25 Ls st (ev L xs mdX7_look 0 [.ref a, .ref p0, .int p1, .int p2, .int p3, .null, .null, .null, .null, .null] [] h) := e_callV (as := [.int p3, .int p2, .int p1, .ref p0]) dX7_opensOn_22 mr_7_92 (by decide) (by decide) rfl (by simp [wds, Value.category]; decide) rfl (by decide) hk hw
theorem iX7_opensOn_25 {p0 : Int32} {Ls st : List Value} {h : AH} (hw : wds st ≤ 8) : ev L xs mdX7_opensOn 25 Ls (.int p0 :: st) h = kn L xs mdX7_opensOn 25 28 Ls st (ev L xs mdX7_many 0 [.int p0, .null, .null] [] h) := e_callS (as := [.int p0]) dX7_opensOn_25 mr_7_96 (by decide) (by decide) rfl (by simp [wds, Value.category]; decide) rfl hw
theorem iX7_opensOn_28 {x z : Int32} {Ls st : List Value} {h : AH} : ev L xs mdX7_opensOn 28 (Ls) (.int z :: .int x :: st) h = ev L xs mdX7_opensOn 29 (Ls) (.int (x + z) :: st) (h) := e_iadd dX7_opensOn_28
theorem iX7_opensOn_29 {v : Int32} {Ls : List Value} {h : AH} : ev L xs mdX7_opensOn 29 Ls [.int v] h = some (.inl (some (.int v), h)) := e_iret dX7_opensOn_29 rfl
theorem dX7_ownerOf_0 : decode cX7_ownerOf 0 = .ok (.iconst (-1), 1) := by decide +kernel
theorem dX7_ownerOf_1 : decode cX7_ownerOf 1 = .ok (.istore_n 2, 1) := by decide +kernel
theorem dX7_ownerOf_2 : decode cX7_ownerOf 2 = .ok (.iconst 0, 1) := by decide +kernel
theorem dX7_ownerOf_3 : decode cX7_ownerOf 3 = .ok (.istore_n 3, 1) := by decide +kernel
theorem dX7_ownerOf_4 : decode cX7_ownerOf 4 = .ok (.iload_n 3, 1) := by decide +kernel
theorem dX7_ownerOf_5 : decode cX7_ownerOf 5 = .ok (.aload_n 0, 1) := by decide +kernel
theorem dX7_ownerOf_6 : decode cX7_ownerOf 6 = .ok (.getfield 7, 3) := by decide +kernel
theorem dX7_ownerOf_9 : decode cX7_ownerOf 9 = .ok (.iconst 4, 1) := by decide +kernel
theorem dX7_ownerOf_10 : decode cX7_ownerOf 10 = .ok (.iaload, 1) := by decide +kernel
theorem dX7_ownerOf_11 : decode cX7_ownerOf 11 = .ok (.if_icmp .ge 28, 3) := by decide +kernel
theorem dX7_ownerOf_14 : decode cX7_ownerOf 14 = .ok (.aload_n 0, 1) := by decide +kernel
theorem dX7_ownerOf_15 : decode cX7_ownerOf 15 = .ok (.getfield 7, 3) := by decide +kernel
theorem dX7_ownerOf_18 : decode cX7_ownerOf 18 = .ok (.iload_n 3, 1) := by decide +kernel
theorem dX7_ownerOf_19 : decode cX7_ownerOf 19 = .ok (.iconst 2, 1) := by decide +kernel
theorem dX7_ownerOf_20 : decode cX7_ownerOf 20 = .ok (.invokestatic 56, 3) := by decide +kernel
theorem dX7_ownerOf_23 : decode cX7_ownerOf 23 = .ok (.iload_n 1, 1) := by decide +kernel
theorem dX7_ownerOf_24 : decode cX7_ownerOf 24 = .ok (.if_icmp .ne 7, 3) := by decide +kernel
theorem dX7_ownerOf_27 : decode cX7_ownerOf 27 = .ok (.iload_n 3, 1) := by decide +kernel
theorem dX7_ownerOf_28 : decode cX7_ownerOf 28 = .ok (.goto 4, 3) := by decide +kernel
theorem dX7_ownerOf_31 : decode cX7_ownerOf 31 = .ok (.iload_n 2, 1) := by decide +kernel
theorem dX7_ownerOf_32 : decode cX7_ownerOf 32 = .ok (.istore_n 2, 1) := by decide +kernel
theorem dX7_ownerOf_33 : decode cX7_ownerOf 33 = .ok (.iinc 3 1, 3) := by decide +kernel
theorem dX7_ownerOf_36 : decode cX7_ownerOf 36 = .ok (.goto (-32), 3) := by decide +kernel
theorem dX7_ownerOf_39 : decode cX7_ownerOf 39 = .ok (.iload_n 2, 1) := by decide +kernel
theorem dX7_ownerOf_40 : decode cX7_ownerOf 40 = .ok (.ireturn, 1) := by decide +kernel
theorem iX7_ownerOf_0  {Ls st : List Value} {h : AH} : ev L xs mdX7_ownerOf 0 (Ls) (st) h = ev L xs mdX7_ownerOf 1 (Ls) (.int (-1) :: st) (h) := e_iconst dX7_ownerOf_0 (by decide)
theorem iX7_ownerOf_1 {v0 : Value} {v1 : Value} {v2 : Value} {x : Int32} {Ls st : List Value} {h : AH} (hc9 : v1.category = 1) : ev L xs mdX7_ownerOf 1 (v0 :: v1 :: v2 :: Ls) (.int x :: st) h = ev L xs mdX7_ownerOf 2 (v0 :: v1 :: .int x :: Ls) (st) (h) := e_istore_n dX7_ownerOf_1 rfl (by decide) (by unfold catOK; show (_ || (v1.category == 1)) = true; rw [hc9]; rfl)
theorem iX7_ownerOf_2  {Ls st : List Value} {h : AH} : ev L xs mdX7_ownerOf 2 (Ls) (st) h = ev L xs mdX7_ownerOf 3 (Ls) (.int (nI 0) :: st) (h) := e_iconst dX7_ownerOf_2 (by decide)
theorem iX7_ownerOf_3 {v0 : Value} {v1 : Value} {v2 : Value} {v3 : Value} {x : Int32} {Ls st : List Value} {h : AH} (hc9 : v2.category = 1) : ev L xs mdX7_ownerOf 3 (v0 :: v1 :: v2 :: v3 :: Ls) (.int x :: st) h = ev L xs mdX7_ownerOf 4 (v0 :: v1 :: v2 :: .int x :: Ls) (st) (h) := e_istore_n dX7_ownerOf_3 rfl (by decide) (by unfold catOK; show (_ || (v2.category == 1)) = true; rw [hc9]; rfl)
theorem iX7_ownerOf_4 {v0 : Value} {v1 : Value} {v2 : Value} {x : Int32} {Ls st : List Value} {h : AH} : ev L xs mdX7_ownerOf 4 (v0 :: v1 :: v2 :: .int x :: Ls) (st) h = ev L xs mdX7_ownerOf 5 (v0 :: v1 :: v2 :: .int x :: Ls) (.int x :: st) (h) := e_iload_n dX7_ownerOf_4 rfl
theorem iX7_ownerOf_5 {x : Nat} {Ls st : List Value} {h : AH} : ev L xs mdX7_ownerOf 5 (.ref x :: Ls) (st) h = ev L xs mdX7_ownerOf 6 (.ref x :: Ls) (.ref x :: st) (h) := e_aload_n dX7_ownerOf_5 rfl
theorem iX7_ownerOf_6 {a : Nat} {Ls st : List Value} {h : AH} (hk : hK h a = 7) (hj : (hR h 113 a).isSome = true) : ev L xs mdX7_ownerOf 6 (Ls) (.ref a :: st) h = ev L xs mdX7_ownerOf 9 (Ls) (.ref ((hR h 113 a).getD 0) :: st) (h) := e_getR (k := 7) (f := 1) (F := 113) dX7_ownerOf_6 (by decide +kernel) rfl rfl hk hj
theorem iX7_ownerOf_9  {Ls st : List Value} {h : AH} : ev L xs mdX7_ownerOf 9 (Ls) (st) h = ev L xs mdX7_ownerOf 10 (Ls) (.int (nI 4) :: st) (h) := e_iconst dX7_ownerOf_9 (by decide)
theorem iX7_ownerOf_10 {a : Nat} {j : Int32} {Ls st : List Value} {h : AH} (hk : hK h a = 8) (hi : inA j (hN h a) = true) : ev L xs mdX7_ownerOf 10 (Ls) (.int j :: .ref a :: st) h = ev L xs mdX7_ownerOf 11 (Ls) (.int (hA h a j.toNatClampNeg) :: st) (h) := e_iald dX7_ownerOf_10 hk hi
theorem iX7_ownerOf_11 {x z : Int32} {Ls st : List Value} {h : AH} : ev L xs mdX7_ownerOf 11 Ls (.int z :: .int x :: st) h = if z ≤ x then ev L xs mdX7_ownerOf 39 Ls st h else ev L xs mdX7_ownerOf 14 Ls st h := e_ic_ge dX7_ownerOf_11 (by decide)
theorem iX7_ownerOf_14 {x : Nat} {Ls st : List Value} {h : AH} : ev L xs mdX7_ownerOf 14 (.ref x :: Ls) (st) h = ev L xs mdX7_ownerOf 15 (.ref x :: Ls) (.ref x :: st) (h) := e_aload_n dX7_ownerOf_14 rfl
theorem iX7_ownerOf_15 {a : Nat} {Ls st : List Value} {h : AH} (hk : hK h a = 7) (hj : (hR h 113 a).isSome = true) : ev L xs mdX7_ownerOf 15 (Ls) (.ref a :: st) h = ev L xs mdX7_ownerOf 18 (Ls) (.ref ((hR h 113 a).getD 0) :: st) (h) := e_getR (k := 7) (f := 1) (F := 113) dX7_ownerOf_15 (by decide +kernel) rfl rfl hk hj
theorem iX7_ownerOf_18 {v0 : Value} {v1 : Value} {v2 : Value} {x : Int32} {Ls st : List Value} {h : AH} : ev L xs mdX7_ownerOf 18 (v0 :: v1 :: v2 :: .int x :: Ls) (st) h = ev L xs mdX7_ownerOf 19 (v0 :: v1 :: v2 :: .int x :: Ls) (.int x :: st) (h) := e_iload_n dX7_ownerOf_18 rfl
theorem iX7_ownerOf_19  {Ls st : List Value} {h : AH} : ev L xs mdX7_ownerOf 19 (Ls) (st) h = ev L xs mdX7_ownerOf 20 (Ls) (.int (nI 2) :: st) (h) := e_iconst dX7_ownerOf_19 (by decide)
theorem iX7_ownerOf_20 {p0 : Nat} {p1 : Int32} {p2 : Int32} {Ls st : List Value} {h : AH} (hw : wds st ≤ 8) : ev L xs mdX7_ownerOf 20 Ls (.int p2 :: .int p1 :: .ref p0 :: st) h = kn L xs mdX7_ownerOf 20 23 Ls st (ev L xs mdX7_by 0 [.ref p0, .int p1, .int p2] [] h) := e_callS (as := [.int p2, .int p1, .ref p0]) dX7_ownerOf_20 mr_7_56 (by decide) (by decide) rfl (by simp [wds, Value.category]; decide) rfl hw
theorem iX7_ownerOf_23 {v0 : Value} {x : Int32} {Ls st : List Value} {h : AH} : ev L xs mdX7_ownerOf 23 (v0 :: .int x :: Ls) (st) h = ev L xs mdX7_ownerOf 24 (v0 :: .int x :: Ls) (.int x :: st) (h) := e_iload_n dX7_ownerOf_23 rfl
theorem iX7_ownerOf_24 {x z : Int32} {Ls st : List Value} {h : AH} : ev L xs mdX7_ownerOf 24 Ls (.int z :: .int x :: st) h = if x = z then ev L xs mdX7_ownerOf 27 Ls st h else ev L xs mdX7_ownerOf 31 Ls st h := e_ic_ne dX7_ownerOf_24 (by decide)
theorem iX7_ownerOf_27 {v0 : Value} {v1 : Value} {v2 : Value} {x : Int32} {Ls st : List Value} {h : AH} : ev L xs mdX7_ownerOf 27 (v0 :: v1 :: v2 :: .int x :: Ls) (st) h = ev L xs mdX7_ownerOf 28 (v0 :: v1 :: v2 :: .int x :: Ls) (.int x :: st) (h) := e_iload_n dX7_ownerOf_27 rfl
theorem iX7_ownerOf_28  {Ls st : List Value} {h : AH} : ev L xs mdX7_ownerOf 28 (Ls) (st) h = ev L xs mdX7_ownerOf 32 (Ls) (st) (h) := e_goto dX7_ownerOf_28 (by decide)
theorem iX7_ownerOf_31 {v0 : Value} {v1 : Value} {x : Int32} {Ls st : List Value} {h : AH} : ev L xs mdX7_ownerOf 31 (v0 :: v1 :: .int x :: Ls) (st) h = ev L xs mdX7_ownerOf 32 (v0 :: v1 :: .int x :: Ls) (.int x :: st) (h) := e_iload_n dX7_ownerOf_31 rfl
theorem iX7_ownerOf_32 {v0 : Value} {v1 : Value} {v2 : Value} {x : Int32} {Ls st : List Value} {h : AH} (hc9 : v1.category = 1) : ev L xs mdX7_ownerOf 32 (v0 :: v1 :: v2 :: Ls) (.int x :: st) h = ev L xs mdX7_ownerOf 33 (v0 :: v1 :: .int x :: Ls) (st) (h) := e_istore_n dX7_ownerOf_32 rfl (by decide) (by unfold catOK; show (_ || (v1.category == 1)) = true; rw [hc9]; rfl)
theorem iX7_ownerOf_33 {v0 : Value} {v1 : Value} {v2 : Value} {x : Int32} {Ls st : List Value} {h : AH} (hc9 : v2.category = 1) : ev L xs mdX7_ownerOf 33 (v0 :: v1 :: v2 :: .int x :: Ls) (st) h = ev L xs mdX7_ownerOf 36 (v0 :: v1 :: v2 :: .int (x + (nI 1)) :: Ls) (st) (h) := e_iinc dX7_ownerOf_33 rfl rfl rfl (by decide) (by unfold catOK; show (_ || (v2.category == 1)) = true; rw [hc9]; rfl)
theorem iX7_ownerOf_36  {Ls st : List Value} {h : AH} : ev L xs mdX7_ownerOf 36 (Ls) (st) h = ev L xs mdX7_ownerOf 4 (Ls) (st) (h) := e_goto dX7_ownerOf_36 (by decide)
theorem iX7_ownerOf_39 {v0 : Value} {v1 : Value} {x : Int32} {Ls st : List Value} {h : AH} : ev L xs mdX7_ownerOf 39 (v0 :: v1 :: .int x :: Ls) (st) h = ev L xs mdX7_ownerOf 40 (v0 :: v1 :: .int x :: Ls) (.int x :: st) (h) := e_iload_n dX7_ownerOf_39 rfl
theorem iX7_ownerOf_40 {v : Int32} {Ls : List Value} {h : AH} : ev L xs mdX7_ownerOf 40 Ls [.int v] h = some (.inl (some (.int v), h)) := e_iret dX7_ownerOf_40 rfl
theorem dX7_pass_0 : decode cX7_pass 0 = .ok (.aload_n 0, 1) := by decide +kernel
theorem dX7_pass_1 : decode cX7_pass 1 = .ok (.iload_n 1, 1) := by decide +kernel
theorem dX7_pass_2 : decode cX7_pass 2 = .ok (.iconst 1, 1) := by decide +kernel
theorem dX7_pass_3 : decode cX7_pass 3 = .ok (.bipush 60, 2) := by decide +kernel
theorem dX7_pass_5 : decode cX7_pass 5 = .ok (.invokestatic 44, 3) := by decide +kernel
theorem dX7_pass_8 : decode cX7_pass 8 = .ok (.ifCond .ne 7, 3) := by decide +kernel
theorem dX7_pass_11 : decode cX7_pass 11 = .ok (.iconst 1, 1) := by decide +kernel
theorem dX7_pass_12 : decode cX7_pass 12 = .ok (.goto 16, 3) := by decide +kernel
theorem dX7_pass_15 : decode cX7_pass 15 = .ok (.aload_n 0, 1) := by decide +kernel
theorem dX7_pass_16 : decode cX7_pass 16 = .ok (.iload_n 1, 1) := by decide +kernel
theorem dX7_pass_17 : decode cX7_pass 17 = .ok (.invokevirtual 131, 3) := by decide +kernel
theorem dX7_pass_20 : decode cX7_pass 20 = .ok (.ifCond .ne 7, 3) := by decide +kernel
theorem dX7_pass_23 : decode cX7_pass 23 = .ok (.iconst 2, 1) := by decide +kernel
theorem dX7_pass_24 : decode cX7_pass 24 = .ok (.goto 4, 3) := by decide +kernel
theorem dX7_pass_27 : decode cX7_pass 27 = .ok (.iconst 0, 1) := by decide +kernel
theorem dX7_pass_28 : decode cX7_pass 28 = .ok (.putfield 34, 3) := by decide +kernel
theorem dX7_pass_31 : decode cX7_pass 31 = .ok (.aload_n 0, 1) := by decide +kernel
theorem dX7_pass_32 : decode cX7_pass 32 = .ok (.getfield 34, 3) := by decide +kernel
theorem dX7_pass_35 : decode cX7_pass 35 = .ok (.ifCond .le 5, 3) := by decide +kernel
theorem dX7_pass_38 : decode cX7_pass 38 = .ok (.iconst 0, 1) := by decide +kernel
theorem dX7_pass_39 : decode cX7_pass 39 = .ok (.ireturn, 1) := by decide +kernel
theorem dX7_pass_40 : decode cX7_pass 40 = .ok (.aload_n 0, 1) := by decide +kernel
theorem dX7_pass_41 : decode cX7_pass 41 = .ok (.invokevirtual 109, 3) := by decide +kernel
theorem dX7_pass_44 : decode cX7_pass 44 = .ok (.aload_n 0, 1) := by decide +kernel
theorem dX7_pass_45 : decode cX7_pass 45 = .ok (.iload_n 1, 1) := by decide +kernel
theorem dX7_pass_46 : decode cX7_pass 46 = .ok (.invokevirtual 134, 3) := by decide +kernel
theorem dX7_pass_49 : decode cX7_pass 49 = .ok (.ireturn, 1) := by decide +kernel
theorem iX7_pass_0 {x : Nat} {Ls st : List Value} {h : AH} : ev L xs mdX7_pass 0 (.ref x :: Ls) (st) h = ev L xs mdX7_pass 1 (.ref x :: Ls) (.ref x :: st) (h) := e_aload_n dX7_pass_0 rfl
theorem iX7_pass_1 {v0 : Value} {x : Int32} {Ls st : List Value} {h : AH} : ev L xs mdX7_pass 1 (v0 :: .int x :: Ls) (st) h = ev L xs mdX7_pass 2 (v0 :: .int x :: Ls) (.int x :: st) (h) := e_iload_n dX7_pass_1 rfl
theorem iX7_pass_2  {Ls st : List Value} {h : AH} : ev L xs mdX7_pass 2 (Ls) (st) h = ev L xs mdX7_pass 3 (Ls) (.int (nI 1) :: st) (h) := e_iconst dX7_pass_2 (by decide)
theorem iX7_pass_3  {Ls st : List Value} {h : AH} : ev L xs mdX7_pass 3 (Ls) (st) h = ev L xs mdX7_pass 5 (Ls) (.int (nI 60) :: st) (h) := e_bipush dX7_pass_3 (by decide)
theorem iX7_pass_5 {p0 : Int32} {p1 : Int32} {p2 : Int32} {Ls st : List Value} {h : AH} (hw : wds st ≤ 8) : ev L xs mdX7_pass 5 Ls (.int p2 :: .int p1 :: .int p0 :: st) h = kn L xs mdX7_pass 5 8 Ls st (ev L xs mdX7_in 0 [.int p0, .int p1, .int p2] [] h) := e_callS (as := [.int p2, .int p1, .int p0]) dX7_pass_5 mr_7_44 (by decide) (by decide) rfl (by simp [wds, Value.category]; decide) rfl hw
theorem iX7_pass_8 {x : Int32} {Ls st : List Value} {h : AH} : ev L xs mdX7_pass 8 Ls (.int x :: st) h = if x = nI 0 then ev L xs mdX7_pass 11 Ls st h else ev L xs mdX7_pass 15 Ls st h := e_if_ne dX7_pass_8 (by decide)
theorem iX7_pass_11  {Ls st : List Value} {h : AH} : ev L xs mdX7_pass 11 (Ls) (st) h = ev L xs mdX7_pass 12 (Ls) (.int (nI 1) :: st) (h) := e_iconst dX7_pass_11 (by decide)
theorem iX7_pass_12  {Ls st : List Value} {h : AH} : ev L xs mdX7_pass 12 (Ls) (st) h = ev L xs mdX7_pass 28 (Ls) (st) (h) := e_goto dX7_pass_12 (by decide)
theorem iX7_pass_15 {x : Nat} {Ls st : List Value} {h : AH} : ev L xs mdX7_pass 15 (.ref x :: Ls) (st) h = ev L xs mdX7_pass 16 (.ref x :: Ls) (.ref x :: st) (h) := e_aload_n dX7_pass_15 rfl
theorem iX7_pass_16 {v0 : Value} {x : Int32} {Ls st : List Value} {h : AH} : ev L xs mdX7_pass 16 (v0 :: .int x :: Ls) (st) h = ev L xs mdX7_pass 17 (v0 :: .int x :: Ls) (.int x :: st) (h) := e_iload_n dX7_pass_16 rfl
theorem iX7_pass_17 {a : Nat} {p0 : Int32} {Ls st : List Value} {h : AH} (hk : hK h a = 7) (hw : wds st ≤ 8) : ev L xs mdX7_pass 17 Ls (.int p0 :: .ref a :: st) h = kn L xs mdX7_pass 17 20 Ls st (ev L xs mdX7_canPass 0 [.ref a, .int p0] [] h) := e_callV (as := [.int p0]) dX7_pass_17 mr_7_131 (by decide) (by decide) rfl (by simp [wds, Value.category]; decide) rfl (by decide) hk hw
theorem iX7_pass_20 {x : Int32} {Ls st : List Value} {h : AH} : ev L xs mdX7_pass 20 Ls (.int x :: st) h = if x = nI 0 then ev L xs mdX7_pass 23 Ls st h else ev L xs mdX7_pass 27 Ls st h := e_if_ne dX7_pass_20 (by decide)
theorem iX7_pass_23  {Ls st : List Value} {h : AH} : ev L xs mdX7_pass 23 (Ls) (st) h = ev L xs mdX7_pass 24 (Ls) (.int (nI 2) :: st) (h) := e_iconst dX7_pass_23 (by decide)
theorem iX7_pass_24  {Ls st : List Value} {h : AH} : ev L xs mdX7_pass 24 (Ls) (st) h = ev L xs mdX7_pass 28 (Ls) (st) (h) := e_goto dX7_pass_24 (by decide)
theorem iX7_pass_27  {Ls st : List Value} {h : AH} : ev L xs mdX7_pass 27 (Ls) (st) h = ev L xs mdX7_pass 28 (Ls) (.int (nI 0) :: st) (h) := e_iconst dX7_pass_27 (by decide)
theorem iX7_pass_28 {a : Nat} {v : Int32} {Ls st : List Value} {h : AH} (hk : hK h a = 7) : ev L xs mdX7_pass 28 (Ls) (.int v :: .ref a :: st) h = ev L xs mdX7_pass 31 (Ls) (st) (sI h 112 a v) := e_putI (k := 7) (f := 0) (F := 112) dX7_pass_28 (by decide +kernel) rfl (by decide +kernel) rfl hk
theorem iX7_pass_31 {x : Nat} {Ls st : List Value} {h : AH} : ev L xs mdX7_pass 31 (.ref x :: Ls) (st) h = ev L xs mdX7_pass 32 (.ref x :: Ls) (.ref x :: st) (h) := e_aload_n dX7_pass_31 rfl
theorem iX7_pass_32 {a : Nat} {Ls st : List Value} {h : AH} (hk : hK h a = 7) : ev L xs mdX7_pass 32 (Ls) (.ref a :: st) h = ev L xs mdX7_pass 35 (Ls) (.int (hI h 112 a) :: st) (h) := e_getI (k := 7) (f := 0) (F := 112) dX7_pass_32 (by decide +kernel) rfl rfl hk
theorem iX7_pass_35 {x : Int32} {Ls st : List Value} {h : AH} : ev L xs mdX7_pass 35 Ls (.int x :: st) h = if x ≤ nI 0 then ev L xs mdX7_pass 40 Ls st h else ev L xs mdX7_pass 38 Ls st h := e_if_le dX7_pass_35 (by decide)
theorem iX7_pass_38  {Ls st : List Value} {h : AH} : ev L xs mdX7_pass 38 (Ls) (st) h = ev L xs mdX7_pass 39 (Ls) (.int (nI 0) :: st) (h) := e_iconst dX7_pass_38 (by decide)
theorem iX7_pass_39 {v : Int32} {Ls : List Value} {h : AH} : ev L xs mdX7_pass 39 Ls [.int v] h = some (.inl (some (.int v), h)) := e_iret dX7_pass_39 rfl
theorem iX7_pass_40 {x : Nat} {Ls st : List Value} {h : AH} : ev L xs mdX7_pass 40 (.ref x :: Ls) (st) h = ev L xs mdX7_pass 41 (.ref x :: Ls) (.ref x :: st) (h) := e_aload_n dX7_pass_40 rfl
theorem iX7_pass_41 {a : Nat} {Ls st : List Value} {h : AH} (hk : hK h a = 7) (hw : wds st ≤ 8) : ev L xs mdX7_pass 41 Ls (.ref a :: st) h = kn L xs mdX7_pass 41 44 Ls st (ev L xs mdX7_save 0 [.ref a, .null] [] h) := e_callV (as := []) dX7_pass_41 mr_7_109 (by decide) (by decide) rfl (by simp [wds, Value.category]; decide) rfl (by decide) hk hw
theorem iX7_pass_44 {x : Nat} {Ls st : List Value} {h : AH} : ev L xs mdX7_pass 44 (.ref x :: Ls) (st) h = ev L xs mdX7_pass 45 (.ref x :: Ls) (.ref x :: st) (h) := e_aload_n dX7_pass_44 rfl
theorem iX7_pass_45 {v0 : Value} {x : Int32} {Ls st : List Value} {h : AH} : ev L xs mdX7_pass 45 (v0 :: .int x :: Ls) (st) h = ev L xs mdX7_pass 46 (v0 :: .int x :: Ls) (.int x :: st) (h) := e_iload_n dX7_pass_45 rfl
theorem iX7_pass_46 {a : Nat} {p0 : Int32} {Ls st : List Value} {h : AH} (hk : hK h a = 7) (hw : wds st ≤ 8) : ev L xs mdX7_pass 46 Ls (.int p0 :: .ref a :: st) h = kn L xs mdX7_pass 46 49 Ls st (ev L xs mdX7_passNow 0 [.ref a, .int p0, .null, .null] [] h) := e_callV (as := [.int p0]) dX7_pass_46 mr_7_134 (by decide) (by decide) rfl (by simp [wds, Value.category]; decide) rfl (by decide) hk hw
theorem iX7_pass_49 {v : Int32} {Ls : List Value} {h : AH} : ev L xs mdX7_pass 49 Ls [.int v] h = some (.inl (some (.int v), h)) := e_iret dX7_pass_49 rfl
theorem dX7_passNow_0 : decode cX7_passNow 0 = .ok (.aload_n 0, 1) := by decide +kernel
theorem dX7_passNow_1 : decode cX7_passNow 1 = .ok (.getfield 7, 3) := by decide +kernel
theorem dX7_passNow_4 : decode cX7_passNow 4 = .ok (.iconst 0, 1) := by decide +kernel
theorem dX7_passNow_5 : decode cX7_passNow 5 = .ok (.iaload, 1) := by decide +kernel
theorem dX7_passNow_6 : decode cX7_passNow 6 = .ok (.iload_n 1, 1) := by decide +kernel
theorem dX7_passNow_7 : decode cX7_passNow 7 = .ok (.iadd, 1) := by decide +kernel
theorem dX7_passNow_8 : decode cX7_passNow 8 = .ok (.istore_n 2, 1) := by decide +kernel
theorem dX7_passNow_9 : decode cX7_passNow 9 = .ok (.iconst 0, 1) := by decide +kernel
theorem dX7_passNow_10 : decode cX7_passNow 10 = .ok (.istore_n 3, 1) := by decide +kernel
theorem dX7_passNow_11 : decode cX7_passNow 11 = .ok (.aload_n 0, 1) := by decide +kernel
theorem dX7_passNow_12 : decode cX7_passNow 12 = .ok (.getfield 7, 3) := by decide +kernel
theorem dX7_passNow_15 : decode cX7_passNow 15 = .ok (.iconst 0, 1) := by decide +kernel
theorem dX7_passNow_16 : decode cX7_passNow 16 = .ok (.iaload, 1) := by decide +kernel
theorem dX7_passNow_17 : decode cX7_passNow 17 = .ok (.iload_n 2, 1) := by decide +kernel
theorem dX7_passNow_18 : decode cX7_passNow 18 = .ok (.if_icmp .ge 20, 3) := by decide +kernel
theorem dX7_passNow_21 : decode cX7_passNow 21 = .ok (.iload_n 3, 1) := by decide +kernel
theorem dX7_passNow_22 : decode cX7_passNow 22 = .ok (.aload_n 0, 1) := by decide +kernel
theorem dX7_passNow_23 : decode cX7_passNow 23 = .ok (.aload_n 0, 1) := by decide +kernel
theorem dX7_passNow_24 : decode cX7_passNow 24 = .ok (.getfield 7, 3) := by decide +kernel
theorem dX7_passNow_27 : decode cX7_passNow 27 = .ok (.invokevirtual 106, 3) := by decide +kernel
theorem dX7_passNow_30 : decode cX7_passNow 30 = .ok (.invokestatic 96, 3) := by decide +kernel
theorem dX7_passNow_33 : decode cX7_passNow 33 = .ok (.iadd, 1) := by decide +kernel
theorem dX7_passNow_34 : decode cX7_passNow 34 = .ok (.istore_n 3, 1) := by decide +kernel
theorem dX7_passNow_35 : decode cX7_passNow 35 = .ok (.goto (-24), 3) := by decide +kernel
theorem dX7_passNow_38 : decode cX7_passNow 38 = .ok (.iload_n 3, 1) := by decide +kernel
theorem dX7_passNow_39 : decode cX7_passNow 39 = .ok (.ireturn, 1) := by decide +kernel
theorem iX7_passNow_0 {x : Nat} {Ls st : List Value} {h : AH} : ev L xs mdX7_passNow 0 (.ref x :: Ls) (st) h = ev L xs mdX7_passNow 1 (.ref x :: Ls) (.ref x :: st) (h) := e_aload_n dX7_passNow_0 rfl
theorem iX7_passNow_1 {a : Nat} {Ls st : List Value} {h : AH} (hk : hK h a = 7) (hj : (hR h 113 a).isSome = true) : ev L xs mdX7_passNow 1 (Ls) (.ref a :: st) h = ev L xs mdX7_passNow 4 (Ls) (.ref ((hR h 113 a).getD 0) :: st) (h) := e_getR (k := 7) (f := 1) (F := 113) dX7_passNow_1 (by decide +kernel) rfl rfl hk hj
theorem iX7_passNow_4  {Ls st : List Value} {h : AH} : ev L xs mdX7_passNow 4 (Ls) (st) h = ev L xs mdX7_passNow 5 (Ls) (.int (nI 0) :: st) (h) := e_iconst dX7_passNow_4 (by decide)
theorem iX7_passNow_5 {a : Nat} {j : Int32} {Ls st : List Value} {h : AH} (hk : hK h a = 8) (hi : inA j (hN h a) = true) : ev L xs mdX7_passNow 5 (Ls) (.int j :: .ref a :: st) h = ev L xs mdX7_passNow 6 (Ls) (.int (hA h a j.toNatClampNeg) :: st) (h) := e_iald dX7_passNow_5 hk hi
theorem iX7_passNow_6 {v0 : Value} {x : Int32} {Ls st : List Value} {h : AH} : ev L xs mdX7_passNow 6 (v0 :: .int x :: Ls) (st) h = ev L xs mdX7_passNow 7 (v0 :: .int x :: Ls) (.int x :: st) (h) := e_iload_n dX7_passNow_6 rfl
theorem iX7_passNow_7 {x z : Int32} {Ls st : List Value} {h : AH} : ev L xs mdX7_passNow 7 (Ls) (.int z :: .int x :: st) h = ev L xs mdX7_passNow 8 (Ls) (.int (x + z) :: st) (h) := e_iadd dX7_passNow_7
theorem iX7_passNow_8 {v0 : Value} {v1 : Value} {v2 : Value} {x : Int32} {Ls st : List Value} {h : AH} (hc9 : v1.category = 1) : ev L xs mdX7_passNow 8 (v0 :: v1 :: v2 :: Ls) (.int x :: st) h = ev L xs mdX7_passNow 9 (v0 :: v1 :: .int x :: Ls) (st) (h) := e_istore_n dX7_passNow_8 rfl (by decide) (by unfold catOK; show (_ || (v1.category == 1)) = true; rw [hc9]; rfl)
theorem iX7_passNow_9  {Ls st : List Value} {h : AH} : ev L xs mdX7_passNow 9 (Ls) (st) h = ev L xs mdX7_passNow 10 (Ls) (.int (nI 0) :: st) (h) := e_iconst dX7_passNow_9 (by decide)
theorem iX7_passNow_10 {v0 : Value} {v1 : Value} {v2 : Value} {v3 : Value} {x : Int32} {Ls st : List Value} {h : AH} (hc9 : v2.category = 1) : ev L xs mdX7_passNow 10 (v0 :: v1 :: v2 :: v3 :: Ls) (.int x :: st) h = ev L xs mdX7_passNow 11 (v0 :: v1 :: v2 :: .int x :: Ls) (st) (h) := e_istore_n dX7_passNow_10 rfl (by decide) (by unfold catOK; show (_ || (v2.category == 1)) = true; rw [hc9]; rfl)
theorem iX7_passNow_11 {x : Nat} {Ls st : List Value} {h : AH} : ev L xs mdX7_passNow 11 (.ref x :: Ls) (st) h = ev L xs mdX7_passNow 12 (.ref x :: Ls) (.ref x :: st) (h) := e_aload_n dX7_passNow_11 rfl
theorem iX7_passNow_12 {a : Nat} {Ls st : List Value} {h : AH} (hk : hK h a = 7) (hj : (hR h 113 a).isSome = true) : ev L xs mdX7_passNow 12 (Ls) (.ref a :: st) h = ev L xs mdX7_passNow 15 (Ls) (.ref ((hR h 113 a).getD 0) :: st) (h) := e_getR (k := 7) (f := 1) (F := 113) dX7_passNow_12 (by decide +kernel) rfl rfl hk hj
theorem iX7_passNow_15  {Ls st : List Value} {h : AH} : ev L xs mdX7_passNow 15 (Ls) (st) h = ev L xs mdX7_passNow 16 (Ls) (.int (nI 0) :: st) (h) := e_iconst dX7_passNow_15 (by decide)
theorem iX7_passNow_16 {a : Nat} {j : Int32} {Ls st : List Value} {h : AH} (hk : hK h a = 8) (hi : inA j (hN h a) = true) : ev L xs mdX7_passNow 16 (Ls) (.int j :: .ref a :: st) h = ev L xs mdX7_passNow 17 (Ls) (.int (hA h a j.toNatClampNeg) :: st) (h) := e_iald dX7_passNow_16 hk hi
theorem iX7_passNow_17 {v0 : Value} {v1 : Value} {x : Int32} {Ls st : List Value} {h : AH} : ev L xs mdX7_passNow 17 (v0 :: v1 :: .int x :: Ls) (st) h = ev L xs mdX7_passNow 18 (v0 :: v1 :: .int x :: Ls) (.int x :: st) (h) := e_iload_n dX7_passNow_17 rfl
theorem iX7_passNow_18 {x z : Int32} {Ls st : List Value} {h : AH} : ev L xs mdX7_passNow 18 Ls (.int z :: .int x :: st) h = if z ≤ x then ev L xs mdX7_passNow 38 Ls st h else ev L xs mdX7_passNow 21 Ls st h := e_ic_ge dX7_passNow_18 (by decide)
theorem iX7_passNow_21 {v0 : Value} {v1 : Value} {v2 : Value} {x : Int32} {Ls st : List Value} {h : AH} : ev L xs mdX7_passNow 21 (v0 :: v1 :: v2 :: .int x :: Ls) (st) h = ev L xs mdX7_passNow 22 (v0 :: v1 :: v2 :: .int x :: Ls) (.int x :: st) (h) := e_iload_n dX7_passNow_21 rfl
theorem iX7_passNow_22 {x : Nat} {Ls st : List Value} {h : AH} : ev L xs mdX7_passNow 22 (.ref x :: Ls) (st) h = ev L xs mdX7_passNow 23 (.ref x :: Ls) (.ref x :: st) (h) := e_aload_n dX7_passNow_22 rfl
theorem iX7_passNow_23 {x : Nat} {Ls st : List Value} {h : AH} : ev L xs mdX7_passNow 23 (.ref x :: Ls) (st) h = ev L xs mdX7_passNow 24 (.ref x :: Ls) (.ref x :: st) (h) := e_aload_n dX7_passNow_23 rfl
theorem iX7_passNow_24 {a : Nat} {Ls st : List Value} {h : AH} (hk : hK h a = 7) (hj : (hR h 113 a).isSome = true) : ev L xs mdX7_passNow 24 (Ls) (.ref a :: st) h = ev L xs mdX7_passNow 27 (Ls) (.ref ((hR h 113 a).getD 0) :: st) (h) := e_getR (k := 7) (f := 1) (F := 113) dX7_passNow_24 (by decide +kernel) rfl rfl hk hj
theorem iX7_passNow_27 {a : Nat} {p0 : Nat} {Ls st : List Value} {h : AH} (hk : hK h a = 7) (hw : wds st ≤ 8) : ev L xs mdX7_passNow 27 Ls (.ref p0 :: .ref a :: st) h = kn L xs mdX7_passNow 27 30 Ls st (ev L xs mdX7_go 0 [.ref a, .ref p0, .null, .null, .null] [] h) := e_callV (as := [.ref p0]) dX7_passNow_27 mr_7_106 (by decide) (by decide) rfl (by simp [wds, Value.category]; decide) rfl (by decide) hk hw
theorem iX7_passNow_30 {p0 : Int32} {Ls st : List Value} {h : AH} (hw : wds st ≤ 8) : ev L xs mdX7_passNow 30 Ls (.int p0 :: st) h = kn L xs mdX7_passNow 30 33 Ls st (ev L xs mdX7_many 0 [.int p0, .null, .null] [] h) := e_callS (as := [.int p0]) dX7_passNow_30 mr_7_96 (by decide) (by decide) rfl (by simp [wds, Value.category]; decide) rfl hw
theorem iX7_passNow_33 {x z : Int32} {Ls st : List Value} {h : AH} : ev L xs mdX7_passNow 33 (Ls) (.int z :: .int x :: st) h = ev L xs mdX7_passNow 34 (Ls) (.int (x + z) :: st) (h) := e_iadd dX7_passNow_33
theorem iX7_passNow_34 {v0 : Value} {v1 : Value} {v2 : Value} {v3 : Value} {x : Int32} {Ls st : List Value} {h : AH} (hc9 : v2.category = 1) : ev L xs mdX7_passNow 34 (v0 :: v1 :: v2 :: v3 :: Ls) (.int x :: st) h = ev L xs mdX7_passNow 35 (v0 :: v1 :: v2 :: .int x :: Ls) (st) (h) := e_istore_n dX7_passNow_34 rfl (by decide) (by unfold catOK; show (_ || (v2.category == 1)) = true; rw [hc9]; rfl)
theorem iX7_passNow_35  {Ls st : List Value} {h : AH} : ev L xs mdX7_passNow 35 (Ls) (st) h = ev L xs mdX7_passNow 11 (Ls) (st) (h) := e_goto dX7_passNow_35 (by decide)
theorem iX7_passNow_38 {v0 : Value} {v1 : Value} {v2 : Value} {x : Int32} {Ls st : List Value} {h : AH} : ev L xs mdX7_passNow 38 (v0 :: v1 :: v2 :: .int x :: Ls) (st) h = ev L xs mdX7_passNow 39 (v0 :: v1 :: v2 :: .int x :: Ls) (.int x :: st) (h) := e_iload_n dX7_passNow_38 rfl
theorem iX7_passNow_39 {v : Int32} {Ls : List Value} {h : AH} : ev L xs mdX7_passNow 39 Ls [.int v] h = some (.inl (some (.int v), h)) := e_iret dX7_passNow_39 rfl
theorem dX7_pay_0 : decode cX7_pay 0 = .ok (.aload_n 1, 1) := by decide +kernel
theorem dX7_pay_1 : decode cX7_pay 1 = .ok (.iload_n 2, 1) := by decide +kernel
theorem dX7_pay_2 : decode cX7_pay 2 = .ok (.iconst 2, 1) := by decide +kernel
theorem dX7_pay_3 : decode cX7_pay 3 = .ok (.invokestatic 56, 3) := by decide +kernel
theorem dX7_pay_6 : decode cX7_pay 6 = .ok (.iload_n 3, 1) := by decide +kernel
theorem dX7_pay_7 : decode cX7_pay 7 = .ok (.if_icmp .ne 7, 3) := by decide +kernel
theorem dX7_pay_10 : decode cX7_pay 10 = .ok (.iconst 1, 1) := by decide +kernel
theorem dX7_pay_11 : decode cX7_pay 11 = .ok (.goto 4, 3) := by decide +kernel
theorem dX7_pay_14 : decode cX7_pay 14 = .ok (.iconst 0, 1) := by decide +kernel
theorem dX7_pay_15 : decode cX7_pay 15 = .ok (.istore 4, 2) := by decide +kernel
theorem dX7_pay_17 : decode cX7_pay 17 = .ok (.bipush 10, 2) := by decide +kernel
theorem dX7_pay_19 : decode cX7_pay 19 = .ok (.iconst 2, 1) := by decide +kernel
theorem dX7_pay_20 : decode cX7_pay 20 = .ok (.aload_n 1, 1) := by decide +kernel
theorem dX7_pay_21 : decode cX7_pay 21 = .ok (.iload_n 2, 1) := by decide +kernel
theorem dX7_pay_22 : decode cX7_pay 22 = .ok (.iconst 3, 1) := by decide +kernel
theorem dX7_pay_23 : decode cX7_pay 23 = .ok (.invokestatic 56, 3) := by decide +kernel
theorem dX7_pay_26 : decode cX7_pay 26 = .ok (.imul, 1) := by decide +kernel
theorem dX7_pay_27 : decode cX7_pay 27 = .ok (.iadd, 1) := by decide +kernel
theorem dX7_pay_28 : decode cX7_pay 28 = .ok (.iload 4, 2) := by decide +kernel
theorem dX7_pay_30 : decode cX7_pay 30 = .ok (.ifCond .eq 7, 3) := by decide +kernel
theorem dX7_pay_33 : decode cX7_pay 33 = .ok (.iconst 0, 1) := by decide +kernel
theorem dX7_pay_34 : decode cX7_pay 34 = .ok (.goto 11, 3) := by decide +kernel
theorem dX7_pay_37 : decode cX7_pay 37 = .ok (.aload_n 1, 1) := by decide +kernel
theorem dX7_pay_38 : decode cX7_pay 38 = .ok (.iload_n 2, 1) := by decide +kernel
theorem dX7_pay_39 : decode cX7_pay 39 = .ok (.iload_n 3, 1) := by decide +kernel
theorem dX7_pay_40 : decode cX7_pay 40 = .ok (.invokestatic 67, 3) := by decide +kernel
theorem dX7_pay_43 : decode cX7_pay 43 = .ok (.iconst 5, 1) := by decide +kernel
theorem dX7_pay_44 : decode cX7_pay 44 = .ok (.idiv, 1) := by decide +kernel
theorem dX7_pay_45 : decode cX7_pay 45 = .ok (.iadd, 1) := by decide +kernel
theorem dX7_pay_46 : decode cX7_pay 46 = .ok (.istore 5, 2) := by decide +kernel
theorem dX7_pay_48 : decode cX7_pay 48 = .ok (.aload_n 1, 1) := by decide +kernel
theorem dX7_pay_49 : decode cX7_pay 49 = .ok (.iload_n 2, 1) := by decide +kernel
theorem dX7_pay_50 : decode cX7_pay 50 = .ok (.iconst 5, 1) := by decide +kernel
theorem dX7_pay_51 : decode cX7_pay 51 = .ok (.aload_n 1, 1) := by decide +kernel
theorem dX7_pay_52 : decode cX7_pay 52 = .ok (.iload_n 2, 1) := by decide +kernel
theorem dX7_pay_53 : decode cX7_pay 53 = .ok (.iconst 5, 1) := by decide +kernel
theorem dX7_pay_54 : decode cX7_pay 54 = .ok (.invokestatic 56, 3) := by decide +kernel
theorem dX7_pay_57 : decode cX7_pay 57 = .ok (.iload 5, 2) := by decide +kernel
theorem dX7_pay_59 : decode cX7_pay 59 = .ok (.iadd, 1) := by decide +kernel
theorem dX7_pay_60 : decode cX7_pay 60 = .ok (.invokestatic 84, 3) := by decide +kernel
theorem dX7_pay_63 : decode cX7_pay 63 = .ok (.iload 4, 2) := by decide +kernel
theorem dX7_pay_65 : decode cX7_pay 65 = .ok (.ifCond .eq 8, 3) := by decide +kernel
theorem dX7_pay_68 : decode cX7_pay 68 = .ok (.bipush 7, 2) := by decide +kernel
theorem dX7_pay_70 : decode cX7_pay 70 = .ok (.goto 5, 3) := by decide +kernel
theorem dX7_pay_73 : decode cX7_pay 73 = .ok (.bipush 8, 2) := by decide +kernel
theorem dX7_pay_75 : decode cX7_pay 75 = .ok (.istore 6, 2) := by decide +kernel
theorem dX7_pay_77 : decode cX7_pay 77 = .ok (.aload_n 1, 1) := by decide +kernel
theorem dX7_pay_78 : decode cX7_pay 78 = .ok (.iload_n 2, 1) := by decide +kernel
theorem dX7_pay_79 : decode cX7_pay 79 = .ok (.iload 6, 2) := by decide +kernel
theorem dX7_pay_81 : decode cX7_pay 81 = .ok (.aload_n 1, 1) := by decide +kernel
theorem dX7_pay_82 : decode cX7_pay 82 = .ok (.iload_n 2, 1) := by decide +kernel
theorem dX7_pay_83 : decode cX7_pay 83 = .ok (.iload 6, 2) := by decide +kernel
theorem dX7_pay_85 : decode cX7_pay 85 = .ok (.invokestatic 56, 3) := by decide +kernel
theorem dX7_pay_88 : decode cX7_pay 88 = .ok (.iconst 1, 1) := by decide +kernel
theorem dX7_pay_89 : decode cX7_pay 89 = .ok (.iadd, 1) := by decide +kernel
theorem dX7_pay_90 : decode cX7_pay 90 = .ok (.invokestatic 84, 3) := by decide +kernel
theorem dX7_pay_93 : decode cX7_pay 93 = .ok (.aload_n 1, 1) := by decide +kernel
theorem dX7_pay_94 : decode cX7_pay 94 = .ok (.iload_n 2, 1) := by decide +kernel
theorem dX7_pay_95 : decode cX7_pay 95 = .ok (.iconst 4, 1) := by decide +kernel
theorem dX7_pay_96 : decode cX7_pay 96 = .ok (.aload_n 1, 1) := by decide +kernel
theorem dX7_pay_97 : decode cX7_pay 97 = .ok (.iload_n 2, 1) := by decide +kernel
theorem dX7_pay_98 : decode cX7_pay 98 = .ok (.iconst 4, 1) := by decide +kernel
theorem dX7_pay_99 : decode cX7_pay 99 = .ok (.invokestatic 56, 3) := by decide +kernel
theorem dX7_pay_102 : decode cX7_pay 102 = .ok (.iconst 1, 1) := by decide +kernel
theorem dX7_pay_103 : decode cX7_pay 103 = .ok (.iadd, 1) := by decide +kernel
theorem dX7_pay_104 : decode cX7_pay 104 = .ok (.invokestatic 84, 3) := by decide +kernel
theorem dX7_pay_107 : decode cX7_pay 107 = .ok (.aload_n 1, 1) := by decide +kernel
theorem dX7_pay_108 : decode cX7_pay 108 = .ok (.iload_n 2, 1) := by decide +kernel
theorem dX7_pay_109 : decode cX7_pay 109 = .ok (.iconst 4, 1) := by decide +kernel
theorem dX7_pay_110 : decode cX7_pay 110 = .ok (.invokestatic 56, 3) := by decide +kernel
theorem dX7_pay_113 : decode cX7_pay 113 = .ok (.bipush 20, 2) := by decide +kernel
theorem dX7_pay_115 : decode cX7_pay 115 = .ok (.if_icmp .ne 38, 3) := by decide +kernel
theorem dX7_pay_118 : decode cX7_pay 118 = .ok (.aload_n 1, 1) := by decide +kernel
theorem dX7_pay_119 : decode cX7_pay 119 = .ok (.iload_n 2, 1) := by decide +kernel
theorem dX7_pay_120 : decode cX7_pay 120 = .ok (.iconst 4, 1) := by decide +kernel
theorem dX7_pay_121 : decode cX7_pay 121 = .ok (.iconst 0, 1) := by decide +kernel
theorem dX7_pay_122 : decode cX7_pay 122 = .ok (.invokestatic 84, 3) := by decide +kernel
theorem dX7_pay_125 : decode cX7_pay 125 = .ok (.aload_n 1, 1) := by decide +kernel
theorem dX7_pay_126 : decode cX7_pay 126 = .ok (.iload_n 2, 1) := by decide +kernel
theorem dX7_pay_127 : decode cX7_pay 127 = .ok (.iconst 3, 1) := by decide +kernel
theorem dX7_pay_128 : decode cX7_pay 128 = .ok (.aload_n 1, 1) := by decide +kernel
theorem dX7_pay_129 : decode cX7_pay 129 = .ok (.iload_n 2, 1) := by decide +kernel
theorem dX7_pay_130 : decode cX7_pay 130 = .ok (.iconst 3, 1) := by decide +kernel
theorem dX7_pay_131 : decode cX7_pay 131 = .ok (.invokestatic 56, 3) := by decide +kernel
theorem dX7_pay_134 : decode cX7_pay 134 = .ok (.iconst 5, 1) := by decide +kernel
theorem dX7_pay_135 : decode cX7_pay 135 = .ok (.if_icmp .ne 7, 3) := by decide +kernel
theorem dX7_pay_138 : decode cX7_pay 138 = .ok (.iconst 5, 1) := by decide +kernel
theorem dX7_pay_139 : decode cX7_pay 139 = .ok (.goto 11, 3) := by decide +kernel
theorem dX7_pay_142 : decode cX7_pay 142 = .ok (.aload_n 1, 1) := by decide +kernel
theorem dX7_pay_143 : decode cX7_pay 143 = .ok (.iload_n 2, 1) := by decide +kernel
theorem dX7_pay_144 : decode cX7_pay 144 = .ok (.iconst 3, 1) := by decide +kernel
theorem dX7_pay_145 : decode cX7_pay 145 = .ok (.invokestatic 56, 3) := by decide +kernel
theorem dX7_pay_148 : decode cX7_pay 148 = .ok (.iconst 1, 1) := by decide +kernel
theorem dX7_pay_149 : decode cX7_pay 149 = .ok (.iadd, 1) := by decide +kernel
theorem dX7_pay_150 : decode cX7_pay 150 = .ok (.invokestatic 84, 3) := by decide +kernel
theorem dX7_pay_153 : decode cX7_pay 153 = .ok (.return_, 1) := by decide +kernel
theorem iX7_pay_0 {v0 : Value} {x : Nat} {Ls st : List Value} {h : AH} : ev L xs mdX7_pay 0 (v0 :: .ref x :: Ls) (st) h = ev L xs mdX7_pay 1 (v0 :: .ref x :: Ls) (.ref x :: st) (h) := e_aload_n dX7_pay_0 rfl
theorem iX7_pay_1 {v0 : Value} {v1 : Value} {x : Int32} {Ls st : List Value} {h : AH} : ev L xs mdX7_pay 1 (v0 :: v1 :: .int x :: Ls) (st) h = ev L xs mdX7_pay 2 (v0 :: v1 :: .int x :: Ls) (.int x :: st) (h) := e_iload_n dX7_pay_1 rfl
theorem iX7_pay_2  {Ls st : List Value} {h : AH} : ev L xs mdX7_pay 2 (Ls) (st) h = ev L xs mdX7_pay 3 (Ls) (.int (nI 2) :: st) (h) := e_iconst dX7_pay_2 (by decide)
theorem iX7_pay_3 {p0 : Nat} {p1 : Int32} {p2 : Int32} {Ls st : List Value} {h : AH} (hw : wds st ≤ 8) : ev L xs mdX7_pay 3 Ls (.int p2 :: .int p1 :: .ref p0 :: st) h = kn L xs mdX7_pay 3 6 Ls st (ev L xs mdX7_by 0 [.ref p0, .int p1, .int p2] [] h) := e_callS (as := [.int p2, .int p1, .ref p0]) dX7_pay_3 mr_7_56 (by decide) (by decide) rfl (by simp [wds, Value.category]; decide) rfl hw
theorem iX7_pay_6 {v0 : Value} {v1 : Value} {v2 : Value} {x : Int32} {Ls st : List Value} {h : AH} : ev L xs mdX7_pay 6 (v0 :: v1 :: v2 :: .int x :: Ls) (st) h = ev L xs mdX7_pay 7 (v0 :: v1 :: v2 :: .int x :: Ls) (.int x :: st) (h) := e_iload_n dX7_pay_6 rfl
theorem iX7_pay_7 {x z : Int32} {Ls st : List Value} {h : AH} : ev L xs mdX7_pay 7 Ls (.int z :: .int x :: st) h = if x = z then ev L xs mdX7_pay 10 Ls st h else ev L xs mdX7_pay 14 Ls st h := e_ic_ne dX7_pay_7 (by decide)
theorem iX7_pay_10  {Ls st : List Value} {h : AH} : ev L xs mdX7_pay 10 (Ls) (st) h = ev L xs mdX7_pay 11 (Ls) (.int (nI 1) :: st) (h) := e_iconst dX7_pay_10 (by decide)
theorem iX7_pay_11  {Ls st : List Value} {h : AH} : ev L xs mdX7_pay 11 (Ls) (st) h = ev L xs mdX7_pay 15 (Ls) (st) (h) := e_goto dX7_pay_11 (by decide)
theorem iX7_pay_14  {Ls st : List Value} {h : AH} : ev L xs mdX7_pay 14 (Ls) (st) h = ev L xs mdX7_pay 15 (Ls) (.int (nI 0) :: st) (h) := e_iconst dX7_pay_14 (by decide)
theorem iX7_pay_15 {v0 : Value} {v1 : Value} {v2 : Value} {v3 : Value} {v4 : Value} {x : Int32} {Ls st : List Value} {h : AH} (hc9 : v3.category = 1) : ev L xs mdX7_pay 15 (v0 :: v1 :: v2 :: v3 :: v4 :: Ls) (.int x :: st) h = ev L xs mdX7_pay 17 (v0 :: v1 :: v2 :: v3 :: .int x :: Ls) (st) (h) := e_istore dX7_pay_15 rfl (by decide) (by unfold catOK; show (_ || (v3.category == 1)) = true; rw [hc9]; rfl)
theorem iX7_pay_17  {Ls st : List Value} {h : AH} : ev L xs mdX7_pay 17 (Ls) (st) h = ev L xs mdX7_pay 19 (Ls) (.int (nI 10) :: st) (h) := e_bipush dX7_pay_17 (by decide)
theorem iX7_pay_19  {Ls st : List Value} {h : AH} : ev L xs mdX7_pay 19 (Ls) (st) h = ev L xs mdX7_pay 20 (Ls) (.int (nI 2) :: st) (h) := e_iconst dX7_pay_19 (by decide)
theorem iX7_pay_20 {v0 : Value} {x : Nat} {Ls st : List Value} {h : AH} : ev L xs mdX7_pay 20 (v0 :: .ref x :: Ls) (st) h = ev L xs mdX7_pay 21 (v0 :: .ref x :: Ls) (.ref x :: st) (h) := e_aload_n dX7_pay_20 rfl
theorem iX7_pay_21 {v0 : Value} {v1 : Value} {x : Int32} {Ls st : List Value} {h : AH} : ev L xs mdX7_pay 21 (v0 :: v1 :: .int x :: Ls) (st) h = ev L xs mdX7_pay 22 (v0 :: v1 :: .int x :: Ls) (.int x :: st) (h) := e_iload_n dX7_pay_21 rfl
theorem iX7_pay_22  {Ls st : List Value} {h : AH} : ev L xs mdX7_pay 22 (Ls) (st) h = ev L xs mdX7_pay 23 (Ls) (.int (nI 3) :: st) (h) := e_iconst dX7_pay_22 (by decide)
theorem iX7_pay_23 {p0 : Nat} {p1 : Int32} {p2 : Int32} {Ls st : List Value} {h : AH} (hw : wds st ≤ 8) : ev L xs mdX7_pay 23 Ls (.int p2 :: .int p1 :: .ref p0 :: st) h = kn L xs mdX7_pay 23 26 Ls st (ev L xs mdX7_by 0 [.ref p0, .int p1, .int p2] [] h) := e_callS (as := [.int p2, .int p1, .ref p0]) dX7_pay_23 mr_7_56 (by decide) (by decide) rfl (by simp [wds, Value.category]; decide) rfl hw
theorem iX7_pay_26 {x z : Int32} {Ls st : List Value} {h : AH} : ev L xs mdX7_pay 26 (Ls) (.int z :: .int x :: st) h = ev L xs mdX7_pay 27 (Ls) (.int (x * z) :: st) (h) := e_imul dX7_pay_26
theorem iX7_pay_27 {x z : Int32} {Ls st : List Value} {h : AH} : ev L xs mdX7_pay 27 (Ls) (.int z :: .int x :: st) h = ev L xs mdX7_pay 28 (Ls) (.int (x + z) :: st) (h) := e_iadd dX7_pay_27
theorem iX7_pay_28 {v0 : Value} {v1 : Value} {v2 : Value} {v3 : Value} {x : Int32} {Ls st : List Value} {h : AH} : ev L xs mdX7_pay 28 (v0 :: v1 :: v2 :: v3 :: .int x :: Ls) (st) h = ev L xs mdX7_pay 30 (v0 :: v1 :: v2 :: v3 :: .int x :: Ls) (.int x :: st) (h) := e_iload dX7_pay_28 rfl
theorem iX7_pay_30 {x : Int32} {Ls st : List Value} {h : AH} : ev L xs mdX7_pay 30 Ls (.int x :: st) h = if x = nI 0 then ev L xs mdX7_pay 37 Ls st h else ev L xs mdX7_pay 33 Ls st h := e_if_eq dX7_pay_30 (by decide)
theorem iX7_pay_33  {Ls st : List Value} {h : AH} : ev L xs mdX7_pay 33 (Ls) (st) h = ev L xs mdX7_pay 34 (Ls) (.int (nI 0) :: st) (h) := e_iconst dX7_pay_33 (by decide)
theorem iX7_pay_34  {Ls st : List Value} {h : AH} : ev L xs mdX7_pay 34 (Ls) (st) h = ev L xs mdX7_pay 45 (Ls) (st) (h) := e_goto dX7_pay_34 (by decide)
theorem iX7_pay_37 {v0 : Value} {x : Nat} {Ls st : List Value} {h : AH} : ev L xs mdX7_pay 37 (v0 :: .ref x :: Ls) (st) h = ev L xs mdX7_pay 38 (v0 :: .ref x :: Ls) (.ref x :: st) (h) := e_aload_n dX7_pay_37 rfl
theorem iX7_pay_38 {v0 : Value} {v1 : Value} {x : Int32} {Ls st : List Value} {h : AH} : ev L xs mdX7_pay 38 (v0 :: v1 :: .int x :: Ls) (st) h = ev L xs mdX7_pay 39 (v0 :: v1 :: .int x :: Ls) (.int x :: st) (h) := e_iload_n dX7_pay_38 rfl
theorem iX7_pay_39 {v0 : Value} {v1 : Value} {v2 : Value} {x : Int32} {Ls st : List Value} {h : AH} : ev L xs mdX7_pay 39 (v0 :: v1 :: v2 :: .int x :: Ls) (st) h = ev L xs mdX7_pay 40 (v0 :: v1 :: v2 :: .int x :: Ls) (.int x :: st) (h) := e_iload_n dX7_pay_39 rfl
theorem iX7_pay_40 {p0 : Nat} {p1 : Int32} {p2 : Int32} {Ls st : List Value} {h : AH} (hw : wds st ≤ 8) : ev L xs mdX7_pay 40 Ls (.int p2 :: .int p1 :: .ref p0 :: st) h = kn L xs mdX7_pay 40 43 Ls st (ev L xs mdX7_distance 0 [.ref p0, .int p1, .int p2, .null] [] h) := e_callS (as := [.int p2, .int p1, .ref p0]) dX7_pay_40 mr_7_67 (by decide) (by decide) rfl (by simp [wds, Value.category]; decide) rfl hw
theorem iX7_pay_43  {Ls st : List Value} {h : AH} : ev L xs mdX7_pay 43 (Ls) (st) h = ev L xs mdX7_pay 44 (Ls) (.int (nI 5) :: st) (h) := e_iconst dX7_pay_43 (by decide)
theorem iX7_pay_44 {x z : Int32} {Ls st : List Value} {h : AH} (hz : ¬ z = 0) : ev L xs mdX7_pay 44 (Ls) (.int z :: .int x :: st) h = ev L xs mdX7_pay 45 (Ls) (.int (x / z) :: st) (h) := e_idiv dX7_pay_44 hz
theorem iX7_pay_45 {x z : Int32} {Ls st : List Value} {h : AH} : ev L xs mdX7_pay 45 (Ls) (.int z :: .int x :: st) h = ev L xs mdX7_pay 46 (Ls) (.int (x + z) :: st) (h) := e_iadd dX7_pay_45
theorem iX7_pay_46 {v0 : Value} {v1 : Value} {v2 : Value} {v3 : Value} {v4 : Value} {v5 : Value} {x : Int32} {Ls st : List Value} {h : AH} (hc9 : v4.category = 1) : ev L xs mdX7_pay 46 (v0 :: v1 :: v2 :: v3 :: v4 :: v5 :: Ls) (.int x :: st) h = ev L xs mdX7_pay 48 (v0 :: v1 :: v2 :: v3 :: v4 :: .int x :: Ls) (st) (h) := e_istore dX7_pay_46 rfl (by decide) (by unfold catOK; show (_ || (v4.category == 1)) = true; rw [hc9]; rfl)
theorem iX7_pay_48 {v0 : Value} {x : Nat} {Ls st : List Value} {h : AH} : ev L xs mdX7_pay 48 (v0 :: .ref x :: Ls) (st) h = ev L xs mdX7_pay 49 (v0 :: .ref x :: Ls) (.ref x :: st) (h) := e_aload_n dX7_pay_48 rfl
theorem iX7_pay_49 {v0 : Value} {v1 : Value} {x : Int32} {Ls st : List Value} {h : AH} : ev L xs mdX7_pay 49 (v0 :: v1 :: .int x :: Ls) (st) h = ev L xs mdX7_pay 50 (v0 :: v1 :: .int x :: Ls) (.int x :: st) (h) := e_iload_n dX7_pay_49 rfl
theorem iX7_pay_50  {Ls st : List Value} {h : AH} : ev L xs mdX7_pay 50 (Ls) (st) h = ev L xs mdX7_pay 51 (Ls) (.int (nI 5) :: st) (h) := e_iconst dX7_pay_50 (by decide)
theorem iX7_pay_51 {v0 : Value} {x : Nat} {Ls st : List Value} {h : AH} : ev L xs mdX7_pay 51 (v0 :: .ref x :: Ls) (st) h = ev L xs mdX7_pay 52 (v0 :: .ref x :: Ls) (.ref x :: st) (h) := e_aload_n dX7_pay_51 rfl
theorem iX7_pay_52 {v0 : Value} {v1 : Value} {x : Int32} {Ls st : List Value} {h : AH} : ev L xs mdX7_pay 52 (v0 :: v1 :: .int x :: Ls) (st) h = ev L xs mdX7_pay 53 (v0 :: v1 :: .int x :: Ls) (.int x :: st) (h) := e_iload_n dX7_pay_52 rfl
theorem iX7_pay_53  {Ls st : List Value} {h : AH} : ev L xs mdX7_pay 53 (Ls) (st) h = ev L xs mdX7_pay 54 (Ls) (.int (nI 5) :: st) (h) := e_iconst dX7_pay_53 (by decide)
theorem iX7_pay_54 {p0 : Nat} {p1 : Int32} {p2 : Int32} {Ls st : List Value} {h : AH} (hw : wds st ≤ 8) : ev L xs mdX7_pay 54 Ls (.int p2 :: .int p1 :: .ref p0 :: st) h = kn L xs mdX7_pay 54 57 Ls st (ev L xs mdX7_by 0 [.ref p0, .int p1, .int p2] [] h) := e_callS (as := [.int p2, .int p1, .ref p0]) dX7_pay_54 mr_7_56 (by decide) (by decide) rfl (by simp [wds, Value.category]; decide) rfl hw
theorem iX7_pay_57 {v0 : Value} {v1 : Value} {v2 : Value} {v3 : Value} {v4 : Value} {x : Int32} {Ls st : List Value} {h : AH} : ev L xs mdX7_pay 57 (v0 :: v1 :: v2 :: v3 :: v4 :: .int x :: Ls) (st) h = ev L xs mdX7_pay 59 (v0 :: v1 :: v2 :: v3 :: v4 :: .int x :: Ls) (.int x :: st) (h) := e_iload dX7_pay_57 rfl
theorem iX7_pay_59 {x z : Int32} {Ls st : List Value} {h : AH} : ev L xs mdX7_pay 59 (Ls) (.int z :: .int x :: st) h = ev L xs mdX7_pay 60 (Ls) (.int (x + z) :: st) (h) := e_iadd dX7_pay_59
theorem iX7_pay_60 {p0 : Nat} {p1 : Int32} {p2 : Int32} {p3 : Int32} {Ls st : List Value} {h : AH} (hw : wds st ≤ 8) : ev L xs mdX7_pay 60 Ls (.int p3 :: .int p2 :: .int p1 :: .ref p0 :: st) h = kn L xs mdX7_pay 60 63 Ls st (ev L xs mdX7_give 0 [.ref p0, .int p1, .int p2, .int p3] [] h) := e_callS (as := [.int p3, .int p2, .int p1, .ref p0]) dX7_pay_60 mr_7_84 (by decide) (by decide) rfl (by simp [wds, Value.category]; decide) rfl hw
theorem iX7_pay_63 {v0 : Value} {v1 : Value} {v2 : Value} {v3 : Value} {x : Int32} {Ls st : List Value} {h : AH} : ev L xs mdX7_pay 63 (v0 :: v1 :: v2 :: v3 :: .int x :: Ls) (st) h = ev L xs mdX7_pay 65 (v0 :: v1 :: v2 :: v3 :: .int x :: Ls) (.int x :: st) (h) := e_iload dX7_pay_63 rfl
theorem iX7_pay_65 {x : Int32} {Ls st : List Value} {h : AH} : ev L xs mdX7_pay 65 Ls (.int x :: st) h = if x = nI 0 then ev L xs mdX7_pay 73 Ls st h else ev L xs mdX7_pay 68 Ls st h := e_if_eq dX7_pay_65 (by decide)
theorem iX7_pay_68  {Ls st : List Value} {h : AH} : ev L xs mdX7_pay 68 (Ls) (st) h = ev L xs mdX7_pay 70 (Ls) (.int (nI 7) :: st) (h) := e_bipush dX7_pay_68 (by decide)
theorem iX7_pay_70  {Ls st : List Value} {h : AH} : ev L xs mdX7_pay 70 (Ls) (st) h = ev L xs mdX7_pay 75 (Ls) (st) (h) := e_goto dX7_pay_70 (by decide)
theorem iX7_pay_73  {Ls st : List Value} {h : AH} : ev L xs mdX7_pay 73 (Ls) (st) h = ev L xs mdX7_pay 75 (Ls) (.int (nI 8) :: st) (h) := e_bipush dX7_pay_73 (by decide)
theorem iX7_pay_75 {v0 : Value} {v1 : Value} {v2 : Value} {v3 : Value} {v4 : Value} {v5 : Value} {v6 : Value} {x : Int32} {Ls st : List Value} {h : AH} (hc9 : v5.category = 1) : ev L xs mdX7_pay 75 (v0 :: v1 :: v2 :: v3 :: v4 :: v5 :: v6 :: Ls) (.int x :: st) h = ev L xs mdX7_pay 77 (v0 :: v1 :: v2 :: v3 :: v4 :: v5 :: .int x :: Ls) (st) (h) := e_istore dX7_pay_75 rfl (by decide) (by unfold catOK; show (_ || (v5.category == 1)) = true; rw [hc9]; rfl)
theorem iX7_pay_77 {v0 : Value} {x : Nat} {Ls st : List Value} {h : AH} : ev L xs mdX7_pay 77 (v0 :: .ref x :: Ls) (st) h = ev L xs mdX7_pay 78 (v0 :: .ref x :: Ls) (.ref x :: st) (h) := e_aload_n dX7_pay_77 rfl
theorem iX7_pay_78 {v0 : Value} {v1 : Value} {x : Int32} {Ls st : List Value} {h : AH} : ev L xs mdX7_pay 78 (v0 :: v1 :: .int x :: Ls) (st) h = ev L xs mdX7_pay 79 (v0 :: v1 :: .int x :: Ls) (.int x :: st) (h) := e_iload_n dX7_pay_78 rfl
theorem iX7_pay_79 {v0 : Value} {v1 : Value} {v2 : Value} {v3 : Value} {v4 : Value} {v5 : Value} {x : Int32} {Ls st : List Value} {h : AH} : ev L xs mdX7_pay 79 (v0 :: v1 :: v2 :: v3 :: v4 :: v5 :: .int x :: Ls) (st) h = ev L xs mdX7_pay 81 (v0 :: v1 :: v2 :: v3 :: v4 :: v5 :: .int x :: Ls) (.int x :: st) (h) := e_iload dX7_pay_79 rfl
theorem iX7_pay_81 {v0 : Value} {x : Nat} {Ls st : List Value} {h : AH} : ev L xs mdX7_pay 81 (v0 :: .ref x :: Ls) (st) h = ev L xs mdX7_pay 82 (v0 :: .ref x :: Ls) (.ref x :: st) (h) := e_aload_n dX7_pay_81 rfl
theorem iX7_pay_82 {v0 : Value} {v1 : Value} {x : Int32} {Ls st : List Value} {h : AH} : ev L xs mdX7_pay 82 (v0 :: v1 :: .int x :: Ls) (st) h = ev L xs mdX7_pay 83 (v0 :: v1 :: .int x :: Ls) (.int x :: st) (h) := e_iload_n dX7_pay_82 rfl
theorem iX7_pay_83 {v0 : Value} {v1 : Value} {v2 : Value} {v3 : Value} {v4 : Value} {v5 : Value} {x : Int32} {Ls st : List Value} {h : AH} : ev L xs mdX7_pay 83 (v0 :: v1 :: v2 :: v3 :: v4 :: v5 :: .int x :: Ls) (st) h = ev L xs mdX7_pay 85 (v0 :: v1 :: v2 :: v3 :: v4 :: v5 :: .int x :: Ls) (.int x :: st) (h) := e_iload dX7_pay_83 rfl
theorem iX7_pay_85 {p0 : Nat} {p1 : Int32} {p2 : Int32} {Ls st : List Value} {h : AH} (hw : wds st ≤ 8) : ev L xs mdX7_pay 85 Ls (.int p2 :: .int p1 :: .ref p0 :: st) h = kn L xs mdX7_pay 85 88 Ls st (ev L xs mdX7_by 0 [.ref p0, .int p1, .int p2] [] h) := e_callS (as := [.int p2, .int p1, .ref p0]) dX7_pay_85 mr_7_56 (by decide) (by decide) rfl (by simp [wds, Value.category]; decide) rfl hw
theorem iX7_pay_88  {Ls st : List Value} {h : AH} : ev L xs mdX7_pay 88 (Ls) (st) h = ev L xs mdX7_pay 89 (Ls) (.int (nI 1) :: st) (h) := e_iconst dX7_pay_88 (by decide)
theorem iX7_pay_89 {x z : Int32} {Ls st : List Value} {h : AH} : ev L xs mdX7_pay 89 (Ls) (.int z :: .int x :: st) h = ev L xs mdX7_pay 90 (Ls) (.int (x + z) :: st) (h) := e_iadd dX7_pay_89
theorem iX7_pay_90 {p0 : Nat} {p1 : Int32} {p2 : Int32} {p3 : Int32} {Ls st : List Value} {h : AH} (hw : wds st ≤ 8) : ev L xs mdX7_pay 90 Ls (.int p3 :: .int p2 :: .int p1 :: .ref p0 :: st) h = kn L xs mdX7_pay 90 93 Ls st (ev L xs mdX7_give 0 [.ref p0, .int p1, .int p2, .int p3] [] h) := e_callS (as := [.int p3, .int p2, .int p1, .ref p0]) dX7_pay_90 mr_7_84 (by decide) (by decide) rfl (by simp [wds, Value.category]; decide) rfl hw
theorem iX7_pay_93 {v0 : Value} {x : Nat} {Ls st : List Value} {h : AH} : ev L xs mdX7_pay 93 (v0 :: .ref x :: Ls) (st) h = ev L xs mdX7_pay 94 (v0 :: .ref x :: Ls) (.ref x :: st) (h) := e_aload_n dX7_pay_93 rfl
theorem iX7_pay_94 {v0 : Value} {v1 : Value} {x : Int32} {Ls st : List Value} {h : AH} : ev L xs mdX7_pay 94 (v0 :: v1 :: .int x :: Ls) (st) h = ev L xs mdX7_pay 95 (v0 :: v1 :: .int x :: Ls) (.int x :: st) (h) := e_iload_n dX7_pay_94 rfl
theorem iX7_pay_95  {Ls st : List Value} {h : AH} : ev L xs mdX7_pay 95 (Ls) (st) h = ev L xs mdX7_pay 96 (Ls) (.int (nI 4) :: st) (h) := e_iconst dX7_pay_95 (by decide)
theorem iX7_pay_96 {v0 : Value} {x : Nat} {Ls st : List Value} {h : AH} : ev L xs mdX7_pay 96 (v0 :: .ref x :: Ls) (st) h = ev L xs mdX7_pay 97 (v0 :: .ref x :: Ls) (.ref x :: st) (h) := e_aload_n dX7_pay_96 rfl
theorem iX7_pay_97 {v0 : Value} {v1 : Value} {x : Int32} {Ls st : List Value} {h : AH} : ev L xs mdX7_pay 97 (v0 :: v1 :: .int x :: Ls) (st) h = ev L xs mdX7_pay 98 (v0 :: v1 :: .int x :: Ls) (.int x :: st) (h) := e_iload_n dX7_pay_97 rfl
theorem iX7_pay_98  {Ls st : List Value} {h : AH} : ev L xs mdX7_pay 98 (Ls) (st) h = ev L xs mdX7_pay 99 (Ls) (.int (nI 4) :: st) (h) := e_iconst dX7_pay_98 (by decide)
theorem iX7_pay_99 {p0 : Nat} {p1 : Int32} {p2 : Int32} {Ls st : List Value} {h : AH} (hw : wds st ≤ 8) : ev L xs mdX7_pay 99 Ls (.int p2 :: .int p1 :: .ref p0 :: st) h = kn L xs mdX7_pay 99 102 Ls st (ev L xs mdX7_by 0 [.ref p0, .int p1, .int p2] [] h) := e_callS (as := [.int p2, .int p1, .ref p0]) dX7_pay_99 mr_7_56 (by decide) (by decide) rfl (by simp [wds, Value.category]; decide) rfl hw
theorem iX7_pay_102  {Ls st : List Value} {h : AH} : ev L xs mdX7_pay 102 (Ls) (st) h = ev L xs mdX7_pay 103 (Ls) (.int (nI 1) :: st) (h) := e_iconst dX7_pay_102 (by decide)
theorem iX7_pay_103 {x z : Int32} {Ls st : List Value} {h : AH} : ev L xs mdX7_pay 103 (Ls) (.int z :: .int x :: st) h = ev L xs mdX7_pay 104 (Ls) (.int (x + z) :: st) (h) := e_iadd dX7_pay_103
theorem iX7_pay_104 {p0 : Nat} {p1 : Int32} {p2 : Int32} {p3 : Int32} {Ls st : List Value} {h : AH} (hw : wds st ≤ 8) : ev L xs mdX7_pay 104 Ls (.int p3 :: .int p2 :: .int p1 :: .ref p0 :: st) h = kn L xs mdX7_pay 104 107 Ls st (ev L xs mdX7_give 0 [.ref p0, .int p1, .int p2, .int p3] [] h) := e_callS (as := [.int p3, .int p2, .int p1, .ref p0]) dX7_pay_104 mr_7_84 (by decide) (by decide) rfl (by simp [wds, Value.category]; decide) rfl hw
theorem iX7_pay_107 {v0 : Value} {x : Nat} {Ls st : List Value} {h : AH} : ev L xs mdX7_pay 107 (v0 :: .ref x :: Ls) (st) h = ev L xs mdX7_pay 108 (v0 :: .ref x :: Ls) (.ref x :: st) (h) := e_aload_n dX7_pay_107 rfl
theorem iX7_pay_108 {v0 : Value} {v1 : Value} {x : Int32} {Ls st : List Value} {h : AH} : ev L xs mdX7_pay 108 (v0 :: v1 :: .int x :: Ls) (st) h = ev L xs mdX7_pay 109 (v0 :: v1 :: .int x :: Ls) (.int x :: st) (h) := e_iload_n dX7_pay_108 rfl
theorem iX7_pay_109  {Ls st : List Value} {h : AH} : ev L xs mdX7_pay 109 (Ls) (st) h = ev L xs mdX7_pay 110 (Ls) (.int (nI 4) :: st) (h) := e_iconst dX7_pay_109 (by decide)
theorem iX7_pay_110 {p0 : Nat} {p1 : Int32} {p2 : Int32} {Ls st : List Value} {h : AH} (hw : wds st ≤ 8) : ev L xs mdX7_pay 110 Ls (.int p2 :: .int p1 :: .ref p0 :: st) h = kn L xs mdX7_pay 110 113 Ls st (ev L xs mdX7_by 0 [.ref p0, .int p1, .int p2] [] h) := e_callS (as := [.int p2, .int p1, .ref p0]) dX7_pay_110 mr_7_56 (by decide) (by decide) rfl (by simp [wds, Value.category]; decide) rfl hw
theorem iX7_pay_113  {Ls st : List Value} {h : AH} : ev L xs mdX7_pay 113 (Ls) (st) h = ev L xs mdX7_pay 115 (Ls) (.int (nI 20) :: st) (h) := e_bipush dX7_pay_113 (by decide)
theorem iX7_pay_115 {x z : Int32} {Ls st : List Value} {h : AH} : ev L xs mdX7_pay 115 Ls (.int z :: .int x :: st) h = if x = z then ev L xs mdX7_pay 118 Ls st h else ev L xs mdX7_pay 153 Ls st h := e_ic_ne dX7_pay_115 (by decide)
theorem iX7_pay_118 {v0 : Value} {x : Nat} {Ls st : List Value} {h : AH} : ev L xs mdX7_pay 118 (v0 :: .ref x :: Ls) (st) h = ev L xs mdX7_pay 119 (v0 :: .ref x :: Ls) (.ref x :: st) (h) := e_aload_n dX7_pay_118 rfl
theorem iX7_pay_119 {v0 : Value} {v1 : Value} {x : Int32} {Ls st : List Value} {h : AH} : ev L xs mdX7_pay 119 (v0 :: v1 :: .int x :: Ls) (st) h = ev L xs mdX7_pay 120 (v0 :: v1 :: .int x :: Ls) (.int x :: st) (h) := e_iload_n dX7_pay_119 rfl
theorem iX7_pay_120  {Ls st : List Value} {h : AH} : ev L xs mdX7_pay 120 (Ls) (st) h = ev L xs mdX7_pay 121 (Ls) (.int (nI 4) :: st) (h) := e_iconst dX7_pay_120 (by decide)
theorem iX7_pay_121  {Ls st : List Value} {h : AH} : ev L xs mdX7_pay 121 (Ls) (st) h = ev L xs mdX7_pay 122 (Ls) (.int (nI 0) :: st) (h) := e_iconst dX7_pay_121 (by decide)
theorem iX7_pay_122 {p0 : Nat} {p1 : Int32} {p2 : Int32} {p3 : Int32} {Ls st : List Value} {h : AH} (hw : wds st ≤ 8) : ev L xs mdX7_pay 122 Ls (.int p3 :: .int p2 :: .int p1 :: .ref p0 :: st) h = kn L xs mdX7_pay 122 125 Ls st (ev L xs mdX7_give 0 [.ref p0, .int p1, .int p2, .int p3] [] h) := e_callS (as := [.int p3, .int p2, .int p1, .ref p0]) dX7_pay_122 mr_7_84 (by decide) (by decide) rfl (by simp [wds, Value.category]; decide) rfl hw
theorem iX7_pay_125 {v0 : Value} {x : Nat} {Ls st : List Value} {h : AH} : ev L xs mdX7_pay 125 (v0 :: .ref x :: Ls) (st) h = ev L xs mdX7_pay 126 (v0 :: .ref x :: Ls) (.ref x :: st) (h) := e_aload_n dX7_pay_125 rfl
theorem iX7_pay_126 {v0 : Value} {v1 : Value} {x : Int32} {Ls st : List Value} {h : AH} : ev L xs mdX7_pay 126 (v0 :: v1 :: .int x :: Ls) (st) h = ev L xs mdX7_pay 127 (v0 :: v1 :: .int x :: Ls) (.int x :: st) (h) := e_iload_n dX7_pay_126 rfl
theorem iX7_pay_127  {Ls st : List Value} {h : AH} : ev L xs mdX7_pay 127 (Ls) (st) h = ev L xs mdX7_pay 128 (Ls) (.int (nI 3) :: st) (h) := e_iconst dX7_pay_127 (by decide)
theorem iX7_pay_128 {v0 : Value} {x : Nat} {Ls st : List Value} {h : AH} : ev L xs mdX7_pay 128 (v0 :: .ref x :: Ls) (st) h = ev L xs mdX7_pay 129 (v0 :: .ref x :: Ls) (.ref x :: st) (h) := e_aload_n dX7_pay_128 rfl
theorem iX7_pay_129 {v0 : Value} {v1 : Value} {x : Int32} {Ls st : List Value} {h : AH} : ev L xs mdX7_pay 129 (v0 :: v1 :: .int x :: Ls) (st) h = ev L xs mdX7_pay 130 (v0 :: v1 :: .int x :: Ls) (.int x :: st) (h) := e_iload_n dX7_pay_129 rfl
theorem iX7_pay_130  {Ls st : List Value} {h : AH} : ev L xs mdX7_pay 130 (Ls) (st) h = ev L xs mdX7_pay 131 (Ls) (.int (nI 3) :: st) (h) := e_iconst dX7_pay_130 (by decide)
theorem iX7_pay_131 {p0 : Nat} {p1 : Int32} {p2 : Int32} {Ls st : List Value} {h : AH} (hw : wds st ≤ 8) : ev L xs mdX7_pay 131 Ls (.int p2 :: .int p1 :: .ref p0 :: st) h = kn L xs mdX7_pay 131 134 Ls st (ev L xs mdX7_by 0 [.ref p0, .int p1, .int p2] [] h) := e_callS (as := [.int p2, .int p1, .ref p0]) dX7_pay_131 mr_7_56 (by decide) (by decide) rfl (by simp [wds, Value.category]; decide) rfl hw
theorem iX7_pay_134  {Ls st : List Value} {h : AH} : ev L xs mdX7_pay 134 (Ls) (st) h = ev L xs mdX7_pay 135 (Ls) (.int (nI 5) :: st) (h) := e_iconst dX7_pay_134 (by decide)
theorem iX7_pay_135 {x z : Int32} {Ls st : List Value} {h : AH} : ev L xs mdX7_pay 135 Ls (.int z :: .int x :: st) h = if x = z then ev L xs mdX7_pay 138 Ls st h else ev L xs mdX7_pay 142 Ls st h := e_ic_ne dX7_pay_135 (by decide)
theorem iX7_pay_138  {Ls st : List Value} {h : AH} : ev L xs mdX7_pay 138 (Ls) (st) h = ev L xs mdX7_pay 139 (Ls) (.int (nI 5) :: st) (h) := e_iconst dX7_pay_138 (by decide)
theorem iX7_pay_139  {Ls st : List Value} {h : AH} : ev L xs mdX7_pay 139 (Ls) (st) h = ev L xs mdX7_pay 150 (Ls) (st) (h) := e_goto dX7_pay_139 (by decide)
theorem iX7_pay_142 {v0 : Value} {x : Nat} {Ls st : List Value} {h : AH} : ev L xs mdX7_pay 142 (v0 :: .ref x :: Ls) (st) h = ev L xs mdX7_pay 143 (v0 :: .ref x :: Ls) (.ref x :: st) (h) := e_aload_n dX7_pay_142 rfl
theorem iX7_pay_143 {v0 : Value} {v1 : Value} {x : Int32} {Ls st : List Value} {h : AH} : ev L xs mdX7_pay 143 (v0 :: v1 :: .int x :: Ls) (st) h = ev L xs mdX7_pay 144 (v0 :: v1 :: .int x :: Ls) (.int x :: st) (h) := e_iload_n dX7_pay_143 rfl
theorem iX7_pay_144  {Ls st : List Value} {h : AH} : ev L xs mdX7_pay 144 (Ls) (st) h = ev L xs mdX7_pay 145 (Ls) (.int (nI 3) :: st) (h) := e_iconst dX7_pay_144 (by decide)
theorem iX7_pay_145 {p0 : Nat} {p1 : Int32} {p2 : Int32} {Ls st : List Value} {h : AH} (hw : wds st ≤ 8) : ev L xs mdX7_pay 145 Ls (.int p2 :: .int p1 :: .ref p0 :: st) h = kn L xs mdX7_pay 145 148 Ls st (ev L xs mdX7_by 0 [.ref p0, .int p1, .int p2] [] h) := e_callS (as := [.int p2, .int p1, .ref p0]) dX7_pay_145 mr_7_56 (by decide) (by decide) rfl (by simp [wds, Value.category]; decide) rfl hw
theorem iX7_pay_148  {Ls st : List Value} {h : AH} : ev L xs mdX7_pay 148 (Ls) (st) h = ev L xs mdX7_pay 149 (Ls) (.int (nI 1) :: st) (h) := e_iconst dX7_pay_148 (by decide)
theorem iX7_pay_149 {x z : Int32} {Ls st : List Value} {h : AH} : ev L xs mdX7_pay 149 (Ls) (.int z :: .int x :: st) h = ev L xs mdX7_pay 150 (Ls) (.int (x + z) :: st) (h) := e_iadd dX7_pay_149
theorem iX7_pay_150 {p0 : Nat} {p1 : Int32} {p2 : Int32} {p3 : Int32} {Ls st : List Value} {h : AH} (hw : wds st ≤ 8) : ev L xs mdX7_pay 150 Ls (.int p3 :: .int p2 :: .int p1 :: .ref p0 :: st) h = kn L xs mdX7_pay 150 153 Ls st (ev L xs mdX7_give 0 [.ref p0, .int p1, .int p2, .int p3] [] h) := e_callS (as := [.int p3, .int p2, .int p1, .ref p0]) dX7_pay_150 mr_7_84 (by decide) (by decide) rfl (by simp [wds, Value.category]; decide) rfl hw
theorem iX7_pay_153 {Ls : List Value} {h : AH} : ev L xs mdX7_pay 153 Ls [] h = some (.inl (none, h)) := e_vret dX7_pay_153 rfl
theorem dX7_post_0 : decode cX7_post 0 = .ok (.aload_n 0, 1) := by decide +kernel
theorem dX7_post_1 : decode cX7_post 1 = .ok (.aload_n 0, 1) := by decide +kernel
theorem dX7_post_2 : decode cX7_post 2 = .ok (.iload_n 1, 1) := by decide +kernel
theorem dX7_post_3 : decode cX7_post 3 = .ok (.invokevirtual 112, 3) := by decide +kernel
theorem dX7_post_6 : decode cX7_post 6 = .ok (.ifCond .ne 7, 3) := by decide +kernel
theorem dX7_post_9 : decode cX7_post 9 = .ok (.iconst 1, 1) := by decide +kernel
theorem dX7_post_10 : decode cX7_post 10 = .ok (.goto 18, 3) := by decide +kernel
theorem dX7_post_13 : decode cX7_post 13 = .ok (.iload_n 2, 1) := by decide +kernel
theorem dX7_post_14 : decode cX7_post 14 = .ok (.iconst 0, 1) := by decide +kernel
theorem dX7_post_15 : decode cX7_post 15 = .ok (.bipush 8, 2) := by decide +kernel
theorem dX7_post_17 : decode cX7_post 17 = .ok (.invokestatic 44, 3) := by decide +kernel
theorem dX7_post_20 : decode cX7_post 20 = .ok (.ifCond .ne 7, 3) := by decide +kernel
theorem dX7_post_23 : decode cX7_post 23 = .ok (.iconst 2, 1) := by decide +kernel
theorem dX7_post_24 : decode cX7_post 24 = .ok (.goto 4, 3) := by decide +kernel
theorem dX7_post_27 : decode cX7_post 27 = .ok (.iconst 0, 1) := by decide +kernel
theorem dX7_post_28 : decode cX7_post 28 = .ok (.putfield 34, 3) := by decide +kernel
theorem dX7_post_31 : decode cX7_post 31 = .ok (.aload_n 0, 1) := by decide +kernel
theorem dX7_post_32 : decode cX7_post 32 = .ok (.getfield 34, 3) := by decide +kernel
theorem dX7_post_35 : decode cX7_post 35 = .ok (.ifCond .le 7, 3) := by decide +kernel
theorem dX7_post_38 : decode cX7_post 38 = .ok (.iconst 0, 1) := by decide +kernel
theorem dX7_post_39 : decode cX7_post 39 = .ok (.goto 9, 3) := by decide +kernel
theorem dX7_post_42 : decode cX7_post 42 = .ok (.aload_n 0, 1) := by decide +kernel
theorem dX7_post_43 : decode cX7_post 43 = .ok (.iload_n 1, 1) := by decide +kernel
theorem dX7_post_44 : decode cX7_post 44 = .ok (.iload_n 2, 1) := by decide +kernel
theorem dX7_post_45 : decode cX7_post 45 = .ok (.invokevirtual 137, 3) := by decide +kernel
theorem dX7_post_48 : decode cX7_post 48 = .ok (.ireturn, 1) := by decide +kernel
theorem iX7_post_0 {x : Nat} {Ls st : List Value} {h : AH} : ev L xs mdX7_post 0 (.ref x :: Ls) (st) h = ev L xs mdX7_post 1 (.ref x :: Ls) (.ref x :: st) (h) := e_aload_n dX7_post_0 rfl
theorem iX7_post_1 {x : Nat} {Ls st : List Value} {h : AH} : ev L xs mdX7_post 1 (.ref x :: Ls) (st) h = ev L xs mdX7_post 2 (.ref x :: Ls) (.ref x :: st) (h) := e_aload_n dX7_post_1 rfl
theorem iX7_post_2 {v0 : Value} {x : Int32} {Ls st : List Value} {h : AH} : ev L xs mdX7_post 2 (v0 :: .int x :: Ls) (st) h = ev L xs mdX7_post 3 (v0 :: .int x :: Ls) (.int x :: st) (h) := e_iload_n dX7_post_2 rfl
theorem iX7_post_3 {a : Nat} {p0 : Int32} {Ls st : List Value} {h : AH} (hk : hK h a = 7) (hw : wds st ≤ 8) : ev L xs mdX7_post 3 Ls (.int p0 :: .ref a :: st) h = kn L xs mdX7_post 3 6 Ls st (ev L xs mdX7_isPost 0 [.ref a, .int p0] [] h) := e_callV (as := [.int p0]) dX7_post_3 mr_7_112 (by decide) (by decide) rfl (by simp [wds, Value.category]; decide) rfl (by decide) hk hw
theorem iX7_post_6 {x : Int32} {Ls st : List Value} {h : AH} : ev L xs mdX7_post 6 Ls (.int x :: st) h = if x = nI 0 then ev L xs mdX7_post 9 Ls st h else ev L xs mdX7_post 13 Ls st h := e_if_ne dX7_post_6 (by decide)
theorem iX7_post_9  {Ls st : List Value} {h : AH} : ev L xs mdX7_post 9 (Ls) (st) h = ev L xs mdX7_post 10 (Ls) (.int (nI 1) :: st) (h) := e_iconst dX7_post_9 (by decide)
theorem iX7_post_10  {Ls st : List Value} {h : AH} : ev L xs mdX7_post 10 (Ls) (st) h = ev L xs mdX7_post 28 (Ls) (st) (h) := e_goto dX7_post_10 (by decide)
theorem iX7_post_13 {v0 : Value} {v1 : Value} {x : Int32} {Ls st : List Value} {h : AH} : ev L xs mdX7_post 13 (v0 :: v1 :: .int x :: Ls) (st) h = ev L xs mdX7_post 14 (v0 :: v1 :: .int x :: Ls) (.int x :: st) (h) := e_iload_n dX7_post_13 rfl
theorem iX7_post_14  {Ls st : List Value} {h : AH} : ev L xs mdX7_post 14 (Ls) (st) h = ev L xs mdX7_post 15 (Ls) (.int (nI 0) :: st) (h) := e_iconst dX7_post_14 (by decide)
theorem iX7_post_15  {Ls st : List Value} {h : AH} : ev L xs mdX7_post 15 (Ls) (st) h = ev L xs mdX7_post 17 (Ls) (.int (nI 8) :: st) (h) := e_bipush dX7_post_15 (by decide)
theorem iX7_post_17 {p0 : Int32} {p1 : Int32} {p2 : Int32} {Ls st : List Value} {h : AH} (hw : wds st ≤ 8) : ev L xs mdX7_post 17 Ls (.int p2 :: .int p1 :: .int p0 :: st) h = kn L xs mdX7_post 17 20 Ls st (ev L xs mdX7_in 0 [.int p0, .int p1, .int p2] [] h) := e_callS (as := [.int p2, .int p1, .int p0]) dX7_post_17 mr_7_44 (by decide) (by decide) rfl (by simp [wds, Value.category]; decide) rfl hw
theorem iX7_post_20 {x : Int32} {Ls st : List Value} {h : AH} : ev L xs mdX7_post 20 Ls (.int x :: st) h = if x = nI 0 then ev L xs mdX7_post 23 Ls st h else ev L xs mdX7_post 27 Ls st h := e_if_ne dX7_post_20 (by decide)
theorem iX7_post_23  {Ls st : List Value} {h : AH} : ev L xs mdX7_post 23 (Ls) (st) h = ev L xs mdX7_post 24 (Ls) (.int (nI 2) :: st) (h) := e_iconst dX7_post_23 (by decide)
theorem iX7_post_24  {Ls st : List Value} {h : AH} : ev L xs mdX7_post 24 (Ls) (st) h = ev L xs mdX7_post 28 (Ls) (st) (h) := e_goto dX7_post_24 (by decide)
theorem iX7_post_27  {Ls st : List Value} {h : AH} : ev L xs mdX7_post 27 (Ls) (st) h = ev L xs mdX7_post 28 (Ls) (.int (nI 0) :: st) (h) := e_iconst dX7_post_27 (by decide)
theorem iX7_post_28 {a : Nat} {v : Int32} {Ls st : List Value} {h : AH} (hk : hK h a = 7) : ev L xs mdX7_post 28 (Ls) (.int v :: .ref a :: st) h = ev L xs mdX7_post 31 (Ls) (st) (sI h 112 a v) := e_putI (k := 7) (f := 0) (F := 112) dX7_post_28 (by decide +kernel) rfl (by decide +kernel) rfl hk
theorem iX7_post_31 {x : Nat} {Ls st : List Value} {h : AH} : ev L xs mdX7_post 31 (.ref x :: Ls) (st) h = ev L xs mdX7_post 32 (.ref x :: Ls) (.ref x :: st) (h) := e_aload_n dX7_post_31 rfl
theorem iX7_post_32 {a : Nat} {Ls st : List Value} {h : AH} (hk : hK h a = 7) : ev L xs mdX7_post 32 (Ls) (.ref a :: st) h = ev L xs mdX7_post 35 (Ls) (.int (hI h 112 a) :: st) (h) := e_getI (k := 7) (f := 0) (F := 112) dX7_post_32 (by decide +kernel) rfl rfl hk
theorem iX7_post_35 {x : Int32} {Ls st : List Value} {h : AH} : ev L xs mdX7_post 35 Ls (.int x :: st) h = if x ≤ nI 0 then ev L xs mdX7_post 42 Ls st h else ev L xs mdX7_post 38 Ls st h := e_if_le dX7_post_35 (by decide)
theorem iX7_post_38  {Ls st : List Value} {h : AH} : ev L xs mdX7_post 38 (Ls) (st) h = ev L xs mdX7_post 39 (Ls) (.int (nI 0) :: st) (h) := e_iconst dX7_post_38 (by decide)
theorem iX7_post_39  {Ls st : List Value} {h : AH} : ev L xs mdX7_post 39 (Ls) (st) h = ev L xs mdX7_post 48 (Ls) (st) (h) := e_goto dX7_post_39 (by decide)
theorem iX7_post_42 {x : Nat} {Ls st : List Value} {h : AH} : ev L xs mdX7_post 42 (.ref x :: Ls) (st) h = ev L xs mdX7_post 43 (.ref x :: Ls) (.ref x :: st) (h) := e_aload_n dX7_post_42 rfl
theorem iX7_post_43 {v0 : Value} {x : Int32} {Ls st : List Value} {h : AH} : ev L xs mdX7_post 43 (v0 :: .int x :: Ls) (st) h = ev L xs mdX7_post 44 (v0 :: .int x :: Ls) (.int x :: st) (h) := e_iload_n dX7_post_43 rfl
theorem iX7_post_44 {v0 : Value} {v1 : Value} {x : Int32} {Ls st : List Value} {h : AH} : ev L xs mdX7_post 44 (v0 :: v1 :: .int x :: Ls) (st) h = ev L xs mdX7_post 45 (v0 :: v1 :: .int x :: Ls) (.int x :: st) (h) := e_iload_n dX7_post_44 rfl
theorem iX7_post_45 {a : Nat} {p0 : Int32} {p1 : Int32} {Ls st : List Value} {h : AH} (hk : hK h a = 7) (hw : wds st ≤ 8) : ev L xs mdX7_post 45 Ls (.int p1 :: .int p0 :: .ref a :: st) h = kn L xs mdX7_post 45 48 Ls st (ev L xs mdX7_postValue 0 [.ref a, .int p0, .int p1] [] h) := e_callV (as := [.int p1, .int p0]) dX7_post_45 mr_7_137 (by decide) (by decide) rfl (by simp [wds, Value.category]; decide) rfl (by decide) hk hw
theorem iX7_post_48 {v : Int32} {Ls : List Value} {h : AH} : ev L xs mdX7_post 48 Ls [.int v] h = some (.inl (some (.int v), h)) := e_iret dX7_post_48 rfl
theorem dX7_postValue_0 : decode cX7_postValue 0 = .ok (.iload_n 2, 1) := by decide +kernel
theorem dX7_postValue_1 : decode cX7_postValue 1 = .ok (.tableswitch 98 0 6 #[43, 43, 53, 59, 59, 59, 73], 43) := by decide +kernel
theorem dX7_postValue_44 : decode cX7_postValue 44 = .ok (.aload_n 0, 1) := by decide +kernel
theorem dX7_postValue_45 : decode cX7_postValue 45 = .ok (.getfield 7, 3) := by decide +kernel
theorem dX7_postValue_48 : decode cX7_postValue 48 = .ok (.iload_n 1, 1) := by decide +kernel
theorem dX7_postValue_49 : decode cX7_postValue 49 = .ok (.iload_n 2, 1) := by decide +kernel
theorem dX7_postValue_50 : decode cX7_postValue 50 = .ok (.invokestatic 48, 3) := by decide +kernel
theorem dX7_postValue_53 : decode cX7_postValue 53 = .ok (.ireturn, 1) := by decide +kernel
theorem dX7_postValue_54 : decode cX7_postValue 54 = .ok (.aload_n 0, 1) := by decide +kernel
theorem dX7_postValue_55 : decode cX7_postValue 55 = .ok (.iload_n 1, 1) := by decide +kernel
theorem dX7_postValue_56 : decode cX7_postValue 56 = .ok (.invokevirtual 116, 3) := by decide +kernel
theorem dX7_postValue_59 : decode cX7_postValue 59 = .ok (.ireturn, 1) := by decide +kernel
theorem dX7_postValue_60 : decode cX7_postValue 60 = .ok (.aload_n 0, 1) := by decide +kernel
theorem dX7_postValue_61 : decode cX7_postValue 61 = .ok (.getfield 7, 3) := by decide +kernel
theorem dX7_postValue_64 : decode cX7_postValue 64 = .ok (.iload_n 1, 1) := by decide +kernel
theorem dX7_postValue_65 : decode cX7_postValue 65 = .ok (.iconst 2, 1) := by decide +kernel
theorem dX7_postValue_66 : decode cX7_postValue 66 = .ok (.iload_n 2, 1) := by decide +kernel
theorem dX7_postValue_67 : decode cX7_postValue 67 = .ok (.iadd, 1) := by decide +kernel
theorem dX7_postValue_68 : decode cX7_postValue 68 = .ok (.iconst 3, 1) := by decide +kernel
theorem dX7_postValue_69 : decode cX7_postValue 69 = .ok (.isub, 1) := by decide +kernel
theorem dX7_postValue_70 : decode cX7_postValue 70 = .ok (.invokestatic 48, 3) := by decide +kernel
theorem dX7_postValue_73 : decode cX7_postValue 73 = .ok (.ireturn, 1) := by decide +kernel
theorem dX7_postValue_74 : decode cX7_postValue 74 = .ok (.aload_n 0, 1) := by decide +kernel
theorem dX7_postValue_75 : decode cX7_postValue 75 = .ok (.getfield 7, 3) := by decide +kernel
theorem dX7_postValue_78 : decode cX7_postValue 78 = .ok (.iload_n 1, 1) := by decide +kernel
theorem dX7_postValue_79 : decode cX7_postValue 79 = .ok (.iconst 5, 1) := by decide +kernel
theorem dX7_postValue_80 : decode cX7_postValue 80 = .ok (.invokestatic 48, 3) := by decide +kernel
theorem dX7_postValue_83 : decode cX7_postValue 83 = .ok (.aload_n 0, 1) := by decide +kernel
theorem dX7_postValue_84 : decode cX7_postValue 84 = .ok (.getfield 7, 3) := by decide +kernel
theorem dX7_postValue_87 : decode cX7_postValue 87 = .ok (.invokestatic 88, 3) := by decide +kernel
theorem dX7_postValue_90 : decode cX7_postValue 90 = .ok (.if_icmp .le 7, 3) := by decide +kernel
theorem dX7_postValue_93 : decode cX7_postValue 93 = .ok (.iconst 1, 1) := by decide +kernel
theorem dX7_postValue_94 : decode cX7_postValue 94 = .ok (.goto 4, 3) := by decide +kernel
theorem dX7_postValue_97 : decode cX7_postValue 97 = .ok (.iconst 0, 1) := by decide +kernel
theorem dX7_postValue_98 : decode cX7_postValue 98 = .ok (.ireturn, 1) := by decide +kernel
theorem dX7_postValue_99 : decode cX7_postValue 99 = .ok (.aload_n 0, 1) := by decide +kernel
theorem dX7_postValue_100 : decode cX7_postValue 100 = .ok (.getfield 7, 3) := by decide +kernel
theorem dX7_postValue_103 : decode cX7_postValue 103 = .ok (.iload_n 1, 1) := by decide +kernel
theorem dX7_postValue_104 : decode cX7_postValue 104 = .ok (.iload_n 2, 1) := by decide +kernel
theorem dX7_postValue_105 : decode cX7_postValue 105 = .ok (.invokestatic 48, 3) := by decide +kernel
theorem dX7_postValue_108 : decode cX7_postValue 108 = .ok (.ireturn, 1) := by decide +kernel
theorem iX7_postValue_0 {v0 : Value} {v1 : Value} {x : Int32} {Ls st : List Value} {h : AH} : ev L xs mdX7_postValue 0 (v0 :: v1 :: .int x :: Ls) (st) h = ev L xs mdX7_postValue 1 (v0 :: v1 :: .int x :: Ls) (.int x :: st) (h) := e_iload_n dX7_postValue_0 rfl
theorem iX7_postValue_1_0 {Ls st : List Value} {h : AH} : ev L xs mdX7_postValue 1 Ls (.int (nI 0) :: st) h = ev L xs mdX7_postValue 44 Ls st h := e_tsw dX7_postValue_1 rfl (by decide)
theorem iX7_postValue_1_1 {Ls st : List Value} {h : AH} : ev L xs mdX7_postValue 1 Ls (.int (nI 1) :: st) h = ev L xs mdX7_postValue 44 Ls st h := e_tsw dX7_postValue_1 rfl (by decide)
theorem iX7_postValue_1_2 {Ls st : List Value} {h : AH} : ev L xs mdX7_postValue 1 Ls (.int (nI 2) :: st) h = ev L xs mdX7_postValue 54 Ls st h := e_tsw dX7_postValue_1 rfl (by decide)
theorem iX7_postValue_1_3 {Ls st : List Value} {h : AH} : ev L xs mdX7_postValue 1 Ls (.int (nI 3) :: st) h = ev L xs mdX7_postValue 60 Ls st h := e_tsw dX7_postValue_1 rfl (by decide)
theorem iX7_postValue_1_4 {Ls st : List Value} {h : AH} : ev L xs mdX7_postValue 1 Ls (.int (nI 4) :: st) h = ev L xs mdX7_postValue 60 Ls st h := e_tsw dX7_postValue_1 rfl (by decide)
theorem iX7_postValue_1_5 {Ls st : List Value} {h : AH} : ev L xs mdX7_postValue 1 Ls (.int (nI 5) :: st) h = ev L xs mdX7_postValue 60 Ls st h := e_tsw dX7_postValue_1 rfl (by decide)
theorem iX7_postValue_1_6 {Ls st : List Value} {h : AH} : ev L xs mdX7_postValue 1 Ls (.int (nI 6) :: st) h = ev L xs mdX7_postValue 74 Ls st h := e_tsw dX7_postValue_1 rfl (by decide)
theorem iX7_postValue_1_d {x : Int32} {Ls st : List Value} {h : AH} (hx : x.toInt < 0 ∨ 6 < x.toInt) : ev L xs mdX7_postValue 1 Ls (.int x :: st) h = ev L xs mdX7_postValue 99 Ls st h := e_tsw (o := 98) dX7_postValue_1 (if_pos hx) (by decide)
theorem iX7_postValue_44 {x : Nat} {Ls st : List Value} {h : AH} : ev L xs mdX7_postValue 44 (.ref x :: Ls) (st) h = ev L xs mdX7_postValue 45 (.ref x :: Ls) (.ref x :: st) (h) := e_aload_n dX7_postValue_44 rfl
theorem iX7_postValue_45 {a : Nat} {Ls st : List Value} {h : AH} (hk : hK h a = 7) (hj : (hR h 113 a).isSome = true) : ev L xs mdX7_postValue 45 (Ls) (.ref a :: st) h = ev L xs mdX7_postValue 48 (Ls) (.ref ((hR h 113 a).getD 0) :: st) (h) := e_getR (k := 7) (f := 1) (F := 113) dX7_postValue_45 (by decide +kernel) rfl rfl hk hj
theorem iX7_postValue_48 {v0 : Value} {x : Int32} {Ls st : List Value} {h : AH} : ev L xs mdX7_postValue 48 (v0 :: .int x :: Ls) (st) h = ev L xs mdX7_postValue 49 (v0 :: .int x :: Ls) (.int x :: st) (h) := e_iload_n dX7_postValue_48 rfl
theorem iX7_postValue_49 {v0 : Value} {v1 : Value} {x : Int32} {Ls st : List Value} {h : AH} : ev L xs mdX7_postValue 49 (v0 :: v1 :: .int x :: Ls) (st) h = ev L xs mdX7_postValue 50 (v0 :: v1 :: .int x :: Ls) (.int x :: st) (h) := e_iload_n dX7_postValue_49 rfl
theorem iX7_postValue_50 {p0 : Nat} {p1 : Int32} {p2 : Int32} {Ls st : List Value} {h : AH} (hw : wds st ≤ 8) : ev L xs mdX7_postValue 50 Ls (.int p2 :: .int p1 :: .ref p0 :: st) h = kn L xs mdX7_postValue 50 53 Ls st (ev L xs mdX7_of 0 [.ref p0, .int p1, .int p2] [] h) := e_callS (as := [.int p2, .int p1, .ref p0]) dX7_postValue_50 mr_7_48 (by decide) (by decide) rfl (by simp [wds, Value.category]; decide) rfl hw
theorem iX7_postValue_53 {v : Int32} {Ls : List Value} {h : AH} : ev L xs mdX7_postValue 53 Ls [.int v] h = some (.inl (some (.int v), h)) := e_iret dX7_postValue_53 rfl
theorem iX7_postValue_54 {x : Nat} {Ls st : List Value} {h : AH} : ev L xs mdX7_postValue 54 (.ref x :: Ls) (st) h = ev L xs mdX7_postValue 55 (.ref x :: Ls) (.ref x :: st) (h) := e_aload_n dX7_postValue_54 rfl
theorem iX7_postValue_55 {v0 : Value} {x : Int32} {Ls st : List Value} {h : AH} : ev L xs mdX7_postValue 55 (v0 :: .int x :: Ls) (st) h = ev L xs mdX7_postValue 56 (v0 :: .int x :: Ls) (.int x :: st) (h) := e_iload_n dX7_postValue_55 rfl
theorem iX7_postValue_56 {a : Nat} {p0 : Int32} {Ls st : List Value} {h : AH} (hk : hK h a = 7) (hw : wds st ≤ 8) : ev L xs mdX7_postValue 56 Ls (.int p0 :: .ref a :: st) h = kn L xs mdX7_postValue 56 59 Ls st (ev L xs mdX7_ownerOf 0 [.ref a, .int p0, .null, .null] [] h) := e_callV (as := [.int p0]) dX7_postValue_56 mr_7_116 (by decide) (by decide) rfl (by simp [wds, Value.category]; decide) rfl (by decide) hk hw
theorem iX7_postValue_59 {v : Int32} {Ls : List Value} {h : AH} : ev L xs mdX7_postValue 59 Ls [.int v] h = some (.inl (some (.int v), h)) := e_iret dX7_postValue_59 rfl
theorem iX7_postValue_60 {x : Nat} {Ls st : List Value} {h : AH} : ev L xs mdX7_postValue 60 (.ref x :: Ls) (st) h = ev L xs mdX7_postValue 61 (.ref x :: Ls) (.ref x :: st) (h) := e_aload_n dX7_postValue_60 rfl
theorem iX7_postValue_61 {a : Nat} {Ls st : List Value} {h : AH} (hk : hK h a = 7) (hj : (hR h 113 a).isSome = true) : ev L xs mdX7_postValue 61 (Ls) (.ref a :: st) h = ev L xs mdX7_postValue 64 (Ls) (.ref ((hR h 113 a).getD 0) :: st) (h) := e_getR (k := 7) (f := 1) (F := 113) dX7_postValue_61 (by decide +kernel) rfl rfl hk hj
theorem iX7_postValue_64 {v0 : Value} {x : Int32} {Ls st : List Value} {h : AH} : ev L xs mdX7_postValue 64 (v0 :: .int x :: Ls) (st) h = ev L xs mdX7_postValue 65 (v0 :: .int x :: Ls) (.int x :: st) (h) := e_iload_n dX7_postValue_64 rfl
theorem iX7_postValue_65  {Ls st : List Value} {h : AH} : ev L xs mdX7_postValue 65 (Ls) (st) h = ev L xs mdX7_postValue 66 (Ls) (.int (nI 2) :: st) (h) := e_iconst dX7_postValue_65 (by decide)
theorem iX7_postValue_66 {v0 : Value} {v1 : Value} {x : Int32} {Ls st : List Value} {h : AH} : ev L xs mdX7_postValue 66 (v0 :: v1 :: .int x :: Ls) (st) h = ev L xs mdX7_postValue 67 (v0 :: v1 :: .int x :: Ls) (.int x :: st) (h) := e_iload_n dX7_postValue_66 rfl
theorem iX7_postValue_67 {x z : Int32} {Ls st : List Value} {h : AH} : ev L xs mdX7_postValue 67 (Ls) (.int z :: .int x :: st) h = ev L xs mdX7_postValue 68 (Ls) (.int (x + z) :: st) (h) := e_iadd dX7_postValue_67
theorem iX7_postValue_68  {Ls st : List Value} {h : AH} : ev L xs mdX7_postValue 68 (Ls) (st) h = ev L xs mdX7_postValue 69 (Ls) (.int (nI 3) :: st) (h) := e_iconst dX7_postValue_68 (by decide)
theorem iX7_postValue_69 {x z : Int32} {Ls st : List Value} {h : AH} : ev L xs mdX7_postValue 69 (Ls) (.int z :: .int x :: st) h = ev L xs mdX7_postValue 70 (Ls) (.int (x - z) :: st) (h) := e_isub dX7_postValue_69
theorem iX7_postValue_70 {p0 : Nat} {p1 : Int32} {p2 : Int32} {Ls st : List Value} {h : AH} (hw : wds st ≤ 8) : ev L xs mdX7_postValue 70 Ls (.int p2 :: .int p1 :: .ref p0 :: st) h = kn L xs mdX7_postValue 70 73 Ls st (ev L xs mdX7_of 0 [.ref p0, .int p1, .int p2] [] h) := e_callS (as := [.int p2, .int p1, .ref p0]) dX7_postValue_70 mr_7_48 (by decide) (by decide) rfl (by simp [wds, Value.category]; decide) rfl hw
theorem iX7_postValue_73 {v : Int32} {Ls : List Value} {h : AH} : ev L xs mdX7_postValue 73 Ls [.int v] h = some (.inl (some (.int v), h)) := e_iret dX7_postValue_73 rfl
theorem iX7_postValue_74 {x : Nat} {Ls st : List Value} {h : AH} : ev L xs mdX7_postValue 74 (.ref x :: Ls) (st) h = ev L xs mdX7_postValue 75 (.ref x :: Ls) (.ref x :: st) (h) := e_aload_n dX7_postValue_74 rfl
theorem iX7_postValue_75 {a : Nat} {Ls st : List Value} {h : AH} (hk : hK h a = 7) (hj : (hR h 113 a).isSome = true) : ev L xs mdX7_postValue 75 (Ls) (.ref a :: st) h = ev L xs mdX7_postValue 78 (Ls) (.ref ((hR h 113 a).getD 0) :: st) (h) := e_getR (k := 7) (f := 1) (F := 113) dX7_postValue_75 (by decide +kernel) rfl rfl hk hj
theorem iX7_postValue_78 {v0 : Value} {x : Int32} {Ls st : List Value} {h : AH} : ev L xs mdX7_postValue 78 (v0 :: .int x :: Ls) (st) h = ev L xs mdX7_postValue 79 (v0 :: .int x :: Ls) (.int x :: st) (h) := e_iload_n dX7_postValue_78 rfl
theorem iX7_postValue_79  {Ls st : List Value} {h : AH} : ev L xs mdX7_postValue 79 (Ls) (st) h = ev L xs mdX7_postValue 80 (Ls) (.int (nI 5) :: st) (h) := e_iconst dX7_postValue_79 (by decide)
theorem iX7_postValue_80 {p0 : Nat} {p1 : Int32} {p2 : Int32} {Ls st : List Value} {h : AH} (hw : wds st ≤ 8) : ev L xs mdX7_postValue 80 Ls (.int p2 :: .int p1 :: .ref p0 :: st) h = kn L xs mdX7_postValue 80 83 Ls st (ev L xs mdX7_of 0 [.ref p0, .int p1, .int p2] [] h) := e_callS (as := [.int p2, .int p1, .ref p0]) dX7_postValue_80 mr_7_48 (by decide) (by decide) rfl (by simp [wds, Value.category]; decide) rfl hw
theorem iX7_postValue_83 {x : Nat} {Ls st : List Value} {h : AH} : ev L xs mdX7_postValue 83 (.ref x :: Ls) (st) h = ev L xs mdX7_postValue 84 (.ref x :: Ls) (.ref x :: st) (h) := e_aload_n dX7_postValue_83 rfl
theorem iX7_postValue_84 {a : Nat} {Ls st : List Value} {h : AH} (hk : hK h a = 7) (hj : (hR h 113 a).isSome = true) : ev L xs mdX7_postValue 84 (Ls) (.ref a :: st) h = ev L xs mdX7_postValue 87 (Ls) (.ref ((hR h 113 a).getD 0) :: st) (h) := e_getR (k := 7) (f := 1) (F := 113) dX7_postValue_84 (by decide +kernel) rfl rfl hk hj
theorem iX7_postValue_87 {p0 : Nat} {Ls st : List Value} {h : AH} (hw : wds st ≤ 8) : ev L xs mdX7_postValue 87 Ls (.ref p0 :: st) h = kn L xs mdX7_postValue 87 90 Ls st (ev L xs mdX7_numberOf 0 [.ref p0] [] h) := e_callS (as := [.ref p0]) dX7_postValue_87 mr_7_88 (by decide) (by decide) rfl (by simp [wds, Value.category]; decide) rfl hw
theorem iX7_postValue_90 {x z : Int32} {Ls st : List Value} {h : AH} : ev L xs mdX7_postValue 90 Ls (.int z :: .int x :: st) h = if x ≤ z then ev L xs mdX7_postValue 97 Ls st h else ev L xs mdX7_postValue 93 Ls st h := e_ic_le dX7_postValue_90 (by decide)
theorem iX7_postValue_93  {Ls st : List Value} {h : AH} : ev L xs mdX7_postValue 93 (Ls) (st) h = ev L xs mdX7_postValue 94 (Ls) (.int (nI 1) :: st) (h) := e_iconst dX7_postValue_93 (by decide)
theorem iX7_postValue_94  {Ls st : List Value} {h : AH} : ev L xs mdX7_postValue 94 (Ls) (st) h = ev L xs mdX7_postValue 98 (Ls) (st) (h) := e_goto dX7_postValue_94 (by decide)
theorem iX7_postValue_97  {Ls st : List Value} {h : AH} : ev L xs mdX7_postValue 97 (Ls) (st) h = ev L xs mdX7_postValue 98 (Ls) (.int (nI 0) :: st) (h) := e_iconst dX7_postValue_97 (by decide)
theorem iX7_postValue_98 {v : Int32} {Ls : List Value} {h : AH} : ev L xs mdX7_postValue 98 Ls [.int v] h = some (.inl (some (.int v), h)) := e_iret dX7_postValue_98 rfl
theorem iX7_postValue_99 {x : Nat} {Ls st : List Value} {h : AH} : ev L xs mdX7_postValue 99 (.ref x :: Ls) (st) h = ev L xs mdX7_postValue 100 (.ref x :: Ls) (.ref x :: st) (h) := e_aload_n dX7_postValue_99 rfl
theorem iX7_postValue_100 {a : Nat} {Ls st : List Value} {h : AH} (hk : hK h a = 7) (hj : (hR h 113 a).isSome = true) : ev L xs mdX7_postValue 100 (Ls) (.ref a :: st) h = ev L xs mdX7_postValue 103 (Ls) (.ref ((hR h 113 a).getD 0) :: st) (h) := e_getR (k := 7) (f := 1) (F := 113) dX7_postValue_100 (by decide +kernel) rfl rfl hk hj
theorem iX7_postValue_103 {v0 : Value} {x : Int32} {Ls st : List Value} {h : AH} : ev L xs mdX7_postValue 103 (v0 :: .int x :: Ls) (st) h = ev L xs mdX7_postValue 104 (v0 :: .int x :: Ls) (.int x :: st) (h) := e_iload_n dX7_postValue_103 rfl
theorem iX7_postValue_104 {v0 : Value} {v1 : Value} {x : Int32} {Ls st : List Value} {h : AH} : ev L xs mdX7_postValue 104 (v0 :: v1 :: .int x :: Ls) (st) h = ev L xs mdX7_postValue 105 (v0 :: v1 :: .int x :: Ls) (.int x :: st) (h) := e_iload_n dX7_postValue_104 rfl
theorem iX7_postValue_105 {p0 : Nat} {p1 : Int32} {p2 : Int32} {Ls st : List Value} {h : AH} (hw : wds st ≤ 8) : ev L xs mdX7_postValue 105 Ls (.int p2 :: .int p1 :: .ref p0 :: st) h = kn L xs mdX7_postValue 105 108 Ls st (ev L xs mdX7_of 0 [.ref p0, .int p1, .int p2] [] h) := e_callS (as := [.int p2, .int p1, .ref p0]) dX7_postValue_105 mr_7_48 (by decide) (by decide) rfl (by simp [wds, Value.category]; decide) rfl hw
theorem iX7_postValue_108 {v : Int32} {Ls : List Value} {h : AH} : ev L xs mdX7_postValue 108 Ls [.int v] h = some (.inl (some (.int v), h)) := e_iret dX7_postValue_108 rfl
theorem dX7_put_0 : decode cX7_put 0 = .ok (.aload_n 0, 1) := by decide +kernel
theorem dX7_put_1 : decode cX7_put 1 = .ok (.bipush 21, 2) := by decide +kernel
theorem dX7_put_3 : decode cX7_put 3 = .ok (.bipush 9, 2) := by decide +kernel
theorem dX7_put_5 : decode cX7_put 5 = .ok (.iload_n 1, 1) := by decide +kernel
theorem dX7_put_6 : decode cX7_put 6 = .ok (.imul, 1) := by decide +kernel
theorem dX7_put_7 : decode cX7_put 7 = .ok (.iadd, 1) := by decide +kernel
theorem dX7_put_8 : decode cX7_put 8 = .ok (.iload_n 2, 1) := by decide +kernel
theorem dX7_put_9 : decode cX7_put 9 = .ok (.iadd, 1) := by decide +kernel
theorem dX7_put_10 : decode cX7_put 10 = .ok (.iload_n 3, 1) := by decide +kernel
theorem dX7_put_11 : decode cX7_put 11 = .ok (.iastore, 1) := by decide +kernel
theorem dX7_put_12 : decode cX7_put 12 = .ok (.return_, 1) := by decide +kernel
theorem iX7_put_0 {x : Nat} {Ls st : List Value} {h : AH} : ev L xs mdX7_put 0 (.ref x :: Ls) (st) h = ev L xs mdX7_put 1 (.ref x :: Ls) (.ref x :: st) (h) := e_aload_n dX7_put_0 rfl
theorem iX7_put_1  {Ls st : List Value} {h : AH} : ev L xs mdX7_put 1 (Ls) (st) h = ev L xs mdX7_put 3 (Ls) (.int (nI 21) :: st) (h) := e_bipush dX7_put_1 (by decide)
theorem iX7_put_3  {Ls st : List Value} {h : AH} : ev L xs mdX7_put 3 (Ls) (st) h = ev L xs mdX7_put 5 (Ls) (.int (nI 9) :: st) (h) := e_bipush dX7_put_3 (by decide)
theorem iX7_put_5 {v0 : Value} {x : Int32} {Ls st : List Value} {h : AH} : ev L xs mdX7_put 5 (v0 :: .int x :: Ls) (st) h = ev L xs mdX7_put 6 (v0 :: .int x :: Ls) (.int x :: st) (h) := e_iload_n dX7_put_5 rfl
theorem iX7_put_6 {x z : Int32} {Ls st : List Value} {h : AH} : ev L xs mdX7_put 6 (Ls) (.int z :: .int x :: st) h = ev L xs mdX7_put 7 (Ls) (.int (x * z) :: st) (h) := e_imul dX7_put_6
theorem iX7_put_7 {x z : Int32} {Ls st : List Value} {h : AH} : ev L xs mdX7_put 7 (Ls) (.int z :: .int x :: st) h = ev L xs mdX7_put 8 (Ls) (.int (x + z) :: st) (h) := e_iadd dX7_put_7
theorem iX7_put_8 {v0 : Value} {v1 : Value} {x : Int32} {Ls st : List Value} {h : AH} : ev L xs mdX7_put 8 (v0 :: v1 :: .int x :: Ls) (st) h = ev L xs mdX7_put 9 (v0 :: v1 :: .int x :: Ls) (.int x :: st) (h) := e_iload_n dX7_put_8 rfl
theorem iX7_put_9 {x z : Int32} {Ls st : List Value} {h : AH} : ev L xs mdX7_put 9 (Ls) (.int z :: .int x :: st) h = ev L xs mdX7_put 10 (Ls) (.int (x + z) :: st) (h) := e_iadd dX7_put_9
theorem iX7_put_10 {v0 : Value} {v1 : Value} {v2 : Value} {x : Int32} {Ls st : List Value} {h : AH} : ev L xs mdX7_put 10 (v0 :: v1 :: v2 :: .int x :: Ls) (st) h = ev L xs mdX7_put 11 (v0 :: v1 :: v2 :: .int x :: Ls) (.int x :: st) (h) := e_iload_n dX7_put_10 rfl
theorem iX7_put_11 {a : Nat} {j : Int32} {v : Int32} {Ls st : List Value} {h : AH} (hk : hK h a = 8) (hi : inA j (hN h a) = true) : ev L xs mdX7_put 11 (Ls) (.int v :: .int j :: .ref a :: st) h = ev L xs mdX7_put 12 (Ls) (st) (sA h a j.toNatClampNeg v) := e_iast dX7_put_11 hk hi
theorem iX7_put_12 {Ls : List Value} {h : AH} : ev L xs mdX7_put 12 Ls [] h = some (.inl (none, h)) := e_vret dX7_put_12 rfl
theorem dX7_readDays_0 : decode cX7_readDays 0 = .ok (.aload_n 0, 1) := by decide +kernel
theorem dX7_readDays_1 : decode cX7_readDays 1 = .ok (.getfield 168, 3) := by decide +kernel
theorem dX7_readDays_4 : decode cX7_readDays 4 = .ok (.istore_n 1, 1) := by decide +kernel
theorem dX7_readDays_5 : decode cX7_readDays 5 = .ok (.aload_n 0, 1) := by decide +kernel
theorem dX7_readDays_6 : decode cX7_readDays 6 = .ok (.aload_n 0, 1) := by decide +kernel
theorem dX7_readDays_7 : decode cX7_readDays 7 = .ok (.bipush 57, 2) := by decide +kernel
theorem dX7_readDays_9 : decode cX7_readDays 9 = .ok (.invokevirtual 185, 3) := by decide +kernel
theorem dX7_readDays_12 : decode cX7_readDays 12 = .ok (.putfield 188, 3) := by decide +kernel
theorem dX7_readDays_15 : decode cX7_readDays 15 = .ok (.aload_n 0, 1) := by decide +kernel
theorem dX7_readDays_16 : decode cX7_readDays 16 = .ok (.getfield 175, 3) := by decide +kernel
theorem dX7_readDays_19 : decode cX7_readDays 19 = .ok (.ifCond .ge 41, 3) := by decide +kernel
theorem dX7_readDays_22 : decode cX7_readDays 22 = .ok (.aload_n 0, 1) := by decide +kernel
theorem dX7_readDays_23 : decode cX7_readDays 23 = .ok (.bipush 57, 2) := by decide +kernel
theorem dX7_readDays_25 : decode cX7_readDays 25 = .ok (.invokevirtual 178, 3) := by decide +kernel
theorem dX7_readDays_28 : decode cX7_readDays 28 = .ok (.ifCond .eq 32, 3) := by decide +kernel
theorem dX7_readDays_31 : decode cX7_readDays 31 = .ok (.aload_n 0, 1) := by decide +kernel
theorem dX7_readDays_32 : decode cX7_readDays 32 = .ok (.bipush 10, 2) := by decide +kernel
theorem dX7_readDays_34 : decode cX7_readDays 34 = .ok (.aload_n 0, 1) := by decide +kernel
theorem dX7_readDays_35 : decode cX7_readDays 35 = .ok (.getfield 188, 3) := by decide +kernel
theorem dX7_readDays_38 : decode cX7_readDays 38 = .ok (.imul, 1) := by decide +kernel
theorem dX7_readDays_39 : decode cX7_readDays 39 = .ok (.aload_n 0, 1) := by decide +kernel
theorem dX7_readDays_40 : decode cX7_readDays 40 = .ok (.invokevirtual 171, 3) := by decide +kernel
theorem dX7_readDays_43 : decode cX7_readDays 43 = .ok (.iadd, 1) := by decide +kernel
theorem dX7_readDays_44 : decode cX7_readDays 44 = .ok (.bipush 48, 2) := by decide +kernel
theorem dX7_readDays_46 : decode cX7_readDays 46 = .ok (.isub, 1) := by decide +kernel
theorem dX7_readDays_47 : decode cX7_readDays 47 = .ok (.putfield 188, 3) := by decide +kernel
theorem dX7_readDays_50 : decode cX7_readDays 50 = .ok (.aload_n 0, 1) := by decide +kernel
theorem dX7_readDays_51 : decode cX7_readDays 51 = .ok (.dup, 1) := by decide +kernel
theorem dX7_readDays_52 : decode cX7_readDays 52 = .ok (.getfield 168, 3) := by decide +kernel
theorem dX7_readDays_55 : decode cX7_readDays 55 = .ok (.iconst 1, 1) := by decide +kernel
theorem dX7_readDays_56 : decode cX7_readDays 56 = .ok (.iadd, 1) := by decide +kernel
theorem dX7_readDays_57 : decode cX7_readDays 57 = .ok (.putfield 168, 3) := by decide +kernel
theorem dX7_readDays_60 : decode cX7_readDays 60 = .ok (.aload_n 0, 1) := by decide +kernel
theorem dX7_readDays_61 : decode cX7_readDays 61 = .ok (.getfield 175, 3) := by decide +kernel
theorem dX7_readDays_64 : decode cX7_readDays 64 = .ok (.ifCond .ge 20, 3) := by decide +kernel
theorem dX7_readDays_67 : decode cX7_readDays 67 = .ok (.aload_n 0, 1) := by decide +kernel
theorem dX7_readDays_68 : decode cX7_readDays 68 = .ok (.bipush 57, 2) := by decide +kernel
theorem dX7_readDays_70 : decode cX7_readDays 70 = .ok (.invokevirtual 178, 3) := by decide +kernel
theorem dX7_readDays_73 : decode cX7_readDays 73 = .ok (.ifCond .eq 11, 3) := by decide +kernel
theorem dX7_readDays_76 : decode cX7_readDays 76 = .ok (.aload_n 0, 1) := by decide +kernel
theorem dX7_readDays_77 : decode cX7_readDays 77 = .ok (.aload_n 0, 1) := by decide +kernel
theorem dX7_readDays_78 : decode cX7_readDays 78 = .ok (.getfield 168, 3) := by decide +kernel
theorem dX7_readDays_81 : decode cX7_readDays 81 = .ok (.invokevirtual 181, 3) := by decide +kernel
theorem dX7_readDays_84 : decode cX7_readDays 84 = .ok (.aload_n 0, 1) := by decide +kernel
theorem dX7_readDays_85 : decode cX7_readDays 85 = .ok (.getfield 175, 3) := by decide +kernel
theorem dX7_readDays_88 : decode cX7_readDays 88 = .ok (.ifCond .ge 21, 3) := by decide +kernel
theorem dX7_readDays_91 : decode cX7_readDays 91 = .ok (.aload_n 0, 1) := by decide +kernel
theorem dX7_readDays_92 : decode cX7_readDays 92 = .ok (.getfield 188, 3) := by decide +kernel
theorem dX7_readDays_95 : decode cX7_readDays 95 = .ok (.iconst 1, 1) := by decide +kernel
theorem dX7_readDays_96 : decode cX7_readDays 96 = .ok (.bipush 60, 2) := by decide +kernel
theorem dX7_readDays_98 : decode cX7_readDays 98 = .ok (.invokestatic 44, 3) := by decide +kernel
theorem dX7_readDays_101 : decode cX7_readDays 101 = .ok (.ifCond .ne 8, 3) := by decide +kernel
theorem dX7_readDays_104 : decode cX7_readDays 104 = .ok (.aload_n 0, 1) := by decide +kernel
theorem dX7_readDays_105 : decode cX7_readDays 105 = .ok (.iload_n 1, 1) := by decide +kernel
theorem dX7_readDays_106 : decode cX7_readDays 106 = .ok (.invokevirtual 181, 3) := by decide +kernel
theorem dX7_readDays_109 : decode cX7_readDays 109 = .ok (.return_, 1) := by decide +kernel
theorem iX7_readDays_0 {x : Nat} {Ls st : List Value} {h : AH} : ev L xs mdX7_readDays 0 (.ref x :: Ls) (st) h = ev L xs mdX7_readDays 1 (.ref x :: Ls) (.ref x :: st) (h) := e_aload_n dX7_readDays_0 rfl
theorem iX7_readDays_1 {a : Nat} {Ls st : List Value} {h : AH} (hk : hK h a = 7) : ev L xs mdX7_readDays 1 (Ls) (.ref a :: st) h = ev L xs mdX7_readDays 4 (Ls) (.int (hI h 124 a) :: st) (h) := e_getI (k := 7) (f := 12) (F := 124) dX7_readDays_1 (by decide +kernel) rfl rfl hk
theorem iX7_readDays_4 {v0 : Value} {v1 : Value} {x : Int32} {Ls st : List Value} {h : AH} (hc9 : v0.category = 1) : ev L xs mdX7_readDays 4 (v0 :: v1 :: Ls) (.int x :: st) h = ev L xs mdX7_readDays 5 (v0 :: .int x :: Ls) (st) (h) := e_istore_n dX7_readDays_4 rfl (by decide) (by unfold catOK; show (_ || (v0.category == 1)) = true; rw [hc9]; rfl)
theorem iX7_readDays_5 {x : Nat} {Ls st : List Value} {h : AH} : ev L xs mdX7_readDays 5 (.ref x :: Ls) (st) h = ev L xs mdX7_readDays 6 (.ref x :: Ls) (.ref x :: st) (h) := e_aload_n dX7_readDays_5 rfl
theorem iX7_readDays_6 {x : Nat} {Ls st : List Value} {h : AH} : ev L xs mdX7_readDays 6 (.ref x :: Ls) (st) h = ev L xs mdX7_readDays 7 (.ref x :: Ls) (.ref x :: st) (h) := e_aload_n dX7_readDays_6 rfl
theorem iX7_readDays_7  {Ls st : List Value} {h : AH} : ev L xs mdX7_readDays 7 (Ls) (st) h = ev L xs mdX7_readDays 9 (Ls) (.int (nI 57) :: st) (h) := e_bipush dX7_readDays_7 (by decide)
theorem iX7_readDays_9 {a : Nat} {p0 : Int32} {Ls st : List Value} {h : AH} (hk : hK h a = 7) (hw : wds st ≤ 8) : ev L xs mdX7_readDays 9 Ls (.int p0 :: .ref a :: st) h = kn L xs mdX7_readDays 9 12 Ls st (ev L xs mdX7_readDigit 0 [.ref a, .int p0, .null] [] h) := e_callV (as := [.int p0]) dX7_readDays_9 mr_7_185 (by decide) (by decide) rfl (by simp [wds, Value.category]; decide) rfl (by decide) hk hw
theorem iX7_readDays_12 {a : Nat} {v : Int32} {Ls st : List Value} {h : AH} (hk : hK h a = 7) : ev L xs mdX7_readDays 12 (Ls) (.int v :: .ref a :: st) h = ev L xs mdX7_readDays 15 (Ls) (st) (sI h 126 a v) := e_putI (k := 7) (f := 14) (F := 126) dX7_readDays_12 (by decide +kernel) rfl (by decide +kernel) rfl hk
theorem iX7_readDays_15 {x : Nat} {Ls st : List Value} {h : AH} : ev L xs mdX7_readDays 15 (.ref x :: Ls) (st) h = ev L xs mdX7_readDays 16 (.ref x :: Ls) (.ref x :: st) (h) := e_aload_n dX7_readDays_15 rfl
theorem iX7_readDays_16 {a : Nat} {Ls st : List Value} {h : AH} (hk : hK h a = 7) : ev L xs mdX7_readDays 16 (Ls) (.ref a :: st) h = ev L xs mdX7_readDays 19 (Ls) (.int (hI h 125 a) :: st) (h) := e_getI (k := 7) (f := 13) (F := 125) dX7_readDays_16 (by decide +kernel) rfl rfl hk
theorem iX7_readDays_19 {x : Int32} {Ls st : List Value} {h : AH} : ev L xs mdX7_readDays 19 Ls (.int x :: st) h = if nI 0 ≤ x then ev L xs mdX7_readDays 60 Ls st h else ev L xs mdX7_readDays 22 Ls st h := e_if_ge dX7_readDays_19 (by decide)
theorem iX7_readDays_22 {x : Nat} {Ls st : List Value} {h : AH} : ev L xs mdX7_readDays 22 (.ref x :: Ls) (st) h = ev L xs mdX7_readDays 23 (.ref x :: Ls) (.ref x :: st) (h) := e_aload_n dX7_readDays_22 rfl
theorem iX7_readDays_23  {Ls st : List Value} {h : AH} : ev L xs mdX7_readDays 23 (Ls) (st) h = ev L xs mdX7_readDays 25 (Ls) (.int (nI 57) :: st) (h) := e_bipush dX7_readDays_23 (by decide)
theorem iX7_readDays_25 {a : Nat} {p0 : Int32} {Ls st : List Value} {h : AH} (hk : hK h a = 7) (hw : wds st ≤ 8) : ev L xs mdX7_readDays 25 Ls (.int p0 :: .ref a :: st) h = kn L xs mdX7_readDays 25 28 Ls st (ev L xs mdX7_isDigit 0 [.ref a, .int p0] [] h) := e_callV (as := [.int p0]) dX7_readDays_25 mr_7_178 (by decide) (by decide) rfl (by simp [wds, Value.category]; decide) rfl (by decide) hk hw
theorem iX7_readDays_28 {x : Int32} {Ls st : List Value} {h : AH} : ev L xs mdX7_readDays 28 Ls (.int x :: st) h = if x = nI 0 then ev L xs mdX7_readDays 60 Ls st h else ev L xs mdX7_readDays 31 Ls st h := e_if_eq dX7_readDays_28 (by decide)
theorem iX7_readDays_31 {x : Nat} {Ls st : List Value} {h : AH} : ev L xs mdX7_readDays 31 (.ref x :: Ls) (st) h = ev L xs mdX7_readDays 32 (.ref x :: Ls) (.ref x :: st) (h) := e_aload_n dX7_readDays_31 rfl
theorem iX7_readDays_32  {Ls st : List Value} {h : AH} : ev L xs mdX7_readDays 32 (Ls) (st) h = ev L xs mdX7_readDays 34 (Ls) (.int (nI 10) :: st) (h) := e_bipush dX7_readDays_32 (by decide)
theorem iX7_readDays_34 {x : Nat} {Ls st : List Value} {h : AH} : ev L xs mdX7_readDays 34 (.ref x :: Ls) (st) h = ev L xs mdX7_readDays 35 (.ref x :: Ls) (.ref x :: st) (h) := e_aload_n dX7_readDays_34 rfl
theorem iX7_readDays_35 {a : Nat} {Ls st : List Value} {h : AH} (hk : hK h a = 7) : ev L xs mdX7_readDays 35 (Ls) (.ref a :: st) h = ev L xs mdX7_readDays 38 (Ls) (.int (hI h 126 a) :: st) (h) := e_getI (k := 7) (f := 14) (F := 126) dX7_readDays_35 (by decide +kernel) rfl rfl hk
theorem iX7_readDays_38 {x z : Int32} {Ls st : List Value} {h : AH} : ev L xs mdX7_readDays 38 (Ls) (.int z :: .int x :: st) h = ev L xs mdX7_readDays 39 (Ls) (.int (x * z) :: st) (h) := e_imul dX7_readDays_38
theorem iX7_readDays_39 {x : Nat} {Ls st : List Value} {h : AH} : ev L xs mdX7_readDays 39 (.ref x :: Ls) (st) h = ev L xs mdX7_readDays 40 (.ref x :: Ls) (.ref x :: st) (h) := e_aload_n dX7_readDays_39 rfl
theorem iX7_readDays_40 {a : Nat} {Ls st : List Value} {h : AH} (hk : hK h a = 7) (hw : wds st ≤ 8) : ev L xs mdX7_readDays 40 Ls (.ref a :: st) h = kn L xs mdX7_readDays 40 43 Ls st (ev L xs mdX7_here 0 [.ref a] [] h) := e_callV (as := []) dX7_readDays_40 mr_7_171 (by decide) (by decide) rfl (by simp [wds, Value.category]; decide) rfl (by decide) hk hw
theorem iX7_readDays_43 {x z : Int32} {Ls st : List Value} {h : AH} : ev L xs mdX7_readDays 43 (Ls) (.int z :: .int x :: st) h = ev L xs mdX7_readDays 44 (Ls) (.int (x + z) :: st) (h) := e_iadd dX7_readDays_43
theorem iX7_readDays_44  {Ls st : List Value} {h : AH} : ev L xs mdX7_readDays 44 (Ls) (st) h = ev L xs mdX7_readDays 46 (Ls) (.int (nI 48) :: st) (h) := e_bipush dX7_readDays_44 (by decide)
theorem iX7_readDays_46 {x z : Int32} {Ls st : List Value} {h : AH} : ev L xs mdX7_readDays 46 (Ls) (.int z :: .int x :: st) h = ev L xs mdX7_readDays 47 (Ls) (.int (x - z) :: st) (h) := e_isub dX7_readDays_46
theorem iX7_readDays_47 {a : Nat} {v : Int32} {Ls st : List Value} {h : AH} (hk : hK h a = 7) : ev L xs mdX7_readDays 47 (Ls) (.int v :: .ref a :: st) h = ev L xs mdX7_readDays 50 (Ls) (st) (sI h 126 a v) := e_putI (k := 7) (f := 14) (F := 126) dX7_readDays_47 (by decide +kernel) rfl (by decide +kernel) rfl hk
theorem iX7_readDays_50 {x : Nat} {Ls st : List Value} {h : AH} : ev L xs mdX7_readDays 50 (.ref x :: Ls) (st) h = ev L xs mdX7_readDays 51 (.ref x :: Ls) (.ref x :: st) (h) := e_aload_n dX7_readDays_50 rfl
theorem iX7_readDays_51 {a : Nat} {Ls st : List Value} {h : AH} : ev L xs mdX7_readDays 51 (Ls) (.ref a :: st) h = ev L xs mdX7_readDays 52 (Ls) (.ref a :: .ref a :: st) (h) := e_dup dX7_readDays_51 rfl
theorem iX7_readDays_51i {a : Int32} {Ls st : List Value} {h : AH} : ev L xs mdX7_readDays 51 (Ls) (.int a :: st) h = ev L xs mdX7_readDays 52 (Ls) (.int a :: .int a :: st) (h) := e_dup dX7_readDays_51 rfl
theorem iX7_readDays_52 {a : Nat} {Ls st : List Value} {h : AH} (hk : hK h a = 7) : ev L xs mdX7_readDays 52 (Ls) (.ref a :: st) h = ev L xs mdX7_readDays 55 (Ls) (.int (hI h 124 a) :: st) (h) := e_getI (k := 7) (f := 12) (F := 124) dX7_readDays_52 (by decide +kernel) rfl rfl hk
theorem iX7_readDays_55  {Ls st : List Value} {h : AH} : ev L xs mdX7_readDays 55 (Ls) (st) h = ev L xs mdX7_readDays 56 (Ls) (.int (nI 1) :: st) (h) := e_iconst dX7_readDays_55 (by decide)
theorem iX7_readDays_56 {x z : Int32} {Ls st : List Value} {h : AH} : ev L xs mdX7_readDays 56 (Ls) (.int z :: .int x :: st) h = ev L xs mdX7_readDays 57 (Ls) (.int (x + z) :: st) (h) := e_iadd dX7_readDays_56
theorem iX7_readDays_57 {a : Nat} {v : Int32} {Ls st : List Value} {h : AH} (hk : hK h a = 7) : ev L xs mdX7_readDays 57 (Ls) (.int v :: .ref a :: st) h = ev L xs mdX7_readDays 60 (Ls) (st) (sI h 124 a v) := e_putI (k := 7) (f := 12) (F := 124) dX7_readDays_57 (by decide +kernel) rfl (by decide +kernel) rfl hk
theorem iX7_readDays_60 {x : Nat} {Ls st : List Value} {h : AH} : ev L xs mdX7_readDays 60 (.ref x :: Ls) (st) h = ev L xs mdX7_readDays 61 (.ref x :: Ls) (.ref x :: st) (h) := e_aload_n dX7_readDays_60 rfl
theorem iX7_readDays_61 {a : Nat} {Ls st : List Value} {h : AH} (hk : hK h a = 7) : ev L xs mdX7_readDays 61 (Ls) (.ref a :: st) h = ev L xs mdX7_readDays 64 (Ls) (.int (hI h 125 a) :: st) (h) := e_getI (k := 7) (f := 13) (F := 125) dX7_readDays_61 (by decide +kernel) rfl rfl hk
theorem iX7_readDays_64 {x : Int32} {Ls st : List Value} {h : AH} : ev L xs mdX7_readDays 64 Ls (.int x :: st) h = if nI 0 ≤ x then ev L xs mdX7_readDays 84 Ls st h else ev L xs mdX7_readDays 67 Ls st h := e_if_ge dX7_readDays_64 (by decide)
theorem iX7_readDays_67 {x : Nat} {Ls st : List Value} {h : AH} : ev L xs mdX7_readDays 67 (.ref x :: Ls) (st) h = ev L xs mdX7_readDays 68 (.ref x :: Ls) (.ref x :: st) (h) := e_aload_n dX7_readDays_67 rfl
theorem iX7_readDays_68  {Ls st : List Value} {h : AH} : ev L xs mdX7_readDays 68 (Ls) (st) h = ev L xs mdX7_readDays 70 (Ls) (.int (nI 57) :: st) (h) := e_bipush dX7_readDays_68 (by decide)
theorem iX7_readDays_70 {a : Nat} {p0 : Int32} {Ls st : List Value} {h : AH} (hk : hK h a = 7) (hw : wds st ≤ 8) : ev L xs mdX7_readDays 70 Ls (.int p0 :: .ref a :: st) h = kn L xs mdX7_readDays 70 73 Ls st (ev L xs mdX7_isDigit 0 [.ref a, .int p0] [] h) := e_callV (as := [.int p0]) dX7_readDays_70 mr_7_178 (by decide) (by decide) rfl (by simp [wds, Value.category]; decide) rfl (by decide) hk hw
theorem iX7_readDays_73 {x : Int32} {Ls st : List Value} {h : AH} : ev L xs mdX7_readDays 73 Ls (.int x :: st) h = if x = nI 0 then ev L xs mdX7_readDays 84 Ls st h else ev L xs mdX7_readDays 76 Ls st h := e_if_eq dX7_readDays_73 (by decide)
theorem iX7_readDays_76 {x : Nat} {Ls st : List Value} {h : AH} : ev L xs mdX7_readDays 76 (.ref x :: Ls) (st) h = ev L xs mdX7_readDays 77 (.ref x :: Ls) (.ref x :: st) (h) := e_aload_n dX7_readDays_76 rfl
theorem iX7_readDays_77 {x : Nat} {Ls st : List Value} {h : AH} : ev L xs mdX7_readDays 77 (.ref x :: Ls) (st) h = ev L xs mdX7_readDays 78 (.ref x :: Ls) (.ref x :: st) (h) := e_aload_n dX7_readDays_77 rfl
theorem iX7_readDays_78 {a : Nat} {Ls st : List Value} {h : AH} (hk : hK h a = 7) : ev L xs mdX7_readDays 78 (Ls) (.ref a :: st) h = ev L xs mdX7_readDays 81 (Ls) (.int (hI h 124 a) :: st) (h) := e_getI (k := 7) (f := 12) (F := 124) dX7_readDays_78 (by decide +kernel) rfl rfl hk
theorem iX7_readDays_81 {a : Nat} {p0 : Int32} {Ls st : List Value} {h : AH} (hk : hK h a = 7) (hw : wds st ≤ 8) : ev L xs mdX7_readDays 81 Ls (.int p0 :: .ref a :: st) h = kn L xs mdX7_readDays 81 84 Ls st (ev L xs mdX7_fail 0 [.ref a, .int p0] [] h) := e_callV (as := [.int p0]) dX7_readDays_81 mr_7_181 (by decide) (by decide) rfl (by simp [wds, Value.category]; decide) rfl (by decide) hk hw
theorem iX7_readDays_84 {x : Nat} {Ls st : List Value} {h : AH} : ev L xs mdX7_readDays 84 (.ref x :: Ls) (st) h = ev L xs mdX7_readDays 85 (.ref x :: Ls) (.ref x :: st) (h) := e_aload_n dX7_readDays_84 rfl
theorem iX7_readDays_85 {a : Nat} {Ls st : List Value} {h : AH} (hk : hK h a = 7) : ev L xs mdX7_readDays 85 (Ls) (.ref a :: st) h = ev L xs mdX7_readDays 88 (Ls) (.int (hI h 125 a) :: st) (h) := e_getI (k := 7) (f := 13) (F := 125) dX7_readDays_85 (by decide +kernel) rfl rfl hk
theorem iX7_readDays_88 {x : Int32} {Ls st : List Value} {h : AH} : ev L xs mdX7_readDays 88 Ls (.int x :: st) h = if nI 0 ≤ x then ev L xs mdX7_readDays 109 Ls st h else ev L xs mdX7_readDays 91 Ls st h := e_if_ge dX7_readDays_88 (by decide)
theorem iX7_readDays_91 {x : Nat} {Ls st : List Value} {h : AH} : ev L xs mdX7_readDays 91 (.ref x :: Ls) (st) h = ev L xs mdX7_readDays 92 (.ref x :: Ls) (.ref x :: st) (h) := e_aload_n dX7_readDays_91 rfl
theorem iX7_readDays_92 {a : Nat} {Ls st : List Value} {h : AH} (hk : hK h a = 7) : ev L xs mdX7_readDays 92 (Ls) (.ref a :: st) h = ev L xs mdX7_readDays 95 (Ls) (.int (hI h 126 a) :: st) (h) := e_getI (k := 7) (f := 14) (F := 126) dX7_readDays_92 (by decide +kernel) rfl rfl hk
theorem iX7_readDays_95  {Ls st : List Value} {h : AH} : ev L xs mdX7_readDays 95 (Ls) (st) h = ev L xs mdX7_readDays 96 (Ls) (.int (nI 1) :: st) (h) := e_iconst dX7_readDays_95 (by decide)
theorem iX7_readDays_96  {Ls st : List Value} {h : AH} : ev L xs mdX7_readDays 96 (Ls) (st) h = ev L xs mdX7_readDays 98 (Ls) (.int (nI 60) :: st) (h) := e_bipush dX7_readDays_96 (by decide)
theorem iX7_readDays_98 {p0 : Int32} {p1 : Int32} {p2 : Int32} {Ls st : List Value} {h : AH} (hw : wds st ≤ 8) : ev L xs mdX7_readDays 98 Ls (.int p2 :: .int p1 :: .int p0 :: st) h = kn L xs mdX7_readDays 98 101 Ls st (ev L xs mdX7_in 0 [.int p0, .int p1, .int p2] [] h) := e_callS (as := [.int p2, .int p1, .int p0]) dX7_readDays_98 mr_7_44 (by decide) (by decide) rfl (by simp [wds, Value.category]; decide) rfl hw
theorem iX7_readDays_101 {x : Int32} {Ls st : List Value} {h : AH} : ev L xs mdX7_readDays 101 Ls (.int x :: st) h = if x = nI 0 then ev L xs mdX7_readDays 104 Ls st h else ev L xs mdX7_readDays 109 Ls st h := e_if_ne dX7_readDays_101 (by decide)
theorem iX7_readDays_104 {x : Nat} {Ls st : List Value} {h : AH} : ev L xs mdX7_readDays 104 (.ref x :: Ls) (st) h = ev L xs mdX7_readDays 105 (.ref x :: Ls) (.ref x :: st) (h) := e_aload_n dX7_readDays_104 rfl
theorem iX7_readDays_105 {v0 : Value} {x : Int32} {Ls st : List Value} {h : AH} : ev L xs mdX7_readDays 105 (v0 :: .int x :: Ls) (st) h = ev L xs mdX7_readDays 106 (v0 :: .int x :: Ls) (.int x :: st) (h) := e_iload_n dX7_readDays_105 rfl
theorem iX7_readDays_106 {a : Nat} {p0 : Int32} {Ls st : List Value} {h : AH} (hk : hK h a = 7) (hw : wds st ≤ 8) : ev L xs mdX7_readDays 106 Ls (.int p0 :: .ref a :: st) h = kn L xs mdX7_readDays 106 109 Ls st (ev L xs mdX7_fail 0 [.ref a, .int p0] [] h) := e_callV (as := [.int p0]) dX7_readDays_106 mr_7_181 (by decide) (by decide) rfl (by simp [wds, Value.category]; decide) rfl (by decide) hk hw
theorem iX7_readDays_109 {Ls : List Value} {h : AH} : ev L xs mdX7_readDays 109 Ls [] h = some (.inl (none, h)) := e_vret dX7_readDays_109 rfl
theorem dX7_readDigit_0 : decode cX7_readDigit 0 = .ok (.aload_n 0, 1) := by decide +kernel
theorem dX7_readDigit_1 : decode cX7_readDigit 1 = .ok (.invokevirtual 171, 3) := by decide +kernel
theorem dX7_readDigit_4 : decode cX7_readDigit 4 = .ok (.bipush 48, 2) := by decide +kernel
theorem dX7_readDigit_6 : decode cX7_readDigit 6 = .ok (.isub, 1) := by decide +kernel
theorem dX7_readDigit_7 : decode cX7_readDigit 7 = .ok (.istore_n 2, 1) := by decide +kernel
theorem dX7_readDigit_8 : decode cX7_readDigit 8 = .ok (.aload_n 0, 1) := by decide +kernel
theorem dX7_readDigit_9 : decode cX7_readDigit 9 = .ok (.iload_n 1, 1) := by decide +kernel
theorem dX7_readDigit_10 : decode cX7_readDigit 10 = .ok (.invokevirtual 178, 3) := by decide +kernel
theorem dX7_readDigit_13 : decode cX7_readDigit 13 = .ok (.ifCond .ne 11, 3) := by decide +kernel
theorem dX7_readDigit_16 : decode cX7_readDigit 16 = .ok (.aload_n 0, 1) := by decide +kernel
theorem dX7_readDigit_17 : decode cX7_readDigit 17 = .ok (.aload_n 0, 1) := by decide +kernel
theorem dX7_readDigit_18 : decode cX7_readDigit 18 = .ok (.getfield 168, 3) := by decide +kernel
theorem dX7_readDigit_21 : decode cX7_readDigit 21 = .ok (.invokevirtual 181, 3) := by decide +kernel
theorem dX7_readDigit_24 : decode cX7_readDigit 24 = .ok (.aload_n 0, 1) := by decide +kernel
theorem dX7_readDigit_25 : decode cX7_readDigit 25 = .ok (.dup, 1) := by decide +kernel
theorem dX7_readDigit_26 : decode cX7_readDigit 26 = .ok (.getfield 168, 3) := by decide +kernel
theorem dX7_readDigit_29 : decode cX7_readDigit 29 = .ok (.iconst 1, 1) := by decide +kernel
theorem dX7_readDigit_30 : decode cX7_readDigit 30 = .ok (.iadd, 1) := by decide +kernel
theorem dX7_readDigit_31 : decode cX7_readDigit 31 = .ok (.putfield 168, 3) := by decide +kernel
theorem dX7_readDigit_34 : decode cX7_readDigit 34 = .ok (.iload_n 2, 1) := by decide +kernel
theorem dX7_readDigit_35 : decode cX7_readDigit 35 = .ok (.ireturn, 1) := by decide +kernel
theorem iX7_readDigit_0 {x : Nat} {Ls st : List Value} {h : AH} : ev L xs mdX7_readDigit 0 (.ref x :: Ls) (st) h = ev L xs mdX7_readDigit 1 (.ref x :: Ls) (.ref x :: st) (h) := e_aload_n dX7_readDigit_0 rfl
theorem iX7_readDigit_1 {a : Nat} {Ls st : List Value} {h : AH} (hk : hK h a = 7) (hw : wds st ≤ 8) : ev L xs mdX7_readDigit 1 Ls (.ref a :: st) h = kn L xs mdX7_readDigit 1 4 Ls st (ev L xs mdX7_here 0 [.ref a] [] h) := e_callV (as := []) dX7_readDigit_1 mr_7_171 (by decide) (by decide) rfl (by simp [wds, Value.category]; decide) rfl (by decide) hk hw
theorem iX7_readDigit_4  {Ls st : List Value} {h : AH} : ev L xs mdX7_readDigit 4 (Ls) (st) h = ev L xs mdX7_readDigit 6 (Ls) (.int (nI 48) :: st) (h) := e_bipush dX7_readDigit_4 (by decide)
theorem iX7_readDigit_6 {x z : Int32} {Ls st : List Value} {h : AH} : ev L xs mdX7_readDigit 6 (Ls) (.int z :: .int x :: st) h = ev L xs mdX7_readDigit 7 (Ls) (.int (x - z) :: st) (h) := e_isub dX7_readDigit_6
theorem iX7_readDigit_7 {v0 : Value} {v1 : Value} {v2 : Value} {x : Int32} {Ls st : List Value} {h : AH} (hc9 : v1.category = 1) : ev L xs mdX7_readDigit 7 (v0 :: v1 :: v2 :: Ls) (.int x :: st) h = ev L xs mdX7_readDigit 8 (v0 :: v1 :: .int x :: Ls) (st) (h) := e_istore_n dX7_readDigit_7 rfl (by decide) (by unfold catOK; show (_ || (v1.category == 1)) = true; rw [hc9]; rfl)
theorem iX7_readDigit_8 {x : Nat} {Ls st : List Value} {h : AH} : ev L xs mdX7_readDigit 8 (.ref x :: Ls) (st) h = ev L xs mdX7_readDigit 9 (.ref x :: Ls) (.ref x :: st) (h) := e_aload_n dX7_readDigit_8 rfl
theorem iX7_readDigit_9 {v0 : Value} {x : Int32} {Ls st : List Value} {h : AH} : ev L xs mdX7_readDigit 9 (v0 :: .int x :: Ls) (st) h = ev L xs mdX7_readDigit 10 (v0 :: .int x :: Ls) (.int x :: st) (h) := e_iload_n dX7_readDigit_9 rfl
theorem iX7_readDigit_10 {a : Nat} {p0 : Int32} {Ls st : List Value} {h : AH} (hk : hK h a = 7) (hw : wds st ≤ 8) : ev L xs mdX7_readDigit 10 Ls (.int p0 :: .ref a :: st) h = kn L xs mdX7_readDigit 10 13 Ls st (ev L xs mdX7_isDigit 0 [.ref a, .int p0] [] h) := e_callV (as := [.int p0]) dX7_readDigit_10 mr_7_178 (by decide) (by decide) rfl (by simp [wds, Value.category]; decide) rfl (by decide) hk hw
theorem iX7_readDigit_13 {x : Int32} {Ls st : List Value} {h : AH} : ev L xs mdX7_readDigit 13 Ls (.int x :: st) h = if x = nI 0 then ev L xs mdX7_readDigit 16 Ls st h else ev L xs mdX7_readDigit 24 Ls st h := e_if_ne dX7_readDigit_13 (by decide)
theorem iX7_readDigit_16 {x : Nat} {Ls st : List Value} {h : AH} : ev L xs mdX7_readDigit 16 (.ref x :: Ls) (st) h = ev L xs mdX7_readDigit 17 (.ref x :: Ls) (.ref x :: st) (h) := e_aload_n dX7_readDigit_16 rfl
theorem iX7_readDigit_17 {x : Nat} {Ls st : List Value} {h : AH} : ev L xs mdX7_readDigit 17 (.ref x :: Ls) (st) h = ev L xs mdX7_readDigit 18 (.ref x :: Ls) (.ref x :: st) (h) := e_aload_n dX7_readDigit_17 rfl
theorem iX7_readDigit_18 {a : Nat} {Ls st : List Value} {h : AH} (hk : hK h a = 7) : ev L xs mdX7_readDigit 18 (Ls) (.ref a :: st) h = ev L xs mdX7_readDigit 21 (Ls) (.int (hI h 124 a) :: st) (h) := e_getI (k := 7) (f := 12) (F := 124) dX7_readDigit_18 (by decide +kernel) rfl rfl hk
theorem iX7_readDigit_21 {a : Nat} {p0 : Int32} {Ls st : List Value} {h : AH} (hk : hK h a = 7) (hw : wds st ≤ 8) : ev L xs mdX7_readDigit 21 Ls (.int p0 :: .ref a :: st) h = kn L xs mdX7_readDigit 21 24 Ls st (ev L xs mdX7_fail 0 [.ref a, .int p0] [] h) := e_callV (as := [.int p0]) dX7_readDigit_21 mr_7_181 (by decide) (by decide) rfl (by simp [wds, Value.category]; decide) rfl (by decide) hk hw
theorem iX7_readDigit_24 {x : Nat} {Ls st : List Value} {h : AH} : ev L xs mdX7_readDigit 24 (.ref x :: Ls) (st) h = ev L xs mdX7_readDigit 25 (.ref x :: Ls) (.ref x :: st) (h) := e_aload_n dX7_readDigit_24 rfl
theorem iX7_readDigit_25 {a : Nat} {Ls st : List Value} {h : AH} : ev L xs mdX7_readDigit 25 (Ls) (.ref a :: st) h = ev L xs mdX7_readDigit 26 (Ls) (.ref a :: .ref a :: st) (h) := e_dup dX7_readDigit_25 rfl
theorem iX7_readDigit_25i {a : Int32} {Ls st : List Value} {h : AH} : ev L xs mdX7_readDigit 25 (Ls) (.int a :: st) h = ev L xs mdX7_readDigit 26 (Ls) (.int a :: .int a :: st) (h) := e_dup dX7_readDigit_25 rfl
theorem iX7_readDigit_26 {a : Nat} {Ls st : List Value} {h : AH} (hk : hK h a = 7) : ev L xs mdX7_readDigit 26 (Ls) (.ref a :: st) h = ev L xs mdX7_readDigit 29 (Ls) (.int (hI h 124 a) :: st) (h) := e_getI (k := 7) (f := 12) (F := 124) dX7_readDigit_26 (by decide +kernel) rfl rfl hk
theorem iX7_readDigit_29  {Ls st : List Value} {h : AH} : ev L xs mdX7_readDigit 29 (Ls) (st) h = ev L xs mdX7_readDigit 30 (Ls) (.int (nI 1) :: st) (h) := e_iconst dX7_readDigit_29 (by decide)
theorem iX7_readDigit_30 {x z : Int32} {Ls st : List Value} {h : AH} : ev L xs mdX7_readDigit 30 (Ls) (.int z :: .int x :: st) h = ev L xs mdX7_readDigit 31 (Ls) (.int (x + z) :: st) (h) := e_iadd dX7_readDigit_30
theorem iX7_readDigit_31 {a : Nat} {v : Int32} {Ls st : List Value} {h : AH} (hk : hK h a = 7) : ev L xs mdX7_readDigit 31 (Ls) (.int v :: .ref a :: st) h = ev L xs mdX7_readDigit 34 (Ls) (st) (sI h 124 a v) := e_putI (k := 7) (f := 12) (F := 124) dX7_readDigit_31 (by decide +kernel) rfl (by decide +kernel) rfl hk
theorem iX7_readDigit_34 {v0 : Value} {v1 : Value} {x : Int32} {Ls st : List Value} {h : AH} : ev L xs mdX7_readDigit 34 (v0 :: v1 :: .int x :: Ls) (st) h = ev L xs mdX7_readDigit 35 (v0 :: v1 :: .int x :: Ls) (.int x :: st) (h) := e_iload_n dX7_readDigit_34 rfl
theorem iX7_readDigit_35 {v : Int32} {Ls : List Value} {h : AH} : ev L xs mdX7_readDigit 35 Ls [.int v] h = some (.inl (some (.int v), h)) := e_iret dX7_readDigit_35 rfl
theorem dX7_readOrder_0 : decode cX7_readOrder 0 = .ok (.aload_n 0, 1) := by decide +kernel
theorem dX7_readOrder_1 : decode cX7_readOrder 1 = .ok (.invokevirtual 171, 3) := by decide +kernel
theorem dX7_readOrder_4 : decode cX7_readOrder 4 = .ok (.istore_n 1, 1) := by decide +kernel
theorem dX7_readOrder_5 : decode cX7_readOrder 5 = .ok (.iload_n 1, 1) := by decide +kernel
theorem dX7_readOrder_6 : decode cX7_readOrder 6 = .ok (.bipush 100, 2) := by decide +kernel
theorem dX7_readOrder_8 : decode cX7_readOrder 8 = .ok (.if_icmp .eq 23, 3) := by decide +kernel
theorem dX7_readOrder_11 : decode cX7_readOrder 11 = .ok (.iload_n 1, 1) := by decide +kernel
theorem dX7_readOrder_12 : decode cX7_readOrder 12 = .ok (.bipush 115, 2) := by decide +kernel
theorem dX7_readOrder_14 : decode cX7_readOrder 14 = .ok (.if_icmp .eq 17, 3) := by decide +kernel
theorem dX7_readOrder_17 : decode cX7_readOrder 17 = .ok (.iload_n 1, 1) := by decide +kernel
theorem dX7_readOrder_18 : decode cX7_readOrder 18 = .ok (.bipush 99, 2) := by decide +kernel
theorem dX7_readOrder_20 : decode cX7_readOrder 20 = .ok (.if_icmp .eq 11, 3) := by decide +kernel
theorem dX7_readOrder_23 : decode cX7_readOrder 23 = .ok (.aload_n 0, 1) := by decide +kernel
theorem dX7_readOrder_24 : decode cX7_readOrder 24 = .ok (.aload_n 0, 1) := by decide +kernel
theorem dX7_readOrder_25 : decode cX7_readOrder 25 = .ok (.getfield 168, 3) := by decide +kernel
theorem dX7_readOrder_28 : decode cX7_readOrder 28 = .ok (.invokevirtual 181, 3) := by decide +kernel
theorem dX7_readOrder_31 : decode cX7_readOrder 31 = .ok (.aload_n 0, 1) := by decide +kernel
theorem dX7_readOrder_32 : decode cX7_readOrder 32 = .ok (.dup, 1) := by decide +kernel
theorem dX7_readOrder_33 : decode cX7_readOrder 33 = .ok (.getfield 168, 3) := by decide +kernel
theorem dX7_readOrder_36 : decode cX7_readOrder 36 = .ok (.iconst 1, 1) := by decide +kernel
theorem dX7_readOrder_37 : decode cX7_readOrder 37 = .ok (.iadd, 1) := by decide +kernel
theorem dX7_readOrder_38 : decode cX7_readOrder 38 = .ok (.putfield 168, 3) := by decide +kernel
theorem dX7_readOrder_41 : decode cX7_readOrder 41 = .ok (.iload_n 1, 1) := by decide +kernel
theorem dX7_readOrder_42 : decode cX7_readOrder 42 = .ok (.ireturn, 1) := by decide +kernel
theorem iX7_readOrder_0 {x : Nat} {Ls st : List Value} {h : AH} : ev L xs mdX7_readOrder 0 (.ref x :: Ls) (st) h = ev L xs mdX7_readOrder 1 (.ref x :: Ls) (.ref x :: st) (h) := e_aload_n dX7_readOrder_0 rfl
theorem iX7_readOrder_1 {a : Nat} {Ls st : List Value} {h : AH} (hk : hK h a = 7) (hw : wds st ≤ 8) : ev L xs mdX7_readOrder 1 Ls (.ref a :: st) h = kn L xs mdX7_readOrder 1 4 Ls st (ev L xs mdX7_here 0 [.ref a] [] h) := e_callV (as := []) dX7_readOrder_1 mr_7_171 (by decide) (by decide) rfl (by simp [wds, Value.category]; decide) rfl (by decide) hk hw
theorem iX7_readOrder_4 {v0 : Value} {v1 : Value} {x : Int32} {Ls st : List Value} {h : AH} (hc9 : v0.category = 1) : ev L xs mdX7_readOrder 4 (v0 :: v1 :: Ls) (.int x :: st) h = ev L xs mdX7_readOrder 5 (v0 :: .int x :: Ls) (st) (h) := e_istore_n dX7_readOrder_4 rfl (by decide) (by unfold catOK; show (_ || (v0.category == 1)) = true; rw [hc9]; rfl)
theorem iX7_readOrder_5 {v0 : Value} {x : Int32} {Ls st : List Value} {h : AH} : ev L xs mdX7_readOrder 5 (v0 :: .int x :: Ls) (st) h = ev L xs mdX7_readOrder 6 (v0 :: .int x :: Ls) (.int x :: st) (h) := e_iload_n dX7_readOrder_5 rfl
theorem iX7_readOrder_6  {Ls st : List Value} {h : AH} : ev L xs mdX7_readOrder 6 (Ls) (st) h = ev L xs mdX7_readOrder 8 (Ls) (.int (nI 100) :: st) (h) := e_bipush dX7_readOrder_6 (by decide)
theorem iX7_readOrder_8 {x z : Int32} {Ls st : List Value} {h : AH} : ev L xs mdX7_readOrder 8 Ls (.int z :: .int x :: st) h = if x = z then ev L xs mdX7_readOrder 31 Ls st h else ev L xs mdX7_readOrder 11 Ls st h := e_ic_eq dX7_readOrder_8 (by decide)
theorem iX7_readOrder_11 {v0 : Value} {x : Int32} {Ls st : List Value} {h : AH} : ev L xs mdX7_readOrder 11 (v0 :: .int x :: Ls) (st) h = ev L xs mdX7_readOrder 12 (v0 :: .int x :: Ls) (.int x :: st) (h) := e_iload_n dX7_readOrder_11 rfl
theorem iX7_readOrder_12  {Ls st : List Value} {h : AH} : ev L xs mdX7_readOrder 12 (Ls) (st) h = ev L xs mdX7_readOrder 14 (Ls) (.int (nI 115) :: st) (h) := e_bipush dX7_readOrder_12 (by decide)
theorem iX7_readOrder_14 {x z : Int32} {Ls st : List Value} {h : AH} : ev L xs mdX7_readOrder 14 Ls (.int z :: .int x :: st) h = if x = z then ev L xs mdX7_readOrder 31 Ls st h else ev L xs mdX7_readOrder 17 Ls st h := e_ic_eq dX7_readOrder_14 (by decide)
theorem iX7_readOrder_17 {v0 : Value} {x : Int32} {Ls st : List Value} {h : AH} : ev L xs mdX7_readOrder 17 (v0 :: .int x :: Ls) (st) h = ev L xs mdX7_readOrder 18 (v0 :: .int x :: Ls) (.int x :: st) (h) := e_iload_n dX7_readOrder_17 rfl
theorem iX7_readOrder_18  {Ls st : List Value} {h : AH} : ev L xs mdX7_readOrder 18 (Ls) (st) h = ev L xs mdX7_readOrder 20 (Ls) (.int (nI 99) :: st) (h) := e_bipush dX7_readOrder_18 (by decide)
theorem iX7_readOrder_20 {x z : Int32} {Ls st : List Value} {h : AH} : ev L xs mdX7_readOrder 20 Ls (.int z :: .int x :: st) h = if x = z then ev L xs mdX7_readOrder 31 Ls st h else ev L xs mdX7_readOrder 23 Ls st h := e_ic_eq dX7_readOrder_20 (by decide)
theorem iX7_readOrder_23 {x : Nat} {Ls st : List Value} {h : AH} : ev L xs mdX7_readOrder 23 (.ref x :: Ls) (st) h = ev L xs mdX7_readOrder 24 (.ref x :: Ls) (.ref x :: st) (h) := e_aload_n dX7_readOrder_23 rfl
theorem iX7_readOrder_24 {x : Nat} {Ls st : List Value} {h : AH} : ev L xs mdX7_readOrder 24 (.ref x :: Ls) (st) h = ev L xs mdX7_readOrder 25 (.ref x :: Ls) (.ref x :: st) (h) := e_aload_n dX7_readOrder_24 rfl
theorem iX7_readOrder_25 {a : Nat} {Ls st : List Value} {h : AH} (hk : hK h a = 7) : ev L xs mdX7_readOrder 25 (Ls) (.ref a :: st) h = ev L xs mdX7_readOrder 28 (Ls) (.int (hI h 124 a) :: st) (h) := e_getI (k := 7) (f := 12) (F := 124) dX7_readOrder_25 (by decide +kernel) rfl rfl hk
theorem iX7_readOrder_28 {a : Nat} {p0 : Int32} {Ls st : List Value} {h : AH} (hk : hK h a = 7) (hw : wds st ≤ 8) : ev L xs mdX7_readOrder 28 Ls (.int p0 :: .ref a :: st) h = kn L xs mdX7_readOrder 28 31 Ls st (ev L xs mdX7_fail 0 [.ref a, .int p0] [] h) := e_callV (as := [.int p0]) dX7_readOrder_28 mr_7_181 (by decide) (by decide) rfl (by simp [wds, Value.category]; decide) rfl (by decide) hk hw
theorem iX7_readOrder_31 {x : Nat} {Ls st : List Value} {h : AH} : ev L xs mdX7_readOrder 31 (.ref x :: Ls) (st) h = ev L xs mdX7_readOrder 32 (.ref x :: Ls) (.ref x :: st) (h) := e_aload_n dX7_readOrder_31 rfl
theorem iX7_readOrder_32 {a : Nat} {Ls st : List Value} {h : AH} : ev L xs mdX7_readOrder 32 (Ls) (.ref a :: st) h = ev L xs mdX7_readOrder 33 (Ls) (.ref a :: .ref a :: st) (h) := e_dup dX7_readOrder_32 rfl
theorem iX7_readOrder_32i {a : Int32} {Ls st : List Value} {h : AH} : ev L xs mdX7_readOrder 32 (Ls) (.int a :: st) h = ev L xs mdX7_readOrder 33 (Ls) (.int a :: .int a :: st) (h) := e_dup dX7_readOrder_32 rfl
theorem iX7_readOrder_33 {a : Nat} {Ls st : List Value} {h : AH} (hk : hK h a = 7) : ev L xs mdX7_readOrder 33 (Ls) (.ref a :: st) h = ev L xs mdX7_readOrder 36 (Ls) (.int (hI h 124 a) :: st) (h) := e_getI (k := 7) (f := 12) (F := 124) dX7_readOrder_33 (by decide +kernel) rfl rfl hk
theorem iX7_readOrder_36  {Ls st : List Value} {h : AH} : ev L xs mdX7_readOrder 36 (Ls) (st) h = ev L xs mdX7_readOrder 37 (Ls) (.int (nI 1) :: st) (h) := e_iconst dX7_readOrder_36 (by decide)
theorem iX7_readOrder_37 {x z : Int32} {Ls st : List Value} {h : AH} : ev L xs mdX7_readOrder 37 (Ls) (.int z :: .int x :: st) h = ev L xs mdX7_readOrder 38 (Ls) (.int (x + z) :: st) (h) := e_iadd dX7_readOrder_37
theorem iX7_readOrder_38 {a : Nat} {v : Int32} {Ls st : List Value} {h : AH} (hk : hK h a = 7) : ev L xs mdX7_readOrder 38 (Ls) (.int v :: .ref a :: st) h = ev L xs mdX7_readOrder 41 (Ls) (st) (sI h 124 a v) := e_putI (k := 7) (f := 12) (F := 124) dX7_readOrder_38 (by decide +kernel) rfl (by decide +kernel) rfl hk
theorem iX7_readOrder_41 {v0 : Value} {x : Int32} {Ls st : List Value} {h : AH} : ev L xs mdX7_readOrder 41 (v0 :: .int x :: Ls) (st) h = ev L xs mdX7_readOrder 42 (v0 :: .int x :: Ls) (.int x :: st) (h) := e_iload_n dX7_readOrder_41 rfl
theorem iX7_readOrder_42 {v : Int32} {Ls : List Value} {h : AH} : ev L xs mdX7_readOrder 42 Ls [.int v] h = some (.inl (some (.int v), h)) := e_iret dX7_readOrder_42 rfl
theorem dX7_readRest_0 : decode cX7_readRest 0 = .ok (.iconst 0, 1) := by decide +kernel
theorem dX7_readRest_1 : decode cX7_readRest 1 = .ok (.istore_n 2, 1) := by decide +kernel
theorem dX7_readRest_2 : decode cX7_readRest 2 = .ok (.aload_n 0, 1) := by decide +kernel
theorem dX7_readRest_3 : decode cX7_readRest 3 = .ok (.getfield 175, 3) := by decide +kernel
theorem dX7_readRest_6 : decode cX7_readRest 6 = .ok (.ifCond .ge 29, 3) := by decide +kernel
theorem dX7_readRest_9 : decode cX7_readRest 9 = .ok (.iload_n 1, 1) := by decide +kernel
theorem dX7_readRest_10 : decode cX7_readRest 10 = .ok (.bipush 115, 2) := by decide +kernel
theorem dX7_readRest_12 : decode cX7_readRest 12 = .ok (.if_icmp .ne 23, 3) := by decide +kernel
theorem dX7_readRest_15 : decode cX7_readRest 15 = .ok (.aload_n 0, 1) := by decide +kernel
theorem dX7_readRest_16 : decode cX7_readRest 16 = .ok (.bipush 57, 2) := by decide +kernel
theorem dX7_readRest_18 : decode cX7_readRest 18 = .ok (.invokevirtual 185, 3) := by decide +kernel
theorem dX7_readRest_21 : decode cX7_readRest 21 = .ok (.istore_n 2, 1) := by decide +kernel
theorem dX7_readRest_22 : decode cX7_readRest 22 = .ok (.aload_n 0, 1) := by decide +kernel
theorem dX7_readRest_23 : decode cX7_readRest 23 = .ok (.getfield 175, 3) := by decide +kernel
theorem dX7_readRest_26 : decode cX7_readRest 26 = .ok (.ifCond .ge 9, 3) := by decide +kernel
theorem dX7_readRest_29 : decode cX7_readRest 29 = .ok (.aload_n 0, 1) := by decide +kernel
theorem dX7_readRest_30 : decode cX7_readRest 30 = .ok (.bipush 44, 2) := by decide +kernel
theorem dX7_readRest_32 : decode cX7_readRest 32 = .ok (.invokevirtual 191, 3) := by decide +kernel
theorem dX7_readRest_35 : decode cX7_readRest 35 = .ok (.aload_n 0, 1) := by decide +kernel
theorem dX7_readRest_36 : decode cX7_readRest 36 = .ok (.getfield 175, 3) := by decide +kernel
theorem dX7_readRest_39 : decode cX7_readRest 39 = .ok (.ifCond .ge 16, 3) := by decide +kernel
theorem dX7_readRest_42 : decode cX7_readRest 42 = .ok (.iload_n 1, 1) := by decide +kernel
theorem dX7_readRest_43 : decode cX7_readRest 43 = .ok (.bipush 99, 2) := by decide +kernel
theorem dX7_readRest_45 : decode cX7_readRest 45 = .ok (.if_icmp .ne 10, 3) := by decide +kernel
theorem dX7_readRest_48 : decode cX7_readRest 48 = .ok (.aload_n 0, 1) := by decide +kernel
theorem dX7_readRest_49 : decode cX7_readRest 49 = .ok (.bipush 55, 2) := by decide +kernel
theorem dX7_readRest_51 : decode cX7_readRest 51 = .ok (.invokevirtual 185, 3) := by decide +kernel
theorem dX7_readRest_54 : decode cX7_readRest 54 = .ok (.istore_n 2, 1) := by decide +kernel
theorem dX7_readRest_55 : decode cX7_readRest 55 = .ok (.aload_n 0, 1) := by decide +kernel
theorem dX7_readRest_56 : decode cX7_readRest 56 = .ok (.getfield 175, 3) := by decide +kernel
theorem dX7_readRest_59 : decode cX7_readRest 59 = .ok (.ifCond .ge 13, 3) := by decide +kernel
theorem dX7_readRest_62 : decode cX7_readRest 62 = .ok (.iload_n 1, 1) := by decide +kernel
theorem dX7_readRest_63 : decode cX7_readRest 63 = .ok (.bipush 99, 2) := by decide +kernel
theorem dX7_readRest_65 : decode cX7_readRest 65 = .ok (.if_icmp .eq 7, 3) := by decide +kernel
theorem dX7_readRest_68 : decode cX7_readRest 68 = .ok (.aload_n 0, 1) := by decide +kernel
theorem dX7_readRest_69 : decode cX7_readRest 69 = .ok (.invokevirtual 194, 3) := by decide +kernel
theorem dX7_readRest_72 : decode cX7_readRest 72 = .ok (.aload_n 0, 1) := by decide +kernel
theorem dX7_readRest_73 : decode cX7_readRest 73 = .ok (.getfield 175, 3) := by decide +kernel
theorem dX7_readRest_76 : decode cX7_readRest 76 = .ok (.ifCond .ge 9, 3) := by decide +kernel
theorem dX7_readRest_79 : decode cX7_readRest 79 = .ok (.aload_n 0, 1) := by decide +kernel
theorem dX7_readRest_80 : decode cX7_readRest 80 = .ok (.bipush 59, 2) := by decide +kernel
theorem dX7_readRest_82 : decode cX7_readRest 82 = .ok (.invokevirtual 191, 3) := by decide +kernel
theorem dX7_readRest_85 : decode cX7_readRest 85 = .ok (.iload_n 2, 1) := by decide +kernel
theorem dX7_readRest_86 : decode cX7_readRest 86 = .ok (.ireturn, 1) := by decide +kernel
theorem iX7_readRest_0  {Ls st : List Value} {h : AH} : ev L xs mdX7_readRest 0 (Ls) (st) h = ev L xs mdX7_readRest 1 (Ls) (.int (nI 0) :: st) (h) := e_iconst dX7_readRest_0 (by decide)
theorem iX7_readRest_1 {v0 : Value} {v1 : Value} {v2 : Value} {x : Int32} {Ls st : List Value} {h : AH} (hc9 : v1.category = 1) : ev L xs mdX7_readRest 1 (v0 :: v1 :: v2 :: Ls) (.int x :: st) h = ev L xs mdX7_readRest 2 (v0 :: v1 :: .int x :: Ls) (st) (h) := e_istore_n dX7_readRest_1 rfl (by decide) (by unfold catOK; show (_ || (v1.category == 1)) = true; rw [hc9]; rfl)
theorem iX7_readRest_2 {x : Nat} {Ls st : List Value} {h : AH} : ev L xs mdX7_readRest 2 (.ref x :: Ls) (st) h = ev L xs mdX7_readRest 3 (.ref x :: Ls) (.ref x :: st) (h) := e_aload_n dX7_readRest_2 rfl
theorem iX7_readRest_3 {a : Nat} {Ls st : List Value} {h : AH} (hk : hK h a = 7) : ev L xs mdX7_readRest 3 (Ls) (.ref a :: st) h = ev L xs mdX7_readRest 6 (Ls) (.int (hI h 125 a) :: st) (h) := e_getI (k := 7) (f := 13) (F := 125) dX7_readRest_3 (by decide +kernel) rfl rfl hk
theorem iX7_readRest_6 {x : Int32} {Ls st : List Value} {h : AH} : ev L xs mdX7_readRest 6 Ls (.int x :: st) h = if nI 0 ≤ x then ev L xs mdX7_readRest 35 Ls st h else ev L xs mdX7_readRest 9 Ls st h := e_if_ge dX7_readRest_6 (by decide)
theorem iX7_readRest_9 {v0 : Value} {x : Int32} {Ls st : List Value} {h : AH} : ev L xs mdX7_readRest 9 (v0 :: .int x :: Ls) (st) h = ev L xs mdX7_readRest 10 (v0 :: .int x :: Ls) (.int x :: st) (h) := e_iload_n dX7_readRest_9 rfl
theorem iX7_readRest_10  {Ls st : List Value} {h : AH} : ev L xs mdX7_readRest 10 (Ls) (st) h = ev L xs mdX7_readRest 12 (Ls) (.int (nI 115) :: st) (h) := e_bipush dX7_readRest_10 (by decide)
theorem iX7_readRest_12 {x z : Int32} {Ls st : List Value} {h : AH} : ev L xs mdX7_readRest 12 Ls (.int z :: .int x :: st) h = if x = z then ev L xs mdX7_readRest 15 Ls st h else ev L xs mdX7_readRest 35 Ls st h := e_ic_ne dX7_readRest_12 (by decide)
theorem iX7_readRest_15 {x : Nat} {Ls st : List Value} {h : AH} : ev L xs mdX7_readRest 15 (.ref x :: Ls) (st) h = ev L xs mdX7_readRest 16 (.ref x :: Ls) (.ref x :: st) (h) := e_aload_n dX7_readRest_15 rfl
theorem iX7_readRest_16  {Ls st : List Value} {h : AH} : ev L xs mdX7_readRest 16 (Ls) (st) h = ev L xs mdX7_readRest 18 (Ls) (.int (nI 57) :: st) (h) := e_bipush dX7_readRest_16 (by decide)
theorem iX7_readRest_18 {a : Nat} {p0 : Int32} {Ls st : List Value} {h : AH} (hk : hK h a = 7) (hw : wds st ≤ 8) : ev L xs mdX7_readRest 18 Ls (.int p0 :: .ref a :: st) h = kn L xs mdX7_readRest 18 21 Ls st (ev L xs mdX7_readDigit 0 [.ref a, .int p0, .null] [] h) := e_callV (as := [.int p0]) dX7_readRest_18 mr_7_185 (by decide) (by decide) rfl (by simp [wds, Value.category]; decide) rfl (by decide) hk hw
theorem iX7_readRest_21 {v0 : Value} {v1 : Value} {v2 : Value} {x : Int32} {Ls st : List Value} {h : AH} (hc9 : v1.category = 1) : ev L xs mdX7_readRest 21 (v0 :: v1 :: v2 :: Ls) (.int x :: st) h = ev L xs mdX7_readRest 22 (v0 :: v1 :: .int x :: Ls) (st) (h) := e_istore_n dX7_readRest_21 rfl (by decide) (by unfold catOK; show (_ || (v1.category == 1)) = true; rw [hc9]; rfl)
theorem iX7_readRest_22 {x : Nat} {Ls st : List Value} {h : AH} : ev L xs mdX7_readRest 22 (.ref x :: Ls) (st) h = ev L xs mdX7_readRest 23 (.ref x :: Ls) (.ref x :: st) (h) := e_aload_n dX7_readRest_22 rfl
theorem iX7_readRest_23 {a : Nat} {Ls st : List Value} {h : AH} (hk : hK h a = 7) : ev L xs mdX7_readRest 23 (Ls) (.ref a :: st) h = ev L xs mdX7_readRest 26 (Ls) (.int (hI h 125 a) :: st) (h) := e_getI (k := 7) (f := 13) (F := 125) dX7_readRest_23 (by decide +kernel) rfl rfl hk
theorem iX7_readRest_26 {x : Int32} {Ls st : List Value} {h : AH} : ev L xs mdX7_readRest 26 Ls (.int x :: st) h = if nI 0 ≤ x then ev L xs mdX7_readRest 35 Ls st h else ev L xs mdX7_readRest 29 Ls st h := e_if_ge dX7_readRest_26 (by decide)
theorem iX7_readRest_29 {x : Nat} {Ls st : List Value} {h : AH} : ev L xs mdX7_readRest 29 (.ref x :: Ls) (st) h = ev L xs mdX7_readRest 30 (.ref x :: Ls) (.ref x :: st) (h) := e_aload_n dX7_readRest_29 rfl
theorem iX7_readRest_30  {Ls st : List Value} {h : AH} : ev L xs mdX7_readRest 30 (Ls) (st) h = ev L xs mdX7_readRest 32 (Ls) (.int (nI 44) :: st) (h) := e_bipush dX7_readRest_30 (by decide)
theorem iX7_readRest_32 {a : Nat} {p0 : Int32} {Ls st : List Value} {h : AH} (hk : hK h a = 7) (hw : wds st ≤ 8) : ev L xs mdX7_readRest 32 Ls (.int p0 :: .ref a :: st) h = kn L xs mdX7_readRest 32 35 Ls st (ev L xs mdX7_expect 0 [.ref a, .int p0] [] h) := e_callV (as := [.int p0]) dX7_readRest_32 mr_7_191 (by decide) (by decide) rfl (by simp [wds, Value.category]; decide) rfl (by decide) hk hw
theorem iX7_readRest_35 {x : Nat} {Ls st : List Value} {h : AH} : ev L xs mdX7_readRest 35 (.ref x :: Ls) (st) h = ev L xs mdX7_readRest 36 (.ref x :: Ls) (.ref x :: st) (h) := e_aload_n dX7_readRest_35 rfl
theorem iX7_readRest_36 {a : Nat} {Ls st : List Value} {h : AH} (hk : hK h a = 7) : ev L xs mdX7_readRest 36 (Ls) (.ref a :: st) h = ev L xs mdX7_readRest 39 (Ls) (.int (hI h 125 a) :: st) (h) := e_getI (k := 7) (f := 13) (F := 125) dX7_readRest_36 (by decide +kernel) rfl rfl hk
theorem iX7_readRest_39 {x : Int32} {Ls st : List Value} {h : AH} : ev L xs mdX7_readRest 39 Ls (.int x :: st) h = if nI 0 ≤ x then ev L xs mdX7_readRest 55 Ls st h else ev L xs mdX7_readRest 42 Ls st h := e_if_ge dX7_readRest_39 (by decide)
theorem iX7_readRest_42 {v0 : Value} {x : Int32} {Ls st : List Value} {h : AH} : ev L xs mdX7_readRest 42 (v0 :: .int x :: Ls) (st) h = ev L xs mdX7_readRest 43 (v0 :: .int x :: Ls) (.int x :: st) (h) := e_iload_n dX7_readRest_42 rfl
theorem iX7_readRest_43  {Ls st : List Value} {h : AH} : ev L xs mdX7_readRest 43 (Ls) (st) h = ev L xs mdX7_readRest 45 (Ls) (.int (nI 99) :: st) (h) := e_bipush dX7_readRest_43 (by decide)
theorem iX7_readRest_45 {x z : Int32} {Ls st : List Value} {h : AH} : ev L xs mdX7_readRest 45 Ls (.int z :: .int x :: st) h = if x = z then ev L xs mdX7_readRest 48 Ls st h else ev L xs mdX7_readRest 55 Ls st h := e_ic_ne dX7_readRest_45 (by decide)
theorem iX7_readRest_48 {x : Nat} {Ls st : List Value} {h : AH} : ev L xs mdX7_readRest 48 (.ref x :: Ls) (st) h = ev L xs mdX7_readRest 49 (.ref x :: Ls) (.ref x :: st) (h) := e_aload_n dX7_readRest_48 rfl
theorem iX7_readRest_49  {Ls st : List Value} {h : AH} : ev L xs mdX7_readRest 49 (Ls) (st) h = ev L xs mdX7_readRest 51 (Ls) (.int (nI 55) :: st) (h) := e_bipush dX7_readRest_49 (by decide)
theorem iX7_readRest_51 {a : Nat} {p0 : Int32} {Ls st : List Value} {h : AH} (hk : hK h a = 7) (hw : wds st ≤ 8) : ev L xs mdX7_readRest 51 Ls (.int p0 :: .ref a :: st) h = kn L xs mdX7_readRest 51 54 Ls st (ev L xs mdX7_readDigit 0 [.ref a, .int p0, .null] [] h) := e_callV (as := [.int p0]) dX7_readRest_51 mr_7_185 (by decide) (by decide) rfl (by simp [wds, Value.category]; decide) rfl (by decide) hk hw
theorem iX7_readRest_54 {v0 : Value} {v1 : Value} {v2 : Value} {x : Int32} {Ls st : List Value} {h : AH} (hc9 : v1.category = 1) : ev L xs mdX7_readRest 54 (v0 :: v1 :: v2 :: Ls) (.int x :: st) h = ev L xs mdX7_readRest 55 (v0 :: v1 :: .int x :: Ls) (st) (h) := e_istore_n dX7_readRest_54 rfl (by decide) (by unfold catOK; show (_ || (v1.category == 1)) = true; rw [hc9]; rfl)
theorem iX7_readRest_55 {x : Nat} {Ls st : List Value} {h : AH} : ev L xs mdX7_readRest 55 (.ref x :: Ls) (st) h = ev L xs mdX7_readRest 56 (.ref x :: Ls) (.ref x :: st) (h) := e_aload_n dX7_readRest_55 rfl
theorem iX7_readRest_56 {a : Nat} {Ls st : List Value} {h : AH} (hk : hK h a = 7) : ev L xs mdX7_readRest 56 (Ls) (.ref a :: st) h = ev L xs mdX7_readRest 59 (Ls) (.int (hI h 125 a) :: st) (h) := e_getI (k := 7) (f := 13) (F := 125) dX7_readRest_56 (by decide +kernel) rfl rfl hk
theorem iX7_readRest_59 {x : Int32} {Ls st : List Value} {h : AH} : ev L xs mdX7_readRest 59 Ls (.int x :: st) h = if nI 0 ≤ x then ev L xs mdX7_readRest 72 Ls st h else ev L xs mdX7_readRest 62 Ls st h := e_if_ge dX7_readRest_59 (by decide)
theorem iX7_readRest_62 {v0 : Value} {x : Int32} {Ls st : List Value} {h : AH} : ev L xs mdX7_readRest 62 (v0 :: .int x :: Ls) (st) h = ev L xs mdX7_readRest 63 (v0 :: .int x :: Ls) (.int x :: st) (h) := e_iload_n dX7_readRest_62 rfl
theorem iX7_readRest_63  {Ls st : List Value} {h : AH} : ev L xs mdX7_readRest 63 (Ls) (st) h = ev L xs mdX7_readRest 65 (Ls) (.int (nI 99) :: st) (h) := e_bipush dX7_readRest_63 (by decide)
theorem iX7_readRest_65 {x z : Int32} {Ls st : List Value} {h : AH} : ev L xs mdX7_readRest 65 Ls (.int z :: .int x :: st) h = if x = z then ev L xs mdX7_readRest 72 Ls st h else ev L xs mdX7_readRest 68 Ls st h := e_ic_eq dX7_readRest_65 (by decide)
theorem iX7_readRest_68 {x : Nat} {Ls st : List Value} {h : AH} : ev L xs mdX7_readRest 68 (.ref x :: Ls) (st) h = ev L xs mdX7_readRest 69 (.ref x :: Ls) (.ref x :: st) (h) := e_aload_n dX7_readRest_68 rfl
theorem iX7_readRest_69 {a : Nat} {Ls st : List Value} {h : AH} (hk : hK h a = 7) (hw : wds st ≤ 8) : ev L xs mdX7_readRest 69 Ls (.ref a :: st) h = kn L xs mdX7_readRest 69 72 Ls st (ev L xs mdX7_readDays 0 [.ref a, .null] [] h) := e_callV (as := []) dX7_readRest_69 mr_7_194 (by decide) (by decide) rfl (by simp [wds, Value.category]; decide) rfl (by decide) hk hw
theorem iX7_readRest_72 {x : Nat} {Ls st : List Value} {h : AH} : ev L xs mdX7_readRest 72 (.ref x :: Ls) (st) h = ev L xs mdX7_readRest 73 (.ref x :: Ls) (.ref x :: st) (h) := e_aload_n dX7_readRest_72 rfl
theorem iX7_readRest_73 {a : Nat} {Ls st : List Value} {h : AH} (hk : hK h a = 7) : ev L xs mdX7_readRest 73 (Ls) (.ref a :: st) h = ev L xs mdX7_readRest 76 (Ls) (.int (hI h 125 a) :: st) (h) := e_getI (k := 7) (f := 13) (F := 125) dX7_readRest_73 (by decide +kernel) rfl rfl hk
theorem iX7_readRest_76 {x : Int32} {Ls st : List Value} {h : AH} : ev L xs mdX7_readRest 76 Ls (.int x :: st) h = if nI 0 ≤ x then ev L xs mdX7_readRest 85 Ls st h else ev L xs mdX7_readRest 79 Ls st h := e_if_ge dX7_readRest_76 (by decide)
theorem iX7_readRest_79 {x : Nat} {Ls st : List Value} {h : AH} : ev L xs mdX7_readRest 79 (.ref x :: Ls) (st) h = ev L xs mdX7_readRest 80 (.ref x :: Ls) (.ref x :: st) (h) := e_aload_n dX7_readRest_79 rfl
theorem iX7_readRest_80  {Ls st : List Value} {h : AH} : ev L xs mdX7_readRest 80 (Ls) (st) h = ev L xs mdX7_readRest 82 (Ls) (.int (nI 59) :: st) (h) := e_bipush dX7_readRest_80 (by decide)
theorem iX7_readRest_82 {a : Nat} {p0 : Int32} {Ls st : List Value} {h : AH} (hk : hK h a = 7) (hw : wds st ≤ 8) : ev L xs mdX7_readRest 82 Ls (.int p0 :: .ref a :: st) h = kn L xs mdX7_readRest 82 85 Ls st (ev L xs mdX7_expect 0 [.ref a, .int p0] [] h) := e_callV (as := [.int p0]) dX7_readRest_82 mr_7_191 (by decide) (by decide) rfl (by simp [wds, Value.category]; decide) rfl (by decide) hk hw
theorem iX7_readRest_85 {v0 : Value} {v1 : Value} {x : Int32} {Ls st : List Value} {h : AH} : ev L xs mdX7_readRest 85 (v0 :: v1 :: .int x :: Ls) (st) h = ev L xs mdX7_readRest 86 (v0 :: v1 :: .int x :: Ls) (.int x :: st) (h) := e_iload_n dX7_readRest_85 rfl
theorem iX7_readRest_86 {v : Int32} {Ls : List Value} {h : AH} : ev L xs mdX7_readRest 86 Ls [.int v] h = some (.inl (some (.int v), h)) := e_iret dX7_readRest_86 rfl
theorem dX7_reasonOn_0 : decode cX7_reasonOn 0 = .ok (.iconst 1, 1) := by decide +kernel
theorem dX7_reasonOn_1 : decode cX7_reasonOn 1 = .ok (.istore_n 3, 1) := by decide +kernel
theorem dX7_reasonOn_2 : decode cX7_reasonOn 2 = .ok (.iconst 1, 1) := by decide +kernel
theorem dX7_reasonOn_3 : decode cX7_reasonOn 3 = .ok (.istore 4, 2) := by decide +kernel
theorem dX7_reasonOn_5 : decode cX7_reasonOn 5 = .ok (.iconst 0, 1) := by decide +kernel
theorem dX7_reasonOn_6 : decode cX7_reasonOn 6 = .ok (.istore 5, 2) := by decide +kernel
theorem dX7_reasonOn_8 : decode cX7_reasonOn 8 = .ok (.iload 5, 2) := by decide +kernel
theorem dX7_reasonOn_10 : decode cX7_reasonOn 10 = .ok (.aload_n 1, 1) := by decide +kernel
theorem dX7_reasonOn_11 : decode cX7_reasonOn 11 = .ok (.iconst 4, 1) := by decide +kernel
theorem dX7_reasonOn_12 : decode cX7_reasonOn 12 = .ok (.iaload, 1) := by decide +kernel
theorem dX7_reasonOn_13 : decode cX7_reasonOn 13 = .ok (.if_icmp .ge 70, 3) := by decide +kernel
theorem dX7_reasonOn_16 : decode cX7_reasonOn 16 = .ok (.aload_n 0, 1) := by decide +kernel
theorem dX7_reasonOn_17 : decode cX7_reasonOn 17 = .ok (.aload_n 1, 1) := by decide +kernel
theorem dX7_reasonOn_18 : decode cX7_reasonOn 18 = .ok (.iload 5, 2) := by decide +kernel
theorem dX7_reasonOn_20 : decode cX7_reasonOn 20 = .ok (.iload_n 2, 1) := by decide +kernel
theorem dX7_reasonOn_21 : decode cX7_reasonOn 21 = .ok (.invokevirtual 59, 3) := by decide +kernel
theorem dX7_reasonOn_24 : decode cX7_reasonOn 24 = .ok (.ifCond .ne 7, 3) := by decide +kernel
theorem dX7_reasonOn_27 : decode cX7_reasonOn 27 = .ok (.iconst 1, 1) := by decide +kernel
theorem dX7_reasonOn_28 : decode cX7_reasonOn 28 = .ok (.goto 4, 3) := by decide +kernel
theorem dX7_reasonOn_31 : decode cX7_reasonOn 31 = .ok (.iconst 0, 1) := by decide +kernel
theorem dX7_reasonOn_32 : decode cX7_reasonOn 32 = .ok (.istore 6, 2) := by decide +kernel
theorem dX7_reasonOn_34 : decode cX7_reasonOn 34 = .ok (.iload_n 3, 1) := by decide +kernel
theorem dX7_reasonOn_35 : decode cX7_reasonOn 35 = .ok (.ifCond .eq 12, 3) := by decide +kernel
theorem dX7_reasonOn_38 : decode cX7_reasonOn 38 = .ok (.iload 6, 2) := by decide +kernel
theorem dX7_reasonOn_40 : decode cX7_reasonOn 40 = .ok (.ifCond .ne 7, 3) := by decide +kernel
theorem dX7_reasonOn_43 : decode cX7_reasonOn 43 = .ok (.iconst 1, 1) := by decide +kernel
theorem dX7_reasonOn_44 : decode cX7_reasonOn 44 = .ok (.goto 4, 3) := by decide +kernel
theorem dX7_reasonOn_47 : decode cX7_reasonOn 47 = .ok (.iconst 0, 1) := by decide +kernel
theorem dX7_reasonOn_48 : decode cX7_reasonOn 48 = .ok (.istore_n 3, 1) := by decide +kernel
theorem dX7_reasonOn_49 : decode cX7_reasonOn 49 = .ok (.iload 4, 2) := by decide +kernel
theorem dX7_reasonOn_51 : decode cX7_reasonOn 51 = .ok (.ifCond .eq 23, 3) := by decide +kernel
theorem dX7_reasonOn_54 : decode cX7_reasonOn 54 = .ok (.iload 6, 2) := by decide +kernel
theorem dX7_reasonOn_56 : decode cX7_reasonOn 56 = .ok (.ifCond .eq 14, 3) := by decide +kernel
theorem dX7_reasonOn_59 : decode cX7_reasonOn 59 = .ok (.aload_n 0, 1) := by decide +kernel
theorem dX7_reasonOn_60 : decode cX7_reasonOn 60 = .ok (.getfield 28, 3) := by decide +kernel
theorem dX7_reasonOn_63 : decode cX7_reasonOn 63 = .ok (.iload 5, 2) := by decide +kernel
theorem dX7_reasonOn_65 : decode cX7_reasonOn 65 = .ok (.iaload, 1) := by decide +kernel
theorem dX7_reasonOn_66 : decode cX7_reasonOn 66 = .ok (.iconst 1, 1) := by decide +kernel
theorem dX7_reasonOn_67 : decode cX7_reasonOn 67 = .ok (.if_icmp .ne 7, 3) := by decide +kernel
theorem dX7_reasonOn_70 : decode cX7_reasonOn 70 = .ok (.iconst 1, 1) := by decide +kernel
theorem dX7_reasonOn_71 : decode cX7_reasonOn 71 = .ok (.goto 4, 3) := by decide +kernel
theorem dX7_reasonOn_74 : decode cX7_reasonOn 74 = .ok (.iconst 0, 1) := by decide +kernel
theorem dX7_reasonOn_75 : decode cX7_reasonOn 75 = .ok (.istore 4, 2) := by decide +kernel
theorem dX7_reasonOn_77 : decode cX7_reasonOn 77 = .ok (.iinc 5 1, 3) := by decide +kernel
theorem dX7_reasonOn_80 : decode cX7_reasonOn 80 = .ok (.goto (-72), 3) := by decide +kernel
theorem dX7_reasonOn_83 : decode cX7_reasonOn 83 = .ok (.iload_n 3, 1) := by decide +kernel
theorem dX7_reasonOn_84 : decode cX7_reasonOn 84 = .ok (.ifCond .eq 7, 3) := by decide +kernel
theorem dX7_reasonOn_87 : decode cX7_reasonOn 87 = .ok (.iconst 1, 1) := by decide +kernel
theorem dX7_reasonOn_88 : decode cX7_reasonOn 88 = .ok (.goto 13, 3) := by decide +kernel
theorem dX7_reasonOn_91 : decode cX7_reasonOn 91 = .ok (.iload 4, 2) := by decide +kernel
theorem dX7_reasonOn_93 : decode cX7_reasonOn 93 = .ok (.ifCond .eq 7, 3) := by decide +kernel
theorem dX7_reasonOn_96 : decode cX7_reasonOn 96 = .ok (.iconst 2, 1) := by decide +kernel
theorem dX7_reasonOn_97 : decode cX7_reasonOn 97 = .ok (.goto 4, 3) := by decide +kernel
theorem dX7_reasonOn_100 : decode cX7_reasonOn 100 = .ok (.iconst 3, 1) := by decide +kernel
theorem dX7_reasonOn_101 : decode cX7_reasonOn 101 = .ok (.ireturn, 1) := by decide +kernel
theorem iX7_reasonOn_0  {Ls st : List Value} {h : AH} : ev L xs mdX7_reasonOn 0 (Ls) (st) h = ev L xs mdX7_reasonOn 1 (Ls) (.int (nI 1) :: st) (h) := e_iconst dX7_reasonOn_0 (by decide)
theorem iX7_reasonOn_1 {v0 : Value} {v1 : Value} {v2 : Value} {v3 : Value} {x : Int32} {Ls st : List Value} {h : AH} (hc9 : v2.category = 1) : ev L xs mdX7_reasonOn 1 (v0 :: v1 :: v2 :: v3 :: Ls) (.int x :: st) h = ev L xs mdX7_reasonOn 2 (v0 :: v1 :: v2 :: .int x :: Ls) (st) (h) := e_istore_n dX7_reasonOn_1 rfl (by decide) (by unfold catOK; show (_ || (v2.category == 1)) = true; rw [hc9]; rfl)
theorem iX7_reasonOn_2  {Ls st : List Value} {h : AH} : ev L xs mdX7_reasonOn 2 (Ls) (st) h = ev L xs mdX7_reasonOn 3 (Ls) (.int (nI 1) :: st) (h) := e_iconst dX7_reasonOn_2 (by decide)
theorem iX7_reasonOn_3 {v0 : Value} {v1 : Value} {v2 : Value} {v3 : Value} {v4 : Value} {x : Int32} {Ls st : List Value} {h : AH} (hc9 : v3.category = 1) : ev L xs mdX7_reasonOn 3 (v0 :: v1 :: v2 :: v3 :: v4 :: Ls) (.int x :: st) h = ev L xs mdX7_reasonOn 5 (v0 :: v1 :: v2 :: v3 :: .int x :: Ls) (st) (h) := e_istore dX7_reasonOn_3 rfl (by decide) (by unfold catOK; show (_ || (v3.category == 1)) = true; rw [hc9]; rfl)
theorem iX7_reasonOn_5  {Ls st : List Value} {h : AH} : ev L xs mdX7_reasonOn 5 (Ls) (st) h = ev L xs mdX7_reasonOn 6 (Ls) (.int (nI 0) :: st) (h) := e_iconst dX7_reasonOn_5 (by decide)
theorem iX7_reasonOn_6 {v0 : Value} {v1 : Value} {v2 : Value} {v3 : Value} {v4 : Value} {v5 : Value} {x : Int32} {Ls st : List Value} {h : AH} (hc9 : v4.category = 1) : ev L xs mdX7_reasonOn 6 (v0 :: v1 :: v2 :: v3 :: v4 :: v5 :: Ls) (.int x :: st) h = ev L xs mdX7_reasonOn 8 (v0 :: v1 :: v2 :: v3 :: v4 :: .int x :: Ls) (st) (h) := e_istore dX7_reasonOn_6 rfl (by decide) (by unfold catOK; show (_ || (v4.category == 1)) = true; rw [hc9]; rfl)
theorem iX7_reasonOn_8 {v0 : Value} {v1 : Value} {v2 : Value} {v3 : Value} {v4 : Value} {x : Int32} {Ls st : List Value} {h : AH} : ev L xs mdX7_reasonOn 8 (v0 :: v1 :: v2 :: v3 :: v4 :: .int x :: Ls) (st) h = ev L xs mdX7_reasonOn 10 (v0 :: v1 :: v2 :: v3 :: v4 :: .int x :: Ls) (.int x :: st) (h) := e_iload dX7_reasonOn_8 rfl
theorem iX7_reasonOn_10 {v0 : Value} {x : Nat} {Ls st : List Value} {h : AH} : ev L xs mdX7_reasonOn 10 (v0 :: .ref x :: Ls) (st) h = ev L xs mdX7_reasonOn 11 (v0 :: .ref x :: Ls) (.ref x :: st) (h) := e_aload_n dX7_reasonOn_10 rfl
theorem iX7_reasonOn_11  {Ls st : List Value} {h : AH} : ev L xs mdX7_reasonOn 11 (Ls) (st) h = ev L xs mdX7_reasonOn 12 (Ls) (.int (nI 4) :: st) (h) := e_iconst dX7_reasonOn_11 (by decide)
theorem iX7_reasonOn_12 {a : Nat} {j : Int32} {Ls st : List Value} {h : AH} (hk : hK h a = 8) (hi : inA j (hN h a) = true) : ev L xs mdX7_reasonOn 12 (Ls) (.int j :: .ref a :: st) h = ev L xs mdX7_reasonOn 13 (Ls) (.int (hA h a j.toNatClampNeg) :: st) (h) := e_iald dX7_reasonOn_12 hk hi
theorem iX7_reasonOn_13 {x z : Int32} {Ls st : List Value} {h : AH} : ev L xs mdX7_reasonOn 13 Ls (.int z :: .int x :: st) h = if z ≤ x then ev L xs mdX7_reasonOn 83 Ls st h else ev L xs mdX7_reasonOn 16 Ls st h := e_ic_ge dX7_reasonOn_13 (by decide)
theorem iX7_reasonOn_16 {x : Nat} {Ls st : List Value} {h : AH} : ev L xs mdX7_reasonOn 16 (.ref x :: Ls) (st) h = ev L xs mdX7_reasonOn 17 (.ref x :: Ls) (.ref x :: st) (h) := e_aload_n dX7_reasonOn_16 rfl
theorem iX7_reasonOn_17 {v0 : Value} {x : Nat} {Ls st : List Value} {h : AH} : ev L xs mdX7_reasonOn 17 (v0 :: .ref x :: Ls) (st) h = ev L xs mdX7_reasonOn 18 (v0 :: .ref x :: Ls) (.ref x :: st) (h) := e_aload_n dX7_reasonOn_17 rfl
theorem iX7_reasonOn_18 {v0 : Value} {v1 : Value} {v2 : Value} {v3 : Value} {v4 : Value} {x : Int32} {Ls st : List Value} {h : AH} : ev L xs mdX7_reasonOn 18 (v0 :: v1 :: v2 :: v3 :: v4 :: .int x :: Ls) (st) h = ev L xs mdX7_reasonOn 20 (v0 :: v1 :: v2 :: v3 :: v4 :: .int x :: Ls) (.int x :: st) (h) := e_iload dX7_reasonOn_18 rfl
theorem iX7_reasonOn_20 {v0 : Value} {v1 : Value} {x : Int32} {Ls st : List Value} {h : AH} : ev L xs mdX7_reasonOn 20 (v0 :: v1 :: .int x :: Ls) (st) h = ev L xs mdX7_reasonOn 21 (v0 :: v1 :: .int x :: Ls) (.int x :: st) (h) := e_iload_n dX7_reasonOn_20 rfl
theorem iX7_reasonOn_21 {a : Nat} {p0 : Nat} {p1 : Int32} {p2 : Int32} {Ls st : List Value} {h : AH} (hk : hK h a = 7) (hw : wds st ≤ 8) : ev L xs mdX7_reasonOn 21 Ls (.int p2 :: .int p1 :: .ref p0 :: .ref a :: st) h = kn L xs mdX7_reasonOn 21 24 Ls st (ev L xs mdX7_isSick 0 [.ref a, .ref p0, .int p1, .int p2] [] h) := e_callV (as := [.int p2, .int p1, .ref p0]) dX7_reasonOn_21 mr_7_59 (by decide) (by decide) rfl (by simp [wds, Value.category]; decide) rfl (by decide) hk hw
theorem iX7_reasonOn_24 {x : Int32} {Ls st : List Value} {h : AH} : ev L xs mdX7_reasonOn 24 Ls (.int x :: st) h = if x = nI 0 then ev L xs mdX7_reasonOn 27 Ls st h else ev L xs mdX7_reasonOn 31 Ls st h := e_if_ne dX7_reasonOn_24 (by decide)
theorem iX7_reasonOn_27  {Ls st : List Value} {h : AH} : ev L xs mdX7_reasonOn 27 (Ls) (st) h = ev L xs mdX7_reasonOn 28 (Ls) (.int (nI 1) :: st) (h) := e_iconst dX7_reasonOn_27 (by decide)
theorem iX7_reasonOn_28  {Ls st : List Value} {h : AH} : ev L xs mdX7_reasonOn 28 (Ls) (st) h = ev L xs mdX7_reasonOn 32 (Ls) (st) (h) := e_goto dX7_reasonOn_28 (by decide)
theorem iX7_reasonOn_31  {Ls st : List Value} {h : AH} : ev L xs mdX7_reasonOn 31 (Ls) (st) h = ev L xs mdX7_reasonOn 32 (Ls) (.int (nI 0) :: st) (h) := e_iconst dX7_reasonOn_31 (by decide)
theorem iX7_reasonOn_32 {v0 : Value} {v1 : Value} {v2 : Value} {v3 : Value} {v4 : Value} {v5 : Value} {v6 : Value} {x : Int32} {Ls st : List Value} {h : AH} (hc9 : v5.category = 1) : ev L xs mdX7_reasonOn 32 (v0 :: v1 :: v2 :: v3 :: v4 :: v5 :: v6 :: Ls) (.int x :: st) h = ev L xs mdX7_reasonOn 34 (v0 :: v1 :: v2 :: v3 :: v4 :: v5 :: .int x :: Ls) (st) (h) := e_istore dX7_reasonOn_32 rfl (by decide) (by unfold catOK; show (_ || (v5.category == 1)) = true; rw [hc9]; rfl)
theorem iX7_reasonOn_34 {v0 : Value} {v1 : Value} {v2 : Value} {x : Int32} {Ls st : List Value} {h : AH} : ev L xs mdX7_reasonOn 34 (v0 :: v1 :: v2 :: .int x :: Ls) (st) h = ev L xs mdX7_reasonOn 35 (v0 :: v1 :: v2 :: .int x :: Ls) (.int x :: st) (h) := e_iload_n dX7_reasonOn_34 rfl
theorem iX7_reasonOn_35 {x : Int32} {Ls st : List Value} {h : AH} : ev L xs mdX7_reasonOn 35 Ls (.int x :: st) h = if x = nI 0 then ev L xs mdX7_reasonOn 47 Ls st h else ev L xs mdX7_reasonOn 38 Ls st h := e_if_eq dX7_reasonOn_35 (by decide)
theorem iX7_reasonOn_38 {v0 : Value} {v1 : Value} {v2 : Value} {v3 : Value} {v4 : Value} {v5 : Value} {x : Int32} {Ls st : List Value} {h : AH} : ev L xs mdX7_reasonOn 38 (v0 :: v1 :: v2 :: v3 :: v4 :: v5 :: .int x :: Ls) (st) h = ev L xs mdX7_reasonOn 40 (v0 :: v1 :: v2 :: v3 :: v4 :: v5 :: .int x :: Ls) (.int x :: st) (h) := e_iload dX7_reasonOn_38 rfl
theorem iX7_reasonOn_40 {x : Int32} {Ls st : List Value} {h : AH} : ev L xs mdX7_reasonOn 40 Ls (.int x :: st) h = if x = nI 0 then ev L xs mdX7_reasonOn 43 Ls st h else ev L xs mdX7_reasonOn 47 Ls st h := e_if_ne dX7_reasonOn_40 (by decide)
theorem iX7_reasonOn_43  {Ls st : List Value} {h : AH} : ev L xs mdX7_reasonOn 43 (Ls) (st) h = ev L xs mdX7_reasonOn 44 (Ls) (.int (nI 1) :: st) (h) := e_iconst dX7_reasonOn_43 (by decide)
theorem iX7_reasonOn_44  {Ls st : List Value} {h : AH} : ev L xs mdX7_reasonOn 44 (Ls) (st) h = ev L xs mdX7_reasonOn 48 (Ls) (st) (h) := e_goto dX7_reasonOn_44 (by decide)
theorem iX7_reasonOn_47  {Ls st : List Value} {h : AH} : ev L xs mdX7_reasonOn 47 (Ls) (st) h = ev L xs mdX7_reasonOn 48 (Ls) (.int (nI 0) :: st) (h) := e_iconst dX7_reasonOn_47 (by decide)
theorem iX7_reasonOn_48 {v0 : Value} {v1 : Value} {v2 : Value} {v3 : Value} {x : Int32} {Ls st : List Value} {h : AH} (hc9 : v2.category = 1) : ev L xs mdX7_reasonOn 48 (v0 :: v1 :: v2 :: v3 :: Ls) (.int x :: st) h = ev L xs mdX7_reasonOn 49 (v0 :: v1 :: v2 :: .int x :: Ls) (st) (h) := e_istore_n dX7_reasonOn_48 rfl (by decide) (by unfold catOK; show (_ || (v2.category == 1)) = true; rw [hc9]; rfl)
theorem iX7_reasonOn_49 {v0 : Value} {v1 : Value} {v2 : Value} {v3 : Value} {x : Int32} {Ls st : List Value} {h : AH} : ev L xs mdX7_reasonOn 49 (v0 :: v1 :: v2 :: v3 :: .int x :: Ls) (st) h = ev L xs mdX7_reasonOn 51 (v0 :: v1 :: v2 :: v3 :: .int x :: Ls) (.int x :: st) (h) := e_iload dX7_reasonOn_49 rfl
theorem iX7_reasonOn_51 {x : Int32} {Ls st : List Value} {h : AH} : ev L xs mdX7_reasonOn 51 Ls (.int x :: st) h = if x = nI 0 then ev L xs mdX7_reasonOn 74 Ls st h else ev L xs mdX7_reasonOn 54 Ls st h := e_if_eq dX7_reasonOn_51 (by decide)
theorem iX7_reasonOn_54 {v0 : Value} {v1 : Value} {v2 : Value} {v3 : Value} {v4 : Value} {v5 : Value} {x : Int32} {Ls st : List Value} {h : AH} : ev L xs mdX7_reasonOn 54 (v0 :: v1 :: v2 :: v3 :: v4 :: v5 :: .int x :: Ls) (st) h = ev L xs mdX7_reasonOn 56 (v0 :: v1 :: v2 :: v3 :: v4 :: v5 :: .int x :: Ls) (.int x :: st) (h) := e_iload dX7_reasonOn_54 rfl
theorem iX7_reasonOn_56 {x : Int32} {Ls st : List Value} {h : AH} : ev L xs mdX7_reasonOn 56 Ls (.int x :: st) h = if x = nI 0 then ev L xs mdX7_reasonOn 70 Ls st h else ev L xs mdX7_reasonOn 59 Ls st h := e_if_eq dX7_reasonOn_56 (by decide)
theorem iX7_reasonOn_59 {x : Nat} {Ls st : List Value} {h : AH} : ev L xs mdX7_reasonOn 59 (.ref x :: Ls) (st) h = ev L xs mdX7_reasonOn 60 (.ref x :: Ls) (.ref x :: st) (h) := e_aload_n dX7_reasonOn_59 rfl
theorem iX7_reasonOn_60 {a : Nat} {Ls st : List Value} {h : AH} (hk : hK h a = 7) (hj : (hR h 121 a).isSome = true) : ev L xs mdX7_reasonOn 60 (Ls) (.ref a :: st) h = ev L xs mdX7_reasonOn 63 (Ls) (.ref ((hR h 121 a).getD 0) :: st) (h) := e_getR (k := 7) (f := 9) (F := 121) dX7_reasonOn_60 (by decide +kernel) rfl rfl hk hj
theorem iX7_reasonOn_63 {v0 : Value} {v1 : Value} {v2 : Value} {v3 : Value} {v4 : Value} {x : Int32} {Ls st : List Value} {h : AH} : ev L xs mdX7_reasonOn 63 (v0 :: v1 :: v2 :: v3 :: v4 :: .int x :: Ls) (st) h = ev L xs mdX7_reasonOn 65 (v0 :: v1 :: v2 :: v3 :: v4 :: .int x :: Ls) (.int x :: st) (h) := e_iload dX7_reasonOn_63 rfl
theorem iX7_reasonOn_65 {a : Nat} {j : Int32} {Ls st : List Value} {h : AH} (hk : hK h a = 8) (hi : inA j (hN h a) = true) : ev L xs mdX7_reasonOn 65 (Ls) (.int j :: .ref a :: st) h = ev L xs mdX7_reasonOn 66 (Ls) (.int (hA h a j.toNatClampNeg) :: st) (h) := e_iald dX7_reasonOn_65 hk hi
theorem iX7_reasonOn_66  {Ls st : List Value} {h : AH} : ev L xs mdX7_reasonOn 66 (Ls) (st) h = ev L xs mdX7_reasonOn 67 (Ls) (.int (nI 1) :: st) (h) := e_iconst dX7_reasonOn_66 (by decide)
theorem iX7_reasonOn_67 {x z : Int32} {Ls st : List Value} {h : AH} : ev L xs mdX7_reasonOn 67 Ls (.int z :: .int x :: st) h = if x = z then ev L xs mdX7_reasonOn 70 Ls st h else ev L xs mdX7_reasonOn 74 Ls st h := e_ic_ne dX7_reasonOn_67 (by decide)
theorem iX7_reasonOn_70  {Ls st : List Value} {h : AH} : ev L xs mdX7_reasonOn 70 (Ls) (st) h = ev L xs mdX7_reasonOn 71 (Ls) (.int (nI 1) :: st) (h) := e_iconst dX7_reasonOn_70 (by decide)
theorem iX7_reasonOn_71  {Ls st : List Value} {h : AH} : ev L xs mdX7_reasonOn 71 (Ls) (st) h = ev L xs mdX7_reasonOn 75 (Ls) (st) (h) := e_goto dX7_reasonOn_71 (by decide)
theorem iX7_reasonOn_74  {Ls st : List Value} {h : AH} : ev L xs mdX7_reasonOn 74 (Ls) (st) h = ev L xs mdX7_reasonOn 75 (Ls) (.int (nI 0) :: st) (h) := e_iconst dX7_reasonOn_74 (by decide)
theorem iX7_reasonOn_75 {v0 : Value} {v1 : Value} {v2 : Value} {v3 : Value} {v4 : Value} {x : Int32} {Ls st : List Value} {h : AH} (hc9 : v3.category = 1) : ev L xs mdX7_reasonOn 75 (v0 :: v1 :: v2 :: v3 :: v4 :: Ls) (.int x :: st) h = ev L xs mdX7_reasonOn 77 (v0 :: v1 :: v2 :: v3 :: .int x :: Ls) (st) (h) := e_istore dX7_reasonOn_75 rfl (by decide) (by unfold catOK; show (_ || (v3.category == 1)) = true; rw [hc9]; rfl)
theorem iX7_reasonOn_77 {v0 : Value} {v1 : Value} {v2 : Value} {v3 : Value} {v4 : Value} {x : Int32} {Ls st : List Value} {h : AH} (hc9 : v4.category = 1) : ev L xs mdX7_reasonOn 77 (v0 :: v1 :: v2 :: v3 :: v4 :: .int x :: Ls) (st) h = ev L xs mdX7_reasonOn 80 (v0 :: v1 :: v2 :: v3 :: v4 :: .int (x + (nI 1)) :: Ls) (st) (h) := e_iinc dX7_reasonOn_77 rfl rfl rfl (by decide) (by unfold catOK; show (_ || (v4.category == 1)) = true; rw [hc9]; rfl)
theorem iX7_reasonOn_80  {Ls st : List Value} {h : AH} : ev L xs mdX7_reasonOn 80 (Ls) (st) h = ev L xs mdX7_reasonOn 8 (Ls) (st) (h) := e_goto dX7_reasonOn_80 (by decide)
theorem iX7_reasonOn_83 {v0 : Value} {v1 : Value} {v2 : Value} {x : Int32} {Ls st : List Value} {h : AH} : ev L xs mdX7_reasonOn 83 (v0 :: v1 :: v2 :: .int x :: Ls) (st) h = ev L xs mdX7_reasonOn 84 (v0 :: v1 :: v2 :: .int x :: Ls) (.int x :: st) (h) := e_iload_n dX7_reasonOn_83 rfl
theorem iX7_reasonOn_84 {x : Int32} {Ls st : List Value} {h : AH} : ev L xs mdX7_reasonOn 84 Ls (.int x :: st) h = if x = nI 0 then ev L xs mdX7_reasonOn 91 Ls st h else ev L xs mdX7_reasonOn 87 Ls st h := e_if_eq dX7_reasonOn_84 (by decide)
theorem iX7_reasonOn_87  {Ls st : List Value} {h : AH} : ev L xs mdX7_reasonOn 87 (Ls) (st) h = ev L xs mdX7_reasonOn 88 (Ls) (.int (nI 1) :: st) (h) := e_iconst dX7_reasonOn_87 (by decide)
theorem iX7_reasonOn_88  {Ls st : List Value} {h : AH} : ev L xs mdX7_reasonOn 88 (Ls) (st) h = ev L xs mdX7_reasonOn 101 (Ls) (st) (h) := e_goto dX7_reasonOn_88 (by decide)
theorem iX7_reasonOn_91 {v0 : Value} {v1 : Value} {v2 : Value} {v3 : Value} {x : Int32} {Ls st : List Value} {h : AH} : ev L xs mdX7_reasonOn 91 (v0 :: v1 :: v2 :: v3 :: .int x :: Ls) (st) h = ev L xs mdX7_reasonOn 93 (v0 :: v1 :: v2 :: v3 :: .int x :: Ls) (.int x :: st) (h) := e_iload dX7_reasonOn_91 rfl
theorem iX7_reasonOn_93 {x : Int32} {Ls st : List Value} {h : AH} : ev L xs mdX7_reasonOn 93 Ls (.int x :: st) h = if x = nI 0 then ev L xs mdX7_reasonOn 100 Ls st h else ev L xs mdX7_reasonOn 96 Ls st h := e_if_eq dX7_reasonOn_93 (by decide)
theorem iX7_reasonOn_96  {Ls st : List Value} {h : AH} : ev L xs mdX7_reasonOn 96 (Ls) (st) h = ev L xs mdX7_reasonOn 97 (Ls) (.int (nI 2) :: st) (h) := e_iconst dX7_reasonOn_96 (by decide)
theorem iX7_reasonOn_97  {Ls st : List Value} {h : AH} : ev L xs mdX7_reasonOn 97 (Ls) (st) h = ev L xs mdX7_reasonOn 101 (Ls) (st) (h) := e_goto dX7_reasonOn_97 (by decide)
theorem iX7_reasonOn_100  {Ls st : List Value} {h : AH} : ev L xs mdX7_reasonOn 100 (Ls) (st) h = ev L xs mdX7_reasonOn 101 (Ls) (.int (nI 3) :: st) (h) := e_iconst dX7_reasonOn_100 (by decide)
theorem iX7_reasonOn_101 {v : Int32} {Ls : List Value} {h : AH} : ev L xs mdX7_reasonOn 101 Ls [.int v] h = some (.inl (some (.int v), h)) := e_iret dX7_reasonOn_101 rfl
theorem dX7_reckonSums_0 : decode cX7_reckonSums 0 = .ok (.iconst 0, 1) := by decide +kernel
theorem dX7_reckonSums_1 : decode cX7_reckonSums 1 = .ok (.istore_n 3, 1) := by decide +kernel
theorem dX7_reckonSums_2 : decode cX7_reckonSums 2 = .ok (.iload_n 3, 1) := by decide +kernel
theorem dX7_reckonSums_3 : decode cX7_reckonSums 3 = .ok (.sipush 256, 3) := by decide +kernel
theorem dX7_reckonSums_6 : decode cX7_reckonSums 6 = .ok (.if_icmp .ge 25, 3) := by decide +kernel
theorem dX7_reckonSums_9 : decode cX7_reckonSums 9 = .ok (.aload_n 0, 1) := by decide +kernel
theorem dX7_reckonSums_10 : decode cX7_reckonSums 10 = .ok (.getfield 31, 3) := by decide +kernel
theorem dX7_reckonSums_13 : decode cX7_reckonSums 13 = .ok (.iload_n 3, 1) := by decide +kernel
theorem dX7_reckonSums_14 : decode cX7_reckonSums 14 = .ok (.iload_n 3, 1) := by decide +kernel
theorem dX7_reckonSums_15 : decode cX7_reckonSums 15 = .ok (.ifCond .ne 7, 3) := by decide +kernel
theorem dX7_reckonSums_18 : decode cX7_reckonSums 18 = .ok (.iconst 0, 1) := by decide +kernel
theorem dX7_reckonSums_19 : decode cX7_reckonSums 19 = .ok (.goto 5, 3) := by decide +kernel
theorem dX7_reckonSums_22 : decode cX7_reckonSums 22 = .ok (.ldc 154, 2) := by decide +kernel
theorem dX7_reckonSums_24 : decode cX7_reckonSums 24 = .ok (.iastore, 1) := by decide +kernel
theorem dX7_reckonSums_25 : decode cX7_reckonSums 25 = .ok (.iinc 3 1, 3) := by decide +kernel
theorem dX7_reckonSums_28 : decode cX7_reckonSums 28 = .ok (.goto (-26), 3) := by decide +kernel
theorem dX7_reckonSums_31 : decode cX7_reckonSums 31 = .ok (.iconst 0, 1) := by decide +kernel
theorem dX7_reckonSums_32 : decode cX7_reckonSums 32 = .ok (.istore_n 3, 1) := by decide +kernel
theorem dX7_reckonSums_33 : decode cX7_reckonSums 33 = .ok (.iload_n 3, 1) := by decide +kernel
theorem dX7_reckonSums_34 : decode cX7_reckonSums 34 = .ok (.aload_n 0, 1) := by decide +kernel
theorem dX7_reckonSums_35 : decode cX7_reckonSums 35 = .ok (.getfield 7, 3) := by decide +kernel
theorem dX7_reckonSums_38 : decode cX7_reckonSums 38 = .ok (.iconst 4, 1) := by decide +kernel
theorem dX7_reckonSums_39 : decode cX7_reckonSums 39 = .ok (.iaload, 1) := by decide +kernel
theorem dX7_reckonSums_40 : decode cX7_reckonSums 40 = .ok (.if_icmp .ge 208, 3) := by decide +kernel
theorem dX7_reckonSums_43 : decode cX7_reckonSums 43 = .ok (.sipush 255, 3) := by decide +kernel
theorem dX7_reckonSums_46 : decode cX7_reckonSums 46 = .ok (.istore 4, 2) := by decide +kernel
theorem dX7_reckonSums_48 : decode cX7_reckonSums 48 = .ok (.iload 4, 2) := by decide +kernel
theorem dX7_reckonSums_50 : decode cX7_reckonSums 50 = .ok (.ifCond .lt 192, 3) := by decide +kernel
theorem dX7_reckonSums_53 : decode cX7_reckonSums 53 = .ok (.aload_n 0, 1) := by decide +kernel
theorem dX7_reckonSums_54 : decode cX7_reckonSums 54 = .ok (.getfield 28, 3) := by decide +kernel
theorem dX7_reckonSums_57 : decode cX7_reckonSums 57 = .ok (.iload_n 3, 1) := by decide +kernel
theorem dX7_reckonSums_58 : decode cX7_reckonSums 58 = .ok (.iaload, 1) := by decide +kernel
theorem dX7_reckonSums_59 : decode cX7_reckonSums 59 = .ok (.ifCond .ne 183, 3) := by decide +kernel
theorem dX7_reckonSums_62 : decode cX7_reckonSums 62 = .ok (.aload_n 0, 1) := by decide +kernel
theorem dX7_reckonSums_63 : decode cX7_reckonSums 63 = .ok (.aload_n 0, 1) := by decide +kernel
theorem dX7_reckonSums_64 : decode cX7_reckonSums 64 = .ok (.getfield 7, 3) := by decide +kernel
theorem dX7_reckonSums_67 : decode cX7_reckonSums 67 = .ok (.iload_n 3, 1) := by decide +kernel
theorem dX7_reckonSums_68 : decode cX7_reckonSums 68 = .ok (.iload_n 1, 1) := by decide +kernel
theorem dX7_reckonSums_69 : decode cX7_reckonSums 69 = .ok (.invokevirtual 59, 3) := by decide +kernel
theorem dX7_reckonSums_72 : decode cX7_reckonSums 72 = .ok (.ifCond .ne 170, 3) := by decide +kernel
theorem dX7_reckonSums_75 : decode cX7_reckonSums 75 = .ok (.iconst 0, 1) := by decide +kernel
theorem dX7_reckonSums_76 : decode cX7_reckonSums 76 = .ok (.istore 5, 2) := by decide +kernel
theorem dX7_reckonSums_78 : decode cX7_reckonSums 78 = .ok (.iload 5, 2) := by decide +kernel
theorem dX7_reckonSums_80 : decode cX7_reckonSums 80 = .ok (.aload_n 0, 1) := by decide +kernel
theorem dX7_reckonSums_81 : decode cX7_reckonSums 81 = .ok (.getfield 7, 3) := by decide +kernel
theorem dX7_reckonSums_84 : decode cX7_reckonSums 84 = .ok (.iconst 3, 1) := by decide +kernel
theorem dX7_reckonSums_85 : decode cX7_reckonSums 85 = .ok (.iaload, 1) := by decide +kernel
theorem dX7_reckonSums_86 : decode cX7_reckonSums 86 = .ok (.if_icmp .ge 150, 3) := by decide +kernel
theorem dX7_reckonSums_89 : decode cX7_reckonSums 89 = .ok (.aload_n 0, 1) := by decide +kernel
theorem dX7_reckonSums_90 : decode cX7_reckonSums 90 = .ok (.getfield 31, 3) := by decide +kernel
theorem dX7_reckonSums_93 : decode cX7_reckonSums 93 = .ok (.iload 4, 2) := by decide +kernel
theorem dX7_reckonSums_95 : decode cX7_reckonSums 95 = .ok (.iaload, 1) := by decide +kernel
theorem dX7_reckonSums_96 : decode cX7_reckonSums 96 = .ok (.ldc 154, 2) := by decide +kernel
theorem dX7_reckonSums_98 : decode cX7_reckonSums 98 = .ok (.if_icmp .ge 138, 3) := by decide +kernel
theorem dX7_reckonSums_101 : decode cX7_reckonSums 101 = .ok (.iload 4, 2) := by decide +kernel
theorem dX7_reckonSums_103 : decode cX7_reckonSums 103 = .ok (.iload 5, 2) := by decide +kernel
theorem dX7_reckonSums_105 : decode cX7_reckonSums 105 = .ok (.ishr, 1) := by decide +kernel
theorem dX7_reckonSums_106 : decode cX7_reckonSums 106 = .ok (.iconst 1, 1) := by decide +kernel
theorem dX7_reckonSums_107 : decode cX7_reckonSums 107 = .ok (.iand, 1) := by decide +kernel
theorem dX7_reckonSums_108 : decode cX7_reckonSums 108 = .ok (.ifCond .ne 54, 3) := by decide +kernel
theorem dX7_reckonSums_111 : decode cX7_reckonSums 111 = .ok (.aload_n 0, 1) := by decide +kernel
theorem dX7_reckonSums_112 : decode cX7_reckonSums 112 = .ok (.getfield 22, 3) := by decide +kernel
theorem dX7_reckonSums_115 : decode cX7_reckonSums 115 = .ok (.iload 5, 2) := by decide +kernel
theorem dX7_reckonSums_117 : decode cX7_reckonSums 117 = .ok (.iaload, 1) := by decide +kernel
theorem dX7_reckonSums_118 : decode cX7_reckonSums 118 = .ok (.iconst (-1), 1) := by decide +kernel
theorem dX7_reckonSums_119 : decode cX7_reckonSums 119 = .ok (.if_icmp .ne 43, 3) := by decide +kernel
theorem dX7_reckonSums_122 : decode cX7_reckonSums 122 = .ok (.aload_n 0, 1) := by decide +kernel
theorem dX7_reckonSums_123 : decode cX7_reckonSums 123 = .ok (.getfield 7, 3) := by decide +kernel
theorem dX7_reckonSums_126 : decode cX7_reckonSums 126 = .ok (.iload 5, 2) := by decide +kernel
theorem dX7_reckonSums_128 : decode cX7_reckonSums 128 = .ok (.iload_n 1, 1) := by decide +kernel
theorem dX7_reckonSums_129 : decode cX7_reckonSums 129 = .ok (.iload_n 2, 1) := by decide +kernel
theorem dX7_reckonSums_130 : decode cX7_reckonSums 130 = .ok (.invokestatic 63, 3) := by decide +kernel
theorem dX7_reckonSums_133 : decode cX7_reckonSums 133 = .ok (.ifCond .eq 29, 3) := by decide +kernel
theorem dX7_reckonSums_136 : decode cX7_reckonSums 136 = .ok (.aload_n 0, 1) := by decide +kernel
theorem dX7_reckonSums_137 : decode cX7_reckonSums 137 = .ok (.getfield 7, 3) := by decide +kernel
theorem dX7_reckonSums_140 : decode cX7_reckonSums 140 = .ok (.iload_n 3, 1) := by decide +kernel
theorem dX7_reckonSums_141 : decode cX7_reckonSums 141 = .ok (.iconst 1, 1) := by decide +kernel
theorem dX7_reckonSums_142 : decode cX7_reckonSums 142 = .ok (.invokestatic 56, 3) := by decide +kernel
theorem dX7_reckonSums_145 : decode cX7_reckonSums 145 = .ok (.aload_n 0, 1) := by decide +kernel
theorem dX7_reckonSums_146 : decode cX7_reckonSums 146 = .ok (.getfield 7, 3) := by decide +kernel
theorem dX7_reckonSums_149 : decode cX7_reckonSums 149 = .ok (.iload_n 3, 1) := by decide +kernel
theorem dX7_reckonSums_150 : decode cX7_reckonSums 150 = .ok (.iload 5, 2) := by decide +kernel
theorem dX7_reckonSums_152 : decode cX7_reckonSums 152 = .ok (.invokestatic 67, 3) := by decide +kernel
theorem dX7_reckonSums_155 : decode cX7_reckonSums 155 = .ok (.if_icmp .lt 7, 3) := by decide +kernel
theorem dX7_reckonSums_158 : decode cX7_reckonSums 158 = .ok (.iconst 1, 1) := by decide +kernel
theorem dX7_reckonSums_159 : decode cX7_reckonSums 159 = .ok (.goto 4, 3) := by decide +kernel
theorem dX7_reckonSums_162 : decode cX7_reckonSums 162 = .ok (.iconst 0, 1) := by decide +kernel
theorem dX7_reckonSums_163 : decode cX7_reckonSums 163 = .ok (.istore 6, 2) := by decide +kernel
theorem dX7_reckonSums_165 : decode cX7_reckonSums 165 = .ok (.iload 4, 2) := by decide +kernel
theorem dX7_reckonSums_167 : decode cX7_reckonSums 167 = .ok (.iconst 1, 1) := by decide +kernel
theorem dX7_reckonSums_168 : decode cX7_reckonSums 168 = .ok (.iload 5, 2) := by decide +kernel
theorem dX7_reckonSums_170 : decode cX7_reckonSums 170 = .ok (.ishl, 1) := by decide +kernel
theorem dX7_reckonSums_171 : decode cX7_reckonSums 171 = .ok (.ior, 1) := by decide +kernel
theorem dX7_reckonSums_172 : decode cX7_reckonSums 172 = .ok (.istore 7, 2) := by decide +kernel
theorem dX7_reckonSums_174 : decode cX7_reckonSums 174 = .ok (.aload_n 0, 1) := by decide +kernel
theorem dX7_reckonSums_175 : decode cX7_reckonSums 175 = .ok (.getfield 31, 3) := by decide +kernel
theorem dX7_reckonSums_178 : decode cX7_reckonSums 178 = .ok (.iload 4, 2) := by decide +kernel
theorem dX7_reckonSums_180 : decode cX7_reckonSums 180 = .ok (.iaload, 1) := by decide +kernel
theorem dX7_reckonSums_181 : decode cX7_reckonSums 181 = .ok (.aload_n 0, 1) := by decide +kernel
theorem dX7_reckonSums_182 : decode cX7_reckonSums 182 = .ok (.getfield 7, 3) := by decide +kernel
theorem dX7_reckonSums_185 : decode cX7_reckonSums 185 = .ok (.iload_n 3, 1) := by decide +kernel
theorem dX7_reckonSums_186 : decode cX7_reckonSums 186 = .ok (.iload 5, 2) := by decide +kernel
theorem dX7_reckonSums_188 : decode cX7_reckonSums 188 = .ok (.invokestatic 67, 3) := by decide +kernel
theorem dX7_reckonSums_191 : decode cX7_reckonSums 191 = .ok (.iadd, 1) := by decide +kernel
theorem dX7_reckonSums_192 : decode cX7_reckonSums 192 = .ok (.istore 8, 2) := by decide +kernel
theorem dX7_reckonSums_194 : decode cX7_reckonSums 194 = .ok (.aload_n 0, 1) := by decide +kernel
theorem dX7_reckonSums_195 : decode cX7_reckonSums 195 = .ok (.getfield 31, 3) := by decide +kernel
theorem dX7_reckonSums_198 : decode cX7_reckonSums 198 = .ok (.iload 7, 2) := by decide +kernel
theorem dX7_reckonSums_200 : decode cX7_reckonSums 200 = .ok (.iload 6, 2) := by decide +kernel
theorem dX7_reckonSums_202 : decode cX7_reckonSums 202 = .ok (.ifCond .eq 20, 3) := by decide +kernel
theorem dX7_reckonSums_205 : decode cX7_reckonSums 205 = .ok (.iload 8, 2) := by decide +kernel
theorem dX7_reckonSums_207 : decode cX7_reckonSums 207 = .ok (.aload_n 0, 1) := by decide +kernel
theorem dX7_reckonSums_208 : decode cX7_reckonSums 208 = .ok (.getfield 31, 3) := by decide +kernel
theorem dX7_reckonSums_211 : decode cX7_reckonSums 211 = .ok (.iload 7, 2) := by decide +kernel
theorem dX7_reckonSums_213 : decode cX7_reckonSums 213 = .ok (.iaload, 1) := by decide +kernel
theorem dX7_reckonSums_214 : decode cX7_reckonSums 214 = .ok (.if_icmp .ge 8, 3) := by decide +kernel
theorem dX7_reckonSums_217 : decode cX7_reckonSums 217 = .ok (.iload 8, 2) := by decide +kernel
theorem dX7_reckonSums_219 : decode cX7_reckonSums 219 = .ok (.goto 10, 3) := by decide +kernel
theorem dX7_reckonSums_222 : decode cX7_reckonSums 222 = .ok (.aload_n 0, 1) := by decide +kernel
theorem dX7_reckonSums_223 : decode cX7_reckonSums 223 = .ok (.getfield 31, 3) := by decide +kernel
theorem dX7_reckonSums_226 : decode cX7_reckonSums 226 = .ok (.iload 7, 2) := by decide +kernel
theorem dX7_reckonSums_228 : decode cX7_reckonSums 228 = .ok (.iaload, 1) := by decide +kernel
theorem dX7_reckonSums_229 : decode cX7_reckonSums 229 = .ok (.iastore, 1) := by decide +kernel
theorem dX7_reckonSums_230 : decode cX7_reckonSums 230 = .ok (.iinc 5 1, 3) := by decide +kernel
theorem dX7_reckonSums_233 : decode cX7_reckonSums 233 = .ok (.goto (-155), 3) := by decide +kernel
theorem dX7_reckonSums_236 : decode cX7_reckonSums 236 = .ok (.iinc 4 (-1), 3) := by decide +kernel
theorem dX7_reckonSums_239 : decode cX7_reckonSums 239 = .ok (.goto (-191), 3) := by decide +kernel
theorem dX7_reckonSums_242 : decode cX7_reckonSums 242 = .ok (.iinc 3 1, 3) := by decide +kernel
theorem dX7_reckonSums_245 : decode cX7_reckonSums 245 = .ok (.goto (-212), 3) := by decide +kernel
theorem dX7_reckonSums_248 : decode cX7_reckonSums 248 = .ok (.return_, 1) := by decide +kernel
theorem iX7_reckonSums_0  {Ls st : List Value} {h : AH} : ev L xs mdX7_reckonSums 0 (Ls) (st) h = ev L xs mdX7_reckonSums 1 (Ls) (.int (nI 0) :: st) (h) := e_iconst dX7_reckonSums_0 (by decide)
theorem iX7_reckonSums_1 {v0 : Value} {v1 : Value} {v2 : Value} {v3 : Value} {x : Int32} {Ls st : List Value} {h : AH} (hc9 : v2.category = 1) : ev L xs mdX7_reckonSums 1 (v0 :: v1 :: v2 :: v3 :: Ls) (.int x :: st) h = ev L xs mdX7_reckonSums 2 (v0 :: v1 :: v2 :: .int x :: Ls) (st) (h) := e_istore_n dX7_reckonSums_1 rfl (by decide) (by unfold catOK; show (_ || (v2.category == 1)) = true; rw [hc9]; rfl)
theorem iX7_reckonSums_2 {v0 : Value} {v1 : Value} {v2 : Value} {x : Int32} {Ls st : List Value} {h : AH} : ev L xs mdX7_reckonSums 2 (v0 :: v1 :: v2 :: .int x :: Ls) (st) h = ev L xs mdX7_reckonSums 3 (v0 :: v1 :: v2 :: .int x :: Ls) (.int x :: st) (h) := e_iload_n dX7_reckonSums_2 rfl
theorem iX7_reckonSums_3  {Ls st : List Value} {h : AH} : ev L xs mdX7_reckonSums 3 (Ls) (st) h = ev L xs mdX7_reckonSums 6 (Ls) (.int (nI 256) :: st) (h) := e_sipush dX7_reckonSums_3 (by decide)
theorem iX7_reckonSums_6 {x z : Int32} {Ls st : List Value} {h : AH} : ev L xs mdX7_reckonSums 6 Ls (.int z :: .int x :: st) h = if z ≤ x then ev L xs mdX7_reckonSums 31 Ls st h else ev L xs mdX7_reckonSums 9 Ls st h := e_ic_ge dX7_reckonSums_6 (by decide)
theorem iX7_reckonSums_9 {x : Nat} {Ls st : List Value} {h : AH} : ev L xs mdX7_reckonSums 9 (.ref x :: Ls) (st) h = ev L xs mdX7_reckonSums 10 (.ref x :: Ls) (.ref x :: st) (h) := e_aload_n dX7_reckonSums_9 rfl
theorem iX7_reckonSums_10 {a : Nat} {Ls st : List Value} {h : AH} (hk : hK h a = 7) (hj : (hR h 123 a).isSome = true) : ev L xs mdX7_reckonSums 10 (Ls) (.ref a :: st) h = ev L xs mdX7_reckonSums 13 (Ls) (.ref ((hR h 123 a).getD 0) :: st) (h) := e_getR (k := 7) (f := 11) (F := 123) dX7_reckonSums_10 (by decide +kernel) rfl rfl hk hj
theorem iX7_reckonSums_13 {v0 : Value} {v1 : Value} {v2 : Value} {x : Int32} {Ls st : List Value} {h : AH} : ev L xs mdX7_reckonSums 13 (v0 :: v1 :: v2 :: .int x :: Ls) (st) h = ev L xs mdX7_reckonSums 14 (v0 :: v1 :: v2 :: .int x :: Ls) (.int x :: st) (h) := e_iload_n dX7_reckonSums_13 rfl
theorem iX7_reckonSums_14 {v0 : Value} {v1 : Value} {v2 : Value} {x : Int32} {Ls st : List Value} {h : AH} : ev L xs mdX7_reckonSums 14 (v0 :: v1 :: v2 :: .int x :: Ls) (st) h = ev L xs mdX7_reckonSums 15 (v0 :: v1 :: v2 :: .int x :: Ls) (.int x :: st) (h) := e_iload_n dX7_reckonSums_14 rfl
theorem iX7_reckonSums_15 {x : Int32} {Ls st : List Value} {h : AH} : ev L xs mdX7_reckonSums 15 Ls (.int x :: st) h = if x = nI 0 then ev L xs mdX7_reckonSums 18 Ls st h else ev L xs mdX7_reckonSums 22 Ls st h := e_if_ne dX7_reckonSums_15 (by decide)
theorem iX7_reckonSums_18  {Ls st : List Value} {h : AH} : ev L xs mdX7_reckonSums 18 (Ls) (st) h = ev L xs mdX7_reckonSums 19 (Ls) (.int (nI 0) :: st) (h) := e_iconst dX7_reckonSums_18 (by decide)
theorem iX7_reckonSums_19  {Ls st : List Value} {h : AH} : ev L xs mdX7_reckonSums 19 (Ls) (st) h = ev L xs mdX7_reckonSums 24 (Ls) (st) (h) := e_goto dX7_reckonSums_19 (by decide)
theorem iX7_reckonSums_22  {Ls st : List Value} {h : AH} : ev L xs mdX7_reckonSums 22 (Ls) (st) h = ev L xs mdX7_reckonSums 24 (Ls) (.int (nI 100000) :: st) (h) := e_ldc dX7_reckonSums_22 (by decide +kernel)
theorem iX7_reckonSums_24 {a : Nat} {j : Int32} {v : Int32} {Ls st : List Value} {h : AH} (hk : hK h a = 8) (hi : inA j (hN h a) = true) : ev L xs mdX7_reckonSums 24 (Ls) (.int v :: .int j :: .ref a :: st) h = ev L xs mdX7_reckonSums 25 (Ls) (st) (sA h a j.toNatClampNeg v) := e_iast dX7_reckonSums_24 hk hi
theorem iX7_reckonSums_25 {v0 : Value} {v1 : Value} {v2 : Value} {x : Int32} {Ls st : List Value} {h : AH} (hc9 : v2.category = 1) : ev L xs mdX7_reckonSums 25 (v0 :: v1 :: v2 :: .int x :: Ls) (st) h = ev L xs mdX7_reckonSums 28 (v0 :: v1 :: v2 :: .int (x + (nI 1)) :: Ls) (st) (h) := e_iinc dX7_reckonSums_25 rfl rfl rfl (by decide) (by unfold catOK; show (_ || (v2.category == 1)) = true; rw [hc9]; rfl)
theorem iX7_reckonSums_28  {Ls st : List Value} {h : AH} : ev L xs mdX7_reckonSums 28 (Ls) (st) h = ev L xs mdX7_reckonSums 2 (Ls) (st) (h) := e_goto dX7_reckonSums_28 (by decide)
theorem iX7_reckonSums_31  {Ls st : List Value} {h : AH} : ev L xs mdX7_reckonSums 31 (Ls) (st) h = ev L xs mdX7_reckonSums 32 (Ls) (.int (nI 0) :: st) (h) := e_iconst dX7_reckonSums_31 (by decide)
theorem iX7_reckonSums_32 {v0 : Value} {v1 : Value} {v2 : Value} {v3 : Value} {x : Int32} {Ls st : List Value} {h : AH} (hc9 : v2.category = 1) : ev L xs mdX7_reckonSums 32 (v0 :: v1 :: v2 :: v3 :: Ls) (.int x :: st) h = ev L xs mdX7_reckonSums 33 (v0 :: v1 :: v2 :: .int x :: Ls) (st) (h) := e_istore_n dX7_reckonSums_32 rfl (by decide) (by unfold catOK; show (_ || (v2.category == 1)) = true; rw [hc9]; rfl)
theorem iX7_reckonSums_33 {v0 : Value} {v1 : Value} {v2 : Value} {x : Int32} {Ls st : List Value} {h : AH} : ev L xs mdX7_reckonSums 33 (v0 :: v1 :: v2 :: .int x :: Ls) (st) h = ev L xs mdX7_reckonSums 34 (v0 :: v1 :: v2 :: .int x :: Ls) (.int x :: st) (h) := e_iload_n dX7_reckonSums_33 rfl
theorem iX7_reckonSums_34 {x : Nat} {Ls st : List Value} {h : AH} : ev L xs mdX7_reckonSums 34 (.ref x :: Ls) (st) h = ev L xs mdX7_reckonSums 35 (.ref x :: Ls) (.ref x :: st) (h) := e_aload_n dX7_reckonSums_34 rfl
theorem iX7_reckonSums_35 {a : Nat} {Ls st : List Value} {h : AH} (hk : hK h a = 7) (hj : (hR h 113 a).isSome = true) : ev L xs mdX7_reckonSums 35 (Ls) (.ref a :: st) h = ev L xs mdX7_reckonSums 38 (Ls) (.ref ((hR h 113 a).getD 0) :: st) (h) := e_getR (k := 7) (f := 1) (F := 113) dX7_reckonSums_35 (by decide +kernel) rfl rfl hk hj
theorem iX7_reckonSums_38  {Ls st : List Value} {h : AH} : ev L xs mdX7_reckonSums 38 (Ls) (st) h = ev L xs mdX7_reckonSums 39 (Ls) (.int (nI 4) :: st) (h) := e_iconst dX7_reckonSums_38 (by decide)
theorem iX7_reckonSums_39 {a : Nat} {j : Int32} {Ls st : List Value} {h : AH} (hk : hK h a = 8) (hi : inA j (hN h a) = true) : ev L xs mdX7_reckonSums 39 (Ls) (.int j :: .ref a :: st) h = ev L xs mdX7_reckonSums 40 (Ls) (.int (hA h a j.toNatClampNeg) :: st) (h) := e_iald dX7_reckonSums_39 hk hi
theorem iX7_reckonSums_40 {x z : Int32} {Ls st : List Value} {h : AH} : ev L xs mdX7_reckonSums 40 Ls (.int z :: .int x :: st) h = if z ≤ x then ev L xs mdX7_reckonSums 248 Ls st h else ev L xs mdX7_reckonSums 43 Ls st h := e_ic_ge dX7_reckonSums_40 (by decide)
theorem iX7_reckonSums_43  {Ls st : List Value} {h : AH} : ev L xs mdX7_reckonSums 43 (Ls) (st) h = ev L xs mdX7_reckonSums 46 (Ls) (.int (nI 255) :: st) (h) := e_sipush dX7_reckonSums_43 (by decide)
theorem iX7_reckonSums_46 {v0 : Value} {v1 : Value} {v2 : Value} {v3 : Value} {v4 : Value} {x : Int32} {Ls st : List Value} {h : AH} (hc9 : v3.category = 1) : ev L xs mdX7_reckonSums 46 (v0 :: v1 :: v2 :: v3 :: v4 :: Ls) (.int x :: st) h = ev L xs mdX7_reckonSums 48 (v0 :: v1 :: v2 :: v3 :: .int x :: Ls) (st) (h) := e_istore dX7_reckonSums_46 rfl (by decide) (by unfold catOK; show (_ || (v3.category == 1)) = true; rw [hc9]; rfl)
theorem iX7_reckonSums_48 {v0 : Value} {v1 : Value} {v2 : Value} {v3 : Value} {x : Int32} {Ls st : List Value} {h : AH} : ev L xs mdX7_reckonSums 48 (v0 :: v1 :: v2 :: v3 :: .int x :: Ls) (st) h = ev L xs mdX7_reckonSums 50 (v0 :: v1 :: v2 :: v3 :: .int x :: Ls) (.int x :: st) (h) := e_iload dX7_reckonSums_48 rfl
theorem iX7_reckonSums_50 {x : Int32} {Ls st : List Value} {h : AH} : ev L xs mdX7_reckonSums 50 Ls (.int x :: st) h = if x < nI 0 then ev L xs mdX7_reckonSums 242 Ls st h else ev L xs mdX7_reckonSums 53 Ls st h := e_if_lt dX7_reckonSums_50 (by decide)
theorem iX7_reckonSums_53 {x : Nat} {Ls st : List Value} {h : AH} : ev L xs mdX7_reckonSums 53 (.ref x :: Ls) (st) h = ev L xs mdX7_reckonSums 54 (.ref x :: Ls) (.ref x :: st) (h) := e_aload_n dX7_reckonSums_53 rfl
theorem iX7_reckonSums_54 {a : Nat} {Ls st : List Value} {h : AH} (hk : hK h a = 7) (hj : (hR h 121 a).isSome = true) : ev L xs mdX7_reckonSums 54 (Ls) (.ref a :: st) h = ev L xs mdX7_reckonSums 57 (Ls) (.ref ((hR h 121 a).getD 0) :: st) (h) := e_getR (k := 7) (f := 9) (F := 121) dX7_reckonSums_54 (by decide +kernel) rfl rfl hk hj
theorem iX7_reckonSums_57 {v0 : Value} {v1 : Value} {v2 : Value} {x : Int32} {Ls st : List Value} {h : AH} : ev L xs mdX7_reckonSums 57 (v0 :: v1 :: v2 :: .int x :: Ls) (st) h = ev L xs mdX7_reckonSums 58 (v0 :: v1 :: v2 :: .int x :: Ls) (.int x :: st) (h) := e_iload_n dX7_reckonSums_57 rfl
theorem iX7_reckonSums_58 {a : Nat} {j : Int32} {Ls st : List Value} {h : AH} (hk : hK h a = 8) (hi : inA j (hN h a) = true) : ev L xs mdX7_reckonSums 58 (Ls) (.int j :: .ref a :: st) h = ev L xs mdX7_reckonSums 59 (Ls) (.int (hA h a j.toNatClampNeg) :: st) (h) := e_iald dX7_reckonSums_58 hk hi
theorem iX7_reckonSums_59 {x : Int32} {Ls st : List Value} {h : AH} : ev L xs mdX7_reckonSums 59 Ls (.int x :: st) h = if x = nI 0 then ev L xs mdX7_reckonSums 62 Ls st h else ev L xs mdX7_reckonSums 242 Ls st h := e_if_ne dX7_reckonSums_59 (by decide)
theorem iX7_reckonSums_62 {x : Nat} {Ls st : List Value} {h : AH} : ev L xs mdX7_reckonSums 62 (.ref x :: Ls) (st) h = ev L xs mdX7_reckonSums 63 (.ref x :: Ls) (.ref x :: st) (h) := e_aload_n dX7_reckonSums_62 rfl
theorem iX7_reckonSums_63 {x : Nat} {Ls st : List Value} {h : AH} : ev L xs mdX7_reckonSums 63 (.ref x :: Ls) (st) h = ev L xs mdX7_reckonSums 64 (.ref x :: Ls) (.ref x :: st) (h) := e_aload_n dX7_reckonSums_63 rfl
theorem iX7_reckonSums_64 {a : Nat} {Ls st : List Value} {h : AH} (hk : hK h a = 7) (hj : (hR h 113 a).isSome = true) : ev L xs mdX7_reckonSums 64 (Ls) (.ref a :: st) h = ev L xs mdX7_reckonSums 67 (Ls) (.ref ((hR h 113 a).getD 0) :: st) (h) := e_getR (k := 7) (f := 1) (F := 113) dX7_reckonSums_64 (by decide +kernel) rfl rfl hk hj
theorem iX7_reckonSums_67 {v0 : Value} {v1 : Value} {v2 : Value} {x : Int32} {Ls st : List Value} {h : AH} : ev L xs mdX7_reckonSums 67 (v0 :: v1 :: v2 :: .int x :: Ls) (st) h = ev L xs mdX7_reckonSums 68 (v0 :: v1 :: v2 :: .int x :: Ls) (.int x :: st) (h) := e_iload_n dX7_reckonSums_67 rfl
theorem iX7_reckonSums_68 {v0 : Value} {x : Int32} {Ls st : List Value} {h : AH} : ev L xs mdX7_reckonSums 68 (v0 :: .int x :: Ls) (st) h = ev L xs mdX7_reckonSums 69 (v0 :: .int x :: Ls) (.int x :: st) (h) := e_iload_n dX7_reckonSums_68 rfl
theorem iX7_reckonSums_69 {a : Nat} {p0 : Nat} {p1 : Int32} {p2 : Int32} {Ls st : List Value} {h : AH} (hk : hK h a = 7) (hw : wds st ≤ 8) : ev L xs mdX7_reckonSums 69 Ls (.int p2 :: .int p1 :: .ref p0 :: .ref a :: st) h = kn L xs mdX7_reckonSums 69 72 Ls st (ev L xs mdX7_isSick 0 [.ref a, .ref p0, .int p1, .int p2] [] h) := e_callV (as := [.int p2, .int p1, .ref p0]) dX7_reckonSums_69 mr_7_59 (by decide) (by decide) rfl (by simp [wds, Value.category]; decide) rfl (by decide) hk hw
theorem iX7_reckonSums_72 {x : Int32} {Ls st : List Value} {h : AH} : ev L xs mdX7_reckonSums 72 Ls (.int x :: st) h = if x = nI 0 then ev L xs mdX7_reckonSums 75 Ls st h else ev L xs mdX7_reckonSums 242 Ls st h := e_if_ne dX7_reckonSums_72 (by decide)
theorem iX7_reckonSums_75  {Ls st : List Value} {h : AH} : ev L xs mdX7_reckonSums 75 (Ls) (st) h = ev L xs mdX7_reckonSums 76 (Ls) (.int (nI 0) :: st) (h) := e_iconst dX7_reckonSums_75 (by decide)
theorem iX7_reckonSums_76 {v0 : Value} {v1 : Value} {v2 : Value} {v3 : Value} {v4 : Value} {v5 : Value} {x : Int32} {Ls st : List Value} {h : AH} (hc9 : v4.category = 1) : ev L xs mdX7_reckonSums 76 (v0 :: v1 :: v2 :: v3 :: v4 :: v5 :: Ls) (.int x :: st) h = ev L xs mdX7_reckonSums 78 (v0 :: v1 :: v2 :: v3 :: v4 :: .int x :: Ls) (st) (h) := e_istore dX7_reckonSums_76 rfl (by decide) (by unfold catOK; show (_ || (v4.category == 1)) = true; rw [hc9]; rfl)
theorem iX7_reckonSums_78 {v0 : Value} {v1 : Value} {v2 : Value} {v3 : Value} {v4 : Value} {x : Int32} {Ls st : List Value} {h : AH} : ev L xs mdX7_reckonSums 78 (v0 :: v1 :: v2 :: v3 :: v4 :: .int x :: Ls) (st) h = ev L xs mdX7_reckonSums 80 (v0 :: v1 :: v2 :: v3 :: v4 :: .int x :: Ls) (.int x :: st) (h) := e_iload dX7_reckonSums_78 rfl
theorem iX7_reckonSums_80 {x : Nat} {Ls st : List Value} {h : AH} : ev L xs mdX7_reckonSums 80 (.ref x :: Ls) (st) h = ev L xs mdX7_reckonSums 81 (.ref x :: Ls) (.ref x :: st) (h) := e_aload_n dX7_reckonSums_80 rfl
theorem iX7_reckonSums_81 {a : Nat} {Ls st : List Value} {h : AH} (hk : hK h a = 7) (hj : (hR h 113 a).isSome = true) : ev L xs mdX7_reckonSums 81 (Ls) (.ref a :: st) h = ev L xs mdX7_reckonSums 84 (Ls) (.ref ((hR h 113 a).getD 0) :: st) (h) := e_getR (k := 7) (f := 1) (F := 113) dX7_reckonSums_81 (by decide +kernel) rfl rfl hk hj
theorem iX7_reckonSums_84  {Ls st : List Value} {h : AH} : ev L xs mdX7_reckonSums 84 (Ls) (st) h = ev L xs mdX7_reckonSums 85 (Ls) (.int (nI 3) :: st) (h) := e_iconst dX7_reckonSums_84 (by decide)
theorem iX7_reckonSums_85 {a : Nat} {j : Int32} {Ls st : List Value} {h : AH} (hk : hK h a = 8) (hi : inA j (hN h a) = true) : ev L xs mdX7_reckonSums 85 (Ls) (.int j :: .ref a :: st) h = ev L xs mdX7_reckonSums 86 (Ls) (.int (hA h a j.toNatClampNeg) :: st) (h) := e_iald dX7_reckonSums_85 hk hi
theorem iX7_reckonSums_86 {x z : Int32} {Ls st : List Value} {h : AH} : ev L xs mdX7_reckonSums 86 Ls (.int z :: .int x :: st) h = if z ≤ x then ev L xs mdX7_reckonSums 236 Ls st h else ev L xs mdX7_reckonSums 89 Ls st h := e_ic_ge dX7_reckonSums_86 (by decide)
theorem iX7_reckonSums_89 {x : Nat} {Ls st : List Value} {h : AH} : ev L xs mdX7_reckonSums 89 (.ref x :: Ls) (st) h = ev L xs mdX7_reckonSums 90 (.ref x :: Ls) (.ref x :: st) (h) := e_aload_n dX7_reckonSums_89 rfl
theorem iX7_reckonSums_90 {a : Nat} {Ls st : List Value} {h : AH} (hk : hK h a = 7) (hj : (hR h 123 a).isSome = true) : ev L xs mdX7_reckonSums 90 (Ls) (.ref a :: st) h = ev L xs mdX7_reckonSums 93 (Ls) (.ref ((hR h 123 a).getD 0) :: st) (h) := e_getR (k := 7) (f := 11) (F := 123) dX7_reckonSums_90 (by decide +kernel) rfl rfl hk hj
theorem iX7_reckonSums_93 {v0 : Value} {v1 : Value} {v2 : Value} {v3 : Value} {x : Int32} {Ls st : List Value} {h : AH} : ev L xs mdX7_reckonSums 93 (v0 :: v1 :: v2 :: v3 :: .int x :: Ls) (st) h = ev L xs mdX7_reckonSums 95 (v0 :: v1 :: v2 :: v3 :: .int x :: Ls) (.int x :: st) (h) := e_iload dX7_reckonSums_93 rfl
theorem iX7_reckonSums_95 {a : Nat} {j : Int32} {Ls st : List Value} {h : AH} (hk : hK h a = 8) (hi : inA j (hN h a) = true) : ev L xs mdX7_reckonSums 95 (Ls) (.int j :: .ref a :: st) h = ev L xs mdX7_reckonSums 96 (Ls) (.int (hA h a j.toNatClampNeg) :: st) (h) := e_iald dX7_reckonSums_95 hk hi
theorem iX7_reckonSums_96  {Ls st : List Value} {h : AH} : ev L xs mdX7_reckonSums 96 (Ls) (st) h = ev L xs mdX7_reckonSums 98 (Ls) (.int (nI 100000) :: st) (h) := e_ldc dX7_reckonSums_96 (by decide +kernel)
theorem iX7_reckonSums_98 {x z : Int32} {Ls st : List Value} {h : AH} : ev L xs mdX7_reckonSums 98 Ls (.int z :: .int x :: st) h = if z ≤ x then ev L xs mdX7_reckonSums 236 Ls st h else ev L xs mdX7_reckonSums 101 Ls st h := e_ic_ge dX7_reckonSums_98 (by decide)
theorem iX7_reckonSums_101 {v0 : Value} {v1 : Value} {v2 : Value} {v3 : Value} {x : Int32} {Ls st : List Value} {h : AH} : ev L xs mdX7_reckonSums 101 (v0 :: v1 :: v2 :: v3 :: .int x :: Ls) (st) h = ev L xs mdX7_reckonSums 103 (v0 :: v1 :: v2 :: v3 :: .int x :: Ls) (.int x :: st) (h) := e_iload dX7_reckonSums_101 rfl
theorem iX7_reckonSums_103 {v0 : Value} {v1 : Value} {v2 : Value} {v3 : Value} {v4 : Value} {x : Int32} {Ls st : List Value} {h : AH} : ev L xs mdX7_reckonSums 103 (v0 :: v1 :: v2 :: v3 :: v4 :: .int x :: Ls) (st) h = ev L xs mdX7_reckonSums 105 (v0 :: v1 :: v2 :: v3 :: v4 :: .int x :: Ls) (.int x :: st) (h) := e_iload dX7_reckonSums_103 rfl
theorem iX7_reckonSums_105 {x z : Int32} {Ls st : List Value} {h : AH} : ev L xs mdX7_reckonSums 105 (Ls) (.int z :: .int x :: st) h = ev L xs mdX7_reckonSums 106 (Ls) (.int (x >>> (z &&& nI 31)) :: st) (h) := e_ishr dX7_reckonSums_105
theorem iX7_reckonSums_106  {Ls st : List Value} {h : AH} : ev L xs mdX7_reckonSums 106 (Ls) (st) h = ev L xs mdX7_reckonSums 107 (Ls) (.int (nI 1) :: st) (h) := e_iconst dX7_reckonSums_106 (by decide)
theorem iX7_reckonSums_107 {x z : Int32} {Ls st : List Value} {h : AH} : ev L xs mdX7_reckonSums 107 (Ls) (.int z :: .int x :: st) h = ev L xs mdX7_reckonSums 108 (Ls) (.int (x &&& z) :: st) (h) := e_iand dX7_reckonSums_107
theorem iX7_reckonSums_108 {x : Int32} {Ls st : List Value} {h : AH} : ev L xs mdX7_reckonSums 108 Ls (.int x :: st) h = if x = nI 0 then ev L xs mdX7_reckonSums 111 Ls st h else ev L xs mdX7_reckonSums 162 Ls st h := e_if_ne dX7_reckonSums_108 (by decide)
theorem iX7_reckonSums_111 {x : Nat} {Ls st : List Value} {h : AH} : ev L xs mdX7_reckonSums 111 (.ref x :: Ls) (st) h = ev L xs mdX7_reckonSums 112 (.ref x :: Ls) (.ref x :: st) (h) := e_aload_n dX7_reckonSums_111 rfl
theorem iX7_reckonSums_112 {a : Nat} {Ls st : List Value} {h : AH} (hk : hK h a = 7) (hj : (hR h 119 a).isSome = true) : ev L xs mdX7_reckonSums 112 (Ls) (.ref a :: st) h = ev L xs mdX7_reckonSums 115 (Ls) (.ref ((hR h 119 a).getD 0) :: st) (h) := e_getR (k := 7) (f := 7) (F := 119) dX7_reckonSums_112 (by decide +kernel) rfl rfl hk hj
theorem iX7_reckonSums_115 {v0 : Value} {v1 : Value} {v2 : Value} {v3 : Value} {v4 : Value} {x : Int32} {Ls st : List Value} {h : AH} : ev L xs mdX7_reckonSums 115 (v0 :: v1 :: v2 :: v3 :: v4 :: .int x :: Ls) (st) h = ev L xs mdX7_reckonSums 117 (v0 :: v1 :: v2 :: v3 :: v4 :: .int x :: Ls) (.int x :: st) (h) := e_iload dX7_reckonSums_115 rfl
theorem iX7_reckonSums_117 {a : Nat} {j : Int32} {Ls st : List Value} {h : AH} (hk : hK h a = 8) (hi : inA j (hN h a) = true) : ev L xs mdX7_reckonSums 117 (Ls) (.int j :: .ref a :: st) h = ev L xs mdX7_reckonSums 118 (Ls) (.int (hA h a j.toNatClampNeg) :: st) (h) := e_iald dX7_reckonSums_117 hk hi
theorem iX7_reckonSums_118  {Ls st : List Value} {h : AH} : ev L xs mdX7_reckonSums 118 (Ls) (st) h = ev L xs mdX7_reckonSums 119 (Ls) (.int (-1) :: st) (h) := e_iconst dX7_reckonSums_118 (by decide)
theorem iX7_reckonSums_119 {x z : Int32} {Ls st : List Value} {h : AH} : ev L xs mdX7_reckonSums 119 Ls (.int z :: .int x :: st) h = if x = z then ev L xs mdX7_reckonSums 122 Ls st h else ev L xs mdX7_reckonSums 162 Ls st h := e_ic_ne dX7_reckonSums_119 (by decide)
theorem iX7_reckonSums_122 {x : Nat} {Ls st : List Value} {h : AH} : ev L xs mdX7_reckonSums 122 (.ref x :: Ls) (st) h = ev L xs mdX7_reckonSums 123 (.ref x :: Ls) (.ref x :: st) (h) := e_aload_n dX7_reckonSums_122 rfl
theorem iX7_reckonSums_123 {a : Nat} {Ls st : List Value} {h : AH} (hk : hK h a = 7) (hj : (hR h 113 a).isSome = true) : ev L xs mdX7_reckonSums 123 (Ls) (.ref a :: st) h = ev L xs mdX7_reckonSums 126 (Ls) (.ref ((hR h 113 a).getD 0) :: st) (h) := e_getR (k := 7) (f := 1) (F := 113) dX7_reckonSums_123 (by decide +kernel) rfl rfl hk hj
theorem iX7_reckonSums_126 {v0 : Value} {v1 : Value} {v2 : Value} {v3 : Value} {v4 : Value} {x : Int32} {Ls st : List Value} {h : AH} : ev L xs mdX7_reckonSums 126 (v0 :: v1 :: v2 :: v3 :: v4 :: .int x :: Ls) (st) h = ev L xs mdX7_reckonSums 128 (v0 :: v1 :: v2 :: v3 :: v4 :: .int x :: Ls) (.int x :: st) (h) := e_iload dX7_reckonSums_126 rfl
theorem iX7_reckonSums_128 {v0 : Value} {x : Int32} {Ls st : List Value} {h : AH} : ev L xs mdX7_reckonSums 128 (v0 :: .int x :: Ls) (st) h = ev L xs mdX7_reckonSums 129 (v0 :: .int x :: Ls) (.int x :: st) (h) := e_iload_n dX7_reckonSums_128 rfl
theorem iX7_reckonSums_129 {v0 : Value} {v1 : Value} {x : Int32} {Ls st : List Value} {h : AH} : ev L xs mdX7_reckonSums 129 (v0 :: v1 :: .int x :: Ls) (st) h = ev L xs mdX7_reckonSums 130 (v0 :: v1 :: .int x :: Ls) (.int x :: st) (h) := e_iload_n dX7_reckonSums_129 rfl
theorem iX7_reckonSums_130 {p0 : Nat} {p1 : Int32} {p2 : Int32} {p3 : Int32} {Ls st : List Value} {h : AH} (hw : wds st ≤ 8) : ev L xs mdX7_reckonSums 130 Ls (.int p3 :: .int p2 :: .int p1 :: .ref p0 :: st) h = kn L xs mdX7_reckonSums 130 133 Ls st (ev L xs mdX7_isNeeded 0 [.ref p0, .int p1, .int p2, .int p3] [] h) := e_callS (as := [.int p3, .int p2, .int p1, .ref p0]) dX7_reckonSums_130 mr_7_63 (by decide) (by decide) rfl (by simp [wds, Value.category]; decide) rfl hw
theorem iX7_reckonSums_133 {x : Int32} {Ls st : List Value} {h : AH} : ev L xs mdX7_reckonSums 133 Ls (.int x :: st) h = if x = nI 0 then ev L xs mdX7_reckonSums 162 Ls st h else ev L xs mdX7_reckonSums 136 Ls st h := e_if_eq dX7_reckonSums_133 (by decide)
theorem iX7_reckonSums_136 {x : Nat} {Ls st : List Value} {h : AH} : ev L xs mdX7_reckonSums 136 (.ref x :: Ls) (st) h = ev L xs mdX7_reckonSums 137 (.ref x :: Ls) (.ref x :: st) (h) := e_aload_n dX7_reckonSums_136 rfl
theorem iX7_reckonSums_137 {a : Nat} {Ls st : List Value} {h : AH} (hk : hK h a = 7) (hj : (hR h 113 a).isSome = true) : ev L xs mdX7_reckonSums 137 (Ls) (.ref a :: st) h = ev L xs mdX7_reckonSums 140 (Ls) (.ref ((hR h 113 a).getD 0) :: st) (h) := e_getR (k := 7) (f := 1) (F := 113) dX7_reckonSums_137 (by decide +kernel) rfl rfl hk hj
theorem iX7_reckonSums_140 {v0 : Value} {v1 : Value} {v2 : Value} {x : Int32} {Ls st : List Value} {h : AH} : ev L xs mdX7_reckonSums 140 (v0 :: v1 :: v2 :: .int x :: Ls) (st) h = ev L xs mdX7_reckonSums 141 (v0 :: v1 :: v2 :: .int x :: Ls) (.int x :: st) (h) := e_iload_n dX7_reckonSums_140 rfl
theorem iX7_reckonSums_141  {Ls st : List Value} {h : AH} : ev L xs mdX7_reckonSums 141 (Ls) (st) h = ev L xs mdX7_reckonSums 142 (Ls) (.int (nI 1) :: st) (h) := e_iconst dX7_reckonSums_141 (by decide)
theorem iX7_reckonSums_142 {p0 : Nat} {p1 : Int32} {p2 : Int32} {Ls st : List Value} {h : AH} (hw : wds st ≤ 8) : ev L xs mdX7_reckonSums 142 Ls (.int p2 :: .int p1 :: .ref p0 :: st) h = kn L xs mdX7_reckonSums 142 145 Ls st (ev L xs mdX7_by 0 [.ref p0, .int p1, .int p2] [] h) := e_callS (as := [.int p2, .int p1, .ref p0]) dX7_reckonSums_142 mr_7_56 (by decide) (by decide) rfl (by simp [wds, Value.category]; decide) rfl hw
theorem iX7_reckonSums_145 {x : Nat} {Ls st : List Value} {h : AH} : ev L xs mdX7_reckonSums 145 (.ref x :: Ls) (st) h = ev L xs mdX7_reckonSums 146 (.ref x :: Ls) (.ref x :: st) (h) := e_aload_n dX7_reckonSums_145 rfl
theorem iX7_reckonSums_146 {a : Nat} {Ls st : List Value} {h : AH} (hk : hK h a = 7) (hj : (hR h 113 a).isSome = true) : ev L xs mdX7_reckonSums 146 (Ls) (.ref a :: st) h = ev L xs mdX7_reckonSums 149 (Ls) (.ref ((hR h 113 a).getD 0) :: st) (h) := e_getR (k := 7) (f := 1) (F := 113) dX7_reckonSums_146 (by decide +kernel) rfl rfl hk hj
theorem iX7_reckonSums_149 {v0 : Value} {v1 : Value} {v2 : Value} {x : Int32} {Ls st : List Value} {h : AH} : ev L xs mdX7_reckonSums 149 (v0 :: v1 :: v2 :: .int x :: Ls) (st) h = ev L xs mdX7_reckonSums 150 (v0 :: v1 :: v2 :: .int x :: Ls) (.int x :: st) (h) := e_iload_n dX7_reckonSums_149 rfl
theorem iX7_reckonSums_150 {v0 : Value} {v1 : Value} {v2 : Value} {v3 : Value} {v4 : Value} {x : Int32} {Ls st : List Value} {h : AH} : ev L xs mdX7_reckonSums 150 (v0 :: v1 :: v2 :: v3 :: v4 :: .int x :: Ls) (st) h = ev L xs mdX7_reckonSums 152 (v0 :: v1 :: v2 :: v3 :: v4 :: .int x :: Ls) (.int x :: st) (h) := e_iload dX7_reckonSums_150 rfl
theorem iX7_reckonSums_152 {p0 : Nat} {p1 : Int32} {p2 : Int32} {Ls st : List Value} {h : AH} (hw : wds st ≤ 8) : ev L xs mdX7_reckonSums 152 Ls (.int p2 :: .int p1 :: .ref p0 :: st) h = kn L xs mdX7_reckonSums 152 155 Ls st (ev L xs mdX7_distance 0 [.ref p0, .int p1, .int p2, .null] [] h) := e_callS (as := [.int p2, .int p1, .ref p0]) dX7_reckonSums_152 mr_7_67 (by decide) (by decide) rfl (by simp [wds, Value.category]; decide) rfl hw
theorem iX7_reckonSums_155 {x z : Int32} {Ls st : List Value} {h : AH} : ev L xs mdX7_reckonSums 155 Ls (.int z :: .int x :: st) h = if x < z then ev L xs mdX7_reckonSums 162 Ls st h else ev L xs mdX7_reckonSums 158 Ls st h := e_ic_lt dX7_reckonSums_155 (by decide)
theorem iX7_reckonSums_158  {Ls st : List Value} {h : AH} : ev L xs mdX7_reckonSums 158 (Ls) (st) h = ev L xs mdX7_reckonSums 159 (Ls) (.int (nI 1) :: st) (h) := e_iconst dX7_reckonSums_158 (by decide)
theorem iX7_reckonSums_159  {Ls st : List Value} {h : AH} : ev L xs mdX7_reckonSums 159 (Ls) (st) h = ev L xs mdX7_reckonSums 163 (Ls) (st) (h) := e_goto dX7_reckonSums_159 (by decide)
theorem iX7_reckonSums_162  {Ls st : List Value} {h : AH} : ev L xs mdX7_reckonSums 162 (Ls) (st) h = ev L xs mdX7_reckonSums 163 (Ls) (.int (nI 0) :: st) (h) := e_iconst dX7_reckonSums_162 (by decide)
theorem iX7_reckonSums_163 {v0 : Value} {v1 : Value} {v2 : Value} {v3 : Value} {v4 : Value} {v5 : Value} {v6 : Value} {x : Int32} {Ls st : List Value} {h : AH} (hc9 : v5.category = 1) : ev L xs mdX7_reckonSums 163 (v0 :: v1 :: v2 :: v3 :: v4 :: v5 :: v6 :: Ls) (.int x :: st) h = ev L xs mdX7_reckonSums 165 (v0 :: v1 :: v2 :: v3 :: v4 :: v5 :: .int x :: Ls) (st) (h) := e_istore dX7_reckonSums_163 rfl (by decide) (by unfold catOK; show (_ || (v5.category == 1)) = true; rw [hc9]; rfl)
theorem iX7_reckonSums_165 {v0 : Value} {v1 : Value} {v2 : Value} {v3 : Value} {x : Int32} {Ls st : List Value} {h : AH} : ev L xs mdX7_reckonSums 165 (v0 :: v1 :: v2 :: v3 :: .int x :: Ls) (st) h = ev L xs mdX7_reckonSums 167 (v0 :: v1 :: v2 :: v3 :: .int x :: Ls) (.int x :: st) (h) := e_iload dX7_reckonSums_165 rfl
theorem iX7_reckonSums_167  {Ls st : List Value} {h : AH} : ev L xs mdX7_reckonSums 167 (Ls) (st) h = ev L xs mdX7_reckonSums 168 (Ls) (.int (nI 1) :: st) (h) := e_iconst dX7_reckonSums_167 (by decide)
theorem iX7_reckonSums_168 {v0 : Value} {v1 : Value} {v2 : Value} {v3 : Value} {v4 : Value} {x : Int32} {Ls st : List Value} {h : AH} : ev L xs mdX7_reckonSums 168 (v0 :: v1 :: v2 :: v3 :: v4 :: .int x :: Ls) (st) h = ev L xs mdX7_reckonSums 170 (v0 :: v1 :: v2 :: v3 :: v4 :: .int x :: Ls) (.int x :: st) (h) := e_iload dX7_reckonSums_168 rfl
theorem iX7_reckonSums_170 {x z : Int32} {Ls st : List Value} {h : AH} : ev L xs mdX7_reckonSums 170 (Ls) (.int z :: .int x :: st) h = ev L xs mdX7_reckonSums 171 (Ls) (.int (x <<< (z &&& nI 31)) :: st) (h) := e_ishl dX7_reckonSums_170
theorem iX7_reckonSums_171 {x z : Int32} {Ls st : List Value} {h : AH} : ev L xs mdX7_reckonSums 171 (Ls) (.int z :: .int x :: st) h = ev L xs mdX7_reckonSums 172 (Ls) (.int (x ||| z) :: st) (h) := e_ior dX7_reckonSums_171
theorem iX7_reckonSums_172 {v0 : Value} {v1 : Value} {v2 : Value} {v3 : Value} {v4 : Value} {v5 : Value} {v6 : Value} {v7 : Value} {x : Int32} {Ls st : List Value} {h : AH} (hc9 : v6.category = 1) : ev L xs mdX7_reckonSums 172 (v0 :: v1 :: v2 :: v3 :: v4 :: v5 :: v6 :: v7 :: Ls) (.int x :: st) h = ev L xs mdX7_reckonSums 174 (v0 :: v1 :: v2 :: v3 :: v4 :: v5 :: v6 :: .int x :: Ls) (st) (h) := e_istore dX7_reckonSums_172 rfl (by decide) (by unfold catOK; show (_ || (v6.category == 1)) = true; rw [hc9]; rfl)
theorem iX7_reckonSums_174 {x : Nat} {Ls st : List Value} {h : AH} : ev L xs mdX7_reckonSums 174 (.ref x :: Ls) (st) h = ev L xs mdX7_reckonSums 175 (.ref x :: Ls) (.ref x :: st) (h) := e_aload_n dX7_reckonSums_174 rfl
theorem iX7_reckonSums_175 {a : Nat} {Ls st : List Value} {h : AH} (hk : hK h a = 7) (hj : (hR h 123 a).isSome = true) : ev L xs mdX7_reckonSums 175 (Ls) (.ref a :: st) h = ev L xs mdX7_reckonSums 178 (Ls) (.ref ((hR h 123 a).getD 0) :: st) (h) := e_getR (k := 7) (f := 11) (F := 123) dX7_reckonSums_175 (by decide +kernel) rfl rfl hk hj
theorem iX7_reckonSums_178 {v0 : Value} {v1 : Value} {v2 : Value} {v3 : Value} {x : Int32} {Ls st : List Value} {h : AH} : ev L xs mdX7_reckonSums 178 (v0 :: v1 :: v2 :: v3 :: .int x :: Ls) (st) h = ev L xs mdX7_reckonSums 180 (v0 :: v1 :: v2 :: v3 :: .int x :: Ls) (.int x :: st) (h) := e_iload dX7_reckonSums_178 rfl
theorem iX7_reckonSums_180 {a : Nat} {j : Int32} {Ls st : List Value} {h : AH} (hk : hK h a = 8) (hi : inA j (hN h a) = true) : ev L xs mdX7_reckonSums 180 (Ls) (.int j :: .ref a :: st) h = ev L xs mdX7_reckonSums 181 (Ls) (.int (hA h a j.toNatClampNeg) :: st) (h) := e_iald dX7_reckonSums_180 hk hi
theorem iX7_reckonSums_181 {x : Nat} {Ls st : List Value} {h : AH} : ev L xs mdX7_reckonSums 181 (.ref x :: Ls) (st) h = ev L xs mdX7_reckonSums 182 (.ref x :: Ls) (.ref x :: st) (h) := e_aload_n dX7_reckonSums_181 rfl
theorem iX7_reckonSums_182 {a : Nat} {Ls st : List Value} {h : AH} (hk : hK h a = 7) (hj : (hR h 113 a).isSome = true) : ev L xs mdX7_reckonSums 182 (Ls) (.ref a :: st) h = ev L xs mdX7_reckonSums 185 (Ls) (.ref ((hR h 113 a).getD 0) :: st) (h) := e_getR (k := 7) (f := 1) (F := 113) dX7_reckonSums_182 (by decide +kernel) rfl rfl hk hj
theorem iX7_reckonSums_185 {v0 : Value} {v1 : Value} {v2 : Value} {x : Int32} {Ls st : List Value} {h : AH} : ev L xs mdX7_reckonSums 185 (v0 :: v1 :: v2 :: .int x :: Ls) (st) h = ev L xs mdX7_reckonSums 186 (v0 :: v1 :: v2 :: .int x :: Ls) (.int x :: st) (h) := e_iload_n dX7_reckonSums_185 rfl
theorem iX7_reckonSums_186 {v0 : Value} {v1 : Value} {v2 : Value} {v3 : Value} {v4 : Value} {x : Int32} {Ls st : List Value} {h : AH} : ev L xs mdX7_reckonSums 186 (v0 :: v1 :: v2 :: v3 :: v4 :: .int x :: Ls) (st) h = ev L xs mdX7_reckonSums 188 (v0 :: v1 :: v2 :: v3 :: v4 :: .int x :: Ls) (.int x :: st) (h) := e_iload dX7_reckonSums_186 rfl
theorem iX7_reckonSums_188 {p0 : Nat} {p1 : Int32} {p2 : Int32} {Ls st : List Value} {h : AH} (hw : wds st ≤ 8) : ev L xs mdX7_reckonSums 188 Ls (.int p2 :: .int p1 :: .ref p0 :: st) h = kn L xs mdX7_reckonSums 188 191 Ls st (ev L xs mdX7_distance 0 [.ref p0, .int p1, .int p2, .null] [] h) := e_callS (as := [.int p2, .int p1, .ref p0]) dX7_reckonSums_188 mr_7_67 (by decide) (by decide) rfl (by simp [wds, Value.category]; decide) rfl hw
theorem iX7_reckonSums_191 {x z : Int32} {Ls st : List Value} {h : AH} : ev L xs mdX7_reckonSums 191 (Ls) (.int z :: .int x :: st) h = ev L xs mdX7_reckonSums 192 (Ls) (.int (x + z) :: st) (h) := e_iadd dX7_reckonSums_191
theorem iX7_reckonSums_192 {v0 : Value} {v1 : Value} {v2 : Value} {v3 : Value} {v4 : Value} {v5 : Value} {v6 : Value} {v7 : Value} {v8 : Value} {x : Int32} {Ls st : List Value} {h : AH} (hc9 : v7.category = 1) : ev L xs mdX7_reckonSums 192 (v0 :: v1 :: v2 :: v3 :: v4 :: v5 :: v6 :: v7 :: v8 :: Ls) (.int x :: st) h = ev L xs mdX7_reckonSums 194 (v0 :: v1 :: v2 :: v3 :: v4 :: v5 :: v6 :: v7 :: .int x :: Ls) (st) (h) := e_istore dX7_reckonSums_192 rfl (by decide) (by unfold catOK; show (_ || (v7.category == 1)) = true; rw [hc9]; rfl)
theorem iX7_reckonSums_194 {x : Nat} {Ls st : List Value} {h : AH} : ev L xs mdX7_reckonSums 194 (.ref x :: Ls) (st) h = ev L xs mdX7_reckonSums 195 (.ref x :: Ls) (.ref x :: st) (h) := e_aload_n dX7_reckonSums_194 rfl
theorem iX7_reckonSums_195 {a : Nat} {Ls st : List Value} {h : AH} (hk : hK h a = 7) (hj : (hR h 123 a).isSome = true) : ev L xs mdX7_reckonSums 195 (Ls) (.ref a :: st) h = ev L xs mdX7_reckonSums 198 (Ls) (.ref ((hR h 123 a).getD 0) :: st) (h) := e_getR (k := 7) (f := 11) (F := 123) dX7_reckonSums_195 (by decide +kernel) rfl rfl hk hj
theorem iX7_reckonSums_198 {v0 : Value} {v1 : Value} {v2 : Value} {v3 : Value} {v4 : Value} {v5 : Value} {v6 : Value} {x : Int32} {Ls st : List Value} {h : AH} : ev L xs mdX7_reckonSums 198 (v0 :: v1 :: v2 :: v3 :: v4 :: v5 :: v6 :: .int x :: Ls) (st) h = ev L xs mdX7_reckonSums 200 (v0 :: v1 :: v2 :: v3 :: v4 :: v5 :: v6 :: .int x :: Ls) (.int x :: st) (h) := e_iload dX7_reckonSums_198 rfl
theorem iX7_reckonSums_200 {v0 : Value} {v1 : Value} {v2 : Value} {v3 : Value} {v4 : Value} {v5 : Value} {x : Int32} {Ls st : List Value} {h : AH} : ev L xs mdX7_reckonSums 200 (v0 :: v1 :: v2 :: v3 :: v4 :: v5 :: .int x :: Ls) (st) h = ev L xs mdX7_reckonSums 202 (v0 :: v1 :: v2 :: v3 :: v4 :: v5 :: .int x :: Ls) (.int x :: st) (h) := e_iload dX7_reckonSums_200 rfl
theorem iX7_reckonSums_202 {x : Int32} {Ls st : List Value} {h : AH} : ev L xs mdX7_reckonSums 202 Ls (.int x :: st) h = if x = nI 0 then ev L xs mdX7_reckonSums 222 Ls st h else ev L xs mdX7_reckonSums 205 Ls st h := e_if_eq dX7_reckonSums_202 (by decide)
theorem iX7_reckonSums_205 {v0 : Value} {v1 : Value} {v2 : Value} {v3 : Value} {v4 : Value} {v5 : Value} {v6 : Value} {v7 : Value} {x : Int32} {Ls st : List Value} {h : AH} : ev L xs mdX7_reckonSums 205 (v0 :: v1 :: v2 :: v3 :: v4 :: v5 :: v6 :: v7 :: .int x :: Ls) (st) h = ev L xs mdX7_reckonSums 207 (v0 :: v1 :: v2 :: v3 :: v4 :: v5 :: v6 :: v7 :: .int x :: Ls) (.int x :: st) (h) := e_iload dX7_reckonSums_205 rfl
theorem iX7_reckonSums_207 {x : Nat} {Ls st : List Value} {h : AH} : ev L xs mdX7_reckonSums 207 (.ref x :: Ls) (st) h = ev L xs mdX7_reckonSums 208 (.ref x :: Ls) (.ref x :: st) (h) := e_aload_n dX7_reckonSums_207 rfl
theorem iX7_reckonSums_208 {a : Nat} {Ls st : List Value} {h : AH} (hk : hK h a = 7) (hj : (hR h 123 a).isSome = true) : ev L xs mdX7_reckonSums 208 (Ls) (.ref a :: st) h = ev L xs mdX7_reckonSums 211 (Ls) (.ref ((hR h 123 a).getD 0) :: st) (h) := e_getR (k := 7) (f := 11) (F := 123) dX7_reckonSums_208 (by decide +kernel) rfl rfl hk hj
theorem iX7_reckonSums_211 {v0 : Value} {v1 : Value} {v2 : Value} {v3 : Value} {v4 : Value} {v5 : Value} {v6 : Value} {x : Int32} {Ls st : List Value} {h : AH} : ev L xs mdX7_reckonSums 211 (v0 :: v1 :: v2 :: v3 :: v4 :: v5 :: v6 :: .int x :: Ls) (st) h = ev L xs mdX7_reckonSums 213 (v0 :: v1 :: v2 :: v3 :: v4 :: v5 :: v6 :: .int x :: Ls) (.int x :: st) (h) := e_iload dX7_reckonSums_211 rfl
theorem iX7_reckonSums_213 {a : Nat} {j : Int32} {Ls st : List Value} {h : AH} (hk : hK h a = 8) (hi : inA j (hN h a) = true) : ev L xs mdX7_reckonSums 213 (Ls) (.int j :: .ref a :: st) h = ev L xs mdX7_reckonSums 214 (Ls) (.int (hA h a j.toNatClampNeg) :: st) (h) := e_iald dX7_reckonSums_213 hk hi
theorem iX7_reckonSums_214 {x z : Int32} {Ls st : List Value} {h : AH} : ev L xs mdX7_reckonSums 214 Ls (.int z :: .int x :: st) h = if z ≤ x then ev L xs mdX7_reckonSums 222 Ls st h else ev L xs mdX7_reckonSums 217 Ls st h := e_ic_ge dX7_reckonSums_214 (by decide)
theorem iX7_reckonSums_217 {v0 : Value} {v1 : Value} {v2 : Value} {v3 : Value} {v4 : Value} {v5 : Value} {v6 : Value} {v7 : Value} {x : Int32} {Ls st : List Value} {h : AH} : ev L xs mdX7_reckonSums 217 (v0 :: v1 :: v2 :: v3 :: v4 :: v5 :: v6 :: v7 :: .int x :: Ls) (st) h = ev L xs mdX7_reckonSums 219 (v0 :: v1 :: v2 :: v3 :: v4 :: v5 :: v6 :: v7 :: .int x :: Ls) (.int x :: st) (h) := e_iload dX7_reckonSums_217 rfl
theorem iX7_reckonSums_219  {Ls st : List Value} {h : AH} : ev L xs mdX7_reckonSums 219 (Ls) (st) h = ev L xs mdX7_reckonSums 229 (Ls) (st) (h) := e_goto dX7_reckonSums_219 (by decide)
theorem iX7_reckonSums_222 {x : Nat} {Ls st : List Value} {h : AH} : ev L xs mdX7_reckonSums 222 (.ref x :: Ls) (st) h = ev L xs mdX7_reckonSums 223 (.ref x :: Ls) (.ref x :: st) (h) := e_aload_n dX7_reckonSums_222 rfl
theorem iX7_reckonSums_223 {a : Nat} {Ls st : List Value} {h : AH} (hk : hK h a = 7) (hj : (hR h 123 a).isSome = true) : ev L xs mdX7_reckonSums 223 (Ls) (.ref a :: st) h = ev L xs mdX7_reckonSums 226 (Ls) (.ref ((hR h 123 a).getD 0) :: st) (h) := e_getR (k := 7) (f := 11) (F := 123) dX7_reckonSums_223 (by decide +kernel) rfl rfl hk hj
theorem iX7_reckonSums_226 {v0 : Value} {v1 : Value} {v2 : Value} {v3 : Value} {v4 : Value} {v5 : Value} {v6 : Value} {x : Int32} {Ls st : List Value} {h : AH} : ev L xs mdX7_reckonSums 226 (v0 :: v1 :: v2 :: v3 :: v4 :: v5 :: v6 :: .int x :: Ls) (st) h = ev L xs mdX7_reckonSums 228 (v0 :: v1 :: v2 :: v3 :: v4 :: v5 :: v6 :: .int x :: Ls) (.int x :: st) (h) := e_iload dX7_reckonSums_226 rfl
theorem iX7_reckonSums_228 {a : Nat} {j : Int32} {Ls st : List Value} {h : AH} (hk : hK h a = 8) (hi : inA j (hN h a) = true) : ev L xs mdX7_reckonSums 228 (Ls) (.int j :: .ref a :: st) h = ev L xs mdX7_reckonSums 229 (Ls) (.int (hA h a j.toNatClampNeg) :: st) (h) := e_iald dX7_reckonSums_228 hk hi
theorem iX7_reckonSums_229 {a : Nat} {j : Int32} {v : Int32} {Ls st : List Value} {h : AH} (hk : hK h a = 8) (hi : inA j (hN h a) = true) : ev L xs mdX7_reckonSums 229 (Ls) (.int v :: .int j :: .ref a :: st) h = ev L xs mdX7_reckonSums 230 (Ls) (st) (sA h a j.toNatClampNeg v) := e_iast dX7_reckonSums_229 hk hi
theorem iX7_reckonSums_230 {v0 : Value} {v1 : Value} {v2 : Value} {v3 : Value} {v4 : Value} {x : Int32} {Ls st : List Value} {h : AH} (hc9 : v4.category = 1) : ev L xs mdX7_reckonSums 230 (v0 :: v1 :: v2 :: v3 :: v4 :: .int x :: Ls) (st) h = ev L xs mdX7_reckonSums 233 (v0 :: v1 :: v2 :: v3 :: v4 :: .int (x + (nI 1)) :: Ls) (st) (h) := e_iinc dX7_reckonSums_230 rfl rfl rfl (by decide) (by unfold catOK; show (_ || (v4.category == 1)) = true; rw [hc9]; rfl)
theorem iX7_reckonSums_233  {Ls st : List Value} {h : AH} : ev L xs mdX7_reckonSums 233 (Ls) (st) h = ev L xs mdX7_reckonSums 78 (Ls) (st) (h) := e_goto dX7_reckonSums_233 (by decide)
theorem iX7_reckonSums_236 {v0 : Value} {v1 : Value} {v2 : Value} {v3 : Value} {x : Int32} {Ls st : List Value} {h : AH} (hc9 : v3.category = 1) : ev L xs mdX7_reckonSums 236 (v0 :: v1 :: v2 :: v3 :: .int x :: Ls) (st) h = ev L xs mdX7_reckonSums 239 (v0 :: v1 :: v2 :: v3 :: .int (x + (-1)) :: Ls) (st) (h) := e_iinc dX7_reckonSums_236 rfl rfl rfl (by decide) (by unfold catOK; show (_ || (v3.category == 1)) = true; rw [hc9]; rfl)
theorem iX7_reckonSums_239  {Ls st : List Value} {h : AH} : ev L xs mdX7_reckonSums 239 (Ls) (st) h = ev L xs mdX7_reckonSums 48 (Ls) (st) (h) := e_goto dX7_reckonSums_239 (by decide)
theorem iX7_reckonSums_242 {v0 : Value} {v1 : Value} {v2 : Value} {x : Int32} {Ls st : List Value} {h : AH} (hc9 : v2.category = 1) : ev L xs mdX7_reckonSums 242 (v0 :: v1 :: v2 :: .int x :: Ls) (st) h = ev L xs mdX7_reckonSums 245 (v0 :: v1 :: v2 :: .int (x + (nI 1)) :: Ls) (st) (h) := e_iinc dX7_reckonSums_242 rfl rfl rfl (by decide) (by unfold catOK; show (_ || (v2.category == 1)) = true; rw [hc9]; rfl)
theorem iX7_reckonSums_245  {Ls st : List Value} {h : AH} : ev L xs mdX7_reckonSums 245 (Ls) (st) h = ev L xs mdX7_reckonSums 33 (Ls) (st) (h) := e_goto dX7_reckonSums_245 (by decide)
theorem iX7_reckonSums_248 {Ls : List Value} {h : AH} : ev L xs mdX7_reckonSums 248 Ls [] h = some (.inl (none, h)) := e_vret dX7_reckonSums_248 rfl
theorem dX7_replacementFor_0 : decode cX7_replacementFor 0 = .ok (.iconst (-1), 1) := by decide +kernel
theorem dX7_replacementFor_1 : decode cX7_replacementFor 1 = .ok (.istore 4, 2) := by decide +kernel
theorem dX7_replacementFor_3 : decode cX7_replacementFor 3 = .ok (.iconst 0, 1) := by decide +kernel
theorem dX7_replacementFor_4 : decode cX7_replacementFor 4 = .ok (.istore 5, 2) := by decide +kernel
theorem dX7_replacementFor_6 : decode cX7_replacementFor 6 = .ok (.iload 5, 2) := by decide +kernel
theorem dX7_replacementFor_8 : decode cX7_replacementFor 8 = .ok (.aload_n 1, 1) := by decide +kernel
theorem dX7_replacementFor_9 : decode cX7_replacementFor 9 = .ok (.iconst 4, 1) := by decide +kernel
theorem dX7_replacementFor_10 : decode cX7_replacementFor 10 = .ok (.iaload, 1) := by decide +kernel
theorem dX7_replacementFor_11 : decode cX7_replacementFor 11 = .ok (.if_icmp .ge 81, 3) := by decide +kernel
theorem dX7_replacementFor_14 : decode cX7_replacementFor 14 = .ok (.aload_n 0, 1) := by decide +kernel
theorem dX7_replacementFor_15 : decode cX7_replacementFor 15 = .ok (.getfield 28, 3) := by decide +kernel
theorem dX7_replacementFor_18 : decode cX7_replacementFor 18 = .ok (.iload 5, 2) := by decide +kernel
theorem dX7_replacementFor_20 : decode cX7_replacementFor 20 = .ok (.iaload, 1) := by decide +kernel
theorem dX7_replacementFor_21 : decode cX7_replacementFor 21 = .ok (.ifCond .ne 35, 3) := by decide +kernel
theorem dX7_replacementFor_24 : decode cX7_replacementFor 24 = .ok (.aload_n 0, 1) := by decide +kernel
theorem dX7_replacementFor_25 : decode cX7_replacementFor 25 = .ok (.aload_n 1, 1) := by decide +kernel
theorem dX7_replacementFor_26 : decode cX7_replacementFor 26 = .ok (.iload 5, 2) := by decide +kernel
theorem dX7_replacementFor_28 : decode cX7_replacementFor 28 = .ok (.iload_n 3, 1) := by decide +kernel
theorem dX7_replacementFor_29 : decode cX7_replacementFor 29 = .ok (.invokevirtual 59, 3) := by decide +kernel
theorem dX7_replacementFor_32 : decode cX7_replacementFor 32 = .ok (.ifCond .ne 24, 3) := by decide +kernel
theorem dX7_replacementFor_35 : decode cX7_replacementFor 35 = .ok (.aload_n 1, 1) := by decide +kernel
theorem dX7_replacementFor_36 : decode cX7_replacementFor 36 = .ok (.iload 5, 2) := by decide +kernel
theorem dX7_replacementFor_38 : decode cX7_replacementFor 38 = .ok (.iconst 1, 1) := by decide +kernel
theorem dX7_replacementFor_39 : decode cX7_replacementFor 39 = .ok (.invokestatic 56, 3) := by decide +kernel
theorem dX7_replacementFor_42 : decode cX7_replacementFor 42 = .ok (.aload_n 1, 1) := by decide +kernel
theorem dX7_replacementFor_43 : decode cX7_replacementFor 43 = .ok (.iload 5, 2) := by decide +kernel
theorem dX7_replacementFor_45 : decode cX7_replacementFor 45 = .ok (.iload_n 2, 1) := by decide +kernel
theorem dX7_replacementFor_46 : decode cX7_replacementFor 46 = .ok (.invokestatic 67, 3) := by decide +kernel
theorem dX7_replacementFor_49 : decode cX7_replacementFor 49 = .ok (.if_icmp .lt 7, 3) := by decide +kernel
theorem dX7_replacementFor_52 : decode cX7_replacementFor 52 = .ok (.iconst 1, 1) := by decide +kernel
theorem dX7_replacementFor_53 : decode cX7_replacementFor 53 = .ok (.goto 4, 3) := by decide +kernel
theorem dX7_replacementFor_56 : decode cX7_replacementFor 56 = .ok (.iconst 0, 1) := by decide +kernel
theorem dX7_replacementFor_57 : decode cX7_replacementFor 57 = .ok (.istore 6, 2) := by decide +kernel
theorem dX7_replacementFor_59 : decode cX7_replacementFor 59 = .ok (.iload 6, 2) := by decide +kernel
theorem dX7_replacementFor_61 : decode cX7_replacementFor 61 = .ok (.ifCond .eq 21, 3) := by decide +kernel
theorem dX7_replacementFor_64 : decode cX7_replacementFor 64 = .ok (.aload_n 0, 1) := by decide +kernel
theorem dX7_replacementFor_65 : decode cX7_replacementFor 65 = .ok (.aload_n 1, 1) := by decide +kernel
theorem dX7_replacementFor_66 : decode cX7_replacementFor 66 = .ok (.iload 5, 2) := by decide +kernel
theorem dX7_replacementFor_68 : decode cX7_replacementFor 68 = .ok (.iload 4, 2) := by decide +kernel
theorem dX7_replacementFor_70 : decode cX7_replacementFor 70 = .ok (.iload_n 2, 1) := by decide +kernel
theorem dX7_replacementFor_71 : decode cX7_replacementFor 71 = .ok (.invokevirtual 70, 3) := by decide +kernel
theorem dX7_replacementFor_74 : decode cX7_replacementFor 74 = .ok (.ifCond .eq 8, 3) := by decide +kernel
theorem dX7_replacementFor_77 : decode cX7_replacementFor 77 = .ok (.iload 5, 2) := by decide +kernel
theorem dX7_replacementFor_79 : decode cX7_replacementFor 79 = .ok (.goto 5, 3) := by decide +kernel
theorem dX7_replacementFor_82 : decode cX7_replacementFor 82 = .ok (.iload 4, 2) := by decide +kernel
theorem dX7_replacementFor_84 : decode cX7_replacementFor 84 = .ok (.istore 4, 2) := by decide +kernel
theorem dX7_replacementFor_86 : decode cX7_replacementFor 86 = .ok (.iinc 5 1, 3) := by decide +kernel
theorem dX7_replacementFor_89 : decode cX7_replacementFor 89 = .ok (.goto (-83), 3) := by decide +kernel
theorem dX7_replacementFor_92 : decode cX7_replacementFor 92 = .ok (.iload 4, 2) := by decide +kernel
theorem dX7_replacementFor_94 : decode cX7_replacementFor 94 = .ok (.ireturn, 1) := by decide +kernel
theorem iX7_replacementFor_0  {Ls st : List Value} {h : AH} : ev L xs mdX7_replacementFor 0 (Ls) (st) h = ev L xs mdX7_replacementFor 1 (Ls) (.int (-1) :: st) (h) := e_iconst dX7_replacementFor_0 (by decide)
theorem iX7_replacementFor_1 {v0 : Value} {v1 : Value} {v2 : Value} {v3 : Value} {v4 : Value} {x : Int32} {Ls st : List Value} {h : AH} (hc9 : v3.category = 1) : ev L xs mdX7_replacementFor 1 (v0 :: v1 :: v2 :: v3 :: v4 :: Ls) (.int x :: st) h = ev L xs mdX7_replacementFor 3 (v0 :: v1 :: v2 :: v3 :: .int x :: Ls) (st) (h) := e_istore dX7_replacementFor_1 rfl (by decide) (by unfold catOK; show (_ || (v3.category == 1)) = true; rw [hc9]; rfl)
theorem iX7_replacementFor_3  {Ls st : List Value} {h : AH} : ev L xs mdX7_replacementFor 3 (Ls) (st) h = ev L xs mdX7_replacementFor 4 (Ls) (.int (nI 0) :: st) (h) := e_iconst dX7_replacementFor_3 (by decide)
theorem iX7_replacementFor_4 {v0 : Value} {v1 : Value} {v2 : Value} {v3 : Value} {v4 : Value} {v5 : Value} {x : Int32} {Ls st : List Value} {h : AH} (hc9 : v4.category = 1) : ev L xs mdX7_replacementFor 4 (v0 :: v1 :: v2 :: v3 :: v4 :: v5 :: Ls) (.int x :: st) h = ev L xs mdX7_replacementFor 6 (v0 :: v1 :: v2 :: v3 :: v4 :: .int x :: Ls) (st) (h) := e_istore dX7_replacementFor_4 rfl (by decide) (by unfold catOK; show (_ || (v4.category == 1)) = true; rw [hc9]; rfl)
theorem iX7_replacementFor_6 {v0 : Value} {v1 : Value} {v2 : Value} {v3 : Value} {v4 : Value} {x : Int32} {Ls st : List Value} {h : AH} : ev L xs mdX7_replacementFor 6 (v0 :: v1 :: v2 :: v3 :: v4 :: .int x :: Ls) (st) h = ev L xs mdX7_replacementFor 8 (v0 :: v1 :: v2 :: v3 :: v4 :: .int x :: Ls) (.int x :: st) (h) := e_iload dX7_replacementFor_6 rfl
theorem iX7_replacementFor_8 {v0 : Value} {x : Nat} {Ls st : List Value} {h : AH} : ev L xs mdX7_replacementFor 8 (v0 :: .ref x :: Ls) (st) h = ev L xs mdX7_replacementFor 9 (v0 :: .ref x :: Ls) (.ref x :: st) (h) := e_aload_n dX7_replacementFor_8 rfl
theorem iX7_replacementFor_9  {Ls st : List Value} {h : AH} : ev L xs mdX7_replacementFor 9 (Ls) (st) h = ev L xs mdX7_replacementFor 10 (Ls) (.int (nI 4) :: st) (h) := e_iconst dX7_replacementFor_9 (by decide)
theorem iX7_replacementFor_10 {a : Nat} {j : Int32} {Ls st : List Value} {h : AH} (hk : hK h a = 8) (hi : inA j (hN h a) = true) : ev L xs mdX7_replacementFor 10 (Ls) (.int j :: .ref a :: st) h = ev L xs mdX7_replacementFor 11 (Ls) (.int (hA h a j.toNatClampNeg) :: st) (h) := e_iald dX7_replacementFor_10 hk hi
theorem iX7_replacementFor_11 {x z : Int32} {Ls st : List Value} {h : AH} : ev L xs mdX7_replacementFor 11 Ls (.int z :: .int x :: st) h = if z ≤ x then ev L xs mdX7_replacementFor 92 Ls st h else ev L xs mdX7_replacementFor 14 Ls st h := e_ic_ge dX7_replacementFor_11 (by decide)
theorem iX7_replacementFor_14 {x : Nat} {Ls st : List Value} {h : AH} : ev L xs mdX7_replacementFor 14 (.ref x :: Ls) (st) h = ev L xs mdX7_replacementFor 15 (.ref x :: Ls) (.ref x :: st) (h) := e_aload_n dX7_replacementFor_14 rfl
theorem iX7_replacementFor_15 {a : Nat} {Ls st : List Value} {h : AH} (hk : hK h a = 7) (hj : (hR h 121 a).isSome = true) : ev L xs mdX7_replacementFor 15 (Ls) (.ref a :: st) h = ev L xs mdX7_replacementFor 18 (Ls) (.ref ((hR h 121 a).getD 0) :: st) (h) := e_getR (k := 7) (f := 9) (F := 121) dX7_replacementFor_15 (by decide +kernel) rfl rfl hk hj
theorem iX7_replacementFor_18 {v0 : Value} {v1 : Value} {v2 : Value} {v3 : Value} {v4 : Value} {x : Int32} {Ls st : List Value} {h : AH} : ev L xs mdX7_replacementFor 18 (v0 :: v1 :: v2 :: v3 :: v4 :: .int x :: Ls) (st) h = ev L xs mdX7_replacementFor 20 (v0 :: v1 :: v2 :: v3 :: v4 :: .int x :: Ls) (.int x :: st) (h) := e_iload dX7_replacementFor_18 rfl
theorem iX7_replacementFor_20 {a : Nat} {j : Int32} {Ls st : List Value} {h : AH} (hk : hK h a = 8) (hi : inA j (hN h a) = true) : ev L xs mdX7_replacementFor 20 (Ls) (.int j :: .ref a :: st) h = ev L xs mdX7_replacementFor 21 (Ls) (.int (hA h a j.toNatClampNeg) :: st) (h) := e_iald dX7_replacementFor_20 hk hi
theorem iX7_replacementFor_21 {x : Int32} {Ls st : List Value} {h : AH} : ev L xs mdX7_replacementFor 21 Ls (.int x :: st) h = if x = nI 0 then ev L xs mdX7_replacementFor 24 Ls st h else ev L xs mdX7_replacementFor 56 Ls st h := e_if_ne dX7_replacementFor_21 (by decide)
theorem iX7_replacementFor_24 {x : Nat} {Ls st : List Value} {h : AH} : ev L xs mdX7_replacementFor 24 (.ref x :: Ls) (st) h = ev L xs mdX7_replacementFor 25 (.ref x :: Ls) (.ref x :: st) (h) := e_aload_n dX7_replacementFor_24 rfl
theorem iX7_replacementFor_25 {v0 : Value} {x : Nat} {Ls st : List Value} {h : AH} : ev L xs mdX7_replacementFor 25 (v0 :: .ref x :: Ls) (st) h = ev L xs mdX7_replacementFor 26 (v0 :: .ref x :: Ls) (.ref x :: st) (h) := e_aload_n dX7_replacementFor_25 rfl
theorem iX7_replacementFor_26 {v0 : Value} {v1 : Value} {v2 : Value} {v3 : Value} {v4 : Value} {x : Int32} {Ls st : List Value} {h : AH} : ev L xs mdX7_replacementFor 26 (v0 :: v1 :: v2 :: v3 :: v4 :: .int x :: Ls) (st) h = ev L xs mdX7_replacementFor 28 (v0 :: v1 :: v2 :: v3 :: v4 :: .int x :: Ls) (.int x :: st) (h) := e_iload dX7_replacementFor_26 rfl
theorem iX7_replacementFor_28 {v0 : Value} {v1 : Value} {v2 : Value} {x : Int32} {Ls st : List Value} {h : AH} : ev L xs mdX7_replacementFor 28 (v0 :: v1 :: v2 :: .int x :: Ls) (st) h = ev L xs mdX7_replacementFor 29 (v0 :: v1 :: v2 :: .int x :: Ls) (.int x :: st) (h) := e_iload_n dX7_replacementFor_28 rfl
theorem iX7_replacementFor_29 {a : Nat} {p0 : Nat} {p1 : Int32} {p2 : Int32} {Ls st : List Value} {h : AH} (hk : hK h a = 7) (hw : wds st ≤ 8) : ev L xs mdX7_replacementFor 29 Ls (.int p2 :: .int p1 :: .ref p0 :: .ref a :: st) h = kn L xs mdX7_replacementFor 29 32 Ls st (ev L xs mdX7_isSick 0 [.ref a, .ref p0, .int p1, .int p2] [] h) := e_callV (as := [.int p2, .int p1, .ref p0]) dX7_replacementFor_29 mr_7_59 (by decide) (by decide) rfl (by simp [wds, Value.category]; decide) rfl (by decide) hk hw
theorem iX7_replacementFor_32 {x : Int32} {Ls st : List Value} {h : AH} : ev L xs mdX7_replacementFor 32 Ls (.int x :: st) h = if x = nI 0 then ev L xs mdX7_replacementFor 35 Ls st h else ev L xs mdX7_replacementFor 56 Ls st h := e_if_ne dX7_replacementFor_32 (by decide)
theorem iX7_replacementFor_35 {v0 : Value} {x : Nat} {Ls st : List Value} {h : AH} : ev L xs mdX7_replacementFor 35 (v0 :: .ref x :: Ls) (st) h = ev L xs mdX7_replacementFor 36 (v0 :: .ref x :: Ls) (.ref x :: st) (h) := e_aload_n dX7_replacementFor_35 rfl
theorem iX7_replacementFor_36 {v0 : Value} {v1 : Value} {v2 : Value} {v3 : Value} {v4 : Value} {x : Int32} {Ls st : List Value} {h : AH} : ev L xs mdX7_replacementFor 36 (v0 :: v1 :: v2 :: v3 :: v4 :: .int x :: Ls) (st) h = ev L xs mdX7_replacementFor 38 (v0 :: v1 :: v2 :: v3 :: v4 :: .int x :: Ls) (.int x :: st) (h) := e_iload dX7_replacementFor_36 rfl
theorem iX7_replacementFor_38  {Ls st : List Value} {h : AH} : ev L xs mdX7_replacementFor 38 (Ls) (st) h = ev L xs mdX7_replacementFor 39 (Ls) (.int (nI 1) :: st) (h) := e_iconst dX7_replacementFor_38 (by decide)
theorem iX7_replacementFor_39 {p0 : Nat} {p1 : Int32} {p2 : Int32} {Ls st : List Value} {h : AH} (hw : wds st ≤ 8) : ev L xs mdX7_replacementFor 39 Ls (.int p2 :: .int p1 :: .ref p0 :: st) h = kn L xs mdX7_replacementFor 39 42 Ls st (ev L xs mdX7_by 0 [.ref p0, .int p1, .int p2] [] h) := e_callS (as := [.int p2, .int p1, .ref p0]) dX7_replacementFor_39 mr_7_56 (by decide) (by decide) rfl (by simp [wds, Value.category]; decide) rfl hw
theorem iX7_replacementFor_42 {v0 : Value} {x : Nat} {Ls st : List Value} {h : AH} : ev L xs mdX7_replacementFor 42 (v0 :: .ref x :: Ls) (st) h = ev L xs mdX7_replacementFor 43 (v0 :: .ref x :: Ls) (.ref x :: st) (h) := e_aload_n dX7_replacementFor_42 rfl
theorem iX7_replacementFor_43 {v0 : Value} {v1 : Value} {v2 : Value} {v3 : Value} {v4 : Value} {x : Int32} {Ls st : List Value} {h : AH} : ev L xs mdX7_replacementFor 43 (v0 :: v1 :: v2 :: v3 :: v4 :: .int x :: Ls) (st) h = ev L xs mdX7_replacementFor 45 (v0 :: v1 :: v2 :: v3 :: v4 :: .int x :: Ls) (.int x :: st) (h) := e_iload dX7_replacementFor_43 rfl
theorem iX7_replacementFor_45 {v0 : Value} {v1 : Value} {x : Int32} {Ls st : List Value} {h : AH} : ev L xs mdX7_replacementFor 45 (v0 :: v1 :: .int x :: Ls) (st) h = ev L xs mdX7_replacementFor 46 (v0 :: v1 :: .int x :: Ls) (.int x :: st) (h) := e_iload_n dX7_replacementFor_45 rfl
theorem iX7_replacementFor_46 {p0 : Nat} {p1 : Int32} {p2 : Int32} {Ls st : List Value} {h : AH} (hw : wds st ≤ 8) : ev L xs mdX7_replacementFor 46 Ls (.int p2 :: .int p1 :: .ref p0 :: st) h = kn L xs mdX7_replacementFor 46 49 Ls st (ev L xs mdX7_distance 0 [.ref p0, .int p1, .int p2, .null] [] h) := e_callS (as := [.int p2, .int p1, .ref p0]) dX7_replacementFor_46 mr_7_67 (by decide) (by decide) rfl (by simp [wds, Value.category]; decide) rfl hw
theorem iX7_replacementFor_49 {x z : Int32} {Ls st : List Value} {h : AH} : ev L xs mdX7_replacementFor 49 Ls (.int z :: .int x :: st) h = if x < z then ev L xs mdX7_replacementFor 56 Ls st h else ev L xs mdX7_replacementFor 52 Ls st h := e_ic_lt dX7_replacementFor_49 (by decide)
theorem iX7_replacementFor_52  {Ls st : List Value} {h : AH} : ev L xs mdX7_replacementFor 52 (Ls) (st) h = ev L xs mdX7_replacementFor 53 (Ls) (.int (nI 1) :: st) (h) := e_iconst dX7_replacementFor_52 (by decide)
theorem iX7_replacementFor_53  {Ls st : List Value} {h : AH} : ev L xs mdX7_replacementFor 53 (Ls) (st) h = ev L xs mdX7_replacementFor 57 (Ls) (st) (h) := e_goto dX7_replacementFor_53 (by decide)
theorem iX7_replacementFor_56  {Ls st : List Value} {h : AH} : ev L xs mdX7_replacementFor 56 (Ls) (st) h = ev L xs mdX7_replacementFor 57 (Ls) (.int (nI 0) :: st) (h) := e_iconst dX7_replacementFor_56 (by decide)
theorem iX7_replacementFor_57 {v0 : Value} {v1 : Value} {v2 : Value} {v3 : Value} {v4 : Value} {v5 : Value} {v6 : Value} {x : Int32} {Ls st : List Value} {h : AH} (hc9 : v5.category = 1) : ev L xs mdX7_replacementFor 57 (v0 :: v1 :: v2 :: v3 :: v4 :: v5 :: v6 :: Ls) (.int x :: st) h = ev L xs mdX7_replacementFor 59 (v0 :: v1 :: v2 :: v3 :: v4 :: v5 :: .int x :: Ls) (st) (h) := e_istore dX7_replacementFor_57 rfl (by decide) (by unfold catOK; show (_ || (v5.category == 1)) = true; rw [hc9]; rfl)
theorem iX7_replacementFor_59 {v0 : Value} {v1 : Value} {v2 : Value} {v3 : Value} {v4 : Value} {v5 : Value} {x : Int32} {Ls st : List Value} {h : AH} : ev L xs mdX7_replacementFor 59 (v0 :: v1 :: v2 :: v3 :: v4 :: v5 :: .int x :: Ls) (st) h = ev L xs mdX7_replacementFor 61 (v0 :: v1 :: v2 :: v3 :: v4 :: v5 :: .int x :: Ls) (.int x :: st) (h) := e_iload dX7_replacementFor_59 rfl
theorem iX7_replacementFor_61 {x : Int32} {Ls st : List Value} {h : AH} : ev L xs mdX7_replacementFor 61 Ls (.int x :: st) h = if x = nI 0 then ev L xs mdX7_replacementFor 82 Ls st h else ev L xs mdX7_replacementFor 64 Ls st h := e_if_eq dX7_replacementFor_61 (by decide)
theorem iX7_replacementFor_64 {x : Nat} {Ls st : List Value} {h : AH} : ev L xs mdX7_replacementFor 64 (.ref x :: Ls) (st) h = ev L xs mdX7_replacementFor 65 (.ref x :: Ls) (.ref x :: st) (h) := e_aload_n dX7_replacementFor_64 rfl
theorem iX7_replacementFor_65 {v0 : Value} {x : Nat} {Ls st : List Value} {h : AH} : ev L xs mdX7_replacementFor 65 (v0 :: .ref x :: Ls) (st) h = ev L xs mdX7_replacementFor 66 (v0 :: .ref x :: Ls) (.ref x :: st) (h) := e_aload_n dX7_replacementFor_65 rfl
theorem iX7_replacementFor_66 {v0 : Value} {v1 : Value} {v2 : Value} {v3 : Value} {v4 : Value} {x : Int32} {Ls st : List Value} {h : AH} : ev L xs mdX7_replacementFor 66 (v0 :: v1 :: v2 :: v3 :: v4 :: .int x :: Ls) (st) h = ev L xs mdX7_replacementFor 68 (v0 :: v1 :: v2 :: v3 :: v4 :: .int x :: Ls) (.int x :: st) (h) := e_iload dX7_replacementFor_66 rfl
theorem iX7_replacementFor_68 {v0 : Value} {v1 : Value} {v2 : Value} {v3 : Value} {x : Int32} {Ls st : List Value} {h : AH} : ev L xs mdX7_replacementFor 68 (v0 :: v1 :: v2 :: v3 :: .int x :: Ls) (st) h = ev L xs mdX7_replacementFor 70 (v0 :: v1 :: v2 :: v3 :: .int x :: Ls) (.int x :: st) (h) := e_iload dX7_replacementFor_68 rfl
theorem iX7_replacementFor_70 {v0 : Value} {v1 : Value} {x : Int32} {Ls st : List Value} {h : AH} : ev L xs mdX7_replacementFor 70 (v0 :: v1 :: .int x :: Ls) (st) h = ev L xs mdX7_replacementFor 71 (v0 :: v1 :: .int x :: Ls) (.int x :: st) (h) := e_iload_n dX7_replacementFor_70 rfl
theorem iX7_replacementFor_71 {a : Nat} {p0 : Nat} {p1 : Int32} {p2 : Int32} {p3 : Int32} {Ls st : List Value} {h : AH} (hk : hK h a = 7) (hw : wds st ≤ 8) : ev L xs mdX7_replacementFor 71 Ls (.int p3 :: .int p2 :: .int p1 :: .ref p0 :: .ref a :: st) h = kn L xs mdX7_replacementFor 71 74 Ls st (ev L xs mdX7_isAhead 0 [.ref a, .ref p0, .int p1, .int p2, .int p3, .null] [] h) := e_callV (as := [.int p3, .int p2, .int p1, .ref p0]) dX7_replacementFor_71 mr_7_70 (by decide) (by decide) rfl (by simp [wds, Value.category]; decide) rfl (by decide) hk hw
theorem iX7_replacementFor_74 {x : Int32} {Ls st : List Value} {h : AH} : ev L xs mdX7_replacementFor 74 Ls (.int x :: st) h = if x = nI 0 then ev L xs mdX7_replacementFor 82 Ls st h else ev L xs mdX7_replacementFor 77 Ls st h := e_if_eq dX7_replacementFor_74 (by decide)
theorem iX7_replacementFor_77 {v0 : Value} {v1 : Value} {v2 : Value} {v3 : Value} {v4 : Value} {x : Int32} {Ls st : List Value} {h : AH} : ev L xs mdX7_replacementFor 77 (v0 :: v1 :: v2 :: v3 :: v4 :: .int x :: Ls) (st) h = ev L xs mdX7_replacementFor 79 (v0 :: v1 :: v2 :: v3 :: v4 :: .int x :: Ls) (.int x :: st) (h) := e_iload dX7_replacementFor_77 rfl
theorem iX7_replacementFor_79  {Ls st : List Value} {h : AH} : ev L xs mdX7_replacementFor 79 (Ls) (st) h = ev L xs mdX7_replacementFor 84 (Ls) (st) (h) := e_goto dX7_replacementFor_79 (by decide)
theorem iX7_replacementFor_82 {v0 : Value} {v1 : Value} {v2 : Value} {v3 : Value} {x : Int32} {Ls st : List Value} {h : AH} : ev L xs mdX7_replacementFor 82 (v0 :: v1 :: v2 :: v3 :: .int x :: Ls) (st) h = ev L xs mdX7_replacementFor 84 (v0 :: v1 :: v2 :: v3 :: .int x :: Ls) (.int x :: st) (h) := e_iload dX7_replacementFor_82 rfl
theorem iX7_replacementFor_84 {v0 : Value} {v1 : Value} {v2 : Value} {v3 : Value} {v4 : Value} {x : Int32} {Ls st : List Value} {h : AH} (hc9 : v3.category = 1) : ev L xs mdX7_replacementFor 84 (v0 :: v1 :: v2 :: v3 :: v4 :: Ls) (.int x :: st) h = ev L xs mdX7_replacementFor 86 (v0 :: v1 :: v2 :: v3 :: .int x :: Ls) (st) (h) := e_istore dX7_replacementFor_84 rfl (by decide) (by unfold catOK; show (_ || (v3.category == 1)) = true; rw [hc9]; rfl)
theorem iX7_replacementFor_86 {v0 : Value} {v1 : Value} {v2 : Value} {v3 : Value} {v4 : Value} {x : Int32} {Ls st : List Value} {h : AH} (hc9 : v4.category = 1) : ev L xs mdX7_replacementFor 86 (v0 :: v1 :: v2 :: v3 :: v4 :: .int x :: Ls) (st) h = ev L xs mdX7_replacementFor 89 (v0 :: v1 :: v2 :: v3 :: v4 :: .int (x + (nI 1)) :: Ls) (st) (h) := e_iinc dX7_replacementFor_86 rfl rfl rfl (by decide) (by unfold catOK; show (_ || (v4.category == 1)) = true; rw [hc9]; rfl)
theorem iX7_replacementFor_89  {Ls st : List Value} {h : AH} : ev L xs mdX7_replacementFor 89 (Ls) (st) h = ev L xs mdX7_replacementFor 6 (Ls) (st) (h) := e_goto dX7_replacementFor_89 (by decide)
theorem iX7_replacementFor_92 {v0 : Value} {v1 : Value} {v2 : Value} {v3 : Value} {x : Int32} {Ls st : List Value} {h : AH} : ev L xs mdX7_replacementFor 92 (v0 :: v1 :: v2 :: v3 :: .int x :: Ls) (st) h = ev L xs mdX7_replacementFor 94 (v0 :: v1 :: v2 :: v3 :: .int x :: Ls) (.int x :: st) (h) := e_iload dX7_replacementFor_92 rfl
theorem iX7_replacementFor_94 {v : Int32} {Ls : List Value} {h : AH} : ev L xs mdX7_replacementFor 94 Ls [.int v] h = some (.inl (some (.int v), h)) := e_iret dX7_replacementFor_94 rfl
theorem dX7_save_0 : decode cX7_save 0 = .ok (.aload_n 0, 1) := by decide +kernel
theorem dX7_save_1 : decode cX7_save 1 = .ok (.getfield 41, 3) := by decide +kernel
theorem dX7_save_4 : decode cX7_save 4 = .ok (.iconst 4, 1) := by decide +kernel
theorem dX7_save_5 : decode cX7_save 5 = .ok (.if_icmp .ne 44, 3) := by decide +kernel
theorem dX7_save_8 : decode cX7_save 8 = .ok (.iconst 0, 1) := by decide +kernel
theorem dX7_save_9 : decode cX7_save 9 = .ok (.istore_n 1, 1) := by decide +kernel
theorem dX7_save_10 : decode cX7_save 10 = .ok (.iload_n 1, 1) := by decide +kernel
theorem dX7_save_11 : decode cX7_save 11 = .ok (.sipush 549, 3) := by decide +kernel
theorem dX7_save_14 : decode cX7_save 14 = .ok (.if_icmp .ge 25, 3) := by decide +kernel
theorem dX7_save_17 : decode cX7_save 17 = .ok (.aload_n 0, 1) := by decide +kernel
theorem dX7_save_18 : decode cX7_save 18 = .ok (.getfield 16, 3) := by decide +kernel
theorem dX7_save_21 : decode cX7_save 21 = .ok (.iload_n 1, 1) := by decide +kernel
theorem dX7_save_22 : decode cX7_save 22 = .ok (.aload_n 0, 1) := by decide +kernel
theorem dX7_save_23 : decode cX7_save 23 = .ok (.getfield 16, 3) := by decide +kernel
theorem dX7_save_26 : decode cX7_save 26 = .ok (.iload_n 1, 1) := by decide +kernel
theorem dX7_save_27 : decode cX7_save 27 = .ok (.sipush 183, 3) := by decide +kernel
theorem dX7_save_30 : decode cX7_save 30 = .ok (.iadd, 1) := by decide +kernel
theorem dX7_save_31 : decode cX7_save 31 = .ok (.iaload, 1) := by decide +kernel
theorem dX7_save_32 : decode cX7_save 32 = .ok (.iastore, 1) := by decide +kernel
theorem dX7_save_33 : decode cX7_save 33 = .ok (.iinc 1 1, 3) := by decide +kernel
theorem dX7_save_36 : decode cX7_save 36 = .ok (.goto (-26), 3) := by decide +kernel
theorem dX7_save_39 : decode cX7_save 39 = .ok (.aload_n 0, 1) := by decide +kernel
theorem dX7_save_40 : decode cX7_save 40 = .ok (.dup, 1) := by decide +kernel
theorem dX7_save_41 : decode cX7_save 41 = .ok (.getfield 41, 3) := by decide +kernel
theorem dX7_save_44 : decode cX7_save 44 = .ok (.iconst 1, 1) := by decide +kernel
theorem dX7_save_45 : decode cX7_save 45 = .ok (.isub, 1) := by decide +kernel
theorem dX7_save_46 : decode cX7_save 46 = .ok (.putfield 41, 3) := by decide +kernel
theorem dX7_save_49 : decode cX7_save 49 = .ok (.iconst 0, 1) := by decide +kernel
theorem dX7_save_50 : decode cX7_save 50 = .ok (.istore_n 1, 1) := by decide +kernel
theorem dX7_save_51 : decode cX7_save 51 = .ok (.iload_n 1, 1) := by decide +kernel
theorem dX7_save_52 : decode cX7_save 52 = .ok (.sipush 183, 3) := by decide +kernel
theorem dX7_save_55 : decode cX7_save 55 = .ok (.if_icmp .ge 30, 3) := by decide +kernel
theorem dX7_save_58 : decode cX7_save 58 = .ok (.aload_n 0, 1) := by decide +kernel
theorem dX7_save_59 : decode cX7_save 59 = .ok (.getfield 16, 3) := by decide +kernel
theorem dX7_save_62 : decode cX7_save 62 = .ok (.sipush 183, 3) := by decide +kernel
theorem dX7_save_65 : decode cX7_save 65 = .ok (.aload_n 0, 1) := by decide +kernel
theorem dX7_save_66 : decode cX7_save 66 = .ok (.getfield 41, 3) := by decide +kernel
theorem dX7_save_69 : decode cX7_save 69 = .ok (.imul, 1) := by decide +kernel
theorem dX7_save_70 : decode cX7_save 70 = .ok (.iload_n 1, 1) := by decide +kernel
theorem dX7_save_71 : decode cX7_save 71 = .ok (.iadd, 1) := by decide +kernel
theorem dX7_save_72 : decode cX7_save 72 = .ok (.aload_n 0, 1) := by decide +kernel
theorem dX7_save_73 : decode cX7_save 73 = .ok (.getfield 7, 3) := by decide +kernel
theorem dX7_save_76 : decode cX7_save 76 = .ok (.iload_n 1, 1) := by decide +kernel
theorem dX7_save_77 : decode cX7_save 77 = .ok (.iaload, 1) := by decide +kernel
theorem dX7_save_78 : decode cX7_save 78 = .ok (.iastore, 1) := by decide +kernel
theorem dX7_save_79 : decode cX7_save 79 = .ok (.iinc 1 1, 3) := by decide +kernel
theorem dX7_save_82 : decode cX7_save 82 = .ok (.goto (-31), 3) := by decide +kernel
theorem dX7_save_85 : decode cX7_save 85 = .ok (.aload_n 0, 1) := by decide +kernel
theorem dX7_save_86 : decode cX7_save 86 = .ok (.dup, 1) := by decide +kernel
theorem dX7_save_87 : decode cX7_save 87 = .ok (.getfield 41, 3) := by decide +kernel
theorem dX7_save_90 : decode cX7_save 90 = .ok (.iconst 1, 1) := by decide +kernel
theorem dX7_save_91 : decode cX7_save 91 = .ok (.iadd, 1) := by decide +kernel
theorem dX7_save_92 : decode cX7_save 92 = .ok (.putfield 41, 3) := by decide +kernel
theorem dX7_save_95 : decode cX7_save 95 = .ok (.return_, 1) := by decide +kernel
theorem iX7_save_0 {x : Nat} {Ls st : List Value} {h : AH} : ev L xs mdX7_save 0 (.ref x :: Ls) (st) h = ev L xs mdX7_save 1 (.ref x :: Ls) (.ref x :: st) (h) := e_aload_n dX7_save_0 rfl
theorem iX7_save_1 {a : Nat} {Ls st : List Value} {h : AH} (hk : hK h a = 7) : ev L xs mdX7_save 1 (Ls) (.ref a :: st) h = ev L xs mdX7_save 4 (Ls) (.int (hI h 116 a) :: st) (h) := e_getI (k := 7) (f := 4) (F := 116) dX7_save_1 (by decide +kernel) rfl rfl hk
theorem iX7_save_4  {Ls st : List Value} {h : AH} : ev L xs mdX7_save 4 (Ls) (st) h = ev L xs mdX7_save 5 (Ls) (.int (nI 4) :: st) (h) := e_iconst dX7_save_4 (by decide)
theorem iX7_save_5 {x z : Int32} {Ls st : List Value} {h : AH} : ev L xs mdX7_save 5 Ls (.int z :: .int x :: st) h = if x = z then ev L xs mdX7_save 8 Ls st h else ev L xs mdX7_save 49 Ls st h := e_ic_ne dX7_save_5 (by decide)
theorem iX7_save_8  {Ls st : List Value} {h : AH} : ev L xs mdX7_save 8 (Ls) (st) h = ev L xs mdX7_save 9 (Ls) (.int (nI 0) :: st) (h) := e_iconst dX7_save_8 (by decide)
theorem iX7_save_9 {v0 : Value} {v1 : Value} {x : Int32} {Ls st : List Value} {h : AH} (hc9 : v0.category = 1) : ev L xs mdX7_save 9 (v0 :: v1 :: Ls) (.int x :: st) h = ev L xs mdX7_save 10 (v0 :: .int x :: Ls) (st) (h) := e_istore_n dX7_save_9 rfl (by decide) (by unfold catOK; show (_ || (v0.category == 1)) = true; rw [hc9]; rfl)
theorem iX7_save_10 {v0 : Value} {x : Int32} {Ls st : List Value} {h : AH} : ev L xs mdX7_save 10 (v0 :: .int x :: Ls) (st) h = ev L xs mdX7_save 11 (v0 :: .int x :: Ls) (.int x :: st) (h) := e_iload_n dX7_save_10 rfl
theorem iX7_save_11  {Ls st : List Value} {h : AH} : ev L xs mdX7_save 11 (Ls) (st) h = ev L xs mdX7_save 14 (Ls) (.int (nI 549) :: st) (h) := e_sipush dX7_save_11 (by decide)
theorem iX7_save_14 {x z : Int32} {Ls st : List Value} {h : AH} : ev L xs mdX7_save 14 Ls (.int z :: .int x :: st) h = if z ≤ x then ev L xs mdX7_save 39 Ls st h else ev L xs mdX7_save 17 Ls st h := e_ic_ge dX7_save_14 (by decide)
theorem iX7_save_17 {x : Nat} {Ls st : List Value} {h : AH} : ev L xs mdX7_save 17 (.ref x :: Ls) (st) h = ev L xs mdX7_save 18 (.ref x :: Ls) (.ref x :: st) (h) := e_aload_n dX7_save_17 rfl
theorem iX7_save_18 {a : Nat} {Ls st : List Value} {h : AH} (hk : hK h a = 7) (hj : (hR h 115 a).isSome = true) : ev L xs mdX7_save 18 (Ls) (.ref a :: st) h = ev L xs mdX7_save 21 (Ls) (.ref ((hR h 115 a).getD 0) :: st) (h) := e_getR (k := 7) (f := 3) (F := 115) dX7_save_18 (by decide +kernel) rfl rfl hk hj
theorem iX7_save_21 {v0 : Value} {x : Int32} {Ls st : List Value} {h : AH} : ev L xs mdX7_save 21 (v0 :: .int x :: Ls) (st) h = ev L xs mdX7_save 22 (v0 :: .int x :: Ls) (.int x :: st) (h) := e_iload_n dX7_save_21 rfl
theorem iX7_save_22 {x : Nat} {Ls st : List Value} {h : AH} : ev L xs mdX7_save 22 (.ref x :: Ls) (st) h = ev L xs mdX7_save 23 (.ref x :: Ls) (.ref x :: st) (h) := e_aload_n dX7_save_22 rfl
theorem iX7_save_23 {a : Nat} {Ls st : List Value} {h : AH} (hk : hK h a = 7) (hj : (hR h 115 a).isSome = true) : ev L xs mdX7_save 23 (Ls) (.ref a :: st) h = ev L xs mdX7_save 26 (Ls) (.ref ((hR h 115 a).getD 0) :: st) (h) := e_getR (k := 7) (f := 3) (F := 115) dX7_save_23 (by decide +kernel) rfl rfl hk hj
theorem iX7_save_26 {v0 : Value} {x : Int32} {Ls st : List Value} {h : AH} : ev L xs mdX7_save 26 (v0 :: .int x :: Ls) (st) h = ev L xs mdX7_save 27 (v0 :: .int x :: Ls) (.int x :: st) (h) := e_iload_n dX7_save_26 rfl
theorem iX7_save_27  {Ls st : List Value} {h : AH} : ev L xs mdX7_save 27 (Ls) (st) h = ev L xs mdX7_save 30 (Ls) (.int (nI 183) :: st) (h) := e_sipush dX7_save_27 (by decide)
theorem iX7_save_30 {x z : Int32} {Ls st : List Value} {h : AH} : ev L xs mdX7_save 30 (Ls) (.int z :: .int x :: st) h = ev L xs mdX7_save 31 (Ls) (.int (x + z) :: st) (h) := e_iadd dX7_save_30
theorem iX7_save_31 {a : Nat} {j : Int32} {Ls st : List Value} {h : AH} (hk : hK h a = 8) (hi : inA j (hN h a) = true) : ev L xs mdX7_save 31 (Ls) (.int j :: .ref a :: st) h = ev L xs mdX7_save 32 (Ls) (.int (hA h a j.toNatClampNeg) :: st) (h) := e_iald dX7_save_31 hk hi
theorem iX7_save_32 {a : Nat} {j : Int32} {v : Int32} {Ls st : List Value} {h : AH} (hk : hK h a = 8) (hi : inA j (hN h a) = true) : ev L xs mdX7_save 32 (Ls) (.int v :: .int j :: .ref a :: st) h = ev L xs mdX7_save 33 (Ls) (st) (sA h a j.toNatClampNeg v) := e_iast dX7_save_32 hk hi
theorem iX7_save_33 {v0 : Value} {x : Int32} {Ls st : List Value} {h : AH} (hc9 : v0.category = 1) : ev L xs mdX7_save 33 (v0 :: .int x :: Ls) (st) h = ev L xs mdX7_save 36 (v0 :: .int (x + (nI 1)) :: Ls) (st) (h) := e_iinc dX7_save_33 rfl rfl rfl (by decide) (by unfold catOK; show (_ || (v0.category == 1)) = true; rw [hc9]; rfl)
theorem iX7_save_36  {Ls st : List Value} {h : AH} : ev L xs mdX7_save 36 (Ls) (st) h = ev L xs mdX7_save 10 (Ls) (st) (h) := e_goto dX7_save_36 (by decide)
theorem iX7_save_39 {x : Nat} {Ls st : List Value} {h : AH} : ev L xs mdX7_save 39 (.ref x :: Ls) (st) h = ev L xs mdX7_save 40 (.ref x :: Ls) (.ref x :: st) (h) := e_aload_n dX7_save_39 rfl
theorem iX7_save_40 {a : Nat} {Ls st : List Value} {h : AH} : ev L xs mdX7_save 40 (Ls) (.ref a :: st) h = ev L xs mdX7_save 41 (Ls) (.ref a :: .ref a :: st) (h) := e_dup dX7_save_40 rfl
theorem iX7_save_40i {a : Int32} {Ls st : List Value} {h : AH} : ev L xs mdX7_save 40 (Ls) (.int a :: st) h = ev L xs mdX7_save 41 (Ls) (.int a :: .int a :: st) (h) := e_dup dX7_save_40 rfl
theorem iX7_save_41 {a : Nat} {Ls st : List Value} {h : AH} (hk : hK h a = 7) : ev L xs mdX7_save 41 (Ls) (.ref a :: st) h = ev L xs mdX7_save 44 (Ls) (.int (hI h 116 a) :: st) (h) := e_getI (k := 7) (f := 4) (F := 116) dX7_save_41 (by decide +kernel) rfl rfl hk
theorem iX7_save_44  {Ls st : List Value} {h : AH} : ev L xs mdX7_save 44 (Ls) (st) h = ev L xs mdX7_save 45 (Ls) (.int (nI 1) :: st) (h) := e_iconst dX7_save_44 (by decide)
theorem iX7_save_45 {x z : Int32} {Ls st : List Value} {h : AH} : ev L xs mdX7_save 45 (Ls) (.int z :: .int x :: st) h = ev L xs mdX7_save 46 (Ls) (.int (x - z) :: st) (h) := e_isub dX7_save_45
theorem iX7_save_46 {a : Nat} {v : Int32} {Ls st : List Value} {h : AH} (hk : hK h a = 7) : ev L xs mdX7_save 46 (Ls) (.int v :: .ref a :: st) h = ev L xs mdX7_save 49 (Ls) (st) (sI h 116 a v) := e_putI (k := 7) (f := 4) (F := 116) dX7_save_46 (by decide +kernel) rfl (by decide +kernel) rfl hk
theorem iX7_save_49  {Ls st : List Value} {h : AH} : ev L xs mdX7_save 49 (Ls) (st) h = ev L xs mdX7_save 50 (Ls) (.int (nI 0) :: st) (h) := e_iconst dX7_save_49 (by decide)
theorem iX7_save_50 {v0 : Value} {v1 : Value} {x : Int32} {Ls st : List Value} {h : AH} (hc9 : v0.category = 1) : ev L xs mdX7_save 50 (v0 :: v1 :: Ls) (.int x :: st) h = ev L xs mdX7_save 51 (v0 :: .int x :: Ls) (st) (h) := e_istore_n dX7_save_50 rfl (by decide) (by unfold catOK; show (_ || (v0.category == 1)) = true; rw [hc9]; rfl)
theorem iX7_save_51 {v0 : Value} {x : Int32} {Ls st : List Value} {h : AH} : ev L xs mdX7_save 51 (v0 :: .int x :: Ls) (st) h = ev L xs mdX7_save 52 (v0 :: .int x :: Ls) (.int x :: st) (h) := e_iload_n dX7_save_51 rfl
theorem iX7_save_52  {Ls st : List Value} {h : AH} : ev L xs mdX7_save 52 (Ls) (st) h = ev L xs mdX7_save 55 (Ls) (.int (nI 183) :: st) (h) := e_sipush dX7_save_52 (by decide)
theorem iX7_save_55 {x z : Int32} {Ls st : List Value} {h : AH} : ev L xs mdX7_save 55 Ls (.int z :: .int x :: st) h = if z ≤ x then ev L xs mdX7_save 85 Ls st h else ev L xs mdX7_save 58 Ls st h := e_ic_ge dX7_save_55 (by decide)
theorem iX7_save_58 {x : Nat} {Ls st : List Value} {h : AH} : ev L xs mdX7_save 58 (.ref x :: Ls) (st) h = ev L xs mdX7_save 59 (.ref x :: Ls) (.ref x :: st) (h) := e_aload_n dX7_save_58 rfl
theorem iX7_save_59 {a : Nat} {Ls st : List Value} {h : AH} (hk : hK h a = 7) (hj : (hR h 115 a).isSome = true) : ev L xs mdX7_save 59 (Ls) (.ref a :: st) h = ev L xs mdX7_save 62 (Ls) (.ref ((hR h 115 a).getD 0) :: st) (h) := e_getR (k := 7) (f := 3) (F := 115) dX7_save_59 (by decide +kernel) rfl rfl hk hj
theorem iX7_save_62  {Ls st : List Value} {h : AH} : ev L xs mdX7_save 62 (Ls) (st) h = ev L xs mdX7_save 65 (Ls) (.int (nI 183) :: st) (h) := e_sipush dX7_save_62 (by decide)
theorem iX7_save_65 {x : Nat} {Ls st : List Value} {h : AH} : ev L xs mdX7_save 65 (.ref x :: Ls) (st) h = ev L xs mdX7_save 66 (.ref x :: Ls) (.ref x :: st) (h) := e_aload_n dX7_save_65 rfl
theorem iX7_save_66 {a : Nat} {Ls st : List Value} {h : AH} (hk : hK h a = 7) : ev L xs mdX7_save 66 (Ls) (.ref a :: st) h = ev L xs mdX7_save 69 (Ls) (.int (hI h 116 a) :: st) (h) := e_getI (k := 7) (f := 4) (F := 116) dX7_save_66 (by decide +kernel) rfl rfl hk
theorem iX7_save_69 {x z : Int32} {Ls st : List Value} {h : AH} : ev L xs mdX7_save 69 (Ls) (.int z :: .int x :: st) h = ev L xs mdX7_save 70 (Ls) (.int (x * z) :: st) (h) := e_imul dX7_save_69
theorem iX7_save_70 {v0 : Value} {x : Int32} {Ls st : List Value} {h : AH} : ev L xs mdX7_save 70 (v0 :: .int x :: Ls) (st) h = ev L xs mdX7_save 71 (v0 :: .int x :: Ls) (.int x :: st) (h) := e_iload_n dX7_save_70 rfl
theorem iX7_save_71 {x z : Int32} {Ls st : List Value} {h : AH} : ev L xs mdX7_save 71 (Ls) (.int z :: .int x :: st) h = ev L xs mdX7_save 72 (Ls) (.int (x + z) :: st) (h) := e_iadd dX7_save_71
theorem iX7_save_72 {x : Nat} {Ls st : List Value} {h : AH} : ev L xs mdX7_save 72 (.ref x :: Ls) (st) h = ev L xs mdX7_save 73 (.ref x :: Ls) (.ref x :: st) (h) := e_aload_n dX7_save_72 rfl
theorem iX7_save_73 {a : Nat} {Ls st : List Value} {h : AH} (hk : hK h a = 7) (hj : (hR h 113 a).isSome = true) : ev L xs mdX7_save 73 (Ls) (.ref a :: st) h = ev L xs mdX7_save 76 (Ls) (.ref ((hR h 113 a).getD 0) :: st) (h) := e_getR (k := 7) (f := 1) (F := 113) dX7_save_73 (by decide +kernel) rfl rfl hk hj
theorem iX7_save_76 {v0 : Value} {x : Int32} {Ls st : List Value} {h : AH} : ev L xs mdX7_save 76 (v0 :: .int x :: Ls) (st) h = ev L xs mdX7_save 77 (v0 :: .int x :: Ls) (.int x :: st) (h) := e_iload_n dX7_save_76 rfl
theorem iX7_save_77 {a : Nat} {j : Int32} {Ls st : List Value} {h : AH} (hk : hK h a = 8) (hi : inA j (hN h a) = true) : ev L xs mdX7_save 77 (Ls) (.int j :: .ref a :: st) h = ev L xs mdX7_save 78 (Ls) (.int (hA h a j.toNatClampNeg) :: st) (h) := e_iald dX7_save_77 hk hi
theorem iX7_save_78 {a : Nat} {j : Int32} {v : Int32} {Ls st : List Value} {h : AH} (hk : hK h a = 8) (hi : inA j (hN h a) = true) : ev L xs mdX7_save 78 (Ls) (.int v :: .int j :: .ref a :: st) h = ev L xs mdX7_save 79 (Ls) (st) (sA h a j.toNatClampNeg v) := e_iast dX7_save_78 hk hi
theorem iX7_save_79 {v0 : Value} {x : Int32} {Ls st : List Value} {h : AH} (hc9 : v0.category = 1) : ev L xs mdX7_save 79 (v0 :: .int x :: Ls) (st) h = ev L xs mdX7_save 82 (v0 :: .int (x + (nI 1)) :: Ls) (st) (h) := e_iinc dX7_save_79 rfl rfl rfl (by decide) (by unfold catOK; show (_ || (v0.category == 1)) = true; rw [hc9]; rfl)
theorem iX7_save_82  {Ls st : List Value} {h : AH} : ev L xs mdX7_save 82 (Ls) (st) h = ev L xs mdX7_save 51 (Ls) (st) (h) := e_goto dX7_save_82 (by decide)
theorem iX7_save_85 {x : Nat} {Ls st : List Value} {h : AH} : ev L xs mdX7_save 85 (.ref x :: Ls) (st) h = ev L xs mdX7_save 86 (.ref x :: Ls) (.ref x :: st) (h) := e_aload_n dX7_save_85 rfl
theorem iX7_save_86 {a : Nat} {Ls st : List Value} {h : AH} : ev L xs mdX7_save 86 (Ls) (.ref a :: st) h = ev L xs mdX7_save 87 (Ls) (.ref a :: .ref a :: st) (h) := e_dup dX7_save_86 rfl
theorem iX7_save_86i {a : Int32} {Ls st : List Value} {h : AH} : ev L xs mdX7_save 86 (Ls) (.int a :: st) h = ev L xs mdX7_save 87 (Ls) (.int a :: .int a :: st) (h) := e_dup dX7_save_86 rfl
theorem iX7_save_87 {a : Nat} {Ls st : List Value} {h : AH} (hk : hK h a = 7) : ev L xs mdX7_save 87 (Ls) (.ref a :: st) h = ev L xs mdX7_save 90 (Ls) (.int (hI h 116 a) :: st) (h) := e_getI (k := 7) (f := 4) (F := 116) dX7_save_87 (by decide +kernel) rfl rfl hk
theorem iX7_save_90  {Ls st : List Value} {h : AH} : ev L xs mdX7_save 90 (Ls) (st) h = ev L xs mdX7_save 91 (Ls) (.int (nI 1) :: st) (h) := e_iconst dX7_save_90 (by decide)
theorem iX7_save_91 {x z : Int32} {Ls st : List Value} {h : AH} : ev L xs mdX7_save 91 (Ls) (.int z :: .int x :: st) h = ev L xs mdX7_save 92 (Ls) (.int (x + z) :: st) (h) := e_iadd dX7_save_91
theorem iX7_save_92 {a : Nat} {v : Int32} {Ls st : List Value} {h : AH} (hk : hK h a = 7) : ev L xs mdX7_save 92 (Ls) (.int v :: .ref a :: st) h = ev L xs mdX7_save 95 (Ls) (st) (sI h 116 a v) := e_putI (k := 7) (f := 4) (F := 116) dX7_save_92 (by decide +kernel) rfl (by decide +kernel) rfl hk
theorem iX7_save_95 {Ls : List Value} {h : AH} : ev L xs mdX7_save 95 Ls [] h = some (.inl (none, h)) := e_vret dX7_save_95 rfl
theorem dX7_setNeeds_0 : decode cX7_setNeeds 0 = .ok (.aload_n 0, 1) := by decide +kernel
theorem dX7_setNeeds_1 : decode cX7_setNeeds 1 = .ok (.aload_n 0, 1) := by decide +kernel
theorem dX7_setNeeds_2 : decode cX7_setNeeds 2 = .ok (.iload_n 1, 1) := by decide +kernel
theorem dX7_setNeeds_3 : decode cX7_setNeeds 3 = .ok (.invokevirtual 112, 3) := by decide +kernel
theorem dX7_setNeeds_6 : decode cX7_setNeeds 6 = .ok (.ifCond .ne 7, 3) := by decide +kernel
theorem dX7_setNeeds_9 : decode cX7_setNeeds 9 = .ok (.iconst 1, 1) := by decide +kernel
theorem dX7_setNeeds_10 : decode cX7_setNeeds 10 = .ok (.goto 19, 3) := by decide +kernel
theorem dX7_setNeeds_13 : decode cX7_setNeeds 13 = .ok (.iload_n 2, 1) := by decide +kernel
theorem dX7_setNeeds_14 : decode cX7_setNeeds 14 = .ok (.iconst 0, 1) := by decide +kernel
theorem dX7_setNeeds_15 : decode cX7_setNeeds 15 = .ok (.sipush 1023, 3) := by decide +kernel
theorem dX7_setNeeds_18 : decode cX7_setNeeds 18 = .ok (.invokestatic 44, 3) := by decide +kernel
theorem dX7_setNeeds_21 : decode cX7_setNeeds 21 = .ok (.ifCond .ne 7, 3) := by decide +kernel
theorem dX7_setNeeds_24 : decode cX7_setNeeds 24 = .ok (.iconst 2, 1) := by decide +kernel
theorem dX7_setNeeds_25 : decode cX7_setNeeds 25 = .ok (.goto 4, 3) := by decide +kernel
theorem dX7_setNeeds_28 : decode cX7_setNeeds 28 = .ok (.iconst 0, 1) := by decide +kernel
theorem dX7_setNeeds_29 : decode cX7_setNeeds 29 = .ok (.putfield 34, 3) := by decide +kernel
theorem dX7_setNeeds_32 : decode cX7_setNeeds 32 = .ok (.aload_n 0, 1) := by decide +kernel
theorem dX7_setNeeds_33 : decode cX7_setNeeds 33 = .ok (.getfield 34, 3) := by decide +kernel
theorem dX7_setNeeds_36 : decode cX7_setNeeds 36 = .ok (.ifCond .le 5, 3) := by decide +kernel
theorem dX7_setNeeds_39 : decode cX7_setNeeds 39 = .ok (.iconst 0, 1) := by decide +kernel
theorem dX7_setNeeds_40 : decode cX7_setNeeds 40 = .ok (.ireturn, 1) := by decide +kernel
theorem dX7_setNeeds_41 : decode cX7_setNeeds 41 = .ok (.aload_n 0, 1) := by decide +kernel
theorem dX7_setNeeds_42 : decode cX7_setNeeds 42 = .ok (.invokevirtual 109, 3) := by decide +kernel
theorem dX7_setNeeds_45 : decode cX7_setNeeds 45 = .ok (.aload_n 0, 1) := by decide +kernel
theorem dX7_setNeeds_46 : decode cX7_setNeeds 46 = .ok (.getfield 7, 3) := by decide +kernel
theorem dX7_setNeeds_49 : decode cX7_setNeeds 49 = .ok (.iload_n 1, 1) := by decide +kernel
theorem dX7_setNeeds_50 : decode cX7_setNeeds 50 = .ok (.iconst 1, 1) := by decide +kernel
theorem dX7_setNeeds_51 : decode cX7_setNeeds 51 = .ok (.invokestatic 48, 3) := by decide +kernel
theorem dX7_setNeeds_54 : decode cX7_setNeeds 54 = .ok (.istore_n 3, 1) := by decide +kernel
theorem dX7_setNeeds_55 : decode cX7_setNeeds 55 = .ok (.aload_n 0, 1) := by decide +kernel
theorem dX7_setNeeds_56 : decode cX7_setNeeds 56 = .ok (.getfield 7, 3) := by decide +kernel
theorem dX7_setNeeds_59 : decode cX7_setNeeds 59 = .ok (.iload_n 1, 1) := by decide +kernel
theorem dX7_setNeeds_60 : decode cX7_setNeeds 60 = .ok (.iconst 1, 1) := by decide +kernel
theorem dX7_setNeeds_61 : decode cX7_setNeeds 61 = .ok (.iload_n 2, 1) := by decide +kernel
theorem dX7_setNeeds_62 : decode cX7_setNeeds 62 = .ok (.invokestatic 100, 3) := by decide +kernel
theorem dX7_setNeeds_65 : decode cX7_setNeeds 65 = .ok (.iload_n 3, 1) := by decide +kernel
theorem dX7_setNeeds_66 : decode cX7_setNeeds 66 = .ok (.ireturn, 1) := by decide +kernel
theorem iX7_setNeeds_0 {x : Nat} {Ls st : List Value} {h : AH} : ev L xs mdX7_setNeeds 0 (.ref x :: Ls) (st) h = ev L xs mdX7_setNeeds 1 (.ref x :: Ls) (.ref x :: st) (h) := e_aload_n dX7_setNeeds_0 rfl
theorem iX7_setNeeds_1 {x : Nat} {Ls st : List Value} {h : AH} : ev L xs mdX7_setNeeds 1 (.ref x :: Ls) (st) h = ev L xs mdX7_setNeeds 2 (.ref x :: Ls) (.ref x :: st) (h) := e_aload_n dX7_setNeeds_1 rfl
theorem iX7_setNeeds_2 {v0 : Value} {x : Int32} {Ls st : List Value} {h : AH} : ev L xs mdX7_setNeeds 2 (v0 :: .int x :: Ls) (st) h = ev L xs mdX7_setNeeds 3 (v0 :: .int x :: Ls) (.int x :: st) (h) := e_iload_n dX7_setNeeds_2 rfl
theorem iX7_setNeeds_3 {a : Nat} {p0 : Int32} {Ls st : List Value} {h : AH} (hk : hK h a = 7) (hw : wds st ≤ 8) : ev L xs mdX7_setNeeds 3 Ls (.int p0 :: .ref a :: st) h = kn L xs mdX7_setNeeds 3 6 Ls st (ev L xs mdX7_isPost 0 [.ref a, .int p0] [] h) := e_callV (as := [.int p0]) dX7_setNeeds_3 mr_7_112 (by decide) (by decide) rfl (by simp [wds, Value.category]; decide) rfl (by decide) hk hw
theorem iX7_setNeeds_6 {x : Int32} {Ls st : List Value} {h : AH} : ev L xs mdX7_setNeeds 6 Ls (.int x :: st) h = if x = nI 0 then ev L xs mdX7_setNeeds 9 Ls st h else ev L xs mdX7_setNeeds 13 Ls st h := e_if_ne dX7_setNeeds_6 (by decide)
theorem iX7_setNeeds_9  {Ls st : List Value} {h : AH} : ev L xs mdX7_setNeeds 9 (Ls) (st) h = ev L xs mdX7_setNeeds 10 (Ls) (.int (nI 1) :: st) (h) := e_iconst dX7_setNeeds_9 (by decide)
theorem iX7_setNeeds_10  {Ls st : List Value} {h : AH} : ev L xs mdX7_setNeeds 10 (Ls) (st) h = ev L xs mdX7_setNeeds 29 (Ls) (st) (h) := e_goto dX7_setNeeds_10 (by decide)
theorem iX7_setNeeds_13 {v0 : Value} {v1 : Value} {x : Int32} {Ls st : List Value} {h : AH} : ev L xs mdX7_setNeeds 13 (v0 :: v1 :: .int x :: Ls) (st) h = ev L xs mdX7_setNeeds 14 (v0 :: v1 :: .int x :: Ls) (.int x :: st) (h) := e_iload_n dX7_setNeeds_13 rfl
theorem iX7_setNeeds_14  {Ls st : List Value} {h : AH} : ev L xs mdX7_setNeeds 14 (Ls) (st) h = ev L xs mdX7_setNeeds 15 (Ls) (.int (nI 0) :: st) (h) := e_iconst dX7_setNeeds_14 (by decide)
theorem iX7_setNeeds_15  {Ls st : List Value} {h : AH} : ev L xs mdX7_setNeeds 15 (Ls) (st) h = ev L xs mdX7_setNeeds 18 (Ls) (.int (nI 1023) :: st) (h) := e_sipush dX7_setNeeds_15 (by decide)
theorem iX7_setNeeds_18 {p0 : Int32} {p1 : Int32} {p2 : Int32} {Ls st : List Value} {h : AH} (hw : wds st ≤ 8) : ev L xs mdX7_setNeeds 18 Ls (.int p2 :: .int p1 :: .int p0 :: st) h = kn L xs mdX7_setNeeds 18 21 Ls st (ev L xs mdX7_in 0 [.int p0, .int p1, .int p2] [] h) := e_callS (as := [.int p2, .int p1, .int p0]) dX7_setNeeds_18 mr_7_44 (by decide) (by decide) rfl (by simp [wds, Value.category]; decide) rfl hw
theorem iX7_setNeeds_21 {x : Int32} {Ls st : List Value} {h : AH} : ev L xs mdX7_setNeeds 21 Ls (.int x :: st) h = if x = nI 0 then ev L xs mdX7_setNeeds 24 Ls st h else ev L xs mdX7_setNeeds 28 Ls st h := e_if_ne dX7_setNeeds_21 (by decide)
theorem iX7_setNeeds_24  {Ls st : List Value} {h : AH} : ev L xs mdX7_setNeeds 24 (Ls) (st) h = ev L xs mdX7_setNeeds 25 (Ls) (.int (nI 2) :: st) (h) := e_iconst dX7_setNeeds_24 (by decide)
theorem iX7_setNeeds_25  {Ls st : List Value} {h : AH} : ev L xs mdX7_setNeeds 25 (Ls) (st) h = ev L xs mdX7_setNeeds 29 (Ls) (st) (h) := e_goto dX7_setNeeds_25 (by decide)
theorem iX7_setNeeds_28  {Ls st : List Value} {h : AH} : ev L xs mdX7_setNeeds 28 (Ls) (st) h = ev L xs mdX7_setNeeds 29 (Ls) (.int (nI 0) :: st) (h) := e_iconst dX7_setNeeds_28 (by decide)
theorem iX7_setNeeds_29 {a : Nat} {v : Int32} {Ls st : List Value} {h : AH} (hk : hK h a = 7) : ev L xs mdX7_setNeeds 29 (Ls) (.int v :: .ref a :: st) h = ev L xs mdX7_setNeeds 32 (Ls) (st) (sI h 112 a v) := e_putI (k := 7) (f := 0) (F := 112) dX7_setNeeds_29 (by decide +kernel) rfl (by decide +kernel) rfl hk
theorem iX7_setNeeds_32 {x : Nat} {Ls st : List Value} {h : AH} : ev L xs mdX7_setNeeds 32 (.ref x :: Ls) (st) h = ev L xs mdX7_setNeeds 33 (.ref x :: Ls) (.ref x :: st) (h) := e_aload_n dX7_setNeeds_32 rfl
theorem iX7_setNeeds_33 {a : Nat} {Ls st : List Value} {h : AH} (hk : hK h a = 7) : ev L xs mdX7_setNeeds 33 (Ls) (.ref a :: st) h = ev L xs mdX7_setNeeds 36 (Ls) (.int (hI h 112 a) :: st) (h) := e_getI (k := 7) (f := 0) (F := 112) dX7_setNeeds_33 (by decide +kernel) rfl rfl hk
theorem iX7_setNeeds_36 {x : Int32} {Ls st : List Value} {h : AH} : ev L xs mdX7_setNeeds 36 Ls (.int x :: st) h = if x ≤ nI 0 then ev L xs mdX7_setNeeds 41 Ls st h else ev L xs mdX7_setNeeds 39 Ls st h := e_if_le dX7_setNeeds_36 (by decide)
theorem iX7_setNeeds_39  {Ls st : List Value} {h : AH} : ev L xs mdX7_setNeeds 39 (Ls) (st) h = ev L xs mdX7_setNeeds 40 (Ls) (.int (nI 0) :: st) (h) := e_iconst dX7_setNeeds_39 (by decide)
theorem iX7_setNeeds_40 {v : Int32} {Ls : List Value} {h : AH} : ev L xs mdX7_setNeeds 40 Ls [.int v] h = some (.inl (some (.int v), h)) := e_iret dX7_setNeeds_40 rfl
theorem iX7_setNeeds_41 {x : Nat} {Ls st : List Value} {h : AH} : ev L xs mdX7_setNeeds 41 (.ref x :: Ls) (st) h = ev L xs mdX7_setNeeds 42 (.ref x :: Ls) (.ref x :: st) (h) := e_aload_n dX7_setNeeds_41 rfl
theorem iX7_setNeeds_42 {a : Nat} {Ls st : List Value} {h : AH} (hk : hK h a = 7) (hw : wds st ≤ 8) : ev L xs mdX7_setNeeds 42 Ls (.ref a :: st) h = kn L xs mdX7_setNeeds 42 45 Ls st (ev L xs mdX7_save 0 [.ref a, .null] [] h) := e_callV (as := []) dX7_setNeeds_42 mr_7_109 (by decide) (by decide) rfl (by simp [wds, Value.category]; decide) rfl (by decide) hk hw
theorem iX7_setNeeds_45 {x : Nat} {Ls st : List Value} {h : AH} : ev L xs mdX7_setNeeds 45 (.ref x :: Ls) (st) h = ev L xs mdX7_setNeeds 46 (.ref x :: Ls) (.ref x :: st) (h) := e_aload_n dX7_setNeeds_45 rfl
theorem iX7_setNeeds_46 {a : Nat} {Ls st : List Value} {h : AH} (hk : hK h a = 7) (hj : (hR h 113 a).isSome = true) : ev L xs mdX7_setNeeds 46 (Ls) (.ref a :: st) h = ev L xs mdX7_setNeeds 49 (Ls) (.ref ((hR h 113 a).getD 0) :: st) (h) := e_getR (k := 7) (f := 1) (F := 113) dX7_setNeeds_46 (by decide +kernel) rfl rfl hk hj
theorem iX7_setNeeds_49 {v0 : Value} {x : Int32} {Ls st : List Value} {h : AH} : ev L xs mdX7_setNeeds 49 (v0 :: .int x :: Ls) (st) h = ev L xs mdX7_setNeeds 50 (v0 :: .int x :: Ls) (.int x :: st) (h) := e_iload_n dX7_setNeeds_49 rfl
theorem iX7_setNeeds_50  {Ls st : List Value} {h : AH} : ev L xs mdX7_setNeeds 50 (Ls) (st) h = ev L xs mdX7_setNeeds 51 (Ls) (.int (nI 1) :: st) (h) := e_iconst dX7_setNeeds_50 (by decide)
theorem iX7_setNeeds_51 {p0 : Nat} {p1 : Int32} {p2 : Int32} {Ls st : List Value} {h : AH} (hw : wds st ≤ 8) : ev L xs mdX7_setNeeds 51 Ls (.int p2 :: .int p1 :: .ref p0 :: st) h = kn L xs mdX7_setNeeds 51 54 Ls st (ev L xs mdX7_of 0 [.ref p0, .int p1, .int p2] [] h) := e_callS (as := [.int p2, .int p1, .ref p0]) dX7_setNeeds_51 mr_7_48 (by decide) (by decide) rfl (by simp [wds, Value.category]; decide) rfl hw
theorem iX7_setNeeds_54 {v0 : Value} {v1 : Value} {v2 : Value} {v3 : Value} {x : Int32} {Ls st : List Value} {h : AH} (hc9 : v2.category = 1) : ev L xs mdX7_setNeeds 54 (v0 :: v1 :: v2 :: v3 :: Ls) (.int x :: st) h = ev L xs mdX7_setNeeds 55 (v0 :: v1 :: v2 :: .int x :: Ls) (st) (h) := e_istore_n dX7_setNeeds_54 rfl (by decide) (by unfold catOK; show (_ || (v2.category == 1)) = true; rw [hc9]; rfl)
theorem iX7_setNeeds_55 {x : Nat} {Ls st : List Value} {h : AH} : ev L xs mdX7_setNeeds 55 (.ref x :: Ls) (st) h = ev L xs mdX7_setNeeds 56 (.ref x :: Ls) (.ref x :: st) (h) := e_aload_n dX7_setNeeds_55 rfl
theorem iX7_setNeeds_56 {a : Nat} {Ls st : List Value} {h : AH} (hk : hK h a = 7) (hj : (hR h 113 a).isSome = true) : ev L xs mdX7_setNeeds 56 (Ls) (.ref a :: st) h = ev L xs mdX7_setNeeds 59 (Ls) (.ref ((hR h 113 a).getD 0) :: st) (h) := e_getR (k := 7) (f := 1) (F := 113) dX7_setNeeds_56 (by decide +kernel) rfl rfl hk hj
theorem iX7_setNeeds_59 {v0 : Value} {x : Int32} {Ls st : List Value} {h : AH} : ev L xs mdX7_setNeeds 59 (v0 :: .int x :: Ls) (st) h = ev L xs mdX7_setNeeds 60 (v0 :: .int x :: Ls) (.int x :: st) (h) := e_iload_n dX7_setNeeds_59 rfl
theorem iX7_setNeeds_60  {Ls st : List Value} {h : AH} : ev L xs mdX7_setNeeds 60 (Ls) (st) h = ev L xs mdX7_setNeeds 61 (Ls) (.int (nI 1) :: st) (h) := e_iconst dX7_setNeeds_60 (by decide)
theorem iX7_setNeeds_61 {v0 : Value} {v1 : Value} {x : Int32} {Ls st : List Value} {h : AH} : ev L xs mdX7_setNeeds 61 (v0 :: v1 :: .int x :: Ls) (st) h = ev L xs mdX7_setNeeds 62 (v0 :: v1 :: .int x :: Ls) (.int x :: st) (h) := e_iload_n dX7_setNeeds_61 rfl
theorem iX7_setNeeds_62 {p0 : Nat} {p1 : Int32} {p2 : Int32} {p3 : Int32} {Ls st : List Value} {h : AH} (hw : wds st ≤ 8) : ev L xs mdX7_setNeeds 62 Ls (.int p3 :: .int p2 :: .int p1 :: .ref p0 :: st) h = kn L xs mdX7_setNeeds 62 65 Ls st (ev L xs mdX7_put 0 [.ref p0, .int p1, .int p2, .int p3] [] h) := e_callS (as := [.int p3, .int p2, .int p1, .ref p0]) dX7_setNeeds_62 mr_7_100 (by decide) (by decide) rfl (by simp [wds, Value.category]; decide) rfl hw
theorem iX7_setNeeds_65 {v0 : Value} {v1 : Value} {v2 : Value} {x : Int32} {Ls st : List Value} {h : AH} : ev L xs mdX7_setNeeds 65 (v0 :: v1 :: v2 :: .int x :: Ls) (st) h = ev L xs mdX7_setNeeds 66 (v0 :: v1 :: v2 :: .int x :: Ls) (.int x :: st) (h) := e_iload_n dX7_setNeeds_65 rfl
theorem iX7_setNeeds_66 {v : Int32} {Ls : List Value} {h : AH} : ev L xs mdX7_setNeeds 66 Ls [.int v] h = some (.inl (some (.int v), h)) := e_iret dX7_setNeeds_66 rfl
theorem dX7_setPost_0 : decode cX7_setPost 0 = .ok (.aload_n 0, 1) := by decide +kernel
theorem dX7_setPost_1 : decode cX7_setPost 1 = .ok (.iload_n 1, 1) := by decide +kernel
theorem dX7_setPost_2 : decode cX7_setPost 2 = .ok (.invokevirtual 122, 3) := by decide +kernel
theorem dX7_setPost_5 : decode cX7_setPost 5 = .ok (.ifCond .eq 20, 3) := by decide +kernel
theorem dX7_setPost_8 : decode cX7_setPost 8 = .ok (.iload_n 2, 1) := by decide +kernel
theorem dX7_setPost_9 : decode cX7_setPost 9 = .ok (.iconst (-1), 1) := by decide +kernel
theorem dX7_setPost_10 : decode cX7_setPost 10 = .ok (.if_icmp .eq 11, 3) := by decide +kernel
theorem dX7_setPost_13 : decode cX7_setPost 13 = .ok (.aload_n 0, 1) := by decide +kernel
theorem dX7_setPost_14 : decode cX7_setPost 14 = .ok (.iload_n 2, 1) := by decide +kernel
theorem dX7_setPost_15 : decode cX7_setPost 15 = .ok (.invokevirtual 112, 3) := by decide +kernel
theorem dX7_setPost_18 : decode cX7_setPost 18 = .ok (.ifCond .eq 7, 3) := by decide +kernel
theorem dX7_setPost_21 : decode cX7_setPost 21 = .ok (.iconst 1, 1) := by decide +kernel
theorem dX7_setPost_22 : decode cX7_setPost 22 = .ok (.goto 4, 3) := by decide +kernel
theorem dX7_setPost_25 : decode cX7_setPost 25 = .ok (.iconst 0, 1) := by decide +kernel
theorem dX7_setPost_26 : decode cX7_setPost 26 = .ok (.istore_n 3, 1) := by decide +kernel
theorem dX7_setPost_27 : decode cX7_setPost 27 = .ok (.iload_n 3, 1) := by decide +kernel
theorem dX7_setPost_28 : decode cX7_setPost 28 = .ok (.ifCond .eq 16, 3) := by decide +kernel
theorem dX7_setPost_31 : decode cX7_setPost 31 = .ok (.iload_n 2, 1) := by decide +kernel
theorem dX7_setPost_32 : decode cX7_setPost 32 = .ok (.iconst (-1), 1) := by decide +kernel
theorem dX7_setPost_33 : decode cX7_setPost 33 = .ok (.if_icmp .eq 11, 3) := by decide +kernel
theorem dX7_setPost_36 : decode cX7_setPost 36 = .ok (.aload_n 0, 1) := by decide +kernel
theorem dX7_setPost_37 : decode cX7_setPost 37 = .ok (.iload_n 2, 1) := by decide +kernel
theorem dX7_setPost_38 : decode cX7_setPost 38 = .ok (.invokevirtual 116, 3) := by decide +kernel
theorem dX7_setPost_41 : decode cX7_setPost 41 = .ok (.goto 4, 3) := by decide +kernel
theorem dX7_setPost_44 : decode cX7_setPost 44 = .ok (.iconst (-1), 1) := by decide +kernel
theorem dX7_setPost_45 : decode cX7_setPost 45 = .ok (.istore 4, 2) := by decide +kernel
theorem dX7_setPost_47 : decode cX7_setPost 47 = .ok (.aload_n 0, 1) := by decide +kernel
theorem dX7_setPost_48 : decode cX7_setPost 48 = .ok (.iload_n 3, 1) := by decide +kernel
theorem dX7_setPost_49 : decode cX7_setPost 49 = .ok (.ifCond .ne 7, 3) := by decide +kernel
theorem dX7_setPost_52 : decode cX7_setPost 52 = .ok (.iconst 1, 1) := by decide +kernel
theorem dX7_setPost_53 : decode cX7_setPost 53 = .ok (.goto 20, 3) := by decide +kernel
theorem dX7_setPost_56 : decode cX7_setPost 56 = .ok (.iload 4, 2) := by decide +kernel
theorem dX7_setPost_58 : decode cX7_setPost 58 = .ok (.iconst (-1), 1) := by decide +kernel
theorem dX7_setPost_59 : decode cX7_setPost 59 = .ok (.if_icmp .eq 13, 3) := by decide +kernel
theorem dX7_setPost_62 : decode cX7_setPost 62 = .ok (.iload 4, 2) := by decide +kernel
theorem dX7_setPost_64 : decode cX7_setPost 64 = .ok (.iload_n 1, 1) := by decide +kernel
theorem dX7_setPost_65 : decode cX7_setPost 65 = .ok (.if_icmp .eq 7, 3) := by decide +kernel
theorem dX7_setPost_68 : decode cX7_setPost 68 = .ok (.iconst 2, 1) := by decide +kernel
theorem dX7_setPost_69 : decode cX7_setPost 69 = .ok (.goto 4, 3) := by decide +kernel
theorem dX7_setPost_72 : decode cX7_setPost 72 = .ok (.iconst 0, 1) := by decide +kernel
theorem dX7_setPost_73 : decode cX7_setPost 73 = .ok (.putfield 34, 3) := by decide +kernel
theorem dX7_setPost_76 : decode cX7_setPost 76 = .ok (.aload_n 0, 1) := by decide +kernel
theorem dX7_setPost_77 : decode cX7_setPost 77 = .ok (.getfield 34, 3) := by decide +kernel
theorem dX7_setPost_80 : decode cX7_setPost 80 = .ok (.ifCond .le 5, 3) := by decide +kernel
theorem dX7_setPost_83 : decode cX7_setPost 83 = .ok (.iconst 0, 1) := by decide +kernel
theorem dX7_setPost_84 : decode cX7_setPost 84 = .ok (.ireturn, 1) := by decide +kernel
theorem dX7_setPost_85 : decode cX7_setPost 85 = .ok (.aload_n 0, 1) := by decide +kernel
theorem dX7_setPost_86 : decode cX7_setPost 86 = .ok (.invokevirtual 109, 3) := by decide +kernel
theorem dX7_setPost_89 : decode cX7_setPost 89 = .ok (.aload_n 0, 1) := by decide +kernel
theorem dX7_setPost_90 : decode cX7_setPost 90 = .ok (.getfield 7, 3) := by decide +kernel
theorem dX7_setPost_93 : decode cX7_setPost 93 = .ok (.iload_n 1, 1) := by decide +kernel
theorem dX7_setPost_94 : decode cX7_setPost 94 = .ok (.iconst 2, 1) := by decide +kernel
theorem dX7_setPost_95 : decode cX7_setPost 95 = .ok (.invokestatic 56, 3) := by decide +kernel
theorem dX7_setPost_98 : decode cX7_setPost 98 = .ok (.istore 5, 2) := by decide +kernel
theorem dX7_setPost_100 : decode cX7_setPost 100 = .ok (.aload_n 0, 1) := by decide +kernel
theorem dX7_setPost_101 : decode cX7_setPost 101 = .ok (.getfield 7, 3) := by decide +kernel
theorem dX7_setPost_104 : decode cX7_setPost 104 = .ok (.iload_n 1, 1) := by decide +kernel
theorem dX7_setPost_105 : decode cX7_setPost 105 = .ok (.iconst 2, 1) := by decide +kernel
theorem dX7_setPost_106 : decode cX7_setPost 106 = .ok (.iload_n 2, 1) := by decide +kernel
theorem dX7_setPost_107 : decode cX7_setPost 107 = .ok (.invokestatic 84, 3) := by decide +kernel
theorem dX7_setPost_110 : decode cX7_setPost 110 = .ok (.iload 5, 2) := by decide +kernel
theorem dX7_setPost_112 : decode cX7_setPost 112 = .ok (.ireturn, 1) := by decide +kernel
theorem iX7_setPost_0 {x : Nat} {Ls st : List Value} {h : AH} : ev L xs mdX7_setPost 0 (.ref x :: Ls) (st) h = ev L xs mdX7_setPost 1 (.ref x :: Ls) (.ref x :: st) (h) := e_aload_n dX7_setPost_0 rfl
theorem iX7_setPost_1 {v0 : Value} {x : Int32} {Ls st : List Value} {h : AH} : ev L xs mdX7_setPost 1 (v0 :: .int x :: Ls) (st) h = ev L xs mdX7_setPost 2 (v0 :: .int x :: Ls) (.int x :: st) (h) := e_iload_n dX7_setPost_1 rfl
theorem iX7_setPost_2 {a : Nat} {p0 : Int32} {Ls st : List Value} {h : AH} (hk : hK h a = 7) (hw : wds st ≤ 8) : ev L xs mdX7_setPost 2 Ls (.int p0 :: .ref a :: st) h = kn L xs mdX7_setPost 2 5 Ls st (ev L xs mdX7_isGuard 0 [.ref a, .int p0] [] h) := e_callV (as := [.int p0]) dX7_setPost_2 mr_7_122 (by decide) (by decide) rfl (by simp [wds, Value.category]; decide) rfl (by decide) hk hw
theorem iX7_setPost_5 {x : Int32} {Ls st : List Value} {h : AH} : ev L xs mdX7_setPost 5 Ls (.int x :: st) h = if x = nI 0 then ev L xs mdX7_setPost 25 Ls st h else ev L xs mdX7_setPost 8 Ls st h := e_if_eq dX7_setPost_5 (by decide)
theorem iX7_setPost_8 {v0 : Value} {v1 : Value} {x : Int32} {Ls st : List Value} {h : AH} : ev L xs mdX7_setPost 8 (v0 :: v1 :: .int x :: Ls) (st) h = ev L xs mdX7_setPost 9 (v0 :: v1 :: .int x :: Ls) (.int x :: st) (h) := e_iload_n dX7_setPost_8 rfl
theorem iX7_setPost_9  {Ls st : List Value} {h : AH} : ev L xs mdX7_setPost 9 (Ls) (st) h = ev L xs mdX7_setPost 10 (Ls) (.int (-1) :: st) (h) := e_iconst dX7_setPost_9 (by decide)
theorem iX7_setPost_10 {x z : Int32} {Ls st : List Value} {h : AH} : ev L xs mdX7_setPost 10 Ls (.int z :: .int x :: st) h = if x = z then ev L xs mdX7_setPost 21 Ls st h else ev L xs mdX7_setPost 13 Ls st h := e_ic_eq dX7_setPost_10 (by decide)
theorem iX7_setPost_13 {x : Nat} {Ls st : List Value} {h : AH} : ev L xs mdX7_setPost 13 (.ref x :: Ls) (st) h = ev L xs mdX7_setPost 14 (.ref x :: Ls) (.ref x :: st) (h) := e_aload_n dX7_setPost_13 rfl
theorem iX7_setPost_14 {v0 : Value} {v1 : Value} {x : Int32} {Ls st : List Value} {h : AH} : ev L xs mdX7_setPost 14 (v0 :: v1 :: .int x :: Ls) (st) h = ev L xs mdX7_setPost 15 (v0 :: v1 :: .int x :: Ls) (.int x :: st) (h) := e_iload_n dX7_setPost_14 rfl
theorem iX7_setPost_15 {a : Nat} {p0 : Int32} {Ls st : List Value} {h : AH} (hk : hK h a = 7) (hw : wds st ≤ 8) : ev L xs mdX7_setPost 15 Ls (.int p0 :: .ref a :: st) h = kn L xs mdX7_setPost 15 18 Ls st (ev L xs mdX7_isPost 0 [.ref a, .int p0] [] h) := e_callV (as := [.int p0]) dX7_setPost_15 mr_7_112 (by decide) (by decide) rfl (by simp [wds, Value.category]; decide) rfl (by decide) hk hw
theorem iX7_setPost_18 {x : Int32} {Ls st : List Value} {h : AH} : ev L xs mdX7_setPost 18 Ls (.int x :: st) h = if x = nI 0 then ev L xs mdX7_setPost 25 Ls st h else ev L xs mdX7_setPost 21 Ls st h := e_if_eq dX7_setPost_18 (by decide)
theorem iX7_setPost_21  {Ls st : List Value} {h : AH} : ev L xs mdX7_setPost 21 (Ls) (st) h = ev L xs mdX7_setPost 22 (Ls) (.int (nI 1) :: st) (h) := e_iconst dX7_setPost_21 (by decide)
theorem iX7_setPost_22  {Ls st : List Value} {h : AH} : ev L xs mdX7_setPost 22 (Ls) (st) h = ev L xs mdX7_setPost 26 (Ls) (st) (h) := e_goto dX7_setPost_22 (by decide)
theorem iX7_setPost_25  {Ls st : List Value} {h : AH} : ev L xs mdX7_setPost 25 (Ls) (st) h = ev L xs mdX7_setPost 26 (Ls) (.int (nI 0) :: st) (h) := e_iconst dX7_setPost_25 (by decide)
theorem iX7_setPost_26 {v0 : Value} {v1 : Value} {v2 : Value} {v3 : Value} {x : Int32} {Ls st : List Value} {h : AH} (hc9 : v2.category = 1) : ev L xs mdX7_setPost 26 (v0 :: v1 :: v2 :: v3 :: Ls) (.int x :: st) h = ev L xs mdX7_setPost 27 (v0 :: v1 :: v2 :: .int x :: Ls) (st) (h) := e_istore_n dX7_setPost_26 rfl (by decide) (by unfold catOK; show (_ || (v2.category == 1)) = true; rw [hc9]; rfl)
theorem iX7_setPost_27 {v0 : Value} {v1 : Value} {v2 : Value} {x : Int32} {Ls st : List Value} {h : AH} : ev L xs mdX7_setPost 27 (v0 :: v1 :: v2 :: .int x :: Ls) (st) h = ev L xs mdX7_setPost 28 (v0 :: v1 :: v2 :: .int x :: Ls) (.int x :: st) (h) := e_iload_n dX7_setPost_27 rfl
theorem iX7_setPost_28 {x : Int32} {Ls st : List Value} {h : AH} : ev L xs mdX7_setPost 28 Ls (.int x :: st) h = if x = nI 0 then ev L xs mdX7_setPost 44 Ls st h else ev L xs mdX7_setPost 31 Ls st h := e_if_eq dX7_setPost_28 (by decide)
theorem iX7_setPost_31 {v0 : Value} {v1 : Value} {x : Int32} {Ls st : List Value} {h : AH} : ev L xs mdX7_setPost 31 (v0 :: v1 :: .int x :: Ls) (st) h = ev L xs mdX7_setPost 32 (v0 :: v1 :: .int x :: Ls) (.int x :: st) (h) := e_iload_n dX7_setPost_31 rfl
theorem iX7_setPost_32  {Ls st : List Value} {h : AH} : ev L xs mdX7_setPost 32 (Ls) (st) h = ev L xs mdX7_setPost 33 (Ls) (.int (-1) :: st) (h) := e_iconst dX7_setPost_32 (by decide)
theorem iX7_setPost_33 {x z : Int32} {Ls st : List Value} {h : AH} : ev L xs mdX7_setPost 33 Ls (.int z :: .int x :: st) h = if x = z then ev L xs mdX7_setPost 44 Ls st h else ev L xs mdX7_setPost 36 Ls st h := e_ic_eq dX7_setPost_33 (by decide)
theorem iX7_setPost_36 {x : Nat} {Ls st : List Value} {h : AH} : ev L xs mdX7_setPost 36 (.ref x :: Ls) (st) h = ev L xs mdX7_setPost 37 (.ref x :: Ls) (.ref x :: st) (h) := e_aload_n dX7_setPost_36 rfl
theorem iX7_setPost_37 {v0 : Value} {v1 : Value} {x : Int32} {Ls st : List Value} {h : AH} : ev L xs mdX7_setPost 37 (v0 :: v1 :: .int x :: Ls) (st) h = ev L xs mdX7_setPost 38 (v0 :: v1 :: .int x :: Ls) (.int x :: st) (h) := e_iload_n dX7_setPost_37 rfl
theorem iX7_setPost_38 {a : Nat} {p0 : Int32} {Ls st : List Value} {h : AH} (hk : hK h a = 7) (hw : wds st ≤ 8) : ev L xs mdX7_setPost 38 Ls (.int p0 :: .ref a :: st) h = kn L xs mdX7_setPost 38 41 Ls st (ev L xs mdX7_ownerOf 0 [.ref a, .int p0, .null, .null] [] h) := e_callV (as := [.int p0]) dX7_setPost_38 mr_7_116 (by decide) (by decide) rfl (by simp [wds, Value.category]; decide) rfl (by decide) hk hw
theorem iX7_setPost_41  {Ls st : List Value} {h : AH} : ev L xs mdX7_setPost 41 (Ls) (st) h = ev L xs mdX7_setPost 45 (Ls) (st) (h) := e_goto dX7_setPost_41 (by decide)
theorem iX7_setPost_44  {Ls st : List Value} {h : AH} : ev L xs mdX7_setPost 44 (Ls) (st) h = ev L xs mdX7_setPost 45 (Ls) (.int (-1) :: st) (h) := e_iconst dX7_setPost_44 (by decide)
theorem iX7_setPost_45 {v0 : Value} {v1 : Value} {v2 : Value} {v3 : Value} {v4 : Value} {x : Int32} {Ls st : List Value} {h : AH} (hc9 : v3.category = 1) : ev L xs mdX7_setPost 45 (v0 :: v1 :: v2 :: v3 :: v4 :: Ls) (.int x :: st) h = ev L xs mdX7_setPost 47 (v0 :: v1 :: v2 :: v3 :: .int x :: Ls) (st) (h) := e_istore dX7_setPost_45 rfl (by decide) (by unfold catOK; show (_ || (v3.category == 1)) = true; rw [hc9]; rfl)
theorem iX7_setPost_47 {x : Nat} {Ls st : List Value} {h : AH} : ev L xs mdX7_setPost 47 (.ref x :: Ls) (st) h = ev L xs mdX7_setPost 48 (.ref x :: Ls) (.ref x :: st) (h) := e_aload_n dX7_setPost_47 rfl
theorem iX7_setPost_48 {v0 : Value} {v1 : Value} {v2 : Value} {x : Int32} {Ls st : List Value} {h : AH} : ev L xs mdX7_setPost 48 (v0 :: v1 :: v2 :: .int x :: Ls) (st) h = ev L xs mdX7_setPost 49 (v0 :: v1 :: v2 :: .int x :: Ls) (.int x :: st) (h) := e_iload_n dX7_setPost_48 rfl
theorem iX7_setPost_49 {x : Int32} {Ls st : List Value} {h : AH} : ev L xs mdX7_setPost 49 Ls (.int x :: st) h = if x = nI 0 then ev L xs mdX7_setPost 52 Ls st h else ev L xs mdX7_setPost 56 Ls st h := e_if_ne dX7_setPost_49 (by decide)
theorem iX7_setPost_52  {Ls st : List Value} {h : AH} : ev L xs mdX7_setPost 52 (Ls) (st) h = ev L xs mdX7_setPost 53 (Ls) (.int (nI 1) :: st) (h) := e_iconst dX7_setPost_52 (by decide)
theorem iX7_setPost_53  {Ls st : List Value} {h : AH} : ev L xs mdX7_setPost 53 (Ls) (st) h = ev L xs mdX7_setPost 73 (Ls) (st) (h) := e_goto dX7_setPost_53 (by decide)
theorem iX7_setPost_56 {v0 : Value} {v1 : Value} {v2 : Value} {v3 : Value} {x : Int32} {Ls st : List Value} {h : AH} : ev L xs mdX7_setPost 56 (v0 :: v1 :: v2 :: v3 :: .int x :: Ls) (st) h = ev L xs mdX7_setPost 58 (v0 :: v1 :: v2 :: v3 :: .int x :: Ls) (.int x :: st) (h) := e_iload dX7_setPost_56 rfl
theorem iX7_setPost_58  {Ls st : List Value} {h : AH} : ev L xs mdX7_setPost 58 (Ls) (st) h = ev L xs mdX7_setPost 59 (Ls) (.int (-1) :: st) (h) := e_iconst dX7_setPost_58 (by decide)
theorem iX7_setPost_59 {x z : Int32} {Ls st : List Value} {h : AH} : ev L xs mdX7_setPost 59 Ls (.int z :: .int x :: st) h = if x = z then ev L xs mdX7_setPost 72 Ls st h else ev L xs mdX7_setPost 62 Ls st h := e_ic_eq dX7_setPost_59 (by decide)
theorem iX7_setPost_62 {v0 : Value} {v1 : Value} {v2 : Value} {v3 : Value} {x : Int32} {Ls st : List Value} {h : AH} : ev L xs mdX7_setPost 62 (v0 :: v1 :: v2 :: v3 :: .int x :: Ls) (st) h = ev L xs mdX7_setPost 64 (v0 :: v1 :: v2 :: v3 :: .int x :: Ls) (.int x :: st) (h) := e_iload dX7_setPost_62 rfl
theorem iX7_setPost_64 {v0 : Value} {x : Int32} {Ls st : List Value} {h : AH} : ev L xs mdX7_setPost 64 (v0 :: .int x :: Ls) (st) h = ev L xs mdX7_setPost 65 (v0 :: .int x :: Ls) (.int x :: st) (h) := e_iload_n dX7_setPost_64 rfl
theorem iX7_setPost_65 {x z : Int32} {Ls st : List Value} {h : AH} : ev L xs mdX7_setPost 65 Ls (.int z :: .int x :: st) h = if x = z then ev L xs mdX7_setPost 72 Ls st h else ev L xs mdX7_setPost 68 Ls st h := e_ic_eq dX7_setPost_65 (by decide)
theorem iX7_setPost_68  {Ls st : List Value} {h : AH} : ev L xs mdX7_setPost 68 (Ls) (st) h = ev L xs mdX7_setPost 69 (Ls) (.int (nI 2) :: st) (h) := e_iconst dX7_setPost_68 (by decide)
theorem iX7_setPost_69  {Ls st : List Value} {h : AH} : ev L xs mdX7_setPost 69 (Ls) (st) h = ev L xs mdX7_setPost 73 (Ls) (st) (h) := e_goto dX7_setPost_69 (by decide)
theorem iX7_setPost_72  {Ls st : List Value} {h : AH} : ev L xs mdX7_setPost 72 (Ls) (st) h = ev L xs mdX7_setPost 73 (Ls) (.int (nI 0) :: st) (h) := e_iconst dX7_setPost_72 (by decide)
theorem iX7_setPost_73 {a : Nat} {v : Int32} {Ls st : List Value} {h : AH} (hk : hK h a = 7) : ev L xs mdX7_setPost 73 (Ls) (.int v :: .ref a :: st) h = ev L xs mdX7_setPost 76 (Ls) (st) (sI h 112 a v) := e_putI (k := 7) (f := 0) (F := 112) dX7_setPost_73 (by decide +kernel) rfl (by decide +kernel) rfl hk
theorem iX7_setPost_76 {x : Nat} {Ls st : List Value} {h : AH} : ev L xs mdX7_setPost 76 (.ref x :: Ls) (st) h = ev L xs mdX7_setPost 77 (.ref x :: Ls) (.ref x :: st) (h) := e_aload_n dX7_setPost_76 rfl
theorem iX7_setPost_77 {a : Nat} {Ls st : List Value} {h : AH} (hk : hK h a = 7) : ev L xs mdX7_setPost 77 (Ls) (.ref a :: st) h = ev L xs mdX7_setPost 80 (Ls) (.int (hI h 112 a) :: st) (h) := e_getI (k := 7) (f := 0) (F := 112) dX7_setPost_77 (by decide +kernel) rfl rfl hk
theorem iX7_setPost_80 {x : Int32} {Ls st : List Value} {h : AH} : ev L xs mdX7_setPost 80 Ls (.int x :: st) h = if x ≤ nI 0 then ev L xs mdX7_setPost 85 Ls st h else ev L xs mdX7_setPost 83 Ls st h := e_if_le dX7_setPost_80 (by decide)
theorem iX7_setPost_83  {Ls st : List Value} {h : AH} : ev L xs mdX7_setPost 83 (Ls) (st) h = ev L xs mdX7_setPost 84 (Ls) (.int (nI 0) :: st) (h) := e_iconst dX7_setPost_83 (by decide)
theorem iX7_setPost_84 {v : Int32} {Ls : List Value} {h : AH} : ev L xs mdX7_setPost 84 Ls [.int v] h = some (.inl (some (.int v), h)) := e_iret dX7_setPost_84 rfl
theorem iX7_setPost_85 {x : Nat} {Ls st : List Value} {h : AH} : ev L xs mdX7_setPost 85 (.ref x :: Ls) (st) h = ev L xs mdX7_setPost 86 (.ref x :: Ls) (.ref x :: st) (h) := e_aload_n dX7_setPost_85 rfl
theorem iX7_setPost_86 {a : Nat} {Ls st : List Value} {h : AH} (hk : hK h a = 7) (hw : wds st ≤ 8) : ev L xs mdX7_setPost 86 Ls (.ref a :: st) h = kn L xs mdX7_setPost 86 89 Ls st (ev L xs mdX7_save 0 [.ref a, .null] [] h) := e_callV (as := []) dX7_setPost_86 mr_7_109 (by decide) (by decide) rfl (by simp [wds, Value.category]; decide) rfl (by decide) hk hw
theorem iX7_setPost_89 {x : Nat} {Ls st : List Value} {h : AH} : ev L xs mdX7_setPost 89 (.ref x :: Ls) (st) h = ev L xs mdX7_setPost 90 (.ref x :: Ls) (.ref x :: st) (h) := e_aload_n dX7_setPost_89 rfl
theorem iX7_setPost_90 {a : Nat} {Ls st : List Value} {h : AH} (hk : hK h a = 7) (hj : (hR h 113 a).isSome = true) : ev L xs mdX7_setPost 90 (Ls) (.ref a :: st) h = ev L xs mdX7_setPost 93 (Ls) (.ref ((hR h 113 a).getD 0) :: st) (h) := e_getR (k := 7) (f := 1) (F := 113) dX7_setPost_90 (by decide +kernel) rfl rfl hk hj
theorem iX7_setPost_93 {v0 : Value} {x : Int32} {Ls st : List Value} {h : AH} : ev L xs mdX7_setPost 93 (v0 :: .int x :: Ls) (st) h = ev L xs mdX7_setPost 94 (v0 :: .int x :: Ls) (.int x :: st) (h) := e_iload_n dX7_setPost_93 rfl
theorem iX7_setPost_94  {Ls st : List Value} {h : AH} : ev L xs mdX7_setPost 94 (Ls) (st) h = ev L xs mdX7_setPost 95 (Ls) (.int (nI 2) :: st) (h) := e_iconst dX7_setPost_94 (by decide)
theorem iX7_setPost_95 {p0 : Nat} {p1 : Int32} {p2 : Int32} {Ls st : List Value} {h : AH} (hw : wds st ≤ 8) : ev L xs mdX7_setPost 95 Ls (.int p2 :: .int p1 :: .ref p0 :: st) h = kn L xs mdX7_setPost 95 98 Ls st (ev L xs mdX7_by 0 [.ref p0, .int p1, .int p2] [] h) := e_callS (as := [.int p2, .int p1, .ref p0]) dX7_setPost_95 mr_7_56 (by decide) (by decide) rfl (by simp [wds, Value.category]; decide) rfl hw
theorem iX7_setPost_98 {v0 : Value} {v1 : Value} {v2 : Value} {v3 : Value} {v4 : Value} {v5 : Value} {x : Int32} {Ls st : List Value} {h : AH} (hc9 : v4.category = 1) : ev L xs mdX7_setPost 98 (v0 :: v1 :: v2 :: v3 :: v4 :: v5 :: Ls) (.int x :: st) h = ev L xs mdX7_setPost 100 (v0 :: v1 :: v2 :: v3 :: v4 :: .int x :: Ls) (st) (h) := e_istore dX7_setPost_98 rfl (by decide) (by unfold catOK; show (_ || (v4.category == 1)) = true; rw [hc9]; rfl)
theorem iX7_setPost_100 {x : Nat} {Ls st : List Value} {h : AH} : ev L xs mdX7_setPost 100 (.ref x :: Ls) (st) h = ev L xs mdX7_setPost 101 (.ref x :: Ls) (.ref x :: st) (h) := e_aload_n dX7_setPost_100 rfl
theorem iX7_setPost_101 {a : Nat} {Ls st : List Value} {h : AH} (hk : hK h a = 7) (hj : (hR h 113 a).isSome = true) : ev L xs mdX7_setPost 101 (Ls) (.ref a :: st) h = ev L xs mdX7_setPost 104 (Ls) (.ref ((hR h 113 a).getD 0) :: st) (h) := e_getR (k := 7) (f := 1) (F := 113) dX7_setPost_101 (by decide +kernel) rfl rfl hk hj
theorem iX7_setPost_104 {v0 : Value} {x : Int32} {Ls st : List Value} {h : AH} : ev L xs mdX7_setPost 104 (v0 :: .int x :: Ls) (st) h = ev L xs mdX7_setPost 105 (v0 :: .int x :: Ls) (.int x :: st) (h) := e_iload_n dX7_setPost_104 rfl
theorem iX7_setPost_105  {Ls st : List Value} {h : AH} : ev L xs mdX7_setPost 105 (Ls) (st) h = ev L xs mdX7_setPost 106 (Ls) (.int (nI 2) :: st) (h) := e_iconst dX7_setPost_105 (by decide)
theorem iX7_setPost_106 {v0 : Value} {v1 : Value} {x : Int32} {Ls st : List Value} {h : AH} : ev L xs mdX7_setPost 106 (v0 :: v1 :: .int x :: Ls) (st) h = ev L xs mdX7_setPost 107 (v0 :: v1 :: .int x :: Ls) (.int x :: st) (h) := e_iload_n dX7_setPost_106 rfl
theorem iX7_setPost_107 {p0 : Nat} {p1 : Int32} {p2 : Int32} {p3 : Int32} {Ls st : List Value} {h : AH} (hw : wds st ≤ 8) : ev L xs mdX7_setPost 107 Ls (.int p3 :: .int p2 :: .int p1 :: .ref p0 :: st) h = kn L xs mdX7_setPost 107 110 Ls st (ev L xs mdX7_give 0 [.ref p0, .int p1, .int p2, .int p3] [] h) := e_callS (as := [.int p3, .int p2, .int p1, .ref p0]) dX7_setPost_107 mr_7_84 (by decide) (by decide) rfl (by simp [wds, Value.category]; decide) rfl hw
theorem iX7_setPost_110 {v0 : Value} {v1 : Value} {v2 : Value} {v3 : Value} {v4 : Value} {x : Int32} {Ls st : List Value} {h : AH} : ev L xs mdX7_setPost 110 (v0 :: v1 :: v2 :: v3 :: v4 :: .int x :: Ls) (st) h = ev L xs mdX7_setPost 112 (v0 :: v1 :: v2 :: v3 :: v4 :: .int x :: Ls) (.int x :: st) (h) := e_iload dX7_setPost_110 rfl
theorem iX7_setPost_112 {v : Int32} {Ls : List Value} {h : AH} : ev L xs mdX7_setPost 112 Ls [.int v] h = some (.inl (some (.int v), h)) := e_iret dX7_setPost_112 rfl
theorem dX7_sick_0 : decode cX7_sick 0 = .ok (.aload_n 0, 1) := by decide +kernel
theorem dX7_sick_1 : decode cX7_sick 1 = .ok (.aload_n 0, 1) := by decide +kernel
theorem dX7_sick_2 : decode cX7_sick 2 = .ok (.iload_n 1, 1) := by decide +kernel
theorem dX7_sick_3 : decode cX7_sick 3 = .ok (.invokevirtual 122, 3) := by decide +kernel
theorem dX7_sick_6 : decode cX7_sick 6 = .ok (.ifCond .ne 7, 3) := by decide +kernel
theorem dX7_sick_9 : decode cX7_sick 9 = .ok (.iconst 1, 1) := by decide +kernel
theorem dX7_sick_10 : decode cX7_sick 10 = .ok (.goto 18, 3) := by decide +kernel
theorem dX7_sick_13 : decode cX7_sick 13 = .ok (.iload_n 2, 1) := by decide +kernel
theorem dX7_sick_14 : decode cX7_sick 14 = .ok (.iconst 0, 1) := by decide +kernel
theorem dX7_sick_15 : decode cX7_sick 15 = .ok (.bipush 60, 2) := by decide +kernel
theorem dX7_sick_17 : decode cX7_sick 17 = .ok (.invokestatic 44, 3) := by decide +kernel
theorem dX7_sick_20 : decode cX7_sick 20 = .ok (.ifCond .ne 7, 3) := by decide +kernel
theorem dX7_sick_23 : decode cX7_sick 23 = .ok (.iconst 2, 1) := by decide +kernel
theorem dX7_sick_24 : decode cX7_sick 24 = .ok (.goto 4, 3) := by decide +kernel
theorem dX7_sick_27 : decode cX7_sick 27 = .ok (.iconst 0, 1) := by decide +kernel
theorem dX7_sick_28 : decode cX7_sick 28 = .ok (.putfield 34, 3) := by decide +kernel
theorem dX7_sick_31 : decode cX7_sick 31 = .ok (.aload_n 0, 1) := by decide +kernel
theorem dX7_sick_32 : decode cX7_sick 32 = .ok (.getfield 34, 3) := by decide +kernel
theorem dX7_sick_35 : decode cX7_sick 35 = .ok (.ifCond .le 5, 3) := by decide +kernel
theorem dX7_sick_38 : decode cX7_sick 38 = .ok (.iconst 0, 1) := by decide +kernel
theorem dX7_sick_39 : decode cX7_sick 39 = .ok (.ireturn, 1) := by decide +kernel
theorem dX7_sick_40 : decode cX7_sick 40 = .ok (.aload_n 0, 1) := by decide +kernel
theorem dX7_sick_41 : decode cX7_sick 41 = .ok (.invokevirtual 109, 3) := by decide +kernel
theorem dX7_sick_44 : decode cX7_sick 44 = .ok (.aload_n 0, 1) := by decide +kernel
theorem dX7_sick_45 : decode cX7_sick 45 = .ok (.getfield 7, 3) := by decide +kernel
theorem dX7_sick_48 : decode cX7_sick 48 = .ok (.iload_n 1, 1) := by decide +kernel
theorem dX7_sick_49 : decode cX7_sick 49 = .ok (.bipush 6, 2) := by decide +kernel
theorem dX7_sick_51 : decode cX7_sick 51 = .ok (.aload_n 0, 1) := by decide +kernel
theorem dX7_sick_52 : decode cX7_sick 52 = .ok (.getfield 7, 3) := by decide +kernel
theorem dX7_sick_55 : decode cX7_sick 55 = .ok (.iconst 0, 1) := by decide +kernel
theorem dX7_sick_56 : decode cX7_sick 56 = .ok (.iaload, 1) := by decide +kernel
theorem dX7_sick_57 : decode cX7_sick 57 = .ok (.iload_n 2, 1) := by decide +kernel
theorem dX7_sick_58 : decode cX7_sick 58 = .ok (.iadd, 1) := by decide +kernel
theorem dX7_sick_59 : decode cX7_sick 59 = .ok (.invokestatic 84, 3) := by decide +kernel
theorem dX7_sick_62 : decode cX7_sick 62 = .ok (.aload_n 0, 1) := by decide +kernel
theorem dX7_sick_63 : decode cX7_sick 63 = .ok (.getfield 7, 3) := by decide +kernel
theorem dX7_sick_66 : decode cX7_sick 66 = .ok (.iconst 0, 1) := by decide +kernel
theorem dX7_sick_67 : decode cX7_sick 67 = .ok (.iaload, 1) := by decide +kernel
theorem dX7_sick_68 : decode cX7_sick 68 = .ok (.iload_n 2, 1) := by decide +kernel
theorem dX7_sick_69 : decode cX7_sick 69 = .ok (.iadd, 1) := by decide +kernel
theorem dX7_sick_70 : decode cX7_sick 70 = .ok (.ireturn, 1) := by decide +kernel
theorem iX7_sick_0 {x : Nat} {Ls st : List Value} {h : AH} : ev L xs mdX7_sick 0 (.ref x :: Ls) (st) h = ev L xs mdX7_sick 1 (.ref x :: Ls) (.ref x :: st) (h) := e_aload_n dX7_sick_0 rfl
theorem iX7_sick_1 {x : Nat} {Ls st : List Value} {h : AH} : ev L xs mdX7_sick 1 (.ref x :: Ls) (st) h = ev L xs mdX7_sick 2 (.ref x :: Ls) (.ref x :: st) (h) := e_aload_n dX7_sick_1 rfl
theorem iX7_sick_2 {v0 : Value} {x : Int32} {Ls st : List Value} {h : AH} : ev L xs mdX7_sick 2 (v0 :: .int x :: Ls) (st) h = ev L xs mdX7_sick 3 (v0 :: .int x :: Ls) (.int x :: st) (h) := e_iload_n dX7_sick_2 rfl
theorem iX7_sick_3 {a : Nat} {p0 : Int32} {Ls st : List Value} {h : AH} (hk : hK h a = 7) (hw : wds st ≤ 8) : ev L xs mdX7_sick 3 Ls (.int p0 :: .ref a :: st) h = kn L xs mdX7_sick 3 6 Ls st (ev L xs mdX7_isGuard 0 [.ref a, .int p0] [] h) := e_callV (as := [.int p0]) dX7_sick_3 mr_7_122 (by decide) (by decide) rfl (by simp [wds, Value.category]; decide) rfl (by decide) hk hw
theorem iX7_sick_6 {x : Int32} {Ls st : List Value} {h : AH} : ev L xs mdX7_sick 6 Ls (.int x :: st) h = if x = nI 0 then ev L xs mdX7_sick 9 Ls st h else ev L xs mdX7_sick 13 Ls st h := e_if_ne dX7_sick_6 (by decide)
theorem iX7_sick_9  {Ls st : List Value} {h : AH} : ev L xs mdX7_sick 9 (Ls) (st) h = ev L xs mdX7_sick 10 (Ls) (.int (nI 1) :: st) (h) := e_iconst dX7_sick_9 (by decide)
theorem iX7_sick_10  {Ls st : List Value} {h : AH} : ev L xs mdX7_sick 10 (Ls) (st) h = ev L xs mdX7_sick 28 (Ls) (st) (h) := e_goto dX7_sick_10 (by decide)
theorem iX7_sick_13 {v0 : Value} {v1 : Value} {x : Int32} {Ls st : List Value} {h : AH} : ev L xs mdX7_sick 13 (v0 :: v1 :: .int x :: Ls) (st) h = ev L xs mdX7_sick 14 (v0 :: v1 :: .int x :: Ls) (.int x :: st) (h) := e_iload_n dX7_sick_13 rfl
theorem iX7_sick_14  {Ls st : List Value} {h : AH} : ev L xs mdX7_sick 14 (Ls) (st) h = ev L xs mdX7_sick 15 (Ls) (.int (nI 0) :: st) (h) := e_iconst dX7_sick_14 (by decide)
theorem iX7_sick_15  {Ls st : List Value} {h : AH} : ev L xs mdX7_sick 15 (Ls) (st) h = ev L xs mdX7_sick 17 (Ls) (.int (nI 60) :: st) (h) := e_bipush dX7_sick_15 (by decide)
theorem iX7_sick_17 {p0 : Int32} {p1 : Int32} {p2 : Int32} {Ls st : List Value} {h : AH} (hw : wds st ≤ 8) : ev L xs mdX7_sick 17 Ls (.int p2 :: .int p1 :: .int p0 :: st) h = kn L xs mdX7_sick 17 20 Ls st (ev L xs mdX7_in 0 [.int p0, .int p1, .int p2] [] h) := e_callS (as := [.int p2, .int p1, .int p0]) dX7_sick_17 mr_7_44 (by decide) (by decide) rfl (by simp [wds, Value.category]; decide) rfl hw
theorem iX7_sick_20 {x : Int32} {Ls st : List Value} {h : AH} : ev L xs mdX7_sick 20 Ls (.int x :: st) h = if x = nI 0 then ev L xs mdX7_sick 23 Ls st h else ev L xs mdX7_sick 27 Ls st h := e_if_ne dX7_sick_20 (by decide)
theorem iX7_sick_23  {Ls st : List Value} {h : AH} : ev L xs mdX7_sick 23 (Ls) (st) h = ev L xs mdX7_sick 24 (Ls) (.int (nI 2) :: st) (h) := e_iconst dX7_sick_23 (by decide)
theorem iX7_sick_24  {Ls st : List Value} {h : AH} : ev L xs mdX7_sick 24 (Ls) (st) h = ev L xs mdX7_sick 28 (Ls) (st) (h) := e_goto dX7_sick_24 (by decide)
theorem iX7_sick_27  {Ls st : List Value} {h : AH} : ev L xs mdX7_sick 27 (Ls) (st) h = ev L xs mdX7_sick 28 (Ls) (.int (nI 0) :: st) (h) := e_iconst dX7_sick_27 (by decide)
theorem iX7_sick_28 {a : Nat} {v : Int32} {Ls st : List Value} {h : AH} (hk : hK h a = 7) : ev L xs mdX7_sick 28 (Ls) (.int v :: .ref a :: st) h = ev L xs mdX7_sick 31 (Ls) (st) (sI h 112 a v) := e_putI (k := 7) (f := 0) (F := 112) dX7_sick_28 (by decide +kernel) rfl (by decide +kernel) rfl hk
theorem iX7_sick_31 {x : Nat} {Ls st : List Value} {h : AH} : ev L xs mdX7_sick 31 (.ref x :: Ls) (st) h = ev L xs mdX7_sick 32 (.ref x :: Ls) (.ref x :: st) (h) := e_aload_n dX7_sick_31 rfl
theorem iX7_sick_32 {a : Nat} {Ls st : List Value} {h : AH} (hk : hK h a = 7) : ev L xs mdX7_sick 32 (Ls) (.ref a :: st) h = ev L xs mdX7_sick 35 (Ls) (.int (hI h 112 a) :: st) (h) := e_getI (k := 7) (f := 0) (F := 112) dX7_sick_32 (by decide +kernel) rfl rfl hk
theorem iX7_sick_35 {x : Int32} {Ls st : List Value} {h : AH} : ev L xs mdX7_sick 35 Ls (.int x :: st) h = if x ≤ nI 0 then ev L xs mdX7_sick 40 Ls st h else ev L xs mdX7_sick 38 Ls st h := e_if_le dX7_sick_35 (by decide)
theorem iX7_sick_38  {Ls st : List Value} {h : AH} : ev L xs mdX7_sick 38 (Ls) (st) h = ev L xs mdX7_sick 39 (Ls) (.int (nI 0) :: st) (h) := e_iconst dX7_sick_38 (by decide)
theorem iX7_sick_39 {v : Int32} {Ls : List Value} {h : AH} : ev L xs mdX7_sick 39 Ls [.int v] h = some (.inl (some (.int v), h)) := e_iret dX7_sick_39 rfl
theorem iX7_sick_40 {x : Nat} {Ls st : List Value} {h : AH} : ev L xs mdX7_sick 40 (.ref x :: Ls) (st) h = ev L xs mdX7_sick 41 (.ref x :: Ls) (.ref x :: st) (h) := e_aload_n dX7_sick_40 rfl
theorem iX7_sick_41 {a : Nat} {Ls st : List Value} {h : AH} (hk : hK h a = 7) (hw : wds st ≤ 8) : ev L xs mdX7_sick 41 Ls (.ref a :: st) h = kn L xs mdX7_sick 41 44 Ls st (ev L xs mdX7_save 0 [.ref a, .null] [] h) := e_callV (as := []) dX7_sick_41 mr_7_109 (by decide) (by decide) rfl (by simp [wds, Value.category]; decide) rfl (by decide) hk hw
theorem iX7_sick_44 {x : Nat} {Ls st : List Value} {h : AH} : ev L xs mdX7_sick 44 (.ref x :: Ls) (st) h = ev L xs mdX7_sick 45 (.ref x :: Ls) (.ref x :: st) (h) := e_aload_n dX7_sick_44 rfl
theorem iX7_sick_45 {a : Nat} {Ls st : List Value} {h : AH} (hk : hK h a = 7) (hj : (hR h 113 a).isSome = true) : ev L xs mdX7_sick 45 (Ls) (.ref a :: st) h = ev L xs mdX7_sick 48 (Ls) (.ref ((hR h 113 a).getD 0) :: st) (h) := e_getR (k := 7) (f := 1) (F := 113) dX7_sick_45 (by decide +kernel) rfl rfl hk hj
theorem iX7_sick_48 {v0 : Value} {x : Int32} {Ls st : List Value} {h : AH} : ev L xs mdX7_sick 48 (v0 :: .int x :: Ls) (st) h = ev L xs mdX7_sick 49 (v0 :: .int x :: Ls) (.int x :: st) (h) := e_iload_n dX7_sick_48 rfl
theorem iX7_sick_49  {Ls st : List Value} {h : AH} : ev L xs mdX7_sick 49 (Ls) (st) h = ev L xs mdX7_sick 51 (Ls) (.int (nI 6) :: st) (h) := e_bipush dX7_sick_49 (by decide)
theorem iX7_sick_51 {x : Nat} {Ls st : List Value} {h : AH} : ev L xs mdX7_sick 51 (.ref x :: Ls) (st) h = ev L xs mdX7_sick 52 (.ref x :: Ls) (.ref x :: st) (h) := e_aload_n dX7_sick_51 rfl
theorem iX7_sick_52 {a : Nat} {Ls st : List Value} {h : AH} (hk : hK h a = 7) (hj : (hR h 113 a).isSome = true) : ev L xs mdX7_sick 52 (Ls) (.ref a :: st) h = ev L xs mdX7_sick 55 (Ls) (.ref ((hR h 113 a).getD 0) :: st) (h) := e_getR (k := 7) (f := 1) (F := 113) dX7_sick_52 (by decide +kernel) rfl rfl hk hj
theorem iX7_sick_55  {Ls st : List Value} {h : AH} : ev L xs mdX7_sick 55 (Ls) (st) h = ev L xs mdX7_sick 56 (Ls) (.int (nI 0) :: st) (h) := e_iconst dX7_sick_55 (by decide)
theorem iX7_sick_56 {a : Nat} {j : Int32} {Ls st : List Value} {h : AH} (hk : hK h a = 8) (hi : inA j (hN h a) = true) : ev L xs mdX7_sick 56 (Ls) (.int j :: .ref a :: st) h = ev L xs mdX7_sick 57 (Ls) (.int (hA h a j.toNatClampNeg) :: st) (h) := e_iald dX7_sick_56 hk hi
theorem iX7_sick_57 {v0 : Value} {v1 : Value} {x : Int32} {Ls st : List Value} {h : AH} : ev L xs mdX7_sick 57 (v0 :: v1 :: .int x :: Ls) (st) h = ev L xs mdX7_sick 58 (v0 :: v1 :: .int x :: Ls) (.int x :: st) (h) := e_iload_n dX7_sick_57 rfl
theorem iX7_sick_58 {x z : Int32} {Ls st : List Value} {h : AH} : ev L xs mdX7_sick 58 (Ls) (.int z :: .int x :: st) h = ev L xs mdX7_sick 59 (Ls) (.int (x + z) :: st) (h) := e_iadd dX7_sick_58
theorem iX7_sick_59 {p0 : Nat} {p1 : Int32} {p2 : Int32} {p3 : Int32} {Ls st : List Value} {h : AH} (hw : wds st ≤ 8) : ev L xs mdX7_sick 59 Ls (.int p3 :: .int p2 :: .int p1 :: .ref p0 :: st) h = kn L xs mdX7_sick 59 62 Ls st (ev L xs mdX7_give 0 [.ref p0, .int p1, .int p2, .int p3] [] h) := e_callS (as := [.int p3, .int p2, .int p1, .ref p0]) dX7_sick_59 mr_7_84 (by decide) (by decide) rfl (by simp [wds, Value.category]; decide) rfl hw
theorem iX7_sick_62 {x : Nat} {Ls st : List Value} {h : AH} : ev L xs mdX7_sick 62 (.ref x :: Ls) (st) h = ev L xs mdX7_sick 63 (.ref x :: Ls) (.ref x :: st) (h) := e_aload_n dX7_sick_62 rfl
theorem iX7_sick_63 {a : Nat} {Ls st : List Value} {h : AH} (hk : hK h a = 7) (hj : (hR h 113 a).isSome = true) : ev L xs mdX7_sick 63 (Ls) (.ref a :: st) h = ev L xs mdX7_sick 66 (Ls) (.ref ((hR h 113 a).getD 0) :: st) (h) := e_getR (k := 7) (f := 1) (F := 113) dX7_sick_63 (by decide +kernel) rfl rfl hk hj
theorem iX7_sick_66  {Ls st : List Value} {h : AH} : ev L xs mdX7_sick 66 (Ls) (st) h = ev L xs mdX7_sick 67 (Ls) (.int (nI 0) :: st) (h) := e_iconst dX7_sick_66 (by decide)
theorem iX7_sick_67 {a : Nat} {j : Int32} {Ls st : List Value} {h : AH} (hk : hK h a = 8) (hi : inA j (hN h a) = true) : ev L xs mdX7_sick 67 (Ls) (.int j :: .ref a :: st) h = ev L xs mdX7_sick 68 (Ls) (.int (hA h a j.toNatClampNeg) :: st) (h) := e_iald dX7_sick_67 hk hi
theorem iX7_sick_68 {v0 : Value} {v1 : Value} {x : Int32} {Ls st : List Value} {h : AH} : ev L xs mdX7_sick 68 (v0 :: v1 :: .int x :: Ls) (st) h = ev L xs mdX7_sick 69 (v0 :: v1 :: .int x :: Ls) (.int x :: st) (h) := e_iload_n dX7_sick_68 rfl
theorem iX7_sick_69 {x z : Int32} {Ls st : List Value} {h : AH} : ev L xs mdX7_sick 69 (Ls) (.int z :: .int x :: st) h = ev L xs mdX7_sick 70 (Ls) (.int (x + z) :: st) (h) := e_iadd dX7_sick_69
theorem iX7_sick_70 {v : Int32} {Ls : List Value} {h : AH} : ev L xs mdX7_sick 70 Ls [.int v] h = some (.inl (some (.int v), h)) := e_iret dX7_sick_70 rfl
theorem dX7_standAtOwn_0 : decode cX7_standAtOwn 0 = .ok (.iconst 0, 1) := by decide +kernel
theorem dX7_standAtOwn_1 : decode cX7_standAtOwn 1 = .ok (.istore 4, 2) := by decide +kernel
theorem dX7_standAtOwn_3 : decode cX7_standAtOwn 3 = .ok (.iload 4, 2) := by decide +kernel
theorem dX7_standAtOwn_5 : decode cX7_standAtOwn 5 = .ok (.bipush 8, 2) := by decide +kernel
theorem dX7_standAtOwn_7 : decode cX7_standAtOwn 7 = .ok (.if_icmp .ge 25, 3) := by decide +kernel
theorem dX7_standAtOwn_10 : decode cX7_standAtOwn 10 = .ok (.aload_n 0, 1) := by decide +kernel
theorem dX7_standAtOwn_11 : decode cX7_standAtOwn 11 = .ok (.getfield 22, 3) := by decide +kernel
theorem dX7_standAtOwn_14 : decode cX7_standAtOwn 14 = .ok (.iload 4, 2) := by decide +kernel
theorem dX7_standAtOwn_16 : decode cX7_standAtOwn 16 = .ok (.iconst (-1), 1) := by decide +kernel
theorem dX7_standAtOwn_17 : decode cX7_standAtOwn 17 = .ok (.iastore, 1) := by decide +kernel
theorem dX7_standAtOwn_18 : decode cX7_standAtOwn 18 = .ok (.aload_n 0, 1) := by decide +kernel
theorem dX7_standAtOwn_19 : decode cX7_standAtOwn 19 = .ok (.getfield 25, 3) := by decide +kernel
theorem dX7_standAtOwn_22 : decode cX7_standAtOwn 22 = .ok (.iload 4, 2) := by decide +kernel
theorem dX7_standAtOwn_24 : decode cX7_standAtOwn 24 = .ok (.iconst 0, 1) := by decide +kernel
theorem dX7_standAtOwn_25 : decode cX7_standAtOwn 25 = .ok (.iastore, 1) := by decide +kernel
theorem dX7_standAtOwn_26 : decode cX7_standAtOwn 26 = .ok (.iinc 4 1, 3) := by decide +kernel
theorem dX7_standAtOwn_29 : decode cX7_standAtOwn 29 = .ok (.goto (-26), 3) := by decide +kernel
theorem dX7_standAtOwn_32 : decode cX7_standAtOwn 32 = .ok (.iconst 0, 1) := by decide +kernel
theorem dX7_standAtOwn_33 : decode cX7_standAtOwn 33 = .ok (.istore 4, 2) := by decide +kernel
theorem dX7_standAtOwn_35 : decode cX7_standAtOwn 35 = .ok (.iload 4, 2) := by decide +kernel
theorem dX7_standAtOwn_37 : decode cX7_standAtOwn 37 = .ok (.aload_n 1, 1) := by decide +kernel
theorem dX7_standAtOwn_38 : decode cX7_standAtOwn 38 = .ok (.iconst 4, 1) := by decide +kernel
theorem dX7_standAtOwn_39 : decode cX7_standAtOwn 39 = .ok (.iaload, 1) := by decide +kernel
theorem dX7_standAtOwn_40 : decode cX7_standAtOwn 40 = .ok (.if_icmp .ge 78, 3) := by decide +kernel
theorem dX7_standAtOwn_43 : decode cX7_standAtOwn 43 = .ok (.aload_n 1, 1) := by decide +kernel
theorem dX7_standAtOwn_44 : decode cX7_standAtOwn 44 = .ok (.iload 4, 2) := by decide +kernel
theorem dX7_standAtOwn_46 : decode cX7_standAtOwn 46 = .ok (.iconst 2, 1) := by decide +kernel
theorem dX7_standAtOwn_47 : decode cX7_standAtOwn 47 = .ok (.invokestatic 56, 3) := by decide +kernel
theorem dX7_standAtOwn_50 : decode cX7_standAtOwn 50 = .ok (.istore 5, 2) := by decide +kernel
theorem dX7_standAtOwn_52 : decode cX7_standAtOwn 52 = .ok (.aload_n 0, 1) := by decide +kernel
theorem dX7_standAtOwn_53 : decode cX7_standAtOwn 53 = .ok (.getfield 28, 3) := by decide +kernel
theorem dX7_standAtOwn_56 : decode cX7_standAtOwn 56 = .ok (.iload 4, 2) := by decide +kernel
theorem dX7_standAtOwn_58 : decode cX7_standAtOwn 58 = .ok (.iload 5, 2) := by decide +kernel
theorem dX7_standAtOwn_60 : decode cX7_standAtOwn 60 = .ok (.iconst (-1), 1) := by decide +kernel
theorem dX7_standAtOwn_61 : decode cX7_standAtOwn 61 = .ok (.if_icmp .eq 29, 3) := by decide +kernel
theorem dX7_standAtOwn_64 : decode cX7_standAtOwn 64 = .ok (.aload_n 0, 1) := by decide +kernel
theorem dX7_standAtOwn_65 : decode cX7_standAtOwn 65 = .ok (.aload_n 1, 1) := by decide +kernel
theorem dX7_standAtOwn_66 : decode cX7_standAtOwn 66 = .ok (.iload 4, 2) := by decide +kernel
theorem dX7_standAtOwn_68 : decode cX7_standAtOwn 68 = .ok (.iload_n 2, 1) := by decide +kernel
theorem dX7_standAtOwn_69 : decode cX7_standAtOwn 69 = .ok (.invokevirtual 59, 3) := by decide +kernel
theorem dX7_standAtOwn_72 : decode cX7_standAtOwn 72 = .ok (.ifCond .ne 18, 3) := by decide +kernel
theorem dX7_standAtOwn_75 : decode cX7_standAtOwn 75 = .ok (.aload_n 1, 1) := by decide +kernel
theorem dX7_standAtOwn_76 : decode cX7_standAtOwn 76 = .ok (.iload 5, 2) := by decide +kernel
theorem dX7_standAtOwn_78 : decode cX7_standAtOwn 78 = .ok (.iload_n 2, 1) := by decide +kernel
theorem dX7_standAtOwn_79 : decode cX7_standAtOwn 79 = .ok (.iload_n 3, 1) := by decide +kernel
theorem dX7_standAtOwn_80 : decode cX7_standAtOwn 80 = .ok (.invokestatic 63, 3) := by decide +kernel
theorem dX7_standAtOwn_83 : decode cX7_standAtOwn 83 = .ok (.ifCond .eq 7, 3) := by decide +kernel
theorem dX7_standAtOwn_86 : decode cX7_standAtOwn 86 = .ok (.iconst 1, 1) := by decide +kernel
theorem dX7_standAtOwn_87 : decode cX7_standAtOwn 87 = .ok (.goto 4, 3) := by decide +kernel
theorem dX7_standAtOwn_90 : decode cX7_standAtOwn 90 = .ok (.iconst 0, 1) := by decide +kernel
theorem dX7_standAtOwn_91 : decode cX7_standAtOwn 91 = .ok (.iastore, 1) := by decide +kernel
theorem dX7_standAtOwn_92 : decode cX7_standAtOwn 92 = .ok (.aload_n 0, 1) := by decide +kernel
theorem dX7_standAtOwn_93 : decode cX7_standAtOwn 93 = .ok (.getfield 28, 3) := by decide +kernel
theorem dX7_standAtOwn_96 : decode cX7_standAtOwn 96 = .ok (.iload 4, 2) := by decide +kernel
theorem dX7_standAtOwn_98 : decode cX7_standAtOwn 98 = .ok (.iaload, 1) := by decide +kernel
theorem dX7_standAtOwn_99 : decode cX7_standAtOwn 99 = .ok (.iconst 1, 1) := by decide +kernel
theorem dX7_standAtOwn_100 : decode cX7_standAtOwn 100 = .ok (.if_icmp .ne 12, 3) := by decide +kernel
theorem dX7_standAtOwn_103 : decode cX7_standAtOwn 103 = .ok (.aload_n 0, 1) := by decide +kernel
theorem dX7_standAtOwn_104 : decode cX7_standAtOwn 104 = .ok (.getfield 22, 3) := by decide +kernel
theorem dX7_standAtOwn_107 : decode cX7_standAtOwn 107 = .ok (.iload 5, 2) := by decide +kernel
theorem dX7_standAtOwn_109 : decode cX7_standAtOwn 109 = .ok (.iload 4, 2) := by decide +kernel
theorem dX7_standAtOwn_111 : decode cX7_standAtOwn 111 = .ok (.iastore, 1) := by decide +kernel
theorem dX7_standAtOwn_112 : decode cX7_standAtOwn 112 = .ok (.iinc 4 1, 3) := by decide +kernel
theorem dX7_standAtOwn_115 : decode cX7_standAtOwn 115 = .ok (.goto (-80), 3) := by decide +kernel
theorem dX7_standAtOwn_118 : decode cX7_standAtOwn 118 = .ok (.return_, 1) := by decide +kernel
theorem iX7_standAtOwn_0  {Ls st : List Value} {h : AH} : ev L xs mdX7_standAtOwn 0 (Ls) (st) h = ev L xs mdX7_standAtOwn 1 (Ls) (.int (nI 0) :: st) (h) := e_iconst dX7_standAtOwn_0 (by decide)
theorem iX7_standAtOwn_1 {v0 : Value} {v1 : Value} {v2 : Value} {v3 : Value} {v4 : Value} {x : Int32} {Ls st : List Value} {h : AH} (hc9 : v3.category = 1) : ev L xs mdX7_standAtOwn 1 (v0 :: v1 :: v2 :: v3 :: v4 :: Ls) (.int x :: st) h = ev L xs mdX7_standAtOwn 3 (v0 :: v1 :: v2 :: v3 :: .int x :: Ls) (st) (h) := e_istore dX7_standAtOwn_1 rfl (by decide) (by unfold catOK; show (_ || (v3.category == 1)) = true; rw [hc9]; rfl)
theorem iX7_standAtOwn_3 {v0 : Value} {v1 : Value} {v2 : Value} {v3 : Value} {x : Int32} {Ls st : List Value} {h : AH} : ev L xs mdX7_standAtOwn 3 (v0 :: v1 :: v2 :: v3 :: .int x :: Ls) (st) h = ev L xs mdX7_standAtOwn 5 (v0 :: v1 :: v2 :: v3 :: .int x :: Ls) (.int x :: st) (h) := e_iload dX7_standAtOwn_3 rfl
theorem iX7_standAtOwn_5  {Ls st : List Value} {h : AH} : ev L xs mdX7_standAtOwn 5 (Ls) (st) h = ev L xs mdX7_standAtOwn 7 (Ls) (.int (nI 8) :: st) (h) := e_bipush dX7_standAtOwn_5 (by decide)
theorem iX7_standAtOwn_7 {x z : Int32} {Ls st : List Value} {h : AH} : ev L xs mdX7_standAtOwn 7 Ls (.int z :: .int x :: st) h = if z ≤ x then ev L xs mdX7_standAtOwn 32 Ls st h else ev L xs mdX7_standAtOwn 10 Ls st h := e_ic_ge dX7_standAtOwn_7 (by decide)
theorem iX7_standAtOwn_10 {x : Nat} {Ls st : List Value} {h : AH} : ev L xs mdX7_standAtOwn 10 (.ref x :: Ls) (st) h = ev L xs mdX7_standAtOwn 11 (.ref x :: Ls) (.ref x :: st) (h) := e_aload_n dX7_standAtOwn_10 rfl
theorem iX7_standAtOwn_11 {a : Nat} {Ls st : List Value} {h : AH} (hk : hK h a = 7) (hj : (hR h 119 a).isSome = true) : ev L xs mdX7_standAtOwn 11 (Ls) (.ref a :: st) h = ev L xs mdX7_standAtOwn 14 (Ls) (.ref ((hR h 119 a).getD 0) :: st) (h) := e_getR (k := 7) (f := 7) (F := 119) dX7_standAtOwn_11 (by decide +kernel) rfl rfl hk hj
theorem iX7_standAtOwn_14 {v0 : Value} {v1 : Value} {v2 : Value} {v3 : Value} {x : Int32} {Ls st : List Value} {h : AH} : ev L xs mdX7_standAtOwn 14 (v0 :: v1 :: v2 :: v3 :: .int x :: Ls) (st) h = ev L xs mdX7_standAtOwn 16 (v0 :: v1 :: v2 :: v3 :: .int x :: Ls) (.int x :: st) (h) := e_iload dX7_standAtOwn_14 rfl
theorem iX7_standAtOwn_16  {Ls st : List Value} {h : AH} : ev L xs mdX7_standAtOwn 16 (Ls) (st) h = ev L xs mdX7_standAtOwn 17 (Ls) (.int (-1) :: st) (h) := e_iconst dX7_standAtOwn_16 (by decide)
theorem iX7_standAtOwn_17 {a : Nat} {j : Int32} {v : Int32} {Ls st : List Value} {h : AH} (hk : hK h a = 8) (hi : inA j (hN h a) = true) : ev L xs mdX7_standAtOwn 17 (Ls) (.int v :: .int j :: .ref a :: st) h = ev L xs mdX7_standAtOwn 18 (Ls) (st) (sA h a j.toNatClampNeg v) := e_iast dX7_standAtOwn_17 hk hi
theorem iX7_standAtOwn_18 {x : Nat} {Ls st : List Value} {h : AH} : ev L xs mdX7_standAtOwn 18 (.ref x :: Ls) (st) h = ev L xs mdX7_standAtOwn 19 (.ref x :: Ls) (.ref x :: st) (h) := e_aload_n dX7_standAtOwn_18 rfl
theorem iX7_standAtOwn_19 {a : Nat} {Ls st : List Value} {h : AH} (hk : hK h a = 7) (hj : (hR h 120 a).isSome = true) : ev L xs mdX7_standAtOwn 19 (Ls) (.ref a :: st) h = ev L xs mdX7_standAtOwn 22 (Ls) (.ref ((hR h 120 a).getD 0) :: st) (h) := e_getR (k := 7) (f := 8) (F := 120) dX7_standAtOwn_19 (by decide +kernel) rfl rfl hk hj
theorem iX7_standAtOwn_22 {v0 : Value} {v1 : Value} {v2 : Value} {v3 : Value} {x : Int32} {Ls st : List Value} {h : AH} : ev L xs mdX7_standAtOwn 22 (v0 :: v1 :: v2 :: v3 :: .int x :: Ls) (st) h = ev L xs mdX7_standAtOwn 24 (v0 :: v1 :: v2 :: v3 :: .int x :: Ls) (.int x :: st) (h) := e_iload dX7_standAtOwn_22 rfl
theorem iX7_standAtOwn_24  {Ls st : List Value} {h : AH} : ev L xs mdX7_standAtOwn 24 (Ls) (st) h = ev L xs mdX7_standAtOwn 25 (Ls) (.int (nI 0) :: st) (h) := e_iconst dX7_standAtOwn_24 (by decide)
theorem iX7_standAtOwn_25 {a : Nat} {j : Int32} {v : Int32} {Ls st : List Value} {h : AH} (hk : hK h a = 8) (hi : inA j (hN h a) = true) : ev L xs mdX7_standAtOwn 25 (Ls) (.int v :: .int j :: .ref a :: st) h = ev L xs mdX7_standAtOwn 26 (Ls) (st) (sA h a j.toNatClampNeg v) := e_iast dX7_standAtOwn_25 hk hi
theorem iX7_standAtOwn_26 {v0 : Value} {v1 : Value} {v2 : Value} {v3 : Value} {x : Int32} {Ls st : List Value} {h : AH} (hc9 : v3.category = 1) : ev L xs mdX7_standAtOwn 26 (v0 :: v1 :: v2 :: v3 :: .int x :: Ls) (st) h = ev L xs mdX7_standAtOwn 29 (v0 :: v1 :: v2 :: v3 :: .int (x + (nI 1)) :: Ls) (st) (h) := e_iinc dX7_standAtOwn_26 rfl rfl rfl (by decide) (by unfold catOK; show (_ || (v3.category == 1)) = true; rw [hc9]; rfl)
theorem iX7_standAtOwn_29  {Ls st : List Value} {h : AH} : ev L xs mdX7_standAtOwn 29 (Ls) (st) h = ev L xs mdX7_standAtOwn 3 (Ls) (st) (h) := e_goto dX7_standAtOwn_29 (by decide)
theorem iX7_standAtOwn_32  {Ls st : List Value} {h : AH} : ev L xs mdX7_standAtOwn 32 (Ls) (st) h = ev L xs mdX7_standAtOwn 33 (Ls) (.int (nI 0) :: st) (h) := e_iconst dX7_standAtOwn_32 (by decide)
theorem iX7_standAtOwn_33 {v0 : Value} {v1 : Value} {v2 : Value} {v3 : Value} {v4 : Value} {x : Int32} {Ls st : List Value} {h : AH} (hc9 : v3.category = 1) : ev L xs mdX7_standAtOwn 33 (v0 :: v1 :: v2 :: v3 :: v4 :: Ls) (.int x :: st) h = ev L xs mdX7_standAtOwn 35 (v0 :: v1 :: v2 :: v3 :: .int x :: Ls) (st) (h) := e_istore dX7_standAtOwn_33 rfl (by decide) (by unfold catOK; show (_ || (v3.category == 1)) = true; rw [hc9]; rfl)
theorem iX7_standAtOwn_35 {v0 : Value} {v1 : Value} {v2 : Value} {v3 : Value} {x : Int32} {Ls st : List Value} {h : AH} : ev L xs mdX7_standAtOwn 35 (v0 :: v1 :: v2 :: v3 :: .int x :: Ls) (st) h = ev L xs mdX7_standAtOwn 37 (v0 :: v1 :: v2 :: v3 :: .int x :: Ls) (.int x :: st) (h) := e_iload dX7_standAtOwn_35 rfl
theorem iX7_standAtOwn_37 {v0 : Value} {x : Nat} {Ls st : List Value} {h : AH} : ev L xs mdX7_standAtOwn 37 (v0 :: .ref x :: Ls) (st) h = ev L xs mdX7_standAtOwn 38 (v0 :: .ref x :: Ls) (.ref x :: st) (h) := e_aload_n dX7_standAtOwn_37 rfl
theorem iX7_standAtOwn_38  {Ls st : List Value} {h : AH} : ev L xs mdX7_standAtOwn 38 (Ls) (st) h = ev L xs mdX7_standAtOwn 39 (Ls) (.int (nI 4) :: st) (h) := e_iconst dX7_standAtOwn_38 (by decide)
theorem iX7_standAtOwn_39 {a : Nat} {j : Int32} {Ls st : List Value} {h : AH} (hk : hK h a = 8) (hi : inA j (hN h a) = true) : ev L xs mdX7_standAtOwn 39 (Ls) (.int j :: .ref a :: st) h = ev L xs mdX7_standAtOwn 40 (Ls) (.int (hA h a j.toNatClampNeg) :: st) (h) := e_iald dX7_standAtOwn_39 hk hi
theorem iX7_standAtOwn_40 {x z : Int32} {Ls st : List Value} {h : AH} : ev L xs mdX7_standAtOwn 40 Ls (.int z :: .int x :: st) h = if z ≤ x then ev L xs mdX7_standAtOwn 118 Ls st h else ev L xs mdX7_standAtOwn 43 Ls st h := e_ic_ge dX7_standAtOwn_40 (by decide)
theorem iX7_standAtOwn_43 {v0 : Value} {x : Nat} {Ls st : List Value} {h : AH} : ev L xs mdX7_standAtOwn 43 (v0 :: .ref x :: Ls) (st) h = ev L xs mdX7_standAtOwn 44 (v0 :: .ref x :: Ls) (.ref x :: st) (h) := e_aload_n dX7_standAtOwn_43 rfl
theorem iX7_standAtOwn_44 {v0 : Value} {v1 : Value} {v2 : Value} {v3 : Value} {x : Int32} {Ls st : List Value} {h : AH} : ev L xs mdX7_standAtOwn 44 (v0 :: v1 :: v2 :: v3 :: .int x :: Ls) (st) h = ev L xs mdX7_standAtOwn 46 (v0 :: v1 :: v2 :: v3 :: .int x :: Ls) (.int x :: st) (h) := e_iload dX7_standAtOwn_44 rfl
theorem iX7_standAtOwn_46  {Ls st : List Value} {h : AH} : ev L xs mdX7_standAtOwn 46 (Ls) (st) h = ev L xs mdX7_standAtOwn 47 (Ls) (.int (nI 2) :: st) (h) := e_iconst dX7_standAtOwn_46 (by decide)
theorem iX7_standAtOwn_47 {p0 : Nat} {p1 : Int32} {p2 : Int32} {Ls st : List Value} {h : AH} (hw : wds st ≤ 8) : ev L xs mdX7_standAtOwn 47 Ls (.int p2 :: .int p1 :: .ref p0 :: st) h = kn L xs mdX7_standAtOwn 47 50 Ls st (ev L xs mdX7_by 0 [.ref p0, .int p1, .int p2] [] h) := e_callS (as := [.int p2, .int p1, .ref p0]) dX7_standAtOwn_47 mr_7_56 (by decide) (by decide) rfl (by simp [wds, Value.category]; decide) rfl hw
theorem iX7_standAtOwn_50 {v0 : Value} {v1 : Value} {v2 : Value} {v3 : Value} {v4 : Value} {v5 : Value} {x : Int32} {Ls st : List Value} {h : AH} (hc9 : v4.category = 1) : ev L xs mdX7_standAtOwn 50 (v0 :: v1 :: v2 :: v3 :: v4 :: v5 :: Ls) (.int x :: st) h = ev L xs mdX7_standAtOwn 52 (v0 :: v1 :: v2 :: v3 :: v4 :: .int x :: Ls) (st) (h) := e_istore dX7_standAtOwn_50 rfl (by decide) (by unfold catOK; show (_ || (v4.category == 1)) = true; rw [hc9]; rfl)
theorem iX7_standAtOwn_52 {x : Nat} {Ls st : List Value} {h : AH} : ev L xs mdX7_standAtOwn 52 (.ref x :: Ls) (st) h = ev L xs mdX7_standAtOwn 53 (.ref x :: Ls) (.ref x :: st) (h) := e_aload_n dX7_standAtOwn_52 rfl
theorem iX7_standAtOwn_53 {a : Nat} {Ls st : List Value} {h : AH} (hk : hK h a = 7) (hj : (hR h 121 a).isSome = true) : ev L xs mdX7_standAtOwn 53 (Ls) (.ref a :: st) h = ev L xs mdX7_standAtOwn 56 (Ls) (.ref ((hR h 121 a).getD 0) :: st) (h) := e_getR (k := 7) (f := 9) (F := 121) dX7_standAtOwn_53 (by decide +kernel) rfl rfl hk hj
theorem iX7_standAtOwn_56 {v0 : Value} {v1 : Value} {v2 : Value} {v3 : Value} {x : Int32} {Ls st : List Value} {h : AH} : ev L xs mdX7_standAtOwn 56 (v0 :: v1 :: v2 :: v3 :: .int x :: Ls) (st) h = ev L xs mdX7_standAtOwn 58 (v0 :: v1 :: v2 :: v3 :: .int x :: Ls) (.int x :: st) (h) := e_iload dX7_standAtOwn_56 rfl
theorem iX7_standAtOwn_58 {v0 : Value} {v1 : Value} {v2 : Value} {v3 : Value} {v4 : Value} {x : Int32} {Ls st : List Value} {h : AH} : ev L xs mdX7_standAtOwn 58 (v0 :: v1 :: v2 :: v3 :: v4 :: .int x :: Ls) (st) h = ev L xs mdX7_standAtOwn 60 (v0 :: v1 :: v2 :: v3 :: v4 :: .int x :: Ls) (.int x :: st) (h) := e_iload dX7_standAtOwn_58 rfl
theorem iX7_standAtOwn_60  {Ls st : List Value} {h : AH} : ev L xs mdX7_standAtOwn 60 (Ls) (st) h = ev L xs mdX7_standAtOwn 61 (Ls) (.int (-1) :: st) (h) := e_iconst dX7_standAtOwn_60 (by decide)
theorem iX7_standAtOwn_61 {x z : Int32} {Ls st : List Value} {h : AH} : ev L xs mdX7_standAtOwn 61 Ls (.int z :: .int x :: st) h = if x = z then ev L xs mdX7_standAtOwn 90 Ls st h else ev L xs mdX7_standAtOwn 64 Ls st h := e_ic_eq dX7_standAtOwn_61 (by decide)
theorem iX7_standAtOwn_64 {x : Nat} {Ls st : List Value} {h : AH} : ev L xs mdX7_standAtOwn 64 (.ref x :: Ls) (st) h = ev L xs mdX7_standAtOwn 65 (.ref x :: Ls) (.ref x :: st) (h) := e_aload_n dX7_standAtOwn_64 rfl
theorem iX7_standAtOwn_65 {v0 : Value} {x : Nat} {Ls st : List Value} {h : AH} : ev L xs mdX7_standAtOwn 65 (v0 :: .ref x :: Ls) (st) h = ev L xs mdX7_standAtOwn 66 (v0 :: .ref x :: Ls) (.ref x :: st) (h) := e_aload_n dX7_standAtOwn_65 rfl
theorem iX7_standAtOwn_66 {v0 : Value} {v1 : Value} {v2 : Value} {v3 : Value} {x : Int32} {Ls st : List Value} {h : AH} : ev L xs mdX7_standAtOwn 66 (v0 :: v1 :: v2 :: v3 :: .int x :: Ls) (st) h = ev L xs mdX7_standAtOwn 68 (v0 :: v1 :: v2 :: v3 :: .int x :: Ls) (.int x :: st) (h) := e_iload dX7_standAtOwn_66 rfl
theorem iX7_standAtOwn_68 {v0 : Value} {v1 : Value} {x : Int32} {Ls st : List Value} {h : AH} : ev L xs mdX7_standAtOwn 68 (v0 :: v1 :: .int x :: Ls) (st) h = ev L xs mdX7_standAtOwn 69 (v0 :: v1 :: .int x :: Ls) (.int x :: st) (h) := e_iload_n dX7_standAtOwn_68 rfl
theorem iX7_standAtOwn_69 {a : Nat} {p0 : Nat} {p1 : Int32} {p2 : Int32} {Ls st : List Value} {h : AH} (hk : hK h a = 7) (hw : wds st ≤ 8) : ev L xs mdX7_standAtOwn 69 Ls (.int p2 :: .int p1 :: .ref p0 :: .ref a :: st) h = kn L xs mdX7_standAtOwn 69 72 Ls st (ev L xs mdX7_isSick 0 [.ref a, .ref p0, .int p1, .int p2] [] h) := e_callV (as := [.int p2, .int p1, .ref p0]) dX7_standAtOwn_69 mr_7_59 (by decide) (by decide) rfl (by simp [wds, Value.category]; decide) rfl (by decide) hk hw
theorem iX7_standAtOwn_72 {x : Int32} {Ls st : List Value} {h : AH} : ev L xs mdX7_standAtOwn 72 Ls (.int x :: st) h = if x = nI 0 then ev L xs mdX7_standAtOwn 75 Ls st h else ev L xs mdX7_standAtOwn 90 Ls st h := e_if_ne dX7_standAtOwn_72 (by decide)
theorem iX7_standAtOwn_75 {v0 : Value} {x : Nat} {Ls st : List Value} {h : AH} : ev L xs mdX7_standAtOwn 75 (v0 :: .ref x :: Ls) (st) h = ev L xs mdX7_standAtOwn 76 (v0 :: .ref x :: Ls) (.ref x :: st) (h) := e_aload_n dX7_standAtOwn_75 rfl
theorem iX7_standAtOwn_76 {v0 : Value} {v1 : Value} {v2 : Value} {v3 : Value} {v4 : Value} {x : Int32} {Ls st : List Value} {h : AH} : ev L xs mdX7_standAtOwn 76 (v0 :: v1 :: v2 :: v3 :: v4 :: .int x :: Ls) (st) h = ev L xs mdX7_standAtOwn 78 (v0 :: v1 :: v2 :: v3 :: v4 :: .int x :: Ls) (.int x :: st) (h) := e_iload dX7_standAtOwn_76 rfl
theorem iX7_standAtOwn_78 {v0 : Value} {v1 : Value} {x : Int32} {Ls st : List Value} {h : AH} : ev L xs mdX7_standAtOwn 78 (v0 :: v1 :: .int x :: Ls) (st) h = ev L xs mdX7_standAtOwn 79 (v0 :: v1 :: .int x :: Ls) (.int x :: st) (h) := e_iload_n dX7_standAtOwn_78 rfl
theorem iX7_standAtOwn_79 {v0 : Value} {v1 : Value} {v2 : Value} {x : Int32} {Ls st : List Value} {h : AH} : ev L xs mdX7_standAtOwn 79 (v0 :: v1 :: v2 :: .int x :: Ls) (st) h = ev L xs mdX7_standAtOwn 80 (v0 :: v1 :: v2 :: .int x :: Ls) (.int x :: st) (h) := e_iload_n dX7_standAtOwn_79 rfl
theorem iX7_standAtOwn_80 {p0 : Nat} {p1 : Int32} {p2 : Int32} {p3 : Int32} {Ls st : List Value} {h : AH} (hw : wds st ≤ 8) : ev L xs mdX7_standAtOwn 80 Ls (.int p3 :: .int p2 :: .int p1 :: .ref p0 :: st) h = kn L xs mdX7_standAtOwn 80 83 Ls st (ev L xs mdX7_isNeeded 0 [.ref p0, .int p1, .int p2, .int p3] [] h) := e_callS (as := [.int p3, .int p2, .int p1, .ref p0]) dX7_standAtOwn_80 mr_7_63 (by decide) (by decide) rfl (by simp [wds, Value.category]; decide) rfl hw
theorem iX7_standAtOwn_83 {x : Int32} {Ls st : List Value} {h : AH} : ev L xs mdX7_standAtOwn 83 Ls (.int x :: st) h = if x = nI 0 then ev L xs mdX7_standAtOwn 90 Ls st h else ev L xs mdX7_standAtOwn 86 Ls st h := e_if_eq dX7_standAtOwn_83 (by decide)
theorem iX7_standAtOwn_86  {Ls st : List Value} {h : AH} : ev L xs mdX7_standAtOwn 86 (Ls) (st) h = ev L xs mdX7_standAtOwn 87 (Ls) (.int (nI 1) :: st) (h) := e_iconst dX7_standAtOwn_86 (by decide)
theorem iX7_standAtOwn_87  {Ls st : List Value} {h : AH} : ev L xs mdX7_standAtOwn 87 (Ls) (st) h = ev L xs mdX7_standAtOwn 91 (Ls) (st) (h) := e_goto dX7_standAtOwn_87 (by decide)
theorem iX7_standAtOwn_90  {Ls st : List Value} {h : AH} : ev L xs mdX7_standAtOwn 90 (Ls) (st) h = ev L xs mdX7_standAtOwn 91 (Ls) (.int (nI 0) :: st) (h) := e_iconst dX7_standAtOwn_90 (by decide)
theorem iX7_standAtOwn_91 {a : Nat} {j : Int32} {v : Int32} {Ls st : List Value} {h : AH} (hk : hK h a = 8) (hi : inA j (hN h a) = true) : ev L xs mdX7_standAtOwn 91 (Ls) (.int v :: .int j :: .ref a :: st) h = ev L xs mdX7_standAtOwn 92 (Ls) (st) (sA h a j.toNatClampNeg v) := e_iast dX7_standAtOwn_91 hk hi
theorem iX7_standAtOwn_92 {x : Nat} {Ls st : List Value} {h : AH} : ev L xs mdX7_standAtOwn 92 (.ref x :: Ls) (st) h = ev L xs mdX7_standAtOwn 93 (.ref x :: Ls) (.ref x :: st) (h) := e_aload_n dX7_standAtOwn_92 rfl
theorem iX7_standAtOwn_93 {a : Nat} {Ls st : List Value} {h : AH} (hk : hK h a = 7) (hj : (hR h 121 a).isSome = true) : ev L xs mdX7_standAtOwn 93 (Ls) (.ref a :: st) h = ev L xs mdX7_standAtOwn 96 (Ls) (.ref ((hR h 121 a).getD 0) :: st) (h) := e_getR (k := 7) (f := 9) (F := 121) dX7_standAtOwn_93 (by decide +kernel) rfl rfl hk hj
theorem iX7_standAtOwn_96 {v0 : Value} {v1 : Value} {v2 : Value} {v3 : Value} {x : Int32} {Ls st : List Value} {h : AH} : ev L xs mdX7_standAtOwn 96 (v0 :: v1 :: v2 :: v3 :: .int x :: Ls) (st) h = ev L xs mdX7_standAtOwn 98 (v0 :: v1 :: v2 :: v3 :: .int x :: Ls) (.int x :: st) (h) := e_iload dX7_standAtOwn_96 rfl
theorem iX7_standAtOwn_98 {a : Nat} {j : Int32} {Ls st : List Value} {h : AH} (hk : hK h a = 8) (hi : inA j (hN h a) = true) : ev L xs mdX7_standAtOwn 98 (Ls) (.int j :: .ref a :: st) h = ev L xs mdX7_standAtOwn 99 (Ls) (.int (hA h a j.toNatClampNeg) :: st) (h) := e_iald dX7_standAtOwn_98 hk hi
theorem iX7_standAtOwn_99  {Ls st : List Value} {h : AH} : ev L xs mdX7_standAtOwn 99 (Ls) (st) h = ev L xs mdX7_standAtOwn 100 (Ls) (.int (nI 1) :: st) (h) := e_iconst dX7_standAtOwn_99 (by decide)
theorem iX7_standAtOwn_100 {x z : Int32} {Ls st : List Value} {h : AH} : ev L xs mdX7_standAtOwn 100 Ls (.int z :: .int x :: st) h = if x = z then ev L xs mdX7_standAtOwn 103 Ls st h else ev L xs mdX7_standAtOwn 112 Ls st h := e_ic_ne dX7_standAtOwn_100 (by decide)
theorem iX7_standAtOwn_103 {x : Nat} {Ls st : List Value} {h : AH} : ev L xs mdX7_standAtOwn 103 (.ref x :: Ls) (st) h = ev L xs mdX7_standAtOwn 104 (.ref x :: Ls) (.ref x :: st) (h) := e_aload_n dX7_standAtOwn_103 rfl
theorem iX7_standAtOwn_104 {a : Nat} {Ls st : List Value} {h : AH} (hk : hK h a = 7) (hj : (hR h 119 a).isSome = true) : ev L xs mdX7_standAtOwn 104 (Ls) (.ref a :: st) h = ev L xs mdX7_standAtOwn 107 (Ls) (.ref ((hR h 119 a).getD 0) :: st) (h) := e_getR (k := 7) (f := 7) (F := 119) dX7_standAtOwn_104 (by decide +kernel) rfl rfl hk hj
theorem iX7_standAtOwn_107 {v0 : Value} {v1 : Value} {v2 : Value} {v3 : Value} {v4 : Value} {x : Int32} {Ls st : List Value} {h : AH} : ev L xs mdX7_standAtOwn 107 (v0 :: v1 :: v2 :: v3 :: v4 :: .int x :: Ls) (st) h = ev L xs mdX7_standAtOwn 109 (v0 :: v1 :: v2 :: v3 :: v4 :: .int x :: Ls) (.int x :: st) (h) := e_iload dX7_standAtOwn_107 rfl
theorem iX7_standAtOwn_109 {v0 : Value} {v1 : Value} {v2 : Value} {v3 : Value} {x : Int32} {Ls st : List Value} {h : AH} : ev L xs mdX7_standAtOwn 109 (v0 :: v1 :: v2 :: v3 :: .int x :: Ls) (st) h = ev L xs mdX7_standAtOwn 111 (v0 :: v1 :: v2 :: v3 :: .int x :: Ls) (.int x :: st) (h) := e_iload dX7_standAtOwn_109 rfl
theorem iX7_standAtOwn_111 {a : Nat} {j : Int32} {v : Int32} {Ls st : List Value} {h : AH} (hk : hK h a = 8) (hi : inA j (hN h a) = true) : ev L xs mdX7_standAtOwn 111 (Ls) (.int v :: .int j :: .ref a :: st) h = ev L xs mdX7_standAtOwn 112 (Ls) (st) (sA h a j.toNatClampNeg v) := e_iast dX7_standAtOwn_111 hk hi
theorem iX7_standAtOwn_112 {v0 : Value} {v1 : Value} {v2 : Value} {v3 : Value} {x : Int32} {Ls st : List Value} {h : AH} (hc9 : v3.category = 1) : ev L xs mdX7_standAtOwn 112 (v0 :: v1 :: v2 :: v3 :: .int x :: Ls) (st) h = ev L xs mdX7_standAtOwn 115 (v0 :: v1 :: v2 :: v3 :: .int (x + (nI 1)) :: Ls) (st) (h) := e_iinc dX7_standAtOwn_112 rfl rfl rfl (by decide) (by unfold catOK; show (_ || (v3.category == 1)) = true; rw [hc9]; rfl)
theorem iX7_standAtOwn_115  {Ls st : List Value} {h : AH} : ev L xs mdX7_standAtOwn 115 (Ls) (st) h = ev L xs mdX7_standAtOwn 35 (Ls) (st) (h) := e_goto dX7_standAtOwn_115 (by decide)
theorem iX7_standAtOwn_118 {Ls : List Value} {h : AH} : ev L xs mdX7_standAtOwn 118 Ls [] h = some (.inl (none, h)) := e_vret dX7_standAtOwn_118 rfl
theorem dX7_standing_0 : decode cX7_standing 0 = .ok (.aload_n 0, 1) := by decide +kernel
theorem dX7_standing_1 : decode cX7_standing 1 = .ok (.aload_n 0, 1) := by decide +kernel
theorem dX7_standing_2 : decode cX7_standing 2 = .ok (.iload_n 1, 1) := by decide +kernel
theorem dX7_standing_3 : decode cX7_standing 3 = .ok (.invokevirtual 112, 3) := by decide +kernel
theorem dX7_standing_6 : decode cX7_standing 6 = .ok (.ifCond .ne 7, 3) := by decide +kernel
theorem dX7_standing_9 : decode cX7_standing 9 = .ok (.iconst 1, 1) := by decide +kernel
theorem dX7_standing_10 : decode cX7_standing 10 = .ok (.goto 16, 3) := by decide +kernel
theorem dX7_standing_13 : decode cX7_standing 13 = .ok (.iload_n 2, 1) := by decide +kernel
theorem dX7_standing_14 : decode cX7_standing 14 = .ok (.iload_n 3, 1) := by decide +kernel
theorem dX7_standing_15 : decode cX7_standing 15 = .ok (.invokestatic 150, 3) := by decide +kernel
theorem dX7_standing_18 : decode cX7_standing 18 = .ok (.ifCond .ne 7, 3) := by decide +kernel
theorem dX7_standing_21 : decode cX7_standing 21 = .ok (.iconst 2, 1) := by decide +kernel
theorem dX7_standing_22 : decode cX7_standing 22 = .ok (.goto 4, 3) := by decide +kernel
theorem dX7_standing_25 : decode cX7_standing 25 = .ok (.iconst 0, 1) := by decide +kernel
theorem dX7_standing_26 : decode cX7_standing 26 = .ok (.putfield 34, 3) := by decide +kernel
theorem dX7_standing_29 : decode cX7_standing 29 = .ok (.aload_n 0, 1) := by decide +kernel
theorem dX7_standing_30 : decode cX7_standing 30 = .ok (.getfield 34, 3) := by decide +kernel
theorem dX7_standing_33 : decode cX7_standing 33 = .ok (.ifCond .le 5, 3) := by decide +kernel
theorem dX7_standing_36 : decode cX7_standing 36 = .ok (.iconst 0, 1) := by decide +kernel
theorem dX7_standing_37 : decode cX7_standing 37 = .ok (.ireturn, 1) := by decide +kernel
theorem dX7_standing_38 : decode cX7_standing 38 = .ok (.aload_n 0, 1) := by decide +kernel
theorem dX7_standing_39 : decode cX7_standing 39 = .ok (.aload_n 0, 1) := by decide +kernel
theorem dX7_standing_40 : decode cX7_standing 40 = .ok (.getfield 7, 3) := by decide +kernel
theorem dX7_standing_43 : decode cX7_standing 43 = .ok (.iload_n 2, 1) := by decide +kernel
theorem dX7_standing_44 : decode cX7_standing 44 = .ok (.iload_n 3, 1) := by decide +kernel
theorem dX7_standing_45 : decode cX7_standing 45 = .ok (.aload_n 0, 1) := by decide +kernel
theorem dX7_standing_46 : decode cX7_standing 46 = .ok (.getfield 7, 3) := by decide +kernel
theorem dX7_standing_49 : decode cX7_standing 49 = .ok (.invokestatic 88, 3) := by decide +kernel
theorem dX7_standing_52 : decode cX7_standing 52 = .ok (.invokevirtual 92, 3) := by decide +kernel
theorem dX7_standing_55 : decode cX7_standing 55 = .ok (.istore 4, 2) := by decide +kernel
theorem dX7_standing_57 : decode cX7_standing 57 = .ok (.iload 4, 2) := by decide +kernel
theorem dX7_standing_59 : decode cX7_standing 59 = .ok (.iload_n 1, 1) := by decide +kernel
theorem dX7_standing_60 : decode cX7_standing 60 = .ok (.ishr, 1) := by decide +kernel
theorem dX7_standing_61 : decode cX7_standing 61 = .ok (.iconst 1, 1) := by decide +kernel
theorem dX7_standing_62 : decode cX7_standing 62 = .ok (.iand, 1) := by decide +kernel
theorem dX7_standing_63 : decode cX7_standing 63 = .ok (.iconst 1, 1) := by decide +kernel
theorem dX7_standing_64 : decode cX7_standing 64 = .ok (.if_icmp .ne 7, 3) := by decide +kernel
theorem dX7_standing_67 : decode cX7_standing 67 = .ok (.iconst (-1), 1) := by decide +kernel
theorem dX7_standing_68 : decode cX7_standing 68 = .ok (.goto 9, 3) := by decide +kernel
theorem dX7_standing_71 : decode cX7_standing 71 = .ok (.aload_n 0, 1) := by decide +kernel
theorem dX7_standing_72 : decode cX7_standing 72 = .ok (.getfield 22, 3) := by decide +kernel
theorem dX7_standing_75 : decode cX7_standing 75 = .ok (.iload_n 1, 1) := by decide +kernel
theorem dX7_standing_76 : decode cX7_standing 76 = .ok (.iaload, 1) := by decide +kernel
theorem dX7_standing_77 : decode cX7_standing 77 = .ok (.ireturn, 1) := by decide +kernel
theorem iX7_standing_0 {x : Nat} {Ls st : List Value} {h : AH} : ev L xs mdX7_standing 0 (.ref x :: Ls) (st) h = ev L xs mdX7_standing 1 (.ref x :: Ls) (.ref x :: st) (h) := e_aload_n dX7_standing_0 rfl
theorem iX7_standing_1 {x : Nat} {Ls st : List Value} {h : AH} : ev L xs mdX7_standing 1 (.ref x :: Ls) (st) h = ev L xs mdX7_standing 2 (.ref x :: Ls) (.ref x :: st) (h) := e_aload_n dX7_standing_1 rfl
theorem iX7_standing_2 {v0 : Value} {x : Int32} {Ls st : List Value} {h : AH} : ev L xs mdX7_standing 2 (v0 :: .int x :: Ls) (st) h = ev L xs mdX7_standing 3 (v0 :: .int x :: Ls) (.int x :: st) (h) := e_iload_n dX7_standing_2 rfl
theorem iX7_standing_3 {a : Nat} {p0 : Int32} {Ls st : List Value} {h : AH} (hk : hK h a = 7) (hw : wds st ≤ 8) : ev L xs mdX7_standing 3 Ls (.int p0 :: .ref a :: st) h = kn L xs mdX7_standing 3 6 Ls st (ev L xs mdX7_isPost 0 [.ref a, .int p0] [] h) := e_callV (as := [.int p0]) dX7_standing_3 mr_7_112 (by decide) (by decide) rfl (by simp [wds, Value.category]; decide) rfl (by decide) hk hw
theorem iX7_standing_6 {x : Int32} {Ls st : List Value} {h : AH} : ev L xs mdX7_standing 6 Ls (.int x :: st) h = if x = nI 0 then ev L xs mdX7_standing 9 Ls st h else ev L xs mdX7_standing 13 Ls st h := e_if_ne dX7_standing_6 (by decide)
theorem iX7_standing_9  {Ls st : List Value} {h : AH} : ev L xs mdX7_standing 9 (Ls) (st) h = ev L xs mdX7_standing 10 (Ls) (.int (nI 1) :: st) (h) := e_iconst dX7_standing_9 (by decide)
theorem iX7_standing_10  {Ls st : List Value} {h : AH} : ev L xs mdX7_standing 10 (Ls) (st) h = ev L xs mdX7_standing 26 (Ls) (st) (h) := e_goto dX7_standing_10 (by decide)
theorem iX7_standing_13 {v0 : Value} {v1 : Value} {x : Int32} {Ls st : List Value} {h : AH} : ev L xs mdX7_standing 13 (v0 :: v1 :: .int x :: Ls) (st) h = ev L xs mdX7_standing 14 (v0 :: v1 :: .int x :: Ls) (.int x :: st) (h) := e_iload_n dX7_standing_13 rfl
theorem iX7_standing_14 {v0 : Value} {v1 : Value} {v2 : Value} {x : Int32} {Ls st : List Value} {h : AH} : ev L xs mdX7_standing 14 (v0 :: v1 :: v2 :: .int x :: Ls) (st) h = ev L xs mdX7_standing 15 (v0 :: v1 :: v2 :: .int x :: Ls) (.int x :: st) (h) := e_iload_n dX7_standing_14 rfl
theorem iX7_standing_15 {p0 : Int32} {p1 : Int32} {Ls st : List Value} {h : AH} (hw : wds st ≤ 8) : ev L xs mdX7_standing 15 Ls (.int p1 :: .int p0 :: st) h = kn L xs mdX7_standing 15 18 Ls st (ev L xs mdX7_isTime 0 [.int p0, .int p1] [] h) := e_callS (as := [.int p1, .int p0]) dX7_standing_15 mr_7_150 (by decide) (by decide) rfl (by simp [wds, Value.category]; decide) rfl hw
theorem iX7_standing_18 {x : Int32} {Ls st : List Value} {h : AH} : ev L xs mdX7_standing 18 Ls (.int x :: st) h = if x = nI 0 then ev L xs mdX7_standing 21 Ls st h else ev L xs mdX7_standing 25 Ls st h := e_if_ne dX7_standing_18 (by decide)
theorem iX7_standing_21  {Ls st : List Value} {h : AH} : ev L xs mdX7_standing 21 (Ls) (st) h = ev L xs mdX7_standing 22 (Ls) (.int (nI 2) :: st) (h) := e_iconst dX7_standing_21 (by decide)
theorem iX7_standing_22  {Ls st : List Value} {h : AH} : ev L xs mdX7_standing 22 (Ls) (st) h = ev L xs mdX7_standing 26 (Ls) (st) (h) := e_goto dX7_standing_22 (by decide)
theorem iX7_standing_25  {Ls st : List Value} {h : AH} : ev L xs mdX7_standing 25 (Ls) (st) h = ev L xs mdX7_standing 26 (Ls) (.int (nI 0) :: st) (h) := e_iconst dX7_standing_25 (by decide)
theorem iX7_standing_26 {a : Nat} {v : Int32} {Ls st : List Value} {h : AH} (hk : hK h a = 7) : ev L xs mdX7_standing 26 (Ls) (.int v :: .ref a :: st) h = ev L xs mdX7_standing 29 (Ls) (st) (sI h 112 a v) := e_putI (k := 7) (f := 0) (F := 112) dX7_standing_26 (by decide +kernel) rfl (by decide +kernel) rfl hk
theorem iX7_standing_29 {x : Nat} {Ls st : List Value} {h : AH} : ev L xs mdX7_standing 29 (.ref x :: Ls) (st) h = ev L xs mdX7_standing 30 (.ref x :: Ls) (.ref x :: st) (h) := e_aload_n dX7_standing_29 rfl
theorem iX7_standing_30 {a : Nat} {Ls st : List Value} {h : AH} (hk : hK h a = 7) : ev L xs mdX7_standing 30 (Ls) (.ref a :: st) h = ev L xs mdX7_standing 33 (Ls) (.int (hI h 112 a) :: st) (h) := e_getI (k := 7) (f := 0) (F := 112) dX7_standing_30 (by decide +kernel) rfl rfl hk
theorem iX7_standing_33 {x : Int32} {Ls st : List Value} {h : AH} : ev L xs mdX7_standing 33 Ls (.int x :: st) h = if x ≤ nI 0 then ev L xs mdX7_standing 38 Ls st h else ev L xs mdX7_standing 36 Ls st h := e_if_le dX7_standing_33 (by decide)
theorem iX7_standing_36  {Ls st : List Value} {h : AH} : ev L xs mdX7_standing 36 (Ls) (st) h = ev L xs mdX7_standing 37 (Ls) (.int (nI 0) :: st) (h) := e_iconst dX7_standing_36 (by decide)
theorem iX7_standing_37 {v : Int32} {Ls : List Value} {h : AH} : ev L xs mdX7_standing 37 Ls [.int v] h = some (.inl (some (.int v), h)) := e_iret dX7_standing_37 rfl
theorem iX7_standing_38 {x : Nat} {Ls st : List Value} {h : AH} : ev L xs mdX7_standing 38 (.ref x :: Ls) (st) h = ev L xs mdX7_standing 39 (.ref x :: Ls) (.ref x :: st) (h) := e_aload_n dX7_standing_38 rfl
theorem iX7_standing_39 {x : Nat} {Ls st : List Value} {h : AH} : ev L xs mdX7_standing 39 (.ref x :: Ls) (st) h = ev L xs mdX7_standing 40 (.ref x :: Ls) (.ref x :: st) (h) := e_aload_n dX7_standing_39 rfl
theorem iX7_standing_40 {a : Nat} {Ls st : List Value} {h : AH} (hk : hK h a = 7) (hj : (hR h 113 a).isSome = true) : ev L xs mdX7_standing 40 (Ls) (.ref a :: st) h = ev L xs mdX7_standing 43 (Ls) (.ref ((hR h 113 a).getD 0) :: st) (h) := e_getR (k := 7) (f := 1) (F := 113) dX7_standing_40 (by decide +kernel) rfl rfl hk hj
theorem iX7_standing_43 {v0 : Value} {v1 : Value} {x : Int32} {Ls st : List Value} {h : AH} : ev L xs mdX7_standing 43 (v0 :: v1 :: .int x :: Ls) (st) h = ev L xs mdX7_standing 44 (v0 :: v1 :: .int x :: Ls) (.int x :: st) (h) := e_iload_n dX7_standing_43 rfl
theorem iX7_standing_44 {v0 : Value} {v1 : Value} {v2 : Value} {x : Int32} {Ls st : List Value} {h : AH} : ev L xs mdX7_standing 44 (v0 :: v1 :: v2 :: .int x :: Ls) (st) h = ev L xs mdX7_standing 45 (v0 :: v1 :: v2 :: .int x :: Ls) (.int x :: st) (h) := e_iload_n dX7_standing_44 rfl
theorem iX7_standing_45 {x : Nat} {Ls st : List Value} {h : AH} : ev L xs mdX7_standing 45 (.ref x :: Ls) (st) h = ev L xs mdX7_standing 46 (.ref x :: Ls) (.ref x :: st) (h) := e_aload_n dX7_standing_45 rfl
theorem iX7_standing_46 {a : Nat} {Ls st : List Value} {h : AH} (hk : hK h a = 7) (hj : (hR h 113 a).isSome = true) : ev L xs mdX7_standing 46 (Ls) (.ref a :: st) h = ev L xs mdX7_standing 49 (Ls) (.ref ((hR h 113 a).getD 0) :: st) (h) := e_getR (k := 7) (f := 1) (F := 113) dX7_standing_46 (by decide +kernel) rfl rfl hk hj
theorem iX7_standing_49 {p0 : Nat} {Ls st : List Value} {h : AH} (hw : wds st ≤ 8) : ev L xs mdX7_standing 49 Ls (.ref p0 :: st) h = kn L xs mdX7_standing 49 52 Ls st (ev L xs mdX7_numberOf 0 [.ref p0] [] h) := e_callS (as := [.ref p0]) dX7_standing_49 mr_7_88 (by decide) (by decide) rfl (by simp [wds, Value.category]; decide) rfl hw
theorem iX7_standing_52 {a : Nat} {p0 : Nat} {p1 : Int32} {p2 : Int32} {p3 : Int32} {Ls st : List Value} {h : AH} (hk : hK h a = 7) (hw : wds st ≤ 8) : ev L xs mdX7_standing 52 Ls (.int p3 :: .int p2 :: .int p1 :: .ref p0 :: .ref a :: st) h = kn L xs mdX7_standing 52 55 Ls st (ev L xs mdX7_look 0 [.ref a, .ref p0, .int p1, .int p2, .int p3, .null, .null, .null, .null, .null] [] h) := e_callV (as := [.int p3, .int p2, .int p1, .ref p0]) dX7_standing_52 mr_7_92 (by decide) (by decide) rfl (by simp [wds, Value.category]; decide) rfl (by decide) hk hw
theorem iX7_standing_55 {v0 : Value} {v1 : Value} {v2 : Value} {v3 : Value} {v4 : Value} {x : Int32} {Ls st : List Value} {h : AH} (hc9 : v3.category = 1) : ev L xs mdX7_standing 55 (v0 :: v1 :: v2 :: v3 :: v4 :: Ls) (.int x :: st) h = ev L xs mdX7_standing 57 (v0 :: v1 :: v2 :: v3 :: .int x :: Ls) (st) (h) := e_istore dX7_standing_55 rfl (by decide) (by unfold catOK; show (_ || (v3.category == 1)) = true; rw [hc9]; rfl)
theorem iX7_standing_57 {v0 : Value} {v1 : Value} {v2 : Value} {v3 : Value} {x : Int32} {Ls st : List Value} {h : AH} : ev L xs mdX7_standing 57 (v0 :: v1 :: v2 :: v3 :: .int x :: Ls) (st) h = ev L xs mdX7_standing 59 (v0 :: v1 :: v2 :: v3 :: .int x :: Ls) (.int x :: st) (h) := e_iload dX7_standing_57 rfl
theorem iX7_standing_59 {v0 : Value} {x : Int32} {Ls st : List Value} {h : AH} : ev L xs mdX7_standing 59 (v0 :: .int x :: Ls) (st) h = ev L xs mdX7_standing 60 (v0 :: .int x :: Ls) (.int x :: st) (h) := e_iload_n dX7_standing_59 rfl
theorem iX7_standing_60 {x z : Int32} {Ls st : List Value} {h : AH} : ev L xs mdX7_standing 60 (Ls) (.int z :: .int x :: st) h = ev L xs mdX7_standing 61 (Ls) (.int (x >>> (z &&& nI 31)) :: st) (h) := e_ishr dX7_standing_60
theorem iX7_standing_61  {Ls st : List Value} {h : AH} : ev L xs mdX7_standing 61 (Ls) (st) h = ev L xs mdX7_standing 62 (Ls) (.int (nI 1) :: st) (h) := e_iconst dX7_standing_61 (by decide)
theorem iX7_standing_62 {x z : Int32} {Ls st : List Value} {h : AH} : ev L xs mdX7_standing 62 (Ls) (.int z :: .int x :: st) h = ev L xs mdX7_standing 63 (Ls) (.int (x &&& z) :: st) (h) := e_iand dX7_standing_62
theorem iX7_standing_63  {Ls st : List Value} {h : AH} : ev L xs mdX7_standing 63 (Ls) (st) h = ev L xs mdX7_standing 64 (Ls) (.int (nI 1) :: st) (h) := e_iconst dX7_standing_63 (by decide)
theorem iX7_standing_64 {x z : Int32} {Ls st : List Value} {h : AH} : ev L xs mdX7_standing 64 Ls (.int z :: .int x :: st) h = if x = z then ev L xs mdX7_standing 67 Ls st h else ev L xs mdX7_standing 71 Ls st h := e_ic_ne dX7_standing_64 (by decide)
theorem iX7_standing_67  {Ls st : List Value} {h : AH} : ev L xs mdX7_standing 67 (Ls) (st) h = ev L xs mdX7_standing 68 (Ls) (.int (-1) :: st) (h) := e_iconst dX7_standing_67 (by decide)
theorem iX7_standing_68  {Ls st : List Value} {h : AH} : ev L xs mdX7_standing 68 (Ls) (st) h = ev L xs mdX7_standing 77 (Ls) (st) (h) := e_goto dX7_standing_68 (by decide)
theorem iX7_standing_71 {x : Nat} {Ls st : List Value} {h : AH} : ev L xs mdX7_standing 71 (.ref x :: Ls) (st) h = ev L xs mdX7_standing 72 (.ref x :: Ls) (.ref x :: st) (h) := e_aload_n dX7_standing_71 rfl
theorem iX7_standing_72 {a : Nat} {Ls st : List Value} {h : AH} (hk : hK h a = 7) (hj : (hR h 119 a).isSome = true) : ev L xs mdX7_standing 72 (Ls) (.ref a :: st) h = ev L xs mdX7_standing 75 (Ls) (.ref ((hR h 119 a).getD 0) :: st) (h) := e_getR (k := 7) (f := 7) (F := 119) dX7_standing_72 (by decide +kernel) rfl rfl hk hj
theorem iX7_standing_75 {v0 : Value} {x : Int32} {Ls st : List Value} {h : AH} : ev L xs mdX7_standing 75 (v0 :: .int x :: Ls) (st) h = ev L xs mdX7_standing 76 (v0 :: .int x :: Ls) (.int x :: st) (h) := e_iload_n dX7_standing_75 rfl
theorem iX7_standing_76 {a : Nat} {j : Int32} {Ls st : List Value} {h : AH} (hk : hK h a = 8) (hi : inA j (hN h a) = true) : ev L xs mdX7_standing 76 (Ls) (.int j :: .ref a :: st) h = ev L xs mdX7_standing 77 (Ls) (.int (hA h a j.toNatClampNeg) :: st) (h) := e_iald dX7_standing_76 hk hi
theorem iX7_standing_77 {v : Int32} {Ls : List Value} {h : AH} : ev L xs mdX7_standing 77 Ls [.int v] h = some (.inl (some (.int v), h)) := e_iret dX7_standing_77 rfl
theorem dX7_step_0 : decode cX7_step 0 = .ok (.aload_n 0, 1) := by decide +kernel
theorem dX7_step_1 : decode cX7_step 1 = .ok (.aload_n 0, 1) := by decide +kernel
theorem dX7_step_2 : decode cX7_step 2 = .ok (.getfield 7, 3) := by decide +kernel
theorem dX7_step_5 : decode cX7_step 5 = .ok (.iconst 0, 1) := by decide +kernel
theorem dX7_step_6 : decode cX7_step 6 = .ok (.iaload, 1) := by decide +kernel
theorem dX7_step_7 : decode cX7_step 7 = .ok (.sipush 3000, 3) := by decide +kernel
theorem dX7_step_10 : decode cX7_step 10 = .ok (.if_icmp .le 7, 3) := by decide +kernel
theorem dX7_step_13 : decode cX7_step 13 = .ok (.iconst 1, 1) := by decide +kernel
theorem dX7_step_14 : decode cX7_step 14 = .ok (.goto 4, 3) := by decide +kernel
theorem dX7_step_17 : decode cX7_step 17 = .ok (.iconst 0, 1) := by decide +kernel
theorem dX7_step_18 : decode cX7_step 18 = .ok (.putfield 34, 3) := by decide +kernel
theorem dX7_step_21 : decode cX7_step 21 = .ok (.aload_n 0, 1) := by decide +kernel
theorem dX7_step_22 : decode cX7_step 22 = .ok (.getfield 34, 3) := by decide +kernel
theorem dX7_step_25 : decode cX7_step 25 = .ok (.ifCond .le 5, 3) := by decide +kernel
theorem dX7_step_28 : decode cX7_step 28 = .ok (.iconst 0, 1) := by decide +kernel
theorem dX7_step_29 : decode cX7_step 29 = .ok (.ireturn, 1) := by decide +kernel
theorem dX7_step_30 : decode cX7_step 30 = .ok (.aload_n 0, 1) := by decide +kernel
theorem dX7_step_31 : decode cX7_step 31 = .ok (.invokevirtual 109, 3) := by decide +kernel
theorem dX7_step_34 : decode cX7_step 34 = .ok (.aload_n 0, 1) := by decide +kernel
theorem dX7_step_35 : decode cX7_step 35 = .ok (.aload_n 0, 1) := by decide +kernel
theorem dX7_step_36 : decode cX7_step 36 = .ok (.getfield 7, 3) := by decide +kernel
theorem dX7_step_39 : decode cX7_step 39 = .ok (.invokevirtual 106, 3) := by decide +kernel
theorem dX7_step_42 : decode cX7_step 42 = .ok (.ireturn, 1) := by decide +kernel
theorem iX7_step_0 {x : Nat} {Ls st : List Value} {h : AH} : ev L xs mdX7_step 0 (.ref x :: Ls) (st) h = ev L xs mdX7_step 1 (.ref x :: Ls) (.ref x :: st) (h) := e_aload_n dX7_step_0 rfl
theorem iX7_step_1 {x : Nat} {Ls st : List Value} {h : AH} : ev L xs mdX7_step 1 (.ref x :: Ls) (st) h = ev L xs mdX7_step 2 (.ref x :: Ls) (.ref x :: st) (h) := e_aload_n dX7_step_1 rfl
theorem iX7_step_2 {a : Nat} {Ls st : List Value} {h : AH} (hk : hK h a = 7) (hj : (hR h 113 a).isSome = true) : ev L xs mdX7_step 2 (Ls) (.ref a :: st) h = ev L xs mdX7_step 5 (Ls) (.ref ((hR h 113 a).getD 0) :: st) (h) := e_getR (k := 7) (f := 1) (F := 113) dX7_step_2 (by decide +kernel) rfl rfl hk hj
theorem iX7_step_5  {Ls st : List Value} {h : AH} : ev L xs mdX7_step 5 (Ls) (st) h = ev L xs mdX7_step 6 (Ls) (.int (nI 0) :: st) (h) := e_iconst dX7_step_5 (by decide)
theorem iX7_step_6 {a : Nat} {j : Int32} {Ls st : List Value} {h : AH} (hk : hK h a = 8) (hi : inA j (hN h a) = true) : ev L xs mdX7_step 6 (Ls) (.int j :: .ref a :: st) h = ev L xs mdX7_step 7 (Ls) (.int (hA h a j.toNatClampNeg) :: st) (h) := e_iald dX7_step_6 hk hi
theorem iX7_step_7  {Ls st : List Value} {h : AH} : ev L xs mdX7_step 7 (Ls) (st) h = ev L xs mdX7_step 10 (Ls) (.int (nI 3000) :: st) (h) := e_sipush dX7_step_7 (by decide)
theorem iX7_step_10 {x z : Int32} {Ls st : List Value} {h : AH} : ev L xs mdX7_step 10 Ls (.int z :: .int x :: st) h = if x ≤ z then ev L xs mdX7_step 17 Ls st h else ev L xs mdX7_step 13 Ls st h := e_ic_le dX7_step_10 (by decide)
theorem iX7_step_13  {Ls st : List Value} {h : AH} : ev L xs mdX7_step 13 (Ls) (st) h = ev L xs mdX7_step 14 (Ls) (.int (nI 1) :: st) (h) := e_iconst dX7_step_13 (by decide)
theorem iX7_step_14  {Ls st : List Value} {h : AH} : ev L xs mdX7_step 14 (Ls) (st) h = ev L xs mdX7_step 18 (Ls) (st) (h) := e_goto dX7_step_14 (by decide)
theorem iX7_step_17  {Ls st : List Value} {h : AH} : ev L xs mdX7_step 17 (Ls) (st) h = ev L xs mdX7_step 18 (Ls) (.int (nI 0) :: st) (h) := e_iconst dX7_step_17 (by decide)
theorem iX7_step_18 {a : Nat} {v : Int32} {Ls st : List Value} {h : AH} (hk : hK h a = 7) : ev L xs mdX7_step 18 (Ls) (.int v :: .ref a :: st) h = ev L xs mdX7_step 21 (Ls) (st) (sI h 112 a v) := e_putI (k := 7) (f := 0) (F := 112) dX7_step_18 (by decide +kernel) rfl (by decide +kernel) rfl hk
theorem iX7_step_21 {x : Nat} {Ls st : List Value} {h : AH} : ev L xs mdX7_step 21 (.ref x :: Ls) (st) h = ev L xs mdX7_step 22 (.ref x :: Ls) (.ref x :: st) (h) := e_aload_n dX7_step_21 rfl
theorem iX7_step_22 {a : Nat} {Ls st : List Value} {h : AH} (hk : hK h a = 7) : ev L xs mdX7_step 22 (Ls) (.ref a :: st) h = ev L xs mdX7_step 25 (Ls) (.int (hI h 112 a) :: st) (h) := e_getI (k := 7) (f := 0) (F := 112) dX7_step_22 (by decide +kernel) rfl rfl hk
theorem iX7_step_25 {x : Int32} {Ls st : List Value} {h : AH} : ev L xs mdX7_step 25 Ls (.int x :: st) h = if x ≤ nI 0 then ev L xs mdX7_step 30 Ls st h else ev L xs mdX7_step 28 Ls st h := e_if_le dX7_step_25 (by decide)
theorem iX7_step_28  {Ls st : List Value} {h : AH} : ev L xs mdX7_step 28 (Ls) (st) h = ev L xs mdX7_step 29 (Ls) (.int (nI 0) :: st) (h) := e_iconst dX7_step_28 (by decide)
theorem iX7_step_29 {v : Int32} {Ls : List Value} {h : AH} : ev L xs mdX7_step 29 Ls [.int v] h = some (.inl (some (.int v), h)) := e_iret dX7_step_29 rfl
theorem iX7_step_30 {x : Nat} {Ls st : List Value} {h : AH} : ev L xs mdX7_step 30 (.ref x :: Ls) (st) h = ev L xs mdX7_step 31 (.ref x :: Ls) (.ref x :: st) (h) := e_aload_n dX7_step_30 rfl
theorem iX7_step_31 {a : Nat} {Ls st : List Value} {h : AH} (hk : hK h a = 7) (hw : wds st ≤ 8) : ev L xs mdX7_step 31 Ls (.ref a :: st) h = kn L xs mdX7_step 31 34 Ls st (ev L xs mdX7_save 0 [.ref a, .null] [] h) := e_callV (as := []) dX7_step_31 mr_7_109 (by decide) (by decide) rfl (by simp [wds, Value.category]; decide) rfl (by decide) hk hw
theorem iX7_step_34 {x : Nat} {Ls st : List Value} {h : AH} : ev L xs mdX7_step 34 (.ref x :: Ls) (st) h = ev L xs mdX7_step 35 (.ref x :: Ls) (.ref x :: st) (h) := e_aload_n dX7_step_34 rfl
theorem iX7_step_35 {x : Nat} {Ls st : List Value} {h : AH} : ev L xs mdX7_step 35 (.ref x :: Ls) (st) h = ev L xs mdX7_step 36 (.ref x :: Ls) (.ref x :: st) (h) := e_aload_n dX7_step_35 rfl
theorem iX7_step_36 {a : Nat} {Ls st : List Value} {h : AH} (hk : hK h a = 7) (hj : (hR h 113 a).isSome = true) : ev L xs mdX7_step 36 (Ls) (.ref a :: st) h = ev L xs mdX7_step 39 (Ls) (.ref ((hR h 113 a).getD 0) :: st) (h) := e_getR (k := 7) (f := 1) (F := 113) dX7_step_36 (by decide +kernel) rfl rfl hk hj
theorem iX7_step_39 {a : Nat} {p0 : Nat} {Ls st : List Value} {h : AH} (hk : hK h a = 7) (hw : wds st ≤ 8) : ev L xs mdX7_step 39 Ls (.ref p0 :: .ref a :: st) h = kn L xs mdX7_step 39 42 Ls st (ev L xs mdX7_go 0 [.ref a, .ref p0, .null, .null, .null] [] h) := e_callV (as := [.ref p0]) dX7_step_39 mr_7_106 (by decide) (by decide) rfl (by simp [wds, Value.category]; decide) rfl (by decide) hk hw
theorem iX7_step_42 {v : Int32} {Ls : List Value} {h : AH} : ev L xs mdX7_step 42 Ls [.int v] h = some (.inl (some (.int v), h)) := e_iret dX7_step_42 rfl
theorem dX7_sumOf_0 : decode cX7_sumOf 0 = .ok (.iconst 0, 1) := by decide +kernel
theorem dX7_sumOf_1 : decode cX7_sumOf 1 = .ok (.istore_n 2, 1) := by decide +kernel
theorem dX7_sumOf_2 : decode cX7_sumOf 2 = .ok (.iconst 0, 1) := by decide +kernel
theorem dX7_sumOf_3 : decode cX7_sumOf 3 = .ok (.istore_n 3, 1) := by decide +kernel
theorem dX7_sumOf_4 : decode cX7_sumOf 4 = .ok (.iload_n 3, 1) := by decide +kernel
theorem dX7_sumOf_5 : decode cX7_sumOf 5 = .ok (.aload_n 0, 1) := by decide +kernel
theorem dX7_sumOf_6 : decode cX7_sumOf 6 = .ok (.getfield 7, 3) := by decide +kernel
theorem dX7_sumOf_9 : decode cX7_sumOf 9 = .ok (.iconst 4, 1) := by decide +kernel
theorem dX7_sumOf_10 : decode cX7_sumOf 10 = .ok (.iaload, 1) := by decide +kernel
theorem dX7_sumOf_11 : decode cX7_sumOf 11 = .ok (.if_icmp .ge 18, 3) := by decide +kernel
theorem dX7_sumOf_14 : decode cX7_sumOf 14 = .ok (.iload_n 2, 1) := by decide +kernel
theorem dX7_sumOf_15 : decode cX7_sumOf 15 = .ok (.aload_n 0, 1) := by decide +kernel
theorem dX7_sumOf_16 : decode cX7_sumOf 16 = .ok (.iload_n 3, 1) := by decide +kernel
theorem dX7_sumOf_17 : decode cX7_sumOf 17 = .ok (.iload_n 1, 1) := by decide +kernel
theorem dX7_sumOf_18 : decode cX7_sumOf 18 = .ok (.invokevirtual 141, 3) := by decide +kernel
theorem dX7_sumOf_21 : decode cX7_sumOf 21 = .ok (.iadd, 1) := by decide +kernel
theorem dX7_sumOf_22 : decode cX7_sumOf 22 = .ok (.istore_n 2, 1) := by decide +kernel
theorem dX7_sumOf_23 : decode cX7_sumOf 23 = .ok (.iinc 3 1, 3) := by decide +kernel
theorem dX7_sumOf_26 : decode cX7_sumOf 26 = .ok (.goto (-22), 3) := by decide +kernel
theorem dX7_sumOf_29 : decode cX7_sumOf 29 = .ok (.iload_n 2, 1) := by decide +kernel
theorem dX7_sumOf_30 : decode cX7_sumOf 30 = .ok (.ireturn, 1) := by decide +kernel
theorem iX7_sumOf_0  {Ls st : List Value} {h : AH} : ev L xs mdX7_sumOf 0 (Ls) (st) h = ev L xs mdX7_sumOf 1 (Ls) (.int (nI 0) :: st) (h) := e_iconst dX7_sumOf_0 (by decide)
theorem iX7_sumOf_1 {v0 : Value} {v1 : Value} {v2 : Value} {x : Int32} {Ls st : List Value} {h : AH} (hc9 : v1.category = 1) : ev L xs mdX7_sumOf 1 (v0 :: v1 :: v2 :: Ls) (.int x :: st) h = ev L xs mdX7_sumOf 2 (v0 :: v1 :: .int x :: Ls) (st) (h) := e_istore_n dX7_sumOf_1 rfl (by decide) (by unfold catOK; show (_ || (v1.category == 1)) = true; rw [hc9]; rfl)
theorem iX7_sumOf_2  {Ls st : List Value} {h : AH} : ev L xs mdX7_sumOf 2 (Ls) (st) h = ev L xs mdX7_sumOf 3 (Ls) (.int (nI 0) :: st) (h) := e_iconst dX7_sumOf_2 (by decide)
theorem iX7_sumOf_3 {v0 : Value} {v1 : Value} {v2 : Value} {v3 : Value} {x : Int32} {Ls st : List Value} {h : AH} (hc9 : v2.category = 1) : ev L xs mdX7_sumOf 3 (v0 :: v1 :: v2 :: v3 :: Ls) (.int x :: st) h = ev L xs mdX7_sumOf 4 (v0 :: v1 :: v2 :: .int x :: Ls) (st) (h) := e_istore_n dX7_sumOf_3 rfl (by decide) (by unfold catOK; show (_ || (v2.category == 1)) = true; rw [hc9]; rfl)
theorem iX7_sumOf_4 {v0 : Value} {v1 : Value} {v2 : Value} {x : Int32} {Ls st : List Value} {h : AH} : ev L xs mdX7_sumOf 4 (v0 :: v1 :: v2 :: .int x :: Ls) (st) h = ev L xs mdX7_sumOf 5 (v0 :: v1 :: v2 :: .int x :: Ls) (.int x :: st) (h) := e_iload_n dX7_sumOf_4 rfl
theorem iX7_sumOf_5 {x : Nat} {Ls st : List Value} {h : AH} : ev L xs mdX7_sumOf 5 (.ref x :: Ls) (st) h = ev L xs mdX7_sumOf 6 (.ref x :: Ls) (.ref x :: st) (h) := e_aload_n dX7_sumOf_5 rfl
theorem iX7_sumOf_6 {a : Nat} {Ls st : List Value} {h : AH} (hk : hK h a = 7) (hj : (hR h 113 a).isSome = true) : ev L xs mdX7_sumOf 6 (Ls) (.ref a :: st) h = ev L xs mdX7_sumOf 9 (Ls) (.ref ((hR h 113 a).getD 0) :: st) (h) := e_getR (k := 7) (f := 1) (F := 113) dX7_sumOf_6 (by decide +kernel) rfl rfl hk hj
theorem iX7_sumOf_9  {Ls st : List Value} {h : AH} : ev L xs mdX7_sumOf 9 (Ls) (st) h = ev L xs mdX7_sumOf 10 (Ls) (.int (nI 4) :: st) (h) := e_iconst dX7_sumOf_9 (by decide)
theorem iX7_sumOf_10 {a : Nat} {j : Int32} {Ls st : List Value} {h : AH} (hk : hK h a = 8) (hi : inA j (hN h a) = true) : ev L xs mdX7_sumOf 10 (Ls) (.int j :: .ref a :: st) h = ev L xs mdX7_sumOf 11 (Ls) (.int (hA h a j.toNatClampNeg) :: st) (h) := e_iald dX7_sumOf_10 hk hi
theorem iX7_sumOf_11 {x z : Int32} {Ls st : List Value} {h : AH} : ev L xs mdX7_sumOf 11 Ls (.int z :: .int x :: st) h = if z ≤ x then ev L xs mdX7_sumOf 29 Ls st h else ev L xs mdX7_sumOf 14 Ls st h := e_ic_ge dX7_sumOf_11 (by decide)
theorem iX7_sumOf_14 {v0 : Value} {v1 : Value} {x : Int32} {Ls st : List Value} {h : AH} : ev L xs mdX7_sumOf 14 (v0 :: v1 :: .int x :: Ls) (st) h = ev L xs mdX7_sumOf 15 (v0 :: v1 :: .int x :: Ls) (.int x :: st) (h) := e_iload_n dX7_sumOf_14 rfl
theorem iX7_sumOf_15 {x : Nat} {Ls st : List Value} {h : AH} : ev L xs mdX7_sumOf 15 (.ref x :: Ls) (st) h = ev L xs mdX7_sumOf 16 (.ref x :: Ls) (.ref x :: st) (h) := e_aload_n dX7_sumOf_15 rfl
theorem iX7_sumOf_16 {v0 : Value} {v1 : Value} {v2 : Value} {x : Int32} {Ls st : List Value} {h : AH} : ev L xs mdX7_sumOf 16 (v0 :: v1 :: v2 :: .int x :: Ls) (st) h = ev L xs mdX7_sumOf 17 (v0 :: v1 :: v2 :: .int x :: Ls) (.int x :: st) (h) := e_iload_n dX7_sumOf_16 rfl
theorem iX7_sumOf_17 {v0 : Value} {x : Int32} {Ls st : List Value} {h : AH} : ev L xs mdX7_sumOf 17 (v0 :: .int x :: Ls) (st) h = ev L xs mdX7_sumOf 18 (v0 :: .int x :: Ls) (.int x :: st) (h) := e_iload_n dX7_sumOf_17 rfl
theorem iX7_sumOf_18 {a : Nat} {p0 : Int32} {p1 : Int32} {Ls st : List Value} {h : AH} (hk : hK h a = 7) (hw : wds st ≤ 8) : ev L xs mdX7_sumOf 18 Ls (.int p1 :: .int p0 :: .ref a :: st) h = kn L xs mdX7_sumOf 18 21 Ls st (ev L xs mdX7_guardValue 0 [.ref a, .int p0, .int p1] [] h) := e_callV (as := [.int p1, .int p0]) dX7_sumOf_18 mr_7_141 (by decide) (by decide) rfl (by simp [wds, Value.category]; decide) rfl (by decide) hk hw
theorem iX7_sumOf_21 {x z : Int32} {Ls st : List Value} {h : AH} : ev L xs mdX7_sumOf 21 (Ls) (.int z :: .int x :: st) h = ev L xs mdX7_sumOf 22 (Ls) (.int (x + z) :: st) (h) := e_iadd dX7_sumOf_21
theorem iX7_sumOf_22 {v0 : Value} {v1 : Value} {v2 : Value} {x : Int32} {Ls st : List Value} {h : AH} (hc9 : v1.category = 1) : ev L xs mdX7_sumOf 22 (v0 :: v1 :: v2 :: Ls) (.int x :: st) h = ev L xs mdX7_sumOf 23 (v0 :: v1 :: .int x :: Ls) (st) (h) := e_istore_n dX7_sumOf_22 rfl (by decide) (by unfold catOK; show (_ || (v1.category == 1)) = true; rw [hc9]; rfl)
theorem iX7_sumOf_23 {v0 : Value} {v1 : Value} {v2 : Value} {x : Int32} {Ls st : List Value} {h : AH} (hc9 : v2.category = 1) : ev L xs mdX7_sumOf 23 (v0 :: v1 :: v2 :: .int x :: Ls) (st) h = ev L xs mdX7_sumOf 26 (v0 :: v1 :: v2 :: .int (x + (nI 1)) :: Ls) (st) (h) := e_iinc dX7_sumOf_23 rfl rfl rfl (by decide) (by unfold catOK; show (_ || (v2.category == 1)) = true; rw [hc9]; rfl)
theorem iX7_sumOf_26  {Ls st : List Value} {h : AH} : ev L xs mdX7_sumOf 26 (Ls) (st) h = ev L xs mdX7_sumOf 4 (Ls) (st) (h) := e_goto dX7_sumOf_26 (by decide)
theorem iX7_sumOf_29 {v0 : Value} {v1 : Value} {x : Int32} {Ls st : List Value} {h : AH} : ev L xs mdX7_sumOf 29 (v0 :: v1 :: .int x :: Ls) (st) h = ev L xs mdX7_sumOf 30 (v0 :: v1 :: .int x :: Ls) (.int x :: st) (h) := e_iload_n dX7_sumOf_29 rfl
theorem iX7_sumOf_30 {v : Int32} {Ls : List Value} {h : AH} : ev L xs mdX7_sumOf 30 Ls [.int v] h = some (.inl (some (.int v), h)) := e_iret dX7_sumOf_30 rfl
theorem dX7_thrown_0 : decode cX7_thrown 0 = .ok (.aload_n 0, 1) := by decide +kernel
theorem dX7_thrown_1 : decode cX7_thrown 1 = .ok (.getfield 34, 3) := by decide +kernel
theorem dX7_thrown_4 : decode cX7_thrown 4 = .ok (.ireturn, 1) := by decide +kernel
theorem iX7_thrown_0 {x : Nat} {Ls st : List Value} {h : AH} : ev L xs mdX7_thrown 0 (.ref x :: Ls) (st) h = ev L xs mdX7_thrown 1 (.ref x :: Ls) (.ref x :: st) (h) := e_aload_n dX7_thrown_0 rfl
theorem iX7_thrown_1 {a : Nat} {Ls st : List Value} {h : AH} (hk : hK h a = 7) : ev L xs mdX7_thrown 1 (Ls) (.ref a :: st) h = ev L xs mdX7_thrown 4 (Ls) (.int (hI h 112 a) :: st) (h) := e_getI (k := 7) (f := 0) (F := 112) dX7_thrown_1 (by decide +kernel) rfl rfl hk
theorem iX7_thrown_4 {v : Int32} {Ls : List Value} {h : AH} : ev L xs mdX7_thrown 4 Ls [.int v] h = some (.inl (some (.int v), h)) := e_iret dX7_thrown_4 rfl
theorem dX7_tryNow_0 : decode cX7_tryNow 0 = .ok (.iconst 0, 1) := by decide +kernel
theorem dX7_tryNow_1 : decode cX7_tryNow 1 = .ok (.istore_n 1, 1) := by decide +kernel
theorem dX7_tryNow_2 : decode cX7_tryNow 2 = .ok (.iload_n 1, 1) := by decide +kernel
theorem dX7_tryNow_3 : decode cX7_tryNow 3 = .ok (.sipush 183, 3) := by decide +kernel
theorem dX7_tryNow_6 : decode cX7_tryNow 6 = .ok (.if_icmp .ge 21, 3) := by decide +kernel
theorem dX7_tryNow_9 : decode cX7_tryNow 9 = .ok (.aload_n 0, 1) := by decide +kernel
theorem dX7_tryNow_10 : decode cX7_tryNow 10 = .ok (.getfield 13, 3) := by decide +kernel
theorem dX7_tryNow_13 : decode cX7_tryNow 13 = .ok (.iload_n 1, 1) := by decide +kernel
theorem dX7_tryNow_14 : decode cX7_tryNow 14 = .ok (.aload_n 0, 1) := by decide +kernel
theorem dX7_tryNow_15 : decode cX7_tryNow 15 = .ok (.getfield 7, 3) := by decide +kernel
theorem dX7_tryNow_18 : decode cX7_tryNow 18 = .ok (.iload_n 1, 1) := by decide +kernel
theorem dX7_tryNow_19 : decode cX7_tryNow 19 = .ok (.iaload, 1) := by decide +kernel
theorem dX7_tryNow_20 : decode cX7_tryNow 20 = .ok (.iastore, 1) := by decide +kernel
theorem dX7_tryNow_21 : decode cX7_tryNow 21 = .ok (.iinc 1 1, 3) := by decide +kernel
theorem dX7_tryNow_24 : decode cX7_tryNow 24 = .ok (.goto (-22), 3) := by decide +kernel
theorem dX7_tryNow_27 : decode cX7_tryNow 27 = .ok (.return_, 1) := by decide +kernel
theorem iX7_tryNow_0  {Ls st : List Value} {h : AH} : ev L xs mdX7_tryNow 0 (Ls) (st) h = ev L xs mdX7_tryNow 1 (Ls) (.int (nI 0) :: st) (h) := e_iconst dX7_tryNow_0 (by decide)
theorem iX7_tryNow_1 {v0 : Value} {v1 : Value} {x : Int32} {Ls st : List Value} {h : AH} (hc9 : v0.category = 1) : ev L xs mdX7_tryNow 1 (v0 :: v1 :: Ls) (.int x :: st) h = ev L xs mdX7_tryNow 2 (v0 :: .int x :: Ls) (st) (h) := e_istore_n dX7_tryNow_1 rfl (by decide) (by unfold catOK; show (_ || (v0.category == 1)) = true; rw [hc9]; rfl)
theorem iX7_tryNow_2 {v0 : Value} {x : Int32} {Ls st : List Value} {h : AH} : ev L xs mdX7_tryNow 2 (v0 :: .int x :: Ls) (st) h = ev L xs mdX7_tryNow 3 (v0 :: .int x :: Ls) (.int x :: st) (h) := e_iload_n dX7_tryNow_2 rfl
theorem iX7_tryNow_3  {Ls st : List Value} {h : AH} : ev L xs mdX7_tryNow 3 (Ls) (st) h = ev L xs mdX7_tryNow 6 (Ls) (.int (nI 183) :: st) (h) := e_sipush dX7_tryNow_3 (by decide)
theorem iX7_tryNow_6 {x z : Int32} {Ls st : List Value} {h : AH} : ev L xs mdX7_tryNow 6 Ls (.int z :: .int x :: st) h = if z ≤ x then ev L xs mdX7_tryNow 27 Ls st h else ev L xs mdX7_tryNow 9 Ls st h := e_ic_ge dX7_tryNow_6 (by decide)
theorem iX7_tryNow_9 {x : Nat} {Ls st : List Value} {h : AH} : ev L xs mdX7_tryNow 9 (.ref x :: Ls) (st) h = ev L xs mdX7_tryNow 10 (.ref x :: Ls) (.ref x :: st) (h) := e_aload_n dX7_tryNow_9 rfl
theorem iX7_tryNow_10 {a : Nat} {Ls st : List Value} {h : AH} (hk : hK h a = 7) (hj : (hR h 114 a).isSome = true) : ev L xs mdX7_tryNow 10 (Ls) (.ref a :: st) h = ev L xs mdX7_tryNow 13 (Ls) (.ref ((hR h 114 a).getD 0) :: st) (h) := e_getR (k := 7) (f := 2) (F := 114) dX7_tryNow_10 (by decide +kernel) rfl rfl hk hj
theorem iX7_tryNow_13 {v0 : Value} {x : Int32} {Ls st : List Value} {h : AH} : ev L xs mdX7_tryNow 13 (v0 :: .int x :: Ls) (st) h = ev L xs mdX7_tryNow 14 (v0 :: .int x :: Ls) (.int x :: st) (h) := e_iload_n dX7_tryNow_13 rfl
theorem iX7_tryNow_14 {x : Nat} {Ls st : List Value} {h : AH} : ev L xs mdX7_tryNow 14 (.ref x :: Ls) (st) h = ev L xs mdX7_tryNow 15 (.ref x :: Ls) (.ref x :: st) (h) := e_aload_n dX7_tryNow_14 rfl
theorem iX7_tryNow_15 {a : Nat} {Ls st : List Value} {h : AH} (hk : hK h a = 7) (hj : (hR h 113 a).isSome = true) : ev L xs mdX7_tryNow 15 (Ls) (.ref a :: st) h = ev L xs mdX7_tryNow 18 (Ls) (.ref ((hR h 113 a).getD 0) :: st) (h) := e_getR (k := 7) (f := 1) (F := 113) dX7_tryNow_15 (by decide +kernel) rfl rfl hk hj
theorem iX7_tryNow_18 {v0 : Value} {x : Int32} {Ls st : List Value} {h : AH} : ev L xs mdX7_tryNow 18 (v0 :: .int x :: Ls) (st) h = ev L xs mdX7_tryNow 19 (v0 :: .int x :: Ls) (.int x :: st) (h) := e_iload_n dX7_tryNow_18 rfl
theorem iX7_tryNow_19 {a : Nat} {j : Int32} {Ls st : List Value} {h : AH} (hk : hK h a = 8) (hi : inA j (hN h a) = true) : ev L xs mdX7_tryNow 19 (Ls) (.int j :: .ref a :: st) h = ev L xs mdX7_tryNow 20 (Ls) (.int (hA h a j.toNatClampNeg) :: st) (h) := e_iald dX7_tryNow_19 hk hi
theorem iX7_tryNow_20 {a : Nat} {j : Int32} {v : Int32} {Ls st : List Value} {h : AH} (hk : hK h a = 8) (hi : inA j (hN h a) = true) : ev L xs mdX7_tryNow 20 (Ls) (.int v :: .int j :: .ref a :: st) h = ev L xs mdX7_tryNow 21 (Ls) (st) (sA h a j.toNatClampNeg v) := e_iast dX7_tryNow_20 hk hi
theorem iX7_tryNow_21 {v0 : Value} {x : Int32} {Ls st : List Value} {h : AH} (hc9 : v0.category = 1) : ev L xs mdX7_tryNow 21 (v0 :: .int x :: Ls) (st) h = ev L xs mdX7_tryNow 24 (v0 :: .int (x + (nI 1)) :: Ls) (st) (h) := e_iinc dX7_tryNow_21 rfl rfl rfl (by decide) (by unfold catOK; show (_ || (v0.category == 1)) = true; rw [hc9]; rfl)
theorem iX7_tryNow_24  {Ls st : List Value} {h : AH} : ev L xs mdX7_tryNow 24 (Ls) (st) h = ev L xs mdX7_tryNow 2 (Ls) (st) (h) := e_goto dX7_tryNow_24 (by decide)
theorem iX7_tryNow_27 {Ls : List Value} {h : AH} : ev L xs mdX7_tryNow 27 Ls [] h = some (.inl (none, h)) := e_vret dX7_tryNow_27 rfl
theorem dX7_undo_0 : decode cX7_undo 0 = .ok (.aload_n 0, 1) := by decide +kernel
theorem dX7_undo_1 : decode cX7_undo 1 = .ok (.aload_n 0, 1) := by decide +kernel
theorem dX7_undo_2 : decode cX7_undo 2 = .ok (.getfield 41, 3) := by decide +kernel
theorem dX7_undo_5 : decode cX7_undo 5 = .ok (.ifCond .ne 7, 3) := by decide +kernel
theorem dX7_undo_8 : decode cX7_undo 8 = .ok (.iconst 1, 1) := by decide +kernel
theorem dX7_undo_9 : decode cX7_undo 9 = .ok (.goto 4, 3) := by decide +kernel
theorem dX7_undo_12 : decode cX7_undo 12 = .ok (.iconst 0, 1) := by decide +kernel
theorem dX7_undo_13 : decode cX7_undo 13 = .ok (.putfield 34, 3) := by decide +kernel
theorem dX7_undo_16 : decode cX7_undo 16 = .ok (.aload_n 0, 1) := by decide +kernel
theorem dX7_undo_17 : decode cX7_undo 17 = .ok (.getfield 34, 3) := by decide +kernel
theorem dX7_undo_20 : decode cX7_undo 20 = .ok (.ifCond .le 5, 3) := by decide +kernel
theorem dX7_undo_23 : decode cX7_undo 23 = .ok (.iconst 0, 1) := by decide +kernel
theorem dX7_undo_24 : decode cX7_undo 24 = .ok (.ireturn, 1) := by decide +kernel
theorem dX7_undo_25 : decode cX7_undo 25 = .ok (.aload_n 0, 1) := by decide +kernel
theorem dX7_undo_26 : decode cX7_undo 26 = .ok (.dup, 1) := by decide +kernel
theorem dX7_undo_27 : decode cX7_undo 27 = .ok (.getfield 41, 3) := by decide +kernel
theorem dX7_undo_30 : decode cX7_undo 30 = .ok (.iconst 1, 1) := by decide +kernel
theorem dX7_undo_31 : decode cX7_undo 31 = .ok (.isub, 1) := by decide +kernel
theorem dX7_undo_32 : decode cX7_undo 32 = .ok (.putfield 41, 3) := by decide +kernel
theorem dX7_undo_35 : decode cX7_undo 35 = .ok (.iconst 0, 1) := by decide +kernel
theorem dX7_undo_36 : decode cX7_undo 36 = .ok (.istore_n 1, 1) := by decide +kernel
theorem dX7_undo_37 : decode cX7_undo 37 = .ok (.iload_n 1, 1) := by decide +kernel
theorem dX7_undo_38 : decode cX7_undo 38 = .ok (.sipush 183, 3) := by decide +kernel
theorem dX7_undo_41 : decode cX7_undo 41 = .ok (.if_icmp .ge 30, 3) := by decide +kernel
theorem dX7_undo_44 : decode cX7_undo 44 = .ok (.aload_n 0, 1) := by decide +kernel
theorem dX7_undo_45 : decode cX7_undo 45 = .ok (.getfield 7, 3) := by decide +kernel
theorem dX7_undo_48 : decode cX7_undo 48 = .ok (.iload_n 1, 1) := by decide +kernel
theorem dX7_undo_49 : decode cX7_undo 49 = .ok (.aload_n 0, 1) := by decide +kernel
theorem dX7_undo_50 : decode cX7_undo 50 = .ok (.getfield 16, 3) := by decide +kernel
theorem dX7_undo_53 : decode cX7_undo 53 = .ok (.sipush 183, 3) := by decide +kernel
theorem dX7_undo_56 : decode cX7_undo 56 = .ok (.aload_n 0, 1) := by decide +kernel
theorem dX7_undo_57 : decode cX7_undo 57 = .ok (.getfield 41, 3) := by decide +kernel
theorem dX7_undo_60 : decode cX7_undo 60 = .ok (.imul, 1) := by decide +kernel
theorem dX7_undo_61 : decode cX7_undo 61 = .ok (.iload_n 1, 1) := by decide +kernel
theorem dX7_undo_62 : decode cX7_undo 62 = .ok (.iadd, 1) := by decide +kernel
theorem dX7_undo_63 : decode cX7_undo 63 = .ok (.iaload, 1) := by decide +kernel
theorem dX7_undo_64 : decode cX7_undo 64 = .ok (.iastore, 1) := by decide +kernel
theorem dX7_undo_65 : decode cX7_undo 65 = .ok (.iinc 1 1, 3) := by decide +kernel
theorem dX7_undo_68 : decode cX7_undo 68 = .ok (.goto (-31), 3) := by decide +kernel
theorem dX7_undo_71 : decode cX7_undo 71 = .ok (.aload_n 0, 1) := by decide +kernel
theorem dX7_undo_72 : decode cX7_undo 72 = .ok (.getfield 41, 3) := by decide +kernel
theorem dX7_undo_75 : decode cX7_undo 75 = .ok (.ireturn, 1) := by decide +kernel
theorem iX7_undo_0 {x : Nat} {Ls st : List Value} {h : AH} : ev L xs mdX7_undo 0 (.ref x :: Ls) (st) h = ev L xs mdX7_undo 1 (.ref x :: Ls) (.ref x :: st) (h) := e_aload_n dX7_undo_0 rfl
theorem iX7_undo_1 {x : Nat} {Ls st : List Value} {h : AH} : ev L xs mdX7_undo 1 (.ref x :: Ls) (st) h = ev L xs mdX7_undo 2 (.ref x :: Ls) (.ref x :: st) (h) := e_aload_n dX7_undo_1 rfl
theorem iX7_undo_2 {a : Nat} {Ls st : List Value} {h : AH} (hk : hK h a = 7) : ev L xs mdX7_undo 2 (Ls) (.ref a :: st) h = ev L xs mdX7_undo 5 (Ls) (.int (hI h 116 a) :: st) (h) := e_getI (k := 7) (f := 4) (F := 116) dX7_undo_2 (by decide +kernel) rfl rfl hk
theorem iX7_undo_5 {x : Int32} {Ls st : List Value} {h : AH} : ev L xs mdX7_undo 5 Ls (.int x :: st) h = if x = nI 0 then ev L xs mdX7_undo 8 Ls st h else ev L xs mdX7_undo 12 Ls st h := e_if_ne dX7_undo_5 (by decide)
theorem iX7_undo_8  {Ls st : List Value} {h : AH} : ev L xs mdX7_undo 8 (Ls) (st) h = ev L xs mdX7_undo 9 (Ls) (.int (nI 1) :: st) (h) := e_iconst dX7_undo_8 (by decide)
theorem iX7_undo_9  {Ls st : List Value} {h : AH} : ev L xs mdX7_undo 9 (Ls) (st) h = ev L xs mdX7_undo 13 (Ls) (st) (h) := e_goto dX7_undo_9 (by decide)
theorem iX7_undo_12  {Ls st : List Value} {h : AH} : ev L xs mdX7_undo 12 (Ls) (st) h = ev L xs mdX7_undo 13 (Ls) (.int (nI 0) :: st) (h) := e_iconst dX7_undo_12 (by decide)
theorem iX7_undo_13 {a : Nat} {v : Int32} {Ls st : List Value} {h : AH} (hk : hK h a = 7) : ev L xs mdX7_undo 13 (Ls) (.int v :: .ref a :: st) h = ev L xs mdX7_undo 16 (Ls) (st) (sI h 112 a v) := e_putI (k := 7) (f := 0) (F := 112) dX7_undo_13 (by decide +kernel) rfl (by decide +kernel) rfl hk
theorem iX7_undo_16 {x : Nat} {Ls st : List Value} {h : AH} : ev L xs mdX7_undo 16 (.ref x :: Ls) (st) h = ev L xs mdX7_undo 17 (.ref x :: Ls) (.ref x :: st) (h) := e_aload_n dX7_undo_16 rfl
theorem iX7_undo_17 {a : Nat} {Ls st : List Value} {h : AH} (hk : hK h a = 7) : ev L xs mdX7_undo 17 (Ls) (.ref a :: st) h = ev L xs mdX7_undo 20 (Ls) (.int (hI h 112 a) :: st) (h) := e_getI (k := 7) (f := 0) (F := 112) dX7_undo_17 (by decide +kernel) rfl rfl hk
theorem iX7_undo_20 {x : Int32} {Ls st : List Value} {h : AH} : ev L xs mdX7_undo 20 Ls (.int x :: st) h = if x ≤ nI 0 then ev L xs mdX7_undo 25 Ls st h else ev L xs mdX7_undo 23 Ls st h := e_if_le dX7_undo_20 (by decide)
theorem iX7_undo_23  {Ls st : List Value} {h : AH} : ev L xs mdX7_undo 23 (Ls) (st) h = ev L xs mdX7_undo 24 (Ls) (.int (nI 0) :: st) (h) := e_iconst dX7_undo_23 (by decide)
theorem iX7_undo_24 {v : Int32} {Ls : List Value} {h : AH} : ev L xs mdX7_undo 24 Ls [.int v] h = some (.inl (some (.int v), h)) := e_iret dX7_undo_24 rfl
theorem iX7_undo_25 {x : Nat} {Ls st : List Value} {h : AH} : ev L xs mdX7_undo 25 (.ref x :: Ls) (st) h = ev L xs mdX7_undo 26 (.ref x :: Ls) (.ref x :: st) (h) := e_aload_n dX7_undo_25 rfl
theorem iX7_undo_26 {a : Nat} {Ls st : List Value} {h : AH} : ev L xs mdX7_undo 26 (Ls) (.ref a :: st) h = ev L xs mdX7_undo 27 (Ls) (.ref a :: .ref a :: st) (h) := e_dup dX7_undo_26 rfl
theorem iX7_undo_26i {a : Int32} {Ls st : List Value} {h : AH} : ev L xs mdX7_undo 26 (Ls) (.int a :: st) h = ev L xs mdX7_undo 27 (Ls) (.int a :: .int a :: st) (h) := e_dup dX7_undo_26 rfl
theorem iX7_undo_27 {a : Nat} {Ls st : List Value} {h : AH} (hk : hK h a = 7) : ev L xs mdX7_undo 27 (Ls) (.ref a :: st) h = ev L xs mdX7_undo 30 (Ls) (.int (hI h 116 a) :: st) (h) := e_getI (k := 7) (f := 4) (F := 116) dX7_undo_27 (by decide +kernel) rfl rfl hk
theorem iX7_undo_30  {Ls st : List Value} {h : AH} : ev L xs mdX7_undo 30 (Ls) (st) h = ev L xs mdX7_undo 31 (Ls) (.int (nI 1) :: st) (h) := e_iconst dX7_undo_30 (by decide)
theorem iX7_undo_31 {x z : Int32} {Ls st : List Value} {h : AH} : ev L xs mdX7_undo 31 (Ls) (.int z :: .int x :: st) h = ev L xs mdX7_undo 32 (Ls) (.int (x - z) :: st) (h) := e_isub dX7_undo_31
theorem iX7_undo_32 {a : Nat} {v : Int32} {Ls st : List Value} {h : AH} (hk : hK h a = 7) : ev L xs mdX7_undo 32 (Ls) (.int v :: .ref a :: st) h = ev L xs mdX7_undo 35 (Ls) (st) (sI h 116 a v) := e_putI (k := 7) (f := 4) (F := 116) dX7_undo_32 (by decide +kernel) rfl (by decide +kernel) rfl hk
theorem iX7_undo_35  {Ls st : List Value} {h : AH} : ev L xs mdX7_undo 35 (Ls) (st) h = ev L xs mdX7_undo 36 (Ls) (.int (nI 0) :: st) (h) := e_iconst dX7_undo_35 (by decide)
theorem iX7_undo_36 {v0 : Value} {v1 : Value} {x : Int32} {Ls st : List Value} {h : AH} (hc9 : v0.category = 1) : ev L xs mdX7_undo 36 (v0 :: v1 :: Ls) (.int x :: st) h = ev L xs mdX7_undo 37 (v0 :: .int x :: Ls) (st) (h) := e_istore_n dX7_undo_36 rfl (by decide) (by unfold catOK; show (_ || (v0.category == 1)) = true; rw [hc9]; rfl)
theorem iX7_undo_37 {v0 : Value} {x : Int32} {Ls st : List Value} {h : AH} : ev L xs mdX7_undo 37 (v0 :: .int x :: Ls) (st) h = ev L xs mdX7_undo 38 (v0 :: .int x :: Ls) (.int x :: st) (h) := e_iload_n dX7_undo_37 rfl
theorem iX7_undo_38  {Ls st : List Value} {h : AH} : ev L xs mdX7_undo 38 (Ls) (st) h = ev L xs mdX7_undo 41 (Ls) (.int (nI 183) :: st) (h) := e_sipush dX7_undo_38 (by decide)
theorem iX7_undo_41 {x z : Int32} {Ls st : List Value} {h : AH} : ev L xs mdX7_undo 41 Ls (.int z :: .int x :: st) h = if z ≤ x then ev L xs mdX7_undo 71 Ls st h else ev L xs mdX7_undo 44 Ls st h := e_ic_ge dX7_undo_41 (by decide)
theorem iX7_undo_44 {x : Nat} {Ls st : List Value} {h : AH} : ev L xs mdX7_undo 44 (.ref x :: Ls) (st) h = ev L xs mdX7_undo 45 (.ref x :: Ls) (.ref x :: st) (h) := e_aload_n dX7_undo_44 rfl
theorem iX7_undo_45 {a : Nat} {Ls st : List Value} {h : AH} (hk : hK h a = 7) (hj : (hR h 113 a).isSome = true) : ev L xs mdX7_undo 45 (Ls) (.ref a :: st) h = ev L xs mdX7_undo 48 (Ls) (.ref ((hR h 113 a).getD 0) :: st) (h) := e_getR (k := 7) (f := 1) (F := 113) dX7_undo_45 (by decide +kernel) rfl rfl hk hj
theorem iX7_undo_48 {v0 : Value} {x : Int32} {Ls st : List Value} {h : AH} : ev L xs mdX7_undo 48 (v0 :: .int x :: Ls) (st) h = ev L xs mdX7_undo 49 (v0 :: .int x :: Ls) (.int x :: st) (h) := e_iload_n dX7_undo_48 rfl
theorem iX7_undo_49 {x : Nat} {Ls st : List Value} {h : AH} : ev L xs mdX7_undo 49 (.ref x :: Ls) (st) h = ev L xs mdX7_undo 50 (.ref x :: Ls) (.ref x :: st) (h) := e_aload_n dX7_undo_49 rfl
theorem iX7_undo_50 {a : Nat} {Ls st : List Value} {h : AH} (hk : hK h a = 7) (hj : (hR h 115 a).isSome = true) : ev L xs mdX7_undo 50 (Ls) (.ref a :: st) h = ev L xs mdX7_undo 53 (Ls) (.ref ((hR h 115 a).getD 0) :: st) (h) := e_getR (k := 7) (f := 3) (F := 115) dX7_undo_50 (by decide +kernel) rfl rfl hk hj
theorem iX7_undo_53  {Ls st : List Value} {h : AH} : ev L xs mdX7_undo 53 (Ls) (st) h = ev L xs mdX7_undo 56 (Ls) (.int (nI 183) :: st) (h) := e_sipush dX7_undo_53 (by decide)
theorem iX7_undo_56 {x : Nat} {Ls st : List Value} {h : AH} : ev L xs mdX7_undo 56 (.ref x :: Ls) (st) h = ev L xs mdX7_undo 57 (.ref x :: Ls) (.ref x :: st) (h) := e_aload_n dX7_undo_56 rfl
theorem iX7_undo_57 {a : Nat} {Ls st : List Value} {h : AH} (hk : hK h a = 7) : ev L xs mdX7_undo 57 (Ls) (.ref a :: st) h = ev L xs mdX7_undo 60 (Ls) (.int (hI h 116 a) :: st) (h) := e_getI (k := 7) (f := 4) (F := 116) dX7_undo_57 (by decide +kernel) rfl rfl hk
theorem iX7_undo_60 {x z : Int32} {Ls st : List Value} {h : AH} : ev L xs mdX7_undo 60 (Ls) (.int z :: .int x :: st) h = ev L xs mdX7_undo 61 (Ls) (.int (x * z) :: st) (h) := e_imul dX7_undo_60
theorem iX7_undo_61 {v0 : Value} {x : Int32} {Ls st : List Value} {h : AH} : ev L xs mdX7_undo 61 (v0 :: .int x :: Ls) (st) h = ev L xs mdX7_undo 62 (v0 :: .int x :: Ls) (.int x :: st) (h) := e_iload_n dX7_undo_61 rfl
theorem iX7_undo_62 {x z : Int32} {Ls st : List Value} {h : AH} : ev L xs mdX7_undo 62 (Ls) (.int z :: .int x :: st) h = ev L xs mdX7_undo 63 (Ls) (.int (x + z) :: st) (h) := e_iadd dX7_undo_62
theorem iX7_undo_63 {a : Nat} {j : Int32} {Ls st : List Value} {h : AH} (hk : hK h a = 8) (hi : inA j (hN h a) = true) : ev L xs mdX7_undo 63 (Ls) (.int j :: .ref a :: st) h = ev L xs mdX7_undo 64 (Ls) (.int (hA h a j.toNatClampNeg) :: st) (h) := e_iald dX7_undo_63 hk hi
theorem iX7_undo_64 {a : Nat} {j : Int32} {v : Int32} {Ls st : List Value} {h : AH} (hk : hK h a = 8) (hi : inA j (hN h a) = true) : ev L xs mdX7_undo 64 (Ls) (.int v :: .int j :: .ref a :: st) h = ev L xs mdX7_undo 65 (Ls) (st) (sA h a j.toNatClampNeg v) := e_iast dX7_undo_64 hk hi
theorem iX7_undo_65 {v0 : Value} {x : Int32} {Ls st : List Value} {h : AH} (hc9 : v0.category = 1) : ev L xs mdX7_undo 65 (v0 :: .int x :: Ls) (st) h = ev L xs mdX7_undo 68 (v0 :: .int (x + (nI 1)) :: Ls) (st) (h) := e_iinc dX7_undo_65 rfl rfl rfl (by decide) (by unfold catOK; show (_ || (v0.category == 1)) = true; rw [hc9]; rfl)
theorem iX7_undo_68  {Ls st : List Value} {h : AH} : ev L xs mdX7_undo 68 (Ls) (st) h = ev L xs mdX7_undo 37 (Ls) (st) (h) := e_goto dX7_undo_68 (by decide)
theorem iX7_undo_71 {x : Nat} {Ls st : List Value} {h : AH} : ev L xs mdX7_undo 71 (.ref x :: Ls) (st) h = ev L xs mdX7_undo 72 (.ref x :: Ls) (.ref x :: st) (h) := e_aload_n dX7_undo_71 rfl
theorem iX7_undo_72 {a : Nat} {Ls st : List Value} {h : AH} (hk : hK h a = 7) : ev L xs mdX7_undo 72 (Ls) (.ref a :: st) h = ev L xs mdX7_undo 75 (Ls) (.int (hI h 116 a) :: st) (h) := e_getI (k := 7) (f := 4) (F := 116) dX7_undo_72 (by decide +kernel) rfl rfl hk
theorem iX7_undo_75 {v : Int32} {Ls : List Value} {h : AH} : ev L xs mdX7_undo 75 Ls [.int v] h = some (.inl (some (.int v), h)) := e_iret dX7_undo_75 rfl
theorem dX7_value_0 : decode cX7_value 0 = .ok (.aload_n 0, 1) := by decide +kernel
theorem dX7_value_1 : decode cX7_value 1 = .ok (.iload_n 1, 1) := by decide +kernel
theorem dX7_value_2 : decode cX7_value 2 = .ok (.iconst 0, 1) := by decide +kernel
theorem dX7_value_3 : decode cX7_value 3 = .ok (.bipush 10, 2) := by decide +kernel
theorem dX7_value_5 : decode cX7_value 5 = .ok (.invokestatic 44, 3) := by decide +kernel
theorem dX7_value_8 : decode cX7_value 8 = .ok (.ifCond .eq 7, 3) := by decide +kernel
theorem dX7_value_11 : decode cX7_value 11 = .ok (.iconst 0, 1) := by decide +kernel
theorem dX7_value_12 : decode cX7_value 12 = .ok (.goto 4, 3) := by decide +kernel
theorem dX7_value_15 : decode cX7_value 15 = .ok (.iconst 1, 1) := by decide +kernel
theorem dX7_value_16 : decode cX7_value 16 = .ok (.putfield 34, 3) := by decide +kernel
theorem dX7_value_19 : decode cX7_value 19 = .ok (.aload_n 0, 1) := by decide +kernel
theorem dX7_value_20 : decode cX7_value 20 = .ok (.getfield 34, 3) := by decide +kernel
theorem dX7_value_23 : decode cX7_value 23 = .ok (.ifCond .le 7, 3) := by decide +kernel
theorem dX7_value_26 : decode cX7_value 26 = .ok (.iconst 0, 1) := by decide +kernel
theorem dX7_value_27 : decode cX7_value 27 = .ok (.goto 8, 3) := by decide +kernel
theorem dX7_value_30 : decode cX7_value 30 = .ok (.aload_n 0, 1) := by decide +kernel
theorem dX7_value_31 : decode cX7_value 31 = .ok (.iload_n 1, 1) := by decide +kernel
theorem dX7_value_32 : decode cX7_value 32 = .ok (.invokevirtual 147, 3) := by decide +kernel
theorem dX7_value_35 : decode cX7_value 35 = .ok (.ireturn, 1) := by decide +kernel
theorem iX7_value_0 {x : Nat} {Ls st : List Value} {h : AH} : ev L xs mdX7_value 0 (.ref x :: Ls) (st) h = ev L xs mdX7_value 1 (.ref x :: Ls) (.ref x :: st) (h) := e_aload_n dX7_value_0 rfl
theorem iX7_value_1 {v0 : Value} {x : Int32} {Ls st : List Value} {h : AH} : ev L xs mdX7_value 1 (v0 :: .int x :: Ls) (st) h = ev L xs mdX7_value 2 (v0 :: .int x :: Ls) (.int x :: st) (h) := e_iload_n dX7_value_1 rfl
theorem iX7_value_2  {Ls st : List Value} {h : AH} : ev L xs mdX7_value 2 (Ls) (st) h = ev L xs mdX7_value 3 (Ls) (.int (nI 0) :: st) (h) := e_iconst dX7_value_2 (by decide)
theorem iX7_value_3  {Ls st : List Value} {h : AH} : ev L xs mdX7_value 3 (Ls) (st) h = ev L xs mdX7_value 5 (Ls) (.int (nI 10) :: st) (h) := e_bipush dX7_value_3 (by decide)
theorem iX7_value_5 {p0 : Int32} {p1 : Int32} {p2 : Int32} {Ls st : List Value} {h : AH} (hw : wds st ≤ 8) : ev L xs mdX7_value 5 Ls (.int p2 :: .int p1 :: .int p0 :: st) h = kn L xs mdX7_value 5 8 Ls st (ev L xs mdX7_in 0 [.int p0, .int p1, .int p2] [] h) := e_callS (as := [.int p2, .int p1, .int p0]) dX7_value_5 mr_7_44 (by decide) (by decide) rfl (by simp [wds, Value.category]; decide) rfl hw
theorem iX7_value_8 {x : Int32} {Ls st : List Value} {h : AH} : ev L xs mdX7_value 8 Ls (.int x :: st) h = if x = nI 0 then ev L xs mdX7_value 15 Ls st h else ev L xs mdX7_value 11 Ls st h := e_if_eq dX7_value_8 (by decide)
theorem iX7_value_11  {Ls st : List Value} {h : AH} : ev L xs mdX7_value 11 (Ls) (st) h = ev L xs mdX7_value 12 (Ls) (.int (nI 0) :: st) (h) := e_iconst dX7_value_11 (by decide)
theorem iX7_value_12  {Ls st : List Value} {h : AH} : ev L xs mdX7_value 12 (Ls) (st) h = ev L xs mdX7_value 16 (Ls) (st) (h) := e_goto dX7_value_12 (by decide)
theorem iX7_value_15  {Ls st : List Value} {h : AH} : ev L xs mdX7_value 15 (Ls) (st) h = ev L xs mdX7_value 16 (Ls) (.int (nI 1) :: st) (h) := e_iconst dX7_value_15 (by decide)
theorem iX7_value_16 {a : Nat} {v : Int32} {Ls st : List Value} {h : AH} (hk : hK h a = 7) : ev L xs mdX7_value 16 (Ls) (.int v :: .ref a :: st) h = ev L xs mdX7_value 19 (Ls) (st) (sI h 112 a v) := e_putI (k := 7) (f := 0) (F := 112) dX7_value_16 (by decide +kernel) rfl (by decide +kernel) rfl hk
theorem iX7_value_19 {x : Nat} {Ls st : List Value} {h : AH} : ev L xs mdX7_value 19 (.ref x :: Ls) (st) h = ev L xs mdX7_value 20 (.ref x :: Ls) (.ref x :: st) (h) := e_aload_n dX7_value_19 rfl
theorem iX7_value_20 {a : Nat} {Ls st : List Value} {h : AH} (hk : hK h a = 7) : ev L xs mdX7_value 20 (Ls) (.ref a :: st) h = ev L xs mdX7_value 23 (Ls) (.int (hI h 112 a) :: st) (h) := e_getI (k := 7) (f := 0) (F := 112) dX7_value_20 (by decide +kernel) rfl rfl hk
theorem iX7_value_23 {x : Int32} {Ls st : List Value} {h : AH} : ev L xs mdX7_value 23 Ls (.int x :: st) h = if x ≤ nI 0 then ev L xs mdX7_value 30 Ls st h else ev L xs mdX7_value 26 Ls st h := e_if_le dX7_value_23 (by decide)
theorem iX7_value_26  {Ls st : List Value} {h : AH} : ev L xs mdX7_value 26 (Ls) (st) h = ev L xs mdX7_value 27 (Ls) (.int (nI 0) :: st) (h) := e_iconst dX7_value_26 (by decide)
theorem iX7_value_27  {Ls st : List Value} {h : AH} : ev L xs mdX7_value 27 (Ls) (st) h = ev L xs mdX7_value 35 (Ls) (st) (h) := e_goto dX7_value_27 (by decide)
theorem iX7_value_30 {x : Nat} {Ls st : List Value} {h : AH} : ev L xs mdX7_value 30 (.ref x :: Ls) (st) h = ev L xs mdX7_value 31 (.ref x :: Ls) (.ref x :: st) (h) := e_aload_n dX7_value_30 rfl
theorem iX7_value_31 {v0 : Value} {x : Int32} {Ls st : List Value} {h : AH} : ev L xs mdX7_value 31 (v0 :: .int x :: Ls) (st) h = ev L xs mdX7_value 32 (v0 :: .int x :: Ls) (.int x :: st) (h) := e_iload_n dX7_value_31 rfl
theorem iX7_value_32 {a : Nat} {p0 : Int32} {Ls st : List Value} {h : AH} (hk : hK h a = 7) (hw : wds st ≤ 8) : ev L xs mdX7_value 32 Ls (.int p0 :: .ref a :: st) h = kn L xs mdX7_value 32 35 Ls st (ev L xs mdX7_valueNow 0 [.ref a, .int p0] [] h) := e_callV (as := [.int p0]) dX7_value_32 mr_7_147 (by decide) (by decide) rfl (by simp [wds, Value.category]; decide) rfl (by decide) hk hw
theorem iX7_value_35 {v : Int32} {Ls : List Value} {h : AH} : ev L xs mdX7_value 35 Ls [.int v] h = some (.inl (some (.int v), h)) := e_iret dX7_value_35 rfl
theorem dX7_valueNow_0 : decode cX7_valueNow 0 = .ok (.iload_n 1, 1) := by decide +kernel
theorem dX7_valueNow_1 : decode cX7_valueNow 1 = .ok (.tableswitch 107 0 10 #[59, 66, 73, 80, 87, 107, 107, 107, 107, 94, 100], 59) := by decide +kernel
theorem dX7_valueNow_60 : decode cX7_valueNow 60 = .ok (.aload_n 0, 1) := by decide +kernel
theorem dX7_valueNow_61 : decode cX7_valueNow 61 = .ok (.getfield 7, 3) := by decide +kernel
theorem dX7_valueNow_64 : decode cX7_valueNow 64 = .ok (.iconst 2, 1) := by decide +kernel
theorem dX7_valueNow_65 : decode cX7_valueNow 65 = .ok (.iaload, 1) := by decide +kernel
theorem dX7_valueNow_66 : decode cX7_valueNow 66 = .ok (.ireturn, 1) := by decide +kernel
theorem dX7_valueNow_67 : decode cX7_valueNow 67 = .ok (.aload_n 0, 1) := by decide +kernel
theorem dX7_valueNow_68 : decode cX7_valueNow 68 = .ok (.getfield 7, 3) := by decide +kernel
theorem dX7_valueNow_71 : decode cX7_valueNow 71 = .ok (.iconst 3, 1) := by decide +kernel
theorem dX7_valueNow_72 : decode cX7_valueNow 72 = .ok (.iaload, 1) := by decide +kernel
theorem dX7_valueNow_73 : decode cX7_valueNow 73 = .ok (.ireturn, 1) := by decide +kernel
theorem dX7_valueNow_74 : decode cX7_valueNow 74 = .ok (.aload_n 0, 1) := by decide +kernel
theorem dX7_valueNow_75 : decode cX7_valueNow 75 = .ok (.getfield 7, 3) := by decide +kernel
theorem dX7_valueNow_78 : decode cX7_valueNow 78 = .ok (.iconst 4, 1) := by decide +kernel
theorem dX7_valueNow_79 : decode cX7_valueNow 79 = .ok (.iaload, 1) := by decide +kernel
theorem dX7_valueNow_80 : decode cX7_valueNow 80 = .ok (.ireturn, 1) := by decide +kernel
theorem dX7_valueNow_81 : decode cX7_valueNow 81 = .ok (.aload_n 0, 1) := by decide +kernel
theorem dX7_valueNow_82 : decode cX7_valueNow 82 = .ok (.getfield 7, 3) := by decide +kernel
theorem dX7_valueNow_85 : decode cX7_valueNow 85 = .ok (.iconst 0, 1) := by decide +kernel
theorem dX7_valueNow_86 : decode cX7_valueNow 86 = .ok (.iaload, 1) := by decide +kernel
theorem dX7_valueNow_87 : decode cX7_valueNow 87 = .ok (.ireturn, 1) := by decide +kernel
theorem dX7_valueNow_88 : decode cX7_valueNow 88 = .ok (.aload_n 0, 1) := by decide +kernel
theorem dX7_valueNow_89 : decode cX7_valueNow 89 = .ok (.getfield 7, 3) := by decide +kernel
theorem dX7_valueNow_92 : decode cX7_valueNow 92 = .ok (.iconst 1, 1) := by decide +kernel
theorem dX7_valueNow_93 : decode cX7_valueNow 93 = .ok (.iaload, 1) := by decide +kernel
theorem dX7_valueNow_94 : decode cX7_valueNow 94 = .ok (.ireturn, 1) := by decide +kernel
theorem dX7_valueNow_95 : decode cX7_valueNow 95 = .ok (.aload_n 0, 1) := by decide +kernel
theorem dX7_valueNow_96 : decode cX7_valueNow 96 = .ok (.iconst 5, 1) := by decide +kernel
theorem dX7_valueNow_97 : decode cX7_valueNow 97 = .ok (.invokevirtual 144, 3) := by decide +kernel
theorem dX7_valueNow_100 : decode cX7_valueNow 100 = .ok (.ireturn, 1) := by decide +kernel
theorem dX7_valueNow_101 : decode cX7_valueNow 101 = .ok (.aload_n 0, 1) := by decide +kernel
theorem dX7_valueNow_102 : decode cX7_valueNow 102 = .ok (.bipush 6, 2) := by decide +kernel
theorem dX7_valueNow_104 : decode cX7_valueNow 104 = .ok (.invokevirtual 144, 3) := by decide +kernel
theorem dX7_valueNow_107 : decode cX7_valueNow 107 = .ok (.ireturn, 1) := by decide +kernel
theorem dX7_valueNow_108 : decode cX7_valueNow 108 = .ok (.aload_n 0, 1) := by decide +kernel
theorem dX7_valueNow_109 : decode cX7_valueNow 109 = .ok (.getfield 7, 3) := by decide +kernel
theorem dX7_valueNow_112 : decode cX7_valueNow 112 = .ok (.iconst 5, 1) := by decide +kernel
theorem dX7_valueNow_113 : decode cX7_valueNow 113 = .ok (.iload_n 1, 1) := by decide +kernel
theorem dX7_valueNow_114 : decode cX7_valueNow 114 = .ok (.iadd, 1) := by decide +kernel
theorem dX7_valueNow_115 : decode cX7_valueNow 115 = .ok (.iconst 5, 1) := by decide +kernel
theorem dX7_valueNow_116 : decode cX7_valueNow 116 = .ok (.isub, 1) := by decide +kernel
theorem dX7_valueNow_117 : decode cX7_valueNow 117 = .ok (.iaload, 1) := by decide +kernel
theorem dX7_valueNow_118 : decode cX7_valueNow 118 = .ok (.ireturn, 1) := by decide +kernel
theorem iX7_valueNow_0 {v0 : Value} {x : Int32} {Ls st : List Value} {h : AH} : ev L xs mdX7_valueNow 0 (v0 :: .int x :: Ls) (st) h = ev L xs mdX7_valueNow 1 (v0 :: .int x :: Ls) (.int x :: st) (h) := e_iload_n dX7_valueNow_0 rfl
theorem iX7_valueNow_1_0 {Ls st : List Value} {h : AH} : ev L xs mdX7_valueNow 1 Ls (.int (nI 0) :: st) h = ev L xs mdX7_valueNow 60 Ls st h := e_tsw dX7_valueNow_1 rfl (by decide)
theorem iX7_valueNow_1_1 {Ls st : List Value} {h : AH} : ev L xs mdX7_valueNow 1 Ls (.int (nI 1) :: st) h = ev L xs mdX7_valueNow 67 Ls st h := e_tsw dX7_valueNow_1 rfl (by decide)
theorem iX7_valueNow_1_2 {Ls st : List Value} {h : AH} : ev L xs mdX7_valueNow 1 Ls (.int (nI 2) :: st) h = ev L xs mdX7_valueNow 74 Ls st h := e_tsw dX7_valueNow_1 rfl (by decide)
theorem iX7_valueNow_1_3 {Ls st : List Value} {h : AH} : ev L xs mdX7_valueNow 1 Ls (.int (nI 3) :: st) h = ev L xs mdX7_valueNow 81 Ls st h := e_tsw dX7_valueNow_1 rfl (by decide)
theorem iX7_valueNow_1_4 {Ls st : List Value} {h : AH} : ev L xs mdX7_valueNow 1 Ls (.int (nI 4) :: st) h = ev L xs mdX7_valueNow 88 Ls st h := e_tsw dX7_valueNow_1 rfl (by decide)
theorem iX7_valueNow_1_5 {Ls st : List Value} {h : AH} : ev L xs mdX7_valueNow 1 Ls (.int (nI 5) :: st) h = ev L xs mdX7_valueNow 108 Ls st h := e_tsw dX7_valueNow_1 rfl (by decide)
theorem iX7_valueNow_1_6 {Ls st : List Value} {h : AH} : ev L xs mdX7_valueNow 1 Ls (.int (nI 6) :: st) h = ev L xs mdX7_valueNow 108 Ls st h := e_tsw dX7_valueNow_1 rfl (by decide)
theorem iX7_valueNow_1_7 {Ls st : List Value} {h : AH} : ev L xs mdX7_valueNow 1 Ls (.int (nI 7) :: st) h = ev L xs mdX7_valueNow 108 Ls st h := e_tsw dX7_valueNow_1 rfl (by decide)
theorem iX7_valueNow_1_8 {Ls st : List Value} {h : AH} : ev L xs mdX7_valueNow 1 Ls (.int (nI 8) :: st) h = ev L xs mdX7_valueNow 108 Ls st h := e_tsw dX7_valueNow_1 rfl (by decide)
theorem iX7_valueNow_1_9 {Ls st : List Value} {h : AH} : ev L xs mdX7_valueNow 1 Ls (.int (nI 9) :: st) h = ev L xs mdX7_valueNow 95 Ls st h := e_tsw dX7_valueNow_1 rfl (by decide)
theorem iX7_valueNow_1_10 {Ls st : List Value} {h : AH} : ev L xs mdX7_valueNow 1 Ls (.int (nI 10) :: st) h = ev L xs mdX7_valueNow 101 Ls st h := e_tsw dX7_valueNow_1 rfl (by decide)
theorem iX7_valueNow_1_d {x : Int32} {Ls st : List Value} {h : AH} (hx : x.toInt < 0 ∨ 10 < x.toInt) : ev L xs mdX7_valueNow 1 Ls (.int x :: st) h = ev L xs mdX7_valueNow 108 Ls st h := e_tsw (o := 107) dX7_valueNow_1 (if_pos hx) (by decide)
theorem iX7_valueNow_60 {x : Nat} {Ls st : List Value} {h : AH} : ev L xs mdX7_valueNow 60 (.ref x :: Ls) (st) h = ev L xs mdX7_valueNow 61 (.ref x :: Ls) (.ref x :: st) (h) := e_aload_n dX7_valueNow_60 rfl
theorem iX7_valueNow_61 {a : Nat} {Ls st : List Value} {h : AH} (hk : hK h a = 7) (hj : (hR h 113 a).isSome = true) : ev L xs mdX7_valueNow 61 (Ls) (.ref a :: st) h = ev L xs mdX7_valueNow 64 (Ls) (.ref ((hR h 113 a).getD 0) :: st) (h) := e_getR (k := 7) (f := 1) (F := 113) dX7_valueNow_61 (by decide +kernel) rfl rfl hk hj
theorem iX7_valueNow_64  {Ls st : List Value} {h : AH} : ev L xs mdX7_valueNow 64 (Ls) (st) h = ev L xs mdX7_valueNow 65 (Ls) (.int (nI 2) :: st) (h) := e_iconst dX7_valueNow_64 (by decide)
theorem iX7_valueNow_65 {a : Nat} {j : Int32} {Ls st : List Value} {h : AH} (hk : hK h a = 8) (hi : inA j (hN h a) = true) : ev L xs mdX7_valueNow 65 (Ls) (.int j :: .ref a :: st) h = ev L xs mdX7_valueNow 66 (Ls) (.int (hA h a j.toNatClampNeg) :: st) (h) := e_iald dX7_valueNow_65 hk hi
theorem iX7_valueNow_66 {v : Int32} {Ls : List Value} {h : AH} : ev L xs mdX7_valueNow 66 Ls [.int v] h = some (.inl (some (.int v), h)) := e_iret dX7_valueNow_66 rfl
theorem iX7_valueNow_67 {x : Nat} {Ls st : List Value} {h : AH} : ev L xs mdX7_valueNow 67 (.ref x :: Ls) (st) h = ev L xs mdX7_valueNow 68 (.ref x :: Ls) (.ref x :: st) (h) := e_aload_n dX7_valueNow_67 rfl
theorem iX7_valueNow_68 {a : Nat} {Ls st : List Value} {h : AH} (hk : hK h a = 7) (hj : (hR h 113 a).isSome = true) : ev L xs mdX7_valueNow 68 (Ls) (.ref a :: st) h = ev L xs mdX7_valueNow 71 (Ls) (.ref ((hR h 113 a).getD 0) :: st) (h) := e_getR (k := 7) (f := 1) (F := 113) dX7_valueNow_68 (by decide +kernel) rfl rfl hk hj
theorem iX7_valueNow_71  {Ls st : List Value} {h : AH} : ev L xs mdX7_valueNow 71 (Ls) (st) h = ev L xs mdX7_valueNow 72 (Ls) (.int (nI 3) :: st) (h) := e_iconst dX7_valueNow_71 (by decide)
theorem iX7_valueNow_72 {a : Nat} {j : Int32} {Ls st : List Value} {h : AH} (hk : hK h a = 8) (hi : inA j (hN h a) = true) : ev L xs mdX7_valueNow 72 (Ls) (.int j :: .ref a :: st) h = ev L xs mdX7_valueNow 73 (Ls) (.int (hA h a j.toNatClampNeg) :: st) (h) := e_iald dX7_valueNow_72 hk hi
theorem iX7_valueNow_73 {v : Int32} {Ls : List Value} {h : AH} : ev L xs mdX7_valueNow 73 Ls [.int v] h = some (.inl (some (.int v), h)) := e_iret dX7_valueNow_73 rfl
theorem iX7_valueNow_74 {x : Nat} {Ls st : List Value} {h : AH} : ev L xs mdX7_valueNow 74 (.ref x :: Ls) (st) h = ev L xs mdX7_valueNow 75 (.ref x :: Ls) (.ref x :: st) (h) := e_aload_n dX7_valueNow_74 rfl
theorem iX7_valueNow_75 {a : Nat} {Ls st : List Value} {h : AH} (hk : hK h a = 7) (hj : (hR h 113 a).isSome = true) : ev L xs mdX7_valueNow 75 (Ls) (.ref a :: st) h = ev L xs mdX7_valueNow 78 (Ls) (.ref ((hR h 113 a).getD 0) :: st) (h) := e_getR (k := 7) (f := 1) (F := 113) dX7_valueNow_75 (by decide +kernel) rfl rfl hk hj
theorem iX7_valueNow_78  {Ls st : List Value} {h : AH} : ev L xs mdX7_valueNow 78 (Ls) (st) h = ev L xs mdX7_valueNow 79 (Ls) (.int (nI 4) :: st) (h) := e_iconst dX7_valueNow_78 (by decide)
theorem iX7_valueNow_79 {a : Nat} {j : Int32} {Ls st : List Value} {h : AH} (hk : hK h a = 8) (hi : inA j (hN h a) = true) : ev L xs mdX7_valueNow 79 (Ls) (.int j :: .ref a :: st) h = ev L xs mdX7_valueNow 80 (Ls) (.int (hA h a j.toNatClampNeg) :: st) (h) := e_iald dX7_valueNow_79 hk hi
theorem iX7_valueNow_80 {v : Int32} {Ls : List Value} {h : AH} : ev L xs mdX7_valueNow 80 Ls [.int v] h = some (.inl (some (.int v), h)) := e_iret dX7_valueNow_80 rfl
theorem iX7_valueNow_81 {x : Nat} {Ls st : List Value} {h : AH} : ev L xs mdX7_valueNow 81 (.ref x :: Ls) (st) h = ev L xs mdX7_valueNow 82 (.ref x :: Ls) (.ref x :: st) (h) := e_aload_n dX7_valueNow_81 rfl
theorem iX7_valueNow_82 {a : Nat} {Ls st : List Value} {h : AH} (hk : hK h a = 7) (hj : (hR h 113 a).isSome = true) : ev L xs mdX7_valueNow 82 (Ls) (.ref a :: st) h = ev L xs mdX7_valueNow 85 (Ls) (.ref ((hR h 113 a).getD 0) :: st) (h) := e_getR (k := 7) (f := 1) (F := 113) dX7_valueNow_82 (by decide +kernel) rfl rfl hk hj
theorem iX7_valueNow_85  {Ls st : List Value} {h : AH} : ev L xs mdX7_valueNow 85 (Ls) (st) h = ev L xs mdX7_valueNow 86 (Ls) (.int (nI 0) :: st) (h) := e_iconst dX7_valueNow_85 (by decide)
theorem iX7_valueNow_86 {a : Nat} {j : Int32} {Ls st : List Value} {h : AH} (hk : hK h a = 8) (hi : inA j (hN h a) = true) : ev L xs mdX7_valueNow 86 (Ls) (.int j :: .ref a :: st) h = ev L xs mdX7_valueNow 87 (Ls) (.int (hA h a j.toNatClampNeg) :: st) (h) := e_iald dX7_valueNow_86 hk hi
theorem iX7_valueNow_87 {v : Int32} {Ls : List Value} {h : AH} : ev L xs mdX7_valueNow 87 Ls [.int v] h = some (.inl (some (.int v), h)) := e_iret dX7_valueNow_87 rfl
theorem iX7_valueNow_88 {x : Nat} {Ls st : List Value} {h : AH} : ev L xs mdX7_valueNow 88 (.ref x :: Ls) (st) h = ev L xs mdX7_valueNow 89 (.ref x :: Ls) (.ref x :: st) (h) := e_aload_n dX7_valueNow_88 rfl
theorem iX7_valueNow_89 {a : Nat} {Ls st : List Value} {h : AH} (hk : hK h a = 7) (hj : (hR h 113 a).isSome = true) : ev L xs mdX7_valueNow 89 (Ls) (.ref a :: st) h = ev L xs mdX7_valueNow 92 (Ls) (.ref ((hR h 113 a).getD 0) :: st) (h) := e_getR (k := 7) (f := 1) (F := 113) dX7_valueNow_89 (by decide +kernel) rfl rfl hk hj
theorem iX7_valueNow_92  {Ls st : List Value} {h : AH} : ev L xs mdX7_valueNow 92 (Ls) (st) h = ev L xs mdX7_valueNow 93 (Ls) (.int (nI 1) :: st) (h) := e_iconst dX7_valueNow_92 (by decide)
theorem iX7_valueNow_93 {a : Nat} {j : Int32} {Ls st : List Value} {h : AH} (hk : hK h a = 8) (hi : inA j (hN h a) = true) : ev L xs mdX7_valueNow 93 (Ls) (.int j :: .ref a :: st) h = ev L xs mdX7_valueNow 94 (Ls) (.int (hA h a j.toNatClampNeg) :: st) (h) := e_iald dX7_valueNow_93 hk hi
theorem iX7_valueNow_94 {v : Int32} {Ls : List Value} {h : AH} : ev L xs mdX7_valueNow 94 Ls [.int v] h = some (.inl (some (.int v), h)) := e_iret dX7_valueNow_94 rfl
theorem iX7_valueNow_95 {x : Nat} {Ls st : List Value} {h : AH} : ev L xs mdX7_valueNow 95 (.ref x :: Ls) (st) h = ev L xs mdX7_valueNow 96 (.ref x :: Ls) (.ref x :: st) (h) := e_aload_n dX7_valueNow_95 rfl
theorem iX7_valueNow_96  {Ls st : List Value} {h : AH} : ev L xs mdX7_valueNow 96 (Ls) (st) h = ev L xs mdX7_valueNow 97 (Ls) (.int (nI 5) :: st) (h) := e_iconst dX7_valueNow_96 (by decide)
theorem iX7_valueNow_97 {a : Nat} {p0 : Int32} {Ls st : List Value} {h : AH} (hk : hK h a = 7) (hw : wds st ≤ 8) : ev L xs mdX7_valueNow 97 Ls (.int p0 :: .ref a :: st) h = kn L xs mdX7_valueNow 97 100 Ls st (ev L xs mdX7_sumOf 0 [.ref a, .int p0, .null, .null] [] h) := e_callV (as := [.int p0]) dX7_valueNow_97 mr_7_144 (by decide) (by decide) rfl (by simp [wds, Value.category]; decide) rfl (by decide) hk hw
theorem iX7_valueNow_100 {v : Int32} {Ls : List Value} {h : AH} : ev L xs mdX7_valueNow 100 Ls [.int v] h = some (.inl (some (.int v), h)) := e_iret dX7_valueNow_100 rfl
theorem iX7_valueNow_101 {x : Nat} {Ls st : List Value} {h : AH} : ev L xs mdX7_valueNow 101 (.ref x :: Ls) (st) h = ev L xs mdX7_valueNow 102 (.ref x :: Ls) (.ref x :: st) (h) := e_aload_n dX7_valueNow_101 rfl
theorem iX7_valueNow_102  {Ls st : List Value} {h : AH} : ev L xs mdX7_valueNow 102 (Ls) (st) h = ev L xs mdX7_valueNow 104 (Ls) (.int (nI 6) :: st) (h) := e_bipush dX7_valueNow_102 (by decide)
theorem iX7_valueNow_104 {a : Nat} {p0 : Int32} {Ls st : List Value} {h : AH} (hk : hK h a = 7) (hw : wds st ≤ 8) : ev L xs mdX7_valueNow 104 Ls (.int p0 :: .ref a :: st) h = kn L xs mdX7_valueNow 104 107 Ls st (ev L xs mdX7_sumOf 0 [.ref a, .int p0, .null, .null] [] h) := e_callV (as := [.int p0]) dX7_valueNow_104 mr_7_144 (by decide) (by decide) rfl (by simp [wds, Value.category]; decide) rfl (by decide) hk hw
theorem iX7_valueNow_107 {v : Int32} {Ls : List Value} {h : AH} : ev L xs mdX7_valueNow 107 Ls [.int v] h = some (.inl (some (.int v), h)) := e_iret dX7_valueNow_107 rfl
theorem iX7_valueNow_108 {x : Nat} {Ls st : List Value} {h : AH} : ev L xs mdX7_valueNow 108 (.ref x :: Ls) (st) h = ev L xs mdX7_valueNow 109 (.ref x :: Ls) (.ref x :: st) (h) := e_aload_n dX7_valueNow_108 rfl
theorem iX7_valueNow_109 {a : Nat} {Ls st : List Value} {h : AH} (hk : hK h a = 7) (hj : (hR h 113 a).isSome = true) : ev L xs mdX7_valueNow 109 (Ls) (.ref a :: st) h = ev L xs mdX7_valueNow 112 (Ls) (.ref ((hR h 113 a).getD 0) :: st) (h) := e_getR (k := 7) (f := 1) (F := 113) dX7_valueNow_109 (by decide +kernel) rfl rfl hk hj
theorem iX7_valueNow_112  {Ls st : List Value} {h : AH} : ev L xs mdX7_valueNow 112 (Ls) (st) h = ev L xs mdX7_valueNow 113 (Ls) (.int (nI 5) :: st) (h) := e_iconst dX7_valueNow_112 (by decide)
theorem iX7_valueNow_113 {v0 : Value} {x : Int32} {Ls st : List Value} {h : AH} : ev L xs mdX7_valueNow 113 (v0 :: .int x :: Ls) (st) h = ev L xs mdX7_valueNow 114 (v0 :: .int x :: Ls) (.int x :: st) (h) := e_iload_n dX7_valueNow_113 rfl
theorem iX7_valueNow_114 {x z : Int32} {Ls st : List Value} {h : AH} : ev L xs mdX7_valueNow 114 (Ls) (.int z :: .int x :: st) h = ev L xs mdX7_valueNow 115 (Ls) (.int (x + z) :: st) (h) := e_iadd dX7_valueNow_114
theorem iX7_valueNow_115  {Ls st : List Value} {h : AH} : ev L xs mdX7_valueNow 115 (Ls) (st) h = ev L xs mdX7_valueNow 116 (Ls) (.int (nI 5) :: st) (h) := e_iconst dX7_valueNow_115 (by decide)
theorem iX7_valueNow_116 {x z : Int32} {Ls st : List Value} {h : AH} : ev L xs mdX7_valueNow 116 (Ls) (.int z :: .int x :: st) h = ev L xs mdX7_valueNow 117 (Ls) (.int (x - z) :: st) (h) := e_isub dX7_valueNow_116
theorem iX7_valueNow_117 {a : Nat} {j : Int32} {Ls st : List Value} {h : AH} (hk : hK h a = 8) (hi : inA j (hN h a) = true) : ev L xs mdX7_valueNow 117 (Ls) (.int j :: .ref a :: st) h = ev L xs mdX7_valueNow 118 (Ls) (.int (hA h a j.toNatClampNeg) :: st) (h) := e_iald dX7_valueNow_117 hk hi
theorem iX7_valueNow_118 {v : Int32} {Ls : List Value} {h : AH} : ev L xs mdX7_valueNow 118 Ls [.int v] h = some (.inl (some (.int v), h)) := e_iret dX7_valueNow_118 rfl
end
