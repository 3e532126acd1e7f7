section
variable {L : Nat} {xs : Nat → Int32}
theorem dL_addGuard_0 : decode cL_addGuard 0 = .ok (.aload 4, 2) := by decide +kernel
theorem dL_addGuard_2 : decode cL_addGuard 2 = .ok (.iconst 0, 1) := by decide +kernel
theorem dL_addGuard_3 : decode cL_addGuard 3 = .ok (.aload_n 0, 1) := by decide +kernel
theorem dL_addGuard_4 : decode cL_addGuard 4 = .ok (.iload_n 1, 1) := by decide +kernel
theorem dL_addGuard_5 : decode cL_addGuard 5 = .ok (.iload_n 2, 1) := by decide +kernel
theorem dL_addGuard_6 : decode cL_addGuard 6 = .ok (.iload_n 3, 1) := by decide +kernel
theorem dL_addGuard_7 : decode cL_addGuard 7 = .ok (.invokevirtual 25, 3) := by decide +kernel
theorem dL_addGuard_10 : decode cL_addGuard 10 = .ok (.i2l, 1) := by decide +kernel
theorem dL_addGuard_11 : decode cL_addGuard 11 = .ok (.lastore, 1) := by decide +kernel
theorem dL_addGuard_12 : decode cL_addGuard 12 = .ok (.goto 15, 3) := by decide +kernel
theorem dL_addGuard_15 : decode cL_addGuard 15 = .ok (.astore 5, 2) := by decide +kernel
theorem dL_addGuard_17 : decode cL_addGuard 17 = .ok (.iconst 1, 1) := by decide +kernel
theorem dL_addGuard_18 : decode cL_addGuard 18 = .ok (.ireturn, 1) := by decide +kernel
theorem dL_addGuard_19 : decode cL_addGuard 19 = .ok (.astore 5, 2) := by decide +kernel
theorem dL_addGuard_21 : decode cL_addGuard 21 = .ok (.iconst 2, 1) := by decide +kernel
theorem dL_addGuard_22 : decode cL_addGuard 22 = .ok (.ireturn, 1) := by decide +kernel
theorem dL_addGuard_23 : decode cL_addGuard 23 = .ok (.astore 5, 2) := by decide +kernel
theorem dL_addGuard_25 : decode cL_addGuard 25 = .ok (.iconst 3, 1) := by decide +kernel
theorem dL_addGuard_26 : decode cL_addGuard 26 = .ok (.ireturn, 1) := by decide +kernel
theorem dL_addGuard_27 : decode cL_addGuard 27 = .ok (.iconst 0, 1) := by decide +kernel
theorem dL_addGuard_28 : decode cL_addGuard 28 = .ok (.ireturn, 1) := by decide +kernel
theorem iL_addGuard_0 {v0 : Value} {v1 : Value} {v2 : Value} {v3 : Value} {x : Nat} {Ls st : List Value} {h : AH} : ev L xs mdL_addGuard 0 (v0 :: v1 :: v2 :: v3 :: .ref x :: Ls) (st) h = ev L xs mdL_addGuard 2 (v0 :: v1 :: v2 :: v3 :: .ref x :: Ls) (.ref x :: st) (h) := e_aload dL_addGuard_0 rfl
theorem iL_addGuard_2  {Ls st : List Value} {h : AH} : ev L xs mdL_addGuard 2 (Ls) (st) h = ev L xs mdL_addGuard 3 (Ls) (.int (nI 0) :: st) (h) := e_iconst dL_addGuard_2 (by decide)
theorem iL_addGuard_3 {x : Nat} {Ls st : List Value} {h : AH} : ev L xs mdL_addGuard 3 (.ref x :: Ls) (st) h = ev L xs mdL_addGuard 4 (.ref x :: Ls) (.ref x :: st) (h) := e_aload_n dL_addGuard_3 rfl
theorem iL_addGuard_4 {v0 : Value} {x : Int32} {Ls st : List Value} {h : AH} : ev L xs mdL_addGuard 4 (v0 :: .int x :: Ls) (st) h = ev L xs mdL_addGuard 5 (v0 :: .int x :: Ls) (.int x :: st) (h) := e_iload_n dL_addGuard_4 rfl
theorem iL_addGuard_5 {v0 : Value} {v1 : Value} {x : Int32} {Ls st : List Value} {h : AH} : ev L xs mdL_addGuard 5 (v0 :: v1 :: .int x :: Ls) (st) h = ev L xs mdL_addGuard 6 (v0 :: v1 :: .int x :: Ls) (.int x :: st) (h) := e_iload_n dL_addGuard_5 rfl
theorem iL_addGuard_6 {v0 : Value} {v1 : Value} {v2 : Value} {x : Int32} {Ls st : List Value} {h : AH} : ev L xs mdL_addGuard 6 (v0 :: v1 :: v2 :: .int x :: Ls) (st) h = ev L xs mdL_addGuard 7 (v0 :: v1 :: v2 :: .int x :: Ls) (.int x :: st) (h) := e_iload_n dL_addGuard_6 rfl
theorem iL_addGuard_7 {a : Nat} {p0 : Int32} {p1 : Int32} {p2 : Int32} {Ls st : List Value} {h : AH} (hk : hK h a = 6) (hw : wds st ≤ 8) : ev L xs mdL_addGuard 7 Ls (.int p2 :: .int p1 :: .int p0 :: .ref a :: st) h = kn L xs mdL_addGuard 7 10 Ls st (ev L xs mdX6_addGuard 0 [.ref a, .int p0, .int p1, .int p2] [] h) := e_callV (as := [.int p2, .int p1, .int p0]) dL_addGuard_7 mr_8_25 (by decide) (by decide) rfl (by simp [wds, Value.category]; decide) rfl (by decide) hk hw
theorem iL_addGuard_10 {x : Int32} {Ls st : List Value} {h : AH} : ev L xs mdL_addGuard 10 (Ls) (.int x :: st) h = ev L xs mdL_addGuard 11 (Ls) (.long x.toInt64 :: st) (h) := e_i2l dL_addGuard_10
theorem iL_addGuard_11 {a : Nat} {j : Int32} {v : Int64} {Ls st : List Value} {h : AH} (hk : hK h a = 12) (hi : inA j (hN h a) = true) : ev L xs mdL_addGuard 11 (Ls) (.long v :: .int j :: .ref a :: st) h = ev L xs mdL_addGuard 12 (Ls) (st) (sL h a j.toNatClampNeg v) := e_last dL_addGuard_11 hk hi
theorem iL_addGuard_12  {Ls st : List Value} {h : AH} : ev L xs mdL_addGuard 12 (Ls) (st) h = ev L xs mdL_addGuard 27 (Ls) (st) (h) := e_goto dL_addGuard_12 (by decide)
theorem iL_addGuard_15 {v0 : Value} {v1 : Value} {v2 : Value} {v3 : Value} {v4 : Value} {v5 : Value} {x : Nat} {Ls st : List Value} {h : AH} (hc9 : v4.category = 1) : ev L xs mdL_addGuard 15 (v0 :: v1 :: v2 :: v3 :: v4 :: v5 :: Ls) (.ref x :: st) h = ev L xs mdL_addGuard 17 (v0 :: v1 :: v2 :: v3 :: v4 :: .ref x :: Ls) (st) (h) := e_astore dL_addGuard_15 rfl (by decide) (by unfold catOK; show (_ || (v4.category == 1)) = true; rw [hc9]; rfl)
theorem iL_addGuard_17  {Ls st : List Value} {h : AH} : ev L xs mdL_addGuard 17 (Ls) (st) h = ev L xs mdL_addGuard 18 (Ls) (.int (nI 1) :: st) (h) := e_iconst dL_addGuard_17 (by decide)
theorem iL_addGuard_18 {v : Int32} {Ls : List Value} {h : AH} : ev L xs mdL_addGuard 18 Ls [.int v] h = some (.inl (some (.int v), h)) := e_iret dL_addGuard_18 rfl
theorem iL_addGuard_19 {v0 : Value} {v1 : Value} {v2 : Value} {v3 : Value} {v4 : Value} {v5 : Value} {x : Nat} {Ls st : List Value} {h : AH} (hc9 : v4.category = 1) : ev L xs mdL_addGuard 19 (v0 :: v1 :: v2 :: v3 :: v4 :: v5 :: Ls) (.ref x :: st) h = ev L xs mdL_addGuard 21 (v0 :: v1 :: v2 :: v3 :: v4 :: .ref x :: Ls) (st) (h) := e_astore dL_addGuard_19 rfl (by decide) (by unfold catOK; show (_ || (v4.category == 1)) = true; rw [hc9]; rfl)
theorem iL_addGuard_21  {Ls st : List Value} {h : AH} : ev L xs mdL_addGuard 21 (Ls) (st) h = ev L xs mdL_addGuard 22 (Ls) (.int (nI 2) :: st) (h) := e_iconst dL_addGuard_21 (by decide)
theorem iL_addGuard_22 {v : Int32} {Ls : List Value} {h : AH} : ev L xs mdL_addGuard 22 Ls [.int v] h = some (.inl (some (.int v), h)) := e_iret dL_addGuard_22 rfl
theorem iL_addGuard_23 {v0 : Value} {v1 : Value} {v2 : Value} {v3 : Value} {v4 : Value} {v5 : Value} {x : Nat} {Ls st : List Value} {h : AH} (hc9 : v4.category = 1) : ev L xs mdL_addGuard 23 (v0 :: v1 :: v2 :: v3 :: v4 :: v5 :: Ls) (.ref x :: st) h = ev L xs mdL_addGuard 25 (v0 :: v1 :: v2 :: v3 :: v4 :: .ref x :: Ls) (st) (h) := e_astore dL_addGuard_23 rfl (by decide) (by unfold catOK; show (_ || (v4.category == 1)) = true; rw [hc9]; rfl)
theorem iL_addGuard_25  {Ls st : List Value} {h : AH} : ev L xs mdL_addGuard 25 (Ls) (st) h = ev L xs mdL_addGuard 26 (Ls) (.int (nI 3) :: st) (h) := e_iconst dL_addGuard_25 (by decide)
theorem iL_addGuard_26 {v : Int32} {Ls : List Value} {h : AH} : ev L xs mdL_addGuard 26 Ls [.int v] h = some (.inl (some (.int v), h)) := e_iret dL_addGuard_26 rfl
theorem iL_addGuard_27  {Ls st : List Value} {h : AH} : ev L xs mdL_addGuard 27 (Ls) (st) h = ev L xs mdL_addGuard 28 (Ls) (.int (nI 0) :: st) (h) := e_iconst dL_addGuard_27 (by decide)
theorem iL_addGuard_28 {v : Int32} {Ls : List Value} {h : AH} : ev L xs mdL_addGuard 28 Ls [.int v] h = some (.inl (some (.int v), h)) := e_iret dL_addGuard_28 rfl
theorem dL_addHoliday_0 : decode cL_addHoliday 0 = .ok (.aload_n 3, 1) := by decide +kernel
theorem dL_addHoliday_1 : decode cL_addHoliday 1 = .ok (.iconst 0, 1) := by decide +kernel
theorem dL_addHoliday_2 : decode cL_addHoliday 2 = .ok (.aload_n 0, 1) := by decide +kernel
theorem dL_addHoliday_3 : decode cL_addHoliday 3 = .ok (.iload_n 1, 1) := by decide +kernel
theorem dL_addHoliday_4 : decode cL_addHoliday 4 = .ok (.iload_n 2, 1) := by decide +kernel
theorem dL_addHoliday_5 : decode cL_addHoliday 5 = .ok (.invokevirtual 7, 3) := by decide +kernel
theorem dL_addHoliday_8 : decode cL_addHoliday 8 = .ok (.i2l, 1) := by decide +kernel
theorem dL_addHoliday_9 : decode cL_addHoliday 9 = .ok (.lastore, 1) := by decide +kernel
theorem dL_addHoliday_10 : decode cL_addHoliday 10 = .ok (.goto 11, 3) := by decide +kernel
theorem dL_addHoliday_13 : decode cL_addHoliday 13 = .ok (.astore 4, 2) := by decide +kernel
theorem dL_addHoliday_15 : decode cL_addHoliday 15 = .ok (.iconst 1, 1) := by decide +kernel
theorem dL_addHoliday_16 : decode cL_addHoliday 16 = .ok (.ireturn, 1) := by decide +kernel
theorem dL_addHoliday_17 : decode cL_addHoliday 17 = .ok (.astore 4, 2) := by decide +kernel
theorem dL_addHoliday_19 : decode cL_addHoliday 19 = .ok (.iconst 2, 1) := by decide +kernel
theorem dL_addHoliday_20 : decode cL_addHoliday 20 = .ok (.ireturn, 1) := by decide +kernel
theorem dL_addHoliday_21 : decode cL_addHoliday 21 = .ok (.iconst 0, 1) := by decide +kernel
theorem dL_addHoliday_22 : decode cL_addHoliday 22 = .ok (.ireturn, 1) := by decide +kernel
theorem iL_addHoliday_0 {v0 : Value} {v1 : Value} {v2 : Value} {x : Nat} {Ls st : List Value} {h : AH} : ev L xs mdL_addHoliday 0 (v0 :: v1 :: v2 :: .ref x :: Ls) (st) h = ev L xs mdL_addHoliday 1 (v0 :: v1 :: v2 :: .ref x :: Ls) (.ref x :: st) (h) := e_aload_n dL_addHoliday_0 rfl
theorem iL_addHoliday_1  {Ls st : List Value} {h : AH} : ev L xs mdL_addHoliday 1 (Ls) (st) h = ev L xs mdL_addHoliday 2 (Ls) (.int (nI 0) :: st) (h) := e_iconst dL_addHoliday_1 (by decide)
theorem iL_addHoliday_2 {x : Nat} {Ls st : List Value} {h : AH} : ev L xs mdL_addHoliday 2 (.ref x :: Ls) (st) h = ev L xs mdL_addHoliday 3 (.ref x :: Ls) (.ref x :: st) (h) := e_aload_n dL_addHoliday_2 rfl
theorem iL_addHoliday_3 {v0 : Value} {x : Int32} {Ls st : List Value} {h : AH} : ev L xs mdL_addHoliday 3 (v0 :: .int x :: Ls) (st) h = ev L xs mdL_addHoliday 4 (v0 :: .int x :: Ls) (.int x :: st) (h) := e_iload_n dL_addHoliday_3 rfl
theorem iL_addHoliday_4 {v0 : Value} {v1 : Value} {x : Int32} {Ls st : List Value} {h : AH} : ev L xs mdL_addHoliday 4 (v0 :: v1 :: .int x :: Ls) (st) h = ev L xs mdL_addHoliday 5 (v0 :: v1 :: .int x :: Ls) (.int x :: st) (h) := e_iload_n dL_addHoliday_4 rfl
theorem iL_addHoliday_5 {a : Nat} {p0 : Int32} {p1 : Int32} {Ls st : List Value} {h : AH} (hk : hK h a = 6) (hw : wds st ≤ 8) : ev L xs mdL_addHoliday 5 Ls (.int p1 :: .int p0 :: .ref a :: st) h = kn L xs mdL_addHoliday 5 8 Ls st (ev L xs mdX6_addHoliday 0 [.ref a, .int p0, .int p1] [] h) := e_callV (as := [.int p1, .int p0]) dL_addHoliday_5 mr_8_7 (by decide) (by decide) rfl (by simp [wds, Value.category]; decide) rfl (by decide) hk hw
theorem iL_addHoliday_8 {x : Int32} {Ls st : List Value} {h : AH} : ev L xs mdL_addHoliday 8 (Ls) (.int x :: st) h = ev L xs mdL_addHoliday 9 (Ls) (.long x.toInt64 :: st) (h) := e_i2l dL_addHoliday_8
theorem iL_addHoliday_9 {a : Nat} {j : Int32} {v : Int64} {Ls st : List Value} {h : AH} (hk : hK h a = 12) (hi : inA j (hN h a) = true) : ev L xs mdL_addHoliday 9 (Ls) (.long v :: .int j :: .ref a :: st) h = ev L xs mdL_addHoliday 10 (Ls) (st) (sL h a j.toNatClampNeg v) := e_last dL_addHoliday_9 hk hi
theorem iL_addHoliday_10  {Ls st : List Value} {h : AH} : ev L xs mdL_addHoliday 10 (Ls) (st) h = ev L xs mdL_addHoliday 21 (Ls) (st) (h) := e_goto dL_addHoliday_10 (by decide)
theorem iL_addHoliday_13 {v0 : Value} {v1 : Value} {v2 : Value} {v3 : Value} {v4 : Value} {x : Nat} {Ls st : List Value} {h : AH} (hc9 : v3.category = 1) : ev L xs mdL_addHoliday 13 (v0 :: v1 :: v2 :: v3 :: v4 :: Ls) (.ref x :: st) h = ev L xs mdL_addHoliday 15 (v0 :: v1 :: v2 :: v3 :: .ref x :: Ls) (st) (h) := e_astore dL_addHoliday_13 rfl (by decide) (by unfold catOK; show (_ || (v3.category == 1)) = true; rw [hc9]; rfl)
theorem iL_addHoliday_15  {Ls st : List Value} {h : AH} : ev L xs mdL_addHoliday 15 (Ls) (st) h = ev L xs mdL_addHoliday 16 (Ls) (.int (nI 1) :: st) (h) := e_iconst dL_addHoliday_15 (by decide)
theorem iL_addHoliday_16 {v : Int32} {Ls : List Value} {h : AH} : ev L xs mdL_addHoliday 16 Ls [.int v] h = some (.inl (some (.int v), h)) := e_iret dL_addHoliday_16 rfl
theorem iL_addHoliday_17 {v0 : Value} {v1 : Value} {v2 : Value} {v3 : Value} {v4 : Value} {x : Nat} {Ls st : List Value} {h : AH} (hc9 : v3.category = 1) : ev L xs mdL_addHoliday 17 (v0 :: v1 :: v2 :: v3 :: v4 :: Ls) (.ref x :: st) h = ev L xs mdL_addHoliday 19 (v0 :: v1 :: v2 :: v3 :: .ref x :: Ls) (st) (h) := e_astore dL_addHoliday_17 rfl (by decide) (by unfold catOK; show (_ || (v3.category == 1)) = true; rw [hc9]; rfl)
theorem iL_addHoliday_19  {Ls st : List Value} {h : AH} : ev L xs mdL_addHoliday 19 (Ls) (st) h = ev L xs mdL_addHoliday 20 (Ls) (.int (nI 2) :: st) (h) := e_iconst dL_addHoliday_19 (by decide)
theorem iL_addHoliday_20 {v : Int32} {Ls : List Value} {h : AH} : ev L xs mdL_addHoliday 20 Ls [.int v] h = some (.inl (some (.int v), h)) := e_iret dL_addHoliday_20 rfl
theorem iL_addHoliday_21  {Ls st : List Value} {h : AH} : ev L xs mdL_addHoliday 21 (Ls) (st) h = ev L xs mdL_addHoliday 22 (Ls) (.int (nI 0) :: st) (h) := e_iconst dL_addHoliday_21 (by decide)
theorem iL_addHoliday_22 {v : Int32} {Ls : List Value} {h : AH} : ev L xs mdL_addHoliday 22 Ls [.int v] h = some (.inl (some (.int v), h)) := e_iret dL_addHoliday_22 rfl
theorem dL_addPost_0 : decode cL_addPost 0 = .ok (.aload_n 3, 1) := by decide +kernel
theorem dL_addPost_1 : decode cL_addPost 1 = .ok (.iconst 0, 1) := by decide +kernel
theorem dL_addPost_2 : decode cL_addPost 2 = .ok (.aload_n 0, 1) := by decide +kernel
theorem dL_addPost_3 : decode cL_addPost 3 = .ok (.iload_n 1, 1) := by decide +kernel
theorem dL_addPost_4 : decode cL_addPost 4 = .ok (.iload_n 2, 1) := by decide +kernel
theorem dL_addPost_5 : decode cL_addPost 5 = .ok (.invokevirtual 17, 3) := by decide +kernel
theorem dL_addPost_8 : decode cL_addPost 8 = .ok (.i2l, 1) := by decide +kernel
theorem dL_addPost_9 : decode cL_addPost 9 = .ok (.lastore, 1) := by decide +kernel
theorem dL_addPost_10 : decode cL_addPost 10 = .ok (.goto 11, 3) := by decide +kernel
theorem dL_addPost_13 : decode cL_addPost 13 = .ok (.astore 4, 2) := by decide +kernel
theorem dL_addPost_15 : decode cL_addPost 15 = .ok (.iconst 1, 1) := by decide +kernel
theorem dL_addPost_16 : decode cL_addPost 16 = .ok (.ireturn, 1) := by decide +kernel
theorem dL_addPost_17 : decode cL_addPost 17 = .ok (.astore 4, 2) := by decide +kernel
theorem dL_addPost_19 : decode cL_addPost 19 = .ok (.iconst 2, 1) := by decide +kernel
theorem dL_addPost_20 : decode cL_addPost 20 = .ok (.ireturn, 1) := by decide +kernel
theorem dL_addPost_21 : decode cL_addPost 21 = .ok (.iconst 0, 1) := by decide +kernel
theorem dL_addPost_22 : decode cL_addPost 22 = .ok (.ireturn, 1) := by decide +kernel
theorem iL_addPost_0 {v0 : Value} {v1 : Value} {v2 : Value} {x : Nat} {Ls st : List Value} {h : AH} : ev L xs mdL_addPost 0 (v0 :: v1 :: v2 :: .ref x :: Ls) (st) h = ev L xs mdL_addPost 1 (v0 :: v1 :: v2 :: .ref x :: Ls) (.ref x :: st) (h) := e_aload_n dL_addPost_0 rfl
theorem iL_addPost_1  {Ls st : List Value} {h : AH} : ev L xs mdL_addPost 1 (Ls) (st) h = ev L xs mdL_addPost 2 (Ls) (.int (nI 0) :: st) (h) := e_iconst dL_addPost_1 (by decide)
theorem iL_addPost_2 {x : Nat} {Ls st : List Value} {h : AH} : ev L xs mdL_addPost 2 (.ref x :: Ls) (st) h = ev L xs mdL_addPost 3 (.ref x :: Ls) (.ref x :: st) (h) := e_aload_n dL_addPost_2 rfl
theorem iL_addPost_3 {v0 : Value} {x : Int32} {Ls st : List Value} {h : AH} : ev L xs mdL_addPost 3 (v0 :: .int x :: Ls) (st) h = ev L xs mdL_addPost 4 (v0 :: .int x :: Ls) (.int x :: st) (h) := e_iload_n dL_addPost_3 rfl
theorem iL_addPost_4 {v0 : Value} {v1 : Value} {x : Int32} {Ls st : List Value} {h : AH} : ev L xs mdL_addPost 4 (v0 :: v1 :: .int x :: Ls) (st) h = ev L xs mdL_addPost 5 (v0 :: v1 :: .int x :: Ls) (.int x :: st) (h) := e_iload_n dL_addPost_4 rfl
theorem iL_addPost_5 {a : Nat} {p0 : Int32} {p1 : Int32} {Ls st : List Value} {h : AH} (hk : hK h a = 6) (hw : wds st ≤ 8) : ev L xs mdL_addPost 5 Ls (.int p1 :: .int p0 :: .ref a :: st) h = kn L xs mdL_addPost 5 8 Ls st (ev L xs mdX6_addPost 0 [.ref a, .int p0, .int p1] [] h) := e_callV (as := [.int p1, .int p0]) dL_addPost_5 mr_8_17 (by decide) (by decide) rfl (by simp [wds, Value.category]; decide) rfl (by decide) hk hw
theorem iL_addPost_8 {x : Int32} {Ls st : List Value} {h : AH} : ev L xs mdL_addPost 8 (Ls) (.int x :: st) h = ev L xs mdL_addPost 9 (Ls) (.long x.toInt64 :: st) (h) := e_i2l dL_addPost_8
theorem iL_addPost_9 {a : Nat} {j : Int32} {v : Int64} {Ls st : List Value} {h : AH} (hk : hK h a = 12) (hi : inA j (hN h a) = true) : ev L xs mdL_addPost 9 (Ls) (.long v :: .int j :: .ref a :: st) h = ev L xs mdL_addPost 10 (Ls) (st) (sL h a j.toNatClampNeg v) := e_last dL_addPost_9 hk hi
theorem iL_addPost_10  {Ls st : List Value} {h : AH} : ev L xs mdL_addPost 10 (Ls) (st) h = ev L xs mdL_addPost 21 (Ls) (st) (h) := e_goto dL_addPost_10 (by decide)
theorem iL_addPost_13 {v0 : Value} {v1 : Value} {v2 : Value} {v3 : Value} {v4 : Value} {x : Nat} {Ls st : List Value} {h : AH} (hc9 : v3.category = 1) : ev L xs mdL_addPost 13 (v0 :: v1 :: v2 :: v3 :: v4 :: Ls) (.ref x :: st) h = ev L xs mdL_addPost 15 (v0 :: v1 :: v2 :: v3 :: .ref x :: Ls) (st) (h) := e_astore dL_addPost_13 rfl (by decide) (by unfold catOK; show (_ || (v3.category == 1)) = true; rw [hc9]; rfl)
theorem iL_addPost_15  {Ls st : List Value} {h : AH} : ev L xs mdL_addPost 15 (Ls) (st) h = ev L xs mdL_addPost 16 (Ls) (.int (nI 1) :: st) (h) := e_iconst dL_addPost_15 (by decide)
theorem iL_addPost_16 {v : Int32} {Ls : List Value} {h : AH} : ev L xs mdL_addPost 16 Ls [.int v] h = some (.inl (some (.int v), h)) := e_iret dL_addPost_16 rfl
theorem iL_addPost_17 {v0 : Value} {v1 : Value} {v2 : Value} {v3 : Value} {v4 : Value} {x : Nat} {Ls st : List Value} {h : AH} (hc9 : v3.category = 1) : ev L xs mdL_addPost 17 (v0 :: v1 :: v2 :: v3 :: v4 :: Ls) (.ref x :: st) h = ev L xs mdL_addPost 19 (v0 :: v1 :: v2 :: v3 :: .ref x :: Ls) (st) (h) := e_astore dL_addPost_17 rfl (by decide) (by unfold catOK; show (_ || (v3.category == 1)) = true; rw [hc9]; rfl)
theorem iL_addPost_19  {Ls st : List Value} {h : AH} : ev L xs mdL_addPost 19 (Ls) (st) h = ev L xs mdL_addPost 20 (Ls) (.int (nI 2) :: st) (h) := e_iconst dL_addPost_19 (by decide)
theorem iL_addPost_20 {v : Int32} {Ls : List Value} {h : AH} : ev L xs mdL_addPost 20 Ls [.int v] h = some (.inl (some (.int v), h)) := e_iret dL_addPost_20 rfl
theorem iL_addPost_21  {Ls st : List Value} {h : AH} : ev L xs mdL_addPost 21 (Ls) (st) h = ev L xs mdL_addPost 22 (Ls) (.int (nI 0) :: st) (h) := e_iconst dL_addPost_21 (by decide)
theorem iL_addPost_22 {v : Int32} {Ls : List Value} {h : AH} : ev L xs mdL_addPost 22 Ls [.int v] h = some (.inl (some (.int v), h)) := e_iret dL_addPost_22 rfl
theorem dL_append_0 : decode cL_append 0 = .ok (.aload_n 2, 1) := by decide +kernel
theorem dL_append_1 : decode cL_append 1 = .ok (.iconst 0, 1) := by decide +kernel
theorem dL_append_2 : decode cL_append 2 = .ok (.aload_n 0, 1) := by decide +kernel
theorem dL_append_3 : decode cL_append 3 = .ok (.iload_n 1, 1) := by decide +kernel
theorem dL_append_4 : decode cL_append 4 = .ok (.invokevirtual 77, 3) := by decide +kernel
theorem dL_append_7 : decode cL_append 7 = .ok (.i2l, 1) := by decide +kernel
theorem dL_append_8 : decode cL_append 8 = .ok (.lastore, 1) := by decide +kernel
theorem dL_append_9 : decode cL_append 9 = .ok (.goto 9, 3) := by decide +kernel
theorem dL_append_12 : decode cL_append 12 = .ok (.astore_n 3, 1) := by decide +kernel
theorem dL_append_13 : decode cL_append 13 = .ok (.iconst 1, 1) := by decide +kernel
theorem dL_append_14 : decode cL_append 14 = .ok (.ireturn, 1) := by decide +kernel
theorem dL_append_15 : decode cL_append 15 = .ok (.astore_n 3, 1) := by decide +kernel
theorem dL_append_16 : decode cL_append 16 = .ok (.iconst 2, 1) := by decide +kernel
theorem dL_append_17 : decode cL_append 17 = .ok (.ireturn, 1) := by decide +kernel
theorem dL_append_18 : decode cL_append 18 = .ok (.iconst 0, 1) := by decide +kernel
theorem dL_append_19 : decode cL_append 19 = .ok (.ireturn, 1) := by decide +kernel
theorem iL_append_0 {v0 : Value} {v1 : Value} {x : Nat} {Ls st : List Value} {h : AH} : ev L xs mdL_append 0 (v0 :: v1 :: .ref x :: Ls) (st) h = ev L xs mdL_append 1 (v0 :: v1 :: .ref x :: Ls) (.ref x :: st) (h) := e_aload_n dL_append_0 rfl
theorem iL_append_1  {Ls st : List Value} {h : AH} : ev L xs mdL_append 1 (Ls) (st) h = ev L xs mdL_append 2 (Ls) (.int (nI 0) :: st) (h) := e_iconst dL_append_1 (by decide)
theorem iL_append_2 {x : Nat} {Ls st : List Value} {h : AH} : ev L xs mdL_append 2 (.ref x :: Ls) (st) h = ev L xs mdL_append 3 (.ref x :: Ls) (.ref x :: st) (h) := e_aload_n dL_append_2 rfl
theorem iL_append_3 {v0 : Value} {x : Int32} {Ls st : List Value} {h : AH} : ev L xs mdL_append 3 (v0 :: .int x :: Ls) (st) h = ev L xs mdL_append 4 (v0 :: .int x :: Ls) (.int x :: st) (h) := e_iload_n dL_append_3 rfl
theorem iL_append_4 {a : Nat} {p0 : Int32} {Ls st : List Value} {h : AH} (hk : hK h a = 6) (hw : wds st ≤ 8) : ev L xs mdL_append 4 Ls (.int p0 :: .ref a :: st) h = kn L xs mdL_append 4 7 Ls st (ev L xs mdX6_append 0 [.ref a, .int p0] [] h) := e_callV (as := [.int p0]) dL_append_4 mr_8_77 (by decide) (by decide) rfl (by simp [wds, Value.category]; decide) rfl (by decide) hk hw
theorem iL_append_7 {x : Int32} {Ls st : List Value} {h : AH} : ev L xs mdL_append 7 (Ls) (.int x :: st) h = ev L xs mdL_append 8 (Ls) (.long x.toInt64 :: st) (h) := e_i2l dL_append_7
theorem iL_append_8 {a : Nat} {j : Int32} {v : Int64} {Ls st : List Value} {h : AH} (hk : hK h a = 12) (hi : inA j (hN h a) = true) : ev L xs mdL_append 8 (Ls) (.long v :: .int j :: .ref a :: st) h = ev L xs mdL_append 9 (Ls) (st) (sL h a j.toNatClampNeg v) := e_last dL_append_8 hk hi
theorem iL_append_9  {Ls st : List Value} {h : AH} : ev L xs mdL_append 9 (Ls) (st) h = ev L xs mdL_append 18 (Ls) (st) (h) := e_goto dL_append_9 (by decide)
theorem iL_append_12 {v0 : Value} {v1 : Value} {v2 : Value} {v3 : Value} {x : Nat} {Ls st : List Value} {h : AH} (hc9 : v2.category = 1) : ev L xs mdL_append 12 (v0 :: v1 :: v2 :: v3 :: Ls) (.ref x :: st) h = ev L xs mdL_append 13 (v0 :: v1 :: v2 :: .ref x :: Ls) (st) (h) := e_astore_n dL_append_12 rfl (by decide) (by unfold catOK; show (_ || (v2.category == 1)) = true; rw [hc9]; rfl)
theorem iL_append_13  {Ls st : List Value} {h : AH} : ev L xs mdL_append 13 (Ls) (st) h = ev L xs mdL_append 14 (Ls) (.int (nI 1) :: st) (h) := e_iconst dL_append_13 (by decide)
theorem iL_append_14 {v : Int32} {Ls : List Value} {h : AH} : ev L xs mdL_append 14 Ls [.int v] h = some (.inl (some (.int v), h)) := e_iret dL_append_14 rfl
theorem iL_append_15 {v0 : Value} {v1 : Value} {v2 : Value} {v3 : Value} {x : Nat} {Ls st : List Value} {h : AH} (hc9 : v2.category = 1) : ev L xs mdL_append 15 (v0 :: v1 :: v2 :: v3 :: Ls) (.ref x :: st) h = ev L xs mdL_append 16 (v0 :: v1 :: v2 :: .ref x :: Ls) (st) (h) := e_astore_n dL_append_15 rfl (by decide) (by unfold catOK; show (_ || (v2.category == 1)) = true; rw [hc9]; rfl)
theorem iL_append_16  {Ls st : List Value} {h : AH} : ev L xs mdL_append 16 (Ls) (st) h = ev L xs mdL_append 17 (Ls) (.int (nI 2) :: st) (h) := e_iconst dL_append_16 (by decide)
theorem iL_append_17 {v : Int32} {Ls : List Value} {h : AH} : ev L xs mdL_append 17 Ls [.int v] h = some (.inl (some (.int v), h)) := e_iret dL_append_17 rfl
theorem iL_append_18  {Ls st : List Value} {h : AH} : ev L xs mdL_append 18 (Ls) (st) h = ev L xs mdL_append 19 (Ls) (.int (nI 0) :: st) (h) := e_iconst dL_append_18 (by decide)
theorem iL_append_19 {v : Int32} {Ls : List Value} {h : AH} : ev L xs mdL_append 19 Ls [.int v] h = some (.inl (some (.int v), h)) := e_iret dL_append_19 rfl
theorem dL_best_0 : decode cL_best 0 = .ok (.aload 4, 2) := by decide +kernel
theorem dL_best_2 : decode cL_best 2 = .ok (.iconst 0, 1) := by decide +kernel
theorem dL_best_3 : decode cL_best 3 = .ok (.aload_n 0, 1) := by decide +kernel
theorem dL_best_4 : decode cL_best 4 = .ok (.iload_n 1, 1) := by decide +kernel
theorem dL_best_5 : decode cL_best 5 = .ok (.iload_n 2, 1) := by decide +kernel
theorem dL_best_6 : decode cL_best 6 = .ok (.iload_n 3, 1) := by decide +kernel
theorem dL_best_7 : decode cL_best 7 = .ok (.invokevirtual 68, 3) := by decide +kernel
theorem dL_best_10 : decode cL_best 10 = .ok (.i2l, 1) := by decide +kernel
theorem dL_best_11 : decode cL_best 11 = .ok (.lastore, 1) := by decide +kernel
theorem dL_best_12 : decode cL_best 12 = .ok (.goto 7, 3) := by decide +kernel
theorem dL_best_15 : decode cL_best 15 = .ok (.astore 5, 2) := by decide +kernel
theorem dL_best_17 : decode cL_best 17 = .ok (.iconst 1, 1) := by decide +kernel
theorem dL_best_18 : decode cL_best 18 = .ok (.ireturn, 1) := by decide +kernel
theorem dL_best_19 : decode cL_best 19 = .ok (.iconst 0, 1) := by decide +kernel
theorem dL_best_20 : decode cL_best 20 = .ok (.ireturn, 1) := by decide +kernel
theorem iL_best_0 {v0 : Value} {v1 : Value} {v2 : Value} {v3 : Value} {x : Nat} {Ls st : List Value} {h : AH} : ev L xs mdL_best 0 (v0 :: v1 :: v2 :: v3 :: .ref x :: Ls) (st) h = ev L xs mdL_best 2 (v0 :: v1 :: v2 :: v3 :: .ref x :: Ls) (.ref x :: st) (h) := e_aload dL_best_0 rfl
theorem iL_best_2  {Ls st : List Value} {h : AH} : ev L xs mdL_best 2 (Ls) (st) h = ev L xs mdL_best 3 (Ls) (.int (nI 0) :: st) (h) := e_iconst dL_best_2 (by decide)
theorem iL_best_3 {x : Nat} {Ls st : List Value} {h : AH} : ev L xs mdL_best 3 (.ref x :: Ls) (st) h = ev L xs mdL_best 4 (.ref x :: Ls) (.ref x :: st) (h) := e_aload_n dL_best_3 rfl
theorem iL_best_4 {v0 : Value} {x : Int32} {Ls st : List Value} {h : AH} : ev L xs mdL_best 4 (v0 :: .int x :: Ls) (st) h = ev L xs mdL_best 5 (v0 :: .int x :: Ls) (.int x :: st) (h) := e_iload_n dL_best_4 rfl
theorem iL_best_5 {v0 : Value} {v1 : Value} {x : Int32} {Ls st : List Value} {h : AH} : ev L xs mdL_best 5 (v0 :: v1 :: .int x :: Ls) (st) h = ev L xs mdL_best 6 (v0 :: v1 :: .int x :: Ls) (.int x :: st) (h) := e_iload_n dL_best_5 rfl
theorem iL_best_6 {v0 : Value} {v1 : Value} {v2 : Value} {x : Int32} {Ls st : List Value} {h : AH} : ev L xs mdL_best 6 (v0 :: v1 :: v2 :: .int x :: Ls) (st) h = ev L xs mdL_best 7 (v0 :: v1 :: v2 :: .int x :: Ls) (.int x :: st) (h) := e_iload_n dL_best_6 rfl
theorem iL_best_7 {a : Nat} {p0 : Int32} {p1 : Int32} {p2 : Int32} {Ls st : List Value} {h : AH} (hk : hK h a = 6) (hw : wds st ≤ 8) : ev L xs mdL_best 7 Ls (.int p2 :: .int p1 :: .int p0 :: .ref a :: st) h = kn L xs mdL_best 7 10 Ls st (ev L xs mdX6_best 0 [.ref a, .int p0, .int p1, .int p2] [] h) := e_callV (as := [.int p2, .int p1, .int p0]) dL_best_7 mr_8_68 (by decide) (by decide) rfl (by simp [wds, Value.category]; decide) rfl (by decide) hk hw
theorem iL_best_10 {x : Int32} {Ls st : List Value} {h : AH} : ev L xs mdL_best 10 (Ls) (.int x :: st) h = ev L xs mdL_best 11 (Ls) (.long x.toInt64 :: st) (h) := e_i2l dL_best_10
theorem iL_best_11 {a : Nat} {j : Int32} {v : Int64} {Ls st : List Value} {h : AH} (hk : hK h a = 12) (hi : inA j (hN h a) = true) : ev L xs mdL_best 11 (Ls) (.long v :: .int j :: .ref a :: st) h = ev L xs mdL_best 12 (Ls) (st) (sL h a j.toNatClampNeg v) := e_last dL_best_11 hk hi
theorem iL_best_12  {Ls st : List Value} {h : AH} : ev L xs mdL_best 12 (Ls) (st) h = ev L xs mdL_best 19 (Ls) (st) (h) := e_goto dL_best_12 (by decide)
theorem iL_best_15 {v0 : Value} {v1 : Value} {v2 : Value} {v3 : Value} {v4 : Value} {v5 : Value} {x : Nat} {Ls st : List Value} {h : AH} (hc9 : v4.category = 1) : ev L xs mdL_best 15 (v0 :: v1 :: v2 :: v3 :: v4 :: v5 :: Ls) (.ref x :: st) h = ev L xs mdL_best 17 (v0 :: v1 :: v2 :: v3 :: v4 :: .ref x :: Ls) (st) (h) := e_astore dL_best_15 rfl (by decide) (by unfold catOK; show (_ || (v4.category == 1)) = true; rw [hc9]; rfl)
theorem iL_best_17  {Ls st : List Value} {h : AH} : ev L xs mdL_best 17 (Ls) (st) h = ev L xs mdL_best 18 (Ls) (.int (nI 1) :: st) (h) := e_iconst dL_best_17 (by decide)
theorem iL_best_18 {v : Int32} {Ls : List Value} {h : AH} : ev L xs mdL_best 18 Ls [.int v] h = some (.inl (some (.int v), h)) := e_iret dL_best_18 rfl
theorem iL_best_19  {Ls st : List Value} {h : AH} : ev L xs mdL_best 19 (Ls) (st) h = ev L xs mdL_best 20 (Ls) (.int (nI 0) :: st) (h) := e_iconst dL_best_19 (by decide)
theorem iL_best_20 {v : Int32} {Ls : List Value} {h : AH} : ev L xs mdL_best 20 Ls [.int v] h = some (.inl (some (.int v), h)) := e_iret dL_best_20 rfl
theorem dL_bestHome_0 : decode cL_bestHome 0 = .ok (.aload_n 2, 1) := by decide +kernel
theorem dL_bestHome_1 : decode cL_bestHome 1 = .ok (.iconst 0, 1) := by decide +kernel
theorem dL_bestHome_2 : decode cL_bestHome 2 = .ok (.aload_n 0, 1) := by decide +kernel
theorem dL_bestHome_3 : decode cL_bestHome 3 = .ok (.iload_n 1, 1) := by decide +kernel
theorem dL_bestHome_4 : decode cL_bestHome 4 = .ok (.invokevirtual 74, 3) := by decide +kernel
theorem dL_bestHome_7 : decode cL_bestHome 7 = .ok (.i2l, 1) := by decide +kernel
theorem dL_bestHome_8 : decode cL_bestHome 8 = .ok (.lastore, 1) := by decide +kernel
theorem dL_bestHome_9 : decode cL_bestHome 9 = .ok (.goto 9, 3) := by decide +kernel
theorem dL_bestHome_12 : decode cL_bestHome 12 = .ok (.astore_n 3, 1) := by decide +kernel
theorem dL_bestHome_13 : decode cL_bestHome 13 = .ok (.iconst 1, 1) := by decide +kernel
theorem dL_bestHome_14 : decode cL_bestHome 14 = .ok (.ireturn, 1) := by decide +kernel
theorem dL_bestHome_15 : decode cL_bestHome 15 = .ok (.astore_n 3, 1) := by decide +kernel
theorem dL_bestHome_16 : decode cL_bestHome 16 = .ok (.iconst 2, 1) := by decide +kernel
theorem dL_bestHome_17 : decode cL_bestHome 17 = .ok (.ireturn, 1) := by decide +kernel
theorem dL_bestHome_18 : decode cL_bestHome 18 = .ok (.iconst 0, 1) := by decide +kernel
theorem dL_bestHome_19 : decode cL_bestHome 19 = .ok (.ireturn, 1) := by decide +kernel
theorem iL_bestHome_0 {v0 : Value} {v1 : Value} {x : Nat} {Ls st : List Value} {h : AH} : ev L xs mdL_bestHome 0 (v0 :: v1 :: .ref x :: Ls) (st) h = ev L xs mdL_bestHome 1 (v0 :: v1 :: .ref x :: Ls) (.ref x :: st) (h) := e_aload_n dL_bestHome_0 rfl
theorem iL_bestHome_1  {Ls st : List Value} {h : AH} : ev L xs mdL_bestHome 1 (Ls) (st) h = ev L xs mdL_bestHome 2 (Ls) (.int (nI 0) :: st) (h) := e_iconst dL_bestHome_1 (by decide)
theorem iL_bestHome_2 {x : Nat} {Ls st : List Value} {h : AH} : ev L xs mdL_bestHome 2 (.ref x :: Ls) (st) h = ev L xs mdL_bestHome 3 (.ref x :: Ls) (.ref x :: st) (h) := e_aload_n dL_bestHome_2 rfl
theorem iL_bestHome_3 {v0 : Value} {x : Int32} {Ls st : List Value} {h : AH} : ev L xs mdL_bestHome 3 (v0 :: .int x :: Ls) (st) h = ev L xs mdL_bestHome 4 (v0 :: .int x :: Ls) (.int x :: st) (h) := e_iload_n dL_bestHome_3 rfl
theorem iL_bestHome_4 {a : Nat} {p0 : Int32} {Ls st : List Value} {h : AH} (hk : hK h a = 6) (hw : wds st ≤ 8) : ev L xs mdL_bestHome 4 Ls (.int p0 :: .ref a :: st) h = kn L xs mdL_bestHome 4 7 Ls st (ev L xs mdX6_bestHome 0 [.ref a, .int p0, .null, .null, .null, .null, .null] [] h) := e_callV (as := [.int p0]) dL_bestHome_4 mr_8_74 (by decide) (by decide) rfl (by simp [wds, Value.category]; decide) rfl (by decide) hk hw
theorem iL_bestHome_7 {x : Int32} {Ls st : List Value} {h : AH} : ev L xs mdL_bestHome 7 (Ls) (.int x :: st) h = ev L xs mdL_bestHome 8 (Ls) (.long x.toInt64 :: st) (h) := e_i2l dL_bestHome_7
theorem iL_bestHome_8 {a : Nat} {j : Int32} {v : Int64} {Ls st : List Value} {h : AH} (hk : hK h a = 12) (hi : inA j (hN h a) = true) : ev L xs mdL_bestHome 8 (Ls) (.long v :: .int j :: .ref a :: st) h = ev L xs mdL_bestHome 9 (Ls) (st) (sL h a j.toNatClampNeg v) := e_last dL_bestHome_8 hk hi
theorem iL_bestHome_9  {Ls st : List Value} {h : AH} : ev L xs mdL_bestHome 9 (Ls) (st) h = ev L xs mdL_bestHome 18 (Ls) (st) (h) := e_goto dL_bestHome_9 (by decide)
theorem iL_bestHome_12 {v0 : Value} {v1 : Value} {v2 : Value} {v3 : Value} {x : Nat} {Ls st : List Value} {h : AH} (hc9 : v2.category = 1) : ev L xs mdL_bestHome 12 (v0 :: v1 :: v2 :: v3 :: Ls) (.ref x :: st) h = ev L xs mdL_bestHome 13 (v0 :: v1 :: v2 :: .ref x :: Ls) (st) (h) := e_astore_n dL_bestHome_12 rfl (by decide) (by unfold catOK; show (_ || (v2.category == 1)) = true; rw [hc9]; rfl)
theorem iL_bestHome_13  {Ls st : List Value} {h : AH} : ev L xs mdL_bestHome 13 (Ls) (st) h = ev L xs mdL_bestHome 14 (Ls) (.int (nI 1) :: st) (h) := e_iconst dL_bestHome_13 (by decide)
theorem iL_bestHome_14 {v : Int32} {Ls : List Value} {h : AH} : ev L xs mdL_bestHome 14 Ls [.int v] h = some (.inl (some (.int v), h)) := e_iret dL_bestHome_14 rfl
theorem iL_bestHome_15 {v0 : Value} {v1 : Value} {v2 : Value} {v3 : Value} {x : Nat} {Ls st : List Value} {h : AH} (hc9 : v2.category = 1) : ev L xs mdL_bestHome 15 (v0 :: v1 :: v2 :: v3 :: Ls) (.ref x :: st) h = ev L xs mdL_bestHome 16 (v0 :: v1 :: v2 :: .ref x :: Ls) (st) (h) := e_astore_n dL_bestHome_15 rfl (by decide) (by unfold catOK; show (_ || (v2.category == 1)) = true; rw [hc9]; rfl)
theorem iL_bestHome_16  {Ls st : List Value} {h : AH} : ev L xs mdL_bestHome 16 (Ls) (st) h = ev L xs mdL_bestHome 17 (Ls) (.int (nI 2) :: st) (h) := e_iconst dL_bestHome_16 (by decide)
theorem iL_bestHome_17 {v : Int32} {Ls : List Value} {h : AH} : ev L xs mdL_bestHome 17 Ls [.int v] h = some (.inl (some (.int v), h)) := e_iret dL_bestHome_17 rfl
theorem iL_bestHome_18  {Ls st : List Value} {h : AH} : ev L xs mdL_bestHome 18 (Ls) (st) h = ev L xs mdL_bestHome 19 (Ls) (.int (nI 0) :: st) (h) := e_iconst dL_bestHome_18 (by decide)
theorem iL_bestHome_19 {v : Int32} {Ls : List Value} {h : AH} : ev L xs mdL_bestHome 19 Ls [.int v] h = some (.inl (some (.int v), h)) := e_iret dL_bestHome_19 rfl
theorem dL_complain_0 : decode cL_complain 0 = .ok (.aload_n 2, 1) := by decide +kernel
theorem dL_complain_1 : decode cL_complain 1 = .ok (.iconst 0, 1) := by decide +kernel
theorem dL_complain_2 : decode cL_complain 2 = .ok (.aload_n 0, 1) := by decide +kernel
theorem dL_complain_3 : decode cL_complain 3 = .ok (.iload_n 1, 1) := by decide +kernel
theorem dL_complain_4 : decode cL_complain 4 = .ok (.invokevirtual 35, 3) := by decide +kernel
theorem dL_complain_7 : decode cL_complain 7 = .ok (.i2l, 1) := by decide +kernel
theorem dL_complain_8 : decode cL_complain 8 = .ok (.lastore, 1) := by decide +kernel
theorem dL_complain_9 : decode cL_complain 9 = .ok (.goto 9, 3) := by decide +kernel
theorem dL_complain_12 : decode cL_complain 12 = .ok (.astore_n 3, 1) := by decide +kernel
theorem dL_complain_13 : decode cL_complain 13 = .ok (.iconst 1, 1) := by decide +kernel
theorem dL_complain_14 : decode cL_complain 14 = .ok (.ireturn, 1) := by decide +kernel
theorem dL_complain_15 : decode cL_complain 15 = .ok (.astore_n 3, 1) := by decide +kernel
theorem dL_complain_16 : decode cL_complain 16 = .ok (.iconst 2, 1) := by decide +kernel
theorem dL_complain_17 : decode cL_complain 17 = .ok (.ireturn, 1) := by decide +kernel
theorem dL_complain_18 : decode cL_complain 18 = .ok (.iconst 0, 1) := by decide +kernel
theorem dL_complain_19 : decode cL_complain 19 = .ok (.ireturn, 1) := by decide +kernel
theorem iL_complain_0 {v0 : Value} {v1 : Value} {x : Nat} {Ls st : List Value} {h : AH} : ev L xs mdL_complain 0 (v0 :: v1 :: .ref x :: Ls) (st) h = ev L xs mdL_complain 1 (v0 :: v1 :: .ref x :: Ls) (.ref x :: st) (h) := e_aload_n dL_complain_0 rfl
theorem iL_complain_1  {Ls st : List Value} {h : AH} : ev L xs mdL_complain 1 (Ls) (st) h = ev L xs mdL_complain 2 (Ls) (.int (nI 0) :: st) (h) := e_iconst dL_complain_1 (by decide)
theorem iL_complain_2 {x : Nat} {Ls st : List Value} {h : AH} : ev L xs mdL_complain 2 (.ref x :: Ls) (st) h = ev L xs mdL_complain 3 (.ref x :: Ls) (.ref x :: st) (h) := e_aload_n dL_complain_2 rfl
theorem iL_complain_3 {v0 : Value} {x : Int32} {Ls st : List Value} {h : AH} : ev L xs mdL_complain 3 (v0 :: .int x :: Ls) (st) h = ev L xs mdL_complain 4 (v0 :: .int x :: Ls) (.int x :: st) (h) := e_iload_n dL_complain_3 rfl
theorem iL_complain_4 {a : Nat} {p0 : Int32} {Ls st : List Value} {h : AH} (hk : hK h a = 6) (hw : wds st ≤ 8) : ev L xs mdL_complain 4 Ls (.int p0 :: .ref a :: st) h = kn L xs mdL_complain 4 7 Ls st (ev L xs mdX6_complain 0 [.ref a, .int p0] [] h) := e_callV (as := [.int p0]) dL_complain_4 mr_8_35 (by decide) (by decide) rfl (by simp [wds, Value.category]; decide) rfl (by decide) hk hw
theorem iL_complain_7 {x : Int32} {Ls st : List Value} {h : AH} : ev L xs mdL_complain 7 (Ls) (.int x :: st) h = ev L xs mdL_complain 8 (Ls) (.long x.toInt64 :: st) (h) := e_i2l dL_complain_7
theorem iL_complain_8 {a : Nat} {j : Int32} {v : Int64} {Ls st : List Value} {h : AH} (hk : hK h a = 12) (hi : inA j (hN h a) = true) : ev L xs mdL_complain 8 (Ls) (.long v :: .int j :: .ref a :: st) h = ev L xs mdL_complain 9 (Ls) (st) (sL h a j.toNatClampNeg v) := e_last dL_complain_8 hk hi
theorem iL_complain_9  {Ls st : List Value} {h : AH} : ev L xs mdL_complain 9 (Ls) (st) h = ev L xs mdL_complain 18 (Ls) (st) (h) := e_goto dL_complain_9 (by decide)
theorem iL_complain_12 {v0 : Value} {v1 : Value} {v2 : Value} {v3 : Value} {x : Nat} {Ls st : List Value} {h : AH} (hc9 : v2.category = 1) : ev L xs mdL_complain 12 (v0 :: v1 :: v2 :: v3 :: Ls) (.ref x :: st) h = ev L xs mdL_complain 13 (v0 :: v1 :: v2 :: .ref x :: Ls) (st) (h) := e_astore_n dL_complain_12 rfl (by decide) (by unfold catOK; show (_ || (v2.category == 1)) = true; rw [hc9]; rfl)
theorem iL_complain_13  {Ls st : List Value} {h : AH} : ev L xs mdL_complain 13 (Ls) (st) h = ev L xs mdL_complain 14 (Ls) (.int (nI 1) :: st) (h) := e_iconst dL_complain_13 (by decide)
theorem iL_complain_14 {v : Int32} {Ls : List Value} {h : AH} : ev L xs mdL_complain 14 Ls [.int v] h = some (.inl (some (.int v), h)) := e_iret dL_complain_14 rfl
theorem iL_complain_15 {v0 : Value} {v1 : Value} {v2 : Value} {v3 : Value} {x : Nat} {Ls st : List Value} {h : AH} (hc9 : v2.category = 1) : ev L xs mdL_complain 15 (v0 :: v1 :: v2 :: v3 :: Ls) (.ref x :: st) h = ev L xs mdL_complain 16 (v0 :: v1 :: v2 :: .ref x :: Ls) (st) (h) := e_astore_n dL_complain_15 rfl (by decide) (by unfold catOK; show (_ || (v2.category == 1)) = true; rw [hc9]; rfl)
theorem iL_complain_16  {Ls st : List Value} {h : AH} : ev L xs mdL_complain 16 (Ls) (st) h = ev L xs mdL_complain 17 (Ls) (.int (nI 2) :: st) (h) := e_iconst dL_complain_16 (by decide)
theorem iL_complain_17 {v : Int32} {Ls : List Value} {h : AH} : ev L xs mdL_complain 17 Ls [.int v] h = some (.inl (some (.int v), h)) := e_iret dL_complain_17 rfl
theorem iL_complain_18  {Ls st : List Value} {h : AH} : ev L xs mdL_complain 18 (Ls) (st) h = ev L xs mdL_complain 19 (Ls) (.int (nI 0) :: st) (h) := e_iconst dL_complain_18 (by decide)
theorem iL_complain_19 {v : Int32} {Ls : List Value} {h : AH} : ev L xs mdL_complain 19 Ls [.int v] h = some (.inl (some (.int v), h)) := e_iret dL_complain_19 rfl
theorem dL_guard_0 : decode cL_guard 0 = .ok (.aload_n 3, 1) := by decide +kernel
theorem dL_guard_1 : decode cL_guard 1 = .ok (.iconst 0, 1) := by decide +kernel
theorem dL_guard_2 : decode cL_guard 2 = .ok (.aload_n 0, 1) := by decide +kernel
theorem dL_guard_3 : decode cL_guard 3 = .ok (.iload_n 1, 1) := by decide +kernel
theorem dL_guard_4 : decode cL_guard 4 = .ok (.iload_n 2, 1) := by decide +kernel
theorem dL_guard_5 : decode cL_guard 5 = .ok (.invokevirtual 49, 3) := by decide +kernel
theorem dL_guard_8 : decode cL_guard 8 = .ok (.i2l, 1) := by decide +kernel
theorem dL_guard_9 : decode cL_guard 9 = .ok (.lastore, 1) := by decide +kernel
theorem dL_guard_10 : decode cL_guard 10 = .ok (.goto 11, 3) := by decide +kernel
theorem dL_guard_13 : decode cL_guard 13 = .ok (.astore 4, 2) := by decide +kernel
theorem dL_guard_15 : decode cL_guard 15 = .ok (.iconst 1, 1) := by decide +kernel
theorem dL_guard_16 : decode cL_guard 16 = .ok (.ireturn, 1) := by decide +kernel
theorem dL_guard_17 : decode cL_guard 17 = .ok (.astore 4, 2) := by decide +kernel
theorem dL_guard_19 : decode cL_guard 19 = .ok (.iconst 2, 1) := by decide +kernel
theorem dL_guard_20 : decode cL_guard 20 = .ok (.ireturn, 1) := by decide +kernel
theorem dL_guard_21 : decode cL_guard 21 = .ok (.iconst 0, 1) := by decide +kernel
theorem dL_guard_22 : decode cL_guard 22 = .ok (.ireturn, 1) := by decide +kernel
theorem iL_guard_0 {v0 : Value} {v1 : Value} {v2 : Value} {x : Nat} {Ls st : List Value} {h : AH} : ev L xs mdL_guard 0 (v0 :: v1 :: v2 :: .ref x :: Ls) (st) h = ev L xs mdL_guard 1 (v0 :: v1 :: v2 :: .ref x :: Ls) (.ref x :: st) (h) := e_aload_n dL_guard_0 rfl
theorem iL_guard_1  {Ls st : List Value} {h : AH} : ev L xs mdL_guard 1 (Ls) (st) h = ev L xs mdL_guard 2 (Ls) (.int (nI 0) :: st) (h) := e_iconst dL_guard_1 (by decide)
theorem iL_guard_2 {x : Nat} {Ls st : List Value} {h : AH} : ev L xs mdL_guard 2 (.ref x :: Ls) (st) h = ev L xs mdL_guard 3 (.ref x :: Ls) (.ref x :: st) (h) := e_aload_n dL_guard_2 rfl
theorem iL_guard_3 {v0 : Value} {x : Int32} {Ls st : List Value} {h : AH} : ev L xs mdL_guard 3 (v0 :: .int x :: Ls) (st) h = ev L xs mdL_guard 4 (v0 :: .int x :: Ls) (.int x :: st) (h) := e_iload_n dL_guard_3 rfl
theorem iL_guard_4 {v0 : Value} {v1 : Value} {x : Int32} {Ls st : List Value} {h : AH} : ev L xs mdL_guard 4 (v0 :: v1 :: .int x :: Ls) (st) h = ev L xs mdL_guard 5 (v0 :: v1 :: .int x :: Ls) (.int x :: st) (h) := e_iload_n dL_guard_4 rfl
theorem iL_guard_5 {a : Nat} {p0 : Int32} {p1 : Int32} {Ls st : List Value} {h : AH} (hk : hK h a = 6) (hw : wds st ≤ 8) : ev L xs mdL_guard 5 Ls (.int p1 :: .int p0 :: .ref a :: st) h = kn L xs mdL_guard 5 8 Ls st (ev L xs mdX6_guard 0 [.ref a, .int p0, .int p1] [] h) := e_callV (as := [.int p1, .int p0]) dL_guard_5 mr_8_49 (by decide) (by decide) rfl (by simp [wds, Value.category]; decide) rfl (by decide) hk hw
theorem iL_guard_8 {x : Int32} {Ls st : List Value} {h : AH} : ev L xs mdL_guard 8 (Ls) (.int x :: st) h = ev L xs mdL_guard 9 (Ls) (.long x.toInt64 :: st) (h) := e_i2l dL_guard_8
theorem iL_guard_9 {a : Nat} {j : Int32} {v : Int64} {Ls st : List Value} {h : AH} (hk : hK h a = 12) (hi : inA j (hN h a) = true) : ev L xs mdL_guard 9 (Ls) (.long v :: .int j :: .ref a :: st) h = ev L xs mdL_guard 10 (Ls) (st) (sL h a j.toNatClampNeg v) := e_last dL_guard_9 hk hi
theorem iL_guard_10  {Ls st : List Value} {h : AH} : ev L xs mdL_guard 10 (Ls) (st) h = ev L xs mdL_guard 21 (Ls) (st) (h) := e_goto dL_guard_10 (by decide)
theorem iL_guard_13 {v0 : Value} {v1 : Value} {v2 : Value} {v3 : Value} {v4 : Value} {x : Nat} {Ls st : List Value} {h : AH} (hc9 : v3.category = 1) : ev L xs mdL_guard 13 (v0 :: v1 :: v2 :: v3 :: v4 :: Ls) (.ref x :: st) h = ev L xs mdL_guard 15 (v0 :: v1 :: v2 :: v3 :: .ref x :: Ls) (st) (h) := e_astore dL_guard_13 rfl (by decide) (by unfold catOK; show (_ || (v3.category == 1)) = true; rw [hc9]; rfl)
theorem iL_guard_15  {Ls st : List Value} {h : AH} : ev L xs mdL_guard 15 (Ls) (st) h = ev L xs mdL_guard 16 (Ls) (.int (nI 1) :: st) (h) := e_iconst dL_guard_15 (by decide)
theorem iL_guard_16 {v : Int32} {Ls : List Value} {h : AH} : ev L xs mdL_guard 16 Ls [.int v] h = some (.inl (some (.int v), h)) := e_iret dL_guard_16 rfl
theorem iL_guard_17 {v0 : Value} {v1 : Value} {v2 : Value} {v3 : Value} {v4 : Value} {x : Nat} {Ls st : List Value} {h : AH} (hc9 : v3.category = 1) : ev L xs mdL_guard 17 (v0 :: v1 :: v2 :: v3 :: v4 :: Ls) (.ref x :: st) h = ev L xs mdL_guard 19 (v0 :: v1 :: v2 :: v3 :: .ref x :: Ls) (st) (h) := e_astore dL_guard_17 rfl (by decide) (by unfold catOK; show (_ || (v3.category == 1)) = true; rw [hc9]; rfl)
theorem iL_guard_19  {Ls st : List Value} {h : AH} : ev L xs mdL_guard 19 (Ls) (st) h = ev L xs mdL_guard 20 (Ls) (.int (nI 2) :: st) (h) := e_iconst dL_guard_19 (by decide)
theorem iL_guard_20 {v : Int32} {Ls : List Value} {h : AH} : ev L xs mdL_guard 20 Ls [.int v] h = some (.inl (some (.int v), h)) := e_iret dL_guard_20 rfl
theorem iL_guard_21  {Ls st : List Value} {h : AH} : ev L xs mdL_guard 21 (Ls) (st) h = ev L xs mdL_guard 22 (Ls) (.int (nI 0) :: st) (h) := e_iconst dL_guard_21 (by decide)
theorem iL_guard_22 {v : Int32} {Ls : List Value} {h : AH} : ev L xs mdL_guard 22 Ls [.int v] h = some (.inl (some (.int v), h)) := e_iret dL_guard_22 rfl
theorem dL_holiday_0 : decode cL_holiday 0 = .ok (.aload_n 3, 1) := by decide +kernel
theorem dL_holiday_1 : decode cL_holiday 1 = .ok (.iconst 0, 1) := by decide +kernel
theorem dL_holiday_2 : decode cL_holiday 2 = .ok (.aload_n 0, 1) := by decide +kernel
theorem dL_holiday_3 : decode cL_holiday 3 = .ok (.iload_n 1, 1) := by decide +kernel
theorem dL_holiday_4 : decode cL_holiday 4 = .ok (.iload_n 2, 1) := by decide +kernel
theorem dL_holiday_5 : decode cL_holiday 5 = .ok (.invokevirtual 55, 3) := by decide +kernel
theorem dL_holiday_8 : decode cL_holiday 8 = .ok (.i2l, 1) := by decide +kernel
theorem dL_holiday_9 : decode cL_holiday 9 = .ok (.lastore, 1) := by decide +kernel
theorem dL_holiday_10 : decode cL_holiday 10 = .ok (.goto 7, 3) := by decide +kernel
theorem dL_holiday_13 : decode cL_holiday 13 = .ok (.astore 4, 2) := by decide +kernel
theorem dL_holiday_15 : decode cL_holiday 15 = .ok (.iconst 1, 1) := by decide +kernel
theorem dL_holiday_16 : decode cL_holiday 16 = .ok (.ireturn, 1) := by decide +kernel
theorem dL_holiday_17 : decode cL_holiday 17 = .ok (.iconst 0, 1) := by decide +kernel
theorem dL_holiday_18 : decode cL_holiday 18 = .ok (.ireturn, 1) := by decide +kernel
theorem iL_holiday_0 {v0 : Value} {v1 : Value} {v2 : Value} {x : Nat} {Ls st : List Value} {h : AH} : ev L xs mdL_holiday 0 (v0 :: v1 :: v2 :: .ref x :: Ls) (st) h = ev L xs mdL_holiday 1 (v0 :: v1 :: v2 :: .ref x :: Ls) (.ref x :: st) (h) := e_aload_n dL_holiday_0 rfl
theorem iL_holiday_1  {Ls st : List Value} {h : AH} : ev L xs mdL_holiday 1 (Ls) (st) h = ev L xs mdL_holiday 2 (Ls) (.int (nI 0) :: st) (h) := e_iconst dL_holiday_1 (by decide)
theorem iL_holiday_2 {x : Nat} {Ls st : List Value} {h : AH} : ev L xs mdL_holiday 2 (.ref x :: Ls) (st) h = ev L xs mdL_holiday 3 (.ref x :: Ls) (.ref x :: st) (h) := e_aload_n dL_holiday_2 rfl
theorem iL_holiday_3 {v0 : Value} {x : Int32} {Ls st : List Value} {h : AH} : ev L xs mdL_holiday 3 (v0 :: .int x :: Ls) (st) h = ev L xs mdL_holiday 4 (v0 :: .int x :: Ls) (.int x :: st) (h) := e_iload_n dL_holiday_3 rfl
theorem iL_holiday_4 {v0 : Value} {v1 : Value} {x : Int32} {Ls st : List Value} {h : AH} : ev L xs mdL_holiday 4 (v0 :: v1 :: .int x :: Ls) (st) h = ev L xs mdL_holiday 5 (v0 :: v1 :: .int x :: Ls) (.int x :: st) (h) := e_iload_n dL_holiday_4 rfl
theorem iL_holiday_5 {a : Nat} {p0 : Int32} {p1 : Int32} {Ls st : List Value} {h : AH} (hk : hK h a = 6) (hw : wds st ≤ 8) : ev L xs mdL_holiday 5 Ls (.int p1 :: .int p0 :: .ref a :: st) h = kn L xs mdL_holiday 5 8 Ls st (ev L xs mdX6_holiday 0 [.ref a, .int p0, .int p1] [] h) := e_callV (as := [.int p1, .int p0]) dL_holiday_5 mr_8_55 (by decide) (by decide) rfl (by simp [wds, Value.category]; decide) rfl (by decide) hk hw
theorem iL_holiday_8 {x : Int32} {Ls st : List Value} {h : AH} : ev L xs mdL_holiday 8 (Ls) (.int x :: st) h = ev L xs mdL_holiday 9 (Ls) (.long x.toInt64 :: st) (h) := e_i2l dL_holiday_8
theorem iL_holiday_9 {a : Nat} {j : Int32} {v : Int64} {Ls st : List Value} {h : AH} (hk : hK h a = 12) (hi : inA j (hN h a) = true) : ev L xs mdL_holiday 9 (Ls) (.long v :: .int j :: .ref a :: st) h = ev L xs mdL_holiday 10 (Ls) (st) (sL h a j.toNatClampNeg v) := e_last dL_holiday_9 hk hi
theorem iL_holiday_10  {Ls st : List Value} {h : AH} : ev L xs mdL_holiday 10 (Ls) (st) h = ev L xs mdL_holiday 17 (Ls) (st) (h) := e_goto dL_holiday_10 (by decide)
theorem iL_holiday_13 {v0 : Value} {v1 : Value} {v2 : Value} {v3 : Value} {v4 : Value} {x : Nat} {Ls st : List Value} {h : AH} (hc9 : v3.category = 1) : ev L xs mdL_holiday 13 (v0 :: v1 :: v2 :: v3 :: v4 :: Ls) (.ref x :: st) h = ev L xs mdL_holiday 15 (v0 :: v1 :: v2 :: v3 :: .ref x :: Ls) (st) (h) := e_astore dL_holiday_13 rfl (by decide) (by unfold catOK; show (_ || (v3.category == 1)) = true; rw [hc9]; rfl)
theorem iL_holiday_15  {Ls st : List Value} {h : AH} : ev L xs mdL_holiday 15 (Ls) (st) h = ev L xs mdL_holiday 16 (Ls) (.int (nI 1) :: st) (h) := e_iconst dL_holiday_15 (by decide)
theorem iL_holiday_16 {v : Int32} {Ls : List Value} {h : AH} : ev L xs mdL_holiday 16 Ls [.int v] h = some (.inl (some (.int v), h)) := e_iret dL_holiday_16 rfl
theorem iL_holiday_17  {Ls st : List Value} {h : AH} : ev L xs mdL_holiday 17 (Ls) (st) h = ev L xs mdL_holiday 18 (Ls) (.int (nI 0) :: st) (h) := e_iconst dL_holiday_17 (by decide)
theorem iL_holiday_18 {v : Int32} {Ls : List Value} {h : AH} : ev L xs mdL_holiday 18 Ls [.int v] h = some (.inl (some (.int v), h)) := e_iret dL_holiday_18 rfl
theorem dL_law_0 : decode cL_law 0 = .ok (.new 8, 3) := by decide +kernel
theorem dL_law_3 : decode cL_law 3 = .ok (.dup, 1) := by decide +kernel
theorem dL_law_4 : decode cL_law 4 = .ok (.invokespecial 83, 3) := by decide +kernel
theorem dL_law_7 : decode cL_law 7 = .ok (.astore_n 1, 1) := by decide +kernel
theorem dL_law_8 : decode cL_law 8 = .ok (.new 84, 3) := by decide +kernel
theorem dL_law_11 : decode cL_law 11 = .ok (.dup, 1) := by decide +kernel
theorem dL_law_12 : decode cL_law 12 = .ok (.invokespecial 86, 3) := by decide +kernel
theorem dL_law_15 : decode cL_law 15 = .ok (.astore_n 2, 1) := by decide +kernel
theorem dL_law_16 : decode cL_law 16 = .ok (.iconst 1, 1) := by decide +kernel
theorem dL_law_17 : decode cL_law 17 = .ok (.newarray .long, 2) := by decide +kernel
theorem dL_law_19 : decode cL_law 19 = .ok (.astore_n 3, 1) := by decide +kernel
theorem dL_law_20 : decode cL_law 20 = .ok (.iconst 0, 1) := by decide +kernel
theorem dL_law_21 : decode cL_law 21 = .ok (.istore 4, 2) := by decide +kernel
theorem dL_law_23 : decode cL_law 23 = .ok (.iload 4, 2) := by decide +kernel
theorem dL_law_25 : decode cL_law 25 = .ok (.aload_n 0, 1) := by decide +kernel
theorem dL_law_26 : decode cL_law 26 = .ok (.arraylength, 1) := by decide +kernel
theorem dL_law_27 : decode cL_law 27 = .ok (.iconst 4, 1) := by decide +kernel
theorem dL_law_28 : decode cL_law 28 = .ok (.isub, 1) := by decide +kernel
theorem dL_law_29 : decode cL_law 29 = .ok (.if_icmp .gt 1599, 3) := by decide +kernel
theorem dL_law_32 : decode cL_law 32 = .ok (.aload_n 0, 1) := by decide +kernel
theorem dL_law_33 : decode cL_law 33 = .ok (.iload 4, 2) := by decide +kernel
theorem dL_law_35 : decode cL_law 35 = .ok (.iaload, 1) := by decide +kernel
theorem dL_law_36 : decode cL_law 36 = .ok (.bipush 31, 2) := by decide +kernel
theorem dL_law_38 : decode cL_law 38 = .ok (.iand, 1) := by decide +kernel
theorem dL_law_39 : decode cL_law 39 = .ok (.tableswitch 1583 0 25 #[117, 185, 253, 321, 401, 469, 537, 593, 637, 693, 761, 829, 885, 969, 1037, 1105, 1185, 1265, 1333, 1346, 1402, 1443, 1499, 1512, 1525, 1569], 117) := by decide +kernel
theorem dL_law_156 : decode cL_law 156 = .ok (.aload_n 1, 1) := by decide +kernel
theorem dL_law_157 : decode cL_law 157 = .ok (.aload_n 0, 1) := by decide +kernel
theorem dL_law_158 : decode cL_law 158 = .ok (.iload 4, 2) := by decide +kernel
theorem dL_law_160 : decode cL_law 160 = .ok (.iconst 1, 1) := by decide +kernel
theorem dL_law_161 : decode cL_law 161 = .ok (.iadd, 1) := by decide +kernel
theorem dL_law_162 : decode cL_law 162 = .ok (.iaload, 1) := by decide +kernel
theorem dL_law_163 : decode cL_law 163 = .ok (.aload_n 0, 1) := by decide +kernel
theorem dL_law_164 : decode cL_law 164 = .ok (.iload 4, 2) := by decide +kernel
theorem dL_law_166 : decode cL_law 166 = .ok (.iconst 2, 1) := by decide +kernel
theorem dL_law_167 : decode cL_law 167 = .ok (.iadd, 1) := by decide +kernel
theorem dL_law_168 : decode cL_law 168 = .ok (.iaload, 1) := by decide +kernel
theorem dL_law_169 : decode cL_law 169 = .ok (.aload_n 3, 1) := by decide +kernel
theorem dL_law_170 : decode cL_law 170 = .ok (.invokestatic 87, 3) := by decide +kernel
theorem dL_law_173 : decode cL_law 173 = .ok (.istore 5, 2) := by decide +kernel
theorem dL_law_175 : decode cL_law 175 = .ok (.aload_n 2, 1) := by decide +kernel
theorem dL_law_176 : decode cL_law 176 = .ok (.aload_n 0, 1) := by decide +kernel
theorem dL_law_177 : decode cL_law 177 = .ok (.iload 4, 2) := by decide +kernel
theorem dL_law_179 : decode cL_law 179 = .ok (.iconst 1, 1) := by decide +kernel
theorem dL_law_180 : decode cL_law 180 = .ok (.iadd, 1) := by decide +kernel
theorem dL_law_181 : decode cL_law 181 = .ok (.iaload, 1) := by decide +kernel
theorem dL_law_182 : decode cL_law 182 = .ok (.aload_n 0, 1) := by decide +kernel
theorem dL_law_183 : decode cL_law 183 = .ok (.iload 4, 2) := by decide +kernel
theorem dL_law_185 : decode cL_law 185 = .ok (.iconst 2, 1) := by decide +kernel
theorem dL_law_186 : decode cL_law 186 = .ok (.iadd, 1) := by decide +kernel
theorem dL_law_187 : decode cL_law 187 = .ok (.iaload, 1) := by decide +kernel
theorem dL_law_188 : decode cL_law 188 = .ok (.invokevirtual 92, 3) := by decide +kernel
theorem dL_law_191 : decode cL_law 191 = .ok (.istore 6, 2) := by decide +kernel
theorem dL_law_193 : decode cL_law 193 = .ok (.aload_n 2, 1) := by decide +kernel
theorem dL_law_194 : decode cL_law 194 = .ok (.invokevirtual 93, 3) := by decide +kernel
theorem dL_law_197 : decode cL_law 197 = .ok (.iload 5, 2) := by decide +kernel
theorem dL_law_199 : decode cL_law 199 = .ok (.if_icmp .eq 5, 3) := by decide +kernel
theorem dL_law_202 : decode cL_law 202 = .ok (.iconst 0, 1) := by decide +kernel
theorem dL_law_203 : decode cL_law 203 = .ok (.ireturn, 1) := by decide +kernel
theorem dL_law_204 : decode cL_law 204 = .ok (.iload 5, 2) := by decide +kernel
theorem dL_law_206 : decode cL_law 206 = .ok (.ifCond .ne 15, 3) := by decide +kernel
theorem dL_law_209 : decode cL_law 209 = .ok (.aload_n 3, 1) := by decide +kernel
theorem dL_law_210 : decode cL_law 210 = .ok (.iconst 0, 1) := by decide +kernel
theorem dL_law_211 : decode cL_law 211 = .ok (.laload, 1) := by decide +kernel
theorem dL_law_212 : decode cL_law 212 = .ok (.iload 6, 2) := by decide +kernel
theorem dL_law_214 : decode cL_law 214 = .ok (.i2l, 1) := by decide +kernel
theorem dL_law_215 : decode cL_law 215 = .ok (.lcmp, 1) := by decide +kernel
theorem dL_law_216 : decode cL_law 216 = .ok (.ifCond .eq 5, 3) := by decide +kernel
theorem dL_law_219 : decode cL_law 219 = .ok (.iconst 0, 1) := by decide +kernel
theorem dL_law_220 : decode cL_law 220 = .ok (.ireturn, 1) := by decide +kernel
theorem dL_law_221 : decode cL_law 221 = .ok (.goto 1401, 3) := by decide +kernel
theorem dL_law_224 : decode cL_law 224 = .ok (.aload_n 1, 1) := by decide +kernel
theorem dL_law_225 : decode cL_law 225 = .ok (.aload_n 0, 1) := by decide +kernel
theorem dL_law_226 : decode cL_law 226 = .ok (.iload 4, 2) := by decide +kernel
theorem dL_law_228 : decode cL_law 228 = .ok (.iconst 1, 1) := by decide +kernel
theorem dL_law_229 : decode cL_law 229 = .ok (.iadd, 1) := by decide +kernel
theorem dL_law_230 : decode cL_law 230 = .ok (.iaload, 1) := by decide +kernel
theorem dL_law_231 : decode cL_law 231 = .ok (.aload_n 0, 1) := by decide +kernel
theorem dL_law_232 : decode cL_law 232 = .ok (.iload 4, 2) := by decide +kernel
theorem dL_law_234 : decode cL_law 234 = .ok (.iconst 2, 1) := by decide +kernel
theorem dL_law_235 : decode cL_law 235 = .ok (.iadd, 1) := by decide +kernel
theorem dL_law_236 : decode cL_law 236 = .ok (.iaload, 1) := by decide +kernel
theorem dL_law_237 : decode cL_law 237 = .ok (.aload_n 3, 1) := by decide +kernel
theorem dL_law_238 : decode cL_law 238 = .ok (.invokestatic 96, 3) := by decide +kernel
theorem dL_law_241 : decode cL_law 241 = .ok (.istore 5, 2) := by decide +kernel
theorem dL_law_243 : decode cL_law 243 = .ok (.aload_n 2, 1) := by decide +kernel
theorem dL_law_244 : decode cL_law 244 = .ok (.aload_n 0, 1) := by decide +kernel
theorem dL_law_245 : decode cL_law 245 = .ok (.iload 4, 2) := by decide +kernel
theorem dL_law_247 : decode cL_law 247 = .ok (.iconst 1, 1) := by decide +kernel
theorem dL_law_248 : decode cL_law 248 = .ok (.iadd, 1) := by decide +kernel
theorem dL_law_249 : decode cL_law 249 = .ok (.iaload, 1) := by decide +kernel
theorem dL_law_250 : decode cL_law 250 = .ok (.aload_n 0, 1) := by decide +kernel
theorem dL_law_251 : decode cL_law 251 = .ok (.iload 4, 2) := by decide +kernel
theorem dL_law_253 : decode cL_law 253 = .ok (.iconst 2, 1) := by decide +kernel
theorem dL_law_254 : decode cL_law 254 = .ok (.iadd, 1) := by decide +kernel
theorem dL_law_255 : decode cL_law 255 = .ok (.iaload, 1) := by decide +kernel
theorem dL_law_256 : decode cL_law 256 = .ok (.invokevirtual 98, 3) := by decide +kernel
theorem dL_law_259 : decode cL_law 259 = .ok (.istore 6, 2) := by decide +kernel
theorem dL_law_261 : decode cL_law 261 = .ok (.aload_n 2, 1) := by decide +kernel
theorem dL_law_262 : decode cL_law 262 = .ok (.invokevirtual 93, 3) := by decide +kernel
theorem dL_law_265 : decode cL_law 265 = .ok (.iload 5, 2) := by decide +kernel
theorem dL_law_267 : decode cL_law 267 = .ok (.if_icmp .eq 5, 3) := by decide +kernel
theorem dL_law_270 : decode cL_law 270 = .ok (.iconst 0, 1) := by decide +kernel
theorem dL_law_271 : decode cL_law 271 = .ok (.ireturn, 1) := by decide +kernel
theorem dL_law_272 : decode cL_law 272 = .ok (.iload 5, 2) := by decide +kernel
theorem dL_law_274 : decode cL_law 274 = .ok (.ifCond .ne 15, 3) := by decide +kernel
theorem dL_law_277 : decode cL_law 277 = .ok (.aload_n 3, 1) := by decide +kernel
theorem dL_law_278 : decode cL_law 278 = .ok (.iconst 0, 1) := by decide +kernel
theorem dL_law_279 : decode cL_law 279 = .ok (.laload, 1) := by decide +kernel
theorem dL_law_280 : decode cL_law 280 = .ok (.iload 6, 2) := by decide +kernel
theorem dL_law_282 : decode cL_law 282 = .ok (.i2l, 1) := by decide +kernel
theorem dL_law_283 : decode cL_law 283 = .ok (.lcmp, 1) := by decide +kernel
theorem dL_law_284 : decode cL_law 284 = .ok (.ifCond .eq 5, 3) := by decide +kernel
theorem dL_law_287 : decode cL_law 287 = .ok (.iconst 0, 1) := by decide +kernel
theorem dL_law_288 : decode cL_law 288 = .ok (.ireturn, 1) := by decide +kernel
theorem dL_law_289 : decode cL_law 289 = .ok (.goto 1333, 3) := by decide +kernel
theorem dL_law_292 : decode cL_law 292 = .ok (.aload_n 1, 1) := by decide +kernel
theorem dL_law_293 : decode cL_law 293 = .ok (.aload_n 0, 1) := by decide +kernel
theorem dL_law_294 : decode cL_law 294 = .ok (.iload 4, 2) := by decide +kernel
theorem dL_law_296 : decode cL_law 296 = .ok (.iconst 1, 1) := by decide +kernel
theorem dL_law_297 : decode cL_law 297 = .ok (.iadd, 1) := by decide +kernel
theorem dL_law_298 : decode cL_law 298 = .ok (.iaload, 1) := by decide +kernel
theorem dL_law_299 : decode cL_law 299 = .ok (.aload_n 0, 1) := by decide +kernel
theorem dL_law_300 : decode cL_law 300 = .ok (.iload 4, 2) := by decide +kernel
theorem dL_law_302 : decode cL_law 302 = .ok (.iconst 2, 1) := by decide +kernel
theorem dL_law_303 : decode cL_law 303 = .ok (.iadd, 1) := by decide +kernel
theorem dL_law_304 : decode cL_law 304 = .ok (.iaload, 1) := by decide +kernel
theorem dL_law_305 : decode cL_law 305 = .ok (.aload_n 3, 1) := by decide +kernel
theorem dL_law_306 : decode cL_law 306 = .ok (.invokestatic 99, 3) := by decide +kernel
theorem dL_law_309 : decode cL_law 309 = .ok (.istore 5, 2) := by decide +kernel
theorem dL_law_311 : decode cL_law 311 = .ok (.aload_n 2, 1) := by decide +kernel
theorem dL_law_312 : decode cL_law 312 = .ok (.aload_n 0, 1) := by decide +kernel
theorem dL_law_313 : decode cL_law 313 = .ok (.iload 4, 2) := by decide +kernel
theorem dL_law_315 : decode cL_law 315 = .ok (.iconst 1, 1) := by decide +kernel
theorem dL_law_316 : decode cL_law 316 = .ok (.iadd, 1) := by decide +kernel
theorem dL_law_317 : decode cL_law 317 = .ok (.iaload, 1) := by decide +kernel
theorem dL_law_318 : decode cL_law 318 = .ok (.aload_n 0, 1) := by decide +kernel
theorem dL_law_319 : decode cL_law 319 = .ok (.iload 4, 2) := by decide +kernel
theorem dL_law_321 : decode cL_law 321 = .ok (.iconst 2, 1) := by decide +kernel
theorem dL_law_322 : decode cL_law 322 = .ok (.iadd, 1) := by decide +kernel
theorem dL_law_323 : decode cL_law 323 = .ok (.iaload, 1) := by decide +kernel
theorem dL_law_324 : decode cL_law 324 = .ok (.invokevirtual 101, 3) := by decide +kernel
theorem dL_law_327 : decode cL_law 327 = .ok (.istore 6, 2) := by decide +kernel
theorem dL_law_329 : decode cL_law 329 = .ok (.aload_n 2, 1) := by decide +kernel
theorem dL_law_330 : decode cL_law 330 = .ok (.invokevirtual 93, 3) := by decide +kernel
theorem dL_law_333 : decode cL_law 333 = .ok (.iload 5, 2) := by decide +kernel
theorem dL_law_335 : decode cL_law 335 = .ok (.if_icmp .eq 5, 3) := by decide +kernel
theorem dL_law_338 : decode cL_law 338 = .ok (.iconst 0, 1) := by decide +kernel
theorem dL_law_339 : decode cL_law 339 = .ok (.ireturn, 1) := by decide +kernel
theorem dL_law_340 : decode cL_law 340 = .ok (.iload 5, 2) := by decide +kernel
theorem dL_law_342 : decode cL_law 342 = .ok (.ifCond .ne 15, 3) := by decide +kernel
theorem dL_law_345 : decode cL_law 345 = .ok (.aload_n 3, 1) := by decide +kernel
theorem dL_law_346 : decode cL_law 346 = .ok (.iconst 0, 1) := by decide +kernel
theorem dL_law_347 : decode cL_law 347 = .ok (.laload, 1) := by decide +kernel
theorem dL_law_348 : decode cL_law 348 = .ok (.iload 6, 2) := by decide +kernel
theorem dL_law_350 : decode cL_law 350 = .ok (.i2l, 1) := by decide +kernel
theorem dL_law_351 : decode cL_law 351 = .ok (.lcmp, 1) := by decide +kernel
theorem dL_law_352 : decode cL_law 352 = .ok (.ifCond .eq 5, 3) := by decide +kernel
theorem dL_law_355 : decode cL_law 355 = .ok (.iconst 0, 1) := by decide +kernel
theorem dL_law_356 : decode cL_law 356 = .ok (.ireturn, 1) := by decide +kernel
theorem dL_law_357 : decode cL_law 357 = .ok (.goto 1265, 3) := by decide +kernel
theorem dL_law_360 : decode cL_law 360 = .ok (.aload_n 1, 1) := by decide +kernel
theorem dL_law_361 : decode cL_law 361 = .ok (.aload_n 0, 1) := by decide +kernel
theorem dL_law_362 : decode cL_law 362 = .ok (.iload 4, 2) := by decide +kernel
theorem dL_law_364 : decode cL_law 364 = .ok (.iconst 1, 1) := by decide +kernel
theorem dL_law_365 : decode cL_law 365 = .ok (.iadd, 1) := by decide +kernel
theorem dL_law_366 : decode cL_law 366 = .ok (.iaload, 1) := by decide +kernel
theorem dL_law_367 : decode cL_law 367 = .ok (.aload_n 0, 1) := by decide +kernel
theorem dL_law_368 : decode cL_law 368 = .ok (.iload 4, 2) := by decide +kernel
theorem dL_law_370 : decode cL_law 370 = .ok (.iconst 2, 1) := by decide +kernel
theorem dL_law_371 : decode cL_law 371 = .ok (.iadd, 1) := by decide +kernel
theorem dL_law_372 : decode cL_law 372 = .ok (.iaload, 1) := by decide +kernel
theorem dL_law_373 : decode cL_law 373 = .ok (.aload_n 0, 1) := by decide +kernel
theorem dL_law_374 : decode cL_law 374 = .ok (.iload 4, 2) := by decide +kernel
theorem dL_law_376 : decode cL_law 376 = .ok (.iconst 3, 1) := by decide +kernel
theorem dL_law_377 : decode cL_law 377 = .ok (.iadd, 1) := by decide +kernel
theorem dL_law_378 : decode cL_law 378 = .ok (.iaload, 1) := by decide +kernel
theorem dL_law_379 : decode cL_law 379 = .ok (.aload_n 3, 1) := by decide +kernel
theorem dL_law_380 : decode cL_law 380 = .ok (.invokestatic 102, 3) := by decide +kernel
theorem dL_law_383 : decode cL_law 383 = .ok (.istore 5, 2) := by decide +kernel
theorem dL_law_385 : decode cL_law 385 = .ok (.aload_n 2, 1) := by decide +kernel
theorem dL_law_386 : decode cL_law 386 = .ok (.aload_n 0, 1) := by decide +kernel
theorem dL_law_387 : decode cL_law 387 = .ok (.iload 4, 2) := by decide +kernel
theorem dL_law_389 : decode cL_law 389 = .ok (.iconst 1, 1) := by decide +kernel
theorem dL_law_390 : decode cL_law 390 = .ok (.iadd, 1) := by decide +kernel
theorem dL_law_391 : decode cL_law 391 = .ok (.iaload, 1) := by decide +kernel
theorem dL_law_392 : decode cL_law 392 = .ok (.aload_n 0, 1) := by decide +kernel
theorem dL_law_393 : decode cL_law 393 = .ok (.iload 4, 2) := by decide +kernel
theorem dL_law_395 : decode cL_law 395 = .ok (.iconst 2, 1) := by decide +kernel
theorem dL_law_396 : decode cL_law 396 = .ok (.iadd, 1) := by decide +kernel
theorem dL_law_397 : decode cL_law 397 = .ok (.iaload, 1) := by decide +kernel
theorem dL_law_398 : decode cL_law 398 = .ok (.aload_n 0, 1) := by decide +kernel
theorem dL_law_399 : decode cL_law 399 = .ok (.iload 4, 2) := by decide +kernel
theorem dL_law_401 : decode cL_law 401 = .ok (.iconst 3, 1) := by decide +kernel
theorem dL_law_402 : decode cL_law 402 = .ok (.iadd, 1) := by decide +kernel
theorem dL_law_403 : decode cL_law 403 = .ok (.iaload, 1) := by decide +kernel
theorem dL_law_404 : decode cL_law 404 = .ok (.invokevirtual 105, 3) := by decide +kernel
theorem dL_law_407 : decode cL_law 407 = .ok (.istore 6, 2) := by decide +kernel
theorem dL_law_409 : decode cL_law 409 = .ok (.aload_n 2, 1) := by decide +kernel
theorem dL_law_410 : decode cL_law 410 = .ok (.invokevirtual 93, 3) := by decide +kernel
theorem dL_law_413 : decode cL_law 413 = .ok (.iload 5, 2) := by decide +kernel
theorem dL_law_415 : decode cL_law 415 = .ok (.if_icmp .eq 5, 3) := by decide +kernel
theorem dL_law_418 : decode cL_law 418 = .ok (.iconst 0, 1) := by decide +kernel
theorem dL_law_419 : decode cL_law 419 = .ok (.ireturn, 1) := by decide +kernel
theorem dL_law_420 : decode cL_law 420 = .ok (.iload 5, 2) := by decide +kernel
theorem dL_law_422 : decode cL_law 422 = .ok (.ifCond .ne 15, 3) := by decide +kernel
theorem dL_law_425 : decode cL_law 425 = .ok (.aload_n 3, 1) := by decide +kernel
theorem dL_law_426 : decode cL_law 426 = .ok (.iconst 0, 1) := by decide +kernel
theorem dL_law_427 : decode cL_law 427 = .ok (.laload, 1) := by decide +kernel
theorem dL_law_428 : decode cL_law 428 = .ok (.iload 6, 2) := by decide +kernel
theorem dL_law_430 : decode cL_law 430 = .ok (.i2l, 1) := by decide +kernel
theorem dL_law_431 : decode cL_law 431 = .ok (.lcmp, 1) := by decide +kernel
theorem dL_law_432 : decode cL_law 432 = .ok (.ifCond .eq 5, 3) := by decide +kernel
theorem dL_law_435 : decode cL_law 435 = .ok (.iconst 0, 1) := by decide +kernel
theorem dL_law_436 : decode cL_law 436 = .ok (.ireturn, 1) := by decide +kernel
theorem dL_law_437 : decode cL_law 437 = .ok (.goto 1185, 3) := by decide +kernel
theorem dL_law_440 : decode cL_law 440 = .ok (.aload_n 1, 1) := by decide +kernel
theorem dL_law_441 : decode cL_law 441 = .ok (.aload_n 0, 1) := by decide +kernel
theorem dL_law_442 : decode cL_law 442 = .ok (.iload 4, 2) := by decide +kernel
theorem dL_law_444 : decode cL_law 444 = .ok (.iconst 1, 1) := by decide +kernel
theorem dL_law_445 : decode cL_law 445 = .ok (.iadd, 1) := by decide +kernel
theorem dL_law_446 : decode cL_law 446 = .ok (.iaload, 1) := by decide +kernel
theorem dL_law_447 : decode cL_law 447 = .ok (.aload_n 0, 1) := by decide +kernel
theorem dL_law_448 : decode cL_law 448 = .ok (.iload 4, 2) := by decide +kernel
theorem dL_law_450 : decode cL_law 450 = .ok (.iconst 2, 1) := by decide +kernel
theorem dL_law_451 : decode cL_law 451 = .ok (.iadd, 1) := by decide +kernel
theorem dL_law_452 : decode cL_law 452 = .ok (.iaload, 1) := by decide +kernel
theorem dL_law_453 : decode cL_law 453 = .ok (.aload_n 3, 1) := by decide +kernel
theorem dL_law_454 : decode cL_law 454 = .ok (.invokestatic 106, 3) := by decide +kernel
theorem dL_law_457 : decode cL_law 457 = .ok (.istore 5, 2) := by decide +kernel
theorem dL_law_459 : decode cL_law 459 = .ok (.aload_n 2, 1) := by decide +kernel
theorem dL_law_460 : decode cL_law 460 = .ok (.aload_n 0, 1) := by decide +kernel
theorem dL_law_461 : decode cL_law 461 = .ok (.iload 4, 2) := by decide +kernel
theorem dL_law_463 : decode cL_law 463 = .ok (.iconst 1, 1) := by decide +kernel
theorem dL_law_464 : decode cL_law 464 = .ok (.iadd, 1) := by decide +kernel
theorem dL_law_465 : decode cL_law 465 = .ok (.iaload, 1) := by decide +kernel
theorem dL_law_466 : decode cL_law 466 = .ok (.aload_n 0, 1) := by decide +kernel
theorem dL_law_467 : decode cL_law 467 = .ok (.iload 4, 2) := by decide +kernel
theorem dL_law_469 : decode cL_law 469 = .ok (.iconst 2, 1) := by decide +kernel
theorem dL_law_470 : decode cL_law 470 = .ok (.iadd, 1) := by decide +kernel
theorem dL_law_471 : decode cL_law 471 = .ok (.iaload, 1) := by decide +kernel
theorem dL_law_472 : decode cL_law 472 = .ok (.invokevirtual 108, 3) := by decide +kernel
theorem dL_law_475 : decode cL_law 475 = .ok (.istore 6, 2) := by decide +kernel
theorem dL_law_477 : decode cL_law 477 = .ok (.aload_n 2, 1) := by decide +kernel
theorem dL_law_478 : decode cL_law 478 = .ok (.invokevirtual 93, 3) := by decide +kernel
theorem dL_law_481 : decode cL_law 481 = .ok (.iload 5, 2) := by decide +kernel
theorem dL_law_483 : decode cL_law 483 = .ok (.if_icmp .eq 5, 3) := by decide +kernel
theorem dL_law_486 : decode cL_law 486 = .ok (.iconst 0, 1) := by decide +kernel
theorem dL_law_487 : decode cL_law 487 = .ok (.ireturn, 1) := by decide +kernel
theorem dL_law_488 : decode cL_law 488 = .ok (.iload 5, 2) := by decide +kernel
theorem dL_law_490 : decode cL_law 490 = .ok (.ifCond .ne 15, 3) := by decide +kernel
theorem dL_law_493 : decode cL_law 493 = .ok (.aload_n 3, 1) := by decide +kernel
theorem dL_law_494 : decode cL_law 494 = .ok (.iconst 0, 1) := by decide +kernel
theorem dL_law_495 : decode cL_law 495 = .ok (.laload, 1) := by decide +kernel
theorem dL_law_496 : decode cL_law 496 = .ok (.iload 6, 2) := by decide +kernel
theorem dL_law_498 : decode cL_law 498 = .ok (.i2l, 1) := by decide +kernel
theorem dL_law_499 : decode cL_law 499 = .ok (.lcmp, 1) := by decide +kernel
theorem dL_law_500 : decode cL_law 500 = .ok (.ifCond .eq 5, 3) := by decide +kernel
theorem dL_law_503 : decode cL_law 503 = .ok (.iconst 0, 1) := by decide +kernel
theorem dL_law_504 : decode cL_law 504 = .ok (.ireturn, 1) := by decide +kernel
theorem dL_law_505 : decode cL_law 505 = .ok (.goto 1117, 3) := by decide +kernel
theorem dL_law_508 : decode cL_law 508 = .ok (.aload_n 1, 1) := by decide +kernel
theorem dL_law_509 : decode cL_law 509 = .ok (.aload_n 0, 1) := by decide +kernel
theorem dL_law_510 : decode cL_law 510 = .ok (.iload 4, 2) := by decide +kernel
theorem dL_law_512 : decode cL_law 512 = .ok (.iconst 1, 1) := by decide +kernel
theorem dL_law_513 : decode cL_law 513 = .ok (.iadd, 1) := by decide +kernel
theorem dL_law_514 : decode cL_law 514 = .ok (.iaload, 1) := by decide +kernel
theorem dL_law_515 : decode cL_law 515 = .ok (.aload_n 0, 1) := by decide +kernel
theorem dL_law_516 : decode cL_law 516 = .ok (.iload 4, 2) := by decide +kernel
theorem dL_law_518 : decode cL_law 518 = .ok (.iconst 2, 1) := by decide +kernel
theorem dL_law_519 : decode cL_law 519 = .ok (.iadd, 1) := by decide +kernel
theorem dL_law_520 : decode cL_law 520 = .ok (.iaload, 1) := by decide +kernel
theorem dL_law_521 : decode cL_law 521 = .ok (.aload_n 3, 1) := by decide +kernel
theorem dL_law_522 : decode cL_law 522 = .ok (.invokestatic 109, 3) := by decide +kernel
theorem dL_law_525 : decode cL_law 525 = .ok (.istore 5, 2) := by decide +kernel
theorem dL_law_527 : decode cL_law 527 = .ok (.aload_n 2, 1) := by decide +kernel
theorem dL_law_528 : decode cL_law 528 = .ok (.aload_n 0, 1) := by decide +kernel
theorem dL_law_529 : decode cL_law 529 = .ok (.iload 4, 2) := by decide +kernel
theorem dL_law_531 : decode cL_law 531 = .ok (.iconst 1, 1) := by decide +kernel
theorem dL_law_532 : decode cL_law 532 = .ok (.iadd, 1) := by decide +kernel
theorem dL_law_533 : decode cL_law 533 = .ok (.iaload, 1) := by decide +kernel
theorem dL_law_534 : decode cL_law 534 = .ok (.aload_n 0, 1) := by decide +kernel
theorem dL_law_535 : decode cL_law 535 = .ok (.iload 4, 2) := by decide +kernel
theorem dL_law_537 : decode cL_law 537 = .ok (.iconst 2, 1) := by decide +kernel
theorem dL_law_538 : decode cL_law 538 = .ok (.iadd, 1) := by decide +kernel
theorem dL_law_539 : decode cL_law 539 = .ok (.iaload, 1) := by decide +kernel
theorem dL_law_540 : decode cL_law 540 = .ok (.invokevirtual 111, 3) := by decide +kernel
theorem dL_law_543 : decode cL_law 543 = .ok (.istore 6, 2) := by decide +kernel
theorem dL_law_545 : decode cL_law 545 = .ok (.aload_n 2, 1) := by decide +kernel
theorem dL_law_546 : decode cL_law 546 = .ok (.invokevirtual 93, 3) := by decide +kernel
theorem dL_law_549 : decode cL_law 549 = .ok (.iload 5, 2) := by decide +kernel
theorem dL_law_551 : decode cL_law 551 = .ok (.if_icmp .eq 5, 3) := by decide +kernel
theorem dL_law_554 : decode cL_law 554 = .ok (.iconst 0, 1) := by decide +kernel
theorem dL_law_555 : decode cL_law 555 = .ok (.ireturn, 1) := by decide +kernel
theorem dL_law_556 : decode cL_law 556 = .ok (.iload 5, 2) := by decide +kernel
theorem dL_law_558 : decode cL_law 558 = .ok (.ifCond .ne 15, 3) := by decide +kernel
theorem dL_law_561 : decode cL_law 561 = .ok (.aload_n 3, 1) := by decide +kernel
theorem dL_law_562 : decode cL_law 562 = .ok (.iconst 0, 1) := by decide +kernel
theorem dL_law_563 : decode cL_law 563 = .ok (.laload, 1) := by decide +kernel
theorem dL_law_564 : decode cL_law 564 = .ok (.iload 6, 2) := by decide +kernel
theorem dL_law_566 : decode cL_law 566 = .ok (.i2l, 1) := by decide +kernel
theorem dL_law_567 : decode cL_law 567 = .ok (.lcmp, 1) := by decide +kernel
theorem dL_law_568 : decode cL_law 568 = .ok (.ifCond .eq 5, 3) := by decide +kernel
theorem dL_law_571 : decode cL_law 571 = .ok (.iconst 0, 1) := by decide +kernel
theorem dL_law_572 : decode cL_law 572 = .ok (.ireturn, 1) := by decide +kernel
theorem dL_law_573 : decode cL_law 573 = .ok (.goto 1049, 3) := by decide +kernel
theorem dL_law_576 : decode cL_law 576 = .ok (.aload_n 1, 1) := by decide +kernel
theorem dL_law_577 : decode cL_law 577 = .ok (.aload_n 0, 1) := by decide +kernel
theorem dL_law_578 : decode cL_law 578 = .ok (.iload 4, 2) := by decide +kernel
theorem dL_law_580 : decode cL_law 580 = .ok (.iconst 1, 1) := by decide +kernel
theorem dL_law_581 : decode cL_law 581 = .ok (.iadd, 1) := by decide +kernel
theorem dL_law_582 : decode cL_law 582 = .ok (.iaload, 1) := by decide +kernel
theorem dL_law_583 : decode cL_law 583 = .ok (.aload_n 3, 1) := by decide +kernel
theorem dL_law_584 : decode cL_law 584 = .ok (.invokestatic 112, 3) := by decide +kernel
theorem dL_law_587 : decode cL_law 587 = .ok (.istore 5, 2) := by decide +kernel
theorem dL_law_589 : decode cL_law 589 = .ok (.aload_n 2, 1) := by decide +kernel
theorem dL_law_590 : decode cL_law 590 = .ok (.aload_n 0, 1) := by decide +kernel
theorem dL_law_591 : decode cL_law 591 = .ok (.iload 4, 2) := by decide +kernel
theorem dL_law_593 : decode cL_law 593 = .ok (.iconst 1, 1) := by decide +kernel
theorem dL_law_594 : decode cL_law 594 = .ok (.iadd, 1) := by decide +kernel
theorem dL_law_595 : decode cL_law 595 = .ok (.iaload, 1) := by decide +kernel
theorem dL_law_596 : decode cL_law 596 = .ok (.invokevirtual 115, 3) := by decide +kernel
theorem dL_law_599 : decode cL_law 599 = .ok (.istore 6, 2) := by decide +kernel
theorem dL_law_601 : decode cL_law 601 = .ok (.aload_n 2, 1) := by decide +kernel
theorem dL_law_602 : decode cL_law 602 = .ok (.invokevirtual 93, 3) := by decide +kernel
theorem dL_law_605 : decode cL_law 605 = .ok (.iload 5, 2) := by decide +kernel
theorem dL_law_607 : decode cL_law 607 = .ok (.if_icmp .eq 5, 3) := by decide +kernel
theorem dL_law_610 : decode cL_law 610 = .ok (.iconst 0, 1) := by decide +kernel
theorem dL_law_611 : decode cL_law 611 = .ok (.ireturn, 1) := by decide +kernel
theorem dL_law_612 : decode cL_law 612 = .ok (.iload 5, 2) := by decide +kernel
theorem dL_law_614 : decode cL_law 614 = .ok (.ifCond .ne 15, 3) := by decide +kernel
theorem dL_law_617 : decode cL_law 617 = .ok (.aload_n 3, 1) := by decide +kernel
theorem dL_law_618 : decode cL_law 618 = .ok (.iconst 0, 1) := by decide +kernel
theorem dL_law_619 : decode cL_law 619 = .ok (.laload, 1) := by decide +kernel
theorem dL_law_620 : decode cL_law 620 = .ok (.iload 6, 2) := by decide +kernel
theorem dL_law_622 : decode cL_law 622 = .ok (.i2l, 1) := by decide +kernel
theorem dL_law_623 : decode cL_law 623 = .ok (.lcmp, 1) := by decide +kernel
theorem dL_law_624 : decode cL_law 624 = .ok (.ifCond .eq 5, 3) := by decide +kernel
theorem dL_law_627 : decode cL_law 627 = .ok (.iconst 0, 1) := by decide +kernel
theorem dL_law_628 : decode cL_law 628 = .ok (.ireturn, 1) := by decide +kernel
theorem dL_law_629 : decode cL_law 629 = .ok (.goto 993, 3) := by decide +kernel
theorem dL_law_632 : decode cL_law 632 = .ok (.aload_n 1, 1) := by decide +kernel
theorem dL_law_633 : decode cL_law 633 = .ok (.aload_n 3, 1) := by decide +kernel
theorem dL_law_634 : decode cL_law 634 = .ok (.invokestatic 116, 3) := by decide +kernel
theorem dL_law_637 : decode cL_law 637 = .ok (.istore 5, 2) := by decide +kernel
theorem dL_law_639 : decode cL_law 639 = .ok (.aload_n 2, 1) := by decide +kernel
theorem dL_law_640 : decode cL_law 640 = .ok (.invokevirtual 119, 3) := by decide +kernel
theorem dL_law_643 : decode cL_law 643 = .ok (.istore 6, 2) := by decide +kernel
theorem dL_law_645 : decode cL_law 645 = .ok (.aload_n 2, 1) := by decide +kernel
theorem dL_law_646 : decode cL_law 646 = .ok (.invokevirtual 93, 3) := by decide +kernel
theorem dL_law_649 : decode cL_law 649 = .ok (.iload 5, 2) := by decide +kernel
theorem dL_law_651 : decode cL_law 651 = .ok (.if_icmp .eq 5, 3) := by decide +kernel
theorem dL_law_654 : decode cL_law 654 = .ok (.iconst 0, 1) := by decide +kernel
theorem dL_law_655 : decode cL_law 655 = .ok (.ireturn, 1) := by decide +kernel
theorem dL_law_656 : decode cL_law 656 = .ok (.iload 5, 2) := by decide +kernel
theorem dL_law_658 : decode cL_law 658 = .ok (.ifCond .ne 15, 3) := by decide +kernel
theorem dL_law_661 : decode cL_law 661 = .ok (.aload_n 3, 1) := by decide +kernel
theorem dL_law_662 : decode cL_law 662 = .ok (.iconst 0, 1) := by decide +kernel
theorem dL_law_663 : decode cL_law 663 = .ok (.laload, 1) := by decide +kernel
theorem dL_law_664 : decode cL_law 664 = .ok (.iload 6, 2) := by decide +kernel
theorem dL_law_666 : decode cL_law 666 = .ok (.i2l, 1) := by decide +kernel
theorem dL_law_667 : decode cL_law 667 = .ok (.lcmp, 1) := by decide +kernel
theorem dL_law_668 : decode cL_law 668 = .ok (.ifCond .eq 5, 3) := by decide +kernel
theorem dL_law_671 : decode cL_law 671 = .ok (.iconst 0, 1) := by decide +kernel
theorem dL_law_672 : decode cL_law 672 = .ok (.ireturn, 1) := by decide +kernel
theorem dL_law_673 : decode cL_law 673 = .ok (.goto 949, 3) := by decide +kernel
theorem dL_law_676 : decode cL_law 676 = .ok (.aload_n 1, 1) := by decide +kernel
theorem dL_law_677 : decode cL_law 677 = .ok (.aload_n 0, 1) := by decide +kernel
theorem dL_law_678 : decode cL_law 678 = .ok (.iload 4, 2) := by decide +kernel
theorem dL_law_680 : decode cL_law 680 = .ok (.iconst 1, 1) := by decide +kernel
theorem dL_law_681 : decode cL_law 681 = .ok (.iadd, 1) := by decide +kernel
theorem dL_law_682 : decode cL_law 682 = .ok (.iaload, 1) := by decide +kernel
theorem dL_law_683 : decode cL_law 683 = .ok (.aload_n 3, 1) := by decide +kernel
theorem dL_law_684 : decode cL_law 684 = .ok (.invokestatic 120, 3) := by decide +kernel
theorem dL_law_687 : decode cL_law 687 = .ok (.istore 5, 2) := by decide +kernel
theorem dL_law_689 : decode cL_law 689 = .ok (.aload_n 2, 1) := by decide +kernel
theorem dL_law_690 : decode cL_law 690 = .ok (.aload_n 0, 1) := by decide +kernel
theorem dL_law_691 : decode cL_law 691 = .ok (.iload 4, 2) := by decide +kernel
theorem dL_law_693 : decode cL_law 693 = .ok (.iconst 1, 1) := by decide +kernel
theorem dL_law_694 : decode cL_law 694 = .ok (.iadd, 1) := by decide +kernel
theorem dL_law_695 : decode cL_law 695 = .ok (.iaload, 1) := by decide +kernel
theorem dL_law_696 : decode cL_law 696 = .ok (.invokevirtual 122, 3) := by decide +kernel
theorem dL_law_699 : decode cL_law 699 = .ok (.istore 6, 2) := by decide +kernel
theorem dL_law_701 : decode cL_law 701 = .ok (.aload_n 2, 1) := by decide +kernel
theorem dL_law_702 : decode cL_law 702 = .ok (.invokevirtual 93, 3) := by decide +kernel
theorem dL_law_705 : decode cL_law 705 = .ok (.iload 5, 2) := by decide +kernel
theorem dL_law_707 : decode cL_law 707 = .ok (.if_icmp .eq 5, 3) := by decide +kernel
theorem dL_law_710 : decode cL_law 710 = .ok (.iconst 0, 1) := by decide +kernel
theorem dL_law_711 : decode cL_law 711 = .ok (.ireturn, 1) := by decide +kernel
theorem dL_law_712 : decode cL_law 712 = .ok (.iload 5, 2) := by decide +kernel
theorem dL_law_714 : decode cL_law 714 = .ok (.ifCond .ne 15, 3) := by decide +kernel
theorem dL_law_717 : decode cL_law 717 = .ok (.aload_n 3, 1) := by decide +kernel
theorem dL_law_718 : decode cL_law 718 = .ok (.iconst 0, 1) := by decide +kernel
theorem dL_law_719 : decode cL_law 719 = .ok (.laload, 1) := by decide +kernel
theorem dL_law_720 : decode cL_law 720 = .ok (.iload 6, 2) := by decide +kernel
theorem dL_law_722 : decode cL_law 722 = .ok (.i2l, 1) := by decide +kernel
theorem dL_law_723 : decode cL_law 723 = .ok (.lcmp, 1) := by decide +kernel
theorem dL_law_724 : decode cL_law 724 = .ok (.ifCond .eq 5, 3) := by decide +kernel
theorem dL_law_727 : decode cL_law 727 = .ok (.iconst 0, 1) := by decide +kernel
theorem dL_law_728 : decode cL_law 728 = .ok (.ireturn, 1) := by decide +kernel
theorem dL_law_729 : decode cL_law 729 = .ok (.goto 893, 3) := by decide +kernel
theorem dL_law_732 : decode cL_law 732 = .ok (.aload_n 1, 1) := by decide +kernel
theorem dL_law_733 : decode cL_law 733 = .ok (.aload_n 0, 1) := by decide +kernel
theorem dL_law_734 : decode cL_law 734 = .ok (.iload 4, 2) := by decide +kernel
theorem dL_law_736 : decode cL_law 736 = .ok (.iconst 1, 1) := by decide +kernel
theorem dL_law_737 : decode cL_law 737 = .ok (.iadd, 1) := by decide +kernel
theorem dL_law_738 : decode cL_law 738 = .ok (.iaload, 1) := by decide +kernel
theorem dL_law_739 : decode cL_law 739 = .ok (.aload_n 0, 1) := by decide +kernel
theorem dL_law_740 : decode cL_law 740 = .ok (.iload 4, 2) := by decide +kernel
theorem dL_law_742 : decode cL_law 742 = .ok (.iconst 2, 1) := by decide +kernel
theorem dL_law_743 : decode cL_law 743 = .ok (.iadd, 1) := by decide +kernel
theorem dL_law_744 : decode cL_law 744 = .ok (.iaload, 1) := by decide +kernel
theorem dL_law_745 : decode cL_law 745 = .ok (.aload_n 3, 1) := by decide +kernel
theorem dL_law_746 : decode cL_law 746 = .ok (.invokestatic 123, 3) := by decide +kernel
theorem dL_law_749 : decode cL_law 749 = .ok (.istore 5, 2) := by decide +kernel
theorem dL_law_751 : decode cL_law 751 = .ok (.aload_n 2, 1) := by decide +kernel
theorem dL_law_752 : decode cL_law 752 = .ok (.aload_n 0, 1) := by decide +kernel
theorem dL_law_753 : decode cL_law 753 = .ok (.iload 4, 2) := by decide +kernel
theorem dL_law_755 : decode cL_law 755 = .ok (.iconst 1, 1) := by decide +kernel
theorem dL_law_756 : decode cL_law 756 = .ok (.iadd, 1) := by decide +kernel
theorem dL_law_757 : decode cL_law 757 = .ok (.iaload, 1) := by decide +kernel
theorem dL_law_758 : decode cL_law 758 = .ok (.aload_n 0, 1) := by decide +kernel
theorem dL_law_759 : decode cL_law 759 = .ok (.iload 4, 2) := by decide +kernel
theorem dL_law_761 : decode cL_law 761 = .ok (.iconst 2, 1) := by decide +kernel
theorem dL_law_762 : decode cL_law 762 = .ok (.iadd, 1) := by decide +kernel
theorem dL_law_763 : decode cL_law 763 = .ok (.iaload, 1) := by decide +kernel
theorem dL_law_764 : decode cL_law 764 = .ok (.invokevirtual 125, 3) := by decide +kernel
theorem dL_law_767 : decode cL_law 767 = .ok (.istore 6, 2) := by decide +kernel
theorem dL_law_769 : decode cL_law 769 = .ok (.aload_n 2, 1) := by decide +kernel
theorem dL_law_770 : decode cL_law 770 = .ok (.invokevirtual 93, 3) := by decide +kernel
theorem dL_law_773 : decode cL_law 773 = .ok (.iload 5, 2) := by decide +kernel
theorem dL_law_775 : decode cL_law 775 = .ok (.if_icmp .eq 5, 3) := by decide +kernel
theorem dL_law_778 : decode cL_law 778 = .ok (.iconst 0, 1) := by decide +kernel
theorem dL_law_779 : decode cL_law 779 = .ok (.ireturn, 1) := by decide +kernel
theorem dL_law_780 : decode cL_law 780 = .ok (.iload 5, 2) := by decide +kernel
theorem dL_law_782 : decode cL_law 782 = .ok (.ifCond .ne 15, 3) := by decide +kernel
theorem dL_law_785 : decode cL_law 785 = .ok (.aload_n 3, 1) := by decide +kernel
theorem dL_law_786 : decode cL_law 786 = .ok (.iconst 0, 1) := by decide +kernel
theorem dL_law_787 : decode cL_law 787 = .ok (.laload, 1) := by decide +kernel
theorem dL_law_788 : decode cL_law 788 = .ok (.iload 6, 2) := by decide +kernel
theorem dL_law_790 : decode cL_law 790 = .ok (.i2l, 1) := by decide +kernel
theorem dL_law_791 : decode cL_law 791 = .ok (.lcmp, 1) := by decide +kernel
theorem dL_law_792 : decode cL_law 792 = .ok (.ifCond .eq 5, 3) := by decide +kernel
theorem dL_law_795 : decode cL_law 795 = .ok (.iconst 0, 1) := by decide +kernel
theorem dL_law_796 : decode cL_law 796 = .ok (.ireturn, 1) := by decide +kernel
theorem dL_law_797 : decode cL_law 797 = .ok (.goto 825, 3) := by decide +kernel
theorem dL_law_800 : decode cL_law 800 = .ok (.aload_n 1, 1) := by decide +kernel
theorem dL_law_801 : decode cL_law 801 = .ok (.aload_n 0, 1) := by decide +kernel
theorem dL_law_802 : decode cL_law 802 = .ok (.iload 4, 2) := by decide +kernel
theorem dL_law_804 : decode cL_law 804 = .ok (.iconst 1, 1) := by decide +kernel
theorem dL_law_805 : decode cL_law 805 = .ok (.iadd, 1) := by decide +kernel
theorem dL_law_806 : decode cL_law 806 = .ok (.iaload, 1) := by decide +kernel
theorem dL_law_807 : decode cL_law 807 = .ok (.aload_n 0, 1) := by decide +kernel
theorem dL_law_808 : decode cL_law 808 = .ok (.iload 4, 2) := by decide +kernel
theorem dL_law_810 : decode cL_law 810 = .ok (.iconst 2, 1) := by decide +kernel
theorem dL_law_811 : decode cL_law 811 = .ok (.iadd, 1) := by decide +kernel
theorem dL_law_812 : decode cL_law 812 = .ok (.iaload, 1) := by decide +kernel
theorem dL_law_813 : decode cL_law 813 = .ok (.aload_n 3, 1) := by decide +kernel
theorem dL_law_814 : decode cL_law 814 = .ok (.invokestatic 126, 3) := by decide +kernel
theorem dL_law_817 : decode cL_law 817 = .ok (.istore 5, 2) := by decide +kernel
theorem dL_law_819 : decode cL_law 819 = .ok (.aload_n 2, 1) := by decide +kernel
theorem dL_law_820 : decode cL_law 820 = .ok (.aload_n 0, 1) := by decide +kernel
theorem dL_law_821 : decode cL_law 821 = .ok (.iload 4, 2) := by decide +kernel
theorem dL_law_823 : decode cL_law 823 = .ok (.iconst 1, 1) := by decide +kernel
theorem dL_law_824 : decode cL_law 824 = .ok (.iadd, 1) := by decide +kernel
theorem dL_law_825 : decode cL_law 825 = .ok (.iaload, 1) := by decide +kernel
theorem dL_law_826 : decode cL_law 826 = .ok (.aload_n 0, 1) := by decide +kernel
theorem dL_law_827 : decode cL_law 827 = .ok (.iload 4, 2) := by decide +kernel
theorem dL_law_829 : decode cL_law 829 = .ok (.iconst 2, 1) := by decide +kernel
theorem dL_law_830 : decode cL_law 830 = .ok (.iadd, 1) := by decide +kernel
theorem dL_law_831 : decode cL_law 831 = .ok (.iaload, 1) := by decide +kernel
theorem dL_law_832 : decode cL_law 832 = .ok (.invokevirtual 128, 3) := by decide +kernel
theorem dL_law_835 : decode cL_law 835 = .ok (.istore 6, 2) := by decide +kernel
theorem dL_law_837 : decode cL_law 837 = .ok (.aload_n 2, 1) := by decide +kernel
theorem dL_law_838 : decode cL_law 838 = .ok (.invokevirtual 93, 3) := by decide +kernel
theorem dL_law_841 : decode cL_law 841 = .ok (.iload 5, 2) := by decide +kernel
theorem dL_law_843 : decode cL_law 843 = .ok (.if_icmp .eq 5, 3) := by decide +kernel
theorem dL_law_846 : decode cL_law 846 = .ok (.iconst 0, 1) := by decide +kernel
theorem dL_law_847 : decode cL_law 847 = .ok (.ireturn, 1) := by decide +kernel
theorem dL_law_848 : decode cL_law 848 = .ok (.iload 5, 2) := by decide +kernel
theorem dL_law_850 : decode cL_law 850 = .ok (.ifCond .ne 15, 3) := by decide +kernel
theorem dL_law_853 : decode cL_law 853 = .ok (.aload_n 3, 1) := by decide +kernel
theorem dL_law_854 : decode cL_law 854 = .ok (.iconst 0, 1) := by decide +kernel
theorem dL_law_855 : decode cL_law 855 = .ok (.laload, 1) := by decide +kernel
theorem dL_law_856 : decode cL_law 856 = .ok (.iload 6, 2) := by decide +kernel
theorem dL_law_858 : decode cL_law 858 = .ok (.i2l, 1) := by decide +kernel
theorem dL_law_859 : decode cL_law 859 = .ok (.lcmp, 1) := by decide +kernel
theorem dL_law_860 : decode cL_law 860 = .ok (.ifCond .eq 5, 3) := by decide +kernel
theorem dL_law_863 : decode cL_law 863 = .ok (.iconst 0, 1) := by decide +kernel
theorem dL_law_864 : decode cL_law 864 = .ok (.ireturn, 1) := by decide +kernel
theorem dL_law_865 : decode cL_law 865 = .ok (.goto 757, 3) := by decide +kernel
theorem dL_law_868 : decode cL_law 868 = .ok (.aload_n 1, 1) := by decide +kernel
theorem dL_law_869 : decode cL_law 869 = .ok (.aload_n 0, 1) := by decide +kernel
theorem dL_law_870 : decode cL_law 870 = .ok (.iload 4, 2) := by decide +kernel
theorem dL_law_872 : decode cL_law 872 = .ok (.iconst 1, 1) := by decide +kernel
theorem dL_law_873 : decode cL_law 873 = .ok (.iadd, 1) := by decide +kernel
theorem dL_law_874 : decode cL_law 874 = .ok (.iaload, 1) := by decide +kernel
theorem dL_law_875 : decode cL_law 875 = .ok (.aload_n 3, 1) := by decide +kernel
theorem dL_law_876 : decode cL_law 876 = .ok (.invokestatic 129, 3) := by decide +kernel
theorem dL_law_879 : decode cL_law 879 = .ok (.istore 5, 2) := by decide +kernel
theorem dL_law_881 : decode cL_law 881 = .ok (.aload_n 2, 1) := by decide +kernel
theorem dL_law_882 : decode cL_law 882 = .ok (.aload_n 0, 1) := by decide +kernel
theorem dL_law_883 : decode cL_law 883 = .ok (.iload 4, 2) := by decide +kernel
theorem dL_law_885 : decode cL_law 885 = .ok (.iconst 1, 1) := by decide +kernel
theorem dL_law_886 : decode cL_law 886 = .ok (.iadd, 1) := by decide +kernel
theorem dL_law_887 : decode cL_law 887 = .ok (.iaload, 1) := by decide +kernel
theorem dL_law_888 : decode cL_law 888 = .ok (.invokevirtual 131, 3) := by decide +kernel
theorem dL_law_891 : decode cL_law 891 = .ok (.istore 6, 2) := by decide +kernel
theorem dL_law_893 : decode cL_law 893 = .ok (.aload_n 2, 1) := by decide +kernel
theorem dL_law_894 : decode cL_law 894 = .ok (.invokevirtual 93, 3) := by decide +kernel
theorem dL_law_897 : decode cL_law 897 = .ok (.iload 5, 2) := by decide +kernel
theorem dL_law_899 : decode cL_law 899 = .ok (.if_icmp .eq 5, 3) := by decide +kernel
theorem dL_law_902 : decode cL_law 902 = .ok (.iconst 0, 1) := by decide +kernel
theorem dL_law_903 : decode cL_law 903 = .ok (.ireturn, 1) := by decide +kernel
theorem dL_law_904 : decode cL_law 904 = .ok (.iload 5, 2) := by decide +kernel
theorem dL_law_906 : decode cL_law 906 = .ok (.ifCond .ne 15, 3) := by decide +kernel
theorem dL_law_909 : decode cL_law 909 = .ok (.aload_n 3, 1) := by decide +kernel
theorem dL_law_910 : decode cL_law 910 = .ok (.iconst 0, 1) := by decide +kernel
theorem dL_law_911 : decode cL_law 911 = .ok (.laload, 1) := by decide +kernel
theorem dL_law_912 : decode cL_law 912 = .ok (.iload 6, 2) := by decide +kernel
theorem dL_law_914 : decode cL_law 914 = .ok (.i2l, 1) := by decide +kernel
theorem dL_law_915 : decode cL_law 915 = .ok (.lcmp, 1) := by decide +kernel
theorem dL_law_916 : decode cL_law 916 = .ok (.ifCond .eq 5, 3) := by decide +kernel
theorem dL_law_919 : decode cL_law 919 = .ok (.iconst 0, 1) := by decide +kernel
theorem dL_law_920 : decode cL_law 920 = .ok (.ireturn, 1) := by decide +kernel
theorem dL_law_921 : decode cL_law 921 = .ok (.goto 701, 3) := by decide +kernel
theorem dL_law_924 : decode cL_law 924 = .ok (.aload_n 1, 1) := by decide +kernel
theorem dL_law_925 : decode cL_law 925 = .ok (.aload_n 0, 1) := by decide +kernel
theorem dL_law_926 : decode cL_law 926 = .ok (.iload 4, 2) := by decide +kernel
theorem dL_law_928 : decode cL_law 928 = .ok (.iconst 1, 1) := by decide +kernel
theorem dL_law_929 : decode cL_law 929 = .ok (.iadd, 1) := by decide +kernel
theorem dL_law_930 : decode cL_law 930 = .ok (.iaload, 1) := by decide +kernel
theorem dL_law_931 : decode cL_law 931 = .ok (.aload_n 0, 1) := by decide +kernel
theorem dL_law_932 : decode cL_law 932 = .ok (.iload 4, 2) := by decide +kernel
theorem dL_law_934 : decode cL_law 934 = .ok (.iconst 2, 1) := by decide +kernel
theorem dL_law_935 : decode cL_law 935 = .ok (.iadd, 1) := by decide +kernel
theorem dL_law_936 : decode cL_law 936 = .ok (.iaload, 1) := by decide +kernel
theorem dL_law_937 : decode cL_law 937 = .ok (.ifCond .eq 7, 3) := by decide +kernel
theorem dL_law_940 : decode cL_law 940 = .ok (.iconst 1, 1) := by decide +kernel
theorem dL_law_941 : decode cL_law 941 = .ok (.goto 4, 3) := by decide +kernel
theorem dL_law_944 : decode cL_law 944 = .ok (.iconst 0, 1) := by decide +kernel
theorem dL_law_945 : decode cL_law 945 = .ok (.aload_n 3, 1) := by decide +kernel
theorem dL_law_946 : decode cL_law 946 = .ok (.invokestatic 132, 3) := by decide +kernel
theorem dL_law_949 : decode cL_law 949 = .ok (.istore 5, 2) := by decide +kernel
theorem dL_law_951 : decode cL_law 951 = .ok (.aload_n 2, 1) := by decide +kernel
theorem dL_law_952 : decode cL_law 952 = .ok (.aload_n 0, 1) := by decide +kernel
theorem dL_law_953 : decode cL_law 953 = .ok (.iload 4, 2) := by decide +kernel
theorem dL_law_955 : decode cL_law 955 = .ok (.iconst 1, 1) := by decide +kernel
theorem dL_law_956 : decode cL_law 956 = .ok (.iadd, 1) := by decide +kernel
theorem dL_law_957 : decode cL_law 957 = .ok (.iaload, 1) := by decide +kernel
theorem dL_law_958 : decode cL_law 958 = .ok (.aload_n 0, 1) := by decide +kernel
theorem dL_law_959 : decode cL_law 959 = .ok (.iload 4, 2) := by decide +kernel
theorem dL_law_961 : decode cL_law 961 = .ok (.iconst 2, 1) := by decide +kernel
theorem dL_law_962 : decode cL_law 962 = .ok (.iadd, 1) := by decide +kernel
theorem dL_law_963 : decode cL_law 963 = .ok (.iaload, 1) := by decide +kernel
theorem dL_law_964 : decode cL_law 964 = .ok (.ifCond .eq 7, 3) := by decide +kernel
theorem dL_law_967 : decode cL_law 967 = .ok (.iconst 1, 1) := by decide +kernel
theorem dL_law_968 : decode cL_law 968 = .ok (.goto 4, 3) := by decide +kernel
theorem dL_law_971 : decode cL_law 971 = .ok (.iconst 0, 1) := by decide +kernel
theorem dL_law_972 : decode cL_law 972 = .ok (.invokevirtual 135, 3) := by decide +kernel
theorem dL_law_975 : decode cL_law 975 = .ok (.istore 6, 2) := by decide +kernel
theorem dL_law_977 : decode cL_law 977 = .ok (.aload_n 2, 1) := by decide +kernel
theorem dL_law_978 : decode cL_law 978 = .ok (.invokevirtual 93, 3) := by decide +kernel
theorem dL_law_981 : decode cL_law 981 = .ok (.iload 5, 2) := by decide +kernel
theorem dL_law_983 : decode cL_law 983 = .ok (.if_icmp .eq 5, 3) := by decide +kernel
theorem dL_law_986 : decode cL_law 986 = .ok (.iconst 0, 1) := by decide +kernel
theorem dL_law_987 : decode cL_law 987 = .ok (.ireturn, 1) := by decide +kernel
theorem dL_law_988 : decode cL_law 988 = .ok (.iload 5, 2) := by decide +kernel
theorem dL_law_990 : decode cL_law 990 = .ok (.ifCond .ne 15, 3) := by decide +kernel
theorem dL_law_993 : decode cL_law 993 = .ok (.aload_n 3, 1) := by decide +kernel
theorem dL_law_994 : decode cL_law 994 = .ok (.iconst 0, 1) := by decide +kernel
theorem dL_law_995 : decode cL_law 995 = .ok (.laload, 1) := by decide +kernel
theorem dL_law_996 : decode cL_law 996 = .ok (.iload 6, 2) := by decide +kernel
theorem dL_law_998 : decode cL_law 998 = .ok (.i2l, 1) := by decide +kernel
theorem dL_law_999 : decode cL_law 999 = .ok (.lcmp, 1) := by decide +kernel
theorem dL_law_1000 : decode cL_law 1000 = .ok (.ifCond .eq 5, 3) := by decide +kernel
theorem dL_law_1003 : decode cL_law 1003 = .ok (.iconst 0, 1) := by decide +kernel
theorem dL_law_1004 : decode cL_law 1004 = .ok (.ireturn, 1) := by decide +kernel
theorem dL_law_1005 : decode cL_law 1005 = .ok (.goto 617, 3) := by decide +kernel
theorem dL_law_1008 : decode cL_law 1008 = .ok (.aload_n 1, 1) := by decide +kernel
theorem dL_law_1009 : decode cL_law 1009 = .ok (.aload_n 0, 1) := by decide +kernel
theorem dL_law_1010 : decode cL_law 1010 = .ok (.iload 4, 2) := by decide +kernel
theorem dL_law_1012 : decode cL_law 1012 = .ok (.iconst 1, 1) := by decide +kernel
theorem dL_law_1013 : decode cL_law 1013 = .ok (.iadd, 1) := by decide +kernel
theorem dL_law_1014 : decode cL_law 1014 = .ok (.iaload, 1) := by decide +kernel
theorem dL_law_1015 : decode cL_law 1015 = .ok (.aload_n 0, 1) := by decide +kernel
theorem dL_law_1016 : decode cL_law 1016 = .ok (.iload 4, 2) := by decide +kernel
theorem dL_law_1018 : decode cL_law 1018 = .ok (.iconst 2, 1) := by decide +kernel
theorem dL_law_1019 : decode cL_law 1019 = .ok (.iadd, 1) := by decide +kernel
theorem dL_law_1020 : decode cL_law 1020 = .ok (.iaload, 1) := by decide +kernel
theorem dL_law_1021 : decode cL_law 1021 = .ok (.aload_n 3, 1) := by decide +kernel
theorem dL_law_1022 : decode cL_law 1022 = .ok (.invokestatic 136, 3) := by decide +kernel
theorem dL_law_1025 : decode cL_law 1025 = .ok (.istore 5, 2) := by decide +kernel
theorem dL_law_1027 : decode cL_law 1027 = .ok (.aload_n 2, 1) := by decide +kernel
theorem dL_law_1028 : decode cL_law 1028 = .ok (.aload_n 0, 1) := by decide +kernel
theorem dL_law_1029 : decode cL_law 1029 = .ok (.iload 4, 2) := by decide +kernel
theorem dL_law_1031 : decode cL_law 1031 = .ok (.iconst 1, 1) := by decide +kernel
theorem dL_law_1032 : decode cL_law 1032 = .ok (.iadd, 1) := by decide +kernel
theorem dL_law_1033 : decode cL_law 1033 = .ok (.iaload, 1) := by decide +kernel
theorem dL_law_1034 : decode cL_law 1034 = .ok (.aload_n 0, 1) := by decide +kernel
theorem dL_law_1035 : decode cL_law 1035 = .ok (.iload 4, 2) := by decide +kernel
theorem dL_law_1037 : decode cL_law 1037 = .ok (.iconst 2, 1) := by decide +kernel
theorem dL_law_1038 : decode cL_law 1038 = .ok (.iadd, 1) := by decide +kernel
theorem dL_law_1039 : decode cL_law 1039 = .ok (.iaload, 1) := by decide +kernel
theorem dL_law_1040 : decode cL_law 1040 = .ok (.invokevirtual 138, 3) := by decide +kernel
theorem dL_law_1043 : decode cL_law 1043 = .ok (.istore 6, 2) := by decide +kernel
theorem dL_law_1045 : decode cL_law 1045 = .ok (.aload_n 2, 1) := by decide +kernel
theorem dL_law_1046 : decode cL_law 1046 = .ok (.invokevirtual 93, 3) := by decide +kernel
theorem dL_law_1049 : decode cL_law 1049 = .ok (.iload 5, 2) := by decide +kernel
theorem dL_law_1051 : decode cL_law 1051 = .ok (.if_icmp .eq 5, 3) := by decide +kernel
theorem dL_law_1054 : decode cL_law 1054 = .ok (.iconst 0, 1) := by decide +kernel
theorem dL_law_1055 : decode cL_law 1055 = .ok (.ireturn, 1) := by decide +kernel
theorem dL_law_1056 : decode cL_law 1056 = .ok (.iload 5, 2) := by decide +kernel
theorem dL_law_1058 : decode cL_law 1058 = .ok (.ifCond .ne 15, 3) := by decide +kernel
theorem dL_law_1061 : decode cL_law 1061 = .ok (.aload_n 3, 1) := by decide +kernel
theorem dL_law_1062 : decode cL_law 1062 = .ok (.iconst 0, 1) := by decide +kernel
theorem dL_law_1063 : decode cL_law 1063 = .ok (.laload, 1) := by decide +kernel
theorem dL_law_1064 : decode cL_law 1064 = .ok (.iload 6, 2) := by decide +kernel
theorem dL_law_1066 : decode cL_law 1066 = .ok (.i2l, 1) := by decide +kernel
theorem dL_law_1067 : decode cL_law 1067 = .ok (.lcmp, 1) := by decide +kernel
theorem dL_law_1068 : decode cL_law 1068 = .ok (.ifCond .eq 5, 3) := by decide +kernel
theorem dL_law_1071 : decode cL_law 1071 = .ok (.iconst 0, 1) := by decide +kernel
theorem dL_law_1072 : decode cL_law 1072 = .ok (.ireturn, 1) := by decide +kernel
theorem dL_law_1073 : decode cL_law 1073 = .ok (.goto 549, 3) := by decide +kernel
theorem dL_law_1076 : decode cL_law 1076 = .ok (.aload_n 1, 1) := by decide +kernel
theorem dL_law_1077 : decode cL_law 1077 = .ok (.aload_n 0, 1) := by decide +kernel
theorem dL_law_1078 : decode cL_law 1078 = .ok (.iload 4, 2) := by decide +kernel
theorem dL_law_1080 : decode cL_law 1080 = .ok (.iconst 1, 1) := by decide +kernel
theorem dL_law_1081 : decode cL_law 1081 = .ok (.iadd, 1) := by decide +kernel
theorem dL_law_1082 : decode cL_law 1082 = .ok (.iaload, 1) := by decide +kernel
theorem dL_law_1083 : decode cL_law 1083 = .ok (.aload_n 0, 1) := by decide +kernel
theorem dL_law_1084 : decode cL_law 1084 = .ok (.iload 4, 2) := by decide +kernel
theorem dL_law_1086 : decode cL_law 1086 = .ok (.iconst 2, 1) := by decide +kernel
theorem dL_law_1087 : decode cL_law 1087 = .ok (.iadd, 1) := by decide +kernel
theorem dL_law_1088 : decode cL_law 1088 = .ok (.iaload, 1) := by decide +kernel
theorem dL_law_1089 : decode cL_law 1089 = .ok (.aload_n 3, 1) := by decide +kernel
theorem dL_law_1090 : decode cL_law 1090 = .ok (.invokestatic 139, 3) := by decide +kernel
theorem dL_law_1093 : decode cL_law 1093 = .ok (.istore 5, 2) := by decide +kernel
theorem dL_law_1095 : decode cL_law 1095 = .ok (.aload_n 2, 1) := by decide +kernel
theorem dL_law_1096 : decode cL_law 1096 = .ok (.aload_n 0, 1) := by decide +kernel
theorem dL_law_1097 : decode cL_law 1097 = .ok (.iload 4, 2) := by decide +kernel
theorem dL_law_1099 : decode cL_law 1099 = .ok (.iconst 1, 1) := by decide +kernel
theorem dL_law_1100 : decode cL_law 1100 = .ok (.iadd, 1) := by decide +kernel
theorem dL_law_1101 : decode cL_law 1101 = .ok (.iaload, 1) := by decide +kernel
theorem dL_law_1102 : decode cL_law 1102 = .ok (.aload_n 0, 1) := by decide +kernel
theorem dL_law_1103 : decode cL_law 1103 = .ok (.iload 4, 2) := by decide +kernel
theorem dL_law_1105 : decode cL_law 1105 = .ok (.iconst 2, 1) := by decide +kernel
theorem dL_law_1106 : decode cL_law 1106 = .ok (.iadd, 1) := by decide +kernel
theorem dL_law_1107 : decode cL_law 1107 = .ok (.iaload, 1) := by decide +kernel
theorem dL_law_1108 : decode cL_law 1108 = .ok (.invokevirtual 141, 3) := by decide +kernel
theorem dL_law_1111 : decode cL_law 1111 = .ok (.istore 6, 2) := by decide +kernel
theorem dL_law_1113 : decode cL_law 1113 = .ok (.aload_n 2, 1) := by decide +kernel
theorem dL_law_1114 : decode cL_law 1114 = .ok (.invokevirtual 93, 3) := by decide +kernel
theorem dL_law_1117 : decode cL_law 1117 = .ok (.iload 5, 2) := by decide +kernel
theorem dL_law_1119 : decode cL_law 1119 = .ok (.if_icmp .eq 5, 3) := by decide +kernel
theorem dL_law_1122 : decode cL_law 1122 = .ok (.iconst 0, 1) := by decide +kernel
theorem dL_law_1123 : decode cL_law 1123 = .ok (.ireturn, 1) := by decide +kernel
theorem dL_law_1124 : decode cL_law 1124 = .ok (.iload 5, 2) := by decide +kernel
theorem dL_law_1126 : decode cL_law 1126 = .ok (.ifCond .ne 15, 3) := by decide +kernel
theorem dL_law_1129 : decode cL_law 1129 = .ok (.aload_n 3, 1) := by decide +kernel
theorem dL_law_1130 : decode cL_law 1130 = .ok (.iconst 0, 1) := by decide +kernel
theorem dL_law_1131 : decode cL_law 1131 = .ok (.laload, 1) := by decide +kernel
theorem dL_law_1132 : decode cL_law 1132 = .ok (.iload 6, 2) := by decide +kernel
theorem dL_law_1134 : decode cL_law 1134 = .ok (.i2l, 1) := by decide +kernel
theorem dL_law_1135 : decode cL_law 1135 = .ok (.lcmp, 1) := by decide +kernel
theorem dL_law_1136 : decode cL_law 1136 = .ok (.ifCond .eq 5, 3) := by decide +kernel
theorem dL_law_1139 : decode cL_law 1139 = .ok (.iconst 0, 1) := by decide +kernel
theorem dL_law_1140 : decode cL_law 1140 = .ok (.ireturn, 1) := by decide +kernel
theorem dL_law_1141 : decode cL_law 1141 = .ok (.goto 481, 3) := by decide +kernel
theorem dL_law_1144 : decode cL_law 1144 = .ok (.aload_n 1, 1) := by decide +kernel
theorem dL_law_1145 : decode cL_law 1145 = .ok (.aload_n 0, 1) := by decide +kernel
theorem dL_law_1146 : decode cL_law 1146 = .ok (.iload 4, 2) := by decide +kernel
theorem dL_law_1148 : decode cL_law 1148 = .ok (.iconst 1, 1) := by decide +kernel
theorem dL_law_1149 : decode cL_law 1149 = .ok (.iadd, 1) := by decide +kernel
theorem dL_law_1150 : decode cL_law 1150 = .ok (.iaload, 1) := by decide +kernel
theorem dL_law_1151 : decode cL_law 1151 = .ok (.aload_n 0, 1) := by decide +kernel
theorem dL_law_1152 : decode cL_law 1152 = .ok (.iload 4, 2) := by decide +kernel
theorem dL_law_1154 : decode cL_law 1154 = .ok (.iconst 2, 1) := by decide +kernel
theorem dL_law_1155 : decode cL_law 1155 = .ok (.iadd, 1) := by decide +kernel
theorem dL_law_1156 : decode cL_law 1156 = .ok (.iaload, 1) := by decide +kernel
theorem dL_law_1157 : decode cL_law 1157 = .ok (.aload_n 0, 1) := by decide +kernel
theorem dL_law_1158 : decode cL_law 1158 = .ok (.iload 4, 2) := by decide +kernel
theorem dL_law_1160 : decode cL_law 1160 = .ok (.iconst 3, 1) := by decide +kernel
theorem dL_law_1161 : decode cL_law 1161 = .ok (.iadd, 1) := by decide +kernel
theorem dL_law_1162 : decode cL_law 1162 = .ok (.iaload, 1) := by decide +kernel
theorem dL_law_1163 : decode cL_law 1163 = .ok (.aload_n 3, 1) := by decide +kernel
theorem dL_law_1164 : decode cL_law 1164 = .ok (.invokestatic 142, 3) := by decide +kernel
theorem dL_law_1167 : decode cL_law 1167 = .ok (.istore 5, 2) := by decide +kernel
theorem dL_law_1169 : decode cL_law 1169 = .ok (.aload_n 2, 1) := by decide +kernel
theorem dL_law_1170 : decode cL_law 1170 = .ok (.aload_n 0, 1) := by decide +kernel
theorem dL_law_1171 : decode cL_law 1171 = .ok (.iload 4, 2) := by decide +kernel
theorem dL_law_1173 : decode cL_law 1173 = .ok (.iconst 1, 1) := by decide +kernel
theorem dL_law_1174 : decode cL_law 1174 = .ok (.iadd, 1) := by decide +kernel
theorem dL_law_1175 : decode cL_law 1175 = .ok (.iaload, 1) := by decide +kernel
theorem dL_law_1176 : decode cL_law 1176 = .ok (.aload_n 0, 1) := by decide +kernel
theorem dL_law_1177 : decode cL_law 1177 = .ok (.iload 4, 2) := by decide +kernel
theorem dL_law_1179 : decode cL_law 1179 = .ok (.iconst 2, 1) := by decide +kernel
theorem dL_law_1180 : decode cL_law 1180 = .ok (.iadd, 1) := by decide +kernel
theorem dL_law_1181 : decode cL_law 1181 = .ok (.iaload, 1) := by decide +kernel
theorem dL_law_1182 : decode cL_law 1182 = .ok (.aload_n 0, 1) := by decide +kernel
theorem dL_law_1183 : decode cL_law 1183 = .ok (.iload 4, 2) := by decide +kernel
theorem dL_law_1185 : decode cL_law 1185 = .ok (.iconst 3, 1) := by decide +kernel
theorem dL_law_1186 : decode cL_law 1186 = .ok (.iadd, 1) := by decide +kernel
theorem dL_law_1187 : decode cL_law 1187 = .ok (.iaload, 1) := by decide +kernel
theorem dL_law_1188 : decode cL_law 1188 = .ok (.invokevirtual 144, 3) := by decide +kernel
theorem dL_law_1191 : decode cL_law 1191 = .ok (.istore 6, 2) := by decide +kernel
theorem dL_law_1193 : decode cL_law 1193 = .ok (.aload_n 2, 1) := by decide +kernel
theorem dL_law_1194 : decode cL_law 1194 = .ok (.invokevirtual 93, 3) := by decide +kernel
theorem dL_law_1197 : decode cL_law 1197 = .ok (.iload 5, 2) := by decide +kernel
theorem dL_law_1199 : decode cL_law 1199 = .ok (.if_icmp .eq 5, 3) := by decide +kernel
theorem dL_law_1202 : decode cL_law 1202 = .ok (.iconst 0, 1) := by decide +kernel
theorem dL_law_1203 : decode cL_law 1203 = .ok (.ireturn, 1) := by decide +kernel
theorem dL_law_1204 : decode cL_law 1204 = .ok (.iload 5, 2) := by decide +kernel
theorem dL_law_1206 : decode cL_law 1206 = .ok (.ifCond .ne 15, 3) := by decide +kernel
theorem dL_law_1209 : decode cL_law 1209 = .ok (.aload_n 3, 1) := by decide +kernel
theorem dL_law_1210 : decode cL_law 1210 = .ok (.iconst 0, 1) := by decide +kernel
theorem dL_law_1211 : decode cL_law 1211 = .ok (.laload, 1) := by decide +kernel
theorem dL_law_1212 : decode cL_law 1212 = .ok (.iload 6, 2) := by decide +kernel
theorem dL_law_1214 : decode cL_law 1214 = .ok (.i2l, 1) := by decide +kernel
theorem dL_law_1215 : decode cL_law 1215 = .ok (.lcmp, 1) := by decide +kernel
theorem dL_law_1216 : decode cL_law 1216 = .ok (.ifCond .eq 5, 3) := by decide +kernel
theorem dL_law_1219 : decode cL_law 1219 = .ok (.iconst 0, 1) := by decide +kernel
theorem dL_law_1220 : decode cL_law 1220 = .ok (.ireturn, 1) := by decide +kernel
theorem dL_law_1221 : decode cL_law 1221 = .ok (.goto 401, 3) := by decide +kernel
theorem dL_law_1224 : decode cL_law 1224 = .ok (.aload_n 1, 1) := by decide +kernel
theorem dL_law_1225 : decode cL_law 1225 = .ok (.aload_n 0, 1) := by decide +kernel
theorem dL_law_1226 : decode cL_law 1226 = .ok (.iload 4, 2) := by decide +kernel
theorem dL_law_1228 : decode cL_law 1228 = .ok (.iconst 1, 1) := by decide +kernel
theorem dL_law_1229 : decode cL_law 1229 = .ok (.iadd, 1) := by decide +kernel
theorem dL_law_1230 : decode cL_law 1230 = .ok (.iaload, 1) := by decide +kernel
theorem dL_law_1231 : decode cL_law 1231 = .ok (.aload_n 0, 1) := by decide +kernel
theorem dL_law_1232 : decode cL_law 1232 = .ok (.iload 4, 2) := by decide +kernel
theorem dL_law_1234 : decode cL_law 1234 = .ok (.iconst 2, 1) := by decide +kernel
theorem dL_law_1235 : decode cL_law 1235 = .ok (.iadd, 1) := by decide +kernel
theorem dL_law_1236 : decode cL_law 1236 = .ok (.iaload, 1) := by decide +kernel
theorem dL_law_1237 : decode cL_law 1237 = .ok (.aload_n 0, 1) := by decide +kernel
theorem dL_law_1238 : decode cL_law 1238 = .ok (.iload 4, 2) := by decide +kernel
theorem dL_law_1240 : decode cL_law 1240 = .ok (.iconst 3, 1) := by decide +kernel
theorem dL_law_1241 : decode cL_law 1241 = .ok (.iadd, 1) := by decide +kernel
theorem dL_law_1242 : decode cL_law 1242 = .ok (.iaload, 1) := by decide +kernel
theorem dL_law_1243 : decode cL_law 1243 = .ok (.aload_n 3, 1) := by decide +kernel
theorem dL_law_1244 : decode cL_law 1244 = .ok (.invokestatic 145, 3) := by decide +kernel
theorem dL_law_1247 : decode cL_law 1247 = .ok (.istore 5, 2) := by decide +kernel
theorem dL_law_1249 : decode cL_law 1249 = .ok (.aload_n 2, 1) := by decide +kernel
theorem dL_law_1250 : decode cL_law 1250 = .ok (.aload_n 0, 1) := by decide +kernel
theorem dL_law_1251 : decode cL_law 1251 = .ok (.iload 4, 2) := by decide +kernel
theorem dL_law_1253 : decode cL_law 1253 = .ok (.iconst 1, 1) := by decide +kernel
theorem dL_law_1254 : decode cL_law 1254 = .ok (.iadd, 1) := by decide +kernel
theorem dL_law_1255 : decode cL_law 1255 = .ok (.iaload, 1) := by decide +kernel
theorem dL_law_1256 : decode cL_law 1256 = .ok (.aload_n 0, 1) := by decide +kernel
theorem dL_law_1257 : decode cL_law 1257 = .ok (.iload 4, 2) := by decide +kernel
theorem dL_law_1259 : decode cL_law 1259 = .ok (.iconst 2, 1) := by decide +kernel
theorem dL_law_1260 : decode cL_law 1260 = .ok (.iadd, 1) := by decide +kernel
theorem dL_law_1261 : decode cL_law 1261 = .ok (.iaload, 1) := by decide +kernel
theorem dL_law_1262 : decode cL_law 1262 = .ok (.aload_n 0, 1) := by decide +kernel
theorem dL_law_1263 : decode cL_law 1263 = .ok (.iload 4, 2) := by decide +kernel
theorem dL_law_1265 : decode cL_law 1265 = .ok (.iconst 3, 1) := by decide +kernel
theorem dL_law_1266 : decode cL_law 1266 = .ok (.iadd, 1) := by decide +kernel
theorem dL_law_1267 : decode cL_law 1267 = .ok (.iaload, 1) := by decide +kernel
theorem dL_law_1268 : decode cL_law 1268 = .ok (.invokevirtual 147, 3) := by decide +kernel
theorem dL_law_1271 : decode cL_law 1271 = .ok (.istore 6, 2) := by decide +kernel
theorem dL_law_1273 : decode cL_law 1273 = .ok (.aload_n 2, 1) := by decide +kernel
theorem dL_law_1274 : decode cL_law 1274 = .ok (.invokevirtual 93, 3) := by decide +kernel
theorem dL_law_1277 : decode cL_law 1277 = .ok (.iload 5, 2) := by decide +kernel
theorem dL_law_1279 : decode cL_law 1279 = .ok (.if_icmp .eq 5, 3) := by decide +kernel
theorem dL_law_1282 : decode cL_law 1282 = .ok (.iconst 0, 1) := by decide +kernel
theorem dL_law_1283 : decode cL_law 1283 = .ok (.ireturn, 1) := by decide +kernel
theorem dL_law_1284 : decode cL_law 1284 = .ok (.iload 5, 2) := by decide +kernel
theorem dL_law_1286 : decode cL_law 1286 = .ok (.ifCond .ne 15, 3) := by decide +kernel
theorem dL_law_1289 : decode cL_law 1289 = .ok (.aload_n 3, 1) := by decide +kernel
theorem dL_law_1290 : decode cL_law 1290 = .ok (.iconst 0, 1) := by decide +kernel
theorem dL_law_1291 : decode cL_law 1291 = .ok (.laload, 1) := by decide +kernel
theorem dL_law_1292 : decode cL_law 1292 = .ok (.iload 6, 2) := by decide +kernel
theorem dL_law_1294 : decode cL_law 1294 = .ok (.i2l, 1) := by decide +kernel
theorem dL_law_1295 : decode cL_law 1295 = .ok (.lcmp, 1) := by decide +kernel
theorem dL_law_1296 : decode cL_law 1296 = .ok (.ifCond .eq 5, 3) := by decide +kernel
theorem dL_law_1299 : decode cL_law 1299 = .ok (.iconst 0, 1) := by decide +kernel
theorem dL_law_1300 : decode cL_law 1300 = .ok (.ireturn, 1) := by decide +kernel
theorem dL_law_1301 : decode cL_law 1301 = .ok (.goto 321, 3) := by decide +kernel
theorem dL_law_1304 : decode cL_law 1304 = .ok (.aload_n 1, 1) := by decide +kernel
theorem dL_law_1305 : decode cL_law 1305 = .ok (.aload_n 0, 1) := by decide +kernel
theorem dL_law_1306 : decode cL_law 1306 = .ok (.iload 4, 2) := by decide +kernel
theorem dL_law_1308 : decode cL_law 1308 = .ok (.iconst 1, 1) := by decide +kernel
theorem dL_law_1309 : decode cL_law 1309 = .ok (.iadd, 1) := by decide +kernel
theorem dL_law_1310 : decode cL_law 1310 = .ok (.iaload, 1) := by decide +kernel
theorem dL_law_1311 : decode cL_law 1311 = .ok (.aload_n 0, 1) := by decide +kernel
theorem dL_law_1312 : decode cL_law 1312 = .ok (.iload 4, 2) := by decide +kernel
theorem dL_law_1314 : decode cL_law 1314 = .ok (.iconst 2, 1) := by decide +kernel
theorem dL_law_1315 : decode cL_law 1315 = .ok (.iadd, 1) := by decide +kernel
theorem dL_law_1316 : decode cL_law 1316 = .ok (.iaload, 1) := by decide +kernel
theorem dL_law_1317 : decode cL_law 1317 = .ok (.aload_n 3, 1) := by decide +kernel
theorem dL_law_1318 : decode cL_law 1318 = .ok (.invokestatic 148, 3) := by decide +kernel
theorem dL_law_1321 : decode cL_law 1321 = .ok (.istore 5, 2) := by decide +kernel
theorem dL_law_1323 : decode cL_law 1323 = .ok (.aload_n 2, 1) := by decide +kernel
theorem dL_law_1324 : decode cL_law 1324 = .ok (.aload_n 0, 1) := by decide +kernel
theorem dL_law_1325 : decode cL_law 1325 = .ok (.iload 4, 2) := by decide +kernel
theorem dL_law_1327 : decode cL_law 1327 = .ok (.iconst 1, 1) := by decide +kernel
theorem dL_law_1328 : decode cL_law 1328 = .ok (.iadd, 1) := by decide +kernel
theorem dL_law_1329 : decode cL_law 1329 = .ok (.iaload, 1) := by decide +kernel
theorem dL_law_1330 : decode cL_law 1330 = .ok (.aload_n 0, 1) := by decide +kernel
theorem dL_law_1331 : decode cL_law 1331 = .ok (.iload 4, 2) := by decide +kernel
theorem dL_law_1333 : decode cL_law 1333 = .ok (.iconst 2, 1) := by decide +kernel
theorem dL_law_1334 : decode cL_law 1334 = .ok (.iadd, 1) := by decide +kernel
theorem dL_law_1335 : decode cL_law 1335 = .ok (.iaload, 1) := by decide +kernel
theorem dL_law_1336 : decode cL_law 1336 = .ok (.invokevirtual 150, 3) := by decide +kernel
theorem dL_law_1339 : decode cL_law 1339 = .ok (.istore 6, 2) := by decide +kernel
theorem dL_law_1341 : decode cL_law 1341 = .ok (.aload_n 2, 1) := by decide +kernel
theorem dL_law_1342 : decode cL_law 1342 = .ok (.invokevirtual 93, 3) := by decide +kernel
theorem dL_law_1345 : decode cL_law 1345 = .ok (.iload 5, 2) := by decide +kernel
theorem dL_law_1347 : decode cL_law 1347 = .ok (.if_icmp .eq 5, 3) := by decide +kernel
theorem dL_law_1350 : decode cL_law 1350 = .ok (.iconst 0, 1) := by decide +kernel
theorem dL_law_1351 : decode cL_law 1351 = .ok (.ireturn, 1) := by decide +kernel
theorem dL_law_1352 : decode cL_law 1352 = .ok (.iload 5, 2) := by decide +kernel
theorem dL_law_1354 : decode cL_law 1354 = .ok (.ifCond .ne 15, 3) := by decide +kernel
theorem dL_law_1357 : decode cL_law 1357 = .ok (.aload_n 3, 1) := by decide +kernel
theorem dL_law_1358 : decode cL_law 1358 = .ok (.iconst 0, 1) := by decide +kernel
theorem dL_law_1359 : decode cL_law 1359 = .ok (.laload, 1) := by decide +kernel
theorem dL_law_1360 : decode cL_law 1360 = .ok (.iload 6, 2) := by decide +kernel
theorem dL_law_1362 : decode cL_law 1362 = .ok (.i2l, 1) := by decide +kernel
theorem dL_law_1363 : decode cL_law 1363 = .ok (.lcmp, 1) := by decide +kernel
theorem dL_law_1364 : decode cL_law 1364 = .ok (.ifCond .eq 5, 3) := by decide +kernel
theorem dL_law_1367 : decode cL_law 1367 = .ok (.iconst 0, 1) := by decide +kernel
theorem dL_law_1368 : decode cL_law 1368 = .ok (.ireturn, 1) := by decide +kernel
theorem dL_law_1369 : decode cL_law 1369 = .ok (.goto 253, 3) := by decide +kernel
theorem dL_law_1372 : decode cL_law 1372 = .ok (.aload_n 1, 1) := by decide +kernel
theorem dL_law_1373 : decode cL_law 1373 = .ok (.invokevirtual 151, 3) := by decide +kernel
theorem dL_law_1376 : decode cL_law 1376 = .ok (.aload_n 2, 1) := by decide +kernel
theorem dL_law_1377 : decode cL_law 1377 = .ok (.invokevirtual 154, 3) := by decide +kernel
theorem dL_law_1380 : decode cL_law 1380 = .ok (.if_icmp .eq 242, 3) := by decide +kernel
theorem dL_law_1383 : decode cL_law 1383 = .ok (.iconst 0, 1) := by decide +kernel
theorem dL_law_1384 : decode cL_law 1384 = .ok (.ireturn, 1) := by decide +kernel
theorem dL_law_1385 : decode cL_law 1385 = .ok (.aload_n 1, 1) := by decide +kernel
theorem dL_law_1386 : decode cL_law 1386 = .ok (.aload_n 0, 1) := by decide +kernel
theorem dL_law_1387 : decode cL_law 1387 = .ok (.iload 4, 2) := by decide +kernel
theorem dL_law_1389 : decode cL_law 1389 = .ok (.iconst 1, 1) := by decide +kernel
theorem dL_law_1390 : decode cL_law 1390 = .ok (.iadd, 1) := by decide +kernel
theorem dL_law_1391 : decode cL_law 1391 = .ok (.iaload, 1) := by decide +kernel
theorem dL_law_1392 : decode cL_law 1392 = .ok (.aload_n 3, 1) := by decide +kernel
theorem dL_law_1393 : decode cL_law 1393 = .ok (.invokestatic 155, 3) := by decide +kernel
theorem dL_law_1396 : decode cL_law 1396 = .ok (.istore 5, 2) := by decide +kernel
theorem dL_law_1398 : decode cL_law 1398 = .ok (.aload_n 2, 1) := by decide +kernel
theorem dL_law_1399 : decode cL_law 1399 = .ok (.aload_n 0, 1) := by decide +kernel
theorem dL_law_1400 : decode cL_law 1400 = .ok (.iload 4, 2) := by decide +kernel
theorem dL_law_1402 : decode cL_law 1402 = .ok (.iconst 1, 1) := by decide +kernel
theorem dL_law_1403 : decode cL_law 1403 = .ok (.iadd, 1) := by decide +kernel
theorem dL_law_1404 : decode cL_law 1404 = .ok (.iaload, 1) := by decide +kernel
theorem dL_law_1405 : decode cL_law 1405 = .ok (.invokevirtual 157, 3) := by decide +kernel
theorem dL_law_1408 : decode cL_law 1408 = .ok (.istore 6, 2) := by decide +kernel
theorem dL_law_1410 : decode cL_law 1410 = .ok (.aload_n 2, 1) := by decide +kernel
theorem dL_law_1411 : decode cL_law 1411 = .ok (.invokevirtual 93, 3) := by decide +kernel
theorem dL_law_1414 : decode cL_law 1414 = .ok (.iload 5, 2) := by decide +kernel
theorem dL_law_1416 : decode cL_law 1416 = .ok (.if_icmp .eq 5, 3) := by decide +kernel
theorem dL_law_1419 : decode cL_law 1419 = .ok (.iconst 0, 1) := by decide +kernel
theorem dL_law_1420 : decode cL_law 1420 = .ok (.ireturn, 1) := by decide +kernel
theorem dL_law_1421 : decode cL_law 1421 = .ok (.iload 5, 2) := by decide +kernel
theorem dL_law_1423 : decode cL_law 1423 = .ok (.ifCond .ne 15, 3) := by decide +kernel
theorem dL_law_1426 : decode cL_law 1426 = .ok (.aload_n 3, 1) := by decide +kernel
theorem dL_law_1427 : decode cL_law 1427 = .ok (.iconst 0, 1) := by decide +kernel
theorem dL_law_1428 : decode cL_law 1428 = .ok (.laload, 1) := by decide +kernel
theorem dL_law_1429 : decode cL_law 1429 = .ok (.iload 6, 2) := by decide +kernel
theorem dL_law_1431 : decode cL_law 1431 = .ok (.i2l, 1) := by decide +kernel
theorem dL_law_1432 : decode cL_law 1432 = .ok (.lcmp, 1) := by decide +kernel
theorem dL_law_1433 : decode cL_law 1433 = .ok (.ifCond .eq 5, 3) := by decide +kernel
theorem dL_law_1436 : decode cL_law 1436 = .ok (.iconst 0, 1) := by decide +kernel
theorem dL_law_1437 : decode cL_law 1437 = .ok (.ireturn, 1) := by decide +kernel
theorem dL_law_1438 : decode cL_law 1438 = .ok (.goto 184, 3) := by decide +kernel
theorem dL_law_1441 : decode cL_law 1441 = .ok (.aload_n 1, 1) := by decide +kernel
theorem dL_law_1442 : decode cL_law 1442 = .ok (.invokevirtual 158, 3) := by decide +kernel
theorem dL_law_1445 : decode cL_law 1445 = .ok (.dstore 5, 2) := by decide +kernel
theorem dL_law_1447 : decode cL_law 1447 = .ok (.aload_n 2, 1) := by decide +kernel
theorem dL_law_1448 : decode cL_law 1448 = .ok (.invokevirtual 162, 3) := by decide +kernel
theorem dL_law_1451 : decode cL_law 1451 = .ok (.dstore 7, 2) := by decide +kernel
theorem dL_law_1453 : decode cL_law 1453 = .ok (.dload 5, 2) := by decide +kernel
theorem dL_law_1455 : decode cL_law 1455 = .ok (.dload 7, 2) := by decide +kernel
theorem dL_law_1457 : decode cL_law 1457 = .ok (.dcmp .l, 1) := by decide +kernel
theorem dL_law_1458 : decode cL_law 1458 = .ok (.ifCond .eq 21, 3) := by decide +kernel
theorem dL_law_1461 : decode cL_law 1461 = .ok (.dload 5, 2) := by decide +kernel
theorem dL_law_1463 : decode cL_law 1463 = .ok (.dload 5, 2) := by decide +kernel
theorem dL_law_1465 : decode cL_law 1465 = .ok (.dcmp .l, 1) := by decide +kernel
theorem dL_law_1466 : decode cL_law 1466 = .ok (.ifCond .eq 11, 3) := by decide +kernel
theorem dL_law_1469 : decode cL_law 1469 = .ok (.dload 7, 2) := by decide +kernel
theorem dL_law_1471 : decode cL_law 1471 = .ok (.dload 7, 2) := by decide +kernel
theorem dL_law_1473 : decode cL_law 1473 = .ok (.dcmp .l, 1) := by decide +kernel
theorem dL_law_1474 : decode cL_law 1474 = .ok (.ifCond .ne 5, 3) := by decide +kernel
theorem dL_law_1477 : decode cL_law 1477 = .ok (.iconst 0, 1) := by decide +kernel
theorem dL_law_1478 : decode cL_law 1478 = .ok (.ireturn, 1) := by decide +kernel
theorem dL_law_1479 : decode cL_law 1479 = .ok (.goto 143, 3) := by decide +kernel
theorem dL_law_1482 : decode cL_law 1482 = .ok (.aload_n 1, 1) := by decide +kernel
theorem dL_law_1483 : decode cL_law 1483 = .ok (.aload_n 0, 1) := by decide +kernel
theorem dL_law_1484 : decode cL_law 1484 = .ok (.iload 4, 2) := by decide +kernel
theorem dL_law_1486 : decode cL_law 1486 = .ok (.iconst 1, 1) := by decide +kernel
theorem dL_law_1487 : decode cL_law 1487 = .ok (.iadd, 1) := by decide +kernel
theorem dL_law_1488 : decode cL_law 1488 = .ok (.iaload, 1) := by decide +kernel
theorem dL_law_1489 : decode cL_law 1489 = .ok (.aload_n 3, 1) := by decide +kernel
theorem dL_law_1490 : decode cL_law 1490 = .ok (.invokestatic 163, 3) := by decide +kernel
theorem dL_law_1493 : decode cL_law 1493 = .ok (.istore 5, 2) := by decide +kernel
theorem dL_law_1495 : decode cL_law 1495 = .ok (.aload_n 2, 1) := by decide +kernel
theorem dL_law_1496 : decode cL_law 1496 = .ok (.aload_n 0, 1) := by decide +kernel
theorem dL_law_1497 : decode cL_law 1497 = .ok (.iload 4, 2) := by decide +kernel
theorem dL_law_1499 : decode cL_law 1499 = .ok (.iconst 1, 1) := by decide +kernel
theorem dL_law_1500 : decode cL_law 1500 = .ok (.iadd, 1) := by decide +kernel
theorem dL_law_1501 : decode cL_law 1501 = .ok (.iaload, 1) := by decide +kernel
theorem dL_law_1502 : decode cL_law 1502 = .ok (.invokevirtual 165, 3) := by decide +kernel
theorem dL_law_1505 : decode cL_law 1505 = .ok (.istore 6, 2) := by decide +kernel
theorem dL_law_1507 : decode cL_law 1507 = .ok (.aload_n 2, 1) := by decide +kernel
theorem dL_law_1508 : decode cL_law 1508 = .ok (.invokevirtual 93, 3) := by decide +kernel
theorem dL_law_1511 : decode cL_law 1511 = .ok (.iload 5, 2) := by decide +kernel
theorem dL_law_1513 : decode cL_law 1513 = .ok (.if_icmp .eq 5, 3) := by decide +kernel
theorem dL_law_1516 : decode cL_law 1516 = .ok (.iconst 0, 1) := by decide +kernel
theorem dL_law_1517 : decode cL_law 1517 = .ok (.ireturn, 1) := by decide +kernel
theorem dL_law_1518 : decode cL_law 1518 = .ok (.iload 5, 2) := by decide +kernel
theorem dL_law_1520 : decode cL_law 1520 = .ok (.ifCond .ne 15, 3) := by decide +kernel
theorem dL_law_1523 : decode cL_law 1523 = .ok (.aload_n 3, 1) := by decide +kernel
theorem dL_law_1524 : decode cL_law 1524 = .ok (.iconst 0, 1) := by decide +kernel
theorem dL_law_1525 : decode cL_law 1525 = .ok (.laload, 1) := by decide +kernel
theorem dL_law_1526 : decode cL_law 1526 = .ok (.iload 6, 2) := by decide +kernel
theorem dL_law_1528 : decode cL_law 1528 = .ok (.i2l, 1) := by decide +kernel
theorem dL_law_1529 : decode cL_law 1529 = .ok (.lcmp, 1) := by decide +kernel
theorem dL_law_1530 : decode cL_law 1530 = .ok (.ifCond .eq 5, 3) := by decide +kernel
theorem dL_law_1533 : decode cL_law 1533 = .ok (.iconst 0, 1) := by decide +kernel
theorem dL_law_1534 : decode cL_law 1534 = .ok (.ireturn, 1) := by decide +kernel
theorem dL_law_1535 : decode cL_law 1535 = .ok (.goto 87, 3) := by decide +kernel
theorem dL_law_1538 : decode cL_law 1538 = .ok (.aload_n 1, 1) := by decide +kernel
theorem dL_law_1539 : decode cL_law 1539 = .ok (.invokevirtual 166, 3) := by decide +kernel
theorem dL_law_1542 : decode cL_law 1542 = .ok (.aload_n 2, 1) := by decide +kernel
theorem dL_law_1543 : decode cL_law 1543 = .ok (.invokevirtual 169, 3) := by decide +kernel
theorem dL_law_1546 : decode cL_law 1546 = .ok (.if_icmp .eq 76, 3) := by decide +kernel
theorem dL_law_1549 : decode cL_law 1549 = .ok (.iconst 0, 1) := by decide +kernel
theorem dL_law_1550 : decode cL_law 1550 = .ok (.ireturn, 1) := by decide +kernel
theorem dL_law_1551 : decode cL_law 1551 = .ok (.aload_n 1, 1) := by decide +kernel
theorem dL_law_1552 : decode cL_law 1552 = .ok (.invokevirtual 170, 3) := by decide +kernel
theorem dL_law_1555 : decode cL_law 1555 = .ok (.aload_n 2, 1) := by decide +kernel
theorem dL_law_1556 : decode cL_law 1556 = .ok (.invokevirtual 173, 3) := by decide +kernel
theorem dL_law_1559 : decode cL_law 1559 = .ok (.if_icmp .eq 63, 3) := by decide +kernel
theorem dL_law_1562 : decode cL_law 1562 = .ok (.iconst 0, 1) := by decide +kernel
theorem dL_law_1563 : decode cL_law 1563 = .ok (.ireturn, 1) := by decide +kernel
theorem dL_law_1564 : decode cL_law 1564 = .ok (.aload_n 1, 1) := by decide +kernel
theorem dL_law_1565 : decode cL_law 1565 = .ok (.aload_n 3, 1) := by decide +kernel
theorem dL_law_1566 : decode cL_law 1566 = .ok (.invokestatic 174, 3) := by decide +kernel
theorem dL_law_1569 : decode cL_law 1569 = .ok (.istore 5, 2) := by decide +kernel
theorem dL_law_1571 : decode cL_law 1571 = .ok (.aload_n 2, 1) := by decide +kernel
theorem dL_law_1572 : decode cL_law 1572 = .ok (.invokevirtual 176, 3) := by decide +kernel
theorem dL_law_1575 : decode cL_law 1575 = .ok (.istore 6, 2) := by decide +kernel
theorem dL_law_1577 : decode cL_law 1577 = .ok (.aload_n 2, 1) := by decide +kernel
theorem dL_law_1578 : decode cL_law 1578 = .ok (.invokevirtual 93, 3) := by decide +kernel
theorem dL_law_1581 : decode cL_law 1581 = .ok (.iload 5, 2) := by decide +kernel
theorem dL_law_1583 : decode cL_law 1583 = .ok (.if_icmp .eq 5, 3) := by decide +kernel
theorem dL_law_1586 : decode cL_law 1586 = .ok (.iconst 0, 1) := by decide +kernel
theorem dL_law_1587 : decode cL_law 1587 = .ok (.ireturn, 1) := by decide +kernel
theorem dL_law_1588 : decode cL_law 1588 = .ok (.iload 5, 2) := by decide +kernel
theorem dL_law_1590 : decode cL_law 1590 = .ok (.ifCond .ne 15, 3) := by decide +kernel
theorem dL_law_1593 : decode cL_law 1593 = .ok (.aload_n 3, 1) := by decide +kernel
theorem dL_law_1594 : decode cL_law 1594 = .ok (.iconst 0, 1) := by decide +kernel
theorem dL_law_1595 : decode cL_law 1595 = .ok (.laload, 1) := by decide +kernel
theorem dL_law_1596 : decode cL_law 1596 = .ok (.iload 6, 2) := by decide +kernel
theorem dL_law_1598 : decode cL_law 1598 = .ok (.i2l, 1) := by decide +kernel
theorem dL_law_1599 : decode cL_law 1599 = .ok (.lcmp, 1) := by decide +kernel
theorem dL_law_1600 : decode cL_law 1600 = .ok (.ifCond .eq 5, 3) := by decide +kernel
theorem dL_law_1603 : decode cL_law 1603 = .ok (.iconst 0, 1) := by decide +kernel
theorem dL_law_1604 : decode cL_law 1604 = .ok (.ireturn, 1) := by decide +kernel
theorem dL_law_1605 : decode cL_law 1605 = .ok (.goto 17, 3) := by decide +kernel
theorem dL_law_1608 : decode cL_law 1608 = .ok (.aload_n 1, 1) := by decide +kernel
theorem dL_law_1609 : decode cL_law 1609 = .ok (.invokevirtual 177, 3) := by decide +kernel
theorem dL_law_1612 : decode cL_law 1612 = .ok (.aload_n 2, 1) := by decide +kernel
theorem dL_law_1613 : decode cL_law 1613 = .ok (.invokevirtual 181, 3) := by decide +kernel
theorem dL_law_1616 : decode cL_law 1616 = .ok (.lcmp, 1) := by decide +kernel
theorem dL_law_1617 : decode cL_law 1617 = .ok (.ifCond .eq 5, 3) := by decide +kernel
theorem dL_law_1620 : decode cL_law 1620 = .ok (.iconst 0, 1) := by decide +kernel
theorem dL_law_1621 : decode cL_law 1621 = .ok (.ireturn, 1) := by decide +kernel
theorem dL_law_1622 : decode cL_law 1622 = .ok (.iinc 4 4, 3) := by decide +kernel
theorem dL_law_1625 : decode cL_law 1625 = .ok (.goto (-1602), 3) := by decide +kernel
theorem dL_law_1628 : decode cL_law 1628 = .ok (.iconst 1, 1) := by decide +kernel
theorem dL_law_1629 : decode cL_law 1629 = .ok (.ireturn, 1) := by decide +kernel
theorem iL_law_0  {Ls st : List Value} {h : AH} : ev L xs mdL_law 0 (Ls) (st) h = ev L xs mdL_law 3 (Ls) (.ref (hn h) :: st) (nw h 6 0 7) := e_new dL_law_0 (by decide +kernel)
theorem iL_law_3 {a : Nat} {Ls st : List Value} {h : AH} : ev L xs mdL_law 3 (Ls) (.ref a :: st) h = ev L xs mdL_law 4 (Ls) (.ref a :: .ref a :: st) (h) := e_dup dL_law_3 rfl
theorem iL_law_3i {a : Int32} {Ls st : List Value} {h : AH} : ev L xs mdL_law 3 (Ls) (.int a :: st) h = ev L xs mdL_law 4 (Ls) (.int a :: .int a :: st) (h) := e_dup dL_law_3 rfl
theorem iL_law_4 {a : Nat} {Ls st : List Value} {h : AH} (hk : hK h a = 6) (hw : wds st ≤ 8) : ev L xs mdL_law 4 Ls (.ref a :: st) h = kn L xs mdL_law 4 7 Ls st (ev L xs mdX6_init 0 [.ref a, .null] [] h) := e_callI (as := []) dL_law_4 mr_8_83 (by decide) (by decide) rfl (by simp [wds, Value.category]; decide) rfl (by decide) hk hw
theorem iL_law_7 {v0 : Value} {v1 : Value} {x : Nat} {Ls st : List Value} {h : AH} (hc9 : v0.category = 1) : ev L xs mdL_law 7 (v0 :: v1 :: Ls) (.ref x :: st) h = ev L xs mdL_law 8 (v0 :: .ref x :: Ls) (st) (h) := e_astore_n dL_law_7 rfl (by decide) (by unfold catOK; show (_ || (v0.category == 1)) = true; rw [hc9]; rfl)
theorem iL_law_8  {Ls st : List Value} {h : AH} : ev L xs mdL_law 8 (Ls) (st) h = ev L xs mdL_law 11 (Ls) (.ref (hn h) :: st) (nw h 7 0 15) := e_new dL_law_8 (by decide +kernel)
theorem iL_law_11 {a : Nat} {Ls st : List Value} {h : AH} : ev L xs mdL_law 11 (Ls) (.ref a :: st) h = ev L xs mdL_law 12 (Ls) (.ref a :: .ref a :: st) (h) := e_dup dL_law_11 rfl
theorem iL_law_11i {a : Int32} {Ls st : List Value} {h : AH} : ev L xs mdL_law 11 (Ls) (.int a :: st) h = ev L xs mdL_law 12 (Ls) (.int a :: .int a :: st) (h) := e_dup dL_law_11 rfl
theorem iL_law_12 {a : Nat} {Ls st : List Value} {h : AH} (hk : hK h a = 7) (hw : wds st ≤ 8) : ev L xs mdL_law 12 Ls (.ref a :: st) h = kn L xs mdL_law 12 15 Ls st (ev L xs mdX7_init 0 [.ref a] [] h) := e_callI (as := []) dL_law_12 mr_8_86 (by decide) (by decide) rfl (by simp [wds, Value.category]; decide) rfl (by decide) hk hw
theorem iL_law_15 {v0 : Value} {v1 : Value} {v2 : Value} {x : Nat} {Ls st : List Value} {h : AH} (hc9 : v1.category = 1) : ev L xs mdL_law 15 (v0 :: v1 :: v2 :: Ls) (.ref x :: st) h = ev L xs mdL_law 16 (v0 :: v1 :: .ref x :: Ls) (st) (h) := e_astore_n dL_law_15 rfl (by decide) (by unfold catOK; show (_ || (v1.category == 1)) = true; rw [hc9]; rfl)
theorem iL_law_16  {Ls st : List Value} {h : AH} : ev L xs mdL_law 16 (Ls) (st) h = ev L xs mdL_law 17 (Ls) (.int (nI 1) :: st) (h) := e_iconst dL_law_16 (by decide)
theorem iL_law_17 {c : Int32} {Ls st : List Value} {h : AH} (h0 : 0 ≤ c) (h1 : c ≤ 10000) : ev L xs mdL_law 17 (Ls) (.int c :: st) h = ev L xs mdL_law 19 (Ls) (.ref (hn h) :: st) (nw h 12 c.toNatClampNeg c.toNatClampNeg) := e_newL dL_law_17 h0 h1
theorem iL_law_19 {v0 : Value} {v1 : Value} {v2 : Value} {v3 : Value} {x : Nat} {Ls st : List Value} {h : AH} (hc9 : v2.category = 1) : ev L xs mdL_law 19 (v0 :: v1 :: v2 :: v3 :: Ls) (.ref x :: st) h = ev L xs mdL_law 20 (v0 :: v1 :: v2 :: .ref x :: Ls) (st) (h) := e_astore_n dL_law_19 rfl (by decide) (by unfold catOK; show (_ || (v2.category == 1)) = true; rw [hc9]; rfl)
theorem iL_law_20  {Ls st : List Value} {h : AH} : ev L xs mdL_law 20 (Ls) (st) h = ev L xs mdL_law 21 (Ls) (.int (nI 0) :: st) (h) := e_iconst dL_law_20 (by decide)
theorem iL_law_21 {v0 : Value} {v1 : Value} {v2 : Value} {v3 : Value} {v4 : Value} {x : Int32} {Ls st : List Value} {h : AH} (hc9 : v3.category = 1) : ev L xs mdL_law 21 (v0 :: v1 :: v2 :: v3 :: v4 :: Ls) (.int x :: st) h = ev L xs mdL_law 23 (v0 :: v1 :: v2 :: v3 :: .int x :: Ls) (st) (h) := e_istore dL_law_21 rfl (by decide) (by unfold catOK; show (_ || (v3.category == 1)) = true; rw [hc9]; rfl)
theorem iL_law_23 {v0 : Value} {v1 : Value} {v2 : Value} {v3 : Value} {x : Int32} {Ls st : List Value} {h : AH} : ev L xs mdL_law 23 (v0 :: v1 :: v2 :: v3 :: .int x :: Ls) (st) h = ev L xs mdL_law 25 (v0 :: v1 :: v2 :: v3 :: .int x :: Ls) (.int x :: st) (h) := e_iload dL_law_23 rfl
theorem iL_law_25 {x : Nat} {Ls st : List Value} {h : AH} : ev L xs mdL_law 25 (.retAddr x :: Ls) (st) h = ev L xs mdL_law 26 (.retAddr x :: Ls) (.retAddr x :: st) (h) := e_sload_n dL_law_25 rfl
theorem iL_law_26 {z : Nat} {Ls st : List Value} {h : AH} : ev L xs mdL_law 26 (Ls) (.retAddr z :: st) h = ev L xs mdL_law 27 (Ls) (.int (Int32.ofNat L) :: st) (h) := e_slen dL_law_26 rfl
theorem iL_law_27  {Ls st : List Value} {h : AH} : ev L xs mdL_law 27 (Ls) (st) h = ev L xs mdL_law 28 (Ls) (.int (nI 4) :: st) (h) := e_iconst dL_law_27 (by decide)
theorem iL_law_28 {x z : Int32} {Ls st : List Value} {h : AH} : ev L xs mdL_law 28 (Ls) (.int z :: .int x :: st) h = ev L xs mdL_law 29 (Ls) (.int (x - z) :: st) (h) := e_isub dL_law_28
theorem iL_law_29 {x z : Int32} {Ls st : List Value} {h : AH} : ev L xs mdL_law 29 Ls (.int z :: .int x :: st) h = if z < x then ev L xs mdL_law 1628 Ls st h else ev L xs mdL_law 32 Ls st h := e_ic_gt dL_law_29 (by decide)
theorem iL_law_32 {x : Nat} {Ls st : List Value} {h : AH} : ev L xs mdL_law 32 (.retAddr x :: Ls) (st) h = ev L xs mdL_law 33 (.retAddr x :: Ls) (.retAddr x :: st) (h) := e_sload_n dL_law_32 rfl
theorem iL_law_33 {v0 : Value} {v1 : Value} {v2 : Value} {v3 : Value} {x : Int32} {Ls st : List Value} {h : AH} : ev L xs mdL_law 33 (v0 :: v1 :: v2 :: v3 :: .int x :: Ls) (st) h = ev L xs mdL_law 35 (v0 :: v1 :: v2 :: v3 :: .int x :: Ls) (.int x :: st) (h) := e_iload dL_law_33 rfl
theorem iL_law_35 {z : Nat} {j : Int32} {Ls st : List Value} {h : AH} (hi : inA j L = true) : ev L xs mdL_law 35 (Ls) (.int j :: .retAddr z :: st) h = ev L xs mdL_law 36 (Ls) (.int (xs j.toNatClampNeg) :: st) (h) := e_sald dL_law_35 rfl hi
theorem iL_law_36  {Ls st : List Value} {h : AH} : ev L xs mdL_law 36 (Ls) (st) h = ev L xs mdL_law 38 (Ls) (.int (nI 31) :: st) (h) := e_bipush dL_law_36 (by decide)
theorem iL_law_38 {x z : Int32} {Ls st : List Value} {h : AH} : ev L xs mdL_law 38 (Ls) (.int z :: .int x :: st) h = ev L xs mdL_law 39 (Ls) (.int (x &&& z) :: st) (h) := e_iand dL_law_38
theorem iL_law_39_0 {Ls st : List Value} {h : AH} : ev L xs mdL_law 39 Ls (.int (nI 0) :: st) h = ev L xs mdL_law 156 Ls st h := e_tsw dL_law_39 rfl (by decide)
theorem iL_law_39_1 {Ls st : List Value} {h : AH} : ev L xs mdL_law 39 Ls (.int (nI 1) :: st) h = ev L xs mdL_law 224 Ls st h := e_tsw dL_law_39 rfl (by decide)
theorem iL_law_39_2 {Ls st : List Value} {h : AH} : ev L xs mdL_law 39 Ls (.int (nI 2) :: st) h = ev L xs mdL_law 292 Ls st h := e_tsw dL_law_39 rfl (by decide)
theorem iL_law_39_3 {Ls st : List Value} {h : AH} : ev L xs mdL_law 39 Ls (.int (nI 3) :: st) h = ev L xs mdL_law 360 Ls st h := e_tsw dL_law_39 rfl (by decide)
theorem iL_law_39_4 {Ls st : List Value} {h : AH} : ev L xs mdL_law 39 Ls (.int (nI 4) :: st) h = ev L xs mdL_law 440 Ls st h := e_tsw dL_law_39 rfl (by decide)
theorem iL_law_39_5 {Ls st : List Value} {h : AH} : ev L xs mdL_law 39 Ls (.int (nI 5) :: st) h = ev L xs mdL_law 508 Ls st h := e_tsw dL_law_39 rfl (by decide)
theorem iL_law_39_6 {Ls st : List Value} {h : AH} : ev L xs mdL_law 39 Ls (.int (nI 6) :: st) h = ev L xs mdL_law 576 Ls st h := e_tsw dL_law_39 rfl (by decide)
theorem iL_law_39_7 {Ls st : List Value} {h : AH} : ev L xs mdL_law 39 Ls (.int (nI 7) :: st) h = ev L xs mdL_law 632 Ls st h := e_tsw dL_law_39 rfl (by decide)
theorem iL_law_39_8 {Ls st : List Value} {h : AH} : ev L xs mdL_law 39 Ls (.int (nI 8) :: st) h = ev L xs mdL_law 676 Ls st h := e_tsw dL_law_39 rfl (by decide)
theorem iL_law_39_9 {Ls st : List Value} {h : AH} : ev L xs mdL_law 39 Ls (.int (nI 9) :: st) h = ev L xs mdL_law 732 Ls st h := e_tsw dL_law_39 rfl (by decide)
theorem iL_law_39_10 {Ls st : List Value} {h : AH} : ev L xs mdL_law 39 Ls (.int (nI 10) :: st) h = ev L xs mdL_law 800 Ls st h := e_tsw dL_law_39 rfl (by decide)
theorem iL_law_39_11 {Ls st : List Value} {h : AH} : ev L xs mdL_law 39 Ls (.int (nI 11) :: st) h = ev L xs mdL_law 868 Ls st h := e_tsw dL_law_39 rfl (by decide)
theorem iL_law_39_12 {Ls st : List Value} {h : AH} : ev L xs mdL_law 39 Ls (.int (nI 12) :: st) h = ev L xs mdL_law 924 Ls st h := e_tsw dL_law_39 rfl (by decide)
theorem iL_law_39_13 {Ls st : List Value} {h : AH} : ev L xs mdL_law 39 Ls (.int (nI 13) :: st) h = ev L xs mdL_law 1008 Ls st h := e_tsw dL_law_39 rfl (by decide)
theorem iL_law_39_14 {Ls st : List Value} {h : AH} : ev L xs mdL_law 39 Ls (.int (nI 14) :: st) h = ev L xs mdL_law 1076 Ls st h := e_tsw dL_law_39 rfl (by decide)
theorem iL_law_39_15 {Ls st : List Value} {h : AH} : ev L xs mdL_law 39 Ls (.int (nI 15) :: st) h = ev L xs mdL_law 1144 Ls st h := e_tsw dL_law_39 rfl (by decide)
theorem iL_law_39_16 {Ls st : List Value} {h : AH} : ev L xs mdL_law 39 Ls (.int (nI 16) :: st) h = ev L xs mdL_law 1224 Ls st h := e_tsw dL_law_39 rfl (by decide)
theorem iL_law_39_17 {Ls st : List Value} {h : AH} : ev L xs mdL_law 39 Ls (.int (nI 17) :: st) h = ev L xs mdL_law 1304 Ls st h := e_tsw dL_law_39 rfl (by decide)
theorem iL_law_39_18 {Ls st : List Value} {h : AH} : ev L xs mdL_law 39 Ls (.int (nI 18) :: st) h = ev L xs mdL_law 1372 Ls st h := e_tsw dL_law_39 rfl (by decide)
theorem iL_law_39_19 {Ls st : List Value} {h : AH} : ev L xs mdL_law 39 Ls (.int (nI 19) :: st) h = ev L xs mdL_law 1385 Ls st h := e_tsw dL_law_39 rfl (by decide)
theorem iL_law_39_20 {Ls st : List Value} {h : AH} : ev L xs mdL_law 39 Ls (.int (nI 20) :: st) h = ev L xs mdL_law 1441 Ls st h := e_tsw dL_law_39 rfl (by decide)
theorem iL_law_39_21 {Ls st : List Value} {h : AH} : ev L xs mdL_law 39 Ls (.int (nI 21) :: st) h = ev L xs mdL_law 1482 Ls st h := e_tsw dL_law_39 rfl (by decide)
theorem iL_law_39_22 {Ls st : List Value} {h : AH} : ev L xs mdL_law 39 Ls (.int (nI 22) :: st) h = ev L xs mdL_law 1538 Ls st h := e_tsw dL_law_39 rfl (by decide)
theorem iL_law_39_23 {Ls st : List Value} {h : AH} : ev L xs mdL_law 39 Ls (.int (nI 23) :: st) h = ev L xs mdL_law 1551 Ls st h := e_tsw dL_law_39 rfl (by decide)
theorem iL_law_39_24 {Ls st : List Value} {h : AH} : ev L xs mdL_law 39 Ls (.int (nI 24) :: st) h = ev L xs mdL_law 1564 Ls st h := e_tsw dL_law_39 rfl (by decide)
theorem iL_law_39_25 {Ls st : List Value} {h : AH} : ev L xs mdL_law 39 Ls (.int (nI 25) :: st) h = ev L xs mdL_law 1608 Ls st h := e_tsw dL_law_39 rfl (by decide)
theorem iL_law_39_d {x : Int32} {Ls st : List Value} {h : AH} (hx : x.toInt < 0 ∨ 25 < x.toInt) : ev L xs mdL_law 39 Ls (.int x :: st) h = ev L xs mdL_law 1622 Ls st h := e_tsw (o := 1583) dL_law_39 (if_pos hx) (by decide)
theorem iL_law_156 {v0 : Value} {x : Nat} {Ls st : List Value} {h : AH} : ev L xs mdL_law 156 (v0 :: .ref x :: Ls) (st) h = ev L xs mdL_law 157 (v0 :: .ref x :: Ls) (.ref x :: st) (h) := e_aload_n dL_law_156 rfl
theorem iL_law_157 {x : Nat} {Ls st : List Value} {h : AH} : ev L xs mdL_law 157 (.retAddr x :: Ls) (st) h = ev L xs mdL_law 158 (.retAddr x :: Ls) (.retAddr x :: st) (h) := e_sload_n dL_law_157 rfl
theorem iL_law_158 {v0 : Value} {v1 : Value} {v2 : Value} {v3 : Value} {x : Int32} {Ls st : List Value} {h : AH} : ev L xs mdL_law 158 (v0 :: v1 :: v2 :: v3 :: .int x :: Ls) (st) h = ev L xs mdL_law 160 (v0 :: v1 :: v2 :: v3 :: .int x :: Ls) (.int x :: st) (h) := e_iload dL_law_158 rfl
theorem iL_law_160  {Ls st : List Value} {h : AH} : ev L xs mdL_law 160 (Ls) (st) h = ev L xs mdL_law 161 (Ls) (.int (nI 1) :: st) (h) := e_iconst dL_law_160 (by decide)
theorem iL_law_161 {x z : Int32} {Ls st : List Value} {h : AH} : ev L xs mdL_law 161 (Ls) (.int z :: .int x :: st) h = ev L xs mdL_law 162 (Ls) (.int (x + z) :: st) (h) := e_iadd dL_law_161
theorem iL_law_162 {z : Nat} {j : Int32} {Ls st : List Value} {h : AH} (hi : inA j L = true) : ev L xs mdL_law 162 (Ls) (.int j :: .retAddr z :: st) h = ev L xs mdL_law 163 (Ls) (.int (xs j.toNatClampNeg) :: st) (h) := e_sald dL_law_162 rfl hi
theorem iL_law_163 {x : Nat} {Ls st : List Value} {h : AH} : ev L xs mdL_law 163 (.retAddr x :: Ls) (st) h = ev L xs mdL_law 164 (.retAddr x :: Ls) (.retAddr x :: st) (h) := e_sload_n dL_law_163 rfl
theorem iL_law_164 {v0 : Value} {v1 : Value} {v2 : Value} {v3 : Value} {x : Int32} {Ls st : List Value} {h : AH} : ev L xs mdL_law 164 (v0 :: v1 :: v2 :: v3 :: .int x :: Ls) (st) h = ev L xs mdL_law 166 (v0 :: v1 :: v2 :: v3 :: .int x :: Ls) (.int x :: st) (h) := e_iload dL_law_164 rfl
theorem iL_law_166  {Ls st : List Value} {h : AH} : ev L xs mdL_law 166 (Ls) (st) h = ev L xs mdL_law 167 (Ls) (.int (nI 2) :: st) (h) := e_iconst dL_law_166 (by decide)
theorem iL_law_167 {x z : Int32} {Ls st : List Value} {h : AH} : ev L xs mdL_law 167 (Ls) (.int z :: .int x :: st) h = ev L xs mdL_law 168 (Ls) (.int (x + z) :: st) (h) := e_iadd dL_law_167
theorem iL_law_168 {z : Nat} {j : Int32} {Ls st : List Value} {h : AH} (hi : inA j L = true) : ev L xs mdL_law 168 (Ls) (.int j :: .retAddr z :: st) h = ev L xs mdL_law 169 (Ls) (.int (xs j.toNatClampNeg) :: st) (h) := e_sald dL_law_168 rfl hi
theorem iL_law_169 {v0 : Value} {v1 : Value} {v2 : Value} {x : Nat} {Ls st : List Value} {h : AH} : ev L xs mdL_law 169 (v0 :: v1 :: v2 :: .ref x :: Ls) (st) h = ev L xs mdL_law 170 (v0 :: v1 :: v2 :: .ref x :: Ls) (.ref x :: st) (h) := e_aload_n dL_law_169 rfl
theorem iL_law_170 {p0 : Nat} {p1 : Int32} {p2 : Int32} {p3 : Nat} {Ls st : List Value} {h : AH} (hw : wds st ≤ 8) : ev L xs mdL_law 170 Ls (.ref p3 :: .int p2 :: .int p1 :: .ref p0 :: st) h = kn L xs mdL_law 170 173 Ls st (ev L xs mdL_addHoliday 0 [.ref p0, .int p1, .int p2, .ref p3, .null] [] h) := e_callS (as := [.ref p3, .int p2, .int p1, .ref p0]) dL_law_170 mr_8_87 (by decide) (by decide) rfl (by simp [wds, Value.category]; decide) rfl hw
theorem iL_law_173 {v0 : Value} {v1 : Value} {v2 : Value} {v3 : Value} {v4 : Value} {v5 : Value} {x : Int32} {Ls st : List Value} {h : AH} (hc9 : v4.category = 1) : ev L xs mdL_law 173 (v0 :: v1 :: v2 :: v3 :: v4 :: v5 :: Ls) (.int x :: st) h = ev L xs mdL_law 175 (v0 :: v1 :: v2 :: v3 :: v4 :: .int x :: Ls) (st) (h) := e_istore dL_law_173 rfl (by decide) (by unfold catOK; show (_ || (v4.category == 1)) = true; rw [hc9]; rfl)
theorem iL_law_175 {v0 : Value} {v1 : Value} {x : Nat} {Ls st : List Value} {h : AH} : ev L xs mdL_law 175 (v0 :: v1 :: .ref x :: Ls) (st) h = ev L xs mdL_law 176 (v0 :: v1 :: .ref x :: Ls) (.ref x :: st) (h) := e_aload_n dL_law_175 rfl
theorem iL_law_176 {x : Nat} {Ls st : List Value} {h : AH} : ev L xs mdL_law 176 (.retAddr x :: Ls) (st) h = ev L xs mdL_law 177 (.retAddr x :: Ls) (.retAddr x :: st) (h) := e_sload_n dL_law_176 rfl
theorem iL_law_177 {v0 : Value} {v1 : Value} {v2 : Value} {v3 : Value} {x : Int32} {Ls st : List Value} {h : AH} : ev L xs mdL_law 177 (v0 :: v1 :: v2 :: v3 :: .int x :: Ls) (st) h = ev L xs mdL_law 179 (v0 :: v1 :: v2 :: v3 :: .int x :: Ls) (.int x :: st) (h) := e_iload dL_law_177 rfl
theorem iL_law_179  {Ls st : List Value} {h : AH} : ev L xs mdL_law 179 (Ls) (st) h = ev L xs mdL_law 180 (Ls) (.int (nI 1) :: st) (h) := e_iconst dL_law_179 (by decide)
theorem iL_law_180 {x z : Int32} {Ls st : List Value} {h : AH} : ev L xs mdL_law 180 (Ls) (.int z :: .int x :: st) h = ev L xs mdL_law 181 (Ls) (.int (x + z) :: st) (h) := e_iadd dL_law_180
theorem iL_law_181 {z : Nat} {j : Int32} {Ls st : List Value} {h : AH} (hi : inA j L = true) : ev L xs mdL_law 181 (Ls) (.int j :: .retAddr z :: st) h = ev L xs mdL_law 182 (Ls) (.int (xs j.toNatClampNeg) :: st) (h) := e_sald dL_law_181 rfl hi
theorem iL_law_182 {x : Nat} {Ls st : List Value} {h : AH} : ev L xs mdL_law 182 (.retAddr x :: Ls) (st) h = ev L xs mdL_law 183 (.retAddr x :: Ls) (.retAddr x :: st) (h) := e_sload_n dL_law_182 rfl
theorem iL_law_183 {v0 : Value} {v1 : Value} {v2 : Value} {v3 : Value} {x : Int32} {Ls st : List Value} {h : AH} : ev L xs mdL_law 183 (v0 :: v1 :: v2 :: v3 :: .int x :: Ls) (st) h = ev L xs mdL_law 185 (v0 :: v1 :: v2 :: v3 :: .int x :: Ls) (.int x :: st) (h) := e_iload dL_law_183 rfl
theorem iL_law_185  {Ls st : List Value} {h : AH} : ev L xs mdL_law 185 (Ls) (st) h = ev L xs mdL_law 186 (Ls) (.int (nI 2) :: st) (h) := e_iconst dL_law_185 (by decide)
theorem iL_law_186 {x z : Int32} {Ls st : List Value} {h : AH} : ev L xs mdL_law 186 (Ls) (.int z :: .int x :: st) h = ev L xs mdL_law 187 (Ls) (.int (x + z) :: st) (h) := e_iadd dL_law_186
theorem iL_law_187 {z : Nat} {j : Int32} {Ls st : List Value} {h : AH} (hi : inA j L = true) : ev L xs mdL_law 187 (Ls) (.int j :: .retAddr z :: st) h = ev L xs mdL_law 188 (Ls) (.int (xs j.toNatClampNeg) :: st) (h) := e_sald dL_law_187 rfl hi
theorem iL_law_188 {a : Nat} {p0 : Int32} {p1 : Int32} {Ls st : List Value} {h : AH} (hk : hK h a = 7) (hw : wds st ≤ 8) : ev L xs mdL_law 188 Ls (.int p1 :: .int p0 :: .ref a :: st) h = kn L xs mdL_law 188 191 Ls st (ev L xs mdX7_addHoliday 0 [.ref a, .int p0, .int p1] [] h) := e_callV (as := [.int p1, .int p0]) dL_law_188 mr_8_92 (by decide) (by decide) rfl (by simp [wds, Value.category]; decide) rfl (by decide) hk hw
theorem iL_law_191 {v0 : Value} {v1 : Value} {v2 : Value} {v3 : Value} {v4 : Value} {v5 : Value} {v6 : Value} {x : Int32} {Ls st : List Value} {h : AH} (hc9 : v5.category = 1) : ev L xs mdL_law 191 (v0 :: v1 :: v2 :: v3 :: v4 :: v5 :: v6 :: Ls) (.int x :: st) h = ev L xs mdL_law 193 (v0 :: v1 :: v2 :: v3 :: v4 :: v5 :: .int x :: Ls) (st) (h) := e_istore dL_law_191 rfl (by decide) (by unfold catOK; show (_ || (v5.category == 1)) = true; rw [hc9]; rfl)
theorem iL_law_193 {v0 : Value} {v1 : Value} {x : Nat} {Ls st : List Value} {h : AH} : ev L xs mdL_law 193 (v0 :: v1 :: .ref x :: Ls) (st) h = ev L xs mdL_law 194 (v0 :: v1 :: .ref x :: Ls) (.ref x :: st) (h) := e_aload_n dL_law_193 rfl
theorem iL_law_194 {a : Nat} {Ls st : List Value} {h : AH} (hk : hK h a = 7) (hw : wds st ≤ 8) : ev L xs mdL_law 194 Ls (.ref a :: st) h = kn L xs mdL_law 194 197 Ls st (ev L xs mdX7_thrown 0 [.ref a] [] h) := e_callV (as := []) dL_law_194 mr_8_93 (by decide) (by decide) rfl (by simp [wds, Value.category]; decide) rfl (by decide) hk hw
theorem iL_law_197 {v0 : Value} {v1 : Value} {v2 : Value} {v3 : Value} {v4 : Value} {x : Int32} {Ls st : List Value} {h : AH} : ev L xs mdL_law 197 (v0 :: v1 :: v2 :: v3 :: v4 :: .int x :: Ls) (st) h = ev L xs mdL_law 199 (v0 :: v1 :: v2 :: v3 :: v4 :: .int x :: Ls) (.int x :: st) (h) := e_iload dL_law_197 rfl
theorem iL_law_199 {x z : Int32} {Ls st : List Value} {h : AH} : ev L xs mdL_law 199 Ls (.int z :: .int x :: st) h = if x = z then ev L xs mdL_law 204 Ls st h else ev L xs mdL_law 202 Ls st h := e_ic_eq dL_law_199 (by decide)
theorem iL_law_202  {Ls st : List Value} {h : AH} : ev L xs mdL_law 202 (Ls) (st) h = ev L xs mdL_law 203 (Ls) (.int (nI 0) :: st) (h) := e_iconst dL_law_202 (by decide)
theorem iL_law_203 {v : Int32} {Ls : List Value} {h : AH} (hv : v = nI 0 ∨ v = nI 1) : ev L xs mdL_law 203 Ls [.int v] h = some (.inl (some (.int v), h)) := e_zret dL_law_203 rfl hv
theorem iL_law_204 {v0 : Value} {v1 : Value} {v2 : Value} {v3 : Value} {v4 : Value} {x : Int32} {Ls st : List Value} {h : AH} : ev L xs mdL_law 204 (v0 :: v1 :: v2 :: v3 :: v4 :: .int x :: Ls) (st) h = ev L xs mdL_law 206 (v0 :: v1 :: v2 :: v3 :: v4 :: .int x :: Ls) (.int x :: st) (h) := e_iload dL_law_204 rfl
theorem iL_law_206 {x : Int32} {Ls st : List Value} {h : AH} : ev L xs mdL_law 206 Ls (.int x :: st) h = if x = nI 0 then ev L xs mdL_law 209 Ls st h else ev L xs mdL_law 221 Ls st h := e_if_ne dL_law_206 (by decide)
theorem iL_law_209 {v0 : Value} {v1 : Value} {v2 : Value} {x : Nat} {Ls st : List Value} {h : AH} : ev L xs mdL_law 209 (v0 :: v1 :: v2 :: .ref x :: Ls) (st) h = ev L xs mdL_law 210 (v0 :: v1 :: v2 :: .ref x :: Ls) (.ref x :: st) (h) := e_aload_n dL_law_209 rfl
theorem iL_law_210  {Ls st : List Value} {h : AH} : ev L xs mdL_law 210 (Ls) (st) h = ev L xs mdL_law 211 (Ls) (.int (nI 0) :: st) (h) := e_iconst dL_law_210 (by decide)
theorem iL_law_211 {a : Nat} {j : Int32} {Ls st : List Value} {h : AH} (hk : hK h a = 12) (hi : inA j (hN h a) = true) : ev L xs mdL_law 211 (Ls) (.int j :: .ref a :: st) h = ev L xs mdL_law 212 (Ls) (.long (hL h a j.toNatClampNeg) :: st) (h) := e_lald dL_law_211 hk hi
theorem iL_law_212 {v0 : Value} {v1 : Value} {v2 : Value} {v3 : Value} {v4 : Value} {v5 : Value} {x : Int32} {Ls st : List Value} {h : AH} : ev L xs mdL_law 212 (v0 :: v1 :: v2 :: v3 :: v4 :: v5 :: .int x :: Ls) (st) h = ev L xs mdL_law 214 (v0 :: v1 :: v2 :: v3 :: v4 :: v5 :: .int x :: Ls) (.int x :: st) (h) := e_iload dL_law_212 rfl
theorem iL_law_214 {x : Int32} {Ls st : List Value} {h : AH} : ev L xs mdL_law 214 (Ls) (.int x :: st) h = ev L xs mdL_law 215 (Ls) (.long x.toInt64 :: st) (h) := e_i2l dL_law_214
theorem iL_law_215 {x z : Int64} {Ls st : List Value} {h : AH} : ev L xs mdL_law 215 (Ls) (.long z :: .long x :: st) h = ev L xs mdL_law 216 (Ls) (.int (lg_cmp x z) :: st) (h) := e_lcmp dL_law_215
theorem iL_law_216 {x : Int32} {Ls st : List Value} {h : AH} : ev L xs mdL_law 216 Ls (.int x :: st) h = if x = nI 0 then ev L xs mdL_law 221 Ls st h else ev L xs mdL_law 219 Ls st h := e_if_eq dL_law_216 (by decide)
theorem iL_law_219  {Ls st : List Value} {h : AH} : ev L xs mdL_law 219 (Ls) (st) h = ev L xs mdL_law 220 (Ls) (.int (nI 0) :: st) (h) := e_iconst dL_law_219 (by decide)
theorem iL_law_220 {v : Int32} {Ls : List Value} {h : AH} (hv : v = nI 0 ∨ v = nI 1) : ev L xs mdL_law 220 Ls [.int v] h = some (.inl (some (.int v), h)) := e_zret dL_law_220 rfl hv
theorem iL_law_221  {Ls st : List Value} {h : AH} : ev L xs mdL_law 221 (Ls) (st) h = ev L xs mdL_law 1622 (Ls) (st) (h) := e_goto dL_law_221 (by decide)
theorem iL_law_224 {v0 : Value} {x : Nat} {Ls st : List Value} {h : AH} : ev L xs mdL_law 224 (v0 :: .ref x :: Ls) (st) h = ev L xs mdL_law 225 (v0 :: .ref x :: Ls) (.ref x :: st) (h) := e_aload_n dL_law_224 rfl
theorem iL_law_225 {x : Nat} {Ls st : List Value} {h : AH} : ev L xs mdL_law 225 (.retAddr x :: Ls) (st) h = ev L xs mdL_law 226 (.retAddr x :: Ls) (.retAddr x :: st) (h) := e_sload_n dL_law_225 rfl
theorem iL_law_226 {v0 : Value} {v1 : Value} {v2 : Value} {v3 : Value} {x : Int32} {Ls st : List Value} {h : AH} : ev L xs mdL_law 226 (v0 :: v1 :: v2 :: v3 :: .int x :: Ls) (st) h = ev L xs mdL_law 228 (v0 :: v1 :: v2 :: v3 :: .int x :: Ls) (.int x :: st) (h) := e_iload dL_law_226 rfl
theorem iL_law_228  {Ls st : List Value} {h : AH} : ev L xs mdL_law 228 (Ls) (st) h = ev L xs mdL_law 229 (Ls) (.int (nI 1) :: st) (h) := e_iconst dL_law_228 (by decide)
theorem iL_law_229 {x z : Int32} {Ls st : List Value} {h : AH} : ev L xs mdL_law 229 (Ls) (.int z :: .int x :: st) h = ev L xs mdL_law 230 (Ls) (.int (x + z) :: st) (h) := e_iadd dL_law_229
theorem iL_law_230 {z : Nat} {j : Int32} {Ls st : List Value} {h : AH} (hi : inA j L = true) : ev L xs mdL_law 230 (Ls) (.int j :: .retAddr z :: st) h = ev L xs mdL_law 231 (Ls) (.int (xs j.toNatClampNeg) :: st) (h) := e_sald dL_law_230 rfl hi
theorem iL_law_231 {x : Nat} {Ls st : List Value} {h : AH} : ev L xs mdL_law 231 (.retAddr x :: Ls) (st) h = ev L xs mdL_law 232 (.retAddr x :: Ls) (.retAddr x :: st) (h) := e_sload_n dL_law_231 rfl
theorem iL_law_232 {v0 : Value} {v1 : Value} {v2 : Value} {v3 : Value} {x : Int32} {Ls st : List Value} {h : AH} : ev L xs mdL_law 232 (v0 :: v1 :: v2 :: v3 :: .int x :: Ls) (st) h = ev L xs mdL_law 234 (v0 :: v1 :: v2 :: v3 :: .int x :: Ls) (.int x :: st) (h) := e_iload dL_law_232 rfl
theorem iL_law_234  {Ls st : List Value} {h : AH} : ev L xs mdL_law 234 (Ls) (st) h = ev L xs mdL_law 235 (Ls) (.int (nI 2) :: st) (h) := e_iconst dL_law_234 (by decide)
theorem iL_law_235 {x z : Int32} {Ls st : List Value} {h : AH} : ev L xs mdL_law 235 (Ls) (.int z :: .int x :: st) h = ev L xs mdL_law 236 (Ls) (.int (x + z) :: st) (h) := e_iadd dL_law_235
theorem iL_law_236 {z : Nat} {j : Int32} {Ls st : List Value} {h : AH} (hi : inA j L = true) : ev L xs mdL_law 236 (Ls) (.int j :: .retAddr z :: st) h = ev L xs mdL_law 237 (Ls) (.int (xs j.toNatClampNeg) :: st) (h) := e_sald dL_law_236 rfl hi
theorem iL_law_237 {v0 : Value} {v1 : Value} {v2 : Value} {x : Nat} {Ls st : List Value} {h : AH} : ev L xs mdL_law 237 (v0 :: v1 :: v2 :: .ref x :: Ls) (st) h = ev L xs mdL_law 238 (v0 :: v1 :: v2 :: .ref x :: Ls) (.ref x :: st) (h) := e_aload_n dL_law_237 rfl
theorem iL_law_238 {p0 : Nat} {p1 : Int32} {p2 : Int32} {p3 : Nat} {Ls st : List Value} {h : AH} (hw : wds st ≤ 8) : ev L xs mdL_law 238 Ls (.ref p3 :: .int p2 :: .int p1 :: .ref p0 :: st) h = kn L xs mdL_law 238 241 Ls st (ev L xs mdL_addPost 0 [.ref p0, .int p1, .int p2, .ref p3, .null] [] h) := e_callS (as := [.ref p3, .int p2, .int p1, .ref p0]) dL_law_238 mr_8_96 (by decide) (by decide) rfl (by simp [wds, Value.category]; decide) rfl hw
theorem iL_law_241 {v0 : Value} {v1 : Value} {v2 : Value} {v3 : Value} {v4 : Value} {v5 : Value} {x : Int32} {Ls st : List Value} {h : AH} (hc9 : v4.category = 1) : ev L xs mdL_law 241 (v0 :: v1 :: v2 :: v3 :: v4 :: v5 :: Ls) (.int x :: st) h = ev L xs mdL_law 243 (v0 :: v1 :: v2 :: v3 :: v4 :: .int x :: Ls) (st) (h) := e_istore dL_law_241 rfl (by decide) (by unfold catOK; show (_ || (v4.category == 1)) = true; rw [hc9]; rfl)
theorem iL_law_243 {v0 : Value} {v1 : Value} {x : Nat} {Ls st : List Value} {h : AH} : ev L xs mdL_law 243 (v0 :: v1 :: .ref x :: Ls) (st) h = ev L xs mdL_law 244 (v0 :: v1 :: .ref x :: Ls) (.ref x :: st) (h) := e_aload_n dL_law_243 rfl
theorem iL_law_244 {x : Nat} {Ls st : List Value} {h : AH} : ev L xs mdL_law 244 (.retAddr x :: Ls) (st) h = ev L xs mdL_law 245 (.retAddr x :: Ls) (.retAddr x :: st) (h) := e_sload_n dL_law_244 rfl
theorem iL_law_245 {v0 : Value} {v1 : Value} {v2 : Value} {v3 : Value} {x : Int32} {Ls st : List Value} {h : AH} : ev L xs mdL_law 245 (v0 :: v1 :: v2 :: v3 :: .int x :: Ls) (st) h = ev L xs mdL_law 247 (v0 :: v1 :: v2 :: v3 :: .int x :: Ls) (.int x :: st) (h) := e_iload dL_law_245 rfl
theorem iL_law_247  {Ls st : List Value} {h : AH} : ev L xs mdL_law 247 (Ls) (st) h = ev L xs mdL_law 248 (Ls) (.int (nI 1) :: st) (h) := e_iconst dL_law_247 (by decide)
theorem iL_law_248 {x z : Int32} {Ls st : List Value} {h : AH} : ev L xs mdL_law 248 (Ls) (.int z :: .int x :: st) h = ev L xs mdL_law 249 (Ls) (.int (x + z) :: st) (h) := e_iadd dL_law_248
theorem iL_law_249 {z : Nat} {j : Int32} {Ls st : List Value} {h : AH} (hi : inA j L = true) : ev L xs mdL_law 249 (Ls) (.int j :: .retAddr z :: st) h = ev L xs mdL_law 250 (Ls) (.int (xs j.toNatClampNeg) :: st) (h) := e_sald dL_law_249 rfl hi
theorem iL_law_250 {x : Nat} {Ls st : List Value} {h : AH} : ev L xs mdL_law 250 (.retAddr x :: Ls) (st) h = ev L xs mdL_law 251 (.retAddr x :: Ls) (.retAddr x :: st) (h) := e_sload_n dL_law_250 rfl
theorem iL_law_251 {v0 : Value} {v1 : Value} {v2 : Value} {v3 : Value} {x : Int32} {Ls st : List Value} {h : AH} : ev L xs mdL_law 251 (v0 :: v1 :: v2 :: v3 :: .int x :: Ls) (st) h = ev L xs mdL_law 253 (v0 :: v1 :: v2 :: v3 :: .int x :: Ls) (.int x :: st) (h) := e_iload dL_law_251 rfl
theorem iL_law_253  {Ls st : List Value} {h : AH} : ev L xs mdL_law 253 (Ls) (st) h = ev L xs mdL_law 254 (Ls) (.int (nI 2) :: st) (h) := e_iconst dL_law_253 (by decide)
theorem iL_law_254 {x z : Int32} {Ls st : List Value} {h : AH} : ev L xs mdL_law 254 (Ls) (.int z :: .int x :: st) h = ev L xs mdL_law 255 (Ls) (.int (x + z) :: st) (h) := e_iadd dL_law_254
theorem iL_law_255 {z : Nat} {j : Int32} {Ls st : List Value} {h : AH} (hi : inA j L = true) : ev L xs mdL_law 255 (Ls) (.int j :: .retAddr z :: st) h = ev L xs mdL_law 256 (Ls) (.int (xs j.toNatClampNeg) :: st) (h) := e_sald dL_law_255 rfl hi
theorem iL_law_256 {a : Nat} {p0 : Int32} {p1 : Int32} {Ls st : List Value} {h : AH} (hk : hK h a = 7) (hw : wds st ≤ 8) : ev L xs mdL_law 256 Ls (.int p1 :: .int p0 :: .ref a :: st) h = kn L xs mdL_law 256 259 Ls st (ev L xs mdX7_addPost 0 [.ref a, .int p0, .int p1, .null] [] h) := e_callV (as := [.int p1, .int p0]) dL_law_256 mr_8_98 (by decide) (by decide) rfl (by simp [wds, Value.category]; decide) rfl (by decide) hk hw
theorem iL_law_259 {v0 : Value} {v1 : Value} {v2 : Value} {v3 : Value} {v4 : Value} {v5 : Value} {v6 : Value} {x : Int32} {Ls st : List Value} {h : AH} (hc9 : v5.category = 1) : ev L xs mdL_law 259 (v0 :: v1 :: v2 :: v3 :: v4 :: v5 :: v6 :: Ls) (.int x :: st) h = ev L xs mdL_law 261 (v0 :: v1 :: v2 :: v3 :: v4 :: v5 :: .int x :: Ls) (st) (h) := e_istore dL_law_259 rfl (by decide) (by unfold catOK; show (_ || (v5.category == 1)) = true; rw [hc9]; rfl)
theorem iL_law_261 {v0 : Value} {v1 : Value} {x : Nat} {Ls st : List Value} {h : AH} : ev L xs mdL_law 261 (v0 :: v1 :: .ref x :: Ls) (st) h = ev L xs mdL_law 262 (v0 :: v1 :: .ref x :: Ls) (.ref x :: st) (h) := e_aload_n dL_law_261 rfl
theorem iL_law_262 {a : Nat} {Ls st : List Value} {h : AH} (hk : hK h a = 7) (hw : wds st ≤ 8) : ev L xs mdL_law 262 Ls (.ref a :: st) h = kn L xs mdL_law 262 265 Ls st (ev L xs mdX7_thrown 0 [.ref a] [] h) := e_callV (as := []) dL_law_262 mr_8_93 (by decide) (by decide) rfl (by simp [wds, Value.category]; decide) rfl (by decide) hk hw
theorem iL_law_265 {v0 : Value} {v1 : Value} {v2 : Value} {v3 : Value} {v4 : Value} {x : Int32} {Ls st : List Value} {h : AH} : ev L xs mdL_law 265 (v0 :: v1 :: v2 :: v3 :: v4 :: .int x :: Ls) (st) h = ev L xs mdL_law 267 (v0 :: v1 :: v2 :: v3 :: v4 :: .int x :: Ls) (.int x :: st) (h) := e_iload dL_law_265 rfl
theorem iL_law_267 {x z : Int32} {Ls st : List Value} {h : AH} : ev L xs mdL_law 267 Ls (.int z :: .int x :: st) h = if x = z then ev L xs mdL_law 272 Ls st h else ev L xs mdL_law 270 Ls st h := e_ic_eq dL_law_267 (by decide)
theorem iL_law_270  {Ls st : List Value} {h : AH} : ev L xs mdL_law 270 (Ls) (st) h = ev L xs mdL_law 271 (Ls) (.int (nI 0) :: st) (h) := e_iconst dL_law_270 (by decide)
theorem iL_law_271 {v : Int32} {Ls : List Value} {h : AH} (hv : v = nI 0 ∨ v = nI 1) : ev L xs mdL_law 271 Ls [.int v] h = some (.inl (some (.int v), h)) := e_zret dL_law_271 rfl hv
theorem iL_law_272 {v0 : Value} {v1 : Value} {v2 : Value} {v3 : Value} {v4 : Value} {x : Int32} {Ls st : List Value} {h : AH} : ev L xs mdL_law 272 (v0 :: v1 :: v2 :: v3 :: v4 :: .int x :: Ls) (st) h = ev L xs mdL_law 274 (v0 :: v1 :: v2 :: v3 :: v4 :: .int x :: Ls) (.int x :: st) (h) := e_iload dL_law_272 rfl
theorem iL_law_274 {x : Int32} {Ls st : List Value} {h : AH} : ev L xs mdL_law 274 Ls (.int x :: st) h = if x = nI 0 then ev L xs mdL_law 277 Ls st h else ev L xs mdL_law 289 Ls st h := e_if_ne dL_law_274 (by decide)
theorem iL_law_277 {v0 : Value} {v1 : Value} {v2 : Value} {x : Nat} {Ls st : List Value} {h : AH} : ev L xs mdL_law 277 (v0 :: v1 :: v2 :: .ref x :: Ls) (st) h = ev L xs mdL_law 278 (v0 :: v1 :: v2 :: .ref x :: Ls) (.ref x :: st) (h) := e_aload_n dL_law_277 rfl
theorem iL_law_278  {Ls st : List Value} {h : AH} : ev L xs mdL_law 278 (Ls) (st) h = ev L xs mdL_law 279 (Ls) (.int (nI 0) :: st) (h) := e_iconst dL_law_278 (by decide)
theorem iL_law_279 {a : Nat} {j : Int32} {Ls st : List Value} {h : AH} (hk : hK h a = 12) (hi : inA j (hN h a) = true) : ev L xs mdL_law 279 (Ls) (.int j :: .ref a :: st) h = ev L xs mdL_law 280 (Ls) (.long (hL h a j.toNatClampNeg) :: st) (h) := e_lald dL_law_279 hk hi
theorem iL_law_280 {v0 : Value} {v1 : Value} {v2 : Value} {v3 : Value} {v4 : Value} {v5 : Value} {x : Int32} {Ls st : List Value} {h : AH} : ev L xs mdL_law 280 (v0 :: v1 :: v2 :: v3 :: v4 :: v5 :: .int x :: Ls) (st) h = ev L xs mdL_law 282 (v0 :: v1 :: v2 :: v3 :: v4 :: v5 :: .int x :: Ls) (.int x :: st) (h) := e_iload dL_law_280 rfl
theorem iL_law_282 {x : Int32} {Ls st : List Value} {h : AH} : ev L xs mdL_law 282 (Ls) (.int x :: st) h = ev L xs mdL_law 283 (Ls) (.long x.toInt64 :: st) (h) := e_i2l dL_law_282
theorem iL_law_283 {x z : Int64} {Ls st : List Value} {h : AH} : ev L xs mdL_law 283 (Ls) (.long z :: .long x :: st) h = ev L xs mdL_law 284 (Ls) (.int (lg_cmp x z) :: st) (h) := e_lcmp dL_law_283
theorem iL_law_284 {x : Int32} {Ls st : List Value} {h : AH} : ev L xs mdL_law 284 Ls (.int x :: st) h = if x = nI 0 then ev L xs mdL_law 289 Ls st h else ev L xs mdL_law 287 Ls st h := e_if_eq dL_law_284 (by decide)
theorem iL_law_287  {Ls st : List Value} {h : AH} : ev L xs mdL_law 287 (Ls) (st) h = ev L xs mdL_law 288 (Ls) (.int (nI 0) :: st) (h) := e_iconst dL_law_287 (by decide)
theorem iL_law_288 {v : Int32} {Ls : List Value} {h : AH} (hv : v = nI 0 ∨ v = nI 1) : ev L xs mdL_law 288 Ls [.int v] h = some (.inl (some (.int v), h)) := e_zret dL_law_288 rfl hv
theorem iL_law_289  {Ls st : List Value} {h : AH} : ev L xs mdL_law 289 (Ls) (st) h = ev L xs mdL_law 1622 (Ls) (st) (h) := e_goto dL_law_289 (by decide)
theorem iL_law_292 {v0 : Value} {x : Nat} {Ls st : List Value} {h : AH} : ev L xs mdL_law 292 (v0 :: .ref x :: Ls) (st) h = ev L xs mdL_law 293 (v0 :: .ref x :: Ls) (.ref x :: st) (h) := e_aload_n dL_law_292 rfl
theorem iL_law_293 {x : Nat} {Ls st : List Value} {h : AH} : ev L xs mdL_law 293 (.retAddr x :: Ls) (st) h = ev L xs mdL_law 294 (.retAddr x :: Ls) (.retAddr x :: st) (h) := e_sload_n dL_law_293 rfl
theorem iL_law_294 {v0 : Value} {v1 : Value} {v2 : Value} {v3 : Value} {x : Int32} {Ls st : List Value} {h : AH} : ev L xs mdL_law 294 (v0 :: v1 :: v2 :: v3 :: .int x :: Ls) (st) h = ev L xs mdL_law 296 (v0 :: v1 :: v2 :: v3 :: .int x :: Ls) (.int x :: st) (h) := e_iload dL_law_294 rfl
theorem iL_law_296  {Ls st : List Value} {h : AH} : ev L xs mdL_law 296 (Ls) (st) h = ev L xs mdL_law 297 (Ls) (.int (nI 1) :: st) (h) := e_iconst dL_law_296 (by decide)
theorem iL_law_297 {x z : Int32} {Ls st : List Value} {h : AH} : ev L xs mdL_law 297 (Ls) (.int z :: .int x :: st) h = ev L xs mdL_law 298 (Ls) (.int (x + z) :: st) (h) := e_iadd dL_law_297
theorem iL_law_298 {z : Nat} {j : Int32} {Ls st : List Value} {h : AH} (hi : inA j L = true) : ev L xs mdL_law 298 (Ls) (.int j :: .retAddr z :: st) h = ev L xs mdL_law 299 (Ls) (.int (xs j.toNatClampNeg) :: st) (h) := e_sald dL_law_298 rfl hi
theorem iL_law_299 {x : Nat} {Ls st : List Value} {h : AH} : ev L xs mdL_law 299 (.retAddr x :: Ls) (st) h = ev L xs mdL_law 300 (.retAddr x :: Ls) (.retAddr x :: st) (h) := e_sload_n dL_law_299 rfl
theorem iL_law_300 {v0 : Value} {v1 : Value} {v2 : Value} {v3 : Value} {x : Int32} {Ls st : List Value} {h : AH} : ev L xs mdL_law 300 (v0 :: v1 :: v2 :: v3 :: .int x :: Ls) (st) h = ev L xs mdL_law 302 (v0 :: v1 :: v2 :: v3 :: .int x :: Ls) (.int x :: st) (h) := e_iload dL_law_300 rfl
theorem iL_law_302  {Ls st : List Value} {h : AH} : ev L xs mdL_law 302 (Ls) (st) h = ev L xs mdL_law 303 (Ls) (.int (nI 2) :: st) (h) := e_iconst dL_law_302 (by decide)
theorem iL_law_303 {x z : Int32} {Ls st : List Value} {h : AH} : ev L xs mdL_law 303 (Ls) (.int z :: .int x :: st) h = ev L xs mdL_law 304 (Ls) (.int (x + z) :: st) (h) := e_iadd dL_law_303
theorem iL_law_304 {z : Nat} {j : Int32} {Ls st : List Value} {h : AH} (hi : inA j L = true) : ev L xs mdL_law 304 (Ls) (.int j :: .retAddr z :: st) h = ev L xs mdL_law 305 (Ls) (.int (xs j.toNatClampNeg) :: st) (h) := e_sald dL_law_304 rfl hi
theorem iL_law_305 {v0 : Value} {v1 : Value} {v2 : Value} {x : Nat} {Ls st : List Value} {h : AH} : ev L xs mdL_law 305 (v0 :: v1 :: v2 :: .ref x :: Ls) (st) h = ev L xs mdL_law 306 (v0 :: v1 :: v2 :: .ref x :: Ls) (.ref x :: st) (h) := e_aload_n dL_law_305 rfl
theorem iL_law_306 {p0 : Nat} {p1 : Int32} {p2 : Int32} {p3 : Nat} {Ls st : List Value} {h : AH} (hw : wds st ≤ 8) : ev L xs mdL_law 306 Ls (.ref p3 :: .int p2 :: .int p1 :: .ref p0 :: st) h = kn L xs mdL_law 306 309 Ls st (ev L xs mdL_setNeeds 0 [.ref p0, .int p1, .int p2, .ref p3, .null] [] h) := e_callS (as := [.ref p3, .int p2, .int p1, .ref p0]) dL_law_306 mr_8_99 (by decide) (by decide) rfl (by simp [wds, Value.category]; decide) rfl hw
theorem iL_law_309 {v0 : Value} {v1 : Value} {v2 : Value} {v3 : Value} {v4 : Value} {v5 : Value} {x : Int32} {Ls st : List Value} {h : AH} (hc9 : v4.category = 1) : ev L xs mdL_law 309 (v0 :: v1 :: v2 :: v3 :: v4 :: v5 :: Ls) (.int x :: st) h = ev L xs mdL_law 311 (v0 :: v1 :: v2 :: v3 :: v4 :: .int x :: Ls) (st) (h) := e_istore dL_law_309 rfl (by decide) (by unfold catOK; show (_ || (v4.category == 1)) = true; rw [hc9]; rfl)
theorem iL_law_311 {v0 : Value} {v1 : Value} {x : Nat} {Ls st : List Value} {h : AH} : ev L xs mdL_law 311 (v0 :: v1 :: .ref x :: Ls) (st) h = ev L xs mdL_law 312 (v0 :: v1 :: .ref x :: Ls) (.ref x :: st) (h) := e_aload_n dL_law_311 rfl
theorem iL_law_312 {x : Nat} {Ls st : List Value} {h : AH} : ev L xs mdL_law 312 (.retAddr x :: Ls) (st) h = ev L xs mdL_law 313 (.retAddr x :: Ls) (.retAddr x :: st) (h) := e_sload_n dL_law_312 rfl
theorem iL_law_313 {v0 : Value} {v1 : Value} {v2 : Value} {v3 : Value} {x : Int32} {Ls st : List Value} {h : AH} : ev L xs mdL_law 313 (v0 :: v1 :: v2 :: v3 :: .int x :: Ls) (st) h = ev L xs mdL_law 315 (v0 :: v1 :: v2 :: v3 :: .int x :: Ls) (.int x :: st) (h) := e_iload dL_law_313 rfl
theorem iL_law_315  {Ls st : List Value} {h : AH} : ev L xs mdL_law 315 (Ls) (st) h = ev L xs mdL_law 316 (Ls) (.int (nI 1) :: st) (h) := e_iconst dL_law_315 (by decide)
theorem iL_law_316 {x z : Int32} {Ls st : List Value} {h : AH} : ev L xs mdL_law 316 (Ls) (.int z :: .int x :: st) h = ev L xs mdL_law 317 (Ls) (.int (x + z) :: st) (h) := e_iadd dL_law_316
theorem iL_law_317 {z : Nat} {j : Int32} {Ls st : List Value} {h : AH} (hi : inA j L = true) : ev L xs mdL_law 317 (Ls) (.int j :: .retAddr z :: st) h = ev L xs mdL_law 318 (Ls) (.int (xs j.toNatClampNeg) :: st) (h) := e_sald dL_law_317 rfl hi
theorem iL_law_318 {x : Nat} {Ls st : List Value} {h : AH} : ev L xs mdL_law 318 (.retAddr x :: Ls) (st) h = ev L xs mdL_law 319 (.retAddr x :: Ls) (.retAddr x :: st) (h) := e_sload_n dL_law_318 rfl
theorem iL_law_319 {v0 : Value} {v1 : Value} {v2 : Value} {v3 : Value} {x : Int32} {Ls st : List Value} {h : AH} : ev L xs mdL_law 319 (v0 :: v1 :: v2 :: v3 :: .int x :: Ls) (st) h = ev L xs mdL_law 321 (v0 :: v1 :: v2 :: v3 :: .int x :: Ls) (.int x :: st) (h) := e_iload dL_law_319 rfl
theorem iL_law_321  {Ls st : List Value} {h : AH} : ev L xs mdL_law 321 (Ls) (st) h = ev L xs mdL_law 322 (Ls) (.int (nI 2) :: st) (h) := e_iconst dL_law_321 (by decide)
theorem iL_law_322 {x z : Int32} {Ls st : List Value} {h : AH} : ev L xs mdL_law 322 (Ls) (.int z :: .int x :: st) h = ev L xs mdL_law 323 (Ls) (.int (x + z) :: st) (h) := e_iadd dL_law_322
theorem iL_law_323 {z : Nat} {j : Int32} {Ls st : List Value} {h : AH} (hi : inA j L = true) : ev L xs mdL_law 323 (Ls) (.int j :: .retAddr z :: st) h = ev L xs mdL_law 324 (Ls) (.int (xs j.toNatClampNeg) :: st) (h) := e_sald dL_law_323 rfl hi
theorem iL_law_324 {a : Nat} {p0 : Int32} {p1 : Int32} {Ls st : List Value} {h : AH} (hk : hK h a = 7) (hw : wds st ≤ 8) : ev L xs mdL_law 324 Ls (.int p1 :: .int p0 :: .ref a :: st) h = kn L xs mdL_law 324 327 Ls st (ev L xs mdX7_setNeeds 0 [.ref a, .int p0, .int p1, .null] [] h) := e_callV (as := [.int p1, .int p0]) dL_law_324 mr_8_101 (by decide) (by decide) rfl (by simp [wds, Value.category]; decide) rfl (by decide) hk hw
theorem iL_law_327 {v0 : Value} {v1 : Value} {v2 : Value} {v3 : Value} {v4 : Value} {v5 : Value} {v6 : Value} {x : Int32} {Ls st : List Value} {h : AH} (hc9 : v5.category = 1) : ev L xs mdL_law 327 (v0 :: v1 :: v2 :: v3 :: v4 :: v5 :: v6 :: Ls) (.int x :: st) h = ev L xs mdL_law 329 (v0 :: v1 :: v2 :: v3 :: v4 :: v5 :: .int x :: Ls) (st) (h) := e_istore dL_law_327 rfl (by decide) (by unfold catOK; show (_ || (v5.category == 1)) = true; rw [hc9]; rfl)
theorem iL_law_329 {v0 : Value} {v1 : Value} {x : Nat} {Ls st : List Value} {h : AH} : ev L xs mdL_law 329 (v0 :: v1 :: .ref x :: Ls) (st) h = ev L xs mdL_law 330 (v0 :: v1 :: .ref x :: Ls) (.ref x :: st) (h) := e_aload_n dL_law_329 rfl
theorem iL_law_330 {a : Nat} {Ls st : List Value} {h : AH} (hk : hK h a = 7) (hw : wds st ≤ 8) : ev L xs mdL_law 330 Ls (.ref a :: st) h = kn L xs mdL_law 330 333 Ls st (ev L xs mdX7_thrown 0 [.ref a] [] h) := e_callV (as := []) dL_law_330 mr_8_93 (by decide) (by decide) rfl (by simp [wds, Value.category]; decide) rfl (by decide) hk hw
theorem iL_law_333 {v0 : Value} {v1 : Value} {v2 : Value} {v3 : Value} {v4 : Value} {x : Int32} {Ls st : List Value} {h : AH} : ev L xs mdL_law 333 (v0 :: v1 :: v2 :: v3 :: v4 :: .int x :: Ls) (st) h = ev L xs mdL_law 335 (v0 :: v1 :: v2 :: v3 :: v4 :: .int x :: Ls) (.int x :: st) (h) := e_iload dL_law_333 rfl
theorem iL_law_335 {x z : Int32} {Ls st : List Value} {h : AH} : ev L xs mdL_law 335 Ls (.int z :: .int x :: st) h = if x = z then ev L xs mdL_law 340 Ls st h else ev L xs mdL_law 338 Ls st h := e_ic_eq dL_law_335 (by decide)
theorem iL_law_338  {Ls st : List Value} {h : AH} : ev L xs mdL_law 338 (Ls) (st) h = ev L xs mdL_law 339 (Ls) (.int (nI 0) :: st) (h) := e_iconst dL_law_338 (by decide)
theorem iL_law_339 {v : Int32} {Ls : List Value} {h : AH} (hv : v = nI 0 ∨ v = nI 1) : ev L xs mdL_law 339 Ls [.int v] h = some (.inl (some (.int v), h)) := e_zret dL_law_339 rfl hv
theorem iL_law_340 {v0 : Value} {v1 : Value} {v2 : Value} {v3 : Value} {v4 : Value} {x : Int32} {Ls st : List Value} {h : AH} : ev L xs mdL_law 340 (v0 :: v1 :: v2 :: v3 :: v4 :: .int x :: Ls) (st) h = ev L xs mdL_law 342 (v0 :: v1 :: v2 :: v3 :: v4 :: .int x :: Ls) (.int x :: st) (h) := e_iload dL_law_340 rfl
theorem iL_law_342 {x : Int32} {Ls st : List Value} {h : AH} : ev L xs mdL_law 342 Ls (.int x :: st) h = if x = nI 0 then ev L xs mdL_law 345 Ls st h else ev L xs mdL_law 357 Ls st h := e_if_ne dL_law_342 (by decide)
theorem iL_law_345 {v0 : Value} {v1 : Value} {v2 : Value} {x : Nat} {Ls st : List Value} {h : AH} : ev L xs mdL_law 345 (v0 :: v1 :: v2 :: .ref x :: Ls) (st) h = ev L xs mdL_law 346 (v0 :: v1 :: v2 :: .ref x :: Ls) (.ref x :: st) (h) := e_aload_n dL_law_345 rfl
theorem iL_law_346  {Ls st : List Value} {h : AH} : ev L xs mdL_law 346 (Ls) (st) h = ev L xs mdL_law 347 (Ls) (.int (nI 0) :: st) (h) := e_iconst dL_law_346 (by decide)
theorem iL_law_347 {a : Nat} {j : Int32} {Ls st : List Value} {h : AH} (hk : hK h a = 12) (hi : inA j (hN h a) = true) : ev L xs mdL_law 347 (Ls) (.int j :: .ref a :: st) h = ev L xs mdL_law 348 (Ls) (.long (hL h a j.toNatClampNeg) :: st) (h) := e_lald dL_law_347 hk hi
theorem iL_law_348 {v0 : Value} {v1 : Value} {v2 : Value} {v3 : Value} {v4 : Value} {v5 : Value} {x : Int32} {Ls st : List Value} {h : AH} : ev L xs mdL_law 348 (v0 :: v1 :: v2 :: v3 :: v4 :: v5 :: .int x :: Ls) (st) h = ev L xs mdL_law 350 (v0 :: v1 :: v2 :: v3 :: v4 :: v5 :: .int x :: Ls) (.int x :: st) (h) := e_iload dL_law_348 rfl
theorem iL_law_350 {x : Int32} {Ls st : List Value} {h : AH} : ev L xs mdL_law 350 (Ls) (.int x :: st) h = ev L xs mdL_law 351 (Ls) (.long x.toInt64 :: st) (h) := e_i2l dL_law_350
theorem iL_law_351 {x z : Int64} {Ls st : List Value} {h : AH} : ev L xs mdL_law 351 (Ls) (.long z :: .long x :: st) h = ev L xs mdL_law 352 (Ls) (.int (lg_cmp x z) :: st) (h) := e_lcmp dL_law_351
theorem iL_law_352 {x : Int32} {Ls st : List Value} {h : AH} : ev L xs mdL_law 352 Ls (.int x :: st) h = if x = nI 0 then ev L xs mdL_law 357 Ls st h else ev L xs mdL_law 355 Ls st h := e_if_eq dL_law_352 (by decide)
theorem iL_law_355  {Ls st : List Value} {h : AH} : ev L xs mdL_law 355 (Ls) (st) h = ev L xs mdL_law 356 (Ls) (.int (nI 0) :: st) (h) := e_iconst dL_law_355 (by decide)
theorem iL_law_356 {v : Int32} {Ls : List Value} {h : AH} (hv : v = nI 0 ∨ v = nI 1) : ev L xs mdL_law 356 Ls [.int v] h = some (.inl (some (.int v), h)) := e_zret dL_law_356 rfl hv
theorem iL_law_357  {Ls st : List Value} {h : AH} : ev L xs mdL_law 357 (Ls) (st) h = ev L xs mdL_law 1622 (Ls) (st) (h) := e_goto dL_law_357 (by decide)
theorem iL_law_360 {v0 : Value} {x : Nat} {Ls st : List Value} {h : AH} : ev L xs mdL_law 360 (v0 :: .ref x :: Ls) (st) h = ev L xs mdL_law 361 (v0 :: .ref x :: Ls) (.ref x :: st) (h) := e_aload_n dL_law_360 rfl
theorem iL_law_361 {x : Nat} {Ls st : List Value} {h : AH} : ev L xs mdL_law 361 (.retAddr x :: Ls) (st) h = ev L xs mdL_law 362 (.retAddr x :: Ls) (.retAddr x :: st) (h) := e_sload_n dL_law_361 rfl
theorem iL_law_362 {v0 : Value} {v1 : Value} {v2 : Value} {v3 : Value} {x : Int32} {Ls st : List Value} {h : AH} : ev L xs mdL_law 362 (v0 :: v1 :: v2 :: v3 :: .int x :: Ls) (st) h = ev L xs mdL_law 364 (v0 :: v1 :: v2 :: v3 :: .int x :: Ls) (.int x :: st) (h) := e_iload dL_law_362 rfl
theorem iL_law_364  {Ls st : List Value} {h : AH} : ev L xs mdL_law 364 (Ls) (st) h = ev L xs mdL_law 365 (Ls) (.int (nI 1) :: st) (h) := e_iconst dL_law_364 (by decide)
theorem iL_law_365 {x z : Int32} {Ls st : List Value} {h : AH} : ev L xs mdL_law 365 (Ls) (.int z :: .int x :: st) h = ev L xs mdL_law 366 (Ls) (.int (x + z) :: st) (h) := e_iadd dL_law_365
theorem iL_law_366 {z : Nat} {j : Int32} {Ls st : List Value} {h : AH} (hi : inA j L = true) : ev L xs mdL_law 366 (Ls) (.int j :: .retAddr z :: st) h = ev L xs mdL_law 367 (Ls) (.int (xs j.toNatClampNeg) :: st) (h) := e_sald dL_law_366 rfl hi
theorem iL_law_367 {x : Nat} {Ls st : List Value} {h : AH} : ev L xs mdL_law 367 (.retAddr x :: Ls) (st) h = ev L xs mdL_law 368 (.retAddr x :: Ls) (.retAddr x :: st) (h) := e_sload_n dL_law_367 rfl
theorem iL_law_368 {v0 : Value} {v1 : Value} {v2 : Value} {v3 : Value} {x : Int32} {Ls st : List Value} {h : AH} : ev L xs mdL_law 368 (v0 :: v1 :: v2 :: v3 :: .int x :: Ls) (st) h = ev L xs mdL_law 370 (v0 :: v1 :: v2 :: v3 :: .int x :: Ls) (.int x :: st) (h) := e_iload dL_law_368 rfl
theorem iL_law_370  {Ls st : List Value} {h : AH} : ev L xs mdL_law 370 (Ls) (st) h = ev L xs mdL_law 371 (Ls) (.int (nI 2) :: st) (h) := e_iconst dL_law_370 (by decide)
theorem iL_law_371 {x z : Int32} {Ls st : List Value} {h : AH} : ev L xs mdL_law 371 (Ls) (.int z :: .int x :: st) h = ev L xs mdL_law 372 (Ls) (.int (x + z) :: st) (h) := e_iadd dL_law_371
theorem iL_law_372 {z : Nat} {j : Int32} {Ls st : List Value} {h : AH} (hi : inA j L = true) : ev L xs mdL_law 372 (Ls) (.int j :: .retAddr z :: st) h = ev L xs mdL_law 373 (Ls) (.int (xs j.toNatClampNeg) :: st) (h) := e_sald dL_law_372 rfl hi
theorem iL_law_373 {x : Nat} {Ls st : List Value} {h : AH} : ev L xs mdL_law 373 (.retAddr x :: Ls) (st) h = ev L xs mdL_law 374 (.retAddr x :: Ls) (.retAddr x :: st) (h) := e_sload_n dL_law_373 rfl
theorem iL_law_374 {v0 : Value} {v1 : Value} {v2 : Value} {v3 : Value} {x : Int32} {Ls st : List Value} {h : AH} : ev L xs mdL_law 374 (v0 :: v1 :: v2 :: v3 :: .int x :: Ls) (st) h = ev L xs mdL_law 376 (v0 :: v1 :: v2 :: v3 :: .int x :: Ls) (.int x :: st) (h) := e_iload dL_law_374 rfl
theorem iL_law_376  {Ls st : List Value} {h : AH} : ev L xs mdL_law 376 (Ls) (st) h = ev L xs mdL_law 377 (Ls) (.int (nI 3) :: st) (h) := e_iconst dL_law_376 (by decide)
theorem iL_law_377 {x z : Int32} {Ls st : List Value} {h : AH} : ev L xs mdL_law 377 (Ls) (.int z :: .int x :: st) h = ev L xs mdL_law 378 (Ls) (.int (x + z) :: st) (h) := e_iadd dL_law_377
theorem iL_law_378 {z : Nat} {j : Int32} {Ls st : List Value} {h : AH} (hi : inA j L = true) : ev L xs mdL_law 378 (Ls) (.int j :: .retAddr z :: st) h = ev L xs mdL_law 379 (Ls) (.int (xs j.toNatClampNeg) :: st) (h) := e_sald dL_law_378 rfl hi
theorem iL_law_379 {v0 : Value} {v1 : Value} {v2 : Value} {x : Nat} {Ls st : List Value} {h : AH} : ev L xs mdL_law 379 (v0 :: v1 :: v2 :: .ref x :: Ls) (st) h = ev L xs mdL_law 380 (v0 :: v1 :: v2 :: .ref x :: Ls) (.ref x :: st) (h) := e_aload_n dL_law_379 rfl
theorem iL_law_380 {p0 : Nat} {p1 : Int32} {p2 : Int32} {p3 : Int32} {p4 : Nat} {Ls st : List Value} {h : AH} (hw : wds st ≤ 8) : ev L xs mdL_law 380 Ls (.ref p4 :: .int p3 :: .int p2 :: .int p1 :: .ref p0 :: st) h = kn L xs mdL_law 380 383 Ls st (ev L xs mdL_addGuard 0 [.ref p0, .int p1, .int p2, .int p3, .ref p4, .null] [] h) := e_callS (as := [.ref p4, .int p3, .int p2, .int p1, .ref p0]) dL_law_380 mr_8_102 (by decide) (by decide) rfl (by simp [wds, Value.category]; decide) rfl hw
theorem iL_law_383 {v0 : Value} {v1 : Value} {v2 : Value} {v3 : Value} {v4 : Value} {v5 : Value} {x : Int32} {Ls st : List Value} {h : AH} (hc9 : v4.category = 1) : ev L xs mdL_law 383 (v0 :: v1 :: v2 :: v3 :: v4 :: v5 :: Ls) (.int x :: st) h = ev L xs mdL_law 385 (v0 :: v1 :: v2 :: v3 :: v4 :: .int x :: Ls) (st) (h) := e_istore dL_law_383 rfl (by decide) (by unfold catOK; show (_ || (v4.category == 1)) = true; rw [hc9]; rfl)
theorem iL_law_385 {v0 : Value} {v1 : Value} {x : Nat} {Ls st : List Value} {h : AH} : ev L xs mdL_law 385 (v0 :: v1 :: .ref x :: Ls) (st) h = ev L xs mdL_law 386 (v0 :: v1 :: .ref x :: Ls) (.ref x :: st) (h) := e_aload_n dL_law_385 rfl
theorem iL_law_386 {x : Nat} {Ls st : List Value} {h : AH} : ev L xs mdL_law 386 (.retAddr x :: Ls) (st) h = ev L xs mdL_law 387 (.retAddr x :: Ls) (.retAddr x :: st) (h) := e_sload_n dL_law_386 rfl
theorem iL_law_387 {v0 : Value} {v1 : Value} {v2 : Value} {v3 : Value} {x : Int32} {Ls st : List Value} {h : AH} : ev L xs mdL_law 387 (v0 :: v1 :: v2 :: v3 :: .int x :: Ls) (st) h = ev L xs mdL_law 389 (v0 :: v1 :: v2 :: v3 :: .int x :: Ls) (.int x :: st) (h) := e_iload dL_law_387 rfl
theorem iL_law_389  {Ls st : List Value} {h : AH} : ev L xs mdL_law 389 (Ls) (st) h = ev L xs mdL_law 390 (Ls) (.int (nI 1) :: st) (h) := e_iconst dL_law_389 (by decide)
theorem iL_law_390 {x z : Int32} {Ls st : List Value} {h : AH} : ev L xs mdL_law 390 (Ls) (.int z :: .int x :: st) h = ev L xs mdL_law 391 (Ls) (.int (x + z) :: st) (h) := e_iadd dL_law_390
theorem iL_law_391 {z : Nat} {j : Int32} {Ls st : List Value} {h : AH} (hi : inA j L = true) : ev L xs mdL_law 391 (Ls) (.int j :: .retAddr z :: st) h = ev L xs mdL_law 392 (Ls) (.int (xs j.toNatClampNeg) :: st) (h) := e_sald dL_law_391 rfl hi
theorem iL_law_392 {x : Nat} {Ls st : List Value} {h : AH} : ev L xs mdL_law 392 (.retAddr x :: Ls) (st) h = ev L xs mdL_law 393 (.retAddr x :: Ls) (.retAddr x :: st) (h) := e_sload_n dL_law_392 rfl
theorem iL_law_393 {v0 : Value} {v1 : Value} {v2 : Value} {v3 : Value} {x : Int32} {Ls st : List Value} {h : AH} : ev L xs mdL_law 393 (v0 :: v1 :: v2 :: v3 :: .int x :: Ls) (st) h = ev L xs mdL_law 395 (v0 :: v1 :: v2 :: v3 :: .int x :: Ls) (.int x :: st) (h) := e_iload dL_law_393 rfl
theorem iL_law_395  {Ls st : List Value} {h : AH} : ev L xs mdL_law 395 (Ls) (st) h = ev L xs mdL_law 396 (Ls) (.int (nI 2) :: st) (h) := e_iconst dL_law_395 (by decide)
theorem iL_law_396 {x z : Int32} {Ls st : List Value} {h : AH} : ev L xs mdL_law 396 (Ls) (.int z :: .int x :: st) h = ev L xs mdL_law 397 (Ls) (.int (x + z) :: st) (h) := e_iadd dL_law_396
theorem iL_law_397 {z : Nat} {j : Int32} {Ls st : List Value} {h : AH} (hi : inA j L = true) : ev L xs mdL_law 397 (Ls) (.int j :: .retAddr z :: st) h = ev L xs mdL_law 398 (Ls) (.int (xs j.toNatClampNeg) :: st) (h) := e_sald dL_law_397 rfl hi
theorem iL_law_398 {x : Nat} {Ls st : List Value} {h : AH} : ev L xs mdL_law 398 (.retAddr x :: Ls) (st) h = ev L xs mdL_law 399 (.retAddr x :: Ls) (.retAddr x :: st) (h) := e_sload_n dL_law_398 rfl
theorem iL_law_399 {v0 : Value} {v1 : Value} {v2 : Value} {v3 : Value} {x : Int32} {Ls st : List Value} {h : AH} : ev L xs mdL_law 399 (v0 :: v1 :: v2 :: v3 :: .int x :: Ls) (st) h = ev L xs mdL_law 401 (v0 :: v1 :: v2 :: v3 :: .int x :: Ls) (.int x :: st) (h) := e_iload dL_law_399 rfl
theorem iL_law_401  {Ls st : List Value} {h : AH} : ev L xs mdL_law 401 (Ls) (st) h = ev L xs mdL_law 402 (Ls) (.int (nI 3) :: st) (h) := e_iconst dL_law_401 (by decide)
theorem iL_law_402 {x z : Int32} {Ls st : List Value} {h : AH} : ev L xs mdL_law 402 (Ls) (.int z :: .int x :: st) h = ev L xs mdL_law 403 (Ls) (.int (x + z) :: st) (h) := e_iadd dL_law_402
theorem iL_law_403 {z : Nat} {j : Int32} {Ls st : List Value} {h : AH} (hi : inA j L = true) : ev L xs mdL_law 403 (Ls) (.int j :: .retAddr z :: st) h = ev L xs mdL_law 404 (Ls) (.int (xs j.toNatClampNeg) :: st) (h) := e_sald dL_law_403 rfl hi
theorem iL_law_404 {a : Nat} {p0 : Int32} {p1 : Int32} {p2 : Int32} {Ls st : List Value} {h : AH} (hk : hK h a = 7) (hw : wds st ≤ 8) : ev L xs mdL_law 404 Ls (.int p2 :: .int p1 :: .int p0 :: .ref a :: st) h = kn L xs mdL_law 404 407 Ls st (ev L xs mdX7_addGuard 0 [.ref a, .int p0, .int p1, .int p2, .null] [] h) := e_callV (as := [.int p2, .int p1, .int p0]) dL_law_404 mr_8_105 (by decide) (by decide) rfl (by simp [wds, Value.category]; decide) rfl (by decide) hk hw
theorem iL_law_407 {v0 : Value} {v1 : Value} {v2 : Value} {v3 : Value} {v4 : Value} {v5 : Value} {v6 : Value} {x : Int32} {Ls st : List Value} {h : AH} (hc9 : v5.category = 1) : ev L xs mdL_law 407 (v0 :: v1 :: v2 :: v3 :: v4 :: v5 :: v6 :: Ls) (.int x :: st) h = ev L xs mdL_law 409 (v0 :: v1 :: v2 :: v3 :: v4 :: v5 :: .int x :: Ls) (st) (h) := e_istore dL_law_407 rfl (by decide) (by unfold catOK; show (_ || (v5.category == 1)) = true; rw [hc9]; rfl)
theorem iL_law_409 {v0 : Value} {v1 : Value} {x : Nat} {Ls st : List Value} {h : AH} : ev L xs mdL_law 409 (v0 :: v1 :: .ref x :: Ls) (st) h = ev L xs mdL_law 410 (v0 :: v1 :: .ref x :: Ls) (.ref x :: st) (h) := e_aload_n dL_law_409 rfl
theorem iL_law_410 {a : Nat} {Ls st : List Value} {h : AH} (hk : hK h a = 7) (hw : wds st ≤ 8) : ev L xs mdL_law 410 Ls (.ref a :: st) h = kn L xs mdL_law 410 413 Ls st (ev L xs mdX7_thrown 0 [.ref a] [] h) := e_callV (as := []) dL_law_410 mr_8_93 (by decide) (by decide) rfl (by simp [wds, Value.category]; decide) rfl (by decide) hk hw
theorem iL_law_413 {v0 : Value} {v1 : Value} {v2 : Value} {v3 : Value} {v4 : Value} {x : Int32} {Ls st : List Value} {h : AH} : ev L xs mdL_law 413 (v0 :: v1 :: v2 :: v3 :: v4 :: .int x :: Ls) (st) h = ev L xs mdL_law 415 (v0 :: v1 :: v2 :: v3 :: v4 :: .int x :: Ls) (.int x :: st) (h) := e_iload dL_law_413 rfl
theorem iL_law_415 {x z : Int32} {Ls st : List Value} {h : AH} : ev L xs mdL_law 415 Ls (.int z :: .int x :: st) h = if x = z then ev L xs mdL_law 420 Ls st h else ev L xs mdL_law 418 Ls st h := e_ic_eq dL_law_415 (by decide)
theorem iL_law_418  {Ls st : List Value} {h : AH} : ev L xs mdL_law 418 (Ls) (st) h = ev L xs mdL_law 419 (Ls) (.int (nI 0) :: st) (h) := e_iconst dL_law_418 (by decide)
theorem iL_law_419 {v : Int32} {Ls : List Value} {h : AH} (hv : v = nI 0 ∨ v = nI 1) : ev L xs mdL_law 419 Ls [.int v] h = some (.inl (some (.int v), h)) := e_zret dL_law_419 rfl hv
theorem iL_law_420 {v0 : Value} {v1 : Value} {v2 : Value} {v3 : Value} {v4 : Value} {x : Int32} {Ls st : List Value} {h : AH} : ev L xs mdL_law 420 (v0 :: v1 :: v2 :: v3 :: v4 :: .int x :: Ls) (st) h = ev L xs mdL_law 422 (v0 :: v1 :: v2 :: v3 :: v4 :: .int x :: Ls) (.int x :: st) (h) := e_iload dL_law_420 rfl
theorem iL_law_422 {x : Int32} {Ls st : List Value} {h : AH} : ev L xs mdL_law 422 Ls (.int x :: st) h = if x = nI 0 then ev L xs mdL_law 425 Ls st h else ev L xs mdL_law 437 Ls st h := e_if_ne dL_law_422 (by decide)
theorem iL_law_425 {v0 : Value} {v1 : Value} {v2 : Value} {x : Nat} {Ls st : List Value} {h : AH} : ev L xs mdL_law 425 (v0 :: v1 :: v2 :: .ref x :: Ls) (st) h = ev L xs mdL_law 426 (v0 :: v1 :: v2 :: .ref x :: Ls) (.ref x :: st) (h) := e_aload_n dL_law_425 rfl
theorem iL_law_426  {Ls st : List Value} {h : AH} : ev L xs mdL_law 426 (Ls) (st) h = ev L xs mdL_law 427 (Ls) (.int (nI 0) :: st) (h) := e_iconst dL_law_426 (by decide)
theorem iL_law_427 {a : Nat} {j : Int32} {Ls st : List Value} {h : AH} (hk : hK h a = 12) (hi : inA j (hN h a) = true) : ev L xs mdL_law 427 (Ls) (.int j :: .ref a :: st) h = ev L xs mdL_law 428 (Ls) (.long (hL h a j.toNatClampNeg) :: st) (h) := e_lald dL_law_427 hk hi
theorem iL_law_428 {v0 : Value} {v1 : Value} {v2 : Value} {v3 : Value} {v4 : Value} {v5 : Value} {x : Int32} {Ls st : List Value} {h : AH} : ev L xs mdL_law 428 (v0 :: v1 :: v2 :: v3 :: v4 :: v5 :: .int x :: Ls) (st) h = ev L xs mdL_law 430 (v0 :: v1 :: v2 :: v3 :: v4 :: v5 :: .int x :: Ls) (.int x :: st) (h) := e_iload dL_law_428 rfl
theorem iL_law_430 {x : Int32} {Ls st : List Value} {h : AH} : ev L xs mdL_law 430 (Ls) (.int x :: st) h = ev L xs mdL_law 431 (Ls) (.long x.toInt64 :: st) (h) := e_i2l dL_law_430
theorem iL_law_431 {x z : Int64} {Ls st : List Value} {h : AH} : ev L xs mdL_law 431 (Ls) (.long z :: .long x :: st) h = ev L xs mdL_law 432 (Ls) (.int (lg_cmp x z) :: st) (h) := e_lcmp dL_law_431
theorem iL_law_432 {x : Int32} {Ls st : List Value} {h : AH} : ev L xs mdL_law 432 Ls (.int x :: st) h = if x = nI 0 then ev L xs mdL_law 437 Ls st h else ev L xs mdL_law 435 Ls st h := e_if_eq dL_law_432 (by decide)
theorem iL_law_435  {Ls st : List Value} {h : AH} : ev L xs mdL_law 435 (Ls) (st) h = ev L xs mdL_law 436 (Ls) (.int (nI 0) :: st) (h) := e_iconst dL_law_435 (by decide)
theorem iL_law_436 {v : Int32} {Ls : List Value} {h : AH} (hv : v = nI 0 ∨ v = nI 1) : ev L xs mdL_law 436 Ls [.int v] h = some (.inl (some (.int v), h)) := e_zret dL_law_436 rfl hv
theorem iL_law_437  {Ls st : List Value} {h : AH} : ev L xs mdL_law 437 (Ls) (st) h = ev L xs mdL_law 1622 (Ls) (st) (h) := e_goto dL_law_437 (by decide)
theorem iL_law_440 {v0 : Value} {x : Nat} {Ls st : List Value} {h : AH} : ev L xs mdL_law 440 (v0 :: .ref x :: Ls) (st) h = ev L xs mdL_law 441 (v0 :: .ref x :: Ls) (.ref x :: st) (h) := e_aload_n dL_law_440 rfl
theorem iL_law_441 {x : Nat} {Ls st : List Value} {h : AH} : ev L xs mdL_law 441 (.retAddr x :: Ls) (st) h = ev L xs mdL_law 442 (.retAddr x :: Ls) (.retAddr x :: st) (h) := e_sload_n dL_law_441 rfl
theorem iL_law_442 {v0 : Value} {v1 : Value} {v2 : Value} {v3 : Value} {x : Int32} {Ls st : List Value} {h : AH} : ev L xs mdL_law 442 (v0 :: v1 :: v2 :: v3 :: .int x :: Ls) (st) h = ev L xs mdL_law 444 (v0 :: v1 :: v2 :: v3 :: .int x :: Ls) (.int x :: st) (h) := e_iload dL_law_442 rfl
theorem iL_law_444  {Ls st : List Value} {h : AH} : ev L xs mdL_law 444 (Ls) (st) h = ev L xs mdL_law 445 (Ls) (.int (nI 1) :: st) (h) := e_iconst dL_law_444 (by decide)
theorem iL_law_445 {x z : Int32} {Ls st : List Value} {h : AH} : ev L xs mdL_law 445 (Ls) (.int z :: .int x :: st) h = ev L xs mdL_law 446 (Ls) (.int (x + z) :: st) (h) := e_iadd dL_law_445
theorem iL_law_446 {z : Nat} {j : Int32} {Ls st : List Value} {h : AH} (hi : inA j L = true) : ev L xs mdL_law 446 (Ls) (.int j :: .retAddr z :: st) h = ev L xs mdL_law 447 (Ls) (.int (xs j.toNatClampNeg) :: st) (h) := e_sald dL_law_446 rfl hi
theorem iL_law_447 {x : Nat} {Ls st : List Value} {h : AH} : ev L xs mdL_law 447 (.retAddr x :: Ls) (st) h = ev L xs mdL_law 448 (.retAddr x :: Ls) (.retAddr x :: st) (h) := e_sload_n dL_law_447 rfl
theorem iL_law_448 {v0 : Value} {v1 : Value} {v2 : Value} {v3 : Value} {x : Int32} {Ls st : List Value} {h : AH} : ev L xs mdL_law 448 (v0 :: v1 :: v2 :: v3 :: .int x :: Ls) (st) h = ev L xs mdL_law 450 (v0 :: v1 :: v2 :: v3 :: .int x :: Ls) (.int x :: st) (h) := e_iload dL_law_448 rfl
theorem iL_law_450  {Ls st : List Value} {h : AH} : ev L xs mdL_law 450 (Ls) (st) h = ev L xs mdL_law 451 (Ls) (.int (nI 2) :: st) (h) := e_iconst dL_law_450 (by decide)
theorem iL_law_451 {x z : Int32} {Ls st : List Value} {h : AH} : ev L xs mdL_law 451 (Ls) (.int z :: .int x :: st) h = ev L xs mdL_law 452 (Ls) (.int (x + z) :: st) (h) := e_iadd dL_law_451
theorem iL_law_452 {z : Nat} {j : Int32} {Ls st : List Value} {h : AH} (hi : inA j L = true) : ev L xs mdL_law 452 (Ls) (.int j :: .retAddr z :: st) h = ev L xs mdL_law 453 (Ls) (.int (xs j.toNatClampNeg) :: st) (h) := e_sald dL_law_452 rfl hi
theorem iL_law_453 {v0 : Value} {v1 : Value} {v2 : Value} {x : Nat} {Ls st : List Value} {h : AH} : ev L xs mdL_law 453 (v0 :: v1 :: v2 :: .ref x :: Ls) (st) h = ev L xs mdL_law 454 (v0 :: v1 :: v2 :: .ref x :: Ls) (.ref x :: st) (h) := e_aload_n dL_law_453 rfl
theorem iL_law_454 {p0 : Nat} {p1 : Int32} {p2 : Int32} {p3 : Nat} {Ls st : List Value} {h : AH} (hw : wds st ≤ 8) : ev L xs mdL_law 454 Ls (.ref p3 :: .int p2 :: .int p1 :: .ref p0 :: st) h = kn L xs mdL_law 454 457 Ls st (ev L xs mdL_setPost 0 [.ref p0, .int p1, .int p2, .ref p3, .null] [] h) := e_callS (as := [.ref p3, .int p2, .int p1, .ref p0]) dL_law_454 mr_8_106 (by decide) (by decide) rfl (by simp [wds, Value.category]; decide) rfl hw
theorem iL_law_457 {v0 : Value} {v1 : Value} {v2 : Value} {v3 : Value} {v4 : Value} {v5 : Value} {x : Int32} {Ls st : List Value} {h : AH} (hc9 : v4.category = 1) : ev L xs mdL_law 457 (v0 :: v1 :: v2 :: v3 :: v4 :: v5 :: Ls) (.int x :: st) h = ev L xs mdL_law 459 (v0 :: v1 :: v2 :: v3 :: v4 :: .int x :: Ls) (st) (h) := e_istore dL_law_457 rfl (by decide) (by unfold catOK; show (_ || (v4.category == 1)) = true; rw [hc9]; rfl)
theorem iL_law_459 {v0 : Value} {v1 : Value} {x : Nat} {Ls st : List Value} {h : AH} : ev L xs mdL_law 459 (v0 :: v1 :: .ref x :: Ls) (st) h = ev L xs mdL_law 460 (v0 :: v1 :: .ref x :: Ls) (.ref x :: st) (h) := e_aload_n dL_law_459 rfl
theorem iL_law_460 {x : Nat} {Ls st : List Value} {h : AH} : ev L xs mdL_law 460 (.retAddr x :: Ls) (st) h = ev L xs mdL_law 461 (.retAddr x :: Ls) (.retAddr x :: st) (h) := e_sload_n dL_law_460 rfl
theorem iL_law_461 {v0 : Value} {v1 : Value} {v2 : Value} {v3 : Value} {x : Int32} {Ls st : List Value} {h : AH} : ev L xs mdL_law 461 (v0 :: v1 :: v2 :: v3 :: .int x :: Ls) (st) h = ev L xs mdL_law 463 (v0 :: v1 :: v2 :: v3 :: .int x :: Ls) (.int x :: st) (h) := e_iload dL_law_461 rfl
theorem iL_law_463  {Ls st : List Value} {h : AH} : ev L xs mdL_law 463 (Ls) (st) h = ev L xs mdL_law 464 (Ls) (.int (nI 1) :: st) (h) := e_iconst dL_law_463 (by decide)
theorem iL_law_464 {x z : Int32} {Ls st : List Value} {h : AH} : ev L xs mdL_law 464 (Ls) (.int z :: .int x :: st) h = ev L xs mdL_law 465 (Ls) (.int (x + z) :: st) (h) := e_iadd dL_law_464
theorem iL_law_465 {z : Nat} {j : Int32} {Ls st : List Value} {h : AH} (hi : inA j L = true) : ev L xs mdL_law 465 (Ls) (.int j :: .retAddr z :: st) h = ev L xs mdL_law 466 (Ls) (.int (xs j.toNatClampNeg) :: st) (h) := e_sald dL_law_465 rfl hi
theorem iL_law_466 {x : Nat} {Ls st : List Value} {h : AH} : ev L xs mdL_law 466 (.retAddr x :: Ls) (st) h = ev L xs mdL_law 467 (.retAddr x :: Ls) (.retAddr x :: st) (h) := e_sload_n dL_law_466 rfl
theorem iL_law_467 {v0 : Value} {v1 : Value} {v2 : Value} {v3 : Value} {x : Int32} {Ls st : List Value} {h : AH} : ev L xs mdL_law 467 (v0 :: v1 :: v2 :: v3 :: .int x :: Ls) (st) h = ev L xs mdL_law 469 (v0 :: v1 :: v2 :: v3 :: .int x :: Ls) (.int x :: st) (h) := e_iload dL_law_467 rfl
theorem iL_law_469  {Ls st : List Value} {h : AH} : ev L xs mdL_law 469 (Ls) (st) h = ev L xs mdL_law 470 (Ls) (.int (nI 2) :: st) (h) := e_iconst dL_law_469 (by decide)
theorem iL_law_470 {x z : Int32} {Ls st : List Value} {h : AH} : ev L xs mdL_law 470 (Ls) (.int z :: .int x :: st) h = ev L xs mdL_law 471 (Ls) (.int (x + z) :: st) (h) := e_iadd dL_law_470
theorem iL_law_471 {z : Nat} {j : Int32} {Ls st : List Value} {h : AH} (hi : inA j L = true) : ev L xs mdL_law 471 (Ls) (.int j :: .retAddr z :: st) h = ev L xs mdL_law 472 (Ls) (.int (xs j.toNatClampNeg) :: st) (h) := e_sald dL_law_471 rfl hi
theorem iL_law_472 {a : Nat} {p0 : Int32} {p1 : Int32} {Ls st : List Value} {h : AH} (hk : hK h a = 7) (hw : wds st ≤ 8) : ev L xs mdL_law 472 Ls (.int p1 :: .int p0 :: .ref a :: st) h = kn L xs mdL_law 472 475 Ls st (ev L xs mdX7_setPost 0 [.ref a, .int p0, .int p1, .null, .null, .null] [] h) := e_callV (as := [.int p1, .int p0]) dL_law_472 mr_8_108 (by decide) (by decide) rfl (by simp [wds, Value.category]; decide) rfl (by decide) hk hw
theorem iL_law_475 {v0 : Value} {v1 : Value} {v2 : Value} {v3 : Value} {v4 : Value} {v5 : Value} {v6 : Value} {x : Int32} {Ls st : List Value} {h : AH} (hc9 : v5.category = 1) : ev L xs mdL_law 475 (v0 :: v1 :: v2 :: v3 :: v4 :: v5 :: v6 :: Ls) (.int x :: st) h = ev L xs mdL_law 477 (v0 :: v1 :: v2 :: v3 :: v4 :: v5 :: .int x :: Ls) (st) (h) := e_istore dL_law_475 rfl (by decide) (by unfold catOK; show (_ || (v5.category == 1)) = true; rw [hc9]; rfl)
theorem iL_law_477 {v0 : Value} {v1 : Value} {x : Nat} {Ls st : List Value} {h : AH} : ev L xs mdL_law 477 (v0 :: v1 :: .ref x :: Ls) (st) h = ev L xs mdL_law 478 (v0 :: v1 :: .ref x :: Ls) (.ref x :: st) (h) := e_aload_n dL_law_477 rfl
theorem iL_law_478 {a : Nat} {Ls st : List Value} {h : AH} (hk : hK h a = 7) (hw : wds st ≤ 8) : ev L xs mdL_law 478 Ls (.ref a :: st) h = kn L xs mdL_law 478 481 Ls st (ev L xs mdX7_thrown 0 [.ref a] [] h) := e_callV (as := []) dL_law_478 mr_8_93 (by decide) (by decide) rfl (by simp [wds, Value.category]; decide) rfl (by decide) hk hw
theorem iL_law_481 {v0 : Value} {v1 : Value} {v2 : Value} {v3 : Value} {v4 : Value} {x : Int32} {Ls st : List Value} {h : AH} : ev L xs mdL_law 481 (v0 :: v1 :: v2 :: v3 :: v4 :: .int x :: Ls) (st) h = ev L xs mdL_law 483 (v0 :: v1 :: v2 :: v3 :: v4 :: .int x :: Ls) (.int x :: st) (h) := e_iload dL_law_481 rfl
theorem iL_law_483 {x z : Int32} {Ls st : List Value} {h : AH} : ev L xs mdL_law 483 Ls (.int z :: .int x :: st) h = if x = z then ev L xs mdL_law 488 Ls st h else ev L xs mdL_law 486 Ls st h := e_ic_eq dL_law_483 (by decide)
theorem iL_law_486  {Ls st : List Value} {h : AH} : ev L xs mdL_law 486 (Ls) (st) h = ev L xs mdL_law 487 (Ls) (.int (nI 0) :: st) (h) := e_iconst dL_law_486 (by decide)
theorem iL_law_487 {v : Int32} {Ls : List Value} {h : AH} (hv : v = nI 0 ∨ v = nI 1) : ev L xs mdL_law 487 Ls [.int v] h = some (.inl (some (.int v), h)) := e_zret dL_law_487 rfl hv
theorem iL_law_488 {v0 : Value} {v1 : Value} {v2 : Value} {v3 : Value} {v4 : Value} {x : Int32} {Ls st : List Value} {h : AH} : ev L xs mdL_law 488 (v0 :: v1 :: v2 :: v3 :: v4 :: .int x :: Ls) (st) h = ev L xs mdL_law 490 (v0 :: v1 :: v2 :: v3 :: v4 :: .int x :: Ls) (.int x :: st) (h) := e_iload dL_law_488 rfl
theorem iL_law_490 {x : Int32} {Ls st : List Value} {h : AH} : ev L xs mdL_law 490 Ls (.int x :: st) h = if x = nI 0 then ev L xs mdL_law 493 Ls st h else ev L xs mdL_law 505 Ls st h := e_if_ne dL_law_490 (by decide)
theorem iL_law_493 {v0 : Value} {v1 : Value} {v2 : Value} {x : Nat} {Ls st : List Value} {h : AH} : ev L xs mdL_law 493 (v0 :: v1 :: v2 :: .ref x :: Ls) (st) h = ev L xs mdL_law 494 (v0 :: v1 :: v2 :: .ref x :: Ls) (.ref x :: st) (h) := e_aload_n dL_law_493 rfl
theorem iL_law_494  {Ls st : List Value} {h : AH} : ev L xs mdL_law 494 (Ls) (st) h = ev L xs mdL_law 495 (Ls) (.int (nI 0) :: st) (h) := e_iconst dL_law_494 (by decide)
theorem iL_law_495 {a : Nat} {j : Int32} {Ls st : List Value} {h : AH} (hk : hK h a = 12) (hi : inA j (hN h a) = true) : ev L xs mdL_law 495 (Ls) (.int j :: .ref a :: st) h = ev L xs mdL_law 496 (Ls) (.long (hL h a j.toNatClampNeg) :: st) (h) := e_lald dL_law_495 hk hi
theorem iL_law_496 {v0 : Value} {v1 : Value} {v2 : Value} {v3 : Value} {v4 : Value} {v5 : Value} {x : Int32} {Ls st : List Value} {h : AH} : ev L xs mdL_law 496 (v0 :: v1 :: v2 :: v3 :: v4 :: v5 :: .int x :: Ls) (st) h = ev L xs mdL_law 498 (v0 :: v1 :: v2 :: v3 :: v4 :: v5 :: .int x :: Ls) (.int x :: st) (h) := e_iload dL_law_496 rfl
theorem iL_law_498 {x : Int32} {Ls st : List Value} {h : AH} : ev L xs mdL_law 498 (Ls) (.int x :: st) h = ev L xs mdL_law 499 (Ls) (.long x.toInt64 :: st) (h) := e_i2l dL_law_498
theorem iL_law_499 {x z : Int64} {Ls st : List Value} {h : AH} : ev L xs mdL_law 499 (Ls) (.long z :: .long x :: st) h = ev L xs mdL_law 500 (Ls) (.int (lg_cmp x z) :: st) (h) := e_lcmp dL_law_499
theorem iL_law_500 {x : Int32} {Ls st : List Value} {h : AH} : ev L xs mdL_law 500 Ls (.int x :: st) h = if x = nI 0 then ev L xs mdL_law 505 Ls st h else ev L xs mdL_law 503 Ls st h := e_if_eq dL_law_500 (by decide)
theorem iL_law_503  {Ls st : List Value} {h : AH} : ev L xs mdL_law 503 (Ls) (st) h = ev L xs mdL_law 504 (Ls) (.int (nI 0) :: st) (h) := e_iconst dL_law_503 (by decide)
theorem iL_law_504 {v : Int32} {Ls : List Value} {h : AH} (hv : v = nI 0 ∨ v = nI 1) : ev L xs mdL_law 504 Ls [.int v] h = some (.inl (some (.int v), h)) := e_zret dL_law_504 rfl hv
theorem iL_law_505  {Ls st : List Value} {h : AH} : ev L xs mdL_law 505 (Ls) (st) h = ev L xs mdL_law 1622 (Ls) (st) (h) := e_goto dL_law_505 (by decide)
theorem iL_law_508 {v0 : Value} {x : Nat} {Ls st : List Value} {h : AH} : ev L xs mdL_law 508 (v0 :: .ref x :: Ls) (st) h = ev L xs mdL_law 509 (v0 :: .ref x :: Ls) (.ref x :: st) (h) := e_aload_n dL_law_508 rfl
theorem iL_law_509 {x : Nat} {Ls st : List Value} {h : AH} : ev L xs mdL_law 509 (.retAddr x :: Ls) (st) h = ev L xs mdL_law 510 (.retAddr x :: Ls) (.retAddr x :: st) (h) := e_sload_n dL_law_509 rfl
theorem iL_law_510 {v0 : Value} {v1 : Value} {v2 : Value} {v3 : Value} {x : Int32} {Ls st : List Value} {h : AH} : ev L xs mdL_law 510 (v0 :: v1 :: v2 :: v3 :: .int x :: Ls) (st) h = ev L xs mdL_law 512 (v0 :: v1 :: v2 :: v3 :: .int x :: Ls) (.int x :: st) (h) := e_iload dL_law_510 rfl
theorem iL_law_512  {Ls st : List Value} {h : AH} : ev L xs mdL_law 512 (Ls) (st) h = ev L xs mdL_law 513 (Ls) (.int (nI 1) :: st) (h) := e_iconst dL_law_512 (by decide)
theorem iL_law_513 {x z : Int32} {Ls st : List Value} {h : AH} : ev L xs mdL_law 513 (Ls) (.int z :: .int x :: st) h = ev L xs mdL_law 514 (Ls) (.int (x + z) :: st) (h) := e_iadd dL_law_513
theorem iL_law_514 {z : Nat} {j : Int32} {Ls st : List Value} {h : AH} (hi : inA j L = true) : ev L xs mdL_law 514 (Ls) (.int j :: .retAddr z :: st) h = ev L xs mdL_law 515 (Ls) (.int (xs j.toNatClampNeg) :: st) (h) := e_sald dL_law_514 rfl hi
theorem iL_law_515 {x : Nat} {Ls st : List Value} {h : AH} : ev L xs mdL_law 515 (.retAddr x :: Ls) (st) h = ev L xs mdL_law 516 (.retAddr x :: Ls) (.retAddr x :: st) (h) := e_sload_n dL_law_515 rfl
theorem iL_law_516 {v0 : Value} {v1 : Value} {v2 : Value} {v3 : Value} {x : Int32} {Ls st : List Value} {h : AH} : ev L xs mdL_law 516 (v0 :: v1 :: v2 :: v3 :: .int x :: Ls) (st) h = ev L xs mdL_law 518 (v0 :: v1 :: v2 :: v3 :: .int x :: Ls) (.int x :: st) (h) := e_iload dL_law_516 rfl
theorem iL_law_518  {Ls st : List Value} {h : AH} : ev L xs mdL_law 518 (Ls) (st) h = ev L xs mdL_law 519 (Ls) (.int (nI 2) :: st) (h) := e_iconst dL_law_518 (by decide)
theorem iL_law_519 {x z : Int32} {Ls st : List Value} {h : AH} : ev L xs mdL_law 519 (Ls) (.int z :: .int x :: st) h = ev L xs mdL_law 520 (Ls) (.int (x + z) :: st) (h) := e_iadd dL_law_519
theorem iL_law_520 {z : Nat} {j : Int32} {Ls st : List Value} {h : AH} (hi : inA j L = true) : ev L xs mdL_law 520 (Ls) (.int j :: .retAddr z :: st) h = ev L xs mdL_law 521 (Ls) (.int (xs j.toNatClampNeg) :: st) (h) := e_sald dL_law_520 rfl hi
theorem iL_law_521 {v0 : Value} {v1 : Value} {v2 : Value} {x : Nat} {Ls st : List Value} {h : AH} : ev L xs mdL_law 521 (v0 :: v1 :: v2 :: .ref x :: Ls) (st) h = ev L xs mdL_law 522 (v0 :: v1 :: v2 :: .ref x :: Ls) (.ref x :: st) (h) := e_aload_n dL_law_521 rfl
theorem iL_law_522 {p0 : Nat} {p1 : Int32} {p2 : Int32} {p3 : Nat} {Ls st : List Value} {h : AH} (hw : wds st ≤ 8) : ev L xs mdL_law 522 Ls (.ref p3 :: .int p2 :: .int p1 :: .ref p0 :: st) h = kn L xs mdL_law 522 525 Ls st (ev L xs mdL_sick 0 [.ref p0, .int p1, .int p2, .ref p3, .null] [] h) := e_callS (as := [.ref p3, .int p2, .int p1, .ref p0]) dL_law_522 mr_8_109 (by decide) (by decide) rfl (by simp [wds, Value.category]; decide) rfl hw
theorem iL_law_525 {v0 : Value} {v1 : Value} {v2 : Value} {v3 : Value} {v4 : Value} {v5 : Value} {x : Int32} {Ls st : List Value} {h : AH} (hc9 : v4.category = 1) : ev L xs mdL_law 525 (v0 :: v1 :: v2 :: v3 :: v4 :: v5 :: Ls) (.int x :: st) h = ev L xs mdL_law 527 (v0 :: v1 :: v2 :: v3 :: v4 :: .int x :: Ls) (st) (h) := e_istore dL_law_525 rfl (by decide) (by unfold catOK; show (_ || (v4.category == 1)) = true; rw [hc9]; rfl)
theorem iL_law_527 {v0 : Value} {v1 : Value} {x : Nat} {Ls st : List Value} {h : AH} : ev L xs mdL_law 527 (v0 :: v1 :: .ref x :: Ls) (st) h = ev L xs mdL_law 528 (v0 :: v1 :: .ref x :: Ls) (.ref x :: st) (h) := e_aload_n dL_law_527 rfl
theorem iL_law_528 {x : Nat} {Ls st : List Value} {h : AH} : ev L xs mdL_law 528 (.retAddr x :: Ls) (st) h = ev L xs mdL_law 529 (.retAddr x :: Ls) (.retAddr x :: st) (h) := e_sload_n dL_law_528 rfl
theorem iL_law_529 {v0 : Value} {v1 : Value} {v2 : Value} {v3 : Value} {x : Int32} {Ls st : List Value} {h : AH} : ev L xs mdL_law 529 (v0 :: v1 :: v2 :: v3 :: .int x :: Ls) (st) h = ev L xs mdL_law 531 (v0 :: v1 :: v2 :: v3 :: .int x :: Ls) (.int x :: st) (h) := e_iload dL_law_529 rfl
theorem iL_law_531  {Ls st : List Value} {h : AH} : ev L xs mdL_law 531 (Ls) (st) h = ev L xs mdL_law 532 (Ls) (.int (nI 1) :: st) (h) := e_iconst dL_law_531 (by decide)
theorem iL_law_532 {x z : Int32} {Ls st : List Value} {h : AH} : ev L xs mdL_law 532 (Ls) (.int z :: .int x :: st) h = ev L xs mdL_law 533 (Ls) (.int (x + z) :: st) (h) := e_iadd dL_law_532
theorem iL_law_533 {z : Nat} {j : Int32} {Ls st : List Value} {h : AH} (hi : inA j L = true) : ev L xs mdL_law 533 (Ls) (.int j :: .retAddr z :: st) h = ev L xs mdL_law 534 (Ls) (.int (xs j.toNatClampNeg) :: st) (h) := e_sald dL_law_533 rfl hi
theorem iL_law_534 {x : Nat} {Ls st : List Value} {h : AH} : ev L xs mdL_law 534 (.retAddr x :: Ls) (st) h = ev L xs mdL_law 535 (.retAddr x :: Ls) (.retAddr x :: st) (h) := e_sload_n dL_law_534 rfl
theorem iL_law_535 {v0 : Value} {v1 : Value} {v2 : Value} {v3 : Value} {x : Int32} {Ls st : List Value} {h : AH} : ev L xs mdL_law 535 (v0 :: v1 :: v2 :: v3 :: .int x :: Ls) (st) h = ev L xs mdL_law 537 (v0 :: v1 :: v2 :: v3 :: .int x :: Ls) (.int x :: st) (h) := e_iload dL_law_535 rfl
theorem iL_law_537  {Ls st : List Value} {h : AH} : ev L xs mdL_law 537 (Ls) (st) h = ev L xs mdL_law 538 (Ls) (.int (nI 2) :: st) (h) := e_iconst dL_law_537 (by decide)
theorem iL_law_538 {x z : Int32} {Ls st : List Value} {h : AH} : ev L xs mdL_law 538 (Ls) (.int z :: .int x :: st) h = ev L xs mdL_law 539 (Ls) (.int (x + z) :: st) (h) := e_iadd dL_law_538
theorem iL_law_539 {z : Nat} {j : Int32} {Ls st : List Value} {h : AH} (hi : inA j L = true) : ev L xs mdL_law 539 (Ls) (.int j :: .retAddr z :: st) h = ev L xs mdL_law 540 (Ls) (.int (xs j.toNatClampNeg) :: st) (h) := e_sald dL_law_539 rfl hi
theorem iL_law_540 {a : Nat} {p0 : Int32} {p1 : Int32} {Ls st : List Value} {h : AH} (hk : hK h a = 7) (hw : wds st ≤ 8) : ev L xs mdL_law 540 Ls (.int p1 :: .int p0 :: .ref a :: st) h = kn L xs mdL_law 540 543 Ls st (ev L xs mdX7_sick 0 [.ref a, .int p0, .int p1] [] h) := e_callV (as := [.int p1, .int p0]) dL_law_540 mr_8_111 (by decide) (by decide) rfl (by simp [wds, Value.category]; decide) rfl (by decide) hk hw
theorem iL_law_543 {v0 : Value} {v1 : Value} {v2 : Value} {v3 : Value} {v4 : Value} {v5 : Value} {v6 : Value} {x : Int32} {Ls st : List Value} {h : AH} (hc9 : v5.category = 1) : ev L xs mdL_law 543 (v0 :: v1 :: v2 :: v3 :: v4 :: v5 :: v6 :: Ls) (.int x :: st) h = ev L xs mdL_law 545 (v0 :: v1 :: v2 :: v3 :: v4 :: v5 :: .int x :: Ls) (st) (h) := e_istore dL_law_543 rfl (by decide) (by unfold catOK; show (_ || (v5.category == 1)) = true; rw [hc9]; rfl)
theorem iL_law_545 {v0 : Value} {v1 : Value} {x : Nat} {Ls st : List Value} {h : AH} : ev L xs mdL_law 545 (v0 :: v1 :: .ref x :: Ls) (st) h = ev L xs mdL_law 546 (v0 :: v1 :: .ref x :: Ls) (.ref x :: st) (h) := e_aload_n dL_law_545 rfl
theorem iL_law_546 {a : Nat} {Ls st : List Value} {h : AH} (hk : hK h a = 7) (hw : wds st ≤ 8) : ev L xs mdL_law 546 Ls (.ref a :: st) h = kn L xs mdL_law 546 549 Ls st (ev L xs mdX7_thrown 0 [.ref a] [] h) := e_callV (as := []) dL_law_546 mr_8_93 (by decide) (by decide) rfl (by simp [wds, Value.category]; decide) rfl (by decide) hk hw
theorem iL_law_549 {v0 : Value} {v1 : Value} {v2 : Value} {v3 : Value} {v4 : Value} {x : Int32} {Ls st : List Value} {h : AH} : ev L xs mdL_law 549 (v0 :: v1 :: v2 :: v3 :: v4 :: .int x :: Ls) (st) h = ev L xs mdL_law 551 (v0 :: v1 :: v2 :: v3 :: v4 :: .int x :: Ls) (.int x :: st) (h) := e_iload dL_law_549 rfl
theorem iL_law_551 {x z : Int32} {Ls st : List Value} {h : AH} : ev L xs mdL_law 551 Ls (.int z :: .int x :: st) h = if x = z then ev L xs mdL_law 556 Ls st h else ev L xs mdL_law 554 Ls st h := e_ic_eq dL_law_551 (by decide)
theorem iL_law_554  {Ls st : List Value} {h : AH} : ev L xs mdL_law 554 (Ls) (st) h = ev L xs mdL_law 555 (Ls) (.int (nI 0) :: st) (h) := e_iconst dL_law_554 (by decide)
theorem iL_law_555 {v : Int32} {Ls : List Value} {h : AH} (hv : v = nI 0 ∨ v = nI 1) : ev L xs mdL_law 555 Ls [.int v] h = some (.inl (some (.int v), h)) := e_zret dL_law_555 rfl hv
theorem iL_law_556 {v0 : Value} {v1 : Value} {v2 : Value} {v3 : Value} {v4 : Value} {x : Int32} {Ls st : List Value} {h : AH} : ev L xs mdL_law 556 (v0 :: v1 :: v2 :: v3 :: v4 :: .int x :: Ls) (st) h = ev L xs mdL_law 558 (v0 :: v1 :: v2 :: v3 :: v4 :: .int x :: Ls) (.int x :: st) (h) := e_iload dL_law_556 rfl
theorem iL_law_558 {x : Int32} {Ls st : List Value} {h : AH} : ev L xs mdL_law 558 Ls (.int x :: st) h = if x = nI 0 then ev L xs mdL_law 561 Ls st h else ev L xs mdL_law 573 Ls st h := e_if_ne dL_law_558 (by decide)
theorem iL_law_561 {v0 : Value} {v1 : Value} {v2 : Value} {x : Nat} {Ls st : List Value} {h : AH} : ev L xs mdL_law 561 (v0 :: v1 :: v2 :: .ref x :: Ls) (st) h = ev L xs mdL_law 562 (v0 :: v1 :: v2 :: .ref x :: Ls) (.ref x :: st) (h) := e_aload_n dL_law_561 rfl
theorem iL_law_562  {Ls st : List Value} {h : AH} : ev L xs mdL_law 562 (Ls) (st) h = ev L xs mdL_law 563 (Ls) (.int (nI 0) :: st) (h) := e_iconst dL_law_562 (by decide)
theorem iL_law_563 {a : Nat} {j : Int32} {Ls st : List Value} {h : AH} (hk : hK h a = 12) (hi : inA j (hN h a) = true) : ev L xs mdL_law 563 (Ls) (.int j :: .ref a :: st) h = ev L xs mdL_law 564 (Ls) (.long (hL h a j.toNatClampNeg) :: st) (h) := e_lald dL_law_563 hk hi
theorem iL_law_564 {v0 : Value} {v1 : Value} {v2 : Value} {v3 : Value} {v4 : Value} {v5 : Value} {x : Int32} {Ls st : List Value} {h : AH} : ev L xs mdL_law 564 (v0 :: v1 :: v2 :: v3 :: v4 :: v5 :: .int x :: Ls) (st) h = ev L xs mdL_law 566 (v0 :: v1 :: v2 :: v3 :: v4 :: v5 :: .int x :: Ls) (.int x :: st) (h) := e_iload dL_law_564 rfl
theorem iL_law_566 {x : Int32} {Ls st : List Value} {h : AH} : ev L xs mdL_law 566 (Ls) (.int x :: st) h = ev L xs mdL_law 567 (Ls) (.long x.toInt64 :: st) (h) := e_i2l dL_law_566
theorem iL_law_567 {x z : Int64} {Ls st : List Value} {h : AH} : ev L xs mdL_law 567 (Ls) (.long z :: .long x :: st) h = ev L xs mdL_law 568 (Ls) (.int (lg_cmp x z) :: st) (h) := e_lcmp dL_law_567
theorem iL_law_568 {x : Int32} {Ls st : List Value} {h : AH} : ev L xs mdL_law 568 Ls (.int x :: st) h = if x = nI 0 then ev L xs mdL_law 573 Ls st h else ev L xs mdL_law 571 Ls st h := e_if_eq dL_law_568 (by decide)
theorem iL_law_571  {Ls st : List Value} {h : AH} : ev L xs mdL_law 571 (Ls) (st) h = ev L xs mdL_law 572 (Ls) (.int (nI 0) :: st) (h) := e_iconst dL_law_571 (by decide)
theorem iL_law_572 {v : Int32} {Ls : List Value} {h : AH} (hv : v = nI 0 ∨ v = nI 1) : ev L xs mdL_law 572 Ls [.int v] h = some (.inl (some (.int v), h)) := e_zret dL_law_572 rfl hv
theorem iL_law_573  {Ls st : List Value} {h : AH} : ev L xs mdL_law 573 (Ls) (st) h = ev L xs mdL_law 1622 (Ls) (st) (h) := e_goto dL_law_573 (by decide)
theorem iL_law_576 {v0 : Value} {x : Nat} {Ls st : List Value} {h : AH} : ev L xs mdL_law 576 (v0 :: .ref x :: Ls) (st) h = ev L xs mdL_law 577 (v0 :: .ref x :: Ls) (.ref x :: st) (h) := e_aload_n dL_law_576 rfl
theorem iL_law_577 {x : Nat} {Ls st : List Value} {h : AH} : ev L xs mdL_law 577 (.retAddr x :: Ls) (st) h = ev L xs mdL_law 578 (.retAddr x :: Ls) (.retAddr x :: st) (h) := e_sload_n dL_law_577 rfl
theorem iL_law_578 {v0 : Value} {v1 : Value} {v2 : Value} {v3 : Value} {x : Int32} {Ls st : List Value} {h : AH} : ev L xs mdL_law 578 (v0 :: v1 :: v2 :: v3 :: .int x :: Ls) (st) h = ev L xs mdL_law 580 (v0 :: v1 :: v2 :: v3 :: .int x :: Ls) (.int x :: st) (h) := e_iload dL_law_578 rfl
theorem iL_law_580  {Ls st : List Value} {h : AH} : ev L xs mdL_law 580 (Ls) (st) h = ev L xs mdL_law 581 (Ls) (.int (nI 1) :: st) (h) := e_iconst dL_law_580 (by decide)
theorem iL_law_581 {x z : Int32} {Ls st : List Value} {h : AH} : ev L xs mdL_law 581 (Ls) (.int z :: .int x :: st) h = ev L xs mdL_law 582 (Ls) (.int (x + z) :: st) (h) := e_iadd dL_law_581
theorem iL_law_582 {z : Nat} {j : Int32} {Ls st : List Value} {h : AH} (hi : inA j L = true) : ev L xs mdL_law 582 (Ls) (.int j :: .retAddr z :: st) h = ev L xs mdL_law 583 (Ls) (.int (xs j.toNatClampNeg) :: st) (h) := e_sald dL_law_582 rfl hi
theorem iL_law_583 {v0 : Value} {v1 : Value} {v2 : Value} {x : Nat} {Ls st : List Value} {h : AH} : ev L xs mdL_law 583 (v0 :: v1 :: v2 :: .ref x :: Ls) (st) h = ev L xs mdL_law 584 (v0 :: v1 :: v2 :: .ref x :: Ls) (.ref x :: st) (h) := e_aload_n dL_law_583 rfl
theorem iL_law_584 {p0 : Nat} {p1 : Int32} {p2 : Nat} {Ls st : List Value} {h : AH} (hw : wds st ≤ 8) : ev L xs mdL_law 584 Ls (.ref p2 :: .int p1 :: .ref p0 :: st) h = kn L xs mdL_law 584 587 Ls st (ev L xs mdL_complain 0 [.ref p0, .int p1, .ref p2, .null] [] h) := e_callS (as := [.ref p2, .int p1, .ref p0]) dL_law_584 mr_8_112 (by decide) (by decide) rfl (by simp [wds, Value.category]; decide) rfl hw
theorem iL_law_587 {v0 : Value} {v1 : Value} {v2 : Value} {v3 : Value} {v4 : Value} {v5 : Value} {x : Int32} {Ls st : List Value} {h : AH} (hc9 : v4.category = 1) : ev L xs mdL_law 587 (v0 :: v1 :: v2 :: v3 :: v4 :: v5 :: Ls) (.int x :: st) h = ev L xs mdL_law 589 (v0 :: v1 :: v2 :: v3 :: v4 :: .int x :: Ls) (st) (h) := e_istore dL_law_587 rfl (by decide) (by unfold catOK; show (_ || (v4.category == 1)) = true; rw [hc9]; rfl)
theorem iL_law_589 {v0 : Value} {v1 : Value} {x : Nat} {Ls st : List Value} {h : AH} : ev L xs mdL_law 589 (v0 :: v1 :: .ref x :: Ls) (st) h = ev L xs mdL_law 590 (v0 :: v1 :: .ref x :: Ls) (.ref x :: st) (h) := e_aload_n dL_law_589 rfl
theorem iL_law_590 {x : Nat} {Ls st : List Value} {h : AH} : ev L xs mdL_law 590 (.retAddr x :: Ls) (st) h = ev L xs mdL_law 591 (.retAddr x :: Ls) (.retAddr x :: st) (h) := e_sload_n dL_law_590 rfl
theorem iL_law_591 {v0 : Value} {v1 : Value} {v2 : Value} {v3 : Value} {x : Int32} {Ls st : List Value} {h : AH} : ev L xs mdL_law 591 (v0 :: v1 :: v2 :: v3 :: .int x :: Ls) (st) h = ev L xs mdL_law 593 (v0 :: v1 :: v2 :: v3 :: .int x :: Ls) (.int x :: st) (h) := e_iload dL_law_591 rfl
theorem iL_law_593  {Ls st : List Value} {h : AH} : ev L xs mdL_law 593 (Ls) (st) h = ev L xs mdL_law 594 (Ls) (.int (nI 1) :: st) (h) := e_iconst dL_law_593 (by decide)
theorem iL_law_594 {x z : Int32} {Ls st : List Value} {h : AH} : ev L xs mdL_law 594 (Ls) (.int z :: .int x :: st) h = ev L xs mdL_law 595 (Ls) (.int (x + z) :: st) (h) := e_iadd dL_law_594
theorem iL_law_595 {z : Nat} {j : Int32} {Ls st : List Value} {h : AH} (hi : inA j L = true) : ev L xs mdL_law 595 (Ls) (.int j :: .retAddr z :: st) h = ev L xs mdL_law 596 (Ls) (.int (xs j.toNatClampNeg) :: st) (h) := e_sald dL_law_595 rfl hi
theorem iL_law_596 {a : Nat} {p0 : Int32} {Ls st : List Value} {h : AH} (hk : hK h a = 7) (hw : wds st ≤ 8) : ev L xs mdL_law 596 Ls (.int p0 :: .ref a :: st) h = kn L xs mdL_law 596 599 Ls st (ev L xs mdX7_complain 0 [.ref a, .int p0] [] h) := e_callV (as := [.int p0]) dL_law_596 mr_8_115 (by decide) (by decide) rfl (by simp [wds, Value.category]; decide) rfl (by decide) hk hw
theorem iL_law_599 {v0 : Value} {v1 : Value} {v2 : Value} {v3 : Value} {v4 : Value} {v5 : Value} {v6 : Value} {x : Int32} {Ls st : List Value} {h : AH} (hc9 : v5.category = 1) : ev L xs mdL_law 599 (v0 :: v1 :: v2 :: v3 :: v4 :: v5 :: v6 :: Ls) (.int x :: st) h = ev L xs mdL_law 601 (v0 :: v1 :: v2 :: v3 :: v4 :: v5 :: .int x :: Ls) (st) (h) := e_istore dL_law_599 rfl (by decide) (by unfold catOK; show (_ || (v5.category == 1)) = true; rw [hc9]; rfl)
theorem iL_law_601 {v0 : Value} {v1 : Value} {x : Nat} {Ls st : List Value} {h : AH} : ev L xs mdL_law 601 (v0 :: v1 :: .ref x :: Ls) (st) h = ev L xs mdL_law 602 (v0 :: v1 :: .ref x :: Ls) (.ref x :: st) (h) := e_aload_n dL_law_601 rfl
theorem iL_law_602 {a : Nat} {Ls st : List Value} {h : AH} (hk : hK h a = 7) (hw : wds st ≤ 8) : ev L xs mdL_law 602 Ls (.ref a :: st) h = kn L xs mdL_law 602 605 Ls st (ev L xs mdX7_thrown 0 [.ref a] [] h) := e_callV (as := []) dL_law_602 mr_8_93 (by decide) (by decide) rfl (by simp [wds, Value.category]; decide) rfl (by decide) hk hw
theorem iL_law_605 {v0 : Value} {v1 : Value} {v2 : Value} {v3 : Value} {v4 : Value} {x : Int32} {Ls st : List Value} {h : AH} : ev L xs mdL_law 605 (v0 :: v1 :: v2 :: v3 :: v4 :: .int x :: Ls) (st) h = ev L xs mdL_law 607 (v0 :: v1 :: v2 :: v3 :: v4 :: .int x :: Ls) (.int x :: st) (h) := e_iload dL_law_605 rfl
theorem iL_law_607 {x z : Int32} {Ls st : List Value} {h : AH} : ev L xs mdL_law 607 Ls (.int z :: .int x :: st) h = if x = z then ev L xs mdL_law 612 Ls st h else ev L xs mdL_law 610 Ls st h := e_ic_eq dL_law_607 (by decide)
theorem iL_law_610  {Ls st : List Value} {h : AH} : ev L xs mdL_law 610 (Ls) (st) h = ev L xs mdL_law 611 (Ls) (.int (nI 0) :: st) (h) := e_iconst dL_law_610 (by decide)
theorem iL_law_611 {v : Int32} {Ls : List Value} {h : AH} (hv : v = nI 0 ∨ v = nI 1) : ev L xs mdL_law 611 Ls [.int v] h = some (.inl (some (.int v), h)) := e_zret dL_law_611 rfl hv
theorem iL_law_612 {v0 : Value} {v1 : Value} {v2 : Value} {v3 : Value} {v4 : Value} {x : Int32} {Ls st : List Value} {h : AH} : ev L xs mdL_law 612 (v0 :: v1 :: v2 :: v3 :: v4 :: .int x :: Ls) (st) h = ev L xs mdL_law 614 (v0 :: v1 :: v2 :: v3 :: v4 :: .int x :: Ls) (.int x :: st) (h) := e_iload dL_law_612 rfl
theorem iL_law_614 {x : Int32} {Ls st : List Value} {h : AH} : ev L xs mdL_law 614 Ls (.int x :: st) h = if x = nI 0 then ev L xs mdL_law 617 Ls st h else ev L xs mdL_law 629 Ls st h := e_if_ne dL_law_614 (by decide)
theorem iL_law_617 {v0 : Value} {v1 : Value} {v2 : Value} {x : Nat} {Ls st : List Value} {h : AH} : ev L xs mdL_law 617 (v0 :: v1 :: v2 :: .ref x :: Ls) (st) h = ev L xs mdL_law 618 (v0 :: v1 :: v2 :: .ref x :: Ls) (.ref x :: st) (h) := e_aload_n dL_law_617 rfl
theorem iL_law_618  {Ls st : List Value} {h : AH} : ev L xs mdL_law 618 (Ls) (st) h = ev L xs mdL_law 619 (Ls) (.int (nI 0) :: st) (h) := e_iconst dL_law_618 (by decide)
theorem iL_law_619 {a : Nat} {j : Int32} {Ls st : List Value} {h : AH} (hk : hK h a = 12) (hi : inA j (hN h a) = true) : ev L xs mdL_law 619 (Ls) (.int j :: .ref a :: st) h = ev L xs mdL_law 620 (Ls) (.long (hL h a j.toNatClampNeg) :: st) (h) := e_lald dL_law_619 hk hi
theorem iL_law_620 {v0 : Value} {v1 : Value} {v2 : Value} {v3 : Value} {v4 : Value} {v5 : Value} {x : Int32} {Ls st : List Value} {h : AH} : ev L xs mdL_law 620 (v0 :: v1 :: v2 :: v3 :: v4 :: v5 :: .int x :: Ls) (st) h = ev L xs mdL_law 622 (v0 :: v1 :: v2 :: v3 :: v4 :: v5 :: .int x :: Ls) (.int x :: st) (h) := e_iload dL_law_620 rfl
theorem iL_law_622 {x : Int32} {Ls st : List Value} {h : AH} : ev L xs mdL_law 622 (Ls) (.int x :: st) h = ev L xs mdL_law 623 (Ls) (.long x.toInt64 :: st) (h) := e_i2l dL_law_622
theorem iL_law_623 {x z : Int64} {Ls st : List Value} {h : AH} : ev L xs mdL_law 623 (Ls) (.long z :: .long x :: st) h = ev L xs mdL_law 624 (Ls) (.int (lg_cmp x z) :: st) (h) := e_lcmp dL_law_623
theorem iL_law_624 {x : Int32} {Ls st : List Value} {h : AH} : ev L xs mdL_law 624 Ls (.int x :: st) h = if x = nI 0 then ev L xs mdL_law 629 Ls st h else ev L xs mdL_law 627 Ls st h := e_if_eq dL_law_624 (by decide)
theorem iL_law_627  {Ls st : List Value} {h : AH} : ev L xs mdL_law 627 (Ls) (st) h = ev L xs mdL_law 628 (Ls) (.int (nI 0) :: st) (h) := e_iconst dL_law_627 (by decide)
theorem iL_law_628 {v : Int32} {Ls : List Value} {h : AH} (hv : v = nI 0 ∨ v = nI 1) : ev L xs mdL_law 628 Ls [.int v] h = some (.inl (some (.int v), h)) := e_zret dL_law_628 rfl hv
theorem iL_law_629  {Ls st : List Value} {h : AH} : ev L xs mdL_law 629 (Ls) (st) h = ev L xs mdL_law 1622 (Ls) (st) (h) := e_goto dL_law_629 (by decide)
theorem iL_law_632 {v0 : Value} {x : Nat} {Ls st : List Value} {h : AH} : ev L xs mdL_law 632 (v0 :: .ref x :: Ls) (st) h = ev L xs mdL_law 633 (v0 :: .ref x :: Ls) (.ref x :: st) (h) := e_aload_n dL_law_632 rfl
theorem iL_law_633 {v0 : Value} {v1 : Value} {v2 : Value} {x : Nat} {Ls st : List Value} {h : AH} : ev L xs mdL_law 633 (v0 :: v1 :: v2 :: .ref x :: Ls) (st) h = ev L xs mdL_law 634 (v0 :: v1 :: v2 :: .ref x :: Ls) (.ref x :: st) (h) := e_aload_n dL_law_633 rfl
theorem iL_law_634 {p0 : Nat} {p1 : Nat} {Ls st : List Value} {h : AH} (hw : wds st ≤ 8) : ev L xs mdL_law 634 Ls (.ref p1 :: .ref p0 :: st) h = kn L xs mdL_law 634 637 Ls st (ev L xs mdL_step 0 [.ref p0, .ref p1, .null] [] h) := e_callS (as := [.ref p1, .ref p0]) dL_law_634 mr_8_116 (by decide) (by decide) rfl (by simp [wds, Value.category]; decide) rfl hw
theorem iL_law_637 {v0 : Value} {v1 : Value} {v2 : Value} {v3 : Value} {v4 : Value} {v5 : Value} {x : Int32} {Ls st : List Value} {h : AH} (hc9 : v4.category = 1) : ev L xs mdL_law 637 (v0 :: v1 :: v2 :: v3 :: v4 :: v5 :: Ls) (.int x :: st) h = ev L xs mdL_law 639 (v0 :: v1 :: v2 :: v3 :: v4 :: .int x :: Ls) (st) (h) := e_istore dL_law_637 rfl (by decide) (by unfold catOK; show (_ || (v4.category == 1)) = true; rw [hc9]; rfl)
theorem iL_law_639 {v0 : Value} {v1 : Value} {x : Nat} {Ls st : List Value} {h : AH} : ev L xs mdL_law 639 (v0 :: v1 :: .ref x :: Ls) (st) h = ev L xs mdL_law 640 (v0 :: v1 :: .ref x :: Ls) (.ref x :: st) (h) := e_aload_n dL_law_639 rfl
theorem iL_law_640 {a : Nat} {Ls st : List Value} {h : AH} (hk : hK h a = 7) (hw : wds st ≤ 8) : ev L xs mdL_law 640 Ls (.ref a :: st) h = kn L xs mdL_law 640 643 Ls st (ev L xs mdX7_step 0 [.ref a] [] h) := e_callV (as := []) dL_law_640 mr_8_119 (by decide) (by decide) rfl (by simp [wds, Value.category]; decide) rfl (by decide) hk hw
theorem iL_law_643 {v0 : Value} {v1 : Value} {v2 : Value} {v3 : Value} {v4 : Value} {v5 : Value} {v6 : Value} {x : Int32} {Ls st : List Value} {h : AH} (hc9 : v5.category = 1) : ev L xs mdL_law 643 (v0 :: v1 :: v2 :: v3 :: v4 :: v5 :: v6 :: Ls) (.int x :: st) h = ev L xs mdL_law 645 (v0 :: v1 :: v2 :: v3 :: v4 :: v5 :: .int x :: Ls) (st) (h) := e_istore dL_law_643 rfl (by decide) (by unfold catOK; show (_ || (v5.category == 1)) = true; rw [hc9]; rfl)
theorem iL_law_645 {v0 : Value} {v1 : Value} {x : Nat} {Ls st : List Value} {h : AH} : ev L xs mdL_law 645 (v0 :: v1 :: .ref x :: Ls) (st) h = ev L xs mdL_law 646 (v0 :: v1 :: .ref x :: Ls) (.ref x :: st) (h) := e_aload_n dL_law_645 rfl
theorem iL_law_646 {a : Nat} {Ls st : List Value} {h : AH} (hk : hK h a = 7) (hw : wds st ≤ 8) : ev L xs mdL_law 646 Ls (.ref a :: st) h = kn L xs mdL_law 646 649 Ls st (ev L xs mdX7_thrown 0 [.ref a] [] h) := e_callV (as := []) dL_law_646 mr_8_93 (by decide) (by decide) rfl (by simp [wds, Value.category]; decide) rfl (by decide) hk hw
theorem iL_law_649 {v0 : Value} {v1 : Value} {v2 : Value} {v3 : Value} {v4 : Value} {x : Int32} {Ls st : List Value} {h : AH} : ev L xs mdL_law 649 (v0 :: v1 :: v2 :: v3 :: v4 :: .int x :: Ls) (st) h = ev L xs mdL_law 651 (v0 :: v1 :: v2 :: v3 :: v4 :: .int x :: Ls) (.int x :: st) (h) := e_iload dL_law_649 rfl
theorem iL_law_651 {x z : Int32} {Ls st : List Value} {h : AH} : ev L xs mdL_law 651 Ls (.int z :: .int x :: st) h = if x = z then ev L xs mdL_law 656 Ls st h else ev L xs mdL_law 654 Ls st h := e_ic_eq dL_law_651 (by decide)
theorem iL_law_654  {Ls st : List Value} {h : AH} : ev L xs mdL_law 654 (Ls) (st) h = ev L xs mdL_law 655 (Ls) (.int (nI 0) :: st) (h) := e_iconst dL_law_654 (by decide)
theorem iL_law_655 {v : Int32} {Ls : List Value} {h : AH} (hv : v = nI 0 ∨ v = nI 1) : ev L xs mdL_law 655 Ls [.int v] h = some (.inl (some (.int v), h)) := e_zret dL_law_655 rfl hv
theorem iL_law_656 {v0 : Value} {v1 : Value} {v2 : Value} {v3 : Value} {v4 : Value} {x : Int32} {Ls st : List Value} {h : AH} : ev L xs mdL_law 656 (v0 :: v1 :: v2 :: v3 :: v4 :: .int x :: Ls) (st) h = ev L xs mdL_law 658 (v0 :: v1 :: v2 :: v3 :: v4 :: .int x :: Ls) (.int x :: st) (h) := e_iload dL_law_656 rfl
theorem iL_law_658 {x : Int32} {Ls st : List Value} {h : AH} : ev L xs mdL_law 658 Ls (.int x :: st) h = if x = nI 0 then ev L xs mdL_law 661 Ls st h else ev L xs mdL_law 673 Ls st h := e_if_ne dL_law_658 (by decide)
theorem iL_law_661 {v0 : Value} {v1 : Value} {v2 : Value} {x : Nat} {Ls st : List Value} {h : AH} : ev L xs mdL_law 661 (v0 :: v1 :: v2 :: .ref x :: Ls) (st) h = ev L xs mdL_law 662 (v0 :: v1 :: v2 :: .ref x :: Ls) (.ref x :: st) (h) := e_aload_n dL_law_661 rfl
theorem iL_law_662  {Ls st : List Value} {h : AH} : ev L xs mdL_law 662 (Ls) (st) h = ev L xs mdL_law 663 (Ls) (.int (nI 0) :: st) (h) := e_iconst dL_law_662 (by decide)
theorem iL_law_663 {a : Nat} {j : Int32} {Ls st : List Value} {h : AH} (hk : hK h a = 12) (hi : inA j (hN h a) = true) : ev L xs mdL_law 663 (Ls) (.int j :: .ref a :: st) h = ev L xs mdL_law 664 (Ls) (.long (hL h a j.toNatClampNeg) :: st) (h) := e_lald dL_law_663 hk hi
theorem iL_law_664 {v0 : Value} {v1 : Value} {v2 : Value} {v3 : Value} {v4 : Value} {v5 : Value} {x : Int32} {Ls st : List Value} {h : AH} : ev L xs mdL_law 664 (v0 :: v1 :: v2 :: v3 :: v4 :: v5 :: .int x :: Ls) (st) h = ev L xs mdL_law 666 (v0 :: v1 :: v2 :: v3 :: v4 :: v5 :: .int x :: Ls) (.int x :: st) (h) := e_iload dL_law_664 rfl
theorem iL_law_666 {x : Int32} {Ls st : List Value} {h : AH} : ev L xs mdL_law 666 (Ls) (.int x :: st) h = ev L xs mdL_law 667 (Ls) (.long x.toInt64 :: st) (h) := e_i2l dL_law_666
theorem iL_law_667 {x z : Int64} {Ls st : List Value} {h : AH} : ev L xs mdL_law 667 (Ls) (.long z :: .long x :: st) h = ev L xs mdL_law 668 (Ls) (.int (lg_cmp x z) :: st) (h) := e_lcmp dL_law_667
theorem iL_law_668 {x : Int32} {Ls st : List Value} {h : AH} : ev L xs mdL_law 668 Ls (.int x :: st) h = if x = nI 0 then ev L xs mdL_law 673 Ls st h else ev L xs mdL_law 671 Ls st h := e_if_eq dL_law_668 (by decide)
theorem iL_law_671  {Ls st : List Value} {h : AH} : ev L xs mdL_law 671 (Ls) (st) h = ev L xs mdL_law 672 (Ls) (.int (nI 0) :: st) (h) := e_iconst dL_law_671 (by decide)
theorem iL_law_672 {v : Int32} {Ls : List Value} {h : AH} (hv : v = nI 0 ∨ v = nI 1) : ev L xs mdL_law 672 Ls [.int v] h = some (.inl (some (.int v), h)) := e_zret dL_law_672 rfl hv
theorem iL_law_673  {Ls st : List Value} {h : AH} : ev L xs mdL_law 673 (Ls) (st) h = ev L xs mdL_law 1622 (Ls) (st) (h) := e_goto dL_law_673 (by decide)
theorem iL_law_676 {v0 : Value} {x : Nat} {Ls st : List Value} {h : AH} : ev L xs mdL_law 676 (v0 :: .ref x :: Ls) (st) h = ev L xs mdL_law 677 (v0 :: .ref x :: Ls) (.ref x :: st) (h) := e_aload_n dL_law_676 rfl
theorem iL_law_677 {x : Nat} {Ls st : List Value} {h : AH} : ev L xs mdL_law 677 (.retAddr x :: Ls) (st) h = ev L xs mdL_law 678 (.retAddr x :: Ls) (.retAddr x :: st) (h) := e_sload_n dL_law_677 rfl
theorem iL_law_678 {v0 : Value} {v1 : Value} {v2 : Value} {v3 : Value} {x : Int32} {Ls st : List Value} {h : AH} : ev L xs mdL_law 678 (v0 :: v1 :: v2 :: v3 :: .int x :: Ls) (st) h = ev L xs mdL_law 680 (v0 :: v1 :: v2 :: v3 :: .int x :: Ls) (.int x :: st) (h) := e_iload dL_law_678 rfl
theorem iL_law_680  {Ls st : List Value} {h : AH} : ev L xs mdL_law 680 (Ls) (st) h = ev L xs mdL_law 681 (Ls) (.int (nI 1) :: st) (h) := e_iconst dL_law_680 (by decide)
theorem iL_law_681 {x z : Int32} {Ls st : List Value} {h : AH} : ev L xs mdL_law 681 (Ls) (.int z :: .int x :: st) h = ev L xs mdL_law 682 (Ls) (.int (x + z) :: st) (h) := e_iadd dL_law_681
theorem iL_law_682 {z : Nat} {j : Int32} {Ls st : List Value} {h : AH} (hi : inA j L = true) : ev L xs mdL_law 682 (Ls) (.int j :: .retAddr z :: st) h = ev L xs mdL_law 683 (Ls) (.int (xs j.toNatClampNeg) :: st) (h) := e_sald dL_law_682 rfl hi
theorem iL_law_683 {v0 : Value} {v1 : Value} {v2 : Value} {x : Nat} {Ls st : List Value} {h : AH} : ev L xs mdL_law 683 (v0 :: v1 :: v2 :: .ref x :: Ls) (st) h = ev L xs mdL_law 684 (v0 :: v1 :: v2 :: .ref x :: Ls) (.ref x :: st) (h) := e_aload_n dL_law_683 rfl
theorem iL_law_684 {p0 : Nat} {p1 : Int32} {p2 : Nat} {Ls st : List Value} {h : AH} (hw : wds st ≤ 8) : ev L xs mdL_law 684 Ls (.ref p2 :: .int p1 :: .ref p0 :: st) h = kn L xs mdL_law 684 687 Ls st (ev L xs mdL_pass 0 [.ref p0, .int p1, .ref p2, .null] [] h) := e_callS (as := [.ref p2, .int p1, .ref p0]) dL_law_684 mr_8_120 (by decide) (by decide) rfl (by simp [wds, Value.category]; decide) rfl hw
theorem iL_law_687 {v0 : Value} {v1 : Value} {v2 : Value} {v3 : Value} {v4 : Value} {v5 : Value} {x : Int32} {Ls st : List Value} {h : AH} (hc9 : v4.category = 1) : ev L xs mdL_law 687 (v0 :: v1 :: v2 :: v3 :: v4 :: v5 :: Ls) (.int x :: st) h = ev L xs mdL_law 689 (v0 :: v1 :: v2 :: v3 :: v4 :: .int x :: Ls) (st) (h) := e_istore dL_law_687 rfl (by decide) (by unfold catOK; show (_ || (v4.category == 1)) = true; rw [hc9]; rfl)
theorem iL_law_689 {v0 : Value} {v1 : Value} {x : Nat} {Ls st : List Value} {h : AH} : ev L xs mdL_law 689 (v0 :: v1 :: .ref x :: Ls) (st) h = ev L xs mdL_law 690 (v0 :: v1 :: .ref x :: Ls) (.ref x :: st) (h) := e_aload_n dL_law_689 rfl
theorem iL_law_690 {x : Nat} {Ls st : List Value} {h : AH} : ev L xs mdL_law 690 (.retAddr x :: Ls) (st) h = ev L xs mdL_law 691 (.retAddr x :: Ls) (.retAddr x :: st) (h) := e_sload_n dL_law_690 rfl
theorem iL_law_691 {v0 : Value} {v1 : Value} {v2 : Value} {v3 : Value} {x : Int32} {Ls st : List Value} {h : AH} : ev L xs mdL_law 691 (v0 :: v1 :: v2 :: v3 :: .int x :: Ls) (st) h = ev L xs mdL_law 693 (v0 :: v1 :: v2 :: v3 :: .int x :: Ls) (.int x :: st) (h) := e_iload dL_law_691 rfl
theorem iL_law_693  {Ls st : List Value} {h : AH} : ev L xs mdL_law 693 (Ls) (st) h = ev L xs mdL_law 694 (Ls) (.int (nI 1) :: st) (h) := e_iconst dL_law_693 (by decide)
theorem iL_law_694 {x z : Int32} {Ls st : List Value} {h : AH} : ev L xs mdL_law 694 (Ls) (.int z :: .int x :: st) h = ev L xs mdL_law 695 (Ls) (.int (x + z) :: st) (h) := e_iadd dL_law_694
theorem iL_law_695 {z : Nat} {j : Int32} {Ls st : List Value} {h : AH} (hi : inA j L = true) : ev L xs mdL_law 695 (Ls) (.int j :: .retAddr z :: st) h = ev L xs mdL_law 696 (Ls) (.int (xs j.toNatClampNeg) :: st) (h) := e_sald dL_law_695 rfl hi
theorem iL_law_696 {a : Nat} {p0 : Int32} {Ls st : List Value} {h : AH} (hk : hK h a = 7) (hw : wds st ≤ 8) : ev L xs mdL_law 696 Ls (.int p0 :: .ref a :: st) h = kn L xs mdL_law 696 699 Ls st (ev L xs mdX7_pass 0 [.ref a, .int p0] [] h) := e_callV (as := [.int p0]) dL_law_696 mr_8_122 (by decide) (by decide) rfl (by simp [wds, Value.category]; decide) rfl (by decide) hk hw
theorem iL_law_699 {v0 : Value} {v1 : Value} {v2 : Value} {v3 : Value} {v4 : Value} {v5 : Value} {v6 : Value} {x : Int32} {Ls st : List Value} {h : AH} (hc9 : v5.category = 1) : ev L xs mdL_law 699 (v0 :: v1 :: v2 :: v3 :: v4 :: v5 :: v6 :: Ls) (.int x :: st) h = ev L xs mdL_law 701 (v0 :: v1 :: v2 :: v3 :: v4 :: v5 :: .int x :: Ls) (st) (h) := e_istore dL_law_699 rfl (by decide) (by unfold catOK; show (_ || (v5.category == 1)) = true; rw [hc9]; rfl)
theorem iL_law_701 {v0 : Value} {v1 : Value} {x : Nat} {Ls st : List Value} {h : AH} : ev L xs mdL_law 701 (v0 :: v1 :: .ref x :: Ls) (st) h = ev L xs mdL_law 702 (v0 :: v1 :: .ref x :: Ls) (.ref x :: st) (h) := e_aload_n dL_law_701 rfl
theorem iL_law_702 {a : Nat} {Ls st : List Value} {h : AH} (hk : hK h a = 7) (hw : wds st ≤ 8) : ev L xs mdL_law 702 Ls (.ref a :: st) h = kn L xs mdL_law 702 705 Ls st (ev L xs mdX7_thrown 0 [.ref a] [] h) := e_callV (as := []) dL_law_702 mr_8_93 (by decide) (by decide) rfl (by simp [wds, Value.category]; decide) rfl (by decide) hk hw
theorem iL_law_705 {v0 : Value} {v1 : Value} {v2 : Value} {v3 : Value} {v4 : Value} {x : Int32} {Ls st : List Value} {h : AH} : ev L xs mdL_law 705 (v0 :: v1 :: v2 :: v3 :: v4 :: .int x :: Ls) (st) h = ev L xs mdL_law 707 (v0 :: v1 :: v2 :: v3 :: v4 :: .int x :: Ls) (.int x :: st) (h) := e_iload dL_law_705 rfl
theorem iL_law_707 {x z : Int32} {Ls st : List Value} {h : AH} : ev L xs mdL_law 707 Ls (.int z :: .int x :: st) h = if x = z then ev L xs mdL_law 712 Ls st h else ev L xs mdL_law 710 Ls st h := e_ic_eq dL_law_707 (by decide)
theorem iL_law_710  {Ls st : List Value} {h : AH} : ev L xs mdL_law 710 (Ls) (st) h = ev L xs mdL_law 711 (Ls) (.int (nI 0) :: st) (h) := e_iconst dL_law_710 (by decide)
theorem iL_law_711 {v : Int32} {Ls : List Value} {h : AH} (hv : v = nI 0 ∨ v = nI 1) : ev L xs mdL_law 711 Ls [.int v] h = some (.inl (some (.int v), h)) := e_zret dL_law_711 rfl hv
theorem iL_law_712 {v0 : Value} {v1 : Value} {v2 : Value} {v3 : Value} {v4 : Value} {x : Int32} {Ls st : List Value} {h : AH} : ev L xs mdL_law 712 (v0 :: v1 :: v2 :: v3 :: v4 :: .int x :: Ls) (st) h = ev L xs mdL_law 714 (v0 :: v1 :: v2 :: v3 :: v4 :: .int x :: Ls) (.int x :: st) (h) := e_iload dL_law_712 rfl
theorem iL_law_714 {x : Int32} {Ls st : List Value} {h : AH} : ev L xs mdL_law 714 Ls (.int x :: st) h = if x = nI 0 then ev L xs mdL_law 717 Ls st h else ev L xs mdL_law 729 Ls st h := e_if_ne dL_law_714 (by decide)
theorem iL_law_717 {v0 : Value} {v1 : Value} {v2 : Value} {x : Nat} {Ls st : List Value} {h : AH} : ev L xs mdL_law 717 (v0 :: v1 :: v2 :: .ref x :: Ls) (st) h = ev L xs mdL_law 718 (v0 :: v1 :: v2 :: .ref x :: Ls) (.ref x :: st) (h) := e_aload_n dL_law_717 rfl
theorem iL_law_718  {Ls st : List Value} {h : AH} : ev L xs mdL_law 718 (Ls) (st) h = ev L xs mdL_law 719 (Ls) (.int (nI 0) :: st) (h) := e_iconst dL_law_718 (by decide)
theorem iL_law_719 {a : Nat} {j : Int32} {Ls st : List Value} {h : AH} (hk : hK h a = 12) (hi : inA j (hN h a) = true) : ev L xs mdL_law 719 (Ls) (.int j :: .ref a :: st) h = ev L xs mdL_law 720 (Ls) (.long (hL h a j.toNatClampNeg) :: st) (h) := e_lald dL_law_719 hk hi
theorem iL_law_720 {v0 : Value} {v1 : Value} {v2 : Value} {v3 : Value} {v4 : Value} {v5 : Value} {x : Int32} {Ls st : List Value} {h : AH} : ev L xs mdL_law 720 (v0 :: v1 :: v2 :: v3 :: v4 :: v5 :: .int x :: Ls) (st) h = ev L xs mdL_law 722 (v0 :: v1 :: v2 :: v3 :: v4 :: v5 :: .int x :: Ls) (.int x :: st) (h) := e_iload dL_law_720 rfl
theorem iL_law_722 {x : Int32} {Ls st : List Value} {h : AH} : ev L xs mdL_law 722 (Ls) (.int x :: st) h = ev L xs mdL_law 723 (Ls) (.long x.toInt64 :: st) (h) := e_i2l dL_law_722
theorem iL_law_723 {x z : Int64} {Ls st : List Value} {h : AH} : ev L xs mdL_law 723 (Ls) (.long z :: .long x :: st) h = ev L xs mdL_law 724 (Ls) (.int (lg_cmp x z) :: st) (h) := e_lcmp dL_law_723
theorem iL_law_724 {x : Int32} {Ls st : List Value} {h : AH} : ev L xs mdL_law 724 Ls (.int x :: st) h = if x = nI 0 then ev L xs mdL_law 729 Ls st h else ev L xs mdL_law 727 Ls st h := e_if_eq dL_law_724 (by decide)
theorem iL_law_727  {Ls st : List Value} {h : AH} : ev L xs mdL_law 727 (Ls) (st) h = ev L xs mdL_law 728 (Ls) (.int (nI 0) :: st) (h) := e_iconst dL_law_727 (by decide)
theorem iL_law_728 {v : Int32} {Ls : List Value} {h : AH} (hv : v = nI 0 ∨ v = nI 1) : ev L xs mdL_law 728 Ls [.int v] h = some (.inl (some (.int v), h)) := e_zret dL_law_728 rfl hv
theorem iL_law_729  {Ls st : List Value} {h : AH} : ev L xs mdL_law 729 (Ls) (st) h = ev L xs mdL_law 1622 (Ls) (st) (h) := e_goto dL_law_729 (by decide)
theorem iL_law_732 {v0 : Value} {x : Nat} {Ls st : List Value} {h : AH} : ev L xs mdL_law 732 (v0 :: .ref x :: Ls) (st) h = ev L xs mdL_law 733 (v0 :: .ref x :: Ls) (.ref x :: st) (h) := e_aload_n dL_law_732 rfl
theorem iL_law_733 {x : Nat} {Ls st : List Value} {h : AH} : ev L xs mdL_law 733 (.retAddr x :: Ls) (st) h = ev L xs mdL_law 734 (.retAddr x :: Ls) (.retAddr x :: st) (h) := e_sload_n dL_law_733 rfl
theorem iL_law_734 {v0 : Value} {v1 : Value} {v2 : Value} {v3 : Value} {x : Int32} {Ls st : List Value} {h : AH} : ev L xs mdL_law 734 (v0 :: v1 :: v2 :: v3 :: .int x :: Ls) (st) h = ev L xs mdL_law 736 (v0 :: v1 :: v2 :: v3 :: .int x :: Ls) (.int x :: st) (h) := e_iload dL_law_734 rfl
theorem iL_law_736  {Ls st : List Value} {h : AH} : ev L xs mdL_law 736 (Ls) (st) h = ev L xs mdL_law 737 (Ls) (.int (nI 1) :: st) (h) := e_iconst dL_law_736 (by decide)
theorem iL_law_737 {x z : Int32} {Ls st : List Value} {h : AH} : ev L xs mdL_law 737 (Ls) (.int z :: .int x :: st) h = ev L xs mdL_law 738 (Ls) (.int (x + z) :: st) (h) := e_iadd dL_law_737
theorem iL_law_738 {z : Nat} {j : Int32} {Ls st : List Value} {h : AH} (hi : inA j L = true) : ev L xs mdL_law 738 (Ls) (.int j :: .retAddr z :: st) h = ev L xs mdL_law 739 (Ls) (.int (xs j.toNatClampNeg) :: st) (h) := e_sald dL_law_738 rfl hi
theorem iL_law_739 {x : Nat} {Ls st : List Value} {h : AH} : ev L xs mdL_law 739 (.retAddr x :: Ls) (st) h = ev L xs mdL_law 740 (.retAddr x :: Ls) (.retAddr x :: st) (h) := e_sload_n dL_law_739 rfl
theorem iL_law_740 {v0 : Value} {v1 : Value} {v2 : Value} {v3 : Value} {x : Int32} {Ls st : List Value} {h : AH} : ev L xs mdL_law 740 (v0 :: v1 :: v2 :: v3 :: .int x :: Ls) (st) h = ev L xs mdL_law 742 (v0 :: v1 :: v2 :: v3 :: .int x :: Ls) (.int x :: st) (h) := e_iload dL_law_740 rfl
theorem iL_law_742  {Ls st : List Value} {h : AH} : ev L xs mdL_law 742 (Ls) (st) h = ev L xs mdL_law 743 (Ls) (.int (nI 2) :: st) (h) := e_iconst dL_law_742 (by decide)
theorem iL_law_743 {x z : Int32} {Ls st : List Value} {h : AH} : ev L xs mdL_law 743 (Ls) (.int z :: .int x :: st) h = ev L xs mdL_law 744 (Ls) (.int (x + z) :: st) (h) := e_iadd dL_law_743
theorem iL_law_744 {z : Nat} {j : Int32} {Ls st : List Value} {h : AH} (hi : inA j L = true) : ev L xs mdL_law 744 (Ls) (.int j :: .retAddr z :: st) h = ev L xs mdL_law 745 (Ls) (.int (xs j.toNatClampNeg) :: st) (h) := e_sald dL_law_744 rfl hi
theorem iL_law_745 {v0 : Value} {v1 : Value} {v2 : Value} {x : Nat} {Ls st : List Value} {h : AH} : ev L xs mdL_law 745 (v0 :: v1 :: v2 :: .ref x :: Ls) (st) h = ev L xs mdL_law 746 (v0 :: v1 :: v2 :: .ref x :: Ls) (.ref x :: st) (h) := e_aload_n dL_law_745 rfl
theorem iL_law_746 {p0 : Nat} {p1 : Int32} {p2 : Int32} {p3 : Nat} {Ls st : List Value} {h : AH} (hw : wds st ≤ 8) : ev L xs mdL_law 746 Ls (.ref p3 :: .int p2 :: .int p1 :: .ref p0 :: st) h = kn L xs mdL_law 746 749 Ls st (ev L xs mdL_post 0 [.ref p0, .int p1, .int p2, .ref p3, .null] [] h) := e_callS (as := [.ref p3, .int p2, .int p1, .ref p0]) dL_law_746 mr_8_123 (by decide) (by decide) rfl (by simp [wds, Value.category]; decide) rfl hw
theorem iL_law_749 {v0 : Value} {v1 : Value} {v2 : Value} {v3 : Value} {v4 : Value} {v5 : Value} {x : Int32} {Ls st : List Value} {h : AH} (hc9 : v4.category = 1) : ev L xs mdL_law 749 (v0 :: v1 :: v2 :: v3 :: v4 :: v5 :: Ls) (.int x :: st) h = ev L xs mdL_law 751 (v0 :: v1 :: v2 :: v3 :: v4 :: .int x :: Ls) (st) (h) := e_istore dL_law_749 rfl (by decide) (by unfold catOK; show (_ || (v4.category == 1)) = true; rw [hc9]; rfl)
theorem iL_law_751 {v0 : Value} {v1 : Value} {x : Nat} {Ls st : List Value} {h : AH} : ev L xs mdL_law 751 (v0 :: v1 :: .ref x :: Ls) (st) h = ev L xs mdL_law 752 (v0 :: v1 :: .ref x :: Ls) (.ref x :: st) (h) := e_aload_n dL_law_751 rfl
theorem iL_law_752 {x : Nat} {Ls st : List Value} {h : AH} : ev L xs mdL_law 752 (.retAddr x :: Ls) (st) h = ev L xs mdL_law 753 (.retAddr x :: Ls) (.retAddr x :: st) (h) := e_sload_n dL_law_752 rfl
theorem iL_law_753 {v0 : Value} {v1 : Value} {v2 : Value} {v3 : Value} {x : Int32} {Ls st : List Value} {h : AH} : ev L xs mdL_law 753 (v0 :: v1 :: v2 :: v3 :: .int x :: Ls) (st) h = ev L xs mdL_law 755 (v0 :: v1 :: v2 :: v3 :: .int x :: Ls) (.int x :: st) (h) := e_iload dL_law_753 rfl
theorem iL_law_755  {Ls st : List Value} {h : AH} : ev L xs mdL_law 755 (Ls) (st) h = ev L xs mdL_law 756 (Ls) (.int (nI 1) :: st) (h) := e_iconst dL_law_755 (by decide)
theorem iL_law_756 {x z : Int32} {Ls st : List Value} {h : AH} : ev L xs mdL_law 756 (Ls) (.int z :: .int x :: st) h = ev L xs mdL_law 757 (Ls) (.int (x + z) :: st) (h) := e_iadd dL_law_756
theorem iL_law_757 {z : Nat} {j : Int32} {Ls st : List Value} {h : AH} (hi : inA j L = true) : ev L xs mdL_law 757 (Ls) (.int j :: .retAddr z :: st) h = ev L xs mdL_law 758 (Ls) (.int (xs j.toNatClampNeg) :: st) (h) := e_sald dL_law_757 rfl hi
theorem iL_law_758 {x : Nat} {Ls st : List Value} {h : AH} : ev L xs mdL_law 758 (.retAddr x :: Ls) (st) h = ev L xs mdL_law 759 (.retAddr x :: Ls) (.retAddr x :: st) (h) := e_sload_n dL_law_758 rfl
theorem iL_law_759 {v0 : Value} {v1 : Value} {v2 : Value} {v3 : Value} {x : Int32} {Ls st : List Value} {h : AH} : ev L xs mdL_law 759 (v0 :: v1 :: v2 :: v3 :: .int x :: Ls) (st) h = ev L xs mdL_law 761 (v0 :: v1 :: v2 :: v3 :: .int x :: Ls) (.int x :: st) (h) := e_iload dL_law_759 rfl
theorem iL_law_761  {Ls st : List Value} {h : AH} : ev L xs mdL_law 761 (Ls) (st) h = ev L xs mdL_law 762 (Ls) (.int (nI 2) :: st) (h) := e_iconst dL_law_761 (by decide)
theorem iL_law_762 {x z : Int32} {Ls st : List Value} {h : AH} : ev L xs mdL_law 762 (Ls) (.int z :: .int x :: st) h = ev L xs mdL_law 763 (Ls) (.int (x + z) :: st) (h) := e_iadd dL_law_762
theorem iL_law_763 {z : Nat} {j : Int32} {Ls st : List Value} {h : AH} (hi : inA j L = true) : ev L xs mdL_law 763 (Ls) (.int j :: .retAddr z :: st) h = ev L xs mdL_law 764 (Ls) (.int (xs j.toNatClampNeg) :: st) (h) := e_sald dL_law_763 rfl hi
theorem iL_law_764 {a : Nat} {p0 : Int32} {p1 : Int32} {Ls st : List Value} {h : AH} (hk : hK h a = 7) (hw : wds st ≤ 8) : ev L xs mdL_law 764 Ls (.int p1 :: .int p0 :: .ref a :: st) h = kn L xs mdL_law 764 767 Ls st (ev L xs mdX7_post 0 [.ref a, .int p0, .int p1] [] h) := e_callV (as := [.int p1, .int p0]) dL_law_764 mr_8_125 (by decide) (by decide) rfl (by simp [wds, Value.category]; decide) rfl (by decide) hk hw
theorem iL_law_767 {v0 : Value} {v1 : Value} {v2 : Value} {v3 : Value} {v4 : Value} {v5 : Value} {v6 : Value} {x : Int32} {Ls st : List Value} {h : AH} (hc9 : v5.category = 1) : ev L xs mdL_law 767 (v0 :: v1 :: v2 :: v3 :: v4 :: v5 :: v6 :: Ls) (.int x :: st) h = ev L xs mdL_law 769 (v0 :: v1 :: v2 :: v3 :: v4 :: v5 :: .int x :: Ls) (st) (h) := e_istore dL_law_767 rfl (by decide) (by unfold catOK; show (_ || (v5.category == 1)) = true; rw [hc9]; rfl)
theorem iL_law_769 {v0 : Value} {v1 : Value} {x : Nat} {Ls st : List Value} {h : AH} : ev L xs mdL_law 769 (v0 :: v1 :: .ref x :: Ls) (st) h = ev L xs mdL_law 770 (v0 :: v1 :: .ref x :: Ls) (.ref x :: st) (h) := e_aload_n dL_law_769 rfl
theorem iL_law_770 {a : Nat} {Ls st : List Value} {h : AH} (hk : hK h a = 7) (hw : wds st ≤ 8) : ev L xs mdL_law 770 Ls (.ref a :: st) h = kn L xs mdL_law 770 773 Ls st (ev L xs mdX7_thrown 0 [.ref a] [] h) := e_callV (as := []) dL_law_770 mr_8_93 (by decide) (by decide) rfl (by simp [wds, Value.category]; decide) rfl (by decide) hk hw
theorem iL_law_773 {v0 : Value} {v1 : Value} {v2 : Value} {v3 : Value} {v4 : Value} {x : Int32} {Ls st : List Value} {h : AH} : ev L xs mdL_law 773 (v0 :: v1 :: v2 :: v3 :: v4 :: .int x :: Ls) (st) h = ev L xs mdL_law 775 (v0 :: v1 :: v2 :: v3 :: v4 :: .int x :: Ls) (.int x :: st) (h) := e_iload dL_law_773 rfl
theorem iL_law_775 {x z : Int32} {Ls st : List Value} {h : AH} : ev L xs mdL_law 775 Ls (.int z :: .int x :: st) h = if x = z then ev L xs mdL_law 780 Ls st h else ev L xs mdL_law 778 Ls st h := e_ic_eq dL_law_775 (by decide)
theorem iL_law_778  {Ls st : List Value} {h : AH} : ev L xs mdL_law 778 (Ls) (st) h = ev L xs mdL_law 779 (Ls) (.int (nI 0) :: st) (h) := e_iconst dL_law_778 (by decide)
theorem iL_law_779 {v : Int32} {Ls : List Value} {h : AH} (hv : v = nI 0 ∨ v = nI 1) : ev L xs mdL_law 779 Ls [.int v] h = some (.inl (some (.int v), h)) := e_zret dL_law_779 rfl hv
theorem iL_law_780 {v0 : Value} {v1 : Value} {v2 : Value} {v3 : Value} {v4 : Value} {x : Int32} {Ls st : List Value} {h : AH} : ev L xs mdL_law 780 (v0 :: v1 :: v2 :: v3 :: v4 :: .int x :: Ls) (st) h = ev L xs mdL_law 782 (v0 :: v1 :: v2 :: v3 :: v4 :: .int x :: Ls) (.int x :: st) (h) := e_iload dL_law_780 rfl
theorem iL_law_782 {x : Int32} {Ls st : List Value} {h : AH} : ev L xs mdL_law 782 Ls (.int x :: st) h = if x = nI 0 then ev L xs mdL_law 785 Ls st h else ev L xs mdL_law 797 Ls st h := e_if_ne dL_law_782 (by decide)
theorem iL_law_785 {v0 : Value} {v1 : Value} {v2 : Value} {x : Nat} {Ls st : List Value} {h : AH} : ev L xs mdL_law 785 (v0 :: v1 :: v2 :: .ref x :: Ls) (st) h = ev L xs mdL_law 786 (v0 :: v1 :: v2 :: .ref x :: Ls) (.ref x :: st) (h) := e_aload_n dL_law_785 rfl
theorem iL_law_786  {Ls st : List Value} {h : AH} : ev L xs mdL_law 786 (Ls) (st) h = ev L xs mdL_law 787 (Ls) (.int (nI 0) :: st) (h) := e_iconst dL_law_786 (by decide)
theorem iL_law_787 {a : Nat} {j : Int32} {Ls st : List Value} {h : AH} (hk : hK h a = 12) (hi : inA j (hN h a) = true) : ev L xs mdL_law 787 (Ls) (.int j :: .ref a :: st) h = ev L xs mdL_law 788 (Ls) (.long (hL h a j.toNatClampNeg) :: st) (h) := e_lald dL_law_787 hk hi
theorem iL_law_788 {v0 : Value} {v1 : Value} {v2 : Value} {v3 : Value} {v4 : Value} {v5 : Value} {x : Int32} {Ls st : List Value} {h : AH} : ev L xs mdL_law 788 (v0 :: v1 :: v2 :: v3 :: v4 :: v5 :: .int x :: Ls) (st) h = ev L xs mdL_law 790 (v0 :: v1 :: v2 :: v3 :: v4 :: v5 :: .int x :: Ls) (.int x :: st) (h) := e_iload dL_law_788 rfl
theorem iL_law_790 {x : Int32} {Ls st : List Value} {h : AH} : ev L xs mdL_law 790 (Ls) (.int x :: st) h = ev L xs mdL_law 791 (Ls) (.long x.toInt64 :: st) (h) := e_i2l dL_law_790
theorem iL_law_791 {x z : Int64} {Ls st : List Value} {h : AH} : ev L xs mdL_law 791 (Ls) (.long z :: .long x :: st) h = ev L xs mdL_law 792 (Ls) (.int (lg_cmp x z) :: st) (h) := e_lcmp dL_law_791
theorem iL_law_792 {x : Int32} {Ls st : List Value} {h : AH} : ev L xs mdL_law 792 Ls (.int x :: st) h = if x = nI 0 then ev L xs mdL_law 797 Ls st h else ev L xs mdL_law 795 Ls st h := e_if_eq dL_law_792 (by decide)
theorem iL_law_795  {Ls st : List Value} {h : AH} : ev L xs mdL_law 795 (Ls) (st) h = ev L xs mdL_law 796 (Ls) (.int (nI 0) :: st) (h) := e_iconst dL_law_795 (by decide)
theorem iL_law_796 {v : Int32} {Ls : List Value} {h : AH} (hv : v = nI 0 ∨ v = nI 1) : ev L xs mdL_law 796 Ls [.int v] h = some (.inl (some (.int v), h)) := e_zret dL_law_796 rfl hv
theorem iL_law_797  {Ls st : List Value} {h : AH} : ev L xs mdL_law 797 (Ls) (st) h = ev L xs mdL_law 1622 (Ls) (st) (h) := e_goto dL_law_797 (by decide)
theorem iL_law_800 {v0 : Value} {x : Nat} {Ls st : List Value} {h : AH} : ev L xs mdL_law 800 (v0 :: .ref x :: Ls) (st) h = ev L xs mdL_law 801 (v0 :: .ref x :: Ls) (.ref x :: st) (h) := e_aload_n dL_law_800 rfl
theorem iL_law_801 {x : Nat} {Ls st : List Value} {h : AH} : ev L xs mdL_law 801 (.retAddr x :: Ls) (st) h = ev L xs mdL_law 802 (.retAddr x :: Ls) (.retAddr x :: st) (h) := e_sload_n dL_law_801 rfl
theorem iL_law_802 {v0 : Value} {v1 : Value} {v2 : Value} {v3 : Value} {x : Int32} {Ls st : List Value} {h : AH} : ev L xs mdL_law 802 (v0 :: v1 :: v2 :: v3 :: .int x :: Ls) (st) h = ev L xs mdL_law 804 (v0 :: v1 :: v2 :: v3 :: .int x :: Ls) (.int x :: st) (h) := e_iload dL_law_802 rfl
theorem iL_law_804  {Ls st : List Value} {h : AH} : ev L xs mdL_law 804 (Ls) (st) h = ev L xs mdL_law 805 (Ls) (.int (nI 1) :: st) (h) := e_iconst dL_law_804 (by decide)
theorem iL_law_805 {x z : Int32} {Ls st : List Value} {h : AH} : ev L xs mdL_law 805 (Ls) (.int z :: .int x :: st) h = ev L xs mdL_law 806 (Ls) (.int (x + z) :: st) (h) := e_iadd dL_law_805
theorem iL_law_806 {z : Nat} {j : Int32} {Ls st : List Value} {h : AH} (hi : inA j L = true) : ev L xs mdL_law 806 (Ls) (.int j :: .retAddr z :: st) h = ev L xs mdL_law 807 (Ls) (.int (xs j.toNatClampNeg) :: st) (h) := e_sald dL_law_806 rfl hi
theorem iL_law_807 {x : Nat} {Ls st : List Value} {h : AH} : ev L xs mdL_law 807 (.retAddr x :: Ls) (st) h = ev L xs mdL_law 808 (.retAddr x :: Ls) (.retAddr x :: st) (h) := e_sload_n dL_law_807 rfl
theorem iL_law_808 {v0 : Value} {v1 : Value} {v2 : Value} {v3 : Value} {x : Int32} {Ls st : List Value} {h : AH} : ev L xs mdL_law 808 (v0 :: v1 :: v2 :: v3 :: .int x :: Ls) (st) h = ev L xs mdL_law 810 (v0 :: v1 :: v2 :: v3 :: .int x :: Ls) (.int x :: st) (h) := e_iload dL_law_808 rfl
theorem iL_law_810  {Ls st : List Value} {h : AH} : ev L xs mdL_law 810 (Ls) (st) h = ev L xs mdL_law 811 (Ls) (.int (nI 2) :: st) (h) := e_iconst dL_law_810 (by decide)
theorem iL_law_811 {x z : Int32} {Ls st : List Value} {h : AH} : ev L xs mdL_law 811 (Ls) (.int z :: .int x :: st) h = ev L xs mdL_law 812 (Ls) (.int (x + z) :: st) (h) := e_iadd dL_law_811
theorem iL_law_812 {z : Nat} {j : Int32} {Ls st : List Value} {h : AH} (hi : inA j L = true) : ev L xs mdL_law 812 (Ls) (.int j :: .retAddr z :: st) h = ev L xs mdL_law 813 (Ls) (.int (xs j.toNatClampNeg) :: st) (h) := e_sald dL_law_812 rfl hi
theorem iL_law_813 {v0 : Value} {v1 : Value} {v2 : Value} {x : Nat} {Ls st : List Value} {h : AH} : ev L xs mdL_law 813 (v0 :: v1 :: v2 :: .ref x :: Ls) (st) h = ev L xs mdL_law 814 (v0 :: v1 :: v2 :: .ref x :: Ls) (.ref x :: st) (h) := e_aload_n dL_law_813 rfl
theorem iL_law_814 {p0 : Nat} {p1 : Int32} {p2 : Int32} {p3 : Nat} {Ls st : List Value} {h : AH} (hw : wds st ≤ 8) : ev L xs mdL_law 814 Ls (.ref p3 :: .int p2 :: .int p1 :: .ref p0 :: st) h = kn L xs mdL_law 814 817 Ls st (ev L xs mdL_guard 0 [.ref p0, .int p1, .int p2, .ref p3, .null] [] h) := e_callS (as := [.ref p3, .int p2, .int p1, .ref p0]) dL_law_814 mr_8_126 (by decide) (by decide) rfl (by simp [wds, Value.category]; decide) rfl hw
theorem iL_law_817 {v0 : Value} {v1 : Value} {v2 : Value} {v3 : Value} {v4 : Value} {v5 : Value} {x : Int32} {Ls st : List Value} {h : AH} (hc9 : v4.category = 1) : ev L xs mdL_law 817 (v0 :: v1 :: v2 :: v3 :: v4 :: v5 :: Ls) (.int x :: st) h = ev L xs mdL_law 819 (v0 :: v1 :: v2 :: v3 :: v4 :: .int x :: Ls) (st) (h) := e_istore dL_law_817 rfl (by decide) (by unfold catOK; show (_ || (v4.category == 1)) = true; rw [hc9]; rfl)
theorem iL_law_819 {v0 : Value} {v1 : Value} {x : Nat} {Ls st : List Value} {h : AH} : ev L xs mdL_law 819 (v0 :: v1 :: .ref x :: Ls) (st) h = ev L xs mdL_law 820 (v0 :: v1 :: .ref x :: Ls) (.ref x :: st) (h) := e_aload_n dL_law_819 rfl
theorem iL_law_820 {x : Nat} {Ls st : List Value} {h : AH} : ev L xs mdL_law 820 (.retAddr x :: Ls) (st) h = ev L xs mdL_law 821 (.retAddr x :: Ls) (.retAddr x :: st) (h) := e_sload_n dL_law_820 rfl
theorem iL_law_821 {v0 : Value} {v1 : Value} {v2 : Value} {v3 : Value} {x : Int32} {Ls st : List Value} {h : AH} : ev L xs mdL_law 821 (v0 :: v1 :: v2 :: v3 :: .int x :: Ls) (st) h = ev L xs mdL_law 823 (v0 :: v1 :: v2 :: v3 :: .int x :: Ls) (.int x :: st) (h) := e_iload dL_law_821 rfl
theorem iL_law_823  {Ls st : List Value} {h : AH} : ev L xs mdL_law 823 (Ls) (st) h = ev L xs mdL_law 824 (Ls) (.int (nI 1) :: st) (h) := e_iconst dL_law_823 (by decide)
theorem iL_law_824 {x z : Int32} {Ls st : List Value} {h : AH} : ev L xs mdL_law 824 (Ls) (.int z :: .int x :: st) h = ev L xs mdL_law 825 (Ls) (.int (x + z) :: st) (h) := e_iadd dL_law_824
theorem iL_law_825 {z : Nat} {j : Int32} {Ls st : List Value} {h : AH} (hi : inA j L = true) : ev L xs mdL_law 825 (Ls) (.int j :: .retAddr z :: st) h = ev L xs mdL_law 826 (Ls) (.int (xs j.toNatClampNeg) :: st) (h) := e_sald dL_law_825 rfl hi
theorem iL_law_826 {x : Nat} {Ls st : List Value} {h : AH} : ev L xs mdL_law 826 (.retAddr x :: Ls) (st) h = ev L xs mdL_law 827 (.retAddr x :: Ls) (.retAddr x :: st) (h) := e_sload_n dL_law_826 rfl
theorem iL_law_827 {v0 : Value} {v1 : Value} {v2 : Value} {v3 : Value} {x : Int32} {Ls st : List Value} {h : AH} : ev L xs mdL_law 827 (v0 :: v1 :: v2 :: v3 :: .int x :: Ls) (st) h = ev L xs mdL_law 829 (v0 :: v1 :: v2 :: v3 :: .int x :: Ls) (.int x :: st) (h) := e_iload dL_law_827 rfl
theorem iL_law_829  {Ls st : List Value} {h : AH} : ev L xs mdL_law 829 (Ls) (st) h = ev L xs mdL_law 830 (Ls) (.int (nI 2) :: st) (h) := e_iconst dL_law_829 (by decide)
theorem iL_law_830 {x z : Int32} {Ls st : List Value} {h : AH} : ev L xs mdL_law 830 (Ls) (.int z :: .int x :: st) h = ev L xs mdL_law 831 (Ls) (.int (x + z) :: st) (h) := e_iadd dL_law_830
theorem iL_law_831 {z : Nat} {j : Int32} {Ls st : List Value} {h : AH} (hi : inA j L = true) : ev L xs mdL_law 831 (Ls) (.int j :: .retAddr z :: st) h = ev L xs mdL_law 832 (Ls) (.int (xs j.toNatClampNeg) :: st) (h) := e_sald dL_law_831 rfl hi
theorem iL_law_832 {a : Nat} {p0 : Int32} {p1 : Int32} {Ls st : List Value} {h : AH} (hk : hK h a = 7) (hw : wds st ≤ 8) : ev L xs mdL_law 832 Ls (.int p1 :: .int p0 :: .ref a :: st) h = kn L xs mdL_law 832 835 Ls st (ev L xs mdX7_guard 0 [.ref a, .int p0, .int p1] [] h) := e_callV (as := [.int p1, .int p0]) dL_law_832 mr_8_128 (by decide) (by decide) rfl (by simp [wds, Value.category]; decide) rfl (by decide) hk hw
theorem iL_law_835 {v0 : Value} {v1 : Value} {v2 : Value} {v3 : Value} {v4 : Value} {v5 : Value} {v6 : Value} {x : Int32} {Ls st : List Value} {h : AH} (hc9 : v5.category = 1) : ev L xs mdL_law 835 (v0 :: v1 :: v2 :: v3 :: v4 :: v5 :: v6 :: Ls) (.int x :: st) h = ev L xs mdL_law 837 (v0 :: v1 :: v2 :: v3 :: v4 :: v5 :: .int x :: Ls) (st) (h) := e_istore dL_law_835 rfl (by decide) (by unfold catOK; show (_ || (v5.category == 1)) = true; rw [hc9]; rfl)
theorem iL_law_837 {v0 : Value} {v1 : Value} {x : Nat} {Ls st : List Value} {h : AH} : ev L xs mdL_law 837 (v0 :: v1 :: .ref x :: Ls) (st) h = ev L xs mdL_law 838 (v0 :: v1 :: .ref x :: Ls) (.ref x :: st) (h) := e_aload_n dL_law_837 rfl
theorem iL_law_838 {a : Nat} {Ls st : List Value} {h : AH} (hk : hK h a = 7) (hw : wds st ≤ 8) : ev L xs mdL_law 838 Ls (.ref a :: st) h = kn L xs mdL_law 838 841 Ls st (ev L xs mdX7_thrown 0 [.ref a] [] h) := e_callV (as := []) dL_law_838 mr_8_93 (by decide) (by decide) rfl (by simp [wds, Value.category]; decide) rfl (by decide) hk hw
theorem iL_law_841 {v0 : Value} {v1 : Value} {v2 : Value} {v3 : Value} {v4 : Value} {x : Int32} {Ls st : List Value} {h : AH} : ev L xs mdL_law 841 (v0 :: v1 :: v2 :: v3 :: v4 :: .int x :: Ls) (st) h = ev L xs mdL_law 843 (v0 :: v1 :: v2 :: v3 :: v4 :: .int x :: Ls) (.int x :: st) (h) := e_iload dL_law_841 rfl
theorem iL_law_843 {x z : Int32} {Ls st : List Value} {h : AH} : ev L xs mdL_law 843 Ls (.int z :: .int x :: st) h = if x = z then ev L xs mdL_law 848 Ls st h else ev L xs mdL_law 846 Ls st h := e_ic_eq dL_law_843 (by decide)
theorem iL_law_846  {Ls st : List Value} {h : AH} : ev L xs mdL_law 846 (Ls) (st) h = ev L xs mdL_law 847 (Ls) (.int (nI 0) :: st) (h) := e_iconst dL_law_846 (by decide)
theorem iL_law_847 {v : Int32} {Ls : List Value} {h : AH} (hv : v = nI 0 ∨ v = nI 1) : ev L xs mdL_law 847 Ls [.int v] h = some (.inl (some (.int v), h)) := e_zret dL_law_847 rfl hv
theorem iL_law_848 {v0 : Value} {v1 : Value} {v2 : Value} {v3 : Value} {v4 : Value} {x : Int32} {Ls st : List Value} {h : AH} : ev L xs mdL_law 848 (v0 :: v1 :: v2 :: v3 :: v4 :: .int x :: Ls) (st) h = ev L xs mdL_law 850 (v0 :: v1 :: v2 :: v3 :: v4 :: .int x :: Ls) (.int x :: st) (h) := e_iload dL_law_848 rfl
theorem iL_law_850 {x : Int32} {Ls st : List Value} {h : AH} : ev L xs mdL_law 850 Ls (.int x :: st) h = if x = nI 0 then ev L xs mdL_law 853 Ls st h else ev L xs mdL_law 865 Ls st h := e_if_ne dL_law_850 (by decide)
theorem iL_law_853 {v0 : Value} {v1 : Value} {v2 : Value} {x : Nat} {Ls st : List Value} {h : AH} : ev L xs mdL_law 853 (v0 :: v1 :: v2 :: .ref x :: Ls) (st) h = ev L xs mdL_law 854 (v0 :: v1 :: v2 :: .ref x :: Ls) (.ref x :: st) (h) := e_aload_n dL_law_853 rfl
theorem iL_law_854  {Ls st : List Value} {h : AH} : ev L xs mdL_law 854 (Ls) (st) h = ev L xs mdL_law 855 (Ls) (.int (nI 0) :: st) (h) := e_iconst dL_law_854 (by decide)
theorem iL_law_855 {a : Nat} {j : Int32} {Ls st : List Value} {h : AH} (hk : hK h a = 12) (hi : inA j (hN h a) = true) : ev L xs mdL_law 855 (Ls) (.int j :: .ref a :: st) h = ev L xs mdL_law 856 (Ls) (.long (hL h a j.toNatClampNeg) :: st) (h) := e_lald dL_law_855 hk hi
theorem iL_law_856 {v0 : Value} {v1 : Value} {v2 : Value} {v3 : Value} {v4 : Value} {v5 : Value} {x : Int32} {Ls st : List Value} {h : AH} : ev L xs mdL_law 856 (v0 :: v1 :: v2 :: v3 :: v4 :: v5 :: .int x :: Ls) (st) h = ev L xs mdL_law 858 (v0 :: v1 :: v2 :: v3 :: v4 :: v5 :: .int x :: Ls) (.int x :: st) (h) := e_iload dL_law_856 rfl
theorem iL_law_858 {x : Int32} {Ls st : List Value} {h : AH} : ev L xs mdL_law 858 (Ls) (.int x :: st) h = ev L xs mdL_law 859 (Ls) (.long x.toInt64 :: st) (h) := e_i2l dL_law_858
theorem iL_law_859 {x z : Int64} {Ls st : List Value} {h : AH} : ev L xs mdL_law 859 (Ls) (.long z :: .long x :: st) h = ev L xs mdL_law 860 (Ls) (.int (lg_cmp x z) :: st) (h) := e_lcmp dL_law_859
theorem iL_law_860 {x : Int32} {Ls st : List Value} {h : AH} : ev L xs mdL_law 860 Ls (.int x :: st) h = if x = nI 0 then ev L xs mdL_law 865 Ls st h else ev L xs mdL_law 863 Ls st h := e_if_eq dL_law_860 (by decide)
theorem iL_law_863  {Ls st : List Value} {h : AH} : ev L xs mdL_law 863 (Ls) (st) h = ev L xs mdL_law 864 (Ls) (.int (nI 0) :: st) (h) := e_iconst dL_law_863 (by decide)
theorem iL_law_864 {v : Int32} {Ls : List Value} {h : AH} (hv : v = nI 0 ∨ v = nI 1) : ev L xs mdL_law 864 Ls [.int v] h = some (.inl (some (.int v), h)) := e_zret dL_law_864 rfl hv
theorem iL_law_865  {Ls st : List Value} {h : AH} : ev L xs mdL_law 865 (Ls) (st) h = ev L xs mdL_law 1622 (Ls) (st) (h) := e_goto dL_law_865 (by decide)
theorem iL_law_868 {v0 : Value} {x : Nat} {Ls st : List Value} {h : AH} : ev L xs mdL_law 868 (v0 :: .ref x :: Ls) (st) h = ev L xs mdL_law 869 (v0 :: .ref x :: Ls) (.ref x :: st) (h) := e_aload_n dL_law_868 rfl
theorem iL_law_869 {x : Nat} {Ls st : List Value} {h : AH} : ev L xs mdL_law 869 (.retAddr x :: Ls) (st) h = ev L xs mdL_law 870 (.retAddr x :: Ls) (.retAddr x :: st) (h) := e_sload_n dL_law_869 rfl
theorem iL_law_870 {v0 : Value} {v1 : Value} {v2 : Value} {v3 : Value} {x : Int32} {Ls st : List Value} {h : AH} : ev L xs mdL_law 870 (v0 :: v1 :: v2 :: v3 :: .int x :: Ls) (st) h = ev L xs mdL_law 872 (v0 :: v1 :: v2 :: v3 :: .int x :: Ls) (.int x :: st) (h) := e_iload dL_law_870 rfl
theorem iL_law_872  {Ls st : List Value} {h : AH} : ev L xs mdL_law 872 (Ls) (st) h = ev L xs mdL_law 873 (Ls) (.int (nI 1) :: st) (h) := e_iconst dL_law_872 (by decide)
theorem iL_law_873 {x z : Int32} {Ls st : List Value} {h : AH} : ev L xs mdL_law 873 (Ls) (.int z :: .int x :: st) h = ev L xs mdL_law 874 (Ls) (.int (x + z) :: st) (h) := e_iadd dL_law_873
theorem iL_law_874 {z : Nat} {j : Int32} {Ls st : List Value} {h : AH} (hi : inA j L = true) : ev L xs mdL_law 874 (Ls) (.int j :: .retAddr z :: st) h = ev L xs mdL_law 875 (Ls) (.int (xs j.toNatClampNeg) :: st) (h) := e_sald dL_law_874 rfl hi
theorem iL_law_875 {v0 : Value} {v1 : Value} {v2 : Value} {x : Nat} {Ls st : List Value} {h : AH} : ev L xs mdL_law 875 (v0 :: v1 :: v2 :: .ref x :: Ls) (st) h = ev L xs mdL_law 876 (v0 :: v1 :: v2 :: .ref x :: Ls) (.ref x :: st) (h) := e_aload_n dL_law_875 rfl
theorem iL_law_876 {p0 : Nat} {p1 : Int32} {p2 : Nat} {Ls st : List Value} {h : AH} (hw : wds st ≤ 8) : ev L xs mdL_law 876 Ls (.ref p2 :: .int p1 :: .ref p0 :: st) h = kn L xs mdL_law 876 879 Ls st (ev L xs mdL_value 0 [.ref p0, .int p1, .ref p2, .null] [] h) := e_callS (as := [.ref p2, .int p1, .ref p0]) dL_law_876 mr_8_129 (by decide) (by decide) rfl (by simp [wds, Value.category]; decide) rfl hw
theorem iL_law_879 {v0 : Value} {v1 : Value} {v2 : Value} {v3 : Value} {v4 : Value} {v5 : Value} {x : Int32} {Ls st : List Value} {h : AH} (hc9 : v4.category = 1) : ev L xs mdL_law 879 (v0 :: v1 :: v2 :: v3 :: v4 :: v5 :: Ls) (.int x :: st) h = ev L xs mdL_law 881 (v0 :: v1 :: v2 :: v3 :: v4 :: .int x :: Ls) (st) (h) := e_istore dL_law_879 rfl (by decide) (by unfold catOK; show (_ || (v4.category == 1)) = true; rw [hc9]; rfl)
theorem iL_law_881 {v0 : Value} {v1 : Value} {x : Nat} {Ls st : List Value} {h : AH} : ev L xs mdL_law 881 (v0 :: v1 :: .ref x :: Ls) (st) h = ev L xs mdL_law 882 (v0 :: v1 :: .ref x :: Ls) (.ref x :: st) (h) := e_aload_n dL_law_881 rfl
theorem iL_law_882 {x : Nat} {Ls st : List Value} {h : AH} : ev L xs mdL_law 882 (.retAddr x :: Ls) (st) h = ev L xs mdL_law 883 (.retAddr x :: Ls) (.retAddr x :: st) (h) := e_sload_n dL_law_882 rfl
theorem iL_law_883 {v0 : Value} {v1 : Value} {v2 : Value} {v3 : Value} {x : Int32} {Ls st : List Value} {h : AH} : ev L xs mdL_law 883 (v0 :: v1 :: v2 :: v3 :: .int x :: Ls) (st) h = ev L xs mdL_law 885 (v0 :: v1 :: v2 :: v3 :: .int x :: Ls) (.int x :: st) (h) := e_iload dL_law_883 rfl
theorem iL_law_885  {Ls st : List Value} {h : AH} : ev L xs mdL_law 885 (Ls) (st) h = ev L xs mdL_law 886 (Ls) (.int (nI 1) :: st) (h) := e_iconst dL_law_885 (by decide)
theorem iL_law_886 {x z : Int32} {Ls st : List Value} {h : AH} : ev L xs mdL_law 886 (Ls) (.int z :: .int x :: st) h = ev L xs mdL_law 887 (Ls) (.int (x + z) :: st) (h) := e_iadd dL_law_886
theorem iL_law_887 {z : Nat} {j : Int32} {Ls st : List Value} {h : AH} (hi : inA j L = true) : ev L xs mdL_law 887 (Ls) (.int j :: .retAddr z :: st) h = ev L xs mdL_law 888 (Ls) (.int (xs j.toNatClampNeg) :: st) (h) := e_sald dL_law_887 rfl hi
theorem iL_law_888 {a : Nat} {p0 : Int32} {Ls st : List Value} {h : AH} (hk : hK h a = 7) (hw : wds st ≤ 8) : ev L xs mdL_law 888 Ls (.int p0 :: .ref a :: st) h = kn L xs mdL_law 888 891 Ls st (ev L xs mdX7_value 0 [.ref a, .int p0] [] h) := e_callV (as := [.int p0]) dL_law_888 mr_8_131 (by decide) (by decide) rfl (by simp [wds, Value.category]; decide) rfl (by decide) hk hw
theorem iL_law_891 {v0 : Value} {v1 : Value} {v2 : Value} {v3 : Value} {v4 : Value} {v5 : Value} {v6 : Value} {x : Int32} {Ls st : List Value} {h : AH} (hc9 : v5.category = 1) : ev L xs mdL_law 891 (v0 :: v1 :: v2 :: v3 :: v4 :: v5 :: v6 :: Ls) (.int x :: st) h = ev L xs mdL_law 893 (v0 :: v1 :: v2 :: v3 :: v4 :: v5 :: .int x :: Ls) (st) (h) := e_istore dL_law_891 rfl (by decide) (by unfold catOK; show (_ || (v5.category == 1)) = true; rw [hc9]; rfl)
theorem iL_law_893 {v0 : Value} {v1 : Value} {x : Nat} {Ls st : List Value} {h : AH} : ev L xs mdL_law 893 (v0 :: v1 :: .ref x :: Ls) (st) h = ev L xs mdL_law 894 (v0 :: v1 :: .ref x :: Ls) (.ref x :: st) (h) := e_aload_n dL_law_893 rfl
theorem iL_law_894 {a : Nat} {Ls st : List Value} {h : AH} (hk : hK h a = 7) (hw : wds st ≤ 8) : ev L xs mdL_law 894 Ls (.ref a :: st) h = kn L xs mdL_law 894 897 Ls st (ev L xs mdX7_thrown 0 [.ref a] [] h) := e_callV (as := []) dL_law_894 mr_8_93 (by decide) (by decide) rfl (by simp [wds, Value.category]; decide) rfl (by decide) hk hw
theorem iL_law_897 {v0 : Value} {v1 : Value} {v2 : Value} {v3 : Value} {v4 : Value} {x : Int32} {Ls st : List Value} {h : AH} : ev L xs mdL_law 897 (v0 :: v1 :: v2 :: v3 :: v4 :: .int x :: Ls) (st) h = ev L xs mdL_law 899 (v0 :: v1 :: v2 :: v3 :: v4 :: .int x :: Ls) (.int x :: st) (h) := e_iload dL_law_897 rfl
theorem iL_law_899 {x z : Int32} {Ls st : List Value} {h : AH} : ev L xs mdL_law 899 Ls (.int z :: .int x :: st) h = if x = z then ev L xs mdL_law 904 Ls st h else ev L xs mdL_law 902 Ls st h := e_ic_eq dL_law_899 (by decide)
theorem iL_law_902  {Ls st : List Value} {h : AH} : ev L xs mdL_law 902 (Ls) (st) h = ev L xs mdL_law 903 (Ls) (.int (nI 0) :: st) (h) := e_iconst dL_law_902 (by decide)
theorem iL_law_903 {v : Int32} {Ls : List Value} {h : AH} (hv : v = nI 0 ∨ v = nI 1) : ev L xs mdL_law 903 Ls [.int v] h = some (.inl (some (.int v), h)) := e_zret dL_law_903 rfl hv
theorem iL_law_904 {v0 : Value} {v1 : Value} {v2 : Value} {v3 : Value} {v4 : Value} {x : Int32} {Ls st : List Value} {h : AH} : ev L xs mdL_law 904 (v0 :: v1 :: v2 :: v3 :: v4 :: .int x :: Ls) (st) h = ev L xs mdL_law 906 (v0 :: v1 :: v2 :: v3 :: v4 :: .int x :: Ls) (.int x :: st) (h) := e_iload dL_law_904 rfl
theorem iL_law_906 {x : Int32} {Ls st : List Value} {h : AH} : ev L xs mdL_law 906 Ls (.int x :: st) h = if x = nI 0 then ev L xs mdL_law 909 Ls st h else ev L xs mdL_law 921 Ls st h := e_if_ne dL_law_906 (by decide)
theorem iL_law_909 {v0 : Value} {v1 : Value} {v2 : Value} {x : Nat} {Ls st : List Value} {h : AH} : ev L xs mdL_law 909 (v0 :: v1 :: v2 :: .ref x :: Ls) (st) h = ev L xs mdL_law 910 (v0 :: v1 :: v2 :: .ref x :: Ls) (.ref x :: st) (h) := e_aload_n dL_law_909 rfl
theorem iL_law_910  {Ls st : List Value} {h : AH} : ev L xs mdL_law 910 (Ls) (st) h = ev L xs mdL_law 911 (Ls) (.int (nI 0) :: st) (h) := e_iconst dL_law_910 (by decide)
theorem iL_law_911 {a : Nat} {j : Int32} {Ls st : List Value} {h : AH} (hk : hK h a = 12) (hi : inA j (hN h a) = true) : ev L xs mdL_law 911 (Ls) (.int j :: .ref a :: st) h = ev L xs mdL_law 912 (Ls) (.long (hL h a j.toNatClampNeg) :: st) (h) := e_lald dL_law_911 hk hi
theorem iL_law_912 {v0 : Value} {v1 : Value} {v2 : Value} {v3 : Value} {v4 : Value} {v5 : Value} {x : Int32} {Ls st : List Value} {h : AH} : ev L xs mdL_law 912 (v0 :: v1 :: v2 :: v3 :: v4 :: v5 :: .int x :: Ls) (st) h = ev L xs mdL_law 914 (v0 :: v1 :: v2 :: v3 :: v4 :: v5 :: .int x :: Ls) (.int x :: st) (h) := e_iload dL_law_912 rfl
theorem iL_law_914 {x : Int32} {Ls st : List Value} {h : AH} : ev L xs mdL_law 914 (Ls) (.int x :: st) h = ev L xs mdL_law 915 (Ls) (.long x.toInt64 :: st) (h) := e_i2l dL_law_914
theorem iL_law_915 {x z : Int64} {Ls st : List Value} {h : AH} : ev L xs mdL_law 915 (Ls) (.long z :: .long x :: st) h = ev L xs mdL_law 916 (Ls) (.int (lg_cmp x z) :: st) (h) := e_lcmp dL_law_915
theorem iL_law_916 {x : Int32} {Ls st : List Value} {h : AH} : ev L xs mdL_law 916 Ls (.int x :: st) h = if x = nI 0 then ev L xs mdL_law 921 Ls st h else ev L xs mdL_law 919 Ls st h := e_if_eq dL_law_916 (by decide)
theorem iL_law_919  {Ls st : List Value} {h : AH} : ev L xs mdL_law 919 (Ls) (st) h = ev L xs mdL_law 920 (Ls) (.int (nI 0) :: st) (h) := e_iconst dL_law_919 (by decide)
theorem iL_law_920 {v : Int32} {Ls : List Value} {h : AH} (hv : v = nI 0 ∨ v = nI 1) : ev L xs mdL_law 920 Ls [.int v] h = some (.inl (some (.int v), h)) := e_zret dL_law_920 rfl hv
theorem iL_law_921  {Ls st : List Value} {h : AH} : ev L xs mdL_law 921 (Ls) (st) h = ev L xs mdL_law 1622 (Ls) (st) (h) := e_goto dL_law_921 (by decide)
theorem iL_law_924 {v0 : Value} {x : Nat} {Ls st : List Value} {h : AH} : ev L xs mdL_law 924 (v0 :: .ref x :: Ls) (st) h = ev L xs mdL_law 925 (v0 :: .ref x :: Ls) (.ref x :: st) (h) := e_aload_n dL_law_924 rfl
theorem iL_law_925 {x : Nat} {Ls st : List Value} {h : AH} : ev L xs mdL_law 925 (.retAddr x :: Ls) (st) h = ev L xs mdL_law 926 (.retAddr x :: Ls) (.retAddr x :: st) (h) := e_sload_n dL_law_925 rfl
theorem iL_law_926 {v0 : Value} {v1 : Value} {v2 : Value} {v3 : Value} {x : Int32} {Ls st : List Value} {h : AH} : ev L xs mdL_law 926 (v0 :: v1 :: v2 :: v3 :: .int x :: Ls) (st) h = ev L xs mdL_law 928 (v0 :: v1 :: v2 :: v3 :: .int x :: Ls) (.int x :: st) (h) := e_iload dL_law_926 rfl
theorem iL_law_928  {Ls st : List Value} {h : AH} : ev L xs mdL_law 928 (Ls) (st) h = ev L xs mdL_law 929 (Ls) (.int (nI 1) :: st) (h) := e_iconst dL_law_928 (by decide)
theorem iL_law_929 {x z : Int32} {Ls st : List Value} {h : AH} : ev L xs mdL_law 929 (Ls) (.int z :: .int x :: st) h = ev L xs mdL_law 930 (Ls) (.int (x + z) :: st) (h) := e_iadd dL_law_929
theorem iL_law_930 {z : Nat} {j : Int32} {Ls st : List Value} {h : AH} (hi : inA j L = true) : ev L xs mdL_law 930 (Ls) (.int j :: .retAddr z :: st) h = ev L xs mdL_law 931 (Ls) (.int (xs j.toNatClampNeg) :: st) (h) := e_sald dL_law_930 rfl hi
theorem iL_law_931 {x : Nat} {Ls st : List Value} {h : AH} : ev L xs mdL_law 931 (.retAddr x :: Ls) (st) h = ev L xs mdL_law 932 (.retAddr x :: Ls) (.retAddr x :: st) (h) := e_sload_n dL_law_931 rfl
theorem iL_law_932 {v0 : Value} {v1 : Value} {v2 : Value} {v3 : Value} {x : Int32} {Ls st : List Value} {h : AH} : ev L xs mdL_law 932 (v0 :: v1 :: v2 :: v3 :: .int x :: Ls) (st) h = ev L xs mdL_law 934 (v0 :: v1 :: v2 :: v3 :: .int x :: Ls) (.int x :: st) (h) := e_iload dL_law_932 rfl
theorem iL_law_934  {Ls st : List Value} {h : AH} : ev L xs mdL_law 934 (Ls) (st) h = ev L xs mdL_law 935 (Ls) (.int (nI 2) :: st) (h) := e_iconst dL_law_934 (by decide)
theorem iL_law_935 {x z : Int32} {Ls st : List Value} {h : AH} : ev L xs mdL_law 935 (Ls) (.int z :: .int x :: st) h = ev L xs mdL_law 936 (Ls) (.int (x + z) :: st) (h) := e_iadd dL_law_935
theorem iL_law_936 {z : Nat} {j : Int32} {Ls st : List Value} {h : AH} (hi : inA j L = true) : ev L xs mdL_law 936 (Ls) (.int j :: .retAddr z :: st) h = ev L xs mdL_law 937 (Ls) (.int (xs j.toNatClampNeg) :: st) (h) := e_sald dL_law_936 rfl hi
theorem iL_law_937 {x : Int32} {Ls st : List Value} {h : AH} : ev L xs mdL_law 937 Ls (.int x :: st) h = if x = nI 0 then ev L xs mdL_law 944 Ls st h else ev L xs mdL_law 940 Ls st h := e_if_eq dL_law_937 (by decide)
theorem iL_law_940  {Ls st : List Value} {h : AH} : ev L xs mdL_law 940 (Ls) (st) h = ev L xs mdL_law 941 (Ls) (.int (nI 1) :: st) (h) := e_iconst dL_law_940 (by decide)
theorem iL_law_941  {Ls st : List Value} {h : AH} : ev L xs mdL_law 941 (Ls) (st) h = ev L xs mdL_law 945 (Ls) (st) (h) := e_goto dL_law_941 (by decide)
theorem iL_law_944  {Ls st : List Value} {h : AH} : ev L xs mdL_law 944 (Ls) (st) h = ev L xs mdL_law 945 (Ls) (.int (nI 0) :: st) (h) := e_iconst dL_law_944 (by decide)
theorem iL_law_945 {v0 : Value} {v1 : Value} {v2 : Value} {x : Nat} {Ls st : List Value} {h : AH} : ev L xs mdL_law 945 (v0 :: v1 :: v2 :: .ref x :: Ls) (st) h = ev L xs mdL_law 946 (v0 :: v1 :: v2 :: .ref x :: Ls) (.ref x :: st) (h) := e_aload_n dL_law_945 rfl
theorem iL_law_946 {p0 : Nat} {p1 : Int32} {p2 : Int32} {p3 : Nat} {Ls st : List Value} {h : AH} (hw : wds st ≤ 8) : ev L xs mdL_law 946 Ls (.ref p3 :: .int p2 :: .int p1 :: .ref p0 :: st) h = kn L xs mdL_law 946 949 Ls st (ev L xs mdL_holiday 0 [.ref p0, .int p1, .int p2, .ref p3, .null] [] h) := e_callS (as := [.ref p3, .int p2, .int p1, .ref p0]) dL_law_946 mr_8_132 (by decide) (by decide) rfl (by simp [wds, Value.category]; decide) rfl hw
theorem iL_law_949 {v0 : Value} {v1 : Value} {v2 : Value} {v3 : Value} {v4 : Value} {v5 : Value} {x : Int32} {Ls st : List Value} {h : AH} (hc9 : v4.category = 1) : ev L xs mdL_law 949 (v0 :: v1 :: v2 :: v3 :: v4 :: v5 :: Ls) (.int x :: st) h = ev L xs mdL_law 951 (v0 :: v1 :: v2 :: v3 :: v4 :: .int x :: Ls) (st) (h) := e_istore dL_law_949 rfl (by decide) (by unfold catOK; show (_ || (v4.category == 1)) = true; rw [hc9]; rfl)
theorem iL_law_951 {v0 : Value} {v1 : Value} {x : Nat} {Ls st : List Value} {h : AH} : ev L xs mdL_law 951 (v0 :: v1 :: .ref x :: Ls) (st) h = ev L xs mdL_law 952 (v0 :: v1 :: .ref x :: Ls) (.ref x :: st) (h) := e_aload_n dL_law_951 rfl
theorem iL_law_952 {x : Nat} {Ls st : List Value} {h : AH} : ev L xs mdL_law 952 (.retAddr x :: Ls) (st) h = ev L xs mdL_law 953 (.retAddr x :: Ls) (.retAddr x :: st) (h) := e_sload_n dL_law_952 rfl
theorem iL_law_953 {v0 : Value} {v1 : Value} {v2 : Value} {v3 : Value} {x : Int32} {Ls st : List Value} {h : AH} : ev L xs mdL_law 953 (v0 :: v1 :: v2 :: v3 :: .int x :: Ls) (st) h = ev L xs mdL_law 955 (v0 :: v1 :: v2 :: v3 :: .int x :: Ls) (.int x :: st) (h) := e_iload dL_law_953 rfl
theorem iL_law_955  {Ls st : List Value} {h : AH} : ev L xs mdL_law 955 (Ls) (st) h = ev L xs mdL_law 956 (Ls) (.int (nI 1) :: st) (h) := e_iconst dL_law_955 (by decide)
theorem iL_law_956 {x z : Int32} {Ls st : List Value} {h : AH} : ev L xs mdL_law 956 (Ls) (.int z :: .int x :: st) h = ev L xs mdL_law 957 (Ls) (.int (x + z) :: st) (h) := e_iadd dL_law_956
theorem iL_law_957 {z : Nat} {j : Int32} {Ls st : List Value} {h : AH} (hi : inA j L = true) : ev L xs mdL_law 957 (Ls) (.int j :: .retAddr z :: st) h = ev L xs mdL_law 958 (Ls) (.int (xs j.toNatClampNeg) :: st) (h) := e_sald dL_law_957 rfl hi
theorem iL_law_958 {x : Nat} {Ls st : List Value} {h : AH} : ev L xs mdL_law 958 (.retAddr x :: Ls) (st) h = ev L xs mdL_law 959 (.retAddr x :: Ls) (.retAddr x :: st) (h) := e_sload_n dL_law_958 rfl
theorem iL_law_959 {v0 : Value} {v1 : Value} {v2 : Value} {v3 : Value} {x : Int32} {Ls st : List Value} {h : AH} : ev L xs mdL_law 959 (v0 :: v1 :: v2 :: v3 :: .int x :: Ls) (st) h = ev L xs mdL_law 961 (v0 :: v1 :: v2 :: v3 :: .int x :: Ls) (.int x :: st) (h) := e_iload dL_law_959 rfl
theorem iL_law_961  {Ls st : List Value} {h : AH} : ev L xs mdL_law 961 (Ls) (st) h = ev L xs mdL_law 962 (Ls) (.int (nI 2) :: st) (h) := e_iconst dL_law_961 (by decide)
theorem iL_law_962 {x z : Int32} {Ls st : List Value} {h : AH} : ev L xs mdL_law 962 (Ls) (.int z :: .int x :: st) h = ev L xs mdL_law 963 (Ls) (.int (x + z) :: st) (h) := e_iadd dL_law_962
theorem iL_law_963 {z : Nat} {j : Int32} {Ls st : List Value} {h : AH} (hi : inA j L = true) : ev L xs mdL_law 963 (Ls) (.int j :: .retAddr z :: st) h = ev L xs mdL_law 964 (Ls) (.int (xs j.toNatClampNeg) :: st) (h) := e_sald dL_law_963 rfl hi
theorem iL_law_964 {x : Int32} {Ls st : List Value} {h : AH} : ev L xs mdL_law 964 Ls (.int x :: st) h = if x = nI 0 then ev L xs mdL_law 971 Ls st h else ev L xs mdL_law 967 Ls st h := e_if_eq dL_law_964 (by decide)
theorem iL_law_967  {Ls st : List Value} {h : AH} : ev L xs mdL_law 967 (Ls) (st) h = ev L xs mdL_law 968 (Ls) (.int (nI 1) :: st) (h) := e_iconst dL_law_967 (by decide)
theorem iL_law_968  {Ls st : List Value} {h : AH} : ev L xs mdL_law 968 (Ls) (st) h = ev L xs mdL_law 972 (Ls) (st) (h) := e_goto dL_law_968 (by decide)
theorem iL_law_971  {Ls st : List Value} {h : AH} : ev L xs mdL_law 971 (Ls) (st) h = ev L xs mdL_law 972 (Ls) (.int (nI 0) :: st) (h) := e_iconst dL_law_971 (by decide)
theorem iL_law_972 {a : Nat} {p0 : Int32} {p1 : Int32} {Ls st : List Value} {h : AH} (hk : hK h a = 7) (hw : wds st ≤ 8) : ev L xs mdL_law 972 Ls (.int p1 :: .int p0 :: .ref a :: st) h = kn L xs mdL_law 972 975 Ls st (ev L xs mdX7_holiday 0 [.ref a, .int p0, .int p1] [] h) := e_callV (as := [.int p1, .int p0]) dL_law_972 mr_8_135 (by decide) (by decide) rfl (by simp [wds, Value.category]; decide) rfl (by decide) hk hw
theorem iL_law_975 {v0 : Value} {v1 : Value} {v2 : Value} {v3 : Value} {v4 : Value} {v5 : Value} {v6 : Value} {x : Int32} {Ls st : List Value} {h : AH} (hc9 : v5.category = 1) : ev L xs mdL_law 975 (v0 :: v1 :: v2 :: v3 :: v4 :: v5 :: v6 :: Ls) (.int x :: st) h = ev L xs mdL_law 977 (v0 :: v1 :: v2 :: v3 :: v4 :: v5 :: .int x :: Ls) (st) (h) := e_istore dL_law_975 rfl (by decide) (by unfold catOK; show (_ || (v5.category == 1)) = true; rw [hc9]; rfl)
theorem iL_law_977 {v0 : Value} {v1 : Value} {x : Nat} {Ls st : List Value} {h : AH} : ev L xs mdL_law 977 (v0 :: v1 :: .ref x :: Ls) (st) h = ev L xs mdL_law 978 (v0 :: v1 :: .ref x :: Ls) (.ref x :: st) (h) := e_aload_n dL_law_977 rfl
theorem iL_law_978 {a : Nat} {Ls st : List Value} {h : AH} (hk : hK h a = 7) (hw : wds st ≤ 8) : ev L xs mdL_law 978 Ls (.ref a :: st) h = kn L xs mdL_law 978 981 Ls st (ev L xs mdX7_thrown 0 [.ref a] [] h) := e_callV (as := []) dL_law_978 mr_8_93 (by decide) (by decide) rfl (by simp [wds, Value.category]; decide) rfl (by decide) hk hw
theorem iL_law_981 {v0 : Value} {v1 : Value} {v2 : Value} {v3 : Value} {v4 : Value} {x : Int32} {Ls st : List Value} {h : AH} : ev L xs mdL_law 981 (v0 :: v1 :: v2 :: v3 :: v4 :: .int x :: Ls) (st) h = ev L xs mdL_law 983 (v0 :: v1 :: v2 :: v3 :: v4 :: .int x :: Ls) (.int x :: st) (h) := e_iload dL_law_981 rfl
theorem iL_law_983 {x z : Int32} {Ls st : List Value} {h : AH} : ev L xs mdL_law 983 Ls (.int z :: .int x :: st) h = if x = z then ev L xs mdL_law 988 Ls st h else ev L xs mdL_law 986 Ls st h := e_ic_eq dL_law_983 (by decide)
theorem iL_law_986  {Ls st : List Value} {h : AH} : ev L xs mdL_law 986 (Ls) (st) h = ev L xs mdL_law 987 (Ls) (.int (nI 0) :: st) (h) := e_iconst dL_law_986 (by decide)
theorem iL_law_987 {v : Int32} {Ls : List Value} {h : AH} (hv : v = nI 0 ∨ v = nI 1) : ev L xs mdL_law 987 Ls [.int v] h = some (.inl (some (.int v), h)) := e_zret dL_law_987 rfl hv
theorem iL_law_988 {v0 : Value} {v1 : Value} {v2 : Value} {v3 : Value} {v4 : Value} {x : Int32} {Ls st : List Value} {h : AH} : ev L xs mdL_law 988 (v0 :: v1 :: v2 :: v3 :: v4 :: .int x :: Ls) (st) h = ev L xs mdL_law 990 (v0 :: v1 :: v2 :: v3 :: v4 :: .int x :: Ls) (.int x :: st) (h) := e_iload dL_law_988 rfl
theorem iL_law_990 {x : Int32} {Ls st : List Value} {h : AH} : ev L xs mdL_law 990 Ls (.int x :: st) h = if x = nI 0 then ev L xs mdL_law 993 Ls st h else ev L xs mdL_law 1005 Ls st h := e_if_ne dL_law_990 (by decide)
theorem iL_law_993 {v0 : Value} {v1 : Value} {v2 : Value} {x : Nat} {Ls st : List Value} {h : AH} : ev L xs mdL_law 993 (v0 :: v1 :: v2 :: .ref x :: Ls) (st) h = ev L xs mdL_law 994 (v0 :: v1 :: v2 :: .ref x :: Ls) (.ref x :: st) (h) := e_aload_n dL_law_993 rfl
theorem iL_law_994  {Ls st : List Value} {h : AH} : ev L xs mdL_law 994 (Ls) (st) h = ev L xs mdL_law 995 (Ls) (.int (nI 0) :: st) (h) := e_iconst dL_law_994 (by decide)
theorem iL_law_995 {a : Nat} {j : Int32} {Ls st : List Value} {h : AH} (hk : hK h a = 12) (hi : inA j (hN h a) = true) : ev L xs mdL_law 995 (Ls) (.int j :: .ref a :: st) h = ev L xs mdL_law 996 (Ls) (.long (hL h a j.toNatClampNeg) :: st) (h) := e_lald dL_law_995 hk hi
theorem iL_law_996 {v0 : Value} {v1 : Value} {v2 : Value} {v3 : Value} {v4 : Value} {v5 : Value} {x : Int32} {Ls st : List Value} {h : AH} : ev L xs mdL_law 996 (v0 :: v1 :: v2 :: v3 :: v4 :: v5 :: .int x :: Ls) (st) h = ev L xs mdL_law 998 (v0 :: v1 :: v2 :: v3 :: v4 :: v5 :: .int x :: Ls) (.int x :: st) (h) := e_iload dL_law_996 rfl
theorem iL_law_998 {x : Int32} {Ls st : List Value} {h : AH} : ev L xs mdL_law 998 (Ls) (.int x :: st) h = ev L xs mdL_law 999 (Ls) (.long x.toInt64 :: st) (h) := e_i2l dL_law_998
theorem iL_law_999 {x z : Int64} {Ls st : List Value} {h : AH} : ev L xs mdL_law 999 (Ls) (.long z :: .long x :: st) h = ev L xs mdL_law 1000 (Ls) (.int (lg_cmp x z) :: st) (h) := e_lcmp dL_law_999
theorem iL_law_1000 {x : Int32} {Ls st : List Value} {h : AH} : ev L xs mdL_law 1000 Ls (.int x :: st) h = if x = nI 0 then ev L xs mdL_law 1005 Ls st h else ev L xs mdL_law 1003 Ls st h := e_if_eq dL_law_1000 (by decide)
theorem iL_law_1003  {Ls st : List Value} {h : AH} : ev L xs mdL_law 1003 (Ls) (st) h = ev L xs mdL_law 1004 (Ls) (.int (nI 0) :: st) (h) := e_iconst dL_law_1003 (by decide)
theorem iL_law_1004 {v : Int32} {Ls : List Value} {h : AH} (hv : v = nI 0 ∨ v = nI 1) : ev L xs mdL_law 1004 Ls [.int v] h = some (.inl (some (.int v), h)) := e_zret dL_law_1004 rfl hv
theorem iL_law_1005  {Ls st : List Value} {h : AH} : ev L xs mdL_law 1005 (Ls) (st) h = ev L xs mdL_law 1622 (Ls) (st) (h) := e_goto dL_law_1005 (by decide)
theorem iL_law_1008 {v0 : Value} {x : Nat} {Ls st : List Value} {h : AH} : ev L xs mdL_law 1008 (v0 :: .ref x :: Ls) (st) h = ev L xs mdL_law 1009 (v0 :: .ref x :: Ls) (.ref x :: st) (h) := e_aload_n dL_law_1008 rfl
theorem iL_law_1009 {x : Nat} {Ls st : List Value} {h : AH} : ev L xs mdL_law 1009 (.retAddr x :: Ls) (st) h = ev L xs mdL_law 1010 (.retAddr x :: Ls) (.retAddr x :: st) (h) := e_sload_n dL_law_1009 rfl
theorem iL_law_1010 {v0 : Value} {v1 : Value} {v2 : Value} {v3 : Value} {x : Int32} {Ls st : List Value} {h : AH} : ev L xs mdL_law 1010 (v0 :: v1 :: v2 :: v3 :: .int x :: Ls) (st) h = ev L xs mdL_law 1012 (v0 :: v1 :: v2 :: v3 :: .int x :: Ls) (.int x :: st) (h) := e_iload dL_law_1010 rfl
theorem iL_law_1012  {Ls st : List Value} {h : AH} : ev L xs mdL_law 1012 (Ls) (st) h = ev L xs mdL_law 1013 (Ls) (.int (nI 1) :: st) (h) := e_iconst dL_law_1012 (by decide)
theorem iL_law_1013 {x z : Int32} {Ls st : List Value} {h : AH} : ev L xs mdL_law 1013 (Ls) (.int z :: .int x :: st) h = ev L xs mdL_law 1014 (Ls) (.int (x + z) :: st) (h) := e_iadd dL_law_1013
theorem iL_law_1014 {z : Nat} {j : Int32} {Ls st : List Value} {h : AH} (hi : inA j L = true) : ev L xs mdL_law 1014 (Ls) (.int j :: .retAddr z :: st) h = ev L xs mdL_law 1015 (Ls) (.int (xs j.toNatClampNeg) :: st) (h) := e_sald dL_law_1014 rfl hi
theorem iL_law_1015 {x : Nat} {Ls st : List Value} {h : AH} : ev L xs mdL_law 1015 (.retAddr x :: Ls) (st) h = ev L xs mdL_law 1016 (.retAddr x :: Ls) (.retAddr x :: st) (h) := e_sload_n dL_law_1015 rfl
theorem iL_law_1016 {v0 : Value} {v1 : Value} {v2 : Value} {v3 : Value} {x : Int32} {Ls st : List Value} {h : AH} : ev L xs mdL_law 1016 (v0 :: v1 :: v2 :: v3 :: .int x :: Ls) (st) h = ev L xs mdL_law 1018 (v0 :: v1 :: v2 :: v3 :: .int x :: Ls) (.int x :: st) (h) := e_iload dL_law_1016 rfl
theorem iL_law_1018  {Ls st : List Value} {h : AH} : ev L xs mdL_law 1018 (Ls) (st) h = ev L xs mdL_law 1019 (Ls) (.int (nI 2) :: st) (h) := e_iconst dL_law_1018 (by decide)
theorem iL_law_1019 {x z : Int32} {Ls st : List Value} {h : AH} : ev L xs mdL_law 1019 (Ls) (.int z :: .int x :: st) h = ev L xs mdL_law 1020 (Ls) (.int (x + z) :: st) (h) := e_iadd dL_law_1019
theorem iL_law_1020 {z : Nat} {j : Int32} {Ls st : List Value} {h : AH} (hi : inA j L = true) : ev L xs mdL_law 1020 (Ls) (.int j :: .retAddr z :: st) h = ev L xs mdL_law 1021 (Ls) (.int (xs j.toNatClampNeg) :: st) (h) := e_sald dL_law_1020 rfl hi
theorem iL_law_1021 {v0 : Value} {v1 : Value} {v2 : Value} {x : Nat} {Ls st : List Value} {h : AH} : ev L xs mdL_law 1021 (v0 :: v1 :: v2 :: .ref x :: Ls) (st) h = ev L xs mdL_law 1022 (v0 :: v1 :: v2 :: .ref x :: Ls) (.ref x :: st) (h) := e_aload_n dL_law_1021 rfl
theorem iL_law_1022 {p0 : Nat} {p1 : Int32} {p2 : Int32} {p3 : Nat} {Ls st : List Value} {h : AH} (hw : wds st ≤ 8) : ev L xs mdL_law 1022 Ls (.ref p3 :: .int p2 :: .int p1 :: .ref p0 :: st) h = kn L xs mdL_law 1022 1025 Ls st (ev L xs mdL_needed 0 [.ref p0, .int p1, .int p2, .ref p3, .null] [] h) := e_callS (as := [.ref p3, .int p2, .int p1, .ref p0]) dL_law_1022 mr_8_136 (by decide) (by decide) rfl (by simp [wds, Value.category]; decide) rfl hw
theorem iL_law_1025 {v0 : Value} {v1 : Value} {v2 : Value} {v3 : Value} {v4 : Value} {v5 : Value} {x : Int32} {Ls st : List Value} {h : AH} (hc9 : v4.category = 1) : ev L xs mdL_law 1025 (v0 :: v1 :: v2 :: v3 :: v4 :: v5 :: Ls) (.int x :: st) h = ev L xs mdL_law 1027 (v0 :: v1 :: v2 :: v3 :: v4 :: .int x :: Ls) (st) (h) := e_istore dL_law_1025 rfl (by decide) (by unfold catOK; show (_ || (v4.category == 1)) = true; rw [hc9]; rfl)
theorem iL_law_1027 {v0 : Value} {v1 : Value} {x : Nat} {Ls st : List Value} {h : AH} : ev L xs mdL_law 1027 (v0 :: v1 :: .ref x :: Ls) (st) h = ev L xs mdL_law 1028 (v0 :: v1 :: .ref x :: Ls) (.ref x :: st) (h) := e_aload_n dL_law_1027 rfl
theorem iL_law_1028 {x : Nat} {Ls st : List Value} {h : AH} : ev L xs mdL_law 1028 (.retAddr x :: Ls) (st) h = ev L xs mdL_law 1029 (.retAddr x :: Ls) (.retAddr x :: st) (h) := e_sload_n dL_law_1028 rfl
theorem iL_law_1029 {v0 : Value} {v1 : Value} {v2 : Value} {v3 : Value} {x : Int32} {Ls st : List Value} {h : AH} : ev L xs mdL_law 1029 (v0 :: v1 :: v2 :: v3 :: .int x :: Ls) (st) h = ev L xs mdL_law 1031 (v0 :: v1 :: v2 :: v3 :: .int x :: Ls) (.int x :: st) (h) := e_iload dL_law_1029 rfl
theorem iL_law_1031  {Ls st : List Value} {h : AH} : ev L xs mdL_law 1031 (Ls) (st) h = ev L xs mdL_law 1032 (Ls) (.int (nI 1) :: st) (h) := e_iconst dL_law_1031 (by decide)
theorem iL_law_1032 {x z : Int32} {Ls st : List Value} {h : AH} : ev L xs mdL_law 1032 (Ls) (.int z :: .int x :: st) h = ev L xs mdL_law 1033 (Ls) (.int (x + z) :: st) (h) := e_iadd dL_law_1032
theorem iL_law_1033 {z : Nat} {j : Int32} {Ls st : List Value} {h : AH} (hi : inA j L = true) : ev L xs mdL_law 1033 (Ls) (.int j :: .retAddr z :: st) h = ev L xs mdL_law 1034 (Ls) (.int (xs j.toNatClampNeg) :: st) (h) := e_sald dL_law_1033 rfl hi
theorem iL_law_1034 {x : Nat} {Ls st : List Value} {h : AH} : ev L xs mdL_law 1034 (.retAddr x :: Ls) (st) h = ev L xs mdL_law 1035 (.retAddr x :: Ls) (.retAddr x :: st) (h) := e_sload_n dL_law_1034 rfl
theorem iL_law_1035 {v0 : Value} {v1 : Value} {v2 : Value} {v3 : Value} {x : Int32} {Ls st : List Value} {h : AH} : ev L xs mdL_law 1035 (v0 :: v1 :: v2 :: v3 :: .int x :: Ls) (st) h = ev L xs mdL_law 1037 (v0 :: v1 :: v2 :: v3 :: .int x :: Ls) (.int x :: st) (h) := e_iload dL_law_1035 rfl
theorem iL_law_1037  {Ls st : List Value} {h : AH} : ev L xs mdL_law 1037 (Ls) (st) h = ev L xs mdL_law 1038 (Ls) (.int (nI 2) :: st) (h) := e_iconst dL_law_1037 (by decide)
theorem iL_law_1038 {x z : Int32} {Ls st : List Value} {h : AH} : ev L xs mdL_law 1038 (Ls) (.int z :: .int x :: st) h = ev L xs mdL_law 1039 (Ls) (.int (x + z) :: st) (h) := e_iadd dL_law_1038
theorem iL_law_1039 {z : Nat} {j : Int32} {Ls st : List Value} {h : AH} (hi : inA j L = true) : ev L xs mdL_law 1039 (Ls) (.int j :: .retAddr z :: st) h = ev L xs mdL_law 1040 (Ls) (.int (xs j.toNatClampNeg) :: st) (h) := e_sald dL_law_1039 rfl hi
theorem iL_law_1040 {a : Nat} {p0 : Int32} {p1 : Int32} {Ls st : List Value} {h : AH} (hk : hK h a = 7) (hw : wds st ≤ 8) : ev L xs mdL_law 1040 Ls (.int p1 :: .int p0 :: .ref a :: st) h = kn L xs mdL_law 1040 1043 Ls st (ev L xs mdX7_needed 0 [.ref a, .int p0, .int p1, .null, .null] [] h) := e_callV (as := [.int p1, .int p0]) dL_law_1040 mr_8_138 (by decide) (by decide) rfl (by simp [wds, Value.category]; decide) rfl (by decide) hk hw
theorem iL_law_1043 {v0 : Value} {v1 : Value} {v2 : Value} {v3 : Value} {v4 : Value} {v5 : Value} {v6 : Value} {x : Int32} {Ls st : List Value} {h : AH} (hc9 : v5.category = 1) : ev L xs mdL_law 1043 (v0 :: v1 :: v2 :: v3 :: v4 :: v5 :: v6 :: Ls) (.int x :: st) h = ev L xs mdL_law 1045 (v0 :: v1 :: v2 :: v3 :: v4 :: v5 :: .int x :: Ls) (st) (h) := e_istore dL_law_1043 rfl (by decide) (by unfold catOK; show (_ || (v5.category == 1)) = true; rw [hc9]; rfl)
theorem iL_law_1045 {v0 : Value} {v1 : Value} {x : Nat} {Ls st : List Value} {h : AH} : ev L xs mdL_law 1045 (v0 :: v1 :: .ref x :: Ls) (st) h = ev L xs mdL_law 1046 (v0 :: v1 :: .ref x :: Ls) (.ref x :: st) (h) := e_aload_n dL_law_1045 rfl
theorem iL_law_1046 {a : Nat} {Ls st : List Value} {h : AH} (hk : hK h a = 7) (hw : wds st ≤ 8) : ev L xs mdL_law 1046 Ls (.ref a :: st) h = kn L xs mdL_law 1046 1049 Ls st (ev L xs mdX7_thrown 0 [.ref a] [] h) := e_callV (as := []) dL_law_1046 mr_8_93 (by decide) (by decide) rfl (by simp [wds, Value.category]; decide) rfl (by decide) hk hw
theorem iL_law_1049 {v0 : Value} {v1 : Value} {v2 : Value} {v3 : Value} {v4 : Value} {x : Int32} {Ls st : List Value} {h : AH} : ev L xs mdL_law 1049 (v0 :: v1 :: v2 :: v3 :: v4 :: .int x :: Ls) (st) h = ev L xs mdL_law 1051 (v0 :: v1 :: v2 :: v3 :: v4 :: .int x :: Ls) (.int x :: st) (h) := e_iload dL_law_1049 rfl
theorem iL_law_1051 {x z : Int32} {Ls st : List Value} {h : AH} : ev L xs mdL_law 1051 Ls (.int z :: .int x :: st) h = if x = z then ev L xs mdL_law 1056 Ls st h else ev L xs mdL_law 1054 Ls st h := e_ic_eq dL_law_1051 (by decide)
theorem iL_law_1054  {Ls st : List Value} {h : AH} : ev L xs mdL_law 1054 (Ls) (st) h = ev L xs mdL_law 1055 (Ls) (.int (nI 0) :: st) (h) := e_iconst dL_law_1054 (by decide)
theorem iL_law_1055 {v : Int32} {Ls : List Value} {h : AH} (hv : v = nI 0 ∨ v = nI 1) : ev L xs mdL_law 1055 Ls [.int v] h = some (.inl (some (.int v), h)) := e_zret dL_law_1055 rfl hv
theorem iL_law_1056 {v0 : Value} {v1 : Value} {v2 : Value} {v3 : Value} {v4 : Value} {x : Int32} {Ls st : List Value} {h : AH} : ev L xs mdL_law 1056 (v0 :: v1 :: v2 :: v3 :: v4 :: .int x :: Ls) (st) h = ev L xs mdL_law 1058 (v0 :: v1 :: v2 :: v3 :: v4 :: .int x :: Ls) (.int x :: st) (h) := e_iload dL_law_1056 rfl
theorem iL_law_1058 {x : Int32} {Ls st : List Value} {h : AH} : ev L xs mdL_law 1058 Ls (.int x :: st) h = if x = nI 0 then ev L xs mdL_law 1061 Ls st h else ev L xs mdL_law 1073 Ls st h := e_if_ne dL_law_1058 (by decide)
theorem iL_law_1061 {v0 : Value} {v1 : Value} {v2 : Value} {x : Nat} {Ls st : List Value} {h : AH} : ev L xs mdL_law 1061 (v0 :: v1 :: v2 :: .ref x :: Ls) (st) h = ev L xs mdL_law 1062 (v0 :: v1 :: v2 :: .ref x :: Ls) (.ref x :: st) (h) := e_aload_n dL_law_1061 rfl
theorem iL_law_1062  {Ls st : List Value} {h : AH} : ev L xs mdL_law 1062 (Ls) (st) h = ev L xs mdL_law 1063 (Ls) (.int (nI 0) :: st) (h) := e_iconst dL_law_1062 (by decide)
theorem iL_law_1063 {a : Nat} {j : Int32} {Ls st : List Value} {h : AH} (hk : hK h a = 12) (hi : inA j (hN h a) = true) : ev L xs mdL_law 1063 (Ls) (.int j :: .ref a :: st) h = ev L xs mdL_law 1064 (Ls) (.long (hL h a j.toNatClampNeg) :: st) (h) := e_lald dL_law_1063 hk hi
theorem iL_law_1064 {v0 : Value} {v1 : Value} {v2 : Value} {v3 : Value} {v4 : Value} {v5 : Value} {x : Int32} {Ls st : List Value} {h : AH} : ev L xs mdL_law 1064 (v0 :: v1 :: v2 :: v3 :: v4 :: v5 :: .int x :: Ls) (st) h = ev L xs mdL_law 1066 (v0 :: v1 :: v2 :: v3 :: v4 :: v5 :: .int x :: Ls) (.int x :: st) (h) := e_iload dL_law_1064 rfl
theorem iL_law_1066 {x : Int32} {Ls st : List Value} {h : AH} : ev L xs mdL_law 1066 (Ls) (.int x :: st) h = ev L xs mdL_law 1067 (Ls) (.long x.toInt64 :: st) (h) := e_i2l dL_law_1066
theorem iL_law_1067 {x z : Int64} {Ls st : List Value} {h : AH} : ev L xs mdL_law 1067 (Ls) (.long z :: .long x :: st) h = ev L xs mdL_law 1068 (Ls) (.int (lg_cmp x z) :: st) (h) := e_lcmp dL_law_1067
theorem iL_law_1068 {x : Int32} {Ls st : List Value} {h : AH} : ev L xs mdL_law 1068 Ls (.int x :: st) h = if x = nI 0 then ev L xs mdL_law 1073 Ls st h else ev L xs mdL_law 1071 Ls st h := e_if_eq dL_law_1068 (by decide)
theorem iL_law_1071  {Ls st : List Value} {h : AH} : ev L xs mdL_law 1071 (Ls) (st) h = ev L xs mdL_law 1072 (Ls) (.int (nI 0) :: st) (h) := e_iconst dL_law_1071 (by decide)
theorem iL_law_1072 {v : Int32} {Ls : List Value} {h : AH} (hv : v = nI 0 ∨ v = nI 1) : ev L xs mdL_law 1072 Ls [.int v] h = some (.inl (some (.int v), h)) := e_zret dL_law_1072 rfl hv
theorem iL_law_1073  {Ls st : List Value} {h : AH} : ev L xs mdL_law 1073 (Ls) (st) h = ev L xs mdL_law 1622 (Ls) (st) (h) := e_goto dL_law_1073 (by decide)
theorem iL_law_1076 {v0 : Value} {x : Nat} {Ls st : List Value} {h : AH} : ev L xs mdL_law 1076 (v0 :: .ref x :: Ls) (st) h = ev L xs mdL_law 1077 (v0 :: .ref x :: Ls) (.ref x :: st) (h) := e_aload_n dL_law_1076 rfl
theorem iL_law_1077 {x : Nat} {Ls st : List Value} {h : AH} : ev L xs mdL_law 1077 (.retAddr x :: Ls) (st) h = ev L xs mdL_law 1078 (.retAddr x :: Ls) (.retAddr x :: st) (h) := e_sload_n dL_law_1077 rfl
theorem iL_law_1078 {v0 : Value} {v1 : Value} {v2 : Value} {v3 : Value} {x : Int32} {Ls st : List Value} {h : AH} : ev L xs mdL_law 1078 (v0 :: v1 :: v2 :: v3 :: .int x :: Ls) (st) h = ev L xs mdL_law 1080 (v0 :: v1 :: v2 :: v3 :: .int x :: Ls) (.int x :: st) (h) := e_iload dL_law_1078 rfl
theorem iL_law_1080  {Ls st : List Value} {h : AH} : ev L xs mdL_law 1080 (Ls) (st) h = ev L xs mdL_law 1081 (Ls) (.int (nI 1) :: st) (h) := e_iconst dL_law_1080 (by decide)
theorem iL_law_1081 {x z : Int32} {Ls st : List Value} {h : AH} : ev L xs mdL_law 1081 (Ls) (.int z :: .int x :: st) h = ev L xs mdL_law 1082 (Ls) (.int (x + z) :: st) (h) := e_iadd dL_law_1081
theorem iL_law_1082 {z : Nat} {j : Int32} {Ls st : List Value} {h : AH} (hi : inA j L = true) : ev L xs mdL_law 1082 (Ls) (.int j :: .retAddr z :: st) h = ev L xs mdL_law 1083 (Ls) (.int (xs j.toNatClampNeg) :: st) (h) := e_sald dL_law_1082 rfl hi
theorem iL_law_1083 {x : Nat} {Ls st : List Value} {h : AH} : ev L xs mdL_law 1083 (.retAddr x :: Ls) (st) h = ev L xs mdL_law 1084 (.retAddr x :: Ls) (.retAddr x :: st) (h) := e_sload_n dL_law_1083 rfl
theorem iL_law_1084 {v0 : Value} {v1 : Value} {v2 : Value} {v3 : Value} {x : Int32} {Ls st : List Value} {h : AH} : ev L xs mdL_law 1084 (v0 :: v1 :: v2 :: v3 :: .int x :: Ls) (st) h = ev L xs mdL_law 1086 (v0 :: v1 :: v2 :: v3 :: .int x :: Ls) (.int x :: st) (h) := e_iload dL_law_1084 rfl
theorem iL_law_1086  {Ls st : List Value} {h : AH} : ev L xs mdL_law 1086 (Ls) (st) h = ev L xs mdL_law 1087 (Ls) (.int (nI 2) :: st) (h) := e_iconst dL_law_1086 (by decide)
theorem iL_law_1087 {x z : Int32} {Ls st : List Value} {h : AH} : ev L xs mdL_law 1087 (Ls) (.int z :: .int x :: st) h = ev L xs mdL_law 1088 (Ls) (.int (x + z) :: st) (h) := e_iadd dL_law_1087
theorem iL_law_1088 {z : Nat} {j : Int32} {Ls st : List Value} {h : AH} (hi : inA j L = true) : ev L xs mdL_law 1088 (Ls) (.int j :: .retAddr z :: st) h = ev L xs mdL_law 1089 (Ls) (.int (xs j.toNatClampNeg) :: st) (h) := e_sald dL_law_1088 rfl hi
theorem iL_law_1089 {v0 : Value} {v1 : Value} {v2 : Value} {x : Nat} {Ls st : List Value} {h : AH} : ev L xs mdL_law 1089 (v0 :: v1 :: v2 :: .ref x :: Ls) (st) h = ev L xs mdL_law 1090 (v0 :: v1 :: v2 :: .ref x :: Ls) (.ref x :: st) (h) := e_aload_n dL_law_1089 rfl
theorem iL_law_1090 {p0 : Nat} {p1 : Int32} {p2 : Int32} {p3 : Nat} {Ls st : List Value} {h : AH} (hw : wds st ≤ 8) : ev L xs mdL_law 1090 Ls (.ref p3 :: .int p2 :: .int p1 :: .ref p0 :: st) h = kn L xs mdL_law 1090 1093 Ls st (ev L xs mdL_open 0 [.ref p0, .int p1, .int p2, .ref p3, .null] [] h) := e_callS (as := [.ref p3, .int p2, .int p1, .ref p0]) dL_law_1090 mr_8_139 (by decide) (by decide) rfl (by simp [wds, Value.category]; decide) rfl hw
theorem iL_law_1093 {v0 : Value} {v1 : Value} {v2 : Value} {v3 : Value} {v4 : Value} {v5 : Value} {x : Int32} {Ls st : List Value} {h : AH} (hc9 : v4.category = 1) : ev L xs mdL_law 1093 (v0 :: v1 :: v2 :: v3 :: v4 :: v5 :: Ls) (.int x :: st) h = ev L xs mdL_law 1095 (v0 :: v1 :: v2 :: v3 :: v4 :: .int x :: Ls) (st) (h) := e_istore dL_law_1093 rfl (by decide) (by unfold catOK; show (_ || (v4.category == 1)) = true; rw [hc9]; rfl)
theorem iL_law_1095 {v0 : Value} {v1 : Value} {x : Nat} {Ls st : List Value} {h : AH} : ev L xs mdL_law 1095 (v0 :: v1 :: .ref x :: Ls) (st) h = ev L xs mdL_law 1096 (v0 :: v1 :: .ref x :: Ls) (.ref x :: st) (h) := e_aload_n dL_law_1095 rfl
theorem iL_law_1096 {x : Nat} {Ls st : List Value} {h : AH} : ev L xs mdL_law 1096 (.retAddr x :: Ls) (st) h = ev L xs mdL_law 1097 (.retAddr x :: Ls) (.retAddr x :: st) (h) := e_sload_n dL_law_1096 rfl
theorem iL_law_1097 {v0 : Value} {v1 : Value} {v2 : Value} {v3 : Value} {x : Int32} {Ls st : List Value} {h : AH} : ev L xs mdL_law 1097 (v0 :: v1 :: v2 :: v3 :: .int x :: Ls) (st) h = ev L xs mdL_law 1099 (v0 :: v1 :: v2 :: v3 :: .int x :: Ls) (.int x :: st) (h) := e_iload dL_law_1097 rfl
theorem iL_law_1099  {Ls st : List Value} {h : AH} : ev L xs mdL_law 1099 (Ls) (st) h = ev L xs mdL_law 1100 (Ls) (.int (nI 1) :: st) (h) := e_iconst dL_law_1099 (by decide)
theorem iL_law_1100 {x z : Int32} {Ls st : List Value} {h : AH} : ev L xs mdL_law 1100 (Ls) (.int z :: .int x :: st) h = ev L xs mdL_law 1101 (Ls) (.int (x + z) :: st) (h) := e_iadd dL_law_1100
theorem iL_law_1101 {z : Nat} {j : Int32} {Ls st : List Value} {h : AH} (hi : inA j L = true) : ev L xs mdL_law 1101 (Ls) (.int j :: .retAddr z :: st) h = ev L xs mdL_law 1102 (Ls) (.int (xs j.toNatClampNeg) :: st) (h) := e_sald dL_law_1101 rfl hi
theorem iL_law_1102 {x : Nat} {Ls st : List Value} {h : AH} : ev L xs mdL_law 1102 (.retAddr x :: Ls) (st) h = ev L xs mdL_law 1103 (.retAddr x :: Ls) (.retAddr x :: st) (h) := e_sload_n dL_law_1102 rfl
theorem iL_law_1103 {v0 : Value} {v1 : Value} {v2 : Value} {v3 : Value} {x : Int32} {Ls st : List Value} {h : AH} : ev L xs mdL_law 1103 (v0 :: v1 :: v2 :: v3 :: .int x :: Ls) (st) h = ev L xs mdL_law 1105 (v0 :: v1 :: v2 :: v3 :: .int x :: Ls) (.int x :: st) (h) := e_iload dL_law_1103 rfl
theorem iL_law_1105  {Ls st : List Value} {h : AH} : ev L xs mdL_law 1105 (Ls) (st) h = ev L xs mdL_law 1106 (Ls) (.int (nI 2) :: st) (h) := e_iconst dL_law_1105 (by decide)
theorem iL_law_1106 {x z : Int32} {Ls st : List Value} {h : AH} : ev L xs mdL_law 1106 (Ls) (.int z :: .int x :: st) h = ev L xs mdL_law 1107 (Ls) (.int (x + z) :: st) (h) := e_iadd dL_law_1106
theorem iL_law_1107 {z : Nat} {j : Int32} {Ls st : List Value} {h : AH} (hi : inA j L = true) : ev L xs mdL_law 1107 (Ls) (.int j :: .retAddr z :: st) h = ev L xs mdL_law 1108 (Ls) (.int (xs j.toNatClampNeg) :: st) (h) := e_sald dL_law_1107 rfl hi
theorem iL_law_1108 {a : Nat} {p0 : Int32} {p1 : Int32} {Ls st : List Value} {h : AH} (hk : hK h a = 7) (hw : wds st ≤ 8) : ev L xs mdL_law 1108 Ls (.int p1 :: .int p0 :: .ref a :: st) h = kn L xs mdL_law 1108 1111 Ls st (ev L xs mdX7_open 0 [.ref a, .int p0, .int p1] [] h) := e_callV (as := [.int p1, .int p0]) dL_law_1108 mr_8_141 (by decide) (by decide) rfl (by simp [wds, Value.category]; decide) rfl (by decide) hk hw
theorem iL_law_1111 {v0 : Value} {v1 : Value} {v2 : Value} {v3 : Value} {v4 : Value} {v5 : Value} {v6 : Value} {x : Int32} {Ls st : List Value} {h : AH} (hc9 : v5.category = 1) : ev L xs mdL_law 1111 (v0 :: v1 :: v2 :: v3 :: v4 :: v5 :: v6 :: Ls) (.int x :: st) h = ev L xs mdL_law 1113 (v0 :: v1 :: v2 :: v3 :: v4 :: v5 :: .int x :: Ls) (st) (h) := e_istore dL_law_1111 rfl (by decide) (by unfold catOK; show (_ || (v5.category == 1)) = true; rw [hc9]; rfl)
theorem iL_law_1113 {v0 : Value} {v1 : Value} {x : Nat} {Ls st : List Value} {h : AH} : ev L xs mdL_law 1113 (v0 :: v1 :: .ref x :: Ls) (st) h = ev L xs mdL_law 1114 (v0 :: v1 :: .ref x :: Ls) (.ref x :: st) (h) := e_aload_n dL_law_1113 rfl
theorem iL_law_1114 {a : Nat} {Ls st : List Value} {h : AH} (hk : hK h a = 7) (hw : wds st ≤ 8) : ev L xs mdL_law 1114 Ls (.ref a :: st) h = kn L xs mdL_law 1114 1117 Ls st (ev L xs mdX7_thrown 0 [.ref a] [] h) := e_callV (as := []) dL_law_1114 mr_8_93 (by decide) (by decide) rfl (by simp [wds, Value.category]; decide) rfl (by decide) hk hw
theorem iL_law_1117 {v0 : Value} {v1 : Value} {v2 : Value} {v3 : Value} {v4 : Value} {x : Int32} {Ls st : List Value} {h : AH} : ev L xs mdL_law 1117 (v0 :: v1 :: v2 :: v3 :: v4 :: .int x :: Ls) (st) h = ev L xs mdL_law 1119 (v0 :: v1 :: v2 :: v3 :: v4 :: .int x :: Ls) (.int x :: st) (h) := e_iload dL_law_1117 rfl
theorem iL_law_1119 {x z : Int32} {Ls st : List Value} {h : AH} : ev L xs mdL_law 1119 Ls (.int z :: .int x :: st) h = if x = z then ev L xs mdL_law 1124 Ls st h else ev L xs mdL_law 1122 Ls st h := e_ic_eq dL_law_1119 (by decide)
theorem iL_law_1122  {Ls st : List Value} {h : AH} : ev L xs mdL_law 1122 (Ls) (st) h = ev L xs mdL_law 1123 (Ls) (.int (nI 0) :: st) (h) := e_iconst dL_law_1122 (by decide)
theorem iL_law_1123 {v : Int32} {Ls : List Value} {h : AH} (hv : v = nI 0 ∨ v = nI 1) : ev L xs mdL_law 1123 Ls [.int v] h = some (.inl (some (.int v), h)) := e_zret dL_law_1123 rfl hv
theorem iL_law_1124 {v0 : Value} {v1 : Value} {v2 : Value} {v3 : Value} {v4 : Value} {x : Int32} {Ls st : List Value} {h : AH} : ev L xs mdL_law 1124 (v0 :: v1 :: v2 :: v3 :: v4 :: .int x :: Ls) (st) h = ev L xs mdL_law 1126 (v0 :: v1 :: v2 :: v3 :: v4 :: .int x :: Ls) (.int x :: st) (h) := e_iload dL_law_1124 rfl
theorem iL_law_1126 {x : Int32} {Ls st : List Value} {h : AH} : ev L xs mdL_law 1126 Ls (.int x :: st) h = if x = nI 0 then ev L xs mdL_law 1129 Ls st h else ev L xs mdL_law 1141 Ls st h := e_if_ne dL_law_1126 (by decide)
theorem iL_law_1129 {v0 : Value} {v1 : Value} {v2 : Value} {x : Nat} {Ls st : List Value} {h : AH} : ev L xs mdL_law 1129 (v0 :: v1 :: v2 :: .ref x :: Ls) (st) h = ev L xs mdL_law 1130 (v0 :: v1 :: v2 :: .ref x :: Ls) (.ref x :: st) (h) := e_aload_n dL_law_1129 rfl
theorem iL_law_1130  {Ls st : List Value} {h : AH} : ev L xs mdL_law 1130 (Ls) (st) h = ev L xs mdL_law 1131 (Ls) (.int (nI 0) :: st) (h) := e_iconst dL_law_1130 (by decide)
theorem iL_law_1131 {a : Nat} {j : Int32} {Ls st : List Value} {h : AH} (hk : hK h a = 12) (hi : inA j (hN h a) = true) : ev L xs mdL_law 1131 (Ls) (.int j :: .ref a :: st) h = ev L xs mdL_law 1132 (Ls) (.long (hL h a j.toNatClampNeg) :: st) (h) := e_lald dL_law_1131 hk hi
theorem iL_law_1132 {v0 : Value} {v1 : Value} {v2 : Value} {v3 : Value} {v4 : Value} {v5 : Value} {x : Int32} {Ls st : List Value} {h : AH} : ev L xs mdL_law 1132 (v0 :: v1 :: v2 :: v3 :: v4 :: v5 :: .int x :: Ls) (st) h = ev L xs mdL_law 1134 (v0 :: v1 :: v2 :: v3 :: v4 :: v5 :: .int x :: Ls) (.int x :: st) (h) := e_iload dL_law_1132 rfl
theorem iL_law_1134 {x : Int32} {Ls st : List Value} {h : AH} : ev L xs mdL_law 1134 (Ls) (.int x :: st) h = ev L xs mdL_law 1135 (Ls) (.long x.toInt64 :: st) (h) := e_i2l dL_law_1134
theorem iL_law_1135 {x z : Int64} {Ls st : List Value} {h : AH} : ev L xs mdL_law 1135 (Ls) (.long z :: .long x :: st) h = ev L xs mdL_law 1136 (Ls) (.int (lg_cmp x z) :: st) (h) := e_lcmp dL_law_1135
theorem iL_law_1136 {x : Int32} {Ls st : List Value} {h : AH} : ev L xs mdL_law 1136 Ls (.int x :: st) h = if x = nI 0 then ev L xs mdL_law 1141 Ls st h else ev L xs mdL_law 1139 Ls st h := e_if_eq dL_law_1136 (by decide)
theorem iL_law_1139  {Ls st : List Value} {h : AH} : ev L xs mdL_law 1139 (Ls) (st) h = ev L xs mdL_law 1140 (Ls) (.int (nI 0) :: st) (h) := e_iconst dL_law_1139 (by decide)
theorem iL_law_1140 {v : Int32} {Ls : List Value} {h : AH} (hv : v = nI 0 ∨ v = nI 1) : ev L xs mdL_law 1140 Ls [.int v] h = some (.inl (some (.int v), h)) := e_zret dL_law_1140 rfl hv
theorem iL_law_1141  {Ls st : List Value} {h : AH} : ev L xs mdL_law 1141 (Ls) (st) h = ev L xs mdL_law 1622 (Ls) (st) (h) := e_goto dL_law_1141 (by decide)
theorem iL_law_1144 {v0 : Value} {x : Nat} {Ls st : List Value} {h : AH} : ev L xs mdL_law 1144 (v0 :: .ref x :: Ls) (st) h = ev L xs mdL_law 1145 (v0 :: .ref x :: Ls) (.ref x :: st) (h) := e_aload_n dL_law_1144 rfl
theorem iL_law_1145 {x : Nat} {Ls st : List Value} {h : AH} : ev L xs mdL_law 1145 (.retAddr x :: Ls) (st) h = ev L xs mdL_law 1146 (.retAddr x :: Ls) (.retAddr x :: st) (h) := e_sload_n dL_law_1145 rfl
theorem iL_law_1146 {v0 : Value} {v1 : Value} {v2 : Value} {v3 : Value} {x : Int32} {Ls st : List Value} {h : AH} : ev L xs mdL_law 1146 (v0 :: v1 :: v2 :: v3 :: .int x :: Ls) (st) h = ev L xs mdL_law 1148 (v0 :: v1 :: v2 :: v3 :: .int x :: Ls) (.int x :: st) (h) := e_iload dL_law_1146 rfl
theorem iL_law_1148  {Ls st : List Value} {h : AH} : ev L xs mdL_law 1148 (Ls) (st) h = ev L xs mdL_law 1149 (Ls) (.int (nI 1) :: st) (h) := e_iconst dL_law_1148 (by decide)
theorem iL_law_1149 {x z : Int32} {Ls st : List Value} {h : AH} : ev L xs mdL_law 1149 (Ls) (.int z :: .int x :: st) h = ev L xs mdL_law 1150 (Ls) (.int (x + z) :: st) (h) := e_iadd dL_law_1149
theorem iL_law_1150 {z : Nat} {j : Int32} {Ls st : List Value} {h : AH} (hi : inA j L = true) : ev L xs mdL_law 1150 (Ls) (.int j :: .retAddr z :: st) h = ev L xs mdL_law 1151 (Ls) (.int (xs j.toNatClampNeg) :: st) (h) := e_sald dL_law_1150 rfl hi
theorem iL_law_1151 {x : Nat} {Ls st : List Value} {h : AH} : ev L xs mdL_law 1151 (.retAddr x :: Ls) (st) h = ev L xs mdL_law 1152 (.retAddr x :: Ls) (.retAddr x :: st) (h) := e_sload_n dL_law_1151 rfl
theorem iL_law_1152 {v0 : Value} {v1 : Value} {v2 : Value} {v3 : Value} {x : Int32} {Ls st : List Value} {h : AH} : ev L xs mdL_law 1152 (v0 :: v1 :: v2 :: v3 :: .int x :: Ls) (st) h = ev L xs mdL_law 1154 (v0 :: v1 :: v2 :: v3 :: .int x :: Ls) (.int x :: st) (h) := e_iload dL_law_1152 rfl
theorem iL_law_1154  {Ls st : List Value} {h : AH} : ev L xs mdL_law 1154 (Ls) (st) h = ev L xs mdL_law 1155 (Ls) (.int (nI 2) :: st) (h) := e_iconst dL_law_1154 (by decide)
theorem iL_law_1155 {x z : Int32} {Ls st : List Value} {h : AH} : ev L xs mdL_law 1155 (Ls) (.int z :: .int x :: st) h = ev L xs mdL_law 1156 (Ls) (.int (x + z) :: st) (h) := e_iadd dL_law_1155
theorem iL_law_1156 {z : Nat} {j : Int32} {Ls st : List Value} {h : AH} (hi : inA j L = true) : ev L xs mdL_law 1156 (Ls) (.int j :: .retAddr z :: st) h = ev L xs mdL_law 1157 (Ls) (.int (xs j.toNatClampNeg) :: st) (h) := e_sald dL_law_1156 rfl hi
theorem iL_law_1157 {x : Nat} {Ls st : List Value} {h : AH} : ev L xs mdL_law 1157 (.retAddr x :: Ls) (st) h = ev L xs mdL_law 1158 (.retAddr x :: Ls) (.retAddr x :: st) (h) := e_sload_n dL_law_1157 rfl
theorem iL_law_1158 {v0 : Value} {v1 : Value} {v2 : Value} {v3 : Value} {x : Int32} {Ls st : List Value} {h : AH} : ev L xs mdL_law 1158 (v0 :: v1 :: v2 :: v3 :: .int x :: Ls) (st) h = ev L xs mdL_law 1160 (v0 :: v1 :: v2 :: v3 :: .int x :: Ls) (.int x :: st) (h) := e_iload dL_law_1158 rfl
theorem iL_law_1160  {Ls st : List Value} {h : AH} : ev L xs mdL_law 1160 (Ls) (st) h = ev L xs mdL_law 1161 (Ls) (.int (nI 3) :: st) (h) := e_iconst dL_law_1160 (by decide)
theorem iL_law_1161 {x z : Int32} {Ls st : List Value} {h : AH} : ev L xs mdL_law 1161 (Ls) (.int z :: .int x :: st) h = ev L xs mdL_law 1162 (Ls) (.int (x + z) :: st) (h) := e_iadd dL_law_1161
theorem iL_law_1162 {z : Nat} {j : Int32} {Ls st : List Value} {h : AH} (hi : inA j L = true) : ev L xs mdL_law 1162 (Ls) (.int j :: .retAddr z :: st) h = ev L xs mdL_law 1163 (Ls) (.int (xs j.toNatClampNeg) :: st) (h) := e_sald dL_law_1162 rfl hi
theorem iL_law_1163 {v0 : Value} {v1 : Value} {v2 : Value} {x : Nat} {Ls st : List Value} {h : AH} : ev L xs mdL_law 1163 (v0 :: v1 :: v2 :: .ref x :: Ls) (st) h = ev L xs mdL_law 1164 (v0 :: v1 :: v2 :: .ref x :: Ls) (.ref x :: st) (h) := e_aload_n dL_law_1163 rfl
theorem iL_law_1164 {p0 : Nat} {p1 : Int32} {p2 : Int32} {p3 : Int32} {p4 : Nat} {Ls st : List Value} {h : AH} (hw : wds st ≤ 8) : ev L xs mdL_law 1164 Ls (.ref p4 :: .int p3 :: .int p2 :: .int p1 :: .ref p0 :: st) h = kn L xs mdL_law 1164 1167 Ls st (ev L xs mdL_standing 0 [.ref p0, .int p1, .int p2, .int p3, .ref p4, .null] [] h) := e_callS (as := [.ref p4, .int p3, .int p2, .int p1, .ref p0]) dL_law_1164 mr_8_142 (by decide) (by decide) rfl (by simp [wds, Value.category]; decide) rfl hw
theorem iL_law_1167 {v0 : Value} {v1 : Value} {v2 : Value} {v3 : Value} {v4 : Value} {v5 : Value} {x : Int32} {Ls st : List Value} {h : AH} (hc9 : v4.category = 1) : ev L xs mdL_law 1167 (v0 :: v1 :: v2 :: v3 :: v4 :: v5 :: Ls) (.int x :: st) h = ev L xs mdL_law 1169 (v0 :: v1 :: v2 :: v3 :: v4 :: .int x :: Ls) (st) (h) := e_istore dL_law_1167 rfl (by decide) (by unfold catOK; show (_ || (v4.category == 1)) = true; rw [hc9]; rfl)
theorem iL_law_1169 {v0 : Value} {v1 : Value} {x : Nat} {Ls st : List Value} {h : AH} : ev L xs mdL_law 1169 (v0 :: v1 :: .ref x :: Ls) (st) h = ev L xs mdL_law 1170 (v0 :: v1 :: .ref x :: Ls) (.ref x :: st) (h) := e_aload_n dL_law_1169 rfl
theorem iL_law_1170 {x : Nat} {Ls st : List Value} {h : AH} : ev L xs mdL_law 1170 (.retAddr x :: Ls) (st) h = ev L xs mdL_law 1171 (.retAddr x :: Ls) (.retAddr x :: st) (h) := e_sload_n dL_law_1170 rfl
theorem iL_law_1171 {v0 : Value} {v1 : Value} {v2 : Value} {v3 : Value} {x : Int32} {Ls st : List Value} {h : AH} : ev L xs mdL_law 1171 (v0 :: v1 :: v2 :: v3 :: .int x :: Ls) (st) h = ev L xs mdL_law 1173 (v0 :: v1 :: v2 :: v3 :: .int x :: Ls) (.int x :: st) (h) := e_iload dL_law_1171 rfl
theorem iL_law_1173  {Ls st : List Value} {h : AH} : ev L xs mdL_law 1173 (Ls) (st) h = ev L xs mdL_law 1174 (Ls) (.int (nI 1) :: st) (h) := e_iconst dL_law_1173 (by decide)
theorem iL_law_1174 {x z : Int32} {Ls st : List Value} {h : AH} : ev L xs mdL_law 1174 (Ls) (.int z :: .int x :: st) h = ev L xs mdL_law 1175 (Ls) (.int (x + z) :: st) (h) := e_iadd dL_law_1174
theorem iL_law_1175 {z : Nat} {j : Int32} {Ls st : List Value} {h : AH} (hi : inA j L = true) : ev L xs mdL_law 1175 (Ls) (.int j :: .retAddr z :: st) h = ev L xs mdL_law 1176 (Ls) (.int (xs j.toNatClampNeg) :: st) (h) := e_sald dL_law_1175 rfl hi
theorem iL_law_1176 {x : Nat} {Ls st : List Value} {h : AH} : ev L xs mdL_law 1176 (.retAddr x :: Ls) (st) h = ev L xs mdL_law 1177 (.retAddr x :: Ls) (.retAddr x :: st) (h) := e_sload_n dL_law_1176 rfl
theorem iL_law_1177 {v0 : Value} {v1 : Value} {v2 : Value} {v3 : Value} {x : Int32} {Ls st : List Value} {h : AH} : ev L xs mdL_law 1177 (v0 :: v1 :: v2 :: v3 :: .int x :: Ls) (st) h = ev L xs mdL_law 1179 (v0 :: v1 :: v2 :: v3 :: .int x :: Ls) (.int x :: st) (h) := e_iload dL_law_1177 rfl
theorem iL_law_1179  {Ls st : List Value} {h : AH} : ev L xs mdL_law 1179 (Ls) (st) h = ev L xs mdL_law 1180 (Ls) (.int (nI 2) :: st) (h) := e_iconst dL_law_1179 (by decide)
theorem iL_law_1180 {x z : Int32} {Ls st : List Value} {h : AH} : ev L xs mdL_law 1180 (Ls) (.int z :: .int x :: st) h = ev L xs mdL_law 1181 (Ls) (.int (x + z) :: st) (h) := e_iadd dL_law_1180
theorem iL_law_1181 {z : Nat} {j : Int32} {Ls st : List Value} {h : AH} (hi : inA j L = true) : ev L xs mdL_law 1181 (Ls) (.int j :: .retAddr z :: st) h = ev L xs mdL_law 1182 (Ls) (.int (xs j.toNatClampNeg) :: st) (h) := e_sald dL_law_1181 rfl hi
theorem iL_law_1182 {x : Nat} {Ls st : List Value} {h : AH} : ev L xs mdL_law 1182 (.retAddr x :: Ls) (st) h = ev L xs mdL_law 1183 (.retAddr x :: Ls) (.retAddr x :: st) (h) := e_sload_n dL_law_1182 rfl
theorem iL_law_1183 {v0 : Value} {v1 : Value} {v2 : Value} {v3 : Value} {x : Int32} {Ls st : List Value} {h : AH} : ev L xs mdL_law 1183 (v0 :: v1 :: v2 :: v3 :: .int x :: Ls) (st) h = ev L xs mdL_law 1185 (v0 :: v1 :: v2 :: v3 :: .int x :: Ls) (.int x :: st) (h) := e_iload dL_law_1183 rfl
theorem iL_law_1185  {Ls st : List Value} {h : AH} : ev L xs mdL_law 1185 (Ls) (st) h = ev L xs mdL_law 1186 (Ls) (.int (nI 3) :: st) (h) := e_iconst dL_law_1185 (by decide)
theorem iL_law_1186 {x z : Int32} {Ls st : List Value} {h : AH} : ev L xs mdL_law 1186 (Ls) (.int z :: .int x :: st) h = ev L xs mdL_law 1187 (Ls) (.int (x + z) :: st) (h) := e_iadd dL_law_1186
theorem iL_law_1187 {z : Nat} {j : Int32} {Ls st : List Value} {h : AH} (hi : inA j L = true) : ev L xs mdL_law 1187 (Ls) (.int j :: .retAddr z :: st) h = ev L xs mdL_law 1188 (Ls) (.int (xs j.toNatClampNeg) :: st) (h) := e_sald dL_law_1187 rfl hi
theorem iL_law_1188 {a : Nat} {p0 : Int32} {p1 : Int32} {p2 : Int32} {Ls st : List Value} {h : AH} (hk : hK h a = 7) (hw : wds st ≤ 8) : ev L xs mdL_law 1188 Ls (.int p2 :: .int p1 :: .int p0 :: .ref a :: st) h = kn L xs mdL_law 1188 1191 Ls st (ev L xs mdX7_standing 0 [.ref a, .int p0, .int p1, .int p2, .null] [] h) := e_callV (as := [.int p2, .int p1, .int p0]) dL_law_1188 mr_8_144 (by decide) (by decide) rfl (by simp [wds, Value.category]; decide) rfl (by decide) hk hw
theorem iL_law_1191 {v0 : Value} {v1 : Value} {v2 : Value} {v3 : Value} {v4 : Value} {v5 : Value} {v6 : Value} {x : Int32} {Ls st : List Value} {h : AH} (hc9 : v5.category = 1) : ev L xs mdL_law 1191 (v0 :: v1 :: v2 :: v3 :: v4 :: v5 :: v6 :: Ls) (.int x :: st) h = ev L xs mdL_law 1193 (v0 :: v1 :: v2 :: v3 :: v4 :: v5 :: .int x :: Ls) (st) (h) := e_istore dL_law_1191 rfl (by decide) (by unfold catOK; show (_ || (v5.category == 1)) = true; rw [hc9]; rfl)
theorem iL_law_1193 {v0 : Value} {v1 : Value} {x : Nat} {Ls st : List Value} {h : AH} : ev L xs mdL_law 1193 (v0 :: v1 :: .ref x :: Ls) (st) h = ev L xs mdL_law 1194 (v0 :: v1 :: .ref x :: Ls) (.ref x :: st) (h) := e_aload_n dL_law_1193 rfl
theorem iL_law_1194 {a : Nat} {Ls st : List Value} {h : AH} (hk : hK h a = 7) (hw : wds st ≤ 8) : ev L xs mdL_law 1194 Ls (.ref a :: st) h = kn L xs mdL_law 1194 1197 Ls st (ev L xs mdX7_thrown 0 [.ref a] [] h) := e_callV (as := []) dL_law_1194 mr_8_93 (by decide) (by decide) rfl (by simp [wds, Value.category]; decide) rfl (by decide) hk hw
theorem iL_law_1197 {v0 : Value} {v1 : Value} {v2 : Value} {v3 : Value} {v4 : Value} {x : Int32} {Ls st : List Value} {h : AH} : ev L xs mdL_law 1197 (v0 :: v1 :: v2 :: v3 :: v4 :: .int x :: Ls) (st) h = ev L xs mdL_law 1199 (v0 :: v1 :: v2 :: v3 :: v4 :: .int x :: Ls) (.int x :: st) (h) := e_iload dL_law_1197 rfl
theorem iL_law_1199 {x z : Int32} {Ls st : List Value} {h : AH} : ev L xs mdL_law 1199 Ls (.int z :: .int x :: st) h = if x = z then ev L xs mdL_law 1204 Ls st h else ev L xs mdL_law 1202 Ls st h := e_ic_eq dL_law_1199 (by decide)
theorem iL_law_1202  {Ls st : List Value} {h : AH} : ev L xs mdL_law 1202 (Ls) (st) h = ev L xs mdL_law 1203 (Ls) (.int (nI 0) :: st) (h) := e_iconst dL_law_1202 (by decide)
theorem iL_law_1203 {v : Int32} {Ls : List Value} {h : AH} (hv : v = nI 0 ∨ v = nI 1) : ev L xs mdL_law 1203 Ls [.int v] h = some (.inl (some (.int v), h)) := e_zret dL_law_1203 rfl hv
theorem iL_law_1204 {v0 : Value} {v1 : Value} {v2 : Value} {v3 : Value} {v4 : Value} {x : Int32} {Ls st : List Value} {h : AH} : ev L xs mdL_law 1204 (v0 :: v1 :: v2 :: v3 :: v4 :: .int x :: Ls) (st) h = ev L xs mdL_law 1206 (v0 :: v1 :: v2 :: v3 :: v4 :: .int x :: Ls) (.int x :: st) (h) := e_iload dL_law_1204 rfl
theorem iL_law_1206 {x : Int32} {Ls st : List Value} {h : AH} : ev L xs mdL_law 1206 Ls (.int x :: st) h = if x = nI 0 then ev L xs mdL_law 1209 Ls st h else ev L xs mdL_law 1221 Ls st h := e_if_ne dL_law_1206 (by decide)
theorem iL_law_1209 {v0 : Value} {v1 : Value} {v2 : Value} {x : Nat} {Ls st : List Value} {h : AH} : ev L xs mdL_law 1209 (v0 :: v1 :: v2 :: .ref x :: Ls) (st) h = ev L xs mdL_law 1210 (v0 :: v1 :: v2 :: .ref x :: Ls) (.ref x :: st) (h) := e_aload_n dL_law_1209 rfl
theorem iL_law_1210  {Ls st : List Value} {h : AH} : ev L xs mdL_law 1210 (Ls) (st) h = ev L xs mdL_law 1211 (Ls) (.int (nI 0) :: st) (h) := e_iconst dL_law_1210 (by decide)
theorem iL_law_1211 {a : Nat} {j : Int32} {Ls st : List Value} {h : AH} (hk : hK h a = 12) (hi : inA j (hN h a) = true) : ev L xs mdL_law 1211 (Ls) (.int j :: .ref a :: st) h = ev L xs mdL_law 1212 (Ls) (.long (hL h a j.toNatClampNeg) :: st) (h) := e_lald dL_law_1211 hk hi
theorem iL_law_1212 {v0 : Value} {v1 : Value} {v2 : Value} {v3 : Value} {v4 : Value} {v5 : Value} {x : Int32} {Ls st : List Value} {h : AH} : ev L xs mdL_law 1212 (v0 :: v1 :: v2 :: v3 :: v4 :: v5 :: .int x :: Ls) (st) h = ev L xs mdL_law 1214 (v0 :: v1 :: v2 :: v3 :: v4 :: v5 :: .int x :: Ls) (.int x :: st) (h) := e_iload dL_law_1212 rfl
theorem iL_law_1214 {x : Int32} {Ls st : List Value} {h : AH} : ev L xs mdL_law 1214 (Ls) (.int x :: st) h = ev L xs mdL_law 1215 (Ls) (.long x.toInt64 :: st) (h) := e_i2l dL_law_1214
theorem iL_law_1215 {x z : Int64} {Ls st : List Value} {h : AH} : ev L xs mdL_law 1215 (Ls) (.long z :: .long x :: st) h = ev L xs mdL_law 1216 (Ls) (.int (lg_cmp x z) :: st) (h) := e_lcmp dL_law_1215
theorem iL_law_1216 {x : Int32} {Ls st : List Value} {h : AH} : ev L xs mdL_law 1216 Ls (.int x :: st) h = if x = nI 0 then ev L xs mdL_law 1221 Ls st h else ev L xs mdL_law 1219 Ls st h := e_if_eq dL_law_1216 (by decide)
theorem iL_law_1219  {Ls st : List Value} {h : AH} : ev L xs mdL_law 1219 (Ls) (st) h = ev L xs mdL_law 1220 (Ls) (.int (nI 0) :: st) (h) := e_iconst dL_law_1219 (by decide)
theorem iL_law_1220 {v : Int32} {Ls : List Value} {h : AH} (hv : v = nI 0 ∨ v = nI 1) : ev L xs mdL_law 1220 Ls [.int v] h = some (.inl (some (.int v), h)) := e_zret dL_law_1220 rfl hv
theorem iL_law_1221  {Ls st : List Value} {h : AH} : ev L xs mdL_law 1221 (Ls) (st) h = ev L xs mdL_law 1622 (Ls) (st) (h) := e_goto dL_law_1221 (by decide)
theorem iL_law_1224 {v0 : Value} {x : Nat} {Ls st : List Value} {h : AH} : ev L xs mdL_law 1224 (v0 :: .ref x :: Ls) (st) h = ev L xs mdL_law 1225 (v0 :: .ref x :: Ls) (.ref x :: st) (h) := e_aload_n dL_law_1224 rfl
theorem iL_law_1225 {x : Nat} {Ls st : List Value} {h : AH} : ev L xs mdL_law 1225 (.retAddr x :: Ls) (st) h = ev L xs mdL_law 1226 (.retAddr x :: Ls) (.retAddr x :: st) (h) := e_sload_n dL_law_1225 rfl
theorem iL_law_1226 {v0 : Value} {v1 : Value} {v2 : Value} {v3 : Value} {x : Int32} {Ls st : List Value} {h : AH} : ev L xs mdL_law 1226 (v0 :: v1 :: v2 :: v3 :: .int x :: Ls) (st) h = ev L xs mdL_law 1228 (v0 :: v1 :: v2 :: v3 :: .int x :: Ls) (.int x :: st) (h) := e_iload dL_law_1226 rfl
theorem iL_law_1228  {Ls st : List Value} {h : AH} : ev L xs mdL_law 1228 (Ls) (st) h = ev L xs mdL_law 1229 (Ls) (.int (nI 1) :: st) (h) := e_iconst dL_law_1228 (by decide)
theorem iL_law_1229 {x z : Int32} {Ls st : List Value} {h : AH} : ev L xs mdL_law 1229 (Ls) (.int z :: .int x :: st) h = ev L xs mdL_law 1230 (Ls) (.int (x + z) :: st) (h) := e_iadd dL_law_1229
theorem iL_law_1230 {z : Nat} {j : Int32} {Ls st : List Value} {h : AH} (hi : inA j L = true) : ev L xs mdL_law 1230 (Ls) (.int j :: .retAddr z :: st) h = ev L xs mdL_law 1231 (Ls) (.int (xs j.toNatClampNeg) :: st) (h) := e_sald dL_law_1230 rfl hi
theorem iL_law_1231 {x : Nat} {Ls st : List Value} {h : AH} : ev L xs mdL_law 1231 (.retAddr x :: Ls) (st) h = ev L xs mdL_law 1232 (.retAddr x :: Ls) (.retAddr x :: st) (h) := e_sload_n dL_law_1231 rfl
theorem iL_law_1232 {v0 : Value} {v1 : Value} {v2 : Value} {v3 : Value} {x : Int32} {Ls st : List Value} {h : AH} : ev L xs mdL_law 1232 (v0 :: v1 :: v2 :: v3 :: .int x :: Ls) (st) h = ev L xs mdL_law 1234 (v0 :: v1 :: v2 :: v3 :: .int x :: Ls) (.int x :: st) (h) := e_iload dL_law_1232 rfl
theorem iL_law_1234  {Ls st : List Value} {h : AH} : ev L xs mdL_law 1234 (Ls) (st) h = ev L xs mdL_law 1235 (Ls) (.int (nI 2) :: st) (h) := e_iconst dL_law_1234 (by decide)
theorem iL_law_1235 {x z : Int32} {Ls st : List Value} {h : AH} : ev L xs mdL_law 1235 (Ls) (.int z :: .int x :: st) h = ev L xs mdL_law 1236 (Ls) (.int (x + z) :: st) (h) := e_iadd dL_law_1235
theorem iL_law_1236 {z : Nat} {j : Int32} {Ls st : List Value} {h : AH} (hi : inA j L = true) : ev L xs mdL_law 1236 (Ls) (.int j :: .retAddr z :: st) h = ev L xs mdL_law 1237 (Ls) (.int (xs j.toNatClampNeg) :: st) (h) := e_sald dL_law_1236 rfl hi
theorem iL_law_1237 {x : Nat} {Ls st : List Value} {h : AH} : ev L xs mdL_law 1237 (.retAddr x :: Ls) (st) h = ev L xs mdL_law 1238 (.retAddr x :: Ls) (.retAddr x :: st) (h) := e_sload_n dL_law_1237 rfl
theorem iL_law_1238 {v0 : Value} {v1 : Value} {v2 : Value} {v3 : Value} {x : Int32} {Ls st : List Value} {h : AH} : ev L xs mdL_law 1238 (v0 :: v1 :: v2 :: v3 :: .int x :: Ls) (st) h = ev L xs mdL_law 1240 (v0 :: v1 :: v2 :: v3 :: .int x :: Ls) (.int x :: st) (h) := e_iload dL_law_1238 rfl
theorem iL_law_1240  {Ls st : List Value} {h : AH} : ev L xs mdL_law 1240 (Ls) (st) h = ev L xs mdL_law 1241 (Ls) (.int (nI 3) :: st) (h) := e_iconst dL_law_1240 (by decide)
theorem iL_law_1241 {x z : Int32} {Ls st : List Value} {h : AH} : ev L xs mdL_law 1241 (Ls) (.int z :: .int x :: st) h = ev L xs mdL_law 1242 (Ls) (.int (x + z) :: st) (h) := e_iadd dL_law_1241
theorem iL_law_1242 {z : Nat} {j : Int32} {Ls st : List Value} {h : AH} (hi : inA j L = true) : ev L xs mdL_law 1242 (Ls) (.int j :: .retAddr z :: st) h = ev L xs mdL_law 1243 (Ls) (.int (xs j.toNatClampNeg) :: st) (h) := e_sald dL_law_1242 rfl hi
theorem iL_law_1243 {v0 : Value} {v1 : Value} {v2 : Value} {x : Nat} {Ls st : List Value} {h : AH} : ev L xs mdL_law 1243 (v0 :: v1 :: v2 :: .ref x :: Ls) (st) h = ev L xs mdL_law 1244 (v0 :: v1 :: v2 :: .ref x :: Ls) (.ref x :: st) (h) := e_aload_n dL_law_1243 rfl
theorem iL_law_1244 {p0 : Nat} {p1 : Int32} {p2 : Int32} {p3 : Int32} {p4 : Nat} {Ls st : List Value} {h : AH} (hw : wds st ≤ 8) : ev L xs mdL_law 1244 Ls (.ref p4 :: .int p3 :: .int p2 :: .int p1 :: .ref p0 :: st) h = kn L xs mdL_law 1244 1247 Ls st (ev L xs mdL_best 0 [.ref p0, .int p1, .int p2, .int p3, .ref p4, .null] [] h) := e_callS (as := [.ref p4, .int p3, .int p2, .int p1, .ref p0]) dL_law_1244 mr_8_145 (by decide) (by decide) rfl (by simp [wds, Value.category]; decide) rfl hw
theorem iL_law_1247 {v0 : Value} {v1 : Value} {v2 : Value} {v3 : Value} {v4 : Value} {v5 : Value} {x : Int32} {Ls st : List Value} {h : AH} (hc9 : v4.category = 1) : ev L xs mdL_law 1247 (v0 :: v1 :: v2 :: v3 :: v4 :: v5 :: Ls) (.int x :: st) h = ev L xs mdL_law 1249 (v0 :: v1 :: v2 :: v3 :: v4 :: .int x :: Ls) (st) (h) := e_istore dL_law_1247 rfl (by decide) (by unfold catOK; show (_ || (v4.category == 1)) = true; rw [hc9]; rfl)
theorem iL_law_1249 {v0 : Value} {v1 : Value} {x : Nat} {Ls st : List Value} {h : AH} : ev L xs mdL_law 1249 (v0 :: v1 :: .ref x :: Ls) (st) h = ev L xs mdL_law 1250 (v0 :: v1 :: .ref x :: Ls) (.ref x :: st) (h) := e_aload_n dL_law_1249 rfl
theorem iL_law_1250 {x : Nat} {Ls st : List Value} {h : AH} : ev L xs mdL_law 1250 (.retAddr x :: Ls) (st) h = ev L xs mdL_law 1251 (.retAddr x :: Ls) (.retAddr x :: st) (h) := e_sload_n dL_law_1250 rfl
theorem iL_law_1251 {v0 : Value} {v1 : Value} {v2 : Value} {v3 : Value} {x : Int32} {Ls st : List Value} {h : AH} : ev L xs mdL_law 1251 (v0 :: v1 :: v2 :: v3 :: .int x :: Ls) (st) h = ev L xs mdL_law 1253 (v0 :: v1 :: v2 :: v3 :: .int x :: Ls) (.int x :: st) (h) := e_iload dL_law_1251 rfl
theorem iL_law_1253  {Ls st : List Value} {h : AH} : ev L xs mdL_law 1253 (Ls) (st) h = ev L xs mdL_law 1254 (Ls) (.int (nI 1) :: st) (h) := e_iconst dL_law_1253 (by decide)
theorem iL_law_1254 {x z : Int32} {Ls st : List Value} {h : AH} : ev L xs mdL_law 1254 (Ls) (.int z :: .int x :: st) h = ev L xs mdL_law 1255 (Ls) (.int (x + z) :: st) (h) := e_iadd dL_law_1254
theorem iL_law_1255 {z : Nat} {j : Int32} {Ls st : List Value} {h : AH} (hi : inA j L = true) : ev L xs mdL_law 1255 (Ls) (.int j :: .retAddr z :: st) h = ev L xs mdL_law 1256 (Ls) (.int (xs j.toNatClampNeg) :: st) (h) := e_sald dL_law_1255 rfl hi
theorem iL_law_1256 {x : Nat} {Ls st : List Value} {h : AH} : ev L xs mdL_law 1256 (.retAddr x :: Ls) (st) h = ev L xs mdL_law 1257 (.retAddr x :: Ls) (.retAddr x :: st) (h) := e_sload_n dL_law_1256 rfl
theorem iL_law_1257 {v0 : Value} {v1 : Value} {v2 : Value} {v3 : Value} {x : Int32} {Ls st : List Value} {h : AH} : ev L xs mdL_law 1257 (v0 :: v1 :: v2 :: v3 :: .int x :: Ls) (st) h = ev L xs mdL_law 1259 (v0 :: v1 :: v2 :: v3 :: .int x :: Ls) (.int x :: st) (h) := e_iload dL_law_1257 rfl
theorem iL_law_1259  {Ls st : List Value} {h : AH} : ev L xs mdL_law 1259 (Ls) (st) h = ev L xs mdL_law 1260 (Ls) (.int (nI 2) :: st) (h) := e_iconst dL_law_1259 (by decide)
theorem iL_law_1260 {x z : Int32} {Ls st : List Value} {h : AH} : ev L xs mdL_law 1260 (Ls) (.int z :: .int x :: st) h = ev L xs mdL_law 1261 (Ls) (.int (x + z) :: st) (h) := e_iadd dL_law_1260
theorem iL_law_1261 {z : Nat} {j : Int32} {Ls st : List Value} {h : AH} (hi : inA j L = true) : ev L xs mdL_law 1261 (Ls) (.int j :: .retAddr z :: st) h = ev L xs mdL_law 1262 (Ls) (.int (xs j.toNatClampNeg) :: st) (h) := e_sald dL_law_1261 rfl hi
theorem iL_law_1262 {x : Nat} {Ls st : List Value} {h : AH} : ev L xs mdL_law 1262 (.retAddr x :: Ls) (st) h = ev L xs mdL_law 1263 (.retAddr x :: Ls) (.retAddr x :: st) (h) := e_sload_n dL_law_1262 rfl
theorem iL_law_1263 {v0 : Value} {v1 : Value} {v2 : Value} {v3 : Value} {x : Int32} {Ls st : List Value} {h : AH} : ev L xs mdL_law 1263 (v0 :: v1 :: v2 :: v3 :: .int x :: Ls) (st) h = ev L xs mdL_law 1265 (v0 :: v1 :: v2 :: v3 :: .int x :: Ls) (.int x :: st) (h) := e_iload dL_law_1263 rfl
theorem iL_law_1265  {Ls st : List Value} {h : AH} : ev L xs mdL_law 1265 (Ls) (st) h = ev L xs mdL_law 1266 (Ls) (.int (nI 3) :: st) (h) := e_iconst dL_law_1265 (by decide)
theorem iL_law_1266 {x z : Int32} {Ls st : List Value} {h : AH} : ev L xs mdL_law 1266 (Ls) (.int z :: .int x :: st) h = ev L xs mdL_law 1267 (Ls) (.int (x + z) :: st) (h) := e_iadd dL_law_1266
theorem iL_law_1267 {z : Nat} {j : Int32} {Ls st : List Value} {h : AH} (hi : inA j L = true) : ev L xs mdL_law 1267 (Ls) (.int j :: .retAddr z :: st) h = ev L xs mdL_law 1268 (Ls) (.int (xs j.toNatClampNeg) :: st) (h) := e_sald dL_law_1267 rfl hi
theorem iL_law_1268 {a : Nat} {p0 : Int32} {p1 : Int32} {p2 : Int32} {Ls st : List Value} {h : AH} (hk : hK h a = 7) (hw : wds st ≤ 8) : ev L xs mdL_law 1268 Ls (.int p2 :: .int p1 :: .int p0 :: .ref a :: st) h = kn L xs mdL_law 1268 1271 Ls st (ev L xs mdX7_best 0 [.ref a, .int p0, .int p1, .int p2, .null, .null, .null, .null] [] h) := e_callV (as := [.int p2, .int p1, .int p0]) dL_law_1268 mr_8_147 (by decide) (by decide) rfl (by simp [wds, Value.category]; decide) rfl (by decide) hk hw
theorem iL_law_1271 {v0 : Value} {v1 : Value} {v2 : Value} {v3 : Value} {v4 : Value} {v5 : Value} {v6 : Value} {x : Int32} {Ls st : List Value} {h : AH} (hc9 : v5.category = 1) : ev L xs mdL_law 1271 (v0 :: v1 :: v2 :: v3 :: v4 :: v5 :: v6 :: Ls) (.int x :: st) h = ev L xs mdL_law 1273 (v0 :: v1 :: v2 :: v3 :: v4 :: v5 :: .int x :: Ls) (st) (h) := e_istore dL_law_1271 rfl (by decide) (by unfold catOK; show (_ || (v5.category == 1)) = true; rw [hc9]; rfl)
theorem iL_law_1273 {v0 : Value} {v1 : Value} {x : Nat} {Ls st : List Value} {h : AH} : ev L xs mdL_law 1273 (v0 :: v1 :: .ref x :: Ls) (st) h = ev L xs mdL_law 1274 (v0 :: v1 :: .ref x :: Ls) (.ref x :: st) (h) := e_aload_n dL_law_1273 rfl
theorem iL_law_1274 {a : Nat} {Ls st : List Value} {h : AH} (hk : hK h a = 7) (hw : wds st ≤ 8) : ev L xs mdL_law 1274 Ls (.ref a :: st) h = kn L xs mdL_law 1274 1277 Ls st (ev L xs mdX7_thrown 0 [.ref a] [] h) := e_callV (as := []) dL_law_1274 mr_8_93 (by decide) (by decide) rfl (by simp [wds, Value.category]; decide) rfl (by decide) hk hw
theorem iL_law_1277 {v0 : Value} {v1 : Value} {v2 : Value} {v3 : Value} {v4 : Value} {x : Int32} {Ls st : List Value} {h : AH} : ev L xs mdL_law 1277 (v0 :: v1 :: v2 :: v3 :: v4 :: .int x :: Ls) (st) h = ev L xs mdL_law 1279 (v0 :: v1 :: v2 :: v3 :: v4 :: .int x :: Ls) (.int x :: st) (h) := e_iload dL_law_1277 rfl
theorem iL_law_1279 {x z : Int32} {Ls st : List Value} {h : AH} : ev L xs mdL_law 1279 Ls (.int z :: .int x :: st) h = if x = z then ev L xs mdL_law 1284 Ls st h else ev L xs mdL_law 1282 Ls st h := e_ic_eq dL_law_1279 (by decide)
theorem iL_law_1282  {Ls st : List Value} {h : AH} : ev L xs mdL_law 1282 (Ls) (st) h = ev L xs mdL_law 1283 (Ls) (.int (nI 0) :: st) (h) := e_iconst dL_law_1282 (by decide)
theorem iL_law_1283 {v : Int32} {Ls : List Value} {h : AH} (hv : v = nI 0 ∨ v = nI 1) : ev L xs mdL_law 1283 Ls [.int v] h = some (.inl (some (.int v), h)) := e_zret dL_law_1283 rfl hv
theorem iL_law_1284 {v0 : Value} {v1 : Value} {v2 : Value} {v3 : Value} {v4 : Value} {x : Int32} {Ls st : List Value} {h : AH} : ev L xs mdL_law 1284 (v0 :: v1 :: v2 :: v3 :: v4 :: .int x :: Ls) (st) h = ev L xs mdL_law 1286 (v0 :: v1 :: v2 :: v3 :: v4 :: .int x :: Ls) (.int x :: st) (h) := e_iload dL_law_1284 rfl
theorem iL_law_1286 {x : Int32} {Ls st : List Value} {h : AH} : ev L xs mdL_law 1286 Ls (.int x :: st) h = if x = nI 0 then ev L xs mdL_law 1289 Ls st h else ev L xs mdL_law 1301 Ls st h := e_if_ne dL_law_1286 (by decide)
theorem iL_law_1289 {v0 : Value} {v1 : Value} {v2 : Value} {x : Nat} {Ls st : List Value} {h : AH} : ev L xs mdL_law 1289 (v0 :: v1 :: v2 :: .ref x :: Ls) (st) h = ev L xs mdL_law 1290 (v0 :: v1 :: v2 :: .ref x :: Ls) (.ref x :: st) (h) := e_aload_n dL_law_1289 rfl
theorem iL_law_1290  {Ls st : List Value} {h : AH} : ev L xs mdL_law 1290 (Ls) (st) h = ev L xs mdL_law 1291 (Ls) (.int (nI 0) :: st) (h) := e_iconst dL_law_1290 (by decide)
theorem iL_law_1291 {a : Nat} {j : Int32} {Ls st : List Value} {h : AH} (hk : hK h a = 12) (hi : inA j (hN h a) = true) : ev L xs mdL_law 1291 (Ls) (.int j :: .ref a :: st) h = ev L xs mdL_law 1292 (Ls) (.long (hL h a j.toNatClampNeg) :: st) (h) := e_lald dL_law_1291 hk hi
theorem iL_law_1292 {v0 : Value} {v1 : Value} {v2 : Value} {v3 : Value} {v4 : Value} {v5 : Value} {x : Int32} {Ls st : List Value} {h : AH} : ev L xs mdL_law 1292 (v0 :: v1 :: v2 :: v3 :: v4 :: v5 :: .int x :: Ls) (st) h = ev L xs mdL_law 1294 (v0 :: v1 :: v2 :: v3 :: v4 :: v5 :: .int x :: Ls) (.int x :: st) (h) := e_iload dL_law_1292 rfl
theorem iL_law_1294 {x : Int32} {Ls st : List Value} {h : AH} : ev L xs mdL_law 1294 (Ls) (.int x :: st) h = ev L xs mdL_law 1295 (Ls) (.long x.toInt64 :: st) (h) := e_i2l dL_law_1294
theorem iL_law_1295 {x z : Int64} {Ls st : List Value} {h : AH} : ev L xs mdL_law 1295 (Ls) (.long z :: .long x :: st) h = ev L xs mdL_law 1296 (Ls) (.int (lg_cmp x z) :: st) (h) := e_lcmp dL_law_1295
theorem iL_law_1296 {x : Int32} {Ls st : List Value} {h : AH} : ev L xs mdL_law 1296 Ls (.int x :: st) h = if x = nI 0 then ev L xs mdL_law 1301 Ls st h else ev L xs mdL_law 1299 Ls st h := e_if_eq dL_law_1296 (by decide)
theorem iL_law_1299  {Ls st : List Value} {h : AH} : ev L xs mdL_law 1299 (Ls) (st) h = ev L xs mdL_law 1300 (Ls) (.int (nI 0) :: st) (h) := e_iconst dL_law_1299 (by decide)
theorem iL_law_1300 {v : Int32} {Ls : List Value} {h : AH} (hv : v = nI 0 ∨ v = nI 1) : ev L xs mdL_law 1300 Ls [.int v] h = some (.inl (some (.int v), h)) := e_zret dL_law_1300 rfl hv
theorem iL_law_1301  {Ls st : List Value} {h : AH} : ev L xs mdL_law 1301 (Ls) (st) h = ev L xs mdL_law 1622 (Ls) (st) (h) := e_goto dL_law_1301 (by decide)
theorem iL_law_1304 {v0 : Value} {x : Nat} {Ls st : List Value} {h : AH} : ev L xs mdL_law 1304 (v0 :: .ref x :: Ls) (st) h = ev L xs mdL_law 1305 (v0 :: .ref x :: Ls) (.ref x :: st) (h) := e_aload_n dL_law_1304 rfl
theorem iL_law_1305 {x : Nat} {Ls st : List Value} {h : AH} : ev L xs mdL_law 1305 (.retAddr x :: Ls) (st) h = ev L xs mdL_law 1306 (.retAddr x :: Ls) (.retAddr x :: st) (h) := e_sload_n dL_law_1305 rfl
theorem iL_law_1306 {v0 : Value} {v1 : Value} {v2 : Value} {v3 : Value} {x : Int32} {Ls st : List Value} {h : AH} : ev L xs mdL_law 1306 (v0 :: v1 :: v2 :: v3 :: .int x :: Ls) (st) h = ev L xs mdL_law 1308 (v0 :: v1 :: v2 :: v3 :: .int x :: Ls) (.int x :: st) (h) := e_iload dL_law_1306 rfl
theorem iL_law_1308  {Ls st : List Value} {h : AH} : ev L xs mdL_law 1308 (Ls) (st) h = ev L xs mdL_law 1309 (Ls) (.int (nI 1) :: st) (h) := e_iconst dL_law_1308 (by decide)
theorem iL_law_1309 {x z : Int32} {Ls st : List Value} {h : AH} : ev L xs mdL_law 1309 (Ls) (.int z :: .int x :: st) h = ev L xs mdL_law 1310 (Ls) (.int (x + z) :: st) (h) := e_iadd dL_law_1309
theorem iL_law_1310 {z : Nat} {j : Int32} {Ls st : List Value} {h : AH} (hi : inA j L = true) : ev L xs mdL_law 1310 (Ls) (.int j :: .retAddr z :: st) h = ev L xs mdL_law 1311 (Ls) (.int (xs j.toNatClampNeg) :: st) (h) := e_sald dL_law_1310 rfl hi
theorem iL_law_1311 {x : Nat} {Ls st : List Value} {h : AH} : ev L xs mdL_law 1311 (.retAddr x :: Ls) (st) h = ev L xs mdL_law 1312 (.retAddr x :: Ls) (.retAddr x :: st) (h) := e_sload_n dL_law_1311 rfl
theorem iL_law_1312 {v0 : Value} {v1 : Value} {v2 : Value} {v3 : Value} {x : Int32} {Ls st : List Value} {h : AH} : ev L xs mdL_law 1312 (v0 :: v1 :: v2 :: v3 :: .int x :: Ls) (st) h = ev L xs mdL_law 1314 (v0 :: v1 :: v2 :: v3 :: .int x :: Ls) (.int x :: st) (h) := e_iload dL_law_1312 rfl
theorem iL_law_1314  {Ls st : List Value} {h : AH} : ev L xs mdL_law 1314 (Ls) (st) h = ev L xs mdL_law 1315 (Ls) (.int (nI 2) :: st) (h) := e_iconst dL_law_1314 (by decide)
theorem iL_law_1315 {x z : Int32} {Ls st : List Value} {h : AH} : ev L xs mdL_law 1315 (Ls) (.int z :: .int x :: st) h = ev L xs mdL_law 1316 (Ls) (.int (x + z) :: st) (h) := e_iadd dL_law_1315
theorem iL_law_1316 {z : Nat} {j : Int32} {Ls st : List Value} {h : AH} (hi : inA j L = true) : ev L xs mdL_law 1316 (Ls) (.int j :: .retAddr z :: st) h = ev L xs mdL_law 1317 (Ls) (.int (xs j.toNatClampNeg) :: st) (h) := e_sald dL_law_1316 rfl hi
theorem iL_law_1317 {v0 : Value} {v1 : Value} {v2 : Value} {x : Nat} {Ls st : List Value} {h : AH} : ev L xs mdL_law 1317 (v0 :: v1 :: v2 :: .ref x :: Ls) (st) h = ev L xs mdL_law 1318 (v0 :: v1 :: v2 :: .ref x :: Ls) (.ref x :: st) (h) := e_aload_n dL_law_1317 rfl
theorem iL_law_1318 {p0 : Nat} {p1 : Int32} {p2 : Int32} {p3 : Nat} {Ls st : List Value} {h : AH} (hw : wds st ≤ 8) : ev L xs mdL_law 1318 Ls (.ref p3 :: .int p2 :: .int p1 :: .ref p0 :: st) h = kn L xs mdL_law 1318 1321 Ls st (ev L xs mdL_missed 0 [.ref p0, .int p1, .int p2, .ref p3, .null] [] h) := e_callS (as := [.ref p3, .int p2, .int p1, .ref p0]) dL_law_1318 mr_8_148 (by decide) (by decide) rfl (by simp [wds, Value.category]; decide) rfl hw
theorem iL_law_1321 {v0 : Value} {v1 : Value} {v2 : Value} {v3 : Value} {v4 : Value} {v5 : Value} {x : Int32} {Ls st : List Value} {h : AH} (hc9 : v4.category = 1) : ev L xs mdL_law 1321 (v0 :: v1 :: v2 :: v3 :: v4 :: v5 :: Ls) (.int x :: st) h = ev L xs mdL_law 1323 (v0 :: v1 :: v2 :: v3 :: v4 :: .int x :: Ls) (st) (h) := e_istore dL_law_1321 rfl (by decide) (by unfold catOK; show (_ || (v4.category == 1)) = true; rw [hc9]; rfl)
theorem iL_law_1323 {v0 : Value} {v1 : Value} {x : Nat} {Ls st : List Value} {h : AH} : ev L xs mdL_law 1323 (v0 :: v1 :: .ref x :: Ls) (st) h = ev L xs mdL_law 1324 (v0 :: v1 :: .ref x :: Ls) (.ref x :: st) (h) := e_aload_n dL_law_1323 rfl
theorem iL_law_1324 {x : Nat} {Ls st : List Value} {h : AH} : ev L xs mdL_law 1324 (.retAddr x :: Ls) (st) h = ev L xs mdL_law 1325 (.retAddr x :: Ls) (.retAddr x :: st) (h) := e_sload_n dL_law_1324 rfl
theorem iL_law_1325 {v0 : Value} {v1 : Value} {v2 : Value} {v3 : Value} {x : Int32} {Ls st : List Value} {h : AH} : ev L xs mdL_law 1325 (v0 :: v1 :: v2 :: v3 :: .int x :: Ls) (st) h = ev L xs mdL_law 1327 (v0 :: v1 :: v2 :: v3 :: .int x :: Ls) (.int x :: st) (h) := e_iload dL_law_1325 rfl
theorem iL_law_1327  {Ls st : List Value} {h : AH} : ev L xs mdL_law 1327 (Ls) (st) h = ev L xs mdL_law 1328 (Ls) (.int (nI 1) :: st) (h) := e_iconst dL_law_1327 (by decide)
theorem iL_law_1328 {x z : Int32} {Ls st : List Value} {h : AH} : ev L xs mdL_law 1328 (Ls) (.int z :: .int x :: st) h = ev L xs mdL_law 1329 (Ls) (.int (x + z) :: st) (h) := e_iadd dL_law_1328
theorem iL_law_1329 {z : Nat} {j : Int32} {Ls st : List Value} {h : AH} (hi : inA j L = true) : ev L xs mdL_law 1329 (Ls) (.int j :: .retAddr z :: st) h = ev L xs mdL_law 1330 (Ls) (.int (xs j.toNatClampNeg) :: st) (h) := e_sald dL_law_1329 rfl hi
theorem iL_law_1330 {x : Nat} {Ls st : List Value} {h : AH} : ev L xs mdL_law 1330 (.retAddr x :: Ls) (st) h = ev L xs mdL_law 1331 (.retAddr x :: Ls) (.retAddr x :: st) (h) := e_sload_n dL_law_1330 rfl
theorem iL_law_1331 {v0 : Value} {v1 : Value} {v2 : Value} {v3 : Value} {x : Int32} {Ls st : List Value} {h : AH} : ev L xs mdL_law 1331 (v0 :: v1 :: v2 :: v3 :: .int x :: Ls) (st) h = ev L xs mdL_law 1333 (v0 :: v1 :: v2 :: v3 :: .int x :: Ls) (.int x :: st) (h) := e_iload dL_law_1331 rfl
theorem iL_law_1333  {Ls st : List Value} {h : AH} : ev L xs mdL_law 1333 (Ls) (st) h = ev L xs mdL_law 1334 (Ls) (.int (nI 2) :: st) (h) := e_iconst dL_law_1333 (by decide)
theorem iL_law_1334 {x z : Int32} {Ls st : List Value} {h : AH} : ev L xs mdL_law 1334 (Ls) (.int z :: .int x :: st) h = ev L xs mdL_law 1335 (Ls) (.int (x + z) :: st) (h) := e_iadd dL_law_1334
theorem iL_law_1335 {z : Nat} {j : Int32} {Ls st : List Value} {h : AH} (hi : inA j L = true) : ev L xs mdL_law 1335 (Ls) (.int j :: .retAddr z :: st) h = ev L xs mdL_law 1336 (Ls) (.int (xs j.toNatClampNeg) :: st) (h) := e_sald dL_law_1335 rfl hi
theorem iL_law_1336 {a : Nat} {p0 : Int32} {p1 : Int32} {Ls st : List Value} {h : AH} (hk : hK h a = 7) (hw : wds st ≤ 8) : ev L xs mdL_law 1336 Ls (.int p1 :: .int p0 :: .ref a :: st) h = kn L xs mdL_law 1336 1339 Ls st (ev L xs mdX7_missed 0 [.ref a, .int p0, .int p1, .null, .null] [] h) := e_callV (as := [.int p1, .int p0]) dL_law_1336 mr_8_150 (by decide) (by decide) rfl (by simp [wds, Value.category]; decide) rfl (by decide) hk hw
theorem iL_law_1339 {v0 : Value} {v1 : Value} {v2 : Value} {v3 : Value} {v4 : Value} {v5 : Value} {v6 : Value} {x : Int32} {Ls st : List Value} {h : AH} (hc9 : v5.category = 1) : ev L xs mdL_law 1339 (v0 :: v1 :: v2 :: v3 :: v4 :: v5 :: v6 :: Ls) (.int x :: st) h = ev L xs mdL_law 1341 (v0 :: v1 :: v2 :: v3 :: v4 :: v5 :: .int x :: Ls) (st) (h) := e_istore dL_law_1339 rfl (by decide) (by unfold catOK; show (_ || (v5.category == 1)) = true; rw [hc9]; rfl)
theorem iL_law_1341 {v0 : Value} {v1 : Value} {x : Nat} {Ls st : List Value} {h : AH} : ev L xs mdL_law 1341 (v0 :: v1 :: .ref x :: Ls) (st) h = ev L xs mdL_law 1342 (v0 :: v1 :: .ref x :: Ls) (.ref x :: st) (h) := e_aload_n dL_law_1341 rfl
theorem iL_law_1342 {a : Nat} {Ls st : List Value} {h : AH} (hk : hK h a = 7) (hw : wds st ≤ 8) : ev L xs mdL_law 1342 Ls (.ref a :: st) h = kn L xs mdL_law 1342 1345 Ls st (ev L xs mdX7_thrown 0 [.ref a] [] h) := e_callV (as := []) dL_law_1342 mr_8_93 (by decide) (by decide) rfl (by simp [wds, Value.category]; decide) rfl (by decide) hk hw
theorem iL_law_1345 {v0 : Value} {v1 : Value} {v2 : Value} {v3 : Value} {v4 : Value} {x : Int32} {Ls st : List Value} {h : AH} : ev L xs mdL_law 1345 (v0 :: v1 :: v2 :: v3 :: v4 :: .int x :: Ls) (st) h = ev L xs mdL_law 1347 (v0 :: v1 :: v2 :: v3 :: v4 :: .int x :: Ls) (.int x :: st) (h) := e_iload dL_law_1345 rfl
theorem iL_law_1347 {x z : Int32} {Ls st : List Value} {h : AH} : ev L xs mdL_law 1347 Ls (.int z :: .int x :: st) h = if x = z then ev L xs mdL_law 1352 Ls st h else ev L xs mdL_law 1350 Ls st h := e_ic_eq dL_law_1347 (by decide)
theorem iL_law_1350  {Ls st : List Value} {h : AH} : ev L xs mdL_law 1350 (Ls) (st) h = ev L xs mdL_law 1351 (Ls) (.int (nI 0) :: st) (h) := e_iconst dL_law_1350 (by decide)
theorem iL_law_1351 {v : Int32} {Ls : List Value} {h : AH} (hv : v = nI 0 ∨ v = nI 1) : ev L xs mdL_law 1351 Ls [.int v] h = some (.inl (some (.int v), h)) := e_zret dL_law_1351 rfl hv
theorem iL_law_1352 {v0 : Value} {v1 : Value} {v2 : Value} {v3 : Value} {v4 : Value} {x : Int32} {Ls st : List Value} {h : AH} : ev L xs mdL_law 1352 (v0 :: v1 :: v2 :: v3 :: v4 :: .int x :: Ls) (st) h = ev L xs mdL_law 1354 (v0 :: v1 :: v2 :: v3 :: v4 :: .int x :: Ls) (.int x :: st) (h) := e_iload dL_law_1352 rfl
theorem iL_law_1354 {x : Int32} {Ls st : List Value} {h : AH} : ev L xs mdL_law 1354 Ls (.int x :: st) h = if x = nI 0 then ev L xs mdL_law 1357 Ls st h else ev L xs mdL_law 1369 Ls st h := e_if_ne dL_law_1354 (by decide)
theorem iL_law_1357 {v0 : Value} {v1 : Value} {v2 : Value} {x : Nat} {Ls st : List Value} {h : AH} : ev L xs mdL_law 1357 (v0 :: v1 :: v2 :: .ref x :: Ls) (st) h = ev L xs mdL_law 1358 (v0 :: v1 :: v2 :: .ref x :: Ls) (.ref x :: st) (h) := e_aload_n dL_law_1357 rfl
theorem iL_law_1358  {Ls st : List Value} {h : AH} : ev L xs mdL_law 1358 (Ls) (st) h = ev L xs mdL_law 1359 (Ls) (.int (nI 0) :: st) (h) := e_iconst dL_law_1358 (by decide)
theorem iL_law_1359 {a : Nat} {j : Int32} {Ls st : List Value} {h : AH} (hk : hK h a = 12) (hi : inA j (hN h a) = true) : ev L xs mdL_law 1359 (Ls) (.int j :: .ref a :: st) h = ev L xs mdL_law 1360 (Ls) (.long (hL h a j.toNatClampNeg) :: st) (h) := e_lald dL_law_1359 hk hi
theorem iL_law_1360 {v0 : Value} {v1 : Value} {v2 : Value} {v3 : Value} {v4 : Value} {v5 : Value} {x : Int32} {Ls st : List Value} {h : AH} : ev L xs mdL_law 1360 (v0 :: v1 :: v2 :: v3 :: v4 :: v5 :: .int x :: Ls) (st) h = ev L xs mdL_law 1362 (v0 :: v1 :: v2 :: v3 :: v4 :: v5 :: .int x :: Ls) (.int x :: st) (h) := e_iload dL_law_1360 rfl
theorem iL_law_1362 {x : Int32} {Ls st : List Value} {h : AH} : ev L xs mdL_law 1362 (Ls) (.int x :: st) h = ev L xs mdL_law 1363 (Ls) (.long x.toInt64 :: st) (h) := e_i2l dL_law_1362
theorem iL_law_1363 {x z : Int64} {Ls st : List Value} {h : AH} : ev L xs mdL_law 1363 (Ls) (.long z :: .long x :: st) h = ev L xs mdL_law 1364 (Ls) (.int (lg_cmp x z) :: st) (h) := e_lcmp dL_law_1363
theorem iL_law_1364 {x : Int32} {Ls st : List Value} {h : AH} : ev L xs mdL_law 1364 Ls (.int x :: st) h = if x = nI 0 then ev L xs mdL_law 1369 Ls st h else ev L xs mdL_law 1367 Ls st h := e_if_eq dL_law_1364 (by decide)
theorem iL_law_1367  {Ls st : List Value} {h : AH} : ev L xs mdL_law 1367 (Ls) (st) h = ev L xs mdL_law 1368 (Ls) (.int (nI 0) :: st) (h) := e_iconst dL_law_1367 (by decide)
theorem iL_law_1368 {v : Int32} {Ls : List Value} {h : AH} (hv : v = nI 0 ∨ v = nI 1) : ev L xs mdL_law 1368 Ls [.int v] h = some (.inl (some (.int v), h)) := e_zret dL_law_1368 rfl hv
theorem iL_law_1369  {Ls st : List Value} {h : AH} : ev L xs mdL_law 1369 (Ls) (st) h = ev L xs mdL_law 1622 (Ls) (st) (h) := e_goto dL_law_1369 (by decide)
theorem iL_law_1372 {v0 : Value} {x : Nat} {Ls st : List Value} {h : AH} : ev L xs mdL_law 1372 (v0 :: .ref x :: Ls) (st) h = ev L xs mdL_law 1373 (v0 :: .ref x :: Ls) (.ref x :: st) (h) := e_aload_n dL_law_1372 rfl
theorem iL_law_1373 {a : Nat} {Ls st : List Value} {h : AH} (hk : hK h a = 6) (hw : wds st ≤ 8) : ev L xs mdL_law 1373 Ls (.ref a :: st) h = kn L xs mdL_law 1373 1376 Ls st (ev L xs mdX6_daysToOpen 0 [.ref a, .null, .null, .null, .null] [] h) := e_callV (as := []) dL_law_1373 mr_8_151 (by decide) (by decide) rfl (by simp [wds, Value.category]; decide) rfl (by decide) hk hw
theorem iL_law_1376 {v0 : Value} {v1 : Value} {x : Nat} {Ls st : List Value} {h : AH} : ev L xs mdL_law 1376 (v0 :: v1 :: .ref x :: Ls) (st) h = ev L xs mdL_law 1377 (v0 :: v1 :: .ref x :: Ls) (.ref x :: st) (h) := e_aload_n dL_law_1376 rfl
theorem iL_law_1377 {a : Nat} {Ls st : List Value} {h : AH} (hk : hK h a = 7) (hw : wds st ≤ 8) : ev L xs mdL_law 1377 Ls (.ref a :: st) h = kn L xs mdL_law 1377 1380 Ls st (ev L xs mdX7_daysToOpen 0 [.ref a, .null] [] h) := e_callV (as := []) dL_law_1377 mr_8_154 (by decide) (by decide) rfl (by simp [wds, Value.category]; decide) rfl (by decide) hk hw
theorem iL_law_1380 {x z : Int32} {Ls st : List Value} {h : AH} : ev L xs mdL_law 1380 Ls (.int z :: .int x :: st) h = if x = z then ev L xs mdL_law 1622 Ls st h else ev L xs mdL_law 1383 Ls st h := e_ic_eq dL_law_1380 (by decide)
theorem iL_law_1383  {Ls st : List Value} {h : AH} : ev L xs mdL_law 1383 (Ls) (st) h = ev L xs mdL_law 1384 (Ls) (.int (nI 0) :: st) (h) := e_iconst dL_law_1383 (by decide)
theorem iL_law_1384 {v : Int32} {Ls : List Value} {h : AH} (hv : v = nI 0 ∨ v = nI 1) : ev L xs mdL_law 1384 Ls [.int v] h = some (.inl (some (.int v), h)) := e_zret dL_law_1384 rfl hv
theorem iL_law_1385 {v0 : Value} {x : Nat} {Ls st : List Value} {h : AH} : ev L xs mdL_law 1385 (v0 :: .ref x :: Ls) (st) h = ev L xs mdL_law 1386 (v0 :: .ref x :: Ls) (.ref x :: st) (h) := e_aload_n dL_law_1385 rfl
theorem iL_law_1386 {x : Nat} {Ls st : List Value} {h : AH} : ev L xs mdL_law 1386 (.retAddr x :: Ls) (st) h = ev L xs mdL_law 1387 (.retAddr x :: Ls) (.retAddr x :: st) (h) := e_sload_n dL_law_1386 rfl
theorem iL_law_1387 {v0 : Value} {v1 : Value} {v2 : Value} {v3 : Value} {x : Int32} {Ls st : List Value} {h : AH} : ev L xs mdL_law 1387 (v0 :: v1 :: v2 :: v3 :: .int x :: Ls) (st) h = ev L xs mdL_law 1389 (v0 :: v1 :: v2 :: v3 :: .int x :: Ls) (.int x :: st) (h) := e_iload dL_law_1387 rfl
theorem iL_law_1389  {Ls st : List Value} {h : AH} : ev L xs mdL_law 1389 (Ls) (st) h = ev L xs mdL_law 1390 (Ls) (.int (nI 1) :: st) (h) := e_iconst dL_law_1389 (by decide)
theorem iL_law_1390 {x z : Int32} {Ls st : List Value} {h : AH} : ev L xs mdL_law 1390 (Ls) (.int z :: .int x :: st) h = ev L xs mdL_law 1391 (Ls) (.int (x + z) :: st) (h) := e_iadd dL_law_1390
theorem iL_law_1391 {z : Nat} {j : Int32} {Ls st : List Value} {h : AH} (hi : inA j L = true) : ev L xs mdL_law 1391 (Ls) (.int j :: .retAddr z :: st) h = ev L xs mdL_law 1392 (Ls) (.int (xs j.toNatClampNeg) :: st) (h) := e_sald dL_law_1391 rfl hi
theorem iL_law_1392 {v0 : Value} {v1 : Value} {v2 : Value} {x : Nat} {Ls st : List Value} {h : AH} : ev L xs mdL_law 1392 (v0 :: v1 :: v2 :: .ref x :: Ls) (st) h = ev L xs mdL_law 1393 (v0 :: v1 :: v2 :: .ref x :: Ls) (.ref x :: st) (h) := e_aload_n dL_law_1392 rfl
theorem iL_law_1393 {p0 : Nat} {p1 : Int32} {p2 : Nat} {Ls st : List Value} {h : AH} (hw : wds st ≤ 8) : ev L xs mdL_law 1393 Ls (.ref p2 :: .int p1 :: .ref p0 :: st) h = kn L xs mdL_law 1393 1396 Ls st (ev L xs mdL_bestHome 0 [.ref p0, .int p1, .ref p2, .null] [] h) := e_callS (as := [.ref p2, .int p1, .ref p0]) dL_law_1393 mr_8_155 (by decide) (by decide) rfl (by simp [wds, Value.category]; decide) rfl hw
theorem iL_law_1396 {v0 : Value} {v1 : Value} {v2 : Value} {v3 : Value} {v4 : Value} {v5 : Value} {x : Int32} {Ls st : List Value} {h : AH} (hc9 : v4.category = 1) : ev L xs mdL_law 1396 (v0 :: v1 :: v2 :: v3 :: v4 :: v5 :: Ls) (.int x :: st) h = ev L xs mdL_law 1398 (v0 :: v1 :: v2 :: v3 :: v4 :: .int x :: Ls) (st) (h) := e_istore dL_law_1396 rfl (by decide) (by unfold catOK; show (_ || (v4.category == 1)) = true; rw [hc9]; rfl)
theorem iL_law_1398 {v0 : Value} {v1 : Value} {x : Nat} {Ls st : List Value} {h : AH} : ev L xs mdL_law 1398 (v0 :: v1 :: .ref x :: Ls) (st) h = ev L xs mdL_law 1399 (v0 :: v1 :: .ref x :: Ls) (.ref x :: st) (h) := e_aload_n dL_law_1398 rfl
theorem iL_law_1399 {x : Nat} {Ls st : List Value} {h : AH} : ev L xs mdL_law 1399 (.retAddr x :: Ls) (st) h = ev L xs mdL_law 1400 (.retAddr x :: Ls) (.retAddr x :: st) (h) := e_sload_n dL_law_1399 rfl
theorem iL_law_1400 {v0 : Value} {v1 : Value} {v2 : Value} {v3 : Value} {x : Int32} {Ls st : List Value} {h : AH} : ev L xs mdL_law 1400 (v0 :: v1 :: v2 :: v3 :: .int x :: Ls) (st) h = ev L xs mdL_law 1402 (v0 :: v1 :: v2 :: v3 :: .int x :: Ls) (.int x :: st) (h) := e_iload dL_law_1400 rfl
theorem iL_law_1402  {Ls st : List Value} {h : AH} : ev L xs mdL_law 1402 (Ls) (st) h = ev L xs mdL_law 1403 (Ls) (.int (nI 1) :: st) (h) := e_iconst dL_law_1402 (by decide)
theorem iL_law_1403 {x z : Int32} {Ls st : List Value} {h : AH} : ev L xs mdL_law 1403 (Ls) (.int z :: .int x :: st) h = ev L xs mdL_law 1404 (Ls) (.int (x + z) :: st) (h) := e_iadd dL_law_1403
theorem iL_law_1404 {z : Nat} {j : Int32} {Ls st : List Value} {h : AH} (hi : inA j L = true) : ev L xs mdL_law 1404 (Ls) (.int j :: .retAddr z :: st) h = ev L xs mdL_law 1405 (Ls) (.int (xs j.toNatClampNeg) :: st) (h) := e_sald dL_law_1404 rfl hi
theorem iL_law_1405 {a : Nat} {p0 : Int32} {Ls st : List Value} {h : AH} (hk : hK h a = 7) (hw : wds st ≤ 8) : ev L xs mdL_law 1405 Ls (.int p0 :: .ref a :: st) h = kn L xs mdL_law 1405 1408 Ls st (ev L xs mdX7_bestHome 0 [.ref a, .int p0, .null, .null, .null, .null] [] h) := e_callV (as := [.int p0]) dL_law_1405 mr_8_157 (by decide) (by decide) rfl (by simp [wds, Value.category]; decide) rfl (by decide) hk hw
theorem iL_law_1408 {v0 : Value} {v1 : Value} {v2 : Value} {v3 : Value} {v4 : Value} {v5 : Value} {v6 : Value} {x : Int32} {Ls st : List Value} {h : AH} (hc9 : v5.category = 1) : ev L xs mdL_law 1408 (v0 :: v1 :: v2 :: v3 :: v4 :: v5 :: v6 :: Ls) (.int x :: st) h = ev L xs mdL_law 1410 (v0 :: v1 :: v2 :: v3 :: v4 :: v5 :: .int x :: Ls) (st) (h) := e_istore dL_law_1408 rfl (by decide) (by unfold catOK; show (_ || (v5.category == 1)) = true; rw [hc9]; rfl)
theorem iL_law_1410 {v0 : Value} {v1 : Value} {x : Nat} {Ls st : List Value} {h : AH} : ev L xs mdL_law 1410 (v0 :: v1 :: .ref x :: Ls) (st) h = ev L xs mdL_law 1411 (v0 :: v1 :: .ref x :: Ls) (.ref x :: st) (h) := e_aload_n dL_law_1410 rfl
theorem iL_law_1411 {a : Nat} {Ls st : List Value} {h : AH} (hk : hK h a = 7) (hw : wds st ≤ 8) : ev L xs mdL_law 1411 Ls (.ref a :: st) h = kn L xs mdL_law 1411 1414 Ls st (ev L xs mdX7_thrown 0 [.ref a] [] h) := e_callV (as := []) dL_law_1411 mr_8_93 (by decide) (by decide) rfl (by simp [wds, Value.category]; decide) rfl (by decide) hk hw
theorem iL_law_1414 {v0 : Value} {v1 : Value} {v2 : Value} {v3 : Value} {v4 : Value} {x : Int32} {Ls st : List Value} {h : AH} : ev L xs mdL_law 1414 (v0 :: v1 :: v2 :: v3 :: v4 :: .int x :: Ls) (st) h = ev L xs mdL_law 1416 (v0 :: v1 :: v2 :: v3 :: v4 :: .int x :: Ls) (.int x :: st) (h) := e_iload dL_law_1414 rfl
theorem iL_law_1416 {x z : Int32} {Ls st : List Value} {h : AH} : ev L xs mdL_law 1416 Ls (.int z :: .int x :: st) h = if x = z then ev L xs mdL_law 1421 Ls st h else ev L xs mdL_law 1419 Ls st h := e_ic_eq dL_law_1416 (by decide)
theorem iL_law_1419  {Ls st : List Value} {h : AH} : ev L xs mdL_law 1419 (Ls) (st) h = ev L xs mdL_law 1420 (Ls) (.int (nI 0) :: st) (h) := e_iconst dL_law_1419 (by decide)
theorem iL_law_1420 {v : Int32} {Ls : List Value} {h : AH} (hv : v = nI 0 ∨ v = nI 1) : ev L xs mdL_law 1420 Ls [.int v] h = some (.inl (some (.int v), h)) := e_zret dL_law_1420 rfl hv
theorem iL_law_1421 {v0 : Value} {v1 : Value} {v2 : Value} {v3 : Value} {v4 : Value} {x : Int32} {Ls st : List Value} {h : AH} : ev L xs mdL_law 1421 (v0 :: v1 :: v2 :: v3 :: v4 :: .int x :: Ls) (st) h = ev L xs mdL_law 1423 (v0 :: v1 :: v2 :: v3 :: v4 :: .int x :: Ls) (.int x :: st) (h) := e_iload dL_law_1421 rfl
theorem iL_law_1423 {x : Int32} {Ls st : List Value} {h : AH} : ev L xs mdL_law 1423 Ls (.int x :: st) h = if x = nI 0 then ev L xs mdL_law 1426 Ls st h else ev L xs mdL_law 1438 Ls st h := e_if_ne dL_law_1423 (by decide)
theorem iL_law_1426 {v0 : Value} {v1 : Value} {v2 : Value} {x : Nat} {Ls st : List Value} {h : AH} : ev L xs mdL_law 1426 (v0 :: v1 :: v2 :: .ref x :: Ls) (st) h = ev L xs mdL_law 1427 (v0 :: v1 :: v2 :: .ref x :: Ls) (.ref x :: st) (h) := e_aload_n dL_law_1426 rfl
theorem iL_law_1427  {Ls st : List Value} {h : AH} : ev L xs mdL_law 1427 (Ls) (st) h = ev L xs mdL_law 1428 (Ls) (.int (nI 0) :: st) (h) := e_iconst dL_law_1427 (by decide)
theorem iL_law_1428 {a : Nat} {j : Int32} {Ls st : List Value} {h : AH} (hk : hK h a = 12) (hi : inA j (hN h a) = true) : ev L xs mdL_law 1428 (Ls) (.int j :: .ref a :: st) h = ev L xs mdL_law 1429 (Ls) (.long (hL h a j.toNatClampNeg) :: st) (h) := e_lald dL_law_1428 hk hi
theorem iL_law_1429 {v0 : Value} {v1 : Value} {v2 : Value} {v3 : Value} {v4 : Value} {v5 : Value} {x : Int32} {Ls st : List Value} {h : AH} : ev L xs mdL_law 1429 (v0 :: v1 :: v2 :: v3 :: v4 :: v5 :: .int x :: Ls) (st) h = ev L xs mdL_law 1431 (v0 :: v1 :: v2 :: v3 :: v4 :: v5 :: .int x :: Ls) (.int x :: st) (h) := e_iload dL_law_1429 rfl
theorem iL_law_1431 {x : Int32} {Ls st : List Value} {h : AH} : ev L xs mdL_law 1431 (Ls) (.int x :: st) h = ev L xs mdL_law 1432 (Ls) (.long x.toInt64 :: st) (h) := e_i2l dL_law_1431
theorem iL_law_1432 {x z : Int64} {Ls st : List Value} {h : AH} : ev L xs mdL_law 1432 (Ls) (.long z :: .long x :: st) h = ev L xs mdL_law 1433 (Ls) (.int (lg_cmp x z) :: st) (h) := e_lcmp dL_law_1432
theorem iL_law_1433 {x : Int32} {Ls st : List Value} {h : AH} : ev L xs mdL_law 1433 Ls (.int x :: st) h = if x = nI 0 then ev L xs mdL_law 1438 Ls st h else ev L xs mdL_law 1436 Ls st h := e_if_eq dL_law_1433 (by decide)
theorem iL_law_1436  {Ls st : List Value} {h : AH} : ev L xs mdL_law 1436 (Ls) (st) h = ev L xs mdL_law 1437 (Ls) (.int (nI 0) :: st) (h) := e_iconst dL_law_1436 (by decide)
theorem iL_law_1437 {v : Int32} {Ls : List Value} {h : AH} (hv : v = nI 0 ∨ v = nI 1) : ev L xs mdL_law 1437 Ls [.int v] h = some (.inl (some (.int v), h)) := e_zret dL_law_1437 rfl hv
theorem iL_law_1438  {Ls st : List Value} {h : AH} : ev L xs mdL_law 1438 (Ls) (st) h = ev L xs mdL_law 1622 (Ls) (st) (h) := e_goto dL_law_1438 (by decide)
theorem iL_law_1441 {v0 : Value} {x : Nat} {Ls st : List Value} {h : AH} : ev L xs mdL_law 1441 (v0 :: .ref x :: Ls) (st) h = ev L xs mdL_law 1442 (v0 :: .ref x :: Ls) (.ref x :: st) (h) := e_aload_n dL_law_1441 rfl
theorem iL_law_1442 {a : Nat} {Ls st : List Value} {h : AH} (hk : hK h a = 6) (hw : wds st ≤ 8) : ev L xs mdL_law 1442 Ls (.ref a :: st) h = kn L xs mdL_law 1442 1445 Ls st (ev L xs mdX6_filled 0 [.ref a, .null] [] h) := e_callV (as := []) dL_law_1442 mr_8_158 (by decide) (by decide) rfl (by simp [wds, Value.category]; decide) rfl (by decide) hk hw
theorem iL_law_1445 {v0 : Value} {v1 : Value} {v2 : Value} {v3 : Value} {v4 : Value} {v5 : Value} {v6 : Value} {x : UInt64} {Ls st : List Value} {h : AH} (hc9 : v4.category = 1) : ev L xs mdL_law 1445 (v0 :: v1 :: v2 :: v3 :: v4 :: v5 :: v6 :: Ls) (.double x :: st) h = ev L xs mdL_law 1447 (v0 :: v1 :: v2 :: v3 :: v4 :: .double x :: .null :: Ls) (st) (h) := e_dstore dL_law_1445 rfl (by decide) (by unfold catOK; show (_ || (v4.category == 1)) = true; rw [hc9]; rfl)
theorem iL_law_1447 {v0 : Value} {v1 : Value} {x : Nat} {Ls st : List Value} {h : AH} : ev L xs mdL_law 1447 (v0 :: v1 :: .ref x :: Ls) (st) h = ev L xs mdL_law 1448 (v0 :: v1 :: .ref x :: Ls) (.ref x :: st) (h) := e_aload_n dL_law_1447 rfl
theorem iL_law_1448 {a : Nat} {Ls st : List Value} {h : AH} (hk : hK h a = 7) (hw : wds st ≤ 8) : ev L xs mdL_law 1448 Ls (.ref a :: st) h = kn L xs mdL_law 1448 1451 Ls st (ev L xs mdX7_filled 0 [.ref a] [] h) := e_callV (as := []) dL_law_1448 mr_8_162 (by decide) (by decide) rfl (by simp [wds, Value.category]; decide) rfl (by decide) hk hw
theorem iL_law_1451 {v0 : Value} {v1 : Value} {v2 : Value} {v3 : Value} {v4 : Value} {v5 : Value} {v6 : Value} {v7 : Value} {v8 : Value} {x : UInt64} {Ls st : List Value} {h : AH} (hc9 : v6.category = 1) : ev L xs mdL_law 1451 (v0 :: v1 :: v2 :: v3 :: v4 :: v5 :: v6 :: v7 :: v8 :: Ls) (.double x :: st) h = ev L xs mdL_law 1453 (v0 :: v1 :: v2 :: v3 :: v4 :: v5 :: v6 :: .double x :: .null :: Ls) (st) (h) := e_dstore dL_law_1451 rfl (by decide) (by unfold catOK; show (_ || (v6.category == 1)) = true; rw [hc9]; rfl)
theorem iL_law_1453 {v0 : Value} {v1 : Value} {v2 : Value} {v3 : Value} {v4 : Value} {x : UInt64} {Ls st : List Value} {h : AH} : ev L xs mdL_law 1453 (v0 :: v1 :: v2 :: v3 :: v4 :: .double x :: Ls) (st) h = ev L xs mdL_law 1455 (v0 :: v1 :: v2 :: v3 :: v4 :: .double x :: Ls) (.double x :: st) (h) := e_dload dL_law_1453 rfl
theorem iL_law_1455 {v0 : Value} {v1 : Value} {v2 : Value} {v3 : Value} {v4 : Value} {v5 : Value} {v6 : Value} {x : UInt64} {Ls st : List Value} {h : AH} : ev L xs mdL_law 1455 (v0 :: v1 :: v2 :: v3 :: v4 :: v5 :: v6 :: .double x :: Ls) (st) h = ev L xs mdL_law 1457 (v0 :: v1 :: v2 :: v3 :: v4 :: v5 :: v6 :: .double x :: Ls) (.double x :: st) (h) := e_dload dL_law_1455 rfl
theorem iL_law_1457 {x z : UInt64} {Ls st : List Value} {h : AH} : ev L xs mdL_law 1457 (Ls) (.double z :: .double x :: st) h = ev L xs mdL_law 1458 (Ls) (.int (Op.cmpValue (FP.dcmp x z) .l) :: st) (h) := e_dcmp dL_law_1457
theorem iL_law_1458 {x : Int32} {Ls st : List Value} {h : AH} : ev L xs mdL_law 1458 Ls (.int x :: st) h = if x = nI 0 then ev L xs mdL_law 1479 Ls st h else ev L xs mdL_law 1461 Ls st h := e_if_eq dL_law_1458 (by decide)
theorem iL_law_1461 {v0 : Value} {v1 : Value} {v2 : Value} {v3 : Value} {v4 : Value} {x : UInt64} {Ls st : List Value} {h : AH} : ev L xs mdL_law 1461 (v0 :: v1 :: v2 :: v3 :: v4 :: .double x :: Ls) (st) h = ev L xs mdL_law 1463 (v0 :: v1 :: v2 :: v3 :: v4 :: .double x :: Ls) (.double x :: st) (h) := e_dload dL_law_1461 rfl
theorem iL_law_1463 {v0 : Value} {v1 : Value} {v2 : Value} {v3 : Value} {v4 : Value} {x : UInt64} {Ls st : List Value} {h : AH} : ev L xs mdL_law 1463 (v0 :: v1 :: v2 :: v3 :: v4 :: .double x :: Ls) (st) h = ev L xs mdL_law 1465 (v0 :: v1 :: v2 :: v3 :: v4 :: .double x :: Ls) (.double x :: st) (h) := e_dload dL_law_1463 rfl
theorem iL_law_1465 {x z : UInt64} {Ls st : List Value} {h : AH} : ev L xs mdL_law 1465 (Ls) (.double z :: .double x :: st) h = ev L xs mdL_law 1466 (Ls) (.int (Op.cmpValue (FP.dcmp x z) .l) :: st) (h) := e_dcmp dL_law_1465
theorem iL_law_1466 {x : Int32} {Ls st : List Value} {h : AH} : ev L xs mdL_law 1466 Ls (.int x :: st) h = if x = nI 0 then ev L xs mdL_law 1477 Ls st h else ev L xs mdL_law 1469 Ls st h := e_if_eq dL_law_1466 (by decide)
theorem iL_law_1469 {v0 : Value} {v1 : Value} {v2 : Value} {v3 : Value} {v4 : Value} {v5 : Value} {v6 : Value} {x : UInt64} {Ls st : List Value} {h : AH} : ev L xs mdL_law 1469 (v0 :: v1 :: v2 :: v3 :: v4 :: v5 :: v6 :: .double x :: Ls) (st) h = ev L xs mdL_law 1471 (v0 :: v1 :: v2 :: v3 :: v4 :: v5 :: v6 :: .double x :: Ls) (.double x :: st) (h) := e_dload dL_law_1469 rfl
theorem iL_law_1471 {v0 : Value} {v1 : Value} {v2 : Value} {v3 : Value} {v4 : Value} {v5 : Value} {v6 : Value} {x : UInt64} {Ls st : List Value} {h : AH} : ev L xs mdL_law 1471 (v0 :: v1 :: v2 :: v3 :: v4 :: v5 :: v6 :: .double x :: Ls) (st) h = ev L xs mdL_law 1473 (v0 :: v1 :: v2 :: v3 :: v4 :: v5 :: v6 :: .double x :: Ls) (.double x :: st) (h) := e_dload dL_law_1471 rfl
theorem iL_law_1473 {x z : UInt64} {Ls st : List Value} {h : AH} : ev L xs mdL_law 1473 (Ls) (.double z :: .double x :: st) h = ev L xs mdL_law 1474 (Ls) (.int (Op.cmpValue (FP.dcmp x z) .l) :: st) (h) := e_dcmp dL_law_1473
theorem iL_law_1474 {x : Int32} {Ls st : List Value} {h : AH} : ev L xs mdL_law 1474 Ls (.int x :: st) h = if x = nI 0 then ev L xs mdL_law 1477 Ls st h else ev L xs mdL_law 1479 Ls st h := e_if_ne dL_law_1474 (by decide)
theorem iL_law_1477  {Ls st : List Value} {h : AH} : ev L xs mdL_law 1477 (Ls) (st) h = ev L xs mdL_law 1478 (Ls) (.int (nI 0) :: st) (h) := e_iconst dL_law_1477 (by decide)
theorem iL_law_1478 {v : Int32} {Ls : List Value} {h : AH} (hv : v = nI 0 ∨ v = nI 1) : ev L xs mdL_law 1478 Ls [.int v] h = some (.inl (some (.int v), h)) := e_zret dL_law_1478 rfl hv
theorem iL_law_1479  {Ls st : List Value} {h : AH} : ev L xs mdL_law 1479 (Ls) (st) h = ev L xs mdL_law 1622 (Ls) (st) (h) := e_goto dL_law_1479 (by decide)
theorem iL_law_1482 {v0 : Value} {x : Nat} {Ls st : List Value} {h : AH} : ev L xs mdL_law 1482 (v0 :: .ref x :: Ls) (st) h = ev L xs mdL_law 1483 (v0 :: .ref x :: Ls) (.ref x :: st) (h) := e_aload_n dL_law_1482 rfl
theorem iL_law_1483 {x : Nat} {Ls st : List Value} {h : AH} : ev L xs mdL_law 1483 (.retAddr x :: Ls) (st) h = ev L xs mdL_law 1484 (.retAddr x :: Ls) (.retAddr x :: st) (h) := e_sload_n dL_law_1483 rfl
theorem iL_law_1484 {v0 : Value} {v1 : Value} {v2 : Value} {v3 : Value} {x : Int32} {Ls st : List Value} {h : AH} : ev L xs mdL_law 1484 (v0 :: v1 :: v2 :: v3 :: .int x :: Ls) (st) h = ev L xs mdL_law 1486 (v0 :: v1 :: v2 :: v3 :: .int x :: Ls) (.int x :: st) (h) := e_iload dL_law_1484 rfl
theorem iL_law_1486  {Ls st : List Value} {h : AH} : ev L xs mdL_law 1486 (Ls) (st) h = ev L xs mdL_law 1487 (Ls) (.int (nI 1) :: st) (h) := e_iconst dL_law_1486 (by decide)
theorem iL_law_1487 {x z : Int32} {Ls st : List Value} {h : AH} : ev L xs mdL_law 1487 (Ls) (.int z :: .int x :: st) h = ev L xs mdL_law 1488 (Ls) (.int (x + z) :: st) (h) := e_iadd dL_law_1487
theorem iL_law_1488 {z : Nat} {j : Int32} {Ls st : List Value} {h : AH} (hi : inA j L = true) : ev L xs mdL_law 1488 (Ls) (.int j :: .retAddr z :: st) h = ev L xs mdL_law 1489 (Ls) (.int (xs j.toNatClampNeg) :: st) (h) := e_sald dL_law_1488 rfl hi
theorem iL_law_1489 {v0 : Value} {v1 : Value} {v2 : Value} {x : Nat} {Ls st : List Value} {h : AH} : ev L xs mdL_law 1489 (v0 :: v1 :: v2 :: .ref x :: Ls) (st) h = ev L xs mdL_law 1490 (v0 :: v1 :: v2 :: .ref x :: Ls) (.ref x :: st) (h) := e_aload_n dL_law_1489 rfl
theorem iL_law_1490 {p0 : Nat} {p1 : Int32} {p2 : Nat} {Ls st : List Value} {h : AH} (hw : wds st ≤ 8) : ev L xs mdL_law 1490 Ls (.ref p2 :: .int p1 :: .ref p0 :: st) h = kn L xs mdL_law 1490 1493 Ls st (ev L xs mdL_append 0 [.ref p0, .int p1, .ref p2, .null] [] h) := e_callS (as := [.ref p2, .int p1, .ref p0]) dL_law_1490 mr_8_163 (by decide) (by decide) rfl (by simp [wds, Value.category]; decide) rfl hw
theorem iL_law_1493 {v0 : Value} {v1 : Value} {v2 : Value} {v3 : Value} {v4 : Value} {v5 : Value} {x : Int32} {Ls st : List Value} {h : AH} (hc9 : v4.category = 1) : ev L xs mdL_law 1493 (v0 :: v1 :: v2 :: v3 :: v4 :: v5 :: Ls) (.int x :: st) h = ev L xs mdL_law 1495 (v0 :: v1 :: v2 :: v3 :: v4 :: .int x :: Ls) (st) (h) := e_istore dL_law_1493 rfl (by decide) (by unfold catOK; show (_ || (v4.category == 1)) = true; rw [hc9]; rfl)
theorem iL_law_1495 {v0 : Value} {v1 : Value} {x : Nat} {Ls st : List Value} {h : AH} : ev L xs mdL_law 1495 (v0 :: v1 :: .ref x :: Ls) (st) h = ev L xs mdL_law 1496 (v0 :: v1 :: .ref x :: Ls) (.ref x :: st) (h) := e_aload_n dL_law_1495 rfl
theorem iL_law_1496 {x : Nat} {Ls st : List Value} {h : AH} : ev L xs mdL_law 1496 (.retAddr x :: Ls) (st) h = ev L xs mdL_law 1497 (.retAddr x :: Ls) (.retAddr x :: st) (h) := e_sload_n dL_law_1496 rfl
theorem iL_law_1497 {v0 : Value} {v1 : Value} {v2 : Value} {v3 : Value} {x : Int32} {Ls st : List Value} {h : AH} : ev L xs mdL_law 1497 (v0 :: v1 :: v2 :: v3 :: .int x :: Ls) (st) h = ev L xs mdL_law 1499 (v0 :: v1 :: v2 :: v3 :: .int x :: Ls) (.int x :: st) (h) := e_iload dL_law_1497 rfl
theorem iL_law_1499  {Ls st : List Value} {h : AH} : ev L xs mdL_law 1499 (Ls) (st) h = ev L xs mdL_law 1500 (Ls) (.int (nI 1) :: st) (h) := e_iconst dL_law_1499 (by decide)
theorem iL_law_1500 {x z : Int32} {Ls st : List Value} {h : AH} : ev L xs mdL_law 1500 (Ls) (.int z :: .int x :: st) h = ev L xs mdL_law 1501 (Ls) (.int (x + z) :: st) (h) := e_iadd dL_law_1500
theorem iL_law_1501 {z : Nat} {j : Int32} {Ls st : List Value} {h : AH} (hi : inA j L = true) : ev L xs mdL_law 1501 (Ls) (.int j :: .retAddr z :: st) h = ev L xs mdL_law 1502 (Ls) (.int (xs j.toNatClampNeg) :: st) (h) := e_sald dL_law_1501 rfl hi
theorem iL_law_1502 {a : Nat} {p0 : Int32} {Ls st : List Value} {h : AH} (hk : hK h a = 7) (hw : wds st ≤ 8) : ev L xs mdL_law 1502 Ls (.int p0 :: .ref a :: st) h = kn L xs mdL_law 1502 1505 Ls st (ev L xs mdX7_append 0 [.ref a, .int p0] [] h) := e_callV (as := [.int p0]) dL_law_1502 mr_8_165 (by decide) (by decide) rfl (by simp [wds, Value.category]; decide) rfl (by decide) hk hw
theorem iL_law_1505 {v0 : Value} {v1 : Value} {v2 : Value} {v3 : Value} {v4 : Value} {v5 : Value} {v6 : Value} {x : Int32} {Ls st : List Value} {h : AH} (hc9 : v5.category = 1) : ev L xs mdL_law 1505 (v0 :: v1 :: v2 :: v3 :: v4 :: v5 :: v6 :: Ls) (.int x :: st) h = ev L xs mdL_law 1507 (v0 :: v1 :: v2 :: v3 :: v4 :: v5 :: .int x :: Ls) (st) (h) := e_istore dL_law_1505 rfl (by decide) (by unfold catOK; show (_ || (v5.category == 1)) = true; rw [hc9]; rfl)
theorem iL_law_1507 {v0 : Value} {v1 : Value} {x : Nat} {Ls st : List Value} {h : AH} : ev L xs mdL_law 1507 (v0 :: v1 :: .ref x :: Ls) (st) h = ev L xs mdL_law 1508 (v0 :: v1 :: .ref x :: Ls) (.ref x :: st) (h) := e_aload_n dL_law_1507 rfl
theorem iL_law_1508 {a : Nat} {Ls st : List Value} {h : AH} (hk : hK h a = 7) (hw : wds st ≤ 8) : ev L xs mdL_law 1508 Ls (.ref a :: st) h = kn L xs mdL_law 1508 1511 Ls st (ev L xs mdX7_thrown 0 [.ref a] [] h) := e_callV (as := []) dL_law_1508 mr_8_93 (by decide) (by decide) rfl (by simp [wds, Value.category]; decide) rfl (by decide) hk hw
theorem iL_law_1511 {v0 : Value} {v1 : Value} {v2 : Value} {v3 : Value} {v4 : Value} {x : Int32} {Ls st : List Value} {h : AH} : ev L xs mdL_law 1511 (v0 :: v1 :: v2 :: v3 :: v4 :: .int x :: Ls) (st) h = ev L xs mdL_law 1513 (v0 :: v1 :: v2 :: v3 :: v4 :: .int x :: Ls) (.int x :: st) (h) := e_iload dL_law_1511 rfl
theorem iL_law_1513 {x z : Int32} {Ls st : List Value} {h : AH} : ev L xs mdL_law 1513 Ls (.int z :: .int x :: st) h = if x = z then ev L xs mdL_law 1518 Ls st h else ev L xs mdL_law 1516 Ls st h := e_ic_eq dL_law_1513 (by decide)
theorem iL_law_1516  {Ls st : List Value} {h : AH} : ev L xs mdL_law 1516 (Ls) (st) h = ev L xs mdL_law 1517 (Ls) (.int (nI 0) :: st) (h) := e_iconst dL_law_1516 (by decide)
theorem iL_law_1517 {v : Int32} {Ls : List Value} {h : AH} (hv : v = nI 0 ∨ v = nI 1) : ev L xs mdL_law 1517 Ls [.int v] h = some (.inl (some (.int v), h)) := e_zret dL_law_1517 rfl hv
theorem iL_law_1518 {v0 : Value} {v1 : Value} {v2 : Value} {v3 : Value} {v4 : Value} {x : Int32} {Ls st : List Value} {h : AH} : ev L xs mdL_law 1518 (v0 :: v1 :: v2 :: v3 :: v4 :: .int x :: Ls) (st) h = ev L xs mdL_law 1520 (v0 :: v1 :: v2 :: v3 :: v4 :: .int x :: Ls) (.int x :: st) (h) := e_iload dL_law_1518 rfl
theorem iL_law_1520 {x : Int32} {Ls st : List Value} {h : AH} : ev L xs mdL_law 1520 Ls (.int x :: st) h = if x = nI 0 then ev L xs mdL_law 1523 Ls st h else ev L xs mdL_law 1535 Ls st h := e_if_ne dL_law_1520 (by decide)
theorem iL_law_1523 {v0 : Value} {v1 : Value} {v2 : Value} {x : Nat} {Ls st : List Value} {h : AH} : ev L xs mdL_law 1523 (v0 :: v1 :: v2 :: .ref x :: Ls) (st) h = ev L xs mdL_law 1524 (v0 :: v1 :: v2 :: .ref x :: Ls) (.ref x :: st) (h) := e_aload_n dL_law_1523 rfl
theorem iL_law_1524  {Ls st : List Value} {h : AH} : ev L xs mdL_law 1524 (Ls) (st) h = ev L xs mdL_law 1525 (Ls) (.int (nI 0) :: st) (h) := e_iconst dL_law_1524 (by decide)
theorem iL_law_1525 {a : Nat} {j : Int32} {Ls st : List Value} {h : AH} (hk : hK h a = 12) (hi : inA j (hN h a) = true) : ev L xs mdL_law 1525 (Ls) (.int j :: .ref a :: st) h = ev L xs mdL_law 1526 (Ls) (.long (hL h a j.toNatClampNeg) :: st) (h) := e_lald dL_law_1525 hk hi
theorem iL_law_1526 {v0 : Value} {v1 : Value} {v2 : Value} {v3 : Value} {v4 : Value} {v5 : Value} {x : Int32} {Ls st : List Value} {h : AH} : ev L xs mdL_law 1526 (v0 :: v1 :: v2 :: v3 :: v4 :: v5 :: .int x :: Ls) (st) h = ev L xs mdL_law 1528 (v0 :: v1 :: v2 :: v3 :: v4 :: v5 :: .int x :: Ls) (.int x :: st) (h) := e_iload dL_law_1526 rfl
theorem iL_law_1528 {x : Int32} {Ls st : List Value} {h : AH} : ev L xs mdL_law 1528 (Ls) (.int x :: st) h = ev L xs mdL_law 1529 (Ls) (.long x.toInt64 :: st) (h) := e_i2l dL_law_1528
theorem iL_law_1529 {x z : Int64} {Ls st : List Value} {h : AH} : ev L xs mdL_law 1529 (Ls) (.long z :: .long x :: st) h = ev L xs mdL_law 1530 (Ls) (.int (lg_cmp x z) :: st) (h) := e_lcmp dL_law_1529
theorem iL_law_1530 {x : Int32} {Ls st : List Value} {h : AH} : ev L xs mdL_law 1530 Ls (.int x :: st) h = if x = nI 0 then ev L xs mdL_law 1535 Ls st h else ev L xs mdL_law 1533 Ls st h := e_if_eq dL_law_1530 (by decide)
theorem iL_law_1533  {Ls st : List Value} {h : AH} : ev L xs mdL_law 1533 (Ls) (st) h = ev L xs mdL_law 1534 (Ls) (.int (nI 0) :: st) (h) := e_iconst dL_law_1533 (by decide)
theorem iL_law_1534 {v : Int32} {Ls : List Value} {h : AH} (hv : v = nI 0 ∨ v = nI 1) : ev L xs mdL_law 1534 Ls [.int v] h = some (.inl (some (.int v), h)) := e_zret dL_law_1534 rfl hv
theorem iL_law_1535  {Ls st : List Value} {h : AH} : ev L xs mdL_law 1535 (Ls) (st) h = ev L xs mdL_law 1622 (Ls) (st) (h) := e_goto dL_law_1535 (by decide)
theorem iL_law_1538 {v0 : Value} {x : Nat} {Ls st : List Value} {h : AH} : ev L xs mdL_law 1538 (v0 :: .ref x :: Ls) (st) h = ev L xs mdL_law 1539 (v0 :: .ref x :: Ls) (.ref x :: st) (h) := e_aload_n dL_law_1538 rfl
theorem iL_law_1539 {a : Nat} {Ls st : List Value} {h : AH} (hk : hK h a = 6) (hw : wds st ≤ 8) : ev L xs mdL_law 1539 Ls (.ref a :: st) h = kn L xs mdL_law 1539 1542 Ls st (ev L xs mdX6_clearText 0 [.ref a, .null] [] h) := e_callV (as := []) dL_law_1539 mr_8_166 (by decide) (by decide) rfl (by simp [wds, Value.category]; decide) rfl (by decide) hk hw
theorem iL_law_1542 {v0 : Value} {v1 : Value} {x : Nat} {Ls st : List Value} {h : AH} : ev L xs mdL_law 1542 (v0 :: v1 :: .ref x :: Ls) (st) h = ev L xs mdL_law 1543 (v0 :: v1 :: .ref x :: Ls) (.ref x :: st) (h) := e_aload_n dL_law_1542 rfl
theorem iL_law_1543 {a : Nat} {Ls st : List Value} {h : AH} (hk : hK h a = 7) (hw : wds st ≤ 8) : ev L xs mdL_law 1543 Ls (.ref a :: st) h = kn L xs mdL_law 1543 1546 Ls st (ev L xs mdX7_clearText 0 [.ref a, .null] [] h) := e_callV (as := []) dL_law_1543 mr_8_169 (by decide) (by decide) rfl (by simp [wds, Value.category]; decide) rfl (by decide) hk hw
theorem iL_law_1546 {x z : Int32} {Ls st : List Value} {h : AH} : ev L xs mdL_law 1546 Ls (.int z :: .int x :: st) h = if x = z then ev L xs mdL_law 1622 Ls st h else ev L xs mdL_law 1549 Ls st h := e_ic_eq dL_law_1546 (by decide)
theorem iL_law_1549  {Ls st : List Value} {h : AH} : ev L xs mdL_law 1549 (Ls) (st) h = ev L xs mdL_law 1550 (Ls) (.int (nI 0) :: st) (h) := e_iconst dL_law_1549 (by decide)
theorem iL_law_1550 {v : Int32} {Ls : List Value} {h : AH} (hv : v = nI 0 ∨ v = nI 1) : ev L xs mdL_law 1550 Ls [.int v] h = some (.inl (some (.int v), h)) := e_zret dL_law_1550 rfl hv
theorem iL_law_1551 {v0 : Value} {x : Nat} {Ls st : List Value} {h : AH} : ev L xs mdL_law 1551 (v0 :: .ref x :: Ls) (st) h = ev L xs mdL_law 1552 (v0 :: .ref x :: Ls) (.ref x :: st) (h) := e_aload_n dL_law_1551 rfl
theorem iL_law_1552 {a : Nat} {Ls st : List Value} {h : AH} (hk : hK h a = 6) (hw : wds st ≤ 8) : ev L xs mdL_law 1552 Ls (.ref a :: st) h = kn L xs mdL_law 1552 1555 Ls st (ev L xs mdX6_carryOut 0 [.ref a, .null] [] h) := e_callV (as := []) dL_law_1552 mr_8_170 (by decide) (by decide) rfl (by simp [wds, Value.category]; decide) rfl (by decide) hk hw
theorem iL_law_1555 {v0 : Value} {v1 : Value} {x : Nat} {Ls st : List Value} {h : AH} : ev L xs mdL_law 1555 (v0 :: v1 :: .ref x :: Ls) (st) h = ev L xs mdL_law 1556 (v0 :: v1 :: .ref x :: Ls) (.ref x :: st) (h) := e_aload_n dL_law_1555 rfl
theorem iL_law_1556 {a : Nat} {Ls st : List Value} {h : AH} (hk : hK h a = 7) (hw : wds st ≤ 8) : ev L xs mdL_law 1556 Ls (.ref a :: st) h = kn L xs mdL_law 1556 1559 Ls st (ev L xs mdX7_carryOut 0 [.ref a, .null, .null, .null, .null] [] h) := e_callV (as := []) dL_law_1556 mr_8_173 (by decide) (by decide) rfl (by simp [wds, Value.category]; decide) rfl (by decide) hk hw
theorem iL_law_1559 {x z : Int32} {Ls st : List Value} {h : AH} : ev L xs mdL_law 1559 Ls (.int z :: .int x :: st) h = if x = z then ev L xs mdL_law 1622 Ls st h else ev L xs mdL_law 1562 Ls st h := e_ic_eq dL_law_1559 (by decide)
theorem iL_law_1562  {Ls st : List Value} {h : AH} : ev L xs mdL_law 1562 (Ls) (st) h = ev L xs mdL_law 1563 (Ls) (.int (nI 0) :: st) (h) := e_iconst dL_law_1562 (by decide)
theorem iL_law_1563 {v : Int32} {Ls : List Value} {h : AH} (hv : v = nI 0 ∨ v = nI 1) : ev L xs mdL_law 1563 Ls [.int v] h = some (.inl (some (.int v), h)) := e_zret dL_law_1563 rfl hv
theorem iL_law_1564 {v0 : Value} {x : Nat} {Ls st : List Value} {h : AH} : ev L xs mdL_law 1564 (v0 :: .ref x :: Ls) (st) h = ev L xs mdL_law 1565 (v0 :: .ref x :: Ls) (.ref x :: st) (h) := e_aload_n dL_law_1564 rfl
theorem iL_law_1565 {v0 : Value} {v1 : Value} {v2 : Value} {x : Nat} {Ls st : List Value} {h : AH} : ev L xs mdL_law 1565 (v0 :: v1 :: v2 :: .ref x :: Ls) (st) h = ev L xs mdL_law 1566 (v0 :: v1 :: v2 :: .ref x :: Ls) (.ref x :: st) (h) := e_aload_n dL_law_1565 rfl
theorem iL_law_1566 {p0 : Nat} {p1 : Nat} {Ls st : List Value} {h : AH} (hw : wds st ≤ 8) : ev L xs mdL_law 1566 Ls (.ref p1 :: .ref p0 :: st) h = kn L xs mdL_law 1566 1569 Ls st (ev L xs mdL_undo 0 [.ref p0, .ref p1, .null] [] h) := e_callS (as := [.ref p1, .ref p0]) dL_law_1566 mr_8_174 (by decide) (by decide) rfl (by simp [wds, Value.category]; decide) rfl hw
theorem iL_law_1569 {v0 : Value} {v1 : Value} {v2 : Value} {v3 : Value} {v4 : Value} {v5 : Value} {x : Int32} {Ls st : List Value} {h : AH} (hc9 : v4.category = 1) : ev L xs mdL_law 1569 (v0 :: v1 :: v2 :: v3 :: v4 :: v5 :: Ls) (.int x :: st) h = ev L xs mdL_law 1571 (v0 :: v1 :: v2 :: v3 :: v4 :: .int x :: Ls) (st) (h) := e_istore dL_law_1569 rfl (by decide) (by unfold catOK; show (_ || (v4.category == 1)) = true; rw [hc9]; rfl)
theorem iL_law_1571 {v0 : Value} {v1 : Value} {x : Nat} {Ls st : List Value} {h : AH} : ev L xs mdL_law 1571 (v0 :: v1 :: .ref x :: Ls) (st) h = ev L xs mdL_law 1572 (v0 :: v1 :: .ref x :: Ls) (.ref x :: st) (h) := e_aload_n dL_law_1571 rfl
theorem iL_law_1572 {a : Nat} {Ls st : List Value} {h : AH} (hk : hK h a = 7) (hw : wds st ≤ 8) : ev L xs mdL_law 1572 Ls (.ref a :: st) h = kn L xs mdL_law 1572 1575 Ls st (ev L xs mdX7_undo 0 [.ref a, .null] [] h) := e_callV (as := []) dL_law_1572 mr_8_176 (by decide) (by decide) rfl (by simp [wds, Value.category]; decide) rfl (by decide) hk hw
theorem iL_law_1575 {v0 : Value} {v1 : Value} {v2 : Value} {v3 : Value} {v4 : Value} {v5 : Value} {v6 : Value} {x : Int32} {Ls st : List Value} {h : AH} (hc9 : v5.category = 1) : ev L xs mdL_law 1575 (v0 :: v1 :: v2 :: v3 :: v4 :: v5 :: v6 :: Ls) (.int x :: st) h = ev L xs mdL_law 1577 (v0 :: v1 :: v2 :: v3 :: v4 :: v5 :: .int x :: Ls) (st) (h) := e_istore dL_law_1575 rfl (by decide) (by unfold catOK; show (_ || (v5.category == 1)) = true; rw [hc9]; rfl)
theorem iL_law_1577 {v0 : Value} {v1 : Value} {x : Nat} {Ls st : List Value} {h : AH} : ev L xs mdL_law 1577 (v0 :: v1 :: .ref x :: Ls) (st) h = ev L xs mdL_law 1578 (v0 :: v1 :: .ref x :: Ls) (.ref x :: st) (h) := e_aload_n dL_law_1577 rfl
theorem iL_law_1578 {a : Nat} {Ls st : List Value} {h : AH} (hk : hK h a = 7) (hw : wds st ≤ 8) : ev L xs mdL_law 1578 Ls (.ref a :: st) h = kn L xs mdL_law 1578 1581 Ls st (ev L xs mdX7_thrown 0 [.ref a] [] h) := e_callV (as := []) dL_law_1578 mr_8_93 (by decide) (by decide) rfl (by simp [wds, Value.category]; decide) rfl (by decide) hk hw
theorem iL_law_1581 {v0 : Value} {v1 : Value} {v2 : Value} {v3 : Value} {v4 : Value} {x : Int32} {Ls st : List Value} {h : AH} : ev L xs mdL_law 1581 (v0 :: v1 :: v2 :: v3 :: v4 :: .int x :: Ls) (st) h = ev L xs mdL_law 1583 (v0 :: v1 :: v2 :: v3 :: v4 :: .int x :: Ls) (.int x :: st) (h) := e_iload dL_law_1581 rfl
theorem iL_law_1583 {x z : Int32} {Ls st : List Value} {h : AH} : ev L xs mdL_law 1583 Ls (.int z :: .int x :: st) h = if x = z then ev L xs mdL_law 1588 Ls st h else ev L xs mdL_law 1586 Ls st h := e_ic_eq dL_law_1583 (by decide)
theorem iL_law_1586  {Ls st : List Value} {h : AH} : ev L xs mdL_law 1586 (Ls) (st) h = ev L xs mdL_law 1587 (Ls) (.int (nI 0) :: st) (h) := e_iconst dL_law_1586 (by decide)
theorem iL_law_1587 {v : Int32} {Ls : List Value} {h : AH} (hv : v = nI 0 ∨ v = nI 1) : ev L xs mdL_law 1587 Ls [.int v] h = some (.inl (some (.int v), h)) := e_zret dL_law_1587 rfl hv
theorem iL_law_1588 {v0 : Value} {v1 : Value} {v2 : Value} {v3 : Value} {v4 : Value} {x : Int32} {Ls st : List Value} {h : AH} : ev L xs mdL_law 1588 (v0 :: v1 :: v2 :: v3 :: v4 :: .int x :: Ls) (st) h = ev L xs mdL_law 1590 (v0 :: v1 :: v2 :: v3 :: v4 :: .int x :: Ls) (.int x :: st) (h) := e_iload dL_law_1588 rfl
theorem iL_law_1590 {x : Int32} {Ls st : List Value} {h : AH} : ev L xs mdL_law 1590 Ls (.int x :: st) h = if x = nI 0 then ev L xs mdL_law 1593 Ls st h else ev L xs mdL_law 1605 Ls st h := e_if_ne dL_law_1590 (by decide)
theorem iL_law_1593 {v0 : Value} {v1 : Value} {v2 : Value} {x : Nat} {Ls st : List Value} {h : AH} : ev L xs mdL_law 1593 (v0 :: v1 :: v2 :: .ref x :: Ls) (st) h = ev L xs mdL_law 1594 (v0 :: v1 :: v2 :: .ref x :: Ls) (.ref x :: st) (h) := e_aload_n dL_law_1593 rfl
theorem iL_law_1594  {Ls st : List Value} {h : AH} : ev L xs mdL_law 1594 (Ls) (st) h = ev L xs mdL_law 1595 (Ls) (.int (nI 0) :: st) (h) := e_iconst dL_law_1594 (by decide)
theorem iL_law_1595 {a : Nat} {j : Int32} {Ls st : List Value} {h : AH} (hk : hK h a = 12) (hi : inA j (hN h a) = true) : ev L xs mdL_law 1595 (Ls) (.int j :: .ref a :: st) h = ev L xs mdL_law 1596 (Ls) (.long (hL h a j.toNatClampNeg) :: st) (h) := e_lald dL_law_1595 hk hi
theorem iL_law_1596 {v0 : Value} {v1 : Value} {v2 : Value} {v3 : Value} {v4 : Value} {v5 : Value} {x : Int32} {Ls st : List Value} {h : AH} : ev L xs mdL_law 1596 (v0 :: v1 :: v2 :: v3 :: v4 :: v5 :: .int x :: Ls) (st) h = ev L xs mdL_law 1598 (v0 :: v1 :: v2 :: v3 :: v4 :: v5 :: .int x :: Ls) (.int x :: st) (h) := e_iload dL_law_1596 rfl
theorem iL_law_1598 {x : Int32} {Ls st : List Value} {h : AH} : ev L xs mdL_law 1598 (Ls) (.int x :: st) h = ev L xs mdL_law 1599 (Ls) (.long x.toInt64 :: st) (h) := e_i2l dL_law_1598
theorem iL_law_1599 {x z : Int64} {Ls st : List Value} {h : AH} : ev L xs mdL_law 1599 (Ls) (.long z :: .long x :: st) h = ev L xs mdL_law 1600 (Ls) (.int (lg_cmp x z) :: st) (h) := e_lcmp dL_law_1599
theorem iL_law_1600 {x : Int32} {Ls st : List Value} {h : AH} : ev L xs mdL_law 1600 Ls (.int x :: st) h = if x = nI 0 then ev L xs mdL_law 1605 Ls st h else ev L xs mdL_law 1603 Ls st h := e_if_eq dL_law_1600 (by decide)
theorem iL_law_1603  {Ls st : List Value} {h : AH} : ev L xs mdL_law 1603 (Ls) (st) h = ev L xs mdL_law 1604 (Ls) (.int (nI 0) :: st) (h) := e_iconst dL_law_1603 (by decide)
theorem iL_law_1604 {v : Int32} {Ls : List Value} {h : AH} (hv : v = nI 0 ∨ v = nI 1) : ev L xs mdL_law 1604 Ls [.int v] h = some (.inl (some (.int v), h)) := e_zret dL_law_1604 rfl hv
theorem iL_law_1605  {Ls st : List Value} {h : AH} : ev L xs mdL_law 1605 (Ls) (st) h = ev L xs mdL_law 1622 (Ls) (st) (h) := e_goto dL_law_1605 (by decide)
theorem iL_law_1608 {v0 : Value} {x : Nat} {Ls st : List Value} {h : AH} : ev L xs mdL_law 1608 (v0 :: .ref x :: Ls) (st) h = ev L xs mdL_law 1609 (v0 :: .ref x :: Ls) (.ref x :: st) (h) := e_aload_n dL_law_1608 rfl
theorem iL_law_1609 {a : Nat} {Ls st : List Value} {h : AH} (hk : hK h a = 6) (hw : wds st ≤ 8) : ev L xs mdL_law 1609 Ls (.ref a :: st) h = kn L xs mdL_law 1609 1612 Ls st (ev L xs mdX6_digest 0 [.ref a, .null, .null, .null, .null] [] h) := e_callV (as := []) dL_law_1609 mr_8_177 (by decide) (by decide) rfl (by simp [wds, Value.category]; decide) rfl (by decide) hk hw
theorem iL_law_1612 {v0 : Value} {v1 : Value} {x : Nat} {Ls st : List Value} {h : AH} : ev L xs mdL_law 1612 (v0 :: v1 :: .ref x :: Ls) (st) h = ev L xs mdL_law 1613 (v0 :: v1 :: .ref x :: Ls) (.ref x :: st) (h) := e_aload_n dL_law_1612 rfl
theorem iL_law_1613 {a : Nat} {Ls st : List Value} {h : AH} (hk : hK h a = 7) (hw : wds st ≤ 8) : ev L xs mdL_law 1613 Ls (.ref a :: st) h = kn L xs mdL_law 1613 1616 Ls st (ev L xs mdX7_digest 0 [.ref a, .null, .null, .null, .null] [] h) := e_callV (as := []) dL_law_1613 mr_8_181 (by decide) (by decide) rfl (by simp [wds, Value.category]; decide) rfl (by decide) hk hw
theorem iL_law_1616 {x z : Int64} {Ls st : List Value} {h : AH} : ev L xs mdL_law 1616 (Ls) (.long z :: .long x :: st) h = ev L xs mdL_law 1617 (Ls) (.int (lg_cmp x z) :: st) (h) := e_lcmp dL_law_1616
theorem iL_law_1617 {x : Int32} {Ls st : List Value} {h : AH} : ev L xs mdL_law 1617 Ls (.int x :: st) h = if x = nI 0 then ev L xs mdL_law 1622 Ls st h else ev L xs mdL_law 1620 Ls st h := e_if_eq dL_law_1617 (by decide)
theorem iL_law_1620  {Ls st : List Value} {h : AH} : ev L xs mdL_law 1620 (Ls) (st) h = ev L xs mdL_law 1621 (Ls) (.int (nI 0) :: st) (h) := e_iconst dL_law_1620 (by decide)
theorem iL_law_1621 {v : Int32} {Ls : List Value} {h : AH} (hv : v = nI 0 ∨ v = nI 1) : ev L xs mdL_law 1621 Ls [.int v] h = some (.inl (some (.int v), h)) := e_zret dL_law_1621 rfl hv
theorem iL_law_1622 {v0 : Value} {v1 : Value} {v2 : Value} {v3 : Value} {x : Int32} {Ls st : List Value} {h : AH} (hc9 : v3.category = 1) : ev L xs mdL_law 1622 (v0 :: v1 :: v2 :: v3 :: .int x :: Ls) (st) h = ev L xs mdL_law 1625 (v0 :: v1 :: v2 :: v3 :: .int (x + (nI 4)) :: Ls) (st) (h) := e_iinc dL_law_1622 rfl rfl rfl (by decide) (by unfold catOK; show (_ || (v3.category == 1)) = true; rw [hc9]; rfl)
theorem iL_law_1625  {Ls st : List Value} {h : AH} : ev L xs mdL_law 1625 (Ls) (st) h = ev L xs mdL_law 23 (Ls) (st) (h) := e_goto dL_law_1625 (by decide)
theorem iL_law_1628  {Ls st : List Value} {h : AH} : ev L xs mdL_law 1628 (Ls) (st) h = ev L xs mdL_law 1629 (Ls) (.int (nI 1) :: st) (h) := e_iconst dL_law_1628 (by decide)
theorem iL_law_1629 {v : Int32} {Ls : List Value} {h : AH} (hv : v = nI 0 ∨ v = nI 1) : ev L xs mdL_law 1629 Ls [.int v] h = some (.inl (some (.int v), h)) := e_zret dL_law_1629 rfl hv
theorem dL_missed_0 : decode cL_missed 0 = .ok (.aload_n 3, 1) := by decide +kernel
theorem dL_missed_1 : decode cL_missed 1 = .ok (.iconst 0, 1) := by decide +kernel
theorem dL_missed_2 : decode cL_missed 2 = .ok (.aload_n 0, 1) := by decide +kernel
theorem dL_missed_3 : decode cL_missed 3 = .ok (.iload_n 1, 1) := by decide +kernel
theorem dL_missed_4 : decode cL_missed 4 = .ok (.iload_n 2, 1) := by decide +kernel
theorem dL_missed_5 : decode cL_missed 5 = .ok (.invokevirtual 71, 3) := by decide +kernel
theorem dL_missed_8 : decode cL_missed 8 = .ok (.i2l, 1) := by decide +kernel
theorem dL_missed_9 : decode cL_missed 9 = .ok (.lastore, 1) := by decide +kernel
theorem dL_missed_10 : decode cL_missed 10 = .ok (.goto 11, 3) := by decide +kernel
theorem dL_missed_13 : decode cL_missed 13 = .ok (.astore 4, 2) := by decide +kernel
theorem dL_missed_15 : decode cL_missed 15 = .ok (.iconst 1, 1) := by decide +kernel
theorem dL_missed_16 : decode cL_missed 16 = .ok (.ireturn, 1) := by decide +kernel
theorem dL_missed_17 : decode cL_missed 17 = .ok (.astore 4, 2) := by decide +kernel
theorem dL_missed_19 : decode cL_missed 19 = .ok (.iconst 2, 1) := by decide +kernel
theorem dL_missed_20 : decode cL_missed 20 = .ok (.ireturn, 1) := by decide +kernel
theorem dL_missed_21 : decode cL_missed 21 = .ok (.iconst 0, 1) := by decide +kernel
theorem dL_missed_22 : decode cL_missed 22 = .ok (.ireturn, 1) := by decide +kernel
theorem iL_missed_0 {v0 : Value} {v1 : Value} {v2 : Value} {x : Nat} {Ls st : List Value} {h : AH} : ev L xs mdL_missed 0 (v0 :: v1 :: v2 :: .ref x :: Ls) (st) h = ev L xs mdL_missed 1 (v0 :: v1 :: v2 :: .ref x :: Ls) (.ref x :: st) (h) := e_aload_n dL_missed_0 rfl
theorem iL_missed_1  {Ls st : List Value} {h : AH} : ev L xs mdL_missed 1 (Ls) (st) h = ev L xs mdL_missed 2 (Ls) (.int (nI 0) :: st) (h) := e_iconst dL_missed_1 (by decide)
theorem iL_missed_2 {x : Nat} {Ls st : List Value} {h : AH} : ev L xs mdL_missed 2 (.ref x :: Ls) (st) h = ev L xs mdL_missed 3 (.ref x :: Ls) (.ref x :: st) (h) := e_aload_n dL_missed_2 rfl
theorem iL_missed_3 {v0 : Value} {x : Int32} {Ls st : List Value} {h : AH} : ev L xs mdL_missed 3 (v0 :: .int x :: Ls) (st) h = ev L xs mdL_missed 4 (v0 :: .int x :: Ls) (.int x :: st) (h) := e_iload_n dL_missed_3 rfl
theorem iL_missed_4 {v0 : Value} {v1 : Value} {x : Int32} {Ls st : List Value} {h : AH} : ev L xs mdL_missed 4 (v0 :: v1 :: .int x :: Ls) (st) h = ev L xs mdL_missed 5 (v0 :: v1 :: .int x :: Ls) (.int x :: st) (h) := e_iload_n dL_missed_4 rfl
theorem iL_missed_5 {a : Nat} {p0 : Int32} {p1 : Int32} {Ls st : List Value} {h : AH} (hk : hK h a = 6) (hw : wds st ≤ 8) : ev L xs mdL_missed 5 Ls (.int p1 :: .int p0 :: .ref a :: st) h = kn L xs mdL_missed 5 8 Ls st (ev L xs mdX6_missed 0 [.ref a, .int p0, .int p1] [] h) := e_callV (as := [.int p1, .int p0]) dL_missed_5 mr_8_71 (by decide) (by decide) rfl (by simp [wds, Value.category]; decide) rfl (by decide) hk hw
theorem iL_missed_8 {x : Int32} {Ls st : List Value} {h : AH} : ev L xs mdL_missed 8 (Ls) (.int x :: st) h = ev L xs mdL_missed 9 (Ls) (.long x.toInt64 :: st) (h) := e_i2l dL_missed_8
theorem iL_missed_9 {a : Nat} {j : Int32} {v : Int64} {Ls st : List Value} {h : AH} (hk : hK h a = 12) (hi : inA j (hN h a) = true) : ev L xs mdL_missed 9 (Ls) (.long v :: .int j :: .ref a :: st) h = ev L xs mdL_missed 10 (Ls) (st) (sL h a j.toNatClampNeg v) := e_last dL_missed_9 hk hi
theorem iL_missed_10  {Ls st : List Value} {h : AH} : ev L xs mdL_missed 10 (Ls) (st) h = ev L xs mdL_missed 21 (Ls) (st) (h) := e_goto dL_missed_10 (by decide)
theorem iL_missed_13 {v0 : Value} {v1 : Value} {v2 : Value} {v3 : Value} {v4 : Value} {x : Nat} {Ls st : List Value} {h : AH} (hc9 : v3.category = 1) : ev L xs mdL_missed 13 (v0 :: v1 :: v2 :: v3 :: v4 :: Ls) (.ref x :: st) h = ev L xs mdL_missed 15 (v0 :: v1 :: v2 :: v3 :: .ref x :: Ls) (st) (h) := e_astore dL_missed_13 rfl (by decide) (by unfold catOK; show (_ || (v3.category == 1)) = true; rw [hc9]; rfl)
theorem iL_missed_15  {Ls st : List Value} {h : AH} : ev L xs mdL_missed 15 (Ls) (st) h = ev L xs mdL_missed 16 (Ls) (.int (nI 1) :: st) (h) := e_iconst dL_missed_15 (by decide)
theorem iL_missed_16 {v : Int32} {Ls : List Value} {h : AH} : ev L xs mdL_missed 16 Ls [.int v] h = some (.inl (some (.int v), h)) := e_iret dL_missed_16 rfl
theorem iL_missed_17 {v0 : Value} {v1 : Value} {v2 : Value} {v3 : Value} {v4 : Value} {x : Nat} {Ls st : List Value} {h : AH} (hc9 : v3.category = 1) : ev L xs mdL_missed 17 (v0 :: v1 :: v2 :: v3 :: v4 :: Ls) (.ref x :: st) h = ev L xs mdL_missed 19 (v0 :: v1 :: v2 :: v3 :: .ref x :: Ls) (st) (h) := e_astore dL_missed_17 rfl (by decide) (by unfold catOK; show (_ || (v3.category == 1)) = true; rw [hc9]; rfl)
theorem iL_missed_19  {Ls st : List Value} {h : AH} : ev L xs mdL_missed 19 (Ls) (st) h = ev L xs mdL_missed 20 (Ls) (.int (nI 2) :: st) (h) := e_iconst dL_missed_19 (by decide)
theorem iL_missed_20 {v : Int32} {Ls : List Value} {h : AH} : ev L xs mdL_missed 20 Ls [.int v] h = some (.inl (some (.int v), h)) := e_iret dL_missed_20 rfl
theorem iL_missed_21  {Ls st : List Value} {h : AH} : ev L xs mdL_missed 21 (Ls) (st) h = ev L xs mdL_missed 22 (Ls) (.int (nI 0) :: st) (h) := e_iconst dL_missed_21 (by decide)
theorem iL_missed_22 {v : Int32} {Ls : List Value} {h : AH} : ev L xs mdL_missed 22 Ls [.int v] h = some (.inl (some (.int v), h)) := e_iret dL_missed_22 rfl
theorem dL_needed_0 : decode cL_needed 0 = .ok (.aload_n 3, 1) := by decide +kernel
theorem dL_needed_1 : decode cL_needed 1 = .ok (.iconst 0, 1) := by decide +kernel
theorem dL_needed_2 : decode cL_needed 2 = .ok (.aload_n 0, 1) := by decide +kernel
theorem dL_needed_3 : decode cL_needed 3 = .ok (.iload_n 1, 1) := by decide +kernel
theorem dL_needed_4 : decode cL_needed 4 = .ok (.iload_n 2, 1) := by decide +kernel
theorem dL_needed_5 : decode cL_needed 5 = .ok (.invokevirtual 59, 3) := by decide +kernel
theorem dL_needed_8 : decode cL_needed 8 = .ok (.i2l, 1) := by decide +kernel
theorem dL_needed_9 : decode cL_needed 9 = .ok (.lastore, 1) := by decide +kernel
theorem dL_needed_10 : decode cL_needed 10 = .ok (.goto 7, 3) := by decide +kernel
theorem dL_needed_13 : decode cL_needed 13 = .ok (.astore 4, 2) := by decide +kernel
theorem dL_needed_15 : decode cL_needed 15 = .ok (.iconst 1, 1) := by decide +kernel
theorem dL_needed_16 : decode cL_needed 16 = .ok (.ireturn, 1) := by decide +kernel
theorem dL_needed_17 : decode cL_needed 17 = .ok (.iconst 0, 1) := by decide +kernel
theorem dL_needed_18 : decode cL_needed 18 = .ok (.ireturn, 1) := by decide +kernel
theorem iL_needed_0 {v0 : Value} {v1 : Value} {v2 : Value} {x : Nat} {Ls st : List Value} {h : AH} : ev L xs mdL_needed 0 (v0 :: v1 :: v2 :: .ref x :: Ls) (st) h = ev L xs mdL_needed 1 (v0 :: v1 :: v2 :: .ref x :: Ls) (.ref x :: st) (h) := e_aload_n dL_needed_0 rfl
theorem iL_needed_1  {Ls st : List Value} {h : AH} : ev L xs mdL_needed 1 (Ls) (st) h = ev L xs mdL_needed 2 (Ls) (.int (nI 0) :: st) (h) := e_iconst dL_needed_1 (by decide)
theorem iL_needed_2 {x : Nat} {Ls st : List Value} {h : AH} : ev L xs mdL_needed 2 (.ref x :: Ls) (st) h = ev L xs mdL_needed 3 (.ref x :: Ls) (.ref x :: st) (h) := e_aload_n dL_needed_2 rfl
theorem iL_needed_3 {v0 : Value} {x : Int32} {Ls st : List Value} {h : AH} : ev L xs mdL_needed 3 (v0 :: .int x :: Ls) (st) h = ev L xs mdL_needed 4 (v0 :: .int x :: Ls) (.int x :: st) (h) := e_iload_n dL_needed_3 rfl
theorem iL_needed_4 {v0 : Value} {v1 : Value} {x : Int32} {Ls st : List Value} {h : AH} : ev L xs mdL_needed 4 (v0 :: v1 :: .int x :: Ls) (st) h = ev L xs mdL_needed 5 (v0 :: v1 :: .int x :: Ls) (.int x :: st) (h) := e_iload_n dL_needed_4 rfl
theorem iL_needed_5 {a : Nat} {p0 : Int32} {p1 : Int32} {Ls st : List Value} {h : AH} (hk : hK h a = 6) (hw : wds st ≤ 8) : ev L xs mdL_needed 5 Ls (.int p1 :: .int p0 :: .ref a :: st) h = kn L xs mdL_needed 5 8 Ls st (ev L xs mdX6_needed 0 [.ref a, .int p0, .int p1] [] h) := e_callV (as := [.int p1, .int p0]) dL_needed_5 mr_8_59 (by decide) (by decide) rfl (by simp [wds, Value.category]; decide) rfl (by decide) hk hw
theorem iL_needed_8 {x : Int32} {Ls st : List Value} {h : AH} : ev L xs mdL_needed 8 (Ls) (.int x :: st) h = ev L xs mdL_needed 9 (Ls) (.long x.toInt64 :: st) (h) := e_i2l dL_needed_8
theorem iL_needed_9 {a : Nat} {j : Int32} {v : Int64} {Ls st : List Value} {h : AH} (hk : hK h a = 12) (hi : inA j (hN h a) = true) : ev L xs mdL_needed 9 (Ls) (.long v :: .int j :: .ref a :: st) h = ev L xs mdL_needed 10 (Ls) (st) (sL h a j.toNatClampNeg v) := e_last dL_needed_9 hk hi
theorem iL_needed_10  {Ls st : List Value} {h : AH} : ev L xs mdL_needed 10 (Ls) (st) h = ev L xs mdL_needed 17 (Ls) (st) (h) := e_goto dL_needed_10 (by decide)
theorem iL_needed_13 {v0 : Value} {v1 : Value} {v2 : Value} {v3 : Value} {v4 : Value} {x : Nat} {Ls st : List Value} {h : AH} (hc9 : v3.category = 1) : ev L xs mdL_needed 13 (v0 :: v1 :: v2 :: v3 :: v4 :: Ls) (.ref x :: st) h = ev L xs mdL_needed 15 (v0 :: v1 :: v2 :: v3 :: .ref x :: Ls) (st) (h) := e_astore dL_needed_13 rfl (by decide) (by unfold catOK; show (_ || (v3.category == 1)) = true; rw [hc9]; rfl)
theorem iL_needed_15  {Ls st : List Value} {h : AH} : ev L xs mdL_needed 15 (Ls) (st) h = ev L xs mdL_needed 16 (Ls) (.int (nI 1) :: st) (h) := e_iconst dL_needed_15 (by decide)
theorem iL_needed_16 {v : Int32} {Ls : List Value} {h : AH} : ev L xs mdL_needed 16 Ls [.int v] h = some (.inl (some (.int v), h)) := e_iret dL_needed_16 rfl
theorem iL_needed_17  {Ls st : List Value} {h : AH} : ev L xs mdL_needed 17 (Ls) (st) h = ev L xs mdL_needed 18 (Ls) (.int (nI 0) :: st) (h) := e_iconst dL_needed_17 (by decide)
theorem iL_needed_18 {v : Int32} {Ls : List Value} {h : AH} : ev L xs mdL_needed 18 Ls [.int v] h = some (.inl (some (.int v), h)) := e_iret dL_needed_18 rfl
theorem dL_open_0 : decode cL_open 0 = .ok (.aload_n 3, 1) := by decide +kernel
theorem dL_open_1 : decode cL_open 1 = .ok (.iconst 0, 1) := by decide +kernel
theorem dL_open_2 : decode cL_open 2 = .ok (.aload_n 0, 1) := by decide +kernel
theorem dL_open_3 : decode cL_open 3 = .ok (.iload_n 1, 1) := by decide +kernel
theorem dL_open_4 : decode cL_open 4 = .ok (.iload_n 2, 1) := by decide +kernel
theorem dL_open_5 : decode cL_open 5 = .ok (.invokevirtual 62, 3) := by decide +kernel
theorem dL_open_8 : decode cL_open 8 = .ok (.i2l, 1) := by decide +kernel
theorem dL_open_9 : decode cL_open 9 = .ok (.lastore, 1) := by decide +kernel
theorem dL_open_10 : decode cL_open 10 = .ok (.goto 7, 3) := by decide +kernel
theorem dL_open_13 : decode cL_open 13 = .ok (.astore 4, 2) := by decide +kernel
theorem dL_open_15 : decode cL_open 15 = .ok (.iconst 1, 1) := by decide +kernel
theorem dL_open_16 : decode cL_open 16 = .ok (.ireturn, 1) := by decide +kernel
theorem dL_open_17 : decode cL_open 17 = .ok (.iconst 0, 1) := by decide +kernel
theorem dL_open_18 : decode cL_open 18 = .ok (.ireturn, 1) := by decide +kernel
theorem iL_open_0 {v0 : Value} {v1 : Value} {v2 : Value} {x : Nat} {Ls st : List Value} {h : AH} : ev L xs mdL_open 0 (v0 :: v1 :: v2 :: .ref x :: Ls) (st) h = ev L xs mdL_open 1 (v0 :: v1 :: v2 :: .ref x :: Ls) (.ref x :: st) (h) := e_aload_n dL_open_0 rfl
theorem iL_open_1  {Ls st : List Value} {h : AH} : ev L xs mdL_open 1 (Ls) (st) h = ev L xs mdL_open 2 (Ls) (.int (nI 0) :: st) (h) := e_iconst dL_open_1 (by decide)
theorem iL_open_2 {x : Nat} {Ls st : List Value} {h : AH} : ev L xs mdL_open 2 (.ref x :: Ls) (st) h = ev L xs mdL_open 3 (.ref x :: Ls) (.ref x :: st) (h) := e_aload_n dL_open_2 rfl
theorem iL_open_3 {v0 : Value} {x : Int32} {Ls st : List Value} {h : AH} : ev L xs mdL_open 3 (v0 :: .int x :: Ls) (st) h = ev L xs mdL_open 4 (v0 :: .int x :: Ls) (.int x :: st) (h) := e_iload_n dL_open_3 rfl
theorem iL_open_4 {v0 : Value} {v1 : Value} {x : Int32} {Ls st : List Value} {h : AH} : ev L xs mdL_open 4 (v0 :: v1 :: .int x :: Ls) (st) h = ev L xs mdL_open 5 (v0 :: v1 :: .int x :: Ls) (.int x :: st) (h) := e_iload_n dL_open_4 rfl
theorem iL_open_5 {a : Nat} {p0 : Int32} {p1 : Int32} {Ls st : List Value} {h : AH} (hk : hK h a = 6) (hw : wds st ≤ 8) : ev L xs mdL_open 5 Ls (.int p1 :: .int p0 :: .ref a :: st) h = kn L xs mdL_open 5 8 Ls st (ev L xs mdX6_open 0 [.ref a, .int p0, .int p1] [] h) := e_callV (as := [.int p1, .int p0]) dL_open_5 mr_8_62 (by decide) (by decide) rfl (by simp [wds, Value.category]; decide) rfl (by decide) hk hw
theorem iL_open_8 {x : Int32} {Ls st : List Value} {h : AH} : ev L xs mdL_open 8 (Ls) (.int x :: st) h = ev L xs mdL_open 9 (Ls) (.long x.toInt64 :: st) (h) := e_i2l dL_open_8
theorem iL_open_9 {a : Nat} {j : Int32} {v : Int64} {Ls st : List Value} {h : AH} (hk : hK h a = 12) (hi : inA j (hN h a) = true) : ev L xs mdL_open 9 (Ls) (.long v :: .int j :: .ref a :: st) h = ev L xs mdL_open 10 (Ls) (st) (sL h a j.toNatClampNeg v) := e_last dL_open_9 hk hi
theorem iL_open_10  {Ls st : List Value} {h : AH} : ev L xs mdL_open 10 (Ls) (st) h = ev L xs mdL_open 17 (Ls) (st) (h) := e_goto dL_open_10 (by decide)
theorem iL_open_13 {v0 : Value} {v1 : Value} {v2 : Value} {v3 : Value} {v4 : Value} {x : Nat} {Ls st : List Value} {h : AH} (hc9 : v3.category = 1) : ev L xs mdL_open 13 (v0 :: v1 :: v2 :: v3 :: v4 :: Ls) (.ref x :: st) h = ev L xs mdL_open 15 (v0 :: v1 :: v2 :: v3 :: .ref x :: Ls) (st) (h) := e_astore dL_open_13 rfl (by decide) (by unfold catOK; show (_ || (v3.category == 1)) = true; rw [hc9]; rfl)
theorem iL_open_15  {Ls st : List Value} {h : AH} : ev L xs mdL_open 15 (Ls) (st) h = ev L xs mdL_open 16 (Ls) (.int (nI 1) :: st) (h) := e_iconst dL_open_15 (by decide)
theorem iL_open_16 {v : Int32} {Ls : List Value} {h : AH} : ev L xs mdL_open 16 Ls [.int v] h = some (.inl (some (.int v), h)) := e_iret dL_open_16 rfl
theorem iL_open_17  {Ls st : List Value} {h : AH} : ev L xs mdL_open 17 (Ls) (st) h = ev L xs mdL_open 18 (Ls) (.int (nI 0) :: st) (h) := e_iconst dL_open_17 (by decide)
theorem iL_open_18 {v : Int32} {Ls : List Value} {h : AH} : ev L xs mdL_open 18 Ls [.int v] h = some (.inl (some (.int v), h)) := e_iret dL_open_18 rfl
theorem dL_pass_0 : decode cL_pass 0 = .ok (.aload_n 2, 1) := by decide +kernel
theorem dL_pass_1 : decode cL_pass 1 = .ok (.iconst 0, 1) := by decide +kernel
theorem dL_pass_2 : decode cL_pass 2 = .ok (.aload_n 0, 1) := by decide +kernel
theorem dL_pass_3 : decode cL_pass 3 = .ok (.iload_n 1, 1) := by decide +kernel
theorem dL_pass_4 : decode cL_pass 4 = .ok (.invokevirtual 43, 3) := by decide +kernel
theorem dL_pass_7 : decode cL_pass 7 = .ok (.i2l, 1) := by decide +kernel
theorem dL_pass_8 : decode cL_pass 8 = .ok (.lastore, 1) := by decide +kernel
theorem dL_pass_9 : decode cL_pass 9 = .ok (.goto 9, 3) := by decide +kernel
theorem dL_pass_12 : decode cL_pass 12 = .ok (.astore_n 3, 1) := by decide +kernel
theorem dL_pass_13 : decode cL_pass 13 = .ok (.iconst 1, 1) := by decide +kernel
theorem dL_pass_14 : decode cL_pass 14 = .ok (.ireturn, 1) := by decide +kernel
theorem dL_pass_15 : decode cL_pass 15 = .ok (.astore_n 3, 1) := by decide +kernel
theorem dL_pass_16 : decode cL_pass 16 = .ok (.iconst 2, 1) := by decide +kernel
theorem dL_pass_17 : decode cL_pass 17 = .ok (.ireturn, 1) := by decide +kernel
theorem dL_pass_18 : decode cL_pass 18 = .ok (.iconst 0, 1) := by decide +kernel
theorem dL_pass_19 : decode cL_pass 19 = .ok (.ireturn, 1) := by decide +kernel
theorem iL_pass_0 {v0 : Value} {v1 : Value} {x : Nat} {Ls st : List Value} {h : AH} : ev L xs mdL_pass 0 (v0 :: v1 :: .ref x :: Ls) (st) h = ev L xs mdL_pass 1 (v0 :: v1 :: .ref x :: Ls) (.ref x :: st) (h) := e_aload_n dL_pass_0 rfl
theorem iL_pass_1  {Ls st : List Value} {h : AH} : ev L xs mdL_pass 1 (Ls) (st) h = ev L xs mdL_pass 2 (Ls) (.int (nI 0) :: st) (h) := e_iconst dL_pass_1 (by decide)
theorem iL_pass_2 {x : Nat} {Ls st : List Value} {h : AH} : ev L xs mdL_pass 2 (.ref x :: Ls) (st) h = ev L xs mdL_pass 3 (.ref x :: Ls) (.ref x :: st) (h) := e_aload_n dL_pass_2 rfl
theorem iL_pass_3 {v0 : Value} {x : Int32} {Ls st : List Value} {h : AH} : ev L xs mdL_pass 3 (v0 :: .int x :: Ls) (st) h = ev L xs mdL_pass 4 (v0 :: .int x :: Ls) (.int x :: st) (h) := e_iload_n dL_pass_3 rfl
theorem iL_pass_4 {a : Nat} {p0 : Int32} {Ls st : List Value} {h : AH} (hk : hK h a = 6) (hw : wds st ≤ 8) : ev L xs mdL_pass 4 Ls (.int p0 :: .ref a :: st) h = kn L xs mdL_pass 4 7 Ls st (ev L xs mdX6_pass 0 [.ref a, .int p0] [] h) := e_callV (as := [.int p0]) dL_pass_4 mr_8_43 (by decide) (by decide) rfl (by simp [wds, Value.category]; decide) rfl (by decide) hk hw
theorem iL_pass_7 {x : Int32} {Ls st : List Value} {h : AH} : ev L xs mdL_pass 7 (Ls) (.int x :: st) h = ev L xs mdL_pass 8 (Ls) (.long x.toInt64 :: st) (h) := e_i2l dL_pass_7
theorem iL_pass_8 {a : Nat} {j : Int32} {v : Int64} {Ls st : List Value} {h : AH} (hk : hK h a = 12) (hi : inA j (hN h a) = true) : ev L xs mdL_pass 8 (Ls) (.long v :: .int j :: .ref a :: st) h = ev L xs mdL_pass 9 (Ls) (st) (sL h a j.toNatClampNeg v) := e_last dL_pass_8 hk hi
theorem iL_pass_9  {Ls st : List Value} {h : AH} : ev L xs mdL_pass 9 (Ls) (st) h = ev L xs mdL_pass 18 (Ls) (st) (h) := e_goto dL_pass_9 (by decide)
theorem iL_pass_12 {v0 : Value} {v1 : Value} {v2 : Value} {v3 : Value} {x : Nat} {Ls st : List Value} {h : AH} (hc9 : v2.category = 1) : ev L xs mdL_pass 12 (v0 :: v1 :: v2 :: v3 :: Ls) (.ref x :: st) h = ev L xs mdL_pass 13 (v0 :: v1 :: v2 :: .ref x :: Ls) (st) (h) := e_astore_n dL_pass_12 rfl (by decide) (by unfold catOK; show (_ || (v2.category == 1)) = true; rw [hc9]; rfl)
theorem iL_pass_13  {Ls st : List Value} {h : AH} : ev L xs mdL_pass 13 (Ls) (st) h = ev L xs mdL_pass 14 (Ls) (.int (nI 1) :: st) (h) := e_iconst dL_pass_13 (by decide)
theorem iL_pass_14 {v : Int32} {Ls : List Value} {h : AH} : ev L xs mdL_pass 14 Ls [.int v] h = some (.inl (some (.int v), h)) := e_iret dL_pass_14 rfl
theorem iL_pass_15 {v0 : Value} {v1 : Value} {v2 : Value} {v3 : Value} {x : Nat} {Ls st : List Value} {h : AH} (hc9 : v2.category = 1) : ev L xs mdL_pass 15 (v0 :: v1 :: v2 :: v3 :: Ls) (.ref x :: st) h = ev L xs mdL_pass 16 (v0 :: v1 :: v2 :: .ref x :: Ls) (st) (h) := e_astore_n dL_pass_15 rfl (by decide) (by unfold catOK; show (_ || (v2.category == 1)) = true; rw [hc9]; rfl)
theorem iL_pass_16  {Ls st : List Value} {h : AH} : ev L xs mdL_pass 16 (Ls) (st) h = ev L xs mdL_pass 17 (Ls) (.int (nI 2) :: st) (h) := e_iconst dL_pass_16 (by decide)
theorem iL_pass_17 {v : Int32} {Ls : List Value} {h : AH} : ev L xs mdL_pass 17 Ls [.int v] h = some (.inl (some (.int v), h)) := e_iret dL_pass_17 rfl
theorem iL_pass_18  {Ls st : List Value} {h : AH} : ev L xs mdL_pass 18 (Ls) (st) h = ev L xs mdL_pass 19 (Ls) (.int (nI 0) :: st) (h) := e_iconst dL_pass_18 (by decide)
theorem iL_pass_19 {v : Int32} {Ls : List Value} {h : AH} : ev L xs mdL_pass 19 Ls [.int v] h = some (.inl (some (.int v), h)) := e_iret dL_pass_19 rfl
theorem dL_post_0 : decode cL_post 0 = .ok (.aload_n 3, 1) := by decide +kernel
theorem dL_post_1 : decode cL_post 1 = .ok (.iconst 0, 1) := by decide +kernel
theorem dL_post_2 : decode cL_post 2 = .ok (.aload_n 0, 1) := by decide +kernel
theorem dL_post_3 : decode cL_post 3 = .ok (.iload_n 1, 1) := by decide +kernel
theorem dL_post_4 : decode cL_post 4 = .ok (.iload_n 2, 1) := by decide +kernel
theorem dL_post_5 : decode cL_post 5 = .ok (.invokevirtual 46, 3) := by decide +kernel
theorem dL_post_8 : decode cL_post 8 = .ok (.i2l, 1) := by decide +kernel
theorem dL_post_9 : decode cL_post 9 = .ok (.lastore, 1) := by decide +kernel
theorem dL_post_10 : decode cL_post 10 = .ok (.goto 11, 3) := by decide +kernel
theorem dL_post_13 : decode cL_post 13 = .ok (.astore 4, 2) := by decide +kernel
theorem dL_post_15 : decode cL_post 15 = .ok (.iconst 1, 1) := by decide +kernel
theorem dL_post_16 : decode cL_post 16 = .ok (.ireturn, 1) := by decide +kernel
theorem dL_post_17 : decode cL_post 17 = .ok (.astore 4, 2) := by decide +kernel
theorem dL_post_19 : decode cL_post 19 = .ok (.iconst 2, 1) := by decide +kernel
theorem dL_post_20 : decode cL_post 20 = .ok (.ireturn, 1) := by decide +kernel
theorem dL_post_21 : decode cL_post 21 = .ok (.iconst 0, 1) := by decide +kernel
theorem dL_post_22 : decode cL_post 22 = .ok (.ireturn, 1) := by decide +kernel
theorem iL_post_0 {v0 : Value} {v1 : Value} {v2 : Value} {x : Nat} {Ls st : List Value} {h : AH} : ev L xs mdL_post 0 (v0 :: v1 :: v2 :: .ref x :: Ls) (st) h = ev L xs mdL_post 1 (v0 :: v1 :: v2 :: .ref x :: Ls) (.ref x :: st) (h) := e_aload_n dL_post_0 rfl
theorem iL_post_1  {Ls st : List Value} {h : AH} : ev L xs mdL_post 1 (Ls) (st) h = ev L xs mdL_post 2 (Ls) (.int (nI 0) :: st) (h) := e_iconst dL_post_1 (by decide)
theorem iL_post_2 {x : Nat} {Ls st : List Value} {h : AH} : ev L xs mdL_post 2 (.ref x :: Ls) (st) h = ev L xs mdL_post 3 (.ref x :: Ls) (.ref x :: st) (h) := e_aload_n dL_post_2 rfl
theorem iL_post_3 {v0 : Value} {x : Int32} {Ls st : List Value} {h : AH} : ev L xs mdL_post 3 (v0 :: .int x :: Ls) (st) h = ev L xs mdL_post 4 (v0 :: .int x :: Ls) (.int x :: st) (h) := e_iload_n dL_post_3 rfl
theorem iL_post_4 {v0 : Value} {v1 : Value} {x : Int32} {Ls st : List Value} {h : AH} : ev L xs mdL_post 4 (v0 :: v1 :: .int x :: Ls) (st) h = ev L xs mdL_post 5 (v0 :: v1 :: .int x :: Ls) (.int x :: st) (h) := e_iload_n dL_post_4 rfl
theorem iL_post_5 {a : Nat} {p0 : Int32} {p1 : Int32} {Ls st : List Value} {h : AH} (hk : hK h a = 6) (hw : wds st ≤ 8) : ev L xs mdL_post 5 Ls (.int p1 :: .int p0 :: .ref a :: st) h = kn L xs mdL_post 5 8 Ls st (ev L xs mdX6_post 0 [.ref a, .int p0, .int p1] [] h) := e_callV (as := [.int p1, .int p0]) dL_post_5 mr_8_46 (by decide) (by decide) rfl (by simp [wds, Value.category]; decide) rfl (by decide) hk hw
theorem iL_post_8 {x : Int32} {Ls st : List Value} {h : AH} : ev L xs mdL_post 8 (Ls) (.int x :: st) h = ev L xs mdL_post 9 (Ls) (.long x.toInt64 :: st) (h) := e_i2l dL_post_8
theorem iL_post_9 {a : Nat} {j : Int32} {v : Int64} {Ls st : List Value} {h : AH} (hk : hK h a = 12) (hi : inA j (hN h a) = true) : ev L xs mdL_post 9 (Ls) (.long v :: .int j :: .ref a :: st) h = ev L xs mdL_post 10 (Ls) (st) (sL h a j.toNatClampNeg v) := e_last dL_post_9 hk hi
theorem iL_post_10  {Ls st : List Value} {h : AH} : ev L xs mdL_post 10 (Ls) (st) h = ev L xs mdL_post 21 (Ls) (st) (h) := e_goto dL_post_10 (by decide)
theorem iL_post_13 {v0 : Value} {v1 : Value} {v2 : Value} {v3 : Value} {v4 : Value} {x : Nat} {Ls st : List Value} {h : AH} (hc9 : v3.category = 1) : ev L xs mdL_post 13 (v0 :: v1 :: v2 :: v3 :: v4 :: Ls) (.ref x :: st) h = ev L xs mdL_post 15 (v0 :: v1 :: v2 :: v3 :: .ref x :: Ls) (st) (h) := e_astore dL_post_13 rfl (by decide) (by unfold catOK; show (_ || (v3.category == 1)) = true; rw [hc9]; rfl)
theorem iL_post_15  {Ls st : List Value} {h : AH} : ev L xs mdL_post 15 (Ls) (st) h = ev L xs mdL_post 16 (Ls) (.int (nI 1) :: st) (h) := e_iconst dL_post_15 (by decide)
theorem iL_post_16 {v : Int32} {Ls : List Value} {h : AH} : ev L xs mdL_post 16 Ls [.int v] h = some (.inl (some (.int v), h)) := e_iret dL_post_16 rfl
theorem iL_post_17 {v0 : Value} {v1 : Value} {v2 : Value} {v3 : Value} {v4 : Value} {x : Nat} {Ls st : List Value} {h : AH} (hc9 : v3.category = 1) : ev L xs mdL_post 17 (v0 :: v1 :: v2 :: v3 :: v4 :: Ls) (.ref x :: st) h = ev L xs mdL_post 19 (v0 :: v1 :: v2 :: v3 :: .ref x :: Ls) (st) (h) := e_astore dL_post_17 rfl (by decide) (by unfold catOK; show (_ || (v3.category == 1)) = true; rw [hc9]; rfl)
theorem iL_post_19  {Ls st : List Value} {h : AH} : ev L xs mdL_post 19 (Ls) (st) h = ev L xs mdL_post 20 (Ls) (.int (nI 2) :: st) (h) := e_iconst dL_post_19 (by decide)
theorem iL_post_20 {v : Int32} {Ls : List Value} {h : AH} : ev L xs mdL_post 20 Ls [.int v] h = some (.inl (some (.int v), h)) := e_iret dL_post_20 rfl
theorem iL_post_21  {Ls st : List Value} {h : AH} : ev L xs mdL_post 21 (Ls) (st) h = ev L xs mdL_post 22 (Ls) (.int (nI 0) :: st) (h) := e_iconst dL_post_21 (by decide)
theorem iL_post_22 {v : Int32} {Ls : List Value} {h : AH} : ev L xs mdL_post 22 Ls [.int v] h = some (.inl (some (.int v), h)) := e_iret dL_post_22 rfl
theorem dL_setNeeds_0 : decode cL_setNeeds 0 = .ok (.aload_n 3, 1) := by decide +kernel
theorem dL_setNeeds_1 : decode cL_setNeeds 1 = .ok (.iconst 0, 1) := by decide +kernel
theorem dL_setNeeds_2 : decode cL_setNeeds 2 = .ok (.aload_n 0, 1) := by decide +kernel
theorem dL_setNeeds_3 : decode cL_setNeeds 3 = .ok (.iload_n 1, 1) := by decide +kernel
theorem dL_setNeeds_4 : decode cL_setNeeds 4 = .ok (.iload_n 2, 1) := by decide +kernel
theorem dL_setNeeds_5 : decode cL_setNeeds 5 = .ok (.invokevirtual 20, 3) := by decide +kernel
theorem dL_setNeeds_8 : decode cL_setNeeds 8 = .ok (.i2l, 1) := by decide +kernel
theorem dL_setNeeds_9 : decode cL_setNeeds 9 = .ok (.lastore, 1) := by decide +kernel
theorem dL_setNeeds_10 : decode cL_setNeeds 10 = .ok (.goto 11, 3) := by decide +kernel
theorem dL_setNeeds_13 : decode cL_setNeeds 13 = .ok (.astore 4, 2) := by decide +kernel
theorem dL_setNeeds_15 : decode cL_setNeeds 15 = .ok (.iconst 1, 1) := by decide +kernel
theorem dL_setNeeds_16 : decode cL_setNeeds 16 = .ok (.ireturn, 1) := by decide +kernel
theorem dL_setNeeds_17 : decode cL_setNeeds 17 = .ok (.astore 4, 2) := by decide +kernel
theorem dL_setNeeds_19 : decode cL_setNeeds 19 = .ok (.iconst 2, 1) := by decide +kernel
theorem dL_setNeeds_20 : decode cL_setNeeds 20 = .ok (.ireturn, 1) := by decide +kernel
theorem dL_setNeeds_21 : decode cL_setNeeds 21 = .ok (.iconst 0, 1) := by decide +kernel
theorem dL_setNeeds_22 : decode cL_setNeeds 22 = .ok (.ireturn, 1) := by decide +kernel
theorem iL_setNeeds_0 {v0 : Value} {v1 : Value} {v2 : Value} {x : Nat} {Ls st : List Value} {h : AH} : ev L xs mdL_setNeeds 0 (v0 :: v1 :: v2 :: .ref x :: Ls) (st) h = ev L xs mdL_setNeeds 1 (v0 :: v1 :: v2 :: .ref x :: Ls) (.ref x :: st) (h) := e_aload_n dL_setNeeds_0 rfl
theorem iL_setNeeds_1  {Ls st : List Value} {h : AH} : ev L xs mdL_setNeeds 1 (Ls) (st) h = ev L xs mdL_setNeeds 2 (Ls) (.int (nI 0) :: st) (h) := e_iconst dL_setNeeds_1 (by decide)
theorem iL_setNeeds_2 {x : Nat} {Ls st : List Value} {h : AH} : ev L xs mdL_setNeeds 2 (.ref x :: Ls) (st) h = ev L xs mdL_setNeeds 3 (.ref x :: Ls) (.ref x :: st) (h) := e_aload_n dL_setNeeds_2 rfl
theorem iL_setNeeds_3 {v0 : Value} {x : Int32} {Ls st : List Value} {h : AH} : ev L xs mdL_setNeeds 3 (v0 :: .int x :: Ls) (st) h = ev L xs mdL_setNeeds 4 (v0 :: .int x :: Ls) (.int x :: st) (h) := e_iload_n dL_setNeeds_3 rfl
theorem iL_setNeeds_4 {v0 : Value} {v1 : Value} {x : Int32} {Ls st : List Value} {h : AH} : ev L xs mdL_setNeeds 4 (v0 :: v1 :: .int x :: Ls) (st) h = ev L xs mdL_setNeeds 5 (v0 :: v1 :: .int x :: Ls) (.int x :: st) (h) := e_iload_n dL_setNeeds_4 rfl
theorem iL_setNeeds_5 {a : Nat} {p0 : Int32} {p1 : Int32} {Ls st : List Value} {h : AH} (hk : hK h a = 6) (hw : wds st ≤ 8) : ev L xs mdL_setNeeds 5 Ls (.int p1 :: .int p0 :: .ref a :: st) h = kn L xs mdL_setNeeds 5 8 Ls st (ev L xs mdX6_setNeeds 0 [.ref a, .int p0, .int p1, .null] [] h) := e_callV (as := [.int p1, .int p0]) dL_setNeeds_5 mr_8_20 (by decide) (by decide) rfl (by simp [wds, Value.category]; decide) rfl (by decide) hk hw
theorem iL_setNeeds_8 {x : Int32} {Ls st : List Value} {h : AH} : ev L xs mdL_setNeeds 8 (Ls) (.int x :: st) h = ev L xs mdL_setNeeds 9 (Ls) (.long x.toInt64 :: st) (h) := e_i2l dL_setNeeds_8
theorem iL_setNeeds_9 {a : Nat} {j : Int32} {v : Int64} {Ls st : List Value} {h : AH} (hk : hK h a = 12) (hi : inA j (hN h a) = true) : ev L xs mdL_setNeeds 9 (Ls) (.long v :: .int j :: .ref a :: st) h = ev L xs mdL_setNeeds 10 (Ls) (st) (sL h a j.toNatClampNeg v) := e_last dL_setNeeds_9 hk hi
theorem iL_setNeeds_10  {Ls st : List Value} {h : AH} : ev L xs mdL_setNeeds 10 (Ls) (st) h = ev L xs mdL_setNeeds 21 (Ls) (st) (h) := e_goto dL_setNeeds_10 (by decide)
theorem iL_setNeeds_13 {v0 : Value} {v1 : Value} {v2 : Value} {v3 : Value} {v4 : Value} {x : Nat} {Ls st : List Value} {h : AH} (hc9 : v3.category = 1) : ev L xs mdL_setNeeds 13 (v0 :: v1 :: v2 :: v3 :: v4 :: Ls) (.ref x :: st) h = ev L xs mdL_setNeeds 15 (v0 :: v1 :: v2 :: v3 :: .ref x :: Ls) (st) (h) := e_astore dL_setNeeds_13 rfl (by decide) (by unfold catOK; show (_ || (v3.category == 1)) = true; rw [hc9]; rfl)
theorem iL_setNeeds_15  {Ls st : List Value} {h : AH} : ev L xs mdL_setNeeds 15 (Ls) (st) h = ev L xs mdL_setNeeds 16 (Ls) (.int (nI 1) :: st) (h) := e_iconst dL_setNeeds_15 (by decide)
theorem iL_setNeeds_16 {v : Int32} {Ls : List Value} {h : AH} : ev L xs mdL_setNeeds 16 Ls [.int v] h = some (.inl (some (.int v), h)) := e_iret dL_setNeeds_16 rfl
theorem iL_setNeeds_17 {v0 : Value} {v1 : Value} {v2 : Value} {v3 : Value} {v4 : Value} {x : Nat} {Ls st : List Value} {h : AH} (hc9 : v3.category = 1) : ev L xs mdL_setNeeds 17 (v0 :: v1 :: v2 :: v3 :: v4 :: Ls) (.ref x :: st) h = ev L xs mdL_setNeeds 19 (v0 :: v1 :: v2 :: v3 :: .ref x :: Ls) (st) (h) := e_astore dL_setNeeds_17 rfl (by decide) (by unfold catOK; show (_ || (v3.category == 1)) = true; rw [hc9]; rfl)
theorem iL_setNeeds_19  {Ls st : List Value} {h : AH} : ev L xs mdL_setNeeds 19 (Ls) (st) h = ev L xs mdL_setNeeds 20 (Ls) (.int (nI 2) :: st) (h) := e_iconst dL_setNeeds_19 (by decide)
theorem iL_setNeeds_20 {v : Int32} {Ls : List Value} {h : AH} : ev L xs mdL_setNeeds 20 Ls [.int v] h = some (.inl (some (.int v), h)) := e_iret dL_setNeeds_20 rfl
theorem iL_setNeeds_21  {Ls st : List Value} {h : AH} : ev L xs mdL_setNeeds 21 (Ls) (st) h = ev L xs mdL_setNeeds 22 (Ls) (.int (nI 0) :: st) (h) := e_iconst dL_setNeeds_21 (by decide)
theorem iL_setNeeds_22 {v : Int32} {Ls : List Value} {h : AH} : ev L xs mdL_setNeeds 22 Ls [.int v] h = some (.inl (some (.int v), h)) := e_iret dL_setNeeds_22 rfl
theorem dL_setPost_0 : decode cL_setPost 0 = .ok (.aload_n 3, 1) := by decide +kernel
theorem dL_setPost_1 : decode cL_setPost 1 = .ok (.iconst 0, 1) := by decide +kernel
theorem dL_setPost_2 : decode cL_setPost 2 = .ok (.aload_n 0, 1) := by decide +kernel
theorem dL_setPost_3 : decode cL_setPost 3 = .ok (.iload_n 1, 1) := by decide +kernel
theorem dL_setPost_4 : decode cL_setPost 4 = .ok (.iload_n 2, 1) := by decide +kernel
theorem dL_setPost_5 : decode cL_setPost 5 = .ok (.invokevirtual 29, 3) := by decide +kernel
theorem dL_setPost_8 : decode cL_setPost 8 = .ok (.i2l, 1) := by decide +kernel
theorem dL_setPost_9 : decode cL_setPost 9 = .ok (.lastore, 1) := by decide +kernel
theorem dL_setPost_10 : decode cL_setPost 10 = .ok (.goto 11, 3) := by decide +kernel
theorem dL_setPost_13 : decode cL_setPost 13 = .ok (.astore 4, 2) := by decide +kernel
theorem dL_setPost_15 : decode cL_setPost 15 = .ok (.iconst 1, 1) := by decide +kernel
theorem dL_setPost_16 : decode cL_setPost 16 = .ok (.ireturn, 1) := by decide +kernel
theorem dL_setPost_17 : decode cL_setPost 17 = .ok (.astore 4, 2) := by decide +kernel
theorem dL_setPost_19 : decode cL_setPost 19 = .ok (.iconst 2, 1) := by decide +kernel
theorem dL_setPost_20 : decode cL_setPost 20 = .ok (.ireturn, 1) := by decide +kernel
theorem dL_setPost_21 : decode cL_setPost 21 = .ok (.iconst 0, 1) := by decide +kernel
theorem dL_setPost_22 : decode cL_setPost 22 = .ok (.ireturn, 1) := by decide +kernel
theorem iL_setPost_0 {v0 : Value} {v1 : Value} {v2 : Value} {x : Nat} {Ls st : List Value} {h : AH} : ev L xs mdL_setPost 0 (v0 :: v1 :: v2 :: .ref x :: Ls) (st) h = ev L xs mdL_setPost 1 (v0 :: v1 :: v2 :: .ref x :: Ls) (.ref x :: st) (h) := e_aload_n dL_setPost_0 rfl
theorem iL_setPost_1  {Ls st : List Value} {h : AH} : ev L xs mdL_setPost 1 (Ls) (st) h = ev L xs mdL_setPost 2 (Ls) (.int (nI 0) :: st) (h) := e_iconst dL_setPost_1 (by decide)
theorem iL_setPost_2 {x : Nat} {Ls st : List Value} {h : AH} : ev L xs mdL_setPost 2 (.ref x :: Ls) (st) h = ev L xs mdL_setPost 3 (.ref x :: Ls) (.ref x :: st) (h) := e_aload_n dL_setPost_2 rfl
theorem iL_setPost_3 {v0 : Value} {x : Int32} {Ls st : List Value} {h : AH} : ev L xs mdL_setPost 3 (v0 :: .int x :: Ls) (st) h = ev L xs mdL_setPost 4 (v0 :: .int x :: Ls) (.int x :: st) (h) := e_iload_n dL_setPost_3 rfl
theorem iL_setPost_4 {v0 : Value} {v1 : Value} {x : Int32} {Ls st : List Value} {h : AH} : ev L xs mdL_setPost 4 (v0 :: v1 :: .int x :: Ls) (st) h = ev L xs mdL_setPost 5 (v0 :: v1 :: .int x :: Ls) (.int x :: st) (h) := e_iload_n dL_setPost_4 rfl
theorem iL_setPost_5 {a : Nat} {p0 : Int32} {p1 : Int32} {Ls st : List Value} {h : AH} (hk : hK h a = 6) (hw : wds st ≤ 8) : ev L xs mdL_setPost 5 Ls (.int p1 :: .int p0 :: .ref a :: st) h = kn L xs mdL_setPost 5 8 Ls st (ev L xs mdX6_setPost 0 [.ref a, .int p0, .int p1, .null] [] h) := e_callV (as := [.int p1, .int p0]) dL_setPost_5 mr_8_29 (by decide) (by decide) rfl (by simp [wds, Value.category]; decide) rfl (by decide) hk hw
theorem iL_setPost_8 {x : Int32} {Ls st : List Value} {h : AH} : ev L xs mdL_setPost 8 (Ls) (.int x :: st) h = ev L xs mdL_setPost 9 (Ls) (.long x.toInt64 :: st) (h) := e_i2l dL_setPost_8
theorem iL_setPost_9 {a : Nat} {j : Int32} {v : Int64} {Ls st : List Value} {h : AH} (hk : hK h a = 12) (hi : inA j (hN h a) = true) : ev L xs mdL_setPost 9 (Ls) (.long v :: .int j :: .ref a :: st) h = ev L xs mdL_setPost 10 (Ls) (st) (sL h a j.toNatClampNeg v) := e_last dL_setPost_9 hk hi
theorem iL_setPost_10  {Ls st : List Value} {h : AH} : ev L xs mdL_setPost 10 (Ls) (st) h = ev L xs mdL_setPost 21 (Ls) (st) (h) := e_goto dL_setPost_10 (by decide)
theorem iL_setPost_13 {v0 : Value} {v1 : Value} {v2 : Value} {v3 : Value} {v4 : Value} {x : Nat} {Ls st : List Value} {h : AH} (hc9 : v3.category = 1) : ev L xs mdL_setPost 13 (v0 :: v1 :: v2 :: v3 :: v4 :: Ls) (.ref x :: st) h = ev L xs mdL_setPost 15 (v0 :: v1 :: v2 :: v3 :: .ref x :: Ls) (st) (h) := e_astore dL_setPost_13 rfl (by decide) (by unfold catOK; show (_ || (v3.category == 1)) = true; rw [hc9]; rfl)
theorem iL_setPost_15  {Ls st : List Value} {h : AH} : ev L xs mdL_setPost 15 (Ls) (st) h = ev L xs mdL_setPost 16 (Ls) (.int (nI 1) :: st) (h) := e_iconst dL_setPost_15 (by decide)
theorem iL_setPost_16 {v : Int32} {Ls : List Value} {h : AH} : ev L xs mdL_setPost 16 Ls [.int v] h = some (.inl (some (.int v), h)) := e_iret dL_setPost_16 rfl
theorem iL_setPost_17 {v0 : Value} {v1 : Value} {v2 : Value} {v3 : Value} {v4 : Value} {x : Nat} {Ls st : List Value} {h : AH} (hc9 : v3.category = 1) : ev L xs mdL_setPost 17 (v0 :: v1 :: v2 :: v3 :: v4 :: Ls) (.ref x :: st) h = ev L xs mdL_setPost 19 (v0 :: v1 :: v2 :: v3 :: .ref x :: Ls) (st) (h) := e_astore dL_setPost_17 rfl (by decide) (by unfold catOK; show (_ || (v3.category == 1)) = true; rw [hc9]; rfl)
theorem iL_setPost_19  {Ls st : List Value} {h : AH} : ev L xs mdL_setPost 19 (Ls) (st) h = ev L xs mdL_setPost 20 (Ls) (.int (nI 2) :: st) (h) := e_iconst dL_setPost_19 (by decide)
theorem iL_setPost_20 {v : Int32} {Ls : List Value} {h : AH} : ev L xs mdL_setPost 20 Ls [.int v] h = some (.inl (some (.int v), h)) := e_iret dL_setPost_20 rfl
theorem iL_setPost_21  {Ls st : List Value} {h : AH} : ev L xs mdL_setPost 21 (Ls) (st) h = ev L xs mdL_setPost 22 (Ls) (.int (nI 0) :: st) (h) := e_iconst dL_setPost_21 (by decide)
theorem iL_setPost_22 {v : Int32} {Ls : List Value} {h : AH} : ev L xs mdL_setPost 22 Ls [.int v] h = some (.inl (some (.int v), h)) := e_iret dL_setPost_22 rfl
theorem dL_sick_0 : decode cL_sick 0 = .ok (.aload_n 3, 1) := by decide +kernel
theorem dL_sick_1 : decode cL_sick 1 = .ok (.iconst 0, 1) := by decide +kernel
theorem dL_sick_2 : decode cL_sick 2 = .ok (.aload_n 0, 1) := by decide +kernel
theorem dL_sick_3 : decode cL_sick 3 = .ok (.iload_n 1, 1) := by decide +kernel
theorem dL_sick_4 : decode cL_sick 4 = .ok (.iload_n 2, 1) := by decide +kernel
theorem dL_sick_5 : decode cL_sick 5 = .ok (.invokevirtual 32, 3) := by decide +kernel
theorem dL_sick_8 : decode cL_sick 8 = .ok (.i2l, 1) := by decide +kernel
theorem dL_sick_9 : decode cL_sick 9 = .ok (.lastore, 1) := by decide +kernel
theorem dL_sick_10 : decode cL_sick 10 = .ok (.goto 11, 3) := by decide +kernel
theorem dL_sick_13 : decode cL_sick 13 = .ok (.astore 4, 2) := by decide +kernel
theorem dL_sick_15 : decode cL_sick 15 = .ok (.iconst 1, 1) := by decide +kernel
theorem dL_sick_16 : decode cL_sick 16 = .ok (.ireturn, 1) := by decide +kernel
theorem dL_sick_17 : decode cL_sick 17 = .ok (.astore 4, 2) := by decide +kernel
theorem dL_sick_19 : decode cL_sick 19 = .ok (.iconst 2, 1) := by decide +kernel
theorem dL_sick_20 : decode cL_sick 20 = .ok (.ireturn, 1) := by decide +kernel
theorem dL_sick_21 : decode cL_sick 21 = .ok (.iconst 0, 1) := by decide +kernel
theorem dL_sick_22 : decode cL_sick 22 = .ok (.ireturn, 1) := by decide +kernel
theorem iL_sick_0 {v0 : Value} {v1 : Value} {v2 : Value} {x : Nat} {Ls st : List Value} {h : AH} : ev L xs mdL_sick 0 (v0 :: v1 :: v2 :: .ref x :: Ls) (st) h = ev L xs mdL_sick 1 (v0 :: v1 :: v2 :: .ref x :: Ls) (.ref x :: st) (h) := e_aload_n dL_sick_0 rfl
theorem iL_sick_1  {Ls st : List Value} {h : AH} : ev L xs mdL_sick 1 (Ls) (st) h = ev L xs mdL_sick 2 (Ls) (.int (nI 0) :: st) (h) := e_iconst dL_sick_1 (by decide)
theorem iL_sick_2 {x : Nat} {Ls st : List Value} {h : AH} : ev L xs mdL_sick 2 (.ref x :: Ls) (st) h = ev L xs mdL_sick 3 (.ref x :: Ls) (.ref x :: st) (h) := e_aload_n dL_sick_2 rfl
theorem iL_sick_3 {v0 : Value} {x : Int32} {Ls st : List Value} {h : AH} : ev L xs mdL_sick 3 (v0 :: .int x :: Ls) (st) h = ev L xs mdL_sick 4 (v0 :: .int x :: Ls) (.int x :: st) (h) := e_iload_n dL_sick_3 rfl
theorem iL_sick_4 {v0 : Value} {v1 : Value} {x : Int32} {Ls st : List Value} {h : AH} : ev L xs mdL_sick 4 (v0 :: v1 :: .int x :: Ls) (st) h = ev L xs mdL_sick 5 (v0 :: v1 :: .int x :: Ls) (.int x :: st) (h) := e_iload_n dL_sick_4 rfl
theorem iL_sick_5 {a : Nat} {p0 : Int32} {p1 : Int32} {Ls st : List Value} {h : AH} (hk : hK h a = 6) (hw : wds st ≤ 8) : ev L xs mdL_sick 5 Ls (.int p1 :: .int p0 :: .ref a :: st) h = kn L xs mdL_sick 5 8 Ls st (ev L xs mdX6_sick 0 [.ref a, .int p0, .int p1] [] h) := e_callV (as := [.int p1, .int p0]) dL_sick_5 mr_8_32 (by decide) (by decide) rfl (by simp [wds, Value.category]; decide) rfl (by decide) hk hw
theorem iL_sick_8 {x : Int32} {Ls st : List Value} {h : AH} : ev L xs mdL_sick 8 (Ls) (.int x :: st) h = ev L xs mdL_sick 9 (Ls) (.long x.toInt64 :: st) (h) := e_i2l dL_sick_8
theorem iL_sick_9 {a : Nat} {j : Int32} {v : Int64} {Ls st : List Value} {h : AH} (hk : hK h a = 12) (hi : inA j (hN h a) = true) : ev L xs mdL_sick 9 (Ls) (.long v :: .int j :: .ref a :: st) h = ev L xs mdL_sick 10 (Ls) (st) (sL h a j.toNatClampNeg v) := e_last dL_sick_9 hk hi
theorem iL_sick_10  {Ls st : List Value} {h : AH} : ev L xs mdL_sick 10 (Ls) (st) h = ev L xs mdL_sick 21 (Ls) (st) (h) := e_goto dL_sick_10 (by decide)
theorem iL_sick_13 {v0 : Value} {v1 : Value} {v2 : Value} {v3 : Value} {v4 : Value} {x : Nat} {Ls st : List Value} {h : AH} (hc9 : v3.category = 1) : ev L xs mdL_sick 13 (v0 :: v1 :: v2 :: v3 :: v4 :: Ls) (.ref x :: st) h = ev L xs mdL_sick 15 (v0 :: v1 :: v2 :: v3 :: .ref x :: Ls) (st) (h) := e_astore dL_sick_13 rfl (by decide) (by unfold catOK; show (_ || (v3.category == 1)) = true; rw [hc9]; rfl)
theorem iL_sick_15  {Ls st : List Value} {h : AH} : ev L xs mdL_sick 15 (Ls) (st) h = ev L xs mdL_sick 16 (Ls) (.int (nI 1) :: st) (h) := e_iconst dL_sick_15 (by decide)
theorem iL_sick_16 {v : Int32} {Ls : List Value} {h : AH} : ev L xs mdL_sick 16 Ls [.int v] h = some (.inl (some (.int v), h)) := e_iret dL_sick_16 rfl
theorem iL_sick_17 {v0 : Value} {v1 : Value} {v2 : Value} {v3 : Value} {v4 : Value} {x : Nat} {Ls st : List Value} {h : AH} (hc9 : v3.category = 1) : ev L xs mdL_sick 17 (v0 :: v1 :: v2 :: v3 :: v4 :: Ls) (.ref x :: st) h = ev L xs mdL_sick 19 (v0 :: v1 :: v2 :: v3 :: .ref x :: Ls) (st) (h) := e_astore dL_sick_17 rfl (by decide) (by unfold catOK; show (_ || (v3.category == 1)) = true; rw [hc9]; rfl)
theorem iL_sick_19  {Ls st : List Value} {h : AH} : ev L xs mdL_sick 19 (Ls) (st) h = ev L xs mdL_sick 20 (Ls) (.int (nI 2) :: st) (h) := e_iconst dL_sick_19 (by decide)
theorem iL_sick_20 {v : Int32} {Ls : List Value} {h : AH} : ev L xs mdL_sick 20 Ls [.int v] h = some (.inl (some (.int v), h)) := e_iret dL_sick_20 rfl
theorem iL_sick_21  {Ls st : List Value} {h : AH} : ev L xs mdL_sick 21 (Ls) (st) h = ev L xs mdL_sick 22 (Ls) (.int (nI 0) :: st) (h) := e_iconst dL_sick_21 (by decide)
theorem iL_sick_22 {v : Int32} {Ls : List Value} {h : AH} : ev L xs mdL_sick 22 Ls [.int v] h = some (.inl (some (.int v), h)) := e_iret dL_sick_22 rfl
theorem dL_standing_0 : decode cL_standing 0 = .ok (.aload 4, 2) := by decide +kernel
theorem dL_standing_2 : decode cL_standing 2 = .ok (.iconst 0, 1) := by decide +kernel
theorem dL_standing_3 : decode cL_standing 3 = .ok (.aload_n 0, 1) := by decide +kernel
theorem dL_standing_4 : decode cL_standing 4 = .ok (.iload_n 1, 1) := by decide +kernel
theorem dL_standing_5 : decode cL_standing 5 = .ok (.iload_n 2, 1) := by decide +kernel
theorem dL_standing_6 : decode cL_standing 6 = .ok (.iload_n 3, 1) := by decide +kernel
theorem dL_standing_7 : decode cL_standing 7 = .ok (.invokevirtual 65, 3) := by decide +kernel
theorem dL_standing_10 : decode cL_standing 10 = .ok (.i2l, 1) := by decide +kernel
theorem dL_standing_11 : decode cL_standing 11 = .ok (.lastore, 1) := by decide +kernel
theorem dL_standing_12 : decode cL_standing 12 = .ok (.goto 11, 3) := by decide +kernel
theorem dL_standing_15 : decode cL_standing 15 = .ok (.astore 5, 2) := by decide +kernel
theorem dL_standing_17 : decode cL_standing 17 = .ok (.iconst 1, 1) := by decide +kernel
theorem dL_standing_18 : decode cL_standing 18 = .ok (.ireturn, 1) := by decide +kernel
theorem dL_standing_19 : decode cL_standing 19 = .ok (.astore 5, 2) := by decide +kernel
theorem dL_standing_21 : decode cL_standing 21 = .ok (.iconst 2, 1) := by decide +kernel
theorem dL_standing_22 : decode cL_standing 22 = .ok (.ireturn, 1) := by decide +kernel
theorem dL_standing_23 : decode cL_standing 23 = .ok (.iconst 0, 1) := by decide +kernel
theorem dL_standing_24 : decode cL_standing 24 = .ok (.ireturn, 1) := by decide +kernel
theorem iL_standing_0 {v0 : Value} {v1 : Value} {v2 : Value} {v3 : Value} {x : Nat} {Ls st : List Value} {h : AH} : ev L xs mdL_standing 0 (v0 :: v1 :: v2 :: v3 :: .ref x :: Ls) (st) h = ev L xs mdL_standing 2 (v0 :: v1 :: v2 :: v3 :: .ref x :: Ls) (.ref x :: st) (h) := e_aload dL_standing_0 rfl
theorem iL_standing_2  {Ls st : List Value} {h : AH} : ev L xs mdL_standing 2 (Ls) (st) h = ev L xs mdL_standing 3 (Ls) (.int (nI 0) :: st) (h) := e_iconst dL_standing_2 (by decide)
theorem iL_standing_3 {x : Nat} {Ls st : List Value} {h : AH} : ev L xs mdL_standing 3 (.ref x :: Ls) (st) h = ev L xs mdL_standing 4 (.ref x :: Ls) (.ref x :: st) (h) := e_aload_n dL_standing_3 rfl
theorem iL_standing_4 {v0 : Value} {x : Int32} {Ls st : List Value} {h : AH} : ev L xs mdL_standing 4 (v0 :: .int x :: Ls) (st) h = ev L xs mdL_standing 5 (v0 :: .int x :: Ls) (.int x :: st) (h) := e_iload_n dL_standing_4 rfl
theorem iL_standing_5 {v0 : Value} {v1 : Value} {x : Int32} {Ls st : List Value} {h : AH} : ev L xs mdL_standing 5 (v0 :: v1 :: .int x :: Ls) (st) h = ev L xs mdL_standing 6 (v0 :: v1 :: .int x :: Ls) (.int x :: st) (h) := e_iload_n dL_standing_5 rfl
theorem iL_standing_6 {v0 : Value} {v1 : Value} {v2 : Value} {x : Int32} {Ls st : List Value} {h : AH} : ev L xs mdL_standing 6 (v0 :: v1 :: v2 :: .int x :: Ls) (st) h = ev L xs mdL_standing 7 (v0 :: v1 :: v2 :: .int x :: Ls) (.int x :: st) (h) := e_iload_n dL_standing_6 rfl
theorem iL_standing_7 {a : Nat} {p0 : Int32} {p1 : Int32} {p2 : Int32} {Ls st : List Value} {h : AH} (hk : hK h a = 6) (hw : wds st ≤ 8) : ev L xs mdL_standing 7 Ls (.int p2 :: .int p1 :: .int p0 :: .ref a :: st) h = kn L xs mdL_standing 7 10 Ls st (ev L xs mdX6_standing 0 [.ref a, .int p0, .int p1, .int p2] [] h) := e_callV (as := [.int p2, .int p1, .int p0]) dL_standing_7 mr_8_65 (by decide) (by decide) rfl (by simp [wds, Value.category]; decide) rfl (by decide) hk hw
theorem iL_standing_10 {x : Int32} {Ls st : List Value} {h : AH} : ev L xs mdL_standing 10 (Ls) (.int x :: st) h = ev L xs mdL_standing 11 (Ls) (.long x.toInt64 :: st) (h) := e_i2l dL_standing_10
theorem iL_standing_11 {a : Nat} {j : Int32} {v : Int64} {Ls st : List Value} {h : AH} (hk : hK h a = 12) (hi : inA j (hN h a) = true) : ev L xs mdL_standing 11 (Ls) (.long v :: .int j :: .ref a :: st) h = ev L xs mdL_standing 12 (Ls) (st) (sL h a j.toNatClampNeg v) := e_last dL_standing_11 hk hi
theorem iL_standing_12  {Ls st : List Value} {h : AH} : ev L xs mdL_standing 12 (Ls) (st) h = ev L xs mdL_standing 23 (Ls) (st) (h) := e_goto dL_standing_12 (by decide)
theorem iL_standing_15 {v0 : Value} {v1 : Value} {v2 : Value} {v3 : Value} {v4 : Value} {v5 : Value} {x : Nat} {Ls st : List Value} {h : AH} (hc9 : v4.category = 1) : ev L xs mdL_standing 15 (v0 :: v1 :: v2 :: v3 :: v4 :: v5 :: Ls) (.ref x :: st) h = ev L xs mdL_standing 17 (v0 :: v1 :: v2 :: v3 :: v4 :: .ref x :: Ls) (st) (h) := e_astore dL_standing_15 rfl (by decide) (by unfold catOK; show (_ || (v4.category == 1)) = true; rw [hc9]; rfl)
theorem iL_standing_17  {Ls st : List Value} {h : AH} : ev L xs mdL_standing 17 (Ls) (st) h = ev L xs mdL_standing 18 (Ls) (.int (nI 1) :: st) (h) := e_iconst dL_standing_17 (by decide)
theorem iL_standing_18 {v : Int32} {Ls : List Value} {h : AH} : ev L xs mdL_standing 18 Ls [.int v] h = some (.inl (some (.int v), h)) := e_iret dL_standing_18 rfl
theorem iL_standing_19 {v0 : Value} {v1 : Value} {v2 : Value} {v3 : Value} {v4 : Value} {v5 : Value} {x : Nat} {Ls st : List Value} {h : AH} (hc9 : v4.category = 1) : ev L xs mdL_standing 19 (v0 :: v1 :: v2 :: v3 :: v4 :: v5 :: Ls) (.ref x :: st) h = ev L xs mdL_standing 21 (v0 :: v1 :: v2 :: v3 :: v4 :: .ref x :: Ls) (st) (h) := e_astore dL_standing_19 rfl (by decide) (by unfold catOK; show (_ || (v4.category == 1)) = true; rw [hc9]; rfl)
theorem iL_standing_21  {Ls st : List Value} {h : AH} : ev L xs mdL_standing 21 (Ls) (st) h = ev L xs mdL_standing 22 (Ls) (.int (nI 2) :: st) (h) := e_iconst dL_standing_21 (by decide)
theorem iL_standing_22 {v : Int32} {Ls : List Value} {h : AH} : ev L xs mdL_standing 22 Ls [.int v] h = some (.inl (some (.int v), h)) := e_iret dL_standing_22 rfl
theorem iL_standing_23  {Ls st : List Value} {h : AH} : ev L xs mdL_standing 23 (Ls) (st) h = ev L xs mdL_standing 24 (Ls) (.int (nI 0) :: st) (h) := e_iconst dL_standing_23 (by decide)
theorem iL_standing_24 {v : Int32} {Ls : List Value} {h : AH} : ev L xs mdL_standing 24 Ls [.int v] h = some (.inl (some (.int v), h)) := e_iret dL_standing_24 rfl
theorem dL_step_0 : decode cL_step 0 = .ok (.aload_n 1, 1) := by decide +kernel
theorem dL_step_1 : decode cL_step 1 = .ok (.iconst 0, 1) := by decide +kernel
theorem dL_step_2 : decode cL_step 2 = .ok (.aload_n 0, 1) := by decide +kernel
theorem dL_step_3 : decode cL_step 3 = .ok (.invokevirtual 39, 3) := by decide +kernel
theorem dL_step_6 : decode cL_step 6 = .ok (.i2l, 1) := by decide +kernel
theorem dL_step_7 : decode cL_step 7 = .ok (.lastore, 1) := by decide +kernel
theorem dL_step_8 : decode cL_step 8 = .ok (.goto 6, 3) := by decide +kernel
theorem dL_step_11 : decode cL_step 11 = .ok (.astore_n 2, 1) := by decide +kernel
theorem dL_step_12 : decode cL_step 12 = .ok (.iconst 1, 1) := by decide +kernel
theorem dL_step_13 : decode cL_step 13 = .ok (.ireturn, 1) := by decide +kernel
theorem dL_step_14 : decode cL_step 14 = .ok (.iconst 0, 1) := by decide +kernel
theorem dL_step_15 : decode cL_step 15 = .ok (.ireturn, 1) := by decide +kernel
theorem iL_step_0 {v0 : Value} {x : Nat} {Ls st : List Value} {h : AH} : ev L xs mdL_step 0 (v0 :: .ref x :: Ls) (st) h = ev L xs mdL_step 1 (v0 :: .ref x :: Ls) (.ref x :: st) (h) := e_aload_n dL_step_0 rfl
theorem iL_step_1  {Ls st : List Value} {h : AH} : ev L xs mdL_step 1 (Ls) (st) h = ev L xs mdL_step 2 (Ls) (.int (nI 0) :: st) (h) := e_iconst dL_step_1 (by decide)
theorem iL_step_2 {x : Nat} {Ls st : List Value} {h : AH} : ev L xs mdL_step 2 (.ref x :: Ls) (st) h = ev L xs mdL_step 3 (.ref x :: Ls) (.ref x :: st) (h) := e_aload_n dL_step_2 rfl
theorem iL_step_3 {a : Nat} {Ls st : List Value} {h : AH} (hk : hK h a = 6) (hw : wds st ≤ 8) : ev L xs mdL_step 3 Ls (.ref a :: st) h = kn L xs mdL_step 3 6 Ls st (ev L xs mdX6_step 0 [.ref a] [] h) := e_callV (as := []) dL_step_3 mr_8_39 (by decide) (by decide) rfl (by simp [wds, Value.category]; decide) rfl (by decide) hk hw
theorem iL_step_6 {x : Int32} {Ls st : List Value} {h : AH} : ev L xs mdL_step 6 (Ls) (.int x :: st) h = ev L xs mdL_step 7 (Ls) (.long x.toInt64 :: st) (h) := e_i2l dL_step_6
theorem iL_step_7 {a : Nat} {j : Int32} {v : Int64} {Ls st : List Value} {h : AH} (hk : hK h a = 12) (hi : inA j (hN h a) = true) : ev L xs mdL_step 7 (Ls) (.long v :: .int j :: .ref a :: st) h = ev L xs mdL_step 8 (Ls) (st) (sL h a j.toNatClampNeg v) := e_last dL_step_7 hk hi
theorem iL_step_8  {Ls st : List Value} {h : AH} : ev L xs mdL_step 8 (Ls) (st) h = ev L xs mdL_step 14 (Ls) (st) (h) := e_goto dL_step_8 (by decide)
theorem iL_step_11 {v0 : Value} {v1 : Value} {v2 : Value} {x : Nat} {Ls st : List Value} {h : AH} (hc9 : v1.category = 1) : ev L xs mdL_step 11 (v0 :: v1 :: v2 :: Ls) (.ref x :: st) h = ev L xs mdL_step 12 (v0 :: v1 :: .ref x :: Ls) (st) (h) := e_astore_n dL_step_11 rfl (by decide) (by unfold catOK; show (_ || (v1.category == 1)) = true; rw [hc9]; rfl)
theorem iL_step_12  {Ls st : List Value} {h : AH} : ev L xs mdL_step 12 (Ls) (st) h = ev L xs mdL_step 13 (Ls) (.int (nI 1) :: st) (h) := e_iconst dL_step_12 (by decide)
theorem iL_step_13 {v : Int32} {Ls : List Value} {h : AH} : ev L xs mdL_step 13 Ls [.int v] h = some (.inl (some (.int v), h)) := e_iret dL_step_13 rfl
theorem iL_step_14  {Ls st : List Value} {h : AH} : ev L xs mdL_step 14 (Ls) (st) h = ev L xs mdL_step 15 (Ls) (.int (nI 0) :: st) (h) := e_iconst dL_step_14 (by decide)
theorem iL_step_15 {v : Int32} {Ls : List Value} {h : AH} : ev L xs mdL_step 15 Ls [.int v] h = some (.inl (some (.int v), h)) := e_iret dL_step_15 rfl
theorem dL_undo_0 : decode cL_undo 0 = .ok (.aload_n 1, 1) := by decide +kernel
theorem dL_undo_1 : decode cL_undo 1 = .ok (.iconst 0, 1) := by decide +kernel
theorem dL_undo_2 : decode cL_undo 2 = .ok (.aload_n 0, 1) := by decide +kernel
theorem dL_undo_3 : decode cL_undo 3 = .ok (.invokevirtual 80, 3) := by decide +kernel
theorem dL_undo_6 : decode cL_undo 6 = .ok (.i2l, 1) := by decide +kernel
theorem dL_undo_7 : decode cL_undo 7 = .ok (.lastore, 1) := by decide +kernel
theorem dL_undo_8 : decode cL_undo 8 = .ok (.goto 6, 3) := by decide +kernel
theorem dL_undo_11 : decode cL_undo 11 = .ok (.astore_n 2, 1) := by decide +kernel
theorem dL_undo_12 : decode cL_undo 12 = .ok (.iconst 1, 1) := by decide +kernel
theorem dL_undo_13 : decode cL_undo 13 = .ok (.ireturn, 1) := by decide +kernel
theorem dL_undo_14 : decode cL_undo 14 = .ok (.iconst 0, 1) := by decide +kernel
theorem dL_undo_15 : decode cL_undo 15 = .ok (.ireturn, 1) := by decide +kernel
theorem iL_undo_0 {v0 : Value} {x : Nat} {Ls st : List Value} {h : AH} : ev L xs mdL_undo 0 (v0 :: .ref x :: Ls) (st) h = ev L xs mdL_undo 1 (v0 :: .ref x :: Ls) (.ref x :: st) (h) := e_aload_n dL_undo_0 rfl
theorem iL_undo_1  {Ls st : List Value} {h : AH} : ev L xs mdL_undo 1 (Ls) (st) h = ev L xs mdL_undo 2 (Ls) (.int (nI 0) :: st) (h) := e_iconst dL_undo_1 (by decide)
theorem iL_undo_2 {x : Nat} {Ls st : List Value} {h : AH} : ev L xs mdL_undo 2 (.ref x :: Ls) (st) h = ev L xs mdL_undo 3 (.ref x :: Ls) (.ref x :: st) (h) := e_aload_n dL_undo_2 rfl
theorem iL_undo_3 {a : Nat} {Ls st : List Value} {h : AH} (hk : hK h a = 6) (hw : wds st ≤ 8) : ev L xs mdL_undo 3 Ls (.ref a :: st) h = kn L xs mdL_undo 3 6 Ls st (ev L xs mdX6_undo 0 [.ref a] [] h) := e_callV (as := []) dL_undo_3 mr_8_80 (by decide) (by decide) rfl (by simp [wds, Value.category]; decide) rfl (by decide) hk hw
theorem iL_undo_6 {x : Int32} {Ls st : List Value} {h : AH} : ev L xs mdL_undo 6 (Ls) (.int x :: st) h = ev L xs mdL_undo 7 (Ls) (.long x.toInt64 :: st) (h) := e_i2l dL_undo_6
theorem iL_undo_7 {a : Nat} {j : Int32} {v : Int64} {Ls st : List Value} {h : AH} (hk : hK h a = 12) (hi : inA j (hN h a) = true) : ev L xs mdL_undo 7 (Ls) (.long v :: .int j :: .ref a :: st) h = ev L xs mdL_undo 8 (Ls) (st) (sL h a j.toNatClampNeg v) := e_last dL_undo_7 hk hi
theorem iL_undo_8  {Ls st : List Value} {h : AH} : ev L xs mdL_undo 8 (Ls) (st) h = ev L xs mdL_undo 14 (Ls) (st) (h) := e_goto dL_undo_8 (by decide)
theorem iL_undo_11 {v0 : Value} {v1 : Value} {v2 : Value} {x : Nat} {Ls st : List Value} {h : AH} (hc9 : v1.category = 1) : ev L xs mdL_undo 11 (v0 :: v1 :: v2 :: Ls) (.ref x :: st) h = ev L xs mdL_undo 12 (v0 :: v1 :: .ref x :: Ls) (st) (h) := e_astore_n dL_undo_11 rfl (by decide) (by unfold catOK; show (_ || (v1.category == 1)) = true; rw [hc9]; rfl)
theorem iL_undo_12  {Ls st : List Value} {h : AH} : ev L xs mdL_undo 12 (Ls) (st) h = ev L xs mdL_undo 13 (Ls) (.int (nI 1) :: st) (h) := e_iconst dL_undo_12 (by decide)
theorem iL_undo_13 {v : Int32} {Ls : List Value} {h : AH} : ev L xs mdL_undo 13 Ls [.int v] h = some (.inl (some (.int v), h)) := e_iret dL_undo_13 rfl
theorem iL_undo_14  {Ls st : List Value} {h : AH} : ev L xs mdL_undo 14 (Ls) (st) h = ev L xs mdL_undo 15 (Ls) (.int (nI 0) :: st) (h) := e_iconst dL_undo_14 (by decide)
theorem iL_undo_15 {v : Int32} {Ls : List Value} {h : AH} : ev L xs mdL_undo 15 Ls [.int v] h = some (.inl (some (.int v), h)) := e_iret dL_undo_15 rfl
theorem dL_value_0 : decode cL_value 0 = .ok (.aload_n 2, 1) := by decide +kernel
theorem dL_value_1 : decode cL_value 1 = .ok (.iconst 0, 1) := by decide +kernel
theorem dL_value_2 : decode cL_value 2 = .ok (.aload_n 0, 1) := by decide +kernel
theorem dL_value_3 : decode cL_value 3 = .ok (.iload_n 1, 1) := by decide +kernel
theorem dL_value_4 : decode cL_value 4 = .ok (.invokevirtual 52, 3) := by decide +kernel
theorem dL_value_7 : decode cL_value 7 = .ok (.i2l, 1) := by decide +kernel
theorem dL_value_8 : decode cL_value 8 = .ok (.lastore, 1) := by decide +kernel
theorem dL_value_9 : decode cL_value 9 = .ok (.goto 6, 3) := by decide +kernel
theorem dL_value_12 : decode cL_value 12 = .ok (.astore_n 3, 1) := by decide +kernel
theorem dL_value_13 : decode cL_value 13 = .ok (.iconst 1, 1) := by decide +kernel
theorem dL_value_14 : decode cL_value 14 = .ok (.ireturn, 1) := by decide +kernel
theorem dL_value_15 : decode cL_value 15 = .ok (.iconst 0, 1) := by decide +kernel
theorem dL_value_16 : decode cL_value 16 = .ok (.ireturn, 1) := by decide +kernel
theorem iL_value_0 {v0 : Value} {v1 : Value} {x : Nat} {Ls st : List Value} {h : AH} : ev L xs mdL_value 0 (v0 :: v1 :: .ref x :: Ls) (st) h = ev L xs mdL_value 1 (v0 :: v1 :: .ref x :: Ls) (.ref x :: st) (h) := e_aload_n dL_value_0 rfl
theorem iL_value_1  {Ls st : List Value} {h : AH} : ev L xs mdL_value 1 (Ls) (st) h = ev L xs mdL_value 2 (Ls) (.int (nI 0) :: st) (h) := e_iconst dL_value_1 (by decide)
theorem iL_value_2 {x : Nat} {Ls st : List Value} {h : AH} : ev L xs mdL_value 2 (.ref x :: Ls) (st) h = ev L xs mdL_value 3 (.ref x :: Ls) (.ref x :: st) (h) := e_aload_n dL_value_2 rfl
theorem iL_value_3 {v0 : Value} {x : Int32} {Ls st : List Value} {h : AH} : ev L xs mdL_value 3 (v0 :: .int x :: Ls) (st) h = ev L xs mdL_value 4 (v0 :: .int x :: Ls) (.int x :: st) (h) := e_iload_n dL_value_3 rfl
theorem iL_value_4 {a : Nat} {p0 : Int32} {Ls st : List Value} {h : AH} (hk : hK h a = 6) (hw : wds st ≤ 8) : ev L xs mdL_value 4 Ls (.int p0 :: .ref a :: st) h = kn L xs mdL_value 4 7 Ls st (ev L xs mdX6_value 0 [.ref a, .int p0] [] h) := e_callV (as := [.int p0]) dL_value_4 mr_8_52 (by decide) (by decide) rfl (by simp [wds, Value.category]; decide) rfl (by decide) hk hw
theorem iL_value_7 {x : Int32} {Ls st : List Value} {h : AH} : ev L xs mdL_value 7 (Ls) (.int x :: st) h = ev L xs mdL_value 8 (Ls) (.long x.toInt64 :: st) (h) := e_i2l dL_value_7
theorem iL_value_8 {a : Nat} {j : Int32} {v : Int64} {Ls st : List Value} {h : AH} (hk : hK h a = 12) (hi : inA j (hN h a) = true) : ev L xs mdL_value 8 (Ls) (.long v :: .int j :: .ref a :: st) h = ev L xs mdL_value 9 (Ls) (st) (sL h a j.toNatClampNeg v) := e_last dL_value_8 hk hi
theorem iL_value_9  {Ls st : List Value} {h : AH} : ev L xs mdL_value 9 (Ls) (st) h = ev L xs mdL_value 15 (Ls) (st) (h) := e_goto dL_value_9 (by decide)
theorem iL_value_12 {v0 : Value} {v1 : Value} {v2 : Value} {v3 : Value} {x : Nat} {Ls st : List Value} {h : AH} (hc9 : v2.category = 1) : ev L xs mdL_value 12 (v0 :: v1 :: v2 :: v3 :: Ls) (.ref x :: st) h = ev L xs mdL_value 13 (v0 :: v1 :: v2 :: .ref x :: Ls) (st) (h) := e_astore_n dL_value_12 rfl (by decide) (by unfold catOK; show (_ || (v2.category == 1)) = true; rw [hc9]; rfl)
theorem iL_value_13  {Ls st : List Value} {h : AH} : ev L xs mdL_value 13 (Ls) (st) h = ev L xs mdL_value 14 (Ls) (.int (nI 1) :: st) (h) := e_iconst dL_value_13 (by decide)
theorem iL_value_14 {v : Int32} {Ls : List Value} {h : AH} : ev L xs mdL_value 14 Ls [.int v] h = some (.inl (some (.int v), h)) := e_iret dL_value_14 rfl
theorem iL_value_15  {Ls st : List Value} {h : AH} : ev L xs mdL_value 15 (Ls) (st) h = ev L xs mdL_value 16 (Ls) (.int (nI 0) :: st) (h) := e_iconst dL_value_15 (by decide)
theorem iL_value_16 {v : Int32} {Ls : List Value} {h : AH} : ev L xs mdL_value 16 Ls [.int v] h = some (.inl (some (.int v), h)) := e_iret dL_value_16 rfl
end
