/-! copyFrom, newHoliday, newPost, newGuard -/
def holR (r : Rw) (H : Nat) (x y : Int32) : Rw := fun k => if k = 9 + 2 * H then x else if k = 10 + 2 * H then y else if k = 2 then nI (H + 1) else r k
def postR (r : Rw) (P : Nat) (x y : Int32) : Rw := fun k => if 21 + 9 * P ≤ k ∧ k < 30 + 9 * P then pNew x y (sw (k - (21 + 9 * P))) else if k = 3 then nI (P + 1) else r k
def guardR (r : Rw) (G : Nat) (x y z : Int32) : Rw := fun k => if k = 93 + 9 * G then x else if k = 94 + 9 * G then y else if k = 95 + 9 * G then z else if 96 + 9 * G ≤ k ∧ k < 102 + 9 * G then nI 0 else if k = 4 then nI (G + 1) else r k
theorem sw_sw {k : Nat} : sw (sw k) = k := by
  unfold sw
  by_cases c : k = 5
  · subst c; rfl
  · by_cases d : k = 6
    · subst d; rfl
    · simp [c, d]
theorem sw_lt {k : Nat} (hk : k < 9) : sw k < 9 := by unfold sw; split <;> (try split) <;> omega
section
variable {L : Nat} {xs : Nat → Int32} {h h2 : AH} {a b H P G n : Nat} {r : Rw}
theorem s_newHol {x y : Int32} (hl : LaySt h a) (R : Rl h a r H P G n) (hH : H < 6) : Ev (ev L xs mdX5_newHoliday 0 [.ref a, .int x, .int y] [] h) (fun z => ∃ h', z = .inl (some (.int (nI H)), h') ∧ Fr (inSt a) h h' ∧ Rl h' a (holR r H x y) (H + 1) P G n) := by
  have e1 : H + 1 - 1 = H := by omega
  simp (disch := first | with_reducible assumption | exact cat_int | exact cat_ref | exact cat_null | exact cat_ra | exact Nat.le_of_ble_eq_true rfl | (simp (disch := omega) only [hK_sI, hR_sI, hN_sI, hA_sI, hQ_sI, hL_sI, hn_sI, hK_sR, hI_sR, hN_sR, hA_sR, hQ_sR, hL_sR, hn_sR, hK_sA, hI_sA, hR_sA, hN_sA, hQ_sA, hL_sA, hn_sA, hK_sQ, hI_sQ, hR_sQ, hN_sQ, hA_sQ, hL_sQ, hn_sQ, hK_sL, hI_sL, hR_sL, hN_sL, hA_sL, hQ_sL, hn_sL, hK_cpA, hI_cpA, hR_cpA, hN_cpA, hQ_cpA, hL_cpA, hn_cpA, hK_bump, hI_bump, hR_bump, hN_bump, hA_bump, hQ_bump, hL_bump, hn_bump, hI_sI, hR_sR, hA_sA, hQ_sQ, hL_sL, hA_cpA, isS, cat_int, cat_ref, cat_null, cat_ra, wds_nil, wds_int, wds_ref, wds_long, wds_ra, nz5, nz7, nz2, idxN, inAN, if_true, if_false, b00, b11, b01, eq_self, true_or, or_true, false_or, or_false, true_and, and_true, false_and, and_false, not_true, not_false_eq_true, LS_k hl, LS_r0 hl, LS_r1 hl, LS_r3 hl, LS_r5 hl, LS_k1 hl, LS_n1 hl, LS_k2 hl, LS_n2 hl, LS_k3 hl, LS_n3 hl, LS_k4 hl, LS_n4 hl, R.hH, e1, Ev_some]; done) | omega) only [iX5_newHoliday_0, iX5_newHoliday_1, iX5_newHoliday_4, iX5_newHoliday_5, iX5_newHoliday_8, iX5_newHoliday_9, iX5_newHoliday_10, iX5_newHoliday_11, iX5_newHoliday_14, iX5_newHoliday_15, iX5_newHoliday_18, iX5_newHoliday_19, iX5_newHoliday_20, iX5_newHoliday_21, iX5_newHoliday_21i, iX5_newHoliday_22, iX5_newHoliday_25, iX5_newHoliday_26, iX5_newHoliday_27, iX5_newHoliday_30, iX5_newHoliday_31, iX5_newHoliday_34, iX5_newHoliday_35, iX5_newHoliday_36, ↓reduceIte, ofN, reduceCtorEq, Bool.false_eq_true, Nat.reduceAdd, Nat.reduceMul, Nat.reduceEqDiff, Nat.reduceLeDiff, Nat.reduceLT, le_nlt, ite_not, Nat.lt_irrefl, Decidable.not_not, kn1, kn0, knite, isS, getS, cat_int, cat_ref, cat_null, cat_ra, wds_nil, wds_int, wds_ref, wds_long, wds_ra, b0, b01, b00, b11, b10, if_true, if_false, ite_self, not_true, not_false_eq_true, true_or, or_true, false_or, or_false, true_and, and_true, false_and, and_false, eq_self, idxN, inAN, nI_add, nI_mul, nI_sub, nz5, nz7, nz2, nI_ltN, Nat.add_zero, Nat.zero_add, hK_sI, hR_sI, hN_sI, hA_sI, hQ_sI, hL_sI, hn_sI, hK_sR, hI_sR, hN_sR, hA_sR, hQ_sR, hL_sR, hn_sR, hK_sA, hI_sA, hR_sA, hN_sA, hQ_sA, hL_sA, hn_sA, hK_sQ, hI_sQ, hR_sQ, hN_sQ, hA_sQ, hL_sQ, hn_sQ, hK_sL, hI_sL, hR_sL, hN_sL, hA_sL, hQ_sL, hn_sL, hK_cpA, hI_cpA, hR_cpA, hN_cpA, hQ_cpA, hL_cpA, hn_cpA, hK_bump, hI_bump, hR_bump, hN_bump, hA_bump, hQ_bump, hL_bump, hn_bump, hI_sI, hR_sR, hA_sA, hQ_sQ, hL_sL, hA_cpA, LS_k hl, LS_r0 hl, LS_r1 hl, LS_r3 hl, LS_r5 hl, LS_k1 hl, LS_n1 hl, LS_k2 hl, LS_n2 hl, LS_k3 hl, LS_n3 hl, LS_k4 hl, LS_n4 hl, R.hH, e1, Ev_some]
  refine ⟨_, rfl, (by (repeat' (first | (with_reducible refine Fr.wI ?_ ?_) | (with_reducible refine Fr.wA ?_ ?_) | (with_reducible refine Fr.wC ?_ ?_))); all_goals first | (with_reducible exact Fr.rfl) | rfl | (show _ ∧ _; omega)), ?_⟩
  obtain ⟨a1, a2, a3, a4, a5, a6, a7, a8, a9, a10, a11, a12, a13⟩ := R
  refine ⟨by omega, a2, a3, a4, ?_, ?_, ?_, ?_, ?_, ?_, fun i hi => ?_, fun q hq k hk => ?_, fun j hj k hk => ?_⟩
  · simp [hI_sI]
  · simp [hI_sI, hI_sA]; exact a6
  · simp [hI_sI, hI_sA]; exact a7
  · simp [hI_sI, hI_sA]; exact a8
  · rw [hI_sI, if_neg (by omega), hI_sA, hI_sA, a9]
    unfold holR
    rw [if_neg (by omega), if_neg (by omega), if_neg (by omega)]
  · rw [hI_sI, if_neg (by omega), hI_sA, hI_sA, a10]
    unfold holR
    rw [if_neg (by omega), if_neg (by omega), if_neg (by omega)]
  · refine ⟨?_, ?_⟩
    · rw [hA_sI, hA_sA, if_neg (by omega), hA_sA]
      unfold holR
      by_cases c : i = H
      · rw [if_pos ⟨rfl, c⟩, if_pos (by omega)]
      · rw [if_neg (by omega), if_neg (by omega), if_neg (by omega), if_neg (by omega)]
        exact (a11 i (by omega)).1
    · rw [hA_sI, hA_sA]
      unfold holR
      by_cases c : i = H
      · rw [if_pos ⟨rfl, c⟩, if_neg (by omega), if_pos (by omega)]
      · rw [if_neg (by omega), hA_sA, if_neg (by omega), if_neg (by omega), if_neg (by omega), if_neg (by omega)]
        exact (a11 i (by omega)).2
  · have hs := sw_lt hk
    rw [hI_sI, if_neg (by omega), hI_sA, hI_sA, a12 q hq k hk]
    unfold holR
    rw [if_neg (by omega), if_neg (by omega), if_neg (by omega)]
  · rw [hI_sI, if_neg (by omega), hI_sA, hI_sA, a13 j hj k hk]
    unfold holR
    rw [if_neg (by omega), if_neg (by omega), if_neg (by omega)]
theorem s_newPost {x y : Int32} (hl : LaySt h a) (R : Rl h a r H P G n) (hP : P < 8) : Ev (ev L xs mdX5_newPost 0 [.ref a, .int x, .int y] [] h) (fun z => ∃ h', z = .inl (some (.int (nI P)), h') ∧ Fr (inSt a) h h' ∧ Rl h' a (postR r P x y) H (P + 1) G n) := by
  have e1 : P + 1 - 1 = P := by omega
  simp (disch := first | with_reducible assumption | exact cat_int | exact cat_ref | exact cat_null | exact cat_ra | exact Nat.le_of_ble_eq_true rfl | (simp (disch := omega) only [hK_sI, hR_sI, hN_sI, hA_sI, hQ_sI, hL_sI, hn_sI, hK_sR, hI_sR, hN_sR, hA_sR, hQ_sR, hL_sR, hn_sR, hK_sA, hI_sA, hR_sA, hN_sA, hQ_sA, hL_sA, hn_sA, hK_sQ, hI_sQ, hR_sQ, hN_sQ, hA_sQ, hL_sQ, hn_sQ, hK_sL, hI_sL, hR_sL, hN_sL, hA_sL, hQ_sL, hn_sL, hK_cpA, hI_cpA, hR_cpA, hN_cpA, hQ_cpA, hL_cpA, hn_cpA, hK_bump, hI_bump, hR_bump, hN_bump, hA_bump, hQ_bump, hL_bump, hn_bump, hI_sI, hR_sR, hA_sA, hQ_sQ, hL_sL, hA_cpA, isS, cat_int, cat_ref, cat_null, cat_ra, wds_nil, wds_int, wds_ref, wds_long, wds_ra, nz5, nz7, nz2, idxN, inAN, if_true, if_false, b00, b11, b01, eq_self, true_or, or_true, false_or, or_false, true_and, and_true, false_and, and_false, not_true, not_false_eq_true, LS_k hl, LS_r0 hl, LS_r1 hl, LS_r3 hl, LS_r5 hl, LS_k1 hl, LS_n1 hl, LS_k2 hl, LS_n2 hl, LS_k3 hl, LS_n3 hl, LS_k4 hl, LS_n4 hl, R.hP, LS_po hl hP, LS_pq hl hP]; done) | omega) only [iX5_newPost_0, iX5_newPost_1, iX5_newPost_4, iX5_newPost_5, iX5_newPost_8, iX5_newPost_9, iX5_newPost_10, iX5_newPost_11, ↓reduceIte, ofN, reduceCtorEq, Bool.false_eq_true, Nat.reduceAdd, Nat.reduceMul, Nat.reduceEqDiff, Nat.reduceLeDiff, Nat.reduceLT, le_nlt, ite_not, Nat.lt_irrefl, Decidable.not_not, kn1, kn0, knite, isS, getS, cat_int, cat_ref, cat_null, cat_ra, wds_nil, wds_int, wds_ref, wds_long, wds_ra, b0, b01, b00, b11, b10, if_true, if_false, ite_self, not_true, not_false_eq_true, true_or, or_true, false_or, or_false, true_and, and_true, false_and, and_false, eq_self, idxN, inAN, nI_add, nI_mul, nI_sub, nz5, nz7, nz2, nI_ltN, Nat.add_zero, Nat.zero_add, hK_sI, hR_sI, hN_sI, hA_sI, hQ_sI, hL_sI, hn_sI, hK_sR, hI_sR, hN_sR, hA_sR, hQ_sR, hL_sR, hn_sR, hK_sA, hI_sA, hR_sA, hN_sA, hQ_sA, hL_sA, hn_sA, hK_sQ, hI_sQ, hR_sQ, hN_sQ, hA_sQ, hL_sQ, hn_sQ, hK_sL, hI_sL, hR_sL, hN_sL, hA_sL, hQ_sL, hn_sL, hK_cpA, hI_cpA, hR_cpA, hN_cpA, hQ_cpA, hL_cpA, hn_cpA, hK_bump, hI_bump, hR_bump, hN_bump, hA_bump, hQ_bump, hL_bump, hn_bump, hI_sI, hR_sR, hA_sA, hQ_sQ, hL_sL, hA_cpA, LS_k hl, LS_r0 hl, LS_r1 hl, LS_r3 hl, LS_r5 hl, LS_k1 hl, LS_n1 hl, LS_k2 hl, LS_n2 hl, LS_k3 hl, LS_n3 hl, LS_k4 hl, LS_n4 hl, R.hP, LS_po hl hP, LS_pq hl hP]
  refine Ev_call (s_pbegin (LS_po hl hP)) ?_
  rintro _ ⟨h1, rfl, f1, v1⟩
  have hl1 := f1.st hl
  have f1' : Fr (inSt a) h h1 := f1.mono (fun j hj => ⟨by omega, by omega⟩)
  have eP : hI h1 84 a = nI P := by rw [f1.fi (by omega)]; exact R.hP
  simp (disch := first | with_reducible assumption | exact cat_int | exact cat_ref | exact cat_null | exact cat_ra | exact Nat.le_of_ble_eq_true rfl | (simp (disch := omega) only [hK_sI, hR_sI, hN_sI, hA_sI, hQ_sI, hL_sI, hn_sI, hK_sR, hI_sR, hN_sR, hA_sR, hQ_sR, hL_sR, hn_sR, hK_sA, hI_sA, hR_sA, hN_sA, hQ_sA, hL_sA, hn_sA, hK_sQ, hI_sQ, hR_sQ, hN_sQ, hA_sQ, hL_sQ, hn_sQ, hK_sL, hI_sL, hR_sL, hN_sL, hA_sL, hQ_sL, hn_sL, hK_cpA, hI_cpA, hR_cpA, hN_cpA, hQ_cpA, hL_cpA, hn_cpA, hK_bump, hI_bump, hR_bump, hN_bump, hA_bump, hQ_bump, hL_bump, hn_bump, hI_sI, hR_sR, hA_sA, hQ_sQ, hL_sL, hA_cpA, isS, cat_int, cat_ref, cat_null, cat_ra, wds_nil, wds_int, wds_ref, wds_long, wds_ra, nz5, nz7, nz2, idxN, inAN, if_true, if_false, b00, b11, b01, eq_self, true_or, or_true, false_or, or_false, true_and, and_true, false_and, and_false, not_true, not_false_eq_true, LS_k hl1, LS_r0 hl1, LS_r1 hl1, LS_r3 hl1, LS_r5 hl1, LS_k1 hl1, LS_n1 hl1, LS_k2 hl1, LS_n2 hl1, LS_k3 hl1, LS_n3 hl1, LS_k4 hl1, LS_n4 hl1, eP, e1, Ev_some]; done) | omega) only [iX5_newPost_14, iX5_newPost_15, iX5_newPost_15i, iX5_newPost_16, iX5_newPost_19, iX5_newPost_20, iX5_newPost_21, iX5_newPost_24, iX5_newPost_25, iX5_newPost_28, iX5_newPost_29, iX5_newPost_30, ↓reduceIte, ofN, reduceCtorEq, Bool.false_eq_true, Nat.reduceAdd, Nat.reduceMul, Nat.reduceEqDiff, Nat.reduceLeDiff, Nat.reduceLT, le_nlt, ite_not, Nat.lt_irrefl, Decidable.not_not, kn1, kn0, knite, isS, getS, cat_int, cat_ref, cat_null, cat_ra, wds_nil, wds_int, wds_ref, wds_long, wds_ra, b0, b01, b00, b11, b10, if_true, if_false, ite_self, not_true, not_false_eq_true, true_or, or_true, false_or, or_false, true_and, and_true, false_and, and_false, eq_self, idxN, inAN, nI_add, nI_mul, nI_sub, nz5, nz7, nz2, nI_ltN, Nat.add_zero, Nat.zero_add, hK_sI, hR_sI, hN_sI, hA_sI, hQ_sI, hL_sI, hn_sI, hK_sR, hI_sR, hN_sR, hA_sR, hQ_sR, hL_sR, hn_sR, hK_sA, hI_sA, hR_sA, hN_sA, hQ_sA, hL_sA, hn_sA, hK_sQ, hI_sQ, hR_sQ, hN_sQ, hA_sQ, hL_sQ, hn_sQ, hK_sL, hI_sL, hR_sL, hN_sL, hA_sL, hQ_sL, hn_sL, hK_cpA, hI_cpA, hR_cpA, hN_cpA, hQ_cpA, hL_cpA, hn_cpA, hK_bump, hI_bump, hR_bump, hN_bump, hA_bump, hQ_bump, hL_bump, hn_bump, hI_sI, hR_sR, hA_sA, hQ_sQ, hL_sL, hA_cpA, LS_k hl1, LS_r0 hl1, LS_r1 hl1, LS_r3 hl1, LS_r5 hl1, LS_k1 hl1, LS_n1 hl1, LS_k2 hl1, LS_n2 hl1, LS_k3 hl1, LS_n3 hl1, LS_k4 hl1, LS_n4 hl1, eP, e1, Ev_some]
  refine ⟨_, rfl, Fr.wI f1' ⟨by omega, by omega⟩, ?_⟩
  obtain ⟨a1, a2, a3, a4, a5, a6, a7, a8, a9, a10, a11, a12, a13⟩ := R
  have lo : ∀ k, ¬ (21 + 9 * P ≤ k ∧ k < 30 + 9 * P) → ¬ k = 3 → postR r P x y k = r k := by
    intro k h1 h2
    unfold postR
    rw [if_neg h1, if_neg h2]
  refine ⟨a1, by omega, a3, a4, ?_, ?_, ?_, ?_, ?_, ?_, fun i hi => ?_, fun q hq k hk => ?_, fun j hj k hk => ?_⟩
  · rw [hI_sI, if_neg (by omega), f1.fi (by omega)]; exact a5
  · rw [hI_sI, if_pos ⟨rfl, rfl⟩]
  · rw [hI_sI, if_neg (by omega), f1.fi (by omega)]; exact a7
  · rw [hI_sI, if_neg (by omega), f1.fi (by omega)]; exact a8
  · rw [hI_sI, if_neg (by omega), f1.fi (by omega), lo _ (by omega) (by omega)]; exact a9
  · rw [hI_sI, if_neg (by omega), f1.fi (by omega), lo _ (by omega) (by omega)]; exact a10
  · rw [hA_sI, f1.ar (by omega), f1.ar (by omega), lo _ (by omega) (by omega), lo _ (by omega) (by omega)]; exact a11 i hi
  · have hs := sw_lt hk
    rw [hI_sI, if_neg (by omega)]
    by_cases c : q = P
    · subst c
      rw [v1 k hk]
      unfold postR
      rw [if_pos ⟨by omega, by omega⟩, show 21 + 9 * q + sw k - (21 + 9 * q) = sw k by omega, sw_sw]
    · rw [f1.fi (by omega), lo _ (by omega) (by omega)]; exact a12 q (by omega) k hk
  · rw [hI_sI, if_neg (by omega), f1.fi (by omega), lo _ (by omega) (by omega)]; exact a13 j hj k hk
theorem s_newGuard {x y z0 : Int32} (hl : LaySt h a) (R : Rl h a r H P G n) (hG : G < 10) : Ev (ev L xs mdX5_newGuard 0 [.ref a, .int x, .int y, .int z0] [] h) (fun z => ∃ h', z = .inl (some (.int (nI G)), h') ∧ Fr (inSt a) h h' ∧ Rl h' a (guardR r G x y z0) H P (G + 1) n) := by
  have e1 : G + 1 - 1 = G := by omega
  simp (disch := first | with_reducible assumption | exact cat_int | exact cat_ref | exact cat_null | exact cat_ra | exact Nat.le_of_ble_eq_true rfl | (simp (disch := omega) only [hK_sI, hR_sI, hN_sI, hA_sI, hQ_sI, hL_sI, hn_sI, hK_sR, hI_sR, hN_sR, hA_sR, hQ_sR, hL_sR, hn_sR, hK_sA, hI_sA, hR_sA, hN_sA, hQ_sA, hL_sA, hn_sA, hK_sQ, hI_sQ, hR_sQ, hN_sQ, hA_sQ, hL_sQ, hn_sQ, hK_sL, hI_sL, hR_sL, hN_sL, hA_sL, hQ_sL, hn_sL, hK_cpA, hI_cpA, hR_cpA, hN_cpA, hQ_cpA, hL_cpA, hn_cpA, hK_bump, hI_bump, hR_bump, hN_bump, hA_bump, hQ_bump, hL_bump, hn_bump, hI_sI, hR_sR, hA_sA, hQ_sQ, hL_sL, hA_cpA, isS, cat_int, cat_ref, cat_null, cat_ra, wds_nil, wds_int, wds_ref, wds_long, wds_ra, nz5, nz7, nz2, idxN, inAN, if_true, if_false, b00, b11, b01, eq_self, true_or, or_true, false_or, or_false, true_and, and_true, false_and, and_false, not_true, not_false_eq_true, LS_k hl, LS_r0 hl, LS_r1 hl, LS_r3 hl, LS_r5 hl, LS_k1 hl, LS_n1 hl, LS_k2 hl, LS_n2 hl, LS_k3 hl, LS_n3 hl, LS_k4 hl, LS_n4 hl, R.hG, LS_go hl hG, LS_gq hl hG]; done) | omega) only [iX5_newGuard_0, iX5_newGuard_1, iX5_newGuard_4, iX5_newGuard_5, iX5_newGuard_8, iX5_newGuard_9, iX5_newGuard_10, iX5_newGuard_11, iX5_newGuard_12, ↓reduceIte, ofN, reduceCtorEq, Bool.false_eq_true, Nat.reduceAdd, Nat.reduceMul, Nat.reduceEqDiff, Nat.reduceLeDiff, Nat.reduceLT, le_nlt, ite_not, Nat.lt_irrefl, Decidable.not_not, kn1, kn0, knite, isS, getS, cat_int, cat_ref, cat_null, cat_ra, wds_nil, wds_int, wds_ref, wds_long, wds_ra, b0, b01, b00, b11, b10, if_true, if_false, ite_self, not_true, not_false_eq_true, true_or, or_true, false_or, or_false, true_and, and_true, false_and, and_false, eq_self, idxN, inAN, nI_add, nI_mul, nI_sub, nz5, nz7, nz2, nI_ltN, Nat.add_zero, Nat.zero_add, hK_sI, hR_sI, hN_sI, hA_sI, hQ_sI, hL_sI, hn_sI, hK_sR, hI_sR, hN_sR, hA_sR, hQ_sR, hL_sR, hn_sR, hK_sA, hI_sA, hR_sA, hN_sA, hQ_sA, hL_sA, hn_sA, hK_sQ, hI_sQ, hR_sQ, hN_sQ, hA_sQ, hL_sQ, hn_sQ, hK_sL, hI_sL, hR_sL, hN_sL, hA_sL, hQ_sL, hn_sL, hK_cpA, hI_cpA, hR_cpA, hN_cpA, hQ_cpA, hL_cpA, hn_cpA, hK_bump, hI_bump, hR_bump, hN_bump, hA_bump, hQ_bump, hL_bump, hn_bump, hI_sI, hR_sR, hA_sA, hQ_sQ, hL_sL, hA_cpA, LS_k hl, LS_r0 hl, LS_r1 hl, LS_r3 hl, LS_r5 hl, LS_k1 hl, LS_n1 hl, LS_k2 hl, LS_n2 hl, LS_k3 hl, LS_n3 hl, LS_k4 hl, LS_n4 hl, R.hG, LS_go hl hG, LS_gq hl hG]
  refine Ev_call (s_gbegin (LS_go hl hG)) ?_
  rintro _ ⟨h1, rfl, f1, v0, v1, v2, v3⟩
  have hl1 := f1.st hl
  have f1' : Fr (inSt a) h h1 := f1.mono (fun j hj => ⟨by omega, by omega⟩)
  have eG : hI h1 86 a = nI G := by rw [f1.fi (by omega)]; exact R.hG
  simp (disch := first | with_reducible assumption | exact cat_int | exact cat_ref | exact cat_null | exact cat_ra | exact Nat.le_of_ble_eq_true rfl | (simp (disch := omega) only [hK_sI, hR_sI, hN_sI, hA_sI, hQ_sI, hL_sI, hn_sI, hK_sR, hI_sR, hN_sR, hA_sR, hQ_sR, hL_sR, hn_sR, hK_sA, hI_sA, hR_sA, hN_sA, hQ_sA, hL_sA, hn_sA, hK_sQ, hI_sQ, hR_sQ, hN_sQ, hA_sQ, hL_sQ, hn_sQ, hK_sL, hI_sL, hR_sL, hN_sL, hA_sL, hQ_sL, hn_sL, hK_cpA, hI_cpA, hR_cpA, hN_cpA, hQ_cpA, hL_cpA, hn_cpA, hK_bump, hI_bump, hR_bump, hN_bump, hA_bump, hQ_bump, hL_bump, hn_bump, hI_sI, hR_sR, hA_sA, hQ_sQ, hL_sL, hA_cpA, isS, cat_int, cat_ref, cat_null, cat_ra, wds_nil, wds_int, wds_ref, wds_long, wds_ra, nz5, nz7, nz2, idxN, inAN, if_true, if_false, b00, b11, b01, eq_self, true_or, or_true, false_or, or_false, true_and, and_true, false_and, and_false, not_true, not_false_eq_true, LS_k hl1, LS_r0 hl1, LS_r1 hl1, LS_r3 hl1, LS_r5 hl1, LS_k1 hl1, LS_n1 hl1, LS_k2 hl1, LS_n2 hl1, LS_k3 hl1, LS_n3 hl1, LS_k4 hl1, LS_n4 hl1, eG, e1, Ev_some]; done) | omega) only [iX5_newGuard_15, iX5_newGuard_16, iX5_newGuard_16i, iX5_newGuard_17, iX5_newGuard_20, iX5_newGuard_21, iX5_newGuard_22, iX5_newGuard_25, iX5_newGuard_26, iX5_newGuard_29, iX5_newGuard_30, iX5_newGuard_31, ↓reduceIte, ofN, reduceCtorEq, Bool.false_eq_true, Nat.reduceAdd, Nat.reduceMul, Nat.reduceEqDiff, Nat.reduceLeDiff, Nat.reduceLT, le_nlt, ite_not, Nat.lt_irrefl, Decidable.not_not, kn1, kn0, knite, isS, getS, cat_int, cat_ref, cat_null, cat_ra, wds_nil, wds_int, wds_ref, wds_long, wds_ra, b0, b01, b00, b11, b10, if_true, if_false, ite_self, not_true, not_false_eq_true, true_or, or_true, false_or, or_false, true_and, and_true, false_and, and_false, eq_self, idxN, inAN, nI_add, nI_mul, nI_sub, nz5, nz7, nz2, nI_ltN, Nat.add_zero, Nat.zero_add, hK_sI, hR_sI, hN_sI, hA_sI, hQ_sI, hL_sI, hn_sI, hK_sR, hI_sR, hN_sR, hA_sR, hQ_sR, hL_sR, hn_sR, hK_sA, hI_sA, hR_sA, hN_sA, hQ_sA, hL_sA, hn_sA, hK_sQ, hI_sQ, hR_sQ, hN_sQ, hA_sQ, hL_sQ, hn_sQ, hK_sL, hI_sL, hR_sL, hN_sL, hA_sL, hQ_sL, hn_sL, hK_cpA, hI_cpA, hR_cpA, hN_cpA, hQ_cpA, hL_cpA, hn_cpA, hK_bump, hI_bump, hR_bump, hN_bump, hA_bump, hQ_bump, hL_bump, hn_bump, hI_sI, hR_sR, hA_sA, hQ_sQ, hL_sL, hA_cpA, LS_k hl1, LS_r0 hl1, LS_r1 hl1, LS_r3 hl1, LS_r5 hl1, LS_k1 hl1, LS_n1 hl1, LS_k2 hl1, LS_n2 hl1, LS_k3 hl1, LS_n3 hl1, LS_k4 hl1, LS_n4 hl1, eG, e1, Ev_some]
  refine ⟨_, rfl, Fr.wI f1' ⟨by omega, by omega⟩, ?_⟩
  obtain ⟨a1, a2, a3, a4, a5, a6, a7, a8, a9, a10, a11, a12, a13⟩ := R
  have lo : ∀ k, ¬ (93 + 9 * G ≤ k ∧ k < 102 + 9 * G) → ¬ k = 4 → guardR r G x y z0 k = r k := by
    intro k h1 h2
    unfold guardR
    rw [if_neg (by omega), if_neg (by omega), if_neg (by omega), if_neg (by omega), if_neg h2]
  refine ⟨a1, a2, by omega, a4, ?_, ?_, ?_, ?_, ?_, ?_, fun i hi => ?_, fun q hq k hk => ?_, fun j hj k hk => ?_⟩
  · rw [hI_sI, if_neg (by omega), f1.fi (by omega)]; exact a5
  · rw [hI_sI, if_neg (by omega), f1.fi (by omega)]; exact a6
  · rw [hI_sI, if_pos ⟨rfl, rfl⟩]
  · rw [hI_sI, if_neg (by omega), f1.fi (by omega)]; exact a8
  · rw [hI_sI, if_neg (by omega), f1.fi (by omega), lo _ (by omega) (by omega)]; exact a9
  · rw [hI_sI, if_neg (by omega), f1.fi (by omega), lo _ (by omega) (by omega)]; exact a10
  · rw [hA_sI, f1.ar (by omega), f1.ar (by omega), lo _ (by omega) (by omega), lo _ (by omega) (by omega)]; exact a11 i hi
  · have hs := sw_lt hk
    rw [hI_sI, if_neg (by omega), f1.fi (by omega), lo _ (by omega) (by omega)]; exact a12 q hq k hk
  · rw [hI_sI, if_neg (by omega)]
    by_cases c : j = G
    · subst c
      unfold guardR
      by_cases c0 : k = 0
      · subst c0; rw [if_pos (by omega)]; exact v0
      · by_cases c1 : k = 1
        · subst c1; rw [if_neg (by omega), if_pos (by omega)]; exact v1
        · by_cases c2 : k = 2
          · subst c2; rw [if_neg (by omega), if_neg (by omega), if_pos (by omega)]; exact v2
          · rw [if_neg (by omega), if_neg (by omega), if_neg (by omega), if_pos ⟨by omega, by omega⟩]; exact v3 k (by omega) hk
    · rw [f1.fi (by omega), lo _ (by omega) (by omega)]; exact a13 j (by omega) k hk
theorem s_copy (hla : LaySt h a) (hlb : LaySt h b) (R : Rl h b r H P G n) (hab : a + 23 ≤ b ∨ b + 23 ≤ a) : Ev (ev L xs mdX5_copyFrom 0 [.ref a, .ref b, .null] [] h) (fun z => ∃ h', z = .inl (none, h') ∧ Fr (inSt a) h h' ∧ Rl h' a r H P G n) := by
  have hP8 := R.P8
  have hG10 := R.G10
  have hH6 := R.H6
  have n6 : (nI 6).toNatClampNeg = 6 := rfl
  have n0' : (nI 0).toNatClampNeg = 0 := rfl
  have g0 : (0 : Int32) ≤ nI 0 := by decide
  have g6 : (0 : Int32) ≤ nI 6 := by decide
  have ba : ¬ b = a := by omega
  have R0 := R
  have hb : ∀ i, b ≤ i → i < b + 23 → ¬ inSt a i := by
    rintro i h1 h2 ⟨h3, h4⟩
    omega
  obtain ⟨a1, a2, a3, a4, a5, a6, a7, a8, a9, a10, a11, a12, a13⟩ := R
  simp (disch := first | with_reducible assumption | exact cat_int | exact cat_ref | exact cat_null | exact cat_ra | exact Nat.le_of_ble_eq_true rfl | (simp (disch := omega) only [hK_sI, hR_sI, hN_sI, hA_sI, hQ_sI, hL_sI, hn_sI, hK_sR, hI_sR, hN_sR, hA_sR, hQ_sR, hL_sR, hn_sR, hK_sA, hI_sA, hR_sA, hN_sA, hQ_sA, hL_sA, hn_sA, hK_sQ, hI_sQ, hR_sQ, hN_sQ, hA_sQ, hL_sQ, hn_sQ, hK_sL, hI_sL, hR_sL, hN_sL, hA_sL, hQ_sL, hn_sL, hK_cpA, hI_cpA, hR_cpA, hN_cpA, hQ_cpA, hL_cpA, hn_cpA, hK_bump, hI_bump, hR_bump, hN_bump, hA_bump, hQ_bump, hL_bump, hn_bump, hI_sI, hR_sR, hA_sA, hQ_sQ, hL_sL, hA_cpA, isS, cat_int, cat_ref, cat_null, cat_ra, wds_nil, wds_int, wds_ref, wds_long, wds_ra, nz5, nz7, nz2, idxN, inAN, if_true, if_false, b00, b11, b01, eq_self, true_or, or_true, false_or, or_false, true_and, and_true, false_and, and_false, not_true, not_false_eq_true, LS_k hla, LS_r0 hla, LS_r1 hla, LS_r3 hla, LS_r5 hla, LS_k1 hla, LS_n1 hla, LS_k2 hla, LS_n2 hla, LS_k3 hla, LS_n3 hla, LS_k4 hla, LS_n4 hla, LS_k hlb, LS_r0 hlb, LS_r1 hlb, LS_r3 hlb, LS_r5 hlb, LS_k1 hlb, LS_n1 hlb, LS_k2 hlb, LS_n2 hlb, LS_k3 hlb, LS_n3 hlb, LS_k4 hlb, LS_n4 hlb, a5, a6, a7, a8, a9, a10, ba, n6, n0', Nat.zero_add, Nat.le_refl]; done) | omega) only [iX5_copyFrom_0, iX5_copyFrom_1, iX5_copyFrom_2, iX5_copyFrom_5, iX5_copyFrom_8, iX5_copyFrom_9, iX5_copyFrom_10, iX5_copyFrom_13, iX5_copyFrom_16, iX5_copyFrom_17, iX5_copyFrom_18, iX5_copyFrom_21, iX5_copyFrom_24, iX5_copyFrom_25, iX5_copyFrom_26, iX5_copyFrom_29, iX5_copyFrom_32, iX5_copyFrom_33, iX5_copyFrom_34, iX5_copyFrom_37, iX5_copyFrom_40, iX5_copyFrom_41, iX5_copyFrom_42, iX5_copyFrom_45, iX5_copyFrom_48, iX5_copyFrom_49, iX5_copyFrom_52, iX5_copyFrom_53, iX5_copyFrom_54, iX5_copyFrom_57, iX5_copyFrom_58, iX5_copyFrom_60, iX5_copyFrom_63, iX5_copyFrom_64, iX5_copyFrom_67, iX5_copyFrom_68, iX5_copyFrom_69, iX5_copyFrom_72, iX5_copyFrom_73, iX5_copyFrom_75, iX5_copyFrom_78, iX5_copyFrom_79, ↓reduceIte, ofN, reduceCtorEq, Bool.false_eq_true, Nat.reduceAdd, Nat.reduceMul, Nat.reduceEqDiff, Nat.reduceLeDiff, Nat.reduceLT, le_nlt, ite_not, Nat.lt_irrefl, Decidable.not_not, kn1, kn0, knite, isS, getS, cat_int, cat_ref, cat_null, cat_ra, wds_nil, wds_int, wds_ref, wds_long, wds_ra, b0, b01, b00, b11, b10, if_true, if_false, ite_self, not_true, not_false_eq_true, true_or, or_true, false_or, or_false, true_and, and_true, false_and, and_false, eq_self, idxN, inAN, nI_add, nI_mul, nI_sub, nz5, nz7, nz2, nI_ltN, Nat.add_zero, Nat.zero_add, hK_sI, hR_sI, hN_sI, hA_sI, hQ_sI, hL_sI, hn_sI, hK_sR, hI_sR, hN_sR, hA_sR, hQ_sR, hL_sR, hn_sR, hK_sA, hI_sA, hR_sA, hN_sA, hQ_sA, hL_sA, hn_sA, hK_sQ, hI_sQ, hR_sQ, hN_sQ, hA_sQ, hL_sQ, hn_sQ, hK_sL, hI_sL, hR_sL, hN_sL, hA_sL, hQ_sL, hn_sL, hK_cpA, hI_cpA, hR_cpA, hN_cpA, hQ_cpA, hL_cpA, hn_cpA, hK_bump, hI_bump, hR_bump, hN_bump, hA_bump, hQ_bump, hL_bump, hn_bump, hI_sI, hR_sR, hA_sA, hQ_sQ, hL_sL, hA_cpA, LS_k hla, LS_r0 hla, LS_r1 hla, LS_r3 hla, LS_r5 hla, LS_k1 hla, LS_n1 hla, LS_k2 hla, LS_n2 hla, LS_k3 hla, LS_n3 hla, LS_k4 hla, LS_n4 hla, LS_k hlb, LS_r0 hlb, LS_r1 hlb, LS_r3 hlb, LS_r5 hlb, LS_k1 hlb, LS_n1 hlb, LS_k2 hlb, LS_n2 hlb, LS_k3 hlb, LS_n3 hlb, LS_k4 hlb, LS_n4 hlb, a5, a6, a7, a8, a9, a10, ba, n6, n0', Nat.zero_add, Nat.le_refl]
  refine Ev_loop (n := P) (fun i Ls h' => Ls = [.ref a, .ref b, .int (nI i)] ∧ Fr (inSt a) h h' ∧ (hI h' 82 a = nI H ∧ hI h' 84 a = nI P ∧ hI h' 86 a = nI G ∧ hI h' 87 a = nI n ∧ hI h' 88 a = r 5 ∧ hI h' 89 a = r 6 ∧ ∀ i, i < H → hA h' (a + 1) i = r (9 + 2 * i) ∧ hA h' (a + 2) i = r (10 + 2 * i)) ∧ ∀ p, p < i → ∀ f, f < 9 → hI h' (32 + f) (a + 5 + p) = r (21 + 9 * p + sw f)) ?_ ?_ (Nat.zero_le _) ⟨rfl, ?_, ⟨?_, ?_, ?_, ?_, ?_, ?_, fun i hi => ⟨?_, ?_⟩⟩, fun p hp => absurd hp (by omega)⟩
  · rintro i Ls h' hi ⟨rfl, f, hh, hp⟩ k
    have hi8 : i < 8 := by omega
    have hla' := f.st hla
    have hlb' := f.st hlb
    have R' := R0.fr f hb
    obtain ⟨q1, q2, q3, q4, q5, q6, q7⟩ := hh
    rw [iX5_copyFrom_80]
    simp (disch := first | with_reducible assumption | exact cat_int | exact cat_ref | exact cat_null | exact cat_ra | exact Nat.le_of_ble_eq_true rfl | (simp (disch := omega) only [hK_sI, hR_sI, hN_sI, hA_sI, hQ_sI, hL_sI, hn_sI, hK_sR, hI_sR, hN_sR, hA_sR, hQ_sR, hL_sR, hn_sR, hK_sA, hI_sA, hR_sA, hN_sA, hQ_sA, hL_sA, hn_sA, hK_sQ, hI_sQ, hR_sQ, hN_sQ, hA_sQ, hL_sQ, hn_sQ, hK_sL, hI_sL, hR_sL, hN_sL, hA_sL, hQ_sL, hn_sL, hK_cpA, hI_cpA, hR_cpA, hN_cpA, hQ_cpA, hL_cpA, hn_cpA, hK_bump, hI_bump, hR_bump, hN_bump, hA_bump, hQ_bump, hL_bump, hn_bump, hI_sI, hR_sR, hA_sA, hQ_sQ, hL_sL, hA_cpA, isS, cat_int, cat_ref, cat_null, cat_ra, wds_nil, wds_int, wds_ref, wds_long, wds_ra, nz5, nz7, nz2, idxN, inAN, if_true, if_false, b00, b11, b01, eq_self, true_or, or_true, false_or, or_false, true_and, and_true, false_and, and_false, not_true, not_false_eq_true, LS_k hla', LS_r0 hla', LS_r1 hla', LS_r3 hla', LS_r5 hla', LS_k1 hla', LS_n1 hla', LS_k2 hla', LS_n2 hla', LS_k3 hla', LS_n3 hla', LS_k4 hla', LS_n4 hla', LS_k hlb', LS_r0 hlb', LS_r1 hlb', LS_r3 hlb', LS_r5 hlb', LS_k1 hlb', LS_n1 hlb', LS_k2 hlb', LS_n2 hlb', LS_k3 hlb', LS_n3 hlb', LS_k4 hlb', LS_n4 hlb', q2, hi, LS_po hla' hi8, LS_pq hla' hi8, LS_po hlb' hi8, LS_pq hlb' hi8]; done) | omega) only [iX5_copyFrom_81, iX5_copyFrom_82, iX5_copyFrom_85, iX5_copyFrom_88, iX5_copyFrom_89, iX5_copyFrom_92, iX5_copyFrom_93, iX5_copyFrom_94, iX5_copyFrom_95, iX5_copyFrom_98, iX5_copyFrom_99, iX5_copyFrom_100, ↓reduceIte, ofN, reduceCtorEq, Bool.false_eq_true, Nat.reduceAdd, Nat.reduceMul, Nat.reduceEqDiff, Nat.reduceLeDiff, Nat.reduceLT, le_nlt, ite_not, Nat.lt_irrefl, Decidable.not_not, kn1, kn0, knite, isS, getS, cat_int, cat_ref, cat_null, cat_ra, wds_nil, wds_int, wds_ref, wds_long, wds_ra, b0, b01, b00, b11, b10, if_true, if_false, ite_self, not_true, not_false_eq_true, true_or, or_true, false_or, or_false, true_and, and_true, false_and, and_false, eq_self, idxN, inAN, nI_add, nI_mul, nI_sub, nz5, nz7, nz2, nI_ltN, Nat.add_zero, Nat.zero_add, hK_sI, hR_sI, hN_sI, hA_sI, hQ_sI, hL_sI, hn_sI, hK_sR, hI_sR, hN_sR, hA_sR, hQ_sR, hL_sR, hn_sR, hK_sA, hI_sA, hR_sA, hN_sA, hQ_sA, hL_sA, hn_sA, hK_sQ, hI_sQ, hR_sQ, hN_sQ, hA_sQ, hL_sQ, hn_sQ, hK_sL, hI_sL, hR_sL, hN_sL, hA_sL, hQ_sL, hn_sL, hK_cpA, hI_cpA, hR_cpA, hN_cpA, hQ_cpA, hL_cpA, hn_cpA, hK_bump, hI_bump, hR_bump, hN_bump, hA_bump, hQ_bump, hL_bump, hn_bump, hI_sI, hR_sR, hA_sA, hQ_sQ, hL_sL, hA_cpA, LS_k hla', LS_r0 hla', LS_r1 hla', LS_r3 hla', LS_r5 hla', LS_k1 hla', LS_n1 hla', LS_k2 hla', LS_n2 hla', LS_k3 hla', LS_n3 hla', LS_k4 hla', LS_n4 hla', LS_k hlb', LS_r0 hlb', LS_r1 hlb', LS_r3 hlb', LS_r5 hlb', LS_k1 hlb', LS_n1 hlb', LS_k2 hlb', LS_n2 hlb', LS_k3 hlb', LS_n3 hlb', LS_k4 hlb', LS_n4 hlb', q2, hi, LS_po hla' hi8, LS_pq hla' hi8, LS_po hlb' hi8, LS_pq hlb' hi8]
    refine Ev_call (s_pcopy (LS_po hla' hi8) (LS_po hlb' hi8) (by omega)) ?_
    rintro _ ⟨h1, rfl, f1, v1⟩
    simp (disch := first | with_reducible assumption | exact cat_int | exact cat_ref | exact cat_null | exact cat_ra | exact Nat.le_of_ble_eq_true rfl | (simp (disch := omega) only [hK_sI, hR_sI, hN_sI, hA_sI, hQ_sI, hL_sI, hn_sI, hK_sR, hI_sR, hN_sR, hA_sR, hQ_sR, hL_sR, hn_sR, hK_sA, hI_sA, hR_sA, hN_sA, hQ_sA, hL_sA, hn_sA, hK_sQ, hI_sQ, hR_sQ, hN_sQ, hA_sQ, hL_sQ, hn_sQ, hK_sL, hI_sL, hR_sL, hN_sL, hA_sL, hQ_sL, hn_sL, hK_cpA, hI_cpA, hR_cpA, hN_cpA, hQ_cpA, hL_cpA, hn_cpA, hK_bump, hI_bump, hR_bump, hN_bump, hA_bump, hQ_bump, hL_bump, hn_bump, hI_sI, hR_sR, hA_sA, hQ_sQ, hL_sL, hA_cpA, isS, cat_int, cat_ref, cat_null, cat_ra, wds_nil, wds_int, wds_ref, wds_long, wds_ra, nz5, nz7, nz2, idxN, inAN, if_true, if_false, b00, b11, b01, eq_self, true_or, or_true, false_or, or_false, true_and, and_true, false_and, and_false, not_true, not_false_eq_true]; done) | omega) only [iX5_copyFrom_103, iX5_copyFrom_106, ↓reduceIte, ofN, reduceCtorEq, Bool.false_eq_true, Nat.reduceAdd, Nat.reduceMul, Nat.reduceEqDiff, Nat.reduceLeDiff, Nat.reduceLT, le_nlt, ite_not, Nat.lt_irrefl, Decidable.not_not, kn1, kn0, knite, isS, getS, cat_int, cat_ref, cat_null, cat_ra, wds_nil, wds_int, wds_ref, wds_long, wds_ra, b0, b01, b00, b11, b10, if_true, if_false, ite_self, not_true, not_false_eq_true, true_or, or_true, false_or, or_false, true_and, and_true, false_and, and_false, eq_self, idxN, inAN, nI_add, nI_mul, nI_sub, nz5, nz7, nz2, nI_ltN, Nat.add_zero, Nat.zero_add, hK_sI, hR_sI, hN_sI, hA_sI, hQ_sI, hL_sI, hn_sI, hK_sR, hI_sR, hN_sR, hA_sR, hQ_sR, hL_sR, hn_sR, hK_sA, hI_sA, hR_sA, hN_sA, hQ_sA, hL_sA, hn_sA, hK_sQ, hI_sQ, hR_sQ, hN_sQ, hA_sQ, hL_sQ, hn_sQ, hK_sL, hI_sL, hR_sL, hN_sL, hA_sL, hQ_sL, hn_sL, hK_cpA, hI_cpA, hR_cpA, hN_cpA, hQ_cpA, hL_cpA, hn_cpA, hK_bump, hI_bump, hR_bump, hN_bump, hA_bump, hQ_bump, hL_bump, hn_bump, hI_sI, hR_sR, hA_sA, hQ_sQ, hL_sL, hA_cpA]
    refine k _ _ ⟨rfl, f.tr (f1.mono (fun j hj => ⟨by omega, by omega⟩)), ⟨?_, ?_, ?_, ?_, ?_, ?_, fun i hi => ?_⟩, fun p hp9 f9 hk => ?_⟩
    · rw [f1.fi (by omega)]; exact q1
    · rw [f1.fi (by omega)]; exact q2
    · rw [f1.fi (by omega)]; exact q3
    · rw [f1.fi (by omega)]; exact q4
    · rw [f1.fi (by omega)]; exact q5
    · rw [f1.fi (by omega)]; exact q6
    · rw [f1.ar (by omega), f1.ar (by omega)]; exact q7 i hi
    · by_cases c : p = i
      · subst c
        rw [v1 f9 hk]
        exact R'.po hi hk
      · rw [f1.fi (by omega)]; exact hp p (by omega) f9 hk
  · rintro Ls h' ⟨rfl, f, hh, hp⟩
    have hla' := f.st hla
    rw [iX5_copyFrom_80]
    obtain ⟨q1, q2, q3, q4, q5, q6, q7⟩ := hh
    simp (disch := first | with_reducible assumption | exact cat_int | exact cat_ref | exact cat_null | exact cat_ra | exact Nat.le_of_ble_eq_true rfl | (simp (disch := omega) only [hK_sI, hR_sI, hN_sI, hA_sI, hQ_sI, hL_sI, hn_sI, hK_sR, hI_sR, hN_sR, hA_sR, hQ_sR, hL_sR, hn_sR, hK_sA, hI_sA, hR_sA, hN_sA, hQ_sA, hL_sA, hn_sA, hK_sQ, hI_sQ, hR_sQ, hN_sQ, hA_sQ, hL_sQ, hn_sQ, hK_sL, hI_sL, hR_sL, hN_sL, hA_sL, hQ_sL, hn_sL, hK_cpA, hI_cpA, hR_cpA, hN_cpA, hQ_cpA, hL_cpA, hn_cpA, hK_bump, hI_bump, hR_bump, hN_bump, hA_bump, hQ_bump, hL_bump, hn_bump, hI_sI, hR_sR, hA_sA, hQ_sQ, hL_sL, hA_cpA, isS, cat_int, cat_ref, cat_null, cat_ra, wds_nil, wds_int, wds_ref, wds_long, wds_ra, nz5, nz7, nz2, idxN, inAN, if_true, if_false, b00, b11, b01, eq_self, true_or, or_true, false_or, or_false, true_and, and_true, false_and, and_false, not_true, not_false_eq_true, LS_k hla', LS_r0 hla', LS_r1 hla', LS_r3 hla', LS_r5 hla', LS_k1 hla', LS_n1 hla', LS_k2 hla', LS_n2 hla', LS_k3 hla', LS_n3 hla', LS_k4 hla', LS_n4 hla', q2]; done) | omega) only [iX5_copyFrom_81, iX5_copyFrom_82, iX5_copyFrom_85, iX5_copyFrom_109, iX5_copyFrom_110, ↓reduceIte, ofN, reduceCtorEq, Bool.false_eq_true, Nat.reduceAdd, Nat.reduceMul, Nat.reduceEqDiff, Nat.reduceLeDiff, Nat.reduceLT, le_nlt, ite_not, Nat.lt_irrefl, Decidable.not_not, kn1, kn0, knite, isS, getS, cat_int, cat_ref, cat_null, cat_ra, wds_nil, wds_int, wds_ref, wds_long, wds_ra, b0, b01, b00, b11, b10, if_true, if_false, ite_self, not_true, not_false_eq_true, true_or, or_true, false_or, or_false, true_and, and_true, false_and, and_false, eq_self, idxN, inAN, nI_add, nI_mul, nI_sub, nz5, nz7, nz2, nI_ltN, Nat.add_zero, Nat.zero_add, hK_sI, hR_sI, hN_sI, hA_sI, hQ_sI, hL_sI, hn_sI, hK_sR, hI_sR, hN_sR, hA_sR, hQ_sR, hL_sR, hn_sR, hK_sA, hI_sA, hR_sA, hN_sA, hQ_sA, hL_sA, hn_sA, hK_sQ, hI_sQ, hR_sQ, hN_sQ, hA_sQ, hL_sQ, hn_sQ, hK_sL, hI_sL, hR_sL, hN_sL, hA_sL, hQ_sL, hn_sL, hK_cpA, hI_cpA, hR_cpA, hN_cpA, hQ_cpA, hL_cpA, hn_cpA, hK_bump, hI_bump, hR_bump, hN_bump, hA_bump, hQ_bump, hL_bump, hn_bump, hI_sI, hR_sR, hA_sA, hQ_sQ, hL_sL, hA_cpA, LS_k hla', LS_r0 hla', LS_r1 hla', LS_r3 hla', LS_r5 hla', LS_k1 hla', LS_n1 hla', LS_k2 hla', LS_n2 hla', LS_k3 hla', LS_n3 hla', LS_k4 hla', LS_n4 hla', q2]
    refine Ev_loop (n := G) (fun i Ls h' => Ls = [.ref a, .ref b, .int (nI i)] ∧ Fr (inSt a) h h' ∧ (hI h' 82 a = nI H ∧ hI h' 84 a = nI P ∧ hI h' 86 a = nI G ∧ hI h' 87 a = nI n ∧ hI h' 88 a = r 5 ∧ hI h' 89 a = r 6 ∧ ∀ i, i < H → hA h' (a + 1) i = r (9 + 2 * i) ∧ hA h' (a + 2) i = r (10 + 2 * i)) ∧ (∀ p, p < P → ∀ f, f < 9 → hI h' (32 + f) (a + 5 + p) = r (21 + 9 * p + sw f)) ∧ ∀ g, g < i → ∀ f, f < 9 → hI h' f (a + 13 + g) = r (93 + 9 * g + f)) ?_ ?_ (Nat.zero_le _) ⟨rfl, f, ⟨q1, q2, q3, q4, q5, q6, q7⟩, hp, fun g hg => absurd hg (by omega)⟩
    · rintro i Ls h' hi ⟨rfl, f, hh, hp, hg⟩ k
      have hi8 : i < 10 := by omega
      have hla' := f.st hla
      have hlb' := f.st hlb
      have R' := R0.fr f hb
      obtain ⟨q1, q2, q3, q4, q5, q6, q7⟩ := hh
      rw [iX5_copyFrom_111]
      simp (disch := first | with_reducible assumption | exact cat_int | exact cat_ref | exact cat_null | exact cat_ra | exact Nat.le_of_ble_eq_true rfl | (simp (disch := omega) only [hK_sI, hR_sI, hN_sI, hA_sI, hQ_sI, hL_sI, hn_sI, hK_sR, hI_sR, hN_sR, hA_sR, hQ_sR, hL_sR, hn_sR, hK_sA, hI_sA, hR_sA, hN_sA, hQ_sA, hL_sA, hn_sA, hK_sQ, hI_sQ, hR_sQ, hN_sQ, hA_sQ, hL_sQ, hn_sQ, hK_sL, hI_sL, hR_sL, hN_sL, hA_sL, hQ_sL, hn_sL, hK_cpA, hI_cpA, hR_cpA, hN_cpA, hQ_cpA, hL_cpA, hn_cpA, hK_bump, hI_bump, hR_bump, hN_bump, hA_bump, hQ_bump, hL_bump, hn_bump, hI_sI, hR_sR, hA_sA, hQ_sQ, hL_sL, hA_cpA, isS, cat_int, cat_ref, cat_null, cat_ra, wds_nil, wds_int, wds_ref, wds_long, wds_ra, nz5, nz7, nz2, idxN, inAN, if_true, if_false, b00, b11, b01, eq_self, true_or, or_true, false_or, or_false, true_and, and_true, false_and, and_false, not_true, not_false_eq_true, LS_k hla', LS_r0 hla', LS_r1 hla', LS_r3 hla', LS_r5 hla', LS_k1 hla', LS_n1 hla', LS_k2 hla', LS_n2 hla', LS_k3 hla', LS_n3 hla', LS_k4 hla', LS_n4 hla', LS_k hlb', LS_r0 hlb', LS_r1 hlb', LS_r3 hlb', LS_r5 hlb', LS_k1 hlb', LS_n1 hlb', LS_k2 hlb', LS_n2 hlb', LS_k3 hlb', LS_n3 hlb', LS_k4 hlb', LS_n4 hlb', q3, hi, LS_go hla' hi8, LS_gq hla' hi8, LS_go hlb' hi8, LS_gq hlb' hi8]; done) | omega) only [iX5_copyFrom_112, iX5_copyFrom_113, iX5_copyFrom_116, iX5_copyFrom_119, iX5_copyFrom_120, iX5_copyFrom_123, iX5_copyFrom_124, iX5_copyFrom_125, iX5_copyFrom_126, iX5_copyFrom_129, iX5_copyFrom_130, iX5_copyFrom_131, ↓reduceIte, ofN, reduceCtorEq, Bool.false_eq_true, Nat.reduceAdd, Nat.reduceMul, Nat.reduceEqDiff, Nat.reduceLeDiff, Nat.reduceLT, le_nlt, ite_not, Nat.lt_irrefl, Decidable.not_not, kn1, kn0, knite, isS, getS, cat_int, cat_ref, cat_null, cat_ra, wds_nil, wds_int, wds_ref, wds_long, wds_ra, b0, b01, b00, b11, b10, if_true, if_false, ite_self, not_true, not_false_eq_true, true_or, or_true, false_or, or_false, true_and, and_true, false_and, and_false, eq_self, idxN, inAN, nI_add, nI_mul, nI_sub, nz5, nz7, nz2, nI_ltN, Nat.add_zero, Nat.zero_add, hK_sI, hR_sI, hN_sI, hA_sI, hQ_sI, hL_sI, hn_sI, hK_sR, hI_sR, hN_sR, hA_sR, hQ_sR, hL_sR, hn_sR, hK_sA, hI_sA, hR_sA, hN_sA, hQ_sA, hL_sA, hn_sA, hK_sQ, hI_sQ, hR_sQ, hN_sQ, hA_sQ, hL_sQ, hn_sQ, hK_sL, hI_sL, hR_sL, hN_sL, hA_sL, hQ_sL, hn_sL, hK_cpA, hI_cpA, hR_cpA, hN_cpA, hQ_cpA, hL_cpA, hn_cpA, hK_bump, hI_bump, hR_bump, hN_bump, hA_bump, hQ_bump, hL_bump, hn_bump, hI_sI, hR_sR, hA_sA, hQ_sQ, hL_sL, hA_cpA, LS_k hla', LS_r0 hla', LS_r1 hla', LS_r3 hla', LS_r5 hla', LS_k1 hla', LS_n1 hla', LS_k2 hla', LS_n2 hla', LS_k3 hla', LS_n3 hla', LS_k4 hla', LS_n4 hla', LS_k hlb', LS_r0 hlb', LS_r1 hlb', LS_r3 hlb', LS_r5 hlb', LS_k1 hlb', LS_n1 hlb', LS_k2 hlb', LS_n2 hlb', LS_k3 hlb', LS_n3 hlb', LS_k4 hlb', LS_n4 hlb', q3, hi, LS_go hla' hi8, LS_gq hla' hi8, LS_go hlb' hi8, LS_gq hlb' hi8]
      refine Ev_call (s_gcopy (LS_go hla' hi8) (LS_go hlb' hi8) (by omega)) ?_
      rintro _ ⟨h1, rfl, f1, v1⟩
      simp (disch := first | with_reducible assumption | exact cat_int | exact cat_ref | exact cat_null | exact cat_ra | exact Nat.le_of_ble_eq_true rfl | (simp (disch := omega) only [hK_sI, hR_sI, hN_sI, hA_sI, hQ_sI, hL_sI, hn_sI, hK_sR, hI_sR, hN_sR, hA_sR, hQ_sR, hL_sR, hn_sR, hK_sA, hI_sA, hR_sA, hN_sA, hQ_sA, hL_sA, hn_sA, hK_sQ, hI_sQ, hR_sQ, hN_sQ, hA_sQ, hL_sQ, hn_sQ, hK_sL, hI_sL, hR_sL, hN_sL, hA_sL, hQ_sL, hn_sL, hK_cpA, hI_cpA, hR_cpA, hN_cpA, hQ_cpA, hL_cpA, hn_cpA, hK_bump, hI_bump, hR_bump, hN_bump, hA_bump, hQ_bump, hL_bump, hn_bump, hI_sI, hR_sR, hA_sA, hQ_sQ, hL_sL, hA_cpA, isS, cat_int, cat_ref, cat_null, cat_ra, wds_nil, wds_int, wds_ref, wds_long, wds_ra, nz5, nz7, nz2, idxN, inAN, if_true, if_false, b00, b11, b01, eq_self, true_or, or_true, false_or, or_false, true_and, and_true, false_and, and_false, not_true, not_false_eq_true]; done) | omega) only [iX5_copyFrom_134, iX5_copyFrom_137, ↓reduceIte, ofN, reduceCtorEq, Bool.false_eq_true, Nat.reduceAdd, Nat.reduceMul, Nat.reduceEqDiff, Nat.reduceLeDiff, Nat.reduceLT, le_nlt, ite_not, Nat.lt_irrefl, Decidable.not_not, kn1, kn0, knite, isS, getS, cat_int, cat_ref, cat_null, cat_ra, wds_nil, wds_int, wds_ref, wds_long, wds_ra, b0, b01, b00, b11, b10, if_true, if_false, ite_self, not_true, not_false_eq_true, true_or, or_true, false_or, or_false, true_and, and_true, false_and, and_false, eq_self, idxN, inAN, nI_add, nI_mul, nI_sub, nz5, nz7, nz2, nI_ltN, Nat.add_zero, Nat.zero_add, hK_sI, hR_sI, hN_sI, hA_sI, hQ_sI, hL_sI, hn_sI, hK_sR, hI_sR, hN_sR, hA_sR, hQ_sR, hL_sR, hn_sR, hK_sA, hI_sA, hR_sA, hN_sA, hQ_sA, hL_sA, hn_sA, hK_sQ, hI_sQ, hR_sQ, hN_sQ, hA_sQ, hL_sQ, hn_sQ, hK_sL, hI_sL, hR_sL, hN_sL, hA_sL, hQ_sL, hn_sL, hK_cpA, hI_cpA, hR_cpA, hN_cpA, hQ_cpA, hL_cpA, hn_cpA, hK_bump, hI_bump, hR_bump, hN_bump, hA_bump, hQ_bump, hL_bump, hn_bump, hI_sI, hR_sR, hA_sA, hQ_sQ, hL_sL, hA_cpA]
      refine k _ _ ⟨rfl, f.tr (f1.mono (fun j hj => ⟨by omega, by omega⟩)), ⟨?_, ?_, ?_, ?_, ?_, ?_, fun i hi => ?_⟩, fun p hp9 f9 hk => ?_, fun g hg9 f9 hk => ?_⟩
      · rw [f1.fi (by omega)]; exact q1
      · rw [f1.fi (by omega)]; exact q2
      · rw [f1.fi (by omega)]; exact q3
      · rw [f1.fi (by omega)]; exact q4
      · rw [f1.fi (by omega)]; exact q5
      · rw [f1.fi (by omega)]; exact q6
      · rw [f1.ar (by omega), f1.ar (by omega)]; exact q7 i hi
      · rw [f1.fi (by omega)]; exact hp p hp9 f9 hk
      · by_cases c : g = i
        · subst c
          rw [v1 f9 hk]
          exact R'.gu hi hk
        · rw [f1.fi (by omega)]; exact hg g (by omega) f9 hk
    · rintro Ls h' ⟨rfl, f, hh, hp, hg⟩
      have hla' := f.st hla
      obtain ⟨q1, q2, q3, q4, q5, q6, q7⟩ := hh
      rw [iX5_copyFrom_111]
      simp (disch := first | with_reducible assumption | exact cat_int | exact cat_ref | exact cat_null | exact cat_ra | exact Nat.le_of_ble_eq_true rfl | (simp (disch := omega) only [hK_sI, hR_sI, hN_sI, hA_sI, hQ_sI, hL_sI, hn_sI, hK_sR, hI_sR, hN_sR, hA_sR, hQ_sR, hL_sR, hn_sR, hK_sA, hI_sA, hR_sA, hN_sA, hQ_sA, hL_sA, hn_sA, hK_sQ, hI_sQ, hR_sQ, hN_sQ, hA_sQ, hL_sQ, hn_sQ, hK_sL, hI_sL, hR_sL, hN_sL, hA_sL, hQ_sL, hn_sL, hK_cpA, hI_cpA, hR_cpA, hN_cpA, hQ_cpA, hL_cpA, hn_cpA, hK_bump, hI_bump, hR_bump, hN_bump, hA_bump, hQ_bump, hL_bump, hn_bump, hI_sI, hR_sR, hA_sA, hQ_sQ, hL_sL, hA_cpA, isS, cat_int, cat_ref, cat_null, cat_ra, wds_nil, wds_int, wds_ref, wds_long, wds_ra, nz5, nz7, nz2, idxN, inAN, if_true, if_false, b00, b11, b01, eq_self, true_or, or_true, false_or, or_false, true_and, and_true, false_and, and_false, not_true, not_false_eq_true, LS_k hla', LS_r0 hla', LS_r1 hla', LS_r3 hla', LS_r5 hla', LS_k1 hla', LS_n1 hla', LS_k2 hla', LS_n2 hla', LS_k3 hla', LS_n3 hla', LS_k4 hla', LS_n4 hla', q3, Ev_some]; done) | omega) only [iX5_copyFrom_112, iX5_copyFrom_113, iX5_copyFrom_116, iX5_copyFrom_140, ↓reduceIte, ofN, reduceCtorEq, Bool.false_eq_true, Nat.reduceAdd, Nat.reduceMul, Nat.reduceEqDiff, Nat.reduceLeDiff, Nat.reduceLT, le_nlt, ite_not, Nat.lt_irrefl, Decidable.not_not, kn1, kn0, knite, isS, getS, cat_int, cat_ref, cat_null, cat_ra, wds_nil, wds_int, wds_ref, wds_long, wds_ra, b0, b01, b00, b11, b10, if_true, if_false, ite_self, not_true, not_false_eq_true, true_or, or_true, false_or, or_false, true_and, and_true, false_and, and_false, eq_self, idxN, inAN, nI_add, nI_mul, nI_sub, nz5, nz7, nz2, nI_ltN, Nat.add_zero, Nat.zero_add, hK_sI, hR_sI, hN_sI, hA_sI, hQ_sI, hL_sI, hn_sI, hK_sR, hI_sR, hN_sR, hA_sR, hQ_sR, hL_sR, hn_sR, hK_sA, hI_sA, hR_sA, hN_sA, hQ_sA, hL_sA, hn_sA, hK_sQ, hI_sQ, hR_sQ, hN_sQ, hA_sQ, hL_sQ, hn_sQ, hK_sL, hI_sL, hR_sL, hN_sL, hA_sL, hQ_sL, hn_sL, hK_cpA, hI_cpA, hR_cpA, hN_cpA, hQ_cpA, hL_cpA, hn_cpA, hK_bump, hI_bump, hR_bump, hN_bump, hA_bump, hQ_bump, hL_bump, hn_bump, hI_sI, hR_sR, hA_sA, hQ_sQ, hL_sL, hA_cpA, LS_k hla', LS_r0 hla', LS_r1 hla', LS_r3 hla', LS_r5 hla', LS_k1 hla', LS_n1 hla', LS_k2 hla', LS_n2 hla', LS_k3 hla', LS_n3 hla', LS_k4 hla', LS_n4 hla', q3, Ev_some]
      exact ⟨h', rfl, f, a1, a2, a3, a4, q1, q2, q3, q4, q5, q6, q7, hp, hg⟩
  · exact (by (repeat' (first | (with_reducible refine Fr.wI ?_ ?_) | (with_reducible refine Fr.wA ?_ ?_) | (with_reducible refine Fr.wC ?_ ?_))); all_goals first | (with_reducible exact Fr.rfl) | rfl | (show _ ∧ _; omega))
  · simp [hI_cpA, hI_sI]
  · simp [hI_cpA, hI_sI]
  · simp [hI_cpA, hI_sI]
  · simp [hI_cpA, hI_sI]
  · simp [hI_cpA, hI_sI]
  · simp [hI_cpA, hI_sI]
  · rw [hA_cpA, if_neg (by omega), hA_cpA, if_pos rfl]
    unfold va_cpy
    rw [if_pos ⟨by omega, by omega⟩]
    simp only [hA_sI, Nat.sub_zero, Nat.zero_add]
    exact (a11 i hi).1
  · rw [hA_cpA, if_pos rfl]
    unfold va_cpy
    rw [if_pos ⟨by omega, by omega⟩]
    rw [hA_cpA, if_neg (by omega)]
    simp only [hA_sI, Nat.sub_zero, Nat.zero_add]
    exact (a11 i hi).2
end
