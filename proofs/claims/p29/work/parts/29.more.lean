/-! MORE THAT CHANGES A STATE -/
def goN (r : Rw) (H P G n : Nat) : Nat → Rw
  | 0 => r
  | k + 1 => goR (goN r H P G n k) H P G (n + k)
def goSum (r : Rw) (H P G n : Nat) : Nat → Nat
  | 0 => 0
  | k + 1 => goSum r H P G n k + popc (goL (goN r H P G n k) H P G (n + k)).2.2.2
theorem gSt2 {f : Rw} {p pl : Int32} : gSt f p pl 2 = f 2 := by simp [gSt]
theorem gSt0 {f : Rw} {p pl : Int32} : gSt f p pl 0 = f 0 := by simp [gSt]
theorem gSt1 {f : Rw} {p pl : Int32} : gSt f p pl 1 = f 1 := by simp [gSt]
theorem gSt6 {f : Rw} {p pl : Int32} : gSt f p pl 6 = f 6 := by simp [gSt]
theorem payR_at {r : Rw} {g p j k : Nat} (hk : k < 9) (h : ∀ f p pl, gSt f p pl k = f k) : payR r g p (93 + 9 * j + k) = r (93 + 9 * j + k) := by
  unfold payR
  by_cases c : j = g
  · subst c
    rw [if_pos ⟨by omega, by omega⟩, show 93 + 9 * j + k - (93 + 9 * j) = k by omega, h]
  · rw [if_neg (by omega)]
theorem goS_at {s : LK} {n p j k : Nat} {r : Rw} (hp : p < 8) (hk : k < 9) (h : ∀ f p pl, gSt f p pl k = f k) : goS s n p r (93 + 9 * j + k) = r (93 + 9 * j + k) := by
  unfold goS
  split
  · exact noteR_hi hp (by omega)
  · rw [payR_at hk h]; exact noteR_hi hp (by omega)
theorem itS_at {s : LK} {n j k : Nat} {r : Rw} (hk : k < 9) (h : ∀ f p pl, gSt f p pl k = f k) : ∀ {i : Nat}, i ≤ 8 → it (goS s n) r i (93 + 9 * j + k) = r (93 + 9 * j + k)
  | 0, _ => rfl
  | i + 1, hi => (goS_at (by omega) hk h).trans (itS_at hk h (by omega))
theorem goR_at {r : Rw} {H P G n j k : Nat} (hP : P ≤ 8) (hk : k < 9) (h : ∀ f p pl, gSt f p pl k = f k) : goR r H P G n (93 + 9 * j + k) = r (93 + 9 * j + k) := by
  unfold goR
  rw [if_neg (by omega), if_neg (by omega), if_neg (by omega), if_neg (by omega), if_neg (by omega)]
  exact itS_at hk h hP
theorem goR_own {r : Rw} {H P G n j : Nat} (hP : P ≤ 8) : goR r H P G n (95 + 9 * j) = r (95 + 9 * j) := by
  have := goR_at (r := r) (H := H) (G := G) (n := n) (j := j) hP (k := 2) (by omega) (fun f p pl => gSt2)
  rw [show 93 + 9 * j + 2 = 95 + 9 * j by omega] at this
  exact this
theorem own_goR {r : Rw} {H P G n : Nat} (hP : P ≤ 8) (hO : ownOK r P G) : ownOK (goR r H P G n) P G := by
  intro g hg
  rw [goR_own hP]
  exact hO g hg
theorem uniq_goR {r : Rw} {H P G n : Nat} (hP : P ≤ 8) (hu : uniq r G) : uniq (goR r H P G n) G := by
  intro g k hg hk
  rw [goR_own hP, goR_own hP]
  exact hu g k hg hk
theorem step_goR {r : Rw} {H P G n : Nat} (hP : P ≤ 8) (hs : stepOK r G) : stepOK (goR r H P G n) G := by
  intro g hg
  have e : goR r H P G n (96 + 9 * g) = it (goS (goL r H P G n) n) r P (96 + 9 * g) := by
    unfold goR
    rw [if_neg (by omega), if_neg (by omega), if_neg (by omega), if_neg (by omega), if_neg (by omega)]
  rw [e]
  exact step_it hs hP g hg
theorem goN_ok {r : Rw} {H P G n : Nat} (hP : P ≤ 8) (hO : ownOK r P G) (hs : stepOK r G) : ∀ k, ownOK (goN r H P G n k) P G ∧ stepOK (goN r H P G n k) G
  | 0 => ⟨hO, hs⟩
  | k + 1 => ⟨own_goR hP (goN_ok hP hO hs k).1, step_goR hP (goN_ok hP hO hs k).2⟩
section
variable {L : Nat} {xs : Nat → Int32} {h h2 : AH} {a b H P G n : Nat} {r : Rw}
theorem s_takeDays {d : Nat} (hy : LayF h) (hl : LaySt h a) (R : Rl h a r H P G n) (hd : a + 23 ≤ 48 ∨ 51 ≤ a) (hO : ownOK r P G) (hs : stepOK r G) (hd1 : 1 ≤ d) (hn9 : 2 * (n / 2 + d) < 20000) : Ev (ev L xs mdX5_takeDays 0 [.ref a, .int (nI d), .ref 48, .null, .null, .null] [] h) (fun z => ∃ h', z = .inl (some (.int (nI (goSum r H P G n (2 * (n / 2 + d) - n)))), h') ∧ Fr (inTk a) h h' ∧ Rl h' a (goN r H P G n (2 * (n / 2 + d) - n)) H P G (2 * (n / 2 + d))) := by
  have hP8 := R.P8
  have e2 : nI (2 * (n / 2 + d)) - nI n = nI (2 * (n / 2 + d) - n) := nI_sub (by omega)
  simp (disch := first | with_reducible assumption | exact cat_int | exact cat_ref | exact cat_null | exact cat_ra | exact Nat.le_of_ble_eq_true rfl | (simp (disch := omega) only [hK_sI, hR_sI, hN_sI, hA_sI, hQ_sI, hL_sI, hn_sI, hK_sR, hI_sR, hN_sR, hA_sR, hQ_sR, hL_sR, hn_sR, hK_sA, hI_sA, hR_sA, hN_sA, hQ_sA, hL_sA, hn_sA, hK_sQ, hI_sQ, hR_sQ, hN_sQ, hA_sQ, hL_sQ, hn_sQ, hK_sL, hI_sL, hR_sL, hN_sL, hA_sL, hQ_sL, hn_sL, hK_cpA, hI_cpA, hR_cpA, hN_cpA, hQ_cpA, hL_cpA, hn_cpA, hK_bump, hI_bump, hR_bump, hN_bump, hA_bump, hQ_bump, hL_bump, hn_bump, hI_sI, hR_sR, hA_sA, hQ_sQ, hL_sL, hA_cpA, isS, cat_int, cat_ref, cat_null, cat_ra, wds_nil, wds_int, wds_ref, wds_long, wds_ra, nz5, nz7, nz2, idxN, inAN, if_true, if_false, b00, b11, b01, eq_self, true_or, or_true, false_or, or_false, true_and, and_true, false_and, and_false, not_true, not_false_eq_true, LS_k hl, LS_r0 hl, LS_r1 hl, LS_r3 hl, LS_r5 hl, LS_k1 hl, LS_n1 hl, LS_k2 hl, LS_n2 hl, LS_k3 hl, LS_n3 hl, LS_k4 hl, LS_n4 hl, s_nextDay hl R, R.hn, e2]; done) | omega) only [iX5_takeDays_0, iX5_takeDays_1, iX5_takeDays_2, iX5_takeDays_3, iX5_takeDays_4, iX5_takeDays_7, iX5_takeDays_8, iX5_takeDays_9, iX5_takeDays_10, iX5_takeDays_11, iX5_takeDays_14, iX5_takeDays_15, iX5_takeDays_17, iX5_takeDays_18, ↓reduceIte, ofN, reduceCtorEq, Bool.false_eq_true, Nat.reduceAdd, Nat.reduceMul, Nat.reduceEqDiff, Nat.reduceLeDiff, Nat.reduceLT, le_nlt, ite_not, Nat.lt_irrefl, Decidable.not_not, kn1, kn0, knite, isS, getS, cat_int, cat_ref, cat_null, cat_ra, wds_nil, wds_int, wds_ref, wds_long, wds_ra, b0, b01, b00, b11, b10, if_true, if_false, ite_self, not_true, not_false_eq_true, true_or, or_true, false_or, or_false, true_and, and_true, false_and, and_false, eq_self, idxN, inAN, nI_add, nI_mul, nI_sub, nz5, nz7, nz2, nI_ltN, Nat.add_zero, Nat.zero_add, hK_sI, hR_sI, hN_sI, hA_sI, hQ_sI, hL_sI, hn_sI, hK_sR, hI_sR, hN_sR, hA_sR, hQ_sR, hL_sR, hn_sR, hK_sA, hI_sA, hR_sA, hN_sA, hQ_sA, hL_sA, hn_sA, hK_sQ, hI_sQ, hR_sQ, hN_sQ, hA_sQ, hL_sQ, hn_sQ, hK_sL, hI_sL, hR_sL, hN_sL, hA_sL, hQ_sL, hn_sL, hK_cpA, hI_cpA, hR_cpA, hN_cpA, hQ_cpA, hL_cpA, hn_cpA, hK_bump, hI_bump, hR_bump, hN_bump, hA_bump, hQ_bump, hL_bump, hn_bump, hI_sI, hR_sR, hA_sA, hQ_sQ, hL_sL, hA_cpA, LS_k hl, LS_r0 hl, LS_r1 hl, LS_r3 hl, LS_r5 hl, LS_k1 hl, LS_n1 hl, LS_k2 hl, LS_n2 hl, LS_k3 hl, LS_n3 hl, LS_k4 hl, LS_n4 hl, s_nextDay hl R, R.hn, e2]
  refine Ev_loop (n := 2 * (n / 2 + d) - n) (fun i Ls h' => Ls = [.ref a, .int (nI d), .ref 48, .int (nI (goSum r H P G n i)), .int (nI (2 * (n / 2 + d) - n)), .int (nI i)] ∧ Fr (inTk a) h h' ∧ Rl h' a (goN r H P G n i) H P G (n + i)) ?_ ?_ (Nat.zero_le _) ⟨rfl, Fr.rfl, R⟩
  · rintro i Ls h' hi ⟨rfl, f, R'⟩ k
    have hy' := f.y hy
    have hl' := f.st hl
    rw [iX5_takeDays_20]
    simp (disch := first | with_reducible assumption | exact cat_int | exact cat_ref | exact cat_null | exact cat_ra | exact Nat.le_of_ble_eq_true rfl | (simp (disch := omega) only [hK_sI, hR_sI, hN_sI, hA_sI, hQ_sI, hL_sI, hn_sI, hK_sR, hI_sR, hN_sR, hA_sR, hQ_sR, hL_sR, hn_sR, hK_sA, hI_sA, hR_sA, hN_sA, hQ_sA, hL_sA, hn_sA, hK_sQ, hI_sQ, hR_sQ, hN_sQ, hA_sQ, hL_sQ, hn_sQ, hK_sL, hI_sL, hR_sL, hN_sL, hA_sL, hQ_sL, hn_sL, hK_cpA, hI_cpA, hR_cpA, hN_cpA, hQ_cpA, hL_cpA, hn_cpA, hK_bump, hI_bump, hR_bump, hN_bump, hA_bump, hQ_bump, hL_bump, hn_bump, hI_sI, hR_sR, hA_sA, hQ_sQ, hL_sL, hA_cpA, isS, cat_int, cat_ref, cat_null, cat_ra, wds_nil, wds_int, wds_ref, wds_long, wds_ra, nz5, nz7, nz2, idxN, inAN, if_true, if_false, b00, b11, b01, eq_self, true_or, or_true, false_or, or_false, true_and, and_true, false_and, and_false, not_true, not_false_eq_true, LS_k hl', LS_r0 hl', LS_r1 hl', LS_r3 hl', LS_r5 hl', LS_k1 hl', LS_n1 hl', LS_k2 hl', LS_n2 hl', LS_k3 hl', LS_n3 hl', LS_k4 hl', LS_n4 hl', hi]; done) | omega) only [iX5_takeDays_22, iX5_takeDays_24, iX5_takeDays_27, iX5_takeDays_28, iX5_takeDays_29, iX5_takeDays_30, ↓reduceIte, ofN, reduceCtorEq, Bool.false_eq_true, Nat.reduceAdd, Nat.reduceMul, Nat.reduceEqDiff, Nat.reduceLeDiff, Nat.reduceLT, le_nlt, ite_not, Nat.lt_irrefl, Decidable.not_not, kn1, kn0, knite, isS, getS, cat_int, cat_ref, cat_null, cat_ra, wds_nil, wds_int, wds_ref, wds_long, wds_ra, b0, b01, b00, b11, b10, if_true, if_false, ite_self, not_true, not_false_eq_true, true_or, or_true, false_or, or_false, true_and, and_true, false_and, and_false, eq_self, idxN, inAN, nI_add, nI_mul, nI_sub, nz5, nz7, nz2, nI_ltN, Nat.add_zero, Nat.zero_add, hK_sI, hR_sI, hN_sI, hA_sI, hQ_sI, hL_sI, hn_sI, hK_sR, hI_sR, hN_sR, hA_sR, hQ_sR, hL_sR, hn_sR, hK_sA, hI_sA, hR_sA, hN_sA, hQ_sA, hL_sA, hn_sA, hK_sQ, hI_sQ, hR_sQ, hN_sQ, hA_sQ, hL_sQ, hn_sQ, hK_sL, hI_sL, hR_sL, hN_sL, hA_sL, hQ_sL, hn_sL, hK_cpA, hI_cpA, hR_cpA, hN_cpA, hQ_cpA, hL_cpA, hn_cpA, hK_bump, hI_bump, hR_bump, hN_bump, hA_bump, hQ_bump, hL_bump, hn_bump, hI_sI, hR_sR, hA_sA, hQ_sQ, hL_sL, hA_cpA, LS_k hl', LS_r0 hl', LS_r1 hl', LS_r3 hl', LS_r5 hl', LS_k1 hl', LS_n1 hl', LS_k2 hl', LS_n2 hl', LS_k3 hl', LS_n3 hl', LS_k4 hl', LS_n4 hl', hi]
    refine Ev_call (s_takeNext hy' hl' R' hd (goN_ok hP8 hO hs i).1 (goN_ok hP8 hO hs i).2 (by omega)) ?_
    rintro _ ⟨h1, rfl, f1, R1⟩
    have cnt := fun (h9 : AH) => s_count (L := L) (xs := xs) (h := h9) (s := (goL (goN r H P G n i) H P G (n + i)).2.2.2) (by have := (who_look (r := goN r H P G n i) (W := wl (goN r H P G n i) (nI ((n + i) / 2))) (nd := nee (goN r H P G n i) H (nI ((n + i) / 2)) (nI ((n + i) % 2))) (G := G) (n := n + i) hP8).2.2; exact Nat.lt_of_lt_of_le this (by omega))
    simp (disch := first | with_reducible assumption | exact cat_int | exact cat_ref | exact cat_null | exact cat_ra | exact Nat.le_of_ble_eq_true rfl | (simp (disch := omega) only [hK_sI, hR_sI, hN_sI, hA_sI, hQ_sI, hL_sI, hn_sI, hK_sR, hI_sR, hN_sR, hA_sR, hQ_sR, hL_sR, hn_sR, hK_sA, hI_sA, hR_sA, hN_sA, hQ_sA, hL_sA, hn_sA, hK_sQ, hI_sQ, hR_sQ, hN_sQ, hA_sQ, hL_sQ, hn_sQ, hK_sL, hI_sL, hR_sL, hN_sL, hA_sL, hQ_sL, hn_sL, hK_cpA, hI_cpA, hR_cpA, hN_cpA, hQ_cpA, hL_cpA, hn_cpA, hK_bump, hI_bump, hR_bump, hN_bump, hA_bump, hQ_bump, hL_bump, hn_bump, hI_sI, hR_sR, hA_sA, hQ_sQ, hL_sL, hA_cpA, isS, cat_int, cat_ref, cat_null, cat_ra, wds_nil, wds_int, wds_ref, wds_long, wds_ra, nz5, nz7, nz2, idxN, inAN, if_true, if_false, b00, b11, b01, eq_self, true_or, or_true, false_or, or_false, true_and, and_true, false_and, and_false, not_true, not_false_eq_true, cnt]; done) | omega) only [iX5_takeDays_33, iX5_takeDays_36, iX5_takeDays_37, iX5_takeDays_38, iX5_takeDays_41, ↓reduceIte, ofN, reduceCtorEq, Bool.false_eq_true, Nat.reduceAdd, Nat.reduceMul, Nat.reduceEqDiff, Nat.reduceLeDiff, Nat.reduceLT, le_nlt, ite_not, Nat.lt_irrefl, Decidable.not_not, kn1, kn0, knite, isS, getS, cat_int, cat_ref, cat_null, cat_ra, wds_nil, wds_int, wds_ref, wds_long, wds_ra, b0, b01, b00, b11, b10, if_true, if_false, ite_self, not_true, not_false_eq_true, true_or, or_true, false_or, or_false, true_and, and_true, false_and, and_false, eq_self, idxN, inAN, nI_add, nI_mul, nI_sub, nz5, nz7, nz2, nI_ltN, Nat.add_zero, Nat.zero_add, hK_sI, hR_sI, hN_sI, hA_sI, hQ_sI, hL_sI, hn_sI, hK_sR, hI_sR, hN_sR, hA_sR, hQ_sR, hL_sR, hn_sR, hK_sA, hI_sA, hR_sA, hN_sA, hQ_sA, hL_sA, hn_sA, hK_sQ, hI_sQ, hR_sQ, hN_sQ, hA_sQ, hL_sQ, hn_sQ, hK_sL, hI_sL, hR_sL, hN_sL, hA_sL, hQ_sL, hn_sL, hK_cpA, hI_cpA, hR_cpA, hN_cpA, hQ_cpA, hL_cpA, hn_cpA, hK_bump, hI_bump, hR_bump, hN_bump, hA_bump, hQ_bump, hL_bump, hn_bump, hI_sI, hR_sR, hA_sA, hQ_sQ, hL_sL, hA_cpA, cnt]
    exact k _ _ ⟨rfl, f.tr f1, R1⟩
  · rintro Ls h' ⟨rfl, f, R'⟩
    rw [iX5_takeDays_20]
    simp (disch := first | with_reducible assumption | exact cat_int | exact cat_ref | exact cat_null | exact cat_ra | exact Nat.le_of_ble_eq_true rfl | (simp (disch := omega) only [hK_sI, hR_sI, hN_sI, hA_sI, hQ_sI, hL_sI, hn_sI, hK_sR, hI_sR, hN_sR, hA_sR, hQ_sR, hL_sR, hn_sR, hK_sA, hI_sA, hR_sA, hN_sA, hQ_sA, hL_sA, hn_sA, hK_sQ, hI_sQ, hR_sQ, hN_sQ, hA_sQ, hL_sQ, hn_sQ, hK_sL, hI_sL, hR_sL, hN_sL, hA_sL, hQ_sL, hn_sL, hK_cpA, hI_cpA, hR_cpA, hN_cpA, hQ_cpA, hL_cpA, hn_cpA, hK_bump, hI_bump, hR_bump, hN_bump, hA_bump, hQ_bump, hL_bump, hn_bump, hI_sI, hR_sR, hA_sA, hQ_sQ, hL_sL, hA_cpA, isS, cat_int, cat_ref, cat_null, cat_ra, wds_nil, wds_int, wds_ref, wds_long, wds_ra, nz5, nz7, nz2, idxN, inAN, if_true, if_false, b00, b11, b01, eq_self, true_or, or_true, false_or, or_false, true_and, and_true, false_and, and_false, not_true, not_false_eq_true, Ev_some]; done) | omega) only [iX5_takeDays_22, iX5_takeDays_24, iX5_takeDays_27, iX5_takeDays_28, iX5_takeDays_29, iX5_takeDays_30, iX5_takeDays_33, iX5_takeDays_36, iX5_takeDays_37, iX5_takeDays_38, iX5_takeDays_41, iX5_takeDays_44, iX5_takeDays_45, ↓reduceIte, ofN, reduceCtorEq, Bool.false_eq_true, Nat.reduceAdd, Nat.reduceMul, Nat.reduceEqDiff, Nat.reduceLeDiff, Nat.reduceLT, le_nlt, ite_not, Nat.lt_irrefl, Decidable.not_not, kn1, kn0, knite, isS, getS, cat_int, cat_ref, cat_null, cat_ra, wds_nil, wds_int, wds_ref, wds_long, wds_ra, b0, b01, b00, b11, b10, if_true, if_false, ite_self, not_true, not_false_eq_true, true_or, or_true, false_or, or_false, true_and, and_true, false_and, and_false, eq_self, idxN, inAN, nI_add, nI_mul, nI_sub, nz5, nz7, nz2, nI_ltN, Nat.add_zero, Nat.zero_add, hK_sI, hR_sI, hN_sI, hA_sI, hQ_sI, hL_sI, hn_sI, hK_sR, hI_sR, hN_sR, hA_sR, hQ_sR, hL_sR, hn_sR, hK_sA, hI_sA, hR_sA, hN_sA, hQ_sA, hL_sA, hn_sA, hK_sQ, hI_sQ, hR_sQ, hN_sQ, hA_sQ, hL_sQ, hn_sQ, hK_sL, hI_sL, hR_sL, hN_sL, hA_sL, hQ_sL, hn_sL, hK_cpA, hI_cpA, hR_cpA, hN_cpA, hQ_cpA, hL_cpA, hn_cpA, hK_bump, hI_bump, hR_bump, hN_bump, hA_bump, hQ_bump, hL_bump, hn_bump, hI_sI, hR_sR, hA_sA, hQ_sQ, hL_sL, hA_cpA, Ev_some]
    exact ⟨h', rfl, f, by rw [show n + (2 * (n / 2 + d) - n) = 2 * (n / 2 + d) by omega] at R'; exact R'⟩
/-- one post's part of the row changes -/
theorem Rl_post {p : Nat} {r' : Rw} (R : Rl h a r H P G n) (hp : p < P) (f : Fr (fun i => i = a + 5 + p) h h2) (hr : ∀ k, ¬ (21 + 9 * p ≤ k ∧ k < 30 + 9 * p) → (9 ≤ k ∨ k = 5 ∨ k = 6) → r' k = r k) (e : ∀ k, k < 9 → hI h2 (32 + k) (a + 5 + p) = r' (21 + 9 * p + sw k)) : Rl h2 a r' H P G n := by
  have hP8 := R.P8
  have hH6 := R.H6
  obtain ⟨a1, a2, a3, a4, a5, a6, a7, a8, a9, a10, a11, a12, a13⟩ := R
  refine ⟨a1, a2, a3, a4, ?_, ?_, ?_, ?_, ?_, ?_, fun i hi => ?_, fun q hq k hk => ?_, fun j hj k hk => ?_⟩
  · rw [f.fi (by omega)]; exact a5
  · rw [f.fi (by omega)]; exact a6
  · rw [f.fi (by omega)]; exact a7
  · rw [f.fi (by omega)]; exact a8
  · rw [f.fi (by omega), hr _ (by omega) (by omega)]; exact a9
  · rw [f.fi (by omega), hr _ (by omega) (by omega)]; exact a10
  · rw [f.ar (by omega), f.ar (by omega), hr _ (by omega) (by omega), hr _ (by omega) (by omega)]; exact a11 i hi
  · have hs : sw k < 9 := by unfold sw; split <;> (try split) <;> omega
    by_cases c : q = p
    · subst c; exact e k hk
    · rw [f.fi (by omega), hr _ (by omega) (by omega)]; exact a12 q hq k hk
  · rw [f.fi (by omega), hr _ (by omega) (by omega)]; exact a13 j hj k hk
theorem Rl_guard {g : Nat} {r' : Rw} (R : Rl h a r H P G n) (hg : g < G) (f : Fr (fun i => i = a + 13 + g) h h2) (hr : ∀ k, ¬ (93 + 9 * g ≤ k ∧ k < 102 + 9 * g) → (9 ≤ k ∨ k = 5 ∨ k = 6) → r' k = r k) (e : ∀ k, k < 9 → hI h2 k (a + 13 + g) = r' (93 + 9 * g + k)) : Rl h2 a r' H P G n := by
  have hP8 := R.P8
  have hH6 := R.H6
  obtain ⟨a1, a2, a3, a4, a5, a6, a7, a8, a9, a10, a11, a12, a13⟩ := R
  refine ⟨a1, a2, a3, a4, ?_, ?_, ?_, ?_, ?_, ?_, fun i hi => ?_, fun q hq k hk => ?_, fun j hj k hk => ?_⟩
  · rw [f.fi (by omega)]; exact a5
  · rw [f.fi (by omega)]; exact a6
  · rw [f.fi (by omega)]; exact a7
  · rw [f.fi (by omega)]; exact a8
  · rw [f.fi (by omega), hr _ (by omega) (by omega)]; exact a9
  · rw [f.fi (by omega), hr _ (by omega) (by omega)]; exact a10
  · rw [f.ar (by omega), f.ar (by omega), hr _ (by omega) (by omega), hr _ (by omega) (by omega)]; exact a11 i hi
  · have hs : sw k < 9 := by unfold sw; split <;> (try split) <;> omega
    rw [f.fi (by omega), hr _ (by omega) (by omega)]; exact a12 q hq k hk
  · by_cases c : j = g
    · subst c; exact e k hk
    · rw [f.fi (by omega), hr _ (by omega) (by omega)]; exact a13 j hj k hk
def inSt (a i : Nat) : Prop := a ≤ i ∧ i < a + 23
def complR (r : Rw) (p n : Nat) : Rw := fun k => if k = 8 then r 8 + nI 1 else if k = 24 + 9 * p then r (24 + 9 * p) + nI 1 else if k = 27 + 9 * p then nI n else if k = 26 + 9 * p then nI (n + 20) else r k
theorem s_fileC {p : Nat} (hl : LaySt h a) (R : Rl h a r H P G n) (hp : p < P) : Ev (ev L xs mdX5_fileComplaint 0 [.ref a, .int (nI p)] [] h) (fun z => ∃ h', z = .inl (some (.int (r (24 + 9 * p) + nI 1)), h') ∧ Fr (inSt a) h h' ∧ Rl h' a (complR r p n) H P G n) := by
  have hP8 := R.P8
  have hp8 : p < 8 := by omega
  simp (disch := first | with_reducible assumption | exact cat_int | exact cat_ref | exact cat_null | exact cat_ra | exact Nat.le_of_ble_eq_true rfl | (simp (disch := omega) only [hK_sI, hR_sI, hN_sI, hA_sI, hQ_sI, hL_sI, hn_sI, hK_sR, hI_sR, hN_sR, hA_sR, hQ_sR, hL_sR, hn_sR, hK_sA, hI_sA, hR_sA, hN_sA, hQ_sA, hL_sA, hn_sA, hK_sQ, hI_sQ, hR_sQ, hN_sQ, hA_sQ, hL_sQ, hn_sQ, hK_sL, hI_sL, hR_sL, hN_sL, hA_sL, hQ_sL, hn_sL, hK_cpA, hI_cpA, hR_cpA, hN_cpA, hQ_cpA, hL_cpA, hn_cpA, hK_bump, hI_bump, hR_bump, hN_bump, hA_bump, hQ_bump, hL_bump, hn_bump, hI_sI, hR_sR, hA_sA, hQ_sQ, hL_sL, hA_cpA, isS, cat_int, cat_ref, cat_null, cat_ra, wds_nil, wds_int, wds_ref, wds_long, wds_ra, nz5, nz7, nz2, idxN, inAN, if_true, if_false, b00, b11, b01, eq_self, true_or, or_true, false_or, or_false, true_and, and_true, false_and, and_false, not_true, not_false_eq_true, LS_k hl, LS_r0 hl, LS_r1 hl, LS_r3 hl, LS_r5 hl, LS_k1 hl, LS_n1 hl, LS_k2 hl, LS_n2 hl, LS_k3 hl, LS_n3 hl, LS_k4 hl, LS_n4 hl, LS_po hl hp8, LS_pq hl hp8, R.hn]; done) | omega) only [iX5_fileComplaint_0, iX5_fileComplaint_1, iX5_fileComplaint_4, iX5_fileComplaint_5, iX5_fileComplaint_6, iX5_fileComplaint_7, iX5_fileComplaint_10, ↓reduceIte, ofN, reduceCtorEq, Bool.false_eq_true, Nat.reduceAdd, Nat.reduceMul, Nat.reduceEqDiff, Nat.reduceLeDiff, Nat.reduceLT, le_nlt, ite_not, Nat.lt_irrefl, Decidable.not_not, kn1, kn0, knite, isS, getS, cat_int, cat_ref, cat_null, cat_ra, wds_nil, wds_int, wds_ref, wds_long, wds_ra, b0, b01, b00, b11, b10, if_true, if_false, ite_self, not_true, not_false_eq_true, true_or, or_true, false_or, or_false, true_and, and_true, false_and, and_false, eq_self, idxN, inAN, nI_add, nI_mul, nI_sub, nz5, nz7, nz2, nI_ltN, Nat.add_zero, Nat.zero_add, hK_sI, hR_sI, hN_sI, hA_sI, hQ_sI, hL_sI, hn_sI, hK_sR, hI_sR, hN_sR, hA_sR, hQ_sR, hL_sR, hn_sR, hK_sA, hI_sA, hR_sA, hN_sA, hQ_sA, hL_sA, hn_sA, hK_sQ, hI_sQ, hR_sQ, hN_sQ, hA_sQ, hL_sQ, hn_sQ, hK_sL, hI_sL, hR_sL, hN_sL, hA_sL, hQ_sL, hn_sL, hK_cpA, hI_cpA, hR_cpA, hN_cpA, hQ_cpA, hL_cpA, hn_cpA, hK_bump, hI_bump, hR_bump, hN_bump, hA_bump, hQ_bump, hL_bump, hn_bump, hI_sI, hR_sR, hA_sA, hQ_sQ, hL_sL, hA_cpA, LS_k hl, LS_r0 hl, LS_r1 hl, LS_r3 hl, LS_r5 hl, LS_k1 hl, LS_n1 hl, LS_k2 hl, LS_n2 hl, LS_k3 hl, LS_n3 hl, LS_k4 hl, LS_n4 hl, LS_po hl hp8, LS_pq hl hp8, R.hn]
  refine Ev_call (s_pfile (LS_po hl hp8)) ?_
  rintro _ ⟨h1, rfl, f1, e1⟩
  have f1' : Fr (inSt a) h h1 := f1.mono (fun j hj => ⟨by omega, by omega⟩)
  have hl1 := f1.st hl
  have e3 := e1 3 (by omega)
  simp only [Nat.reduceAdd, if_true] at e3
  rw [R.p3 hp] at e3
  simp (disch := first | with_reducible assumption | exact cat_int | exact cat_ref | exact cat_null | exact cat_ra | exact Nat.le_of_ble_eq_true rfl | (simp (disch := omega) only [hK_sI, hR_sI, hN_sI, hA_sI, hQ_sI, hL_sI, hn_sI, hK_sR, hI_sR, hN_sR, hA_sR, hQ_sR, hL_sR, hn_sR, hK_sA, hI_sA, hR_sA, hN_sA, hQ_sA, hL_sA, hn_sA, hK_sQ, hI_sQ, hR_sQ, hN_sQ, hA_sQ, hL_sQ, hn_sQ, hK_sL, hI_sL, hR_sL, hN_sL, hA_sL, hQ_sL, hn_sL, hK_cpA, hI_cpA, hR_cpA, hN_cpA, hQ_cpA, hL_cpA, hn_cpA, hK_bump, hI_bump, hR_bump, hN_bump, hA_bump, hQ_bump, hL_bump, hn_bump, hI_sI, hR_sR, hA_sA, hQ_sQ, hL_sL, hA_cpA, isS, cat_int, cat_ref, cat_null, cat_ra, wds_nil, wds_int, wds_ref, wds_long, wds_ra, nz5, nz7, nz2, idxN, inAN, if_true, if_false, b00, b11, b01, eq_self, true_or, or_true, false_or, or_false, true_and, and_true, false_and, and_false, not_true, not_false_eq_true, LS_k hl1, LS_r0 hl1, LS_r1 hl1, LS_r3 hl1, LS_r5 hl1, LS_k1 hl1, LS_n1 hl1, LS_k2 hl1, LS_n2 hl1, LS_k3 hl1, LS_n3 hl1, LS_k4 hl1, LS_n4 hl1, LS_po hl1 hp8, LS_pq hl1 hp8, e3, Ev_some]; done) | omega) only [iX5_fileComplaint_13, iX5_fileComplaint_14, iX5_fileComplaint_17, iX5_fileComplaint_18, iX5_fileComplaint_19, iX5_fileComplaint_22, ↓reduceIte, ofN, reduceCtorEq, Bool.false_eq_true, Nat.reduceAdd, Nat.reduceMul, Nat.reduceEqDiff, Nat.reduceLeDiff, Nat.reduceLT, le_nlt, ite_not, Nat.lt_irrefl, Decidable.not_not, kn1, kn0, knite, isS, getS, cat_int, cat_ref, cat_null, cat_ra, wds_nil, wds_int, wds_ref, wds_long, wds_ra, b0, b01, b00, b11, b10, if_true, if_false, ite_self, not_true, not_false_eq_true, true_or, or_true, false_or, or_false, true_and, and_true, false_and, and_false, eq_self, idxN, inAN, nI_add, nI_mul, nI_sub, nz5, nz7, nz2, nI_ltN, Nat.add_zero, Nat.zero_add, hK_sI, hR_sI, hN_sI, hA_sI, hQ_sI, hL_sI, hn_sI, hK_sR, hI_sR, hN_sR, hA_sR, hQ_sR, hL_sR, hn_sR, hK_sA, hI_sA, hR_sA, hN_sA, hQ_sA, hL_sA, hn_sA, hK_sQ, hI_sQ, hR_sQ, hN_sQ, hA_sQ, hL_sQ, hn_sQ, hK_sL, hI_sL, hR_sL, hN_sL, hA_sL, hQ_sL, hn_sL, hK_cpA, hI_cpA, hR_cpA, hN_cpA, hQ_cpA, hL_cpA, hn_cpA, hK_bump, hI_bump, hR_bump, hN_bump, hA_bump, hQ_bump, hL_bump, hn_bump, hI_sI, hR_sR, hA_sA, hQ_sQ, hL_sL, hA_cpA, LS_k hl1, LS_r0 hl1, LS_r1 hl1, LS_r3 hl1, LS_r5 hl1, LS_k1 hl1, LS_n1 hl1, LS_k2 hl1, LS_n2 hl1, LS_k3 hl1, LS_n3 hl1, LS_k4 hl1, LS_n4 hl1, LS_po hl1 hp8, LS_pq hl1 hp8, e3, Ev_some]
  refine ⟨h1, rfl, f1', Rl_post R hp f1 (fun k hk hk2 => ?_) (fun k hk => ?_)⟩
  · unfold complR
    rw [if_neg (by omega), if_neg (by omega), if_neg (by omega), if_neg (by omega)]
  · rw [e1 k hk]
    have q := fun k hk => R.po hp (f := k) hk
    have q3 := R.p3 hp
    revert k
    refine lt9 ?_ ?_ ?_ ?_ ?_ ?_ ?_ ?_ ?_ <;> simp only [complR, sw, Nat.reduceEqDiff, if_false, if_true]
    · rw [if_neg (by omega), if_neg (by omega), if_neg (by omega), if_neg (by omega)]; exact q 0 (by omega)
    · rw [if_neg (by omega), if_neg (by omega), if_neg (by omega), if_neg (by omega)]; exact q 1 (by omega)
    · rw [if_neg (by omega), if_neg (by omega), if_neg (by omega), if_neg (by omega)]; exact q 2 (by omega)
    · rw [if_neg (by omega), if_pos (by omega), q3]
    · rw [if_neg (by omega), if_neg (by omega), if_neg (by omega), if_neg (by omega)]; exact q 4 (by omega)
    · rw [if_neg (by omega), if_neg (by omega), if_pos (by omega)]
    · rw [if_neg (by omega), if_neg (by omega), if_neg (by omega), if_pos (by omega), nI_add]
    · rw [if_neg (by omega), if_neg (by omega), if_neg (by omega), if_neg (by omega)]; exact q 7 (by omega)
    · rw [if_neg (by omega), if_neg (by omega), if_neg (by omega), if_neg (by omega)]; exact q 8 (by omega)
theorem s_report {g : Nat} {d : Int32} (hl : LaySt h a) (R : Rl h a r H P G n) (hg : g < G) : Ev (ev L xs mdX5_reportSick 0 [.ref a, .int (nI g), .int d] [] h) (fun z => ∃ h', z = .inl (some (.int (nI (n / 2) + d)), h') ∧ Fr (inSt a) h h' ∧ Rl h' a (pu r (99 + 9 * g) (nI (n / 2) + d)) H P G n) := by
  have hG10 := R.G10
  have hg8 : g < 10 := by omega
  simp (disch := first | with_reducible assumption | exact cat_int | exact cat_ref | exact cat_null | exact cat_ra | exact Nat.le_of_ble_eq_true rfl | (simp (disch := omega) only [hK_sI, hR_sI, hN_sI, hA_sI, hQ_sI, hL_sI, hn_sI, hK_sR, hI_sR, hN_sR, hA_sR, hQ_sR, hL_sR, hn_sR, hK_sA, hI_sA, hR_sA, hN_sA, hQ_sA, hL_sA, hn_sA, hK_sQ, hI_sQ, hR_sQ, hN_sQ, hA_sQ, hL_sQ, hn_sQ, hK_sL, hI_sL, hR_sL, hN_sL, hA_sL, hQ_sL, hn_sL, hK_cpA, hI_cpA, hR_cpA, hN_cpA, hQ_cpA, hL_cpA, hn_cpA, hK_bump, hI_bump, hR_bump, hN_bump, hA_bump, hQ_bump, hL_bump, hn_bump, hI_sI, hR_sR, hA_sA, hQ_sQ, hL_sL, hA_cpA, isS, cat_int, cat_ref, cat_null, cat_ra, wds_nil, wds_int, wds_ref, wds_long, wds_ra, nz5, nz7, nz2, idxN, inAN, if_true, if_false, b00, b11, b01, eq_self, true_or, or_true, false_or, or_false, true_and, and_true, false_and, and_false, not_true, not_false_eq_true, LS_k hl, LS_r0 hl, LS_r1 hl, LS_r3 hl, LS_r5 hl, LS_k1 hl, LS_n1 hl, LS_k2 hl, LS_n2 hl, LS_k3 hl, LS_n3 hl, LS_k4 hl, LS_n4 hl, LS_go hl hg8, LS_gq hl hg8, s_nextDay hl R, Ev_some]; done) | omega) only [iX5_reportSick_0, iX5_reportSick_1, iX5_reportSick_4, iX5_reportSick_5, iX5_reportSick_6, iX5_reportSick_7, iX5_reportSick_10, iX5_reportSick_11, iX5_reportSick_12, iX5_reportSick_15, iX5_reportSick_16, iX5_reportSick_19, iX5_reportSick_20, iX5_reportSick_21, iX5_reportSick_24, ↓reduceIte, ofN, reduceCtorEq, Bool.false_eq_true, Nat.reduceAdd, Nat.reduceMul, Nat.reduceEqDiff, Nat.reduceLeDiff, Nat.reduceLT, le_nlt, ite_not, Nat.lt_irrefl, Decidable.not_not, kn1, kn0, knite, isS, getS, cat_int, cat_ref, cat_null, cat_ra, wds_nil, wds_int, wds_ref, wds_long, wds_ra, b0, b01, b00, b11, b10, if_true, if_false, ite_self, not_true, not_false_eq_true, true_or, or_true, false_or, or_false, true_and, and_true, false_and, and_false, eq_self, idxN, inAN, nI_add, nI_mul, nI_sub, nz5, nz7, nz2, nI_ltN, Nat.add_zero, Nat.zero_add, hK_sI, hR_sI, hN_sI, hA_sI, hQ_sI, hL_sI, hn_sI, hK_sR, hI_sR, hN_sR, hA_sR, hQ_sR, hL_sR, hn_sR, hK_sA, hI_sA, hR_sA, hN_sA, hQ_sA, hL_sA, hn_sA, hK_sQ, hI_sQ, hR_sQ, hN_sQ, hA_sQ, hL_sQ, hn_sQ, hK_sL, hI_sL, hR_sL, hN_sL, hA_sL, hQ_sL, hn_sL, hK_cpA, hI_cpA, hR_cpA, hN_cpA, hQ_cpA, hL_cpA, hn_cpA, hK_bump, hI_bump, hR_bump, hN_bump, hA_bump, hQ_bump, hL_bump, hn_bump, hI_sI, hR_sR, hA_sA, hQ_sQ, hL_sL, hA_cpA, LS_k hl, LS_r0 hl, LS_r1 hl, LS_r3 hl, LS_r5 hl, LS_k1 hl, LS_n1 hl, LS_k2 hl, LS_n2 hl, LS_k3 hl, LS_n3 hl, LS_k4 hl, LS_n4 hl, LS_go hl hg8, LS_gq hl hg8, s_nextDay hl R, Ev_some]
  refine ⟨_, rfl, (by (repeat' (first | (with_reducible refine Fr.wI ?_ ?_) | (with_reducible refine Fr.wA ?_ ?_) | (with_reducible refine Fr.wC ?_ ?_))); all_goals first | (with_reducible exact Fr.rfl) | rfl | (show _ ∧ _; omega)), Rl_guard (g := g) R hg (by (repeat' (first | (with_reducible refine Fr.wI ?_ ?_) | (with_reducible refine Fr.wA ?_ ?_) | (with_reducible refine Fr.wC ?_ ?_))); all_goals first | (with_reducible exact Fr.rfl) | rfl | (show _ ∧ _; omega)) (fun k hk hk2 => ?_) (fun k hk => ?_)⟩
  · unfold pu
    rw [if_neg (by omega)]
  · unfold pu
    rw [hI_sI]
    by_cases c : k = 6
    · subst c
      rw [if_pos ⟨rfl, rfl⟩, if_pos (by omega)]
    · rw [if_neg (by omega), if_neg (by omega)]
      exact R.gu hg hk
end
