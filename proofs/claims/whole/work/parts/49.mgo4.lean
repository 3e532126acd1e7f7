/-! THE MODEL: go as a whole, passNow -/
section
variable {L : Nat} {xs : Nat → Int32} {h h2 : AH} {b H P G n : Nat} {r : Rw} {o : Option Nat} {s : LK} {W nd : Nat → Bool}
theorem il0 : ilOK none := fun k hk => by cases hk
theorem Fr.mb (f : Fr inMo h h2) : Fr (inMb b) h h2 := f.mono (fun i hi => Or.inl hi)
theorem Fr.mB (f : Fr (fun i => i = b) h h2) : Fr (inMb b) h h2 := f.mono (fun i hi => Or.inr hi)
theorem goR_ok (ok : rowOK r H P G n) (hn9 : n + 1 < 20000) : rowOK (goR r H P G n) H P G (n + 1) := by
  obtain ⟨a1, a2, a3, a4, a5, a6, a7, a8, a9, a10, a11⟩ := ok
  have e : ∀ k, ¬ k = 0 → ¬ k = 1 → ¬ k = 5 → ¬ k = 6 → ¬ k = 7 → goR r H P G n k = it (goS (goL r H P G n) n) r P k := by
    intro k h0 h1 h5 h6 h7
    unfold goR
    rw [if_neg h0, if_neg h1, if_neg h5, if_neg h6, if_neg h7]
  refine ⟨a1, a2, a3, hn9, rfl, rfl, ?_, ?_, ?_, fun p hp => ?_, fun g hg => ?_⟩
  · rw [e 2 (by omega) (by omega) (by omega) (by omega) (by omega), it_goS_lo (by omega)]; exact a7
  · rw [e 3 (by omega) (by omega) (by omega) (by omega) (by omega), it_goS_lo (by omega)]; exact a8
  · rw [e 4 (by omega) (by omega) (by omega) (by omega) (by omega), it_goS_lo (by omega)]; exact a9
  · rw [e _ (by omega) (by omega) (by omega) (by omega) (by omega), itS_pl (by omega) (fun q => ⟨by omega, by omega, by omega, by omega⟩)]; exact a10 p hp
  · have q := itS_at (s := goL r H P G n) (n := n) (r := r) (j := g) (k := 0) (by omega) (fun f p pl => gSt0) a2
    rw [Nat.add_zero] at q
    rw [e _ (by omega) (by omega) (by omega) (by omega) (by omega), q]; exact a11 g hg
theorem d_go (x : Mx h b r H P G n none) (hO : ownOK r P G) (hn9 : n + 1 < 20000) : Ev (ev L xs mdX7_go 0 [.ref 151, .ref b, .null, .null, .null] [] h) (fun z => ∃ h', z = .inl (some (.int (nI (goL r H P G n).2.2.2)), h') ∧ Fr (inMb b) h h' ∧ Mx h' b (goR r H P G n) H P G (n + 1) none) := by
  have G10 := x.G10
  have P8 := x.P8
  have H6 := x.H6
  have bb := x.bb
  have hw : whoOK (goL r H P G n) G := who_look P8
  simp (disch := first | with_reducible assumption | exact cat_int | exact cat_ref | exact cat_null | exact cat_ra | exact Nat.le_of_ble_eq_true rfl | (simp (disch := omega) only [hK_sI, hR_sI, hN_sI, hA_sI, hQ_sI, hL_sI, hn_sI, hK_sR, hI_sR, hN_sR, hA_sR, hQ_sR, hL_sR, hn_sR, hK_sA, hI_sA, hR_sA, hN_sA, hQ_sA, hL_sA, hn_sA, hK_sQ, hI_sQ, hR_sQ, hN_sQ, hA_sQ, hL_sQ, hn_sQ, hK_sL, hI_sL, hR_sL, hN_sL, hA_sL, hQ_sL, hn_sL, hK_cpA, hI_cpA, hR_cpA, hN_cpA, hQ_cpA, hL_cpA, hn_cpA, hK_bump, hI_bump, hR_bump, hN_bump, hA_bump, hQ_bump, hL_bump, hn_bump, hI_sI, hR_sR, hA_sA, hQ_sQ, hL_sL, hA_cpA, isS, cat_int, cat_ref, cat_null, cat_ra, wds_nil, wds_int, wds_ref, wds_long, wds_ra, nz5, nz7, nz2, idxN, inAN, if_true, if_false, b00, b11, b01, eq_self, true_or, or_true, false_or, or_false, true_and, and_true, false_and, and_false, not_true, not_false_eq_true, Y_k151 x.y, x.k, x.le, x.a, x.r0, x.r1, d_number x]; done) | omega) only [iX7_go_0, iX7_go_1, iX7_go_4, iX7_go_5, iX7_go_6, iX7_go_7, iX7_go_8, iX7_go_9, iX7_go_10, iX7_go_11, iX7_go_12, iX7_go_13, iX7_go_14, ↓reduceIte, ofN, reduceCtorEq, Bool.false_eq_true, Nat.reduceAdd, Nat.reduceMul, Nat.reduceEqDiff, Nat.reduceLeDiff, Nat.reduceLT, le_nlt, ite_not, Nat.lt_irrefl, Decidable.not_not, kn1, kn0, knite, isS, getS, cat_int, cat_ref, cat_null, cat_ra, wds_nil, wds_int, wds_ref, wds_long, wds_ra, b0, b01, b00, b11, b10, if_true, if_false, ite_self, not_true, not_false_eq_true, true_or, or_true, false_or, or_false, true_and, and_true, false_and, and_false, eq_self, idxN, inAN, nI_add, nI_mul, nI_sub, nz5, nz7, nz2, nI_ltN, Nat.add_zero, Nat.zero_add, hK_sI, hR_sI, hN_sI, hA_sI, hQ_sI, hL_sI, hn_sI, hK_sR, hI_sR, hN_sR, hA_sR, hQ_sR, hL_sR, hn_sR, hK_sA, hI_sA, hR_sA, hN_sA, hQ_sA, hL_sA, hn_sA, hK_sQ, hI_sQ, hR_sQ, hN_sQ, hA_sQ, hL_sQ, hn_sQ, hK_sL, hI_sL, hR_sL, hN_sL, hA_sL, hQ_sL, hn_sL, hK_cpA, hI_cpA, hR_cpA, hN_cpA, hQ_cpA, hL_cpA, hn_cpA, hK_bump, hI_bump, hR_bump, hN_bump, hA_bump, hQ_bump, hL_bump, hn_bump, hI_sI, hR_sR, hA_sA, hQ_sQ, hL_sL, hA_cpA, Y_k151 x.y, x.k, x.le, x.a, x.r0, x.r1, d_number x]
  refine Ev_call (d_look x hO il0) ?_
  rintro _ ⟨h1, rfl, f1, m1⟩
  rw [wlI_none] at m1 ⊢
  change Mo h1 (goL r H P G n) _ G at m1
  change Ev (kn L xs _ _ _ _ _ (some (.inl (some (.int (nI (goL r H P G n).2.2.2)), h1)))) _
  have x1 := x.mo f1
  have sc := d_school (L := L) (xs := xs) (d := nI (n / 2)) x1
  have mn := fun (h9 : AH) => d_many (L := L) (xs := xs) (h := h9) hw.2.2
  have bk := x1.k
  have bl := x1.le
  have ba := x1.a
  have M0 := x1.r0
  have g2 : Fr (inMb b) h (sA (sA h1 b 5 (r 5 + (if sch r (nI (n / 2)) H = true then nI 1 else nI 0))) b 7 (r 7 + nI (popc (goL r H P G n).2.2.2))) := Fr.wA (Fr.wA f1.mb (Or.inr rfl)) (Or.inr rfl)
  have r1 : ev L xs mdX7_go 17 [.ref 151, .ref b, .int (nI n), .null, .null] [.int (nI (goL r H P G n).2.2.2)] h1 = ev L xs mdX7_go 53 [.ref 151, .ref b, .int (nI n), .int (nI (goL r H P G n).2.2.2), .int (nI 0)] [] (sA (sA h1 b 5 (r 5 + (if sch r (nI (n / 2)) H = true then nI 1 else nI 0))) b 7 (r 7 + nI (popc (goL r H P G n).2.2.2))) := by
    cases cs : sch r (nI (n / 2)) H with
    | false =>
      rw [cs] at sc
      simp (disch := first | with_reducible assumption | exact cat_int | exact cat_ref | exact cat_null | exact cat_ra | exact Nat.le_of_ble_eq_true rfl | (simp (disch := omega) only [hK_sI, hR_sI, hN_sI, hA_sI, hQ_sI, hL_sI, hn_sI, hK_sR, hI_sR, hN_sR, hA_sR, hQ_sR, hL_sR, hn_sR, hK_sA, hI_sA, hR_sA, hN_sA, hQ_sA, hL_sA, hn_sA, hK_sQ, hI_sQ, hR_sQ, hN_sQ, hA_sQ, hL_sQ, hn_sQ, hK_sL, hI_sL, hR_sL, hN_sL, hA_sL, hQ_sL, hn_sL, hK_cpA, hI_cpA, hR_cpA, hN_cpA, hQ_cpA, hL_cpA, hn_cpA, hK_bump, hI_bump, hR_bump, hN_bump, hA_bump, hQ_bump, hL_bump, hn_bump, hI_sI, hR_sR, hA_sA, hQ_sQ, hL_sL, hA_cpA, isS, cat_int, cat_ref, cat_null, cat_ra, wds_nil, wds_int, wds_ref, wds_long, wds_ra, nz5, nz7, nz2, idxN, inAN, if_true, if_false, b00, b11, b01, eq_self, true_or, or_true, false_or, or_false, true_and, and_true, false_and, and_false, not_true, not_false_eq_true, bk, bl, ba, M0, sc, mn, eqF]; done) | omega) only [iX7_go_17, iX7_go_18, iX7_go_19, iX7_go_20, iX7_go_21, iX7_go_22, iX7_go_23, iX7_go_24, iX7_go_25, iX7_go_26, iX7_go_29, iX7_go_32, iX7_go_33, iX7_go_36, iX7_go_37, iX7_go_38, iX7_go_39, iX7_go_40, iX7_go_42, iX7_go_43, iX7_go_44, iX7_go_45, iX7_go_48, iX7_go_49, iX7_go_50, iX7_go_51, ↓reduceIte, ofN, reduceCtorEq, Bool.false_eq_true, Nat.reduceAdd, Nat.reduceMul, Nat.reduceEqDiff, Nat.reduceLeDiff, Nat.reduceLT, le_nlt, ite_not, Nat.lt_irrefl, Decidable.not_not, kn1, kn0, knite, isS, getS, cat_int, cat_ref, cat_null, cat_ra, wds_nil, wds_int, wds_ref, wds_long, wds_ra, b0, b01, b00, b11, b10, if_true, if_false, ite_self, not_true, not_false_eq_true, true_or, or_true, false_or, or_false, true_and, and_true, false_and, and_false, eq_self, idxN, inAN, nI_add, nI_mul, nI_sub, nz5, nz7, nz2, nI_ltN, Nat.add_zero, Nat.zero_add, hK_sI, hR_sI, hN_sI, hA_sI, hQ_sI, hL_sI, hn_sI, hK_sR, hI_sR, hN_sR, hA_sR, hQ_sR, hL_sR, hn_sR, hK_sA, hI_sA, hR_sA, hN_sA, hQ_sA, hL_sA, hn_sA, hK_sQ, hI_sQ, hR_sQ, hN_sQ, hA_sQ, hL_sQ, hn_sQ, hK_sL, hI_sL, hR_sL, hN_sL, hA_sL, hQ_sL, hn_sL, hK_cpA, hI_cpA, hR_cpA, hN_cpA, hQ_cpA, hL_cpA, hn_cpA, hK_bump, hI_bump, hR_bump, hN_bump, hA_bump, hQ_bump, hL_bump, hn_bump, hI_sI, hR_sR, hA_sA, hQ_sQ, hL_sL, hA_cpA, bk, bl, ba, M0, sc, mn, eqF]
    | true =>
      rw [cs] at sc
      simp (disch := first | with_reducible assumption | exact cat_int | exact cat_ref | exact cat_null | exact cat_ra | exact Nat.le_of_ble_eq_true rfl | (simp (disch := omega) only [hK_sI, hR_sI, hN_sI, hA_sI, hQ_sI, hL_sI, hn_sI, hK_sR, hI_sR, hN_sR, hA_sR, hQ_sR, hL_sR, hn_sR, hK_sA, hI_sA, hR_sA, hN_sA, hQ_sA, hL_sA, hn_sA, hK_sQ, hI_sQ, hR_sQ, hN_sQ, hA_sQ, hL_sQ, hn_sQ, hK_sL, hI_sL, hR_sL, hN_sL, hA_sL, hQ_sL, hn_sL, hK_cpA, hI_cpA, hR_cpA, hN_cpA, hQ_cpA, hL_cpA, hn_cpA, hK_bump, hI_bump, hR_bump, hN_bump, hA_bump, hQ_bump, hL_bump, hn_bump, hI_sI, hR_sR, hA_sA, hQ_sQ, hL_sL, hA_cpA, isS, cat_int, cat_ref, cat_null, cat_ra, wds_nil, wds_int, wds_ref, wds_long, wds_ra, nz5, nz7, nz2, idxN, inAN, if_true, if_false, b00, b11, b01, eq_self, true_or, or_true, false_or, or_false, true_and, and_true, false_and, and_false, not_true, not_false_eq_true, bk, bl, ba, M0, sc, mn, eqF]; done) | omega) only [iX7_go_17, iX7_go_18, iX7_go_19, iX7_go_20, iX7_go_21, iX7_go_22, iX7_go_23, iX7_go_24, iX7_go_25, iX7_go_26, iX7_go_29, iX7_go_32, iX7_go_33, iX7_go_36, iX7_go_37, iX7_go_38, iX7_go_39, iX7_go_40, iX7_go_42, iX7_go_43, iX7_go_44, iX7_go_45, iX7_go_48, iX7_go_49, iX7_go_50, iX7_go_51, ↓reduceIte, ofN, reduceCtorEq, Bool.false_eq_true, Nat.reduceAdd, Nat.reduceMul, Nat.reduceEqDiff, Nat.reduceLeDiff, Nat.reduceLT, le_nlt, ite_not, Nat.lt_irrefl, Decidable.not_not, kn1, kn0, knite, isS, getS, cat_int, cat_ref, cat_null, cat_ra, wds_nil, wds_int, wds_ref, wds_long, wds_ra, b0, b01, b00, b11, b10, if_true, if_false, ite_self, not_true, not_false_eq_true, true_or, or_true, false_or, or_false, true_and, and_true, false_and, and_false, eq_self, idxN, inAN, nI_add, nI_mul, nI_sub, nz5, nz7, nz2, nI_ltN, Nat.add_zero, Nat.zero_add, hK_sI, hR_sI, hN_sI, hA_sI, hQ_sI, hL_sI, hn_sI, hK_sR, hI_sR, hN_sR, hA_sR, hQ_sR, hL_sR, hn_sR, hK_sA, hI_sA, hR_sA, hN_sA, hQ_sA, hL_sA, hn_sA, hK_sQ, hI_sQ, hR_sQ, hN_sQ, hA_sQ, hL_sQ, hn_sQ, hK_sL, hI_sL, hR_sL, hN_sL, hA_sL, hQ_sL, hn_sL, hK_cpA, hI_cpA, hR_cpA, hN_cpA, hQ_cpA, hL_cpA, hn_cpA, hK_bump, hI_bump, hR_bump, hN_bump, hA_bump, hQ_bump, hL_bump, hn_bump, hI_sI, hR_sR, hA_sA, hQ_sQ, hL_sL, hA_cpA, bk, bl, ba, M0, sc, mn, eqF]
  rw [kn1, r1]
  generalize hsc : (if sch r (nI (n / 2)) H = true then nI 1 else nI 0) = sc9 at *
  generalize hlk : goL r H P G n = lk at *
  have f0 : ∀ i, ∀ k, k < 21 → it (goS lk n) r i k = r k := fun i k hk => it_goS_lo hk
  refine Ev_loop (n := P) (fun i Ls h' => Ls = [.ref 151, .ref b, .int (nI n), .int (nI lk.2.2.2), .int (nI i)] ∧ Fr (inMb b) h h' ∧ (∀ p, p < 8 → hA h' 156 p = lk.1 p) ∧ (∀ p, p < 8 → hA h' 157 p = lk.2.1 p) ∧ hA h' b = ov (r 5 + sc9) (r 6 + nI (popc (msk (nee r H (nI (n / 2)) (nI (n % 2))) i))) (r 7 + nI (popc lk.2.2.2)) (it (goS lk n) r i)) ?_ ?_ (Nat.zero_le _) ⟨rfl, g2, fun p hp => ?_, fun p hp => ?_, ?_⟩
  · rintro i Ls h' hi ⟨rfl, f, ew, ey, ba'⟩ k
    have i8 : i < 8 := by omega
    have y' := f.y x.y
    have il' : hI h' 122 151 = -1 := by
      rw [f.fi (fun z => by rcases z with z | z; exact mo151 z; omega)]
      exact x.il
    have f3 : ∀ g, it (goS lk n) r i (93 + 9 * g) = r (93 + 9 * g) := by
      intro g
      have q := itS_at (s := lk) (n := n) (r := r) (j := g) (k := 0) (by omega) (fun f p pl => gSt0) (i := i) (by omega)
      rw [Nat.add_zero] at q
      exact q
    refine go_step y' bb ba' x.ok il' (f0 i) (fun p hp => itS_pl (by omega) (fun q => ⟨by omega, by omega, by omega, by omega⟩)) f3 (itS_pl (by omega) (fun q => ⟨by omega, by omega, by omega, by omega⟩)) hi (ew i i8) (ey i i8) hw.2.2 (hw.2.1 i i8) (hw.1 i) rfl ?_
    intro h3 g3 b3
    refine k _ _ ⟨rfl, f.tr g3.mB, fun p hp => ?_, fun p hp => ?_, ?_⟩
    · rw [g3.ar (by omega)]; exact ew p hp
    · rw [g3.ar (by omega)]; exact ey p hp
    · rw [b3, popc_msk i8, ← nI_add, Int32.add_assoc]
      rfl
  · rintro Ls h' ⟨rfl, f, ew, ey, ba'⟩
    have y' := f.y x.y
    have bk' : hK h' b = 8 := by rw [f.ki]; exact x.k
    have bl' : hN h' b = 183 := by rw [f.le]; exact x.le
    have N3 : ov (r 5 + sc9) (r 6 + nI (popc (msk (nee r H (nI (n / 2)) (nI (n % 2))) P))) (r 7 + nI (popc lk.2.2.2)) (it (goS lk n) r P) 3 = nI P := by rw [ov_at (by omega) (by omega) (by omega), f0 P _ (by omega)]; exact x.r3
    have N0 : ov (r 5 + sc9) (r 6 + nI (popc (msk (nee r H (nI (n / 2)) (nI (n % 2))) P))) (r 7 + nI (popc lk.2.2.2)) (it (goS lk n) r P) 0 = nI (n / 2) := by rw [ov_at (by omega) (by omega) (by omega), f0 P _ (by omega)]; exact x.r0
    have N1 : ov (r 5 + sc9) (r 6 + nI (popc (msk (nee r H (nI (n / 2)) (nI (n % 2))) P))) (r 7 + nI (popc lk.2.2.2)) (it (goS lk n) r P) 1 = nI (n % 2) := by rw [ov_at (by omega) (by omega) (by omega), f0 P _ (by omega)]; exact x.r1
    have e1 : n / 2 + n % 2 = (n + 1) / 2 := by omega
    have e2 : 1 - n % 2 = (n + 1) % 2 := by omega
    have e3 : n % 2 ≤ 1 := by omega
    have e4 : nI 1 - nI (n % 2) = nI ((n + 1) % 2) := by rw [nI_sub (by omega), e2]
    simp (disch := first | with_reducible assumption | exact cat_int | exact cat_ref | exact cat_null | exact cat_ra | exact Nat.le_of_ble_eq_true rfl | (simp (disch := omega) only [hK_sI, hR_sI, hN_sI, hA_sI, hQ_sI, hL_sI, hn_sI, hK_sR, hI_sR, hN_sR, hA_sR, hQ_sR, hL_sR, hn_sR, hK_sA, hI_sA, hR_sA, hN_sA, hQ_sA, hL_sA, hn_sA, hK_sQ, hI_sQ, hR_sQ, hN_sQ, hA_sQ, hL_sQ, hn_sQ, hK_sL, hI_sL, hR_sL, hN_sL, hA_sL, hQ_sL, hn_sL, hK_cpA, hI_cpA, hR_cpA, hN_cpA, hQ_cpA, hL_cpA, hn_cpA, hK_bump, hI_bump, hR_bump, hN_bump, hA_bump, hQ_bump, hL_bump, hn_bump, hI_sI, hR_sR, hA_sA, hQ_sQ, hL_sL, hA_cpA, isS, cat_int, cat_ref, cat_null, cat_ra, wds_nil, wds_int, wds_ref, wds_long, wds_ra, nz5, nz7, nz2, idxN, inAN, if_true, if_false, b00, b11, b01, eq_self, true_or, or_true, false_or, or_false, true_and, and_true, false_and, and_false, not_true, not_false_eq_true, bk', bl', ba', N0, N1, N3, e1, e4, eqF, Ev_some]; done) | omega) only [iX7_go_53, iX7_go_55, iX7_go_56, iX7_go_57, iX7_go_58, iX7_go_183, iX7_go_184, iX7_go_185, iX7_go_186, iX7_go_187, iX7_go_188, iX7_go_189, iX7_go_190, iX7_go_191, iX7_go_192, iX7_go_193, iX7_go_194, iX7_go_195, iX7_go_196, iX7_go_197, iX7_go_198, iX7_go_199, iX7_go_200, iX7_go_201, ↓reduceIte, ofN, reduceCtorEq, Bool.false_eq_true, Nat.reduceAdd, Nat.reduceMul, Nat.reduceEqDiff, Nat.reduceLeDiff, Nat.reduceLT, le_nlt, ite_not, Nat.lt_irrefl, Decidable.not_not, kn1, kn0, knite, isS, getS, cat_int, cat_ref, cat_null, cat_ra, wds_nil, wds_int, wds_ref, wds_long, wds_ra, b0, b01, b00, b11, b10, if_true, if_false, ite_self, not_true, not_false_eq_true, true_or, or_true, false_or, or_false, true_and, and_true, false_and, and_false, eq_self, idxN, inAN, nI_add, nI_mul, nI_sub, nz5, nz7, nz2, nI_ltN, Nat.add_zero, Nat.zero_add, hK_sI, hR_sI, hN_sI, hA_sI, hQ_sI, hL_sI, hn_sI, hK_sR, hI_sR, hN_sR, hA_sR, hQ_sR, hL_sR, hn_sR, hK_sA, hI_sA, hR_sA, hN_sA, hQ_sA, hL_sA, hn_sA, hK_sQ, hI_sQ, hR_sQ, hN_sQ, hA_sQ, hL_sQ, hn_sQ, hK_sL, hI_sL, hR_sL, hN_sL, hA_sL, hQ_sL, hn_sL, hK_cpA, hI_cpA, hR_cpA, hN_cpA, hQ_cpA, hL_cpA, hn_cpA, hK_bump, hI_bump, hR_bump, hN_bump, hA_bump, hQ_bump, hL_bump, hn_bump, hI_sI, hR_sR, hA_sA, hQ_sQ, hL_sL, hA_cpA, bk', bl', ba', N0, N1, N3, e1, e4, eqF, Ev_some]
    have f9 : Fr (inMb b) h (sA (sA h' b 0 (nI ((n + 1) / 2))) b 1 (nI ((n + 1) % 2))) := Fr.wA (Fr.wA f (Or.inr rfl)) (Or.inr rfl)
    refine ⟨_, rfl, f9, f9.y x.y, bb, ?_, goR_ok x.ok hn9, ?_⟩
    · rw [hA_pu, hA_pu, ba']
      funext k
      unfold pu goR ov
      rw [hlk, hsc]
      repeat' split
      all_goals first
        | rfl
        | (exfalso; omega)
    · rw [f9.fi (fun z => by rcases z with z | z; exact mo151 z; omega)]
      exact x.il
  · rw [hA_ne (by omega), hA_ne (by omega)]; exact m1.who hp
  · rw [hA_ne (by omega), hA_ne (by omega)]; exact m1.why hp
  · rw [hA_pu, hA_pu, ba]
    funext k
    have z0 : popc (msk (nee r H (nI (n / 2)) (nI (n % 2))) 0) = 0 := by simp [popc, msk, b2n]
    unfold pu ov
    rw [z0]
    have z1 : r 6 + nI 0 = r 6 := Int32.add_zero _
    rw [z1]
    by_cases k5 : k = 5
    · subst k5; rfl
    · by_cases k6 : k = 6
      · subst k6; rfl
      · by_cases k7 : k = 7
        · subst k7; rfl
        · rw [if_neg k7, if_neg k5, if_neg k5, if_neg k6, if_neg k7]; rfl
theorem goN_mx (ok : rowOK r H P G n) : ∀ {k : Nat}, n + k < 20000 → rowOK (goN r H P G n k) H P G (n + k)
  | 0, _ => ok
  | k + 1, hk => goR_ok (goN_mx ok (by omega)) (by omega)
theorem goN_own (hP : P ≤ 8) (hO : ownOK r P G) : ∀ k, ownOK (goN r H P G n k) P G
  | 0 => hO
  | k + 1 => own_goR hP (goN_own hP hO k)
theorem d_pass {d : Nat} (x : Mx h 152 r H P G n none) (hO : ownOK r P G) (hn9 : 2 * (n / 2 + d) < 20000) (hd1 : 1 ≤ d) : Ev (ev L xs mdX7_passNow 0 [.ref 151, .int (nI d), .null, .null] [] h) (fun z => ∃ h', z = .inl (some (.int (nI (goSum r H P G n (2 * (n / 2 + d) - n)))), h') ∧ Fr (inMb 152) h h' ∧ Mx h' 152 (goN r H P G n (2 * (n / 2 + d) - n)) H P G (2 * (n / 2 + d)) none) := by
  have P8 := x.P8
  simp (disch := first | with_reducible assumption | exact cat_int | exact cat_ref | exact cat_null | exact cat_ra | exact Nat.le_of_ble_eq_true rfl | (simp (disch := omega) only [hK_sI, hR_sI, hN_sI, hA_sI, hQ_sI, hL_sI, hn_sI, hK_sR, hI_sR, hN_sR, hA_sR, hQ_sR, hL_sR, hn_sR, hK_sA, hI_sA, hR_sA, hN_sA, hQ_sA, hL_sA, hn_sA, hK_sQ, hI_sQ, hR_sQ, hN_sQ, hA_sQ, hL_sQ, hn_sQ, hK_sL, hI_sL, hR_sL, hN_sL, hA_sL, hQ_sL, hn_sL, hK_cpA, hI_cpA, hR_cpA, hN_cpA, hQ_cpA, hL_cpA, hn_cpA, hK_bump, hI_bump, hR_bump, hN_bump, hA_bump, hQ_bump, hL_bump, hn_bump, hI_sI, hR_sR, hA_sA, hQ_sQ, hL_sL, hA_cpA, isS, cat_int, cat_ref, cat_null, cat_ra, wds_nil, wds_int, wds_ref, wds_long, wds_ra, nz5, nz7, nz2, idxN, inAN, if_true, if_false, b00, b11, b01, eq_self, true_or, or_true, false_or, or_false, true_and, and_true, false_and, and_false, not_true, not_false_eq_true, Y_k151 x.y, Y_r113 x.y, x.k, x.le, x.a, x.r0]; done) | omega) only [iX7_passNow_0, iX7_passNow_1, iX7_passNow_4, iX7_passNow_5, iX7_passNow_6, iX7_passNow_7, iX7_passNow_8, iX7_passNow_9, iX7_passNow_10, ↓reduceIte, ofN, reduceCtorEq, Bool.false_eq_true, Nat.reduceAdd, Nat.reduceMul, Nat.reduceEqDiff, Nat.reduceLeDiff, Nat.reduceLT, le_nlt, ite_not, Nat.lt_irrefl, Decidable.not_not, kn1, kn0, knite, isS, getS, cat_int, cat_ref, cat_null, cat_ra, wds_nil, wds_int, wds_ref, wds_long, wds_ra, b0, b01, b00, b11, b10, if_true, if_false, ite_self, not_true, not_false_eq_true, true_or, or_true, false_or, or_false, true_and, and_true, false_and, and_false, eq_self, idxN, inAN, nI_add, nI_mul, nI_sub, nz5, nz7, nz2, nI_ltN, Nat.add_zero, Nat.zero_add, hK_sI, hR_sI, hN_sI, hA_sI, hQ_sI, hL_sI, hn_sI, hK_sR, hI_sR, hN_sR, hA_sR, hQ_sR, hL_sR, hn_sR, hK_sA, hI_sA, hR_sA, hN_sA, hQ_sA, hL_sA, hn_sA, hK_sQ, hI_sQ, hR_sQ, hN_sQ, hA_sQ, hL_sQ, hn_sQ, hK_sL, hI_sL, hR_sL, hN_sL, hA_sL, hQ_sL, hn_sL, hK_cpA, hI_cpA, hR_cpA, hN_cpA, hQ_cpA, hL_cpA, hn_cpA, hK_bump, hI_bump, hR_bump, hN_bump, hA_bump, hQ_bump, hL_bump, hn_bump, hI_sI, hR_sR, hA_sA, hQ_sQ, hL_sL, hA_cpA, Y_k151 x.y, Y_r113 x.y, x.k, x.le, x.a, x.r0]
  refine Ev_loop (n := 2 * (n / 2 + d) - n) (fun i Ls h' => Ls = [.ref 151, .int (nI d), .int (nI (n / 2 + d)), .int (nI (goSum r H P G n i))] ∧ Fr (inMb 152) h h' ∧ Mx h' 152 (goN r H P G n i) H P G (n + i) none) ?_ ?_ (Nat.zero_le _) ⟨rfl, Fr.rfl, x⟩
  · rintro i Ls h' hi ⟨rfl, f, x'⟩ k
    have y' := x'.y
    have e1 : (n + i) / 2 < n / 2 + d := by omega
    have mn := fun (h9 : AH) => d_many (L := L) (xs := xs) (h := h9) (s := (goL (goN r H P G n i) H P G (n + i)).2.2.2) (who_look (r := goN r H P G n i) (W := wl (goN r H P G n i) (nI ((n + i) / 2))) (nd := nee (goN r H P G n i) H (nI ((n + i) / 2)) (nI ((n + i) % 2))) (G := G) (n := n + i) P8).2.2
    rw [iX7_passNow_11]
    simp (disch := first | with_reducible assumption | exact cat_int | exact cat_ref | exact cat_null | exact cat_ra | exact Nat.le_of_ble_eq_true rfl | (simp (disch := omega) only [hK_sI, hR_sI, hN_sI, hA_sI, hQ_sI, hL_sI, hn_sI, hK_sR, hI_sR, hN_sR, hA_sR, hQ_sR, hL_sR, hn_sR, hK_sA, hI_sA, hR_sA, hN_sA, hQ_sA, hL_sA, hn_sA, hK_sQ, hI_sQ, hR_sQ, hN_sQ, hA_sQ, hL_sQ, hn_sQ, hK_sL, hI_sL, hR_sL, hN_sL, hA_sL, hQ_sL, hn_sL, hK_cpA, hI_cpA, hR_cpA, hN_cpA, hQ_cpA, hL_cpA, hn_cpA, hK_bump, hI_bump, hR_bump, hN_bump, hA_bump, hQ_bump, hL_bump, hn_bump, hI_sI, hR_sR, hA_sA, hQ_sQ, hL_sL, hA_cpA, isS, cat_int, cat_ref, cat_null, cat_ra, wds_nil, wds_int, wds_ref, wds_long, wds_ra, nz5, nz7, nz2, idxN, inAN, if_true, if_false, b00, b11, b01, eq_self, true_or, or_true, false_or, or_false, true_and, and_true, false_and, and_false, not_true, not_false_eq_true, Y_k151 y', Y_r113 y', x'.k, x'.le, x'.a, x'.r0, e1]; done) | omega) only [iX7_passNow_12, iX7_passNow_15, iX7_passNow_16, iX7_passNow_17, iX7_passNow_18, iX7_passNow_21, iX7_passNow_22, iX7_passNow_23, iX7_passNow_24, iX7_passNow_27, ↓reduceIte, ofN, reduceCtorEq, Bool.false_eq_true, Nat.reduceAdd, Nat.reduceMul, Nat.reduceEqDiff, Nat.reduceLeDiff, Nat.reduceLT, le_nlt, ite_not, Nat.lt_irrefl, Decidable.not_not, kn1, kn0, knite, isS, getS, cat_int, cat_ref, cat_null, cat_ra, wds_nil, wds_int, wds_ref, wds_long, wds_ra, b0, b01, b00, b11, b10, if_true, if_false, ite_self, not_true, not_false_eq_true, true_or, or_true, false_or, or_false, true_and, and_true, false_and, and_false, eq_self, idxN, inAN, nI_add, nI_mul, nI_sub, nz5, nz7, nz2, nI_ltN, Nat.add_zero, Nat.zero_add, hK_sI, hR_sI, hN_sI, hA_sI, hQ_sI, hL_sI, hn_sI, hK_sR, hI_sR, hN_sR, hA_sR, hQ_sR, hL_sR, hn_sR, hK_sA, hI_sA, hR_sA, hN_sA, hQ_sA, hL_sA, hn_sA, hK_sQ, hI_sQ, hR_sQ, hN_sQ, hA_sQ, hL_sQ, hn_sQ, hK_sL, hI_sL, hR_sL, hN_sL, hA_sL, hQ_sL, hn_sL, hK_cpA, hI_cpA, hR_cpA, hN_cpA, hQ_cpA, hL_cpA, hn_cpA, hK_bump, hI_bump, hR_bump, hN_bump, hA_bump, hQ_bump, hL_bump, hn_bump, hI_sI, hR_sR, hA_sA, hQ_sQ, hL_sL, hA_cpA, Y_k151 y', Y_r113 y', x'.k, x'.le, x'.a, x'.r0, e1]
    refine Ev_call (d_go x' (goN_own P8 hO i) (by omega)) ?_
    rintro _ ⟨h1, rfl, f1, x1⟩
    simp (disch := first | with_reducible assumption | exact cat_int | exact cat_ref | exact cat_null | exact cat_ra | exact Nat.le_of_ble_eq_true rfl | (simp (disch := omega) only [hK_sI, hR_sI, hN_sI, hA_sI, hQ_sI, hL_sI, hn_sI, hK_sR, hI_sR, hN_sR, hA_sR, hQ_sR, hL_sR, hn_sR, hK_sA, hI_sA, hR_sA, hN_sA, hQ_sA, hL_sA, hn_sA, hK_sQ, hI_sQ, hR_sQ, hN_sQ, hA_sQ, hL_sQ, hn_sQ, hK_sL, hI_sL, hR_sL, hN_sL, hA_sL, hQ_sL, hn_sL, hK_cpA, hI_cpA, hR_cpA, hN_cpA, hQ_cpA, hL_cpA, hn_cpA, hK_bump, hI_bump, hR_bump, hN_bump, hA_bump, hQ_bump, hL_bump, hn_bump, hI_sI, hR_sR, hA_sA, hQ_sQ, hL_sL, hA_cpA, isS, cat_int, cat_ref, cat_null, cat_ra, wds_nil, wds_int, wds_ref, wds_long, wds_ra, nz5, nz7, nz2, idxN, inAN, if_true, if_false, b00, b11, b01, eq_self, true_or, or_true, false_or, or_false, true_and, and_true, false_and, and_false, not_true, not_false_eq_true, mn]; done) | omega) only [iX7_passNow_30, iX7_passNow_33, iX7_passNow_34, iX7_passNow_35, ↓reduceIte, ofN, reduceCtorEq, Bool.false_eq_true, Nat.reduceAdd, Nat.reduceMul, Nat.reduceEqDiff, Nat.reduceLeDiff, Nat.reduceLT, le_nlt, ite_not, Nat.lt_irrefl, Decidable.not_not, kn1, kn0, knite, isS, getS, cat_int, cat_ref, cat_null, cat_ra, wds_nil, wds_int, wds_ref, wds_long, wds_ra, b0, b01, b00, b11, b10, if_true, if_false, ite_self, not_true, not_false_eq_true, true_or, or_true, false_or, or_false, true_and, and_true, false_and, and_false, eq_self, idxN, inAN, nI_add, nI_mul, nI_sub, nz5, nz7, nz2, nI_ltN, Nat.add_zero, Nat.zero_add, hK_sI, hR_sI, hN_sI, hA_sI, hQ_sI, hL_sI, hn_sI, hK_sR, hI_sR, hN_sR, hA_sR, hQ_sR, hL_sR, hn_sR, hK_sA, hI_sA, hR_sA, hN_sA, hQ_sA, hL_sA, hn_sA, hK_sQ, hI_sQ, hR_sQ, hN_sQ, hA_sQ, hL_sQ, hn_sQ, hK_sL, hI_sL, hR_sL, hN_sL, hA_sL, hQ_sL, hn_sL, hK_cpA, hI_cpA, hR_cpA, hN_cpA, hQ_cpA, hL_cpA, hn_cpA, hK_bump, hI_bump, hR_bump, hN_bump, hA_bump, hQ_bump, hL_bump, hn_bump, hI_sI, hR_sR, hA_sA, hQ_sQ, hL_sL, hA_cpA, mn]
    exact k _ _ ⟨rfl, f.tr f1, x1⟩
  · rintro Ls h' ⟨rfl, f, x'⟩
    have y' := x'.y
    have e1 : ¬ (n + (2 * (n / 2 + d) - n)) / 2 < n / 2 + d := by omega
    rw [iX7_passNow_11]
    simp (disch := first | with_reducible assumption | exact cat_int | exact cat_ref | exact cat_null | exact cat_ra | exact Nat.le_of_ble_eq_true rfl | (simp (disch := omega) only [hK_sI, hR_sI, hN_sI, hA_sI, hQ_sI, hL_sI, hn_sI, hK_sR, hI_sR, hN_sR, hA_sR, hQ_sR, hL_sR, hn_sR, hK_sA, hI_sA, hR_sA, hN_sA, hQ_sA, hL_sA, hn_sA, hK_sQ, hI_sQ, hR_sQ, hN_sQ, hA_sQ, hL_sQ, hn_sQ, hK_sL, hI_sL, hR_sL, hN_sL, hA_sL, hQ_sL, hn_sL, hK_cpA, hI_cpA, hR_cpA, hN_cpA, hQ_cpA, hL_cpA, hn_cpA, hK_bump, hI_bump, hR_bump, hN_bump, hA_bump, hQ_bump, hL_bump, hn_bump, hI_sI, hR_sR, hA_sA, hQ_sQ, hL_sL, hA_cpA, isS, cat_int, cat_ref, cat_null, cat_ra, wds_nil, wds_int, wds_ref, wds_long, wds_ra, nz5, nz7, nz2, idxN, inAN, if_true, if_false, b00, b11, b01, eq_self, true_or, or_true, false_or, or_false, true_and, and_true, false_and, and_false, not_true, not_false_eq_true, Y_k151 y', Y_r113 y', x'.k, x'.le, x'.a, x'.r0, e1, Ev_some]; done) | omega) only [iX7_passNow_12, iX7_passNow_15, iX7_passNow_16, iX7_passNow_17, iX7_passNow_18, iX7_passNow_38, iX7_passNow_39, ↓reduceIte, ofN, reduceCtorEq, Bool.false_eq_true, Nat.reduceAdd, Nat.reduceMul, Nat.reduceEqDiff, Nat.reduceLeDiff, Nat.reduceLT, le_nlt, ite_not, Nat.lt_irrefl, Decidable.not_not, kn1, kn0, knite, isS, getS, cat_int, cat_ref, cat_null, cat_ra, wds_nil, wds_int, wds_ref, wds_long, wds_ra, b0, b01, b00, b11, b10, if_true, if_false, ite_self, not_true, not_false_eq_true, true_or, or_true, false_or, or_false, true_and, and_true, false_and, and_false, eq_self, idxN, inAN, nI_add, nI_mul, nI_sub, nz5, nz7, nz2, nI_ltN, Nat.add_zero, Nat.zero_add, hK_sI, hR_sI, hN_sI, hA_sI, hQ_sI, hL_sI, hn_sI, hK_sR, hI_sR, hN_sR, hA_sR, hQ_sR, hL_sR, hn_sR, hK_sA, hI_sA, hR_sA, hN_sA, hQ_sA, hL_sA, hn_sA, hK_sQ, hI_sQ, hR_sQ, hN_sQ, hA_sQ, hL_sQ, hn_sQ, hK_sL, hI_sL, hR_sL, hN_sL, hA_sL, hQ_sL, hn_sL, hK_cpA, hI_cpA, hR_cpA, hN_cpA, hQ_cpA, hL_cpA, hn_cpA, hK_bump, hI_bump, hR_bump, hN_bump, hA_bump, hQ_bump, hL_bump, hn_bump, hI_sI, hR_sR, hA_sA, hQ_sQ, hL_sL, hA_cpA, Y_k151 y', Y_r113 y', x'.k, x'.le, x'.a, x'.r0, e1, Ev_some]
    exact ⟨h', rfl, f, by rw [show n + (2 * (n / 2 + d) - n) = 2 * (n / 2 + d) by omega] at x'; exact x'⟩
end
