/-! THE CLASS'S FACE: undo and the text -/
section
variable {L : Nat} {xs : Nat → Int32} {h h2 h3 : AH} {s : SvT} {m len : Nat} {sv : Nat → SvT} {tx : Rw} {r : Rw} {H P G n : Nat}
theorem CR.m4 (c : CR h s m sv tx len) : m ≤ 4 := c.2.2.2.1
theorem CR.ct (c : CR h s m sv tx len) : hI h 99 0 = nI m := c.2.2.2.2.1
theorem CR.le (c : CR h s m sv tx len) : hI h 17 54 = nI len := c.2.2.2.2.2.2.2.1
theorem CR.l9 (c : CR h s m sv tx len) : len ≤ 90 := c.2.2.2.2.2.2.2.2
theorem CR.txt (c : CR h s m sv tx len) : hA h 55 = tx := c.2.2.2.2.2.2.1
theorem a_undo1 (c : CR h s m sv tx len) (e : m = 0) : ev L xs mdX6_undo 0 [.ref 0] [] h = some (.inr ("java/lang/IllegalStateException", bump h)) := by
  have m4 := c.m4
  have e1 : ¬ 0 < m := by omega
  simp (disch := first | with_reducible assumption | exact cat_int | exact cat_ref | exact cat_null | exact cat_ra | exact Nat.le_of_ble_eq_true rfl | (simp (disch := omega) only [hK_sI, hR_sI, hN_sI, hA_sI, hQ_sI, hL_sI, hn_sI, hK_sR, hI_sR, hN_sR, hA_sR, hQ_sR, hL_sR, hn_sR, hK_sA, hI_sA, hR_sA, hN_sA, hQ_sA, hL_sA, hn_sA, hK_sQ, hI_sQ, hR_sQ, hN_sQ, hA_sQ, hL_sQ, hn_sQ, hK_sL, hI_sL, hR_sL, hN_sL, hA_sL, hQ_sL, hn_sL, hK_cpA, hI_cpA, hR_cpA, hN_cpA, hQ_cpA, hL_cpA, hn_cpA, hK_bump, hI_bump, hR_bump, hN_bump, hA_bump, hQ_bump, hL_bump, hn_bump, hI_sI, hR_sR, hA_sA, hQ_sQ, hL_sL, hA_cpA, isS, cat_int, cat_ref, cat_null, cat_ra, wds_nil, wds_int, wds_ref, wds_long, wds_ra, nz5, nz7, nz2, idxN, inAN, if_true, if_false, b00, b11, b01, eq_self, true_or, or_true, false_or, or_false, true_and, and_true, false_and, and_false, not_true, not_false_eq_true, Y_k0 c.y, c.ct, e1]; done) | omega) only [iX6_undo_0, iX6_undo_1, iX6_undo_4, iX6_undo_7, ↓reduceIte, ofN, reduceCtorEq, Bool.false_eq_true, Nat.reduceAdd, Nat.reduceMul, Nat.reduceEqDiff, Nat.reduceLeDiff, Nat.reduceLT, le_nlt, ite_not, Nat.lt_irrefl, Decidable.not_not, kn1, kn0, knite, isS, getS, cat_int, cat_ref, cat_null, cat_ra, wds_nil, wds_int, wds_ref, wds_long, wds_ra, b0, b01, b00, b11, b10, if_true, if_false, ite_self, not_true, not_false_eq_true, true_or, or_true, false_or, or_false, true_and, and_true, false_and, and_false, eq_self, idxN, inAN, nI_add, nI_mul, nI_sub, nz5, nz7, nz2, nI_ltN, Nat.add_zero, Nat.zero_add, hK_sI, hR_sI, hN_sI, hA_sI, hQ_sI, hL_sI, hn_sI, hK_sR, hI_sR, hN_sR, hA_sR, hQ_sR, hL_sR, hn_sR, hK_sA, hI_sA, hR_sA, hN_sA, hQ_sA, hL_sA, hn_sA, hK_sQ, hI_sQ, hR_sQ, hN_sQ, hA_sQ, hL_sQ, hn_sQ, hK_sL, hI_sL, hR_sL, hN_sL, hA_sL, hQ_sL, hn_sL, hK_cpA, hI_cpA, hR_cpA, hN_cpA, hQ_cpA, hL_cpA, hn_cpA, hK_bump, hI_bump, hR_bump, hN_bump, hA_bump, hQ_bump, hL_bump, hn_bump, hI_sI, hR_sR, hA_sA, hQ_sQ, hL_sL, hA_cpA, Y_k0 c.y, c.ct, e1]
theorem a_undo0 {k : Nat} (c : CR h s (k + 1) sv tx len) : Ev (ev L xs mdX6_undo 0 [.ref 0] [] h) (OkC h (sv k) k sv tx len (some (.int (nI k)))) := by
  have m4 := c.m4
  obtain ⟨f, hf, hsv⟩ := c.2.2.2.2.2.1
  have hb := (hf.1 k (by omega)).2
  have q1 := (hf.1 k (by omega)).1
  have k47 := Y_k47 c.y
  have lb := c.2.1 (f k) (isVb_B hb)
  have dj : 1 + 23 ≤ f k ∨ f k + 23 ≤ 1 := by unfold isVb at hb; omega
  have kk : hK h 47 = 9 ∨ hK h 47 = 10 ∨ hK h 47 = 11 := Or.inr (Or.inr k47)
  have e9 : k + 1 - 1 = k := by omega
  have e8 : 0 < k + 1 := by omega
  simp (disch := first | with_reducible assumption | exact cat_int | exact cat_ref | exact cat_null | exact cat_ra | exact Nat.le_of_ble_eq_true rfl | (simp (disch := omega) only [hK_sI, hR_sI, hN_sI, hA_sI, hQ_sI, hL_sI, hn_sI, hK_sR, hI_sR, hN_sR, hA_sR, hQ_sR, hL_sR, hn_sR, hK_sA, hI_sA, hR_sA, hN_sA, hQ_sA, hL_sA, hn_sA, hK_sQ, hI_sQ, hR_sQ, hN_sQ, hA_sQ, hL_sQ, hn_sQ, hK_sL, hI_sL, hR_sL, hN_sL, hA_sL, hQ_sL, hn_sL, hK_cpA, hI_cpA, hR_cpA, hN_cpA, hQ_cpA, hL_cpA, hn_cpA, hK_bump, hI_bump, hR_bump, hN_bump, hA_bump, hQ_bump, hL_bump, hn_bump, hI_sI, hR_sR, hA_sA, hQ_sQ, hL_sL, hA_cpA, isS, cat_int, cat_ref, cat_null, cat_ra, wds_nil, wds_int, wds_ref, wds_long, wds_ra, nz5, nz7, nz2, idxN, inAN, if_true, if_false, b00, b11, b01, eq_self, true_or, or_true, false_or, or_false, true_and, and_true, false_and, and_false, not_true, not_false_eq_true, Y_k0 c.y, Y_r98 c.y, Y_r96 c.y, k47, Y_n47 c.y, c.ct, q1, LS_k lb, LS_k c.l1, e9, e8]; done) | omega) only [iX6_undo_0, iX6_undo_1, iX6_undo_4, iX6_undo_7, iX6_undo_18, iX6_undo_19, iX6_undo_19i, iX6_undo_20, iX6_undo_23, iX6_undo_24, iX6_undo_25, iX6_undo_28, iX6_undo_29, iX6_undo_32, iX6_undo_33, iX6_undo_36, iX6_undo_37, iX6_undo_40, iX6_undo_41, ↓reduceIte, ofN, reduceCtorEq, Bool.false_eq_true, Nat.reduceAdd, Nat.reduceMul, Nat.reduceEqDiff, Nat.reduceLeDiff, Nat.reduceLT, le_nlt, ite_not, Nat.lt_irrefl, Decidable.not_not, kn1, kn0, knite, isS, getS, cat_int, cat_ref, cat_null, cat_ra, wds_nil, wds_int, wds_ref, wds_long, wds_ra, b0, b01, b00, b11, b10, if_true, if_false, ite_self, not_true, not_false_eq_true, true_or, or_true, false_or, or_false, true_and, and_true, false_and, and_false, eq_self, idxN, inAN, nI_add, nI_mul, nI_sub, nz5, nz7, nz2, nI_ltN, Nat.add_zero, Nat.zero_add, hK_sI, hR_sI, hN_sI, hA_sI, hQ_sI, hL_sI, hn_sI, hK_sR, hI_sR, hN_sR, hA_sR, hQ_sR, hL_sR, hn_sR, hK_sA, hI_sA, hR_sA, hN_sA, hQ_sA, hL_sA, hn_sA, hK_sQ, hI_sQ, hR_sQ, hN_sQ, hA_sQ, hL_sQ, hn_sQ, hK_sL, hI_sL, hR_sL, hN_sL, hA_sL, hQ_sL, hn_sL, hK_cpA, hI_cpA, hR_cpA, hN_cpA, hQ_cpA, hL_cpA, hn_cpA, hK_bump, hI_bump, hR_bump, hN_bump, hA_bump, hQ_bump, hL_bump, hn_bump, hI_sI, hR_sR, hA_sA, hQ_sQ, hL_sL, hA_cpA, Y_k0 c.y, Y_r98 c.y, Y_r96 c.y, k47, Y_n47 c.y, c.ct, q1, LS_k lb, LS_k c.l1, e9, e8]
  have f0 : Fr (fun i => i = 0) h (sI h 99 0 (nI k)) := Fr.wI Fr.rfl (by rfl)
  have Rk := Rl.fr (hsv k (by omega)) f0 (fun i h1 h2 h3 => by unfold isVb at hb; omega)
  refine Ev_call (s_copy (f0.st c.l1) (f0.st lb) Rk dj) ?_
  rintro _ ⟨h1, rfl, f1, R1⟩
  have f2 := f0.mono (T := fun i => i = 0 ∨ inSt 1 i) (fun i hi => Or.inl hi) |>.tr (f1.mono (fun i hi => Or.inr hi))
  have y1 := f2.y c.y
  have ct : hI h1 99 0 = nI k := by rw [f1.fi (fun z => by have := z.1; omega)]; simp [hI_sI]
  simp (disch := first | with_reducible assumption | exact cat_int | exact cat_ref | exact cat_null | exact cat_ra | exact Nat.le_of_ble_eq_true rfl | (simp (disch := omega) only [hK_sI, hR_sI, hN_sI, hA_sI, hQ_sI, hL_sI, hn_sI, hK_sR, hI_sR, hN_sR, hA_sR, hQ_sR, hL_sR, hn_sR, hK_sA, hI_sA, hR_sA, hN_sA, hQ_sA, hL_sA, hn_sA, hK_sQ, hI_sQ, hR_sQ, hN_sQ, hA_sQ, hL_sQ, hn_sQ, hK_sL, hI_sL, hR_sL, hN_sL, hA_sL, hQ_sL, hn_sL, hK_cpA, hI_cpA, hR_cpA, hN_cpA, hQ_cpA, hL_cpA, hn_cpA, hK_bump, hI_bump, hR_bump, hN_bump, hA_bump, hQ_bump, hL_bump, hn_bump, hI_sI, hR_sR, hA_sA, hQ_sQ, hL_sL, hA_cpA, isS, cat_int, cat_ref, cat_null, cat_ra, wds_nil, wds_int, wds_ref, wds_long, wds_ra, nz5, nz7, nz2, idxN, inAN, if_true, if_false, b00, b11, b01, eq_self, true_or, or_true, false_or, or_false, true_and, and_true, false_and, and_false, not_true, not_false_eq_true, Y_k0 y1, ct, Ev_some]; done) | omega) only [iX6_undo_44, iX6_undo_45, iX6_undo_48, ↓reduceIte, ofN, reduceCtorEq, Bool.false_eq_true, Nat.reduceAdd, Nat.reduceMul, Nat.reduceEqDiff, Nat.reduceLeDiff, Nat.reduceLT, le_nlt, ite_not, Nat.lt_irrefl, Decidable.not_not, kn1, kn0, knite, isS, getS, cat_int, cat_ref, cat_null, cat_ra, wds_nil, wds_int, wds_ref, wds_long, wds_ra, b0, b01, b00, b11, b10, if_true, if_false, ite_self, not_true, not_false_eq_true, true_or, or_true, false_or, or_false, true_and, and_true, false_and, and_false, eq_self, idxN, inAN, nI_add, nI_mul, nI_sub, nz5, nz7, nz2, nI_ltN, Nat.add_zero, Nat.zero_add, hK_sI, hR_sI, hN_sI, hA_sI, hQ_sI, hL_sI, hn_sI, hK_sR, hI_sR, hN_sR, hA_sR, hQ_sR, hL_sR, hn_sR, hK_sA, hI_sA, hR_sA, hN_sA, hQ_sA, hL_sA, hn_sA, hK_sQ, hI_sQ, hR_sQ, hN_sQ, hA_sQ, hL_sQ, hn_sQ, hK_sL, hI_sL, hR_sL, hN_sL, hA_sL, hQ_sL, hn_sL, hK_cpA, hI_cpA, hR_cpA, hN_cpA, hQ_cpA, hL_cpA, hn_cpA, hK_bump, hI_bump, hR_bump, hN_bump, hA_bump, hQ_bump, hL_bump, hn_bump, hI_sI, hR_sR, hA_sA, hQ_sQ, hL_sL, hA_cpA, Y_k0 y1, ct, Ev_some]
  refine ⟨h1, rfl, f2.c (fun i hi => ?_), f2.2.2.2.2.2.1, f2.2.2.2.2.2.2.1, y1, fun a ha => f2.st (c.2.1 a ha), R1, by omega, ct, ⟨f, ⟨fun i hi => ?_, hf.2⟩, fun i hi => ?_⟩, ?_, ?_, c.l9⟩
  · rcases hi with z | z
    · omega
    · have := z.2; omega
  · rw [f2.qq]; exact hf.1 i hi
  · refine Rl.fr (hsv i (by omega)) f2 (fun j h1 h2 z => ?_)
    have v := (hf.1 i (by omega)).2
    unfold isVb at v
    rcases z with z | z
    · omega
    · have := z.2; omega
  · rw [← c.txt]; funext j; exact f2.ar (fun z => by rcases z with z | z; omega; have := z.2; omega)
  · rw [f2.fi (fun z => by rcases z with z | z; omega; have := z.2; omega)]; exact c.le
theorem CR.fo {h2 : AH} {len2 : Nat} {tx2 : Rw} (c : CR h s m sv tx len) (f : Fr (fun i => 54 ≤ i ∧ i < 59) h h2) (e1 : hA h2 55 = tx2) (e2 : hI h2 17 54 = nI len2) (l9 : len2 ≤ 90) : CR h2 s m sv tx2 len2 := by
  obtain ⟨c1, c2, c3, c4, c5, ⟨g, c6, c7⟩, c8, c9, c10⟩ := c
  refine ⟨f.y c1, fun a ha => f.st (c2 a ha), Rl.fr c3 f (fun i h1 h2 z => by omega), c4, ?_, ⟨g, ⟨fun i hi => ?_, c6.2⟩, fun i hi => ?_⟩, e1, e2, l9⟩
  · rw [f.fi (fun z => by omega)]; exact c5
  · rw [f.qq]; exact c6.1 i hi
  · refine Rl.fr (c7 i hi) f (fun j h1 h2 z => ?_)
    have v := (c6.1 i (by omega)).2
    unfold isVb at v
    omega
end
