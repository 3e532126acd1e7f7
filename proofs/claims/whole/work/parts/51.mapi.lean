/-! THE MODEL'S FACE: calls that change the state -/
section
variable {r : Rw} {H P G n : Nat}
theorem hol_ok {x y : Int32} (ok : rowOK r H P G n) (hH : H < 6) : rowOK (holR r H x y) (H + 1) P G n := by
  obtain ⟨a1, a2, a3, a4, a5, a6, a7, a8, a9, a10, a11⟩ := ok
  have e : ∀ k, ¬ k = 9 + 2 * H → ¬ k = 10 + 2 * H → ¬ k = 2 → holR r H x y k = r k := by
    intro k h1 h2 h3
    unfold holR
    rw [if_neg h1, if_neg h2, if_neg h3]
  refine ⟨by omega, a2, a3, a4, ?_, ?_, ?_, ?_, ?_, fun p hp => ?_, fun g hg => ?_⟩
  · rw [e _ (by omega) (by omega) (by omega)]; exact a5
  · rw [e _ (by omega) (by omega) (by omega)]; exact a6
  · unfold holR
    rw [if_neg (by omega), if_neg (by omega), if_pos rfl]
  · rw [e _ (by omega) (by omega) (by omega)]; exact a8
  · rw [e _ (by omega) (by omega) (by omega)]; exact a9
  · rw [e _ (by omega) (by omega) (by omega)]; exact a10 p hp
  · rw [e _ (by omega) (by omega) (by omega)]; exact a11 g hg
theorem post_ok {x y : Int32} (ok : rowOK r H P G n) (hP : P < 8) (hx : ∃ u, u ≤ 99 ∧ x = nI u) : rowOK (postR r P x y) H (P + 1) G n := by
  obtain ⟨a1, a2, a3, a4, a5, a6, a7, a8, a9, a10, a11⟩ := ok
  have e : ∀ k, ¬ (21 + 9 * P ≤ k ∧ k < 30 + 9 * P) → ¬ k = 3 → postR r P x y k = r k := by
    intro k h1 h3
    unfold postR
    rw [if_neg h1, if_neg h3]
  refine ⟨a1, by omega, a3, a4, ?_, ?_, ?_, ?_, ?_, fun p hp => ?_, fun g hg => ?_⟩
  · rw [e _ (by omega) (by omega)]; exact a5
  · rw [e _ (by omega) (by omega)]; exact a6
  · rw [e _ (by omega) (by omega)]; exact a7
  · unfold postR
    rw [if_neg (by omega), if_pos rfl]
  · rw [e _ (by omega) (by omega)]; exact a9
  · by_cases c : p = P
    · subst c
      obtain ⟨u, hu, eu⟩ := hx
      refine ⟨u, hu, ?_⟩
      unfold postR
      rw [if_pos ⟨by omega, by omega⟩, show 21 + 9 * p - (21 + 9 * p) = 0 by omega, ← eu]
      rfl
    · rw [e _ (by omega) (by omega)]; exact a10 p (by omega)
  · rw [e _ (by omega) (by omega)]; exact a11 g hg
theorem guard_ok {x y z : Int32} (ok : rowOK r H P G n) (hG : G < 10) (hx : ∃ u, u ≤ 99 ∧ x = nI u) : rowOK (guardR r G x y z) H P (G + 1) n := by
  obtain ⟨a1, a2, a3, a4, a5, a6, a7, a8, a9, a10, a11⟩ := ok
  have e : ∀ k, ¬ (93 + 9 * G ≤ k ∧ k < 102 + 9 * G) → ¬ k = 4 → guardR r G x y z k = r k := by
    intro k h1 h3
    unfold guardR
    rw [if_neg (by omega), if_neg (by omega), if_neg (by omega), if_neg (by omega), if_neg h3]
  refine ⟨a1, a2, by omega, a4, ?_, ?_, ?_, ?_, ?_, fun p hp => ?_, fun g hg => ?_⟩
  · rw [e _ (by omega) (by omega)]; exact a5
  · rw [e _ (by omega) (by omega)]; exact a6
  · rw [e _ (by omega) (by omega)]; exact a7
  · rw [e _ (by omega) (by omega)]; exact a8
  · unfold guardR
    rw [if_neg (by omega), if_neg (by omega), if_neg (by omega), if_neg (by omega), if_pos rfl]
  · rw [e _ (by omega) (by omega)]; exact a10 p hp
  · by_cases c : g = G
    · subst c
      obtain ⟨u, hu, eu⟩ := hx
      refine ⟨u, hu, ?_⟩
      unfold guardR
      rw [if_pos rfl, eu]
    · rw [e _ (by omega) (by omega)]; exact a11 g (by omega)
theorem pu_ok {k : Nat} {v : Int32} (ok : rowOK r H P G n) (h5 : 5 ≤ k) (h1 : ∀ p, ¬ k = 21 + 9 * p ∨ 93 ≤ k) (h2 : ∀ g, ¬ k = 93 + 9 * g) : rowOK (pu r k v) H P G n := by
  have P8 := ok.2.1
  have e : ∀ j, ¬ j = k → pu r k v j = r j := fun j hj => if_neg hj
  refine ok.to (fun j hj => e j (by omega)) (fun p hp => e _ (fun z => ?_)) (fun g hg => e _ (fun z => h2 g z.symm))
  rcases h1 p with q | q
  · exact q z.symm
  · omega
theorem compl_ok {p : Nat} (ok : rowOK r H P G n) (hp : p < P) : rowOK (complR r p n) H P G n := by
  have P8 := ok.2.1
  have e : ∀ j, ¬ j = 8 → ¬ j = 24 + 9 * p → ¬ j = 27 + 9 * p → ¬ j = 26 + 9 * p → complR r p n j = r j := by
    intro j h1 h2 h3 h4
    unfold complR
    rw [if_neg h1, if_neg h2, if_neg h3, if_neg h4]
  exact ok.to (fun j hj => e j (by omega) (by omega) (by omega) (by omega)) (fun q hq => e _ (by omega) (by omega) (by omega) (by omega)) (fun g hg => e _ (by omega) (by omega) (by omega) (by omega))
end
section
variable {L : Nat} {xs : Nat → Int32} {h h1 h2 : AH} {s s' : SvT} {m m' len : Nat} {sv sv' : Nat → SvT} {tx : Rw} {r : Rw} {H P G n : Nat} {v : Option Value}
theorem OkM_th {k : Nat} (c : MR h s m sv tx len) : OkM h s m sv tx len v k (.inl (v, sI h 112 151 (nI k))) :=
  ⟨_, rfl, Fr.wI Fr.rfl (show inM 151 by unfold inM; omega), c.th, by rw [hI_sI, if_pos ⟨rfl, rfl⟩]⟩
theorem OkM_fin {S : Nat → Prop} (f1 : Fr inSv (sI h 112 151 (nI 0)) h1) (c1 : MR h1 s m' sv' tx len) (t1 : hI h1 112 151 = hI (sI h 112 151 (nI 0)) 112 151) (f2 : Fr S h1 h2) (hS : ∀ i, S i → inMb 152 i) (x2 : Mx h2 152 s'.1 s'.2.1 s'.2.2.1 s'.2.2.2.1 s'.2.2.2.2 none) : OkM h s' m' sv' tx len v 0 (.inl (v, h2)) := by
  have n151 : ¬ S 151 := fun z => by rcases hS _ z with q | q; exact mo151 q; omega
  have n154 : ¬ S 154 := fun z => by rcases hS _ z with q | q; have := q.1; omega; omega
  have n155 : ¬ S 155 := fun z => by rcases hS _ z with q | q; have := q.1; omega; omega
  have e1 : inM 151 := by unfold inM; omega
  refine ⟨h2, rfl, ((Fr.wI (S := inM) Fr.rfl e1).tr (f1.mono (fun i hi => ?_))).tr (f2.mono (fun i hi => ?_)), c1.set f2 x2 n151 n154 n155, ?_⟩
  · unfold inM; rcases hi with q | q <;> omega
  · unfold inM; rcases hS _ hi with q | q; have := q.1; omega; omega
  · rw [f2.fi n151, t1, hI_sI, if_pos ⟨rfl, rfl⟩]
theorem OkM_fi (f1 : Fr inSv (sI h 112 151 (nI 0)) h1) (c1 : MR h1 s m' sv' tx len) (t1 : hI h1 112 151 = hI (sI h 112 151 (nI 0)) 112 151) (f2 : Fr (fun i => i = 152) h1 h2) (ha : hA h2 152 = s'.1) (ok : rowOK s'.1 s'.2.1 s'.2.2.1 s'.2.2.2.1 s'.2.2.2.2) : OkM h s' m' sv' tx len v 0 (.inl (v, h2)) :=
  OkM_fin f1 c1 t1 f2 (fun i hi => Or.inr hi) ⟨f2.y c1.y, Or.inl (Eq.refl 152), ha, ok, by rw [f2.fi (by omega)]; exact c1.1.il⟩
theorem mb152 {i : Nat} (hi : i = 152) : inMb 152 i := Or.inr hi
theorem n0lt {k : Nat} (hk : k < 100) (h : 0 < k) : nI 0 < nI k := by rw [nI_ltN (by omega) (by omega)]; exact h
theorem b_addHoliday1 {x y : Int32} (c : MR h (r, H, P, G, n) m sv tx len) (e : ¬ ((nI 0 ≤ x ∧ x ≤ nI 3000) ∧ (x ≤ y ∧ y ≤ nI 3000))) : Ev (ev L xs mdX7_addHoliday 0 [.ref 151, .int x, .int y] [] h) (OkM h (r, H, P, G, n) m sv tx len (some (.int (nI 0))) 1) := by
  by_cases c1 : nI 0 ≤ x ∧ x ≤ nI 3000
  · have c2 : ¬ (x ≤ y ∧ y ≤ nI 3000) := fun z => e ⟨c1, z⟩
    simp only [le_nlt] at c1 c2
    simp (disch := first | with_reducible assumption | exact cat_int | exact cat_ref | exact cat_null | exact cat_ra | exact Nat.le_of_ble_eq_true rfl | (simp (disch := omega) only [hK_sI, hR_sI, hN_sI, hA_sI, hQ_sI, hL_sI, hn_sI, hK_sR, hI_sR, hN_sR, hA_sR, hQ_sR, hL_sR, hn_sR, hK_sA, hI_sA, hR_sA, hN_sA, hQ_sA, hL_sA, hn_sA, hK_sQ, hI_sQ, hR_sQ, hN_sQ, hA_sQ, hL_sQ, hn_sQ, hK_sL, hI_sL, hR_sL, hN_sL, hA_sL, hQ_sL, hn_sL, hK_cpA, hI_cpA, hR_cpA, hN_cpA, hQ_cpA, hL_cpA, hn_cpA, hK_bump, hI_bump, hR_bump, hN_bump, hA_bump, hQ_bump, hL_bump, hn_bump, hI_sI, hR_sR, hA_sA, hQ_sQ, hL_sL, hA_cpA, isS, cat_int, cat_ref, cat_null, cat_ra, wds_nil, wds_int, wds_ref, wds_long, wds_ra, nz5, nz7, nz2, idxN, inAN, if_true, if_false, b00, b11, b01, eq_self, true_or, or_true, false_or, or_false, true_and, and_true, false_and, and_false, not_true, not_false_eq_true, Y_k151 c.y, d_in, c1, c2, Ev_some]; done) | omega) only [iX7_addHoliday_0, iX7_addHoliday_1, iX7_addHoliday_2, iX7_addHoliday_3, iX7_addHoliday_6, iX7_addHoliday_9, iX7_addHoliday_12, iX7_addHoliday_13, iX7_addHoliday_14, iX7_addHoliday_17, iX7_addHoliday_20, iX7_addHoliday_23, iX7_addHoliday_24, iX7_addHoliday_27, iX7_addHoliday_28, iX7_addHoliday_31, iX7_addHoliday_32, iX7_addHoliday_33, iX7_addHoliday_35, iX7_addHoliday_38, iX7_addHoliday_39, iX7_addHoliday_42, iX7_addHoliday_43, iX7_addHoliday_46, iX7_addHoliday_47, iX7_addHoliday_50, iX7_addHoliday_53, iX7_addHoliday_54, ↓reduceIte, ofN, reduceCtorEq, Bool.false_eq_true, Nat.reduceAdd, Nat.reduceMul, Nat.reduceEqDiff, Nat.reduceLeDiff, Nat.reduceLT, le_nlt, ite_not, Nat.lt_irrefl, Decidable.not_not, kn1, kn0, knite, isS, getS, cat_int, cat_ref, cat_null, cat_ra, wds_nil, wds_int, wds_ref, wds_long, wds_ra, b0, b01, b00, b11, b10, if_true, if_false, ite_self, not_true, not_false_eq_true, true_or, or_true, false_or, or_false, true_and, and_true, false_and, and_false, eq_self, idxN, inAN, nI_add, nI_mul, nI_sub, nz5, nz7, nz2, nI_ltN, Nat.add_zero, Nat.zero_add, hK_sI, hR_sI, hN_sI, hA_sI, hQ_sI, hL_sI, hn_sI, hK_sR, hI_sR, hN_sR, hA_sR, hQ_sR, hL_sR, hn_sR, hK_sA, hI_sA, hR_sA, hN_sA, hQ_sA, hL_sA, hn_sA, hK_sQ, hI_sQ, hR_sQ, hN_sQ, hA_sQ, hL_sQ, hn_sQ, hK_sL, hI_sL, hR_sL, hN_sL, hA_sL, hQ_sL, hn_sL, hK_cpA, hI_cpA, hR_cpA, hN_cpA, hQ_cpA, hL_cpA, hn_cpA, hK_bump, hI_bump, hR_bump, hN_bump, hA_bump, hQ_bump, hL_bump, hn_bump, hI_sI, hR_sR, hA_sA, hQ_sQ, hL_sL, hA_cpA, Y_k151 c.y, d_in, c1, c2, Ev_some]
    exact OkM_th c
  · simp only [le_nlt] at c1
    simp (disch := first | with_reducible assumption | exact cat_int | exact cat_ref | exact cat_null | exact cat_ra | exact Nat.le_of_ble_eq_true rfl | (simp (disch := omega) only [hK_sI, hR_sI, hN_sI, hA_sI, hQ_sI, hL_sI, hn_sI, hK_sR, hI_sR, hN_sR, hA_sR, hQ_sR, hL_sR, hn_sR, hK_sA, hI_sA, hR_sA, hN_sA, hQ_sA, hL_sA, hn_sA, hK_sQ, hI_sQ, hR_sQ, hN_sQ, hA_sQ, hL_sQ, hn_sQ, hK_sL, hI_sL, hR_sL, hN_sL, hA_sL, hQ_sL, hn_sL, hK_cpA, hI_cpA, hR_cpA, hN_cpA, hQ_cpA, hL_cpA, hn_cpA, hK_bump, hI_bump, hR_bump, hN_bump, hA_bump, hQ_bump, hL_bump, hn_bump, hI_sI, hR_sR, hA_sA, hQ_sQ, hL_sL, hA_cpA, isS, cat_int, cat_ref, cat_null, cat_ra, wds_nil, wds_int, wds_ref, wds_long, wds_ra, nz5, nz7, nz2, idxN, inAN, if_true, if_false, b00, b11, b01, eq_self, true_or, or_true, false_or, or_false, true_and, and_true, false_and, and_false, not_true, not_false_eq_true, Y_k151 c.y, d_in, c1, Ev_some]; done) | omega) only [iX7_addHoliday_0, iX7_addHoliday_1, iX7_addHoliday_2, iX7_addHoliday_3, iX7_addHoliday_6, iX7_addHoliday_9, iX7_addHoliday_12, iX7_addHoliday_13, iX7_addHoliday_14, iX7_addHoliday_17, iX7_addHoliday_20, iX7_addHoliday_23, iX7_addHoliday_24, iX7_addHoliday_27, iX7_addHoliday_28, iX7_addHoliday_31, iX7_addHoliday_32, iX7_addHoliday_33, iX7_addHoliday_35, iX7_addHoliday_38, iX7_addHoliday_39, iX7_addHoliday_42, iX7_addHoliday_43, iX7_addHoliday_46, iX7_addHoliday_47, iX7_addHoliday_50, iX7_addHoliday_53, iX7_addHoliday_54, ↓reduceIte, ofN, reduceCtorEq, Bool.false_eq_true, Nat.reduceAdd, Nat.reduceMul, Nat.reduceEqDiff, Nat.reduceLeDiff, Nat.reduceLT, le_nlt, ite_not, Nat.lt_irrefl, Decidable.not_not, kn1, kn0, knite, isS, getS, cat_int, cat_ref, cat_null, cat_ra, wds_nil, wds_int, wds_ref, wds_long, wds_ra, b0, b01, b00, b11, b10, if_true, if_false, ite_self, not_true, not_false_eq_true, true_or, or_true, false_or, or_false, true_and, and_true, false_and, and_false, eq_self, idxN, inAN, nI_add, nI_mul, nI_sub, nz5, nz7, nz2, nI_ltN, Nat.add_zero, Nat.zero_add, hK_sI, hR_sI, hN_sI, hA_sI, hQ_sI, hL_sI, hn_sI, hK_sR, hI_sR, hN_sR, hA_sR, hQ_sR, hL_sR, hn_sR, hK_sA, hI_sA, hR_sA, hN_sA, hQ_sA, hL_sA, hn_sA, hK_sQ, hI_sQ, hR_sQ, hN_sQ, hA_sQ, hL_sQ, hn_sQ, hK_sL, hI_sL, hR_sL, hN_sL, hA_sL, hQ_sL, hn_sL, hK_cpA, hI_cpA, hR_cpA, hN_cpA, hQ_cpA, hL_cpA, hn_cpA, hK_bump, hI_bump, hR_bump, hN_bump, hA_bump, hQ_bump, hL_bump, hn_bump, hI_sI, hR_sR, hA_sA, hQ_sQ, hL_sL, hA_cpA, Y_k151 c.y, d_in, c1, Ev_some]
    exact OkM_th c
theorem b_addHoliday2 {x y : Int32} (c : MR h (r, H, P, G, n) m sv tx len) (e : (nI 0 ≤ x ∧ x ≤ nI 3000) ∧ (x ≤ y ∧ y ≤ nI 3000)) (e2 : H = 6) : Ev (ev L xs mdX7_addHoliday 0 [.ref 151, .int x, .int y] [] h) (OkM h (r, H, P, G, n) m sv tx len (some (.int (nI 0))) 2) := by
  have x' := c.x
  have x2 := x'.r2
  rw [e2] at x2
  obtain ⟨c1, c2⟩ := e
  simp only [le_nlt] at c1 c2
  simp (disch := first | with_reducible assumption | exact cat_int | exact cat_ref | exact cat_null | exact cat_ra | exact Nat.le_of_ble_eq_true rfl | (simp (disch := omega) only [hK_sI, hR_sI, hN_sI, hA_sI, hQ_sI, hL_sI, hn_sI, hK_sR, hI_sR, hN_sR, hA_sR, hQ_sR, hL_sR, hn_sR, hK_sA, hI_sA, hR_sA, hN_sA, hQ_sA, hL_sA, hn_sA, hK_sQ, hI_sQ, hR_sQ, hN_sQ, hA_sQ, hL_sQ, hn_sQ, hK_sL, hI_sL, hR_sL, hN_sL, hA_sL, hQ_sL, hn_sL, hK_cpA, hI_cpA, hR_cpA, hN_cpA, hQ_cpA, hL_cpA, hn_cpA, hK_bump, hI_bump, hR_bump, hN_bump, hA_bump, hQ_bump, hL_bump, hn_bump, hI_sI, hR_sR, hA_sA, hQ_sQ, hL_sL, hA_cpA, isS, cat_int, cat_ref, cat_null, cat_ra, wds_nil, wds_int, wds_ref, wds_long, wds_ra, nz5, nz7, nz2, idxN, inAN, if_true, if_false, b00, b11, b01, eq_self, true_or, or_true, false_or, or_false, true_and, and_true, false_and, and_false, not_true, not_false_eq_true, Y_k151 c.y, Y_r113 c.y, x'.k, x'.le, x'.a, x2, d_in, c1, c2, Ev_some]; done) | omega) only [iX7_addHoliday_0, iX7_addHoliday_1, iX7_addHoliday_2, iX7_addHoliday_3, iX7_addHoliday_6, iX7_addHoliday_9, iX7_addHoliday_12, iX7_addHoliday_13, iX7_addHoliday_14, iX7_addHoliday_17, iX7_addHoliday_20, iX7_addHoliday_23, iX7_addHoliday_24, iX7_addHoliday_27, iX7_addHoliday_28, iX7_addHoliday_31, iX7_addHoliday_32, iX7_addHoliday_33, iX7_addHoliday_35, iX7_addHoliday_38, iX7_addHoliday_39, iX7_addHoliday_42, iX7_addHoliday_43, iX7_addHoliday_46, iX7_addHoliday_47, iX7_addHoliday_50, iX7_addHoliday_53, iX7_addHoliday_54, ↓reduceIte, ofN, reduceCtorEq, Bool.false_eq_true, Nat.reduceAdd, Nat.reduceMul, Nat.reduceEqDiff, Nat.reduceLeDiff, Nat.reduceLT, le_nlt, ite_not, Nat.lt_irrefl, Decidable.not_not, kn1, kn0, knite, isS, getS, cat_int, cat_ref, cat_null, cat_ra, wds_nil, wds_int, wds_ref, wds_long, wds_ra, b0, b01, b00, b11, b10, if_true, if_false, ite_self, not_true, not_false_eq_true, true_or, or_true, false_or, or_false, true_and, and_true, false_and, and_false, eq_self, idxN, inAN, nI_add, nI_mul, nI_sub, nz5, nz7, nz2, nI_ltN, Nat.add_zero, Nat.zero_add, hK_sI, hR_sI, hN_sI, hA_sI, hQ_sI, hL_sI, hn_sI, hK_sR, hI_sR, hN_sR, hA_sR, hQ_sR, hL_sR, hn_sR, hK_sA, hI_sA, hR_sA, hN_sA, hQ_sA, hL_sA, hn_sA, hK_sQ, hI_sQ, hR_sQ, hN_sQ, hA_sQ, hL_sQ, hn_sQ, hK_sL, hI_sL, hR_sL, hN_sL, hA_sL, hQ_sL, hn_sL, hK_cpA, hI_cpA, hR_cpA, hN_cpA, hQ_cpA, hL_cpA, hn_cpA, hK_bump, hI_bump, hR_bump, hN_bump, hA_bump, hQ_bump, hL_bump, hn_bump, hI_sI, hR_sR, hA_sA, hQ_sQ, hL_sL, hA_cpA, Y_k151 c.y, Y_r113 c.y, x'.k, x'.le, x'.a, x2, d_in, c1, c2, Ev_some]
  exact OkM_th c
theorem b_addHoliday0 {x y : Int32} (c : MR h (r, H, P, G, n) m sv tx len) (e : (nI 0 ≤ x ∧ x ≤ nI 3000) ∧ (x ≤ y ∧ y ≤ nI 3000)) (e2 : H < 6) : Ev (ev L xs mdX7_addHoliday 0 [.ref 151, .int x, .int y] [] h) (OkM h (holR r H x y, H + 1, P, G, n) (pushN m) (push m sv (r, H, P, G, n)) tx len (some (.int (nI H))) 0) := by
  have x' := c.x
  have x2 : ¬ nI H = nI 6 := by rw [nI_eqN (by omega) (by omega)]; omega
  obtain ⟨c1, c2⟩ := e
  simp only [le_nlt] at c1 c2
  simp (disch := first | with_reducible assumption | exact cat_int | exact cat_ref | exact cat_null | exact cat_ra | exact Nat.le_of_ble_eq_true rfl | (simp (disch := omega) only [hK_sI, hR_sI, hN_sI, hA_sI, hQ_sI, hL_sI, hn_sI, hK_sR, hI_sR, hN_sR, hA_sR, hQ_sR, hL_sR, hn_sR, hK_sA, hI_sA, hR_sA, hN_sA, hQ_sA, hL_sA, hn_sA, hK_sQ, hI_sQ, hR_sQ, hN_sQ, hA_sQ, hL_sQ, hn_sQ, hK_sL, hI_sL, hR_sL, hN_sL, hA_sL, hQ_sL, hn_sL, hK_cpA, hI_cpA, hR_cpA, hN_cpA, hQ_cpA, hL_cpA, hn_cpA, hK_bump, hI_bump, hR_bump, hN_bump, hA_bump, hQ_bump, hL_bump, hn_bump, hI_sI, hR_sR, hA_sA, hQ_sQ, hL_sL, hA_cpA, isS, cat_int, cat_ref, cat_null, cat_ra, wds_nil, wds_int, wds_ref, wds_long, wds_ra, nz5, nz7, nz2, idxN, inAN, if_true, if_false, b00, b11, b01, eq_self, true_or, or_true, false_or, or_false, true_and, and_true, false_and, and_false, not_true, not_false_eq_true, Y_k151 c.y, Y_r113 c.y, x'.k, x'.le, x'.a, x'.r2, x2, d_in, c1, c2]; done) | omega) only [iX7_addHoliday_0, iX7_addHoliday_1, iX7_addHoliday_2, iX7_addHoliday_3, iX7_addHoliday_6, iX7_addHoliday_9, iX7_addHoliday_12, iX7_addHoliday_13, iX7_addHoliday_14, iX7_addHoliday_17, iX7_addHoliday_20, iX7_addHoliday_23, iX7_addHoliday_24, iX7_addHoliday_27, iX7_addHoliday_28, iX7_addHoliday_31, iX7_addHoliday_32, iX7_addHoliday_33, iX7_addHoliday_35, iX7_addHoliday_38, iX7_addHoliday_39, iX7_addHoliday_42, iX7_addHoliday_43, iX7_addHoliday_46, iX7_addHoliday_47, iX7_addHoliday_50, iX7_addHoliday_53, iX7_addHoliday_54, iX7_addHoliday_55, iX7_addHoliday_56, ↓reduceIte, ofN, reduceCtorEq, Bool.false_eq_true, Nat.reduceAdd, Nat.reduceMul, Nat.reduceEqDiff, Nat.reduceLeDiff, Nat.reduceLT, le_nlt, ite_not, Nat.lt_irrefl, Decidable.not_not, kn1, kn0, knite, isS, getS, cat_int, cat_ref, cat_null, cat_ra, wds_nil, wds_int, wds_ref, wds_long, wds_ra, b0, b01, b00, b11, b10, if_true, if_false, ite_self, not_true, not_false_eq_true, true_or, or_true, false_or, or_false, true_and, and_true, false_and, and_false, eq_self, idxN, inAN, nI_add, nI_mul, nI_sub, nz5, nz7, nz2, nI_ltN, Nat.add_zero, Nat.zero_add, hK_sI, hR_sI, hN_sI, hA_sI, hQ_sI, hL_sI, hn_sI, hK_sR, hI_sR, hN_sR, hA_sR, hQ_sR, hL_sR, hn_sR, hK_sA, hI_sA, hR_sA, hN_sA, hQ_sA, hL_sA, hn_sA, hK_sQ, hI_sQ, hR_sQ, hN_sQ, hA_sQ, hL_sQ, hn_sQ, hK_sL, hI_sL, hR_sL, hN_sL, hA_sL, hQ_sL, hn_sL, hK_cpA, hI_cpA, hR_cpA, hN_cpA, hQ_cpA, hL_cpA, hn_cpA, hK_bump, hI_bump, hR_bump, hN_bump, hA_bump, hQ_bump, hL_bump, hn_bump, hI_sI, hR_sR, hA_sA, hQ_sQ, hL_sL, hA_cpA, Y_k151 c.y, Y_r113 c.y, x'.k, x'.le, x'.a, x'.r2, x2, d_in, c1, c2]
  refine Ev_call (d_save c.th) ?_
  rintro _ ⟨h1, rfl, f1, k1, t1⟩
  have y1 := k1.y
  have x1 := k1.x
  have bk := x1.k
  have bl := x1.le
  have ba := x1.a
  have e9 : H + 1 - 1 = H := by omega
  have q2 := x1.r2
  simp (disch := first | with_reducible assumption | exact cat_int | exact cat_ref | exact cat_null | exact cat_ra | exact Nat.le_of_ble_eq_true rfl | (simp (disch := omega) only [hK_sI, hR_sI, hN_sI, hA_sI, hQ_sI, hL_sI, hn_sI, hK_sR, hI_sR, hN_sR, hA_sR, hQ_sR, hL_sR, hn_sR, hK_sA, hI_sA, hR_sA, hN_sA, hQ_sA, hL_sA, hn_sA, hK_sQ, hI_sQ, hR_sQ, hN_sQ, hA_sQ, hL_sQ, hn_sQ, hK_sL, hI_sL, hR_sL, hN_sL, hA_sL, hQ_sL, hn_sL, hK_cpA, hI_cpA, hR_cpA, hN_cpA, hQ_cpA, hL_cpA, hn_cpA, hK_bump, hI_bump, hR_bump, hN_bump, hA_bump, hQ_bump, hL_bump, hn_bump, hI_sI, hR_sR, hA_sA, hQ_sQ, hL_sL, hA_cpA, isS, cat_int, cat_ref, cat_null, cat_ra, wds_nil, wds_int, wds_ref, wds_long, wds_ra, nz5, nz7, nz2, idxN, inAN, if_true, if_false, b00, b11, b01, eq_self, true_or, or_true, false_or, or_false, true_and, and_true, false_and, and_false, not_true, not_false_eq_true, Y_k151 y1, Y_r113 y1, bk, bl, ba, q2, eqF, e9, Ev_some]; done) | omega) only [iX7_addHoliday_59, iX7_addHoliday_60, iX7_addHoliday_63, iX7_addHoliday_65, iX7_addHoliday_66, iX7_addHoliday_67, iX7_addHoliday_70, iX7_addHoliday_71, iX7_addHoliday_72, iX7_addHoliday_73, iX7_addHoliday_74, iX7_addHoliday_75, iX7_addHoliday_76, iX7_addHoliday_77, iX7_addHoliday_80, iX7_addHoliday_82, iX7_addHoliday_83, iX7_addHoliday_84, iX7_addHoliday_87, iX7_addHoliday_88, iX7_addHoliday_89, iX7_addHoliday_90, iX7_addHoliday_91, iX7_addHoliday_92, iX7_addHoliday_93, iX7_addHoliday_94, iX7_addHoliday_95, iX7_addHoliday_96, iX7_addHoliday_99, iX7_addHoliday_100, iX7_addHoliday_101, iX7_addHoliday_102, iX7_addHoliday_103, iX7_addHoliday_104, iX7_addHoliday_105, iX7_addHoliday_106, iX7_addHoliday_109, iX7_addHoliday_110, iX7_addHoliday_111, iX7_addHoliday_112, iX7_addHoliday_113, ↓reduceIte, ofN, reduceCtorEq, Bool.false_eq_true, Nat.reduceAdd, Nat.reduceMul, Nat.reduceEqDiff, Nat.reduceLeDiff, Nat.reduceLT, le_nlt, ite_not, Nat.lt_irrefl, Decidable.not_not, kn1, kn0, knite, isS, getS, cat_int, cat_ref, cat_null, cat_ra, wds_nil, wds_int, wds_ref, wds_long, wds_ra, b0, b01, b00, b11, b10, if_true, if_false, ite_self, not_true, not_false_eq_true, true_or, or_true, false_or, or_false, true_and, and_true, false_and, and_false, eq_self, idxN, inAN, nI_add, nI_mul, nI_sub, nz5, nz7, nz2, nI_ltN, Nat.add_zero, Nat.zero_add, hK_sI, hR_sI, hN_sI, hA_sI, hQ_sI, hL_sI, hn_sI, hK_sR, hI_sR, hN_sR, hA_sR, hQ_sR, hL_sR, hn_sR, hK_sA, hI_sA, hR_sA, hN_sA, hQ_sA, hL_sA, hn_sA, hK_sQ, hI_sQ, hR_sQ, hN_sQ, hA_sQ, hL_sQ, hn_sQ, hK_sL, hI_sL, hR_sL, hN_sL, hA_sL, hQ_sL, hn_sL, hK_cpA, hI_cpA, hR_cpA, hN_cpA, hQ_cpA, hL_cpA, hn_cpA, hK_bump, hI_bump, hR_bump, hN_bump, hA_bump, hQ_bump, hL_bump, hn_bump, hI_sI, hR_sR, hA_sA, hQ_sQ, hL_sL, hA_cpA, Y_k151 y1, Y_r113 y1, bk, bl, ba, q2, eqF, e9, Ev_some]
  refine OkM_fi f1 k1 t1 (by (repeat' (first | (with_reducible refine Fr.wI ?_ ?_) | (with_reducible refine Fr.wA ?_ ?_) | (with_reducible refine Fr.wC ?_ ?_))); all_goals first | (with_reducible exact Fr.rfl) | rfl | (show _ ∧ _; omega)) ?_ (hol_ok x1.ok e2)
  show hA _ 152 = holR r H x y
  rw [hA_pu, hA_pu, hA_pu, ba]
  funext k
  unfold pu holR
  repeat' split
  all_goals first
    | rfl
    | (exfalso; omega)
theorem b_addPost1 {x y : Int32} (c : MR h (r, H, P, G, n) m sv tx len) (e : ¬ ((nI 0 ≤ x ∧ x ≤ nI 99) ∧ (nI 0 ≤ y ∧ y ≤ nI 1023))) : Ev (ev L xs mdX7_addPost 0 [.ref 151, .int x, .int y, .null] [] h) (OkM h (r, H, P, G, n) m sv tx len (some (.int (nI 0))) 1) := by
  by_cases c1 : nI 0 ≤ x ∧ x ≤ nI 99
  · have c2 : ¬ (nI 0 ≤ y ∧ y ≤ nI 1023) := fun z => e ⟨c1, z⟩
    simp only [le_nlt] at c1 c2
    simp (disch := first | with_reducible assumption | exact cat_int | exact cat_ref | exact cat_null | exact cat_ra | exact Nat.le_of_ble_eq_true rfl | (simp (disch := omega) only [hK_sI, hR_sI, hN_sI, hA_sI, hQ_sI, hL_sI, hn_sI, hK_sR, hI_sR, hN_sR, hA_sR, hQ_sR, hL_sR, hn_sR, hK_sA, hI_sA, hR_sA, hN_sA, hQ_sA, hL_sA, hn_sA, hK_sQ, hI_sQ, hR_sQ, hN_sQ, hA_sQ, hL_sQ, hn_sQ, hK_sL, hI_sL, hR_sL, hN_sL, hA_sL, hQ_sL, hn_sL, hK_cpA, hI_cpA, hR_cpA, hN_cpA, hQ_cpA, hL_cpA, hn_cpA, hK_bump, hI_bump, hR_bump, hN_bump, hA_bump, hQ_bump, hL_bump, hn_bump, hI_sI, hR_sR, hA_sA, hQ_sQ, hL_sL, hA_cpA, isS, cat_int, cat_ref, cat_null, cat_ra, wds_nil, wds_int, wds_ref, wds_long, wds_ra, nz5, nz7, nz2, idxN, inAN, if_true, if_false, b00, b11, b01, eq_self, true_or, or_true, false_or, or_false, true_and, and_true, false_and, and_false, not_true, not_false_eq_true, Y_k151 c.y, d_in, c1, c2, Ev_some]; done) | omega) only [iX7_addPost_0, iX7_addPost_1, iX7_addPost_2, iX7_addPost_3, iX7_addPost_5, iX7_addPost_8, iX7_addPost_11, iX7_addPost_12, iX7_addPost_13, iX7_addPost_16, iX7_addPost_19, iX7_addPost_22, iX7_addPost_23, iX7_addPost_26, iX7_addPost_27, iX7_addPost_30, iX7_addPost_31, iX7_addPost_32, iX7_addPost_34, iX7_addPost_37, iX7_addPost_38, iX7_addPost_41, iX7_addPost_42, iX7_addPost_45, iX7_addPost_46, iX7_addPost_49, iX7_addPost_52, iX7_addPost_53, ↓reduceIte, ofN, reduceCtorEq, Bool.false_eq_true, Nat.reduceAdd, Nat.reduceMul, Nat.reduceEqDiff, Nat.reduceLeDiff, Nat.reduceLT, le_nlt, ite_not, Nat.lt_irrefl, Decidable.not_not, kn1, kn0, knite, isS, getS, cat_int, cat_ref, cat_null, cat_ra, wds_nil, wds_int, wds_ref, wds_long, wds_ra, b0, b01, b00, b11, b10, if_true, if_false, ite_self, not_true, not_false_eq_true, true_or, or_true, false_or, or_false, true_and, and_true, false_and, and_false, eq_self, idxN, inAN, nI_add, nI_mul, nI_sub, nz5, nz7, nz2, nI_ltN, Nat.add_zero, Nat.zero_add, hK_sI, hR_sI, hN_sI, hA_sI, hQ_sI, hL_sI, hn_sI, hK_sR, hI_sR, hN_sR, hA_sR, hQ_sR, hL_sR, hn_sR, hK_sA, hI_sA, hR_sA, hN_sA, hQ_sA, hL_sA, hn_sA, hK_sQ, hI_sQ, hR_sQ, hN_sQ, hA_sQ, hL_sQ, hn_sQ, hK_sL, hI_sL, hR_sL, hN_sL, hA_sL, hQ_sL, hn_sL, hK_cpA, hI_cpA, hR_cpA, hN_cpA, hQ_cpA, hL_cpA, hn_cpA, hK_bump, hI_bump, hR_bump, hN_bump, hA_bump, hQ_bump, hL_bump, hn_bump, hI_sI, hR_sR, hA_sA, hQ_sQ, hL_sL, hA_cpA, Y_k151 c.y, d_in, c1, c2, Ev_some]
    exact OkM_th c
  · simp only [le_nlt] at c1
    simp (disch := first | with_reducible assumption | exact cat_int | exact cat_ref | exact cat_null | exact cat_ra | exact Nat.le_of_ble_eq_true rfl | (simp (disch := omega) only [hK_sI, hR_sI, hN_sI, hA_sI, hQ_sI, hL_sI, hn_sI, hK_sR, hI_sR, hN_sR, hA_sR, hQ_sR, hL_sR, hn_sR, hK_sA, hI_sA, hR_sA, hN_sA, hQ_sA, hL_sA, hn_sA, hK_sQ, hI_sQ, hR_sQ, hN_sQ, hA_sQ, hL_sQ, hn_sQ, hK_sL, hI_sL, hR_sL, hN_sL, hA_sL, hQ_sL, hn_sL, hK_cpA, hI_cpA, hR_cpA, hN_cpA, hQ_cpA, hL_cpA, hn_cpA, hK_bump, hI_bump, hR_bump, hN_bump, hA_bump, hQ_bump, hL_bump, hn_bump, hI_sI, hR_sR, hA_sA, hQ_sQ, hL_sL, hA_cpA, isS, cat_int, cat_ref, cat_null, cat_ra, wds_nil, wds_int, wds_ref, wds_long, wds_ra, nz5, nz7, nz2, idxN, inAN, if_true, if_false, b00, b11, b01, eq_self, true_or, or_true, false_or, or_false, true_and, and_true, false_and, and_false, not_true, not_false_eq_true, Y_k151 c.y, d_in, c1, Ev_some]; done) | omega) only [iX7_addPost_0, iX7_addPost_1, iX7_addPost_2, iX7_addPost_3, iX7_addPost_5, iX7_addPost_8, iX7_addPost_11, iX7_addPost_12, iX7_addPost_13, iX7_addPost_16, iX7_addPost_19, iX7_addPost_22, iX7_addPost_23, iX7_addPost_26, iX7_addPost_27, iX7_addPost_30, iX7_addPost_31, iX7_addPost_32, iX7_addPost_34, iX7_addPost_37, iX7_addPost_38, iX7_addPost_41, iX7_addPost_42, iX7_addPost_45, iX7_addPost_46, iX7_addPost_49, iX7_addPost_52, iX7_addPost_53, ↓reduceIte, ofN, reduceCtorEq, Bool.false_eq_true, Nat.reduceAdd, Nat.reduceMul, Nat.reduceEqDiff, Nat.reduceLeDiff, Nat.reduceLT, le_nlt, ite_not, Nat.lt_irrefl, Decidable.not_not, kn1, kn0, knite, isS, getS, cat_int, cat_ref, cat_null, cat_ra, wds_nil, wds_int, wds_ref, wds_long, wds_ra, b0, b01, b00, b11, b10, if_true, if_false, ite_self, not_true, not_false_eq_true, true_or, or_true, false_or, or_false, true_and, and_true, false_and, and_false, eq_self, idxN, inAN, nI_add, nI_mul, nI_sub, nz5, nz7, nz2, nI_ltN, Nat.add_zero, Nat.zero_add, hK_sI, hR_sI, hN_sI, hA_sI, hQ_sI, hL_sI, hn_sI, hK_sR, hI_sR, hN_sR, hA_sR, hQ_sR, hL_sR, hn_sR, hK_sA, hI_sA, hR_sA, hN_sA, hQ_sA, hL_sA, hn_sA, hK_sQ, hI_sQ, hR_sQ, hN_sQ, hA_sQ, hL_sQ, hn_sQ, hK_sL, hI_sL, hR_sL, hN_sL, hA_sL, hQ_sL, hn_sL, hK_cpA, hI_cpA, hR_cpA, hN_cpA, hQ_cpA, hL_cpA, hn_cpA, hK_bump, hI_bump, hR_bump, hN_bump, hA_bump, hQ_bump, hL_bump, hn_bump, hI_sI, hR_sR, hA_sA, hQ_sQ, hL_sL, hA_cpA, Y_k151 c.y, d_in, c1, Ev_some]
    exact OkM_th c
theorem b_addPost2 {x y : Int32} (c : MR h (r, H, P, G, n) m sv tx len) (e : (nI 0 ≤ x ∧ x ≤ nI 99) ∧ (nI 0 ≤ y ∧ y ≤ nI 1023)) (e2 : P = 8) : Ev (ev L xs mdX7_addPost 0 [.ref 151, .int x, .int y, .null] [] h) (OkM h (r, H, P, G, n) m sv tx len (some (.int (nI 0))) 2) := by
  have x' := c.x
  have x2 := x'.r3
  rw [e2] at x2
  obtain ⟨c1, c2⟩ := e
  simp only [le_nlt] at c1 c2
  simp (disch := first | with_reducible assumption | exact cat_int | exact cat_ref | exact cat_null | exact cat_ra | exact Nat.le_of_ble_eq_true rfl | (simp (disch := omega) only [hK_sI, hR_sI, hN_sI, hA_sI, hQ_sI, hL_sI, hn_sI, hK_sR, hI_sR, hN_sR, hA_sR, hQ_sR, hL_sR, hn_sR, hK_sA, hI_sA, hR_sA, hN_sA, hQ_sA, hL_sA, hn_sA, hK_sQ, hI_sQ, hR_sQ, hN_sQ, hA_sQ, hL_sQ, hn_sQ, hK_sL, hI_sL, hR_sL, hN_sL, hA_sL, hQ_sL, hn_sL, hK_cpA, hI_cpA, hR_cpA, hN_cpA, hQ_cpA, hL_cpA, hn_cpA, hK_bump, hI_bump, hR_bump, hN_bump, hA_bump, hQ_bump, hL_bump, hn_bump, hI_sI, hR_sR, hA_sA, hQ_sQ, hL_sL, hA_cpA, isS, cat_int, cat_ref, cat_null, cat_ra, wds_nil, wds_int, wds_ref, wds_long, wds_ra, nz5, nz7, nz2, idxN, inAN, if_true, if_false, b00, b11, b01, eq_self, true_or, or_true, false_or, or_false, true_and, and_true, false_and, and_false, not_true, not_false_eq_true, Y_k151 c.y, Y_r113 c.y, x'.k, x'.le, x'.a, x2, d_in, c1, c2, Ev_some]; done) | omega) only [iX7_addPost_0, iX7_addPost_1, iX7_addPost_2, iX7_addPost_3, iX7_addPost_5, iX7_addPost_8, iX7_addPost_11, iX7_addPost_12, iX7_addPost_13, iX7_addPost_16, iX7_addPost_19, iX7_addPost_22, iX7_addPost_23, iX7_addPost_26, iX7_addPost_27, iX7_addPost_30, iX7_addPost_31, iX7_addPost_32, iX7_addPost_34, iX7_addPost_37, iX7_addPost_38, iX7_addPost_41, iX7_addPost_42, iX7_addPost_45, iX7_addPost_46, iX7_addPost_49, iX7_addPost_52, iX7_addPost_53, ↓reduceIte, ofN, reduceCtorEq, Bool.false_eq_true, Nat.reduceAdd, Nat.reduceMul, Nat.reduceEqDiff, Nat.reduceLeDiff, Nat.reduceLT, le_nlt, ite_not, Nat.lt_irrefl, Decidable.not_not, kn1, kn0, knite, isS, getS, cat_int, cat_ref, cat_null, cat_ra, wds_nil, wds_int, wds_ref, wds_long, wds_ra, b0, b01, b00, b11, b10, if_true, if_false, ite_self, not_true, not_false_eq_true, true_or, or_true, false_or, or_false, true_and, and_true, false_and, and_false, eq_self, idxN, inAN, nI_add, nI_mul, nI_sub, nz5, nz7, nz2, nI_ltN, Nat.add_zero, Nat.zero_add, hK_sI, hR_sI, hN_sI, hA_sI, hQ_sI, hL_sI, hn_sI, hK_sR, hI_sR, hN_sR, hA_sR, hQ_sR, hL_sR, hn_sR, hK_sA, hI_sA, hR_sA, hN_sA, hQ_sA, hL_sA, hn_sA, hK_sQ, hI_sQ, hR_sQ, hN_sQ, hA_sQ, hL_sQ, hn_sQ, hK_sL, hI_sL, hR_sL, hN_sL, hA_sL, hQ_sL, hn_sL, hK_cpA, hI_cpA, hR_cpA, hN_cpA, hQ_cpA, hL_cpA, hn_cpA, hK_bump, hI_bump, hR_bump, hN_bump, hA_bump, hQ_bump, hL_bump, hn_bump, hI_sI, hR_sR, hA_sA, hQ_sQ, hL_sL, hA_cpA, Y_k151 c.y, Y_r113 c.y, x'.k, x'.le, x'.a, x2, d_in, c1, c2, Ev_some]
  exact OkM_th c
theorem post_fun {x y : Int32} (hP : P < 8) : pu (pu (pu (pu (pu (pu (pu (pu (pu (pu r 3 (nI (P + 1))) (21 + 9 * P) x) (22 + 9 * P) y) (23 + 9 * P) (nI 0)) (24 + 9 * P) (nI 0)) (25 + 9 * P) (-1)) (26 + 9 * P) (nI 0)) (27 + 9 * P) (-1)) (28 + 9 * P) (-1)) (29 + 9 * P) (nI 0) = postR r P x y := by
  funext k
  unfold postR
  by_cases hk : 21 + 9 * P ≤ k ∧ k < 30 + 9 * P
  · rw [if_pos hk]
    obtain ⟨j, rfl⟩ : ∃ j, k = 21 + 9 * P + j := ⟨k - (21 + 9 * P), by omega⟩
    rw [show 21 + 9 * P + j - (21 + 9 * P) = j by omega]
    have hj : j < 9 := by omega
    have w : ∀ c, 21 + c + 9 * P = 21 + 9 * P + c := fun c => by omega
    have w1 := w 1
    have w2 := w 2
    have w3 := w 3
    have w4 := w 4
    have w5 := w 5
    have w6 := w 6
    have w7 := w 7
    have w8 := w 8
    simp only [Nat.reduceAdd] at w1 w2 w3 w4 w5 w6 w7 w8
    rw [w1, w2, w3, w4, w5, w6, w7, w8]
    clear hk
    revert j
    refine lt9 ?_ ?_ ?_ ?_ ?_ ?_ ?_ ?_ ?_ <;> simp [pu, pNew, sw] <;> omega
  · rw [if_neg hk]
    unfold pu
    rw [if_neg (by omega), if_neg (by omega), if_neg (by omega), if_neg (by omega), if_neg (by omega), if_neg (by omega), if_neg (by omega), if_neg (by omega), if_neg (by omega)]
theorem b_addPost0 {x y : Int32} (c : MR h (r, H, P, G, n) m sv tx len) (e : (nI 0 ≤ x ∧ x ≤ nI 99) ∧ (nI 0 ≤ y ∧ y ≤ nI 1023)) (e2 : P < 8) : Ev (ev L xs mdX7_addPost 0 [.ref 151, .int x, .int y, .null] [] h) (OkM h (postR r P x y, H, P + 1, G, n) (pushN m) (push m sv (r, H, P, G, n)) tx len (some (.int (nI P))) 0) := by
  have x' := c.x
  have x2 : ¬ nI P = nI 8 := by rw [nI_eqN (by omega) (by omega)]; omega
  obtain ⟨c1, c2⟩ := e
  obtain ⟨u, _, hu, eu⟩ := i32_rng (by omega) (by omega) c1.1 c1.2
  simp only [le_nlt] at c1 c2
  simp (disch := first | with_reducible assumption | exact cat_int | exact cat_ref | exact cat_null | exact cat_ra | exact Nat.le_of_ble_eq_true rfl | (simp (disch := omega) only [hK_sI, hR_sI, hN_sI, hA_sI, hQ_sI, hL_sI, hn_sI, hK_sR, hI_sR, hN_sR, hA_sR, hQ_sR, hL_sR, hn_sR, hK_sA, hI_sA, hR_sA, hN_sA, hQ_sA, hL_sA, hn_sA, hK_sQ, hI_sQ, hR_sQ, hN_sQ, hA_sQ, hL_sQ, hn_sQ, hK_sL, hI_sL, hR_sL, hN_sL, hA_sL, hQ_sL, hn_sL, hK_cpA, hI_cpA, hR_cpA, hN_cpA, hQ_cpA, hL_cpA, hn_cpA, hK_bump, hI_bump, hR_bump, hN_bump, hA_bump, hQ_bump, hL_bump, hn_bump, hI_sI, hR_sR, hA_sA, hQ_sQ, hL_sL, hA_cpA, isS, cat_int, cat_ref, cat_null, cat_ra, wds_nil, wds_int, wds_ref, wds_long, wds_ra, nz5, nz7, nz2, idxN, inAN, if_true, if_false, b00, b11, b01, eq_self, true_or, or_true, false_or, or_false, true_and, and_true, false_and, and_false, not_true, not_false_eq_true, Y_k151 c.y, Y_r113 c.y, x'.k, x'.le, x'.a, x'.r3, x2, d_in, c1, c2]; done) | omega) only [iX7_addPost_0, iX7_addPost_1, iX7_addPost_2, iX7_addPost_3, iX7_addPost_5, iX7_addPost_8, iX7_addPost_11, iX7_addPost_12, iX7_addPost_13, iX7_addPost_16, iX7_addPost_19, iX7_addPost_22, iX7_addPost_23, iX7_addPost_26, iX7_addPost_27, iX7_addPost_30, iX7_addPost_31, iX7_addPost_32, iX7_addPost_34, iX7_addPost_37, iX7_addPost_38, iX7_addPost_41, iX7_addPost_42, iX7_addPost_45, iX7_addPost_46, iX7_addPost_49, iX7_addPost_52, iX7_addPost_53, iX7_addPost_54, iX7_addPost_55, ↓reduceIte, ofN, reduceCtorEq, Bool.false_eq_true, Nat.reduceAdd, Nat.reduceMul, Nat.reduceEqDiff, Nat.reduceLeDiff, Nat.reduceLT, le_nlt, ite_not, Nat.lt_irrefl, Decidable.not_not, kn1, kn0, knite, isS, getS, cat_int, cat_ref, cat_null, cat_ra, wds_nil, wds_int, wds_ref, wds_long, wds_ra, b0, b01, b00, b11, b10, if_true, if_false, ite_self, not_true, not_false_eq_true, true_or, or_true, false_or, or_false, true_and, and_true, false_and, and_false, eq_self, idxN, inAN, nI_add, nI_mul, nI_sub, nz5, nz7, nz2, nI_ltN, Nat.add_zero, Nat.zero_add, hK_sI, hR_sI, hN_sI, hA_sI, hQ_sI, hL_sI, hn_sI, hK_sR, hI_sR, hN_sR, hA_sR, hQ_sR, hL_sR, hn_sR, hK_sA, hI_sA, hR_sA, hN_sA, hQ_sA, hL_sA, hn_sA, hK_sQ, hI_sQ, hR_sQ, hN_sQ, hA_sQ, hL_sQ, hn_sQ, hK_sL, hI_sL, hR_sL, hN_sL, hA_sL, hQ_sL, hn_sL, hK_cpA, hI_cpA, hR_cpA, hN_cpA, hQ_cpA, hL_cpA, hn_cpA, hK_bump, hI_bump, hR_bump, hN_bump, hA_bump, hQ_bump, hL_bump, hn_bump, hI_sI, hR_sR, hA_sA, hQ_sQ, hL_sL, hA_cpA, Y_k151 c.y, Y_r113 c.y, x'.k, x'.le, x'.a, x'.r3, x2, d_in, c1, c2]
  refine Ev_call (d_save c.th) ?_
  rintro _ ⟨h1, rfl, f1, k1, t1⟩
  have y1 := k1.y
  have x1 := k1.x
  have bk := x1.k
  have bl := x1.le
  have ba := x1.a
  have q3 := x1.r3
  simp (disch := first | with_reducible assumption | exact cat_int | exact cat_ref | exact cat_null | exact cat_ra | exact Nat.le_of_ble_eq_true rfl | (simp (disch := omega) only [hK_sI, hR_sI, hN_sI, hA_sI, hQ_sI, hL_sI, hn_sI, hK_sR, hI_sR, hN_sR, hA_sR, hQ_sR, hL_sR, hn_sR, hK_sA, hI_sA, hR_sA, hN_sA, hQ_sA, hL_sA, hn_sA, hK_sQ, hI_sQ, hR_sQ, hN_sQ, hA_sQ, hL_sQ, hn_sQ, hK_sL, hI_sL, hR_sL, hN_sL, hA_sL, hQ_sL, hn_sL, hK_cpA, hI_cpA, hR_cpA, hN_cpA, hQ_cpA, hL_cpA, hn_cpA, hK_bump, hI_bump, hR_bump, hN_bump, hA_bump, hQ_bump, hL_bump, hn_bump, hI_sI, hR_sR, hA_sA, hQ_sQ, hL_sL, hA_cpA, isS, cat_int, cat_ref, cat_null, cat_ra, wds_nil, wds_int, wds_ref, wds_long, wds_ra, nz5, nz7, nz2, idxN, inAN, if_true, if_false, b00, b11, b01, eq_self, true_or, or_true, false_or, or_false, true_and, and_true, false_and, and_false, not_true, not_false_eq_true, Y_k151 y1, Y_r113 y1, bk, bl, ba, q3, eqF, e2, d_put0, d_put1, d_put2, d_put3, d_put4, d_put5, d_put6, d_put7, d_put8, Ev_some]; done) | omega) only [iX7_addPost_58, iX7_addPost_59, iX7_addPost_62, iX7_addPost_63, iX7_addPost_64, iX7_addPost_65, iX7_addPost_66, iX7_addPost_69, iX7_addPost_70, iX7_addPost_71, iX7_addPost_72, iX7_addPost_73, iX7_addPost_74, iX7_addPost_75, iX7_addPost_76, iX7_addPost_79, iX7_addPost_80, iX7_addPost_81, iX7_addPost_82, iX7_addPost_85, iX7_addPost_86, iX7_addPost_89, iX7_addPost_90, iX7_addPost_91, iX7_addPost_92, iX7_addPost_95, iX7_addPost_96, iX7_addPost_99, iX7_addPost_100, iX7_addPost_101, iX7_addPost_102, iX7_addPost_105, iX7_addPost_106, iX7_addPost_109, iX7_addPost_110, iX7_addPost_111, iX7_addPost_112, iX7_addPost_115, iX7_addPost_116, iX7_addPost_119, iX7_addPost_120, iX7_addPost_121, iX7_addPost_122, iX7_addPost_125, iX7_addPost_126, iX7_addPost_129, iX7_addPost_130, iX7_addPost_131, iX7_addPost_132, iX7_addPost_135, iX7_addPost_136, iX7_addPost_139, iX7_addPost_140, iX7_addPost_142, iX7_addPost_143, iX7_addPost_146, iX7_addPost_147, iX7_addPost_150, iX7_addPost_151, iX7_addPost_153, iX7_addPost_154, iX7_addPost_157, iX7_addPost_158, iX7_addPost_161, iX7_addPost_162, iX7_addPost_164, iX7_addPost_165, iX7_addPost_168, iX7_addPost_169, ↓reduceIte, ofN, reduceCtorEq, Bool.false_eq_true, Nat.reduceAdd, Nat.reduceMul, Nat.reduceEqDiff, Nat.reduceLeDiff, Nat.reduceLT, le_nlt, ite_not, Nat.lt_irrefl, Decidable.not_not, kn1, kn0, knite, isS, getS, cat_int, cat_ref, cat_null, cat_ra, wds_nil, wds_int, wds_ref, wds_long, wds_ra, b0, b01, b00, b11, b10, if_true, if_false, ite_self, not_true, not_false_eq_true, true_or, or_true, false_or, or_false, true_and, and_true, false_and, and_false, eq_self, idxN, inAN, nI_add, nI_mul, nI_sub, nz5, nz7, nz2, nI_ltN, Nat.add_zero, Nat.zero_add, hK_sI, hR_sI, hN_sI, hA_sI, hQ_sI, hL_sI, hn_sI, hK_sR, hI_sR, hN_sR, hA_sR, hQ_sR, hL_sR, hn_sR, hK_sA, hI_sA, hR_sA, hN_sA, hQ_sA, hL_sA, hn_sA, hK_sQ, hI_sQ, hR_sQ, hN_sQ, hA_sQ, hL_sQ, hn_sQ, hK_sL, hI_sL, hR_sL, hN_sL, hA_sL, hQ_sL, hn_sL, hK_cpA, hI_cpA, hR_cpA, hN_cpA, hQ_cpA, hL_cpA, hn_cpA, hK_bump, hI_bump, hR_bump, hN_bump, hA_bump, hQ_bump, hL_bump, hn_bump, hI_sI, hR_sR, hA_sA, hQ_sQ, hL_sL, hA_cpA, Y_k151 y1, Y_r113 y1, bk, bl, ba, q3, eqF, e2, d_put0, d_put1, d_put2, d_put3, d_put4, d_put5, d_put6, d_put7, d_put8, Ev_some]
  refine OkM_fi f1 k1 t1 (by (repeat' (first | (with_reducible refine Fr.wI ?_ ?_) | (with_reducible refine Fr.wA ?_ ?_) | (with_reducible refine Fr.wC ?_ ?_))); all_goals first | (with_reducible exact Fr.rfl) | rfl | (show _ ∧ _; omega)) ?_ (post_ok x1.ok e2 ⟨u, hu, eu⟩)
  show hA _ 152 = postR r P x y
  rw [hA_pu, hA_pu, hA_pu, hA_pu, hA_pu, hA_pu, hA_pu, hA_pu, hA_pu, hA_pu, ba]
  exact post_fun e2
end
